/-! draws: both sides -/
section SDA
/-- the seed behind a draw -/
def sdN (x : Int) : Int := (1103515245 * x + 12345) % 2147483648
/-- a draw of m -/
def drw (x m : Int) : Int := (sdN x / 64) % m
theorem sdN_b (x : Int) : 0 ≤ sdN x ∧ sdN x < 2147483648 := by
  unfold sdN
  omega
theorem drw_b {x m : Int} (m1 : 1 ≤ m) : 0 ≤ drw x m ∧ drw x m < m := ⟨Int.emod_nonneg _ (by omega), Int.emod_lt_of_pos _ (by omega)⟩
/-- the lantern that lights nothing, the seed behind it -/
def dkN (Q : Qd) (x : Int) : Int × Int := if drw x 100 < Qa Q ∧ 0 < thN Q then (drw (sdN x) (thN Q), sdN (sdN x)) else (-1, sdN x)
theorem dkN_y {Q : Qd} {x : Int} (hh : drw x 100 < Qa Q ∧ 0 < thN Q) : dkN Q x = (drw (sdN x) (thN Q), sdN (sdN x)) := if_pos hh
theorem dkN_n {Q : Qd} {x : Int} (hh : ¬ (drw x 100 < Qa Q ∧ 0 < thN Q)) : dkN Q x = (-1, sdN x) := if_neg hh
theorem q_lin {a : Int64} (a0 : 0 ≤ a.toInt) (a1 : a.toInt < 2147483648) : ((1103515245 : Int64) * a + 12345).toInt = 1103515245 * a.toInt + 12345 := by
  have z1 : (1103515245 : Int64).toInt = 1103515245 := rfl
  have z2 : (12345 : Int64).toInt = 12345 := rfl
  have e1 : (1103515245 * a.toInt).bmod (2 ^ 64) = 1103515245 * a.toInt := Int.bmod_eq_of_le (by omega) (by omega)
  rw [Int64.toInt_add, Int64.toInt_mul, z1, z2, e1]
  exact Int.bmod_eq_of_le (by omega) (by omega)
theorem q_msk {y : Int64} (y0 : 0 ≤ y.toInt) : (y &&& 2147483647).toInt = y.toInt % 2147483648 := by
  have e : y.toBitVec.toInt = y.toInt := rfl
  have k := BitVec.toInt_eq_toNat_cond y.toBitVec
  have l := y.toBitVec.isLt
  have n : (y.toBitVec.toNat : Int) = y.toInt := by
    rw [e] at k
    split at k <;> omega
  have z : ((2147483647 : Int64).toBitVec).toNat = 2147483647 := rfl
  have m : (y &&& 2147483647).toBitVec.toNat = y.toBitVec.toNat % 2147483648 := by
    rw [Int64.toBitVec_and, BitVec.toNat_and, z]
    exact Nat.and_two_pow_sub_one_eq_mod _ 31
  have c := BitVec.toInt_eq_toNat_cond (y &&& 2147483647).toBitVec
  have e2 : (y &&& 2147483647).toBitVec.toInt = (y &&& 2147483647).toInt := rfl
  rw [e2, m] at c
  split at c <;> omega
theorem q_dvp {y c : Int64} (y0 : 0 ≤ y.toInt) (c1 : 1 ≤ c.toInt) : (y / c).toInt = y.toInt / c.toInt := by
  have l := Int64.toInt_lt y
  have d0 : 0 ≤ y.toInt / c.toInt := Int.ediv_nonneg y0 (by omega)
  have d1 : y.toInt / c.toInt ≤ y.toInt := Int.ediv_le_self _ y0
  rw [Int64.toInt_div, Int.tdiv_eq_ediv_of_nonneg y0]
  exact Int.bmod_eq_of_le (by omega) (by omega)
theorem q_rmp {y c : Int64} (y0 : 0 ≤ y.toInt) (c1 : 1 ≤ c.toInt) : (y - y / c * c).toInt = y.toInt % c.toInt := by
  have l := Int64.toInt_lt y
  have d := q_dvp y0 c1
  have d0 : 0 ≤ y.toInt / c.toInt := Int.ediv_nonneg y0 (by omega)
  have p0 : 0 ≤ y.toInt / c.toInt * c.toInt := Int.mul_nonneg d0 (by omega)
  have p1 : y.toInt / c.toInt * c.toInt ≤ y.toInt := Int.ediv_mul_le _ (by omega)
  have m : (y / c * c).toInt = y.toInt / c.toInt * c.toInt := by
    rw [Int64.toInt_mul, d]
    exact Int.bmod_eq_of_le (by omega) (by omega)
  rw [Int64.toInt_sub, m, Int.emod_def, Int.mul_comm c.toInt]
  exact Int.bmod_eq_of_le (by omega) (by omega)
theorem q_i32 {y : Int64} (y0 : 0 ≤ y.toInt) (y1 : y.toInt < 2147483648) : (y.toInt32).toInt = y.toInt := by
  rw [Int64.toInt_toInt32]
  exact Int.bmod_eq_of_le (by omega) (by omega)
theorem sh_6 {x : Int32} (x0 : 0 ≤ x.toInt) : (x >>> ((6 : Int32) &&& 31)).toInt = x.toInt / 64 := by
  have e : (x >>> ((6 : Int32) &&& 31)).toBitVec = x.toBitVec.sshiftRight 6 := by
    rw [Int32.toBitVec_shiftRight]
    rfl
  show (x >>> ((6 : Int32) &&& 31)).toBitVec.toInt = _
  rw [e, BitVec.toInt_sshiftRight, Int.shiftRight_eq_div_pow]
  rfl
theorem sd_c {x : Int32} (x0 : 0 ≤ x.toInt) : ((((1103515245 * (x : Int32).toInt64) + 12345) &&& 2147483647).toInt32).toInt = sdN x.toInt := by
  have b := i32_b x
  have t := Int32.toInt_toInt64 x
  have l := q_lin (a := x.toInt64) (by omega) (by omega)
  rw [t] at l
  have k := q_msk (y := 1103515245 * (x : Int32).toInt64 + 12345) (by omega)
  rw [l] at k
  rw [q_i32 (by omega) (by omega), k]
  rfl
theorem sd_m {s : Int64} (s0 : 0 ≤ s.toInt) (s1 : s.toInt < 2147483648) : (((1103515245 * s) + 12345) - ((1103515245 * s) + 12345) / 2147483648 * 2147483648).toInt = sdN s.toInt := by
  have l := q_lin s0 s1
  have z : (2147483648 : Int64).toInt = 2147483648 := rfl
  rw [q_rmp (by omega) (by omega), l, z]
  rfl
/-- but for the seed all stays -/
def fr0 (m0 m : zM) : Prop := (∀ k, ¬ k = 0 → zat m k = zat m0 k) ∧ ∀ i, ¬ i = 15 → zfl m 0 i = zfl m0 0 i
variable {d : Nat} {mem : zM}
set_option maxRecDepth 100000 in
theorem w_dw {d : Nat} {mem : zM} {P : Option Value → zM → Prop} {mm : Int32} (hm : aTm aT0 mem) (m1 : 1 ≤ mm.toInt) (h1 : (mm).toInt ≤ 0 → aTm aT0 (si mem 0 15 ((((1103515245 * ((gi mem 0 15) : Int32).toInt64) + 12345) &&& 2147483647)).toInt32) → P (some (.int 0)) (si mem 0 15 ((((1103515245 * ((gi mem 0 15) : Int32).toInt64) + 12345) &&& 2147483647)).toInt32)) (s1 : 0 < (mm).toInt → 0 ≤ (((((1103515245 * ((gi mem 0 15) : Int32).toInt64) + 12345) &&& 2147483647)).toInt32 >>> (6 &&& 31)).toInt) (h2 : 0 < (mm).toInt → ∀ (x2 : Int32), x2.toInt = ((((((1103515245 * ((gi mem 0 15) : Int32).toInt64) + 12345) &&& 2147483647)).toInt32 >>> (6 &&& 31)).toInt % (mm).toInt) → aTm aT0 (si mem 0 15 ((((1103515245 * ((gi mem 0 15) : Int32).toInt64) + 12345) &&& 2147483647)).toInt32) → P (some (.int x2)) (si mem 0 15 ((((1103515245 * ((gi mem 0 15) : Int32).toInt64) + 12345) &&& 2147483647)).toInt32)) : yR zpg tX11_draw d (0, [(0, .ref 0), (1, .int mm)], [], mem) P := by
  refine yR_m 3 (fun _ _ _ _ => rfl) ?_
  refine wR_gi rfl cO_e cO_15 hm rfl ?_
  refine yR_m 7 (fun _ _ _ _ => rfl) ?_
  refine wR_pi rfl cO_e cO_15 hm rfl ?_
  have hm_1 : aTm aT0 (si mem 0 15 ((((1103515245 * ((gi mem 0 15) : Int32).toInt64) + 12345) &&& 2147483647)).toInt32) := tm_si cO_e cO_15 hm (i32_b _)
  refine yR_m 1 (fun _ _ _ _ => rfl) ?_
  refine wR_if_le rfl (a := (mm).toInt) rfl (fun q1 => ?_) (fun q1 => ?_)
  ·
    refine yR_m 1 (fun _ _ _ _ => rfl) ?_
    exact yR_ri rfl (h1 q1 hm_1)
  ·
    refine yR_m 1 (fun _ _ _ _ => rfl) ?_
    refine wR_gi rfl cO_e cO_15 hm_1 (gi_si_eq cO_e cO_15 hm) ?_
    refine yR_m 3 (fun _ _ _ _ => rfl) ?_
    refine wN_rem (a := (((((1103515245 * ((gi mem 0 15) : Int32).toInt64) + 12345) &&& 2147483647)).toInt32 >>> (6 &&& 31)).toInt) (b := (mm).toInt) rfl rfl rfl (by omega) (s1 q1) (fun x2 e3 => ?_)
    refine yR_m 1 (fun _ _ _ _ => rfl) ?_
    exact yR_ri rfl (h2 q1 x2 e3 hm_1)

set_option maxRecDepth 100000 in
theorem w_md {d : Nat} {mem : zM} {P : Option Value → zM → Prop} {mm : Int32} (hm : aTm aT0 mem) (mz : ¬ (mm : Int32).toInt64 = 0) (h1 : aTm aT0 (sL mem 221 56 (((1103515245 * (gL mem 221 56)) + 12345) - ((1103515245 * (gL mem 221 56)) + 12345) / 2147483648 * 2147483648)) → P (some (.int ((((((1103515245 * (gL mem 221 56)) + 12345) - ((1103515245 * (gL mem 221 56)) + 12345) / 2147483648 * 2147483648) / 64) - ((((1103515245 * (gL mem 221 56)) + 12345) - ((1103515245 * (gL mem 221 56)) + 12345) / 2147483648 * 2147483648) / 64) / (mm : Int32).toInt64 * (mm : Int32).toInt64)).toInt32)) (sL mem 221 56 (((1103515245 * (gL mem 221 56)) + 12345) - ((1103515245 * (gL mem 221 56)) + 12345) / 2147483648 * 2147483648))) : yR zpg tX12_draw d (0, [(0, .ref 221), (1, .int mm)], [], mem) P := by
  refine yR_m 3 (fun _ _ _ _ => rfl) ?_
  refine wR_gL rfl mO_e mO_56 hm rfl ?_
  refine yR_m 5 (fun _ _ _ _ => rfl) ?_
  refine wR_pL rfl mO_e mO_56 hm ?_
  have hm_1 : aTm aT0 (sL mem 221 56 (((1103515245 * (gL mem 221 56)) + 12345) - ((1103515245 * (gL mem 221 56)) + 12345) / 2147483648 * 2147483648)) := tm_sL mO_e mO_56 hm
  refine yR_m 1 (fun _ _ _ _ => rfl) ?_
  refine wR_gL rfl mO_e mO_56 hm_1 (gL_sL_eq mO_e mO_56 hm) ?_
  refine yR_m 4 (fun _ _ _ _ => rfl) ?_
  refine wR_ldz rfl mz ?_
  refine yR_m 1 (fun _ _ _ _ => rfl) ?_
  exact yR_ri rfl (h1 hm_1)

theorem h_dw {mm : Int32} (hm : aTm aT0 mem) (x0 : 0 ≤ (gi mem 0 15).toInt) (m1 : 1 ≤ mm.toInt) (hd : 1 ≤ d) : yC zpg d 155 [.ref 0, .int mm] mem (fun r m => ∃ v : Int32, r = some (.int v) ∧ aTm aT0 m ∧ (fr0 mem m ∧ (gi m 0 15).toInt = sdN (gi mem 0 15).toInt ∧ v.toInt = drw (gi mem 0 15).toInt mm.toInt)) := by
  obtain ⟨d, rfl⟩ : ∃ q, d = q + 1 := ⟨d - 1, by omega⟩
  have s := sd_c x0
  have b := sdN_b (gi mem 0 15).toInt
  refine yC_of (t := tX11_draw) rfl rfl ?_
  exact w_dw hm m1 (fun q1 hm2 => by exfalso; omega) (fun q1 => by rw [sh_6 (by omega)]; omega) (fun q1 x2 e2 hm2 => ⟨_, rfl, hm2, ⟨fun k hk => zat_sv_ne (fun w => hk w.symm), fun i hi => zfl_sv_ne (fun w => hi w.2.symm)⟩, by rw [gi_si_eq cO_e cO_15 hm]; exact s, by
    rw [e2, sh_6 (by omega), s]
    rfl⟩)
theorem h_md {mm : Int32} (hm : aTm aT0 mem) (x0 : 0 ≤ (gL mem 221 56).toInt) (x1 : (gL mem 221 56).toInt < 2147483648) (m1 : 1 ≤ mm.toInt) (hd : 1 ≤ d) : yC zpg d 265 [.ref 221, .int mm] mem (fun r m => ∃ v : Int32, r = some (.int v) ∧ aTm aT0 m ∧ (onl [221] mem m ∧ (∀ i, ¬ i = 56 → zfl m 221 i = zfl mem 221 i) ∧ (gL m 221 56).toInt = sdN (gL mem 221 56).toInt ∧ v.toInt = drw (gL mem 221 56).toInt mm.toInt)) := by
  obtain ⟨d, rfl⟩ : ∃ q, d = q + 1 := ⟨d - 1, by omega⟩
  have s := sd_m x0 x1
  have b := sdN_b (gL mem 221 56).toInt
  have t := Int32.toInt_toInt64 mm
  have z : (64 : Int64).toInt = 64 := rfl
  have mb := i32_b mm
  refine yC_of (t := tX12_draw) rfl rfl ?_
  exact w_md hm (fun w => by
    rw [w] at t
    have t : (0 : Int64).toInt = mm.toInt := t
    have z0 : (0 : Int64).toInt = 0 := rfl
    omega) (fun hm2 => ⟨_, rfl, hm2, onl_sv rfl onl_rf, fun i hi => zfl_sv_ne (fun w => hi w.2.symm), by rw [gL_sL_eq mO_e mO_56 hm]; exact s, by
    generalize ((1103515245 * (gL mem 221 56)) + 12345) - ((1103515245 * (gL mem 221 56)) + 12345) / 2147483648 * 2147483648 = y at s
    have d1 : (y / 64).toInt = y.toInt / 64 := by
      rw [q_dvp (by omega) (by omega), z]
    have r := q_rmp (y := y / 64) (c := (mm : Int32).toInt64) (by omega) (by omega)
    rw [d1, t, s] at r
    have r1 := drw_b (x := (gL mem 221 56).toInt) m1
    have r2 : sdN (gL mem 221 56).toInt / 64 % mm.toInt = drw (gL mem 221 56).toInt mm.toInt := rfl
    rw [q_i32 (by omega) (by omega), r]
    rfl⟩)
end SDA
section DDA
variable {d : Nat} {mem : zM} {Q : Qd}
set_option maxRecDepth 100000 in
theorem w_ddA {d : Nat} {mem : zM} {P : Option Value → zM → Prop} (hm : aTm aT0 mem) (hq4 : zfl mem 0 4 = some (.ref 2)) (x0 : 0 ≤ (gi mem 0 15).toInt) (h1 : ∀ (v3 : Int32) (m1 : zM), aTm aT0 m1 → (fr0 mem m1 ∧ (gi m1 0 15).toInt = sdN (gi mem 0 15).toInt ∧ v3.toInt = drw (gi mem 0 15).toInt 100) → (gi m1 2 4).toInt ≤ (v3).toInt → aTm aT0 m1 → P (some (.int (-1))) m1) (h2 : ∀ (v3 : Int32) (m1 : zM), aTm aT0 m1 → (fr0 mem m1 ∧ (gi m1 0 15).toInt = sdN (gi mem 0 15).toInt ∧ v3.toInt = drw (gi mem 0 15).toInt 100) → (v3).toInt < (gi m1 2 4).toInt → (gi m1 2 7).toInt ≤ 0 → aTm aT0 m1 → P (some (.int (-1))) m1) (s1 : ∀ (v3 : Int32) (m1 : zM), aTm aT0 m1 → (fr0 mem m1 ∧ (gi m1 0 15).toInt = sdN (gi mem 0 15).toInt ∧ v3.toInt = drw (gi mem 0 15).toInt 100) → (v3).toInt < (gi m1 2 4).toInt → 0 < (gi m1 2 7).toInt → 0 ≤ (gi m1 0 15).toInt) (h3 : ∀ (v3 : Int32) (m1 : zM), aTm aT0 m1 → (fr0 mem m1 ∧ (gi m1 0 15).toInt = sdN (gi mem 0 15).toInt ∧ v3.toInt = drw (gi mem 0 15).toInt 100) → (v3).toInt < (gi m1 2 4).toInt → 0 < (gi m1 2 7).toInt → ∀ (v8 : Int32) (m6 : zM), aTm aT0 m6 → (fr0 m1 m6 ∧ (gi m6 0 15).toInt = sdN (gi m1 0 15).toInt ∧ v8.toInt = drw (gi m1 0 15).toInt (gi m1 2 7).toInt) → aTm aT0 m6 → P (some (.int v8)) m6) : yR zpg tX11_drawDark (d + 1) (0, [(0, .ref 0)], [], mem) P := by
  refine yR_m 2 (fun _ _ _ _ => rfl) ?_
  refine wR_cv rfl rfl cO_e hm rfl (h_dw hm (by omega) (by decide) (by omega)) ?_
  rintro _ m1 ⟨v3, rfl, hm1, k2⟩
  show yR zpg tX11_drawDark (d + 1) (6, [(0, .ref 0)], [.int v3], m1) _
  refine yR_m 1 (fun _ _ _ _ => rfl) ?_
  refine wR_gq rfl cO_e hm1 ((k2.1.2 4 (by decide)).trans hq4) ?_
  refine wR_gi rfl quA_e quA_4 hm1 rfl ?_
  refine wR_ic_ge rfl (a := (v3).toInt) (c := (gi m1 2 4).toInt) rfl rfl (fun q4 => ?_) (fun q4 => ?_)
  ·
    refine yR_m 3 (fun _ _ _ _ => rfl) ?_
    refine wR_if_eq rfl (a := 0) rfl (fun _ => ?_) (fun q => by exfalso; omega)
    refine yR_m 1 (fun _ _ _ _ => rfl) ?_
    exact yR_ri rfl (h1 v3 m1 hm1 k2 q4 hm1)
  ·
    refine yR_m 4 (fun _ _ _ _ => rfl) ?_
    refine wR_if_eq rfl (a := 1) rfl (fun q => by exfalso; omega) (fun _ => ?_)
    refine yR_m 1 (fun _ _ _ _ => rfl) ?_
    refine wR_gq rfl cO_e hm1 ((k2.1.2 4 (by decide)).trans hq4) ?_
    refine wR_gi rfl quA_e quA_7 hm1 rfl ?_
    refine wR_if_le rfl (a := (gi m1 2 7).toInt) rfl (fun q5 => ?_) (fun q5 => ?_)
    ·
      refine yR_m 1 (fun _ _ _ _ => rfl) ?_
      exact yR_ri rfl (h2 v3 m1 hm1 k2 q4 q5 hm1)
    ·
      refine yR_m 2 (fun _ _ _ _ => rfl) ?_
      refine wR_gq rfl cO_e hm1 ((k2.1.2 4 (by decide)).trans hq4) ?_
      refine wR_gi rfl quA_e quA_7 hm1 rfl ?_
      refine wR_cv rfl rfl cO_e hm1 rfl (h_dw hm1 (s1 v3 m1 hm1 k2 q4 q5) (by omega) (by omega)) ?_
      rintro _ m6 ⟨v8, rfl, hm6, k7⟩
      show yR zpg tX11_drawDark (d + 1) (47, [(1, .int 1), (0, .ref 0)], [.int v8], m6) _
      refine yR_m 1 (fun _ _ _ _ => rfl) ?_
      exact yR_ri rfl (h3 v3 m1 hm1 k2 q4 q5 v8 m6 hm6 k7 hm6)

theorem h_ddA (hm : aTm aT0 mem) (hq4 : zfl mem 0 4 = some (.ref 2)) (hC : cQ 2 3 4 7 8 9 12 13 Q mem) (x0 : 0 ≤ (gi mem 0 15).toInt) (hd : 2 ≤ d) : yC zpg d 154 [.ref 0] mem (fun r m => ∃ v : Int32, r = some (.int v) ∧ aTm aT0 m ∧ (fr0 mem m ∧ v.toInt = (dkN Q (gi mem 0 15).toInt).1 ∧ (gi m 0 15).toInt = (dkN Q (gi mem 0 15).toInt).2)) := by
  obtain ⟨d, rfl⟩ : ∃ q, d = q + 2 := ⟨d - 2, by omega⟩
  have qa := hC.2.2.2.2.2.2.2.1.2.1
  have cn := (cq_nA hC).1
  have sb := sdN_b (gi mem 0 15).toInt
  refine yC_of (t := tX11_drawDark) rfl rfl ?_
  exact w_ddA hm hq4 x0 (fun v3 m1 hm1 k1 q1 hm2 => by
      have g4 : gi m1 2 4 = gi mem 2 4 := gi_zq (k1.1.1 2 (by decide))
      have k2 := k1.2.2
      rw [g4] at q1
      have e := dkN_n (Q := Q) (x := (gi mem 0 15).toInt) (fun z => by omega)
      rw [e]
      exact ⟨_, rfl, hm2, k1.1, rfl, k1.2.1⟩) (fun v3 m1 hm1 k1 q1 q2 hm2 => by
      have g7 : gi m1 2 7 = gi mem 2 7 := gi_zq (k1.1.1 2 (by decide))
      rw [g7] at q2
      have e := dkN_n (Q := Q) (x := (gi mem 0 15).toInt) (fun z => by omega)
      rw [e]
      exact ⟨_, rfl, hm2, k1.1, rfl, k1.2.1⟩) (fun v3 m1 hm1 k1 q1 q2 => by rw [k1.2.1]; exact sb.1) (fun v3 m1 hm1 k1 q1 q2 v8 m6 hm6 k6 hm2 => by
      have g4 : gi m1 2 4 = gi mem 2 4 := gi_zq (k1.1.1 2 (by decide))
      have g7 : gi m1 2 7 = gi mem 2 7 := gi_zq (k1.1.1 2 (by decide))
      have k2 := k1.2.2
      rw [g4] at q1
      rw [g7] at q2
      have k7 := k6.2.2
      rw [k1.2.1, g7, cn] at k7
      have k8 := k6.2.1
      rw [k1.2.1] at k8
      have e := dkN_y (Q := Q) (x := (gi mem 0 15).toInt) ⟨by omega, by omega⟩
      rw [e]
      exact ⟨_, rfl, hm2, ⟨fun k hk => (k6.1.1 k hk).trans (k1.1.1 k hk), fun i hi => (k6.1.2 i hi).trans (k1.1.2 i hi)⟩, k7, k8⟩)
end DDA
section DDB
variable {d : Nat} {mem : zM} {Q : Qd}
set_option maxRecDepth 100000 in
theorem w_ddB {d : Nat} {mem : zM} {P : Option Value → zM → Prop} (hm : aTm aT0 mem) (hq4 : zfl mem 0 4 = some (.ref 14)) (x0 : 0 ≤ (gi mem 0 15).toInt) (h1 : ∀ (v3 : Int32) (m1 : zM), aTm aT0 m1 → (fr0 mem m1 ∧ (gi m1 0 15).toInt = sdN (gi mem 0 15).toInt ∧ v3.toInt = drw (gi mem 0 15).toInt 100) → (gi m1 14 4).toInt ≤ (v3).toInt → aTm aT0 m1 → P (some (.int (-1))) m1) (h2 : ∀ (v3 : Int32) (m1 : zM), aTm aT0 m1 → (fr0 mem m1 ∧ (gi m1 0 15).toInt = sdN (gi mem 0 15).toInt ∧ v3.toInt = drw (gi mem 0 15).toInt 100) → (v3).toInt < (gi m1 14 4).toInt → (gi m1 14 7).toInt ≤ 0 → aTm aT0 m1 → P (some (.int (-1))) m1) (s1 : ∀ (v3 : Int32) (m1 : zM), aTm aT0 m1 → (fr0 mem m1 ∧ (gi m1 0 15).toInt = sdN (gi mem 0 15).toInt ∧ v3.toInt = drw (gi mem 0 15).toInt 100) → (v3).toInt < (gi m1 14 4).toInt → 0 < (gi m1 14 7).toInt → 0 ≤ (gi m1 0 15).toInt) (h3 : ∀ (v3 : Int32) (m1 : zM), aTm aT0 m1 → (fr0 mem m1 ∧ (gi m1 0 15).toInt = sdN (gi mem 0 15).toInt ∧ v3.toInt = drw (gi mem 0 15).toInt 100) → (v3).toInt < (gi m1 14 4).toInt → 0 < (gi m1 14 7).toInt → ∀ (v8 : Int32) (m6 : zM), aTm aT0 m6 → (fr0 m1 m6 ∧ (gi m6 0 15).toInt = sdN (gi m1 0 15).toInt ∧ v8.toInt = drw (gi m1 0 15).toInt (gi m1 14 7).toInt) → aTm aT0 m6 → P (some (.int v8)) m6) : yR zpg tX11_drawDark (d + 1) (0, [(0, .ref 0)], [], mem) P := by
  refine yR_m 2 (fun _ _ _ _ => rfl) ?_
  refine wR_cv rfl rfl cO_e hm rfl (h_dw hm (by omega) (by decide) (by omega)) ?_
  rintro _ m1 ⟨v3, rfl, hm1, k2⟩
  show yR zpg tX11_drawDark (d + 1) (6, [(0, .ref 0)], [.int v3], m1) _
  refine yR_m 1 (fun _ _ _ _ => rfl) ?_
  refine wR_gq rfl cO_e hm1 ((k2.1.2 4 (by decide)).trans hq4) ?_
  refine wR_gi rfl quB_e quB_4 hm1 rfl ?_
  refine wR_ic_ge rfl (a := (v3).toInt) (c := (gi m1 14 4).toInt) rfl rfl (fun q4 => ?_) (fun q4 => ?_)
  ·
    refine yR_m 3 (fun _ _ _ _ => rfl) ?_
    refine wR_if_eq rfl (a := 0) rfl (fun _ => ?_) (fun q => by exfalso; omega)
    refine yR_m 1 (fun _ _ _ _ => rfl) ?_
    exact yR_ri rfl (h1 v3 m1 hm1 k2 q4 hm1)
  ·
    refine yR_m 4 (fun _ _ _ _ => rfl) ?_
    refine wR_if_eq rfl (a := 1) rfl (fun q => by exfalso; omega) (fun _ => ?_)
    refine yR_m 1 (fun _ _ _ _ => rfl) ?_
    refine wR_gq rfl cO_e hm1 ((k2.1.2 4 (by decide)).trans hq4) ?_
    refine wR_gi rfl quB_e quB_7 hm1 rfl ?_
    refine wR_if_le rfl (a := (gi m1 14 7).toInt) rfl (fun q5 => ?_) (fun q5 => ?_)
    ·
      refine yR_m 1 (fun _ _ _ _ => rfl) ?_
      exact yR_ri rfl (h2 v3 m1 hm1 k2 q4 q5 hm1)
    ·
      refine yR_m 2 (fun _ _ _ _ => rfl) ?_
      refine wR_gq rfl cO_e hm1 ((k2.1.2 4 (by decide)).trans hq4) ?_
      refine wR_gi rfl quB_e quB_7 hm1 rfl ?_
      refine wR_cv rfl rfl cO_e hm1 rfl (h_dw hm1 (s1 v3 m1 hm1 k2 q4 q5) (by omega) (by omega)) ?_
      rintro _ m6 ⟨v8, rfl, hm6, k7⟩
      show yR zpg tX11_drawDark (d + 1) (47, [(1, .int 1), (0, .ref 0)], [.int v8], m6) _
      refine yR_m 1 (fun _ _ _ _ => rfl) ?_
      exact yR_ri rfl (h3 v3 m1 hm1 k2 q4 q5 v8 m6 hm6 k7 hm6)

theorem h_ddB (hm : aTm aT0 mem) (hq4 : zfl mem 0 4 = some (.ref 14)) (hC : cQ 14 15 16 19 20 21 24 25 Q mem) (x0 : 0 ≤ (gi mem 0 15).toInt) (hd : 2 ≤ d) : yC zpg d 154 [.ref 0] mem (fun r m => ∃ v : Int32, r = some (.int v) ∧ aTm aT0 m ∧ (fr0 mem m ∧ v.toInt = (dkN Q (gi mem 0 15).toInt).1 ∧ (gi m 0 15).toInt = (dkN Q (gi mem 0 15).toInt).2)) := by
  obtain ⟨d, rfl⟩ : ∃ q, d = q + 2 := ⟨d - 2, by omega⟩
  have qa := hC.2.2.2.2.2.2.2.1.2.1
  have cn := (cq_nB hC).1
  have sb := sdN_b (gi mem 0 15).toInt
  refine yC_of (t := tX11_drawDark) rfl rfl ?_
  exact w_ddB hm hq4 x0 (fun v3 m1 hm1 k1 q1 hm2 => by
      have g4 : gi m1 14 4 = gi mem 14 4 := gi_zq (k1.1.1 14 (by decide))
      have k2 := k1.2.2
      rw [g4] at q1
      have e := dkN_n (Q := Q) (x := (gi mem 0 15).toInt) (fun z => by omega)
      rw [e]
      exact ⟨_, rfl, hm2, k1.1, rfl, k1.2.1⟩) (fun v3 m1 hm1 k1 q1 q2 hm2 => by
      have g7 : gi m1 14 7 = gi mem 14 7 := gi_zq (k1.1.1 14 (by decide))
      rw [g7] at q2
      have e := dkN_n (Q := Q) (x := (gi mem 0 15).toInt) (fun z => by omega)
      rw [e]
      exact ⟨_, rfl, hm2, k1.1, rfl, k1.2.1⟩) (fun v3 m1 hm1 k1 q1 q2 => by rw [k1.2.1]; exact sb.1) (fun v3 m1 hm1 k1 q1 q2 v8 m6 hm6 k6 hm2 => by
      have g4 : gi m1 14 4 = gi mem 14 4 := gi_zq (k1.1.1 14 (by decide))
      have g7 : gi m1 14 7 = gi mem 14 7 := gi_zq (k1.1.1 14 (by decide))
      have k2 := k1.2.2
      rw [g4] at q1
      rw [g7] at q2
      have k7 := k6.2.2
      rw [k1.2.1, g7, cn] at k7
      have k8 := k6.2.1
      rw [k1.2.1] at k8
      have e := dkN_y (Q := Q) (x := (gi mem 0 15).toInt) ⟨by omega, by omega⟩
      rw [e]
      exact ⟨_, rfl, hm2, ⟨fun k hk => (k6.1.1 k hk).trans (k1.1.1 k hk), fun i hi => (k6.1.2 i hi).trans (k1.1.2 i hi)⟩, k7, k8⟩)
end DDB
