/-! quay of the class: what is so behind it -/
def plO : List (Bool × aTy) := match aat aT0 185 with
  | some (.inr o) => o.2
  | _ => []
set_option maxRecDepth 100000 in
theorem plO_e : aat aT0 185 = some (.inr (3, plO)) := rfl
set_option maxRecDepth 100000 in
theorem plO_0 : plO[0]? = some (false, .inr (some [181])) := rfl
set_option maxRecDepth 100000 in
theorem plO_1 : plO[1]? = some (false, .inr (some [186])) := rfl
set_option maxRecDepth 100000 in
theorem plO_2 : plO[2]? = some (false, .inr (some [187])) := rfl
set_option maxRecDepth 100000 in
theorem plO_3 : plO[3]? = some (false, .inr (some [188])) := rfl
set_option maxRecDepth 100000 in
theorem plO_4 : plO[4]? = some (false, .inr (some [189])) := rfl
set_option maxRecDepth 100000 in
theorem plO_5 : plO[5]? = some (false, .inr (some [190])) := rfl
set_option maxRecDepth 100000 in
theorem plO_6 : plO[6]? = some (false, .inl (-2147483648, 2147483647)) := rfl
set_option maxRecDepth 100000 in
theorem plO_7 : plO[7]? = some (false, .inl (-2147483648, 2147483647)) := rfl
set_option maxRecDepth 100000 in
theorem plO_8 : plO[8]? = some (false, .inr (some [191])) := rfl
set_option maxRecDepth 100000 in
theorem plO_9 : plO[9]? = some (true, .inl (0, 16)) := rfl
theorem plO_r9 {m : zM} (hm : aTm aT0 m) : 0 ≤ (gi m 185 9).toInt ∧ (gi m 185 9).toInt ≤ 16 := gi_rg plO_e plO_9 hm
set_option maxRecDepth 100000 in
theorem plO_10 : plO[10]? = some (false, .inl (-2147483648, 2147483647)) := rfl
set_option maxRecDepth 100000 in
theorem plO_11 : plO[11]? = some (false, .inl (-2147483648, 2147483647)) := rfl
set_option maxRecDepth 100000 in
theorem plO_12 : plO[12]? = some (false, .inl (-2147483648, 2147483647)) := rfl
section QTZ
variable {d : Nat} {mem m : zM} {Q : Qd}
/-- what is missing at first, what is so at first -/
noncomputable def fsM (Q : Qd) : Int32 := tnF (fun t => ¬ t ∈ Qh Q) (Qt Q).length
noncomputable def fsS (Q : Qd) : Sd := (0, fsM Q, fun _ => 0, fun f => stA Q f)
theorem bt_9n {x : Int32} {i : Int} (h0 : 0 ≤ x.toInt) (h1 : x.toInt ≤ 511) (i9 : 9 ≤ i) : ¬ bt x i := fun z => by
  have n := i9_n h0 h1
  have e : x.toBitVec.toNat.testBit i.toNat = false := Nat.testBit_lt_two_pow (Nat.lt_of_lt_of_le (show x.toBitVec.toNat < 2 ^ 9 by omega) (Nat.pow_le_pow_right (by decide) (by omega)))
  have z2 : x.toBitVec.toNat.testBit i.toNat = true := z
  rw [e] at z2
  cases z2
theorem fsM_b (hW : WQ Q) {i : Int} (i0 : 0 ≤ i) (i1 : i < 31) : bt (fsM Q) i ↔ (i < thN Q ∧ ¬ i ∈ Qh Q) := tnF_b _ hW.2.1.1 i i0 i1
theorem fsS_w (hW : WQ Q) : wS Q (fsS Q) := ⟨⟨by show (0 : Int) ≤ 0; decide, by show (0 : Int) ≤ 999; decide⟩, ⟨tnF_9 _ hW.2.1.1, fun i i0 i1 hi => ((fsM_b hW i0 i1).1 hi).1⟩, fun _ _ _ => ⟨by show (0 : Int) ≤ 0; decide, by show (0 : Int) ≤ 99; decide⟩, fun f f0 f1 => (wq_f hW f0 f1).1⟩
/-- a state is as a quay tells it at first -/
def sfP (q st : Nat) (m0 m : zM) : Prop := frT 31 m0 m ∧ (gi m 31 4 = gi m0 31 4 ∧ gi m 31 5 = gi m0 31 5) ∧ ((gi m 31 0).toInt = 0 ∧ gi m 31 1 = gi m0 q 12) ∧ (∀ u, 0 ≤ u → u < 9 → gn (ga m 32) u = 0) ∧ ∀ u, 0 ≤ u → u < 6 → gn (ga m 33) u = gn (ga m0 st) u
/-- nothing kept, no acts -/
def K0 : Kd := (0, fun _ => (0, 0, 0))
def P00 : Pd := (0, fun _ => ((0, 0, fun _ => 0, fun _ => 0), K0))
/-- what a quay that is read leaves besides, what one that is refused leaves -/
def FQ (Q : Qd) (m0 m : zM) : Prop := tS 31 Q (huA Q) (fsS Q) m ∧ (gi m 34 3).toInt = 0 ∧ (gi m 38 3).toInt = 0 ∧ (∀ k, 39 ≤ k → k ≤ 180 → zat m k = zat m0 k) ∧ (∀ k, 221 ≤ k → zat m k = zat m0 k) ∧ zfl m 0 15 = zfl m0 0 15 ∧ gi m 31 4 = gi m0 31 4 ∧ zat m 220 = zat m0 220
def FN (m0 m : zM) : Prop := (∀ k, 31 ≤ k → k ≤ 180 → zat m k = zat m0 k) ∧ (∀ k, 221 ≤ k → zat m k = zat m0 k) ∧ zfl m 0 15 = zfl m0 0 15 ∧ ga m 220 = (ga m0 220).set 1 ((ga m0 220).getD 1 0 + 1)
def quEx (v : Option (Int × Qd)) (m0 : zM) (r : Option Value) (m : zM) : Prop := aTm aT0 m ∧ ((∃ (c : Int32) (Q : Qd), v = some (c.toInt, Q) ∧ r = some (.int c) ∧ FQ Q m0 m) ∨ (v = none ∧ r = some (.int (-1)) ∧ FN m0 m))
end QTZ
section QTA
variable {d : Nat} {mem m : zM} {Q : Qd} {T : List Int32}
set_option maxRecDepth 100000 in
theorem w_sf0A {d : Nat} {mem : zM} {P : Option Value → zM → Prop} {lo : List (Nat × Value)} (hm : aTm aT0 mem) (l_0 : zlg lo 0 = some (.ref 2)) (l_1 : zlg lo 1 = some (.ref 31)) (h1 : ∀ lo, zlg lo 0 = some (.ref 2) → zlg lo 1 = some (.ref 31) → zlg lo 2 = some (.int 0) → aTm aT0 (si (si mem 31 0 0) 31 1 (gi mem 2 12)) → yR zpg tX4_setFirst (d + 1) (15, lo, [], (si (si mem 31 0 0) 31 1 (gi mem 2 12))) P) : yR zpg tX4_setFirst (d + 1) (0, lo, [], mem) P := by
  have r12 := quA_r12 hm
  refine wR_la rfl l_1 ?_
  refine yR_m 1 (fun _ _ _ _ => rfl) ?_
  refine wR_pi rfl nO_e nO_0 hm rfl ?_
  have hm_1 : aTm aT0 (si mem 31 0 0) := tm_si nO_e nO_0 hm (i32_b _)
  refine wR_la rfl l_1 ?_
  refine wR_la rfl l_0 ?_
  refine wR_gi rfl quA_e quA_12 hm_1 (gi_sv_ne (by first | decide | omega)) ?_
  refine wR_pi rfl nO_e nO_1 hm_1 rfl ?_
  have hm_2 : aTm aT0 (si (si mem 31 0 0) 31 1 (gi mem 2 12)) := tm_si nO_e nO_1 hm_1 (by omega)
  refine yR_m 1 (fun _ _ _ _ => rfl) ?_
  refine wR_si rfl rfl (fun lo1 e2 f3 => ?_)
  have lo1_0 := f3 0 _ (by decide) (Or.inl rfl) l_0
  have lo1_1 := f3 1 _ (by decide) (Or.inl rfl) l_1
  exact h1 lo1 lo1_0 lo1_1 e2 hm_2

set_option maxRecDepth 100000 in
theorem w_sf15A {d : Nat} {mem : zM} {P : Option Value → zM → Prop} {t : Int32} {lo : List (Nat × Value)} (hm : aTm aT0 mem) (l_0 : zlg lo 0 = some (.ref 2)) (l_1 : zlg lo 1 = some (.ref 31)) (l_2 : zlg lo 2 = some (.int t)) (ht : 0 ≤ t.toInt ∧ t.toInt ≤ 9) (h1 : 9 ≤ (t).toInt → ∀ (m2 : zM), aTm aT0 m2 → (∀ q, ¬ q = 33 → zat m2 q = zat mem q) → cpJ (ga m2 33) (ga mem 8) (ga mem 33) 0 0 6 → aTm aT0 m2 → P none m2) (h2 : (t).toInt < 9 → ∀ (x5 : Int32), x5.toInt = ((t).toInt + 1) → ∀ lo, zlg lo 0 = some (.ref 2) → zlg lo 1 = some (.ref 31) → zlg lo 2 = some (.int x5) → aTm aT0 (sx mem 32 t 0) → yR zpg tX4_setFirst (d + 1) (15, lo, [], (sx mem 32 t 0)) P) : yR zpg tX4_setFirst (d + 1) (15, lo, [], mem) P := by
  refine wR_li rfl l_2 ?_
  refine yR_m 1 (fun _ _ _ _ => rfl) ?_
  refine wR_ic_ge rfl (a := (t).toInt) (c := 9) rfl rfl (fun q1 => ?_) (fun q1 => ?_)
  ·
    refine wR_la rfl l_0 ?_
    refine wR_gr rfl quA_e quA_15 hm ?_
    refine yR_m 1 (fun _ _ _ _ => rfl) ?_
    refine wR_la rfl l_1 ?_
    refine wR_gr rfl nO_e nO_3 hm ?_
    refine yR_m 2 (fun _ _ _ _ => rfl) ?_
    refine wN_cp (a := 0) (b := 0) (c := 6) rfl aR_8 aR_33 hm rfl rfl rfl rfl rfl (by omega) rfl (fun m2 hm2 k3 k4 => ?_)
    exact yR_rv rfl (h1 q1 m2 hm2 k3 k4 hm2)
  ·
    refine wR_la rfl l_1 ?_
    refine wR_gr rfl nO_e nO_2 hm ?_
    refine wR_li rfl l_2 ?_
    refine yR_m 1 (fun _ _ _ _ => rfl) ?_
    refine wN_as (a := (t).toInt) rfl aR_32 hm rfl (by omega) ?_
    have hm_1 : aTm aT0 (sx mem 32 t 0) := tm_sa aR_32 hm (i32_b _)
    refine wN_in (a := (t).toInt) (b := 1) rfl rfl l_2 rfl rfl (by omega) (fun x5 e6 => fun lo7 e8 f9 => ?_)
    have lo7_0 := f9 0 _ (by decide) (Or.inl rfl) l_0
    have lo7_1 := f9 1 _ (by decide) (Or.inl rfl) l_1
    exact yR_m 1 (fun _ _ _ _ => rfl) (h2 q1 x5 e6 lo7 lo7_0 lo7_1 e8 hm_1)

theorem sf_lpA {mr : zM} : ∀ (g : Nat) (t : Int32) (mem : zM) (lo : List (Nat × Value)), t.toInt + (g : Int) = 9 → 0 ≤ t.toInt → (∀ k, ¬ k = 32 → zat mem k = zat mr k) → (∀ u, 0 ≤ u → u < t.toInt → gn (ga mem 32) u = 0) → aTm aT0 mem → zlg lo 0 = some (.ref 2) → zlg lo 1 = some (.ref 31) → zlg lo 2 = some (.int t) → yR zpg tX4_setFirst (d + 1) (15, lo, [], mem) (fun r m => r = none ∧ aTm aT0 m ∧ ((∀ k, ¬ k = 32 → ¬ k = 33 → zat m k = zat mr k) ∧ (∀ u, 0 ≤ u → u < 9 → gn (ga m 32) u = 0) ∧ ∀ u, 0 ≤ u → u < 6 → gn (ga m 33) u = gn (ga mr 8) u)) := by
  intro g
  induction g with
  | zero =>
    intro t mem lo hg t0 hF hA hm l0 l1 l2
    exact w_sf15A hm l0 l1 l2 ⟨t0, by omega⟩ (fun q1 m2 hm2 k1 c1 hm3 => ⟨rfl, hm3, fun k a b => (k1 k b).trans (hF k a), fun u u0 u1 => by rw [ga_zq (k1 32 (by decide))]; exact hA u u0 (by omega), fun u u0 u1 => by rw [c1 u u0, if_pos (by omega), show u - 0 + 0 = u by omega, ga_zq (hF 8 (by decide))]⟩) (fun q1 x5 e5 lo a0 a1 a2 hm2 => by exfalso; omega)
  | succ g ih =>
    intro t mem lo hg t0 hF hA hm l0 l1 l2
    exact w_sf15A hm l0 l1 l2 ⟨t0, by omega⟩ (fun q1 m2 hm2 k1 c1 hm3 => by exfalso; omega) (fun q1 x5 e5 lo a0 a1 a2 hm2 => ih _ _ lo (by omega) (by omega) (fun k hk => (zat_sa_ne (fun w => hk w.symm)).trans (hF k hk)) (fun u u0 u1 => by
        show gn (ga (sa mem 32 t.toNatClampNeg 0) 32) u = 0
        rw [ga_sa_eq, gn_set rfl t0 (by rw [(ga_ty aR_32 hm).2.1]; omega) u0]
        by_cases w : u = t.toInt
        · rw [if_pos w]
          rfl
        · rw [if_neg w]
          exact hA u u0 (by omega)) hm2 a0 a1 a2)
theorem h_sfA (hm : aTm aT0 mem) (hd : 2 ≤ d) : yC zpg d 49 [.ref 2, .ref 31] mem (fun r m => r = none ∧ aTm aT0 m ∧ sfP 2 8 mem m) := by
  obtain ⟨d, rfl⟩ : ∃ q, d = q + 2 := ⟨d - 2, by omega⟩
  refine yC_of (t := tX4_setFirst) rfl rfl ?_
  exact w_sf0A hm rfl rfl (fun lo a0 a1 a2 hm2 => by
    refine yR_mono ?_ (sf_lpA 9 0 _ lo rfl (by decide) (fun _ _ => rfl) (fun u u0 u1 => by exfalso; have z : (0 : Int32).toInt = 0 := rfl; omega) hm2 a0 a1 a2)
    rintro r m ⟨h1, h2, h3, h4, h5⟩
    have e1 := tm_si (x := 0) nO_e nO_0 hm (i32_b _)
    have G : ∀ i, gi m 31 i = gi (si (si mem 31 0 0) 31 1 (gi mem 2 12)) 31 i := fun i => gi_zq (h3 31 (by decide) (by decide))
    refine ⟨h1, h2, fun k q0 q1 q2 => (h3 k q1 q2).trans ((zat_sv_ne (fun w => q0 w.symm)).trans (zat_sv_ne (fun w => q0 w.symm))), ⟨?_, ?_⟩, ⟨?_, ?_⟩, h4, fun u u0 u1 => ?_⟩
    · rw [G, gi_sv_ne (by decide), gi_sv_ne (by decide)]
    · rw [G, gi_sv_ne (by decide), gi_sv_ne (by decide)]
    · rw [G, gi_sv_ne (by decide), gi_si_eq nO_e nO_0 hm]
      rfl
    · rw [G, gi_si_eq nO_e nO_1 e1]
    · rw [h5 u u0 u1, ga_sv, ga_sv])
theorem fs_TA {m0 : zM} (hm0 : aTm aT0 m0) (hW : WQ Q) (hC : cQ 2 3 4 7 8 9 12 13 Q m0) (hs : (gi m0 31 4).toInt = -1) (h : sfP 2 8 m0 m) : tS 31 Q (huA Q) (fsS Q) m := by
  obtain ⟨-, ⟨f4, f5⟩, ⟨g0, g1⟩, g2, g3⟩ := h
  have t9 : thN Q ≤ 9 := by
    have := hW.2.1.1
    unfold thN
    omega
  have l6 : foN Q ≤ 6 := by
    have := hW.2.1.2.1
    unfold foN
    omega
  have r12 := quA_r12 hm0
  refine ⟨⟨g0, ?_⟩, fun u u0 u1 => g2 u u0 (by omega), fun u u0 u1 => ?_, fun u u0 u1 => ⟨fun w => by rw [f4] at w; omega, fun _ => rfl⟩⟩
  · rw [g1]
    refine bt_ex r12.1 (tnF_9 _ hW.2.1.1).1 (fun i i0 i1 => ?_)
    by_cases i9 : i < 9
    · exact ((hC.2.2.2.1).1 i i0 i9).trans (fsM_b hW i0 i1).symm
    · exact ⟨fun z => absurd z (bt_9n r12.1 r12.2 (by omega)), fun z => absurd z (bt_9n (tnF_9 _ hW.2.1.1).1 (tnF_9 _ hW.2.1.1).2 (by omega))⟩
  · rw [g3 u u0 (by omega)]
    exact (cq_fA hC u0 u1).1
set_option maxRecDepth 100000 in
theorem w_qt80A {d : Nat} {mem : zM} {P : Option Value → zM → Prop} {lo : List (Nat × Value)} (hm : aTm aT0 mem) (l_0 : zlg lo 0 = some (.ref 0)) (hq4 : zfl mem 0 4 = some (.ref 2)) (h1 : ∀ (m1 : zM), aTm aT0 m1 → sfP 2 8 (sR mem 181 0 2) m1 → aTm aT0 (si (si (si m1 34 3 0) 38 3 0) 185 9 0) → P (some (.int (gi m1 2 0))) (si (si (si m1 34 3 0) 38 3 0) 185 9 0)) : yR zpg tX11_quay (d + 63) (80, lo, [], mem) P := by
  refine wR_la rfl l_0 ?_
  refine wR_gr rfl cO_e cO_10 hm ?_
  refine wR_la rfl l_0 ?_
  refine wR_gq rfl cO_e hm hq4 ?_
  refine wR_iv rfl rfl hrO_e hm rfl rfl rfl rfl ?_
  show yR zpg tX0_moveTo (d + 62) (0, [(0, .ref 181), (1, .ref 2)], [], mem) _
  refine yR_m 2 (fun _ _ _ _ => rfl) ?_
  refine wR_pr rfl hrO_e hrO_0 hm rfl ?_
  have hm_1 : aTm aT0 (sR mem 181 0 2) := tm_sR hrO_e hrO_0 hm (by decide)
  refine yR_rv rfl ?_
  show yR zpg tX11_quay (d + 63) (91, lo, [], (sR mem 181 0 2)) _
  refine wR_la rfl l_0 ?_
  refine wR_gq rfl cO_e hm_1 ((zfl_sv_ne (by first | decide | omega)).trans hq4) ?_
  refine wR_la rfl l_0 ?_
  refine wR_gr rfl cO_e cO_7 hm_1 ?_
  refine wR_cv rfl rfl quA_e hm_1 rfl (h_sfA hm_1 (by omega)) ?_
  rintro _ m1 ⟨rfl, hm1, k2⟩
  show yR zpg tX11_quay (d + 63) (102, lo, [], m1) _
  refine wR_la rfl l_0 ?_
  refine wR_iv rfl rfl cO_e hm1 rfl rfl rfl rfl ?_
  show yR zpg tX11_forgetActs (d + 62) (0, [(0, .ref 0)], [], m1) _
  refine yR_m 1 (fun _ _ _ _ => rfl) ?_
  refine wR_gr rfl cO_e cO_8 hm1 ?_
  refine yR_m 1 (fun _ _ _ _ => rfl) ?_
  refine wR_pi rfl wO_e wO_3 hm1 rfl ?_
  have hm_2 : aTm aT0 (si m1 34 3 0) := tm_si wO_e wO_3 hm1 (by decide)
  refine yR_m 1 (fun _ _ _ _ => rfl) ?_
  refine wR_gr rfl cO_e cO_9 hm_2 ?_
  refine yR_m 1 (fun _ _ _ _ => rfl) ?_
  refine wR_pi rfl rngO_e rngO_3 hm_2 rfl ?_
  have hm_3 : aTm aT0 (si (si m1 34 3 0) 38 3 0) := tm_si rngO_e rngO_3 hm_2 (by decide)
  refine yR_rv rfl ?_
  show yR zpg tX11_quay (d + 63) (106, lo, [], (si (si m1 34 3 0) 38 3 0)) _
  refine wR_la rfl l_0 ?_
  refine wR_gr rfl cO_e cO_11 hm_3 ?_
  refine wR_iv rfl rfl plO_e hm_3 rfl rfl rfl rfl ?_
  show yR zpg tX3_forgetMet (d + 62) (0, [(0, .ref 185)], [], (si (si m1 34 3 0) 38 3 0)) _
  refine yR_m 2 (fun _ _ _ _ => rfl) ?_
  refine wR_pi rfl plO_e plO_9 hm_3 rfl ?_
  have hm_4 : aTm aT0 (si (si (si m1 34 3 0) 38 3 0) 185 9 0) := tm_si plO_e plO_9 hm_3 (by decide)
  refine yR_rv rfl ?_
  show yR zpg tX11_quay (d + 63) (113, lo, [], (si (si (si m1 34 3 0) 38 3 0) 185 9 0)) _
  refine wR_la rfl l_0 ?_
  refine wR_gq rfl cO_e hm_4 ((zfl_sv_ne (by first | decide | omega)).trans ((zfl_sv_ne (by first | decide | omega)).trans ((zfl_sv_ne (by first | decide | omega)).trans ((zfl_ea (k2.1 0 (by decide) (by decide) (by decide))).trans ((zfl_sv_ne (by decide)).trans hq4))))) ?_
  refine wR_gi rfl quA_e quA_0 hm_4 ((gi_sv_ne (by first | decide | omega)).trans ((gi_sv_ne (by first | decide | omega)).trans (gi_sv_ne (by first | decide | omega)))) ?_
  exact yR_ri rfl (h1 m1 hm1 k2 hm_4)

theorem qe52A {V : Option (Int × Qd)} {m0 : zM} {lo : List (Nat × Value)} (hm : aTm aT0 mem) (hsp : zfl mem 0 5 = some (.ref 2)) (hp : zfl mem 0 4 = some (.ref 14)) (hV : V = some ((gi mem 2 0).toInt, Q)) (hW : WQ Q) (hQ : cQ 2 3 4 7 8 9 12 13 Q mem) (hs : (gi m0 31 4).toInt = -1) (hF : ∀ k, (31 ≤ k ∧ k ≤ 180) ∨ 220 ≤ k → zat mem k = zat m0 k) (h15 : zfl mem 0 15 = zfl m0 0 15) (a0 : zlg lo 0 = some (.ref 0)) : yR zpg tX11_quay (d + 63) (52, lo, [], mem) (quEx V m0) := by
  have e1 : aTm aT0 (si mem 0 2 0) := tm_si cO_e cO_2 hm (by decide)
  have e2 : aTm aT0 (si (si mem 0 2 0) 0 3 (-1)) := tm_si cO_e cO_3 e1 (by decide)
  have e3 : aTm aT0 (sR (si (si mem 0 2 0) 0 3 (-1)) 0 4 2) := tm_sR cO_e cO_4 e2 (by decide)
  refine w_qsA hm a0 hsp hp (fun lo b0 b1 => ?_)
  have z4 : zfl (sR (sR (si (si mem 0 2 0) 0 3 (-1)) 0 4 2) 0 5 14) 0 4 = some (.ref 2) := (zfl_sv_ne (by decide)).trans (zfl_sR cO_e cO_4 e2)
  have B : ∀ k, ¬ k = 0 → zat (sR (sR (si (si mem 0 2 0) 0 3 (-1)) 0 4 2) 0 5 14) k = zat mem k := fun k hk => (zat_sv_ne (fun w => hk w.symm)).trans ((zat_sv_ne (fun w => hk w.symm)).trans ((zat_sv_ne (fun w => hk w.symm)).trans (zat_sv_ne (fun w => hk w.symm))))
  have B15 : zfl (sR (sR (si (si mem 0 2 0) 0 3 (-1)) 0 4 2) 0 5 14) 0 15 = zfl mem 0 15 := (zfl_sv_ne (by decide)).trans ((zfl_sv_ne (by decide)).trans ((zfl_sv_ne (by decide)).trans (zfl_sv_ne (by decide))))
  exact w_qt80A b1 b0 z4 (fun m1 hm1 k1 hm2 => by
    have hmR : aTm aT0 (sR (sR (sR (si (si mem 0 2 0) 0 3 (-1)) 0 4 2) 0 5 14) 181 0 2) := tm_sR aHo_e aHo_0 b1 (by decide)
    have R : ∀ k, ¬ k = 0 → ¬ k = 181 → zat (sR (sR (sR (si (si mem 0 2 0) 0 3 (-1)) 0 4 2) 0 5 14) 181 0 2) k = zat mem k := fun k h1 h2 => (zat_sv_ne (fun w => h2 w.symm)).trans (B k h1)
    have k1c := k1
    obtain ⟨F1, ⟨f4, f5⟩, -⟩ := k1c
    have E1 : ∀ k, ¬ k = 34 → ¬ k = 38 → ¬ k = 185 → zat (si (si (si m1 34 3 0) 38 3 0) 185 9 0) k = zat m1 k := fun k h1 h2 h3 => (zat_sv_ne (fun w => h3 w.symm)).trans ((zat_sv_ne (fun w => h2 w.symm)).trans (zat_sv_ne (fun w => h1 w.symm)))
    have T1 := fs_TA (Q := Q) hmR hW (cQ_zaA (fun k h1 h2 => R k (by omega) (by omega)) hQ) (by rw [gi_zq (R 31 (by decide) (by decide)), gi_zq (hF 31 (by decide))]; exact hs) k1
    have hA := tm_si (x := 0) wO_e wO_3 hm1 (by decide)
    have hB := tm_si (x := 0) rngO_e rngO_3 hA (by decide)
    refine ⟨hm2, Or.inl ⟨_, Q, ?_, rfl, tS_zq (E1 31 (by decide) (by decide) (by decide)) (E1 32 (by decide) (by decide) (by decide)) (E1 33 (by decide) (by decide) (by decide)) T1, ?_, ?_, fun k h1 h2 => ?_, fun k h1 => ?_, ?_, ?_, ?_⟩⟩
    · rw [hV, gi_zq (F1 2 (by decide) (by decide) (by decide)), gi_zq (R 2 (by decide) (by decide))]
    · rw [gi_sv_ne (by decide), gi_sv_ne (by decide), gi_si_eq wO_e wO_3 hm1]
      rfl
    · rw [gi_sv_ne (by decide), gi_si_eq rngO_e rngO_3 hA]
      rfl
    · exact (E1 k (by omega) (by omega) (by omega)).trans ((F1 k (by omega) (by omega) (by omega)).trans ((R k (by omega) (by omega)).trans (hF k (by omega))))
    · exact (E1 k (by omega) (by omega) (by omega)).trans ((F1 k (by omega) (by omega) (by omega)).trans ((R k (by omega) (by omega)).trans (hF k (by omega))))
    · exact (zfl_ea (E1 0 (by decide) (by decide) (by decide))).trans ((zfl_ea (F1 0 (by decide) (by decide) (by decide))).trans ((zfl_sv_ne (by decide)).trans (B15.trans h15)))
    · rw [gi_zq (E1 31 (by decide) (by decide) (by decide)), f4, gi_zq (R 31 (by decide) (by decide)), gi_zq (hF 31 (by decide))]
    · exact (E1 220 (by omega) (by omega) (by omega)).trans ((F1 220 (by omega) (by omega) (by omega)).trans ((R 220 (by omega) (by omega)).trans (hF 220 (by omega)))))
theorem h_qeA {Q0 : Qd} (hm : aTm aT0 mem) (hC : ga mem 28 = ownC) (hP : pQB Q0 mem) (hs : (gi mem 31 4).toInt = -1) : yC zpg (d + 64) 114 [.ref 0] mem (quEx (sQua (ga mem 1) (gi mem 0 1).toInt) mem) := by
  obtain ⟨hp, hsp, hh, hQ0⟩ := hP
  have n01 := cO_r1 hm
  refine yC_of (t := tX11_quay) rfl rfl ?_
  refine w_qyA (T := ga mem 1) hm rfl hsp hC rfl ?_ ?_
  · intro v m h1 k1 w lo a0 h2
    have z0 := zo_at k1.1 (k := 0) (by decide)
    rcases k1.2 with ⟨-, Q, k, hq, hQ⟩ | ⟨k, -⟩
    · exact qe52A h2 (((zfl_ea z0).trans (zfl_sv_ne (by decide))).trans hsp) (((zfl_ea z0).trans (zfl_sv_ne (by decide))).trans hp) k (sQua_W n01.1 k) hQ hs (fun q hq => (zo_at k1.1 (k := q) (by rcases hq with w | w <;> omega)).trans (zat_sv_ne (by omega))) ((zfl_ea z0).trans (zfl_sv_ne (by decide))) a0
    · exact absurd k w
  · intro v m h1 k1 w lo a0 h2
    have z0 := zo_at k1.1 (k := 0) (by decide)
    have z220 : zat m 220 = zat mem 220 := (zo_at k1.1 (k := 220) (by decide)).trans (zat_sv_ne (by decide))
    rcases k1.2 with ⟨k, -⟩ | ⟨-, k⟩
    · exfalso
      omega
    · refine w_qr h2 a0 (fun y e h3 => ⟨h3, Or.inr ⟨k, rfl, fun q q1 q2 => ?_, fun q q1 => ?_, ?_, ?_⟩⟩)
      · rw [zat_sa_ne (by omega), zat_sv_ne (by omega), zat_sv_ne (by omega), zo_at k1.1 (k := q) (by omega), zat_sv_ne (by omega)]
      · rw [zat_sa_ne (by omega), zat_sv_ne (by omega), zat_sv_ne (by omega), zo_at k1.1 (k := q) (by omega), zat_sv_ne (by omega)]
      · exact zfl_sa.trans ((zfl_sv_ne (by decide)).trans ((zfl_sv_ne (by decide)).trans ((zfl_ea z0).trans (zfl_sv_ne (by decide)))))
      · have ey : y = (ga mem 220).getD 1 0 := by
          have e : y.toInt = gn (ga m 220) 1 := e
          rw [ga_zq z220] at e
          exact Int32.toInt_inj.1 e
        show ga (sa _ 220 (Int32.toNatClampNeg 1) (y + 1)) 220 = _
        rw [ga_sa_eq, ga_sv, ga_sv, ga_zq z220, ey]
        rfl
end QTA
section QTB
variable {d : Nat} {mem m : zM} {Q : Qd} {T : List Int32}
set_option maxRecDepth 100000 in
theorem w_sf0B {d : Nat} {mem : zM} {P : Option Value → zM → Prop} {lo : List (Nat × Value)} (hm : aTm aT0 mem) (l_0 : zlg lo 0 = some (.ref 14)) (l_1 : zlg lo 1 = some (.ref 31)) (h1 : ∀ lo, zlg lo 0 = some (.ref 14) → zlg lo 1 = some (.ref 31) → zlg lo 2 = some (.int 0) → aTm aT0 (si (si mem 31 0 0) 31 1 (gi mem 14 12)) → yR zpg tX4_setFirst (d + 1) (15, lo, [], (si (si mem 31 0 0) 31 1 (gi mem 14 12))) P) : yR zpg tX4_setFirst (d + 1) (0, lo, [], mem) P := by
  have r12 := quB_r12 hm
  refine wR_la rfl l_1 ?_
  refine yR_m 1 (fun _ _ _ _ => rfl) ?_
  refine wR_pi rfl nO_e nO_0 hm rfl ?_
  have hm_1 : aTm aT0 (si mem 31 0 0) := tm_si nO_e nO_0 hm (i32_b _)
  refine wR_la rfl l_1 ?_
  refine wR_la rfl l_0 ?_
  refine wR_gi rfl quB_e quB_12 hm_1 (gi_sv_ne (by first | decide | omega)) ?_
  refine wR_pi rfl nO_e nO_1 hm_1 rfl ?_
  have hm_2 : aTm aT0 (si (si mem 31 0 0) 31 1 (gi mem 14 12)) := tm_si nO_e nO_1 hm_1 (by omega)
  refine yR_m 1 (fun _ _ _ _ => rfl) ?_
  refine wR_si rfl rfl (fun lo1 e2 f3 => ?_)
  have lo1_0 := f3 0 _ (by decide) (Or.inl rfl) l_0
  have lo1_1 := f3 1 _ (by decide) (Or.inl rfl) l_1
  exact h1 lo1 lo1_0 lo1_1 e2 hm_2

set_option maxRecDepth 100000 in
theorem w_sf15B {d : Nat} {mem : zM} {P : Option Value → zM → Prop} {t : Int32} {lo : List (Nat × Value)} (hm : aTm aT0 mem) (l_0 : zlg lo 0 = some (.ref 14)) (l_1 : zlg lo 1 = some (.ref 31)) (l_2 : zlg lo 2 = some (.int t)) (ht : 0 ≤ t.toInt ∧ t.toInt ≤ 9) (h1 : 9 ≤ (t).toInt → ∀ (m2 : zM), aTm aT0 m2 → (∀ q, ¬ q = 33 → zat m2 q = zat mem q) → cpJ (ga m2 33) (ga mem 20) (ga mem 33) 0 0 6 → aTm aT0 m2 → P none m2) (h2 : (t).toInt < 9 → ∀ (x5 : Int32), x5.toInt = ((t).toInt + 1) → ∀ lo, zlg lo 0 = some (.ref 14) → zlg lo 1 = some (.ref 31) → zlg lo 2 = some (.int x5) → aTm aT0 (sx mem 32 t 0) → yR zpg tX4_setFirst (d + 1) (15, lo, [], (sx mem 32 t 0)) P) : yR zpg tX4_setFirst (d + 1) (15, lo, [], mem) P := by
  refine wR_li rfl l_2 ?_
  refine yR_m 1 (fun _ _ _ _ => rfl) ?_
  refine wR_ic_ge rfl (a := (t).toInt) (c := 9) rfl rfl (fun q1 => ?_) (fun q1 => ?_)
  ·
    refine wR_la rfl l_0 ?_
    refine wR_gr rfl quB_e quB_15 hm ?_
    refine yR_m 1 (fun _ _ _ _ => rfl) ?_
    refine wR_la rfl l_1 ?_
    refine wR_gr rfl nO_e nO_3 hm ?_
    refine yR_m 2 (fun _ _ _ _ => rfl) ?_
    refine wN_cp (a := 0) (b := 0) (c := 6) rfl aR_20 aR_33 hm rfl rfl rfl rfl rfl (by omega) rfl (fun m2 hm2 k3 k4 => ?_)
    exact yR_rv rfl (h1 q1 m2 hm2 k3 k4 hm2)
  ·
    refine wR_la rfl l_1 ?_
    refine wR_gr rfl nO_e nO_2 hm ?_
    refine wR_li rfl l_2 ?_
    refine yR_m 1 (fun _ _ _ _ => rfl) ?_
    refine wN_as (a := (t).toInt) rfl aR_32 hm rfl (by omega) ?_
    have hm_1 : aTm aT0 (sx mem 32 t 0) := tm_sa aR_32 hm (i32_b _)
    refine wN_in (a := (t).toInt) (b := 1) rfl rfl l_2 rfl rfl (by omega) (fun x5 e6 => fun lo7 e8 f9 => ?_)
    have lo7_0 := f9 0 _ (by decide) (Or.inl rfl) l_0
    have lo7_1 := f9 1 _ (by decide) (Or.inl rfl) l_1
    exact yR_m 1 (fun _ _ _ _ => rfl) (h2 q1 x5 e6 lo7 lo7_0 lo7_1 e8 hm_1)

theorem sf_lpB {mr : zM} : ∀ (g : Nat) (t : Int32) (mem : zM) (lo : List (Nat × Value)), t.toInt + (g : Int) = 9 → 0 ≤ t.toInt → (∀ k, ¬ k = 32 → zat mem k = zat mr k) → (∀ u, 0 ≤ u → u < t.toInt → gn (ga mem 32) u = 0) → aTm aT0 mem → zlg lo 0 = some (.ref 14) → zlg lo 1 = some (.ref 31) → zlg lo 2 = some (.int t) → yR zpg tX4_setFirst (d + 1) (15, lo, [], mem) (fun r m => r = none ∧ aTm aT0 m ∧ ((∀ k, ¬ k = 32 → ¬ k = 33 → zat m k = zat mr k) ∧ (∀ u, 0 ≤ u → u < 9 → gn (ga m 32) u = 0) ∧ ∀ u, 0 ≤ u → u < 6 → gn (ga m 33) u = gn (ga mr 20) u)) := by
  intro g
  induction g with
  | zero =>
    intro t mem lo hg t0 hF hA hm l0 l1 l2
    exact w_sf15B hm l0 l1 l2 ⟨t0, by omega⟩ (fun q1 m2 hm2 k1 c1 hm3 => ⟨rfl, hm3, fun k a b => (k1 k b).trans (hF k a), fun u u0 u1 => by rw [ga_zq (k1 32 (by decide))]; exact hA u u0 (by omega), fun u u0 u1 => by rw [c1 u u0, if_pos (by omega), show u - 0 + 0 = u by omega, ga_zq (hF 20 (by decide))]⟩) (fun q1 x5 e5 lo a0 a1 a2 hm2 => by exfalso; omega)
  | succ g ih =>
    intro t mem lo hg t0 hF hA hm l0 l1 l2
    exact w_sf15B hm l0 l1 l2 ⟨t0, by omega⟩ (fun q1 m2 hm2 k1 c1 hm3 => by exfalso; omega) (fun q1 x5 e5 lo a0 a1 a2 hm2 => ih _ _ lo (by omega) (by omega) (fun k hk => (zat_sa_ne (fun w => hk w.symm)).trans (hF k hk)) (fun u u0 u1 => by
        show gn (ga (sa mem 32 t.toNatClampNeg 0) 32) u = 0
        rw [ga_sa_eq, gn_set rfl t0 (by rw [(ga_ty aR_32 hm).2.1]; omega) u0]
        by_cases w : u = t.toInt
        · rw [if_pos w]
          rfl
        · rw [if_neg w]
          exact hA u u0 (by omega)) hm2 a0 a1 a2)
theorem h_sfB (hm : aTm aT0 mem) (hd : 2 ≤ d) : yC zpg d 49 [.ref 14, .ref 31] mem (fun r m => r = none ∧ aTm aT0 m ∧ sfP 14 20 mem m) := by
  obtain ⟨d, rfl⟩ : ∃ q, d = q + 2 := ⟨d - 2, by omega⟩
  refine yC_of (t := tX4_setFirst) rfl rfl ?_
  exact w_sf0B hm rfl rfl (fun lo a0 a1 a2 hm2 => by
    refine yR_mono ?_ (sf_lpB 9 0 _ lo rfl (by decide) (fun _ _ => rfl) (fun u u0 u1 => by exfalso; have z : (0 : Int32).toInt = 0 := rfl; omega) hm2 a0 a1 a2)
    rintro r m ⟨h1, h2, h3, h4, h5⟩
    have e1 := tm_si (x := 0) nO_e nO_0 hm (i32_b _)
    have G : ∀ i, gi m 31 i = gi (si (si mem 31 0 0) 31 1 (gi mem 14 12)) 31 i := fun i => gi_zq (h3 31 (by decide) (by decide))
    refine ⟨h1, h2, fun k q0 q1 q2 => (h3 k q1 q2).trans ((zat_sv_ne (fun w => q0 w.symm)).trans (zat_sv_ne (fun w => q0 w.symm))), ⟨?_, ?_⟩, ⟨?_, ?_⟩, h4, fun u u0 u1 => ?_⟩
    · rw [G, gi_sv_ne (by decide), gi_sv_ne (by decide)]
    · rw [G, gi_sv_ne (by decide), gi_sv_ne (by decide)]
    · rw [G, gi_sv_ne (by decide), gi_si_eq nO_e nO_0 hm]
      rfl
    · rw [G, gi_si_eq nO_e nO_1 e1]
    · rw [h5 u u0 u1, ga_sv, ga_sv])
theorem fs_TB {m0 : zM} (hm0 : aTm aT0 m0) (hW : WQ Q) (hC : cQ 14 15 16 19 20 21 24 25 Q m0) (hs : (gi m0 31 4).toInt = -1) (h : sfP 14 20 m0 m) : tS 31 Q (huA Q) (fsS Q) m := by
  obtain ⟨-, ⟨f4, f5⟩, ⟨g0, g1⟩, g2, g3⟩ := h
  have t9 : thN Q ≤ 9 := by
    have := hW.2.1.1
    unfold thN
    omega
  have l6 : foN Q ≤ 6 := by
    have := hW.2.1.2.1
    unfold foN
    omega
  have r12 := quB_r12 hm0
  refine ⟨⟨g0, ?_⟩, fun u u0 u1 => g2 u u0 (by omega), fun u u0 u1 => ?_, fun u u0 u1 => ⟨fun w => by rw [f4] at w; omega, fun _ => rfl⟩⟩
  · rw [g1]
    refine bt_ex r12.1 (tnF_9 _ hW.2.1.1).1 (fun i i0 i1 => ?_)
    by_cases i9 : i < 9
    · exact ((hC.2.2.2.1).1 i i0 i9).trans (fsM_b hW i0 i1).symm
    · exact ⟨fun z => absurd z (bt_9n r12.1 r12.2 (by omega)), fun z => absurd z (bt_9n (tnF_9 _ hW.2.1.1).1 (tnF_9 _ hW.2.1.1).2 (by omega))⟩
  · rw [g3 u u0 (by omega)]
    exact (cq_fB hC u0 u1).1
set_option maxRecDepth 100000 in
theorem w_qt80B {d : Nat} {mem : zM} {P : Option Value → zM → Prop} {lo : List (Nat × Value)} (hm : aTm aT0 mem) (l_0 : zlg lo 0 = some (.ref 0)) (hq4 : zfl mem 0 4 = some (.ref 14)) (h1 : ∀ (m1 : zM), aTm aT0 m1 → sfP 14 20 (sR mem 181 0 14) m1 → aTm aT0 (si (si (si m1 34 3 0) 38 3 0) 185 9 0) → P (some (.int (gi m1 14 0))) (si (si (si m1 34 3 0) 38 3 0) 185 9 0)) : yR zpg tX11_quay (d + 63) (80, lo, [], mem) P := by
  refine wR_la rfl l_0 ?_
  refine wR_gr rfl cO_e cO_10 hm ?_
  refine wR_la rfl l_0 ?_
  refine wR_gq rfl cO_e hm hq4 ?_
  refine wR_iv rfl rfl hrO_e hm rfl rfl rfl rfl ?_
  show yR zpg tX0_moveTo (d + 62) (0, [(0, .ref 181), (1, .ref 14)], [], mem) _
  refine yR_m 2 (fun _ _ _ _ => rfl) ?_
  refine wR_pr rfl hrO_e hrO_0 hm rfl ?_
  have hm_1 : aTm aT0 (sR mem 181 0 14) := tm_sR hrO_e hrO_0 hm (by decide)
  refine yR_rv rfl ?_
  show yR zpg tX11_quay (d + 63) (91, lo, [], (sR mem 181 0 14)) _
  refine wR_la rfl l_0 ?_
  refine wR_gq rfl cO_e hm_1 ((zfl_sv_ne (by first | decide | omega)).trans hq4) ?_
  refine wR_la rfl l_0 ?_
  refine wR_gr rfl cO_e cO_7 hm_1 ?_
  refine wR_cv rfl rfl quB_e hm_1 rfl (h_sfB hm_1 (by omega)) ?_
  rintro _ m1 ⟨rfl, hm1, k2⟩
  show yR zpg tX11_quay (d + 63) (102, lo, [], m1) _
  refine wR_la rfl l_0 ?_
  refine wR_iv rfl rfl cO_e hm1 rfl rfl rfl rfl ?_
  show yR zpg tX11_forgetActs (d + 62) (0, [(0, .ref 0)], [], m1) _
  refine yR_m 1 (fun _ _ _ _ => rfl) ?_
  refine wR_gr rfl cO_e cO_8 hm1 ?_
  refine yR_m 1 (fun _ _ _ _ => rfl) ?_
  refine wR_pi rfl wO_e wO_3 hm1 rfl ?_
  have hm_2 : aTm aT0 (si m1 34 3 0) := tm_si wO_e wO_3 hm1 (by decide)
  refine yR_m 1 (fun _ _ _ _ => rfl) ?_
  refine wR_gr rfl cO_e cO_9 hm_2 ?_
  refine yR_m 1 (fun _ _ _ _ => rfl) ?_
  refine wR_pi rfl rngO_e rngO_3 hm_2 rfl ?_
  have hm_3 : aTm aT0 (si (si m1 34 3 0) 38 3 0) := tm_si rngO_e rngO_3 hm_2 (by decide)
  refine yR_rv rfl ?_
  show yR zpg tX11_quay (d + 63) (106, lo, [], (si (si m1 34 3 0) 38 3 0)) _
  refine wR_la rfl l_0 ?_
  refine wR_gr rfl cO_e cO_11 hm_3 ?_
  refine wR_iv rfl rfl plO_e hm_3 rfl rfl rfl rfl ?_
  show yR zpg tX3_forgetMet (d + 62) (0, [(0, .ref 185)], [], (si (si m1 34 3 0) 38 3 0)) _
  refine yR_m 2 (fun _ _ _ _ => rfl) ?_
  refine wR_pi rfl plO_e plO_9 hm_3 rfl ?_
  have hm_4 : aTm aT0 (si (si (si m1 34 3 0) 38 3 0) 185 9 0) := tm_si plO_e plO_9 hm_3 (by decide)
  refine yR_rv rfl ?_
  show yR zpg tX11_quay (d + 63) (113, lo, [], (si (si (si m1 34 3 0) 38 3 0) 185 9 0)) _
  refine wR_la rfl l_0 ?_
  refine wR_gq rfl cO_e hm_4 ((zfl_sv_ne (by first | decide | omega)).trans ((zfl_sv_ne (by first | decide | omega)).trans ((zfl_sv_ne (by first | decide | omega)).trans ((zfl_ea (k2.1 0 (by decide) (by decide) (by decide))).trans ((zfl_sv_ne (by decide)).trans hq4))))) ?_
  refine wR_gi rfl quB_e quB_0 hm_4 ((gi_sv_ne (by first | decide | omega)).trans ((gi_sv_ne (by first | decide | omega)).trans (gi_sv_ne (by first | decide | omega)))) ?_
  exact yR_ri rfl (h1 m1 hm1 k2 hm_4)

theorem qe52B {V : Option (Int × Qd)} {m0 : zM} {lo : List (Nat × Value)} (hm : aTm aT0 mem) (hsp : zfl mem 0 5 = some (.ref 14)) (hp : zfl mem 0 4 = some (.ref 2)) (hV : V = some ((gi mem 14 0).toInt, Q)) (hW : WQ Q) (hQ : cQ 14 15 16 19 20 21 24 25 Q mem) (hs : (gi m0 31 4).toInt = -1) (hF : ∀ k, (31 ≤ k ∧ k ≤ 180) ∨ 220 ≤ k → zat mem k = zat m0 k) (h15 : zfl mem 0 15 = zfl m0 0 15) (a0 : zlg lo 0 = some (.ref 0)) : yR zpg tX11_quay (d + 63) (52, lo, [], mem) (quEx V m0) := by
  have e1 : aTm aT0 (si mem 0 2 0) := tm_si cO_e cO_2 hm (by decide)
  have e2 : aTm aT0 (si (si mem 0 2 0) 0 3 (-1)) := tm_si cO_e cO_3 e1 (by decide)
  have e3 : aTm aT0 (sR (si (si mem 0 2 0) 0 3 (-1)) 0 4 14) := tm_sR cO_e cO_4 e2 (by decide)
  refine w_qsB hm a0 hsp hp (fun lo b0 b1 => ?_)
  have z4 : zfl (sR (sR (si (si mem 0 2 0) 0 3 (-1)) 0 4 14) 0 5 2) 0 4 = some (.ref 14) := (zfl_sv_ne (by decide)).trans (zfl_sR cO_e cO_4 e2)
  have B : ∀ k, ¬ k = 0 → zat (sR (sR (si (si mem 0 2 0) 0 3 (-1)) 0 4 14) 0 5 2) k = zat mem k := fun k hk => (zat_sv_ne (fun w => hk w.symm)).trans ((zat_sv_ne (fun w => hk w.symm)).trans ((zat_sv_ne (fun w => hk w.symm)).trans (zat_sv_ne (fun w => hk w.symm))))
  have B15 : zfl (sR (sR (si (si mem 0 2 0) 0 3 (-1)) 0 4 14) 0 5 2) 0 15 = zfl mem 0 15 := (zfl_sv_ne (by decide)).trans ((zfl_sv_ne (by decide)).trans ((zfl_sv_ne (by decide)).trans (zfl_sv_ne (by decide))))
  exact w_qt80B b1 b0 z4 (fun m1 hm1 k1 hm2 => by
    have hmR : aTm aT0 (sR (sR (sR (si (si mem 0 2 0) 0 3 (-1)) 0 4 14) 0 5 2) 181 0 14) := tm_sR aHo_e aHo_0 b1 (by decide)
    have R : ∀ k, ¬ k = 0 → ¬ k = 181 → zat (sR (sR (sR (si (si mem 0 2 0) 0 3 (-1)) 0 4 14) 0 5 2) 181 0 14) k = zat mem k := fun k h1 h2 => (zat_sv_ne (fun w => h2 w.symm)).trans (B k h1)
    have k1c := k1
    obtain ⟨F1, ⟨f4, f5⟩, -⟩ := k1c
    have E1 : ∀ k, ¬ k = 34 → ¬ k = 38 → ¬ k = 185 → zat (si (si (si m1 34 3 0) 38 3 0) 185 9 0) k = zat m1 k := fun k h1 h2 h3 => (zat_sv_ne (fun w => h3 w.symm)).trans ((zat_sv_ne (fun w => h2 w.symm)).trans (zat_sv_ne (fun w => h1 w.symm)))
    have T1 := fs_TB (Q := Q) hmR hW (cQ_zaB (fun k h1 h2 => R k (by omega) (by omega)) hQ) (by rw [gi_zq (R 31 (by decide) (by decide)), gi_zq (hF 31 (by decide))]; exact hs) k1
    have hA := tm_si (x := 0) wO_e wO_3 hm1 (by decide)
    have hB := tm_si (x := 0) rngO_e rngO_3 hA (by decide)
    refine ⟨hm2, Or.inl ⟨_, Q, ?_, rfl, tS_zq (E1 31 (by decide) (by decide) (by decide)) (E1 32 (by decide) (by decide) (by decide)) (E1 33 (by decide) (by decide) (by decide)) T1, ?_, ?_, fun k h1 h2 => ?_, fun k h1 => ?_, ?_, ?_, ?_⟩⟩
    · rw [hV, gi_zq (F1 14 (by decide) (by decide) (by decide)), gi_zq (R 14 (by decide) (by decide))]
    · rw [gi_sv_ne (by decide), gi_sv_ne (by decide), gi_si_eq wO_e wO_3 hm1]
      rfl
    · rw [gi_sv_ne (by decide), gi_si_eq rngO_e rngO_3 hA]
      rfl
    · exact (E1 k (by omega) (by omega) (by omega)).trans ((F1 k (by omega) (by omega) (by omega)).trans ((R k (by omega) (by omega)).trans (hF k (by omega))))
    · exact (E1 k (by omega) (by omega) (by omega)).trans ((F1 k (by omega) (by omega) (by omega)).trans ((R k (by omega) (by omega)).trans (hF k (by omega))))
    · exact (zfl_ea (E1 0 (by decide) (by decide) (by decide))).trans ((zfl_ea (F1 0 (by decide) (by decide) (by decide))).trans ((zfl_sv_ne (by decide)).trans (B15.trans h15)))
    · rw [gi_zq (E1 31 (by decide) (by decide) (by decide)), f4, gi_zq (R 31 (by decide) (by decide)), gi_zq (hF 31 (by decide))]
    · exact (E1 220 (by omega) (by omega) (by omega)).trans ((F1 220 (by omega) (by omega) (by omega)).trans ((R 220 (by omega) (by omega)).trans (hF 220 (by omega)))))
theorem h_qeB {Q0 : Qd} (hm : aTm aT0 mem) (hC : ga mem 28 = ownC) (hP : pQA Q0 mem) (hs : (gi mem 31 4).toInt = -1) : yC zpg (d + 64) 114 [.ref 0] mem (quEx (sQua (ga mem 1) (gi mem 0 1).toInt) mem) := by
  obtain ⟨hp, hsp, hh, hQ0⟩ := hP
  have n01 := cO_r1 hm
  refine yC_of (t := tX11_quay) rfl rfl ?_
  refine w_qyB (T := ga mem 1) hm rfl hsp hC rfl ?_ ?_
  · intro v m h1 k1 w lo a0 h2
    have z0 := zo_at k1.1 (k := 0) (by decide)
    rcases k1.2 with ⟨-, Q, k, hq, hQ⟩ | ⟨k, -⟩
    · exact qe52B h2 (((zfl_ea z0).trans (zfl_sv_ne (by decide))).trans hsp) (((zfl_ea z0).trans (zfl_sv_ne (by decide))).trans hp) k (sQua_W n01.1 k) hQ hs (fun q hq => (zo_at k1.1 (k := q) (by rcases hq with w | w <;> omega)).trans (zat_sv_ne (by omega))) ((zfl_ea z0).trans (zfl_sv_ne (by decide))) a0
    · exact absurd k w
  · intro v m h1 k1 w lo a0 h2
    have z0 := zo_at k1.1 (k := 0) (by decide)
    have z220 : zat m 220 = zat mem 220 := (zo_at k1.1 (k := 220) (by decide)).trans (zat_sv_ne (by decide))
    rcases k1.2 with ⟨k, -⟩ | ⟨-, k⟩
    · exfalso
      omega
    · refine w_qr h2 a0 (fun y e h3 => ⟨h3, Or.inr ⟨k, rfl, fun q q1 q2 => ?_, fun q q1 => ?_, ?_, ?_⟩⟩)
      · rw [zat_sa_ne (by omega), zat_sv_ne (by omega), zat_sv_ne (by omega), zo_at k1.1 (k := q) (by omega), zat_sv_ne (by omega)]
      · rw [zat_sa_ne (by omega), zat_sv_ne (by omega), zat_sv_ne (by omega), zo_at k1.1 (k := q) (by omega), zat_sv_ne (by omega)]
      · exact zfl_sa.trans ((zfl_sv_ne (by decide)).trans ((zfl_sv_ne (by decide)).trans ((zfl_ea z0).trans (zfl_sv_ne (by decide)))))
      · have ey : y = (ga mem 220).getD 1 0 := by
          have e : y.toInt = gn (ga m 220) 1 := e
          rw [ga_zq z220] at e
          exact Int32.toInt_inj.1 e
        show ga (sa _ 220 (Int32.toNatClampNeg 1) (y + 1)) 220 = _
        rw [ga_sa_eq, ga_sv, ga_sv, ga_zq z220, ey]
        rfl
end QTB
theorem h_quaE {d : Nat} {mem : zM} {Q0 : Qd} (hm : aTm aT0 mem) (hC : ga mem 28 = ownC) (hP : pQ Q0 mem) (hs : (gi mem 31 4).toInt = -1) (hd : 64 ≤ d) : yC zpg d 114 [.ref 0] mem (quEx (sQua (ga mem 1) (gi mem 0 1).toInt) mem) := by
  obtain ⟨d, rfl⟩ : ∃ q, d = q + 64 := ⟨d - 64, by omega⟩
  rcases hP with h | h
  · exact h_qeB hm hC h hs
  · exact h_qeA hm hC h hs
