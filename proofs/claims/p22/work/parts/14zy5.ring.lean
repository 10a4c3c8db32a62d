/-! the ring of what was ahead of acts: the class -/
def rngO : List (Bool × aTy) := match aat aT0 38 with
  | some (.inr o) => o.2
  | _ => []
set_option maxRecDepth 100000 in
theorem rngO_e : aat aT0 38 = some (.inr (2, rngO)) := rfl
set_option maxRecDepth 100000 in
theorem rngO_0 : rngO[0]? = some (false, .inr (some [39])) := rfl
set_option maxRecDepth 100000 in
theorem rngO_1 : rngO[1]? = some (false, .inr (some [40])) := rfl
set_option maxRecDepth 100000 in
theorem rngO_2 : rngO[2]? = some (false, .inl (0, 19)) := rfl
theorem rngO_r2 {m : zM} (hm : aTm aT0 m) : 0 ≤ (gi m 38 2).toInt ∧ (gi m 38 2).toInt ≤ 19 := gi_rg rngO_e rngO_2 hm
set_option maxRecDepth 100000 in
theorem rngO_3 : rngO[3]? = some (false, .inl (0, 20)) := rfl
theorem rngO_r3 {m : zM} (hm : aTm aT0 m) : 0 ≤ (gi m 38 3).toInt ∧ (gi m 38 3).toInt ≤ 20 := gi_rg rngO_e rngO_3 hm
section RGC
variable {d : Nat} {mem : zM} {Q : Qd} {S : Sd} {K : Kd} {P : Pd} {hu : Int → Int}
set_option maxRecDepth 100000 in
theorem iT_31 : isT 31 := ⟨rfl, rfl, rfl⟩
set_option maxRecDepth 100000 in
theorem iW_34 : isW 34 := ⟨rfl, rfl, rfl, rfl⟩
set_option maxRecDepth 100000 in
theorem iT_r {n : Nat} (hn : n < 20) : isT (41 + 7 * n) := by
  rcases (show n = 0 ∨ n = 1 ∨ n = 2 ∨ n = 3 ∨ n = 4 ∨ n = 5 ∨ n = 6 ∨ n = 7 ∨ n = 8 ∨ n = 9 ∨ n = 10 ∨ n = 11 ∨ n = 12 ∨ n = 13 ∨ n = 14 ∨ n = 15 ∨ n = 16 ∨ n = 17 ∨ n = 18 ∨ n = 19 by omega) with r | r | r | r | r | r | r | r | r | r | r | r | r | r | r | r | r | r | r | r <;> (subst r; exact ⟨rfl, rfl, rfl⟩)
set_option maxRecDepth 100000 in
theorem iW_r {n : Nat} (hn : n < 20) : isW (44 + 7 * n) := by
  rcases (show n = 0 ∨ n = 1 ∨ n = 2 ∨ n = 3 ∨ n = 4 ∨ n = 5 ∨ n = 6 ∨ n = 7 ∨ n = 8 ∨ n = 9 ∨ n = 10 ∨ n = 11 ∨ n = 12 ∨ n = 13 ∨ n = 14 ∨ n = 15 ∨ n = 16 ∨ n = 17 ∨ n = 18 ∨ n = 19 by omega) with r | r | r | r | r | r | r | r | r | r | r | r | r | r | r | r | r | r | r | r <;> (subst r; exact ⟨rfl, rfl, rfl, rfl⟩)
def r39 : List (Option Nat) := (List.range 20).map fun k => some (41 + 7 * k)
def r40 : List (Option Nat) := (List.range 20).map fun k => some (44 + 7 * k)
theorem r39_a {n : Nat} (hn : n < 20) : r39.getD n none = some (41 + 7 * n) := by
  have z : ∀ N : Fin 20, r39.getD N.val none = some (41 + 7 * N.val) := by decide
  exact z ⟨n, hn⟩
theorem r40_a {n : Nat} (hn : n < 20) : r40.getD n none = some (44 + 7 * n) := by
  have z : ∀ N : Fin 20, r40.getD N.val none = some (44 + 7 * N.val) := by decide
  exact z ⟨n, hn⟩
/-- the ring's places -/
def rcE (m : zM) : Prop := zat m 39 = some (.inl (3, .inr (.inr r39))) ∧ zat m 40 = some (.inl (4, .inr (.inr r40)))
theorem rcE_q {m m' : zM} (a : zat m' 39 = zat m 39) (b : zat m' 40 = zat m 40) (hh : rcE m) : rcE m' := ⟨a.trans hh.1, b.trans hh.2⟩
theorem rgE_q {tt k u : Nat} {x : Int32} {m m' : zM} (a : zat m' k = zat m k) (hh : rgE tt m k x u) : rgE tt m' k x u := by
  obtain ⟨f, h1, h2⟩ := hh
  exact ⟨f, a.trans h1, h2⟩
theorem rgE_3 {x : Int32} {n : Nat} {m : zM} (hh : rcE m) (hn : n < 20) (hx : x.toInt = (n : Int)) : rgE 3 m 39 x (41 + 7 * n) := by
  have z := zclamp (x := x) (by omega)
  refine ⟨r39, hh.1, ⟨by omega, ?_⟩, ?_⟩
  · rw [show r39.length = 20 from rfl]
    omega
  · rw [show x.toNatClampNeg = n by omega]
    exact r39_a hn
theorem rgE_4 {x : Int32} {n : Nat} {m : zM} (hh : rcE m) (hn : n < 20) (hx : x.toInt = (n : Int)) : rgE 4 m 40 x (44 + 7 * n) := by
  have z := zclamp (x := x) (by omega)
  refine ⟨r40, hh.2, ⟨by omega, ?_⟩, ?_⟩
  · rw [show r40.length = 20 from rfl]
    omega
  · rw [show x.toNatClampNeg = n by omega]
    exact r40_a hn
/-- the place in the ring of the k-th of n, x comes next -/
def ixN (x n k : Int) : Nat := ((x + 20 - n + k) % 20).toNat
/-- what the ring tells, x comes next -/
def rgX (Q : Qd) (hu : Int → Int) (x : Int) (P : Pd) (m : zM) : Prop := ∀ k, 0 ≤ k → k < P.1 → tS (41 + 7 * ixN x P.1 k) Q hu (P.2 k).1 m ∧ kC (44 + 7 * ixN x P.1 k) (P.2 k).2 m
def rgC (Q : Qd) (hu : Int → Int) (P : Pd) (m : zM) : Prop := (0 ≤ P.1 ∧ P.1 ≤ 20) ∧ ((gi m 38 3).toInt = P.1 ∧ 0 ≤ (gi m 38 2).toInt ∧ (gi m 38 2).toInt < 20) ∧ rcE m ∧ rgX Q hu (gi m 38 2).toInt P m
theorem rgC_zq {m m' : zM} (hh : ∀ k, 38 ≤ k → k ≤ 180 → zat m' k = zat m k) (hP : rgC Q hu P m) : rgC Q hu P m' := by
  obtain ⟨h1, h2, h3, h4⟩ := hP
  unfold rgC
  rw [gi_zq (hh 38 (by decide) (by decide)), gi_zq (hh 38 (by decide) (by decide))]
  refine ⟨h1, h2, rcE_q (hh 39 (by decide) (by decide)) (hh 40 (by decide) (by decide)) h3, fun k k0 k1 => ?_⟩
  have l : ixN (gi m 38 2).toInt P.1 k < 20 := by
    unfold ixN
    omega
  obtain ⟨a, b⟩ := h4 k k0 k1
  exact ⟨tS_zq (hh _ (by omega) (by omega)) (hh _ (by omega) (by omega)) (hh _ (by omega) (by omega)) a, kC_zq (hh _ (by omega) (by omega)) (hh _ (by omega) (by omega)) (hh _ (by omega) (by omega)) (hh _ (by omega) (by omega)) b⟩
set_option maxRecDepth 100000 in
theorem w_pu {d : Nat} {mem : zM} {P : Option Value → zM → Prop} {u w : Nat} (hm : aTm aT0 mem) (uVO_e : aat aT0 u = some (.inr (8, sVO u))) (aR_u1 : aat aT0 (u + 1) = some (.inl (false, 0, 9, .inl (-2147483648, 2147483647)))) (aR_u2 : aat aT0 (u + 2) = some (.inl (false, 0, 6, .inl (-2147483648, 2147483647)))) (wVO_e : aat aT0 w = some (.inr (1, rVO w))) (aR_w1 : aat aT0 (w + 1) = some (.inl (false, 0, 40, .inl (-2147483648, 2147483647)))) (aR_w2 : aat aT0 (w + 2) = some (.inl (false, 0, 40, .inl (-2147483648, 2147483647)))) (aR_w3 : aat aT0 (w + 3) = some (.inl (false, 0, 40, .inl (-2147483648, 2147483647)))) (hu1 : 41 ≤ u ∧ u ≤ 174) (hw1 : 44 ≤ w ∧ w ≤ 177) (s1 : rgE 3 mem 39 (gi mem 38 2) u) (s2 : ∀ (m1 : zM), aTm aT0 m1 → (frT u mem m1 ∧ cfS u 31 mem m1) → rgE 4 m1 40 (gi m1 38 2) w) (h1 : ∀ (m1 : zM), aTm aT0 m1 → (frT u mem m1 ∧ cfS u 31 mem m1) → ∀ (m3 : zM), aTm aT0 m3 → (frW w m1 m3 ∧ ∀ K, kC 34 K m1 → kC w K m3) → ∀ (x5 : Int32), x5.toInt = ((gi m3 38 2).toInt + 1) → ∀ (x7 : Int32), x7.toInt = (((gi m3 38 2).toInt + 1) % 20) → ∀ (x9 : Int32), x9.toInt = ((gi m3 38 3).toInt + 1) → ∀ (x11 : Int32), x11.toInt = (min ((gi m3 38 3).toInt + 1) 20) → aTm aT0 (si (si m3 38 2 x7) 38 3 x11) → P none (si (si m3 38 2 x7) 38 3 x11)) : yR zpg tX2_push (d + 3) (0, [(0, .ref 38), (1, .ref 31), (2, .ref 34)], [], mem) P := by
  have r2 := rngO_r2 hm
  have r3 := rngO_r3 hm
  refine yR_m 1 (fun _ _ _ _ => rfl) ?_
  refine wR_gr rfl rngO_e rngO_0 hm ?_
  refine yR_m 1 (fun _ _ _ _ => rfl) ?_
  refine wR_gi rfl rngO_e rngO_2 hm rfl ?_
  refine wR_aq rfl s1 ?_
  refine yR_m 1 (fun _ _ _ _ => rfl) ?_
  refine wR_cv rfl rfl uVO_e hm rfl (h_cf hm ⟨uVO_e, aR_u1, aR_u2⟩ iT_31 (by omega) (by omega)) ?_
  rintro _ m1 ⟨rfl, hm1, k2⟩
  show yR zpg tX2_push (d + 3) (13, [(0, .ref 38), (1, .ref 31), (2, .ref 34)], [], m1) _
  have r2_m1 := rngO_r2 hm1
  have r3_m1 := rngO_r3 hm1
  refine yR_m 1 (fun _ _ _ _ => rfl) ?_
  refine wR_gr rfl rngO_e rngO_1 hm1 ?_
  refine yR_m 1 (fun _ _ _ _ => rfl) ?_
  refine wR_gi rfl rngO_e rngO_2 hm1 rfl ?_
  refine wR_aq rfl (s2 m1 hm1 k2) ?_
  refine yR_m 1 (fun _ _ _ _ => rfl) ?_
  refine wR_cv rfl rfl wVO_e hm1 rfl (h_rc hm1 ⟨wVO_e, aR_w1, aR_w2, aR_w3⟩ iW_34 (by omega) (by omega)) ?_
  rintro _ m3 ⟨rfl, hm3, k4⟩
  show yR zpg tX2_push (d + 3) (26, [(0, .ref 38), (1, .ref 31), (2, .ref 34)], [], m3) _
  have r2_m3 := rngO_r2 hm3
  have r3_m3 := rngO_r3 hm3
  refine yR_m 2 (fun _ _ _ _ => rfl) ?_
  refine wR_gi rfl rngO_e rngO_2 hm3 rfl ?_
  refine yR_m 1 (fun _ _ _ _ => rfl) ?_
  refine wN_add (a := (gi m3 38 2).toInt) (b := 1) rfl rfl rfl (by omega) (fun x5 e6 => ?_)
  refine yR_m 1 (fun _ _ _ _ => rfl) ?_
  refine wN_rem (a := ((gi m3 38 2).toInt + 1)) (b := 20) rfl e6 rfl (by decide) (by omega) (fun x7 e8 => ?_)
  refine wR_pi rfl rngO_e rngO_2 hm3 rfl ?_
  have hm_1 : aTm aT0 (si m3 38 2 x7) := tm_si rngO_e rngO_2 hm3 (by rw [e8]; exact (by omega))
  refine yR_m 2 (fun _ _ _ _ => rfl) ?_
  refine wR_gi rfl rngO_e rngO_3 hm_1 (gi_sv_ne (by first | decide | omega)) ?_
  refine yR_m 1 (fun _ _ _ _ => rfl) ?_
  refine wN_add (a := (gi m3 38 3).toInt) (b := 1) rfl rfl rfl (by omega) (fun x9 e10 => ?_)
  refine yR_m 1 (fun _ _ _ _ => rfl) ?_
  refine wN_mi (a := ((gi m3 38 3).toInt + 1)) (b := 20) rfl e10 rfl rfl (fun x11 e12 => ?_)
  refine wR_pi rfl rngO_e rngO_3 hm_1 rfl ?_
  have hm_2 : aTm aT0 (si (si m3 38 2 x7) 38 3 x11) := tm_si rngO_e rngO_3 hm_1 (by rw [e12]; exact (by omega))
  exact yR_rv rfl (h1 m1 hm1 k2 m3 hm3 k4 x5 e6 x7 e8 x9 e10 x11 e12 hm_2)

set_option maxRecDepth 100000 in
theorem w_po {d : Nat} {mem : zM} {P : Option Value → zM → Prop} {u w : Nat} (hm : aTm aT0 mem) (uVO_e : aat aT0 u = some (.inr (8, sVO u))) (aR_u1 : aat aT0 (u + 1) = some (.inl (false, 0, 9, .inl (-2147483648, 2147483647)))) (aR_u2 : aat aT0 (u + 2) = some (.inl (false, 0, 6, .inl (-2147483648, 2147483647)))) (wVO_e : aat aT0 w = some (.inr (1, rVO w))) (aR_w1 : aat aT0 (w + 1) = some (.inl (false, 0, 40, .inl (-2147483648, 2147483647)))) (aR_w2 : aat aT0 (w + 2) = some (.inl (false, 0, 40, .inl (-2147483648, 2147483647)))) (aR_w3 : aat aT0 (w + 3) = some (.inl (false, 0, 40, .inl (-2147483648, 2147483647)))) (hu1 : 41 ≤ u ∧ u ≤ 174) (hw1 : 44 ≤ w ∧ w ≤ 177) (h1 : (gi mem 38 3).toInt ≤ 0 → aTm aT0 mem → P none mem) (s1 : 0 < (gi mem 38 3).toInt → ∀ (x2 : Int32), x2.toInt = ((gi mem 38 2).toInt + 20) → ∀ (x4 : Int32), x4.toInt = (((gi mem 38 2).toInt + 20) - 1) → ∀ (x6 : Int32), x6.toInt = ((((gi mem 38 2).toInt + 20) - 1) % 20) → ∀ (x8 : Int32), x8.toInt = ((gi mem 38 3).toInt - 1) → rgE 3 (si (si mem 38 2 x6) 38 3 x8) 39 x6 u) (s2 : 0 < (gi mem 38 3).toInt → ∀ (x2 : Int32), x2.toInt = ((gi mem 38 2).toInt + 20) → ∀ (x4 : Int32), x4.toInt = (((gi mem 38 2).toInt + 20) - 1) → ∀ (x6 : Int32), x6.toInt = ((((gi mem 38 2).toInt + 20) - 1) % 20) → ∀ (x8 : Int32), x8.toInt = ((gi mem 38 3).toInt - 1) → ∀ (m10 : zM), aTm aT0 m10 → (frT 31 (si (si mem 38 2 x6) 38 3 x8) m10 ∧ cfS 31 u (si (si mem 38 2 x6) 38 3 x8) m10) → rgE 4 m10 40 (gi m10 38 2) w) (h2 : 0 < (gi mem 38 3).toInt → ∀ (x2 : Int32), x2.toInt = ((gi mem 38 2).toInt + 20) → ∀ (x4 : Int32), x4.toInt = (((gi mem 38 2).toInt + 20) - 1) → ∀ (x6 : Int32), x6.toInt = ((((gi mem 38 2).toInt + 20) - 1) % 20) → ∀ (x8 : Int32), x8.toInt = ((gi mem 38 3).toInt - 1) → ∀ (m10 : zM), aTm aT0 m10 → (frT 31 (si (si mem 38 2 x6) 38 3 x8) m10 ∧ cfS 31 u (si (si mem 38 2 x6) 38 3 x8) m10) → ∀ (m12 : zM), aTm aT0 m12 → (frW 34 m10 m12 ∧ ∀ K, kC w K m10 → kC 34 K m12) → aTm aT0 m12 → P none m12) : yR zpg tX2_pop (d + 3) (0, [(0, .ref 38), (1, .ref 31), (2, .ref 34)], [], mem) P := by
  have r2 := rngO_r2 hm
  have r3 := rngO_r3 hm
  refine yR_m 1 (fun _ _ _ _ => rfl) ?_
  refine wR_gi rfl rngO_e rngO_3 hm rfl ?_
  refine wR_if_le rfl (a := (gi mem 38 3).toInt) rfl (fun q1 => ?_) (fun q1 => ?_)
  ·
    exact yR_rv rfl (h1 q1 hm)
  ·
    refine yR_m 2 (fun _ _ _ _ => rfl) ?_
    refine wR_gi rfl rngO_e rngO_2 hm rfl ?_
    refine yR_m 1 (fun _ _ _ _ => rfl) ?_
    refine wN_add (a := (gi mem 38 2).toInt) (b := 20) rfl rfl rfl (by omega) (fun x2 e3 => ?_)
    refine yR_m 1 (fun _ _ _ _ => rfl) ?_
    refine wN_sub (a := ((gi mem 38 2).toInt + 20)) (b := 1) rfl e3 rfl (by omega) (fun x4 e5 => ?_)
    refine yR_m 1 (fun _ _ _ _ => rfl) ?_
    refine wN_rem (a := (((gi mem 38 2).toInt + 20) - 1)) (b := 20) rfl e5 rfl (by decide) (by omega) (fun x6 e7 => ?_)
    refine wR_pi rfl rngO_e rngO_2 hm rfl ?_
    have hm_1 : aTm aT0 (si mem 38 2 x6) := tm_si rngO_e rngO_2 hm (by rw [e7]; exact (by omega))
    refine yR_m 2 (fun _ _ _ _ => rfl) ?_
    refine wR_gi rfl rngO_e rngO_3 hm_1 (gi_sv_ne (by first | decide | omega)) ?_
    refine yR_m 1 (fun _ _ _ _ => rfl) ?_
    refine wN_sub (a := (gi mem 38 3).toInt) (b := 1) rfl rfl rfl (by omega) (fun x8 e9 => ?_)
    refine wR_pi rfl rngO_e rngO_3 hm_1 rfl ?_
    have hm_2 : aTm aT0 (si (si mem 38 2 x6) 38 3 x8) := tm_si rngO_e rngO_3 hm_1 (by rw [e9]; exact (by omega))
    refine yR_m 2 (fun _ _ _ _ => rfl) ?_
    refine wR_gr rfl rngO_e rngO_0 hm_2 ?_
    refine yR_m 1 (fun _ _ _ _ => rfl) ?_
    refine wR_gi rfl rngO_e rngO_2 hm_2 ((gi_sv_ne (by first | decide | omega)).trans (gi_si_eq rngO_e rngO_2 hm)) ?_
    refine wR_aq rfl (s1 q1 x2 e3 x4 e5 x6 e7 x8 e9) ?_
    refine wR_cv rfl rfl nO_e hm_2 rfl (h_cf hm_2 iT_31 ⟨uVO_e, aR_u1, aR_u2⟩ (by omega) (by omega)) ?_
    rintro _ m10 ⟨rfl, hm10, k11⟩
    show yR zpg tX2_pop (d + 3) (46, [(0, .ref 38), (1, .ref 31), (2, .ref 34)], [], m10) _
    have r2_m10 := rngO_r2 hm10
    have r3_m10 := rngO_r3 hm10
    refine yR_m 2 (fun _ _ _ _ => rfl) ?_
    refine wR_gr rfl rngO_e rngO_1 hm10 ?_
    refine yR_m 1 (fun _ _ _ _ => rfl) ?_
    refine wR_gi rfl rngO_e rngO_2 hm10 rfl ?_
    refine wR_aq rfl (s2 q1 x2 e3 x4 e5 x6 e7 x8 e9 m10 hm10 k11) ?_
    refine wR_cv rfl rfl wO_e hm10 rfl (h_rc hm10 iW_34 ⟨wVO_e, aR_w1, aR_w2, aR_w3⟩ (by omega) (by omega)) ?_
    rintro _ m12 ⟨rfl, hm12, k13⟩
    show yR zpg tX2_pop (d + 3) (59, [(0, .ref 38), (1, .ref 31), (2, .ref 34)], [], m12) _
    have r2_m12 := rngO_r2 hm12
    have r3_m12 := rngO_r3 hm12
    exact yR_rv rfl (h2 q1 x2 e3 x4 e5 x6 e7 x8 e9 m10 hm10 k11 m12 hm12 k13 hm12)

theorem pu_X {x : Int} {m : zM} (hx : 0 ≤ x ∧ x < 20) (hP : rgX Q hu x P m) (p20 : P.1 = 20) : rgX Q hu x (pdD P) m := fun k k0 k1 => by
  have k1 : k < P.1 - 1 := k1
  have z := hP (k + 1) (by omega) (by omega)
  have e : ixN x (pdD P).1 k = ixN x P.1 (k + 1) := by
    show ((x + 20 - (P.1 - 1) + k) % 20).toNat = ((x + 20 - P.1 + (k + 1)) % 20).toNat
    congr 2
    omega
  rw [e]
  exact z
theorem pu_A {x x' : Int} {n : Nat} {m m' : zM} (hx : x = (n : Int) ∧ n < 20) (hx' : x' = (x + 1) % 20) (hP : rgX Q hu x P m) (p0 : 0 ≤ P.1) (p19 : P.1 ≤ 19) (F : ∀ k, ¬ k = 38 → ¬ (41 + 7 * n ≤ k ∧ k ≤ 47 + 7 * n) → zat m' k = zat m k) (s1 : tS (41 + 7 * n) Q hu S m') (s2 : kC (44 + 7 * n) K m') : rgX Q hu x' (pdA P (S, K)) m' := fun k k0 k1 => by
  have k1 : k < P.1 + 1 := k1
  show tS (41 + 7 * ixN x' (P.1 + 1) k) Q hu (if k = P.1 then (S, K) else P.2 k).1 m' ∧ kC (44 + 7 * ixN x' (P.1 + 1) k) (if k = P.1 then (S, K) else P.2 k).2 m'
  by_cases v : k = P.1
  · rw [if_pos v]
    have e : ixN x' (P.1 + 1) k = n := by
      unfold ixN
      omega
    rw [e]
    exact ⟨s1, s2⟩
  · rw [if_neg v]
    have e : ixN x' (P.1 + 1) k = ixN x P.1 k := by
      unfold ixN
      omega
    have l : ixN x P.1 k < 20 ∧ ¬ ixN x P.1 k = n := by
      unfold ixN
      omega
    rw [e]
    obtain ⟨a, b⟩ := hP k k0 (by omega)
    exact ⟨tS_zq (F _ (by omega) (by omega)) (F _ (by omega) (by omega)) (F _ (by omega) (by omega)) a, kC_zq (F _ (by omega) (by omega)) (F _ (by omega) (by omega)) (F _ (by omega) (by omega)) (F _ (by omega) (by omega)) b⟩
theorem pu_F {n u w : Nat} {m1 m3 : zM} {x y : Int32} (hm : aTm aT0 mem) (hW : WQ Q) (hS : tS 31 Q hu S mem) (hK : kC 34 K mem) (hP : rgC Q hu P mem) (nI : (gi mem 38 2).toInt = (n : Int)) (eu : u = 41 + 7 * n) (ew : w = 44 + 7 * n) (hm1 : aTm aT0 m1) (k1 : frT u mem m1) (c1 : cfS u 31 mem m1) (hm3 : aTm aT0 m3) (k3 : frW w m1 m3) (c3 : ∀ K, kC 34 K m1 → kC w K m3) (ex : x.toInt = ((gi m3 38 2).toInt + 1) % 20) (ey : y.toInt = min ((gi m3 38 3).toInt + 1) 20) (hm2 : aTm aT0 (si (si m3 38 2 x) 38 3 y)) : (none : Option Value) = none ∧ aTm aT0 (si (si m3 38 2 x) 38 3 y) ∧ ((∀ k, ¬ (41 ≤ k ∧ k ≤ 180) → ¬ k = 38 → zat (si (si m3 38 2 x) 38 3 y) k = zat mem k) ∧ rgC Q hu (pdN P (S, K)) (si (si m3 38 2 x) 38 3 y)) := by
  subst eu
  subst ew
  obtain ⟨h1, ⟨h2, h2a, h2b⟩, h3, h4⟩ := hP
  have n20 : n < 20 := by omega
  have F3 : ∀ k, ¬ k = 38 → zat (si (si m3 38 2 x) 38 3 y) k = zat m3 k := fun k hk => (zat_sv_ne (fun v => hk v.symm)).trans (zat_sv_ne (fun v => hk v.symm))
  have F : ∀ k, ¬ k = 38 → ¬ (41 + 7 * n ≤ k ∧ k ≤ 47 + 7 * n) → zat (si (si m3 38 2 x) 38 3 y) k = zat mem k := fun k hk hq => (F3 k hk).trans ((k3 k (by omega) (by omega) (by omega) (by omega)).trans (k1 k (by omega) (by omega) (by omega)))
  have e38 : ∀ i, gi m3 38 i = gi mem 38 i := fun i => (gi_zq (k3 38 (by omega) (by omega) (by omega) (by omega))).trans (gi_zq (k1 38 (by omega) (by omega) (by omega)))
  have eA := tm_si (x := x) rngO_e rngO_2 hm3 (by
    rw [e38] at ex
    show (0 : Int) ≤ x.toInt ∧ x.toInt ≤ 19
    omega)
  have x2 : (gi (si (si m3 38 2 x) 38 3 y) 38 2).toInt = ((gi mem 38 2).toInt + 1) % 20 := by
    rw [gi_sv_ne (by decide), gi_si_eq rngO_e rngO_2 hm3, ex, e38]
  have y2 : (gi (si (si m3 38 2 x) 38 3 y) 38 3).toInt = min (P.1 + 1) 20 := by
    rw [gi_si_eq rngO_e rngO_3 eA, ey, e38, h2]
  have s1 : tS (41 + 7 * n) Q hu S (si (si m3 38 2 x) 38 3 y) := tS_zq ((F3 _ (by omega)).trans (k3 _ (by omega) (by omega) (by omega) (by omega))) ((F3 _ (by omega)).trans (k3 _ (by omega) (by omega) (by omega) (by omega))) ((F3 _ (by omega)).trans (k3 _ (by omega) (by omega) (by omega) (by omega))) (tS_cf hW c1 hS)
  have s2 : kC (44 + 7 * n) K (si (si m3 38 2 x) 38 3 y) := kC_zq (F3 _ (by omega)) (F3 _ (by omega)) (F3 _ (by omega)) (F3 _ (by omega)) (c3 K (kC_zq (k1 _ (by omega) (by omega) (by omega)) (k1 _ (by omega) (by omega) (by omega)) (k1 _ (by omega) (by omega) (by omega)) (k1 _ (by omega) (by omega) (by omega)) hK))
  have rE : rcE (si (si m3 38 2 x) 38 3 y) := rcE_q (F 39 (by omega) (by omega)) (F 40 (by omega) (by omega)) h3
  refine ⟨rfl, hm2, fun k q1 q2 => F k q2 (by omega), ?_⟩
  by_cases v : P.1 = 20
  · have e : pdN P (S, K) = pdA (pdD P) (S, K) := by
      unfold pdN
      rw [if_pos v]
    rw [e]
    refine ⟨⟨by show 0 ≤ P.1 - 1 + 1; omega, by show P.1 - 1 + 1 ≤ 20; omega⟩, ⟨by rw [y2]; show min (P.1 + 1) 20 = P.1 - 1 + 1; omega, by omega, by omega⟩, rE, ?_⟩
    exact pu_A ⟨nI, n20⟩ x2 (pu_X ⟨h2a, h2b⟩ h4 v) (by show 0 ≤ P.1 - 1; omega) (by show P.1 - 1 ≤ 19; omega) F s1 s2
  · have e : pdN P (S, K) = pdA P (S, K) := by
      unfold pdN
      rw [if_neg v]
    rw [e]
    refine ⟨⟨by show 0 ≤ P.1 + 1; omega, by show P.1 + 1 ≤ 20; omega⟩, ⟨by rw [y2]; show min (P.1 + 1) 20 = P.1 + 1; omega, by omega, by omega⟩, rE, ?_⟩
    exact pu_A ⟨nI, n20⟩ x2 h4 h1.1 (by omega) F s1 s2
theorem h_pu (hm : aTm aT0 mem) (hW : WQ Q) (hS : tS 31 Q hu S mem) (hK : kC 34 K mem) (hP : rgC Q hu P mem) (hd : 4 ≤ d) : yC zpg d 23 [.ref 38, .ref 31, .ref 34] mem (fun r m => r = none ∧ aTm aT0 m ∧ ((∀ k, ¬ (41 ≤ k ∧ k ≤ 180) → ¬ k = 38 → zat m k = zat mem k) ∧ rgC Q hu (pdN P (S, K)) m)) := by
  obtain ⟨d, rfl⟩ : ∃ q, d = q + 4 := ⟨d - 4, by omega⟩
  obtain ⟨n, nI⟩ : ∃ n : Nat, (gi mem 38 2).toInt = (n : Int) := ⟨(gi mem 38 2).toInt.toNat, by have := hP.2.1.2.1; omega⟩
  have n20 : n < 20 := by
    have := hP.2.1.2.2
    omega
  obtain ⟨u0, u1, u2⟩ := iT_r n20
  obtain ⟨w0, w1, w2, w3⟩ := iW_r n20
  have g3 := rgE_3 hP.2.2.1 n20 nI
  have g4 := rgE_4 hP.2.2.1 n20 nI
  refine yC_of (t := tX2_push) rfl rfl ?_
  exact w_pu hm u0 u1 u2 w0 w1 w2 w3 (by omega) (by omega) 
        (g3)
        (fun m1 hm1 k1 => by rw [gi_zq (k1.1 38 (by omega) (by omega) (by omega))]; exact rgE_q (k1.1 40 (by omega) (by omega) (by omega)) g4)
        (fun m1 hm1 k2 m3 hm3 k4 x5 e6 x7 e8 x9 e10 x11 e12 hm2 => pu_F hm hW hS hK hP nI rfl rfl hm1 k2.1 k2.2 hm3 k4.1 k4.2 e8 e12 hm2)
theorem po_F {n u w : Nat} {m10 m12 : zM} {x y : Int32} (hm : aTm aT0 mem) (hW : WQ Q) (hP : rgC Q hu P mem) (p1 : 1 ≤ P.1) (nI : ((gi mem 38 2).toInt + 19) % 20 = (n : Int)) (eu : u = 41 + 7 * n) (ew : w = 44 + 7 * n) (n20 : n < 20) (ex : x.toInt = ((gi mem 38 2).toInt + 20 - 1) % 20) (ey : y.toInt = (gi mem 38 3).toInt - 1) (hm1 : aTm aT0 m10) (k1 : frT 31 (si (si mem 38 2 x) 38 3 y) m10) (c1 : cfS 31 u (si (si mem 38 2 x) 38 3 y) m10) (hm3 : aTm aT0 m12) (k3 : frW 34 m10 m12) (c3 : ∀ K, kC w K m10 → kC 34 K m12) : (none : Option Value) = none ∧ aTm aT0 m12 ∧ ((∀ k, ¬ (31 ≤ k ∧ k ≤ 38) → zat m12 k = zat mem k) ∧ tS 31 Q hu (P.2 (P.1 - 1)).1 m12 ∧ kC 34 (P.2 (P.1 - 1)).2 m12 ∧ rgC Q hu (P.1 - 1, P.2) m12) := by
  subst eu
  subst ew
  obtain ⟨h1, ⟨h2, h2a, h2b⟩, h3, h4⟩ := hP
  have F0 : ∀ k, ¬ k = 38 → zat (si (si mem 38 2 x) 38 3 y) k = zat mem k := fun k hk => (zat_sv_ne (fun v => hk v.symm)).trans (zat_sv_ne (fun v => hk v.symm))
  have F1 : ∀ k, ¬ (31 ≤ k ∧ k ≤ 33) → zat m10 k = zat (si (si mem 38 2 x) 38 3 y) k := fun k hk => k1 k (by omega) (by omega) (by omega)
  have F3 : ∀ k, ¬ (34 ≤ k ∧ k ≤ 37) → zat m12 k = zat m10 k := fun k hk => k3 k (by omega) (by omega) (by omega) (by omega)
  have F : ∀ k, ¬ (31 ≤ k ∧ k ≤ 38) → zat m12 k = zat mem k := fun k hk => (F3 k (by omega)).trans ((F1 k (by omega)).trans (F0 k (by omega)))
  have eA := tm_si (x := x) rngO_e rngO_2 hm (by
    show (0 : Int) ≤ x.toInt ∧ x.toInt ≤ 19
    omega)
  have e38 : ∀ i, gi m12 38 i = gi (si (si mem 38 2 x) 38 3 y) 38 i := fun i => (gi_zq (F3 38 (by omega))).trans (gi_zq (F1 38 (by omega)))
  have x2 : (gi m12 38 2).toInt = ((gi mem 38 2).toInt + 19) % 20 := by
    rw [e38, gi_sv_ne (by decide), gi_si_eq rngO_e rngO_2 hm, ex]
    congr 1
    omega
  have y2 : (gi m12 38 3).toInt = P.1 - 1 := by
    rw [e38, gi_si_eq rngO_e rngO_3 eA, ey, h2]
  obtain ⟨a, b⟩ := h4 (P.1 - 1) (by omega) (by omega)
  have ei : ixN (gi mem 38 2).toInt P.1 (P.1 - 1) = n := by
    unfold ixN
    omega
  rw [ei] at a b
  have a1 : tS 31 Q hu (P.2 (P.1 - 1)).1 m10 := tS_cf hW c1 (tS_zq (F0 _ (by omega)) (F0 _ (by omega)) (F0 _ (by omega)) a)
  refine ⟨rfl, hm3, F, tS_zq (F3 _ (by omega)) (F3 _ (by omega)) (F3 _ (by omega)) a1, c3 _ (kC_zq ((F1 _ (by omega)).trans (F0 _ (by omega))) ((F1 _ (by omega)).trans (F0 _ (by omega))) ((F1 _ (by omega)).trans (F0 _ (by omega))) ((F1 _ (by omega)).trans (F0 _ (by omega))) b), ⟨by show 0 ≤ P.1 - 1; omega, by show P.1 - 1 ≤ 20; omega⟩, ⟨y2, by omega, by omega⟩, rcE_q (F 39 (by omega)) (F 40 (by omega)) h3, fun k k0 k1 => ?_⟩
  have k1 : k < P.1 - 1 := k1
  have z := h4 k k0 (by omega)
  show tS (41 + 7 * ixN (gi m12 38 2).toInt (P.1 - 1) k) Q hu (P.2 k).1 m12 ∧ kC (44 + 7 * ixN (gi m12 38 2).toInt (P.1 - 1) k) (P.2 k).2 m12
  have e : ixN (gi m12 38 2).toInt (P.1 - 1) k = ixN (gi mem 38 2).toInt P.1 k := by
    unfold ixN
    rw [x2]
    omega
  rw [e]
  have l : ixN (gi mem 38 2).toInt P.1 k < 20 := by
    unfold ixN
    omega
  exact ⟨tS_zq (F _ (by omega)) (F _ (by omega)) (F _ (by omega)) z.1, kC_zq (F _ (by omega)) (F _ (by omega)) (F _ (by omega)) (F _ (by omega)) z.2⟩
theorem h_po (hm : aTm aT0 mem) (hW : WQ Q) (hP : rgC Q hu P mem) (p1 : 1 ≤ P.1) (hd : 4 ≤ d) : yC zpg d 24 [.ref 38, .ref 31, .ref 34] mem (fun r m => r = none ∧ aTm aT0 m ∧ ((∀ k, ¬ (31 ≤ k ∧ k ≤ 38) → zat m k = zat mem k) ∧ tS 31 Q hu (P.2 (P.1 - 1)).1 m ∧ kC 34 (P.2 (P.1 - 1)).2 m ∧ rgC Q hu (P.1 - 1, P.2) m)) := by
  obtain ⟨d, rfl⟩ : ∃ q, d = q + 4 := ⟨d - 4, by omega⟩
  have hx := hP.2.1
  obtain ⟨n, nI⟩ : ∃ n : Nat, ((gi mem 38 2).toInt + 19) % 20 = (n : Int) := ⟨(((gi mem 38 2).toInt + 19) % 20).toNat, by omega⟩
  have n20 : n < 20 := by omega
  obtain ⟨u0, u1, u2⟩ := iT_r n20
  obtain ⟨w0, w1, w2, w3⟩ := iW_r n20
  have g3 : ∀ x : Int32, x.toInt = (n : Int) → rgE 3 mem 39 x (41 + 7 * n) := fun x hx => rgE_3 hP.2.2.1 n20 hx
  have g4 : ∀ x : Int32, x.toInt = (n : Int) → rgE 4 mem 40 x (44 + 7 * n) := fun x hx => rgE_4 hP.2.2.1 n20 hx
  refine yC_of (t := tX2_pop) rfl rfl ?_
  exact w_po hm u0 u1 u2 w0 w1 w2 w3 (by omega) (by omega) 
        (fun q1 hm2 => by exfalso; omega)
        (fun q1 x2 e3 x4 e5 x6 e7 x8 e9 => rgE_q ((zat_sv_ne (by omega)).trans (zat_sv_ne (by omega))) (g3 _ (by omega)))
        (fun q1 x2 e3 x4 e5 x6 e7 x8 e9 m10 hm10 k11 => by rw [gi_zq (k11.1 38 (by omega) (by omega) (by omega)), gi_sv_ne (by omega), gi_si_eq rngO_e rngO_2 hm]; exact rgE_q ((k11.1 40 (by omega) (by omega) (by omega)).trans ((zat_sv_ne (by omega)).trans (zat_sv_ne (by omega)))) (g4 _ (by omega)))
        (fun q1 x2 e3 x4 e5 x6 e7 x8 e9 m10 hm10 k11 m12 hm12 k13 hm2 => po_F hm hW hP p1 nI rfl rfl (by omega) e7 e9 hm10 k11.1 k11.2 hm12 k13.1 k13.2)
end RGC
