/-! the class's sums: comparisons, facts; all of them -/
section CG
variable {d : Nat} {R A : Nat} {mr mem m m' : zM} {T : List Int32} {n p q e ru v p0 q0 q1 q2 : Int} {f : Fr} {r : List Fr} {w w' w0 w1 w2 w3 : List Int}
def bC (T : List Int32) (n : Int) (f : Fr) (p : Int) : Prop := sIT f.1 ∧ f.2.1 = 0 ∧ f.2.2.1 = 0 ∧ ¬ (sIA T n p ∨ sIM T n p) ∧ hdk 4 f
def pCmp (T : List Int32) (n ru : Int) (w : List Int) (f : Fr) (r : List Fr) (p : Int) (w' : List Int) (q : Int) : Prop := Mch T n ru w (f :: r) 1 p = Mch T n ru w' ((f.1, 1, 0, f.2.2.2) :: r) 1 q ∧ ¬ (sIA T n q ∨ sIM T n q)
def tCc (R A : Nat) (T : List Int32) (n ru o : Int) (D : Nat) : Prop := ∀ (d : Nat) (mem : zM) (x : Int32) (p : Int) (f : Fr) (r : List Fr), D ≤ d → x.toInt = o → aTm aT0 mem → tB R A T n ru p mem → opn (f :: r) = o → bC T n f p → yC zpg d 103 [.ref 30, .int x] mem (fun a m => ∃ (v : Int32) (q : Int), a = some (.int v) ∧ aTm aT0 m ∧ tH R A T n p (pCmp T n ru (cC R A mem) f r p) (Mch T n ru (cC R A mem) (f :: r) 1 p = none) mem v.toInt q m)
theorem cm_1 (hp : 0 ≤ p ∧ p ≤ n) (hq : 0 ≤ q ∧ q ≤ n) (hb : bC T n f p) (v : sIC T n p) (e1 : w1 = w) (k : pSum T n ru w1 (f.1, 1, f.2.2.1, (tkf T n p).1.2.1 :: f.2.2.2) r (tkf T n p).2 w2 q) (e2 : w3 = w2 ++ [10000 + (tkf T n p).1.2.1]) : pCmp T n ru w f r p w3 q := by
  have c : rkC (tkf T n p).1.2.1 = 4 := by
    rcases v with v | v | v <;> (rw [v.2]; rfl)
  subst e1
  refine ⟨(M_cmp hp hb.1 hb.2.1 v (hdk_m hb.2.2.2.2 (by decide))).trans (k.1.trans (M_fl hq (by omega) (fun _ _ => fun y => k.2 (Or.inr y)) (fun _ => ⟨fun _ => fun y => k.2 (Or.inl y), fun z => absurd (show (1 : Int) = 0 from z.1.2) (by decide)⟩) (by omega) e2)), k.2⟩
theorem cm_c (v : sIC T n p) : ¬ (tkf T n p).1.2.1 = 22 ∧ rkC (tkf T n p).1.2.1 < 5 := by
  rcases v with v | v | v <;> (rw [v.2]; exact ⟨by decide, by decide⟩)
set_option maxRecDepth 100000 in
theorem w_cmC {d : Nat} {mem : zM} {P : Option Value → zM → Prop} {R A : Nat} {T : List Int32} {n ru p o : Int} {D : Nat} {f : Fr} {r : List Fr} {fs : List (Bool × aTy)} {x : Int32} (hm : aTm aT0 mem) (hDd : D ≤ d + 1) (hD3 : 4 ≤ D) (hA : hRA R A) (hRo_e : aat aT0 R = some (.inr (7, fs))) (hr : zfl mem 30 1 = some (.ref R)) (hR : cRd T n p mem) (hS : tC R A T n ru 104 o D (bS5 T n) (pSum T n ru)) (hx : x.toInt = o) (hB : tB R A T n ru p mem) (hO : opn (f :: r) = o) (hb : bC T n f p) (h1 : ¬ (gi mem 27 4).toInt = 4 → aTm aT0 (si (si mem 27 10 1) 27 11 (gi mem 27 7)) → P (some (.int 0)) (si (si mem 27 10 1) 27 11 (gi mem 27 7))) (h2 : (gi mem 27 4).toInt = 4 → ¬ (gi mem 27 5).toInt = 60 → ¬ (gi mem 27 5).toInt = 62 → ¬ (gi mem 27 5).toInt = 61 → aTm aT0 (si (si mem 27 10 1) 27 11 (gi mem 27 7)) → P (some (.int 0)) (si (si mem 27 10 1) 27 11 (gi mem 27 7))) (s1 : (gi mem 27 4).toInt = 4 → ¬ (gi mem 27 5).toInt = 60 → ¬ (gi mem 27 5).toInt = 62 → (gi mem 27 5).toInt = 61 → ¬ (tkf T n p).1.1 = 4) (s2 : (gi mem 27 4).toInt = 4 → ¬ (gi mem 27 5).toInt = 60 → ¬ (gi mem 27 5).toInt = 62 → (gi mem 27 5).toInt = 61 → ∀ (m5 : zM), aTm aT0 m5 → (fo 27 [] avF mem m5 ∧ cRd T n (tkf T n p).2 m5) → (gi m5 R 3).toInt ≤ (tkf T n p).2) (s3 : (gi mem 27 4).toInt = 4 → ¬ (gi mem 27 5).toInt = 60 → ¬ (gi mem 27 5).toInt = 62 → (gi mem 27 5).toInt = 61 → ∀ (m5 : zM), aTm aT0 m5 → (fo 27 [] avF mem m5 ∧ cRd T n (tkf T n p).2 m5) → ¬ (tkf T n p).1.2.1 = 22 ∧ rkC (tkf T n p).1.2.1 < 5) (h3 : (gi mem 27 4).toInt = 4 → ¬ (gi mem 27 5).toInt = 60 → ¬ (gi mem 27 5).toInt = 62 → (gi mem 27 5).toInt = 61 → ∀ (m5 : zM), aTm aT0 m5 → (fo 27 [] avF mem m5 ∧ cRd T n (tkf T n p).2 m5) → ∀ (v9 : Int32) (q10 : Int) (m7 : zM), aTm aT0 m7 → tH R A T n (tkf T n p).2 (pSum T n ru (cC R A m5) (f.1, 1, f.2.2.1, (tkf T n p).1.2.1 :: f.2.2.2) r (tkf T n p).2) (Mch T n ru (cC R A m5) ((f.1, 1, f.2.2.1, (tkf T n p).1.2.1 :: f.2.2.2) :: r) 0 (tkf T n p).2 = none) m5 v9.toInt q10 m7 → (v9).toInt = 0 → aTm aT0 m7 → P (some (.int 0)) m7) (h4 : (gi mem 27 4).toInt = 4 → ¬ (gi mem 27 5).toInt = 60 → ¬ (gi mem 27 5).toInt = 62 → (gi mem 27 5).toInt = 61 → ∀ (m5 : zM), aTm aT0 m5 → (fo 27 [] avF mem m5 ∧ cRd T n (tkf T n p).2 m5) → ∀ (v9 : Int32) (q10 : Int) (m7 : zM), aTm aT0 m7 → tH R A T n (tkf T n p).2 (pSum T n ru (cC R A m5) (f.1, 1, f.2.2.1, (tkf T n p).1.2.1 :: f.2.2.2) r (tkf T n p).2) (Mch T n ru (cC R A m5) ((f.1, 1, f.2.2.1, (tkf T n p).1.2.1 :: f.2.2.2) :: r) 0 (tkf T n p).2 = none) m5 v9.toInt q10 m7 → ¬ (v9).toInt = 0 → ∀ (v14 : Int32) (m12 : zM), aTm aT0 m12 → (puQ R A (10000 + (gi mem 27 5)).toInt m7 m12 ∧ v14.toInt = 1) → (v14).toInt = 0 → aTm aT0 m12 → P (some (.int 0)) m12) (h5 : (gi mem 27 4).toInt = 4 → ¬ (gi mem 27 5).toInt = 60 → ¬ (gi mem 27 5).toInt = 62 → (gi mem 27 5).toInt = 61 → ∀ (m5 : zM), aTm aT0 m5 → (fo 27 [] avF mem m5 ∧ cRd T n (tkf T n p).2 m5) → ∀ (v9 : Int32) (q10 : Int) (m7 : zM), aTm aT0 m7 → tH R A T n (tkf T n p).2 (pSum T n ru (cC R A m5) (f.1, 1, f.2.2.1, (tkf T n p).1.2.1 :: f.2.2.2) r (tkf T n p).2) (Mch T n ru (cC R A m5) ((f.1, 1, f.2.2.1, (tkf T n p).1.2.1 :: f.2.2.2) :: r) 0 (tkf T n p).2 = none) m5 v9.toInt q10 m7 → ¬ (v9).toInt = 0 → ∀ (v14 : Int32) (m12 : zM), aTm aT0 m12 → (puQ R A (10000 + (gi mem 27 5)).toInt m7 m12 ∧ v14.toInt = 1) → ¬ (v14).toInt = 0 → aTm aT0 m12 → P (some (.int 1)) m12) (s4 : (gi mem 27 4).toInt = 4 → ¬ (gi mem 27 5).toInt = 60 → (gi mem 27 5).toInt = 62 → ¬ (tkf T n p).1.1 = 4) (s5 : (gi mem 27 4).toInt = 4 → ¬ (gi mem 27 5).toInt = 60 → (gi mem 27 5).toInt = 62 → ∀ (m16 : zM), aTm aT0 m16 → (fo 27 [] avF mem m16 ∧ cRd T n (tkf T n p).2 m16) → (gi m16 R 3).toInt ≤ (tkf T n p).2) (s6 : (gi mem 27 4).toInt = 4 → ¬ (gi mem 27 5).toInt = 60 → (gi mem 27 5).toInt = 62 → ∀ (m16 : zM), aTm aT0 m16 → (fo 27 [] avF mem m16 ∧ cRd T n (tkf T n p).2 m16) → ¬ (tkf T n p).1.2.1 = 22 ∧ rkC (tkf T n p).1.2.1 < 5) (h6 : (gi mem 27 4).toInt = 4 → ¬ (gi mem 27 5).toInt = 60 → (gi mem 27 5).toInt = 62 → ∀ (m16 : zM), aTm aT0 m16 → (fo 27 [] avF mem m16 ∧ cRd T n (tkf T n p).2 m16) → ∀ (v20 : Int32) (q21 : Int) (m18 : zM), aTm aT0 m18 → tH R A T n (tkf T n p).2 (pSum T n ru (cC R A m16) (f.1, 1, f.2.2.1, (tkf T n p).1.2.1 :: f.2.2.2) r (tkf T n p).2) (Mch T n ru (cC R A m16) ((f.1, 1, f.2.2.1, (tkf T n p).1.2.1 :: f.2.2.2) :: r) 0 (tkf T n p).2 = none) m16 v20.toInt q21 m18 → (v20).toInt = 0 → aTm aT0 m18 → P (some (.int 0)) m18) (h7 : (gi mem 27 4).toInt = 4 → ¬ (gi mem 27 5).toInt = 60 → (gi mem 27 5).toInt = 62 → ∀ (m16 : zM), aTm aT0 m16 → (fo 27 [] avF mem m16 ∧ cRd T n (tkf T n p).2 m16) → ∀ (v20 : Int32) (q21 : Int) (m18 : zM), aTm aT0 m18 → tH R A T n (tkf T n p).2 (pSum T n ru (cC R A m16) (f.1, 1, f.2.2.1, (tkf T n p).1.2.1 :: f.2.2.2) r (tkf T n p).2) (Mch T n ru (cC R A m16) ((f.1, 1, f.2.2.1, (tkf T n p).1.2.1 :: f.2.2.2) :: r) 0 (tkf T n p).2 = none) m16 v20.toInt q21 m18 → ¬ (v20).toInt = 0 → ∀ (v25 : Int32) (m23 : zM), aTm aT0 m23 → (puQ R A (10000 + (gi mem 27 5)).toInt m18 m23 ∧ v25.toInt = 1) → (v25).toInt = 0 → aTm aT0 m23 → P (some (.int 0)) m23) (h8 : (gi mem 27 4).toInt = 4 → ¬ (gi mem 27 5).toInt = 60 → (gi mem 27 5).toInt = 62 → ∀ (m16 : zM), aTm aT0 m16 → (fo 27 [] avF mem m16 ∧ cRd T n (tkf T n p).2 m16) → ∀ (v20 : Int32) (q21 : Int) (m18 : zM), aTm aT0 m18 → tH R A T n (tkf T n p).2 (pSum T n ru (cC R A m16) (f.1, 1, f.2.2.1, (tkf T n p).1.2.1 :: f.2.2.2) r (tkf T n p).2) (Mch T n ru (cC R A m16) ((f.1, 1, f.2.2.1, (tkf T n p).1.2.1 :: f.2.2.2) :: r) 0 (tkf T n p).2 = none) m16 v20.toInt q21 m18 → ¬ (v20).toInt = 0 → ∀ (v25 : Int32) (m23 : zM), aTm aT0 m23 → (puQ R A (10000 + (gi mem 27 5)).toInt m18 m23 ∧ v25.toInt = 1) → ¬ (v25).toInt = 0 → aTm aT0 m23 → P (some (.int 1)) m23) (s7 : (gi mem 27 4).toInt = 4 → (gi mem 27 5).toInt = 60 → ¬ (tkf T n p).1.1 = 4) (s8 : (gi mem 27 4).toInt = 4 → (gi mem 27 5).toInt = 60 → ∀ (m27 : zM), aTm aT0 m27 → (fo 27 [] avF mem m27 ∧ cRd T n (tkf T n p).2 m27) → (gi m27 R 3).toInt ≤ (tkf T n p).2) (s9 : (gi mem 27 4).toInt = 4 → (gi mem 27 5).toInt = 60 → ∀ (m27 : zM), aTm aT0 m27 → (fo 27 [] avF mem m27 ∧ cRd T n (tkf T n p).2 m27) → ¬ (tkf T n p).1.2.1 = 22 ∧ rkC (tkf T n p).1.2.1 < 5) (h9 : (gi mem 27 4).toInt = 4 → (gi mem 27 5).toInt = 60 → ∀ (m27 : zM), aTm aT0 m27 → (fo 27 [] avF mem m27 ∧ cRd T n (tkf T n p).2 m27) → ∀ (v31 : Int32) (q32 : Int) (m29 : zM), aTm aT0 m29 → tH R A T n (tkf T n p).2 (pSum T n ru (cC R A m27) (f.1, 1, f.2.2.1, (tkf T n p).1.2.1 :: f.2.2.2) r (tkf T n p).2) (Mch T n ru (cC R A m27) ((f.1, 1, f.2.2.1, (tkf T n p).1.2.1 :: f.2.2.2) :: r) 0 (tkf T n p).2 = none) m27 v31.toInt q32 m29 → (v31).toInt = 0 → aTm aT0 m29 → P (some (.int 0)) m29) (h10 : (gi mem 27 4).toInt = 4 → (gi mem 27 5).toInt = 60 → ∀ (m27 : zM), aTm aT0 m27 → (fo 27 [] avF mem m27 ∧ cRd T n (tkf T n p).2 m27) → ∀ (v31 : Int32) (q32 : Int) (m29 : zM), aTm aT0 m29 → tH R A T n (tkf T n p).2 (pSum T n ru (cC R A m27) (f.1, 1, f.2.2.1, (tkf T n p).1.2.1 :: f.2.2.2) r (tkf T n p).2) (Mch T n ru (cC R A m27) ((f.1, 1, f.2.2.1, (tkf T n p).1.2.1 :: f.2.2.2) :: r) 0 (tkf T n p).2 = none) m27 v31.toInt q32 m29 → ¬ (v31).toInt = 0 → ∀ (v36 : Int32) (m34 : zM), aTm aT0 m34 → (puQ R A (10000 + (gi mem 27 5)).toInt m29 m34 ∧ v36.toInt = 1) → (v36).toInt = 0 → aTm aT0 m34 → P (some (.int 0)) m34) (h11 : (gi mem 27 4).toInt = 4 → (gi mem 27 5).toInt = 60 → ∀ (m27 : zM), aTm aT0 m27 → (fo 27 [] avF mem m27 ∧ cRd T n (tkf T n p).2 m27) → ∀ (v31 : Int32) (q32 : Int) (m29 : zM), aTm aT0 m29 → tH R A T n (tkf T n p).2 (pSum T n ru (cC R A m27) (f.1, 1, f.2.2.1, (tkf T n p).1.2.1 :: f.2.2.2) r (tkf T n p).2) (Mch T n ru (cC R A m27) ((f.1, 1, f.2.2.1, (tkf T n p).1.2.1 :: f.2.2.2) :: r) 0 (tkf T n p).2 = none) m27 v31.toInt q32 m29 → ¬ (v31).toInt = 0 → ∀ (v36 : Int32) (m34 : zM), aTm aT0 m34 → (puQ R A (10000 + (gi mem 27 5)).toInt m29 m34 ∧ v36.toInt = 1) → ¬ (v36).toInt = 0 → aTm aT0 m34 → P (some (.int 1)) m34) : yR zpg tX10_takesComparison (d + 1) (0, [(0, .ref 30), (1, .int x)], [], mem) P := by
  refine yR_m 1 (fun _ _ _ _ => rfl) ?_
  refine wR_gr rfl sO_e sO_0 hm ?_
  refine wR_gi rfl rO_e rO_5 hm rfl ?_
  refine yR_m 2 (fun _ _ _ _ => rfl) ?_
  refine wR_gr rfl sO_e sO_0 hm ?_
  refine yR_m 1 (fun _ _ _ _ => rfl) ?_
  refine wR_iv rfl rfl rO_e hm rfl rfl rfl rfl ?_
  show yR zpg tX5_isSign d (0, [(0, .ref 27), (1, .int 60)], [], mem) _
  refine yR_m 1 (fun _ _ _ _ => rfl) ?_
  refine wR_gi rfl rO_e rO_4 hm rfl ?_
  refine yR_m 1 (fun _ _ _ _ => rfl) ?_
  refine wR_ic_ne rfl (a := (gi mem 27 4).toInt) (c := 4) rfl rfl (fun q1 => ?_) (fun q1 => ?_)
  ·
    refine yR_m 1 (fun _ _ _ _ => rfl) ?_
    refine yR_rz rfl ⟨by decide, by decide⟩ ?_
    show yR zpg tX10_takesComparison (d + 1) (17, [(2, .int (gi mem 27 5)), (0, .ref 30), (1, .int x)], [.int 0], mem) _
    refine wR_if_ne rfl (a := 0) rfl (fun q => by exfalso; omega) (fun _ => ?_)
    refine yR_m 1 (fun _ _ _ _ => rfl) ?_
    refine wR_gr rfl sO_e sO_0 hm ?_
    refine yR_m 1 (fun _ _ _ _ => rfl) ?_
    refine wR_iv rfl rfl rO_e hm rfl rfl rfl rfl ?_
    show yR zpg tX5_isSign d (0, [(0, .ref 27), (1, .int 62)], [], mem) _
    refine yR_m 1 (fun _ _ _ _ => rfl) ?_
    refine wR_gi rfl rO_e rO_4 hm rfl ?_
    refine yR_m 1 (fun _ _ _ _ => rfl) ?_
    refine wR_ic_ne rfl (a := (gi mem 27 4).toInt) (c := 4) rfl rfl (fun _ => ?_) (fun q => by exfalso; omega)
    refine yR_m 1 (fun _ _ _ _ => rfl) ?_
    refine yR_rz rfl ⟨by decide, by decide⟩ ?_
    show yR zpg tX10_takesComparison (d + 1) (29, [(2, .int (gi mem 27 5)), (0, .ref 30), (1, .int x)], [.int 0], mem) _
    refine wR_if_ne rfl (a := 0) rfl (fun q => by exfalso; omega) (fun _ => ?_)
    refine yR_m 1 (fun _ _ _ _ => rfl) ?_
    refine wR_gr rfl sO_e sO_0 hm ?_
    refine yR_m 1 (fun _ _ _ _ => rfl) ?_
    refine wR_iv rfl rfl rO_e hm rfl rfl rfl rfl ?_
    show yR zpg tX5_isSign d (0, [(0, .ref 27), (1, .int 61)], [], mem) _
    refine yR_m 1 (fun _ _ _ _ => rfl) ?_
    refine wR_gi rfl rO_e rO_4 hm rfl ?_
    refine yR_m 1 (fun _ _ _ _ => rfl) ?_
    refine wR_ic_ne rfl (a := (gi mem 27 4).toInt) (c := 4) rfl rfl (fun _ => ?_) (fun q => by exfalso; omega)
    refine yR_m 1 (fun _ _ _ _ => rfl) ?_
    refine yR_rz rfl ⟨by decide, by decide⟩ ?_
    show yR zpg tX10_takesComparison (d + 1) (41, [(2, .int (gi mem 27 5)), (0, .ref 30), (1, .int x)], [.int 0], mem) _
    refine wR_if_ne rfl (a := 0) rfl (fun q => by exfalso; omega) (fun _ => ?_)
    refine yR_m 1 (fun _ _ _ _ => rfl) ?_
    refine wR_gr rfl sO_e sO_0 hm ?_
    refine yR_m 2 (fun _ _ _ _ => rfl) ?_
    refine wR_gr rfl sO_e sO_0 hm ?_
    refine wR_gi rfl rO_e rO_7 hm rfl ?_
    refine wR_iv rfl rfl rO_e hm rfl rfl rfl rfl ?_
    show yR zpg tX5_faults d (0, [(0, .ref 27), (1, .int 1), (2, .int (gi mem 27 7))], [], mem) _
    refine yR_m 2 (fun _ _ _ _ => rfl) ?_
    refine wR_pi rfl rO_e rO_10 hm rfl ?_
    have hm_1 : aTm aT0 (si mem 27 10 1) := tm_si rO_e rO_10 hm (i32_b _)
    refine yR_m 2 (fun _ _ _ _ => rfl) ?_
    refine wR_pi rfl rO_e rO_11 hm_1 rfl ?_
    have hm_2 : aTm aT0 (si (si mem 27 10 1) 27 11 (gi mem 27 7)) := tm_si rO_e rO_11 hm_1 (i32_b _)
    refine yR_m 1 (fun _ _ _ _ => rfl) ?_
    refine yR_rz rfl ⟨by decide, by decide⟩ ?_
    show yR zpg tX10_takesComparison (d + 1) (59, [(2, .int (gi mem 27 5)), (0, .ref 30), (1, .int x)], [.int 0], (si (si mem 27 10 1) 27 11 (gi mem 27 7))) _
    exact yR_rz rfl ⟨by decide, by decide⟩ (h1 q1 hm_2)
  ·
    refine yR_m 1 (fun _ _ _ _ => rfl) ?_
    refine wR_gi rfl rO_e rO_5 hm rfl ?_
    refine yR_m 1 (fun _ _ _ _ => rfl) ?_
    refine wR_ic_ne rfl (a := (gi mem 27 5).toInt) (c := 60) rfl rfl (fun q2 => ?_) (fun q2 => ?_)
    ·
      refine yR_m 1 (fun _ _ _ _ => rfl) ?_
      refine yR_rz rfl ⟨by decide, by decide⟩ ?_
      show yR zpg tX10_takesComparison (d + 1) (17, [(2, .int (gi mem 27 5)), (0, .ref 30), (1, .int x)], [.int 0], mem) _
      refine wR_if_ne rfl (a := 0) rfl (fun q => by exfalso; omega) (fun _ => ?_)
      refine yR_m 1 (fun _ _ _ _ => rfl) ?_
      refine wR_gr rfl sO_e sO_0 hm ?_
      refine yR_m 1 (fun _ _ _ _ => rfl) ?_
      refine wR_iv rfl rfl rO_e hm rfl rfl rfl rfl ?_
      show yR zpg tX5_isSign d (0, [(0, .ref 27), (1, .int 62)], [], mem) _
      refine yR_m 1 (fun _ _ _ _ => rfl) ?_
      refine wR_gi rfl rO_e rO_4 hm rfl ?_
      refine yR_m 1 (fun _ _ _ _ => rfl) ?_
      refine wR_ic_ne rfl (a := (gi mem 27 4).toInt) (c := 4) rfl rfl (fun q => by exfalso; omega) (fun _ => ?_)
      refine yR_m 1 (fun _ _ _ _ => rfl) ?_
      refine wR_gi rfl rO_e rO_5 hm rfl ?_
      refine yR_m 1 (fun _ _ _ _ => rfl) ?_
      refine wR_ic_ne rfl (a := (gi mem 27 5).toInt) (c := 62) rfl rfl (fun q3 => ?_) (fun q3 => ?_)
      ·
        refine yR_m 1 (fun _ _ _ _ => rfl) ?_
        refine yR_rz rfl ⟨by decide, by decide⟩ ?_
        show yR zpg tX10_takesComparison (d + 1) (29, [(2, .int (gi mem 27 5)), (0, .ref 30), (1, .int x)], [.int 0], mem) _
        refine wR_if_ne rfl (a := 0) rfl (fun q => by exfalso; omega) (fun _ => ?_)
        refine yR_m 1 (fun _ _ _ _ => rfl) ?_
        refine wR_gr rfl sO_e sO_0 hm ?_
        refine yR_m 1 (fun _ _ _ _ => rfl) ?_
        refine wR_iv rfl rfl rO_e hm rfl rfl rfl rfl ?_
        show yR zpg tX5_isSign d (0, [(0, .ref 27), (1, .int 61)], [], mem) _
        refine yR_m 1 (fun _ _ _ _ => rfl) ?_
        refine wR_gi rfl rO_e rO_4 hm rfl ?_
        refine yR_m 1 (fun _ _ _ _ => rfl) ?_
        refine wR_ic_ne rfl (a := (gi mem 27 4).toInt) (c := 4) rfl rfl (fun q => by exfalso; omega) (fun _ => ?_)
        refine yR_m 1 (fun _ _ _ _ => rfl) ?_
        refine wR_gi rfl rO_e rO_5 hm rfl ?_
        refine yR_m 1 (fun _ _ _ _ => rfl) ?_
        refine wR_ic_ne rfl (a := (gi mem 27 5).toInt) (c := 61) rfl rfl (fun q4 => ?_) (fun q4 => ?_)
        ·
          refine yR_m 1 (fun _ _ _ _ => rfl) ?_
          refine yR_rz rfl ⟨by decide, by decide⟩ ?_
          show yR zpg tX10_takesComparison (d + 1) (41, [(2, .int (gi mem 27 5)), (0, .ref 30), (1, .int x)], [.int 0], mem) _
          refine wR_if_ne rfl (a := 0) rfl (fun q => by exfalso; omega) (fun _ => ?_)
          refine yR_m 1 (fun _ _ _ _ => rfl) ?_
          refine wR_gr rfl sO_e sO_0 hm ?_
          refine yR_m 2 (fun _ _ _ _ => rfl) ?_
          refine wR_gr rfl sO_e sO_0 hm ?_
          refine wR_gi rfl rO_e rO_7 hm rfl ?_
          refine wR_iv rfl rfl rO_e hm rfl rfl rfl rfl ?_
          show yR zpg tX5_faults d (0, [(0, .ref 27), (1, .int 1), (2, .int (gi mem 27 7))], [], mem) _
          refine yR_m 2 (fun _ _ _ _ => rfl) ?_
          refine wR_pi rfl rO_e rO_10 hm rfl ?_
          have hm_3 : aTm aT0 (si mem 27 10 1) := tm_si rO_e rO_10 hm (i32_b _)
          refine yR_m 2 (fun _ _ _ _ => rfl) ?_
          refine wR_pi rfl rO_e rO_11 hm_3 rfl ?_
          have hm_4 : aTm aT0 (si (si mem 27 10 1) 27 11 (gi mem 27 7)) := tm_si rO_e rO_11 hm_3 (i32_b _)
          refine yR_m 1 (fun _ _ _ _ => rfl) ?_
          refine yR_rz rfl ⟨by decide, by decide⟩ ?_
          show yR zpg tX10_takesComparison (d + 1) (59, [(2, .int (gi mem 27 5)), (0, .ref 30), (1, .int x)], [.int 0], (si (si mem 27 10 1) 27 11 (gi mem 27 7))) _
          exact yR_rz rfl ⟨by decide, by decide⟩ (h2 q1 q2 q3 q4 hm_4)
        ·
          refine yR_m 2 (fun _ _ _ _ => rfl) ?_
          refine yR_rz rfl ⟨by decide, by decide⟩ ?_
          show yR zpg tX10_takesComparison (d + 1) (41, [(2, .int (gi mem 27 5)), (0, .ref 30), (1, .int x)], [.int 1], mem) _
          refine wR_if_ne rfl (a := 1) rfl (fun _ => ?_) (fun q => by exfalso; omega)
          refine yR_m 1 (fun _ _ _ _ => rfl) ?_
          refine wR_gr rfl sO_e sO_0 hm ?_
          refine wR_cv rfl rfl rO_e hm rfl (h_avC (T := T) (n := n) (p := p) hm (cRd_t hR) (s1 q1 q2 q3 q4) (by omega)) ?_
          rintro _ m5 ⟨rfl, hI5, k6⟩
          show yR zpg tX10_takesComparison (d + 1) (67, [(2, .int (gi mem 27 5)), (0, .ref 30), (1, .int x)], [], m5) _
          refine yR_m 2 (fun _ _ _ _ => rfl) ?_
          refine wR_cv rfl rfl sO_e hI5 rfl (hS _ _ _ (tkf T n p).2 (f.1, 1, f.2.2.1, (tkf T n p).1.2.1 :: f.2.2.2) r (by omega) hx hI5 (tB_c2 hB (c2_tr c2_rf (c2_fo hA k6.1 rfl)) (k6.2) (s2 q1 q2 q3 q4 m5 hI5 k6)) ((opn_k (f := (f.1, 1, f.2.2.1, (tkf T n p).1.2.1 :: f.2.2.2)) (g := f) (nnC_c (s3 q1 q2 q3 q4 m5 hI5 k6).1)).trans hO) ⟨show (1 : Int) < 2 by decide, fun w => absurd hb.2.2.1 w.2, hdk_1 (s3 q1 q2 q3 q4 m5 hI5 k6).2⟩) ?_
          rintro _ m7 ⟨v9, q10, rfl, hm7, k8⟩
          show yR zpg tX10_takesComparison (d + 1) (72, [(2, .int (gi mem 27 5)), (0, .ref 30), (1, .int x)], [.int v9], m7) _
          refine wR_if_eq rfl (a := (v9).toInt) rfl (fun q11 => ?_) (fun q11 => ?_)
          ·
            refine yR_m 1 (fun _ _ _ _ => rfl) ?_
            exact yR_rz rfl ⟨by decide, by decide⟩ (h3 q1 q2 q3 q4 m5 hI5 k6 v9 q10 m7 hm7 k8 q11 hm7)
          ·
            refine yR_m 1 (fun _ _ _ _ => rfl) ?_
            refine wR_gq rfl sO_e hm7 ((c2_30 hA (c2_tr (c2_tr c2_rf (c2_fo hA k6.1 rfl)) k8.1)).trans hr) ?_
            refine yR_m 3 (fun _ _ _ _ => rfl) ?_
            refine wR_cv rfl rfl hRo_e hm7 rfl (h_putC hA hm7 (by omega)) ?_
            rintro _ m12 ⟨v14, rfl, hm12, k13⟩
            show yR zpg tX10_takesComparison (d + 1) (87, [(2, .int (gi mem 27 5)), (0, .ref 30), (1, .int x)], [.int v14], m12) _
            refine wR_if_eq rfl (a := (v14).toInt) rfl (fun q15 => ?_) (fun q15 => ?_)
            ·
              refine yR_m 1 (fun _ _ _ _ => rfl) ?_
              exact yR_rz rfl ⟨by decide, by decide⟩ (h4 q1 q2 q3 q4 m5 hI5 k6 v9 q10 m7 hm7 k8 q11 v14 m12 hm12 k13 q15 hm12)
            ·
              refine yR_m 2 (fun _ _ _ _ => rfl) ?_
              exact yR_rz rfl ⟨by decide, by decide⟩ (h5 q1 q2 q3 q4 m5 hI5 k6 v9 q10 m7 hm7 k8 q11 v14 m12 hm12 k13 q15 hm12)
      ·
        refine yR_m 2 (fun _ _ _ _ => rfl) ?_
        refine yR_rz rfl ⟨by decide, by decide⟩ ?_
        show yR zpg tX10_takesComparison (d + 1) (29, [(2, .int (gi mem 27 5)), (0, .ref 30), (1, .int x)], [.int 1], mem) _
        refine wR_if_ne rfl (a := 1) rfl (fun _ => ?_) (fun q => by exfalso; omega)
        refine yR_m 1 (fun _ _ _ _ => rfl) ?_
        refine wR_gr rfl sO_e sO_0 hm ?_
        refine wR_cv rfl rfl rO_e hm rfl (h_avC (T := T) (n := n) (p := p) hm (cRd_t hR) (s4 q1 q2 q3) (by omega)) ?_
        rintro _ m16 ⟨rfl, hI16, k17⟩
        show yR zpg tX10_takesComparison (d + 1) (67, [(2, .int (gi mem 27 5)), (0, .ref 30), (1, .int x)], [], m16) _
        refine yR_m 2 (fun _ _ _ _ => rfl) ?_
        refine wR_cv rfl rfl sO_e hI16 rfl (hS _ _ _ (tkf T n p).2 (f.1, 1, f.2.2.1, (tkf T n p).1.2.1 :: f.2.2.2) r (by omega) hx hI16 (tB_c2 hB (c2_tr c2_rf (c2_fo hA k17.1 rfl)) (k17.2) (s5 q1 q2 q3 m16 hI16 k17)) ((opn_k (f := (f.1, 1, f.2.2.1, (tkf T n p).1.2.1 :: f.2.2.2)) (g := f) (nnC_c (s6 q1 q2 q3 m16 hI16 k17).1)).trans hO) ⟨show (1 : Int) < 2 by decide, fun w => absurd hb.2.2.1 w.2, hdk_1 (s6 q1 q2 q3 m16 hI16 k17).2⟩) ?_
        rintro _ m18 ⟨v20, q21, rfl, hm18, k19⟩
        show yR zpg tX10_takesComparison (d + 1) (72, [(2, .int (gi mem 27 5)), (0, .ref 30), (1, .int x)], [.int v20], m18) _
        refine wR_if_eq rfl (a := (v20).toInt) rfl (fun q22 => ?_) (fun q22 => ?_)
        ·
          refine yR_m 1 (fun _ _ _ _ => rfl) ?_
          exact yR_rz rfl ⟨by decide, by decide⟩ (h6 q1 q2 q3 m16 hI16 k17 v20 q21 m18 hm18 k19 q22 hm18)
        ·
          refine yR_m 1 (fun _ _ _ _ => rfl) ?_
          refine wR_gq rfl sO_e hm18 ((c2_30 hA (c2_tr (c2_tr c2_rf (c2_fo hA k17.1 rfl)) k19.1)).trans hr) ?_
          refine yR_m 3 (fun _ _ _ _ => rfl) ?_
          refine wR_cv rfl rfl hRo_e hm18 rfl (h_putC hA hm18 (by omega)) ?_
          rintro _ m23 ⟨v25, rfl, hm23, k24⟩
          show yR zpg tX10_takesComparison (d + 1) (87, [(2, .int (gi mem 27 5)), (0, .ref 30), (1, .int x)], [.int v25], m23) _
          refine wR_if_eq rfl (a := (v25).toInt) rfl (fun q26 => ?_) (fun q26 => ?_)
          ·
            refine yR_m 1 (fun _ _ _ _ => rfl) ?_
            exact yR_rz rfl ⟨by decide, by decide⟩ (h7 q1 q2 q3 m16 hI16 k17 v20 q21 m18 hm18 k19 q22 v25 m23 hm23 k24 q26 hm23)
          ·
            refine yR_m 2 (fun _ _ _ _ => rfl) ?_
            exact yR_rz rfl ⟨by decide, by decide⟩ (h8 q1 q2 q3 m16 hI16 k17 v20 q21 m18 hm18 k19 q22 v25 m23 hm23 k24 q26 hm23)
    ·
      refine yR_m 2 (fun _ _ _ _ => rfl) ?_
      refine yR_rz rfl ⟨by decide, by decide⟩ ?_
      show yR zpg tX10_takesComparison (d + 1) (17, [(2, .int (gi mem 27 5)), (0, .ref 30), (1, .int x)], [.int 1], mem) _
      refine wR_if_ne rfl (a := 1) rfl (fun _ => ?_) (fun q => by exfalso; omega)
      refine yR_m 1 (fun _ _ _ _ => rfl) ?_
      refine wR_gr rfl sO_e sO_0 hm ?_
      refine wR_cv rfl rfl rO_e hm rfl (h_avC (T := T) (n := n) (p := p) hm (cRd_t hR) (s7 q1 q2) (by omega)) ?_
      rintro _ m27 ⟨rfl, hI27, k28⟩
      show yR zpg tX10_takesComparison (d + 1) (67, [(2, .int (gi mem 27 5)), (0, .ref 30), (1, .int x)], [], m27) _
      refine yR_m 2 (fun _ _ _ _ => rfl) ?_
      refine wR_cv rfl rfl sO_e hI27 rfl (hS _ _ _ (tkf T n p).2 (f.1, 1, f.2.2.1, (tkf T n p).1.2.1 :: f.2.2.2) r (by omega) hx hI27 (tB_c2 hB (c2_tr c2_rf (c2_fo hA k28.1 rfl)) (k28.2) (s8 q1 q2 m27 hI27 k28)) ((opn_k (f := (f.1, 1, f.2.2.1, (tkf T n p).1.2.1 :: f.2.2.2)) (g := f) (nnC_c (s9 q1 q2 m27 hI27 k28).1)).trans hO) ⟨show (1 : Int) < 2 by decide, fun w => absurd hb.2.2.1 w.2, hdk_1 (s9 q1 q2 m27 hI27 k28).2⟩) ?_
      rintro _ m29 ⟨v31, q32, rfl, hm29, k30⟩
      show yR zpg tX10_takesComparison (d + 1) (72, [(2, .int (gi mem 27 5)), (0, .ref 30), (1, .int x)], [.int v31], m29) _
      refine wR_if_eq rfl (a := (v31).toInt) rfl (fun q33 => ?_) (fun q33 => ?_)
      ·
        refine yR_m 1 (fun _ _ _ _ => rfl) ?_
        exact yR_rz rfl ⟨by decide, by decide⟩ (h9 q1 q2 m27 hI27 k28 v31 q32 m29 hm29 k30 q33 hm29)
      ·
        refine yR_m 1 (fun _ _ _ _ => rfl) ?_
        refine wR_gq rfl sO_e hm29 ((c2_30 hA (c2_tr (c2_tr c2_rf (c2_fo hA k28.1 rfl)) k30.1)).trans hr) ?_
        refine yR_m 3 (fun _ _ _ _ => rfl) ?_
        refine wR_cv rfl rfl hRo_e hm29 rfl (h_putC hA hm29 (by omega)) ?_
        rintro _ m34 ⟨v36, rfl, hm34, k35⟩
        show yR zpg tX10_takesComparison (d + 1) (87, [(2, .int (gi mem 27 5)), (0, .ref 30), (1, .int x)], [.int v36], m34) _
        refine wR_if_eq rfl (a := (v36).toInt) rfl (fun q37 => ?_) (fun q37 => ?_)
        ·
          refine yR_m 1 (fun _ _ _ _ => rfl) ?_
          exact yR_rz rfl ⟨by decide, by decide⟩ (h10 q1 q2 m27 hI27 k28 v31 q32 m29 hm29 k30 q33 v36 m34 hm34 k35 q37 hm34)
        ·
          refine yR_m 2 (fun _ _ _ _ => rfl) ?_
          exact yR_rz rfl ⟨by decide, by decide⟩ (h11 q1 q2 m27 hI27 k28 v31 q32 m29 hm29 k30 q33 v36 m34 hm34 k35 q37 hm34)

theorem c_cmp {o : Int} {D : Nat} (hA : hRA R A) (hD : 4 ≤ D) (hS : tC R A T n ru 104 o D (bS5 T n) (pSum T n ru)) : tCc R A T n ru o (D + 1) := by
  intro d mem x p f r hd hx hm hB hO hb
  obtain ⟨d, rfl⟩ : ∃ q, d = q + 2 := ⟨d - 2, by omega⟩
  have hR := hB.2.2.2.1
  have hp := cRd_p hR
  have hr := hB.2.1
  have hs3 := hB.2.2.2.2.1
  have h16 := hB.2.2.2.2.2
  obtain ⟨fs, hRo_e⟩ := rl_of hA
  refine yC_of (t := tX10_takesComparison) rfl rfl ?_
  exact w_cmC (R := R) (A := A) (T := T) (n := n) (ru := ru) (p := p) (o := o) (D := D) (f := f) (r := r) hm (by omega) hD hA hRo_e hr hR hS hx hB hO hb
        (fun q1 hm2 => ⟨_, p, rfl, hm2, (c2_tr c2_rf (c2_fo hA (fo_sv rfl (fo_sv rfl ((fo_rf (ks := []) (is := rdF2))))) rfl)), Or.inr ⟨rfl, M_t0 hp hb.1 hb.2.1 hb.2.2.2.1 (fun w => by rcases w with w | w | w <;> (have q9 := (cX_S hR).2 w; omega))⟩⟩)
        (fun q1 q2 q3 q4 hm2 => ⟨_, p, rfl, hm2, (c2_tr c2_rf (c2_fo hA (fo_sv rfl (fo_sv rfl ((fo_rf (ks := []) (is := rdF2))))) rfl)), Or.inr ⟨rfl, M_t0 hp hb.1 hb.2.1 hb.2.2.2.1 (fun w => by rcases w with w | w | w <;> (have q9 := (cX_S hR).2 w; omega))⟩⟩)
        (fun q1 q2 q3 q4 => cX_4 hR (by omega))
        (fun q1 q2 q3 q4 m5 hI5 k6 => by
          have z0 := congrArg Int32.toInt (c2_R3 hA (fo_up k6.1 rfl rfl))
          have y0 := tk_le (hR)
          omega)
        (fun q1 q2 q3 q4 m5 hI5 k6 => cm_c (Or.inr (Or.inr ((cX_S hR).1 ⟨by omega, by omega⟩))))
        (fun q1 q2 q3 q4 m5 hI5 k6 v9 q10 m7 hm7 k8 q11 hm2 => by
          have z0 := congrArg Int32.toInt (c2_R3 hA (fo_up k6.1 rfl rfl))
          have y0 := tk_le (hR)
          exact ⟨_, p, rfl, hm2, (c2_tr (c2_tr c2_rf (c2_fo hA k6.1 rfl)) k8.1), Or.inr ⟨rfl, ((M_cmp hp hb.1 hb.2.1 (Or.inr (Or.inr ((cX_S hR).1 ⟨by omega, by omega⟩))) (hdk_m hb.2.2.2.2 (by decide))).trans (Mw (cC_fo hA k6.1).symm)).trans (tH_0 k8 (by omega))⟩⟩)
        (fun q1 q2 q3 q4 m5 hI5 k6 v9 q10 m7 hm7 k8 q11 v14 m12 hm12 k13 q15 hm2 => by exfalso; omega)
        (fun q1 q2 q3 q4 m5 hI5 k6 v9 q10 m7 hm7 k8 q11 v14 m12 hm12 k13 q15 hm2 => by
          have ep := cX_e hR (by omega) (by omega)
          have z0 := congrArg Int32.toInt (c2_R3 hA (fo_up k6.1 rfl rfl))
          have y0 := tk_le (hR)
          have z1 := (tH_1 k8 (by omega)).2
          have y1 := (cRd_p (tH_1 k8 (by omega)).2.2.1).2
          have z2 := k13.1.2.1
          have a9 := (tH_1 k8 (by omega)).1
          exact ⟨_, _, rfl, hm2, (c2_tr (c2_tr (c2_tr c2_rf (c2_fo hA k6.1 rfl)) k8.1) (c2_pF hA k13.1.1)), Or.inl ⟨rfl, cm_1 hp (cRd_p (tH_1 k8 (by omega)).2.2.1) hb (Or.inr (Or.inr ((cX_S hR).1 ⟨by omega, by omega⟩))) (cC_fo hA k6.1) a9 (vp_2 (k13.1.2.2 (by omega)) (by have q9 := mX5 hR (by omega); have q8 := ad_u (x := gi mem 27 5) (by omega) (by omega); omega)), by omega, ⟨_, _, cR_pF hA k13.1.1 (cRd_t (tH_1 k8 (by omega)).2.2.1)⟩, by omega, by omega⟩⟩)
        (fun q1 q2 q3 => cX_4 hR (by omega))
        (fun q1 q2 q3 m16 hI16 k17 => by
          have z0 := congrArg Int32.toInt (c2_R3 hA (fo_up k17.1 rfl rfl))
          have y0 := tk_le (hR)
          omega)
        (fun q1 q2 q3 m16 hI16 k17 => cm_c (Or.inr (Or.inl ((cX_S hR).1 ⟨by omega, by omega⟩))))
        (fun q1 q2 q3 m16 hI16 k17 v20 q21 m18 hm18 k19 q22 hm2 => by
          have z0 := congrArg Int32.toInt (c2_R3 hA (fo_up k17.1 rfl rfl))
          have y0 := tk_le (hR)
          exact ⟨_, p, rfl, hm2, (c2_tr (c2_tr c2_rf (c2_fo hA k17.1 rfl)) k19.1), Or.inr ⟨rfl, ((M_cmp hp hb.1 hb.2.1 (Or.inr (Or.inl ((cX_S hR).1 ⟨by omega, by omega⟩))) (hdk_m hb.2.2.2.2 (by decide))).trans (Mw (cC_fo hA k17.1).symm)).trans (tH_0 k19 (by omega))⟩⟩)
        (fun q1 q2 q3 m16 hI16 k17 v20 q21 m18 hm18 k19 q22 v25 m23 hm23 k24 q26 hm2 => by exfalso; omega)
        (fun q1 q2 q3 m16 hI16 k17 v20 q21 m18 hm18 k19 q22 v25 m23 hm23 k24 q26 hm2 => by
          have ep := cX_e hR (by omega) (by omega)
          have z0 := congrArg Int32.toInt (c2_R3 hA (fo_up k17.1 rfl rfl))
          have y0 := tk_le (hR)
          have z1 := (tH_1 k19 (by omega)).2
          have y1 := (cRd_p (tH_1 k19 (by omega)).2.2.1).2
          have z2 := k24.1.2.1
          have a9 := (tH_1 k19 (by omega)).1
          exact ⟨_, _, rfl, hm2, (c2_tr (c2_tr (c2_tr c2_rf (c2_fo hA k17.1 rfl)) k19.1) (c2_pF hA k24.1.1)), Or.inl ⟨rfl, cm_1 hp (cRd_p (tH_1 k19 (by omega)).2.2.1) hb (Or.inr (Or.inl ((cX_S hR).1 ⟨by omega, by omega⟩))) (cC_fo hA k17.1) a9 (vp_2 (k24.1.2.2 (by omega)) (by have q9 := mX5 hR (by omega); have q8 := ad_u (x := gi mem 27 5) (by omega) (by omega); omega)), by omega, ⟨_, _, cR_pF hA k24.1.1 (cRd_t (tH_1 k19 (by omega)).2.2.1)⟩, by omega, by omega⟩⟩)
        (fun q1 q2 => cX_4 hR (by omega))
        (fun q1 q2 m27 hI27 k28 => by
          have z0 := congrArg Int32.toInt (c2_R3 hA (fo_up k28.1 rfl rfl))
          have y0 := tk_le (hR)
          omega)
        (fun q1 q2 m27 hI27 k28 => cm_c (Or.inl ((cX_S hR).1 ⟨by omega, by omega⟩)))
        (fun q1 q2 m27 hI27 k28 v31 q32 m29 hm29 k30 q33 hm2 => by
          have z0 := congrArg Int32.toInt (c2_R3 hA (fo_up k28.1 rfl rfl))
          have y0 := tk_le (hR)
          exact ⟨_, p, rfl, hm2, (c2_tr (c2_tr c2_rf (c2_fo hA k28.1 rfl)) k30.1), Or.inr ⟨rfl, ((M_cmp hp hb.1 hb.2.1 (Or.inl ((cX_S hR).1 ⟨by omega, by omega⟩)) (hdk_m hb.2.2.2.2 (by decide))).trans (Mw (cC_fo hA k28.1).symm)).trans (tH_0 k30 (by omega))⟩⟩)
        (fun q1 q2 m27 hI27 k28 v31 q32 m29 hm29 k30 q33 v36 m34 hm34 k35 q37 hm2 => by exfalso; omega)
        (fun q1 q2 m27 hI27 k28 v31 q32 m29 hm29 k30 q33 v36 m34 hm34 k35 q37 hm2 => by
          have ep := cX_e hR (by omega) (by omega)
          have z0 := congrArg Int32.toInt (c2_R3 hA (fo_up k28.1 rfl rfl))
          have y0 := tk_le (hR)
          have z1 := (tH_1 k30 (by omega)).2
          have y1 := (cRd_p (tH_1 k30 (by omega)).2.2.1).2
          have z2 := k35.1.2.1
          have a9 := (tH_1 k30 (by omega)).1
          exact ⟨_, _, rfl, hm2, (c2_tr (c2_tr (c2_tr c2_rf (c2_fo hA k28.1 rfl)) k30.1) (c2_pF hA k35.1.1)), Or.inl ⟨rfl, cm_1 hp (cRd_p (tH_1 k30 (by omega)).2.2.1) hb (Or.inl ((cX_S hR).1 ⟨by omega, by omega⟩)) (cC_fo hA k28.1) a9 (vp_2 (k35.1.2.2 (by omega)) (by have q9 := mX5 hR (by omega); have q8 := ad_u (x := gi mem 27 5) (by omega) (by omega); omega)), by omega, ⟨_, _, cR_pF hA k35.1.1 (cRd_t (tH_1 k30 (by omega)).2.2.1)⟩, by omega, by omega⟩⟩)
theorem opn_n {k ph bg : Int} {l : List Int} : opn ((k, ph, bg, 22 :: l) :: r) = opn ((k, ph, bg, l) :: r) + 1 := by
  show ((r.length + 1 : Nat) : Int) - 1 + (((if (22 : Int) = 22 then (1 : Int) else 0) + nnC l) + nts r) = ((r.length + 1 : Nat) : Int) - 1 + (nnC l + nts r) + 1
  rw [if_pos rfl]
  omega
theorem M_nt (hp : 0 ≤ p ∧ p ≤ n) (hb : bF f p) (k : sIO T n 22 p) (o : opn (f :: r) < 7) : Mch T n ru w (f :: r) 0 p = Mch T n ru w ((f.1, f.2.1, f.2.2.1, 22 :: f.2.2.2) :: r) 0 (tkf T n p).2 := M_o2 hp (by
  rw [sOpd_e]
  exact (pif_t ⟨⟨hb.1, hb.2.2.1⟩, k⟩).trans (oif_t o))
theorem M_ntn (hp : 0 ≤ p ∧ p ≤ n) (hb : bF f p) (k : sIO T n 22 p) (o : ¬ opn (f :: r) < 7) : Mch T n ru w (f :: r) 0 p = none := M_o0 hp (by
  rw [sOpd_e]
  exact (pif_t ⟨⟨hb.1, hb.2.2.1⟩, k⟩).trans (oif_f o))
theorem M_bk (hp : 0 ≤ p ∧ p ≤ n) (hb : bF f p) (k : sIS T n 91 p) (o : opn (f :: r) < 7) : Mch T n ru w (f :: r) 0 p = Mch T n ru w ((5, 0, 1, []) :: bgA (f :: r)) 0 (tkf T n p).2 := M_o2 hp (by
  rw [sOpd_e]
  exact (pif_f (fun z => sSO k z.2)).trans ((pif_t ⟨⟨hb.1, hb.2.2.1⟩, k⟩).trans (oif_t o)))
theorem M_bkn (hp : 0 ≤ p ∧ p ≤ n) (hb : bF f p) (k : sIS T n 91 p) (o : ¬ opn (f :: r) < 7) : Mch T n ru w (f :: r) 0 p = none := M_o0 hp (by
  rw [sOpd_e]
  exact (pif_f (fun z => sSO k z.2)).trans ((pif_t ⟨⟨hb.1, hb.2.2.1⟩, k⟩).trans (oif_f o)))
theorem M_al (hp : 0 ≤ p ∧ p ≤ n) (hb : bF f p) (k : sIO T n 23 p) (hw : w' = w ++ [10023]) : Mch T n ru w (f :: r) 0 p = Mch T n ru w' ((f.1, 2, 0, f.2.2.2) :: r) 1 (tkf T n p).2 := by
  rw [hw]
  refine M_o1 hp ?_
  rw [sOpd_e]
  exact (pif_f (fun z => by have q9 := sIO_u (by decide) (by decide) k z.2; omega)).trans ((pif_f (fun z => sSO z.2 k)).trans (pif_t ⟨⟨hb.1, hb.2.2.1⟩, k⟩))
/-- a bracket of a test: closed, or not -/
theorem bk_c (hq : 0 ≤ q0 ∧ q0 ≤ n) (h : pTest T n ru w (5, 0, 1, []) (bgA (f :: r)) q1 w' q0) (s : sSgn T n 93 q0 = some q2) : Mch T n ru w ((5, 0, 1, []) :: bgA (f :: r)) 0 q1 = Mch T n ru w' ((f.1, 2, 0, f.2.2.2) :: r) 1 q2 := by
  obtain ⟨a, b⟩ := sS_1 s
  obtain ⟨⟨g, g1, g2, g3, g5, g4⟩, h2⟩ := h
  have g5 : g.2.2.2 = [] := g5
  rw [b]
  exact g4.trans (M_c5 (f := g) hq (gd_T g2 g3 h2) g1 a (by rw [g5]; intro q hq; cases hq))
theorem bk_n (hq : 0 ≤ q0 ∧ q0 ≤ n) (h : pTest T n ru w (5, 0, 1, []) (bgA (f :: r)) q1 w' q0) (s : sSgn T n 93 q0 = none) : Mch T n ru w ((5, 0, 1, []) :: bgA (f :: r)) 0 q1 = none := by
  obtain ⟨⟨g, g1, g2, g3, g5, g4⟩, h2⟩ := h
  exact g4.trans (M_c5n (f := g) hq (gd_T g2 g3 h2) g1 (sS_0 s))
theorem fc_n (hq : 0 ≤ q ∧ q ≤ n) (E : Mch T n ru w0 (f :: r) 0 p = Mch T n ru w ((f.1, f.2.1, f.2.2.1, 22 :: f.2.2.2) :: r) 0 q0) (h : pFact T n ru w (f.1, f.2.1, f.2.2.1, 22 :: f.2.2.2) r q0 w' q) (e2 : w3 = w' ++ [10022]) : pFact T n ru w0 f r p w3 q := by
  obtain ⟨g, g1, g2, g3, g5, g4⟩ := h
  have g5 : g.2.2.2 = 22 :: f.2.2.2 := g5
  have F := M_fl (ru := ru) (r := r) (k := g.1) (ph := g.2.1) (bg := g.2.2.1) (o := 22) (O := f.2.2.2) hq (by decide) (fun _ z => fun y => g3 z (Or.inr y)) (fun _ => ⟨fun z => fun y => g3 z (Or.inl y), fun z => g2 z.1.2⟩) (fun z => absurd z (by decide)) e2
  rw [← g5] at F
  exact ⟨(g.1, g.2.1, g.2.2.1, f.2.2.2), g1, g2, g3, rfl, E.trans (g4.trans F)⟩
theorem fc_2 (E : Mch T n ru w (f :: r) 0 p = Mch T n ru w' ((f.1, 2, 0, f.2.2.2) :: r) 1 q) : pFact T n ru w f r p w' q := ⟨(f.1, 2, 0, f.2.2.2), rfl, (show ¬ (2 : Int) = 0 by decide), fun w => absurd (show (2 : Int) < 2 from w) (by decide), rfl, E⟩
theorem fc_c (E : pPart T n ru w0 f r p w q0) (h : pCmp T n ru w (f.1, f.2.1, 0, f.2.2.2) r q0 w' q) : pFact T n ru w0 f r p w' q := ⟨(f.1, 1, 0, f.2.2.2), rfl, (show ¬ (1 : Int) = 0 by decide), fun _ => h.2, rfl, E.trans h.1⟩
set_option maxRecDepth 100000 in
theorem w_faC {d : Nat} {mem : zM} {P : Option Value → zM → Prop} {R A : Nat} {T : List Int32} {n ru p o : Int} {D : Nat} {f : Fr} {r : List Fr} {fs : List (Bool × aTy)} {x : Int32} (hm : aTm aT0 mem) (hDd : D ≤ d + 1) (hD3 : 4 ≤ D) (hA : hRA R A) (hRo_e : aat aT0 R = some (.inr (7, fs))) (hr : zfl mem 30 1 = some (.ref R)) (hR : cRd T n p mem) (hS : tC R A T n ru 104 o D (bS5 T n) (pSum T n ru)) (hC : tCc R A T n ru o D) (hF : o < 7 → tC R A T n ru 102 (o + 1) D (bF) (pFact T n ru)) (hT : o < 7 → tC R A T n ru 100 (o + 1) D (bT) (pTest T n ru)) (hx : x.toInt = o) (hB : tB R A T n ru p mem) (hO : opn (f :: r) = o) (hb : bF f p) (x1 : x.toInt < 7 → (x + 1).toInt = o + 1) (s1 : ¬ (gi mem 27 4).toInt = 2 → ¬ (gi mem 27 4).toInt = 4 → N3 T n f p) (h1 : ¬ (gi mem 27 4).toInt = 2 → ¬ (gi mem 27 4).toInt = 4 → ∀ (v5 : Int32) (q6 : Int) (m3 : zM), aTm aT0 m3 → tH R A T n p (pSum T n ru (cC R A mem) f r p) (Mch T n ru (cC R A mem) (f :: r) 0 p = none) mem v5.toInt q6 m3 → (v5).toInt = 0 → aTm aT0 m3 → P (some (.int 0)) m3) (s2 : ¬ (gi mem 27 4).toInt = 2 → ¬ (gi mem 27 4).toInt = 4 → ∀ (v5 : Int32) (q6 : Int) (m3 : zM), aTm aT0 m3 → tH R A T n p (pSum T n ru (cC R A mem) f r p) (Mch T n ru (cC R A mem) (f :: r) 0 p = none) mem v5.toInt q6 m3 → ¬ (v5).toInt = 0 → (gi m3 R 3).toInt ≤ q6) (h2 : ¬ (gi mem 27 4).toInt = 2 → ¬ (gi mem 27 4).toInt = 4 → ∀ (v5 : Int32) (q6 : Int) (m3 : zM), aTm aT0 m3 → tH R A T n p (pSum T n ru (cC R A mem) f r p) (Mch T n ru (cC R A mem) (f :: r) 0 p = none) mem v5.toInt q6 m3 → ¬ (v5).toInt = 0 → ∀ (v10 : Int32) (q11 : Int) (m8 : zM), aTm aT0 m8 → tH R A T n q6 (pCmp T n ru (cC R A m3) (f.1, f.2.1, 0, f.2.2.2) r q6) (Mch T n ru (cC R A m3) ((f.1, f.2.1, 0, f.2.2.2) :: r) 1 q6 = none) m3 v10.toInt q11 m8 → (v10).toInt = 0 → aTm aT0 m8 → P (some (.int 0)) m8) (h3 : ¬ (gi mem 27 4).toInt = 2 → ¬ (gi mem 27 4).toInt = 4 → ∀ (v5 : Int32) (q6 : Int) (m3 : zM), aTm aT0 m3 → tH R A T n p (pSum T n ru (cC R A mem) f r p) (Mch T n ru (cC R A mem) (f :: r) 0 p = none) mem v5.toInt q6 m3 → ¬ (v5).toInt = 0 → ∀ (v10 : Int32) (q11 : Int) (m8 : zM), aTm aT0 m8 → tH R A T n q6 (pCmp T n ru (cC R A m3) (f.1, f.2.1, 0, f.2.2.2) r q6) (Mch T n ru (cC R A m3) ((f.1, f.2.1, 0, f.2.2.2) :: r) 1 q6 = none) m3 v10.toInt q11 m8 → ¬ (v10).toInt = 0 → aTm aT0 m8 → P (some (.int 1)) m8) (s3 : ¬ (gi mem 27 4).toInt = 2 → (gi mem 27 4).toInt = 4 → ¬ (gi mem 27 5).toInt = 91 → N3 T n f p) (h4 : ¬ (gi mem 27 4).toInt = 2 → (gi mem 27 4).toInt = 4 → ¬ (gi mem 27 5).toInt = 91 → ∀ (v16 : Int32) (q17 : Int) (m14 : zM), aTm aT0 m14 → tH R A T n p (pSum T n ru (cC R A mem) f r p) (Mch T n ru (cC R A mem) (f :: r) 0 p = none) mem v16.toInt q17 m14 → (v16).toInt = 0 → aTm aT0 m14 → P (some (.int 0)) m14) (s4 : ¬ (gi mem 27 4).toInt = 2 → (gi mem 27 4).toInt = 4 → ¬ (gi mem 27 5).toInt = 91 → ∀ (v16 : Int32) (q17 : Int) (m14 : zM), aTm aT0 m14 → tH R A T n p (pSum T n ru (cC R A mem) f r p) (Mch T n ru (cC R A mem) (f :: r) 0 p = none) mem v16.toInt q17 m14 → ¬ (v16).toInt = 0 → (gi m14 R 3).toInt ≤ q17) (h5 : ¬ (gi mem 27 4).toInt = 2 → (gi mem 27 4).toInt = 4 → ¬ (gi mem 27 5).toInt = 91 → ∀ (v16 : Int32) (q17 : Int) (m14 : zM), aTm aT0 m14 → tH R A T n p (pSum T n ru (cC R A mem) f r p) (Mch T n ru (cC R A mem) (f :: r) 0 p = none) mem v16.toInt q17 m14 → ¬ (v16).toInt = 0 → ∀ (v21 : Int32) (q22 : Int) (m19 : zM), aTm aT0 m19 → tH R A T n q17 (pCmp T n ru (cC R A m14) (f.1, f.2.1, 0, f.2.2.2) r q17) (Mch T n ru (cC R A m14) ((f.1, f.2.1, 0, f.2.2.2) :: r) 1 q17 = none) m14 v21.toInt q22 m19 → (v21).toInt = 0 → aTm aT0 m19 → P (some (.int 0)) m19) (h6 : ¬ (gi mem 27 4).toInt = 2 → (gi mem 27 4).toInt = 4 → ¬ (gi mem 27 5).toInt = 91 → ∀ (v16 : Int32) (q17 : Int) (m14 : zM), aTm aT0 m14 → tH R A T n p (pSum T n ru (cC R A mem) f r p) (Mch T n ru (cC R A mem) (f :: r) 0 p = none) mem v16.toInt q17 m14 → ¬ (v16).toInt = 0 → ∀ (v21 : Int32) (q22 : Int) (m19 : zM), aTm aT0 m19 → tH R A T n q17 (pCmp T n ru (cC R A m14) (f.1, f.2.1, 0, f.2.2.2) r q17) (Mch T n ru (cC R A m14) ((f.1, f.2.1, 0, f.2.2.2) :: r) 1 q17 = none) m14 v21.toInt q22 m19 → ¬ (v21).toInt = 0 → aTm aT0 m19 → P (some (.int 1)) m19) (s5 : ¬ (gi mem 27 4).toInt = 2 → (gi mem 27 4).toInt = 4 → (gi mem 27 5).toInt = 91 → ¬ (1 : Int) = 0 → ¬ (tkf T n p).1.1 = 4) (h7 : ¬ (gi mem 27 4).toInt = 2 → (gi mem 27 4).toInt = 4 → (gi mem 27 5).toInt = 91 → ∀ (v26 : Int32) (m24 : zM), aTm aT0 m24 → opH T n (tkf T n p).2 x.toInt 1 mem v26.toInt m24 → (v26).toInt = 0 → aTm aT0 m24 → P (some (.int 0)) m24) (s6 : ¬ (gi mem 27 4).toInt = 2 → (gi mem 27 4).toInt = 4 → (gi mem 27 5).toInt = 91 → ∀ (v26 : Int32) (m24 : zM), aTm aT0 m24 → opH T n (tkf T n p).2 x.toInt 1 mem v26.toInt m24 → ¬ (v26).toInt = 0 → (gi m24 R 3).toInt ≤ (tkf T n p).2) (h8 : ¬ (gi mem 27 4).toInt = 2 → (gi mem 27 4).toInt = 4 → (gi mem 27 5).toInt = 91 → ∀ (v26 : Int32) (m24 : zM), aTm aT0 m24 → opH T n (tkf T n p).2 x.toInt 1 mem v26.toInt m24 → ¬ (v26).toInt = 0 → ∀ (v30 : Int32) (q31 : Int) (m28 : zM), aTm aT0 m28 → tH R A T n (tkf T n p).2 (pTest T n ru (cC R A m24) (5, 0, 1, []) (bgA (f :: r)) (tkf T n p).2) (Mch T n ru (cC R A m24) ((5, 0, 1, []) :: (bgA (f :: r))) 0 (tkf T n p).2 = none) m24 v30.toInt q31 m28 → (v30).toInt = 0 → aTm aT0 m28 → P (some (.int 0)) m28) (h9 : ¬ (gi mem 27 4).toInt = 2 → (gi mem 27 4).toInt = 4 → (gi mem 27 5).toInt = 91 → ∀ (v26 : Int32) (m24 : zM), aTm aT0 m24 → opH T n (tkf T n p).2 x.toInt 1 mem v26.toInt m24 → ¬ (v26).toInt = 0 → ∀ (v30 : Int32) (q31 : Int) (m28 : zM), aTm aT0 m28 → tH R A T n (tkf T n p).2 (pTest T n ru (cC R A m24) (5, 0, 1, []) (bgA (f :: r)) (tkf T n p).2) (Mch T n ru (cC R A m24) ((5, 0, 1, []) :: (bgA (f :: r))) 0 (tkf T n p).2 = none) m24 v30.toInt q31 m28 → ¬ (v30).toInt = 0 → ∀ (v35 : Int32) (q36 : Int) (m33 : zM), aTm aT0 m33 → (fo 27 [] rdF2 m28 m33 ∧ ((v35.toInt = 1 ∧ sSgn T n 93 q31 = some q36 ∧ cRd T n q36 m33) ∨ (v35.toInt = 0 ∧ sSgn T n 93 q31 = none))) → (v35).toInt = 0 → aTm aT0 m33 → P (some (.int 0)) m33) (h10 : ¬ (gi mem 27 4).toInt = 2 → (gi mem 27 4).toInt = 4 → (gi mem 27 5).toInt = 91 → ∀ (v26 : Int32) (m24 : zM), aTm aT0 m24 → opH T n (tkf T n p).2 x.toInt 1 mem v26.toInt m24 → ¬ (v26).toInt = 0 → ∀ (v30 : Int32) (q31 : Int) (m28 : zM), aTm aT0 m28 → tH R A T n (tkf T n p).2 (pTest T n ru (cC R A m24) (5, 0, 1, []) (bgA (f :: r)) (tkf T n p).2) (Mch T n ru (cC R A m24) ((5, 0, 1, []) :: (bgA (f :: r))) 0 (tkf T n p).2 = none) m24 v30.toInt q31 m28 → ¬ (v30).toInt = 0 → ∀ (v35 : Int32) (q36 : Int) (m33 : zM), aTm aT0 m33 → (fo 27 [] rdF2 m28 m33 ∧ ((v35.toInt = 1 ∧ sSgn T n 93 q31 = some q36 ∧ cRd T n q36 m33) ∨ (v35.toInt = 0 ∧ sSgn T n 93 q31 = none))) → ¬ (v35).toInt = 0 → aTm aT0 m33 → P (some (.int 1)) m33) (s7 : (gi mem 27 4).toInt = 2 → ¬ (gi mem 27 5).toInt = 22 → ¬ (gi mem 27 5).toInt = 23 → N3 T n f p) (h11 : (gi mem 27 4).toInt = 2 → ¬ (gi mem 27 5).toInt = 22 → ¬ (gi mem 27 5).toInt = 23 → ∀ (v42 : Int32) (q43 : Int) (m40 : zM), aTm aT0 m40 → tH R A T n p (pSum T n ru (cC R A mem) f r p) (Mch T n ru (cC R A mem) (f :: r) 0 p = none) mem v42.toInt q43 m40 → (v42).toInt = 0 → aTm aT0 m40 → P (some (.int 0)) m40) (s8 : (gi mem 27 4).toInt = 2 → ¬ (gi mem 27 5).toInt = 22 → ¬ (gi mem 27 5).toInt = 23 → ∀ (v42 : Int32) (q43 : Int) (m40 : zM), aTm aT0 m40 → tH R A T n p (pSum T n ru (cC R A mem) f r p) (Mch T n ru (cC R A mem) (f :: r) 0 p = none) mem v42.toInt q43 m40 → ¬ (v42).toInt = 0 → (gi m40 R 3).toInt ≤ q43) (h12 : (gi mem 27 4).toInt = 2 → ¬ (gi mem 27 5).toInt = 22 → ¬ (gi mem 27 5).toInt = 23 → ∀ (v42 : Int32) (q43 : Int) (m40 : zM), aTm aT0 m40 → tH R A T n p (pSum T n ru (cC R A mem) f r p) (Mch T n ru (cC R A mem) (f :: r) 0 p = none) mem v42.toInt q43 m40 → ¬ (v42).toInt = 0 → ∀ (v47 : Int32) (q48 : Int) (m45 : zM), aTm aT0 m45 → tH R A T n q43 (pCmp T n ru (cC R A m40) (f.1, f.2.1, 0, f.2.2.2) r q43) (Mch T n ru (cC R A m40) ((f.1, f.2.1, 0, f.2.2.2) :: r) 1 q43 = none) m40 v47.toInt q48 m45 → (v47).toInt = 0 → aTm aT0 m45 → P (some (.int 0)) m45) (h13 : (gi mem 27 4).toInt = 2 → ¬ (gi mem 27 5).toInt = 22 → ¬ (gi mem 27 5).toInt = 23 → ∀ (v42 : Int32) (q43 : Int) (m40 : zM), aTm aT0 m40 → tH R A T n p (pSum T n ru (cC R A mem) f r p) (Mch T n ru (cC R A mem) (f :: r) 0 p = none) mem v42.toInt q43 m40 → ¬ (v42).toInt = 0 → ∀ (v47 : Int32) (q48 : Int) (m45 : zM), aTm aT0 m45 → tH R A T n q43 (pCmp T n ru (cC R A m40) (f.1, f.2.1, 0, f.2.2.2) r q43) (Mch T n ru (cC R A m40) ((f.1, f.2.1, 0, f.2.2.2) :: r) 1 q43 = none) m40 v47.toInt q48 m45 → ¬ (v47).toInt = 0 → aTm aT0 m45 → P (some (.int 1)) m45) (s9 : (gi mem 27 4).toInt = 2 → ¬ (gi mem 27 5).toInt = 22 → (gi mem 27 5).toInt = 23 → ¬ (tkf T n p).1.1 = 4) (h14 : (gi mem 27 4).toInt = 2 → ¬ (gi mem 27 5).toInt = 22 → (gi mem 27 5).toInt = 23 → ∀ (m50 : zM), aTm aT0 m50 → (fo 27 [] avF mem m50 ∧ cRd T n (tkf T n p).2 m50) → ∀ (v54 : Int32) (m52 : zM), aTm aT0 m52 → (puQ R A (10023 : Int) m50 m52 ∧ v54.toInt = 1) → aTm aT0 m52 → P (some (.int v54)) m52) (s10 : (gi mem 27 4).toInt = 2 → (gi mem 27 5).toInt = 22 → ¬ (1 : Int) = 0 → ¬ (tkf T n p).1.1 = 4) (h15 : (gi mem 27 4).toInt = 2 → (gi mem 27 5).toInt = 22 → ∀ (v57 : Int32) (m55 : zM), aTm aT0 m55 → opH T n (tkf T n p).2 x.toInt 1 mem v57.toInt m55 → (v57).toInt = 0 → aTm aT0 m55 → P (some (.int 0)) m55) (s11 : (gi mem 27 4).toInt = 2 → (gi mem 27 5).toInt = 22 → ∀ (v57 : Int32) (m55 : zM), aTm aT0 m55 → opH T n (tkf T n p).2 x.toInt 1 mem v57.toInt m55 → ¬ (v57).toInt = 0 → (gi m55 R 3).toInt ≤ (tkf T n p).2) (h16 : (gi mem 27 4).toInt = 2 → (gi mem 27 5).toInt = 22 → ∀ (v57 : Int32) (m55 : zM), aTm aT0 m55 → opH T n (tkf T n p).2 x.toInt 1 mem v57.toInt m55 → ¬ (v57).toInt = 0 → ∀ (v61 : Int32) (q62 : Int) (m59 : zM), aTm aT0 m59 → tH R A T n (tkf T n p).2 (pFact T n ru (cC R A m55) (f.1, f.2.1, f.2.2.1, 22 :: f.2.2.2) r (tkf T n p).2) (Mch T n ru (cC R A m55) ((f.1, f.2.1, f.2.2.1, 22 :: f.2.2.2) :: r) 0 (tkf T n p).2 = none) m55 v61.toInt q62 m59 → (v61).toInt = 0 → aTm aT0 m59 → P (some (.int 0)) m59) (h17 : (gi mem 27 4).toInt = 2 → (gi mem 27 5).toInt = 22 → ∀ (v57 : Int32) (m55 : zM), aTm aT0 m55 → opH T n (tkf T n p).2 x.toInt 1 mem v57.toInt m55 → ¬ (v57).toInt = 0 → ∀ (v61 : Int32) (q62 : Int) (m59 : zM), aTm aT0 m59 → tH R A T n (tkf T n p).2 (pFact T n ru (cC R A m55) (f.1, f.2.1, f.2.2.1, 22 :: f.2.2.2) r (tkf T n p).2) (Mch T n ru (cC R A m55) ((f.1, f.2.1, f.2.2.1, 22 :: f.2.2.2) :: r) 0 (tkf T n p).2 = none) m55 v61.toInt q62 m59 → ¬ (v61).toInt = 0 → ∀ (v66 : Int32) (m64 : zM), aTm aT0 m64 → (puQ R A (10022 : Int) m59 m64 ∧ v66.toInt = 1) → (v66).toInt = 0 → aTm aT0 m64 → P (some (.int 0)) m64) (h18 : (gi mem 27 4).toInt = 2 → (gi mem 27 5).toInt = 22 → ∀ (v57 : Int32) (m55 : zM), aTm aT0 m55 → opH T n (tkf T n p).2 x.toInt 1 mem v57.toInt m55 → ¬ (v57).toInt = 0 → ∀ (v61 : Int32) (q62 : Int) (m59 : zM), aTm aT0 m59 → tH R A T n (tkf T n p).2 (pFact T n ru (cC R A m55) (f.1, f.2.1, f.2.2.1, 22 :: f.2.2.2) r (tkf T n p).2) (Mch T n ru (cC R A m55) ((f.1, f.2.1, f.2.2.1, 22 :: f.2.2.2) :: r) 0 (tkf T n p).2 = none) m55 v61.toInt q62 m59 → ¬ (v61).toInt = 0 → ∀ (v66 : Int32) (m64 : zM), aTm aT0 m64 → (puQ R A (10022 : Int) m59 m64 ∧ v66.toInt = 1) → ¬ (v66).toInt = 0 → aTm aT0 m64 → P (some (.int 1)) m64) : yR zpg tX10_takesFact (d + 1) (0, [(0, .ref 30), (1, .int x)], [], mem) P := by
  refine yR_m 1 (fun _ _ _ _ => rfl) ?_
  refine wR_gr rfl sO_e sO_0 hm ?_
  refine yR_m 1 (fun _ _ _ _ => rfl) ?_
  refine wR_iv rfl rfl rO_e hm rfl rfl rfl rfl ?_
  show yR zpg tX5_isOwn d (0, [(0, .ref 27), (1, .int 22)], [], mem) _
  refine yR_m 1 (fun _ _ _ _ => rfl) ?_
  refine wR_gi rfl rO_e rO_4 hm rfl ?_
  refine yR_m 1 (fun _ _ _ _ => rfl) ?_
  refine wR_ic_ne rfl (a := (gi mem 27 4).toInt) (c := 2) rfl rfl (fun q1 => ?_) (fun q1 => ?_)
  ·
    refine yR_m 1 (fun _ _ _ _ => rfl) ?_
    refine yR_rz rfl ⟨by decide, by decide⟩ ?_
    show yR zpg tX10_takesFact (d + 1) (9, [(0, .ref 30), (1, .int x)], [.int 0], mem) _
    refine wR_if_eq rfl (a := 0) rfl (fun _ => ?_) (fun q => by exfalso; omega)
    refine yR_m 1 (fun _ _ _ _ => rfl) ?_
    refine wR_gr rfl sO_e sO_0 hm ?_
    refine yR_m 1 (fun _ _ _ _ => rfl) ?_
    refine wR_iv rfl rfl rO_e hm rfl rfl rfl rfl ?_
    show yR zpg tX5_isSign d (0, [(0, .ref 27), (1, .int 91)], [], mem) _
    refine yR_m 1 (fun _ _ _ _ => rfl) ?_
    refine wR_gi rfl rO_e rO_4 hm rfl ?_
    refine yR_m 1 (fun _ _ _ _ => rfl) ?_
    refine wR_ic_ne rfl (a := (gi mem 27 4).toInt) (c := 4) rfl rfl (fun q2 => ?_) (fun q2 => ?_)
    ·
      refine yR_m 1 (fun _ _ _ _ => rfl) ?_
      refine yR_rz rfl ⟨by decide, by decide⟩ ?_
      show yR zpg tX10_takesFact (d + 1) (59, [(0, .ref 30), (1, .int x)], [.int 0], mem) _
      refine wR_if_eq rfl (a := 0) rfl (fun _ => ?_) (fun q => by exfalso; omega)
      refine yR_m 1 (fun _ _ _ _ => rfl) ?_
      refine wR_gr rfl sO_e sO_0 hm ?_
      refine yR_m 1 (fun _ _ _ _ => rfl) ?_
      refine wR_iv rfl rfl rO_e hm rfl rfl rfl rfl ?_
      show yR zpg tX5_isOwn d (0, [(0, .ref 27), (1, .int 23)], [], mem) _
      refine yR_m 1 (fun _ _ _ _ => rfl) ?_
      refine wR_gi rfl rO_e rO_4 hm rfl ?_
      refine yR_m 1 (fun _ _ _ _ => rfl) ?_
      refine wR_ic_ne rfl (a := (gi mem 27 4).toInt) (c := 2) rfl rfl (fun _ => ?_) (fun q => by exfalso; omega)
      refine yR_m 1 (fun _ _ _ _ => rfl) ?_
      refine yR_rz rfl ⟨by decide, by decide⟩ ?_
      show yR zpg tX10_takesFact (d + 1) (108, [(0, .ref 30), (1, .int x)], [.int 0], mem) _
      refine wR_if_eq rfl (a := 0) rfl (fun _ => ?_) (fun q => by exfalso; omega)
      refine yR_m 2 (fun _ _ _ _ => rfl) ?_
      refine wR_cv rfl rfl sO_e hm rfl (hS _ _ _ p f r (by omega) hx hm hB hO ⟨by have q9 := hb.2.1; omega, (s1 q1 q2), hdk_m hb.2.2.2 (by decide)⟩) ?_
      rintro _ m3 ⟨v5, q6, rfl, hm3, k4⟩
      show yR zpg tX10_takesFact (d + 1) (134, [(0, .ref 30), (1, .int x)], [.int v5], m3) _
      refine wR_if_eq rfl (a := (v5).toInt) rfl (fun q7 => ?_) (fun q7 => ?_)
      ·
        refine yR_m 1 (fun _ _ _ _ => rfl) ?_
        exact yR_rz rfl ⟨by decide, by decide⟩ (h1 q1 q2 v5 q6 m3 hm3 k4 q7 hm3)
      ·
        refine yR_m 2 (fun _ _ _ _ => rfl) ?_
        refine wR_cv rfl rfl sO_e hm3 rfl (hC _ _ _ q6 (f.1, f.2.1, 0, f.2.2.2) r (by omega) hx hm3 (tB_c2 hB (c2_tr c2_rf k4.1) ((tH_1 k4 (by omega)).2.2.1) (s2 q1 q2 v5 q6 m3 hm3 k4 q7)) ((opn_c (f := (f.1, f.2.1, 0, f.2.2.2)) (g := f) rfl).trans hO) ⟨hb.1, hb.2.1, rfl, (tH_1 k4 (by omega)).1.2, hb.2.2.2⟩) ?_
        rintro _ m8 ⟨v10, q11, rfl, hm8, k9⟩
        show yR zpg tX10_takesFact (d + 1) (142, [(0, .ref 30), (1, .int x)], [.int v10], m8) _
        refine wR_if_eq rfl (a := (v10).toInt) rfl (fun q12 => ?_) (fun q12 => ?_)
        ·
          refine yR_m 1 (fun _ _ _ _ => rfl) ?_
          exact yR_rz rfl ⟨by decide, by decide⟩ (h2 q1 q2 v5 q6 m3 hm3 k4 q7 v10 q11 m8 hm8 k9 q12 hm8)
        ·
          refine yR_m 2 (fun _ _ _ _ => rfl) ?_
          exact yR_rz rfl ⟨by decide, by decide⟩ (h3 q1 q2 v5 q6 m3 hm3 k4 q7 v10 q11 m8 hm8 k9 q12 hm8)
    ·
      refine yR_m 1 (fun _ _ _ _ => rfl) ?_
      refine wR_gi rfl rO_e rO_5 hm rfl ?_
      refine yR_m 1 (fun _ _ _ _ => rfl) ?_
      refine wR_ic_ne rfl (a := (gi mem 27 5).toInt) (c := 91) rfl rfl (fun q13 => ?_) (fun q13 => ?_)
      ·
        refine yR_m 1 (fun _ _ _ _ => rfl) ?_
        refine yR_rz rfl ⟨by decide, by decide⟩ ?_
        show yR zpg tX10_takesFact (d + 1) (59, [(0, .ref 30), (1, .int x)], [.int 0], mem) _
        refine wR_if_eq rfl (a := 0) rfl (fun _ => ?_) (fun q => by exfalso; omega)
        refine yR_m 1 (fun _ _ _ _ => rfl) ?_
        refine wR_gr rfl sO_e sO_0 hm ?_
        refine yR_m 1 (fun _ _ _ _ => rfl) ?_
        refine wR_iv rfl rfl rO_e hm rfl rfl rfl rfl ?_
        show yR zpg tX5_isOwn d (0, [(0, .ref 27), (1, .int 23)], [], mem) _
        refine yR_m 1 (fun _ _ _ _ => rfl) ?_
        refine wR_gi rfl rO_e rO_4 hm rfl ?_
        refine yR_m 1 (fun _ _ _ _ => rfl) ?_
        refine wR_ic_ne rfl (a := (gi mem 27 4).toInt) (c := 2) rfl rfl (fun _ => ?_) (fun q => by exfalso; omega)
        refine yR_m 1 (fun _ _ _ _ => rfl) ?_
        refine yR_rz rfl ⟨by decide, by decide⟩ ?_
        show yR zpg tX10_takesFact (d + 1) (108, [(0, .ref 30), (1, .int x)], [.int 0], mem) _
        refine wR_if_eq rfl (a := 0) rfl (fun _ => ?_) (fun q => by exfalso; omega)
        refine yR_m 2 (fun _ _ _ _ => rfl) ?_
        refine wR_cv rfl rfl sO_e hm rfl (hS _ _ _ p f r (by omega) hx hm hB hO ⟨by have q9 := hb.2.1; omega, (s3 q1 q2 q13), hdk_m hb.2.2.2 (by decide)⟩) ?_
        rintro _ m14 ⟨v16, q17, rfl, hm14, k15⟩
        show yR zpg tX10_takesFact (d + 1) (134, [(0, .ref 30), (1, .int x)], [.int v16], m14) _
        refine wR_if_eq rfl (a := (v16).toInt) rfl (fun q18 => ?_) (fun q18 => ?_)
        ·
          refine yR_m 1 (fun _ _ _ _ => rfl) ?_
          exact yR_rz rfl ⟨by decide, by decide⟩ (h4 q1 q2 q13 v16 q17 m14 hm14 k15 q18 hm14)
        ·
          refine yR_m 2 (fun _ _ _ _ => rfl) ?_
          refine wR_cv rfl rfl sO_e hm14 rfl (hC _ _ _ q17 (f.1, f.2.1, 0, f.2.2.2) r (by omega) hx hm14 (tB_c2 hB (c2_tr c2_rf k15.1) ((tH_1 k15 (by omega)).2.2.1) (s4 q1 q2 q13 v16 q17 m14 hm14 k15 q18)) ((opn_c (f := (f.1, f.2.1, 0, f.2.2.2)) (g := f) rfl).trans hO) ⟨hb.1, hb.2.1, rfl, (tH_1 k15 (by omega)).1.2, hb.2.2.2⟩) ?_
          rintro _ m19 ⟨v21, q22, rfl, hm19, k20⟩
          show yR zpg tX10_takesFact (d + 1) (142, [(0, .ref 30), (1, .int x)], [.int v21], m19) _
          refine wR_if_eq rfl (a := (v21).toInt) rfl (fun q23 => ?_) (fun q23 => ?_)
          ·
            refine yR_m 1 (fun _ _ _ _ => rfl) ?_
            exact yR_rz rfl ⟨by decide, by decide⟩ (h5 q1 q2 q13 v16 q17 m14 hm14 k15 q18 v21 q22 m19 hm19 k20 q23 hm19)
          ·
            refine yR_m 2 (fun _ _ _ _ => rfl) ?_
            exact yR_rz rfl ⟨by decide, by decide⟩ (h6 q1 q2 q13 v16 q17 m14 hm14 k15 q18 v21 q22 m19 hm19 k20 q23 hm19)
      ·
        refine yR_m 2 (fun _ _ _ _ => rfl) ?_
        refine yR_rz rfl ⟨by decide, by decide⟩ ?_
        show yR zpg tX10_takesFact (d + 1) (59, [(0, .ref 30), (1, .int x)], [.int 1], mem) _
        refine wR_if_eq rfl (a := 1) rfl (fun q => by exfalso; omega) (fun _ => ?_)
        refine yR_m 3 (fun _ _ _ _ => rfl) ?_
        refine wR_cv rfl rfl sO_e hm rfl (h_opC (T := T) (n := n) (p := p) hm (cRd_t hR) (s5 q1 q2 q13) (by omega)) ?_
        rintro _ m24 ⟨v26, rfl, hm24, k25⟩
        show yR zpg tX10_takesFact (d + 1) (68, [(0, .ref 30), (1, .int x)], [.int v26], m24) _
        refine wR_if_eq rfl (a := (v26).toInt) rfl (fun q27 => ?_) (fun q27 => ?_)
        ·
          refine yR_m 1 (fun _ _ _ _ => rfl) ?_
          exact yR_rz rfl ⟨by decide, by decide⟩ (h7 q1 q2 q13 v26 m24 hm24 k25 q27 hm24)
        ·
          refine yR_m 4 (fun _ _ _ _ => rfl) ?_
          refine wR_cv rfl rfl sO_e hm24 rfl (hT (by have := (op_1 k25 (by omega)).1.2; omega) _ _ _ (tkf T n p).2 (5, 0, 1, []) (bgA (f :: r)) (by omega) (x1 (by have := (op_1 k25 (by omega)).1.2; omega)) hm24 (tB_c2 hB (c2_tr c2_rf (c2_fo hA k25.1 rfl)) ((op_1 k25 (by omega)).2) (s6 q1 q2 q13 v26 m24 hm24 k25 q27)) ((opn_p rfl).trans (by rw [hO])) ⟨Or.inr (Or.inl rfl), rfl, rfl, hdk_0⟩) ?_
          rintro _ m28 ⟨v30, q31, rfl, hm28, k29⟩
          show yR zpg tX10_takesFact (d + 1) (78, [(0, .ref 30), (1, .int x)], [.int v30], m28) _
          refine wR_if_eq rfl (a := (v30).toInt) rfl (fun q32 => ?_) (fun q32 => ?_)
          ·
            refine yR_m 1 (fun _ _ _ _ => rfl) ?_
            exact yR_rz rfl ⟨by decide, by decide⟩ (h8 q1 q2 q13 v26 m24 hm24 k25 q27 v30 q31 m28 hm28 k29 q32 hm28)
          ·
            refine yR_m 1 (fun _ _ _ _ => rfl) ?_
            refine wR_gr rfl sO_e sO_0 hm28 ?_
            refine yR_m 1 (fun _ _ _ _ => rfl) ?_
            refine wR_cv rfl rfl rO_e hm28 rfl (h_sgC (R := R) (A := A) (T := T) (n := n) (p := q31) hA hm28 ((tH_1 k29 (by omega)).2.2.1) (by omega)) ?_
            rintro _ m33 ⟨v35, q36, rfl, hm33, k34⟩
            show yR zpg tX10_takesFact (d + 1) (90, [(0, .ref 30), (1, .int x)], [.int v35], m33) _
            refine wR_if_eq rfl (a := (v35).toInt) rfl (fun q37 => ?_) (fun q37 => ?_)
            ·
              refine yR_m 1 (fun _ _ _ _ => rfl) ?_
              exact yR_rz rfl ⟨by decide, by decide⟩ (h9 q1 q2 q13 v26 m24 hm24 k25 q27 v30 q31 m28 hm28 k29 q32 v35 q36 m33 hm33 k34 q37 hm33)
            ·
              refine yR_m 2 (fun _ _ _ _ => rfl) ?_
              exact yR_rz rfl ⟨by decide, by decide⟩ (h10 q1 q2 q13 v26 m24 hm24 k25 q27 v30 q31 m28 hm28 k29 q32 v35 q36 m33 hm33 k34 q37 hm33)
  ·
    refine yR_m 1 (fun _ _ _ _ => rfl) ?_
    refine wR_gi rfl rO_e rO_5 hm rfl ?_
    refine yR_m 1 (fun _ _ _ _ => rfl) ?_
    refine wR_ic_ne rfl (a := (gi mem 27 5).toInt) (c := 22) rfl rfl (fun q38 => ?_) (fun q38 => ?_)
    ·
      refine yR_m 1 (fun _ _ _ _ => rfl) ?_
      refine yR_rz rfl ⟨by decide, by decide⟩ ?_
      show yR zpg tX10_takesFact (d + 1) (9, [(0, .ref 30), (1, .int x)], [.int 0], mem) _
      refine wR_if_eq rfl (a := 0) rfl (fun _ => ?_) (fun q => by exfalso; omega)
      refine yR_m 1 (fun _ _ _ _ => rfl) ?_
      refine wR_gr rfl sO_e sO_0 hm ?_
      refine yR_m 1 (fun _ _ _ _ => rfl) ?_
      refine wR_iv rfl rfl rO_e hm rfl rfl rfl rfl ?_
      show yR zpg tX5_isSign d (0, [(0, .ref 27), (1, .int 91)], [], mem) _
      refine yR_m 1 (fun _ _ _ _ => rfl) ?_
      refine wR_gi rfl rO_e rO_4 hm rfl ?_
      refine yR_m 1 (fun _ _ _ _ => rfl) ?_
      refine wR_ic_ne rfl (a := (gi mem 27 4).toInt) (c := 4) rfl rfl (fun _ => ?_) (fun q => by exfalso; omega)
      refine yR_m 1 (fun _ _ _ _ => rfl) ?_
      refine yR_rz rfl ⟨by decide, by decide⟩ ?_
      show yR zpg tX10_takesFact (d + 1) (59, [(0, .ref 30), (1, .int x)], [.int 0], mem) _
      refine wR_if_eq rfl (a := 0) rfl (fun _ => ?_) (fun q => by exfalso; omega)
      refine yR_m 1 (fun _ _ _ _ => rfl) ?_
      refine wR_gr rfl sO_e sO_0 hm ?_
      refine yR_m 1 (fun _ _ _ _ => rfl) ?_
      refine wR_iv rfl rfl rO_e hm rfl rfl rfl rfl ?_
      show yR zpg tX5_isOwn d (0, [(0, .ref 27), (1, .int 23)], [], mem) _
      refine yR_m 1 (fun _ _ _ _ => rfl) ?_
      refine wR_gi rfl rO_e rO_4 hm rfl ?_
      refine yR_m 1 (fun _ _ _ _ => rfl) ?_
      refine wR_ic_ne rfl (a := (gi mem 27 4).toInt) (c := 2) rfl rfl (fun q => by exfalso; omega) (fun _ => ?_)
      refine yR_m 1 (fun _ _ _ _ => rfl) ?_
      refine wR_gi rfl rO_e rO_5 hm rfl ?_
      refine yR_m 1 (fun _ _ _ _ => rfl) ?_
      refine wR_ic_ne rfl (a := (gi mem 27 5).toInt) (c := 23) rfl rfl (fun q39 => ?_) (fun q39 => ?_)
      ·
        refine yR_m 1 (fun _ _ _ _ => rfl) ?_
        refine yR_rz rfl ⟨by decide, by decide⟩ ?_
        show yR zpg tX10_takesFact (d + 1) (108, [(0, .ref 30), (1, .int x)], [.int 0], mem) _
        refine wR_if_eq rfl (a := 0) rfl (fun _ => ?_) (fun q => by exfalso; omega)
        refine yR_m 2 (fun _ _ _ _ => rfl) ?_
        refine wR_cv rfl rfl sO_e hm rfl (hS _ _ _ p f r (by omega) hx hm hB hO ⟨by have q9 := hb.2.1; omega, (s7 q1 q38 q39), hdk_m hb.2.2.2 (by decide)⟩) ?_
        rintro _ m40 ⟨v42, q43, rfl, hm40, k41⟩
        show yR zpg tX10_takesFact (d + 1) (134, [(0, .ref 30), (1, .int x)], [.int v42], m40) _
        refine wR_if_eq rfl (a := (v42).toInt) rfl (fun q44 => ?_) (fun q44 => ?_)
        ·
          refine yR_m 1 (fun _ _ _ _ => rfl) ?_
          exact yR_rz rfl ⟨by decide, by decide⟩ (h11 q1 q38 q39 v42 q43 m40 hm40 k41 q44 hm40)
        ·
          refine yR_m 2 (fun _ _ _ _ => rfl) ?_
          refine wR_cv rfl rfl sO_e hm40 rfl (hC _ _ _ q43 (f.1, f.2.1, 0, f.2.2.2) r (by omega) hx hm40 (tB_c2 hB (c2_tr c2_rf k41.1) ((tH_1 k41 (by omega)).2.2.1) (s8 q1 q38 q39 v42 q43 m40 hm40 k41 q44)) ((opn_c (f := (f.1, f.2.1, 0, f.2.2.2)) (g := f) rfl).trans hO) ⟨hb.1, hb.2.1, rfl, (tH_1 k41 (by omega)).1.2, hb.2.2.2⟩) ?_
          rintro _ m45 ⟨v47, q48, rfl, hm45, k46⟩
          show yR zpg tX10_takesFact (d + 1) (142, [(0, .ref 30), (1, .int x)], [.int v47], m45) _
          refine wR_if_eq rfl (a := (v47).toInt) rfl (fun q49 => ?_) (fun q49 => ?_)
          ·
            refine yR_m 1 (fun _ _ _ _ => rfl) ?_
            exact yR_rz rfl ⟨by decide, by decide⟩ (h12 q1 q38 q39 v42 q43 m40 hm40 k41 q44 v47 q48 m45 hm45 k46 q49 hm45)
          ·
            refine yR_m 2 (fun _ _ _ _ => rfl) ?_
            exact yR_rz rfl ⟨by decide, by decide⟩ (h13 q1 q38 q39 v42 q43 m40 hm40 k41 q44 v47 q48 m45 hm45 k46 q49 hm45)
      ·
        refine yR_m 2 (fun _ _ _ _ => rfl) ?_
        refine yR_rz rfl ⟨by decide, by decide⟩ ?_
        show yR zpg tX10_takesFact (d + 1) (108, [(0, .ref 30), (1, .int x)], [.int 1], mem) _
        refine wR_if_eq rfl (a := 1) rfl (fun q => by exfalso; omega) (fun _ => ?_)
        refine yR_m 1 (fun _ _ _ _ => rfl) ?_
        refine wR_gr rfl sO_e sO_0 hm ?_
        refine wR_cv rfl rfl rO_e hm rfl (h_avC (T := T) (n := n) (p := p) hm (cRd_t hR) (s9 q1 q38 q39) (by omega)) ?_
        rintro _ m50 ⟨rfl, hI50, k51⟩
        show yR zpg tX10_takesFact (d + 1) (118, [(0, .ref 30), (1, .int x)], [], m50) _
        refine yR_m 1 (fun _ _ _ _ => rfl) ?_
        refine wR_gq rfl sO_e hI50 ((c2_30 hA (c2_tr c2_rf (c2_fo hA k51.1 rfl))).trans hr) ?_
        refine yR_m 1 (fun _ _ _ _ => rfl) ?_
        refine wR_cv rfl rfl hRo_e hI50 rfl (h_putC hA hI50 (by omega)) ?_
        rintro _ m52 ⟨v54, rfl, hm52, k53⟩
        show yR zpg tX10_takesFact (d + 1) (128, [(0, .ref 30), (1, .int x)], [.int v54], m52) _
        exact yR_rz rfl (by omega) (h14 q1 q38 q39 m50 hI50 k51 v54 m52 hm52 k53 hm52)
    ·
      refine yR_m 2 (fun _ _ _ _ => rfl) ?_
      refine yR_rz rfl ⟨by decide, by decide⟩ ?_
      show yR zpg tX10_takesFact (d + 1) (9, [(0, .ref 30), (1, .int x)], [.int 1], mem) _
      refine wR_if_eq rfl (a := 1) rfl (fun q => by exfalso; omega) (fun _ => ?_)
      refine yR_m 3 (fun _ _ _ _ => rfl) ?_
      refine wR_cv rfl rfl sO_e hm rfl (h_opC (T := T) (n := n) (p := p) hm (cRd_t hR) (s10 q1 q38) (by omega)) ?_
      rintro _ m55 ⟨v57, rfl, hm55, k56⟩
      show yR zpg tX10_takesFact (d + 1) (18, [(0, .ref 30), (1, .int x)], [.int v57], m55) _
      refine wR_if_eq rfl (a := (v57).toInt) rfl (fun q58 => ?_) (fun q58 => ?_)
      ·
        refine yR_m 1 (fun _ _ _ _ => rfl) ?_
        exact yR_rz rfl ⟨by decide, by decide⟩ (h15 q1 q38 v57 m55 hm55 k56 q58 hm55)
      ·
        refine yR_m 4 (fun _ _ _ _ => rfl) ?_
        refine wR_cv rfl rfl sO_e hm55 rfl (hF (by have := (op_1 k56 (by omega)).1.2; omega) _ _ _ (tkf T n p).2 (f.1, f.2.1, f.2.2.1, 22 :: f.2.2.2) r (by omega) (x1 (by have := (op_1 k56 (by omega)).1.2; omega)) hm55 (tB_c2 hB (c2_tr c2_rf (c2_fo hA k56.1 rfl)) ((op_1 k56 (by omega)).2) (s11 q1 q38 v57 m55 hm55 k56 q58)) (opn_n.trans (by rw [show opn ((f.1, f.2.1, f.2.2.1, f.2.2.2) :: r) = o from hO])) ⟨hb.1, hb.2.1, hb.2.2.1, hdk_1 (by decide)⟩) ?_
        rintro _ m59 ⟨v61, q62, rfl, hm59, k60⟩
        show yR zpg tX10_takesFact (d + 1) (28, [(0, .ref 30), (1, .int x)], [.int v61], m59) _
        refine wR_if_eq rfl (a := (v61).toInt) rfl (fun q63 => ?_) (fun q63 => ?_)
        ·
          refine yR_m 1 (fun _ _ _ _ => rfl) ?_
          exact yR_rz rfl ⟨by decide, by decide⟩ (h16 q1 q38 v57 m55 hm55 k56 q58 v61 q62 m59 hm59 k60 q63 hm59)
        ·
          refine yR_m 1 (fun _ _ _ _ => rfl) ?_
          refine wR_gq rfl sO_e hm59 ((c2_30 hA (c2_tr (c2_tr c2_rf (c2_fo hA k56.1 rfl)) k60.1)).trans hr) ?_
          refine yR_m 1 (fun _ _ _ _ => rfl) ?_
          refine wR_cv rfl rfl hRo_e hm59 rfl (h_putC hA hm59 (by omega)) ?_
          rintro _ m64 ⟨v66, rfl, hm64, k65⟩
          show yR zpg tX10_takesFact (d + 1) (41, [(0, .ref 30), (1, .int x)], [.int v66], m64) _
          refine wR_if_eq rfl (a := (v66).toInt) rfl (fun q67 => ?_) (fun q67 => ?_)
          ·
            refine yR_m 1 (fun _ _ _ _ => rfl) ?_
            exact yR_rz rfl ⟨by decide, by decide⟩ (h17 q1 q38 v57 m55 hm55 k56 q58 v61 q62 m59 hm59 k60 q63 v66 m64 hm64 k65 q67 hm64)
          ·
            refine yR_m 2 (fun _ _ _ _ => rfl) ?_
            exact yR_rz rfl ⟨by decide, by decide⟩ (h18 q1 q38 v57 m55 hm55 k56 q58 v61 q62 m59 hm59 k60 q63 v66 m64 hm64 k65 q67 hm64)

theorem c_fact {o : Int} {D : Nat} (hA : hRA R A) (hD : 4 ≤ D) (h7 : o ≤ 7) (hS : tC R A T n ru 104 o D (bS5 T n) (pSum T n ru)) (hC : tCc R A T n ru o D) (hF : o < 7 → tC R A T n ru 102 (o + 1) D (bF) (pFact T n ru)) (hT : o < 7 → tC R A T n ru 100 (o + 1) D (bT) (pTest T n ru)) : tC R A T n ru 102 o (D + 1) (bF) (pFact T n ru) := by
  intro d mem x p f r hd hx hm hB hO hb
  obtain ⟨d, rfl⟩ : ∃ q, d = q + 2 := ⟨d - 2, by omega⟩
  have hR := hB.2.2.2.1
  have hp := cRd_p hR
  have hr := hB.2.1
  have hs3 := hB.2.2.2.2.1
  have h16 := hB.2.2.2.2.2
  have x1 : x.toInt < 7 → (x + 1).toInt = o + 1 := fun w => by
    have b := (i32_b x).1
    have e := i32_addc (k := x) (c := 1) (z := 1) rfl (by omega) (by omega)
    omega
  obtain ⟨fs, hRo_e⟩ := rl_of hA
  refine yC_of (t := tX10_takesFact) rfl rfl ?_
  exact w_faC (R := R) (A := A) (T := T) (n := n) (ru := ru) (p := p) (o := o) (D := D) (f := f) (r := r) hm (by omega) hD hA hRo_e hr hR hS hC hF hT hx hB hO hb x1
        (fun q1 q2 => fun _ => ⟨fun w => by have q9 := (cX_O (by decide) (by decide) hR).2 w; omega, fun w => by have q9 := (cX_S hR).2 w; omega, fun w => by have q9 := (cX_O (by decide) (by decide) hR).2 w; omega⟩)
        (fun q1 q2 v5 q6 m3 hm3 k4 q7 hm2 => by
          exact ⟨_, p, rfl, hm2, (c2_tr c2_rf k4.1), Or.inr ⟨rfl, tH_0 k4 (by omega)⟩⟩)
        (fun q1 q2 v5 q6 m3 hm3 k4 q7 => by
          have z0 := (tH_1 k4 (by omega)).2
          have y0 := (cRd_p (tH_1 k4 (by omega)).2.2.1).2
          omega)
        (fun q1 q2 v5 q6 m3 hm3 k4 q7 v10 q11 m8 hm8 k9 q12 hm2 => by
          have z0 := (tH_1 k4 (by omega)).2
          have y0 := (cRd_p (tH_1 k4 (by omega)).2.2.1).2
          exact ⟨_, p, rfl, hm2, (c2_tr (c2_tr c2_rf k4.1) k9.1), Or.inr ⟨rfl, (tH_1 k4 (by omega)).1.1.trans (tH_0 k9 (by omega))⟩⟩)
        (fun q1 q2 v5 q6 m3 hm3 k4 q7 v10 q11 m8 hm8 k9 q12 hm2 => by
          have z0 := (tH_1 k4 (by omega)).2
          have y0 := (cRd_p (tH_1 k4 (by omega)).2.2.1).2
          have z1 := (tH_1 k9 (by omega)).2
          have y1 := (cRd_p (tH_1 k9 (by omega)).2.2.1).2
          exact ⟨_, _, rfl, hm2, (c2_tr (c2_tr c2_rf k4.1) k9.1), Or.inl ⟨by first | rfl | omega, fc_c (tH_1 k4 (by omega)).1.1 (tH_1 k9 (by omega)).1, by omega, (tH_1 k9 (by omega)).2.2.1, by omega, by omega⟩⟩)
        (fun q1 q2 q13 => fun _ => ⟨fun w => by have q9 := (cX_O (by decide) (by decide) hR).2 w; omega, fun w => by have q9 := (cX_S hR).2 w; omega, fun w => by have q9 := (cX_O (by decide) (by decide) hR).2 w; omega⟩)
        (fun q1 q2 q13 v16 q17 m14 hm14 k15 q18 hm2 => by
          exact ⟨_, p, rfl, hm2, (c2_tr c2_rf k15.1), Or.inr ⟨rfl, tH_0 k15 (by omega)⟩⟩)
        (fun q1 q2 q13 v16 q17 m14 hm14 k15 q18 => by
          have z0 := (tH_1 k15 (by omega)).2
          have y0 := (cRd_p (tH_1 k15 (by omega)).2.2.1).2
          omega)
        (fun q1 q2 q13 v16 q17 m14 hm14 k15 q18 v21 q22 m19 hm19 k20 q23 hm2 => by
          have z0 := (tH_1 k15 (by omega)).2
          have y0 := (cRd_p (tH_1 k15 (by omega)).2.2.1).2
          exact ⟨_, p, rfl, hm2, (c2_tr (c2_tr c2_rf k15.1) k20.1), Or.inr ⟨rfl, (tH_1 k15 (by omega)).1.1.trans (tH_0 k20 (by omega))⟩⟩)
        (fun q1 q2 q13 v16 q17 m14 hm14 k15 q18 v21 q22 m19 hm19 k20 q23 hm2 => by
          have z0 := (tH_1 k15 (by omega)).2
          have y0 := (cRd_p (tH_1 k15 (by omega)).2.2.1).2
          have z1 := (tH_1 k20 (by omega)).2
          have y1 := (cRd_p (tH_1 k20 (by omega)).2.2.1).2
          exact ⟨_, _, rfl, hm2, (c2_tr (c2_tr c2_rf k15.1) k20.1), Or.inl ⟨by first | rfl | omega, fc_c (tH_1 k15 (by omega)).1.1 (tH_1 k20 (by omega)).1, by omega, (tH_1 k20 (by omega)).2.2.1, by omega, by omega⟩⟩)
        (fun q1 q2 q13 => fun _ => cX_4 hR (by omega))
        (fun q1 q2 q13 v26 m24 hm24 k25 q27 hm2 => by
          have z0 := congrArg Int32.toInt (c2_R3 hA k25.1)
          have y0 := tk_le (hR)
          exact ⟨_, p, rfl, hm2, (c2_tr c2_rf (c2_fo hA k25.1 rfl)), Or.inr ⟨rfl, M_bkn hp hb ((cX_S hR).1 ⟨by omega, by omega⟩) (fun w => op_0 k25 (by omega) ⟨by decide, by omega⟩)⟩⟩)
        (fun q1 q2 q13 v26 m24 hm24 k25 q27 => by
          have z0 := congrArg Int32.toInt (c2_R3 hA k25.1)
          have y0 := tk_le (hR)
          have x0 := (op_1 k25 (by omega)).1.2
          omega)
        (fun q1 q2 q13 v26 m24 hm24 k25 q27 v30 q31 m28 hm28 k29 q32 hm2 => by
          have z0 := congrArg Int32.toInt (c2_R3 hA k25.1)
          have y0 := tk_le (hR)
          have x0 := (op_1 k25 (by omega)).1.2
          exact ⟨_, p, rfl, hm2, (c2_tr (c2_tr c2_rf (c2_fo hA k25.1 rfl)) k29.1), Or.inr ⟨rfl, ((M_bk hp hb ((cX_S hR).1 ⟨by omega, by omega⟩) (by have := (op_1 k25 (by omega)).1.2; omega)).trans (Mw (cC_fo hA k25.1).symm)).trans (tH_0 k29 (by omega))⟩⟩)
        (fun q1 q2 q13 v26 m24 hm24 k25 q27 v30 q31 m28 hm28 k29 q32 v35 q36 m33 hm33 k34 q37 hm2 => by
          have z0 := congrArg Int32.toInt (c2_R3 hA k25.1)
          have y0 := tk_le (hR)
          have x0 := (op_1 k25 (by omega)).1.2
          have z1 := (tH_1 k29 (by omega)).2
          have y1 := (cRd_p (tH_1 k29 (by omega)).2.2.1).2
          have z2 := congrArg Int32.toInt (c2_R3 hA k34.1)
          exact ⟨_, p, rfl, hm2, (c2_tr (c2_tr (c2_tr c2_rf (c2_fo hA k25.1 rfl)) k29.1) (c2_fo hA k34.1 rfl)), Or.inr ⟨rfl, ((M_bk hp hb ((cX_S hR).1 ⟨by omega, by omega⟩) (by have := (op_1 k25 (by omega)).1.2; omega)).trans (Mw (cC_fo hA k25.1).symm)).trans (bk_n (cRd_p (tH_1 k29 (by omega)).2.2.1) (tH_1 k29 (by omega)).1 (sg_0 k34 (by omega)))⟩⟩)
        (fun q1 q2 q13 v26 m24 hm24 k25 q27 v30 q31 m28 hm28 k29 q32 v35 q36 m33 hm33 k34 q37 hm2 => by
          have ep := cX_e hR (by omega) (by omega)
          have z0 := congrArg Int32.toInt (c2_R3 hA k25.1)
          have y0 := tk_le (hR)
          have x0 := (op_1 k25 (by omega)).1.2
          have z1 := (tH_1 k29 (by omega)).2
          have y1 := (cRd_p (tH_1 k29 (by omega)).2.2.1).2
          have z2 := congrArg Int32.toInt (c2_R3 hA k34.1)
          have y2 := pos_S (cRd_p ((tH_1 k29 (by omega)).2.2.1)).1 (cRd_p ((tH_1 k29 (by omega)).2.2.1)).2 (sg_1 k34 (by omega)).1
          exact ⟨_, _, rfl, hm2, (c2_tr (c2_tr (c2_tr c2_rf (c2_fo hA k25.1 rfl)) k29.1) (c2_fo hA k34.1 rfl)), Or.inl ⟨by first | rfl | omega, fc_2 ((((M_bk hp hb ((cX_S hR).1 ⟨by omega, by omega⟩) (by have := (op_1 k25 (by omega)).1.2; omega)).trans (Mw (cC_fo hA k25.1).symm)).trans (bk_c (cRd_p (tH_1 k29 (by omega)).2.2.1) (tH_1 k29 (by omega)).1 (sg_1 k34 (by omega)).1)).trans (Mw (cC_fo hA k34.1).symm)), by omega, (sg_1 k34 (by omega)).2, by omega, by omega⟩⟩)
        (fun q1 q38 q39 => fun _ => ⟨fun w => by have q9 := (cX_O (by decide) (by decide) hR).2 w; omega, fun w => by have q9 := (cX_S hR).2 w; omega, fun w => by have q9 := (cX_O (by decide) (by decide) hR).2 w; omega⟩)
        (fun q1 q38 q39 v42 q43 m40 hm40 k41 q44 hm2 => by
          exact ⟨_, p, rfl, hm2, (c2_tr c2_rf k41.1), Or.inr ⟨rfl, tH_0 k41 (by omega)⟩⟩)
        (fun q1 q38 q39 v42 q43 m40 hm40 k41 q44 => by
          have z0 := (tH_1 k41 (by omega)).2
          have y0 := (cRd_p (tH_1 k41 (by omega)).2.2.1).2
          omega)
        (fun q1 q38 q39 v42 q43 m40 hm40 k41 q44 v47 q48 m45 hm45 k46 q49 hm2 => by
          have z0 := (tH_1 k41 (by omega)).2
          have y0 := (cRd_p (tH_1 k41 (by omega)).2.2.1).2
          exact ⟨_, p, rfl, hm2, (c2_tr (c2_tr c2_rf k41.1) k46.1), Or.inr ⟨rfl, (tH_1 k41 (by omega)).1.1.trans (tH_0 k46 (by omega))⟩⟩)
        (fun q1 q38 q39 v42 q43 m40 hm40 k41 q44 v47 q48 m45 hm45 k46 q49 hm2 => by
          have z0 := (tH_1 k41 (by omega)).2
          have y0 := (cRd_p (tH_1 k41 (by omega)).2.2.1).2
          have z1 := (tH_1 k46 (by omega)).2
          have y1 := (cRd_p (tH_1 k46 (by omega)).2.2.1).2
          exact ⟨_, _, rfl, hm2, (c2_tr (c2_tr c2_rf k41.1) k46.1), Or.inl ⟨by first | rfl | omega, fc_c (tH_1 k41 (by omega)).1.1 (tH_1 k46 (by omega)).1, by omega, (tH_1 k46 (by omega)).2.2.1, by omega, by omega⟩⟩)
        (fun q1 q38 q39 => cX_4 hR (by omega))
        (fun q1 q38 q39 m50 hI50 k51 v54 m52 hm52 k53 hm2 => by
          have ep := cX_e hR (by omega) (by omega)
          have z0 := congrArg Int32.toInt (c2_R3 hA (fo_up k51.1 rfl rfl))
          have y0 := tk_le (hR)
          have z1 := k53.1.2.1
          exact ⟨_, _, rfl, hm2, (c2_tr (c2_tr c2_rf (c2_fo hA k51.1 rfl)) (c2_pF hA k53.1.1)), Or.inl ⟨by first | rfl | omega, fc_2 (M_al hp hb ((cX_O (by decide) (by decide) hR).1 ⟨by omega, by omega⟩) (vp_1 rfl (k53.1.2.2 (by omega)) (cC_fo hA k51.1) rfl)), by omega, ⟨_, _, cR_pF hA k53.1.1 (cRd_t k51.2)⟩, by omega, by omega⟩⟩)
        (fun q1 q38 => fun _ => cX_4 hR (by omega))
        (fun q1 q38 v57 m55 hm55 k56 q58 hm2 => by
          have z0 := congrArg Int32.toInt (c2_R3 hA k56.1)
          have y0 := tk_le (hR)
          exact ⟨_, p, rfl, hm2, (c2_tr c2_rf (c2_fo hA k56.1 rfl)), Or.inr ⟨rfl, M_ntn hp hb ((cX_O (by decide) (by decide) hR).1 ⟨by omega, by omega⟩) (fun w => op_0 k56 (by omega) ⟨by decide, by omega⟩)⟩⟩)
        (fun q1 q38 v57 m55 hm55 k56 q58 => by
          have z0 := congrArg Int32.toInt (c2_R3 hA k56.1)
          have y0 := tk_le (hR)
          have x0 := (op_1 k56 (by omega)).1.2
          omega)
        (fun q1 q38 v57 m55 hm55 k56 q58 v61 q62 m59 hm59 k60 q63 hm2 => by
          have z0 := congrArg Int32.toInt (c2_R3 hA k56.1)
          have y0 := tk_le (hR)
          have x0 := (op_1 k56 (by omega)).1.2
          exact ⟨_, p, rfl, hm2, (c2_tr (c2_tr c2_rf (c2_fo hA k56.1 rfl)) k60.1), Or.inr ⟨rfl, ((M_nt hp hb ((cX_O (by decide) (by decide) hR).1 ⟨by omega, by omega⟩) (by have := (op_1 k56 (by omega)).1.2; omega)).trans (Mw (cC_fo hA k56.1).symm)).trans (tH_0 k60 (by omega))⟩⟩)
        (fun q1 q38 v57 m55 hm55 k56 q58 v61 q62 m59 hm59 k60 q63 v66 m64 hm64 k65 q67 hm2 => by exfalso; omega)
        (fun q1 q38 v57 m55 hm55 k56 q58 v61 q62 m59 hm59 k60 q63 v66 m64 hm64 k65 q67 hm2 => by
          have ep := cX_e hR (by omega) (by omega)
          have z0 := congrArg Int32.toInt (c2_R3 hA k56.1)
          have y0 := tk_le (hR)
          have x0 := (op_1 k56 (by omega)).1.2
          have z1 := (tH_1 k60 (by omega)).2
          have y1 := (cRd_p (tH_1 k60 (by omega)).2.2.1).2
          have z2 := k65.1.2.1
          exact ⟨_, _, rfl, hm2, (c2_tr (c2_tr (c2_tr c2_rf (c2_fo hA k56.1 rfl)) k60.1) (c2_pF hA k65.1.1)), Or.inl ⟨by first | rfl | omega, fc_n (cRd_p (tH_1 k60 (by omega)).2.2.1) ((M_nt hp hb ((cX_O (by decide) (by decide) hR).1 ⟨by omega, by omega⟩) (by have := (op_1 k56 (by omega)).1.2; omega)).trans (Mw (cC_fo hA k56.1).symm)) (tH_1 k60 (by omega)).1 (vp_2 (k65.1.2.2 (by omega)) rfl), by omega, ⟨_, _, cR_pF hA k65.1.1 (cRd_t (tH_1 k60 (by omega)).2.2.1)⟩, by omega, by omega⟩⟩)
end CG
section CH
variable {R A : Nat} {T : List Int32} {n ru : Int}
theorem tC_mono {k : Nat} {o : Int} {D D' : Nat} {B : Fr → Int → Prop} {P : List Int → Fr → List Fr → Int → List Int → Int → Prop} (h : tC R A T n ru k o D B P) (hd : D ≤ D') : tC R A T n ru k o D' B P := fun d mem x p f r h1 => h d mem x p f r (by omega)
theorem tCc_mono {o : Int} {D D' : Nat} (h : tCc R A T n ru o D) (hd : D ≤ D') : tCc R A T n ru o D' := fun d mem x p f r h1 => h d mem x p f r (by omega)
/-- all takers at one count of open brackets -/
def tAll (R A : Nat) (T : List Int32) (n ru o : Int) (D : Nat) : Prop := tC R A T n ru 104 o D (bS5 T n) (pSum T n ru) ∧ tC R A T n ru 109 o D (bP) (pPair T n ru) ∧ tC R A T n ru 102 o D (bF) (pFact T n ru) ∧ tC R A T n ru 100 o D (bT) (pTest T n ru)
theorem tAll_mono {o : Int} {D D' : Nat} (h : tAll R A T n ru o D) (hd : D ≤ D') : tAll R A T n ru o D' := ⟨tC_mono h.1 hd, tC_mono h.2.1 hd, tC_mono h.2.2.1 hd, tC_mono h.2.2.2 hd⟩
theorem c_step {o : Int} {D : Nat} (hA : hRA R A) (hD : 4 ≤ D) (h7 : o ≤ 7) (h : o < 7 → tAll R A T n ru (o + 1) D) : tAll R A T n ru o (D + 7) := by
  have h1 := c_part (T := T) (n := n) (ru := ru) hA hD h7 (fun w => (h w).1) (fun w => (h w).2.1) (fun w => (h w).2.2.2)
  have h2 := c_pd hA (by omega) h1
  have h3 := c_su hA (by omega) h2
  have h4 := c_pair (by omega) h3
  have h5 := c_cmp hA (by omega) h3
  have h6 := c_fact hA (D := D + 4) (by omega) h7 (tC_mono h3 (by omega)) (tCc_mono h5 (by omega)) (fun w => tC_mono (h w).2.2.1 (by omega)) (fun w => tC_mono (h w).2.2.2 (by omega))
  have h7 := c_bo hA (by omega) h6
  have h8 := c_te hA (by omega) h7
  exact ⟨tC_mono h3 (by omega), tC_mono h4 (by omega), tC_mono h6 (by omega), tC_mono h8 (by omega)⟩
theorem c_all (hA : hRA R A) : ∀ (j : Nat) (o : Int), o = 7 - (j : Int) → tAll R A T n ru o (11 + 7 * j)
  | 0, o, e => c_step (D := 4) hA (by decide) (by omega) (fun w => by exfalso; omega)
  | j + 1, o, e => tAll_mono (c_step (D := 11 + 7 * j) hA (by omega) (by omega) (fun _ => c_all hA j (o + 1) (by omega))) (by omega)
end CH
