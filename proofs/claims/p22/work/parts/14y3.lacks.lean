/-! the class's statements: lack, folk -/
section CT
variable {d : Nat} {mr mem m : zM} {T : List Int32} {n p q v a b : Int} {Q : Qd}
theorem cQ_hz {q : Nat} (e : gL m q 6 = gL mem q 6) (h : cQw q (Qw Q) mem) : ∀ c, 0 ≤ c → c < 64 → (bL (gL m q 6) c ↔ (c ∈ Qw Q ∨ (False ∧ inw Q c))) := fun c c0 c1 => by
  rw [e, h c c0 c1]
  exact ⟨fun w => Or.inl w, fun w => w.elim id (fun z => z.1.elim)⟩
theorem apx_1 {α : Type} {L : List α} {x y : α} {i : Nat} (h : (L ++ [x])[i]? = some y) : L[i]? = some y ∨ (i = L.length ∧ y = x) := by
  rw [List.getElem?_append] at h
  split at h
  · exact Or.inl h
  · next w =>
    have hi := (List.getElem?_eq_some_iff.1 h).1
    have e : i = L.length := by
      simp at hi
      omega
    subst e
    rw [show L.length - L.length = 0 by omega] at h
    cases h
    exact Or.inr ⟨rfl, rfl⟩
theorem cQ_lacA {z nv pv y hv gv : Int32} {l : List Int} (hm : aTm aT0 mem) (h : cQ 2 3 4 7 8 9 12 13 Q mem) (e1 : gi m 2 1 = gi mem 2 1) (e2 : gi m 2 2 = gi mem 2 2) (eL : gL m 2 6 = gL mem 2 6) (e13 : gi m 2 13 = gi mem 2 13) (a1 : ga m 7 = ga mem 7) (a2 : ga m 8 = ga mem 8) (a3 : ga m 9 = ga mem 9) (a4 : ga m 12 = ga mem 12) (a5 : ga m 13 = ga mem 13) (e12 : gi m 2 12 = (z ||| ((1 : Int32) <<< ((gi mem 2 7) &&& 31)))) (ez : z = gi mem 2 12) (eN : ga m 3 = (ga mem 3).set (gi mem 2 7).toNatClampNeg nv) (eP : ga m 4 = (ga mem 4).set (gi mem 2 7).toNatClampNeg pv) (e7 : gi m 2 7 = y) (ey : y.toInt = (gi mem 2 7).toInt + 1) (hn : nv.toInt = cnl l) (hl : ∀ c ∈ l, ltr c) (hp : 0 ≤ pv.toInt ∧ pv.toInt < 64) (h9 : (gi mem 2 7).toInt < 9) (x3 : gi m 2 3 = gi mem 2 3) (x4 : gi m 2 4 = gi mem 2 4) (x5 : gL m 2 5 = gL mem 2 5) (xU : ga m 5 = (ga mem 5).set (gi mem 2 7).toNatClampNeg hv) (xV : ga m 6 = (ga mem 6).set (gi mem 2 7).toNatClampNeg gv) (xA : ga m 11 = ga mem 11) (xR : gi m 10 3 = gi mem 10 3) : cQ 2 3 4 7 8 9 12 13 (Qc Q, Qr Q, Qw Q, Qt Q ++ [(l, pv.toInt)], Qh Q, Qf Q, Qu Q, Qg Q ++ [(hv.toInt, gv.toInt)], Qp Q, Qa Q, Qk Q) m := by
  obtain ⟨k1, k2, k3, k4, k5, k6, k7⟩ := h
  have r7 := quA_r7 hm
  have g3 := gl_3 hm
  have g4 := gl_4 hm
  have N : ∀ i : Int, 0 ≤ i → gn (ga m 3) i = if i = (gi mem 2 7).toInt then nv.toInt else gn (ga mem 3) i := fun i i0 => by
    rw [eN]
    exact gn_set rfl r7.1 (by omega) i0
  have P : ∀ i : Int, 0 ≤ i → gn (ga m 4) i = if i = (gi mem 2 7).toInt then pv.toInt else gn (ga mem 4) i := fun i i0 => by
    rw [eP]
    exact gn_set rfl r7.1 (by omega) i0
  refine ⟨⟨by rw [e1]; exact k1.1, by rw [e2]; exact k1.2⟩, by unfold cQw; rw [eL]; exact k2, ⟨?_, fun i x hx => ?_⟩, ⟨fun i i0 i1 => ?_, fun i hi => ?_⟩, by unfold cQf; rw [e13, a1, a2, a3]; exact k5, by unfold cQu; rw [a4, a5]; exact k6, ⟨?_, fun i x hx => ?_⟩, ⟨by rw [x3]; exact k7.2.1.1, by rw [x4]; exact k7.2.1.2.1, by rw [x5]; exact k7.2.1.2.2⟩, fun w w0 w1 c hc => ?_⟩
  · show _ = (((Qt Q ++ [(l, pv.toInt)]).length : Nat) : Int)
    rw [e7, ey, List.length_append, k3.1]
    rfl
  · rw [N _ (by omega), P _ (by omega)]
    rcases apx_1 hx with hx | ⟨hi, rfl⟩
    · have w := (List.getElem?_eq_some_iff.1 hx).1
      have k := k3.2 i x hx
      rw [if_neg (by have := k3.1; omega), if_neg (by have := k3.1; omega)]
      exact k
    · rw [if_pos (by rw [hi]; exact k3.1.symm), if_pos (by rw [hi]; exact k3.1.symm)]
      exact ⟨hn, hl, rfl, hp⟩
  · have e := k4.1 i i0 i1
    show bt (gi m 2 12) i ↔ (i < (((Qt Q ++ [(l, pv.toInt)]).length : Nat) : Int) ∧ ¬ i ∈ Qh Q)
    rw [e12, ez, bt_or (by omega) (by omega) i0 (by omega), e, List.length_append, k3.1]
    have key : (Qt Q).length = ((Qt Q).length : Nat) := rfl
    have ln : (([(l, pv.toInt)] : List (List Int × Int)).length : Nat) = 1 := rfl
    rw [ln]
    constructor
    · rintro (⟨w1, w2⟩ | w)
      · exact ⟨by omega, w2⟩
      · exact ⟨by omega, fun z => by have := k4.2 i z; omega⟩
    · rintro ⟨w1, w2⟩
      by_cases c : i = ((Qt Q).length : Int)
      · exact Or.inr c
      · exact Or.inl ⟨by omega, w2⟩
  · have := k4.2 i hi
    show i < (((Qt Q ++ [(l, pv.toInt)]).length : Nat) : Int)
    rw [List.length_append]
    omega
  · show (Qg Q ++ [(hv.toInt, gv.toInt)]).length = (Qt Q ++ [(l, pv.toInt)]).length
    rw [List.length_append, List.length_append, k7.1.1]
    rfl
  · have gU := gl_5 hm
    have gV := gl_6 hm
    have kl := k7.1.1
    rw [show ga m (2 + 3) = (ga mem 5).set (gi mem 2 7).toNatClampNeg hv from xU, show ga m (2 + 4) = (ga mem 6).set (gi mem 2 7).toNatClampNeg gv from xV, gn_set rfl r7.1 (by omega) (by omega), gn_set rfl r7.1 (by omega) (by omega)]
    rcases apx_1 hx with hx | ⟨hi, rfl⟩
    · have w := (List.getElem?_eq_some_iff.1 hx).1
      rw [if_neg (by have := k3.1; omega), if_neg (by have := k3.1; omega)]
      exact k7.1.2 i x hx
    · rw [if_pos (by have := k3.1; omega), if_pos (by have := k3.1; omega)]
      exact ⟨rfl, rfl⟩
  · have e10 : ga m (2 + 10) = ga mem (2 + 10) := a4
    have e11 : ga m (2 + 11) = ga mem (2 + 11) := a5
    have e9 : ga m (2 + 9) = ga mem (2 + 9) := xA
    have e8 : gi m (2 + 8) 3 = gi mem (2 + 8) 3 := xR
    rw [e10, e11, e9, e8]
    exact k7.2.2 w w0 w1 c hc
theorem cQ_folA {nv pv sv_ y : Int32} {l : List Int} (hm : aTm aT0 mem) (h : cQ 2 3 4 7 8 9 12 13 Q mem) (e1 : gi m 2 1 = gi mem 2 1) (e2 : gi m 2 2 = gi mem 2 2) (eL : gL m 2 6 = gL mem 2 6) (e7 : gi m 2 7 = gi mem 2 7) (e12 : gi m 2 12 = gi mem 2 12) (a1 : ga m 3 = ga mem 3) (a2 : ga m 4 = ga mem 4) (a4 : ga m 12 = ga mem 12) (a5 : ga m 13 = ga mem 13) (eN : ga m 7 = (ga mem 7).set (gi mem 2 13).toNatClampNeg nv) (eP : ga m 8 = (ga mem 8).set (gi mem 2 13).toNatClampNeg pv) (eS : ga m 9 = (ga mem 9).set (gi mem 2 13).toNatClampNeg sv_) (e13 : gi m 2 13 = y) (ey : y.toInt = (gi mem 2 13).toInt + 1) (hn : nv.toInt = cnl l) (hl : ∀ c ∈ l, ltr c) (hp : 0 ≤ pv.toInt ∧ pv.toInt < 64) (hs : 0 ≤ sv_.toInt ∧ sv_.toInt < 64) (h6 : (gi mem 2 13).toInt < 6) (x3 : gi m 2 3 = gi mem 2 3) (x4 : gi m 2 4 = gi mem 2 4) (x5 : gL m 2 5 = gL mem 2 5) (xU : ga m 5 = ga mem 5) (xV : ga m 6 = ga mem 6) (xA : ga m 11 = ga mem 11) (xR : gi m 10 3 = gi mem 10 3) : cQ 2 3 4 7 8 9 12 13 (Qc Q, Qr Q, Qw Q, Qt Q, Qh Q, Qf Q ++ [(l, pv.toInt, sv_.toInt)], Qu Q, Qx Q) m := by
  obtain ⟨k1, k2, k3, k4, k5, k6, k7⟩ := h
  have r13 := quA_r13 hm
  have g7 := gl_7 hm
  have g8 := gl_8 hm
  have g9 := gl_9 hm
  have N : ∀ i : Int, 0 ≤ i → gn (ga m 7) i = if i = (gi mem 2 13).toInt then nv.toInt else gn (ga mem 7) i := fun i i0 => by
    rw [eN]
    exact gn_set rfl r13.1 (by omega) i0
  have P : ∀ i : Int, 0 ≤ i → gn (ga m 8) i = if i = (gi mem 2 13).toInt then pv.toInt else gn (ga mem 8) i := fun i i0 => by
    rw [eP]
    exact gn_set rfl r13.1 (by omega) i0
  have S : ∀ i : Int, 0 ≤ i → gn (ga m 9) i = if i = (gi mem 2 13).toInt then sv_.toInt else gn (ga mem 9) i := fun i i0 => by
    rw [eS]
    exact gn_set rfl r13.1 (by omega) i0
  refine ⟨⟨by rw [e1]; exact k1.1, by rw [e2]; exact k1.2⟩, by unfold cQw; rw [eL]; exact k2, by unfold cQt; rw [e7, a1, a2]; exact k3, by unfold cQh; rw [e12]; exact k4, ⟨?_, fun i x hx => ?_⟩, by unfold cQu; rw [a4, a5]; exact k6, cQx_eq x3 x4 x5 xU xV xA a4 a5 xR k7⟩
  · show _ = (((Qf Q ++ [(l, pv.toInt, sv_.toInt)]).length : Nat) : Int)
    rw [e13, ey, List.length_append, k5.1]
    rfl
  · rw [N _ (by omega), P _ (by omega), S _ (by omega)]
    rcases apx_1 hx with hx | ⟨hi, rfl⟩
    · have w := (List.getElem?_eq_some_iff.1 hx).1
      have k := k5.2 i x hx
      rw [if_neg (by have := k5.1; omega), if_neg (by have := k5.1; omega), if_neg (by have := k5.1; omega)]
      exact k
    · rw [if_pos (by rw [hi]; exact k5.1.symm), if_pos (by rw [hi]; exact k5.1.symm), if_pos (by rw [hi]; exact k5.1.symm)]
      exact ⟨hn, hl, ⟨rfl, hp⟩, rfl, hs⟩
set_option maxRecDepth 100000 in
theorem w_laA {d : Nat} {mem : zM} {P : Option Value → zM → Prop} {T : List Int32} {n p : Int} {Q : Qd} (hm : aTm aT0 mem) (ht : zfl mem 26 2 = some (.ref 2)) (hR : cRd T n p mem) (hk4 : ¬ (tkf T n p).1.1 = 4) (hq : hqQ Q) (hQ : cQ 2 3 4 7 8 9 12 13 Q mem) (h1 : (gi mem 2 7).toInt < 9 → ∀ (m2 : zM), aTm aT0 m2 → (fo 27 [] avF mem m2 ∧ cRd T n (tkf T n p).2 m2) → ∀ (v6 : Int32) (q7 : Int) (m4 : zM), aTm aT0 m4 → nnH T n Q (tkf T n p).2 m2 v6.toInt q7 m4 → ¬ (v6).toInt = 0 → ∀ (v11 : Int32) (q12 : Int) (m9 : zM), aTm aT0 m9 → owH T n 6 q7 (sx m4 3 (gi mem 2 7) (gi m4 27 8)) v11.toInt q12 m9 → (v11).toInt = 0 → aTm aT0 m9 → P (some (.int 0)) m9) (h2 : (gi mem 2 7).toInt < 9 → ∀ (m2 : zM), aTm aT0 m2 → (fo 27 [] avF mem m2 ∧ cRd T n (tkf T n p).2 m2) → ∀ (v6 : Int32) (q7 : Int) (m4 : zM), aTm aT0 m4 → nnH T n Q (tkf T n p).2 m2 v6.toInt q7 m4 → ¬ (v6).toInt = 0 → ∀ (v11 : Int32) (q12 : Int) (m9 : zM), aTm aT0 m9 → owH T n 6 q7 (sx m4 3 (gi mem 2 7) (gi m4 27 8)) v11.toInt q12 m9 → ¬ (v11).toInt = 0 → ∀ (v16 : Int32) (q17 : Int) (m14 : zM), aTm aT0 m14 → ceH T n False Q q12 m9 v16.toInt q17 m14 → ¬ (v16).toInt = 0 → ∀ (v21 : Int32) (q22 : Int) (m19 : zM), aTm aT0 m19 → owH T n 7 q17 (sx m14 4 (gi mem 2 7) (gi m14 26 3)) v21.toInt q22 m19 → (v21).toInt = 0 → aTm aT0 m19 → P (some (.int 0)) m19) (h3 : (gi mem 2 7).toInt < 9 → ∀ (m2 : zM), aTm aT0 m2 → (fo 27 [] avF mem m2 ∧ cRd T n (tkf T n p).2 m2) → ∀ (v6 : Int32) (q7 : Int) (m4 : zM), aTm aT0 m4 → nnH T n Q (tkf T n p).2 m2 v6.toInt q7 m4 → ¬ (v6).toInt = 0 → ∀ (v11 : Int32) (q12 : Int) (m9 : zM), aTm aT0 m9 → owH T n 6 q7 (sx m4 3 (gi mem 2 7) (gi m4 27 8)) v11.toInt q12 m9 → ¬ (v11).toInt = 0 → ∀ (v16 : Int32) (q17 : Int) (m14 : zM), aTm aT0 m14 → ceH T n False Q q12 m9 v16.toInt q17 m14 → ¬ (v16).toInt = 0 → ∀ (v21 : Int32) (q22 : Int) (m19 : zM), aTm aT0 m19 → owH T n 7 q17 (sx m14 4 (gi mem 2 7) (gi m14 26 3)) v21.toInt q22 m19 → ¬ (v21).toInt = 0 → ∀ (v26 : Int32) (q27 : Int) (m24 : zM), aTm aT0 m24 → nuH T n (1 : Int) 9 q22 m19 v26.toInt q27 m24 → ¬ (v26).toInt = 0 → ∀ (v31 : Int32) (q32 : Int) (m29 : zM), aTm aT0 m29 → owH T n 8 q27 (sx m24 5 (gi mem 2 7) (gi m24 27 8)) v31.toInt q32 m29 → (v31).toInt = 0 → aTm aT0 m29 → P (some (.int 0)) m29) (s1 : (gi mem 2 7).toInt < 9 → ∀ (m2 : zM), aTm aT0 m2 → (fo 27 [] avF mem m2 ∧ cRd T n (tkf T n p).2 m2) → ∀ (v6 : Int32) (q7 : Int) (m4 : zM), aTm aT0 m4 → nnH T n Q (tkf T n p).2 m2 v6.toInt q7 m4 → ¬ (v6).toInt = 0 → ∀ (v11 : Int32) (q12 : Int) (m9 : zM), aTm aT0 m9 → owH T n 6 q7 (sx m4 3 (gi mem 2 7) (gi m4 27 8)) v11.toInt q12 m9 → ¬ (v11).toInt = 0 → ∀ (v16 : Int32) (q17 : Int) (m14 : zM), aTm aT0 m14 → ceH T n False Q q12 m9 v16.toInt q17 m14 → ¬ (v16).toInt = 0 → ∀ (v21 : Int32) (q22 : Int) (m19 : zM), aTm aT0 m19 → owH T n 7 q17 (sx m14 4 (gi mem 2 7) (gi m14 26 3)) v21.toInt q22 m19 → ¬ (v21).toInt = 0 → ∀ (v26 : Int32) (q27 : Int) (m24 : zM), aTm aT0 m24 → nuH T n (1 : Int) 9 q22 m19 v26.toInt q27 m24 → ¬ (v26).toInt = 0 → ∀ (v31 : Int32) (q32 : Int) (m29 : zM), aTm aT0 m29 → owH T n 8 q27 (sx m24 5 (gi mem 2 7) (gi m24 27 8)) v31.toInt q32 m29 → ¬ (v31).toInt = 0 → ∀ (v36 : Int32) (q37 : Int) (m34 : zM), aTm aT0 m34 → nuH T n (0 : Int) 9 q32 m29 v36.toInt q37 m34 → ¬ (v36).toInt = 0 → (0 : Int) ≤ ((gi m34 2 12) ||| (1 <<< ((gi mem 2 7) &&& 31))).toInt ∧ ((gi m34 2 12) ||| (1 <<< ((gi mem 2 7) &&& 31))).toInt ≤ 511) (h4 : (gi mem 2 7).toInt < 9 → ∀ (m2 : zM), aTm aT0 m2 → (fo 27 [] avF mem m2 ∧ cRd T n (tkf T n p).2 m2) → ∀ (v6 : Int32) (q7 : Int) (m4 : zM), aTm aT0 m4 → nnH T n Q (tkf T n p).2 m2 v6.toInt q7 m4 → ¬ (v6).toInt = 0 → ∀ (v11 : Int32) (q12 : Int) (m9 : zM), aTm aT0 m9 → owH T n 6 q7 (sx m4 3 (gi mem 2 7) (gi m4 27 8)) v11.toInt q12 m9 → ¬ (v11).toInt = 0 → ∀ (v16 : Int32) (q17 : Int) (m14 : zM), aTm aT0 m14 → ceH T n False Q q12 m9 v16.toInt q17 m14 → ¬ (v16).toInt = 0 → ∀ (v21 : Int32) (q22 : Int) (m19 : zM), aTm aT0 m19 → owH T n 7 q17 (sx m14 4 (gi mem 2 7) (gi m14 26 3)) v21.toInt q22 m19 → ¬ (v21).toInt = 0 → ∀ (v26 : Int32) (q27 : Int) (m24 : zM), aTm aT0 m24 → nuH T n (1 : Int) 9 q22 m19 v26.toInt q27 m24 → ¬ (v26).toInt = 0 → ∀ (v31 : Int32) (q32 : Int) (m29 : zM), aTm aT0 m29 → owH T n 8 q27 (sx m24 5 (gi mem 2 7) (gi m24 27 8)) v31.toInt q32 m29 → ¬ (v31).toInt = 0 → ∀ (v36 : Int32) (q37 : Int) (m34 : zM), aTm aT0 m34 → nuH T n (0 : Int) 9 q32 m29 v36.toInt q37 m34 → ¬ (v36).toInt = 0 → ∀ (x39 : Int32), x39.toInt = ((gi mem 2 7).toInt + 1) → aTm aT0 (si (si (sx m34 6 (gi mem 2 7) (gi m34 27 8)) 2 12 ((gi m34 2 12) ||| (1 <<< ((gi mem 2 7) &&& 31)))) 2 7 x39) → P (some (.int 1)) (si (si (sx m34 6 (gi mem 2 7) (gi m34 27 8)) 2 12 ((gi m34 2 12) ||| (1 <<< ((gi mem 2 7) &&& 31)))) 2 7 x39)) (h5 : (gi mem 2 7).toInt < 9 → ∀ (m2 : zM), aTm aT0 m2 → (fo 27 [] avF mem m2 ∧ cRd T n (tkf T n p).2 m2) → ∀ (v6 : Int32) (q7 : Int) (m4 : zM), aTm aT0 m4 → nnH T n Q (tkf T n p).2 m2 v6.toInt q7 m4 → ¬ (v6).toInt = 0 → ∀ (v11 : Int32) (q12 : Int) (m9 : zM), aTm aT0 m9 → owH T n 6 q7 (sx m4 3 (gi mem 2 7) (gi m4 27 8)) v11.toInt q12 m9 → ¬ (v11).toInt = 0 → ∀ (v16 : Int32) (q17 : Int) (m14 : zM), aTm aT0 m14 → ceH T n False Q q12 m9 v16.toInt q17 m14 → ¬ (v16).toInt = 0 → ∀ (v21 : Int32) (q22 : Int) (m19 : zM), aTm aT0 m19 → owH T n 7 q17 (sx m14 4 (gi mem 2 7) (gi m14 26 3)) v21.toInt q22 m19 → ¬ (v21).toInt = 0 → ∀ (v26 : Int32) (q27 : Int) (m24 : zM), aTm aT0 m24 → nuH T n (1 : Int) 9 q22 m19 v26.toInt q27 m24 → ¬ (v26).toInt = 0 → ∀ (v31 : Int32) (q32 : Int) (m29 : zM), aTm aT0 m29 → owH T n 8 q27 (sx m24 5 (gi mem 2 7) (gi m24 27 8)) v31.toInt q32 m29 → ¬ (v31).toInt = 0 → ∀ (v36 : Int32) (q37 : Int) (m34 : zM), aTm aT0 m34 → nuH T n (0 : Int) 9 q32 m29 v36.toInt q37 m34 → (v36).toInt = 0 → aTm aT0 m34 → P (some (.int 0)) m34) (h6 : (gi mem 2 7).toInt < 9 → ∀ (m2 : zM), aTm aT0 m2 → (fo 27 [] avF mem m2 ∧ cRd T n (tkf T n p).2 m2) → ∀ (v6 : Int32) (q7 : Int) (m4 : zM), aTm aT0 m4 → nnH T n Q (tkf T n p).2 m2 v6.toInt q7 m4 → ¬ (v6).toInt = 0 → ∀ (v11 : Int32) (q12 : Int) (m9 : zM), aTm aT0 m9 → owH T n 6 q7 (sx m4 3 (gi mem 2 7) (gi m4 27 8)) v11.toInt q12 m9 → ¬ (v11).toInt = 0 → ∀ (v16 : Int32) (q17 : Int) (m14 : zM), aTm aT0 m14 → ceH T n False Q q12 m9 v16.toInt q17 m14 → ¬ (v16).toInt = 0 → ∀ (v21 : Int32) (q22 : Int) (m19 : zM), aTm aT0 m19 → owH T n 7 q17 (sx m14 4 (gi mem 2 7) (gi m14 26 3)) v21.toInt q22 m19 → ¬ (v21).toInt = 0 → ∀ (v26 : Int32) (q27 : Int) (m24 : zM), aTm aT0 m24 → nuH T n (1 : Int) 9 q22 m19 v26.toInt q27 m24 → (v26).toInt = 0 → aTm aT0 m24 → P (some (.int 0)) m24) (h7 : (gi mem 2 7).toInt < 9 → ∀ (m2 : zM), aTm aT0 m2 → (fo 27 [] avF mem m2 ∧ cRd T n (tkf T n p).2 m2) → ∀ (v6 : Int32) (q7 : Int) (m4 : zM), aTm aT0 m4 → nnH T n Q (tkf T n p).2 m2 v6.toInt q7 m4 → ¬ (v6).toInt = 0 → ∀ (v11 : Int32) (q12 : Int) (m9 : zM), aTm aT0 m9 → owH T n 6 q7 (sx m4 3 (gi mem 2 7) (gi m4 27 8)) v11.toInt q12 m9 → ¬ (v11).toInt = 0 → ∀ (v16 : Int32) (q17 : Int) (m14 : zM), aTm aT0 m14 → ceH T n False Q q12 m9 v16.toInt q17 m14 → (v16).toInt = 0 → aTm aT0 m14 → P (some (.int 0)) m14) (h8 : (gi mem 2 7).toInt < 9 → ∀ (m2 : zM), aTm aT0 m2 → (fo 27 [] avF mem m2 ∧ cRd T n (tkf T n p).2 m2) → ∀ (v6 : Int32) (q7 : Int) (m4 : zM), aTm aT0 m4 → nnH T n Q (tkf T n p).2 m2 v6.toInt q7 m4 → (v6).toInt = 0 → aTm aT0 m4 → P (some (.int 0)) m4) (h9 : 9 ≤ (gi mem 2 7).toInt → aTm aT0 (si (si mem 27 10 6) 27 11 (gi mem 27 6)) → P (some (.int 0)) (si (si mem 27 10 6) 27 11 (gi mem 27 6))) : yR zpg tX9_takesLack (d + 4) (0, [(0, .ref 26)], [], mem) P := by
  have r7 := quA_r7 hm
  refine yR_m 1 (fun _ _ _ _ => rfl) ?_
  refine wR_gq rfl tO_e hm ht ?_
  refine wR_gi rfl quA_e quA_7 hm rfl ?_
  refine yR_m 3 (fun _ _ _ _ => rfl) ?_
  refine wR_ic_lt rfl (a := (gi mem 2 7).toInt) (c := 9) rfl rfl (fun q1 => ?_) (fun q1 => ?_)
  ·
    refine yR_m 1 (fun _ _ _ _ => rfl) ?_
    refine wR_gr rfl tO_e tO_0 hm ?_
    refine wR_cv rfl rfl rO_e hm rfl (h_avC (T := T) (n := n) (p := p) hm (cRd_t hR) hk4 (by omega)) ?_
    rintro _ m2 ⟨rfl, hI2, k3⟩
    show yR zpg tX9_takesLack (d + 4) (38, [(1, .int (gi mem 2 7)), (0, .ref 26)], [], m2) _
    refine yR_m 1 (fun _ _ _ _ => rfl) ?_
    refine wR_cv rfl rfl tO_e hI2 rfl (h_nnCA (T := T) (n := n) (p := (tkf T n p).2) (Q := Q) hI2 ((k6_26 (k6_fo k3.1 rfl) (by decide)).trans ht) k3.2 (cQ_k6A (k6_tr k6_rf (k6_fo k3.1 rfl)) hQ) (by omega)) ?_
    rintro _ m4 ⟨v6, q7, rfl, hm4, k5⟩
    show yR zpg tX9_takesLack (d + 4) (42, [(1, .int (gi mem 2 7)), (0, .ref 26)], [.int v6], m4) _
    refine wR_if_ne rfl (a := (v6).toInt) rfl (fun q8 => ?_) (fun q8 => ?_)
    ·
      refine yR_m 1 (fun _ _ _ _ => rfl) ?_
      refine wR_gq rfl tO_e hm4 ((k6_26 k5.1 (by decide)).trans ((k6_26 (k6_fo k3.1 rfl) (by decide)).trans ht)) ?_
      refine wR_gr rfl quA_e quA_8 hm4 ?_
      refine yR_m 2 (fun _ _ _ _ => rfl) ?_
      refine wR_gr rfl tO_e tO_0 hm4 ?_
      refine wR_gi rfl rO_e rO_8 hm4 rfl ?_
      refine wN_as (a := (gi mem 2 7).toInt) rfl aR_3 hm4 rfl (by omega) ?_
      have hm_1 : aTm aT0 (sx m4 3 (gi mem 2 7) (gi m4 27 8)) := tm_sa aR_3 hm4 (i32_b _)
      refine yR_m 1 (fun _ _ _ _ => rfl) ?_
      refine wR_gr rfl tO_e tO_0 hm_1 ?_
      refine yR_m 1 (fun _ _ _ _ => rfl) ?_
      refine wR_cv rfl rfl rO_e hm_1 rfl (h_owC (T := T) (n := n) (p := q7) (by decide) hm_1 (cRd_sa (by decide) (by decide) (or_1 k5.2 (by omega)).2) (by omega)) ?_
      rintro _ m9 ⟨v11, q12, rfl, hm9, k10⟩
      show yR zpg tX9_takesLack (d + 4) (72, [(1, .int (gi mem 2 7)), (0, .ref 26)], [.int v11], m9) _
      refine wR_if_eq rfl (a := (v11).toInt) rfl (fun q13 => ?_) (fun q13 => ?_)
      ·
        refine yR_m 1 (fun _ _ _ _ => rfl) ?_
        exact yR_rz rfl ⟨by decide, by decide⟩ (h1 q1 m2 hI2 k3 v6 q7 m4 hm4 k5 q8 v11 q12 m9 hm9 k10 q13 hm9)
      ·
        refine yR_m 2 (fun _ _ _ _ => rfl) ?_
        refine wR_gq rfl tO_e hm9 ((k6_26 (k6_fo k10.1 rfl) (by decide)).trans (zfl_sa.trans ((k6_26 k5.1 (by decide)).trans ((k6_26 (k6_fo k3.1 rfl) (by decide)).trans ht)))) ?_
        refine wR_gL rfl quA_e quA_6 hm9 rfl ?_
        refine wR_cv rfl rfl tO_e hm9 rfl (h_ceCA (wl := False) (T := T) (n := n) (p := q12) (Q := Q) (cQ_hz ((k6_gL (by decide) (k6_fo k10.1 rfl)).trans ((gL_sa).trans ((k6_gL (by decide) k5.1).trans (k6_gL (by decide) (k6_fo k3.1 rfl))))) hQ.2.1) hm9 ((k6_26 (k6_fo k10.1 rfl) (by decide)).trans (zfl_sa.trans ((k6_26 k5.1 (by decide)).trans ((k6_26 (k6_fo k3.1 rfl) (by decide)).trans ht)))) (ow_1 k10 (by omega)).2 hq (by rw [((k6_gi (by decide) (k6_fo k10.1 rfl)).trans ((gi_sa).trans ((k6_gi (by decide) k5.1).trans (k6_gi (by decide) (k6_fo k3.1 rfl)))))]; exact hQ.1.1) (by rw [((k6_gi (by decide) (k6_fo k10.1 rfl)).trans ((gi_sa).trans ((k6_gi (by decide) k5.1).trans (k6_gi (by decide) (k6_fo k3.1 rfl)))))]; exact hQ.1.2) (by omega)) ?_
        rintro _ m14 ⟨v16, q17, rfl, hm14, k15⟩
        show yR zpg tX9_takesLack (d + 4) (86, [(1, .int (gi mem 2 7)), (0, .ref 26)], [.int v16], m14) _
        refine wR_if_ne rfl (a := (v16).toInt) rfl (fun q18 => ?_) (fun q18 => ?_)
        ·
          refine yR_m 1 (fun _ _ _ _ => rfl) ?_
          refine wR_gq rfl tO_e hm14 ((k6_26 k15.1 (by decide)).trans ((k6_26 (k6_fo k10.1 rfl) (by decide)).trans (zfl_sa.trans ((k6_26 k5.1 (by decide)).trans ((k6_26 (k6_fo k3.1 rfl) (by decide)).trans ht))))) ?_
          refine wR_gr rfl quA_e quA_9 hm14 ?_
          refine yR_m 2 (fun _ _ _ _ => rfl) ?_
          refine wR_gi rfl tO_e tO_3 hm14 rfl ?_
          refine wN_as (a := (gi mem 2 7).toInt) rfl aR_4 hm14 rfl (by omega) ?_
          have hm_2 : aTm aT0 (sx m14 4 (gi mem 2 7) (gi m14 26 3)) := tm_sa aR_4 hm14 (i32_b _)
          refine yR_m 1 (fun _ _ _ _ => rfl) ?_
          refine wR_gr rfl tO_e tO_0 hm_2 ?_
          refine yR_m 1 (fun _ _ _ _ => rfl) ?_
          refine wR_cv rfl rfl rO_e hm_2 rfl (h_owC (T := T) (n := n) (p := q17) (by decide) hm_2 (cRd_sa (by decide) (by decide) (or_1 k15.2 (by omega)).2) (by omega)) ?_
          rintro _ m19 ⟨v21, q22, rfl, hm19, k20⟩
          show yR zpg tX9_takesLack (d + 4) (113, [(1, .int (gi mem 2 7)), (0, .ref 26)], [.int v21], m19) _
          refine wR_if_eq rfl (a := (v21).toInt) rfl (fun q23 => ?_) (fun q23 => ?_)
          ·
            refine yR_m 1 (fun _ _ _ _ => rfl) ?_
            exact yR_rz rfl ⟨by decide, by decide⟩ (h2 q1 m2 hI2 k3 v6 q7 m4 hm4 k5 q8 v11 q12 m9 hm9 k10 q13 v16 q17 m14 hm14 k15 q18 v21 q22 m19 hm19 k20 q23 hm19)
          ·
            refine yR_m 1 (fun _ _ _ _ => rfl) ?_
            refine wR_gr rfl tO_e tO_0 hm19 ?_
            refine yR_m 2 (fun _ _ _ _ => rfl) ?_
            refine wR_cv rfl rfl rO_e hm19 rfl (h_nuC (T := T) (n := n) (p := q22) hm19 (ow_1 k20 (by omega)).2 (by omega)) ?_
            rintro _ m24 ⟨v26, q27, rfl, hm24, k25⟩
            show yR zpg tX9_takesLack (d + 4) (126, [(1, .int (gi mem 2 7)), (0, .ref 26)], [.int v26], m24) _
            refine wR_if_ne rfl (a := (v26).toInt) rfl (fun q28 => ?_) (fun q28 => ?_)
            ·
              refine yR_m 1 (fun _ _ _ _ => rfl) ?_
              refine wR_gq rfl tO_e hm24 ((k6_26 (k6_fo k25.1 rfl) (by decide)).trans ((k6_26 (k6_fo k20.1 rfl) (by decide)).trans (zfl_sa.trans ((k6_26 k15.1 (by decide)).trans ((k6_26 (k6_fo k10.1 rfl) (by decide)).trans (zfl_sa.trans ((k6_26 k5.1 (by decide)).trans ((k6_26 (k6_fo k3.1 rfl) (by decide)).trans ht)))))))) ?_
              refine wR_gr rfl quA_e quA_10 hm24 ?_
              refine yR_m 2 (fun _ _ _ _ => rfl) ?_
              refine wR_gr rfl tO_e tO_0 hm24 ?_
              refine wR_gi rfl rO_e rO_8 hm24 rfl ?_
              refine wN_as (a := (gi mem 2 7).toInt) rfl aR_5 hm24 rfl (by omega) ?_
              have hm_3 : aTm aT0 (sx m24 5 (gi mem 2 7) (gi m24 27 8)) := tm_sa aR_5 hm24 (i32_b _)
              refine yR_m 1 (fun _ _ _ _ => rfl) ?_
              refine wR_gr rfl tO_e tO_0 hm_3 ?_
              refine yR_m 1 (fun _ _ _ _ => rfl) ?_
              refine wR_cv rfl rfl rO_e hm_3 rfl (h_owC (T := T) (n := n) (p := q27) (by decide) hm_3 (cRd_sa (by decide) (by decide) (nu_1 k25 (by omega)).2) (by omega)) ?_
              rintro _ m29 ⟨v31, q32, rfl, hm29, k30⟩
              show yR zpg tX9_takesLack (d + 4) (156, [(1, .int (gi mem 2 7)), (0, .ref 26)], [.int v31], m29) _
              refine wR_if_eq rfl (a := (v31).toInt) rfl (fun q33 => ?_) (fun q33 => ?_)
              ·
                refine yR_m 1 (fun _ _ _ _ => rfl) ?_
                exact yR_rz rfl ⟨by decide, by decide⟩ (h3 q1 m2 hI2 k3 v6 q7 m4 hm4 k5 q8 v11 q12 m9 hm9 k10 q13 v16 q17 m14 hm14 k15 q18 v21 q22 m19 hm19 k20 q23 v26 q27 m24 hm24 k25 q28 v31 q32 m29 hm29 k30 q33 hm29)
              ·
                refine yR_m 1 (fun _ _ _ _ => rfl) ?_
                refine wR_gr rfl tO_e tO_0 hm29 ?_
                refine yR_m 2 (fun _ _ _ _ => rfl) ?_
                refine wR_cv rfl rfl rO_e hm29 rfl (h_nuC (T := T) (n := n) (p := q32) hm29 (ow_1 k30 (by omega)).2 (by omega)) ?_
                rintro _ m34 ⟨v36, q37, rfl, hm34, k35⟩
                show yR zpg tX9_takesLack (d + 4) (169, [(1, .int (gi mem 2 7)), (0, .ref 26)], [.int v36], m34) _
                refine wR_if_ne rfl (a := (v36).toInt) rfl (fun q38 => ?_) (fun q38 => ?_)
                ·
                  refine yR_m 1 (fun _ _ _ _ => rfl) ?_
                  refine wR_gq rfl tO_e hm34 ((k6_26 (k6_fo k35.1 rfl) (by decide)).trans ((k6_26 (k6_fo k30.1 rfl) (by decide)).trans (zfl_sa.trans ((k6_26 (k6_fo k25.1 rfl) (by decide)).trans ((k6_26 (k6_fo k20.1 rfl) (by decide)).trans (zfl_sa.trans ((k6_26 k15.1 (by decide)).trans ((k6_26 (k6_fo k10.1 rfl) (by decide)).trans (zfl_sa.trans ((k6_26 k5.1 (by decide)).trans ((k6_26 (k6_fo k3.1 rfl) (by decide)).trans ht))))))))))) ?_
                  refine wR_gr rfl quA_e quA_11 hm34 ?_
                  refine yR_m 2 (fun _ _ _ _ => rfl) ?_
                  refine wR_gr rfl tO_e tO_0 hm34 ?_
                  refine wR_gi rfl rO_e rO_8 hm34 rfl ?_
                  refine wN_as (a := (gi mem 2 7).toInt) rfl aR_6 hm34 rfl (by omega) ?_
                  have hm_4 : aTm aT0 (sx m34 6 (gi mem 2 7) (gi m34 27 8)) := tm_sa aR_6 hm34 (i32_b _)
                  refine yR_m 1 (fun _ _ _ _ => rfl) ?_
                  refine wR_gq rfl tO_e hm_4 (zfl_sa.trans ((k6_26 (k6_fo k35.1 rfl) (by decide)).trans ((k6_26 (k6_fo k30.1 rfl) (by decide)).trans (zfl_sa.trans ((k6_26 (k6_fo k25.1 rfl) (by decide)).trans ((k6_26 (k6_fo k20.1 rfl) (by decide)).trans (zfl_sa.trans ((k6_26 k15.1 (by decide)).trans ((k6_26 (k6_fo k10.1 rfl) (by decide)).trans (zfl_sa.trans ((k6_26 k5.1 (by decide)).trans ((k6_26 (k6_fo k3.1 rfl) (by decide)).trans ht)))))))))))) ?_
                  refine yR_m 1 (fun _ _ _ _ => rfl) ?_
                  refine wR_gi rfl quA_e quA_12 hm_4 (gi_sa) ?_
                  refine yR_m 4 (fun _ _ _ _ => rfl) ?_
                  refine wR_pi rfl quA_e quA_12 hm_4 rfl ?_
                  have hm_5 : aTm aT0 (si (sx m34 6 (gi mem 2 7) (gi m34 27 8)) 2 12 ((gi m34 2 12) ||| (1 <<< ((gi mem 2 7) &&& 31)))) := tm_si quA_e quA_12 hm_4 (s1 q1 m2 hI2 k3 v6 q7 m4 hm4 k5 q8 v11 q12 m9 hm9 k10 q13 v16 q17 m14 hm14 k15 q18 v21 q22 m19 hm19 k20 q23 v26 q27 m24 hm24 k25 q28 v31 q32 m29 hm29 k30 q33 v36 q37 m34 hm34 k35 q38)
                  refine yR_m 1 (fun _ _ _ _ => rfl) ?_
                  refine wR_gq rfl tO_e hm_5 ((zfl_sv_ne (by decide)).trans (zfl_sa.trans ((k6_26 (k6_fo k35.1 rfl) (by decide)).trans ((k6_26 (k6_fo k30.1 rfl) (by decide)).trans (zfl_sa.trans ((k6_26 (k6_fo k25.1 rfl) (by decide)).trans ((k6_26 (k6_fo k20.1 rfl) (by decide)).trans (zfl_sa.trans ((k6_26 k15.1 (by decide)).trans ((k6_26 (k6_fo k10.1 rfl) (by decide)).trans (zfl_sa.trans ((k6_26 k5.1 (by decide)).trans ((k6_26 (k6_fo k3.1 rfl) (by decide)).trans ht))))))))))))) ?_
                  refine yR_m 2 (fun _ _ _ _ => rfl) ?_
                  refine wN_add (a := (gi mem 2 7).toInt) (b := 1) rfl rfl rfl (by omega) (fun x39 e40 => ?_)
                  refine wR_pi rfl quA_e quA_7 hm_5 rfl ?_
                  have hm_6 : aTm aT0 (si (si (sx m34 6 (gi mem 2 7) (gi m34 27 8)) 2 12 ((gi m34 2 12) ||| (1 <<< ((gi mem 2 7) &&& 31)))) 2 7 x39) := tm_si quA_e quA_7 hm_5 (by rw [e40]; exact (by omega))
                  refine yR_m 1 (fun _ _ _ _ => rfl) ?_
                  exact yR_rz rfl ⟨by decide, by decide⟩ (h4 q1 m2 hI2 k3 v6 q7 m4 hm4 k5 q8 v11 q12 m9 hm9 k10 q13 v16 q17 m14 hm14 k15 q18 v21 q22 m19 hm19 k20 q23 v26 q27 m24 hm24 k25 q28 v31 q32 m29 hm29 k30 q33 v36 q37 m34 hm34 k35 q38 x39 e40 hm_6)
                ·
                  refine yR_m 1 (fun _ _ _ _ => rfl) ?_
                  exact yR_rz rfl ⟨by decide, by decide⟩ (h5 q1 m2 hI2 k3 v6 q7 m4 hm4 k5 q8 v11 q12 m9 hm9 k10 q13 v16 q17 m14 hm14 k15 q18 v21 q22 m19 hm19 k20 q23 v26 q27 m24 hm24 k25 q28 v31 q32 m29 hm29 k30 q33 v36 q37 m34 hm34 k35 q38 hm34)
            ·
              refine yR_m 1 (fun _ _ _ _ => rfl) ?_
              exact yR_rz rfl ⟨by decide, by decide⟩ (h6 q1 m2 hI2 k3 v6 q7 m4 hm4 k5 q8 v11 q12 m9 hm9 k10 q13 v16 q17 m14 hm14 k15 q18 v21 q22 m19 hm19 k20 q23 v26 q27 m24 hm24 k25 q28 hm24)
        ·
          refine yR_m 1 (fun _ _ _ _ => rfl) ?_
          exact yR_rz rfl ⟨by decide, by decide⟩ (h7 q1 m2 hI2 k3 v6 q7 m4 hm4 k5 q8 v11 q12 m9 hm9 k10 q13 v16 q17 m14 hm14 k15 q18 hm14)
    ·
      refine yR_m 1 (fun _ _ _ _ => rfl) ?_
      exact yR_rz rfl ⟨by decide, by decide⟩ (h8 q1 m2 hI2 k3 v6 q7 m4 hm4 k5 q8 hm4)
  ·
    refine yR_m 1 (fun _ _ _ _ => rfl) ?_
    refine wR_gr rfl tO_e tO_0 hm ?_
    refine yR_m 2 (fun _ _ _ _ => rfl) ?_
    refine wR_gr rfl tO_e tO_0 hm ?_
    refine wR_gi rfl rO_e rO_6 hm rfl ?_
    refine wR_iv rfl rfl rO_e hm rfl rfl rfl rfl ?_
    show yR zpg tX5_faults (d + 3) (0, [(0, .ref 27), (1, .int 6), (2, .int (gi mem 27 6))], [], mem) _
    refine yR_m 2 (fun _ _ _ _ => rfl) ?_
    refine wR_pi rfl rO_e rO_10 hm rfl ?_
    have hm_7 : aTm aT0 (si mem 27 10 6) := tm_si rO_e rO_10 hm (i32_b _)
    refine yR_m 2 (fun _ _ _ _ => rfl) ?_
    refine wR_pi rfl rO_e rO_11 hm_7 rfl ?_
    have hm_8 : aTm aT0 (si (si mem 27 10 6) 27 11 (gi mem 27 6)) := tm_si rO_e rO_11 hm_7 (i32_b _)
    refine yR_m 1 (fun _ _ _ _ => rfl) ?_
    refine yR_rz rfl ⟨by decide, by decide⟩ ?_
    show yR zpg tX9_takesLack (d + 4) (30, [(1, .int (gi mem 2 7)), (0, .ref 26)], [.int 0], (si (si mem 27 10 6) 27 11 (gi mem 27 6))) _
    exact yR_rz rfl ⟨by decide, by decide⟩ (h9 q1 hm_8)

set_option maxRecDepth 100000 in
theorem w_foA {d : Nat} {mem : zM} {P : Option Value → zM → Prop} {T : List Int32} {n p : Int} {Q : Qd} (hm : aTm aT0 mem) (ht : zfl mem 26 2 = some (.ref 2)) (hR : cRd T n p mem) (hk4 : ¬ (tkf T n p).1.1 = 4) (hq : hqQ Q) (hQ : cQ 2 3 4 7 8 9 12 13 Q mem) (h1 : (gi mem 2 13).toInt < 6 → ∀ (m2 : zM), aTm aT0 m2 → (fo 27 [] avF mem m2 ∧ cRd T n (tkf T n p).2 m2) → ∀ (v6 : Int32) (q7 : Int) (m4 : zM), aTm aT0 m4 → nnH T n Q (tkf T n p).2 m2 v6.toInt q7 m4 → ¬ (v6).toInt = 0 → ∀ (v11 : Int32) (q12 : Int) (m9 : zM), aTm aT0 m9 → owH T n 6 q7 (sx m4 7 (gi mem 2 13) (gi m4 27 8)) v11.toInt q12 m9 → (v11).toInt = 0 → aTm aT0 m9 → P (some (.int 0)) m9) (h2 : (gi mem 2 13).toInt < 6 → ∀ (m2 : zM), aTm aT0 m2 → (fo 27 [] avF mem m2 ∧ cRd T n (tkf T n p).2 m2) → ∀ (v6 : Int32) (q7 : Int) (m4 : zM), aTm aT0 m4 → nnH T n Q (tkf T n p).2 m2 v6.toInt q7 m4 → ¬ (v6).toInt = 0 → ∀ (v11 : Int32) (q12 : Int) (m9 : zM), aTm aT0 m9 → owH T n 6 q7 (sx m4 7 (gi mem 2 13) (gi m4 27 8)) v11.toInt q12 m9 → ¬ (v11).toInt = 0 → ∀ (v16 : Int32) (q17 : Int) (m14 : zM), aTm aT0 m14 → ceH T n False Q q12 m9 v16.toInt q17 m14 → ¬ (v16).toInt = 0 → ∀ (v21 : Int32) (q22 : Int) (m19 : zM), aTm aT0 m19 → owH T n 11 q17 (sx m14 8 (gi mem 2 13) (gi m14 26 3)) v21.toInt q22 m19 → (v21).toInt = 0 → aTm aT0 m19 → P (some (.int 0)) m19) (h3 : (gi mem 2 13).toInt < 6 → ∀ (m2 : zM), aTm aT0 m2 → (fo 27 [] avF mem m2 ∧ cRd T n (tkf T n p).2 m2) → ∀ (v6 : Int32) (q7 : Int) (m4 : zM), aTm aT0 m4 → nnH T n Q (tkf T n p).2 m2 v6.toInt q7 m4 → ¬ (v6).toInt = 0 → ∀ (v11 : Int32) (q12 : Int) (m9 : zM), aTm aT0 m9 → owH T n 6 q7 (sx m4 7 (gi mem 2 13) (gi m4 27 8)) v11.toInt q12 m9 → ¬ (v11).toInt = 0 → ∀ (v16 : Int32) (q17 : Int) (m14 : zM), aTm aT0 m14 → ceH T n False Q q12 m9 v16.toInt q17 m14 → ¬ (v16).toInt = 0 → ∀ (v21 : Int32) (q22 : Int) (m19 : zM), aTm aT0 m19 → owH T n 11 q17 (sx m14 8 (gi mem 2 13) (gi m14 26 3)) v21.toInt q22 m19 → ¬ (v21).toInt = 0 → ∀ (v26 : Int32) (q27 : Int) (m24 : zM), aTm aT0 m24 → ceH T n False Q q22 m19 v26.toInt q27 m24 → ¬ (v26).toInt = 0 → ∀ (x29 : Int32), x29.toInt = ((gi mem 2 13).toInt + 1) → aTm aT0 (si (sx m24 9 (gi mem 2 13) (gi m24 26 3)) 2 13 x29) → P (some (.int 1)) (si (sx m24 9 (gi mem 2 13) (gi m24 26 3)) 2 13 x29)) (h4 : (gi mem 2 13).toInt < 6 → ∀ (m2 : zM), aTm aT0 m2 → (fo 27 [] avF mem m2 ∧ cRd T n (tkf T n p).2 m2) → ∀ (v6 : Int32) (q7 : Int) (m4 : zM), aTm aT0 m4 → nnH T n Q (tkf T n p).2 m2 v6.toInt q7 m4 → ¬ (v6).toInt = 0 → ∀ (v11 : Int32) (q12 : Int) (m9 : zM), aTm aT0 m9 → owH T n 6 q7 (sx m4 7 (gi mem 2 13) (gi m4 27 8)) v11.toInt q12 m9 → ¬ (v11).toInt = 0 → ∀ (v16 : Int32) (q17 : Int) (m14 : zM), aTm aT0 m14 → ceH T n False Q q12 m9 v16.toInt q17 m14 → ¬ (v16).toInt = 0 → ∀ (v21 : Int32) (q22 : Int) (m19 : zM), aTm aT0 m19 → owH T n 11 q17 (sx m14 8 (gi mem 2 13) (gi m14 26 3)) v21.toInt q22 m19 → ¬ (v21).toInt = 0 → ∀ (v26 : Int32) (q27 : Int) (m24 : zM), aTm aT0 m24 → ceH T n False Q q22 m19 v26.toInt q27 m24 → (v26).toInt = 0 → aTm aT0 m24 → P (some (.int 0)) m24) (h5 : (gi mem 2 13).toInt < 6 → ∀ (m2 : zM), aTm aT0 m2 → (fo 27 [] avF mem m2 ∧ cRd T n (tkf T n p).2 m2) → ∀ (v6 : Int32) (q7 : Int) (m4 : zM), aTm aT0 m4 → nnH T n Q (tkf T n p).2 m2 v6.toInt q7 m4 → ¬ (v6).toInt = 0 → ∀ (v11 : Int32) (q12 : Int) (m9 : zM), aTm aT0 m9 → owH T n 6 q7 (sx m4 7 (gi mem 2 13) (gi m4 27 8)) v11.toInt q12 m9 → ¬ (v11).toInt = 0 → ∀ (v16 : Int32) (q17 : Int) (m14 : zM), aTm aT0 m14 → ceH T n False Q q12 m9 v16.toInt q17 m14 → (v16).toInt = 0 → aTm aT0 m14 → P (some (.int 0)) m14) (h6 : (gi mem 2 13).toInt < 6 → ∀ (m2 : zM), aTm aT0 m2 → (fo 27 [] avF mem m2 ∧ cRd T n (tkf T n p).2 m2) → ∀ (v6 : Int32) (q7 : Int) (m4 : zM), aTm aT0 m4 → nnH T n Q (tkf T n p).2 m2 v6.toInt q7 m4 → (v6).toInt = 0 → aTm aT0 m4 → P (some (.int 0)) m4) (h7 : 6 ≤ (gi mem 2 13).toInt → aTm aT0 (si (si mem 27 10 6) 27 11 (gi mem 27 6)) → P (some (.int 0)) (si (si mem 27 10 6) 27 11 (gi mem 27 6))) : yR zpg tX9_takesFolk (d + 4) (0, [(0, .ref 26)], [], mem) P := by
  have r13 := quA_r13 hm
  refine yR_m 1 (fun _ _ _ _ => rfl) ?_
  refine wR_gq rfl tO_e hm ht ?_
  refine wR_gi rfl quA_e quA_13 hm rfl ?_
  refine yR_m 3 (fun _ _ _ _ => rfl) ?_
  refine wR_ic_lt rfl (a := (gi mem 2 13).toInt) (c := 6) rfl rfl (fun q1 => ?_) (fun q1 => ?_)
  ·
    refine yR_m 1 (fun _ _ _ _ => rfl) ?_
    refine wR_gr rfl tO_e tO_0 hm ?_
    refine wR_cv rfl rfl rO_e hm rfl (h_avC (T := T) (n := n) (p := p) hm (cRd_t hR) hk4 (by omega)) ?_
    rintro _ m2 ⟨rfl, hI2, k3⟩
    show yR zpg tX9_takesFolk (d + 4) (38, [(1, .int (gi mem 2 13)), (0, .ref 26)], [], m2) _
    refine yR_m 1 (fun _ _ _ _ => rfl) ?_
    refine wR_cv rfl rfl tO_e hI2 rfl (h_nnCA (T := T) (n := n) (p := (tkf T n p).2) (Q := Q) hI2 ((k6_26 (k6_fo k3.1 rfl) (by decide)).trans ht) k3.2 (cQ_k6A (k6_tr k6_rf (k6_fo k3.1 rfl)) hQ) (by omega)) ?_
    rintro _ m4 ⟨v6, q7, rfl, hm4, k5⟩
    show yR zpg tX9_takesFolk (d + 4) (42, [(1, .int (gi mem 2 13)), (0, .ref 26)], [.int v6], m4) _
    refine wR_if_ne rfl (a := (v6).toInt) rfl (fun q8 => ?_) (fun q8 => ?_)
    ·
      refine yR_m 1 (fun _ _ _ _ => rfl) ?_
      refine wR_gq rfl tO_e hm4 ((k6_26 k5.1 (by decide)).trans ((k6_26 (k6_fo k3.1 rfl) (by decide)).trans ht)) ?_
      refine wR_gr rfl quA_e quA_14 hm4 ?_
      refine yR_m 2 (fun _ _ _ _ => rfl) ?_
      refine wR_gr rfl tO_e tO_0 hm4 ?_
      refine wR_gi rfl rO_e rO_8 hm4 rfl ?_
      refine wN_as (a := (gi mem 2 13).toInt) rfl aR_7 hm4 rfl (by omega) ?_
      have hm_1 : aTm aT0 (sx m4 7 (gi mem 2 13) (gi m4 27 8)) := tm_sa aR_7 hm4 (i32_b _)
      refine yR_m 1 (fun _ _ _ _ => rfl) ?_
      refine wR_gr rfl tO_e tO_0 hm_1 ?_
      refine yR_m 1 (fun _ _ _ _ => rfl) ?_
      refine wR_cv rfl rfl rO_e hm_1 rfl (h_owC (T := T) (n := n) (p := q7) (by decide) hm_1 (cRd_sa (by decide) (by decide) (or_1 k5.2 (by omega)).2) (by omega)) ?_
      rintro _ m9 ⟨v11, q12, rfl, hm9, k10⟩
      show yR zpg tX9_takesFolk (d + 4) (72, [(1, .int (gi mem 2 13)), (0, .ref 26)], [.int v11], m9) _
      refine wR_if_eq rfl (a := (v11).toInt) rfl (fun q13 => ?_) (fun q13 => ?_)
      ·
        refine yR_m 1 (fun _ _ _ _ => rfl) ?_
        exact yR_rz rfl ⟨by decide, by decide⟩ (h1 q1 m2 hI2 k3 v6 q7 m4 hm4 k5 q8 v11 q12 m9 hm9 k10 q13 hm9)
      ·
        refine yR_m 2 (fun _ _ _ _ => rfl) ?_
        refine wR_gq rfl tO_e hm9 ((k6_26 (k6_fo k10.1 rfl) (by decide)).trans (zfl_sa.trans ((k6_26 k5.1 (by decide)).trans ((k6_26 (k6_fo k3.1 rfl) (by decide)).trans ht)))) ?_
        refine wR_gL rfl quA_e quA_6 hm9 rfl ?_
        refine wR_cv rfl rfl tO_e hm9 rfl (h_ceCA (wl := False) (T := T) (n := n) (p := q12) (Q := Q) (cQ_hz ((k6_gL (by decide) (k6_fo k10.1 rfl)).trans ((gL_sa).trans ((k6_gL (by decide) k5.1).trans (k6_gL (by decide) (k6_fo k3.1 rfl))))) hQ.2.1) hm9 ((k6_26 (k6_fo k10.1 rfl) (by decide)).trans (zfl_sa.trans ((k6_26 k5.1 (by decide)).trans ((k6_26 (k6_fo k3.1 rfl) (by decide)).trans ht)))) (ow_1 k10 (by omega)).2 hq (by rw [((k6_gi (by decide) (k6_fo k10.1 rfl)).trans ((gi_sa).trans ((k6_gi (by decide) k5.1).trans (k6_gi (by decide) (k6_fo k3.1 rfl)))))]; exact hQ.1.1) (by rw [((k6_gi (by decide) (k6_fo k10.1 rfl)).trans ((gi_sa).trans ((k6_gi (by decide) k5.1).trans (k6_gi (by decide) (k6_fo k3.1 rfl)))))]; exact hQ.1.2) (by omega)) ?_
        rintro _ m14 ⟨v16, q17, rfl, hm14, k15⟩
        show yR zpg tX9_takesFolk (d + 4) (86, [(1, .int (gi mem 2 13)), (0, .ref 26)], [.int v16], m14) _
        refine wR_if_ne rfl (a := (v16).toInt) rfl (fun q18 => ?_) (fun q18 => ?_)
        ·
          refine yR_m 1 (fun _ _ _ _ => rfl) ?_
          refine wR_gq rfl tO_e hm14 ((k6_26 k15.1 (by decide)).trans ((k6_26 (k6_fo k10.1 rfl) (by decide)).trans (zfl_sa.trans ((k6_26 k5.1 (by decide)).trans ((k6_26 (k6_fo k3.1 rfl) (by decide)).trans ht))))) ?_
          refine wR_gr rfl quA_e quA_15 hm14 ?_
          refine yR_m 2 (fun _ _ _ _ => rfl) ?_
          refine wR_gi rfl tO_e tO_3 hm14 rfl ?_
          refine wN_as (a := (gi mem 2 13).toInt) rfl aR_8 hm14 rfl (by omega) ?_
          have hm_2 : aTm aT0 (sx m14 8 (gi mem 2 13) (gi m14 26 3)) := tm_sa aR_8 hm14 (i32_b _)
          refine yR_m 1 (fun _ _ _ _ => rfl) ?_
          refine wR_gr rfl tO_e tO_0 hm_2 ?_
          refine yR_m 1 (fun _ _ _ _ => rfl) ?_
          refine wR_cv rfl rfl rO_e hm_2 rfl (h_owC (T := T) (n := n) (p := q17) (by decide) hm_2 (cRd_sa (by decide) (by decide) (or_1 k15.2 (by omega)).2) (by omega)) ?_
          rintro _ m19 ⟨v21, q22, rfl, hm19, k20⟩
          show yR zpg tX9_takesFolk (d + 4) (113, [(1, .int (gi mem 2 13)), (0, .ref 26)], [.int v21], m19) _
          refine wR_if_eq rfl (a := (v21).toInt) rfl (fun q23 => ?_) (fun q23 => ?_)
          ·
            refine yR_m 1 (fun _ _ _ _ => rfl) ?_
            exact yR_rz rfl ⟨by decide, by decide⟩ (h2 q1 m2 hI2 k3 v6 q7 m4 hm4 k5 q8 v11 q12 m9 hm9 k10 q13 v16 q17 m14 hm14 k15 q18 v21 q22 m19 hm19 k20 q23 hm19)
          ·
            refine yR_m 2 (fun _ _ _ _ => rfl) ?_
            refine wR_gq rfl tO_e hm19 ((k6_26 (k6_fo k20.1 rfl) (by decide)).trans (zfl_sa.trans ((k6_26 k15.1 (by decide)).trans ((k6_26 (k6_fo k10.1 rfl) (by decide)).trans (zfl_sa.trans ((k6_26 k5.1 (by decide)).trans ((k6_26 (k6_fo k3.1 rfl) (by decide)).trans ht))))))) ?_
            refine wR_gL rfl quA_e quA_6 hm19 rfl ?_
            refine wR_cv rfl rfl tO_e hm19 rfl (h_ceCA (wl := False) (T := T) (n := n) (p := q22) (Q := Q) (cQ_hz ((k6_gL (by decide) (k6_fo k20.1 rfl)).trans ((gL_sa).trans ((k6_gL (by decide) k15.1).trans ((k6_gL (by decide) (k6_fo k10.1 rfl)).trans ((gL_sa).trans ((k6_gL (by decide) k5.1).trans (k6_gL (by decide) (k6_fo k3.1 rfl)))))))) hQ.2.1) hm19 ((k6_26 (k6_fo k20.1 rfl) (by decide)).trans (zfl_sa.trans ((k6_26 k15.1 (by decide)).trans ((k6_26 (k6_fo k10.1 rfl) (by decide)).trans (zfl_sa.trans ((k6_26 k5.1 (by decide)).trans ((k6_26 (k6_fo k3.1 rfl) (by decide)).trans ht))))))) (ow_1 k20 (by omega)).2 hq (by rw [((k6_gi (by decide) (k6_fo k20.1 rfl)).trans ((gi_sa).trans ((k6_gi (by decide) k15.1).trans ((k6_gi (by decide) (k6_fo k10.1 rfl)).trans ((gi_sa).trans ((k6_gi (by decide) k5.1).trans (k6_gi (by decide) (k6_fo k3.1 rfl))))))))]; exact hQ.1.1) (by rw [((k6_gi (by decide) (k6_fo k20.1 rfl)).trans ((gi_sa).trans ((k6_gi (by decide) k15.1).trans ((k6_gi (by decide) (k6_fo k10.1 rfl)).trans ((gi_sa).trans ((k6_gi (by decide) k5.1).trans (k6_gi (by decide) (k6_fo k3.1 rfl))))))))]; exact hQ.1.2) (by omega)) ?_
            rintro _ m24 ⟨v26, q27, rfl, hm24, k25⟩
            show yR zpg tX9_takesFolk (d + 4) (127, [(1, .int (gi mem 2 13)), (0, .ref 26)], [.int v26], m24) _
            refine wR_if_ne rfl (a := (v26).toInt) rfl (fun q28 => ?_) (fun q28 => ?_)
            ·
              refine yR_m 1 (fun _ _ _ _ => rfl) ?_
              refine wR_gq rfl tO_e hm24 ((k6_26 k25.1 (by decide)).trans ((k6_26 (k6_fo k20.1 rfl) (by decide)).trans (zfl_sa.trans ((k6_26 k15.1 (by decide)).trans ((k6_26 (k6_fo k10.1 rfl) (by decide)).trans (zfl_sa.trans ((k6_26 k5.1 (by decide)).trans ((k6_26 (k6_fo k3.1 rfl) (by decide)).trans ht)))))))) ?_
              refine wR_gr rfl quA_e quA_16 hm24 ?_
              refine yR_m 2 (fun _ _ _ _ => rfl) ?_
              refine wR_gi rfl tO_e tO_3 hm24 rfl ?_
              refine wN_as (a := (gi mem 2 13).toInt) rfl aR_9 hm24 rfl (by omega) ?_
              have hm_3 : aTm aT0 (sx m24 9 (gi mem 2 13) (gi m24 26 3)) := tm_sa aR_9 hm24 (i32_b _)
              refine yR_m 1 (fun _ _ _ _ => rfl) ?_
              refine wR_gq rfl tO_e hm_3 (zfl_sa.trans ((k6_26 k25.1 (by decide)).trans ((k6_26 (k6_fo k20.1 rfl) (by decide)).trans (zfl_sa.trans ((k6_26 k15.1 (by decide)).trans ((k6_26 (k6_fo k10.1 rfl) (by decide)).trans (zfl_sa.trans ((k6_26 k5.1 (by decide)).trans ((k6_26 (k6_fo k3.1 rfl) (by decide)).trans ht))))))))) ?_
              refine yR_m 2 (fun _ _ _ _ => rfl) ?_
              refine wN_add (a := (gi mem 2 13).toInt) (b := 1) rfl rfl rfl (by omega) (fun x29 e30 => ?_)
              refine wR_pi rfl quA_e quA_13 hm_3 rfl ?_
              have hm_4 : aTm aT0 (si (sx m24 9 (gi mem 2 13) (gi m24 26 3)) 2 13 x29) := tm_si quA_e quA_13 hm_3 (by rw [e30]; exact (by omega))
              refine yR_m 1 (fun _ _ _ _ => rfl) ?_
              exact yR_rz rfl ⟨by decide, by decide⟩ (h3 q1 m2 hI2 k3 v6 q7 m4 hm4 k5 q8 v11 q12 m9 hm9 k10 q13 v16 q17 m14 hm14 k15 q18 v21 q22 m19 hm19 k20 q23 v26 q27 m24 hm24 k25 q28 x29 e30 hm_4)
            ·
              refine yR_m 1 (fun _ _ _ _ => rfl) ?_
              exact yR_rz rfl ⟨by decide, by decide⟩ (h4 q1 m2 hI2 k3 v6 q7 m4 hm4 k5 q8 v11 q12 m9 hm9 k10 q13 v16 q17 m14 hm14 k15 q18 v21 q22 m19 hm19 k20 q23 v26 q27 m24 hm24 k25 q28 hm24)
        ·
          refine yR_m 1 (fun _ _ _ _ => rfl) ?_
          exact yR_rz rfl ⟨by decide, by decide⟩ (h5 q1 m2 hI2 k3 v6 q7 m4 hm4 k5 q8 v11 q12 m9 hm9 k10 q13 v16 q17 m14 hm14 k15 q18 hm14)
    ·
      refine yR_m 1 (fun _ _ _ _ => rfl) ?_
      exact yR_rz rfl ⟨by decide, by decide⟩ (h6 q1 m2 hI2 k3 v6 q7 m4 hm4 k5 q8 hm4)
  ·
    refine yR_m 1 (fun _ _ _ _ => rfl) ?_
    refine wR_gr rfl tO_e tO_0 hm ?_
    refine yR_m 2 (fun _ _ _ _ => rfl) ?_
    refine wR_gr rfl tO_e tO_0 hm ?_
    refine wR_gi rfl rO_e rO_6 hm rfl ?_
    refine wR_iv rfl rfl rO_e hm rfl rfl rfl rfl ?_
    show yR zpg tX5_faults (d + 3) (0, [(0, .ref 27), (1, .int 6), (2, .int (gi mem 27 6))], [], mem) _
    refine yR_m 2 (fun _ _ _ _ => rfl) ?_
    refine wR_pi rfl rO_e rO_10 hm rfl ?_
    have hm_5 : aTm aT0 (si mem 27 10 6) := tm_si rO_e rO_10 hm (i32_b _)
    refine yR_m 2 (fun _ _ _ _ => rfl) ?_
    refine wR_pi rfl rO_e rO_11 hm_5 rfl ?_
    have hm_6 : aTm aT0 (si (si mem 27 10 6) 27 11 (gi mem 27 6)) := tm_si rO_e rO_11 hm_5 (i32_b _)
    refine yR_m 1 (fun _ _ _ _ => rfl) ?_
    refine yR_rz rfl ⟨by decide, by decide⟩ ?_
    show yR zpg tX9_takesFolk (d + 4) (30, [(1, .int (gi mem 2 13)), (0, .ref 26)], [.int 0], (si (si mem 27 10 6) 27 11 (gi mem 27 6))) _
    exact yR_rz rfl ⟨by decide, by decide⟩ (h7 q1 hm_6)

theorem h_laCA (hm : aTm aT0 mem) (ht : zfl mem 26 2 = some (.ref 2)) (hR : cRd T n p mem) (h4 : ¬ (tkf T n p).1.1 = 4) (hq : hqQ Q) (hQ : cQ 2 3 4 7 8 9 12 13 Q mem) (hs : (gi mem 10 3).toInt ≤ p) (hd : 5 ≤ d) : yC zpg d 92 [.ref 26] mem (fun a m => ∃ (v : Int32) (q : Int), a = some (.int v) ∧ aTm aT0 m ∧ stCA T n mem (oif ((Qt Q).length < 9) (sLac T n Q (tkf T n p).2)) v.toInt q m) := by
  obtain ⟨d, rfl⟩ : ∃ q, d = q + 5 := ⟨d - 5, by omega⟩
  refine yC_of (t := tX9_takesLack) rfl rfl ?_
  exact w_laA (T := T) (n := n) (p := p) (Q := Q) hm ht hR h4 hq hQ
        (fun q1 m2 hI2 k3 v6 q7 m4 hm4 k5 q8 v11 q12 m9 hm9 k10 q13 hm2 => by
          have q7 := hQ.2.2.1.1
          have r9 := quA_r7 hm
          obtain ⟨l, n1, n2, n3⟩ := (or_1 k5.2 (by omega)).1
          exact ⟨_, p, rfl, hm2, ⟨((k6_26 (k6_fo k10.1 rfl) (by decide)).trans (zfl_sa.trans ((k6_26 k5.1 (by decide)).trans ((k6_26 (k6_fo k3.1 rfl) (by decide)).trans ht)))), ((k6_gi (by decide) (k6_fo k10.1 rfl)).trans ((gi_sa).trans ((k6_gi (by decide) k5.1).trans (k6_gi (by decide) (k6_fo k3.1 rfl))))), ((zo_k6 (k6_fo k10.1 rfl)).trans ((zo_sa (by decide)).trans ((zo_k6 k5.1).trans (zo_k6 (k6_fo k3.1 rfl)))))⟩, Or.inr (Or.inl ⟨rfl, (oif_t (by omega)).trans ((ob_1 n1).trans (ob_0 (ow_0 k10 (by omega))))⟩)⟩)
        (fun q1 m2 hI2 k3 v6 q7 m4 hm4 k5 q8 v11 q12 m9 hm9 k10 q13 v16 q17 m14 hm14 k15 q18 v21 q22 m19 hm19 k20 q23 hm2 => by
          have q7 := hQ.2.2.1.1
          have r9 := quA_r7 hm
          obtain ⟨l, n1, n2, n3⟩ := (or_1 k5.2 (by omega)).1
          exact ⟨_, p, rfl, hm2, ⟨((k6_26 (k6_fo k20.1 rfl) (by decide)).trans (zfl_sa.trans ((k6_26 k15.1 (by decide)).trans ((k6_26 (k6_fo k10.1 rfl) (by decide)).trans (zfl_sa.trans ((k6_26 k5.1 (by decide)).trans ((k6_26 (k6_fo k3.1 rfl) (by decide)).trans ht))))))), ((k6_gi (by decide) (k6_fo k20.1 rfl)).trans ((gi_sa).trans ((k6_gi (by decide) k15.1).trans ((k6_gi (by decide) (k6_fo k10.1 rfl)).trans ((gi_sa).trans ((k6_gi (by decide) k5.1).trans (k6_gi (by decide) (k6_fo k3.1 rfl)))))))), ((zo_k6 (k6_fo k20.1 rfl)).trans ((zo_sa (by decide)).trans ((zo_k6 k15.1).trans ((zo_k6 (k6_fo k10.1 rfl)).trans ((zo_sa (by decide)).trans ((zo_k6 k5.1).trans (zo_k6 (k6_fo k3.1 rfl))))))))⟩, Or.inr (Or.inl ⟨rfl, (oif_t (by omega)).trans ((ob_1 n1).trans ((ob_1 (ow_1 k10 (by omega)).1).trans ((ob_1 (or_1 k15.2 (by omega)).1.1).trans (ob_0 (ow_0 k20 (by omega))))))⟩)⟩)
        (fun q1 m2 hI2 k3 v6 q7 m4 hm4 k5 q8 v11 q12 m9 hm9 k10 q13 v16 q17 m14 hm14 k15 q18 v21 q22 m19 hm19 k20 q23 v26 q27 m24 hm24 k25 q28 v31 q32 m29 hm29 k30 q33 hm2 => by
          have q7 := hQ.2.2.1.1
          have r9 := quA_r7 hm
          obtain ⟨l, n1, n2, n3⟩ := (or_1 k5.2 (by omega)).1
          exact ⟨_, p, rfl, hm2, ⟨((k6_26 (k6_fo k30.1 rfl) (by decide)).trans (zfl_sa.trans ((k6_26 (k6_fo k25.1 rfl) (by decide)).trans ((k6_26 (k6_fo k20.1 rfl) (by decide)).trans (zfl_sa.trans ((k6_26 k15.1 (by decide)).trans ((k6_26 (k6_fo k10.1 rfl) (by decide)).trans (zfl_sa.trans ((k6_26 k5.1 (by decide)).trans ((k6_26 (k6_fo k3.1 rfl) (by decide)).trans ht)))))))))), ((k6_gi (by decide) (k6_fo k30.1 rfl)).trans ((gi_sa).trans ((k6_gi (by decide) (k6_fo k25.1 rfl)).trans ((k6_gi (by decide) (k6_fo k20.1 rfl)).trans ((gi_sa).trans ((k6_gi (by decide) k15.1).trans ((k6_gi (by decide) (k6_fo k10.1 rfl)).trans ((gi_sa).trans ((k6_gi (by decide) k5.1).trans (k6_gi (by decide) (k6_fo k3.1 rfl))))))))))), ((zo_k6 (k6_fo k30.1 rfl)).trans ((zo_sa (by decide)).trans ((zo_k6 (k6_fo k25.1 rfl)).trans ((zo_k6 (k6_fo k20.1 rfl)).trans ((zo_sa (by decide)).trans ((zo_k6 k15.1).trans ((zo_k6 (k6_fo k10.1 rfl)).trans ((zo_sa (by decide)).trans ((zo_k6 k5.1).trans (zo_k6 (k6_fo k3.1 rfl)))))))))))⟩, Or.inr (Or.inl ⟨rfl, (oif_t (by omega)).trans ((ob_1 n1).trans ((ob_1 (ow_1 k10 (by omega)).1).trans ((ob_1 (or_1 k15.2 (by omega)).1.1).trans ((ob_1 (ow_1 k20 (by omega)).1).trans ((ob_1 (nu_1 k25 (by omega)).1.1).trans (ob_0 (ow_0 k30 (by omega))))))))⟩)⟩)
        (fun q1 m2 hI2 k3 v6 q7 m4 hm4 k5 q8 v11 q12 m9 hm9 k10 q13 v16 q17 m14 hm14 k15 q18 v21 q22 m19 hm19 k20 q23 v26 q27 m24 hm24 k25 q28 v31 q32 m29 hm29 k30 q33 v36 q37 m34 hm34 k35 q38 => by
          have q7 := hQ.2.2.1.1
          have r9 := quA_r7 hm
          have r8 := quA_r12 hm34
          exact or_rg (t := 1) r8.1 r8.2 (by decide) (by decide) (by omega) (by omega))
        (fun q1 m2 hI2 k3 v6 q7 m4 hm4 k5 q8 v11 q12 m9 hm9 k10 q13 v16 q17 m14 hm14 k15 q18 v21 q22 m19 hm19 k20 q23 v26 q27 m24 hm24 k25 q28 v31 q32 m29 hm29 k30 q33 v36 q37 m34 hm34 k35 q38 x39 e40 hm2 => by
          have q7 := hQ.2.2.1.1
          have r9 := quA_r7 hm
          obtain ⟨l, n1, n2, n3⟩ := (or_1 k5.2 (by omega)).1
          have y0 := (tk_le hR).1
          have z1 := p_nnH k3.2 k5 (by omega)
          have z2 := p_owH (cRd_sa (by decide) (by decide) (or_1 k5.2 (by omega)).2) k10 (by omega)
          have z3 := p_ceH (ow_1 k10 (by omega)).2 k15 (by omega)
          have z4 := p_owH (cRd_sa (by decide) (by decide) (or_1 k15.2 (by omega)).2) k20 (by omega)
          have z5 := p_nuH (ow_1 k20 (by omega)).2 k25 (by omega)
          have z6 := p_owH (cRd_sa (by decide) (by decide) (nu_1 k25 (by omega)).2) k30 (by omega)
          have z7 := p_nuH (ow_1 k30 (by omega)).2 k35 (by omega)
          exact ⟨_, _, rfl, hm2, ⟨((zfl_sv_ne (by decide)).trans ((zfl_sv_ne (by decide)).trans (zfl_sa.trans ((k6_26 (k6_fo k35.1 rfl) (by decide)).trans ((k6_26 (k6_fo k30.1 rfl) (by decide)).trans (zfl_sa.trans ((k6_26 (k6_fo k25.1 rfl) (by decide)).trans ((k6_26 (k6_fo k20.1 rfl) (by decide)).trans (zfl_sa.trans ((k6_26 k15.1 (by decide)).trans ((k6_26 (k6_fo k10.1 rfl) (by decide)).trans (zfl_sa.trans ((k6_26 k5.1 (by decide)).trans ((k6_26 (k6_fo k3.1 rfl) (by decide)).trans ht)))))))))))))), ((gi_sv_ne (by decide)).trans ((gi_sv_ne (by decide)).trans ((gi_sa).trans ((k6_gi (by decide) (k6_fo k35.1 rfl)).trans ((k6_gi (by decide) (k6_fo k30.1 rfl)).trans ((gi_sa).trans ((k6_gi (by decide) (k6_fo k25.1 rfl)).trans ((k6_gi (by decide) (k6_fo k20.1 rfl)).trans ((gi_sa).trans ((k6_gi (by decide) k15.1).trans ((k6_gi (by decide) (k6_fo k10.1 rfl)).trans ((gi_sa).trans ((k6_gi (by decide) k5.1).trans (k6_gi (by decide) (k6_fo k3.1 rfl))))))))))))))), ((zo_sv (by decide)).trans ((zo_sv (by decide)).trans ((zo_sa (by decide)).trans ((zo_k6 (k6_fo k35.1 rfl)).trans ((zo_k6 (k6_fo k30.1 rfl)).trans ((zo_sa (by decide)).trans ((zo_k6 (k6_fo k25.1 rfl)).trans ((zo_k6 (k6_fo k20.1 rfl)).trans ((zo_sa (by decide)).trans ((zo_k6 k15.1).trans ((zo_k6 (k6_fo k10.1 rfl)).trans ((zo_sa (by decide)).trans ((zo_k6 k5.1).trans (zo_k6 (k6_fo k3.1 rfl)))))))))))))))⟩, Or.inl ⟨rfl, ⟨_, (oif_t (by omega)).trans ((ob_1 n1).trans ((ob_1 (ow_1 k10 (by omega)).1).trans ((ob_1 (or_1 k15.2 (by omega)).1.1).trans ((ob_1 (ow_1 k20 (by omega)).1).trans ((ob_1 (nu_1 k25 (by omega)).1.1).trans ((ob_1 (ow_1 k30 (by omega)).1).trans (om_1 (nu_1 k35 (by omega)).1.1))))))), cQ_lacA hm hQ ((gi_sv_ne (by decide)).trans ((gi_sv_ne (by decide)).trans ((gi_sa).trans ((k6_gi (by decide) (k6_fo k35.1 rfl)).trans ((k6_gi (by decide) (k6_fo k30.1 rfl)).trans ((gi_sa).trans ((k6_gi (by decide) (k6_fo k25.1 rfl)).trans ((k6_gi (by decide) (k6_fo k20.1 rfl)).trans ((gi_sa).trans ((k6_gi (by decide) k15.1).trans ((k6_gi (by decide) (k6_fo k10.1 rfl)).trans ((gi_sa).trans ((k6_gi (by decide) k5.1).trans (k6_gi (by decide) (k6_fo k3.1 rfl))))))))))))))) ((gi_sv_ne (by decide)).trans ((gi_sv_ne (by decide)).trans ((gi_sa).trans ((k6_gi (by decide) (k6_fo k35.1 rfl)).trans ((k6_gi (by decide) (k6_fo k30.1 rfl)).trans ((gi_sa).trans ((k6_gi (by decide) (k6_fo k25.1 rfl)).trans ((k6_gi (by decide) (k6_fo k20.1 rfl)).trans ((gi_sa).trans ((k6_gi (by decide) k15.1).trans ((k6_gi (by decide) (k6_fo k10.1 rfl)).trans ((gi_sa).trans ((k6_gi (by decide) k5.1).trans (k6_gi (by decide) (k6_fo k3.1 rfl))))))))))))))) ((gL_sv_ne (by decide)).trans ((gL_sv_ne (by decide)).trans ((gL_sa).trans ((k6_gL (by decide) (k6_fo k35.1 rfl)).trans ((k6_gL (by decide) (k6_fo k30.1 rfl)).trans ((gL_sa).trans ((k6_gL (by decide) (k6_fo k25.1 rfl)).trans ((k6_gL (by decide) (k6_fo k20.1 rfl)).trans ((gL_sa).trans ((k6_gL (by decide) k15.1).trans ((k6_gL (by decide) (k6_fo k10.1 rfl)).trans ((gL_sa).trans ((k6_gL (by decide) k5.1).trans (k6_gL (by decide) (k6_fo k3.1 rfl))))))))))))))) ((gi_sv_ne (by decide)).trans ((gi_sv_ne (by decide)).trans ((gi_sa).trans ((k6_gi (by decide) (k6_fo k35.1 rfl)).trans ((k6_gi (by decide) (k6_fo k30.1 rfl)).trans ((gi_sa).trans ((k6_gi (by decide) (k6_fo k25.1 rfl)).trans ((k6_gi (by decide) (k6_fo k20.1 rfl)).trans ((gi_sa).trans ((k6_gi (by decide) k15.1).trans ((k6_gi (by decide) (k6_fo k10.1 rfl)).trans ((gi_sa).trans ((k6_gi (by decide) k5.1).trans (k6_gi (by decide) (k6_fo k3.1 rfl))))))))))))))) ((ga_sv).trans ((ga_sv).trans ((ga_sa_ne (by decide)).trans ((k6_ga (by decide) (k6_fo k35.1 rfl)).trans ((k6_ga (by decide) (k6_fo k30.1 rfl)).trans ((ga_sa_ne (by decide)).trans ((k6_ga (by decide) (k6_fo k25.1 rfl)).trans ((k6_ga (by decide) (k6_fo k20.1 rfl)).trans ((ga_sa_ne (by decide)).trans ((k6_ga (by decide) k15.1).trans ((k6_ga (by decide) (k6_fo k10.1 rfl)).trans ((ga_sa_ne (by decide)).trans ((k6_ga (by decide) k5.1).trans (k6_ga (by decide) (k6_fo k3.1 rfl))))))))))))))) ((ga_sv).trans ((ga_sv).trans ((ga_sa_ne (by decide)).trans ((k6_ga (by decide) (k6_fo k35.1 rfl)).trans ((k6_ga (by decide) (k6_fo k30.1 rfl)).trans ((ga_sa_ne (by decide)).trans ((k6_ga (by decide) (k6_fo k25.1 rfl)).trans ((k6_ga (by decide) (k6_fo k20.1 rfl)).trans ((ga_sa_ne (by decide)).trans ((k6_ga (by decide) k15.1).trans ((k6_ga (by decide) (k6_fo k10.1 rfl)).trans ((ga_sa_ne (by decide)).trans ((k6_ga (by decide) k5.1).trans (k6_ga (by decide) (k6_fo k3.1 rfl))))))))))))))) ((ga_sv).trans ((ga_sv).trans ((ga_sa_ne (by decide)).trans ((k6_ga (by decide) (k6_fo k35.1 rfl)).trans ((k6_ga (by decide) (k6_fo k30.1 rfl)).trans ((ga_sa_ne (by decide)).trans ((k6_ga (by decide) (k6_fo k25.1 rfl)).trans ((k6_ga (by decide) (k6_fo k20.1 rfl)).trans ((ga_sa_ne (by decide)).trans ((k6_ga (by decide) k15.1).trans ((k6_ga (by decide) (k6_fo k10.1 rfl)).trans ((ga_sa_ne (by decide)).trans ((k6_ga (by decide) k5.1).trans (k6_ga (by decide) (k6_fo k3.1 rfl))))))))))))))) ((ga_sv).trans ((ga_sv).trans ((ga_sa_ne (by decide)).trans ((k6_ga (by decide) (k6_fo k35.1 rfl)).trans ((k6_ga (by decide) (k6_fo k30.1 rfl)).trans ((ga_sa_ne (by decide)).trans ((k6_ga (by decide) (k6_fo k25.1 rfl)).trans ((k6_ga (by decide) (k6_fo k20.1 rfl)).trans ((ga_sa_ne (by decide)).trans ((k6_ga (by decide) k15.1).trans ((k6_ga (by decide) (k6_fo k10.1 rfl)).trans ((ga_sa_ne (by decide)).trans ((k6_ga (by decide) k5.1).trans (k6_ga (by decide) (k6_fo k3.1 rfl))))))))))))))) ((ga_sv).trans ((ga_sv).trans ((ga_sa_ne (by decide)).trans ((k6_ga (by decide) (k6_fo k35.1 rfl)).trans ((k6_ga (by decide) (k6_fo k30.1 rfl)).trans ((ga_sa_ne (by decide)).trans ((k6_ga (by decide) (k6_fo k25.1 rfl)).trans ((k6_ga (by decide) (k6_fo k20.1 rfl)).trans ((ga_sa_ne (by decide)).trans ((k6_ga (by decide) k15.1).trans ((k6_ga (by decide) (k6_fo k10.1 rfl)).trans ((ga_sa_ne (by decide)).trans ((k6_ga (by decide) k5.1).trans (k6_ga (by decide) (k6_fo k3.1 rfl))))))))))))))) ((gi_sv_ne (by decide)).trans (gi_eqQ (isQ_sa (by decide) (isQ_of quA_e hm34)) quA_12)) ((k6_gi (by decide) (k6_fo k35.1 rfl)).trans ((k6_gi (by decide) (k6_fo k30.1 rfl)).trans ((gi_sa).trans ((k6_gi (by decide) (k6_fo k25.1 rfl)).trans ((k6_gi (by decide) (k6_fo k20.1 rfl)).trans ((gi_sa).trans ((k6_gi (by decide) k15.1).trans ((k6_gi (by decide) (k6_fo k10.1 rfl)).trans ((gi_sa).trans ((k6_gi (by decide) k5.1).trans (k6_gi (by decide) (k6_fo k3.1 rfl)))))))))))) ((ga_sv).trans ((ga_sv).trans ((ga_sa_ne (by decide)).trans ((k6_ga (by decide) (k6_fo k35.1 rfl)).trans ((k6_ga (by decide) (k6_fo k30.1 rfl)).trans ((ga_sa_ne (by decide)).trans ((k6_ga (by decide) (k6_fo k25.1 rfl)).trans ((k6_ga (by decide) (k6_fo k20.1 rfl)).trans ((ga_sa_ne (by decide)).trans ((k6_ga (by decide) k15.1).trans ((k6_ga (by decide) (k6_fo k10.1 rfl)).trans (ga_sa_eq.trans (congrArg (fun l => List.set l (gi mem 2 7).toNatClampNeg (gi m4 27 8)) ((k6_ga (by decide) k5.1).trans (k6_ga (by decide) (k6_fo k3.1 rfl)))))))))))))))) ((ga_sv).trans ((ga_sv).trans ((ga_sa_ne (by decide)).trans ((k6_ga (by decide) (k6_fo k35.1 rfl)).trans ((k6_ga (by decide) (k6_fo k30.1 rfl)).trans ((ga_sa_ne (by decide)).trans ((k6_ga (by decide) (k6_fo k25.1 rfl)).trans ((k6_ga (by decide) (k6_fo k20.1 rfl)).trans (ga_sa_eq.trans (congrArg (fun l => List.set l (gi mem 2 7).toNatClampNeg (gi m14 26 3)) ((k6_ga (by decide) k15.1).trans ((k6_ga (by decide) (k6_fo k10.1 rfl)).trans ((ga_sa_ne (by decide)).trans ((k6_ga (by decide) k5.1).trans (k6_ga (by decide) (k6_fo k3.1 rfl)))))))))))))))) (gi_eqQ (isQ_sv (isQ_sa (by decide) (isQ_of quA_e hm34))) quA_7) (by omega) n2 n3 (or_1 k15.2 (by omega)).1.2 (by omega) ((gi_sv_ne (by decide)).trans ((gi_sv_ne (by decide)).trans ((gi_sa).trans ((k6_gi (by decide) (k6_fo k35.1 rfl)).trans ((k6_gi (by decide) (k6_fo k30.1 rfl)).trans ((gi_sa).trans ((k6_gi (by decide) (k6_fo k25.1 rfl)).trans ((k6_gi (by decide) (k6_fo k20.1 rfl)).trans ((gi_sa).trans ((k6_gi (by decide) k15.1).trans ((k6_gi (by decide) (k6_fo k10.1 rfl)).trans ((gi_sa).trans ((k6_gi (by decide) k5.1).trans (k6_gi (by decide) (k6_fo k3.1 rfl))))))))))))))) ((gi_sv_ne (by decide)).trans ((gi_sv_ne (by decide)).trans ((gi_sa).trans ((k6_gi (by decide) (k6_fo k35.1 rfl)).trans ((k6_gi (by decide) (k6_fo k30.1 rfl)).trans ((gi_sa).trans ((k6_gi (by decide) (k6_fo k25.1 rfl)).trans ((k6_gi (by decide) (k6_fo k20.1 rfl)).trans ((gi_sa).trans ((k6_gi (by decide) k15.1).trans ((k6_gi (by decide) (k6_fo k10.1 rfl)).trans ((gi_sa).trans ((k6_gi (by decide) k5.1).trans (k6_gi (by decide) (k6_fo k3.1 rfl))))))))))))))) ((gL_sv_ne (by decide)).trans ((gL_sv_ne (by decide)).trans ((gL_sa).trans ((k6_gL (by decide) (k6_fo k35.1 rfl)).trans ((k6_gL (by decide) (k6_fo k30.1 rfl)).trans ((gL_sa).trans ((k6_gL (by decide) (k6_fo k25.1 rfl)).trans ((k6_gL (by decide) (k6_fo k20.1 rfl)).trans ((gL_sa).trans ((k6_gL (by decide) k15.1).trans ((k6_gL (by decide) (k6_fo k10.1 rfl)).trans ((gL_sa).trans ((k6_gL (by decide) k5.1).trans (k6_gL (by decide) (k6_fo k3.1 rfl))))))))))))))) ((ga_sv).trans ((ga_sv).trans ((ga_sa_ne (by decide)).trans ((k6_ga (by decide) (k6_fo k35.1 rfl)).trans ((k6_ga (by decide) (k6_fo k30.1 rfl)).trans (ga_sa_eq.trans (congrArg (fun l => List.set l (gi mem 2 7).toNatClampNeg (gi m24 27 8)) ((k6_ga (by decide) (k6_fo k25.1 rfl)).trans ((k6_ga (by decide) (k6_fo k20.1 rfl)).trans ((ga_sa_ne (by decide)).trans ((k6_ga (by decide) k15.1).trans ((k6_ga (by decide) (k6_fo k10.1 rfl)).trans ((ga_sa_ne (by decide)).trans ((k6_ga (by decide) k5.1).trans (k6_ga (by decide) (k6_fo k3.1 rfl)))))))))))))))) ((ga_sv).trans ((ga_sv).trans (ga_sa_eq.trans (congrArg (fun l => List.set l (gi mem 2 7).toNatClampNeg (gi m34 27 8)) ((k6_ga (by decide) (k6_fo k35.1 rfl)).trans ((k6_ga (by decide) (k6_fo k30.1 rfl)).trans ((ga_sa_ne (by decide)).trans ((k6_ga (by decide) (k6_fo k25.1 rfl)).trans ((k6_ga (by decide) (k6_fo k20.1 rfl)).trans ((ga_sa_ne (by decide)).trans ((k6_ga (by decide) k15.1).trans ((k6_ga (by decide) (k6_fo k10.1 rfl)).trans ((ga_sa_ne (by decide)).trans ((k6_ga (by decide) k5.1).trans (k6_ga (by decide) (k6_fo k3.1 rfl)))))))))))))))) ((ga_sv).trans ((ga_sv).trans ((ga_sa_ne (by decide)).trans ((k6_ga (by decide) (k6_fo k35.1 rfl)).trans ((k6_ga (by decide) (k6_fo k30.1 rfl)).trans ((ga_sa_ne (by decide)).trans ((k6_ga (by decide) (k6_fo k25.1 rfl)).trans ((k6_ga (by decide) (k6_fo k20.1 rfl)).trans ((ga_sa_ne (by decide)).trans ((k6_ga (by decide) k15.1).trans ((k6_ga (by decide) (k6_fo k10.1 rfl)).trans ((ga_sa_ne (by decide)).trans ((k6_ga (by decide) k5.1).trans (k6_ga (by decide) (k6_fo k3.1 rfl))))))))))))))) ((gi_sv_ne (by decide)).trans ((gi_sv_ne (by decide)).trans ((gi_sa).trans ((k6_gi (by decide) (k6_fo k35.1 rfl)).trans ((k6_gi (by decide) (k6_fo k30.1 rfl)).trans ((gi_sa).trans ((k6_gi (by decide) (k6_fo k25.1 rfl)).trans ((k6_gi (by decide) (k6_fo k20.1 rfl)).trans ((gi_sa).trans ((k6_gi (by decide) k15.1).trans ((k6_gi (by decide) (k6_fo k10.1 rfl)).trans ((gi_sa).trans ((k6_gi (by decide) k5.1).trans (k6_gi (by decide) (k6_fo k3.1 rfl)))))))))))))))⟩, (cRd_sv (by decide) (cRd_sv (by decide) (cRd_sa (by decide) (by decide) (nu_1 k35 (by omega)).2))), by rw [((gi_sv_ne (by decide)).trans ((gi_sv_ne (by decide)).trans ((gi_sa).trans ((k6_gi (by decide) (k6_fo k35.1 rfl)).trans ((k6_gi (by decide) (k6_fo k30.1 rfl)).trans ((gi_sa).trans ((k6_gi (by decide) (k6_fo k25.1 rfl)).trans ((k6_gi (by decide) (k6_fo k20.1 rfl)).trans ((gi_sa).trans ((k6_gi (by decide) k15.1).trans ((k6_gi (by decide) (k6_fo k10.1 rfl)).trans ((gi_sa).trans ((k6_gi (by decide) k5.1).trans (k6_gi (by decide) (k6_fo k3.1 rfl)))))))))))))))]; omega⟩⟩)
        (fun q1 m2 hI2 k3 v6 q7 m4 hm4 k5 q8 v11 q12 m9 hm9 k10 q13 v16 q17 m14 hm14 k15 q18 v21 q22 m19 hm19 k20 q23 v26 q27 m24 hm24 k25 q28 v31 q32 m29 hm29 k30 q33 v36 q37 m34 hm34 k35 q38 hm2 => by
          have q7 := hQ.2.2.1.1
          have r9 := quA_r7 hm
          obtain ⟨l, n1, n2, n3⟩ := (or_1 k5.2 (by omega)).1
          exact ⟨_, p, rfl, hm2, ⟨((k6_26 (k6_fo k35.1 rfl) (by decide)).trans ((k6_26 (k6_fo k30.1 rfl) (by decide)).trans (zfl_sa.trans ((k6_26 (k6_fo k25.1 rfl) (by decide)).trans ((k6_26 (k6_fo k20.1 rfl) (by decide)).trans (zfl_sa.trans ((k6_26 k15.1 (by decide)).trans ((k6_26 (k6_fo k10.1 rfl) (by decide)).trans (zfl_sa.trans ((k6_26 k5.1 (by decide)).trans ((k6_26 (k6_fo k3.1 rfl) (by decide)).trans ht))))))))))), ((k6_gi (by decide) (k6_fo k35.1 rfl)).trans ((k6_gi (by decide) (k6_fo k30.1 rfl)).trans ((gi_sa).trans ((k6_gi (by decide) (k6_fo k25.1 rfl)).trans ((k6_gi (by decide) (k6_fo k20.1 rfl)).trans ((gi_sa).trans ((k6_gi (by decide) k15.1).trans ((k6_gi (by decide) (k6_fo k10.1 rfl)).trans ((gi_sa).trans ((k6_gi (by decide) k5.1).trans (k6_gi (by decide) (k6_fo k3.1 rfl)))))))))))), ((zo_k6 (k6_fo k35.1 rfl)).trans ((zo_k6 (k6_fo k30.1 rfl)).trans ((zo_sa (by decide)).trans ((zo_k6 (k6_fo k25.1 rfl)).trans ((zo_k6 (k6_fo k20.1 rfl)).trans ((zo_sa (by decide)).trans ((zo_k6 k15.1).trans ((zo_k6 (k6_fo k10.1 rfl)).trans ((zo_sa (by decide)).trans ((zo_k6 k5.1).trans (zo_k6 (k6_fo k3.1 rfl))))))))))))⟩, Or.inr (Or.inl ⟨rfl, (oif_t (by omega)).trans ((ob_1 n1).trans ((ob_1 (ow_1 k10 (by omega)).1).trans ((ob_1 (or_1 k15.2 (by omega)).1.1).trans ((ob_1 (ow_1 k20 (by omega)).1).trans ((ob_1 (nu_1 k25 (by omega)).1.1).trans ((ob_1 (ow_1 k30 (by omega)).1).trans (om_0 (nu_0 k35 (by omega)))))))))⟩)⟩)
        (fun q1 m2 hI2 k3 v6 q7 m4 hm4 k5 q8 v11 q12 m9 hm9 k10 q13 v16 q17 m14 hm14 k15 q18 v21 q22 m19 hm19 k20 q23 v26 q27 m24 hm24 k25 q28 hm2 => by
          have q7 := hQ.2.2.1.1
          have r9 := quA_r7 hm
          obtain ⟨l, n1, n2, n3⟩ := (or_1 k5.2 (by omega)).1
          exact ⟨_, p, rfl, hm2, ⟨((k6_26 (k6_fo k25.1 rfl) (by decide)).trans ((k6_26 (k6_fo k20.1 rfl) (by decide)).trans (zfl_sa.trans ((k6_26 k15.1 (by decide)).trans ((k6_26 (k6_fo k10.1 rfl) (by decide)).trans (zfl_sa.trans ((k6_26 k5.1 (by decide)).trans ((k6_26 (k6_fo k3.1 rfl) (by decide)).trans ht)))))))), ((k6_gi (by decide) (k6_fo k25.1 rfl)).trans ((k6_gi (by decide) (k6_fo k20.1 rfl)).trans ((gi_sa).trans ((k6_gi (by decide) k15.1).trans ((k6_gi (by decide) (k6_fo k10.1 rfl)).trans ((gi_sa).trans ((k6_gi (by decide) k5.1).trans (k6_gi (by decide) (k6_fo k3.1 rfl))))))))), ((zo_k6 (k6_fo k25.1 rfl)).trans ((zo_k6 (k6_fo k20.1 rfl)).trans ((zo_sa (by decide)).trans ((zo_k6 k15.1).trans ((zo_k6 (k6_fo k10.1 rfl)).trans ((zo_sa (by decide)).trans ((zo_k6 k5.1).trans (zo_k6 (k6_fo k3.1 rfl)))))))))⟩, Or.inr (Or.inl ⟨rfl, (oif_t (by omega)).trans ((ob_1 n1).trans ((ob_1 (ow_1 k10 (by omega)).1).trans ((ob_1 (or_1 k15.2 (by omega)).1.1).trans ((ob_1 (ow_1 k20 (by omega)).1).trans (ob_0 (nu_0 k25 (by omega)))))))⟩)⟩)
        (fun q1 m2 hI2 k3 v6 q7 m4 hm4 k5 q8 v11 q12 m9 hm9 k10 q13 v16 q17 m14 hm14 k15 q18 hm2 => by
          have q7 := hQ.2.2.1.1
          have r9 := quA_r7 hm
          obtain ⟨l, n1, n2, n3⟩ := (or_1 k5.2 (by omega)).1
          exact ⟨_, p, rfl, hm2, ⟨((k6_26 k15.1 (by decide)).trans ((k6_26 (k6_fo k10.1 rfl) (by decide)).trans (zfl_sa.trans ((k6_26 k5.1 (by decide)).trans ((k6_26 (k6_fo k3.1 rfl) (by decide)).trans ht))))), ((k6_gi (by decide) k15.1).trans ((k6_gi (by decide) (k6_fo k10.1 rfl)).trans ((gi_sa).trans ((k6_gi (by decide) k5.1).trans (k6_gi (by decide) (k6_fo k3.1 rfl)))))), ((zo_k6 k15.1).trans ((zo_k6 (k6_fo k10.1 rfl)).trans ((zo_sa (by decide)).trans ((zo_k6 k5.1).trans (zo_k6 (k6_fo k3.1 rfl))))))⟩, Or.inr (Or.inl ⟨rfl, (oif_t (by omega)).trans ((ob_1 n1).trans ((ob_1 (ow_1 k10 (by omega)).1).trans (ob_0 (or_0 k15.2 (by omega)))))⟩)⟩)
        (fun q1 m2 hI2 k3 v6 q7 m4 hm4 k5 q8 hm2 => by
          have q7 := hQ.2.2.1.1
          have r9 := quA_r7 hm
          exact ⟨_, p, rfl, hm2, ⟨((k6_26 k5.1 (by decide)).trans ((k6_26 (k6_fo k3.1 rfl) (by decide)).trans ht)), ((k6_gi (by decide) k5.1).trans (k6_gi (by decide) (k6_fo k3.1 rfl))), ((zo_k6 k5.1).trans (zo_k6 (k6_fo k3.1 rfl)))⟩, Or.inr (Or.inl ⟨rfl, (oif_t (by omega)).trans (ob_0 (or_0 k5.2 (by omega)))⟩)⟩)
        (fun q1 hm2 => by
          have q7 := hQ.2.2.1.1
          have r9 := quA_r7 hm
          exact ⟨_, p, rfl, hm2, ⟨((zfl_sv_ne (by decide)).trans ((zfl_sv_ne (by decide)).trans ht)), ((gi_sv_ne (by decide)).trans (gi_sv_ne (by decide))), ((zo_sv (by decide)).trans (zo_sv (by decide)))⟩, Or.inr (Or.inl ⟨rfl, oif_f (by omega)⟩)⟩)
theorem h_foCA (hm : aTm aT0 mem) (ht : zfl mem 26 2 = some (.ref 2)) (hR : cRd T n p mem) (h4 : ¬ (tkf T n p).1.1 = 4) (hq : hqQ Q) (hQ : cQ 2 3 4 7 8 9 12 13 Q mem) (hs : (gi mem 10 3).toInt ≤ p) (hd : 5 ≤ d) : yC zpg d 94 [.ref 26] mem (fun a m => ∃ (v : Int32) (q : Int), a = some (.int v) ∧ aTm aT0 m ∧ stCA T n mem (oif ((Qf Q).length < 6) (sFol T n Q (tkf T n p).2)) v.toInt q m) := by
  obtain ⟨d, rfl⟩ : ∃ q, d = q + 5 := ⟨d - 5, by omega⟩
  refine yC_of (t := tX9_takesFolk) rfl rfl ?_
  exact w_foA (T := T) (n := n) (p := p) (Q := Q) hm ht hR h4 hq hQ
        (fun q1 m2 hI2 k3 v6 q7 m4 hm4 k5 q8 v11 q12 m9 hm9 k10 q13 hm2 => by
          have q7 := hQ.2.2.2.2.1.1
          have r9 := quA_r13 hm
          obtain ⟨l, n1, n2, n3⟩ := (or_1 k5.2 (by omega)).1
          exact ⟨_, p, rfl, hm2, ⟨((k6_26 (k6_fo k10.1 rfl) (by decide)).trans (zfl_sa.trans ((k6_26 k5.1 (by decide)).trans ((k6_26 (k6_fo k3.1 rfl) (by decide)).trans ht)))), ((k6_gi (by decide) (k6_fo k10.1 rfl)).trans ((gi_sa).trans ((k6_gi (by decide) k5.1).trans (k6_gi (by decide) (k6_fo k3.1 rfl))))), ((zo_k6 (k6_fo k10.1 rfl)).trans ((zo_sa (by decide)).trans ((zo_k6 k5.1).trans (zo_k6 (k6_fo k3.1 rfl)))))⟩, Or.inr (Or.inl ⟨rfl, (oif_t (by omega)).trans ((ob_1 n1).trans (ob_0 (ow_0 k10 (by omega))))⟩)⟩)
        (fun q1 m2 hI2 k3 v6 q7 m4 hm4 k5 q8 v11 q12 m9 hm9 k10 q13 v16 q17 m14 hm14 k15 q18 v21 q22 m19 hm19 k20 q23 hm2 => by
          have q7 := hQ.2.2.2.2.1.1
          have r9 := quA_r13 hm
          obtain ⟨l, n1, n2, n3⟩ := (or_1 k5.2 (by omega)).1
          exact ⟨_, p, rfl, hm2, ⟨((k6_26 (k6_fo k20.1 rfl) (by decide)).trans (zfl_sa.trans ((k6_26 k15.1 (by decide)).trans ((k6_26 (k6_fo k10.1 rfl) (by decide)).trans (zfl_sa.trans ((k6_26 k5.1 (by decide)).trans ((k6_26 (k6_fo k3.1 rfl) (by decide)).trans ht))))))), ((k6_gi (by decide) (k6_fo k20.1 rfl)).trans ((gi_sa).trans ((k6_gi (by decide) k15.1).trans ((k6_gi (by decide) (k6_fo k10.1 rfl)).trans ((gi_sa).trans ((k6_gi (by decide) k5.1).trans (k6_gi (by decide) (k6_fo k3.1 rfl)))))))), ((zo_k6 (k6_fo k20.1 rfl)).trans ((zo_sa (by decide)).trans ((zo_k6 k15.1).trans ((zo_k6 (k6_fo k10.1 rfl)).trans ((zo_sa (by decide)).trans ((zo_k6 k5.1).trans (zo_k6 (k6_fo k3.1 rfl))))))))⟩, Or.inr (Or.inl ⟨rfl, (oif_t (by omega)).trans ((ob_1 n1).trans ((ob_1 (ow_1 k10 (by omega)).1).trans ((ob_1 (or_1 k15.2 (by omega)).1.1).trans (ob_0 (ow_0 k20 (by omega))))))⟩)⟩)
        (fun q1 m2 hI2 k3 v6 q7 m4 hm4 k5 q8 v11 q12 m9 hm9 k10 q13 v16 q17 m14 hm14 k15 q18 v21 q22 m19 hm19 k20 q23 v26 q27 m24 hm24 k25 q28 x29 e30 hm2 => by
          have q7 := hQ.2.2.2.2.1.1
          have r9 := quA_r13 hm
          obtain ⟨l, n1, n2, n3⟩ := (or_1 k5.2 (by omega)).1
          have y0 := (tk_le hR).1
          have z1 := p_nnH k3.2 k5 (by omega)
          have z2 := p_owH (cRd_sa (by decide) (by decide) (or_1 k5.2 (by omega)).2) k10 (by omega)
          have z3 := p_ceH (ow_1 k10 (by omega)).2 k15 (by omega)
          have z4 := p_owH (cRd_sa (by decide) (by decide) (or_1 k15.2 (by omega)).2) k20 (by omega)
          have z5 := p_ceH (ow_1 k20 (by omega)).2 k25 (by omega)
          exact ⟨_, _, rfl, hm2, ⟨((zfl_sv_ne (by decide)).trans (zfl_sa.trans ((k6_26 k25.1 (by decide)).trans ((k6_26 (k6_fo k20.1 rfl) (by decide)).trans (zfl_sa.trans ((k6_26 k15.1 (by decide)).trans ((k6_26 (k6_fo k10.1 rfl) (by decide)).trans (zfl_sa.trans ((k6_26 k5.1 (by decide)).trans ((k6_26 (k6_fo k3.1 rfl) (by decide)).trans ht)))))))))), ((gi_sv_ne (by decide)).trans ((gi_sa).trans ((k6_gi (by decide) k25.1).trans ((k6_gi (by decide) (k6_fo k20.1 rfl)).trans ((gi_sa).trans ((k6_gi (by decide) k15.1).trans ((k6_gi (by decide) (k6_fo k10.1 rfl)).trans ((gi_sa).trans ((k6_gi (by decide) k5.1).trans (k6_gi (by decide) (k6_fo k3.1 rfl))))))))))), ((zo_sv (by decide)).trans ((zo_sa (by decide)).trans ((zo_k6 k25.1).trans ((zo_k6 (k6_fo k20.1 rfl)).trans ((zo_sa (by decide)).trans ((zo_k6 k15.1).trans ((zo_k6 (k6_fo k10.1 rfl)).trans ((zo_sa (by decide)).trans ((zo_k6 k5.1).trans (zo_k6 (k6_fo k3.1 rfl)))))))))))⟩, Or.inl ⟨rfl, ⟨_, (oif_t (by omega)).trans ((ob_1 n1).trans ((ob_1 (ow_1 k10 (by omega)).1).trans ((ob_1 (or_1 k15.2 (by omega)).1.1).trans ((ob_1 (ow_1 k20 (by omega)).1).trans (om_1 (or_1 k25.2 (by omega)).1.1))))), cQ_folA hm hQ ((gi_sv_ne (by decide)).trans ((gi_sa).trans ((k6_gi (by decide) k25.1).trans ((k6_gi (by decide) (k6_fo k20.1 rfl)).trans ((gi_sa).trans ((k6_gi (by decide) k15.1).trans ((k6_gi (by decide) (k6_fo k10.1 rfl)).trans ((gi_sa).trans ((k6_gi (by decide) k5.1).trans (k6_gi (by decide) (k6_fo k3.1 rfl))))))))))) ((gi_sv_ne (by decide)).trans ((gi_sa).trans ((k6_gi (by decide) k25.1).trans ((k6_gi (by decide) (k6_fo k20.1 rfl)).trans ((gi_sa).trans ((k6_gi (by decide) k15.1).trans ((k6_gi (by decide) (k6_fo k10.1 rfl)).trans ((gi_sa).trans ((k6_gi (by decide) k5.1).trans (k6_gi (by decide) (k6_fo k3.1 rfl))))))))))) ((gL_sv_ne (by decide)).trans ((gL_sa).trans ((k6_gL (by decide) k25.1).trans ((k6_gL (by decide) (k6_fo k20.1 rfl)).trans ((gL_sa).trans ((k6_gL (by decide) k15.1).trans ((k6_gL (by decide) (k6_fo k10.1 rfl)).trans ((gL_sa).trans ((k6_gL (by decide) k5.1).trans (k6_gL (by decide) (k6_fo k3.1 rfl))))))))))) ((gi_sv_ne (by decide)).trans ((gi_sa).trans ((k6_gi (by decide) k25.1).trans ((k6_gi (by decide) (k6_fo k20.1 rfl)).trans ((gi_sa).trans ((k6_gi (by decide) k15.1).trans ((k6_gi (by decide) (k6_fo k10.1 rfl)).trans ((gi_sa).trans ((k6_gi (by decide) k5.1).trans (k6_gi (by decide) (k6_fo k3.1 rfl))))))))))) ((gi_sv_ne (by decide)).trans ((gi_sa).trans ((k6_gi (by decide) k25.1).trans ((k6_gi (by decide) (k6_fo k20.1 rfl)).trans ((gi_sa).trans ((k6_gi (by decide) k15.1).trans ((k6_gi (by decide) (k6_fo k10.1 rfl)).trans ((gi_sa).trans ((k6_gi (by decide) k5.1).trans (k6_gi (by decide) (k6_fo k3.1 rfl))))))))))) ((ga_sv).trans ((ga_sa_ne (by decide)).trans ((k6_ga (by decide) k25.1).trans ((k6_ga (by decide) (k6_fo k20.1 rfl)).trans ((ga_sa_ne (by decide)).trans ((k6_ga (by decide) k15.1).trans ((k6_ga (by decide) (k6_fo k10.1 rfl)).trans ((ga_sa_ne (by decide)).trans ((k6_ga (by decide) k5.1).trans (k6_ga (by decide) (k6_fo k3.1 rfl))))))))))) ((ga_sv).trans ((ga_sa_ne (by decide)).trans ((k6_ga (by decide) k25.1).trans ((k6_ga (by decide) (k6_fo k20.1 rfl)).trans ((ga_sa_ne (by decide)).trans ((k6_ga (by decide) k15.1).trans ((k6_ga (by decide) (k6_fo k10.1 rfl)).trans ((ga_sa_ne (by decide)).trans ((k6_ga (by decide) k5.1).trans (k6_ga (by decide) (k6_fo k3.1 rfl))))))))))) ((ga_sv).trans ((ga_sa_ne (by decide)).trans ((k6_ga (by decide) k25.1).trans ((k6_ga (by decide) (k6_fo k20.1 rfl)).trans ((ga_sa_ne (by decide)).trans ((k6_ga (by decide) k15.1).trans ((k6_ga (by decide) (k6_fo k10.1 rfl)).trans ((ga_sa_ne (by decide)).trans ((k6_ga (by decide) k5.1).trans (k6_ga (by decide) (k6_fo k3.1 rfl))))))))))) ((ga_sv).trans ((ga_sa_ne (by decide)).trans ((k6_ga (by decide) k25.1).trans ((k6_ga (by decide) (k6_fo k20.1 rfl)).trans ((ga_sa_ne (by decide)).trans ((k6_ga (by decide) k15.1).trans ((k6_ga (by decide) (k6_fo k10.1 rfl)).trans ((ga_sa_ne (by decide)).trans ((k6_ga (by decide) k5.1).trans (k6_ga (by decide) (k6_fo k3.1 rfl))))))))))) ((ga_sv).trans ((ga_sa_ne (by decide)).trans ((k6_ga (by decide) k25.1).trans ((k6_ga (by decide) (k6_fo k20.1 rfl)).trans ((ga_sa_ne (by decide)).trans ((k6_ga (by decide) k15.1).trans ((k6_ga (by decide) (k6_fo k10.1 rfl)).trans (ga_sa_eq.trans (congrArg (fun l => List.set l (gi mem 2 13).toNatClampNeg (gi m4 27 8)) ((k6_ga (by decide) k5.1).trans (k6_ga (by decide) (k6_fo k3.1 rfl)))))))))))) ((ga_sv).trans ((ga_sa_ne (by decide)).trans ((k6_ga (by decide) k25.1).trans ((k6_ga (by decide) (k6_fo k20.1 rfl)).trans (ga_sa_eq.trans (congrArg (fun l => List.set l (gi mem 2 13).toNatClampNeg (gi m14 26 3)) ((k6_ga (by decide) k15.1).trans ((k6_ga (by decide) (k6_fo k10.1 rfl)).trans ((ga_sa_ne (by decide)).trans ((k6_ga (by decide) k5.1).trans (k6_ga (by decide) (k6_fo k3.1 rfl)))))))))))) ((ga_sv).trans (ga_sa_eq.trans (congrArg (fun l => List.set l (gi mem 2 13).toNatClampNeg (gi m24 26 3)) ((k6_ga (by decide) k25.1).trans ((k6_ga (by decide) (k6_fo k20.1 rfl)).trans ((ga_sa_ne (by decide)).trans ((k6_ga (by decide) k15.1).trans ((k6_ga (by decide) (k6_fo k10.1 rfl)).trans ((ga_sa_ne (by decide)).trans ((k6_ga (by decide) k5.1).trans (k6_ga (by decide) (k6_fo k3.1 rfl)))))))))))) (gi_eqQ (isQ_sa (by decide) (isQ_of quA_e hm24)) quA_13) (by omega) n2 n3 (or_1 k15.2 (by omega)).1.2 (or_1 k25.2 (by omega)).1.2 (by omega) ((gi_sv_ne (by decide)).trans ((gi_sa).trans ((k6_gi (by decide) k25.1).trans ((k6_gi (by decide) (k6_fo k20.1 rfl)).trans ((gi_sa).trans ((k6_gi (by decide) k15.1).trans ((k6_gi (by decide) (k6_fo k10.1 rfl)).trans ((gi_sa).trans ((k6_gi (by decide) k5.1).trans (k6_gi (by decide) (k6_fo k3.1 rfl))))))))))) ((gi_sv_ne (by decide)).trans ((gi_sa).trans ((k6_gi (by decide) k25.1).trans ((k6_gi (by decide) (k6_fo k20.1 rfl)).trans ((gi_sa).trans ((k6_gi (by decide) k15.1).trans ((k6_gi (by decide) (k6_fo k10.1 rfl)).trans ((gi_sa).trans ((k6_gi (by decide) k5.1).trans (k6_gi (by decide) (k6_fo k3.1 rfl))))))))))) ((gL_sv_ne (by decide)).trans ((gL_sa).trans ((k6_gL (by decide) k25.1).trans ((k6_gL (by decide) (k6_fo k20.1 rfl)).trans ((gL_sa).trans ((k6_gL (by decide) k15.1).trans ((k6_gL (by decide) (k6_fo k10.1 rfl)).trans ((gL_sa).trans ((k6_gL (by decide) k5.1).trans (k6_gL (by decide) (k6_fo k3.1 rfl))))))))))) ((ga_sv).trans ((ga_sa_ne (by decide)).trans ((k6_ga (by decide) k25.1).trans ((k6_ga (by decide) (k6_fo k20.1 rfl)).trans ((ga_sa_ne (by decide)).trans ((k6_ga (by decide) k15.1).trans ((k6_ga (by decide) (k6_fo k10.1 rfl)).trans ((ga_sa_ne (by decide)).trans ((k6_ga (by decide) k5.1).trans (k6_ga (by decide) (k6_fo k3.1 rfl))))))))))) ((ga_sv).trans ((ga_sa_ne (by decide)).trans ((k6_ga (by decide) k25.1).trans ((k6_ga (by decide) (k6_fo k20.1 rfl)).trans ((ga_sa_ne (by decide)).trans ((k6_ga (by decide) k15.1).trans ((k6_ga (by decide) (k6_fo k10.1 rfl)).trans ((ga_sa_ne (by decide)).trans ((k6_ga (by decide) k5.1).trans (k6_ga (by decide) (k6_fo k3.1 rfl))))))))))) ((ga_sv).trans ((ga_sa_ne (by decide)).trans ((k6_ga (by decide) k25.1).trans ((k6_ga (by decide) (k6_fo k20.1 rfl)).trans ((ga_sa_ne (by decide)).trans ((k6_ga (by decide) k15.1).trans ((k6_ga (by decide) (k6_fo k10.1 rfl)).trans ((ga_sa_ne (by decide)).trans ((k6_ga (by decide) k5.1).trans (k6_ga (by decide) (k6_fo k3.1 rfl))))))))))) ((gi_sv_ne (by decide)).trans ((gi_sa).trans ((k6_gi (by decide) k25.1).trans ((k6_gi (by decide) (k6_fo k20.1 rfl)).trans ((gi_sa).trans ((k6_gi (by decide) k15.1).trans ((k6_gi (by decide) (k6_fo k10.1 rfl)).trans ((gi_sa).trans ((k6_gi (by decide) k5.1).trans (k6_gi (by decide) (k6_fo k3.1 rfl)))))))))))⟩, (cRd_sv (by decide) (cRd_sa (by decide) (by decide) (or_1 k25.2 (by omega)).2)), by rw [((gi_sv_ne (by decide)).trans ((gi_sa).trans ((k6_gi (by decide) k25.1).trans ((k6_gi (by decide) (k6_fo k20.1 rfl)).trans ((gi_sa).trans ((k6_gi (by decide) k15.1).trans ((k6_gi (by decide) (k6_fo k10.1 rfl)).trans ((gi_sa).trans ((k6_gi (by decide) k5.1).trans (k6_gi (by decide) (k6_fo k3.1 rfl)))))))))))]; omega⟩⟩)
        (fun q1 m2 hI2 k3 v6 q7 m4 hm4 k5 q8 v11 q12 m9 hm9 k10 q13 v16 q17 m14 hm14 k15 q18 v21 q22 m19 hm19 k20 q23 v26 q27 m24 hm24 k25 q28 hm2 => by
          have q7 := hQ.2.2.2.2.1.1
          have r9 := quA_r13 hm
          obtain ⟨l, n1, n2, n3⟩ := (or_1 k5.2 (by omega)).1
          exact ⟨_, p, rfl, hm2, ⟨((k6_26 k25.1 (by decide)).trans ((k6_26 (k6_fo k20.1 rfl) (by decide)).trans (zfl_sa.trans ((k6_26 k15.1 (by decide)).trans ((k6_26 (k6_fo k10.1 rfl) (by decide)).trans (zfl_sa.trans ((k6_26 k5.1 (by decide)).trans ((k6_26 (k6_fo k3.1 rfl) (by decide)).trans ht)))))))), ((k6_gi (by decide) k25.1).trans ((k6_gi (by decide) (k6_fo k20.1 rfl)).trans ((gi_sa).trans ((k6_gi (by decide) k15.1).trans ((k6_gi (by decide) (k6_fo k10.1 rfl)).trans ((gi_sa).trans ((k6_gi (by decide) k5.1).trans (k6_gi (by decide) (k6_fo k3.1 rfl))))))))), ((zo_k6 k25.1).trans ((zo_k6 (k6_fo k20.1 rfl)).trans ((zo_sa (by decide)).trans ((zo_k6 k15.1).trans ((zo_k6 (k6_fo k10.1 rfl)).trans ((zo_sa (by decide)).trans ((zo_k6 k5.1).trans (zo_k6 (k6_fo k3.1 rfl)))))))))⟩, Or.inr (Or.inl ⟨rfl, (oif_t (by omega)).trans ((ob_1 n1).trans ((ob_1 (ow_1 k10 (by omega)).1).trans ((ob_1 (or_1 k15.2 (by omega)).1.1).trans ((ob_1 (ow_1 k20 (by omega)).1).trans (om_0 (or_0 k25.2 (by omega)))))))⟩)⟩)
        (fun q1 m2 hI2 k3 v6 q7 m4 hm4 k5 q8 v11 q12 m9 hm9 k10 q13 v16 q17 m14 hm14 k15 q18 hm2 => by
          have q7 := hQ.2.2.2.2.1.1
          have r9 := quA_r13 hm
          obtain ⟨l, n1, n2, n3⟩ := (or_1 k5.2 (by omega)).1
          exact ⟨_, p, rfl, hm2, ⟨((k6_26 k15.1 (by decide)).trans ((k6_26 (k6_fo k10.1 rfl) (by decide)).trans (zfl_sa.trans ((k6_26 k5.1 (by decide)).trans ((k6_26 (k6_fo k3.1 rfl) (by decide)).trans ht))))), ((k6_gi (by decide) k15.1).trans ((k6_gi (by decide) (k6_fo k10.1 rfl)).trans ((gi_sa).trans ((k6_gi (by decide) k5.1).trans (k6_gi (by decide) (k6_fo k3.1 rfl)))))), ((zo_k6 k15.1).trans ((zo_k6 (k6_fo k10.1 rfl)).trans ((zo_sa (by decide)).trans ((zo_k6 k5.1).trans (zo_k6 (k6_fo k3.1 rfl))))))⟩, Or.inr (Or.inl ⟨rfl, (oif_t (by omega)).trans ((ob_1 n1).trans ((ob_1 (ow_1 k10 (by omega)).1).trans (ob_0 (or_0 k15.2 (by omega)))))⟩)⟩)
        (fun q1 m2 hI2 k3 v6 q7 m4 hm4 k5 q8 hm2 => by
          have q7 := hQ.2.2.2.2.1.1
          have r9 := quA_r13 hm
          exact ⟨_, p, rfl, hm2, ⟨((k6_26 k5.1 (by decide)).trans ((k6_26 (k6_fo k3.1 rfl) (by decide)).trans ht)), ((k6_gi (by decide) k5.1).trans (k6_gi (by decide) (k6_fo k3.1 rfl))), ((zo_k6 k5.1).trans (zo_k6 (k6_fo k3.1 rfl)))⟩, Or.inr (Or.inl ⟨rfl, (oif_t (by omega)).trans (ob_0 (or_0 k5.2 (by omega)))⟩)⟩)
        (fun q1 hm2 => by
          have q7 := hQ.2.2.2.2.1.1
          have r9 := quA_r13 hm
          exact ⟨_, p, rfl, hm2, ⟨((zfl_sv_ne (by decide)).trans ((zfl_sv_ne (by decide)).trans ht)), ((gi_sv_ne (by decide)).trans (gi_sv_ne (by decide))), ((zo_sv (by decide)).trans (zo_sv (by decide)))⟩, Or.inr (Or.inl ⟨rfl, oif_f (by omega)⟩)⟩)
theorem cQ_lacB {z nv pv y hv gv : Int32} {l : List Int} (hm : aTm aT0 mem) (h : cQ 14 15 16 19 20 21 24 25 Q mem) (e1 : gi m 14 1 = gi mem 14 1) (e2 : gi m 14 2 = gi mem 14 2) (eL : gL m 14 6 = gL mem 14 6) (e13 : gi m 14 13 = gi mem 14 13) (a1 : ga m 19 = ga mem 19) (a2 : ga m 20 = ga mem 20) (a3 : ga m 21 = ga mem 21) (a4 : ga m 24 = ga mem 24) (a5 : ga m 25 = ga mem 25) (e12 : gi m 14 12 = (z ||| ((1 : Int32) <<< ((gi mem 14 7) &&& 31)))) (ez : z = gi mem 14 12) (eN : ga m 15 = (ga mem 15).set (gi mem 14 7).toNatClampNeg nv) (eP : ga m 16 = (ga mem 16).set (gi mem 14 7).toNatClampNeg pv) (e7 : gi m 14 7 = y) (ey : y.toInt = (gi mem 14 7).toInt + 1) (hn : nv.toInt = cnl l) (hl : ∀ c ∈ l, ltr c) (hp : 0 ≤ pv.toInt ∧ pv.toInt < 64) (h9 : (gi mem 14 7).toInt < 9) (x3 : gi m 14 3 = gi mem 14 3) (x4 : gi m 14 4 = gi mem 14 4) (x5 : gL m 14 5 = gL mem 14 5) (xU : ga m 17 = (ga mem 17).set (gi mem 14 7).toNatClampNeg hv) (xV : ga m 18 = (ga mem 18).set (gi mem 14 7).toNatClampNeg gv) (xA : ga m 23 = ga mem 23) (xR : gi m 22 3 = gi mem 22 3) : cQ 14 15 16 19 20 21 24 25 (Qc Q, Qr Q, Qw Q, Qt Q ++ [(l, pv.toInt)], Qh Q, Qf Q, Qu Q, Qg Q ++ [(hv.toInt, gv.toInt)], Qp Q, Qa Q, Qk Q) m := by
  obtain ⟨k1, k2, k3, k4, k5, k6, k7⟩ := h
  have r7 := quB_r7 hm
  have g3 := gl_15 hm
  have g4 := gl_16 hm
  have N : ∀ i : Int, 0 ≤ i → gn (ga m 15) i = if i = (gi mem 14 7).toInt then nv.toInt else gn (ga mem 15) i := fun i i0 => by
    rw [eN]
    exact gn_set rfl r7.1 (by omega) i0
  have P : ∀ i : Int, 0 ≤ i → gn (ga m 16) i = if i = (gi mem 14 7).toInt then pv.toInt else gn (ga mem 16) i := fun i i0 => by
    rw [eP]
    exact gn_set rfl r7.1 (by omega) i0
  refine ⟨⟨by rw [e1]; exact k1.1, by rw [e2]; exact k1.2⟩, by unfold cQw; rw [eL]; exact k2, ⟨?_, fun i x hx => ?_⟩, ⟨fun i i0 i1 => ?_, fun i hi => ?_⟩, by unfold cQf; rw [e13, a1, a2, a3]; exact k5, by unfold cQu; rw [a4, a5]; exact k6, ⟨?_, fun i x hx => ?_⟩, ⟨by rw [x3]; exact k7.2.1.1, by rw [x4]; exact k7.2.1.2.1, by rw [x5]; exact k7.2.1.2.2⟩, fun w w0 w1 c hc => ?_⟩
  · show _ = (((Qt Q ++ [(l, pv.toInt)]).length : Nat) : Int)
    rw [e7, ey, List.length_append, k3.1]
    rfl
  · rw [N _ (by omega), P _ (by omega)]
    rcases apx_1 hx with hx | ⟨hi, rfl⟩
    · have w := (List.getElem?_eq_some_iff.1 hx).1
      have k := k3.2 i x hx
      rw [if_neg (by have := k3.1; omega), if_neg (by have := k3.1; omega)]
      exact k
    · rw [if_pos (by rw [hi]; exact k3.1.symm), if_pos (by rw [hi]; exact k3.1.symm)]
      exact ⟨hn, hl, rfl, hp⟩
  · have e := k4.1 i i0 i1
    show bt (gi m 14 12) i ↔ (i < (((Qt Q ++ [(l, pv.toInt)]).length : Nat) : Int) ∧ ¬ i ∈ Qh Q)
    rw [e12, ez, bt_or (by omega) (by omega) i0 (by omega), e, List.length_append, k3.1]
    have key : (Qt Q).length = ((Qt Q).length : Nat) := rfl
    have ln : (([(l, pv.toInt)] : List (List Int × Int)).length : Nat) = 1 := rfl
    rw [ln]
    constructor
    · rintro (⟨w1, w2⟩ | w)
      · exact ⟨by omega, w2⟩
      · exact ⟨by omega, fun z => by have := k4.2 i z; omega⟩
    · rintro ⟨w1, w2⟩
      by_cases c : i = ((Qt Q).length : Int)
      · exact Or.inr c
      · exact Or.inl ⟨by omega, w2⟩
  · have := k4.2 i hi
    show i < (((Qt Q ++ [(l, pv.toInt)]).length : Nat) : Int)
    rw [List.length_append]
    omega
  · show (Qg Q ++ [(hv.toInt, gv.toInt)]).length = (Qt Q ++ [(l, pv.toInt)]).length
    rw [List.length_append, List.length_append, k7.1.1]
    rfl
  · have gU := gl_17 hm
    have gV := gl_18 hm
    have kl := k7.1.1
    rw [show ga m (14 + 3) = (ga mem 17).set (gi mem 14 7).toNatClampNeg hv from xU, show ga m (14 + 4) = (ga mem 18).set (gi mem 14 7).toNatClampNeg gv from xV, gn_set rfl r7.1 (by omega) (by omega), gn_set rfl r7.1 (by omega) (by omega)]
    rcases apx_1 hx with hx | ⟨hi, rfl⟩
    · have w := (List.getElem?_eq_some_iff.1 hx).1
      rw [if_neg (by have := k3.1; omega), if_neg (by have := k3.1; omega)]
      exact k7.1.2 i x hx
    · rw [if_pos (by have := k3.1; omega), if_pos (by have := k3.1; omega)]
      exact ⟨rfl, rfl⟩
  · have e10 : ga m (14 + 10) = ga mem (14 + 10) := a4
    have e11 : ga m (14 + 11) = ga mem (14 + 11) := a5
    have e9 : ga m (14 + 9) = ga mem (14 + 9) := xA
    have e8 : gi m (14 + 8) 3 = gi mem (14 + 8) 3 := xR
    rw [e10, e11, e9, e8]
    exact k7.2.2 w w0 w1 c hc
theorem cQ_folB {nv pv sv_ y : Int32} {l : List Int} (hm : aTm aT0 mem) (h : cQ 14 15 16 19 20 21 24 25 Q mem) (e1 : gi m 14 1 = gi mem 14 1) (e2 : gi m 14 2 = gi mem 14 2) (eL : gL m 14 6 = gL mem 14 6) (e7 : gi m 14 7 = gi mem 14 7) (e12 : gi m 14 12 = gi mem 14 12) (a1 : ga m 15 = ga mem 15) (a2 : ga m 16 = ga mem 16) (a4 : ga m 24 = ga mem 24) (a5 : ga m 25 = ga mem 25) (eN : ga m 19 = (ga mem 19).set (gi mem 14 13).toNatClampNeg nv) (eP : ga m 20 = (ga mem 20).set (gi mem 14 13).toNatClampNeg pv) (eS : ga m 21 = (ga mem 21).set (gi mem 14 13).toNatClampNeg sv_) (e13 : gi m 14 13 = y) (ey : y.toInt = (gi mem 14 13).toInt + 1) (hn : nv.toInt = cnl l) (hl : ∀ c ∈ l, ltr c) (hp : 0 ≤ pv.toInt ∧ pv.toInt < 64) (hs : 0 ≤ sv_.toInt ∧ sv_.toInt < 64) (h6 : (gi mem 14 13).toInt < 6) (x3 : gi m 14 3 = gi mem 14 3) (x4 : gi m 14 4 = gi mem 14 4) (x5 : gL m 14 5 = gL mem 14 5) (xU : ga m 17 = ga mem 17) (xV : ga m 18 = ga mem 18) (xA : ga m 23 = ga mem 23) (xR : gi m 22 3 = gi mem 22 3) : cQ 14 15 16 19 20 21 24 25 (Qc Q, Qr Q, Qw Q, Qt Q, Qh Q, Qf Q ++ [(l, pv.toInt, sv_.toInt)], Qu Q, Qx Q) m := by
  obtain ⟨k1, k2, k3, k4, k5, k6, k7⟩ := h
  have r13 := quB_r13 hm
  have g7 := gl_19 hm
  have g8 := gl_20 hm
  have g9 := gl_21 hm
  have N : ∀ i : Int, 0 ≤ i → gn (ga m 19) i = if i = (gi mem 14 13).toInt then nv.toInt else gn (ga mem 19) i := fun i i0 => by
    rw [eN]
    exact gn_set rfl r13.1 (by omega) i0
  have P : ∀ i : Int, 0 ≤ i → gn (ga m 20) i = if i = (gi mem 14 13).toInt then pv.toInt else gn (ga mem 20) i := fun i i0 => by
    rw [eP]
    exact gn_set rfl r13.1 (by omega) i0
  have S : ∀ i : Int, 0 ≤ i → gn (ga m 21) i = if i = (gi mem 14 13).toInt then sv_.toInt else gn (ga mem 21) i := fun i i0 => by
    rw [eS]
    exact gn_set rfl r13.1 (by omega) i0
  refine ⟨⟨by rw [e1]; exact k1.1, by rw [e2]; exact k1.2⟩, by unfold cQw; rw [eL]; exact k2, by unfold cQt; rw [e7, a1, a2]; exact k3, by unfold cQh; rw [e12]; exact k4, ⟨?_, fun i x hx => ?_⟩, by unfold cQu; rw [a4, a5]; exact k6, cQx_eq x3 x4 x5 xU xV xA a4 a5 xR k7⟩
  · show _ = (((Qf Q ++ [(l, pv.toInt, sv_.toInt)]).length : Nat) : Int)
    rw [e13, ey, List.length_append, k5.1]
    rfl
  · rw [N _ (by omega), P _ (by omega), S _ (by omega)]
    rcases apx_1 hx with hx | ⟨hi, rfl⟩
    · have w := (List.getElem?_eq_some_iff.1 hx).1
      have k := k5.2 i x hx
      rw [if_neg (by have := k5.1; omega), if_neg (by have := k5.1; omega), if_neg (by have := k5.1; omega)]
      exact k
    · rw [if_pos (by rw [hi]; exact k5.1.symm), if_pos (by rw [hi]; exact k5.1.symm), if_pos (by rw [hi]; exact k5.1.symm)]
      exact ⟨hn, hl, ⟨rfl, hp⟩, rfl, hs⟩
set_option maxRecDepth 100000 in
theorem w_laB {d : Nat} {mem : zM} {P : Option Value → zM → Prop} {T : List Int32} {n p : Int} {Q : Qd} (hm : aTm aT0 mem) (ht : zfl mem 26 2 = some (.ref 14)) (hR : cRd T n p mem) (hk4 : ¬ (tkf T n p).1.1 = 4) (hq : hqQ Q) (hQ : cQ 14 15 16 19 20 21 24 25 Q mem) (h1 : (gi mem 14 7).toInt < 9 → ∀ (m2 : zM), aTm aT0 m2 → (fo 27 [] avF mem m2 ∧ cRd T n (tkf T n p).2 m2) → ∀ (v6 : Int32) (q7 : Int) (m4 : zM), aTm aT0 m4 → nnH T n Q (tkf T n p).2 m2 v6.toInt q7 m4 → ¬ (v6).toInt = 0 → ∀ (v11 : Int32) (q12 : Int) (m9 : zM), aTm aT0 m9 → owH T n 6 q7 (sx m4 15 (gi mem 14 7) (gi m4 27 8)) v11.toInt q12 m9 → (v11).toInt = 0 → aTm aT0 m9 → P (some (.int 0)) m9) (h2 : (gi mem 14 7).toInt < 9 → ∀ (m2 : zM), aTm aT0 m2 → (fo 27 [] avF mem m2 ∧ cRd T n (tkf T n p).2 m2) → ∀ (v6 : Int32) (q7 : Int) (m4 : zM), aTm aT0 m4 → nnH T n Q (tkf T n p).2 m2 v6.toInt q7 m4 → ¬ (v6).toInt = 0 → ∀ (v11 : Int32) (q12 : Int) (m9 : zM), aTm aT0 m9 → owH T n 6 q7 (sx m4 15 (gi mem 14 7) (gi m4 27 8)) v11.toInt q12 m9 → ¬ (v11).toInt = 0 → ∀ (v16 : Int32) (q17 : Int) (m14 : zM), aTm aT0 m14 → ceH T n False Q q12 m9 v16.toInt q17 m14 → ¬ (v16).toInt = 0 → ∀ (v21 : Int32) (q22 : Int) (m19 : zM), aTm aT0 m19 → owH T n 7 q17 (sx m14 16 (gi mem 14 7) (gi m14 26 3)) v21.toInt q22 m19 → (v21).toInt = 0 → aTm aT0 m19 → P (some (.int 0)) m19) (h3 : (gi mem 14 7).toInt < 9 → ∀ (m2 : zM), aTm aT0 m2 → (fo 27 [] avF mem m2 ∧ cRd T n (tkf T n p).2 m2) → ∀ (v6 : Int32) (q7 : Int) (m4 : zM), aTm aT0 m4 → nnH T n Q (tkf T n p).2 m2 v6.toInt q7 m4 → ¬ (v6).toInt = 0 → ∀ (v11 : Int32) (q12 : Int) (m9 : zM), aTm aT0 m9 → owH T n 6 q7 (sx m4 15 (gi mem 14 7) (gi m4 27 8)) v11.toInt q12 m9 → ¬ (v11).toInt = 0 → ∀ (v16 : Int32) (q17 : Int) (m14 : zM), aTm aT0 m14 → ceH T n False Q q12 m9 v16.toInt q17 m14 → ¬ (v16).toInt = 0 → ∀ (v21 : Int32) (q22 : Int) (m19 : zM), aTm aT0 m19 → owH T n 7 q17 (sx m14 16 (gi mem 14 7) (gi m14 26 3)) v21.toInt q22 m19 → ¬ (v21).toInt = 0 → ∀ (v26 : Int32) (q27 : Int) (m24 : zM), aTm aT0 m24 → nuH T n (1 : Int) 9 q22 m19 v26.toInt q27 m24 → ¬ (v26).toInt = 0 → ∀ (v31 : Int32) (q32 : Int) (m29 : zM), aTm aT0 m29 → owH T n 8 q27 (sx m24 17 (gi mem 14 7) (gi m24 27 8)) v31.toInt q32 m29 → (v31).toInt = 0 → aTm aT0 m29 → P (some (.int 0)) m29) (s1 : (gi mem 14 7).toInt < 9 → ∀ (m2 : zM), aTm aT0 m2 → (fo 27 [] avF mem m2 ∧ cRd T n (tkf T n p).2 m2) → ∀ (v6 : Int32) (q7 : Int) (m4 : zM), aTm aT0 m4 → nnH T n Q (tkf T n p).2 m2 v6.toInt q7 m4 → ¬ (v6).toInt = 0 → ∀ (v11 : Int32) (q12 : Int) (m9 : zM), aTm aT0 m9 → owH T n 6 q7 (sx m4 15 (gi mem 14 7) (gi m4 27 8)) v11.toInt q12 m9 → ¬ (v11).toInt = 0 → ∀ (v16 : Int32) (q17 : Int) (m14 : zM), aTm aT0 m14 → ceH T n False Q q12 m9 v16.toInt q17 m14 → ¬ (v16).toInt = 0 → ∀ (v21 : Int32) (q22 : Int) (m19 : zM), aTm aT0 m19 → owH T n 7 q17 (sx m14 16 (gi mem 14 7) (gi m14 26 3)) v21.toInt q22 m19 → ¬ (v21).toInt = 0 → ∀ (v26 : Int32) (q27 : Int) (m24 : zM), aTm aT0 m24 → nuH T n (1 : Int) 9 q22 m19 v26.toInt q27 m24 → ¬ (v26).toInt = 0 → ∀ (v31 : Int32) (q32 : Int) (m29 : zM), aTm aT0 m29 → owH T n 8 q27 (sx m24 17 (gi mem 14 7) (gi m24 27 8)) v31.toInt q32 m29 → ¬ (v31).toInt = 0 → ∀ (v36 : Int32) (q37 : Int) (m34 : zM), aTm aT0 m34 → nuH T n (0 : Int) 9 q32 m29 v36.toInt q37 m34 → ¬ (v36).toInt = 0 → (0 : Int) ≤ ((gi m34 14 12) ||| (1 <<< ((gi mem 14 7) &&& 31))).toInt ∧ ((gi m34 14 12) ||| (1 <<< ((gi mem 14 7) &&& 31))).toInt ≤ 511) (h4 : (gi mem 14 7).toInt < 9 → ∀ (m2 : zM), aTm aT0 m2 → (fo 27 [] avF mem m2 ∧ cRd T n (tkf T n p).2 m2) → ∀ (v6 : Int32) (q7 : Int) (m4 : zM), aTm aT0 m4 → nnH T n Q (tkf T n p).2 m2 v6.toInt q7 m4 → ¬ (v6).toInt = 0 → ∀ (v11 : Int32) (q12 : Int) (m9 : zM), aTm aT0 m9 → owH T n 6 q7 (sx m4 15 (gi mem 14 7) (gi m4 27 8)) v11.toInt q12 m9 → ¬ (v11).toInt = 0 → ∀ (v16 : Int32) (q17 : Int) (m14 : zM), aTm aT0 m14 → ceH T n False Q q12 m9 v16.toInt q17 m14 → ¬ (v16).toInt = 0 → ∀ (v21 : Int32) (q22 : Int) (m19 : zM), aTm aT0 m19 → owH T n 7 q17 (sx m14 16 (gi mem 14 7) (gi m14 26 3)) v21.toInt q22 m19 → ¬ (v21).toInt = 0 → ∀ (v26 : Int32) (q27 : Int) (m24 : zM), aTm aT0 m24 → nuH T n (1 : Int) 9 q22 m19 v26.toInt q27 m24 → ¬ (v26).toInt = 0 → ∀ (v31 : Int32) (q32 : Int) (m29 : zM), aTm aT0 m29 → owH T n 8 q27 (sx m24 17 (gi mem 14 7) (gi m24 27 8)) v31.toInt q32 m29 → ¬ (v31).toInt = 0 → ∀ (v36 : Int32) (q37 : Int) (m34 : zM), aTm aT0 m34 → nuH T n (0 : Int) 9 q32 m29 v36.toInt q37 m34 → ¬ (v36).toInt = 0 → ∀ (x39 : Int32), x39.toInt = ((gi mem 14 7).toInt + 1) → aTm aT0 (si (si (sx m34 18 (gi mem 14 7) (gi m34 27 8)) 14 12 ((gi m34 14 12) ||| (1 <<< ((gi mem 14 7) &&& 31)))) 14 7 x39) → P (some (.int 1)) (si (si (sx m34 18 (gi mem 14 7) (gi m34 27 8)) 14 12 ((gi m34 14 12) ||| (1 <<< ((gi mem 14 7) &&& 31)))) 14 7 x39)) (h5 : (gi mem 14 7).toInt < 9 → ∀ (m2 : zM), aTm aT0 m2 → (fo 27 [] avF mem m2 ∧ cRd T n (tkf T n p).2 m2) → ∀ (v6 : Int32) (q7 : Int) (m4 : zM), aTm aT0 m4 → nnH T n Q (tkf T n p).2 m2 v6.toInt q7 m4 → ¬ (v6).toInt = 0 → ∀ (v11 : Int32) (q12 : Int) (m9 : zM), aTm aT0 m9 → owH T n 6 q7 (sx m4 15 (gi mem 14 7) (gi m4 27 8)) v11.toInt q12 m9 → ¬ (v11).toInt = 0 → ∀ (v16 : Int32) (q17 : Int) (m14 : zM), aTm aT0 m14 → ceH T n False Q q12 m9 v16.toInt q17 m14 → ¬ (v16).toInt = 0 → ∀ (v21 : Int32) (q22 : Int) (m19 : zM), aTm aT0 m19 → owH T n 7 q17 (sx m14 16 (gi mem 14 7) (gi m14 26 3)) v21.toInt q22 m19 → ¬ (v21).toInt = 0 → ∀ (v26 : Int32) (q27 : Int) (m24 : zM), aTm aT0 m24 → nuH T n (1 : Int) 9 q22 m19 v26.toInt q27 m24 → ¬ (v26).toInt = 0 → ∀ (v31 : Int32) (q32 : Int) (m29 : zM), aTm aT0 m29 → owH T n 8 q27 (sx m24 17 (gi mem 14 7) (gi m24 27 8)) v31.toInt q32 m29 → ¬ (v31).toInt = 0 → ∀ (v36 : Int32) (q37 : Int) (m34 : zM), aTm aT0 m34 → nuH T n (0 : Int) 9 q32 m29 v36.toInt q37 m34 → (v36).toInt = 0 → aTm aT0 m34 → P (some (.int 0)) m34) (h6 : (gi mem 14 7).toInt < 9 → ∀ (m2 : zM), aTm aT0 m2 → (fo 27 [] avF mem m2 ∧ cRd T n (tkf T n p).2 m2) → ∀ (v6 : Int32) (q7 : Int) (m4 : zM), aTm aT0 m4 → nnH T n Q (tkf T n p).2 m2 v6.toInt q7 m4 → ¬ (v6).toInt = 0 → ∀ (v11 : Int32) (q12 : Int) (m9 : zM), aTm aT0 m9 → owH T n 6 q7 (sx m4 15 (gi mem 14 7) (gi m4 27 8)) v11.toInt q12 m9 → ¬ (v11).toInt = 0 → ∀ (v16 : Int32) (q17 : Int) (m14 : zM), aTm aT0 m14 → ceH T n False Q q12 m9 v16.toInt q17 m14 → ¬ (v16).toInt = 0 → ∀ (v21 : Int32) (q22 : Int) (m19 : zM), aTm aT0 m19 → owH T n 7 q17 (sx m14 16 (gi mem 14 7) (gi m14 26 3)) v21.toInt q22 m19 → ¬ (v21).toInt = 0 → ∀ (v26 : Int32) (q27 : Int) (m24 : zM), aTm aT0 m24 → nuH T n (1 : Int) 9 q22 m19 v26.toInt q27 m24 → (v26).toInt = 0 → aTm aT0 m24 → P (some (.int 0)) m24) (h7 : (gi mem 14 7).toInt < 9 → ∀ (m2 : zM), aTm aT0 m2 → (fo 27 [] avF mem m2 ∧ cRd T n (tkf T n p).2 m2) → ∀ (v6 : Int32) (q7 : Int) (m4 : zM), aTm aT0 m4 → nnH T n Q (tkf T n p).2 m2 v6.toInt q7 m4 → ¬ (v6).toInt = 0 → ∀ (v11 : Int32) (q12 : Int) (m9 : zM), aTm aT0 m9 → owH T n 6 q7 (sx m4 15 (gi mem 14 7) (gi m4 27 8)) v11.toInt q12 m9 → ¬ (v11).toInt = 0 → ∀ (v16 : Int32) (q17 : Int) (m14 : zM), aTm aT0 m14 → ceH T n False Q q12 m9 v16.toInt q17 m14 → (v16).toInt = 0 → aTm aT0 m14 → P (some (.int 0)) m14) (h8 : (gi mem 14 7).toInt < 9 → ∀ (m2 : zM), aTm aT0 m2 → (fo 27 [] avF mem m2 ∧ cRd T n (tkf T n p).2 m2) → ∀ (v6 : Int32) (q7 : Int) (m4 : zM), aTm aT0 m4 → nnH T n Q (tkf T n p).2 m2 v6.toInt q7 m4 → (v6).toInt = 0 → aTm aT0 m4 → P (some (.int 0)) m4) (h9 : 9 ≤ (gi mem 14 7).toInt → aTm aT0 (si (si mem 27 10 6) 27 11 (gi mem 27 6)) → P (some (.int 0)) (si (si mem 27 10 6) 27 11 (gi mem 27 6))) : yR zpg tX9_takesLack (d + 4) (0, [(0, .ref 26)], [], mem) P := by
  have r7 := quB_r7 hm
  refine yR_m 1 (fun _ _ _ _ => rfl) ?_
  refine wR_gq rfl tO_e hm ht ?_
  refine wR_gi rfl quB_e quB_7 hm rfl ?_
  refine yR_m 3 (fun _ _ _ _ => rfl) ?_
  refine wR_ic_lt rfl (a := (gi mem 14 7).toInt) (c := 9) rfl rfl (fun q1 => ?_) (fun q1 => ?_)
  ·
    refine yR_m 1 (fun _ _ _ _ => rfl) ?_
    refine wR_gr rfl tO_e tO_0 hm ?_
    refine wR_cv rfl rfl rO_e hm rfl (h_avC (T := T) (n := n) (p := p) hm (cRd_t hR) hk4 (by omega)) ?_
    rintro _ m2 ⟨rfl, hI2, k3⟩
    show yR zpg tX9_takesLack (d + 4) (38, [(1, .int (gi mem 14 7)), (0, .ref 26)], [], m2) _
    refine yR_m 1 (fun _ _ _ _ => rfl) ?_
    refine wR_cv rfl rfl tO_e hI2 rfl (h_nnCB (T := T) (n := n) (p := (tkf T n p).2) (Q := Q) hI2 ((k6_26 (k6_fo k3.1 rfl) (by decide)).trans ht) k3.2 (cQ_k6B (k6_tr k6_rf (k6_fo k3.1 rfl)) hQ) (by omega)) ?_
    rintro _ m4 ⟨v6, q7, rfl, hm4, k5⟩
    show yR zpg tX9_takesLack (d + 4) (42, [(1, .int (gi mem 14 7)), (0, .ref 26)], [.int v6], m4) _
    refine wR_if_ne rfl (a := (v6).toInt) rfl (fun q8 => ?_) (fun q8 => ?_)
    ·
      refine yR_m 1 (fun _ _ _ _ => rfl) ?_
      refine wR_gq rfl tO_e hm4 ((k6_26 k5.1 (by decide)).trans ((k6_26 (k6_fo k3.1 rfl) (by decide)).trans ht)) ?_
      refine wR_gr rfl quB_e quB_8 hm4 ?_
      refine yR_m 2 (fun _ _ _ _ => rfl) ?_
      refine wR_gr rfl tO_e tO_0 hm4 ?_
      refine wR_gi rfl rO_e rO_8 hm4 rfl ?_
      refine wN_as (a := (gi mem 14 7).toInt) rfl aR_15 hm4 rfl (by omega) ?_
      have hm_1 : aTm aT0 (sx m4 15 (gi mem 14 7) (gi m4 27 8)) := tm_sa aR_15 hm4 (i32_b _)
      refine yR_m 1 (fun _ _ _ _ => rfl) ?_
      refine wR_gr rfl tO_e tO_0 hm_1 ?_
      refine yR_m 1 (fun _ _ _ _ => rfl) ?_
      refine wR_cv rfl rfl rO_e hm_1 rfl (h_owC (T := T) (n := n) (p := q7) (by decide) hm_1 (cRd_sa (by decide) (by decide) (or_1 k5.2 (by omega)).2) (by omega)) ?_
      rintro _ m9 ⟨v11, q12, rfl, hm9, k10⟩
      show yR zpg tX9_takesLack (d + 4) (72, [(1, .int (gi mem 14 7)), (0, .ref 26)], [.int v11], m9) _
      refine wR_if_eq rfl (a := (v11).toInt) rfl (fun q13 => ?_) (fun q13 => ?_)
      ·
        refine yR_m 1 (fun _ _ _ _ => rfl) ?_
        exact yR_rz rfl ⟨by decide, by decide⟩ (h1 q1 m2 hI2 k3 v6 q7 m4 hm4 k5 q8 v11 q12 m9 hm9 k10 q13 hm9)
      ·
        refine yR_m 2 (fun _ _ _ _ => rfl) ?_
        refine wR_gq rfl tO_e hm9 ((k6_26 (k6_fo k10.1 rfl) (by decide)).trans (zfl_sa.trans ((k6_26 k5.1 (by decide)).trans ((k6_26 (k6_fo k3.1 rfl) (by decide)).trans ht)))) ?_
        refine wR_gL rfl quB_e quB_6 hm9 rfl ?_
        refine wR_cv rfl rfl tO_e hm9 rfl (h_ceCB (wl := False) (T := T) (n := n) (p := q12) (Q := Q) (cQ_hz ((k6_gL (by decide) (k6_fo k10.1 rfl)).trans ((gL_sa).trans ((k6_gL (by decide) k5.1).trans (k6_gL (by decide) (k6_fo k3.1 rfl))))) hQ.2.1) hm9 ((k6_26 (k6_fo k10.1 rfl) (by decide)).trans (zfl_sa.trans ((k6_26 k5.1 (by decide)).trans ((k6_26 (k6_fo k3.1 rfl) (by decide)).trans ht)))) (ow_1 k10 (by omega)).2 hq (by rw [((k6_gi (by decide) (k6_fo k10.1 rfl)).trans ((gi_sa).trans ((k6_gi (by decide) k5.1).trans (k6_gi (by decide) (k6_fo k3.1 rfl)))))]; exact hQ.1.1) (by rw [((k6_gi (by decide) (k6_fo k10.1 rfl)).trans ((gi_sa).trans ((k6_gi (by decide) k5.1).trans (k6_gi (by decide) (k6_fo k3.1 rfl)))))]; exact hQ.1.2) (by omega)) ?_
        rintro _ m14 ⟨v16, q17, rfl, hm14, k15⟩
        show yR zpg tX9_takesLack (d + 4) (86, [(1, .int (gi mem 14 7)), (0, .ref 26)], [.int v16], m14) _
        refine wR_if_ne rfl (a := (v16).toInt) rfl (fun q18 => ?_) (fun q18 => ?_)
        ·
          refine yR_m 1 (fun _ _ _ _ => rfl) ?_
          refine wR_gq rfl tO_e hm14 ((k6_26 k15.1 (by decide)).trans ((k6_26 (k6_fo k10.1 rfl) (by decide)).trans (zfl_sa.trans ((k6_26 k5.1 (by decide)).trans ((k6_26 (k6_fo k3.1 rfl) (by decide)).trans ht))))) ?_
          refine wR_gr rfl quB_e quB_9 hm14 ?_
          refine yR_m 2 (fun _ _ _ _ => rfl) ?_
          refine wR_gi rfl tO_e tO_3 hm14 rfl ?_
          refine wN_as (a := (gi mem 14 7).toInt) rfl aR_16 hm14 rfl (by omega) ?_
          have hm_2 : aTm aT0 (sx m14 16 (gi mem 14 7) (gi m14 26 3)) := tm_sa aR_16 hm14 (i32_b _)
          refine yR_m 1 (fun _ _ _ _ => rfl) ?_
          refine wR_gr rfl tO_e tO_0 hm_2 ?_
          refine yR_m 1 (fun _ _ _ _ => rfl) ?_
          refine wR_cv rfl rfl rO_e hm_2 rfl (h_owC (T := T) (n := n) (p := q17) (by decide) hm_2 (cRd_sa (by decide) (by decide) (or_1 k15.2 (by omega)).2) (by omega)) ?_
          rintro _ m19 ⟨v21, q22, rfl, hm19, k20⟩
          show yR zpg tX9_takesLack (d + 4) (113, [(1, .int (gi mem 14 7)), (0, .ref 26)], [.int v21], m19) _
          refine wR_if_eq rfl (a := (v21).toInt) rfl (fun q23 => ?_) (fun q23 => ?_)
          ·
            refine yR_m 1 (fun _ _ _ _ => rfl) ?_
            exact yR_rz rfl ⟨by decide, by decide⟩ (h2 q1 m2 hI2 k3 v6 q7 m4 hm4 k5 q8 v11 q12 m9 hm9 k10 q13 v16 q17 m14 hm14 k15 q18 v21 q22 m19 hm19 k20 q23 hm19)
          ·
            refine yR_m 1 (fun _ _ _ _ => rfl) ?_
            refine wR_gr rfl tO_e tO_0 hm19 ?_
            refine yR_m 2 (fun _ _ _ _ => rfl) ?_
            refine wR_cv rfl rfl rO_e hm19 rfl (h_nuC (T := T) (n := n) (p := q22) hm19 (ow_1 k20 (by omega)).2 (by omega)) ?_
            rintro _ m24 ⟨v26, q27, rfl, hm24, k25⟩
            show yR zpg tX9_takesLack (d + 4) (126, [(1, .int (gi mem 14 7)), (0, .ref 26)], [.int v26], m24) _
            refine wR_if_ne rfl (a := (v26).toInt) rfl (fun q28 => ?_) (fun q28 => ?_)
            ·
              refine yR_m 1 (fun _ _ _ _ => rfl) ?_
              refine wR_gq rfl tO_e hm24 ((k6_26 (k6_fo k25.1 rfl) (by decide)).trans ((k6_26 (k6_fo k20.1 rfl) (by decide)).trans (zfl_sa.trans ((k6_26 k15.1 (by decide)).trans ((k6_26 (k6_fo k10.1 rfl) (by decide)).trans (zfl_sa.trans ((k6_26 k5.1 (by decide)).trans ((k6_26 (k6_fo k3.1 rfl) (by decide)).trans ht)))))))) ?_
              refine wR_gr rfl quB_e quB_10 hm24 ?_
              refine yR_m 2 (fun _ _ _ _ => rfl) ?_
              refine wR_gr rfl tO_e tO_0 hm24 ?_
              refine wR_gi rfl rO_e rO_8 hm24 rfl ?_
              refine wN_as (a := (gi mem 14 7).toInt) rfl aR_17 hm24 rfl (by omega) ?_
              have hm_3 : aTm aT0 (sx m24 17 (gi mem 14 7) (gi m24 27 8)) := tm_sa aR_17 hm24 (i32_b _)
              refine yR_m 1 (fun _ _ _ _ => rfl) ?_
              refine wR_gr rfl tO_e tO_0 hm_3 ?_
              refine yR_m 1 (fun _ _ _ _ => rfl) ?_
              refine wR_cv rfl rfl rO_e hm_3 rfl (h_owC (T := T) (n := n) (p := q27) (by decide) hm_3 (cRd_sa (by decide) (by decide) (nu_1 k25 (by omega)).2) (by omega)) ?_
              rintro _ m29 ⟨v31, q32, rfl, hm29, k30⟩
              show yR zpg tX9_takesLack (d + 4) (156, [(1, .int (gi mem 14 7)), (0, .ref 26)], [.int v31], m29) _
              refine wR_if_eq rfl (a := (v31).toInt) rfl (fun q33 => ?_) (fun q33 => ?_)
              ·
                refine yR_m 1 (fun _ _ _ _ => rfl) ?_
                exact yR_rz rfl ⟨by decide, by decide⟩ (h3 q1 m2 hI2 k3 v6 q7 m4 hm4 k5 q8 v11 q12 m9 hm9 k10 q13 v16 q17 m14 hm14 k15 q18 v21 q22 m19 hm19 k20 q23 v26 q27 m24 hm24 k25 q28 v31 q32 m29 hm29 k30 q33 hm29)
              ·
                refine yR_m 1 (fun _ _ _ _ => rfl) ?_
                refine wR_gr rfl tO_e tO_0 hm29 ?_
                refine yR_m 2 (fun _ _ _ _ => rfl) ?_
                refine wR_cv rfl rfl rO_e hm29 rfl (h_nuC (T := T) (n := n) (p := q32) hm29 (ow_1 k30 (by omega)).2 (by omega)) ?_
                rintro _ m34 ⟨v36, q37, rfl, hm34, k35⟩
                show yR zpg tX9_takesLack (d + 4) (169, [(1, .int (gi mem 14 7)), (0, .ref 26)], [.int v36], m34) _
                refine wR_if_ne rfl (a := (v36).toInt) rfl (fun q38 => ?_) (fun q38 => ?_)
                ·
                  refine yR_m 1 (fun _ _ _ _ => rfl) ?_
                  refine wR_gq rfl tO_e hm34 ((k6_26 (k6_fo k35.1 rfl) (by decide)).trans ((k6_26 (k6_fo k30.1 rfl) (by decide)).trans (zfl_sa.trans ((k6_26 (k6_fo k25.1 rfl) (by decide)).trans ((k6_26 (k6_fo k20.1 rfl) (by decide)).trans (zfl_sa.trans ((k6_26 k15.1 (by decide)).trans ((k6_26 (k6_fo k10.1 rfl) (by decide)).trans (zfl_sa.trans ((k6_26 k5.1 (by decide)).trans ((k6_26 (k6_fo k3.1 rfl) (by decide)).trans ht))))))))))) ?_
                  refine wR_gr rfl quB_e quB_11 hm34 ?_
                  refine yR_m 2 (fun _ _ _ _ => rfl) ?_
                  refine wR_gr rfl tO_e tO_0 hm34 ?_
                  refine wR_gi rfl rO_e rO_8 hm34 rfl ?_
                  refine wN_as (a := (gi mem 14 7).toInt) rfl aR_18 hm34 rfl (by omega) ?_
                  have hm_4 : aTm aT0 (sx m34 18 (gi mem 14 7) (gi m34 27 8)) := tm_sa aR_18 hm34 (i32_b _)
                  refine yR_m 1 (fun _ _ _ _ => rfl) ?_
                  refine wR_gq rfl tO_e hm_4 (zfl_sa.trans ((k6_26 (k6_fo k35.1 rfl) (by decide)).trans ((k6_26 (k6_fo k30.1 rfl) (by decide)).trans (zfl_sa.trans ((k6_26 (k6_fo k25.1 rfl) (by decide)).trans ((k6_26 (k6_fo k20.1 rfl) (by decide)).trans (zfl_sa.trans ((k6_26 k15.1 (by decide)).trans ((k6_26 (k6_fo k10.1 rfl) (by decide)).trans (zfl_sa.trans ((k6_26 k5.1 (by decide)).trans ((k6_26 (k6_fo k3.1 rfl) (by decide)).trans ht)))))))))))) ?_
                  refine yR_m 1 (fun _ _ _ _ => rfl) ?_
                  refine wR_gi rfl quB_e quB_12 hm_4 (gi_sa) ?_
                  refine yR_m 4 (fun _ _ _ _ => rfl) ?_
                  refine wR_pi rfl quB_e quB_12 hm_4 rfl ?_
                  have hm_5 : aTm aT0 (si (sx m34 18 (gi mem 14 7) (gi m34 27 8)) 14 12 ((gi m34 14 12) ||| (1 <<< ((gi mem 14 7) &&& 31)))) := tm_si quB_e quB_12 hm_4 (s1 q1 m2 hI2 k3 v6 q7 m4 hm4 k5 q8 v11 q12 m9 hm9 k10 q13 v16 q17 m14 hm14 k15 q18 v21 q22 m19 hm19 k20 q23 v26 q27 m24 hm24 k25 q28 v31 q32 m29 hm29 k30 q33 v36 q37 m34 hm34 k35 q38)
                  refine yR_m 1 (fun _ _ _ _ => rfl) ?_
                  refine wR_gq rfl tO_e hm_5 ((zfl_sv_ne (by decide)).trans (zfl_sa.trans ((k6_26 (k6_fo k35.1 rfl) (by decide)).trans ((k6_26 (k6_fo k30.1 rfl) (by decide)).trans (zfl_sa.trans ((k6_26 (k6_fo k25.1 rfl) (by decide)).trans ((k6_26 (k6_fo k20.1 rfl) (by decide)).trans (zfl_sa.trans ((k6_26 k15.1 (by decide)).trans ((k6_26 (k6_fo k10.1 rfl) (by decide)).trans (zfl_sa.trans ((k6_26 k5.1 (by decide)).trans ((k6_26 (k6_fo k3.1 rfl) (by decide)).trans ht))))))))))))) ?_
                  refine yR_m 2 (fun _ _ _ _ => rfl) ?_
                  refine wN_add (a := (gi mem 14 7).toInt) (b := 1) rfl rfl rfl (by omega) (fun x39 e40 => ?_)
                  refine wR_pi rfl quB_e quB_7 hm_5 rfl ?_
                  have hm_6 : aTm aT0 (si (si (sx m34 18 (gi mem 14 7) (gi m34 27 8)) 14 12 ((gi m34 14 12) ||| (1 <<< ((gi mem 14 7) &&& 31)))) 14 7 x39) := tm_si quB_e quB_7 hm_5 (by rw [e40]; exact (by omega))
                  refine yR_m 1 (fun _ _ _ _ => rfl) ?_
                  exact yR_rz rfl ⟨by decide, by decide⟩ (h4 q1 m2 hI2 k3 v6 q7 m4 hm4 k5 q8 v11 q12 m9 hm9 k10 q13 v16 q17 m14 hm14 k15 q18 v21 q22 m19 hm19 k20 q23 v26 q27 m24 hm24 k25 q28 v31 q32 m29 hm29 k30 q33 v36 q37 m34 hm34 k35 q38 x39 e40 hm_6)
                ·
                  refine yR_m 1 (fun _ _ _ _ => rfl) ?_
                  exact yR_rz rfl ⟨by decide, by decide⟩ (h5 q1 m2 hI2 k3 v6 q7 m4 hm4 k5 q8 v11 q12 m9 hm9 k10 q13 v16 q17 m14 hm14 k15 q18 v21 q22 m19 hm19 k20 q23 v26 q27 m24 hm24 k25 q28 v31 q32 m29 hm29 k30 q33 v36 q37 m34 hm34 k35 q38 hm34)
            ·
              refine yR_m 1 (fun _ _ _ _ => rfl) ?_
              exact yR_rz rfl ⟨by decide, by decide⟩ (h6 q1 m2 hI2 k3 v6 q7 m4 hm4 k5 q8 v11 q12 m9 hm9 k10 q13 v16 q17 m14 hm14 k15 q18 v21 q22 m19 hm19 k20 q23 v26 q27 m24 hm24 k25 q28 hm24)
        ·
          refine yR_m 1 (fun _ _ _ _ => rfl) ?_
          exact yR_rz rfl ⟨by decide, by decide⟩ (h7 q1 m2 hI2 k3 v6 q7 m4 hm4 k5 q8 v11 q12 m9 hm9 k10 q13 v16 q17 m14 hm14 k15 q18 hm14)
    ·
      refine yR_m 1 (fun _ _ _ _ => rfl) ?_
      exact yR_rz rfl ⟨by decide, by decide⟩ (h8 q1 m2 hI2 k3 v6 q7 m4 hm4 k5 q8 hm4)
  ·
    refine yR_m 1 (fun _ _ _ _ => rfl) ?_
    refine wR_gr rfl tO_e tO_0 hm ?_
    refine yR_m 2 (fun _ _ _ _ => rfl) ?_
    refine wR_gr rfl tO_e tO_0 hm ?_
    refine wR_gi rfl rO_e rO_6 hm rfl ?_
    refine wR_iv rfl rfl rO_e hm rfl rfl rfl rfl ?_
    show yR zpg tX5_faults (d + 3) (0, [(0, .ref 27), (1, .int 6), (2, .int (gi mem 27 6))], [], mem) _
    refine yR_m 2 (fun _ _ _ _ => rfl) ?_
    refine wR_pi rfl rO_e rO_10 hm rfl ?_
    have hm_7 : aTm aT0 (si mem 27 10 6) := tm_si rO_e rO_10 hm (i32_b _)
    refine yR_m 2 (fun _ _ _ _ => rfl) ?_
    refine wR_pi rfl rO_e rO_11 hm_7 rfl ?_
    have hm_8 : aTm aT0 (si (si mem 27 10 6) 27 11 (gi mem 27 6)) := tm_si rO_e rO_11 hm_7 (i32_b _)
    refine yR_m 1 (fun _ _ _ _ => rfl) ?_
    refine yR_rz rfl ⟨by decide, by decide⟩ ?_
    show yR zpg tX9_takesLack (d + 4) (30, [(1, .int (gi mem 14 7)), (0, .ref 26)], [.int 0], (si (si mem 27 10 6) 27 11 (gi mem 27 6))) _
    exact yR_rz rfl ⟨by decide, by decide⟩ (h9 q1 hm_8)

set_option maxRecDepth 100000 in
theorem w_foB {d : Nat} {mem : zM} {P : Option Value → zM → Prop} {T : List Int32} {n p : Int} {Q : Qd} (hm : aTm aT0 mem) (ht : zfl mem 26 2 = some (.ref 14)) (hR : cRd T n p mem) (hk4 : ¬ (tkf T n p).1.1 = 4) (hq : hqQ Q) (hQ : cQ 14 15 16 19 20 21 24 25 Q mem) (h1 : (gi mem 14 13).toInt < 6 → ∀ (m2 : zM), aTm aT0 m2 → (fo 27 [] avF mem m2 ∧ cRd T n (tkf T n p).2 m2) → ∀ (v6 : Int32) (q7 : Int) (m4 : zM), aTm aT0 m4 → nnH T n Q (tkf T n p).2 m2 v6.toInt q7 m4 → ¬ (v6).toInt = 0 → ∀ (v11 : Int32) (q12 : Int) (m9 : zM), aTm aT0 m9 → owH T n 6 q7 (sx m4 19 (gi mem 14 13) (gi m4 27 8)) v11.toInt q12 m9 → (v11).toInt = 0 → aTm aT0 m9 → P (some (.int 0)) m9) (h2 : (gi mem 14 13).toInt < 6 → ∀ (m2 : zM), aTm aT0 m2 → (fo 27 [] avF mem m2 ∧ cRd T n (tkf T n p).2 m2) → ∀ (v6 : Int32) (q7 : Int) (m4 : zM), aTm aT0 m4 → nnH T n Q (tkf T n p).2 m2 v6.toInt q7 m4 → ¬ (v6).toInt = 0 → ∀ (v11 : Int32) (q12 : Int) (m9 : zM), aTm aT0 m9 → owH T n 6 q7 (sx m4 19 (gi mem 14 13) (gi m4 27 8)) v11.toInt q12 m9 → ¬ (v11).toInt = 0 → ∀ (v16 : Int32) (q17 : Int) (m14 : zM), aTm aT0 m14 → ceH T n False Q q12 m9 v16.toInt q17 m14 → ¬ (v16).toInt = 0 → ∀ (v21 : Int32) (q22 : Int) (m19 : zM), aTm aT0 m19 → owH T n 11 q17 (sx m14 20 (gi mem 14 13) (gi m14 26 3)) v21.toInt q22 m19 → (v21).toInt = 0 → aTm aT0 m19 → P (some (.int 0)) m19) (h3 : (gi mem 14 13).toInt < 6 → ∀ (m2 : zM), aTm aT0 m2 → (fo 27 [] avF mem m2 ∧ cRd T n (tkf T n p).2 m2) → ∀ (v6 : Int32) (q7 : Int) (m4 : zM), aTm aT0 m4 → nnH T n Q (tkf T n p).2 m2 v6.toInt q7 m4 → ¬ (v6).toInt = 0 → ∀ (v11 : Int32) (q12 : Int) (m9 : zM), aTm aT0 m9 → owH T n 6 q7 (sx m4 19 (gi mem 14 13) (gi m4 27 8)) v11.toInt q12 m9 → ¬ (v11).toInt = 0 → ∀ (v16 : Int32) (q17 : Int) (m14 : zM), aTm aT0 m14 → ceH T n False Q q12 m9 v16.toInt q17 m14 → ¬ (v16).toInt = 0 → ∀ (v21 : Int32) (q22 : Int) (m19 : zM), aTm aT0 m19 → owH T n 11 q17 (sx m14 20 (gi mem 14 13) (gi m14 26 3)) v21.toInt q22 m19 → ¬ (v21).toInt = 0 → ∀ (v26 : Int32) (q27 : Int) (m24 : zM), aTm aT0 m24 → ceH T n False Q q22 m19 v26.toInt q27 m24 → ¬ (v26).toInt = 0 → ∀ (x29 : Int32), x29.toInt = ((gi mem 14 13).toInt + 1) → aTm aT0 (si (sx m24 21 (gi mem 14 13) (gi m24 26 3)) 14 13 x29) → P (some (.int 1)) (si (sx m24 21 (gi mem 14 13) (gi m24 26 3)) 14 13 x29)) (h4 : (gi mem 14 13).toInt < 6 → ∀ (m2 : zM), aTm aT0 m2 → (fo 27 [] avF mem m2 ∧ cRd T n (tkf T n p).2 m2) → ∀ (v6 : Int32) (q7 : Int) (m4 : zM), aTm aT0 m4 → nnH T n Q (tkf T n p).2 m2 v6.toInt q7 m4 → ¬ (v6).toInt = 0 → ∀ (v11 : Int32) (q12 : Int) (m9 : zM), aTm aT0 m9 → owH T n 6 q7 (sx m4 19 (gi mem 14 13) (gi m4 27 8)) v11.toInt q12 m9 → ¬ (v11).toInt = 0 → ∀ (v16 : Int32) (q17 : Int) (m14 : zM), aTm aT0 m14 → ceH T n False Q q12 m9 v16.toInt q17 m14 → ¬ (v16).toInt = 0 → ∀ (v21 : Int32) (q22 : Int) (m19 : zM), aTm aT0 m19 → owH T n 11 q17 (sx m14 20 (gi mem 14 13) (gi m14 26 3)) v21.toInt q22 m19 → ¬ (v21).toInt = 0 → ∀ (v26 : Int32) (q27 : Int) (m24 : zM), aTm aT0 m24 → ceH T n False Q q22 m19 v26.toInt q27 m24 → (v26).toInt = 0 → aTm aT0 m24 → P (some (.int 0)) m24) (h5 : (gi mem 14 13).toInt < 6 → ∀ (m2 : zM), aTm aT0 m2 → (fo 27 [] avF mem m2 ∧ cRd T n (tkf T n p).2 m2) → ∀ (v6 : Int32) (q7 : Int) (m4 : zM), aTm aT0 m4 → nnH T n Q (tkf T n p).2 m2 v6.toInt q7 m4 → ¬ (v6).toInt = 0 → ∀ (v11 : Int32) (q12 : Int) (m9 : zM), aTm aT0 m9 → owH T n 6 q7 (sx m4 19 (gi mem 14 13) (gi m4 27 8)) v11.toInt q12 m9 → ¬ (v11).toInt = 0 → ∀ (v16 : Int32) (q17 : Int) (m14 : zM), aTm aT0 m14 → ceH T n False Q q12 m9 v16.toInt q17 m14 → (v16).toInt = 0 → aTm aT0 m14 → P (some (.int 0)) m14) (h6 : (gi mem 14 13).toInt < 6 → ∀ (m2 : zM), aTm aT0 m2 → (fo 27 [] avF mem m2 ∧ cRd T n (tkf T n p).2 m2) → ∀ (v6 : Int32) (q7 : Int) (m4 : zM), aTm aT0 m4 → nnH T n Q (tkf T n p).2 m2 v6.toInt q7 m4 → (v6).toInt = 0 → aTm aT0 m4 → P (some (.int 0)) m4) (h7 : 6 ≤ (gi mem 14 13).toInt → aTm aT0 (si (si mem 27 10 6) 27 11 (gi mem 27 6)) → P (some (.int 0)) (si (si mem 27 10 6) 27 11 (gi mem 27 6))) : yR zpg tX9_takesFolk (d + 4) (0, [(0, .ref 26)], [], mem) P := by
  have r13 := quB_r13 hm
  refine yR_m 1 (fun _ _ _ _ => rfl) ?_
  refine wR_gq rfl tO_e hm ht ?_
  refine wR_gi rfl quB_e quB_13 hm rfl ?_
  refine yR_m 3 (fun _ _ _ _ => rfl) ?_
  refine wR_ic_lt rfl (a := (gi mem 14 13).toInt) (c := 6) rfl rfl (fun q1 => ?_) (fun q1 => ?_)
  ·
    refine yR_m 1 (fun _ _ _ _ => rfl) ?_
    refine wR_gr rfl tO_e tO_0 hm ?_
    refine wR_cv rfl rfl rO_e hm rfl (h_avC (T := T) (n := n) (p := p) hm (cRd_t hR) hk4 (by omega)) ?_
    rintro _ m2 ⟨rfl, hI2, k3⟩
    show yR zpg tX9_takesFolk (d + 4) (38, [(1, .int (gi mem 14 13)), (0, .ref 26)], [], m2) _
    refine yR_m 1 (fun _ _ _ _ => rfl) ?_
    refine wR_cv rfl rfl tO_e hI2 rfl (h_nnCB (T := T) (n := n) (p := (tkf T n p).2) (Q := Q) hI2 ((k6_26 (k6_fo k3.1 rfl) (by decide)).trans ht) k3.2 (cQ_k6B (k6_tr k6_rf (k6_fo k3.1 rfl)) hQ) (by omega)) ?_
    rintro _ m4 ⟨v6, q7, rfl, hm4, k5⟩
    show yR zpg tX9_takesFolk (d + 4) (42, [(1, .int (gi mem 14 13)), (0, .ref 26)], [.int v6], m4) _
    refine wR_if_ne rfl (a := (v6).toInt) rfl (fun q8 => ?_) (fun q8 => ?_)
    ·
      refine yR_m 1 (fun _ _ _ _ => rfl) ?_
      refine wR_gq rfl tO_e hm4 ((k6_26 k5.1 (by decide)).trans ((k6_26 (k6_fo k3.1 rfl) (by decide)).trans ht)) ?_
      refine wR_gr rfl quB_e quB_14 hm4 ?_
      refine yR_m 2 (fun _ _ _ _ => rfl) ?_
      refine wR_gr rfl tO_e tO_0 hm4 ?_
      refine wR_gi rfl rO_e rO_8 hm4 rfl ?_
      refine wN_as (a := (gi mem 14 13).toInt) rfl aR_19 hm4 rfl (by omega) ?_
      have hm_1 : aTm aT0 (sx m4 19 (gi mem 14 13) (gi m4 27 8)) := tm_sa aR_19 hm4 (i32_b _)
      refine yR_m 1 (fun _ _ _ _ => rfl) ?_
      refine wR_gr rfl tO_e tO_0 hm_1 ?_
      refine yR_m 1 (fun _ _ _ _ => rfl) ?_
      refine wR_cv rfl rfl rO_e hm_1 rfl (h_owC (T := T) (n := n) (p := q7) (by decide) hm_1 (cRd_sa (by decide) (by decide) (or_1 k5.2 (by omega)).2) (by omega)) ?_
      rintro _ m9 ⟨v11, q12, rfl, hm9, k10⟩
      show yR zpg tX9_takesFolk (d + 4) (72, [(1, .int (gi mem 14 13)), (0, .ref 26)], [.int v11], m9) _
      refine wR_if_eq rfl (a := (v11).toInt) rfl (fun q13 => ?_) (fun q13 => ?_)
      ·
        refine yR_m 1 (fun _ _ _ _ => rfl) ?_
        exact yR_rz rfl ⟨by decide, by decide⟩ (h1 q1 m2 hI2 k3 v6 q7 m4 hm4 k5 q8 v11 q12 m9 hm9 k10 q13 hm9)
      ·
        refine yR_m 2 (fun _ _ _ _ => rfl) ?_
        refine wR_gq rfl tO_e hm9 ((k6_26 (k6_fo k10.1 rfl) (by decide)).trans (zfl_sa.trans ((k6_26 k5.1 (by decide)).trans ((k6_26 (k6_fo k3.1 rfl) (by decide)).trans ht)))) ?_
        refine wR_gL rfl quB_e quB_6 hm9 rfl ?_
        refine wR_cv rfl rfl tO_e hm9 rfl (h_ceCB (wl := False) (T := T) (n := n) (p := q12) (Q := Q) (cQ_hz ((k6_gL (by decide) (k6_fo k10.1 rfl)).trans ((gL_sa).trans ((k6_gL (by decide) k5.1).trans (k6_gL (by decide) (k6_fo k3.1 rfl))))) hQ.2.1) hm9 ((k6_26 (k6_fo k10.1 rfl) (by decide)).trans (zfl_sa.trans ((k6_26 k5.1 (by decide)).trans ((k6_26 (k6_fo k3.1 rfl) (by decide)).trans ht)))) (ow_1 k10 (by omega)).2 hq (by rw [((k6_gi (by decide) (k6_fo k10.1 rfl)).trans ((gi_sa).trans ((k6_gi (by decide) k5.1).trans (k6_gi (by decide) (k6_fo k3.1 rfl)))))]; exact hQ.1.1) (by rw [((k6_gi (by decide) (k6_fo k10.1 rfl)).trans ((gi_sa).trans ((k6_gi (by decide) k5.1).trans (k6_gi (by decide) (k6_fo k3.1 rfl)))))]; exact hQ.1.2) (by omega)) ?_
        rintro _ m14 ⟨v16, q17, rfl, hm14, k15⟩
        show yR zpg tX9_takesFolk (d + 4) (86, [(1, .int (gi mem 14 13)), (0, .ref 26)], [.int v16], m14) _
        refine wR_if_ne rfl (a := (v16).toInt) rfl (fun q18 => ?_) (fun q18 => ?_)
        ·
          refine yR_m 1 (fun _ _ _ _ => rfl) ?_
          refine wR_gq rfl tO_e hm14 ((k6_26 k15.1 (by decide)).trans ((k6_26 (k6_fo k10.1 rfl) (by decide)).trans (zfl_sa.trans ((k6_26 k5.1 (by decide)).trans ((k6_26 (k6_fo k3.1 rfl) (by decide)).trans ht))))) ?_
          refine wR_gr rfl quB_e quB_15 hm14 ?_
          refine yR_m 2 (fun _ _ _ _ => rfl) ?_
          refine wR_gi rfl tO_e tO_3 hm14 rfl ?_
          refine wN_as (a := (gi mem 14 13).toInt) rfl aR_20 hm14 rfl (by omega) ?_
          have hm_2 : aTm aT0 (sx m14 20 (gi mem 14 13) (gi m14 26 3)) := tm_sa aR_20 hm14 (i32_b _)
          refine yR_m 1 (fun _ _ _ _ => rfl) ?_
          refine wR_gr rfl tO_e tO_0 hm_2 ?_
          refine yR_m 1 (fun _ _ _ _ => rfl) ?_
          refine wR_cv rfl rfl rO_e hm_2 rfl (h_owC (T := T) (n := n) (p := q17) (by decide) hm_2 (cRd_sa (by decide) (by decide) (or_1 k15.2 (by omega)).2) (by omega)) ?_
          rintro _ m19 ⟨v21, q22, rfl, hm19, k20⟩
          show yR zpg tX9_takesFolk (d + 4) (113, [(1, .int (gi mem 14 13)), (0, .ref 26)], [.int v21], m19) _
          refine wR_if_eq rfl (a := (v21).toInt) rfl (fun q23 => ?_) (fun q23 => ?_)
          ·
            refine yR_m 1 (fun _ _ _ _ => rfl) ?_
            exact yR_rz rfl ⟨by decide, by decide⟩ (h2 q1 m2 hI2 k3 v6 q7 m4 hm4 k5 q8 v11 q12 m9 hm9 k10 q13 v16 q17 m14 hm14 k15 q18 v21 q22 m19 hm19 k20 q23 hm19)
          ·
            refine yR_m 2 (fun _ _ _ _ => rfl) ?_
            refine wR_gq rfl tO_e hm19 ((k6_26 (k6_fo k20.1 rfl) (by decide)).trans (zfl_sa.trans ((k6_26 k15.1 (by decide)).trans ((k6_26 (k6_fo k10.1 rfl) (by decide)).trans (zfl_sa.trans ((k6_26 k5.1 (by decide)).trans ((k6_26 (k6_fo k3.1 rfl) (by decide)).trans ht))))))) ?_
            refine wR_gL rfl quB_e quB_6 hm19 rfl ?_
            refine wR_cv rfl rfl tO_e hm19 rfl (h_ceCB (wl := False) (T := T) (n := n) (p := q22) (Q := Q) (cQ_hz ((k6_gL (by decide) (k6_fo k20.1 rfl)).trans ((gL_sa).trans ((k6_gL (by decide) k15.1).trans ((k6_gL (by decide) (k6_fo k10.1 rfl)).trans ((gL_sa).trans ((k6_gL (by decide) k5.1).trans (k6_gL (by decide) (k6_fo k3.1 rfl)))))))) hQ.2.1) hm19 ((k6_26 (k6_fo k20.1 rfl) (by decide)).trans (zfl_sa.trans ((k6_26 k15.1 (by decide)).trans ((k6_26 (k6_fo k10.1 rfl) (by decide)).trans (zfl_sa.trans ((k6_26 k5.1 (by decide)).trans ((k6_26 (k6_fo k3.1 rfl) (by decide)).trans ht))))))) (ow_1 k20 (by omega)).2 hq (by rw [((k6_gi (by decide) (k6_fo k20.1 rfl)).trans ((gi_sa).trans ((k6_gi (by decide) k15.1).trans ((k6_gi (by decide) (k6_fo k10.1 rfl)).trans ((gi_sa).trans ((k6_gi (by decide) k5.1).trans (k6_gi (by decide) (k6_fo k3.1 rfl))))))))]; exact hQ.1.1) (by rw [((k6_gi (by decide) (k6_fo k20.1 rfl)).trans ((gi_sa).trans ((k6_gi (by decide) k15.1).trans ((k6_gi (by decide) (k6_fo k10.1 rfl)).trans ((gi_sa).trans ((k6_gi (by decide) k5.1).trans (k6_gi (by decide) (k6_fo k3.1 rfl))))))))]; exact hQ.1.2) (by omega)) ?_
            rintro _ m24 ⟨v26, q27, rfl, hm24, k25⟩
            show yR zpg tX9_takesFolk (d + 4) (127, [(1, .int (gi mem 14 13)), (0, .ref 26)], [.int v26], m24) _
            refine wR_if_ne rfl (a := (v26).toInt) rfl (fun q28 => ?_) (fun q28 => ?_)
            ·
              refine yR_m 1 (fun _ _ _ _ => rfl) ?_
              refine wR_gq rfl tO_e hm24 ((k6_26 k25.1 (by decide)).trans ((k6_26 (k6_fo k20.1 rfl) (by decide)).trans (zfl_sa.trans ((k6_26 k15.1 (by decide)).trans ((k6_26 (k6_fo k10.1 rfl) (by decide)).trans (zfl_sa.trans ((k6_26 k5.1 (by decide)).trans ((k6_26 (k6_fo k3.1 rfl) (by decide)).trans ht)))))))) ?_
              refine wR_gr rfl quB_e quB_16 hm24 ?_
              refine yR_m 2 (fun _ _ _ _ => rfl) ?_
              refine wR_gi rfl tO_e tO_3 hm24 rfl ?_
              refine wN_as (a := (gi mem 14 13).toInt) rfl aR_21 hm24 rfl (by omega) ?_
              have hm_3 : aTm aT0 (sx m24 21 (gi mem 14 13) (gi m24 26 3)) := tm_sa aR_21 hm24 (i32_b _)
              refine yR_m 1 (fun _ _ _ _ => rfl) ?_
              refine wR_gq rfl tO_e hm_3 (zfl_sa.trans ((k6_26 k25.1 (by decide)).trans ((k6_26 (k6_fo k20.1 rfl) (by decide)).trans (zfl_sa.trans ((k6_26 k15.1 (by decide)).trans ((k6_26 (k6_fo k10.1 rfl) (by decide)).trans (zfl_sa.trans ((k6_26 k5.1 (by decide)).trans ((k6_26 (k6_fo k3.1 rfl) (by decide)).trans ht))))))))) ?_
              refine yR_m 2 (fun _ _ _ _ => rfl) ?_
              refine wN_add (a := (gi mem 14 13).toInt) (b := 1) rfl rfl rfl (by omega) (fun x29 e30 => ?_)
              refine wR_pi rfl quB_e quB_13 hm_3 rfl ?_
              have hm_4 : aTm aT0 (si (sx m24 21 (gi mem 14 13) (gi m24 26 3)) 14 13 x29) := tm_si quB_e quB_13 hm_3 (by rw [e30]; exact (by omega))
              refine yR_m 1 (fun _ _ _ _ => rfl) ?_
              exact yR_rz rfl ⟨by decide, by decide⟩ (h3 q1 m2 hI2 k3 v6 q7 m4 hm4 k5 q8 v11 q12 m9 hm9 k10 q13 v16 q17 m14 hm14 k15 q18 v21 q22 m19 hm19 k20 q23 v26 q27 m24 hm24 k25 q28 x29 e30 hm_4)
            ·
              refine yR_m 1 (fun _ _ _ _ => rfl) ?_
              exact yR_rz rfl ⟨by decide, by decide⟩ (h4 q1 m2 hI2 k3 v6 q7 m4 hm4 k5 q8 v11 q12 m9 hm9 k10 q13 v16 q17 m14 hm14 k15 q18 v21 q22 m19 hm19 k20 q23 v26 q27 m24 hm24 k25 q28 hm24)
        ·
          refine yR_m 1 (fun _ _ _ _ => rfl) ?_
          exact yR_rz rfl ⟨by decide, by decide⟩ (h5 q1 m2 hI2 k3 v6 q7 m4 hm4 k5 q8 v11 q12 m9 hm9 k10 q13 v16 q17 m14 hm14 k15 q18 hm14)
    ·
      refine yR_m 1 (fun _ _ _ _ => rfl) ?_
      exact yR_rz rfl ⟨by decide, by decide⟩ (h6 q1 m2 hI2 k3 v6 q7 m4 hm4 k5 q8 hm4)
  ·
    refine yR_m 1 (fun _ _ _ _ => rfl) ?_
    refine wR_gr rfl tO_e tO_0 hm ?_
    refine yR_m 2 (fun _ _ _ _ => rfl) ?_
    refine wR_gr rfl tO_e tO_0 hm ?_
    refine wR_gi rfl rO_e rO_6 hm rfl ?_
    refine wR_iv rfl rfl rO_e hm rfl rfl rfl rfl ?_
    show yR zpg tX5_faults (d + 3) (0, [(0, .ref 27), (1, .int 6), (2, .int (gi mem 27 6))], [], mem) _
    refine yR_m 2 (fun _ _ _ _ => rfl) ?_
    refine wR_pi rfl rO_e rO_10 hm rfl ?_
    have hm_5 : aTm aT0 (si mem 27 10 6) := tm_si rO_e rO_10 hm (i32_b _)
    refine yR_m 2 (fun _ _ _ _ => rfl) ?_
    refine wR_pi rfl rO_e rO_11 hm_5 rfl ?_
    have hm_6 : aTm aT0 (si (si mem 27 10 6) 27 11 (gi mem 27 6)) := tm_si rO_e rO_11 hm_5 (i32_b _)
    refine yR_m 1 (fun _ _ _ _ => rfl) ?_
    refine yR_rz rfl ⟨by decide, by decide⟩ ?_
    show yR zpg tX9_takesFolk (d + 4) (30, [(1, .int (gi mem 14 13)), (0, .ref 26)], [.int 0], (si (si mem 27 10 6) 27 11 (gi mem 27 6))) _
    exact yR_rz rfl ⟨by decide, by decide⟩ (h7 q1 hm_6)

theorem h_laCB (hm : aTm aT0 mem) (ht : zfl mem 26 2 = some (.ref 14)) (hR : cRd T n p mem) (h4 : ¬ (tkf T n p).1.1 = 4) (hq : hqQ Q) (hQ : cQ 14 15 16 19 20 21 24 25 Q mem) (hs : (gi mem 22 3).toInt ≤ p) (hd : 5 ≤ d) : yC zpg d 92 [.ref 26] mem (fun a m => ∃ (v : Int32) (q : Int), a = some (.int v) ∧ aTm aT0 m ∧ stCB T n mem (oif ((Qt Q).length < 9) (sLac T n Q (tkf T n p).2)) v.toInt q m) := by
  obtain ⟨d, rfl⟩ : ∃ q, d = q + 5 := ⟨d - 5, by omega⟩
  refine yC_of (t := tX9_takesLack) rfl rfl ?_
  exact w_laB (T := T) (n := n) (p := p) (Q := Q) hm ht hR h4 hq hQ
        (fun q1 m2 hI2 k3 v6 q7 m4 hm4 k5 q8 v11 q12 m9 hm9 k10 q13 hm2 => by
          have q7 := hQ.2.2.1.1
          have r9 := quB_r7 hm
          obtain ⟨l, n1, n2, n3⟩ := (or_1 k5.2 (by omega)).1
          exact ⟨_, p, rfl, hm2, ⟨((k6_26 (k6_fo k10.1 rfl) (by decide)).trans (zfl_sa.trans ((k6_26 k5.1 (by decide)).trans ((k6_26 (k6_fo k3.1 rfl) (by decide)).trans ht)))), ((k6_gi (by decide) (k6_fo k10.1 rfl)).trans ((gi_sa).trans ((k6_gi (by decide) k5.1).trans (k6_gi (by decide) (k6_fo k3.1 rfl))))), ((zo_k6 (k6_fo k10.1 rfl)).trans ((zo_sa (by decide)).trans ((zo_k6 k5.1).trans (zo_k6 (k6_fo k3.1 rfl)))))⟩, Or.inr (Or.inl ⟨rfl, (oif_t (by omega)).trans ((ob_1 n1).trans (ob_0 (ow_0 k10 (by omega))))⟩)⟩)
        (fun q1 m2 hI2 k3 v6 q7 m4 hm4 k5 q8 v11 q12 m9 hm9 k10 q13 v16 q17 m14 hm14 k15 q18 v21 q22 m19 hm19 k20 q23 hm2 => by
          have q7 := hQ.2.2.1.1
          have r9 := quB_r7 hm
          obtain ⟨l, n1, n2, n3⟩ := (or_1 k5.2 (by omega)).1
          exact ⟨_, p, rfl, hm2, ⟨((k6_26 (k6_fo k20.1 rfl) (by decide)).trans (zfl_sa.trans ((k6_26 k15.1 (by decide)).trans ((k6_26 (k6_fo k10.1 rfl) (by decide)).trans (zfl_sa.trans ((k6_26 k5.1 (by decide)).trans ((k6_26 (k6_fo k3.1 rfl) (by decide)).trans ht))))))), ((k6_gi (by decide) (k6_fo k20.1 rfl)).trans ((gi_sa).trans ((k6_gi (by decide) k15.1).trans ((k6_gi (by decide) (k6_fo k10.1 rfl)).trans ((gi_sa).trans ((k6_gi (by decide) k5.1).trans (k6_gi (by decide) (k6_fo k3.1 rfl)))))))), ((zo_k6 (k6_fo k20.1 rfl)).trans ((zo_sa (by decide)).trans ((zo_k6 k15.1).trans ((zo_k6 (k6_fo k10.1 rfl)).trans ((zo_sa (by decide)).trans ((zo_k6 k5.1).trans (zo_k6 (k6_fo k3.1 rfl))))))))⟩, Or.inr (Or.inl ⟨rfl, (oif_t (by omega)).trans ((ob_1 n1).trans ((ob_1 (ow_1 k10 (by omega)).1).trans ((ob_1 (or_1 k15.2 (by omega)).1.1).trans (ob_0 (ow_0 k20 (by omega))))))⟩)⟩)
        (fun q1 m2 hI2 k3 v6 q7 m4 hm4 k5 q8 v11 q12 m9 hm9 k10 q13 v16 q17 m14 hm14 k15 q18 v21 q22 m19 hm19 k20 q23 v26 q27 m24 hm24 k25 q28 v31 q32 m29 hm29 k30 q33 hm2 => by
          have q7 := hQ.2.2.1.1
          have r9 := quB_r7 hm
          obtain ⟨l, n1, n2, n3⟩ := (or_1 k5.2 (by omega)).1
          exact ⟨_, p, rfl, hm2, ⟨((k6_26 (k6_fo k30.1 rfl) (by decide)).trans (zfl_sa.trans ((k6_26 (k6_fo k25.1 rfl) (by decide)).trans ((k6_26 (k6_fo k20.1 rfl) (by decide)).trans (zfl_sa.trans ((k6_26 k15.1 (by decide)).trans ((k6_26 (k6_fo k10.1 rfl) (by decide)).trans (zfl_sa.trans ((k6_26 k5.1 (by decide)).trans ((k6_26 (k6_fo k3.1 rfl) (by decide)).trans ht)))))))))), ((k6_gi (by decide) (k6_fo k30.1 rfl)).trans ((gi_sa).trans ((k6_gi (by decide) (k6_fo k25.1 rfl)).trans ((k6_gi (by decide) (k6_fo k20.1 rfl)).trans ((gi_sa).trans ((k6_gi (by decide) k15.1).trans ((k6_gi (by decide) (k6_fo k10.1 rfl)).trans ((gi_sa).trans ((k6_gi (by decide) k5.1).trans (k6_gi (by decide) (k6_fo k3.1 rfl))))))))))), ((zo_k6 (k6_fo k30.1 rfl)).trans ((zo_sa (by decide)).trans ((zo_k6 (k6_fo k25.1 rfl)).trans ((zo_k6 (k6_fo k20.1 rfl)).trans ((zo_sa (by decide)).trans ((zo_k6 k15.1).trans ((zo_k6 (k6_fo k10.1 rfl)).trans ((zo_sa (by decide)).trans ((zo_k6 k5.1).trans (zo_k6 (k6_fo k3.1 rfl)))))))))))⟩, Or.inr (Or.inl ⟨rfl, (oif_t (by omega)).trans ((ob_1 n1).trans ((ob_1 (ow_1 k10 (by omega)).1).trans ((ob_1 (or_1 k15.2 (by omega)).1.1).trans ((ob_1 (ow_1 k20 (by omega)).1).trans ((ob_1 (nu_1 k25 (by omega)).1.1).trans (ob_0 (ow_0 k30 (by omega))))))))⟩)⟩)
        (fun q1 m2 hI2 k3 v6 q7 m4 hm4 k5 q8 v11 q12 m9 hm9 k10 q13 v16 q17 m14 hm14 k15 q18 v21 q22 m19 hm19 k20 q23 v26 q27 m24 hm24 k25 q28 v31 q32 m29 hm29 k30 q33 v36 q37 m34 hm34 k35 q38 => by
          have q7 := hQ.2.2.1.1
          have r9 := quB_r7 hm
          have r8 := quB_r12 hm34
          exact or_rg (t := 1) r8.1 r8.2 (by decide) (by decide) (by omega) (by omega))
        (fun q1 m2 hI2 k3 v6 q7 m4 hm4 k5 q8 v11 q12 m9 hm9 k10 q13 v16 q17 m14 hm14 k15 q18 v21 q22 m19 hm19 k20 q23 v26 q27 m24 hm24 k25 q28 v31 q32 m29 hm29 k30 q33 v36 q37 m34 hm34 k35 q38 x39 e40 hm2 => by
          have q7 := hQ.2.2.1.1
          have r9 := quB_r7 hm
          obtain ⟨l, n1, n2, n3⟩ := (or_1 k5.2 (by omega)).1
          have y0 := (tk_le hR).1
          have z1 := p_nnH k3.2 k5 (by omega)
          have z2 := p_owH (cRd_sa (by decide) (by decide) (or_1 k5.2 (by omega)).2) k10 (by omega)
          have z3 := p_ceH (ow_1 k10 (by omega)).2 k15 (by omega)
          have z4 := p_owH (cRd_sa (by decide) (by decide) (or_1 k15.2 (by omega)).2) k20 (by omega)
          have z5 := p_nuH (ow_1 k20 (by omega)).2 k25 (by omega)
          have z6 := p_owH (cRd_sa (by decide) (by decide) (nu_1 k25 (by omega)).2) k30 (by omega)
          have z7 := p_nuH (ow_1 k30 (by omega)).2 k35 (by omega)
          exact ⟨_, _, rfl, hm2, ⟨((zfl_sv_ne (by decide)).trans ((zfl_sv_ne (by decide)).trans (zfl_sa.trans ((k6_26 (k6_fo k35.1 rfl) (by decide)).trans ((k6_26 (k6_fo k30.1 rfl) (by decide)).trans (zfl_sa.trans ((k6_26 (k6_fo k25.1 rfl) (by decide)).trans ((k6_26 (k6_fo k20.1 rfl) (by decide)).trans (zfl_sa.trans ((k6_26 k15.1 (by decide)).trans ((k6_26 (k6_fo k10.1 rfl) (by decide)).trans (zfl_sa.trans ((k6_26 k5.1 (by decide)).trans ((k6_26 (k6_fo k3.1 rfl) (by decide)).trans ht)))))))))))))), ((gi_sv_ne (by decide)).trans ((gi_sv_ne (by decide)).trans ((gi_sa).trans ((k6_gi (by decide) (k6_fo k35.1 rfl)).trans ((k6_gi (by decide) (k6_fo k30.1 rfl)).trans ((gi_sa).trans ((k6_gi (by decide) (k6_fo k25.1 rfl)).trans ((k6_gi (by decide) (k6_fo k20.1 rfl)).trans ((gi_sa).trans ((k6_gi (by decide) k15.1).trans ((k6_gi (by decide) (k6_fo k10.1 rfl)).trans ((gi_sa).trans ((k6_gi (by decide) k5.1).trans (k6_gi (by decide) (k6_fo k3.1 rfl))))))))))))))), ((zo_sv (by decide)).trans ((zo_sv (by decide)).trans ((zo_sa (by decide)).trans ((zo_k6 (k6_fo k35.1 rfl)).trans ((zo_k6 (k6_fo k30.1 rfl)).trans ((zo_sa (by decide)).trans ((zo_k6 (k6_fo k25.1 rfl)).trans ((zo_k6 (k6_fo k20.1 rfl)).trans ((zo_sa (by decide)).trans ((zo_k6 k15.1).trans ((zo_k6 (k6_fo k10.1 rfl)).trans ((zo_sa (by decide)).trans ((zo_k6 k5.1).trans (zo_k6 (k6_fo k3.1 rfl)))))))))))))))⟩, Or.inl ⟨rfl, ⟨_, (oif_t (by omega)).trans ((ob_1 n1).trans ((ob_1 (ow_1 k10 (by omega)).1).trans ((ob_1 (or_1 k15.2 (by omega)).1.1).trans ((ob_1 (ow_1 k20 (by omega)).1).trans ((ob_1 (nu_1 k25 (by omega)).1.1).trans ((ob_1 (ow_1 k30 (by omega)).1).trans (om_1 (nu_1 k35 (by omega)).1.1))))))), cQ_lacB hm hQ ((gi_sv_ne (by decide)).trans ((gi_sv_ne (by decide)).trans ((gi_sa).trans ((k6_gi (by decide) (k6_fo k35.1 rfl)).trans ((k6_gi (by decide) (k6_fo k30.1 rfl)).trans ((gi_sa).trans ((k6_gi (by decide) (k6_fo k25.1 rfl)).trans ((k6_gi (by decide) (k6_fo k20.1 rfl)).trans ((gi_sa).trans ((k6_gi (by decide) k15.1).trans ((k6_gi (by decide) (k6_fo k10.1 rfl)).trans ((gi_sa).trans ((k6_gi (by decide) k5.1).trans (k6_gi (by decide) (k6_fo k3.1 rfl))))))))))))))) ((gi_sv_ne (by decide)).trans ((gi_sv_ne (by decide)).trans ((gi_sa).trans ((k6_gi (by decide) (k6_fo k35.1 rfl)).trans ((k6_gi (by decide) (k6_fo k30.1 rfl)).trans ((gi_sa).trans ((k6_gi (by decide) (k6_fo k25.1 rfl)).trans ((k6_gi (by decide) (k6_fo k20.1 rfl)).trans ((gi_sa).trans ((k6_gi (by decide) k15.1).trans ((k6_gi (by decide) (k6_fo k10.1 rfl)).trans ((gi_sa).trans ((k6_gi (by decide) k5.1).trans (k6_gi (by decide) (k6_fo k3.1 rfl))))))))))))))) ((gL_sv_ne (by decide)).trans ((gL_sv_ne (by decide)).trans ((gL_sa).trans ((k6_gL (by decide) (k6_fo k35.1 rfl)).trans ((k6_gL (by decide) (k6_fo k30.1 rfl)).trans ((gL_sa).trans ((k6_gL (by decide) (k6_fo k25.1 rfl)).trans ((k6_gL (by decide) (k6_fo k20.1 rfl)).trans ((gL_sa).trans ((k6_gL (by decide) k15.1).trans ((k6_gL (by decide) (k6_fo k10.1 rfl)).trans ((gL_sa).trans ((k6_gL (by decide) k5.1).trans (k6_gL (by decide) (k6_fo k3.1 rfl))))))))))))))) ((gi_sv_ne (by decide)).trans ((gi_sv_ne (by decide)).trans ((gi_sa).trans ((k6_gi (by decide) (k6_fo k35.1 rfl)).trans ((k6_gi (by decide) (k6_fo k30.1 rfl)).trans ((gi_sa).trans ((k6_gi (by decide) (k6_fo k25.1 rfl)).trans ((k6_gi (by decide) (k6_fo k20.1 rfl)).trans ((gi_sa).trans ((k6_gi (by decide) k15.1).trans ((k6_gi (by decide) (k6_fo k10.1 rfl)).trans ((gi_sa).trans ((k6_gi (by decide) k5.1).trans (k6_gi (by decide) (k6_fo k3.1 rfl))))))))))))))) ((ga_sv).trans ((ga_sv).trans ((ga_sa_ne (by decide)).trans ((k6_ga (by decide) (k6_fo k35.1 rfl)).trans ((k6_ga (by decide) (k6_fo k30.1 rfl)).trans ((ga_sa_ne (by decide)).trans ((k6_ga (by decide) (k6_fo k25.1 rfl)).trans ((k6_ga (by decide) (k6_fo k20.1 rfl)).trans ((ga_sa_ne (by decide)).trans ((k6_ga (by decide) k15.1).trans ((k6_ga (by decide) (k6_fo k10.1 rfl)).trans ((ga_sa_ne (by decide)).trans ((k6_ga (by decide) k5.1).trans (k6_ga (by decide) (k6_fo k3.1 rfl))))))))))))))) ((ga_sv).trans ((ga_sv).trans ((ga_sa_ne (by decide)).trans ((k6_ga (by decide) (k6_fo k35.1 rfl)).trans ((k6_ga (by decide) (k6_fo k30.1 rfl)).trans ((ga_sa_ne (by decide)).trans ((k6_ga (by decide) (k6_fo k25.1 rfl)).trans ((k6_ga (by decide) (k6_fo k20.1 rfl)).trans ((ga_sa_ne (by decide)).trans ((k6_ga (by decide) k15.1).trans ((k6_ga (by decide) (k6_fo k10.1 rfl)).trans ((ga_sa_ne (by decide)).trans ((k6_ga (by decide) k5.1).trans (k6_ga (by decide) (k6_fo k3.1 rfl))))))))))))))) ((ga_sv).trans ((ga_sv).trans ((ga_sa_ne (by decide)).trans ((k6_ga (by decide) (k6_fo k35.1 rfl)).trans ((k6_ga (by decide) (k6_fo k30.1 rfl)).trans ((ga_sa_ne (by decide)).trans ((k6_ga (by decide) (k6_fo k25.1 rfl)).trans ((k6_ga (by decide) (k6_fo k20.1 rfl)).trans ((ga_sa_ne (by decide)).trans ((k6_ga (by decide) k15.1).trans ((k6_ga (by decide) (k6_fo k10.1 rfl)).trans ((ga_sa_ne (by decide)).trans ((k6_ga (by decide) k5.1).trans (k6_ga (by decide) (k6_fo k3.1 rfl))))))))))))))) ((ga_sv).trans ((ga_sv).trans ((ga_sa_ne (by decide)).trans ((k6_ga (by decide) (k6_fo k35.1 rfl)).trans ((k6_ga (by decide) (k6_fo k30.1 rfl)).trans ((ga_sa_ne (by decide)).trans ((k6_ga (by decide) (k6_fo k25.1 rfl)).trans ((k6_ga (by decide) (k6_fo k20.1 rfl)).trans ((ga_sa_ne (by decide)).trans ((k6_ga (by decide) k15.1).trans ((k6_ga (by decide) (k6_fo k10.1 rfl)).trans ((ga_sa_ne (by decide)).trans ((k6_ga (by decide) k5.1).trans (k6_ga (by decide) (k6_fo k3.1 rfl))))))))))))))) ((ga_sv).trans ((ga_sv).trans ((ga_sa_ne (by decide)).trans ((k6_ga (by decide) (k6_fo k35.1 rfl)).trans ((k6_ga (by decide) (k6_fo k30.1 rfl)).trans ((ga_sa_ne (by decide)).trans ((k6_ga (by decide) (k6_fo k25.1 rfl)).trans ((k6_ga (by decide) (k6_fo k20.1 rfl)).trans ((ga_sa_ne (by decide)).trans ((k6_ga (by decide) k15.1).trans ((k6_ga (by decide) (k6_fo k10.1 rfl)).trans ((ga_sa_ne (by decide)).trans ((k6_ga (by decide) k5.1).trans (k6_ga (by decide) (k6_fo k3.1 rfl))))))))))))))) ((gi_sv_ne (by decide)).trans (gi_eqQ (isQ_sa (by decide) (isQ_of quB_e hm34)) quB_12)) ((k6_gi (by decide) (k6_fo k35.1 rfl)).trans ((k6_gi (by decide) (k6_fo k30.1 rfl)).trans ((gi_sa).trans ((k6_gi (by decide) (k6_fo k25.1 rfl)).trans ((k6_gi (by decide) (k6_fo k20.1 rfl)).trans ((gi_sa).trans ((k6_gi (by decide) k15.1).trans ((k6_gi (by decide) (k6_fo k10.1 rfl)).trans ((gi_sa).trans ((k6_gi (by decide) k5.1).trans (k6_gi (by decide) (k6_fo k3.1 rfl)))))))))))) ((ga_sv).trans ((ga_sv).trans ((ga_sa_ne (by decide)).trans ((k6_ga (by decide) (k6_fo k35.1 rfl)).trans ((k6_ga (by decide) (k6_fo k30.1 rfl)).trans ((ga_sa_ne (by decide)).trans ((k6_ga (by decide) (k6_fo k25.1 rfl)).trans ((k6_ga (by decide) (k6_fo k20.1 rfl)).trans ((ga_sa_ne (by decide)).trans ((k6_ga (by decide) k15.1).trans ((k6_ga (by decide) (k6_fo k10.1 rfl)).trans (ga_sa_eq.trans (congrArg (fun l => List.set l (gi mem 14 7).toNatClampNeg (gi m4 27 8)) ((k6_ga (by decide) k5.1).trans (k6_ga (by decide) (k6_fo k3.1 rfl)))))))))))))))) ((ga_sv).trans ((ga_sv).trans ((ga_sa_ne (by decide)).trans ((k6_ga (by decide) (k6_fo k35.1 rfl)).trans ((k6_ga (by decide) (k6_fo k30.1 rfl)).trans ((ga_sa_ne (by decide)).trans ((k6_ga (by decide) (k6_fo k25.1 rfl)).trans ((k6_ga (by decide) (k6_fo k20.1 rfl)).trans (ga_sa_eq.trans (congrArg (fun l => List.set l (gi mem 14 7).toNatClampNeg (gi m14 26 3)) ((k6_ga (by decide) k15.1).trans ((k6_ga (by decide) (k6_fo k10.1 rfl)).trans ((ga_sa_ne (by decide)).trans ((k6_ga (by decide) k5.1).trans (k6_ga (by decide) (k6_fo k3.1 rfl)))))))))))))))) (gi_eqQ (isQ_sv (isQ_sa (by decide) (isQ_of quB_e hm34))) quB_7) (by omega) n2 n3 (or_1 k15.2 (by omega)).1.2 (by omega) ((gi_sv_ne (by decide)).trans ((gi_sv_ne (by decide)).trans ((gi_sa).trans ((k6_gi (by decide) (k6_fo k35.1 rfl)).trans ((k6_gi (by decide) (k6_fo k30.1 rfl)).trans ((gi_sa).trans ((k6_gi (by decide) (k6_fo k25.1 rfl)).trans ((k6_gi (by decide) (k6_fo k20.1 rfl)).trans ((gi_sa).trans ((k6_gi (by decide) k15.1).trans ((k6_gi (by decide) (k6_fo k10.1 rfl)).trans ((gi_sa).trans ((k6_gi (by decide) k5.1).trans (k6_gi (by decide) (k6_fo k3.1 rfl))))))))))))))) ((gi_sv_ne (by decide)).trans ((gi_sv_ne (by decide)).trans ((gi_sa).trans ((k6_gi (by decide) (k6_fo k35.1 rfl)).trans ((k6_gi (by decide) (k6_fo k30.1 rfl)).trans ((gi_sa).trans ((k6_gi (by decide) (k6_fo k25.1 rfl)).trans ((k6_gi (by decide) (k6_fo k20.1 rfl)).trans ((gi_sa).trans ((k6_gi (by decide) k15.1).trans ((k6_gi (by decide) (k6_fo k10.1 rfl)).trans ((gi_sa).trans ((k6_gi (by decide) k5.1).trans (k6_gi (by decide) (k6_fo k3.1 rfl))))))))))))))) ((gL_sv_ne (by decide)).trans ((gL_sv_ne (by decide)).trans ((gL_sa).trans ((k6_gL (by decide) (k6_fo k35.1 rfl)).trans ((k6_gL (by decide) (k6_fo k30.1 rfl)).trans ((gL_sa).trans ((k6_gL (by decide) (k6_fo k25.1 rfl)).trans ((k6_gL (by decide) (k6_fo k20.1 rfl)).trans ((gL_sa).trans ((k6_gL (by decide) k15.1).trans ((k6_gL (by decide) (k6_fo k10.1 rfl)).trans ((gL_sa).trans ((k6_gL (by decide) k5.1).trans (k6_gL (by decide) (k6_fo k3.1 rfl))))))))))))))) ((ga_sv).trans ((ga_sv).trans ((ga_sa_ne (by decide)).trans ((k6_ga (by decide) (k6_fo k35.1 rfl)).trans ((k6_ga (by decide) (k6_fo k30.1 rfl)).trans (ga_sa_eq.trans (congrArg (fun l => List.set l (gi mem 14 7).toNatClampNeg (gi m24 27 8)) ((k6_ga (by decide) (k6_fo k25.1 rfl)).trans ((k6_ga (by decide) (k6_fo k20.1 rfl)).trans ((ga_sa_ne (by decide)).trans ((k6_ga (by decide) k15.1).trans ((k6_ga (by decide) (k6_fo k10.1 rfl)).trans ((ga_sa_ne (by decide)).trans ((k6_ga (by decide) k5.1).trans (k6_ga (by decide) (k6_fo k3.1 rfl)))))))))))))))) ((ga_sv).trans ((ga_sv).trans (ga_sa_eq.trans (congrArg (fun l => List.set l (gi mem 14 7).toNatClampNeg (gi m34 27 8)) ((k6_ga (by decide) (k6_fo k35.1 rfl)).trans ((k6_ga (by decide) (k6_fo k30.1 rfl)).trans ((ga_sa_ne (by decide)).trans ((k6_ga (by decide) (k6_fo k25.1 rfl)).trans ((k6_ga (by decide) (k6_fo k20.1 rfl)).trans ((ga_sa_ne (by decide)).trans ((k6_ga (by decide) k15.1).trans ((k6_ga (by decide) (k6_fo k10.1 rfl)).trans ((ga_sa_ne (by decide)).trans ((k6_ga (by decide) k5.1).trans (k6_ga (by decide) (k6_fo k3.1 rfl)))))))))))))))) ((ga_sv).trans ((ga_sv).trans ((ga_sa_ne (by decide)).trans ((k6_ga (by decide) (k6_fo k35.1 rfl)).trans ((k6_ga (by decide) (k6_fo k30.1 rfl)).trans ((ga_sa_ne (by decide)).trans ((k6_ga (by decide) (k6_fo k25.1 rfl)).trans ((k6_ga (by decide) (k6_fo k20.1 rfl)).trans ((ga_sa_ne (by decide)).trans ((k6_ga (by decide) k15.1).trans ((k6_ga (by decide) (k6_fo k10.1 rfl)).trans ((ga_sa_ne (by decide)).trans ((k6_ga (by decide) k5.1).trans (k6_ga (by decide) (k6_fo k3.1 rfl))))))))))))))) ((gi_sv_ne (by decide)).trans ((gi_sv_ne (by decide)).trans ((gi_sa).trans ((k6_gi (by decide) (k6_fo k35.1 rfl)).trans ((k6_gi (by decide) (k6_fo k30.1 rfl)).trans ((gi_sa).trans ((k6_gi (by decide) (k6_fo k25.1 rfl)).trans ((k6_gi (by decide) (k6_fo k20.1 rfl)).trans ((gi_sa).trans ((k6_gi (by decide) k15.1).trans ((k6_gi (by decide) (k6_fo k10.1 rfl)).trans ((gi_sa).trans ((k6_gi (by decide) k5.1).trans (k6_gi (by decide) (k6_fo k3.1 rfl)))))))))))))))⟩, (cRd_sv (by decide) (cRd_sv (by decide) (cRd_sa (by decide) (by decide) (nu_1 k35 (by omega)).2))), by rw [((gi_sv_ne (by decide)).trans ((gi_sv_ne (by decide)).trans ((gi_sa).trans ((k6_gi (by decide) (k6_fo k35.1 rfl)).trans ((k6_gi (by decide) (k6_fo k30.1 rfl)).trans ((gi_sa).trans ((k6_gi (by decide) (k6_fo k25.1 rfl)).trans ((k6_gi (by decide) (k6_fo k20.1 rfl)).trans ((gi_sa).trans ((k6_gi (by decide) k15.1).trans ((k6_gi (by decide) (k6_fo k10.1 rfl)).trans ((gi_sa).trans ((k6_gi (by decide) k5.1).trans (k6_gi (by decide) (k6_fo k3.1 rfl)))))))))))))))]; omega⟩⟩)
        (fun q1 m2 hI2 k3 v6 q7 m4 hm4 k5 q8 v11 q12 m9 hm9 k10 q13 v16 q17 m14 hm14 k15 q18 v21 q22 m19 hm19 k20 q23 v26 q27 m24 hm24 k25 q28 v31 q32 m29 hm29 k30 q33 v36 q37 m34 hm34 k35 q38 hm2 => by
          have q7 := hQ.2.2.1.1
          have r9 := quB_r7 hm
          obtain ⟨l, n1, n2, n3⟩ := (or_1 k5.2 (by omega)).1
          exact ⟨_, p, rfl, hm2, ⟨((k6_26 (k6_fo k35.1 rfl) (by decide)).trans ((k6_26 (k6_fo k30.1 rfl) (by decide)).trans (zfl_sa.trans ((k6_26 (k6_fo k25.1 rfl) (by decide)).trans ((k6_26 (k6_fo k20.1 rfl) (by decide)).trans (zfl_sa.trans ((k6_26 k15.1 (by decide)).trans ((k6_26 (k6_fo k10.1 rfl) (by decide)).trans (zfl_sa.trans ((k6_26 k5.1 (by decide)).trans ((k6_26 (k6_fo k3.1 rfl) (by decide)).trans ht))))))))))), ((k6_gi (by decide) (k6_fo k35.1 rfl)).trans ((k6_gi (by decide) (k6_fo k30.1 rfl)).trans ((gi_sa).trans ((k6_gi (by decide) (k6_fo k25.1 rfl)).trans ((k6_gi (by decide) (k6_fo k20.1 rfl)).trans ((gi_sa).trans ((k6_gi (by decide) k15.1).trans ((k6_gi (by decide) (k6_fo k10.1 rfl)).trans ((gi_sa).trans ((k6_gi (by decide) k5.1).trans (k6_gi (by decide) (k6_fo k3.1 rfl)))))))))))), ((zo_k6 (k6_fo k35.1 rfl)).trans ((zo_k6 (k6_fo k30.1 rfl)).trans ((zo_sa (by decide)).trans ((zo_k6 (k6_fo k25.1 rfl)).trans ((zo_k6 (k6_fo k20.1 rfl)).trans ((zo_sa (by decide)).trans ((zo_k6 k15.1).trans ((zo_k6 (k6_fo k10.1 rfl)).trans ((zo_sa (by decide)).trans ((zo_k6 k5.1).trans (zo_k6 (k6_fo k3.1 rfl))))))))))))⟩, Or.inr (Or.inl ⟨rfl, (oif_t (by omega)).trans ((ob_1 n1).trans ((ob_1 (ow_1 k10 (by omega)).1).trans ((ob_1 (or_1 k15.2 (by omega)).1.1).trans ((ob_1 (ow_1 k20 (by omega)).1).trans ((ob_1 (nu_1 k25 (by omega)).1.1).trans ((ob_1 (ow_1 k30 (by omega)).1).trans (om_0 (nu_0 k35 (by omega)))))))))⟩)⟩)
        (fun q1 m2 hI2 k3 v6 q7 m4 hm4 k5 q8 v11 q12 m9 hm9 k10 q13 v16 q17 m14 hm14 k15 q18 v21 q22 m19 hm19 k20 q23 v26 q27 m24 hm24 k25 q28 hm2 => by
          have q7 := hQ.2.2.1.1
          have r9 := quB_r7 hm
          obtain ⟨l, n1, n2, n3⟩ := (or_1 k5.2 (by omega)).1
          exact ⟨_, p, rfl, hm2, ⟨((k6_26 (k6_fo k25.1 rfl) (by decide)).trans ((k6_26 (k6_fo k20.1 rfl) (by decide)).trans (zfl_sa.trans ((k6_26 k15.1 (by decide)).trans ((k6_26 (k6_fo k10.1 rfl) (by decide)).trans (zfl_sa.trans ((k6_26 k5.1 (by decide)).trans ((k6_26 (k6_fo k3.1 rfl) (by decide)).trans ht)))))))), ((k6_gi (by decide) (k6_fo k25.1 rfl)).trans ((k6_gi (by decide) (k6_fo k20.1 rfl)).trans ((gi_sa).trans ((k6_gi (by decide) k15.1).trans ((k6_gi (by decide) (k6_fo k10.1 rfl)).trans ((gi_sa).trans ((k6_gi (by decide) k5.1).trans (k6_gi (by decide) (k6_fo k3.1 rfl))))))))), ((zo_k6 (k6_fo k25.1 rfl)).trans ((zo_k6 (k6_fo k20.1 rfl)).trans ((zo_sa (by decide)).trans ((zo_k6 k15.1).trans ((zo_k6 (k6_fo k10.1 rfl)).trans ((zo_sa (by decide)).trans ((zo_k6 k5.1).trans (zo_k6 (k6_fo k3.1 rfl)))))))))⟩, Or.inr (Or.inl ⟨rfl, (oif_t (by omega)).trans ((ob_1 n1).trans ((ob_1 (ow_1 k10 (by omega)).1).trans ((ob_1 (or_1 k15.2 (by omega)).1.1).trans ((ob_1 (ow_1 k20 (by omega)).1).trans (ob_0 (nu_0 k25 (by omega)))))))⟩)⟩)
        (fun q1 m2 hI2 k3 v6 q7 m4 hm4 k5 q8 v11 q12 m9 hm9 k10 q13 v16 q17 m14 hm14 k15 q18 hm2 => by
          have q7 := hQ.2.2.1.1
          have r9 := quB_r7 hm
          obtain ⟨l, n1, n2, n3⟩ := (or_1 k5.2 (by omega)).1
          exact ⟨_, p, rfl, hm2, ⟨((k6_26 k15.1 (by decide)).trans ((k6_26 (k6_fo k10.1 rfl) (by decide)).trans (zfl_sa.trans ((k6_26 k5.1 (by decide)).trans ((k6_26 (k6_fo k3.1 rfl) (by decide)).trans ht))))), ((k6_gi (by decide) k15.1).trans ((k6_gi (by decide) (k6_fo k10.1 rfl)).trans ((gi_sa).trans ((k6_gi (by decide) k5.1).trans (k6_gi (by decide) (k6_fo k3.1 rfl)))))), ((zo_k6 k15.1).trans ((zo_k6 (k6_fo k10.1 rfl)).trans ((zo_sa (by decide)).trans ((zo_k6 k5.1).trans (zo_k6 (k6_fo k3.1 rfl))))))⟩, Or.inr (Or.inl ⟨rfl, (oif_t (by omega)).trans ((ob_1 n1).trans ((ob_1 (ow_1 k10 (by omega)).1).trans (ob_0 (or_0 k15.2 (by omega)))))⟩)⟩)
        (fun q1 m2 hI2 k3 v6 q7 m4 hm4 k5 q8 hm2 => by
          have q7 := hQ.2.2.1.1
          have r9 := quB_r7 hm
          exact ⟨_, p, rfl, hm2, ⟨((k6_26 k5.1 (by decide)).trans ((k6_26 (k6_fo k3.1 rfl) (by decide)).trans ht)), ((k6_gi (by decide) k5.1).trans (k6_gi (by decide) (k6_fo k3.1 rfl))), ((zo_k6 k5.1).trans (zo_k6 (k6_fo k3.1 rfl)))⟩, Or.inr (Or.inl ⟨rfl, (oif_t (by omega)).trans (ob_0 (or_0 k5.2 (by omega)))⟩)⟩)
        (fun q1 hm2 => by
          have q7 := hQ.2.2.1.1
          have r9 := quB_r7 hm
          exact ⟨_, p, rfl, hm2, ⟨((zfl_sv_ne (by decide)).trans ((zfl_sv_ne (by decide)).trans ht)), ((gi_sv_ne (by decide)).trans (gi_sv_ne (by decide))), ((zo_sv (by decide)).trans (zo_sv (by decide)))⟩, Or.inr (Or.inl ⟨rfl, oif_f (by omega)⟩)⟩)
theorem h_foCB (hm : aTm aT0 mem) (ht : zfl mem 26 2 = some (.ref 14)) (hR : cRd T n p mem) (h4 : ¬ (tkf T n p).1.1 = 4) (hq : hqQ Q) (hQ : cQ 14 15 16 19 20 21 24 25 Q mem) (hs : (gi mem 22 3).toInt ≤ p) (hd : 5 ≤ d) : yC zpg d 94 [.ref 26] mem (fun a m => ∃ (v : Int32) (q : Int), a = some (.int v) ∧ aTm aT0 m ∧ stCB T n mem (oif ((Qf Q).length < 6) (sFol T n Q (tkf T n p).2)) v.toInt q m) := by
  obtain ⟨d, rfl⟩ : ∃ q, d = q + 5 := ⟨d - 5, by omega⟩
  refine yC_of (t := tX9_takesFolk) rfl rfl ?_
  exact w_foB (T := T) (n := n) (p := p) (Q := Q) hm ht hR h4 hq hQ
        (fun q1 m2 hI2 k3 v6 q7 m4 hm4 k5 q8 v11 q12 m9 hm9 k10 q13 hm2 => by
          have q7 := hQ.2.2.2.2.1.1
          have r9 := quB_r13 hm
          obtain ⟨l, n1, n2, n3⟩ := (or_1 k5.2 (by omega)).1
          exact ⟨_, p, rfl, hm2, ⟨((k6_26 (k6_fo k10.1 rfl) (by decide)).trans (zfl_sa.trans ((k6_26 k5.1 (by decide)).trans ((k6_26 (k6_fo k3.1 rfl) (by decide)).trans ht)))), ((k6_gi (by decide) (k6_fo k10.1 rfl)).trans ((gi_sa).trans ((k6_gi (by decide) k5.1).trans (k6_gi (by decide) (k6_fo k3.1 rfl))))), ((zo_k6 (k6_fo k10.1 rfl)).trans ((zo_sa (by decide)).trans ((zo_k6 k5.1).trans (zo_k6 (k6_fo k3.1 rfl)))))⟩, Or.inr (Or.inl ⟨rfl, (oif_t (by omega)).trans ((ob_1 n1).trans (ob_0 (ow_0 k10 (by omega))))⟩)⟩)
        (fun q1 m2 hI2 k3 v6 q7 m4 hm4 k5 q8 v11 q12 m9 hm9 k10 q13 v16 q17 m14 hm14 k15 q18 v21 q22 m19 hm19 k20 q23 hm2 => by
          have q7 := hQ.2.2.2.2.1.1
          have r9 := quB_r13 hm
          obtain ⟨l, n1, n2, n3⟩ := (or_1 k5.2 (by omega)).1
          exact ⟨_, p, rfl, hm2, ⟨((k6_26 (k6_fo k20.1 rfl) (by decide)).trans (zfl_sa.trans ((k6_26 k15.1 (by decide)).trans ((k6_26 (k6_fo k10.1 rfl) (by decide)).trans (zfl_sa.trans ((k6_26 k5.1 (by decide)).trans ((k6_26 (k6_fo k3.1 rfl) (by decide)).trans ht))))))), ((k6_gi (by decide) (k6_fo k20.1 rfl)).trans ((gi_sa).trans ((k6_gi (by decide) k15.1).trans ((k6_gi (by decide) (k6_fo k10.1 rfl)).trans ((gi_sa).trans ((k6_gi (by decide) k5.1).trans (k6_gi (by decide) (k6_fo k3.1 rfl)))))))), ((zo_k6 (k6_fo k20.1 rfl)).trans ((zo_sa (by decide)).trans ((zo_k6 k15.1).trans ((zo_k6 (k6_fo k10.1 rfl)).trans ((zo_sa (by decide)).trans ((zo_k6 k5.1).trans (zo_k6 (k6_fo k3.1 rfl))))))))⟩, Or.inr (Or.inl ⟨rfl, (oif_t (by omega)).trans ((ob_1 n1).trans ((ob_1 (ow_1 k10 (by omega)).1).trans ((ob_1 (or_1 k15.2 (by omega)).1.1).trans (ob_0 (ow_0 k20 (by omega))))))⟩)⟩)
        (fun q1 m2 hI2 k3 v6 q7 m4 hm4 k5 q8 v11 q12 m9 hm9 k10 q13 v16 q17 m14 hm14 k15 q18 v21 q22 m19 hm19 k20 q23 v26 q27 m24 hm24 k25 q28 x29 e30 hm2 => by
          have q7 := hQ.2.2.2.2.1.1
          have r9 := quB_r13 hm
          obtain ⟨l, n1, n2, n3⟩ := (or_1 k5.2 (by omega)).1
          have y0 := (tk_le hR).1
          have z1 := p_nnH k3.2 k5 (by omega)
          have z2 := p_owH (cRd_sa (by decide) (by decide) (or_1 k5.2 (by omega)).2) k10 (by omega)
          have z3 := p_ceH (ow_1 k10 (by omega)).2 k15 (by omega)
          have z4 := p_owH (cRd_sa (by decide) (by decide) (or_1 k15.2 (by omega)).2) k20 (by omega)
          have z5 := p_ceH (ow_1 k20 (by omega)).2 k25 (by omega)
          exact ⟨_, _, rfl, hm2, ⟨((zfl_sv_ne (by decide)).trans (zfl_sa.trans ((k6_26 k25.1 (by decide)).trans ((k6_26 (k6_fo k20.1 rfl) (by decide)).trans (zfl_sa.trans ((k6_26 k15.1 (by decide)).trans ((k6_26 (k6_fo k10.1 rfl) (by decide)).trans (zfl_sa.trans ((k6_26 k5.1 (by decide)).trans ((k6_26 (k6_fo k3.1 rfl) (by decide)).trans ht)))))))))), ((gi_sv_ne (by decide)).trans ((gi_sa).trans ((k6_gi (by decide) k25.1).trans ((k6_gi (by decide) (k6_fo k20.1 rfl)).trans ((gi_sa).trans ((k6_gi (by decide) k15.1).trans ((k6_gi (by decide) (k6_fo k10.1 rfl)).trans ((gi_sa).trans ((k6_gi (by decide) k5.1).trans (k6_gi (by decide) (k6_fo k3.1 rfl))))))))))), ((zo_sv (by decide)).trans ((zo_sa (by decide)).trans ((zo_k6 k25.1).trans ((zo_k6 (k6_fo k20.1 rfl)).trans ((zo_sa (by decide)).trans ((zo_k6 k15.1).trans ((zo_k6 (k6_fo k10.1 rfl)).trans ((zo_sa (by decide)).trans ((zo_k6 k5.1).trans (zo_k6 (k6_fo k3.1 rfl)))))))))))⟩, Or.inl ⟨rfl, ⟨_, (oif_t (by omega)).trans ((ob_1 n1).trans ((ob_1 (ow_1 k10 (by omega)).1).trans ((ob_1 (or_1 k15.2 (by omega)).1.1).trans ((ob_1 (ow_1 k20 (by omega)).1).trans (om_1 (or_1 k25.2 (by omega)).1.1))))), cQ_folB hm hQ ((gi_sv_ne (by decide)).trans ((gi_sa).trans ((k6_gi (by decide) k25.1).trans ((k6_gi (by decide) (k6_fo k20.1 rfl)).trans ((gi_sa).trans ((k6_gi (by decide) k15.1).trans ((k6_gi (by decide) (k6_fo k10.1 rfl)).trans ((gi_sa).trans ((k6_gi (by decide) k5.1).trans (k6_gi (by decide) (k6_fo k3.1 rfl))))))))))) ((gi_sv_ne (by decide)).trans ((gi_sa).trans ((k6_gi (by decide) k25.1).trans ((k6_gi (by decide) (k6_fo k20.1 rfl)).trans ((gi_sa).trans ((k6_gi (by decide) k15.1).trans ((k6_gi (by decide) (k6_fo k10.1 rfl)).trans ((gi_sa).trans ((k6_gi (by decide) k5.1).trans (k6_gi (by decide) (k6_fo k3.1 rfl))))))))))) ((gL_sv_ne (by decide)).trans ((gL_sa).trans ((k6_gL (by decide) k25.1).trans ((k6_gL (by decide) (k6_fo k20.1 rfl)).trans ((gL_sa).trans ((k6_gL (by decide) k15.1).trans ((k6_gL (by decide) (k6_fo k10.1 rfl)).trans ((gL_sa).trans ((k6_gL (by decide) k5.1).trans (k6_gL (by decide) (k6_fo k3.1 rfl))))))))))) ((gi_sv_ne (by decide)).trans ((gi_sa).trans ((k6_gi (by decide) k25.1).trans ((k6_gi (by decide) (k6_fo k20.1 rfl)).trans ((gi_sa).trans ((k6_gi (by decide) k15.1).trans ((k6_gi (by decide) (k6_fo k10.1 rfl)).trans ((gi_sa).trans ((k6_gi (by decide) k5.1).trans (k6_gi (by decide) (k6_fo k3.1 rfl))))))))))) ((gi_sv_ne (by decide)).trans ((gi_sa).trans ((k6_gi (by decide) k25.1).trans ((k6_gi (by decide) (k6_fo k20.1 rfl)).trans ((gi_sa).trans ((k6_gi (by decide) k15.1).trans ((k6_gi (by decide) (k6_fo k10.1 rfl)).trans ((gi_sa).trans ((k6_gi (by decide) k5.1).trans (k6_gi (by decide) (k6_fo k3.1 rfl))))))))))) ((ga_sv).trans ((ga_sa_ne (by decide)).trans ((k6_ga (by decide) k25.1).trans ((k6_ga (by decide) (k6_fo k20.1 rfl)).trans ((ga_sa_ne (by decide)).trans ((k6_ga (by decide) k15.1).trans ((k6_ga (by decide) (k6_fo k10.1 rfl)).trans ((ga_sa_ne (by decide)).trans ((k6_ga (by decide) k5.1).trans (k6_ga (by decide) (k6_fo k3.1 rfl))))))))))) ((ga_sv).trans ((ga_sa_ne (by decide)).trans ((k6_ga (by decide) k25.1).trans ((k6_ga (by decide) (k6_fo k20.1 rfl)).trans ((ga_sa_ne (by decide)).trans ((k6_ga (by decide) k15.1).trans ((k6_ga (by decide) (k6_fo k10.1 rfl)).trans ((ga_sa_ne (by decide)).trans ((k6_ga (by decide) k5.1).trans (k6_ga (by decide) (k6_fo k3.1 rfl))))))))))) ((ga_sv).trans ((ga_sa_ne (by decide)).trans ((k6_ga (by decide) k25.1).trans ((k6_ga (by decide) (k6_fo k20.1 rfl)).trans ((ga_sa_ne (by decide)).trans ((k6_ga (by decide) k15.1).trans ((k6_ga (by decide) (k6_fo k10.1 rfl)).trans ((ga_sa_ne (by decide)).trans ((k6_ga (by decide) k5.1).trans (k6_ga (by decide) (k6_fo k3.1 rfl))))))))))) ((ga_sv).trans ((ga_sa_ne (by decide)).trans ((k6_ga (by decide) k25.1).trans ((k6_ga (by decide) (k6_fo k20.1 rfl)).trans ((ga_sa_ne (by decide)).trans ((k6_ga (by decide) k15.1).trans ((k6_ga (by decide) (k6_fo k10.1 rfl)).trans ((ga_sa_ne (by decide)).trans ((k6_ga (by decide) k5.1).trans (k6_ga (by decide) (k6_fo k3.1 rfl))))))))))) ((ga_sv).trans ((ga_sa_ne (by decide)).trans ((k6_ga (by decide) k25.1).trans ((k6_ga (by decide) (k6_fo k20.1 rfl)).trans ((ga_sa_ne (by decide)).trans ((k6_ga (by decide) k15.1).trans ((k6_ga (by decide) (k6_fo k10.1 rfl)).trans (ga_sa_eq.trans (congrArg (fun l => List.set l (gi mem 14 13).toNatClampNeg (gi m4 27 8)) ((k6_ga (by decide) k5.1).trans (k6_ga (by decide) (k6_fo k3.1 rfl)))))))))))) ((ga_sv).trans ((ga_sa_ne (by decide)).trans ((k6_ga (by decide) k25.1).trans ((k6_ga (by decide) (k6_fo k20.1 rfl)).trans (ga_sa_eq.trans (congrArg (fun l => List.set l (gi mem 14 13).toNatClampNeg (gi m14 26 3)) ((k6_ga (by decide) k15.1).trans ((k6_ga (by decide) (k6_fo k10.1 rfl)).trans ((ga_sa_ne (by decide)).trans ((k6_ga (by decide) k5.1).trans (k6_ga (by decide) (k6_fo k3.1 rfl)))))))))))) ((ga_sv).trans (ga_sa_eq.trans (congrArg (fun l => List.set l (gi mem 14 13).toNatClampNeg (gi m24 26 3)) ((k6_ga (by decide) k25.1).trans ((k6_ga (by decide) (k6_fo k20.1 rfl)).trans ((ga_sa_ne (by decide)).trans ((k6_ga (by decide) k15.1).trans ((k6_ga (by decide) (k6_fo k10.1 rfl)).trans ((ga_sa_ne (by decide)).trans ((k6_ga (by decide) k5.1).trans (k6_ga (by decide) (k6_fo k3.1 rfl)))))))))))) (gi_eqQ (isQ_sa (by decide) (isQ_of quB_e hm24)) quB_13) (by omega) n2 n3 (or_1 k15.2 (by omega)).1.2 (or_1 k25.2 (by omega)).1.2 (by omega) ((gi_sv_ne (by decide)).trans ((gi_sa).trans ((k6_gi (by decide) k25.1).trans ((k6_gi (by decide) (k6_fo k20.1 rfl)).trans ((gi_sa).trans ((k6_gi (by decide) k15.1).trans ((k6_gi (by decide) (k6_fo k10.1 rfl)).trans ((gi_sa).trans ((k6_gi (by decide) k5.1).trans (k6_gi (by decide) (k6_fo k3.1 rfl))))))))))) ((gi_sv_ne (by decide)).trans ((gi_sa).trans ((k6_gi (by decide) k25.1).trans ((k6_gi (by decide) (k6_fo k20.1 rfl)).trans ((gi_sa).trans ((k6_gi (by decide) k15.1).trans ((k6_gi (by decide) (k6_fo k10.1 rfl)).trans ((gi_sa).trans ((k6_gi (by decide) k5.1).trans (k6_gi (by decide) (k6_fo k3.1 rfl))))))))))) ((gL_sv_ne (by decide)).trans ((gL_sa).trans ((k6_gL (by decide) k25.1).trans ((k6_gL (by decide) (k6_fo k20.1 rfl)).trans ((gL_sa).trans ((k6_gL (by decide) k15.1).trans ((k6_gL (by decide) (k6_fo k10.1 rfl)).trans ((gL_sa).trans ((k6_gL (by decide) k5.1).trans (k6_gL (by decide) (k6_fo k3.1 rfl))))))))))) ((ga_sv).trans ((ga_sa_ne (by decide)).trans ((k6_ga (by decide) k25.1).trans ((k6_ga (by decide) (k6_fo k20.1 rfl)).trans ((ga_sa_ne (by decide)).trans ((k6_ga (by decide) k15.1).trans ((k6_ga (by decide) (k6_fo k10.1 rfl)).trans ((ga_sa_ne (by decide)).trans ((k6_ga (by decide) k5.1).trans (k6_ga (by decide) (k6_fo k3.1 rfl))))))))))) ((ga_sv).trans ((ga_sa_ne (by decide)).trans ((k6_ga (by decide) k25.1).trans ((k6_ga (by decide) (k6_fo k20.1 rfl)).trans ((ga_sa_ne (by decide)).trans ((k6_ga (by decide) k15.1).trans ((k6_ga (by decide) (k6_fo k10.1 rfl)).trans ((ga_sa_ne (by decide)).trans ((k6_ga (by decide) k5.1).trans (k6_ga (by decide) (k6_fo k3.1 rfl))))))))))) ((ga_sv).trans ((ga_sa_ne (by decide)).trans ((k6_ga (by decide) k25.1).trans ((k6_ga (by decide) (k6_fo k20.1 rfl)).trans ((ga_sa_ne (by decide)).trans ((k6_ga (by decide) k15.1).trans ((k6_ga (by decide) (k6_fo k10.1 rfl)).trans ((ga_sa_ne (by decide)).trans ((k6_ga (by decide) k5.1).trans (k6_ga (by decide) (k6_fo k3.1 rfl))))))))))) ((gi_sv_ne (by decide)).trans ((gi_sa).trans ((k6_gi (by decide) k25.1).trans ((k6_gi (by decide) (k6_fo k20.1 rfl)).trans ((gi_sa).trans ((k6_gi (by decide) k15.1).trans ((k6_gi (by decide) (k6_fo k10.1 rfl)).trans ((gi_sa).trans ((k6_gi (by decide) k5.1).trans (k6_gi (by decide) (k6_fo k3.1 rfl)))))))))))⟩, (cRd_sv (by decide) (cRd_sa (by decide) (by decide) (or_1 k25.2 (by omega)).2)), by rw [((gi_sv_ne (by decide)).trans ((gi_sa).trans ((k6_gi (by decide) k25.1).trans ((k6_gi (by decide) (k6_fo k20.1 rfl)).trans ((gi_sa).trans ((k6_gi (by decide) k15.1).trans ((k6_gi (by decide) (k6_fo k10.1 rfl)).trans ((gi_sa).trans ((k6_gi (by decide) k5.1).trans (k6_gi (by decide) (k6_fo k3.1 rfl)))))))))))]; omega⟩⟩)
        (fun q1 m2 hI2 k3 v6 q7 m4 hm4 k5 q8 v11 q12 m9 hm9 k10 q13 v16 q17 m14 hm14 k15 q18 v21 q22 m19 hm19 k20 q23 v26 q27 m24 hm24 k25 q28 hm2 => by
          have q7 := hQ.2.2.2.2.1.1
          have r9 := quB_r13 hm
          obtain ⟨l, n1, n2, n3⟩ := (or_1 k5.2 (by omega)).1
          exact ⟨_, p, rfl, hm2, ⟨((k6_26 k25.1 (by decide)).trans ((k6_26 (k6_fo k20.1 rfl) (by decide)).trans (zfl_sa.trans ((k6_26 k15.1 (by decide)).trans ((k6_26 (k6_fo k10.1 rfl) (by decide)).trans (zfl_sa.trans ((k6_26 k5.1 (by decide)).trans ((k6_26 (k6_fo k3.1 rfl) (by decide)).trans ht)))))))), ((k6_gi (by decide) k25.1).trans ((k6_gi (by decide) (k6_fo k20.1 rfl)).trans ((gi_sa).trans ((k6_gi (by decide) k15.1).trans ((k6_gi (by decide) (k6_fo k10.1 rfl)).trans ((gi_sa).trans ((k6_gi (by decide) k5.1).trans (k6_gi (by decide) (k6_fo k3.1 rfl))))))))), ((zo_k6 k25.1).trans ((zo_k6 (k6_fo k20.1 rfl)).trans ((zo_sa (by decide)).trans ((zo_k6 k15.1).trans ((zo_k6 (k6_fo k10.1 rfl)).trans ((zo_sa (by decide)).trans ((zo_k6 k5.1).trans (zo_k6 (k6_fo k3.1 rfl)))))))))⟩, Or.inr (Or.inl ⟨rfl, (oif_t (by omega)).trans ((ob_1 n1).trans ((ob_1 (ow_1 k10 (by omega)).1).trans ((ob_1 (or_1 k15.2 (by omega)).1.1).trans ((ob_1 (ow_1 k20 (by omega)).1).trans (om_0 (or_0 k25.2 (by omega)))))))⟩)⟩)
        (fun q1 m2 hI2 k3 v6 q7 m4 hm4 k5 q8 v11 q12 m9 hm9 k10 q13 v16 q17 m14 hm14 k15 q18 hm2 => by
          have q7 := hQ.2.2.2.2.1.1
          have r9 := quB_r13 hm
          obtain ⟨l, n1, n2, n3⟩ := (or_1 k5.2 (by omega)).1
          exact ⟨_, p, rfl, hm2, ⟨((k6_26 k15.1 (by decide)).trans ((k6_26 (k6_fo k10.1 rfl) (by decide)).trans (zfl_sa.trans ((k6_26 k5.1 (by decide)).trans ((k6_26 (k6_fo k3.1 rfl) (by decide)).trans ht))))), ((k6_gi (by decide) k15.1).trans ((k6_gi (by decide) (k6_fo k10.1 rfl)).trans ((gi_sa).trans ((k6_gi (by decide) k5.1).trans (k6_gi (by decide) (k6_fo k3.1 rfl)))))), ((zo_k6 k15.1).trans ((zo_k6 (k6_fo k10.1 rfl)).trans ((zo_sa (by decide)).trans ((zo_k6 k5.1).trans (zo_k6 (k6_fo k3.1 rfl))))))⟩, Or.inr (Or.inl ⟨rfl, (oif_t (by omega)).trans ((ob_1 n1).trans ((ob_1 (ow_1 k10 (by omega)).1).trans (ob_0 (or_0 k15.2 (by omega)))))⟩)⟩)
        (fun q1 m2 hI2 k3 v6 q7 m4 hm4 k5 q8 hm2 => by
          have q7 := hQ.2.2.2.2.1.1
          have r9 := quB_r13 hm
          exact ⟨_, p, rfl, hm2, ⟨((k6_26 k5.1 (by decide)).trans ((k6_26 (k6_fo k3.1 rfl) (by decide)).trans ht)), ((k6_gi (by decide) k5.1).trans (k6_gi (by decide) (k6_fo k3.1 rfl))), ((zo_k6 k5.1).trans (zo_k6 (k6_fo k3.1 rfl)))⟩, Or.inr (Or.inl ⟨rfl, (oif_t (by omega)).trans (ob_0 (or_0 k5.2 (by omega)))⟩)⟩)
        (fun q1 hm2 => by
          have q7 := hQ.2.2.2.2.1.1
          have r9 := quB_r13 hm
          exact ⟨_, p, rfl, hm2, ⟨((zfl_sv_ne (by decide)).trans ((zfl_sv_ne (by decide)).trans ht)), ((gi_sv_ne (by decide)).trans (gi_sv_ne (by decide))), ((zo_sv (by decide)).trans (zo_sv (by decide)))⟩, Or.inr (Or.inl ⟨rfl, oif_f (by omega)⟩)⟩)
end CT
