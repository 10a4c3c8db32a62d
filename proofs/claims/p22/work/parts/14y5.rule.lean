/-! the class's statements: rules -/
abbrev sR (m : zM) (k i a : Nat) : zM := sv m k i (.ref a)
section CV
variable {Z : zPg} {T : List aCe} {t : zT} {d pc k i ci : Nat} {lo : List (Nat × Value)} {r : List Value} {mem m : zM} {P : Option Value → zM → Prop} {τs : List (Bool × aTy)} {b : Bool} {L : List Nat} {a : Nat}
theorem fR_ty (ho : aat T k = some (.inr (ci, τs))) (hi : τs[i]? = some (b, .inr (some L))) (hm : aTm T m) : ∃ fs, zat m k = some (.inr (ci, fs)) ∧ i < fs.length := by
  obtain ⟨fs, h1, h2⟩ := aTm_o hm ho
  obtain ⟨x, h3, h4⟩ := aTf_at h2 hi
  exact ⟨fs, h1, (List.getElem?_eq_some_iff.mp h3).1⟩
theorem wR_pr {ty : FieldType} (hk : zlk t pc = some (pc, zpf ci i ty)) (ho : aat T k = some (.inr (ci, τs))) (hi : τs[i]? = some (b, .inr (some L))) (hm : aTm T mem) (hf : zfit ty (.ref a) = true) (h : yR Z t d (pc + 3, lo, r, sR mem k i a) P) : yR Z t d (pc, lo, .ref a :: .ref k :: r, mem) P := by
  obtain ⟨fs, h1, h2⟩ := fR_ty ho hi hm
  refine yR_pf hk h1 h2 hf ?_
  rw [← sv_at h1]
  exact h
theorem tm_sR (ho : aat T k = some (.inr (ci, τs))) (hi : τs[i]? = some (b, .inr (some L))) (hm : aTm T m) (ha : a ∈ L) : aTm T (sR m k i a) := by
  obtain ⟨fs, h1, h2⟩ := aTm_o hm ho
  show aTm T (sv m k i (.ref a))
  rw [sv_at h1]
  exact aTm_set hm ho h1 ⟨_, rfl, aTf_set h2 hi ⟨a, ha, rfl⟩⟩
theorem zfl_sR (ho : aat T k = some (.inr (ci, τs))) (hi : τs[i]? = some (b, .inr (some L))) (hm : aTm T m) : zfl (sR m k i a) k i = some (.ref a) := by
  obtain ⟨fs, h1, h2⟩ := fR_ty ho hi hm
  show zfl (sv m k i (.ref a)) k i = _
  rw [sv_at h1]
  unfold zfl
  rw [zat_eq_set h1]
  exact List.getElem?_set_self h2
end CV
section CW
variable {d : Nat} {mr mem m : zM} {R A : Nat} {T : List Int32} {n p q v a b w K : Int} {Q : Qd}
theorem c2q_gi {k i : Nat} (hk : ¬ k = 27 ∧ ¬ k = R ∧ ¬ k = A) (F : c2 R A mr m) : gi m k i = gi mr k i := by
  unfold gi
  rw [zfl_ea (F.1 k hk.1 hk.2.1 hk.2.2)]
theorem c2q_gL {k i : Nat} (hk : ¬ k = 27 ∧ ¬ k = R ∧ ¬ k = A) (F : c2 R A mr m) : gL m k i = gL mr k i := by
  unfold gL
  rw [zfl_ea (F.1 k hk.1 hk.2.1 hk.2.2)]
theorem c2q_ga {k : Nat} (hk : ¬ k = 27 ∧ ¬ k = R ∧ ¬ k = A) (F : c2 R A mr m) : ga m k = ga mr k := by
  unfold ga
  rw [F.1 k hk.1 hk.2.1 hk.2.2]
theorem c2q_26 {i : Nat} (F : c2 R A mr m) (hk : ¬ 26 = R ∧ ¬ 26 = A) : zfl m 26 i = zfl mr 26 i := zfl_ea (F.1 26 (by decide) hk.1 hk.2)
theorem rea_0 {u : List Int} (W : ¬ w ∈ Qu Q) (ek : kS w = K) (h : Mch T n w u [(K, 0, 1, [])] 0 p = none) : sRea T n w Q p = none := by
  unfold sRea
  rw [ek]
  exact (oif_t W).trans (om_0 (rea_N h))
theorem rea_1 {c : List Int} (W : ¬ w ∈ Qu Q) (ek : kS w = K) (h : Mch T n w [] [(K, 0, 1, [])] 0 p = some (q, c)) : sRea T n w Q p = some ((Qc Q, Qr Q, Qw Q, Qt Q, Qh Q, Qf Q, w :: Qu Q, Qg Q, Qp Q, Qa Q, (w, c) :: Qk Q), q) := by
  unfold sRea
  rw [ek]
  exact (oif_t W).trans (om_1 h)
/-- what the class has printed between two places -/
theorem cC_cut {m0 : zM} {c : List Int} (h : cC R A m = cC R A m0 ++ c) (l : (ga m A).length = 1600) (l0 : (ga m0 A).length = 1600) (r : 0 ≤ (gi m R 3).toInt ∧ (gi m R 3).toInt ≤ 1600) (r0 : 0 ≤ (gi m0 R 3).toInt ∧ (gi m0 R 3).toInt ≤ 1600) : (gi m R 3).toInt = (gi m0 R 3).toInt + (c.length : Int) ∧ (∀ i : Nat, (i : Int) < (gi m0 R 3).toInt → gn (ga m A) (i : Int) = gn (ga m0 A) (i : Int)) ∧ ∀ i : Nat, i < c.length → gn (ga m A) ((gi m0 R 3).toInt + (i : Int)) = c.getD i 0 := by
  have e : ∀ m : zM, (ga m A).length = 1600 → 0 ≤ (gi m R 3).toInt ∧ (gi m R 3).toInt ≤ 1600 → (cC R A m).length = (gi m R 3).toInt.toNat := fun m l r => by
    unfold cC
    rw [List.length_map, List.length_take]
    omega
  have ln := congrArg List.length h
  rw [List.length_append, e m l r, e m0 l0 r0] at ln
  have g : ∀ m : zM, (ga m A).length = 1600 → ∀ i : Nat, (i : Int) < (gi m R 3).toInt → (gi m R 3).toInt ≤ 1600 → (cC R A m)[i]? = some (gn (ga m A) (i : Int)) := fun m l i hi hr => by
    unfold cC gn
    rw [List.getElem?_map, List.getElem?_take_of_lt (by omega), show ((i : Nat) : Int).toNat = i by omega, List.getD_eq_getElem?_getD, List.getElem?_eq_getElem (by omega)]
    rfl
  refine ⟨by omega, fun i hi => ?_, fun i hi => ?_⟩
  · have a := g m l i (by omega) r.2
    have b := g m0 l0 i hi r0.2
    rw [h, List.getElem?_append_left (by rw [e m0 l0 r0]; omega), b] at a
    exact (Option.some.inj a).symm
  · have a := g m l ((gi m0 R 3).toInt.toNat + i) (by omega) r.2
    rw [h, List.getElem?_append_right (by rw [e m0 l0 r0]; omega), e m0 l0 r0, show (gi m0 R 3).toInt.toNat + i - (gi m0 R 3).toInt.toNat = i by omega] at a
    rw [List.getD_eq_getElem?_getD, a, show (((gi m0 R 3).toInt.toNat + i : Nat) : Int) = (gi m0 R 3).toInt + (i : Int) by omega]
    rfl
theorem cQ_rulA {wh s0 s1 : Int32} (hm : aTm aT0 mem) (h : cQ 2 3 4 7 8 9 12 13 Q mem) (hw : 0 ≤ wh.toInt ∧ wh.toInt ≤ 2) (e1 : gi m 2 1 = gi mem 2 1) (e2 : gi m 2 2 = gi mem 2 2) (e7 : gi m 2 7 = gi mem 2 7) (e12 : gi m 2 12 = gi mem 2 12) (e13 : gi m 2 13 = gi mem 2 13) (eL : gL m 2 6 = gL mem 2 6) (a1 : ga m 3 = ga mem 3) (a2 : ga m 4 = ga mem 4) (a3 : ga m 7 = ga mem 7) (a4 : ga m 8 = ga mem 8) (a5 : ga m 9 = ga mem 9) (eF : ga m 12 = (ga mem 12).set wh.toNatClampNeg s0) (eE : ga m 13 = (ga mem 13).set wh.toNatClampNeg s1) (lt : s0.toInt < s1.toInt) (x3 : gi m 2 3 = gi mem 2 3) (x4 : gi m 2 4 = gi mem 2 4) (x5 : gL m 2 5 = gL mem 2 5) (xU : ga m 5 = ga mem 5) (xV : ga m 6 = ga mem 6) {c : List Int} (z0 : s0.toInt = (gi mem 10 3).toInt) (z9 : 0 ≤ s0.toInt) (z1 : s1.toInt = s0.toInt + (c.length : Int)) (zR : (gi m 10 3).toInt = s1.toInt) (kp : ∀ i : Nat, (i : Int) < s0.toInt → gn (ga m 11) (i : Int) = gn (ga mem 11) (i : Int)) (nw : ∀ i : Nat, i < c.length → gn (ga m 11) (s0.toInt + (i : Int)) = c.getD i 0) : cQ 2 3 4 7 8 9 12 13 (Qc Q, Qr Q, Qw Q, Qt Q, Qh Q, Qf Q, wh.toInt :: Qu Q, Qg Q, Qp Q, Qa Q, (wh.toInt, c) :: Qk Q) m := by
  have g1 := gl_12 hm
  have g2 := gl_13 hm
  obtain ⟨k1, k2, k3, k4, k5, k6, k7⟩ := h
  refine ⟨⟨by rw [e1]; exact k1.1, by rw [e2]; exact k1.2⟩, by unfold cQw; rw [eL]; exact k2, by unfold cQt; rw [e7, a1, a2]; exact k3, by unfold cQh; rw [e12]; exact k4, by unfold cQf; rw [e13, a3, a4, a5]; exact k5, fun w w0 w1 => ?_, ⟨k7.1.1, fun i y hy => by rw [show ga m (2 + 3) = ga mem (2 + 3) from xU, show ga m (2 + 4) = ga mem (2 + 4) from xV]; exact k7.1.2 i y hy⟩, ⟨by rw [x3]; exact k7.2.1.1, by rw [x4]; exact k7.2.1.2.1, by rw [x5]; exact k7.2.1.2.2⟩, fun w w0 w1 c' hc => ?_⟩
  rotate_left
  · have hc : ((wh.toInt, c) :: Qk Q).lookup w = some c' := hc
    have eF' : ga m (2 + 10) = (ga mem 12).set wh.toNatClampNeg s0 := eF
    have eE' : ga m (2 + 11) = (ga mem 13).set wh.toNatClampNeg s1 := eE
    have zR' : (gi m (2 + 8) 3).toInt = s1.toInt := zR
    have F9 : ∀ i, gn (ga m (2 + 9)) i = gn (ga m 11) i := fun _ => rfl
    rw [eF', eE', zR', gn_set (a := wh.toInt) rfl hw.1 (by omega) w0, gn_set (a := wh.toInt) rfl hw.1 (by omega) w0]
    by_cases d : w = wh.toInt
    · subst d
      rw [List.lookup_cons_self] at hc
      cases hc
      rw [if_pos rfl, if_pos rfl]
      exact ⟨z9, z1, Int.le_refl _, fun i hi => by rw [F9]; exact nw i hi⟩
    · have z : (w == wh.toInt) = false := by
        rw [beq_eq_false_iff_ne]
        exact d
      rw [List.lookup_cons, z] at hc
      rw [if_neg d, if_neg d]
      obtain ⟨u1, u2, u3, u4⟩ := k7.2.2 w w0 w1 c' hc
      have u3 : gn (ga mem 13) w ≤ (gi mem 10 3).toInt := u3
      have u1 : 0 ≤ gn (ga mem 12) w := u1
      have u2 : gn (ga mem 13) w = gn (ga mem 12) w + (c'.length : Int) := u2
      refine ⟨u1, u2, by omega, fun i hi => ?_⟩
      have u5 : gn (ga mem 11) (gn (ga mem 12) w + (i : Int)) = c'.getD i 0 := u4 i hi
      have v := kp (gn (ga mem 12) w + (i : Int)).toNat (by omega)
      rw [show (((gn (ga mem 12) w + (i : Int)).toNat : Nat) : Int) = gn (ga mem 12) w + (i : Int) by omega] at v
      rw [F9, v, u5]
  show _ ↔ w ∈ wh.toInt :: Qu Q
  rw [eF, eE, gn_set (a := wh.toInt) rfl hw.1 (by omega) w0, gn_set (a := wh.toInt) rfl hw.1 (by omega) w0, List.mem_cons]
  by_cases c : w = wh.toInt
  · rw [if_pos c, if_pos c]
    exact ⟨fun _ => Or.inl c, fun _ => lt⟩
  · rw [if_neg c, if_neg c, k6 w w0 w1]
    exact ⟨fun z => Or.inr z, fun z => z.elim (fun y => absurd y c) id⟩
set_option maxRecDepth 100000 in
theorem w_ruA {d : Nat} {mem : zM} {P : Option Value → zM → Prop} {T : List Int32} {n p : Int} {Q : Qd} {wh : Int32} (hm : aTm aT0 mem) (ht : zfl mem 26 2 = some (.ref 2)) (hR : cRd T n p mem) (hk4 : ¬ (tkf T n p).1.1 = 4) (hq : hqQ Q) (hQ : cQ 2 3 4 7 8 9 12 13 Q mem) (hw : 0 ≤ wh.toInt ∧ wh.toInt ≤ 2) (hA : hRA 10 11) (hs : (gi mem 10 3).toInt ≤ p) (hn : n ≤ 1600) (hS : tAll 10 11 T n wh.toInt 0 60) (s1 : ∀ (y1 : Int32), y1.toInt = (gn (ga mem 13) (wh).toInt) → ∀ (y3 : Int32), y3.toInt = (gn (ga mem 12) (wh).toInt) → (gn (ga mem 13) (wh).toInt) ≤ (gn (ga mem 12) (wh).toInt) → ∀ (m6 : zM), aTm aT0 m6 → (fo 27 [] avF mem m6 ∧ cRd T n (tkf T n p).2 m6) → (0 : Int) ≤ (gi m6 10 3).toInt ∧ (gi m6 10 3).toInt ≤ 1600) (s2 : ∀ (y1 : Int32), y1.toInt = (gn (ga mem 13) (wh).toInt) → ∀ (y3 : Int32), y3.toInt = (gn (ga mem 12) (wh).toInt) → (gn (ga mem 13) (wh).toInt) ≤ (gn (ga mem 12) (wh).toInt) → ∀ (m6 : zM), aTm aT0 m6 → (fo 27 [] avF mem m6 ∧ cRd T n (tkf T n p).2 m6) → ¬ (wh).toInt = 0 → ∀ (v11 : Int32) (q12 : Int) (m9 : zM), aTm aT0 m9 → tH 10 11 T n (tkf T n p).2 (pTest T n wh.toInt (cC 10 11 (sx (si (sR m6 30 1 10) 30 2 wh) 12 wh (gi m6 10 3))) (1, 0, 1, []) [] (tkf T n p).2) (Mch T n wh.toInt (cC 10 11 (sx (si (sR m6 30 1 10) 30 2 wh) 12 wh (gi m6 10 3))) ((1, 0, 1, []) :: []) 0 (tkf T n p).2 = none) (sx (si (sR m6 30 1 10) 30 2 wh) 12 wh (gi m6 10 3)) v11.toInt q12 m9 → (0 : Int) ≤ (gi m9 10 3).toInt ∧ (gi m9 10 3).toInt ≤ 1600) (s3 : ∀ (y1 : Int32), y1.toInt = (gn (ga mem 13) (wh).toInt) → ∀ (y3 : Int32), y3.toInt = (gn (ga mem 12) (wh).toInt) → (gn (ga mem 13) (wh).toInt) ≤ (gn (ga mem 12) (wh).toInt) → ∀ (m6 : zM), aTm aT0 m6 → (fo 27 [] avF mem m6 ∧ cRd T n (tkf T n p).2 m6) → ¬ (wh).toInt = 0 → ∀ (v11 : Int32) (q12 : Int) (m9 : zM), aTm aT0 m9 → tH 10 11 T n (tkf T n p).2 (pTest T n wh.toInt (cC 10 11 (sx (si (sR m6 30 1 10) 30 2 wh) 12 wh (gi m6 10 3))) (1, 0, 1, []) [] (tkf T n p).2) (Mch T n wh.toInt (cC 10 11 (sx (si (sR m6 30 1 10) 30 2 wh) 12 wh (gi m6 10 3))) ((1, 0, 1, []) :: []) 0 (tkf T n p).2 = none) (sx (si (sR m6 30 1 10) 30 2 wh) 12 wh (gi m6 10 3)) v11.toInt q12 m9 → (0 : Int) ≤ (v11).toInt ∧ (v11).toInt ≤ 1) (h1 : ∀ (y1 : Int32), y1.toInt = (gn (ga mem 13) (wh).toInt) → ∀ (y3 : Int32), y3.toInt = (gn (ga mem 12) (wh).toInt) → (gn (ga mem 13) (wh).toInt) ≤ (gn (ga mem 12) (wh).toInt) → ∀ (m6 : zM), aTm aT0 m6 → (fo 27 [] avF mem m6 ∧ cRd T n (tkf T n p).2 m6) → ¬ (wh).toInt = 0 → ∀ (v11 : Int32) (q12 : Int) (m9 : zM), aTm aT0 m9 → tH 10 11 T n (tkf T n p).2 (pTest T n wh.toInt (cC 10 11 (sx (si (sR m6 30 1 10) 30 2 wh) 12 wh (gi m6 10 3))) (1, 0, 1, []) [] (tkf T n p).2) (Mch T n wh.toInt (cC 10 11 (sx (si (sR m6 30 1 10) 30 2 wh) 12 wh (gi m6 10 3))) ((1, 0, 1, []) :: []) 0 (tkf T n p).2 = none) (sx (si (sR m6 30 1 10) 30 2 wh) 12 wh (gi m6 10 3)) v11.toInt q12 m9 → aTm aT0 (sx m9 13 wh (gi m9 10 3)) → P (some (.int v11)) (sx m9 13 wh (gi m9 10 3))) (s4 : ∀ (y1 : Int32), y1.toInt = (gn (ga mem 13) (wh).toInt) → ∀ (y3 : Int32), y3.toInt = (gn (ga mem 12) (wh).toInt) → (gn (ga mem 13) (wh).toInt) ≤ (gn (ga mem 12) (wh).toInt) → ∀ (m6 : zM), aTm aT0 m6 → (fo 27 [] avF mem m6 ∧ cRd T n (tkf T n p).2 m6) → (wh).toInt = 0 → ∀ (v15 : Int32) (q16 : Int) (m13 : zM), aTm aT0 m13 → tH 10 11 T n (tkf T n p).2 (pSum T n wh.toInt (cC 10 11 (sx (si (sR m6 30 1 10) 30 2 wh) 12 wh (gi m6 10 3))) (0, 0, 1, []) [] (tkf T n p).2) (Mch T n wh.toInt (cC 10 11 (sx (si (sR m6 30 1 10) 30 2 wh) 12 wh (gi m6 10 3))) ((0, 0, 1, []) :: []) 0 (tkf T n p).2 = none) (sx (si (sR m6 30 1 10) 30 2 wh) 12 wh (gi m6 10 3)) v15.toInt q16 m13 → (0 : Int) ≤ (gi m13 10 3).toInt ∧ (gi m13 10 3).toInt ≤ 1600) (s5 : ∀ (y1 : Int32), y1.toInt = (gn (ga mem 13) (wh).toInt) → ∀ (y3 : Int32), y3.toInt = (gn (ga mem 12) (wh).toInt) → (gn (ga mem 13) (wh).toInt) ≤ (gn (ga mem 12) (wh).toInt) → ∀ (m6 : zM), aTm aT0 m6 → (fo 27 [] avF mem m6 ∧ cRd T n (tkf T n p).2 m6) → (wh).toInt = 0 → ∀ (v15 : Int32) (q16 : Int) (m13 : zM), aTm aT0 m13 → tH 10 11 T n (tkf T n p).2 (pSum T n wh.toInt (cC 10 11 (sx (si (sR m6 30 1 10) 30 2 wh) 12 wh (gi m6 10 3))) (0, 0, 1, []) [] (tkf T n p).2) (Mch T n wh.toInt (cC 10 11 (sx (si (sR m6 30 1 10) 30 2 wh) 12 wh (gi m6 10 3))) ((0, 0, 1, []) :: []) 0 (tkf T n p).2 = none) (sx (si (sR m6 30 1 10) 30 2 wh) 12 wh (gi m6 10 3)) v15.toInt q16 m13 → (0 : Int) ≤ (v15).toInt ∧ (v15).toInt ≤ 1) (h2 : ∀ (y1 : Int32), y1.toInt = (gn (ga mem 13) (wh).toInt) → ∀ (y3 : Int32), y3.toInt = (gn (ga mem 12) (wh).toInt) → (gn (ga mem 13) (wh).toInt) ≤ (gn (ga mem 12) (wh).toInt) → ∀ (m6 : zM), aTm aT0 m6 → (fo 27 [] avF mem m6 ∧ cRd T n (tkf T n p).2 m6) → (wh).toInt = 0 → ∀ (v15 : Int32) (q16 : Int) (m13 : zM), aTm aT0 m13 → tH 10 11 T n (tkf T n p).2 (pSum T n wh.toInt (cC 10 11 (sx (si (sR m6 30 1 10) 30 2 wh) 12 wh (gi m6 10 3))) (0, 0, 1, []) [] (tkf T n p).2) (Mch T n wh.toInt (cC 10 11 (sx (si (sR m6 30 1 10) 30 2 wh) 12 wh (gi m6 10 3))) ((0, 0, 1, []) :: []) 0 (tkf T n p).2 = none) (sx (si (sR m6 30 1 10) 30 2 wh) 12 wh (gi m6 10 3)) v15.toInt q16 m13 → aTm aT0 (sx m13 13 wh (gi m13 10 3)) → P (some (.int v15)) (sx m13 13 wh (gi m13 10 3))) (h3 : ∀ (y1 : Int32), y1.toInt = (gn (ga mem 13) (wh).toInt) → ∀ (y3 : Int32), y3.toInt = (gn (ga mem 12) (wh).toInt) → (gn (ga mem 12) (wh).toInt) < (gn (ga mem 13) (wh).toInt) → aTm aT0 (si (si mem 27 10 6) 27 11 (gi mem 27 6)) → P (some (.int 0)) (si (si mem 27 10 6) 27 11 (gi mem 27 6))) : yR zpg tX9_takesRule (d + 60) (0, [(0, .ref 26), (1, .int wh)], [], mem) P := by
  refine yR_m 1 (fun _ _ _ _ => rfl) ?_
  refine wR_gq rfl tO_e hm ht ?_
  refine wR_gr rfl quA_e quA_17 hm ?_
  refine yR_m 1 (fun _ _ _ _ => rfl) ?_
  refine wR_iv rfl rfl rlA_e hm rfl rfl rfl rfl ?_
  show yR zpg tX7_isTold (d + 59) (0, [(0, .ref 10), (1, .int wh)], [], mem) _
  refine yR_m 1 (fun _ _ _ _ => rfl) ?_
  refine wR_gr rfl rlA_e rlA_2 hm ?_
  refine yR_m 1 (fun _ _ _ _ => rfl) ?_
  refine wN_al (a := (wh).toInt) rfl aR_13 hm rfl rfl (by omega) (fun y1 e2 => ?_)
  refine yR_m 1 (fun _ _ _ _ => rfl) ?_
  refine wR_gr rfl rlA_e rlA_1 hm ?_
  refine yR_m 1 (fun _ _ _ _ => rfl) ?_
  refine wN_al (a := (wh).toInt) rfl aR_12 hm rfl rfl (by omega) (fun y3 e4 => ?_)
  refine wR_ic_le rfl (a := (gn (ga mem 13) (wh).toInt)) (c := (gn (ga mem 12) (wh).toInt)) e2 e4 (fun q5 => ?_) (fun q5 => ?_)
  ·
    refine yR_m 1 (fun _ _ _ _ => rfl) ?_
    refine yR_rz rfl ⟨by decide, by decide⟩ ?_
    show yR zpg tX9_takesRule (d + 60) (11, [(0, .ref 26), (1, .int wh)], [.int 0], mem) _
    refine wR_if_eq rfl (a := 0) rfl (fun _ => ?_) (fun q => by exfalso; omega)
    refine yR_m 1 (fun _ _ _ _ => rfl) ?_
    refine wR_gr rfl tO_e tO_0 hm ?_
    refine wR_cv rfl rfl rO_e hm rfl (h_avC (T := T) (n := n) (p := p) hm (cRd_t hR) hk4 (by omega)) ?_
    rintro _ m6 ⟨rfl, hI6, k7⟩
    show yR zpg tX9_takesRule (d + 60) (38, [(0, .ref 26), (1, .int wh)], [], m6) _
    refine yR_m 1 (fun _ _ _ _ => rfl) ?_
    refine wR_gr rfl tO_e tO_1 hI6 ?_
    refine yR_m 1 (fun _ _ _ _ => rfl) ?_
    refine wR_gq rfl tO_e hI6 ((k6_26 (k6_fo k7.1 rfl) (by decide)).trans ht) ?_
    refine wR_gr rfl quA_e quA_17 hI6 ?_
    refine yR_m 1 (fun _ _ _ _ => rfl) ?_
    refine wR_iv rfl rfl sO_e hI6 rfl rfl rfl rfl ?_
    show yR zpg tX10_begin (d + 59) (0, [(0, .ref 30), (1, .ref 10), (2, .int wh)], [], m6) _
    refine yR_m 2 (fun _ _ _ _ => rfl) ?_
    refine wR_pr rfl sO_e sO_1 hI6 rfl ?_
    have hm_1 : aTm aT0 (sR m6 30 1 10) := tm_sR sO_e sO_1 hI6 (by decide)
    refine yR_m 2 (fun _ _ _ _ => rfl) ?_
    refine wR_pi rfl sO_e sO_2 hm_1 rfl ?_
    have hm_2 : aTm aT0 (si (sR m6 30 1 10) 30 2 wh) := tm_si sO_e sO_2 hm_1 (i32_b _)
    refine yR_rv rfl ?_
    show yR zpg tX9_takesRule (d + 60) (53, [(0, .ref 26), (1, .int wh)], [], (si (sR m6 30 1 10) 30 2 wh)) _
    refine yR_m 1 (fun _ _ _ _ => rfl) ?_
    refine wR_gq rfl tO_e hm_2 ((zfl_sv_ne (by decide)).trans ((zfl_sv_ne (by decide)).trans ((k6_26 (k6_fo k7.1 rfl) (by decide)).trans ht))) ?_
    refine wR_gr rfl quA_e quA_17 hm_2 ?_
    refine yR_m 1 (fun _ _ _ _ => rfl) ?_
    refine wR_iv rfl rfl rlA_e hm_2 rfl rfl rfl rfl ?_
    show yR zpg tX7_begin (d + 59) (0, [(0, .ref 10), (1, .int wh)], [], (si (sR m6 30 1 10) 30 2 wh)) _
    refine yR_m 1 (fun _ _ _ _ => rfl) ?_
    refine wR_gr rfl rlA_e rlA_1 hm_2 ?_
    refine yR_m 2 (fun _ _ _ _ => rfl) ?_
    refine wR_gi rfl rlA_e rlA_3 hm_2 ((gi_sv_ne (by decide)).trans (gi_sv_ne (by decide))) ?_
    refine wN_as (a := (wh).toInt) rfl aR_12 hm_2 rfl (by omega) ?_
    have hm_3 : aTm aT0 (sx (si (sR m6 30 1 10) 30 2 wh) 12 wh (gi m6 10 3)) := tm_sa aR_12 hm_2 (s1 y1 e2 y3 e4 q5 m6 hI6 k7)
    refine yR_rv rfl ?_
    show yR zpg tX9_takesRule (d + 60) (64, [(0, .ref 26), (1, .int wh)], [], (sx (si (sR m6 30 1 10) 30 2 wh) 12 wh (gi m6 10 3))) _
    refine yR_m 1 (fun _ _ _ _ => rfl) ?_
    refine wR_if_ne rfl (a := (wh).toInt) rfl (fun q8 => ?_) (fun q8 => ?_)
    ·
      refine yR_m 1 (fun _ _ _ _ => rfl) ?_
      refine wR_gr rfl tO_e tO_1 hm_3 ?_
      refine yR_m 1 (fun _ _ _ _ => rfl) ?_
      refine wR_cv rfl rfl sO_e hm_3 rfl (hS.2.2.2 _ _ _ (tkf T n p).2 (1, 0, 1, []) [] (by omega) rfl hm_3 ⟨hA, (zfl_sa.trans ((zfl_sv_ne (by decide)).trans (zfl_sR sO_e sO_1 hI6))), congrArg Int32.toInt ((gi_sa).trans (gi_eqQ (isQ_sv (isQ_of sO_e hI6)) sO_2)), (cRd_sa (by decide) (by decide) (cRd_sv (by decide) (cRd_sv (by decide) k7.2))), (by rw [((gi_sa).trans ((gi_sv_ne (by decide)).trans ((gi_sv_ne (by decide)).trans (k6_gi (by decide) (k6_fo k7.1 rfl)))))]; have q9 := (tk_le hR).1; omega), hn⟩ rfl ⟨Or.inl rfl, rfl, rfl, hdk_0⟩) ?_
      rintro _ m9 ⟨v11, q12, rfl, hm9, k10⟩
      show yR zpg tX9_takesRule (d + 60) (87, [(0, .ref 26), (1, .int wh)], [.int v11], m9) _
      refine yR_m 2 (fun _ _ _ _ => rfl) ?_
      refine wR_gq rfl tO_e hm9 ((c2q_26 k10.1 (by decide)).trans (zfl_sa.trans ((zfl_sv_ne (by decide)).trans ((zfl_sv_ne (by decide)).trans ((k6_26 (k6_fo k7.1 rfl) (by decide)).trans ht))))) ?_
      refine wR_gr rfl quA_e quA_17 hm9 ?_
      refine yR_m 1 (fun _ _ _ _ => rfl) ?_
      refine wR_iv rfl rfl rlA_e hm9 rfl rfl rfl rfl ?_
      show yR zpg tX7_close (d + 59) (0, [(0, .ref 10), (1, .int wh)], [], m9) _
      refine yR_m 1 (fun _ _ _ _ => rfl) ?_
      refine wR_gr rfl rlA_e rlA_2 hm9 ?_
      refine yR_m 2 (fun _ _ _ _ => rfl) ?_
      refine wR_gi rfl rlA_e rlA_3 hm9 rfl ?_
      refine wN_as (a := (wh).toInt) rfl aR_13 hm9 rfl (by omega) ?_
      have hm_4 : aTm aT0 (sx m9 13 wh (gi m9 10 3)) := tm_sa aR_13 hm9 (s2 y1 e2 y3 e4 q5 m6 hI6 k7 q8 v11 q12 m9 hm9 k10)
      refine yR_rv rfl ?_
      show yR zpg tX9_takesRule (d + 60) (99, [(2, .int v11), (0, .ref 26), (1, .int wh)], [], (sx m9 13 wh (gi m9 10 3))) _
      refine yR_m 1 (fun _ _ _ _ => rfl) ?_
      exact yR_rz rfl (s3 y1 e2 y3 e4 q5 m6 hI6 k7 q8 v11 q12 m9 hm9 k10) (h1 y1 e2 y3 e4 q5 m6 hI6 k7 q8 v11 q12 m9 hm9 k10 hm_4)
    ·
      refine yR_m 1 (fun _ _ _ _ => rfl) ?_
      refine wR_gr rfl tO_e tO_1 hm_3 ?_
      refine yR_m 1 (fun _ _ _ _ => rfl) ?_
      refine wR_cv rfl rfl sO_e hm_3 rfl (hS.1 _ _ _ (tkf T n p).2 (0, 0, 1, []) [] (by omega) rfl hm_3 ⟨hA, (zfl_sa.trans ((zfl_sv_ne (by decide)).trans (zfl_sR sO_e sO_1 hI6))), congrArg Int32.toInt ((gi_sa).trans (gi_eqQ (isQ_sv (isQ_of sO_e hI6)) sO_2)), (cRd_sa (by decide) (by decide) (cRd_sv (by decide) (cRd_sv (by decide) k7.2))), (by rw [((gi_sa).trans ((gi_sv_ne (by decide)).trans ((gi_sv_ne (by decide)).trans (k6_gi (by decide) (k6_fo k7.1 rfl)))))]; have q9 := (tk_le hR).1; omega), hn⟩ rfl ⟨show (0 : Int) < 2 by decide, n3_k (sit_3 (Or.inl rfl)), hdk_0⟩) ?_
      rintro _ m13 ⟨v15, q16, rfl, hm13, k14⟩
      show yR zpg tX9_takesRule (d + 60) (76, [(0, .ref 26), (1, .int wh)], [.int v15], m13) _
      refine yR_m 3 (fun _ _ _ _ => rfl) ?_
      refine wR_gq rfl tO_e hm13 ((c2q_26 k14.1 (by decide)).trans (zfl_sa.trans ((zfl_sv_ne (by decide)).trans ((zfl_sv_ne (by decide)).trans ((k6_26 (k6_fo k7.1 rfl) (by decide)).trans ht))))) ?_
      refine wR_gr rfl quA_e quA_17 hm13 ?_
      refine yR_m 1 (fun _ _ _ _ => rfl) ?_
      refine wR_iv rfl rfl rlA_e hm13 rfl rfl rfl rfl ?_
      show yR zpg tX7_close (d + 59) (0, [(0, .ref 10), (1, .int wh)], [], m13) _
      refine yR_m 1 (fun _ _ _ _ => rfl) ?_
      refine wR_gr rfl rlA_e rlA_2 hm13 ?_
      refine yR_m 2 (fun _ _ _ _ => rfl) ?_
      refine wR_gi rfl rlA_e rlA_3 hm13 rfl ?_
      refine wN_as (a := (wh).toInt) rfl aR_13 hm13 rfl (by omega) ?_
      have hm_5 : aTm aT0 (sx m13 13 wh (gi m13 10 3)) := tm_sa aR_13 hm13 (s4 y1 e2 y3 e4 q5 m6 hI6 k7 q8 v15 q16 m13 hm13 k14)
      refine yR_rv rfl ?_
      show yR zpg tX9_takesRule (d + 60) (99, [(2, .int v15), (0, .ref 26), (1, .int wh)], [], (sx m13 13 wh (gi m13 10 3))) _
      refine yR_m 1 (fun _ _ _ _ => rfl) ?_
      exact yR_rz rfl (s5 y1 e2 y3 e4 q5 m6 hI6 k7 q8 v15 q16 m13 hm13 k14) (h2 y1 e2 y3 e4 q5 m6 hI6 k7 q8 v15 q16 m13 hm13 k14 hm_5)
  ·
    refine yR_m 2 (fun _ _ _ _ => rfl) ?_
    refine yR_rz rfl ⟨by decide, by decide⟩ ?_
    show yR zpg tX9_takesRule (d + 60) (11, [(0, .ref 26), (1, .int wh)], [.int 1], mem) _
    refine wR_if_eq rfl (a := 1) rfl (fun q => by exfalso; omega) (fun _ => ?_)
    refine yR_m 1 (fun _ _ _ _ => rfl) ?_
    refine wR_gr rfl tO_e tO_0 hm ?_
    refine yR_m 2 (fun _ _ _ _ => rfl) ?_
    refine wR_gr rfl tO_e tO_0 hm ?_
    refine wR_gi rfl rO_e rO_6 hm rfl ?_
    refine wR_iv rfl rfl rO_e hm rfl rfl rfl rfl ?_
    show yR zpg tX5_faults (d + 59) (0, [(0, .ref 27), (1, .int 6), (2, .int (gi mem 27 6))], [], mem) _
    refine yR_m 2 (fun _ _ _ _ => rfl) ?_
    refine wR_pi rfl rO_e rO_10 hm rfl ?_
    have hm_6 : aTm aT0 (si mem 27 10 6) := tm_si rO_e rO_10 hm (i32_b _)
    refine yR_m 2 (fun _ _ _ _ => rfl) ?_
    refine wR_pi rfl rO_e rO_11 hm_6 rfl ?_
    have hm_7 : aTm aT0 (si (si mem 27 10 6) 27 11 (gi mem 27 6)) := tm_si rO_e rO_11 hm_6 (i32_b _)
    refine yR_m 1 (fun _ _ _ _ => rfl) ?_
    refine yR_rz rfl ⟨by decide, by decide⟩ ?_
    show yR zpg tX9_takesRule (d + 60) (30, [(0, .ref 26), (1, .int wh)], [.int 0], (si (si mem 27 10 6) 27 11 (gi mem 27 6))) _
    exact yR_rz rfl ⟨by decide, by decide⟩ (h3 y1 e2 y3 e4 q5 hm_7)

theorem h_ruCA {wh : Int32} (hw : 0 ≤ wh.toInt ∧ wh.toInt ≤ 2) (hm : aTm aT0 mem) (ht : zfl mem 26 2 = some (.ref 2)) (hR : cRd T n p mem) (h4 : ¬ (tkf T n p).1.1 = 4) (hq : hqQ Q) (hQ : cQ 2 3 4 7 8 9 12 13 Q mem) (hs : (gi mem 10 3).toInt ≤ p) (hn : n ≤ 1600) (hd : 61 ≤ d) : yC zpg d 95 [.ref 26, .int wh] mem (fun a m => ∃ (v : Int32) (q : Int), a = some (.int v) ∧ aTm aT0 m ∧ stCA T n mem (sRea T n wh.toInt Q (tkf T n p).2) v.toInt q m) := by
  obtain ⟨d, rfl⟩ : ∃ q, d = q + 61 := ⟨d - 61, by omega⟩
  have hA : hRA 10 11 := by
    unfold hRA
    decide
  have hS : tAll 10 11 T n wh.toInt 0 60 := c_all hA 7 0 rfl
  refine yC_of (t := tX9_takesRule) rfl rfl ?_
  exact w_ruA (T := T) (n := n) (p := p) (Q := Q) hm ht hR h4 hq hQ hw hA hs hn hS
        (fun y1 e2 y3 e4 q5 m6 hI6 k7 => rlA_r3 hI6)
        (fun y1 e2 y3 e4 q5 m6 hI6 k7 q8 v11 q12 m9 hm9 k10 => rlA_r3 hm9)
        (fun y1 e2 y3 e4 q5 m6 hI6 k7 q8 v11 q12 m9 hm9 k10 => by
          rcases k10.2 with w | w
          · have w1 := w.1
            omega
          · have w1 := w.1
            omega)
        (fun y1 e2 y3 e4 q5 m6 hI6 k7 q8 v11 q12 m9 hm9 k10 hm2 => by
          have U := hQ.2.2.2.2.2.1 wh.toInt hw.1 (by omega)
          have W : ¬ wh.toInt ∈ Qu Q := fun z => by have z2 := U.2 z; omega
          have ek : kS wh.toInt = 1 := if_neg (by omega)
          have f1 : (gi (sx (si (sR m6 30 1 10) 30 2 wh) 12 wh (gi m6 10 3)) 10 3).toInt = (gi mem 10 3).toInt := congrArg Int32.toInt ((gi_sa).trans ((gi_sv_ne (by decide)).trans ((gi_sv_ne (by decide)).trans (k6_gi (by decide) (k6_fo k7.1 rfl)))))
          have f2 : (gi m6 10 3).toInt = (gi mem 10 3).toInt := congrArg Int32.toInt (k6_gi (by decide) (k6_fo k7.1 rfl))
          have y0 := tk_le hR
          rcases k10.2 with ⟨v1, P, p1, c, g5, g6⟩ | ⟨v0, Z⟩
          · have hq9 := cRd_p c
            obtain ⟨⟨g, g1, g2, g3, g5, g4⟩, h2⟩ := P
            by_cases h4 : (tkf T n q12).1.1 = 4
            · exact ⟨_, _, rfl, hm2, ⟨(zfl_sa.trans ((c2q_26 k10.1 (by decide)).trans (zfl_sa.trans ((zfl_sv_ne (by decide)).trans ((zfl_sv_ne (by decide)).trans ((k6_26 (k6_fo k7.1 rfl) (by decide)).trans ht)))))), ((gi_sa).trans ((c2q_gi (by decide) k10.1).trans ((gi_sa).trans ((gi_sv_ne (by decide)).trans ((gi_sv_ne (by decide)).trans (k6_gi (by decide) (k6_fo k7.1 rfl))))))), ((zo_sa (by decide)).trans ((zo_c2 (by decide) (by decide) k10.1).trans ((zo_sa (by decide)).trans ((zo_sv (by decide)).trans ((zo_sv (by decide)).trans (zo_k6 (k6_fo k7.1 rfl)))))))⟩, Or.inr (Or.inr ⟨v1, rea_0 W ek (g4.trans (M_4 hq9 h4)), h4, cRd_sa (by decide) (by decide) c⟩)⟩
            · obtain ⟨cc, e2, e3⟩ := rea_M (g4.trans ((M_en (f := g) hq9 (gd_T g2 g3 h2) (by rw [g1]; decide) h4).trans (by rw [show g.2.2.2 = [] from g5])))
              have r0 : 0 ≤ (gi (sx (si (sR m6 30 1 10) 30 2 wh) 12 wh (gi m6 10 3)) 10 3).toInt ∧ (gi (sx (si (sR m6 30 1 10) 30 2 wh) 12 wh (gi m6 10 3)) 10 3).toInt ≤ 1600 := by rw [((gi_sa).trans ((gi_sv_ne (by decide)).trans (gi_sv_ne (by decide))))]; exact rlA_r3 hI6
              have r1 := rlA_r3 hm9
              obtain ⟨cu1, cu2, cu3⟩ := cC_cut ((List.append_nil _).symm.trans e3) (gl_11 hm9) (show (ga (sx (si (sR m6 30 1 10) 30 2 wh) 12 wh (gi m6 10 3)) 11).length = 1600 from by rw [((ga_sa_ne (by decide)).trans ((ga_sv).trans (ga_sv)))]; exact gl_11 hI6) ⟨r1.1, r1.2⟩ ⟨r0.1, r0.2⟩
              exact ⟨_, _, rfl, hm2, ⟨(zfl_sa.trans ((c2q_26 k10.1 (by decide)).trans (zfl_sa.trans ((zfl_sv_ne (by decide)).trans ((zfl_sv_ne (by decide)).trans ((k6_26 (k6_fo k7.1 rfl) (by decide)).trans ht)))))), ((gi_sa).trans ((c2q_gi (by decide) k10.1).trans ((gi_sa).trans ((gi_sv_ne (by decide)).trans ((gi_sv_ne (by decide)).trans (k6_gi (by decide) (k6_fo k7.1 rfl))))))), ((zo_sa (by decide)).trans ((zo_c2 (by decide) (by decide) k10.1).trans ((zo_sa (by decide)).trans ((zo_sv (by decide)).trans ((zo_sv (by decide)).trans (zo_k6 (k6_fo k7.1 rfl)))))))⟩, Or.inl ⟨v1, ⟨_, rea_1 W ek e2, cQ_rulA hm hQ hw ((gi_sa).trans ((c2q_gi (by decide) k10.1).trans ((gi_sa).trans ((gi_sv_ne (by decide)).trans ((gi_sv_ne (by decide)).trans (k6_gi (by decide) (k6_fo k7.1 rfl))))))) ((gi_sa).trans ((c2q_gi (by decide) k10.1).trans ((gi_sa).trans ((gi_sv_ne (by decide)).trans ((gi_sv_ne (by decide)).trans (k6_gi (by decide) (k6_fo k7.1 rfl))))))) ((gi_sa).trans ((c2q_gi (by decide) k10.1).trans ((gi_sa).trans ((gi_sv_ne (by decide)).trans ((gi_sv_ne (by decide)).trans (k6_gi (by decide) (k6_fo k7.1 rfl))))))) ((gi_sa).trans ((c2q_gi (by decide) k10.1).trans ((gi_sa).trans ((gi_sv_ne (by decide)).trans ((gi_sv_ne (by decide)).trans (k6_gi (by decide) (k6_fo k7.1 rfl))))))) ((gi_sa).trans ((c2q_gi (by decide) k10.1).trans ((gi_sa).trans ((gi_sv_ne (by decide)).trans ((gi_sv_ne (by decide)).trans (k6_gi (by decide) (k6_fo k7.1 rfl))))))) ((gL_sa).trans ((c2q_gL (by decide) k10.1).trans ((gL_sa).trans ((gL_sv_ne (by decide)).trans ((gL_sv_ne (by decide)).trans (k6_gL (by decide) (k6_fo k7.1 rfl))))))) ((ga_sa_ne (by decide)).trans ((c2q_ga (by decide) k10.1).trans ((ga_sa_ne (by decide)).trans ((ga_sv).trans ((ga_sv).trans (k6_ga (by decide) (k6_fo k7.1 rfl))))))) ((ga_sa_ne (by decide)).trans ((c2q_ga (by decide) k10.1).trans ((ga_sa_ne (by decide)).trans ((ga_sv).trans ((ga_sv).trans (k6_ga (by decide) (k6_fo k7.1 rfl))))))) ((ga_sa_ne (by decide)).trans ((c2q_ga (by decide) k10.1).trans ((ga_sa_ne (by decide)).trans ((ga_sv).trans ((ga_sv).trans (k6_ga (by decide) (k6_fo k7.1 rfl))))))) ((ga_sa_ne (by decide)).trans ((c2q_ga (by decide) k10.1).trans ((ga_sa_ne (by decide)).trans ((ga_sv).trans ((ga_sv).trans (k6_ga (by decide) (k6_fo k7.1 rfl))))))) ((ga_sa_ne (by decide)).trans ((c2q_ga (by decide) k10.1).trans ((ga_sa_ne (by decide)).trans ((ga_sv).trans ((ga_sv).trans (k6_ga (by decide) (k6_fo k7.1 rfl))))))) ((ga_sa_ne (by decide)).trans ((c2q_ga (by decide) k10.1).trans (ga_sa_eq.trans (congrArg (fun l => List.set l wh.toNatClampNeg (gi m6 10 3)) ((ga_sv).trans ((ga_sv).trans (k6_ga (by decide) (k6_fo k7.1 rfl)))))))) (ga_sa_eq.trans (congrArg (fun l => List.set l wh.toNatClampNeg (gi m9 10 3)) ((c2q_ga (by decide) k10.1).trans ((ga_sa_ne (by decide)).trans ((ga_sv).trans ((ga_sv).trans (k6_ga (by decide) (k6_fo k7.1 rfl)))))))) (by omega) ((gi_sa).trans ((c2q_gi (by decide) k10.1).trans ((gi_sa).trans ((gi_sv_ne (by decide)).trans ((gi_sv_ne (by decide)).trans (k6_gi (by decide) (k6_fo k7.1 rfl))))))) ((gi_sa).trans ((c2q_gi (by decide) k10.1).trans ((gi_sa).trans ((gi_sv_ne (by decide)).trans ((gi_sv_ne (by decide)).trans (k6_gi (by decide) (k6_fo k7.1 rfl))))))) ((gL_sa).trans ((c2q_gL (by decide) k10.1).trans ((gL_sa).trans ((gL_sv_ne (by decide)).trans ((gL_sv_ne (by decide)).trans (k6_gL (by decide) (k6_fo k7.1 rfl))))))) ((ga_sa_ne (by decide)).trans ((c2q_ga (by decide) k10.1).trans ((ga_sa_ne (by decide)).trans ((ga_sv).trans ((ga_sv).trans (k6_ga (by decide) (k6_fo k7.1 rfl))))))) ((ga_sa_ne (by decide)).trans ((c2q_ga (by decide) k10.1).trans ((ga_sa_ne (by decide)).trans ((ga_sv).trans ((ga_sv).trans (k6_ga (by decide) (k6_fo k7.1 rfl))))))) (by omega) (by omega) (by omega) (by rw [gi_sa]) (fun i hi => by rw [ga_sa_ne (by decide), cu2 i (by omega), ((ga_sa_ne (by decide)).trans ((ga_sv).trans ((ga_sv).trans (k6_ga (by decide) (k6_fo k7.1 rfl)))))]) (fun i hi => by rw [ga_sa_ne (by decide)]; have q8 := cu3 i hi; rw [f1, ← f2] at q8; exact q8)⟩, cRd_sa (by decide) (by decide) c, by rw [gi_sa]; omega⟩⟩
          · exact ⟨_, p, rfl, hm2, ⟨(zfl_sa.trans ((c2q_26 k10.1 (by decide)).trans (zfl_sa.trans ((zfl_sv_ne (by decide)).trans ((zfl_sv_ne (by decide)).trans ((k6_26 (k6_fo k7.1 rfl) (by decide)).trans ht)))))), ((gi_sa).trans ((c2q_gi (by decide) k10.1).trans ((gi_sa).trans ((gi_sv_ne (by decide)).trans ((gi_sv_ne (by decide)).trans (k6_gi (by decide) (k6_fo k7.1 rfl))))))), ((zo_sa (by decide)).trans ((zo_c2 (by decide) (by decide) k10.1).trans ((zo_sa (by decide)).trans ((zo_sv (by decide)).trans ((zo_sv (by decide)).trans (zo_k6 (k6_fo k7.1 rfl)))))))⟩, Or.inr (Or.inl ⟨v0, rea_0 W ek Z⟩)⟩)
        (fun y1 e2 y3 e4 q5 m6 hI6 k7 q8 v15 q16 m13 hm13 k14 => rlA_r3 hm13)
        (fun y1 e2 y3 e4 q5 m6 hI6 k7 q8 v15 q16 m13 hm13 k14 => by
          rcases k14.2 with w | w
          · have w1 := w.1
            omega
          · have w1 := w.1
            omega)
        (fun y1 e2 y3 e4 q5 m6 hI6 k7 q8 v15 q16 m13 hm13 k14 hm2 => by
          have U := hQ.2.2.2.2.2.1 wh.toInt hw.1 (by omega)
          have W : ¬ wh.toInt ∈ Qu Q := fun z => by have z2 := U.2 z; omega
          have ek : kS wh.toInt = 0 := if_pos (by omega)
          have f1 : (gi (sx (si (sR m6 30 1 10) 30 2 wh) 12 wh (gi m6 10 3)) 10 3).toInt = (gi mem 10 3).toInt := congrArg Int32.toInt ((gi_sa).trans ((gi_sv_ne (by decide)).trans ((gi_sv_ne (by decide)).trans (k6_gi (by decide) (k6_fo k7.1 rfl)))))
          have f2 : (gi m6 10 3).toInt = (gi mem 10 3).toInt := congrArg Int32.toInt (k6_gi (by decide) (k6_fo k7.1 rfl))
          have y0 := tk_le hR
          rcases k14.2 with ⟨v1, P, p1, c, g5, g6⟩ | ⟨v0, Z⟩
          · have hq9 := cRd_p c
            by_cases h4 : (tkf T n q16).1.1 = 4
            · exact ⟨_, _, rfl, hm2, ⟨(zfl_sa.trans ((c2q_26 k14.1 (by decide)).trans (zfl_sa.trans ((zfl_sv_ne (by decide)).trans ((zfl_sv_ne (by decide)).trans ((k6_26 (k6_fo k7.1 rfl) (by decide)).trans ht)))))), ((gi_sa).trans ((c2q_gi (by decide) k14.1).trans ((gi_sa).trans ((gi_sv_ne (by decide)).trans ((gi_sv_ne (by decide)).trans (k6_gi (by decide) (k6_fo k7.1 rfl))))))), ((zo_sa (by decide)).trans ((zo_c2 (by decide) (by decide) k14.1).trans ((zo_sa (by decide)).trans ((zo_sv (by decide)).trans ((zo_sv (by decide)).trans (zo_k6 (k6_fo k7.1 rfl)))))))⟩, Or.inr (Or.inr ⟨v1, rea_0 W ek (P.1.trans (M_4 hq9 h4)), h4, cRd_sa (by decide) (by decide) c⟩)⟩
            · obtain ⟨cc, e2, e3⟩ := rea_M (P.1.trans (M_en (f := (0, 0, 0, [])) hq9 (gd_S (sit_3 (Or.inl rfl)) P.2) (by decide) h4))
              have r0 : 0 ≤ (gi (sx (si (sR m6 30 1 10) 30 2 wh) 12 wh (gi m6 10 3)) 10 3).toInt ∧ (gi (sx (si (sR m6 30 1 10) 30 2 wh) 12 wh (gi m6 10 3)) 10 3).toInt ≤ 1600 := by rw [((gi_sa).trans ((gi_sv_ne (by decide)).trans (gi_sv_ne (by decide))))]; exact rlA_r3 hI6
              have r1 := rlA_r3 hm13
              obtain ⟨cu1, cu2, cu3⟩ := cC_cut ((List.append_nil _).symm.trans e3) (gl_11 hm13) (show (ga (sx (si (sR m6 30 1 10) 30 2 wh) 12 wh (gi m6 10 3)) 11).length = 1600 from by rw [((ga_sa_ne (by decide)).trans ((ga_sv).trans (ga_sv)))]; exact gl_11 hI6) ⟨r1.1, r1.2⟩ ⟨r0.1, r0.2⟩
              exact ⟨_, _, rfl, hm2, ⟨(zfl_sa.trans ((c2q_26 k14.1 (by decide)).trans (zfl_sa.trans ((zfl_sv_ne (by decide)).trans ((zfl_sv_ne (by decide)).trans ((k6_26 (k6_fo k7.1 rfl) (by decide)).trans ht)))))), ((gi_sa).trans ((c2q_gi (by decide) k14.1).trans ((gi_sa).trans ((gi_sv_ne (by decide)).trans ((gi_sv_ne (by decide)).trans (k6_gi (by decide) (k6_fo k7.1 rfl))))))), ((zo_sa (by decide)).trans ((zo_c2 (by decide) (by decide) k14.1).trans ((zo_sa (by decide)).trans ((zo_sv (by decide)).trans ((zo_sv (by decide)).trans (zo_k6 (k6_fo k7.1 rfl)))))))⟩, Or.inl ⟨v1, ⟨_, rea_1 W ek e2, cQ_rulA hm hQ hw ((gi_sa).trans ((c2q_gi (by decide) k14.1).trans ((gi_sa).trans ((gi_sv_ne (by decide)).trans ((gi_sv_ne (by decide)).trans (k6_gi (by decide) (k6_fo k7.1 rfl))))))) ((gi_sa).trans ((c2q_gi (by decide) k14.1).trans ((gi_sa).trans ((gi_sv_ne (by decide)).trans ((gi_sv_ne (by decide)).trans (k6_gi (by decide) (k6_fo k7.1 rfl))))))) ((gi_sa).trans ((c2q_gi (by decide) k14.1).trans ((gi_sa).trans ((gi_sv_ne (by decide)).trans ((gi_sv_ne (by decide)).trans (k6_gi (by decide) (k6_fo k7.1 rfl))))))) ((gi_sa).trans ((c2q_gi (by decide) k14.1).trans ((gi_sa).trans ((gi_sv_ne (by decide)).trans ((gi_sv_ne (by decide)).trans (k6_gi (by decide) (k6_fo k7.1 rfl))))))) ((gi_sa).trans ((c2q_gi (by decide) k14.1).trans ((gi_sa).trans ((gi_sv_ne (by decide)).trans ((gi_sv_ne (by decide)).trans (k6_gi (by decide) (k6_fo k7.1 rfl))))))) ((gL_sa).trans ((c2q_gL (by decide) k14.1).trans ((gL_sa).trans ((gL_sv_ne (by decide)).trans ((gL_sv_ne (by decide)).trans (k6_gL (by decide) (k6_fo k7.1 rfl))))))) ((ga_sa_ne (by decide)).trans ((c2q_ga (by decide) k14.1).trans ((ga_sa_ne (by decide)).trans ((ga_sv).trans ((ga_sv).trans (k6_ga (by decide) (k6_fo k7.1 rfl))))))) ((ga_sa_ne (by decide)).trans ((c2q_ga (by decide) k14.1).trans ((ga_sa_ne (by decide)).trans ((ga_sv).trans ((ga_sv).trans (k6_ga (by decide) (k6_fo k7.1 rfl))))))) ((ga_sa_ne (by decide)).trans ((c2q_ga (by decide) k14.1).trans ((ga_sa_ne (by decide)).trans ((ga_sv).trans ((ga_sv).trans (k6_ga (by decide) (k6_fo k7.1 rfl))))))) ((ga_sa_ne (by decide)).trans ((c2q_ga (by decide) k14.1).trans ((ga_sa_ne (by decide)).trans ((ga_sv).trans ((ga_sv).trans (k6_ga (by decide) (k6_fo k7.1 rfl))))))) ((ga_sa_ne (by decide)).trans ((c2q_ga (by decide) k14.1).trans ((ga_sa_ne (by decide)).trans ((ga_sv).trans ((ga_sv).trans (k6_ga (by decide) (k6_fo k7.1 rfl))))))) ((ga_sa_ne (by decide)).trans ((c2q_ga (by decide) k14.1).trans (ga_sa_eq.trans (congrArg (fun l => List.set l wh.toNatClampNeg (gi m6 10 3)) ((ga_sv).trans ((ga_sv).trans (k6_ga (by decide) (k6_fo k7.1 rfl)))))))) (ga_sa_eq.trans (congrArg (fun l => List.set l wh.toNatClampNeg (gi m13 10 3)) ((c2q_ga (by decide) k14.1).trans ((ga_sa_ne (by decide)).trans ((ga_sv).trans ((ga_sv).trans (k6_ga (by decide) (k6_fo k7.1 rfl)))))))) (by omega) ((gi_sa).trans ((c2q_gi (by decide) k14.1).trans ((gi_sa).trans ((gi_sv_ne (by decide)).trans ((gi_sv_ne (by decide)).trans (k6_gi (by decide) (k6_fo k7.1 rfl))))))) ((gi_sa).trans ((c2q_gi (by decide) k14.1).trans ((gi_sa).trans ((gi_sv_ne (by decide)).trans ((gi_sv_ne (by decide)).trans (k6_gi (by decide) (k6_fo k7.1 rfl))))))) ((gL_sa).trans ((c2q_gL (by decide) k14.1).trans ((gL_sa).trans ((gL_sv_ne (by decide)).trans ((gL_sv_ne (by decide)).trans (k6_gL (by decide) (k6_fo k7.1 rfl))))))) ((ga_sa_ne (by decide)).trans ((c2q_ga (by decide) k14.1).trans ((ga_sa_ne (by decide)).trans ((ga_sv).trans ((ga_sv).trans (k6_ga (by decide) (k6_fo k7.1 rfl))))))) ((ga_sa_ne (by decide)).trans ((c2q_ga (by decide) k14.1).trans ((ga_sa_ne (by decide)).trans ((ga_sv).trans ((ga_sv).trans (k6_ga (by decide) (k6_fo k7.1 rfl))))))) (by omega) (by omega) (by omega) (by rw [gi_sa]) (fun i hi => by rw [ga_sa_ne (by decide), cu2 i (by omega), ((ga_sa_ne (by decide)).trans ((ga_sv).trans ((ga_sv).trans (k6_ga (by decide) (k6_fo k7.1 rfl)))))]) (fun i hi => by rw [ga_sa_ne (by decide)]; have q8 := cu3 i hi; rw [f1, ← f2] at q8; exact q8)⟩, cRd_sa (by decide) (by decide) c, by rw [gi_sa]; omega⟩⟩
          · exact ⟨_, p, rfl, hm2, ⟨(zfl_sa.trans ((c2q_26 k14.1 (by decide)).trans (zfl_sa.trans ((zfl_sv_ne (by decide)).trans ((zfl_sv_ne (by decide)).trans ((k6_26 (k6_fo k7.1 rfl) (by decide)).trans ht)))))), ((gi_sa).trans ((c2q_gi (by decide) k14.1).trans ((gi_sa).trans ((gi_sv_ne (by decide)).trans ((gi_sv_ne (by decide)).trans (k6_gi (by decide) (k6_fo k7.1 rfl))))))), ((zo_sa (by decide)).trans ((zo_c2 (by decide) (by decide) k14.1).trans ((zo_sa (by decide)).trans ((zo_sv (by decide)).trans ((zo_sv (by decide)).trans (zo_k6 (k6_fo k7.1 rfl)))))))⟩, Or.inr (Or.inl ⟨v0, rea_0 W ek Z⟩)⟩)
        (fun y1 e2 y3 e4 q5 hm2 => by
          have U := hQ.2.2.2.2.2.1 wh.toInt hw.1 (by omega)
          exact ⟨_, p, rfl, hm2, ⟨((zfl_sv_ne (by decide)).trans ((zfl_sv_ne (by decide)).trans ht)), ((gi_sv_ne (by decide)).trans (gi_sv_ne (by decide))), ((zo_sv (by decide)).trans (zo_sv (by decide)))⟩, Or.inr (Or.inl ⟨rfl, oif_f (fun w => w (U.1 (by omega)))⟩)⟩)
theorem cQ_rulB {wh s0 s1 : Int32} (hm : aTm aT0 mem) (h : cQ 14 15 16 19 20 21 24 25 Q mem) (hw : 0 ≤ wh.toInt ∧ wh.toInt ≤ 2) (e1 : gi m 14 1 = gi mem 14 1) (e2 : gi m 14 2 = gi mem 14 2) (e7 : gi m 14 7 = gi mem 14 7) (e12 : gi m 14 12 = gi mem 14 12) (e13 : gi m 14 13 = gi mem 14 13) (eL : gL m 14 6 = gL mem 14 6) (a1 : ga m 15 = ga mem 15) (a2 : ga m 16 = ga mem 16) (a3 : ga m 19 = ga mem 19) (a4 : ga m 20 = ga mem 20) (a5 : ga m 21 = ga mem 21) (eF : ga m 24 = (ga mem 24).set wh.toNatClampNeg s0) (eE : ga m 25 = (ga mem 25).set wh.toNatClampNeg s1) (lt : s0.toInt < s1.toInt) (x3 : gi m 14 3 = gi mem 14 3) (x4 : gi m 14 4 = gi mem 14 4) (x5 : gL m 14 5 = gL mem 14 5) (xU : ga m 17 = ga mem 17) (xV : ga m 18 = ga mem 18) {c : List Int} (z0 : s0.toInt = (gi mem 22 3).toInt) (z9 : 0 ≤ s0.toInt) (z1 : s1.toInt = s0.toInt + (c.length : Int)) (zR : (gi m 22 3).toInt = s1.toInt) (kp : ∀ i : Nat, (i : Int) < s0.toInt → gn (ga m 23) (i : Int) = gn (ga mem 23) (i : Int)) (nw : ∀ i : Nat, i < c.length → gn (ga m 23) (s0.toInt + (i : Int)) = c.getD i 0) : cQ 14 15 16 19 20 21 24 25 (Qc Q, Qr Q, Qw Q, Qt Q, Qh Q, Qf Q, wh.toInt :: Qu Q, Qg Q, Qp Q, Qa Q, (wh.toInt, c) :: Qk Q) m := by
  have g1 := gl_24 hm
  have g2 := gl_25 hm
  obtain ⟨k1, k2, k3, k4, k5, k6, k7⟩ := h
  refine ⟨⟨by rw [e1]; exact k1.1, by rw [e2]; exact k1.2⟩, by unfold cQw; rw [eL]; exact k2, by unfold cQt; rw [e7, a1, a2]; exact k3, by unfold cQh; rw [e12]; exact k4, by unfold cQf; rw [e13, a3, a4, a5]; exact k5, fun w w0 w1 => ?_, ⟨k7.1.1, fun i y hy => by rw [show ga m (14 + 3) = ga mem (14 + 3) from xU, show ga m (14 + 4) = ga mem (14 + 4) from xV]; exact k7.1.2 i y hy⟩, ⟨by rw [x3]; exact k7.2.1.1, by rw [x4]; exact k7.2.1.2.1, by rw [x5]; exact k7.2.1.2.2⟩, fun w w0 w1 c' hc => ?_⟩
  rotate_left
  · have hc : ((wh.toInt, c) :: Qk Q).lookup w = some c' := hc
    have eF' : ga m (14 + 10) = (ga mem 24).set wh.toNatClampNeg s0 := eF
    have eE' : ga m (14 + 11) = (ga mem 25).set wh.toNatClampNeg s1 := eE
    have zR' : (gi m (14 + 8) 3).toInt = s1.toInt := zR
    have F9 : ∀ i, gn (ga m (14 + 9)) i = gn (ga m 23) i := fun _ => rfl
    rw [eF', eE', zR', gn_set (a := wh.toInt) rfl hw.1 (by omega) w0, gn_set (a := wh.toInt) rfl hw.1 (by omega) w0]
    by_cases d : w = wh.toInt
    · subst d
      rw [List.lookup_cons_self] at hc
      cases hc
      rw [if_pos rfl, if_pos rfl]
      exact ⟨z9, z1, Int.le_refl _, fun i hi => by rw [F9]; exact nw i hi⟩
    · have z : (w == wh.toInt) = false := by
        rw [beq_eq_false_iff_ne]
        exact d
      rw [List.lookup_cons, z] at hc
      rw [if_neg d, if_neg d]
      obtain ⟨u1, u2, u3, u4⟩ := k7.2.2 w w0 w1 c' hc
      have u3 : gn (ga mem 25) w ≤ (gi mem 22 3).toInt := u3
      have u1 : 0 ≤ gn (ga mem 24) w := u1
      have u2 : gn (ga mem 25) w = gn (ga mem 24) w + (c'.length : Int) := u2
      refine ⟨u1, u2, by omega, fun i hi => ?_⟩
      have u5 : gn (ga mem 23) (gn (ga mem 24) w + (i : Int)) = c'.getD i 0 := u4 i hi
      have v := kp (gn (ga mem 24) w + (i : Int)).toNat (by omega)
      rw [show (((gn (ga mem 24) w + (i : Int)).toNat : Nat) : Int) = gn (ga mem 24) w + (i : Int) by omega] at v
      rw [F9, v, u5]
  show _ ↔ w ∈ wh.toInt :: Qu Q
  rw [eF, eE, gn_set (a := wh.toInt) rfl hw.1 (by omega) w0, gn_set (a := wh.toInt) rfl hw.1 (by omega) w0, List.mem_cons]
  by_cases c : w = wh.toInt
  · rw [if_pos c, if_pos c]
    exact ⟨fun _ => Or.inl c, fun _ => lt⟩
  · rw [if_neg c, if_neg c, k6 w w0 w1]
    exact ⟨fun z => Or.inr z, fun z => z.elim (fun y => absurd y c) id⟩
set_option maxRecDepth 100000 in
theorem w_ruB {d : Nat} {mem : zM} {P : Option Value → zM → Prop} {T : List Int32} {n p : Int} {Q : Qd} {wh : Int32} (hm : aTm aT0 mem) (ht : zfl mem 26 2 = some (.ref 14)) (hR : cRd T n p mem) (hk4 : ¬ (tkf T n p).1.1 = 4) (hq : hqQ Q) (hQ : cQ 14 15 16 19 20 21 24 25 Q mem) (hw : 0 ≤ wh.toInt ∧ wh.toInt ≤ 2) (hA : hRA 22 23) (hs : (gi mem 22 3).toInt ≤ p) (hn : n ≤ 1600) (hS : tAll 22 23 T n wh.toInt 0 60) (s1 : ∀ (y1 : Int32), y1.toInt = (gn (ga mem 25) (wh).toInt) → ∀ (y3 : Int32), y3.toInt = (gn (ga mem 24) (wh).toInt) → (gn (ga mem 25) (wh).toInt) ≤ (gn (ga mem 24) (wh).toInt) → ∀ (m6 : zM), aTm aT0 m6 → (fo 27 [] avF mem m6 ∧ cRd T n (tkf T n p).2 m6) → (0 : Int) ≤ (gi m6 22 3).toInt ∧ (gi m6 22 3).toInt ≤ 1600) (s2 : ∀ (y1 : Int32), y1.toInt = (gn (ga mem 25) (wh).toInt) → ∀ (y3 : Int32), y3.toInt = (gn (ga mem 24) (wh).toInt) → (gn (ga mem 25) (wh).toInt) ≤ (gn (ga mem 24) (wh).toInt) → ∀ (m6 : zM), aTm aT0 m6 → (fo 27 [] avF mem m6 ∧ cRd T n (tkf T n p).2 m6) → ¬ (wh).toInt = 0 → ∀ (v11 : Int32) (q12 : Int) (m9 : zM), aTm aT0 m9 → tH 22 23 T n (tkf T n p).2 (pTest T n wh.toInt (cC 22 23 (sx (si (sR m6 30 1 22) 30 2 wh) 24 wh (gi m6 22 3))) (1, 0, 1, []) [] (tkf T n p).2) (Mch T n wh.toInt (cC 22 23 (sx (si (sR m6 30 1 22) 30 2 wh) 24 wh (gi m6 22 3))) ((1, 0, 1, []) :: []) 0 (tkf T n p).2 = none) (sx (si (sR m6 30 1 22) 30 2 wh) 24 wh (gi m6 22 3)) v11.toInt q12 m9 → (0 : Int) ≤ (gi m9 22 3).toInt ∧ (gi m9 22 3).toInt ≤ 1600) (s3 : ∀ (y1 : Int32), y1.toInt = (gn (ga mem 25) (wh).toInt) → ∀ (y3 : Int32), y3.toInt = (gn (ga mem 24) (wh).toInt) → (gn (ga mem 25) (wh).toInt) ≤ (gn (ga mem 24) (wh).toInt) → ∀ (m6 : zM), aTm aT0 m6 → (fo 27 [] avF mem m6 ∧ cRd T n (tkf T n p).2 m6) → ¬ (wh).toInt = 0 → ∀ (v11 : Int32) (q12 : Int) (m9 : zM), aTm aT0 m9 → tH 22 23 T n (tkf T n p).2 (pTest T n wh.toInt (cC 22 23 (sx (si (sR m6 30 1 22) 30 2 wh) 24 wh (gi m6 22 3))) (1, 0, 1, []) [] (tkf T n p).2) (Mch T n wh.toInt (cC 22 23 (sx (si (sR m6 30 1 22) 30 2 wh) 24 wh (gi m6 22 3))) ((1, 0, 1, []) :: []) 0 (tkf T n p).2 = none) (sx (si (sR m6 30 1 22) 30 2 wh) 24 wh (gi m6 22 3)) v11.toInt q12 m9 → (0 : Int) ≤ (v11).toInt ∧ (v11).toInt ≤ 1) (h1 : ∀ (y1 : Int32), y1.toInt = (gn (ga mem 25) (wh).toInt) → ∀ (y3 : Int32), y3.toInt = (gn (ga mem 24) (wh).toInt) → (gn (ga mem 25) (wh).toInt) ≤ (gn (ga mem 24) (wh).toInt) → ∀ (m6 : zM), aTm aT0 m6 → (fo 27 [] avF mem m6 ∧ cRd T n (tkf T n p).2 m6) → ¬ (wh).toInt = 0 → ∀ (v11 : Int32) (q12 : Int) (m9 : zM), aTm aT0 m9 → tH 22 23 T n (tkf T n p).2 (pTest T n wh.toInt (cC 22 23 (sx (si (sR m6 30 1 22) 30 2 wh) 24 wh (gi m6 22 3))) (1, 0, 1, []) [] (tkf T n p).2) (Mch T n wh.toInt (cC 22 23 (sx (si (sR m6 30 1 22) 30 2 wh) 24 wh (gi m6 22 3))) ((1, 0, 1, []) :: []) 0 (tkf T n p).2 = none) (sx (si (sR m6 30 1 22) 30 2 wh) 24 wh (gi m6 22 3)) v11.toInt q12 m9 → aTm aT0 (sx m9 25 wh (gi m9 22 3)) → P (some (.int v11)) (sx m9 25 wh (gi m9 22 3))) (s4 : ∀ (y1 : Int32), y1.toInt = (gn (ga mem 25) (wh).toInt) → ∀ (y3 : Int32), y3.toInt = (gn (ga mem 24) (wh).toInt) → (gn (ga mem 25) (wh).toInt) ≤ (gn (ga mem 24) (wh).toInt) → ∀ (m6 : zM), aTm aT0 m6 → (fo 27 [] avF mem m6 ∧ cRd T n (tkf T n p).2 m6) → (wh).toInt = 0 → ∀ (v15 : Int32) (q16 : Int) (m13 : zM), aTm aT0 m13 → tH 22 23 T n (tkf T n p).2 (pSum T n wh.toInt (cC 22 23 (sx (si (sR m6 30 1 22) 30 2 wh) 24 wh (gi m6 22 3))) (0, 0, 1, []) [] (tkf T n p).2) (Mch T n wh.toInt (cC 22 23 (sx (si (sR m6 30 1 22) 30 2 wh) 24 wh (gi m6 22 3))) ((0, 0, 1, []) :: []) 0 (tkf T n p).2 = none) (sx (si (sR m6 30 1 22) 30 2 wh) 24 wh (gi m6 22 3)) v15.toInt q16 m13 → (0 : Int) ≤ (gi m13 22 3).toInt ∧ (gi m13 22 3).toInt ≤ 1600) (s5 : ∀ (y1 : Int32), y1.toInt = (gn (ga mem 25) (wh).toInt) → ∀ (y3 : Int32), y3.toInt = (gn (ga mem 24) (wh).toInt) → (gn (ga mem 25) (wh).toInt) ≤ (gn (ga mem 24) (wh).toInt) → ∀ (m6 : zM), aTm aT0 m6 → (fo 27 [] avF mem m6 ∧ cRd T n (tkf T n p).2 m6) → (wh).toInt = 0 → ∀ (v15 : Int32) (q16 : Int) (m13 : zM), aTm aT0 m13 → tH 22 23 T n (tkf T n p).2 (pSum T n wh.toInt (cC 22 23 (sx (si (sR m6 30 1 22) 30 2 wh) 24 wh (gi m6 22 3))) (0, 0, 1, []) [] (tkf T n p).2) (Mch T n wh.toInt (cC 22 23 (sx (si (sR m6 30 1 22) 30 2 wh) 24 wh (gi m6 22 3))) ((0, 0, 1, []) :: []) 0 (tkf T n p).2 = none) (sx (si (sR m6 30 1 22) 30 2 wh) 24 wh (gi m6 22 3)) v15.toInt q16 m13 → (0 : Int) ≤ (v15).toInt ∧ (v15).toInt ≤ 1) (h2 : ∀ (y1 : Int32), y1.toInt = (gn (ga mem 25) (wh).toInt) → ∀ (y3 : Int32), y3.toInt = (gn (ga mem 24) (wh).toInt) → (gn (ga mem 25) (wh).toInt) ≤ (gn (ga mem 24) (wh).toInt) → ∀ (m6 : zM), aTm aT0 m6 → (fo 27 [] avF mem m6 ∧ cRd T n (tkf T n p).2 m6) → (wh).toInt = 0 → ∀ (v15 : Int32) (q16 : Int) (m13 : zM), aTm aT0 m13 → tH 22 23 T n (tkf T n p).2 (pSum T n wh.toInt (cC 22 23 (sx (si (sR m6 30 1 22) 30 2 wh) 24 wh (gi m6 22 3))) (0, 0, 1, []) [] (tkf T n p).2) (Mch T n wh.toInt (cC 22 23 (sx (si (sR m6 30 1 22) 30 2 wh) 24 wh (gi m6 22 3))) ((0, 0, 1, []) :: []) 0 (tkf T n p).2 = none) (sx (si (sR m6 30 1 22) 30 2 wh) 24 wh (gi m6 22 3)) v15.toInt q16 m13 → aTm aT0 (sx m13 25 wh (gi m13 22 3)) → P (some (.int v15)) (sx m13 25 wh (gi m13 22 3))) (h3 : ∀ (y1 : Int32), y1.toInt = (gn (ga mem 25) (wh).toInt) → ∀ (y3 : Int32), y3.toInt = (gn (ga mem 24) (wh).toInt) → (gn (ga mem 24) (wh).toInt) < (gn (ga mem 25) (wh).toInt) → aTm aT0 (si (si mem 27 10 6) 27 11 (gi mem 27 6)) → P (some (.int 0)) (si (si mem 27 10 6) 27 11 (gi mem 27 6))) : yR zpg tX9_takesRule (d + 60) (0, [(0, .ref 26), (1, .int wh)], [], mem) P := by
  refine yR_m 1 (fun _ _ _ _ => rfl) ?_
  refine wR_gq rfl tO_e hm ht ?_
  refine wR_gr rfl quB_e quB_17 hm ?_
  refine yR_m 1 (fun _ _ _ _ => rfl) ?_
  refine wR_iv rfl rfl rlB_e hm rfl rfl rfl rfl ?_
  show yR zpg tX7_isTold (d + 59) (0, [(0, .ref 22), (1, .int wh)], [], mem) _
  refine yR_m 1 (fun _ _ _ _ => rfl) ?_
  refine wR_gr rfl rlB_e rlB_2 hm ?_
  refine yR_m 1 (fun _ _ _ _ => rfl) ?_
  refine wN_al (a := (wh).toInt) rfl aR_25 hm rfl rfl (by omega) (fun y1 e2 => ?_)
  refine yR_m 1 (fun _ _ _ _ => rfl) ?_
  refine wR_gr rfl rlB_e rlB_1 hm ?_
  refine yR_m 1 (fun _ _ _ _ => rfl) ?_
  refine wN_al (a := (wh).toInt) rfl aR_24 hm rfl rfl (by omega) (fun y3 e4 => ?_)
  refine wR_ic_le rfl (a := (gn (ga mem 25) (wh).toInt)) (c := (gn (ga mem 24) (wh).toInt)) e2 e4 (fun q5 => ?_) (fun q5 => ?_)
  ·
    refine yR_m 1 (fun _ _ _ _ => rfl) ?_
    refine yR_rz rfl ⟨by decide, by decide⟩ ?_
    show yR zpg tX9_takesRule (d + 60) (11, [(0, .ref 26), (1, .int wh)], [.int 0], mem) _
    refine wR_if_eq rfl (a := 0) rfl (fun _ => ?_) (fun q => by exfalso; omega)
    refine yR_m 1 (fun _ _ _ _ => rfl) ?_
    refine wR_gr rfl tO_e tO_0 hm ?_
    refine wR_cv rfl rfl rO_e hm rfl (h_avC (T := T) (n := n) (p := p) hm (cRd_t hR) hk4 (by omega)) ?_
    rintro _ m6 ⟨rfl, hI6, k7⟩
    show yR zpg tX9_takesRule (d + 60) (38, [(0, .ref 26), (1, .int wh)], [], m6) _
    refine yR_m 1 (fun _ _ _ _ => rfl) ?_
    refine wR_gr rfl tO_e tO_1 hI6 ?_
    refine yR_m 1 (fun _ _ _ _ => rfl) ?_
    refine wR_gq rfl tO_e hI6 ((k6_26 (k6_fo k7.1 rfl) (by decide)).trans ht) ?_
    refine wR_gr rfl quB_e quB_17 hI6 ?_
    refine yR_m 1 (fun _ _ _ _ => rfl) ?_
    refine wR_iv rfl rfl sO_e hI6 rfl rfl rfl rfl ?_
    show yR zpg tX10_begin (d + 59) (0, [(0, .ref 30), (1, .ref 22), (2, .int wh)], [], m6) _
    refine yR_m 2 (fun _ _ _ _ => rfl) ?_
    refine wR_pr rfl sO_e sO_1 hI6 rfl ?_
    have hm_1 : aTm aT0 (sR m6 30 1 22) := tm_sR sO_e sO_1 hI6 (by decide)
    refine yR_m 2 (fun _ _ _ _ => rfl) ?_
    refine wR_pi rfl sO_e sO_2 hm_1 rfl ?_
    have hm_2 : aTm aT0 (si (sR m6 30 1 22) 30 2 wh) := tm_si sO_e sO_2 hm_1 (i32_b _)
    refine yR_rv rfl ?_
    show yR zpg tX9_takesRule (d + 60) (53, [(0, .ref 26), (1, .int wh)], [], (si (sR m6 30 1 22) 30 2 wh)) _
    refine yR_m 1 (fun _ _ _ _ => rfl) ?_
    refine wR_gq rfl tO_e hm_2 ((zfl_sv_ne (by decide)).trans ((zfl_sv_ne (by decide)).trans ((k6_26 (k6_fo k7.1 rfl) (by decide)).trans ht))) ?_
    refine wR_gr rfl quB_e quB_17 hm_2 ?_
    refine yR_m 1 (fun _ _ _ _ => rfl) ?_
    refine wR_iv rfl rfl rlB_e hm_2 rfl rfl rfl rfl ?_
    show yR zpg tX7_begin (d + 59) (0, [(0, .ref 22), (1, .int wh)], [], (si (sR m6 30 1 22) 30 2 wh)) _
    refine yR_m 1 (fun _ _ _ _ => rfl) ?_
    refine wR_gr rfl rlB_e rlB_1 hm_2 ?_
    refine yR_m 2 (fun _ _ _ _ => rfl) ?_
    refine wR_gi rfl rlB_e rlB_3 hm_2 ((gi_sv_ne (by decide)).trans (gi_sv_ne (by decide))) ?_
    refine wN_as (a := (wh).toInt) rfl aR_24 hm_2 rfl (by omega) ?_
    have hm_3 : aTm aT0 (sx (si (sR m6 30 1 22) 30 2 wh) 24 wh (gi m6 22 3)) := tm_sa aR_24 hm_2 (s1 y1 e2 y3 e4 q5 m6 hI6 k7)
    refine yR_rv rfl ?_
    show yR zpg tX9_takesRule (d + 60) (64, [(0, .ref 26), (1, .int wh)], [], (sx (si (sR m6 30 1 22) 30 2 wh) 24 wh (gi m6 22 3))) _
    refine yR_m 1 (fun _ _ _ _ => rfl) ?_
    refine wR_if_ne rfl (a := (wh).toInt) rfl (fun q8 => ?_) (fun q8 => ?_)
    ·
      refine yR_m 1 (fun _ _ _ _ => rfl) ?_
      refine wR_gr rfl tO_e tO_1 hm_3 ?_
      refine yR_m 1 (fun _ _ _ _ => rfl) ?_
      refine wR_cv rfl rfl sO_e hm_3 rfl (hS.2.2.2 _ _ _ (tkf T n p).2 (1, 0, 1, []) [] (by omega) rfl hm_3 ⟨hA, (zfl_sa.trans ((zfl_sv_ne (by decide)).trans (zfl_sR sO_e sO_1 hI6))), congrArg Int32.toInt ((gi_sa).trans (gi_eqQ (isQ_sv (isQ_of sO_e hI6)) sO_2)), (cRd_sa (by decide) (by decide) (cRd_sv (by decide) (cRd_sv (by decide) k7.2))), (by rw [((gi_sa).trans ((gi_sv_ne (by decide)).trans ((gi_sv_ne (by decide)).trans (k6_gi (by decide) (k6_fo k7.1 rfl)))))]; have q9 := (tk_le hR).1; omega), hn⟩ rfl ⟨Or.inl rfl, rfl, rfl, hdk_0⟩) ?_
      rintro _ m9 ⟨v11, q12, rfl, hm9, k10⟩
      show yR zpg tX9_takesRule (d + 60) (87, [(0, .ref 26), (1, .int wh)], [.int v11], m9) _
      refine yR_m 2 (fun _ _ _ _ => rfl) ?_
      refine wR_gq rfl tO_e hm9 ((c2q_26 k10.1 (by decide)).trans (zfl_sa.trans ((zfl_sv_ne (by decide)).trans ((zfl_sv_ne (by decide)).trans ((k6_26 (k6_fo k7.1 rfl) (by decide)).trans ht))))) ?_
      refine wR_gr rfl quB_e quB_17 hm9 ?_
      refine yR_m 1 (fun _ _ _ _ => rfl) ?_
      refine wR_iv rfl rfl rlB_e hm9 rfl rfl rfl rfl ?_
      show yR zpg tX7_close (d + 59) (0, [(0, .ref 22), (1, .int wh)], [], m9) _
      refine yR_m 1 (fun _ _ _ _ => rfl) ?_
      refine wR_gr rfl rlB_e rlB_2 hm9 ?_
      refine yR_m 2 (fun _ _ _ _ => rfl) ?_
      refine wR_gi rfl rlB_e rlB_3 hm9 rfl ?_
      refine wN_as (a := (wh).toInt) rfl aR_25 hm9 rfl (by omega) ?_
      have hm_4 : aTm aT0 (sx m9 25 wh (gi m9 22 3)) := tm_sa aR_25 hm9 (s2 y1 e2 y3 e4 q5 m6 hI6 k7 q8 v11 q12 m9 hm9 k10)
      refine yR_rv rfl ?_
      show yR zpg tX9_takesRule (d + 60) (99, [(2, .int v11), (0, .ref 26), (1, .int wh)], [], (sx m9 25 wh (gi m9 22 3))) _
      refine yR_m 1 (fun _ _ _ _ => rfl) ?_
      exact yR_rz rfl (s3 y1 e2 y3 e4 q5 m6 hI6 k7 q8 v11 q12 m9 hm9 k10) (h1 y1 e2 y3 e4 q5 m6 hI6 k7 q8 v11 q12 m9 hm9 k10 hm_4)
    ·
      refine yR_m 1 (fun _ _ _ _ => rfl) ?_
      refine wR_gr rfl tO_e tO_1 hm_3 ?_
      refine yR_m 1 (fun _ _ _ _ => rfl) ?_
      refine wR_cv rfl rfl sO_e hm_3 rfl (hS.1 _ _ _ (tkf T n p).2 (0, 0, 1, []) [] (by omega) rfl hm_3 ⟨hA, (zfl_sa.trans ((zfl_sv_ne (by decide)).trans (zfl_sR sO_e sO_1 hI6))), congrArg Int32.toInt ((gi_sa).trans (gi_eqQ (isQ_sv (isQ_of sO_e hI6)) sO_2)), (cRd_sa (by decide) (by decide) (cRd_sv (by decide) (cRd_sv (by decide) k7.2))), (by rw [((gi_sa).trans ((gi_sv_ne (by decide)).trans ((gi_sv_ne (by decide)).trans (k6_gi (by decide) (k6_fo k7.1 rfl)))))]; have q9 := (tk_le hR).1; omega), hn⟩ rfl ⟨show (0 : Int) < 2 by decide, n3_k (sit_3 (Or.inl rfl)), hdk_0⟩) ?_
      rintro _ m13 ⟨v15, q16, rfl, hm13, k14⟩
      show yR zpg tX9_takesRule (d + 60) (76, [(0, .ref 26), (1, .int wh)], [.int v15], m13) _
      refine yR_m 3 (fun _ _ _ _ => rfl) ?_
      refine wR_gq rfl tO_e hm13 ((c2q_26 k14.1 (by decide)).trans (zfl_sa.trans ((zfl_sv_ne (by decide)).trans ((zfl_sv_ne (by decide)).trans ((k6_26 (k6_fo k7.1 rfl) (by decide)).trans ht))))) ?_
      refine wR_gr rfl quB_e quB_17 hm13 ?_
      refine yR_m 1 (fun _ _ _ _ => rfl) ?_
      refine wR_iv rfl rfl rlB_e hm13 rfl rfl rfl rfl ?_
      show yR zpg tX7_close (d + 59) (0, [(0, .ref 22), (1, .int wh)], [], m13) _
      refine yR_m 1 (fun _ _ _ _ => rfl) ?_
      refine wR_gr rfl rlB_e rlB_2 hm13 ?_
      refine yR_m 2 (fun _ _ _ _ => rfl) ?_
      refine wR_gi rfl rlB_e rlB_3 hm13 rfl ?_
      refine wN_as (a := (wh).toInt) rfl aR_25 hm13 rfl (by omega) ?_
      have hm_5 : aTm aT0 (sx m13 25 wh (gi m13 22 3)) := tm_sa aR_25 hm13 (s4 y1 e2 y3 e4 q5 m6 hI6 k7 q8 v15 q16 m13 hm13 k14)
      refine yR_rv rfl ?_
      show yR zpg tX9_takesRule (d + 60) (99, [(2, .int v15), (0, .ref 26), (1, .int wh)], [], (sx m13 25 wh (gi m13 22 3))) _
      refine yR_m 1 (fun _ _ _ _ => rfl) ?_
      exact yR_rz rfl (s5 y1 e2 y3 e4 q5 m6 hI6 k7 q8 v15 q16 m13 hm13 k14) (h2 y1 e2 y3 e4 q5 m6 hI6 k7 q8 v15 q16 m13 hm13 k14 hm_5)
  ·
    refine yR_m 2 (fun _ _ _ _ => rfl) ?_
    refine yR_rz rfl ⟨by decide, by decide⟩ ?_
    show yR zpg tX9_takesRule (d + 60) (11, [(0, .ref 26), (1, .int wh)], [.int 1], mem) _
    refine wR_if_eq rfl (a := 1) rfl (fun q => by exfalso; omega) (fun _ => ?_)
    refine yR_m 1 (fun _ _ _ _ => rfl) ?_
    refine wR_gr rfl tO_e tO_0 hm ?_
    refine yR_m 2 (fun _ _ _ _ => rfl) ?_
    refine wR_gr rfl tO_e tO_0 hm ?_
    refine wR_gi rfl rO_e rO_6 hm rfl ?_
    refine wR_iv rfl rfl rO_e hm rfl rfl rfl rfl ?_
    show yR zpg tX5_faults (d + 59) (0, [(0, .ref 27), (1, .int 6), (2, .int (gi mem 27 6))], [], mem) _
    refine yR_m 2 (fun _ _ _ _ => rfl) ?_
    refine wR_pi rfl rO_e rO_10 hm rfl ?_
    have hm_6 : aTm aT0 (si mem 27 10 6) := tm_si rO_e rO_10 hm (i32_b _)
    refine yR_m 2 (fun _ _ _ _ => rfl) ?_
    refine wR_pi rfl rO_e rO_11 hm_6 rfl ?_
    have hm_7 : aTm aT0 (si (si mem 27 10 6) 27 11 (gi mem 27 6)) := tm_si rO_e rO_11 hm_6 (i32_b _)
    refine yR_m 1 (fun _ _ _ _ => rfl) ?_
    refine yR_rz rfl ⟨by decide, by decide⟩ ?_
    show yR zpg tX9_takesRule (d + 60) (30, [(0, .ref 26), (1, .int wh)], [.int 0], (si (si mem 27 10 6) 27 11 (gi mem 27 6))) _
    exact yR_rz rfl ⟨by decide, by decide⟩ (h3 y1 e2 y3 e4 q5 hm_7)

theorem h_ruCB {wh : Int32} (hw : 0 ≤ wh.toInt ∧ wh.toInt ≤ 2) (hm : aTm aT0 mem) (ht : zfl mem 26 2 = some (.ref 14)) (hR : cRd T n p mem) (h4 : ¬ (tkf T n p).1.1 = 4) (hq : hqQ Q) (hQ : cQ 14 15 16 19 20 21 24 25 Q mem) (hs : (gi mem 22 3).toInt ≤ p) (hn : n ≤ 1600) (hd : 61 ≤ d) : yC zpg d 95 [.ref 26, .int wh] mem (fun a m => ∃ (v : Int32) (q : Int), a = some (.int v) ∧ aTm aT0 m ∧ stCB T n mem (sRea T n wh.toInt Q (tkf T n p).2) v.toInt q m) := by
  obtain ⟨d, rfl⟩ : ∃ q, d = q + 61 := ⟨d - 61, by omega⟩
  have hA : hRA 22 23 := by
    unfold hRA
    decide
  have hS : tAll 22 23 T n wh.toInt 0 60 := c_all hA 7 0 rfl
  refine yC_of (t := tX9_takesRule) rfl rfl ?_
  exact w_ruB (T := T) (n := n) (p := p) (Q := Q) hm ht hR h4 hq hQ hw hA hs hn hS
        (fun y1 e2 y3 e4 q5 m6 hI6 k7 => rlB_r3 hI6)
        (fun y1 e2 y3 e4 q5 m6 hI6 k7 q8 v11 q12 m9 hm9 k10 => rlB_r3 hm9)
        (fun y1 e2 y3 e4 q5 m6 hI6 k7 q8 v11 q12 m9 hm9 k10 => by
          rcases k10.2 with w | w
          · have w1 := w.1
            omega
          · have w1 := w.1
            omega)
        (fun y1 e2 y3 e4 q5 m6 hI6 k7 q8 v11 q12 m9 hm9 k10 hm2 => by
          have U := hQ.2.2.2.2.2.1 wh.toInt hw.1 (by omega)
          have W : ¬ wh.toInt ∈ Qu Q := fun z => by have z2 := U.2 z; omega
          have ek : kS wh.toInt = 1 := if_neg (by omega)
          have f1 : (gi (sx (si (sR m6 30 1 22) 30 2 wh) 24 wh (gi m6 22 3)) 22 3).toInt = (gi mem 22 3).toInt := congrArg Int32.toInt ((gi_sa).trans ((gi_sv_ne (by decide)).trans ((gi_sv_ne (by decide)).trans (k6_gi (by decide) (k6_fo k7.1 rfl)))))
          have f2 : (gi m6 22 3).toInt = (gi mem 22 3).toInt := congrArg Int32.toInt (k6_gi (by decide) (k6_fo k7.1 rfl))
          have y0 := tk_le hR
          rcases k10.2 with ⟨v1, P, p1, c, g5, g6⟩ | ⟨v0, Z⟩
          · have hq9 := cRd_p c
            obtain ⟨⟨g, g1, g2, g3, g5, g4⟩, h2⟩ := P
            by_cases h4 : (tkf T n q12).1.1 = 4
            · exact ⟨_, _, rfl, hm2, ⟨(zfl_sa.trans ((c2q_26 k10.1 (by decide)).trans (zfl_sa.trans ((zfl_sv_ne (by decide)).trans ((zfl_sv_ne (by decide)).trans ((k6_26 (k6_fo k7.1 rfl) (by decide)).trans ht)))))), ((gi_sa).trans ((c2q_gi (by decide) k10.1).trans ((gi_sa).trans ((gi_sv_ne (by decide)).trans ((gi_sv_ne (by decide)).trans (k6_gi (by decide) (k6_fo k7.1 rfl))))))), ((zo_sa (by decide)).trans ((zo_c2 (by decide) (by decide) k10.1).trans ((zo_sa (by decide)).trans ((zo_sv (by decide)).trans ((zo_sv (by decide)).trans (zo_k6 (k6_fo k7.1 rfl)))))))⟩, Or.inr (Or.inr ⟨v1, rea_0 W ek (g4.trans (M_4 hq9 h4)), h4, cRd_sa (by decide) (by decide) c⟩)⟩
            · obtain ⟨cc, e2, e3⟩ := rea_M (g4.trans ((M_en (f := g) hq9 (gd_T g2 g3 h2) (by rw [g1]; decide) h4).trans (by rw [show g.2.2.2 = [] from g5])))
              have r0 : 0 ≤ (gi (sx (si (sR m6 30 1 22) 30 2 wh) 24 wh (gi m6 22 3)) 22 3).toInt ∧ (gi (sx (si (sR m6 30 1 22) 30 2 wh) 24 wh (gi m6 22 3)) 22 3).toInt ≤ 1600 := by rw [((gi_sa).trans ((gi_sv_ne (by decide)).trans (gi_sv_ne (by decide))))]; exact rlB_r3 hI6
              have r1 := rlB_r3 hm9
              obtain ⟨cu1, cu2, cu3⟩ := cC_cut ((List.append_nil _).symm.trans e3) (gl_23 hm9) (show (ga (sx (si (sR m6 30 1 22) 30 2 wh) 24 wh (gi m6 22 3)) 23).length = 1600 from by rw [((ga_sa_ne (by decide)).trans ((ga_sv).trans (ga_sv)))]; exact gl_23 hI6) ⟨r1.1, r1.2⟩ ⟨r0.1, r0.2⟩
              exact ⟨_, _, rfl, hm2, ⟨(zfl_sa.trans ((c2q_26 k10.1 (by decide)).trans (zfl_sa.trans ((zfl_sv_ne (by decide)).trans ((zfl_sv_ne (by decide)).trans ((k6_26 (k6_fo k7.1 rfl) (by decide)).trans ht)))))), ((gi_sa).trans ((c2q_gi (by decide) k10.1).trans ((gi_sa).trans ((gi_sv_ne (by decide)).trans ((gi_sv_ne (by decide)).trans (k6_gi (by decide) (k6_fo k7.1 rfl))))))), ((zo_sa (by decide)).trans ((zo_c2 (by decide) (by decide) k10.1).trans ((zo_sa (by decide)).trans ((zo_sv (by decide)).trans ((zo_sv (by decide)).trans (zo_k6 (k6_fo k7.1 rfl)))))))⟩, Or.inl ⟨v1, ⟨_, rea_1 W ek e2, cQ_rulB hm hQ hw ((gi_sa).trans ((c2q_gi (by decide) k10.1).trans ((gi_sa).trans ((gi_sv_ne (by decide)).trans ((gi_sv_ne (by decide)).trans (k6_gi (by decide) (k6_fo k7.1 rfl))))))) ((gi_sa).trans ((c2q_gi (by decide) k10.1).trans ((gi_sa).trans ((gi_sv_ne (by decide)).trans ((gi_sv_ne (by decide)).trans (k6_gi (by decide) (k6_fo k7.1 rfl))))))) ((gi_sa).trans ((c2q_gi (by decide) k10.1).trans ((gi_sa).trans ((gi_sv_ne (by decide)).trans ((gi_sv_ne (by decide)).trans (k6_gi (by decide) (k6_fo k7.1 rfl))))))) ((gi_sa).trans ((c2q_gi (by decide) k10.1).trans ((gi_sa).trans ((gi_sv_ne (by decide)).trans ((gi_sv_ne (by decide)).trans (k6_gi (by decide) (k6_fo k7.1 rfl))))))) ((gi_sa).trans ((c2q_gi (by decide) k10.1).trans ((gi_sa).trans ((gi_sv_ne (by decide)).trans ((gi_sv_ne (by decide)).trans (k6_gi (by decide) (k6_fo k7.1 rfl))))))) ((gL_sa).trans ((c2q_gL (by decide) k10.1).trans ((gL_sa).trans ((gL_sv_ne (by decide)).trans ((gL_sv_ne (by decide)).trans (k6_gL (by decide) (k6_fo k7.1 rfl))))))) ((ga_sa_ne (by decide)).trans ((c2q_ga (by decide) k10.1).trans ((ga_sa_ne (by decide)).trans ((ga_sv).trans ((ga_sv).trans (k6_ga (by decide) (k6_fo k7.1 rfl))))))) ((ga_sa_ne (by decide)).trans ((c2q_ga (by decide) k10.1).trans ((ga_sa_ne (by decide)).trans ((ga_sv).trans ((ga_sv).trans (k6_ga (by decide) (k6_fo k7.1 rfl))))))) ((ga_sa_ne (by decide)).trans ((c2q_ga (by decide) k10.1).trans ((ga_sa_ne (by decide)).trans ((ga_sv).trans ((ga_sv).trans (k6_ga (by decide) (k6_fo k7.1 rfl))))))) ((ga_sa_ne (by decide)).trans ((c2q_ga (by decide) k10.1).trans ((ga_sa_ne (by decide)).trans ((ga_sv).trans ((ga_sv).trans (k6_ga (by decide) (k6_fo k7.1 rfl))))))) ((ga_sa_ne (by decide)).trans ((c2q_ga (by decide) k10.1).trans ((ga_sa_ne (by decide)).trans ((ga_sv).trans ((ga_sv).trans (k6_ga (by decide) (k6_fo k7.1 rfl))))))) ((ga_sa_ne (by decide)).trans ((c2q_ga (by decide) k10.1).trans (ga_sa_eq.trans (congrArg (fun l => List.set l wh.toNatClampNeg (gi m6 22 3)) ((ga_sv).trans ((ga_sv).trans (k6_ga (by decide) (k6_fo k7.1 rfl)))))))) (ga_sa_eq.trans (congrArg (fun l => List.set l wh.toNatClampNeg (gi m9 22 3)) ((c2q_ga (by decide) k10.1).trans ((ga_sa_ne (by decide)).trans ((ga_sv).trans ((ga_sv).trans (k6_ga (by decide) (k6_fo k7.1 rfl)))))))) (by omega) ((gi_sa).trans ((c2q_gi (by decide) k10.1).trans ((gi_sa).trans ((gi_sv_ne (by decide)).trans ((gi_sv_ne (by decide)).trans (k6_gi (by decide) (k6_fo k7.1 rfl))))))) ((gi_sa).trans ((c2q_gi (by decide) k10.1).trans ((gi_sa).trans ((gi_sv_ne (by decide)).trans ((gi_sv_ne (by decide)).trans (k6_gi (by decide) (k6_fo k7.1 rfl))))))) ((gL_sa).trans ((c2q_gL (by decide) k10.1).trans ((gL_sa).trans ((gL_sv_ne (by decide)).trans ((gL_sv_ne (by decide)).trans (k6_gL (by decide) (k6_fo k7.1 rfl))))))) ((ga_sa_ne (by decide)).trans ((c2q_ga (by decide) k10.1).trans ((ga_sa_ne (by decide)).trans ((ga_sv).trans ((ga_sv).trans (k6_ga (by decide) (k6_fo k7.1 rfl))))))) ((ga_sa_ne (by decide)).trans ((c2q_ga (by decide) k10.1).trans ((ga_sa_ne (by decide)).trans ((ga_sv).trans ((ga_sv).trans (k6_ga (by decide) (k6_fo k7.1 rfl))))))) (by omega) (by omega) (by omega) (by rw [gi_sa]) (fun i hi => by rw [ga_sa_ne (by decide), cu2 i (by omega), ((ga_sa_ne (by decide)).trans ((ga_sv).trans ((ga_sv).trans (k6_ga (by decide) (k6_fo k7.1 rfl)))))]) (fun i hi => by rw [ga_sa_ne (by decide)]; have q8 := cu3 i hi; rw [f1, ← f2] at q8; exact q8)⟩, cRd_sa (by decide) (by decide) c, by rw [gi_sa]; omega⟩⟩
          · exact ⟨_, p, rfl, hm2, ⟨(zfl_sa.trans ((c2q_26 k10.1 (by decide)).trans (zfl_sa.trans ((zfl_sv_ne (by decide)).trans ((zfl_sv_ne (by decide)).trans ((k6_26 (k6_fo k7.1 rfl) (by decide)).trans ht)))))), ((gi_sa).trans ((c2q_gi (by decide) k10.1).trans ((gi_sa).trans ((gi_sv_ne (by decide)).trans ((gi_sv_ne (by decide)).trans (k6_gi (by decide) (k6_fo k7.1 rfl))))))), ((zo_sa (by decide)).trans ((zo_c2 (by decide) (by decide) k10.1).trans ((zo_sa (by decide)).trans ((zo_sv (by decide)).trans ((zo_sv (by decide)).trans (zo_k6 (k6_fo k7.1 rfl)))))))⟩, Or.inr (Or.inl ⟨v0, rea_0 W ek Z⟩)⟩)
        (fun y1 e2 y3 e4 q5 m6 hI6 k7 q8 v15 q16 m13 hm13 k14 => rlB_r3 hm13)
        (fun y1 e2 y3 e4 q5 m6 hI6 k7 q8 v15 q16 m13 hm13 k14 => by
          rcases k14.2 with w | w
          · have w1 := w.1
            omega
          · have w1 := w.1
            omega)
        (fun y1 e2 y3 e4 q5 m6 hI6 k7 q8 v15 q16 m13 hm13 k14 hm2 => by
          have U := hQ.2.2.2.2.2.1 wh.toInt hw.1 (by omega)
          have W : ¬ wh.toInt ∈ Qu Q := fun z => by have z2 := U.2 z; omega
          have ek : kS wh.toInt = 0 := if_pos (by omega)
          have f1 : (gi (sx (si (sR m6 30 1 22) 30 2 wh) 24 wh (gi m6 22 3)) 22 3).toInt = (gi mem 22 3).toInt := congrArg Int32.toInt ((gi_sa).trans ((gi_sv_ne (by decide)).trans ((gi_sv_ne (by decide)).trans (k6_gi (by decide) (k6_fo k7.1 rfl)))))
          have f2 : (gi m6 22 3).toInt = (gi mem 22 3).toInt := congrArg Int32.toInt (k6_gi (by decide) (k6_fo k7.1 rfl))
          have y0 := tk_le hR
          rcases k14.2 with ⟨v1, P, p1, c, g5, g6⟩ | ⟨v0, Z⟩
          · have hq9 := cRd_p c
            by_cases h4 : (tkf T n q16).1.1 = 4
            · exact ⟨_, _, rfl, hm2, ⟨(zfl_sa.trans ((c2q_26 k14.1 (by decide)).trans (zfl_sa.trans ((zfl_sv_ne (by decide)).trans ((zfl_sv_ne (by decide)).trans ((k6_26 (k6_fo k7.1 rfl) (by decide)).trans ht)))))), ((gi_sa).trans ((c2q_gi (by decide) k14.1).trans ((gi_sa).trans ((gi_sv_ne (by decide)).trans ((gi_sv_ne (by decide)).trans (k6_gi (by decide) (k6_fo k7.1 rfl))))))), ((zo_sa (by decide)).trans ((zo_c2 (by decide) (by decide) k14.1).trans ((zo_sa (by decide)).trans ((zo_sv (by decide)).trans ((zo_sv (by decide)).trans (zo_k6 (k6_fo k7.1 rfl)))))))⟩, Or.inr (Or.inr ⟨v1, rea_0 W ek (P.1.trans (M_4 hq9 h4)), h4, cRd_sa (by decide) (by decide) c⟩)⟩
            · obtain ⟨cc, e2, e3⟩ := rea_M (P.1.trans (M_en (f := (0, 0, 0, [])) hq9 (gd_S (sit_3 (Or.inl rfl)) P.2) (by decide) h4))
              have r0 : 0 ≤ (gi (sx (si (sR m6 30 1 22) 30 2 wh) 24 wh (gi m6 22 3)) 22 3).toInt ∧ (gi (sx (si (sR m6 30 1 22) 30 2 wh) 24 wh (gi m6 22 3)) 22 3).toInt ≤ 1600 := by rw [((gi_sa).trans ((gi_sv_ne (by decide)).trans (gi_sv_ne (by decide))))]; exact rlB_r3 hI6
              have r1 := rlB_r3 hm13
              obtain ⟨cu1, cu2, cu3⟩ := cC_cut ((List.append_nil _).symm.trans e3) (gl_23 hm13) (show (ga (sx (si (sR m6 30 1 22) 30 2 wh) 24 wh (gi m6 22 3)) 23).length = 1600 from by rw [((ga_sa_ne (by decide)).trans ((ga_sv).trans (ga_sv)))]; exact gl_23 hI6) ⟨r1.1, r1.2⟩ ⟨r0.1, r0.2⟩
              exact ⟨_, _, rfl, hm2, ⟨(zfl_sa.trans ((c2q_26 k14.1 (by decide)).trans (zfl_sa.trans ((zfl_sv_ne (by decide)).trans ((zfl_sv_ne (by decide)).trans ((k6_26 (k6_fo k7.1 rfl) (by decide)).trans ht)))))), ((gi_sa).trans ((c2q_gi (by decide) k14.1).trans ((gi_sa).trans ((gi_sv_ne (by decide)).trans ((gi_sv_ne (by decide)).trans (k6_gi (by decide) (k6_fo k7.1 rfl))))))), ((zo_sa (by decide)).trans ((zo_c2 (by decide) (by decide) k14.1).trans ((zo_sa (by decide)).trans ((zo_sv (by decide)).trans ((zo_sv (by decide)).trans (zo_k6 (k6_fo k7.1 rfl)))))))⟩, Or.inl ⟨v1, ⟨_, rea_1 W ek e2, cQ_rulB hm hQ hw ((gi_sa).trans ((c2q_gi (by decide) k14.1).trans ((gi_sa).trans ((gi_sv_ne (by decide)).trans ((gi_sv_ne (by decide)).trans (k6_gi (by decide) (k6_fo k7.1 rfl))))))) ((gi_sa).trans ((c2q_gi (by decide) k14.1).trans ((gi_sa).trans ((gi_sv_ne (by decide)).trans ((gi_sv_ne (by decide)).trans (k6_gi (by decide) (k6_fo k7.1 rfl))))))) ((gi_sa).trans ((c2q_gi (by decide) k14.1).trans ((gi_sa).trans ((gi_sv_ne (by decide)).trans ((gi_sv_ne (by decide)).trans (k6_gi (by decide) (k6_fo k7.1 rfl))))))) ((gi_sa).trans ((c2q_gi (by decide) k14.1).trans ((gi_sa).trans ((gi_sv_ne (by decide)).trans ((gi_sv_ne (by decide)).trans (k6_gi (by decide) (k6_fo k7.1 rfl))))))) ((gi_sa).trans ((c2q_gi (by decide) k14.1).trans ((gi_sa).trans ((gi_sv_ne (by decide)).trans ((gi_sv_ne (by decide)).trans (k6_gi (by decide) (k6_fo k7.1 rfl))))))) ((gL_sa).trans ((c2q_gL (by decide) k14.1).trans ((gL_sa).trans ((gL_sv_ne (by decide)).trans ((gL_sv_ne (by decide)).trans (k6_gL (by decide) (k6_fo k7.1 rfl))))))) ((ga_sa_ne (by decide)).trans ((c2q_ga (by decide) k14.1).trans ((ga_sa_ne (by decide)).trans ((ga_sv).trans ((ga_sv).trans (k6_ga (by decide) (k6_fo k7.1 rfl))))))) ((ga_sa_ne (by decide)).trans ((c2q_ga (by decide) k14.1).trans ((ga_sa_ne (by decide)).trans ((ga_sv).trans ((ga_sv).trans (k6_ga (by decide) (k6_fo k7.1 rfl))))))) ((ga_sa_ne (by decide)).trans ((c2q_ga (by decide) k14.1).trans ((ga_sa_ne (by decide)).trans ((ga_sv).trans ((ga_sv).trans (k6_ga (by decide) (k6_fo k7.1 rfl))))))) ((ga_sa_ne (by decide)).trans ((c2q_ga (by decide) k14.1).trans ((ga_sa_ne (by decide)).trans ((ga_sv).trans ((ga_sv).trans (k6_ga (by decide) (k6_fo k7.1 rfl))))))) ((ga_sa_ne (by decide)).trans ((c2q_ga (by decide) k14.1).trans ((ga_sa_ne (by decide)).trans ((ga_sv).trans ((ga_sv).trans (k6_ga (by decide) (k6_fo k7.1 rfl))))))) ((ga_sa_ne (by decide)).trans ((c2q_ga (by decide) k14.1).trans (ga_sa_eq.trans (congrArg (fun l => List.set l wh.toNatClampNeg (gi m6 22 3)) ((ga_sv).trans ((ga_sv).trans (k6_ga (by decide) (k6_fo k7.1 rfl)))))))) (ga_sa_eq.trans (congrArg (fun l => List.set l wh.toNatClampNeg (gi m13 22 3)) ((c2q_ga (by decide) k14.1).trans ((ga_sa_ne (by decide)).trans ((ga_sv).trans ((ga_sv).trans (k6_ga (by decide) (k6_fo k7.1 rfl)))))))) (by omega) ((gi_sa).trans ((c2q_gi (by decide) k14.1).trans ((gi_sa).trans ((gi_sv_ne (by decide)).trans ((gi_sv_ne (by decide)).trans (k6_gi (by decide) (k6_fo k7.1 rfl))))))) ((gi_sa).trans ((c2q_gi (by decide) k14.1).trans ((gi_sa).trans ((gi_sv_ne (by decide)).trans ((gi_sv_ne (by decide)).trans (k6_gi (by decide) (k6_fo k7.1 rfl))))))) ((gL_sa).trans ((c2q_gL (by decide) k14.1).trans ((gL_sa).trans ((gL_sv_ne (by decide)).trans ((gL_sv_ne (by decide)).trans (k6_gL (by decide) (k6_fo k7.1 rfl))))))) ((ga_sa_ne (by decide)).trans ((c2q_ga (by decide) k14.1).trans ((ga_sa_ne (by decide)).trans ((ga_sv).trans ((ga_sv).trans (k6_ga (by decide) (k6_fo k7.1 rfl))))))) ((ga_sa_ne (by decide)).trans ((c2q_ga (by decide) k14.1).trans ((ga_sa_ne (by decide)).trans ((ga_sv).trans ((ga_sv).trans (k6_ga (by decide) (k6_fo k7.1 rfl))))))) (by omega) (by omega) (by omega) (by rw [gi_sa]) (fun i hi => by rw [ga_sa_ne (by decide), cu2 i (by omega), ((ga_sa_ne (by decide)).trans ((ga_sv).trans ((ga_sv).trans (k6_ga (by decide) (k6_fo k7.1 rfl)))))]) (fun i hi => by rw [ga_sa_ne (by decide)]; have q8 := cu3 i hi; rw [f1, ← f2] at q8; exact q8)⟩, cRd_sa (by decide) (by decide) c, by rw [gi_sa]; omega⟩⟩
          · exact ⟨_, p, rfl, hm2, ⟨(zfl_sa.trans ((c2q_26 k14.1 (by decide)).trans (zfl_sa.trans ((zfl_sv_ne (by decide)).trans ((zfl_sv_ne (by decide)).trans ((k6_26 (k6_fo k7.1 rfl) (by decide)).trans ht)))))), ((gi_sa).trans ((c2q_gi (by decide) k14.1).trans ((gi_sa).trans ((gi_sv_ne (by decide)).trans ((gi_sv_ne (by decide)).trans (k6_gi (by decide) (k6_fo k7.1 rfl))))))), ((zo_sa (by decide)).trans ((zo_c2 (by decide) (by decide) k14.1).trans ((zo_sa (by decide)).trans ((zo_sv (by decide)).trans ((zo_sv (by decide)).trans (zo_k6 (k6_fo k7.1 rfl)))))))⟩, Or.inr (Or.inl ⟨v0, rea_0 W ek Z⟩)⟩)
        (fun y1 e2 y3 e4 q5 hm2 => by
          have U := hQ.2.2.2.2.2.1 wh.toInt hw.1 (by omega)
          exact ⟨_, p, rfl, hm2, ⟨((zfl_sv_ne (by decide)).trans ((zfl_sv_ne (by decide)).trans ht)), ((gi_sv_ne (by decide)).trans (gi_sv_ne (by decide))), ((zo_sv (by decide)).trans (zo_sv (by decide)))⟩, Or.inr (Or.inl ⟨rfl, oif_f (fun w => w (U.1 (by omega)))⟩)⟩)
end CW
