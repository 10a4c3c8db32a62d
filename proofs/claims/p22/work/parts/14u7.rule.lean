/-! a rule that was read -/
theorem SI_rd {mr m1 M m2 m3 : zM} {s0 w : Int} {k : Int32} (hm1 : aTm aT0 m1) (hm2 : aTm aT0 m2) (h : SI mr m1) (h8 : fk m1 = 0) (sl : (gi m1 221 33).toInt < (gi m1 221 4).toInt) (F1 : fr [236] [35] m1 M) (g6 : ga M 236 = (ga m1 236).set k.toNatClampNeg (gi m1 221 33)) (hk : k.toInt = 3 * inI m1 + w) (hw : 0 ≤ w ∧ w < 3) (R : rdP M (gi m1 221 33).toInt s0 none m2) (F3 : fr [237] [] m2 m3) (g7 : ga m3 237 = (ga m2 237).set k.toNatClampNeg (gi m2 221 33)) : SI mr m3 := by
  obtain ⟨h1, h2, h3, h4⟩ := h
  obtain ⟨-, -, ⟨kb, T2⟩, R2⟩ := R
  obtain ⟨v1, v2, v3⟩ := h4 h8
  obtain ⟨b1, b2, b3, b4, b5, b6, -⟩ := kb
  obtain ⟨o1, o2, o3, o4⟩ := h1
  have r34 : 0 ≤ inI m1 ∧ inI m1 ≤ 1 := mO_r34 hm1
  have gl6 := gl_236 hm1
  have gl7 := gl_237 hm2
  have c33 : gi M 221 33 = gi m1 221 33 := fr_gi F1 rfl
  have c34 : gi M 221 34 = gi m1 221 34 := fr_gi F1 rfl
  have c13 : gi M 221 13 = gi m1 221 13 := fr_gi F1 rfl
  have d34 : gi m2 221 34 = gi m1 221 34 := (fr_gi b1 rfl).trans c34
  have d13 : gi m2 221 13 = gi m1 221 13 := (fr_gi b1 rfl).trans c13
  have I3 : ∀ i, gi m3 221 i = gi m2 221 i := fun i => fr_gi F3 rfl
  have e34 : inI m3 = inI m1 := by show (gi m3 221 34).toInt = _; rw [I3, d34]
  have e13 : bI m3 = bI m1 := by show (gi m3 221 13).toInt = _; rw [I3, d13]
  have hbm : bI m1 = bI mr := by show (gi m1 221 13).toInt = _; rw [fr_gi o1 rfl]
  have eM : inI M = inI m1 := by show (gi M 221 34).toInt = _; rw [c34]
  have a6 : ga m3 236 = (ga m1 236).set k.toNatClampNeg (gi m1 221 33) := (fr_ga F3 (by decide) rfl).trans ((fr_ga b1 (by decide) rfl).trans g6)
  have a7 : ga m3 237 = (ga m1 237).set k.toNatClampNeg (gi m2 221 33) := by rw [g7, fr_ga b1 (by decide) rfl, fr_ga F1 (by decide) rfl]
  have a8 : ga m3 238 = ga m2 238 := fr_ga F3 (by decide) rfl
  have M8 : ga M 238 = ga m1 238 := fr_ga F1 (by decide) rfl
  have a3 : ga m3 223 = ga m1 223 := (fr_ga F3 (by decide) rfl).trans ((fr_ga b1 (by decide) rfl).trans (fr_ga F1 (by decide) rfl))
  have a4 : ga m3 224 = ga m1 224 := (fr_ga F3 (by decide) rfl).trans ((fr_ga b1 (by decide) rfl).trans (fr_ga F1 (by decide) rfl))
  have gl7' : (ga m1 237).length = 6 := gl_237 hm1
  refine ⟨⟨fr_tr o1 (fr_tr (fr_up F1 rfl rfl) (fr_tr (fr_up b1 rfl rfl) (fr_up F3 rfl rfl))), fun q hq => ?_, fun q hq u u0 u1 => ?_, fun i i0 i1 => ?_⟩, tOK_fr F3 rfl rfl rfl rfl (by show 0 ≤ (gi m3 221 8).toInt; rw [I3]; exact T2.2) T2, by rw [e34, e13]; exact h3, fun z => ?_⟩
  · rcases hq with rfl | rfl
    · rw [a3]; exact o2 223 (Or.inl rfl)
    · rw [a4]; exact o2 224 (Or.inr rfl)
  · rcases hq with rfl | rfl
    · rw [a6, gn_set hk (by omega) (by omega) (by omega), if_neg (by omega)]; exact o3 236 (Or.inl rfl) u u0 u1
    · rw [a7, gn_set hk (by omega) (by omega) (by omega), if_neg (by omega)]; exact o3 237 (Or.inr rfl) u u0 u1
  · have t := b4 i i0 i1
    have eb : bI M = bI mr := by show (gi M 221 13).toInt = _; rw [c13]; exact hbm
    rw [eb, M8] at t
    rw [a8, t]
    exact o4 i i0 i1
  · have z2 : fk m2 = 0 := by show (gi m2 221 8).toInt = 0; rw [← I3]; exact z
    obtain ⟨⟨r1, r2⟩, r3, r5⟩ := R2 z2
    rw [show inI m2 = inI m1 by show (gi m2 221 34).toInt = _; rw [d34]] at r3
    refine ⟨?_, ⟨by rw [I3]; omega, by rw [I3, I3]; omega⟩, fun u u0 u1 => ?_⟩
    · unfold szI
      rw [a3, a4, I3, d34]
      exact v1
    · rw [e34, a6, a7, a8, I3, gn_set hk (by omega) (by omega) (by omega), gn_set hk (by omega) (by omega) (by omega)]
      by_cases q : 3 * inI m1 + u = 3 * inI m1 + w
      · rw [if_pos q, if_pos q]
        intro _
        exact ⟨⟨v2.1, r1, Int.le_refl _⟩, r3⟩
      · rw [if_neg q, if_neg q]
        intro hn
        obtain ⟨⟨w1, w2, w3⟩, w4⟩ := v3 u u0 u1 hn
        refine ⟨⟨w1, w2, by omega⟩, ?_⟩
        rw [← w4]
        apply hgt_ex
        intro i i0 i1
        have t := b6 ((i : Int) - 1600 * inI m1) (by omega) (by rw [c33]; omega)
        rw [eM, M8, show 1600 * inI m1 + ((i : Int) - 1600 * inI m1) = (i : Int) by omega] at t
        exact Int32.toInt_inj.1 t
