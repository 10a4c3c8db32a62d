/-! signs asked for by the model, opens, by what they mean -/
section SX
variable {d : Nat} {mr mem m : zM} {T : List Int32} {n p e : Int} {t : Tk}
theorem mR_fm {ks is : List Nat} {m' : zM} (F : fr ks is m m') (k1 : ks.contains 222 = false) (i2 : is.contains 2 = false) (i3 : is.contains 3 = false) (i5 : is.contains 5 = false) (i6 : is.contains 6 = false) (i7 : is.contains 7 = false) (i12 : is.contains 12 = false) (h : mR T n p t e m) : mR T n p t e m' := by
  obtain ⟨⟨h1, h2, h3⟩, h4, h5, h6⟩ := h
  refine ⟨⟨by rw [fr_gi F i2]; exact h1, by rw [fr_ga F (by decide) k1]; exact h2, h3⟩, h4, by rw [fr_gi F i5]; exact h5, ?_⟩
  rw [fr_gi F i3, fr_gi F i6, fr_gi F i12, fr_gL F i7]
  exact h6
theorem mRd_fm {ks is : List Nat} {m' : zM} (F : fr ks is m m') (k1 : ks.contains 222 = false) (i2 : is.contains 2 = false) (i3 : is.contains 3 = false) (i5 : is.contains 5 = false) (i6 : is.contains 6 = false) (i7 : is.contains 7 = false) (i12 : is.contains 12 = false) (h : mRd T n p m) : mRd T n p m' := by
  obtain ⟨t, e, h⟩ := h
  exact ⟨t, e, mR_fm F k1 i2 i3 i5 i6 i7 i12 h⟩
theorem mRd_t (h : mRd T n p m) : mR T n p (tkf T n p).1 (tkf T n p).2 m := by
  obtain ⟨t, e, h⟩ := h
  rw [tkf_e h.2.1]
  exact h
/-- a sign stands at p, and none is wrong -/
def mX (T : List Int32) (n p : Int) (m : zM) : Prop := mR T n p (tkf T n p).1 (tkf T n p).2 m ∧ (gi m 221 12).toInt = -1
theorem mX_fm {ks is : List Nat} {m' : zM} (F : fr ks is m m') (k1 : ks.contains 222 = false) (i2 : is.contains 2 = false) (i3 : is.contains 3 = false) (i5 : is.contains 5 = false) (i6 : is.contains 6 = false) (i7 : is.contains 7 = false) (i12 : is.contains 12 = false) (h : mX T n p m) : mX T n p m' := ⟨mR_fm F k1 i2 i3 i5 i6 i7 i12 h.1, by rw [fr_gi F i12]; exact h.2⟩
theorem mX_S {c : Int} (h : mX T n p m) : ((gi m 221 3).toInt = 3 ∧ (gi m 221 6).toInt = c) ↔ sIS T n c p := msg_iff h.1.2.2.2 h.2
theorem mX_2 (h : mX T n p m) : (gi m 221 3).toInt = 2 ↔ (tkf T n p).1.1 = 2 := by
  rcases h.1.2.2.2 with ⟨h1, h2⟩ | ⟨h1, h2⟩
  · exact absurd h.2 h1
  · rcases h2 with ⟨a, b⟩ | ⟨a, b, e⟩ | ⟨a, b, e⟩ | ⟨a, b, e⟩ <;> omega
theorem mX_0 (h : mX T n p m) : (gi m 221 3).toInt = 0 ↔ (tkf T n p).1.1 = 0 := by
  rcases h.1.2.2.2 with ⟨h1, h2⟩ | ⟨h1, h2⟩
  · exact absurd h.2 h1
  · rcases h2 with ⟨a, b⟩ | ⟨a, b, e⟩ | ⟨a, b, e⟩ | ⟨a, b, e⟩ <;> omega
theorem mX_4 (h : mX T n p m) : ¬ (tkf T n p).1.1 = 4 := (mx_iff h.1.2.2.2).1 h.2
theorem mX_O {w : Int64} {k : Int} (hk : 0 ≤ k ∧ k < 26) (hw : w.toInt = wnl (ownW.getD k.toNat [])) (h : mX T n p m) : ((gi m 221 3).toInt = 1 ∧ gL m 221 7 = w) ↔ sIO T n k p := by
  have I := mwo_iff h.1.2.2.2 h.2
  constructor
  · rintro ⟨a, b⟩
    have t1 := I.1.1 a
    refine ⟨t1, wnl_inj _ _ _ rfl (Tok_let h.1.2.1 t1) (ownW_l _ (ownW_m hk.1 hk.2)) ?_⟩
    rw [← I.2 a, b]
    exact hw
  · rintro ⟨a, b⟩
    have a1 := I.1.2 a
    refine ⟨a1, Int64.toInt_inj.1 ?_⟩
    rw [I.2 a1, b]
    exact hw.symm
theorem h_sgX {c : Int32} (hm : aTm aT0 mem) (hX : mX T n p mem) (hd : 1 ≤ d) : yC zpg d 174 [.ref 221, .int c] mem (fun r m => ∃ v : Int32, r = some (.int v) ∧ mem = m ∧ ((v.toInt = 0 ∧ ¬ sIS T n c.toInt p) ∨ (v.toInt = 1 ∧ sIS T n c.toInt p))) := by
  refine yC_mono (fun r m q => ?_) (c_isSign2 hm rfl rfl hd)
  obtain ⟨v, h1, h2, h3⟩ := q
  refine ⟨v, h1, h2, ?_⟩
  rw [← mX_S hX]
  exact h3
theorem h_isW {w : Int64} (hm : aTm aT0 mem) (hd : 1 ≤ d) : yC zpg d 175 [.ref 221, .long w] mem (fun r m => ∃ v : Int32, r = some (.int v) ∧ mem = m ∧ ((v.toInt = 0 ∧ ¬ ((gi mem 221 3).toInt = 1 ∧ gL mem 221 7 = w)) ∨ (v.toInt = 1 ∧ ((gi mem 221 3).toInt = 1 ∧ gL mem 221 7 = w)))) := by
  obtain ⟨d, rfl⟩ : ∃ q, d = q + 1 := ⟨d - 1, by omega⟩
  refine yC_of (t := tX12_isWord) rfl rfl ?_
  exact w_isWord hm
        (fun q1 hm => ⟨_, rfl, rfl, by first | exact Or.inr ⟨rfl, by omega, by assumption⟩ | exact Or.inl ⟨rfl, fun w => by have := w.1; omega⟩ | exact Or.inl ⟨rfl, fun w => absurd w.2 (by assumption)⟩⟩)
        (fun q1 q2 hm => ⟨_, rfl, rfl, by first | exact Or.inr ⟨rfl, by omega, by assumption⟩ | exact Or.inl ⟨rfl, fun w => by have := w.1; omega⟩ | exact Or.inl ⟨rfl, fun w => absurd w.2 (by assumption)⟩⟩)
        (fun q1 q2 hm => ⟨_, rfl, rfl, by first | exact Or.inr ⟨rfl, by omega, by assumption⟩ | exact Or.inl ⟨rfl, fun w => by have := w.1; omega⟩ | exact Or.inl ⟨rfl, fun w => absurd w.2 (by assumption)⟩⟩)
theorem h_woX {w : Int64} {k : Int} (hk : 0 ≤ k ∧ k < 26) (hw : w.toInt = wnl (ownW.getD k.toNat [])) (hm : aTm aT0 mem) (hX : mX T n p mem) (hd : 1 ≤ d) : yC zpg d 175 [.ref 221, .long w] mem (fun r m => ∃ v : Int32, r = some (.int v) ∧ mem = m ∧ ((v.toInt = 0 ∧ ¬ sIO T n k p) ∨ (v.toInt = 1 ∧ sIO T n k p))) := by
  refine yC_mono (fun r m q => ?_) (h_isW hm hd)
  obtain ⟨v, h1, h2, h3⟩ := q
  refine ⟨v, h1, h2, ?_⟩
  rw [← mX_O hk hw hX]
  exact h3
theorem dj_1 {P : Prop} {v : Int} (h : (v = 0 ∧ ¬ P) ∨ (v = 1 ∧ P)) (w : ¬ v = 0) : P := by
  rcases h with h | h
  · exact absurd h.1 w
  · exact h.2
theorem dj_0 {P : Prop} {v : Int} (h : (v = 0 ∧ ¬ P) ∨ (v = 1 ∧ P)) (w : v = 0) : ¬ P := by
  rcases h with h | h
  · exact h.2
  · omega
theorem h_ahead5 {s5 s2 x41 x42 x44 x33 x8 : Int32} (hR : mR T n p t e mem) (hd : 2 ≤ d) (hm : aTm aT0 mem) (e5 : gi mem 221 5 = s5) (e2 : gi mem 221 2 = s2) (hs : s5.toInt ≤ s2.toInt) (e41 : gi mem 221 41 = x41) (e42 : gi mem 221 42 = x42) (e44 : gi mem 221 44 = x44) (e33 : gi mem 221 33 = x33) (e8 : gi mem 221 8 = x8) : yC zpg d 173 [.ref 221] mem (fun r m => r = none ∧ aTm aT0 m ∧ (ahQ mem m ∧ (gi m 221 41).toInt = x41.toInt ∧ (gi m 221 42).toInt = x42.toInt ∧ (gi m 221 44).toInt = x44.toInt ∧ (gi m 221 33).toInt = x33.toInt ∧ (gi m 221 8).toInt = x8.toInt ∧ s5.toInt ≤ (gi m 221 4).toInt ∧ (gi m 221 4).toInt ≤ (gi m 221 5).toInt ∧ (gi m 221 5).toInt ≤ (gi m 221 2).toInt ∧ mRd T n e m)) := by
  refine yC_mono (fun r m q => ?_) (yC_and (h_ahead3 hd hm e5 e2 hs e41 e42 e44 e33 e8) (h_aheadM hm hR hd))
  obtain ⟨⟨a1, a2, b1, b2, b3, b4, b5, b6, b7, b8, b9⟩, -, -, -, c⟩ := q
  exact ⟨a1, a2, b1, b2, b3, b4, b5, b6, b7, b8, b9, c⟩
/-- what a bracket that is opened does to the place -/
def opR (T : List Int32) (n e : Int) (mem m : zM) : Prop := (fk m = 0 ∧ fk mem = 0 ∧ (gi mem 221 42).toInt < 7 ∧ mRd T n e m) ∨ (1 ≤ fk m ∧ ¬ (fk mem = 0 ∧ (gi mem 221 42).toInt < 7))
set_option maxRecDepth 100000 in
theorem w_opF {d : Nat} {mem : zM} {P : Option Value → zM → Prop} {T : List Int32} {n p e : Int} {t : Tk} {K : Int32} (hm : aTm aT0 mem) (p1 : 1 ≤ (gi mem 221 41).toInt ∧ (gi mem 221 41).toInt ≤ 8) (p4 : 0 ≤ (gi mem 221 42).toInt ∧ (gi mem 221 42).toInt ≤ 7) (hse : (gi mem 221 5).toInt ≤ (gi mem 221 2).toInt) (hR : mR T n p t e mem) (h1 : ¬ (gi mem 221 42).toInt = 7 → (gi mem 221 8).toInt ≤ 0 → ∀ (x3 : Int32), x3.toInt = ((gi mem 221 42).toInt + 1) → ∀ (m5 : zM), aTm aT0 m5 → (ahQ (si mem 221 42 x3) m5 ∧ (gi m5 221 41).toInt = (gi mem 221 41).toInt ∧ (gi m5 221 42).toInt = x3.toInt ∧ (gi m5 221 44).toInt = (gi mem 221 44).toInt ∧ (gi m5 221 33).toInt = (gi mem 221 33).toInt ∧ (gi m5 221 8).toInt = (gi mem 221 8).toInt ∧ (gi mem 221 5).toInt ≤ (gi m5 221 4).toInt ∧ (gi m5 221 4).toInt ≤ (gi m5 221 5).toInt ∧ (gi m5 221 5).toInt ≤ (gi m5 221 2).toInt ∧ mRd T n e m5) → ∀ (x7 : Int32), x7.toInt = ((gi m5 221 41).toInt + 1) → aTm aT0 (si (sx (sx (sx (sx m5 242 (gi m5 221 41) K) 243 (gi m5 221 41) 0) 244 (gi m5 221 41) 1) 246 (gi m5 221 41) (gi m5 221 44)) 221 41 x7) → P none (si (sx (sx (sx (sx m5 242 (gi m5 221 41) K) 243 (gi m5 221 41) 0) 244 (gi m5 221 41) 1) 246 (gi m5 221 41) (gi m5 221 44)) 221 41 x7)) (h2 : ¬ (gi mem 221 42).toInt = 7 → 0 < (gi mem 221 8).toInt → aTm aT0 mem → P none mem) (h3 : (gi mem 221 42).toInt = 7 → (gi mem 221 8).toInt ≤ 0 → aTm aT0 (si (si mem 221 8 5) 221 9 (gi mem 221 4)) → P none (si (si mem 221 8 5) 221 9 (gi mem 221 4))) (h4 : (gi mem 221 42).toInt = 7 → 0 < (gi mem 221 8).toInt → aTm aT0 mem → P none mem) : yR zpg tX12_opens (d + 3) (0, [(0, .ref 221), (1, .int K)], [], mem) P := by
  refine yR_m 1 (fun _ _ _ _ => rfl) ?_
  refine wR_gi rfl mO_e mO_42 hm rfl ?_
  refine yR_m 1 (fun _ _ _ _ => rfl) ?_
  refine wR_ic_ne rfl (a := (gi mem 221 42).toInt) (c := 7) rfl rfl (fun q1 => ?_) (fun q1 => ?_)
  ·
    refine yR_m 1 (fun _ _ _ _ => rfl) ?_
    refine wR_gi rfl mO_e mO_8 hm rfl ?_
    refine wR_if_le rfl (a := (gi mem 221 8).toInt) rfl (fun q2 => ?_) (fun q2 => ?_)
    ·
      refine yR_m 2 (fun _ _ _ _ => rfl) ?_
      refine wR_gi rfl mO_e mO_42 hm rfl ?_
      refine yR_m 1 (fun _ _ _ _ => rfl) ?_
      refine wN_add (a := (gi mem 221 42).toInt) (b := 1) rfl rfl rfl (by omega) (fun x3 e4 => ?_)
      refine wR_pi rfl mO_e mO_42 hm rfl ?_
      have hm_1 : aTm aT0 (si mem 221 42 x3) := tm_si mO_e mO_42 hm (i32_b _)
      refine yR_m 1 (fun _ _ _ _ => rfl) ?_
      refine wR_cv rfl rfl mO_e hm_1 rfl (h_ahead5 (T := T) (n := n) (mR_fm (ks := [238, 239, 242, 243, 244, 245, 246, 247]) (is := [8, 9, 33, 41, 42, 44, 45]) (fr_sv rfl (fr_rf)) rfl rfl rfl rfl rfl rfl rfl hR) (by omega) hm_1 (gi_sv_ne (by decide)) (gi_sv_ne (by decide)) (by omega) (gi_sv_ne (by decide)) (gi_si_eq mO_e mO_42 hm) (gi_sv_ne (by decide)) (gi_sv_ne (by decide)) (gi_sv_ne (by decide))) ?_
      rintro _ m5 ⟨rfl, hI5, k6⟩
      show yR zpg tX12_opens (d + 3) (40, [(0, .ref 221), (1, .int K)], [], m5) _
      refine yR_m 2 (fun _ _ _ _ => rfl) ?_
      refine wR_iv rfl rfl mO_e hI5 rfl rfl rfl rfl ?_
      show yR zpg tX12_pushes (d + 2) (0, [(0, .ref 221), (1, .int K)], [], m5) _
      refine yR_m 1 (fun _ _ _ _ => rfl) ?_
      refine wR_gr rfl mO_e mO_36 hI5 ?_
      refine yR_m 1 (fun _ _ _ _ => rfl) ?_
      refine wR_gi rfl mO_e mO_41 hI5 rfl ?_
      refine yR_m 1 (fun _ _ _ _ => rfl) ?_
      refine wN_as (a := (gi m5 221 41).toInt) rfl aR_242 hI5 rfl (by omega) ?_
      have hm_2 : aTm aT0 (sx m5 242 (gi m5 221 41) K) := tm_sa aR_242 hI5 (i32_b _)
      refine yR_m 1 (fun _ _ _ _ => rfl) ?_
      refine wR_gr rfl mO_e mO_37 hm_2 ?_
      refine yR_m 1 (fun _ _ _ _ => rfl) ?_
      refine wR_gi rfl mO_e mO_41 hm_2 (gi_sa) ?_
      refine yR_m 1 (fun _ _ _ _ => rfl) ?_
      refine wN_as (a := (gi m5 221 41).toInt) rfl aR_243 hm_2 rfl (by omega) ?_
      have hm_3 : aTm aT0 (sx (sx m5 242 (gi m5 221 41) K) 243 (gi m5 221 41) 0) := tm_sa aR_243 hm_2 (i32_b _)
      refine yR_m 1 (fun _ _ _ _ => rfl) ?_
      refine wR_gr rfl mO_e mO_38 hm_3 ?_
      refine yR_m 1 (fun _ _ _ _ => rfl) ?_
      refine wR_gi rfl mO_e mO_41 hm_3 ((gi_sa).trans (gi_sa)) ?_
      refine yR_m 1 (fun _ _ _ _ => rfl) ?_
      refine wN_zs (a := (gi m5 221 41).toInt) rfl aR_244 hm_3 rfl (by omega) (by decide) ?_
      have hm_4 : aTm aT0 (sx (sx (sx m5 242 (gi m5 221 41) K) 243 (gi m5 221 41) 0) 244 (gi m5 221 41) 1) := tm_sa aR_244 hm_3 (by decide)
      refine yR_m 1 (fun _ _ _ _ => rfl) ?_
      refine wR_gr rfl mO_e mO_40 hm_4 ?_
      refine yR_m 1 (fun _ _ _ _ => rfl) ?_
      refine wR_gi rfl mO_e mO_41 hm_4 ((gi_sa).trans ((gi_sa).trans (gi_sa))) ?_
      refine yR_m 1 (fun _ _ _ _ => rfl) ?_
      refine wR_gi rfl mO_e mO_44 hm_4 ((gi_sa).trans ((gi_sa).trans (gi_sa))) ?_
      refine wN_as (a := (gi m5 221 41).toInt) rfl aR_246 hm_4 rfl (by omega) ?_
      have hm_5 : aTm aT0 (sx (sx (sx (sx m5 242 (gi m5 221 41) K) 243 (gi m5 221 41) 0) 244 (gi m5 221 41) 1) 246 (gi m5 221 41) (gi m5 221 44)) := tm_sa aR_246 hm_4 (i32_b _)
      refine yR_m 2 (fun _ _ _ _ => rfl) ?_
      refine wR_gi rfl mO_e mO_41 hm_5 ((gi_sa).trans ((gi_sa).trans ((gi_sa).trans (gi_sa)))) ?_
      refine yR_m 1 (fun _ _ _ _ => rfl) ?_
      refine wN_add (a := (gi m5 221 41).toInt) (b := 1) rfl rfl rfl (by omega) (fun x7 e8 => ?_)
      refine wR_pi rfl mO_e mO_41 hm_5 rfl ?_
      have hm_6 : aTm aT0 (si (sx (sx (sx (sx m5 242 (gi m5 221 41) K) 243 (gi m5 221 41) 0) 244 (gi m5 221 41) 1) 246 (gi m5 221 41) (gi m5 221 44)) 221 41 x7) := tm_si mO_e mO_41 hm_5 (i32_b _)
      refine yR_rv rfl ?_
      show yR zpg tX12_opens (d + 3) (45, [(0, .ref 221), (1, .int K)], [], (si (sx (sx (sx (sx m5 242 (gi m5 221 41) K) 243 (gi m5 221 41) 0) 244 (gi m5 221 41) 1) 246 (gi m5 221 41) (gi m5 221 44)) 221 41 x7)) _
      exact yR_rv rfl (h1 q1 q2 x3 e4 m5 hI5 k6 x7 e8 hm_6)
    ·
      exact yR_rv rfl (h2 q1 q2 hm)
  ·
    refine yR_m 3 (fun _ _ _ _ => rfl) ?_
    refine wR_gi rfl mO_e mO_4 hm rfl ?_
    refine wR_iv rfl rfl mO_e hm rfl rfl rfl rfl ?_
    show yR zpg tX12_blame (d + 2) (0, [(0, .ref 221), (1, .int 5), (2, .int (gi mem 221 4))], [], mem) _
    refine yR_m 1 (fun _ _ _ _ => rfl) ?_
    refine wR_gi rfl mO_e mO_8 hm rfl ?_
    refine wR_if_le rfl (a := (gi mem 221 8).toInt) rfl (fun q9 => ?_) (fun q9 => ?_)
    ·
      refine yR_m 2 (fun _ _ _ _ => rfl) ?_
      refine wR_pi rfl mO_e mO_8 hm rfl ?_
      have hm_7 : aTm aT0 (si mem 221 8 5) := tm_si mO_e mO_8 hm (i32_b _)
      refine yR_m 2 (fun _ _ _ _ => rfl) ?_
      refine wR_pi rfl mO_e mO_9 hm_7 rfl ?_
      have hm_8 : aTm aT0 (si (si mem 221 8 5) 221 9 (gi mem 221 4)) := tm_si mO_e mO_9 hm_7 (i32_b _)
      refine yR_rv rfl ?_
      show yR zpg tX12_opens (d + 3) (18, [(0, .ref 221), (1, .int K)], [], (si (si mem 221 8 5) 221 9 (gi mem 221 4))) _
      refine yR_m 1 (fun _ _ _ _ => rfl) ?_
      refine wR_gi rfl mO_e mO_8 hm_8 ((gi_sv_ne (by decide)).trans (gi_si_eq mO_e mO_8 hm)) ?_
      refine wR_if_le rfl (a := 5) rfl (fun q => by exfalso; omega) (fun _ => ?_)
      exact yR_rv rfl (h3 q1 q9 hm_8)
    ·
      refine yR_rv rfl ?_
      show yR zpg tX12_opens (d + 3) (18, [(0, .ref 221), (1, .int K)], [], mem) _
      refine yR_m 1 (fun _ _ _ _ => rfl) ?_
      refine wR_gi rfl mO_e mO_8 hm rfl ?_
      refine wR_if_le rfl (a := (gi mem 221 8).toInt) rfl (fun q => by exfalso; omega) (fun _ => ?_)
      exact yR_rv rfl (h4 q1 q9 hm)

theorem h_opF {K : Int32} (hm : aTm aT0 mem) (hT : tOK mem) (hd : 4 ≤ d) (p1 : 1 ≤ (gi mem 221 41).toInt ∧ (gi mem 221 41).toInt ≤ 8) (p4 : 0 ≤ (gi mem 221 42).toInt ∧ (gi mem 221 42).toInt ≤ 7) (hR : mR T n p t e mem) : yC zpg d 186 [.ref 221, .int K] mem (fun r m => opR T n e mem m) := by
  obtain ⟨d, rfl⟩ : ∃ q, d = q + 4 := ⟨d - 4, by omega⟩
  have hT0 := hT.1.1
  have hT8 : 0 ≤ (gi mem 221 8).toInt := hT.2
  refine yC_of (t := tX12_opens) rfl rfl ?_
  exact w_opF (T := T) (n := n) (p := p) (e := e) (t := t) hm p1 p4 (by omega) hR
        (fun q1 q2 x3 e4 m5 hI5 k6 x7 e8 hm2 => Or.inl ⟨by show (gi (si (sx (sx (sx (sx m5 242 (gi m5 221 41) K) 243 (gi m5 221 41) 0) 244 (gi m5 221 41) 1) 246 (gi m5 221 41) (gi m5 221 44)) 221 41 x7) 221 8).toInt = 0; rw [((gi_sv_ne (by decide)).trans ((gi_sa).trans ((gi_sa).trans ((gi_sa).trans (gi_sa)))))]; omega, by show (gi mem 221 8).toInt = 0; omega, by omega, mRd_fm (ks := [238, 239, 242, 243, 244, 245, 246, 247]) (is := [8, 9, 33, 41, 42, 44, 45]) (fr_sv rfl (fr_sa rfl (fr_sa rfl (fr_sa rfl (fr_sa rfl (fr_rf)))))) rfl rfl rfl rfl rfl rfl rfl k6.2.2.2.2.2.2.2.2.2⟩)
        (fun q1 q2 hm2 => Or.inr ⟨by show 1 ≤ (gi mem 221 8).toInt; omega, fun w => by have w1 : (gi mem 221 8).toInt = 0 := w.1; omega⟩)
        (fun q1 q9 hm2 => Or.inr ⟨by show 1 ≤ (gi (si (si mem 221 8 5) 221 9 (gi mem 221 4)) 221 8).toInt; rw [((gi_sv_ne (by decide)).trans (gi_eqO (isO_of hm) (by decide)))]; decide, fun w => by have w1 := w.2; omega⟩)
        (fun q1 q9 hm2 => Or.inr ⟨by show 1 ≤ (gi mem 221 8).toInt; omega, fun w => by have w1 : (gi mem 221 8).toInt = 0 := w.1; omega⟩)
theorem h_opens5 {K x41 x42 : Int32} (hm : aTm aT0 mem) (hT : tOK mem) (hd : 4 ≤ d) (e41 : gi mem 221 41 = x41) (e42 : gi mem 221 42 = x42) (p1 : 1 ≤ x41.toInt ∧ x41.toInt ≤ 8) (p4 : 0 ≤ x42.toInt ∧ x42.toInt ≤ 7) (hR : mR T n p t e mem) : yC zpg d 186 [.ref 221, .int K] mem (fun r m => r = none ∧ aTm aT0 m ∧ (opQ K.toInt mem m ∧ (¬ (gi m 221 8).toInt = 0 ∨ (gi m 221 41).toInt = x41.toInt + 1) ∧ opR T n e mem m)) := by
  subst e41 e42
  refine yC_mono (fun r m q => ?_) (yC_and (h_opens2 hm hT hd rfl rfl p1 p4) (h_opF hm hT hd p1 p4 hR))
  obtain ⟨⟨a1, a2, a3, a4⟩, b⟩ := q
  exact ⟨a1, a2, a3, a4, b⟩
end SX
