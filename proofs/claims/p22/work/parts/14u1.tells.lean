/-! statements: steps over signs with stores between -/
section ST
variable {d : Nat} {mem : zM}
def stQ (ks : List Nat) (a b : zM) : Prop := fr ks [3, 4, 5, 6, 7, 8, 9, 12] a b ∧ tOK b ∧ (gi a 221 4).toInt ≤ (gi b 221 4).toInt ∧ (fk b = 0 → fk a = 0 ∧ (gi a 221 4).toInt < (gi b 221 4).toInt)
theorem stQ_t {ks : List Nat} {a b : zM} (h : tQ a b) : stQ ks a b := ⟨⟨fun k h1 _ => h.1.1 k h1 rfl, h.1.2⟩, h.2⟩
theorem stQ_tr {ks : List Nat} {a b c : zM} (h : stQ ks a b) (k : stQ ks b c) : stQ ks a c := ⟨fr_tr h.1 k.1, k.2.1, Int.le_trans h.2.2.1 k.2.2.1, fun q => by
  have u := k.2.2.2 q
  have w := h.2.2.2 u.1
  exact ⟨w.1, by omega⟩⟩
theorem stQ_sa {ks : List Nat} {a b : zM} {k j : Nat} {x : Int32} (hk : ks.contains k = true) (h : stQ ks a b) : stQ ks a (sa b k j x) := by
  obtain ⟨h1, h2, h3, h4⟩ := h
  refine ⟨fr_sa hk h1, ⟨?_, by show 0 ≤ (gi (sa b k j x) 221 8).toInt; rw [gi_sa]; exact h2.2⟩, by rw [gi_sa]; exact h3, fun q => ?_⟩
  · unfold tkO
    rw [gi_sa, gi_sa, gi_sa, gi_sa]
    exact h2.1
  · have q' : (gi (sa b k j x) 221 8).toInt = 0 := q
    rw [gi_sa] at q'
    rw [gi_sa]
    exact h4 q'
theorem stQ_sA {ks : List Nat} {a b : zM} {k j : Nat} {x : Int64} (hk : ks.contains k = true) (h : stQ ks a b) : stQ ks a (sA b k j x) := by
  obtain ⟨h1, h2, h3, h4⟩ := h
  refine ⟨fr_sA hk h1, ⟨?_, by show 0 ≤ (gi (sA b k j x) 221 8).toInt; rw [gi_sA]; exact h2.2⟩, by rw [gi_sA]; exact h3, fun q => ?_⟩
  · unfold tkO
    rw [gi_sA, gi_sA, gi_sA, gi_sA]
    exact h2.1
  · have q' : (gi (sA b k j x) 221 8).toInt = 0 := q
    rw [gi_sA] at q'
    rw [gi_sA]
    exact h4 q'
theorem h_number2 {x34 lw hg : Int32} (hm : aTm aT0 mem) (hT : tOK mem) (hd : 4 ≤ d) (e34 : gi mem 221 34 = x34) : yC zpg d 180 [.ref 221, .int lw, .int hg] mem (fun r m => ∃ v : Int32, r = some (.int v) ∧ aTm aT0 m ∧ (tQ mem m ∧ (¬ (gi m 221 8).toInt = 0 ∨ (lw.toInt ≤ v.toInt ∧ v.toInt ≤ hg.toInt)) ∧ (gi m 221 34).toInt = x34.toInt)) := by
  refine yC_mono (fun r m q => ?_) (h_number hm hT hd)
  obtain ⟨v, q1, q2, q3, q4⟩ := q
  refine ⟨v, q1, q2, q3, ?_, by rw [fr_gi q3.1 rfl, e34]⟩
  by_cases w : (gi m 221 8).toInt = 0
  · exact Or.inr (q4 w)
  · exact Or.inl w
theorem h_must2 {x34 : Int32} (hm : aTm aT0 mem) (hT : tOK mem) (hd : 4 ≤ d) {c : Int64} (e34 : gi mem 221 34 = x34) : yC zpg d 192 [.ref 221, .long c] mem (fun r m => r = none ∧ aTm aT0 m ∧ (tQ mem m ∧ (gi m 221 34).toInt = x34.toInt)) :=
  yC_mono (fun _ _ q => ⟨q.1, q.2.1, q.2.2, by rw [fr_gi q.2.2.1 rfl, e34]⟩) (h_must_ hm hT hd)
theorem h_isCounted2 {x34 c : Int32} (hm : aTm aT0 mem) (hT : tOK mem) (hs : ¬ (gi mem 221 3).toInt = 0) (hd : 4 ≤ d) (e34 : gi mem 221 34 = x34) : yC zpg d 191 [.ref 221, .int c] mem (fun r m => ∃ v : Int32, r = some (.int v) ∧ aTm aT0 m ∧ (tQ mem m ∧ ((v.toInt = 0 ∧ 1 ≤ (gi m 221 8).toInt) ∨ (¬ v.toInt = 0 ∧ (gi m 221 8).toInt = 0 ∧ c.toInt = 0)) ∧ (gi m 221 34).toInt = x34.toInt)) := by
  refine yC_mono (fun r m q => ?_) (h_isCounted hm hT hs hd)
  obtain ⟨v, q1, q2, q3, q4, q5⟩ := q
  refine ⟨v, q1, q2, q3, ?_, by rw [fr_gi q3.1 rfl, e34]⟩
  have t : 0 ≤ (gi m 221 8).toInt := q3.2.1.2
  rcases q4 with ⟨u1, u2⟩ | ⟨u1, u2⟩
  · have u3 : (gi m 221 8).toInt = 0 := u2
    exact Or.inr ⟨by rw [u1]; decide, u3, q5 u2⟩
  · have u3 : ¬ (gi m 221 8).toInt = 0 := u2
    exact Or.inl ⟨by rw [u1], by omega⟩
set_option maxRecDepth 100000 in
theorem w_telling {d : Nat} {mem : zM} {P : Option Value → zM → Prop} {lw hg : Int32} (hm : aTm aT0 mem) (hT : tOK mem) (sg : ¬ (gi mem 221 3).toInt = 0) (h1 : ∀ (v3 : Int32) (m1 : zM), aTm aT0 m1 → (tQ mem m1 ∧ ((v3.toInt = 0 ∧ 1 ≤ (gi m1 221 8).toInt) ∨ (¬ v3.toInt = 0 ∧ (gi m1 221 8).toInt = 0 ∧ (0 : Int) = 0)) ∧ (gi m1 221 34).toInt = (gi mem 221 34).toInt) → ¬ (v3).toInt = 0 → ∀ (v7 : Int32) (m5 : zM), aTm aT0 m5 → (tQ m1 m5 ∧ (¬ (gi m5 221 8).toInt = 0 ∨ (lw.toInt ≤ v7.toInt ∧ v7.toInt ≤ hg.toInt)) ∧ (gi m5 221 34).toInt = (gi m1 221 34).toInt) → aTm aT0 m5 → P (some (.int v7)) m5) (h2 : ∀ (v3 : Int32) (m1 : zM), aTm aT0 m1 → (tQ mem m1 ∧ ((v3.toInt = 0 ∧ 1 ≤ (gi m1 221 8).toInt) ∨ (¬ v3.toInt = 0 ∧ (gi m1 221 8).toInt = 0 ∧ (0 : Int) = 0)) ∧ (gi m1 221 34).toInt = (gi mem 221 34).toInt) → (v3).toInt = 0 → aTm aT0 m1 → P (some (.int 0)) m1) : yR zpg tX12_telling (d + 4) (0, [(0, .ref 221), (1, .int lw), (2, .int hg)], [], mem) P := by
  refine yR_m 2 (fun _ _ _ _ => rfl) ?_
  refine wR_cv rfl rfl mO_e hm rfl (h_isCounted2 hm hT sg (by omega) rfl) ?_
  rintro _ m1 ⟨v3, rfl, hm1, k2⟩
  show yR zpg tX12_telling (d + 4) (5, [(0, .ref 221), (1, .int lw), (2, .int hg)], [.int v3], m1) _
  refine wR_if_ne rfl (a := (v3).toInt) rfl (fun q4 => ?_) (fun q4 => ?_)
  ·
    refine yR_m 3 (fun _ _ _ _ => rfl) ?_
    refine wR_cv rfl rfl mO_e hm1 rfl (h_number2 hm1 k2.1.2.1 (by omega) rfl) ?_
    rintro _ m5 ⟨v7, rfl, hm5, k6⟩
    show yR zpg tX12_telling (d + 4) (16, [(0, .ref 221), (1, .int lw), (2, .int hg)], [.int v7], m5) _
    exact yR_ri rfl (h1 v3 m1 hm1 k2 q4 v7 m5 hm5 k6 hm5)
  ·
    refine yR_m 1 (fun _ _ _ _ => rfl) ?_
    exact yR_ri rfl (h2 v3 m1 hm1 k2 q4 hm1)

theorem h_telling {lw hg : Int32} (hm : aTm aT0 mem) (hT : tOK mem) (sg : ¬ (gi mem 221 3).toInt = 0) (hd : 5 ≤ d) : yC zpg d 198 [.ref 221, .int lw, .int hg] mem (fun r m => ∃ v : Int32, r = some (.int v) ∧ aTm aT0 m ∧ stQ [] mem m) := by
  obtain ⟨d, rfl⟩ : ∃ q, d = q + 5 := ⟨d - 5, by omega⟩
  refine yC_of (t := tX12_telling) rfl rfl ?_
  exact w_telling hm hT sg
        (fun v3 m1 hm1 k2 q4 v7 m5 hm5 k6 hm2 => ⟨_, rfl, hm2, stQ_tr (stQ_t k2.1) (stQ_t k6.1)⟩)
        (fun v3 m1 hm1 k2 q4 hm2 => ⟨_, rfl, hm2, stQ_t k2.1⟩)
set_option maxRecDepth 100000 in
theorem w_quaying {d : Nat} {mem : zM} {P : Option Value → zM → Prop} (hm : aTm aT0 mem) (hT : tOK mem) (h1 : ∀ (m1 : zM), aTm aT0 m1 → (tQ mem m1 ∧ (gi m1 221 34).toInt = (gi mem 221 34).toInt) → ∀ (v5 : Int32) (m3 : zM), aTm aT0 m3 → (tQ m1 m3 ∧ (¬ (gi m3 221 8).toInt = 0 ∨ (3 ≤ v5.toInt ∧ v5.toInt ≤ 7)) ∧ (gi m3 221 34).toInt = (gi m1 221 34).toInt) → ∀ (m6 : zM), aTm aT0 m6 → (tQ (sx m3 223 (gi m1 221 34) v5) m6 ∧ (gi m6 221 34).toInt = (gi m3 221 34).toInt) → ∀ (v10 : Int32) (m8 : zM), aTm aT0 m8 → (tQ m6 m8 ∧ (¬ (gi m8 221 8).toInt = 0 ∨ (3 ≤ v10.toInt ∧ v10.toInt ≤ 7)) ∧ (gi m8 221 34).toInt = (gi m6 221 34).toInt) → aTm aT0 (sx m8 224 (gi m6 221 34) v10) → P none (sx m8 224 (gi m6 221 34) v10)) : yR zpg tX12_quaying (d + 4) (0, [(0, .ref 221)], [], mem) P := by
  obtain ⟨i0, i1⟩ := mO_r34 hm
  refine yR_m 2 (fun _ _ _ _ => rfl) ?_
  refine wR_cv rfl rfl mO_e hm rfl (h_must2 hm hT (by omega) rfl) ?_
  rintro _ m1 ⟨rfl, hI1, k2⟩
  show yR zpg tX12_quaying (d + 4) (7, [(0, .ref 221)], [], m1) _
  refine yR_m 1 (fun _ _ _ _ => rfl) ?_
  refine wR_gr rfl mO_e mO_14 hI1 ?_
  refine yR_m 1 (fun _ _ _ _ => rfl) ?_
  refine wR_gi rfl mO_e mO_34 hI1 rfl ?_
  refine yR_m 3 (fun _ _ _ _ => rfl) ?_
  refine wR_cv rfl rfl mO_e hI1 rfl (h_number2 hI1 k2.1.2.1 (by omega) rfl) ?_
  rintro _ m3 ⟨v5, rfl, hm3, k4⟩
  show yR zpg tX12_quaying (d + 4) (22, [(0, .ref 221)], [.int v5, .int (gi m1 221 34), .ref 223], m3) _
  refine wN_as (a := (gi m1 221 34).toInt) rfl aR_223 hm3 rfl (by omega) ?_
  have hm_1 : aTm aT0 (sx m3 223 (gi m1 221 34) v5) := tm_sa aR_223 hm3 (i32_b _)
  refine yR_m 2 (fun _ _ _ _ => rfl) ?_
  refine wR_cv rfl rfl mO_e hm_1 rfl (h_must2 hm_1 (tOK_fr (ks := [223, 224, 225, 226, 227, 228, 229, 230, 231, 232, 233, 234, 235, 236, 237, 240, 241]) (is := []) (fr_sa rfl (fr_rf)) rfl rfl rfl rfl (by show 0 ≤ (gi (sx m3 223 (gi m1 221 34) v5) 221 8).toInt; rw [(gi_sa)]; exact k4.1.2.1.2) k4.1.2.1) (by omega) (gi_sa)) ?_
  rintro _ m6 ⟨rfl, hI6, k7⟩
  show yR zpg tX12_quaying (d + 4) (30, [(0, .ref 221)], [], m6) _
  refine yR_m 1 (fun _ _ _ _ => rfl) ?_
  refine wR_gr rfl mO_e mO_15 hI6 ?_
  refine yR_m 1 (fun _ _ _ _ => rfl) ?_
  refine wR_gi rfl mO_e mO_34 hI6 rfl ?_
  refine yR_m 3 (fun _ _ _ _ => rfl) ?_
  refine wR_cv rfl rfl mO_e hI6 rfl (h_number2 hI6 k7.1.2.1 (by omega) rfl) ?_
  rintro _ m8 ⟨v10, rfl, hm8, k9⟩
  show yR zpg tX12_quaying (d + 4) (45, [(0, .ref 221)], [.int v10, .int (gi m6 221 34), .ref 224], m8) _
  refine wN_as (a := (gi m6 221 34).toInt) rfl aR_224 hm8 rfl (by omega) ?_
  have hm_2 : aTm aT0 (sx m8 224 (gi m6 221 34) v10) := tm_sa aR_224 hm8 (i32_b _)
  exact yR_rv rfl (h1 m1 hI1 k2 v5 m3 hm3 k4 m6 hI6 k7 v10 m8 hm8 k9 hm_2)

theorem h_quaying (hm : aTm aT0 mem) (hT : tOK mem) (hd : 5 ≤ d) : yC zpg d 197 [.ref 221] mem (fun r m => r = none ∧ aTm aT0 m ∧ stQ [223, 224] mem m ∧ ∃ x y v w : Int32, (x.toInt = (gi mem 221 34).toInt ∧ y.toInt = (gi mem 221 34).toInt) ∧ ga m 223 = (ga mem 223).set x.toNatClampNeg v ∧ ga m 224 = (ga mem 224).set y.toNatClampNeg w ∧ (fk m = 0 → (3 ≤ v.toInt ∧ v.toInt ≤ 7) ∧ 3 ≤ w.toInt ∧ w.toInt ≤ 7)) := by
  obtain ⟨d, rfl⟩ : ∃ q, d = q + 5 := ⟨d - 5, by omega⟩
  refine yC_of (t := tX12_quaying) rfl rfl ?_
  exact w_quaying hm hT
        (fun m1 hI1 k2 v5 m3 hm3 k4 m6 hI6 k7 v10 m8 hm8 k9 hm2 => ⟨rfl, hm2, stQ_sa rfl (stQ_tr (stQ_tr (stQ_sa rfl (stQ_tr (stQ_t k2.1) (stQ_t k4.1))) (stQ_t k7.1)) (stQ_t k9.1)), (gi m1 221 34), (gi m6 221 34), v5, v10, by omega, ((ga_sa_ne (by decide)).trans ((fr_ga k9.1.1 (by decide) rfl).trans ((fr_ga k7.1.1 (by decide) rfl).trans (ga_sa_eq.trans (congrArg (fun l => List.set l (gi m1 221 34).toNatClampNeg v5) ((fr_ga k4.1.1 (by decide) rfl).trans (fr_ga k2.1.1 (by decide) rfl))))))), (ga_sa_eq.trans (congrArg (fun l => List.set l (gi m6 221 34).toNatClampNeg v10) ((fr_ga k9.1.1 (by decide) rfl).trans ((fr_ga k7.1.1 (by decide) rfl).trans ((ga_sa_ne (by decide)).trans ((fr_ga k4.1.1 (by decide) rfl).trans (fr_ga k2.1.1 (by decide) rfl))))))), fun q => by
          have q4 : (gi m8 221 8).toInt = 0 := by have q' : (gi (sx m8 224 (gi m6 221 34) v10) 221 8).toInt = 0 := q; rw [gi_sa] at q'; exact q'
          have f4 := (k9.1.2.2.2 q4).1
          have f3 := (k7.1.2.2.2 f4).1
          have f3' : (gi m3 221 8).toInt = 0 := by have u : (gi _ 221 8).toInt = 0 := f3; rw [gi_sa] at u; exact u
          omega⟩)
end ST
