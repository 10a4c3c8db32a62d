/-! signs asked for, and a bracket that opens -/
section OP
variable {d : Nat} {mem : zM}
set_option maxRecDepth 100000 in
theorem w_isWord {d : Nat} {mem : zM} {P : Option Value → zM → Prop} {w : Int64} (hm : aTm aT0 mem) (h1 : ¬ (gi mem 221 3).toInt = 1 → aTm aT0 mem → P (some (.int 0)) mem) (h2 : (gi mem 221 3).toInt = 1 → ¬ (gL mem 221 7) = w → aTm aT0 mem → P (some (.int 0)) mem) (h3 : (gi mem 221 3).toInt = 1 → (gL mem 221 7) = w → aTm aT0 mem → P (some (.int 1)) mem) : yR zpg tX12_isWord d (0, [(0, .ref 221), (1, .long w)], [], mem) P := by
  refine yR_m 1 (fun _ _ _ _ => rfl) ?_
  refine wR_gi rfl mO_e mO_3 hm rfl ?_
  refine yR_m 1 (fun _ _ _ _ => rfl) ?_
  refine wR_ic_ne rfl (a := (gi mem 221 3).toInt) (c := 1) rfl rfl (fun q1 => ?_) (fun q1 => ?_)
  ·
    refine yR_m 1 (fun _ _ _ _ => rfl) ?_
    exact yR_rz rfl ⟨by decide, by decide⟩ (h1 q1 hm)
  ·
    refine yR_m 1 (fun _ _ _ _ => rfl) ?_
    refine wR_gL rfl mO_e mO_7 hm rfl ?_
    refine yR_m 2 (fun _ _ _ _ => rfl) ?_
    refine wR_lf_ne rfl (fun q2 => ?_) (fun q2 => ?_)
    ·
      refine yR_m 1 (fun _ _ _ _ => rfl) ?_
      exact yR_rz rfl ⟨by decide, by decide⟩ (h2 q1 q2 hm)
    ·
      refine yR_m 2 (fun _ _ _ _ => rfl) ?_
      exact yR_rz rfl ⟨by decide, by decide⟩ (h3 q1 q2 hm)

theorem c_isWord {s3 : Int32} {w : Int64} (hm : aTm aT0 mem) (e3 : gi mem 221 3 = s3) (hd : 1 ≤ d) : yC zpg d 175 [.ref 221, .long w] mem (fun r m => ∃ v : Int32, r = some (.int v) ∧ mem = m ∧ (v.toInt = 0 ∨ (v.toInt = 1 ∧ ¬ s3.toInt = 0))) := by
  obtain ⟨d, rfl⟩ : ∃ q, d = q + 1 := ⟨d - 1, by omega⟩
  subst e3
  refine yC_of (t := tX12_isWord) rfl rfl ?_
  exact w_isWord hm
        (fun q1 hm => ⟨_, rfl, rfl, by first | exact Or.inl rfl | exact Or.inr ⟨rfl, by omega⟩⟩)
        (fun q1 q2 hm => ⟨_, rfl, rfl, by first | exact Or.inl rfl | exact Or.inr ⟨rfl, by omega⟩⟩)
        (fun q1 q2 hm => ⟨_, rfl, rfl, by first | exact Or.inl rfl | exact Or.inr ⟨rfl, by omega⟩⟩)
set_option maxRecDepth 100000 in
theorem w_isSign {d : Nat} {mem : zM} {P : Option Value → zM → Prop} {c : Int32} (hm : aTm aT0 mem) (h1 : ¬ (gi mem 221 3).toInt = 3 → aTm aT0 mem → P (some (.int 0)) mem) (h2 : (gi mem 221 3).toInt = 3 → ¬ (gi mem 221 6).toInt = (c).toInt → aTm aT0 mem → P (some (.int 0)) mem) (h3 : (gi mem 221 3).toInt = 3 → (gi mem 221 6).toInt = (c).toInt → aTm aT0 mem → P (some (.int 1)) mem) : yR zpg tX12_isSign d (0, [(0, .ref 221), (1, .int c)], [], mem) P := by
  refine yR_m 1 (fun _ _ _ _ => rfl) ?_
  refine wR_gi rfl mO_e mO_3 hm rfl ?_
  refine yR_m 1 (fun _ _ _ _ => rfl) ?_
  refine wR_ic_ne rfl (a := (gi mem 221 3).toInt) (c := 3) rfl rfl (fun q1 => ?_) (fun q1 => ?_)
  ·
    refine yR_m 1 (fun _ _ _ _ => rfl) ?_
    exact yR_rz rfl ⟨by decide, by decide⟩ (h1 q1 hm)
  ·
    refine yR_m 1 (fun _ _ _ _ => rfl) ?_
    refine wR_gi rfl mO_e mO_6 hm rfl ?_
    refine yR_m 1 (fun _ _ _ _ => rfl) ?_
    refine wR_ic_ne rfl (a := (gi mem 221 6).toInt) (c := (c).toInt) rfl rfl (fun q2 => ?_) (fun q2 => ?_)
    ·
      refine yR_m 1 (fun _ _ _ _ => rfl) ?_
      exact yR_rz rfl ⟨by decide, by decide⟩ (h2 q1 q2 hm)
    ·
      refine yR_m 2 (fun _ _ _ _ => rfl) ?_
      exact yR_rz rfl ⟨by decide, by decide⟩ (h3 q1 q2 hm)

theorem c_isSign {s3 c : Int32} (hm : aTm aT0 mem) (e3 : gi mem 221 3 = s3) (hd : 1 ≤ d) : yC zpg d 174 [.ref 221, .int c] mem (fun r m => ∃ v : Int32, r = some (.int v) ∧ mem = m ∧ (v.toInt = 0 ∨ (v.toInt = 1 ∧ ¬ s3.toInt = 0))) := by
  obtain ⟨d, rfl⟩ : ∃ q, d = q + 1 := ⟨d - 1, by omega⟩
  subst e3
  refine yC_of (t := tX12_isSign) rfl rfl ?_
  exact w_isSign hm
        (fun q1 hm => ⟨_, rfl, rfl, by first | exact Or.inl rfl | exact Or.inr ⟨rfl, by omega⟩⟩)
        (fun q1 q2 hm => ⟨_, rfl, rfl, by first | exact Or.inl rfl | exact Or.inr ⟨rfl, by omega⟩⟩)
        (fun q1 q2 hm => ⟨_, rfl, rfl, by first | exact Or.inl rfl | exact Or.inr ⟨rfl, by omega⟩⟩)
set_option maxRecDepth 100000 in
theorem w_isTst {d : Nat} {mem : zM} {P : Option Value → zM → Prop} {x : Int32} (hm : aTm aT0 mem) (h1 : (x).toInt = 1 → aTm aT0 mem → P (some (.int 1)) mem) (h2 : ¬ (x).toInt = 1 → (x).toInt = 5 → aTm aT0 mem → P (some (.int 1)) mem) (h3 : ¬ (x).toInt = 1 → ¬ (x).toInt = 5 → ¬ (x).toInt = 6 → aTm aT0 mem → P (some (.int 0)) mem) (h4 : ¬ (x).toInt = 1 → ¬ (x).toInt = 5 → (x).toInt = 6 → aTm aT0 mem → P (some (.int 1)) mem) : yR zpg tX12_isTest d (0, [(0, .int x)], [], mem) P := by
  refine yR_m 2 (fun _ _ _ _ => rfl) ?_
  refine wR_ic_eq rfl (a := (x).toInt) (c := 1) rfl rfl (fun q1 => ?_) (fun q1 => ?_)
  ·
    refine yR_m 2 (fun _ _ _ _ => rfl) ?_
    exact yR_rz rfl ⟨by decide, by decide⟩ (h1 q1 hm)
  ·
    refine yR_m 2 (fun _ _ _ _ => rfl) ?_
    refine wR_ic_eq rfl (a := (x).toInt) (c := 5) rfl rfl (fun q2 => ?_) (fun q2 => ?_)
    ·
      refine yR_m 2 (fun _ _ _ _ => rfl) ?_
      exact yR_rz rfl ⟨by decide, by decide⟩ (h2 q1 q2 hm)
    ·
      refine yR_m 2 (fun _ _ _ _ => rfl) ?_
      refine wR_ic_ne rfl (a := (x).toInt) (c := 6) rfl rfl (fun q3 => ?_) (fun q3 => ?_)
      ·
        refine yR_m 1 (fun _ _ _ _ => rfl) ?_
        exact yR_rz rfl ⟨by decide, by decide⟩ (h3 q1 q2 q3 hm)
      ·
        refine yR_m 2 (fun _ _ _ _ => rfl) ?_
        exact yR_rz rfl ⟨by decide, by decide⟩ (h4 q1 q2 q3 hm)

theorem c_isTest {x : Int32} (hm : aTm aT0 mem) (hd : 1 ≤ d) : yC zpg d 187 [.int x] mem (fun r m => ∃ v : Int32, r = some (.int v) ∧ mem = m ∧ ((v.toInt = 0 ∧ ¬ (x.toInt = 1 ∨ x.toInt = 5 ∨ x.toInt = 6)) ∨ (v.toInt = 1 ∧ (x.toInt = 1 ∨ x.toInt = 5 ∨ x.toInt = 6)))) := by
  obtain ⟨d, rfl⟩ : ∃ q, d = q + 1 := ⟨d - 1, by omega⟩
  refine yC_of (t := tX12_isTest) rfl rfl ?_
  exact w_isTst hm
        (fun q1 hm => ⟨_, rfl, rfl, by first | exact Or.inl ⟨rfl, by omega⟩ | exact Or.inr ⟨rfl, by omega⟩⟩)
        (fun q1 q2 hm => ⟨_, rfl, rfl, by first | exact Or.inl ⟨rfl, by omega⟩ | exact Or.inr ⟨rfl, by omega⟩⟩)
        (fun q1 q2 q3 hm => ⟨_, rfl, rfl, by first | exact Or.inl ⟨rfl, by omega⟩ | exact Or.inr ⟨rfl, by omega⟩⟩)
        (fun q1 q2 q3 hm => ⟨_, rfl, rfl, by first | exact Or.inl ⟨rfl, by omega⟩ | exact Or.inr ⟨rfl, by omega⟩⟩)
theorem h_ahead3 {s5 s2 x41 x42 x44 x33 x8 : Int32} (hd : 2 ≤ d) (hm : aTm aT0 mem) (e5 : gi mem 221 5 = s5) (e2 : gi mem 221 2 = s2) (hs : s5.toInt ≤ s2.toInt) (e41 : gi mem 221 41 = x41) (e42 : gi mem 221 42 = x42) (e44 : gi mem 221 44 = x44) (e33 : gi mem 221 33 = x33) (e8 : gi mem 221 8 = x8) : yC zpg d 173 [.ref 221] mem (fun r m => r = none ∧ aTm aT0 m ∧ (ahQ mem m ∧ (gi m 221 41).toInt = x41.toInt ∧ (gi m 221 42).toInt = x42.toInt ∧ (gi m 221 44).toInt = x44.toInt ∧ (gi m 221 33).toInt = x33.toInt ∧ (gi m 221 8).toInt = x8.toInt ∧ s5.toInt ≤ (gi m 221 4).toInt ∧ (gi m 221 4).toInt ≤ (gi m 221 5).toInt ∧ (gi m 221 5).toInt ≤ (gi m 221 2).toInt)) :=
  yC_mono (fun r m h => by
    obtain ⟨q1, q2, q3⟩ := h
    have k5 : s5.toInt ≤ (gi m 221 4).toInt := by rw [← e5]; exact q3.2.2
    exact ⟨q1, q2, q3, by rw [fr_gi q3.1 rfl, e41], by rw [fr_gi q3.1 rfl, e42], by rw [fr_gi q3.1 rfl, e44], by rw [fr_gi q3.1 rfl, e33], by rw [fr_gi q3.1 rfl, e8], k5, q3.2.1.1.2.1, q3.2.1.1.2.2⟩) (h_ahead2 hd hm e5 e2 hs)
/-- what opens does -/
def opQ (K : Int) (mem m : zM) : Prop := fr [242, 243, 244, 246] [3, 4, 5, 6, 7, 8, 9, 12, 41, 42] mem m ∧ tOK m ∧ (gi mem 221 4).toInt ≤ (gi m 221 4).toInt ∧ (fk m = 0 → fk mem = 0 ∧ (¬ (gi mem 221 3).toInt = 0 → (gi mem 221 4).toInt < (gi m 221 4).toInt) ∧ ((gi m 221 41).toInt = (gi mem 221 41).toInt + 1 ∧ (gi m 221 42).toInt = (gi mem 221 42).toInt + 1 ∧ (gi m 221 42).toInt ≤ 7) ∧ (∀ k, k = 242 ∨ k = 243 ∨ k = 244 ∨ k = 246 → ∀ i, 0 ≤ i → i < (gi mem 221 41).toInt → gn (ga m k) i = gn (ga mem k) i) ∧ gn (ga m 242) (gi mem 221 41).toInt = K ∧ gn (ga m 243) (gi mem 221 41).toInt = 0 ∧ gn (ga m 244) (gi mem 221 41).toInt = 1 ∧ gn (ga m 246) (gi mem 221 41).toInt = (gi mem 221 44).toInt)
theorem opQ_f {K : Int} {m : zM} (hf : fr [] [8, 9] mem m) (hT : tOK mem) (h8 : 1 ≤ fk m) : opQ K mem m := by
  have g : ∀ i, [8, 9].contains i = false → gi m 221 i = gi mem 221 i := fun i hi => fr_gi hf hi
  refine ⟨fr_up hf rfl rfl, ⟨?_, by omega⟩, by rw [g 4 rfl]; omega, fun q => by omega⟩
  unfold tkO
  rw [g 4 rfl, g 5 rfl, g 2 rfl, g 3 rfl]
  exact hT.1
theorem opQ_a {K x y x7 : Int32} {m5 m : zM} (h5 : aTm aT0 m5) (hT : tOK mem) (F5 : fr [] [3, 4, 5, 6, 7, 12, 42] mem m5) (T5 : tkO m5) (hx : x.toInt = (gi mem 221 41).toInt) (hD : 1 ≤ (gi mem 221 41).toInt ∧ (gi mem 221 41).toInt ≤ 8) (hy : y.toInt = (gi mem 221 44).toInt) (e42 : (gi m5 221 42).toInt = (gi mem 221 42).toInt + 1) (l42 : (gi mem 221 42).toInt < 7) (h8 : fk mem = 0) (h4 : (gi mem 221 5).toInt ≤ (gi m5 221 4).toInt) (h7 : x7.toInt = (gi mem 221 41).toInt + 1)
    (e41 : gi m 221 41 = x7) (e : fr [242, 243, 244, 246] [41] m5 m) (a1 : ga m 242 = (ga m5 242).set x.toNatClampNeg K) (a2 : ga m 243 = (ga m5 243).set x.toNatClampNeg 0) (a3 : ga m 244 = (ga m5 244).set x.toNatClampNeg 1) (a4 : ga m 246 = (ga m5 246).set x.toNatClampNeg y) : opQ K.toInt mem m := by
  have g : ∀ i, [41].contains i = false → gi m 221 i = gi m5 221 i := fun i hi => fr_gi e hi
  have G : ∀ k, ¬ k = 221 → ga m5 k = ga mem k := fun k h => fr_ga F5 h rfl
  have l1 := gl_242 h5
  have l2 := gl_243 h5
  have l3 := gl_244 h5
  have l4 := gl_246 h5
  have t := hT.1
  unfold tkO at t
  have f8 : fk m = 0 := by show (gi m 221 8).toInt = 0; rw [g 8 rfl, fr_gi F5 rfl]; exact h8
  refine ⟨fr_tr (fr_up F5 rfl rfl) (fr_up e rfl rfl), ⟨?_, by omega⟩, by rw [g 4 rfl]; omega, fun _ => ⟨h8, fun q => by rw [g 4 rfl]; omega, ⟨by rw [e41]; exact h7, by rw [g 42 rfl]; exact e42, by rw [g 42 rfl]; omega⟩, fun k hk i i0 i1 => ?_, ?_, ?_, ?_, ?_⟩⟩
  · unfold tkO
    rw [g 4 rfl, g 5 rfl, g 2 rfl, g 3 rfl]
    exact T5
  · rcases hk with rfl | rfl | rfl | rfl
    · rw [a1, gn_set hx (by omega) (by omega) (by omega), if_neg (by omega), G _ (by decide)]
    · rw [a2, gn_set hx (by omega) (by omega) (by omega), if_neg (by omega), G _ (by decide)]
    · rw [a3, gn_set hx (by omega) (by omega) (by omega), if_neg (by omega), G _ (by decide)]
    · rw [a4, gn_set hx (by omega) (by omega) (by omega), if_neg (by omega), G _ (by decide)]
  · rw [a1, gn_set hx (by omega) (by omega) (by omega), if_pos rfl]
  · rw [a2, gn_set hx (by omega) (by omega) (by omega), if_pos rfl]; rfl
  · rw [a3, gn_set hx (by omega) (by omega) (by omega), if_pos rfl]; rfl
  · rw [a4, gn_set hx (by omega) (by omega) (by omega), if_pos rfl]; exact hy
set_option maxRecDepth 100000 in
theorem w_opens {d : Nat} {mem : zM} {P : Option Value → zM → Prop} {K : Int32} (hm : aTm aT0 mem) (p1 : 1 ≤ (gi mem 221 41).toInt ∧ (gi mem 221 41).toInt ≤ 8) (p4 : 0 ≤ (gi mem 221 42).toInt ∧ (gi mem 221 42).toInt ≤ 7) (hse : (gi mem 221 5).toInt ≤ (gi mem 221 2).toInt) (h1 : ¬ (gi mem 221 42).toInt = 7 → (gi mem 221 8).toInt ≤ 0 → ∀ (x3 : Int32), x3.toInt = ((gi mem 221 42).toInt + 1) → ∀ (m5 : zM), aTm aT0 m5 → (ahQ (si mem 221 42 x3) m5 ∧ (gi m5 221 41).toInt = (gi mem 221 41).toInt ∧ (gi m5 221 42).toInt = x3.toInt ∧ (gi m5 221 44).toInt = (gi mem 221 44).toInt ∧ (gi m5 221 33).toInt = (gi mem 221 33).toInt ∧ (gi m5 221 8).toInt = (gi mem 221 8).toInt ∧ (gi mem 221 5).toInt ≤ (gi m5 221 4).toInt ∧ (gi m5 221 4).toInt ≤ (gi m5 221 5).toInt ∧ (gi m5 221 5).toInt ≤ (gi m5 221 2).toInt) → ∀ (x7 : Int32), x7.toInt = ((gi m5 221 41).toInt + 1) → aTm aT0 (si (sx (sx (sx (sx m5 242 (gi m5 221 41) K) 243 (gi m5 221 41) 0) 244 (gi m5 221 41) 1) 246 (gi m5 221 41) (gi m5 221 44)) 221 41 x7) → P none (si (sx (sx (sx (sx m5 242 (gi m5 221 41) K) 243 (gi m5 221 41) 0) 244 (gi m5 221 41) 1) 246 (gi m5 221 41) (gi m5 221 44)) 221 41 x7)) (h2 : ¬ (gi mem 221 42).toInt = 7 → 0 < (gi mem 221 8).toInt → aTm aT0 mem → P none mem) (h3 : (gi mem 221 42).toInt = 7 → (gi mem 221 8).toInt ≤ 0 → aTm aT0 (si (si mem 221 8 5) 221 9 (gi mem 221 4)) → P none (si (si mem 221 8 5) 221 9 (gi mem 221 4))) (h4 : (gi mem 221 42).toInt = 7 → 0 < (gi mem 221 8).toInt → aTm aT0 mem → P none mem) : yR zpg tX12_opens (d + 3) (0, [(0, .ref 221), (1, .int K)], [], mem) P := by
  refine yR_m 1 (fun _ _ _ _ => rfl) ?_
  refine wR_gi rfl mO_e mO_42 hm rfl ?_
  refine yR_m 1 (fun _ _ _ _ => rfl) ?_
  refine wR_ic_ne rfl (a := (gi mem 221 42).toInt) (c := 7) rfl rfl (fun q1 => ?_) (fun q1 => ?_)
  ·
    refine yR_m 1 (fun _ _ _ _ => rfl) ?_
    refine wR_gi rfl mO_e mO_8 hm rfl ?_
    refine wR_if_le rfl (a := (gi mem 221 8).toInt) rfl (fun q2 => ?_) (fun q2 => ?_)
    ·
      refine yR_m 2 (fun _ _ _ _ => rfl) ?_
      refine wR_gi rfl mO_e mO_42 hm rfl ?_
      refine yR_m 1 (fun _ _ _ _ => rfl) ?_
      refine wN_add (a := (gi mem 221 42).toInt) (b := 1) rfl rfl rfl (by omega) (fun x3 e4 => ?_)
      refine wR_pi rfl mO_e mO_42 hm rfl ?_
      have hm_1 : aTm aT0 (si mem 221 42 x3) := tm_si mO_e mO_42 hm (i32_b _)
      refine yR_m 1 (fun _ _ _ _ => rfl) ?_
      refine wR_cv rfl rfl mO_e hm_1 rfl (h_ahead3 (by omega) hm_1 (gi_sv_ne (by decide)) (gi_sv_ne (by decide)) (by omega) (gi_sv_ne (by decide)) (gi_si_eq mO_e mO_42 hm) (gi_sv_ne (by decide)) (gi_sv_ne (by decide)) (gi_sv_ne (by decide))) ?_
      rintro _ m5 ⟨rfl, hI5, k6⟩
      show yR zpg tX12_opens (d + 3) (40, [(0, .ref 221), (1, .int K)], [], m5) _
      refine yR_m 2 (fun _ _ _ _ => rfl) ?_
      refine wR_iv rfl rfl mO_e hI5 rfl rfl rfl rfl ?_
      show yR zpg tX12_pushes (d + 2) (0, [(0, .ref 221), (1, .int K)], [], m5) _
      refine yR_m 1 (fun _ _ _ _ => rfl) ?_
      refine wR_gr rfl mO_e mO_36 hI5 ?_
      refine yR_m 1 (fun _ _ _ _ => rfl) ?_
      refine wR_gi rfl mO_e mO_41 hI5 rfl ?_
      refine yR_m 1 (fun _ _ _ _ => rfl) ?_
      refine wN_as (a := (gi m5 221 41).toInt) rfl aR_242 hI5 rfl (by omega) ?_
      have hm_2 : aTm aT0 (sx m5 242 (gi m5 221 41) K) := tm_sa aR_242 hI5 (i32_b _)
      refine yR_m 1 (fun _ _ _ _ => rfl) ?_
      refine wR_gr rfl mO_e mO_37 hm_2 ?_
      refine yR_m 1 (fun _ _ _ _ => rfl) ?_
      refine wR_gi rfl mO_e mO_41 hm_2 (gi_sa) ?_
      refine yR_m 1 (fun _ _ _ _ => rfl) ?_
      refine wN_as (a := (gi m5 221 41).toInt) rfl aR_243 hm_2 rfl (by omega) ?_
      have hm_3 : aTm aT0 (sx (sx m5 242 (gi m5 221 41) K) 243 (gi m5 221 41) 0) := tm_sa aR_243 hm_2 (i32_b _)
      refine yR_m 1 (fun _ _ _ _ => rfl) ?_
      refine wR_gr rfl mO_e mO_38 hm_3 ?_
      refine yR_m 1 (fun _ _ _ _ => rfl) ?_
      refine wR_gi rfl mO_e mO_41 hm_3 ((gi_sa).trans (gi_sa)) ?_
      refine yR_m 1 (fun _ _ _ _ => rfl) ?_
      refine wN_zs (a := (gi m5 221 41).toInt) rfl aR_244 hm_3 rfl (by omega) (by decide) ?_
      have hm_4 : aTm aT0 (sx (sx (sx m5 242 (gi m5 221 41) K) 243 (gi m5 221 41) 0) 244 (gi m5 221 41) 1) := tm_sa aR_244 hm_3 (by decide)
      refine yR_m 1 (fun _ _ _ _ => rfl) ?_
      refine wR_gr rfl mO_e mO_40 hm_4 ?_
      refine yR_m 1 (fun _ _ _ _ => rfl) ?_
      refine wR_gi rfl mO_e mO_41 hm_4 ((gi_sa).trans ((gi_sa).trans (gi_sa))) ?_
      refine yR_m 1 (fun _ _ _ _ => rfl) ?_
      refine wR_gi rfl mO_e mO_44 hm_4 ((gi_sa).trans ((gi_sa).trans (gi_sa))) ?_
      refine wN_as (a := (gi m5 221 41).toInt) rfl aR_246 hm_4 rfl (by omega) ?_
      have hm_5 : aTm aT0 (sx (sx (sx (sx m5 242 (gi m5 221 41) K) 243 (gi m5 221 41) 0) 244 (gi m5 221 41) 1) 246 (gi m5 221 41) (gi m5 221 44)) := tm_sa aR_246 hm_4 (i32_b _)
      refine yR_m 2 (fun _ _ _ _ => rfl) ?_
      refine wR_gi rfl mO_e mO_41 hm_5 ((gi_sa).trans ((gi_sa).trans ((gi_sa).trans (gi_sa)))) ?_
      refine yR_m 1 (fun _ _ _ _ => rfl) ?_
      refine wN_add (a := (gi m5 221 41).toInt) (b := 1) rfl rfl rfl (by omega) (fun x7 e8 => ?_)
      refine wR_pi rfl mO_e mO_41 hm_5 rfl ?_
      have hm_6 : aTm aT0 (si (sx (sx (sx (sx m5 242 (gi m5 221 41) K) 243 (gi m5 221 41) 0) 244 (gi m5 221 41) 1) 246 (gi m5 221 41) (gi m5 221 44)) 221 41 x7) := tm_si mO_e mO_41 hm_5 (i32_b _)
      refine yR_rv rfl ?_
      show yR zpg tX12_opens (d + 3) (45, [(0, .ref 221), (1, .int K)], [], (si (sx (sx (sx (sx m5 242 (gi m5 221 41) K) 243 (gi m5 221 41) 0) 244 (gi m5 221 41) 1) 246 (gi m5 221 41) (gi m5 221 44)) 221 41 x7)) _
      exact yR_rv rfl (h1 q1 q2 x3 e4 m5 hI5 k6 x7 e8 hm_6)
    ·
      exact yR_rv rfl (h2 q1 q2 hm)
  ·
    refine yR_m 3 (fun _ _ _ _ => rfl) ?_
    refine wR_gi rfl mO_e mO_4 hm rfl ?_
    refine wR_iv rfl rfl mO_e hm rfl rfl rfl rfl ?_
    show yR zpg tX12_blame (d + 2) (0, [(0, .ref 221), (1, .int 5), (2, .int (gi mem 221 4))], [], mem) _
    refine yR_m 1 (fun _ _ _ _ => rfl) ?_
    refine wR_gi rfl mO_e mO_8 hm rfl ?_
    refine wR_if_le rfl (a := (gi mem 221 8).toInt) rfl (fun q9 => ?_) (fun q9 => ?_)
    ·
      refine yR_m 2 (fun _ _ _ _ => rfl) ?_
      refine wR_pi rfl mO_e mO_8 hm rfl ?_
      have hm_7 : aTm aT0 (si mem 221 8 5) := tm_si mO_e mO_8 hm (i32_b _)
      refine yR_m 2 (fun _ _ _ _ => rfl) ?_
      refine wR_pi rfl mO_e mO_9 hm_7 rfl ?_
      have hm_8 : aTm aT0 (si (si mem 221 8 5) 221 9 (gi mem 221 4)) := tm_si mO_e mO_9 hm_7 (i32_b _)
      refine yR_rv rfl ?_
      show yR zpg tX12_opens (d + 3) (18, [(0, .ref 221), (1, .int K)], [], (si (si mem 221 8 5) 221 9 (gi mem 221 4))) _
      refine yR_m 1 (fun _ _ _ _ => rfl) ?_
      refine wR_gi rfl mO_e mO_8 hm_8 ((gi_sv_ne (by decide)).trans (gi_si_eq mO_e mO_8 hm)) ?_
      refine wR_if_le rfl (a := 5) rfl (fun q => by exfalso; omega) (fun _ => ?_)
      exact yR_rv rfl (h3 q1 q9 hm_8)
    ·
      refine yR_rv rfl ?_
      show yR zpg tX12_opens (d + 3) (18, [(0, .ref 221), (1, .int K)], [], mem) _
      refine yR_m 1 (fun _ _ _ _ => rfl) ?_
      refine wR_gi rfl mO_e mO_8 hm rfl ?_
      refine wR_if_le rfl (a := (gi mem 221 8).toInt) rfl (fun q => by exfalso; omega) (fun _ => ?_)
      exact yR_rv rfl (h4 q1 q9 hm)

theorem h_opens {K : Int32} (hm : aTm aT0 mem) (hT : tOK mem) (hd : 4 ≤ d) (p1 : 1 ≤ (gi mem 221 41).toInt ∧ (gi mem 221 41).toInt ≤ 8) (p4 : 0 ≤ (gi mem 221 42).toInt ∧ (gi mem 221 42).toInt ≤ 7) : yC zpg d 186 [.ref 221, .int K] mem (fun r m => r = none ∧ aTm aT0 m ∧ opQ K.toInt mem m) := by
  obtain ⟨d, rfl⟩ : ∃ q, d = q + 4 := ⟨d - 4, by omega⟩
  have hT0 := hT.1.1
  have hT8 : 0 ≤ (gi mem 221 8).toInt := hT.2
  refine yC_of (t := tX12_opens) rfl rfl ?_
  exact w_opens hm p1 p4 (by omega)
        (fun q1 q2 x3 e4 m5 hI5 k6 x7 e8 hm2 => ⟨rfl, hm2, opQ_a hI5 hT (fr_tr (fr_sv rfl fr_rf) (fr_up k6.1.1 rfl rfl)) k6.1.2.1 (x := (gi m5 221 41)) (y := (gi m5 221 44)) (by omega) p1 (by omega) (by omega) (by omega) (by show (gi mem 221 8).toInt = 0; omega) (by omega) (x7 := x7) (by omega) (gi_eqO (isO_sa (by decide) (isO_sa (by decide) (isO_sa (by decide) (isO_sa (by decide) (isO_of hI5))))) (by decide)) (fr_sv rfl (fr_sa rfl (fr_sa rfl (fr_sa rfl (fr_sa rfl (fr_rf)))))) (((ga_sv).trans ((ga_sa_ne (by decide)).trans ((ga_sa_ne (by decide)).trans ((ga_sa_ne (by decide)).trans ga_sa_eq))))) (((ga_sv).trans ((ga_sa_ne (by decide)).trans ((ga_sa_ne (by decide)).trans (ga_sa_eq.trans (congrArg (fun l => List.set l (gi m5 221 41).toNatClampNeg 0) (ga_sa_ne (by decide)))))))) (((ga_sv).trans ((ga_sa_ne (by decide)).trans (ga_sa_eq.trans (congrArg (fun l => List.set l (gi m5 221 41).toNatClampNeg 1) ((ga_sa_ne (by decide)).trans (ga_sa_ne (by decide)))))))) (((ga_sv).trans (ga_sa_eq.trans (congrArg (fun l => List.set l (gi m5 221 41).toNatClampNeg (gi m5 221 44)) ((ga_sa_ne (by decide)).trans ((ga_sa_ne (by decide)).trans (ga_sa_ne (by decide))))))))⟩)
        (fun q1 q2 hm2 => ⟨rfl, hm2, opQ_f fr_rf hT (by show 1 ≤ (gi mem 221 8).toInt; omega)⟩)
        (fun q1 q9 hm2 => ⟨rfl, hm2, opQ_f (fr_sv rfl (fr_sv rfl (fr_rf))) hT (by show 1 ≤ (gi (si (si mem 221 8 5) 221 9 (gi mem 221 4)) 221 8).toInt; rw [((gi_sv_ne (by decide)).trans (gi_eqO (isO_of hm) (by decide)))]; decide)⟩)
        (fun q1 q9 hm2 => ⟨rfl, hm2, opQ_f fr_rf hT (by show 1 ≤ (gi mem 221 8).toInt; omega)⟩)
end OP
