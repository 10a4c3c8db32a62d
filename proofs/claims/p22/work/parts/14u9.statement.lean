/-! statement -/
section SM
variable {d : Nat} {mr mem : zM}
def stP (mr mem : zM) (r : Option Value) (m : zM) : Prop := r = none ∧ aTm aT0 m ∧ SI mr m ∧ ((gi m 221 8).toInt = 0 → (gi mem 221 4).toInt ≤ (gi m 221 4).toInt)
theorem st_q {m : zM} (hm : aTm aT0 m) (h : SI mr mem) (q : stQ stK mem m) : stP mr mem none m := ⟨rfl, hm, SI_st h q, fun _ => q.2.2.1⟩
theorem h_readin5 {wh : Int32} (hm : aTm aT0 mem) (h : SI mr mem) (h8 : (gi mem 221 8).toInt = 0) (sg : ¬ (gi mem 221 3).toInt = 0) (hw : 0 ≤ wh.toInt ∧ wh.toInt ≤ 2) (hd : 10 ≤ d) : yC zpg d 203 [.ref 221, .int wh] mem (fun r m => r = none ∧ aTm aT0 m ∧ (SI mr m ∧ ((gi m 221 8).toInt = 0 → (gi mem 221 4).toInt ≤ (gi m 221 4).toInt))) := h_reading hm h h8 sg hw hd
set_option maxRecDepth 100000 in
theorem w_st_192 {d : Nat} {mem : zM} {P : Option Value → zM → Prop} {mr : zM} {lo : List (Nat × Value)} (hm : aTm aT0 mem) (l_0 : zlg lo 0 = some (.ref 221)) (h : SI mr mem) (h8 : (gi mem 221 8).toInt = 0) (sg : ¬ (gi mem 221 3).toInt = 0) (h1 : (gi mem 221 8).toInt ≤ 0 → aTm aT0 (si (si mem 221 8 1) 221 9 (gi mem 221 4)) → P none (si (si mem 221 8 1) 221 9 (gi mem 221 4))) (h2 : 0 < (gi mem 221 8).toInt → aTm aT0 mem → P none mem) : yR zpg tX12_statement (d + 10) (192, lo, [], mem) P := by
  obtain ⟨i0, i1⟩ := mO_r34 hm
  refine wR_la rfl l_0 ?_
  refine yR_m 1 (fun _ _ _ _ => rfl) ?_
  refine wR_la rfl l_0 ?_
  refine wR_gi rfl mO_e mO_4 hm rfl ?_
  refine wR_iv rfl rfl mO_e hm rfl rfl rfl rfl ?_
  show yR zpg tX12_blame (d + 9) (0, [(0, .ref 221), (1, .int 1), (2, .int (gi mem 221 4))], [], mem) _
  refine yR_m 1 (fun _ _ _ _ => rfl) ?_
  refine wR_gi rfl mO_e mO_8 hm rfl ?_
  refine wR_if_le rfl (a := (gi mem 221 8).toInt) rfl (fun q1 => ?_) (fun q1 => ?_)
  ·
    refine yR_m 2 (fun _ _ _ _ => rfl) ?_
    refine wR_pi rfl mO_e mO_8 hm rfl ?_
    have hm_1 : aTm aT0 (si mem 221 8 1) := tm_si mO_e mO_8 hm (i32_b _)
    refine yR_m 2 (fun _ _ _ _ => rfl) ?_
    refine wR_pi rfl mO_e mO_9 hm_1 rfl ?_
    have hm_2 : aTm aT0 (si (si mem 221 8 1) 221 9 (gi mem 221 4)) := tm_si mO_e mO_9 hm_1 (i32_b _)
    refine yR_rv rfl ?_
    show yR zpg tX12_statement (d + 10) (201, lo, [], (si (si mem 221 8 1) 221 9 (gi mem 221 4))) _
    exact yR_rv rfl (h1 q1 hm_2)
  ·
    refine yR_rv rfl ?_
    show yR zpg tX12_statement (d + 10) (201, lo, [], mem) _
    exact yR_rv rfl (h2 q1 hm)

theorem st_192 {lo : List (Nat × Value)} (hm : aTm aT0 mem) (h : SI mr mem) (h8 : (gi mem 221 8).toInt = 0) (sg : ¬ (gi mem 221 3).toInt = 0) (a0 : zlg lo 0 = some (.ref 221)) : yR zpg tX12_statement (d + 10) (192, lo, [], mem) (stP mr mem) := by
  exact w_st_192 (mr := mr) hm a0 h h8 sg
        (fun q1 hm2 => st_q hm2 h (stQ_t (tQ_f (fr_sv rfl (fr_sv rfl (fr_rf))) h.2.1 (by show 1 ≤ (gi (si (si mem 221 8 1) 221 9 (gi mem 221 4)) 221 8).toInt; rw [((gi_sv_ne (by decide)).trans (gi_eqO (isO_of hm) (by decide)))]; decide))))
        (fun q1 hm2 => by exfalso; omega)
set_option maxRecDepth 100000 in
theorem w_st_174 {d : Nat} {mem : zM} {P : Option Value → zM → Prop} {mr : zM} {lo : List (Nat × Value)} (hm : aTm aT0 mem) (l_0 : zlg lo 0 = some (.ref 221)) (h : SI mr mem) (h8 : (gi mem 221 8).toInt = 0) (sg : ¬ (gi mem 221 3).toInt = 0) (h1 : ∀ (v1 : Int32), (v1.toInt = 0 ∨ (v1.toInt = 1 ∧ ¬ (gi mem 221 3).toInt = 0)) → (v1).toInt = 0 → ∀ lo, zlg lo 0 = some (.ref 221) → aTm aT0 mem → yR zpg tX12_statement (d + 10) (192, lo, [], mem) P) (h2 : ∀ (v1 : Int32), (v1.toInt = 0 ∨ (v1.toInt = 1 ∧ ¬ (gi mem 221 3).toInt = 0)) → ¬ (v1).toInt = 0 → ∀ (m4 : zM), aTm aT0 m4 → (SI mr m4 ∧ ((gi m4 221 8).toInt = 0 → (gi mem 221 4).toInt ≤ (gi m4 221 4).toInt)) → aTm aT0 m4 → P none m4) : yR zpg tX12_statement (d + 10) (174, lo, [], mem) P := by
  obtain ⟨i0, i1⟩ := mO_r34 hm
  refine wR_la rfl l_0 ?_
  refine yR_m 1 (fun _ _ _ _ => rfl) ?_
  refine wR_cv rfl rfl mO_e hm rfl (c_isWord hm rfl (by omega)) ?_
  rintro _ _ ⟨v1, rfl, rfl, k2⟩
  show yR zpg tX12_statement (d + 10) (181, lo, [.int v1], mem) _
  refine wR_if_eq rfl (a := (v1).toInt) rfl (fun q3 => ?_) (fun q3 => ?_)
  ·
    exact h1 v1 k2 q3 lo l_0 hm
  ·
    refine wR_la rfl l_0 ?_
    refine yR_m 1 (fun _ _ _ _ => rfl) ?_
    refine wR_cv rfl rfl mO_e hm rfl (h_readin5 hm h h8 sg (by decide) (by omega)) ?_
    rintro _ m4 ⟨rfl, hI4, k5⟩
    show yR zpg tX12_statement (d + 10) (189, lo, [], m4) _
    refine yR_m 1 (fun _ _ _ _ => rfl) ?_
    exact yR_rv rfl (h2 v1 k2 q3 m4 hI4 k5 hI4)

theorem st_174 {lo : List (Nat × Value)} (hm : aTm aT0 mem) (h : SI mr mem) (h8 : (gi mem 221 8).toInt = 0) (sg : ¬ (gi mem 221 3).toInt = 0) (a0 : zlg lo 0 = some (.ref 221)) : yR zpg tX12_statement (d + 10) (174, lo, [], mem) (stP mr mem) := by
  exact w_st_174 (mr := mr) hm a0 h h8 sg
        (fun v1 k2 q3 lo a0 hm2 => st_192 hm h h8 sg a0)
        (fun v1 k2 q3 m4 hI4 k5 hm2 => ⟨rfl, hm2, k5⟩)
set_option maxRecDepth 100000 in
theorem w_st_156 {d : Nat} {mem : zM} {P : Option Value → zM → Prop} {mr : zM} {lo : List (Nat × Value)} (hm : aTm aT0 mem) (l_0 : zlg lo 0 = some (.ref 221)) (h : SI mr mem) (h8 : (gi mem 221 8).toInt = 0) (sg : ¬ (gi mem 221 3).toInt = 0) (h1 : ∀ (v1 : Int32), (v1.toInt = 0 ∨ (v1.toInt = 1 ∧ ¬ (gi mem 221 3).toInt = 0)) → (v1).toInt = 0 → ∀ lo, zlg lo 0 = some (.ref 221) → aTm aT0 mem → yR zpg tX12_statement (d + 10) (174, lo, [], mem) P) (h2 : ∀ (v1 : Int32), (v1.toInt = 0 ∨ (v1.toInt = 1 ∧ ¬ (gi mem 221 3).toInt = 0)) → ¬ (v1).toInt = 0 → ∀ (m4 : zM), aTm aT0 m4 → (SI mr m4 ∧ ((gi m4 221 8).toInt = 0 → (gi mem 221 4).toInt ≤ (gi m4 221 4).toInt)) → aTm aT0 m4 → P none m4) : yR zpg tX12_statement (d + 10) (156, lo, [], mem) P := by
  obtain ⟨i0, i1⟩ := mO_r34 hm
  refine wR_la rfl l_0 ?_
  refine yR_m 1 (fun _ _ _ _ => rfl) ?_
  refine wR_cv rfl rfl mO_e hm rfl (c_isWord hm rfl (by omega)) ?_
  rintro _ _ ⟨v1, rfl, rfl, k2⟩
  show yR zpg tX12_statement (d + 10) (163, lo, [.int v1], mem) _
  refine wR_if_eq rfl (a := (v1).toInt) rfl (fun q3 => ?_) (fun q3 => ?_)
  ·
    exact h1 v1 k2 q3 lo l_0 hm
  ·
    refine wR_la rfl l_0 ?_
    refine yR_m 1 (fun _ _ _ _ => rfl) ?_
    refine wR_cv rfl rfl mO_e hm rfl (h_readin5 hm h h8 sg (by decide) (by omega)) ?_
    rintro _ m4 ⟨rfl, hI4, k5⟩
    show yR zpg tX12_statement (d + 10) (171, lo, [], m4) _
    refine yR_m 1 (fun _ _ _ _ => rfl) ?_
    exact yR_rv rfl (h2 v1 k2 q3 m4 hI4 k5 hI4)

theorem st_156 {lo : List (Nat × Value)} (hm : aTm aT0 mem) (h : SI mr mem) (h8 : (gi mem 221 8).toInt = 0) (sg : ¬ (gi mem 221 3).toInt = 0) (a0 : zlg lo 0 = some (.ref 221)) : yR zpg tX12_statement (d + 10) (156, lo, [], mem) (stP mr mem) := by
  exact w_st_156 (mr := mr) hm a0 h h8 sg
        (fun v1 k2 q3 lo a0 hm2 => st_174 hm h h8 sg a0)
        (fun v1 k2 q3 m4 hI4 k5 hm2 => ⟨rfl, hm2, k5⟩)
set_option maxRecDepth 100000 in
theorem w_st_138 {d : Nat} {mem : zM} {P : Option Value → zM → Prop} {mr : zM} {lo : List (Nat × Value)} (hm : aTm aT0 mem) (l_0 : zlg lo 0 = some (.ref 221)) (h : SI mr mem) (h8 : (gi mem 221 8).toInt = 0) (sg : ¬ (gi mem 221 3).toInt = 0) (h1 : ∀ (v1 : Int32), (v1.toInt = 0 ∨ (v1.toInt = 1 ∧ ¬ (gi mem 221 3).toInt = 0)) → (v1).toInt = 0 → ∀ lo, zlg lo 0 = some (.ref 221) → aTm aT0 mem → yR zpg tX12_statement (d + 10) (156, lo, [], mem) P) (h2 : ∀ (v1 : Int32), (v1.toInt = 0 ∨ (v1.toInt = 1 ∧ ¬ (gi mem 221 3).toInt = 0)) → ¬ (v1).toInt = 0 → ∀ (m4 : zM), aTm aT0 m4 → (SI mr m4 ∧ ((gi m4 221 8).toInt = 0 → (gi mem 221 4).toInt ≤ (gi m4 221 4).toInt)) → aTm aT0 m4 → P none m4) : yR zpg tX12_statement (d + 10) (138, lo, [], mem) P := by
  obtain ⟨i0, i1⟩ := mO_r34 hm
  refine wR_la rfl l_0 ?_
  refine yR_m 1 (fun _ _ _ _ => rfl) ?_
  refine wR_cv rfl rfl mO_e hm rfl (c_isWord hm rfl (by omega)) ?_
  rintro _ _ ⟨v1, rfl, rfl, k2⟩
  show yR zpg tX12_statement (d + 10) (145, lo, [.int v1], mem) _
  refine wR_if_eq rfl (a := (v1).toInt) rfl (fun q3 => ?_) (fun q3 => ?_)
  ·
    exact h1 v1 k2 q3 lo l_0 hm
  ·
    refine wR_la rfl l_0 ?_
    refine yR_m 1 (fun _ _ _ _ => rfl) ?_
    refine wR_cv rfl rfl mO_e hm rfl (h_readin5 hm h h8 sg (by decide) (by omega)) ?_
    rintro _ m4 ⟨rfl, hI4, k5⟩
    show yR zpg tX12_statement (d + 10) (153, lo, [], m4) _
    refine yR_m 1 (fun _ _ _ _ => rfl) ?_
    exact yR_rv rfl (h2 v1 k2 q3 m4 hI4 k5 hI4)

theorem st_138 {lo : List (Nat × Value)} (hm : aTm aT0 mem) (h : SI mr mem) (h8 : (gi mem 221 8).toInt = 0) (sg : ¬ (gi mem 221 3).toInt = 0) (a0 : zlg lo 0 = some (.ref 221)) : yR zpg tX12_statement (d + 10) (138, lo, [], mem) (stP mr mem) := by
  exact w_st_138 (mr := mr) hm a0 h h8 sg
        (fun v1 k2 q3 lo a0 hm2 => st_156 hm h h8 sg a0)
        (fun v1 k2 q3 m4 hI4 k5 hm2 => ⟨rfl, hm2, k5⟩)
set_option maxRecDepth 100000 in
theorem w_st_121 {d : Nat} {mem : zM} {P : Option Value → zM → Prop} {mr : zM} {lo : List (Nat × Value)} (hm : aTm aT0 mem) (l_0 : zlg lo 0 = some (.ref 221)) (h : SI mr mem) (h8 : (gi mem 221 8).toInt = 0) (sg : ¬ (gi mem 221 3).toInt = 0) (h1 : ∀ (v1 : Int32), (v1.toInt = 0 ∨ (v1.toInt = 1 ∧ ¬ (gi mem 221 3).toInt = 0)) → (v1).toInt = 0 → ∀ lo, zlg lo 0 = some (.ref 221) → aTm aT0 mem → yR zpg tX12_statement (d + 10) (138, lo, [], mem) P) (h2 : ∀ (v1 : Int32), (v1.toInt = 0 ∨ (v1.toInt = 1 ∧ ¬ (gi mem 221 3).toInt = 0)) → ¬ (v1).toInt = 0 → ∀ (m4 : zM), aTm aT0 m4 → stQ stK mem m4 → aTm aT0 m4 → P none m4) : yR zpg tX12_statement (d + 10) (121, lo, [], mem) P := by
  obtain ⟨i0, i1⟩ := mO_r34 hm
  refine wR_la rfl l_0 ?_
  refine yR_m 1 (fun _ _ _ _ => rfl) ?_
  refine wR_cv rfl rfl mO_e hm rfl (c_isWord hm rfl (by omega)) ?_
  rintro _ _ ⟨v1, rfl, rfl, k2⟩
  show yR zpg tX12_statement (d + 10) (128, lo, [.int v1], mem) _
  refine wR_if_eq rfl (a := (v1).toInt) rfl (fun q3 => ?_) (fun q3 => ?_)
  ·
    exact h1 v1 k2 q3 lo l_0 hm
  ·
    refine wR_la rfl l_0 ?_
    refine wR_cv rfl rfl mO_e hm rfl (h_folking hm h.2.1 sg (h.2.2.2 h8).1.1 (h.2.2.2 h8).1.2 (by omega)) ?_
    rintro _ m4 ⟨rfl, hI4, k5⟩
    show yR zpg tX12_statement (d + 10) (135, lo, [], m4) _
    refine yR_m 1 (fun _ _ _ _ => rfl) ?_
    exact yR_rv rfl (h2 v1 k2 q3 m4 hI4 k5 hI4)

theorem st_121 {lo : List (Nat × Value)} (hm : aTm aT0 mem) (h : SI mr mem) (h8 : (gi mem 221 8).toInt = 0) (sg : ¬ (gi mem 221 3).toInt = 0) (a0 : zlg lo 0 = some (.ref 221)) : yR zpg tX12_statement (d + 10) (121, lo, [], mem) (stP mr mem) := by
  exact w_st_121 (mr := mr) hm a0 h h8 sg
        (fun v1 k2 q3 lo a0 hm2 => st_138 hm h h8 sg a0)
        (fun v1 k2 q3 m4 hI4 k5 hm2 => st_q hm2 h k5)
set_option maxRecDepth 100000 in
theorem w_st_104 {d : Nat} {mem : zM} {P : Option Value → zM → Prop} {mr : zM} {lo : List (Nat × Value)} (hm : aTm aT0 mem) (l_0 : zlg lo 0 = some (.ref 221)) (h : SI mr mem) (h8 : (gi mem 221 8).toInt = 0) (sg : ¬ (gi mem 221 3).toInt = 0) (h1 : ∀ (v1 : Int32), (v1.toInt = 0 ∨ (v1.toInt = 1 ∧ ¬ (gi mem 221 3).toInt = 0)) → (v1).toInt = 0 → ∀ lo, zlg lo 0 = some (.ref 221) → aTm aT0 mem → yR zpg tX12_statement (d + 10) (121, lo, [], mem) P) (h2 : ∀ (v1 : Int32), (v1.toInt = 0 ∨ (v1.toInt = 1 ∧ ¬ (gi mem 221 3).toInt = 0)) → ¬ (v1).toInt = 0 → ∀ (m4 : zM), aTm aT0 m4 → stQ stK mem m4 → aTm aT0 m4 → P none m4) : yR zpg tX12_statement (d + 10) (104, lo, [], mem) P := by
  obtain ⟨i0, i1⟩ := mO_r34 hm
  refine wR_la rfl l_0 ?_
  refine yR_m 1 (fun _ _ _ _ => rfl) ?_
  refine wR_cv rfl rfl mO_e hm rfl (c_isWord hm rfl (by omega)) ?_
  rintro _ _ ⟨v1, rfl, rfl, k2⟩
  show yR zpg tX12_statement (d + 10) (111, lo, [.int v1], mem) _
  refine wR_if_eq rfl (a := (v1).toInt) rfl (fun q3 => ?_) (fun q3 => ?_)
  ·
    exact h1 v1 k2 q3 lo l_0 hm
  ·
    refine wR_la rfl l_0 ?_
    refine wR_cv rfl rfl mO_e hm rfl (h_having hm h.2.1 sg (by omega)) ?_
    rintro _ m4 ⟨rfl, hI4, k5⟩
    show yR zpg tX12_statement (d + 10) (118, lo, [], m4) _
    refine yR_m 1 (fun _ _ _ _ => rfl) ?_
    exact yR_rv rfl (h2 v1 k2 q3 m4 hI4 k5 hI4)

theorem st_104 {lo : List (Nat × Value)} (hm : aTm aT0 mem) (h : SI mr mem) (h8 : (gi mem 221 8).toInt = 0) (sg : ¬ (gi mem 221 3).toInt = 0) (a0 : zlg lo 0 = some (.ref 221)) : yR zpg tX12_statement (d + 10) (104, lo, [], mem) (stP mr mem) := by
  exact w_st_104 (mr := mr) hm a0 h h8 sg
        (fun v1 k2 q3 lo a0 hm2 => st_121 hm h h8 sg a0)
        (fun v1 k2 q3 m4 hI4 k5 hm2 => st_q hm2 h k5)
set_option maxRecDepth 100000 in
theorem w_st_87 {d : Nat} {mem : zM} {P : Option Value → zM → Prop} {mr : zM} {lo : List (Nat × Value)} (hm : aTm aT0 mem) (l_0 : zlg lo 0 = some (.ref 221)) (h : SI mr mem) (h8 : (gi mem 221 8).toInt = 0) (sg : ¬ (gi mem 221 3).toInt = 0) (h1 : ∀ (v1 : Int32), (v1.toInt = 0 ∨ (v1.toInt = 1 ∧ ¬ (gi mem 221 3).toInt = 0)) → (v1).toInt = 0 → ∀ lo, zlg lo 0 = some (.ref 221) → aTm aT0 mem → yR zpg tX12_statement (d + 10) (104, lo, [], mem) P) (h2 : ∀ (v1 : Int32), (v1.toInt = 0 ∨ (v1.toInt = 1 ∧ ¬ (gi mem 221 3).toInt = 0)) → ¬ (v1).toInt = 0 → ∀ (m4 : zM), aTm aT0 m4 → stQ stK mem m4 → aTm aT0 m4 → P none m4) : yR zpg tX12_statement (d + 10) (87, lo, [], mem) P := by
  obtain ⟨i0, i1⟩ := mO_r34 hm
  refine wR_la rfl l_0 ?_
  refine yR_m 1 (fun _ _ _ _ => rfl) ?_
  refine wR_cv rfl rfl mO_e hm rfl (c_isWord hm rfl (by omega)) ?_
  rintro _ _ ⟨v1, rfl, rfl, k2⟩
  show yR zpg tX12_statement (d + 10) (94, lo, [.int v1], mem) _
  refine wR_if_eq rfl (a := (v1).toInt) rfl (fun q3 => ?_) (fun q3 => ?_)
  ·
    exact h1 v1 k2 q3 lo l_0 hm
  ·
    refine wR_la rfl l_0 ?_
    refine wR_cv rfl rfl mO_e hm rfl (h_lacking hm h.2.1 sg (h.2.2.2 h8).1.1 (h.2.2.2 h8).1.2 (by omega)) ?_
    rintro _ m4 ⟨rfl, hI4, k5⟩
    show yR zpg tX12_statement (d + 10) (101, lo, [], m4) _
    refine yR_m 1 (fun _ _ _ _ => rfl) ?_
    exact yR_rv rfl (h2 v1 k2 q3 m4 hI4 k5 hI4)

theorem st_87 {lo : List (Nat × Value)} (hm : aTm aT0 mem) (h : SI mr mem) (h8 : (gi mem 221 8).toInt = 0) (sg : ¬ (gi mem 221 3).toInt = 0) (a0 : zlg lo 0 = some (.ref 221)) : yR zpg tX12_statement (d + 10) (87, lo, [], mem) (stP mr mem) := by
  exact w_st_87 (mr := mr) hm a0 h h8 sg
        (fun v1 k2 q3 lo a0 hm2 => st_104 hm h h8 sg a0)
        (fun v1 k2 q3 m4 hI4 k5 hm2 => st_q hm2 h k5)
set_option maxRecDepth 100000 in
theorem w_st_70 {d : Nat} {mem : zM} {P : Option Value → zM → Prop} {mr : zM} {lo : List (Nat × Value)} (hm : aTm aT0 mem) (l_0 : zlg lo 0 = some (.ref 221)) (h : SI mr mem) (h8 : (gi mem 221 8).toInt = 0) (sg : ¬ (gi mem 221 3).toInt = 0) (h1 : ∀ (v1 : Int32), (v1.toInt = 0 ∨ (v1.toInt = 1 ∧ ¬ (gi mem 221 3).toInt = 0)) → (v1).toInt = 0 → ∀ lo, zlg lo 0 = some (.ref 221) → aTm aT0 mem → yR zpg tX12_statement (d + 10) (87, lo, [], mem) P) (h2 : ∀ (v1 : Int32), (v1.toInt = 0 ∨ (v1.toInt = 1 ∧ ¬ (gi mem 221 3).toInt = 0)) → ¬ (v1).toInt = 0 → ∀ (m4 : zM), aTm aT0 m4 → stQ stK mem m4 → aTm aT0 m4 → P none m4) : yR zpg tX12_statement (d + 10) (70, lo, [], mem) P := by
  obtain ⟨i0, i1⟩ := mO_r34 hm
  refine wR_la rfl l_0 ?_
  refine yR_m 1 (fun _ _ _ _ => rfl) ?_
  refine wR_cv rfl rfl mO_e hm rfl (c_isWord hm rfl (by omega)) ?_
  rintro _ _ ⟨v1, rfl, rfl, k2⟩
  show yR zpg tX12_statement (d + 10) (77, lo, [.int v1], mem) _
  refine wR_if_eq rfl (a := (v1).toInt) rfl (fun q3 => ?_) (fun q3 => ?_)
  ·
    exact h1 v1 k2 q3 lo l_0 hm
  ·
    refine wR_la rfl l_0 ?_
    refine wR_cv rfl rfl mO_e hm rfl (h_walling hm h.2.1 sg (h.2.2.2 h8).1.1 (h.2.2.2 h8).1.2 (by omega)) ?_
    rintro _ m4 ⟨rfl, hI4, k5⟩
    show yR zpg tX12_statement (d + 10) (84, lo, [], m4) _
    refine yR_m 1 (fun _ _ _ _ => rfl) ?_
    exact yR_rv rfl (h2 v1 k2 q3 m4 hI4 k5 hI4)

theorem st_70 {lo : List (Nat × Value)} (hm : aTm aT0 mem) (h : SI mr mem) (h8 : (gi mem 221 8).toInt = 0) (sg : ¬ (gi mem 221 3).toInt = 0) (a0 : zlg lo 0 = some (.ref 221)) : yR zpg tX12_statement (d + 10) (70, lo, [], mem) (stP mr mem) := by
  exact w_st_70 (mr := mr) hm a0 h h8 sg
        (fun v1 k2 q3 lo a0 hm2 => st_87 hm h h8 sg a0)
        (fun v1 k2 q3 m4 hI4 k5 hm2 => st_q hm2 h k5)
set_option maxRecDepth 100000 in
theorem w_st_41 {d : Nat} {mem : zM} {P : Option Value → zM → Prop} {mr : zM} {lo : List (Nat × Value)} (hm : aTm aT0 mem) (l_0 : zlg lo 0 = some (.ref 221)) (h : SI mr mem) (h8 : (gi mem 221 8).toInt = 0) (sg : ¬ (gi mem 221 3).toInt = 0) (h1 : ∀ (v1 : Int32), (v1.toInt = 0 ∨ (v1.toInt = 1 ∧ ¬ (gi mem 221 3).toInt = 0)) → (v1).toInt = 0 → ∀ lo, zlg lo 0 = some (.ref 221) → aTm aT0 mem → yR zpg tX12_statement (d + 10) (70, lo, [], mem) P) (h2 : ∀ (v1 : Int32), (v1.toInt = 0 ∨ (v1.toInt = 1 ∧ ¬ (gi mem 221 3).toInt = 0)) → ¬ (v1).toInt = 0 → ∀ (v6 : Int32) (m4 : zM), aTm aT0 m4 → stQ [] mem m4 → aTm aT0 (sx m4 226 (gi mem 221 34) v6) → P none (sx m4 226 (gi mem 221 34) v6)) : yR zpg tX12_statement (d + 10) (41, lo, [], mem) P := by
  obtain ⟨i0, i1⟩ := mO_r34 hm
  refine wR_la rfl l_0 ?_
  refine yR_m 1 (fun _ _ _ _ => rfl) ?_
  refine wR_cv rfl rfl mO_e hm rfl (c_isWord hm rfl (by omega)) ?_
  rintro _ _ ⟨v1, rfl, rfl, k2⟩
  show yR zpg tX12_statement (d + 10) (48, lo, [.int v1], mem) _
  refine wR_if_eq rfl (a := (v1).toInt) rfl (fun q3 => ?_) (fun q3 => ?_)
  ·
    exact h1 v1 k2 q3 lo l_0 hm
  ·
    refine wR_la rfl l_0 ?_
    refine wR_gr rfl mO_e mO_17 hm ?_
    refine wR_la rfl l_0 ?_
    refine wR_gi rfl mO_e mO_34 hm rfl ?_
    refine wR_la rfl l_0 ?_
    refine yR_m 2 (fun _ _ _ _ => rfl) ?_
    refine wR_cv rfl rfl mO_e hm rfl (h_telling hm h.2.1 sg (by omega)) ?_
    rintro _ m4 ⟨v6, rfl, hm4, k5⟩
    show yR zpg tX12_statement (d + 10) (66, lo, [.int v6, .int (gi mem 221 34), .ref 226], m4) _
    refine wN_as (a := (gi mem 221 34).toInt) rfl aR_226 hm4 rfl (by omega) ?_
    have hm_1 : aTm aT0 (sx m4 226 (gi mem 221 34) v6) := tm_sa aR_226 hm4 (i32_b _)
    refine yR_m 1 (fun _ _ _ _ => rfl) ?_
    exact yR_rv rfl (h2 v1 k2 q3 v6 m4 hm4 k5 hm_1)

theorem st_41 {lo : List (Nat × Value)} (hm : aTm aT0 mem) (h : SI mr mem) (h8 : (gi mem 221 8).toInt = 0) (sg : ¬ (gi mem 221 3).toInt = 0) (a0 : zlg lo 0 = some (.ref 221)) : yR zpg tX12_statement (d + 10) (41, lo, [], mem) (stP mr mem) := by
  exact w_st_41 (mr := mr) hm a0 h h8 sg
        (fun v1 k2 q3 lo a0 hm2 => st_70 hm h h8 sg a0)
        (fun v1 k2 q3 v6 m4 hm4 k5 hm2 => st_q hm2 h (stQ_sa rfl (stQ_t (tQ_s k5))))
set_option maxRecDepth 100000 in
theorem w_st_12 {d : Nat} {mem : zM} {P : Option Value → zM → Prop} {mr : zM} {lo : List (Nat × Value)} (hm : aTm aT0 mem) (l_0 : zlg lo 0 = some (.ref 221)) (h : SI mr mem) (h8 : (gi mem 221 8).toInt = 0) (sg : ¬ (gi mem 221 3).toInt = 0) (h1 : ∀ (v1 : Int32), (v1.toInt = 0 ∨ (v1.toInt = 1 ∧ ¬ (gi mem 221 3).toInt = 0)) → (v1).toInt = 0 → ∀ lo, zlg lo 0 = some (.ref 221) → aTm aT0 mem → yR zpg tX12_statement (d + 10) (41, lo, [], mem) P) (h2 : ∀ (v1 : Int32), (v1.toInt = 0 ∨ (v1.toInt = 1 ∧ ¬ (gi mem 221 3).toInt = 0)) → ¬ (v1).toInt = 0 → ∀ (v6 : Int32) (m4 : zM), aTm aT0 m4 → stQ [] mem m4 → aTm aT0 (sx m4 225 (gi mem 221 34) v6) → P none (sx m4 225 (gi mem 221 34) v6)) : yR zpg tX12_statement (d + 10) (12, lo, [], mem) P := by
  obtain ⟨i0, i1⟩ := mO_r34 hm
  refine wR_la rfl l_0 ?_
  refine yR_m 1 (fun _ _ _ _ => rfl) ?_
  refine wR_cv rfl rfl mO_e hm rfl (c_isWord hm rfl (by omega)) ?_
  rintro _ _ ⟨v1, rfl, rfl, k2⟩
  show yR zpg tX12_statement (d + 10) (19, lo, [.int v1], mem) _
  refine wR_if_eq rfl (a := (v1).toInt) rfl (fun q3 => ?_) (fun q3 => ?_)
  ·
    exact h1 v1 k2 q3 lo l_0 hm
  ·
    refine wR_la rfl l_0 ?_
    refine wR_gr rfl mO_e mO_16 hm ?_
    refine wR_la rfl l_0 ?_
    refine wR_gi rfl mO_e mO_34 hm rfl ?_
    refine wR_la rfl l_0 ?_
    refine yR_m 2 (fun _ _ _ _ => rfl) ?_
    refine wR_cv rfl rfl mO_e hm rfl (h_telling hm h.2.1 sg (by omega)) ?_
    rintro _ m4 ⟨v6, rfl, hm4, k5⟩
    show yR zpg tX12_statement (d + 10) (37, lo, [.int v6, .int (gi mem 221 34), .ref 225], m4) _
    refine wN_as (a := (gi mem 221 34).toInt) rfl aR_225 hm4 rfl (by omega) ?_
    have hm_1 : aTm aT0 (sx m4 225 (gi mem 221 34) v6) := tm_sa aR_225 hm4 (i32_b _)
    refine yR_m 1 (fun _ _ _ _ => rfl) ?_
    exact yR_rv rfl (h2 v1 k2 q3 v6 m4 hm4 k5 hm_1)

theorem st_12 {lo : List (Nat × Value)} (hm : aTm aT0 mem) (h : SI mr mem) (h8 : (gi mem 221 8).toInt = 0) (sg : ¬ (gi mem 221 3).toInt = 0) (a0 : zlg lo 0 = some (.ref 221)) : yR zpg tX12_statement (d + 10) (12, lo, [], mem) (stP mr mem) := by
  exact w_st_12 (mr := mr) hm a0 h h8 sg
        (fun v1 k2 q3 lo a0 hm2 => st_41 hm h h8 sg a0)
        (fun v1 k2 q3 v6 m4 hm4 k5 hm2 => st_q hm2 h (stQ_sa rfl (stQ_t (tQ_s k5))))
set_option maxRecDepth 100000 in
theorem w_st_0 {d : Nat} {mem : zM} {P : Option Value → zM → Prop} {mr : zM} {lo : List (Nat × Value)} (hm : aTm aT0 mem) (l_0 : zlg lo 0 = some (.ref 221)) (h : SI mr mem) (h8 : (gi mem 221 8).toInt = 0) (sg : ¬ (gi mem 221 3).toInt = 0) (h1 : (gi mem 221 12).toInt = (-1) → (gi mem 221 8).toInt ≤ 0 → ∀ lo, zlg lo 0 = some (.ref 221) → aTm aT0 mem → yR zpg tX12_statement (d + 10) (12, lo, [], mem) P) (h2 : (gi mem 221 12).toInt = (-1) → 0 < (gi mem 221 8).toInt → aTm aT0 mem → P none mem) (h3 : ¬ (gi mem 221 12).toInt = (-1) → (gi mem 221 8).toInt ≤ 0 → aTm aT0 (si (si mem 221 8 1) 221 9 (gi mem 221 12)) → P none (si (si mem 221 8 1) 221 9 (gi mem 221 12))) (h4 : ¬ (gi mem 221 12).toInt = (-1) → 0 < (gi mem 221 8).toInt → aTm aT0 mem → P none mem) : yR zpg tX12_statement (d + 10) (0, lo, [], mem) P := by
  obtain ⟨i0, i1⟩ := mO_r34 hm
  refine wR_la rfl l_0 ?_
  refine wR_iv rfl rfl mO_e hm rfl rfl rfl rfl ?_
  show yR zpg tX12_lex (d + 9) (0, [(0, .ref 221)], [], mem) _
  refine yR_m 1 (fun _ _ _ _ => rfl) ?_
  refine wR_gi rfl mO_e mO_12 hm rfl ?_
  refine yR_m 1 (fun _ _ _ _ => rfl) ?_
  refine wR_ic_eq rfl (a := (gi mem 221 12).toInt) (c := (-1)) rfl tm1 (fun q1 => ?_) (fun q1 => ?_)
  ·
    refine yR_rv rfl ?_
    show yR zpg tX12_statement (d + 10) (4, lo, [], mem) _
    refine wR_la rfl l_0 ?_
    refine wR_gi rfl mO_e mO_8 hm rfl ?_
    refine wR_if_le rfl (a := (gi mem 221 8).toInt) rfl (fun q2 => ?_) (fun q2 => ?_)
    ·
      exact h1 q1 q2 lo l_0 hm
    ·
      exact yR_rv rfl (h2 q1 q2 hm)
  ·
    refine yR_m 3 (fun _ _ _ _ => rfl) ?_
    refine wR_gi rfl mO_e mO_12 hm rfl ?_
    refine wR_iv rfl rfl mO_e hm rfl rfl rfl rfl ?_
    show yR zpg tX12_blame (d + 8) (0, [(0, .ref 221), (1, .int 1), (2, .int (gi mem 221 12))], [], mem) _
    refine yR_m 1 (fun _ _ _ _ => rfl) ?_
    refine wR_gi rfl mO_e mO_8 hm rfl ?_
    refine wR_if_le rfl (a := (gi mem 221 8).toInt) rfl (fun q3 => ?_) (fun q3 => ?_)
    ·
      refine yR_m 2 (fun _ _ _ _ => rfl) ?_
      refine wR_pi rfl mO_e mO_8 hm rfl ?_
      have hm_1 : aTm aT0 (si mem 221 8 1) := tm_si mO_e mO_8 hm (i32_b _)
      refine yR_m 2 (fun _ _ _ _ => rfl) ?_
      refine wR_pi rfl mO_e mO_9 hm_1 rfl ?_
      have hm_2 : aTm aT0 (si (si mem 221 8 1) 221 9 (gi mem 221 12)) := tm_si mO_e mO_9 hm_1 (i32_b _)
      refine yR_rv rfl ?_
      show yR zpg tX12_lex (d + 9) (17, [(0, .ref 221)], [], (si (si mem 221 8 1) 221 9 (gi mem 221 12))) _
      refine yR_rv rfl ?_
      show yR zpg tX12_statement (d + 10) (4, lo, [], (si (si mem 221 8 1) 221 9 (gi mem 221 12))) _
      refine wR_la rfl l_0 ?_
      refine wR_gi rfl mO_e mO_8 hm_2 ((gi_sv_ne (by decide)).trans (gi_si_eq mO_e mO_8 hm)) ?_
      refine wR_if_le rfl (a := 1) rfl (fun q => by exfalso; omega) (fun _ => ?_)
      exact yR_rv rfl (h3 q1 q3 hm_2)
    ·
      refine yR_rv rfl ?_
      show yR zpg tX12_lex (d + 9) (17, [(0, .ref 221)], [], mem) _
      refine yR_rv rfl ?_
      show yR zpg tX12_statement (d + 10) (4, lo, [], mem) _
      refine wR_la rfl l_0 ?_
      refine wR_gi rfl mO_e mO_8 hm rfl ?_
      refine wR_if_le rfl (a := (gi mem 221 8).toInt) rfl (fun q => by exfalso; omega) (fun _ => ?_)
      exact yR_rv rfl (h4 q1 q3 hm)

theorem st_0 {lo : List (Nat × Value)} (hm : aTm aT0 mem) (h : SI mr mem) (h8 : (gi mem 221 8).toInt = 0) (sg : ¬ (gi mem 221 3).toInt = 0) (a0 : zlg lo 0 = some (.ref 221)) : yR zpg tX12_statement (d + 10) (0, lo, [], mem) (stP mr mem) := by
  exact w_st_0 (mr := mr) hm a0 h h8 sg
        (fun q1 q2 lo a0 hm2 => st_12 hm h h8 sg a0)
        (fun q1 q2 hm2 => by exfalso; omega)
        (fun q1 q3 hm2 => st_q hm2 h (stQ_t (tQ_f (fr_sv rfl (fr_sv rfl (fr_rf))) h.2.1 (by show 1 ≤ (gi (si (si mem 221 8 1) 221 9 (gi mem 221 12)) 221 8).toInt; rw [((gi_sv_ne (by decide)).trans (gi_eqO (isO_of hm) (by decide)))]; decide))))
        (fun q1 q3 hm2 => by exfalso; omega)
theorem h_statement (hm : aTm aT0 mem) (h : SI mr mem) (h8 : (gi mem 221 8).toInt = 0) (sg : ¬ (gi mem 221 3).toInt = 0) (hd : 11 ≤ d) : yC zpg d 204 [.ref 221] mem (stP mr mem) := by
  obtain ⟨d, rfl⟩ : ∃ q, d = q + 11 := ⟨d - 11, by omega⟩
  refine yC_of (t := tX12_statement) rfl rfl ?_
  exact st_0 hm h h8 sg rfl
end SM
