/-! finishes -/
section FI
variable {d : Nat} {mem : zM}
set_option maxRecDepth 100000 in
theorem w_fi_53 {d : Nat} {mem : zM} {P : Option Value → zM → Prop} {n a : Int32} {lo : List (Nat × Value)} (hm : aTm aT0 mem) (l_0 : zlg lo 0 = some (.ref 221)) (l_1 : zlg lo 1 = some (.int n)) (l_2 : zlg lo 2 = some (.int a)) (hT : tOK mem) (h1 : ∀ (v1 : Int32), ((v1.toInt = 0 ∧ ¬ ((gi mem 221 3).toInt = 3 ∧ (gi mem 221 6).toInt = 59)) ∨ (v1.toInt = 1 ∧ (gi mem 221 3).toInt = 3 ∧ (gi mem 221 6).toInt = 59)) → (v1).toInt = 0 → ∀ (m4 : zM), aTm aT0 m4 → tQ mem m4 → aTm aT0 m4 → P none m4) (h2 : ∀ (v1 : Int32), ((v1.toInt = 0 ∧ ¬ ((gi mem 221 3).toInt = 3 ∧ (gi mem 221 6).toInt = 59)) ∨ (v1.toInt = 1 ∧ (gi mem 221 3).toInt = 3 ∧ (gi mem 221 6).toInt = 59)) → ¬ (v1).toInt = 0 → ¬ (n).toInt = 80 → ∀ (m7 : zM), aTm aT0 m7 → tQ mem m7 → aTm aT0 m7 → P none m7) (h3 : ∀ (v1 : Int32), ((v1.toInt = 0 ∧ ¬ ((gi mem 221 3).toInt = 3 ∧ (gi mem 221 6).toInt = 59)) ∨ (v1.toInt = 1 ∧ (gi mem 221 3).toInt = 3 ∧ (gi mem 221 6).toInt = 59)) → ¬ (v1).toInt = 0 → (n).toInt = 80 → (gi mem 221 2).toInt ≤ (a).toInt → ∀ (m10 : zM), aTm aT0 m10 → tQ mem m10 → aTm aT0 m10 → P none m10) (h4 : ∀ (v1 : Int32), ((v1.toInt = 0 ∧ ¬ ((gi mem 221 3).toInt = 3 ∧ (gi mem 221 6).toInt = 59)) ∨ (v1.toInt = 1 ∧ (gi mem 221 3).toInt = 3 ∧ (gi mem 221 6).toInt = 59)) → ¬ (v1).toInt = 0 → (n).toInt = 80 → (a).toInt < (gi mem 221 2).toInt → (gi mem 221 8).toInt ≤ 0 → ∀ (m13 : zM), aTm aT0 m13 → tQ (si (si mem 221 8 6) 221 9 a) m13 → aTm aT0 m13 → P none m13) (h5 : ∀ (v1 : Int32), ((v1.toInt = 0 ∧ ¬ ((gi mem 221 3).toInt = 3 ∧ (gi mem 221 6).toInt = 59)) ∨ (v1.toInt = 1 ∧ (gi mem 221 3).toInt = 3 ∧ (gi mem 221 6).toInt = 59)) → ¬ (v1).toInt = 0 → (n).toInt = 80 → (a).toInt < (gi mem 221 2).toInt → 0 < (gi mem 221 8).toInt → ∀ (m15 : zM), aTm aT0 m15 → tQ mem m15 → aTm aT0 m15 → P none m15) : yR zpg tX12_finishes (d + 5) (53, lo, [], mem) P := by
  refine wR_la rfl l_0 ?_
  refine yR_m 1 (fun _ _ _ _ => rfl) ?_
  refine wR_cv rfl rfl mO_e hm rfl (c_isSign2 hm rfl rfl (by omega)) ?_
  rintro _ _ ⟨v1, rfl, rfl, k2⟩
  show yR zpg tX12_finishes (d + 5) (59, lo, [.int v1], mem) _
  refine wR_if_eq rfl (a := (v1).toInt) rfl (fun q3 => ?_) (fun q3 => ?_)
  ·
    refine wR_la rfl l_0 ?_
    refine yR_m 1 (fun _ _ _ _ => rfl) ?_
    refine wR_cv rfl rfl mO_e hm rfl (h_must hm hT (by omega)) ?_
    rintro _ m4 ⟨rfl, hI4, k5⟩
    show yR zpg tX12_finishes (d + 5) (89, lo, [], m4) _
    exact yR_rv rfl (h1 v1 k2 q3 m4 hI4 k5 hI4)
  ·
    refine wR_li rfl l_1 ?_
    refine yR_m 1 (fun _ _ _ _ => rfl) ?_
    refine wR_ic_ne rfl (a := (n).toInt) (c := 80) rfl rfl (fun q6 => ?_) (fun q6 => ?_)
    ·
      refine wR_la rfl l_0 ?_
      refine yR_m 1 (fun _ _ _ _ => rfl) ?_
      refine wR_cv rfl rfl mO_e hm rfl (h_must hm hT (by omega)) ?_
      rintro _ m7 ⟨rfl, hI7, k8⟩
      show yR zpg tX12_finishes (d + 5) (89, lo, [], m7) _
      exact yR_rv rfl (h2 v1 k2 q3 q6 m7 hI7 k8 hI7)
    ·
      refine wR_li rfl l_2 ?_
      refine wR_la rfl l_0 ?_
      refine wR_gi rfl mO_e mO_2 hm rfl ?_
      refine wR_ic_ge rfl (a := (a).toInt) (c := (gi mem 221 2).toInt) rfl rfl (fun q9 => ?_) (fun q9 => ?_)
      ·
        refine wR_la rfl l_0 ?_
        refine yR_m 1 (fun _ _ _ _ => rfl) ?_
        refine wR_cv rfl rfl mO_e hm rfl (h_must hm hT (by omega)) ?_
        rintro _ m10 ⟨rfl, hI10, k11⟩
        show yR zpg tX12_finishes (d + 5) (89, lo, [], m10) _
        exact yR_rv rfl (h3 v1 k2 q3 q6 q9 m10 hI10 k11 hI10)
      ·
        refine wR_la rfl l_0 ?_
        refine yR_m 1 (fun _ _ _ _ => rfl) ?_
        refine wR_li rfl l_2 ?_
        refine wR_iv rfl rfl mO_e hm rfl rfl rfl rfl ?_
        show yR zpg tX12_blame (d + 4) (0, [(0, .ref 221), (1, .int 6), (2, .int a)], [], mem) _
        refine yR_m 1 (fun _ _ _ _ => rfl) ?_
        refine wR_gi rfl mO_e mO_8 hm rfl ?_
        refine wR_if_le rfl (a := (gi mem 221 8).toInt) rfl (fun q12 => ?_) (fun q12 => ?_)
        ·
          refine yR_m 2 (fun _ _ _ _ => rfl) ?_
          refine wR_pi rfl mO_e mO_8 hm rfl ?_
          have hm_1 : aTm aT0 (si mem 221 8 6) := tm_si mO_e mO_8 hm (i32_b _)
          refine yR_m 2 (fun _ _ _ _ => rfl) ?_
          refine wR_pi rfl mO_e mO_9 hm_1 rfl ?_
          have hm_2 : aTm aT0 (si (si mem 221 8 6) 221 9 a) := tm_si mO_e mO_9 hm_1 (i32_b _)
          refine yR_rv rfl ?_
          show yR zpg tX12_finishes (d + 5) (83, lo, [], (si (si mem 221 8 6) 221 9 a)) _
          refine wR_la rfl l_0 ?_
          refine yR_m 1 (fun _ _ _ _ => rfl) ?_
          refine wR_cv rfl rfl mO_e hm_2 rfl (h_must hm_2 (tOK_fr (ks := [223, 224, 225, 226, 227, 228, 229, 230, 231, 232, 233, 234, 235, 236, 237, 240, 241]) (is := [8, 9]) (fr_sv rfl (fr_sv rfl (fr_rf))) rfl rfl rfl rfl (by show 0 ≤ (gi (si (si mem 221 8 6) 221 9 a) 221 8).toInt; rw [((gi_sv_ne (by decide)).trans (gi_eqO (isO_of hm) (by decide)))]; decide) hT) (by omega)) ?_
          rintro _ m13 ⟨rfl, hI13, k14⟩
          show yR zpg tX12_finishes (d + 5) (89, lo, [], m13) _
          exact yR_rv rfl (h4 v1 k2 q3 q6 q9 q12 m13 hI13 k14 hI13)
        ·
          refine yR_rv rfl ?_
          show yR zpg tX12_finishes (d + 5) (83, lo, [], mem) _
          refine wR_la rfl l_0 ?_
          refine yR_m 1 (fun _ _ _ _ => rfl) ?_
          refine wR_cv rfl rfl mO_e hm rfl (h_must hm hT (by omega)) ?_
          rintro _ m15 ⟨rfl, hI15, k16⟩
          show yR zpg tX12_finishes (d + 5) (89, lo, [], m15) _
          exact yR_rv rfl (h5 v1 k2 q3 q6 q9 q12 m15 hI15 k16 hI15)

set_option maxRecDepth 100000 in
theorem w_fi_17 {d : Nat} {mem : zM} {P : Option Value → zM → Prop} {n a : Int32} {lo : List (Nat × Value)} (hm : aTm aT0 mem) (l_0 : zlg lo 0 = some (.ref 221)) (l_1 : zlg lo 1 = some (.int n)) (l_2 : zlg lo 2 = some (.int a)) (ha : 0 ≤ a.toInt ∧ a.toInt ≤ 1600) (h1 : (gi mem 221 2).toInt ≤ (a).toInt → ∀ lo, zlg lo 0 = some (.ref 221) → zlg lo 1 = some (.int n) → zlg lo 2 = some (.int a) → aTm aT0 mem → yR zpg tX12_finishes (d + 5) (53, lo, [], mem) P) (h2 : (a).toInt < (gi mem 221 2).toInt → ∀ (y2 : Int32), y2.toInt = (gn (ga mem 222) (a).toInt) → (gn (ga mem 222) (a).toInt) = 32 → ∀ (x5 : Int32), x5.toInt = ((a).toInt + 1) → ∀ lo, zlg lo 0 = some (.ref 221) → zlg lo 1 = some (.int n) → zlg lo 2 = some (.int x5) → aTm aT0 mem → yR zpg tX12_finishes (d + 5) (17, lo, [], mem) P) (h3 : (a).toInt < (gi mem 221 2).toInt → ∀ (y2 : Int32), y2.toInt = (gn (ga mem 222) (a).toInt) → ¬ (gn (ga mem 222) (a).toInt) = 32 → ∀ (y10 : Int32), y10.toInt = (gn (ga mem 222) (a).toInt) → ¬ (gn (ga mem 222) (a).toInt) = 10 → ∀ lo, zlg lo 0 = some (.ref 221) → zlg lo 1 = some (.int n) → zlg lo 2 = some (.int a) → aTm aT0 mem → yR zpg tX12_finishes (d + 5) (53, lo, [], mem) P) (h4 : (a).toInt < (gi mem 221 2).toInt → ∀ (y2 : Int32), y2.toInt = (gn (ga mem 222) (a).toInt) → ¬ (gn (ga mem 222) (a).toInt) = 32 → ∀ (y10 : Int32), y10.toInt = (gn (ga mem 222) (a).toInt) → (gn (ga mem 222) (a).toInt) = 10 → ∀ (x13 : Int32), x13.toInt = ((a).toInt + 1) → ∀ lo, zlg lo 0 = some (.ref 221) → zlg lo 1 = some (.int n) → zlg lo 2 = some (.int x13) → aTm aT0 mem → yR zpg tX12_finishes (d + 5) (17, lo, [], mem) P) : yR zpg tX12_finishes (d + 5) (17, lo, [], mem) P := by
  have sz := mO_r2 hm
  refine wR_li rfl l_2 ?_
  refine wR_la rfl l_0 ?_
  refine wR_gi rfl mO_e mO_2 hm rfl ?_
  refine wR_ic_ge rfl (a := (a).toInt) (c := (gi mem 221 2).toInt) rfl rfl (fun q1 => ?_) (fun q1 => ?_)
  ·
    exact h1 q1 lo l_0 l_1 l_2 hm
  ·
    refine wR_la rfl l_0 ?_
    refine wR_gr rfl mO_e mO_0 hm ?_
    refine wR_li rfl l_2 ?_
    refine wN_al (a := (a).toInt) rfl aR_222 hm rfl rfl (by omega) (fun y2 e3 => ?_)
    refine yR_m 1 (fun _ _ _ _ => rfl) ?_
    refine wR_ic_eq rfl (a := (gn (ga mem 222) (a).toInt)) (c := 32) e3 rfl (fun q4 => ?_) (fun q4 => ?_)
    ·
      refine wN_in (a := (a).toInt) (b := 1) rfl rfl l_2 rfl rfl (by omega) (fun x5 e6 => fun lo7 e8 f9 => ?_)
      have lo7_0 := f9 0 _ (by decide) (Or.inl rfl) l_0
      have lo7_1 := f9 1 _ (by decide) (Or.inl rfl) l_1
      exact yR_m 1 (fun _ _ _ _ => rfl) (h2 q1 y2 e3 q4 x5 e6 lo7 lo7_0 lo7_1 e8 hm)
    ·
      refine wR_la rfl l_0 ?_
      refine wR_gr rfl mO_e mO_0 hm ?_
      refine wR_li rfl l_2 ?_
      refine wN_al (a := (a).toInt) rfl aR_222 hm rfl rfl (by omega) (fun y10 e11 => ?_)
      refine yR_m 1 (fun _ _ _ _ => rfl) ?_
      refine wR_ic_ne rfl (a := (gn (ga mem 222) (a).toInt)) (c := 10) e11 rfl (fun q12 => ?_) (fun q12 => ?_)
      ·
        exact h3 q1 y2 e3 q4 y10 e11 q12 lo l_0 l_1 l_2 hm
      ·
        refine wN_in (a := (a).toInt) (b := 1) rfl rfl l_2 rfl rfl (by omega) (fun x13 e14 => fun lo15 e16 f17 => ?_)
        have lo15_0 := f17 0 _ (by decide) (Or.inl rfl) l_0
        have lo15_1 := f17 1 _ (by decide) (Or.inl rfl) l_1
        exact yR_m 1 (fun _ _ _ _ => rfl) (h4 q1 y2 e3 q4 y10 e11 q12 x13 e14 lo15 lo15_0 lo15_1 e16 hm)

set_option maxRecDepth 100000 in
theorem w_fi_0 {d : Nat} {mem : zM} {P : Option Value → zM → Prop} {n : Int32} {lo : List (Nat × Value)} (hm : aTm aT0 mem) (l_0 : zlg lo 0 = some (.ref 221)) (l_1 : zlg lo 1 = some (.int n)) (h1 : (gi mem 221 12).toInt = (-1) → (gi mem 221 8).toInt ≤ 0 → ∀ lo, zlg lo 0 = some (.ref 221) → zlg lo 1 = some (.int n) → zlg lo 2 = some (.int (gi mem 221 5)) → aTm aT0 mem → yR zpg tX12_finishes (d + 5) (17, lo, [], mem) P) (h2 : (gi mem 221 12).toInt = (-1) → 0 < (gi mem 221 8).toInt → aTm aT0 mem → P none mem) (h3 : ¬ (gi mem 221 12).toInt = (-1) → (gi mem 221 8).toInt ≤ 0 → aTm aT0 (si (si mem 221 8 1) 221 9 (gi mem 221 12)) → P none (si (si mem 221 8 1) 221 9 (gi mem 221 12))) (h4 : ¬ (gi mem 221 12).toInt = (-1) → 0 < (gi mem 221 8).toInt → aTm aT0 mem → P none mem) : yR zpg tX12_finishes (d + 5) (0, lo, [], mem) P := by
  refine wR_la rfl l_0 ?_
  refine wR_iv rfl rfl mO_e hm rfl rfl rfl rfl ?_
  show yR zpg tX12_lex (d + 4) (0, [(0, .ref 221)], [], mem) _
  refine yR_m 1 (fun _ _ _ _ => rfl) ?_
  refine wR_gi rfl mO_e mO_12 hm rfl ?_
  refine yR_m 1 (fun _ _ _ _ => rfl) ?_
  refine wR_ic_eq rfl (a := (gi mem 221 12).toInt) (c := (-1)) rfl tm1 (fun q1 => ?_) (fun q1 => ?_)
  ·
    refine yR_rv rfl ?_
    show yR zpg tX12_finishes (d + 5) (4, lo, [], mem) _
    refine wR_la rfl l_0 ?_
    refine wR_gi rfl mO_e mO_8 hm rfl ?_
    refine wR_if_le rfl (a := (gi mem 221 8).toInt) rfl (fun q2 => ?_) (fun q2 => ?_)
    ·
      refine wR_la rfl l_0 ?_
      refine wR_gi rfl mO_e mO_5 hm rfl ?_
      refine wR_si rfl rfl (fun lo3 e4 f5 => ?_)
      have lo3_0 := f5 0 _ (by decide) (Or.inl rfl) l_0
      have lo3_1 := f5 1 _ (by decide) (Or.inl rfl) l_1
      exact h1 q1 q2 lo3 lo3_0 lo3_1 e4 hm
    ·
      exact yR_rv rfl (h2 q1 q2 hm)
  ·
    refine yR_m 3 (fun _ _ _ _ => rfl) ?_
    refine wR_gi rfl mO_e mO_12 hm rfl ?_
    refine wR_iv rfl rfl mO_e hm rfl rfl rfl rfl ?_
    show yR zpg tX12_blame (d + 3) (0, [(0, .ref 221), (1, .int 1), (2, .int (gi mem 221 12))], [], mem) _
    refine yR_m 1 (fun _ _ _ _ => rfl) ?_
    refine wR_gi rfl mO_e mO_8 hm rfl ?_
    refine wR_if_le rfl (a := (gi mem 221 8).toInt) rfl (fun q6 => ?_) (fun q6 => ?_)
    ·
      refine yR_m 2 (fun _ _ _ _ => rfl) ?_
      refine wR_pi rfl mO_e mO_8 hm rfl ?_
      have hm_1 : aTm aT0 (si mem 221 8 1) := tm_si mO_e mO_8 hm (i32_b _)
      refine yR_m 2 (fun _ _ _ _ => rfl) ?_
      refine wR_pi rfl mO_e mO_9 hm_1 rfl ?_
      have hm_2 : aTm aT0 (si (si mem 221 8 1) 221 9 (gi mem 221 12)) := tm_si mO_e mO_9 hm_1 (i32_b _)
      refine yR_rv rfl ?_
      show yR zpg tX12_lex (d + 4) (17, [(0, .ref 221)], [], (si (si mem 221 8 1) 221 9 (gi mem 221 12))) _
      refine yR_rv rfl ?_
      show yR zpg tX12_finishes (d + 5) (4, lo, [], (si (si mem 221 8 1) 221 9 (gi mem 221 12))) _
      refine wR_la rfl l_0 ?_
      refine wR_gi rfl mO_e mO_8 hm_2 ((gi_sv_ne (by decide)).trans (gi_si_eq mO_e mO_8 hm)) ?_
      refine wR_if_le rfl (a := 1) rfl (fun q => by exfalso; omega) (fun _ => ?_)
      exact yR_rv rfl (h3 q1 q6 hm_2)
    ·
      refine yR_rv rfl ?_
      show yR zpg tX12_lex (d + 4) (17, [(0, .ref 221)], [], mem) _
      refine yR_rv rfl ?_
      show yR zpg tX12_finishes (d + 5) (4, lo, [], mem) _
      refine wR_la rfl l_0 ?_
      refine wR_gi rfl mO_e mO_8 hm rfl ?_
      refine wR_if_le rfl (a := (gi mem 221 8).toInt) rfl (fun q => by exfalso; omega) (fun _ => ?_)
      exact yR_rv rfl (h4 q1 q6 hm)

theorem fi_53 {n a : Int32} {lo : List (Nat × Value)} (hm : aTm aT0 mem) (hT : tOK mem) (h8 : (gi mem 221 8).toInt = 0) (a0 : zlg lo 0 = some (.ref 221)) (a1 : zlg lo 1 = some (.int n)) (a2 : zlg lo 2 = some (.int a)) : yR zpg tX12_finishes (d + 5) (53, lo, [], mem) (fun r m => r = none ∧ aTm aT0 m ∧ tQ mem m) := by
  exact w_fi_53 hm a0 a1 a2 hT
        (fun v1 k2 q3 m4 hI4 k5 hm2 => ⟨rfl, hm2, k5⟩)
        (fun v1 k2 q3 q6 m7 hI7 k8 hm2 => ⟨rfl, hm2, k8⟩)
        (fun v1 k2 q3 q6 q9 m10 hI10 k11 hm2 => ⟨rfl, hm2, k11⟩)
        (fun v1 k2 q3 q6 q9 q12 m13 hI13 k14 hm2 => ⟨rfl, hm2, tQ_tr (tQ_f (fr_sv rfl (fr_sv rfl fr_rf)) hT (by show 1 ≤ (gi (si (si mem 221 8 6) 221 9 a) 221 8).toInt; rw [(gi_sv_ne (by decide)).trans (gi_eqO (isO_of hm) (by decide))]; decide)) k14⟩)
        (fun v1 k2 q3 q6 q9 q12 m15 hI15 k16 hm2 => ⟨rfl, hm2, k16⟩)
theorem fi_17 {n : Int32} (hm : aTm aT0 mem) (hT : tOK mem) (h8 : (gi mem 221 8).toInt = 0) : ∀ (f : Nat) (a : Int32) (lo : List (Nat × Value)), (gi mem 221 2).toInt ≤ a.toInt + (f : Int) → 0 ≤ a.toInt → a.toInt ≤ (gi mem 221 2).toInt → zlg lo 0 = some (.ref 221) → zlg lo 1 = some (.int n) → zlg lo 2 = some (.int a) → yR zpg tX12_finishes (d + 5) (17, lo, [], mem) (fun r m => r = none ∧ aTm aT0 m ∧ tQ mem m) := by
  have sz := mO_r2 hm
  intro f
  induction f with
  | zero =>
    intro a lo hf h0 h1 a0 a1 a2
    exact w_fi_17 hm a0 a1 a2 ⟨h0, by omega⟩
        (fun q1 lo a0 a1 a2 hm => fi_53 hm hT h8 a0 a1 a2)
        (fun q1 y2 e3 q4 x5 e6 lo a0 a1 a2 hm => by exfalso; omega)
        (fun q1 y2 e3 q4 y10 e11 q12 lo a0 a1 a2 hm => fi_53 hm hT h8 a0 a1 a2)
        (fun q1 y2 e3 q4 y10 e11 q12 x13 e14 lo a0 a1 a2 hm => by exfalso; omega)
  | succ f ih =>
    intro a lo hf h0 h1 a0 a1 a2
    exact w_fi_17 hm a0 a1 a2 ⟨h0, by omega⟩
        (fun q1 lo a0 a1 a2 hm => fi_53 hm hT h8 a0 a1 a2)
        (fun q1 y2 e3 q4 x5 e6 lo a0 a1 a2 hm => ih _ lo (by omega) (by omega) (by omega) a0 a1 a2)
        (fun q1 y2 e3 q4 y10 e11 q12 lo a0 a1 a2 hm => fi_53 hm hT h8 a0 a1 a2)
        (fun q1 y2 e3 q4 y10 e11 q12 x13 e14 lo a0 a1 a2 hm => ih _ lo (by omega) (by omega) (by omega) a0 a1 a2)
theorem h_finishes {n : Int32} (hm : aTm aT0 mem) (hT : tOK mem) (hd : 6 ≤ d) : yC zpg d 205 [.ref 221, .int n] mem (fun r m => r = none ∧ aTm aT0 m ∧ tQ mem m) := by
  obtain ⟨d, rfl⟩ : ∃ q, d = q + 6 := ⟨d - 6, by omega⟩
  have hT0 := hT.1.1
  have hT8 : 0 ≤ (gi mem 221 8).toInt := hT.2
  refine yC_of (t := tX12_finishes) rfl rfl ?_
  exact w_fi_0 hm rfl rfl
        (fun q1 q2 lo a0 a1 a2 hm => fi_17 hm hT (by omega) 1601 _ lo (by have := mO_r2 hm; omega) (by omega) (by omega) a0 a1 a2)
        (fun q1 q2 hm2 => ⟨rfl, hm2, tQ_f fr_rf hT (by show 1 ≤ (gi mem 221 8).toInt; omega)⟩)
        (fun q1 q6 hm2 => ⟨rfl, hm2, tQ_f (fr_sv rfl (fr_sv rfl (fr_rf))) hT (by show 1 ≤ (gi (si (si mem 221 8 1) 221 9 (gi mem 221 12)) 221 8).toInt; rw [((gi_sv_ne (by decide)).trans (gi_eqO (isO_of hm) (by decide)))]; decide)⟩)
        (fun q1 q6 hm2 => ⟨rfl, hm2, tQ_f fr_rf hT (by show 1 ≤ (gi mem 221 8).toInt; omega)⟩)
end FI
