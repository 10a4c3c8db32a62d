/-! letter of both sides -/
section LE
variable {d : Nat} {mem m : zM} {Y Z : Qd} {q w k : Int32}
set_option maxRecDepth 100000 in
theorem w_lm_0 {d : Nat} {mem : zM} {P : Option Value → zM → Prop} {q w k : Int32} {lo : List (Nat × Value)} (hm : aTm aT0 mem) (l_0 : zlg lo 0 = some (.ref 221)) (l_1 : zlg lo 1 = some (.int q)) (l_2 : zlg lo 2 = some (.int w)) (l_3 : zlg lo 3 = some (.int k)) (h1 : ¬ (q).toInt = 0 → ¬ (q).toInt = 1 → aTm aT0 mem → P (some (.int (-1))) mem) (h2 : ¬ (q).toInt = 0 → (q).toInt = 1 → (w).toInt < 0 → aTm aT0 mem → P (some (.int (-1))) mem) (h3 : ¬ (q).toInt = 0 → (q).toInt = 1 → 0 ≤ (w).toInt → ∀ (y10 : Int32), y10.toInt = (gn (ga mem 233) (gi mem 221 13).toInt) → (gn (ga mem 233) (gi mem 221 13).toInt) ≤ (w).toInt → aTm aT0 mem → P (some (.int (-1))) mem) (h4 : ¬ (q).toInt = 0 → (q).toInt = 1 → 0 ≤ (w).toInt → ∀ (y10 : Int32), y10.toInt = (gn (ga mem 233) (gi mem 221 13).toInt) → (w).toInt < (gn (ga mem 233) (gi mem 221 13).toInt) → (k).toInt < 0 → aTm aT0 mem → P (some (.int (-1))) mem) (h5 : ¬ (q).toInt = 0 → (q).toInt = 1 → 0 ≤ (w).toInt → ∀ (y10 : Int32), y10.toInt = (gn (ga mem 233) (gi mem 221 13).toInt) → (w).toInt < (gn (ga mem 233) (gi mem 221 13).toInt) → 0 ≤ (k).toInt → 5 < (k).toInt → aTm aT0 mem → P (some (.int (-1))) mem) (h6 : ¬ (q).toInt = 0 → (q).toInt = 1 → 0 ≤ (w).toInt → ∀ (y10 : Int32), y10.toInt = (gn (ga mem 233) (gi mem 221 13).toInt) → (w).toInt < (gn (ga mem 233) (gi mem 221 13).toInt) → 0 ≤ (k).toInt → (k).toInt ≤ 5 → ∀ (x21 : Int32), x21.toInt = (6 * (gi mem 221 13).toInt) → ∀ (x23 : Int32), x23.toInt = ((6 * (gi mem 221 13).toInt) + (w).toInt) → ∀ lo, zlg lo 0 = some (.ref 221) → zlg lo 1 = some (.int q) → zlg lo 2 = some (.int w) → zlg lo 3 = some (.int k) → zlg lo 5 = some (.long ((gA mem 241).getD (((6 * (gi mem 221 13).toInt) + (w).toInt) : Int).toNat 0)) → zlg lo 7 = some (.int 0) → zlg lo 8 = some (.long ((gA mem 241).getD (((6 * (gi mem 221 13).toInt) + (w).toInt) : Int).toNat 0)) → aTm aT0 mem → yR zpg tX12_letter (d + 2) (92, lo, [], mem) P) (h7 : (q).toInt = 0 → (w).toInt < 0 → aTm aT0 mem → P (some (.int (-1))) mem) (h8 : (q).toInt = 0 → 0 ≤ (w).toInt → ∀ (y38 : Int32), y38.toInt = (gn (ga mem 228) (gi mem 221 13).toInt) → (gn (ga mem 228) (gi mem 221 13).toInt) ≤ (w).toInt → aTm aT0 mem → P (some (.int (-1))) mem) (h9 : (q).toInt = 0 → 0 ≤ (w).toInt → ∀ (y38 : Int32), y38.toInt = (gn (ga mem 228) (gi mem 221 13).toInt) → (w).toInt < (gn (ga mem 228) (gi mem 221 13).toInt) → (k).toInt < 0 → aTm aT0 mem → P (some (.int (-1))) mem) (h10 : (q).toInt = 0 → 0 ≤ (w).toInt → ∀ (y38 : Int32), y38.toInt = (gn (ga mem 228) (gi mem 221 13).toInt) → (w).toInt < (gn (ga mem 228) (gi mem 221 13).toInt) → 0 ≤ (k).toInt → 5 < (k).toInt → aTm aT0 mem → P (some (.int (-1))) mem) (h11 : (q).toInt = 0 → 0 ≤ (w).toInt → ∀ (y38 : Int32), y38.toInt = (gn (ga mem 228) (gi mem 221 13).toInt) → (w).toInt < (gn (ga mem 228) (gi mem 221 13).toInt) → 0 ≤ (k).toInt → (k).toInt ≤ 5 → ∀ (x49 : Int32), x49.toInt = (9 * (gi mem 221 13).toInt) → ∀ (x51 : Int32), x51.toInt = ((9 * (gi mem 221 13).toInt) + (w).toInt) → ∀ lo, zlg lo 0 = some (.ref 221) → zlg lo 1 = some (.int q) → zlg lo 2 = some (.int w) → zlg lo 3 = some (.int k) → zlg lo 5 = some (.long ((gA mem 240).getD (((9 * (gi mem 221 13).toInt) + (w).toInt) : Int).toNat 0)) → zlg lo 7 = some (.int 0) → zlg lo 8 = some (.long ((gA mem 240).getD (((9 * (gi mem 221 13).toInt) + (w).toInt) : Int).toNat 0)) → aTm aT0 mem → yR zpg tX12_letter (d + 2) (92, lo, [], mem) P) : yR zpg tX12_letter (d + 2) (0, lo, [], mem) P := by
  have rb := mO_r13 hm
  have th := gR_228 hm (i := (gi mem 221 13).toInt) rb.1 (by omega)
  have fki := gR_233 hm (i := (gi mem 221 13).toInt) rb.1 (by omega)
  refine wR_li rfl l_1 ?_
  refine wR_if_ne rfl (a := (q).toInt) rfl (fun q1 => ?_) (fun q1 => ?_)
  ·
    refine wR_li rfl l_1 ?_
    refine yR_m 1 (fun _ _ _ _ => rfl) ?_
    refine wR_ic_ne rfl (a := (q).toInt) (c := 1) rfl rfl (fun q2 => ?_) (fun q2 => ?_)
    ·
      refine yR_m 1 (fun _ _ _ _ => rfl) ?_
      refine wR_si rfl rfl (fun lo3 e4 f5 => ?_)
      have lo3_0 := f5 0 _ (by decide) (Or.inl rfl) l_0
      have lo3_1 := f5 1 _ (by decide) (Or.inl rfl) l_1
      have lo3_2 := f5 2 _ (by decide) (Or.inl rfl) l_2
      have lo3_3 := f5 3 _ (by decide) (Or.inl rfl) l_3
      refine wR_li rfl e4 ?_
      refine wR_if_eq rfl (a := 0) rfl (fun _ => ?_) (fun q => by exfalso; omega)
      refine yR_m 1 (fun _ _ _ _ => rfl) ?_
      exact yR_ri rfl (h1 q1 q2 hm)
    ·
      refine wR_la rfl l_0 ?_
      refine wR_li rfl l_2 ?_
      refine wR_iv rfl rfl mO_e hm rfl rfl rfl rfl ?_
      show yR zpg tX12_isFolk (d + 1) (0, [(0, .ref 221), (1, .int w)], [], mem) _
      refine yR_m 1 (fun _ _ _ _ => rfl) ?_
      refine wR_if_lt rfl (a := (w).toInt) rfl (fun q6 => ?_) (fun q6 => ?_)
      ·
        refine yR_m 1 (fun _ _ _ _ => rfl) ?_
        refine yR_rz rfl ⟨by decide, by decide⟩ ?_
        show yR zpg tX12_letter (d + 2) (22, lo, [.int 0], mem) _
        refine wR_if_eq rfl (a := 0) rfl (fun _ => ?_) (fun q => by exfalso; omega)
        refine yR_m 1 (fun _ _ _ _ => rfl) ?_
        refine wR_si rfl rfl (fun lo7 e8 f9 => ?_)
        have lo7_0 := f9 0 _ (by decide) (Or.inl rfl) l_0
        have lo7_1 := f9 1 _ (by decide) (Or.inl rfl) l_1
        have lo7_2 := f9 2 _ (by decide) (Or.inl rfl) l_2
        have lo7_3 := f9 3 _ (by decide) (Or.inl rfl) l_3
        refine wR_li rfl e8 ?_
        refine wR_if_eq rfl (a := 0) rfl (fun _ => ?_) (fun q => by exfalso; omega)
        refine yR_m 1 (fun _ _ _ _ => rfl) ?_
        exact yR_ri rfl (h2 q1 q2 q6 hm)
      ·
        refine yR_m 2 (fun _ _ _ _ => rfl) ?_
        refine wR_gr rfl mO_e mO_24 hm ?_
        refine yR_m 1 (fun _ _ _ _ => rfl) ?_
        refine wR_gi rfl mO_e mO_13 hm rfl ?_
        refine wN_al (a := (gi mem 221 13).toInt) rfl aR_233 hm rfl rfl (by omega) (fun y10 e11 => ?_)
        refine wR_ic_ge rfl (a := (w).toInt) (c := (gn (ga mem 233) (gi mem 221 13).toInt)) rfl e11 (fun q12 => ?_) (fun q12 => ?_)
        ·
          refine yR_m 1 (fun _ _ _ _ => rfl) ?_
          refine yR_rz rfl ⟨by decide, by decide⟩ ?_
          show yR zpg tX12_letter (d + 2) (22, lo, [.int 0], mem) _
          refine wR_if_eq rfl (a := 0) rfl (fun _ => ?_) (fun q => by exfalso; omega)
          refine yR_m 1 (fun _ _ _ _ => rfl) ?_
          refine wR_si rfl rfl (fun lo13 e14 f15 => ?_)
          have lo13_0 := f15 0 _ (by decide) (Or.inl rfl) l_0
          have lo13_1 := f15 1 _ (by decide) (Or.inl rfl) l_1
          have lo13_2 := f15 2 _ (by decide) (Or.inl rfl) l_2
          have lo13_3 := f15 3 _ (by decide) (Or.inl rfl) l_3
          refine wR_li rfl e14 ?_
          refine wR_if_eq rfl (a := 0) rfl (fun _ => ?_) (fun q => by exfalso; omega)
          refine yR_m 1 (fun _ _ _ _ => rfl) ?_
          exact yR_ri rfl (h3 q1 q2 q6 y10 e11 q12 hm)
        ·
          refine yR_m 2 (fun _ _ _ _ => rfl) ?_
          refine yR_rz rfl ⟨by decide, by decide⟩ ?_
          show yR zpg tX12_letter (d + 2) (22, lo, [.int 1], mem) _
          refine wR_if_eq rfl (a := 1) rfl (fun q => by exfalso; omega) (fun _ => ?_)
          refine yR_m 2 (fun _ _ _ _ => rfl) ?_
          refine wR_si rfl rfl (fun lo16 e17 f18 => ?_)
          have lo16_0 := f18 0 _ (by decide) (Or.inl rfl) l_0
          have lo16_1 := f18 1 _ (by decide) (Or.inl rfl) l_1
          have lo16_2 := f18 2 _ (by decide) (Or.inl rfl) l_2
          have lo16_3 := f18 3 _ (by decide) (Or.inl rfl) l_3
          refine wR_li rfl e17 ?_
          refine wR_if_eq rfl (a := 1) rfl (fun q => by exfalso; omega) (fun _ => ?_)
          refine wR_li rfl lo16_3 ?_
          refine yR_m 2 (fun _ _ _ _ => rfl) ?_
          refine wR_is rfl rfl rfl rfl rfl rfl ?_
          show yR zpg tX12_is (d + 1) (0, [(0, .int k), (1, .int 0), (2, .int 5)], [], mem) _
          refine yR_m 2 (fun _ _ _ _ => rfl) ?_
          refine wR_ic_lt rfl (a := (k).toInt) (c := 0) rfl rfl (fun q19 => ?_) (fun q19 => ?_)
          ·
            refine yR_m 1 (fun _ _ _ _ => rfl) ?_
            refine yR_rz rfl ⟨by decide, by decide⟩ ?_
            show yR zpg tX12_letter (d + 2) (43, lo16, [.int 0], mem) _
            refine wR_if_ne rfl (a := 0) rfl (fun q => by exfalso; omega) (fun _ => ?_)
            refine yR_m 1 (fun _ _ _ _ => rfl) ?_
            exact yR_ri rfl (h4 q1 q2 q6 y10 e11 q12 q19 hm)
          ·
            refine yR_m 2 (fun _ _ _ _ => rfl) ?_
            refine wR_ic_gt rfl (a := (k).toInt) (c := 5) rfl rfl (fun q20 => ?_) (fun q20 => ?_)
            ·
              refine yR_m 1 (fun _ _ _ _ => rfl) ?_
              refine yR_rz rfl ⟨by decide, by decide⟩ ?_
              show yR zpg tX12_letter (d + 2) (43, lo16, [.int 0], mem) _
              refine wR_if_ne rfl (a := 0) rfl (fun q => by exfalso; omega) (fun _ => ?_)
              refine yR_m 1 (fun _ _ _ _ => rfl) ?_
              exact yR_ri rfl (h5 q1 q2 q6 y10 e11 q12 q19 q20 hm)
            ·
              refine yR_m 2 (fun _ _ _ _ => rfl) ?_
              refine yR_rz rfl ⟨by decide, by decide⟩ ?_
              show yR zpg tX12_letter (d + 2) (43, lo16, [.int 1], mem) _
              refine wR_if_ne rfl (a := 1) rfl (fun _ => ?_) (fun q => by exfalso; omega)
              refine wR_li rfl lo16_1 ?_
              refine wR_if_ne rfl (a := (q).toInt) rfl (fun _ => ?_) (fun q => by exfalso; omega)
              refine wR_la rfl lo16_0 ?_
              refine wR_gr rfl mO_e mO_32 hm ?_
              refine yR_m 1 (fun _ _ _ _ => rfl) ?_
              refine wR_la rfl lo16_0 ?_
              refine wR_gi rfl mO_e mO_13 hm rfl ?_
              refine wN_mul (a := 6) (b := (gi mem 221 13).toInt) rfl rfl rfl (by omega) (fun x21 e22 => ?_)
              refine wR_li rfl lo16_2 ?_
              refine wN_add (a := (6 * (gi mem 221 13).toInt)) (b := (w).toInt) rfl e22 rfl (by omega) (fun x23 e24 => ?_)
              refine wN_ll (a := ((6 * (gi mem 221 13).toInt) + (w).toInt)) rfl aR_241 hm rfl e24 (by omega) ?_
              refine wR_sl rfl rfl (fun lo25 e26 f27 => ?_)
              have lo25_4 := f27 4 _ (by decide) (Or.inl rfl) e17
              have lo25_0 := f27 0 _ (by decide) (Or.inl rfl) lo16_0
              have lo25_1 := f27 1 _ (by decide) (Or.inl rfl) lo16_1
              have lo25_2 := f27 2 _ (by decide) (Or.inl rfl) lo16_2
              have lo25_3 := f27 3 _ (by decide) (Or.inl rfl) lo16_3
              refine yR_m 1 (fun _ _ _ _ => rfl) ?_
              refine wR_si rfl rfl (fun lo28 e29 f30 => ?_)
              have lo28_5 := f30 5 _ (by decide) (Or.inr (by decide)) e26
              have lo28_4 := f30 4 _ (by decide) (Or.inl rfl) lo25_4
              have lo28_0 := f30 0 _ (by decide) (Or.inl rfl) lo25_0
              have lo28_1 := f30 1 _ (by decide) (Or.inl rfl) lo25_1
              have lo28_2 := f30 2 _ (by decide) (Or.inl rfl) lo25_2
              have lo28_3 := f30 3 _ (by decide) (Or.inl rfl) lo25_3
              refine wR_ll4 rfl lo28_5 ?_
              refine wR_sl rfl rfl (fun lo31 e32 f33 => ?_)
              have lo31_7 := f33 7 _ (by decide) (Or.inl rfl) e29
              have lo31_5 := f33 5 _ (by decide) (Or.inr (by decide)) lo28_5
              have lo31_4 := f33 4 _ (by decide) (Or.inl rfl) lo28_4
              have lo31_0 := f33 0 _ (by decide) (Or.inl rfl) lo28_0
              have lo31_1 := f33 1 _ (by decide) (Or.inl rfl) lo28_1
              have lo31_2 := f33 2 _ (by decide) (Or.inl rfl) lo28_2
              have lo31_3 := f33 3 _ (by decide) (Or.inl rfl) lo28_3
              exact h6 q1 q2 q6 y10 e11 q12 q19 q20 x21 e22 x23 e24 lo31 lo31_0 lo31_1 lo31_2 lo31_3 lo31_5 lo31_7 e32 hm
  ·
    refine wR_la rfl l_0 ?_
    refine wR_li rfl l_2 ?_
    refine wR_iv rfl rfl mO_e hm rfl rfl rfl rfl ?_
    show yR zpg tX12_isThing (d + 1) (0, [(0, .ref 221), (1, .int w)], [], mem) _
    refine yR_m 1 (fun _ _ _ _ => rfl) ?_
    refine wR_if_lt rfl (a := (w).toInt) rfl (fun q34 => ?_) (fun q34 => ?_)
    ·
      refine yR_m 1 (fun _ _ _ _ => rfl) ?_
      refine yR_rz rfl ⟨by decide, by decide⟩ ?_
      show yR zpg tX12_letter (d + 2) (9, lo, [.int 0], mem) _
      refine yR_m 1 (fun _ _ _ _ => rfl) ?_
      refine wR_si rfl rfl (fun lo35 e36 f37 => ?_)
      have lo35_0 := f37 0 _ (by decide) (Or.inl rfl) l_0
      have lo35_1 := f37 1 _ (by decide) (Or.inl rfl) l_1
      have lo35_2 := f37 2 _ (by decide) (Or.inl rfl) l_2
      have lo35_3 := f37 3 _ (by decide) (Or.inl rfl) l_3
      refine wR_li rfl e36 ?_
      refine wR_if_eq rfl (a := 0) rfl (fun _ => ?_) (fun q => by exfalso; omega)
      refine yR_m 1 (fun _ _ _ _ => rfl) ?_
      exact yR_ri rfl (h7 q1 q34 hm)
    ·
      refine yR_m 2 (fun _ _ _ _ => rfl) ?_
      refine wR_gr rfl mO_e mO_19 hm ?_
      refine yR_m 1 (fun _ _ _ _ => rfl) ?_
      refine wR_gi rfl mO_e mO_13 hm rfl ?_
      refine wN_al (a := (gi mem 221 13).toInt) rfl aR_228 hm rfl rfl (by omega) (fun y38 e39 => ?_)
      refine wR_ic_ge rfl (a := (w).toInt) (c := (gn (ga mem 228) (gi mem 221 13).toInt)) rfl e39 (fun q40 => ?_) (fun q40 => ?_)
      ·
        refine yR_m 1 (fun _ _ _ _ => rfl) ?_
        refine yR_rz rfl ⟨by decide, by decide⟩ ?_
        show yR zpg tX12_letter (d + 2) (9, lo, [.int 0], mem) _
        refine yR_m 1 (fun _ _ _ _ => rfl) ?_
        refine wR_si rfl rfl (fun lo41 e42 f43 => ?_)
        have lo41_0 := f43 0 _ (by decide) (Or.inl rfl) l_0
        have lo41_1 := f43 1 _ (by decide) (Or.inl rfl) l_1
        have lo41_2 := f43 2 _ (by decide) (Or.inl rfl) l_2
        have lo41_3 := f43 3 _ (by decide) (Or.inl rfl) l_3
        refine wR_li rfl e42 ?_
        refine wR_if_eq rfl (a := 0) rfl (fun _ => ?_) (fun q => by exfalso; omega)
        refine yR_m 1 (fun _ _ _ _ => rfl) ?_
        exact yR_ri rfl (h8 q1 q34 y38 e39 q40 hm)
      ·
        refine yR_m 2 (fun _ _ _ _ => rfl) ?_
        refine yR_rz rfl ⟨by decide, by decide⟩ ?_
        show yR zpg tX12_letter (d + 2) (9, lo, [.int 1], mem) _
        refine yR_m 1 (fun _ _ _ _ => rfl) ?_
        refine wR_si rfl rfl (fun lo44 e45 f46 => ?_)
        have lo44_0 := f46 0 _ (by decide) (Or.inl rfl) l_0
        have lo44_1 := f46 1 _ (by decide) (Or.inl rfl) l_1
        have lo44_2 := f46 2 _ (by decide) (Or.inl rfl) l_2
        have lo44_3 := f46 3 _ (by decide) (Or.inl rfl) l_3
        refine wR_li rfl e45 ?_
        refine wR_if_eq rfl (a := 1) rfl (fun q => by exfalso; omega) (fun _ => ?_)
        refine wR_li rfl lo44_3 ?_
        refine yR_m 2 (fun _ _ _ _ => rfl) ?_
        refine wR_is rfl rfl rfl rfl rfl rfl ?_
        show yR zpg tX12_is (d + 1) (0, [(0, .int k), (1, .int 0), (2, .int 5)], [], mem) _
        refine yR_m 2 (fun _ _ _ _ => rfl) ?_
        refine wR_ic_lt rfl (a := (k).toInt) (c := 0) rfl rfl (fun q47 => ?_) (fun q47 => ?_)
        ·
          refine yR_m 1 (fun _ _ _ _ => rfl) ?_
          refine yR_rz rfl ⟨by decide, by decide⟩ ?_
          show yR zpg tX12_letter (d + 2) (43, lo44, [.int 0], mem) _
          refine wR_if_ne rfl (a := 0) rfl (fun q => by exfalso; omega) (fun _ => ?_)
          refine yR_m 1 (fun _ _ _ _ => rfl) ?_
          exact yR_ri rfl (h9 q1 q34 y38 e39 q40 q47 hm)
        ·
          refine yR_m 2 (fun _ _ _ _ => rfl) ?_
          refine wR_ic_gt rfl (a := (k).toInt) (c := 5) rfl rfl (fun q48 => ?_) (fun q48 => ?_)
          ·
            refine yR_m 1 (fun _ _ _ _ => rfl) ?_
            refine yR_rz rfl ⟨by decide, by decide⟩ ?_
            show yR zpg tX12_letter (d + 2) (43, lo44, [.int 0], mem) _
            refine wR_if_ne rfl (a := 0) rfl (fun q => by exfalso; omega) (fun _ => ?_)
            refine yR_m 1 (fun _ _ _ _ => rfl) ?_
            exact yR_ri rfl (h10 q1 q34 y38 e39 q40 q47 q48 hm)
          ·
            refine yR_m 2 (fun _ _ _ _ => rfl) ?_
            refine yR_rz rfl ⟨by decide, by decide⟩ ?_
            show yR zpg tX12_letter (d + 2) (43, lo44, [.int 1], mem) _
            refine wR_if_ne rfl (a := 1) rfl (fun _ => ?_) (fun q => by exfalso; omega)
            refine wR_li rfl lo44_1 ?_
            refine wR_if_ne rfl (a := (q).toInt) rfl (fun q => by exfalso; omega) (fun _ => ?_)
            refine wR_la rfl lo44_0 ?_
            refine wR_gr rfl mO_e mO_31 hm ?_
            refine yR_m 1 (fun _ _ _ _ => rfl) ?_
            refine wR_la rfl lo44_0 ?_
            refine wR_gi rfl mO_e mO_13 hm rfl ?_
            refine wN_mul (a := 9) (b := (gi mem 221 13).toInt) rfl rfl rfl (by omega) (fun x49 e50 => ?_)
            refine wR_li rfl lo44_2 ?_
            refine wN_add (a := (9 * (gi mem 221 13).toInt)) (b := (w).toInt) rfl e50 rfl (by omega) (fun x51 e52 => ?_)
            refine wN_ll (a := ((9 * (gi mem 221 13).toInt) + (w).toInt)) rfl aR_240 hm rfl e52 (by omega) ?_
            refine yR_m 1 (fun _ _ _ _ => rfl) ?_
            refine wR_sl rfl rfl (fun lo53 e54 f55 => ?_)
            have lo53_4 := f55 4 _ (by decide) (Or.inl rfl) e45
            have lo53_0 := f55 0 _ (by decide) (Or.inl rfl) lo44_0
            have lo53_1 := f55 1 _ (by decide) (Or.inl rfl) lo44_1
            have lo53_2 := f55 2 _ (by decide) (Or.inl rfl) lo44_2
            have lo53_3 := f55 3 _ (by decide) (Or.inl rfl) lo44_3
            refine yR_m 1 (fun _ _ _ _ => rfl) ?_
            refine wR_si rfl rfl (fun lo56 e57 f58 => ?_)
            have lo56_5 := f58 5 _ (by decide) (Or.inr (by decide)) e54
            have lo56_4 := f58 4 _ (by decide) (Or.inl rfl) lo53_4
            have lo56_0 := f58 0 _ (by decide) (Or.inl rfl) lo53_0
            have lo56_1 := f58 1 _ (by decide) (Or.inl rfl) lo53_1
            have lo56_2 := f58 2 _ (by decide) (Or.inl rfl) lo53_2
            have lo56_3 := f58 3 _ (by decide) (Or.inl rfl) lo53_3
            refine wR_ll4 rfl lo56_5 ?_
            refine wR_sl rfl rfl (fun lo59 e60 f61 => ?_)
            have lo59_7 := f61 7 _ (by decide) (Or.inl rfl) e57
            have lo59_5 := f61 5 _ (by decide) (Or.inr (by decide)) lo56_5
            have lo59_4 := f61 4 _ (by decide) (Or.inl rfl) lo56_4
            have lo59_0 := f61 0 _ (by decide) (Or.inl rfl) lo56_0
            have lo59_1 := f61 1 _ (by decide) (Or.inl rfl) lo56_1
            have lo59_2 := f61 2 _ (by decide) (Or.inl rfl) lo56_2
            have lo59_3 := f61 3 _ (by decide) (Or.inl rfl) lo56_3
            exact h11 q1 q34 y38 e39 q40 q47 q48 x49 e50 x51 e52 lo59 lo59_0 lo59_1 lo59_2 lo59_3 lo59_5 lo59_7 e60 hm

set_option maxRecDepth 100000 in
theorem w_lm_92 {d : Nat} {mem : zM} {P : Option Value → zM → Prop} {q w k n : Int32} {l mo : Int64} {lo : List (Nat × Value)} (hm : aTm aT0 mem) (l_0 : zlg lo 0 = some (.ref 221)) (l_1 : zlg lo 1 = some (.int q)) (l_2 : zlg lo 2 = some (.int w)) (l_3 : zlg lo 3 = some (.int k)) (l_5 : zlg lo 5 = some (.long l)) (l_7 : zlg lo 7 = some (.int n)) (l_8 : zlg lo 8 = some (.long mo)) (hn : 0 ≤ n.toInt ∧ n.toInt ≤ 8) (hk : 0 ≤ k.toInt ∧ k.toInt ≤ 5) (h1 : mo.toInt ≤ (0 : Int64).toInt → (k).toInt < (n).toInt → ∀ (x3 : Int32), x3.toInt = ((n).toInt - 1) → ∀ (x5 : Int32), x5.toInt = (((n).toInt - 1) - (k).toInt) → ∀ (x7 : Int32), x7.toInt = (8 * (((n).toInt - 1) - (k).toInt)) → aTm aT0 mem → P (some (.int (((((l >>> ((x7 : Int32).toInt64 &&& 63)) &&& 255)).toInt32 - 97) + 1))) mem) (h2 : mo.toInt ≤ (0 : Int64).toInt → (n).toInt ≤ (k).toInt → aTm aT0 mem → P (some (.int 0)) mem) (h3 : (0 : Int64).toInt < mo.toInt → ∀ lo, zlg lo 0 = some (.ref 221) → zlg lo 1 = some (.int q) → zlg lo 2 = some (.int w) → zlg lo 3 = some (.int k) → zlg lo 5 = some (.long l) → zlg lo 7 = some (.int (n + 1)) → zlg lo 8 = some (.long (mo >>> ((8 : Int32).toInt64 &&& 63))) → aTm aT0 mem → yR zpg tX12_letter (d + 2) (92, lo, [], mem) P) : yR zpg tX12_letter (d + 2) (92, lo, [], mem) P := by
  refine wR_ll4 rfl l_8 ?_
  refine yR_m 2 (fun _ _ _ _ => rfl) ?_
  refine wR_lf_le rfl (fun q1 => ?_) (fun q1 => ?_)
  ·
    refine wR_li rfl l_3 ?_
    refine wR_li rfl l_7 ?_
    refine wR_ic_lt rfl (a := (k).toInt) (c := (n).toInt) rfl rfl (fun q2 => ?_) (fun q2 => ?_)
    ·
      refine wR_ll4 rfl l_5 ?_
      refine yR_m 1 (fun _ _ _ _ => rfl) ?_
      refine wR_li rfl l_7 ?_
      refine yR_m 1 (fun _ _ _ _ => rfl) ?_
      refine wN_sub (a := (n).toInt) (b := 1) rfl rfl rfl (by omega) (fun x3 e4 => ?_)
      refine wR_li rfl l_3 ?_
      refine wN_sub (a := ((n).toInt - 1)) (b := (k).toInt) rfl e4 rfl (by omega) (fun x5 e6 => ?_)
      refine wN_mul (a := 8) (b := (((n).toInt - 1) - (k).toInt)) rfl rfl e6 (by omega) (fun x7 e8 => ?_)
      refine yR_m 8 (fun _ _ _ _ => rfl) ?_
      exact yR_ri rfl (h1 q1 q2 x3 e4 x5 e6 x7 e8 hm)
    ·
      refine yR_m 2 (fun _ _ _ _ => rfl) ?_
      exact yR_ri rfl (h2 q1 q2 hm)
  ·
    refine wR_in rfl rfl l_7 (fun lo9 e10 f11 => ?_)
    have lo9_0 := f11 0 _ (by decide) (Or.inl rfl) l_0
    have lo9_1 := f11 1 _ (by decide) (Or.inl rfl) l_1
    have lo9_2 := f11 2 _ (by decide) (Or.inl rfl) l_2
    have lo9_3 := f11 3 _ (by decide) (Or.inl rfl) l_3
    have lo9_5 := f11 5 _ (by decide) (Or.inr (by decide)) l_5
    have lo9_8 := f11 8 _ (by decide) (Or.inr (by decide)) l_8
    refine wR_ll4 rfl lo9_8 ?_
    refine yR_m 2 (fun _ _ _ _ => rfl) ?_
    refine wR_sl rfl rfl (fun lo12 e13 f14 => ?_)
    have lo12_7 := f14 7 _ (by decide) (Or.inl rfl) e10
    have lo12_0 := f14 0 _ (by decide) (Or.inl rfl) lo9_0
    have lo12_1 := f14 1 _ (by decide) (Or.inl rfl) lo9_1
    have lo12_2 := f14 2 _ (by decide) (Or.inl rfl) lo9_2
    have lo12_3 := f14 3 _ (by decide) (Or.inl rfl) lo9_3
    have lo12_5 := f14 5 _ (by decide) (Or.inr (by decide)) lo9_5
    exact yR_m 1 (fun _ _ _ _ => rfl) (h3 q1 lo12 lo12_0 lo12_1 lo12_2 lo12_3 lo12_5 lo12_7 e13 hm)

theorem lm_92 {L : List Int} {x : Int64} (hm : aTm aT0 mem) (h : ∀ c ∈ L, ltr c) (hx : x.toInt = wnl L) (hN : nmQ Z q.toInt w.toInt = some L) (hk : 0 ≤ k.toInt ∧ k.toInt ≤ 5) : ∀ (f : Nat) (n : Int32) (mo : Int64) (lo : List (Nat × Value)) (l1 l2 : List Int), l1.length ≤ f → mo.toInt = wnl l1 → (l2.length : Int) = n.toInt → l1 ++ l2 = L → zlg lo 0 = some (.ref 221) → zlg lo 1 = some (.int q) → zlg lo 2 = some (.int w) → zlg lo 3 = some (.int k) → zlg lo 5 = some (.long x) → zlg lo 7 = some (.int n) → zlg lo 8 = some (.long mo) → yR zpg tX12_letter (d + 2) (92, lo, [], mem) (fun r m => m = mem ∧ ∃ v : Int32, r = some (.int v) ∧ ltA Z q.toInt w.toInt k.toInt v.toInt) := by
  have l8 := w_ln h hx
  intro f
  induction f with
  | zero =>
    intro n mo lo l1 l2 hf hmo hn hL a0 a1 a2 a3 a5 a7 a8
    have e1 := List.length_eq_zero_iff.1 (Nat.le_zero.1 hf)
    have hmz : mo.toInt = 0 := by
      rw [hmo, e1]
      rfl
    have ll : l1.length + l2.length = L.length := by
      rw [← hL]
      simp
    exact w_lm_92 hm a0 a1 a2 a3 a5 a7 a8 (by omega) hk
        (fun q1 q2 x3 e4 x5 e6 x7 e8 hm2 => by
          have z0 : (0 : Int64).toInt = 0 := rfl
          have e := (wnl_pos _ l1 rfl (fun c hc => h c (by rw [← hL]; exact List.mem_append_left _ hc))).2 (by have := (wnl_pos _ l1 rfl (fun c hc => h c (by rw [← hL]; exact List.mem_append_left _ hc))).1; omega)
          rw [e, List.nil_append] at hL
          rw [hL] at hn
          exact ⟨rfl, _, rfl, Or.inr ⟨L, hN, hk, m_bit h hx (by omega) (by omega) (by omega) e8⟩⟩)
        (fun q1 q2 hm2 => by
          have z0 : (0 : Int64).toInt = 0 := rfl
          have e := (wnl_pos _ l1 rfl (fun c hc => h c (by rw [← hL]; exact List.mem_append_left _ hc))).2 (by have := (wnl_pos _ l1 rfl (fun c hc => h c (by rw [← hL]; exact List.mem_append_left _ hc))).1; omega)
          rw [e, List.nil_append] at hL
          rw [hL] at hn
          exact ⟨rfl, _, rfl, Or.inr ⟨L, hN, hk, (ltk_0 (by omega)).symm⟩⟩)
        (fun q1 lo a0 a1 a2 a3 a5 a7 a8 hm2 => by exfalso; have z0 : (0 : Int64).toInt = 0 := rfl; omega)
  | succ f ih =>
    intro n mo lo l1 l2 hf hmo hn hL a0 a1 a2 a3 a5 a7 a8
    have ll : l1.length + l2.length = L.length := by
      rw [← hL]
      simp
    exact w_lm_92 hm a0 a1 a2 a3 a5 a7 a8 (by omega) hk
        (fun q1 q2 x3 e4 x5 e6 x7 e8 hm2 => by
          have z0 : (0 : Int64).toInt = 0 := rfl
          have e := (wnl_pos _ l1 rfl (fun c hc => h c (by rw [← hL]; exact List.mem_append_left _ hc))).2 (by have := (wnl_pos _ l1 rfl (fun c hc => h c (by rw [← hL]; exact List.mem_append_left _ hc))).1; omega)
          rw [e, List.nil_append] at hL
          rw [hL] at hn
          exact ⟨rfl, _, rfl, Or.inr ⟨L, hN, hk, m_bit h hx (by omega) (by omega) (by omega) e8⟩⟩)
        (fun q1 q2 hm2 => by
          have z0 : (0 : Int64).toInt = 0 := rfl
          have e := (wnl_pos _ l1 rfl (fun c hc => h c (by rw [← hL]; exact List.mem_append_left _ hc))).2 (by have := (wnl_pos _ l1 rfl (fun c hc => h c (by rw [← hL]; exact List.mem_append_left _ hc))).1; omega)
          rw [e, List.nil_append] at hL
          rw [hL] at hn
          exact ⟨rfl, _, rfl, Or.inr ⟨L, hN, hk, (ltk_0 (by omega)).symm⟩⟩)
        (fun q1 lo a0 a1 a2 a3 a5 a7 a8 hm2 => by
          have z0 : (0 : Int64).toInt = 0 := rfl
          rcases List.eq_nil_or_concat l1 with e | ⟨m, c, e⟩
          · exfalso
            rw [e] at hmo
            have z1 : wnl [] = 0 := rfl
            omega
          · have e : l1 = m ++ [c] := by rw [e]; simp
            subst e
            have lc := h c (by rw [← hL]; exact List.mem_append_left _ (List.mem_append_right _ List.mem_cons_self))
            have c1 := lc.1
            have c2 := lc.2
            refine ih (n + 1) _ lo m (c :: l2) (by simp at hf; omega) ?_ ?_ ?_ a0 a1 a2 a3 a5 a7 a8
            · rw [lsh8 (s := 8) (by decide), hmo, wnl_app]
              show (wnl m * 256 + c) / 256 = wnl m
              omega
            · rw [i32_addc (c := 1) (z := 1) rfl (by omega) (by omega)]
              show ((l2.length + 1 : Nat) : Int) = _
              omega
            · rw [← hL]
              simp)
theorem h_ltm (hm : aTm aT0 mem) (hZ : mQ (gi mem 221 13).toInt Z mem) (hd : 3 ≤ d) : yC zpg d 240 [.ref 221, .int q, .int w, .int k] mem (fun r m => m = mem ∧ ∃ v : Int32, r = some (.int v) ∧ ltA Z q.toInt w.toInt k.toInt v.toInt) := by
  obtain ⟨d, rfl⟩ : ∃ z, d = z + 3 := ⟨d - 3, by omega⟩
  have tq := hZ.2.2.1
  have fq := hZ.2.2.2.2.1
  have t1 := tq.1
  have f1 := fq.1
  refine yC_of (t := tX12_letter) rfl rfl ?_
  exact w_lm_0 hm rfl rfl rfl rfl
        (fun q1 q2 hm2 => ⟨rfl, _, rfl, Or.inl ⟨Or.inl (nmQ_n (by omega) (by omega)), rfl⟩⟩)
        (fun q1 q2 q6 hm2 => ⟨rfl, _, rfl, Or.inl ⟨Or.inl (nmQ_m (by omega)), rfl⟩⟩)
        (fun q1 q2 q6 y10 e11 q12 hm2 => ⟨rfl, _, rfl, Or.inl ⟨Or.inl (nmQ_f0 (by omega) (by omega) (by omega)), rfl⟩⟩)
        (fun q1 q2 q6 y10 e11 q12 q19 hm2 => ⟨rfl, _, rfl, Or.inl ⟨Or.inr (by omega), rfl⟩⟩)
        (fun q1 q2 q6 y10 e11 q12 q19 q20 hm2 => ⟨rfl, _, rfl, Or.inl ⟨Or.inr (by omega), rfl⟩⟩)
        (fun q1 q2 q6 y10 e11 q12 q19 q20 x21 e22 x23 e24 lo a0 a1 a2 a3 a5 a7 a8 hm2 => by
          obtain ⟨x, hx⟩ : ∃ x, (Qf Z)[w.toInt.toNat]? = some x := ⟨_, List.getElem?_eq_getElem (by omega)⟩
          have y := fq.2 _ x hx
          rw [Int.toNat_of_nonneg (by omega)] at y
          exact lm_92 (L := x.1) (Z := Z) hm2 y.2.1 y.1 (nmQ_f (by omega) (by omega) hx) (by omega) x.1.length 0 _ lo x.1 [] (Nat.le_refl _) y.1 rfl (List.append_nil _) a0 a1 a2 a3 a5 a7 a8)
        (fun q1 q34 hm2 => ⟨rfl, _, rfl, Or.inl ⟨Or.inl (nmQ_m (by omega)), rfl⟩⟩)
        (fun q1 q34 y38 e39 q40 hm2 => ⟨rfl, _, rfl, Or.inl ⟨Or.inl (nmQ_t0 (by omega) (by omega) (by omega)), rfl⟩⟩)
        (fun q1 q34 y38 e39 q40 q47 hm2 => ⟨rfl, _, rfl, Or.inl ⟨Or.inr (by omega), rfl⟩⟩)
        (fun q1 q34 y38 e39 q40 q47 q48 hm2 => ⟨rfl, _, rfl, Or.inl ⟨Or.inr (by omega), rfl⟩⟩)
        (fun q1 q34 y38 e39 q40 q47 q48 x49 e50 x51 e52 lo a0 a1 a2 a3 a5 a7 a8 hm2 => by
          obtain ⟨x, hx⟩ : ∃ x, (Qt Z)[w.toInt.toNat]? = some x := ⟨_, List.getElem?_eq_getElem (by omega)⟩
          have y := tq.2 _ x hx
          rw [Int.toNat_of_nonneg (by omega)] at y
          exact lm_92 (L := x.1) (Z := Z) hm2 y.2.1 y.1 (nmQ_t (by omega) (by omega) hx) (by omega) x.1.length 0 _ lo x.1 [] (Nat.le_refl _) y.1 rfl (List.append_nil _) a0 a1 a2 a3 a5 a7 a8)
end LE
