set_option maxRecDepth 100000 in
theorem w_rank {d : Nat} {mem : zM} {P : Option Value → zM → Prop} {x : Int32} (hm : aTm aT0 mem) (h1 : ¬ (x).toInt = 42 → ¬ (x).toInt = 41 → ¬ (x).toInt = 43 → (x).toInt = 38 → aTm aT0 mem → P (some (.int 4)) mem) (h2 : ¬ (x).toInt = 42 → ¬ (x).toInt = 41 → ¬ (x).toInt = 43 → ¬ (x).toInt = 38 → (x).toInt = 39 → aTm aT0 mem → P (some (.int 4)) mem) (h3 : ¬ (x).toInt = 42 → ¬ (x).toInt = 41 → ¬ (x).toInt = 43 → ¬ (x).toInt = 38 → ¬ (x).toInt = 39 → ¬ (x).toInt = 40 → (x).toInt = 31 → aTm aT0 mem → P (some (.int 5)) mem) (h4 : ¬ (x).toInt = 42 → ¬ (x).toInt = 41 → ¬ (x).toInt = 43 → ¬ (x).toInt = 38 → ¬ (x).toInt = 39 → ¬ (x).toInt = 40 → ¬ (x).toInt = 31 → ¬ (x).toInt = 32 → aTm aT0 mem → P (some (.int 6)) mem) (h5 : ¬ (x).toInt = 42 → ¬ (x).toInt = 41 → ¬ (x).toInt = 43 → ¬ (x).toInt = 38 → ¬ (x).toInt = 39 → ¬ (x).toInt = 40 → ¬ (x).toInt = 31 → (x).toInt = 32 → aTm aT0 mem → P (some (.int 5)) mem) (h6 : ¬ (x).toInt = 42 → ¬ (x).toInt = 41 → ¬ (x).toInt = 43 → ¬ (x).toInt = 38 → ¬ (x).toInt = 39 → (x).toInt = 40 → aTm aT0 mem → P (some (.int 4)) mem) (h7 : ¬ (x).toInt = 42 → ¬ (x).toInt = 41 → (x).toInt = 43 → aTm aT0 mem → P (some (.int 3)) mem) (h8 : ¬ (x).toInt = 42 → (x).toInt = 41 → aTm aT0 mem → P (some (.int 2)) mem) (h9 : (x).toInt = 42 → aTm aT0 mem → P (some (.int 1)) mem) : yR zpg tX12_rank d (0, [(0, .int x)], [], mem) P := by
  refine yR_m 2 (fun _ _ _ _ => rfl) ?_
  refine wR_ic_ne rfl (a := (x).toInt) (c := 42) rfl rfl (fun q1 => ?_) (fun q1 => ?_)
  ·
    refine yR_m 2 (fun _ _ _ _ => rfl) ?_
    refine wR_ic_ne rfl (a := (x).toInt) (c := 41) rfl rfl (fun q2 => ?_) (fun q2 => ?_)
    ·
      refine yR_m 2 (fun _ _ _ _ => rfl) ?_
      refine wR_ic_ne rfl (a := (x).toInt) (c := 43) rfl rfl (fun q3 => ?_) (fun q3 => ?_)
      ·
        refine yR_m 2 (fun _ _ _ _ => rfl) ?_
        refine wR_ic_eq rfl (a := (x).toInt) (c := 38) rfl rfl (fun q4 => ?_) (fun q4 => ?_)
        ·
          refine yR_m 2 (fun _ _ _ _ => rfl) ?_
          exact yR_ri rfl (h1 q1 q2 q3 q4 hm)
        ·
          refine yR_m 2 (fun _ _ _ _ => rfl) ?_
          refine wR_ic_eq rfl (a := (x).toInt) (c := 39) rfl rfl (fun q5 => ?_) (fun q5 => ?_)
          ·
            refine yR_m 2 (fun _ _ _ _ => rfl) ?_
            exact yR_ri rfl (h2 q1 q2 q3 q4 q5 hm)
          ·
            refine yR_m 2 (fun _ _ _ _ => rfl) ?_
            refine wR_ic_ne rfl (a := (x).toInt) (c := 40) rfl rfl (fun q6 => ?_) (fun q6 => ?_)
            ·
              refine yR_m 2 (fun _ _ _ _ => rfl) ?_
              refine wR_ic_eq rfl (a := (x).toInt) (c := 31) rfl rfl (fun q7 => ?_) (fun q7 => ?_)
              ·
                refine yR_m 2 (fun _ _ _ _ => rfl) ?_
                exact yR_ri rfl (h3 q1 q2 q3 q4 q5 q6 q7 hm)
              ·
                refine yR_m 2 (fun _ _ _ _ => rfl) ?_
                refine wR_ic_ne rfl (a := (x).toInt) (c := 32) rfl rfl (fun q8 => ?_) (fun q8 => ?_)
                ·
                  refine yR_m 1 (fun _ _ _ _ => rfl) ?_
                  exact yR_ri rfl (h4 q1 q2 q3 q4 q5 q6 q7 q8 hm)
                ·
                  refine yR_m 2 (fun _ _ _ _ => rfl) ?_
                  exact yR_ri rfl (h5 q1 q2 q3 q4 q5 q6 q7 q8 hm)
            ·
              refine yR_m 2 (fun _ _ _ _ => rfl) ?_
              exact yR_ri rfl (h6 q1 q2 q3 q4 q5 q6 hm)
      ·
        refine yR_m 2 (fun _ _ _ _ => rfl) ?_
        exact yR_ri rfl (h7 q1 q2 q3 hm)
    ·
      refine yR_m 2 (fun _ _ _ _ => rfl) ?_
      exact yR_ri rfl (h8 q1 q2 hm)
  ·
    refine yR_m 2 (fun _ _ _ _ => rfl) ?_
    exact yR_ri rfl (h9 q1 hm)

set_option maxRecDepth 100000 in
theorem w_isTest {d : Nat} {mem : zM} {P : Option Value → zM → Prop} {x : Int32} (hm : aTm aT0 mem) (h1 : (x).toInt = 1 → aTm aT0 mem → P (some (.int 1)) mem) (h2 : ¬ (x).toInt = 1 → (x).toInt = 5 → aTm aT0 mem → P (some (.int 1)) mem) (h3 : ¬ (x).toInt = 1 → ¬ (x).toInt = 5 → ¬ (x).toInt = 6 → aTm aT0 mem → P (some (.int 0)) mem) (h4 : ¬ (x).toInt = 1 → ¬ (x).toInt = 5 → (x).toInt = 6 → aTm aT0 mem → P (some (.int 1)) mem) : yR zpg tX12_isTest d (0, [(0, .int x)], [], mem) P := by
  refine yR_m 2 (fun _ _ _ _ => rfl) ?_
  refine wR_ic_eq rfl (a := (x).toInt) (c := 1) rfl rfl (fun q1 => ?_) (fun q1 => ?_)
  ·
    refine yR_m 2 (fun _ _ _ _ => rfl) ?_
    exact yR_rz rfl ⟨by decide, by decide⟩ (h1 q1 hm)
  ·
    refine yR_m 2 (fun _ _ _ _ => rfl) ?_
    refine wR_ic_eq rfl (a := (x).toInt) (c := 5) rfl rfl (fun q2 => ?_) (fun q2 => ?_)
    ·
      refine yR_m 2 (fun _ _ _ _ => rfl) ?_
      exact yR_rz rfl ⟨by decide, by decide⟩ (h2 q1 q2 hm)
    ·
      refine yR_m 2 (fun _ _ _ _ => rfl) ?_
      refine wR_ic_ne rfl (a := (x).toInt) (c := 6) rfl rfl (fun q3 => ?_) (fun q3 => ?_)
      ·
        refine yR_m 1 (fun _ _ _ _ => rfl) ?_
        exact yR_rz rfl ⟨by decide, by decide⟩ (h3 q1 q2 q3 hm)
      ·
        refine yR_m 2 (fun _ _ _ _ => rfl) ?_
        exact yR_rz rfl ⟨by decide, by decide⟩ (h4 q1 q2 q3 hm)

set_option maxRecDepth 100000 in
theorem w_wd_0 {E : zM → Prop} (hE : aEs (aΘ0 E)) {d : Nat} {m0 mem : zM} {P : Option Value → zM → Prop} {v t f : Int32} {lo : List (Nat × Value)} (hm : wI (aΘ0 E) m0 mem) (l_0 : zlg lo 0 = some (.ref 221)) (l_1 : zlg lo 1 = some (.int v)) (l_2 : zlg lo 2 = some (.int t)) (l_3 : zlg lo 3 = some (.int f)) (s1 : (0 : Int) ≤ (v).toInt ∧ (v).toInt < 22) (h1 : ¬ (gx (ga mem 253) v).toInt = 40 → ∀ lo, zlg lo 0 = some (.ref 221) → zlg lo 1 = some (.int v) → zlg lo 2 = some (.int t) → zlg lo 3 = some (.int f) → wI (aΘ0 E) m0 mem → yR zpg tX12_writesDown d (63, lo, [], mem) P) (h2 : (gx (ga mem 253) v).toInt = 40 → ∀ lo, zlg lo 0 = some (.ref 221) → zlg lo 1 = some (.int v) → zlg lo 2 = some (.int t) → zlg lo 3 = some (.int f) → zlg lo 4 = some (.int (120 * v)) → wI (aΘ0 E) m0 mem → yR zpg tX12_writesDown d (17, lo, [], mem) P) : yR zpg tX12_writesDown d (0, lo, [], mem) P := by
  refine wR_la rfl l_0 ?_
  refine wR_gr rfl mO_e mO_52 hm.1.1 ?_
  refine wR_li rfl l_1 ?_
  refine wR_al rfl aR_253 hm.1.1 rfl s1 ?_
  refine yR_m 1 (fun _ _ _ _ => rfl) ?_
  refine wR_ic_ne rfl (a := (gx (ga mem 253) v).toInt) (c := 40) rfl rfl (fun q1 => ?_) (fun q1 => ?_)
  ·
    exact h1 q1 lo l_0 l_1 l_2 l_3 hm
  ·
    refine yR_m 1 (fun _ _ _ _ => rfl) ?_
    refine wR_li rfl l_1 ?_
    refine yR_m 1 (fun _ _ _ _ => rfl) ?_
    refine wR_si rfl rfl (fun lo2 e3 f4 => ?_)
    have lo2_0 := f4 0 _ (by decide) (Or.inl rfl) l_0
    have lo2_1 := f4 1 _ (by decide) (Or.inl rfl) l_1
    have lo2_2 := f4 2 _ (by decide) (Or.inl rfl) l_2
    have lo2_3 := f4 3 _ (by decide) (Or.inl rfl) l_3
    exact h2 q1 lo2 lo2_0 lo2_1 lo2_2 lo2_3 e3 hm

set_option maxRecDepth 100000 in
theorem w_wd_17 {E : zM → Prop} (hE : aEs (aΘ0 E)) {d : Nat} {m0 mem : zM} {P : Option Value → zM → Prop} {v t f k : Int32} {lo : List (Nat × Value)} (hm : wI (aΘ0 E) m0 mem) (l_0 : zlg lo 0 = some (.ref 221)) (l_1 : zlg lo 1 = some (.int v)) (l_2 : zlg lo 2 = some (.int t)) (l_3 : zlg lo 3 = some (.int f)) (l_4 : zlg lo 4 = some (.int k)) (s1 : (((120 * v) + 120) - 3).toInt ≤ (k).toInt → (0 : Int) ≤ (v).toInt ∧ (v).toInt < 22) (s2 : (((120 * v) + 120) - 3).toInt ≤ (k).toInt → (0 : Int) ≤ (((gx (ga mem 253) v) - 1)).toInt ∧ (((gx (ga mem 253) v) - 1)).toInt ≤ 40) (h1 : (((120 * v) + 120) - 3).toInt ≤ (k).toInt → ∀ lo, zlg lo 0 = some (.ref 221) → zlg lo 1 = some (.int v) → zlg lo 2 = some (.int t) → zlg lo 3 = some (.int f) → wI (aΘ0 E) m0 (sx mem 253 v ((gx (ga mem 253) v) - 1)) → yR zpg tX12_writesDown d (63, lo, [], (sx mem 253 v ((gx (ga mem 253) v) - 1))) P) (s3 : (k).toInt < (((120 * v) + 120) - 3).toInt → (0 : Int) ≤ ((k + 3)).toInt ∧ ((k + 3)).toInt < 2640) (s4 : (k).toInt < (((120 * v) + 120) - 3).toInt → (0 : Int) ≤ (k).toInt ∧ (k).toInt < 2640) (h2 : (k).toInt < (((120 * v) + 120) - 3).toInt → ∀ lo, zlg lo 0 = some (.ref 221) → zlg lo 1 = some (.int v) → zlg lo 2 = some (.int t) → zlg lo 3 = some (.int f) → zlg lo 4 = some (.int (k + 1)) → wI (aΘ0 E) m0 (sx mem 254 k (gx (ga mem 254) (k + 3))) → yR zpg tX12_writesDown d (17, lo, [], (sx mem 254 k (gx (ga mem 254) (k + 3)))) P) : yR zpg tX12_writesDown d (17, lo, [], mem) P := by
  refine wR_li rfl l_4 ?_
  refine yR_m 1 (fun _ _ _ _ => rfl) ?_
  refine wR_li rfl l_1 ?_
  refine yR_m 5 (fun _ _ _ _ => rfl) ?_
  refine wR_ic_ge rfl (a := (k).toInt) (c := (((120 * v) + 120) - 3).toInt) rfl rfl (fun q1 => ?_) (fun q1 => ?_)
  ·
    refine wR_la rfl l_0 ?_
    refine wR_gr rfl mO_e mO_52 hm.1.1 ?_
    refine wR_li rfl l_1 ?_
    refine yR_m 1 (fun _ _ _ _ => rfl) ?_
    refine wR_al rfl aR_253 hm.1.1 rfl (s1 q1) ?_
    refine yR_m 2 (fun _ _ _ _ => rfl) ?_
    refine wR_as rfl aR_253 hm.1.1 (s1 q1) ?_
    have hm_1 : wI (aΘ0 E) m0 (sx mem 253 v ((gx (ga mem 253) v) - 1)) := wI_sa hE aR_253 hm (s2 q1)
    exact h1 q1 lo l_0 l_1 l_2 l_3 hm_1
  ·
    refine wR_la rfl l_0 ?_
    refine wR_gr rfl mO_e mO_53 hm.1.1 ?_
    refine wR_li rfl l_4 ?_
    refine wR_la rfl l_0 ?_
    refine wR_gr rfl mO_e mO_53 hm.1.1 ?_
    refine wR_li rfl l_4 ?_
    refine yR_m 2 (fun _ _ _ _ => rfl) ?_
    refine wR_al rfl aR_254 hm.1.1 rfl (s3 q1) ?_
    refine wR_as rfl aR_254 hm.1.1 (s4 q1) ?_
    have hm_2 : wI (aΘ0 E) m0 (sx mem 254 k (gx (ga mem 254) (k + 3))) := wI_sa hE aR_254 hm (i32_b _)
    refine wR_in rfl rfl l_4 (fun lo2 e3 f4 => ?_)
    have lo2_0 := f4 0 _ (by decide) (Or.inl rfl) l_0
    have lo2_1 := f4 1 _ (by decide) (Or.inl rfl) l_1
    have lo2_2 := f4 2 _ (by decide) (Or.inl rfl) l_2
    have lo2_3 := f4 3 _ (by decide) (Or.inl rfl) l_3
    exact yR_m 1 (fun _ _ _ _ => rfl) (h2 q1 lo2 lo2_0 lo2_1 lo2_2 lo2_3 e3 hm_2)

set_option maxRecDepth 100000 in
theorem w_wd_63 {E : zM → Prop} (hE : aEs (aΘ0 E)) {d : Nat} {m0 mem : zM} {P : Option Value → zM → Prop} {v t f : Int32} {lo : List (Nat × Value)} (hm : wI (aΘ0 E) m0 mem) (l_0 : zlg lo 0 = some (.ref 221)) (l_1 : zlg lo 1 = some (.int v)) (l_2 : zlg lo 2 = some (.int t)) (l_3 : zlg lo 3 = some (.int f)) (s1 : (0 : Int) ≤ (v).toInt ∧ (v).toInt < 22) (s2 : (0 : Int) ≤ ((3 * ((40 * v) + (gx (ga mem 253) v)))).toInt ∧ ((3 * ((40 * v) + (gx (ga mem 253) v)))).toInt < 2640) (s3 : (0 : Int) ≤ (((3 * ((40 * v) + (gx (ga mem 253) v))) + 1)).toInt ∧ (((3 * ((40 * v) + (gx (ga mem 253) v))) + 1)).toInt < 2640) (s4 : (0 : Int) ≤ (((3 * ((40 * v) + (gx (ga mem 253) v))) + 2)).toInt ∧ (((3 * ((40 * v) + (gx (ga mem 253) v))) + 2)).toInt < 2640) (s5 : (0 : Int) ≤ (((gx (ga mem 253) v) + 1)).toInt ∧ (((gx (ga mem 253) v) + 1)).toInt ≤ 40) (h1 : wI (aΘ0 E) m0 (sx (sx (sx (sx mem 254 (3 * ((40 * v) + (gx (ga mem 253) v))) (gx (ga mem 249) v)) 254 ((3 * ((40 * v) + (gx (ga mem 253) v))) + 1) t) 254 ((3 * ((40 * v) + (gx (ga mem 253) v))) + 2) f) 253 v ((gx (ga mem 253) v) + 1)) → P none (sx (sx (sx (sx mem 254 (3 * ((40 * v) + (gx (ga mem 253) v))) (gx (ga mem 249) v)) 254 ((3 * ((40 * v) + (gx (ga mem 253) v))) + 1) t) 254 ((3 * ((40 * v) + (gx (ga mem 253) v))) + 2) f) 253 v ((gx (ga mem 253) v) + 1))) : yR zpg tX12_writesDown d (63, lo, [], mem) P := by
  refine yR_m 2 (fun _ _ _ _ => rfl) ?_
  refine wR_li rfl l_1 ?_
  refine yR_m 1 (fun _ _ _ _ => rfl) ?_
  refine wR_la rfl l_0 ?_
  refine wR_gr rfl mO_e mO_52 hm.1.1 ?_
  refine wR_li rfl l_1 ?_
  refine wR_al rfl aR_253 hm.1.1 rfl s1 ?_
  refine yR_m 2 (fun _ _ _ _ => rfl) ?_
  refine wR_si rfl rfl (fun lo1 e2 f3 => ?_)
  have lo1_0 := f3 0 _ (by decide) (Or.inl rfl) l_0
  have lo1_1 := f3 1 _ (by decide) (Or.inl rfl) l_1
  have lo1_2 := f3 2 _ (by decide) (Or.inl rfl) l_2
  have lo1_3 := f3 3 _ (by decide) (Or.inl rfl) l_3
  refine wR_la rfl lo1_0 ?_
  refine wR_gr rfl mO_e mO_53 hm.1.1 ?_
  refine wR_li rfl e2 ?_
  refine wR_la rfl lo1_0 ?_
  refine wR_gr rfl mO_e mO_48 hm.1.1 ?_
  refine wR_li rfl lo1_1 ?_
  refine wR_al rfl aR_249 hm.1.1 rfl s1 ?_
  refine wR_as rfl aR_254 hm.1.1 s2 ?_
  have hm_1 : wI (aΘ0 E) m0 (sx mem 254 (3 * ((40 * v) + (gx (ga mem 253) v))) (gx (ga mem 249) v)) := wI_sa hE aR_254 hm (i32_b _)
  refine wR_la rfl lo1_0 ?_
  refine wR_gr rfl mO_e mO_53 hm_1.1.1 ?_
  refine wR_li rfl e2 ?_
  refine yR_m 2 (fun _ _ _ _ => rfl) ?_
  refine wR_li rfl lo1_2 ?_
  refine wR_as rfl aR_254 hm_1.1.1 s3 ?_
  have hm_2 : wI (aΘ0 E) m0 (sx (sx mem 254 (3 * ((40 * v) + (gx (ga mem 253) v))) (gx (ga mem 249) v)) 254 ((3 * ((40 * v) + (gx (ga mem 253) v))) + 1) t) := wI_sa hE aR_254 hm_1 (i32_b _)
  refine wR_la rfl lo1_0 ?_
  refine wR_gr rfl mO_e mO_53 hm_2.1.1 ?_
  refine wR_li rfl e2 ?_
  refine yR_m 2 (fun _ _ _ _ => rfl) ?_
  refine wR_li rfl lo1_3 ?_
  refine wR_as rfl aR_254 hm_2.1.1 s4 ?_
  have hm_3 : wI (aΘ0 E) m0 (sx (sx (sx mem 254 (3 * ((40 * v) + (gx (ga mem 253) v))) (gx (ga mem 249) v)) 254 ((3 * ((40 * v) + (gx (ga mem 253) v))) + 1) t) 254 ((3 * ((40 * v) + (gx (ga mem 253) v))) + 2) f) := wI_sa hE aR_254 hm_2 (i32_b _)
  refine wR_la rfl lo1_0 ?_
  refine wR_gr rfl mO_e mO_52 hm_3.1.1 ?_
  refine wR_li rfl lo1_1 ?_
  refine yR_m 1 (fun _ _ _ _ => rfl) ?_
  refine wR_al rfl aR_253 hm_3.1.1 ((ga_sa_ne (by decide)).trans ((ga_sa_ne (by decide)).trans (ga_sa_ne (by decide)))) s1 ?_
  refine yR_m 2 (fun _ _ _ _ => rfl) ?_
  refine wR_as rfl aR_253 hm_3.1.1 s1 ?_
  have hm_4 : wI (aΘ0 E) m0 (sx (sx (sx (sx mem 254 (3 * ((40 * v) + (gx (ga mem 253) v))) (gx (ga mem 249) v)) 254 ((3 * ((40 * v) + (gx (ga mem 253) v))) + 1) t) 254 ((3 * ((40 * v) + (gx (ga mem 253) v))) + 2) f) 253 v ((gx (ga mem 253) v) + 1)) := wI_sa hE aR_253 hm_3 s5
  exact yR_rv rfl (h1 hm_4)

