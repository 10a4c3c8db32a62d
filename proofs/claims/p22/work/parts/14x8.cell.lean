/-! the model's cells -/
section CF
variable {d : Nat} {mr mem : zM} {T : List Int32} {n p e : Int} {t : Tk} {s : Option Int} {b : Int} {Q : Qd}
def iwQ (m : zM) (c v : Int) : Prop := (v = 0 ∧ (∀ i, 0 ≤ i → i < gn (ga m 228) (gi m 221 34).toInt → ¬ gn (ga m 229) (9 * (gi m 221 34).toInt + i) = c) ∧ ∀ i, 0 ≤ i → i < gn (ga m 233) (gi m 221 34).toInt → ¬ gn (ga m 234) (6 * (gi m 221 34).toInt + i) = c ∧ ¬ gn (ga m 235) (6 * (gi m 221 34).toInt + i) = c) ∨ (v = 1 ∧ ((∃ i, 0 ≤ i ∧ i < gn (ga m 228) (gi m 221 34).toInt ∧ gn (ga m 229) (9 * (gi m 221 34).toInt + i) = c) ∨ ∃ i, 0 ≤ i ∧ i < gn (ga m 233) (gi m 221 34).toInt ∧ (gn (ga m 234) (6 * (gi m 221 34).toInt + i) = c ∨ gn (ga m 235) (6 * (gi m 221 34).toInt + i) = c)))
set_option maxRecDepth 100000 in
theorem w_iwF_43 {d : Nat} {mem : zM} {P : Option Value → zM → Prop} {c k : Int32} {lo : List (Nat × Value)} (hm : aTm aT0 mem) (l_0 : zlg lo 0 = some (.ref 221)) (l_1 : zlg lo 1 = some (.int c)) (l_2 : zlg lo 2 = some (.int k)) (hk : 0 ≤ k.toInt ∧ k.toInt ≤ 6) (h1 : ∀ (y1 : Int32), y1.toInt = (gn (ga mem 233) (gi mem 221 34).toInt) → (gn (ga mem 233) (gi mem 221 34).toInt) ≤ (k).toInt → aTm aT0 mem → P (some (.int 0)) mem) (h2 : ∀ (y1 : Int32), y1.toInt = (gn (ga mem 233) (gi mem 221 34).toInt) → (k).toInt < (gn (ga mem 233) (gi mem 221 34).toInt) → ∀ (x4 : Int32), x4.toInt = (6 * (gi mem 221 34).toInt) → ∀ (x6 : Int32), x6.toInt = ((6 * (gi mem 221 34).toInt) + (k).toInt) → ∀ (y8 : Int32), y8.toInt = (gn (ga mem 234) ((6 * (gi mem 221 34).toInt) + (k).toInt)) → (gn (ga mem 234) ((6 * (gi mem 221 34).toInt) + (k).toInt)) = (c).toInt → aTm aT0 mem → P (some (.int 1)) mem) (h3 : ∀ (y1 : Int32), y1.toInt = (gn (ga mem 233) (gi mem 221 34).toInt) → (k).toInt < (gn (ga mem 233) (gi mem 221 34).toInt) → ∀ (x4 : Int32), x4.toInt = (6 * (gi mem 221 34).toInt) → ∀ (x6 : Int32), x6.toInt = ((6 * (gi mem 221 34).toInt) + (k).toInt) → ∀ (y8 : Int32), y8.toInt = (gn (ga mem 234) ((6 * (gi mem 221 34).toInt) + (k).toInt)) → ¬ (gn (ga mem 234) ((6 * (gi mem 221 34).toInt) + (k).toInt)) = (c).toInt → ∀ (x11 : Int32), x11.toInt = (6 * (gi mem 221 34).toInt) → ∀ (x13 : Int32), x13.toInt = ((6 * (gi mem 221 34).toInt) + (k).toInt) → ∀ (y15 : Int32), y15.toInt = (gn (ga mem 235) ((6 * (gi mem 221 34).toInt) + (k).toInt)) → ¬ (gn (ga mem 235) ((6 * (gi mem 221 34).toInt) + (k).toInt)) = (c).toInt → ∀ (x18 : Int32), x18.toInt = ((k).toInt + 1) → ∀ lo, zlg lo 0 = some (.ref 221) → zlg lo 1 = some (.int c) → zlg lo 2 = some (.int x18) → aTm aT0 mem → yR zpg tX12_isInTheWay d (43, lo, [], mem) P) (h4 : ∀ (y1 : Int32), y1.toInt = (gn (ga mem 233) (gi mem 221 34).toInt) → (k).toInt < (gn (ga mem 233) (gi mem 221 34).toInt) → ∀ (x4 : Int32), x4.toInt = (6 * (gi mem 221 34).toInt) → ∀ (x6 : Int32), x6.toInt = ((6 * (gi mem 221 34).toInt) + (k).toInt) → ∀ (y8 : Int32), y8.toInt = (gn (ga mem 234) ((6 * (gi mem 221 34).toInt) + (k).toInt)) → ¬ (gn (ga mem 234) ((6 * (gi mem 221 34).toInt) + (k).toInt)) = (c).toInt → ∀ (x11 : Int32), x11.toInt = (6 * (gi mem 221 34).toInt) → ∀ (x13 : Int32), x13.toInt = ((6 * (gi mem 221 34).toInt) + (k).toInt) → ∀ (y15 : Int32), y15.toInt = (gn (ga mem 235) ((6 * (gi mem 221 34).toInt) + (k).toInt)) → (gn (ga mem 235) ((6 * (gi mem 221 34).toInt) + (k).toInt)) = (c).toInt → aTm aT0 mem → P (some (.int 1)) mem) : yR zpg tX12_isInTheWay d (43, lo, [], mem) P := by
  obtain ⟨i0, i1⟩ := mO_r34 hm
  have fh := gR_233 hm (i := (gi mem 221 34).toInt) i0 (by omega)
  refine wR_li rfl l_2 ?_
  refine wR_la rfl l_0 ?_
  refine wR_gr rfl mO_e mO_24 hm ?_
  refine wR_la rfl l_0 ?_
  refine wR_gi rfl mO_e mO_34 hm rfl ?_
  refine wN_al (a := (gi mem 221 34).toInt) rfl aR_233 hm rfl rfl (by omega) (fun y1 e2 => ?_)
  refine wR_ic_ge rfl (a := (k).toInt) (c := (gn (ga mem 233) (gi mem 221 34).toInt)) rfl e2 (fun q3 => ?_) (fun q3 => ?_)
  ·
    refine yR_m 1 (fun _ _ _ _ => rfl) ?_
    exact yR_rz rfl ⟨by decide, by decide⟩ (h1 y1 e2 q3 hm)
  ·
    refine wR_la rfl l_0 ?_
    refine wR_gr rfl mO_e mO_25 hm ?_
    refine yR_m 1 (fun _ _ _ _ => rfl) ?_
    refine wR_la rfl l_0 ?_
    refine wR_gi rfl mO_e mO_34 hm rfl ?_
    refine wN_mul (a := 6) (b := (gi mem 221 34).toInt) rfl rfl rfl (by omega) (fun x4 e5 => ?_)
    refine wR_li rfl l_2 ?_
    refine wN_add (a := (6 * (gi mem 221 34).toInt)) (b := (k).toInt) rfl e5 rfl (by omega) (fun x6 e7 => ?_)
    refine wN_al (a := ((6 * (gi mem 221 34).toInt) + (k).toInt)) rfl aR_234 hm rfl e7 (by omega) (fun y8 e9 => ?_)
    refine wR_li rfl l_1 ?_
    refine wR_ic_eq rfl (a := (gn (ga mem 234) ((6 * (gi mem 221 34).toInt) + (k).toInt))) (c := (c).toInt) e9 rfl (fun q10 => ?_) (fun q10 => ?_)
    ·
      refine yR_m 1 (fun _ _ _ _ => rfl) ?_
      exact yR_rz rfl ⟨by decide, by decide⟩ (h2 y1 e2 q3 x4 e5 x6 e7 y8 e9 q10 hm)
    ·
      refine wR_la rfl l_0 ?_
      refine wR_gr rfl mO_e mO_26 hm ?_
      refine yR_m 1 (fun _ _ _ _ => rfl) ?_
      refine wR_la rfl l_0 ?_
      refine wR_gi rfl mO_e mO_34 hm rfl ?_
      refine wN_mul (a := 6) (b := (gi mem 221 34).toInt) rfl rfl rfl (by omega) (fun x11 e12 => ?_)
      refine wR_li rfl l_2 ?_
      refine wN_add (a := (6 * (gi mem 221 34).toInt)) (b := (k).toInt) rfl e12 rfl (by omega) (fun x13 e14 => ?_)
      refine wN_al (a := ((6 * (gi mem 221 34).toInt) + (k).toInt)) rfl aR_235 hm rfl e14 (by omega) (fun y15 e16 => ?_)
      refine wR_li rfl l_1 ?_
      refine wR_ic_ne rfl (a := (gn (ga mem 235) ((6 * (gi mem 221 34).toInt) + (k).toInt))) (c := (c).toInt) e16 rfl (fun q17 => ?_) (fun q17 => ?_)
      ·
        refine wN_in (a := (k).toInt) (b := 1) rfl rfl l_2 rfl rfl (by omega) (fun x18 e19 => fun lo20 e21 f22 => ?_)
        have lo20_0 := f22 0 _ (by decide) (Or.inl rfl) l_0
        have lo20_1 := f22 1 _ (by decide) (Or.inl rfl) l_1
        exact yR_m 1 (fun _ _ _ _ => rfl) (h3 y1 e2 q3 x4 e5 x6 e7 y8 e9 q10 x11 e12 x13 e14 y15 e16 q17 x18 e19 lo20 lo20_0 lo20_1 e21 hm)
      ·
        refine yR_m 1 (fun _ _ _ _ => rfl) ?_
        exact yR_rz rfl ⟨by decide, by decide⟩ (h4 y1 e2 q3 x4 e5 x6 e7 y8 e9 q10 x11 e12 x13 e14 y15 e16 q17 hm)

theorem iwF_43 {c : Int32} (hm : aTm aT0 mem) (hA : ∀ i, 0 ≤ i → i < gn (ga mem 228) (gi mem 221 34).toInt → ¬ gn (ga mem 229) (9 * (gi mem 221 34).toInt + i) = c.toInt) : ∀ (f : Nat) (k : Int32) (lo : List (Nat × Value)), gn (ga mem 233) (gi mem 221 34).toInt ≤ k.toInt + (f : Int) → 0 ≤ k.toInt → k.toInt ≤ 6 → (∀ i, 0 ≤ i → i < k.toInt → ¬ gn (ga mem 234) (6 * (gi mem 221 34).toInt + i) = c.toInt ∧ ¬ gn (ga mem 235) (6 * (gi mem 221 34).toInt + i) = c.toInt) → zlg lo 0 = some (.ref 221) → zlg lo 1 = some (.int c) → zlg lo 2 = some (.int k) → yR zpg tX12_isInTheWay d (43, lo, [], mem) (fun r m => ∃ v : Int32, r = some (.int v) ∧ mem = m ∧ iwQ mem c.toInt v.toInt) := by
  have fh := gR_233 hm (i := (gi mem 221 34).toInt) (mO_r34 hm).1 (by have := (mO_r34 hm).2; omega)
  intro f
  induction f with
  | zero =>
    intro k lo hf h0 h9 hB a0 a1 a2
    exact w_iwF_43 hm a0 a1 a2 ⟨h0, h9⟩
        (fun y1 e2 q3 hm => ⟨_, rfl, rfl, Or.inl ⟨rfl, hA, fun i i0 i1 => hB i i0 (by omega)⟩⟩)
        (fun y1 e2 q3 x4 e5 x6 e7 y8 e9 q10 hm => ⟨_, rfl, rfl, Or.inr ⟨rfl, Or.inr ⟨k.toInt, by omega, by omega, Or.inl q10⟩⟩⟩)
        (fun y1 e2 q3 x4 e5 x6 e7 y8 e9 q10 x11 e12 x13 e14 y15 e16 q17 x18 e19 lo a0 a1 a2 hm => by exfalso; omega)
        (fun y1 e2 q3 x4 e5 x6 e7 y8 e9 q10 x11 e12 x13 e14 y15 e16 q17 hm => ⟨_, rfl, rfl, Or.inr ⟨rfl, Or.inr ⟨k.toInt, by omega, by omega, Or.inr q17⟩⟩⟩)
  | succ f ih =>
    intro k lo hf h0 h9 hB a0 a1 a2
    exact w_iwF_43 hm a0 a1 a2 ⟨h0, h9⟩
        (fun y1 e2 q3 hm => ⟨_, rfl, rfl, Or.inl ⟨rfl, hA, fun i i0 i1 => hB i i0 (by omega)⟩⟩)
        (fun y1 e2 q3 x4 e5 x6 e7 y8 e9 q10 hm => ⟨_, rfl, rfl, Or.inr ⟨rfl, Or.inr ⟨k.toInt, by omega, by omega, Or.inl q10⟩⟩⟩)
        (fun y1 e2 q3 x4 e5 x6 e7 y8 e9 q10 x11 e12 x13 e14 y15 e16 q17 x18 e19 lo a0 a1 a2 hm => ih _ lo (by omega) (by omega) (by omega) (fun i i0 i1 => by
          by_cases e : i = k.toInt
          · rw [e]; exact ⟨q10, q17⟩
          · exact hB i i0 (by omega)) a0 a1 a2)
        (fun y1 e2 q3 x4 e5 x6 e7 y8 e9 q10 x11 e12 x13 e14 y15 e16 q17 hm => ⟨_, rfl, rfl, Or.inr ⟨rfl, Or.inr ⟨k.toInt, by omega, by omega, Or.inr q17⟩⟩⟩)
set_option maxRecDepth 100000 in
theorem w_iwF_2 {d : Nat} {mem : zM} {P : Option Value → zM → Prop} {c k : Int32} {lo : List (Nat × Value)} (hm : aTm aT0 mem) (l_0 : zlg lo 0 = some (.ref 221)) (l_1 : zlg lo 1 = some (.int c)) (l_2 : zlg lo 2 = some (.int k)) (hk : 0 ≤ k.toInt ∧ k.toInt ≤ 9) (h1 : ∀ (y1 : Int32), y1.toInt = (gn (ga mem 228) (gi mem 221 34).toInt) → (gn (ga mem 228) (gi mem 221 34).toInt) ≤ (k).toInt → ∀ lo, zlg lo 0 = some (.ref 221) → zlg lo 1 = some (.int c) → zlg lo 2 = some (.int 0) → aTm aT0 mem → yR zpg tX12_isInTheWay d (43, lo, [], mem) P) (h2 : ∀ (y1 : Int32), y1.toInt = (gn (ga mem 228) (gi mem 221 34).toInt) → (k).toInt < (gn (ga mem 228) (gi mem 221 34).toInt) → ∀ (x7 : Int32), x7.toInt = (9 * (gi mem 221 34).toInt) → ∀ (x9 : Int32), x9.toInt = ((9 * (gi mem 221 34).toInt) + (k).toInt) → ∀ (y11 : Int32), y11.toInt = (gn (ga mem 229) ((9 * (gi mem 221 34).toInt) + (k).toInt)) → ¬ (gn (ga mem 229) ((9 * (gi mem 221 34).toInt) + (k).toInt)) = (c).toInt → ∀ (x14 : Int32), x14.toInt = ((k).toInt + 1) → ∀ lo, zlg lo 0 = some (.ref 221) → zlg lo 1 = some (.int c) → zlg lo 2 = some (.int x14) → aTm aT0 mem → yR zpg tX12_isInTheWay d (2, lo, [], mem) P) (h3 : ∀ (y1 : Int32), y1.toInt = (gn (ga mem 228) (gi mem 221 34).toInt) → (k).toInt < (gn (ga mem 228) (gi mem 221 34).toInt) → ∀ (x7 : Int32), x7.toInt = (9 * (gi mem 221 34).toInt) → ∀ (x9 : Int32), x9.toInt = ((9 * (gi mem 221 34).toInt) + (k).toInt) → ∀ (y11 : Int32), y11.toInt = (gn (ga mem 229) ((9 * (gi mem 221 34).toInt) + (k).toInt)) → (gn (ga mem 229) ((9 * (gi mem 221 34).toInt) + (k).toInt)) = (c).toInt → aTm aT0 mem → P (some (.int 1)) mem) : yR zpg tX12_isInTheWay d (2, lo, [], mem) P := by
  obtain ⟨i0, i1⟩ := mO_r34 hm
  have th := gR_228 hm (i := (gi mem 221 34).toInt) i0 (by omega)
  refine wR_li rfl l_2 ?_
  refine wR_la rfl l_0 ?_
  refine wR_gr rfl mO_e mO_19 hm ?_
  refine wR_la rfl l_0 ?_
  refine wR_gi rfl mO_e mO_34 hm rfl ?_
  refine wN_al (a := (gi mem 221 34).toInt) rfl aR_228 hm rfl rfl (by omega) (fun y1 e2 => ?_)
  refine wR_ic_ge rfl (a := (k).toInt) (c := (gn (ga mem 228) (gi mem 221 34).toInt)) rfl e2 (fun q3 => ?_) (fun q3 => ?_)
  ·
    refine yR_m 1 (fun _ _ _ _ => rfl) ?_
    refine wR_si rfl rfl (fun lo4 e5 f6 => ?_)
    have lo4_0 := f6 0 _ (by decide) (Or.inl rfl) l_0
    have lo4_1 := f6 1 _ (by decide) (Or.inl rfl) l_1
    exact h1 y1 e2 q3 lo4 lo4_0 lo4_1 e5 hm
  ·
    refine wR_la rfl l_0 ?_
    refine wR_gr rfl mO_e mO_20 hm ?_
    refine yR_m 1 (fun _ _ _ _ => rfl) ?_
    refine wR_la rfl l_0 ?_
    refine wR_gi rfl mO_e mO_34 hm rfl ?_
    refine wN_mul (a := 9) (b := (gi mem 221 34).toInt) rfl rfl rfl (by omega) (fun x7 e8 => ?_)
    refine wR_li rfl l_2 ?_
    refine wN_add (a := (9 * (gi mem 221 34).toInt)) (b := (k).toInt) rfl e8 rfl (by omega) (fun x9 e10 => ?_)
    refine wN_al (a := ((9 * (gi mem 221 34).toInt) + (k).toInt)) rfl aR_229 hm rfl e10 (by omega) (fun y11 e12 => ?_)
    refine wR_li rfl l_1 ?_
    refine wR_ic_ne rfl (a := (gn (ga mem 229) ((9 * (gi mem 221 34).toInt) + (k).toInt))) (c := (c).toInt) e12 rfl (fun q13 => ?_) (fun q13 => ?_)
    ·
      refine wN_in (a := (k).toInt) (b := 1) rfl rfl l_2 rfl rfl (by omega) (fun x14 e15 => fun lo16 e17 f18 => ?_)
      have lo16_0 := f18 0 _ (by decide) (Or.inl rfl) l_0
      have lo16_1 := f18 1 _ (by decide) (Or.inl rfl) l_1
      exact yR_m 1 (fun _ _ _ _ => rfl) (h2 y1 e2 q3 x7 e8 x9 e10 y11 e12 q13 x14 e15 lo16 lo16_0 lo16_1 e17 hm)
    ·
      refine yR_m 1 (fun _ _ _ _ => rfl) ?_
      exact yR_rz rfl ⟨by decide, by decide⟩ (h3 y1 e2 q3 x7 e8 x9 e10 y11 e12 q13 hm)

theorem iwF_2 {c : Int32} (hm : aTm aT0 mem) : ∀ (f : Nat) (k : Int32) (lo : List (Nat × Value)), gn (ga mem 228) (gi mem 221 34).toInt ≤ k.toInt + (f : Int) → 0 ≤ k.toInt → k.toInt ≤ 9 → (∀ i, 0 ≤ i → i < k.toInt → ¬ gn (ga mem 229) (9 * (gi mem 221 34).toInt + i) = c.toInt) → zlg lo 0 = some (.ref 221) → zlg lo 1 = some (.int c) → zlg lo 2 = some (.int k) → yR zpg tX12_isInTheWay d (2, lo, [], mem) (fun r m => ∃ v : Int32, r = some (.int v) ∧ mem = m ∧ iwQ mem c.toInt v.toInt) := by
  have th := gR_228 hm (i := (gi mem 221 34).toInt) (mO_r34 hm).1 (by have := (mO_r34 hm).2; omega)
  have fh := gR_233 hm (i := (gi mem 221 34).toInt) (mO_r34 hm).1 (by have := (mO_r34 hm).2; omega)
  intro f
  induction f with
  | zero =>
    intro k lo hf h0 h9 hA a0 a1 a2
    exact w_iwF_2 hm a0 a1 a2 ⟨h0, h9⟩
        (fun y1 e2 q3 lo a0 a1 a2 hm => iwF_43 hm (fun i i0 i1 => hA i i0 (by omega)) 6 _ lo (by show _ ≤ 0 + 6; omega) (by decide) (by decide) (fun i i0 i1 => by exfalso; have e : Int32.toInt 0 = 0 := rfl; omega) a0 a1 a2)
        (fun y1 e2 q3 x7 e8 x9 e10 y11 e12 q13 x14 e15 lo a0 a1 a2 hm => by exfalso; omega)
        (fun y1 e2 q3 x7 e8 x9 e10 y11 e12 q13 hm => ⟨_, rfl, rfl, Or.inr ⟨rfl, Or.inl ⟨k.toInt, by omega, by omega, q13⟩⟩⟩)
  | succ f ih =>
    intro k lo hf h0 h9 hA a0 a1 a2
    exact w_iwF_2 hm a0 a1 a2 ⟨h0, h9⟩
        (fun y1 e2 q3 lo a0 a1 a2 hm => iwF_43 hm (fun i i0 i1 => hA i i0 (by omega)) 6 _ lo (by show _ ≤ 0 + 6; omega) (by decide) (by decide) (fun i i0 i1 => by exfalso; have e : Int32.toInt 0 = 0 := rfl; omega) a0 a1 a2)
        (fun y1 e2 q3 x7 e8 x9 e10 y11 e12 q13 x14 e15 lo a0 a1 a2 hm => ih _ lo (by omega) (by omega) (by omega) (fun i i0 i1 => by
          by_cases e : i = k.toInt
          · rw [e]; exact q13
          · exact hA i i0 (by omega)) a0 a1 a2)
        (fun y1 e2 q3 x7 e8 x9 e10 y11 e12 q13 hm => ⟨_, rfl, rfl, Or.inr ⟨rfl, Or.inl ⟨k.toInt, by omega, by omega, q13⟩⟩⟩)
set_option maxRecDepth 100000 in
theorem w_iwF_0 {d : Nat} {mem : zM} {P : Option Value → zM → Prop} {c : Int32} {lo : List (Nat × Value)} (hm : aTm aT0 mem) (l_0 : zlg lo 0 = some (.ref 221)) (l_1 : zlg lo 1 = some (.int c)) (h1 : ∀ lo, zlg lo 0 = some (.ref 221) → zlg lo 1 = some (.int c) → zlg lo 2 = some (.int 0) → aTm aT0 mem → yR zpg tX12_isInTheWay d (2, lo, [], mem) P) : yR zpg tX12_isInTheWay d (0, lo, [], mem) P := by
  refine yR_m 1 (fun _ _ _ _ => rfl) ?_
  refine wR_si rfl rfl (fun lo1 e2 f3 => ?_)
  have lo1_0 := f3 0 _ (by decide) (Or.inl rfl) l_0
  have lo1_1 := f3 1 _ (by decide) (Or.inl rfl) l_1
  exact h1 lo1 lo1_0 lo1_1 e2 hm

theorem h_iwF {c : Int32} (hm : aTm aT0 mem) (hd : 1 ≤ d) : yC zpg d 195 [.ref 221, .int c] mem (fun r m => ∃ v : Int32, r = some (.int v) ∧ mem = m ∧ iwQ mem c.toInt v.toInt) := by
  obtain ⟨d, rfl⟩ : ∃ q, d = q + 1 := ⟨d - 1, by omega⟩
  refine yC_of (t := tX12_isInTheWay) rfl rfl ?_
  exact w_iwF_0 hm rfl rfl
        (fun  lo a0 a1 a2 hm => iwF_2 hm 9 _ lo (by have := gR_228 hm (i := (gi mem 221 34).toInt) (mO_r34 hm).1 (by have := (mO_r34 hm).2; omega); show _ ≤ 0 + 9; omega) (by decide) (by decide) (fun i i0 i1 => by exfalso; have e : Int32.toInt 0 = 0 := rfl; omega) a0 a1 a2)
theorem iw_iff {c v : Int} (ht : mQt (gi mem 221 34).toInt (Qt Q) mem) (hf : mQf (gi mem 221 34).toInt (Qf Q) mem) (h : iwQ mem c v) : (v = 1 ∧ inw Q c) ∨ (v = 0 ∧ ¬ inw Q c) := by
  rcases h with ⟨h1, h2, h3⟩ | ⟨h1, h2⟩
  · refine Or.inr ⟨h1, ?_⟩
    rintro (⟨x, hx, e⟩ | ⟨x, hx, e⟩)
    · obtain ⟨i, hi, ei⟩ := List.mem_iff_getElem.1 hx
      have k := ht.2 i x (by rw [List.getElem?_eq_getElem hi, ei])
      exact h2 (i : Int) (by omega) (by rw [ht.1]; omega) (by rw [k.2.2, e])
    · obtain ⟨i, hi, ei⟩ := List.mem_iff_getElem.1 hx
      have k := hf.2 i x (by rw [List.getElem?_eq_getElem hi, ei])
      have z := h3 (i : Int) (by omega) (by rw [hf.1]; omega)
      rcases e with e | e
      · exact z.1 (by rw [k.2.2.1, e])
      · exact z.2 (by rw [k.2.2.2, e])
  · refine Or.inl ⟨h1, ?_⟩
    rcases h2 with ⟨i, i0, i1, e⟩ | ⟨i, i0, i1, e⟩
    · rw [ht.1] at i1
      have hi : i.toNat < (Qt Q).length := by omega
      have k := ht.2 i.toNat _ (List.getElem?_eq_getElem hi)
      rw [show ((i.toNat : Nat) : Int) = i by omega] at k
      exact Or.inl ⟨_, List.getElem_mem hi, by rw [← k.2.2]; exact e⟩
    · rw [hf.1] at i1
      have hi : i.toNat < (Qf Q).length := by omega
      have k := hf.2 i.toNat _ (List.getElem?_eq_getElem hi)
      rw [show ((i.toNat : Nat) : Int) = i by omega] at k
      refine Or.inr ⟨_, List.getElem_mem hi, ?_⟩
      rcases e with e | e
      · exact Or.inl (by rw [← k.2.2.1]; exact e)
      · exact Or.inr (by rw [← k.2.2.2]; exact e)
theorem h_numS5 {a b : Int32} {ai bi : Int} (ea : a.toInt = ai) (eb : b.toInt = bi) (hm : aTm aT0 mem) (hT : tOK mem) (h : mS T n s mem) (hd : 4 ≤ d) : yC zpg d 180 [.ref 221, .int a, .int b] mem (fun r m => ∃ v : Int32, r = some (.int v) ∧ aTm aT0 m ∧ (tQ mem m ∧ ((¬ (gi m 221 8).toInt = 0 ∨ (ai ≤ v.toInt ∧ v.toInt ≤ bi)) ∧ mS T n (nuP T n ai bi s) m ∧ nuV T n ai bi s v.toInt))) := by
  refine yC_mono (fun r m q => ?_) (yC_and (h_number5 ea eb hm hT hd) (h_numS ea eb hm hT h hd))
  obtain ⟨⟨v, q1, q2, q3, q4⟩, v', w1, -, -, w4, w5⟩ := q
  rw [q1] at w1
  cases w1
  exact ⟨v, q1, q2, q3, q4, w4, w5⟩
theorem nuP_some {a b p2 : Int} (h : nuP T n a b s = some p2) : ∃ p x, s = some p ∧ sNum T n a b p = some (x, p2) := by
  unfold nuP at h
  cases s with
  | none => cases h
  | some p =>
    have h : (sNum T n a b p).map Prod.snd = some p2 := h
    cases hx : sNum T n a b p with
    | none => rw [hx] at h; cases h
    | some x =>
      rw [hx] at h
      cases h
      exact ⟨p, x.1, rfl, hx⟩
/-- a wrong sign is no number -/
theorem nuP_bad {a b : Int} (h : mS T n s mem) (hx : ¬ (gi mem 221 12).toInt = -1) : nuP T n a b s = none := by
  rcases h with ⟨p, rfl, -, t, e, hR⟩ | ⟨rfl, -⟩
  · have h4 : t.1 = 4 := by
      by_cases w : t.1 = 4
      · exact w
      · exact absurd ((mx_iff hR.2.2.2).2 w) hx
    show (sNum T n a b p).map Prod.snd = none
    unfold sNum
    rw [tkf_e hR.2.1, oif_f (fun w => by have w1 : t.1 = 2 := w.1; omega)]
    rfl
  · rfl
noncomputable def celP (T : List Int32) (n : Int) (wl : Prop) (Q : Qd) (s : Option Int) : Option Int := s.bind fun p => (sCel T n wl Q p).map Prod.snd
def celV (T : List Int32) (n : Int) (wl : Prop) (Q : Qd) (s : Option Int) (v : Int) : Prop := ∀ p x, s = some p → sCel T n wl Q p = some x → v = x.1
theorem cel_no {wl : Prop} (h : nuP T n 0 (Qr Q - 1) (nuP T n 0 (Qc Q - 1) s) = none) : ∀ p, s = some p → sCel T n wl Q p = none := by
  intro p hp
  subst hp
  unfold sCel
  cases h1 : sNum T n 0 (Qc Q - 1) p with
  | none => rfl
  | some x =>
    cases h2 : sNum T n 0 (Qr Q - 1) x.2 with
    | none =>
      show (sNum T n 0 (Qr Q - 1) x.2).bind _ = none
      rw [h2]
      rfl
    | some y =>
      exfalso
      have e : nuP T n 0 (Qr Q - 1) (nuP T n 0 (Qc Q - 1) (some p)) = some y.2 := by
        show (((sNum T n 0 (Qc Q - 1) p).map Prod.snd).bind _) = _
        rw [h1]
        show (sNum T n 0 (Qr Q - 1) x.2).map Prod.snd = _
        rw [h2]
        rfl
      rw [e] at h
      cases h
theorem cel_no2 {wl : Prop} (h : ∀ p, s = some p → sCel T n wl Q p = none) : celP T n wl Q s = none := by
  unfold celP
  cases s with
  | none => rfl
  | some p =>
    show (sCel T n wl Q p).map Prod.snd = none
    rw [h p rfl]
    rfl
theorem cel_yes {wl : Prop} {p a p1 c p2 : Int} (h1 : sNum T n 0 (Qc Q - 1) p = some (a, p1)) (h2 : sNum T n 0 (Qr Q - 1) p1 = some (c, p2)) : sCel T n wl Q p = oif (¬ (8 * c + a) ∈ Qw Q ∧ (wl → ¬ inw Q (8 * c + a))) (some (8 * c + a, p2)) := by
  unfold sCel
  rw [h1]
  show (sNum T n 0 (Qr Q - 1) p1).bind _ = _
  rw [h2]
  rfl
theorem ce_go {m2 : zM} {v1 v2 : Int} (k1 : nuV T n 0 (Qc Q - 1) s v1) (k2 : nuV T n 0 (Qr Q - 1) (nuP T n 0 (Qc Q - 1) s) v2) (kS : mS T n (nuP T n 0 (Qr Q - 1) (nuP T n 0 (Qc Q - 1) s)) m2) (h0 : (gi m2 221 8).toInt ≤ 0) : ∃ p p2, s = some p ∧ fk m2 = 0 ∧ mRd T n p2 m2 ∧ ∀ wl : Prop, sCel T n wl Q p = oif (¬ (8 * v2 + v1) ∈ Qw Q ∧ (wl → ¬ inw Q (8 * v2 + v1))) (some (8 * v2 + v1, p2)) := by
  rcases kS with ⟨p2, e2, f2, r2⟩ | ⟨-, w⟩
  · obtain ⟨p1, c, e1, n2⟩ := nuP_some e2
    obtain ⟨p, a, e0, n1⟩ := nuP_some e1
    have c1 := k1 p _ e0 n1
    have c2 := k2 p1 _ e1 n2
    have c1 : v1 = a := c1
    have c2 : v2 = c := c2
    subst c1
    subst c2
    exact ⟨p, p2, e0, f2, r2, fun wl => cel_yes n1 n2⟩
  · exfalso
    have w2 : 1 ≤ (gi m2 221 8).toInt := w
    omega
theorem ce_no {m2 : zM} {wl : Prop} {r : Option Value} {v : Int32} (N : nuP T n 0 (Qr Q - 1) (nuP T n 0 (Qc Q - 1) s) = none) (h8 : 1 ≤ fk m2) (hr : r = some (.int v)) : mS T n (celP T n wl Q s) m2 ∧ ∃ v : Int32, r = some (.int v) ∧ celV T n wl Q s v.toInt := ⟨mS_no h8 (cel_no2 (cel_no N)), v, hr, fun p x e1 e2 => by rw [cel_no N p e1] at e2; cases e2⟩
theorem ce_ok {m2 : zM} {wl : Prop} {p p2 c : Int} {v : Int32} (hs : s = some p) (f0 : fk m2 = 0) (r2 : mRd T n p2 m2) (Y : sCel T n wl Q p = some (c, p2)) (hv : v.toInt = c) : mS T n (celP T n wl Q s) m2 ∧ ∃ v' : Int32, some (.int v) = some (Value.int v') ∧ celV T n wl Q s v'.toInt := by
  subst hs
  refine ⟨Or.inl ⟨p2, ?_, f0, r2⟩, v, rfl, fun p' x e1 e2 => ?_⟩
  · show (sCel T n wl Q p).map Prod.snd = _
    rw [Y]
    rfl
  · cases e1
    rw [Y] at e2
    cases e2
    exact hv
theorem ce_bl {m2 : zM} {wl : Prop} {p : Int} {v : Int32} (hs : s = some p) (h8 : 1 ≤ fk m2) (Y : sCel T n wl Q p = none) : mS T n (celP T n wl Q s) m2 ∧ ∃ v' : Int32, some (.int v) = some (Value.int v') ∧ celV T n wl Q s v'.toInt := by
  subst hs
  refine ⟨mS_no h8 (cel_no2 (fun p' e => by cases e; exact Y)), v, rfl, fun p' x e1 e2 => ?_⟩
  cases e1
  rw [Y] at e2
  cases e2
set_option maxRecDepth 100000 in
theorem w_ceF {d : Nat} {mem : zM} {P : Option Value → zM → Prop} {T : List Int32} {n : Int} {s : Option Int} {iw : Int32} (hm : aTm aT0 mem) (hT : tOK mem) (hS : mS T n s mem) (hc : 3 ≤ gn (ga mem 223) (gi mem 221 34).toInt ∧ gn (ga mem 223) (gi mem 221 34).toInt ≤ 7) (hr : 3 ≤ gn (ga mem 224) (gi mem 221 34).toInt ∧ gn (ga mem 224) (gi mem 221 34).toInt ≤ 7) (h1 : ∀ (y1 : Int32), y1.toInt = (gn (ga mem 223) (gi mem 221 34).toInt) → ∀ (x3 : Int32), x3.toInt = ((gn (ga mem 223) (gi mem 221 34).toInt) - 1) → ∀ (v7 : Int32) (m5 : zM), aTm aT0 m5 → ((tQ mem m5 ∧ ((¬ (gi m5 221 8).toInt = 0 ∨ ((0 : Int) ≤ v7.toInt ∧ v7.toInt ≤ x3.toInt)) ∧ mS T n (nuP T n (0 : Int) x3.toInt s) m5 ∧ nuV T n (0 : Int) x3.toInt s v7.toInt)) ∧ ((¬ (gi m5 221 8).toInt = 0 ∨ (gi mem 221 8).toInt = 0) ∧ 0 ≤ (gi m5 221 8).toInt ∧ (gi m5 221 34).toInt = (gi mem 221 34).toInt ∧ gn (ga m5 223) (gi m5 221 34).toInt = gn (ga mem 223) (gi mem 221 34).toInt ∧ gn (ga m5 224) (gi m5 221 34).toInt = gn (ga mem 224) (gi mem 221 34).toInt ∧ gn (ga m5 228) (gi m5 221 34).toInt = gn (ga mem 228) (gi mem 221 34).toInt ∧ gn (ga m5 233) (gi m5 221 34).toInt = gn (ga mem 233) (gi mem 221 34).toInt)) → (gi m5 221 12).toInt = (-1) → ∀ (y9 : Int32), y9.toInt = (gn (ga m5 224) (gi m5 221 34).toInt) → ∀ (x11 : Int32), x11.toInt = ((gn (ga m5 224) (gi m5 221 34).toInt) - 1) → ∀ (v15 : Int32) (m13 : zM), aTm aT0 m13 → ((tQ m5 m13 ∧ ((¬ (gi m13 221 8).toInt = 0 ∨ ((0 : Int) ≤ v15.toInt ∧ v15.toInt ≤ x11.toInt)) ∧ mS T n (nuP T n (0 : Int) x11.toInt (nuP T n (0 : Int) x3.toInt s)) m13 ∧ nuV T n (0 : Int) x11.toInt (nuP T n (0 : Int) x3.toInt s) v15.toInt)) ∧ ((¬ (gi m13 221 8).toInt = 0 ∨ (gi m5 221 8).toInt = 0) ∧ 0 ≤ (gi m13 221 8).toInt ∧ (gi m13 221 34).toInt = (gi m5 221 34).toInt ∧ gn (ga m13 223) (gi m13 221 34).toInt = gn (ga m5 223) (gi m5 221 34).toInt ∧ gn (ga m13 224) (gi m13 221 34).toInt = gn (ga m5 224) (gi m5 221 34).toInt ∧ gn (ga m13 228) (gi m13 221 34).toInt = gn (ga m5 228) (gi m5 221 34).toInt ∧ gn (ga m13 233) (gi m13 221 34).toInt = gn (ga m5 233) (gi m5 221 34).toInt)) → (gi m13 221 8).toInt ≤ 0 → ∀ (x17 : Int32), x17.toInt = (8 * (v15).toInt) → ∀ (x19 : Int32), x19.toInt = ((8 * (v15).toInt) + (v7).toInt) → ∀ (x21 : Int32), x21.toInt = (64 * (gi m13 221 34).toInt) → ∀ (x23 : Int32), x23.toInt = ((64 * (gi m13 221 34).toInt) + ((8 * (v15).toInt) + (v7).toInt)) → ∀ (y25 : Int32), y25.toInt = (gn (ga m13 227) ((64 * (gi m13 221 34).toInt) + ((8 * (v15).toInt) + (v7).toInt))) → (gn (ga m13 227) ((64 * (gi m13 221 34).toInt) + ((8 * (v15).toInt) + (v7).toInt))) = 1 → aTm aT0 (si (si m13 221 8 4) 221 9 (gi m5 221 4)) → P (some (.int x19)) (si (si m13 221 8 4) 221 9 (gi m5 221 4))) (h2 : ∀ (y1 : Int32), y1.toInt = (gn (ga mem 223) (gi mem 221 34).toInt) → ∀ (x3 : Int32), x3.toInt = ((gn (ga mem 223) (gi mem 221 34).toInt) - 1) → ∀ (v7 : Int32) (m5 : zM), aTm aT0 m5 → ((tQ mem m5 ∧ ((¬ (gi m5 221 8).toInt = 0 ∨ ((0 : Int) ≤ v7.toInt ∧ v7.toInt ≤ x3.toInt)) ∧ mS T n (nuP T n (0 : Int) x3.toInt s) m5 ∧ nuV T n (0 : Int) x3.toInt s v7.toInt)) ∧ ((¬ (gi m5 221 8).toInt = 0 ∨ (gi mem 221 8).toInt = 0) ∧ 0 ≤ (gi m5 221 8).toInt ∧ (gi m5 221 34).toInt = (gi mem 221 34).toInt ∧ gn (ga m5 223) (gi m5 221 34).toInt = gn (ga mem 223) (gi mem 221 34).toInt ∧ gn (ga m5 224) (gi m5 221 34).toInt = gn (ga mem 224) (gi mem 221 34).toInt ∧ gn (ga m5 228) (gi m5 221 34).toInt = gn (ga mem 228) (gi mem 221 34).toInt ∧ gn (ga m5 233) (gi m5 221 34).toInt = gn (ga mem 233) (gi mem 221 34).toInt)) → (gi m5 221 12).toInt = (-1) → ∀ (y9 : Int32), y9.toInt = (gn (ga m5 224) (gi m5 221 34).toInt) → ∀ (x11 : Int32), x11.toInt = ((gn (ga m5 224) (gi m5 221 34).toInt) - 1) → ∀ (v15 : Int32) (m13 : zM), aTm aT0 m13 → ((tQ m5 m13 ∧ ((¬ (gi m13 221 8).toInt = 0 ∨ ((0 : Int) ≤ v15.toInt ∧ v15.toInt ≤ x11.toInt)) ∧ mS T n (nuP T n (0 : Int) x11.toInt (nuP T n (0 : Int) x3.toInt s)) m13 ∧ nuV T n (0 : Int) x11.toInt (nuP T n (0 : Int) x3.toInt s) v15.toInt)) ∧ ((¬ (gi m13 221 8).toInt = 0 ∨ (gi m5 221 8).toInt = 0) ∧ 0 ≤ (gi m13 221 8).toInt ∧ (gi m13 221 34).toInt = (gi m5 221 34).toInt ∧ gn (ga m13 223) (gi m13 221 34).toInt = gn (ga m5 223) (gi m5 221 34).toInt ∧ gn (ga m13 224) (gi m13 221 34).toInt = gn (ga m5 224) (gi m5 221 34).toInt ∧ gn (ga m13 228) (gi m13 221 34).toInt = gn (ga m5 228) (gi m5 221 34).toInt ∧ gn (ga m13 233) (gi m13 221 34).toInt = gn (ga m5 233) (gi m5 221 34).toInt)) → (gi m13 221 8).toInt ≤ 0 → ∀ (x17 : Int32), x17.toInt = (8 * (v15).toInt) → ∀ (x19 : Int32), x19.toInt = ((8 * (v15).toInt) + (v7).toInt) → ∀ (x21 : Int32), x21.toInt = (64 * (gi m13 221 34).toInt) → ∀ (x23 : Int32), x23.toInt = ((64 * (gi m13 221 34).toInt) + ((8 * (v15).toInt) + (v7).toInt)) → ∀ (y25 : Int32), y25.toInt = (gn (ga m13 227) ((64 * (gi m13 221 34).toInt) + ((8 * (v15).toInt) + (v7).toInt))) → ¬ (gn (ga m13 227) ((64 * (gi m13 221 34).toInt) + ((8 * (v15).toInt) + (v7).toInt))) = 1 → (iw).toInt = 0 → aTm aT0 m13 → P (some (.int x19)) m13) (h3 : ∀ (y1 : Int32), y1.toInt = (gn (ga mem 223) (gi mem 221 34).toInt) → ∀ (x3 : Int32), x3.toInt = ((gn (ga mem 223) (gi mem 221 34).toInt) - 1) → ∀ (v7 : Int32) (m5 : zM), aTm aT0 m5 → ((tQ mem m5 ∧ ((¬ (gi m5 221 8).toInt = 0 ∨ ((0 : Int) ≤ v7.toInt ∧ v7.toInt ≤ x3.toInt)) ∧ mS T n (nuP T n (0 : Int) x3.toInt s) m5 ∧ nuV T n (0 : Int) x3.toInt s v7.toInt)) ∧ ((¬ (gi m5 221 8).toInt = 0 ∨ (gi mem 221 8).toInt = 0) ∧ 0 ≤ (gi m5 221 8).toInt ∧ (gi m5 221 34).toInt = (gi mem 221 34).toInt ∧ gn (ga m5 223) (gi m5 221 34).toInt = gn (ga mem 223) (gi mem 221 34).toInt ∧ gn (ga m5 224) (gi m5 221 34).toInt = gn (ga mem 224) (gi mem 221 34).toInt ∧ gn (ga m5 228) (gi m5 221 34).toInt = gn (ga mem 228) (gi mem 221 34).toInt ∧ gn (ga m5 233) (gi m5 221 34).toInt = gn (ga mem 233) (gi mem 221 34).toInt)) → (gi m5 221 12).toInt = (-1) → ∀ (y9 : Int32), y9.toInt = (gn (ga m5 224) (gi m5 221 34).toInt) → ∀ (x11 : Int32), x11.toInt = ((gn (ga m5 224) (gi m5 221 34).toInt) - 1) → ∀ (v15 : Int32) (m13 : zM), aTm aT0 m13 → ((tQ m5 m13 ∧ ((¬ (gi m13 221 8).toInt = 0 ∨ ((0 : Int) ≤ v15.toInt ∧ v15.toInt ≤ x11.toInt)) ∧ mS T n (nuP T n (0 : Int) x11.toInt (nuP T n (0 : Int) x3.toInt s)) m13 ∧ nuV T n (0 : Int) x11.toInt (nuP T n (0 : Int) x3.toInt s) v15.toInt)) ∧ ((¬ (gi m13 221 8).toInt = 0 ∨ (gi m5 221 8).toInt = 0) ∧ 0 ≤ (gi m13 221 8).toInt ∧ (gi m13 221 34).toInt = (gi m5 221 34).toInt ∧ gn (ga m13 223) (gi m13 221 34).toInt = gn (ga m5 223) (gi m5 221 34).toInt ∧ gn (ga m13 224) (gi m13 221 34).toInt = gn (ga m5 224) (gi m5 221 34).toInt ∧ gn (ga m13 228) (gi m13 221 34).toInt = gn (ga m5 228) (gi m5 221 34).toInt ∧ gn (ga m13 233) (gi m13 221 34).toInt = gn (ga m5 233) (gi m5 221 34).toInt)) → (gi m13 221 8).toInt ≤ 0 → ∀ (x17 : Int32), x17.toInt = (8 * (v15).toInt) → ∀ (x19 : Int32), x19.toInt = ((8 * (v15).toInt) + (v7).toInt) → ∀ (x21 : Int32), x21.toInt = (64 * (gi m13 221 34).toInt) → ∀ (x23 : Int32), x23.toInt = ((64 * (gi m13 221 34).toInt) + ((8 * (v15).toInt) + (v7).toInt)) → ∀ (y25 : Int32), y25.toInt = (gn (ga m13 227) ((64 * (gi m13 221 34).toInt) + ((8 * (v15).toInt) + (v7).toInt))) → ¬ (gn (ga m13 227) ((64 * (gi m13 221 34).toInt) + ((8 * (v15).toInt) + (v7).toInt))) = 1 → ¬ (iw).toInt = 0 → ∀ (v29 : Int32), iwQ m13 x19.toInt v29.toInt → (v29).toInt = 0 → aTm aT0 m13 → P (some (.int x19)) m13) (h4 : ∀ (y1 : Int32), y1.toInt = (gn (ga mem 223) (gi mem 221 34).toInt) → ∀ (x3 : Int32), x3.toInt = ((gn (ga mem 223) (gi mem 221 34).toInt) - 1) → ∀ (v7 : Int32) (m5 : zM), aTm aT0 m5 → ((tQ mem m5 ∧ ((¬ (gi m5 221 8).toInt = 0 ∨ ((0 : Int) ≤ v7.toInt ∧ v7.toInt ≤ x3.toInt)) ∧ mS T n (nuP T n (0 : Int) x3.toInt s) m5 ∧ nuV T n (0 : Int) x3.toInt s v7.toInt)) ∧ ((¬ (gi m5 221 8).toInt = 0 ∨ (gi mem 221 8).toInt = 0) ∧ 0 ≤ (gi m5 221 8).toInt ∧ (gi m5 221 34).toInt = (gi mem 221 34).toInt ∧ gn (ga m5 223) (gi m5 221 34).toInt = gn (ga mem 223) (gi mem 221 34).toInt ∧ gn (ga m5 224) (gi m5 221 34).toInt = gn (ga mem 224) (gi mem 221 34).toInt ∧ gn (ga m5 228) (gi m5 221 34).toInt = gn (ga mem 228) (gi mem 221 34).toInt ∧ gn (ga m5 233) (gi m5 221 34).toInt = gn (ga mem 233) (gi mem 221 34).toInt)) → (gi m5 221 12).toInt = (-1) → ∀ (y9 : Int32), y9.toInt = (gn (ga m5 224) (gi m5 221 34).toInt) → ∀ (x11 : Int32), x11.toInt = ((gn (ga m5 224) (gi m5 221 34).toInt) - 1) → ∀ (v15 : Int32) (m13 : zM), aTm aT0 m13 → ((tQ m5 m13 ∧ ((¬ (gi m13 221 8).toInt = 0 ∨ ((0 : Int) ≤ v15.toInt ∧ v15.toInt ≤ x11.toInt)) ∧ mS T n (nuP T n (0 : Int) x11.toInt (nuP T n (0 : Int) x3.toInt s)) m13 ∧ nuV T n (0 : Int) x11.toInt (nuP T n (0 : Int) x3.toInt s) v15.toInt)) ∧ ((¬ (gi m13 221 8).toInt = 0 ∨ (gi m5 221 8).toInt = 0) ∧ 0 ≤ (gi m13 221 8).toInt ∧ (gi m13 221 34).toInt = (gi m5 221 34).toInt ∧ gn (ga m13 223) (gi m13 221 34).toInt = gn (ga m5 223) (gi m5 221 34).toInt ∧ gn (ga m13 224) (gi m13 221 34).toInt = gn (ga m5 224) (gi m5 221 34).toInt ∧ gn (ga m13 228) (gi m13 221 34).toInt = gn (ga m5 228) (gi m5 221 34).toInt ∧ gn (ga m13 233) (gi m13 221 34).toInt = gn (ga m5 233) (gi m5 221 34).toInt)) → (gi m13 221 8).toInt ≤ 0 → ∀ (x17 : Int32), x17.toInt = (8 * (v15).toInt) → ∀ (x19 : Int32), x19.toInt = ((8 * (v15).toInt) + (v7).toInt) → ∀ (x21 : Int32), x21.toInt = (64 * (gi m13 221 34).toInt) → ∀ (x23 : Int32), x23.toInt = ((64 * (gi m13 221 34).toInt) + ((8 * (v15).toInt) + (v7).toInt)) → ∀ (y25 : Int32), y25.toInt = (gn (ga m13 227) ((64 * (gi m13 221 34).toInt) + ((8 * (v15).toInt) + (v7).toInt))) → ¬ (gn (ga m13 227) ((64 * (gi m13 221 34).toInt) + ((8 * (v15).toInt) + (v7).toInt))) = 1 → ¬ (iw).toInt = 0 → ∀ (v29 : Int32), iwQ m13 x19.toInt v29.toInt → ¬ (v29).toInt = 0 → aTm aT0 (si (si m13 221 8 4) 221 9 (gi m5 221 4)) → P (some (.int x19)) (si (si m13 221 8 4) 221 9 (gi m5 221 4))) (h5 : ∀ (y1 : Int32), y1.toInt = (gn (ga mem 223) (gi mem 221 34).toInt) → ∀ (x3 : Int32), x3.toInt = ((gn (ga mem 223) (gi mem 221 34).toInt) - 1) → ∀ (v7 : Int32) (m5 : zM), aTm aT0 m5 → ((tQ mem m5 ∧ ((¬ (gi m5 221 8).toInt = 0 ∨ ((0 : Int) ≤ v7.toInt ∧ v7.toInt ≤ x3.toInt)) ∧ mS T n (nuP T n (0 : Int) x3.toInt s) m5 ∧ nuV T n (0 : Int) x3.toInt s v7.toInt)) ∧ ((¬ (gi m5 221 8).toInt = 0 ∨ (gi mem 221 8).toInt = 0) ∧ 0 ≤ (gi m5 221 8).toInt ∧ (gi m5 221 34).toInt = (gi mem 221 34).toInt ∧ gn (ga m5 223) (gi m5 221 34).toInt = gn (ga mem 223) (gi mem 221 34).toInt ∧ gn (ga m5 224) (gi m5 221 34).toInt = gn (ga mem 224) (gi mem 221 34).toInt ∧ gn (ga m5 228) (gi m5 221 34).toInt = gn (ga mem 228) (gi mem 221 34).toInt ∧ gn (ga m5 233) (gi m5 221 34).toInt = gn (ga mem 233) (gi mem 221 34).toInt)) → (gi m5 221 12).toInt = (-1) → ∀ (y9 : Int32), y9.toInt = (gn (ga m5 224) (gi m5 221 34).toInt) → ∀ (x11 : Int32), x11.toInt = ((gn (ga m5 224) (gi m5 221 34).toInt) - 1) → ∀ (v15 : Int32) (m13 : zM), aTm aT0 m13 → ((tQ m5 m13 ∧ ((¬ (gi m13 221 8).toInt = 0 ∨ ((0 : Int) ≤ v15.toInt ∧ v15.toInt ≤ x11.toInt)) ∧ mS T n (nuP T n (0 : Int) x11.toInt (nuP T n (0 : Int) x3.toInt s)) m13 ∧ nuV T n (0 : Int) x11.toInt (nuP T n (0 : Int) x3.toInt s) v15.toInt)) ∧ ((¬ (gi m13 221 8).toInt = 0 ∨ (gi m5 221 8).toInt = 0) ∧ 0 ≤ (gi m13 221 8).toInt ∧ (gi m13 221 34).toInt = (gi m5 221 34).toInt ∧ gn (ga m13 223) (gi m13 221 34).toInt = gn (ga m5 223) (gi m5 221 34).toInt ∧ gn (ga m13 224) (gi m13 221 34).toInt = gn (ga m5 224) (gi m5 221 34).toInt ∧ gn (ga m13 228) (gi m13 221 34).toInt = gn (ga m5 228) (gi m5 221 34).toInt ∧ gn (ga m13 233) (gi m13 221 34).toInt = gn (ga m5 233) (gi m5 221 34).toInt)) → 0 < (gi m13 221 8).toInt → aTm aT0 m13 → P (some (.int 0)) m13) (h6 : ∀ (y1 : Int32), y1.toInt = (gn (ga mem 223) (gi mem 221 34).toInt) → ∀ (x3 : Int32), x3.toInt = ((gn (ga mem 223) (gi mem 221 34).toInt) - 1) → ∀ (v7 : Int32) (m5 : zM), aTm aT0 m5 → ((tQ mem m5 ∧ ((¬ (gi m5 221 8).toInt = 0 ∨ ((0 : Int) ≤ v7.toInt ∧ v7.toInt ≤ x3.toInt)) ∧ mS T n (nuP T n (0 : Int) x3.toInt s) m5 ∧ nuV T n (0 : Int) x3.toInt s v7.toInt)) ∧ ((¬ (gi m5 221 8).toInt = 0 ∨ (gi mem 221 8).toInt = 0) ∧ 0 ≤ (gi m5 221 8).toInt ∧ (gi m5 221 34).toInt = (gi mem 221 34).toInt ∧ gn (ga m5 223) (gi m5 221 34).toInt = gn (ga mem 223) (gi mem 221 34).toInt ∧ gn (ga m5 224) (gi m5 221 34).toInt = gn (ga mem 224) (gi mem 221 34).toInt ∧ gn (ga m5 228) (gi m5 221 34).toInt = gn (ga mem 228) (gi mem 221 34).toInt ∧ gn (ga m5 233) (gi m5 221 34).toInt = gn (ga mem 233) (gi mem 221 34).toInt)) → ¬ (gi m5 221 12).toInt = (-1) → (gi m5 221 8).toInt ≤ 0 → ∀ (y33 : Int32), y33.toInt = (gn (ga m5 224) (gi m5 221 34).toInt) → ∀ (x35 : Int32), x35.toInt = ((gn (ga m5 224) (gi m5 221 34).toInt) - 1) → ∀ (v39 : Int32) (m37 : zM), aTm aT0 m37 → ((tQ (si (si m5 221 8 1) 221 9 (gi m5 221 12)) m37 ∧ ((¬ (gi m37 221 8).toInt = 0 ∨ ((0 : Int) ≤ v39.toInt ∧ v39.toInt ≤ x35.toInt)) ∧ mS T n (nuP T n (0 : Int) x35.toInt none) m37 ∧ nuV T n (0 : Int) x35.toInt none v39.toInt)) ∧ ((¬ (gi m37 221 8).toInt = 0 ∨ (1 : Int) = 0) ∧ 0 ≤ (gi m37 221 8).toInt ∧ (gi m37 221 34).toInt = (gi m5 221 34).toInt ∧ gn (ga m37 223) (gi m37 221 34).toInt = gn (ga m5 223) (gi m5 221 34).toInt ∧ gn (ga m37 224) (gi m37 221 34).toInt = gn (ga m5 224) (gi m5 221 34).toInt ∧ gn (ga m37 228) (gi m37 221 34).toInt = gn (ga m5 228) (gi m5 221 34).toInt ∧ gn (ga m37 233) (gi m37 221 34).toInt = gn (ga m5 233) (gi m5 221 34).toInt)) → (gi m37 221 8).toInt ≤ 0 → ∀ (x41 : Int32), x41.toInt = (8 * (v39).toInt) → ∀ (x43 : Int32), x43.toInt = ((8 * (v39).toInt) + (v7).toInt) → ∀ (x45 : Int32), x45.toInt = (64 * (gi m37 221 34).toInt) → ∀ (x47 : Int32), x47.toInt = ((64 * (gi m37 221 34).toInt) + ((8 * (v39).toInt) + (v7).toInt)) → ∀ (y49 : Int32), y49.toInt = (gn (ga m37 227) ((64 * (gi m37 221 34).toInt) + ((8 * (v39).toInt) + (v7).toInt))) → (gn (ga m37 227) ((64 * (gi m37 221 34).toInt) + ((8 * (v39).toInt) + (v7).toInt))) = 1 → aTm aT0 (si (si m37 221 8 4) 221 9 (gi m5 221 4)) → P (some (.int x43)) (si (si m37 221 8 4) 221 9 (gi m5 221 4))) (h7 : ∀ (y1 : Int32), y1.toInt = (gn (ga mem 223) (gi mem 221 34).toInt) → ∀ (x3 : Int32), x3.toInt = ((gn (ga mem 223) (gi mem 221 34).toInt) - 1) → ∀ (v7 : Int32) (m5 : zM), aTm aT0 m5 → ((tQ mem m5 ∧ ((¬ (gi m5 221 8).toInt = 0 ∨ ((0 : Int) ≤ v7.toInt ∧ v7.toInt ≤ x3.toInt)) ∧ mS T n (nuP T n (0 : Int) x3.toInt s) m5 ∧ nuV T n (0 : Int) x3.toInt s v7.toInt)) ∧ ((¬ (gi m5 221 8).toInt = 0 ∨ (gi mem 221 8).toInt = 0) ∧ 0 ≤ (gi m5 221 8).toInt ∧ (gi m5 221 34).toInt = (gi mem 221 34).toInt ∧ gn (ga m5 223) (gi m5 221 34).toInt = gn (ga mem 223) (gi mem 221 34).toInt ∧ gn (ga m5 224) (gi m5 221 34).toInt = gn (ga mem 224) (gi mem 221 34).toInt ∧ gn (ga m5 228) (gi m5 221 34).toInt = gn (ga mem 228) (gi mem 221 34).toInt ∧ gn (ga m5 233) (gi m5 221 34).toInt = gn (ga mem 233) (gi mem 221 34).toInt)) → ¬ (gi m5 221 12).toInt = (-1) → (gi m5 221 8).toInt ≤ 0 → ∀ (y33 : Int32), y33.toInt = (gn (ga m5 224) (gi m5 221 34).toInt) → ∀ (x35 : Int32), x35.toInt = ((gn (ga m5 224) (gi m5 221 34).toInt) - 1) → ∀ (v39 : Int32) (m37 : zM), aTm aT0 m37 → ((tQ (si (si m5 221 8 1) 221 9 (gi m5 221 12)) m37 ∧ ((¬ (gi m37 221 8).toInt = 0 ∨ ((0 : Int) ≤ v39.toInt ∧ v39.toInt ≤ x35.toInt)) ∧ mS T n (nuP T n (0 : Int) x35.toInt none) m37 ∧ nuV T n (0 : Int) x35.toInt none v39.toInt)) ∧ ((¬ (gi m37 221 8).toInt = 0 ∨ (1 : Int) = 0) ∧ 0 ≤ (gi m37 221 8).toInt ∧ (gi m37 221 34).toInt = (gi m5 221 34).toInt ∧ gn (ga m37 223) (gi m37 221 34).toInt = gn (ga m5 223) (gi m5 221 34).toInt ∧ gn (ga m37 224) (gi m37 221 34).toInt = gn (ga m5 224) (gi m5 221 34).toInt ∧ gn (ga m37 228) (gi m37 221 34).toInt = gn (ga m5 228) (gi m5 221 34).toInt ∧ gn (ga m37 233) (gi m37 221 34).toInt = gn (ga m5 233) (gi m5 221 34).toInt)) → (gi m37 221 8).toInt ≤ 0 → ∀ (x41 : Int32), x41.toInt = (8 * (v39).toInt) → ∀ (x43 : Int32), x43.toInt = ((8 * (v39).toInt) + (v7).toInt) → ∀ (x45 : Int32), x45.toInt = (64 * (gi m37 221 34).toInt) → ∀ (x47 : Int32), x47.toInt = ((64 * (gi m37 221 34).toInt) + ((8 * (v39).toInt) + (v7).toInt)) → ∀ (y49 : Int32), y49.toInt = (gn (ga m37 227) ((64 * (gi m37 221 34).toInt) + ((8 * (v39).toInt) + (v7).toInt))) → ¬ (gn (ga m37 227) ((64 * (gi m37 221 34).toInt) + ((8 * (v39).toInt) + (v7).toInt))) = 1 → (iw).toInt = 0 → aTm aT0 m37 → P (some (.int x43)) m37) (h8 : ∀ (y1 : Int32), y1.toInt = (gn (ga mem 223) (gi mem 221 34).toInt) → ∀ (x3 : Int32), x3.toInt = ((gn (ga mem 223) (gi mem 221 34).toInt) - 1) → ∀ (v7 : Int32) (m5 : zM), aTm aT0 m5 → ((tQ mem m5 ∧ ((¬ (gi m5 221 8).toInt = 0 ∨ ((0 : Int) ≤ v7.toInt ∧ v7.toInt ≤ x3.toInt)) ∧ mS T n (nuP T n (0 : Int) x3.toInt s) m5 ∧ nuV T n (0 : Int) x3.toInt s v7.toInt)) ∧ ((¬ (gi m5 221 8).toInt = 0 ∨ (gi mem 221 8).toInt = 0) ∧ 0 ≤ (gi m5 221 8).toInt ∧ (gi m5 221 34).toInt = (gi mem 221 34).toInt ∧ gn (ga m5 223) (gi m5 221 34).toInt = gn (ga mem 223) (gi mem 221 34).toInt ∧ gn (ga m5 224) (gi m5 221 34).toInt = gn (ga mem 224) (gi mem 221 34).toInt ∧ gn (ga m5 228) (gi m5 221 34).toInt = gn (ga mem 228) (gi mem 221 34).toInt ∧ gn (ga m5 233) (gi m5 221 34).toInt = gn (ga mem 233) (gi mem 221 34).toInt)) → ¬ (gi m5 221 12).toInt = (-1) → (gi m5 221 8).toInt ≤ 0 → ∀ (y33 : Int32), y33.toInt = (gn (ga m5 224) (gi m5 221 34).toInt) → ∀ (x35 : Int32), x35.toInt = ((gn (ga m5 224) (gi m5 221 34).toInt) - 1) → ∀ (v39 : Int32) (m37 : zM), aTm aT0 m37 → ((tQ (si (si m5 221 8 1) 221 9 (gi m5 221 12)) m37 ∧ ((¬ (gi m37 221 8).toInt = 0 ∨ ((0 : Int) ≤ v39.toInt ∧ v39.toInt ≤ x35.toInt)) ∧ mS T n (nuP T n (0 : Int) x35.toInt none) m37 ∧ nuV T n (0 : Int) x35.toInt none v39.toInt)) ∧ ((¬ (gi m37 221 8).toInt = 0 ∨ (1 : Int) = 0) ∧ 0 ≤ (gi m37 221 8).toInt ∧ (gi m37 221 34).toInt = (gi m5 221 34).toInt ∧ gn (ga m37 223) (gi m37 221 34).toInt = gn (ga m5 223) (gi m5 221 34).toInt ∧ gn (ga m37 224) (gi m37 221 34).toInt = gn (ga m5 224) (gi m5 221 34).toInt ∧ gn (ga m37 228) (gi m37 221 34).toInt = gn (ga m5 228) (gi m5 221 34).toInt ∧ gn (ga m37 233) (gi m37 221 34).toInt = gn (ga m5 233) (gi m5 221 34).toInt)) → (gi m37 221 8).toInt ≤ 0 → ∀ (x41 : Int32), x41.toInt = (8 * (v39).toInt) → ∀ (x43 : Int32), x43.toInt = ((8 * (v39).toInt) + (v7).toInt) → ∀ (x45 : Int32), x45.toInt = (64 * (gi m37 221 34).toInt) → ∀ (x47 : Int32), x47.toInt = ((64 * (gi m37 221 34).toInt) + ((8 * (v39).toInt) + (v7).toInt)) → ∀ (y49 : Int32), y49.toInt = (gn (ga m37 227) ((64 * (gi m37 221 34).toInt) + ((8 * (v39).toInt) + (v7).toInt))) → ¬ (gn (ga m37 227) ((64 * (gi m37 221 34).toInt) + ((8 * (v39).toInt) + (v7).toInt))) = 1 → ¬ (iw).toInt = 0 → ∀ (v53 : Int32), iwQ m37 x43.toInt v53.toInt → (v53).toInt = 0 → aTm aT0 m37 → P (some (.int x43)) m37) (h9 : ∀ (y1 : Int32), y1.toInt = (gn (ga mem 223) (gi mem 221 34).toInt) → ∀ (x3 : Int32), x3.toInt = ((gn (ga mem 223) (gi mem 221 34).toInt) - 1) → ∀ (v7 : Int32) (m5 : zM), aTm aT0 m5 → ((tQ mem m5 ∧ ((¬ (gi m5 221 8).toInt = 0 ∨ ((0 : Int) ≤ v7.toInt ∧ v7.toInt ≤ x3.toInt)) ∧ mS T n (nuP T n (0 : Int) x3.toInt s) m5 ∧ nuV T n (0 : Int) x3.toInt s v7.toInt)) ∧ ((¬ (gi m5 221 8).toInt = 0 ∨ (gi mem 221 8).toInt = 0) ∧ 0 ≤ (gi m5 221 8).toInt ∧ (gi m5 221 34).toInt = (gi mem 221 34).toInt ∧ gn (ga m5 223) (gi m5 221 34).toInt = gn (ga mem 223) (gi mem 221 34).toInt ∧ gn (ga m5 224) (gi m5 221 34).toInt = gn (ga mem 224) (gi mem 221 34).toInt ∧ gn (ga m5 228) (gi m5 221 34).toInt = gn (ga mem 228) (gi mem 221 34).toInt ∧ gn (ga m5 233) (gi m5 221 34).toInt = gn (ga mem 233) (gi mem 221 34).toInt)) → ¬ (gi m5 221 12).toInt = (-1) → (gi m5 221 8).toInt ≤ 0 → ∀ (y33 : Int32), y33.toInt = (gn (ga m5 224) (gi m5 221 34).toInt) → ∀ (x35 : Int32), x35.toInt = ((gn (ga m5 224) (gi m5 221 34).toInt) - 1) → ∀ (v39 : Int32) (m37 : zM), aTm aT0 m37 → ((tQ (si (si m5 221 8 1) 221 9 (gi m5 221 12)) m37 ∧ ((¬ (gi m37 221 8).toInt = 0 ∨ ((0 : Int) ≤ v39.toInt ∧ v39.toInt ≤ x35.toInt)) ∧ mS T n (nuP T n (0 : Int) x35.toInt none) m37 ∧ nuV T n (0 : Int) x35.toInt none v39.toInt)) ∧ ((¬ (gi m37 221 8).toInt = 0 ∨ (1 : Int) = 0) ∧ 0 ≤ (gi m37 221 8).toInt ∧ (gi m37 221 34).toInt = (gi m5 221 34).toInt ∧ gn (ga m37 223) (gi m37 221 34).toInt = gn (ga m5 223) (gi m5 221 34).toInt ∧ gn (ga m37 224) (gi m37 221 34).toInt = gn (ga m5 224) (gi m5 221 34).toInt ∧ gn (ga m37 228) (gi m37 221 34).toInt = gn (ga m5 228) (gi m5 221 34).toInt ∧ gn (ga m37 233) (gi m37 221 34).toInt = gn (ga m5 233) (gi m5 221 34).toInt)) → (gi m37 221 8).toInt ≤ 0 → ∀ (x41 : Int32), x41.toInt = (8 * (v39).toInt) → ∀ (x43 : Int32), x43.toInt = ((8 * (v39).toInt) + (v7).toInt) → ∀ (x45 : Int32), x45.toInt = (64 * (gi m37 221 34).toInt) → ∀ (x47 : Int32), x47.toInt = ((64 * (gi m37 221 34).toInt) + ((8 * (v39).toInt) + (v7).toInt)) → ∀ (y49 : Int32), y49.toInt = (gn (ga m37 227) ((64 * (gi m37 221 34).toInt) + ((8 * (v39).toInt) + (v7).toInt))) → ¬ (gn (ga m37 227) ((64 * (gi m37 221 34).toInt) + ((8 * (v39).toInt) + (v7).toInt))) = 1 → ¬ (iw).toInt = 0 → ∀ (v53 : Int32), iwQ m37 x43.toInt v53.toInt → ¬ (v53).toInt = 0 → aTm aT0 (si (si m37 221 8 4) 221 9 (gi m5 221 4)) → P (some (.int x43)) (si (si m37 221 8 4) 221 9 (gi m5 221 4))) (h10 : ∀ (y1 : Int32), y1.toInt = (gn (ga mem 223) (gi mem 221 34).toInt) → ∀ (x3 : Int32), x3.toInt = ((gn (ga mem 223) (gi mem 221 34).toInt) - 1) → ∀ (v7 : Int32) (m5 : zM), aTm aT0 m5 → ((tQ mem m5 ∧ ((¬ (gi m5 221 8).toInt = 0 ∨ ((0 : Int) ≤ v7.toInt ∧ v7.toInt ≤ x3.toInt)) ∧ mS T n (nuP T n (0 : Int) x3.toInt s) m5 ∧ nuV T n (0 : Int) x3.toInt s v7.toInt)) ∧ ((¬ (gi m5 221 8).toInt = 0 ∨ (gi mem 221 8).toInt = 0) ∧ 0 ≤ (gi m5 221 8).toInt ∧ (gi m5 221 34).toInt = (gi mem 221 34).toInt ∧ gn (ga m5 223) (gi m5 221 34).toInt = gn (ga mem 223) (gi mem 221 34).toInt ∧ gn (ga m5 224) (gi m5 221 34).toInt = gn (ga mem 224) (gi mem 221 34).toInt ∧ gn (ga m5 228) (gi m5 221 34).toInt = gn (ga mem 228) (gi mem 221 34).toInt ∧ gn (ga m5 233) (gi m5 221 34).toInt = gn (ga mem 233) (gi mem 221 34).toInt)) → ¬ (gi m5 221 12).toInt = (-1) → (gi m5 221 8).toInt ≤ 0 → ∀ (y33 : Int32), y33.toInt = (gn (ga m5 224) (gi m5 221 34).toInt) → ∀ (x35 : Int32), x35.toInt = ((gn (ga m5 224) (gi m5 221 34).toInt) - 1) → ∀ (v39 : Int32) (m37 : zM), aTm aT0 m37 → ((tQ (si (si m5 221 8 1) 221 9 (gi m5 221 12)) m37 ∧ ((¬ (gi m37 221 8).toInt = 0 ∨ ((0 : Int) ≤ v39.toInt ∧ v39.toInt ≤ x35.toInt)) ∧ mS T n (nuP T n (0 : Int) x35.toInt none) m37 ∧ nuV T n (0 : Int) x35.toInt none v39.toInt)) ∧ ((¬ (gi m37 221 8).toInt = 0 ∨ (1 : Int) = 0) ∧ 0 ≤ (gi m37 221 8).toInt ∧ (gi m37 221 34).toInt = (gi m5 221 34).toInt ∧ gn (ga m37 223) (gi m37 221 34).toInt = gn (ga m5 223) (gi m5 221 34).toInt ∧ gn (ga m37 224) (gi m37 221 34).toInt = gn (ga m5 224) (gi m5 221 34).toInt ∧ gn (ga m37 228) (gi m37 221 34).toInt = gn (ga m5 228) (gi m5 221 34).toInt ∧ gn (ga m37 233) (gi m37 221 34).toInt = gn (ga m5 233) (gi m5 221 34).toInt)) → 0 < (gi m37 221 8).toInt → aTm aT0 m37 → P (some (.int 0)) m37) (h11 : ∀ (y1 : Int32), y1.toInt = (gn (ga mem 223) (gi mem 221 34).toInt) → ∀ (x3 : Int32), x3.toInt = ((gn (ga mem 223) (gi mem 221 34).toInt) - 1) → ∀ (v7 : Int32) (m5 : zM), aTm aT0 m5 → ((tQ mem m5 ∧ ((¬ (gi m5 221 8).toInt = 0 ∨ ((0 : Int) ≤ v7.toInt ∧ v7.toInt ≤ x3.toInt)) ∧ mS T n (nuP T n (0 : Int) x3.toInt s) m5 ∧ nuV T n (0 : Int) x3.toInt s v7.toInt)) ∧ ((¬ (gi m5 221 8).toInt = 0 ∨ (gi mem 221 8).toInt = 0) ∧ 0 ≤ (gi m5 221 8).toInt ∧ (gi m5 221 34).toInt = (gi mem 221 34).toInt ∧ gn (ga m5 223) (gi m5 221 34).toInt = gn (ga mem 223) (gi mem 221 34).toInt ∧ gn (ga m5 224) (gi m5 221 34).toInt = gn (ga mem 224) (gi mem 221 34).toInt ∧ gn (ga m5 228) (gi m5 221 34).toInt = gn (ga mem 228) (gi mem 221 34).toInt ∧ gn (ga m5 233) (gi m5 221 34).toInt = gn (ga mem 233) (gi mem 221 34).toInt)) → ¬ (gi m5 221 12).toInt = (-1) → 0 < (gi m5 221 8).toInt → ∀ (y56 : Int32), y56.toInt = (gn (ga m5 224) (gi m5 221 34).toInt) → ∀ (x58 : Int32), x58.toInt = ((gn (ga m5 224) (gi m5 221 34).toInt) - 1) → ∀ (v62 : Int32) (m60 : zM), aTm aT0 m60 → ((tQ m5 m60 ∧ ((¬ (gi m60 221 8).toInt = 0 ∨ ((0 : Int) ≤ v62.toInt ∧ v62.toInt ≤ x58.toInt)) ∧ mS T n (nuP T n (0 : Int) x58.toInt (nuP T n (0 : Int) x3.toInt s)) m60 ∧ nuV T n (0 : Int) x58.toInt (nuP T n (0 : Int) x3.toInt s) v62.toInt)) ∧ ((¬ (gi m60 221 8).toInt = 0 ∨ (gi m5 221 8).toInt = 0) ∧ 0 ≤ (gi m60 221 8).toInt ∧ (gi m60 221 34).toInt = (gi m5 221 34).toInt ∧ gn (ga m60 223) (gi m60 221 34).toInt = gn (ga m5 223) (gi m5 221 34).toInt ∧ gn (ga m60 224) (gi m60 221 34).toInt = gn (ga m5 224) (gi m5 221 34).toInt ∧ gn (ga m60 228) (gi m60 221 34).toInt = gn (ga m5 228) (gi m5 221 34).toInt ∧ gn (ga m60 233) (gi m60 221 34).toInt = gn (ga m5 233) (gi m5 221 34).toInt)) → (gi m60 221 8).toInt ≤ 0 → ∀ (x64 : Int32), x64.toInt = (8 * (v62).toInt) → ∀ (x66 : Int32), x66.toInt = ((8 * (v62).toInt) + (v7).toInt) → ∀ (x68 : Int32), x68.toInt = (64 * (gi m60 221 34).toInt) → ∀ (x70 : Int32), x70.toInt = ((64 * (gi m60 221 34).toInt) + ((8 * (v62).toInt) + (v7).toInt)) → ∀ (y72 : Int32), y72.toInt = (gn (ga m60 227) ((64 * (gi m60 221 34).toInt) + ((8 * (v62).toInt) + (v7).toInt))) → (gn (ga m60 227) ((64 * (gi m60 221 34).toInt) + ((8 * (v62).toInt) + (v7).toInt))) = 1 → aTm aT0 (si (si m60 221 8 4) 221 9 (gi m5 221 4)) → P (some (.int x66)) (si (si m60 221 8 4) 221 9 (gi m5 221 4))) (h12 : ∀ (y1 : Int32), y1.toInt = (gn (ga mem 223) (gi mem 221 34).toInt) → ∀ (x3 : Int32), x3.toInt = ((gn (ga mem 223) (gi mem 221 34).toInt) - 1) → ∀ (v7 : Int32) (m5 : zM), aTm aT0 m5 → ((tQ mem m5 ∧ ((¬ (gi m5 221 8).toInt = 0 ∨ ((0 : Int) ≤ v7.toInt ∧ v7.toInt ≤ x3.toInt)) ∧ mS T n (nuP T n (0 : Int) x3.toInt s) m5 ∧ nuV T n (0 : Int) x3.toInt s v7.toInt)) ∧ ((¬ (gi m5 221 8).toInt = 0 ∨ (gi mem 221 8).toInt = 0) ∧ 0 ≤ (gi m5 221 8).toInt ∧ (gi m5 221 34).toInt = (gi mem 221 34).toInt ∧ gn (ga m5 223) (gi m5 221 34).toInt = gn (ga mem 223) (gi mem 221 34).toInt ∧ gn (ga m5 224) (gi m5 221 34).toInt = gn (ga mem 224) (gi mem 221 34).toInt ∧ gn (ga m5 228) (gi m5 221 34).toInt = gn (ga mem 228) (gi mem 221 34).toInt ∧ gn (ga m5 233) (gi m5 221 34).toInt = gn (ga mem 233) (gi mem 221 34).toInt)) → ¬ (gi m5 221 12).toInt = (-1) → 0 < (gi m5 221 8).toInt → ∀ (y56 : Int32), y56.toInt = (gn (ga m5 224) (gi m5 221 34).toInt) → ∀ (x58 : Int32), x58.toInt = ((gn (ga m5 224) (gi m5 221 34).toInt) - 1) → ∀ (v62 : Int32) (m60 : zM), aTm aT0 m60 → ((tQ m5 m60 ∧ ((¬ (gi m60 221 8).toInt = 0 ∨ ((0 : Int) ≤ v62.toInt ∧ v62.toInt ≤ x58.toInt)) ∧ mS T n (nuP T n (0 : Int) x58.toInt (nuP T n (0 : Int) x3.toInt s)) m60 ∧ nuV T n (0 : Int) x58.toInt (nuP T n (0 : Int) x3.toInt s) v62.toInt)) ∧ ((¬ (gi m60 221 8).toInt = 0 ∨ (gi m5 221 8).toInt = 0) ∧ 0 ≤ (gi m60 221 8).toInt ∧ (gi m60 221 34).toInt = (gi m5 221 34).toInt ∧ gn (ga m60 223) (gi m60 221 34).toInt = gn (ga m5 223) (gi m5 221 34).toInt ∧ gn (ga m60 224) (gi m60 221 34).toInt = gn (ga m5 224) (gi m5 221 34).toInt ∧ gn (ga m60 228) (gi m60 221 34).toInt = gn (ga m5 228) (gi m5 221 34).toInt ∧ gn (ga m60 233) (gi m60 221 34).toInt = gn (ga m5 233) (gi m5 221 34).toInt)) → (gi m60 221 8).toInt ≤ 0 → ∀ (x64 : Int32), x64.toInt = (8 * (v62).toInt) → ∀ (x66 : Int32), x66.toInt = ((8 * (v62).toInt) + (v7).toInt) → ∀ (x68 : Int32), x68.toInt = (64 * (gi m60 221 34).toInt) → ∀ (x70 : Int32), x70.toInt = ((64 * (gi m60 221 34).toInt) + ((8 * (v62).toInt) + (v7).toInt)) → ∀ (y72 : Int32), y72.toInt = (gn (ga m60 227) ((64 * (gi m60 221 34).toInt) + ((8 * (v62).toInt) + (v7).toInt))) → ¬ (gn (ga m60 227) ((64 * (gi m60 221 34).toInt) + ((8 * (v62).toInt) + (v7).toInt))) = 1 → (iw).toInt = 0 → aTm aT0 m60 → P (some (.int x66)) m60) (h13 : ∀ (y1 : Int32), y1.toInt = (gn (ga mem 223) (gi mem 221 34).toInt) → ∀ (x3 : Int32), x3.toInt = ((gn (ga mem 223) (gi mem 221 34).toInt) - 1) → ∀ (v7 : Int32) (m5 : zM), aTm aT0 m5 → ((tQ mem m5 ∧ ((¬ (gi m5 221 8).toInt = 0 ∨ ((0 : Int) ≤ v7.toInt ∧ v7.toInt ≤ x3.toInt)) ∧ mS T n (nuP T n (0 : Int) x3.toInt s) m5 ∧ nuV T n (0 : Int) x3.toInt s v7.toInt)) ∧ ((¬ (gi m5 221 8).toInt = 0 ∨ (gi mem 221 8).toInt = 0) ∧ 0 ≤ (gi m5 221 8).toInt ∧ (gi m5 221 34).toInt = (gi mem 221 34).toInt ∧ gn (ga m5 223) (gi m5 221 34).toInt = gn (ga mem 223) (gi mem 221 34).toInt ∧ gn (ga m5 224) (gi m5 221 34).toInt = gn (ga mem 224) (gi mem 221 34).toInt ∧ gn (ga m5 228) (gi m5 221 34).toInt = gn (ga mem 228) (gi mem 221 34).toInt ∧ gn (ga m5 233) (gi m5 221 34).toInt = gn (ga mem 233) (gi mem 221 34).toInt)) → ¬ (gi m5 221 12).toInt = (-1) → 0 < (gi m5 221 8).toInt → ∀ (y56 : Int32), y56.toInt = (gn (ga m5 224) (gi m5 221 34).toInt) → ∀ (x58 : Int32), x58.toInt = ((gn (ga m5 224) (gi m5 221 34).toInt) - 1) → ∀ (v62 : Int32) (m60 : zM), aTm aT0 m60 → ((tQ m5 m60 ∧ ((¬ (gi m60 221 8).toInt = 0 ∨ ((0 : Int) ≤ v62.toInt ∧ v62.toInt ≤ x58.toInt)) ∧ mS T n (nuP T n (0 : Int) x58.toInt (nuP T n (0 : Int) x3.toInt s)) m60 ∧ nuV T n (0 : Int) x58.toInt (nuP T n (0 : Int) x3.toInt s) v62.toInt)) ∧ ((¬ (gi m60 221 8).toInt = 0 ∨ (gi m5 221 8).toInt = 0) ∧ 0 ≤ (gi m60 221 8).toInt ∧ (gi m60 221 34).toInt = (gi m5 221 34).toInt ∧ gn (ga m60 223) (gi m60 221 34).toInt = gn (ga m5 223) (gi m5 221 34).toInt ∧ gn (ga m60 224) (gi m60 221 34).toInt = gn (ga m5 224) (gi m5 221 34).toInt ∧ gn (ga m60 228) (gi m60 221 34).toInt = gn (ga m5 228) (gi m5 221 34).toInt ∧ gn (ga m60 233) (gi m60 221 34).toInt = gn (ga m5 233) (gi m5 221 34).toInt)) → (gi m60 221 8).toInt ≤ 0 → ∀ (x64 : Int32), x64.toInt = (8 * (v62).toInt) → ∀ (x66 : Int32), x66.toInt = ((8 * (v62).toInt) + (v7).toInt) → ∀ (x68 : Int32), x68.toInt = (64 * (gi m60 221 34).toInt) → ∀ (x70 : Int32), x70.toInt = ((64 * (gi m60 221 34).toInt) + ((8 * (v62).toInt) + (v7).toInt)) → ∀ (y72 : Int32), y72.toInt = (gn (ga m60 227) ((64 * (gi m60 221 34).toInt) + ((8 * (v62).toInt) + (v7).toInt))) → ¬ (gn (ga m60 227) ((64 * (gi m60 221 34).toInt) + ((8 * (v62).toInt) + (v7).toInt))) = 1 → ¬ (iw).toInt = 0 → ∀ (v76 : Int32), iwQ m60 x66.toInt v76.toInt → (v76).toInt = 0 → aTm aT0 m60 → P (some (.int x66)) m60) (h14 : ∀ (y1 : Int32), y1.toInt = (gn (ga mem 223) (gi mem 221 34).toInt) → ∀ (x3 : Int32), x3.toInt = ((gn (ga mem 223) (gi mem 221 34).toInt) - 1) → ∀ (v7 : Int32) (m5 : zM), aTm aT0 m5 → ((tQ mem m5 ∧ ((¬ (gi m5 221 8).toInt = 0 ∨ ((0 : Int) ≤ v7.toInt ∧ v7.toInt ≤ x3.toInt)) ∧ mS T n (nuP T n (0 : Int) x3.toInt s) m5 ∧ nuV T n (0 : Int) x3.toInt s v7.toInt)) ∧ ((¬ (gi m5 221 8).toInt = 0 ∨ (gi mem 221 8).toInt = 0) ∧ 0 ≤ (gi m5 221 8).toInt ∧ (gi m5 221 34).toInt = (gi mem 221 34).toInt ∧ gn (ga m5 223) (gi m5 221 34).toInt = gn (ga mem 223) (gi mem 221 34).toInt ∧ gn (ga m5 224) (gi m5 221 34).toInt = gn (ga mem 224) (gi mem 221 34).toInt ∧ gn (ga m5 228) (gi m5 221 34).toInt = gn (ga mem 228) (gi mem 221 34).toInt ∧ gn (ga m5 233) (gi m5 221 34).toInt = gn (ga mem 233) (gi mem 221 34).toInt)) → ¬ (gi m5 221 12).toInt = (-1) → 0 < (gi m5 221 8).toInt → ∀ (y56 : Int32), y56.toInt = (gn (ga m5 224) (gi m5 221 34).toInt) → ∀ (x58 : Int32), x58.toInt = ((gn (ga m5 224) (gi m5 221 34).toInt) - 1) → ∀ (v62 : Int32) (m60 : zM), aTm aT0 m60 → ((tQ m5 m60 ∧ ((¬ (gi m60 221 8).toInt = 0 ∨ ((0 : Int) ≤ v62.toInt ∧ v62.toInt ≤ x58.toInt)) ∧ mS T n (nuP T n (0 : Int) x58.toInt (nuP T n (0 : Int) x3.toInt s)) m60 ∧ nuV T n (0 : Int) x58.toInt (nuP T n (0 : Int) x3.toInt s) v62.toInt)) ∧ ((¬ (gi m60 221 8).toInt = 0 ∨ (gi m5 221 8).toInt = 0) ∧ 0 ≤ (gi m60 221 8).toInt ∧ (gi m60 221 34).toInt = (gi m5 221 34).toInt ∧ gn (ga m60 223) (gi m60 221 34).toInt = gn (ga m5 223) (gi m5 221 34).toInt ∧ gn (ga m60 224) (gi m60 221 34).toInt = gn (ga m5 224) (gi m5 221 34).toInt ∧ gn (ga m60 228) (gi m60 221 34).toInt = gn (ga m5 228) (gi m5 221 34).toInt ∧ gn (ga m60 233) (gi m60 221 34).toInt = gn (ga m5 233) (gi m5 221 34).toInt)) → (gi m60 221 8).toInt ≤ 0 → ∀ (x64 : Int32), x64.toInt = (8 * (v62).toInt) → ∀ (x66 : Int32), x66.toInt = ((8 * (v62).toInt) + (v7).toInt) → ∀ (x68 : Int32), x68.toInt = (64 * (gi m60 221 34).toInt) → ∀ (x70 : Int32), x70.toInt = ((64 * (gi m60 221 34).toInt) + ((8 * (v62).toInt) + (v7).toInt)) → ∀ (y72 : Int32), y72.toInt = (gn (ga m60 227) ((64 * (gi m60 221 34).toInt) + ((8 * (v62).toInt) + (v7).toInt))) → ¬ (gn (ga m60 227) ((64 * (gi m60 221 34).toInt) + ((8 * (v62).toInt) + (v7).toInt))) = 1 → ¬ (iw).toInt = 0 → ∀ (v76 : Int32), iwQ m60 x66.toInt v76.toInt → ¬ (v76).toInt = 0 → aTm aT0 (si (si m60 221 8 4) 221 9 (gi m5 221 4)) → P (some (.int x66)) (si (si m60 221 8 4) 221 9 (gi m5 221 4))) (h15 : ∀ (y1 : Int32), y1.toInt = (gn (ga mem 223) (gi mem 221 34).toInt) → ∀ (x3 : Int32), x3.toInt = ((gn (ga mem 223) (gi mem 221 34).toInt) - 1) → ∀ (v7 : Int32) (m5 : zM), aTm aT0 m5 → ((tQ mem m5 ∧ ((¬ (gi m5 221 8).toInt = 0 ∨ ((0 : Int) ≤ v7.toInt ∧ v7.toInt ≤ x3.toInt)) ∧ mS T n (nuP T n (0 : Int) x3.toInt s) m5 ∧ nuV T n (0 : Int) x3.toInt s v7.toInt)) ∧ ((¬ (gi m5 221 8).toInt = 0 ∨ (gi mem 221 8).toInt = 0) ∧ 0 ≤ (gi m5 221 8).toInt ∧ (gi m5 221 34).toInt = (gi mem 221 34).toInt ∧ gn (ga m5 223) (gi m5 221 34).toInt = gn (ga mem 223) (gi mem 221 34).toInt ∧ gn (ga m5 224) (gi m5 221 34).toInt = gn (ga mem 224) (gi mem 221 34).toInt ∧ gn (ga m5 228) (gi m5 221 34).toInt = gn (ga mem 228) (gi mem 221 34).toInt ∧ gn (ga m5 233) (gi m5 221 34).toInt = gn (ga mem 233) (gi mem 221 34).toInt)) → ¬ (gi m5 221 12).toInt = (-1) → 0 < (gi m5 221 8).toInt → ∀ (y56 : Int32), y56.toInt = (gn (ga m5 224) (gi m5 221 34).toInt) → ∀ (x58 : Int32), x58.toInt = ((gn (ga m5 224) (gi m5 221 34).toInt) - 1) → ∀ (v62 : Int32) (m60 : zM), aTm aT0 m60 → ((tQ m5 m60 ∧ ((¬ (gi m60 221 8).toInt = 0 ∨ ((0 : Int) ≤ v62.toInt ∧ v62.toInt ≤ x58.toInt)) ∧ mS T n (nuP T n (0 : Int) x58.toInt (nuP T n (0 : Int) x3.toInt s)) m60 ∧ nuV T n (0 : Int) x58.toInt (nuP T n (0 : Int) x3.toInt s) v62.toInt)) ∧ ((¬ (gi m60 221 8).toInt = 0 ∨ (gi m5 221 8).toInt = 0) ∧ 0 ≤ (gi m60 221 8).toInt ∧ (gi m60 221 34).toInt = (gi m5 221 34).toInt ∧ gn (ga m60 223) (gi m60 221 34).toInt = gn (ga m5 223) (gi m5 221 34).toInt ∧ gn (ga m60 224) (gi m60 221 34).toInt = gn (ga m5 224) (gi m5 221 34).toInt ∧ gn (ga m60 228) (gi m60 221 34).toInt = gn (ga m5 228) (gi m5 221 34).toInt ∧ gn (ga m60 233) (gi m60 221 34).toInt = gn (ga m5 233) (gi m5 221 34).toInt)) → 0 < (gi m60 221 8).toInt → aTm aT0 m60 → P (some (.int 0)) m60) : yR zpg tX12_cellTold (d + 4) (0, [(0, .ref 221), (1, .int iw)], [], mem) P := by
  obtain ⟨i0, i1⟩ := mO_r34 hm
  refine yR_m 3 (fun _ _ _ _ => rfl) ?_
  refine wR_gr rfl mO_e mO_14 hm ?_
  refine yR_m 1 (fun _ _ _ _ => rfl) ?_
  refine wR_gi rfl mO_e mO_34 hm rfl ?_
  refine wN_al (a := (gi mem 221 34).toInt) rfl aR_223 hm rfl rfl (by omega) (fun y1 e2 => ?_)
  refine yR_m 1 (fun _ _ _ _ => rfl) ?_
  refine wN_sub (a := (gn (ga mem 223) (gi mem 221 34).toInt)) (b := 1) rfl e2 rfl (by omega) (fun x3 e4 => ?_)
  refine wR_cv rfl rfl mO_e hm rfl (pk_i (h_cy (b8 := (gi mem 221 8).toInt) rfl rfl rfl rfl rfl rfl rfl (fun _ _ q => by obtain ⟨_, _, _, q⟩ := q; exact q.1) (h_numS5 (T := T) (n := n) (ai := (0 : Int)) (bi := x3.toInt) rfl rfl hm hT hS (by omega)))) ?_
  rintro _ m5 ⟨v7, rfl, hm5, k6⟩
  show yR zpg tX12_cellTold (d + 4) (16, [(0, .ref 221), (1, .int iw)], [.int v7], m5) _
  refine yR_m 2 (fun _ _ _ _ => rfl) ?_
  refine wR_iv rfl rfl mO_e hm5 rfl rfl rfl rfl ?_
  show yR zpg tX12_lex (d + 3) (0, [(0, .ref 221)], [], m5) _
  refine yR_m 1 (fun _ _ _ _ => rfl) ?_
  refine wR_gi rfl mO_e mO_12 hm5 rfl ?_
  refine yR_m 1 (fun _ _ _ _ => rfl) ?_
  refine wR_ic_eq rfl (a := (gi m5 221 12).toInt) (c := (-1)) rfl tm1 (fun q8 => ?_) (fun q8 => ?_)
  ·
    refine yR_rv rfl ?_
    show yR zpg tX12_cellTold (d + 4) (21, [(2, .int v7), (0, .ref 221), (1, .int iw)], [], m5) _
    refine yR_m 1 (fun _ _ _ _ => rfl) ?_
    refine wR_gi rfl mO_e mO_4 hm5 rfl ?_
    refine yR_m 4 (fun _ _ _ _ => rfl) ?_
    refine wR_gr rfl mO_e mO_15 hm5 ?_
    refine yR_m 1 (fun _ _ _ _ => rfl) ?_
    refine wR_gi rfl mO_e mO_34 hm5 rfl ?_
    refine wN_al (a := (gi m5 221 34).toInt) rfl aR_224 hm5 rfl rfl (by omega) (fun y9 e10 => ?_)
    refine yR_m 1 (fun _ _ _ _ => rfl) ?_
    refine wN_sub (a := (gn (ga m5 224) (gi m5 221 34).toInt)) (b := 1) rfl e10 rfl (by omega) (fun x11 e12 => ?_)
    refine wR_cv rfl rfl mO_e hm5 rfl (pk_i (h_cy (b8 := (gi m5 221 8).toInt) rfl rfl rfl rfl rfl rfl rfl (fun _ _ q => by obtain ⟨_, _, _, q⟩ := q; exact q.1) (h_numS5 (T := T) (n := n) (ai := (0 : Int)) (bi := x11.toInt) rfl rfl hm5 k6.1.1.2.1 k6.1.2.2.1 (by omega)))) ?_
    rintro _ m13 ⟨v15, rfl, hm13, k14⟩
    show yR zpg tX12_cellTold (d + 4) (42, [(3, .int (gi m5 221 4)), (2, .int v7), (0, .ref 221), (1, .int iw)], [.int v15], m13) _
    refine yR_m 2 (fun _ _ _ _ => rfl) ?_
    refine wR_gi rfl mO_e mO_8 hm13 rfl ?_
    refine wR_if_le rfl (a := (gi m13 221 8).toInt) rfl (fun q16 => ?_) (fun q16 => ?_)
    ·
      refine yR_m 2 (fun _ _ _ _ => rfl) ?_
      refine wN_mul (a := 8) (b := (v15).toInt) rfl rfl rfl (by omega) (fun x17 e18 => ?_)
      refine yR_m 1 (fun _ _ _ _ => rfl) ?_
      refine wN_add (a := (8 * (v15).toInt)) (b := (v7).toInt) rfl e18 rfl (by omega) (fun x19 e20 => ?_)
      refine yR_m 2 (fun _ _ _ _ => rfl) ?_
      refine wR_gr rfl mO_e mO_18 hm13 ?_
      refine yR_m 2 (fun _ _ _ _ => rfl) ?_
      refine wR_gi rfl mO_e mO_34 hm13 rfl ?_
      refine wN_mul (a := 64) (b := (gi m13 221 34).toInt) rfl rfl rfl (by omega) (fun x21 e22 => ?_)
      refine yR_m 1 (fun _ _ _ _ => rfl) ?_
      refine wN_add (a := (64 * (gi m13 221 34).toInt)) (b := ((8 * (v15).toInt) + (v7).toInt)) rfl e22 e20 (by omega) (fun x23 e24 => ?_)
      refine wN_al (a := ((64 * (gi m13 221 34).toInt) + ((8 * (v15).toInt) + (v7).toInt))) rfl aR_227 hm13 rfl e24 (by omega) (fun y25 e26 => ?_)
      refine yR_m 1 (fun _ _ _ _ => rfl) ?_
      refine wR_ic_eq rfl (a := (gn (ga m13 227) ((64 * (gi m13 221 34).toInt) + ((8 * (v15).toInt) + (v7).toInt)))) (c := 1) e26 rfl (fun q27 => ?_) (fun q27 => ?_)
      ·
        refine yR_m 3 (fun _ _ _ _ => rfl) ?_
        refine wR_iv rfl rfl mO_e hm13 rfl rfl rfl rfl ?_
        show yR zpg tX12_blame (d + 3) (0, [(0, .ref 221), (1, .int 4), (2, .int (gi m5 221 4))], [], m13) _
        refine yR_m 1 (fun _ _ _ _ => rfl) ?_
        refine wR_gi rfl mO_e mO_8 hm13 rfl ?_
        refine wR_if_le rfl (a := (gi m13 221 8).toInt) rfl (fun _ => ?_) (fun q => by exfalso; omega)
        refine yR_m 2 (fun _ _ _ _ => rfl) ?_
        refine wR_pi rfl mO_e mO_8 hm13 rfl ?_
        have hm_1 : aTm aT0 (si m13 221 8 4) := tm_si mO_e mO_8 hm13 (i32_b _)
        refine yR_m 2 (fun _ _ _ _ => rfl) ?_
        refine wR_pi rfl mO_e mO_9 hm_1 rfl ?_
        have hm_2 : aTm aT0 (si (si m13 221 8 4) 221 9 (gi m5 221 4)) := tm_si mO_e mO_9 hm_1 (i32_b _)
        refine yR_rv rfl ?_
        show yR zpg tX12_cellTold (d + 4) (100, [(5, .int x19), (4, .int v15), (3, .int (gi m5 221 4)), (2, .int v7), (0, .ref 221), (1, .int iw)], [], (si (si m13 221 8 4) 221 9 (gi m5 221 4))) _
        refine yR_m 1 (fun _ _ _ _ => rfl) ?_
        exact yR_ri rfl (h1 y1 e2 x3 e4 v7 m5 hm5 k6 q8 y9 e10 x11 e12 v15 m13 hm13 k14 q16 x17 e18 x19 e20 x21 e22 x23 e24 y25 e26 q27 hm_2)
      ·
        refine yR_m 1 (fun _ _ _ _ => rfl) ?_
        refine wR_if_eq rfl (a := (iw).toInt) rfl (fun q28 => ?_) (fun q28 => ?_)
        ·
          refine yR_m 1 (fun _ _ _ _ => rfl) ?_
          exact yR_ri rfl (h2 y1 e2 x3 e4 v7 m5 hm5 k6 q8 y9 e10 x11 e12 v15 m13 hm13 k14 q16 x17 e18 x19 e20 x21 e22 x23 e24 y25 e26 q27 q28 hm13)
        ·
          refine yR_m 2 (fun _ _ _ _ => rfl) ?_
          refine wR_cv rfl rfl mO_e hm13 rfl (h_iwF hm13 (by omega)) ?_
          rintro _ _ ⟨v29, rfl, rfl, k30⟩
          show yR zpg tX12_cellTold (d + 4) (91, [(5, .int x19), (4, .int v15), (3, .int (gi m5 221 4)), (2, .int v7), (0, .ref 221), (1, .int iw)], [.int v29], m13) _
          refine wR_if_eq rfl (a := (v29).toInt) rfl (fun q31 => ?_) (fun q31 => ?_)
          ·
            refine yR_m 1 (fun _ _ _ _ => rfl) ?_
            exact yR_ri rfl (h3 y1 e2 x3 e4 v7 m5 hm5 k6 q8 y9 e10 x11 e12 v15 m13 hm13 k14 q16 x17 e18 x19 e20 x21 e22 x23 e24 y25 e26 q27 q28 v29 k30 q31 hm13)
          ·
            refine yR_m 3 (fun _ _ _ _ => rfl) ?_
            refine wR_iv rfl rfl mO_e hm13 rfl rfl rfl rfl ?_
            show yR zpg tX12_blame (d + 3) (0, [(0, .ref 221), (1, .int 4), (2, .int (gi m5 221 4))], [], m13) _
            refine yR_m 1 (fun _ _ _ _ => rfl) ?_
            refine wR_gi rfl mO_e mO_8 hm13 rfl ?_
            refine wR_if_le rfl (a := (gi m13 221 8).toInt) rfl (fun _ => ?_) (fun q => by exfalso; omega)
            refine yR_m 2 (fun _ _ _ _ => rfl) ?_
            refine wR_pi rfl mO_e mO_8 hm13 rfl ?_
            have hm_3 : aTm aT0 (si m13 221 8 4) := tm_si mO_e mO_8 hm13 (i32_b _)
            refine yR_m 2 (fun _ _ _ _ => rfl) ?_
            refine wR_pi rfl mO_e mO_9 hm_3 rfl ?_
            have hm_4 : aTm aT0 (si (si m13 221 8 4) 221 9 (gi m5 221 4)) := tm_si mO_e mO_9 hm_3 (i32_b _)
            refine yR_rv rfl ?_
            show yR zpg tX12_cellTold (d + 4) (100, [(5, .int x19), (4, .int v15), (3, .int (gi m5 221 4)), (2, .int v7), (0, .ref 221), (1, .int iw)], [], (si (si m13 221 8 4) 221 9 (gi m5 221 4))) _
            refine yR_m 1 (fun _ _ _ _ => rfl) ?_
            exact yR_ri rfl (h4 y1 e2 x3 e4 v7 m5 hm5 k6 q8 y9 e10 x11 e12 v15 m13 hm13 k14 q16 x17 e18 x19 e20 x21 e22 x23 e24 y25 e26 q27 q28 v29 k30 q31 hm_4)
    ·
      refine yR_m 1 (fun _ _ _ _ => rfl) ?_
      exact yR_ri rfl (h5 y1 e2 x3 e4 v7 m5 hm5 k6 q8 y9 e10 x11 e12 v15 m13 hm13 k14 q16 hm13)
  ·
    refine yR_m 3 (fun _ _ _ _ => rfl) ?_
    refine wR_gi rfl mO_e mO_12 hm5 rfl ?_
    refine wR_iv rfl rfl mO_e hm5 rfl rfl rfl rfl ?_
    show yR zpg tX12_blame (d + 2) (0, [(0, .ref 221), (1, .int 1), (2, .int (gi m5 221 12))], [], m5) _
    refine yR_m 1 (fun _ _ _ _ => rfl) ?_
    refine wR_gi rfl mO_e mO_8 hm5 rfl ?_
    refine wR_if_le rfl (a := (gi m5 221 8).toInt) rfl (fun q32 => ?_) (fun q32 => ?_)
    ·
      refine yR_m 2 (fun _ _ _ _ => rfl) ?_
      refine wR_pi rfl mO_e mO_8 hm5 rfl ?_
      have hm_5 : aTm aT0 (si m5 221 8 1) := tm_si mO_e mO_8 hm5 (i32_b _)
      refine yR_m 2 (fun _ _ _ _ => rfl) ?_
      refine wR_pi rfl mO_e mO_9 hm_5 rfl ?_
      have hm_6 : aTm aT0 (si (si m5 221 8 1) 221 9 (gi m5 221 12)) := tm_si mO_e mO_9 hm_5 (i32_b _)
      refine yR_rv rfl ?_
      show yR zpg tX12_lex (d + 3) (17, [(0, .ref 221)], [], (si (si m5 221 8 1) 221 9 (gi m5 221 12))) _
      refine yR_rv rfl ?_
      show yR zpg tX12_cellTold (d + 4) (21, [(2, .int v7), (0, .ref 221), (1, .int iw)], [], (si (si m5 221 8 1) 221 9 (gi m5 221 12))) _
      refine yR_m 1 (fun _ _ _ _ => rfl) ?_
      refine wR_gi rfl mO_e mO_4 hm_6 ((gi_sv_ne (by decide)).trans (gi_sv_ne (by decide))) ?_
      refine yR_m 4 (fun _ _ _ _ => rfl) ?_
      refine wR_gr rfl mO_e mO_15 hm_6 ?_
      refine yR_m 1 (fun _ _ _ _ => rfl) ?_
      refine wR_gi rfl mO_e mO_34 hm_6 ((gi_sv_ne (by decide)).trans (gi_sv_ne (by decide))) ?_
      refine wN_al (a := (gi m5 221 34).toInt) rfl aR_224 hm_6 ((ga_sv).trans (ga_sv)) rfl (by omega) (fun y33 e34 => ?_)
      refine yR_m 1 (fun _ _ _ _ => rfl) ?_
      refine wN_sub (a := (gn (ga m5 224) (gi m5 221 34).toInt)) (b := 1) rfl e34 rfl (by omega) (fun x35 e36 => ?_)
      refine wR_cv rfl rfl mO_e hm_6 rfl (pk_i (h_cy (b8 := (1 : Int)) rfl ((gi_sv_ne (by decide)).trans (gi_sv_ne (by decide))) ((gi_sv_ne (by decide)).trans (gi_si_eq mO_e mO_8 hm5)) (((ga_sv).trans (ga_sv))) (((ga_sv).trans (ga_sv))) (((ga_sv).trans (ga_sv))) (((ga_sv).trans (ga_sv))) (fun _ _ q => by obtain ⟨_, _, _, q⟩ := q; exact q.1) (h_numS5 (T := T) (n := n) (ai := (0 : Int)) (bi := x35.toInt) rfl rfl hm_6 (tOK_fr (ks := [223, 224, 225, 226, 227, 228, 229, 230, 231, 232, 233, 234, 235, 236, 237, 240, 241]) (is := [8, 9]) (fr_sv rfl (fr_sv rfl (fr_rf))) rfl rfl rfl rfl (by show 0 ≤ (gi (si (si m5 221 8 1) 221 9 (gi m5 221 12)) 221 8).toInt; rw [((gi_sv_ne (by decide)).trans (gi_eqO (isO_of hm5) (by decide)))]; decide) k6.1.1.2.1) (mS_no (by show 1 ≤ (gi _ 221 8).toInt; rw [((gi_sv_ne (by decide)).trans (gi_eqO (isO_of hm5) (by decide)))]; decide) rfl) (by omega)))) ?_
      rintro _ m37 ⟨v39, rfl, hm37, k38⟩
      show yR zpg tX12_cellTold (d + 4) (42, [(3, .int (gi m5 221 4)), (2, .int v7), (0, .ref 221), (1, .int iw)], [.int v39], m37) _
      refine yR_m 2 (fun _ _ _ _ => rfl) ?_
      refine wR_gi rfl mO_e mO_8 hm37 rfl ?_
      refine wR_if_le rfl (a := (gi m37 221 8).toInt) rfl (fun q40 => ?_) (fun q40 => ?_)
      ·
        refine yR_m 2 (fun _ _ _ _ => rfl) ?_
        refine wN_mul (a := 8) (b := (v39).toInt) rfl rfl rfl (by omega) (fun x41 e42 => ?_)
        refine yR_m 1 (fun _ _ _ _ => rfl) ?_
        refine wN_add (a := (8 * (v39).toInt)) (b := (v7).toInt) rfl e42 rfl (by omega) (fun x43 e44 => ?_)
        refine yR_m 2 (fun _ _ _ _ => rfl) ?_
        refine wR_gr rfl mO_e mO_18 hm37 ?_
        refine yR_m 2 (fun _ _ _ _ => rfl) ?_
        refine wR_gi rfl mO_e mO_34 hm37 rfl ?_
        refine wN_mul (a := 64) (b := (gi m37 221 34).toInt) rfl rfl rfl (by omega) (fun x45 e46 => ?_)
        refine yR_m 1 (fun _ _ _ _ => rfl) ?_
        refine wN_add (a := (64 * (gi m37 221 34).toInt)) (b := ((8 * (v39).toInt) + (v7).toInt)) rfl e46 e44 (by omega) (fun x47 e48 => ?_)
        refine wN_al (a := ((64 * (gi m37 221 34).toInt) + ((8 * (v39).toInt) + (v7).toInt))) rfl aR_227 hm37 rfl e48 (by omega) (fun y49 e50 => ?_)
        refine yR_m 1 (fun _ _ _ _ => rfl) ?_
        refine wR_ic_eq rfl (a := (gn (ga m37 227) ((64 * (gi m37 221 34).toInt) + ((8 * (v39).toInt) + (v7).toInt)))) (c := 1) e50 rfl (fun q51 => ?_) (fun q51 => ?_)
        ·
          refine yR_m 3 (fun _ _ _ _ => rfl) ?_
          refine wR_iv rfl rfl mO_e hm37 rfl rfl rfl rfl ?_
          show yR zpg tX12_blame (d + 3) (0, [(0, .ref 221), (1, .int 4), (2, .int (gi m5 221 4))], [], m37) _
          refine yR_m 1 (fun _ _ _ _ => rfl) ?_
          refine wR_gi rfl mO_e mO_8 hm37 rfl ?_
          refine wR_if_le rfl (a := (gi m37 221 8).toInt) rfl (fun _ => ?_) (fun q => by exfalso; omega)
          refine yR_m 2 (fun _ _ _ _ => rfl) ?_
          refine wR_pi rfl mO_e mO_8 hm37 rfl ?_
          have hm_7 : aTm aT0 (si m37 221 8 4) := tm_si mO_e mO_8 hm37 (i32_b _)
          refine yR_m 2 (fun _ _ _ _ => rfl) ?_
          refine wR_pi rfl mO_e mO_9 hm_7 rfl ?_
          have hm_8 : aTm aT0 (si (si m37 221 8 4) 221 9 (gi m5 221 4)) := tm_si mO_e mO_9 hm_7 (i32_b _)
          refine yR_rv rfl ?_
          show yR zpg tX12_cellTold (d + 4) (100, [(5, .int x43), (4, .int v39), (3, .int (gi m5 221 4)), (2, .int v7), (0, .ref 221), (1, .int iw)], [], (si (si m37 221 8 4) 221 9 (gi m5 221 4))) _
          refine yR_m 1 (fun _ _ _ _ => rfl) ?_
          exact yR_ri rfl (h6 y1 e2 x3 e4 v7 m5 hm5 k6 q8 q32 y33 e34 x35 e36 v39 m37 hm37 k38 q40 x41 e42 x43 e44 x45 e46 x47 e48 y49 e50 q51 hm_8)
        ·
          refine yR_m 1 (fun _ _ _ _ => rfl) ?_
          refine wR_if_eq rfl (a := (iw).toInt) rfl (fun q52 => ?_) (fun q52 => ?_)
          ·
            refine yR_m 1 (fun _ _ _ _ => rfl) ?_
            exact yR_ri rfl (h7 y1 e2 x3 e4 v7 m5 hm5 k6 q8 q32 y33 e34 x35 e36 v39 m37 hm37 k38 q40 x41 e42 x43 e44 x45 e46 x47 e48 y49 e50 q51 q52 hm37)
          ·
            refine yR_m 2 (fun _ _ _ _ => rfl) ?_
            refine wR_cv rfl rfl mO_e hm37 rfl (h_iwF hm37 (by omega)) ?_
            rintro _ _ ⟨v53, rfl, rfl, k54⟩
            show yR zpg tX12_cellTold (d + 4) (91, [(5, .int x43), (4, .int v39), (3, .int (gi m5 221 4)), (2, .int v7), (0, .ref 221), (1, .int iw)], [.int v53], m37) _
            refine wR_if_eq rfl (a := (v53).toInt) rfl (fun q55 => ?_) (fun q55 => ?_)
            ·
              refine yR_m 1 (fun _ _ _ _ => rfl) ?_
              exact yR_ri rfl (h8 y1 e2 x3 e4 v7 m5 hm5 k6 q8 q32 y33 e34 x35 e36 v39 m37 hm37 k38 q40 x41 e42 x43 e44 x45 e46 x47 e48 y49 e50 q51 q52 v53 k54 q55 hm37)
            ·
              refine yR_m 3 (fun _ _ _ _ => rfl) ?_
              refine wR_iv rfl rfl mO_e hm37 rfl rfl rfl rfl ?_
              show yR zpg tX12_blame (d + 3) (0, [(0, .ref 221), (1, .int 4), (2, .int (gi m5 221 4))], [], m37) _
              refine yR_m 1 (fun _ _ _ _ => rfl) ?_
              refine wR_gi rfl mO_e mO_8 hm37 rfl ?_
              refine wR_if_le rfl (a := (gi m37 221 8).toInt) rfl (fun _ => ?_) (fun q => by exfalso; omega)
              refine yR_m 2 (fun _ _ _ _ => rfl) ?_
              refine wR_pi rfl mO_e mO_8 hm37 rfl ?_
              have hm_9 : aTm aT0 (si m37 221 8 4) := tm_si mO_e mO_8 hm37 (i32_b _)
              refine yR_m 2 (fun _ _ _ _ => rfl) ?_
              refine wR_pi rfl mO_e mO_9 hm_9 rfl ?_
              have hm_10 : aTm aT0 (si (si m37 221 8 4) 221 9 (gi m5 221 4)) := tm_si mO_e mO_9 hm_9 (i32_b _)
              refine yR_rv rfl ?_
              show yR zpg tX12_cellTold (d + 4) (100, [(5, .int x43), (4, .int v39), (3, .int (gi m5 221 4)), (2, .int v7), (0, .ref 221), (1, .int iw)], [], (si (si m37 221 8 4) 221 9 (gi m5 221 4))) _
              refine yR_m 1 (fun _ _ _ _ => rfl) ?_
              exact yR_ri rfl (h9 y1 e2 x3 e4 v7 m5 hm5 k6 q8 q32 y33 e34 x35 e36 v39 m37 hm37 k38 q40 x41 e42 x43 e44 x45 e46 x47 e48 y49 e50 q51 q52 v53 k54 q55 hm_10)
      ·
        refine yR_m 1 (fun _ _ _ _ => rfl) ?_
        exact yR_ri rfl (h10 y1 e2 x3 e4 v7 m5 hm5 k6 q8 q32 y33 e34 x35 e36 v39 m37 hm37 k38 q40 hm37)
    ·
      refine yR_rv rfl ?_
      show yR zpg tX12_lex (d + 3) (17, [(0, .ref 221)], [], m5) _
      refine yR_rv rfl ?_
      show yR zpg tX12_cellTold (d + 4) (21, [(2, .int v7), (0, .ref 221), (1, .int iw)], [], m5) _
      refine yR_m 1 (fun _ _ _ _ => rfl) ?_
      refine wR_gi rfl mO_e mO_4 hm5 rfl ?_
      refine yR_m 4 (fun _ _ _ _ => rfl) ?_
      refine wR_gr rfl mO_e mO_15 hm5 ?_
      refine yR_m 1 (fun _ _ _ _ => rfl) ?_
      refine wR_gi rfl mO_e mO_34 hm5 rfl ?_
      refine wN_al (a := (gi m5 221 34).toInt) rfl aR_224 hm5 rfl rfl (by omega) (fun y56 e57 => ?_)
      refine yR_m 1 (fun _ _ _ _ => rfl) ?_
      refine wN_sub (a := (gn (ga m5 224) (gi m5 221 34).toInt)) (b := 1) rfl e57 rfl (by omega) (fun x58 e59 => ?_)
      refine wR_cv rfl rfl mO_e hm5 rfl (pk_i (h_cy (b8 := (gi m5 221 8).toInt) rfl rfl rfl rfl rfl rfl rfl (fun _ _ q => by obtain ⟨_, _, _, q⟩ := q; exact q.1) (h_numS5 (T := T) (n := n) (ai := (0 : Int)) (bi := x58.toInt) rfl rfl hm5 k6.1.1.2.1 k6.1.2.2.1 (by omega)))) ?_
      rintro _ m60 ⟨v62, rfl, hm60, k61⟩
      show yR zpg tX12_cellTold (d + 4) (42, [(3, .int (gi m5 221 4)), (2, .int v7), (0, .ref 221), (1, .int iw)], [.int v62], m60) _
      refine yR_m 2 (fun _ _ _ _ => rfl) ?_
      refine wR_gi rfl mO_e mO_8 hm60 rfl ?_
      refine wR_if_le rfl (a := (gi m60 221 8).toInt) rfl (fun q63 => ?_) (fun q63 => ?_)
      ·
        refine yR_m 2 (fun _ _ _ _ => rfl) ?_
        refine wN_mul (a := 8) (b := (v62).toInt) rfl rfl rfl (by omega) (fun x64 e65 => ?_)
        refine yR_m 1 (fun _ _ _ _ => rfl) ?_
        refine wN_add (a := (8 * (v62).toInt)) (b := (v7).toInt) rfl e65 rfl (by omega) (fun x66 e67 => ?_)
        refine yR_m 2 (fun _ _ _ _ => rfl) ?_
        refine wR_gr rfl mO_e mO_18 hm60 ?_
        refine yR_m 2 (fun _ _ _ _ => rfl) ?_
        refine wR_gi rfl mO_e mO_34 hm60 rfl ?_
        refine wN_mul (a := 64) (b := (gi m60 221 34).toInt) rfl rfl rfl (by omega) (fun x68 e69 => ?_)
        refine yR_m 1 (fun _ _ _ _ => rfl) ?_
        refine wN_add (a := (64 * (gi m60 221 34).toInt)) (b := ((8 * (v62).toInt) + (v7).toInt)) rfl e69 e67 (by omega) (fun x70 e71 => ?_)
        refine wN_al (a := ((64 * (gi m60 221 34).toInt) + ((8 * (v62).toInt) + (v7).toInt))) rfl aR_227 hm60 rfl e71 (by omega) (fun y72 e73 => ?_)
        refine yR_m 1 (fun _ _ _ _ => rfl) ?_
        refine wR_ic_eq rfl (a := (gn (ga m60 227) ((64 * (gi m60 221 34).toInt) + ((8 * (v62).toInt) + (v7).toInt)))) (c := 1) e73 rfl (fun q74 => ?_) (fun q74 => ?_)
        ·
          refine yR_m 3 (fun _ _ _ _ => rfl) ?_
          refine wR_iv rfl rfl mO_e hm60 rfl rfl rfl rfl ?_
          show yR zpg tX12_blame (d + 3) (0, [(0, .ref 221), (1, .int 4), (2, .int (gi m5 221 4))], [], m60) _
          refine yR_m 1 (fun _ _ _ _ => rfl) ?_
          refine wR_gi rfl mO_e mO_8 hm60 rfl ?_
          refine wR_if_le rfl (a := (gi m60 221 8).toInt) rfl (fun _ => ?_) (fun q => by exfalso; omega)
          refine yR_m 2 (fun _ _ _ _ => rfl) ?_
          refine wR_pi rfl mO_e mO_8 hm60 rfl ?_
          have hm_11 : aTm aT0 (si m60 221 8 4) := tm_si mO_e mO_8 hm60 (i32_b _)
          refine yR_m 2 (fun _ _ _ _ => rfl) ?_
          refine wR_pi rfl mO_e mO_9 hm_11 rfl ?_
          have hm_12 : aTm aT0 (si (si m60 221 8 4) 221 9 (gi m5 221 4)) := tm_si mO_e mO_9 hm_11 (i32_b _)
          refine yR_rv rfl ?_
          show yR zpg tX12_cellTold (d + 4) (100, [(5, .int x66), (4, .int v62), (3, .int (gi m5 221 4)), (2, .int v7), (0, .ref 221), (1, .int iw)], [], (si (si m60 221 8 4) 221 9 (gi m5 221 4))) _
          refine yR_m 1 (fun _ _ _ _ => rfl) ?_
          exact yR_ri rfl (h11 y1 e2 x3 e4 v7 m5 hm5 k6 q8 q32 y56 e57 x58 e59 v62 m60 hm60 k61 q63 x64 e65 x66 e67 x68 e69 x70 e71 y72 e73 q74 hm_12)
        ·
          refine yR_m 1 (fun _ _ _ _ => rfl) ?_
          refine wR_if_eq rfl (a := (iw).toInt) rfl (fun q75 => ?_) (fun q75 => ?_)
          ·
            refine yR_m 1 (fun _ _ _ _ => rfl) ?_
            exact yR_ri rfl (h12 y1 e2 x3 e4 v7 m5 hm5 k6 q8 q32 y56 e57 x58 e59 v62 m60 hm60 k61 q63 x64 e65 x66 e67 x68 e69 x70 e71 y72 e73 q74 q75 hm60)
          ·
            refine yR_m 2 (fun _ _ _ _ => rfl) ?_
            refine wR_cv rfl rfl mO_e hm60 rfl (h_iwF hm60 (by omega)) ?_
            rintro _ _ ⟨v76, rfl, rfl, k77⟩
            show yR zpg tX12_cellTold (d + 4) (91, [(5, .int x66), (4, .int v62), (3, .int (gi m5 221 4)), (2, .int v7), (0, .ref 221), (1, .int iw)], [.int v76], m60) _
            refine wR_if_eq rfl (a := (v76).toInt) rfl (fun q78 => ?_) (fun q78 => ?_)
            ·
              refine yR_m 1 (fun _ _ _ _ => rfl) ?_
              exact yR_ri rfl (h13 y1 e2 x3 e4 v7 m5 hm5 k6 q8 q32 y56 e57 x58 e59 v62 m60 hm60 k61 q63 x64 e65 x66 e67 x68 e69 x70 e71 y72 e73 q74 q75 v76 k77 q78 hm60)
            ·
              refine yR_m 3 (fun _ _ _ _ => rfl) ?_
              refine wR_iv rfl rfl mO_e hm60 rfl rfl rfl rfl ?_
              show yR zpg tX12_blame (d + 3) (0, [(0, .ref 221), (1, .int 4), (2, .int (gi m5 221 4))], [], m60) _
              refine yR_m 1 (fun _ _ _ _ => rfl) ?_
              refine wR_gi rfl mO_e mO_8 hm60 rfl ?_
              refine wR_if_le rfl (a := (gi m60 221 8).toInt) rfl (fun _ => ?_) (fun q => by exfalso; omega)
              refine yR_m 2 (fun _ _ _ _ => rfl) ?_
              refine wR_pi rfl mO_e mO_8 hm60 rfl ?_
              have hm_13 : aTm aT0 (si m60 221 8 4) := tm_si mO_e mO_8 hm60 (i32_b _)
              refine yR_m 2 (fun _ _ _ _ => rfl) ?_
              refine wR_pi rfl mO_e mO_9 hm_13 rfl ?_
              have hm_14 : aTm aT0 (si (si m60 221 8 4) 221 9 (gi m5 221 4)) := tm_si mO_e mO_9 hm_13 (i32_b _)
              refine yR_rv rfl ?_
              show yR zpg tX12_cellTold (d + 4) (100, [(5, .int x66), (4, .int v62), (3, .int (gi m5 221 4)), (2, .int v7), (0, .ref 221), (1, .int iw)], [], (si (si m60 221 8 4) 221 9 (gi m5 221 4))) _
              refine yR_m 1 (fun _ _ _ _ => rfl) ?_
              exact yR_ri rfl (h14 y1 e2 x3 e4 v7 m5 hm5 k6 q8 q32 y56 e57 x58 e59 v62 m60 hm60 k61 q63 x64 e65 x66 e67 x68 e69 x70 e71 y72 e73 q74 q75 v76 k77 q78 hm_14)
      ·
        refine yR_m 1 (fun _ _ _ _ => rfl) ?_
        exact yR_ri rfl (h15 y1 e2 x3 e4 v7 m5 hm5 k6 q8 q32 y56 e57 x58 e59 v62 m60 hm60 k61 q63 hm60)

theorem h_ceF {iw : Int32} (hm : aTm aT0 mem) (hT : tOK mem) (hQ : mQ (gi mem 221 34).toInt Q mem) (hq : (3 ≤ Qc Q ∧ Qc Q ≤ 7) ∧ 3 ≤ Qr Q ∧ Qr Q ≤ 7) (hS : mS T n s mem) (hd : 5 ≤ d) : yC zpg d 196 [.ref 221, .int iw] mem (fun r m => mS T n (celP T n (¬ iw.toInt = 0) Q s) m ∧ ∃ v : Int32, r = some (.int v) ∧ celV T n (¬ iw.toInt = 0) Q s v.toInt) := by
  obtain ⟨d, rfl⟩ : ∃ q, d = q + 5 := ⟨d - 5, by omega⟩
  have hT8 : 0 ≤ (gi mem 221 8).toInt := hT.2
  have hc : 3 ≤ gn (ga mem 223) (gi mem 221 34).toInt ∧ gn (ga mem 223) (gi mem 221 34).toInt ≤ 7 := by rw [hQ.1.1]; exact hq.1
  have hr : 3 ≤ gn (ga mem 224) (gi mem 221 34).toInt ∧ gn (ga mem 224) (gi mem 221 34).toInt ≤ 7 := by rw [hQ.1.2]; exact hq.2
  have q1 := hQ.1.1
  have q2 := hQ.1.2
  refine yC_of (t := tX12_cellTold) rfl rfl ?_
  exact w_ceF (T := T) (n := n) (s := s) hm hT hS hc hr
        (fun y1 e2 x3 e4 v7 m5 hm5 k6 q8 y9 e10 x11 e12 v15 m13 hm13 k14 q16 x17 e18 x19 e20 x21 e22 x23 e24 y25 e26 q27 hm2 => by
          have eC : x3.toInt = Qc Q - 1 := by omega
          have eR : x11.toInt = Qr Q - 1 := by omega
          have K1 := k6.1.2.2
          have K2 := k14.1.2.2
          rw [eC] at K1 K2
          rw [eR] at K2
          obtain ⟨p, p2, hs, f0, r2, Y⟩ := ce_go K1.2 K2.2 K2.1 (by omega)
          have F : fr [] [3, 4, 5, 6, 7, 8, 9, 12] mem m13 := fr_tr k6.1.1.1 k14.1.1.1
          have hQ2 := mQ_fr F hQ
          have ei : (gi m13 221 34).toInt = (gi mem 221 34).toInt := by omega
          have Wc := hQ2.2.1 (8 * v15.toInt + v7.toInt) (by omega) (by omega)
          rw [← ei] at Wc
          exact ce_bl hs (by show 1 ≤ (gi _ 221 8).toInt; rw [((gi_sv_ne (by decide)).trans (gi_eqO (isO_of hm13) (by decide)))]; decide) (by rw [Y]; exact oif_f (fun w => w.1 (Wc.1 q27))))
        (fun y1 e2 x3 e4 v7 m5 hm5 k6 q8 y9 e10 x11 e12 v15 m13 hm13 k14 q16 x17 e18 x19 e20 x21 e22 x23 e24 y25 e26 q27 q28 hm2 => by
          have eC : x3.toInt = Qc Q - 1 := by omega
          have eR : x11.toInt = Qr Q - 1 := by omega
          have K1 := k6.1.2.2
          have K2 := k14.1.2.2
          rw [eC] at K1 K2
          rw [eR] at K2
          obtain ⟨p, p2, hs, f0, r2, Y⟩ := ce_go K1.2 K2.2 K2.1 (by omega)
          have F : fr [] [3, 4, 5, 6, 7, 8, 9, 12] mem m13 := fr_tr k6.1.1.1 k14.1.1.1
          have hQ2 := mQ_fr F hQ
          have ei : (gi m13 221 34).toInt = (gi mem 221 34).toInt := by omega
          have Wc := hQ2.2.1 (8 * v15.toInt + v7.toInt) (by omega) (by omega)
          rw [← ei] at Wc
          exact ce_ok hs f0 r2 ((Y _).trans (oif_t ⟨fun w => q27 (Wc.2 w), fun w => absurd q28 w⟩)) (by omega))
        (fun y1 e2 x3 e4 v7 m5 hm5 k6 q8 y9 e10 x11 e12 v15 m13 hm13 k14 q16 x17 e18 x19 e20 x21 e22 x23 e24 y25 e26 q27 q28 v29 k30 q31 hm2 => by
          have eC : x3.toInt = Qc Q - 1 := by omega
          have eR : x11.toInt = Qr Q - 1 := by omega
          have K1 := k6.1.2.2
          have K2 := k14.1.2.2
          rw [eC] at K1 K2
          rw [eR] at K2
          obtain ⟨p, p2, hs, f0, r2, Y⟩ := ce_go K1.2 K2.2 K2.1 (by omega)
          have F : fr [] [3, 4, 5, 6, 7, 8, 9, 12] mem m13 := fr_tr k6.1.1.1 k14.1.1.1
          have hQ2 := mQ_fr F hQ
          have ei : (gi m13 221 34).toInt = (gi mem 221 34).toInt := by omega
          have Wc := hQ2.2.1 (8 * v15.toInt + v7.toInt) (by omega) (by omega)
          rw [← ei] at Wc
          have J := iw_iff (Q := Q) (by rw [ei]; exact hQ2.2.2.1) (by rw [ei]; exact hQ2.2.2.2.2.1) k30
          have eX : x19.toInt = 8 * v15.toInt + v7.toInt := by omega
          rw [eX] at J
          rcases J with ⟨j, -⟩ | ⟨-, j⟩
          · exfalso; omega
          · exact ce_ok hs f0 r2 ((Y _).trans (oif_t ⟨fun w => q27 (Wc.2 w), fun _ => j⟩)) eX)
        (fun y1 e2 x3 e4 v7 m5 hm5 k6 q8 y9 e10 x11 e12 v15 m13 hm13 k14 q16 x17 e18 x19 e20 x21 e22 x23 e24 y25 e26 q27 q28 v29 k30 q31 hm2 => by
          have eC : x3.toInt = Qc Q - 1 := by omega
          have eR : x11.toInt = Qr Q - 1 := by omega
          have K1 := k6.1.2.2
          have K2 := k14.1.2.2
          rw [eC] at K1 K2
          rw [eR] at K2
          obtain ⟨p, p2, hs, f0, r2, Y⟩ := ce_go K1.2 K2.2 K2.1 (by omega)
          have F : fr [] [3, 4, 5, 6, 7, 8, 9, 12] mem m13 := fr_tr k6.1.1.1 k14.1.1.1
          have hQ2 := mQ_fr F hQ
          have ei : (gi m13 221 34).toInt = (gi mem 221 34).toInt := by omega
          have Wc := hQ2.2.1 (8 * v15.toInt + v7.toInt) (by omega) (by omega)
          rw [← ei] at Wc
          have J := iw_iff (Q := Q) (by rw [ei]; exact hQ2.2.2.1) (by rw [ei]; exact hQ2.2.2.2.2.1) k30
          have eX : x19.toInt = 8 * v15.toInt + v7.toInt := by omega
          rw [eX] at J
          rcases J with ⟨-, j⟩ | ⟨j, -⟩
          · exact ce_bl hs (by show 1 ≤ (gi _ 221 8).toInt; rw [((gi_sv_ne (by decide)).trans (gi_eqO (isO_of hm13) (by decide)))]; decide) (by rw [Y]; exact oif_f (fun w => w.2 q28 j))
          · exfalso; omega)
        (fun y1 e2 x3 e4 v7 m5 hm5 k6 q8 y9 e10 x11 e12 v15 m13 hm13 k14 q16 hm2 => by
          have eC : x3.toInt = Qc Q - 1 := by omega
          have eR : x11.toInt = Qr Q - 1 := by omega
          have K1 := k6.1.2.2
          have K2 := k14.1.2.2
          rw [eC] at K1 K2
          rw [eR] at K2
          have N : nuP T n 0 (Qr Q - 1) (nuP T n 0 (Qc Q - 1) s) = none := by
            rcases K2.1 with ⟨w, e, f, -⟩ | ⟨w, -⟩
            · exfalso
              have f' : (gi m13 221 8).toInt = 0 := f
              omega
            · exact w
          exact ce_no N (by show 1 ≤ (gi m13 221 8).toInt; omega) rfl)
        (fun y1 e2 x3 e4 v7 m5 hm5 k6 q8 q32 y33 e34 x35 e36 v39 m37 hm37 k38 q40 x41 e42 x43 e44 x45 e46 x47 e48 y49 e50 q51 hm2 => by
          have eC : x3.toInt = Qc Q - 1 := by omega
          have K1 := k6.1.2.2
          have K2 := k38.1.2.2.1
          rw [eC] at K1
          have N := nuP_bad (a := 0) (b := Qr Q - 1) K1.1 q8
          have f2 : 1 ≤ (gi m37 221 8).toInt := by
            rcases K2 with ⟨w, e, -⟩ | ⟨-, w⟩
            · cases e
            · exact w
          exfalso; omega)
        (fun y1 e2 x3 e4 v7 m5 hm5 k6 q8 q32 y33 e34 x35 e36 v39 m37 hm37 k38 q40 x41 e42 x43 e44 x45 e46 x47 e48 y49 e50 q51 q52 hm2 => by
          have eC : x3.toInt = Qc Q - 1 := by omega
          have K1 := k6.1.2.2
          have K2 := k38.1.2.2.1
          rw [eC] at K1
          have N := nuP_bad (a := 0) (b := Qr Q - 1) K1.1 q8
          have f2 : 1 ≤ (gi m37 221 8).toInt := by
            rcases K2 with ⟨w, e, -⟩ | ⟨-, w⟩
            · cases e
            · exact w
          exfalso; omega)
        (fun y1 e2 x3 e4 v7 m5 hm5 k6 q8 q32 y33 e34 x35 e36 v39 m37 hm37 k38 q40 x41 e42 x43 e44 x45 e46 x47 e48 y49 e50 q51 q52 v53 k54 q55 hm2 => by
          have eC : x3.toInt = Qc Q - 1 := by omega
          have K1 := k6.1.2.2
          have K2 := k38.1.2.2.1
          rw [eC] at K1
          have N := nuP_bad (a := 0) (b := Qr Q - 1) K1.1 q8
          have f2 : 1 ≤ (gi m37 221 8).toInt := by
            rcases K2 with ⟨w, e, -⟩ | ⟨-, w⟩
            · cases e
            · exact w
          exfalso; omega)
        (fun y1 e2 x3 e4 v7 m5 hm5 k6 q8 q32 y33 e34 x35 e36 v39 m37 hm37 k38 q40 x41 e42 x43 e44 x45 e46 x47 e48 y49 e50 q51 q52 v53 k54 q55 hm2 => by
          have eC : x3.toInt = Qc Q - 1 := by omega
          have K1 := k6.1.2.2
          have K2 := k38.1.2.2.1
          rw [eC] at K1
          have N := nuP_bad (a := 0) (b := Qr Q - 1) K1.1 q8
          have f2 : 1 ≤ (gi m37 221 8).toInt := by
            rcases K2 with ⟨w, e, -⟩ | ⟨-, w⟩
            · cases e
            · exact w
          exfalso; omega)
        (fun y1 e2 x3 e4 v7 m5 hm5 k6 q8 q32 y33 e34 x35 e36 v39 m37 hm37 k38 q40 hm2 => by
          have eC : x3.toInt = Qc Q - 1 := by omega
          have K1 := k6.1.2.2
          have K2 := k38.1.2.2.1
          rw [eC] at K1
          have N := nuP_bad (a := 0) (b := Qr Q - 1) K1.1 q8
          have f2 : 1 ≤ (gi m37 221 8).toInt := by
            rcases K2 with ⟨w, e, -⟩ | ⟨-, w⟩
            · cases e
            · exact w
          exact ce_no N f2 rfl)
        (fun y1 e2 x3 e4 v7 m5 hm5 k6 q8 q32 y56 e57 x58 e59 v62 m60 hm60 k61 q63 x64 e65 x66 e67 x68 e69 x70 e71 y72 e73 q74 hm2 => by
          have eC : x3.toInt = Qc Q - 1 := by omega
          have eR : x58.toInt = Qr Q - 1 := by omega
          have K1 := k6.1.2.2
          have K2 := k61.1.2.2
          rw [eC] at K1 K2
          rw [eR] at K2
          have N := nuP_bad (a := 0) (b := Qr Q - 1) K1.1 q8
          have f2 : 1 ≤ (gi m60 221 8).toInt := by
            rcases K2.1 with ⟨w, e, -⟩ | ⟨-, w⟩
            · rw [N] at e; cases e
            · exact w
          exfalso; omega)
        (fun y1 e2 x3 e4 v7 m5 hm5 k6 q8 q32 y56 e57 x58 e59 v62 m60 hm60 k61 q63 x64 e65 x66 e67 x68 e69 x70 e71 y72 e73 q74 q75 hm2 => by
          have eC : x3.toInt = Qc Q - 1 := by omega
          have eR : x58.toInt = Qr Q - 1 := by omega
          have K1 := k6.1.2.2
          have K2 := k61.1.2.2
          rw [eC] at K1 K2
          rw [eR] at K2
          have N := nuP_bad (a := 0) (b := Qr Q - 1) K1.1 q8
          have f2 : 1 ≤ (gi m60 221 8).toInt := by
            rcases K2.1 with ⟨w, e, -⟩ | ⟨-, w⟩
            · rw [N] at e; cases e
            · exact w
          exfalso; omega)
        (fun y1 e2 x3 e4 v7 m5 hm5 k6 q8 q32 y56 e57 x58 e59 v62 m60 hm60 k61 q63 x64 e65 x66 e67 x68 e69 x70 e71 y72 e73 q74 q75 v76 k77 q78 hm2 => by
          have eC : x3.toInt = Qc Q - 1 := by omega
          have eR : x58.toInt = Qr Q - 1 := by omega
          have K1 := k6.1.2.2
          have K2 := k61.1.2.2
          rw [eC] at K1 K2
          rw [eR] at K2
          have N := nuP_bad (a := 0) (b := Qr Q - 1) K1.1 q8
          have f2 : 1 ≤ (gi m60 221 8).toInt := by
            rcases K2.1 with ⟨w, e, -⟩ | ⟨-, w⟩
            · rw [N] at e; cases e
            · exact w
          exfalso; omega)
        (fun y1 e2 x3 e4 v7 m5 hm5 k6 q8 q32 y56 e57 x58 e59 v62 m60 hm60 k61 q63 x64 e65 x66 e67 x68 e69 x70 e71 y72 e73 q74 q75 v76 k77 q78 hm2 => by
          have eC : x3.toInt = Qc Q - 1 := by omega
          have eR : x58.toInt = Qr Q - 1 := by omega
          have K1 := k6.1.2.2
          have K2 := k61.1.2.2
          rw [eC] at K1 K2
          rw [eR] at K2
          have N := nuP_bad (a := 0) (b := Qr Q - 1) K1.1 q8
          have f2 : 1 ≤ (gi m60 221 8).toInt := by
            rcases K2.1 with ⟨w, e, -⟩ | ⟨-, w⟩
            · rw [N] at e; cases e
            · exact w
          exfalso; omega)
        (fun y1 e2 x3 e4 v7 m5 hm5 k6 q8 q32 y56 e57 x58 e59 v62 m60 hm60 k61 q63 hm2 => by
          have eC : x3.toInt = Qc Q - 1 := by omega
          have eR : x58.toInt = Qr Q - 1 := by omega
          have K1 := k6.1.2.2
          have K2 := k61.1.2.2
          rw [eC] at K1 K2
          rw [eR] at K2
          have N := nuP_bad (a := 0) (b := Qr Q - 1) K1.1 q8
          have f2 : 1 ≤ (gi m60 221 8).toInt := by
            rcases K2.1 with ⟨w, e, -⟩ | ⟨-, w⟩
            · rw [N] at e; cases e
            · exact w
          exact ce_no N f2 rfl)
end CF
