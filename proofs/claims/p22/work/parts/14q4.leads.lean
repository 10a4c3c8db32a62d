theorem bes_eq {m m' : zM} (h1 : gi m' 221 13 = gi m 221 13) (h2 : gi m' 221 46 = gi m 221 46) (h3 : ga m' 223 = ga m 223) (h4 : ga m' 224 = ga m 224) (h5 : ga m' 227 = ga m 227) : besR m' = besR m ∧ szOK m' = szOK m ∧ frC m' = frC m := by
  have hb : bkN m' = bkN m := by unfold bkN; rw [h1]
  have hc : colsI m' = colsI m := by unfold colsI; rw [hb, h3]
  have hr : rowsI m' = rowsI m := by unfold rowsI; rw [hb, h4]
  have hi : inC m' = inC m := by funext x y; unfold inC; rw [h2, hc, hr]
  have hw : wal m' = wal m := by funext x; unfold wal; rw [hb, h5]
  have hf : frC m' = frC m := by funext x y; unfold frC; rw [hi, hw]
  exact ⟨by funext a b c; unfold besR; rw [hf], by unfold szOK; rw [hc, hr], hf⟩
theorem onl_bes {ks : List Nat} {m m' : zM} (h : onl ks m m') (a : ks.contains 221 = false) (b : ks.contains 223 = false) (c : ks.contains 224 = false) (e : ks.contains 227 = false) : besR m' = besR m ∧ szOK m' = szOK m ∧ frC m' = frC m := bes_eq (onl_gi h a) (onl_gi h a) (onl_ga h b) (onl_ga h c) (onl_ga h e)
/-! roads: what is so while they are led -/
theorem getD_set_eq {α : Type} {l : List α} {i : Nat} {x d : α} (h : i < l.length) : (l.set i x).getD i d = x := by
  rw [List.getD_eq_getElem?_getD, List.getElem?_set_self h]
  rfl
theorem getD_set_ne {α : Type} {l : List α} {i j : Nat} {x d : α} (h : ¬ i = j) : (l.set i x).getD j d = l.getD j d := by
  rw [List.getD_eq_getElem?_getD, List.getElem?_set_ne h, ← List.getD_eq_getElem?_getD]
def cF : List Int32 → Nat
  | [] => 0
  | x :: r => (if x.toInt < 100000000 then 1 else 0) + cF r
theorem cF_le : ∀ l : List Int32, cF l ≤ l.length
  | [] => Nat.le_refl _
  | x :: r => by
    have := cF_le r
    simp only [cF, List.length_cons]
    split <;> omega
theorem cF_set {x : Int32} (hx : x.toInt < 100000000) (l : List Int32) : ∀ (i : Nat), i < l.length → ¬ (l.getD i 0).toInt < 100000000 → cF (l.set i x) = cF l + 1 := by
  induction l with
  | nil => intro i h; simp at h
  | cons y r ih =>
    intro i h h2
    cases i with
    | zero =>
      have h2 : ¬ y.toInt < 100000000 := h2
      simp only [List.set_cons_zero, cF, if_pos hx, if_neg h2]
      omega
    | succ i =>
      have := ih i (by simpa using h) h2
      simp only [List.set_cons_succ, cF, this]
      omega
def ldI (R Qu Lb : List Int32) (m : zM) (to : Int) (il : Prop) (n : Int) : Prop :=
  R.length = 64 ∧ Qu.length = 64 ∧ 1 ≤ n ∧ (cF R : Int) = n ∧ (∀ j, 0 ≤ j → j < n → 0 ≤ gn Qu j ∧ gn Qu j ≤ 63 ∧ gn R (gn Qu j) ≤ j) ∧ (∀ c, 0 ≤ c → c < 64 → 0 ≤ gn R c ∧ gn R c ≤ 100000000) ∧ gn R to = 0 ∧
  ∀ c, 0 ≤ c → c < 64 → gn R c < 100000000 → c = to ∨ ∃ q w, (0 ≤ q ∧ q < 64) ∧ (0 ≤ w ∧ w < 4) ∧ gn R q + 1 = gn R c ∧ (il → ¬ gn Lb q = 0) ∧ besR m q w c
theorem ldI_n {R Qu Lb : List Int32} {m : zM} {to n : Int} {il : Prop} (h : ldI R Qu Lb m to il n) : n ≤ 64 := by
  obtain ⟨h1, -, -, h4, -⟩ := h
  have := cF_le R
  omega
theorem ldI_st {R Qu Lb : List Int32} {m : zM} {to n c w k : Int} {il : Prop} {x v nn : Int32} (h : ldI R Qu Lb m to il n) (ht : 0 ≤ to ∧ to ≤ 63) (hc : 0 ≤ c ∧ c < 64) (hk : gn R c ≤ k) (hkn : k < n) (hl : il → ¬ gn Lb c = 0) (hw : 0 ≤ w ∧ w < 4) (ho : 0 ≤ v.toInt ∧ v.toInt < 64) (hb : besR m c w v.toInt) (hf : 100000000 ≤ gn R v.toInt) (hx : x.toInt = gn R c + 1) (hn : nn.toInt = n) : n < 64 ∧ ldI (R.set v.toNatClampNeg x) (Qu.set nn.toNatClampNeg v) Lb m to il (n + 1) ∧ gn (R.set v.toNatClampNeg x) c = gn R c := by
  have hn2 := ldI_n h
  obtain ⟨h1, h2, h3, h4, h5, h6, h7, h8⟩ := h
  have e0 := (h6 c hc.1 hc.2).1
  have hx1 : x.toInt < 100000000 := by omega
  have e1 := cF_set hx1 R v.toNatClampNeg (by have := zclamp ho.1; omega) (by
    have e : (R.getD v.toNatClampNeg 0).toInt = gn R v.toInt := rfl
    rw [e]
    omega)
  have e2 := cF_le (R.set v.toNatClampNeg x)
  rw [List.length_set] at e2
  have hn3 : n < 64 := by omega
  have rs : ∀ j, 0 ≤ j → gn (R.set v.toNatClampNeg x) j = if j = v.toInt then x.toInt else gn R j := fun j hj => gn_set rfl ho.1 (by omega) hj
  have qs : ∀ j, 0 ≤ j → gn (Qu.set nn.toNatClampNeg v) j = if j = n then v.toInt else gn Qu j := fun j hj => gn_set hn (by omega) (by omega) hj
  have rn : ∀ j, 0 ≤ j → gn R j < 100000000 → gn (R.set v.toNatClampNeg x) j = gn R j := fun j hj hlt => by
    rw [rs j hj, if_neg (fun e => by rw [e] at hlt; omega)]
  have hco := rn c hc.1 (by omega)
  refine ⟨hn3, ⟨by rw [List.length_set]; exact h1, by rw [List.length_set]; exact h2, by omega, by omega, fun j hj hj2 => ?_, fun j hj hj2 => ?_, ?_, fun j hj hj2 hlt => ?_⟩, hco⟩
  · rw [qs j hj]
    split
    · next q =>
      refine ⟨by omega, by omega, ?_⟩
      rw [rs _ ho.1, if_pos rfl]
      omega
    · next q =>
      obtain ⟨a, b, e⟩ := h5 j hj (by omega)
      refine ⟨a, b, ?_⟩
      rw [rn _ a (by omega)]
      exact e
  · rw [rs j hj]
    split
    · omega
    · exact h6 j hj hj2
  · rw [rn to ht.1 (by omega)]
    exact h7
  · rw [rs j hj] at hlt ⊢
    split
    · next q =>
      rw [q]
      exact Or.inr ⟨c, w, hc, hw, by rw [hco]; omega, hl, hb⟩
    · next q =>
      rw [if_neg q] at hlt
      rcases h8 j hj hj2 hlt with e | ⟨p, u, p1, p2, p3, p4, p5⟩
      · exact Or.inl e
      · exact Or.inr ⟨p, u, p1, p2, by rw [rn p p1.1 (by omega)]; exact p3, p4, p5⟩
theorem bes_rg {m : zM} {c w v : Int} (hz : szOK m) (h : besR m c w v) (hn : ¬ v = -1) : 0 ≤ v ∧ v ≤ 54 := by
  obtain ⟨z1, z2, z3, z4⟩ := hz
  rcases h with ⟨h1, -⟩ | ⟨h1, ⟨-, a, b, c, d⟩, -⟩
  · exact absurd h1 hn
  · omega
def ldF (to : Int) (j : Nat) : Int32 := if (j : Int) = to then 0 else 100000000
theorem ld_first {R : List Int32} (hl : R.length = 64) {to : Int} (h0 : 0 ≤ to) (h1 : to ≤ 63) (h : ∀ j : Int, 0 ≤ j → j < 64 → gn R j = if j = to then 0 else 100000000) : cF R = 1 := by
  have e : R = (List.range 64).map (ldF to) := by
    refine List.ext_getElem (by simp [hl]) (fun i q1 q2 => ?_)
    have a := h (i : Int) (by omega) (by omega)
    have b : gn R (i : Int) = (R[i]).toInt := by
      unfold gn
      rw [show ((i : Int)).toNat = i by omega, List.getD_eq_getElem?_getD, List.getElem?_eq_getElem q1]
      rfl
    rw [List.getElem_map, List.getElem_range]
    unfold ldF
    rw [b] at a
    split at a
    · next q => rw [if_pos q]; exact Int32.toInt_inj.mp a
    · next q => rw [if_neg q]; exact Int32.toInt_inj.mp a
  have d : ∀ t : Nat, t < 64 → cF ((List.range 64).map (ldF (t : Int))) = 1 := by decide +kernel
  rw [e, show to = ((to.toNat : Nat) : Int) by omega]
  exact d to.toNat (by omega)
set_option maxRecDepth 100000 in
theorem w_ld_0 {E : zM → Prop} (hE : aEs (aΘ0 E)) {d : Nat} {m0 mem : zM} {P : Option Value → zM → Prop} {to il : Int32} {lo : List (Nat × Value)} (hm : wI (aΘ0 E) m0 mem) (l_0 : zlg lo 0 = some (.ref 221)) (l_1 : zlg lo 1 = some (.int to)) (l_2 : zlg lo 2 = some (.int il)) (h1 : ∀ lo, zlg lo 0 = some (.ref 221) → zlg lo 1 = some (.int to) → zlg lo 2 = some (.int il) → zlg lo 3 = some (.int 0) → wI (aΘ0 E) m0 mem → yR zpg tX12_leads (d + 3) (2, lo, [], mem) P) : yR zpg tX12_leads (d + 3) (0, lo, [], mem) P := by
  refine yR_m 1 (fun _ _ _ _ => rfl) ?_
  refine wR_si rfl rfl (fun lo1 e2 f3 => ?_)
  have lo1_0 := f3 0 _ (by decide) (Or.inl rfl) l_0
  have lo1_1 := f3 1 _ (by decide) (Or.inl rfl) l_1
  have lo1_2 := f3 2 _ (by decide) (Or.inl rfl) l_2
  exact h1 lo1 lo1_0 lo1_1 lo1_2 e2 hm

set_option maxRecDepth 100000 in
theorem w_ld_2 {E : zM → Prop} (hE : aEs (aΘ0 E)) {d : Nat} {m0 mem : zM} {P : Option Value → zM → Prop} {to il c : Int32} {lo : List (Nat × Value)} (hm : wI (aΘ0 E) m0 mem) (l_0 : zlg lo 0 = some (.ref 221)) (l_1 : zlg lo 1 = some (.int to)) (l_2 : zlg lo 2 = some (.int il)) (l_3 : zlg lo 3 = some (.int c)) (s1 : 64 ≤ (c).toInt → (0 : Int) ≤ (to).toInt ∧ (to).toInt ≤ 63) (h1 : 64 ≤ (c).toInt → ∀ lo, zlg lo 0 = some (.ref 221) → zlg lo 1 = some (.int to) → zlg lo 2 = some (.int il) → zlg lo 3 = some (.int 1) → zlg lo 4 = some (.int 0) → wI (aΘ0 E) m0 (sx mem 260 0 to) → yR zpg tX12_leads (d + 3) (44, lo, [], (sx mem 260 0 to)) P) (s2 : (c).toInt < 64 → ¬ (c).toInt = (to).toInt → (0 : Int) ≤ (c).toInt ∧ (c).toInt < 64) (s3 : (c).toInt < 64 → ¬ (c).toInt = (to).toInt → (-2147483648 : Int) ≤ ((c).toInt + 1) ∧ ((c).toInt + 1) ≤ 2147483647) (h2 : (c).toInt < 64 → ¬ (c).toInt = (to).toInt → ∀ (x9 : Int32), x9.toInt = ((c).toInt + 1) → ∀ lo, zlg lo 0 = some (.ref 221) → zlg lo 1 = some (.int to) → zlg lo 2 = some (.int il) → zlg lo 3 = some (.int x9) → wI (aΘ0 E) m0 (sx mem 259 c 100000000) → yR zpg tX12_leads (d + 3) (2, lo, [], (sx mem 259 c 100000000)) P) (s4 : (c).toInt < 64 → (c).toInt = (to).toInt → (0 : Int) ≤ (c).toInt ∧ (c).toInt < 64) (s5 : (c).toInt < 64 → (c).toInt = (to).toInt → (-2147483648 : Int) ≤ ((c).toInt + 1) ∧ ((c).toInt + 1) ≤ 2147483647) (h3 : (c).toInt < 64 → (c).toInt = (to).toInt → ∀ (x14 : Int32), x14.toInt = ((c).toInt + 1) → ∀ lo, zlg lo 0 = some (.ref 221) → zlg lo 1 = some (.int to) → zlg lo 2 = some (.int il) → zlg lo 3 = some (.int x14) → wI (aΘ0 E) m0 (sx mem 259 c 0) → yR zpg tX12_leads (d + 3) (2, lo, [], (sx mem 259 c 0)) P) : yR zpg tX12_leads (d + 3) (2, lo, [], mem) P := by
  refine wR_li rfl l_3 ?_
  refine yR_m 1 (fun _ _ _ _ => rfl) ?_
  refine wR_ic_ge rfl (a := (c).toInt) (c := 64) rfl rfl (fun q1 => ?_) (fun q1 => ?_)
  ·
    refine wR_la rfl l_0 ?_
    refine wR_gr rfl mO_e mO_62 hm.1.1 ?_
    refine yR_m 1 (fun _ _ _ _ => rfl) ?_
    refine wR_li rfl l_1 ?_
    refine wN_as (a := 0) rfl aR_260 hm.1.1 rfl (by decide) ?_
    have hm_1 : wI (aΘ0 E) m0 (sx mem 260 0 to) := wI_sa hE aR_260 hm (s1 q1)
    refine yR_m 1 (fun _ _ _ _ => rfl) ?_
    refine wR_si rfl rfl (fun lo2 e3 f4 => ?_)
    have lo2_0 := f4 0 _ (by decide) (Or.inl rfl) l_0
    have lo2_1 := f4 1 _ (by decide) (Or.inl rfl) l_1
    have lo2_2 := f4 2 _ (by decide) (Or.inl rfl) l_2
    refine yR_m 1 (fun _ _ _ _ => rfl) ?_
    refine wR_si rfl rfl (fun lo5 e6 f7 => ?_)
    have lo5_3 := f7 3 _ (by decide) (Or.inl rfl) e3
    have lo5_0 := f7 0 _ (by decide) (Or.inl rfl) lo2_0
    have lo5_1 := f7 1 _ (by decide) (Or.inl rfl) lo2_1
    have lo5_2 := f7 2 _ (by decide) (Or.inl rfl) lo2_2
    exact h1 q1 lo5 lo5_0 lo5_1 lo5_2 lo5_3 e6 hm_1
  ·
    refine wR_la rfl l_0 ?_
    refine wR_gr rfl mO_e mO_61 hm.1.1 ?_
    refine wR_li rfl l_3 ?_
    refine wR_li rfl l_3 ?_
    refine wR_li rfl l_1 ?_
    refine wR_ic_ne rfl (a := (c).toInt) (c := (to).toInt) rfl rfl (fun q8 => ?_) (fun q8 => ?_)
    ·
      refine yR_m 1 (fun _ _ _ _ => rfl) ?_
      refine wN_as (a := (c).toInt) rfl aR_259 hm.1.1 rfl (s2 q1 q8) ?_
      have hm_2 : wI (aΘ0 E) m0 (sx mem 259 c 100000000) := wI_sa hE aR_259 hm (i32_b _)
      refine wN_in (a := (c).toInt) (b := 1) rfl rfl l_3 rfl rfl (s3 q1 q8) (fun x9 e10 => fun lo11 e12 f13 => ?_)
      have lo11_0 := f13 0 _ (by decide) (Or.inl rfl) l_0
      have lo11_1 := f13 1 _ (by decide) (Or.inl rfl) l_1
      have lo11_2 := f13 2 _ (by decide) (Or.inl rfl) l_2
      exact yR_m 1 (fun _ _ _ _ => rfl) (h2 q1 q8 x9 e10 lo11 lo11_0 lo11_1 lo11_2 e12 hm_2)
    ·
      refine yR_m 2 (fun _ _ _ _ => rfl) ?_
      refine wN_as (a := (c).toInt) rfl aR_259 hm.1.1 rfl (s4 q1 q8) ?_
      have hm_3 : wI (aΘ0 E) m0 (sx mem 259 c 0) := wI_sa hE aR_259 hm (i32_b _)
      refine wN_in (a := (c).toInt) (b := 1) rfl rfl l_3 rfl rfl (s5 q1 q8) (fun x14 e15 => fun lo16 e17 f18 => ?_)
      have lo16_0 := f18 0 _ (by decide) (Or.inl rfl) l_0
      have lo16_1 := f18 1 _ (by decide) (Or.inl rfl) l_1
      have lo16_2 := f18 2 _ (by decide) (Or.inl rfl) l_2
      exact yR_m 1 (fun _ _ _ _ => rfl) (h3 q1 q8 x14 e15 lo16 lo16_0 lo16_1 lo16_2 e17 hm_3)

set_option maxRecDepth 100000 in
theorem w_ld_44 {E : zM → Prop} (hE : aEs (aΘ0 E)) {d : Nat} {m0 mem : zM} {P : Option Value → zM → Prop} {to il n k : Int32} {lo : List (Nat × Value)} (hm : wI (aΘ0 E) m0 mem) (l_0 : zlg lo 0 = some (.ref 221)) (l_1 : zlg lo 1 = some (.int to)) (l_2 : zlg lo 2 = some (.int il)) (l_3 : zlg lo 3 = some (.int n)) (l_4 : zlg lo 4 = some (.int k)) (h1 : (n).toInt ≤ (k).toInt → wI (aΘ0 E) m0 mem → P none mem) (s1 : (k).toInt < (n).toInt → (0 : Int) ≤ (k).toInt ∧ (k).toInt < 64) (h2 : (k).toInt < (n).toInt → ∀ (y2 : Int32), y2.toInt = (gn (ga mem 260) (k).toInt) → (il).toInt = 0 → ∀ lo, zlg lo 0 = some (.ref 221) → zlg lo 1 = some (.int to) → zlg lo 2 = some (.int il) → zlg lo 3 = some (.int n) → zlg lo 4 = some (.int k) → zlg lo 5 = some (.int y2) → zlg lo 6 = some (.int 0) → wI (aΘ0 E) m0 mem → yR zpg tX12_leads (d + 3) (79, lo, [], mem) P) (s2 : (k).toInt < (n).toInt → ∀ (y2 : Int32), y2.toInt = (gn (ga mem 260) (k).toInt) → ¬ (il).toInt = 0 → (0 : Int) ≤ (gn (ga mem 260) (k).toInt) ∧ (gn (ga mem 260) (k).toInt) < 64) (h3 : (k).toInt < (n).toInt → ∀ (y2 : Int32), y2.toInt = (gn (ga mem 260) (k).toInt) → ¬ (il).toInt = 0 → ∀ (y11 : Int32), y11.toInt = (gn (ga mem 258) (gn (ga mem 260) (k).toInt)) → ¬ (gn (ga mem 258) (gn (ga mem 260) (k).toInt)) = 0 → ∀ lo, zlg lo 0 = some (.ref 221) → zlg lo 1 = some (.int to) → zlg lo 2 = some (.int il) → zlg lo 3 = some (.int n) → zlg lo 4 = some (.int k) → zlg lo 5 = some (.int y2) → zlg lo 6 = some (.int 0) → wI (aΘ0 E) m0 mem → yR zpg tX12_leads (d + 3) (79, lo, [], mem) P) (s3 : (k).toInt < (n).toInt → ∀ (y2 : Int32), y2.toInt = (gn (ga mem 260) (k).toInt) → ¬ (il).toInt = 0 → ∀ (y11 : Int32), y11.toInt = (gn (ga mem 258) (gn (ga mem 260) (k).toInt)) → (gn (ga mem 258) (gn (ga mem 260) (k).toInt)) = 0 → (-2147483648 : Int) ≤ ((k).toInt + 1) ∧ ((k).toInt + 1) ≤ 2147483647) (h4 : (k).toInt < (n).toInt → ∀ (y2 : Int32), y2.toInt = (gn (ga mem 260) (k).toInt) → ¬ (il).toInt = 0 → ∀ (y11 : Int32), y11.toInt = (gn (ga mem 258) (gn (ga mem 260) (k).toInt)) → (gn (ga mem 258) (gn (ga mem 260) (k).toInt)) = 0 → ∀ (x17 : Int32), x17.toInt = ((k).toInt + 1) → ∀ lo, zlg lo 0 = some (.ref 221) → zlg lo 1 = some (.int to) → zlg lo 2 = some (.int il) → zlg lo 3 = some (.int n) → zlg lo 4 = some (.int x17) → wI (aΘ0 E) m0 mem → yR zpg tX12_leads (d + 3) (44, lo, [], mem) P) : yR zpg tX12_leads (d + 3) (44, lo, [], mem) P := by
  refine wR_li rfl l_4 ?_
  refine wR_li rfl l_3 ?_
  refine wR_ic_ge rfl (a := (k).toInt) (c := (n).toInt) rfl rfl (fun q1 => ?_) (fun q1 => ?_)
  ·
    exact yR_rv rfl (h1 q1 hm)
  ·
    refine wR_la rfl l_0 ?_
    refine wR_gr rfl mO_e mO_62 hm.1.1 ?_
    refine wR_li rfl l_4 ?_
    refine wN_al (a := (k).toInt) rfl aR_260 hm.1.1 rfl rfl (s1 q1) (fun y2 e3 => ?_)
    refine wR_si rfl rfl (fun lo4 e5 f6 => ?_)
    have lo4_0 := f6 0 _ (by decide) (Or.inl rfl) l_0
    have lo4_1 := f6 1 _ (by decide) (Or.inl rfl) l_1
    have lo4_2 := f6 2 _ (by decide) (Or.inl rfl) l_2
    have lo4_3 := f6 3 _ (by decide) (Or.inl rfl) l_3
    have lo4_4 := f6 4 _ (by decide) (Or.inl rfl) l_4
    refine wR_li rfl lo4_2 ?_
    refine wR_if_eq rfl (a := (il).toInt) rfl (fun q7 => ?_) (fun q7 => ?_)
    ·
      refine yR_m 1 (fun _ _ _ _ => rfl) ?_
      refine wR_si rfl rfl (fun lo8 e9 f10 => ?_)
      have lo8_5 := f10 5 _ (by decide) (Or.inl rfl) e5
      have lo8_0 := f10 0 _ (by decide) (Or.inl rfl) lo4_0
      have lo8_1 := f10 1 _ (by decide) (Or.inl rfl) lo4_1
      have lo8_2 := f10 2 _ (by decide) (Or.inl rfl) lo4_2
      have lo8_3 := f10 3 _ (by decide) (Or.inl rfl) lo4_3
      have lo8_4 := f10 4 _ (by decide) (Or.inl rfl) lo4_4
      exact h2 q1 y2 e3 q7 lo8 lo8_0 lo8_1 lo8_2 lo8_3 lo8_4 lo8_5 e9 hm
    ·
      refine wR_la rfl lo4_0 ?_
      refine wR_gr rfl mO_e mO_60 hm.1.1 ?_
      refine wR_li rfl e5 ?_
      refine wN_al (a := (gn (ga mem 260) (k).toInt)) rfl aR_258 hm.1.1 rfl e3 (s2 q1 y2 e3 q7) (fun y11 e12 => ?_)
      refine wR_if_ne rfl (a := (gn (ga mem 258) (gn (ga mem 260) (k).toInt))) e12 (fun q13 => ?_) (fun q13 => ?_)
      ·
        refine yR_m 1 (fun _ _ _ _ => rfl) ?_
        refine wR_si rfl rfl (fun lo14 e15 f16 => ?_)
        have lo14_5 := f16 5 _ (by decide) (Or.inl rfl) e5
        have lo14_0 := f16 0 _ (by decide) (Or.inl rfl) lo4_0
        have lo14_1 := f16 1 _ (by decide) (Or.inl rfl) lo4_1
        have lo14_2 := f16 2 _ (by decide) (Or.inl rfl) lo4_2
        have lo14_3 := f16 3 _ (by decide) (Or.inl rfl) lo4_3
        have lo14_4 := f16 4 _ (by decide) (Or.inl rfl) lo4_4
        exact h3 q1 y2 e3 q7 y11 e12 q13 lo14 lo14_0 lo14_1 lo14_2 lo14_3 lo14_4 lo14_5 e15 hm
      ·
        refine yR_m 1 (fun _ _ _ _ => rfl) ?_
        refine wN_in (a := (k).toInt) (b := 1) rfl rfl lo4_4 rfl rfl (s3 q1 y2 e3 q7 y11 e12 q13) (fun x17 e18 => fun lo19 e20 f21 => ?_)
        have lo19_5 := f21 5 _ (by decide) (Or.inl rfl) e5
        have lo19_0 := f21 0 _ (by decide) (Or.inl rfl) lo4_0
        have lo19_1 := f21 1 _ (by decide) (Or.inl rfl) lo4_1
        have lo19_2 := f21 2 _ (by decide) (Or.inl rfl) lo4_2
        have lo19_3 := f21 3 _ (by decide) (Or.inl rfl) lo4_3
        exact yR_m 1 (fun _ _ _ _ => rfl) (h4 q1 y2 e3 q7 y11 e12 q13 x17 e18 lo19 lo19_0 lo19_1 lo19_2 lo19_3 e20 hm)

set_option maxRecDepth 100000 in
theorem w_ld_79 {E : zM → Prop} (hE : aEs (aΘ0 E)) {d : Nat} {m0 mem : zM} {P : Option Value → zM → Prop} {to il n k c w : Int32} {lo : List (Nat × Value)} (hm : wI (aΘ0 E) m0 mem) (l_0 : zlg lo 0 = some (.ref 221)) (l_1 : zlg lo 1 = some (.int to)) (l_2 : zlg lo 2 = some (.int il)) (l_3 : zlg lo 3 = some (.int n)) (l_4 : zlg lo 4 = some (.int k)) (l_5 : zlg lo 5 = some (.int c)) (l_6 : zlg lo 6 = some (.int w)) (s1 : 4 ≤ (w).toInt → (-2147483648 : Int) ≤ ((k).toInt + 1) ∧ ((k).toInt + 1) ≤ 2147483647) (h1 : 4 ≤ (w).toInt → ∀ (x2 : Int32), x2.toInt = ((k).toInt + 1) → ∀ lo, zlg lo 0 = some (.ref 221) → zlg lo 1 = some (.int to) → zlg lo 2 = some (.int il) → zlg lo 3 = some (.int n) → zlg lo 4 = some (.int x2) → wI (aΘ0 E) m0 mem → yR zpg tX12_leads (d + 3) (44, lo, [], mem) P) (s2 : szOK mem) (s3 : (w).toInt < 4 → (0 : Int) ≤ (c).toInt ∧ (c).toInt ≤ 63) (s4 : (w).toInt < 4 → (0 : Int) ≤ (w).toInt ∧ (w).toInt ≤ 3) (s5 : (w).toInt < 4 → ∀ (v7 : Int32), besR mem (c).toInt (w).toInt v7.toInt → (v7).toInt = (-1) → (-2147483648 : Int) ≤ ((w).toInt + 1) ∧ ((w).toInt + 1) ≤ 2147483647) (h2 : (w).toInt < 4 → ∀ (v7 : Int32), besR mem (c).toInt (w).toInt v7.toInt → (v7).toInt = (-1) → ∀ (x13 : Int32), x13.toInt = ((w).toInt + 1) → ∀ lo, zlg lo 0 = some (.ref 221) → zlg lo 1 = some (.int to) → zlg lo 2 = some (.int il) → zlg lo 3 = some (.int n) → zlg lo 4 = some (.int k) → zlg lo 5 = some (.int c) → zlg lo 6 = some (.int x13) → wI (aΘ0 E) m0 mem → yR zpg tX12_leads (d + 3) (79, lo, [], mem) P) (s6 : (w).toInt < 4 → ∀ (v7 : Int32), besR mem (c).toInt (w).toInt v7.toInt → ¬ (v7).toInt = (-1) → (0 : Int) ≤ (v7).toInt ∧ (v7).toInt < 64) (s7 : (w).toInt < 4 → ∀ (v7 : Int32), besR mem (c).toInt (w).toInt v7.toInt → ¬ (v7).toInt = (-1) → ∀ (y18 : Int32), y18.toInt = (gn (ga mem 259) (v7).toInt) → 100000000 ≤ (gn (ga mem 259) (v7).toInt) → (0 : Int) ≤ (c).toInt ∧ (c).toInt < 64) (s8 : (w).toInt < 4 → ∀ (v7 : Int32), besR mem (c).toInt (w).toInt v7.toInt → ¬ (v7).toInt = (-1) → ∀ (y18 : Int32), y18.toInt = (gn (ga mem 259) (v7).toInt) → 100000000 ≤ (gn (ga mem 259) (v7).toInt) → ∀ (y21 : Int32), y21.toInt = (gn (ga mem 259) (c).toInt) → (-2147483648 : Int) ≤ ((gn (ga mem 259) (c).toInt) + 1) ∧ ((gn (ga mem 259) (c).toInt) + 1) ≤ 2147483647) (s9 : (w).toInt < 4 → ∀ (v7 : Int32), besR mem (c).toInt (w).toInt v7.toInt → ¬ (v7).toInt = (-1) → ∀ (y18 : Int32), y18.toInt = (gn (ga mem 259) (v7).toInt) → 100000000 ≤ (gn (ga mem 259) (v7).toInt) → ∀ (y21 : Int32), y21.toInt = (gn (ga mem 259) (c).toInt) → ∀ (x23 : Int32), x23.toInt = ((gn (ga mem 259) (c).toInt) + 1) → (0 : Int) ≤ (v7).toInt ∧ (v7).toInt < 64) (s10 : (w).toInt < 4 → ∀ (v7 : Int32), besR mem (c).toInt (w).toInt v7.toInt → ¬ (v7).toInt = (-1) → ∀ (y18 : Int32), y18.toInt = (gn (ga mem 259) (v7).toInt) → 100000000 ≤ (gn (ga mem 259) (v7).toInt) → ∀ (y21 : Int32), y21.toInt = (gn (ga mem 259) (c).toInt) → ∀ (x23 : Int32), x23.toInt = ((gn (ga mem 259) (c).toInt) + 1) → (0 : Int) ≤ (n).toInt ∧ (n).toInt < 64) (s11 : (w).toInt < 4 → ∀ (v7 : Int32), besR mem (c).toInt (w).toInt v7.toInt → ¬ (v7).toInt = (-1) → ∀ (y18 : Int32), y18.toInt = (gn (ga mem 259) (v7).toInt) → 100000000 ≤ (gn (ga mem 259) (v7).toInt) → ∀ (y21 : Int32), y21.toInt = (gn (ga mem 259) (c).toInt) → ∀ (x23 : Int32), x23.toInt = ((gn (ga mem 259) (c).toInt) + 1) → (0 : Int) ≤ (v7).toInt ∧ (v7).toInt ≤ 63) (s12 : (w).toInt < 4 → ∀ (v7 : Int32), besR mem (c).toInt (w).toInt v7.toInt → ¬ (v7).toInt = (-1) → ∀ (y18 : Int32), y18.toInt = (gn (ga mem 259) (v7).toInt) → 100000000 ≤ (gn (ga mem 259) (v7).toInt) → ∀ (y21 : Int32), y21.toInt = (gn (ga mem 259) (c).toInt) → ∀ (x23 : Int32), x23.toInt = ((gn (ga mem 259) (c).toInt) + 1) → (-2147483648 : Int) ≤ ((n).toInt + 1) ∧ ((n).toInt + 1) ≤ 2147483647) (s13 : (w).toInt < 4 → ∀ (v7 : Int32), besR mem (c).toInt (w).toInt v7.toInt → ¬ (v7).toInt = (-1) → ∀ (y18 : Int32), y18.toInt = (gn (ga mem 259) (v7).toInt) → 100000000 ≤ (gn (ga mem 259) (v7).toInt) → ∀ (y21 : Int32), y21.toInt = (gn (ga mem 259) (c).toInt) → ∀ (x23 : Int32), x23.toInt = ((gn (ga mem 259) (c).toInt) + 1) → ∀ (x25 : Int32), x25.toInt = ((n).toInt + 1) → (-2147483648 : Int) ≤ ((w).toInt + 1) ∧ ((w).toInt + 1) ≤ 2147483647) (h3 : (w).toInt < 4 → ∀ (v7 : Int32), besR mem (c).toInt (w).toInt v7.toInt → ¬ (v7).toInt = (-1) → ∀ (y18 : Int32), y18.toInt = (gn (ga mem 259) (v7).toInt) → 100000000 ≤ (gn (ga mem 259) (v7).toInt) → ∀ (y21 : Int32), y21.toInt = (gn (ga mem 259) (c).toInt) → ∀ (x23 : Int32), x23.toInt = ((gn (ga mem 259) (c).toInt) + 1) → ∀ (x25 : Int32), x25.toInt = ((n).toInt + 1) → ∀ (x30 : Int32), x30.toInt = ((w).toInt + 1) → ∀ lo, zlg lo 0 = some (.ref 221) → zlg lo 1 = some (.int to) → zlg lo 2 = some (.int il) → zlg lo 3 = some (.int x25) → zlg lo 4 = some (.int k) → zlg lo 5 = some (.int c) → zlg lo 6 = some (.int x30) → wI (aΘ0 E) m0 (sx (sx mem 259 v7 x23) 260 n v7) → yR zpg tX12_leads (d + 3) (79, lo, [], (sx (sx mem 259 v7 x23) 260 n v7)) P) (s14 : (w).toInt < 4 → ∀ (v7 : Int32), besR mem (c).toInt (w).toInt v7.toInt → ¬ (v7).toInt = (-1) → ∀ (y18 : Int32), y18.toInt = (gn (ga mem 259) (v7).toInt) → (gn (ga mem 259) (v7).toInt) < 100000000 → (-2147483648 : Int) ≤ ((w).toInt + 1) ∧ ((w).toInt + 1) ≤ 2147483647) (h4 : (w).toInt < 4 → ∀ (v7 : Int32), besR mem (c).toInt (w).toInt v7.toInt → ¬ (v7).toInt = (-1) → ∀ (y18 : Int32), y18.toInt = (gn (ga mem 259) (v7).toInt) → (gn (ga mem 259) (v7).toInt) < 100000000 → ∀ (x35 : Int32), x35.toInt = ((w).toInt + 1) → ∀ lo, zlg lo 0 = some (.ref 221) → zlg lo 1 = some (.int to) → zlg lo 2 = some (.int il) → zlg lo 3 = some (.int n) → zlg lo 4 = some (.int k) → zlg lo 5 = some (.int c) → zlg lo 6 = some (.int x35) → wI (aΘ0 E) m0 mem → yR zpg tX12_leads (d + 3) (79, lo, [], mem) P) : yR zpg tX12_leads (d + 3) (79, lo, [], mem) P := by
  refine wR_li rfl l_6 ?_
  refine yR_m 1 (fun _ _ _ _ => rfl) ?_
  refine wR_ic_ge rfl (a := (w).toInt) (c := 4) rfl rfl (fun q1 => ?_) (fun q1 => ?_)
  ·
    refine wN_in (a := (k).toInt) (b := 1) rfl rfl l_4 rfl rfl (s1 q1) (fun x2 e3 => fun lo4 e5 f6 => ?_)
    have lo4_0 := f6 0 _ (by decide) (Or.inl rfl) l_0
    have lo4_1 := f6 1 _ (by decide) (Or.inl rfl) l_1
    have lo4_2 := f6 2 _ (by decide) (Or.inl rfl) l_2
    have lo4_3 := f6 3 _ (by decide) (Or.inl rfl) l_3
    have lo4_5 := f6 5 _ (by decide) (Or.inl rfl) l_5
    have lo4_6 := f6 6 _ (by decide) (Or.inl rfl) l_6
    exact yR_m 1 (fun _ _ _ _ => rfl) (h1 q1 x2 e3 lo4 lo4_0 lo4_1 lo4_2 lo4_3 e5 hm)
  ·
    refine wR_la rfl l_0 ?_
    refine wR_li rfl l_5 ?_
    refine wR_li rfl l_6 ?_
    refine wR_cv rfl rfl mO_e hm.1.1 rfl (c_besideOf hm.1.1 s2 (by omega) (s3 q1) (s4 q1)) ?_
    rintro _ _ ⟨v7, rfl, rfl, k8⟩
    show yR zpg tX12_leads (d + 3) (93, lo, [.int v7], mem) _
    refine wR_si rfl rfl (fun lo9 e10 f11 => ?_)
    have lo9_0 := f11 0 _ (by decide) (Or.inl rfl) l_0
    have lo9_1 := f11 1 _ (by decide) (Or.inl rfl) l_1
    have lo9_2 := f11 2 _ (by decide) (Or.inl rfl) l_2
    have lo9_3 := f11 3 _ (by decide) (Or.inl rfl) l_3
    have lo9_4 := f11 4 _ (by decide) (Or.inl rfl) l_4
    have lo9_5 := f11 5 _ (by decide) (Or.inl rfl) l_5
    have lo9_6 := f11 6 _ (by decide) (Or.inl rfl) l_6
    refine wR_li rfl e10 ?_
    refine yR_m 1 (fun _ _ _ _ => rfl) ?_
    refine wR_ic_eq rfl (a := (v7).toInt) (c := (-1)) rfl tm1 (fun q12 => ?_) (fun q12 => ?_)
    ·
      refine wN_in (a := (w).toInt) (b := 1) rfl rfl lo9_6 rfl rfl (s5 q1 v7 k8 q12) (fun x13 e14 => fun lo15 e16 f17 => ?_)
      have lo15_7 := f17 7 _ (by decide) (Or.inl rfl) e10
      have lo15_0 := f17 0 _ (by decide) (Or.inl rfl) lo9_0
      have lo15_1 := f17 1 _ (by decide) (Or.inl rfl) lo9_1
      have lo15_2 := f17 2 _ (by decide) (Or.inl rfl) lo9_2
      have lo15_3 := f17 3 _ (by decide) (Or.inl rfl) lo9_3
      have lo15_4 := f17 4 _ (by decide) (Or.inl rfl) lo9_4
      have lo15_5 := f17 5 _ (by decide) (Or.inl rfl) lo9_5
      exact yR_m 1 (fun _ _ _ _ => rfl) (h2 q1 v7 k8 q12 x13 e14 lo15 lo15_0 lo15_1 lo15_2 lo15_3 lo15_4 lo15_5 e16 hm)
    ·
      refine wR_la rfl lo9_0 ?_
      refine wR_gr rfl mO_e mO_61 hm.1.1 ?_
      refine wR_li rfl e10 ?_
      refine wN_al (a := (v7).toInt) rfl aR_259 hm.1.1 rfl rfl (s6 q1 v7 k8 q12) (fun y18 e19 => ?_)
      refine yR_m 1 (fun _ _ _ _ => rfl) ?_
      refine wR_ic_ge rfl (a := (gn (ga mem 259) (v7).toInt)) (c := 100000000) e19 rfl (fun q20 => ?_) (fun q20 => ?_)
      ·
        refine wR_la rfl lo9_0 ?_
        refine wR_gr rfl mO_e mO_61 hm.1.1 ?_
        refine wR_li rfl e10 ?_
        refine wR_la rfl lo9_0 ?_
        refine wR_gr rfl mO_e mO_61 hm.1.1 ?_
        refine wR_li rfl lo9_5 ?_
        refine wN_al (a := (c).toInt) rfl aR_259 hm.1.1 rfl rfl (s7 q1 v7 k8 q12 y18 e19 q20) (fun y21 e22 => ?_)
        refine yR_m 1 (fun _ _ _ _ => rfl) ?_
        refine wN_add (a := (gn (ga mem 259) (c).toInt)) (b := 1) rfl e22 rfl (s8 q1 v7 k8 q12 y18 e19 q20 y21 e22) (fun x23 e24 => ?_)
        refine wN_as (a := (v7).toInt) rfl aR_259 hm.1.1 rfl (s9 q1 v7 k8 q12 y18 e19 q20 y21 e22 x23 e24) ?_
        have hm_1 : wI (aΘ0 E) m0 (sx mem 259 v7 x23) := wI_sa hE aR_259 hm (i32_b _)
        refine wR_la rfl lo9_0 ?_
        refine wR_gr rfl mO_e mO_62 hm_1.1.1 ?_
        refine wR_li rfl lo9_3 ?_
        refine wR_li rfl e10 ?_
        refine wN_as (a := (n).toInt) rfl aR_260 hm_1.1.1 rfl (s10 q1 v7 k8 q12 y18 e19 q20 y21 e22 x23 e24) ?_
        have hm_2 : wI (aΘ0 E) m0 (sx (sx mem 259 v7 x23) 260 n v7) := wI_sa hE aR_260 hm_1 (s11 q1 v7 k8 q12 y18 e19 q20 y21 e22 x23 e24)
        refine wN_in (a := (n).toInt) (b := 1) rfl rfl lo9_3 rfl rfl (s12 q1 v7 k8 q12 y18 e19 q20 y21 e22 x23 e24) (fun x25 e26 => fun lo27 e28 f29 => ?_)
        have lo27_7 := f29 7 _ (by decide) (Or.inl rfl) e10
        have lo27_0 := f29 0 _ (by decide) (Or.inl rfl) lo9_0
        have lo27_1 := f29 1 _ (by decide) (Or.inl rfl) lo9_1
        have lo27_2 := f29 2 _ (by decide) (Or.inl rfl) lo9_2
        have lo27_4 := f29 4 _ (by decide) (Or.inl rfl) lo9_4
        have lo27_5 := f29 5 _ (by decide) (Or.inl rfl) lo9_5
        have lo27_6 := f29 6 _ (by decide) (Or.inl rfl) lo9_6
        refine wN_in (a := (w).toInt) (b := 1) rfl rfl lo27_6 rfl rfl (s13 q1 v7 k8 q12 y18 e19 q20 y21 e22 x23 e24 x25 e26) (fun x30 e31 => fun lo32 e33 f34 => ?_)
        have lo32_3 := f34 3 _ (by decide) (Or.inl rfl) e28
        have lo32_7 := f34 7 _ (by decide) (Or.inl rfl) lo27_7
        have lo32_0 := f34 0 _ (by decide) (Or.inl rfl) lo27_0
        have lo32_1 := f34 1 _ (by decide) (Or.inl rfl) lo27_1
        have lo32_2 := f34 2 _ (by decide) (Or.inl rfl) lo27_2
        have lo32_4 := f34 4 _ (by decide) (Or.inl rfl) lo27_4
        have lo32_5 := f34 5 _ (by decide) (Or.inl rfl) lo27_5
        exact yR_m 1 (fun _ _ _ _ => rfl) (h3 q1 v7 k8 q12 y18 e19 q20 y21 e22 x23 e24 x25 e26 x30 e31 lo32 lo32_0 lo32_1 lo32_2 lo32_3 lo32_4 lo32_5 e33 hm_2)
      ·
        refine yR_m 1 (fun _ _ _ _ => rfl) ?_
        refine wN_in (a := (w).toInt) (b := 1) rfl rfl lo9_6 rfl rfl (s14 q1 v7 k8 q12 y18 e19 q20) (fun x35 e36 => fun lo37 e38 f39 => ?_)
        have lo37_7 := f39 7 _ (by decide) (Or.inl rfl) e10
        have lo37_0 := f39 0 _ (by decide) (Or.inl rfl) lo9_0
        have lo37_1 := f39 1 _ (by decide) (Or.inl rfl) lo9_1
        have lo37_2 := f39 2 _ (by decide) (Or.inl rfl) lo9_2
        have lo37_3 := f39 3 _ (by decide) (Or.inl rfl) lo9_3
        have lo37_4 := f39 4 _ (by decide) (Or.inl rfl) lo9_4
        have lo37_5 := f39 5 _ (by decide) (Or.inl rfl) lo9_5
        exact yR_m 1 (fun _ _ _ _ => rfl) (h4 q1 v7 k8 q12 y18 e19 q20 x35 e36 lo37 lo37_0 lo37_1 lo37_2 lo37_3 lo37_4 lo37_5 e38 hm)

/-- what leads leaves -/
def ldQ (mem : zM) (to : Int32) (il : Int32) (m : zM) : Prop := onl [259, 260] mem m ∧ ∃ n, ldI (ga m 259) (ga m 260) (ga mem 258) mem to.toInt (¬ il.toInt = 0) n
theorem ld_way {E : zM → Prop} (hE : aEs (aΘ0 E)) {m0 mr : zM} {d : Nat} {to il : Int32} (ht : 0 ≤ to.toInt ∧ to.toInt ≤ 63) (hz : szOK mr) {P : Option Value → zM → Prop} {k c : Int32} (k0 : 0 ≤ k.toInt ∧ k.toInt < 64) (hc : 0 ≤ c.toInt ∧ c.toInt < 64) (hl : ¬ il.toInt = 0 → ¬ gn (ga mr 258) c.toInt = 0)
    (out : ∀ (mem : zM) (lo : List (Nat × Value)) (n k' : Int32), k'.toInt = k.toInt + 1 → k.toInt < n.toInt → onl [259, 260] mr mem → ldI (ga mem 259) (ga mem 260) (ga mr 258) mr to.toInt (¬ il.toInt = 0) n.toInt → zlg lo 0 = some (.ref 221) → zlg lo 1 = some (.int to) → zlg lo 2 = some (.int il) → zlg lo 3 = some (.int n) → zlg lo 4 = some (.int k') → wI (aΘ0 E) m0 mem → yR zpg tX12_leads (d + 3) (44, lo, [], mem) P) :
    ∀ (f : Nat) (w n : Int32) (mem : zM) (lo : List (Nat × Value)), 4 ≤ w.toInt + (f : Int) → 0 ≤ w.toInt → w.toInt ≤ 4 → k.toInt < n.toInt → gn (ga mem 259) c.toInt ≤ k.toInt → onl [259, 260] mr mem → ldI (ga mem 259) (ga mem 260) (ga mr 258) mr to.toInt (¬ il.toInt = 0) n.toInt → zlg lo 0 = some (.ref 221) → zlg lo 1 = some (.int to) → zlg lo 2 = some (.int il) → zlg lo 3 = some (.int n) → zlg lo 4 = some (.int k) → zlg lo 5 = some (.int c) → zlg lo 6 = some (.int w) → wI (aΘ0 E) m0 mem → yR zpg tX12_leads (d + 3) (79, lo, [], mem) P := by
  intro f
  induction f with
  | zero =>
    intro w n mem lo hw w0 w4 hk hr ho hL l0 l1 l2 l3 l4 l5 l6 hI
    obtain ⟨B1, B2, -⟩ := onl_bes ho rfl rfl rfl rfl
    exact w_ld_79 hE hI l0 l1 l2 l3 l4 l5 l6
        (fun q1 => by omega)
        (fun q1 x2 e3 lo a0 a1 a2 a3 a4 hI => out mem lo n _ (by omega) hk ho hL a0 a1 a2 a3 a4 hI)
        (by rw [B2]; exact hz)
        (fun q1 => by omega)
        (fun q1 => by omega)
        (fun q1 v7 k8 q12 => by omega)
        (fun q1 v7 k8 q12 x13 e14 lo a0 a1 a2 a3 a4 a5 a6 hI => by exfalso; omega)
        (fun q1 v7 k8 q12 => by omega)
        (fun q1 v7 k8 q12 y18 e19 q20 => by omega)
        (fun q1 v7 k8 q12 y18 e19 q20 y21 e22 => by omega)
        (fun q1 v7 k8 q12 y18 e19 q20 y21 e22 x23 e24 => by omega)
        (fun q1 v7 k8 q12 y18 e19 q20 y21 e22 x23 e24 => by omega)
        (fun q1 v7 k8 q12 y18 e19 q20 y21 e22 x23 e24 => by omega)
        (fun q1 v7 k8 q12 y18 e19 q20 y21 e22 x23 e24 => by omega)
        (fun q1 v7 k8 q12 y18 e19 q20 y21 e22 x23 e24 x25 e26 => by omega)
        (fun q1 v7 k8 q12 y18 e19 q20 y21 e22 x23 e24 x25 e26 x30 e31 lo a0 a1 a2 a3 a4 a5 a6 hI => by exfalso; omega)
        (fun q1 v7 k8 q12 y18 e19 q20 => by omega)
        (fun q1 v7 k8 q12 y18 e19 q20 x35 e36 lo a0 a1 a2 a3 a4 a5 a6 hI => by exfalso; omega)
  | succ f ih =>
    intro w n mem lo hw w0 w4 hk hr ho hL l0 l1 l2 l3 l4 l5 l6 hI
    obtain ⟨B1, B2, -⟩ := onl_bes ho rfl rfl rfl rfl
    have hN := ldI_n hL
    have hrc := hL.2.2.2.2.2.1 c.toInt hc.1 hc.2
    have sr : ∀ v : Int32, besR mem c.toInt w.toInt v.toInt → ¬ v.toInt = -1 → 0 ≤ v.toInt ∧ v.toInt ≤ 54 := fun v hv hne => by
      rw [B1] at hv
      exact bes_rg hz hv hne
    have st : ∀ v x : Int32, w.toInt < 4 → besR mem c.toInt w.toInt v.toInt → ¬ v.toInt = -1 → 100000000 ≤ gn (ga mem 259) v.toInt → x.toInt = gn (ga mem 259) c.toInt + 1 → n.toInt < 64 ∧ ldI ((ga mem 259).set v.toNatClampNeg x) ((ga mem 260).set n.toNatClampNeg v) (ga mr 258) mr to.toInt (¬ il.toInt = 0) (n.toInt + 1) ∧ gn ((ga mem 259).set v.toNatClampNeg x) c.toInt = gn (ga mem 259) c.toInt := fun v x hw hv hne hf hx => by
      have h54 := sr v hv hne
      rw [B1] at hv
      exact ldI_st (k := k.toInt) hL ht hc hr hk hl ⟨w0, hw⟩ ⟨h54.1, by omega⟩ hv hf hx rfl
    exact w_ld_79 hE hI l0 l1 l2 l3 l4 l5 l6
        (fun q1 => by omega)
        (fun q1 x2 e3 lo a0 a1 a2 a3 a4 hI => out mem lo n _ (by omega) hk ho hL a0 a1 a2 a3 a4 hI)
        (by rw [B2]; exact hz)
        (fun q1 => by omega)
        (fun q1 => by omega)
        (fun q1 v7 k8 q12 => by omega)
        (fun q1 v7 k8 q12 x13 e14 lo a0 a1 a2 a3 a4 a5 a6 hI => ih _ n mem lo (by omega) (by omega) (by omega) hk hr ho hL a0 a1 a2 a3 a4 a5 a6 hI)
        (fun q1 v7 k8 q12 => by have S := sr v7 k8 q12; omega)
        (fun q1 v7 k8 q12 y18 e19 q20 => by have S := sr v7 k8 q12; omega)
        (fun q1 v7 k8 q12 y18 e19 q20 y21 e22 => by have S := sr v7 k8 q12; omega)
        (fun q1 v7 k8 q12 y18 e19 q20 y21 e22 x23 e24 => by have S := sr v7 k8 q12; have S2 := (st v7 x23 q1 k8 q12 q20 e24).1; omega)
        (fun q1 v7 k8 q12 y18 e19 q20 y21 e22 x23 e24 => by have S := sr v7 k8 q12; have S2 := (st v7 x23 q1 k8 q12 q20 e24).1; omega)
        (fun q1 v7 k8 q12 y18 e19 q20 y21 e22 x23 e24 => by have S := sr v7 k8 q12; have S2 := (st v7 x23 q1 k8 q12 q20 e24).1; omega)
        (fun q1 v7 k8 q12 y18 e19 q20 y21 e22 x23 e24 => by have S := sr v7 k8 q12; have S2 := (st v7 x23 q1 k8 q12 q20 e24).1; omega)
        (fun q1 v7 k8 q12 y18 e19 q20 y21 e22 x23 e24 x25 e26 => by have S := sr v7 k8 q12; have S2 := (st v7 x23 q1 k8 q12 q20 e24).1; omega)
        (fun q1 v7 k8 q12 y18 e19 q20 y21 e22 x23 e24 x25 e26 x30 e31 lo a0 a1 a2 a3 a4 a5 a6 hI => by
          obtain ⟨T1, T2, T3⟩ := st v7 x23 q1 k8 q12 q20 e24
          have g1 : ga (sx (sx mem 259 v7 x23) 260 n v7) 259 = (ga mem 259).set v7.toNatClampNeg x23 := (ga_sa_ne (by decide)).trans ga_sa_eq
          have g2 : ga (sx (sx mem 259 v7 x23) 260 n v7) 260 = (ga mem 260).set n.toNatClampNeg v7 := ga_sa_eq.trans (congrArg (fun l => List.set l n.toNatClampNeg v7) (ga_sa_ne (by decide)))
          have en : ∀ n' : Int32, n'.toInt = n.toInt + 1 → ldI (ga (sx (sx mem 259 v7 x23) 260 n v7) 259) (ga (sx (sx mem 259 v7 x23) 260 n v7) 260) (ga mr 258) mr to.toInt (¬ il.toInt = 0) n'.toInt := fun n' e => by rw [g1, g2, e]; exact T2
          exact ih _ _ _ lo (by omega) (by omega) (by omega) (by omega) (by rw [g1, T3]; exact hr) (onl_sa rfl (onl_sa rfl ho)) (en _ (by assumption)) a0 a1 a2 a3 a4 a5 a6 hI)
        (fun q1 v7 k8 q12 y18 e19 q20 => by have S := sr v7 k8 q12; omega)
        (fun q1 v7 k8 q12 y18 e19 q20 x35 e36 lo a0 a1 a2 a3 a4 a5 a6 hI => ih _ n mem lo (by omega) (by omega) (by omega) hk hr ho hL a0 a1 a2 a3 a4 a5 a6 hI)
theorem ld_outer {E : zM → Prop} (hE : aEs (aΘ0 E)) {m0 mr : zM} {d : Nat} {to il : Int32} (ht : 0 ≤ to.toInt ∧ to.toInt ≤ 63) (hz : szOK mr) : ∀ (f : Nat) (k n : Int32) (mem : zM) (lo : List (Nat × Value)), 64 ≤ k.toInt + (f : Int) → 0 ≤ k.toInt → k.toInt ≤ n.toInt → onl [259, 260] mr mem → ldI (ga mem 259) (ga mem 260) (ga mr 258) mr to.toInt (¬ il.toInt = 0) n.toInt → zlg lo 0 = some (.ref 221) → zlg lo 1 = some (.int to) → zlg lo 2 = some (.int il) → zlg lo 3 = some (.int n) → zlg lo 4 = some (.int k) → wI (aΘ0 E) m0 mem → yR zpg tX12_leads (d + 3) (44, lo, [], mem) (fun r m => r = none ∧ wI (aΘ0 E) m0 m ∧ ldQ mr to il m) := by
  intro f
  induction f with
  | zero =>
    intro k n mem lo hf k0 hk ho hL l0 l1 l2 l3 l4 hI
    have hN := ldI_n hL
    exact w_ld_44 hE hI l0 l1 l2 l3 l4
        (fun q1 hI => ⟨rfl, hI, ho, _, hL⟩)
        (fun q1 => by omega)
        (fun q1 y2 e3 q7 lo a0 a1 a2 a3 a4 a5 a6 hI => by exfalso; omega)
        (fun q1 y2 e3 q7 => by omega)
        (fun q1 y2 e3 q7 y11 e12 q13 lo a0 a1 a2 a3 a4 a5 a6 hI => by exfalso; omega)
        (fun q1 y2 e3 q7 y11 e12 q13 => by omega)
        (fun q1 y2 e3 q7 y11 e12 q13 x17 e18 lo a0 a1 a2 a3 a4 hI => by exfalso; omega)
  | succ f ih =>
    intro k n mem lo hf k0 hk ho hL l0 l1 l2 l3 l4 hI
    have hN := ldI_n hL
    have hq := hL.2.2.2.2.1 k.toInt k0
    have hlb : ga mem 258 = ga mr 258 := onl_ga ho rfl
    exact w_ld_44 hE hI l0 l1 l2 l3 l4
        (fun q1 hI => ⟨rfl, hI, ho, _, hL⟩)
        (fun q1 => by omega)
        (fun q1 y2 e3 q7 lo a0 a1 a2 a3 a4 a5 a6 hI => by
          have Q := hq q1
          exact ld_way hE ht hz (k := k) (c := y2) (by omega) (by omega) (fun q => absurd q7 q) (fun mem lo n k' e1 e2 e3 e4 b0 b1 b2 b3 b4 hI => ih k' n mem lo (by omega) (by omega) (by omega) e3 e4 b0 b1 b2 b3 b4 hI) 4 0 n mem lo (by decide) (by decide) (by decide) q1 (by rw [e3]; exact Q.2.2) ho hL a0 a1 a2 a3 a4 a5 a6 hI)
        (fun q1 y2 e3 q7 => by have Q := hq q1; omega)
        (fun q1 y2 e3 q7 y11 e12 q13 lo a0 a1 a2 a3 a4 a5 a6 hI => by
          have Q := hq q1
          exact ld_way hE ht hz (k := k) (c := y2) (by omega) (by omega) (fun _ => by rw [e3, ← hlb]; exact q13) (fun mem lo n k' e1 e2 e3 e4 b0 b1 b2 b3 b4 hI => ih k' n mem lo (by omega) (by omega) (by omega) e3 e4 b0 b1 b2 b3 b4 hI) 4 0 n mem lo (by decide) (by decide) (by decide) q1 (by rw [e3]; exact Q.2.2) ho hL a0 a1 a2 a3 a4 a5 a6 hI)
        (fun q1 y2 e3 q7 y11 e12 q13 => by have Q := hq q1; omega)
        (fun q1 y2 e3 q7 y11 e12 q13 x17 e18 lo a0 a1 a2 a3 a4 hI => ih _ n mem lo (by omega) (by omega) (by omega) ho hL a0 a1 a2 a3 a4 hI)
theorem ld_init {E : zM → Prop} (hE : aEs (aΘ0 E)) {m0 mr : zM} {d : Nat} {to il : Int32} (ht : 0 ≤ to.toInt ∧ to.toInt ≤ 63) (hz : szOK mr) : ∀ (f : Nat) (c : Int32) (mem : zM) (lo : List (Nat × Value)), 64 ≤ c.toInt + (f : Int) → 0 ≤ c.toInt → c.toInt ≤ 64 → onl [259, 260] mr mem → (∀ j, 0 ≤ j → j < c.toInt → gn (ga mem 259) j = if j = to.toInt then 0 else 100000000) → zlg lo 0 = some (.ref 221) → zlg lo 1 = some (.int to) → zlg lo 2 = some (.int il) → zlg lo 3 = some (.int c) → wI (aΘ0 E) m0 mem → yR zpg tX12_leads (d + 3) (2, lo, [], mem) (fun r m => r = none ∧ wI (aΘ0 E) m0 m ∧ ldQ mr to il m) := by
  have go : ∀ (c : Int32) (mem : zM) (lo : List (Nat × Value)), 64 ≤ c.toInt → onl [259, 260] mr mem → (∀ j, 0 ≤ j → j < c.toInt → gn (ga mem 259) j = if j = to.toInt then 0 else 100000000) → zlg lo 0 = some (.ref 221) → zlg lo 1 = some (.int to) → zlg lo 2 = some (.int il) → zlg lo 3 = some (.int 1) → zlg lo 4 = some (.int 0) → wI (aΘ0 E) m0 mem → wI (aΘ0 E) m0 (sx mem 260 0 to) → yR zpg tX12_leads (d + 3) (44, lo, [], (sx mem 260 0 to)) (fun r m => r = none ∧ wI (aΘ0 E) m0 m ∧ ldQ mr to il m) := fun c mem lo h64 ho hj l0 l1 l2 l3 l4 hI0 hI => by
    have e1 : ga (sx mem 260 0 to) 259 = ga mem 259 := ga_sa_ne (by decide)
    have e2 : ga (sx mem 260 0 to) 260 = (ga mem 260).set (0 : Int32).toNatClampNeg to := ga_sa_eq
    have t1 := ga_ty aR_259 hI0.1.1
    have t2 := ga_ty aR_260 hI0.1.1
    have hj2 : ∀ j, 0 ≤ j → j < 64 → gn (ga mem 259) j = if j = to.toInt then 0 else 100000000 := fun j a b => hj j a (by omega)
    have hc := ld_first t1.2.1 ht.1 ht.2 hj2
    refine ld_outer hE ht hz 64 0 1 _ lo (by decide) (by decide) (by decide) (onl_sa rfl ho) ?_ l0 l1 l2 l3 l4 hI
    rw [e1, e2]
    have z0 : (0 : Int32).toInt = 0 := rfl
    have o1 : (1 : Int32).toInt = 1 := rfl
    have hto := hj2 to.toInt ht.1 (by omega)
    rw [if_pos rfl] at hto
    refine ⟨t1.2.1, by rw [List.length_set]; exact t2.2.1, by decide, by rw [hc]; rfl, fun j a b => ?_, fun j a b => ?_, hto, fun j a b q => ?_⟩
    · rw [gn_set z0 (by omega) (by rw [t2.2.1]; omega) a, if_pos (by omega)]
      refine ⟨ht.1, ht.2, ?_⟩
      omega
    · rw [hj2 j a b]
      split <;> omega
    · rw [hj2 j a b] at q
      split at q
      · next w => exact Or.inl w
      · omega
  intro f
  induction f with
  | zero =>
    intro c mem lo hf c0 c1 ho hj l0 l1 l2 l3 hI
    exact w_ld_2 hE hI l0 l1 l2 l3
        (fun _ => ht)
        (fun q1 lo a0 a1 a2 a3 a4 hI2 => go c mem lo q1 ho hj a0 a1 a2 a3 a4 hI hI2)
        (fun q1 q8 => by omega)
        (fun q1 q8 => by omega)
        (fun q1 q8 x9 e10 lo a0 a1 a2 a3 hI => by exfalso; omega)
        (fun q1 q8 => by omega)
        (fun q1 q8 => by omega)
        (fun q1 q8 x14 e15 lo a0 a1 a2 a3 hI => by exfalso; omega)
  | succ f ih =>
    intro c mem lo hf c0 c1 ho hj l0 l1 l2 l3 hI
    have t1 := ga_ty aR_259 hI.1.1
    have stp : ∀ v : Int32, c.toInt < 64 → (v.toInt = if c.toInt = to.toInt then 0 else 100000000) → ∀ j, 0 ≤ j → j < c.toInt + 1 → gn ((ga mem 259).set c.toNatClampNeg v) j = if j = to.toInt then 0 else 100000000 := fun v hc hv j a b => by
      rw [gn_set rfl c0 (by rw [t1.2.1]; omega) a]
      split
      · next w => rw [w]; exact hv
      · exact hj j a (by omega)
    exact w_ld_2 hE hI l0 l1 l2 l3
        (fun _ => ht)
        (fun q1 lo a0 a1 a2 a3 a4 hI2 => go c mem lo q1 ho hj a0 a1 a2 a3 a4 hI hI2)
        (fun q1 q8 => by omega)
        (fun q1 q8 => by omega)
        (fun q1 q8 x9 e10 lo a0 a1 a2 a3 hI => ih _ _ lo (by omega) (by omega) (by omega) (onl_sa rfl ho) (fun j a b => by rw [ga_sa_eq]; exact stp 100000000 q1 (by rw [if_neg q8]; rfl) j a (by omega)) a0 a1 a2 a3 hI)
        (fun q1 q8 => by omega)
        (fun q1 q8 => by omega)
        (fun q1 q8 x14 e15 lo a0 a1 a2 a3 hI => ih _ _ lo (by omega) (by omega) (by omega) (onl_sa rfl ho) (fun j a b => by rw [ga_sa_eq]; exact stp 0 q1 (by rw [if_pos q8]; rfl) j a (by omega)) a0 a1 a2 a3 hI)
theorem h_leads {E : zM → Prop} (hE : aEs (aΘ0 E)) {m0 mem : zM} {d : Nat} (hd : 4 ≤ d) {to il : Int32} (ht : 0 ≤ to.toInt ∧ to.toInt ≤ 63) (hz : szOK mem) (hI : wI (aΘ0 E) m0 mem) : yC zpg d 229 [.ref 221, .int to, .int il] mem (fun r m => r = none ∧ wI (aΘ0 E) m0 m ∧ ldQ mem to il m) := by
  obtain ⟨d, rfl⟩ : ∃ q, d = q + 4 := ⟨d - 4, by omega⟩
  refine yC_of (t := tX12_leads) rfl rfl ?_
  exact w_ld_0 hE hI rfl rfl rfl
        (fun lo l0 l1 l2 l3 hI => ld_init hE ht hz 64 0 mem lo (by decide) (by decide) (by decide) onl_rf (fun j a b => by have : (0 : Int32).toInt = 0 := rfl; omega) l0 l1 l2 l3 hI)
