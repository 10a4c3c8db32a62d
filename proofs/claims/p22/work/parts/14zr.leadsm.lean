/-! roads: the model -/
section DMA
variable {d : Nat} {mem : zM} {Q : Qd}
theorem bs_F {c w v : Int} (hm : aTm aT0 mem) (hM : mB Q mem) (hW : WQ Q) (hc : frP Q c) (w0 : 0 ≤ w) (w4 : w < 4) (hb : besR mem c w v) : (v = -1 ∧ ¬ frP Q (nbr c w)) ∨ (v = nbr c w ∧ frP Q (nbr c w)) := by
  have q := hW.1
  have g := hc.1
  unfold inG at g
  have x0 : dX 0 = 0 := by decide
  have x1 : dX 1 = 1 := by decide
  have x2 : dX 2 = 0 := by decide
  have x3 : dX 3 = -1 := by decide
  have y0 : dY 0 = -1 := by decide
  have y1 : dY 1 = 0 := by decide
  have y2 : dY 2 = 1 := by decide
  have y3 : dY 3 = 0 := by decide
  have ec : colsI mem = Qc Q := hM.1.1.1
  have er : rowsI mem = Qr Q := hM.1.1.2
  have h46 : ¬ (gi mem 221 46).toInt = 0 := by
    rcases hM.2 with ⟨h, -⟩ | ⟨-, h⟩ <;> omega
  have one : ∀ x y z : Int, z = 8 * y + x → (0 ≤ x ∧ x < Qc Q ∧ 0 ≤ y ∧ y < Qr Q ↔ inG Q z) → (frC mem x y ↔ frP Q z) := fun x y z hz hi => by
    unfold frC frP
    constructor
    · rintro ⟨⟨-, a1, a2, a3, a4⟩, b⟩
      have gz := hi.1 ⟨a1, by omega, a3, by omega⟩
      have gz2 := gz
      unfold inG at gz2
      refine ⟨gz, fun w => b ?_⟩
      rw [← hz]
      exact (wl_G hm hM (by omega) (by omega)).2 w
    · rintro ⟨a, b⟩
      obtain ⟨a1, a2, a3, a4⟩ := hi.2 a
      have a9 := a
      unfold inG at a9
      refine ⟨⟨h46, a1, by omega, a3, by omega⟩, fun w => b ?_⟩
      rw [← hz] at w
      exact (wl_G hm hM (by omega) (by omega)).1 w
  have fin : ∀ x y : Int, nbr c w = 8 * y + x → (frC mem x y ↔ frP Q (nbr c w)) → (v = -1 ∧ ¬ frC mem x y) ∨ (v = 8 * y + x ∧ frC mem x y) → (v = -1 ∧ ¬ frP Q (nbr c w)) ∨ (v = nbr c w ∧ frP Q (nbr c w)) := fun x y e h hh => by
    rcases hh with ⟨a, b⟩ | ⟨a, b⟩
    · exact Or.inl ⟨a, fun z => b (h.2 z)⟩
    · exact Or.inr ⟨a.trans e.symm, h.1 b⟩
  have cs : w = 0 ∨ w = 1 ∨ w = 2 ∨ w = 3 := by omega
  rcases cs with z | z | z | z
  · subst z
    have en : nbr c 0 = c - 8 := rfl
    refine fin _ _ (by rw [en, x0, y0]; omega) (one _ _ _ (by rw [en, x0, y0]; omega) ?_) hb
    rw [en, x0, y0]
    unfold inG
    omega
  · subst z
    have en : nbr c 1 = c + 1 := rfl
    refine fin _ _ (by rw [en, x1, y1]; omega) (one _ _ _ (by rw [en, x1, y1]; omega) ?_) hb
    rw [en, x1, y1]
    unfold inG
    omega
  · subst z
    have en : nbr c 2 = c + 8 := rfl
    refine fin _ _ (by rw [en, x2, y2]; omega) (one _ _ _ (by rw [en, x2, y2]; omega) ?_) hb
    rw [en, x2, y2]
    unfold inG
    omega
  · subst z
    have en : nbr c 3 = c - 1 := rfl
    refine fin _ _ (by rw [en, x3, y3]; omega) (one _ _ _ (by rw [en, x3, y3]; omega) ?_) hb
    rw [en, x3, y3]
    unfold inG
    omega
/-- what leads leaves: the roads to a place by those of L -/
def rdM (L : Int → Prop) (Q : Qd) (e : Int) (m : zM) : Prop := ∀ c, frP Q c → (100000000 ≤ gn (ga m 259) c ∧ ∀ n, ¬ rch L e n c) ∨ ∃ n : Nat, gn (ga m 259) c = (n : Int) ∧ dsP L e n c
set_option maxRecDepth 100000 in
theorem w_dm0 {d : Nat} {mem : zM} {P : Option Value → zM → Prop} {to il : Int32} {lo : List (Nat × Value)} (hm : aTm aT0 mem) (l_0 : zlg lo 0 = some (.ref 221)) (l_1 : zlg lo 1 = some (.int to)) (l_2 : zlg lo 2 = some (.int il)) (h1 : ∀ lo, zlg lo 0 = some (.ref 221) → zlg lo 1 = some (.int to) → zlg lo 2 = some (.int il) → zlg lo 3 = some (.int 0) → aTm aT0 mem → yR zpg tX12_leads (d + 3) (2, lo, [], mem) P) : yR zpg tX12_leads (d + 3) (0, lo, [], mem) P := by
  refine yR_m 1 (fun _ _ _ _ => rfl) ?_
  refine wR_si rfl rfl (fun lo1 e2 f3 => ?_)
  have lo1_0 := f3 0 _ (by decide) (Or.inl rfl) l_0
  have lo1_1 := f3 1 _ (by decide) (Or.inl rfl) l_1
  have lo1_2 := f3 2 _ (by decide) (Or.inl rfl) l_2
  exact h1 lo1 lo1_0 lo1_1 lo1_2 e2 hm

set_option maxRecDepth 100000 in
theorem w_dm2 {d : Nat} {mem : zM} {P : Option Value → zM → Prop} {to il c : Int32} {lo : List (Nat × Value)} (hm : aTm aT0 mem) (l_0 : zlg lo 0 = some (.ref 221)) (l_1 : zlg lo 1 = some (.int to)) (l_2 : zlg lo 2 = some (.int il)) (l_3 : zlg lo 3 = some (.int c)) (ht : 0 ≤ to.toInt ∧ to.toInt ≤ 63) (hc : 0 ≤ c.toInt ∧ c.toInt ≤ 64) (h1 : 64 ≤ (c).toInt → ∀ lo, zlg lo 0 = some (.ref 221) → zlg lo 1 = some (.int to) → zlg lo 2 = some (.int il) → zlg lo 3 = some (.int 1) → zlg lo 4 = some (.int 0) → aTm aT0 (sx mem 260 0 to) → yR zpg tX12_leads (d + 3) (44, lo, [], (sx mem 260 0 to)) P) (h2 : (c).toInt < 64 → ¬ (c).toInt = (to).toInt → ∀ (x9 : Int32), x9.toInt = ((c).toInt + 1) → ∀ lo, zlg lo 0 = some (.ref 221) → zlg lo 1 = some (.int to) → zlg lo 2 = some (.int il) → zlg lo 3 = some (.int x9) → aTm aT0 (sx mem 259 c 100000000) → yR zpg tX12_leads (d + 3) (2, lo, [], (sx mem 259 c 100000000)) P) (h3 : (c).toInt < 64 → (c).toInt = (to).toInt → ∀ (x14 : Int32), x14.toInt = ((c).toInt + 1) → ∀ lo, zlg lo 0 = some (.ref 221) → zlg lo 1 = some (.int to) → zlg lo 2 = some (.int il) → zlg lo 3 = some (.int x14) → aTm aT0 (sx mem 259 c 0) → yR zpg tX12_leads (d + 3) (2, lo, [], (sx mem 259 c 0)) P) : yR zpg tX12_leads (d + 3) (2, lo, [], mem) P := by
  refine wR_li rfl l_3 ?_
  refine yR_m 1 (fun _ _ _ _ => rfl) ?_
  refine wR_ic_ge rfl (a := (c).toInt) (c := 64) rfl rfl (fun q1 => ?_) (fun q1 => ?_)
  ·
    refine wR_la rfl l_0 ?_
    refine wR_gr rfl mO_e mO_62 hm ?_
    refine yR_m 1 (fun _ _ _ _ => rfl) ?_
    refine wR_li rfl l_1 ?_
    refine wN_as (a := 0) rfl aR_260 hm rfl (by decide) ?_
    have hm_1 : aTm aT0 (sx mem 260 0 to) := tm_sa aR_260 hm (by omega)
    refine yR_m 1 (fun _ _ _ _ => rfl) ?_
    refine wR_si rfl rfl (fun lo2 e3 f4 => ?_)
    have lo2_0 := f4 0 _ (by decide) (Or.inl rfl) l_0
    have lo2_1 := f4 1 _ (by decide) (Or.inl rfl) l_1
    have lo2_2 := f4 2 _ (by decide) (Or.inl rfl) l_2
    refine yR_m 1 (fun _ _ _ _ => rfl) ?_
    refine wR_si rfl rfl (fun lo5 e6 f7 => ?_)
    have lo5_3 := f7 3 _ (by decide) (Or.inl rfl) e3
    have lo5_0 := f7 0 _ (by decide) (Or.inl rfl) lo2_0
    have lo5_1 := f7 1 _ (by decide) (Or.inl rfl) lo2_1
    have lo5_2 := f7 2 _ (by decide) (Or.inl rfl) lo2_2
    exact h1 q1 lo5 lo5_0 lo5_1 lo5_2 lo5_3 e6 hm_1
  ·
    refine wR_la rfl l_0 ?_
    refine wR_gr rfl mO_e mO_61 hm ?_
    refine wR_li rfl l_3 ?_
    refine wR_li rfl l_3 ?_
    refine wR_li rfl l_1 ?_
    refine wR_ic_ne rfl (a := (c).toInt) (c := (to).toInt) rfl rfl (fun q8 => ?_) (fun q8 => ?_)
    ·
      refine yR_m 1 (fun _ _ _ _ => rfl) ?_
      refine wN_as (a := (c).toInt) rfl aR_259 hm rfl (by omega) ?_
      have hm_2 : aTm aT0 (sx mem 259 c 100000000) := tm_sa aR_259 hm (i32_b _)
      refine wN_in (a := (c).toInt) (b := 1) rfl rfl l_3 rfl rfl (by omega) (fun x9 e10 => fun lo11 e12 f13 => ?_)
      have lo11_0 := f13 0 _ (by decide) (Or.inl rfl) l_0
      have lo11_1 := f13 1 _ (by decide) (Or.inl rfl) l_1
      have lo11_2 := f13 2 _ (by decide) (Or.inl rfl) l_2
      exact yR_m 1 (fun _ _ _ _ => rfl) (h2 q1 q8 x9 e10 lo11 lo11_0 lo11_1 lo11_2 e12 hm_2)
    ·
      refine yR_m 2 (fun _ _ _ _ => rfl) ?_
      refine wN_as (a := (c).toInt) rfl aR_259 hm rfl (by omega) ?_
      have hm_3 : aTm aT0 (sx mem 259 c 0) := tm_sa aR_259 hm (i32_b _)
      refine wN_in (a := (c).toInt) (b := 1) rfl rfl l_3 rfl rfl (by omega) (fun x14 e15 => fun lo16 e17 f18 => ?_)
      have lo16_0 := f18 0 _ (by decide) (Or.inl rfl) l_0
      have lo16_1 := f18 1 _ (by decide) (Or.inl rfl) l_1
      have lo16_2 := f18 2 _ (by decide) (Or.inl rfl) l_2
      exact yR_m 1 (fun _ _ _ _ => rfl) (h3 q1 q8 x14 e15 lo16 lo16_0 lo16_1 lo16_2 e17 hm_3)

set_option maxRecDepth 100000 in
theorem w_dm44 {d : Nat} {mem : zM} {P : Option Value → zM → Prop} {to il n k : Int32} {lo : List (Nat × Value)} (hm : aTm aT0 mem) (l_0 : zlg lo 0 = some (.ref 221)) (l_1 : zlg lo 1 = some (.int to)) (l_2 : zlg lo 2 = some (.int il)) (l_3 : zlg lo 3 = some (.int n)) (l_4 : zlg lo 4 = some (.int k)) (hk : 0 ≤ k.toInt ∧ k.toInt ≤ 64) (hn : 0 ≤ n.toInt ∧ n.toInt ≤ 64) (hq : (k).toInt < (n).toInt → 0 ≤ gn (ga mem 260) k.toInt ∧ gn (ga mem 260) k.toInt ≤ 63) (h1 : (n).toInt ≤ (k).toInt → aTm aT0 mem → P none mem) (h2 : (k).toInt < (n).toInt → ∀ (y2 : Int32), y2.toInt = (gn (ga mem 260) (k).toInt) → (il).toInt = 0 → ∀ lo, zlg lo 0 = some (.ref 221) → zlg lo 1 = some (.int to) → zlg lo 2 = some (.int il) → zlg lo 3 = some (.int n) → zlg lo 4 = some (.int k) → zlg lo 5 = some (.int y2) → zlg lo 6 = some (.int 0) → aTm aT0 mem → yR zpg tX12_leads (d + 3) (79, lo, [], mem) P) (h3 : (k).toInt < (n).toInt → ∀ (y2 : Int32), y2.toInt = (gn (ga mem 260) (k).toInt) → ¬ (il).toInt = 0 → ∀ (y11 : Int32), y11.toInt = (gn (ga mem 258) (gn (ga mem 260) (k).toInt)) → ¬ (gn (ga mem 258) (gn (ga mem 260) (k).toInt)) = 0 → ∀ lo, zlg lo 0 = some (.ref 221) → zlg lo 1 = some (.int to) → zlg lo 2 = some (.int il) → zlg lo 3 = some (.int n) → zlg lo 4 = some (.int k) → zlg lo 5 = some (.int y2) → zlg lo 6 = some (.int 0) → aTm aT0 mem → yR zpg tX12_leads (d + 3) (79, lo, [], mem) P) (h4 : (k).toInt < (n).toInt → ∀ (y2 : Int32), y2.toInt = (gn (ga mem 260) (k).toInt) → ¬ (il).toInt = 0 → ∀ (y11 : Int32), y11.toInt = (gn (ga mem 258) (gn (ga mem 260) (k).toInt)) → (gn (ga mem 258) (gn (ga mem 260) (k).toInt)) = 0 → ∀ (x17 : Int32), x17.toInt = ((k).toInt + 1) → ∀ lo, zlg lo 0 = some (.ref 221) → zlg lo 1 = some (.int to) → zlg lo 2 = some (.int il) → zlg lo 3 = some (.int n) → zlg lo 4 = some (.int x17) → aTm aT0 mem → yR zpg tX12_leads (d + 3) (44, lo, [], mem) P) : yR zpg tX12_leads (d + 3) (44, lo, [], mem) P := by
  refine wR_li rfl l_4 ?_
  refine wR_li rfl l_3 ?_
  refine wR_ic_ge rfl (a := (k).toInt) (c := (n).toInt) rfl rfl (fun q1 => ?_) (fun q1 => ?_)
  ·
    exact yR_rv rfl (h1 q1 hm)
  ·
    refine wR_la rfl l_0 ?_
    refine wR_gr rfl mO_e mO_62 hm ?_
    refine wR_li rfl l_4 ?_
    refine wN_al (a := (k).toInt) rfl aR_260 hm rfl rfl (by omega) (fun y2 e3 => ?_)
    refine wR_si rfl rfl (fun lo4 e5 f6 => ?_)
    have lo4_0 := f6 0 _ (by decide) (Or.inl rfl) l_0
    have lo4_1 := f6 1 _ (by decide) (Or.inl rfl) l_1
    have lo4_2 := f6 2 _ (by decide) (Or.inl rfl) l_2
    have lo4_3 := f6 3 _ (by decide) (Or.inl rfl) l_3
    have lo4_4 := f6 4 _ (by decide) (Or.inl rfl) l_4
    refine wR_li rfl lo4_2 ?_
    refine wR_if_eq rfl (a := (il).toInt) rfl (fun q7 => ?_) (fun q7 => ?_)
    ·
      refine yR_m 1 (fun _ _ _ _ => rfl) ?_
      refine wR_si rfl rfl (fun lo8 e9 f10 => ?_)
      have lo8_5 := f10 5 _ (by decide) (Or.inl rfl) e5
      have lo8_0 := f10 0 _ (by decide) (Or.inl rfl) lo4_0
      have lo8_1 := f10 1 _ (by decide) (Or.inl rfl) lo4_1
      have lo8_2 := f10 2 _ (by decide) (Or.inl rfl) lo4_2
      have lo8_3 := f10 3 _ (by decide) (Or.inl rfl) lo4_3
      have lo8_4 := f10 4 _ (by decide) (Or.inl rfl) lo4_4
      exact h2 q1 y2 e3 q7 lo8 lo8_0 lo8_1 lo8_2 lo8_3 lo8_4 lo8_5 e9 hm
    ·
      refine wR_la rfl lo4_0 ?_
      refine wR_gr rfl mO_e mO_60 hm ?_
      refine wR_li rfl e5 ?_
      refine wN_al (a := (gn (ga mem 260) (k).toInt)) rfl aR_258 hm rfl e3 (by omega) (fun y11 e12 => ?_)
      refine wR_if_ne rfl (a := (gn (ga mem 258) (gn (ga mem 260) (k).toInt))) e12 (fun q13 => ?_) (fun q13 => ?_)
      ·
        refine yR_m 1 (fun _ _ _ _ => rfl) ?_
        refine wR_si rfl rfl (fun lo14 e15 f16 => ?_)
        have lo14_5 := f16 5 _ (by decide) (Or.inl rfl) e5
        have lo14_0 := f16 0 _ (by decide) (Or.inl rfl) lo4_0
        have lo14_1 := f16 1 _ (by decide) (Or.inl rfl) lo4_1
        have lo14_2 := f16 2 _ (by decide) (Or.inl rfl) lo4_2
        have lo14_3 := f16 3 _ (by decide) (Or.inl rfl) lo4_3
        have lo14_4 := f16 4 _ (by decide) (Or.inl rfl) lo4_4
        exact h3 q1 y2 e3 q7 y11 e12 q13 lo14 lo14_0 lo14_1 lo14_2 lo14_3 lo14_4 lo14_5 e15 hm
      ·
        refine yR_m 1 (fun _ _ _ _ => rfl) ?_
        refine wN_in (a := (k).toInt) (b := 1) rfl rfl lo4_4 rfl rfl (by omega) (fun x17 e18 => fun lo19 e20 f21 => ?_)
        have lo19_5 := f21 5 _ (by decide) (Or.inl rfl) e5
        have lo19_0 := f21 0 _ (by decide) (Or.inl rfl) lo4_0
        have lo19_1 := f21 1 _ (by decide) (Or.inl rfl) lo4_1
        have lo19_2 := f21 2 _ (by decide) (Or.inl rfl) lo4_2
        have lo19_3 := f21 3 _ (by decide) (Or.inl rfl) lo4_3
        exact yR_m 1 (fun _ _ _ _ => rfl) (h4 q1 y2 e3 q7 y11 e12 q13 x17 e18 lo19 lo19_0 lo19_1 lo19_2 lo19_3 e20 hm)

set_option maxRecDepth 100000 in
theorem w_dm79 {d : Nat} {mem : zM} {P : Option Value → zM → Prop} {to il n k c w : Int32} {lo : List (Nat × Value)} (hm : aTm aT0 mem) (l_0 : zlg lo 0 = some (.ref 221)) (l_1 : zlg lo 1 = some (.int to)) (l_2 : zlg lo 2 = some (.int il)) (l_3 : zlg lo 3 = some (.int n)) (l_4 : zlg lo 4 = some (.int k)) (l_5 : zlg lo 5 = some (.int c)) (l_6 : zlg lo 6 = some (.int w)) (hz : szOK mem) (hc : 0 ≤ c.toInt ∧ c.toInt ≤ 63) (hw : 0 ≤ w.toInt ∧ w.toInt ≤ 4) (hR : 0 ≤ gn (ga mem 259) c.toInt ∧ gn (ga mem 259) c.toInt ≤ 100000000) (hn : 0 ≤ n.toInt ∧ n.toInt ≤ 64) (hk : 0 ≤ k.toInt ∧ k.toInt ≤ 64) (h1 : 4 ≤ (w).toInt → ∀ (x2 : Int32), x2.toInt = ((k).toInt + 1) → ∀ lo, zlg lo 0 = some (.ref 221) → zlg lo 1 = some (.int to) → zlg lo 2 = some (.int il) → zlg lo 3 = some (.int n) → zlg lo 4 = some (.int x2) → aTm aT0 mem → yR zpg tX12_leads (d + 3) (44, lo, [], mem) P) (h2 : (w).toInt < 4 → ∀ (v7 : Int32), besR mem (c).toInt (w).toInt v7.toInt → (v7).toInt = (-1) → ∀ (x13 : Int32), x13.toInt = ((w).toInt + 1) → ∀ lo, zlg lo 0 = some (.ref 221) → zlg lo 1 = some (.int to) → zlg lo 2 = some (.int il) → zlg lo 3 = some (.int n) → zlg lo 4 = some (.int k) → zlg lo 5 = some (.int c) → zlg lo 6 = some (.int x13) → aTm aT0 mem → yR zpg tX12_leads (d + 3) (79, lo, [], mem) P) (s1 : (w).toInt < 4 → ∀ (v7 : Int32), besR mem (c).toInt (w).toInt v7.toInt → ¬ (v7).toInt = (-1) → (0 : Int) ≤ (v7).toInt ∧ (v7).toInt < 64) (s2 : (w).toInt < 4 → ∀ (v7 : Int32), besR mem (c).toInt (w).toInt v7.toInt → ¬ (v7).toInt = (-1) → ∀ (y18 : Int32), y18.toInt = (gn (ga mem 259) (v7).toInt) → 100000000 ≤ (gn (ga mem 259) (v7).toInt) → ∀ (y21 : Int32), y21.toInt = (gn (ga mem 259) (c).toInt) → ∀ (x23 : Int32), x23.toInt = ((gn (ga mem 259) (c).toInt) + 1) → (0 : Int) ≤ (v7).toInt ∧ (v7).toInt < 64) (s3 : (w).toInt < 4 → ∀ (v7 : Int32), besR mem (c).toInt (w).toInt v7.toInt → ¬ (v7).toInt = (-1) → ∀ (y18 : Int32), y18.toInt = (gn (ga mem 259) (v7).toInt) → 100000000 ≤ (gn (ga mem 259) (v7).toInt) → ∀ (y21 : Int32), y21.toInt = (gn (ga mem 259) (c).toInt) → ∀ (x23 : Int32), x23.toInt = ((gn (ga mem 259) (c).toInt) + 1) → (0 : Int) ≤ (n).toInt ∧ (n).toInt < 64) (s4 : (w).toInt < 4 → ∀ (v7 : Int32), besR mem (c).toInt (w).toInt v7.toInt → ¬ (v7).toInt = (-1) → ∀ (y18 : Int32), y18.toInt = (gn (ga mem 259) (v7).toInt) → 100000000 ≤ (gn (ga mem 259) (v7).toInt) → ∀ (y21 : Int32), y21.toInt = (gn (ga mem 259) (c).toInt) → ∀ (x23 : Int32), x23.toInt = ((gn (ga mem 259) (c).toInt) + 1) → (0 : Int) ≤ (v7).toInt ∧ (v7).toInt ≤ 63) (h3 : (w).toInt < 4 → ∀ (v7 : Int32), besR mem (c).toInt (w).toInt v7.toInt → ¬ (v7).toInt = (-1) → ∀ (y18 : Int32), y18.toInt = (gn (ga mem 259) (v7).toInt) → 100000000 ≤ (gn (ga mem 259) (v7).toInt) → ∀ (y21 : Int32), y21.toInt = (gn (ga mem 259) (c).toInt) → ∀ (x23 : Int32), x23.toInt = ((gn (ga mem 259) (c).toInt) + 1) → ∀ (x25 : Int32), x25.toInt = ((n).toInt + 1) → ∀ (x30 : Int32), x30.toInt = ((w).toInt + 1) → ∀ lo, zlg lo 0 = some (.ref 221) → zlg lo 1 = some (.int to) → zlg lo 2 = some (.int il) → zlg lo 3 = some (.int x25) → zlg lo 4 = some (.int k) → zlg lo 5 = some (.int c) → zlg lo 6 = some (.int x30) → aTm aT0 (sx (sx mem 259 v7 x23) 260 n v7) → yR zpg tX12_leads (d + 3) (79, lo, [], (sx (sx mem 259 v7 x23) 260 n v7)) P) (h4 : (w).toInt < 4 → ∀ (v7 : Int32), besR mem (c).toInt (w).toInt v7.toInt → ¬ (v7).toInt = (-1) → ∀ (y18 : Int32), y18.toInt = (gn (ga mem 259) (v7).toInt) → (gn (ga mem 259) (v7).toInt) < 100000000 → ∀ (x35 : Int32), x35.toInt = ((w).toInt + 1) → ∀ lo, zlg lo 0 = some (.ref 221) → zlg lo 1 = some (.int to) → zlg lo 2 = some (.int il) → zlg lo 3 = some (.int n) → zlg lo 4 = some (.int k) → zlg lo 5 = some (.int c) → zlg lo 6 = some (.int x35) → aTm aT0 mem → yR zpg tX12_leads (d + 3) (79, lo, [], mem) P) : yR zpg tX12_leads (d + 3) (79, lo, [], mem) P := by
  refine wR_li rfl l_6 ?_
  refine yR_m 1 (fun _ _ _ _ => rfl) ?_
  refine wR_ic_ge rfl (a := (w).toInt) (c := 4) rfl rfl (fun q1 => ?_) (fun q1 => ?_)
  ·
    refine wN_in (a := (k).toInt) (b := 1) rfl rfl l_4 rfl rfl (by omega) (fun x2 e3 => fun lo4 e5 f6 => ?_)
    have lo4_0 := f6 0 _ (by decide) (Or.inl rfl) l_0
    have lo4_1 := f6 1 _ (by decide) (Or.inl rfl) l_1
    have lo4_2 := f6 2 _ (by decide) (Or.inl rfl) l_2
    have lo4_3 := f6 3 _ (by decide) (Or.inl rfl) l_3
    have lo4_5 := f6 5 _ (by decide) (Or.inl rfl) l_5
    have lo4_6 := f6 6 _ (by decide) (Or.inl rfl) l_6
    exact yR_m 1 (fun _ _ _ _ => rfl) (h1 q1 x2 e3 lo4 lo4_0 lo4_1 lo4_2 lo4_3 e5 hm)
  ·
    refine wR_la rfl l_0 ?_
    refine wR_li rfl l_5 ?_
    refine wR_li rfl l_6 ?_
    refine wR_cv rfl rfl mO_e hm rfl (c_besideOf hm hz (by omega) (by omega) (by omega)) ?_
    rintro _ _ ⟨v7, rfl, rfl, k8⟩
    show yR zpg tX12_leads (d + 3) (93, lo, [.int v7], mem) _
    refine wR_si rfl rfl (fun lo9 e10 f11 => ?_)
    have lo9_0 := f11 0 _ (by decide) (Or.inl rfl) l_0
    have lo9_1 := f11 1 _ (by decide) (Or.inl rfl) l_1
    have lo9_2 := f11 2 _ (by decide) (Or.inl rfl) l_2
    have lo9_3 := f11 3 _ (by decide) (Or.inl rfl) l_3
    have lo9_4 := f11 4 _ (by decide) (Or.inl rfl) l_4
    have lo9_5 := f11 5 _ (by decide) (Or.inl rfl) l_5
    have lo9_6 := f11 6 _ (by decide) (Or.inl rfl) l_6
    refine wR_li rfl e10 ?_
    refine yR_m 1 (fun _ _ _ _ => rfl) ?_
    refine wR_ic_eq rfl (a := (v7).toInt) (c := (-1)) rfl tm1 (fun q12 => ?_) (fun q12 => ?_)
    ·
      refine wN_in (a := (w).toInt) (b := 1) rfl rfl lo9_6 rfl rfl (by omega) (fun x13 e14 => fun lo15 e16 f17 => ?_)
      have lo15_7 := f17 7 _ (by decide) (Or.inl rfl) e10
      have lo15_0 := f17 0 _ (by decide) (Or.inl rfl) lo9_0
      have lo15_1 := f17 1 _ (by decide) (Or.inl rfl) lo9_1
      have lo15_2 := f17 2 _ (by decide) (Or.inl rfl) lo9_2
      have lo15_3 := f17 3 _ (by decide) (Or.inl rfl) lo9_3
      have lo15_4 := f17 4 _ (by decide) (Or.inl rfl) lo9_4
      have lo15_5 := f17 5 _ (by decide) (Or.inl rfl) lo9_5
      exact yR_m 1 (fun _ _ _ _ => rfl) (h2 q1 v7 k8 q12 x13 e14 lo15 lo15_0 lo15_1 lo15_2 lo15_3 lo15_4 lo15_5 e16 hm)
    ·
      refine wR_la rfl lo9_0 ?_
      refine wR_gr rfl mO_e mO_61 hm ?_
      refine wR_li rfl e10 ?_
      refine wN_al (a := (v7).toInt) rfl aR_259 hm rfl rfl (s1 q1 v7 k8 q12) (fun y18 e19 => ?_)
      refine yR_m 1 (fun _ _ _ _ => rfl) ?_
      refine wR_ic_ge rfl (a := (gn (ga mem 259) (v7).toInt)) (c := 100000000) e19 rfl (fun q20 => ?_) (fun q20 => ?_)
      ·
        refine wR_la rfl lo9_0 ?_
        refine wR_gr rfl mO_e mO_61 hm ?_
        refine wR_li rfl e10 ?_
        refine wR_la rfl lo9_0 ?_
        refine wR_gr rfl mO_e mO_61 hm ?_
        refine wR_li rfl lo9_5 ?_
        refine wN_al (a := (c).toInt) rfl aR_259 hm rfl rfl (by omega) (fun y21 e22 => ?_)
        refine yR_m 1 (fun _ _ _ _ => rfl) ?_
        refine wN_add (a := (gn (ga mem 259) (c).toInt)) (b := 1) rfl e22 rfl (by omega) (fun x23 e24 => ?_)
        refine wN_as (a := (v7).toInt) rfl aR_259 hm rfl (s2 q1 v7 k8 q12 y18 e19 q20 y21 e22 x23 e24) ?_
        have hm_1 : aTm aT0 (sx mem 259 v7 x23) := tm_sa aR_259 hm (i32_b _)
        refine wR_la rfl lo9_0 ?_
        refine wR_gr rfl mO_e mO_62 hm_1 ?_
        refine wR_li rfl lo9_3 ?_
        refine wR_li rfl e10 ?_
        refine wN_as (a := (n).toInt) rfl aR_260 hm_1 rfl (s3 q1 v7 k8 q12 y18 e19 q20 y21 e22 x23 e24) ?_
        have hm_2 : aTm aT0 (sx (sx mem 259 v7 x23) 260 n v7) := tm_sa aR_260 hm_1 (s4 q1 v7 k8 q12 y18 e19 q20 y21 e22 x23 e24)
        refine wN_in (a := (n).toInt) (b := 1) rfl rfl lo9_3 rfl rfl (by omega) (fun x25 e26 => fun lo27 e28 f29 => ?_)
        have lo27_7 := f29 7 _ (by decide) (Or.inl rfl) e10
        have lo27_0 := f29 0 _ (by decide) (Or.inl rfl) lo9_0
        have lo27_1 := f29 1 _ (by decide) (Or.inl rfl) lo9_1
        have lo27_2 := f29 2 _ (by decide) (Or.inl rfl) lo9_2
        have lo27_4 := f29 4 _ (by decide) (Or.inl rfl) lo9_4
        have lo27_5 := f29 5 _ (by decide) (Or.inl rfl) lo9_5
        have lo27_6 := f29 6 _ (by decide) (Or.inl rfl) lo9_6
        refine wN_in (a := (w).toInt) (b := 1) rfl rfl lo27_6 rfl rfl (by omega) (fun x30 e31 => fun lo32 e33 f34 => ?_)
        have lo32_3 := f34 3 _ (by decide) (Or.inl rfl) e28
        have lo32_7 := f34 7 _ (by decide) (Or.inl rfl) lo27_7
        have lo32_0 := f34 0 _ (by decide) (Or.inl rfl) lo27_0
        have lo32_1 := f34 1 _ (by decide) (Or.inl rfl) lo27_1
        have lo32_2 := f34 2 _ (by decide) (Or.inl rfl) lo27_2
        have lo32_4 := f34 4 _ (by decide) (Or.inl rfl) lo27_4
        have lo32_5 := f34 5 _ (by decide) (Or.inl rfl) lo27_5
        exact yR_m 1 (fun _ _ _ _ => rfl) (h3 q1 v7 k8 q12 y18 e19 q20 y21 e22 x23 e24 x25 e26 x30 e31 lo32 lo32_0 lo32_1 lo32_2 lo32_3 lo32_4 lo32_5 e33 hm_2)
      ·
        refine yR_m 1 (fun _ _ _ _ => rfl) ?_
        refine wN_in (a := (w).toInt) (b := 1) rfl rfl lo9_6 rfl rfl (by omega) (fun x35 e36 => fun lo37 e38 f39 => ?_)
        have lo37_7 := f39 7 _ (by decide) (Or.inl rfl) e10
        have lo37_0 := f39 0 _ (by decide) (Or.inl rfl) lo9_0
        have lo37_1 := f39 1 _ (by decide) (Or.inl rfl) lo9_1
        have lo37_2 := f39 2 _ (by decide) (Or.inl rfl) lo9_2
        have lo37_3 := f39 3 _ (by decide) (Or.inl rfl) lo9_3
        have lo37_4 := f39 4 _ (by decide) (Or.inl rfl) lo9_4
        have lo37_5 := f39 5 _ (by decide) (Or.inl rfl) lo9_5
        exact yR_m 1 (fun _ _ _ _ => rfl) (h4 q1 v7 k8 q12 y18 e19 q20 x35 e36 lo37 lo37_0 lo37_1 lo37_2 lo37_3 lo37_4 lo37_5 e38 hm)

section DMB
variable {L : Int → Prop} {mr : zM} {to il : Int32}
theorem dm_way {P : Option Value → zM → Prop} (hMr : mB Q mr) (hW : WQ Q) (ht : 0 ≤ to.toInt ∧ to.toInt ≤ 63) (hL : ∀ c, L c ↔ (frP Q c ∧ (¬ il.toInt = 0 → ¬ gn (ga mr 258) c = 0))) {k c : Int32} (k0 : 0 ≤ k.toInt ∧ k.toInt < 64) (hc : 0 ≤ c.toInt ∧ c.toInt < 64) (fc : frP Q c.toInt) (hl : ¬ il.toInt = 0 → ¬ gn (ga mr 258) c.toInt = 0)
    (out : ∀ (mem : zM) (lo : List (Nat × Value)) (n k' : Int32), k'.toInt = k.toInt + 1 → k.toInt < n.toInt → onl [259, 260] mr mem → ldI (ga mem 259) (ga mem 260) (ga mr 258) mr to.toInt (¬ il.toInt = 0) n.toInt → bfI L (frP Q) to.toInt (gn (ga mem 259)) (gn (ga mem 260)) n.toInt (k.toInt + 1) 0 → zlg lo 0 = some (.ref 221) → zlg lo 1 = some (.int to) → zlg lo 2 = some (.int il) → zlg lo 3 = some (.int n) → zlg lo 4 = some (.int k') → aTm aT0 mem → yR zpg tX12_leads (d + 3) (44, lo, [], mem) P) :
    ∀ (f : Nat) (w n : Int32) (mem : zM) (lo : List (Nat × Value)), w.toInt + (f : Int) = 4 → 0 ≤ w.toInt → k.toInt < n.toInt → gn (ga mem 259) c.toInt ≤ k.toInt → gn (ga mem 260) k.toInt = c.toInt → onl [259, 260] mr mem → ldI (ga mem 259) (ga mem 260) (ga mr 258) mr to.toInt (¬ il.toInt = 0) n.toInt → bfI L (frP Q) to.toInt (gn (ga mem 259)) (gn (ga mem 260)) n.toInt k.toInt w.toInt → zlg lo 0 = some (.ref 221) → zlg lo 1 = some (.int to) → zlg lo 2 = some (.int il) → zlg lo 3 = some (.int n) → zlg lo 4 = some (.int k) → zlg lo 5 = some (.int c) → zlg lo 6 = some (.int w) → aTm aT0 mem → yR zpg tX12_leads (d + 3) (79, lo, [], mem) P := by
  intro f
  have hF : ∀ c, frP Q c → 0 ≤ c ∧ c < 64 := fun c hc => by
    have z := hc.1
    have q := hW.1
    unfold inG at z
    omega
  have hLF : ∀ c, L c → frP Q c := fun c hc => ((hL c).1 hc).1
  induction f with
  | zero =>
    intro w n mem lo hw w0 hk hr hu ho hI hB l0 l1 l2 l3 l4 l5 l6 hm
    have hM := mB_o (ks := [259, 260]) rfl ho hMr
    have hz := sz_G hM hW
    have w4 : w.toInt = 4 := by omega
    rw [w4] at hB
    have hN := ldI_n hI
    have hR := hI.2.2.2.2.2.1 c.toInt hc.1 hc.2
    exact w_dm79 hm l0 l1 l2 l3 l4 l5 l6 hz ⟨hc.1, by omega⟩ ⟨w0, by omega⟩ ⟨hR.1, by omega⟩ ⟨by omega, by omega⟩ ⟨k0.1, by omega⟩ 
        (fun q1 x2 e3 lo a0 a1 a2 a3 a4 hm2 => out _ lo n _ (by omega) hk ho hI (bf_nx k0.1 hk hB) a0 a1 a2 a3 a4 hm2)
        (fun q1 v7 k8 q12 x13 e14 lo a0 a1 a2 a3 a4 a5 a6 hm2 => by exfalso; omega)
        (fun q1 v7 k8 q12 => by omega)
        (fun q1 v7 k8 q12 y18 e19 q20 y21 e22 x23 e24 => by omega)
        (fun q1 v7 k8 q12 y18 e19 q20 y21 e22 x23 e24 => by omega)
        (fun q1 v7 k8 q12 y18 e19 q20 y21 e22 x23 e24 => by omega)
        (fun q1 v7 k8 q12 y18 e19 q20 y21 e22 x23 e24 x25 e26 x30 e31 lo a0 a1 a2 a3 a4 a5 a6 hm2 => by exfalso; omega)
        (fun q1 v7 k8 q12 y18 e19 q20 x35 e36 lo a0 a1 a2 a3 a4 a5 a6 hm2 => by exfalso; omega)
  | succ f ih =>
    intro w n mem lo hw w0 hk hr hu ho hI hB l0 l1 l2 l3 l4 l5 l6 hm
    have hM := mB_o (ks := [259, 260]) rfl ho hMr
    have hz := sz_G hM hW
    have hN := ldI_n hI
    have hR := hI.2.2.2.2.2.1 c.toInt hc.1 hc.2
    have lc : L (gn (ga mem 260) k.toInt) := by
      rw [hu]
      exact (hL _).2 ⟨fc, hl⟩
    have B1 : besR mem = besR mr := (onl_bes ho rfl rfl rfl rfl).1
    have sr : ∀ v : Int32, besR mem c.toInt w.toInt v.toInt → ¬ v.toInt = -1 → (v.toInt = nbr c.toInt w.toInt ∧ frP Q v.toInt) ∧ 0 ≤ v.toInt ∧ v.toInt < 64 := fun v hb hv => by
      rcases bs_F hm hM hW fc w0 (by omega) hb with ⟨a, -⟩ | ⟨a, b⟩
      · exact absurd a hv
      · rw [← a] at b
        exact ⟨⟨a, b⟩, hF _ b⟩
    have st : ∀ v x : Int32, besR mem c.toInt w.toInt v.toInt → ¬ v.toInt = -1 → 100000000 ≤ gn (ga mem 259) v.toInt → x.toInt = gn (ga mem 259) c.toInt + 1 → n.toInt < 64 ∧ ldI ((ga mem 259).set v.toNatClampNeg x) ((ga mem 260).set n.toNatClampNeg v) (ga mr 258) mr to.toInt (¬ il.toInt = 0) (n.toInt + 1) ∧ gn ((ga mem 259).set v.toNatClampNeg x) c.toInt = gn (ga mem 259) c.toInt := fun v x hb hv hf hx => ldI_st hI ht hc hr hk hl ⟨w0, by omega⟩ (sr v hb hv).2 (by rw [← B1]; exact hb) hf hx rfl
    exact w_dm79 hm l0 l1 l2 l3 l4 l5 l6 hz ⟨hc.1, by omega⟩ ⟨w0, by omega⟩ ⟨hR.1, by omega⟩ ⟨by omega, by omega⟩ ⟨k0.1, by omega⟩ 
        (fun q1 x2 e3 lo a0 a1 a2 a3 a4 hm2 => by exfalso; omega)
        (fun q1 v7 k8 q12 x13 e14 lo a0 a1 a2 a3 a4 a5 a6 hm2 => ih _ n mem lo (by omega) (by omega) hk hr hu ho hI (by
          rw [e14]
          exact bf_no k0.1 hB hF (Or.inl (by
            rw [hu]
            rcases bs_F hm hM hW fc w0 (by omega) k8 with ⟨-, q⟩ | ⟨q, q2⟩
            · exact q
            · exfalso
              have g := hF _ q2
              omega))) a0 a1 a2 a3 a4 a5 a6 hm2)
        (fun q1 v7 k8 q12 => by have S := sr v7 k8 q12; omega)
        (fun q1 v7 k8 q12 y18 e19 q20 y21 e22 x23 e24 => by have S := sr v7 k8 q12; have S2 := (st v7 x23 k8 q12 q20 e24).1; omega)
        (fun q1 v7 k8 q12 y18 e19 q20 y21 e22 x23 e24 => by have S := sr v7 k8 q12; have S2 := (st v7 x23 k8 q12 q20 e24).1; omega)
        (fun q1 v7 k8 q12 y18 e19 q20 y21 e22 x23 e24 => by have S := sr v7 k8 q12; have S2 := (st v7 x23 k8 q12 q20 e24).1; omega)
        (fun q1 v7 k8 q12 y18 e19 q20 y21 e22 x23 e24 x25 e26 x30 e31 lo a0 a1 a2 a3 a4 a5 a6 hm2 => by
          obtain ⟨T1, T2, T3⟩ := st v7 x23 k8 q12 q20 e24
          have S := sr v7 k8 q12
          have t1 := ga_ty aR_259 hm
          have t2 := ga_ty aR_260 hm
          have g1 : ga (sx (sx mem 259 v7 x23) 260 n v7) 259 = (ga mem 259).set v7.toNatClampNeg x23 := (ga_sa_ne (by decide)).trans ga_sa_eq
          have g2 : ga (sx (sx mem 259 v7 x23) 260 n v7) 260 = (ga mem 260).set n.toNatClampNeg v7 := ga_sa_eq.trans (congrArg (fun l => List.set l n.toNatClampNeg v7) (ga_sa_ne (by decide)))
          refine ih _ _ _ lo (by omega) (by omega) (by omega) (by rw [g1, T3]; exact hr) ?_ (onl_sa rfl (onl_sa rfl ho)) ?_ ?_ a0 a1 a2 a3 a4 a5 a6 hm2
          · rw [g2, gn_set rfl (by omega) (by rw [t2.2.1]; omega) k0.1, if_neg (by omega)]
            exact hu
          · rw [g1, g2, e26]
            exact T2
          · rw [g1, g2, e26, e31]
            refine bf_st (v := v7.toInt) (x := x23.toInt) k0.1 hk T1 w0 (by omega) hF lc (by rw [hu]; exact S.1.1) S.1.2 q20 (by rw [hu]; exact e24) (by omega) (fun j j0 => ?_) (fun j j0 => ?_) ht.1 hLF hB
            · rw [gn_set rfl (by omega) (by rw [t1.2.1]; omega) j0]
            · rw [gn_set rfl (by omega) (by rw [t2.2.1]; omega) j0])
        (fun q1 v7 k8 q12 y18 e19 q20 x35 e36 lo a0 a1 a2 a3 a4 a5 a6 hm2 => ih _ n mem lo (by omega) (by omega) hk hr hu ho hI (by
          rw [e36]
          exact bf_no k0.1 hB hF (Or.inr (by
            rw [hu, ← (sr v7 k8 q12).1.1]
            exact q20))) a0 a1 a2 a3 a4 a5 a6 hm2)
theorem dm_out (hMr : mB Q mr) (hW : WQ Q) (ht : 0 ≤ to.toInt ∧ to.toInt ≤ 63) (hL : ∀ c, L c ↔ (frP Q c ∧ (¬ il.toInt = 0 → ¬ gn (ga mr 258) c = 0))) : ∀ (f : Nat) (k n : Int32) (mem : zM) (lo : List (Nat × Value)), 65 ≤ k.toInt + (f : Int) → 0 ≤ k.toInt → k.toInt ≤ n.toInt → onl [259, 260] mr mem → ldI (ga mem 259) (ga mem 260) (ga mr 258) mr to.toInt (¬ il.toInt = 0) n.toInt → bfI L (frP Q) to.toInt (gn (ga mem 259)) (gn (ga mem 260)) n.toInt k.toInt 0 → zlg lo 0 = some (.ref 221) → zlg lo 1 = some (.int to) → zlg lo 2 = some (.int il) → zlg lo 3 = some (.int n) → zlg lo 4 = some (.int k) → aTm aT0 mem → yR zpg tX12_leads (d + 3) (44, lo, [], mem) (fun r m => r = none ∧ aTm aT0 m ∧ (onl [259, 260] mr m ∧ rdM L Q to.toInt m)) := by
  intro f
  have hF : ∀ c, frP Q c → 0 ≤ c ∧ c < 64 := fun c hc => by
    have z := hc.1
    have q := hW.1
    unfold inG at z
    omega
  have hLF : ∀ c, L c → frP Q c := fun c hc => ((hL c).1 hc).1
  induction f with
  | zero =>
    intro k n mem lo hf k0 hk ho hI hB l0 l1 l2 l3 l4 hm
    have hN := ldI_n hI
    exfalso
    omega
  | succ f ih =>
    intro k n mem lo hf k0 hk ho hI hB l0 l1 l2 l3 l4 hm
    have hN := ldI_n hI
    have hlb : ga mem 258 = ga mr 258 := onl_ga ho rfl
    have hq : k.toInt < n.toInt → (0 ≤ gn (ga mem 260) k.toInt ∧ gn (ga mem 260) k.toInt ≤ 63) ∧ gn (ga mem 259) (gn (ga mem 260) k.toInt) ≤ k.toInt := fun z => by
      have := hI.2.2.2.2.1 k.toInt k0 z
      exact ⟨⟨this.1, this.2.1⟩, this.2.2⟩
    exact w_dm44 hm l0 l1 l2 l3 l4 ⟨k0, by omega⟩ ⟨by omega, hN⟩ (fun z => (hq z).1) 
        (fun q1 hm2 => ⟨rfl, hm2, ho, fun c fc => by
          have z : k.toInt = n.toInt := by omega
          rw [z] at hB
          exact bf_en (by have q := hW.1; omega) (by have q := hW.1; omega) (fun c h => h.1) hF hLF hB fc⟩)
        (fun q1 y2 e3 q7 lo a0 a1 a2 a3 a4 a5 a6 hm2 => by
          have Q1 := hq q1
          exact dm_way hMr hW ht hL (k := k) (c := y2) ⟨k0, by omega⟩ ⟨by omega, by omega⟩ (by rw [e3]; exact (hB.2.2.2.1 k.toInt k0 q1).1) (fun q => absurd q7 q) (fun mem lo n k' e1 e2 e3 e4 e5 b0 b1 b2 b3 b4 hm => ih k' n mem lo (by omega) (by omega) (by omega) e3 e4 (by rw [e1]; exact e5) b0 b1 b2 b3 b4 hm) 4 0 n mem lo (by decide) (by decide) q1 (by rw [e3]; exact Q1.2) e3.symm ho hI hB a0 a1 a2 a3 a4 a5 a6 hm2)
        (fun q1 y2 e3 q7 y11 e12 q13 lo a0 a1 a2 a3 a4 a5 a6 hm2 => by
          have Q1 := hq q1
          exact dm_way hMr hW ht hL (k := k) (c := y2) ⟨k0, by omega⟩ ⟨by omega, by omega⟩ (by rw [e3]; exact (hB.2.2.2.1 k.toInt k0 q1).1) (fun _ => by rw [e3, ← hlb]; exact q13) (fun mem lo n k' e1 e2 e3 e4 e5 b0 b1 b2 b3 b4 hm => ih k' n mem lo (by omega) (by omega) (by omega) e3 e4 (by rw [e1]; exact e5) b0 b1 b2 b3 b4 hm) 4 0 n mem lo (by decide) (by decide) q1 (by rw [e3]; exact Q1.2) e3.symm ho hI hB a0 a1 a2 a3 a4 a5 a6 hm2)
        (fun q1 y2 e3 q7 y11 e12 q13 x17 e18 lo a0 a1 a2 a3 a4 hm2 => ih _ n mem lo (by omega) (by omega) (by omega) ho hI (by
          rw [e18]
          exact bf_sk k0 q1 (fun z => ((hL _).1 z).2 q7 (by rw [← hlb]; exact q13)) hB) a0 a1 a2 a3 a4 hm2)
theorem h_dm (hm : aTm aT0 mem) (hM : mB Q mem) (hW : WQ Q) (fe : frP Q to.toInt) (hL : ∀ c, L c ↔ (frP Q c ∧ (¬ il.toInt = 0 → ¬ gn (ga mem 258) c = 0))) (hd : 4 ≤ d) : yC zpg d 229 [.ref 221, .int to, .int il] mem (fun r m => r = none ∧ aTm aT0 m ∧ (onl [259, 260] mem m ∧ rdM L Q to.toInt m)) := by
  obtain ⟨d, rfl⟩ : ∃ q, d = q + 4 := ⟨d - 4, by omega⟩
  have hF : ∀ c, frP Q c → 0 ≤ c ∧ c < 64 := fun c hc => by
    have z := hc.1
    have q := hW.1
    unfold inG at z
    omega
  have ht : 0 ≤ to.toInt ∧ to.toInt ≤ 63 := by
    have := hF _ fe
    omega
  have go : ∀ (c : Int32) (m : zM) (lo : List (Nat × Value)), 64 ≤ c.toInt → onl [259, 260] mem m → (∀ j, 0 ≤ j → j < c.toInt → gn (ga m 259) j = if j = to.toInt then 0 else 100000000) → zlg lo 0 = some (.ref 221) → zlg lo 1 = some (.int to) → zlg lo 2 = some (.int il) → zlg lo 3 = some (.int 1) → zlg lo 4 = some (.int 0) → aTm aT0 m → aTm aT0 (sx m 260 0 to) → yR zpg tX12_leads (d + 3) (44, lo, [], (sx m 260 0 to)) (fun r m' => r = none ∧ aTm aT0 m' ∧ (onl [259, 260] mem m' ∧ rdM L Q to.toInt m')) := fun c m lo h64 ho hj l0 l1 l2 l3 l4 hI0 hI => by
    have e1 : ga (sx m 260 0 to) 259 = ga m 259 := ga_sa_ne (by decide)
    have e2 : ga (sx m 260 0 to) 260 = (ga m 260).set (0 : Int32).toNatClampNeg to := ga_sa_eq
    have t1 := ga_ty aR_259 hI0
    have t2 := ga_ty aR_260 hI0
    have hj2 : ∀ j, 0 ≤ j → j < 64 → gn (ga m 259) j = if j = to.toInt then 0 else 100000000 := fun j a b => hj j a (by omega)
    have hc := ld_first t1.2.1 ht.1 ht.2 hj2
    have z0 : (0 : Int32).toInt = 0 := rfl
    have o1 : (1 : Int32).toInt = 1 := rfl
    have hto := hj2 to.toInt ht.1 (by omega)
    rw [if_pos rfl] at hto
    refine dm_out hM hW ht hL 65 0 1 _ lo (by decide) (by decide) (by decide) (onl_sa rfl ho) ?_ ?_ l0 l1 l2 l3 l4 hI
    · rw [e1, e2]
      refine ⟨t1.2.1, by rw [List.length_set]; exact t2.2.1, by decide, by rw [hc]; rfl, fun j a b => ?_, fun j a b => ?_, hto, fun j a b q => ?_⟩
      · rw [gn_set z0 (by omega) (by rw [t2.2.1]; omega) a, if_pos (by omega)]
        refine ⟨ht.1, ht.2, ?_⟩
        omega
      · rw [hj2 j a b]
        split <;> omega
      · rw [hj2 j a b] at q
        split at q
        · next w => exact Or.inl w
        · omega
    · rw [e1, e2]
      refine bf_0 hF fe hj2 ?_
      rw [gn_set z0 (by omega) (by rw [t2.2.1]; omega) (by decide), if_pos rfl]
  have ini : ∀ (f : Nat) (c : Int32) (m : zM) (lo : List (Nat × Value)), c.toInt + (f : Int) = 64 → 0 ≤ c.toInt → onl [259, 260] mem m → (∀ j, 0 ≤ j → j < c.toInt → gn (ga m 259) j = if j = to.toInt then 0 else 100000000) → zlg lo 0 = some (.ref 221) → zlg lo 1 = some (.int to) → zlg lo 2 = some (.int il) → zlg lo 3 = some (.int c) → aTm aT0 m → yR zpg tX12_leads (d + 3) (2, lo, [], m) (fun r m' => r = none ∧ aTm aT0 m' ∧ (onl [259, 260] mem m' ∧ rdM L Q to.toInt m')) := by
    intro f
    induction f with
    | zero =>
      intro c m lo hc c0 ho hj l0 l1 l2 l3 hm
      exact w_dm2 hm l0 l1 l2 l3 ht ⟨c0, by omega⟩ 
        (fun q1 lo a0 a1 a2 a3 a4 hm2 => go c m lo q1 ho hj a0 a1 a2 a3 a4 hm hm2)
        (fun q1 q8 x9 e10 lo a0 a1 a2 a3 hm2 => by exfalso; omega)
        (fun q1 q8 x14 e15 lo a0 a1 a2 a3 hm2 => by exfalso; omega)
    | succ f ih =>
      intro c m lo hc c0 ho hj l0 l1 l2 l3 hm
      have t1 := ga_ty aR_259 hm
      have stp : ∀ v : Int32, c.toInt < 64 → (v.toInt = if c.toInt = to.toInt then 0 else 100000000) → ∀ j, 0 ≤ j → j < c.toInt + 1 → gn ((ga m 259).set c.toNatClampNeg v) j = if j = to.toInt then 0 else 100000000 := fun v hc hv j a b => by
        rw [gn_set rfl c0 (by rw [t1.2.1]; omega) a]
        split
        · next w => rw [w]; exact hv
        · exact hj j a (by omega)
      exact w_dm2 hm l0 l1 l2 l3 ht ⟨c0, by omega⟩ 
        (fun q1 lo a0 a1 a2 a3 a4 hm2 => go c m lo q1 ho hj a0 a1 a2 a3 a4 hm hm2)
        (fun q1 q8 x9 e10 lo a0 a1 a2 a3 hm2 => ih _ _ lo (by omega) (by omega) (onl_sa rfl ho) (fun j a b => by rw [ga_sa_eq]; exact stp 100000000 q1 (by rw [if_neg q8]; rfl) j a (by omega)) a0 a1 a2 a3 hm2)
        (fun q1 q8 x14 e15 lo a0 a1 a2 a3 hm2 => ih _ _ lo (by omega) (by omega) (onl_sa rfl ho) (fun j a b => by rw [ga_sa_eq]; exact stp 0 q1 (by rw [if_pos q8]; rfl) j a (by omega)) a0 a1 a2 a3 hm2)
  refine yC_of (t := tX12_leads) rfl rfl ?_
  refine w_dm0 hm rfl rfl rfl ?_
  intro lo l0 l1 l2 l3 hm2
  exact ini 64 0 mem lo rfl (by decide) onl_rf (fun j a b => by exfalso; have z : (0 : Int32).toInt = 0 := rfl; omega) l0 l1 l2 l3 hm2
end DMB
end DMA
