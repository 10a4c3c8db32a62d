/-! a folk's walk: the model -/
section WMA
variable {d : Nat} {mem : zM} {Q : Qd}
set_option maxRecDepth 100000 in
theorem w_wm0 {d : Nat} {mem : zM} {P : Option Value → zM → Prop} {v k : Int32} {Q : Qd} {L : Int → Prop} {lo : List (Nat × Value)} (hm : aTm aT0 mem) (l_0 : zlg lo 0 = some (.ref 221)) (l_1 : zlg lo 1 = some (.int v)) (l_2 : zlg lo 2 = some (.int k)) (hM : mB Q mem) (hW : WQ Q) (hL : ∀ c, L c ↔ (frP Q c ∧ (¬ (1 : Int32).toInt = 0 → ¬ gn (ga mem 258) c = 0))) (hv : 0 ≤ v.toInt ∧ v.toInt ≤ 21) (hk : 0 ≤ k.toInt ∧ k.toInt ≤ 5) (s1 : ∀ (x1 : Int32), x1.toInt = (6 * (gi mem 221 13).toInt) → ∀ (x3 : Int32), x3.toInt = ((6 * (gi mem 221 13).toInt) + (k).toInt) → ∀ (y5 : Int32), y5.toInt = (gn (ga mem 235) ((6 * (gi mem 221 13).toInt) + (k).toInt)) → frP Q (y5).toInt) (h1 : ∀ (x1 : Int32), x1.toInt = (6 * (gi mem 221 13).toInt) → ∀ (x3 : Int32), x3.toInt = ((6 * (gi mem 221 13).toInt) + (k).toInt) → ∀ (y5 : Int32), y5.toInt = (gn (ga mem 235) ((6 * (gi mem 221 13).toInt) + (k).toInt)) → ∀ (m7 : zM), aTm aT0 m7 → (onl [259, 260] mem m7 ∧ rdM L Q (y5).toInt m7) → ∀ (x9 : Int32), x9.toInt = (6 * (v).toInt) → ∀ (x11 : Int32), x11.toInt = ((6 * (v).toInt) + (k).toInt) → ∀ (y13 : Int32), y13.toInt = (gn (ga m7 252) ((6 * (v).toInt) + (k).toInt)) → ∀ lo, zlg lo 0 = some (.ref 221) → zlg lo 1 = some (.int v) → zlg lo 2 = some (.int k) → zlg lo 3 = some (.int y13) → zlg lo 4 = some (.int 0) → aTm aT0 m7 → yR zpg tX12_walks (d + 5) (34, lo, [], m7) P) : yR zpg tX12_walks (d + 5) (0, lo, [], mem) P := by
  obtain ⟨b0, b1⟩ := mO_r13 hm
  refine wR_la rfl l_0 ?_
  refine wR_la rfl l_0 ?_
  refine wR_gr rfl mO_e mO_26 hm ?_
  refine yR_m 1 (fun _ _ _ _ => rfl) ?_
  refine wR_la rfl l_0 ?_
  refine wR_gi rfl mO_e mO_13 hm rfl ?_
  refine wN_mul (a := 6) (b := (gi mem 221 13).toInt) rfl rfl rfl (by omega) (fun x1 e2 => ?_)
  refine wR_li rfl l_2 ?_
  refine wN_add (a := (6 * (gi mem 221 13).toInt)) (b := (k).toInt) rfl e2 rfl (by omega) (fun x3 e4 => ?_)
  refine wN_al (a := ((6 * (gi mem 221 13).toInt) + (k).toInt)) rfl aR_235 hm rfl e4 (by omega) (fun y5 e6 => ?_)
  refine yR_m 1 (fun _ _ _ _ => rfl) ?_
  refine wR_cv rfl rfl mO_e hm rfl (h_dm (Q := Q) (L := L) hm hM hW (s1 x1 e2 x3 e4 y5 e6) hL (by omega)) ?_
  rintro _ m7 ⟨rfl, hm7, k8⟩
  show yR zpg tX12_walks (d + 5) (19, lo, [], m7) _
  have b_m7 := mO_r13 hm7
  refine wR_la rfl l_0 ?_
  refine wR_gr rfl mO_e mO_51 hm7 ?_
  refine yR_m 1 (fun _ _ _ _ => rfl) ?_
  refine wR_li rfl l_1 ?_
  refine wN_mul (a := 6) (b := (v).toInt) rfl rfl rfl (by omega) (fun x9 e10 => ?_)
  refine wR_li rfl l_2 ?_
  refine wN_add (a := (6 * (v).toInt)) (b := (k).toInt) rfl e10 rfl (by omega) (fun x11 e12 => ?_)
  refine wN_al (a := ((6 * (v).toInt) + (k).toInt)) rfl aR_252 hm7 rfl e12 (by omega) (fun y13 e14 => ?_)
  refine wR_si rfl rfl (fun lo15 e16 f17 => ?_)
  have lo15_0 := f17 0 _ (by decide) (Or.inl rfl) l_0
  have lo15_1 := f17 1 _ (by decide) (Or.inl rfl) l_1
  have lo15_2 := f17 2 _ (by decide) (Or.inl rfl) l_2
  refine yR_m 1 (fun _ _ _ _ => rfl) ?_
  refine wR_si rfl rfl (fun lo18 e19 f20 => ?_)
  have lo18_3 := f20 3 _ (by decide) (Or.inl rfl) e16
  have lo18_0 := f20 0 _ (by decide) (Or.inl rfl) lo15_0
  have lo18_1 := f20 1 _ (by decide) (Or.inl rfl) lo15_1
  have lo18_2 := f20 2 _ (by decide) (Or.inl rfl) lo15_2
  exact h1 x1 e2 x3 e4 y5 e6 m7 hm7 k8 x9 e10 x11 e12 y13 e14 lo18 lo18_0 lo18_1 lo18_2 lo18_3 e19 hm7

set_option maxRecDepth 100000 in
theorem w_wm34 {d : Nat} {mem : zM} {P : Option Value → zM → Prop} {v k c s : Int32} {lo : List (Nat × Value)} (hm : aTm aT0 mem) (l_0 : zlg lo 0 = some (.ref 221)) (l_1 : zlg lo 1 = some (.int v)) (l_2 : zlg lo 2 = some (.int k)) (l_3 : zlg lo 3 = some (.int c)) (l_4 : zlg lo 4 = some (.int s)) (hv : 0 ≤ v.toInt ∧ v.toInt ≤ 21) (hk : 0 ≤ k.toInt ∧ k.toInt ≤ 5) (hc : 0 ≤ c.toInt ∧ c.toInt ≤ 63) (hs : 0 ≤ s.toInt ∧ s.toInt ≤ 9) (h1 : ∀ (y1 : Int32), y1.toInt = (gn (ga mem 225) (gi mem 221 13).toInt) → (gn (ga mem 225) (gi mem 221 13).toInt) ≤ (s).toInt → ∀ (x4 : Int32), x4.toInt = (6 * (v).toInt) → ∀ (x6 : Int32), x6.toInt = ((6 * (v).toInt) + (k).toInt) → aTm aT0 (sx mem 252 x6 c) → P none (sx mem 252 x6 c)) (h2 : ∀ (y1 : Int32), y1.toInt = (gn (ga mem 225) (gi mem 221 13).toInt) → (s).toInt < (gn (ga mem 225) (gi mem 221 13).toInt) → ∀ (y8 : Int32), y8.toInt = (gn (ga mem 259) (c).toInt) → (gn (ga mem 259) (c).toInt) ≤ 0 → ∀ (x11 : Int32), x11.toInt = (6 * (v).toInt) → ∀ (x13 : Int32), x13.toInt = ((6 * (v).toInt) + (k).toInt) → aTm aT0 (sx mem 252 x13 c) → P none (sx mem 252 x13 c)) (h3 : ∀ (y1 : Int32), y1.toInt = (gn (ga mem 225) (gi mem 221 13).toInt) → (s).toInt < (gn (ga mem 225) (gi mem 221 13).toInt) → ∀ (y8 : Int32), y8.toInt = (gn (ga mem 259) (c).toInt) → 0 < (gn (ga mem 259) (c).toInt) → ∀ (y15 : Int32), y15.toInt = (gn (ga mem 259) (c).toInt) → 100000000 ≤ (gn (ga mem 259) (c).toInt) → ∀ (x18 : Int32), x18.toInt = (6 * (v).toInt) → ∀ (x20 : Int32), x20.toInt = ((6 * (v).toInt) + (k).toInt) → aTm aT0 (sx mem 252 x20 c) → P none (sx mem 252 x20 c)) (h4 : ∀ (y1 : Int32), y1.toInt = (gn (ga mem 225) (gi mem 221 13).toInt) → (s).toInt < (gn (ga mem 225) (gi mem 221 13).toInt) → ∀ (y8 : Int32), y8.toInt = (gn (ga mem 259) (c).toInt) → 0 < (gn (ga mem 259) (c).toInt) → ∀ (y15 : Int32), y15.toInt = (gn (ga mem 259) (c).toInt) → (gn (ga mem 259) (c).toInt) < 100000000 → ∀ lo, zlg lo 0 = some (.ref 221) → zlg lo 1 = some (.int v) → zlg lo 2 = some (.int k) → zlg lo 3 = some (.int c) → zlg lo 4 = some (.int s) → zlg lo 5 = some (.int (-1)) → zlg lo 6 = some (.int 0) → aTm aT0 mem → yR zpg tX12_walks (d + 5) (75, lo, [], mem) P) : yR zpg tX12_walks (d + 5) (34, lo, [], mem) P := by
  obtain ⟨b0, b1⟩ := mO_r13 hm
  refine wR_li rfl l_4 ?_
  refine wR_la rfl l_0 ?_
  refine wR_gr rfl mO_e mO_16 hm ?_
  refine wR_la rfl l_0 ?_
  refine wR_gi rfl mO_e mO_13 hm rfl ?_
  refine wN_al (a := (gi mem 221 13).toInt) rfl aR_225 hm rfl rfl (by omega) (fun y1 e2 => ?_)
  refine wR_ic_ge rfl (a := (s).toInt) (c := (gn (ga mem 225) (gi mem 221 13).toInt)) rfl e2 (fun q3 => ?_) (fun q3 => ?_)
  ·
    refine wR_la rfl l_0 ?_
    refine wR_gr rfl mO_e mO_51 hm ?_
    refine yR_m 1 (fun _ _ _ _ => rfl) ?_
    refine wR_li rfl l_1 ?_
    refine wN_mul (a := 6) (b := (v).toInt) rfl rfl rfl (by omega) (fun x4 e5 => ?_)
    refine wR_li rfl l_2 ?_
    refine wN_add (a := (6 * (v).toInt)) (b := (k).toInt) rfl e5 rfl (by omega) (fun x6 e7 => ?_)
    refine wR_li rfl l_3 ?_
    refine wN_as (a := ((6 * (v).toInt) + (k).toInt)) rfl aR_252 hm e7 (by omega) ?_
    have hm_1 : aTm aT0 (sx mem 252 x6 c) := tm_sa aR_252 hm (by omega)
    exact yR_rv rfl (h1 y1 e2 q3 x4 e5 x6 e7 hm_1)
  ·
    refine wR_la rfl l_0 ?_
    refine wR_gr rfl mO_e mO_61 hm ?_
    refine wR_li rfl l_3 ?_
    refine wN_al (a := (c).toInt) rfl aR_259 hm rfl rfl (by omega) (fun y8 e9 => ?_)
    refine wR_if_le rfl (a := (gn (ga mem 259) (c).toInt)) e9 (fun q10 => ?_) (fun q10 => ?_)
    ·
      refine wR_la rfl l_0 ?_
      refine wR_gr rfl mO_e mO_51 hm ?_
      refine yR_m 1 (fun _ _ _ _ => rfl) ?_
      refine wR_li rfl l_1 ?_
      refine wN_mul (a := 6) (b := (v).toInt) rfl rfl rfl (by omega) (fun x11 e12 => ?_)
      refine wR_li rfl l_2 ?_
      refine wN_add (a := (6 * (v).toInt)) (b := (k).toInt) rfl e12 rfl (by omega) (fun x13 e14 => ?_)
      refine wR_li rfl l_3 ?_
      refine wN_as (a := ((6 * (v).toInt) + (k).toInt)) rfl aR_252 hm e14 (by omega) ?_
      have hm_2 : aTm aT0 (sx mem 252 x13 c) := tm_sa aR_252 hm (by omega)
      exact yR_rv rfl (h2 y1 e2 q3 y8 e9 q10 x11 e12 x13 e14 hm_2)
    ·
      refine wR_la rfl l_0 ?_
      refine wR_gr rfl mO_e mO_61 hm ?_
      refine wR_li rfl l_3 ?_
      refine wN_al (a := (c).toInt) rfl aR_259 hm rfl rfl (by omega) (fun y15 e16 => ?_)
      refine yR_m 1 (fun _ _ _ _ => rfl) ?_
      refine wR_ic_ge rfl (a := (gn (ga mem 259) (c).toInt)) (c := 100000000) e16 rfl (fun q17 => ?_) (fun q17 => ?_)
      ·
        refine wR_la rfl l_0 ?_
        refine wR_gr rfl mO_e mO_51 hm ?_
        refine yR_m 1 (fun _ _ _ _ => rfl) ?_
        refine wR_li rfl l_1 ?_
        refine wN_mul (a := 6) (b := (v).toInt) rfl rfl rfl (by omega) (fun x18 e19 => ?_)
        refine wR_li rfl l_2 ?_
        refine wN_add (a := (6 * (v).toInt)) (b := (k).toInt) rfl e19 rfl (by omega) (fun x20 e21 => ?_)
        refine wR_li rfl l_3 ?_
        refine wN_as (a := ((6 * (v).toInt) + (k).toInt)) rfl aR_252 hm e21 (by omega) ?_
        have hm_3 : aTm aT0 (sx mem 252 x20 c) := tm_sa aR_252 hm (by omega)
        exact yR_rv rfl (h3 y1 e2 q3 y8 e9 q10 y15 e16 q17 x18 e19 x20 e21 hm_3)
      ·
        refine yR_m 1 (fun _ _ _ _ => rfl) ?_
        refine wR_si rfl rfl (fun lo22 e23 f24 => ?_)
        have lo22_0 := f24 0 _ (by decide) (Or.inl rfl) l_0
        have lo22_1 := f24 1 _ (by decide) (Or.inl rfl) l_1
        have lo22_2 := f24 2 _ (by decide) (Or.inl rfl) l_2
        have lo22_3 := f24 3 _ (by decide) (Or.inl rfl) l_3
        have lo22_4 := f24 4 _ (by decide) (Or.inl rfl) l_4
        refine yR_m 1 (fun _ _ _ _ => rfl) ?_
        refine wR_si rfl rfl (fun lo25 e26 f27 => ?_)
        have lo25_5 := f27 5 _ (by decide) (Or.inl rfl) e23
        have lo25_0 := f27 0 _ (by decide) (Or.inl rfl) lo22_0
        have lo25_1 := f27 1 _ (by decide) (Or.inl rfl) lo22_1
        have lo25_2 := f27 2 _ (by decide) (Or.inl rfl) lo22_2
        have lo25_3 := f27 3 _ (by decide) (Or.inl rfl) lo22_3
        have lo25_4 := f27 4 _ (by decide) (Or.inl rfl) lo22_4
        exact h4 y1 e2 q3 y8 e9 q10 y15 e16 q17 lo25 lo25_0 lo25_1 lo25_2 lo25_3 lo25_4 lo25_5 e26 hm

set_option maxRecDepth 100000 in
theorem w_wm75 {d : Nat} {mem : zM} {P : Option Value → zM → Prop} {v k c s to w : Int32} {lo : List (Nat × Value)} (hm : aTm aT0 mem) (l_0 : zlg lo 0 = some (.ref 221)) (l_1 : zlg lo 1 = some (.int v)) (l_2 : zlg lo 2 = some (.int k)) (l_3 : zlg lo 3 = some (.int c)) (l_4 : zlg lo 4 = some (.int s)) (l_5 : zlg lo 5 = some (.int to)) (l_6 : zlg lo 6 = some (.int w)) (hz : szOK mem) (hc : 0 ≤ c.toInt ∧ c.toInt ≤ 63) (hw : 0 ≤ w.toInt ∧ w.toInt ≤ 4) (hs : 0 ≤ s.toInt ∧ s.toInt ≤ 9) (hR : 0 < gn (ga mem 259) c.toInt ∧ gn (ga mem 259) c.toInt < 100000000) (h1 : 4 ≤ (w).toInt → ∀ (x5 : Int32), x5.toInt = ((s).toInt + 1) → ∀ lo, zlg lo 0 = some (.ref 221) → zlg lo 1 = some (.int v) → zlg lo 2 = some (.int k) → zlg lo 3 = some (.int to) → zlg lo 4 = some (.int x5) → aTm aT0 mem → yR zpg tX12_walks (d + 5) (34, lo, [], mem) P) (h2 : (w).toInt < 4 → ¬ (to).toInt = (-1) → ∀ (x14 : Int32), x14.toInt = ((s).toInt + 1) → ∀ lo, zlg lo 0 = some (.ref 221) → zlg lo 1 = some (.int v) → zlg lo 2 = some (.int k) → zlg lo 3 = some (.int to) → zlg lo 4 = some (.int x14) → aTm aT0 mem → yR zpg tX12_walks (d + 5) (34, lo, [], mem) P) (h3 : (w).toInt < 4 → (to).toInt = (-1) → ∀ (v19 : Int32), besR mem (c).toInt (w).toInt v19.toInt → (v19).toInt = (-1) → ∀ (x25 : Int32), x25.toInt = ((w).toInt + 1) → ∀ lo, zlg lo 0 = some (.ref 221) → zlg lo 1 = some (.int v) → zlg lo 2 = some (.int k) → zlg lo 3 = some (.int c) → zlg lo 4 = some (.int s) → zlg lo 5 = some (.int to) → zlg lo 6 = some (.int x25) → aTm aT0 mem → yR zpg tX12_walks (d + 5) (75, lo, [], mem) P) (s1 : (w).toInt < 4 → (to).toInt = (-1) → ∀ (v19 : Int32), besR mem (c).toInt (w).toInt v19.toInt → ¬ (v19).toInt = (-1) → (0 : Int) ≤ (v19).toInt ∧ (v19).toInt < 64) (h4 : (w).toInt < 4 → (to).toInt = (-1) → ∀ (v19 : Int32), besR mem (c).toInt (w).toInt v19.toInt → ¬ (v19).toInt = (-1) → ∀ (y30 : Int32), y30.toInt = (gn (ga mem 258) (v19).toInt) → (gn (ga mem 258) (v19).toInt) ≤ 0 → ∀ (x33 : Int32), x33.toInt = ((w).toInt + 1) → ∀ lo, zlg lo 0 = some (.ref 221) → zlg lo 1 = some (.int v) → zlg lo 2 = some (.int k) → zlg lo 3 = some (.int c) → zlg lo 4 = some (.int s) → zlg lo 5 = some (.int to) → zlg lo 6 = some (.int x33) → aTm aT0 mem → yR zpg tX12_walks (d + 5) (75, lo, [], mem) P) (s2 : (w).toInt < 4 → (to).toInt = (-1) → ∀ (v19 : Int32), besR mem (c).toInt (w).toInt v19.toInt → ¬ (v19).toInt = (-1) → ∀ (y30 : Int32), y30.toInt = (gn (ga mem 258) (v19).toInt) → 0 < (gn (ga mem 258) (v19).toInt) → (0 : Int) ≤ (v19).toInt ∧ (v19).toInt < 64) (h5 : (w).toInt < 4 → (to).toInt = (-1) → ∀ (v19 : Int32), besR mem (c).toInt (w).toInt v19.toInt → ¬ (v19).toInt = (-1) → ∀ (y30 : Int32), y30.toInt = (gn (ga mem 258) (v19).toInt) → 0 < (gn (ga mem 258) (v19).toInt) → ∀ (y38 : Int32), y38.toInt = (gn (ga mem 259) (v19).toInt) → ∀ (y40 : Int32), y40.toInt = (gn (ga mem 259) (c).toInt) → ∀ (x42 : Int32), x42.toInt = ((gn (ga mem 259) (c).toInt) - 1) → ¬ (gn (ga mem 259) (v19).toInt) = ((gn (ga mem 259) (c).toInt) - 1) → ∀ (x45 : Int32), x45.toInt = ((w).toInt + 1) → ∀ lo, zlg lo 0 = some (.ref 221) → zlg lo 1 = some (.int v) → zlg lo 2 = some (.int k) → zlg lo 3 = some (.int c) → zlg lo 4 = some (.int s) → zlg lo 5 = some (.int to) → zlg lo 6 = some (.int x45) → aTm aT0 mem → yR zpg tX12_walks (d + 5) (75, lo, [], mem) P) (h6 : (w).toInt < 4 → (to).toInt = (-1) → ∀ (v19 : Int32), besR mem (c).toInt (w).toInt v19.toInt → ¬ (v19).toInt = (-1) → ∀ (y30 : Int32), y30.toInt = (gn (ga mem 258) (v19).toInt) → 0 < (gn (ga mem 258) (v19).toInt) → ∀ (y38 : Int32), y38.toInt = (gn (ga mem 259) (v19).toInt) → ∀ (y40 : Int32), y40.toInt = (gn (ga mem 259) (c).toInt) → ∀ (x42 : Int32), x42.toInt = ((gn (ga mem 259) (c).toInt) - 1) → (gn (ga mem 259) (v19).toInt) = ((gn (ga mem 259) (c).toInt) - 1) → ∀ (x53 : Int32), x53.toInt = ((w).toInt + 1) → ∀ lo, zlg lo 0 = some (.ref 221) → zlg lo 1 = some (.int v) → zlg lo 2 = some (.int k) → zlg lo 3 = some (.int c) → zlg lo 4 = some (.int s) → zlg lo 5 = some (.int v19) → zlg lo 6 = some (.int x53) → aTm aT0 mem → yR zpg tX12_walks (d + 5) (75, lo, [], mem) P) : yR zpg tX12_walks (d + 5) (75, lo, [], mem) P := by
  refine wR_li rfl l_6 ?_
  refine yR_m 1 (fun _ _ _ _ => rfl) ?_
  refine wR_ic_ge rfl (a := (w).toInt) (c := 4) rfl rfl (fun q1 => ?_) (fun q1 => ?_)
  ·
    refine wR_li rfl l_5 ?_
    refine wR_si rfl rfl (fun lo2 e3 f4 => ?_)
    have lo2_0 := f4 0 _ (by decide) (Or.inl rfl) l_0
    have lo2_1 := f4 1 _ (by decide) (Or.inl rfl) l_1
    have lo2_2 := f4 2 _ (by decide) (Or.inl rfl) l_2
    have lo2_4 := f4 4 _ (by decide) (Or.inl rfl) l_4
    have lo2_5 := f4 5 _ (by decide) (Or.inl rfl) l_5
    have lo2_6 := f4 6 _ (by decide) (Or.inl rfl) l_6
    refine wN_in (a := (s).toInt) (b := 1) rfl rfl lo2_4 rfl rfl (by omega) (fun x5 e6 => fun lo7 e8 f9 => ?_)
    have lo7_3 := f9 3 _ (by decide) (Or.inl rfl) e3
    have lo7_0 := f9 0 _ (by decide) (Or.inl rfl) lo2_0
    have lo7_1 := f9 1 _ (by decide) (Or.inl rfl) lo2_1
    have lo7_2 := f9 2 _ (by decide) (Or.inl rfl) lo2_2
    have lo7_5 := f9 5 _ (by decide) (Or.inl rfl) lo2_5
    have lo7_6 := f9 6 _ (by decide) (Or.inl rfl) lo2_6
    exact yR_m 1 (fun _ _ _ _ => rfl) (h1 q1 x5 e6 lo7 lo7_0 lo7_1 lo7_2 lo7_3 e8 hm)
  ·
    refine wR_li rfl l_5 ?_
    refine yR_m 1 (fun _ _ _ _ => rfl) ?_
    refine wR_ic_ne rfl (a := (to).toInt) (c := (-1)) rfl tm1 (fun q10 => ?_) (fun q10 => ?_)
    ·
      refine wR_li rfl l_5 ?_
      refine wR_si rfl rfl (fun lo11 e12 f13 => ?_)
      have lo11_0 := f13 0 _ (by decide) (Or.inl rfl) l_0
      have lo11_1 := f13 1 _ (by decide) (Or.inl rfl) l_1
      have lo11_2 := f13 2 _ (by decide) (Or.inl rfl) l_2
      have lo11_4 := f13 4 _ (by decide) (Or.inl rfl) l_4
      have lo11_5 := f13 5 _ (by decide) (Or.inl rfl) l_5
      have lo11_6 := f13 6 _ (by decide) (Or.inl rfl) l_6
      refine wN_in (a := (s).toInt) (b := 1) rfl rfl lo11_4 rfl rfl (by omega) (fun x14 e15 => fun lo16 e17 f18 => ?_)
      have lo16_3 := f18 3 _ (by decide) (Or.inl rfl) e12
      have lo16_0 := f18 0 _ (by decide) (Or.inl rfl) lo11_0
      have lo16_1 := f18 1 _ (by decide) (Or.inl rfl) lo11_1
      have lo16_2 := f18 2 _ (by decide) (Or.inl rfl) lo11_2
      have lo16_5 := f18 5 _ (by decide) (Or.inl rfl) lo11_5
      have lo16_6 := f18 6 _ (by decide) (Or.inl rfl) lo11_6
      exact yR_m 1 (fun _ _ _ _ => rfl) (h2 q1 q10 x14 e15 lo16 lo16_0 lo16_1 lo16_2 lo16_3 e17 hm)
    ·
      refine wR_la rfl l_0 ?_
      refine wR_li rfl l_3 ?_
      refine wR_li rfl l_6 ?_
      refine wR_cv rfl rfl mO_e hm rfl (c_besideOf hm hz (by omega) (by omega) (by omega)) ?_
      rintro _ _ ⟨v19, rfl, rfl, k20⟩
      show yR zpg tX12_walks (d + 5) (94, lo, [.int v19], mem) _
      refine wR_si rfl rfl (fun lo21 e22 f23 => ?_)
      have lo21_0 := f23 0 _ (by decide) (Or.inl rfl) l_0
      have lo21_1 := f23 1 _ (by decide) (Or.inl rfl) l_1
      have lo21_2 := f23 2 _ (by decide) (Or.inl rfl) l_2
      have lo21_3 := f23 3 _ (by decide) (Or.inl rfl) l_3
      have lo21_4 := f23 4 _ (by decide) (Or.inl rfl) l_4
      have lo21_5 := f23 5 _ (by decide) (Or.inl rfl) l_5
      have lo21_6 := f23 6 _ (by decide) (Or.inl rfl) l_6
      refine wR_li rfl e22 ?_
      refine yR_m 1 (fun _ _ _ _ => rfl) ?_
      refine wR_ic_eq rfl (a := (v19).toInt) (c := (-1)) rfl tm1 (fun q24 => ?_) (fun q24 => ?_)
      ·
        refine wN_in (a := (w).toInt) (b := 1) rfl rfl lo21_6 rfl rfl (by omega) (fun x25 e26 => fun lo27 e28 f29 => ?_)
        have lo27_7 := f29 7 _ (by decide) (Or.inl rfl) e22
        have lo27_0 := f29 0 _ (by decide) (Or.inl rfl) lo21_0
        have lo27_1 := f29 1 _ (by decide) (Or.inl rfl) lo21_1
        have lo27_2 := f29 2 _ (by decide) (Or.inl rfl) lo21_2
        have lo27_3 := f29 3 _ (by decide) (Or.inl rfl) lo21_3
        have lo27_4 := f29 4 _ (by decide) (Or.inl rfl) lo21_4
        have lo27_5 := f29 5 _ (by decide) (Or.inl rfl) lo21_5
        exact yR_m 1 (fun _ _ _ _ => rfl) (h3 q1 q10 v19 k20 q24 x25 e26 lo27 lo27_0 lo27_1 lo27_2 lo27_3 lo27_4 lo27_5 e28 hm)
      ·
        refine wR_la rfl lo21_0 ?_
        refine wR_gr rfl mO_e mO_60 hm ?_
        refine wR_li rfl e22 ?_
        refine wN_al (a := (v19).toInt) rfl aR_258 hm rfl rfl (s1 q1 q10 v19 k20 q24) (fun y30 e31 => ?_)
        refine wR_if_le rfl (a := (gn (ga mem 258) (v19).toInt)) e31 (fun q32 => ?_) (fun q32 => ?_)
        ·
          refine wN_in (a := (w).toInt) (b := 1) rfl rfl lo21_6 rfl rfl (by omega) (fun x33 e34 => fun lo35 e36 f37 => ?_)
          have lo35_7 := f37 7 _ (by decide) (Or.inl rfl) e22
          have lo35_0 := f37 0 _ (by decide) (Or.inl rfl) lo21_0
          have lo35_1 := f37 1 _ (by decide) (Or.inl rfl) lo21_1
          have lo35_2 := f37 2 _ (by decide) (Or.inl rfl) lo21_2
          have lo35_3 := f37 3 _ (by decide) (Or.inl rfl) lo21_3
          have lo35_4 := f37 4 _ (by decide) (Or.inl rfl) lo21_4
          have lo35_5 := f37 5 _ (by decide) (Or.inl rfl) lo21_5
          exact yR_m 1 (fun _ _ _ _ => rfl) (h4 q1 q10 v19 k20 q24 y30 e31 q32 x33 e34 lo35 lo35_0 lo35_1 lo35_2 lo35_3 lo35_4 lo35_5 e36 hm)
        ·
          refine wR_la rfl lo21_0 ?_
          refine wR_gr rfl mO_e mO_61 hm ?_
          refine wR_li rfl e22 ?_
          refine wN_al (a := (v19).toInt) rfl aR_259 hm rfl rfl (s2 q1 q10 v19 k20 q24 y30 e31 q32) (fun y38 e39 => ?_)
          refine wR_la rfl lo21_0 ?_
          refine wR_gr rfl mO_e mO_61 hm ?_
          refine wR_li rfl lo21_3 ?_
          refine wN_al (a := (c).toInt) rfl aR_259 hm rfl rfl (by omega) (fun y40 e41 => ?_)
          refine yR_m 1 (fun _ _ _ _ => rfl) ?_
          refine wN_sub (a := (gn (ga mem 259) (c).toInt)) (b := 1) rfl e41 rfl (by omega) (fun x42 e43 => ?_)
          refine wR_ic_ne rfl (a := (gn (ga mem 259) (v19).toInt)) (c := ((gn (ga mem 259) (c).toInt) - 1)) e39 e43 (fun q44 => ?_) (fun q44 => ?_)
          ·
            refine wN_in (a := (w).toInt) (b := 1) rfl rfl lo21_6 rfl rfl (by omega) (fun x45 e46 => fun lo47 e48 f49 => ?_)
            have lo47_7 := f49 7 _ (by decide) (Or.inl rfl) e22
            have lo47_0 := f49 0 _ (by decide) (Or.inl rfl) lo21_0
            have lo47_1 := f49 1 _ (by decide) (Or.inl rfl) lo21_1
            have lo47_2 := f49 2 _ (by decide) (Or.inl rfl) lo21_2
            have lo47_3 := f49 3 _ (by decide) (Or.inl rfl) lo21_3
            have lo47_4 := f49 4 _ (by decide) (Or.inl rfl) lo21_4
            have lo47_5 := f49 5 _ (by decide) (Or.inl rfl) lo21_5
            exact yR_m 1 (fun _ _ _ _ => rfl) (h5 q1 q10 v19 k20 q24 y30 e31 q32 y38 e39 y40 e41 x42 e43 q44 x45 e46 lo47 lo47_0 lo47_1 lo47_2 lo47_3 lo47_4 lo47_5 e48 hm)
          ·
            refine wR_li rfl e22 ?_
            refine wR_si rfl rfl (fun lo50 e51 f52 => ?_)
            have lo50_7 := f52 7 _ (by decide) (Or.inl rfl) e22
            have lo50_0 := f52 0 _ (by decide) (Or.inl rfl) lo21_0
            have lo50_1 := f52 1 _ (by decide) (Or.inl rfl) lo21_1
            have lo50_2 := f52 2 _ (by decide) (Or.inl rfl) lo21_2
            have lo50_3 := f52 3 _ (by decide) (Or.inl rfl) lo21_3
            have lo50_4 := f52 4 _ (by decide) (Or.inl rfl) lo21_4
            have lo50_6 := f52 6 _ (by decide) (Or.inl rfl) lo21_6
            refine wN_in (a := (w).toInt) (b := 1) rfl rfl lo50_6 rfl rfl (by omega) (fun x53 e54 => fun lo55 e56 f57 => ?_)
            have lo55_5 := f57 5 _ (by decide) (Or.inl rfl) e51
            have lo55_7 := f57 7 _ (by decide) (Or.inl rfl) lo50_7
            have lo55_0 := f57 0 _ (by decide) (Or.inl rfl) lo50_0
            have lo55_1 := f57 1 _ (by decide) (Or.inl rfl) lo50_1
            have lo55_2 := f57 2 _ (by decide) (Or.inl rfl) lo50_2
            have lo55_3 := f57 3 _ (by decide) (Or.inl rfl) lo50_3
            have lo55_4 := f57 4 _ (by decide) (Or.inl rfl) lo50_4
            exact yR_m 1 (fun _ _ _ _ => rfl) (h6 q1 q10 v19 k20 q24 y30 e31 q32 y38 e39 y40 e41 x42 e43 q44 x53 e54 lo55 lo55_0 lo55_1 lo55_2 lo55_3 lo55_4 lo55_5 e56 hm)

variable {L : Int → Prop} {e : Int}
/-- a next place is sought: what is so -/
def wmI (L : Int → Prop) (e : Int) (N : Nat) (c w to : Int) : Prop := (to = -1 ∧ ∀ u, 0 ≤ u → u < w → ¬ (L (nbr c u) ∧ dsP L e N (nbr c u))) ∨ (¬ to = -1 ∧ to = nxF L e c)
theorem wm_n {N : Nat} {c w to : Int} (hh : wmI L e N c w to) (ht : to = -1) (q : ¬ (L (nbr c w) ∧ dsP L e N (nbr c w))) : wmI L e N c (w + 1) to := by
  rcases hh with ⟨a, b⟩ | ⟨a, -⟩
  · refine Or.inl ⟨a, fun u u0 u1 => ?_⟩
    by_cases z : u = w
    · rw [z]
      exact q
    · exact b u u0 (by omega)
  · exact absurd ht a
theorem wm_e {N : Nat} {c to : Int} (hd : dsP L e (N + 1) c) (hh : wmI L e N c 4 to) : to = nxF L e c := by
  rcases hh with ⟨-, b⟩ | ⟨-, b⟩
  · obtain ⟨w, hw, h⟩ := ds_st hd
    exact absurd h (b w hw.1 hw.2)
  · exact b
theorem wm_f {N : Nat} {c w to : Int} (hh : wmI L e N c w to) (ht : ¬ to = -1) : to = nxF L e c := by
  rcases hh with ⟨a, -⟩ | ⟨-, b⟩
  · exact absurd a ht
  · exact b
theorem wm_u {N : Nat} {c w : Int} (hh : wmI L e N c w (-1)) : ∀ u, 0 ≤ u → u < w → ¬ (L (nbr c u) ∧ dsP L e N (nbr c u)) := by
  rcases hh with ⟨-, b⟩ | ⟨a, -⟩
  · exact b
  · exact absurd rfl a
theorem wm_in {N : Nat} {v k c s : Int32} {P : Option Value → zM → Prop} (hm : aTm aT0 mem) (hM : mB Q mem) (hW : WQ Q) (hL : ∀ c, L c ↔ (frP Q c ∧ (¬ (1 : Int32).toInt = 0 → ¬ gn (ga mem 258) c = 0))) (h58 : ∀ j, 0 ≤ j → j < 64 → 0 ≤ gn (ga mem 258) j) (hR : rdM L Q e mem) (hs : 0 ≤ s.toInt ∧ s.toInt ≤ 9) (fc : frP Q c.toInt) (hN : gn (ga mem 259) c.toInt = (N : Int) + 1) (hN9 : (N : Int) + 1 < 100000000) (hdc : dsP L e (N + 1) c.toInt)
    (out : ∀ (lo : List (Nat × Value)) (to s' : Int32), s'.toInt = s.toInt + 1 → to.toInt = nxF L e c.toInt → zlg lo 0 = some (.ref 221) → zlg lo 1 = some (.int v) → zlg lo 2 = some (.int k) → zlg lo 3 = some (.int to) → zlg lo 4 = some (.int s') → yR zpg tX12_walks (d + 5) (34, lo, [], mem) P) :
    ∀ (f : Nat) (w to : Int32) (lo : List (Nat × Value)), w.toInt + (f : Int) = 4 → 0 ≤ w.toInt → wmI L e N c.toInt w.toInt to.toInt → zlg lo 0 = some (.ref 221) → zlg lo 1 = some (.int v) → zlg lo 2 = some (.int k) → zlg lo 3 = some (.int c) → zlg lo 4 = some (.int s) → zlg lo 5 = some (.int to) → zlg lo 6 = some (.int w) → yR zpg tX12_walks (d + 5) (75, lo, [], mem) P := by
  intro f
  have hF : ∀ c, frP Q c → 0 ≤ c ∧ c < 64 := fun c hc => by
    have z := hc.1
    have q := hW.1
    unfold inG at z
    omega
  have hz := sz_G hM hW
  have hc := hF _ fc
  induction f with
  | zero =>
    intro w to lo hw w0 hi l0 l1 l2 l3 l4 l5 l6
    have w4 : w.toInt = 4 := by omega
    rw [w4] at hi
    exact w_wm75 hm l0 l1 l2 l3 l4 l5 l6 hz ⟨hc.1, by omega⟩ ⟨w0, by omega⟩ hs ⟨by omega, by omega⟩ 
        (fun q1 x5 e6 lo a0 a1 a2 a3 a4 hm2 => out lo to _ (by omega) (wm_e hdc hi) a0 a1 a2 a3 a4)
        (fun q1 q10 x14 e15 lo a0 a1 a2 a3 a4 hm2 => by exfalso; omega)
        (fun q1 q10 v19 k20 q24 x25 e26 lo a0 a1 a2 a3 a4 a5 a6 hm2 => by exfalso; omega)
        (fun q1 q10 v19 k20 q24 => by omega)
        (fun q1 q10 v19 k20 q24 y30 e31 q32 x33 e34 lo a0 a1 a2 a3 a4 a5 a6 hm2 => by exfalso; omega)
        (fun q1 q10 v19 k20 q24 y30 e31 q32 => by omega)
        (fun q1 q10 v19 k20 q24 y30 e31 q32 y38 e39 y40 e41 x42 e43 q44 x45 e46 lo a0 a1 a2 a3 a4 a5 a6 hm2 => by exfalso; omega)
        (fun q1 q10 v19 k20 q24 y30 e31 q32 y38 e39 y40 e41 x42 e43 q44 x53 e54 lo a0 a1 a2 a3 a4 a5 a6 hm2 => by exfalso; omega)
  | succ f ih =>
    intro w to lo hw w0 hi l0 l1 l2 l3 l4 l5 l6
    have sr : ∀ v : Int32, besR mem c.toInt w.toInt v.toInt → ¬ v.toInt = -1 → (v.toInt = nbr c.toInt w.toInt ∧ frP Q v.toInt) ∧ 0 ≤ v.toInt ∧ v.toInt < 64 := fun v hb hv => by
      rcases bs_F hm hM hW fc w0 (by omega) hb with ⟨a, -⟩ | ⟨a, b⟩
      · exact absurd a hv
      · rw [← a] at b
        exact ⟨⟨a, b⟩, hF _ b⟩
    exact w_wm75 hm l0 l1 l2 l3 l4 l5 l6 hz ⟨hc.1, by omega⟩ ⟨w0, by omega⟩ hs ⟨by omega, by omega⟩ 
        (fun q1 x5 e6 lo a0 a1 a2 a3 a4 hm2 => by exfalso; omega)
        (fun q1 q10 x14 e15 lo a0 a1 a2 a3 a4 hm2 => out lo to _ (by omega) (wm_f hi q10) a0 a1 a2 a3 a4)
        (fun q1 q10 v19 k20 q24 x25 e26 lo a0 a1 a2 a3 a4 a5 a6 hm2 => ih _ to lo (by omega) (by omega) (by
          rw [e26]
          exact wm_n hi q10 (fun z => by
            rcases bs_F hm hM hW fc w0 (by omega) k20 with ⟨-, g⟩ | ⟨g, g2⟩
            · exact g ((hL _).1 z.1).1
            · have gg := hF _ g2
              omega)) a0 a1 a2 a3 a4 a5 a6)
        (fun q1 q10 v19 k20 q24 => by have S := sr v19 k20 q24; omega)
        (fun q1 q10 v19 k20 q24 y30 e31 q32 x33 e34 lo a0 a1 a2 a3 a4 a5 a6 hm2 => ih _ to lo (by omega) (by omega) (by
          rw [e34]
          exact wm_n hi q10 (fun z => by
            have S := sr v19 k20 q24
            have g := ((hL _).1 z.1).2 (by decide)
            rw [← S.1.1] at g
            have g2 := h58 v19.toInt S.2.1 S.2.2
            omega)) a0 a1 a2 a3 a4 a5 a6)
        (fun q1 q10 v19 k20 q24 y30 e31 q32 => by have S := sr v19 k20 q24; omega)
        (fun q1 q10 v19 k20 q24 y30 e31 q32 y38 e39 y40 e41 x42 e43 q44 x45 e46 lo a0 a1 a2 a3 a4 a5 a6 hm2 => ih _ to lo (by omega) (by omega) (by
          rw [e46]
          exact wm_n hi q10 (fun z => by
            have S := sr v19 k20 q24
            rcases hR _ S.1.2 with ⟨-, g⟩ | ⟨n, g1, g2⟩
            · exact g N (by rw [S.1.1]; exact z.2.1)
            · have z2 := z.2
              rw [← S.1.1] at z2
              have z3 := ds_u g2 z2
              omega)) a0 a1 a2 a3 a4 a5 a6)
        (fun q1 q10 v19 k20 q24 y30 e31 q32 y38 e39 y40 e41 x42 e43 q44 x53 e54 lo a0 a1 a2 a3 a4 a5 a6 hm2 => by
          have S := sr v19 k20 q24
          have ds : dsP L e N v19.toInt := by
            rcases hR _ S.1.2 with ⟨g, -⟩ | ⟨n, g1, g2⟩
            · exfalso
              omega
            · have z3 : n = N := by omega
              rw [z3] at g2
              exact g2
          rw [q10] at hi
          refine ih _ _ lo (by omega) (by omega) (Or.inr ⟨q24, (nxF_e ⟨w.toInt, N, ⟨w0, by omega⟩, S.1.1, hdc, ⟨(hL _).2 ⟨S.1.2, fun _ => by omega⟩, ds⟩, wm_u hi⟩).symm⟩) a0 a1 a2 a3 a4 a5 a6)
theorem wm_out {v k : Int32} {T : Int} (hm : aTm aT0 mem) (hM : mB Q mem) (hW : WQ Q) (hL : ∀ c, L c ↔ (frP Q c ∧ (¬ (1 : Int32).toInt = 0 → ¬ gn (ga mem 258) c = 0))) (h58 : ∀ j, 0 ≤ j → j < 64 → 0 ≤ gn (ga mem 258) j) (hR : rdM L Q e mem) (hv : 0 ≤ v.toInt ∧ v.toInt ≤ 21) (hk : 0 ≤ k.toInt ∧ k.toInt ≤ 5) :
    ∀ (f : Nat) (s c : Int32) (lo : List (Nat × Value)), s.toInt + (f : Int) = Qp Q → 0 ≤ s.toInt → frP Q c.toInt → wkF L e f c.toInt = T → zlg lo 0 = some (.ref 221) → zlg lo 1 = some (.int v) → zlg lo 2 = some (.int k) → zlg lo 3 = some (.int c) → zlg lo 4 = some (.int s) → yR zpg tX12_walks (d + 5) (34, lo, [], mem) (fun r m => r = none ∧ aTm aT0 m ∧ ∃ x i : Int32, m = sx mem 252 i x ∧ i.toInt = 6 * v.toInt + k.toInt ∧ x.toInt = T) := by
  intro f
  have hF : ∀ c, frP Q c → 0 ≤ c ∧ c < 64 := fun c hc => by
    have z := hc.1
    have q := hW.1
    unfold inG at z
    omega
  have hLG : ∀ c, L c → inG Q c := fun c hc => ((hL c).1 hc).1.1
  have pa : gn (ga mem 225) (gi mem 221 13).toInt = Qp Q := (mq_p hM.1).1
  have p9 := hW.2.2.2.1.1
  induction f with
  | zero =>
    intro s c lo hs s0 fc hT l0 l1 l2 l3 l4
    have hc := hF _ fc
    exact w_wm34 hm l0 l1 l2 l3 l4 hv hk ⟨hc.1, by omega⟩ ⟨s0, by omega⟩ 
        (fun y1 e2 q3 x4 e5 x6 e7 hm2 => ⟨rfl, hm2, _, _, rfl, by omega, hT⟩)
        (fun y1 e2 q3 y8 e9 q10 x11 e12 x13 e14 hm2 => by exfalso; omega)
        (fun y1 e2 q3 y8 e9 q10 y15 e16 q17 x18 e19 x20 e21 hm2 => by exfalso; omega)
        (fun y1 e2 q3 y8 e9 q10 y15 e16 q17 lo a0 a1 a2 a3 a4 a5 a6 hm2 => by exfalso; omega)
  | succ f ih =>
    intro s c lo hs s0 fc hT l0 l1 l2 l3 l4
    have hc := hF _ fc
    have still : (∀ n, ¬ dsP L e (n + 1) c.toInt) → c.toInt = T := fun z => (wkF_0 (nxF_0 z) (f + 1)).symm.trans hT
    exact w_wm34 hm l0 l1 l2 l3 l4 hv hk ⟨hc.1, by omega⟩ ⟨s0, by omega⟩ 
        (fun y1 e2 q3 x4 e5 x6 e7 hm2 => by exfalso; omega)
        (fun y1 e2 q3 y8 e9 q10 x11 e12 x13 e14 hm2 => ⟨rfl, hm2, _, _, rfl, by omega, by
          rcases hR _ fc with ⟨g, -⟩ | ⟨n, g1, g2⟩
          · exfalso
            omega
          · have n0 : n = 0 := by omega
            rw [n0] at g2
            exact still (fun m hh => by have := ds_u g2 hh; omega)⟩)
        (fun y1 e2 q3 y8 e9 q10 y15 e16 q17 x18 e19 x20 e21 hm2 => ⟨rfl, hm2, _, _, rfl, by omega, by
          rcases hR _ fc with ⟨-, g⟩ | ⟨n, g1, g2⟩
          · exact still (fun m hh => g _ hh.1)
          · have n48 := ds_48 (by have q := hW.1; omega) (by have q := hW.1; omega) hLG fc.1 g2
            exfalso
            omega⟩)
        (fun y1 e2 q3 y8 e9 q10 y15 e16 q17 lo a0 a1 a2 a3 a4 a5 a6 hm2 => by
          rcases hR _ fc with ⟨g, -⟩ | ⟨n, g1, g2⟩
          · exfalso
            omega
          · obtain ⟨N, rfl⟩ : ∃ q, n = q + 1 := ⟨n - 1, by omega⟩
            exact wm_in (N := N) hm hM hW hL h58 hR ⟨s0, by omega⟩ fc (by omega) (by omega) g2 (fun lo to s' e1 e2 b0 b1 b2 b3 b4 => ih s' to lo (by omega) (by omega) (by
              rw [e2]
              rcases nxF_L (L := L) (e := e) c.toInt with z | z
              · rw [z]
                exact fc
              · exact ((hL _).1 z).1) (by rw [e2]; exact hT) b0 b1 b2 b3 b4) 4 0 (-1) lo (by decide) (by decide) (Or.inl ⟨by decide, fun u u0 u1 => by have z : (0 : Int32).toInt = 0 := rfl; omega⟩) a0 a1 a2 a3 a4 a5 a6)
theorem h_wm {v k : Int32} (hm : aTm aT0 mem) (hM : mB Q mem) (hW : WQ Q) (hL : ∀ c, L c ↔ (frP Q c ∧ (¬ (1 : Int32).toInt = 0 → ¬ gn (ga mem 258) c = 0))) (h58 : ∀ j, 0 ≤ j → j < 64 → 0 ≤ gn (ga mem 258) j) (hv : 0 ≤ v.toInt ∧ v.toInt ≤ 21) (k0 : 0 ≤ k.toInt) (k1 : k.toInt < foN Q) (fp : frP Q (gn (ga mem 252) (6 * v.toInt + k.toInt))) (hd : 6 ≤ d) : yC zpg d 230 [.ref 221, .int v, .int k] mem (fun r m => r = none ∧ aTm aT0 m ∧ (onl [252, 259, 260] mem m ∧ ∀ j, 0 ≤ j → gn (ga m 252) j = if j = 6 * v.toInt + k.toInt then wkF L (hoA Q k.toInt) (Qp Q).toNat (gn (ga mem 252) (6 * v.toInt + k.toInt)) else gn (ga mem 252) j)) := by
  obtain ⟨d, rfl⟩ : ∃ q, d = q + 6 := ⟨d - 6, by omega⟩
  have n6 : foN Q ≤ 6 := by
    have := hW.2.1.2.1
    unfold foN
    omega
  have p9 := hW.2.2.2.1.1
  have ho := (mq_f hM.1 k0 k1).2
  have fh := (wq_f hW k0 k1).2
  refine yC_of (t := tX12_walks) rfl rfl ?_
  exact w_wm0 hm rfl rfl rfl hM hW hL hv ⟨k0, by omega⟩ 
        (fun x1 e2 x3 e4 y5 e6 => by rw [e6, ho]; exact fh)
        (fun x1 e2 x3 e4 y5 e6 m7 hm7 k8 x9 e10 x11 e12 y13 e14 lo a0 a1 a2 a3 a4 hm2 => by
      have g252 : ga m7 252 = ga mem 252 := onl_ga k8.1 rfl
      have g258 : ga m7 258 = ga mem 258 := onl_ga k8.1 rfl
      have eh := e6.trans ho
      have ec : y13.toInt = gn (ga mem 252) (6 * v.toInt + k.toInt) := by rw [e14, g252]
      have M1 : mB Q m7 := mB_o (ks := [259, 260]) rfl k8.1 hM
      have R1 := k8.2
      rw [eh] at R1
      refine yR_mono ?_ (wm_out (Q := Q) (L := L) (e := hoA Q k.toInt) (T := wkF L (hoA Q k.toInt) (Qp Q).toNat y13.toInt) hm2 M1 hW (by rw [g258]; exact hL) (by rw [g258]; exact h58) R1 hv ⟨k0, by omega⟩ (Qp Q).toNat 0 y13 lo (by show (0 : Int) + _ = _; omega) (by decide) (by rw [ec]; exact fp) rfl a0 a1 a2 a3 a4)
      rintro r m ⟨r1, r2, x, i, rfl, hi, hx⟩
      have t1 := ga_ty aR_252 hm2
      refine ⟨r1, r2, onl_tr (onl_up k8.1 rfl) (onl_sa rfl onl_rf), fun j j0 => ?_⟩
      rw [ga_sa_eq, gn_set hi (by omega) (by rw [t1.2.1]; omega) j0, hx, g252, ec])
end WMA
