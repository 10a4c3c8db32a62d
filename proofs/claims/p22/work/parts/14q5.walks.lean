/-! a step home: what lit cells and roads give -/
def litOK (m : zM) : Prop := ∀ c, 0 ≤ c → c < 64 → 0 ≤ gn (ga m 258) c ∧ (0 < gn (ga m 258) c → frC m (c % 8) (c / 8))
def good (m : zM) (c w : Int) : Prop := frC m (c % 8 + dX w) (c / 8 + dY w) ∧ 0 < gn (ga m 258) (8 * (c / 8 + dY w) + (c % 8 + dX w)) ∧ gn (ga m 259) (8 * (c / 8 + dY w) + (c % 8 + dX w)) = gn (ga m 259) c - 1
def wkOK (m : zM) : Prop := (∀ c, 0 ≤ c → c < 64 → 0 ≤ gn (ga m 259) c) ∧ ∀ c, 0 ≤ c → c < 64 → 0 < gn (ga m 259) c → gn (ga m 259) c < 100000000 → ∃ w, (0 ≤ w ∧ w < 4) ∧ good m c w
theorem bes_opp {m : zM} {q w c : Int} (hz : szOK m) (hc : 0 ≤ c) (hw : 0 ≤ w ∧ w < 4) (h : besR m q w c) : ∃ u, (0 ≤ u ∧ u < 4) ∧ c % 8 + dX u = q % 8 ∧ c / 8 + dY u = q / 8 := by
  obtain ⟨z1, z2, z3, z4⟩ := hz
  rcases h with ⟨h1, -⟩ | ⟨h1, ⟨-, a, b, e, f⟩, -⟩
  · omega
  · have x0 : dX 0 = 0 := by decide
    have x1 : dX 1 = 1 := by decide
    have x2 : dX 2 = 0 := by decide
    have x3 : dX 3 = -1 := by decide
    have y0 : dY 0 = -1 := by decide
    have y1 : dY 1 = 0 := by decide
    have y2 : dY 2 = 1 := by decide
    have y3 : dY 3 = 0 := by decide
    have hw4 : w = 0 ∨ w = 1 ∨ w = 2 ∨ w = 3 := by omega
    rcases hw4 with r | r | r | r <;> subst r
    · exact ⟨2, by decide, by omega, by omega⟩
    · exact ⟨3, by decide, by omega, by omega⟩
    · exact ⟨0, by decide, by omega, by omega⟩
    · exact ⟨1, by decide, by omega, by omega⟩
theorem wk_of {mem m : zM} {to : Int32} (hz : szOK mem) (hl : litOK mem) (h : ldQ mem to 1 m) : wkOK m := by
  obtain ⟨ho, n, h1, h2, h3, h4, h5, h6, h7, h8⟩ := h
  obtain ⟨B1, B2, B3⟩ := onl_bes ho rfl rfl rfl rfl
  have hlb : ga m 258 = ga mem 258 := onl_ga ho rfl
  refine ⟨fun c a b => (h6 c a b).1, fun c a b p q => ?_⟩
  rcases h8 c a b q with e | ⟨r, w, r1, w1, e1, e2, e3⟩
  · rw [e, h7] at p
    omega
  · obtain ⟨u, u1, u2, u3⟩ := bes_opp hz a w1 e3
    have lq := hl r r1.1 r1.2
    have l1 := e2 (by decide)
    refine ⟨u, u1, ?_⟩
    unfold good
    rw [B3, u2, u3, hlb, show 8 * (r / 8) + r % 8 = r by omega]
    exact ⟨lq.2 (by omega), by omega, by omega⟩
set_option maxRecDepth 100000 in
theorem w_wa_0 {E : zM → Prop} (hE : aEs (aΘ0 E)) {d : Nat} {m0 mem : zM} {P : Option Value → zM → Prop} {v k : Int32} {lo : List (Nat × Value)} (hm : wI (aΘ0 E) m0 mem) (l_0 : zlg lo 0 = some (.ref 221)) (l_1 : zlg lo 1 = some (.int v)) (l_2 : zlg lo 2 = some (.int k)) (s1 : (-2147483648 : Int) ≤ (6 * (gi mem 221 13).toInt) ∧ (6 * (gi mem 221 13).toInt) ≤ 2147483647) (s2 : ∀ (x1 : Int32), x1.toInt = (6 * (gi mem 221 13).toInt) → (-2147483648 : Int) ≤ ((6 * (gi mem 221 13).toInt) + (k).toInt) ∧ ((6 * (gi mem 221 13).toInt) + (k).toInt) ≤ 2147483647) (s3 : ∀ (x1 : Int32), x1.toInt = (6 * (gi mem 221 13).toInt) → ∀ (x3 : Int32), x3.toInt = ((6 * (gi mem 221 13).toInt) + (k).toInt) → (0 : Int) ≤ ((6 * (gi mem 221 13).toInt) + (k).toInt) ∧ ((6 * (gi mem 221 13).toInt) + (k).toInt) < 12) (s4 : ∀ (x1 : Int32), x1.toInt = (6 * (gi mem 221 13).toInt) → ∀ (x3 : Int32), x3.toInt = ((6 * (gi mem 221 13).toInt) + (k).toInt) → ∀ (y5 : Int32), y5.toInt = (gn (ga mem 235) ((6 * (gi mem 221 13).toInt) + (k).toInt)) → (0 : Int) ≤ (gn (ga mem 235) ((6 * (gi mem 221 13).toInt) + (k).toInt)) ∧ (gn (ga mem 235) ((6 * (gi mem 221 13).toInt) + (k).toInt)) ≤ 63) (s5 : szOK mem) (s6 : ∀ (x1 : Int32), x1.toInt = (6 * (gi mem 221 13).toInt) → ∀ (x3 : Int32), x3.toInt = ((6 * (gi mem 221 13).toInt) + (k).toInt) → ∀ (y5 : Int32), y5.toInt = (gn (ga mem 235) ((6 * (gi mem 221 13).toInt) + (k).toInt)) → ∀ (m7 : zM), wI (aΘ0 E) m0 m7 → ldQ mem y5 1 m7 → (-2147483648 : Int) ≤ (6 * (v).toInt) ∧ (6 * (v).toInt) ≤ 2147483647) (s7 : ∀ (x1 : Int32), x1.toInt = (6 * (gi mem 221 13).toInt) → ∀ (x3 : Int32), x3.toInt = ((6 * (gi mem 221 13).toInt) + (k).toInt) → ∀ (y5 : Int32), y5.toInt = (gn (ga mem 235) ((6 * (gi mem 221 13).toInt) + (k).toInt)) → ∀ (m7 : zM), wI (aΘ0 E) m0 m7 → ldQ mem y5 1 m7 → ∀ (x9 : Int32), x9.toInt = (6 * (v).toInt) → (-2147483648 : Int) ≤ ((6 * (v).toInt) + (k).toInt) ∧ ((6 * (v).toInt) + (k).toInt) ≤ 2147483647) (s8 : ∀ (x1 : Int32), x1.toInt = (6 * (gi mem 221 13).toInt) → ∀ (x3 : Int32), x3.toInt = ((6 * (gi mem 221 13).toInt) + (k).toInt) → ∀ (y5 : Int32), y5.toInt = (gn (ga mem 235) ((6 * (gi mem 221 13).toInt) + (k).toInt)) → ∀ (m7 : zM), wI (aΘ0 E) m0 m7 → ldQ mem y5 1 m7 → ∀ (x9 : Int32), x9.toInt = (6 * (v).toInt) → ∀ (x11 : Int32), x11.toInt = ((6 * (v).toInt) + (k).toInt) → (0 : Int) ≤ ((6 * (v).toInt) + (k).toInt) ∧ ((6 * (v).toInt) + (k).toInt) < 132) (h1 : ∀ (x1 : Int32), x1.toInt = (6 * (gi mem 221 13).toInt) → ∀ (x3 : Int32), x3.toInt = ((6 * (gi mem 221 13).toInt) + (k).toInt) → ∀ (y5 : Int32), y5.toInt = (gn (ga mem 235) ((6 * (gi mem 221 13).toInt) + (k).toInt)) → ∀ (m7 : zM), wI (aΘ0 E) m0 m7 → ldQ mem y5 1 m7 → ∀ (x9 : Int32), x9.toInt = (6 * (v).toInt) → ∀ (x11 : Int32), x11.toInt = ((6 * (v).toInt) + (k).toInt) → ∀ (y13 : Int32), y13.toInt = (gn (ga m7 252) ((6 * (v).toInt) + (k).toInt)) → ∀ lo, zlg lo 0 = some (.ref 221) → zlg lo 1 = some (.int v) → zlg lo 2 = some (.int k) → zlg lo 3 = some (.int y13) → zlg lo 4 = some (.int 0) → wI (aΘ0 E) m0 m7 → yR zpg tX12_walks (d + 4) (34, lo, [], m7) P) : yR zpg tX12_walks (d + 4) (0, lo, [], mem) P := by
  refine wR_la rfl l_0 ?_
  refine wR_la rfl l_0 ?_
  refine wR_gr rfl mO_e mO_26 hm.1.1 ?_
  refine yR_m 1 (fun _ _ _ _ => rfl) ?_
  refine wR_la rfl l_0 ?_
  refine wR_gi rfl mO_e mO_13 hm.1.1 rfl ?_
  refine wN_mul (a := 6) (b := (gi mem 221 13).toInt) rfl rfl rfl s1 (fun x1 e2 => ?_)
  refine wR_li rfl l_2 ?_
  refine wN_add (a := (6 * (gi mem 221 13).toInt)) (b := (k).toInt) rfl e2 rfl (s2 x1 e2) (fun x3 e4 => ?_)
  refine wN_al (a := ((6 * (gi mem 221 13).toInt) + (k).toInt)) rfl aR_235 hm.1.1 rfl e4 (s3 x1 e2 x3 e4) (fun y5 e6 => ?_)
  refine yR_m 1 (fun _ _ _ _ => rfl) ?_
  refine wR_cv rfl rfl mO_e hm.1.1 rfl (h_leads hE (by omega) (by rw [e6]; exact (s4 x1 e2 x3 e4 y5 e6)) s5 hm) ?_
  rintro _ m7 ⟨rfl, hI7, k8⟩
  show yR zpg tX12_walks (d + 4) (19, lo, [], m7) _
  refine wR_la rfl l_0 ?_
  refine wR_gr rfl mO_e mO_51 hI7.1.1 ?_
  refine yR_m 1 (fun _ _ _ _ => rfl) ?_
  refine wR_li rfl l_1 ?_
  refine wN_mul (a := 6) (b := (v).toInt) rfl rfl rfl (s6 x1 e2 x3 e4 y5 e6 m7 hI7 k8) (fun x9 e10 => ?_)
  refine wR_li rfl l_2 ?_
  refine wN_add (a := (6 * (v).toInt)) (b := (k).toInt) rfl e10 rfl (s7 x1 e2 x3 e4 y5 e6 m7 hI7 k8 x9 e10) (fun x11 e12 => ?_)
  refine wN_al (a := ((6 * (v).toInt) + (k).toInt)) rfl aR_252 hI7.1.1 rfl e12 (s8 x1 e2 x3 e4 y5 e6 m7 hI7 k8 x9 e10 x11 e12) (fun y13 e14 => ?_)
  refine wR_si rfl rfl (fun lo15 e16 f17 => ?_)
  have lo15_0 := f17 0 _ (by decide) (Or.inl rfl) l_0
  have lo15_1 := f17 1 _ (by decide) (Or.inl rfl) l_1
  have lo15_2 := f17 2 _ (by decide) (Or.inl rfl) l_2
  refine yR_m 1 (fun _ _ _ _ => rfl) ?_
  refine wR_si rfl rfl (fun lo18 e19 f20 => ?_)
  have lo18_3 := f20 3 _ (by decide) (Or.inl rfl) e16
  have lo18_0 := f20 0 _ (by decide) (Or.inl rfl) lo15_0
  have lo18_1 := f20 1 _ (by decide) (Or.inl rfl) lo15_1
  have lo18_2 := f20 2 _ (by decide) (Or.inl rfl) lo15_2
  exact h1 x1 e2 x3 e4 y5 e6 m7 hI7 k8 x9 e10 x11 e12 y13 e14 lo18 lo18_0 lo18_1 lo18_2 lo18_3 e19 hI7

set_option maxRecDepth 100000 in
theorem w_wa_34 {E : zM → Prop} (hE : aEs (aΘ0 E)) {d : Nat} {m0 mem : zM} {P : Option Value → zM → Prop} {v k c s : Int32} {lo : List (Nat × Value)} (hm : wI (aΘ0 E) m0 mem) (l_0 : zlg lo 0 = some (.ref 221)) (l_1 : zlg lo 1 = some (.int v)) (l_2 : zlg lo 2 = some (.int k)) (l_3 : zlg lo 3 = some (.int c)) (l_4 : zlg lo 4 = some (.int s)) (s1 : (0 : Int) ≤ (gi mem 221 13).toInt ∧ (gi mem 221 13).toInt < 2) (s2 : ∀ (y1 : Int32), y1.toInt = (gn (ga mem 225) (gi mem 221 13).toInt) → (gn (ga mem 225) (gi mem 221 13).toInt) ≤ (s).toInt → (-2147483648 : Int) ≤ (6 * (v).toInt) ∧ (6 * (v).toInt) ≤ 2147483647) (s3 : ∀ (y1 : Int32), y1.toInt = (gn (ga mem 225) (gi mem 221 13).toInt) → (gn (ga mem 225) (gi mem 221 13).toInt) ≤ (s).toInt → ∀ (x4 : Int32), x4.toInt = (6 * (v).toInt) → (-2147483648 : Int) ≤ ((6 * (v).toInt) + (k).toInt) ∧ ((6 * (v).toInt) + (k).toInt) ≤ 2147483647) (s4 : ∀ (y1 : Int32), y1.toInt = (gn (ga mem 225) (gi mem 221 13).toInt) → (gn (ga mem 225) (gi mem 221 13).toInt) ≤ (s).toInt → ∀ (x4 : Int32), x4.toInt = (6 * (v).toInt) → ∀ (x6 : Int32), x6.toInt = ((6 * (v).toInt) + (k).toInt) → (0 : Int) ≤ ((6 * (v).toInt) + (k).toInt) ∧ ((6 * (v).toInt) + (k).toInt) < 132) (s5 : ∀ (y1 : Int32), y1.toInt = (gn (ga mem 225) (gi mem 221 13).toInt) → (gn (ga mem 225) (gi mem 221 13).toInt) ≤ (s).toInt → ∀ (x4 : Int32), x4.toInt = (6 * (v).toInt) → ∀ (x6 : Int32), x6.toInt = ((6 * (v).toInt) + (k).toInt) → (0 : Int) ≤ (c).toInt ∧ (c).toInt ≤ 63) (h1 : ∀ (y1 : Int32), y1.toInt = (gn (ga mem 225) (gi mem 221 13).toInt) → (gn (ga mem 225) (gi mem 221 13).toInt) ≤ (s).toInt → ∀ (x4 : Int32), x4.toInt = (6 * (v).toInt) → ∀ (x6 : Int32), x6.toInt = ((6 * (v).toInt) + (k).toInt) → wI (aΘ0 E) m0 (sx mem 252 x6 c) → P none (sx mem 252 x6 c)) (s6 : ∀ (y1 : Int32), y1.toInt = (gn (ga mem 225) (gi mem 221 13).toInt) → (s).toInt < (gn (ga mem 225) (gi mem 221 13).toInt) → (0 : Int) ≤ (c).toInt ∧ (c).toInt < 64) (s7 : ∀ (y1 : Int32), y1.toInt = (gn (ga mem 225) (gi mem 221 13).toInt) → (s).toInt < (gn (ga mem 225) (gi mem 221 13).toInt) → ∀ (y8 : Int32), y8.toInt = (gn (ga mem 259) (c).toInt) → (gn (ga mem 259) (c).toInt) ≤ 0 → (-2147483648 : Int) ≤ (6 * (v).toInt) ∧ (6 * (v).toInt) ≤ 2147483647) (s8 : ∀ (y1 : Int32), y1.toInt = (gn (ga mem 225) (gi mem 221 13).toInt) → (s).toInt < (gn (ga mem 225) (gi mem 221 13).toInt) → ∀ (y8 : Int32), y8.toInt = (gn (ga mem 259) (c).toInt) → (gn (ga mem 259) (c).toInt) ≤ 0 → ∀ (x11 : Int32), x11.toInt = (6 * (v).toInt) → (-2147483648 : Int) ≤ ((6 * (v).toInt) + (k).toInt) ∧ ((6 * (v).toInt) + (k).toInt) ≤ 2147483647) (s9 : ∀ (y1 : Int32), y1.toInt = (gn (ga mem 225) (gi mem 221 13).toInt) → (s).toInt < (gn (ga mem 225) (gi mem 221 13).toInt) → ∀ (y8 : Int32), y8.toInt = (gn (ga mem 259) (c).toInt) → (gn (ga mem 259) (c).toInt) ≤ 0 → ∀ (x11 : Int32), x11.toInt = (6 * (v).toInt) → ∀ (x13 : Int32), x13.toInt = ((6 * (v).toInt) + (k).toInt) → (0 : Int) ≤ ((6 * (v).toInt) + (k).toInt) ∧ ((6 * (v).toInt) + (k).toInt) < 132) (s10 : ∀ (y1 : Int32), y1.toInt = (gn (ga mem 225) (gi mem 221 13).toInt) → (s).toInt < (gn (ga mem 225) (gi mem 221 13).toInt) → ∀ (y8 : Int32), y8.toInt = (gn (ga mem 259) (c).toInt) → (gn (ga mem 259) (c).toInt) ≤ 0 → ∀ (x11 : Int32), x11.toInt = (6 * (v).toInt) → ∀ (x13 : Int32), x13.toInt = ((6 * (v).toInt) + (k).toInt) → (0 : Int) ≤ (c).toInt ∧ (c).toInt ≤ 63) (h2 : ∀ (y1 : Int32), y1.toInt = (gn (ga mem 225) (gi mem 221 13).toInt) → (s).toInt < (gn (ga mem 225) (gi mem 221 13).toInt) → ∀ (y8 : Int32), y8.toInt = (gn (ga mem 259) (c).toInt) → (gn (ga mem 259) (c).toInt) ≤ 0 → ∀ (x11 : Int32), x11.toInt = (6 * (v).toInt) → ∀ (x13 : Int32), x13.toInt = ((6 * (v).toInt) + (k).toInt) → wI (aΘ0 E) m0 (sx mem 252 x13 c) → P none (sx mem 252 x13 c)) (s11 : ∀ (y1 : Int32), y1.toInt = (gn (ga mem 225) (gi mem 221 13).toInt) → (s).toInt < (gn (ga mem 225) (gi mem 221 13).toInt) → ∀ (y8 : Int32), y8.toInt = (gn (ga mem 259) (c).toInt) → 0 < (gn (ga mem 259) (c).toInt) → (0 : Int) ≤ (c).toInt ∧ (c).toInt < 64) (s12 : ∀ (y1 : Int32), y1.toInt = (gn (ga mem 225) (gi mem 221 13).toInt) → (s).toInt < (gn (ga mem 225) (gi mem 221 13).toInt) → ∀ (y8 : Int32), y8.toInt = (gn (ga mem 259) (c).toInt) → 0 < (gn (ga mem 259) (c).toInt) → ∀ (y15 : Int32), y15.toInt = (gn (ga mem 259) (c).toInt) → 100000000 ≤ (gn (ga mem 259) (c).toInt) → (-2147483648 : Int) ≤ (6 * (v).toInt) ∧ (6 * (v).toInt) ≤ 2147483647) (s13 : ∀ (y1 : Int32), y1.toInt = (gn (ga mem 225) (gi mem 221 13).toInt) → (s).toInt < (gn (ga mem 225) (gi mem 221 13).toInt) → ∀ (y8 : Int32), y8.toInt = (gn (ga mem 259) (c).toInt) → 0 < (gn (ga mem 259) (c).toInt) → ∀ (y15 : Int32), y15.toInt = (gn (ga mem 259) (c).toInt) → 100000000 ≤ (gn (ga mem 259) (c).toInt) → ∀ (x18 : Int32), x18.toInt = (6 * (v).toInt) → (-2147483648 : Int) ≤ ((6 * (v).toInt) + (k).toInt) ∧ ((6 * (v).toInt) + (k).toInt) ≤ 2147483647) (s14 : ∀ (y1 : Int32), y1.toInt = (gn (ga mem 225) (gi mem 221 13).toInt) → (s).toInt < (gn (ga mem 225) (gi mem 221 13).toInt) → ∀ (y8 : Int32), y8.toInt = (gn (ga mem 259) (c).toInt) → 0 < (gn (ga mem 259) (c).toInt) → ∀ (y15 : Int32), y15.toInt = (gn (ga mem 259) (c).toInt) → 100000000 ≤ (gn (ga mem 259) (c).toInt) → ∀ (x18 : Int32), x18.toInt = (6 * (v).toInt) → ∀ (x20 : Int32), x20.toInt = ((6 * (v).toInt) + (k).toInt) → (0 : Int) ≤ ((6 * (v).toInt) + (k).toInt) ∧ ((6 * (v).toInt) + (k).toInt) < 132) (s15 : ∀ (y1 : Int32), y1.toInt = (gn (ga mem 225) (gi mem 221 13).toInt) → (s).toInt < (gn (ga mem 225) (gi mem 221 13).toInt) → ∀ (y8 : Int32), y8.toInt = (gn (ga mem 259) (c).toInt) → 0 < (gn (ga mem 259) (c).toInt) → ∀ (y15 : Int32), y15.toInt = (gn (ga mem 259) (c).toInt) → 100000000 ≤ (gn (ga mem 259) (c).toInt) → ∀ (x18 : Int32), x18.toInt = (6 * (v).toInt) → ∀ (x20 : Int32), x20.toInt = ((6 * (v).toInt) + (k).toInt) → (0 : Int) ≤ (c).toInt ∧ (c).toInt ≤ 63) (h3 : ∀ (y1 : Int32), y1.toInt = (gn (ga mem 225) (gi mem 221 13).toInt) → (s).toInt < (gn (ga mem 225) (gi mem 221 13).toInt) → ∀ (y8 : Int32), y8.toInt = (gn (ga mem 259) (c).toInt) → 0 < (gn (ga mem 259) (c).toInt) → ∀ (y15 : Int32), y15.toInt = (gn (ga mem 259) (c).toInt) → 100000000 ≤ (gn (ga mem 259) (c).toInt) → ∀ (x18 : Int32), x18.toInt = (6 * (v).toInt) → ∀ (x20 : Int32), x20.toInt = ((6 * (v).toInt) + (k).toInt) → wI (aΘ0 E) m0 (sx mem 252 x20 c) → P none (sx mem 252 x20 c)) (h4 : ∀ (y1 : Int32), y1.toInt = (gn (ga mem 225) (gi mem 221 13).toInt) → (s).toInt < (gn (ga mem 225) (gi mem 221 13).toInt) → ∀ (y8 : Int32), y8.toInt = (gn (ga mem 259) (c).toInt) → 0 < (gn (ga mem 259) (c).toInt) → ∀ (y15 : Int32), y15.toInt = (gn (ga mem 259) (c).toInt) → (gn (ga mem 259) (c).toInt) < 100000000 → ∀ lo, zlg lo 0 = some (.ref 221) → zlg lo 1 = some (.int v) → zlg lo 2 = some (.int k) → zlg lo 3 = some (.int c) → zlg lo 4 = some (.int s) → zlg lo 5 = some (.int (-1)) → zlg lo 6 = some (.int 0) → wI (aΘ0 E) m0 mem → yR zpg tX12_walks (d + 4) (75, lo, [], mem) P) : yR zpg tX12_walks (d + 4) (34, lo, [], mem) P := by
  refine wR_li rfl l_4 ?_
  refine wR_la rfl l_0 ?_
  refine wR_gr rfl mO_e mO_16 hm.1.1 ?_
  refine wR_la rfl l_0 ?_
  refine wR_gi rfl mO_e mO_13 hm.1.1 rfl ?_
  refine wN_al (a := (gi mem 221 13).toInt) rfl aR_225 hm.1.1 rfl rfl s1 (fun y1 e2 => ?_)
  refine wR_ic_ge rfl (a := (s).toInt) (c := (gn (ga mem 225) (gi mem 221 13).toInt)) rfl e2 (fun q3 => ?_) (fun q3 => ?_)
  ·
    refine wR_la rfl l_0 ?_
    refine wR_gr rfl mO_e mO_51 hm.1.1 ?_
    refine yR_m 1 (fun _ _ _ _ => rfl) ?_
    refine wR_li rfl l_1 ?_
    refine wN_mul (a := 6) (b := (v).toInt) rfl rfl rfl (s2 y1 e2 q3) (fun x4 e5 => ?_)
    refine wR_li rfl l_2 ?_
    refine wN_add (a := (6 * (v).toInt)) (b := (k).toInt) rfl e5 rfl (s3 y1 e2 q3 x4 e5) (fun x6 e7 => ?_)
    refine wR_li rfl l_3 ?_
    refine wN_as (a := ((6 * (v).toInt) + (k).toInt)) rfl aR_252 hm.1.1 e7 (s4 y1 e2 q3 x4 e5 x6 e7) ?_
    have hm_1 : wI (aΘ0 E) m0 (sx mem 252 x6 c) := wI_sa hE aR_252 hm (s5 y1 e2 q3 x4 e5 x6 e7)
    exact yR_rv rfl (h1 y1 e2 q3 x4 e5 x6 e7 hm_1)
  ·
    refine wR_la rfl l_0 ?_
    refine wR_gr rfl mO_e mO_61 hm.1.1 ?_
    refine wR_li rfl l_3 ?_
    refine wN_al (a := (c).toInt) rfl aR_259 hm.1.1 rfl rfl (s6 y1 e2 q3) (fun y8 e9 => ?_)
    refine wR_if_le rfl (a := (gn (ga mem 259) (c).toInt)) e9 (fun q10 => ?_) (fun q10 => ?_)
    ·
      refine wR_la rfl l_0 ?_
      refine wR_gr rfl mO_e mO_51 hm.1.1 ?_
      refine yR_m 1 (fun _ _ _ _ => rfl) ?_
      refine wR_li rfl l_1 ?_
      refine wN_mul (a := 6) (b := (v).toInt) rfl rfl rfl (s7 y1 e2 q3 y8 e9 q10) (fun x11 e12 => ?_)
      refine wR_li rfl l_2 ?_
      refine wN_add (a := (6 * (v).toInt)) (b := (k).toInt) rfl e12 rfl (s8 y1 e2 q3 y8 e9 q10 x11 e12) (fun x13 e14 => ?_)
      refine wR_li rfl l_3 ?_
      refine wN_as (a := ((6 * (v).toInt) + (k).toInt)) rfl aR_252 hm.1.1 e14 (s9 y1 e2 q3 y8 e9 q10 x11 e12 x13 e14) ?_
      have hm_2 : wI (aΘ0 E) m0 (sx mem 252 x13 c) := wI_sa hE aR_252 hm (s10 y1 e2 q3 y8 e9 q10 x11 e12 x13 e14)
      exact yR_rv rfl (h2 y1 e2 q3 y8 e9 q10 x11 e12 x13 e14 hm_2)
    ·
      refine wR_la rfl l_0 ?_
      refine wR_gr rfl mO_e mO_61 hm.1.1 ?_
      refine wR_li rfl l_3 ?_
      refine wN_al (a := (c).toInt) rfl aR_259 hm.1.1 rfl rfl (s11 y1 e2 q3 y8 e9 q10) (fun y15 e16 => ?_)
      refine yR_m 1 (fun _ _ _ _ => rfl) ?_
      refine wR_ic_ge rfl (a := (gn (ga mem 259) (c).toInt)) (c := 100000000) e16 rfl (fun q17 => ?_) (fun q17 => ?_)
      ·
        refine wR_la rfl l_0 ?_
        refine wR_gr rfl mO_e mO_51 hm.1.1 ?_
        refine yR_m 1 (fun _ _ _ _ => rfl) ?_
        refine wR_li rfl l_1 ?_
        refine wN_mul (a := 6) (b := (v).toInt) rfl rfl rfl (s12 y1 e2 q3 y8 e9 q10 y15 e16 q17) (fun x18 e19 => ?_)
        refine wR_li rfl l_2 ?_
        refine wN_add (a := (6 * (v).toInt)) (b := (k).toInt) rfl e19 rfl (s13 y1 e2 q3 y8 e9 q10 y15 e16 q17 x18 e19) (fun x20 e21 => ?_)
        refine wR_li rfl l_3 ?_
        refine wN_as (a := ((6 * (v).toInt) + (k).toInt)) rfl aR_252 hm.1.1 e21 (s14 y1 e2 q3 y8 e9 q10 y15 e16 q17 x18 e19 x20 e21) ?_
        have hm_3 : wI (aΘ0 E) m0 (sx mem 252 x20 c) := wI_sa hE aR_252 hm (s15 y1 e2 q3 y8 e9 q10 y15 e16 q17 x18 e19 x20 e21)
        exact yR_rv rfl (h3 y1 e2 q3 y8 e9 q10 y15 e16 q17 x18 e19 x20 e21 hm_3)
      ·
        refine yR_m 1 (fun _ _ _ _ => rfl) ?_
        refine wR_si rfl rfl (fun lo22 e23 f24 => ?_)
        have lo22_0 := f24 0 _ (by decide) (Or.inl rfl) l_0
        have lo22_1 := f24 1 _ (by decide) (Or.inl rfl) l_1
        have lo22_2 := f24 2 _ (by decide) (Or.inl rfl) l_2
        have lo22_3 := f24 3 _ (by decide) (Or.inl rfl) l_3
        have lo22_4 := f24 4 _ (by decide) (Or.inl rfl) l_4
        refine yR_m 1 (fun _ _ _ _ => rfl) ?_
        refine wR_si rfl rfl (fun lo25 e26 f27 => ?_)
        have lo25_5 := f27 5 _ (by decide) (Or.inl rfl) e23
        have lo25_0 := f27 0 _ (by decide) (Or.inl rfl) lo22_0
        have lo25_1 := f27 1 _ (by decide) (Or.inl rfl) lo22_1
        have lo25_2 := f27 2 _ (by decide) (Or.inl rfl) lo22_2
        have lo25_3 := f27 3 _ (by decide) (Or.inl rfl) lo22_3
        have lo25_4 := f27 4 _ (by decide) (Or.inl rfl) lo22_4
        exact h4 y1 e2 q3 y8 e9 q10 y15 e16 q17 lo25 lo25_0 lo25_1 lo25_2 lo25_3 lo25_4 lo25_5 e26 hm

set_option maxRecDepth 100000 in
theorem w_wa_75 {E : zM → Prop} (hE : aEs (aΘ0 E)) {d : Nat} {m0 mem : zM} {P : Option Value → zM → Prop} {v k c s to w : Int32} {lo : List (Nat × Value)} (hm : wI (aΘ0 E) m0 mem) (l_0 : zlg lo 0 = some (.ref 221)) (l_1 : zlg lo 1 = some (.int v)) (l_2 : zlg lo 2 = some (.int k)) (l_3 : zlg lo 3 = some (.int c)) (l_4 : zlg lo 4 = some (.int s)) (l_5 : zlg lo 5 = some (.int to)) (l_6 : zlg lo 6 = some (.int w)) (s1 : 4 ≤ (w).toInt → (-2147483648 : Int) ≤ ((s).toInt + 1) ∧ ((s).toInt + 1) ≤ 2147483647) (h1 : 4 ≤ (w).toInt → ∀ (x5 : Int32), x5.toInt = ((s).toInt + 1) → ∀ lo, zlg lo 0 = some (.ref 221) → zlg lo 1 = some (.int v) → zlg lo 2 = some (.int k) → zlg lo 3 = some (.int to) → zlg lo 4 = some (.int x5) → wI (aΘ0 E) m0 mem → yR zpg tX12_walks (d + 4) (34, lo, [], mem) P) (s2 : (w).toInt < 4 → ¬ (to).toInt = (-1) → (-2147483648 : Int) ≤ ((s).toInt + 1) ∧ ((s).toInt + 1) ≤ 2147483647) (h2 : (w).toInt < 4 → ¬ (to).toInt = (-1) → ∀ (x14 : Int32), x14.toInt = ((s).toInt + 1) → ∀ lo, zlg lo 0 = some (.ref 221) → zlg lo 1 = some (.int v) → zlg lo 2 = some (.int k) → zlg lo 3 = some (.int to) → zlg lo 4 = some (.int x14) → wI (aΘ0 E) m0 mem → yR zpg tX12_walks (d + 4) (34, lo, [], mem) P) (s3 : szOK mem) (s4 : (w).toInt < 4 → (to).toInt = (-1) → (0 : Int) ≤ (c).toInt ∧ (c).toInt ≤ 63) (s5 : (w).toInt < 4 → (to).toInt = (-1) → (0 : Int) ≤ (w).toInt ∧ (w).toInt ≤ 3) (s6 : (w).toInt < 4 → (to).toInt = (-1) → ∀ (v19 : Int32), besR mem (c).toInt (w).toInt v19.toInt → (v19).toInt = (-1) → (-2147483648 : Int) ≤ ((w).toInt + 1) ∧ ((w).toInt + 1) ≤ 2147483647) (h3 : (w).toInt < 4 → (to).toInt = (-1) → ∀ (v19 : Int32), besR mem (c).toInt (w).toInt v19.toInt → (v19).toInt = (-1) → ∀ (x25 : Int32), x25.toInt = ((w).toInt + 1) → ∀ lo, zlg lo 0 = some (.ref 221) → zlg lo 1 = some (.int v) → zlg lo 2 = some (.int k) → zlg lo 3 = some (.int c) → zlg lo 4 = some (.int s) → zlg lo 5 = some (.int to) → zlg lo 6 = some (.int x25) → wI (aΘ0 E) m0 mem → yR zpg tX12_walks (d + 4) (75, lo, [], mem) P) (s7 : (w).toInt < 4 → (to).toInt = (-1) → ∀ (v19 : Int32), besR mem (c).toInt (w).toInt v19.toInt → ¬ (v19).toInt = (-1) → (0 : Int) ≤ (v19).toInt ∧ (v19).toInt < 64) (s8 : (w).toInt < 4 → (to).toInt = (-1) → ∀ (v19 : Int32), besR mem (c).toInt (w).toInt v19.toInt → ¬ (v19).toInt = (-1) → ∀ (y30 : Int32), y30.toInt = (gn (ga mem 258) (v19).toInt) → (gn (ga mem 258) (v19).toInt) ≤ 0 → (-2147483648 : Int) ≤ ((w).toInt + 1) ∧ ((w).toInt + 1) ≤ 2147483647) (h4 : (w).toInt < 4 → (to).toInt = (-1) → ∀ (v19 : Int32), besR mem (c).toInt (w).toInt v19.toInt → ¬ (v19).toInt = (-1) → ∀ (y30 : Int32), y30.toInt = (gn (ga mem 258) (v19).toInt) → (gn (ga mem 258) (v19).toInt) ≤ 0 → ∀ (x33 : Int32), x33.toInt = ((w).toInt + 1) → ∀ lo, zlg lo 0 = some (.ref 221) → zlg lo 1 = some (.int v) → zlg lo 2 = some (.int k) → zlg lo 3 = some (.int c) → zlg lo 4 = some (.int s) → zlg lo 5 = some (.int to) → zlg lo 6 = some (.int x33) → wI (aΘ0 E) m0 mem → yR zpg tX12_walks (d + 4) (75, lo, [], mem) P) (s9 : (w).toInt < 4 → (to).toInt = (-1) → ∀ (v19 : Int32), besR mem (c).toInt (w).toInt v19.toInt → ¬ (v19).toInt = (-1) → ∀ (y30 : Int32), y30.toInt = (gn (ga mem 258) (v19).toInt) → 0 < (gn (ga mem 258) (v19).toInt) → (0 : Int) ≤ (v19).toInt ∧ (v19).toInt < 64) (s10 : (w).toInt < 4 → (to).toInt = (-1) → ∀ (v19 : Int32), besR mem (c).toInt (w).toInt v19.toInt → ¬ (v19).toInt = (-1) → ∀ (y30 : Int32), y30.toInt = (gn (ga mem 258) (v19).toInt) → 0 < (gn (ga mem 258) (v19).toInt) → ∀ (y38 : Int32), y38.toInt = (gn (ga mem 259) (v19).toInt) → (0 : Int) ≤ (c).toInt ∧ (c).toInt < 64) (s11 : (w).toInt < 4 → (to).toInt = (-1) → ∀ (v19 : Int32), besR mem (c).toInt (w).toInt v19.toInt → ¬ (v19).toInt = (-1) → ∀ (y30 : Int32), y30.toInt = (gn (ga mem 258) (v19).toInt) → 0 < (gn (ga mem 258) (v19).toInt) → ∀ (y38 : Int32), y38.toInt = (gn (ga mem 259) (v19).toInt) → ∀ (y40 : Int32), y40.toInt = (gn (ga mem 259) (c).toInt) → (-2147483648 : Int) ≤ ((gn (ga mem 259) (c).toInt) - 1) ∧ ((gn (ga mem 259) (c).toInt) - 1) ≤ 2147483647) (s12 : (w).toInt < 4 → (to).toInt = (-1) → ∀ (v19 : Int32), besR mem (c).toInt (w).toInt v19.toInt → ¬ (v19).toInt = (-1) → ∀ (y30 : Int32), y30.toInt = (gn (ga mem 258) (v19).toInt) → 0 < (gn (ga mem 258) (v19).toInt) → ∀ (y38 : Int32), y38.toInt = (gn (ga mem 259) (v19).toInt) → ∀ (y40 : Int32), y40.toInt = (gn (ga mem 259) (c).toInt) → ∀ (x42 : Int32), x42.toInt = ((gn (ga mem 259) (c).toInt) - 1) → ¬ (gn (ga mem 259) (v19).toInt) = ((gn (ga mem 259) (c).toInt) - 1) → (-2147483648 : Int) ≤ ((w).toInt + 1) ∧ ((w).toInt + 1) ≤ 2147483647) (h5 : (w).toInt < 4 → (to).toInt = (-1) → ∀ (v19 : Int32), besR mem (c).toInt (w).toInt v19.toInt → ¬ (v19).toInt = (-1) → ∀ (y30 : Int32), y30.toInt = (gn (ga mem 258) (v19).toInt) → 0 < (gn (ga mem 258) (v19).toInt) → ∀ (y38 : Int32), y38.toInt = (gn (ga mem 259) (v19).toInt) → ∀ (y40 : Int32), y40.toInt = (gn (ga mem 259) (c).toInt) → ∀ (x42 : Int32), x42.toInt = ((gn (ga mem 259) (c).toInt) - 1) → ¬ (gn (ga mem 259) (v19).toInt) = ((gn (ga mem 259) (c).toInt) - 1) → ∀ (x45 : Int32), x45.toInt = ((w).toInt + 1) → ∀ lo, zlg lo 0 = some (.ref 221) → zlg lo 1 = some (.int v) → zlg lo 2 = some (.int k) → zlg lo 3 = some (.int c) → zlg lo 4 = some (.int s) → zlg lo 5 = some (.int to) → zlg lo 6 = some (.int x45) → wI (aΘ0 E) m0 mem → yR zpg tX12_walks (d + 4) (75, lo, [], mem) P) (s13 : (w).toInt < 4 → (to).toInt = (-1) → ∀ (v19 : Int32), besR mem (c).toInt (w).toInt v19.toInt → ¬ (v19).toInt = (-1) → ∀ (y30 : Int32), y30.toInt = (gn (ga mem 258) (v19).toInt) → 0 < (gn (ga mem 258) (v19).toInt) → ∀ (y38 : Int32), y38.toInt = (gn (ga mem 259) (v19).toInt) → ∀ (y40 : Int32), y40.toInt = (gn (ga mem 259) (c).toInt) → ∀ (x42 : Int32), x42.toInt = ((gn (ga mem 259) (c).toInt) - 1) → (gn (ga mem 259) (v19).toInt) = ((gn (ga mem 259) (c).toInt) - 1) → (-2147483648 : Int) ≤ ((w).toInt + 1) ∧ ((w).toInt + 1) ≤ 2147483647) (h6 : (w).toInt < 4 → (to).toInt = (-1) → ∀ (v19 : Int32), besR mem (c).toInt (w).toInt v19.toInt → ¬ (v19).toInt = (-1) → ∀ (y30 : Int32), y30.toInt = (gn (ga mem 258) (v19).toInt) → 0 < (gn (ga mem 258) (v19).toInt) → ∀ (y38 : Int32), y38.toInt = (gn (ga mem 259) (v19).toInt) → ∀ (y40 : Int32), y40.toInt = (gn (ga mem 259) (c).toInt) → ∀ (x42 : Int32), x42.toInt = ((gn (ga mem 259) (c).toInt) - 1) → (gn (ga mem 259) (v19).toInt) = ((gn (ga mem 259) (c).toInt) - 1) → ∀ (x53 : Int32), x53.toInt = ((w).toInt + 1) → ∀ lo, zlg lo 0 = some (.ref 221) → zlg lo 1 = some (.int v) → zlg lo 2 = some (.int k) → zlg lo 3 = some (.int c) → zlg lo 4 = some (.int s) → zlg lo 5 = some (.int v19) → zlg lo 6 = some (.int x53) → wI (aΘ0 E) m0 mem → yR zpg tX12_walks (d + 4) (75, lo, [], mem) P) : yR zpg tX12_walks (d + 4) (75, lo, [], mem) P := by
  refine wR_li rfl l_6 ?_
  refine yR_m 1 (fun _ _ _ _ => rfl) ?_
  refine wR_ic_ge rfl (a := (w).toInt) (c := 4) rfl rfl (fun q1 => ?_) (fun q1 => ?_)
  ·
    refine wR_li rfl l_5 ?_
    refine wR_si rfl rfl (fun lo2 e3 f4 => ?_)
    have lo2_0 := f4 0 _ (by decide) (Or.inl rfl) l_0
    have lo2_1 := f4 1 _ (by decide) (Or.inl rfl) l_1
    have lo2_2 := f4 2 _ (by decide) (Or.inl rfl) l_2
    have lo2_4 := f4 4 _ (by decide) (Or.inl rfl) l_4
    have lo2_5 := f4 5 _ (by decide) (Or.inl rfl) l_5
    have lo2_6 := f4 6 _ (by decide) (Or.inl rfl) l_6
    refine wN_in (a := (s).toInt) (b := 1) rfl rfl lo2_4 rfl rfl (s1 q1) (fun x5 e6 => fun lo7 e8 f9 => ?_)
    have lo7_3 := f9 3 _ (by decide) (Or.inl rfl) e3
    have lo7_0 := f9 0 _ (by decide) (Or.inl rfl) lo2_0
    have lo7_1 := f9 1 _ (by decide) (Or.inl rfl) lo2_1
    have lo7_2 := f9 2 _ (by decide) (Or.inl rfl) lo2_2
    have lo7_5 := f9 5 _ (by decide) (Or.inl rfl) lo2_5
    have lo7_6 := f9 6 _ (by decide) (Or.inl rfl) lo2_6
    exact yR_m 1 (fun _ _ _ _ => rfl) (h1 q1 x5 e6 lo7 lo7_0 lo7_1 lo7_2 lo7_3 e8 hm)
  ·
    refine wR_li rfl l_5 ?_
    refine yR_m 1 (fun _ _ _ _ => rfl) ?_
    refine wR_ic_ne rfl (a := (to).toInt) (c := (-1)) rfl tm1 (fun q10 => ?_) (fun q10 => ?_)
    ·
      refine wR_li rfl l_5 ?_
      refine wR_si rfl rfl (fun lo11 e12 f13 => ?_)
      have lo11_0 := f13 0 _ (by decide) (Or.inl rfl) l_0
      have lo11_1 := f13 1 _ (by decide) (Or.inl rfl) l_1
      have lo11_2 := f13 2 _ (by decide) (Or.inl rfl) l_2
      have lo11_4 := f13 4 _ (by decide) (Or.inl rfl) l_4
      have lo11_5 := f13 5 _ (by decide) (Or.inl rfl) l_5
      have lo11_6 := f13 6 _ (by decide) (Or.inl rfl) l_6
      refine wN_in (a := (s).toInt) (b := 1) rfl rfl lo11_4 rfl rfl (s2 q1 q10) (fun x14 e15 => fun lo16 e17 f18 => ?_)
      have lo16_3 := f18 3 _ (by decide) (Or.inl rfl) e12
      have lo16_0 := f18 0 _ (by decide) (Or.inl rfl) lo11_0
      have lo16_1 := f18 1 _ (by decide) (Or.inl rfl) lo11_1
      have lo16_2 := f18 2 _ (by decide) (Or.inl rfl) lo11_2
      have lo16_5 := f18 5 _ (by decide) (Or.inl rfl) lo11_5
      have lo16_6 := f18 6 _ (by decide) (Or.inl rfl) lo11_6
      exact yR_m 1 (fun _ _ _ _ => rfl) (h2 q1 q10 x14 e15 lo16 lo16_0 lo16_1 lo16_2 lo16_3 e17 hm)
    ·
      refine wR_la rfl l_0 ?_
      refine wR_li rfl l_3 ?_
      refine wR_li rfl l_6 ?_
      refine wR_cv rfl rfl mO_e hm.1.1 rfl (c_besideOf hm.1.1 s3 (by omega) (s4 q1 q10) (s5 q1 q10)) ?_
      rintro _ _ ⟨v19, rfl, rfl, k20⟩
      show yR zpg tX12_walks (d + 4) (94, lo, [.int v19], mem) _
      refine wR_si rfl rfl (fun lo21 e22 f23 => ?_)
      have lo21_0 := f23 0 _ (by decide) (Or.inl rfl) l_0
      have lo21_1 := f23 1 _ (by decide) (Or.inl rfl) l_1
      have lo21_2 := f23 2 _ (by decide) (Or.inl rfl) l_2
      have lo21_3 := f23 3 _ (by decide) (Or.inl rfl) l_3
      have lo21_4 := f23 4 _ (by decide) (Or.inl rfl) l_4
      have lo21_5 := f23 5 _ (by decide) (Or.inl rfl) l_5
      have lo21_6 := f23 6 _ (by decide) (Or.inl rfl) l_6
      refine wR_li rfl e22 ?_
      refine yR_m 1 (fun _ _ _ _ => rfl) ?_
      refine wR_ic_eq rfl (a := (v19).toInt) (c := (-1)) rfl tm1 (fun q24 => ?_) (fun q24 => ?_)
      ·
        refine wN_in (a := (w).toInt) (b := 1) rfl rfl lo21_6 rfl rfl (s6 q1 q10 v19 k20 q24) (fun x25 e26 => fun lo27 e28 f29 => ?_)
        have lo27_7 := f29 7 _ (by decide) (Or.inl rfl) e22
        have lo27_0 := f29 0 _ (by decide) (Or.inl rfl) lo21_0
        have lo27_1 := f29 1 _ (by decide) (Or.inl rfl) lo21_1
        have lo27_2 := f29 2 _ (by decide) (Or.inl rfl) lo21_2
        have lo27_3 := f29 3 _ (by decide) (Or.inl rfl) lo21_3
        have lo27_4 := f29 4 _ (by decide) (Or.inl rfl) lo21_4
        have lo27_5 := f29 5 _ (by decide) (Or.inl rfl) lo21_5
        exact yR_m 1 (fun _ _ _ _ => rfl) (h3 q1 q10 v19 k20 q24 x25 e26 lo27 lo27_0 lo27_1 lo27_2 lo27_3 lo27_4 lo27_5 e28 hm)
      ·
        refine wR_la rfl lo21_0 ?_
        refine wR_gr rfl mO_e mO_60 hm.1.1 ?_
        refine wR_li rfl e22 ?_
        refine wN_al (a := (v19).toInt) rfl aR_258 hm.1.1 rfl rfl (s7 q1 q10 v19 k20 q24) (fun y30 e31 => ?_)
        refine wR_if_le rfl (a := (gn (ga mem 258) (v19).toInt)) e31 (fun q32 => ?_) (fun q32 => ?_)
        ·
          refine wN_in (a := (w).toInt) (b := 1) rfl rfl lo21_6 rfl rfl (s8 q1 q10 v19 k20 q24 y30 e31 q32) (fun x33 e34 => fun lo35 e36 f37 => ?_)
          have lo35_7 := f37 7 _ (by decide) (Or.inl rfl) e22
          have lo35_0 := f37 0 _ (by decide) (Or.inl rfl) lo21_0
          have lo35_1 := f37 1 _ (by decide) (Or.inl rfl) lo21_1
          have lo35_2 := f37 2 _ (by decide) (Or.inl rfl) lo21_2
          have lo35_3 := f37 3 _ (by decide) (Or.inl rfl) lo21_3
          have lo35_4 := f37 4 _ (by decide) (Or.inl rfl) lo21_4
          have lo35_5 := f37 5 _ (by decide) (Or.inl rfl) lo21_5
          exact yR_m 1 (fun _ _ _ _ => rfl) (h4 q1 q10 v19 k20 q24 y30 e31 q32 x33 e34 lo35 lo35_0 lo35_1 lo35_2 lo35_3 lo35_4 lo35_5 e36 hm)
        ·
          refine wR_la rfl lo21_0 ?_
          refine wR_gr rfl mO_e mO_61 hm.1.1 ?_
          refine wR_li rfl e22 ?_
          refine wN_al (a := (v19).toInt) rfl aR_259 hm.1.1 rfl rfl (s9 q1 q10 v19 k20 q24 y30 e31 q32) (fun y38 e39 => ?_)
          refine wR_la rfl lo21_0 ?_
          refine wR_gr rfl mO_e mO_61 hm.1.1 ?_
          refine wR_li rfl lo21_3 ?_
          refine wN_al (a := (c).toInt) rfl aR_259 hm.1.1 rfl rfl (s10 q1 q10 v19 k20 q24 y30 e31 q32 y38 e39) (fun y40 e41 => ?_)
          refine yR_m 1 (fun _ _ _ _ => rfl) ?_
          refine wN_sub (a := (gn (ga mem 259) (c).toInt)) (b := 1) rfl e41 rfl (s11 q1 q10 v19 k20 q24 y30 e31 q32 y38 e39 y40 e41) (fun x42 e43 => ?_)
          refine wR_ic_ne rfl (a := (gn (ga mem 259) (v19).toInt)) (c := ((gn (ga mem 259) (c).toInt) - 1)) e39 e43 (fun q44 => ?_) (fun q44 => ?_)
          ·
            refine wN_in (a := (w).toInt) (b := 1) rfl rfl lo21_6 rfl rfl (s12 q1 q10 v19 k20 q24 y30 e31 q32 y38 e39 y40 e41 x42 e43 q44) (fun x45 e46 => fun lo47 e48 f49 => ?_)
            have lo47_7 := f49 7 _ (by decide) (Or.inl rfl) e22
            have lo47_0 := f49 0 _ (by decide) (Or.inl rfl) lo21_0
            have lo47_1 := f49 1 _ (by decide) (Or.inl rfl) lo21_1
            have lo47_2 := f49 2 _ (by decide) (Or.inl rfl) lo21_2
            have lo47_3 := f49 3 _ (by decide) (Or.inl rfl) lo21_3
            have lo47_4 := f49 4 _ (by decide) (Or.inl rfl) lo21_4
            have lo47_5 := f49 5 _ (by decide) (Or.inl rfl) lo21_5
            exact yR_m 1 (fun _ _ _ _ => rfl) (h5 q1 q10 v19 k20 q24 y30 e31 q32 y38 e39 y40 e41 x42 e43 q44 x45 e46 lo47 lo47_0 lo47_1 lo47_2 lo47_3 lo47_4 lo47_5 e48 hm)
          ·
            refine wR_li rfl e22 ?_
            refine wR_si rfl rfl (fun lo50 e51 f52 => ?_)
            have lo50_7 := f52 7 _ (by decide) (Or.inl rfl) e22
            have lo50_0 := f52 0 _ (by decide) (Or.inl rfl) lo21_0
            have lo50_1 := f52 1 _ (by decide) (Or.inl rfl) lo21_1
            have lo50_2 := f52 2 _ (by decide) (Or.inl rfl) lo21_2
            have lo50_3 := f52 3 _ (by decide) (Or.inl rfl) lo21_3
            have lo50_4 := f52 4 _ (by decide) (Or.inl rfl) lo21_4
            have lo50_6 := f52 6 _ (by decide) (Or.inl rfl) lo21_6
            refine wN_in (a := (w).toInt) (b := 1) rfl rfl lo50_6 rfl rfl (s13 q1 q10 v19 k20 q24 y30 e31 q32 y38 e39 y40 e41 x42 e43 q44) (fun x53 e54 => fun lo55 e56 f57 => ?_)
            have lo55_5 := f57 5 _ (by decide) (Or.inl rfl) e51
            have lo55_7 := f57 7 _ (by decide) (Or.inl rfl) lo50_7
            have lo55_0 := f57 0 _ (by decide) (Or.inl rfl) lo50_0
            have lo55_1 := f57 1 _ (by decide) (Or.inl rfl) lo50_1
            have lo55_2 := f57 2 _ (by decide) (Or.inl rfl) lo50_2
            have lo55_3 := f57 3 _ (by decide) (Or.inl rfl) lo50_3
            have lo55_4 := f57 4 _ (by decide) (Or.inl rfl) lo50_4
            exact yR_m 1 (fun _ _ _ _ => rfl) (h6 q1 q10 v19 k20 q24 y30 e31 q32 y38 e39 y40 e41 x42 e43 q44 x53 e54 lo55 lo55_0 lo55_1 lo55_2 lo55_3 lo55_4 lo55_5 e56 hm)

theorem wa_in {E : zM → Prop} (hE : aEs (aΘ0 E)) {m0 mem : zM} {d : Nat} {v k c s : Int32} (hI : wI (aΘ0 E) m0 mem) (hz : szOK mem) (hc : 0 ≤ c.toInt ∧ c.toInt ≤ 63) (hs : 0 ≤ s.toInt ∧ s.toInt < 2147483647) (hr : 0 ≤ gn (ga mem 259) c.toInt ∧ gn (ga mem 259) c.toInt < 100000000) (ex : ∃ w, (0 ≤ w ∧ w < 4) ∧ good mem c.toInt w) {P : Option Value → zM → Prop}
    (out : ∀ (lo : List (Nat × Value)) (to s' : Int32), s'.toInt = s.toInt + 1 → (0 ≤ to.toInt ∧ to.toInt ≤ 63) → gn (ga mem 259) to.toInt = gn (ga mem 259) c.toInt - 1 → zlg lo 0 = some (.ref 221) → zlg lo 1 = some (.int v) → zlg lo 2 = some (.int k) → zlg lo 3 = some (.int to) → zlg lo 4 = some (.int s') → yR zpg tX12_walks (d + 4) (34, lo, [], mem) P) :
    ∀ (f : Nat) (w to : Int32) (lo : List (Nat × Value)), 4 ≤ w.toInt + (f : Int) → 0 ≤ w.toInt → w.toInt ≤ 4 → ((to.toInt = -1 ∧ ∀ u, 0 ≤ u → u < w.toInt → ¬ good mem c.toInt u) ∨ ((0 ≤ to.toInt ∧ to.toInt ≤ 63) ∧ gn (ga mem 259) to.toInt = gn (ga mem 259) c.toInt - 1)) → zlg lo 0 = some (.ref 221) → zlg lo 1 = some (.int v) → zlg lo 2 = some (.int k) → zlg lo 3 = some (.int c) → zlg lo 4 = some (.int s) → zlg lo 5 = some (.int to) → zlg lo 6 = some (.int w) → yR zpg tX12_walks (d + 4) (75, lo, [], mem) P := by
  have fin : ∀ to : Int32, ((to.toInt = -1 ∧ ∀ u, 0 ≤ u → u < 4 → ¬ good mem c.toInt u) ∨ ((0 ≤ to.toInt ∧ to.toInt ≤ 63) ∧ gn (ga mem 259) to.toInt = gn (ga mem 259) c.toInt - 1)) → ((0 ≤ to.toInt ∧ to.toInt ≤ 63) ∧ gn (ga mem 259) to.toInt = gn (ga mem 259) c.toInt - 1) := fun to h => by
    rcases h with ⟨-, h⟩ | h
    · obtain ⟨u, u1, u2⟩ := ex
      exact absurd u2 (h u u1.1 u1.2)
    · exact h
  have f2 : ∀ to : Int32, ∀ w : Int, ¬ to.toInt = -1 → ((to.toInt = -1 ∧ ∀ u, 0 ≤ u → u < w → ¬ good mem c.toInt u) ∨ ((0 ≤ to.toInt ∧ to.toInt ≤ 63) ∧ gn (ga mem 259) to.toInt = gn (ga mem 259) c.toInt - 1)) → ((0 ≤ to.toInt ∧ to.toInt ≤ 63) ∧ gn (ga mem 259) to.toInt = gn (ga mem 259) c.toInt - 1) := fun to w hn h => h.elim (fun q => absurd q.1 hn) id
  have nx : ∀ (to : Int32) (w : Int), to.toInt = -1 → ((to.toInt = -1 ∧ ∀ u, 0 ≤ u → u < w → ¬ good mem c.toInt u) ∨ ((0 ≤ to.toInt ∧ to.toInt ≤ 63) ∧ gn (ga mem 259) to.toInt = gn (ga mem 259) c.toInt - 1)) → ¬ good mem c.toInt w → ∀ w' : Int, w' = w + 1 → ((to.toInt = -1 ∧ ∀ u, 0 ≤ u → u < w' → ¬ good mem c.toInt u) ∨ ((0 ≤ to.toInt ∧ to.toInt ≤ 63) ∧ gn (ga mem 259) to.toInt = gn (ga mem 259) c.toInt - 1)) := fun to w h1 h2 h3 w' e => by
    rcases h2 with ⟨-, h2⟩ | h2
    · refine Or.inl ⟨h1, fun u a b => ?_⟩
      by_cases q : u = w
      · rw [q]; exact h3
      · exact h2 u a (by omega)
    · omega
  have ng : ∀ (v w : Int), besR mem c.toInt w v → ¬ v = -1 → (¬ 0 < gn (ga mem 258) v ∨ ¬ gn (ga mem 259) v = gn (ga mem 259) c.toInt - 1) → ¬ good mem c.toInt w := fun v w hb hn h g => by
    rcases hb with ⟨q, -⟩ | ⟨q, -⟩
    · exact hn q
    · rw [q] at h
      exact h.elim (fun z => z g.2.1) (fun z => z g.2.2)
  have nn : ∀ (v w : Int), besR mem c.toInt w v → v = -1 → ¬ good mem c.toInt w := fun v w hb hn g => by
    rcases hb with ⟨-, q⟩ | ⟨q, ⟨⟨-, a, b, e, f⟩, -⟩⟩
    · exact q g.1
    · omega
  intro f
  induction f with
  | zero =>
    intro w to lo hf w0 w4 hi l0 l1 l2 l3 l4 l5 l6
    have hw : w.toInt = 4 := by omega
    rw [hw] at hi
    exact w_wa_75 hE hI l0 l1 l2 l3 l4 l5 l6
        (fun q1 => by omega)
        (fun q1 x5 e6 lo a0 a1 a2 a3 a4 _ => by have F := fin to hi; exact out lo to _ (by omega) F.1 F.2 a0 a1 a2 a3 a4)
        (fun q1 q10 => by omega)
        (fun q1 q10 x14 e15 lo a0 a1 a2 a3 a4 _ => by exfalso; omega)
        (hz)
        (fun q1 q10 => by omega)
        (fun q1 q10 => by omega)
        (fun q1 q10 v19 k20 q24 => by omega)
        (fun q1 q10 v19 k20 q24 x25 e26 lo a0 a1 a2 a3 a4 a5 a6 _ => by exfalso; omega)
        (fun q1 q10 v19 k20 q24 => by omega)
        (fun q1 q10 v19 k20 q24 y30 e31 q32 => by omega)
        (fun q1 q10 v19 k20 q24 y30 e31 q32 x33 e34 lo a0 a1 a2 a3 a4 a5 a6 _ => by exfalso; omega)
        (fun q1 q10 v19 k20 q24 y30 e31 q32 => by omega)
        (fun q1 q10 v19 k20 q24 y30 e31 q32 y38 e39 => by omega)
        (fun q1 q10 v19 k20 q24 y30 e31 q32 y38 e39 y40 e41 => by omega)
        (fun q1 q10 v19 k20 q24 y30 e31 q32 y38 e39 y40 e41 x42 e43 q44 => by omega)
        (fun q1 q10 v19 k20 q24 y30 e31 q32 y38 e39 y40 e41 x42 e43 q44 x45 e46 lo a0 a1 a2 a3 a4 a5 a6 _ => by exfalso; omega)
        (fun q1 q10 v19 k20 q24 y30 e31 q32 y38 e39 y40 e41 x42 e43 q44 => by omega)
        (fun q1 q10 v19 k20 q24 y30 e31 q32 y38 e39 y40 e41 x42 e43 q44 x53 e54 lo a0 a1 a2 a3 a4 a5 a6 _ => by exfalso; omega)
  | succ f ih =>
    intro w to lo hf w0 w4 hi l0 l1 l2 l3 l4 l5 l6
    exact w_wa_75 hE hI l0 l1 l2 l3 l4 l5 l6
        (fun q1 => by omega)
        (fun q1 x5 e6 lo a0 a1 a2 a3 a4 _ => by have F := fin to (by rw [show w.toInt = 4 by omega] at hi; exact hi); exact out lo to _ (by omega) F.1 F.2 a0 a1 a2 a3 a4)
        (fun q1 q10 => by omega)
        (fun q1 q10 x14 e15 lo a0 a1 a2 a3 a4 _ => by have F := f2 to _ q10 hi; exact out lo to _ (by omega) F.1 F.2 a0 a1 a2 a3 a4)
        (hz)
        (fun q1 q10 => by omega)
        (fun q1 q10 => by omega)
        (fun q1 q10 v19 k20 q24 => by omega)
        (fun q1 q10 v19 k20 q24 x25 e26 lo a0 a1 a2 a3 a4 a5 a6 _ => ih _ _ lo (by omega) (by omega) (by omega) (nx to _ q10 hi (nn _ _ k20 q24) _ e26) a0 a1 a2 a3 a4 a5 a6)
        (fun q1 q10 v19 k20 q24 => by have S := bes_rg hz k20 q24; omega)
        (fun q1 q10 v19 k20 q24 y30 e31 q32 => by have S := bes_rg hz k20 q24; omega)
        (fun q1 q10 v19 k20 q24 y30 e31 q32 x33 e34 lo a0 a1 a2 a3 a4 a5 a6 _ => ih _ _ lo (by omega) (by omega) (by omega) (nx to _ q10 hi (ng _ _ k20 q24 (by omega)) _ e34) a0 a1 a2 a3 a4 a5 a6)
        (fun q1 q10 v19 k20 q24 y30 e31 q32 => by have S := bes_rg hz k20 q24; omega)
        (fun q1 q10 v19 k20 q24 y30 e31 q32 y38 e39 => by have S := bes_rg hz k20 q24; omega)
        (fun q1 q10 v19 k20 q24 y30 e31 q32 y38 e39 y40 e41 => by have S := bes_rg hz k20 q24; omega)
        (fun q1 q10 v19 k20 q24 y30 e31 q32 y38 e39 y40 e41 x42 e43 q44 => by have S := bes_rg hz k20 q24; omega)
        (fun q1 q10 v19 k20 q24 y30 e31 q32 y38 e39 y40 e41 x42 e43 q44 x45 e46 lo a0 a1 a2 a3 a4 a5 a6 _ => ih _ _ lo (by omega) (by omega) (by omega) (nx to _ q10 hi (ng _ _ k20 q24 (by omega)) _ e46) a0 a1 a2 a3 a4 a5 a6)
        (fun q1 q10 v19 k20 q24 y30 e31 q32 y38 e39 y40 e41 x42 e43 q44 => by have S := bes_rg hz k20 q24; omega)
        (fun q1 q10 v19 k20 q24 y30 e31 q32 y38 e39 y40 e41 x42 e43 q44 x53 e54 lo a0 a1 a2 a3 a4 a5 a6 _ => by have S := bes_rg hz k20 q24; exact ih _ _ lo (by omega) (by omega) (by omega) (Or.inr ⟨by omega, by omega⟩) a0 a1 a2 a3 a4 a5 a6)
theorem wa_out {E : zM → Prop} (hE : aEs (aΘ0 E)) {m0 mem : zM} {d : Nat} {v k : Int32} (hv : 0 ≤ v.toInt ∧ v.toInt ≤ 21) (hk : 0 ≤ k.toInt ∧ k.toInt ≤ 5) (hI : wI (aΘ0 E) m0 mem) (hz : szOK mem) (hW : wkOK mem) : ∀ (f : Nat) (c s : Int32) (lo : List (Nat × Value)), gn (ga mem 259) c.toInt ≤ (f : Int) → (0 ≤ c.toInt ∧ c.toInt ≤ 63) → 0 ≤ s.toInt → zlg lo 0 = some (.ref 221) → zlg lo 1 = some (.int v) → zlg lo 2 = some (.int k) → zlg lo 3 = some (.int c) → zlg lo 4 = some (.int s) → yR zpg tX12_walks (d + 4) (34, lo, [], mem) (fun r m => r = none ∧ wI (aΘ0 E) m0 m ∧ onl [252] mem m) := by
  have hb := bk_rg hI.1.1
  have pm := i32_b
  intro f
  induction f with
  | zero =>
    intro c s lo hf hc hs l0 l1 l2 l3 l4
    exact w_wa_34 hE hI l0 l1 l2 l3 l4
        (by omega)
        (fun y1 e2 q3 => by omega)
        (fun y1 e2 q3 x4 e5 => by omega)
        (fun y1 e2 q3 x4 e5 x6 e7 => by omega)
        (fun y1 e2 q3 x4 e5 x6 e7 => by omega)
        (fun y1 e2 q3 x4 e5 x6 e7 hI => ⟨rfl, hI, onl_sa rfl onl_rf⟩)
        (fun y1 e2 q3 => by omega)
        (fun y1 e2 q3 y8 e9 q10 => by omega)
        (fun y1 e2 q3 y8 e9 q10 x11 e12 => by omega)
        (fun y1 e2 q3 y8 e9 q10 x11 e12 x13 e14 => by omega)
        (fun y1 e2 q3 y8 e9 q10 x11 e12 x13 e14 => by omega)
        (fun y1 e2 q3 y8 e9 q10 x11 e12 x13 e14 hI => ⟨rfl, hI, onl_sa rfl onl_rf⟩)
        (fun y1 e2 q3 y8 e9 q10 => by omega)
        (fun y1 e2 q3 y8 e9 q10 y15 e16 q17 => by omega)
        (fun y1 e2 q3 y8 e9 q10 y15 e16 q17 x18 e19 => by omega)
        (fun y1 e2 q3 y8 e9 q10 y15 e16 q17 x18 e19 x20 e21 => by omega)
        (fun y1 e2 q3 y8 e9 q10 y15 e16 q17 x18 e19 x20 e21 => by omega)
        (fun y1 e2 q3 y8 e9 q10 y15 e16 q17 x18 e19 x20 e21 hI => ⟨rfl, hI, onl_sa rfl onl_rf⟩)
        (fun y1 e2 q3 y8 e9 q10 y15 e16 q17 lo a0 a1 a2 a3 a4 a5 a6 _ => by exfalso; omega)
  | succ f ih =>
    intro c s lo hf hc hs l0 l1 l2 l3 l4
    have rg := gn_rg aR_225 hI.1.1 (i := (gi mem 221 13).toInt) hb.1 (by omega)
    have rg : gn (ga mem 225) (gi mem 221 13).toInt ≤ 2147483647 := rg.2
    have hr0 := hW.1 c.toInt hc.1 (by omega)
    exact w_wa_34 hE hI l0 l1 l2 l3 l4
        (by omega)
        (fun y1 e2 q3 => by omega)
        (fun y1 e2 q3 x4 e5 => by omega)
        (fun y1 e2 q3 x4 e5 x6 e7 => by omega)
        (fun y1 e2 q3 x4 e5 x6 e7 => by omega)
        (fun y1 e2 q3 x4 e5 x6 e7 hI => ⟨rfl, hI, onl_sa rfl onl_rf⟩)
        (fun y1 e2 q3 => by omega)
        (fun y1 e2 q3 y8 e9 q10 => by omega)
        (fun y1 e2 q3 y8 e9 q10 x11 e12 => by omega)
        (fun y1 e2 q3 y8 e9 q10 x11 e12 x13 e14 => by omega)
        (fun y1 e2 q3 y8 e9 q10 x11 e12 x13 e14 => by omega)
        (fun y1 e2 q3 y8 e9 q10 x11 e12 x13 e14 hI => ⟨rfl, hI, onl_sa rfl onl_rf⟩)
        (fun y1 e2 q3 y8 e9 q10 => by omega)
        (fun y1 e2 q3 y8 e9 q10 y15 e16 q17 => by omega)
        (fun y1 e2 q3 y8 e9 q10 y15 e16 q17 x18 e19 => by omega)
        (fun y1 e2 q3 y8 e9 q10 y15 e16 q17 x18 e19 x20 e21 => by omega)
        (fun y1 e2 q3 y8 e9 q10 y15 e16 q17 x18 e19 x20 e21 => by omega)
        (fun y1 e2 q3 y8 e9 q10 y15 e16 q17 x18 e19 x20 e21 hI => ⟨rfl, hI, onl_sa rfl onl_rf⟩)
        (fun y1 e2 q3 y8 e9 q10 y15 e16 q17 lo a0 a1 a2 a3 a4 a5 a6 _ =>
          wa_in hE hI hz hc ⟨hs, by omega⟩ ⟨hr0, q17⟩ (hW.2 c.toInt hc.1 (by omega) q10 q17) (fun lo to s' e1 e2 e3 b0 b1 b2 b3 b4 => ih to s' lo (by omega) e2 (by omega) b0 b1 b2 b3 b4) 4 0 (-1) lo (by decide) (by decide) (by decide) (Or.inl ⟨tm1, fun u a b => by have : (0 : Int32).toInt = 0 := rfl; omega⟩) a0 a1 a2 a3 a4 a5 a6)
theorem h_walks {E : zM → Prop} (hE : aEs (aΘ0 E)) {m0 mem : zM} {d : Nat} (hd : 5 ≤ d) {v k : Int32} (hv : 0 ≤ v.toInt ∧ v.toInt ≤ 21) (hk : 0 ≤ k.toInt ∧ k.toInt ≤ 5) (hI : wI (aΘ0 E) m0 mem) (hz : szOK mem) (hl : litOK mem) : yC zpg d 230 [.ref 221, .int v, .int k] mem (fun r m => r = none ∧ wI (aΘ0 E) m0 m ∧ onl [252, 259, 260] mem m) := by
  obtain ⟨d, rfl⟩ : ∃ q, d = q + 5 := ⟨d - 5, by omega⟩
  have hb := bk_rg hI.1.1
  refine yC_of (t := tX12_walks) rfl rfl ?_
  exact w_wa_0 hE hI rfl rfl rfl
        (by omega)
        (fun x1 e2 => by omega)
        (fun x1 e2 x3 e4 => by omega)
        (fun x1 e2 x3 e4 y5 e6 => by have R := gR_235 hI.1.1 (i := 6 * (gi mem 221 13).toInt + k.toInt) (by omega) (by omega); omega)
        (hz)
        (fun x1 e2 x3 e4 y5 e6 m7 hI7 k8 => by omega)
        (fun x1 e2 x3 e4 y5 e6 m7 hI7 k8 x9 e10 => by omega)
        (fun x1 e2 x3 e4 y5 e6 m7 hI7 k8 x9 e10 x11 e12 => by omega)
        (fun x1 e2 x3 e4 y5 e6 m7 hI7 k8 x9 e10 x11 e12 y13 e14 lo a0 a1 a2 a3 a4 hI7 => by
          have R := gn_rg aR_252 hI7.1.1 (i := 6 * v.toInt + k.toInt) (by omega) (by omega)
          have R : 0 ≤ gn (ga m7 252) (6 * v.toInt + k.toInt) ∧ gn (ga m7 252) (6 * v.toInt + k.toInt) ≤ 63 := R
          have W := wk_of hz hl k8
          obtain ⟨-, B2, -⟩ := onl_bes k8.1 rfl rfl rfl rfl
          exact yR_mono (fun r m h => ⟨h.1, h.2.1, onl_tr (onl_up k8.1 rfl) (onl_up h.2.2 rfl)⟩) (wa_out hE hv hk hI7 (by rw [B2]; exact hz) W (gn (ga m7 259) y13.toInt).toNat y13 0 lo (by have := W.1 y13.toInt (by omega) (by omega); omega) (by omega) (by decide) a0 a1 a2 a3 a4))
