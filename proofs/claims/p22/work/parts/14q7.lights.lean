/-! lanterns: what is lit is free -/
def liB (m : zM) (bd : Int → Int) : Prop := ∀ c, 0 ≤ c → c < 64 → (0 ≤ gn (ga m 258) c ∧ gn (ga m 258) c ≤ bd c) ∧ (0 < gn (ga m 258) c → frC m (c % 8) (c / 8))
set_option maxRecDepth 100000 in
theorem w_li_0 {E : zM → Prop} (hE : aEs (aΘ0 E)) {d : Nat} {m0 mem : zM} {P : Option Value → zM → Prop} {v bu : Int32} {lo : List (Nat × Value)} (hm : wI (aΘ0 E) m0 mem) (l_0 : zlg lo 0 = some (.ref 221)) (l_1 : zlg lo 1 = some (.int v)) (l_2 : zlg lo 2 = some (.int bu)) (h1 : ∀ lo, zlg lo 0 = some (.ref 221) → zlg lo 1 = some (.int v) → zlg lo 2 = some (.int bu) → zlg lo 3 = some (.int 0) → wI (aΘ0 E) m0 mem → yR zpg tX12_lights (d + 7) (2, lo, [], mem) P) : yR zpg tX12_lights (d + 7) (0, lo, [], mem) P := by
  refine yR_m 1 (fun _ _ _ _ => rfl) ?_
  refine wR_si rfl rfl (fun lo1 e2 f3 => ?_)
  have lo1_0 := f3 0 _ (by decide) (Or.inl rfl) l_0
  have lo1_1 := f3 1 _ (by decide) (Or.inl rfl) l_1
  have lo1_2 := f3 2 _ (by decide) (Or.inl rfl) l_2
  exact h1 lo1 lo1_0 lo1_1 lo1_2 e2 hm

set_option maxRecDepth 100000 in
theorem w_li_2 {E : zM → Prop} (hE : aEs (aΘ0 E)) {d : Nat} {m0 mem : zM} {P : Option Value → zM → Prop} {v bu c : Int32} {lo : List (Nat × Value)} (hm : wI (aΘ0 E) m0 mem) (l_0 : zlg lo 0 = some (.ref 221)) (l_1 : zlg lo 1 = some (.int v)) (l_2 : zlg lo 2 = some (.int bu)) (l_3 : zlg lo 3 = some (.int c)) (hc : 0 ≤ c.toInt ∧ c.toInt ≤ 64) (h1 : 64 ≤ (c).toInt → ∀ lo, zlg lo 0 = some (.ref 221) → zlg lo 1 = some (.int v) → zlg lo 2 = some (.int bu) → zlg lo 3 = some (.int 0) → wI (aΘ0 E) m0 mem → yR zpg tX12_lights (d + 7) (23, lo, [], mem) P) (h2 : (c).toInt < 64 → ∀ (x5 : Int32), x5.toInt = ((c).toInt + 1) → ∀ lo, zlg lo 0 = some (.ref 221) → zlg lo 1 = some (.int v) → zlg lo 2 = some (.int bu) → zlg lo 3 = some (.int x5) → wI (aΘ0 E) m0 (sx mem 258 c 0) → yR zpg tX12_lights (d + 7) (2, lo, [], (sx mem 258 c 0)) P) : yR zpg tX12_lights (d + 7) (2, lo, [], mem) P := by
  refine wR_li rfl l_3 ?_
  refine yR_m 1 (fun _ _ _ _ => rfl) ?_
  refine wR_ic_ge rfl (a := (c).toInt) (c := 64) rfl rfl (fun q1 => ?_) (fun q1 => ?_)
  ·
    refine yR_m 1 (fun _ _ _ _ => rfl) ?_
    refine wR_si rfl rfl (fun lo2 e3 f4 => ?_)
    have lo2_0 := f4 0 _ (by decide) (Or.inl rfl) l_0
    have lo2_1 := f4 1 _ (by decide) (Or.inl rfl) l_1
    have lo2_2 := f4 2 _ (by decide) (Or.inl rfl) l_2
    exact h1 q1 lo2 lo2_0 lo2_1 lo2_2 e3 hm
  ·
    refine wR_la rfl l_0 ?_
    refine wR_gr rfl mO_e mO_60 hm.1.1 ?_
    refine wR_li rfl l_3 ?_
    refine yR_m 1 (fun _ _ _ _ => rfl) ?_
    refine wN_as (a := (c).toInt) rfl aR_258 hm.1.1 rfl (by omega) ?_
    have hm_1 : wI (aΘ0 E) m0 (sx mem 258 c 0) := wI_sa hE aR_258 hm (i32_b _)
    refine wN_in (a := (c).toInt) (b := 1) rfl rfl l_3 rfl rfl (by omega) (fun x5 e6 => fun lo7 e8 f9 => ?_)
    have lo7_0 := f9 0 _ (by decide) (Or.inl rfl) l_0
    have lo7_1 := f9 1 _ (by decide) (Or.inl rfl) l_1
    have lo7_2 := f9 2 _ (by decide) (Or.inl rfl) l_2
    exact yR_m 1 (fun _ _ _ _ => rfl) (h2 q1 x5 e6 lo7 lo7_0 lo7_1 lo7_2 e8 hm_1)

set_option maxRecDepth 100000 in
theorem w_li_23 {E : zM → Prop} (hE : aEs (aΘ0 E)) {d : Nat} {m0 mem : zM} {P : Option Value → zM → Prop} {v bu k : Int32} {lo : List (Nat × Value)} (hm : wI (aΘ0 E) m0 mem) (l_0 : zlg lo 0 = some (.ref 221)) (l_1 : zlg lo 1 = some (.int v)) (l_2 : zlg lo 2 = some (.int bu)) (l_3 : zlg lo 3 = some (.int k)) (hQ : ∀ mem, aJ (aΘ0 E) mem → cdOK mem) (hv : 0 ≤ v.toInt ∧ v.toInt ≤ 21) (hk : 0 ≤ k.toInt ∧ k.toInt ≤ 9) (h1 : ∀ (y1 : Int32), y1.toInt = (gn (ga mem 228) (gi mem 221 13).toInt) → (gn (ga mem 228) (gi mem 221 13).toInt) ≤ (k).toInt → wI (aΘ0 E) m0 mem → P none mem) (h2 : ∀ (y1 : Int32), y1.toInt = (gn (ga mem 228) (gi mem 221 13).toInt) → (k).toInt < (gn (ga mem 228) (gi mem 221 13).toInt) → ∀ (y4 : Int32), y4.toInt = (gn (ga mem 250) (v).toInt) → ¬ ((y4 >>> (k &&& 31)) &&& 1).toInt = 1 → ∀ (x7 : Int32), x7.toInt = ((k).toInt + 1) → ∀ lo, zlg lo 0 = some (.ref 221) → zlg lo 1 = some (.int v) → zlg lo 2 = some (.int bu) → zlg lo 3 = some (.int x7) → wI (aΘ0 E) m0 mem → yR zpg tX12_lights (d + 7) (23, lo, [], mem) P) (h3 : ∀ (y1 : Int32), y1.toInt = (gn (ga mem 228) (gi mem 221 13).toInt) → (k).toInt < (gn (ga mem 228) (gi mem 221 13).toInt) → ∀ (y4 : Int32), y4.toInt = (gn (ga mem 250) (v).toInt) → ((y4 >>> (k &&& 31)) &&& 1).toInt = 1 → ¬ (k).toInt = (bu).toInt → ∀ (v15 : Int32) (m13 : zM), wI (aΘ0 E) m0 m13 → onl [256, 257] mem m13 → ∀ (x19 : Int32), x19.toInt = (9 * (gi m13 221 13).toInt) → ∀ (x21 : Int32), x21.toInt = ((9 * (gi m13 221 13).toInt) + (k).toInt) → ∀ (y23 : Int32), y23.toInt = (gn (ga m13 229) ((9 * (gi m13 221 13).toInt) + (k).toInt)) → ∀ lo, zlg lo 0 = some (.ref 221) → zlg lo 1 = some (.int v) → zlg lo 2 = some (.int bu) → zlg lo 3 = some (.int k) → zlg lo 4 = some (.int v15) → zlg lo 5 = some (.int y23) → zlg lo 6 = some (.int 0) → wI (aΘ0 E) m0 m13 → yR zpg tX12_lights (d + 7) (84, lo, [], m13) P) (h4 : ∀ (y1 : Int32), y1.toInt = (gn (ga mem 228) (gi mem 221 13).toInt) → (k).toInt < (gn (ga mem 228) (gi mem 221 13).toInt) → ∀ (y4 : Int32), y4.toInt = (gn (ga mem 250) (v).toInt) → ((y4 >>> (k &&& 31)) &&& 1).toInt = 1 → (k).toInt = (bu).toInt → ∀ (x31 : Int32), x31.toInt = ((k).toInt + 1) → ∀ lo, zlg lo 0 = some (.ref 221) → zlg lo 1 = some (.int v) → zlg lo 2 = some (.int bu) → zlg lo 3 = some (.int x31) → wI (aΘ0 E) m0 mem → yR zpg tX12_lights (d + 7) (23, lo, [], mem) P) : yR zpg tX12_lights (d + 7) (23, lo, [], mem) P := by
  obtain ⟨b0, b1⟩ := mO_r13 hm.1.1
  have th := gR_228 hm.1.1 (i := (gi mem 221 13).toInt) b0 (by omega)
  refine wR_li rfl l_3 ?_
  refine wR_la rfl l_0 ?_
  refine wR_gr rfl mO_e mO_19 hm.1.1 ?_
  refine wR_la rfl l_0 ?_
  refine wR_gi rfl mO_e mO_13 hm.1.1 rfl ?_
  refine wN_al (a := (gi mem 221 13).toInt) rfl aR_228 hm.1.1 rfl rfl (by omega) (fun y1 e2 => ?_)
  refine wR_ic_ge rfl (a := (k).toInt) (c := (gn (ga mem 228) (gi mem 221 13).toInt)) rfl e2 (fun q3 => ?_) (fun q3 => ?_)
  ·
    exact yR_rv rfl (h1 y1 e2 q3 hm)
  ·
    refine wR_la rfl l_0 ?_
    refine wR_gr rfl mO_e mO_49 hm.1.1 ?_
    refine wR_li rfl l_1 ?_
    refine wN_al (a := (v).toInt) rfl aR_250 hm.1.1 rfl rfl (by omega) (fun y4 e5 => ?_)
    refine wR_li rfl l_3 ?_
    refine wR_is rfl rfl rfl rfl rfl rfl ?_
    show yR zpg tX12_has2 (d + 6) (0, [(0, .int y4), (1, .int k)], [], mem) _
    refine yR_m 6 (fun _ _ _ _ => rfl) ?_
    refine wR_ic_ne rfl (a := ((y4 >>> (k &&& 31)) &&& 1).toInt) (c := 1) rfl rfl (fun q6 => ?_) (fun q6 => ?_)
    ·
      refine yR_m 1 (fun _ _ _ _ => rfl) ?_
      refine yR_rz rfl ⟨by decide, by decide⟩ ?_
      show yR zpg tX12_lights (d + 7) (46, lo, [.int 0], mem) _
      refine wR_if_eq rfl (a := 0) rfl (fun _ => ?_) (fun q => by exfalso; omega)
      refine wN_in (a := (k).toInt) (b := 1) rfl rfl l_3 rfl rfl (by omega) (fun x7 e8 => fun lo9 e10 f11 => ?_)
      have lo9_0 := f11 0 _ (by decide) (Or.inl rfl) l_0
      have lo9_1 := f11 1 _ (by decide) (Or.inl rfl) l_1
      have lo9_2 := f11 2 _ (by decide) (Or.inl rfl) l_2
      exact yR_m 1 (fun _ _ _ _ => rfl) (h2 y1 e2 q3 y4 e5 q6 x7 e8 lo9 lo9_0 lo9_1 lo9_2 e10 hm)
    ·
      refine yR_m 2 (fun _ _ _ _ => rfl) ?_
      refine yR_rz rfl ⟨by decide, by decide⟩ ?_
      show yR zpg tX12_lights (d + 7) (46, lo, [.int 1], mem) _
      refine wR_if_eq rfl (a := 1) rfl (fun q => by exfalso; omega) (fun _ => ?_)
      refine wR_li rfl l_3 ?_
      refine wR_li rfl l_2 ?_
      refine wR_ic_ne rfl (a := (k).toInt) (c := (bu).toInt) rfl rfl (fun q12 => ?_) (fun q12 => ?_)
      ·
        refine wR_la rfl l_0 ?_
        refine wR_li rfl l_1 ?_
        refine wR_li rfl l_3 ?_
        refine wR_cv rfl rfl mO_e hm.1.1 rfl (h_glowOf hE hQ (by omega) (by omega) (by omega) hm) ?_
        rintro _ m13 ⟨v15, rfl, hI13, k14⟩
        show yR zpg tX12_lights (d + 7) (63, lo, [.int v15], m13) _
        have b_m13 := mO_r13 hI13.1.1
        refine wR_si rfl rfl (fun lo16 e17 f18 => ?_)
        have lo16_0 := f18 0 _ (by decide) (Or.inl rfl) l_0
        have lo16_1 := f18 1 _ (by decide) (Or.inl rfl) l_1
        have lo16_2 := f18 2 _ (by decide) (Or.inl rfl) l_2
        have lo16_3 := f18 3 _ (by decide) (Or.inl rfl) l_3
        refine wR_la rfl lo16_0 ?_
        refine wR_gr rfl mO_e mO_20 hI13.1.1 ?_
        refine yR_m 1 (fun _ _ _ _ => rfl) ?_
        refine wR_la rfl lo16_0 ?_
        refine wR_gi rfl mO_e mO_13 hI13.1.1 rfl ?_
        refine wN_mul (a := 9) (b := (gi m13 221 13).toInt) rfl rfl rfl (by omega) (fun x19 e20 => ?_)
        refine wR_li rfl lo16_3 ?_
        refine wN_add (a := (9 * (gi m13 221 13).toInt)) (b := (k).toInt) rfl e20 rfl (by omega) (fun x21 e22 => ?_)
        refine wN_al (a := ((9 * (gi m13 221 13).toInt) + (k).toInt)) rfl aR_229 hI13.1.1 rfl e22 (by omega) (fun y23 e24 => ?_)
        refine wR_si rfl rfl (fun lo25 e26 f27 => ?_)
        have lo25_4 := f27 4 _ (by decide) (Or.inl rfl) e17
        have lo25_0 := f27 0 _ (by decide) (Or.inl rfl) lo16_0
        have lo25_1 := f27 1 _ (by decide) (Or.inl rfl) lo16_1
        have lo25_2 := f27 2 _ (by decide) (Or.inl rfl) lo16_2
        have lo25_3 := f27 3 _ (by decide) (Or.inl rfl) lo16_3
        refine yR_m 1 (fun _ _ _ _ => rfl) ?_
        refine wR_si rfl rfl (fun lo28 e29 f30 => ?_)
        have lo28_5 := f30 5 _ (by decide) (Or.inl rfl) e26
        have lo28_4 := f30 4 _ (by decide) (Or.inl rfl) lo25_4
        have lo28_0 := f30 0 _ (by decide) (Or.inl rfl) lo25_0
        have lo28_1 := f30 1 _ (by decide) (Or.inl rfl) lo25_1
        have lo28_2 := f30 2 _ (by decide) (Or.inl rfl) lo25_2
        have lo28_3 := f30 3 _ (by decide) (Or.inl rfl) lo25_3
        exact h3 y1 e2 q3 y4 e5 q6 q12 v15 m13 hI13 k14 x19 e20 x21 e22 y23 e24 lo28 lo28_0 lo28_1 lo28_2 lo28_3 lo28_4 lo28_5 e29 hI13
      ·
        refine yR_m 1 (fun _ _ _ _ => rfl) ?_
        refine wN_in (a := (k).toInt) (b := 1) rfl rfl l_3 rfl rfl (by omega) (fun x31 e32 => fun lo33 e34 f35 => ?_)
        have lo33_0 := f35 0 _ (by decide) (Or.inl rfl) l_0
        have lo33_1 := f35 1 _ (by decide) (Or.inl rfl) l_1
        have lo33_2 := f35 2 _ (by decide) (Or.inl rfl) l_2
        exact yR_m 1 (fun _ _ _ _ => rfl) (h4 y1 e2 q3 y4 e5 q6 q12 x31 e32 lo33 lo33_0 lo33_1 lo33_2 e34 hm)

set_option maxRecDepth 100000 in
theorem w_li_84 {E : zM → Prop} (hE : aEs (aΘ0 E)) {d : Nat} {m0 mem : zM} {P : Option Value → zM → Prop} {v bu k g a c : Int32} {lo : List (Nat × Value)} (hm : wI (aΘ0 E) m0 mem) (l_0 : zlg lo 0 = some (.ref 221)) (l_1 : zlg lo 1 = some (.int v)) (l_2 : zlg lo 2 = some (.int bu)) (l_3 : zlg lo 3 = some (.int k)) (l_4 : zlg lo 4 = some (.int g)) (l_5 : zlg lo 5 = some (.int a)) (l_6 : zlg lo 6 = some (.int c)) (hc : 0 ≤ c.toInt ∧ c.toInt ≤ 64) (ha : 0 ≤ a.toInt ∧ a.toInt ≤ 63) (hk : 0 ≤ k.toInt ∧ k.toInt ≤ 9) (h1 : 64 ≤ (c).toInt → ∀ (x2 : Int32), x2.toInt = ((k).toInt + 1) → ∀ lo, zlg lo 0 = some (.ref 221) → zlg lo 1 = some (.int v) → zlg lo 2 = some (.int bu) → zlg lo 3 = some (.int x2) → wI (aΘ0 E) m0 mem → yR zpg tX12_lights (d + 7) (23, lo, [], mem) P) (s1 : szOK mem) (h2 : (c).toInt < 64 → ∀ (v7 : Int32), isB v7 (inC mem ((c).toInt % 8) ((c).toInt / 8)) → (v7).toInt = 0 → ∀ (x10 : Int32), x10.toInt = ((c).toInt + 1) → ∀ lo, zlg lo 0 = some (.ref 221) → zlg lo 1 = some (.int v) → zlg lo 2 = some (.int bu) → zlg lo 3 = some (.int k) → zlg lo 4 = some (.int g) → zlg lo 5 = some (.int a) → zlg lo 6 = some (.int x10) → wI (aΘ0 E) m0 mem → yR zpg tX12_lights (d + 7) (84, lo, [], mem) P) (h3 : (c).toInt < 64 → ∀ (v7 : Int32), isB v7 (inC mem ((c).toInt % 8) ((c).toInt / 8)) → ¬ (v7).toInt = 0 → ∀ (v15 : Int32), isB v15 (wal mem (c).toInt) → ¬ (v15).toInt = 0 → ∀ (x18 : Int32), x18.toInt = ((c).toInt + 1) → ∀ lo, zlg lo 0 = some (.ref 221) → zlg lo 1 = some (.int v) → zlg lo 2 = some (.int bu) → zlg lo 3 = some (.int k) → zlg lo 4 = some (.int g) → zlg lo 5 = some (.int a) → zlg lo 6 = some (.int x18) → wI (aΘ0 E) m0 mem → yR zpg tX12_lights (d + 7) (84, lo, [], mem) P) (h4 : (c).toInt < 64 → ∀ (v7 : Int32), isB v7 (inC mem ((c).toInt % 8) ((c).toInt / 8)) → ¬ (v7).toInt = 0 → ∀ (v15 : Int32), isB v15 (wal mem (c).toInt) → (v15).toInt = 0 → ∀ (x23 : Int32), x23.toInt = ((c).toInt % 8) → ∀ (x25 : Int32), x25.toInt = ((a).toInt % 8) → ((c).toInt % 8) ≤ ((a).toInt % 8) → ∀ (x28 : Int32), x28.toInt = (((a).toInt % 8) - ((c).toInt % 8)) → ∀ (x30 : Int32), x30.toInt = ((c).toInt / 8) → ∀ (x32 : Int32), x32.toInt = ((a).toInt / 8) → ((c).toInt / 8) ≤ ((a).toInt / 8) → ∀ (x35 : Int32), x35.toInt = (((a).toInt / 8) - ((c).toInt / 8)) → ∀ (x37 : Int32), x37.toInt = ((((a).toInt % 8) - ((c).toInt % 8)) + (((a).toInt / 8) - ((c).toInt / 8))) → (g).toInt < ((((a).toInt % 8) - ((c).toInt % 8)) + (((a).toInt / 8) - ((c).toInt / 8))) → ∀ (x40 : Int32), x40.toInt = ((c).toInt + 1) → ∀ lo, zlg lo 0 = some (.ref 221) → zlg lo 1 = some (.int v) → zlg lo 2 = some (.int bu) → zlg lo 3 = some (.int k) → zlg lo 4 = some (.int g) → zlg lo 5 = some (.int a) → zlg lo 6 = some (.int x40) → wI (aΘ0 E) m0 mem → yR zpg tX12_lights (d + 7) (84, lo, [], mem) P) (s2 : (c).toInt < 64 → ∀ (v7 : Int32), isB v7 (inC mem ((c).toInt % 8) ((c).toInt / 8)) → ¬ (v7).toInt = 0 → ∀ (v15 : Int32), isB v15 (wal mem (c).toInt) → (v15).toInt = 0 → ∀ (x23 : Int32), x23.toInt = ((c).toInt % 8) → ∀ (x25 : Int32), x25.toInt = ((a).toInt % 8) → ((c).toInt % 8) ≤ ((a).toInt % 8) → ∀ (x28 : Int32), x28.toInt = (((a).toInt % 8) - ((c).toInt % 8)) → ∀ (x30 : Int32), x30.toInt = ((c).toInt / 8) → ∀ (x32 : Int32), x32.toInt = ((a).toInt / 8) → ((c).toInt / 8) ≤ ((a).toInt / 8) → ∀ (x35 : Int32), x35.toInt = (((a).toInt / 8) - ((c).toInt / 8)) → ∀ (x37 : Int32), x37.toInt = ((((a).toInt % 8) - ((c).toInt % 8)) + (((a).toInt / 8) - ((c).toInt / 8))) → ((((a).toInt % 8) - ((c).toInt % 8)) + (((a).toInt / 8) - ((c).toInt / 8))) ≤ (g).toInt → ∀ (y45 : Int32), y45.toInt = (gn (ga mem 258) (c).toInt) → (-2147483648 : Int) ≤ ((gn (ga mem 258) (c).toInt) + 1) ∧ ((gn (ga mem 258) (c).toInt) + 1) ≤ 2147483647) (h5 : (c).toInt < 64 → ∀ (v7 : Int32), isB v7 (inC mem ((c).toInt % 8) ((c).toInt / 8)) → ¬ (v7).toInt = 0 → ∀ (v15 : Int32), isB v15 (wal mem (c).toInt) → (v15).toInt = 0 → ∀ (x23 : Int32), x23.toInt = ((c).toInt % 8) → ∀ (x25 : Int32), x25.toInt = ((a).toInt % 8) → ((c).toInt % 8) ≤ ((a).toInt % 8) → ∀ (x28 : Int32), x28.toInt = (((a).toInt % 8) - ((c).toInt % 8)) → ∀ (x30 : Int32), x30.toInt = ((c).toInt / 8) → ∀ (x32 : Int32), x32.toInt = ((a).toInt / 8) → ((c).toInt / 8) ≤ ((a).toInt / 8) → ∀ (x35 : Int32), x35.toInt = (((a).toInt / 8) - ((c).toInt / 8)) → ∀ (x37 : Int32), x37.toInt = ((((a).toInt % 8) - ((c).toInt % 8)) + (((a).toInt / 8) - ((c).toInt / 8))) → ((((a).toInt % 8) - ((c).toInt % 8)) + (((a).toInt / 8) - ((c).toInt / 8))) ≤ (g).toInt → ∀ (y45 : Int32), y45.toInt = (gn (ga mem 258) (c).toInt) → ∀ (x47 : Int32), x47.toInt = ((gn (ga mem 258) (c).toInt) + 1) → ∀ (x49 : Int32), x49.toInt = ((c).toInt + 1) → ∀ lo, zlg lo 0 = some (.ref 221) → zlg lo 1 = some (.int v) → zlg lo 2 = some (.int bu) → zlg lo 3 = some (.int k) → zlg lo 4 = some (.int g) → zlg lo 5 = some (.int a) → zlg lo 6 = some (.int x49) → wI (aΘ0 E) m0 (sx mem 258 c x47) → yR zpg tX12_lights (d + 7) (84, lo, [], (sx mem 258 c x47)) P) (h6 : (c).toInt < 64 → ∀ (v7 : Int32), isB v7 (inC mem ((c).toInt % 8) ((c).toInt / 8)) → ¬ (v7).toInt = 0 → ∀ (v15 : Int32), isB v15 (wal mem (c).toInt) → (v15).toInt = 0 → ∀ (x23 : Int32), x23.toInt = ((c).toInt % 8) → ∀ (x25 : Int32), x25.toInt = ((a).toInt % 8) → ((c).toInt % 8) ≤ ((a).toInt % 8) → ∀ (x28 : Int32), x28.toInt = (((a).toInt % 8) - ((c).toInt % 8)) → ∀ (x30 : Int32), x30.toInt = ((c).toInt / 8) → ∀ (x32 : Int32), x32.toInt = ((a).toInt / 8) → ((a).toInt / 8) < ((c).toInt / 8) → ∀ (x54 : Int32), x54.toInt = (((c).toInt / 8) - ((a).toInt / 8)) → ∀ (x56 : Int32), x56.toInt = ((((a).toInt % 8) - ((c).toInt % 8)) + (((c).toInt / 8) - ((a).toInt / 8))) → (g).toInt < ((((a).toInt % 8) - ((c).toInt % 8)) + (((c).toInt / 8) - ((a).toInt / 8))) → ∀ (x59 : Int32), x59.toInt = ((c).toInt + 1) → ∀ lo, zlg lo 0 = some (.ref 221) → zlg lo 1 = some (.int v) → zlg lo 2 = some (.int bu) → zlg lo 3 = some (.int k) → zlg lo 4 = some (.int g) → zlg lo 5 = some (.int a) → zlg lo 6 = some (.int x59) → wI (aΘ0 E) m0 mem → yR zpg tX12_lights (d + 7) (84, lo, [], mem) P) (s3 : (c).toInt < 64 → ∀ (v7 : Int32), isB v7 (inC mem ((c).toInt % 8) ((c).toInt / 8)) → ¬ (v7).toInt = 0 → ∀ (v15 : Int32), isB v15 (wal mem (c).toInt) → (v15).toInt = 0 → ∀ (x23 : Int32), x23.toInt = ((c).toInt % 8) → ∀ (x25 : Int32), x25.toInt = ((a).toInt % 8) → ((c).toInt % 8) ≤ ((a).toInt % 8) → ∀ (x28 : Int32), x28.toInt = (((a).toInt % 8) - ((c).toInt % 8)) → ∀ (x30 : Int32), x30.toInt = ((c).toInt / 8) → ∀ (x32 : Int32), x32.toInt = ((a).toInt / 8) → ((a).toInt / 8) < ((c).toInt / 8) → ∀ (x54 : Int32), x54.toInt = (((c).toInt / 8) - ((a).toInt / 8)) → ∀ (x56 : Int32), x56.toInt = ((((a).toInt % 8) - ((c).toInt % 8)) + (((c).toInt / 8) - ((a).toInt / 8))) → ((((a).toInt % 8) - ((c).toInt % 8)) + (((c).toInt / 8) - ((a).toInt / 8))) ≤ (g).toInt → ∀ (y64 : Int32), y64.toInt = (gn (ga mem 258) (c).toInt) → (-2147483648 : Int) ≤ ((gn (ga mem 258) (c).toInt) + 1) ∧ ((gn (ga mem 258) (c).toInt) + 1) ≤ 2147483647) (h7 : (c).toInt < 64 → ∀ (v7 : Int32), isB v7 (inC mem ((c).toInt % 8) ((c).toInt / 8)) → ¬ (v7).toInt = 0 → ∀ (v15 : Int32), isB v15 (wal mem (c).toInt) → (v15).toInt = 0 → ∀ (x23 : Int32), x23.toInt = ((c).toInt % 8) → ∀ (x25 : Int32), x25.toInt = ((a).toInt % 8) → ((c).toInt % 8) ≤ ((a).toInt % 8) → ∀ (x28 : Int32), x28.toInt = (((a).toInt % 8) - ((c).toInt % 8)) → ∀ (x30 : Int32), x30.toInt = ((c).toInt / 8) → ∀ (x32 : Int32), x32.toInt = ((a).toInt / 8) → ((a).toInt / 8) < ((c).toInt / 8) → ∀ (x54 : Int32), x54.toInt = (((c).toInt / 8) - ((a).toInt / 8)) → ∀ (x56 : Int32), x56.toInt = ((((a).toInt % 8) - ((c).toInt % 8)) + (((c).toInt / 8) - ((a).toInt / 8))) → ((((a).toInt % 8) - ((c).toInt % 8)) + (((c).toInt / 8) - ((a).toInt / 8))) ≤ (g).toInt → ∀ (y64 : Int32), y64.toInt = (gn (ga mem 258) (c).toInt) → ∀ (x66 : Int32), x66.toInt = ((gn (ga mem 258) (c).toInt) + 1) → ∀ (x68 : Int32), x68.toInt = ((c).toInt + 1) → ∀ lo, zlg lo 0 = some (.ref 221) → zlg lo 1 = some (.int v) → zlg lo 2 = some (.int bu) → zlg lo 3 = some (.int k) → zlg lo 4 = some (.int g) → zlg lo 5 = some (.int a) → zlg lo 6 = some (.int x68) → wI (aΘ0 E) m0 (sx mem 258 c x66) → yR zpg tX12_lights (d + 7) (84, lo, [], (sx mem 258 c x66)) P) (h8 : (c).toInt < 64 → ∀ (v7 : Int32), isB v7 (inC mem ((c).toInt % 8) ((c).toInt / 8)) → ¬ (v7).toInt = 0 → ∀ (v15 : Int32), isB v15 (wal mem (c).toInt) → (v15).toInt = 0 → ∀ (x23 : Int32), x23.toInt = ((c).toInt % 8) → ∀ (x25 : Int32), x25.toInt = ((a).toInt % 8) → ((a).toInt % 8) < ((c).toInt % 8) → ∀ (x73 : Int32), x73.toInt = (((c).toInt % 8) - ((a).toInt % 8)) → ∀ (x75 : Int32), x75.toInt = ((c).toInt / 8) → ∀ (x77 : Int32), x77.toInt = ((a).toInt / 8) → ((c).toInt / 8) ≤ ((a).toInt / 8) → ∀ (x80 : Int32), x80.toInt = (((a).toInt / 8) - ((c).toInt / 8)) → ∀ (x82 : Int32), x82.toInt = ((((c).toInt % 8) - ((a).toInt % 8)) + (((a).toInt / 8) - ((c).toInt / 8))) → (g).toInt < ((((c).toInt % 8) - ((a).toInt % 8)) + (((a).toInt / 8) - ((c).toInt / 8))) → ∀ (x85 : Int32), x85.toInt = ((c).toInt + 1) → ∀ lo, zlg lo 0 = some (.ref 221) → zlg lo 1 = some (.int v) → zlg lo 2 = some (.int bu) → zlg lo 3 = some (.int k) → zlg lo 4 = some (.int g) → zlg lo 5 = some (.int a) → zlg lo 6 = some (.int x85) → wI (aΘ0 E) m0 mem → yR zpg tX12_lights (d + 7) (84, lo, [], mem) P) (s4 : (c).toInt < 64 → ∀ (v7 : Int32), isB v7 (inC mem ((c).toInt % 8) ((c).toInt / 8)) → ¬ (v7).toInt = 0 → ∀ (v15 : Int32), isB v15 (wal mem (c).toInt) → (v15).toInt = 0 → ∀ (x23 : Int32), x23.toInt = ((c).toInt % 8) → ∀ (x25 : Int32), x25.toInt = ((a).toInt % 8) → ((a).toInt % 8) < ((c).toInt % 8) → ∀ (x73 : Int32), x73.toInt = (((c).toInt % 8) - ((a).toInt % 8)) → ∀ (x75 : Int32), x75.toInt = ((c).toInt / 8) → ∀ (x77 : Int32), x77.toInt = ((a).toInt / 8) → ((c).toInt / 8) ≤ ((a).toInt / 8) → ∀ (x80 : Int32), x80.toInt = (((a).toInt / 8) - ((c).toInt / 8)) → ∀ (x82 : Int32), x82.toInt = ((((c).toInt % 8) - ((a).toInt % 8)) + (((a).toInt / 8) - ((c).toInt / 8))) → ((((c).toInt % 8) - ((a).toInt % 8)) + (((a).toInt / 8) - ((c).toInt / 8))) ≤ (g).toInt → ∀ (y90 : Int32), y90.toInt = (gn (ga mem 258) (c).toInt) → (-2147483648 : Int) ≤ ((gn (ga mem 258) (c).toInt) + 1) ∧ ((gn (ga mem 258) (c).toInt) + 1) ≤ 2147483647) (h9 : (c).toInt < 64 → ∀ (v7 : Int32), isB v7 (inC mem ((c).toInt % 8) ((c).toInt / 8)) → ¬ (v7).toInt = 0 → ∀ (v15 : Int32), isB v15 (wal mem (c).toInt) → (v15).toInt = 0 → ∀ (x23 : Int32), x23.toInt = ((c).toInt % 8) → ∀ (x25 : Int32), x25.toInt = ((a).toInt % 8) → ((a).toInt % 8) < ((c).toInt % 8) → ∀ (x73 : Int32), x73.toInt = (((c).toInt % 8) - ((a).toInt % 8)) → ∀ (x75 : Int32), x75.toInt = ((c).toInt / 8) → ∀ (x77 : Int32), x77.toInt = ((a).toInt / 8) → ((c).toInt / 8) ≤ ((a).toInt / 8) → ∀ (x80 : Int32), x80.toInt = (((a).toInt / 8) - ((c).toInt / 8)) → ∀ (x82 : Int32), x82.toInt = ((((c).toInt % 8) - ((a).toInt % 8)) + (((a).toInt / 8) - ((c).toInt / 8))) → ((((c).toInt % 8) - ((a).toInt % 8)) + (((a).toInt / 8) - ((c).toInt / 8))) ≤ (g).toInt → ∀ (y90 : Int32), y90.toInt = (gn (ga mem 258) (c).toInt) → ∀ (x92 : Int32), x92.toInt = ((gn (ga mem 258) (c).toInt) + 1) → ∀ (x94 : Int32), x94.toInt = ((c).toInt + 1) → ∀ lo, zlg lo 0 = some (.ref 221) → zlg lo 1 = some (.int v) → zlg lo 2 = some (.int bu) → zlg lo 3 = some (.int k) → zlg lo 4 = some (.int g) → zlg lo 5 = some (.int a) → zlg lo 6 = some (.int x94) → wI (aΘ0 E) m0 (sx mem 258 c x92) → yR zpg tX12_lights (d + 7) (84, lo, [], (sx mem 258 c x92)) P) (h10 : (c).toInt < 64 → ∀ (v7 : Int32), isB v7 (inC mem ((c).toInt % 8) ((c).toInt / 8)) → ¬ (v7).toInt = 0 → ∀ (v15 : Int32), isB v15 (wal mem (c).toInt) → (v15).toInt = 0 → ∀ (x23 : Int32), x23.toInt = ((c).toInt % 8) → ∀ (x25 : Int32), x25.toInt = ((a).toInt % 8) → ((a).toInt % 8) < ((c).toInt % 8) → ∀ (x73 : Int32), x73.toInt = (((c).toInt % 8) - ((a).toInt % 8)) → ∀ (x75 : Int32), x75.toInt = ((c).toInt / 8) → ∀ (x77 : Int32), x77.toInt = ((a).toInt / 8) → ((a).toInt / 8) < ((c).toInt / 8) → ∀ (x99 : Int32), x99.toInt = (((c).toInt / 8) - ((a).toInt / 8)) → ∀ (x101 : Int32), x101.toInt = ((((c).toInt % 8) - ((a).toInt % 8)) + (((c).toInt / 8) - ((a).toInt / 8))) → (g).toInt < ((((c).toInt % 8) - ((a).toInt % 8)) + (((c).toInt / 8) - ((a).toInt / 8))) → ∀ (x104 : Int32), x104.toInt = ((c).toInt + 1) → ∀ lo, zlg lo 0 = some (.ref 221) → zlg lo 1 = some (.int v) → zlg lo 2 = some (.int bu) → zlg lo 3 = some (.int k) → zlg lo 4 = some (.int g) → zlg lo 5 = some (.int a) → zlg lo 6 = some (.int x104) → wI (aΘ0 E) m0 mem → yR zpg tX12_lights (d + 7) (84, lo, [], mem) P) (s5 : (c).toInt < 64 → ∀ (v7 : Int32), isB v7 (inC mem ((c).toInt % 8) ((c).toInt / 8)) → ¬ (v7).toInt = 0 → ∀ (v15 : Int32), isB v15 (wal mem (c).toInt) → (v15).toInt = 0 → ∀ (x23 : Int32), x23.toInt = ((c).toInt % 8) → ∀ (x25 : Int32), x25.toInt = ((a).toInt % 8) → ((a).toInt % 8) < ((c).toInt % 8) → ∀ (x73 : Int32), x73.toInt = (((c).toInt % 8) - ((a).toInt % 8)) → ∀ (x75 : Int32), x75.toInt = ((c).toInt / 8) → ∀ (x77 : Int32), x77.toInt = ((a).toInt / 8) → ((a).toInt / 8) < ((c).toInt / 8) → ∀ (x99 : Int32), x99.toInt = (((c).toInt / 8) - ((a).toInt / 8)) → ∀ (x101 : Int32), x101.toInt = ((((c).toInt % 8) - ((a).toInt % 8)) + (((c).toInt / 8) - ((a).toInt / 8))) → ((((c).toInt % 8) - ((a).toInt % 8)) + (((c).toInt / 8) - ((a).toInt / 8))) ≤ (g).toInt → ∀ (y109 : Int32), y109.toInt = (gn (ga mem 258) (c).toInt) → (-2147483648 : Int) ≤ ((gn (ga mem 258) (c).toInt) + 1) ∧ ((gn (ga mem 258) (c).toInt) + 1) ≤ 2147483647) (h11 : (c).toInt < 64 → ∀ (v7 : Int32), isB v7 (inC mem ((c).toInt % 8) ((c).toInt / 8)) → ¬ (v7).toInt = 0 → ∀ (v15 : Int32), isB v15 (wal mem (c).toInt) → (v15).toInt = 0 → ∀ (x23 : Int32), x23.toInt = ((c).toInt % 8) → ∀ (x25 : Int32), x25.toInt = ((a).toInt % 8) → ((a).toInt % 8) < ((c).toInt % 8) → ∀ (x73 : Int32), x73.toInt = (((c).toInt % 8) - ((a).toInt % 8)) → ∀ (x75 : Int32), x75.toInt = ((c).toInt / 8) → ∀ (x77 : Int32), x77.toInt = ((a).toInt / 8) → ((a).toInt / 8) < ((c).toInt / 8) → ∀ (x99 : Int32), x99.toInt = (((c).toInt / 8) - ((a).toInt / 8)) → ∀ (x101 : Int32), x101.toInt = ((((c).toInt % 8) - ((a).toInt % 8)) + (((c).toInt / 8) - ((a).toInt / 8))) → ((((c).toInt % 8) - ((a).toInt % 8)) + (((c).toInt / 8) - ((a).toInt / 8))) ≤ (g).toInt → ∀ (y109 : Int32), y109.toInt = (gn (ga mem 258) (c).toInt) → ∀ (x111 : Int32), x111.toInt = ((gn (ga mem 258) (c).toInt) + 1) → ∀ (x113 : Int32), x113.toInt = ((c).toInt + 1) → ∀ lo, zlg lo 0 = some (.ref 221) → zlg lo 1 = some (.int v) → zlg lo 2 = some (.int bu) → zlg lo 3 = some (.int k) → zlg lo 4 = some (.int g) → zlg lo 5 = some (.int a) → zlg lo 6 = some (.int x113) → wI (aΘ0 E) m0 (sx mem 258 c x111) → yR zpg tX12_lights (d + 7) (84, lo, [], (sx mem 258 c x111)) P) : yR zpg tX12_lights (d + 7) (84, lo, [], mem) P := by
  refine wR_li rfl l_6 ?_
  refine yR_m 1 (fun _ _ _ _ => rfl) ?_
  refine wR_ic_ge rfl (a := (c).toInt) (c := 64) rfl rfl (fun q1 => ?_) (fun q1 => ?_)
  ·
    refine wN_in (a := (k).toInt) (b := 1) rfl rfl l_3 rfl rfl (by omega) (fun x2 e3 => fun lo4 e5 f6 => ?_)
    have lo4_0 := f6 0 _ (by decide) (Or.inl rfl) l_0
    have lo4_1 := f6 1 _ (by decide) (Or.inl rfl) l_1
    have lo4_2 := f6 2 _ (by decide) (Or.inl rfl) l_2
    have lo4_4 := f6 4 _ (by decide) (Or.inl rfl) l_4
    have lo4_5 := f6 5 _ (by decide) (Or.inl rfl) l_5
    have lo4_6 := f6 6 _ (by decide) (Or.inl rfl) l_6
    exact yR_m 1 (fun _ _ _ _ => rfl) (h1 q1 x2 e3 lo4 lo4_0 lo4_1 lo4_2 e5 hm)
  ·
    refine wR_la rfl l_0 ?_
    refine wR_li rfl l_6 ?_
    refine wR_cv rfl rfl mO_e hm.1.1 rfl (c_isCellOf hm.1.1 s1 (by omega) (by omega)) ?_
    rintro _ _ ⟨v7, rfl, rfl, k8⟩
    show yR zpg tX12_lights (d + 7) (97, lo, [.int v7], mem) _
    refine wR_if_eq rfl (a := (v7).toInt) rfl (fun q9 => ?_) (fun q9 => ?_)
    ·
      refine wN_in (a := (c).toInt) (b := 1) rfl rfl l_6 rfl rfl (by omega) (fun x10 e11 => fun lo12 e13 f14 => ?_)
      have lo12_0 := f14 0 _ (by decide) (Or.inl rfl) l_0
      have lo12_1 := f14 1 _ (by decide) (Or.inl rfl) l_1
      have lo12_2 := f14 2 _ (by decide) (Or.inl rfl) l_2
      have lo12_3 := f14 3 _ (by decide) (Or.inl rfl) l_3
      have lo12_4 := f14 4 _ (by decide) (Or.inl rfl) l_4
      have lo12_5 := f14 5 _ (by decide) (Or.inl rfl) l_5
      exact yR_m 1 (fun _ _ _ _ => rfl) (h2 q1 v7 k8 q9 x10 e11 lo12 lo12_0 lo12_1 lo12_2 lo12_3 lo12_4 lo12_5 e13 hm)
    ·
      refine wR_la rfl l_0 ?_
      refine wR_li rfl l_6 ?_
      refine wR_cv rfl rfl mO_e hm.1.1 rfl (c_isWall hm.1.1 (by omega) (by omega)) ?_
      rintro _ _ ⟨v15, rfl, rfl, k16⟩
      show yR zpg tX12_lights (d + 7) (106, lo, [.int v15], mem) _
      refine wR_if_ne rfl (a := (v15).toInt) rfl (fun q17 => ?_) (fun q17 => ?_)
      ·
        refine wN_in (a := (c).toInt) (b := 1) rfl rfl l_6 rfl rfl (by omega) (fun x18 e19 => fun lo20 e21 f22 => ?_)
        have lo20_0 := f22 0 _ (by decide) (Or.inl rfl) l_0
        have lo20_1 := f22 1 _ (by decide) (Or.inl rfl) l_1
        have lo20_2 := f22 2 _ (by decide) (Or.inl rfl) l_2
        have lo20_3 := f22 3 _ (by decide) (Or.inl rfl) l_3
        have lo20_4 := f22 4 _ (by decide) (Or.inl rfl) l_4
        have lo20_5 := f22 5 _ (by decide) (Or.inl rfl) l_5
        exact yR_m 1 (fun _ _ _ _ => rfl) (h3 q1 v7 k8 q9 v15 k16 q17 x18 e19 lo20 lo20_0 lo20_1 lo20_2 lo20_3 lo20_4 lo20_5 e21 hm)
      ·
        refine wR_li rfl l_6 ?_
        refine yR_m 1 (fun _ _ _ _ => rfl) ?_
        refine wN_rem (a := (c).toInt) (b := 8) rfl rfl rfl (by decide) (by omega) (fun x23 e24 => ?_)
        refine wR_li rfl l_5 ?_
        refine yR_m 1 (fun _ _ _ _ => rfl) ?_
        refine wN_rem (a := (a).toInt) (b := 8) rfl rfl rfl (by decide) (by omega) (fun x25 e26 => ?_)
        refine wR_is rfl rfl rfl rfl rfl rfl ?_
        show yR zpg tX12_gap (d + 6) (0, [(0, .int x23), (1, .int x25)], [], mem) _
        refine yR_m 2 (fun _ _ _ _ => rfl) ?_
        refine wR_ic_le rfl (a := ((c).toInt % 8)) (c := ((a).toInt % 8)) e24 e26 (fun q27 => ?_) (fun q27 => ?_)
        ·
          refine yR_m 2 (fun _ _ _ _ => rfl) ?_
          refine wN_sub (a := ((a).toInt % 8)) (b := ((c).toInt % 8)) rfl e26 e24 (by omega) (fun x28 e29 => ?_)
          refine yR_ri rfl ?_
          show yR zpg tX12_lights (d + 7) (122, lo, [.int x28], mem) _
          refine wR_li rfl l_6 ?_
          refine yR_m 1 (fun _ _ _ _ => rfl) ?_
          refine wN_div (a := (c).toInt) (b := 8) rfl rfl rfl (by decide) (by omega) (fun x30 e31 => ?_)
          refine wR_li rfl l_5 ?_
          refine yR_m 1 (fun _ _ _ _ => rfl) ?_
          refine wN_div (a := (a).toInt) (b := 8) rfl rfl rfl (by decide) (by omega) (fun x32 e33 => ?_)
          refine wR_is rfl rfl rfl rfl rfl rfl ?_
          show yR zpg tX12_gap (d + 6) (0, [(0, .int x30), (1, .int x32)], [], mem) _
          refine yR_m 2 (fun _ _ _ _ => rfl) ?_
          refine wR_ic_le rfl (a := ((c).toInt / 8)) (c := ((a).toInt / 8)) e31 e33 (fun q34 => ?_) (fun q34 => ?_)
          ·
            refine yR_m 2 (fun _ _ _ _ => rfl) ?_
            refine wN_sub (a := ((a).toInt / 8)) (b := ((c).toInt / 8)) rfl e33 e31 (by omega) (fun x35 e36 => ?_)
            refine yR_ri rfl ?_
            show yR zpg tX12_lights (d + 7) (135, lo, [.int x35, .int x28], mem) _
            refine wN_add (a := (((a).toInt % 8) - ((c).toInt % 8))) (b := (((a).toInt / 8) - ((c).toInt / 8))) rfl e29 e36 (by omega) (fun x37 e38 => ?_)
            refine wR_li rfl l_4 ?_
            refine wR_ic_gt rfl (a := ((((a).toInt % 8) - ((c).toInt % 8)) + (((a).toInt / 8) - ((c).toInt / 8)))) (c := (g).toInt) e38 rfl (fun q39 => ?_) (fun q39 => ?_)
            ·
              refine wN_in (a := (c).toInt) (b := 1) rfl rfl l_6 rfl rfl (by omega) (fun x40 e41 => fun lo42 e43 f44 => ?_)
              have lo42_0 := f44 0 _ (by decide) (Or.inl rfl) l_0
              have lo42_1 := f44 1 _ (by decide) (Or.inl rfl) l_1
              have lo42_2 := f44 2 _ (by decide) (Or.inl rfl) l_2
              have lo42_3 := f44 3 _ (by decide) (Or.inl rfl) l_3
              have lo42_4 := f44 4 _ (by decide) (Or.inl rfl) l_4
              have lo42_5 := f44 5 _ (by decide) (Or.inl rfl) l_5
              exact yR_m 1 (fun _ _ _ _ => rfl) (h4 q1 v7 k8 q9 v15 k16 q17 x23 e24 x25 e26 q27 x28 e29 x30 e31 x32 e33 q34 x35 e36 x37 e38 q39 x40 e41 lo42 lo42_0 lo42_1 lo42_2 lo42_3 lo42_4 lo42_5 e43 hm)
            ·
              refine wR_la rfl l_0 ?_
              refine wR_gr rfl mO_e mO_60 hm.1.1 ?_
              refine wR_li rfl l_6 ?_
              refine yR_m 1 (fun _ _ _ _ => rfl) ?_
              refine wN_al (a := (c).toInt) rfl aR_258 hm.1.1 rfl rfl (by omega) (fun y45 e46 => ?_)
              refine yR_m 1 (fun _ _ _ _ => rfl) ?_
              refine wN_add (a := (gn (ga mem 258) (c).toInt)) (b := 1) rfl e46 rfl (s2 q1 v7 k8 q9 v15 k16 q17 x23 e24 x25 e26 q27 x28 e29 x30 e31 x32 e33 q34 x35 e36 x37 e38 q39 y45 e46) (fun x47 e48 => ?_)
              refine wN_as (a := (c).toInt) rfl aR_258 hm.1.1 rfl (by omega) ?_
              have hm_1 : wI (aΘ0 E) m0 (sx mem 258 c x47) := wI_sa hE aR_258 hm (i32_b _)
              refine wN_in (a := (c).toInt) (b := 1) rfl rfl l_6 rfl rfl (by omega) (fun x49 e50 => fun lo51 e52 f53 => ?_)
              have lo51_0 := f53 0 _ (by decide) (Or.inl rfl) l_0
              have lo51_1 := f53 1 _ (by decide) (Or.inl rfl) l_1
              have lo51_2 := f53 2 _ (by decide) (Or.inl rfl) l_2
              have lo51_3 := f53 3 _ (by decide) (Or.inl rfl) l_3
              have lo51_4 := f53 4 _ (by decide) (Or.inl rfl) l_4
              have lo51_5 := f53 5 _ (by decide) (Or.inl rfl) l_5
              exact yR_m 1 (fun _ _ _ _ => rfl) (h5 q1 v7 k8 q9 v15 k16 q17 x23 e24 x25 e26 q27 x28 e29 x30 e31 x32 e33 q34 x35 e36 x37 e38 q39 y45 e46 x47 e48 x49 e50 lo51 lo51_0 lo51_1 lo51_2 lo51_3 lo51_4 lo51_5 e52 hm_1)
          ·
            refine yR_m 2 (fun _ _ _ _ => rfl) ?_
            refine wN_sub (a := ((c).toInt / 8)) (b := ((a).toInt / 8)) rfl e31 e33 (by omega) (fun x54 e55 => ?_)
            refine yR_m 1 (fun _ _ _ _ => rfl) ?_
            refine yR_ri rfl ?_
            show yR zpg tX12_lights (d + 7) (135, lo, [.int x54, .int x28], mem) _
            refine wN_add (a := (((a).toInt % 8) - ((c).toInt % 8))) (b := (((c).toInt / 8) - ((a).toInt / 8))) rfl e29 e55 (by omega) (fun x56 e57 => ?_)
            refine wR_li rfl l_4 ?_
            refine wR_ic_gt rfl (a := ((((a).toInt % 8) - ((c).toInt % 8)) + (((c).toInt / 8) - ((a).toInt / 8)))) (c := (g).toInt) e57 rfl (fun q58 => ?_) (fun q58 => ?_)
            ·
              refine wN_in (a := (c).toInt) (b := 1) rfl rfl l_6 rfl rfl (by omega) (fun x59 e60 => fun lo61 e62 f63 => ?_)
              have lo61_0 := f63 0 _ (by decide) (Or.inl rfl) l_0
              have lo61_1 := f63 1 _ (by decide) (Or.inl rfl) l_1
              have lo61_2 := f63 2 _ (by decide) (Or.inl rfl) l_2
              have lo61_3 := f63 3 _ (by decide) (Or.inl rfl) l_3
              have lo61_4 := f63 4 _ (by decide) (Or.inl rfl) l_4
              have lo61_5 := f63 5 _ (by decide) (Or.inl rfl) l_5
              exact yR_m 1 (fun _ _ _ _ => rfl) (h6 q1 v7 k8 q9 v15 k16 q17 x23 e24 x25 e26 q27 x28 e29 x30 e31 x32 e33 q34 x54 e55 x56 e57 q58 x59 e60 lo61 lo61_0 lo61_1 lo61_2 lo61_3 lo61_4 lo61_5 e62 hm)
            ·
              refine wR_la rfl l_0 ?_
              refine wR_gr rfl mO_e mO_60 hm.1.1 ?_
              refine wR_li rfl l_6 ?_
              refine yR_m 1 (fun _ _ _ _ => rfl) ?_
              refine wN_al (a := (c).toInt) rfl aR_258 hm.1.1 rfl rfl (by omega) (fun y64 e65 => ?_)
              refine yR_m 1 (fun _ _ _ _ => rfl) ?_
              refine wN_add (a := (gn (ga mem 258) (c).toInt)) (b := 1) rfl e65 rfl (s3 q1 v7 k8 q9 v15 k16 q17 x23 e24 x25 e26 q27 x28 e29 x30 e31 x32 e33 q34 x54 e55 x56 e57 q58 y64 e65) (fun x66 e67 => ?_)
              refine wN_as (a := (c).toInt) rfl aR_258 hm.1.1 rfl (by omega) ?_
              have hm_2 : wI (aΘ0 E) m0 (sx mem 258 c x66) := wI_sa hE aR_258 hm (i32_b _)
              refine wN_in (a := (c).toInt) (b := 1) rfl rfl l_6 rfl rfl (by omega) (fun x68 e69 => fun lo70 e71 f72 => ?_)
              have lo70_0 := f72 0 _ (by decide) (Or.inl rfl) l_0
              have lo70_1 := f72 1 _ (by decide) (Or.inl rfl) l_1
              have lo70_2 := f72 2 _ (by decide) (Or.inl rfl) l_2
              have lo70_3 := f72 3 _ (by decide) (Or.inl rfl) l_3
              have lo70_4 := f72 4 _ (by decide) (Or.inl rfl) l_4
              have lo70_5 := f72 5 _ (by decide) (Or.inl rfl) l_5
              exact yR_m 1 (fun _ _ _ _ => rfl) (h7 q1 v7 k8 q9 v15 k16 q17 x23 e24 x25 e26 q27 x28 e29 x30 e31 x32 e33 q34 x54 e55 x56 e57 q58 y64 e65 x66 e67 x68 e69 lo70 lo70_0 lo70_1 lo70_2 lo70_3 lo70_4 lo70_5 e71 hm_2)
        ·
          refine yR_m 2 (fun _ _ _ _ => rfl) ?_
          refine wN_sub (a := ((c).toInt % 8)) (b := ((a).toInt % 8)) rfl e24 e26 (by omega) (fun x73 e74 => ?_)
          refine yR_m 1 (fun _ _ _ _ => rfl) ?_
          refine yR_ri rfl ?_
          show yR zpg tX12_lights (d + 7) (122, lo, [.int x73], mem) _
          refine wR_li rfl l_6 ?_
          refine yR_m 1 (fun _ _ _ _ => rfl) ?_
          refine wN_div (a := (c).toInt) (b := 8) rfl rfl rfl (by decide) (by omega) (fun x75 e76 => ?_)
          refine wR_li rfl l_5 ?_
          refine yR_m 1 (fun _ _ _ _ => rfl) ?_
          refine wN_div (a := (a).toInt) (b := 8) rfl rfl rfl (by decide) (by omega) (fun x77 e78 => ?_)
          refine wR_is rfl rfl rfl rfl rfl rfl ?_
          show yR zpg tX12_gap (d + 6) (0, [(0, .int x75), (1, .int x77)], [], mem) _
          refine yR_m 2 (fun _ _ _ _ => rfl) ?_
          refine wR_ic_le rfl (a := ((c).toInt / 8)) (c := ((a).toInt / 8)) e76 e78 (fun q79 => ?_) (fun q79 => ?_)
          ·
            refine yR_m 2 (fun _ _ _ _ => rfl) ?_
            refine wN_sub (a := ((a).toInt / 8)) (b := ((c).toInt / 8)) rfl e78 e76 (by omega) (fun x80 e81 => ?_)
            refine yR_ri rfl ?_
            show yR zpg tX12_lights (d + 7) (135, lo, [.int x80, .int x73], mem) _
            refine wN_add (a := (((c).toInt % 8) - ((a).toInt % 8))) (b := (((a).toInt / 8) - ((c).toInt / 8))) rfl e74 e81 (by omega) (fun x82 e83 => ?_)
            refine wR_li rfl l_4 ?_
            refine wR_ic_gt rfl (a := ((((c).toInt % 8) - ((a).toInt % 8)) + (((a).toInt / 8) - ((c).toInt / 8)))) (c := (g).toInt) e83 rfl (fun q84 => ?_) (fun q84 => ?_)
            ·
              refine wN_in (a := (c).toInt) (b := 1) rfl rfl l_6 rfl rfl (by omega) (fun x85 e86 => fun lo87 e88 f89 => ?_)
              have lo87_0 := f89 0 _ (by decide) (Or.inl rfl) l_0
              have lo87_1 := f89 1 _ (by decide) (Or.inl rfl) l_1
              have lo87_2 := f89 2 _ (by decide) (Or.inl rfl) l_2
              have lo87_3 := f89 3 _ (by decide) (Or.inl rfl) l_3
              have lo87_4 := f89 4 _ (by decide) (Or.inl rfl) l_4
              have lo87_5 := f89 5 _ (by decide) (Or.inl rfl) l_5
              exact yR_m 1 (fun _ _ _ _ => rfl) (h8 q1 v7 k8 q9 v15 k16 q17 x23 e24 x25 e26 q27 x73 e74 x75 e76 x77 e78 q79 x80 e81 x82 e83 q84 x85 e86 lo87 lo87_0 lo87_1 lo87_2 lo87_3 lo87_4 lo87_5 e88 hm)
            ·
              refine wR_la rfl l_0 ?_
              refine wR_gr rfl mO_e mO_60 hm.1.1 ?_
              refine wR_li rfl l_6 ?_
              refine yR_m 1 (fun _ _ _ _ => rfl) ?_
              refine wN_al (a := (c).toInt) rfl aR_258 hm.1.1 rfl rfl (by omega) (fun y90 e91 => ?_)
              refine yR_m 1 (fun _ _ _ _ => rfl) ?_
              refine wN_add (a := (gn (ga mem 258) (c).toInt)) (b := 1) rfl e91 rfl (s4 q1 v7 k8 q9 v15 k16 q17 x23 e24 x25 e26 q27 x73 e74 x75 e76 x77 e78 q79 x80 e81 x82 e83 q84 y90 e91) (fun x92 e93 => ?_)
              refine wN_as (a := (c).toInt) rfl aR_258 hm.1.1 rfl (by omega) ?_
              have hm_3 : wI (aΘ0 E) m0 (sx mem 258 c x92) := wI_sa hE aR_258 hm (i32_b _)
              refine wN_in (a := (c).toInt) (b := 1) rfl rfl l_6 rfl rfl (by omega) (fun x94 e95 => fun lo96 e97 f98 => ?_)
              have lo96_0 := f98 0 _ (by decide) (Or.inl rfl) l_0
              have lo96_1 := f98 1 _ (by decide) (Or.inl rfl) l_1
              have lo96_2 := f98 2 _ (by decide) (Or.inl rfl) l_2
              have lo96_3 := f98 3 _ (by decide) (Or.inl rfl) l_3
              have lo96_4 := f98 4 _ (by decide) (Or.inl rfl) l_4
              have lo96_5 := f98 5 _ (by decide) (Or.inl rfl) l_5
              exact yR_m 1 (fun _ _ _ _ => rfl) (h9 q1 v7 k8 q9 v15 k16 q17 x23 e24 x25 e26 q27 x73 e74 x75 e76 x77 e78 q79 x80 e81 x82 e83 q84 y90 e91 x92 e93 x94 e95 lo96 lo96_0 lo96_1 lo96_2 lo96_3 lo96_4 lo96_5 e97 hm_3)
          ·
            refine yR_m 2 (fun _ _ _ _ => rfl) ?_
            refine wN_sub (a := ((c).toInt / 8)) (b := ((a).toInt / 8)) rfl e76 e78 (by omega) (fun x99 e100 => ?_)
            refine yR_m 1 (fun _ _ _ _ => rfl) ?_
            refine yR_ri rfl ?_
            show yR zpg tX12_lights (d + 7) (135, lo, [.int x99, .int x73], mem) _
            refine wN_add (a := (((c).toInt % 8) - ((a).toInt % 8))) (b := (((c).toInt / 8) - ((a).toInt / 8))) rfl e74 e100 (by omega) (fun x101 e102 => ?_)
            refine wR_li rfl l_4 ?_
            refine wR_ic_gt rfl (a := ((((c).toInt % 8) - ((a).toInt % 8)) + (((c).toInt / 8) - ((a).toInt / 8)))) (c := (g).toInt) e102 rfl (fun q103 => ?_) (fun q103 => ?_)
            ·
              refine wN_in (a := (c).toInt) (b := 1) rfl rfl l_6 rfl rfl (by omega) (fun x104 e105 => fun lo106 e107 f108 => ?_)
              have lo106_0 := f108 0 _ (by decide) (Or.inl rfl) l_0
              have lo106_1 := f108 1 _ (by decide) (Or.inl rfl) l_1
              have lo106_2 := f108 2 _ (by decide) (Or.inl rfl) l_2
              have lo106_3 := f108 3 _ (by decide) (Or.inl rfl) l_3
              have lo106_4 := f108 4 _ (by decide) (Or.inl rfl) l_4
              have lo106_5 := f108 5 _ (by decide) (Or.inl rfl) l_5
              exact yR_m 1 (fun _ _ _ _ => rfl) (h10 q1 v7 k8 q9 v15 k16 q17 x23 e24 x25 e26 q27 x73 e74 x75 e76 x77 e78 q79 x99 e100 x101 e102 q103 x104 e105 lo106 lo106_0 lo106_1 lo106_2 lo106_3 lo106_4 lo106_5 e107 hm)
            ·
              refine wR_la rfl l_0 ?_
              refine wR_gr rfl mO_e mO_60 hm.1.1 ?_
              refine wR_li rfl l_6 ?_
              refine yR_m 1 (fun _ _ _ _ => rfl) ?_
              refine wN_al (a := (c).toInt) rfl aR_258 hm.1.1 rfl rfl (by omega) (fun y109 e110 => ?_)
              refine yR_m 1 (fun _ _ _ _ => rfl) ?_
              refine wN_add (a := (gn (ga mem 258) (c).toInt)) (b := 1) rfl e110 rfl (s5 q1 v7 k8 q9 v15 k16 q17 x23 e24 x25 e26 q27 x73 e74 x75 e76 x77 e78 q79 x99 e100 x101 e102 q103 y109 e110) (fun x111 e112 => ?_)
              refine wN_as (a := (c).toInt) rfl aR_258 hm.1.1 rfl (by omega) ?_
              have hm_4 : wI (aΘ0 E) m0 (sx mem 258 c x111) := wI_sa hE aR_258 hm (i32_b _)
              refine wN_in (a := (c).toInt) (b := 1) rfl rfl l_6 rfl rfl (by omega) (fun x113 e114 => fun lo115 e116 f117 => ?_)
              have lo115_0 := f117 0 _ (by decide) (Or.inl rfl) l_0
              have lo115_1 := f117 1 _ (by decide) (Or.inl rfl) l_1
              have lo115_2 := f117 2 _ (by decide) (Or.inl rfl) l_2
              have lo115_3 := f117 3 _ (by decide) (Or.inl rfl) l_3
              have lo115_4 := f117 4 _ (by decide) (Or.inl rfl) l_4
              have lo115_5 := f117 5 _ (by decide) (Or.inl rfl) l_5
              exact yR_m 1 (fun _ _ _ _ => rfl) (h11 q1 v7 k8 q9 v15 k16 q17 x23 e24 x25 e26 q27 x73 e74 x75 e76 x77 e78 q79 x99 e100 x101 e102 q103 y109 e110 x111 e112 x113 e114 lo115 lo115_0 lo115_1 lo115_2 lo115_3 lo115_4 lo115_5 e116 hm_4)

theorem li_in {E : zM → Prop} (hE : aEs (aΘ0 E)) {m0 mr : zM} {d : Nat} {v bu k g a : Int32} (hz : szOK mr) (hk : 0 ≤ k.toInt ∧ k.toInt < 9) (ha : 0 ≤ a.toInt ∧ a.toInt ≤ 63) {P : Option Value → zM → Prop}
    (out : ∀ (mem : zM) (lo : List (Nat × Value)) (k' : Int32), k'.toInt = k.toInt + 1 → onl [256, 257, 258] mr mem → liB mem (fun _ => k.toInt + 1) → zlg lo 0 = some (.ref 221) → zlg lo 1 = some (.int v) → zlg lo 2 = some (.int bu) → zlg lo 3 = some (.int k') → wI (aΘ0 E) m0 mem → yR zpg tX12_lights (d + 7) (23, lo, [], mem) P) :
    ∀ (f : Nat) (c : Int32) (mem : zM) (lo : List (Nat × Value)), 64 ≤ c.toInt + (f : Int) → 0 ≤ c.toInt → c.toInt ≤ 64 → onl [256, 257, 258] mr mem → liB mem (fun j => if j < c.toInt then k.toInt + 1 else k.toInt) → zlg lo 0 = some (.ref 221) → zlg lo 1 = some (.int v) → zlg lo 2 = some (.int bu) → zlg lo 3 = some (.int k) → zlg lo 4 = some (.int g) → zlg lo 5 = some (.int a) → zlg lo 6 = some (.int c) → wI (aΘ0 E) m0 mem → yR zpg tX12_lights (d + 7) (84, lo, [], mem) P := by
  have up : ∀ (mem : zM) (c c' : Int), c' = c + 1 → liB mem (fun j => if j < c then k.toInt + 1 else k.toInt) → liB mem (fun j => if j < c' then k.toInt + 1 else k.toInt) := fun mem c c' e h j a b => by
    obtain ⟨⟨h1, h2⟩, h3⟩ := h j a b
    refine ⟨⟨h1, ?_⟩, h3⟩
    simp only at h2 ⊢
    split at h2 <;> split <;> omega
  have en : ∀ (mem : zM) (c : Int), 64 ≤ c → liB mem (fun j => if j < c then k.toInt + 1 else k.toInt) → liB mem (fun _ => k.toInt + 1) := fun mem c e h j a b => by
    obtain ⟨⟨h1, h2⟩, h3⟩ := h j a b
    refine ⟨⟨h1, ?_⟩, h3⟩
    simp only at h2 ⊢
    split at h2 <;> omega
  intro f
  induction f with
  | zero =>
    intro c mem lo hf c0 c1 ho hL l0 l1 l2 l3 l4 l5 l6 hI
    obtain ⟨-, B2, -⟩ := onl_bes ho rfl rfl rfl rfl
    exact w_li_84 hE hI l0 l1 l2 l3 l4 l5 l6 ⟨c0, c1⟩ ha ⟨hk.1, by omega⟩
        (fun q1 x2 e3 lo a0 a1 a2 a3 hI => out mem lo _ (by omega) ho (en mem _ q1 hL) a0 a1 a2 a3 hI)
        (by rw [B2]; exact hz)
        (fun q1 v7 k8 q9 x10 e11 lo a0 a1 a2 a3 a4 a5 a6 hI => by exfalso; omega)
        (fun q1 v7 k8 q9 v15 k16 q17 x18 e19 lo a0 a1 a2 a3 a4 a5 a6 hI => by exfalso; omega)
        (fun q1 v7 k8 q9 v15 k16 q17 x23 e24 x25 e26 q27 x28 e29 x30 e31 x32 e33 q34 x35 e36 x37 e38 q39 x40 e41 lo a0 a1 a2 a3 a4 a5 a6 hI => by exfalso; omega)
        (fun q1 v7 k8 q9 v15 k16 q17 x23 e24 x25 e26 q27 x28 e29 x30 e31 x32 e33 q34 x35 e36 x37 e38 q39 y45 e46 => by exfalso; omega)
        (fun q1 v7 k8 q9 v15 k16 q17 x23 e24 x25 e26 q27 x28 e29 x30 e31 x32 e33 q34 x35 e36 x37 e38 q39 y45 e46 x47 e48 x49 e50 lo a0 a1 a2 a3 a4 a5 a6 hI => by exfalso; omega)
        (fun q1 v7 k8 q9 v15 k16 q17 x23 e24 x25 e26 q27 x28 e29 x30 e31 x32 e33 q34 x54 e55 x56 e57 q58 x59 e60 lo a0 a1 a2 a3 a4 a5 a6 hI => by exfalso; omega)
        (fun q1 v7 k8 q9 v15 k16 q17 x23 e24 x25 e26 q27 x28 e29 x30 e31 x32 e33 q34 x54 e55 x56 e57 q58 y64 e65 => by exfalso; omega)
        (fun q1 v7 k8 q9 v15 k16 q17 x23 e24 x25 e26 q27 x28 e29 x30 e31 x32 e33 q34 x54 e55 x56 e57 q58 y64 e65 x66 e67 x68 e69 lo a0 a1 a2 a3 a4 a5 a6 hI => by exfalso; omega)
        (fun q1 v7 k8 q9 v15 k16 q17 x23 e24 x25 e26 q27 x73 e74 x75 e76 x77 e78 q79 x80 e81 x82 e83 q84 x85 e86 lo a0 a1 a2 a3 a4 a5 a6 hI => by exfalso; omega)
        (fun q1 v7 k8 q9 v15 k16 q17 x23 e24 x25 e26 q27 x73 e74 x75 e76 x77 e78 q79 x80 e81 x82 e83 q84 y90 e91 => by exfalso; omega)
        (fun q1 v7 k8 q9 v15 k16 q17 x23 e24 x25 e26 q27 x73 e74 x75 e76 x77 e78 q79 x80 e81 x82 e83 q84 y90 e91 x92 e93 x94 e95 lo a0 a1 a2 a3 a4 a5 a6 hI => by exfalso; omega)
        (fun q1 v7 k8 q9 v15 k16 q17 x23 e24 x25 e26 q27 x73 e74 x75 e76 x77 e78 q79 x99 e100 x101 e102 q103 x104 e105 lo a0 a1 a2 a3 a4 a5 a6 hI => by exfalso; omega)
        (fun q1 v7 k8 q9 v15 k16 q17 x23 e24 x25 e26 q27 x73 e74 x75 e76 x77 e78 q79 x99 e100 x101 e102 q103 y109 e110 => by exfalso; omega)
        (fun q1 v7 k8 q9 v15 k16 q17 x23 e24 x25 e26 q27 x73 e74 x75 e76 x77 e78 q79 x99 e100 x101 e102 q103 y109 e110 x111 e112 x113 e114 lo a0 a1 a2 a3 a4 a5 a6 hI => by exfalso; omega)
  | succ f ih =>
    intro c mem lo hf c0 c1 ho hL l0 l1 l2 l3 l4 l5 l6 hI
    obtain ⟨-, B2, -⟩ := onl_bes ho rfl rfl rfl rfl
    have gl := gl_258 hI.1.1
    have hb : c.toInt < 64 → 0 ≤ gn (ga mem 258) c.toInt ∧ gn (ga mem 258) c.toInt ≤ k.toInt := fun h => by
      have := (hL c.toInt c0 h).1
      simp only [Int.lt_irrefl, if_false] at this
      exact this
    have st : ∀ (x : Int32) (c' : Int), c.toInt < 64 → inC mem (c.toInt % 8) (c.toInt / 8) → ¬ wal mem c.toInt → x.toInt = gn (ga mem 258) c.toInt + 1 → c' = c.toInt + 1 → liB (sx mem 258 c x) (fun j => if j < c' then k.toInt + 1 else k.toInt) := fun x c' h1 h2 h3 h4 h5 j a b => by
      obtain ⟨-, -, B3⟩ := onl_bes (m := mem) (m' := sx mem 258 c x) (ks := [258]) (onl_sa rfl onl_rf) rfl rfl rfl rfl
      rw [ga_sa_eq, gn_set rfl c0 (by omega) a, B3]
      obtain ⟨⟨q1, q2⟩, q3⟩ := hL j a b
      have q4 := hb h1
      simp only at q2 ⊢
      split
      · next w =>
        rw [w]
        refine ⟨⟨by omega, ?_⟩, fun _ => ⟨h2, ?_⟩⟩
        · rw [if_pos (by omega)]
          omega
        · rw [show 8 * (c.toInt / 8) + c.toInt % 8 = c.toInt by omega]
          exact h3
      · refine ⟨⟨q1, ?_⟩, q3⟩
        split at q2 <;> split <;> omega
    exact w_li_84 hE hI l0 l1 l2 l3 l4 l5 l6 ⟨c0, c1⟩ ha ⟨hk.1, by omega⟩
        (fun q1 x2 e3 lo a0 a1 a2 a3 hI => out mem lo _ (by omega) ho (en mem _ q1 hL) a0 a1 a2 a3 hI)
        (by rw [B2]; exact hz)
        (fun q1 v7 k8 q9 x10 e11 lo a0 a1 a2 a3 a4 a5 a6 hI => ih _ mem lo (by omega) (by omega) (by omega) ho (up mem _ _ (by omega) hL) a0 a1 a2 a3 a4 a5 a6 hI)
        (fun q1 v7 k8 q9 v15 k16 q17 x18 e19 lo a0 a1 a2 a3 a4 a5 a6 hI => ih _ mem lo (by omega) (by omega) (by omega) ho (up mem _ _ (by omega) hL) a0 a1 a2 a3 a4 a5 a6 hI)
        (fun q1 v7 k8 q9 v15 k16 q17 x23 e24 x25 e26 q27 x28 e29 x30 e31 x32 e33 q34 x35 e36 x37 e38 q39 x40 e41 lo a0 a1 a2 a3 a4 a5 a6 hI => ih _ mem lo (by omega) (by omega) (by omega) ho (up mem _ _ (by omega) hL) a0 a1 a2 a3 a4 a5 a6 hI)
        (fun q1 v7 k8 q9 v15 k16 q17 x23 e24 x25 e26 q27 x28 e29 x30 e31 x32 e33 q34 x35 e36 x37 e38 q39 y45 e46 => by have H := hb q1; omega)
        (fun q1 v7 k8 q9 v15 k16 q17 x23 e24 x25 e26 q27 x28 e29 x30 e31 x32 e33 q34 x35 e36 x37 e38 q39 y45 e46 x47 e48 x49 e50 lo a0 a1 a2 a3 a4 a5 a6 hI => ih _ _ lo (by omega) (by omega) (by omega) (onl_sa rfl ho) (st x47 _ q1 (isB_1 k8 q9) (isB_0 k16 q17) (by omega) (by omega)) a0 a1 a2 a3 a4 a5 a6 hI)
        (fun q1 v7 k8 q9 v15 k16 q17 x23 e24 x25 e26 q27 x28 e29 x30 e31 x32 e33 q34 x54 e55 x56 e57 q58 x59 e60 lo a0 a1 a2 a3 a4 a5 a6 hI => ih _ mem lo (by omega) (by omega) (by omega) ho (up mem _ _ (by omega) hL) a0 a1 a2 a3 a4 a5 a6 hI)
        (fun q1 v7 k8 q9 v15 k16 q17 x23 e24 x25 e26 q27 x28 e29 x30 e31 x32 e33 q34 x54 e55 x56 e57 q58 y64 e65 => by have H := hb q1; omega)
        (fun q1 v7 k8 q9 v15 k16 q17 x23 e24 x25 e26 q27 x28 e29 x30 e31 x32 e33 q34 x54 e55 x56 e57 q58 y64 e65 x66 e67 x68 e69 lo a0 a1 a2 a3 a4 a5 a6 hI => ih _ _ lo (by omega) (by omega) (by omega) (onl_sa rfl ho) (st x66 _ q1 (isB_1 k8 q9) (isB_0 k16 q17) (by omega) (by omega)) a0 a1 a2 a3 a4 a5 a6 hI)
        (fun q1 v7 k8 q9 v15 k16 q17 x23 e24 x25 e26 q27 x73 e74 x75 e76 x77 e78 q79 x80 e81 x82 e83 q84 x85 e86 lo a0 a1 a2 a3 a4 a5 a6 hI => ih _ mem lo (by omega) (by omega) (by omega) ho (up mem _ _ (by omega) hL) a0 a1 a2 a3 a4 a5 a6 hI)
        (fun q1 v7 k8 q9 v15 k16 q17 x23 e24 x25 e26 q27 x73 e74 x75 e76 x77 e78 q79 x80 e81 x82 e83 q84 y90 e91 => by have H := hb q1; omega)
        (fun q1 v7 k8 q9 v15 k16 q17 x23 e24 x25 e26 q27 x73 e74 x75 e76 x77 e78 q79 x80 e81 x82 e83 q84 y90 e91 x92 e93 x94 e95 lo a0 a1 a2 a3 a4 a5 a6 hI => ih _ _ lo (by omega) (by omega) (by omega) (onl_sa rfl ho) (st x92 _ q1 (isB_1 k8 q9) (isB_0 k16 q17) (by omega) (by omega)) a0 a1 a2 a3 a4 a5 a6 hI)
        (fun q1 v7 k8 q9 v15 k16 q17 x23 e24 x25 e26 q27 x73 e74 x75 e76 x77 e78 q79 x99 e100 x101 e102 q103 x104 e105 lo a0 a1 a2 a3 a4 a5 a6 hI => ih _ mem lo (by omega) (by omega) (by omega) ho (up mem _ _ (by omega) hL) a0 a1 a2 a3 a4 a5 a6 hI)
        (fun q1 v7 k8 q9 v15 k16 q17 x23 e24 x25 e26 q27 x73 e74 x75 e76 x77 e78 q79 x99 e100 x101 e102 q103 y109 e110 => by have H := hb q1; omega)
        (fun q1 v7 k8 q9 v15 k16 q17 x23 e24 x25 e26 q27 x73 e74 x75 e76 x77 e78 q79 x99 e100 x101 e102 q103 y109 e110 x111 e112 x113 e114 lo a0 a1 a2 a3 a4 a5 a6 hI => ih _ _ lo (by omega) (by omega) (by omega) (onl_sa rfl ho) (st x111 _ q1 (isB_1 k8 q9) (isB_0 k16 q17) (by omega) (by omega)) a0 a1 a2 a3 a4 a5 a6 hI)
theorem li_out {E : zM → Prop} (hE : aEs (aΘ0 E)) (hQ : ∀ mem, aJ (aΘ0 E) mem → cdOK mem) {m0 mr : zM} {d : Nat} {v bu : Int32} (hv : 0 ≤ v.toInt ∧ v.toInt ≤ 21) (hz : szOK mr) : ∀ (f : Nat) (k : Int32) (mem : zM) (lo : List (Nat × Value)), 10 ≤ k.toInt + (f : Int) → 0 ≤ k.toInt → k.toInt ≤ 9 → onl [256, 257, 258] mr mem → liB mem (fun _ => k.toInt) → zlg lo 0 = some (.ref 221) → zlg lo 1 = some (.int v) → zlg lo 2 = some (.int bu) → zlg lo 3 = some (.int k) → wI (aΘ0 E) m0 mem → yR zpg tX12_lights (d + 7) (23, lo, [], mem) (fun r m => r = none ∧ wI (aΘ0 E) m0 m ∧ onl [256, 257, 258] mr m ∧ litOK m) := by
  have up : ∀ (mem : zM) (k k' : Int), k' = k + 1 → liB mem (fun _ => k) → liB mem (fun _ => k') := fun mem k k' e h j a b => by
    obtain ⟨⟨h1, h2⟩, h3⟩ := h j a b
    simp only at h2
    exact ⟨⟨h1, by show _ ≤ k'; omega⟩, h3⟩
  intro f
  induction f with
  | zero =>
    intro k mem lo hf k0 k1 ho hL l0 l1 l2 l3 hI
    omega
  | succ f ih =>
    intro k mem lo hf k0 k1 ho hL l0 l1 l2 l3 hI
    obtain ⟨b0, b1⟩ := mO_r13 hI.1.1
    have th := gR_228 hI.1.1 (i := (gi mem 221 13).toInt) b0 (by omega)
    exact w_li_23 hE hI l0 l1 l2 l3 hQ hv ⟨k0, k1⟩
        (fun y1 e2 q3 hI => ⟨rfl, hI, ho, fun c a b => ⟨(hL c a b).1.1, (hL c a b).2⟩⟩)
        (fun y1 e2 q3 y4 e5 q6 x7 e8 lo a0 a1 a2 a3 hI => ih _ mem lo (by omega) (by omega) (by omega) ho (up mem _ _ (by omega) hL) a0 a1 a2 a3 hI)
        (fun y1 e2 q3 y4 e5 q6 q12 v15 m13 hI13 k14 x19 e20 x21 e22 y23 e24 lo a0 a1 a2 a3 a4 a5 a6 hI => by
          have hom : onl [256, 257, 258] mr m13 := onl_tr ho (onl_up k14 rfl)
          have bb := mO_r13 hI13.1.1
          have aa := gR_229 hI13.1.1 (i := 9 * (gi m13 221 13).toInt + k.toInt) (by omega) (by omega)
          obtain ⟨-, -, B3⟩ := onl_bes k14 rfl rfl rfl rfl
          have hL2 : liB m13 (fun j => if j < (0 : Int32).toInt then k.toInt + 1 else k.toInt) := fun j a b => by
            obtain ⟨⟨h1, h2⟩, h3⟩ := hL j a b
            rw [onl_ga k14 rfl, B3]
            refine ⟨⟨h1, ?_⟩, h3⟩
            have z0 : (0 : Int32).toInt = 0 := rfl
            simp only at h2 ⊢
            rw [z0]
            split <;> omega
          exact li_in hE hz ⟨k0, by omega⟩ (by omega) (fun mem lo k' e h1 h2 b0 b1 b2 b3 hI => ih k' mem lo (by omega) (by omega) (by omega) h1 (by rw [e]; exact h2) b0 b1 b2 b3 hI) 64 0 m13 lo (by decide) (by decide) (by decide) hom hL2 a0 a1 a2 a3 a4 a5 a6 hI)
        (fun y1 e2 q3 y4 e5 q6 q12 x31 e32 lo a0 a1 a2 a3 hI => ih _ mem lo (by omega) (by omega) (by omega) ho (up mem _ _ (by omega) hL) a0 a1 a2 a3 hI)
theorem li_zero {E : zM → Prop} (hE : aEs (aΘ0 E)) (hQ : ∀ mem, aJ (aΘ0 E) mem → cdOK mem) {m0 mr : zM} {d : Nat} {v bu : Int32} (hv : 0 ≤ v.toInt ∧ v.toInt ≤ 21) (hz : szOK mr) : ∀ (f : Nat) (c : Int32) (mem : zM) (lo : List (Nat × Value)), 64 ≤ c.toInt + (f : Int) → 0 ≤ c.toInt → c.toInt ≤ 64 → onl [256, 257, 258] mr mem → (∀ j, 0 ≤ j → j < c.toInt → gn (ga mem 258) j = 0) → zlg lo 0 = some (.ref 221) → zlg lo 1 = some (.int v) → zlg lo 2 = some (.int bu) → zlg lo 3 = some (.int c) → wI (aΘ0 E) m0 mem → yR zpg tX12_lights (d + 7) (2, lo, [], mem) (fun r m => r = none ∧ wI (aΘ0 E) m0 m ∧ onl [256, 257, 258] mr m ∧ litOK m) := by
  intro f
  induction f with
  | zero =>
    intro c mem lo hf c0 c1 ho hj l0 l1 l2 l3 hI
    exact w_li_2 hE hI l0 l1 l2 l3 ⟨c0, c1⟩
        (fun q1 lo a0 a1 a2 a3 hI => li_out hE hQ hv hz 10 0 mem lo (by decide) (by decide) (by decide) ho (fun j a b => by have h := hj j a (by omega); refine ⟨⟨by omega, ?_⟩, fun q => by omega⟩; rw [h]; show (0 : Int) ≤ (0 : Int32).toInt; decide) a0 a1 a2 a3 hI)
        (fun q1 x5 e6 lo a0 a1 a2 a3 hI => by exfalso; omega)
  | succ f ih =>
    intro c mem lo hf c0 c1 ho hj l0 l1 l2 l3 hI
    have gl := gl_258 hI.1.1
    exact w_li_2 hE hI l0 l1 l2 l3 ⟨c0, c1⟩
        (fun q1 lo a0 a1 a2 a3 hI => li_out hE hQ hv hz 10 0 mem lo (by decide) (by decide) (by decide) ho (fun j a b => by have h := hj j a (by omega); refine ⟨⟨by omega, ?_⟩, fun q => by omega⟩; rw [h]; show (0 : Int) ≤ (0 : Int32).toInt; decide) a0 a1 a2 a3 hI)
        (fun q1 x5 e6 lo a0 a1 a2 a3 hI => ih _ _ lo (by omega) (by omega) (by omega) (onl_sa rfl ho) (fun j a b => by
          rw [ga_sa_eq, gn_set rfl c0 (by omega) a]
          split
          · rfl
          · exact hj j a (by omega)) a0 a1 a2 a3 hI)
theorem h_lights {E : zM → Prop} (hE : aEs (aΘ0 E)) (hQ : ∀ mem, aJ (aΘ0 E) mem → cdOK mem) {m0 mem : zM} {d : Nat} (hd : 8 ≤ d) {v bu : Int32} (hv : 0 ≤ v.toInt ∧ v.toInt ≤ 21) (hI : wI (aΘ0 E) m0 mem) (hz : szOK mem) : yC zpg d 228 [.ref 221, .int v, .int bu] mem (fun r m => r = none ∧ wI (aΘ0 E) m0 m ∧ onl [256, 257, 258] mem m ∧ litOK m) := by
  obtain ⟨d, rfl⟩ : ∃ q, d = q + 8 := ⟨d - 8, by omega⟩
  refine yC_of (t := tX12_lights) rfl rfl ?_
  exact w_li_0 hE hI rfl rfl rfl
        (fun lo a0 a1 a2 a3 hI => li_zero hE hQ hv hz 64 0 mem lo (by decide) (by decide) (by decide) onl_rf (fun j a b => by have : (0 : Int32).toInt = 0 := rfl; omega) a0 a1 a2 a3 hI)
