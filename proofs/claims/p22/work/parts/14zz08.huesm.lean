/-! hues by what is met: the model (what it leaves as it is) -/
section HBM
variable {d : Nat} {mem m a b c mr : zM} {Q : Qd} {S : Sd} {K : Kd} {hu : Int → Int} {P : Option Value → zM → Prop}
theorem set_gd {l : List Int32} {i : Nat} (hi : i < l.length) : l.set i (l.getD i 0) = l := by
  rw [List.getD_eq_getElem?_getD, List.getElem?_eq_getElem hi]
  exact List.set_getElem_self hi
/-- as F1, but for the supposed hue of one -/
def F2 (t : Int32) (a b : zM) : Prop := (∀ k, k ≤ 248 → zat b k = zat a k) ∧ oLl 1 a b ∧ ∃ x : Int32, ga b 255 = (ga a 255).set t.toNatClampNeg x
theorem F2_rf {t : Int32} (hi : t.toNatClampNeg < (ga a 255).length) : F2 t a a := ⟨fun _ _ => rfl, oLl_q rfl rfl rfl rfl rfl rfl, _, (set_gd hi).symm⟩
theorem F2_1 {t : Int32} (h : F2 t a b) (k : F1 b c) : F2 t a c := by
  obtain ⟨h1, h2, x, h3⟩ := h
  exact ⟨fun q hq => (k.1 q hq).trans (h1 q hq), oLl_tr h2 k.2.1, x, k.2.2.trans h3⟩
theorem F2_s {t x : Int32} (h : F2 t a b) : F2 t a (sx b 255 t x) := by
  obtain ⟨h1, h2, y, h3⟩ := h
  refine ⟨fun q hq => (zat_sa_ne (by omega)).trans (h1 q hq), oLl_tr h2 (oLl_q (ga_sa_ne (by decide)) (ga_sa_ne (by decide)) (ga_sa_ne (by decide)) (ga_sa_ne (by decide)) (ga_sa_ne (by decide)) (ga_sa_ne (by decide))), x, ?_⟩
  show ga (sa b 255 t.toNatClampNeg x) 255 = _
  rw [ga_sa_eq, h3, List.set_set]
theorem F2_c {t x : Int32} {j : Nat} (h : F2 t a b) : F2 t a (sa b 267 j x) := by
  obtain ⟨h1, h2, y, h3⟩ := h
  exact ⟨fun q hq => (zat_sa_ne (by omega)).trans (h1 q hq), oLl_tr h2 (oLl_q (ga_sa_ne (by decide)) (ga_sa_ne (by decide)) (ga_sa_ne (by decide)) (ga_sa_ne (by decide)) (ga_sa_ne (by decide)) (ga_sa_ne (by decide))), y, (ga_sa_ne (by decide)).trans h3⟩
theorem F2_e {t y : Int32} (h : F2 t a b) (hi : t.toNatClampNeg < (ga a 255).length) (t0 : 0 ≤ t.toInt) (hy : y.toInt = gn (ga a 255) t.toInt) : F1 a (sx b 255 t y) := by
  obtain ⟨h1, h2, x, h3⟩ := h
  have tc := zclamp t0
  have e : y = (ga a 255).getD t.toNatClampNeg 0 := by
    unfold gn at hy
    rw [show t.toInt.toNat = t.toNatClampNeg by omega] at hy
    exact Int32.toInt_inj.1 hy
  refine ⟨fun q hq => (zat_sa_ne (by omega)).trans (h1 q hq), oLl_tr h2 (oLl_q (ga_sa_ne (by decide)) (ga_sa_ne (by decide)) (ga_sa_ne (by decide)) (ga_sa_ne (by decide)) (ga_sa_ne (by decide)) (ga_sa_ne (by decide))), ?_⟩
  show ga (sa b 255 t.toNatClampNeg y) 255 = _
  rw [ga_sa_eq, h3, List.set_set, e, set_gd hi]
theorem F2_B {t : Int32} (h : F2 t a b) (hM : mB Q a) : mB Q b := mB_zat (gi_zq (h.1 221 (by decide))) (gi_zq (h.1 221 (by decide))) (fun k h1 h2 => h.1 k (by omega)) hM
theorem F2_k {t : Int32} (h : F2 t a b) (hK : kM 0 K a) : kM 0 K b := kM_l (by decide) (by decide) (by decide) h.2.1 hK
theorem F2_0 {t : Int32} (hW : WQ Q) (h : F2 t a b) (hS : tM 0 Q hu S a) : tM 0 Q (fun u => gn (ga b 255) u) S b := by
  obtain ⟨o1, o2, o3, -⟩ := h.2.1
  obtain ⟨⟨s9, s0⟩, s1, s2, -⟩ := hS
  have n9 : thN Q ≤ 9 := by
    have := hW.2.1.1
    unfold thN
    omega
  have n6 : foN Q ≤ 6 := by
    have := hW.2.1.2.1
    unfold foN
    omega
  exact ⟨⟨(o1 0 (by decide) (by decide)).1.trans s9, (o1 0 (by decide) (by decide)).2.trans s0⟩, fun u u0 u1 => (o2 _ (by omega) (by omega)).trans (s1 u u0 u1), fun u u0 u1 => (o3 _ (by omega) (by omega)).trans (s2 u u0 u1), fun _ _ _ => rfl⟩
theorem X1_h {h2 : Int → Int} (hX : X1 Q hu S b) (e : ∀ q, ¬ q = 255 → ga c q = ga b q) (eh : ∀ u, 0 ≤ u → u < thN Q → gn (ga c 255) u = h2 u) : X1 Q h2 S c := by
  obtain ⟨⟨⟨s9, s0⟩, s1, s2, -⟩, K, hK⟩ := hX
  refine ⟨⟨⟨by rw [e 249 (by decide)]; exact s9, by rw [e 250 (by decide)]; exact s0⟩, fun u u0 u1 => by rw [e 251 (by decide)]; exact s1 u u0 u1, fun u u0 u1 => by rw [e 252 (by decide)]; exact s2 u u0 u1, eh⟩, K, kM_q (e 253 (by decide)) (e 254 (by decide)) hK⟩
theorem X1_c {j : Nat} {x : Int32} (hX : X1 Q hu S b) : X1 Q hu S (sa b 267 j x) := by
  have e : ∀ q, ¬ q = 267 → ga (sa b 267 j x) q = ga b q := fun q hq => ga_sa_ne (fun w => hq w.symm)
  obtain ⟨⟨⟨s9, s0⟩, s1, s2, s5⟩, K, hK⟩ := hX
  refine ⟨⟨⟨by rw [e 249 (by decide)]; exact s9, by rw [e 250 (by decide)]; exact s0⟩, fun u u0 u1 => by rw [e 251 (by decide)]; exact s1 u u0 u1, fun u u0 u1 => by rw [e 252 (by decide)]; exact s2 u u0 u1, fun u u0 u1 => by rw [e 255 (by decide)]; exact s5 u u0 u1⟩, K, kM_q (e 253 (by decide)) (e 254 (by decide)) hK⟩
set_option maxRecDepth 100000 in
theorem w_mb0 {d : Nat} {mem : zM} {P : Option Value → zM → Prop} {se k f : Int32} {lo : List (Nat × Value)} (hm : aTm aT0 mem) (l_0 : zlg lo 0 = some (.ref 221)) (l_1 : zlg lo 1 = some (.int se)) (l_2 : zlg lo 2 = some (.int k)) (l_3 : zlg lo 3 = some (.int f)) (h1 : ∀ lo, zlg lo 0 = some (.ref 221) → zlg lo 1 = some (.int se) → zlg lo 2 = some (.int k) → zlg lo 3 = some (.int f) → zlg lo 4 = some (.int 0) → zlg lo 5 = some (.int 0) → aTm aT0 mem → yR zpg tX12_mostBy (d + 2) (6, lo, [], mem) P) : yR zpg tX12_mostBy (d + 2) (0, lo, [], mem) P := by
  refine yR_m 1 (fun _ _ _ _ => rfl) ?_
  refine wR_si rfl rfl (fun lo1 e2 f3 => ?_)
  have lo1_0 := f3 0 _ (by decide) (Or.inl rfl) l_0
  have lo1_1 := f3 1 _ (by decide) (Or.inl rfl) l_1
  have lo1_2 := f3 2 _ (by decide) (Or.inl rfl) l_2
  have lo1_3 := f3 3 _ (by decide) (Or.inl rfl) l_3
  refine yR_m 1 (fun _ _ _ _ => rfl) ?_
  refine wR_si rfl rfl (fun lo4 e5 f6 => ?_)
  have lo4_4 := f6 4 _ (by decide) (Or.inl rfl) e2
  have lo4_0 := f6 0 _ (by decide) (Or.inl rfl) lo1_0
  have lo4_1 := f6 1 _ (by decide) (Or.inl rfl) lo1_1
  have lo4_2 := f6 2 _ (by decide) (Or.inl rfl) lo1_2
  have lo4_3 := f6 3 _ (by decide) (Or.inl rfl) lo1_3
  exact h1 lo4 lo4_0 lo4_1 lo4_2 lo4_3 lo4_4 e5 hm

set_option maxRecDepth 100000 in
theorem w_mb6 {d : Nat} {mem : zM} {P : Option Value → zM → Prop} {se k f mo aa : Int32} {lo : List (Nat × Value)} (hm : aTm aT0 mem) (l_0 : zlg lo 0 = some (.ref 221)) (l_1 : zlg lo 1 = some (.int se)) (l_2 : zlg lo 2 = some (.int k)) (l_3 : zlg lo 3 = some (.int f)) (l_4 : zlg lo 4 = some (.int mo)) (l_5 : zlg lo 5 = some (.int aa)) (h1 : 9 ≤ (aa).toInt → aTm aT0 mem → P (some (.int mo)) mem) (h2 : (aa).toInt < 9 → ∀ lo, zlg lo 0 = some (.ref 221) → zlg lo 1 = some (.int se) → zlg lo 2 = some (.int k) → zlg lo 3 = some (.int f) → zlg lo 4 = some (.int mo) → zlg lo 5 = some (.int aa) → zlg lo 6 = some (.int 0) → zlg lo 7 = some (.int 0) → aTm aT0 mem → yR zpg tX12_mostBy (d + 2) (19, lo, [], mem) P) : yR zpg tX12_mostBy (d + 2) (6, lo, [], mem) P := by
  refine wR_li rfl l_5 ?_
  refine yR_m 1 (fun _ _ _ _ => rfl) ?_
  refine wR_ic_ge rfl (a := (aa).toInt) (c := 9) rfl rfl (fun q1 => ?_) (fun q1 => ?_)
  ·
    refine wR_li rfl l_4 ?_
    exact yR_ri rfl (h1 q1 hm)
  ·
    refine yR_m 1 (fun _ _ _ _ => rfl) ?_
    refine wR_si rfl rfl (fun lo2 e3 f4 => ?_)
    have lo2_0 := f4 0 _ (by decide) (Or.inl rfl) l_0
    have lo2_1 := f4 1 _ (by decide) (Or.inl rfl) l_1
    have lo2_2 := f4 2 _ (by decide) (Or.inl rfl) l_2
    have lo2_3 := f4 3 _ (by decide) (Or.inl rfl) l_3
    have lo2_4 := f4 4 _ (by decide) (Or.inl rfl) l_4
    have lo2_5 := f4 5 _ (by decide) (Or.inl rfl) l_5
    refine yR_m 1 (fun _ _ _ _ => rfl) ?_
    refine wR_si rfl rfl (fun lo5 e6 f7 => ?_)
    have lo5_6 := f7 6 _ (by decide) (Or.inl rfl) e3
    have lo5_0 := f7 0 _ (by decide) (Or.inl rfl) lo2_0
    have lo5_1 := f7 1 _ (by decide) (Or.inl rfl) lo2_1
    have lo5_2 := f7 2 _ (by decide) (Or.inl rfl) lo2_2
    have lo5_3 := f7 3 _ (by decide) (Or.inl rfl) lo2_3
    have lo5_4 := f7 4 _ (by decide) (Or.inl rfl) lo2_4
    have lo5_5 := f7 5 _ (by decide) (Or.inl rfl) lo2_5
    exact h2 q1 lo5 lo5_0 lo5_1 lo5_2 lo5_3 lo5_4 lo5_5 lo5_6 e6 hm

set_option maxRecDepth 100000 in
theorem w_mb19 {d : Nat} {mem : zM} {P : Option Value → zM → Prop} {se k f mo aa nn bb : Int32} {lo : List (Nat × Value)} (hm : aTm aT0 mem) (l_0 : zlg lo 0 = some (.ref 221)) (l_1 : zlg lo 1 = some (.int se)) (l_2 : zlg lo 2 = some (.int k)) (l_3 : zlg lo 3 = some (.int f)) (l_4 : zlg lo 4 = some (.int mo)) (l_5 : zlg lo 5 = some (.int aa)) (l_6 : zlg lo 6 = some (.int nn)) (l_7 : zlg lo 7 = some (.int bb)) (hk : 0 ≤ k.toInt ∧ k.toInt ≤ 30) (hf : 0 ≤ f.toInt ∧ f.toInt ≤ 5) (ha : 0 ≤ aa.toInt ∧ aa.toInt ≤ 8) (hb : 0 ≤ bb.toInt ∧ bb.toInt ≤ 9) (hn : 0 ≤ nn.toInt ∧ nn.toInt ≤ bb.toInt) (h1 : 9 ≤ (bb).toInt → (nn).toInt ≤ (mo).toInt → ∀ (x6 : Int32), x6.toInt = ((aa).toInt + 1) → ∀ lo, zlg lo 0 = some (.ref 221) → zlg lo 1 = some (.int se) → zlg lo 2 = some (.int k) → zlg lo 3 = some (.int f) → zlg lo 4 = some (.int mo) → zlg lo 5 = some (.int x6) → aTm aT0 mem → yR zpg tX12_mostBy (d + 2) (6, lo, [], mem) P) (h2 : 9 ≤ (bb).toInt → (mo).toInt < (nn).toInt → ∀ (x14 : Int32), x14.toInt = ((aa).toInt + 1) → ∀ lo, zlg lo 0 = some (.ref 221) → zlg lo 1 = some (.int se) → zlg lo 2 = some (.int k) → zlg lo 3 = some (.int f) → zlg lo 4 = some (.int nn) → zlg lo 5 = some (.int x14) → aTm aT0 mem → yR zpg tX12_mostBy (d + 2) (6, lo, [], mem) P) (h3 : (bb).toInt < 9 → ¬ ((se >>> (aa &&& 31)) &&& 1).toInt = 1 → ∀ (x20 : Int32), x20.toInt = ((nn).toInt + 0) → ∀ (x25 : Int32), x25.toInt = ((bb).toInt + 1) → ∀ lo, zlg lo 0 = some (.ref 221) → zlg lo 1 = some (.int se) → zlg lo 2 = some (.int k) → zlg lo 3 = some (.int f) → zlg lo 4 = some (.int mo) → zlg lo 5 = some (.int aa) → zlg lo 6 = some (.int x20) → zlg lo 7 = some (.int x25) → aTm aT0 mem → yR zpg tX12_mostBy (d + 2) (19, lo, [], mem) P) (h4 : (bb).toInt < 9 → ((se >>> (aa &&& 31)) &&& 1).toInt = 1 → ¬ ((se >>> (bb &&& 31)) &&& 1).toInt = 1 → ∀ (x31 : Int32), x31.toInt = ((nn).toInt + 0) → ∀ (x36 : Int32), x36.toInt = ((bb).toInt + 1) → ∀ lo, zlg lo 0 = some (.ref 221) → zlg lo 1 = some (.int se) → zlg lo 2 = some (.int k) → zlg lo 3 = some (.int f) → zlg lo 4 = some (.int mo) → zlg lo 5 = some (.int aa) → zlg lo 6 = some (.int x31) → zlg lo 7 = some (.int x36) → aTm aT0 mem → yR zpg tX12_mostBy (d + 2) (19, lo, [], mem) P) (h5 : (bb).toInt < 9 → ((se >>> (aa &&& 31)) &&& 1).toInt = 1 → ((se >>> (bb &&& 31)) &&& 1).toInt = 1 → ∀ (x41 : Int32), x41.toInt = (31 * (aa).toInt) → ∀ (x43 : Int32), x43.toInt = ((31 * (aa).toInt) + (k).toInt) → ∀ (x45 : Int32), x45.toInt = (6 * ((31 * (aa).toInt) + (k).toInt)) → ∀ (x47 : Int32), x47.toInt = ((6 * ((31 * (aa).toInt) + (k).toInt)) + (f).toInt) → ∀ (y49 : Int32), y49.toInt = (gn (ga mem 267) ((6 * ((31 * (aa).toInt) + (k).toInt)) + (f).toInt)) → ∀ (x51 : Int32), x51.toInt = (31 * (bb).toInt) → ∀ (x53 : Int32), x53.toInt = ((31 * (bb).toInt) + (k).toInt) → ∀ (x55 : Int32), x55.toInt = (6 * ((31 * (bb).toInt) + (k).toInt)) → ∀ (x57 : Int32), x57.toInt = ((6 * ((31 * (bb).toInt) + (k).toInt)) + (f).toInt) → ∀ (y59 : Int32), y59.toInt = (gn (ga mem 267) ((6 * ((31 * (bb).toInt) + (k).toInt)) + (f).toInt)) → ¬ (gn (ga mem 267) ((6 * ((31 * (aa).toInt) + (k).toInt)) + (f).toInt)) = (gn (ga mem 267) ((6 * ((31 * (bb).toInt) + (k).toInt)) + (f).toInt)) → ∀ (x62 : Int32), x62.toInt = ((nn).toInt + 0) → ∀ (x67 : Int32), x67.toInt = ((bb).toInt + 1) → ∀ lo, zlg lo 0 = some (.ref 221) → zlg lo 1 = some (.int se) → zlg lo 2 = some (.int k) → zlg lo 3 = some (.int f) → zlg lo 4 = some (.int mo) → zlg lo 5 = some (.int aa) → zlg lo 6 = some (.int x62) → zlg lo 7 = some (.int x67) → aTm aT0 mem → yR zpg tX12_mostBy (d + 2) (19, lo, [], mem) P) (h6 : (bb).toInt < 9 → ((se >>> (aa &&& 31)) &&& 1).toInt = 1 → ((se >>> (bb &&& 31)) &&& 1).toInt = 1 → ∀ (x41 : Int32), x41.toInt = (31 * (aa).toInt) → ∀ (x43 : Int32), x43.toInt = ((31 * (aa).toInt) + (k).toInt) → ∀ (x45 : Int32), x45.toInt = (6 * ((31 * (aa).toInt) + (k).toInt)) → ∀ (x47 : Int32), x47.toInt = ((6 * ((31 * (aa).toInt) + (k).toInt)) + (f).toInt) → ∀ (y49 : Int32), y49.toInt = (gn (ga mem 267) ((6 * ((31 * (aa).toInt) + (k).toInt)) + (f).toInt)) → ∀ (x51 : Int32), x51.toInt = (31 * (bb).toInt) → ∀ (x53 : Int32), x53.toInt = ((31 * (bb).toInt) + (k).toInt) → ∀ (x55 : Int32), x55.toInt = (6 * ((31 * (bb).toInt) + (k).toInt)) → ∀ (x57 : Int32), x57.toInt = ((6 * ((31 * (bb).toInt) + (k).toInt)) + (f).toInt) → ∀ (y59 : Int32), y59.toInt = (gn (ga mem 267) ((6 * ((31 * (bb).toInt) + (k).toInt)) + (f).toInt)) → (gn (ga mem 267) ((6 * ((31 * (aa).toInt) + (k).toInt)) + (f).toInt)) = (gn (ga mem 267) ((6 * ((31 * (bb).toInt) + (k).toInt)) + (f).toInt)) → ∀ (x72 : Int32), x72.toInt = ((nn).toInt + 1) → ∀ (x77 : Int32), x77.toInt = ((bb).toInt + 1) → ∀ lo, zlg lo 0 = some (.ref 221) → zlg lo 1 = some (.int se) → zlg lo 2 = some (.int k) → zlg lo 3 = some (.int f) → zlg lo 4 = some (.int mo) → zlg lo 5 = some (.int aa) → zlg lo 6 = some (.int x72) → zlg lo 7 = some (.int x77) → aTm aT0 mem → yR zpg tX12_mostBy (d + 2) (19, lo, [], mem) P) : yR zpg tX12_mostBy (d + 2) (19, lo, [], mem) P := by
  refine wR_li rfl l_7 ?_
  refine yR_m 1 (fun _ _ _ _ => rfl) ?_
  refine wR_ic_ge rfl (a := (bb).toInt) (c := 9) rfl rfl (fun q1 => ?_) (fun q1 => ?_)
  ·
    refine wR_li rfl l_6 ?_
    refine wR_li rfl l_4 ?_
    refine wR_ic_le rfl (a := (nn).toInt) (c := (mo).toInt) rfl rfl (fun q2 => ?_) (fun q2 => ?_)
    ·
      refine wR_li rfl l_4 ?_
      refine wR_si rfl rfl (fun lo3 e4 f5 => ?_)
      have lo3_0 := f5 0 _ (by decide) (Or.inl rfl) l_0
      have lo3_1 := f5 1 _ (by decide) (Or.inl rfl) l_1
      have lo3_2 := f5 2 _ (by decide) (Or.inl rfl) l_2
      have lo3_3 := f5 3 _ (by decide) (Or.inl rfl) l_3
      have lo3_5 := f5 5 _ (by decide) (Or.inl rfl) l_5
      have lo3_6 := f5 6 _ (by decide) (Or.inl rfl) l_6
      have lo3_7 := f5 7 _ (by decide) (Or.inl rfl) l_7
      refine wN_in (a := (aa).toInt) (b := 1) rfl rfl lo3_5 rfl rfl (by omega) (fun x6 e7 => fun lo8 e9 f10 => ?_)
      have lo8_4 := f10 4 _ (by decide) (Or.inl rfl) e4
      have lo8_0 := f10 0 _ (by decide) (Or.inl rfl) lo3_0
      have lo8_1 := f10 1 _ (by decide) (Or.inl rfl) lo3_1
      have lo8_2 := f10 2 _ (by decide) (Or.inl rfl) lo3_2
      have lo8_3 := f10 3 _ (by decide) (Or.inl rfl) lo3_3
      have lo8_6 := f10 6 _ (by decide) (Or.inl rfl) lo3_6
      have lo8_7 := f10 7 _ (by decide) (Or.inl rfl) lo3_7
      exact yR_m 1 (fun _ _ _ _ => rfl) (h1 q1 q2 x6 e7 lo8 lo8_0 lo8_1 lo8_2 lo8_3 lo8_4 e9 hm)
    ·
      refine wR_li rfl l_6 ?_
      refine yR_m 1 (fun _ _ _ _ => rfl) ?_
      refine wR_si rfl rfl (fun lo11 e12 f13 => ?_)
      have lo11_0 := f13 0 _ (by decide) (Or.inl rfl) l_0
      have lo11_1 := f13 1 _ (by decide) (Or.inl rfl) l_1
      have lo11_2 := f13 2 _ (by decide) (Or.inl rfl) l_2
      have lo11_3 := f13 3 _ (by decide) (Or.inl rfl) l_3
      have lo11_5 := f13 5 _ (by decide) (Or.inl rfl) l_5
      have lo11_6 := f13 6 _ (by decide) (Or.inl rfl) l_6
      have lo11_7 := f13 7 _ (by decide) (Or.inl rfl) l_7
      refine wN_in (a := (aa).toInt) (b := 1) rfl rfl lo11_5 rfl rfl (by omega) (fun x14 e15 => fun lo16 e17 f18 => ?_)
      have lo16_4 := f18 4 _ (by decide) (Or.inl rfl) e12
      have lo16_0 := f18 0 _ (by decide) (Or.inl rfl) lo11_0
      have lo16_1 := f18 1 _ (by decide) (Or.inl rfl) lo11_1
      have lo16_2 := f18 2 _ (by decide) (Or.inl rfl) lo11_2
      have lo16_3 := f18 3 _ (by decide) (Or.inl rfl) lo11_3
      have lo16_6 := f18 6 _ (by decide) (Or.inl rfl) lo11_6
      have lo16_7 := f18 7 _ (by decide) (Or.inl rfl) lo11_7
      exact yR_m 1 (fun _ _ _ _ => rfl) (h2 q1 q2 x14 e15 lo16 lo16_0 lo16_1 lo16_2 lo16_3 lo16_4 e17 hm)
  ·
    refine wR_li rfl l_6 ?_
    refine wR_li rfl l_1 ?_
    refine wR_li rfl l_5 ?_
    refine wR_is rfl rfl rfl rfl rfl rfl ?_
    show yR zpg tX12_has2 (d + 1) (0, [(0, .int se), (1, .int aa)], [], mem) _
    refine yR_m 6 (fun _ _ _ _ => rfl) ?_
    refine wR_ic_ne rfl (a := ((se >>> (aa &&& 31)) &&& 1).toInt) (c := 1) rfl rfl (fun q19 => ?_) (fun q19 => ?_)
    ·
      refine yR_m 1 (fun _ _ _ _ => rfl) ?_
      refine yR_rz rfl ⟨by decide, by decide⟩ ?_
      show yR zpg tX12_mostBy (d + 2) (34, lo, [.int 0, .int nn], mem) _
      refine wR_if_eq rfl (a := 0) rfl (fun _ => ?_) (fun q => by exfalso; omega)
      refine yR_m 1 (fun _ _ _ _ => rfl) ?_
      refine wN_add (a := (nn).toInt) (b := 0) rfl rfl rfl (by omega) (fun x20 e21 => ?_)
      refine wR_si rfl rfl (fun lo22 e23 f24 => ?_)
      have lo22_0 := f24 0 _ (by decide) (Or.inl rfl) l_0
      have lo22_1 := f24 1 _ (by decide) (Or.inl rfl) l_1
      have lo22_2 := f24 2 _ (by decide) (Or.inl rfl) l_2
      have lo22_3 := f24 3 _ (by decide) (Or.inl rfl) l_3
      have lo22_4 := f24 4 _ (by decide) (Or.inl rfl) l_4
      have lo22_5 := f24 5 _ (by decide) (Or.inl rfl) l_5
      have lo22_7 := f24 7 _ (by decide) (Or.inl rfl) l_7
      refine wN_in (a := (bb).toInt) (b := 1) rfl rfl lo22_7 rfl rfl (by omega) (fun x25 e26 => fun lo27 e28 f29 => ?_)
      have lo27_6 := f29 6 _ (by decide) (Or.inl rfl) e23
      have lo27_0 := f29 0 _ (by decide) (Or.inl rfl) lo22_0
      have lo27_1 := f29 1 _ (by decide) (Or.inl rfl) lo22_1
      have lo27_2 := f29 2 _ (by decide) (Or.inl rfl) lo22_2
      have lo27_3 := f29 3 _ (by decide) (Or.inl rfl) lo22_3
      have lo27_4 := f29 4 _ (by decide) (Or.inl rfl) lo22_4
      have lo27_5 := f29 5 _ (by decide) (Or.inl rfl) lo22_5
      exact yR_m 1 (fun _ _ _ _ => rfl) (h3 q1 q19 x20 e21 x25 e26 lo27 lo27_0 lo27_1 lo27_2 lo27_3 lo27_4 lo27_5 lo27_6 e28 hm)
    ·
      refine yR_m 2 (fun _ _ _ _ => rfl) ?_
      refine yR_rz rfl ⟨by decide, by decide⟩ ?_
      show yR zpg tX12_mostBy (d + 2) (34, lo, [.int 1, .int nn], mem) _
      refine wR_if_eq rfl (a := 1) rfl (fun q => by exfalso; omega) (fun _ => ?_)
      refine wR_li rfl l_1 ?_
      refine wR_li rfl l_7 ?_
      refine wR_is rfl rfl rfl rfl rfl rfl ?_
      show yR zpg tX12_has2 (d + 1) (0, [(0, .int se), (1, .int bb)], [], mem) _
      refine yR_m 6 (fun _ _ _ _ => rfl) ?_
      refine wR_ic_ne rfl (a := ((se >>> (bb &&& 31)) &&& 1).toInt) (c := 1) rfl rfl (fun q30 => ?_) (fun q30 => ?_)
      ·
        refine yR_m 1 (fun _ _ _ _ => rfl) ?_
        refine yR_rz rfl ⟨by decide, by decide⟩ ?_
        show yR zpg tX12_mostBy (d + 2) (43, lo, [.int 0, .int nn], mem) _
        refine wR_if_eq rfl (a := 0) rfl (fun _ => ?_) (fun q => by exfalso; omega)
        refine yR_m 1 (fun _ _ _ _ => rfl) ?_
        refine wN_add (a := (nn).toInt) (b := 0) rfl rfl rfl (by omega) (fun x31 e32 => ?_)
        refine wR_si rfl rfl (fun lo33 e34 f35 => ?_)
        have lo33_0 := f35 0 _ (by decide) (Or.inl rfl) l_0
        have lo33_1 := f35 1 _ (by decide) (Or.inl rfl) l_1
        have lo33_2 := f35 2 _ (by decide) (Or.inl rfl) l_2
        have lo33_3 := f35 3 _ (by decide) (Or.inl rfl) l_3
        have lo33_4 := f35 4 _ (by decide) (Or.inl rfl) l_4
        have lo33_5 := f35 5 _ (by decide) (Or.inl rfl) l_5
        have lo33_7 := f35 7 _ (by decide) (Or.inl rfl) l_7
        refine wN_in (a := (bb).toInt) (b := 1) rfl rfl lo33_7 rfl rfl (by omega) (fun x36 e37 => fun lo38 e39 f40 => ?_)
        have lo38_6 := f40 6 _ (by decide) (Or.inl rfl) e34
        have lo38_0 := f40 0 _ (by decide) (Or.inl rfl) lo33_0
        have lo38_1 := f40 1 _ (by decide) (Or.inl rfl) lo33_1
        have lo38_2 := f40 2 _ (by decide) (Or.inl rfl) lo33_2
        have lo38_3 := f40 3 _ (by decide) (Or.inl rfl) lo33_3
        have lo38_4 := f40 4 _ (by decide) (Or.inl rfl) lo33_4
        have lo38_5 := f40 5 _ (by decide) (Or.inl rfl) lo33_5
        exact yR_m 1 (fun _ _ _ _ => rfl) (h4 q1 q19 q30 x31 e32 x36 e37 lo38 lo38_0 lo38_1 lo38_2 lo38_3 lo38_4 lo38_5 lo38_6 e39 hm)
      ·
        refine yR_m 2 (fun _ _ _ _ => rfl) ?_
        refine yR_rz rfl ⟨by decide, by decide⟩ ?_
        show yR zpg tX12_mostBy (d + 2) (43, lo, [.int 1, .int nn], mem) _
        refine wR_if_eq rfl (a := 1) rfl (fun q => by exfalso; omega) (fun _ => ?_)
        refine wR_la rfl l_0 ?_
        refine wR_gr rfl mO_e mO_70 hm ?_
        refine yR_m 2 (fun _ _ _ _ => rfl) ?_
        refine wR_li rfl l_5 ?_
        refine wN_mul (a := 31) (b := (aa).toInt) rfl rfl rfl (by omega) (fun x41 e42 => ?_)
        refine wR_li rfl l_2 ?_
        refine wN_add (a := (31 * (aa).toInt)) (b := (k).toInt) rfl e42 rfl (by omega) (fun x43 e44 => ?_)
        refine wN_mul (a := 6) (b := ((31 * (aa).toInt) + (k).toInt)) rfl rfl e44 (by omega) (fun x45 e46 => ?_)
        refine wR_li rfl l_3 ?_
        refine wN_add (a := (6 * ((31 * (aa).toInt) + (k).toInt))) (b := (f).toInt) rfl e46 rfl (by omega) (fun x47 e48 => ?_)
        refine wN_al (a := ((6 * ((31 * (aa).toInt) + (k).toInt)) + (f).toInt)) rfl aR_267 hm rfl e48 (by omega) (fun y49 e50 => ?_)
        refine wR_la rfl l_0 ?_
        refine wR_gr rfl mO_e mO_70 hm ?_
        refine yR_m 2 (fun _ _ _ _ => rfl) ?_
        refine wR_li rfl l_7 ?_
        refine wN_mul (a := 31) (b := (bb).toInt) rfl rfl rfl (by omega) (fun x51 e52 => ?_)
        refine wR_li rfl l_2 ?_
        refine wN_add (a := (31 * (bb).toInt)) (b := (k).toInt) rfl e52 rfl (by omega) (fun x53 e54 => ?_)
        refine wN_mul (a := 6) (b := ((31 * (bb).toInt) + (k).toInt)) rfl rfl e54 (by omega) (fun x55 e56 => ?_)
        refine wR_li rfl l_3 ?_
        refine wN_add (a := (6 * ((31 * (bb).toInt) + (k).toInt))) (b := (f).toInt) rfl e56 rfl (by omega) (fun x57 e58 => ?_)
        refine wN_al (a := ((6 * ((31 * (bb).toInt) + (k).toInt)) + (f).toInt)) rfl aR_267 hm rfl e58 (by omega) (fun y59 e60 => ?_)
        refine wR_ic_ne rfl (a := (gn (ga mem 267) ((6 * ((31 * (aa).toInt) + (k).toInt)) + (f).toInt))) (c := (gn (ga mem 267) ((6 * ((31 * (bb).toInt) + (k).toInt)) + (f).toInt))) e50 e60 (fun q61 => ?_) (fun q61 => ?_)
        ·
          refine yR_m 1 (fun _ _ _ _ => rfl) ?_
          refine wN_add (a := (nn).toInt) (b := 0) rfl rfl rfl (by omega) (fun x62 e63 => ?_)
          refine wR_si rfl rfl (fun lo64 e65 f66 => ?_)
          have lo64_0 := f66 0 _ (by decide) (Or.inl rfl) l_0
          have lo64_1 := f66 1 _ (by decide) (Or.inl rfl) l_1
          have lo64_2 := f66 2 _ (by decide) (Or.inl rfl) l_2
          have lo64_3 := f66 3 _ (by decide) (Or.inl rfl) l_3
          have lo64_4 := f66 4 _ (by decide) (Or.inl rfl) l_4
          have lo64_5 := f66 5 _ (by decide) (Or.inl rfl) l_5
          have lo64_7 := f66 7 _ (by decide) (Or.inl rfl) l_7
          refine wN_in (a := (bb).toInt) (b := 1) rfl rfl lo64_7 rfl rfl (by omega) (fun x67 e68 => fun lo69 e70 f71 => ?_)
          have lo69_6 := f71 6 _ (by decide) (Or.inl rfl) e65
          have lo69_0 := f71 0 _ (by decide) (Or.inl rfl) lo64_0
          have lo69_1 := f71 1 _ (by decide) (Or.inl rfl) lo64_1
          have lo69_2 := f71 2 _ (by decide) (Or.inl rfl) lo64_2
          have lo69_3 := f71 3 _ (by decide) (Or.inl rfl) lo64_3
          have lo69_4 := f71 4 _ (by decide) (Or.inl rfl) lo64_4
          have lo69_5 := f71 5 _ (by decide) (Or.inl rfl) lo64_5
          exact yR_m 1 (fun _ _ _ _ => rfl) (h5 q1 q19 q30 x41 e42 x43 e44 x45 e46 x47 e48 y49 e50 x51 e52 x53 e54 x55 e56 x57 e58 y59 e60 q61 x62 e63 x67 e68 lo69 lo69_0 lo69_1 lo69_2 lo69_3 lo69_4 lo69_5 lo69_6 e70 hm)
        ·
          refine yR_m 2 (fun _ _ _ _ => rfl) ?_
          refine wN_add (a := (nn).toInt) (b := 1) rfl rfl rfl (by omega) (fun x72 e73 => ?_)
          refine wR_si rfl rfl (fun lo74 e75 f76 => ?_)
          have lo74_0 := f76 0 _ (by decide) (Or.inl rfl) l_0
          have lo74_1 := f76 1 _ (by decide) (Or.inl rfl) l_1
          have lo74_2 := f76 2 _ (by decide) (Or.inl rfl) l_2
          have lo74_3 := f76 3 _ (by decide) (Or.inl rfl) l_3
          have lo74_4 := f76 4 _ (by decide) (Or.inl rfl) l_4
          have lo74_5 := f76 5 _ (by decide) (Or.inl rfl) l_5
          have lo74_7 := f76 7 _ (by decide) (Or.inl rfl) l_7
          refine wN_in (a := (bb).toInt) (b := 1) rfl rfl lo74_7 rfl rfl (by omega) (fun x77 e78 => fun lo79 e80 f81 => ?_)
          have lo79_6 := f81 6 _ (by decide) (Or.inl rfl) e75
          have lo79_0 := f81 0 _ (by decide) (Or.inl rfl) lo74_0
          have lo79_1 := f81 1 _ (by decide) (Or.inl rfl) lo74_1
          have lo79_2 := f81 2 _ (by decide) (Or.inl rfl) lo74_2
          have lo79_3 := f81 3 _ (by decide) (Or.inl rfl) lo74_3
          have lo79_4 := f81 4 _ (by decide) (Or.inl rfl) lo74_4
          have lo79_5 := f81 5 _ (by decide) (Or.inl rfl) lo74_5
          exact yR_m 1 (fun _ _ _ _ => rfl) (h6 q1 q19 q30 x41 e42 x43 e44 x45 e46 x47 e48 y49 e50 x51 e52 x53 e54 x55 e56 x57 e58 y59 e60 q61 x72 e73 x77 e78 lo79 lo79_0 lo79_1 lo79_2 lo79_3 lo79_4 lo79_5 lo79_6 e80 hm)

theorem mb_b {se k f mo aa : Int32} (hm : aTm aT0 mem) (hk : 0 ≤ k.toInt ∧ k.toInt ≤ 30) (hf : 0 ≤ f.toInt ∧ f.toInt ≤ 5) (ha : 0 ≤ aa.toInt ∧ aa.toInt ≤ 8) (ih6 : ∀ (mo' a' : Int32) (lo : List (Nat × Value)), a'.toInt = aa.toInt + 1 → zlg lo 0 = some (.ref 221) → zlg lo 1 = some (.int se) → zlg lo 2 = some (.int k) → zlg lo 3 = some (.int f) → zlg lo 4 = some (.int mo') → zlg lo 5 = some (.int a') → yR zpg tX12_mostBy (d + 2) (6, lo, [], mem) P) : ∀ (g : Nat) (nn bb : Int32) (lo : List (Nat × Value)), bb.toInt + (g : Int) = 10 → 0 ≤ bb.toInt → bb.toInt ≤ 9 → 0 ≤ nn.toInt → nn.toInt ≤ bb.toInt → zlg lo 0 = some (.ref 221) → zlg lo 1 = some (.int se) → zlg lo 2 = some (.int k) → zlg lo 3 = some (.int f) → zlg lo 4 = some (.int mo) → zlg lo 5 = some (.int aa) → zlg lo 6 = some (.int nn) → zlg lo 7 = some (.int bb) → yR zpg tX12_mostBy (d + 2) (19, lo, [], mem) P := by
  intro g
  induction g with
  | zero =>
    intro nn bb lo hg b0 b9
    omega
  | succ g ih =>
    intro nn bb lo hg b0 b9 n0 n1 l0 l1 l2 l3 l4 l5 l6 l7
    exact w_mb19 hm l0 l1 l2 l3 l4 l5 l6 l7 hk hf ha ⟨b0, b9⟩ ⟨n0, n1⟩ 
        (fun q1 q2 x6 e7 lo c0 c1 c2 c3 c4 c5 hm2 => ih6 _ _ lo e7 c0 c1 c2 c3 c4 c5)
        (fun q1 q2 x14 e15 lo c0 c1 c2 c3 c4 c5 hm2 => ih6 _ _ lo e15 c0 c1 c2 c3 c4 c5)
        (fun q1 q19 x20 e21 x25 e26 lo c0 c1 c2 c3 c4 c5 c6 c7 hm2 => ih _ _ lo (by omega) (by omega) (by omega) (by omega) (by omega) c0 c1 c2 c3 c4 c5 c6 c7)
        (fun q1 q19 q30 x31 e32 x36 e37 lo c0 c1 c2 c3 c4 c5 c6 c7 hm2 => ih _ _ lo (by omega) (by omega) (by omega) (by omega) (by omega) c0 c1 c2 c3 c4 c5 c6 c7)
        (fun q1 q19 q30 x41 e42 x43 e44 x45 e46 x47 e48 y49 e50 x51 e52 x53 e54 x55 e56 x57 e58 y59 e60 q61 x62 e63 x67 e68 lo c0 c1 c2 c3 c4 c5 c6 c7 hm2 => ih _ _ lo (by omega) (by omega) (by omega) (by omega) (by omega) c0 c1 c2 c3 c4 c5 c6 c7)
        (fun q1 q19 q30 x41 e42 x43 e44 x45 e46 x47 e48 y49 e50 x51 e52 x53 e54 x55 e56 x57 e58 y59 e60 q61 x72 e73 x77 e78 lo c0 c1 c2 c3 c4 c5 c6 c7 hm2 => ih _ _ lo (by omega) (by omega) (by omega) (by omega) (by omega) c0 c1 c2 c3 c4 c5 c6 c7)
theorem mb_a {se k f : Int32} (hm : aTm aT0 mem) (hk : 0 ≤ k.toInt ∧ k.toInt ≤ 30) (hf : 0 ≤ f.toInt ∧ f.toInt ≤ 5) : ∀ (g : Nat) (mo aa : Int32) (lo : List (Nat × Value)), aa.toInt + (g : Int) = 10 → 0 ≤ aa.toInt → aa.toInt ≤ 9 → zlg lo 0 = some (.ref 221) → zlg lo 1 = some (.int se) → zlg lo 2 = some (.int k) → zlg lo 3 = some (.int f) → zlg lo 4 = some (.int mo) → zlg lo 5 = some (.int aa) → yR zpg tX12_mostBy (d + 2) (6, lo, [], mem) (fun r m => ∃ v : Int32, r = some (.int v) ∧ mem = m ∧ True) := by
  intro g
  induction g with
  | zero =>
    intro mo aa lo hg a0 a9
    omega
  | succ g ih =>
    intro mo aa lo hg a0 a9 l0 l1 l2 l3 l4 l5
    exact w_mb6 hm l0 l1 l2 l3 l4 l5 (fun q1 hm2 => ⟨_, rfl, rfl, trivial⟩) (fun q1 lo c0 c1 c2 c3 c4 c5 c6 c7 hm2 => mb_b hm hk hf ⟨a0, by omega⟩ (fun mo' a' lo e c0 c1 c2 c3 c4 c5 => ih mo' a' lo (by omega) (by omega) (by omega) c0 c1 c2 c3 c4 c5) 10 0 0 lo rfl (by decide) (by decide) (by decide) (by decide) c0 c1 c2 c3 c4 c5 c6 c7)
theorem h_mb {se k f : Int32} (hm : aTm aT0 mem) (hk : 0 ≤ k.toInt ∧ k.toInt ≤ 30) (hf : 0 ≤ f.toInt ∧ f.toInt ≤ 5) (hd : 3 ≤ d) : yC zpg d 262 [.ref 221, .int se, .int k, .int f] mem (fun r m => ∃ v : Int32, r = some (.int v) ∧ mem = m ∧ True) := by
  obtain ⟨d, rfl⟩ : ∃ q, d = q + 3 := ⟨d - 3, by omega⟩
  refine yC_of (t := tX12_mostBy) rfl rfl ?_
  exact w_mb0 hm rfl rfl rfl rfl (fun lo c0 c1 c2 c3 c4 c5 hm2 => mb_a hm hk hf 10 0 0 lo rfl (by decide) (by decide) c0 c1 c2 c3 c4 c5)
set_option maxRecDepth 100000 in
theorem w_hb0 {d : Nat} {mem : zM} {P : Option Value → zM → Prop} {t : Int32} {lo : List (Nat × Value)} (hm : aTm aT0 mem) (l_0 : zlg lo 0 = some (.ref 221)) (l_1 : zlg lo 1 = some (.int t)) (h1 : ∀ lo, zlg lo 0 = some (.ref 221) → zlg lo 1 = some (.int t) → zlg lo 2 = some (.int 0) → zlg lo 3 = some (.int 0) → aTm aT0 mem → yR zpg tX12_hueBits (d + 14) (4, lo, [], mem) P) : yR zpg tX12_hueBits (d + 14) (0, lo, [], mem) P := by
  refine yR_m 1 (fun _ _ _ _ => rfl) ?_
  refine wR_si rfl rfl (fun lo1 e2 f3 => ?_)
  have lo1_0 := f3 0 _ (by decide) (Or.inl rfl) l_0
  have lo1_1 := f3 1 _ (by decide) (Or.inl rfl) l_1
  refine yR_m 1 (fun _ _ _ _ => rfl) ?_
  refine wR_si rfl rfl (fun lo4 e5 f6 => ?_)
  have lo4_2 := f6 2 _ (by decide) (Or.inl rfl) e2
  have lo4_0 := f6 0 _ (by decide) (Or.inl rfl) lo1_0
  have lo4_1 := f6 1 _ (by decide) (Or.inl rfl) lo1_1
  exact h1 lo4 lo4_0 lo4_1 lo4_2 e5 hm

set_option maxRecDepth 100000 in
theorem w_hb4 {d : Nat} {mem : zM} {P : Option Value → zM → Prop} {t se h : Int32} {lo : List (Nat × Value)} (hm : aTm aT0 mem) (l_0 : zlg lo 0 = some (.ref 221)) (l_1 : zlg lo 1 = some (.int t)) (l_2 : zlg lo 2 = some (.int se)) (l_3 : zlg lo 3 = some (.int h)) {Q : Qd} {S : Sd} {K : Kd} {hu : Int → Int} (hW : WQ Q) (hS : tM 0 Q hu S mem) (hK : kM 0 K mem) (ht : 0 ≤ t.toInt ∧ t.toInt ≤ 8) (hh : 0 ≤ h.toInt ∧ h.toInt ≤ 9) (h1 : 9 ≤ (h).toInt → ∀ (x2 : Int32), x2.toInt = (9 * (gi mem 221 13).toInt) → ∀ (x4 : Int32), x4.toInt = ((9 * (gi mem 221 13).toInt) + (t).toInt) → ∀ (y6 : Int32), y6.toInt = (gn (ga mem 230) ((9 * (gi mem 221 13).toInt) + (t).toInt)) → aTm aT0 (sx mem 255 t y6) → P (some (.int se)) (sx mem 255 t y6)) (h2 : (h).toInt < 9 → ∀ (m8 : zM), aTm aT0 m8 → (F1 mem m8 ∧ X1 Q hu S m8) → ∀ (x10 : Int32), x10.toInt = ((h).toInt + 1) → ∀ lo, zlg lo 0 = some (.ref 221) → zlg lo 1 = some (.int t) → zlg lo 2 = some (.int se) → zlg lo 3 = some (.int h) → zlg lo 4 = some (.int 0) → zlg lo 5 = some (.int 0) → aTm aT0 (sx m8 255 t x10) → yR zpg tX12_hueBits (d + 14) (31, lo, [], (sx m8 255 t x10)) P) : yR zpg tX12_hueBits (d + 14) (4, lo, [], mem) P := by
  have rb := mO_r13 hm
  refine wR_li rfl l_3 ?_
  refine yR_m 1 (fun _ _ _ _ => rfl) ?_
  refine wR_ic_ge rfl (a := (h).toInt) (c := 9) rfl rfl (fun q1 => ?_) (fun q1 => ?_)
  ·
    refine wR_la rfl l_0 ?_
    refine wR_gr rfl mO_e mO_57 hm ?_
    refine wR_li rfl l_1 ?_
    refine wR_la rfl l_0 ?_
    refine wR_gr rfl mO_e mO_21 hm ?_
    refine yR_m 1 (fun _ _ _ _ => rfl) ?_
    refine wR_la rfl l_0 ?_
    refine wR_gi rfl mO_e mO_13 hm rfl ?_
    refine wN_mul (a := 9) (b := (gi mem 221 13).toInt) rfl rfl rfl (by omega) (fun x2 e3 => ?_)
    refine wR_li rfl l_1 ?_
    refine wN_add (a := (9 * (gi mem 221 13).toInt)) (b := (t).toInt) rfl e3 rfl (by omega) (fun x4 e5 => ?_)
    refine wN_al (a := ((9 * (gi mem 221 13).toInt) + (t).toInt)) rfl aR_230 hm rfl e5 (by omega) (fun y6 e7 => ?_)
    refine wN_as (a := (t).toInt) rfl aR_255 hm rfl (by omega) ?_
    have hm_1 : aTm aT0 (sx mem 255 t y6) := tm_sa aR_255 hm (i32_b _)
    refine wR_li rfl l_2 ?_
    exact yR_ri rfl (h1 q1 x2 e3 x4 e5 y6 e7 hm_1)
  ·
    refine wR_la rfl l_0 ?_
    refine yR_m 2 (fun _ _ _ _ => rfl) ?_
    refine wR_cv rfl rfl mO_e hm rfl (h_c1 (Q := Q) (S := S) (K := K) (hu := hu) hm hW hS hK (by omega)) ?_
    rintro _ m8 ⟨rfl, hm8, k9⟩
    show yR zpg tX12_hueBits (d + 14) (16, lo, [], m8) _
    have rb_m8 := mO_r13 hm8
    refine wR_la rfl l_0 ?_
    refine wR_gr rfl mO_e mO_57 hm8 ?_
    refine wR_li rfl l_1 ?_
    refine wR_li rfl l_3 ?_
    refine yR_m 1 (fun _ _ _ _ => rfl) ?_
    refine wN_add (a := (h).toInt) (b := 1) rfl rfl rfl (by omega) (fun x10 e11 => ?_)
    refine wN_as (a := (t).toInt) rfl aR_255 hm8 rfl (by omega) ?_
    have hm_2 : aTm aT0 (sx m8 255 t x10) := tm_sa aR_255 hm8 (i32_b _)
    refine yR_m 1 (fun _ _ _ _ => rfl) ?_
    refine wR_si rfl rfl (fun lo12 e13 f14 => ?_)
    have lo12_0 := f14 0 _ (by decide) (Or.inl rfl) l_0
    have lo12_1 := f14 1 _ (by decide) (Or.inl rfl) l_1
    have lo12_2 := f14 2 _ (by decide) (Or.inl rfl) l_2
    have lo12_3 := f14 3 _ (by decide) (Or.inl rfl) l_3
    refine yR_m 1 (fun _ _ _ _ => rfl) ?_
    refine wR_si rfl rfl (fun lo15 e16 f17 => ?_)
    have lo15_4 := f17 4 _ (by decide) (Or.inl rfl) e13
    have lo15_0 := f17 0 _ (by decide) (Or.inl rfl) lo12_0
    have lo15_1 := f17 1 _ (by decide) (Or.inl rfl) lo12_1
    have lo15_2 := f17 2 _ (by decide) (Or.inl rfl) lo12_2
    have lo15_3 := f17 3 _ (by decide) (Or.inl rfl) lo12_3
    exact h2 q1 m8 hm8 k9 x10 e11 lo15 lo15_0 lo15_1 lo15_2 lo15_3 lo15_4 e16 hm_2

set_option maxRecDepth 100000 in
theorem w_hb31 {d : Nat} {mem : zM} {P : Option Value → zM → Prop} {t se h me k : Int32} {lo : List (Nat × Value)} (hm : aTm aT0 mem) (l_0 : zlg lo 0 = some (.ref 221)) (l_1 : zlg lo 1 = some (.int t)) (l_2 : zlg lo 2 = some (.int se)) (l_3 : zlg lo 3 = some (.int h)) (l_4 : zlg lo 4 = some (.int me)) (l_5 : zlg lo 5 = some (.int k)) (hk : 0 ≤ k.toInt ∧ k.toInt ≤ 31) (hh : 0 ≤ h.toInt ∧ h.toInt ≤ 8) (h1 : (gi mem 221 46).toInt = 0 → ¬ (me).toInt = (gi mem 221 66).toInt → ∀ (x6 : Int32), x6.toInt = ((h).toInt + 1) → ∀ lo, zlg lo 0 = some (.ref 221) → zlg lo 1 = some (.int t) → zlg lo 2 = some (.int (se ||| 0)) → zlg lo 3 = some (.int x6) → aTm aT0 mem → yR zpg tX12_hueBits (d + 14) (4, lo, [], mem) P) (h2 : (gi mem 221 46).toInt = 0 → (me).toInt = (gi mem 221 66).toInt → ∀ (x14 : Int32), x14.toInt = ((h).toInt + 1) → ∀ lo, zlg lo 0 = some (.ref 221) → zlg lo 1 = some (.int t) → zlg lo 2 = some (.int (se ||| (1 <<< (h &&& 31)))) → zlg lo 3 = some (.int x14) → aTm aT0 mem → yR zpg tX12_hueBits (d + 14) (4, lo, [], mem) P) (h3 : ¬ (gi mem 221 46).toInt = 0 → (k).toInt < 0 → ¬ (me).toInt = (gi mem 221 66).toInt → ∀ (x24 : Int32), x24.toInt = ((h).toInt + 1) → ∀ lo, zlg lo 0 = some (.ref 221) → zlg lo 1 = some (.int t) → zlg lo 2 = some (.int (se ||| 0)) → zlg lo 3 = some (.int x24) → aTm aT0 mem → yR zpg tX12_hueBits (d + 14) (4, lo, [], mem) P) (h4 : ¬ (gi mem 221 46).toInt = 0 → (k).toInt < 0 → (me).toInt = (gi mem 221 66).toInt → ∀ (x32 : Int32), x32.toInt = ((h).toInt + 1) → ∀ lo, zlg lo 0 = some (.ref 221) → zlg lo 1 = some (.int t) → zlg lo 2 = some (.int (se ||| (1 <<< (h &&& 31)))) → zlg lo 3 = some (.int x32) → aTm aT0 mem → yR zpg tX12_hueBits (d + 14) (4, lo, [], mem) P) (h5 : ¬ (gi mem 221 46).toInt = 0 → 0 ≤ (k).toInt → 30 < (k).toInt → ¬ (me).toInt = (gi mem 221 66).toInt → ∀ (x42 : Int32), x42.toInt = ((h).toInt + 1) → ∀ lo, zlg lo 0 = some (.ref 221) → zlg lo 1 = some (.int t) → zlg lo 2 = some (.int (se ||| 0)) → zlg lo 3 = some (.int x42) → aTm aT0 mem → yR zpg tX12_hueBits (d + 14) (4, lo, [], mem) P) (h6 : ¬ (gi mem 221 46).toInt = 0 → 0 ≤ (k).toInt → 30 < (k).toInt → (me).toInt = (gi mem 221 66).toInt → ∀ (x50 : Int32), x50.toInt = ((h).toInt + 1) → ∀ lo, zlg lo 0 = some (.ref 221) → zlg lo 1 = some (.int t) → zlg lo 2 = some (.int (se ||| (1 <<< (h &&& 31)))) → zlg lo 3 = some (.int x50) → aTm aT0 mem → yR zpg tX12_hueBits (d + 14) (4, lo, [], mem) P) (h7 : ¬ (gi mem 221 46).toInt = 0 → 0 ≤ (k).toInt → (k).toInt ≤ 30 → ∀ (y55 : Int32), y55.toInt = (gn (ga mem 249) 0) → ∀ (x57 : Int32), x57.toInt = (999 - (k).toInt) → (999 - (k).toInt) < (gn (ga mem 249) 0) → ¬ (me).toInt = (gi mem 221 66).toInt → ∀ (x64 : Int32), x64.toInt = ((h).toInt + 1) → ∀ lo, zlg lo 0 = some (.ref 221) → zlg lo 1 = some (.int t) → zlg lo 2 = some (.int (se ||| 0)) → zlg lo 3 = some (.int x64) → aTm aT0 mem → yR zpg tX12_hueBits (d + 14) (4, lo, [], mem) P) (h8 : ¬ (gi mem 221 46).toInt = 0 → 0 ≤ (k).toInt → (k).toInt ≤ 30 → ∀ (y55 : Int32), y55.toInt = (gn (ga mem 249) 0) → ∀ (x57 : Int32), x57.toInt = (999 - (k).toInt) → (999 - (k).toInt) < (gn (ga mem 249) 0) → (me).toInt = (gi mem 221 66).toInt → ∀ (x72 : Int32), x72.toInt = ((h).toInt + 1) → ∀ lo, zlg lo 0 = some (.ref 221) → zlg lo 1 = some (.int t) → zlg lo 2 = some (.int (se ||| (1 <<< (h &&& 31)))) → zlg lo 3 = some (.int x72) → aTm aT0 mem → yR zpg tX12_hueBits (d + 14) (4, lo, [], mem) P) (h9 : ¬ (gi mem 221 46).toInt = 0 → 0 ≤ (k).toInt → (k).toInt ≤ 30 → ∀ (y55 : Int32), y55.toInt = (gn (ga mem 249) 0) → ∀ (x57 : Int32), x57.toInt = (999 - (k).toInt) → (gn (ga mem 249) 0) ≤ (999 - (k).toInt) → ∀ lo, zlg lo 0 = some (.ref 221) → zlg lo 1 = some (.int t) → zlg lo 2 = some (.int se) → zlg lo 3 = some (.int h) → zlg lo 4 = some (.int me) → zlg lo 5 = some (.int k) → zlg lo 6 = some (.int 0) → aTm aT0 mem → yR zpg tX12_hueBits (d + 14) (46, lo, [], mem) P) : yR zpg tX12_hueBits (d + 14) (31, lo, [], mem) P := by
  refine wR_la rfl l_0 ?_
  refine wR_li rfl l_5 ?_
  refine yR_m 2 (fun _ _ _ _ => rfl) ?_
  refine wR_iv rfl rfl mO_e hm rfl rfl rfl rfl ?_
  show yR zpg tX12_isAhead (d + 13) (0, [(0, .ref 221), (1, .int k), (2, .int 0), (3, .int 30)], [], mem) _
  refine yR_m 1 (fun _ _ _ _ => rfl) ?_
  refine wR_gi rfl mO_e mO_46 hm rfl ?_
  refine wR_if_eq rfl (a := (gi mem 221 46).toInt) rfl (fun q1 => ?_) (fun q1 => ?_)
  ·
    refine yR_m 1 (fun _ _ _ _ => rfl) ?_
    refine yR_rz rfl ⟨by decide, by decide⟩ ?_
    show yR zpg tX12_hueBits (d + 14) (40, lo, [.int 0], mem) _
    refine wR_if_eq rfl (a := 0) rfl (fun _ => ?_) (fun q => by exfalso; omega)
    refine wR_li rfl l_2 ?_
    refine wR_li rfl l_4 ?_
    refine wR_la rfl l_0 ?_
    refine wR_gi rfl mO_e mO_66 hm rfl ?_
    refine wR_ic_ne rfl (a := (me).toInt) (c := (gi mem 221 66).toInt) rfl rfl (fun q2 => ?_) (fun q2 => ?_)
    ·
      refine yR_m 2 (fun _ _ _ _ => rfl) ?_
      refine wR_si rfl rfl (fun lo3 e4 f5 => ?_)
      have lo3_0 := f5 0 _ (by decide) (Or.inl rfl) l_0
      have lo3_1 := f5 1 _ (by decide) (Or.inl rfl) l_1
      have lo3_3 := f5 3 _ (by decide) (Or.inl rfl) l_3
      have lo3_4 := f5 4 _ (by decide) (Or.inl rfl) l_4
      have lo3_5 := f5 5 _ (by decide) (Or.inl rfl) l_5
      refine wN_in (a := (h).toInt) (b := 1) rfl rfl lo3_3 rfl rfl (by omega) (fun x6 e7 => fun lo8 e9 f10 => ?_)
      have lo8_2 := f10 2 _ (by decide) (Or.inl rfl) e4
      have lo8_0 := f10 0 _ (by decide) (Or.inl rfl) lo3_0
      have lo8_1 := f10 1 _ (by decide) (Or.inl rfl) lo3_1
      have lo8_4 := f10 4 _ (by decide) (Or.inl rfl) lo3_4
      have lo8_5 := f10 5 _ (by decide) (Or.inl rfl) lo3_5
      exact yR_m 1 (fun _ _ _ _ => rfl) (h1 q1 q2 x6 e7 lo8 lo8_0 lo8_1 lo8_2 e9 hm)
    ·
      refine yR_m 1 (fun _ _ _ _ => rfl) ?_
      refine wR_li rfl l_3 ?_
      refine yR_m 3 (fun _ _ _ _ => rfl) ?_
      refine wR_si rfl rfl (fun lo11 e12 f13 => ?_)
      have lo11_0 := f13 0 _ (by decide) (Or.inl rfl) l_0
      have lo11_1 := f13 1 _ (by decide) (Or.inl rfl) l_1
      have lo11_3 := f13 3 _ (by decide) (Or.inl rfl) l_3
      have lo11_4 := f13 4 _ (by decide) (Or.inl rfl) l_4
      have lo11_5 := f13 5 _ (by decide) (Or.inl rfl) l_5
      refine wN_in (a := (h).toInt) (b := 1) rfl rfl lo11_3 rfl rfl (by omega) (fun x14 e15 => fun lo16 e17 f18 => ?_)
      have lo16_2 := f18 2 _ (by decide) (Or.inl rfl) e12
      have lo16_0 := f18 0 _ (by decide) (Or.inl rfl) lo11_0
      have lo16_1 := f18 1 _ (by decide) (Or.inl rfl) lo11_1
      have lo16_4 := f18 4 _ (by decide) (Or.inl rfl) lo11_4
      have lo16_5 := f18 5 _ (by decide) (Or.inl rfl) lo11_5
      exact yR_m 1 (fun _ _ _ _ => rfl) (h2 q1 q2 x14 e15 lo16 lo16_0 lo16_1 lo16_2 e17 hm)
  ·
    refine yR_m 3 (fun _ _ _ _ => rfl) ?_
    refine wR_is rfl rfl rfl rfl rfl rfl ?_
    show yR zpg tX12_is (d + 12) (0, [(0, .int k), (1, .int 0), (2, .int 30)], [], mem) _
    refine yR_m 2 (fun _ _ _ _ => rfl) ?_
    refine wR_ic_lt rfl (a := (k).toInt) (c := 0) rfl rfl (fun q19 => ?_) (fun q19 => ?_)
    ·
      refine yR_m 1 (fun _ _ _ _ => rfl) ?_
      refine yR_rz rfl ⟨by decide, by decide⟩ ?_
      show yR zpg tX12_isAhead (d + 13) (13, [(0, .ref 221), (1, .int k), (2, .int 0), (3, .int 30)], [.int 0], mem) _
      refine wR_if_eq rfl (a := 0) rfl (fun _ => ?_) (fun q => by exfalso; omega)
      refine yR_m 1 (fun _ _ _ _ => rfl) ?_
      refine yR_rz rfl ⟨by decide, by decide⟩ ?_
      show yR zpg tX12_hueBits (d + 14) (40, lo, [.int 0], mem) _
      refine wR_if_eq rfl (a := 0) rfl (fun _ => ?_) (fun q => by exfalso; omega)
      refine wR_li rfl l_2 ?_
      refine wR_li rfl l_4 ?_
      refine wR_la rfl l_0 ?_
      refine wR_gi rfl mO_e mO_66 hm rfl ?_
      refine wR_ic_ne rfl (a := (me).toInt) (c := (gi mem 221 66).toInt) rfl rfl (fun q20 => ?_) (fun q20 => ?_)
      ·
        refine yR_m 2 (fun _ _ _ _ => rfl) ?_
        refine wR_si rfl rfl (fun lo21 e22 f23 => ?_)
        have lo21_0 := f23 0 _ (by decide) (Or.inl rfl) l_0
        have lo21_1 := f23 1 _ (by decide) (Or.inl rfl) l_1
        have lo21_3 := f23 3 _ (by decide) (Or.inl rfl) l_3
        have lo21_4 := f23 4 _ (by decide) (Or.inl rfl) l_4
        have lo21_5 := f23 5 _ (by decide) (Or.inl rfl) l_5
        refine wN_in (a := (h).toInt) (b := 1) rfl rfl lo21_3 rfl rfl (by omega) (fun x24 e25 => fun lo26 e27 f28 => ?_)
        have lo26_2 := f28 2 _ (by decide) (Or.inl rfl) e22
        have lo26_0 := f28 0 _ (by decide) (Or.inl rfl) lo21_0
        have lo26_1 := f28 1 _ (by decide) (Or.inl rfl) lo21_1
        have lo26_4 := f28 4 _ (by decide) (Or.inl rfl) lo21_4
        have lo26_5 := f28 5 _ (by decide) (Or.inl rfl) lo21_5
        exact yR_m 1 (fun _ _ _ _ => rfl) (h3 q1 q19 q20 x24 e25 lo26 lo26_0 lo26_1 lo26_2 e27 hm)
      ·
        refine yR_m 1 (fun _ _ _ _ => rfl) ?_
        refine wR_li rfl l_3 ?_
        refine yR_m 3 (fun _ _ _ _ => rfl) ?_
        refine wR_si rfl rfl (fun lo29 e30 f31 => ?_)
        have lo29_0 := f31 0 _ (by decide) (Or.inl rfl) l_0
        have lo29_1 := f31 1 _ (by decide) (Or.inl rfl) l_1
        have lo29_3 := f31 3 _ (by decide) (Or.inl rfl) l_3
        have lo29_4 := f31 4 _ (by decide) (Or.inl rfl) l_4
        have lo29_5 := f31 5 _ (by decide) (Or.inl rfl) l_5
        refine wN_in (a := (h).toInt) (b := 1) rfl rfl lo29_3 rfl rfl (by omega) (fun x32 e33 => fun lo34 e35 f36 => ?_)
        have lo34_2 := f36 2 _ (by decide) (Or.inl rfl) e30
        have lo34_0 := f36 0 _ (by decide) (Or.inl rfl) lo29_0
        have lo34_1 := f36 1 _ (by decide) (Or.inl rfl) lo29_1
        have lo34_4 := f36 4 _ (by decide) (Or.inl rfl) lo29_4
        have lo34_5 := f36 5 _ (by decide) (Or.inl rfl) lo29_5
        exact yR_m 1 (fun _ _ _ _ => rfl) (h4 q1 q19 q20 x32 e33 lo34 lo34_0 lo34_1 lo34_2 e35 hm)
    ·
      refine yR_m 2 (fun _ _ _ _ => rfl) ?_
      refine wR_ic_gt rfl (a := (k).toInt) (c := 30) rfl rfl (fun q37 => ?_) (fun q37 => ?_)
      ·
        refine yR_m 1 (fun _ _ _ _ => rfl) ?_
        refine yR_rz rfl ⟨by decide, by decide⟩ ?_
        show yR zpg tX12_isAhead (d + 13) (13, [(0, .ref 221), (1, .int k), (2, .int 0), (3, .int 30)], [.int 0], mem) _
        refine wR_if_eq rfl (a := 0) rfl (fun _ => ?_) (fun q => by exfalso; omega)
        refine yR_m 1 (fun _ _ _ _ => rfl) ?_
        refine yR_rz rfl ⟨by decide, by decide⟩ ?_
        show yR zpg tX12_hueBits (d + 14) (40, lo, [.int 0], mem) _
        refine wR_if_eq rfl (a := 0) rfl (fun _ => ?_) (fun q => by exfalso; omega)
        refine wR_li rfl l_2 ?_
        refine wR_li rfl l_4 ?_
        refine wR_la rfl l_0 ?_
        refine wR_gi rfl mO_e mO_66 hm rfl ?_
        refine wR_ic_ne rfl (a := (me).toInt) (c := (gi mem 221 66).toInt) rfl rfl (fun q38 => ?_) (fun q38 => ?_)
        ·
          refine yR_m 2 (fun _ _ _ _ => rfl) ?_
          refine wR_si rfl rfl (fun lo39 e40 f41 => ?_)
          have lo39_0 := f41 0 _ (by decide) (Or.inl rfl) l_0
          have lo39_1 := f41 1 _ (by decide) (Or.inl rfl) l_1
          have lo39_3 := f41 3 _ (by decide) (Or.inl rfl) l_3
          have lo39_4 := f41 4 _ (by decide) (Or.inl rfl) l_4
          have lo39_5 := f41 5 _ (by decide) (Or.inl rfl) l_5
          refine wN_in (a := (h).toInt) (b := 1) rfl rfl lo39_3 rfl rfl (by omega) (fun x42 e43 => fun lo44 e45 f46 => ?_)
          have lo44_2 := f46 2 _ (by decide) (Or.inl rfl) e40
          have lo44_0 := f46 0 _ (by decide) (Or.inl rfl) lo39_0
          have lo44_1 := f46 1 _ (by decide) (Or.inl rfl) lo39_1
          have lo44_4 := f46 4 _ (by decide) (Or.inl rfl) lo39_4
          have lo44_5 := f46 5 _ (by decide) (Or.inl rfl) lo39_5
          exact yR_m 1 (fun _ _ _ _ => rfl) (h5 q1 q19 q37 q38 x42 e43 lo44 lo44_0 lo44_1 lo44_2 e45 hm)
        ·
          refine yR_m 1 (fun _ _ _ _ => rfl) ?_
          refine wR_li rfl l_3 ?_
          refine yR_m 3 (fun _ _ _ _ => rfl) ?_
          refine wR_si rfl rfl (fun lo47 e48 f49 => ?_)
          have lo47_0 := f49 0 _ (by decide) (Or.inl rfl) l_0
          have lo47_1 := f49 1 _ (by decide) (Or.inl rfl) l_1
          have lo47_3 := f49 3 _ (by decide) (Or.inl rfl) l_3
          have lo47_4 := f49 4 _ (by decide) (Or.inl rfl) l_4
          have lo47_5 := f49 5 _ (by decide) (Or.inl rfl) l_5
          refine wN_in (a := (h).toInt) (b := 1) rfl rfl lo47_3 rfl rfl (by omega) (fun x50 e51 => fun lo52 e53 f54 => ?_)
          have lo52_2 := f54 2 _ (by decide) (Or.inl rfl) e48
          have lo52_0 := f54 0 _ (by decide) (Or.inl rfl) lo47_0
          have lo52_1 := f54 1 _ (by decide) (Or.inl rfl) lo47_1
          have lo52_4 := f54 4 _ (by decide) (Or.inl rfl) lo47_4
          have lo52_5 := f54 5 _ (by decide) (Or.inl rfl) lo47_5
          exact yR_m 1 (fun _ _ _ _ => rfl) (h6 q1 q19 q37 q38 x50 e51 lo52 lo52_0 lo52_1 lo52_2 e53 hm)
      ·
        refine yR_m 2 (fun _ _ _ _ => rfl) ?_
        refine yR_rz rfl ⟨by decide, by decide⟩ ?_
        show yR zpg tX12_isAhead (d + 13) (13, [(0, .ref 221), (1, .int k), (2, .int 0), (3, .int 30)], [.int 1], mem) _
        refine wR_if_eq rfl (a := 1) rfl (fun q => by exfalso; omega) (fun _ => ?_)
        refine yR_m 1 (fun _ _ _ _ => rfl) ?_
        refine wR_gr rfl mO_e mO_48 hm ?_
        refine yR_m 1 (fun _ _ _ _ => rfl) ?_
        refine wN_al (a := 0) rfl aR_249 hm rfl rfl (by decide) (fun y55 e56 => ?_)
        refine yR_m 2 (fun _ _ _ _ => rfl) ?_
        refine wN_sub (a := 999) (b := (k).toInt) rfl rfl rfl (by omega) (fun x57 e58 => ?_)
        refine wR_ic_gt rfl (a := (gn (ga mem 249) 0)) (c := (999 - (k).toInt)) e56 e58 (fun q59 => ?_) (fun q59 => ?_)
        ·
          refine yR_m 1 (fun _ _ _ _ => rfl) ?_
          refine yR_rz rfl ⟨by decide, by decide⟩ ?_
          show yR zpg tX12_hueBits (d + 14) (40, lo, [.int 0], mem) _
          refine wR_if_eq rfl (a := 0) rfl (fun _ => ?_) (fun q => by exfalso; omega)
          refine wR_li rfl l_2 ?_
          refine wR_li rfl l_4 ?_
          refine wR_la rfl l_0 ?_
          refine wR_gi rfl mO_e mO_66 hm rfl ?_
          refine wR_ic_ne rfl (a := (me).toInt) (c := (gi mem 221 66).toInt) rfl rfl (fun q60 => ?_) (fun q60 => ?_)
          ·
            refine yR_m 2 (fun _ _ _ _ => rfl) ?_
            refine wR_si rfl rfl (fun lo61 e62 f63 => ?_)
            have lo61_0 := f63 0 _ (by decide) (Or.inl rfl) l_0
            have lo61_1 := f63 1 _ (by decide) (Or.inl rfl) l_1
            have lo61_3 := f63 3 _ (by decide) (Or.inl rfl) l_3
            have lo61_4 := f63 4 _ (by decide) (Or.inl rfl) l_4
            have lo61_5 := f63 5 _ (by decide) (Or.inl rfl) l_5
            refine wN_in (a := (h).toInt) (b := 1) rfl rfl lo61_3 rfl rfl (by omega) (fun x64 e65 => fun lo66 e67 f68 => ?_)
            have lo66_2 := f68 2 _ (by decide) (Or.inl rfl) e62
            have lo66_0 := f68 0 _ (by decide) (Or.inl rfl) lo61_0
            have lo66_1 := f68 1 _ (by decide) (Or.inl rfl) lo61_1
            have lo66_4 := f68 4 _ (by decide) (Or.inl rfl) lo61_4
            have lo66_5 := f68 5 _ (by decide) (Or.inl rfl) lo61_5
            exact yR_m 1 (fun _ _ _ _ => rfl) (h7 q1 q19 q37 y55 e56 x57 e58 q59 q60 x64 e65 lo66 lo66_0 lo66_1 lo66_2 e67 hm)
          ·
            refine yR_m 1 (fun _ _ _ _ => rfl) ?_
            refine wR_li rfl l_3 ?_
            refine yR_m 3 (fun _ _ _ _ => rfl) ?_
            refine wR_si rfl rfl (fun lo69 e70 f71 => ?_)
            have lo69_0 := f71 0 _ (by decide) (Or.inl rfl) l_0
            have lo69_1 := f71 1 _ (by decide) (Or.inl rfl) l_1
            have lo69_3 := f71 3 _ (by decide) (Or.inl rfl) l_3
            have lo69_4 := f71 4 _ (by decide) (Or.inl rfl) l_4
            have lo69_5 := f71 5 _ (by decide) (Or.inl rfl) l_5
            refine wN_in (a := (h).toInt) (b := 1) rfl rfl lo69_3 rfl rfl (by omega) (fun x72 e73 => fun lo74 e75 f76 => ?_)
            have lo74_2 := f76 2 _ (by decide) (Or.inl rfl) e70
            have lo74_0 := f76 0 _ (by decide) (Or.inl rfl) lo69_0
            have lo74_1 := f76 1 _ (by decide) (Or.inl rfl) lo69_1
            have lo74_4 := f76 4 _ (by decide) (Or.inl rfl) lo69_4
            have lo74_5 := f76 5 _ (by decide) (Or.inl rfl) lo69_5
            exact yR_m 1 (fun _ _ _ _ => rfl) (h8 q1 q19 q37 y55 e56 x57 e58 q59 q60 x72 e73 lo74 lo74_0 lo74_1 lo74_2 e75 hm)
        ·
          refine yR_m 2 (fun _ _ _ _ => rfl) ?_
          refine yR_rz rfl ⟨by decide, by decide⟩ ?_
          show yR zpg tX12_hueBits (d + 14) (40, lo, [.int 1], mem) _
          refine wR_if_eq rfl (a := 1) rfl (fun q => by exfalso; omega) (fun _ => ?_)
          refine yR_m 1 (fun _ _ _ _ => rfl) ?_
          refine wR_si rfl rfl (fun lo77 e78 f79 => ?_)
          have lo77_0 := f79 0 _ (by decide) (Or.inl rfl) l_0
          have lo77_1 := f79 1 _ (by decide) (Or.inl rfl) l_1
          have lo77_2 := f79 2 _ (by decide) (Or.inl rfl) l_2
          have lo77_3 := f79 3 _ (by decide) (Or.inl rfl) l_3
          have lo77_4 := f79 4 _ (by decide) (Or.inl rfl) l_4
          have lo77_5 := f79 5 _ (by decide) (Or.inl rfl) l_5
          exact h9 q1 q19 q37 y55 e56 x57 e58 q59 lo77 lo77_0 lo77_1 lo77_2 lo77_3 lo77_4 lo77_5 e78 hm

set_option maxRecDepth 100000 in
theorem w_hb46 {d : Nat} {mem : zM} {P : Option Value → zM → Prop} {t se h me k f : Int32} {lo : List (Nat × Value)} (hm : aTm aT0 mem) (l_0 : zlg lo 0 = some (.ref 221)) (l_1 : zlg lo 1 = some (.int t)) (l_2 : zlg lo 2 = some (.int se)) (l_3 : zlg lo 3 = some (.int h)) (l_4 : zlg lo 4 = some (.int me)) (l_5 : zlg lo 5 = some (.int k)) (l_6 : zlg lo 6 = some (.int f)) (hk : 0 ≤ k.toInt ∧ k.toInt ≤ 30) (hh : 0 ≤ h.toInt ∧ h.toInt ≤ 8) (hf : 0 ≤ f.toInt ∧ f.toInt ≤ 6) (f6 : gn (ga mem 233) (gi mem 221 13).toInt ≤ 6) (h1 : ∀ (y1 : Int32), y1.toInt = (gn (ga mem 233) (gi mem 221 13).toInt) → (gn (ga mem 233) (gi mem 221 13).toInt) ≤ (f).toInt → ∀ lo, zlg lo 0 = some (.ref 221) → zlg lo 1 = some (.int t) → zlg lo 2 = some (.int se) → zlg lo 3 = some (.int h) → zlg lo 4 = some (.int me) → zlg lo 5 = some (.int k) → zlg lo 6 = some (.int 0) → aTm aT0 mem → yR zpg tX12_hueBits (d + 14) (97, lo, [], mem) P) (h2 : ∀ (y1 : Int32), y1.toInt = (gn (ga mem 233) (gi mem 221 13).toInt) → (f).toInt < (gn (ga mem 233) (gi mem 221 13).toInt) → ∀ (x7 : Int32), x7.toInt = (31 * (h).toInt) → ∀ (x9 : Int32), x9.toInt = ((31 * (h).toInt) + (k).toInt) → ∀ (x11 : Int32), x11.toInt = (6 * ((31 * (h).toInt) + (k).toInt)) → ∀ (x13 : Int32), x13.toInt = ((6 * ((31 * (h).toInt) + (k).toInt)) + (f).toInt) → ∀ (x15 : Int32), x15.toInt = (6 + (f).toInt) → ∀ (y17 : Int32), y17.toInt = (gn (ga mem 252) (6 + (f).toInt)) → ∀ (x19 : Int32), x19.toInt = ((f).toInt + 1) → ∀ lo, zlg lo 0 = some (.ref 221) → zlg lo 1 = some (.int t) → zlg lo 2 = some (.int se) → zlg lo 3 = some (.int h) → zlg lo 4 = some (.int me) → zlg lo 5 = some (.int k) → zlg lo 6 = some (.int x19) → aTm aT0 (sx mem 267 x13 y17) → yR zpg tX12_hueBits (d + 14) (46, lo, [], (sx mem 267 x13 y17)) P) : yR zpg tX12_hueBits (d + 14) (46, lo, [], mem) P := by
  have rb := mO_r13 hm
  refine wR_li rfl l_6 ?_
  refine wR_la rfl l_0 ?_
  refine wR_gr rfl mO_e mO_24 hm ?_
  refine wR_la rfl l_0 ?_
  refine wR_gi rfl mO_e mO_13 hm rfl ?_
  refine wN_al (a := (gi mem 221 13).toInt) rfl aR_233 hm rfl rfl (by omega) (fun y1 e2 => ?_)
  refine wR_ic_ge rfl (a := (f).toInt) (c := (gn (ga mem 233) (gi mem 221 13).toInt)) rfl e2 (fun q3 => ?_) (fun q3 => ?_)
  ·
    refine yR_m 1 (fun _ _ _ _ => rfl) ?_
    refine wR_si rfl rfl (fun lo4 e5 f6 => ?_)
    have lo4_0 := f6 0 _ (by decide) (Or.inl rfl) l_0
    have lo4_1 := f6 1 _ (by decide) (Or.inl rfl) l_1
    have lo4_2 := f6 2 _ (by decide) (Or.inl rfl) l_2
    have lo4_3 := f6 3 _ (by decide) (Or.inl rfl) l_3
    have lo4_4 := f6 4 _ (by decide) (Or.inl rfl) l_4
    have lo4_5 := f6 5 _ (by decide) (Or.inl rfl) l_5
    exact h1 y1 e2 q3 lo4 lo4_0 lo4_1 lo4_2 lo4_3 lo4_4 lo4_5 e5 hm
  ·
    refine wR_la rfl l_0 ?_
    refine wR_gr rfl mO_e mO_70 hm ?_
    refine yR_m 2 (fun _ _ _ _ => rfl) ?_
    refine wR_li rfl l_3 ?_
    refine wN_mul (a := 31) (b := (h).toInt) rfl rfl rfl (by omega) (fun x7 e8 => ?_)
    refine wR_li rfl l_5 ?_
    refine wN_add (a := (31 * (h).toInt)) (b := (k).toInt) rfl e8 rfl (by omega) (fun x9 e10 => ?_)
    refine wN_mul (a := 6) (b := ((31 * (h).toInt) + (k).toInt)) rfl rfl e10 (by omega) (fun x11 e12 => ?_)
    refine wR_li rfl l_6 ?_
    refine wN_add (a := (6 * ((31 * (h).toInt) + (k).toInt))) (b := (f).toInt) rfl e12 rfl (by omega) (fun x13 e14 => ?_)
    refine wR_la rfl l_0 ?_
    refine wR_gr rfl mO_e mO_51 hm ?_
    refine yR_m 1 (fun _ _ _ _ => rfl) ?_
    refine wR_li rfl l_6 ?_
    refine wN_add (a := 6) (b := (f).toInt) rfl rfl rfl (by omega) (fun x15 e16 => ?_)
    refine wN_al (a := (6 + (f).toInt)) rfl aR_252 hm rfl e16 (by omega) (fun y17 e18 => ?_)
    refine wN_as (a := ((6 * ((31 * (h).toInt) + (k).toInt)) + (f).toInt)) rfl aR_267 hm e14 (by omega) ?_
    have hm_1 : aTm aT0 (sx mem 267 x13 y17) := tm_sa aR_267 hm (i32_b _)
    refine wN_in (a := (f).toInt) (b := 1) rfl rfl l_6 rfl rfl (by omega) (fun x19 e20 => fun lo21 e22 f23 => ?_)
    have lo21_0 := f23 0 _ (by decide) (Or.inl rfl) l_0
    have lo21_1 := f23 1 _ (by decide) (Or.inl rfl) l_1
    have lo21_2 := f23 2 _ (by decide) (Or.inl rfl) l_2
    have lo21_3 := f23 3 _ (by decide) (Or.inl rfl) l_3
    have lo21_4 := f23 4 _ (by decide) (Or.inl rfl) l_4
    have lo21_5 := f23 5 _ (by decide) (Or.inl rfl) l_5
    exact yR_m 1 (fun _ _ _ _ => rfl) (h2 y1 e2 q3 x7 e8 x9 e10 x11 e12 x13 e14 x15 e16 y17 e18 x19 e20 lo21 lo21_0 lo21_1 lo21_2 lo21_3 lo21_4 lo21_5 e22 hm_1)

set_option maxRecDepth 100000 in
theorem w_hb97 {d : Nat} {mem : zM} {P : Option Value → zM → Prop} {t se h me k f : Int32} {lo : List (Nat × Value)} (hm : aTm aT0 mem) (l_0 : zlg lo 0 = some (.ref 221)) (l_1 : zlg lo 1 = some (.int t)) (l_2 : zlg lo 2 = some (.int se)) (l_3 : zlg lo 3 = some (.int h)) (l_4 : zlg lo 4 = some (.int me)) (l_5 : zlg lo 5 = some (.int k)) (l_6 : zlg lo 6 = some (.int f)) {Q : Qd} {S1 : Sd} {hu : Int → Int} (hM : mB Q mem) (hW : WQ Q) (hX : X1 Q hu S1 mem) (hs1 : wS Q S1) (hH : wH Q hu) (hk : 0 ≤ k.toInt ∧ k.toInt ≤ 30) (hf : 0 ≤ f.toInt ∧ f.toInt ≤ 16) (h1 : (gi mem 221 66).toInt ≤ (f).toInt → ∀ (v4 : Int32) (m2 : zM), aTm aT0 m2 → (F1 mem m2 ∧ X1 Q hu (tkS Q hu ((-1) : Int32).toInt S1) m2) → ∀ (x5 : Int32), x5.toInt = ((k).toInt + 1) → ∀ lo, zlg lo 0 = some (.ref 221) → zlg lo 1 = some (.int t) → zlg lo 2 = some (.int se) → zlg lo 3 = some (.int h) → zlg lo 4 = some (.int me) → zlg lo 5 = some (.int x5) → aTm aT0 m2 → yR zpg tX12_hueBits (d + 14) (31, lo, [], m2) P) (h2 : (f).toInt < (gi mem 221 66).toInt → ∀ (y10 : Int32), y10.toInt = (gn (ga mem 264) (f).toInt) → ¬ (gn (ga mem 264) (f).toInt) = (k).toInt → ∀ (x16 : Int32), x16.toInt = ((f).toInt + 1) → ∀ lo, zlg lo 0 = some (.ref 221) → zlg lo 1 = some (.int t) → zlg lo 2 = some (.int se) → zlg lo 3 = some (.int h) → zlg lo 4 = some (.int (me + 0)) → zlg lo 5 = some (.int k) → zlg lo 6 = some (.int x16) → aTm aT0 mem → yR zpg tX12_hueBits (d + 14) (97, lo, [], mem) P) (h3 : (f).toInt < (gi mem 221 66).toInt → ∀ (y10 : Int32), y10.toInt = (gn (ga mem 264) (f).toInt) → (gn (ga mem 264) (f).toInt) = (k).toInt → ∀ (y21 : Int32), y21.toInt = (gn (ga mem 265) (f).toInt) → ∀ (x23 : Int32), x23.toInt = (6 + (gn (ga mem 265) (f).toInt)) → ∀ (y25 : Int32), y25.toInt = (gn (ga mem 252) (6 + (gn (ga mem 265) (f).toInt))) → ∀ (y27 : Int32), y27.toInt = (gn (ga mem 266) (f).toInt) → ¬ (gn (ga mem 252) (6 + (gn (ga mem 265) (f).toInt))) = (gn (ga mem 266) (f).toInt) → ∀ (x33 : Int32), x33.toInt = ((f).toInt + 1) → ∀ lo, zlg lo 0 = some (.ref 221) → zlg lo 1 = some (.int t) → zlg lo 2 = some (.int se) → zlg lo 3 = some (.int h) → zlg lo 4 = some (.int (me + 0)) → zlg lo 5 = some (.int k) → zlg lo 6 = some (.int x33) → aTm aT0 mem → yR zpg tX12_hueBits (d + 14) (97, lo, [], mem) P) (h4 : (f).toInt < (gi mem 221 66).toInt → ∀ (y10 : Int32), y10.toInt = (gn (ga mem 264) (f).toInt) → (gn (ga mem 264) (f).toInt) = (k).toInt → ∀ (y21 : Int32), y21.toInt = (gn (ga mem 265) (f).toInt) → ∀ (x23 : Int32), x23.toInt = (6 + (gn (ga mem 265) (f).toInt)) → ∀ (y25 : Int32), y25.toInt = (gn (ga mem 252) (6 + (gn (ga mem 265) (f).toInt))) → ∀ (y27 : Int32), y27.toInt = (gn (ga mem 266) (f).toInt) → (gn (ga mem 252) (6 + (gn (ga mem 265) (f).toInt))) = (gn (ga mem 266) (f).toInt) → ∀ (x41 : Int32), x41.toInt = ((f).toInt + 1) → ∀ lo, zlg lo 0 = some (.ref 221) → zlg lo 1 = some (.int t) → zlg lo 2 = some (.int se) → zlg lo 3 = some (.int h) → zlg lo 4 = some (.int (me + 1)) → zlg lo 5 = some (.int k) → zlg lo 6 = some (.int x41) → aTm aT0 mem → yR zpg tX12_hueBits (d + 14) (97, lo, [], mem) P) : yR zpg tX12_hueBits (d + 14) (97, lo, [], mem) P := by
  have rm := mO_r66 hm
  have q265 : f.toInt < 16 → 0 ≤ gn (ga mem 265) f.toInt ∧ gn (ga mem 265) f.toInt ≤ 5 := fun z => gR_265 hm hf.1 z
  refine wR_li rfl l_6 ?_
  refine wR_la rfl l_0 ?_
  refine wR_gi rfl mO_e mO_66 hm rfl ?_
  refine wR_ic_ge rfl (a := (f).toInt) (c := (gi mem 221 66).toInt) rfl rfl (fun q1 => ?_) (fun q1 => ?_)
  ·
    refine wR_la rfl l_0 ?_
    refine yR_m 2 (fun _ _ _ _ => rfl) ?_
    refine wR_cv rfl rfl mO_e hm rfl (h_t1 (Q := Q) (S := S1) (hu := hu) hm hM hW hX hs1 hH (by omega)) ?_
    rintro _ m2 ⟨v4, rfl, hm2, k3⟩
    show yR zpg tX12_hueBits (d + 14) (165, lo, [.int v4], m2) _
    refine yR_m 1 (fun _ _ _ _ => rfl) ?_
    refine wN_in (a := (k).toInt) (b := 1) rfl rfl l_5 rfl rfl (by omega) (fun x5 e6 => fun lo7 e8 f9 => ?_)
    have lo7_0 := f9 0 _ (by decide) (Or.inl rfl) l_0
    have lo7_1 := f9 1 _ (by decide) (Or.inl rfl) l_1
    have lo7_2 := f9 2 _ (by decide) (Or.inl rfl) l_2
    have lo7_3 := f9 3 _ (by decide) (Or.inl rfl) l_3
    have lo7_4 := f9 4 _ (by decide) (Or.inl rfl) l_4
    have lo7_6 := f9 6 _ (by decide) (Or.inl rfl) l_6
    exact yR_m 1 (fun _ _ _ _ => rfl) (h1 q1 v4 m2 hm2 k3 x5 e6 lo7 lo7_0 lo7_1 lo7_2 lo7_3 lo7_4 e8 hm2)
  ·
    refine wR_li rfl l_4 ?_
    refine wR_la rfl l_0 ?_
    refine wR_gr rfl mO_e mO_67 hm ?_
    refine wR_li rfl l_6 ?_
    refine wN_al (a := (f).toInt) rfl aR_264 hm rfl rfl (by omega) (fun y10 e11 => ?_)
    refine wR_li rfl l_5 ?_
    refine wR_ic_ne rfl (a := (gn (ga mem 264) (f).toInt)) (c := (k).toInt) e11 rfl (fun q12 => ?_) (fun q12 => ?_)
    ·
      refine yR_m 2 (fun _ _ _ _ => rfl) ?_
      refine wR_si rfl rfl (fun lo13 e14 f15 => ?_)
      have lo13_0 := f15 0 _ (by decide) (Or.inl rfl) l_0
      have lo13_1 := f15 1 _ (by decide) (Or.inl rfl) l_1
      have lo13_2 := f15 2 _ (by decide) (Or.inl rfl) l_2
      have lo13_3 := f15 3 _ (by decide) (Or.inl rfl) l_3
      have lo13_5 := f15 5 _ (by decide) (Or.inl rfl) l_5
      have lo13_6 := f15 6 _ (by decide) (Or.inl rfl) l_6
      refine wN_in (a := (f).toInt) (b := 1) rfl rfl lo13_6 rfl rfl (by omega) (fun x16 e17 => fun lo18 e19 f20 => ?_)
      have lo18_4 := f20 4 _ (by decide) (Or.inl rfl) e14
      have lo18_0 := f20 0 _ (by decide) (Or.inl rfl) lo13_0
      have lo18_1 := f20 1 _ (by decide) (Or.inl rfl) lo13_1
      have lo18_2 := f20 2 _ (by decide) (Or.inl rfl) lo13_2
      have lo18_3 := f20 3 _ (by decide) (Or.inl rfl) lo13_3
      have lo18_5 := f20 5 _ (by decide) (Or.inl rfl) lo13_5
      exact yR_m 1 (fun _ _ _ _ => rfl) (h2 q1 y10 e11 q12 x16 e17 lo18 lo18_0 lo18_1 lo18_2 lo18_3 lo18_4 lo18_5 e19 hm)
    ·
      refine wR_la rfl l_0 ?_
      refine wR_gr rfl mO_e mO_51 hm ?_
      refine yR_m 1 (fun _ _ _ _ => rfl) ?_
      refine wR_la rfl l_0 ?_
      refine wR_gr rfl mO_e mO_68 hm ?_
      refine wR_li rfl l_6 ?_
      refine wN_al (a := (f).toInt) rfl aR_265 hm rfl rfl (by omega) (fun y21 e22 => ?_)
      refine wN_add (a := 6) (b := (gn (ga mem 265) (f).toInt)) rfl rfl e22 (by omega) (fun x23 e24 => ?_)
      refine wN_al (a := (6 + (gn (ga mem 265) (f).toInt))) rfl aR_252 hm rfl e24 (by omega) (fun y25 e26 => ?_)
      refine wR_la rfl l_0 ?_
      refine wR_gr rfl mO_e mO_69 hm ?_
      refine wR_li rfl l_6 ?_
      refine wN_al (a := (f).toInt) rfl aR_266 hm rfl rfl (by omega) (fun y27 e28 => ?_)
      refine wR_ic_ne rfl (a := (gn (ga mem 252) (6 + (gn (ga mem 265) (f).toInt)))) (c := (gn (ga mem 266) (f).toInt)) e26 e28 (fun q29 => ?_) (fun q29 => ?_)
      ·
        refine yR_m 2 (fun _ _ _ _ => rfl) ?_
        refine wR_si rfl rfl (fun lo30 e31 f32 => ?_)
        have lo30_0 := f32 0 _ (by decide) (Or.inl rfl) l_0
        have lo30_1 := f32 1 _ (by decide) (Or.inl rfl) l_1
        have lo30_2 := f32 2 _ (by decide) (Or.inl rfl) l_2
        have lo30_3 := f32 3 _ (by decide) (Or.inl rfl) l_3
        have lo30_5 := f32 5 _ (by decide) (Or.inl rfl) l_5
        have lo30_6 := f32 6 _ (by decide) (Or.inl rfl) l_6
        refine wN_in (a := (f).toInt) (b := 1) rfl rfl lo30_6 rfl rfl (by omega) (fun x33 e34 => fun lo35 e36 f37 => ?_)
        have lo35_4 := f37 4 _ (by decide) (Or.inl rfl) e31
        have lo35_0 := f37 0 _ (by decide) (Or.inl rfl) lo30_0
        have lo35_1 := f37 1 _ (by decide) (Or.inl rfl) lo30_1
        have lo35_2 := f37 2 _ (by decide) (Or.inl rfl) lo30_2
        have lo35_3 := f37 3 _ (by decide) (Or.inl rfl) lo30_3
        have lo35_5 := f37 5 _ (by decide) (Or.inl rfl) lo30_5
        exact yR_m 1 (fun _ _ _ _ => rfl) (h3 q1 y10 e11 q12 y21 e22 x23 e24 y25 e26 y27 e28 q29 x33 e34 lo35 lo35_0 lo35_1 lo35_2 lo35_3 lo35_4 lo35_5 e36 hm)
      ·
        refine yR_m 3 (fun _ _ _ _ => rfl) ?_
        refine wR_si rfl rfl (fun lo38 e39 f40 => ?_)
        have lo38_0 := f40 0 _ (by decide) (Or.inl rfl) l_0
        have lo38_1 := f40 1 _ (by decide) (Or.inl rfl) l_1
        have lo38_2 := f40 2 _ (by decide) (Or.inl rfl) l_2
        have lo38_3 := f40 3 _ (by decide) (Or.inl rfl) l_3
        have lo38_5 := f40 5 _ (by decide) (Or.inl rfl) l_5
        have lo38_6 := f40 6 _ (by decide) (Or.inl rfl) l_6
        refine wN_in (a := (f).toInt) (b := 1) rfl rfl lo38_6 rfl rfl (by omega) (fun x41 e42 => fun lo43 e44 f45 => ?_)
        have lo43_4 := f45 4 _ (by decide) (Or.inl rfl) e39
        have lo43_0 := f45 0 _ (by decide) (Or.inl rfl) lo38_0
        have lo43_1 := f45 1 _ (by decide) (Or.inl rfl) lo38_1
        have lo43_2 := f45 2 _ (by decide) (Or.inl rfl) lo38_2
        have lo43_3 := f45 3 _ (by decide) (Or.inl rfl) lo38_3
        have lo43_5 := f45 5 _ (by decide) (Or.inl rfl) lo38_5
        exact yR_m 1 (fun _ _ _ _ => rfl) (h4 q1 y10 e11 q12 y21 e22 x23 e24 y25 e26 y27 e28 q29 x41 e42 lo43 lo43_0 lo43_1 lo43_2 lo43_3 lo43_4 lo43_5 e44 hm)

theorem hb_i {t se h k : Int32} {S1 : Sd} {h2 : Int → Int} (hMr : mB Q mr) (hW : WQ Q) (hs1 : wS Q S1) (hH2 : wH Q h2) (hk : 0 ≤ k.toInt ∧ k.toInt ≤ 30) (ih31 : ∀ (me k' : Int32) (mem : zM) (lo : List (Nat × Value)), k'.toInt = k.toInt + 1 → F2 t mr mem → X1 Q h2 (tkS Q h2 (-1) S1) mem → aTm aT0 mem → zlg lo 0 = some (.ref 221) → zlg lo 1 = some (.int t) → zlg lo 2 = some (.int se) → zlg lo 3 = some (.int h) → zlg lo 4 = some (.int me) → zlg lo 5 = some (.int k') → yR zpg tX12_hueBits (d + 14) (31, lo, [], mem) P) : ∀ (g : Nat) (f me : Int32) (mem : zM) (lo : List (Nat × Value)), f.toInt + (g : Int) = 17 → 0 ≤ f.toInt → f.toInt ≤ 16 → F2 t mr mem → X1 Q h2 S1 mem → aTm aT0 mem → zlg lo 0 = some (.ref 221) → zlg lo 1 = some (.int t) → zlg lo 2 = some (.int se) → zlg lo 3 = some (.int h) → zlg lo 4 = some (.int me) → zlg lo 5 = some (.int k) → zlg lo 6 = some (.int f) → yR zpg tX12_hueBits (d + 14) (97, lo, [], mem) P := by
  intro g
  induction g with
  | zero =>
    intro f me mem lo hg f0 f16
    omega
  | succ g ih =>
    intro f me mem lo hg f0 f16 hF hX hm l0 l1 l2 l3 l4 l5 l6
    have rm := mO_r66 hm
    exact w_hb97 hm l0 l1 l2 l3 l4 l5 l6 (F2_B hF hMr) hW hX hs1 hH2 hk ⟨f0, f16⟩ 
        (fun q1 v4 m2 hm2 k3 x5 e6 lo c0 c1 c2 c3 c4 c5 hm2 => by
        have z := k3
        rw [tm1] at z
        exact ih31 _ _ _ lo e6 (F2_1 hF z.1) z.2 hm2 c0 c1 c2 c3 c4 c5)
        (fun q1 y10 e11 q12 x16 e17 lo c0 c1 c2 c3 c4 c5 c6 hm2 => ih _ _ _ lo (by omega) (by omega) (by omega) hF hX hm2 c0 c1 c2 c3 c4 c5 c6)
        (fun q1 y10 e11 q12 y21 e22 x23 e24 y25 e26 y27 e28 q29 x33 e34 lo c0 c1 c2 c3 c4 c5 c6 hm2 => ih _ _ _ lo (by omega) (by omega) (by omega) hF hX hm2 c0 c1 c2 c3 c4 c5 c6)
        (fun q1 y10 e11 q12 y21 e22 x23 e24 y25 e26 y27 e28 q29 x41 e42 lo c0 c1 c2 c3 c4 c5 c6 hm2 => ih _ _ _ lo (by omega) (by omega) (by omega) hF hX hm2 c0 c1 c2 c3 c4 c5 c6)
theorem hb_f {t se h k me : Int32} {S1 : Sd} {h2 : Int → Int} (hMr : mB Q mr) (hW : WQ Q) (hs1 : wS Q S1) (hH2 : wH Q h2) (hk : 0 ≤ k.toInt ∧ k.toInt ≤ 30) (hh : 0 ≤ h.toInt ∧ h.toInt ≤ 8) (ih31 : ∀ (me k' : Int32) (mem : zM) (lo : List (Nat × Value)), k'.toInt = k.toInt + 1 → F2 t mr mem → X1 Q h2 (tkS Q h2 (-1) S1) mem → aTm aT0 mem → zlg lo 0 = some (.ref 221) → zlg lo 1 = some (.int t) → zlg lo 2 = some (.int se) → zlg lo 3 = some (.int h) → zlg lo 4 = some (.int me) → zlg lo 5 = some (.int k') → yR zpg tX12_hueBits (d + 14) (31, lo, [], mem) P) : ∀ (g : Nat) (f : Int32) (mem : zM) (lo : List (Nat × Value)), f.toInt + (g : Int) = 7 → 0 ≤ f.toInt → f.toInt ≤ 6 → F2 t mr mem → X1 Q h2 S1 mem → aTm aT0 mem → zlg lo 0 = some (.ref 221) → zlg lo 1 = some (.int t) → zlg lo 2 = some (.int se) → zlg lo 3 = some (.int h) → zlg lo 4 = some (.int me) → zlg lo 5 = some (.int k) → zlg lo 6 = some (.int f) → yR zpg tX12_hueBits (d + 14) (46, lo, [], mem) P := by
  intro g
  induction g with
  | zero =>
    intro f mem lo hg f0 f6
    omega
  | succ g ih =>
    intro f mem lo hg f0 f6 hF hX hm l0 l1 l2 l3 l4 l5 l6
    have hM := F2_B hF hMr
    have mf := hM.1.2.2.2.2.1.1
    have f9 := hW.2.1.2.1
    exact w_hb46 hm l0 l1 l2 l3 l4 l5 l6 hk hh ⟨f0, f6⟩ (by omega) 
        (fun y1 e2 q3 lo c0 c1 c2 c3 c4 c5 c6 hm2 => hb_i hMr hW hs1 hH2 hk ih31 17 0 me _ lo rfl (by decide) (by decide) hF hX hm2 c0 c1 c2 c3 c4 c5 c6)
        (fun y1 e2 q3 x7 e8 x9 e10 x11 e12 x13 e14 x15 e16 y17 e18 x19 e20 lo c0 c1 c2 c3 c4 c5 c6 hm2 => ih _ _ lo (by omega) (by omega) (by omega) (F2_c hF) (X1_c hX) hm2 c0 c1 c2 c3 c4 c5 c6)
theorem hb_k {t se h : Int32} {h2 : Int → Int} (hMr : mB Q mr) (hW : WQ Q) (hSr : tM 0 Q hu S mr) (hH2 : wH Q h2) (hh : 0 ≤ h.toInt ∧ h.toInt ≤ 8) (ih4 : ∀ (se' h' : Int32) (mem : zM) (lo : List (Nat × Value)), h'.toInt = h.toInt + 1 → F2 t mr mem → aTm aT0 mem → zlg lo 0 = some (.ref 221) → zlg lo 1 = some (.int t) → zlg lo 2 = some (.int se') → zlg lo 3 = some (.int h') → yR zpg tX12_hueBits (d + 14) (4, lo, [], mem) P) : ∀ (g : Nat) (k me : Int32) (S1 : Sd) (mem : zM) (lo : List (Nat × Value)), k.toInt + (g : Int) = 32 → 0 ≤ k.toInt → k.toInt ≤ 31 → F2 t mr mem → X1 Q h2 S1 mem → Sn S1 = Sn S + k.toInt → (Sn S + k.toInt ≤ 999 → wS Q S1) → aTm aT0 mem → zlg lo 0 = some (.ref 221) → zlg lo 1 = some (.int t) → zlg lo 2 = some (.int se) → zlg lo 3 = some (.int h) → zlg lo 4 = some (.int me) → zlg lo 5 = some (.int k) → yR zpg tX12_hueBits (d + 14) (31, lo, [], mem) P := by
  intro g
  induction g with
  | zero =>
    intro k me S1 mem lo hg k0 k31
    omega
  | succ g ih =>
    intro k me S1 mem lo hg k0 k31 hF hX hn hs1 hm l0 l1 l2 l3 l4 l5
    have n0 : gn (ga mem 249) 0 = Sn S := (hF.2.1.1 0 (by decide) (by decide)).1.trans hSr.1.1
    exact w_hb31 hm l0 l1 l2 l3 l4 l5 ⟨k0, k31⟩ hh 
        (fun q1 q2 x6 e7 lo c0 c1 c2 c3 hm2 => ih4 _ _ _ lo e7 hF hm2 c0 c1 c2 c3)
        (fun q1 q2 x14 e15 lo c0 c1 c2 c3 hm2 => ih4 _ _ _ lo e15 hF hm2 c0 c1 c2 c3)
        (fun q1 q19 q20 x24 e25 lo c0 c1 c2 c3 hm2 => ih4 _ _ _ lo e25 hF hm2 c0 c1 c2 c3)
        (fun q1 q19 q20 x32 e33 lo c0 c1 c2 c3 hm2 => ih4 _ _ _ lo e33 hF hm2 c0 c1 c2 c3)
        (fun q1 q19 q37 q38 x42 e43 lo c0 c1 c2 c3 hm2 => ih4 _ _ _ lo e43 hF hm2 c0 c1 c2 c3)
        (fun q1 q19 q37 q38 x50 e51 lo c0 c1 c2 c3 hm2 => ih4 _ _ _ lo e51 hF hm2 c0 c1 c2 c3)
        (fun q1 q19 q37 y55 e56 x57 e58 q59 q60 x64 e65 lo c0 c1 c2 c3 hm2 => ih4 _ _ _ lo e65 hF hm2 c0 c1 c2 c3)
        (fun q1 q19 q37 y55 e56 x57 e58 q59 q60 x72 e73 lo c0 c1 c2 c3 hm2 => ih4 _ _ _ lo e73 hF hm2 c0 c1 c2 c3)
        (fun q1 q19 q37 y55 e56 x57 e58 q59 lo c0 c1 c2 c3 c4 c5 c6 hm2 => by
        have w1 := hs1 (by omega)
        exact hb_f hMr hW w1 hH2 ⟨k0, by omega⟩ hh (fun me' k' m' lo e' f' x' h' c0 c1 c2 c3 c4 c5 => ih k' me' (tkS Q h2 (-1) S1) m' lo (by omega) (by omega) (by omega) f' x' (by show Sn S1 + 1 = _; omega) (fun z => tkS_w hW w1 (by omega)) h' c0 c1 c2 c3 c4 c5) 7 0 _ lo rfl (by decide) (by decide) hF hX hm2 c0 c1 c2 c3 c4 c5 c6)
theorem hb_h {t : Int32} (hMr : mB Q mr) (hW : WQ Q) (hSr : tM 0 Q hu S mr) (hs : wS Q S) (hH : wH Q hu) (hKr : kM 0 K mr) (hu9 : ∀ u, 0 ≤ u → u < thN Q → hu u = huA Q u) (ht : 0 ≤ t.toInt ∧ t.toInt < thN Q) (hl : (ga mr 255).length = 9) : ∀ (g : Nat) (h se : Int32) (mem : zM) (lo : List (Nat × Value)), h.toInt + (g : Int) = 10 → 0 ≤ h.toInt → h.toInt ≤ 9 → F2 t mr mem → aTm aT0 mem → zlg lo 0 = some (.ref 221) → zlg lo 1 = some (.int t) → zlg lo 2 = some (.int se) → zlg lo 3 = some (.int h) → yR zpg tX12_hueBits (d + 14) (4, lo, [], mem) (WF mr) := by
  intro g
  induction g with
  | zero =>
    intro h se mem lo hg h0 h9
    omega
  | succ g ih =>
    intro h se mem lo hg h0 h9 hF hm l0 l1 l2 l3
    have hM := F2_B hF hMr
    have t9 : thN Q ≤ 9 := by
      have := hW.2.1.1
      unfold thN
      omega
    have g0 := (mq_g hM.1 ht.1 ht.2).1
    have tc := zclamp ht.1
    exact w_hb4 (Q := Q) (S := S) (K := K) hm l0 l1 l2 l3 hW (F2_0 hW hF hSr) (F2_k hF hKr) ⟨ht.1, by omega⟩ ⟨h0, h9⟩ 
        (fun q1 x2 e3 x4 e5 y6 e7 hm2 => ⟨_, rfl, hm2, F2_e hF (by omega) ht.1 (by rw [e7, g0, hSr.2.2.2 _ ht.1 ht.2, hu9 _ ht.1 ht.2])⟩)
        (fun q1 m8 hm8 k9 x10 e11 lo c0 c1 c2 c3 c4 c5 hm2 => by
        obtain ⟨f8, x8⟩ := k9
        have F8 := F2_1 hF f8
        have FS := F2_s (x := x10) F8
        have eg : ∀ u, 0 ≤ u → gn (ga (sx m8 255 t x10) 255) u = if u = t.toInt then x10.toInt else gn (ga mr 255) u := fun u u0 => by
          obtain ⟨-, -, y, h3⟩ := F8
          show gn (ga (sa m8 255 t.toNatClampNeg x10) 255) u = _
          rw [ga_sa_eq, h3, List.set_set]
          exact gn_set rfl ht.1 (by omega) u0
        have hH2 : wH Q (fun u => gn (ga (sx m8 255 t x10) 255) u) := fun u u0 u1 => by
          show 1 ≤ gn _ u ∧ gn _ u ≤ 9
          rw [eg u u0]
          split
          · omega
          · rw [hSr.2.2.2 u u0 u1]
            exact hH u u0 u1
        exact hb_k (S := S) hMr hW hSr hH2 ⟨h0, by omega⟩ (fun se' h' m' lo e' f' g' c0 c1 c2 c3 => ih h' se' m' lo (by omega) (by omega) (by omega) f' g' c0 c1 c2 c3) 32 0 0 S _ lo rfl (by decide) (by decide) FS (X1_h x8 (fun q hq => ga_sa_ne (fun w => hq w.symm)) (fun u _ _ => rfl)) (by show Sn S = Sn S + 0; omega) (fun _ => hs) hm2 c0 c1 c2 c3 c4 c5)
theorem h_hb {t : Int32} (hm : aTm aT0 mem) (hM : mB Q mem) (hW : WQ Q) (hS : tM 0 Q hu S mem) (hs : wS Q S) (hH : wH Q hu) (hK : kM 0 K mem) (hu9 : ∀ u, 0 ≤ u → u < thN Q → hu u = huA Q u) (ht : 0 ≤ t.toInt ∧ t.toInt < thN Q) (hd : 15 ≤ d) : yC zpg d 260 [.ref 221, .int t] mem (fun r m => ∃ v : Int32, r = some (.int v) ∧ aTm aT0 m ∧ F1 mem m) := by
  obtain ⟨d, rfl⟩ : ∃ q, d = q + 15 := ⟨d - 15, by omega⟩
  have hl := (ga_ty aR_255 hm).2.1
  have tc := zclamp ht.1
  have t9 : thN Q ≤ 9 := by
    have := hW.2.1.1
    unfold thN
    omega
  refine yC_of (t := tX12_hueBits) rfl rfl ?_
  exact w_hb0 hm rfl rfl (fun lo a0 a1 a2 a3 hm2 => hb_h (S := S) (K := K) hM hW hS hs hH hK hu9 ht hl 10 0 0 _ lo rfl (by decide) (by decide) (F2_rf (by omega)) hm2 a0 a1 a2 a3)
set_option maxRecDepth 100000 in
theorem w_hs {d : Nat} {mem : zM} {P : Option Value → zM → Prop} {t : Int32} (hm : aTm aT0 mem) {Q : Qd} {S : Sd} {K : Kd} {hu : Int → Int} (hM : mB Q mem) (hW : WQ Q) (hS : tM 0 Q hu S mem) (hs : wS Q S) (hH : wH Q hu) (hK : kM 0 K mem) (hu9 : ∀ u, 0 ≤ u → u < thN Q → hu u = huA Q u) (h1 : (t).toInt < 0 → aTm aT0 mem → P (some (.int (-1))) mem) (h2 : 0 ≤ (t).toInt → ∀ (y2 : Int32), y2.toInt = (gn (ga mem 228) (gi mem 221 13).toInt) → (gn (ga mem 228) (gi mem 221 13).toInt) ≤ (t).toInt → aTm aT0 mem → P (some (.int (-1))) mem) (h3 : 0 ≤ (t).toInt → ∀ (y2 : Int32), y2.toInt = (gn (ga mem 228) (gi mem 221 13).toInt) → (t).toInt < (gn (ga mem 228) (gi mem 221 13).toInt) → ∀ (v7 : Int32) (m5 : zM), aTm aT0 m5 → F1 mem m5 → aTm aT0 m5 → P (some (.int v7)) m5) : yR zpg tX12_hues (d + 16) (0, [(0, .ref 221), (1, .int t)], [], mem) P := by
  have s0 := hS.1.1
  have s9 := hs.1
  have rb := mO_r13 hm
  have mt := hM.1.2.2.1.1
  have t9 := hW.2.1.1
  have e9 : thN Q = ((Qt Q).length : Int) := rfl
  have mf := hM.1.2.2.2.2.1.1
  have f9 := hW.2.1.2.1
  have ef9 : foN Q = ((Qf Q).length : Int) := rfl
  refine yR_m 2 (fun _ _ _ _ => rfl) ?_
  refine wR_iv rfl rfl mO_e hm rfl rfl rfl rfl ?_
  show yR zpg tX12_isThing (d + 15) (0, [(0, .ref 221), (1, .int t)], [], mem) _
  refine yR_m 1 (fun _ _ _ _ => rfl) ?_
  refine wR_if_lt rfl (a := (t).toInt) rfl (fun q1 => ?_) (fun q1 => ?_)
  ·
    refine yR_m 1 (fun _ _ _ _ => rfl) ?_
    refine yR_rz rfl ⟨by decide, by decide⟩ ?_
    show yR zpg tX12_hues (d + 16) (5, [(0, .ref 221), (1, .int t)], [.int 0], mem) _
    refine wR_if_eq rfl (a := 0) rfl (fun _ => ?_) (fun q => by exfalso; omega)
    refine yR_m 1 (fun _ _ _ _ => rfl) ?_
    exact yR_ri rfl (h1 q1 hm)
  ·
    refine yR_m 2 (fun _ _ _ _ => rfl) ?_
    refine wR_gr rfl mO_e mO_19 hm ?_
    refine yR_m 1 (fun _ _ _ _ => rfl) ?_
    refine wR_gi rfl mO_e mO_13 hm rfl ?_
    refine wN_al (a := (gi mem 221 13).toInt) rfl aR_228 hm rfl rfl (by omega) (fun y2 e3 => ?_)
    refine wR_ic_ge rfl (a := (t).toInt) (c := (gn (ga mem 228) (gi mem 221 13).toInt)) rfl e3 (fun q4 => ?_) (fun q4 => ?_)
    ·
      refine yR_m 1 (fun _ _ _ _ => rfl) ?_
      refine yR_rz rfl ⟨by decide, by decide⟩ ?_
      show yR zpg tX12_hues (d + 16) (5, [(0, .ref 221), (1, .int t)], [.int 0], mem) _
      refine wR_if_eq rfl (a := 0) rfl (fun _ => ?_) (fun q => by exfalso; omega)
      refine yR_m 1 (fun _ _ _ _ => rfl) ?_
      exact yR_ri rfl (h2 q1 y2 e3 q4 hm)
    ·
      refine yR_m 2 (fun _ _ _ _ => rfl) ?_
      refine yR_rz rfl ⟨by decide, by decide⟩ ?_
      show yR zpg tX12_hues (d + 16) (5, [(0, .ref 221), (1, .int t)], [.int 1], mem) _
      refine wR_if_eq rfl (a := 1) rfl (fun q => by exfalso; omega) (fun _ => ?_)
      refine yR_m 2 (fun _ _ _ _ => rfl) ?_
      refine wR_cv rfl rfl mO_e hm rfl (h_hb (Q := Q) (S := S) (K := K) (hu := hu) hm hM hW hS hs hH hK hu9 (by omega) (by omega)) ?_
      rintro _ m5 ⟨v7, rfl, hm5, k6⟩
      show yR zpg tX12_hues (d + 16) (13, [(0, .ref 221), (1, .int t)], [.int v7], m5) _
      refine yR_m 1 (fun _ _ _ _ => rfl) ?_
      exact yR_ri rfl (h3 q1 y2 e3 q4 v7 m5 hm5 k6 hm5)

theorem h_hs {t : Int32} (hm : aTm aT0 mem) (hM : mB Q mem) (hW : WQ Q) (hS : tM 0 Q hu S mem) (hs : wS Q S) (hH : wH Q hu) (hK : kM 0 K mem) (hu9 : ∀ u, 0 ≤ u → u < thN Q → hu u = huA Q u) (hd : 17 ≤ d) : yC zpg d 261 [.ref 221, .int t] mem (WF mem) := by
  obtain ⟨d, rfl⟩ : ∃ q, d = q + 17 := ⟨d - 17, by omega⟩
  have mt := hM.1.2.2.1.1
  have e9 : thN Q = ((Qt Q).length : Int) := rfl
  refine yC_of (t := tX12_hues) rfl rfl ?_
  exact w_hs (S := S) (K := K) (hu := hu) hm hM hW hS hs hH hK hu9 
        (fun q1 hm2 => ⟨_, rfl, hm2, F1_rf⟩)
        (fun q1 y2 e3 q4 hm2 => ⟨_, rfl, hm2, F1_rf⟩)
        (fun q1 y2 e3 q4 v7 m5 hm5 k6 hm2 => ⟨_, rfl, hm2, k6⟩)
set_option maxRecDepth 100000 in
theorem w_tl0 {d : Nat} {mem : zM} {P : Option Value → zM → Prop} {t wh : Int32} {lo : List (Nat × Value)} (hm : aTm aT0 mem) (l_0 : zlg lo 0 = some (.ref 221)) (l_1 : zlg lo 1 = some (.int t)) (l_2 : zlg lo 2 = some (.int wh)) {Q : Qd} {S : Sd} {K : Kd} {hu : Int → Int} (hM : mB Q mem) (hW : WQ Q) (hS : tM 0 Q hu S mem) (hs : wS Q S) (hH : wH Q hu) (hK : kM 0 K mem) (hu9 : ∀ u, 0 ≤ u → u < thN Q → hu u = huA Q u) (h1 : (t).toInt < 0 → aTm aT0 mem → P (some (.int (-1))) mem) (h2 : 0 ≤ (t).toInt → ∀ (y2 : Int32), y2.toInt = (gn (ga mem 228) (gi mem 221 13).toInt) → (gn (ga mem 228) (gi mem 221 13).toInt) ≤ (t).toInt → aTm aT0 mem → P (some (.int (-1))) mem) (h3 : 0 ≤ (t).toInt → ∀ (y2 : Int32), y2.toInt = (gn (ga mem 228) (gi mem 221 13).toInt) → (t).toInt < (gn (ga mem 228) (gi mem 221 13).toInt) → (wh).toInt < 0 → aTm aT0 mem → P (some (.int (-1))) mem) (h4 : 0 ≤ (t).toInt → ∀ (y2 : Int32), y2.toInt = (gn (ga mem 228) (gi mem 221 13).toInt) → (t).toInt < (gn (ga mem 228) (gi mem 221 13).toInt) → 0 ≤ (wh).toInt → 2 < (wh).toInt → aTm aT0 mem → P (some (.int (-1))) mem) (h5 : 0 ≤ (t).toInt → ∀ (y2 : Int32), y2.toInt = (gn (ga mem 228) (gi mem 221 13).toInt) → (t).toInt < (gn (ga mem 228) (gi mem 221 13).toInt) → 0 ≤ (wh).toInt → (wh).toInt ≤ 2 → ∀ (v9 : Int32) (m7 : zM), aTm aT0 m7 → F1 mem m7 → ∀ lo, zlg lo 0 = some (.ref 221) → zlg lo 1 = some (.int t) → zlg lo 2 = some (.int wh) → zlg lo 3 = some (.int v9) → zlg lo 4 = some (.int (-1)) → zlg lo 5 = some (.int 100000000) → zlg lo 6 = some (.int 1) → aTm aT0 m7 → yR zpg tX12_tells (d + 16) (36, lo, [], m7) P) : yR zpg tX12_tells (d + 16) (0, lo, [], mem) P := by
  have s0 := hS.1.1
  have s9 := hs.1
  have rb := mO_r13 hm
  have mt := hM.1.2.2.1.1
  have t9 := hW.2.1.1
  have e9 : thN Q = ((Qt Q).length : Int) := rfl
  have mf := hM.1.2.2.2.2.1.1
  have f9 := hW.2.1.2.1
  have ef9 : foN Q = ((Qf Q).length : Int) := rfl
  refine wR_la rfl l_0 ?_
  refine wR_li rfl l_1 ?_
  refine wR_iv rfl rfl mO_e hm rfl rfl rfl rfl ?_
  show yR zpg tX12_isThing (d + 15) (0, [(0, .ref 221), (1, .int t)], [], mem) _
  refine yR_m 1 (fun _ _ _ _ => rfl) ?_
  refine wR_if_lt rfl (a := (t).toInt) rfl (fun q1 => ?_) (fun q1 => ?_)
  ·
    refine yR_m 1 (fun _ _ _ _ => rfl) ?_
    refine yR_rz rfl ⟨by decide, by decide⟩ ?_
    show yR zpg tX12_tells (d + 16) (5, lo, [.int 0], mem) _
    refine wR_if_eq rfl (a := 0) rfl (fun _ => ?_) (fun q => by exfalso; omega)
    refine yR_m 1 (fun _ _ _ _ => rfl) ?_
    exact yR_ri rfl (h1 q1 hm)
  ·
    refine yR_m 2 (fun _ _ _ _ => rfl) ?_
    refine wR_gr rfl mO_e mO_19 hm ?_
    refine yR_m 1 (fun _ _ _ _ => rfl) ?_
    refine wR_gi rfl mO_e mO_13 hm rfl ?_
    refine wN_al (a := (gi mem 221 13).toInt) rfl aR_228 hm rfl rfl (by omega) (fun y2 e3 => ?_)
    refine wR_ic_ge rfl (a := (t).toInt) (c := (gn (ga mem 228) (gi mem 221 13).toInt)) rfl e3 (fun q4 => ?_) (fun q4 => ?_)
    ·
      refine yR_m 1 (fun _ _ _ _ => rfl) ?_
      refine yR_rz rfl ⟨by decide, by decide⟩ ?_
      show yR zpg tX12_tells (d + 16) (5, lo, [.int 0], mem) _
      refine wR_if_eq rfl (a := 0) rfl (fun _ => ?_) (fun q => by exfalso; omega)
      refine yR_m 1 (fun _ _ _ _ => rfl) ?_
      exact yR_ri rfl (h2 q1 y2 e3 q4 hm)
    ·
      refine yR_m 2 (fun _ _ _ _ => rfl) ?_
      refine yR_rz rfl ⟨by decide, by decide⟩ ?_
      show yR zpg tX12_tells (d + 16) (5, lo, [.int 1], mem) _
      refine wR_if_eq rfl (a := 1) rfl (fun q => by exfalso; omega) (fun _ => ?_)
      refine wR_li rfl l_2 ?_
      refine yR_m 2 (fun _ _ _ _ => rfl) ?_
      refine wR_is rfl rfl rfl rfl rfl rfl ?_
      show yR zpg tX12_is (d + 15) (0, [(0, .int wh), (1, .int 0), (2, .int 2)], [], mem) _
      refine yR_m 2 (fun _ _ _ _ => rfl) ?_
      refine wR_ic_lt rfl (a := (wh).toInt) (c := 0) rfl rfl (fun q5 => ?_) (fun q5 => ?_)
      ·
        refine yR_m 1 (fun _ _ _ _ => rfl) ?_
        refine yR_rz rfl ⟨by decide, by decide⟩ ?_
        show yR zpg tX12_tells (d + 16) (14, lo, [.int 0], mem) _
        refine wR_if_ne rfl (a := 0) rfl (fun q => by exfalso; omega) (fun _ => ?_)
        refine yR_m 1 (fun _ _ _ _ => rfl) ?_
        exact yR_ri rfl (h3 q1 y2 e3 q4 q5 hm)
      ·
        refine yR_m 2 (fun _ _ _ _ => rfl) ?_
        refine wR_ic_gt rfl (a := (wh).toInt) (c := 2) rfl rfl (fun q6 => ?_) (fun q6 => ?_)
        ·
          refine yR_m 1 (fun _ _ _ _ => rfl) ?_
          refine yR_rz rfl ⟨by decide, by decide⟩ ?_
          show yR zpg tX12_tells (d + 16) (14, lo, [.int 0], mem) _
          refine wR_if_ne rfl (a := 0) rfl (fun q => by exfalso; omega) (fun _ => ?_)
          refine yR_m 1 (fun _ _ _ _ => rfl) ?_
          exact yR_ri rfl (h4 q1 y2 e3 q4 q5 q6 hm)
        ·
          refine yR_m 2 (fun _ _ _ _ => rfl) ?_
          refine yR_rz rfl ⟨by decide, by decide⟩ ?_
          show yR zpg tX12_tells (d + 16) (14, lo, [.int 1], mem) _
          refine wR_if_ne rfl (a := 1) rfl (fun _ => ?_) (fun q => by exfalso; omega)
          refine wR_la rfl l_0 ?_
          refine wR_li rfl l_1 ?_
          refine wR_cv rfl rfl mO_e hm rfl (h_hb (Q := Q) (S := S) (K := K) (hu := hu) hm hM hW hS hs hH hK hu9 (by omega) (by omega)) ?_
          rintro _ m7 ⟨v9, rfl, hm7, k8⟩
          show yR zpg tX12_tells (d + 16) (24, lo, [.int v9], m7) _
          refine wR_si rfl rfl (fun lo10 e11 f12 => ?_)
          have lo10_0 := f12 0 _ (by decide) (Or.inl rfl) l_0
          have lo10_1 := f12 1 _ (by decide) (Or.inl rfl) l_1
          have lo10_2 := f12 2 _ (by decide) (Or.inl rfl) l_2
          refine yR_m 1 (fun _ _ _ _ => rfl) ?_
          refine wR_si rfl rfl (fun lo13 e14 f15 => ?_)
          have lo13_3 := f15 3 _ (by decide) (Or.inl rfl) e11
          have lo13_0 := f15 0 _ (by decide) (Or.inl rfl) lo10_0
          have lo13_1 := f15 1 _ (by decide) (Or.inl rfl) lo10_1
          have lo13_2 := f15 2 _ (by decide) (Or.inl rfl) lo10_2
          refine yR_m 1 (fun _ _ _ _ => rfl) ?_
          refine wR_si rfl rfl (fun lo16 e17 f18 => ?_)
          have lo16_4 := f18 4 _ (by decide) (Or.inl rfl) e14
          have lo16_3 := f18 3 _ (by decide) (Or.inl rfl) lo13_3
          have lo16_0 := f18 0 _ (by decide) (Or.inl rfl) lo13_0
          have lo16_1 := f18 1 _ (by decide) (Or.inl rfl) lo13_1
          have lo16_2 := f18 2 _ (by decide) (Or.inl rfl) lo13_2
          refine yR_m 1 (fun _ _ _ _ => rfl) ?_
          refine wR_si rfl rfl (fun lo19 e20 f21 => ?_)
          have lo19_5 := f21 5 _ (by decide) (Or.inl rfl) e17
          have lo19_4 := f21 4 _ (by decide) (Or.inl rfl) lo16_4
          have lo19_3 := f21 3 _ (by decide) (Or.inl rfl) lo16_3
          have lo19_0 := f21 0 _ (by decide) (Or.inl rfl) lo16_0
          have lo19_1 := f21 1 _ (by decide) (Or.inl rfl) lo16_1
          have lo19_2 := f21 2 _ (by decide) (Or.inl rfl) lo16_2
          exact h5 q1 y2 e3 q4 q5 q6 v9 m7 hm7 k8 lo19 lo19_0 lo19_1 lo19_2 lo19_3 lo19_4 lo19_5 e20 hm7

set_option maxRecDepth 100000 in
theorem w_tl36 {d : Nat} {mem : zM} {P : Option Value → zM → Prop} {t wh se be le k : Int32} {lo : List (Nat × Value)} (hm : aTm aT0 mem) (l_0 : zlg lo 0 = some (.ref 221)) (l_1 : zlg lo 1 = some (.int t)) (l_2 : zlg lo 2 = some (.int wh)) (l_3 : zlg lo 3 = some (.int se)) (l_4 : zlg lo 4 = some (.int be)) (l_5 : zlg lo 5 = some (.int le)) (l_6 : zlg lo 6 = some (.int k)) (hk : 1 ≤ k.toInt ∧ k.toInt ≤ 31) (hb : -1 ≤ be.toInt ∧ be.toInt ≤ 1000) (h1 : (gi mem 221 46).toInt = 0 → ¬ (be).toInt = (-1) → ¬ (wh).toInt = 0 → ¬ (wh).toInt = 1 → aTm aT0 mem → P (some (.int le)) mem) (h2 : (gi mem 221 46).toInt = 0 → ¬ (be).toInt = (-1) → ¬ (wh).toInt = 0 → (wh).toInt = 1 → ∀ (x5 : Int32), x5.toInt = ((be).toInt % 6) → aTm aT0 mem → P (some (.int x5)) mem) (h3 : (gi mem 221 46).toInt = 0 → ¬ (be).toInt = (-1) → (wh).toInt = 0 → ∀ (x7 : Int32), x7.toInt = ((be).toInt / 6) → aTm aT0 mem → P (some (.int x7)) mem) (h4 : (gi mem 221 46).toInt = 0 → (be).toInt = (-1) → aTm aT0 mem → P (some (.int (-1))) mem) (h5 : ¬ (gi mem 221 46).toInt = 0 → (k).toInt < 1 → ¬ (be).toInt = (-1) → ¬ (wh).toInt = 0 → ¬ (wh).toInt = 1 → aTm aT0 mem → P (some (.int le)) mem) (h6 : ¬ (gi mem 221 46).toInt = 0 → (k).toInt < 1 → ¬ (be).toInt = (-1) → ¬ (wh).toInt = 0 → (wh).toInt = 1 → ∀ (x13 : Int32), x13.toInt = ((be).toInt % 6) → aTm aT0 mem → P (some (.int x13)) mem) (h7 : ¬ (gi mem 221 46).toInt = 0 → (k).toInt < 1 → ¬ (be).toInt = (-1) → (wh).toInt = 0 → ∀ (x15 : Int32), x15.toInt = ((be).toInt / 6) → aTm aT0 mem → P (some (.int x15)) mem) (h8 : ¬ (gi mem 221 46).toInt = 0 → (k).toInt < 1 → (be).toInt = (-1) → aTm aT0 mem → P (some (.int (-1))) mem) (h9 : ¬ (gi mem 221 46).toInt = 0 → 1 ≤ (k).toInt → 30 < (k).toInt → ¬ (be).toInt = (-1) → ¬ (wh).toInt = 0 → ¬ (wh).toInt = 1 → aTm aT0 mem → P (some (.int le)) mem) (h10 : ¬ (gi mem 221 46).toInt = 0 → 1 ≤ (k).toInt → 30 < (k).toInt → ¬ (be).toInt = (-1) → ¬ (wh).toInt = 0 → (wh).toInt = 1 → ∀ (x21 : Int32), x21.toInt = ((be).toInt % 6) → aTm aT0 mem → P (some (.int x21)) mem) (h11 : ¬ (gi mem 221 46).toInt = 0 → 1 ≤ (k).toInt → 30 < (k).toInt → ¬ (be).toInt = (-1) → (wh).toInt = 0 → ∀ (x23 : Int32), x23.toInt = ((be).toInt / 6) → aTm aT0 mem → P (some (.int x23)) mem) (h12 : ¬ (gi mem 221 46).toInt = 0 → 1 ≤ (k).toInt → 30 < (k).toInt → (be).toInt = (-1) → aTm aT0 mem → P (some (.int (-1))) mem) (h13 : ¬ (gi mem 221 46).toInt = 0 → 1 ≤ (k).toInt → (k).toInt ≤ 30 → ∀ (y25 : Int32), y25.toInt = (gn (ga mem 249) 0) → ∀ (x27 : Int32), x27.toInt = (999 - (k).toInt) → (999 - (k).toInt) < (gn (ga mem 249) 0) → ¬ (be).toInt = (-1) → ¬ (wh).toInt = 0 → ¬ (wh).toInt = 1 → aTm aT0 mem → P (some (.int le)) mem) (h14 : ¬ (gi mem 221 46).toInt = 0 → 1 ≤ (k).toInt → (k).toInt ≤ 30 → ∀ (y25 : Int32), y25.toInt = (gn (ga mem 249) 0) → ∀ (x27 : Int32), x27.toInt = (999 - (k).toInt) → (999 - (k).toInt) < (gn (ga mem 249) 0) → ¬ (be).toInt = (-1) → ¬ (wh).toInt = 0 → (wh).toInt = 1 → ∀ (x33 : Int32), x33.toInt = ((be).toInt % 6) → aTm aT0 mem → P (some (.int x33)) mem) (h15 : ¬ (gi mem 221 46).toInt = 0 → 1 ≤ (k).toInt → (k).toInt ≤ 30 → ∀ (y25 : Int32), y25.toInt = (gn (ga mem 249) 0) → ∀ (x27 : Int32), x27.toInt = (999 - (k).toInt) → (999 - (k).toInt) < (gn (ga mem 249) 0) → ¬ (be).toInt = (-1) → (wh).toInt = 0 → ∀ (x35 : Int32), x35.toInt = ((be).toInt / 6) → aTm aT0 mem → P (some (.int x35)) mem) (h16 : ¬ (gi mem 221 46).toInt = 0 → 1 ≤ (k).toInt → (k).toInt ≤ 30 → ∀ (y25 : Int32), y25.toInt = (gn (ga mem 249) 0) → ∀ (x27 : Int32), x27.toInt = (999 - (k).toInt) → (999 - (k).toInt) < (gn (ga mem 249) 0) → (be).toInt = (-1) → aTm aT0 mem → P (some (.int (-1))) mem) (h17 : ¬ (gi mem 221 46).toInt = 0 → 1 ≤ (k).toInt → (k).toInt ≤ 30 → ∀ (y25 : Int32), y25.toInt = (gn (ga mem 249) 0) → ∀ (x27 : Int32), x27.toInt = (999 - (k).toInt) → (gn (ga mem 249) 0) ≤ (999 - (k).toInt) → (se).toInt = 0 → ¬ (be).toInt = (-1) → ¬ (wh).toInt = 0 → ¬ (wh).toInt = 1 → aTm aT0 mem → P (some (.int le)) mem) (h18 : ¬ (gi mem 221 46).toInt = 0 → 1 ≤ (k).toInt → (k).toInt ≤ 30 → ∀ (y25 : Int32), y25.toInt = (gn (ga mem 249) 0) → ∀ (x27 : Int32), x27.toInt = (999 - (k).toInt) → (gn (ga mem 249) 0) ≤ (999 - (k).toInt) → (se).toInt = 0 → ¬ (be).toInt = (-1) → ¬ (wh).toInt = 0 → (wh).toInt = 1 → ∀ (x41 : Int32), x41.toInt = ((be).toInt % 6) → aTm aT0 mem → P (some (.int x41)) mem) (h19 : ¬ (gi mem 221 46).toInt = 0 → 1 ≤ (k).toInt → (k).toInt ≤ 30 → ∀ (y25 : Int32), y25.toInt = (gn (ga mem 249) 0) → ∀ (x27 : Int32), x27.toInt = (999 - (k).toInt) → (gn (ga mem 249) 0) ≤ (999 - (k).toInt) → (se).toInt = 0 → ¬ (be).toInt = (-1) → (wh).toInt = 0 → ∀ (x43 : Int32), x43.toInt = ((be).toInt / 6) → aTm aT0 mem → P (some (.int x43)) mem) (h20 : ¬ (gi mem 221 46).toInt = 0 → 1 ≤ (k).toInt → (k).toInt ≤ 30 → ∀ (y25 : Int32), y25.toInt = (gn (ga mem 249) 0) → ∀ (x27 : Int32), x27.toInt = (999 - (k).toInt) → (gn (ga mem 249) 0) ≤ (999 - (k).toInt) → (se).toInt = 0 → (be).toInt = (-1) → aTm aT0 mem → P (some (.int (-1))) mem) (h21 : ¬ (gi mem 221 46).toInt = 0 → 1 ≤ (k).toInt → (k).toInt ≤ 30 → ∀ (y25 : Int32), y25.toInt = (gn (ga mem 249) 0) → ∀ (x27 : Int32), x27.toInt = (999 - (k).toInt) → (gn (ga mem 249) 0) ≤ (999 - (k).toInt) → ¬ (se).toInt = 0 → ∀ lo, zlg lo 0 = some (.ref 221) → zlg lo 1 = some (.int t) → zlg lo 2 = some (.int wh) → zlg lo 3 = some (.int se) → zlg lo 4 = some (.int be) → zlg lo 5 = some (.int le) → zlg lo 6 = some (.int k) → zlg lo 7 = some (.int 0) → aTm aT0 mem → yR zpg tX12_tells (d + 16) (55, lo, [], mem) P) : yR zpg tX12_tells (d + 16) (36, lo, [], mem) P := by
  refine wR_la rfl l_0 ?_
  refine wR_li rfl l_6 ?_
  refine yR_m 2 (fun _ _ _ _ => rfl) ?_
  refine wR_iv rfl rfl mO_e hm rfl rfl rfl rfl ?_
  show yR zpg tX12_isAhead (d + 15) (0, [(0, .ref 221), (1, .int k), (2, .int 1), (3, .int 30)], [], mem) _
  refine yR_m 1 (fun _ _ _ _ => rfl) ?_
  refine wR_gi rfl mO_e mO_46 hm rfl ?_
  refine wR_if_eq rfl (a := (gi mem 221 46).toInt) rfl (fun q1 => ?_) (fun q1 => ?_)
  ·
    refine yR_m 1 (fun _ _ _ _ => rfl) ?_
    refine yR_rz rfl ⟨by decide, by decide⟩ ?_
    show yR zpg tX12_tells (d + 16) (45, lo, [.int 0], mem) _
    refine wR_if_eq rfl (a := 0) rfl (fun _ => ?_) (fun q => by exfalso; omega)
    refine wR_li rfl l_4 ?_
    refine yR_m 1 (fun _ _ _ _ => rfl) ?_
    refine wR_ic_ne rfl (a := (be).toInt) (c := (-1)) rfl tm1 (fun q2 => ?_) (fun q2 => ?_)
    ·
      refine wR_li rfl l_2 ?_
      refine wR_if_ne rfl (a := (wh).toInt) rfl (fun q3 => ?_) (fun q3 => ?_)
      ·
        refine wR_li rfl l_2 ?_
        refine yR_m 1 (fun _ _ _ _ => rfl) ?_
        refine wR_ic_ne rfl (a := (wh).toInt) (c := 1) rfl rfl (fun q4 => ?_) (fun q4 => ?_)
        ·
          refine wR_li rfl l_5 ?_
          exact yR_ri rfl (h1 q1 q2 q3 q4 hm)
        ·
          refine wR_li rfl l_4 ?_
          refine yR_m 1 (fun _ _ _ _ => rfl) ?_
          refine wN_rem (a := (be).toInt) (b := 6) rfl rfl rfl (by decide) (by omega) (fun x5 e6 => ?_)
          refine yR_m 1 (fun _ _ _ _ => rfl) ?_
          exact yR_ri rfl (h2 q1 q2 q3 q4 x5 e6 hm)
      ·
        refine wR_li rfl l_4 ?_
        refine yR_m 1 (fun _ _ _ _ => rfl) ?_
        refine wN_div (a := (be).toInt) (b := 6) rfl rfl rfl (by decide) (by omega) (fun x7 e8 => ?_)
        refine yR_m 1 (fun _ _ _ _ => rfl) ?_
        exact yR_ri rfl (h3 q1 q2 q3 x7 e8 hm)
    ·
      refine yR_m 2 (fun _ _ _ _ => rfl) ?_
      exact yR_ri rfl (h4 q1 q2 hm)
  ·
    refine yR_m 3 (fun _ _ _ _ => rfl) ?_
    refine wR_is rfl rfl rfl rfl rfl rfl ?_
    show yR zpg tX12_is (d + 14) (0, [(0, .int k), (1, .int 1), (2, .int 30)], [], mem) _
    refine yR_m 2 (fun _ _ _ _ => rfl) ?_
    refine wR_ic_lt rfl (a := (k).toInt) (c := 1) rfl rfl (fun q9 => ?_) (fun q9 => ?_)
    ·
      refine yR_m 1 (fun _ _ _ _ => rfl) ?_
      refine yR_rz rfl ⟨by decide, by decide⟩ ?_
      show yR zpg tX12_isAhead (d + 15) (13, [(0, .ref 221), (1, .int k), (2, .int 1), (3, .int 30)], [.int 0], mem) _
      refine wR_if_eq rfl (a := 0) rfl (fun _ => ?_) (fun q => by exfalso; omega)
      refine yR_m 1 (fun _ _ _ _ => rfl) ?_
      refine yR_rz rfl ⟨by decide, by decide⟩ ?_
      show yR zpg tX12_tells (d + 16) (45, lo, [.int 0], mem) _
      refine wR_if_eq rfl (a := 0) rfl (fun _ => ?_) (fun q => by exfalso; omega)
      refine wR_li rfl l_4 ?_
      refine yR_m 1 (fun _ _ _ _ => rfl) ?_
      refine wR_ic_ne rfl (a := (be).toInt) (c := (-1)) rfl tm1 (fun q10 => ?_) (fun q10 => ?_)
      ·
        refine wR_li rfl l_2 ?_
        refine wR_if_ne rfl (a := (wh).toInt) rfl (fun q11 => ?_) (fun q11 => ?_)
        ·
          refine wR_li rfl l_2 ?_
          refine yR_m 1 (fun _ _ _ _ => rfl) ?_
          refine wR_ic_ne rfl (a := (wh).toInt) (c := 1) rfl rfl (fun q12 => ?_) (fun q12 => ?_)
          ·
            refine wR_li rfl l_5 ?_
            exact yR_ri rfl (h5 q1 q9 q10 q11 q12 hm)
          ·
            refine wR_li rfl l_4 ?_
            refine yR_m 1 (fun _ _ _ _ => rfl) ?_
            refine wN_rem (a := (be).toInt) (b := 6) rfl rfl rfl (by decide) (by omega) (fun x13 e14 => ?_)
            refine yR_m 1 (fun _ _ _ _ => rfl) ?_
            exact yR_ri rfl (h6 q1 q9 q10 q11 q12 x13 e14 hm)
        ·
          refine wR_li rfl l_4 ?_
          refine yR_m 1 (fun _ _ _ _ => rfl) ?_
          refine wN_div (a := (be).toInt) (b := 6) rfl rfl rfl (by decide) (by omega) (fun x15 e16 => ?_)
          refine yR_m 1 (fun _ _ _ _ => rfl) ?_
          exact yR_ri rfl (h7 q1 q9 q10 q11 x15 e16 hm)
      ·
        refine yR_m 2 (fun _ _ _ _ => rfl) ?_
        exact yR_ri rfl (h8 q1 q9 q10 hm)
    ·
      refine yR_m 2 (fun _ _ _ _ => rfl) ?_
      refine wR_ic_gt rfl (a := (k).toInt) (c := 30) rfl rfl (fun q17 => ?_) (fun q17 => ?_)
      ·
        refine yR_m 1 (fun _ _ _ _ => rfl) ?_
        refine yR_rz rfl ⟨by decide, by decide⟩ ?_
        show yR zpg tX12_isAhead (d + 15) (13, [(0, .ref 221), (1, .int k), (2, .int 1), (3, .int 30)], [.int 0], mem) _
        refine wR_if_eq rfl (a := 0) rfl (fun _ => ?_) (fun q => by exfalso; omega)
        refine yR_m 1 (fun _ _ _ _ => rfl) ?_
        refine yR_rz rfl ⟨by decide, by decide⟩ ?_
        show yR zpg tX12_tells (d + 16) (45, lo, [.int 0], mem) _
        refine wR_if_eq rfl (a := 0) rfl (fun _ => ?_) (fun q => by exfalso; omega)
        refine wR_li rfl l_4 ?_
        refine yR_m 1 (fun _ _ _ _ => rfl) ?_
        refine wR_ic_ne rfl (a := (be).toInt) (c := (-1)) rfl tm1 (fun q18 => ?_) (fun q18 => ?_)
        ·
          refine wR_li rfl l_2 ?_
          refine wR_if_ne rfl (a := (wh).toInt) rfl (fun q19 => ?_) (fun q19 => ?_)
          ·
            refine wR_li rfl l_2 ?_
            refine yR_m 1 (fun _ _ _ _ => rfl) ?_
            refine wR_ic_ne rfl (a := (wh).toInt) (c := 1) rfl rfl (fun q20 => ?_) (fun q20 => ?_)
            ·
              refine wR_li rfl l_5 ?_
              exact yR_ri rfl (h9 q1 q9 q17 q18 q19 q20 hm)
            ·
              refine wR_li rfl l_4 ?_
              refine yR_m 1 (fun _ _ _ _ => rfl) ?_
              refine wN_rem (a := (be).toInt) (b := 6) rfl rfl rfl (by decide) (by omega) (fun x21 e22 => ?_)
              refine yR_m 1 (fun _ _ _ _ => rfl) ?_
              exact yR_ri rfl (h10 q1 q9 q17 q18 q19 q20 x21 e22 hm)
          ·
            refine wR_li rfl l_4 ?_
            refine yR_m 1 (fun _ _ _ _ => rfl) ?_
            refine wN_div (a := (be).toInt) (b := 6) rfl rfl rfl (by decide) (by omega) (fun x23 e24 => ?_)
            refine yR_m 1 (fun _ _ _ _ => rfl) ?_
            exact yR_ri rfl (h11 q1 q9 q17 q18 q19 x23 e24 hm)
        ·
          refine yR_m 2 (fun _ _ _ _ => rfl) ?_
          exact yR_ri rfl (h12 q1 q9 q17 q18 hm)
      ·
        refine yR_m 2 (fun _ _ _ _ => rfl) ?_
        refine yR_rz rfl ⟨by decide, by decide⟩ ?_
        show yR zpg tX12_isAhead (d + 15) (13, [(0, .ref 221), (1, .int k), (2, .int 1), (3, .int 30)], [.int 1], mem) _
        refine wR_if_eq rfl (a := 1) rfl (fun q => by exfalso; omega) (fun _ => ?_)
        refine yR_m 1 (fun _ _ _ _ => rfl) ?_
        refine wR_gr rfl mO_e mO_48 hm ?_
        refine yR_m 1 (fun _ _ _ _ => rfl) ?_
        refine wN_al (a := 0) rfl aR_249 hm rfl rfl (by decide) (fun y25 e26 => ?_)
        refine yR_m 2 (fun _ _ _ _ => rfl) ?_
        refine wN_sub (a := 999) (b := (k).toInt) rfl rfl rfl (by omega) (fun x27 e28 => ?_)
        refine wR_ic_gt rfl (a := (gn (ga mem 249) 0)) (c := (999 - (k).toInt)) e26 e28 (fun q29 => ?_) (fun q29 => ?_)
        ·
          refine yR_m 1 (fun _ _ _ _ => rfl) ?_
          refine yR_rz rfl ⟨by decide, by decide⟩ ?_
          show yR zpg tX12_tells (d + 16) (45, lo, [.int 0], mem) _
          refine wR_if_eq rfl (a := 0) rfl (fun _ => ?_) (fun q => by exfalso; omega)
          refine wR_li rfl l_4 ?_
          refine yR_m 1 (fun _ _ _ _ => rfl) ?_
          refine wR_ic_ne rfl (a := (be).toInt) (c := (-1)) rfl tm1 (fun q30 => ?_) (fun q30 => ?_)
          ·
            refine wR_li rfl l_2 ?_
            refine wR_if_ne rfl (a := (wh).toInt) rfl (fun q31 => ?_) (fun q31 => ?_)
            ·
              refine wR_li rfl l_2 ?_
              refine yR_m 1 (fun _ _ _ _ => rfl) ?_
              refine wR_ic_ne rfl (a := (wh).toInt) (c := 1) rfl rfl (fun q32 => ?_) (fun q32 => ?_)
              ·
                refine wR_li rfl l_5 ?_
                exact yR_ri rfl (h13 q1 q9 q17 y25 e26 x27 e28 q29 q30 q31 q32 hm)
              ·
                refine wR_li rfl l_4 ?_
                refine yR_m 1 (fun _ _ _ _ => rfl) ?_
                refine wN_rem (a := (be).toInt) (b := 6) rfl rfl rfl (by decide) (by omega) (fun x33 e34 => ?_)
                refine yR_m 1 (fun _ _ _ _ => rfl) ?_
                exact yR_ri rfl (h14 q1 q9 q17 y25 e26 x27 e28 q29 q30 q31 q32 x33 e34 hm)
            ·
              refine wR_li rfl l_4 ?_
              refine yR_m 1 (fun _ _ _ _ => rfl) ?_
              refine wN_div (a := (be).toInt) (b := 6) rfl rfl rfl (by decide) (by omega) (fun x35 e36 => ?_)
              refine yR_m 1 (fun _ _ _ _ => rfl) ?_
              exact yR_ri rfl (h15 q1 q9 q17 y25 e26 x27 e28 q29 q30 q31 x35 e36 hm)
          ·
            refine yR_m 2 (fun _ _ _ _ => rfl) ?_
            exact yR_ri rfl (h16 q1 q9 q17 y25 e26 x27 e28 q29 q30 hm)
        ·
          refine yR_m 2 (fun _ _ _ _ => rfl) ?_
          refine yR_rz rfl ⟨by decide, by decide⟩ ?_
          show yR zpg tX12_tells (d + 16) (45, lo, [.int 1], mem) _
          refine wR_if_eq rfl (a := 1) rfl (fun q => by exfalso; omega) (fun _ => ?_)
          refine wR_li rfl l_3 ?_
          refine wR_if_eq rfl (a := (se).toInt) rfl (fun q37 => ?_) (fun q37 => ?_)
          ·
            refine wR_li rfl l_4 ?_
            refine yR_m 1 (fun _ _ _ _ => rfl) ?_
            refine wR_ic_ne rfl (a := (be).toInt) (c := (-1)) rfl tm1 (fun q38 => ?_) (fun q38 => ?_)
            ·
              refine wR_li rfl l_2 ?_
              refine wR_if_ne rfl (a := (wh).toInt) rfl (fun q39 => ?_) (fun q39 => ?_)
              ·
                refine wR_li rfl l_2 ?_
                refine yR_m 1 (fun _ _ _ _ => rfl) ?_
                refine wR_ic_ne rfl (a := (wh).toInt) (c := 1) rfl rfl (fun q40 => ?_) (fun q40 => ?_)
                ·
                  refine wR_li rfl l_5 ?_
                  exact yR_ri rfl (h17 q1 q9 q17 y25 e26 x27 e28 q29 q37 q38 q39 q40 hm)
                ·
                  refine wR_li rfl l_4 ?_
                  refine yR_m 1 (fun _ _ _ _ => rfl) ?_
                  refine wN_rem (a := (be).toInt) (b := 6) rfl rfl rfl (by decide) (by omega) (fun x41 e42 => ?_)
                  refine yR_m 1 (fun _ _ _ _ => rfl) ?_
                  exact yR_ri rfl (h18 q1 q9 q17 y25 e26 x27 e28 q29 q37 q38 q39 q40 x41 e42 hm)
              ·
                refine wR_li rfl l_4 ?_
                refine yR_m 1 (fun _ _ _ _ => rfl) ?_
                refine wN_div (a := (be).toInt) (b := 6) rfl rfl rfl (by decide) (by omega) (fun x43 e44 => ?_)
                refine yR_m 1 (fun _ _ _ _ => rfl) ?_
                exact yR_ri rfl (h19 q1 q9 q17 y25 e26 x27 e28 q29 q37 q38 q39 x43 e44 hm)
            ·
              refine yR_m 2 (fun _ _ _ _ => rfl) ?_
              exact yR_ri rfl (h20 q1 q9 q17 y25 e26 x27 e28 q29 q37 q38 hm)
          ·
            refine yR_m 1 (fun _ _ _ _ => rfl) ?_
            refine wR_si rfl rfl (fun lo45 e46 f47 => ?_)
            have lo45_0 := f47 0 _ (by decide) (Or.inl rfl) l_0
            have lo45_1 := f47 1 _ (by decide) (Or.inl rfl) l_1
            have lo45_2 := f47 2 _ (by decide) (Or.inl rfl) l_2
            have lo45_3 := f47 3 _ (by decide) (Or.inl rfl) l_3
            have lo45_4 := f47 4 _ (by decide) (Or.inl rfl) l_4
            have lo45_5 := f47 5 _ (by decide) (Or.inl rfl) l_5
            have lo45_6 := f47 6 _ (by decide) (Or.inl rfl) l_6
            exact h21 q1 q9 q17 y25 e26 x27 e28 q29 q37 lo45 lo45_0 lo45_1 lo45_2 lo45_3 lo45_4 lo45_5 lo45_6 e46 hm

set_option maxRecDepth 100000 in
theorem w_tl55 {d : Nat} {mem : zM} {P : Option Value → zM → Prop} {t wh se be le k f : Int32} {lo : List (Nat × Value)} (hm : aTm aT0 mem) (l_0 : zlg lo 0 = some (.ref 221)) (l_1 : zlg lo 1 = some (.int t)) (l_2 : zlg lo 2 = some (.int wh)) (l_3 : zlg lo 3 = some (.int se)) (l_4 : zlg lo 4 = some (.int be)) (l_5 : zlg lo 5 = some (.int le)) (l_6 : zlg lo 6 = some (.int k)) (l_7 : zlg lo 7 = some (.int f)) (hk : 1 ≤ k.toInt ∧ k.toInt ≤ 30) (hf : 0 ≤ f.toInt ∧ f.toInt ≤ 6) (f6 : gn (ga mem 233) (gi mem 221 13).toInt ≤ 6) (h1 : ∀ (y1 : Int32), y1.toInt = (gn (ga mem 233) (gi mem 221 13).toInt) → (gn (ga mem 233) (gi mem 221 13).toInt) ≤ (f).toInt → ∀ (x4 : Int32), x4.toInt = ((k).toInt + 1) → ∀ lo, zlg lo 0 = some (.ref 221) → zlg lo 1 = some (.int t) → zlg lo 2 = some (.int wh) → zlg lo 3 = some (.int se) → zlg lo 4 = some (.int be) → zlg lo 5 = some (.int le) → zlg lo 6 = some (.int x4) → aTm aT0 mem → yR zpg tX12_tells (d + 16) (36, lo, [], mem) P) (h2 : ∀ (y1 : Int32), y1.toInt = (gn (ga mem 233) (gi mem 221 13).toInt) → (f).toInt < (gn (ga mem 233) (gi mem 221 13).toInt) → ∀ (v9 : Int32), True → (v9).toInt < (le).toInt → ∀ (x18 : Int32), x18.toInt = (6 * (k).toInt) → ∀ (x20 : Int32), x20.toInt = ((6 * (k).toInt) + (f).toInt) → ∀ (x25 : Int32), x25.toInt = ((f).toInt + 1) → ∀ lo, zlg lo 0 = some (.ref 221) → zlg lo 1 = some (.int t) → zlg lo 2 = some (.int wh) → zlg lo 3 = some (.int se) → zlg lo 4 = some (.int x20) → zlg lo 5 = some (.int v9) → zlg lo 6 = some (.int k) → zlg lo 7 = some (.int x25) → aTm aT0 mem → yR zpg tX12_tells (d + 16) (55, lo, [], mem) P) (h3 : ∀ (y1 : Int32), y1.toInt = (gn (ga mem 233) (gi mem 221 13).toInt) → (f).toInt < (gn (ga mem 233) (gi mem 221 13).toInt) → ∀ (v9 : Int32), True → (le).toInt ≤ (v9).toInt → ∀ (x30 : Int32), x30.toInt = ((f).toInt + 1) → ∀ lo, zlg lo 0 = some (.ref 221) → zlg lo 1 = some (.int t) → zlg lo 2 = some (.int wh) → zlg lo 3 = some (.int se) → zlg lo 4 = some (.int be) → zlg lo 5 = some (.int le) → zlg lo 6 = some (.int k) → zlg lo 7 = some (.int x30) → aTm aT0 mem → yR zpg tX12_tells (d + 16) (55, lo, [], mem) P) : yR zpg tX12_tells (d + 16) (55, lo, [], mem) P := by
  have rb := mO_r13 hm
  refine wR_li rfl l_7 ?_
  refine wR_la rfl l_0 ?_
  refine wR_gr rfl mO_e mO_24 hm ?_
  refine wR_la rfl l_0 ?_
  refine wR_gi rfl mO_e mO_13 hm rfl ?_
  refine wN_al (a := (gi mem 221 13).toInt) rfl aR_233 hm rfl rfl (by omega) (fun y1 e2 => ?_)
  refine wR_ic_ge rfl (a := (f).toInt) (c := (gn (ga mem 233) (gi mem 221 13).toInt)) rfl e2 (fun q3 => ?_) (fun q3 => ?_)
  ·
    refine wN_in (a := (k).toInt) (b := 1) rfl rfl l_6 rfl rfl (by omega) (fun x4 e5 => fun lo6 e7 f8 => ?_)
    have lo6_0 := f8 0 _ (by decide) (Or.inl rfl) l_0
    have lo6_1 := f8 1 _ (by decide) (Or.inl rfl) l_1
    have lo6_2 := f8 2 _ (by decide) (Or.inl rfl) l_2
    have lo6_3 := f8 3 _ (by decide) (Or.inl rfl) l_3
    have lo6_4 := f8 4 _ (by decide) (Or.inl rfl) l_4
    have lo6_5 := f8 5 _ (by decide) (Or.inl rfl) l_5
    have lo6_7 := f8 7 _ (by decide) (Or.inl rfl) l_7
    exact yR_m 1 (fun _ _ _ _ => rfl) (h1 y1 e2 q3 x4 e5 lo6 lo6_0 lo6_1 lo6_2 lo6_3 lo6_4 lo6_5 e7 hm)
  ·
    refine wR_la rfl l_0 ?_
    refine wR_li rfl l_3 ?_
    refine wR_li rfl l_6 ?_
    refine wR_li rfl l_7 ?_
    refine wR_cv rfl rfl mO_e hm rfl (h_mb hm (by omega) (by omega) (by omega)) ?_
    rintro _ _ ⟨v9, rfl, rfl, k10⟩
    show yR zpg tX12_tells (d + 16) (78, lo, [.int v9], mem) _
    refine wR_si rfl rfl (fun lo11 e12 f13 => ?_)
    have lo11_0 := f13 0 _ (by decide) (Or.inl rfl) l_0
    have lo11_1 := f13 1 _ (by decide) (Or.inl rfl) l_1
    have lo11_2 := f13 2 _ (by decide) (Or.inl rfl) l_2
    have lo11_3 := f13 3 _ (by decide) (Or.inl rfl) l_3
    have lo11_4 := f13 4 _ (by decide) (Or.inl rfl) l_4
    have lo11_5 := f13 5 _ (by decide) (Or.inl rfl) l_5
    have lo11_6 := f13 6 _ (by decide) (Or.inl rfl) l_6
    have lo11_7 := f13 7 _ (by decide) (Or.inl rfl) l_7
    refine wR_li rfl e12 ?_
    refine wR_li rfl lo11_5 ?_
    refine wR_ic_lt rfl (a := (v9).toInt) (c := (le).toInt) rfl rfl (fun q14 => ?_) (fun q14 => ?_)
    ·
      refine wR_li rfl e12 ?_
      refine wR_si rfl rfl (fun lo15 e16 f17 => ?_)
      have lo15_8 := f17 8 _ (by decide) (Or.inl rfl) e12
      have lo15_0 := f17 0 _ (by decide) (Or.inl rfl) lo11_0
      have lo15_1 := f17 1 _ (by decide) (Or.inl rfl) lo11_1
      have lo15_2 := f17 2 _ (by decide) (Or.inl rfl) lo11_2
      have lo15_3 := f17 3 _ (by decide) (Or.inl rfl) lo11_3
      have lo15_4 := f17 4 _ (by decide) (Or.inl rfl) lo11_4
      have lo15_6 := f17 6 _ (by decide) (Or.inl rfl) lo11_6
      have lo15_7 := f17 7 _ (by decide) (Or.inl rfl) lo11_7
      refine yR_m 1 (fun _ _ _ _ => rfl) ?_
      refine wR_li rfl lo15_6 ?_
      refine wN_mul (a := 6) (b := (k).toInt) rfl rfl rfl (by omega) (fun x18 e19 => ?_)
      refine wR_li rfl lo15_7 ?_
      refine wN_add (a := (6 * (k).toInt)) (b := (f).toInt) rfl e19 rfl (by omega) (fun x20 e21 => ?_)
      refine wR_si rfl rfl (fun lo22 e23 f24 => ?_)
      have lo22_5 := f24 5 _ (by decide) (Or.inl rfl) e16
      have lo22_8 := f24 8 _ (by decide) (Or.inl rfl) lo15_8
      have lo22_0 := f24 0 _ (by decide) (Or.inl rfl) lo15_0
      have lo22_1 := f24 1 _ (by decide) (Or.inl rfl) lo15_1
      have lo22_2 := f24 2 _ (by decide) (Or.inl rfl) lo15_2
      have lo22_3 := f24 3 _ (by decide) (Or.inl rfl) lo15_3
      have lo22_6 := f24 6 _ (by decide) (Or.inl rfl) lo15_6
      have lo22_7 := f24 7 _ (by decide) (Or.inl rfl) lo15_7
      refine wN_in (a := (f).toInt) (b := 1) rfl rfl lo22_7 rfl rfl (by omega) (fun x25 e26 => fun lo27 e28 f29 => ?_)
      have lo27_4 := f29 4 _ (by decide) (Or.inl rfl) e23
      have lo27_5 := f29 5 _ (by decide) (Or.inl rfl) lo22_5
      have lo27_8 := f29 8 _ (by decide) (Or.inl rfl) lo22_8
      have lo27_0 := f29 0 _ (by decide) (Or.inl rfl) lo22_0
      have lo27_1 := f29 1 _ (by decide) (Or.inl rfl) lo22_1
      have lo27_2 := f29 2 _ (by decide) (Or.inl rfl) lo22_2
      have lo27_3 := f29 3 _ (by decide) (Or.inl rfl) lo22_3
      have lo27_6 := f29 6 _ (by decide) (Or.inl rfl) lo22_6
      exact yR_m 1 (fun _ _ _ _ => rfl) (h2 y1 e2 q3 v9 k10 q14 x18 e19 x20 e21 x25 e26 lo27 lo27_0 lo27_1 lo27_2 lo27_3 lo27_4 lo27_5 lo27_6 e28 hm)
    ·
      refine yR_m 1 (fun _ _ _ _ => rfl) ?_
      refine wN_in (a := (f).toInt) (b := 1) rfl rfl lo11_7 rfl rfl (by omega) (fun x30 e31 => fun lo32 e33 f34 => ?_)
      have lo32_8 := f34 8 _ (by decide) (Or.inl rfl) e12
      have lo32_0 := f34 0 _ (by decide) (Or.inl rfl) lo11_0
      have lo32_1 := f34 1 _ (by decide) (Or.inl rfl) lo11_1
      have lo32_2 := f34 2 _ (by decide) (Or.inl rfl) lo11_2
      have lo32_3 := f34 3 _ (by decide) (Or.inl rfl) lo11_3
      have lo32_4 := f34 4 _ (by decide) (Or.inl rfl) lo11_4
      have lo32_5 := f34 5 _ (by decide) (Or.inl rfl) lo11_5
      have lo32_6 := f34 6 _ (by decide) (Or.inl rfl) lo11_6
      exact yR_m 1 (fun _ _ _ _ => rfl) (h3 y1 e2 q3 v9 k10 q14 x30 e31 lo32 lo32_0 lo32_1 lo32_2 lo32_3 lo32_4 lo32_5 lo32_6 e33 hm)

theorem te_f {t wh se k : Int32} (hm : aTm aT0 mem) (hk : 1 ≤ k.toInt ∧ k.toInt ≤ 30) (f6 : gn (ga mem 233) (gi mem 221 13).toInt ≤ 6) (ih36 : ∀ (be le k' : Int32) (lo : List (Nat × Value)), k'.toInt = k.toInt + 1 → -1 ≤ be.toInt → be.toInt ≤ 1000 → zlg lo 0 = some (.ref 221) → zlg lo 1 = some (.int t) → zlg lo 2 = some (.int wh) → zlg lo 3 = some (.int se) → zlg lo 4 = some (.int be) → zlg lo 5 = some (.int le) → zlg lo 6 = some (.int k') → yR zpg tX12_tells (d + 16) (36, lo, [], mem) P) : ∀ (g : Nat) (f be le : Int32) (lo : List (Nat × Value)), f.toInt + (g : Int) = 7 → 0 ≤ f.toInt → f.toInt ≤ 6 → -1 ≤ be.toInt → be.toInt ≤ 1000 → zlg lo 0 = some (.ref 221) → zlg lo 1 = some (.int t) → zlg lo 2 = some (.int wh) → zlg lo 3 = some (.int se) → zlg lo 4 = some (.int be) → zlg lo 5 = some (.int le) → zlg lo 6 = some (.int k) → zlg lo 7 = some (.int f) → yR zpg tX12_tells (d + 16) (55, lo, [], mem) P := by
  intro g
  induction g with
  | zero =>
    intro f be le lo hg f0 f9
    omega
  | succ g ih =>
    intro f be le lo hg f0 f9 b0 b1 l0 l1 l2 l3 l4 l5 l6 l7
    exact w_tl55 hm l0 l1 l2 l3 l4 l5 l6 l7 hk ⟨f0, f9⟩ f6 
        (fun y1 e2 q3 x4 e5 lo c0 c1 c2 c3 c4 c5 c6 hm2 => ih36 _ _ _ lo e5 b0 b1 c0 c1 c2 c3 c4 c5 c6)
        (fun y1 e2 q3 v9 k10 q14 x18 e19 x20 e21 x25 e26 lo c0 c1 c2 c3 c4 c5 c6 c7 hm2 => ih _ _ _ lo (by omega) (by omega) (by omega) (by omega) (by omega) c0 c1 c2 c3 c4 c5 c6 c7)
        (fun y1 e2 q3 v9 k10 q14 x30 e31 lo c0 c1 c2 c3 c4 c5 c6 c7 hm2 => ih _ _ _ lo (by omega) (by omega) (by omega) (by omega) (by omega) c0 c1 c2 c3 c4 c5 c6 c7)
theorem te_k {t wh se : Int32} (hm : aTm aT0 mem) (f6 : gn (ga mem 233) (gi mem 221 13).toInt ≤ 6) (hF : F1 mr mem) : ∀ (g : Nat) (k be le : Int32) (lo : List (Nat × Value)), k.toInt + (g : Int) = 32 → 1 ≤ k.toInt → k.toInt ≤ 31 → -1 ≤ be.toInt → be.toInt ≤ 1000 → zlg lo 0 = some (.ref 221) → zlg lo 1 = some (.int t) → zlg lo 2 = some (.int wh) → zlg lo 3 = some (.int se) → zlg lo 4 = some (.int be) → zlg lo 5 = some (.int le) → zlg lo 6 = some (.int k) → yR zpg tX12_tells (d + 16) (36, lo, [], mem) (WF mr) := by
  intro g
  induction g with
  | zero =>
    intro k be le lo hg k0 k9
    omega
  | succ g ih =>
    intro k be le lo hg k0 k9 b0 b1 l0 l1 l2 l3 l4 l5 l6
    exact w_tl36 hm l0 l1 l2 l3 l4 l5 l6 ⟨k0, k9⟩ ⟨b0, b1⟩ 
        (fun q1 q2 q3 q4 hm2 => ⟨_, rfl, hm2, hF⟩)
        (fun q1 q2 q3 q4 x5 e6 hm2 => ⟨_, rfl, hm2, hF⟩)
        (fun q1 q2 q3 x7 e8 hm2 => ⟨_, rfl, hm2, hF⟩)
        (fun q1 q2 hm2 => ⟨_, rfl, hm2, hF⟩)
        (fun q1 q9 q10 q11 q12 hm2 => ⟨_, rfl, hm2, hF⟩)
        (fun q1 q9 q10 q11 q12 x13 e14 hm2 => ⟨_, rfl, hm2, hF⟩)
        (fun q1 q9 q10 q11 x15 e16 hm2 => ⟨_, rfl, hm2, hF⟩)
        (fun q1 q9 q10 hm2 => ⟨_, rfl, hm2, hF⟩)
        (fun q1 q9 q17 q18 q19 q20 hm2 => ⟨_, rfl, hm2, hF⟩)
        (fun q1 q9 q17 q18 q19 q20 x21 e22 hm2 => ⟨_, rfl, hm2, hF⟩)
        (fun q1 q9 q17 q18 q19 x23 e24 hm2 => ⟨_, rfl, hm2, hF⟩)
        (fun q1 q9 q17 q18 hm2 => ⟨_, rfl, hm2, hF⟩)
        (fun q1 q9 q17 y25 e26 x27 e28 q29 q30 q31 q32 hm2 => ⟨_, rfl, hm2, hF⟩)
        (fun q1 q9 q17 y25 e26 x27 e28 q29 q30 q31 q32 x33 e34 hm2 => ⟨_, rfl, hm2, hF⟩)
        (fun q1 q9 q17 y25 e26 x27 e28 q29 q30 q31 x35 e36 hm2 => ⟨_, rfl, hm2, hF⟩)
        (fun q1 q9 q17 y25 e26 x27 e28 q29 q30 hm2 => ⟨_, rfl, hm2, hF⟩)
        (fun q1 q9 q17 y25 e26 x27 e28 q29 q37 q38 q39 q40 hm2 => ⟨_, rfl, hm2, hF⟩)
        (fun q1 q9 q17 y25 e26 x27 e28 q29 q37 q38 q39 q40 x41 e42 hm2 => ⟨_, rfl, hm2, hF⟩)
        (fun q1 q9 q17 y25 e26 x27 e28 q29 q37 q38 q39 x43 e44 hm2 => ⟨_, rfl, hm2, hF⟩)
        (fun q1 q9 q17 y25 e26 x27 e28 q29 q37 q38 hm2 => ⟨_, rfl, hm2, hF⟩)
        (fun q1 q9 q17 y25 e26 x27 e28 q29 q37 lo c0 c1 c2 c3 c4 c5 c6 c7 hm2 => te_f hm ⟨k0, by omega⟩ f6 (fun be le k' lo e b0 b1 c0 c1 c2 c3 c4 c5 c6 => ih k' be le lo (by omega) (by omega) (by omega) b0 b1 c0 c1 c2 c3 c4 c5 c6) 7 0 _ _ lo rfl (by decide) (by decide) b0 b1 c0 c1 c2 c3 c4 c5 c6 c7)
theorem h_te {t wh : Int32} (hm : aTm aT0 mem) (hM : mB Q mem) (hW : WQ Q) (hS : tM 0 Q hu S mem) (hs : wS Q S) (hH : wH Q hu) (hK : kM 0 K mem) (hu9 : ∀ u, 0 ≤ u → u < thN Q → hu u = huA Q u) (hd : 17 ≤ d) : yC zpg d 263 [.ref 221, .int t, .int wh] mem (WF mem) := by
  obtain ⟨d, rfl⟩ : ∃ q, d = q + 17 := ⟨d - 17, by omega⟩
  have mt := hM.1.2.2.1.1
  have e9 : thN Q = ((Qt Q).length : Int) := rfl
  refine yC_of (t := tX12_tells) rfl rfl ?_
  exact w_tl0 (S := S) (K := K) (hu := hu) hm rfl rfl rfl hM hW hS hs hH hK hu9 
        (fun q1 hm2 => ⟨_, rfl, hm2, F1_rf⟩)
        (fun q1 y2 e3 q4 hm2 => ⟨_, rfl, hm2, F1_rf⟩)
        (fun q1 y2 e3 q4 q5 hm2 => ⟨_, rfl, hm2, F1_rf⟩)
        (fun q1 y2 e3 q4 q5 q6 hm2 => ⟨_, rfl, hm2, F1_rf⟩)
        (fun q1 y2 e3 q4 q5 q6 v9 m7 hm7 k8 lo c0 c1 c2 c3 c4 c5 c6 hm2 => te_k hm2 (by
      have r := mO_r13 hm2
      exact (gR_233 hm2 (i := (gi m7 221 13).toInt) r.1 (by omega)).2) k8 31 _ _ _ lo rfl (by decide) (by decide) (by decide) (by decide) c0 c1 c2 c3 c4 c5 c6)
end HBM
