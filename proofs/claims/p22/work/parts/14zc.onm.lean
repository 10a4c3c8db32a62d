/-! on of the model: what it answers -/
section OM
variable {d : Nat} {mem m m0 : zM} {Y Z : Qd} {T U : List Int32} {n ff k f : Int32} {E : zM → Prop}
theorem bv_n0 {x : BitVec 32} (h : 0 ≤ x.toInt) : (x.toNat : Int) = x.toInt := by
  rw [BitVec.toInt_eq_toNat_cond] at h ⊢
  by_cases c : 2 * x.toNat < 2 ^ 32
  · rw [if_pos c]
  · rw [if_neg c] at h
    exfalso
    have l := x.isLt
    omega
theorem or8 {a b : Int32} (ha : 0 ≤ a.toInt ∧ a.toInt ≤ 255) (hb : 0 ≤ b.toInt ∧ b.toInt ≤ 255) : ((a <<< (8 &&& 31)) ||| b).toInt = a.toInt * 256 + b.toInt := by
  have ea : (a.toBitVec.toNat : Int) = a.toInt := bv_n0 ha.1
  have eb : (b.toBitVec.toNat : Int) = b.toInt := bv_n0 hb.1
  have e : (a.toBitVec <<< (8 : Nat) ||| b.toBitVec).toNat = a.toBitVec.toNat * 256 + b.toBitVec.toNat := by
    rw [BitVec.toNat_or, BitVec.toNat_shiftLeft, Nat.mod_eq_of_lt (by rw [Nat.shiftLeft_eq]; omega), ← Nat.shiftLeft_add_eq_or_of_lt (by omega), Nat.shiftLeft_eq]
  show (a.toBitVec <<< (((8 &&& 31 : Int32)).toBitVec.smod 32#32).toNat ||| b.toBitVec).toInt = _
  rw [show ((((8 &&& 31 : Int32)).toBitVec.smod 32#32).toNat) = 8 by decide]
  rw [BitVec.toInt_eq_toNat_of_lt (by rw [e]; omega), e]
  omega
theorem wal_sa {j : Nat} {x : Int32} {c : Int} : wal (sa m 252 j x) c ↔ wal m c := by
  unfold wal bkN
  rw [ga_sa_ne (by decide), gi_sa]
/-- what of the memory comesOn looks at -/
def cfM (T : List Int32) (Z : Qd) (m : zM) : Prop := ga m 222 = T ∧ colsI m = Qc Z ∧ rowsI m = Qr Z ∧ (∀ c, 0 ≤ c → c < 64 → (wal m c ↔ c ∈ Qw Z)) ∧ gn (ga m 228) (gi m 221 13).toInt = ((Qt Z).length : Int) ∧ gn (ga m 233) (gi m 221 13).toInt = ((Qf Z).length : Int)
theorem cf_pr (h : aPr aT0 m0 m) (k : cfM T Z m0) : cfM T Z m := by
  unfold cfM wal colsI rowsI bkN at k ⊢
  rw [pr_ga (k := 222) h rfl, pr_ga (k := 223) h rfl, pr_ga (k := 224) h rfl, pr_ga (k := 227) h rfl, pr_ga (k := 228) h rfl, pr_ga (k := 233) h rfl, pr_gi (k := 221) (i := 13) h rfl]
  exact k
theorem cf_tk (k : cfM T Z m) : cfM T Z (si m 221 1 0) := by
  unfold cfM wal colsI rowsI bkN at k ⊢
  rw [ga_sv, ga_sv, ga_sv, ga_sv, ga_sv, ga_sv, gi_sv_ne (by decide)]
  exact k
theorem h_foF {z : Int} (hE : aEs (aΘ0 E)) (hd : 4 ≤ d) (hk : 0 ≤ k.toInt ∧ k.toInt ≤ 5) (ef : f.toInt = z) (hf : 0 ≤ z ∧ z ≤ 1000) (hI : wI (aΘ0 E) m0 mem) (hz : szOK mem) (hK : cfM T Z mem) (h46 : ¬ (gi mem 221 46).toInt = 0) : yC zpg d 276 [.ref 221, .int k, .int f] mem (fun r m => ∃ v : Int32, r = some (.int v) ∧ wI (aΘ0 E) m0 m ∧ isB v (frO Z (gn T z) (gn T (z + 1)))) := by
  obtain ⟨d, rfl⟩ : ∃ q, d = q + 4 := ⟨d - 4, by omega⟩
  subst ef
  obtain ⟨z1, z2, z3, z4⟩ := id hz
  have eT := hK.1
  subst eT
  have g0 := gR_222 hI.1.1 (i := f.toInt) hf.1 (by omega)
  have g1 := gR_222 hI.1.1 (i := f.toInt + 1) (by omega) (by omega)
  have eC := hK.2.1
  have eR := hK.2.2.1
  refine yC_of (t := tX12_folkOn) rfl rfl ?_
  exact w_folkOn hE hI hz hk hf
        (fun y1 e2 x3 e4 y5 e6 v7 k8 q9 x10 e11 y12 e13 => by obtain ⟨-, c1, c2, c3, c4⟩ := isB_1 k8 q9; omega)
        (fun y1 e2 x3 e4 y5 e6 v7 k8 q9 x10 e11 y12 e13 x14 e15 y16 e17 => by obtain ⟨-, c1, c2, c3, c4⟩ := isB_1 k8 q9; omega)
        (fun y1 e2 x3 e4 y5 e6 v7 k8 q9 x10 e11 y12 e13 x14 e15 y16 e17 x18 e19 x20 e21 => by obtain ⟨-, c1, c2, c3, c4⟩ := isB_1 k8 q9; omega)
        (fun y1 e2 x3 e4 y5 e6 v7 k8 q9 x10 e11 y12 e13 x14 e15 y16 e17 x18 e19 x20 e21 => by obtain ⟨-, c1, c2, c3, c4⟩ := isB_1 k8 q9; omega)
        (fun y1 e2 x3 e4 y5 e6 v7 k8 q9 x10 e11 y12 e13 x14 e15 y16 e17 x18 e19 x20 e21 v22 k23 q24 hI2 => by
          obtain ⟨-, c1, c2, c3, c4⟩ := isB_1 k8 q9
          have hw := hK.2.2.2.1 x18.toInt (by omega) (by omega)
          rw [← wal_sa (j := _) (x := x18)] at hw
          have e : 8 * gn (ga mem 222) (f.toInt + 1) + gn (ga mem 222) f.toInt = x18.toInt := by omega
          exact ⟨0, rfl, hI2, Or.inr ⟨rfl, fun w => w.2.2 (by rw [e]; exact hw.1 (isB_1 k23 q24))⟩⟩)
        (fun y1 e2 x3 e4 y5 e6 v7 k8 q9 x10 e11 y12 e13 x14 e15 y16 e17 x18 e19 x20 e21 v22 k23 q24 hI2 => by
          obtain ⟨-, c1, c2, c3, c4⟩ := isB_1 k8 q9
          have hw := hK.2.2.2.1 x18.toInt (by omega) (by omega)
          rw [← wal_sa (j := _) (x := x18)] at hw
          have e : 8 * gn (ga mem 222) (f.toInt + 1) + gn (ga mem 222) f.toInt = x18.toInt := by omega
          exact ⟨1, rfl, hI2, Or.inl ⟨rfl, by omega, by omega, fun z => isB_0 k23 q24 (hw.2 (by rw [← e]; exact z))⟩⟩)
        (fun y1 e2 x3 e4 y5 e6 v7 k8 q9 hI2 => ⟨0, rfl, hI2, Or.inr ⟨rfl, fun w => isB_0 k8 q9 ⟨h46, by omega, by have w1 := w.1; omega, by omega, by have w1 := w.2.1; omega⟩⟩⟩)
set_option maxRecDepth 100000 in
theorem w_cp_256 {E : zM → Prop} (hE : aEs (aΘ0 E)) {d : Nat} {m0 mem : zM} {P : Option Value → zM → Prop} {ff k : Int32} {T : List Int32} {Z : Qd} {lo : List (Nat × Value)} (hm : wI (aΘ0 E) m0 mem) (l_0 : zlg lo 0 = some (.ref 221)) (l_2 : zlg lo 2 = some (.int ff)) (l_4 : zlg lo 4 = some (.int k)) (hz : szOK mem) (hK : cfM T Z m0) (hQ4 : ¬ (gi m0 221 46).toInt = 0) (hff : 0 ≤ ff.toInt ∧ ff.toInt ≤ 20) (hk : 0 ≤ k.toInt ∧ k.toInt ≤ 6) (h1 : ∀ (y1 : Int32), y1.toInt = (gn (ga mem 233) (gi mem 221 13).toInt) → (gn (ga mem 233) (gi mem 221 13).toInt) ≤ (k).toInt → wI (aΘ0 E) m0 mem → P (some (.int 1)) mem) (h2 : ∀ (y1 : Int32), y1.toInt = (gn (ga mem 233) (gi mem 221 13).toInt) → (k).toInt < (gn (ga mem 233) (gi mem 221 13).toInt) → ∀ (x4 : Int32), x4.toInt = (2 * (k).toInt) → ∀ (x6 : Int32), x6.toInt = ((ff).toInt + (2 * (k).toInt)) → ∀ (v10 : Int32) (m8 : zM), wI (aΘ0 E) m0 m8 → isB v10 (frO Z (gn T ((ff).toInt + (2 * (k).toInt))) (gn T (((ff).toInt + (2 * (k).toInt)) + 1))) → ¬ (v10).toInt = 0 → ∀ (x12 : Int32), x12.toInt = ((k).toInt + 1) → ∀ lo, zlg lo 0 = some (.ref 221) → zlg lo 2 = some (.int ff) → zlg lo 4 = some (.int x12) → wI (aΘ0 E) m0 m8 → yR zpg tX12_comesOn (d + 5) (256, lo, [], m8) P) (h3 : ∀ (y1 : Int32), y1.toInt = (gn (ga mem 233) (gi mem 221 13).toInt) → (k).toInt < (gn (ga mem 233) (gi mem 221 13).toInt) → ∀ (x4 : Int32), x4.toInt = (2 * (k).toInt) → ∀ (x6 : Int32), x6.toInt = ((ff).toInt + (2 * (k).toInt)) → ∀ (v10 : Int32) (m8 : zM), wI (aΘ0 E) m0 m8 → isB v10 (frO Z (gn T ((ff).toInt + (2 * (k).toInt))) (gn T (((ff).toInt + (2 * (k).toInt)) + 1))) → (v10).toInt = 0 → wI (aΘ0 E) m0 m8 → P (some (.int 0)) m8) : yR zpg tX12_comesOn (d + 5) (256, lo, [], mem) P := by
  obtain ⟨b0, b1⟩ := mO_r13 hm.1.1
  have fk := gR_233 hm.1.1 (i := (gi mem 221 13).toInt) b0 (by omega)
  refine wR_li rfl l_4 ?_
  refine wR_la rfl l_0 ?_
  refine wR_gr rfl mO_e mO_24 hm.1.1 ?_
  refine wR_la rfl l_0 ?_
  refine wR_gi rfl mO_e mO_13 hm.1.1 rfl ?_
  refine wN_al (a := (gi mem 221 13).toInt) rfl aR_233 hm.1.1 rfl rfl (by omega) (fun y1 e2 => ?_)
  refine wR_ic_ge rfl (a := (k).toInt) (c := (gn (ga mem 233) (gi mem 221 13).toInt)) rfl e2 (fun q3 => ?_) (fun q3 => ?_)
  ·
    refine yR_m 1 (fun _ _ _ _ => rfl) ?_
    exact yR_rz rfl ⟨by decide, by decide⟩ (h1 y1 e2 q3 hm)
  ·
    refine wR_la rfl l_0 ?_
    refine wR_li rfl l_4 ?_
    refine wR_li rfl l_2 ?_
    refine yR_m 1 (fun _ _ _ _ => rfl) ?_
    refine wR_li rfl l_4 ?_
    refine wN_mul (a := 2) (b := (k).toInt) rfl rfl rfl (by omega) (fun x4 e5 => ?_)
    refine wN_add (a := (ff).toInt) (b := (2 * (k).toInt)) rfl rfl e5 (by omega) (fun x6 e7 => ?_)
    refine wR_cv rfl rfl mO_e hm.1.1 rfl (h_foF (T := T) (Z := Z) hE (by omega) (by omega) e7 (by omega) (hm) hz (cf_pr hm.2 hK) (by rw [pr_gi hm.2 rfl]; exact hQ4)) ?_
    rintro _ m8 ⟨v10, rfl, hI8, k9⟩
    show yR zpg tX12_comesOn (d + 5) (282, lo, [.int v10], m8) _
    refine wR_if_ne rfl (a := (v10).toInt) rfl (fun q11 => ?_) (fun q11 => ?_)
    ·
      refine wN_in (a := (k).toInt) (b := 1) rfl rfl l_4 rfl rfl (by omega) (fun x12 e13 => fun lo14 e15 f16 => ?_)
      have lo14_0 := f16 0 _ (by decide) (Or.inl rfl) l_0
      have lo14_2 := f16 2 _ (by decide) (Or.inl rfl) l_2
      exact yR_m 1 (fun _ _ _ _ => rfl) (h2 y1 e2 q3 x4 e5 x6 e7 v10 m8 hI8 k9 q11 x12 e13 lo14 lo14_0 lo14_2 e15 hI8)
    ·
      refine yR_m 1 (fun _ _ _ _ => rfl) ?_
      exact yR_rz rfl ⟨by decide, by decide⟩ (h3 y1 e2 q3 x4 e5 x6 e7 v10 m8 hI8 k9 q11 hI8)

theorem cf_folk (hE : aEs (aΘ0 E)) (hz : ∀ mem, aJ (aΘ0 E) mem → szOK mem) (hK : cfM T Z m0) (hQ4 : ¬ (gi m0 221 46).toInt = 0) (hff : 0 ≤ ff.toInt ∧ ff.toInt ≤ 20) (hff2 : ff.toInt = 2 + 2 * ((Qt Z).length : Int)) (K1 : ¬ Qc Z = 0 ∧ n.toInt = 3 + 2 * ((Qt Z).length : Int) + 2 * ((Qf Z).length : Int) ∧ gn T 0 * 256 + gn T 1 ≤ 999 ∧ gn T (n.toInt - 1) = ck T (n.toInt - 1).toNat) (hTh : ∀ t, 0 ≤ t → t < ((Qt Z).length : Int) → gn T (2 + 2 * t) ≤ 1 ∧ gn T (3 + 2 * t) ≤ 99) : ∀ (f : Nat) (k : Int32) (mem : zM) (lo : List (Nat × Value)), 7 ≤ k.toInt + (f : Int) → 0 ≤ k.toInt → k.toInt ≤ 6 → zlg lo 0 = some (.ref 221) → zlg lo 2 = some (.int ff) → zlg lo 4 = some (.int k) → wI (aΘ0 E) m0 mem → (∀ j, 0 ≤ j → j < k.toInt → frO Z (gn T (2 + 2 * ((Qt Z).length : Int) + 2 * j)) (gn T (2 + 2 * ((Qt Z).length : Int) + 2 * j + 1))) → yR zpg tX12_comesOn (d + 5) (256, lo, [], mem) (fun r m => ∃ v : Int32, r = some (.int v) ∧ wI (aΘ0 E) m0 m ∧ isB v (imK T n.toInt Z)) := by
  intro f
  induction f with
  | zero => intro k mem lo hf k0 k1; omega
  | succ f ih =>
    intro k mem lo hf k0 k1 l0 l2 l4 hI hO
    have hK2 := cf_pr hI.2 hK
    have f1 := hK2.2.2.2.2.2
    obtain ⟨b0, b1⟩ := mO_r13 hI.1.1
    have fk := gR_233 hI.1.1 (i := (gi mem 221 13).toInt) b0 (by omega)
    exact w_cp_256 hE hI l0 l2 l4 (hz mem hI.1) hK hQ4 hff ⟨k0, k1⟩
        (fun y1 e2 q3 hI2 => ⟨1, rfl, hI2, Or.inl ⟨rfl, K1, hTh, fun j j0 j1 => hO j j0 (by omega)⟩⟩)
        (fun y1 e2 q3 x4 e5 x6 e7 v10 m8 hI8 k9 q11 x12 e13 lo a0 a2 a4 hI2 => ih x12 _ lo (by omega) (by omega) (by omega) a0 a2 a4 hI2 (fun j j0 j1 => by
          by_cases c : j < k.toInt
          · exact hO j j0 c
          · have e : j = k.toInt := by omega
            subst e
            rw [← hff2]
            exact isB_1 k9 q11))
        (fun y1 e2 q3 x4 e5 x6 e7 v10 m8 hI8 k9 q11 hI2 => ⟨0, rfl, hI2, Or.inr ⟨rfl, fun w => by
          have o := w.2.2 k.toInt (by omega) (by omega)
          rw [← hff2] at o
          exact isB_0 k9 q11 o⟩⟩)
theorem cf_thing (hE : aEs (aΘ0 E)) (hz : ∀ mem, aJ (aΘ0 E) mem → szOK mem) (hK : cfM T Z m0) (hQ4 : ¬ (gi m0 221 46).toInt = 0) (hff : 0 ≤ ff.toInt ∧ ff.toInt ≤ 20) (hff2 : ff.toInt = 2 + 2 * ((Qt Z).length : Int)) (K1 : ¬ Qc Z = 0 ∧ n.toInt = 3 + 2 * ((Qt Z).length : Int) + 2 * ((Qf Z).length : Int) ∧ gn T 0 * 256 + gn T 1 ≤ 999 ∧ gn T (n.toInt - 1) = ck T (n.toInt - 1).toNat) : ∀ (f : Nat) (k : Int32) (mem : zM) (lo : List (Nat × Value)), 10 ≤ k.toInt + (f : Int) → 0 ≤ k.toInt → k.toInt ≤ 9 → zlg lo 0 = some (.ref 221) → zlg lo 2 = some (.int ff) → zlg lo 4 = some (.int k) → wI (aΘ0 E) m0 mem → (∀ t, 0 ≤ t → t < k.toInt → gn T (2 + 2 * t) ≤ 1 ∧ gn T (3 + 2 * t) ≤ 99) → yR zpg tX12_comesOn (d + 5) (160, lo, [], mem) (fun r m => ∃ v : Int32, r = some (.int v) ∧ wI (aΘ0 E) m0 m ∧ isB v (imK T n.toInt Z)) := by
  intro f
  induction f with
  | zero => intro k mem lo hf k0 k1; omega
  | succ f ih =>
    intro k mem lo hf k0 k1 l0 l2 l4 hI hTh
    have hK2 := cf_pr hI.2 hK
    have t1 := hK2.2.2.2.2.1
    have eT := hK2.1
    obtain ⟨b0, b1⟩ := mO_r13 hI.1.1
    have th := gR_228 hI.1.1 (i := (gi mem 221 13).toInt) b0 (by omega)
    subst eT
    exact w_co_160 hE hI l0 l2 l4 ⟨k0, k1⟩
        (fun y1 e2 q3 lo a0 a2 a4 hI2 => cf_folk hE hz hK hQ4 hff hff2 K1 (fun t t0 t1 => hTh t t0 (by omega)) 7 0 _ lo (by decide) (by decide) (by decide) a0 a2 a4 hI2 (fun j j0 j1 => by exfalso; have j2 : j < 0 := j1; omega))
        (fun y1 e2 q3 x7 e8 x9 e10 y14 e15 q16 hI2 => ⟨0, rfl, hI2, Or.inr ⟨rfl, fun w => by
          have o := w.2.1 k.toInt (by omega) (by omega)
          rw [show (3 : Int) + 2 * k.toInt = 2 + 2 * k.toInt + 1 by omega] at o
          omega⟩⟩)
        (fun y1 e2 q3 x7 e8 x9 e10 y14 e15 q16 x17 e18 y19 e20 q21 y22 e23 y24 e25 x26 e27 x28 e29 y30 e31 x32 e33 lo a0 a2 a4 hI2 => ih x32 _ lo (by omega) (by omega) (by omega) a0 a2 a4 hI2 (fun j j0 j1 => by
          by_cases c : j < k.toInt
          · exact hTh j j0 c
          · have e : j = k.toInt := by omega
            subst e
            rw [show (3 : Int) + 2 * k.toInt = 2 + 2 * k.toInt + 1 by omega]
            omega))
        (fun y1 e2 q3 x7 e8 x9 e10 y14 e15 q16 x17 e18 y19 e20 q21 hI2 => ⟨0, rfl, hI2, Or.inr ⟨rfl, fun w => by
          have o := w.2.1 k.toInt (by omega) (by omega)
          rw [show (3 : Int) + 2 * k.toInt = 2 + 2 * k.toInt + 1 by omega] at o
          omega⟩⟩)
theorem cf_sum (hE : aEs (aΘ0 E)) (h9 : aH9 E) (hz : ∀ mem, aJ (aΘ0 E) mem → szOK mem) (hK : cfM T Z m0) (hQ4 : ¬ (gi m0 221 46).toInt = 0) (hn : 0 ≤ n.toInt ∧ n.toInt ≤ 1600) (hn1 : 1 ≤ n.toInt) (hff : 0 ≤ ff.toInt ∧ ff.toInt ≤ 20) (hff2 : ff.toInt = 2 + 2 * ((Qt Z).length : Int)) (K1 : ¬ Qc Z = 0 ∧ n.toInt = 3 + 2 * ((Qt Z).length : Int) + 2 * ((Qf Z).length : Int) ∧ gn T 0 * 256 + gn T 1 ≤ 999) {mem : zM} (hI : wI (aΘ0 E) m0 mem) : ∀ (f : Nat) (k su : Int32) (lo : List (Nat × Value)), 1600 ≤ k.toInt + (f : Int) → 0 ≤ k.toInt → k.toInt ≤ n.toInt - 1 → 0 ≤ su.toInt → su.toInt ≤ 250 → su.toInt = ck T k.toInt.toNat → zlg lo 0 = some (.ref 221) → zlg lo 1 = some (.int n) → zlg lo 2 = some (.int ff) → zlg lo 3 = some (.int su) → zlg lo 4 = some (.int k) → yR zpg tX12_comesOn (d + 5) (71, lo, [], mem) (fun r m => ∃ v : Int32, r = some (.int v) ∧ wI (aΘ0 E) m0 m ∧ isB v (imK T n.toInt Z)) := by
  have eT := (cf_pr hI.2 hK).1
  subst eT
  intro f
  induction f with
  | zero =>
    intro k su lo hf k0 k1 s0 s1 hsu l0 l1 l2 l3 l4
    exact w_co_71 hE hI l0 l1 l2 l3 l4 h9 ⟨hn1, hn.2⟩ (by omega) ⟨s0, s1⟩
        (fun x1 e2 q3 x4 e5 y6 e7 q8 m9 hm9 j11b y12 e13 y14 e15 lo a0 a2 a4 hI2 => cf_thing hE hz hK hQ4 hff hff2 ⟨K1.1, K1.2.1, K1.2.2, by rw [show (n.toInt - 1).toNat = k.toInt.toNat by omega, ← hsu]; omega⟩ 10 0 _ lo (by decide) (by decide) (by decide) a0 a2 a4 hI2 (fun j j0 j1 => by exfalso; have j2 : j < 0 := j1; omega))
        (fun x1 e2 q3 x4 e5 y6 e7 q8 hI2 => ⟨0, rfl, hI2, Or.inr ⟨rfl, fun w => by
          have o := w.1.2.2.2
          rw [show (n.toInt - 1).toNat = k.toInt.toNat by omega, ← hsu] at o
          omega⟩⟩)
        (fun x1 e2 q3 x19 e20 y21 e22 x23 e24 x25 e26 x30 e31 lo a0 a1 a2 a3 a4 hI2 => by exfalso; omega)
  | succ f ih =>
    intro k su lo hf k0 k1 s0 s1 hsu l0 l1 l2 l3 l4
    exact w_co_71 hE hI l0 l1 l2 l3 l4 h9 ⟨hn1, hn.2⟩ (by omega) ⟨s0, s1⟩
        (fun x1 e2 q3 x4 e5 y6 e7 q8 m9 hm9 j11b y12 e13 y14 e15 lo a0 a2 a4 hI2 => cf_thing hE hz hK hQ4 hff hff2 ⟨K1.1, K1.2.1, K1.2.2, by rw [show (n.toInt - 1).toNat = k.toInt.toNat by omega, ← hsu]; omega⟩ 10 0 _ lo (by decide) (by decide) (by decide) a0 a2 a4 hI2 (fun j j0 j1 => by exfalso; have j2 : j < 0 := j1; omega))
        (fun x1 e2 q3 x4 e5 y6 e7 q8 hI2 => ⟨0, rfl, hI2, Or.inr ⟨rfl, fun w => by
          have o := w.1.2.2.2
          rw [show (n.toInt - 1).toNat = k.toInt.toNat by omega, ← hsu] at o
          omega⟩⟩)
        (fun x1 e2 q3 x19 e20 y21 e22 x23 e24 x25 e26 x30 e31 lo a0 a1 a2 a3 a4 hI2 => by
          have r0 := gR_222 hI.1.1 (i := k.toInt) (by omega) (by omega)
          refine ih x30 x25 lo (by omega) (by omega) (by omega) (by omega) (by omega) ?_ a0 a1 a2 a3 a4
          rw [show x30.toInt.toNat = k.toInt.toNat + 1 by omega]
          show _ = (5 * ck (ga mem 222) k.toInt.toNat + gn (ga mem 222) ((k.toInt.toNat : Nat) : Int)) % 251
          rw [← hsu, Int.toNat_of_nonneg (by omega)]
          omega)
theorem h_coF (hE : aEs (aΘ0 E)) (h9 : aH9 E) (hz : ∀ mem, aJ (aΘ0 E) mem → szOK mem) {mem : zM} (hK0 : cfM T Z mem) (hC46 : (¬ (gi mem 221 46).toInt = 0 ∧ ¬ Qc Z = 0) ∨ ((gi mem 221 46).toInt = 0 ∧ Qc Z = 0)) (hn : 0 ≤ n.toInt ∧ n.toInt ≤ 1600) (hd : 6 ≤ d) (hI : wI (aΘ0 E) mem mem) : yC zpg d 277 [.ref 221, .int n] mem (fun r m => ∃ v : Int32, r = some (.int v) ∧ wI (aΘ0 E) mem m ∧ isB v (imK T n.toInt Z)) := by
  obtain ⟨d, rfl⟩ : ∃ q, d = q + 6 := ⟨d - 6, by omega⟩
  have hK := hK0
  have eT := hK0.1
  subst eT
  have t1 := hK.2.2.2.2.1
  have f1 := hK.2.2.2.2.2
  obtain ⟨b0, b1⟩ := mO_r13 hI.1.1
  have th := gR_228 hI.1.1 (i := (gi mem 221 13).toInt) b0 (by omega)
  have fk := gR_233 hI.1.1 (i := (gi mem 221 13).toInt) b0 (by omega)
  have g0 := gR_222 hI.1.1 (i := 0) (by decide) (by decide)
  have g1 := gR_222 hI.1.1 (i := 1) (by decide) (by decide)
  refine yC_of (t := tX12_comesOn) rfl rfl ?_
  exact w_co_0 hE hI rfl rfl hn
        (fun y1 e2 x3 e4 x5 e6 q10 hI2 => ⟨0, rfl, hI2, Or.inr ⟨rfl, fun w => by have w0 := w.1.1; have w1 := w.1.2.1; omega⟩⟩)
        (fun y1 e2 x3 e4 x5 e6 q10 y11 e12 x13 e14 x15 e16 x17 e18 q19 hI2 => ⟨0, rfl, hI2, Or.inr ⟨rfl, fun w => by have w0 := w.1.1; have w1 := w.1.2.1; omega⟩⟩)
        (fun y1 e2 x3 e4 x5 e6 q10 y11 e12 x13 e14 x15 e16 x17 e18 q19 y20 e21 y22 e23 q24 lo a0 a1 a2 a3 a4 hI2 => by
          have g := or8 (a := y20) (b := y22) (by omega) (by omega)
          exact cf_sum hE h9 hz hK (by rw [← pr_gi (i := 46) hI.2 rfl]; omega) hn (by omega) (ff := x5) (by omega) (by omega) ⟨by omega, by omega, by omega⟩ hI2 1600 0 241 lo (by decide) (by decide) (by show (0 : Int) ≤ _; omega) (by decide) (by decide) rfl a0 a1 a2 a3 a4)
        (fun y1 e2 x3 e4 x5 e6 q10 y11 e12 x13 e14 x15 e16 x17 e18 q19 y20 e21 y22 e23 q24 hI2 => by
          have g := or8 (a := y20) (b := y22) (by omega) (by omega)
          exact ⟨0, rfl, hI2, Or.inr ⟨rfl, fun w => by have w1 := w.1.2.2.1; omega⟩⟩)
theorem t_cf {M : zM} {r : Option Value} {p : Prop} (h : ∃ v : Int32, r = some (.int v) ∧ wI (aΘ0 E) M m ∧ isB v p) : ∃ v : Int32, r = some (.int v) ∧ aTm aT0 m ∧ (E m ∧ isB v p) := by
  obtain ⟨v, h1, h2, h3⟩ := h
  exact ⟨v, h1, h2.1.1, h2.1.2, h3⟩
set_option maxRecDepth 100000 in
theorem w_oq {d : Nat} {mem : zM} {P : Option Value → zM → Prop} {E : zM → Prop} {T : List Int32} {Z : Qd} (hm : aTm aT0 mem) (hE : aEs (aΘ0 E)) (h9 : aH9 E) (hz : ∀ mem, aJ (aΘ0 E) mem → szOK mem) (hC46 : (¬ (gi (si mem 221 1 0) 221 46).toInt = 0 ∧ ¬ Qc Z = 0) ∨ ((gi (si mem 221 1 0) 221 46).toInt = 0 ∧ Qc Z = 0)) (s1 : cfM T Z (si mem 221 1 0)) (s2 : E (si mem 221 1 0)) (h1 : ∀ (v3 : Int32) (m1 : zM), aTm aT0 m1 → (E m1 ∧ isB v3 (imK T (gi mem 221 1).toInt Z)) → ¬ (v3).toInt = 0 → ∀ (m5 : zM), aTm aT0 m5 → E m5 → aTm aT0 (si m5 221 55 0) → P (some (.int 1)) (si m5 221 55 0)) (h2 : ∀ (v3 : Int32) (m1 : zM), aTm aT0 m1 → (E m1 ∧ isB v3 (imK T (gi mem 221 1).toInt Z)) → (v3).toInt = 0 → ∀ (y7 : Int32), y7.toInt = (gn (ga m1 248) 5) → aTm aT0 (sx m1 248 5 (y7 + 1)) → P (some (.int 0)) (sx m1 248 5 (y7 + 1))) : yR zpg tX12_on (d + 6) (0, [(0, .ref 221)], [], mem) P := by
  have tp := mO_r1 hm
  refine yR_m 1 (fun _ _ _ _ => rfl) ?_
  refine wR_gi rfl mO_e mO_1 hm rfl ?_
  refine yR_m 3 (fun _ _ _ _ => rfl) ?_
  refine wR_pi rfl mO_e mO_1 hm rfl ?_
  have hm_1 : aTm aT0 (si mem 221 1 0) := tm_si mO_e mO_1 hm (by decide)
  refine yR_m 2 (fun _ _ _ _ => rfl) ?_
  refine wR_cv rfl rfl mO_e hm_1 rfl (yC_mono (fun r m h => t_cf h) (h_coF (T := T) (Z := Z) hE h9 hz s1 hC46 (by omega) (by omega) (wI_rf ⟨hm_1, s2⟩))) ?_
  rintro _ m1 ⟨v3, rfl, hI1, k2⟩
  show yR zpg tX12_on (d + 6) (15, [(1, .int (gi mem 221 1)), (0, .ref 221)], [.int v3], m1) _
  refine wR_if_ne rfl (a := (v3).toInt) rfl (fun q4 => ?_) (fun q4 => ?_)
  ·
    refine yR_m 3 (fun _ _ _ _ => rfl) ?_
    refine wR_cv rfl rfl mO_e hI1 rfl (yC_mono (fun r m h => t_cv0 h) (k9_X12_copies h9 (d + 6) _ [.ref 221, .int 0, .int 1] (by omega) ⟨hI1, k2.1⟩ ⟨⟨221, List.mem_singleton.mpr rfl, rfl⟩, ⟨_, rfl, by decide, by decide⟩, ⟨_, rfl, by decide, by decide⟩, trivial⟩)) ?_
    rintro _ m5 ⟨rfl, hI5, k6⟩
    show yR zpg tX12_on (d + 6) (38, [(1, .int (gi mem 221 1)), (0, .ref 221)], [], m5) _
    refine yR_m 2 (fun _ _ _ _ => rfl) ?_
    refine wR_pi rfl mO_e mO_55 hI5 rfl ?_
    have hm_2 : aTm aT0 (si m5 221 55 0) := tm_si mO_e mO_55 hI5 (by decide)
    refine yR_m 1 (fun _ _ _ _ => rfl) ?_
    exact yR_rz rfl ⟨by decide, by decide⟩ (h1 v3 m1 hI1 k2 q4 m5 hI5 k6 hm_2)
  ·
    refine yR_m 2 (fun _ _ _ _ => rfl) ?_
    refine wR_iv rfl rfl mO_e hI1 rfl rfl rfl rfl ?_
    show yR zpg tX12_refuses (d + 5) (0, [(0, .ref 221), (1, .int 5)], [], m1) _
    refine yR_m 1 (fun _ _ _ _ => rfl) ?_
    refine wR_gr rfl mO_e mO_47 hI1 ?_
    refine yR_m 2 (fun _ _ _ _ => rfl) ?_
    refine wN_al (a := 5) rfl aR_248 hI1 rfl rfl (by decide) (fun y7 e8 => ?_)
    refine yR_m 2 (fun _ _ _ _ => rfl) ?_
    refine wN_as (a := 5) rfl aR_248 hI1 rfl (by decide) ?_
    have hm_3 : aTm aT0 (sx m1 248 5 (y7 + 1)) := tm_sa aR_248 hI1 (i32_b _)
    refine yR_m 1 (fun _ _ _ _ => rfl) ?_
    refine yR_ri rfl ?_
    show yR zpg tX12_on (d + 6) (23, [(1, .int (gi mem 221 1)), (0, .ref 221)], [.int (-1)], (sx m1 248 5 (y7 + 1))) _
    refine wR_if_lt rfl (a := (-1)) tm1 (fun _ => ?_) (fun q => by exfalso; omega)
    refine yR_m 1 (fun _ _ _ _ => rfl) ?_
    exact yR_rz rfl ⟨by decide, by decide⟩ (h2 v3 m1 hI1 k2 q4 y7 e8 hm_3)

theorem h_onM (hE : aEs (aΘ0 E)) (h9 : aH9 E) (hz : ∀ mem, aJ (aΘ0 E) mem → szOK mem) (hm : aTm aT0 mem) (hE1 : E (si mem 221 1 0)) (hK : cfM T Z mem) (hC46 : (¬ (gi mem 221 46).toInt = 0 ∧ ¬ Qc Z = 0) ∨ ((gi mem 221 46).toInt = 0 ∧ Qc Z = 0)) (hd : 7 ≤ d) : yC zpg d 278 [.ref 221] mem (fun r _ => ∃ v : Int32, r = some (.int v) ∧ imA T (gi mem 221 1).toInt Z v.toInt) := by
  obtain ⟨d, rfl⟩ : ∃ q, d = q + 7 := ⟨d - 7, by omega⟩
  refine yC_of (t := tX12_on) rfl rfl ?_
  exact w_oq (T := T) (Z := Z) hm hE h9 hz (by rw [gi_sv_ne (by decide)]; exact hC46)
        (cf_tk hK)
        (hE1)
        (fun v3 m1 hI1 k2 q4 m5 hI5 k6 hm2 => ⟨1, rfl, Or.inl ⟨isB_1 k2.2 q4, rfl⟩⟩)
        (fun v3 m1 hI1 k2 q4 y7 e8 hm2 => ⟨0, rfl, Or.inr ⟨isB_0 k2.2 q4, rfl⟩⟩)
end OM
