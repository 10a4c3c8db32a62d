/-! an image comes on; rows are met: the model's side -/
set_option maxRecDepth 100000 in
theorem w_folkOn {E : zM → Prop} (hE : aEs (aΘ0 E)) {d : Nat} {m0 mem : zM} {P : Option Value → zM → Prop} {k f : Int32} (hm : wI (aΘ0 E) m0 mem) (hz : szOK mem) (hk : 0 ≤ k.toInt ∧ k.toInt ≤ 5) (hf : 0 ≤ f.toInt ∧ f.toInt ≤ 1000) (s1 : ∀ (y1 : Int32), y1.toInt = (gn (ga mem 222) (f).toInt) → ∀ (x3 : Int32), x3.toInt = ((f).toInt + 1) → ∀ (y5 : Int32), y5.toInt = (gn (ga mem 222) ((f).toInt + 1)) → ∀ (v7 : Int32), isB v7 (inC mem (y1).toInt (y5).toInt) → ¬ (v7).toInt = 0 → ∀ (x10 : Int32), x10.toInt = ((f).toInt + 1) → ∀ (y12 : Int32), y12.toInt = (gn (ga mem 222) ((f).toInt + 1)) → (-2147483648 : Int) ≤ (8 * (gn (ga mem 222) ((f).toInt + 1))) ∧ (8 * (gn (ga mem 222) ((f).toInt + 1))) ≤ 2147483647) (s2 : ∀ (y1 : Int32), y1.toInt = (gn (ga mem 222) (f).toInt) → ∀ (x3 : Int32), x3.toInt = ((f).toInt + 1) → ∀ (y5 : Int32), y5.toInt = (gn (ga mem 222) ((f).toInt + 1)) → ∀ (v7 : Int32), isB v7 (inC mem (y1).toInt (y5).toInt) → ¬ (v7).toInt = 0 → ∀ (x10 : Int32), x10.toInt = ((f).toInt + 1) → ∀ (y12 : Int32), y12.toInt = (gn (ga mem 222) ((f).toInt + 1)) → ∀ (x14 : Int32), x14.toInt = (8 * (gn (ga mem 222) ((f).toInt + 1))) → ∀ (y16 : Int32), y16.toInt = (gn (ga mem 222) (f).toInt) → (-2147483648 : Int) ≤ ((8 * (gn (ga mem 222) ((f).toInt + 1))) + (gn (ga mem 222) (f).toInt)) ∧ ((8 * (gn (ga mem 222) ((f).toInt + 1))) + (gn (ga mem 222) (f).toInt)) ≤ 2147483647) (s3 : ∀ (y1 : Int32), y1.toInt = (gn (ga mem 222) (f).toInt) → ∀ (x3 : Int32), x3.toInt = ((f).toInt + 1) → ∀ (y5 : Int32), y5.toInt = (gn (ga mem 222) ((f).toInt + 1)) → ∀ (v7 : Int32), isB v7 (inC mem (y1).toInt (y5).toInt) → ¬ (v7).toInt = 0 → ∀ (x10 : Int32), x10.toInt = ((f).toInt + 1) → ∀ (y12 : Int32), y12.toInt = (gn (ga mem 222) ((f).toInt + 1)) → ∀ (x14 : Int32), x14.toInt = (8 * (gn (ga mem 222) ((f).toInt + 1))) → ∀ (y16 : Int32), y16.toInt = (gn (ga mem 222) (f).toInt) → ∀ (x18 : Int32), x18.toInt = ((8 * (gn (ga mem 222) ((f).toInt + 1))) + (gn (ga mem 222) (f).toInt)) → ∀ (x20 : Int32), x20.toInt = (6 + (k).toInt) → (0 : Int) ≤ ((8 * (gn (ga mem 222) ((f).toInt + 1))) + (gn (ga mem 222) (f).toInt)) ∧ ((8 * (gn (ga mem 222) ((f).toInt + 1))) + (gn (ga mem 222) (f).toInt)) ≤ 63) (s4 : ∀ (y1 : Int32), y1.toInt = (gn (ga mem 222) (f).toInt) → ∀ (x3 : Int32), x3.toInt = ((f).toInt + 1) → ∀ (y5 : Int32), y5.toInt = (gn (ga mem 222) ((f).toInt + 1)) → ∀ (v7 : Int32), isB v7 (inC mem (y1).toInt (y5).toInt) → ¬ (v7).toInt = 0 → ∀ (x10 : Int32), x10.toInt = ((f).toInt + 1) → ∀ (y12 : Int32), y12.toInt = (gn (ga mem 222) ((f).toInt + 1)) → ∀ (x14 : Int32), x14.toInt = (8 * (gn (ga mem 222) ((f).toInt + 1))) → ∀ (y16 : Int32), y16.toInt = (gn (ga mem 222) (f).toInt) → ∀ (x18 : Int32), x18.toInt = ((8 * (gn (ga mem 222) ((f).toInt + 1))) + (gn (ga mem 222) (f).toInt)) → ∀ (x20 : Int32), x20.toInt = (6 + (k).toInt) → (0 : Int) ≤ (x18).toInt ∧ (x18).toInt < 64) (h1 : ∀ (y1 : Int32), y1.toInt = (gn (ga mem 222) (f).toInt) → ∀ (x3 : Int32), x3.toInt = ((f).toInt + 1) → ∀ (y5 : Int32), y5.toInt = (gn (ga mem 222) ((f).toInt + 1)) → ∀ (v7 : Int32), isB v7 (inC mem (y1).toInt (y5).toInt) → ¬ (v7).toInt = 0 → ∀ (x10 : Int32), x10.toInt = ((f).toInt + 1) → ∀ (y12 : Int32), y12.toInt = (gn (ga mem 222) ((f).toInt + 1)) → ∀ (x14 : Int32), x14.toInt = (8 * (gn (ga mem 222) ((f).toInt + 1))) → ∀ (y16 : Int32), y16.toInt = (gn (ga mem 222) (f).toInt) → ∀ (x18 : Int32), x18.toInt = ((8 * (gn (ga mem 222) ((f).toInt + 1))) + (gn (ga mem 222) (f).toInt)) → ∀ (x20 : Int32), x20.toInt = (6 + (k).toInt) → ∀ (v22 : Int32), isB v22 (wal (sx mem 252 x20 x18) (x18).toInt) → ¬ (v22).toInt = 0 → wI (aΘ0 E) m0 (sx mem 252 x20 x18) → P (some (.int 0)) (sx mem 252 x20 x18)) (h2 : ∀ (y1 : Int32), y1.toInt = (gn (ga mem 222) (f).toInt) → ∀ (x3 : Int32), x3.toInt = ((f).toInt + 1) → ∀ (y5 : Int32), y5.toInt = (gn (ga mem 222) ((f).toInt + 1)) → ∀ (v7 : Int32), isB v7 (inC mem (y1).toInt (y5).toInt) → ¬ (v7).toInt = 0 → ∀ (x10 : Int32), x10.toInt = ((f).toInt + 1) → ∀ (y12 : Int32), y12.toInt = (gn (ga mem 222) ((f).toInt + 1)) → ∀ (x14 : Int32), x14.toInt = (8 * (gn (ga mem 222) ((f).toInt + 1))) → ∀ (y16 : Int32), y16.toInt = (gn (ga mem 222) (f).toInt) → ∀ (x18 : Int32), x18.toInt = ((8 * (gn (ga mem 222) ((f).toInt + 1))) + (gn (ga mem 222) (f).toInt)) → ∀ (x20 : Int32), x20.toInt = (6 + (k).toInt) → ∀ (v22 : Int32), isB v22 (wal (sx mem 252 x20 x18) (x18).toInt) → (v22).toInt = 0 → wI (aΘ0 E) m0 (sx mem 252 x20 x18) → P (some (.int 1)) (sx mem 252 x20 x18)) (h3 : ∀ (y1 : Int32), y1.toInt = (gn (ga mem 222) (f).toInt) → ∀ (x3 : Int32), x3.toInt = ((f).toInt + 1) → ∀ (y5 : Int32), y5.toInt = (gn (ga mem 222) ((f).toInt + 1)) → ∀ (v7 : Int32), isB v7 (inC mem (y1).toInt (y5).toInt) → (v7).toInt = 0 → wI (aΘ0 E) m0 mem → P (some (.int 0)) mem) : yR zpg tX12_folkOn (d + 3) (0, [(0, .ref 221), (1, .int k), (2, .int f)], [], mem) P := by
  have r0 := gR_222 hm.1.1 (i := f.toInt) hf.1 (by omega)
  have r1 := gR_222 hm.1.1 (i := f.toInt + 1) (by omega) (by omega)
  refine yR_m 2 (fun _ _ _ _ => rfl) ?_
  refine wR_gr rfl mO_e mO_0 hm.1.1 ?_
  refine yR_m 1 (fun _ _ _ _ => rfl) ?_
  refine wN_al (a := (f).toInt) rfl aR_222 hm.1.1 rfl rfl (by omega) (fun y1 e2 => ?_)
  refine yR_m 1 (fun _ _ _ _ => rfl) ?_
  refine wR_gr rfl mO_e mO_0 hm.1.1 ?_
  refine yR_m 2 (fun _ _ _ _ => rfl) ?_
  refine wN_add (a := (f).toInt) (b := 1) rfl rfl rfl (by omega) (fun x3 e4 => ?_)
  refine wN_al (a := ((f).toInt + 1)) rfl aR_222 hm.1.1 rfl e4 (by omega) (fun y5 e6 => ?_)
  refine wR_cv rfl rfl mO_e hm.1.1 rfl (c_isCell hm.1.1 hz (by omega)) ?_
  rintro _ _ ⟨v7, rfl, rfl, k8⟩
  show yR zpg tX12_folkOn (d + 3) (18, [(0, .ref 221), (1, .int k), (2, .int f)], [.int v7], mem) _
  refine wR_if_ne rfl (a := (v7).toInt) rfl (fun q9 => ?_) (fun q9 => ?_)
  ·
    refine yR_m 2 (fun _ _ _ _ => rfl) ?_
    refine wR_gr rfl mO_e mO_0 hm.1.1 ?_
    refine yR_m 2 (fun _ _ _ _ => rfl) ?_
    refine wN_add (a := (f).toInt) (b := 1) rfl rfl rfl (by omega) (fun x10 e11 => ?_)
    refine wN_al (a := ((f).toInt + 1)) rfl aR_222 hm.1.1 rfl e11 (by omega) (fun y12 e13 => ?_)
    refine wN_mul (a := 8) (b := (gn (ga mem 222) ((f).toInt + 1))) rfl rfl e13 (s1 y1 e2 x3 e4 y5 e6 v7 k8 q9 x10 e11 y12 e13) (fun x14 e15 => ?_)
    refine yR_m 1 (fun _ _ _ _ => rfl) ?_
    refine wR_gr rfl mO_e mO_0 hm.1.1 ?_
    refine yR_m 1 (fun _ _ _ _ => rfl) ?_
    refine wN_al (a := (f).toInt) rfl aR_222 hm.1.1 rfl rfl (by omega) (fun y16 e17 => ?_)
    refine wN_add (a := (8 * (gn (ga mem 222) ((f).toInt + 1)))) (b := (gn (ga mem 222) (f).toInt)) rfl e15 e17 (s2 y1 e2 x3 e4 y5 e6 v7 k8 q9 x10 e11 y12 e13 x14 e15 y16 e17) (fun x18 e19 => ?_)
    refine yR_m 2 (fun _ _ _ _ => rfl) ?_
    refine wR_gr rfl mO_e mO_51 hm.1.1 ?_
    refine yR_m 2 (fun _ _ _ _ => rfl) ?_
    refine wN_add (a := 6) (b := (k).toInt) rfl rfl rfl (by omega) (fun x20 e21 => ?_)
    refine yR_m 1 (fun _ _ _ _ => rfl) ?_
    refine wN_as (a := (6 + (k).toInt)) rfl aR_252 hm.1.1 e21 (by omega) ?_
    have hm_1 : wI (aΘ0 E) m0 (sx mem 252 x20 x18) := wI_sa hE aR_252 hm (by rw [e19]; exact (s3 y1 e2 x3 e4 y5 e6 v7 k8 q9 x10 e11 y12 e13 x14 e15 y16 e17 x18 e19 x20 e21))
    refine yR_m 2 (fun _ _ _ _ => rfl) ?_
    refine wR_cv rfl rfl mO_e hm_1.1.1 rfl (c_isWall hm_1.1.1 (by omega) (s4 y1 e2 x3 e4 y5 e6 v7 k8 q9 x10 e11 y12 e13 x14 e15 y16 e17 x18 e19 x20 e21)) ?_
    rintro _ _ ⟨v22, rfl, rfl, k23⟩
    show yR zpg tX12_folkOn (d + 3) (57, [(3, .int x18), (0, .ref 221), (1, .int k), (2, .int f)], [.int v22], (sx mem 252 x20 x18)) _
    refine wR_if_ne rfl (a := (v22).toInt) rfl (fun q24 => ?_) (fun q24 => ?_)
    ·
      refine yR_m 1 (fun _ _ _ _ => rfl) ?_
      exact yR_rz rfl ⟨by decide, by decide⟩ (h1 y1 e2 x3 e4 y5 e6 v7 k8 q9 x10 e11 y12 e13 x14 e15 y16 e17 x18 e19 x20 e21 v22 k23 q24 hm_1)
    ·
      refine yR_m 2 (fun _ _ _ _ => rfl) ?_
      exact yR_rz rfl ⟨by decide, by decide⟩ (h2 y1 e2 x3 e4 y5 e6 v7 k8 q9 x10 e11 y12 e13 x14 e15 y16 e17 x18 e19 x20 e21 v22 k23 q24 hm_1)
  ·
    refine yR_m 1 (fun _ _ _ _ => rfl) ?_
    exact yR_rz rfl ⟨by decide, by decide⟩ (h3 y1 e2 x3 e4 y5 e6 v7 k8 q9 hm)

theorem h_folkOn {E : zM → Prop} (hE : aEs (aΘ0 E)) {m0 mem : zM} {d : Nat} (hd : 4 ≤ d) {k f : Int32} (hk : 0 ≤ k.toInt ∧ k.toInt ≤ 5) (hf : 0 ≤ f.toInt ∧ f.toInt ≤ 1000) (hI : wI (aΘ0 E) m0 mem) (hz : szOK mem) : yC zpg d 276 [.ref 221, .int k, .int f] mem (fun r m => ∃ v : Int32, r = some (.int v) ∧ wI (aΘ0 E) m0 m ∧ (0 ≤ v.toInt ∧ v.toInt ≤ 1)) := by
  obtain ⟨d, rfl⟩ : ∃ q, d = q + 4 := ⟨d - 4, by omega⟩
  obtain ⟨z1, z2, z3, z4⟩ := id hz
  refine yC_of (t := tX12_folkOn) rfl rfl ?_
  exact w_folkOn hE hI hz hk hf
        (fun y1 e2 x3 e4 y5 e6 v7 k8 q9 x10 e11 y12 e13 => by obtain ⟨-, c1, c2, c3, c4⟩ := isB_1 k8 q9; omega)
        (fun y1 e2 x3 e4 y5 e6 v7 k8 q9 x10 e11 y12 e13 x14 e15 y16 e17 => by obtain ⟨-, c1, c2, c3, c4⟩ := isB_1 k8 q9; omega)
        (fun y1 e2 x3 e4 y5 e6 v7 k8 q9 x10 e11 y12 e13 x14 e15 y16 e17 x18 e19 x20 e21 => by obtain ⟨-, c1, c2, c3, c4⟩ := isB_1 k8 q9; omega)
        (fun y1 e2 x3 e4 y5 e6 v7 k8 q9 x10 e11 y12 e13 x14 e15 y16 e17 x18 e19 x20 e21 => by obtain ⟨-, c1, c2, c3, c4⟩ := isB_1 k8 q9; omega)
        (fun y1 e2 x3 e4 y5 e6 v7 k8 q9 x10 e11 y12 e13 x14 e15 y16 e17 x18 e19 x20 e21 v22 k23 q24 hI => ⟨_, rfl, hI, by decide⟩)
        (fun y1 e2 x3 e4 y5 e6 v7 k8 q9 x10 e11 y12 e13 x14 e15 y16 e17 x18 e19 x20 e21 v22 k23 q24 hI => ⟨_, rfl, hI, by decide⟩)
        (fun y1 e2 x3 e4 y5 e6 v7 k8 q9 hI => ⟨_, rfl, hI, by decide⟩)
theorem or_rg {y t k : Int32} (h0 : 0 ≤ y.toInt) (h1 : y.toInt ≤ 511) (t0 : 0 ≤ t.toInt) (t1 : t.toInt ≤ 1) (k0 : 0 ≤ k.toInt) (k1 : k.toInt ≤ 8) : 0 ≤ (y ||| (t <<< (k &&& 31))).toInt ∧ (y ||| (t <<< (k &&& 31))).toInt ≤ 511 := by
  have a := sd_shm (0, 1) (0, 8) t k t0 t1 k0 k1
  exact sd_or (0, 511) (0, 256) y (t <<< (k &&& 31)) h0 h1 a.1 a.2
set_option maxRecDepth 100000 in
theorem w_co_0 {E : zM → Prop} (hE : aEs (aΘ0 E)) {d : Nat} {m0 mem : zM} {P : Option Value → zM → Prop} {n : Int32} {lo : List (Nat × Value)} (hm : wI (aΘ0 E) m0 mem) (l_0 : zlg lo 0 = some (.ref 221)) (l_1 : zlg lo 1 = some (.int n)) (hn : 0 ≤ n.toInt ∧ n.toInt ≤ 1600) (h1 : ∀ (y1 : Int32), y1.toInt = (gn (ga mem 228) (gi mem 221 13).toInt) → ∀ (x3 : Int32), x3.toInt = (2 * (gn (ga mem 228) (gi mem 221 13).toInt)) → ∀ (x5 : Int32), x5.toInt = (2 + (2 * (gn (ga mem 228) (gi mem 221 13).toInt))) → (gi mem 221 46).toInt = 0 → wI (aΘ0 E) m0 mem → P (some (.int 0)) mem) (h2 : ∀ (y1 : Int32), y1.toInt = (gn (ga mem 228) (gi mem 221 13).toInt) → ∀ (x3 : Int32), x3.toInt = (2 * (gn (ga mem 228) (gi mem 221 13).toInt)) → ∀ (x5 : Int32), x5.toInt = (2 + (2 * (gn (ga mem 228) (gi mem 221 13).toInt))) → ¬ (gi mem 221 46).toInt = 0 → ∀ (y11 : Int32), y11.toInt = (gn (ga mem 233) (gi mem 221 13).toInt) → ∀ (x13 : Int32), x13.toInt = (2 * (gn (ga mem 233) (gi mem 221 13).toInt)) → ∀ (x15 : Int32), x15.toInt = ((2 + (2 * (gn (ga mem 228) (gi mem 221 13).toInt))) + (2 * (gn (ga mem 233) (gi mem 221 13).toInt))) → ∀ (x17 : Int32), x17.toInt = (((2 + (2 * (gn (ga mem 228) (gi mem 221 13).toInt))) + (2 * (gn (ga mem 233) (gi mem 221 13).toInt))) + 1) → ¬ (n).toInt = (((2 + (2 * (gn (ga mem 228) (gi mem 221 13).toInt))) + (2 * (gn (ga mem 233) (gi mem 221 13).toInt))) + 1) → wI (aΘ0 E) m0 mem → P (some (.int 0)) mem) (h3 : ∀ (y1 : Int32), y1.toInt = (gn (ga mem 228) (gi mem 221 13).toInt) → ∀ (x3 : Int32), x3.toInt = (2 * (gn (ga mem 228) (gi mem 221 13).toInt)) → ∀ (x5 : Int32), x5.toInt = (2 + (2 * (gn (ga mem 228) (gi mem 221 13).toInt))) → ¬ (gi mem 221 46).toInt = 0 → ∀ (y11 : Int32), y11.toInt = (gn (ga mem 233) (gi mem 221 13).toInt) → ∀ (x13 : Int32), x13.toInt = (2 * (gn (ga mem 233) (gi mem 221 13).toInt)) → ∀ (x15 : Int32), x15.toInt = ((2 + (2 * (gn (ga mem 228) (gi mem 221 13).toInt))) + (2 * (gn (ga mem 233) (gi mem 221 13).toInt))) → ∀ (x17 : Int32), x17.toInt = (((2 + (2 * (gn (ga mem 228) (gi mem 221 13).toInt))) + (2 * (gn (ga mem 233) (gi mem 221 13).toInt))) + 1) → (n).toInt = (((2 + (2 * (gn (ga mem 228) (gi mem 221 13).toInt))) + (2 * (gn (ga mem 233) (gi mem 221 13).toInt))) + 1) → ∀ (y20 : Int32), y20.toInt = (gn (ga mem 222) 0) → ∀ (y22 : Int32), y22.toInt = (gn (ga mem 222) 1) → ((y20 <<< (8 &&& 31)) ||| y22).toInt ≤ 999 → ∀ lo, zlg lo 0 = some (.ref 221) → zlg lo 1 = some (.int n) → zlg lo 2 = some (.int x5) → zlg lo 3 = some (.int 241) → zlg lo 4 = some (.int 0) → wI (aΘ0 E) m0 mem → yR zpg tX12_comesOn (d + 5) (71, lo, [], mem) P) (h4 : ∀ (y1 : Int32), y1.toInt = (gn (ga mem 228) (gi mem 221 13).toInt) → ∀ (x3 : Int32), x3.toInt = (2 * (gn (ga mem 228) (gi mem 221 13).toInt)) → ∀ (x5 : Int32), x5.toInt = (2 + (2 * (gn (ga mem 228) (gi mem 221 13).toInt))) → ¬ (gi mem 221 46).toInt = 0 → ∀ (y11 : Int32), y11.toInt = (gn (ga mem 233) (gi mem 221 13).toInt) → ∀ (x13 : Int32), x13.toInt = (2 * (gn (ga mem 233) (gi mem 221 13).toInt)) → ∀ (x15 : Int32), x15.toInt = ((2 + (2 * (gn (ga mem 228) (gi mem 221 13).toInt))) + (2 * (gn (ga mem 233) (gi mem 221 13).toInt))) → ∀ (x17 : Int32), x17.toInt = (((2 + (2 * (gn (ga mem 228) (gi mem 221 13).toInt))) + (2 * (gn (ga mem 233) (gi mem 221 13).toInt))) + 1) → (n).toInt = (((2 + (2 * (gn (ga mem 228) (gi mem 221 13).toInt))) + (2 * (gn (ga mem 233) (gi mem 221 13).toInt))) + 1) → ∀ (y20 : Int32), y20.toInt = (gn (ga mem 222) 0) → ∀ (y22 : Int32), y22.toInt = (gn (ga mem 222) 1) → 999 < ((y20 <<< (8 &&& 31)) ||| y22).toInt → wI (aΘ0 E) m0 mem → P (some (.int 0)) mem) : yR zpg tX12_comesOn (d + 5) (0, lo, [], mem) P := by
  obtain ⟨b0, b1⟩ := mO_r13 hm.1.1
  have th := gR_228 hm.1.1 (i := (gi mem 221 13).toInt) b0 (by omega)
  have fk := gR_233 hm.1.1 (i := (gi mem 221 13).toInt) b0 (by omega)
  refine yR_m 2 (fun _ _ _ _ => rfl) ?_
  refine wR_la rfl l_0 ?_
  refine wR_gr rfl mO_e mO_19 hm.1.1 ?_
  refine wR_la rfl l_0 ?_
  refine wR_gi rfl mO_e mO_13 hm.1.1 rfl ?_
  refine wN_al (a := (gi mem 221 13).toInt) rfl aR_228 hm.1.1 rfl rfl (by omega) (fun y1 e2 => ?_)
  refine wN_mul (a := 2) (b := (gn (ga mem 228) (gi mem 221 13).toInt)) rfl rfl e2 (by omega) (fun x3 e4 => ?_)
  refine wN_add (a := 2) (b := (2 * (gn (ga mem 228) (gi mem 221 13).toInt))) rfl rfl e4 (by omega) (fun x5 e6 => ?_)
  refine wR_si rfl rfl (fun lo7 e8 f9 => ?_)
  have lo7_0 := f9 0 _ (by decide) (Or.inl rfl) l_0
  have lo7_1 := f9 1 _ (by decide) (Or.inl rfl) l_1
  refine wR_la rfl lo7_0 ?_
  refine wR_gi rfl mO_e mO_46 hm.1.1 rfl ?_
  refine wR_if_eq rfl (a := (gi mem 221 46).toInt) rfl (fun q10 => ?_) (fun q10 => ?_)
  ·
    refine yR_m 1 (fun _ _ _ _ => rfl) ?_
    exact yR_rz rfl ⟨by decide, by decide⟩ (h1 y1 e2 x3 e4 x5 e6 q10 hm)
  ·
    refine wR_li rfl lo7_1 ?_
    refine wR_li rfl e8 ?_
    refine yR_m 1 (fun _ _ _ _ => rfl) ?_
    refine wR_la rfl lo7_0 ?_
    refine wR_gr rfl mO_e mO_24 hm.1.1 ?_
    refine wR_la rfl lo7_0 ?_
    refine wR_gi rfl mO_e mO_13 hm.1.1 rfl ?_
    refine wN_al (a := (gi mem 221 13).toInt) rfl aR_233 hm.1.1 rfl rfl (by omega) (fun y11 e12 => ?_)
    refine wN_mul (a := 2) (b := (gn (ga mem 233) (gi mem 221 13).toInt)) rfl rfl e12 (by omega) (fun x13 e14 => ?_)
    refine wN_add (a := (2 + (2 * (gn (ga mem 228) (gi mem 221 13).toInt)))) (b := (2 * (gn (ga mem 233) (gi mem 221 13).toInt))) rfl e6 e14 (by omega) (fun x15 e16 => ?_)
    refine yR_m 1 (fun _ _ _ _ => rfl) ?_
    refine wN_add (a := ((2 + (2 * (gn (ga mem 228) (gi mem 221 13).toInt))) + (2 * (gn (ga mem 233) (gi mem 221 13).toInt)))) (b := 1) rfl e16 rfl (by omega) (fun x17 e18 => ?_)
    refine wR_ic_ne rfl (a := (n).toInt) (c := (((2 + (2 * (gn (ga mem 228) (gi mem 221 13).toInt))) + (2 * (gn (ga mem 233) (gi mem 221 13).toInt))) + 1)) rfl e18 (fun q19 => ?_) (fun q19 => ?_)
    ·
      refine yR_m 1 (fun _ _ _ _ => rfl) ?_
      exact yR_rz rfl ⟨by decide, by decide⟩ (h2 y1 e2 x3 e4 x5 e6 q10 y11 e12 x13 e14 x15 e16 x17 e18 q19 hm)
    ·
      refine wR_la rfl lo7_0 ?_
      refine wR_gr rfl mO_e mO_0 hm.1.1 ?_
      refine yR_m 1 (fun _ _ _ _ => rfl) ?_
      refine wN_al (a := 0) rfl aR_222 hm.1.1 rfl rfl (by decide) (fun y20 e21 => ?_)
      refine yR_m 2 (fun _ _ _ _ => rfl) ?_
      refine wR_la rfl lo7_0 ?_
      refine wR_gr rfl mO_e mO_0 hm.1.1 ?_
      refine yR_m 1 (fun _ _ _ _ => rfl) ?_
      refine wN_al (a := 1) rfl aR_222 hm.1.1 rfl rfl (by decide) (fun y22 e23 => ?_)
      refine yR_m 2 (fun _ _ _ _ => rfl) ?_
      refine wR_ic_le rfl (a := ((y20 <<< (8 &&& 31)) ||| y22).toInt) (c := 999) rfl rfl (fun q24 => ?_) (fun q24 => ?_)
      ·
        refine yR_m 1 (fun _ _ _ _ => rfl) ?_
        refine wR_si rfl rfl (fun lo25 e26 f27 => ?_)
        have lo25_2 := f27 2 _ (by decide) (Or.inl rfl) e8
        have lo25_0 := f27 0 _ (by decide) (Or.inl rfl) lo7_0
        have lo25_1 := f27 1 _ (by decide) (Or.inl rfl) lo7_1
        refine yR_m 1 (fun _ _ _ _ => rfl) ?_
        refine wR_si rfl rfl (fun lo28 e29 f30 => ?_)
        have lo28_3 := f30 3 _ (by decide) (Or.inl rfl) e26
        have lo28_2 := f30 2 _ (by decide) (Or.inl rfl) lo25_2
        have lo28_0 := f30 0 _ (by decide) (Or.inl rfl) lo25_0
        have lo28_1 := f30 1 _ (by decide) (Or.inl rfl) lo25_1
        exact h3 y1 e2 x3 e4 x5 e6 q10 y11 e12 x13 e14 x15 e16 x17 e18 q19 y20 e21 y22 e23 q24 lo28 lo28_0 lo28_1 lo28_2 lo28_3 e29 hm
      ·
        refine yR_m 1 (fun _ _ _ _ => rfl) ?_
        exact yR_rz rfl ⟨by decide, by decide⟩ (h4 y1 e2 x3 e4 x5 e6 q10 y11 e12 x13 e14 x15 e16 x17 e18 q19 y20 e21 y22 e23 q24 hm)

set_option maxRecDepth 100000 in
theorem w_co_71 {E : zM → Prop} (hE : aEs (aΘ0 E)) {d : Nat} {m0 mem : zM} {P : Option Value → zM → Prop} {n ff su k : Int32} {lo : List (Nat × Value)} (hm : wI (aΘ0 E) m0 mem) (l_0 : zlg lo 0 = some (.ref 221)) (l_1 : zlg lo 1 = some (.int n)) (l_2 : zlg lo 2 = some (.int ff)) (l_3 : zlg lo 3 = some (.int su)) (l_4 : zlg lo 4 = some (.int k)) (g9 : aH9 E) (hn : 1 ≤ n.toInt ∧ n.toInt ≤ 1600) (hk : 0 ≤ k.toInt ∧ k.toInt ≤ 1600) (hs : 0 ≤ su.toInt ∧ su.toInt ≤ 250) (h1 : ∀ (x1 : Int32), x1.toInt = ((n).toInt - 1) → ((n).toInt - 1) ≤ (k).toInt → ∀ (x4 : Int32), x4.toInt = ((n).toInt - 1) → ∀ (y6 : Int32), y6.toInt = (gn (ga mem 222) ((n).toInt - 1)) → (gn (ga mem 222) ((n).toInt - 1)) = (su).toInt → ∀ (m9 : zM), wI (aΘ0 E) m0 m9 → aPr aT0 mem m9 → ∀ (y12 : Int32), y12.toInt = (gn (ga m9 222) 0) → ∀ (y14 : Int32), y14.toInt = (gn (ga m9 222) 1) → ∀ lo, zlg lo 0 = some (.ref 221) → zlg lo 2 = some (.int ff) → zlg lo 4 = some (.int 0) → wI (aΘ0 E) m0 (sx (sx (sx m9 249 1 ((y12 <<< (8 &&& 31)) ||| y14)) 250 1 0) 253 1 0) → yR zpg tX12_comesOn (d + 5) (160, lo, [], (sx (sx (sx m9 249 1 ((y12 <<< (8 &&& 31)) ||| y14)) 250 1 0) 253 1 0)) P) (h2 : ∀ (x1 : Int32), x1.toInt = ((n).toInt - 1) → ((n).toInt - 1) ≤ (k).toInt → ∀ (x4 : Int32), x4.toInt = ((n).toInt - 1) → ∀ (y6 : Int32), y6.toInt = (gn (ga mem 222) ((n).toInt - 1)) → ¬ (gn (ga mem 222) ((n).toInt - 1)) = (su).toInt → wI (aΘ0 E) m0 mem → P (some (.int 0)) mem) (h3 : ∀ (x1 : Int32), x1.toInt = ((n).toInt - 1) → (k).toInt < ((n).toInt - 1) → ∀ (x19 : Int32), x19.toInt = (5 * (su).toInt) → ∀ (y21 : Int32), y21.toInt = (gn (ga mem 222) (k).toInt) → ∀ (x23 : Int32), x23.toInt = ((5 * (su).toInt) + (gn (ga mem 222) (k).toInt)) → ∀ (x25 : Int32), x25.toInt = (((5 * (su).toInt) + (gn (ga mem 222) (k).toInt)) % 251) → ∀ (x30 : Int32), x30.toInt = ((k).toInt + 1) → ∀ lo, zlg lo 0 = some (.ref 221) → zlg lo 1 = some (.int n) → zlg lo 2 = some (.int ff) → zlg lo 3 = some (.int x25) → zlg lo 4 = some (.int x30) → wI (aΘ0 E) m0 mem → yR zpg tX12_comesOn (d + 5) (71, lo, [], mem) P) : yR zpg tX12_comesOn (d + 5) (71, lo, [], mem) P := by
  have r0 : k.toInt < 1800 → 0 ≤ gn (ga mem 222) k.toInt ∧ gn (ga mem 222) k.toInt ≤ 255 := fun h => gR_222 hm.1.1 hk.1 h
  refine wR_li rfl l_4 ?_
  refine wR_li rfl l_1 ?_
  refine yR_m 1 (fun _ _ _ _ => rfl) ?_
  refine wN_sub (a := (n).toInt) (b := 1) rfl rfl rfl (by omega) (fun x1 e2 => ?_)
  refine wR_ic_ge rfl (a := (k).toInt) (c := ((n).toInt - 1)) rfl e2 (fun q3 => ?_) (fun q3 => ?_)
  ·
    refine wR_la rfl l_0 ?_
    refine wR_gr rfl mO_e mO_0 hm.1.1 ?_
    refine wR_li rfl l_1 ?_
    refine yR_m 1 (fun _ _ _ _ => rfl) ?_
    refine wN_sub (a := (n).toInt) (b := 1) rfl rfl rfl (by omega) (fun x4 e5 => ?_)
    refine wN_al (a := ((n).toInt - 1)) rfl aR_222 hm.1.1 rfl e5 (by omega) (fun y6 e7 => ?_)
    refine wR_li rfl l_3 ?_
    refine wR_ic_eq rfl (a := (gn (ga mem 222) ((n).toInt - 1))) (c := (su).toInt) e7 rfl (fun q8 => ?_) (fun q8 => ?_)
    ·
      refine wR_la rfl l_0 ?_
      refine yR_m 2 (fun _ _ _ _ => rfl) ?_
      refine wR_cv rfl rfl mO_e hm.1.1 rfl (k9_X12_copies g9 (d + 5) _ [.ref 221, .int 1, .int 0] (by omega) hm.1 ⟨⟨221, List.mem_singleton.mpr rfl, rfl⟩, ⟨_, rfl, by decide, by decide⟩, ⟨_, rfl, by decide, by decide⟩, trivial⟩) ?_
      rintro r m9 ⟨j11a, j11b, j11c⟩
      cases r with
      | some w => exact j11c.elim
      | none =>
        have hm9 : wI (aΘ0 E) m0 m9 := ⟨j11a, aPr_tr hm.2 j11b⟩
        show yR zpg tX12_comesOn (d + 5) (121, lo, [], m9) _
        refine wR_la rfl l_0 ?_
        refine wR_gr rfl mO_e mO_48 hm9.1.1 ?_
        refine yR_m 1 (fun _ _ _ _ => rfl) ?_
        refine wR_la rfl l_0 ?_
        refine wR_gr rfl mO_e mO_0 hm9.1.1 ?_
        refine yR_m 1 (fun _ _ _ _ => rfl) ?_
        refine wN_al (a := 0) rfl aR_222 hm9.1.1 rfl rfl (by decide) (fun y12 e13 => ?_)
        refine yR_m 2 (fun _ _ _ _ => rfl) ?_
        refine wR_la rfl l_0 ?_
        refine wR_gr rfl mO_e mO_0 hm9.1.1 ?_
        refine yR_m 1 (fun _ _ _ _ => rfl) ?_
        refine wN_al (a := 1) rfl aR_222 hm9.1.1 rfl rfl (by decide) (fun y14 e15 => ?_)
        refine yR_m 1 (fun _ _ _ _ => rfl) ?_
        refine wN_as (a := 1) rfl aR_249 hm9.1.1 rfl (by decide) ?_
        have hm_1 : wI (aΘ0 E) m0 (sx m9 249 1 ((y12 <<< (8 &&& 31)) ||| y14)) := wI_sa hE aR_249 hm9 (i32_b _)
        refine wR_la rfl l_0 ?_
        refine wR_gr rfl mO_e mO_49 hm_1.1.1 ?_
        refine yR_m 2 (fun _ _ _ _ => rfl) ?_
        refine wN_as (a := 1) rfl aR_250 hm_1.1.1 rfl (by decide) ?_
        have hm_2 : wI (aΘ0 E) m0 (sx (sx m9 249 1 ((y12 <<< (8 &&& 31)) ||| y14)) 250 1 0) := wI_sa hE aR_250 hm_1 (by decide)
        refine wR_la rfl l_0 ?_
        refine wR_gr rfl mO_e mO_52 hm_2.1.1 ?_
        refine yR_m 2 (fun _ _ _ _ => rfl) ?_
        refine wN_as (a := 1) rfl aR_253 hm_2.1.1 rfl (by decide) ?_
        have hm_3 : wI (aΘ0 E) m0 (sx (sx (sx m9 249 1 ((y12 <<< (8 &&& 31)) ||| y14)) 250 1 0) 253 1 0) := wI_sa hE aR_253 hm_2 (by decide)
        refine yR_m 1 (fun _ _ _ _ => rfl) ?_
        refine wR_si rfl rfl (fun lo16 e17 f18 => ?_)
        have lo16_0 := f18 0 _ (by decide) (Or.inl rfl) l_0
        have lo16_1 := f18 1 _ (by decide) (Or.inl rfl) l_1
        have lo16_2 := f18 2 _ (by decide) (Or.inl rfl) l_2
        have lo16_3 := f18 3 _ (by decide) (Or.inl rfl) l_3
        exact h1 x1 e2 q3 x4 e5 y6 e7 q8 m9 hm9 j11b y12 e13 y14 e15 lo16 lo16_0 lo16_2 e17 hm_3
    ·
      refine yR_m 1 (fun _ _ _ _ => rfl) ?_
      exact yR_rz rfl ⟨by decide, by decide⟩ (h2 x1 e2 q3 x4 e5 y6 e7 q8 hm)
  ·
    refine yR_m 1 (fun _ _ _ _ => rfl) ?_
    refine wR_li rfl l_3 ?_
    refine wN_mul (a := 5) (b := (su).toInt) rfl rfl rfl (by omega) (fun x19 e20 => ?_)
    refine wR_la rfl l_0 ?_
    refine wR_gr rfl mO_e mO_0 hm.1.1 ?_
    refine wR_li rfl l_4 ?_
    refine wN_al (a := (k).toInt) rfl aR_222 hm.1.1 rfl rfl (by omega) (fun y21 e22 => ?_)
    refine wN_add (a := (5 * (su).toInt)) (b := (gn (ga mem 222) (k).toInt)) rfl e20 e22 (by omega) (fun x23 e24 => ?_)
    refine yR_m 1 (fun _ _ _ _ => rfl) ?_
    refine wN_rem (a := ((5 * (su).toInt) + (gn (ga mem 222) (k).toInt))) (b := 251) rfl e24 rfl (by decide) (by omega) (fun x25 e26 => ?_)
    refine wR_si rfl rfl (fun lo27 e28 f29 => ?_)
    have lo27_0 := f29 0 _ (by decide) (Or.inl rfl) l_0
    have lo27_1 := f29 1 _ (by decide) (Or.inl rfl) l_1
    have lo27_2 := f29 2 _ (by decide) (Or.inl rfl) l_2
    have lo27_4 := f29 4 _ (by decide) (Or.inl rfl) l_4
    refine wN_in (a := (k).toInt) (b := 1) rfl rfl lo27_4 rfl rfl (by omega) (fun x30 e31 => fun lo32 e33 f34 => ?_)
    have lo32_3 := f34 3 _ (by decide) (Or.inl rfl) e28
    have lo32_0 := f34 0 _ (by decide) (Or.inl rfl) lo27_0
    have lo32_1 := f34 1 _ (by decide) (Or.inl rfl) lo27_1
    have lo32_2 := f34 2 _ (by decide) (Or.inl rfl) lo27_2
    exact yR_m 1 (fun _ _ _ _ => rfl) (h3 x1 e2 q3 x19 e20 y21 e22 x23 e24 x25 e26 x30 e31 lo32 lo32_0 lo32_1 lo32_2 lo32_3 e33 hm)

set_option maxRecDepth 100000 in
theorem w_co_160 {E : zM → Prop} (hE : aEs (aΘ0 E)) {d : Nat} {m0 mem : zM} {P : Option Value → zM → Prop} {ff k : Int32} {lo : List (Nat × Value)} (hm : wI (aΘ0 E) m0 mem) (l_0 : zlg lo 0 = some (.ref 221)) (l_2 : zlg lo 2 = some (.int ff)) (l_4 : zlg lo 4 = some (.int k)) (hk : 0 ≤ k.toInt ∧ k.toInt ≤ 9) (h1 : ∀ (y1 : Int32), y1.toInt = (gn (ga mem 228) (gi mem 221 13).toInt) → (gn (ga mem 228) (gi mem 221 13).toInt) ≤ (k).toInt → ∀ lo, zlg lo 0 = some (.ref 221) → zlg lo 2 = some (.int ff) → zlg lo 4 = some (.int 0) → wI (aΘ0 E) m0 mem → yR zpg tX12_comesOn (d + 5) (256, lo, [], mem) P) (h2 : ∀ (y1 : Int32), y1.toInt = (gn (ga mem 228) (gi mem 221 13).toInt) → (k).toInt < (gn (ga mem 228) (gi mem 221 13).toInt) → ∀ (x7 : Int32), x7.toInt = (2 * (k).toInt) → ∀ (x9 : Int32), x9.toInt = (2 + (2 * (k).toInt)) → ∀ (y14 : Int32), y14.toInt = (gn (ga mem 222) (2 + (2 * (k).toInt))) → 1 < (gn (ga mem 222) (2 + (2 * (k).toInt))) → wI (aΘ0 E) m0 mem → P (some (.int 0)) mem) (h3 : ∀ (y1 : Int32), y1.toInt = (gn (ga mem 228) (gi mem 221 13).toInt) → (k).toInt < (gn (ga mem 228) (gi mem 221 13).toInt) → ∀ (x7 : Int32), x7.toInt = (2 * (k).toInt) → ∀ (x9 : Int32), x9.toInt = (2 + (2 * (k).toInt)) → ∀ (y14 : Int32), y14.toInt = (gn (ga mem 222) (2 + (2 * (k).toInt))) → (gn (ga mem 222) (2 + (2 * (k).toInt))) ≤ 1 → ∀ (x17 : Int32), x17.toInt = ((2 + (2 * (k).toInt)) + 1) → ∀ (y19 : Int32), y19.toInt = (gn (ga mem 222) ((2 + (2 * (k).toInt)) + 1)) → (gn (ga mem 222) ((2 + (2 * (k).toInt)) + 1)) ≤ 99 → ∀ (y22 : Int32), y22.toInt = (gn (ga mem 250) 1) → ∀ (y24 : Int32), y24.toInt = (gn (ga mem 222) (2 + (2 * (k).toInt))) → ∀ (x26 : Int32), x26.toInt = (9 + (k).toInt) → ∀ (x28 : Int32), x28.toInt = ((2 + (2 * (k).toInt)) + 1) → ∀ (y30 : Int32), y30.toInt = (gn (ga mem 222) ((2 + (2 * (k).toInt)) + 1)) → ∀ (x32 : Int32), x32.toInt = ((k).toInt + 1) → ∀ lo, zlg lo 0 = some (.ref 221) → zlg lo 2 = some (.int ff) → zlg lo 4 = some (.int x32) → wI (aΘ0 E) m0 (sx (sx mem 250 1 (y22 ||| (y24 <<< (k &&& 31)))) 251 x26 y30) → yR zpg tX12_comesOn (d + 5) (160, lo, [], (sx (sx mem 250 1 (y22 ||| (y24 <<< (k &&& 31)))) 251 x26 y30)) P) (h4 : ∀ (y1 : Int32), y1.toInt = (gn (ga mem 228) (gi mem 221 13).toInt) → (k).toInt < (gn (ga mem 228) (gi mem 221 13).toInt) → ∀ (x7 : Int32), x7.toInt = (2 * (k).toInt) → ∀ (x9 : Int32), x9.toInt = (2 + (2 * (k).toInt)) → ∀ (y14 : Int32), y14.toInt = (gn (ga mem 222) (2 + (2 * (k).toInt))) → (gn (ga mem 222) (2 + (2 * (k).toInt))) ≤ 1 → ∀ (x17 : Int32), x17.toInt = ((2 + (2 * (k).toInt)) + 1) → ∀ (y19 : Int32), y19.toInt = (gn (ga mem 222) ((2 + (2 * (k).toInt)) + 1)) → 99 < (gn (ga mem 222) ((2 + (2 * (k).toInt)) + 1)) → wI (aΘ0 E) m0 mem → P (some (.int 0)) mem) : yR zpg tX12_comesOn (d + 5) (160, lo, [], mem) P := by
  obtain ⟨b0, b1⟩ := mO_r13 hm.1.1
  have th := gR_228 hm.1.1 (i := (gi mem 221 13).toInt) b0 (by omega)
  have r5 := gR_250 hm.1.1 (i := 1) (by omega) (by omega)
  have r2 := gR_222 hm.1.1 (i := 2 + 2 * k.toInt) (by omega) (by omega)
  refine wR_li rfl l_4 ?_
  refine wR_la rfl l_0 ?_
  refine wR_gr rfl mO_e mO_19 hm.1.1 ?_
  refine wR_la rfl l_0 ?_
  refine wR_gi rfl mO_e mO_13 hm.1.1 rfl ?_
  refine wN_al (a := (gi mem 221 13).toInt) rfl aR_228 hm.1.1 rfl rfl (by omega) (fun y1 e2 => ?_)
  refine wR_ic_ge rfl (a := (k).toInt) (c := (gn (ga mem 228) (gi mem 221 13).toInt)) rfl e2 (fun q3 => ?_) (fun q3 => ?_)
  ·
    refine yR_m 1 (fun _ _ _ _ => rfl) ?_
    refine wR_si rfl rfl (fun lo4 e5 f6 => ?_)
    have lo4_0 := f6 0 _ (by decide) (Or.inl rfl) l_0
    have lo4_2 := f6 2 _ (by decide) (Or.inl rfl) l_2
    exact h1 y1 e2 q3 lo4 lo4_0 lo4_2 e5 hm
  ·
    refine yR_m 2 (fun _ _ _ _ => rfl) ?_
    refine wR_li rfl l_4 ?_
    refine wN_mul (a := 2) (b := (k).toInt) rfl rfl rfl (by omega) (fun x7 e8 => ?_)
    refine wN_add (a := 2) (b := (2 * (k).toInt)) rfl rfl e8 (by omega) (fun x9 e10 => ?_)
    refine wR_si rfl rfl (fun lo11 e12 f13 => ?_)
    have lo11_0 := f13 0 _ (by decide) (Or.inl rfl) l_0
    have lo11_2 := f13 2 _ (by decide) (Or.inl rfl) l_2
    have lo11_4 := f13 4 _ (by decide) (Or.inl rfl) l_4
    refine wR_la rfl lo11_0 ?_
    refine wR_gr rfl mO_e mO_0 hm.1.1 ?_
    refine wR_li rfl e12 ?_
    refine wN_al (a := (2 + (2 * (k).toInt))) rfl aR_222 hm.1.1 rfl e10 (by omega) (fun y14 e15 => ?_)
    refine yR_m 1 (fun _ _ _ _ => rfl) ?_
    refine wR_ic_gt rfl (a := (gn (ga mem 222) (2 + (2 * (k).toInt)))) (c := 1) e15 rfl (fun q16 => ?_) (fun q16 => ?_)
    ·
      refine yR_m 1 (fun _ _ _ _ => rfl) ?_
      exact yR_rz rfl ⟨by decide, by decide⟩ (h2 y1 e2 q3 x7 e8 x9 e10 y14 e15 q16 hm)
    ·
      refine wR_la rfl lo11_0 ?_
      refine wR_gr rfl mO_e mO_0 hm.1.1 ?_
      refine wR_li rfl e12 ?_
      refine yR_m 1 (fun _ _ _ _ => rfl) ?_
      refine wN_add (a := (2 + (2 * (k).toInt))) (b := 1) rfl e10 rfl (by omega) (fun x17 e18 => ?_)
      refine wN_al (a := ((2 + (2 * (k).toInt)) + 1)) rfl aR_222 hm.1.1 rfl e18 (by omega) (fun y19 e20 => ?_)
      refine yR_m 1 (fun _ _ _ _ => rfl) ?_
      refine wR_ic_le rfl (a := (gn (ga mem 222) ((2 + (2 * (k).toInt)) + 1))) (c := 99) e20 rfl (fun q21 => ?_) (fun q21 => ?_)
      ·
        refine wR_la rfl lo11_0 ?_
        refine wR_gr rfl mO_e mO_49 hm.1.1 ?_
        refine yR_m 2 (fun _ _ _ _ => rfl) ?_
        refine wN_al (a := 1) rfl aR_250 hm.1.1 rfl rfl (by decide) (fun y22 e23 => ?_)
        refine wR_la rfl lo11_0 ?_
        refine wR_gr rfl mO_e mO_0 hm.1.1 ?_
        refine wR_li rfl e12 ?_
        refine wN_al (a := (2 + (2 * (k).toInt))) rfl aR_222 hm.1.1 rfl e10 (by omega) (fun y24 e25 => ?_)
        refine wR_li rfl lo11_4 ?_
        refine yR_m 2 (fun _ _ _ _ => rfl) ?_
        refine wN_as (a := 1) rfl aR_250 hm.1.1 rfl (by decide) ?_
        have hm_1 : wI (aΘ0 E) m0 (sx mem 250 1 (y22 ||| (y24 <<< (k &&& 31)))) := wI_sa hE aR_250 hm (or_rg (by omega) (by omega) (by omega) (by omega) (by omega) (by omega))
        refine wR_la rfl lo11_0 ?_
        refine wR_gr rfl mO_e mO_50 hm_1.1.1 ?_
        refine yR_m 1 (fun _ _ _ _ => rfl) ?_
        refine wR_li rfl lo11_4 ?_
        refine wN_add (a := 9) (b := (k).toInt) rfl rfl rfl (by omega) (fun x26 e27 => ?_)
        refine wR_la rfl lo11_0 ?_
        refine wR_gr rfl mO_e mO_0 hm_1.1.1 ?_
        refine wR_li rfl e12 ?_
        refine yR_m 1 (fun _ _ _ _ => rfl) ?_
        refine wN_add (a := (2 + (2 * (k).toInt))) (b := 1) rfl e10 rfl (by omega) (fun x28 e29 => ?_)
        refine wN_al (a := ((2 + (2 * (k).toInt)) + 1)) rfl aR_222 hm_1.1.1 (ga_sa_ne (by decide)) e29 (by omega) (fun y30 e31 => ?_)
        refine wN_as (a := (9 + (k).toInt)) rfl aR_251 hm_1.1.1 e27 (by omega) ?_
        have hm_2 : wI (aΘ0 E) m0 (sx (sx mem 250 1 (y22 ||| (y24 <<< (k &&& 31)))) 251 x26 y30) := wI_sa hE aR_251 hm_1 (i32_b _)
        refine wN_in (a := (k).toInt) (b := 1) rfl rfl lo11_4 rfl rfl (by omega) (fun x32 e33 => fun lo34 e35 f36 => ?_)
        have lo34_5 := f36 5 _ (by decide) (Or.inl rfl) e12
        have lo34_0 := f36 0 _ (by decide) (Or.inl rfl) lo11_0
        have lo34_2 := f36 2 _ (by decide) (Or.inl rfl) lo11_2
        exact yR_m 1 (fun _ _ _ _ => rfl) (h3 y1 e2 q3 x7 e8 x9 e10 y14 e15 q16 x17 e18 y19 e20 q21 y22 e23 y24 e25 x26 e27 x28 e29 y30 e31 x32 e33 lo34 lo34_0 lo34_2 e35 hm_2)
      ·
        refine yR_m 1 (fun _ _ _ _ => rfl) ?_
        exact yR_rz rfl ⟨by decide, by decide⟩ (h4 y1 e2 q3 x7 e8 x9 e10 y14 e15 q16 x17 e18 y19 e20 q21 hm)

set_option maxRecDepth 100000 in
theorem w_co_256 {E : zM → Prop} (hE : aEs (aΘ0 E)) {d : Nat} {m0 mem : zM} {P : Option Value → zM → Prop} {ff k : Int32} {lo : List (Nat × Value)} (hm : wI (aΘ0 E) m0 mem) (l_0 : zlg lo 0 = some (.ref 221)) (l_2 : zlg lo 2 = some (.int ff)) (l_4 : zlg lo 4 = some (.int k)) (hz : szOK mem) (hff : 0 ≤ ff.toInt ∧ ff.toInt ≤ 20) (hk : 0 ≤ k.toInt ∧ k.toInt ≤ 6) (h1 : ∀ (y1 : Int32), y1.toInt = (gn (ga mem 233) (gi mem 221 13).toInt) → (gn (ga mem 233) (gi mem 221 13).toInt) ≤ (k).toInt → wI (aΘ0 E) m0 mem → P (some (.int 1)) mem) (h2 : ∀ (y1 : Int32), y1.toInt = (gn (ga mem 233) (gi mem 221 13).toInt) → (k).toInt < (gn (ga mem 233) (gi mem 221 13).toInt) → ∀ (x4 : Int32), x4.toInt = (2 * (k).toInt) → ∀ (x6 : Int32), x6.toInt = ((ff).toInt + (2 * (k).toInt)) → ∀ (v10 : Int32) (m8 : zM), wI (aΘ0 E) m0 m8 → (0 ≤ v10.toInt ∧ v10.toInt ≤ 1) → ¬ (v10).toInt = 0 → ∀ (x12 : Int32), x12.toInt = ((k).toInt + 1) → ∀ lo, zlg lo 0 = some (.ref 221) → zlg lo 2 = some (.int ff) → zlg lo 4 = some (.int x12) → wI (aΘ0 E) m0 m8 → yR zpg tX12_comesOn (d + 5) (256, lo, [], m8) P) (h3 : ∀ (y1 : Int32), y1.toInt = (gn (ga mem 233) (gi mem 221 13).toInt) → (k).toInt < (gn (ga mem 233) (gi mem 221 13).toInt) → ∀ (x4 : Int32), x4.toInt = (2 * (k).toInt) → ∀ (x6 : Int32), x6.toInt = ((ff).toInt + (2 * (k).toInt)) → ∀ (v10 : Int32) (m8 : zM), wI (aΘ0 E) m0 m8 → (0 ≤ v10.toInt ∧ v10.toInt ≤ 1) → (v10).toInt = 0 → wI (aΘ0 E) m0 m8 → P (some (.int 0)) m8) : yR zpg tX12_comesOn (d + 5) (256, lo, [], mem) P := by
  obtain ⟨b0, b1⟩ := mO_r13 hm.1.1
  have fk := gR_233 hm.1.1 (i := (gi mem 221 13).toInt) b0 (by omega)
  refine wR_li rfl l_4 ?_
  refine wR_la rfl l_0 ?_
  refine wR_gr rfl mO_e mO_24 hm.1.1 ?_
  refine wR_la rfl l_0 ?_
  refine wR_gi rfl mO_e mO_13 hm.1.1 rfl ?_
  refine wN_al (a := (gi mem 221 13).toInt) rfl aR_233 hm.1.1 rfl rfl (by omega) (fun y1 e2 => ?_)
  refine wR_ic_ge rfl (a := (k).toInt) (c := (gn (ga mem 233) (gi mem 221 13).toInt)) rfl e2 (fun q3 => ?_) (fun q3 => ?_)
  ·
    refine yR_m 1 (fun _ _ _ _ => rfl) ?_
    exact yR_rz rfl ⟨by decide, by decide⟩ (h1 y1 e2 q3 hm)
  ·
    refine wR_la rfl l_0 ?_
    refine wR_li rfl l_4 ?_
    refine wR_li rfl l_2 ?_
    refine yR_m 1 (fun _ _ _ _ => rfl) ?_
    refine wR_li rfl l_4 ?_
    refine wN_mul (a := 2) (b := (k).toInt) rfl rfl rfl (by omega) (fun x4 e5 => ?_)
    refine wN_add (a := (ff).toInt) (b := (2 * (k).toInt)) rfl rfl e5 (by omega) (fun x6 e7 => ?_)
    refine wR_cv rfl rfl mO_e hm.1.1 rfl (h_folkOn hE (by omega) (by omega) (by rw [e7]; exact (by omega)) hm hz) ?_
    rintro _ m8 ⟨v10, rfl, hI8, k9⟩
    show yR zpg tX12_comesOn (d + 5) (282, lo, [.int v10], m8) _
    refine wR_if_ne rfl (a := (v10).toInt) rfl (fun q11 => ?_) (fun q11 => ?_)
    ·
      refine wN_in (a := (k).toInt) (b := 1) rfl rfl l_4 rfl rfl (by omega) (fun x12 e13 => fun lo14 e15 f16 => ?_)
      have lo14_0 := f16 0 _ (by decide) (Or.inl rfl) l_0
      have lo14_2 := f16 2 _ (by decide) (Or.inl rfl) l_2
      exact yR_m 1 (fun _ _ _ _ => rfl) (h2 y1 e2 q3 x4 e5 x6 e7 v10 m8 hI8 k9 q11 x12 e13 lo14 lo14_0 lo14_2 e15 hI8)
    ·
      refine yR_m 1 (fun _ _ _ _ => rfl) ?_
      exact yR_rz rfl ⟨by decide, by decide⟩ (h3 y1 e2 q3 x4 e5 x6 e7 v10 m8 hI8 k9 q11 hI8)

section CO
variable {E : zM → Prop} {m0 : zM} {d : Nat} {n ff su : Int32}
def coP (E : zM → Prop) (m0 : zM) (r : Option Value) (m : zM) : Prop := ∃ x : Int32, r = some (.int x) ∧ wI (aΘ0 E) m0 m ∧ (0 ≤ x.toInt ∧ x.toInt ≤ 1)
theorem co_folk (hE : aEs (aΘ0 E)) (hz : ∀ mem, aJ (aΘ0 E) mem → szOK mem) (hff : 0 ≤ ff.toInt ∧ ff.toInt ≤ 20) : ∀ (f : Nat) (k : Int32) (mem : zM) (lo : List (Nat × Value)), 7 ≤ k.toInt + (f : Int) → 0 ≤ k.toInt → k.toInt ≤ 6 → zlg lo 0 = some (.ref 221) → zlg lo 2 = some (.int ff) → zlg lo 4 = some (.int k) → wI (aΘ0 E) m0 mem → yR zpg tX12_comesOn (d + 5) (256, lo, [], mem) (coP E m0) := by
  intro f
  induction f with
  | zero => intro k mem lo hf k0 k1; omega
  | succ f ih =>
    intro k mem lo hf k0 k1 l0 l2 l4 hI
    obtain ⟨b0, b1⟩ := mO_r13 hI.1.1
    have fk := gR_233 hI.1.1 (i := (gi mem 221 13).toInt) b0 (by omega)
    exact w_co_256 hE hI l0 l2 l4 (hz mem hI.1) hff ⟨k0, k1⟩
        (fun y1 e2 q3 hI => ⟨_, rfl, hI, by decide⟩)
        (fun y1 e2 q3 x4 e5 x6 e7 v10 m8 hI8 k9 q11 x12 e13 lo a0 a2 a4 hI => ih _ _ lo (by omega) (by omega) (by omega) a0 a2 a4 hI)
        (fun y1 e2 q3 x4 e5 x6 e7 v10 m8 hI8 k9 q11 hI => ⟨_, rfl, hI, by decide⟩)
theorem co_thing (hE : aEs (aΘ0 E)) (hz : ∀ mem, aJ (aΘ0 E) mem → szOK mem) (hff : 0 ≤ ff.toInt ∧ ff.toInt ≤ 20) : ∀ (f : Nat) (k : Int32) (mem : zM) (lo : List (Nat × Value)), 10 ≤ k.toInt + (f : Int) → 0 ≤ k.toInt → k.toInt ≤ 9 → zlg lo 0 = some (.ref 221) → zlg lo 2 = some (.int ff) → zlg lo 4 = some (.int k) → wI (aΘ0 E) m0 mem → yR zpg tX12_comesOn (d + 5) (160, lo, [], mem) (coP E m0) := by
  intro f
  induction f with
  | zero => intro k mem lo hf k0 k1; omega
  | succ f ih =>
    intro k mem lo hf k0 k1 l0 l2 l4 hI
    obtain ⟨b0, b1⟩ := mO_r13 hI.1.1
    have th := gR_228 hI.1.1 (i := (gi mem 221 13).toInt) b0 (by omega)
    exact w_co_160 hE hI l0 l2 l4 ⟨k0, k1⟩
        (fun y1 e2 q3 lo a0 a2 a4 hI => co_folk hE hz hff 7 0 _ lo (by decide) (by decide) (by decide) a0 a2 a4 hI)
        (fun y1 e2 q3 x7 e8 x9 e10 y14 e15 q16 hI => ⟨_, rfl, hI, by decide⟩)
        (fun y1 e2 q3 x7 e8 x9 e10 y14 e15 q16 x17 e18 y19 e20 q21 y22 e23 y24 e25 x26 e27 x28 e29 y30 e31 x32 e33 lo a0 a2 a4 hI => ih _ _ lo (by omega) (by omega) (by omega) a0 a2 a4 hI)
        (fun y1 e2 q3 x7 e8 x9 e10 y14 e15 q16 x17 e18 y19 e20 q21 hI => ⟨_, rfl, hI, by decide⟩)
theorem co_sum (hE : aEs (aΘ0 E)) (h9 : aH9 E) (hz : ∀ mem, aJ (aΘ0 E) mem → szOK mem) (hn : 0 ≤ n.toInt ∧ n.toInt ≤ 1600) (hn1 : 1 ≤ n.toInt) (hff : 0 ≤ ff.toInt ∧ ff.toInt ≤ 20) {mem : zM} (hI : wI (aΘ0 E) m0 mem) : ∀ (f : Nat) (k su : Int32) (lo : List (Nat × Value)), 1600 ≤ k.toInt + (f : Int) → 0 ≤ k.toInt → k.toInt ≤ 1600 → 0 ≤ su.toInt → su.toInt ≤ 250 → zlg lo 0 = some (.ref 221) → zlg lo 1 = some (.int n) → zlg lo 2 = some (.int ff) → zlg lo 3 = some (.int su) → zlg lo 4 = some (.int k) → yR zpg tX12_comesOn (d + 5) (71, lo, [], mem) (coP E m0) := by
  intro f
  induction f with
  | zero =>
    intro k su lo hf k0 k1 s0 s1 l0 l1 l2 l3 l4
    exact w_co_71 hE hI l0 l1 l2 l3 l4 h9 ⟨hn1, hn.2⟩ ⟨k0, k1⟩ ⟨s0, s1⟩
        (fun x1 e2 q3 x4 e5 y6 e7 q8 m9 hm9 j11b y12 e13 y14 e15 lo a0 a2 a4 hI => co_thing hE hz hff 10 0 _ lo (by decide) (by decide) (by decide) a0 a2 a4 hI)
        (fun x1 e2 q3 x4 e5 y6 e7 q8 hI => ⟨_, rfl, hI, by decide⟩)
        (fun x1 e2 q3 x19 e20 y21 e22 x23 e24 x25 e26 x30 e31 lo a0 a1 a2 a3 a4 hI => by exfalso; omega)
  | succ f ih =>
    intro k su lo hf k0 k1 s0 s1 l0 l1 l2 l3 l4
    exact w_co_71 hE hI l0 l1 l2 l3 l4 h9 ⟨hn1, hn.2⟩ ⟨k0, k1⟩ ⟨s0, s1⟩
        (fun x1 e2 q3 x4 e5 y6 e7 q8 m9 hm9 j11b y12 e13 y14 e15 lo a0 a2 a4 hI => co_thing hE hz hff 10 0 _ lo (by decide) (by decide) (by decide) a0 a2 a4 hI)
        (fun x1 e2 q3 x4 e5 y6 e7 q8 hI => ⟨_, rfl, hI, by decide⟩)
        (fun x1 e2 q3 x19 e20 y21 e22 x23 e24 x25 e26 x30 e31 lo a0 a1 a2 a3 a4 hI => ih _ _ lo (by omega) (by omega) (by omega) (by omega) (by omega) a0 a1 a2 a3 a4)
theorem h_comesOn (hE : aEs (aΘ0 E)) (h9 : aH9 E) (hz : ∀ mem, aJ (aΘ0 E) mem → szOK mem) (hn : 0 ≤ n.toInt ∧ n.toInt ≤ 1600) {mem : zM} (hd : 6 ≤ d) (hI : wI (aΘ0 E) m0 mem) : yC zpg d 277 [.ref 221, .int n] mem (coP E m0) := by
  obtain ⟨d, rfl⟩ : ∃ q, d = q + 6 := ⟨d - 6, by omega⟩
  obtain ⟨b0, b1⟩ := mO_r13 hI.1.1
  have th := gR_228 hI.1.1 (i := (gi mem 221 13).toInt) b0 (by omega)
  have fk := gR_233 hI.1.1 (i := (gi mem 221 13).toInt) b0 (by omega)
  refine yC_of (t := tX12_comesOn) rfl rfl ?_
  exact w_co_0 hE hI rfl rfl hn
        (fun y1 e2 x3 e4 x5 e6 q10 hI => ⟨_, rfl, hI, by decide⟩)
        (fun y1 e2 x3 e4 x5 e6 q10 y11 e12 x13 e14 x15 e16 x17 e18 q19 hI => ⟨_, rfl, hI, by decide⟩)
        (fun y1 e2 x3 e4 x5 e6 q10 y11 e12 x13 e14 x15 e16 x17 e18 q19 y20 e21 y22 e23 q24 lo a0 a1 a2 a3 a4 hI => co_sum hE h9 hz hn (by omega) (by omega) hI 1600 0 241 lo (by decide) (by decide) (by decide) (by decide) (by decide) a0 a1 a2 a3 a4)
        (fun y1 e2 x3 e4 x5 e6 q10 y11 e12 x13 e14 x15 e16 x17 e18 q19 y20 e21 y22 e23 q24 hI => ⟨_, rfl, hI, by decide⟩)
end CO
/-- of the model's object all but bank and isQuay may change, and the cells ks -/
def smo (ks : List Nat) (mr m : zM) : Prop := onl (221 :: ks) mr m ∧ gi m 221 13 = gi mr 221 13 ∧ gi m 221 46 = gi mr 221 46 ∧ gi m 221 1 = gi mr 221 1
theorem smo_rf {ks : List Nat} {m : zM} : smo ks m m := ⟨onl_rf, rfl, rfl, rfl⟩
theorem smo_tr {ks : List Nat} {a b c : zM} (h : smo ks a b) (k : smo ks b c) : smo ks a c := ⟨onl_tr h.1 k.1, k.2.1.trans h.2.1, k.2.2.1.trans h.2.2.1, k.2.2.2.trans h.2.2.2⟩
theorem smo_sa {ks : List Nat} {mr m : zM} {k j : Nat} {x : Int32} (hk : (221 :: ks).contains k = true) (h : smo ks mr m) : smo ks mr (sa m k j x) := ⟨onl_sa hk h.1, gi_sa.trans h.2.1, gi_sa.trans h.2.2.1, gi_sa.trans h.2.2.2⟩
theorem onl_sv {ks : List Nat} {m0 m : zM} {k i : Nat} {v : Value} (hk : ks.contains k = true) (h : onl ks m0 m) : onl ks m0 (sv m k i v) := fun q hq => by rw [zat_sv_ne (onl_ne hk hq)]; exact h q hq
theorem smo_sv {ks : List Nat} {mr m : zM} {i : Nat} {v : Value} (h1 : ¬ i = 13) (h2 : ¬ i = 46) (h3 : ¬ i = 1) (h : smo ks mr m) : smo ks mr (sv m 221 i v) := ⟨onl_sv (by simp) h.1, (gi_sv_ne (fun q => h1 q.2)).trans h.2.1, (gi_sv_ne (fun q => h2 q.2)).trans h.2.2.1, (gi_sv_ne (fun q => h3 q.2)).trans h.2.2.2⟩
def Em (m : zM) : Prop := cdOK m ∧ szOK m
theorem Em_eq {m m' : zM} (h1 : gi m' 221 13 = gi m 221 13) (h2 : ga m' 223 = ga m 223) (h3 : ga m' 224 = ga m 224) (h4 : ga m' 236 = ga m 236) (h5 : ga m' 237 = ga m 237) (h6 : ga m' 238 = ga m 238) (h : Em m) : Em m' := by
  have hb : bkN m' = bkN m := by unfold bkN; rw [h1]
  refine ⟨?_, ?_⟩
  · unfold cdOK
    rw [h1, h4, h5, h6]
    exact h.1
  · unfold szOK colsI rowsI
    rw [hb, h2, h3]
    exact h.2
theorem smo_Em {ks : List Nat} {mr m : zM} (h : smo ks mr m) (a : (221 :: ks).contains 223 = false) (b : (221 :: ks).contains 224 = false) (c : (221 :: ks).contains 236 = false) (e : (221 :: ks).contains 237 = false) (f : (221 :: ks).contains 238 = false) (k : Em mr) : Em m := Em_eq h.2.1 (onl_ga h.1 a) (onl_ga h.1 b) (onl_ga h.1 c) (onl_ga h.1 e) (onl_ga h.1 f) k
set_option maxRecDepth 100000 in
theorem w_me_0 {d : Nat} {mem : zM} {P : Option Value → zM → Prop} {lo : List (Nat × Value)} (hm : aTm aT0 mem) (l_0 : zlg lo 0 = some (.ref 221)) (h1 : (gi mem 221 1).toInt ≤ 0 → ∀ lo, zlg lo 0 = some (.ref 221) → zlg lo 1 = some (.int (gi mem 221 1)) → zlg lo 2 = some (.int 0) → zlg lo 3 = some (.int 0) → aTm aT0 (si mem 221 1 0) → yR zpg tX12_meet (d + 3) (34, lo, [], (si mem 221 1 0)) P) (h2 : 0 < (gi mem 221 1).toInt → ∀ (x11 : Int32), x11.toInt = ((gi mem 221 1).toInt % 4) → ¬ ((gi mem 221 1).toInt % 4) = 0 → ∀ lo, zlg lo 0 = some (.ref 221) → zlg lo 1 = some (.int (gi mem 221 1)) → zlg lo 2 = some (.int 0) → zlg lo 3 = some (.int 0) → aTm aT0 (si mem 221 1 0) → yR zpg tX12_meet (d + 3) (34, lo, [], (si mem 221 1 0)) P) (h3 : 0 < (gi mem 221 1).toInt → ∀ (x11 : Int32), x11.toInt = ((gi mem 221 1).toInt % 4) → ((gi mem 221 1).toInt % 4) = 0 → 64 < (gi mem 221 1).toInt → ∀ lo, zlg lo 0 = some (.ref 221) → zlg lo 1 = some (.int (gi mem 221 1)) → zlg lo 2 = some (.int 0) → zlg lo 3 = some (.int 0) → aTm aT0 (si mem 221 1 0) → yR zpg tX12_meet (d + 3) (34, lo, [], (si mem 221 1 0)) P) (h4 : 0 < (gi mem 221 1).toInt → ∀ (x11 : Int32), x11.toInt = ((gi mem 221 1).toInt % 4) → ((gi mem 221 1).toInt % 4) = 0 → (gi mem 221 1).toInt ≤ 64 → ∀ lo, zlg lo 0 = some (.ref 221) → zlg lo 1 = some (.int (gi mem 221 1)) → zlg lo 2 = some (.int 1) → zlg lo 3 = some (.int 0) → aTm aT0 (si mem 221 1 0) → yR zpg tX12_meet (d + 3) (34, lo, [], (si mem 221 1 0)) P) : yR zpg tX12_meet (d + 3) (0, lo, [], mem) P := by
  have tp := mO_r1 hm
  refine wR_la rfl l_0 ?_
  refine wR_gi rfl mO_e mO_1 hm rfl ?_
  refine wR_si rfl rfl (fun lo1 e2 f3 => ?_)
  have lo1_0 := f3 0 _ (by decide) (Or.inl rfl) l_0
  refine wR_la rfl lo1_0 ?_
  refine yR_m 1 (fun _ _ _ _ => rfl) ?_
  refine wR_pi rfl mO_e mO_1 hm rfl ?_
  have hm_1 : aTm aT0 (si mem 221 1 0) := tm_si mO_e mO_1 hm (by decide)
  refine wR_li rfl e2 ?_
  refine wR_if_le rfl (a := (gi mem 221 1).toInt) rfl (fun q4 => ?_) (fun q4 => ?_)
  ·
    refine yR_m 1 (fun _ _ _ _ => rfl) ?_
    refine wR_si rfl rfl (fun lo5 e6 f7 => ?_)
    have lo5_1 := f7 1 _ (by decide) (Or.inl rfl) e2
    have lo5_0 := f7 0 _ (by decide) (Or.inl rfl) lo1_0
    refine yR_m 1 (fun _ _ _ _ => rfl) ?_
    refine wR_si rfl rfl (fun lo8 e9 f10 => ?_)
    have lo8_2 := f10 2 _ (by decide) (Or.inl rfl) e6
    have lo8_1 := f10 1 _ (by decide) (Or.inl rfl) lo5_1
    have lo8_0 := f10 0 _ (by decide) (Or.inl rfl) lo5_0
    exact h1 q4 lo8 lo8_0 lo8_1 lo8_2 e9 hm_1
  ·
    refine wR_li rfl e2 ?_
    refine yR_m 1 (fun _ _ _ _ => rfl) ?_
    refine wN_rem (a := (gi mem 221 1).toInt) (b := 4) rfl rfl rfl (by decide) (by omega) (fun x11 e12 => ?_)
    refine wR_if_ne rfl (a := ((gi mem 221 1).toInt % 4)) e12 (fun q13 => ?_) (fun q13 => ?_)
    ·
      refine yR_m 1 (fun _ _ _ _ => rfl) ?_
      refine wR_si rfl rfl (fun lo14 e15 f16 => ?_)
      have lo14_1 := f16 1 _ (by decide) (Or.inl rfl) e2
      have lo14_0 := f16 0 _ (by decide) (Or.inl rfl) lo1_0
      refine yR_m 1 (fun _ _ _ _ => rfl) ?_
      refine wR_si rfl rfl (fun lo17 e18 f19 => ?_)
      have lo17_2 := f19 2 _ (by decide) (Or.inl rfl) e15
      have lo17_1 := f19 1 _ (by decide) (Or.inl rfl) lo14_1
      have lo17_0 := f19 0 _ (by decide) (Or.inl rfl) lo14_0
      exact h2 q4 x11 e12 q13 lo17 lo17_0 lo17_1 lo17_2 e18 hm_1
    ·
      refine wR_li rfl e2 ?_
      refine yR_m 1 (fun _ _ _ _ => rfl) ?_
      refine wR_ic_gt rfl (a := (gi mem 221 1).toInt) (c := 64) rfl rfl (fun q20 => ?_) (fun q20 => ?_)
      ·
        refine yR_m 1 (fun _ _ _ _ => rfl) ?_
        refine wR_si rfl rfl (fun lo21 e22 f23 => ?_)
        have lo21_1 := f23 1 _ (by decide) (Or.inl rfl) e2
        have lo21_0 := f23 0 _ (by decide) (Or.inl rfl) lo1_0
        refine yR_m 1 (fun _ _ _ _ => rfl) ?_
        refine wR_si rfl rfl (fun lo24 e25 f26 => ?_)
        have lo24_2 := f26 2 _ (by decide) (Or.inl rfl) e22
        have lo24_1 := f26 1 _ (by decide) (Or.inl rfl) lo21_1
        have lo24_0 := f26 0 _ (by decide) (Or.inl rfl) lo21_0
        exact h3 q4 x11 e12 q13 q20 lo24 lo24_0 lo24_1 lo24_2 e25 hm_1
      ·
        refine yR_m 2 (fun _ _ _ _ => rfl) ?_
        refine wR_si rfl rfl (fun lo27 e28 f29 => ?_)
        have lo27_1 := f29 1 _ (by decide) (Or.inl rfl) e2
        have lo27_0 := f29 0 _ (by decide) (Or.inl rfl) lo1_0
        refine yR_m 1 (fun _ _ _ _ => rfl) ?_
        refine wR_si rfl rfl (fun lo30 e31 f32 => ?_)
        have lo30_2 := f32 2 _ (by decide) (Or.inl rfl) e28
        have lo30_1 := f32 1 _ (by decide) (Or.inl rfl) lo27_1
        have lo30_0 := f32 0 _ (by decide) (Or.inl rfl) lo27_0
        exact h4 q4 x11 e12 q13 q20 lo30 lo30_0 lo30_1 lo30_2 e31 hm_1

set_option maxRecDepth 100000 in
theorem w_me_34 {d : Nat} {mem : zM} {P : Option Value → zM → Prop} {n ca k : Int32} {lo : List (Nat × Value)} (hm : aTm aT0 mem) (l_0 : zlg lo 0 = some (.ref 221)) (l_1 : zlg lo 1 = some (.int n)) (l_2 : zlg lo 2 = some (.int ca)) (l_3 : zlg lo 3 = some (.int k)) (hn : 0 ≤ n.toInt ∧ n.toInt ≤ 1600) (hk : 0 ≤ k.toInt ∧ k.toInt ≤ 1603) (s1 : (n).toInt ≤ (k).toInt → ¬ (ca).toInt = 0 → ∀ (x3 : Int32), x3.toInt = ((n).toInt / 4) → (0 : Int) ≤ ((n).toInt / 4) ∧ ((n).toInt / 4) ≤ 16) (h1 : (n).toInt ≤ (k).toInt → ¬ (ca).toInt = 0 → ∀ (x3 : Int32), x3.toInt = ((n).toInt / 4) → ∀ lo, zlg lo 0 = some (.ref 221) → zlg lo 3 = some (.int 0) → aTm aT0 (si mem 221 66 x3) → yR zpg tX12_meet (d + 3) (123, lo, [], (si mem 221 66 x3)) P) (h2 : (n).toInt ≤ (k).toInt → (ca).toInt = 0 → ∀ (y8 : Int32), y8.toInt = (gn (ga mem 248) 5) → aTm aT0 (sx mem 248 5 (y8 + 1)) → P (some (.int (-1))) (sx mem 248 5 (y8 + 1))) (h3 : (k).toInt < (n).toInt → (ca).toInt = 0 → ∀ (y11 : Int32), y11.toInt = (gn (ga mem 248) 5) → aTm aT0 (sx mem 248 5 (y11 + 1)) → P (some (.int (-1))) (sx mem 248 5 (y11 + 1))) (h4 : (k).toInt < (n).toInt → ¬ (ca).toInt = 0 → ∀ (y13 : Int32), y13.toInt = (gn (ga mem 222) (k).toInt) → 30 < (gn (ga mem 222) (k).toInt) → ∀ (x19 : Int32), x19.toInt = ((k).toInt + 4) → ∀ lo, zlg lo 0 = some (.ref 221) → zlg lo 1 = some (.int n) → zlg lo 2 = some (.int 0) → zlg lo 3 = some (.int x19) → aTm aT0 mem → yR zpg tX12_meet (d + 3) (34, lo, [], mem) P) (h5 : (k).toInt < (n).toInt → ¬ (ca).toInt = 0 → ∀ (y13 : Int32), y13.toInt = (gn (ga mem 222) (k).toInt) → (gn (ga mem 222) (k).toInt) ≤ 30 → ∀ (x24 : Int32), x24.toInt = ((k).toInt + 1) → ∀ (y26 : Int32), y26.toInt = (gn (ga mem 222) ((k).toInt + 1)) → (gn (ga mem 222) ((k).toInt + 1)) < 0 → ∀ (x32 : Int32), x32.toInt = ((k).toInt + 4) → ∀ lo, zlg lo 0 = some (.ref 221) → zlg lo 1 = some (.int n) → zlg lo 2 = some (.int 0) → zlg lo 3 = some (.int x32) → aTm aT0 mem → yR zpg tX12_meet (d + 3) (34, lo, [], mem) P) (h6 : (k).toInt < (n).toInt → ¬ (ca).toInt = 0 → ∀ (y13 : Int32), y13.toInt = (gn (ga mem 222) (k).toInt) → (gn (ga mem 222) (k).toInt) ≤ 30 → ∀ (x24 : Int32), x24.toInt = ((k).toInt + 1) → ∀ (y26 : Int32), y26.toInt = (gn (ga mem 222) ((k).toInt + 1)) → 0 ≤ (gn (ga mem 222) ((k).toInt + 1)) → ∀ (y37 : Int32), y37.toInt = (gn (ga mem 233) (gi mem 221 13).toInt) → (gn (ga mem 233) (gi mem 221 13).toInt) ≤ (gn (ga mem 222) ((k).toInt + 1)) → ∀ (x43 : Int32), x43.toInt = ((k).toInt + 4) → ∀ lo, zlg lo 0 = some (.ref 221) → zlg lo 1 = some (.int n) → zlg lo 2 = some (.int 0) → zlg lo 3 = some (.int x43) → aTm aT0 mem → yR zpg tX12_meet (d + 3) (34, lo, [], mem) P) (s2 : szOK mem) (h7 : (k).toInt < (n).toInt → ¬ (ca).toInt = 0 → ∀ (y13 : Int32), y13.toInt = (gn (ga mem 222) (k).toInt) → (gn (ga mem 222) (k).toInt) ≤ 30 → ∀ (x24 : Int32), x24.toInt = ((k).toInt + 1) → ∀ (y26 : Int32), y26.toInt = (gn (ga mem 222) ((k).toInt + 1)) → 0 ≤ (gn (ga mem 222) ((k).toInt + 1)) → ∀ (y37 : Int32), y37.toInt = (gn (ga mem 233) (gi mem 221 13).toInt) → (gn (ga mem 222) ((k).toInt + 1)) < (gn (ga mem 233) (gi mem 221 13).toInt) → ∀ (x48 : Int32), x48.toInt = ((k).toInt + 2) → ∀ (y50 : Int32), y50.toInt = (gn (ga mem 222) ((k).toInt + 2)) → ∀ (x52 : Int32), x52.toInt = ((k).toInt + 3) → ∀ (y54 : Int32), y54.toInt = (gn (ga mem 222) ((k).toInt + 3)) → ∀ (v56 : Int32), isB v56 (inC mem (y50).toInt (y54).toInt) → (v56).toInt = 0 → ∀ (x62 : Int32), x62.toInt = ((k).toInt + 4) → ∀ lo, zlg lo 0 = some (.ref 221) → zlg lo 1 = some (.int n) → zlg lo 2 = some (.int 0) → zlg lo 3 = some (.int x62) → aTm aT0 mem → yR zpg tX12_meet (d + 3) (34, lo, [], mem) P) (h8 : (k).toInt < (n).toInt → ¬ (ca).toInt = 0 → ∀ (y13 : Int32), y13.toInt = (gn (ga mem 222) (k).toInt) → (gn (ga mem 222) (k).toInt) ≤ 30 → ∀ (x24 : Int32), x24.toInt = ((k).toInt + 1) → ∀ (y26 : Int32), y26.toInt = (gn (ga mem 222) ((k).toInt + 1)) → 0 ≤ (gn (ga mem 222) ((k).toInt + 1)) → ∀ (y37 : Int32), y37.toInt = (gn (ga mem 233) (gi mem 221 13).toInt) → (gn (ga mem 222) ((k).toInt + 1)) < (gn (ga mem 233) (gi mem 221 13).toInt) → ∀ (x48 : Int32), x48.toInt = ((k).toInt + 2) → ∀ (y50 : Int32), y50.toInt = (gn (ga mem 222) ((k).toInt + 2)) → ∀ (x52 : Int32), x52.toInt = ((k).toInt + 3) → ∀ (y54 : Int32), y54.toInt = (gn (ga mem 222) ((k).toInt + 3)) → ∀ (v56 : Int32), isB v56 (inC mem (y50).toInt (y54).toInt) → ¬ (v56).toInt = 0 → ∀ (x70 : Int32), x70.toInt = ((k).toInt + 4) → ∀ lo, zlg lo 0 = some (.ref 221) → zlg lo 1 = some (.int n) → zlg lo 2 = some (.int 1) → zlg lo 3 = some (.int x70) → aTm aT0 mem → yR zpg tX12_meet (d + 3) (34, lo, [], mem) P) : yR zpg tX12_meet (d + 3) (34, lo, [], mem) P := by
  obtain ⟨b0, b1⟩ := mO_r13 hm
  refine wR_li rfl l_3 ?_
  refine wR_li rfl l_1 ?_
  refine wR_ic_ge rfl (a := (k).toInt) (c := (n).toInt) rfl rfl (fun q1 => ?_) (fun q1 => ?_)
  ·
    refine wR_li rfl l_2 ?_
    refine wR_if_ne rfl (a := (ca).toInt) rfl (fun q2 => ?_) (fun q2 => ?_)
    ·
      refine wR_la rfl l_0 ?_
      refine wR_li rfl l_1 ?_
      refine yR_m 1 (fun _ _ _ _ => rfl) ?_
      refine wN_div (a := (n).toInt) (b := 4) rfl rfl rfl (by decide) (by omega) (fun x3 e4 => ?_)
      refine wR_pi rfl mO_e mO_66 hm rfl ?_
      have hm_1 : aTm aT0 (si mem 221 66 x3) := tm_si mO_e mO_66 hm (by rw [e4]; exact (s1 q1 q2 x3 e4))
      refine yR_m 1 (fun _ _ _ _ => rfl) ?_
      refine wR_si rfl rfl (fun lo5 e6 f7 => ?_)
      have lo5_0 := f7 0 _ (by decide) (Or.inl rfl) l_0
      have lo5_1 := f7 1 _ (by decide) (Or.inl rfl) l_1
      have lo5_2 := f7 2 _ (by decide) (Or.inl rfl) l_2
      exact h1 q1 q2 x3 e4 lo5 lo5_0 e6 hm_1
    ·
      refine wR_la rfl l_0 ?_
      refine yR_m 1 (fun _ _ _ _ => rfl) ?_
      refine wR_iv rfl rfl mO_e hm rfl rfl rfl rfl ?_
      show yR zpg tX12_refuses (d + 2) (0, [(0, .ref 221), (1, .int 5)], [], mem) _
      refine yR_m 1 (fun _ _ _ _ => rfl) ?_
      refine wR_gr rfl mO_e mO_47 hm ?_
      refine yR_m 2 (fun _ _ _ _ => rfl) ?_
      refine wN_al (a := 5) rfl aR_248 hm rfl rfl (by decide) (fun y8 e9 => ?_)
      refine yR_m 2 (fun _ _ _ _ => rfl) ?_
      refine wN_as (a := 5) rfl aR_248 hm rfl (by decide) ?_
      have hm_2 : aTm aT0 (sx mem 248 5 (y8 + 1)) := tm_sa aR_248 hm (i32_b _)
      refine yR_m 1 (fun _ _ _ _ => rfl) ?_
      refine yR_ri rfl ?_
      show yR zpg tX12_meet (d + 3) (113, lo, [.int (-1)], (sx mem 248 5 (y8 + 1))) _
      exact yR_ri rfl (h2 q1 q2 y8 e9 hm_2)
  ·
    refine wR_li rfl l_2 ?_
    refine wR_if_eq rfl (a := (ca).toInt) rfl (fun q10 => ?_) (fun q10 => ?_)
    ·
      refine wR_li rfl l_2 ?_
      refine wR_if_ne rfl (a := (ca).toInt) rfl (fun q => by exfalso; omega) (fun _ => ?_)
      refine wR_la rfl l_0 ?_
      refine yR_m 1 (fun _ _ _ _ => rfl) ?_
      refine wR_iv rfl rfl mO_e hm rfl rfl rfl rfl ?_
      show yR zpg tX12_refuses (d + 2) (0, [(0, .ref 221), (1, .int 5)], [], mem) _
      refine yR_m 1 (fun _ _ _ _ => rfl) ?_
      refine wR_gr rfl mO_e mO_47 hm ?_
      refine yR_m 2 (fun _ _ _ _ => rfl) ?_
      refine wN_al (a := 5) rfl aR_248 hm rfl rfl (by decide) (fun y11 e12 => ?_)
      refine yR_m 2 (fun _ _ _ _ => rfl) ?_
      refine wN_as (a := 5) rfl aR_248 hm rfl (by decide) ?_
      have hm_3 : aTm aT0 (sx mem 248 5 (y11 + 1)) := tm_sa aR_248 hm (i32_b _)
      refine yR_m 1 (fun _ _ _ _ => rfl) ?_
      refine yR_ri rfl ?_
      show yR zpg tX12_meet (d + 3) (113, lo, [.int (-1)], (sx mem 248 5 (y11 + 1))) _
      exact yR_ri rfl (h3 q1 q10 y11 e12 hm_3)
    ·
      refine wR_la rfl l_0 ?_
      refine wR_gr rfl mO_e mO_0 hm ?_
      refine wR_li rfl l_3 ?_
      refine wN_al (a := (k).toInt) rfl aR_222 hm rfl rfl (by omega) (fun y13 e14 => ?_)
      refine yR_m 1 (fun _ _ _ _ => rfl) ?_
      refine wR_ic_gt rfl (a := (gn (ga mem 222) (k).toInt)) (c := 30) e14 rfl (fun q15 => ?_) (fun q15 => ?_)
      ·
        refine yR_m 1 (fun _ _ _ _ => rfl) ?_
        refine wR_si rfl rfl (fun lo16 e17 f18 => ?_)
        have lo16_0 := f18 0 _ (by decide) (Or.inl rfl) l_0
        have lo16_1 := f18 1 _ (by decide) (Or.inl rfl) l_1
        have lo16_3 := f18 3 _ (by decide) (Or.inl rfl) l_3
        refine wN_in (a := (k).toInt) (b := 4) rfl rfl lo16_3 rfl rfl (by omega) (fun x19 e20 => fun lo21 e22 f23 => ?_)
        have lo21_2 := f23 2 _ (by decide) (Or.inl rfl) e17
        have lo21_0 := f23 0 _ (by decide) (Or.inl rfl) lo16_0
        have lo21_1 := f23 1 _ (by decide) (Or.inl rfl) lo16_1
        exact yR_m 1 (fun _ _ _ _ => rfl) (h4 q1 q10 y13 e14 q15 x19 e20 lo21 lo21_0 lo21_1 lo21_2 e22 hm)
      ·
        refine wR_la rfl l_0 ?_
        refine wR_la rfl l_0 ?_
        refine wR_gr rfl mO_e mO_0 hm ?_
        refine wR_li rfl l_3 ?_
        refine yR_m 1 (fun _ _ _ _ => rfl) ?_
        refine wN_add (a := (k).toInt) (b := 1) rfl rfl rfl (by omega) (fun x24 e25 => ?_)
        refine wN_al (a := ((k).toInt + 1)) rfl aR_222 hm rfl e25 (by omega) (fun y26 e27 => ?_)
        refine wR_iv rfl rfl mO_e hm rfl rfl rfl rfl ?_
        show yR zpg tX12_isFolk (d + 2) (0, [(0, .ref 221), (1, .int y26)], [], mem) _
        refine yR_m 1 (fun _ _ _ _ => rfl) ?_
        refine wR_if_lt rfl (a := (gn (ga mem 222) ((k).toInt + 1))) e27 (fun q28 => ?_) (fun q28 => ?_)
        ·
          refine yR_m 1 (fun _ _ _ _ => rfl) ?_
          refine yR_rz rfl ⟨by decide, by decide⟩ ?_
          show yR zpg tX12_meet (d + 3) (66, lo, [.int 0], mem) _
          refine wR_if_eq rfl (a := 0) rfl (fun _ => ?_) (fun q => by exfalso; omega)
          refine yR_m 1 (fun _ _ _ _ => rfl) ?_
          refine wR_si rfl rfl (fun lo29 e30 f31 => ?_)
          have lo29_0 := f31 0 _ (by decide) (Or.inl rfl) l_0
          have lo29_1 := f31 1 _ (by decide) (Or.inl rfl) l_1
          have lo29_3 := f31 3 _ (by decide) (Or.inl rfl) l_3
          refine wN_in (a := (k).toInt) (b := 4) rfl rfl lo29_3 rfl rfl (by omega) (fun x32 e33 => fun lo34 e35 f36 => ?_)
          have lo34_2 := f36 2 _ (by decide) (Or.inl rfl) e30
          have lo34_0 := f36 0 _ (by decide) (Or.inl rfl) lo29_0
          have lo34_1 := f36 1 _ (by decide) (Or.inl rfl) lo29_1
          exact yR_m 1 (fun _ _ _ _ => rfl) (h5 q1 q10 y13 e14 q15 x24 e25 y26 e27 q28 x32 e33 lo34 lo34_0 lo34_1 lo34_2 e35 hm)
        ·
          refine yR_m 2 (fun _ _ _ _ => rfl) ?_
          refine wR_gr rfl mO_e mO_24 hm ?_
          refine yR_m 1 (fun _ _ _ _ => rfl) ?_
          refine wR_gi rfl mO_e mO_13 hm rfl ?_
          refine wN_al (a := (gi mem 221 13).toInt) rfl aR_233 hm rfl rfl (by omega) (fun y37 e38 => ?_)
          refine wR_ic_ge rfl (a := (gn (ga mem 222) ((k).toInt + 1))) (c := (gn (ga mem 233) (gi mem 221 13).toInt)) e27 e38 (fun q39 => ?_) (fun q39 => ?_)
          ·
            refine yR_m 1 (fun _ _ _ _ => rfl) ?_
            refine yR_rz rfl ⟨by decide, by decide⟩ ?_
            show yR zpg tX12_meet (d + 3) (66, lo, [.int 0], mem) _
            refine wR_if_eq rfl (a := 0) rfl (fun _ => ?_) (fun q => by exfalso; omega)
            refine yR_m 1 (fun _ _ _ _ => rfl) ?_
            refine wR_si rfl rfl (fun lo40 e41 f42 => ?_)
            have lo40_0 := f42 0 _ (by decide) (Or.inl rfl) l_0
            have lo40_1 := f42 1 _ (by decide) (Or.inl rfl) l_1
            have lo40_3 := f42 3 _ (by decide) (Or.inl rfl) l_3
            refine wN_in (a := (k).toInt) (b := 4) rfl rfl lo40_3 rfl rfl (by omega) (fun x43 e44 => fun lo45 e46 f47 => ?_)
            have lo45_2 := f47 2 _ (by decide) (Or.inl rfl) e41
            have lo45_0 := f47 0 _ (by decide) (Or.inl rfl) lo40_0
            have lo45_1 := f47 1 _ (by decide) (Or.inl rfl) lo40_1
            exact yR_m 1 (fun _ _ _ _ => rfl) (h6 q1 q10 y13 e14 q15 x24 e25 y26 e27 q28 y37 e38 q39 x43 e44 lo45 lo45_0 lo45_1 lo45_2 e46 hm)
          ·
            refine yR_m 2 (fun _ _ _ _ => rfl) ?_
            refine yR_rz rfl ⟨by decide, by decide⟩ ?_
            show yR zpg tX12_meet (d + 3) (66, lo, [.int 1], mem) _
            refine wR_if_eq rfl (a := 1) rfl (fun q => by exfalso; omega) (fun _ => ?_)
            refine wR_la rfl l_0 ?_
            refine wR_la rfl l_0 ?_
            refine wR_gr rfl mO_e mO_0 hm ?_
            refine wR_li rfl l_3 ?_
            refine yR_m 1 (fun _ _ _ _ => rfl) ?_
            refine wN_add (a := (k).toInt) (b := 2) rfl rfl rfl (by omega) (fun x48 e49 => ?_)
            refine wN_al (a := ((k).toInt + 2)) rfl aR_222 hm rfl e49 (by omega) (fun y50 e51 => ?_)
            refine wR_la rfl l_0 ?_
            refine wR_gr rfl mO_e mO_0 hm ?_
            refine wR_li rfl l_3 ?_
            refine yR_m 1 (fun _ _ _ _ => rfl) ?_
            refine wN_add (a := (k).toInt) (b := 3) rfl rfl rfl (by omega) (fun x52 e53 => ?_)
            refine wN_al (a := ((k).toInt + 3)) rfl aR_222 hm rfl e53 (by omega) (fun y54 e55 => ?_)
            refine wR_cv rfl rfl mO_e hm rfl (c_isCell hm s2 (by omega)) ?_
            rintro _ _ ⟨v56, rfl, rfl, k57⟩
            show yR zpg tX12_meet (d + 3) (89, lo, [.int v56], mem) _
            refine wR_if_eq rfl (a := (v56).toInt) rfl (fun q58 => ?_) (fun q58 => ?_)
            ·
              refine yR_m 1 (fun _ _ _ _ => rfl) ?_
              refine wR_si rfl rfl (fun lo59 e60 f61 => ?_)
              have lo59_0 := f61 0 _ (by decide) (Or.inl rfl) l_0
              have lo59_1 := f61 1 _ (by decide) (Or.inl rfl) l_1
              have lo59_3 := f61 3 _ (by decide) (Or.inl rfl) l_3
              refine wN_in (a := (k).toInt) (b := 4) rfl rfl lo59_3 rfl rfl (by omega) (fun x62 e63 => fun lo64 e65 f66 => ?_)
              have lo64_2 := f66 2 _ (by decide) (Or.inl rfl) e60
              have lo64_0 := f66 0 _ (by decide) (Or.inl rfl) lo59_0
              have lo64_1 := f66 1 _ (by decide) (Or.inl rfl) lo59_1
              exact yR_m 1 (fun _ _ _ _ => rfl) (h7 q1 q10 y13 e14 q15 x24 e25 y26 e27 q28 y37 e38 q39 x48 e49 y50 e51 x52 e53 y54 e55 v56 k57 q58 x62 e63 lo64 lo64_0 lo64_1 lo64_2 e65 hm)
            ·
              refine yR_m 2 (fun _ _ _ _ => rfl) ?_
              refine wR_si rfl rfl (fun lo67 e68 f69 => ?_)
              have lo67_0 := f69 0 _ (by decide) (Or.inl rfl) l_0
              have lo67_1 := f69 1 _ (by decide) (Or.inl rfl) l_1
              have lo67_3 := f69 3 _ (by decide) (Or.inl rfl) l_3
              refine wN_in (a := (k).toInt) (b := 4) rfl rfl lo67_3 rfl rfl (by omega) (fun x70 e71 => fun lo72 e73 f74 => ?_)
              have lo72_2 := f74 2 _ (by decide) (Or.inl rfl) e68
              have lo72_0 := f74 0 _ (by decide) (Or.inl rfl) lo67_0
              have lo72_1 := f74 1 _ (by decide) (Or.inl rfl) lo67_1
              exact yR_m 1 (fun _ _ _ _ => rfl) (h8 q1 q10 y13 e14 q15 x24 e25 y26 e27 q28 y37 e38 q39 x48 e49 y50 e51 x52 e53 y54 e55 v56 k57 q58 x70 e71 lo72 lo72_0 lo72_1 lo72_2 e73 hm)

set_option maxRecDepth 100000 in
theorem w_me_123 {d : Nat} {mem : zM} {P : Option Value → zM → Prop} {k : Int32} {lo : List (Nat × Value)} (hm : aTm aT0 mem) (l_0 : zlg lo 0 = some (.ref 221)) (l_3 : zlg lo 3 = some (.int k)) (hk : 0 ≤ k.toInt ∧ k.toInt ≤ 16) (h1 : (gi mem 221 66).toInt ≤ (k).toInt → aTm aT0 mem → P (some (.int (gi mem 221 66))) mem) (s1 : (k).toInt < (gi mem 221 66).toInt → ∀ (x2 : Int32), x2.toInt = (4 * (k).toInt) → ∀ (y4 : Int32), y4.toInt = (gn (ga mem 222) (4 * (k).toInt)) → (0 : Int) ≤ (gn (ga mem 222) (4 * (k).toInt)) ∧ (gn (ga mem 222) (4 * (k).toInt)) ≤ 255) (s2 : (k).toInt < (gi mem 221 66).toInt → ∀ (x2 : Int32), x2.toInt = (4 * (k).toInt) → ∀ (y4 : Int32), y4.toInt = (gn (ga mem 222) (4 * (k).toInt)) → ∀ (x6 : Int32), x6.toInt = (4 * (k).toInt) → ∀ (x8 : Int32), x8.toInt = ((4 * (k).toInt) + 1) → ∀ (y10 : Int32), y10.toInt = (gn (ga mem 222) ((4 * (k).toInt) + 1)) → (0 : Int) ≤ (gn (ga mem 222) ((4 * (k).toInt) + 1)) ∧ (gn (ga mem 222) ((4 * (k).toInt) + 1)) ≤ 5) (s3 : (k).toInt < (gi mem 221 66).toInt → ∀ (x2 : Int32), x2.toInt = (4 * (k).toInt) → ∀ (y4 : Int32), y4.toInt = (gn (ga mem 222) (4 * (k).toInt)) → ∀ (x6 : Int32), x6.toInt = (4 * (k).toInt) → ∀ (x8 : Int32), x8.toInt = ((4 * (k).toInt) + 1) → ∀ (y10 : Int32), y10.toInt = (gn (ga mem 222) ((4 * (k).toInt) + 1)) → ∀ (x12 : Int32), x12.toInt = (4 * (k).toInt) → ∀ (x14 : Int32), x14.toInt = ((4 * (k).toInt) + 3) → ∀ (y16 : Int32), y16.toInt = (gn (ga mem 222) ((4 * (k).toInt) + 3)) → (-2147483648 : Int) ≤ (8 * (gn (ga mem 222) ((4 * (k).toInt) + 3))) ∧ (8 * (gn (ga mem 222) ((4 * (k).toInt) + 3))) ≤ 2147483647) (s4 : (k).toInt < (gi mem 221 66).toInt → ∀ (x2 : Int32), x2.toInt = (4 * (k).toInt) → ∀ (y4 : Int32), y4.toInt = (gn (ga mem 222) (4 * (k).toInt)) → ∀ (x6 : Int32), x6.toInt = (4 * (k).toInt) → ∀ (x8 : Int32), x8.toInt = ((4 * (k).toInt) + 1) → ∀ (y10 : Int32), y10.toInt = (gn (ga mem 222) ((4 * (k).toInt) + 1)) → ∀ (x12 : Int32), x12.toInt = (4 * (k).toInt) → ∀ (x14 : Int32), x14.toInt = ((4 * (k).toInt) + 3) → ∀ (y16 : Int32), y16.toInt = (gn (ga mem 222) ((4 * (k).toInt) + 3)) → ∀ (x18 : Int32), x18.toInt = (8 * (gn (ga mem 222) ((4 * (k).toInt) + 3))) → ∀ (x20 : Int32), x20.toInt = (4 * (k).toInt) → ∀ (x22 : Int32), x22.toInt = ((4 * (k).toInt) + 2) → ∀ (y24 : Int32), y24.toInt = (gn (ga mem 222) ((4 * (k).toInt) + 2)) → (-2147483648 : Int) ≤ ((8 * (gn (ga mem 222) ((4 * (k).toInt) + 3))) + (gn (ga mem 222) ((4 * (k).toInt) + 2))) ∧ ((8 * (gn (ga mem 222) ((4 * (k).toInt) + 3))) + (gn (ga mem 222) ((4 * (k).toInt) + 2))) ≤ 2147483647) (h2 : (k).toInt < (gi mem 221 66).toInt → ∀ (x2 : Int32), x2.toInt = (4 * (k).toInt) → ∀ (y4 : Int32), y4.toInt = (gn (ga mem 222) (4 * (k).toInt)) → ∀ (x6 : Int32), x6.toInt = (4 * (k).toInt) → ∀ (x8 : Int32), x8.toInt = ((4 * (k).toInt) + 1) → ∀ (y10 : Int32), y10.toInt = (gn (ga mem 222) ((4 * (k).toInt) + 1)) → ∀ (x12 : Int32), x12.toInt = (4 * (k).toInt) → ∀ (x14 : Int32), x14.toInt = ((4 * (k).toInt) + 3) → ∀ (y16 : Int32), y16.toInt = (gn (ga mem 222) ((4 * (k).toInt) + 3)) → ∀ (x18 : Int32), x18.toInt = (8 * (gn (ga mem 222) ((4 * (k).toInt) + 3))) → ∀ (x20 : Int32), x20.toInt = (4 * (k).toInt) → ∀ (x22 : Int32), x22.toInt = ((4 * (k).toInt) + 2) → ∀ (y24 : Int32), y24.toInt = (gn (ga mem 222) ((4 * (k).toInt) + 2)) → ∀ (x26 : Int32), x26.toInt = ((8 * (gn (ga mem 222) ((4 * (k).toInt) + 3))) + (gn (ga mem 222) ((4 * (k).toInt) + 2))) → ∀ (x28 : Int32), x28.toInt = ((k).toInt + 1) → ∀ lo, zlg lo 0 = some (.ref 221) → zlg lo 3 = some (.int x28) → aTm aT0 (sx (sx (sx mem 264 k y4) 265 k y10) 266 k x26) → yR zpg tX12_meet (d + 3) (123, lo, [], (sx (sx (sx mem 264 k y4) 265 k y10) 266 k x26)) P) : yR zpg tX12_meet (d + 3) (123, lo, [], mem) P := by
  have mm := mO_r66 hm
  refine wR_li rfl l_3 ?_
  refine wR_la rfl l_0 ?_
  refine wR_gi rfl mO_e mO_66 hm rfl ?_
  refine wR_ic_ge rfl (a := (k).toInt) (c := (gi mem 221 66).toInt) rfl rfl (fun q1 => ?_) (fun q1 => ?_)
  ·
    refine wR_la rfl l_0 ?_
    refine wR_gi rfl mO_e mO_66 hm rfl ?_
    exact yR_ri rfl (h1 q1 hm)
  ·
    refine wR_la rfl l_0 ?_
    refine wR_gr rfl mO_e mO_67 hm ?_
    refine wR_li rfl l_3 ?_
    refine wR_la rfl l_0 ?_
    refine wR_gr rfl mO_e mO_0 hm ?_
    refine yR_m 1 (fun _ _ _ _ => rfl) ?_
    refine wR_li rfl l_3 ?_
    refine wN_mul (a := 4) (b := (k).toInt) rfl rfl rfl (by omega) (fun x2 e3 => ?_)
    refine wN_al (a := (4 * (k).toInt)) rfl aR_222 hm rfl e3 (by omega) (fun y4 e5 => ?_)
    refine wN_as (a := (k).toInt) rfl aR_264 hm rfl (by omega) ?_
    have hm_1 : aTm aT0 (sx mem 264 k y4) := tm_sa aR_264 hm (by rw [e5]; exact (s1 q1 x2 e3 y4 e5))
    refine wR_la rfl l_0 ?_
    refine wR_gr rfl mO_e mO_68 hm_1 ?_
    refine wR_li rfl l_3 ?_
    refine wR_la rfl l_0 ?_
    refine wR_gr rfl mO_e mO_0 hm_1 ?_
    refine yR_m 1 (fun _ _ _ _ => rfl) ?_
    refine wR_li rfl l_3 ?_
    refine wN_mul (a := 4) (b := (k).toInt) rfl rfl rfl (by omega) (fun x6 e7 => ?_)
    refine yR_m 1 (fun _ _ _ _ => rfl) ?_
    refine wN_add (a := (4 * (k).toInt)) (b := 1) rfl e7 rfl (by omega) (fun x8 e9 => ?_)
    refine wN_al (a := ((4 * (k).toInt) + 1)) rfl aR_222 hm_1 (ga_sa_ne (by decide)) e9 (by omega) (fun y10 e11 => ?_)
    refine wN_as (a := (k).toInt) rfl aR_265 hm_1 rfl (by omega) ?_
    have hm_2 : aTm aT0 (sx (sx mem 264 k y4) 265 k y10) := tm_sa aR_265 hm_1 (by rw [e11]; exact (s2 q1 x2 e3 y4 e5 x6 e7 x8 e9 y10 e11))
    refine wR_la rfl l_0 ?_
    refine wR_gr rfl mO_e mO_69 hm_2 ?_
    refine wR_li rfl l_3 ?_
    refine yR_m 1 (fun _ _ _ _ => rfl) ?_
    refine wR_la rfl l_0 ?_
    refine wR_gr rfl mO_e mO_0 hm_2 ?_
    refine yR_m 1 (fun _ _ _ _ => rfl) ?_
    refine wR_li rfl l_3 ?_
    refine wN_mul (a := 4) (b := (k).toInt) rfl rfl rfl (by omega) (fun x12 e13 => ?_)
    refine yR_m 1 (fun _ _ _ _ => rfl) ?_
    refine wN_add (a := (4 * (k).toInt)) (b := 3) rfl e13 rfl (by omega) (fun x14 e15 => ?_)
    refine wN_al (a := ((4 * (k).toInt) + 3)) rfl aR_222 hm_2 ((ga_sa_ne (by decide)).trans (ga_sa_ne (by decide))) e15 (by omega) (fun y16 e17 => ?_)
    refine wN_mul (a := 8) (b := (gn (ga mem 222) ((4 * (k).toInt) + 3))) rfl rfl e17 (s3 q1 x2 e3 y4 e5 x6 e7 x8 e9 y10 e11 x12 e13 x14 e15 y16 e17) (fun x18 e19 => ?_)
    refine wR_la rfl l_0 ?_
    refine wR_gr rfl mO_e mO_0 hm_2 ?_
    refine yR_m 1 (fun _ _ _ _ => rfl) ?_
    refine wR_li rfl l_3 ?_
    refine wN_mul (a := 4) (b := (k).toInt) rfl rfl rfl (by omega) (fun x20 e21 => ?_)
    refine yR_m 1 (fun _ _ _ _ => rfl) ?_
    refine wN_add (a := (4 * (k).toInt)) (b := 2) rfl e21 rfl (by omega) (fun x22 e23 => ?_)
    refine wN_al (a := ((4 * (k).toInt) + 2)) rfl aR_222 hm_2 ((ga_sa_ne (by decide)).trans (ga_sa_ne (by decide))) e23 (by omega) (fun y24 e25 => ?_)
    refine wN_add (a := (8 * (gn (ga mem 222) ((4 * (k).toInt) + 3)))) (b := (gn (ga mem 222) ((4 * (k).toInt) + 2))) rfl e19 e25 (s4 q1 x2 e3 y4 e5 x6 e7 x8 e9 y10 e11 x12 e13 x14 e15 y16 e17 x18 e19 x20 e21 x22 e23 y24 e25) (fun x26 e27 => ?_)
    refine wN_as (a := (k).toInt) rfl aR_266 hm_2 rfl (by omega) ?_
    have hm_3 : aTm aT0 (sx (sx (sx mem 264 k y4) 265 k y10) 266 k x26) := tm_sa aR_266 hm_2 (i32_b _)
    refine wN_in (a := (k).toInt) (b := 1) rfl rfl l_3 rfl rfl (by omega) (fun x28 e29 => fun lo30 e31 f32 => ?_)
    have lo30_0 := f32 0 _ (by decide) (Or.inl rfl) l_0
    exact yR_m 1 (fun _ _ _ _ => rfl) (h2 q1 x2 e3 y4 e5 x6 e7 x8 e9 y10 e11 x12 e13 x14 e15 y16 e17 x18 e19 x20 e21 x22 e23 y24 e25 x26 e27 x28 e29 lo30 lo30_0 e31 hm_3)

section ME
variable {mr : zM} {d : Nat} {n : Int32}
def meP (mr : zM) (r : Option Value) (m : zM) : Prop := (∃ x : Int32, r = some (.int x)) ∧ aTm aT0 m ∧ smo [248, 264, 265, 266] mr m
theorem me_put (T : List Int32) (hT : ∀ j, 0 ≤ j → j < 16 → 4 * j < n.toInt → 0 ≤ gn T (4 * j + 1) ∧ gn T (4 * j + 1) ≤ 5) (hn : 0 ≤ n.toInt ∧ n.toInt ≤ 64) : ∀ (f : Nat) (k : Int32) (mem : zM) (lo : List (Nat × Value)), 17 ≤ k.toInt + (f : Int) → 0 ≤ k.toInt → k.toInt ≤ 16 → (gi mem 221 66).toInt * 4 ≤ n.toInt → ga mem 222 = T → smo [248, 264, 265, 266] mr mem → zlg lo 0 = some (.ref 221) → zlg lo 3 = some (.int k) → aTm aT0 mem → yR zpg tX12_meet (d + 3) (123, lo, [], mem) (meP mr) := by
  intro f
  induction f with
  | zero => intro k mem lo hf k0 k1; omega
  | succ f ih =>
    intro k mem lo hf k0 k1 hmm hT2 hs l0 l3 hm
    have mm := mO_r66 hm
    have tt := hT k.toInt k0
    rw [← hT2] at tt
    exact w_me_123 hm l0 l3 ⟨k0, k1⟩
        (fun q1 hm => ⟨⟨_, rfl⟩, hm, hs⟩)
        (fun q1 x2 e3 y4 e5 => by have R0 := gR_222 hm (i := 4 * k.toInt) (by omega) (by omega); have R2 := gR_222 hm (i := 4 * k.toInt + 2) (by omega) (by omega); have R3 := gR_222 hm (i := 4 * k.toInt + 3) (by omega) (by omega); have T1 := tt (by omega) (by omega); omega)
        (fun q1 x2 e3 y4 e5 x6 e7 x8 e9 y10 e11 => by have R0 := gR_222 hm (i := 4 * k.toInt) (by omega) (by omega); have R2 := gR_222 hm (i := 4 * k.toInt + 2) (by omega) (by omega); have R3 := gR_222 hm (i := 4 * k.toInt + 3) (by omega) (by omega); have T1 := tt (by omega) (by omega); omega)
        (fun q1 x2 e3 y4 e5 x6 e7 x8 e9 y10 e11 x12 e13 x14 e15 y16 e17 => by have R0 := gR_222 hm (i := 4 * k.toInt) (by omega) (by omega); have R2 := gR_222 hm (i := 4 * k.toInt + 2) (by omega) (by omega); have R3 := gR_222 hm (i := 4 * k.toInt + 3) (by omega) (by omega); have T1 := tt (by omega) (by omega); omega)
        (fun q1 x2 e3 y4 e5 x6 e7 x8 e9 y10 e11 x12 e13 x14 e15 y16 e17 x18 e19 x20 e21 x22 e23 y24 e25 => by have R0 := gR_222 hm (i := 4 * k.toInt) (by omega) (by omega); have R2 := gR_222 hm (i := 4 * k.toInt + 2) (by omega) (by omega); have R3 := gR_222 hm (i := 4 * k.toInt + 3) (by omega) (by omega); have T1 := tt (by omega) (by omega); omega)
        (fun q1 x2 e3 y4 e5 x6 e7 x8 e9 y10 e11 x12 e13 x14 e15 y16 e17 x18 e19 x20 e21 x22 e23 y24 e25 x26 e27 x28 e29 lo a0 a3 hm => ih _ _ lo (by omega) (by omega) (by omega) (by rw [gi_sa, gi_sa, gi_sa]; exact hmm) (by rw [ga_sa_ne (by decide), ga_sa_ne (by decide), ga_sa_ne (by decide)]; exact hT2) (smo_sa rfl (smo_sa rfl (smo_sa rfl hs))) a0 a3 hm)
theorem me_test (hz : szOK mr) (hn : 0 ≤ n.toInt ∧ n.toInt ≤ 1600) : ∀ (f : Nat) (k ca : Int32) (mem : zM) (lo : List (Nat × Value)), 1604 ≤ k.toInt + (f : Int) → 0 ≤ k.toInt → k.toInt ≤ 1603 → (∃ q : Int, k.toInt = 4 * q) → (¬ ca.toInt = 0 → n.toInt ≤ 64 ∧ ∀ j, 0 ≤ j → 4 * j < k.toInt → 0 ≤ gn (ga mem 222) (4 * j + 1) ∧ gn (ga mem 222) (4 * j + 1) ≤ 5) → smo [248, 264, 265, 266] mr mem → zlg lo 0 = some (.ref 221) → zlg lo 1 = some (.int n) → zlg lo 2 = some (.int ca) → zlg lo 3 = some (.int k) → aTm aT0 mem → yR zpg tX12_meet (d + 3) (34, lo, [], mem) (meP mr) := by
  intro f
  induction f with
  | zero => intro k ca mem lo hf k0 k1; omega
  | succ f ih =>
    intro k ca mem lo hf k0 k1 hq hc hs l0 l1 l2 l3 hm
    obtain ⟨-, B2, -⟩ := bes_eq (m := mr) (m' := mem) hs.2.1 hs.2.2.1 (onl_ga hs.1 rfl) (onl_ga hs.1 rfl) (onl_ga hs.1 rfl)
    obtain ⟨b0, b1⟩ := mO_r13 hm
    have fk := gR_233 hm (i := (gi mem 221 13).toInt) b0 (by omega)
    obtain ⟨q, hq⟩ := hq
    have go : ∀ (lo : List (Nat × Value)), n.toInt ≤ k.toInt → ¬ ca.toInt = 0 → ∀ x : Int32, x.toInt = n.toInt / 4 → zlg lo 0 = some (.ref 221) → zlg lo 3 = some (.int 0) → aTm aT0 (si mem 221 66 x) → yR zpg tX12_meet (d + 3) (123, lo, [], (si mem 221 66 x)) (meP mr) := fun lo h1 h2 x hx a0 a3 hm2 => by
      obtain ⟨c1, c2⟩ := hc h2
      refine me_put (n := n) (ga mem 222) (fun j a b e => c2 j a (by omega)) ⟨hn.1, c1⟩ 17 0 _ lo (by decide) (by decide) (by decide) ?_ ga_sv (smo_sv (by decide) (by decide) (by decide) hs) a0 a3 hm2
      rw [gi_si_eq mO_e mO_66 hm, hx]
      omega
    exact w_me_34 hm l0 l1 l2 l3 hn ⟨k0, k1⟩
        (fun q1 q2 x3 e4 => by have C := (hc q2).1; omega)
        (fun q1 q2 x3 e4 lo a0 a3 hm2 => go lo q1 q2 _ (by assumption) a0 a3 hm2)
        (fun q1 q2 y8 e9 hm => ⟨⟨_, rfl⟩, hm, smo_sa rfl hs⟩)
        (fun q1 q10 y11 e12 hm => ⟨⟨_, rfl⟩, hm, smo_sa rfl hs⟩)
        (fun q1 q10 y13 e14 q15 x19 e20 lo a0 a1 a2 a3 hm => ih _ _ mem lo (by omega) (by omega) (by omega) ⟨q + 1, by omega⟩ (fun h => absurd rfl h) hs a0 a1 a2 a3 hm)
        (fun q1 q10 y13 e14 q15 x24 e25 y26 e27 q28 x32 e33 lo a0 a1 a2 a3 hm => ih _ _ mem lo (by omega) (by omega) (by omega) ⟨q + 1, by omega⟩ (fun h => absurd rfl h) hs a0 a1 a2 a3 hm)
        (fun q1 q10 y13 e14 q15 x24 e25 y26 e27 q28 y37 e38 q39 x43 e44 lo a0 a1 a2 a3 hm => ih _ _ mem lo (by omega) (by omega) (by omega) ⟨q + 1, by omega⟩ (fun h => absurd rfl h) hs a0 a1 a2 a3 hm)
        (by rw [B2]; exact hz)
        (fun q1 q10 y13 e14 q15 x24 e25 y26 e27 q28 y37 e38 q39 x48 e49 y50 e51 x52 e53 y54 e55 v56 k57 q58 x62 e63 lo a0 a1 a2 a3 hm => ih _ _ mem lo (by omega) (by omega) (by omega) ⟨q + 1, by omega⟩ (fun h => absurd rfl h) hs a0 a1 a2 a3 hm)
        (fun q1 q10 y13 e14 q15 x24 e25 y26 e27 q28 y37 e38 q39 x48 e49 y50 e51 x52 e53 y54 e55 v56 k57 q58 x70 e71 lo a0 a1 a2 a3 hm => ih _ _ mem lo (by omega) (by omega) (by omega) ⟨q + 1, by omega⟩ (fun _ => ⟨(hc q10).1, fun j a b2 => by
          rcases Int.lt_or_le (4 * j) k.toInt with w | w
          · exact (hc q10).2 j a w
          · have e : 4 * j + 1 = k.toInt + 1 := by omega
            rw [e]
            omega⟩) hs a0 a1 a2 a3 hm)
theorem h_meet_m {mem : zM} (hm : aTm aT0 mem) (hz : szOK mem) (hd : 4 ≤ d) : yC zpg d 259 [.ref 221] mem (meP (si mem 221 1 0)) := by
  obtain ⟨d, rfl⟩ : ∃ q, d = q + 4 := ⟨d - 4, by omega⟩
  have tp := mO_r1 hm
  have hz2 : szOK (si mem 221 1 0) := by
    unfold szOK colsI rowsI bkN
    rw [ga_sv, ga_sv, gi_sv_ne (by decide)]
    exact hz
  refine yC_of (t := tX12_meet) rfl rfl ?_
  exact w_me_0 hm rfl
        (fun q4 lo a0 a1 a2 a3 hm => me_test (mr := si mem 221 1 0) hz2 (by omega) 1604 0 _ _ lo (by decide) (by decide) (by decide) ⟨0, by decide⟩ (fun h => absurd rfl h) smo_rf a0 a1 a2 a3 hm)
        (fun q4 x11 e12 q13 lo a0 a1 a2 a3 hm => me_test (mr := si mem 221 1 0) hz2 (by omega) 1604 0 _ _ lo (by decide) (by decide) (by decide) ⟨0, by decide⟩ (fun h => absurd rfl h) smo_rf a0 a1 a2 a3 hm)
        (fun q4 x11 e12 q13 q20 lo a0 a1 a2 a3 hm => me_test (mr := si mem 221 1 0) hz2 (by omega) 1604 0 _ _ lo (by decide) (by decide) (by decide) ⟨0, by decide⟩ (fun h => absurd rfl h) smo_rf a0 a1 a2 a3 hm)
        (fun q4 x11 e12 q13 q20 lo a0 a1 a2 a3 hm => me_test (mr := si mem 221 1 0) hz2 (by omega) 1604 0 _ _ lo (by decide) (by decide) (by decide) ⟨0, by decide⟩ (fun _ => ⟨by omega, fun j a b => by have z0 : (0 : Int32).toInt = 0 := rfl; omega⟩) smo_rf a0 a1 a2 a3 hm)
end ME
/-- on, of the model -/
theorem t_co {E : zM → Prop} {M m : zM} {r : Option Value} (h : coP E M r m) : ∃ v : Int32, r = some (.int v) ∧ aTm aT0 m ∧ E m := by
  obtain ⟨v, rfl, hI, -⟩ := h
  exact ⟨v, rfl, hI.1.1, hI.1.2⟩
theorem t_cv0 {E : zM → Prop} {M m : zM} {r : Option Value} (h : aJ (aΘ0 E) m ∧ aPr aT0 M m ∧ aTr none r) : r = none ∧ aTm aT0 m ∧ E m := by
  obtain ⟨h1, -, h3⟩ := h
  cases r with
  | none => exact ⟨rfl, h1.1, h1.2⟩
  | some x => exact h3.elim
set_option maxRecDepth 100000 in
theorem w_on {d : Nat} {mem : zM} {P : Option Value → zM → Prop} {E : zM → Prop} (hm : aTm aT0 mem) (hE : aEs (aΘ0 E)) (h9 : aH9 E) (hz : ∀ mem, aJ (aΘ0 E) mem → szOK mem) (s1 : E (si mem 221 1 0)) (h1 : ∀ (v3 : Int32) (m1 : zM), aTm aT0 m1 → E m1 → ¬ (v3).toInt = 0 → ∀ (m5 : zM), aTm aT0 m5 → E m5 → aTm aT0 (si m5 221 55 0) → P (some (.int 1)) (si m5 221 55 0)) (h2 : ∀ (v3 : Int32) (m1 : zM), aTm aT0 m1 → E m1 → (v3).toInt = 0 → ∀ (y7 : Int32), y7.toInt = (gn (ga m1 248) 5) → aTm aT0 (sx m1 248 5 (y7 + 1)) → P (some (.int 0)) (sx m1 248 5 (y7 + 1))) : yR zpg tX12_on (d + 6) (0, [(0, .ref 221)], [], mem) P := by
  have tp := mO_r1 hm
  refine yR_m 1 (fun _ _ _ _ => rfl) ?_
  refine wR_gi rfl mO_e mO_1 hm rfl ?_
  refine yR_m 3 (fun _ _ _ _ => rfl) ?_
  refine wR_pi rfl mO_e mO_1 hm rfl ?_
  have hm_1 : aTm aT0 (si mem 221 1 0) := tm_si mO_e mO_1 hm (by decide)
  refine yR_m 2 (fun _ _ _ _ => rfl) ?_
  refine wR_cv rfl rfl mO_e hm_1 rfl (yC_mono (fun r m h => t_co h) (h_comesOn hE h9 hz (by omega) (by omega) (wI_rf ⟨hm_1, s1⟩))) ?_
  rintro _ m1 ⟨v3, rfl, hI1, k2⟩
  show yR zpg tX12_on (d + 6) (15, [(1, .int (gi mem 221 1)), (0, .ref 221)], [.int v3], m1) _
  refine wR_if_ne rfl (a := (v3).toInt) rfl (fun q4 => ?_) (fun q4 => ?_)
  ·
    refine yR_m 3 (fun _ _ _ _ => rfl) ?_
    refine wR_cv rfl rfl mO_e hI1 rfl (yC_mono (fun r m h => t_cv0 h) (k9_X12_copies h9 (d + 6) _ [.ref 221, .int 0, .int 1] (by omega) ⟨hI1, k2⟩ ⟨⟨221, List.mem_singleton.mpr rfl, rfl⟩, ⟨_, rfl, by decide, by decide⟩, ⟨_, rfl, by decide, by decide⟩, trivial⟩)) ?_
    rintro _ m5 ⟨rfl, hI5, k6⟩
    show yR zpg tX12_on (d + 6) (38, [(1, .int (gi mem 221 1)), (0, .ref 221)], [], m5) _
    refine yR_m 2 (fun _ _ _ _ => rfl) ?_
    refine wR_pi rfl mO_e mO_55 hI5 rfl ?_
    have hm_2 : aTm aT0 (si m5 221 55 0) := tm_si mO_e mO_55 hI5 (by decide)
    refine yR_m 1 (fun _ _ _ _ => rfl) ?_
    exact yR_rz rfl ⟨by decide, by decide⟩ (h1 v3 m1 hI1 k2 q4 m5 hI5 k6 hm_2)
  ·
    refine yR_m 2 (fun _ _ _ _ => rfl) ?_
    refine wR_iv rfl rfl mO_e hI1 rfl rfl rfl rfl ?_
    show yR zpg tX12_refuses (d + 5) (0, [(0, .ref 221), (1, .int 5)], [], m1) _
    refine yR_m 1 (fun _ _ _ _ => rfl) ?_
    refine wR_gr rfl mO_e mO_47 hI1 ?_
    refine yR_m 2 (fun _ _ _ _ => rfl) ?_
    refine wN_al (a := 5) rfl aR_248 hI1 rfl rfl (by decide) (fun y7 e8 => ?_)
    refine yR_m 2 (fun _ _ _ _ => rfl) ?_
    refine wN_as (a := 5) rfl aR_248 hI1 rfl (by decide) ?_
    have hm_3 : aTm aT0 (sx m1 248 5 (y7 + 1)) := tm_sa aR_248 hI1 (i32_b _)
    refine yR_m 1 (fun _ _ _ _ => rfl) ?_
    refine yR_ri rfl ?_
    show yR zpg tX12_on (d + 6) (23, [(1, .int (gi mem 221 1)), (0, .ref 221)], [.int (-1)], (sx m1 248 5 (y7 + 1))) _
    refine wR_if_lt rfl (a := (-1)) tm1 (fun _ => ?_) (fun q => by exfalso; omega)
    refine yR_m 1 (fun _ _ _ _ => rfl) ?_
    exact yR_rz rfl ⟨by decide, by decide⟩ (h2 v3 m1 hI1 k2 q4 y7 e8 hm_3)

theorem h_on_m {E : zM → Prop} (hE : aEs (aΘ0 E)) (h9 : aH9 E) (hz : ∀ mem, aJ (aΘ0 E) mem → szOK mem) {d : Nat} {mem : zM} (hm : aTm aT0 mem) (hE1 : E (si mem 221 1 0)) (hd : 7 ≤ d) : yC zpg d 278 [.ref 221] mem (fun r m => (∃ v : Int32, r = some (.int v)) ∧ aJ (aΘ0 E) m) := by
  obtain ⟨d, rfl⟩ : ∃ q, d = q + 7 := ⟨d - 7, by omega⟩
  have tp := mO_r1 hm
  refine yC_of (t := tX12_on) rfl rfl ?_
  exact w_on hm hE h9 hz
        (hE1)
        (fun v3 m1 hI1 k2 q4 m5 hI5 k6 _ => ⟨⟨_, rfl⟩, (wI_si hE mO_e mO_55 (wI_rf ⟨hI5, k6⟩) (by decide)).1⟩)
        (fun v3 m1 hI1 k2 q4 y7 e8 _ => ⟨⟨_, rfl⟩, (wI_sa hE aR_248 (wI_rf ⟨hI1, k2⟩) (i32_b _)).1⟩)
