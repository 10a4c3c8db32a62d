/-! what is found or lost is written down; a thing is turned over; a night -/
set_option maxRecDepth 100000 in
theorem w_wd_0 {E : zM → Prop} (hE : aEs (aΘ0 E)) {d : Nat} {m0 mem : zM} {P : Option Value → zM → Prop} {v t f : Int32} {lo : List (Nat × Value)} (hm : wI (aΘ0 E) m0 mem) (l_0 : zlg lo 0 = some (.ref 221)) (l_1 : zlg lo 1 = some (.int v)) (l_2 : zlg lo 2 = some (.int t)) (l_3 : zlg lo 3 = some (.int f)) (hv : 0 ≤ v.toInt ∧ v.toInt ≤ 21) (h1 : ∀ (y1 : Int32), y1.toInt = (gn (ga mem 253) (v).toInt) → ¬ (gn (ga mem 253) (v).toInt) = 40 → ∀ lo, zlg lo 0 = some (.ref 221) → zlg lo 1 = some (.int v) → zlg lo 2 = some (.int t) → zlg lo 3 = some (.int f) → wI (aΘ0 E) m0 mem → yR zpg tX12_writesDown d (63, lo, [], mem) P) (h2 : ∀ (y1 : Int32), y1.toInt = (gn (ga mem 253) (v).toInt) → (gn (ga mem 253) (v).toInt) = 40 → ∀ (x4 : Int32), x4.toInt = (120 * (v).toInt) → ∀ lo, zlg lo 0 = some (.ref 221) → zlg lo 1 = some (.int v) → zlg lo 2 = some (.int t) → zlg lo 3 = some (.int f) → zlg lo 4 = some (.int x4) → wI (aΘ0 E) m0 mem → yR zpg tX12_writesDown d (17, lo, [], mem) P) : yR zpg tX12_writesDown d (0, lo, [], mem) P := by
  refine wR_la rfl l_0 ?_
  refine wR_gr rfl mO_e mO_52 hm.1.1 ?_
  refine wR_li rfl l_1 ?_
  refine wN_al (a := (v).toInt) rfl aR_253 hm.1.1 rfl rfl (by omega) (fun y1 e2 => ?_)
  refine yR_m 1 (fun _ _ _ _ => rfl) ?_
  refine wR_ic_ne rfl (a := (gn (ga mem 253) (v).toInt)) (c := 40) e2 rfl (fun q3 => ?_) (fun q3 => ?_)
  ·
    exact h1 y1 e2 q3 lo l_0 l_1 l_2 l_3 hm
  ·
    refine yR_m 1 (fun _ _ _ _ => rfl) ?_
    refine wR_li rfl l_1 ?_
    refine wN_mul (a := 120) (b := (v).toInt) rfl rfl rfl (by omega) (fun x4 e5 => ?_)
    refine wR_si rfl rfl (fun lo6 e7 f8 => ?_)
    have lo6_0 := f8 0 _ (by decide) (Or.inl rfl) l_0
    have lo6_1 := f8 1 _ (by decide) (Or.inl rfl) l_1
    have lo6_2 := f8 2 _ (by decide) (Or.inl rfl) l_2
    have lo6_3 := f8 3 _ (by decide) (Or.inl rfl) l_3
    exact h2 y1 e2 q3 x4 e5 lo6 lo6_0 lo6_1 lo6_2 lo6_3 e7 hm

set_option maxRecDepth 100000 in
theorem w_wd_17 {E : zM → Prop} (hE : aEs (aΘ0 E)) {d : Nat} {m0 mem : zM} {P : Option Value → zM → Prop} {v t f k : Int32} {lo : List (Nat × Value)} (hm : wI (aΘ0 E) m0 mem) (l_0 : zlg lo 0 = some (.ref 221)) (l_1 : zlg lo 1 = some (.int v)) (l_2 : zlg lo 2 = some (.int t)) (l_3 : zlg lo 3 = some (.int f)) (l_4 : zlg lo 4 = some (.int k)) (hv : 0 ≤ v.toInt ∧ v.toInt ≤ 21) (hk : 120 * v.toInt ≤ k.toInt ∧ k.toInt ≤ 120 * v.toInt + 117) (hn : gn (ga mem 253) v.toInt = 40) (h1 : ∀ (x1 : Int32), x1.toInt = (120 * (v).toInt) → ∀ (x3 : Int32), x3.toInt = ((120 * (v).toInt) + 120) → ∀ (x5 : Int32), x5.toInt = (((120 * (v).toInt) + 120) - 3) → (((120 * (v).toInt) + 120) - 3) ≤ (k).toInt → ∀ (y8 : Int32), y8.toInt = (gn (ga mem 253) (v).toInt) → ∀ (x10 : Int32), x10.toInt = ((gn (ga mem 253) (v).toInt) - 1) → ∀ lo, zlg lo 0 = some (.ref 221) → zlg lo 1 = some (.int v) → zlg lo 2 = some (.int t) → zlg lo 3 = some (.int f) → wI (aΘ0 E) m0 (sx mem 253 v x10) → yR zpg tX12_writesDown d (63, lo, [], (sx mem 253 v x10)) P) (h2 : ∀ (x1 : Int32), x1.toInt = (120 * (v).toInt) → ∀ (x3 : Int32), x3.toInt = ((120 * (v).toInt) + 120) → ∀ (x5 : Int32), x5.toInt = (((120 * (v).toInt) + 120) - 3) → (k).toInt < (((120 * (v).toInt) + 120) - 3) → ∀ (x12 : Int32), x12.toInt = ((k).toInt + 3) → ∀ (y14 : Int32), y14.toInt = (gn (ga mem 254) ((k).toInt + 3)) → ∀ (x16 : Int32), x16.toInt = ((k).toInt + 1) → ∀ lo, zlg lo 0 = some (.ref 221) → zlg lo 1 = some (.int v) → zlg lo 2 = some (.int t) → zlg lo 3 = some (.int f) → zlg lo 4 = some (.int x16) → wI (aΘ0 E) m0 (sx mem 254 k y14) → yR zpg tX12_writesDown d (17, lo, [], (sx mem 254 k y14)) P) : yR zpg tX12_writesDown d (17, lo, [], mem) P := by
  refine wR_li rfl l_4 ?_
  refine yR_m 1 (fun _ _ _ _ => rfl) ?_
  refine wR_li rfl l_1 ?_
  refine wN_mul (a := 120) (b := (v).toInt) rfl rfl rfl (by omega) (fun x1 e2 => ?_)
  refine yR_m 1 (fun _ _ _ _ => rfl) ?_
  refine wN_add (a := (120 * (v).toInt)) (b := 120) rfl e2 rfl (by omega) (fun x3 e4 => ?_)
  refine yR_m 1 (fun _ _ _ _ => rfl) ?_
  refine wN_sub (a := ((120 * (v).toInt) + 120)) (b := 3) rfl e4 rfl (by omega) (fun x5 e6 => ?_)
  refine wR_ic_ge rfl (a := (k).toInt) (c := (((120 * (v).toInt) + 120) - 3)) rfl e6 (fun q7 => ?_) (fun q7 => ?_)
  ·
    refine wR_la rfl l_0 ?_
    refine wR_gr rfl mO_e mO_52 hm.1.1 ?_
    refine wR_li rfl l_1 ?_
    refine yR_m 1 (fun _ _ _ _ => rfl) ?_
    refine wN_al (a := (v).toInt) rfl aR_253 hm.1.1 rfl rfl (by omega) (fun y8 e9 => ?_)
    refine yR_m 1 (fun _ _ _ _ => rfl) ?_
    refine wN_sub (a := (gn (ga mem 253) (v).toInt)) (b := 1) rfl e9 rfl (by omega) (fun x10 e11 => ?_)
    refine wN_as (a := (v).toInt) rfl aR_253 hm.1.1 rfl (by omega) ?_
    have hm_1 : wI (aΘ0 E) m0 (sx mem 253 v x10) := wI_sa hE aR_253 hm (by rw [e11]; exact (by omega))
    exact h1 x1 e2 x3 e4 x5 e6 q7 y8 e9 x10 e11 lo l_0 l_1 l_2 l_3 hm_1
  ·
    refine wR_la rfl l_0 ?_
    refine wR_gr rfl mO_e mO_53 hm.1.1 ?_
    refine wR_li rfl l_4 ?_
    refine wR_la rfl l_0 ?_
    refine wR_gr rfl mO_e mO_53 hm.1.1 ?_
    refine wR_li rfl l_4 ?_
    refine yR_m 1 (fun _ _ _ _ => rfl) ?_
    refine wN_add (a := (k).toInt) (b := 3) rfl rfl rfl (by omega) (fun x12 e13 => ?_)
    refine wN_al (a := ((k).toInt + 3)) rfl aR_254 hm.1.1 rfl e13 (by omega) (fun y14 e15 => ?_)
    refine wN_as (a := (k).toInt) rfl aR_254 hm.1.1 rfl (by omega) ?_
    have hm_2 : wI (aΘ0 E) m0 (sx mem 254 k y14) := wI_sa hE aR_254 hm (i32_b _)
    refine wN_in (a := (k).toInt) (b := 1) rfl rfl l_4 rfl rfl (by omega) (fun x16 e17 => fun lo18 e19 f20 => ?_)
    have lo18_0 := f20 0 _ (by decide) (Or.inl rfl) l_0
    have lo18_1 := f20 1 _ (by decide) (Or.inl rfl) l_1
    have lo18_2 := f20 2 _ (by decide) (Or.inl rfl) l_2
    have lo18_3 := f20 3 _ (by decide) (Or.inl rfl) l_3
    exact yR_m 1 (fun _ _ _ _ => rfl) (h2 x1 e2 x3 e4 x5 e6 q7 x12 e13 y14 e15 x16 e17 lo18 lo18_0 lo18_1 lo18_2 lo18_3 e19 hm_2)

set_option maxRecDepth 100000 in
theorem w_wd_63 {E : zM → Prop} (hE : aEs (aΘ0 E)) {d : Nat} {m0 mem : zM} {P : Option Value → zM → Prop} {v t f : Int32} {lo : List (Nat × Value)} (hm : wI (aΘ0 E) m0 mem) (l_0 : zlg lo 0 = some (.ref 221)) (l_1 : zlg lo 1 = some (.int v)) (l_2 : zlg lo 2 = some (.int t)) (l_3 : zlg lo 3 = some (.int f)) (hv : 0 ≤ v.toInt ∧ v.toInt ≤ 21) (hn : 0 ≤ gn (ga mem 253) v.toInt ∧ gn (ga mem 253) v.toInt ≤ 39) (h1 : ∀ (x1 : Int32), x1.toInt = (40 * (v).toInt) → ∀ (y3 : Int32), y3.toInt = (gn (ga mem 253) (v).toInt) → ∀ (x5 : Int32), x5.toInt = ((40 * (v).toInt) + (gn (ga mem 253) (v).toInt)) → ∀ (x7 : Int32), x7.toInt = (3 * ((40 * (v).toInt) + (gn (ga mem 253) (v).toInt))) → ∀ (y12 : Int32), y12.toInt = (gn (ga mem 249) (v).toInt) → ∀ (x14 : Int32), x14.toInt = ((3 * ((40 * (v).toInt) + (gn (ga mem 253) (v).toInt))) + 1) → ∀ (x16 : Int32), x16.toInt = ((3 * ((40 * (v).toInt) + (gn (ga mem 253) (v).toInt))) + 2) → ∀ (y18 : Int32), y18.toInt = (gn (ga mem 253) (v).toInt) → ∀ (x20 : Int32), x20.toInt = ((gn (ga mem 253) (v).toInt) + 1) → wI (aΘ0 E) m0 (sx (sx (sx (sx mem 254 x7 y12) 254 x14 t) 254 x16 f) 253 v x20) → P none (sx (sx (sx (sx mem 254 x7 y12) 254 x14 t) 254 x16 f) 253 v x20)) : yR zpg tX12_writesDown d (63, lo, [], mem) P := by
  refine yR_m 2 (fun _ _ _ _ => rfl) ?_
  refine wR_li rfl l_1 ?_
  refine wN_mul (a := 40) (b := (v).toInt) rfl rfl rfl (by omega) (fun x1 e2 => ?_)
  refine wR_la rfl l_0 ?_
  refine wR_gr rfl mO_e mO_52 hm.1.1 ?_
  refine wR_li rfl l_1 ?_
  refine wN_al (a := (v).toInt) rfl aR_253 hm.1.1 rfl rfl (by omega) (fun y3 e4 => ?_)
  refine wN_add (a := (40 * (v).toInt)) (b := (gn (ga mem 253) (v).toInt)) rfl e2 e4 (by omega) (fun x5 e6 => ?_)
  refine wN_mul (a := 3) (b := ((40 * (v).toInt) + (gn (ga mem 253) (v).toInt))) rfl rfl e6 (by omega) (fun x7 e8 => ?_)
  refine wR_si rfl rfl (fun lo9 e10 f11 => ?_)
  have lo9_0 := f11 0 _ (by decide) (Or.inl rfl) l_0
  have lo9_1 := f11 1 _ (by decide) (Or.inl rfl) l_1
  have lo9_2 := f11 2 _ (by decide) (Or.inl rfl) l_2
  have lo9_3 := f11 3 _ (by decide) (Or.inl rfl) l_3
  refine wR_la rfl lo9_0 ?_
  refine wR_gr rfl mO_e mO_53 hm.1.1 ?_
  refine wR_li rfl e10 ?_
  refine wR_la rfl lo9_0 ?_
  refine wR_gr rfl mO_e mO_48 hm.1.1 ?_
  refine wR_li rfl lo9_1 ?_
  refine wN_al (a := (v).toInt) rfl aR_249 hm.1.1 rfl rfl (by omega) (fun y12 e13 => ?_)
  refine wN_as (a := (3 * ((40 * (v).toInt) + (gn (ga mem 253) (v).toInt)))) rfl aR_254 hm.1.1 e8 (by omega) ?_
  have hm_1 : wI (aΘ0 E) m0 (sx mem 254 x7 y12) := wI_sa hE aR_254 hm (i32_b _)
  refine wR_la rfl lo9_0 ?_
  refine wR_gr rfl mO_e mO_53 hm_1.1.1 ?_
  refine wR_li rfl e10 ?_
  refine yR_m 1 (fun _ _ _ _ => rfl) ?_
  refine wN_add (a := (3 * ((40 * (v).toInt) + (gn (ga mem 253) (v).toInt)))) (b := 1) rfl e8 rfl (by omega) (fun x14 e15 => ?_)
  refine wR_li rfl lo9_2 ?_
  refine wN_as (a := ((3 * ((40 * (v).toInt) + (gn (ga mem 253) (v).toInt))) + 1)) rfl aR_254 hm_1.1.1 e15 (by omega) ?_
  have hm_2 : wI (aΘ0 E) m0 (sx (sx mem 254 x7 y12) 254 x14 t) := wI_sa hE aR_254 hm_1 (i32_b _)
  refine wR_la rfl lo9_0 ?_
  refine wR_gr rfl mO_e mO_53 hm_2.1.1 ?_
  refine wR_li rfl e10 ?_
  refine yR_m 1 (fun _ _ _ _ => rfl) ?_
  refine wN_add (a := (3 * ((40 * (v).toInt) + (gn (ga mem 253) (v).toInt)))) (b := 2) rfl e8 rfl (by omega) (fun x16 e17 => ?_)
  refine wR_li rfl lo9_3 ?_
  refine wN_as (a := ((3 * ((40 * (v).toInt) + (gn (ga mem 253) (v).toInt))) + 2)) rfl aR_254 hm_2.1.1 e17 (by omega) ?_
  have hm_3 : wI (aΘ0 E) m0 (sx (sx (sx mem 254 x7 y12) 254 x14 t) 254 x16 f) := wI_sa hE aR_254 hm_2 (i32_b _)
  refine wR_la rfl lo9_0 ?_
  refine wR_gr rfl mO_e mO_52 hm_3.1.1 ?_
  refine wR_li rfl lo9_1 ?_
  refine yR_m 1 (fun _ _ _ _ => rfl) ?_
  refine wN_al (a := (v).toInt) rfl aR_253 hm_3.1.1 ((ga_sa_ne (by decide)).trans ((ga_sa_ne (by decide)).trans (ga_sa_ne (by decide)))) rfl (by omega) (fun y18 e19 => ?_)
  refine yR_m 1 (fun _ _ _ _ => rfl) ?_
  refine wN_add (a := (gn (ga mem 253) (v).toInt)) (b := 1) rfl e19 rfl (by omega) (fun x20 e21 => ?_)
  refine wN_as (a := (v).toInt) rfl aR_253 hm_3.1.1 rfl (by omega) ?_
  have hm_4 : wI (aΘ0 E) m0 (sx (sx (sx (sx mem 254 x7 y12) 254 x14 t) 254 x16 f) 253 v x20) := wI_sa hE aR_253 hm_3 (by rw [e21]; exact (by omega))
  exact yR_rv rfl (h1 x1 e2 y3 e4 x5 e6 x7 e8 y12 e13 x14 e15 x16 e17 y18 e19 x20 e21 hm_4)

theorem wd_end {E : zM → Prop} (hE : aEs (aΘ0 E)) {m0 mr mem : zM} {d : Nat} {v t f : Int32} (hv : 0 ≤ v.toInt ∧ v.toInt ≤ 21) (hI : wI (aΘ0 E) m0 mem) (hn : gn (ga mem 253) v.toInt ≤ 39) (ho : onl [253, 254] mr mem) {lo : List (Nat × Value)} (l0 : zlg lo 0 = some (.ref 221)) (l1 : zlg lo 1 = some (.int v)) (l2 : zlg lo 2 = some (.int t)) (l3 : zlg lo 3 = some (.int f)) : yR zpg tX12_writesDown d (63, lo, [], mem) (fun r m => r = none ∧ wI (aΘ0 E) m0 m ∧ onl [253, 254] mr m) := by
  have km := gR_253 hI.1.1 (i := v.toInt) hv.1 (by omega)
  exact w_wd_63 hE hI l0 l1 l2 l3 hv ⟨km.1, hn⟩
        (fun x1 e2 y3 e4 x5 e6 x7 e8 y12 e13 x14 e15 x16 e17 y18 e19 x20 e21 hI => ⟨rfl, hI, onl_sa rfl (onl_sa rfl (onl_sa rfl (onl_sa rfl ho)))⟩)
theorem wd_loop {E : zM → Prop} (hE : aEs (aΘ0 E)) {m0 mr : zM} {d : Nat} {v t f : Int32} (hv : 0 ≤ v.toInt ∧ v.toInt ≤ 21) : ∀ (n : Nat) (k : Int32) (mem : zM) (lo : List (Nat × Value)), 120 * v.toInt + 117 ≤ k.toInt + (n : Int) → 120 * v.toInt ≤ k.toInt → k.toInt ≤ 120 * v.toInt + 117 → gn (ga mem 253) v.toInt = 40 → onl [253, 254] mr mem → zlg lo 0 = some (.ref 221) → zlg lo 1 = some (.int v) → zlg lo 2 = some (.int t) → zlg lo 3 = some (.int f) → zlg lo 4 = some (.int k) → wI (aΘ0 E) m0 mem → yR zpg tX12_writesDown d (17, lo, [], mem) (fun r m => r = none ∧ wI (aΘ0 E) m0 m ∧ onl [253, 254] mr m) := by
  intro n
  induction n with
  | zero =>
    intro k mem lo hn k0 k1 hk ho l0 l1 l2 l3 l4 hI
    have gl := gl_253 hI.1.1
    exact w_wd_17 hE hI l0 l1 l2 l3 l4 hv ⟨k0, k1⟩ hk
        (fun x1 e2 x3 e4 x5 e6 q7 y8 e9 x10 e11 lo a0 a1 a2 a3 hI => wd_end hE hv hI (by rw [ga_sa_eq, gn_set rfl hv.1 (by omega) hv.1, if_pos rfl]; omega) (onl_sa rfl ho) a0 a1 a2 a3)
        (fun x1 e2 x3 e4 x5 e6 q7 x12 e13 y14 e15 x16 e17 lo a0 a1 a2 a3 a4 hI => by exfalso; omega)
  | succ n ih =>
    intro k mem lo hn k0 k1 hk ho l0 l1 l2 l3 l4 hI
    have gl := gl_253 hI.1.1
    exact w_wd_17 hE hI l0 l1 l2 l3 l4 hv ⟨k0, k1⟩ hk
        (fun x1 e2 x3 e4 x5 e6 q7 y8 e9 x10 e11 lo a0 a1 a2 a3 hI => wd_end hE hv hI (by rw [ga_sa_eq, gn_set rfl hv.1 (by omega) hv.1, if_pos rfl]; omega) (onl_sa rfl ho) a0 a1 a2 a3)
        (fun x1 e2 x3 e4 x5 e6 q7 x12 e13 y14 e15 x16 e17 lo a0 a1 a2 a3 a4 hI => ih _ _ lo (by omega) (by omega) (by omega) (by rw [ga_sa_ne (by decide)]; exact hk) (onl_sa rfl ho) a0 a1 a2 a3 a4 hI)
theorem h_writesDown {E : zM → Prop} (hE : aEs (aΘ0 E)) {m0 mem : zM} {d : Nat} (hd : 1 ≤ d) {v t f : Int32} (hv : 0 ≤ v.toInt ∧ v.toInt ≤ 21) (hI : wI (aΘ0 E) m0 mem) : yC zpg d 232 [.ref 221, .int v, .int t, .int f] mem (fun r m => r = none ∧ wI (aΘ0 E) m0 m ∧ onl [253, 254] mem m) := by
  obtain ⟨d, rfl⟩ : ∃ q, d = q + 1 := ⟨d - 1, by omega⟩
  have km := gR_253 hI.1.1 (i := v.toInt) hv.1 (by omega)
  refine yC_of (t := tX12_writesDown) rfl rfl ?_
  exact w_wd_0 hE hI rfl rfl rfl rfl hv
        (fun y1 e2 q3 lo a0 a1 a2 a3 hI => wd_end hE hv hI (by omega) onl_rf a0 a1 a2 a3)
        (fun y1 e2 q3 x4 e5 lo a0 a1 a2 a3 a4 hI => wd_loop hE hv 117 _ mem lo (by omega) (by omega) (by omega) (by omega) onl_rf a0 a1 a2 a3 a4 hI)
theorem xor_rg {y t : Int32} (h0 : 0 ≤ y.toInt) (h1 : y.toInt ≤ 511) (t0 : 0 ≤ t.toInt) (t1 : t.toInt ≤ 8) : 0 ≤ (y ^^^ (1 <<< (t &&& 31))).toInt ∧ (y ^^^ (1 <<< (t &&& 31))).toInt ≤ 511 := by
  have a := sd_shm (1, 1) (0, 8) 1 t (by decide) (by decide) t0 t1
  have b := sd_xor (0, 511) (1, 256) y (1 <<< (t &&& 31)) h0 h1 a.1 a.2
  exact b
set_option maxRecDepth 100000 in
theorem w_turnsOver {E : zM → Prop} (hE : aEs (aΘ0 E)) {d : Nat} {m0 mem : zM} {P : Option Value → zM → Prop} {v t : Int32} (hm : wI (aΘ0 E) m0 mem) (hv : 0 ≤ v.toInt ∧ v.toInt ≤ 21) (ht : 0 ≤ t.toInt ∧ t.toInt ≤ 8) (h1 : ∀ (y1 : Int32), y1.toInt = (gn (ga mem 250) (v).toInt) → ∀ (x3 : Int32), x3.toInt = (9 * (v).toInt) → ∀ (x5 : Int32), x5.toInt = ((9 * (v).toInt) + (t).toInt) → ∀ (y7 : Int32), y7.toInt = (gn ((ga mem 250).set v.toNatClampNeg (y1 ^^^ (1 <<< (t &&& 31)))) (v).toInt) → ¬ ((y7 >>> (t &&& 31)) &&& 1).toInt = 1 → ∀ (m10 : zM), wI (aΘ0 E) m0 m10 → onl [253, 254] (sx (sx mem 250 v (y1 ^^^ (1 <<< (t &&& 31)))) 251 x5 0) m10 → wI (aΘ0 E) m0 m10 → P none m10) (h2 : ∀ (y1 : Int32), y1.toInt = (gn (ga mem 250) (v).toInt) → ∀ (x3 : Int32), x3.toInt = (9 * (v).toInt) → ∀ (x5 : Int32), x5.toInt = ((9 * (v).toInt) + (t).toInt) → ∀ (y7 : Int32), y7.toInt = (gn ((ga mem 250).set v.toNatClampNeg (y1 ^^^ (1 <<< (t &&& 31)))) (v).toInt) → ((y7 >>> (t &&& 31)) &&& 1).toInt = 1 → ∀ (m12 : zM), wI (aΘ0 E) m0 m12 → onl [253, 254] (sx (sx mem 250 v (y1 ^^^ (1 <<< (t &&& 31)))) 251 x5 0) m12 → wI (aΘ0 E) m0 m12 → P none m12) : yR zpg tX12_turnsOver (d + 2) (0, [(0, .ref 221), (1, .int v), (2, .int t)], [], mem) P := by
  have ls := gR_250 hm.1.1 (i := v.toInt) hv.1 (by omega)
  refine yR_m 1 (fun _ _ _ _ => rfl) ?_
  refine wR_gr rfl mO_e mO_49 hm.1.1 ?_
  refine yR_m 2 (fun _ _ _ _ => rfl) ?_
  refine wN_al (a := (v).toInt) rfl aR_250 hm.1.1 rfl rfl (by omega) (fun y1 e2 => ?_)
  refine yR_m 4 (fun _ _ _ _ => rfl) ?_
  refine wN_as (a := (v).toInt) rfl aR_250 hm.1.1 rfl (by omega) ?_
  have hm_1 : wI (aΘ0 E) m0 (sx mem 250 v (y1 ^^^ (1 <<< (t &&& 31)))) := wI_sa hE aR_250 hm (xor_rg (by omega) (by omega) ht.1 ht.2)
  refine yR_m 1 (fun _ _ _ _ => rfl) ?_
  refine wR_gr rfl mO_e mO_50 hm_1.1.1 ?_
  refine yR_m 2 (fun _ _ _ _ => rfl) ?_
  refine wN_mul (a := 9) (b := (v).toInt) rfl rfl rfl (by omega) (fun x3 e4 => ?_)
  refine yR_m 1 (fun _ _ _ _ => rfl) ?_
  refine wN_add (a := (9 * (v).toInt)) (b := (t).toInt) rfl e4 rfl (by omega) (fun x5 e6 => ?_)
  refine yR_m 1 (fun _ _ _ _ => rfl) ?_
  refine wN_as (a := ((9 * (v).toInt) + (t).toInt)) rfl aR_251 hm_1.1.1 e6 (by omega) ?_
  have hm_2 : wI (aΘ0 E) m0 (sx (sx mem 250 v (y1 ^^^ (1 <<< (t &&& 31)))) 251 x5 0) := wI_sa hE aR_251 hm_1 (i32_b _)
  refine yR_m 4 (fun _ _ _ _ => rfl) ?_
  refine wR_gr rfl mO_e mO_49 hm_2.1.1 ?_
  refine yR_m 1 (fun _ _ _ _ => rfl) ?_
  refine wN_al (a := (v).toInt) rfl aR_250 hm_2.1.1 ((ga_sa_ne (by decide)).trans ga_sa_eq) rfl (by omega) (fun y7 e8 => ?_)
  refine yR_m 1 (fun _ _ _ _ => rfl) ?_
  refine wR_is rfl rfl rfl rfl rfl rfl ?_
  show yR zpg tX12_has2 (d + 1) (0, [(0, .int y7), (1, .int t)], [], (sx (sx mem 250 v (y1 ^^^ (1 <<< (t &&& 31)))) 251 x5 0)) _
  refine yR_m 6 (fun _ _ _ _ => rfl) ?_
  refine wR_ic_ne rfl (a := ((y7 >>> (t &&& 31)) &&& 1).toInt) (c := 1) rfl rfl (fun q9 => ?_) (fun q9 => ?_)
  ·
    refine yR_m 1 (fun _ _ _ _ => rfl) ?_
    refine yR_rz rfl ⟨by decide, by decide⟩ ?_
    show yR zpg tX12_turnsOver (d + 2) (37, [(0, .ref 221), (1, .int v), (2, .int t)], [.int 0, .int t, .int v, .ref 221], (sx (sx mem 250 v (y1 ^^^ (1 <<< (t &&& 31)))) 251 x5 0)) _
    refine wR_if_eq rfl (a := 0) rfl (fun _ => ?_) (fun q => by exfalso; omega)
    refine yR_m 1 (fun _ _ _ _ => rfl) ?_
    refine wR_cv rfl rfl mO_e hm_2.1.1 rfl (h_writesDown hE (by omega) (by omega) hm_2) ?_
    rintro _ m10 ⟨rfl, hI10, k11⟩
    show yR zpg tX12_turnsOver (d + 2) (48, [(0, .ref 221), (1, .int v), (2, .int t)], [], m10) _
    exact yR_rv rfl (h1 y1 e2 x3 e4 x5 e6 y7 e8 q9 m10 hI10 k11 hI10)
  ·
    refine yR_m 2 (fun _ _ _ _ => rfl) ?_
    refine yR_rz rfl ⟨by decide, by decide⟩ ?_
    show yR zpg tX12_turnsOver (d + 2) (37, [(0, .ref 221), (1, .int v), (2, .int t)], [.int 1, .int t, .int v, .ref 221], (sx (sx mem 250 v (y1 ^^^ (1 <<< (t &&& 31)))) 251 x5 0)) _
    refine wR_if_eq rfl (a := 1) rfl (fun q => by exfalso; omega) (fun _ => ?_)
    refine yR_m 2 (fun _ _ _ _ => rfl) ?_
    refine wR_cv rfl rfl mO_e hm_2.1.1 rfl (h_writesDown hE (by omega) (by omega) hm_2) ?_
    rintro _ m12 ⟨rfl, hI12, k13⟩
    show yR zpg tX12_turnsOver (d + 2) (48, [(0, .ref 221), (1, .int v), (2, .int t)], [], m12) _
    exact yR_rv rfl (h2 y1 e2 x3 e4 x5 e6 y7 e8 q9 m12 hI12 k13 hI12)

theorem h_turnsOver {E : zM → Prop} (hE : aEs (aΘ0 E)) {m0 mem : zM} {d : Nat} (hd : 3 ≤ d) {v t : Int32} (hv : 0 ≤ v.toInt ∧ v.toInt ≤ 21) (ht : 0 ≤ t.toInt ∧ t.toInt ≤ 8) (hI : wI (aΘ0 E) m0 mem) : yC zpg d 233 [.ref 221, .int v, .int t] mem (fun r m => r = none ∧ wI (aΘ0 E) m0 m ∧ onl [250, 251, 253, 254] mem m) := by
  obtain ⟨d, rfl⟩ : ∃ q, d = q + 3 := ⟨d - 3, by omega⟩
  refine yC_of (t := tX12_turnsOver) rfl rfl ?_
  exact w_turnsOver hE hI hv ht
        (fun y1 e2 x3 e4 x5 e6 y7 e8 q9 m10 hI10 k11 hI => ⟨rfl, hI, onl_tr (onl_sa rfl (onl_sa rfl onl_rf)) (onl_up k11 rfl)⟩)
        (fun y1 e2 x3 e4 x5 e6 y7 e8 q9 m12 hI12 k13 hI => ⟨rfl, hI, onl_tr (onl_sa rfl (onl_sa rfl onl_rf)) (onl_up k13 rfl)⟩)
set_option maxRecDepth 100000 in
theorem w_ti_0 {E : zM → Prop} (hE : aEs (aΘ0 E)) {d : Nat} {m0 mem : zM} {P : Option Value → zM → Prop} {v bu : Int32} {lo : List (Nat × Value)} (hm : wI (aΘ0 E) m0 mem) (l_0 : zlg lo 0 = some (.ref 221)) (l_1 : zlg lo 1 = some (.int v)) (l_2 : zlg lo 2 = some (.int bu)) (hQ : ∀ mem, aJ (aΘ0 E) mem → cdOK mem) (hz : szOK mem) (hv : 0 ≤ v.toInt ∧ v.toInt ≤ 21) (h1 : ∀ (m1 : zM), wI (aΘ0 E) m0 m1 → (onl [256, 257, 258] mem m1 ∧ litOK m1) → ∀ lo, zlg lo 0 = some (.ref 221) → zlg lo 1 = some (.int v) → zlg lo 2 = some (.int bu) → zlg lo 3 = some (.int 0) → wI (aΘ0 E) m0 m1 → yR zpg tX12_ticks (d + 9) (8, lo, [], m1) P) : yR zpg tX12_ticks (d + 9) (0, lo, [], mem) P := by
  refine wR_la rfl l_0 ?_
  refine wR_li rfl l_1 ?_
  refine wR_li rfl l_2 ?_
  refine wR_cv rfl rfl mO_e hm.1.1 rfl (h_lights hE hQ (by omega) (by omega) hm hz) ?_
  rintro _ m1 ⟨rfl, hI1, k2⟩
  show yR zpg tX12_ticks (d + 9) (6, lo, [], m1) _
  refine yR_m 1 (fun _ _ _ _ => rfl) ?_
  refine wR_si rfl rfl (fun lo3 e4 f5 => ?_)
  have lo3_0 := f5 0 _ (by decide) (Or.inl rfl) l_0
  have lo3_1 := f5 1 _ (by decide) (Or.inl rfl) l_1
  have lo3_2 := f5 2 _ (by decide) (Or.inl rfl) l_2
  exact h1 m1 hI1 k2 lo3 lo3_0 lo3_1 lo3_2 e4 hI1

set_option maxRecDepth 100000 in
theorem w_ti_8 {E : zM → Prop} (hE : aEs (aΘ0 E)) {d : Nat} {m0 mem : zM} {P : Option Value → zM → Prop} {v bu k : Int32} {lo : List (Nat × Value)} (hm : wI (aΘ0 E) m0 mem) (l_0 : zlg lo 0 = some (.ref 221)) (l_1 : zlg lo 1 = some (.int v)) (l_2 : zlg lo 2 = some (.int bu)) (l_3 : zlg lo 3 = some (.int k)) (hz : szOK mem) (hL : litOK mem) (hv : 0 ≤ v.toInt ∧ v.toInt ≤ 21) (hk : 0 ≤ k.toInt ∧ k.toInt ≤ 6) (h1 : ∀ (y1 : Int32), y1.toInt = (gn (ga mem 233) (gi mem 221 13).toInt) → (gn (ga mem 233) (gi mem 221 13).toInt) ≤ (k).toInt → ∀ lo, zlg lo 0 = some (.ref 221) → zlg lo 1 = some (.int v) → zlg lo 2 = some (.int bu) → zlg lo 3 = some (.int 0) → zlg lo 4 = some (.int 0) → wI (aΘ0 E) m0 mem → yR zpg tX12_ticks (d + 9) (38, lo, [], mem) P) (h2 : ∀ (y1 : Int32), y1.toInt = (gn (ga mem 233) (gi mem 221 13).toInt) → (k).toInt < (gn (ga mem 233) (gi mem 221 13).toInt) → ∀ (m10 : zM), wI (aΘ0 E) m0 m10 → onl [252, 259, 260] mem m10 → ∀ (x12 : Int32), x12.toInt = ((k).toInt + 1) → ∀ lo, zlg lo 0 = some (.ref 221) → zlg lo 1 = some (.int v) → zlg lo 2 = some (.int bu) → zlg lo 3 = some (.int x12) → wI (aΘ0 E) m0 m10 → yR zpg tX12_ticks (d + 9) (8, lo, [], m10) P) : yR zpg tX12_ticks (d + 9) (8, lo, [], mem) P := by
  obtain ⟨b0, b1⟩ := mO_r13 hm.1.1
  have fk := gR_233 hm.1.1 (i := (gi mem 221 13).toInt) b0 (by omega)
  refine wR_li rfl l_3 ?_
  refine wR_la rfl l_0 ?_
  refine wR_gr rfl mO_e mO_24 hm.1.1 ?_
  refine wR_la rfl l_0 ?_
  refine wR_gi rfl mO_e mO_13 hm.1.1 rfl ?_
  refine wN_al (a := (gi mem 221 13).toInt) rfl aR_233 hm.1.1 rfl rfl (by omega) (fun y1 e2 => ?_)
  refine wR_ic_ge rfl (a := (k).toInt) (c := (gn (ga mem 233) (gi mem 221 13).toInt)) rfl e2 (fun q3 => ?_) (fun q3 => ?_)
  ·
    refine yR_m 1 (fun _ _ _ _ => rfl) ?_
    refine wR_si rfl rfl (fun lo4 e5 f6 => ?_)
    have lo4_0 := f6 0 _ (by decide) (Or.inl rfl) l_0
    have lo4_1 := f6 1 _ (by decide) (Or.inl rfl) l_1
    have lo4_2 := f6 2 _ (by decide) (Or.inl rfl) l_2
    refine yR_m 1 (fun _ _ _ _ => rfl) ?_
    refine wR_si rfl rfl (fun lo7 e8 f9 => ?_)
    have lo7_3 := f9 3 _ (by decide) (Or.inl rfl) e5
    have lo7_0 := f9 0 _ (by decide) (Or.inl rfl) lo4_0
    have lo7_1 := f9 1 _ (by decide) (Or.inl rfl) lo4_1
    have lo7_2 := f9 2 _ (by decide) (Or.inl rfl) lo4_2
    exact h1 y1 e2 q3 lo7 lo7_0 lo7_1 lo7_2 lo7_3 e8 hm
  ·
    refine wR_la rfl l_0 ?_
    refine wR_li rfl l_1 ?_
    refine wR_li rfl l_3 ?_
    refine wR_cv rfl rfl mO_e hm.1.1 rfl (h_walks hE (by omega) (by omega) (by omega) hm hz hL) ?_
    rintro _ m10 ⟨rfl, hI10, k11⟩
    show yR zpg tX12_ticks (d + 9) (27, lo, [], m10) _
    refine wN_in (a := (k).toInt) (b := 1) rfl rfl l_3 rfl rfl (by omega) (fun x12 e13 => fun lo14 e15 f16 => ?_)
    have lo14_0 := f16 0 _ (by decide) (Or.inl rfl) l_0
    have lo14_1 := f16 1 _ (by decide) (Or.inl rfl) l_1
    have lo14_2 := f16 2 _ (by decide) (Or.inl rfl) l_2
    exact yR_m 1 (fun _ _ _ _ => rfl) (h2 y1 e2 q3 m10 hI10 k11 x12 e13 lo14 lo14_0 lo14_1 lo14_2 e15 hI10)

set_option maxRecDepth 100000 in
theorem w_ti_38 {E : zM → Prop} (hE : aEs (aΘ0 E)) {d : Nat} {m0 mem : zM} {P : Option Value → zM → Prop} {v bu tu k : Int32} {lo : List (Nat × Value)} (hm : wI (aΘ0 E) m0 mem) (l_0 : zlg lo 0 = some (.ref 221)) (l_1 : zlg lo 1 = some (.int v)) (l_2 : zlg lo 2 = some (.int bu)) (l_3 : zlg lo 3 = some (.int tu)) (l_4 : zlg lo 4 = some (.int k)) (hQ : ∀ mem, aJ (aΘ0 E) mem → cdOK mem) (hv : 0 ≤ v.toInt ∧ v.toInt ≤ 21) (hk : 0 ≤ k.toInt ∧ k.toInt ≤ 9) (h1 : ∀ (y1 : Int32), y1.toInt = (gn (ga mem 228) (gi mem 221 13).toInt) → (gn (ga mem 228) (gi mem 221 13).toInt) ≤ (k).toInt → ∀ (y4 : Int32), y4.toInt = (gn (ga mem 250) (v).toInt) → ∀ (v6 : Int32), True → ∀ lo, zlg lo 0 = some (.ref 221) → zlg lo 1 = some (.int v) → zlg lo 2 = some (.int bu) → zlg lo 3 = some (.int tu) → zlg lo 4 = some (.int v6) → zlg lo 5 = some (.int 0) → wI (aΘ0 E) m0 mem → yR zpg tX12_ticks (d + 9) (95, lo, [], mem) P) (h2 : ∀ (y1 : Int32), y1.toInt = (gn (ga mem 228) (gi mem 221 13).toInt) → (k).toInt < (gn (ga mem 228) (gi mem 221 13).toInt) → ∀ (v16 : Int32) (m14 : zM), wI (aΘ0 E) m0 m14 → (0 ≤ v16.toInt ∧ v16.toInt ≤ 1) ∧ onl [256, 257] mem m14 → (v16).toInt = 0 → ∀ (x21 : Int32), x21.toInt = ((k).toInt + 1) → ∀ lo, zlg lo 0 = some (.ref 221) → zlg lo 1 = some (.int v) → zlg lo 2 = some (.int bu) → zlg lo 3 = some (.int (tu ||| 0)) → zlg lo 4 = some (.int x21) → wI (aΘ0 E) m0 m14 → yR zpg tX12_ticks (d + 9) (38, lo, [], m14) P) (h3 : ∀ (y1 : Int32), y1.toInt = (gn (ga mem 228) (gi mem 221 13).toInt) → (k).toInt < (gn (ga mem 228) (gi mem 221 13).toInt) → ∀ (v16 : Int32) (m14 : zM), wI (aΘ0 E) m0 m14 → (0 ≤ v16.toInt ∧ v16.toInt ≤ 1) ∧ onl [256, 257] mem m14 → ¬ (v16).toInt = 0 → ∀ (x29 : Int32), x29.toInt = ((k).toInt + 1) → ∀ lo, zlg lo 0 = some (.ref 221) → zlg lo 1 = some (.int v) → zlg lo 2 = some (.int bu) → zlg lo 3 = some (.int (tu ||| (1 <<< (k &&& 31)))) → zlg lo 4 = some (.int x29) → wI (aΘ0 E) m0 m14 → yR zpg tX12_ticks (d + 9) (38, lo, [], m14) P) : yR zpg tX12_ticks (d + 9) (38, lo, [], mem) P := by
  obtain ⟨b0, b1⟩ := mO_r13 hm.1.1
  have th := gR_228 hm.1.1 (i := (gi mem 221 13).toInt) b0 (by omega)
  refine wR_li rfl l_4 ?_
  refine wR_la rfl l_0 ?_
  refine wR_gr rfl mO_e mO_19 hm.1.1 ?_
  refine wR_la rfl l_0 ?_
  refine wR_gi rfl mO_e mO_13 hm.1.1 rfl ?_
  refine wN_al (a := (gi mem 221 13).toInt) rfl aR_228 hm.1.1 rfl rfl (by omega) (fun y1 e2 => ?_)
  refine wR_ic_ge rfl (a := (k).toInt) (c := (gn (ga mem 228) (gi mem 221 13).toInt)) rfl e2 (fun q3 => ?_) (fun q3 => ?_)
  ·
    refine wR_li rfl l_3 ?_
    refine wR_la rfl l_0 ?_
    refine wR_gr rfl mO_e mO_49 hm.1.1 ?_
    refine wR_li rfl l_1 ?_
    refine wN_al (a := (v).toInt) rfl aR_250 hm.1.1 rfl rfl (by omega) (fun y4 e5 => ?_)
    refine yR_m 1 (fun _ _ _ _ => rfl) ?_
    refine yR_cs rfl rfl rfl (c_bits (by omega)) ?_
    rintro _ _ ⟨v6, rfl, rfl, k7⟩
    show yR zpg tX12_ticks (d + 9) (90, lo, [.int v6], mem) _
    refine wR_si rfl rfl (fun lo8 e9 f10 => ?_)
    have lo8_0 := f10 0 _ (by decide) (Or.inl rfl) l_0
    have lo8_1 := f10 1 _ (by decide) (Or.inl rfl) l_1
    have lo8_2 := f10 2 _ (by decide) (Or.inl rfl) l_2
    have lo8_3 := f10 3 _ (by decide) (Or.inl rfl) l_3
    refine yR_m 1 (fun _ _ _ _ => rfl) ?_
    refine wR_si rfl rfl (fun lo11 e12 f13 => ?_)
    have lo11_4 := f13 4 _ (by decide) (Or.inl rfl) e9
    have lo11_0 := f13 0 _ (by decide) (Or.inl rfl) lo8_0
    have lo11_1 := f13 1 _ (by decide) (Or.inl rfl) lo8_1
    have lo11_2 := f13 2 _ (by decide) (Or.inl rfl) lo8_2
    have lo11_3 := f13 3 _ (by decide) (Or.inl rfl) lo8_3
    exact h1 y1 e2 q3 y4 e5 v6 k7 lo11 lo11_0 lo11_1 lo11_2 lo11_3 lo11_4 e12 hm
  ·
    refine wR_li rfl l_3 ?_
    refine wR_la rfl l_0 ?_
    refine wR_li rfl l_1 ?_
    refine wR_li rfl l_4 ?_
    refine wR_cv rfl rfl mO_e hm.1.1 rfl (h_isTurned hE hQ (by omega) (by omega) (by omega) hm) ?_
    rintro _ m14 ⟨v16, rfl, hI14, k15⟩
    show yR zpg tX12_ticks (d + 9) (60, lo, [.int v16, .int tu], m14) _
    refine wR_if_eq rfl (a := (v16).toInt) rfl (fun q17 => ?_) (fun q17 => ?_)
    ·
      refine yR_m 2 (fun _ _ _ _ => rfl) ?_
      refine wR_si rfl rfl (fun lo18 e19 f20 => ?_)
      have lo18_0 := f20 0 _ (by decide) (Or.inl rfl) l_0
      have lo18_1 := f20 1 _ (by decide) (Or.inl rfl) l_1
      have lo18_2 := f20 2 _ (by decide) (Or.inl rfl) l_2
      have lo18_4 := f20 4 _ (by decide) (Or.inl rfl) l_4
      refine wN_in (a := (k).toInt) (b := 1) rfl rfl lo18_4 rfl rfl (by omega) (fun x21 e22 => fun lo23 e24 f25 => ?_)
      have lo23_3 := f25 3 _ (by decide) (Or.inl rfl) e19
      have lo23_0 := f25 0 _ (by decide) (Or.inl rfl) lo18_0
      have lo23_1 := f25 1 _ (by decide) (Or.inl rfl) lo18_1
      have lo23_2 := f25 2 _ (by decide) (Or.inl rfl) lo18_2
      exact yR_m 1 (fun _ _ _ _ => rfl) (h2 y1 e2 q3 v16 m14 hI14 k15 q17 x21 e22 lo23 lo23_0 lo23_1 lo23_2 lo23_3 e24 hI14)
    ·
      refine yR_m 1 (fun _ _ _ _ => rfl) ?_
      refine wR_li rfl l_4 ?_
      refine yR_m 3 (fun _ _ _ _ => rfl) ?_
      refine wR_si rfl rfl (fun lo26 e27 f28 => ?_)
      have lo26_0 := f28 0 _ (by decide) (Or.inl rfl) l_0
      have lo26_1 := f28 1 _ (by decide) (Or.inl rfl) l_1
      have lo26_2 := f28 2 _ (by decide) (Or.inl rfl) l_2
      have lo26_4 := f28 4 _ (by decide) (Or.inl rfl) l_4
      refine wN_in (a := (k).toInt) (b := 1) rfl rfl lo26_4 rfl rfl (by omega) (fun x29 e30 => fun lo31 e32 f33 => ?_)
      have lo31_3 := f33 3 _ (by decide) (Or.inl rfl) e27
      have lo31_0 := f33 0 _ (by decide) (Or.inl rfl) lo26_0
      have lo31_1 := f33 1 _ (by decide) (Or.inl rfl) lo26_1
      have lo31_2 := f33 2 _ (by decide) (Or.inl rfl) lo26_2
      exact yR_m 1 (fun _ _ _ _ => rfl) (h3 y1 e2 q3 v16 m14 hI14 k15 q17 x29 e30 lo31 lo31_0 lo31_1 lo31_2 lo31_3 e32 hI14)

set_option maxRecDepth 100000 in
theorem w_ti_95 {E : zM → Prop} (hE : aEs (aΘ0 E)) {d : Nat} {m0 mem : zM} {P : Option Value → zM → Prop} {v bu tu fo k : Int32} {lo : List (Nat × Value)} (hm : wI (aΘ0 E) m0 mem) (l_0 : zlg lo 0 = some (.ref 221)) (l_1 : zlg lo 1 = some (.int v)) (l_2 : zlg lo 2 = some (.int bu)) (l_3 : zlg lo 3 = some (.int tu)) (l_4 : zlg lo 4 = some (.int fo)) (l_5 : zlg lo 5 = some (.int k)) (hv : 0 ≤ v.toInt ∧ v.toInt ≤ 21) (hk : 0 ≤ k.toInt ∧ k.toInt ≤ 9) (h1 : ∀ (y1 : Int32), y1.toInt = (gn (ga mem 228) (gi mem 221 13).toInt) → (gn (ga mem 228) (gi mem 221 13).toInt) ≤ (k).toInt → ∀ (y4 : Int32), y4.toInt = (gn (ga mem 249) (v).toInt) → wI (aΘ0 E) m0 (sx mem 249 v (y4 + 1)) → P (some (.int fo)) (sx mem 249 v (y4 + 1))) (h2 : ∀ (y1 : Int32), y1.toInt = (gn (ga mem 228) (gi mem 221 13).toInt) → (k).toInt < (gn (ga mem 228) (gi mem 221 13).toInt) → ¬ ((tu >>> (k &&& 31)) &&& 1).toInt = 1 → ∀ (x7 : Int32), x7.toInt = (9 * (v).toInt) → ∀ (x9 : Int32), x9.toInt = ((9 * (v).toInt) + (k).toInt) → ∀ (y11 : Int32), y11.toInt = (gn (ga mem 251) ((9 * (v).toInt) + (k).toInt)) → 99 ≤ (gn (ga mem 251) ((9 * (v).toInt) + (k).toInt)) → ∀ (x14 : Int32), x14.toInt = ((k).toInt + 1) → ∀ lo, zlg lo 0 = some (.ref 221) → zlg lo 1 = some (.int v) → zlg lo 2 = some (.int bu) → zlg lo 3 = some (.int tu) → zlg lo 4 = some (.int fo) → zlg lo 5 = some (.int x14) → wI (aΘ0 E) m0 mem → yR zpg tX12_ticks (d + 9) (95, lo, [], mem) P) (h3 : ∀ (y1 : Int32), y1.toInt = (gn (ga mem 228) (gi mem 221 13).toInt) → (k).toInt < (gn (ga mem 228) (gi mem 221 13).toInt) → ¬ ((tu >>> (k &&& 31)) &&& 1).toInt = 1 → ∀ (x7 : Int32), x7.toInt = (9 * (v).toInt) → ∀ (x9 : Int32), x9.toInt = ((9 * (v).toInt) + (k).toInt) → ∀ (y11 : Int32), y11.toInt = (gn (ga mem 251) ((9 * (v).toInt) + (k).toInt)) → (gn (ga mem 251) ((9 * (v).toInt) + (k).toInt)) < 99 → ∀ (x19 : Int32), x19.toInt = (9 * (v).toInt) → ∀ (x21 : Int32), x21.toInt = ((9 * (v).toInt) + (k).toInt) → ∀ (y23 : Int32), y23.toInt = (gn (ga mem 251) ((9 * (v).toInt) + (k).toInt)) → ∀ (x25 : Int32), x25.toInt = ((k).toInt + 1) → ∀ lo, zlg lo 0 = some (.ref 221) → zlg lo 1 = some (.int v) → zlg lo 2 = some (.int bu) → zlg lo 3 = some (.int tu) → zlg lo 4 = some (.int fo) → zlg lo 5 = some (.int x25) → wI (aΘ0 E) m0 (sx mem 251 x21 (y23 + 1)) → yR zpg tX12_ticks (d + 9) (95, lo, [], (sx mem 251 x21 (y23 + 1))) P) (h4 : ∀ (y1 : Int32), y1.toInt = (gn (ga mem 228) (gi mem 221 13).toInt) → (k).toInt < (gn (ga mem 228) (gi mem 221 13).toInt) → ((tu >>> (k &&& 31)) &&& 1).toInt = 1 → ∀ (m30 : zM), wI (aΘ0 E) m0 m30 → onl [250, 251, 253, 254] mem m30 → ∀ (x32 : Int32), x32.toInt = ((k).toInt + 1) → ∀ lo, zlg lo 0 = some (.ref 221) → zlg lo 1 = some (.int v) → zlg lo 2 = some (.int bu) → zlg lo 3 = some (.int tu) → zlg lo 4 = some (.int fo) → zlg lo 5 = some (.int x32) → wI (aΘ0 E) m0 m30 → yR zpg tX12_ticks (d + 9) (95, lo, [], m30) P) : yR zpg tX12_ticks (d + 9) (95, lo, [], mem) P := by
  obtain ⟨b0, b1⟩ := mO_r13 hm.1.1
  have th := gR_228 hm.1.1 (i := (gi mem 221 13).toInt) b0 (by omega)
  refine wR_li rfl l_5 ?_
  refine wR_la rfl l_0 ?_
  refine wR_gr rfl mO_e mO_19 hm.1.1 ?_
  refine wR_la rfl l_0 ?_
  refine wR_gi rfl mO_e mO_13 hm.1.1 rfl ?_
  refine wN_al (a := (gi mem 221 13).toInt) rfl aR_228 hm.1.1 rfl rfl (by omega) (fun y1 e2 => ?_)
  refine wR_ic_ge rfl (a := (k).toInt) (c := (gn (ga mem 228) (gi mem 221 13).toInt)) rfl e2 (fun q3 => ?_) (fun q3 => ?_)
  ·
    refine wR_la rfl l_0 ?_
    refine wR_gr rfl mO_e mO_48 hm.1.1 ?_
    refine wR_li rfl l_1 ?_
    refine yR_m 1 (fun _ _ _ _ => rfl) ?_
    refine wN_al (a := (v).toInt) rfl aR_249 hm.1.1 rfl rfl (by omega) (fun y4 e5 => ?_)
    refine yR_m 2 (fun _ _ _ _ => rfl) ?_
    refine wN_as (a := (v).toInt) rfl aR_249 hm.1.1 rfl (by omega) ?_
    have hm_1 : wI (aΘ0 E) m0 (sx mem 249 v (y4 + 1)) := wI_sa hE aR_249 hm (i32_b _)
    refine wR_li rfl l_4 ?_
    exact yR_ri rfl (h1 y1 e2 q3 y4 e5 hm_1)
  ·
    refine wR_li rfl l_3 ?_
    refine wR_li rfl l_5 ?_
    refine wR_is rfl rfl rfl rfl rfl rfl ?_
    show yR zpg tX12_has2 (d + 8) (0, [(0, .int tu), (1, .int k)], [], mem) _
    refine yR_m 6 (fun _ _ _ _ => rfl) ?_
    refine wR_ic_ne rfl (a := ((tu >>> (k &&& 31)) &&& 1).toInt) (c := 1) rfl rfl (fun q6 => ?_) (fun q6 => ?_)
    ·
      refine yR_m 1 (fun _ _ _ _ => rfl) ?_
      refine yR_rz rfl ⟨by decide, by decide⟩ ?_
      show yR zpg tX12_ticks (d + 9) (115, lo, [.int 0], mem) _
      refine wR_if_eq rfl (a := 0) rfl (fun _ => ?_) (fun q => by exfalso; omega)
      refine wR_la rfl l_0 ?_
      refine wR_gr rfl mO_e mO_50 hm.1.1 ?_
      refine yR_m 1 (fun _ _ _ _ => rfl) ?_
      refine wR_li rfl l_1 ?_
      refine wN_mul (a := 9) (b := (v).toInt) rfl rfl rfl (by omega) (fun x7 e8 => ?_)
      refine wR_li rfl l_5 ?_
      refine wN_add (a := (9 * (v).toInt)) (b := (k).toInt) rfl e8 rfl (by omega) (fun x9 e10 => ?_)
      refine wN_al (a := ((9 * (v).toInt) + (k).toInt)) rfl aR_251 hm.1.1 rfl e10 (by omega) (fun y11 e12 => ?_)
      refine yR_m 1 (fun _ _ _ _ => rfl) ?_
      refine wR_ic_ge rfl (a := (gn (ga mem 251) ((9 * (v).toInt) + (k).toInt))) (c := 99) e12 rfl (fun q13 => ?_) (fun q13 => ?_)
      ·
        refine wN_in (a := (k).toInt) (b := 1) rfl rfl l_5 rfl rfl (by omega) (fun x14 e15 => fun lo16 e17 f18 => ?_)
        have lo16_0 := f18 0 _ (by decide) (Or.inl rfl) l_0
        have lo16_1 := f18 1 _ (by decide) (Or.inl rfl) l_1
        have lo16_2 := f18 2 _ (by decide) (Or.inl rfl) l_2
        have lo16_3 := f18 3 _ (by decide) (Or.inl rfl) l_3
        have lo16_4 := f18 4 _ (by decide) (Or.inl rfl) l_4
        exact yR_m 1 (fun _ _ _ _ => rfl) (h2 y1 e2 q3 q6 x7 e8 x9 e10 y11 e12 q13 x14 e15 lo16 lo16_0 lo16_1 lo16_2 lo16_3 lo16_4 e17 hm)
      ·
        refine wR_la rfl l_0 ?_
        refine wR_gr rfl mO_e mO_50 hm.1.1 ?_
        refine yR_m 1 (fun _ _ _ _ => rfl) ?_
        refine wR_li rfl l_1 ?_
        refine wN_mul (a := 9) (b := (v).toInt) rfl rfl rfl (by omega) (fun x19 e20 => ?_)
        refine wR_li rfl l_5 ?_
        refine wN_add (a := (9 * (v).toInt)) (b := (k).toInt) rfl e20 rfl (by omega) (fun x21 e22 => ?_)
        refine yR_m 1 (fun _ _ _ _ => rfl) ?_
        refine wN_al (a := ((9 * (v).toInt) + (k).toInt)) rfl aR_251 hm.1.1 rfl e22 (by omega) (fun y23 e24 => ?_)
        refine yR_m 2 (fun _ _ _ _ => rfl) ?_
        refine wN_as (a := ((9 * (v).toInt) + (k).toInt)) rfl aR_251 hm.1.1 e22 (by omega) ?_
        have hm_2 : wI (aΘ0 E) m0 (sx mem 251 x21 (y23 + 1)) := wI_sa hE aR_251 hm (i32_b _)
        refine wN_in (a := (k).toInt) (b := 1) rfl rfl l_5 rfl rfl (by omega) (fun x25 e26 => fun lo27 e28 f29 => ?_)
        have lo27_0 := f29 0 _ (by decide) (Or.inl rfl) l_0
        have lo27_1 := f29 1 _ (by decide) (Or.inl rfl) l_1
        have lo27_2 := f29 2 _ (by decide) (Or.inl rfl) l_2
        have lo27_3 := f29 3 _ (by decide) (Or.inl rfl) l_3
        have lo27_4 := f29 4 _ (by decide) (Or.inl rfl) l_4
        exact yR_m 1 (fun _ _ _ _ => rfl) (h3 y1 e2 q3 q6 x7 e8 x9 e10 y11 e12 q13 x19 e20 x21 e22 y23 e24 x25 e26 lo27 lo27_0 lo27_1 lo27_2 lo27_3 lo27_4 e28 hm_2)
    ·
      refine yR_m 2 (fun _ _ _ _ => rfl) ?_
      refine yR_rz rfl ⟨by decide, by decide⟩ ?_
      show yR zpg tX12_ticks (d + 9) (115, lo, [.int 1], mem) _
      refine wR_if_eq rfl (a := 1) rfl (fun q => by exfalso; omega) (fun _ => ?_)
      refine wR_la rfl l_0 ?_
      refine wR_li rfl l_1 ?_
      refine wR_li rfl l_5 ?_
      refine wR_cv rfl rfl mO_e hm.1.1 rfl (h_turnsOver hE (by omega) (by omega) (by omega) hm) ?_
      rintro _ m30 ⟨rfl, hI30, k31⟩
      show yR zpg tX12_ticks (d + 9) (125, lo, [], m30) _
      refine yR_m 1 (fun _ _ _ _ => rfl) ?_
      refine wN_in (a := (k).toInt) (b := 1) rfl rfl l_5 rfl rfl (by omega) (fun x32 e33 => fun lo34 e35 f36 => ?_)
      have lo34_0 := f36 0 _ (by decide) (Or.inl rfl) l_0
      have lo34_1 := f36 1 _ (by decide) (Or.inl rfl) l_1
      have lo34_2 := f36 2 _ (by decide) (Or.inl rfl) l_2
      have lo34_3 := f36 3 _ (by decide) (Or.inl rfl) l_3
      have lo34_4 := f36 4 _ (by decide) (Or.inl rfl) l_4
      exact yR_m 1 (fun _ _ _ _ => rfl) (h4 y1 e2 q3 q6 m30 hI30 k31 x32 e33 lo34 lo34_0 lo34_1 lo34_2 lo34_3 lo34_4 e35 hI30)

section TI
variable {E : zM → Prop} {m0 : zM} {d : Nat} {v bu : Int32}
def tiP (E : zM → Prop) (m0 : zM) (r : Option Value) (m : zM) : Prop := ∃ x : Int32, r = some (.int x) ∧ wI (aΘ0 E) m0 m ∧ True
theorem ti_age (hE : aEs (aΘ0 E)) (hv : 0 ≤ v.toInt ∧ v.toInt ≤ 21) {tu fo : Int32} : ∀ (f : Nat) (k : Int32) (mem : zM) (lo : List (Nat × Value)), 10 ≤ k.toInt + (f : Int) → 0 ≤ k.toInt → k.toInt ≤ 9 → zlg lo 0 = some (.ref 221) → zlg lo 1 = some (.int v) → zlg lo 2 = some (.int bu) → zlg lo 3 = some (.int tu) → zlg lo 4 = some (.int fo) → zlg lo 5 = some (.int k) → wI (aΘ0 E) m0 mem → yR zpg tX12_ticks (d + 9) (95, lo, [], mem) (tiP E m0) := by
  intro f
  induction f with
  | zero => intro k mem lo hf k0 k1; omega
  | succ f ih =>
    intro k mem lo hf k0 k1 l0 l1 l2 l3 l4 l5 hI
    obtain ⟨b0, b1⟩ := mO_r13 hI.1.1
    have th := gR_228 hI.1.1 (i := (gi mem 221 13).toInt) b0 (by omega)
    exact w_ti_95 hE hI l0 l1 l2 l3 l4 l5 hv ⟨k0, k1⟩
        (fun y1 e2 q3 y4 e5 hI => ⟨_, rfl, hI, trivial⟩)
        (fun y1 e2 q3 q6 x7 e8 x9 e10 y11 e12 q13 x14 e15 lo a0 a1 a2 a3 a4 a5 hI => ih _ _ lo (by omega) (by omega) (by omega) a0 a1 a2 a3 a4 a5 hI)
        (fun y1 e2 q3 q6 x7 e8 x9 e10 y11 e12 q13 x19 e20 x21 e22 y23 e24 x25 e26 lo a0 a1 a2 a3 a4 a5 hI => ih _ _ lo (by omega) (by omega) (by omega) a0 a1 a2 a3 a4 a5 hI)
        (fun y1 e2 q3 q6 m30 hI30 k31 x32 e33 lo a0 a1 a2 a3 a4 a5 hI => ih _ _ lo (by omega) (by omega) (by omega) a0 a1 a2 a3 a4 a5 hI)
theorem ti_turn (hE : aEs (aΘ0 E)) (hQ : ∀ mem, aJ (aΘ0 E) mem → cdOK mem) (hv : 0 ≤ v.toInt ∧ v.toInt ≤ 21) : ∀ (f : Nat) (k tu : Int32) (mem : zM) (lo : List (Nat × Value)), 10 ≤ k.toInt + (f : Int) → 0 ≤ k.toInt → k.toInt ≤ 9 → zlg lo 0 = some (.ref 221) → zlg lo 1 = some (.int v) → zlg lo 2 = some (.int bu) → zlg lo 3 = some (.int tu) → zlg lo 4 = some (.int k) → wI (aΘ0 E) m0 mem → yR zpg tX12_ticks (d + 9) (38, lo, [], mem) (tiP E m0) := by
  intro f
  induction f with
  | zero => intro k tu mem lo hf k0 k1; omega
  | succ f ih =>
    intro k tu mem lo hf k0 k1 l0 l1 l2 l3 l4 hI
    obtain ⟨b0, b1⟩ := mO_r13 hI.1.1
    have th := gR_228 hI.1.1 (i := (gi mem 221 13).toInt) b0 (by omega)
    exact w_ti_38 hE hI l0 l1 l2 l3 l4 hQ hv ⟨k0, k1⟩
        (fun y1 e2 q3 y4 e5 v6 k7 lo a0 a1 a2 a3 a4 a5 hI => ti_age hE hv 10 0 _ lo (by decide) (by decide) (by decide) a0 a1 a2 a3 a4 a5 hI)
        (fun y1 e2 q3 v16 m14 hI14 k15 q17 x21 e22 lo a0 a1 a2 a3 a4 hI => ih _ _ _ lo (by omega) (by omega) (by omega) a0 a1 a2 a3 a4 hI)
        (fun y1 e2 q3 v16 m14 hI14 k15 q17 x29 e30 lo a0 a1 a2 a3 a4 hI => ih _ _ _ lo (by omega) (by omega) (by omega) a0 a1 a2 a3 a4 hI)
theorem ti_walk (hE : aEs (aΘ0 E)) (hQ : ∀ mem, aJ (aΘ0 E) mem → cdOK mem) (hz : ∀ mem, aJ (aΘ0 E) mem → szOK mem) (hv : 0 ≤ v.toInt ∧ v.toInt ≤ 21) : ∀ (f : Nat) (k : Int32) (mem : zM) (lo : List (Nat × Value)), 7 ≤ k.toInt + (f : Int) → 0 ≤ k.toInt → k.toInt ≤ 6 → litOK mem → zlg lo 0 = some (.ref 221) → zlg lo 1 = some (.int v) → zlg lo 2 = some (.int bu) → zlg lo 3 = some (.int k) → wI (aΘ0 E) m0 mem → yR zpg tX12_ticks (d + 9) (8, lo, [], mem) (tiP E m0) := by
  intro f
  induction f with
  | zero => intro k mem lo hf k0 k1; omega
  | succ f ih =>
    intro k mem lo hf k0 k1 hL l0 l1 l2 l3 hI
    obtain ⟨b0, b1⟩ := mO_r13 hI.1.1
    have fk := gR_233 hI.1.1 (i := (gi mem 221 13).toInt) b0 (by omega)
    exact w_ti_8 hE hI l0 l1 l2 l3 (hz mem hI.1) hL hv ⟨k0, k1⟩
        (fun y1 e2 q3 lo a0 a1 a2 a3 a4 hI => ti_turn hE hQ hv 10 0 0 _ lo (by decide) (by decide) (by decide) a0 a1 a2 a3 a4 hI)
        (fun y1 e2 q3 m10 hI10 k11 x12 e13 lo a0 a1 a2 a3 hI => ih _ _ lo (by omega) (by omega) (by omega) (fun c a b => by
          obtain ⟨-, -, B3⟩ := onl_bes k11 rfl rfl rfl rfl
          rw [onl_ga k11 rfl, B3]
          exact hL c a b) a0 a1 a2 a3 hI)
theorem h_ticks (hE : aEs (aΘ0 E)) (hQ : ∀ mem, aJ (aΘ0 E) mem → cdOK mem) (hz : ∀ mem, aJ (aΘ0 E) mem → szOK mem) (hv : 0 ≤ v.toInt ∧ v.toInt ≤ 21) {mem : zM} (hd : 10 ≤ d) (hI : wI (aΘ0 E) m0 mem) : yC zpg d 235 [.ref 221, .int v, .int bu] mem (tiP E m0) := by
  obtain ⟨d, rfl⟩ : ∃ q, d = q + 10 := ⟨d - 10, by omega⟩
  refine yC_of (t := tX12_ticks) rfl rfl ?_
  exact w_ti_0 hE hI rfl rfl rfl hQ (hz mem hI.1) hv
        (fun m1 hI1 k2 lo a0 a1 a2 a3 hI => ti_walk hE hQ hz hv 7 0 _ lo (by decide) (by decide) (by decide) k2.2 a0 a1 a2 a3 hI)
end TI
