/-! what is written down: the model -/
section WNA
variable {d : Nat} {mem : zM}
/-- what was found and lost: how many, and each -/
abbrev Kd : Type := Int × (Int → Int × Int × Int)
/-- one more is written down -/
def kpA (K : Kd) (x : Int × Int × Int) : Kd := (K.1 + 1, fun i => if i = K.1 then x else K.2 i)
/-- the oldest is forgotten -/
def kpD (K : Kd) : Kd := (K.1 - 1, fun i => K.2 (i + 1))
def kpP (K : Kd) (x : Int × Int × Int) : Kd := kpA (if K.1 = 40 then kpD K else K) x
/-- the model's layer v tells them -/
def kM (v : Int) (K : Kd) (m : zM) : Prop := (0 ≤ K.1 ∧ K.1 ≤ 40) ∧ gn (ga m 253) v = K.1 ∧ ∀ i, 0 ≤ i → i < K.1 → gn (ga m 254) (120 * v + 3 * i) = (K.2 i).1 ∧ gn (ga m 254) (120 * v + 3 * i + 1) = (K.2 i).2.1 ∧ gn (ga m 254) (120 * v + 3 * i + 2) = (K.2 i).2.2
/-- the other layers' are as they were -/
def oKl (v : Int) (a b : zM) : Prop := ∀ u, 0 ≤ u → u ≤ 21 → ¬ u = v → gn (ga b 253) u = gn (ga a 253) u ∧ ∀ i, 0 ≤ i → i < 120 → gn (ga b 254) (120 * u + i) = gn (ga a 254) (120 * u + i)
theorem oKl_rf {v : Int} {a : zM} : oKl v a a := fun _ _ _ _ => ⟨rfl, fun _ _ _ => rfl⟩
theorem oKl_tr {v : Int} {a b c : zM} (h1 : oKl v a b) (h2 : oKl v b c) : oKl v a c := fun u u0 u1 uv => ⟨((h2 u u0 u1 uv).1).trans (h1 u u0 u1 uv).1, fun i i0 i1 => ((h2 u u0 u1 uv).2 i i0 i1).trans ((h1 u u0 u1 uv).2 i i0 i1)⟩
theorem oKl_q {v : Int} {a b : zM} (e1 : ga b 253 = ga a 253) (e2 : ga b 254 = ga a 254) : oKl v a b := fun u _ _ _ => by
  rw [e1, e2]
  exact ⟨rfl, fun _ _ _ => rfl⟩
theorem kM_q {v : Int} {K : Kd} {a b : zM} (e1 : ga b 253 = ga a 253) (e2 : ga b 254 = ga a 254) (hh : kM v K a) : kM v K b := by
  unfold kM at hh ⊢
  rw [e1, e2]
  exact hh
set_option maxRecDepth 100000 in
theorem w_wn0 {d : Nat} {mem : zM} {P : Option Value → zM → Prop} {v t f : Int32} {lo : List (Nat × Value)} (hm : aTm aT0 mem) (l_0 : zlg lo 0 = some (.ref 221)) (l_1 : zlg lo 1 = some (.int v)) (l_2 : zlg lo 2 = some (.int t)) (l_3 : zlg lo 3 = some (.int f)) (hv : 0 ≤ v.toInt ∧ v.toInt ≤ 21) (h1 : ∀ (y1 : Int32), y1.toInt = (gn (ga mem 253) (v).toInt) → ¬ (gn (ga mem 253) (v).toInt) = 40 → ∀ lo, zlg lo 0 = some (.ref 221) → zlg lo 1 = some (.int v) → zlg lo 2 = some (.int t) → zlg lo 3 = some (.int f) → aTm aT0 mem → yR zpg tX12_writesDown d (63, lo, [], mem) P) (h2 : ∀ (y1 : Int32), y1.toInt = (gn (ga mem 253) (v).toInt) → (gn (ga mem 253) (v).toInt) = 40 → ∀ (x4 : Int32), x4.toInt = (120 * (v).toInt) → ∀ lo, zlg lo 0 = some (.ref 221) → zlg lo 1 = some (.int v) → zlg lo 2 = some (.int t) → zlg lo 3 = some (.int f) → zlg lo 4 = some (.int x4) → aTm aT0 mem → yR zpg tX12_writesDown d (17, lo, [], mem) P) : yR zpg tX12_writesDown d (0, lo, [], mem) P := by
  refine wR_la rfl l_0 ?_
  refine wR_gr rfl mO_e mO_52 hm ?_
  refine wR_li rfl l_1 ?_
  refine wN_al (a := (v).toInt) rfl aR_253 hm rfl rfl (by omega) (fun y1 e2 => ?_)
  refine yR_m 1 (fun _ _ _ _ => rfl) ?_
  refine wR_ic_ne rfl (a := (gn (ga mem 253) (v).toInt)) (c := 40) e2 rfl (fun q3 => ?_) (fun q3 => ?_)
  ·
    exact h1 y1 e2 q3 lo l_0 l_1 l_2 l_3 hm
  ·
    refine yR_m 1 (fun _ _ _ _ => rfl) ?_
    refine wR_li rfl l_1 ?_
    refine wN_mul (a := 120) (b := (v).toInt) rfl rfl rfl (by omega) (fun x4 e5 => ?_)
    refine wR_si rfl rfl (fun lo6 e7 f8 => ?_)
    have lo6_0 := f8 0 _ (by decide) (Or.inl rfl) l_0
    have lo6_1 := f8 1 _ (by decide) (Or.inl rfl) l_1
    have lo6_2 := f8 2 _ (by decide) (Or.inl rfl) l_2
    have lo6_3 := f8 3 _ (by decide) (Or.inl rfl) l_3
    exact h2 y1 e2 q3 x4 e5 lo6 lo6_0 lo6_1 lo6_2 lo6_3 e7 hm

set_option maxRecDepth 100000 in
theorem w_wn17 {d : Nat} {mem : zM} {P : Option Value → zM → Prop} {v t f k : Int32} {lo : List (Nat × Value)} (hm : aTm aT0 mem) (l_0 : zlg lo 0 = some (.ref 221)) (l_1 : zlg lo 1 = some (.int v)) (l_2 : zlg lo 2 = some (.int t)) (l_3 : zlg lo 3 = some (.int f)) (l_4 : zlg lo 4 = some (.int k)) (hv : 0 ≤ v.toInt ∧ v.toInt ≤ 21) (hk : 120 * v.toInt ≤ k.toInt ∧ k.toInt ≤ 120 * v.toInt + 117) (hn : gn (ga mem 253) v.toInt = 40) (h1 : ∀ (x1 : Int32), x1.toInt = (120 * (v).toInt) → ∀ (x3 : Int32), x3.toInt = ((120 * (v).toInt) + 120) → ∀ (x5 : Int32), x5.toInt = (((120 * (v).toInt) + 120) - 3) → (((120 * (v).toInt) + 120) - 3) ≤ (k).toInt → ∀ (y8 : Int32), y8.toInt = (gn (ga mem 253) (v).toInt) → ∀ (x10 : Int32), x10.toInt = ((gn (ga mem 253) (v).toInt) - 1) → ∀ lo, zlg lo 0 = some (.ref 221) → zlg lo 1 = some (.int v) → zlg lo 2 = some (.int t) → zlg lo 3 = some (.int f) → aTm aT0 (sx mem 253 v x10) → yR zpg tX12_writesDown d (63, lo, [], (sx mem 253 v x10)) P) (h2 : ∀ (x1 : Int32), x1.toInt = (120 * (v).toInt) → ∀ (x3 : Int32), x3.toInt = ((120 * (v).toInt) + 120) → ∀ (x5 : Int32), x5.toInt = (((120 * (v).toInt) + 120) - 3) → (k).toInt < (((120 * (v).toInt) + 120) - 3) → ∀ (x12 : Int32), x12.toInt = ((k).toInt + 3) → ∀ (y14 : Int32), y14.toInt = (gn (ga mem 254) ((k).toInt + 3)) → ∀ (x16 : Int32), x16.toInt = ((k).toInt + 1) → ∀ lo, zlg lo 0 = some (.ref 221) → zlg lo 1 = some (.int v) → zlg lo 2 = some (.int t) → zlg lo 3 = some (.int f) → zlg lo 4 = some (.int x16) → aTm aT0 (sx mem 254 k y14) → yR zpg tX12_writesDown d (17, lo, [], (sx mem 254 k y14)) P) : yR zpg tX12_writesDown d (17, lo, [], mem) P := by
  refine wR_li rfl l_4 ?_
  refine yR_m 1 (fun _ _ _ _ => rfl) ?_
  refine wR_li rfl l_1 ?_
  refine wN_mul (a := 120) (b := (v).toInt) rfl rfl rfl (by omega) (fun x1 e2 => ?_)
  refine yR_m 1 (fun _ _ _ _ => rfl) ?_
  refine wN_add (a := (120 * (v).toInt)) (b := 120) rfl e2 rfl (by omega) (fun x3 e4 => ?_)
  refine yR_m 1 (fun _ _ _ _ => rfl) ?_
  refine wN_sub (a := ((120 * (v).toInt) + 120)) (b := 3) rfl e4 rfl (by omega) (fun x5 e6 => ?_)
  refine wR_ic_ge rfl (a := (k).toInt) (c := (((120 * (v).toInt) + 120) - 3)) rfl e6 (fun q7 => ?_) (fun q7 => ?_)
  ·
    refine wR_la rfl l_0 ?_
    refine wR_gr rfl mO_e mO_52 hm ?_
    refine wR_li rfl l_1 ?_
    refine yR_m 1 (fun _ _ _ _ => rfl) ?_
    refine wN_al (a := (v).toInt) rfl aR_253 hm rfl rfl (by omega) (fun y8 e9 => ?_)
    refine yR_m 1 (fun _ _ _ _ => rfl) ?_
    refine wN_sub (a := (gn (ga mem 253) (v).toInt)) (b := 1) rfl e9 rfl (by omega) (fun x10 e11 => ?_)
    refine wN_as (a := (v).toInt) rfl aR_253 hm rfl (by omega) ?_
    have hm_1 : aTm aT0 (sx mem 253 v x10) := tm_sa aR_253 hm (by rw [e11]; exact (by omega))
    exact h1 x1 e2 x3 e4 x5 e6 q7 y8 e9 x10 e11 lo l_0 l_1 l_2 l_3 hm_1
  ·
    refine wR_la rfl l_0 ?_
    refine wR_gr rfl mO_e mO_53 hm ?_
    refine wR_li rfl l_4 ?_
    refine wR_la rfl l_0 ?_
    refine wR_gr rfl mO_e mO_53 hm ?_
    refine wR_li rfl l_4 ?_
    refine yR_m 1 (fun _ _ _ _ => rfl) ?_
    refine wN_add (a := (k).toInt) (b := 3) rfl rfl rfl (by omega) (fun x12 e13 => ?_)
    refine wN_al (a := ((k).toInt + 3)) rfl aR_254 hm rfl e13 (by omega) (fun y14 e15 => ?_)
    refine wN_as (a := (k).toInt) rfl aR_254 hm rfl (by omega) ?_
    have hm_2 : aTm aT0 (sx mem 254 k y14) := tm_sa aR_254 hm (i32_b _)
    refine wN_in (a := (k).toInt) (b := 1) rfl rfl l_4 rfl rfl (by omega) (fun x16 e17 => fun lo18 e19 f20 => ?_)
    have lo18_0 := f20 0 _ (by decide) (Or.inl rfl) l_0
    have lo18_1 := f20 1 _ (by decide) (Or.inl rfl) l_1
    have lo18_2 := f20 2 _ (by decide) (Or.inl rfl) l_2
    have lo18_3 := f20 3 _ (by decide) (Or.inl rfl) l_3
    exact yR_m 1 (fun _ _ _ _ => rfl) (h2 x1 e2 x3 e4 x5 e6 q7 x12 e13 y14 e15 x16 e17 lo18 lo18_0 lo18_1 lo18_2 lo18_3 e19 hm_2)

set_option maxRecDepth 100000 in
theorem w_wn63 {d : Nat} {mem : zM} {P : Option Value → zM → Prop} {v t f : Int32} {lo : List (Nat × Value)} (hm : aTm aT0 mem) (l_0 : zlg lo 0 = some (.ref 221)) (l_1 : zlg lo 1 = some (.int v)) (l_2 : zlg lo 2 = some (.int t)) (l_3 : zlg lo 3 = some (.int f)) (hv : 0 ≤ v.toInt ∧ v.toInt ≤ 21) (hn : 0 ≤ gn (ga mem 253) v.toInt ∧ gn (ga mem 253) v.toInt ≤ 39) (h1 : ∀ (x1 : Int32), x1.toInt = (40 * (v).toInt) → ∀ (y3 : Int32), y3.toInt = (gn (ga mem 253) (v).toInt) → ∀ (x5 : Int32), x5.toInt = ((40 * (v).toInt) + (gn (ga mem 253) (v).toInt)) → ∀ (x7 : Int32), x7.toInt = (3 * ((40 * (v).toInt) + (gn (ga mem 253) (v).toInt))) → ∀ (y12 : Int32), y12.toInt = (gn (ga mem 249) (v).toInt) → ∀ (x14 : Int32), x14.toInt = ((3 * ((40 * (v).toInt) + (gn (ga mem 253) (v).toInt))) + 1) → ∀ (x16 : Int32), x16.toInt = ((3 * ((40 * (v).toInt) + (gn (ga mem 253) (v).toInt))) + 2) → ∀ (y18 : Int32), y18.toInt = (gn (ga mem 253) (v).toInt) → ∀ (x20 : Int32), x20.toInt = ((gn (ga mem 253) (v).toInt) + 1) → aTm aT0 (sx (sx (sx (sx mem 254 x7 y12) 254 x14 t) 254 x16 f) 253 v x20) → P none (sx (sx (sx (sx mem 254 x7 y12) 254 x14 t) 254 x16 f) 253 v x20)) : yR zpg tX12_writesDown d (63, lo, [], mem) P := by
  refine yR_m 2 (fun _ _ _ _ => rfl) ?_
  refine wR_li rfl l_1 ?_
  refine wN_mul (a := 40) (b := (v).toInt) rfl rfl rfl (by omega) (fun x1 e2 => ?_)
  refine wR_la rfl l_0 ?_
  refine wR_gr rfl mO_e mO_52 hm ?_
  refine wR_li rfl l_1 ?_
  refine wN_al (a := (v).toInt) rfl aR_253 hm rfl rfl (by omega) (fun y3 e4 => ?_)
  refine wN_add (a := (40 * (v).toInt)) (b := (gn (ga mem 253) (v).toInt)) rfl e2 e4 (by omega) (fun x5 e6 => ?_)
  refine wN_mul (a := 3) (b := ((40 * (v).toInt) + (gn (ga mem 253) (v).toInt))) rfl rfl e6 (by omega) (fun x7 e8 => ?_)
  refine wR_si rfl rfl (fun lo9 e10 f11 => ?_)
  have lo9_0 := f11 0 _ (by decide) (Or.inl rfl) l_0
  have lo9_1 := f11 1 _ (by decide) (Or.inl rfl) l_1
  have lo9_2 := f11 2 _ (by decide) (Or.inl rfl) l_2
  have lo9_3 := f11 3 _ (by decide) (Or.inl rfl) l_3
  refine wR_la rfl lo9_0 ?_
  refine wR_gr rfl mO_e mO_53 hm ?_
  refine wR_li rfl e10 ?_
  refine wR_la rfl lo9_0 ?_
  refine wR_gr rfl mO_e mO_48 hm ?_
  refine wR_li rfl lo9_1 ?_
  refine wN_al (a := (v).toInt) rfl aR_249 hm rfl rfl (by omega) (fun y12 e13 => ?_)
  refine wN_as (a := (3 * ((40 * (v).toInt) + (gn (ga mem 253) (v).toInt)))) rfl aR_254 hm e8 (by omega) ?_
  have hm_1 : aTm aT0 (sx mem 254 x7 y12) := tm_sa aR_254 hm (i32_b _)
  refine wR_la rfl lo9_0 ?_
  refine wR_gr rfl mO_e mO_53 hm_1 ?_
  refine wR_li rfl e10 ?_
  refine yR_m 1 (fun _ _ _ _ => rfl) ?_
  refine wN_add (a := (3 * ((40 * (v).toInt) + (gn (ga mem 253) (v).toInt)))) (b := 1) rfl e8 rfl (by omega) (fun x14 e15 => ?_)
  refine wR_li rfl lo9_2 ?_
  refine wN_as (a := ((3 * ((40 * (v).toInt) + (gn (ga mem 253) (v).toInt))) + 1)) rfl aR_254 hm_1 e15 (by omega) ?_
  have hm_2 : aTm aT0 (sx (sx mem 254 x7 y12) 254 x14 t) := tm_sa aR_254 hm_1 (i32_b _)
  refine wR_la rfl lo9_0 ?_
  refine wR_gr rfl mO_e mO_53 hm_2 ?_
  refine wR_li rfl e10 ?_
  refine yR_m 1 (fun _ _ _ _ => rfl) ?_
  refine wN_add (a := (3 * ((40 * (v).toInt) + (gn (ga mem 253) (v).toInt)))) (b := 2) rfl e8 rfl (by omega) (fun x16 e17 => ?_)
  refine wR_li rfl lo9_3 ?_
  refine wN_as (a := ((3 * ((40 * (v).toInt) + (gn (ga mem 253) (v).toInt))) + 2)) rfl aR_254 hm_2 e17 (by omega) ?_
  have hm_3 : aTm aT0 (sx (sx (sx mem 254 x7 y12) 254 x14 t) 254 x16 f) := tm_sa aR_254 hm_2 (i32_b _)
  refine wR_la rfl lo9_0 ?_
  refine wR_gr rfl mO_e mO_52 hm_3 ?_
  refine wR_li rfl lo9_1 ?_
  refine yR_m 1 (fun _ _ _ _ => rfl) ?_
  refine wN_al (a := (v).toInt) rfl aR_253 hm_3 ((ga_sa_ne (by first | decide | omega)).trans ((ga_sa_ne (by first | decide | omega)).trans (ga_sa_ne (by first | decide | omega)))) rfl (by omega) (fun y18 e19 => ?_)
  refine yR_m 1 (fun _ _ _ _ => rfl) ?_
  refine wN_add (a := (gn (ga mem 253) (v).toInt)) (b := 1) rfl e19 rfl (by omega) (fun x20 e21 => ?_)
  refine wN_as (a := (v).toInt) rfl aR_253 hm_3 rfl (by omega) ?_
  have hm_4 : aTm aT0 (sx (sx (sx (sx mem 254 x7 y12) 254 x14 t) 254 x16 f) 253 v x20) := tm_sa aR_253 hm_3 (by rw [e21]; exact (by omega))
  exact yR_rv rfl (h1 x1 e2 y3 e4 x5 e6 x7 e8 y12 e13 x14 e15 x16 e17 y18 e19 x20 e21 hm_4)

theorem wn_end {v t f : Int32} {K : Kd} {N : Int} {mr : zM} (hm : aTm aT0 mem) (hv : 0 ≤ v.toInt ∧ v.toInt ≤ 21) (hN : gn (ga mem 249) v.toInt = N) (hK : kM v.toInt K mem) (k39 : K.1 ≤ 39) (ho : onl [253, 254] mr mem) (hf : oKl v.toInt mr mem) {lo : List (Nat × Value)} (l0 : zlg lo 0 = some (.ref 221)) (l1 : zlg lo 1 = some (.int v)) (l2 : zlg lo 2 = some (.int t)) (l3 : zlg lo 3 = some (.int f)) : yR zpg tX12_writesDown d (63, lo, [], mem) (fun r m => r = none ∧ aTm aT0 m ∧ (onl [253, 254] mr m ∧ kM v.toInt (kpA K (N, t.toInt, f.toInt)) m ∧ oKl v.toInt mr m)) := by
  obtain ⟨k0, kn, kr⟩ := hK
  have t1 := ga_ty aR_253 hm
  have t2 := ga_ty aR_254 hm
  exact w_wn63 hm l0 l1 l2 l3 hv ⟨by omega, by omega⟩ 
        (fun x1 e2 y3 e4 x5 e6 x7 e8 y12 e13 x14 e15 x16 e17 y18 e19 x20 e21 hm2 => by
          have g3 : ga ((sx (sx (sx (sx mem 254 x7 y12) 254 x14 t) 254 x16 f) 253 v x20)) 253 = (ga mem 253).set v.toNatClampNeg x20 := by
            rw [ga_sa_eq, ga_sa_ne (by decide), ga_sa_ne (by decide), ga_sa_ne (by decide)]
          have g4 : ga ((sx (sx (sx (sx mem 254 x7 y12) 254 x14 t) 254 x16 f) 253 v x20)) 254 = (((ga mem 254).set x7.toNatClampNeg y12).set x14.toNatClampNeg t).set x16.toNatClampNeg f := by
            rw [ga_sa_ne (by decide), ga_sa_eq, ga_sa_eq, ga_sa_eq]
          have S4 : ∀ j, 0 ≤ j → gn (ga ((sx (sx (sx (sx mem 254 x7 y12) 254 x14 t) 254 x16 f) 253 v x20)) 254) j = if j = 120 * v.toInt + 3 * K.1 + 2 then f.toInt else if j = 120 * v.toInt + 3 * K.1 + 1 then t.toInt else if j = 120 * v.toInt + 3 * K.1 then N else gn (ga mem 254) j := fun j j0 => by
            rw [g4, gn_set (show x16.toInt = 120 * v.toInt + 3 * K.1 + 2 by omega) (by omega) (by simp only [List.length_set]; rw [t2.2.1]; omega) j0, gn_set (show x14.toInt = 120 * v.toInt + 3 * K.1 + 1 by omega) (by omega) (by simp only [List.length_set]; rw [t2.2.1]; omega) j0, gn_set (show x7.toInt = 120 * v.toInt + 3 * K.1 by omega) (by omega) (by rw [t2.2.1]; omega) j0, e13, hN]
          refine ⟨rfl, hm2, onl_sa rfl (onl_sa rfl (onl_sa rfl (onl_sa rfl ho))), ⟨⟨by show 0 ≤ K.1 + 1; omega, by show K.1 + 1 ≤ 40; omega⟩, ?_, fun i i0 i1 => ?_⟩, oKl_tr hf (fun u u0 u1 uv => ⟨?_, fun i i0 i1 => ?_⟩)⟩
          · rw [g3, gn_set rfl hv.1 (by rw [t1.2.1]; omega) hv.1, if_pos rfl]
            show _ = K.1 + 1
            omega
          · have i2 : i < K.1 + 1 := i1
            show _ = (if i = K.1 then ((N, t.toInt, f.toInt) : Int × Int × Int) else K.2 i).1 ∧ _ = (if i = K.1 then ((N, t.toInt, f.toInt) : Int × Int × Int) else K.2 i).2.1 ∧ _ = (if i = K.1 then ((N, t.toInt, f.toInt) : Int × Int × Int) else K.2 i).2.2
            by_cases z : i = K.1
            · rw [if_pos z]
              refine ⟨?_, ?_, ?_⟩
              · show _ = N
                rw [S4 _ (by omega), if_neg (by omega), if_neg (by omega), if_pos (by omega)]
              · show _ = t.toInt
                rw [S4 _ (by omega), if_neg (by omega), if_pos (by omega)]
              · show _ = f.toInt
                rw [S4 _ (by omega), if_pos (by omega)]
            · rw [if_neg z]
              have kq := kr i i0 (by omega)
              refine ⟨?_, ?_, ?_⟩
              · rw [S4 _ (by omega), if_neg (by omega), if_neg (by omega), if_neg (by omega)]
                exact kq.1
              · rw [S4 _ (by omega), if_neg (by omega), if_neg (by omega), if_neg (by omega)]
                exact kq.2.1
              · rw [S4 _ (by omega), if_neg (by omega), if_neg (by omega), if_neg (by omega)]
                exact kq.2.2
          · rw [g3, gn_set rfl hv.1 (by rw [t1.2.1]; omega) u0, if_neg uv]
          · rw [S4 _ (by omega), if_neg (by omega), if_neg (by omega), if_neg (by omega)])
theorem wn_loop {v t f : Int32} {K : Kd} {N : Int} {mr : zM} (hv : 0 ≤ v.toInt ∧ v.toInt ≤ 21) (hN : gn (ga mr 249) v.toInt = N) (hK : kM v.toInt K mr) (k40 : K.1 = 40) : ∀ (n : Nat) (k : Int32) (mem : zM) (lo : List (Nat × Value)), k.toInt + (n : Int) = 120 * v.toInt + 117 → 120 * v.toInt ≤ k.toInt → onl [254] mr mem → (∀ j, 0 ≤ j → gn (ga mem 254) j = if 120 * v.toInt ≤ j ∧ j < k.toInt then gn (ga mr 254) (j + 3) else gn (ga mr 254) j) → zlg lo 0 = some (.ref 221) → zlg lo 1 = some (.int v) → zlg lo 2 = some (.int t) → zlg lo 3 = some (.int f) → zlg lo 4 = some (.int k) → aTm aT0 mem → yR zpg tX12_writesDown d (17, lo, [], mem) (fun r m => r = none ∧ aTm aT0 m ∧ (onl [253, 254] mr m ∧ kM v.toInt (kpP K (N, t.toInt, f.toInt)) m ∧ oKl v.toInt mr m)) := by
  intro n
  obtain ⟨k0, kn, kr⟩ := hK
  induction n with
  | zero =>
    intro k mem lo hn kv ho hj l0 l1 l2 l3 l4 hm
    have g3 : ga mem 253 = ga mr 253 := onl_ga ho rfl
    have g9 : ga mem 249 = ga mr 249 := onl_ga ho rfl
    have t1 := ga_ty aR_253 hm
    exact w_wn17 hm l0 l1 l2 l3 l4 hv ⟨kv, by omega⟩ (by rw [g3]; omega) 
        (fun x1 e2 x3 e4 x5 e6 q7 y8 e9 x10 e11 lo a0 a1 a2 a3 hm2 => by
          have g31 : ga (sx mem 253 v x10) 253 = (ga mem 253).set v.toNatClampNeg x10 := ga_sa_eq
          have g41 : ga (sx mem 253 v x10) 254 = ga mem 254 := ga_sa_ne (by decide)
          have g91 : ga (sx mem 253 v x10) 249 = ga mem 249 := ga_sa_ne (by decide)
          have kz : kpP K (N, t.toInt, f.toInt) = kpA (kpD K) (N, t.toInt, f.toInt) := by
            unfold kpP
            rw [if_pos k40]
          rw [kz]
          refine wn_end hm2 hv (by rw [g91, g9]; exact hN) ⟨⟨by show 0 ≤ K.1 - 1; omega, by show K.1 - 1 ≤ 40; omega⟩, ?_, fun i i0 i1 => ?_⟩ (by show K.1 - 1 ≤ 39; omega) (onl_sa rfl (onl_up ho rfl)) (fun u u0 u1 uv => ⟨?_, fun i i0 i1 => ?_⟩) a0 a1 a2 a3
          · rw [g31, gn_set rfl hv.1 (by rw [t1.2.1]; omega) hv.1, if_pos rfl]
            show _ = K.1 - 1
            rw [g3] at *
            omega
          · have i2 : i < K.1 - 1 := i1
            have kq := kr (i + 1) (by omega) (by omega)
            rw [g41, hj _ (by omega), hj _ (by omega), hj _ (by omega), if_pos (by omega), if_pos (by omega), if_pos (by omega)]
            rw [show 120 * v.toInt + 3 * i + 3 = 120 * v.toInt + 3 * (i + 1) by omega, show 120 * v.toInt + 3 * i + 1 + 3 = 120 * v.toInt + 3 * (i + 1) + 1 by omega, show 120 * v.toInt + 3 * i + 2 + 3 = 120 * v.toInt + 3 * (i + 1) + 2 by omega]
            exact kq
          · rw [g31, gn_set rfl hv.1 (by rw [t1.2.1]; omega) u0, if_neg uv, g3]
          · rw [g41, hj _ (by omega), if_neg (by omega)])
        (fun x1 e2 x3 e4 x5 e6 q7 x12 e13 y14 e15 x16 e17 lo a0 a1 a2 a3 a4 hm2 => by exfalso; omega)
  | succ n ih =>
    intro k mem lo hn kv ho hj l0 l1 l2 l3 l4 hm
    have g3 : ga mem 253 = ga mr 253 := onl_ga ho rfl
    have t2 := ga_ty aR_254 hm
    exact w_wn17 hm l0 l1 l2 l3 l4 hv ⟨kv, by omega⟩ (by rw [g3]; omega) 
        (fun x1 e2 x3 e4 x5 e6 q7 y8 e9 x10 e11 lo a0 a1 a2 a3 hm2 => by exfalso; omega)
        (fun x1 e2 x3 e4 x5 e6 q7 x12 e13 y14 e15 x16 e17 lo a0 a1 a2 a3 a4 hm2 => ih _ _ lo (by omega) (by omega) (onl_sa rfl ho) (fun j j0 => by
          rw [ga_sa_eq, gn_set rfl (by omega) (by rw [t2.2.1]; omega) j0]
          by_cases q : j = k.toInt
          · rw [if_pos q, if_pos (by omega), e15, hj _ (by omega), if_neg (by omega), q]
          · rw [if_neg q, hj j j0]
            by_cases q2 : 120 * v.toInt ≤ j ∧ j < k.toInt
            · rw [if_pos q2, if_pos (by omega)]
            · rw [if_neg q2, if_neg (by omega)]) a0 a1 a2 a3 a4 hm2)
theorem h_wn {v t f : Int32} {K : Kd} {N : Int} (hm : aTm aT0 mem) (hv : 0 ≤ v.toInt ∧ v.toInt ≤ 21) (hN : gn (ga mem 249) v.toInt = N) (hK : kM v.toInt K mem) (hd : 1 ≤ d) : yC zpg d 232 [.ref 221, .int v, .int t, .int f] mem (fun r m => r = none ∧ aTm aT0 m ∧ (onl [253, 254] mem m ∧ kM v.toInt (kpP K (N, t.toInt, f.toInt)) m ∧ oKl v.toInt mem m)) := by
  obtain ⟨d, rfl⟩ : ∃ q, d = q + 1 := ⟨d - 1, by omega⟩
  have kk := hK.1
  have kn := hK.2.1
  refine yC_of (t := tX12_writesDown) rfl rfl ?_
  exact w_wn0 hm rfl rfl rfl rfl hv 
        (fun y1 e2 q3 lo a0 a1 a2 a3 hm2 => by
      have kz : kpP K (N, t.toInt, f.toInt) = kpA K (N, t.toInt, f.toInt) := by
        unfold kpP
        rw [if_neg (by omega)]
      rw [kz]
      exact wn_end hm2 hv hN hK (by omega) onl_rf oKl_rf a0 a1 a2 a3)
        (fun y1 e2 q3 x4 e5 lo a0 a1 a2 a3 a4 hm2 => wn_loop hv hN hK (by omega) 117 _ mem lo (by omega) (by omega) onl_rf (fun j j0 => by rw [if_neg (by omega)]) a0 a1 a2 a3 a4 hm2)
end WNA
