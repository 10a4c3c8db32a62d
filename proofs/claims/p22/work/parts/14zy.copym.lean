/-! a layer is copied: the model -/
section CPA
variable {d : Nat} {mem : zM}
/-- k numbers from B on stand at A, too -/
def cpI (l l0 : List Int32) (A B k : Int) : Prop := ∀ j, 0 ≤ j → gn l j = if A ≤ j ∧ j < A + k then gn l0 (j - A + B) else gn l0 j
theorem cpI_z {l : List Int32} {A B : Int} : cpI l l A B 0 := fun j j0 => by
  rw [if_neg (by omega)]
theorem cpI_s {l l0 : List Int32} {A B k k' : Int} {i x : Int32} (hi : i.toInt = A + k) (A0 : 0 ≤ A) (B0 : 0 ≤ B) (k0 : 0 ≤ k) (hl : A + k < (l.length : Int)) (hx : x.toInt = gn l (B + k)) (ds : ¬ (A ≤ B + k ∧ B + k < A + k)) (e' : k' = k + 1) (hh : cpI l l0 A B k) : cpI (l.set i.toNatClampNeg x) l0 A B k' := fun j j0 => by
  rw [gn_set hi (by omega) (by omega) j0]
  by_cases z : j = A + k
  · rw [if_pos z, if_pos (by omega), hx, hh _ (by omega), if_neg ds, z]
    rw [show A + k - A + B = B + k by omega]
  · rw [if_neg z, hh j j0]
    by_cases w : A ≤ j ∧ j < A + k
    · rw [if_pos w, if_pos (by omega)]
    · rw [if_neg w, if_neg (by omega)]
def cpU (q : Nat) (to fr : Int) (a m : zM) : Prop := ∀ u, 0 ≤ u → gn (ga m q) u = if u = to then gn (ga a q) fr else gn (ga a q) u
def cpH (to fr : Int) (a m : zM) : Prop := cpU 249 to fr a m ∧ cpU 250 to fr a m ∧ cpI (ga m 251) (ga a 251) (9 * to) (9 * fr) 9 ∧ cpI (ga m 252) (ga a 252) (6 * to) (6 * fr) 6 ∧ cpU 253 to fr a m
/-- the layer fr stands in the layer to, too -/
def cpD (to fr : Int) (a m : zM) : Prop := cpH to fr a m ∧ cpI (ga m 254) (ga a 254) (120 * to) (120 * fr) (3 * gn (ga a 253) fr)
theorem cpU_q {q : Nat} {to fr : Int} {a m m' : zM} (ee : ga m' q = ga m q) (hh : cpU q to fr a m) : cpU q to fr a m' := fun u u0 => by
  rw [ee]
  exact hh u u0
theorem cpH_q {to fr : Int} {a m m' : zM} (e1 : ga m' 249 = ga m 249) (e2 : ga m' 250 = ga m 250) (e3 : ga m' 251 = ga m 251) (e4 : ga m' 252 = ga m 252) (e5 : ga m' 253 = ga m 253) (hh : cpH to fr a m) : cpH to fr a m' := ⟨cpU_q e1 hh.1, cpU_q e2 hh.2.1, by rw [e3]; exact hh.2.2.1, by rw [e4]; exact hh.2.2.2.1, cpU_q e5 hh.2.2.2.2⟩
theorem cpU_s {q : Nat} {to y : Int32} {fr : Int} {a m m' : zM} (ee : ga m' q = (ga m q).set to.toNatClampNeg y) (e0 : ga m q = ga a q) (hl : (ga m q).length = 22) (ht : 0 ≤ to.toInt ∧ to.toInt ≤ 21) (hy : y.toInt = gn (ga m q) fr) : cpU q to.toInt fr a m' := fun u u0 => by
  rw [ee, gn_set rfl ht.1 (by rw [hl]; omega) u0, hy, e0]
set_option maxRecDepth 100000 in
theorem w_cp0 {d : Nat} {mem : zM} {P : Option Value → zM → Prop} {to fr : Int32} {lo : List (Nat × Value)} (hm : aTm aT0 mem) (l_0 : zlg lo 0 = some (.ref 221)) (l_1 : zlg lo 1 = some (.int to)) (l_2 : zlg lo 2 = some (.int fr)) (ht : 0 ≤ to.toInt ∧ to.toInt ≤ 21) (hf : 0 ≤ fr.toInt ∧ fr.toInt ≤ 21) (h1 : ∀ (y1 : Int32), y1.toInt = (gn (ga mem 249) (fr).toInt) → ∀ (y3 : Int32), y3.toInt = (gn (ga mem 250) (fr).toInt) → ∀ lo, zlg lo 0 = some (.ref 221) → zlg lo 1 = some (.int to) → zlg lo 2 = some (.int fr) → zlg lo 3 = some (.int 0) → aTm aT0 (sx (sx mem 249 to y1) 250 to y3) → yR zpg tX12_copies d (26, lo, [], (sx (sx mem 249 to y1) 250 to y3)) P) : yR zpg tX12_copies d (0, lo, [], mem) P := by
  have rq := gR_250 hm (i := fr.toInt) hf.1 (by omega)
  refine wR_la rfl l_0 ?_
  refine wR_gr rfl mO_e mO_48 hm ?_
  refine wR_li rfl l_1 ?_
  refine wR_la rfl l_0 ?_
  refine wR_gr rfl mO_e mO_48 hm ?_
  refine wR_li rfl l_2 ?_
  refine wN_al (a := (fr).toInt) rfl aR_249 hm rfl rfl (by omega) (fun y1 e2 => ?_)
  refine wN_as (a := (to).toInt) rfl aR_249 hm rfl (by omega) ?_
  have hm_1 : aTm aT0 (sx mem 249 to y1) := tm_sa aR_249 hm (i32_b _)
  refine wR_la rfl l_0 ?_
  refine wR_gr rfl mO_e mO_49 hm_1 ?_
  refine wR_li rfl l_1 ?_
  refine wR_la rfl l_0 ?_
  refine wR_gr rfl mO_e mO_49 hm_1 ?_
  refine wR_li rfl l_2 ?_
  refine wN_al (a := (fr).toInt) rfl aR_250 hm_1 (ga_sa_ne (by first | decide | omega)) rfl (by omega) (fun y3 e4 => ?_)
  refine wN_as (a := (to).toInt) rfl aR_250 hm_1 rfl (by omega) ?_
  have hm_2 : aTm aT0 (sx (sx mem 249 to y1) 250 to y3) := tm_sa aR_250 hm_1 (by rw [e4]; exact (by omega))
  refine yR_m 1 (fun _ _ _ _ => rfl) ?_
  refine wR_si rfl rfl (fun lo5 e6 f7 => ?_)
  have lo5_0 := f7 0 _ (by decide) (Or.inl rfl) l_0
  have lo5_1 := f7 1 _ (by decide) (Or.inl rfl) l_1
  have lo5_2 := f7 2 _ (by decide) (Or.inl rfl) l_2
  exact h1 y1 e2 y3 e4 lo5 lo5_0 lo5_1 lo5_2 e6 hm_2

set_option maxRecDepth 100000 in
theorem w_cp26 {d : Nat} {mem : zM} {P : Option Value → zM → Prop} {to fr k : Int32} {lo : List (Nat × Value)} (hm : aTm aT0 mem) (l_0 : zlg lo 0 = some (.ref 221)) (l_1 : zlg lo 1 = some (.int to)) (l_2 : zlg lo 2 = some (.int fr)) (l_3 : zlg lo 3 = some (.int k)) (ht : 0 ≤ to.toInt ∧ to.toInt ≤ 21) (hf : 0 ≤ fr.toInt ∧ fr.toInt ≤ 21) (hk : 0 ≤ k.toInt ∧ k.toInt ≤ 9) (h1 : 9 ≤ (k).toInt → ∀ lo, zlg lo 0 = some (.ref 221) → zlg lo 1 = some (.int to) → zlg lo 2 = some (.int fr) → zlg lo 3 = some (.int 0) → aTm aT0 mem → yR zpg tX12_copies d (62, lo, [], mem) P) (h2 : (k).toInt < 9 → ∀ (x5 : Int32), x5.toInt = (9 * (to).toInt) → ∀ (x7 : Int32), x7.toInt = ((9 * (to).toInt) + (k).toInt) → ∀ (x9 : Int32), x9.toInt = (9 * (fr).toInt) → ∀ (x11 : Int32), x11.toInt = ((9 * (fr).toInt) + (k).toInt) → ∀ (y13 : Int32), y13.toInt = (gn (ga mem 251) ((9 * (fr).toInt) + (k).toInt)) → ∀ (x15 : Int32), x15.toInt = ((k).toInt + 1) → ∀ lo, zlg lo 0 = some (.ref 221) → zlg lo 1 = some (.int to) → zlg lo 2 = some (.int fr) → zlg lo 3 = some (.int x15) → aTm aT0 (sx mem 251 x7 y13) → yR zpg tX12_copies d (26, lo, [], (sx mem 251 x7 y13)) P) : yR zpg tX12_copies d (26, lo, [], mem) P := by
  refine wR_li rfl l_3 ?_
  refine yR_m 1 (fun _ _ _ _ => rfl) ?_
  refine wR_ic_ge rfl (a := (k).toInt) (c := 9) rfl rfl (fun q1 => ?_) (fun q1 => ?_)
  ·
    refine yR_m 1 (fun _ _ _ _ => rfl) ?_
    refine wR_si rfl rfl (fun lo2 e3 f4 => ?_)
    have lo2_0 := f4 0 _ (by decide) (Or.inl rfl) l_0
    have lo2_1 := f4 1 _ (by decide) (Or.inl rfl) l_1
    have lo2_2 := f4 2 _ (by decide) (Or.inl rfl) l_2
    exact h1 q1 lo2 lo2_0 lo2_1 lo2_2 e3 hm
  ·
    refine wR_la rfl l_0 ?_
    refine wR_gr rfl mO_e mO_50 hm ?_
    refine yR_m 1 (fun _ _ _ _ => rfl) ?_
    refine wR_li rfl l_1 ?_
    refine wN_mul (a := 9) (b := (to).toInt) rfl rfl rfl (by omega) (fun x5 e6 => ?_)
    refine wR_li rfl l_3 ?_
    refine wN_add (a := (9 * (to).toInt)) (b := (k).toInt) rfl e6 rfl (by omega) (fun x7 e8 => ?_)
    refine wR_la rfl l_0 ?_
    refine wR_gr rfl mO_e mO_50 hm ?_
    refine yR_m 1 (fun _ _ _ _ => rfl) ?_
    refine wR_li rfl l_2 ?_
    refine wN_mul (a := 9) (b := (fr).toInt) rfl rfl rfl (by omega) (fun x9 e10 => ?_)
    refine wR_li rfl l_3 ?_
    refine wN_add (a := (9 * (fr).toInt)) (b := (k).toInt) rfl e10 rfl (by omega) (fun x11 e12 => ?_)
    refine wN_al (a := ((9 * (fr).toInt) + (k).toInt)) rfl aR_251 hm rfl e12 (by omega) (fun y13 e14 => ?_)
    refine wN_as (a := ((9 * (to).toInt) + (k).toInt)) rfl aR_251 hm e8 (by omega) ?_
    have hm_1 : aTm aT0 (sx mem 251 x7 y13) := tm_sa aR_251 hm (i32_b _)
    refine wN_in (a := (k).toInt) (b := 1) rfl rfl l_3 rfl rfl (by omega) (fun x15 e16 => fun lo17 e18 f19 => ?_)
    have lo17_0 := f19 0 _ (by decide) (Or.inl rfl) l_0
    have lo17_1 := f19 1 _ (by decide) (Or.inl rfl) l_1
    have lo17_2 := f19 2 _ (by decide) (Or.inl rfl) l_2
    exact yR_m 1 (fun _ _ _ _ => rfl) (h2 q1 x5 e6 x7 e8 x9 e10 x11 e12 y13 e14 x15 e16 lo17 lo17_0 lo17_1 lo17_2 e18 hm_1)

set_option maxRecDepth 100000 in
theorem w_cp62 {d : Nat} {mem : zM} {P : Option Value → zM → Prop} {to fr k : Int32} {lo : List (Nat × Value)} (hm : aTm aT0 mem) (l_0 : zlg lo 0 = some (.ref 221)) (l_1 : zlg lo 1 = some (.int to)) (l_2 : zlg lo 2 = some (.int fr)) (l_3 : zlg lo 3 = some (.int k)) (ht : 0 ≤ to.toInt ∧ to.toInt ≤ 21) (hf : 0 ≤ fr.toInt ∧ fr.toInt ≤ 21) (hk : 0 ≤ k.toInt ∧ k.toInt ≤ 6) (h1 : 6 ≤ (k).toInt → ∀ (y2 : Int32), y2.toInt = (gn (ga mem 253) (fr).toInt) → ∀ lo, zlg lo 0 = some (.ref 221) → zlg lo 1 = some (.int to) → zlg lo 2 = some (.int fr) → zlg lo 3 = some (.int 0) → aTm aT0 (sx mem 253 to y2) → yR zpg tX12_copies d (110, lo, [], (sx mem 253 to y2)) P) (h2 : (k).toInt < 6 → ∀ (x7 : Int32), x7.toInt = (6 * (to).toInt) → ∀ (x9 : Int32), x9.toInt = ((6 * (to).toInt) + (k).toInt) → ∀ (x11 : Int32), x11.toInt = (6 * (fr).toInt) → ∀ (x13 : Int32), x13.toInt = ((6 * (fr).toInt) + (k).toInt) → ∀ (y15 : Int32), y15.toInt = (gn (ga mem 252) ((6 * (fr).toInt) + (k).toInt)) → ∀ (x17 : Int32), x17.toInt = ((k).toInt + 1) → ∀ lo, zlg lo 0 = some (.ref 221) → zlg lo 1 = some (.int to) → zlg lo 2 = some (.int fr) → zlg lo 3 = some (.int x17) → aTm aT0 (sx mem 252 x9 y15) → yR zpg tX12_copies d (62, lo, [], (sx mem 252 x9 y15)) P) : yR zpg tX12_copies d (62, lo, [], mem) P := by
  have rq := gR_253 hm (i := fr.toInt) hf.1 (by omega)
  have rp : k.toInt < 6 → (0 : Int) ≤ gn (ga mem 252) (6 * fr.toInt + k.toInt) ∧ gn (ga mem 252) (6 * fr.toInt + k.toInt) ≤ 63 := fun z => gn_rg aR_252 hm (by omega) (by omega)
  refine wR_li rfl l_3 ?_
  refine yR_m 1 (fun _ _ _ _ => rfl) ?_
  refine wR_ic_ge rfl (a := (k).toInt) (c := 6) rfl rfl (fun q1 => ?_) (fun q1 => ?_)
  ·
    refine wR_la rfl l_0 ?_
    refine wR_gr rfl mO_e mO_52 hm ?_
    refine wR_li rfl l_1 ?_
    refine wR_la rfl l_0 ?_
    refine wR_gr rfl mO_e mO_52 hm ?_
    refine wR_li rfl l_2 ?_
    refine wN_al (a := (fr).toInt) rfl aR_253 hm rfl rfl (by omega) (fun y2 e3 => ?_)
    refine wN_as (a := (to).toInt) rfl aR_253 hm rfl (by omega) ?_
    have hm_1 : aTm aT0 (sx mem 253 to y2) := tm_sa aR_253 hm (by rw [e3]; exact (by omega))
    refine yR_m 1 (fun _ _ _ _ => rfl) ?_
    refine wR_si rfl rfl (fun lo4 e5 f6 => ?_)
    have lo4_0 := f6 0 _ (by decide) (Or.inl rfl) l_0
    have lo4_1 := f6 1 _ (by decide) (Or.inl rfl) l_1
    have lo4_2 := f6 2 _ (by decide) (Or.inl rfl) l_2
    exact h1 q1 y2 e3 lo4 lo4_0 lo4_1 lo4_2 e5 hm_1
  ·
    refine wR_la rfl l_0 ?_
    refine wR_gr rfl mO_e mO_51 hm ?_
    refine yR_m 1 (fun _ _ _ _ => rfl) ?_
    refine wR_li rfl l_1 ?_
    refine wN_mul (a := 6) (b := (to).toInt) rfl rfl rfl (by omega) (fun x7 e8 => ?_)
    refine wR_li rfl l_3 ?_
    refine wN_add (a := (6 * (to).toInt)) (b := (k).toInt) rfl e8 rfl (by omega) (fun x9 e10 => ?_)
    refine wR_la rfl l_0 ?_
    refine wR_gr rfl mO_e mO_51 hm ?_
    refine yR_m 1 (fun _ _ _ _ => rfl) ?_
    refine wR_li rfl l_2 ?_
    refine wN_mul (a := 6) (b := (fr).toInt) rfl rfl rfl (by omega) (fun x11 e12 => ?_)
    refine wR_li rfl l_3 ?_
    refine wN_add (a := (6 * (fr).toInt)) (b := (k).toInt) rfl e12 rfl (by omega) (fun x13 e14 => ?_)
    refine wN_al (a := ((6 * (fr).toInt) + (k).toInt)) rfl aR_252 hm rfl e14 (by omega) (fun y15 e16 => ?_)
    refine wN_as (a := ((6 * (to).toInt) + (k).toInt)) rfl aR_252 hm e10 (by omega) ?_
    have hm_2 : aTm aT0 (sx mem 252 x9 y15) := tm_sa aR_252 hm (by rw [e16]; exact (by omega))
    refine wN_in (a := (k).toInt) (b := 1) rfl rfl l_3 rfl rfl (by omega) (fun x17 e18 => fun lo19 e20 f21 => ?_)
    have lo19_0 := f21 0 _ (by decide) (Or.inl rfl) l_0
    have lo19_1 := f21 1 _ (by decide) (Or.inl rfl) l_1
    have lo19_2 := f21 2 _ (by decide) (Or.inl rfl) l_2
    exact yR_m 1 (fun _ _ _ _ => rfl) (h2 q1 x7 e8 x9 e10 x11 e12 x13 e14 y15 e16 x17 e18 lo19 lo19_0 lo19_1 lo19_2 e20 hm_2)

set_option maxRecDepth 100000 in
theorem w_cp110 {d : Nat} {mem : zM} {P : Option Value → zM → Prop} {to fr k : Int32} {lo : List (Nat × Value)} (hm : aTm aT0 mem) (l_0 : zlg lo 0 = some (.ref 221)) (l_1 : zlg lo 1 = some (.int to)) (l_2 : zlg lo 2 = some (.int fr)) (l_3 : zlg lo 3 = some (.int k)) (ht : 0 ≤ to.toInt ∧ to.toInt ≤ 21) (hf : 0 ≤ fr.toInt ∧ fr.toInt ≤ 21) (hk : 0 ≤ k.toInt ∧ k.toInt ≤ 120) (hn : 0 ≤ gn (ga mem 253) fr.toInt ∧ gn (ga mem 253) fr.toInt ≤ 40) (h1 : ∀ (y1 : Int32), y1.toInt = (gn (ga mem 253) (fr).toInt) → ∀ (x3 : Int32), x3.toInt = (3 * (gn (ga mem 253) (fr).toInt)) → (3 * (gn (ga mem 253) (fr).toInt)) ≤ (k).toInt → aTm aT0 mem → P none mem) (h2 : ∀ (y1 : Int32), y1.toInt = (gn (ga mem 253) (fr).toInt) → ∀ (x3 : Int32), x3.toInt = (3 * (gn (ga mem 253) (fr).toInt)) → (k).toInt < (3 * (gn (ga mem 253) (fr).toInt)) → ∀ (x6 : Int32), x6.toInt = (120 * (to).toInt) → ∀ (x8 : Int32), x8.toInt = ((120 * (to).toInt) + (k).toInt) → ∀ (x10 : Int32), x10.toInt = (120 * (fr).toInt) → ∀ (x12 : Int32), x12.toInt = ((120 * (fr).toInt) + (k).toInt) → ∀ (y14 : Int32), y14.toInt = (gn (ga mem 254) ((120 * (fr).toInt) + (k).toInt)) → ∀ (x16 : Int32), x16.toInt = ((k).toInt + 1) → ∀ lo, zlg lo 0 = some (.ref 221) → zlg lo 1 = some (.int to) → zlg lo 2 = some (.int fr) → zlg lo 3 = some (.int x16) → aTm aT0 (sx mem 254 x8 y14) → yR zpg tX12_copies d (110, lo, [], (sx mem 254 x8 y14)) P) : yR zpg tX12_copies d (110, lo, [], mem) P := by
  refine wR_li rfl l_3 ?_
  refine yR_m 1 (fun _ _ _ _ => rfl) ?_
  refine wR_la rfl l_0 ?_
  refine wR_gr rfl mO_e mO_52 hm ?_
  refine wR_li rfl l_2 ?_
  refine wN_al (a := (fr).toInt) rfl aR_253 hm rfl rfl (by omega) (fun y1 e2 => ?_)
  refine wN_mul (a := 3) (b := (gn (ga mem 253) (fr).toInt)) rfl rfl e2 (by omega) (fun x3 e4 => ?_)
  refine wR_ic_ge rfl (a := (k).toInt) (c := (3 * (gn (ga mem 253) (fr).toInt))) rfl e4 (fun q5 => ?_) (fun q5 => ?_)
  ·
    exact yR_rv rfl (h1 y1 e2 x3 e4 q5 hm)
  ·
    refine wR_la rfl l_0 ?_
    refine wR_gr rfl mO_e mO_53 hm ?_
    refine yR_m 1 (fun _ _ _ _ => rfl) ?_
    refine wR_li rfl l_1 ?_
    refine wN_mul (a := 120) (b := (to).toInt) rfl rfl rfl (by omega) (fun x6 e7 => ?_)
    refine wR_li rfl l_3 ?_
    refine wN_add (a := (120 * (to).toInt)) (b := (k).toInt) rfl e7 rfl (by omega) (fun x8 e9 => ?_)
    refine wR_la rfl l_0 ?_
    refine wR_gr rfl mO_e mO_53 hm ?_
    refine yR_m 1 (fun _ _ _ _ => rfl) ?_
    refine wR_li rfl l_2 ?_
    refine wN_mul (a := 120) (b := (fr).toInt) rfl rfl rfl (by omega) (fun x10 e11 => ?_)
    refine wR_li rfl l_3 ?_
    refine wN_add (a := (120 * (fr).toInt)) (b := (k).toInt) rfl e11 rfl (by omega) (fun x12 e13 => ?_)
    refine wN_al (a := ((120 * (fr).toInt) + (k).toInt)) rfl aR_254 hm rfl e13 (by omega) (fun y14 e15 => ?_)
    refine wN_as (a := ((120 * (to).toInt) + (k).toInt)) rfl aR_254 hm e9 (by omega) ?_
    have hm_1 : aTm aT0 (sx mem 254 x8 y14) := tm_sa aR_254 hm (i32_b _)
    refine wN_in (a := (k).toInt) (b := 1) rfl rfl l_3 rfl rfl (by omega) (fun x16 e17 => fun lo18 e19 f20 => ?_)
    have lo18_0 := f20 0 _ (by decide) (Or.inl rfl) l_0
    have lo18_1 := f20 1 _ (by decide) (Or.inl rfl) l_1
    have lo18_2 := f20 2 _ (by decide) (Or.inl rfl) l_2
    exact yR_m 1 (fun _ _ _ _ => rfl) (h2 y1 e2 x3 e4 q5 x6 e7 x8 e9 x10 e11 x12 e13 y14 e15 x16 e17 lo18 lo18_0 lo18_1 lo18_2 e19 hm_1)

section CPB
variable {to fr : Int32} {a : zM}
theorem cp_c (ht : 0 ≤ to.toInt ∧ to.toInt ≤ 21) (hf : 0 ≤ fr.toInt ∧ fr.toInt ≤ 21) (tf : ¬ fr.toInt = to.toInt) (hn : 0 ≤ gn (ga a 253) fr.toInt ∧ gn (ga a 253) fr.toInt ≤ 40) : ∀ (f : Nat) (k : Int32) (mem : zM) (lo : List (Nat × Value)), k.toInt + (f : Int) = 3 * gn (ga a 253) fr.toInt → 0 ≤ k.toInt → onl [249, 250, 251, 252, 253, 254] a mem → cpH to.toInt fr.toInt a mem → cpI (ga mem 254) (ga a 254) (120 * to.toInt) (120 * fr.toInt) k.toInt → zlg lo 0 = some (.ref 221) → zlg lo 1 = some (.int to) → zlg lo 2 = some (.int fr) → zlg lo 3 = some (.int k) → aTm aT0 mem → yR zpg tX12_copies d (110, lo, [], mem) (fun r m => r = none ∧ aTm aT0 m ∧ (onl [249, 250, 251, 252, 253, 254] a m ∧ cpD to.toInt fr.toInt a m)) := by
  intro f
  induction f with
  | zero =>
    intro k mem lo hk k0 ho hH hI l0 l1 l2 l3 hm
    have g3 := hH.2.2.2.2 fr.toInt hf.1
    rw [if_neg tf] at g3
    exact w_cp110 hm l0 l1 l2 l3 ht hf ⟨k0, by omega⟩ (by omega) 
        (fun y1 e2 x3 e4 q5 hm2 => ⟨rfl, hm2, ho, hH, by rw [show k.toInt = 3 * gn (ga a 253) fr.toInt by omega] at hI; exact hI⟩)
        (fun y1 e2 x3 e4 q5 x6 e7 x8 e9 x10 e11 x12 e13 y14 e15 x16 e17 lo a0 a1 a2 a3 hm2 => by exfalso; omega)
  | succ f ih =>
    intro k mem lo hk k0 ho hH hI l0 l1 l2 l3 hm
    have g3 := hH.2.2.2.2 fr.toInt hf.1
    rw [if_neg tf] at g3
    have t4 := (ga_ty aR_254 hm).2.1
    exact w_cp110 hm l0 l1 l2 l3 ht hf ⟨k0, by omega⟩ (by omega) 
        (fun y1 e2 x3 e4 q5 hm2 => by exfalso; omega)
        (fun y1 e2 x3 e4 q5 x6 e7 x8 e9 x10 e11 x12 e13 y14 e15 x16 e17 lo a0 a1 a2 a3 hm2 => by
          refine ih _ _ lo (by omega) (by omega) (onl_sa rfl ho) (cpH_q (ga_sa_ne (by decide)) (ga_sa_ne (by decide)) (ga_sa_ne (by decide)) (ga_sa_ne (by decide)) (ga_sa_ne (by decide)) hH) ?_ a0 a1 a2 a3 hm2
          rw [ga_sa_eq]
          exact cpI_s e9 (by omega) (by omega) k0 (by rw [t4]; omega) e15 (by omega) e17 hI)
theorem cp_b (ht : 0 ≤ to.toInt ∧ to.toInt ≤ 21) (hf : 0 ≤ fr.toInt ∧ fr.toInt ≤ 21) (tf : ¬ fr.toInt = to.toInt) (hn : 0 ≤ gn (ga a 253) fr.toInt ∧ gn (ga a 253) fr.toInt ≤ 40) : ∀ (f : Nat) (k : Int32) (mem : zM) (lo : List (Nat × Value)), k.toInt + (f : Int) = 6 → 0 ≤ k.toInt → onl [249, 250, 251, 252] a mem → cpU 249 to.toInt fr.toInt a mem → cpU 250 to.toInt fr.toInt a mem → cpI (ga mem 251) (ga a 251) (9 * to.toInt) (9 * fr.toInt) 9 → cpI (ga mem 252) (ga a 252) (6 * to.toInt) (6 * fr.toInt) k.toInt → zlg lo 0 = some (.ref 221) → zlg lo 1 = some (.int to) → zlg lo 2 = some (.int fr) → zlg lo 3 = some (.int k) → aTm aT0 mem → yR zpg tX12_copies d (62, lo, [], mem) (fun r m => r = none ∧ aTm aT0 m ∧ (onl [249, 250, 251, 252, 253, 254] a m ∧ cpD to.toInt fr.toInt a m)) := by
  intro f
  induction f with
  | zero =>
    intro k mem lo hk k0 ho h9 h0 h1 hI l0 l1 l2 l3 hm
    have t3 := (ga_ty aR_253 hm).2.1
    have kn : k.toInt = 6 := by omega
    rw [kn] at hI
    exact w_cp62 hm l0 l1 l2 l3 ht hf ⟨k0, by omega⟩ 
        (fun q1 y2 e3 lo a0 a1 a2 a3 hm2 => by
          have z3 : ga mem 253 = ga a 253 := onl_ga ho rfl
          have z4 : ga mem 254 = ga a 254 := onl_ga ho rfl
          refine cp_c ht hf tf hn (3 * gn (ga a 253) fr.toInt).toNat 0 _ lo (by show (0 : Int) + _ = _; omega) (by decide) (onl_sa rfl (onl_up ho rfl)) ⟨cpU_q (ga_sa_ne (by decide)) h9, cpU_q (ga_sa_ne (by decide)) h0, by rw [ga_sa_ne (by decide)]; exact h1, by rw [ga_sa_ne (by decide)]; exact hI, cpU_s ga_sa_eq z3 t3 ht e3⟩ (by rw [ga_sa_ne (by decide), z4]; exact cpI_z) a0 a1 a2 a3 hm2)
        (fun q1 x7 e8 x9 e10 x11 e12 x13 e14 y15 e16 x17 e18 lo a0 a1 a2 a3 hm2 => by exfalso; omega)
  | succ f ih =>
    intro k mem lo hk k0 ho h9 h0 h1 hI l0 l1 l2 l3 hm
    have t4 := (ga_ty aR_252 hm).2.1
    exact w_cp62 hm l0 l1 l2 l3 ht hf ⟨k0, by omega⟩ 
        (fun q1 y2 e3 lo a0 a1 a2 a3 hm2 => by exfalso; omega)
        (fun q1 x7 e8 x9 e10 x11 e12 x13 e14 y15 e16 x17 e18 lo a0 a1 a2 a3 hm2 => by
          refine ih _ _ lo (by omega) (by omega) (onl_sa rfl ho) (cpU_q (ga_sa_ne (by decide)) h9) (cpU_q (ga_sa_ne (by decide)) h0) (by rw [ga_sa_ne (by decide)]; exact h1) ?_ a0 a1 a2 a3 hm2
          rw [ga_sa_eq]
          exact cpI_s e10 (by omega) (by omega) k0 (by rw [t4]; omega) e16 (by omega) e18 hI)
theorem cp_a (ht : 0 ≤ to.toInt ∧ to.toInt ≤ 21) (hf : 0 ≤ fr.toInt ∧ fr.toInt ≤ 21) (tf : ¬ fr.toInt = to.toInt) (hn : 0 ≤ gn (ga a 253) fr.toInt ∧ gn (ga a 253) fr.toInt ≤ 40) : ∀ (f : Nat) (k : Int32) (mem : zM) (lo : List (Nat × Value)), k.toInt + (f : Int) = 9 → 0 ≤ k.toInt → onl [249, 250, 251] a mem → cpU 249 to.toInt fr.toInt a mem → cpU 250 to.toInt fr.toInt a mem → cpI (ga mem 251) (ga a 251) (9 * to.toInt) (9 * fr.toInt) k.toInt → zlg lo 0 = some (.ref 221) → zlg lo 1 = some (.int to) → zlg lo 2 = some (.int fr) → zlg lo 3 = some (.int k) → aTm aT0 mem → yR zpg tX12_copies d (26, lo, [], mem) (fun r m => r = none ∧ aTm aT0 m ∧ (onl [249, 250, 251, 252, 253, 254] a m ∧ cpD to.toInt fr.toInt a m)) := by
  intro f
  induction f with
  | zero =>
    intro k mem lo hk k0 ho h9 h0 hI l0 l1 l2 l3 hm
    have kn : k.toInt = 9 := by omega
    rw [kn] at hI
    exact w_cp26 hm l0 l1 l2 l3 ht hf ⟨k0, by omega⟩ 
        (fun q1 lo a0 a1 a2 a3 hm2 => cp_b ht hf tf hn 6 0 mem lo (by decide) (by decide) (onl_up ho rfl) h9 h0 hI (by rw [onl_ga ho rfl]; exact cpI_z) a0 a1 a2 a3 hm2)
        (fun q1 x5 e6 x7 e8 x9 e10 x11 e12 y13 e14 x15 e16 lo a0 a1 a2 a3 hm2 => by exfalso; omega)
  | succ f ih =>
    intro k mem lo hk k0 ho h9 h0 hI l0 l1 l2 l3 hm
    have t4 := (ga_ty aR_251 hm).2.1
    exact w_cp26 hm l0 l1 l2 l3 ht hf ⟨k0, by omega⟩ 
        (fun q1 lo a0 a1 a2 a3 hm2 => by exfalso; omega)
        (fun q1 x5 e6 x7 e8 x9 e10 x11 e12 y13 e14 x15 e16 lo a0 a1 a2 a3 hm2 => by
          refine ih _ _ lo (by omega) (by omega) (onl_sa rfl ho) (cpU_q (ga_sa_ne (by decide)) h9) (cpU_q (ga_sa_ne (by decide)) h0) ?_ a0 a1 a2 a3 hm2
          rw [ga_sa_eq]
          exact cpI_s e8 (by omega) (by omega) k0 (by rw [t4]; omega) e14 (by omega) e16 hI)
theorem h_cp (hm : aTm aT0 mem) (ht : 0 ≤ to.toInt ∧ to.toInt ≤ 21) (hf : 0 ≤ fr.toInt ∧ fr.toInt ≤ 21) (tf : ¬ fr.toInt = to.toInt) (hn : 0 ≤ gn (ga mem 253) fr.toInt ∧ gn (ga mem 253) fr.toInt ≤ 40) (hd : 1 ≤ d) : yC zpg d 210 [.ref 221, .int to, .int fr] mem (fun r m => r = none ∧ aTm aT0 m ∧ (onl [249, 250, 251, 252, 253, 254] mem m ∧ cpD to.toInt fr.toInt mem m)) := by
  obtain ⟨d, rfl⟩ : ∃ q, d = q + 1 := ⟨d - 1, by omega⟩
  have t9 := (ga_ty aR_249 hm).2.1
  have t0 := (ga_ty aR_250 hm).2.1
  refine yC_of (t := tX12_copies) rfl rfl ?_
  exact w_cp0 hm rfl rfl rfl ht hf 
        (fun y1 e2 y3 e4 lo a0 a1 a2 a3 hm2 => cp_a ht hf tf hn 9 0 _ lo (by decide) (by decide) (onl_sa rfl (onl_sa rfl onl_rf)) (cpU_s (m := mem) ((ga_sa_ne (by decide)).trans ga_sa_eq) rfl t9 ht e2) (cpU_s (m := mem) (ga_sa_eq.trans (congrArg (fun l => List.set l to.toNatClampNeg y3) (ga_sa_ne (by decide)))) rfl t0 ht e4) (by rw [ga_sa_ne (by decide), ga_sa_ne (by decide)]; exact cpI_z) a0 a1 a2 a3 hm2)
end CPB
end CPA
