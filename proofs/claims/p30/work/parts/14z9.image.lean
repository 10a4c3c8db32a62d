/-! image of both sides: how many bytes -/
section IM
variable {d : Nat} {mem m : zM} {Y Z : Qd} {T F : Int}
set_option maxRecDepth 100000 in
theorem aR_219 : aat aT0 219 = some (.inl (false, 0, 33, .inl (-2147483648, 2147483647))) := rfl
theorem gR_219 {m : zM} (hm : aTm aT0 m) {i : Int} (h0 : 0 ≤ i) (h1 : i < 33) : -2147483648 ≤ gn (ga m 219) i ∧ gn (ga m 219) i ≤ 2147483647 := gn_rg aR_219 hm h0 h1
theorem gl_219 {m : zM} (hm : aTm aT0 m) : (ga m 219).length = 33 := (ga_ty aR_219 hm).2.1
set_option maxRecDepth 100000 in
theorem w_ci_6 {d : Nat} {mem : zM} {P : Option Value → zM → Prop} {n c k : Int32} {lo : List (Nat × Value)} (hm : aTm aT0 mem) (l_0 : zlg lo 0 = some (.ref 219)) (l_1 : zlg lo 1 = some (.int n)) (l_2 : zlg lo 2 = some (.int c)) (l_3 : zlg lo 3 = some (.int k)) (hk : 0 ≤ k.toInt ∧ k.toInt ≤ 33) (h1 : (n).toInt ≤ (k).toInt → aTm aT0 mem → P (some (.int c)) mem) (h2 : (k).toInt < (n).toInt → 33 ≤ (k).toInt → aTm aT0 mem → P (some (.int c)) mem) (h3 : (k).toInt < (n).toInt → (k).toInt < 33 → ∀ (y3 : Int32), y3.toInt = (gn (ga mem 219) (k).toInt) → ∀ (x8 : Int32), x8.toInt = ((k).toInt + 1) → ∀ lo, zlg lo 0 = some (.ref 219) → zlg lo 1 = some (.int n) → zlg lo 2 = some (.int (((5 * c) + y3) - ((5 * c) + y3) / 251 * 251)) → zlg lo 3 = some (.int x8) → aTm aT0 mem → yR zpg tX11_checkOf d (6, lo, [], mem) P) : yR zpg tX11_checkOf d (6, lo, [], mem) P := by
  refine wR_li rfl l_3 ?_
  refine wR_li rfl l_1 ?_
  refine wR_ic_ge rfl (a := (k).toInt) (c := (n).toInt) rfl rfl (fun q1 => ?_) (fun q1 => ?_)
  ·
    refine wR_li rfl l_2 ?_
    exact yR_ri rfl (h1 q1 hm)
  ·
    refine wR_li rfl l_3 ?_
    refine wR_la rfl l_0 ?_
    refine wR_le (x := 33) rfl aR_219 hm rfl ?_
    refine wR_ic_ge rfl (a := (k).toInt) (c := 33) rfl rfl (fun q2 => ?_) (fun q2 => ?_)
    ·
      refine wR_li rfl l_2 ?_
      exact yR_ri rfl (h2 q1 q2 hm)
    ·
      refine yR_m 1 (fun _ _ _ _ => rfl) ?_
      refine wR_li rfl l_2 ?_
      refine yR_m 1 (fun _ _ _ _ => rfl) ?_
      refine wR_la rfl l_0 ?_
      refine wR_li rfl l_3 ?_
      refine wN_al (a := (k).toInt) rfl aR_219 hm rfl rfl (by omega) (fun y3 e4 => ?_)
      refine yR_m 3 (fun _ _ _ _ => rfl) ?_
      refine wR_si rfl rfl (fun lo5 e6 f7 => ?_)
      have lo5_0 := f7 0 _ (by decide) (Or.inl rfl) l_0
      have lo5_1 := f7 1 _ (by decide) (Or.inl rfl) l_1
      have lo5_3 := f7 3 _ (by decide) (Or.inl rfl) l_3
      refine wN_in (a := (k).toInt) (b := 1) rfl rfl lo5_3 rfl rfl (by omega) (fun x8 e9 => fun lo10 e11 f12 => ?_)
      have lo10_2 := f12 2 _ (by decide) (Or.inl rfl) e6
      have lo10_0 := f12 0 _ (by decide) (Or.inl rfl) lo5_0
      have lo10_1 := f12 1 _ (by decide) (Or.inl rfl) lo5_1
      exact yR_m 1 (fun _ _ _ _ => rfl) (h3 q1 q2 y3 e4 x8 e9 lo10 lo10_0 lo10_1 lo10_2 e11 hm)

theorem ci_6 {n : Int32} (hm : aTm aT0 mem) : ∀ (f : Nat) (c k : Int32) (lo : List (Nat × Value)), k.toInt + (f : Int) = 33 → 0 ≤ k.toInt → zlg lo 0 = some (.ref 219) → zlg lo 1 = some (.int n) → zlg lo 2 = some (.int c) → zlg lo 3 = some (.int k) → yR zpg tX11_checkOf d (6, lo, [], mem) (fun r m => ∃ v : Int32, r = some (.int v) ∧ mem = m ∧ True) := by
  intro f
  induction f with
  | zero =>
    intro c k lo hf h0 a0 a1 a2 a3
    exact w_ci_6 hm a0 a1 a2 a3 ⟨h0, by omega⟩
        (fun q1 hm2 => ⟨_, rfl, rfl, trivial⟩)
        (fun q1 q2 hm2 => ⟨_, rfl, rfl, trivial⟩)
        (fun q1 q2 y3 e4 x8 e9 lo a0 a1 a2 a3 hm2 => by exfalso; omega)
  | succ f ih =>
    intro c k lo hf h0 a0 a1 a2 a3
    exact w_ci_6 hm a0 a1 a2 a3 ⟨h0, by omega⟩
        (fun q1 hm2 => ⟨_, rfl, rfl, trivial⟩)
        (fun q1 q2 hm2 => ⟨_, rfl, rfl, trivial⟩)
        (fun q1 q2 y3 e4 x8 e9 lo a0 a1 a2 a3 hm2 => ih _ _ lo (by omega) (by omega) a0 a1 a2 a3)
set_option maxRecDepth 100000 in
theorem w_ci_0 {d : Nat} {mem : zM} {P : Option Value → zM → Prop} {n : Int32} {lo : List (Nat × Value)} (hm : aTm aT0 mem) (l_0 : zlg lo 0 = some (.ref 219)) (l_1 : zlg lo 1 = some (.int n)) (h1 : ∀ lo, zlg lo 0 = some (.ref 219) → zlg lo 1 = some (.int n) → zlg lo 2 = some (.int 241) → zlg lo 3 = some (.int 0) → aTm aT0 mem → yR zpg tX11_checkOf d (6, lo, [], mem) P) : yR zpg tX11_checkOf d (0, lo, [], mem) P := by
  refine yR_m 1 (fun _ _ _ _ => rfl) ?_
  refine wR_si rfl rfl (fun lo1 e2 f3 => ?_)
  have lo1_0 := f3 0 _ (by decide) (Or.inl rfl) l_0
  have lo1_1 := f3 1 _ (by decide) (Or.inl rfl) l_1
  refine yR_m 1 (fun _ _ _ _ => rfl) ?_
  refine wR_si rfl rfl (fun lo4 e5 f6 => ?_)
  have lo4_2 := f6 2 _ (by decide) (Or.inl rfl) e2
  have lo4_0 := f6 0 _ (by decide) (Or.inl rfl) lo1_0
  have lo4_1 := f6 1 _ (by decide) (Or.inl rfl) lo1_1
  exact h1 lo4 lo4_0 lo4_1 lo4_2 e5 hm

theorem h_chkI {n : Int32} (hm : aTm aT0 mem) (hd : 1 ≤ d) : yC zpg d 158 [.ref 219, .int n] mem (fun r m => ∃ v : Int32, r = some (.int v) ∧ mem = m ∧ True) := by
  obtain ⟨d, rfl⟩ : ∃ q, d = q + 1 := ⟨d - 1, by omega⟩
  refine yC_of (t := tX11_checkOf) rfl rfl ?_
  exact w_ci_0 hm rfl rfl
        (fun  lo a0 a1 a2 a3 hm2 => ci_6 hm2 33 _ _ lo (by decide) (by decide) a0 a1 a2 a3)
set_option maxRecDepth 100000 in
theorem w_jm136 {d : Nat} {mem : zM} {P : Option Value → zM → Prop} {c k : Int32} {lo : List (Nat × Value)} (hm : aTm aT0 mem) (l_0 : zlg lo 0 = some (.ref 221)) (l_1 : zlg lo 1 = some (.int c)) (l_2 : zlg lo 2 = some (.int k)) (hk : 0 ≤ k.toInt ∧ k.toInt ≤ 32) (hz : 0 ≤ (gi mem 221 72).toInt ∧ (gi mem 221 72).toInt ≤ 32) (h1 : (gi mem 221 72).toInt ≤ (k).toInt → ∀ (x2 : Int32), x2.toInt = ((gi mem 221 72).toInt + 1) → aTm aT0 (si (sx mem 268 (gi mem 221 72) (c &&& 255)) 221 72 x2) → P (some (.int x2)) (si (sx mem 268 (gi mem 221 72) (c &&& 255)) 221 72 x2)) (h2 : (k).toInt < (gi mem 221 72).toInt → ∀ (y4 : Int32), y4.toInt = (gn (ga mem 268) (k).toInt) → ∀ (x9 : Int32), x9.toInt = ((k).toInt + 1) → ∀ lo, zlg lo 0 = some (.ref 221) → zlg lo 1 = some (.int (((5 * c) + y4) - ((5 * c) + y4) / 251 * 251)) → zlg lo 2 = some (.int x9) → aTm aT0 mem → yR zpg tX12_image (d + 2) (136, lo, [], mem) P) : yR zpg tX12_image (d + 2) (136, lo, [], mem) P := by
  have rb := mO_r13 hm
  have th := gR_228 hm (i := (gi mem 221 13).toInt) rb.1 (by omega)
  have fki := gR_233 hm (i := (gi mem 221 13).toInt) rb.1 (by omega)
  refine wR_li rfl l_2 ?_
  refine wR_la rfl l_0 ?_
  refine wR_gi rfl mO_e mO_72 hm rfl ?_
  refine wR_ic_ge rfl (a := (k).toInt) (c := (gi mem 221 72).toInt) rfl rfl (fun q1 => ?_) (fun q1 => ?_)
  ·
    refine wR_la rfl l_0 ?_
    refine wR_li rfl l_1 ?_
    refine wR_iv rfl rfl mO_e hm rfl rfl rfl rfl ?_
    show yR zpg tX12_writes (d + 1) (0, [(0, .ref 221), (1, .int c)], [], mem) _
    refine yR_m 1 (fun _ _ _ _ => rfl) ?_
    refine wR_gr rfl mO_e mO_71 hm ?_
    refine yR_m 1 (fun _ _ _ _ => rfl) ?_
    refine wR_gi rfl mO_e mO_72 hm rfl ?_
    refine yR_m 3 (fun _ _ _ _ => rfl) ?_
    refine wN_as (a := (gi mem 221 72).toInt) rfl aR_268 hm rfl (by omega) ?_
    have hm_1 : aTm aT0 (sx mem 268 (gi mem 221 72) (c &&& 255)) := tm_sa aR_268 hm (i32_b _)
    refine yR_m 2 (fun _ _ _ _ => rfl) ?_
    refine wR_gi rfl mO_e mO_72 hm_1 (gi_sa) ?_
    refine yR_m 1 (fun _ _ _ _ => rfl) ?_
    refine wN_add (a := (gi mem 221 72).toInt) (b := 1) rfl rfl rfl (by omega) (fun x2 e3 => ?_)
    refine wR_pi rfl mO_e mO_72 hm_1 rfl ?_
    have hm_2 : aTm aT0 (si (sx mem 268 (gi mem 221 72) (c &&& 255)) 221 72 x2) := tm_si mO_e mO_72 hm_1 (by rw [e3]; exact (by omega))
    refine yR_rv rfl ?_
    show yR zpg tX12_image (d + 2) (170, lo, [], (si (sx mem 268 (gi mem 221 72) (c &&& 255)) 221 72 x2)) _
    refine wR_la rfl l_0 ?_
    refine wR_gi rfl mO_e mO_72 hm_2 (gi_si_eq mO_e mO_72 hm_1) ?_
    exact yR_ri rfl (h1 q1 x2 e3 hm_2)
  ·
    refine yR_m 1 (fun _ _ _ _ => rfl) ?_
    refine wR_li rfl l_1 ?_
    refine yR_m 1 (fun _ _ _ _ => rfl) ?_
    refine wR_la rfl l_0 ?_
    refine wR_gr rfl mO_e mO_71 hm ?_
    refine wR_li rfl l_2 ?_
    refine wN_al (a := (k).toInt) rfl aR_268 hm rfl rfl (by omega) (fun y4 e5 => ?_)
    refine yR_m 3 (fun _ _ _ _ => rfl) ?_
    refine wR_si rfl rfl (fun lo6 e7 f8 => ?_)
    have lo6_0 := f8 0 _ (by decide) (Or.inl rfl) l_0
    have lo6_2 := f8 2 _ (by decide) (Or.inl rfl) l_2
    refine wN_in (a := (k).toInt) (b := 1) rfl rfl lo6_2 rfl rfl (by omega) (fun x9 e10 => fun lo11 e12 f13 => ?_)
    have lo11_1 := f13 1 _ (by decide) (Or.inl rfl) e7
    have lo11_0 := f13 0 _ (by decide) (Or.inl rfl) lo6_0
    exact yR_m 1 (fun _ _ _ _ => rfl) (h2 q1 y4 e5 x9 e10 lo11 lo11_0 lo11_1 e12 hm)

theorem jm136 {O : Int} (hm : aTm aT0 mem) (hO : (gi mem 221 72).toInt = O) (o2 : 0 ≤ O ∧ O ≤ 32) : ∀ (f : Nat) (c k : Int32) (lo : List (Nat × Value)), O ≤ k.toInt + (f : Int) → 0 ≤ k.toInt → k.toInt ≤ O → zlg lo 0 = some (.ref 221) → zlg lo 1 = some (.int c) → zlg lo 2 = some (.int k) → yR zpg tX12_image (d + 2) (136, lo, [], mem) (fun r _ => ∃ v : Int32, r = some (.int v) ∧ v.toInt = O + 1) := by
  intro f
  induction f with
  | zero =>
    intro c k lo hf h0 h1 a0 a1 a2
    exact w_jm136 hm a0 a1 a2 (by omega) (by omega)
        (fun q1 x2 e3 hm2 => ⟨_, rfl, by omega⟩)
        (fun q1 y4 e5 x9 e10 lo a0 a1 a2 hm2 => by exfalso; omega)
  | succ f ih =>
    intro c k lo hf h0 h1 a0 a1 a2
    exact w_jm136 hm a0 a1 a2 (by omega) (by omega)
        (fun q1 x2 e3 hm2 => ⟨_, rfl, by omega⟩)
        (fun q1 y4 e5 x9 e10 lo a0 a1 a2 hm2 => ih _ _ lo (by omega) (by omega) (by omega) a0 a1 a2)
set_option maxRecDepth 100000 in
theorem w_jm83 {d : Nat} {mem : zM} {P : Option Value → zM → Prop} {t : Int32} {lo : List (Nat × Value)} (hm : aTm aT0 mem) (l_0 : zlg lo 0 = some (.ref 221)) (l_1 : zlg lo 1 = some (.int t)) (ht : 0 ≤ t.toInt ∧ t.toInt ≤ 6) (hz : (gi mem 221 72).toInt = 2 + 2 * gn (ga mem 228) (gi mem 221 13).toInt + 2 * t.toInt) (h1 : ∀ (y1 : Int32), y1.toInt = (gn (ga mem 233) (gi mem 221 13).toInt) → (gn (ga mem 233) (gi mem 221 13).toInt) ≤ (t).toInt → ∀ lo, zlg lo 0 = some (.ref 221) → zlg lo 1 = some (.int 241) → zlg lo 2 = some (.int 0) → aTm aT0 mem → yR zpg tX12_image (d + 2) (136, lo, [], mem) P) (h2 : ∀ (y1 : Int32), y1.toInt = (gn (ga mem 233) (gi mem 221 13).toInt) → (t).toInt < (gn (ga mem 233) (gi mem 221 13).toInt) → ∀ (y10 : Int32), y10.toInt = (gn (ga mem 252) (t).toInt) → ∀ (x12 : Int32), x12.toInt = ((gi mem 221 72).toInt + 1) → ∀ (y14 : Int32), y14.toInt = (gn (ga mem 252) (t).toInt) → ∀ (x16 : Int32), x16.toInt = (((gi mem 221 72).toInt + 1) + 1) → ∀ (x18 : Int32), x18.toInt = ((t).toInt + 1) → ∀ lo, zlg lo 0 = some (.ref 221) → zlg lo 1 = some (.int x18) → aTm aT0 (si (sx (si (sx mem 268 (gi mem 221 72) ((y10 - y10 / 8 * 8) &&& 255)) 221 72 x12) 268 x12 ((y14 / 8) &&& 255)) 221 72 x16) → yR zpg tX12_image (d + 2) (83, lo, [], (si (sx (si (sx mem 268 (gi mem 221 72) ((y10 - y10 / 8 * 8) &&& 255)) 221 72 x12) 268 x12 ((y14 / 8) &&& 255)) 221 72 x16)) P) : yR zpg tX12_image (d + 2) (83, lo, [], mem) P := by
  have rb := mO_r13 hm
  have th := gR_228 hm (i := (gi mem 221 13).toInt) rb.1 (by omega)
  have fki := gR_233 hm (i := (gi mem 221 13).toInt) rb.1 (by omega)
  refine wR_li rfl l_1 ?_
  refine wR_la rfl l_0 ?_
  refine wR_gr rfl mO_e mO_24 hm ?_
  refine wR_la rfl l_0 ?_
  refine wR_gi rfl mO_e mO_13 hm rfl ?_
  refine wN_al (a := (gi mem 221 13).toInt) rfl aR_233 hm rfl rfl (by omega) (fun y1 e2 => ?_)
  refine wR_ic_ge rfl (a := (t).toInt) (c := (gn (ga mem 233) (gi mem 221 13).toInt)) rfl e2 (fun q3 => ?_) (fun q3 => ?_)
  ·
    refine yR_m 1 (fun _ _ _ _ => rfl) ?_
    refine wR_si rfl rfl (fun lo4 e5 f6 => ?_)
    have lo4_0 := f6 0 _ (by decide) (Or.inl rfl) l_0
    refine yR_m 1 (fun _ _ _ _ => rfl) ?_
    refine wR_si rfl rfl (fun lo7 e8 f9 => ?_)
    have lo7_1 := f9 1 _ (by decide) (Or.inl rfl) e5
    have lo7_0 := f9 0 _ (by decide) (Or.inl rfl) lo4_0
    exact h1 y1 e2 q3 lo7 lo7_0 lo7_1 e8 hm
  ·
    refine wR_la rfl l_0 ?_
    refine wR_la rfl l_0 ?_
    refine wR_gr rfl mO_e mO_51 hm ?_
    refine wR_li rfl l_1 ?_
    refine wN_al (a := (t).toInt) rfl aR_252 hm rfl rfl (by omega) (fun y10 e11 => ?_)
    refine yR_m 1 (fun _ _ _ _ => rfl) ?_
    refine wR_is rfl rfl rfl rfl rfl rfl ?_
    show yR zpg tX12_partOf (d + 1) (0, [(0, .int y10), (1, .int 0)], [], mem) _
    refine yR_m 1 (fun _ _ _ _ => rfl) ?_
    refine wR_if_ne rfl (a := 0) rfl (fun q => by exfalso; omega) (fun _ => ?_)
    refine yR_m 4 (fun _ _ _ _ => rfl) ?_
    refine yR_ri rfl ?_
    show yR zpg tX12_image (d + 2) (107, lo, [.int (y10 - y10 / 8 * 8), .ref 221], mem) _
    refine wR_iv rfl rfl mO_e hm rfl rfl rfl rfl ?_
    show yR zpg tX12_writes (d + 1) (0, [(0, .ref 221), (1, .int (y10 - y10 / 8 * 8))], [], mem) _
    refine yR_m 1 (fun _ _ _ _ => rfl) ?_
    refine wR_gr rfl mO_e mO_71 hm ?_
    refine yR_m 1 (fun _ _ _ _ => rfl) ?_
    refine wR_gi rfl mO_e mO_72 hm rfl ?_
    refine yR_m 3 (fun _ _ _ _ => rfl) ?_
    refine wN_as (a := (gi mem 221 72).toInt) rfl aR_268 hm rfl (by omega) ?_
    have hm_1 : aTm aT0 (sx mem 268 (gi mem 221 72) ((y10 - y10 / 8 * 8) &&& 255)) := tm_sa aR_268 hm (i32_b _)
    refine yR_m 2 (fun _ _ _ _ => rfl) ?_
    refine wR_gi rfl mO_e mO_72 hm_1 (gi_sa) ?_
    refine yR_m 1 (fun _ _ _ _ => rfl) ?_
    refine wN_add (a := (gi mem 221 72).toInt) (b := 1) rfl rfl rfl (by omega) (fun x12 e13 => ?_)
    refine wR_pi rfl mO_e mO_72 hm_1 rfl ?_
    have hm_2 : aTm aT0 (si (sx mem 268 (gi mem 221 72) ((y10 - y10 / 8 * 8) &&& 255)) 221 72 x12) := tm_si mO_e mO_72 hm_1 (by rw [e13]; exact (by omega))
    refine yR_rv rfl ?_
    show yR zpg tX12_image (d + 2) (110, lo, [], (si (sx mem 268 (gi mem 221 72) ((y10 - y10 / 8 * 8) &&& 255)) 221 72 x12)) _
    refine wR_la rfl l_0 ?_
    refine wR_la rfl l_0 ?_
    refine wR_gr rfl mO_e mO_51 hm_2 ?_
    refine wR_li rfl l_1 ?_
    refine wN_al (a := (t).toInt) rfl aR_252 hm_2 ((ga_sv).trans (ga_sa_ne (by decide))) rfl (by omega) (fun y14 e15 => ?_)
    refine yR_m 1 (fun _ _ _ _ => rfl) ?_
    refine wR_is rfl rfl rfl rfl rfl rfl ?_
    show yR zpg tX12_partOf (d + 1) (0, [(0, .int y14), (1, .int 1)], [], (si (sx mem 268 (gi mem 221 72) ((y10 - y10 / 8 * 8) &&& 255)) 221 72 x12)) _
    refine yR_m 1 (fun _ _ _ _ => rfl) ?_
    refine wR_if_ne rfl (a := 1) rfl (fun _ => ?_) (fun q => by exfalso; omega)
    refine yR_m 3 (fun _ _ _ _ => rfl) ?_
    refine yR_ri rfl ?_
    show yR zpg tX12_image (d + 2) (121, lo, [.int (y14 / 8), .ref 221], (si (sx mem 268 (gi mem 221 72) ((y10 - y10 / 8 * 8) &&& 255)) 221 72 x12)) _
    refine wR_iv rfl rfl mO_e hm_2 rfl rfl rfl rfl ?_
    show yR zpg tX12_writes (d + 1) (0, [(0, .ref 221), (1, .int (y14 / 8))], [], (si (sx mem 268 (gi mem 221 72) ((y10 - y10 / 8 * 8) &&& 255)) 221 72 x12)) _
    refine yR_m 1 (fun _ _ _ _ => rfl) ?_
    refine wR_gr rfl mO_e mO_71 hm_2 ?_
    refine yR_m 1 (fun _ _ _ _ => rfl) ?_
    refine wR_gi rfl mO_e mO_72 hm_2 (gi_si_eq mO_e mO_72 hm_1) ?_
    refine yR_m 3 (fun _ _ _ _ => rfl) ?_
    refine wN_as (a := ((gi mem 221 72).toInt + 1)) rfl aR_268 hm_2 e13 (by omega) ?_
    have hm_3 : aTm aT0 (sx (si (sx mem 268 (gi mem 221 72) ((y10 - y10 / 8 * 8) &&& 255)) 221 72 x12) 268 x12 ((y14 / 8) &&& 255)) := tm_sa aR_268 hm_2 (i32_b _)
    refine yR_m 2 (fun _ _ _ _ => rfl) ?_
    refine wR_gi rfl mO_e mO_72 hm_3 ((gi_sa).trans (gi_si_eq mO_e mO_72 hm_1)) ?_
    refine yR_m 1 (fun _ _ _ _ => rfl) ?_
    refine wN_add (a := ((gi mem 221 72).toInt + 1)) (b := 1) rfl e13 rfl (by omega) (fun x16 e17 => ?_)
    refine wR_pi rfl mO_e mO_72 hm_3 rfl ?_
    have hm_4 : aTm aT0 (si (sx (si (sx mem 268 (gi mem 221 72) ((y10 - y10 / 8 * 8) &&& 255)) 221 72 x12) 268 x12 ((y14 / 8) &&& 255)) 221 72 x16) := tm_si mO_e mO_72 hm_3 (by rw [e17]; exact (by omega))
    refine yR_rv rfl ?_
    show yR zpg tX12_image (d + 2) (124, lo, [], (si (sx (si (sx mem 268 (gi mem 221 72) ((y10 - y10 / 8 * 8) &&& 255)) 221 72 x12) 268 x12 ((y14 / 8) &&& 255)) 221 72 x16)) _
    refine wN_in (a := (t).toInt) (b := 1) rfl rfl l_1 rfl rfl (by omega) (fun x18 e19 => fun lo20 e21 f22 => ?_)
    have lo20_0 := f22 0 _ (by decide) (Or.inl rfl) l_0
    exact yR_m 1 (fun _ _ _ _ => rfl) (h2 y1 e2 q3 y10 e11 x12 e13 y14 e15 x16 e17 x18 e19 lo20 lo20_0 e21 hm_4)

theorem jm83 : ∀ (f : Nat) (mem : zM) (t : Int32) (lo : List (Nat × Value)), F ≤ t.toInt + (f : Int) → 0 ≤ t.toInt → t.toInt ≤ F → aTm aT0 mem → gn (ga mem 228) (gi mem 221 13).toInt = T → gn (ga mem 233) (gi mem 221 13).toInt = F → (gi mem 221 72).toInt = 2 + 2 * T + 2 * t.toInt → zlg lo 0 = some (.ref 221) → zlg lo 1 = some (.int t) → yR zpg tX12_image (d + 2) (83, lo, [], mem) (fun r _ => ∃ v : Int32, r = some (.int v) ∧ v.toInt = 3 + 2 * T + 2 * F) := by
  intro f
  induction f with
  | zero =>
    intro mem t lo hf h0 h1 hm hT hF hz a0 a1
    have rb := mO_r13 hm
    have th := gR_228 hm (i := (gi mem 221 13).toInt) rb.1 (by omega)
    have fki := gR_233 hm (i := (gi mem 221 13).toInt) rb.1 (by omega)
    exact w_jm83 hm a0 a1 (by omega) (by omega)
        (fun y1 e2 q3 lo a0 a1 a2 hm2 => by
          refine yR_mono (fun r m q => ?_) (jm136 (O := 2 + 2 * T + 2 * F) hm2 (by omega) (by omega) 33 _ 0 lo (by show _ ≤ (0 : Int) + 33; omega) (by decide) (by show (0 : Int) ≤ _; omega) a0 a1 a2)
          obtain ⟨v, q1, q2⟩ := q
          exact ⟨v, q1, by omega⟩)
        (fun y1 e2 q3 y10 e11 x12 e13 y14 e15 x16 e17 x18 e19 lo a0 a1 hm2 => by exfalso; omega)
  | succ f ih =>
    intro mem t lo hf h0 h1 hm hT hF hz a0 a1
    have rb := mO_r13 hm
    have th := gR_228 hm (i := (gi mem 221 13).toInt) rb.1 (by omega)
    have fki := gR_233 hm (i := (gi mem 221 13).toInt) rb.1 (by omega)
    exact w_jm83 hm a0 a1 (by omega) (by omega)
        (fun y1 e2 q3 lo a0 a1 a2 hm2 => by
          refine yR_mono (fun r m q => ?_) (jm136 (O := 2 + 2 * T + 2 * F) hm2 (by omega) (by omega) 33 _ 0 lo (by show _ ≤ (0 : Int) + 33; omega) (by decide) (by show (0 : Int) ≤ _; omega) a0 a1 a2)
          obtain ⟨v, q1, q2⟩ := q
          exact ⟨v, q1, by omega⟩)
        (fun y1 e2 q3 y10 e11 x12 e13 y14 e15 x16 e17 x18 e19 lo a0 a1 hm2 => ih _ x18 lo (by omega) (by omega) (by omega) hm2 (by rw [((ga_sv).trans ((ga_sa_ne (by decide)).trans ((ga_sv).trans (ga_sa_ne (by decide))))), ((gi_sv_ne (by decide)).trans ((gi_sa).trans ((gi_sv_ne (by decide)).trans (gi_sa))))]; exact hT) (by rw [((ga_sv).trans ((ga_sa_ne (by decide)).trans ((ga_sv).trans (ga_sa_ne (by decide))))), ((gi_sv_ne (by decide)).trans ((gi_sa).trans ((gi_sv_ne (by decide)).trans (gi_sa))))]; exact hF) (by rw [(gi_eqO (isO_sa (by decide) (isO_sv (isO_sa (by decide) (isO_of hm)))) (by decide))]; omega) a0 a1)
set_option maxRecDepth 100000 in
theorem w_jm30 {d : Nat} {mem : zM} {P : Option Value → zM → Prop} {t : Int32} {lo : List (Nat × Value)} (hm : aTm aT0 mem) (l_0 : zlg lo 0 = some (.ref 221)) (l_1 : zlg lo 1 = some (.int t)) (ht : 0 ≤ t.toInt ∧ t.toInt ≤ 9) (hz : (gi mem 221 72).toInt = 2 + 2 * t.toInt) (h1 : ∀ (y1 : Int32), y1.toInt = (gn (ga mem 228) (gi mem 221 13).toInt) → (gn (ga mem 228) (gi mem 221 13).toInt) ≤ (t).toInt → ∀ lo, zlg lo 0 = some (.ref 221) → zlg lo 1 = some (.int 0) → aTm aT0 mem → yR zpg tX12_image (d + 2) (83, lo, [], mem) P) (h2 : ∀ (y1 : Int32), y1.toInt = (gn (ga mem 228) (gi mem 221 13).toInt) → (t).toInt < (gn (ga mem 228) (gi mem 221 13).toInt) → ∀ (y7 : Int32), y7.toInt = (gn (ga mem 250) 0) → ¬ ((y7 >>> (t &&& 31)) &&& 1).toInt = 1 → ∀ (x10 : Int32), x10.toInt = ((gi mem 221 72).toInt + 1) → ∀ (y12 : Int32), y12.toInt = (gn (ga mem 251) (t).toInt) → ∀ (x14 : Int32), x14.toInt = (((gi mem 221 72).toInt + 1) + 1) → ∀ (x16 : Int32), x16.toInt = ((t).toInt + 1) → ∀ lo, zlg lo 0 = some (.ref 221) → zlg lo 1 = some (.int x16) → aTm aT0 (si (sx (si (sx mem 268 (gi mem 221 72) (0 &&& 255)) 221 72 x10) 268 x10 (y12 &&& 255)) 221 72 x14) → yR zpg tX12_image (d + 2) (30, lo, [], (si (sx (si (sx mem 268 (gi mem 221 72) (0 &&& 255)) 221 72 x10) 268 x10 (y12 &&& 255)) 221 72 x14)) P) (h3 : ∀ (y1 : Int32), y1.toInt = (gn (ga mem 228) (gi mem 221 13).toInt) → (t).toInt < (gn (ga mem 228) (gi mem 221 13).toInt) → ∀ (y7 : Int32), y7.toInt = (gn (ga mem 250) 0) → ((y7 >>> (t &&& 31)) &&& 1).toInt = 1 → ∀ (x21 : Int32), x21.toInt = ((gi mem 221 72).toInt + 1) → ∀ (y23 : Int32), y23.toInt = (gn (ga mem 251) (t).toInt) → ∀ (x25 : Int32), x25.toInt = (((gi mem 221 72).toInt + 1) + 1) → ∀ (x27 : Int32), x27.toInt = ((t).toInt + 1) → ∀ lo, zlg lo 0 = some (.ref 221) → zlg lo 1 = some (.int x27) → aTm aT0 (si (sx (si (sx mem 268 (gi mem 221 72) (1 &&& 255)) 221 72 x21) 268 x21 (y23 &&& 255)) 221 72 x25) → yR zpg tX12_image (d + 2) (30, lo, [], (si (sx (si (sx mem 268 (gi mem 221 72) (1 &&& 255)) 221 72 x21) 268 x21 (y23 &&& 255)) 221 72 x25)) P) : yR zpg tX12_image (d + 2) (30, lo, [], mem) P := by
  have rb := mO_r13 hm
  have th := gR_228 hm (i := (gi mem 221 13).toInt) rb.1 (by omega)
  have fki := gR_233 hm (i := (gi mem 221 13).toInt) rb.1 (by omega)
  refine wR_li rfl l_1 ?_
  refine wR_la rfl l_0 ?_
  refine wR_gr rfl mO_e mO_19 hm ?_
  refine wR_la rfl l_0 ?_
  refine wR_gi rfl mO_e mO_13 hm rfl ?_
  refine wN_al (a := (gi mem 221 13).toInt) rfl aR_228 hm rfl rfl (by omega) (fun y1 e2 => ?_)
  refine wR_ic_ge rfl (a := (t).toInt) (c := (gn (ga mem 228) (gi mem 221 13).toInt)) rfl e2 (fun q3 => ?_) (fun q3 => ?_)
  ·
    refine yR_m 1 (fun _ _ _ _ => rfl) ?_
    refine wR_si rfl rfl (fun lo4 e5 f6 => ?_)
    have lo4_0 := f6 0 _ (by decide) (Or.inl rfl) l_0
    exact h1 y1 e2 q3 lo4 lo4_0 e5 hm
  ·
    refine wR_la rfl l_0 ?_
    refine wR_la rfl l_0 ?_
    refine wR_gr rfl mO_e mO_49 hm ?_
    refine yR_m 1 (fun _ _ _ _ => rfl) ?_
    refine wN_al (a := 0) rfl aR_250 hm rfl rfl (by decide) (fun y7 e8 => ?_)
    refine wR_li rfl l_1 ?_
    refine wR_is rfl rfl rfl rfl rfl rfl ?_
    show yR zpg tX12_has2 (d + 1) (0, [(0, .int y7), (1, .int t)], [], mem) _
    refine yR_m 6 (fun _ _ _ _ => rfl) ?_
    refine wR_ic_ne rfl (a := ((y7 >>> (t &&& 31)) &&& 1).toInt) (c := 1) rfl rfl (fun q9 => ?_) (fun q9 => ?_)
    ·
      refine yR_m 1 (fun _ _ _ _ => rfl) ?_
      refine yR_rz rfl ⟨by decide, by decide⟩ ?_
      show yR zpg tX12_image (d + 2) (54, lo, [.int 0, .ref 221], mem) _
      refine wR_if_eq rfl (a := 0) rfl (fun _ => ?_) (fun q => by exfalso; omega)
      refine yR_m 1 (fun _ _ _ _ => rfl) ?_
      refine wR_iv rfl rfl mO_e hm rfl rfl rfl rfl ?_
      show yR zpg tX12_writes (d + 1) (0, [(0, .ref 221), (1, .int 0)], [], mem) _
      refine yR_m 1 (fun _ _ _ _ => rfl) ?_
      refine wR_gr rfl mO_e mO_71 hm ?_
      refine yR_m 1 (fun _ _ _ _ => rfl) ?_
      refine wR_gi rfl mO_e mO_72 hm rfl ?_
      refine yR_m 3 (fun _ _ _ _ => rfl) ?_
      refine wN_as (a := (gi mem 221 72).toInt) rfl aR_268 hm rfl (by omega) ?_
      have hm_1 : aTm aT0 (sx mem 268 (gi mem 221 72) (0 &&& 255)) := tm_sa aR_268 hm (i32_b _)
      refine yR_m 2 (fun _ _ _ _ => rfl) ?_
      refine wR_gi rfl mO_e mO_72 hm_1 (gi_sa) ?_
      refine yR_m 1 (fun _ _ _ _ => rfl) ?_
      refine wN_add (a := (gi mem 221 72).toInt) (b := 1) rfl rfl rfl (by omega) (fun x10 e11 => ?_)
      refine wR_pi rfl mO_e mO_72 hm_1 rfl ?_
      have hm_2 : aTm aT0 (si (sx mem 268 (gi mem 221 72) (0 &&& 255)) 221 72 x10) := tm_si mO_e mO_72 hm_1 (by rw [e11]; exact (by omega))
      refine yR_rv rfl ?_
      show yR zpg tX12_image (d + 2) (65, lo, [], (si (sx mem 268 (gi mem 221 72) (0 &&& 255)) 221 72 x10)) _
      refine wR_la rfl l_0 ?_
      refine wR_la rfl l_0 ?_
      refine wR_gr rfl mO_e mO_50 hm_2 ?_
      refine wR_li rfl l_1 ?_
      refine wN_al (a := (t).toInt) rfl aR_251 hm_2 ((ga_sv).trans (ga_sa_ne (by decide))) rfl (by omega) (fun y12 e13 => ?_)
      refine wR_iv rfl rfl mO_e hm_2 rfl rfl rfl rfl ?_
      show yR zpg tX12_writes (d + 1) (0, [(0, .ref 221), (1, .int y12)], [], (si (sx mem 268 (gi mem 221 72) (0 &&& 255)) 221 72 x10)) _
      refine yR_m 1 (fun _ _ _ _ => rfl) ?_
      refine wR_gr rfl mO_e mO_71 hm_2 ?_
      refine yR_m 1 (fun _ _ _ _ => rfl) ?_
      refine wR_gi rfl mO_e mO_72 hm_2 (gi_si_eq mO_e mO_72 hm_1) ?_
      refine yR_m 3 (fun _ _ _ _ => rfl) ?_
      refine wN_as (a := ((gi mem 221 72).toInt + 1)) rfl aR_268 hm_2 e11 (by omega) ?_
      have hm_3 : aTm aT0 (sx (si (sx mem 268 (gi mem 221 72) (0 &&& 255)) 221 72 x10) 268 x10 (y12 &&& 255)) := tm_sa aR_268 hm_2 (i32_b _)
      refine yR_m 2 (fun _ _ _ _ => rfl) ?_
      refine wR_gi rfl mO_e mO_72 hm_3 ((gi_sa).trans (gi_si_eq mO_e mO_72 hm_1)) ?_
      refine yR_m 1 (fun _ _ _ _ => rfl) ?_
      refine wN_add (a := ((gi mem 221 72).toInt + 1)) (b := 1) rfl e11 rfl (by omega) (fun x14 e15 => ?_)
      refine wR_pi rfl mO_e mO_72 hm_3 rfl ?_
      have hm_4 : aTm aT0 (si (sx (si (sx mem 268 (gi mem 221 72) (0 &&& 255)) 221 72 x10) 268 x10 (y12 &&& 255)) 221 72 x14) := tm_si mO_e mO_72 hm_3 (by rw [e15]; exact (by omega))
      refine yR_rv rfl ?_
      show yR zpg tX12_image (d + 2) (75, lo, [], (si (sx (si (sx mem 268 (gi mem 221 72) (0 &&& 255)) 221 72 x10) 268 x10 (y12 &&& 255)) 221 72 x14)) _
      refine wN_in (a := (t).toInt) (b := 1) rfl rfl l_1 rfl rfl (by omega) (fun x16 e17 => fun lo18 e19 f20 => ?_)
      have lo18_0 := f20 0 _ (by decide) (Or.inl rfl) l_0
      exact yR_m 1 (fun _ _ _ _ => rfl) (h2 y1 e2 q3 y7 e8 q9 x10 e11 y12 e13 x14 e15 x16 e17 lo18 lo18_0 e19 hm_4)
    ·
      refine yR_m 2 (fun _ _ _ _ => rfl) ?_
      refine yR_rz rfl ⟨by decide, by decide⟩ ?_
      show yR zpg tX12_image (d + 2) (54, lo, [.int 1, .ref 221], mem) _
      refine wR_if_eq rfl (a := 1) rfl (fun q => by exfalso; omega) (fun _ => ?_)
      refine yR_m 2 (fun _ _ _ _ => rfl) ?_
      refine wR_iv rfl rfl mO_e hm rfl rfl rfl rfl ?_
      show yR zpg tX12_writes (d + 1) (0, [(0, .ref 221), (1, .int 1)], [], mem) _
      refine yR_m 1 (fun _ _ _ _ => rfl) ?_
      refine wR_gr rfl mO_e mO_71 hm ?_
      refine yR_m 1 (fun _ _ _ _ => rfl) ?_
      refine wR_gi rfl mO_e mO_72 hm rfl ?_
      refine yR_m 3 (fun _ _ _ _ => rfl) ?_
      refine wN_as (a := (gi mem 221 72).toInt) rfl aR_268 hm rfl (by omega) ?_
      have hm_5 : aTm aT0 (sx mem 268 (gi mem 221 72) (1 &&& 255)) := tm_sa aR_268 hm (i32_b _)
      refine yR_m 2 (fun _ _ _ _ => rfl) ?_
      refine wR_gi rfl mO_e mO_72 hm_5 (gi_sa) ?_
      refine yR_m 1 (fun _ _ _ _ => rfl) ?_
      refine wN_add (a := (gi mem 221 72).toInt) (b := 1) rfl rfl rfl (by omega) (fun x21 e22 => ?_)
      refine wR_pi rfl mO_e mO_72 hm_5 rfl ?_
      have hm_6 : aTm aT0 (si (sx mem 268 (gi mem 221 72) (1 &&& 255)) 221 72 x21) := tm_si mO_e mO_72 hm_5 (by rw [e22]; exact (by omega))
      refine yR_rv rfl ?_
      show yR zpg tX12_image (d + 2) (65, lo, [], (si (sx mem 268 (gi mem 221 72) (1 &&& 255)) 221 72 x21)) _
      refine wR_la rfl l_0 ?_
      refine wR_la rfl l_0 ?_
      refine wR_gr rfl mO_e mO_50 hm_6 ?_
      refine wR_li rfl l_1 ?_
      refine wN_al (a := (t).toInt) rfl aR_251 hm_6 ((ga_sv).trans (ga_sa_ne (by decide))) rfl (by omega) (fun y23 e24 => ?_)
      refine wR_iv rfl rfl mO_e hm_6 rfl rfl rfl rfl ?_
      show yR zpg tX12_writes (d + 1) (0, [(0, .ref 221), (1, .int y23)], [], (si (sx mem 268 (gi mem 221 72) (1 &&& 255)) 221 72 x21)) _
      refine yR_m 1 (fun _ _ _ _ => rfl) ?_
      refine wR_gr rfl mO_e mO_71 hm_6 ?_
      refine yR_m 1 (fun _ _ _ _ => rfl) ?_
      refine wR_gi rfl mO_e mO_72 hm_6 (gi_si_eq mO_e mO_72 hm_5) ?_
      refine yR_m 3 (fun _ _ _ _ => rfl) ?_
      refine wN_as (a := ((gi mem 221 72).toInt + 1)) rfl aR_268 hm_6 e22 (by omega) ?_
      have hm_7 : aTm aT0 (sx (si (sx mem 268 (gi mem 221 72) (1 &&& 255)) 221 72 x21) 268 x21 (y23 &&& 255)) := tm_sa aR_268 hm_6 (i32_b _)
      refine yR_m 2 (fun _ _ _ _ => rfl) ?_
      refine wR_gi rfl mO_e mO_72 hm_7 ((gi_sa).trans (gi_si_eq mO_e mO_72 hm_5)) ?_
      refine yR_m 1 (fun _ _ _ _ => rfl) ?_
      refine wN_add (a := ((gi mem 221 72).toInt + 1)) (b := 1) rfl e22 rfl (by omega) (fun x25 e26 => ?_)
      refine wR_pi rfl mO_e mO_72 hm_7 rfl ?_
      have hm_8 : aTm aT0 (si (sx (si (sx mem 268 (gi mem 221 72) (1 &&& 255)) 221 72 x21) 268 x21 (y23 &&& 255)) 221 72 x25) := tm_si mO_e mO_72 hm_7 (by rw [e26]; exact (by omega))
      refine yR_rv rfl ?_
      show yR zpg tX12_image (d + 2) (75, lo, [], (si (sx (si (sx mem 268 (gi mem 221 72) (1 &&& 255)) 221 72 x21) 268 x21 (y23 &&& 255)) 221 72 x25)) _
      refine wN_in (a := (t).toInt) (b := 1) rfl rfl l_1 rfl rfl (by omega) (fun x27 e28 => fun lo29 e30 f31 => ?_)
      have lo29_0 := f31 0 _ (by decide) (Or.inl rfl) l_0
      exact yR_m 1 (fun _ _ _ _ => rfl) (h3 y1 e2 q3 y7 e8 q9 x21 e22 y23 e24 x25 e26 x27 e28 lo29 lo29_0 e30 hm_8)

theorem jm30 : ∀ (f : Nat) (mem : zM) (t : Int32) (lo : List (Nat × Value)), T ≤ t.toInt + (f : Int) → 0 ≤ t.toInt → t.toInt ≤ T → aTm aT0 mem → gn (ga mem 228) (gi mem 221 13).toInt = T → gn (ga mem 233) (gi mem 221 13).toInt = F → (gi mem 221 72).toInt = 2 + 2 * t.toInt → zlg lo 0 = some (.ref 221) → zlg lo 1 = some (.int t) → yR zpg tX12_image (d + 2) (30, lo, [], mem) (fun r _ => ∃ v : Int32, r = some (.int v) ∧ v.toInt = 3 + 2 * T + 2 * F) := by
  intro f
  induction f with
  | zero =>
    intro mem t lo hf h0 h1 hm hT hF hz a0 a1
    have rb := mO_r13 hm
    have th := gR_228 hm (i := (gi mem 221 13).toInt) rb.1 (by omega)
    have fki := gR_233 hm (i := (gi mem 221 13).toInt) rb.1 (by omega)
    exact w_jm30 hm a0 a1 (by omega) (by omega)
        (fun y1 e2 q3 lo a0 a1 hm2 => jm83 6 _ _ lo (by show F ≤ 0 + 6; omega) (by decide) (by show 0 ≤ F; omega) hm2 hT hF (by show _ = 2 + 2 * T + 2 * 0; omega) a0 a1)
        (fun y1 e2 q3 y7 e8 q9 x10 e11 y12 e13 x14 e15 x16 e17 lo a0 a1 hm2 => by exfalso; omega)
        (fun y1 e2 q3 y7 e8 q9 x21 e22 y23 e24 x25 e26 x27 e28 lo a0 a1 hm2 => by exfalso; omega)
  | succ f ih =>
    intro mem t lo hf h0 h1 hm hT hF hz a0 a1
    have rb := mO_r13 hm
    have th := gR_228 hm (i := (gi mem 221 13).toInt) rb.1 (by omega)
    have fki := gR_233 hm (i := (gi mem 221 13).toInt) rb.1 (by omega)
    exact w_jm30 hm a0 a1 (by omega) (by omega)
        (fun y1 e2 q3 lo a0 a1 hm2 => jm83 6 _ _ lo (by show F ≤ 0 + 6; omega) (by decide) (by show 0 ≤ F; omega) hm2 hT hF (by show _ = 2 + 2 * T + 2 * 0; omega) a0 a1)
        (fun y1 e2 q3 y7 e8 q9 x10 e11 y12 e13 x14 e15 x16 e17 lo a0 a1 hm2 => ih _ x16 lo (by omega) (by omega) (by omega) hm2 (by rw [((ga_sv).trans ((ga_sa_ne (by decide)).trans ((ga_sv).trans (ga_sa_ne (by decide))))), ((gi_sv_ne (by decide)).trans ((gi_sa).trans ((gi_sv_ne (by decide)).trans (gi_sa))))]; exact hT) (by rw [((ga_sv).trans ((ga_sa_ne (by decide)).trans ((ga_sv).trans (ga_sa_ne (by decide))))), ((gi_sv_ne (by decide)).trans ((gi_sa).trans ((gi_sv_ne (by decide)).trans (gi_sa))))]; exact hF) (by rw [(gi_eqO (isO_sa (by decide) (isO_sv (isO_sa (by decide) (isO_of hm)))) (by decide))]; omega) a0 a1)
        (fun y1 e2 q3 y7 e8 q9 x21 e22 y23 e24 x25 e26 x27 e28 lo a0 a1 hm2 => ih _ x27 lo (by omega) (by omega) (by omega) hm2 (by rw [((ga_sv).trans ((ga_sa_ne (by decide)).trans ((ga_sv).trans (ga_sa_ne (by decide))))), ((gi_sv_ne (by decide)).trans ((gi_sa).trans ((gi_sv_ne (by decide)).trans (gi_sa))))]; exact hT) (by rw [((ga_sv).trans ((ga_sa_ne (by decide)).trans ((ga_sv).trans (ga_sa_ne (by decide))))), ((gi_sv_ne (by decide)).trans ((gi_sa).trans ((gi_sv_ne (by decide)).trans (gi_sa))))]; exact hF) (by rw [(gi_eqO (isO_sa (by decide) (isO_sv (isO_sa (by decide) (isO_of hm)))) (by decide))]; omega) a0 a1)
set_option maxRecDepth 100000 in
theorem w_jm0 {d : Nat} {mem : zM} {P : Option Value → zM → Prop} {lo : List (Nat × Value)} (hm : aTm aT0 mem) (l_0 : zlg lo 0 = some (.ref 221)) (h1 : ∀ (y1 : Int32), y1.toInt = (gn (ga mem 249) 0) → ∀ (x3 : Int32), x3.toInt = ((0 + 1) : Int) → ∀ (y5 : Int32), y5.toInt = (gn (ga mem 249) 0) → ∀ (x7 : Int32), x7.toInt = (((0 + 1) : Int) + 1) → ∀ lo, zlg lo 0 = some (.ref 221) → zlg lo 1 = some (.int 0) → aTm aT0 (si (sx (si (sx (si mem 221 72 0) 268 0 ((y1 >>> (8 &&& 31)) &&& 255)) 221 72 x3) 268 x3 (y5 &&& 255)) 221 72 x7) → yR zpg tX12_image (d + 2) (30, lo, [], (si (sx (si (sx (si mem 221 72 0) 268 0 ((y1 >>> (8 &&& 31)) &&& 255)) 221 72 x3) 268 x3 (y5 &&& 255)) 221 72 x7)) P) : yR zpg tX12_image (d + 2) (0, lo, [], mem) P := by
  have rb := mO_r13 hm
  have th := gR_228 hm (i := (gi mem 221 13).toInt) rb.1 (by omega)
  have fki := gR_233 hm (i := (gi mem 221 13).toInt) rb.1 (by omega)
  refine wR_la rfl l_0 ?_
  refine yR_m 1 (fun _ _ _ _ => rfl) ?_
  refine wR_pi rfl mO_e mO_72 hm rfl ?_
  have hm_1 : aTm aT0 (si mem 221 72 0) := tm_si mO_e mO_72 hm (by decide)
  refine wR_la rfl l_0 ?_
  refine wR_la rfl l_0 ?_
  refine wR_gr rfl mO_e mO_48 hm_1 ?_
  refine yR_m 1 (fun _ _ _ _ => rfl) ?_
  refine wN_al (a := 0) rfl aR_249 hm_1 (ga_sv) rfl (by decide) (fun y1 e2 => ?_)
  refine yR_m 2 (fun _ _ _ _ => rfl) ?_
  refine wR_iv rfl rfl mO_e hm_1 rfl rfl rfl rfl ?_
  show yR zpg tX12_writes (d + 1) (0, [(0, .ref 221), (1, .int (y1 >>> (8 &&& 31)))], [], (si mem 221 72 0)) _
  refine yR_m 1 (fun _ _ _ _ => rfl) ?_
  refine wR_gr rfl mO_e mO_71 hm_1 ?_
  refine yR_m 1 (fun _ _ _ _ => rfl) ?_
  refine wR_gi rfl mO_e mO_72 hm_1 (gi_si_eq mO_e mO_72 hm) ?_
  refine yR_m 3 (fun _ _ _ _ => rfl) ?_
  refine wN_as (a := 0) rfl aR_268 hm_1 rfl (by decide) ?_
  have hm_2 : aTm aT0 (sx (si mem 221 72 0) 268 0 ((y1 >>> (8 &&& 31)) &&& 255)) := tm_sa aR_268 hm_1 (i32_b _)
  refine yR_m 2 (fun _ _ _ _ => rfl) ?_
  refine wR_gi rfl mO_e mO_72 hm_2 ((gi_sa).trans (gi_si_eq mO_e mO_72 hm)) ?_
  refine yR_m 1 (fun _ _ _ _ => rfl) ?_
  refine wN_add (a := 0) (b := 1) rfl rfl rfl (by omega) (fun x3 e4 => ?_)
  refine wR_pi rfl mO_e mO_72 hm_2 rfl ?_
  have hm_3 : aTm aT0 (si (sx (si mem 221 72 0) 268 0 ((y1 >>> (8 &&& 31)) &&& 255)) 221 72 x3) := tm_si mO_e mO_72 hm_2 (by rw [e4]; exact (by omega))
  refine yR_rv rfl ?_
  show yR zpg tX12_image (d + 2) (18, lo, [], (si (sx (si mem 221 72 0) 268 0 ((y1 >>> (8 &&& 31)) &&& 255)) 221 72 x3)) _
  refine wR_la rfl l_0 ?_
  refine wR_la rfl l_0 ?_
  refine wR_gr rfl mO_e mO_48 hm_3 ?_
  refine yR_m 1 (fun _ _ _ _ => rfl) ?_
  refine wN_al (a := 0) rfl aR_249 hm_3 ((ga_sv).trans ((ga_sa_ne (by decide)).trans (ga_sv))) rfl (by decide) (fun y5 e6 => ?_)
  refine wR_iv rfl rfl mO_e hm_3 rfl rfl rfl rfl ?_
  show yR zpg tX12_writes (d + 1) (0, [(0, .ref 221), (1, .int y5)], [], (si (sx (si mem 221 72 0) 268 0 ((y1 >>> (8 &&& 31)) &&& 255)) 221 72 x3)) _
  refine yR_m 1 (fun _ _ _ _ => rfl) ?_
  refine wR_gr rfl mO_e mO_71 hm_3 ?_
  refine yR_m 1 (fun _ _ _ _ => rfl) ?_
  refine wR_gi rfl mO_e mO_72 hm_3 (gi_si_eq mO_e mO_72 hm_2) ?_
  refine yR_m 3 (fun _ _ _ _ => rfl) ?_
  refine wN_as (a := ((0 + 1) : Int)) rfl aR_268 hm_3 e4 (by omega) ?_
  have hm_4 : aTm aT0 (sx (si (sx (si mem 221 72 0) 268 0 ((y1 >>> (8 &&& 31)) &&& 255)) 221 72 x3) 268 x3 (y5 &&& 255)) := tm_sa aR_268 hm_3 (i32_b _)
  refine yR_m 2 (fun _ _ _ _ => rfl) ?_
  refine wR_gi rfl mO_e mO_72 hm_4 ((gi_sa).trans (gi_si_eq mO_e mO_72 hm_2)) ?_
  refine yR_m 1 (fun _ _ _ _ => rfl) ?_
  refine wN_add (a := ((0 + 1) : Int)) (b := 1) rfl e4 rfl (by omega) (fun x7 e8 => ?_)
  refine wR_pi rfl mO_e mO_72 hm_4 rfl ?_
  have hm_5 : aTm aT0 (si (sx (si (sx (si mem 221 72 0) 268 0 ((y1 >>> (8 &&& 31)) &&& 255)) 221 72 x3) 268 x3 (y5 &&& 255)) 221 72 x7) := tm_si mO_e mO_72 hm_4 (by rw [e8]; exact (by omega))
  refine yR_rv rfl ?_
  show yR zpg tX12_image (d + 2) (28, lo, [], (si (sx (si (sx (si mem 221 72 0) 268 0 ((y1 >>> (8 &&& 31)) &&& 255)) 221 72 x3) 268 x3 (y5 &&& 255)) 221 72 x7)) _
  refine yR_m 1 (fun _ _ _ _ => rfl) ?_
  refine wR_si rfl rfl (fun lo9 e10 f11 => ?_)
  have lo9_0 := f11 0 _ (by decide) (Or.inl rfl) l_0
  exact h1 y1 e2 x3 e4 y5 e6 x7 e8 lo9 lo9_0 e10 hm_5

theorem h_im_m (hm : aTm aT0 mem) (hT : gn (ga mem 228) (gi mem 221 13).toInt = T) (hF : gn (ga mem 233) (gi mem 221 13).toInt = F) (hd : 3 ≤ d) : yC zpg d 274 [.ref 221] mem (fun r _ => ∃ v : Int32, r = some (.int v) ∧ v.toInt = 3 + 2 * T + 2 * F) := by
  obtain ⟨d, rfl⟩ : ∃ q, d = q + 3 := ⟨d - 3, by omega⟩
  have rb := mO_r13 hm
  have th := gR_228 hm (i := (gi mem 221 13).toInt) rb.1 (by omega)
  have fki := gR_233 hm (i := (gi mem 221 13).toInt) rb.1 (by omega)
  refine yC_of (t := tX12_image) rfl rfl ?_
  exact w_jm0 hm rfl
        (fun y1 e2 x3 e4 y5 e6 x7 e8 lo a0 a1 hm2 => jm30 9 _ _ lo (by show T ≤ 0 + 9; omega) (by decide) (by show 0 ≤ T; omega) hm2 (by rw [((ga_sv).trans ((ga_sa_ne (by decide)).trans ((ga_sv).trans ((ga_sa_ne (by decide)).trans (ga_sv))))), ((gi_sv_ne (by decide)).trans ((gi_sa).trans ((gi_sv_ne (by decide)).trans ((gi_sa).trans (gi_sv_ne (by decide))))))]; exact hT) (by rw [((ga_sv).trans ((ga_sa_ne (by decide)).trans ((ga_sv).trans ((ga_sa_ne (by decide)).trans (ga_sv))))), ((gi_sv_ne (by decide)).trans ((gi_sa).trans ((gi_sv_ne (by decide)).trans ((gi_sa).trans (gi_sv_ne (by decide))))))]; exact hF) (by rw [(gi_eqO (isO_sa (by decide) (isO_sv (isO_sa (by decide) (isO_sv (isO_of hm))))) (by decide))]; show _ = 2 + 2 * 0; omega) a0 a1)
set_option maxRecDepth 100000 in
theorem w_im98A {d : Nat} {mem : zM} {P : Option Value → zM → Prop} {z t : Int32} {lo : List (Nat × Value)} (hm : aTm aT0 mem) (l_0 : zlg lo 0 = some (.ref 0)) (l_1 : zlg lo 1 = some (.int z)) (l_2 : zlg lo 2 = some (.int t)) (hp : zfl mem 0 4 = some (.ref 2)) (h7 : 0 ≤ (gi mem 2 7).toInt ∧ (gi mem 2 7).toInt ≤ 9) (h13 : 0 ≤ (gi mem 2 13).toInt ∧ (gi mem 2 13).toInt ≤ 6) (ht : 0 ≤ t.toInt ∧ t.toInt ≤ 6) (hz : z.toInt = 2 + 2 * (gi mem 2 7).toInt + 2 * t.toInt) (h1 : (gi mem 2 13).toInt ≤ (t).toInt → ∀ (v2 : Int32), True → ∀ (x4 : Int32), x4.toInt = ((z).toInt + 1) → aTm aT0 (si (sx mem 219 z v2) 0 13 x4) → P (some (.int x4)) (si (sx mem 219 z v2) 0 13 x4)) (h2 : (t).toInt < (gi mem 2 13).toInt → ∀ (y6 : Int32), y6.toInt = (gn (ga mem 33) (t).toInt) → ∀ (x8 : Int32), x8.toInt = ((z).toInt + 1) → ∀ (y10 : Int32), y10.toInt = (gn (ga mem 33) (t).toInt) → ∀ (x12 : Int32), x12.toInt = ((z).toInt + 2) → ∀ (x17 : Int32), x17.toInt = ((t).toInt + 1) → ∀ lo, zlg lo 0 = some (.ref 0) → zlg lo 1 = some (.int x12) → zlg lo 2 = some (.int x17) → aTm aT0 (sx (sx mem 219 z (y6 - y6 / 8 * 8)) 219 x8 (y10 / 8)) → yR zpg tX11_image (d + 2) (98, lo, [], (sx (sx mem 219 z (y6 - y6 / 8 * 8)) 219 x8 (y10 / 8))) P) : yR zpg tX11_image (d + 2) (98, lo, [], mem) P := by
  refine wR_li rfl l_2 ?_
  refine wR_la rfl l_0 ?_
  refine wR_gq rfl cO_e hm hp ?_
  refine wR_gi rfl quA_e quA_13 hm rfl ?_
  refine wR_ic_ge rfl (a := (t).toInt) (c := (gi mem 2 13).toInt) rfl rfl (fun q1 => ?_) (fun q1 => ?_)
  ·
    refine wR_la rfl l_0 ?_
    refine wR_gr rfl cO_e cO_12 hm ?_
    refine wR_li rfl l_1 ?_
    refine wR_la rfl l_0 ?_
    refine wR_gr rfl cO_e cO_12 hm ?_
    refine wR_li rfl l_1 ?_
    refine yR_cs rfl rfl rfl (h_chkI hm (by omega)) ?_
    rintro _ _ ⟨v2, rfl, rfl, k3⟩
    show yR zpg tX11_image (d + 2) (169, lo, [.int v2, .int z, .ref 219], mem) _
    refine wN_as (a := (z).toInt) rfl aR_219 hm rfl (by omega) ?_
    have hm_1 : aTm aT0 (sx mem 219 z v2) := tm_sa aR_219 hm (i32_b _)
    refine wR_la rfl l_0 ?_
    refine wR_li rfl l_1 ?_
    refine yR_m 1 (fun _ _ _ _ => rfl) ?_
    refine wN_add (a := (z).toInt) (b := 1) rfl rfl rfl (by omega) (fun x4 e5 => ?_)
    refine wR_pi rfl cO_e cO_13 hm_1 rfl ?_
    have hm_2 : aTm aT0 (si (sx mem 219 z v2) 0 13 x4) := tm_si cO_e cO_13 hm_1 (by rw [e5]; exact (by omega))
    refine wR_la rfl l_0 ?_
    refine wR_gi rfl cO_e cO_13 hm_2 (gi_si_eq cO_e cO_13 hm_1) ?_
    exact yR_ri rfl (h1 q1 v2 k3 x4 e5 hm_2)
  ·
    refine wR_la rfl l_0 ?_
    refine wR_gr rfl cO_e cO_12 hm ?_
    refine wR_li rfl l_1 ?_
    refine wR_la rfl l_0 ?_
    refine wR_gr rfl cO_e cO_7 hm ?_
    refine wR_gr rfl nO_e nO_3 hm ?_
    refine wR_li rfl l_2 ?_
    refine wN_al (a := (t).toInt) rfl aR_33 hm rfl rfl (by omega) (fun y6 e7 => ?_)
    refine wR_is rfl rfl rfl rfl rfl rfl ?_
    show yR zpg tX11_columnOf (d + 1) (0, [(0, .int y6)], [], mem) _
    refine yR_m 3 (fun _ _ _ _ => rfl) ?_
    refine yR_ri rfl ?_
    show yR zpg tX11_image (d + 2) (126, lo, [.int (y6 - y6 / 8 * 8), .int z, .ref 219], mem) _
    refine wN_as (a := (z).toInt) rfl aR_219 hm rfl (by omega) ?_
    have hm_3 : aTm aT0 (sx mem 219 z (y6 - y6 / 8 * 8)) := tm_sa aR_219 hm (i32_b _)
    refine wR_la rfl l_0 ?_
    refine wR_gr rfl cO_e cO_12 hm_3 ?_
    refine wR_li rfl l_1 ?_
    refine yR_m 1 (fun _ _ _ _ => rfl) ?_
    refine wN_add (a := (z).toInt) (b := 1) rfl rfl rfl (by omega) (fun x8 e9 => ?_)
    refine wR_la rfl l_0 ?_
    refine wR_gr rfl cO_e cO_7 hm_3 ?_
    refine wR_gr rfl nO_e nO_3 hm_3 ?_
    refine wR_li rfl l_2 ?_
    refine wN_al (a := (t).toInt) rfl aR_33 hm_3 (ga_sa_ne (by decide)) rfl (by omega) (fun y10 e11 => ?_)
    refine wR_is rfl rfl rfl rfl rfl rfl ?_
    show yR zpg tX11_rowOf (d + 1) (0, [(0, .int y10)], [], (sx mem 219 z (y6 - y6 / 8 * 8))) _
    refine yR_m 3 (fun _ _ _ _ => rfl) ?_
    refine yR_ri rfl ?_
    show yR zpg tX11_image (d + 2) (146, lo, [.int (y10 / 8), .int x8, .ref 219], (sx mem 219 z (y6 - y6 / 8 * 8))) _
    refine wN_as (a := ((z).toInt + 1)) rfl aR_219 hm_3 e9 (by omega) ?_
    have hm_4 : aTm aT0 (sx (sx mem 219 z (y6 - y6 / 8 * 8)) 219 x8 (y10 / 8)) := tm_sa aR_219 hm_3 (i32_b _)
    refine wN_in (a := (z).toInt) (b := 2) rfl rfl l_1 rfl rfl (by omega) (fun x12 e13 => fun lo14 e15 f16 => ?_)
    have lo14_0 := f16 0 _ (by decide) (Or.inl rfl) l_0
    have lo14_2 := f16 2 _ (by decide) (Or.inl rfl) l_2
    refine wN_in (a := (t).toInt) (b := 1) rfl rfl lo14_2 rfl rfl (by omega) (fun x17 e18 => fun lo19 e20 f21 => ?_)
    have lo19_1 := f21 1 _ (by decide) (Or.inl rfl) e15
    have lo19_0 := f21 0 _ (by decide) (Or.inl rfl) lo14_0
    exact yR_m 1 (fun _ _ _ _ => rfl) (h2 q1 y6 e7 x8 e9 y10 e11 x12 e13 x17 e18 lo19 lo19_0 lo19_1 e20 hm_4)

theorem im98_A : ∀ (f : Nat) (mem : zM) (z t : Int32) (lo : List (Nat × Value)), F ≤ t.toInt + (f : Int) → 0 ≤ t.toInt → t.toInt ≤ F → aTm aT0 mem → zfl mem 0 4 = some (.ref 2) → (gi mem 2 7).toInt = T → (gi mem 2 13).toInt = F → z.toInt = 2 + 2 * T + 2 * t.toInt → zlg lo 0 = some (.ref 0) → zlg lo 1 = some (.int z) → zlg lo 2 = some (.int t) → yR zpg tX11_image (d + 2) (98, lo, [], mem) (fun r _ => ∃ v : Int32, r = some (.int v) ∧ v.toInt = 3 + 2 * T + 2 * F) := by
  intro f
  induction f with
  | zero =>
    intro mem z t lo hf h0 h1 hm hp hT hF hz a0 a1 a2
    have r7 := pA_r7 hm
    have r13 := pA_r13 hm
    exact w_im98A hm a0 a1 a2 hp r7 r13 (by omega) (by omega)
        (fun q1 v2 k3 x4 e5 hm2 => ⟨_, rfl, by omega⟩)
        (fun q1 y6 e7 x8 e9 y10 e11 x12 e13 x17 e18 lo a0 a1 a2 hm2 => by exfalso; omega)
  | succ f ih =>
    intro mem z t lo hf h0 h1 hm hp hT hF hz a0 a1 a2
    have r7 := pA_r7 hm
    have r13 := pA_r13 hm
    exact w_im98A hm a0 a1 a2 hp r7 r13 (by omega) (by omega)
        (fun q1 v2 k3 x4 e5 hm2 => ⟨_, rfl, by omega⟩)
        (fun q1 y6 e7 x8 e9 y10 e11 x12 e13 x17 e18 lo a0 a1 a2 hm2 => ih _ x12 x17 lo (by omega) (by omega) (by omega) hm2 (zfl_sa.trans (zfl_sa.trans hp)) (by rw [((gi_sa).trans (gi_sa))]; exact hT) (by rw [((gi_sa).trans (gi_sa))]; exact hF) (by omega) a0 a1 a2)
set_option maxRecDepth 100000 in
theorem w_im37A {d : Nat} {mem : zM} {P : Option Value → zM → Prop} {z t : Int32} {lo : List (Nat × Value)} (hm : aTm aT0 mem) (l_0 : zlg lo 0 = some (.ref 0)) (l_1 : zlg lo 1 = some (.int z)) (l_2 : zlg lo 2 = some (.int t)) (hp : zfl mem 0 4 = some (.ref 2)) (h7 : 0 ≤ (gi mem 2 7).toInt ∧ (gi mem 2 7).toInt ≤ 9) (h13 : 0 ≤ (gi mem 2 13).toInt ∧ (gi mem 2 13).toInt ≤ 6) (ht : 0 ≤ t.toInt ∧ t.toInt ≤ 9) (hz : z.toInt = 2 + 2 * t.toInt) (h1 : (gi mem 2 7).toInt ≤ (t).toInt → ∀ lo, zlg lo 0 = some (.ref 0) → zlg lo 1 = some (.int z) → zlg lo 2 = some (.int 0) → aTm aT0 mem → yR zpg tX11_image (d + 2) (98, lo, [], mem) P) (h2 : (t).toInt < (gi mem 2 7).toInt → (((gi mem 31 1) >>> (t &&& 31)) &&& 1).toInt = 0 → ∀ (x6 : Int32), x6.toInt = ((z).toInt + 1) → ∀ (y8 : Int32), y8.toInt = (gn (ga mem 32) (t).toInt) → ∀ (x10 : Int32), x10.toInt = ((z).toInt + 2) → ∀ (x15 : Int32), x15.toInt = ((t).toInt + 1) → ∀ lo, zlg lo 0 = some (.ref 0) → zlg lo 1 = some (.int x10) → zlg lo 2 = some (.int x15) → aTm aT0 (sx (sx mem 219 z 0) 219 x6 y8) → yR zpg tX11_image (d + 2) (37, lo, [], (sx (sx mem 219 z 0) 219 x6 y8)) P) (h3 : (t).toInt < (gi mem 2 7).toInt → ¬ (((gi mem 31 1) >>> (t &&& 31)) &&& 1).toInt = 0 → ∀ (x20 : Int32), x20.toInt = ((z).toInt + 1) → ∀ (y22 : Int32), y22.toInt = (gn (ga mem 32) (t).toInt) → ∀ (x24 : Int32), x24.toInt = ((z).toInt + 2) → ∀ (x29 : Int32), x29.toInt = ((t).toInt + 1) → ∀ lo, zlg lo 0 = some (.ref 0) → zlg lo 1 = some (.int x24) → zlg lo 2 = some (.int x29) → aTm aT0 (sx (sx mem 219 z 1) 219 x20 y22) → yR zpg tX11_image (d + 2) (37, lo, [], (sx (sx mem 219 z 1) 219 x20 y22)) P) : yR zpg tX11_image (d + 2) (37, lo, [], mem) P := by
  refine wR_li rfl l_2 ?_
  refine wR_la rfl l_0 ?_
  refine wR_gq rfl cO_e hm hp ?_
  refine wR_gi rfl quA_e quA_7 hm rfl ?_
  refine wR_ic_ge rfl (a := (t).toInt) (c := (gi mem 2 7).toInt) rfl rfl (fun q1 => ?_) (fun q1 => ?_)
  ·
    refine yR_m 1 (fun _ _ _ _ => rfl) ?_
    refine wR_si rfl rfl (fun lo2 e3 f4 => ?_)
    have lo2_0 := f4 0 _ (by decide) (Or.inl rfl) l_0
    have lo2_1 := f4 1 _ (by decide) (Or.inl rfl) l_1
    exact h1 q1 lo2 lo2_0 lo2_1 e3 hm
  ·
    refine wR_la rfl l_0 ?_
    refine wR_gr rfl cO_e cO_12 hm ?_
    refine wR_li rfl l_1 ?_
    refine wR_la rfl l_0 ?_
    refine wR_gr rfl cO_e cO_7 hm ?_
    refine wR_li rfl l_2 ?_
    refine wR_iv rfl rfl nO_e hm rfl rfl rfl rfl ?_
    show yR zpg tX8_isMissing (d + 1) (0, [(0, .ref 31), (1, .int t)], [], mem) _
    refine yR_m 1 (fun _ _ _ _ => rfl) ?_
    refine wR_gi rfl nO_e nO_1 hm rfl ?_
    refine yR_m 4 (fun _ _ _ _ => rfl) ?_
    refine wR_if_eq rfl (a := (((gi mem 31 1) >>> (t &&& 31)) &&& 1).toInt) rfl (fun q5 => ?_) (fun q5 => ?_)
    ·
      refine yR_m 1 (fun _ _ _ _ => rfl) ?_
      refine yR_rz rfl ⟨by decide, by decide⟩ ?_
      show yR zpg tX11_image (d + 2) (61, lo, [.int 0, .int z, .ref 219], mem) _
      refine wR_if_eq rfl (a := 0) rfl (fun _ => ?_) (fun q => by exfalso; omega)
      refine yR_m 1 (fun _ _ _ _ => rfl) ?_
      refine wN_as (a := (z).toInt) rfl aR_219 hm rfl (by omega) ?_
      have hm_1 : aTm aT0 (sx mem 219 z 0) := tm_sa aR_219 hm (i32_b _)
      refine wR_la rfl l_0 ?_
      refine wR_gr rfl cO_e cO_12 hm_1 ?_
      refine wR_li rfl l_1 ?_
      refine yR_m 1 (fun _ _ _ _ => rfl) ?_
      refine wN_add (a := (z).toInt) (b := 1) rfl rfl rfl (by omega) (fun x6 e7 => ?_)
      refine wR_la rfl l_0 ?_
      refine wR_gr rfl cO_e cO_7 hm_1 ?_
      refine wR_gr rfl nO_e nO_2 hm_1 ?_
      refine wR_li rfl l_2 ?_
      refine wN_al (a := (t).toInt) rfl aR_32 hm_1 (ga_sa_ne (by decide)) rfl (by omega) (fun y8 e9 => ?_)
      refine wN_as (a := ((z).toInt + 1)) rfl aR_219 hm_1 e7 (by omega) ?_
      have hm_2 : aTm aT0 (sx (sx mem 219 z 0) 219 x6 y8) := tm_sa aR_219 hm_1 (i32_b _)
      refine wN_in (a := (z).toInt) (b := 2) rfl rfl l_1 rfl rfl (by omega) (fun x10 e11 => fun lo12 e13 f14 => ?_)
      have lo12_0 := f14 0 _ (by decide) (Or.inl rfl) l_0
      have lo12_2 := f14 2 _ (by decide) (Or.inl rfl) l_2
      refine wN_in (a := (t).toInt) (b := 1) rfl rfl lo12_2 rfl rfl (by omega) (fun x15 e16 => fun lo17 e18 f19 => ?_)
      have lo17_1 := f19 1 _ (by decide) (Or.inl rfl) e13
      have lo17_0 := f19 0 _ (by decide) (Or.inl rfl) lo12_0
      exact yR_m 1 (fun _ _ _ _ => rfl) (h2 q1 q5 x6 e7 y8 e9 x10 e11 x15 e16 lo17 lo17_0 lo17_1 e18 hm_2)
    ·
      refine yR_m 2 (fun _ _ _ _ => rfl) ?_
      refine yR_rz rfl ⟨by decide, by decide⟩ ?_
      show yR zpg tX11_image (d + 2) (61, lo, [.int 1, .int z, .ref 219], mem) _
      refine wR_if_eq rfl (a := 1) rfl (fun q => by exfalso; omega) (fun _ => ?_)
      refine yR_m 2 (fun _ _ _ _ => rfl) ?_
      refine wN_as (a := (z).toInt) rfl aR_219 hm rfl (by omega) ?_
      have hm_3 : aTm aT0 (sx mem 219 z 1) := tm_sa aR_219 hm (i32_b _)
      refine wR_la rfl l_0 ?_
      refine wR_gr rfl cO_e cO_12 hm_3 ?_
      refine wR_li rfl l_1 ?_
      refine yR_m 1 (fun _ _ _ _ => rfl) ?_
      refine wN_add (a := (z).toInt) (b := 1) rfl rfl rfl (by omega) (fun x20 e21 => ?_)
      refine wR_la rfl l_0 ?_
      refine wR_gr rfl cO_e cO_7 hm_3 ?_
      refine wR_gr rfl nO_e nO_2 hm_3 ?_
      refine wR_li rfl l_2 ?_
      refine wN_al (a := (t).toInt) rfl aR_32 hm_3 (ga_sa_ne (by decide)) rfl (by omega) (fun y22 e23 => ?_)
      refine wN_as (a := ((z).toInt + 1)) rfl aR_219 hm_3 e21 (by omega) ?_
      have hm_4 : aTm aT0 (sx (sx mem 219 z 1) 219 x20 y22) := tm_sa aR_219 hm_3 (i32_b _)
      refine wN_in (a := (z).toInt) (b := 2) rfl rfl l_1 rfl rfl (by omega) (fun x24 e25 => fun lo26 e27 f28 => ?_)
      have lo26_0 := f28 0 _ (by decide) (Or.inl rfl) l_0
      have lo26_2 := f28 2 _ (by decide) (Or.inl rfl) l_2
      refine wN_in (a := (t).toInt) (b := 1) rfl rfl lo26_2 rfl rfl (by omega) (fun x29 e30 => fun lo31 e32 f33 => ?_)
      have lo31_1 := f33 1 _ (by decide) (Or.inl rfl) e27
      have lo31_0 := f33 0 _ (by decide) (Or.inl rfl) lo26_0
      exact yR_m 1 (fun _ _ _ _ => rfl) (h3 q1 q5 x20 e21 y22 e23 x24 e25 x29 e30 lo31 lo31_0 lo31_1 e32 hm_4)

theorem im37_A : ∀ (f : Nat) (mem : zM) (z t : Int32) (lo : List (Nat × Value)), T ≤ t.toInt + (f : Int) → 0 ≤ t.toInt → t.toInt ≤ T → aTm aT0 mem → zfl mem 0 4 = some (.ref 2) → (gi mem 2 7).toInt = T → (gi mem 2 13).toInt = F → z.toInt = 2 + 2 * t.toInt → zlg lo 0 = some (.ref 0) → zlg lo 1 = some (.int z) → zlg lo 2 = some (.int t) → yR zpg tX11_image (d + 2) (37, lo, [], mem) (fun r _ => ∃ v : Int32, r = some (.int v) ∧ v.toInt = 3 + 2 * T + 2 * F) := by
  intro f
  induction f with
  | zero =>
    intro mem z t lo hf h0 h1 hm hp hT hF hz a0 a1 a2
    have r7 := pA_r7 hm
    have r13 := pA_r13 hm
    exact w_im37A hm a0 a1 a2 hp r7 r13 (by omega) (by omega)
        (fun q1 lo a0 a1 a2 hm2 => im98_A 6 _ _ _ lo (by show F ≤ 0 + 6; omega) (by decide) (by show 0 ≤ F; omega) hm2 hp hT hF (by show z.toInt = 2 + 2 * T + 2 * 0; omega) a0 a1 a2)
        (fun q1 q5 x6 e7 y8 e9 x10 e11 x15 e16 lo a0 a1 a2 hm2 => by exfalso; omega)
        (fun q1 q5 x20 e21 y22 e23 x24 e25 x29 e30 lo a0 a1 a2 hm2 => by exfalso; omega)
  | succ f ih =>
    intro mem z t lo hf h0 h1 hm hp hT hF hz a0 a1 a2
    have r7 := pA_r7 hm
    have r13 := pA_r13 hm
    exact w_im37A hm a0 a1 a2 hp r7 r13 (by omega) (by omega)
        (fun q1 lo a0 a1 a2 hm2 => im98_A 6 _ _ _ lo (by show F ≤ 0 + 6; omega) (by decide) (by show 0 ≤ F; omega) hm2 hp hT hF (by show z.toInt = 2 + 2 * T + 2 * 0; omega) a0 a1 a2)
        (fun q1 q5 x6 e7 y8 e9 x10 e11 x15 e16 lo a0 a1 a2 hm2 => ih _ x10 x15 lo (by omega) (by omega) (by omega) hm2 (zfl_sa.trans (zfl_sa.trans hp)) (by rw [((gi_sa).trans (gi_sa))]; exact hT) (by rw [((gi_sa).trans (gi_sa))]; exact hF) (by omega) a0 a1 a2)
        (fun q1 q5 x20 e21 y22 e23 x24 e25 x29 e30 lo a0 a1 a2 hm2 => ih _ x24 x29 lo (by omega) (by omega) (by omega) hm2 (zfl_sa.trans (zfl_sa.trans hp)) (by rw [((gi_sa).trans (gi_sa))]; exact hT) (by rw [((gi_sa).trans (gi_sa))]; exact hF) (by omega) a0 a1 a2)
set_option maxRecDepth 100000 in
theorem w_im0A {d : Nat} {mem : zM} {P : Option Value → zM → Prop} {lo : List (Nat × Value)} (hm : aTm aT0 mem) (l_0 : zlg lo 0 = some (.ref 0)) (hp : zfl mem 0 4 = some (.ref 2)) (h7 : 0 ≤ (gi mem 2 7).toInt ∧ (gi mem 2 7).toInt ≤ 9) (h13 : 0 ≤ (gi mem 2 13).toInt ∧ (gi mem 2 13).toInt ≤ 6) (h1 : ∀ lo, zlg lo 0 = some (.ref 0) → zlg lo 1 = some (.int 2) → zlg lo 2 = some (.int 0) → aTm aT0 (sx (sx mem 219 0 ((gi mem 31 0) >>> (8 &&& 31))) 219 1 ((gi mem 31 0) &&& 255)) → yR zpg tX11_image (d + 2) (37, lo, [], (sx (sx mem 219 0 ((gi mem 31 0) >>> (8 &&& 31))) 219 1 ((gi mem 31 0) &&& 255))) P) : yR zpg tX11_image (d + 2) (0, lo, [], mem) P := by
  refine wR_la rfl l_0 ?_
  refine wR_gr rfl cO_e cO_12 hm ?_
  refine yR_m 1 (fun _ _ _ _ => rfl) ?_
  refine wR_la rfl l_0 ?_
  refine wR_gr rfl cO_e cO_7 hm ?_
  refine wR_gi rfl nO_e nO_0 hm rfl ?_
  refine yR_m 2 (fun _ _ _ _ => rfl) ?_
  refine wN_as (a := 0) rfl aR_219 hm rfl (by decide) ?_
  have hm_1 : aTm aT0 (sx mem 219 0 ((gi mem 31 0) >>> (8 &&& 31))) := tm_sa aR_219 hm (i32_b _)
  refine wR_la rfl l_0 ?_
  refine wR_gr rfl cO_e cO_12 hm_1 ?_
  refine yR_m 1 (fun _ _ _ _ => rfl) ?_
  refine wR_la rfl l_0 ?_
  refine wR_gr rfl cO_e cO_7 hm_1 ?_
  refine wR_gi rfl nO_e nO_0 hm_1 (gi_sa) ?_
  refine yR_m 2 (fun _ _ _ _ => rfl) ?_
  refine wN_as (a := 1) rfl aR_219 hm_1 rfl (by decide) ?_
  have hm_2 : aTm aT0 (sx (sx mem 219 0 ((gi mem 31 0) >>> (8 &&& 31))) 219 1 ((gi mem 31 0) &&& 255)) := tm_sa aR_219 hm_1 (i32_b _)
  refine yR_m 1 (fun _ _ _ _ => rfl) ?_
  refine wR_si rfl rfl (fun lo1 e2 f3 => ?_)
  have lo1_0 := f3 0 _ (by decide) (Or.inl rfl) l_0
  refine yR_m 1 (fun _ _ _ _ => rfl) ?_
  refine wR_si rfl rfl (fun lo4 e5 f6 => ?_)
  have lo4_1 := f6 1 _ (by decide) (Or.inl rfl) e2
  have lo4_0 := f6 0 _ (by decide) (Or.inl rfl) lo1_0
  exact h1 lo4 lo4_0 lo4_1 e5 hm_2

theorem h_imA (hm : aTm aT0 mem) (hp : zfl mem 0 4 = some (.ref 2)) (hT : (gi mem 2 7).toInt = T) (hF : (gi mem 2 13).toInt = F) (hd : 3 ≤ d) : yC zpg d 140 [.ref 0] mem (fun r _ => ∃ v : Int32, r = some (.int v) ∧ v.toInt = 3 + 2 * T + 2 * F) := by
  obtain ⟨d, rfl⟩ : ∃ q, d = q + 3 := ⟨d - 3, by omega⟩
  have r7 := pA_r7 hm
  have r13 := pA_r13 hm
  refine yC_of (t := tX11_image) rfl rfl ?_
  exact w_im0A hm rfl hp r7 r13
        (fun  lo a0 a1 a2 hm2 => im37_A 9 _ _ _ lo (by show T ≤ 0 + 9; omega) (by decide) (by show 0 ≤ T; omega) hm2 (zfl_sa.trans (zfl_sa.trans hp)) (by rw [((gi_sa).trans (gi_sa))]; exact hT) (by rw [((gi_sa).trans (gi_sa))]; exact hF) rfl a0 a1 a2)
set_option maxRecDepth 100000 in
theorem w_im98B {d : Nat} {mem : zM} {P : Option Value → zM → Prop} {z t : Int32} {lo : List (Nat × Value)} (hm : aTm aT0 mem) (l_0 : zlg lo 0 = some (.ref 0)) (l_1 : zlg lo 1 = some (.int z)) (l_2 : zlg lo 2 = some (.int t)) (hp : zfl mem 0 4 = some (.ref 14)) (h7 : 0 ≤ (gi mem 14 7).toInt ∧ (gi mem 14 7).toInt ≤ 9) (h13 : 0 ≤ (gi mem 14 13).toInt ∧ (gi mem 14 13).toInt ≤ 6) (ht : 0 ≤ t.toInt ∧ t.toInt ≤ 6) (hz : z.toInt = 2 + 2 * (gi mem 14 7).toInt + 2 * t.toInt) (h1 : (gi mem 14 13).toInt ≤ (t).toInt → ∀ (v2 : Int32), True → ∀ (x4 : Int32), x4.toInt = ((z).toInt + 1) → aTm aT0 (si (sx mem 219 z v2) 0 13 x4) → P (some (.int x4)) (si (sx mem 219 z v2) 0 13 x4)) (h2 : (t).toInt < (gi mem 14 13).toInt → ∀ (y6 : Int32), y6.toInt = (gn (ga mem 33) (t).toInt) → ∀ (x8 : Int32), x8.toInt = ((z).toInt + 1) → ∀ (y10 : Int32), y10.toInt = (gn (ga mem 33) (t).toInt) → ∀ (x12 : Int32), x12.toInt = ((z).toInt + 2) → ∀ (x17 : Int32), x17.toInt = ((t).toInt + 1) → ∀ lo, zlg lo 0 = some (.ref 0) → zlg lo 1 = some (.int x12) → zlg lo 2 = some (.int x17) → aTm aT0 (sx (sx mem 219 z (y6 - y6 / 8 * 8)) 219 x8 (y10 / 8)) → yR zpg tX11_image (d + 2) (98, lo, [], (sx (sx mem 219 z (y6 - y6 / 8 * 8)) 219 x8 (y10 / 8))) P) : yR zpg tX11_image (d + 2) (98, lo, [], mem) P := by
  refine wR_li rfl l_2 ?_
  refine wR_la rfl l_0 ?_
  refine wR_gq rfl cO_e hm hp ?_
  refine wR_gi rfl quB_e quB_13 hm rfl ?_
  refine wR_ic_ge rfl (a := (t).toInt) (c := (gi mem 14 13).toInt) rfl rfl (fun q1 => ?_) (fun q1 => ?_)
  ·
    refine wR_la rfl l_0 ?_
    refine wR_gr rfl cO_e cO_12 hm ?_
    refine wR_li rfl l_1 ?_
    refine wR_la rfl l_0 ?_
    refine wR_gr rfl cO_e cO_12 hm ?_
    refine wR_li rfl l_1 ?_
    refine yR_cs rfl rfl rfl (h_chkI hm (by omega)) ?_
    rintro _ _ ⟨v2, rfl, rfl, k3⟩
    show yR zpg tX11_image (d + 2) (169, lo, [.int v2, .int z, .ref 219], mem) _
    refine wN_as (a := (z).toInt) rfl aR_219 hm rfl (by omega) ?_
    have hm_1 : aTm aT0 (sx mem 219 z v2) := tm_sa aR_219 hm (i32_b _)
    refine wR_la rfl l_0 ?_
    refine wR_li rfl l_1 ?_
    refine yR_m 1 (fun _ _ _ _ => rfl) ?_
    refine wN_add (a := (z).toInt) (b := 1) rfl rfl rfl (by omega) (fun x4 e5 => ?_)
    refine wR_pi rfl cO_e cO_13 hm_1 rfl ?_
    have hm_2 : aTm aT0 (si (sx mem 219 z v2) 0 13 x4) := tm_si cO_e cO_13 hm_1 (by rw [e5]; exact (by omega))
    refine wR_la rfl l_0 ?_
    refine wR_gi rfl cO_e cO_13 hm_2 (gi_si_eq cO_e cO_13 hm_1) ?_
    exact yR_ri rfl (h1 q1 v2 k3 x4 e5 hm_2)
  ·
    refine wR_la rfl l_0 ?_
    refine wR_gr rfl cO_e cO_12 hm ?_
    refine wR_li rfl l_1 ?_
    refine wR_la rfl l_0 ?_
    refine wR_gr rfl cO_e cO_7 hm ?_
    refine wR_gr rfl nO_e nO_3 hm ?_
    refine wR_li rfl l_2 ?_
    refine wN_al (a := (t).toInt) rfl aR_33 hm rfl rfl (by omega) (fun y6 e7 => ?_)
    refine wR_is rfl rfl rfl rfl rfl rfl ?_
    show yR zpg tX11_columnOf (d + 1) (0, [(0, .int y6)], [], mem) _
    refine yR_m 3 (fun _ _ _ _ => rfl) ?_
    refine yR_ri rfl ?_
    show yR zpg tX11_image (d + 2) (126, lo, [.int (y6 - y6 / 8 * 8), .int z, .ref 219], mem) _
    refine wN_as (a := (z).toInt) rfl aR_219 hm rfl (by omega) ?_
    have hm_3 : aTm aT0 (sx mem 219 z (y6 - y6 / 8 * 8)) := tm_sa aR_219 hm (i32_b _)
    refine wR_la rfl l_0 ?_
    refine wR_gr rfl cO_e cO_12 hm_3 ?_
    refine wR_li rfl l_1 ?_
    refine yR_m 1 (fun _ _ _ _ => rfl) ?_
    refine wN_add (a := (z).toInt) (b := 1) rfl rfl rfl (by omega) (fun x8 e9 => ?_)
    refine wR_la rfl l_0 ?_
    refine wR_gr rfl cO_e cO_7 hm_3 ?_
    refine wR_gr rfl nO_e nO_3 hm_3 ?_
    refine wR_li rfl l_2 ?_
    refine wN_al (a := (t).toInt) rfl aR_33 hm_3 (ga_sa_ne (by decide)) rfl (by omega) (fun y10 e11 => ?_)
    refine wR_is rfl rfl rfl rfl rfl rfl ?_
    show yR zpg tX11_rowOf (d + 1) (0, [(0, .int y10)], [], (sx mem 219 z (y6 - y6 / 8 * 8))) _
    refine yR_m 3 (fun _ _ _ _ => rfl) ?_
    refine yR_ri rfl ?_
    show yR zpg tX11_image (d + 2) (146, lo, [.int (y10 / 8), .int x8, .ref 219], (sx mem 219 z (y6 - y6 / 8 * 8))) _
    refine wN_as (a := ((z).toInt + 1)) rfl aR_219 hm_3 e9 (by omega) ?_
    have hm_4 : aTm aT0 (sx (sx mem 219 z (y6 - y6 / 8 * 8)) 219 x8 (y10 / 8)) := tm_sa aR_219 hm_3 (i32_b _)
    refine wN_in (a := (z).toInt) (b := 2) rfl rfl l_1 rfl rfl (by omega) (fun x12 e13 => fun lo14 e15 f16 => ?_)
    have lo14_0 := f16 0 _ (by decide) (Or.inl rfl) l_0
    have lo14_2 := f16 2 _ (by decide) (Or.inl rfl) l_2
    refine wN_in (a := (t).toInt) (b := 1) rfl rfl lo14_2 rfl rfl (by omega) (fun x17 e18 => fun lo19 e20 f21 => ?_)
    have lo19_1 := f21 1 _ (by decide) (Or.inl rfl) e15
    have lo19_0 := f21 0 _ (by decide) (Or.inl rfl) lo14_0
    exact yR_m 1 (fun _ _ _ _ => rfl) (h2 q1 y6 e7 x8 e9 y10 e11 x12 e13 x17 e18 lo19 lo19_0 lo19_1 e20 hm_4)

theorem im98_B : ∀ (f : Nat) (mem : zM) (z t : Int32) (lo : List (Nat × Value)), F ≤ t.toInt + (f : Int) → 0 ≤ t.toInt → t.toInt ≤ F → aTm aT0 mem → zfl mem 0 4 = some (.ref 14) → (gi mem 14 7).toInt = T → (gi mem 14 13).toInt = F → z.toInt = 2 + 2 * T + 2 * t.toInt → zlg lo 0 = some (.ref 0) → zlg lo 1 = some (.int z) → zlg lo 2 = some (.int t) → yR zpg tX11_image (d + 2) (98, lo, [], mem) (fun r _ => ∃ v : Int32, r = some (.int v) ∧ v.toInt = 3 + 2 * T + 2 * F) := by
  intro f
  induction f with
  | zero =>
    intro mem z t lo hf h0 h1 hm hp hT hF hz a0 a1 a2
    have r7 := pB_r7 hm
    have r13 := pB_r13 hm
    exact w_im98B hm a0 a1 a2 hp r7 r13 (by omega) (by omega)
        (fun q1 v2 k3 x4 e5 hm2 => ⟨_, rfl, by omega⟩)
        (fun q1 y6 e7 x8 e9 y10 e11 x12 e13 x17 e18 lo a0 a1 a2 hm2 => by exfalso; omega)
  | succ f ih =>
    intro mem z t lo hf h0 h1 hm hp hT hF hz a0 a1 a2
    have r7 := pB_r7 hm
    have r13 := pB_r13 hm
    exact w_im98B hm a0 a1 a2 hp r7 r13 (by omega) (by omega)
        (fun q1 v2 k3 x4 e5 hm2 => ⟨_, rfl, by omega⟩)
        (fun q1 y6 e7 x8 e9 y10 e11 x12 e13 x17 e18 lo a0 a1 a2 hm2 => ih _ x12 x17 lo (by omega) (by omega) (by omega) hm2 (zfl_sa.trans (zfl_sa.trans hp)) (by rw [((gi_sa).trans (gi_sa))]; exact hT) (by rw [((gi_sa).trans (gi_sa))]; exact hF) (by omega) a0 a1 a2)
set_option maxRecDepth 100000 in
theorem w_im37B {d : Nat} {mem : zM} {P : Option Value → zM → Prop} {z t : Int32} {lo : List (Nat × Value)} (hm : aTm aT0 mem) (l_0 : zlg lo 0 = some (.ref 0)) (l_1 : zlg lo 1 = some (.int z)) (l_2 : zlg lo 2 = some (.int t)) (hp : zfl mem 0 4 = some (.ref 14)) (h7 : 0 ≤ (gi mem 14 7).toInt ∧ (gi mem 14 7).toInt ≤ 9) (h13 : 0 ≤ (gi mem 14 13).toInt ∧ (gi mem 14 13).toInt ≤ 6) (ht : 0 ≤ t.toInt ∧ t.toInt ≤ 9) (hz : z.toInt = 2 + 2 * t.toInt) (h1 : (gi mem 14 7).toInt ≤ (t).toInt → ∀ lo, zlg lo 0 = some (.ref 0) → zlg lo 1 = some (.int z) → zlg lo 2 = some (.int 0) → aTm aT0 mem → yR zpg tX11_image (d + 2) (98, lo, [], mem) P) (h2 : (t).toInt < (gi mem 14 7).toInt → (((gi mem 31 1) >>> (t &&& 31)) &&& 1).toInt = 0 → ∀ (x6 : Int32), x6.toInt = ((z).toInt + 1) → ∀ (y8 : Int32), y8.toInt = (gn (ga mem 32) (t).toInt) → ∀ (x10 : Int32), x10.toInt = ((z).toInt + 2) → ∀ (x15 : Int32), x15.toInt = ((t).toInt + 1) → ∀ lo, zlg lo 0 = some (.ref 0) → zlg lo 1 = some (.int x10) → zlg lo 2 = some (.int x15) → aTm aT0 (sx (sx mem 219 z 0) 219 x6 y8) → yR zpg tX11_image (d + 2) (37, lo, [], (sx (sx mem 219 z 0) 219 x6 y8)) P) (h3 : (t).toInt < (gi mem 14 7).toInt → ¬ (((gi mem 31 1) >>> (t &&& 31)) &&& 1).toInt = 0 → ∀ (x20 : Int32), x20.toInt = ((z).toInt + 1) → ∀ (y22 : Int32), y22.toInt = (gn (ga mem 32) (t).toInt) → ∀ (x24 : Int32), x24.toInt = ((z).toInt + 2) → ∀ (x29 : Int32), x29.toInt = ((t).toInt + 1) → ∀ lo, zlg lo 0 = some (.ref 0) → zlg lo 1 = some (.int x24) → zlg lo 2 = some (.int x29) → aTm aT0 (sx (sx mem 219 z 1) 219 x20 y22) → yR zpg tX11_image (d + 2) (37, lo, [], (sx (sx mem 219 z 1) 219 x20 y22)) P) : yR zpg tX11_image (d + 2) (37, lo, [], mem) P := by
  refine wR_li rfl l_2 ?_
  refine wR_la rfl l_0 ?_
  refine wR_gq rfl cO_e hm hp ?_
  refine wR_gi rfl quB_e quB_7 hm rfl ?_
  refine wR_ic_ge rfl (a := (t).toInt) (c := (gi mem 14 7).toInt) rfl rfl (fun q1 => ?_) (fun q1 => ?_)
  ·
    refine yR_m 1 (fun _ _ _ _ => rfl) ?_
    refine wR_si rfl rfl (fun lo2 e3 f4 => ?_)
    have lo2_0 := f4 0 _ (by decide) (Or.inl rfl) l_0
    have lo2_1 := f4 1 _ (by decide) (Or.inl rfl) l_1
    exact h1 q1 lo2 lo2_0 lo2_1 e3 hm
  ·
    refine wR_la rfl l_0 ?_
    refine wR_gr rfl cO_e cO_12 hm ?_
    refine wR_li rfl l_1 ?_
    refine wR_la rfl l_0 ?_
    refine wR_gr rfl cO_e cO_7 hm ?_
    refine wR_li rfl l_2 ?_
    refine wR_iv rfl rfl nO_e hm rfl rfl rfl rfl ?_
    show yR zpg tX8_isMissing (d + 1) (0, [(0, .ref 31), (1, .int t)], [], mem) _
    refine yR_m 1 (fun _ _ _ _ => rfl) ?_
    refine wR_gi rfl nO_e nO_1 hm rfl ?_
    refine yR_m 4 (fun _ _ _ _ => rfl) ?_
    refine wR_if_eq rfl (a := (((gi mem 31 1) >>> (t &&& 31)) &&& 1).toInt) rfl (fun q5 => ?_) (fun q5 => ?_)
    ·
      refine yR_m 1 (fun _ _ _ _ => rfl) ?_
      refine yR_rz rfl ⟨by decide, by decide⟩ ?_
      show yR zpg tX11_image (d + 2) (61, lo, [.int 0, .int z, .ref 219], mem) _
      refine wR_if_eq rfl (a := 0) rfl (fun _ => ?_) (fun q => by exfalso; omega)
      refine yR_m 1 (fun _ _ _ _ => rfl) ?_
      refine wN_as (a := (z).toInt) rfl aR_219 hm rfl (by omega) ?_
      have hm_1 : aTm aT0 (sx mem 219 z 0) := tm_sa aR_219 hm (i32_b _)
      refine wR_la rfl l_0 ?_
      refine wR_gr rfl cO_e cO_12 hm_1 ?_
      refine wR_li rfl l_1 ?_
      refine yR_m 1 (fun _ _ _ _ => rfl) ?_
      refine wN_add (a := (z).toInt) (b := 1) rfl rfl rfl (by omega) (fun x6 e7 => ?_)
      refine wR_la rfl l_0 ?_
      refine wR_gr rfl cO_e cO_7 hm_1 ?_
      refine wR_gr rfl nO_e nO_2 hm_1 ?_
      refine wR_li rfl l_2 ?_
      refine wN_al (a := (t).toInt) rfl aR_32 hm_1 (ga_sa_ne (by decide)) rfl (by omega) (fun y8 e9 => ?_)
      refine wN_as (a := ((z).toInt + 1)) rfl aR_219 hm_1 e7 (by omega) ?_
      have hm_2 : aTm aT0 (sx (sx mem 219 z 0) 219 x6 y8) := tm_sa aR_219 hm_1 (i32_b _)
      refine wN_in (a := (z).toInt) (b := 2) rfl rfl l_1 rfl rfl (by omega) (fun x10 e11 => fun lo12 e13 f14 => ?_)
      have lo12_0 := f14 0 _ (by decide) (Or.inl rfl) l_0
      have lo12_2 := f14 2 _ (by decide) (Or.inl rfl) l_2
      refine wN_in (a := (t).toInt) (b := 1) rfl rfl lo12_2 rfl rfl (by omega) (fun x15 e16 => fun lo17 e18 f19 => ?_)
      have lo17_1 := f19 1 _ (by decide) (Or.inl rfl) e13
      have lo17_0 := f19 0 _ (by decide) (Or.inl rfl) lo12_0
      exact yR_m 1 (fun _ _ _ _ => rfl) (h2 q1 q5 x6 e7 y8 e9 x10 e11 x15 e16 lo17 lo17_0 lo17_1 e18 hm_2)
    ·
      refine yR_m 2 (fun _ _ _ _ => rfl) ?_
      refine yR_rz rfl ⟨by decide, by decide⟩ ?_
      show yR zpg tX11_image (d + 2) (61, lo, [.int 1, .int z, .ref 219], mem) _
      refine wR_if_eq rfl (a := 1) rfl (fun q => by exfalso; omega) (fun _ => ?_)
      refine yR_m 2 (fun _ _ _ _ => rfl) ?_
      refine wN_as (a := (z).toInt) rfl aR_219 hm rfl (by omega) ?_
      have hm_3 : aTm aT0 (sx mem 219 z 1) := tm_sa aR_219 hm (i32_b _)
      refine wR_la rfl l_0 ?_
      refine wR_gr rfl cO_e cO_12 hm_3 ?_
      refine wR_li rfl l_1 ?_
      refine yR_m 1 (fun _ _ _ _ => rfl) ?_
      refine wN_add (a := (z).toInt) (b := 1) rfl rfl rfl (by omega) (fun x20 e21 => ?_)
      refine wR_la rfl l_0 ?_
      refine wR_gr rfl cO_e cO_7 hm_3 ?_
      refine wR_gr rfl nO_e nO_2 hm_3 ?_
      refine wR_li rfl l_2 ?_
      refine wN_al (a := (t).toInt) rfl aR_32 hm_3 (ga_sa_ne (by decide)) rfl (by omega) (fun y22 e23 => ?_)
      refine wN_as (a := ((z).toInt + 1)) rfl aR_219 hm_3 e21 (by omega) ?_
      have hm_4 : aTm aT0 (sx (sx mem 219 z 1) 219 x20 y22) := tm_sa aR_219 hm_3 (i32_b _)
      refine wN_in (a := (z).toInt) (b := 2) rfl rfl l_1 rfl rfl (by omega) (fun x24 e25 => fun lo26 e27 f28 => ?_)
      have lo26_0 := f28 0 _ (by decide) (Or.inl rfl) l_0
      have lo26_2 := f28 2 _ (by decide) (Or.inl rfl) l_2
      refine wN_in (a := (t).toInt) (b := 1) rfl rfl lo26_2 rfl rfl (by omega) (fun x29 e30 => fun lo31 e32 f33 => ?_)
      have lo31_1 := f33 1 _ (by decide) (Or.inl rfl) e27
      have lo31_0 := f33 0 _ (by decide) (Or.inl rfl) lo26_0
      exact yR_m 1 (fun _ _ _ _ => rfl) (h3 q1 q5 x20 e21 y22 e23 x24 e25 x29 e30 lo31 lo31_0 lo31_1 e32 hm_4)

theorem im37_B : ∀ (f : Nat) (mem : zM) (z t : Int32) (lo : List (Nat × Value)), T ≤ t.toInt + (f : Int) → 0 ≤ t.toInt → t.toInt ≤ T → aTm aT0 mem → zfl mem 0 4 = some (.ref 14) → (gi mem 14 7).toInt = T → (gi mem 14 13).toInt = F → z.toInt = 2 + 2 * t.toInt → zlg lo 0 = some (.ref 0) → zlg lo 1 = some (.int z) → zlg lo 2 = some (.int t) → yR zpg tX11_image (d + 2) (37, lo, [], mem) (fun r _ => ∃ v : Int32, r = some (.int v) ∧ v.toInt = 3 + 2 * T + 2 * F) := by
  intro f
  induction f with
  | zero =>
    intro mem z t lo hf h0 h1 hm hp hT hF hz a0 a1 a2
    have r7 := pB_r7 hm
    have r13 := pB_r13 hm
    exact w_im37B hm a0 a1 a2 hp r7 r13 (by omega) (by omega)
        (fun q1 lo a0 a1 a2 hm2 => im98_B 6 _ _ _ lo (by show F ≤ 0 + 6; omega) (by decide) (by show 0 ≤ F; omega) hm2 hp hT hF (by show z.toInt = 2 + 2 * T + 2 * 0; omega) a0 a1 a2)
        (fun q1 q5 x6 e7 y8 e9 x10 e11 x15 e16 lo a0 a1 a2 hm2 => by exfalso; omega)
        (fun q1 q5 x20 e21 y22 e23 x24 e25 x29 e30 lo a0 a1 a2 hm2 => by exfalso; omega)
  | succ f ih =>
    intro mem z t lo hf h0 h1 hm hp hT hF hz a0 a1 a2
    have r7 := pB_r7 hm
    have r13 := pB_r13 hm
    exact w_im37B hm a0 a1 a2 hp r7 r13 (by omega) (by omega)
        (fun q1 lo a0 a1 a2 hm2 => im98_B 6 _ _ _ lo (by show F ≤ 0 + 6; omega) (by decide) (by show 0 ≤ F; omega) hm2 hp hT hF (by show z.toInt = 2 + 2 * T + 2 * 0; omega) a0 a1 a2)
        (fun q1 q5 x6 e7 y8 e9 x10 e11 x15 e16 lo a0 a1 a2 hm2 => ih _ x10 x15 lo (by omega) (by omega) (by omega) hm2 (zfl_sa.trans (zfl_sa.trans hp)) (by rw [((gi_sa).trans (gi_sa))]; exact hT) (by rw [((gi_sa).trans (gi_sa))]; exact hF) (by omega) a0 a1 a2)
        (fun q1 q5 x20 e21 y22 e23 x24 e25 x29 e30 lo a0 a1 a2 hm2 => ih _ x24 x29 lo (by omega) (by omega) (by omega) hm2 (zfl_sa.trans (zfl_sa.trans hp)) (by rw [((gi_sa).trans (gi_sa))]; exact hT) (by rw [((gi_sa).trans (gi_sa))]; exact hF) (by omega) a0 a1 a2)
set_option maxRecDepth 100000 in
theorem w_im0B {d : Nat} {mem : zM} {P : Option Value → zM → Prop} {lo : List (Nat × Value)} (hm : aTm aT0 mem) (l_0 : zlg lo 0 = some (.ref 0)) (hp : zfl mem 0 4 = some (.ref 14)) (h7 : 0 ≤ (gi mem 14 7).toInt ∧ (gi mem 14 7).toInt ≤ 9) (h13 : 0 ≤ (gi mem 14 13).toInt ∧ (gi mem 14 13).toInt ≤ 6) (h1 : ∀ lo, zlg lo 0 = some (.ref 0) → zlg lo 1 = some (.int 2) → zlg lo 2 = some (.int 0) → aTm aT0 (sx (sx mem 219 0 ((gi mem 31 0) >>> (8 &&& 31))) 219 1 ((gi mem 31 0) &&& 255)) → yR zpg tX11_image (d + 2) (37, lo, [], (sx (sx mem 219 0 ((gi mem 31 0) >>> (8 &&& 31))) 219 1 ((gi mem 31 0) &&& 255))) P) : yR zpg tX11_image (d + 2) (0, lo, [], mem) P := by
  refine wR_la rfl l_0 ?_
  refine wR_gr rfl cO_e cO_12 hm ?_
  refine yR_m 1 (fun _ _ _ _ => rfl) ?_
  refine wR_la rfl l_0 ?_
  refine wR_gr rfl cO_e cO_7 hm ?_
  refine wR_gi rfl nO_e nO_0 hm rfl ?_
  refine yR_m 2 (fun _ _ _ _ => rfl) ?_
  refine wN_as (a := 0) rfl aR_219 hm rfl (by decide) ?_
  have hm_1 : aTm aT0 (sx mem 219 0 ((gi mem 31 0) >>> (8 &&& 31))) := tm_sa aR_219 hm (i32_b _)
  refine wR_la rfl l_0 ?_
  refine wR_gr rfl cO_e cO_12 hm_1 ?_
  refine yR_m 1 (fun _ _ _ _ => rfl) ?_
  refine wR_la rfl l_0 ?_
  refine wR_gr rfl cO_e cO_7 hm_1 ?_
  refine wR_gi rfl nO_e nO_0 hm_1 (gi_sa) ?_
  refine yR_m 2 (fun _ _ _ _ => rfl) ?_
  refine wN_as (a := 1) rfl aR_219 hm_1 rfl (by decide) ?_
  have hm_2 : aTm aT0 (sx (sx mem 219 0 ((gi mem 31 0) >>> (8 &&& 31))) 219 1 ((gi mem 31 0) &&& 255)) := tm_sa aR_219 hm_1 (i32_b _)
  refine yR_m 1 (fun _ _ _ _ => rfl) ?_
  refine wR_si rfl rfl (fun lo1 e2 f3 => ?_)
  have lo1_0 := f3 0 _ (by decide) (Or.inl rfl) l_0
  refine yR_m 1 (fun _ _ _ _ => rfl) ?_
  refine wR_si rfl rfl (fun lo4 e5 f6 => ?_)
  have lo4_1 := f6 1 _ (by decide) (Or.inl rfl) e2
  have lo4_0 := f6 0 _ (by decide) (Or.inl rfl) lo1_0
  exact h1 lo4 lo4_0 lo4_1 e5 hm_2

theorem h_imB (hm : aTm aT0 mem) (hp : zfl mem 0 4 = some (.ref 14)) (hT : (gi mem 14 7).toInt = T) (hF : (gi mem 14 13).toInt = F) (hd : 3 ≤ d) : yC zpg d 140 [.ref 0] mem (fun r _ => ∃ v : Int32, r = some (.int v) ∧ v.toInt = 3 + 2 * T + 2 * F) := by
  obtain ⟨d, rfl⟩ : ∃ q, d = q + 3 := ⟨d - 3, by omega⟩
  have r7 := pB_r7 hm
  have r13 := pB_r13 hm
  refine yC_of (t := tX11_image) rfl rfl ?_
  exact w_im0B hm rfl hp r7 r13
        (fun  lo a0 a1 a2 hm2 => im37_B 9 _ _ _ lo (by show T ≤ 0 + 9; omega) (by decide) (by show 0 ≤ T; omega) hm2 (zfl_sa.trans (zfl_sa.trans hp)) (by rw [((gi_sa).trans (gi_sa))]; exact hT) (by rw [((gi_sa).trans (gi_sa))]; exact hF) rfl a0 a1 a2)
theorem h_im_c (hm : aTm aT0 mem) (hP : pQ Y mem) (hd : 3 ≤ d) : yC zpg d 140 [.ref 0] mem (fun r _ => ∃ v : Int32, r = some (.int v) ∧ v.toInt = 3 + 2 * ((Qt Y).length : Int) + 2 * ((Qf Y).length : Int)) := by
  rcases hP with h | h
  · exact h_imA hm h.1 h.2.2.2.2.2.1.1 h.2.2.2.2.2.2.2.1.1 hd
  · exact h_imB hm h.1 h.2.2.2.2.2.1.1 h.2.2.2.2.2.2.2.1.1 hd
end IM
