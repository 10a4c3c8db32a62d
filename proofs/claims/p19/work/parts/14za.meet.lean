/-! meet of both sides -/
section MT
variable {d : Nat} {mem m : zM} {Y Z : Qd} {T U : List Int32} {C R F : Int} {n : Int32}
def mtO (T : List Int32) (C R F j : Int) : Prop := gn T (4 * j) ≤ 30 ∧ gn T (4 * j + 1) < F ∧ gn T (4 * j + 2) < C ∧ gn T (4 * j + 3) < R
def mtK (T : List Int32) (n C R F : Int) : Prop := (4 ≤ n ∧ n ≤ 64 ∧ n % 4 = 0) ∧ ∀ j, 0 ≤ j → 4 * j < n → mtO T C R F j
def mtA (T : List Int32) (n C R F v : Int) : Prop := (mtK T n C R F ∧ v = n / 4) ∨ (¬ mtK T n C R F ∧ v = -1)
theorem mtK_c {n : Int} (h : smT T U) (k : mtK T n C R F) : mtK U n C R F := ⟨k.1, fun j j0 j1 => by
  have o := k.2 j j0 j1
  have l := k.1
  unfold mtO at o ⊢
  rw [← h (4 * j) (by omega), ← h (4 * j + 1) (by omega), ← h (4 * j + 2) (by omega), ← h (4 * j + 3) (by omega)]
  exact o⟩
theorem mt_eq {n v v' : Int} (h : smT T U) (a : mtA T n C R F v) (b : mtA U n C R F v') : v = v' := by
  have h' : smT U T := fun i hi => (h i hi).symm
  rcases a with ⟨a1, a2⟩ | ⟨a1, a2⟩ <;> rcases b with ⟨b1, b2⟩ | ⟨b1, b2⟩
  · rw [a2, b2]
  · exact absurd (mtK_c h a1) b1
  · exact absurd (mtK_c h' b1) a1
  · rw [a2, b2]
def plO : List (Bool × aTy) := match aat aT0 185 with
  | some (.inr o) => o.2
  | _ => []
set_option maxRecDepth 100000 in
theorem plO_e : aat aT0 185 = some (.inr (3, plO)) := rfl
set_option maxRecDepth 100000 in
theorem plO_0 : plO[0]? = some (false, .inr (some [181])) := rfl
set_option maxRecDepth 100000 in
theorem plO_1 : plO[1]? = some (false, .inr (some [186])) := rfl
set_option maxRecDepth 100000 in
theorem plO_2 : plO[2]? = some (false, .inr (some [187])) := rfl
set_option maxRecDepth 100000 in
theorem plO_3 : plO[3]? = some (false, .inr (some [188])) := rfl
set_option maxRecDepth 100000 in
theorem plO_4 : plO[4]? = some (false, .inr (some [189])) := rfl
set_option maxRecDepth 100000 in
theorem plO_5 : plO[5]? = some (false, .inr (some [190])) := rfl
set_option maxRecDepth 100000 in
theorem plO_6 : plO[6]? = some (false, .inl (-2147483648, 2147483647)) := rfl
set_option maxRecDepth 100000 in
theorem plO_7 : plO[7]? = some (false, .inl (-2147483648, 2147483647)) := rfl
set_option maxRecDepth 100000 in
theorem plO_8 : plO[8]? = some (false, .inr (some [191])) := rfl
set_option maxRecDepth 100000 in
theorem plO_9 : plO[9]? = some (true, .inl (0, 16)) := rfl
theorem plO_r9 {m : zM} (hm : aTm aT0 m) : 0 ≤ (gi m 185 9).toInt ∧ (gi m 185 9).toInt ≤ 16 := gi_rg plO_e plO_9 hm
set_option maxRecDepth 100000 in
theorem plO_10 : plO[10]? = some (false, .inl (-2147483648, 2147483647)) := rfl
set_option maxRecDepth 100000 in
theorem plO_11 : plO[11]? = some (false, .inl (-2147483648, 2147483647)) := rfl
set_option maxRecDepth 100000 in
theorem plO_12 : plO[12]? = some (false, .inl (-2147483648, 2147483647)) := rfl
def haO : List (Bool × aTy) := match aat aT0 181 with
  | some (.inr o) => o.2
  | _ => []
set_option maxRecDepth 100000 in
theorem haO_e : aat aT0 181 = some (.inr (0, haO)) := rfl
set_option maxRecDepth 100000 in
theorem haO_0 : haO[0]? = some (true, .inr (some [2, 14])) := rfl
set_option maxRecDepth 100000 in
theorem haO_1 : haO[1]? = some (false, .inr (some [182])) := rfl
set_option maxRecDepth 100000 in
theorem haO_2 : haO[2]? = some (false, .inr (some [184])) := rfl
set_option maxRecDepth 100000 in
theorem haO_3 : haO[3]? = some (false, .inl (0, 511)) := rfl
theorem haO_r3 {m : zM} (hm : aTm aT0 m) : 0 ≤ (gi m 181 3).toInt ∧ (gi m 181 3).toInt ≤ 511 := gi_rg haO_e haO_3 hm
set_option maxRecDepth 100000 in
theorem haO_4 : haO[4]? = some (false, .inl (0, 511)) := rfl
theorem haO_r4 {m : zM} (hm : aTm aT0 m) : 0 ≤ (gi m 181 4).toInt ∧ (gi m 181 4).toInt ≤ 511 := gi_rg haO_e haO_4 hm
set_option maxRecDepth 100000 in
theorem aR_191 : aat aT0 191 = some (.inl (true, 0, 64, .inl (0, 255))) := rfl
theorem gR_191 {m : zM} (hm : aTm aT0 m) {i : Int} (h0 : 0 ≤ i) (h1 : i < 64) : 0 ≤ gn (ga m 191) i ∧ gn (ga m 191) i ≤ 255 := gn_rg aR_191 hm h0 h1
theorem gl_191 {m : zM} (hm : aTm aT0 m) : (ga m 191).length = 64 := (ga_ty aR_191 hm).2.1
theorem tm86 {lo : List (Nat × Value)} (hm : aTm aT0 mem) (n0 : 0 ≤ n.toInt) (n1 : n.toInt ≤ 64) (a0 : zlg lo 0 = some (.ref 185)) (a1 : zlg lo 1 = some (.ref 1)) (a2 : zlg lo 2 = some (.int n)) : yR zpg tX3_takesMet (d + 1) (86, lo, [], mem) (fun r m => r = some (.int 1) ∧ (gi m 185 9).toInt = n.toInt / 4) := by
  obtain ⟨fs, hf, hg⟩ := aTm_o hm aPo_e
  obtain ⟨a, ha, ha1⟩ := aTf_at (i := 8) hg rfl
  have ha2 := aTv_r ha1
  subst ha2
  obtain ⟨b, hb, -⟩ := aTf_at (i := 9) hg rfl
  obtain ⟨l, hl, hl2, -⟩ := aTm_a (k := 191) hm rfl
  obtain ⟨T, hT, hT2, -⟩ := aTm_a (k := 1) hm rfl
  have hc := zclamp n0
  refine wR_la rfl a1 ?_
  refine yR_m 1 (fun _ _ _ _ => rfl) ?_
  refine wR_la rfl a0 ?_
  refine yR_gf rfl hf ha ?_
  refine yR_m 1 (fun _ _ _ _ => rfl) ?_
  refine wR_li rfl a2 ?_
  have e : Bool.and (Bool.and (Nat.beq 0 0) (Nat.beq 0 0)) (Bool.and (Bool.and (!decide ((0 : Int32) < 0)) (Bool.and (!decide ((0 : Int32) < 0)) (!decide (n < 0)))) (Bool.and (Bool.and (Nat.ble (Int32.toNatClampNeg 0 + n.toNatClampNeg) T.length) (Nat.ble (Int32.toNatClampNeg 0 + n.toNatClampNeg) l.length)) (Nat.ble (zwd []) 8))) = true := by
    have z0 : Int32.toNatClampNeg 0 = 0 := rfl
    rw [zneg_f n0, zneg_f (x := 0) (by decide), z0, Nat.ble_eq_true_of_le (by omega), Nat.ble_eq_true_of_le (by omega)]
    rfl
  refine yR_next (st' := (97, lo, [], mem.set 191 (.inl (0, .inl (zcpl T l 0 0 n.toNatClampNeg))))) (f := zcp 0) rfl (fun Y rec κ ρ => ?_) ?_
  · simp only [zcp, hT, hl, e]
    rfl
  · have hz : zat (mem.set 191 (.inl (0, .inl (zcpl T l 0 0 n.toNatClampNeg)))) 185 = some (.inr (3, fs)) := (zat_ne_set (by decide)).trans hf
    refine wR_la rfl a0 ?_
    refine wR_li rfl a2 ?_
    refine yR_m 2 (fun _ _ _ _ => rfl) ?_
    refine yR_pf rfl hz (List.getElem?_eq_some_iff.mp hb).1 rfl ?_
    refine yR_m 1 (fun _ _ _ _ => rfl) ?_
    have hd4 : (n / 4).toInt = n.toInt.tdiv 4 := i32_div (y := 4) (by decide)
    have hd5 : n.toInt.tdiv 4 = n.toInt / 4 := Int.tdiv_eq_ediv_of_nonneg n0
    refine yR_rz rfl ⟨by decide, by decide⟩ ⟨rfl, ?_⟩
    rw [gi_at (zat_eq_set hz) (List.getElem?_set_self (List.getElem?_eq_some_iff.mp hb).1)]
    show (n / 4).toInt = _
    omega
set_option maxRecDepth 100000 in
theorem w_mt {d : Nat} {mem : zM} {P : Option Value → zM → Prop} {T : List Int32} {C R F : Int} (hm : aTm aT0 mem) (hTM : aTm aT0 (si mem 0 1 0) → yC zpg (d + 3) 40 [.ref 185, .ref 1, .int (gi mem 0 1)] (si mem 0 1 0) (fun r m => ∃ v : Int32, r = some (.int v) ∧ aTm aT0 m ∧ ((v.toInt = 1 ∧ mtK T (gi mem 0 1).toInt C R F ∧ (gi m 185 9).toInt = (gi mem 0 1).toInt / 4) ∨ (v.toInt = 0 ∧ ¬ mtK T (gi mem 0 1).toInt C R F)))) (h1 : ∀ (v3 : Int32) (m1 : zM), aTm aT0 m1 → ((v3.toInt = 1 ∧ mtK T (gi mem 0 1).toInt C R F ∧ (gi m1 185 9).toInt = (gi mem 0 1).toInt / 4) ∨ (v3.toInt = 0 ∧ ¬ mtK T (gi mem 0 1).toInt C R F)) → (v3).toInt = 0 → ∀ (y5 : Int32), y5.toInt = (gn (ga m1 220) 5) → aTm aT0 (sx m1 220 5 (y5 + 1)) → P (some (.int (-1))) (sx m1 220 5 (y5 + 1))) (h2 : ∀ (v3 : Int32) (m1 : zM), aTm aT0 m1 → ((v3.toInt = 1 ∧ mtK T (gi mem 0 1).toInt C R F ∧ (gi m1 185 9).toInt = (gi mem 0 1).toInt / 4) ∨ (v3.toInt = 0 ∧ ¬ mtK T (gi mem 0 1).toInt C R F)) → ¬ (v3).toInt = 0 → aTm aT0 m1 → P (some (.int (gi m1 185 9))) m1) : yR zpg tX11_meet (d + 3) (0, [(0, .ref 0)], [], mem) P := by
  refine yR_m 1 (fun _ _ _ _ => rfl) ?_
  refine wR_iv rfl rfl cO_e hm rfl rfl rfl rfl ?_
  show yR zpg tX11_takeTape (d + 2) (0, [(0, .ref 0)], [], mem) _
  refine yR_m 1 (fun _ _ _ _ => rfl) ?_
  refine wR_gi rfl cO_e cO_1 hm rfl ?_
  refine yR_m 3 (fun _ _ _ _ => rfl) ?_
  refine wR_pi rfl cO_e cO_1 hm rfl ?_
  have hm_1 : aTm aT0 (si mem 0 1 0) := tm_si cO_e cO_1 hm (by decide)
  refine yR_m 1 (fun _ _ _ _ => rfl) ?_
  refine yR_ri rfl ?_
  show yR zpg tX11_meet (d + 3) (4, [(0, .ref 0)], [.int (gi mem 0 1)], (si mem 0 1 0)) _
  refine yR_m 2 (fun _ _ _ _ => rfl) ?_
  refine wR_gr rfl cO_e cO_11 hm_1 ?_
  refine yR_m 1 (fun _ _ _ _ => rfl) ?_
  refine wR_gr rfl cO_e cO_0 hm_1 ?_
  refine yR_m 1 (fun _ _ _ _ => rfl) ?_
  refine wR_cv rfl rfl plO_e hm_1 rfl (hTM hm_1) ?_
  rintro _ m1 ⟨v3, rfl, hm1, k2⟩
  show yR zpg tX11_meet (d + 3) (17, [(1, .int (gi mem 0 1)), (0, .ref 0)], [.int v3], m1) _
  refine wR_if_eq rfl (a := (v3).toInt) rfl (fun q4 => ?_) (fun q4 => ?_)
  ·
    refine yR_m 2 (fun _ _ _ _ => rfl) ?_
    refine wR_iv rfl rfl cO_e hm1 rfl rfl rfl rfl ?_
    show yR zpg tX11_refuse (d + 2) (0, [(0, .ref 0), (1, .int 5)], [], m1) _
    refine yR_m 1 (fun _ _ _ _ => rfl) ?_
    refine wR_gr rfl cO_e cO_14 hm1 ?_
    refine yR_m 2 (fun _ _ _ _ => rfl) ?_
    refine wN_al (a := 5) rfl aR_220 hm1 rfl rfl (by decide) (fun y5 e6 => ?_)
    refine yR_m 2 (fun _ _ _ _ => rfl) ?_
    refine wN_as (a := 5) rfl aR_220 hm1 rfl (by decide) ?_
    have hm_2 : aTm aT0 (sx m1 220 5 (y5 + 1)) := tm_sa aR_220 hm1 (i32_b _)
    refine yR_m 1 (fun _ _ _ _ => rfl) ?_
    refine yR_ri rfl ?_
    show yR zpg tX11_meet (d + 3) (35, [(1, .int (gi mem 0 1)), (0, .ref 0)], [.int (-1)], (sx m1 220 5 (y5 + 1))) _
    exact yR_ri rfl (h1 v3 m1 hm1 k2 q4 y5 e6 hm_2)
  ·
    refine yR_m 1 (fun _ _ _ _ => rfl) ?_
    refine wR_gr rfl cO_e cO_11 hm1 ?_
    refine wR_gi rfl plO_e plO_9 hm1 rfl ?_
    refine yR_m 1 (fun _ _ _ _ => rfl) ?_
    exact yR_ri rfl (h2 v3 m1 hm1 k2 q4 hm1)

set_option maxRecDepth 100000 in
theorem w_nm123 {d : Nat} {mem : zM} {P : Option Value → zM → Prop} {n k : Int32} {lo : List (Nat × Value)} (hm : aTm aT0 mem) (l_0 : zlg lo 0 = some (.ref 221)) (l_1 : zlg lo 1 = some (.int n)) (l_3 : zlg lo 3 = some (.int k)) (hk : 0 ≤ k.toInt ∧ k.toInt ≤ 16) (h66 : 0 ≤ (gi mem 221 66).toInt ∧ (gi mem 221 66).toInt ≤ 16) (h1 : (gi mem 221 66).toInt ≤ (k).toInt → aTm aT0 mem → P (some (.int (gi mem 221 66))) mem) (s1 : (k).toInt < (gi mem 221 66).toInt → ∀ (x2 : Int32), x2.toInt = (4 * (k).toInt) → ∀ (y4 : Int32), y4.toInt = (gn (ga mem 222) (4 * (k).toInt)) → ∀ (x6 : Int32), x6.toInt = (4 * (k).toInt) → ∀ (x8 : Int32), x8.toInt = ((4 * (k).toInt) + 1) → ∀ (y10 : Int32), y10.toInt = (gn (ga mem 222) ((4 * (k).toInt) + 1)) → (0 : Int) ≤ (gn (ga mem 222) ((4 * (k).toInt) + 1)) ∧ (gn (ga mem 222) ((4 * (k).toInt) + 1)) ≤ 5) (h2 : (k).toInt < (gi mem 221 66).toInt → ∀ (x2 : Int32), x2.toInt = (4 * (k).toInt) → ∀ (y4 : Int32), y4.toInt = (gn (ga mem 222) (4 * (k).toInt)) → ∀ (x6 : Int32), x6.toInt = (4 * (k).toInt) → ∀ (x8 : Int32), x8.toInt = ((4 * (k).toInt) + 1) → ∀ (y10 : Int32), y10.toInt = (gn (ga mem 222) ((4 * (k).toInt) + 1)) → ∀ (x12 : Int32), x12.toInt = (4 * (k).toInt) → ∀ (x14 : Int32), x14.toInt = ((4 * (k).toInt) + 3) → ∀ (y16 : Int32), y16.toInt = (gn (ga mem 222) ((4 * (k).toInt) + 3)) → ∀ (x18 : Int32), x18.toInt = (4 * (k).toInt) → ∀ (x20 : Int32), x20.toInt = ((4 * (k).toInt) + 2) → ∀ (y22 : Int32), y22.toInt = (gn (ga mem 222) ((4 * (k).toInt) + 2)) → ∀ (x24 : Int32), x24.toInt = ((k).toInt + 1) → ∀ lo, zlg lo 0 = some (.ref 221) → zlg lo 1 = some (.int n) → zlg lo 3 = some (.int x24) → aTm aT0 (sx (sx (sx mem 264 k y4) 265 k y10) 266 k ((8 * y16) + y22)) → yR zpg tX12_meet (d + 2) (123, lo, [], (sx (sx (sx mem 264 k y4) 265 k y10) 266 k ((8 * y16) + y22))) P) : yR zpg tX12_meet (d + 2) (123, lo, [], mem) P := by
  have g4 := gR_222 hm (i := 4 * k.toInt) (by omega) (by omega)
  refine wR_li rfl l_3 ?_
  refine wR_la rfl l_0 ?_
  refine wR_gi rfl mO_e mO_66 hm rfl ?_
  refine wR_ic_ge rfl (a := (k).toInt) (c := (gi mem 221 66).toInt) rfl rfl (fun q1 => ?_) (fun q1 => ?_)
  ·
    refine wR_la rfl l_0 ?_
    refine wR_gi rfl mO_e mO_66 hm rfl ?_
    exact yR_ri rfl (h1 q1 hm)
  ·
    refine wR_la rfl l_0 ?_
    refine wR_gr rfl mO_e mO_67 hm ?_
    refine wR_li rfl l_3 ?_
    refine wR_la rfl l_0 ?_
    refine wR_gr rfl mO_e mO_0 hm ?_
    refine yR_m 1 (fun _ _ _ _ => rfl) ?_
    refine wR_li rfl l_3 ?_
    refine wN_mul (a := 4) (b := (k).toInt) rfl rfl rfl (by omega) (fun x2 e3 => ?_)
    refine wN_al (a := (4 * (k).toInt)) rfl aR_222 hm rfl e3 (by omega) (fun y4 e5 => ?_)
    refine wN_as (a := (k).toInt) rfl aR_264 hm rfl (by omega) ?_
    have hm_1 : aTm aT0 (sx mem 264 k y4) := tm_sa aR_264 hm (by rw [e5]; exact (by omega))
    refine wR_la rfl l_0 ?_
    refine wR_gr rfl mO_e mO_68 hm_1 ?_
    refine wR_li rfl l_3 ?_
    refine wR_la rfl l_0 ?_
    refine wR_gr rfl mO_e mO_0 hm_1 ?_
    refine yR_m 1 (fun _ _ _ _ => rfl) ?_
    refine wR_li rfl l_3 ?_
    refine wN_mul (a := 4) (b := (k).toInt) rfl rfl rfl (by omega) (fun x6 e7 => ?_)
    refine yR_m 1 (fun _ _ _ _ => rfl) ?_
    refine wN_add (a := (4 * (k).toInt)) (b := 1) rfl e7 rfl (by omega) (fun x8 e9 => ?_)
    refine wN_al (a := ((4 * (k).toInt) + 1)) rfl aR_222 hm_1 (ga_sa_ne (by decide)) e9 (by omega) (fun y10 e11 => ?_)
    refine wN_as (a := (k).toInt) rfl aR_265 hm_1 rfl (by omega) ?_
    have hm_2 : aTm aT0 (sx (sx mem 264 k y4) 265 k y10) := tm_sa aR_265 hm_1 (by rw [e11]; exact (s1 q1 x2 e3 y4 e5 x6 e7 x8 e9 y10 e11))
    refine wR_la rfl l_0 ?_
    refine wR_gr rfl mO_e mO_69 hm_2 ?_
    refine wR_li rfl l_3 ?_
    refine yR_m 1 (fun _ _ _ _ => rfl) ?_
    refine wR_la rfl l_0 ?_
    refine wR_gr rfl mO_e mO_0 hm_2 ?_
    refine yR_m 1 (fun _ _ _ _ => rfl) ?_
    refine wR_li rfl l_3 ?_
    refine wN_mul (a := 4) (b := (k).toInt) rfl rfl rfl (by omega) (fun x12 e13 => ?_)
    refine yR_m 1 (fun _ _ _ _ => rfl) ?_
    refine wN_add (a := (4 * (k).toInt)) (b := 3) rfl e13 rfl (by omega) (fun x14 e15 => ?_)
    refine wN_al (a := ((4 * (k).toInt) + 3)) rfl aR_222 hm_2 ((ga_sa_ne (by decide)).trans (ga_sa_ne (by decide))) e15 (by omega) (fun y16 e17 => ?_)
    refine yR_m 1 (fun _ _ _ _ => rfl) ?_
    refine wR_la rfl l_0 ?_
    refine wR_gr rfl mO_e mO_0 hm_2 ?_
    refine yR_m 1 (fun _ _ _ _ => rfl) ?_
    refine wR_li rfl l_3 ?_
    refine wN_mul (a := 4) (b := (k).toInt) rfl rfl rfl (by omega) (fun x18 e19 => ?_)
    refine yR_m 1 (fun _ _ _ _ => rfl) ?_
    refine wN_add (a := (4 * (k).toInt)) (b := 2) rfl e19 rfl (by omega) (fun x20 e21 => ?_)
    refine wN_al (a := ((4 * (k).toInt) + 2)) rfl aR_222 hm_2 ((ga_sa_ne (by decide)).trans (ga_sa_ne (by decide))) e21 (by omega) (fun y22 e23 => ?_)
    refine yR_m 1 (fun _ _ _ _ => rfl) ?_
    refine wN_as (a := (k).toInt) rfl aR_266 hm_2 rfl (by omega) ?_
    have hm_3 : aTm aT0 (sx (sx (sx mem 264 k y4) 265 k y10) 266 k ((8 * y16) + y22)) := tm_sa aR_266 hm_2 (i32_b _)
    refine wN_in (a := (k).toInt) (b := 1) rfl rfl l_3 rfl rfl (by omega) (fun x24 e25 => fun lo26 e27 f28 => ?_)
    have lo26_0 := f28 0 _ (by decide) (Or.inl rfl) l_0
    have lo26_1 := f28 1 _ (by decide) (Or.inl rfl) l_1
    exact yR_m 1 (fun _ _ _ _ => rfl) (h2 q1 x2 e3 y4 e5 x6 e7 x8 e9 y10 e11 x12 e13 x14 e15 y16 e17 x18 e19 x20 e21 y22 e23 x24 e25 lo26 lo26_0 lo26_1 e27 hm_3)

theorem nm123 {X : Int} (hX16 : 0 ≤ X ∧ X ≤ 16) : ∀ (f : Nat) (mem : zM) (k : Int32) (lo : List (Nat × Value)), X ≤ k.toInt + (f : Int) → 0 ≤ k.toInt → k.toInt ≤ X → aTm aT0 mem → (gi mem 221 66).toInt = X → (∀ j, 0 ≤ j → j < X → 0 ≤ gn (ga mem 222) (4 * j + 1) ∧ gn (ga mem 222) (4 * j + 1) ≤ 5) → zlg lo 0 = some (.ref 221) → zlg lo 1 = some (.int n) → zlg lo 3 = some (.int k) → yR zpg tX12_meet (d + 2) (123, lo, [], mem) (fun r _ => ∃ v : Int32, r = some (.int v) ∧ v.toInt = X) := by
  intro f
  induction f with
  | zero =>
    intro mem k lo hf h0 h1 hm hX hO a0 a1 a3
    exact w_nm123 hm a0 a1 a3 (by omega) (by omega)
        (fun q1 hm2 => ⟨_, rfl, hX⟩)
        (fun q1 x2 e3 y4 e5 x6 e7 x8 e9 y10 e11 => hO k.toInt (by omega) (by omega))
        (fun q1 x2 e3 y4 e5 x6 e7 x8 e9 y10 e11 x12 e13 x14 e15 y16 e17 x18 e19 x20 e21 y22 e23 x24 e25 lo a0 a1 a3 hm2 => by exfalso; omega)
  | succ f ih =>
    intro mem k lo hf h0 h1 hm hX hO a0 a1 a3
    exact w_nm123 hm a0 a1 a3 (by omega) (by omega)
        (fun q1 hm2 => ⟨_, rfl, hX⟩)
        (fun q1 x2 e3 y4 e5 x6 e7 x8 e9 y10 e11 => hO k.toInt (by omega) (by omega))
        (fun q1 x2 e3 y4 e5 x6 e7 x8 e9 y10 e11 x12 e13 x14 e15 y16 e17 x18 e19 x20 e21 y22 e23 x24 e25 lo a0 a1 a3 hm2 => ih _ x24 lo (by omega) (by omega) (by omega) hm2 (by rw [((gi_sa).trans ((gi_sa).trans (gi_sa)))]; exact hX) (by rw [((ga_sa_ne (by decide)).trans ((ga_sa_ne (by decide)).trans (ga_sa_ne (by decide))))]; exact hO) a0 a1 a3)
set_option maxRecDepth 100000 in
theorem w_nm104 {d : Nat} {mem : zM} {P : Option Value → zM → Prop} {n g : Int32} {lo : List (Nat × Value)} (hm : aTm aT0 mem) (l_0 : zlg lo 0 = some (.ref 221)) (l_1 : zlg lo 1 = some (.int n)) (l_2 : zlg lo 2 = some (.int g)) (hn : ¬ g.toInt = 0 → 0 ≤ n.toInt ∧ n.toInt ≤ 64) (h1 : ¬ (g).toInt = 0 → ∀ (x2 : Int32), x2.toInt = ((n).toInt / 4) → ∀ lo, zlg lo 0 = some (.ref 221) → zlg lo 1 = some (.int n) → zlg lo 3 = some (.int 0) → aTm aT0 (si mem 221 66 x2) → yR zpg tX12_meet (d + 2) (123, lo, [], (si mem 221 66 x2)) P) (h2 : (g).toInt = 0 → ∀ (y7 : Int32), y7.toInt = (gn (ga mem 248) 5) → aTm aT0 (sx mem 248 5 (y7 + 1)) → P (some (.int (-1))) (sx mem 248 5 (y7 + 1))) : yR zpg tX12_meet (d + 2) (104, lo, [], mem) P := by
  refine wR_li rfl l_2 ?_
  refine wR_if_ne rfl (a := (g).toInt) rfl (fun q1 => ?_) (fun q1 => ?_)
  ·
    refine wR_la rfl l_0 ?_
    refine wR_li rfl l_1 ?_
    refine yR_m 1 (fun _ _ _ _ => rfl) ?_
    refine wN_div (a := (n).toInt) (b := 4) rfl rfl rfl (by decide) (by omega) (fun x2 e3 => ?_)
    refine wR_pi rfl mO_e mO_66 hm rfl ?_
    have hm_1 : aTm aT0 (si mem 221 66 x2) := tm_si mO_e mO_66 hm (by rw [e3]; exact (by omega))
    refine yR_m 1 (fun _ _ _ _ => rfl) ?_
    refine wR_si rfl rfl (fun lo4 e5 f6 => ?_)
    have lo4_0 := f6 0 _ (by decide) (Or.inl rfl) l_0
    have lo4_1 := f6 1 _ (by decide) (Or.inl rfl) l_1
    have lo4_2 := f6 2 _ (by decide) (Or.inl rfl) l_2
    exact h1 q1 x2 e3 lo4 lo4_0 lo4_1 e5 hm_1
  ·
    refine wR_la rfl l_0 ?_
    refine yR_m 1 (fun _ _ _ _ => rfl) ?_
    refine wR_iv rfl rfl mO_e hm rfl rfl rfl rfl ?_
    show yR zpg tX12_refuses (d + 1) (0, [(0, .ref 221), (1, .int 5)], [], mem) _
    refine yR_m 1 (fun _ _ _ _ => rfl) ?_
    refine wR_gr rfl mO_e mO_47 hm ?_
    refine yR_m 2 (fun _ _ _ _ => rfl) ?_
    refine wN_al (a := 5) rfl aR_248 hm rfl rfl (by decide) (fun y7 e8 => ?_)
    refine yR_m 2 (fun _ _ _ _ => rfl) ?_
    refine wN_as (a := 5) rfl aR_248 hm rfl (by decide) ?_
    have hm_2 : aTm aT0 (sx mem 248 5 (y7 + 1)) := tm_sa aR_248 hm (i32_b _)
    refine yR_m 1 (fun _ _ _ _ => rfl) ?_
    refine yR_ri rfl ?_
    show yR zpg tX12_meet (d + 2) (113, lo, [.int (-1)], (sx mem 248 5 (y7 + 1))) _
    exact yR_ri rfl (h2 q1 y7 e8 hm_2)

theorem nm104 {g : Int32} {lo : List (Nat × Value)} (hm : aTm aT0 mem) (hF : gn (ga mem 233) (gi mem 221 13).toInt = F) (hv : (g.toInt = 1 ∧ mtK (ga mem 222) n.toInt C R F) ∨ (g.toInt = 0 ∧ ¬ mtK (ga mem 222) n.toInt C R F)) (a0 : zlg lo 0 = some (.ref 221)) (a1 : zlg lo 1 = some (.int n)) (a2 : zlg lo 2 = some (.int g)) : yR zpg tX12_meet (d + 2) (104, lo, [], mem) (fun r _ => ∃ v : Int32, r = some (.int v) ∧ mtA (ga mem 222) n.toInt C R F v.toInt) := by
  exact w_nm104 hm a0 a1 a2 (fun w => by
      rcases hv with ⟨-, K⟩ | ⟨z, -⟩
      · have K1 := K.1
        omega
      · exact absurd z w)
        (fun q1 x2 e3 lo a0 a1 a3 hm2 => by
          rcases hv with ⟨-, K⟩ | ⟨w, -⟩
          · have K1 := K.1
            have f6 := gR_233 hm (i := (gi mem 221 13).toInt) (mO_r13 hm).1 (by have := (mO_r13 hm).2; omega)
            have e66 : gi (si mem 221 66 x2) 221 66 = x2 := gi_si_eq mO_e mO_66 hm
            refine yR_mono (fun r m q => ?_) (nm123 (X := n.toInt / 4) (by omega) 16 _ 0 lo (by show _ ≤ (0 : Int) + 16; omega) (by decide) (by show (0 : Int) ≤ _; omega) hm2 (by rw [e66]; omega) (fun j j0 j1 => ?_) a0 a1 a3)
            · obtain ⟨v, q1, q2⟩ := q
              exact ⟨v, q1, Or.inl ⟨K, q2⟩⟩
            · have o := K.2 j j0 (by omega)
              unfold mtO at o
              rw [(ga_sv)]
              have g := gR_222 hm (i := 4 * j + 1) (by omega) (by omega)
              omega
          · exfalso; omega)
        (fun q1 y7 e8 hm2 => ⟨_, rfl, Or.inr ⟨hv.elim (fun w => by exfalso; have w1 := w.1; omega) (fun w => w.2), rfl⟩⟩)
set_option maxRecDepth 100000 in
theorem w_nm34 {d : Nat} {mem : zM} {P : Option Value → zM → Prop} {n g k : Int32} {lo : List (Nat × Value)} (hm : aTm aT0 mem) (l_0 : zlg lo 0 = some (.ref 221)) (l_1 : zlg lo 1 = some (.int n)) (l_2 : zlg lo 2 = some (.int g)) (l_3 : zlg lo 3 = some (.int k)) (hn : 0 ≤ n.toInt ∧ n.toInt ≤ 1600) (hk : 0 ≤ k.toInt ∧ k.toInt ≤ 1603) (hg : 0 ≤ g.toInt ∧ g.toInt ≤ 1) (hgk : ¬ g.toInt = 0 → k.toInt < n.toInt → k.toInt + 3 < 1800) (hcr : (0 ≤ gn (ga mem 223) (gi mem 221 13).toInt ∧ gn (ga mem 223) (gi mem 221 13).toInt ≤ 7) ∧ 0 ≤ gn (ga mem 224) (gi mem 221 13).toInt ∧ gn (ga mem 224) (gi mem 221 13).toInt ≤ 7) (h1 : (n).toInt ≤ (k).toInt → ∀ lo, zlg lo 0 = some (.ref 221) → zlg lo 1 = some (.int n) → zlg lo 2 = some (.int g) → aTm aT0 mem → yR zpg tX12_meet (d + 2) (104, lo, [], mem) P) (h2 : (k).toInt < (n).toInt → (g).toInt = 0 → ∀ lo, zlg lo 0 = some (.ref 221) → zlg lo 1 = some (.int n) → zlg lo 2 = some (.int g) → aTm aT0 mem → yR zpg tX12_meet (d + 2) (104, lo, [], mem) P) (h3 : (k).toInt < (n).toInt → ¬ (g).toInt = 0 → ∀ (y3 : Int32), y3.toInt = (gn (ga mem 222) (k).toInt) → 30 < (gn (ga mem 222) (k).toInt) → ∀ (x9 : Int32), x9.toInt = ((k).toInt + 4) → ∀ lo, zlg lo 0 = some (.ref 221) → zlg lo 1 = some (.int n) → zlg lo 2 = some (.int 0) → zlg lo 3 = some (.int x9) → aTm aT0 mem → yR zpg tX12_meet (d + 2) (34, lo, [], mem) P) (h4 : (k).toInt < (n).toInt → ¬ (g).toInt = 0 → ∀ (y3 : Int32), y3.toInt = (gn (ga mem 222) (k).toInt) → (gn (ga mem 222) (k).toInt) ≤ 30 → ∀ (x14 : Int32), x14.toInt = ((k).toInt + 1) → ∀ (y16 : Int32), y16.toInt = (gn (ga mem 222) ((k).toInt + 1)) → (gn (ga mem 222) ((k).toInt + 1)) < 0 → ∀ (x22 : Int32), x22.toInt = ((k).toInt + 4) → ∀ lo, zlg lo 0 = some (.ref 221) → zlg lo 1 = some (.int n) → zlg lo 2 = some (.int 0) → zlg lo 3 = some (.int x22) → aTm aT0 mem → yR zpg tX12_meet (d + 2) (34, lo, [], mem) P) (h5 : (k).toInt < (n).toInt → ¬ (g).toInt = 0 → ∀ (y3 : Int32), y3.toInt = (gn (ga mem 222) (k).toInt) → (gn (ga mem 222) (k).toInt) ≤ 30 → ∀ (x14 : Int32), x14.toInt = ((k).toInt + 1) → ∀ (y16 : Int32), y16.toInt = (gn (ga mem 222) ((k).toInt + 1)) → 0 ≤ (gn (ga mem 222) ((k).toInt + 1)) → ∀ (y27 : Int32), y27.toInt = (gn (ga mem 233) (gi mem 221 13).toInt) → (gn (ga mem 233) (gi mem 221 13).toInt) ≤ (gn (ga mem 222) ((k).toInt + 1)) → ∀ (x33 : Int32), x33.toInt = ((k).toInt + 4) → ∀ lo, zlg lo 0 = some (.ref 221) → zlg lo 1 = some (.int n) → zlg lo 2 = some (.int 0) → zlg lo 3 = some (.int x33) → aTm aT0 mem → yR zpg tX12_meet (d + 2) (34, lo, [], mem) P) (h6 : (k).toInt < (n).toInt → ¬ (g).toInt = 0 → ∀ (y3 : Int32), y3.toInt = (gn (ga mem 222) (k).toInt) → (gn (ga mem 222) (k).toInt) ≤ 30 → ∀ (x14 : Int32), x14.toInt = ((k).toInt + 1) → ∀ (y16 : Int32), y16.toInt = (gn (ga mem 222) ((k).toInt + 1)) → 0 ≤ (gn (ga mem 222) ((k).toInt + 1)) → ∀ (y27 : Int32), y27.toInt = (gn (ga mem 233) (gi mem 221 13).toInt) → (gn (ga mem 222) ((k).toInt + 1)) < (gn (ga mem 233) (gi mem 221 13).toInt) → ∀ (x38 : Int32), x38.toInt = ((k).toInt + 2) → ∀ (y40 : Int32), y40.toInt = (gn (ga mem 222) ((k).toInt + 2)) → ∀ (x42 : Int32), x42.toInt = ((k).toInt + 3) → ∀ (y44 : Int32), y44.toInt = (gn (ga mem 222) ((k).toInt + 3)) → (gi mem 221 46).toInt = 0 → ∀ (x50 : Int32), x50.toInt = ((k).toInt + 4) → ∀ lo, zlg lo 0 = some (.ref 221) → zlg lo 1 = some (.int n) → zlg lo 2 = some (.int 0) → zlg lo 3 = some (.int x50) → aTm aT0 mem → yR zpg tX12_meet (d + 2) (34, lo, [], mem) P) (h7 : (k).toInt < (n).toInt → ¬ (g).toInt = 0 → ∀ (y3 : Int32), y3.toInt = (gn (ga mem 222) (k).toInt) → (gn (ga mem 222) (k).toInt) ≤ 30 → ∀ (x14 : Int32), x14.toInt = ((k).toInt + 1) → ∀ (y16 : Int32), y16.toInt = (gn (ga mem 222) ((k).toInt + 1)) → 0 ≤ (gn (ga mem 222) ((k).toInt + 1)) → ∀ (y27 : Int32), y27.toInt = (gn (ga mem 233) (gi mem 221 13).toInt) → (gn (ga mem 222) ((k).toInt + 1)) < (gn (ga mem 233) (gi mem 221 13).toInt) → ∀ (x38 : Int32), x38.toInt = ((k).toInt + 2) → ∀ (y40 : Int32), y40.toInt = (gn (ga mem 222) ((k).toInt + 2)) → ∀ (x42 : Int32), x42.toInt = ((k).toInt + 3) → ∀ (y44 : Int32), y44.toInt = (gn (ga mem 222) ((k).toInt + 3)) → ¬ (gi mem 221 46).toInt = 0 → ∀ (y55 : Int32), y55.toInt = (gn (ga mem 223) (gi mem 221 13).toInt) → ∀ (x57 : Int32), x57.toInt = ((gn (ga mem 223) (gi mem 221 13).toInt) - 1) → (gn (ga mem 222) ((k).toInt + 2)) < 0 → ∀ (x63 : Int32), x63.toInt = ((k).toInt + 4) → ∀ lo, zlg lo 0 = some (.ref 221) → zlg lo 1 = some (.int n) → zlg lo 2 = some (.int 0) → zlg lo 3 = some (.int x63) → aTm aT0 mem → yR zpg tX12_meet (d + 2) (34, lo, [], mem) P) (h8 : (k).toInt < (n).toInt → ¬ (g).toInt = 0 → ∀ (y3 : Int32), y3.toInt = (gn (ga mem 222) (k).toInt) → (gn (ga mem 222) (k).toInt) ≤ 30 → ∀ (x14 : Int32), x14.toInt = ((k).toInt + 1) → ∀ (y16 : Int32), y16.toInt = (gn (ga mem 222) ((k).toInt + 1)) → 0 ≤ (gn (ga mem 222) ((k).toInt + 1)) → ∀ (y27 : Int32), y27.toInt = (gn (ga mem 233) (gi mem 221 13).toInt) → (gn (ga mem 222) ((k).toInt + 1)) < (gn (ga mem 233) (gi mem 221 13).toInt) → ∀ (x38 : Int32), x38.toInt = ((k).toInt + 2) → ∀ (y40 : Int32), y40.toInt = (gn (ga mem 222) ((k).toInt + 2)) → ∀ (x42 : Int32), x42.toInt = ((k).toInt + 3) → ∀ (y44 : Int32), y44.toInt = (gn (ga mem 222) ((k).toInt + 3)) → ¬ (gi mem 221 46).toInt = 0 → ∀ (y55 : Int32), y55.toInt = (gn (ga mem 223) (gi mem 221 13).toInt) → ∀ (x57 : Int32), x57.toInt = ((gn (ga mem 223) (gi mem 221 13).toInt) - 1) → 0 ≤ (gn (ga mem 222) ((k).toInt + 2)) → ((gn (ga mem 223) (gi mem 221 13).toInt) - 1) < (gn (ga mem 222) ((k).toInt + 2)) → ∀ (x72 : Int32), x72.toInt = ((k).toInt + 4) → ∀ lo, zlg lo 0 = some (.ref 221) → zlg lo 1 = some (.int n) → zlg lo 2 = some (.int 0) → zlg lo 3 = some (.int x72) → aTm aT0 mem → yR zpg tX12_meet (d + 2) (34, lo, [], mem) P) (h9 : (k).toInt < (n).toInt → ¬ (g).toInt = 0 → ∀ (y3 : Int32), y3.toInt = (gn (ga mem 222) (k).toInt) → (gn (ga mem 222) (k).toInt) ≤ 30 → ∀ (x14 : Int32), x14.toInt = ((k).toInt + 1) → ∀ (y16 : Int32), y16.toInt = (gn (ga mem 222) ((k).toInt + 1)) → 0 ≤ (gn (ga mem 222) ((k).toInt + 1)) → ∀ (y27 : Int32), y27.toInt = (gn (ga mem 233) (gi mem 221 13).toInt) → (gn (ga mem 222) ((k).toInt + 1)) < (gn (ga mem 233) (gi mem 221 13).toInt) → ∀ (x38 : Int32), x38.toInt = ((k).toInt + 2) → ∀ (y40 : Int32), y40.toInt = (gn (ga mem 222) ((k).toInt + 2)) → ∀ (x42 : Int32), x42.toInt = ((k).toInt + 3) → ∀ (y44 : Int32), y44.toInt = (gn (ga mem 222) ((k).toInt + 3)) → ¬ (gi mem 221 46).toInt = 0 → ∀ (y55 : Int32), y55.toInt = (gn (ga mem 223) (gi mem 221 13).toInt) → ∀ (x57 : Int32), x57.toInt = ((gn (ga mem 223) (gi mem 221 13).toInt) - 1) → 0 ≤ (gn (ga mem 222) ((k).toInt + 2)) → (gn (ga mem 222) ((k).toInt + 2)) ≤ ((gn (ga mem 223) (gi mem 221 13).toInt) - 1) → ∀ (y77 : Int32), y77.toInt = (gn (ga mem 224) (gi mem 221 13).toInt) → ∀ (x79 : Int32), x79.toInt = ((gn (ga mem 224) (gi mem 221 13).toInt) - 1) → (gn (ga mem 222) ((k).toInt + 3)) < 0 → ∀ (x85 : Int32), x85.toInt = ((k).toInt + 4) → ∀ lo, zlg lo 0 = some (.ref 221) → zlg lo 1 = some (.int n) → zlg lo 2 = some (.int 0) → zlg lo 3 = some (.int x85) → aTm aT0 mem → yR zpg tX12_meet (d + 2) (34, lo, [], mem) P) (h10 : (k).toInt < (n).toInt → ¬ (g).toInt = 0 → ∀ (y3 : Int32), y3.toInt = (gn (ga mem 222) (k).toInt) → (gn (ga mem 222) (k).toInt) ≤ 30 → ∀ (x14 : Int32), x14.toInt = ((k).toInt + 1) → ∀ (y16 : Int32), y16.toInt = (gn (ga mem 222) ((k).toInt + 1)) → 0 ≤ (gn (ga mem 222) ((k).toInt + 1)) → ∀ (y27 : Int32), y27.toInt = (gn (ga mem 233) (gi mem 221 13).toInt) → (gn (ga mem 222) ((k).toInt + 1)) < (gn (ga mem 233) (gi mem 221 13).toInt) → ∀ (x38 : Int32), x38.toInt = ((k).toInt + 2) → ∀ (y40 : Int32), y40.toInt = (gn (ga mem 222) ((k).toInt + 2)) → ∀ (x42 : Int32), x42.toInt = ((k).toInt + 3) → ∀ (y44 : Int32), y44.toInt = (gn (ga mem 222) ((k).toInt + 3)) → ¬ (gi mem 221 46).toInt = 0 → ∀ (y55 : Int32), y55.toInt = (gn (ga mem 223) (gi mem 221 13).toInt) → ∀ (x57 : Int32), x57.toInt = ((gn (ga mem 223) (gi mem 221 13).toInt) - 1) → 0 ≤ (gn (ga mem 222) ((k).toInt + 2)) → (gn (ga mem 222) ((k).toInt + 2)) ≤ ((gn (ga mem 223) (gi mem 221 13).toInt) - 1) → ∀ (y77 : Int32), y77.toInt = (gn (ga mem 224) (gi mem 221 13).toInt) → ∀ (x79 : Int32), x79.toInt = ((gn (ga mem 224) (gi mem 221 13).toInt) - 1) → 0 ≤ (gn (ga mem 222) ((k).toInt + 3)) → ((gn (ga mem 224) (gi mem 221 13).toInt) - 1) < (gn (ga mem 222) ((k).toInt + 3)) → ∀ (x94 : Int32), x94.toInt = ((k).toInt + 4) → ∀ lo, zlg lo 0 = some (.ref 221) → zlg lo 1 = some (.int n) → zlg lo 2 = some (.int 0) → zlg lo 3 = some (.int x94) → aTm aT0 mem → yR zpg tX12_meet (d + 2) (34, lo, [], mem) P) (h11 : (k).toInt < (n).toInt → ¬ (g).toInt = 0 → ∀ (y3 : Int32), y3.toInt = (gn (ga mem 222) (k).toInt) → (gn (ga mem 222) (k).toInt) ≤ 30 → ∀ (x14 : Int32), x14.toInt = ((k).toInt + 1) → ∀ (y16 : Int32), y16.toInt = (gn (ga mem 222) ((k).toInt + 1)) → 0 ≤ (gn (ga mem 222) ((k).toInt + 1)) → ∀ (y27 : Int32), y27.toInt = (gn (ga mem 233) (gi mem 221 13).toInt) → (gn (ga mem 222) ((k).toInt + 1)) < (gn (ga mem 233) (gi mem 221 13).toInt) → ∀ (x38 : Int32), x38.toInt = ((k).toInt + 2) → ∀ (y40 : Int32), y40.toInt = (gn (ga mem 222) ((k).toInt + 2)) → ∀ (x42 : Int32), x42.toInt = ((k).toInt + 3) → ∀ (y44 : Int32), y44.toInt = (gn (ga mem 222) ((k).toInt + 3)) → ¬ (gi mem 221 46).toInt = 0 → ∀ (y55 : Int32), y55.toInt = (gn (ga mem 223) (gi mem 221 13).toInt) → ∀ (x57 : Int32), x57.toInt = ((gn (ga mem 223) (gi mem 221 13).toInt) - 1) → 0 ≤ (gn (ga mem 222) ((k).toInt + 2)) → (gn (ga mem 222) ((k).toInt + 2)) ≤ ((gn (ga mem 223) (gi mem 221 13).toInt) - 1) → ∀ (y77 : Int32), y77.toInt = (gn (ga mem 224) (gi mem 221 13).toInt) → ∀ (x79 : Int32), x79.toInt = ((gn (ga mem 224) (gi mem 221 13).toInt) - 1) → 0 ≤ (gn (ga mem 222) ((k).toInt + 3)) → (gn (ga mem 222) ((k).toInt + 3)) ≤ ((gn (ga mem 224) (gi mem 221 13).toInt) - 1) → ∀ (x102 : Int32), x102.toInt = ((k).toInt + 4) → ∀ lo, zlg lo 0 = some (.ref 221) → zlg lo 1 = some (.int n) → zlg lo 2 = some (.int 1) → zlg lo 3 = some (.int x102) → aTm aT0 mem → yR zpg tX12_meet (d + 2) (34, lo, [], mem) P) : yR zpg tX12_meet (d + 2) (34, lo, [], mem) P := by
  have rb := mO_r13 hm
  have th := gR_228 hm (i := (gi mem 221 13).toInt) rb.1 (by omega)
  have fki := gR_233 hm (i := (gi mem 221 13).toInt) rb.1 (by omega)
  refine wR_li rfl l_3 ?_
  refine wR_li rfl l_1 ?_
  refine wR_ic_ge rfl (a := (k).toInt) (c := (n).toInt) rfl rfl (fun q1 => ?_) (fun q1 => ?_)
  ·
    exact h1 q1 lo l_0 l_1 l_2 hm
  ·
    refine wR_li rfl l_2 ?_
    refine wR_if_eq rfl (a := (g).toInt) rfl (fun q2 => ?_) (fun q2 => ?_)
    ·
      exact h2 q1 q2 lo l_0 l_1 l_2 hm
    ·
      refine wR_la rfl l_0 ?_
      refine wR_gr rfl mO_e mO_0 hm ?_
      refine wR_li rfl l_3 ?_
      refine wN_al (a := (k).toInt) rfl aR_222 hm rfl rfl (by omega) (fun y3 e4 => ?_)
      refine yR_m 1 (fun _ _ _ _ => rfl) ?_
      refine wR_ic_gt rfl (a := (gn (ga mem 222) (k).toInt)) (c := 30) e4 rfl (fun q5 => ?_) (fun q5 => ?_)
      ·
        refine yR_m 1 (fun _ _ _ _ => rfl) ?_
        refine wR_si rfl rfl (fun lo6 e7 f8 => ?_)
        have lo6_0 := f8 0 _ (by decide) (Or.inl rfl) l_0
        have lo6_1 := f8 1 _ (by decide) (Or.inl rfl) l_1
        have lo6_3 := f8 3 _ (by decide) (Or.inl rfl) l_3
        refine wN_in (a := (k).toInt) (b := 4) rfl rfl lo6_3 rfl rfl (by omega) (fun x9 e10 => fun lo11 e12 f13 => ?_)
        have lo11_2 := f13 2 _ (by decide) (Or.inl rfl) e7
        have lo11_0 := f13 0 _ (by decide) (Or.inl rfl) lo6_0
        have lo11_1 := f13 1 _ (by decide) (Or.inl rfl) lo6_1
        exact yR_m 1 (fun _ _ _ _ => rfl) (h3 q1 q2 y3 e4 q5 x9 e10 lo11 lo11_0 lo11_1 lo11_2 e12 hm)
      ·
        refine wR_la rfl l_0 ?_
        refine wR_la rfl l_0 ?_
        refine wR_gr rfl mO_e mO_0 hm ?_
        refine wR_li rfl l_3 ?_
        refine yR_m 1 (fun _ _ _ _ => rfl) ?_
        refine wN_add (a := (k).toInt) (b := 1) rfl rfl rfl (by omega) (fun x14 e15 => ?_)
        refine wN_al (a := ((k).toInt + 1)) rfl aR_222 hm rfl e15 (by omega) (fun y16 e17 => ?_)
        refine wR_iv rfl rfl mO_e hm rfl rfl rfl rfl ?_
        show yR zpg tX12_isFolk (d + 1) (0, [(0, .ref 221), (1, .int y16)], [], mem) _
        refine yR_m 1 (fun _ _ _ _ => rfl) ?_
        refine wR_if_lt rfl (a := (gn (ga mem 222) ((k).toInt + 1))) e17 (fun q18 => ?_) (fun q18 => ?_)
        ·
          refine yR_m 1 (fun _ _ _ _ => rfl) ?_
          refine yR_rz rfl ⟨by decide, by decide⟩ ?_
          show yR zpg tX12_meet (d + 2) (66, lo, [.int 0], mem) _
          refine wR_if_eq rfl (a := 0) rfl (fun _ => ?_) (fun q => by exfalso; omega)
          refine yR_m 1 (fun _ _ _ _ => rfl) ?_
          refine wR_si rfl rfl (fun lo19 e20 f21 => ?_)
          have lo19_0 := f21 0 _ (by decide) (Or.inl rfl) l_0
          have lo19_1 := f21 1 _ (by decide) (Or.inl rfl) l_1
          have lo19_3 := f21 3 _ (by decide) (Or.inl rfl) l_3
          refine wN_in (a := (k).toInt) (b := 4) rfl rfl lo19_3 rfl rfl (by omega) (fun x22 e23 => fun lo24 e25 f26 => ?_)
          have lo24_2 := f26 2 _ (by decide) (Or.inl rfl) e20
          have lo24_0 := f26 0 _ (by decide) (Or.inl rfl) lo19_0
          have lo24_1 := f26 1 _ (by decide) (Or.inl rfl) lo19_1
          exact yR_m 1 (fun _ _ _ _ => rfl) (h4 q1 q2 y3 e4 q5 x14 e15 y16 e17 q18 x22 e23 lo24 lo24_0 lo24_1 lo24_2 e25 hm)
        ·
          refine yR_m 2 (fun _ _ _ _ => rfl) ?_
          refine wR_gr rfl mO_e mO_24 hm ?_
          refine yR_m 1 (fun _ _ _ _ => rfl) ?_
          refine wR_gi rfl mO_e mO_13 hm rfl ?_
          refine wN_al (a := (gi mem 221 13).toInt) rfl aR_233 hm rfl rfl (by omega) (fun y27 e28 => ?_)
          refine wR_ic_ge rfl (a := (gn (ga mem 222) ((k).toInt + 1))) (c := (gn (ga mem 233) (gi mem 221 13).toInt)) e17 e28 (fun q29 => ?_) (fun q29 => ?_)
          ·
            refine yR_m 1 (fun _ _ _ _ => rfl) ?_
            refine yR_rz rfl ⟨by decide, by decide⟩ ?_
            show yR zpg tX12_meet (d + 2) (66, lo, [.int 0], mem) _
            refine wR_if_eq rfl (a := 0) rfl (fun _ => ?_) (fun q => by exfalso; omega)
            refine yR_m 1 (fun _ _ _ _ => rfl) ?_
            refine wR_si rfl rfl (fun lo30 e31 f32 => ?_)
            have lo30_0 := f32 0 _ (by decide) (Or.inl rfl) l_0
            have lo30_1 := f32 1 _ (by decide) (Or.inl rfl) l_1
            have lo30_3 := f32 3 _ (by decide) (Or.inl rfl) l_3
            refine wN_in (a := (k).toInt) (b := 4) rfl rfl lo30_3 rfl rfl (by omega) (fun x33 e34 => fun lo35 e36 f37 => ?_)
            have lo35_2 := f37 2 _ (by decide) (Or.inl rfl) e31
            have lo35_0 := f37 0 _ (by decide) (Or.inl rfl) lo30_0
            have lo35_1 := f37 1 _ (by decide) (Or.inl rfl) lo30_1
            exact yR_m 1 (fun _ _ _ _ => rfl) (h5 q1 q2 y3 e4 q5 x14 e15 y16 e17 q18 y27 e28 q29 x33 e34 lo35 lo35_0 lo35_1 lo35_2 e36 hm)
          ·
            refine yR_m 2 (fun _ _ _ _ => rfl) ?_
            refine yR_rz rfl ⟨by decide, by decide⟩ ?_
            show yR zpg tX12_meet (d + 2) (66, lo, [.int 1], mem) _
            refine wR_if_eq rfl (a := 1) rfl (fun q => by exfalso; omega) (fun _ => ?_)
            refine wR_la rfl l_0 ?_
            refine wR_la rfl l_0 ?_
            refine wR_gr rfl mO_e mO_0 hm ?_
            refine wR_li rfl l_3 ?_
            refine yR_m 1 (fun _ _ _ _ => rfl) ?_
            refine wN_add (a := (k).toInt) (b := 2) rfl rfl rfl (by omega) (fun x38 e39 => ?_)
            refine wN_al (a := ((k).toInt + 2)) rfl aR_222 hm rfl e39 (by omega) (fun y40 e41 => ?_)
            refine wR_la rfl l_0 ?_
            refine wR_gr rfl mO_e mO_0 hm ?_
            refine wR_li rfl l_3 ?_
            refine yR_m 1 (fun _ _ _ _ => rfl) ?_
            refine wN_add (a := (k).toInt) (b := 3) rfl rfl rfl (by omega) (fun x42 e43 => ?_)
            refine wN_al (a := ((k).toInt + 3)) rfl aR_222 hm rfl e43 (by omega) (fun y44 e45 => ?_)
            refine wR_iv rfl rfl mO_e hm rfl rfl rfl rfl ?_
            show yR zpg tX12_isCell (d + 1) (0, [(0, .ref 221), (1, .int y40), (2, .int y44)], [], mem) _
            refine yR_m 1 (fun _ _ _ _ => rfl) ?_
            refine wR_gi rfl mO_e mO_46 hm rfl ?_
            refine wR_if_eq rfl (a := (gi mem 221 46).toInt) rfl (fun q46 => ?_) (fun q46 => ?_)
            ·
              refine yR_m 1 (fun _ _ _ _ => rfl) ?_
              refine yR_rz rfl ⟨by decide, by decide⟩ ?_
              show yR zpg tX12_meet (d + 2) (89, lo, [.int 0], mem) _
              refine wR_if_eq rfl (a := 0) rfl (fun _ => ?_) (fun q => by exfalso; omega)
              refine yR_m 1 (fun _ _ _ _ => rfl) ?_
              refine wR_si rfl rfl (fun lo47 e48 f49 => ?_)
              have lo47_0 := f49 0 _ (by decide) (Or.inl rfl) l_0
              have lo47_1 := f49 1 _ (by decide) (Or.inl rfl) l_1
              have lo47_3 := f49 3 _ (by decide) (Or.inl rfl) l_3
              refine wN_in (a := (k).toInt) (b := 4) rfl rfl lo47_3 rfl rfl (by omega) (fun x50 e51 => fun lo52 e53 f54 => ?_)
              have lo52_2 := f54 2 _ (by decide) (Or.inl rfl) e48
              have lo52_0 := f54 0 _ (by decide) (Or.inl rfl) lo47_0
              have lo52_1 := f54 1 _ (by decide) (Or.inl rfl) lo47_1
              exact yR_m 1 (fun _ _ _ _ => rfl) (h6 q1 q2 y3 e4 q5 x14 e15 y16 e17 q18 y27 e28 q29 x38 e39 y40 e41 x42 e43 y44 e45 q46 x50 e51 lo52 lo52_0 lo52_1 lo52_2 e53 hm)
            ·
              refine yR_m 3 (fun _ _ _ _ => rfl) ?_
              refine wR_gr rfl mO_e mO_14 hm ?_
              refine yR_m 1 (fun _ _ _ _ => rfl) ?_
              refine wR_gi rfl mO_e mO_13 hm rfl ?_
              refine wN_al (a := (gi mem 221 13).toInt) rfl aR_223 hm rfl rfl (by omega) (fun y55 e56 => ?_)
              refine yR_m 1 (fun _ _ _ _ => rfl) ?_
              refine wN_sub (a := (gn (ga mem 223) (gi mem 221 13).toInt)) (b := 1) rfl e56 rfl (by omega) (fun x57 e58 => ?_)
              refine wR_is rfl rfl rfl rfl rfl rfl ?_
              show yR zpg tX12_is d (0, [(0, .int y40), (1, .int 0), (2, .int x57)], [], mem) _
              refine yR_m 2 (fun _ _ _ _ => rfl) ?_
              refine wR_ic_lt rfl (a := (gn (ga mem 222) ((k).toInt + 2))) (c := 0) e41 rfl (fun q59 => ?_) (fun q59 => ?_)
              ·
                refine yR_m 1 (fun _ _ _ _ => rfl) ?_
                refine yR_rz rfl ⟨by decide, by decide⟩ ?_
                show yR zpg tX12_isCell (d + 1) (23, [(0, .ref 221), (1, .int y40), (2, .int y44)], [.int 0], mem) _
                refine wR_if_eq rfl (a := 0) rfl (fun _ => ?_) (fun q => by exfalso; omega)
                refine yR_m 1 (fun _ _ _ _ => rfl) ?_
                refine yR_rz rfl ⟨by decide, by decide⟩ ?_
                show yR zpg tX12_meet (d + 2) (89, lo, [.int 0], mem) _
                refine wR_if_eq rfl (a := 0) rfl (fun _ => ?_) (fun q => by exfalso; omega)
                refine yR_m 1 (fun _ _ _ _ => rfl) ?_
                refine wR_si rfl rfl (fun lo60 e61 f62 => ?_)
                have lo60_0 := f62 0 _ (by decide) (Or.inl rfl) l_0
                have lo60_1 := f62 1 _ (by decide) (Or.inl rfl) l_1
                have lo60_3 := f62 3 _ (by decide) (Or.inl rfl) l_3
                refine wN_in (a := (k).toInt) (b := 4) rfl rfl lo60_3 rfl rfl (by omega) (fun x63 e64 => fun lo65 e66 f67 => ?_)
                have lo65_2 := f67 2 _ (by decide) (Or.inl rfl) e61
                have lo65_0 := f67 0 _ (by decide) (Or.inl rfl) lo60_0
                have lo65_1 := f67 1 _ (by decide) (Or.inl rfl) lo60_1
                exact yR_m 1 (fun _ _ _ _ => rfl) (h7 q1 q2 y3 e4 q5 x14 e15 y16 e17 q18 y27 e28 q29 x38 e39 y40 e41 x42 e43 y44 e45 q46 y55 e56 x57 e58 q59 x63 e64 lo65 lo65_0 lo65_1 lo65_2 e66 hm)
              ·
                refine yR_m 2 (fun _ _ _ _ => rfl) ?_
                refine wR_ic_gt rfl (a := (gn (ga mem 222) ((k).toInt + 2))) (c := ((gn (ga mem 223) (gi mem 221 13).toInt) - 1)) e41 e58 (fun q68 => ?_) (fun q68 => ?_)
                ·
                  refine yR_m 1 (fun _ _ _ _ => rfl) ?_
                  refine yR_rz rfl ⟨by decide, by decide⟩ ?_
                  show yR zpg tX12_isCell (d + 1) (23, [(0, .ref 221), (1, .int y40), (2, .int y44)], [.int 0], mem) _
                  refine wR_if_eq rfl (a := 0) rfl (fun _ => ?_) (fun q => by exfalso; omega)
                  refine yR_m 1 (fun _ _ _ _ => rfl) ?_
                  refine yR_rz rfl ⟨by decide, by decide⟩ ?_
                  show yR zpg tX12_meet (d + 2) (89, lo, [.int 0], mem) _
                  refine wR_if_eq rfl (a := 0) rfl (fun _ => ?_) (fun q => by exfalso; omega)
                  refine yR_m 1 (fun _ _ _ _ => rfl) ?_
                  refine wR_si rfl rfl (fun lo69 e70 f71 => ?_)
                  have lo69_0 := f71 0 _ (by decide) (Or.inl rfl) l_0
                  have lo69_1 := f71 1 _ (by decide) (Or.inl rfl) l_1
                  have lo69_3 := f71 3 _ (by decide) (Or.inl rfl) l_3
                  refine wN_in (a := (k).toInt) (b := 4) rfl rfl lo69_3 rfl rfl (by omega) (fun x72 e73 => fun lo74 e75 f76 => ?_)
                  have lo74_2 := f76 2 _ (by decide) (Or.inl rfl) e70
                  have lo74_0 := f76 0 _ (by decide) (Or.inl rfl) lo69_0
                  have lo74_1 := f76 1 _ (by decide) (Or.inl rfl) lo69_1
                  exact yR_m 1 (fun _ _ _ _ => rfl) (h8 q1 q2 y3 e4 q5 x14 e15 y16 e17 q18 y27 e28 q29 x38 e39 y40 e41 x42 e43 y44 e45 q46 y55 e56 x57 e58 q59 q68 x72 e73 lo74 lo74_0 lo74_1 lo74_2 e75 hm)
                ·
                  refine yR_m 2 (fun _ _ _ _ => rfl) ?_
                  refine yR_rz rfl ⟨by decide, by decide⟩ ?_
                  show yR zpg tX12_isCell (d + 1) (23, [(0, .ref 221), (1, .int y40), (2, .int y44)], [.int 1], mem) _
                  refine wR_if_eq rfl (a := 1) rfl (fun q => by exfalso; omega) (fun _ => ?_)
                  refine yR_m 3 (fun _ _ _ _ => rfl) ?_
                  refine wR_gr rfl mO_e mO_15 hm ?_
                  refine yR_m 1 (fun _ _ _ _ => rfl) ?_
                  refine wR_gi rfl mO_e mO_13 hm rfl ?_
                  refine wN_al (a := (gi mem 221 13).toInt) rfl aR_224 hm rfl rfl (by omega) (fun y77 e78 => ?_)
                  refine yR_m 1 (fun _ _ _ _ => rfl) ?_
                  refine wN_sub (a := (gn (ga mem 224) (gi mem 221 13).toInt)) (b := 1) rfl e78 rfl (by omega) (fun x79 e80 => ?_)
                  refine wR_is rfl rfl rfl rfl rfl rfl ?_
                  show yR zpg tX12_is d (0, [(0, .int y44), (1, .int 0), (2, .int x79)], [], mem) _
                  refine yR_m 2 (fun _ _ _ _ => rfl) ?_
                  refine wR_ic_lt rfl (a := (gn (ga mem 222) ((k).toInt + 3))) (c := 0) e45 rfl (fun q81 => ?_) (fun q81 => ?_)
                  ·
                    refine yR_m 1 (fun _ _ _ _ => rfl) ?_
                    refine yR_rz rfl ⟨by decide, by decide⟩ ?_
                    show yR zpg tX12_isCell (d + 1) (42, [(0, .ref 221), (1, .int y40), (2, .int y44)], [.int 0], mem) _
                    refine wR_if_eq rfl (a := 0) rfl (fun _ => ?_) (fun q => by exfalso; omega)
                    refine yR_m 1 (fun _ _ _ _ => rfl) ?_
                    refine yR_rz rfl ⟨by decide, by decide⟩ ?_
                    show yR zpg tX12_meet (d + 2) (89, lo, [.int 0], mem) _
                    refine wR_if_eq rfl (a := 0) rfl (fun _ => ?_) (fun q => by exfalso; omega)
                    refine yR_m 1 (fun _ _ _ _ => rfl) ?_
                    refine wR_si rfl rfl (fun lo82 e83 f84 => ?_)
                    have lo82_0 := f84 0 _ (by decide) (Or.inl rfl) l_0
                    have lo82_1 := f84 1 _ (by decide) (Or.inl rfl) l_1
                    have lo82_3 := f84 3 _ (by decide) (Or.inl rfl) l_3
                    refine wN_in (a := (k).toInt) (b := 4) rfl rfl lo82_3 rfl rfl (by omega) (fun x85 e86 => fun lo87 e88 f89 => ?_)
                    have lo87_2 := f89 2 _ (by decide) (Or.inl rfl) e83
                    have lo87_0 := f89 0 _ (by decide) (Or.inl rfl) lo82_0
                    have lo87_1 := f89 1 _ (by decide) (Or.inl rfl) lo82_1
                    exact yR_m 1 (fun _ _ _ _ => rfl) (h9 q1 q2 y3 e4 q5 x14 e15 y16 e17 q18 y27 e28 q29 x38 e39 y40 e41 x42 e43 y44 e45 q46 y55 e56 x57 e58 q59 q68 y77 e78 x79 e80 q81 x85 e86 lo87 lo87_0 lo87_1 lo87_2 e88 hm)
                  ·
                    refine yR_m 2 (fun _ _ _ _ => rfl) ?_
                    refine wR_ic_gt rfl (a := (gn (ga mem 222) ((k).toInt + 3))) (c := ((gn (ga mem 224) (gi mem 221 13).toInt) - 1)) e45 e80 (fun q90 => ?_) (fun q90 => ?_)
                    ·
                      refine yR_m 1 (fun _ _ _ _ => rfl) ?_
                      refine yR_rz rfl ⟨by decide, by decide⟩ ?_
                      show yR zpg tX12_isCell (d + 1) (42, [(0, .ref 221), (1, .int y40), (2, .int y44)], [.int 0], mem) _
                      refine wR_if_eq rfl (a := 0) rfl (fun _ => ?_) (fun q => by exfalso; omega)
                      refine yR_m 1 (fun _ _ _ _ => rfl) ?_
                      refine yR_rz rfl ⟨by decide, by decide⟩ ?_
                      show yR zpg tX12_meet (d + 2) (89, lo, [.int 0], mem) _
                      refine wR_if_eq rfl (a := 0) rfl (fun _ => ?_) (fun q => by exfalso; omega)
                      refine yR_m 1 (fun _ _ _ _ => rfl) ?_
                      refine wR_si rfl rfl (fun lo91 e92 f93 => ?_)
                      have lo91_0 := f93 0 _ (by decide) (Or.inl rfl) l_0
                      have lo91_1 := f93 1 _ (by decide) (Or.inl rfl) l_1
                      have lo91_3 := f93 3 _ (by decide) (Or.inl rfl) l_3
                      refine wN_in (a := (k).toInt) (b := 4) rfl rfl lo91_3 rfl rfl (by omega) (fun x94 e95 => fun lo96 e97 f98 => ?_)
                      have lo96_2 := f98 2 _ (by decide) (Or.inl rfl) e92
                      have lo96_0 := f98 0 _ (by decide) (Or.inl rfl) lo91_0
                      have lo96_1 := f98 1 _ (by decide) (Or.inl rfl) lo91_1
                      exact yR_m 1 (fun _ _ _ _ => rfl) (h10 q1 q2 y3 e4 q5 x14 e15 y16 e17 q18 y27 e28 q29 x38 e39 y40 e41 x42 e43 y44 e45 q46 y55 e56 x57 e58 q59 q68 y77 e78 x79 e80 q81 q90 x94 e95 lo96 lo96_0 lo96_1 lo96_2 e97 hm)
                    ·
                      refine yR_m 2 (fun _ _ _ _ => rfl) ?_
                      refine yR_rz rfl ⟨by decide, by decide⟩ ?_
                      show yR zpg tX12_isCell (d + 1) (42, [(0, .ref 221), (1, .int y40), (2, .int y44)], [.int 1], mem) _
                      refine wR_if_eq rfl (a := 1) rfl (fun q => by exfalso; omega) (fun _ => ?_)
                      refine yR_m 2 (fun _ _ _ _ => rfl) ?_
                      refine yR_rz rfl ⟨by decide, by decide⟩ ?_
                      show yR zpg tX12_meet (d + 2) (89, lo, [.int 1], mem) _
                      refine wR_if_eq rfl (a := 1) rfl (fun q => by exfalso; omega) (fun _ => ?_)
                      refine yR_m 2 (fun _ _ _ _ => rfl) ?_
                      refine wR_si rfl rfl (fun lo99 e100 f101 => ?_)
                      have lo99_0 := f101 0 _ (by decide) (Or.inl rfl) l_0
                      have lo99_1 := f101 1 _ (by decide) (Or.inl rfl) l_1
                      have lo99_3 := f101 3 _ (by decide) (Or.inl rfl) l_3
                      refine wN_in (a := (k).toInt) (b := 4) rfl rfl lo99_3 rfl rfl (by omega) (fun x102 e103 => fun lo104 e105 f106 => ?_)
                      have lo104_2 := f106 2 _ (by decide) (Or.inl rfl) e100
                      have lo104_0 := f106 0 _ (by decide) (Or.inl rfl) lo99_0
                      have lo104_1 := f106 1 _ (by decide) (Or.inl rfl) lo99_1
                      exact yR_m 1 (fun _ _ _ _ => rfl) (h11 q1 q2 y3 e4 q5 x14 e15 y16 e17 q18 y27 e28 q29 x38 e39 y40 e41 x42 e43 y44 e45 q46 y55 e56 x57 e58 q59 q68 y77 e78 x79 e80 q81 q90 x102 e103 lo104 lo104_0 lo104_1 lo104_2 e105 hm)

theorem nm34 (hn : 0 ≤ n.toInt ∧ n.toInt ≤ 1600) (hm : aTm aT0 mem) (hT : ga mem 222 = T) (hC : gn (ga mem 223) (gi mem 221 13).toInt = C) (hR : gn (ga mem 224) (gi mem 221 13).toInt = R) (hF : gn (ga mem 233) (gi mem 221 13).toInt = F) (hcr : (0 ≤ C ∧ C ≤ 7) ∧ 0 ≤ R ∧ R ≤ 7) (h46 : (gi mem 221 46).toInt = 1 ∨ ((gi mem 221 46).toInt = 0 ∧ C = 0)) : ∀ (f : Nat) (g k : Int32) (lo : List (Nat × Value)), n.toInt ≤ k.toInt + 4 * (f : Int) → 0 ≤ k.toInt → k.toInt ≤ n.toInt + 3 → ((g.toInt = 1 ∧ (4 ≤ n.toInt ∧ n.toInt ≤ 64 ∧ n.toInt % 4 = 0) ∧ k.toInt % 4 = 0 ∧ ∀ j, 0 ≤ j → 4 * j < k.toInt → mtO T C R F j) ∨ (g.toInt = 0 ∧ ¬ mtK T n.toInt C R F)) → zlg lo 0 = some (.ref 221) → zlg lo 1 = some (.int n) → zlg lo 2 = some (.int g) → zlg lo 3 = some (.int k) → yR zpg tX12_meet (d + 2) (34, lo, [], mem) (fun r _ => ∃ v : Int32, r = some (.int v) ∧ mtA T n.toInt C R F v.toInt) := by
  subst hT
  intro f
  induction f with
  | zero =>
    intro g k lo hf h0 h1 hv a0 a1 a2 a3
    exact w_nm34 hm a0 a1 a2 a3 hn (by rcases hv with w | w <;> have w1 := w.1 <;> omega) (by rcases hv with w | w <;> have w1 := w.1 <;> omega) (fun w _ => by rcases hv with z | z <;> have z1 := z.1 <;> omega) (by rw [hC, hR]; exact hcr)
        (fun q1 lo a0 a1 a2 hm2 => nm104 hm2 hF (hv.elim (fun w => Or.inl ⟨w.1, w.2.1, fun j j0 j1 => w.2.2.2 j j0 (by omega)⟩) (fun w => Or.inr w)) a0 a1 a2)
        (fun q1 q2 lo a0 a1 a2 hm2 => nm104 hm2 hF (hv.elim (fun w => by exfalso; have w1 := w.1; omega) (fun w => Or.inr w)) a0 a1 a2)
        (fun q1 q2 y3 e4 q5 x9 e10 lo a0 a1 a2 a3 hm2 => by exfalso; rcases hv with w | w <;> have w1 := w.1 <;> omega)
        (fun q1 q2 y3 e4 q5 x14 e15 y16 e17 q18 x22 e23 lo a0 a1 a2 a3 hm2 => by exfalso; rcases hv with w | w <;> have w1 := w.1 <;> omega)
        (fun q1 q2 y3 e4 q5 x14 e15 y16 e17 q18 y27 e28 q29 x33 e34 lo a0 a1 a2 a3 hm2 => by exfalso; rcases hv with w | w <;> have w1 := w.1 <;> omega)
        (fun q1 q2 y3 e4 q5 x14 e15 y16 e17 q18 y27 e28 q29 x38 e39 y40 e41 x42 e43 y44 e45 q46 x50 e51 lo a0 a1 a2 a3 hm2 => by exfalso; rcases hv with w | w <;> have w1 := w.1 <;> omega)
        (fun q1 q2 y3 e4 q5 x14 e15 y16 e17 q18 y27 e28 q29 x38 e39 y40 e41 x42 e43 y44 e45 q46 y55 e56 x57 e58 q59 x63 e64 lo a0 a1 a2 a3 hm2 => by exfalso; rcases hv with w | w <;> have w1 := w.1 <;> omega)
        (fun q1 q2 y3 e4 q5 x14 e15 y16 e17 q18 y27 e28 q29 x38 e39 y40 e41 x42 e43 y44 e45 q46 y55 e56 x57 e58 q59 q68 x72 e73 lo a0 a1 a2 a3 hm2 => by exfalso; rcases hv with w | w <;> have w1 := w.1 <;> omega)
        (fun q1 q2 y3 e4 q5 x14 e15 y16 e17 q18 y27 e28 q29 x38 e39 y40 e41 x42 e43 y44 e45 q46 y55 e56 x57 e58 q59 q68 y77 e78 x79 e80 q81 x85 e86 lo a0 a1 a2 a3 hm2 => by exfalso; rcases hv with w | w <;> have w1 := w.1 <;> omega)
        (fun q1 q2 y3 e4 q5 x14 e15 y16 e17 q18 y27 e28 q29 x38 e39 y40 e41 x42 e43 y44 e45 q46 y55 e56 x57 e58 q59 q68 y77 e78 x79 e80 q81 q90 x94 e95 lo a0 a1 a2 a3 hm2 => by exfalso; rcases hv with w | w <;> have w1 := w.1 <;> omega)
        (fun q1 q2 y3 e4 q5 x14 e15 y16 e17 q18 y27 e28 q29 x38 e39 y40 e41 x42 e43 y44 e45 q46 y55 e56 x57 e58 q59 q68 y77 e78 x79 e80 q81 q90 x102 e103 lo a0 a1 a2 a3 hm2 => by exfalso; rcases hv with w | w <;> have w1 := w.1 <;> omega)
  | succ f ih =>
    intro g k lo hf h0 h1 hv a0 a1 a2 a3
    exact w_nm34 hm a0 a1 a2 a3 hn (by rcases hv with w | w <;> have w1 := w.1 <;> omega) (by rcases hv with w | w <;> have w1 := w.1 <;> omega) (fun w _ => by rcases hv with z | z <;> have z1 := z.1 <;> omega) (by rw [hC, hR]; exact hcr)
        (fun q1 lo a0 a1 a2 hm2 => nm104 hm2 hF (hv.elim (fun w => Or.inl ⟨w.1, w.2.1, fun j j0 j1 => w.2.2.2 j j0 (by omega)⟩) (fun w => Or.inr w)) a0 a1 a2)
        (fun q1 q2 lo a0 a1 a2 hm2 => nm104 hm2 hF (hv.elim (fun w => by exfalso; have w1 := w.1; omega) (fun w => Or.inr w)) a0 a1 a2)
        (fun q1 q2 y3 e4 q5 x9 e10 lo a0 a1 a2 a3 hm2 => by
          rcases hv with ⟨g1', hN4, h4, hO4⟩ | ⟨w, -⟩
          · have g1 := gR_222 hm (i := k.toInt + 1) (by omega) (by omega)
            have g2 := gR_222 hm (i := k.toInt + 2) (by omega) (by omega)
            have g3 := gR_222 hm (i := k.toInt + 3) (by omega) (by omega)
            exact ih 0 x9 lo (by omega) (by omega) (by omega) (Or.inr ⟨rfl, fun w => by
                have e : 4 * (k.toInt / 4) = k.toInt := by omega
                have o := w.2 (k.toInt / 4) (by omega) (by omega)
                unfold mtO at o
                rw [e] at o
                omega⟩) a0 a1 a2 a3
          · exfalso; omega)
        (fun q1 q2 y3 e4 q5 x14 e15 y16 e17 q18 x22 e23 lo a0 a1 a2 a3 hm2 => by
          rcases hv with ⟨g1', hN4, h4, hO4⟩ | ⟨w, -⟩
          · have g1 := gR_222 hm (i := k.toInt + 1) (by omega) (by omega)
            have g2 := gR_222 hm (i := k.toInt + 2) (by omega) (by omega)
            have g3 := gR_222 hm (i := k.toInt + 3) (by omega) (by omega)
            exact ih 0 x22 lo (by omega) (by omega) (by omega) (Or.inr ⟨rfl, fun w => by
                have e : 4 * (k.toInt / 4) = k.toInt := by omega
                have o := w.2 (k.toInt / 4) (by omega) (by omega)
                unfold mtO at o
                rw [e] at o
                omega⟩) a0 a1 a2 a3
          · exfalso; omega)
        (fun q1 q2 y3 e4 q5 x14 e15 y16 e17 q18 y27 e28 q29 x33 e34 lo a0 a1 a2 a3 hm2 => by
          rcases hv with ⟨g1', hN4, h4, hO4⟩ | ⟨w, -⟩
          · have g1 := gR_222 hm (i := k.toInt + 1) (by omega) (by omega)
            have g2 := gR_222 hm (i := k.toInt + 2) (by omega) (by omega)
            have g3 := gR_222 hm (i := k.toInt + 3) (by omega) (by omega)
            exact ih 0 x33 lo (by omega) (by omega) (by omega) (Or.inr ⟨rfl, fun w => by
                have e : 4 * (k.toInt / 4) = k.toInt := by omega
                have o := w.2 (k.toInt / 4) (by omega) (by omega)
                unfold mtO at o
                rw [e] at o
                omega⟩) a0 a1 a2 a3
          · exfalso; omega)
        (fun q1 q2 y3 e4 q5 x14 e15 y16 e17 q18 y27 e28 q29 x38 e39 y40 e41 x42 e43 y44 e45 q46 x50 e51 lo a0 a1 a2 a3 hm2 => by
          rcases hv with ⟨g1', hN4, h4, hO4⟩ | ⟨w, -⟩
          · have g1 := gR_222 hm (i := k.toInt + 1) (by omega) (by omega)
            have g2 := gR_222 hm (i := k.toInt + 2) (by omega) (by omega)
            have g3 := gR_222 hm (i := k.toInt + 3) (by omega) (by omega)
            exact ih 0 x50 lo (by omega) (by omega) (by omega) (Or.inr ⟨rfl, fun w => by
                have e : 4 * (k.toInt / 4) = k.toInt := by omega
                have o := w.2 (k.toInt / 4) (by omega) (by omega)
                unfold mtO at o
                rw [e] at o
                omega⟩) a0 a1 a2 a3
          · exfalso; omega)
        (fun q1 q2 y3 e4 q5 x14 e15 y16 e17 q18 y27 e28 q29 x38 e39 y40 e41 x42 e43 y44 e45 q46 y55 e56 x57 e58 q59 x63 e64 lo a0 a1 a2 a3 hm2 => by
          rcases hv with ⟨g1', hN4, h4, hO4⟩ | ⟨w, -⟩
          · have g1 := gR_222 hm (i := k.toInt + 1) (by omega) (by omega)
            have g2 := gR_222 hm (i := k.toInt + 2) (by omega) (by omega)
            have g3 := gR_222 hm (i := k.toInt + 3) (by omega) (by omega)
            exact ih 0 x63 lo (by omega) (by omega) (by omega) (Or.inr ⟨rfl, fun w => by
                have e : 4 * (k.toInt / 4) = k.toInt := by omega
                have o := w.2 (k.toInt / 4) (by omega) (by omega)
                unfold mtO at o
                rw [e] at o
                omega⟩) a0 a1 a2 a3
          · exfalso; omega)
        (fun q1 q2 y3 e4 q5 x14 e15 y16 e17 q18 y27 e28 q29 x38 e39 y40 e41 x42 e43 y44 e45 q46 y55 e56 x57 e58 q59 q68 x72 e73 lo a0 a1 a2 a3 hm2 => by
          rcases hv with ⟨g1', hN4, h4, hO4⟩ | ⟨w, -⟩
          · have g1 := gR_222 hm (i := k.toInt + 1) (by omega) (by omega)
            have g2 := gR_222 hm (i := k.toInt + 2) (by omega) (by omega)
            have g3 := gR_222 hm (i := k.toInt + 3) (by omega) (by omega)
            exact ih 0 x72 lo (by omega) (by omega) (by omega) (Or.inr ⟨rfl, fun w => by
                have e : 4 * (k.toInt / 4) = k.toInt := by omega
                have o := w.2 (k.toInt / 4) (by omega) (by omega)
                unfold mtO at o
                rw [e] at o
                omega⟩) a0 a1 a2 a3
          · exfalso; omega)
        (fun q1 q2 y3 e4 q5 x14 e15 y16 e17 q18 y27 e28 q29 x38 e39 y40 e41 x42 e43 y44 e45 q46 y55 e56 x57 e58 q59 q68 y77 e78 x79 e80 q81 x85 e86 lo a0 a1 a2 a3 hm2 => by
          rcases hv with ⟨g1', hN4, h4, hO4⟩ | ⟨w, -⟩
          · have g1 := gR_222 hm (i := k.toInt + 1) (by omega) (by omega)
            have g2 := gR_222 hm (i := k.toInt + 2) (by omega) (by omega)
            have g3 := gR_222 hm (i := k.toInt + 3) (by omega) (by omega)
            exact ih 0 x85 lo (by omega) (by omega) (by omega) (Or.inr ⟨rfl, fun w => by
                have e : 4 * (k.toInt / 4) = k.toInt := by omega
                have o := w.2 (k.toInt / 4) (by omega) (by omega)
                unfold mtO at o
                rw [e] at o
                omega⟩) a0 a1 a2 a3
          · exfalso; omega)
        (fun q1 q2 y3 e4 q5 x14 e15 y16 e17 q18 y27 e28 q29 x38 e39 y40 e41 x42 e43 y44 e45 q46 y55 e56 x57 e58 q59 q68 y77 e78 x79 e80 q81 q90 x94 e95 lo a0 a1 a2 a3 hm2 => by
          rcases hv with ⟨g1', hN4, h4, hO4⟩ | ⟨w, -⟩
          · have g1 := gR_222 hm (i := k.toInt + 1) (by omega) (by omega)
            have g2 := gR_222 hm (i := k.toInt + 2) (by omega) (by omega)
            have g3 := gR_222 hm (i := k.toInt + 3) (by omega) (by omega)
            exact ih 0 x94 lo (by omega) (by omega) (by omega) (Or.inr ⟨rfl, fun w => by
                have e : 4 * (k.toInt / 4) = k.toInt := by omega
                have o := w.2 (k.toInt / 4) (by omega) (by omega)
                unfold mtO at o
                rw [e] at o
                omega⟩) a0 a1 a2 a3
          · exfalso; omega)
        (fun q1 q2 y3 e4 q5 x14 e15 y16 e17 q18 y27 e28 q29 x38 e39 y40 e41 x42 e43 y44 e45 q46 y55 e56 x57 e58 q59 q68 y77 e78 x79 e80 q81 q90 x102 e103 lo a0 a1 a2 a3 hm2 => by
          rcases hv with ⟨g1', hN4, h4, hO4⟩ | ⟨w, -⟩
          · have g1 := gR_222 hm (i := k.toInt + 1) (by omega) (by omega)
            have g2 := gR_222 hm (i := k.toInt + 2) (by omega) (by omega)
            have g3 := gR_222 hm (i := k.toInt + 3) (by omega) (by omega)
            exact ih 1 x102 lo (by omega) (by omega) (by omega) (Or.inl ⟨rfl, hN4, by omega, fun j j0 j1 => by
                by_cases c : 4 * j < k.toInt
                · exact hO4 j j0 c
                · have e : 4 * j = k.toInt := by omega
                  unfold mtO
                  rw [e]
                  omega⟩) a0 a1 a2 a3
          · exfalso; omega)
set_option maxRecDepth 100000 in
theorem w_nm0 {d : Nat} {mem : zM} {P : Option Value → zM → Prop} {lo : List (Nat × Value)} (hm : aTm aT0 mem) (l_0 : zlg lo 0 = some (.ref 221)) (h1 : (gi mem 221 1).toInt ≤ 0 → ∀ lo, zlg lo 0 = some (.ref 221) → zlg lo 1 = some (.int (gi mem 221 1)) → zlg lo 2 = some (.int 0) → zlg lo 3 = some (.int 0) → aTm aT0 (si mem 221 1 0) → yR zpg tX12_meet (d + 2) (34, lo, [], (si mem 221 1 0)) P) (h2 : 0 < (gi mem 221 1).toInt → ∀ (x11 : Int32), x11.toInt = ((gi mem 221 1).toInt % 4) → ¬ ((gi mem 221 1).toInt % 4) = 0 → ∀ lo, zlg lo 0 = some (.ref 221) → zlg lo 1 = some (.int (gi mem 221 1)) → zlg lo 2 = some (.int 0) → zlg lo 3 = some (.int 0) → aTm aT0 (si mem 221 1 0) → yR zpg tX12_meet (d + 2) (34, lo, [], (si mem 221 1 0)) P) (h3 : 0 < (gi mem 221 1).toInt → ∀ (x11 : Int32), x11.toInt = ((gi mem 221 1).toInt % 4) → ((gi mem 221 1).toInt % 4) = 0 → 64 < (gi mem 221 1).toInt → ∀ lo, zlg lo 0 = some (.ref 221) → zlg lo 1 = some (.int (gi mem 221 1)) → zlg lo 2 = some (.int 0) → zlg lo 3 = some (.int 0) → aTm aT0 (si mem 221 1 0) → yR zpg tX12_meet (d + 2) (34, lo, [], (si mem 221 1 0)) P) (h4 : 0 < (gi mem 221 1).toInt → ∀ (x11 : Int32), x11.toInt = ((gi mem 221 1).toInt % 4) → ((gi mem 221 1).toInt % 4) = 0 → (gi mem 221 1).toInt ≤ 64 → ∀ lo, zlg lo 0 = some (.ref 221) → zlg lo 1 = some (.int (gi mem 221 1)) → zlg lo 2 = some (.int 1) → zlg lo 3 = some (.int 0) → aTm aT0 (si mem 221 1 0) → yR zpg tX12_meet (d + 2) (34, lo, [], (si mem 221 1 0)) P) : yR zpg tX12_meet (d + 2) (0, lo, [], mem) P := by
  have r1 := mO_r1 hm
  refine wR_la rfl l_0 ?_
  refine wR_gi rfl mO_e mO_1 hm rfl ?_
  refine wR_si rfl rfl (fun lo1 e2 f3 => ?_)
  have lo1_0 := f3 0 _ (by decide) (Or.inl rfl) l_0
  refine wR_la rfl lo1_0 ?_
  refine yR_m 1 (fun _ _ _ _ => rfl) ?_
  refine wR_pi rfl mO_e mO_1 hm rfl ?_
  have hm_1 : aTm aT0 (si mem 221 1 0) := tm_si mO_e mO_1 hm (by decide)
  refine wR_li rfl e2 ?_
  refine wR_if_le rfl (a := (gi mem 221 1).toInt) rfl (fun q4 => ?_) (fun q4 => ?_)
  ·
    refine yR_m 1 (fun _ _ _ _ => rfl) ?_
    refine wR_si rfl rfl (fun lo5 e6 f7 => ?_)
    have lo5_1 := f7 1 _ (by decide) (Or.inl rfl) e2
    have lo5_0 := f7 0 _ (by decide) (Or.inl rfl) lo1_0
    refine yR_m 1 (fun _ _ _ _ => rfl) ?_
    refine wR_si rfl rfl (fun lo8 e9 f10 => ?_)
    have lo8_2 := f10 2 _ (by decide) (Or.inl rfl) e6
    have lo8_1 := f10 1 _ (by decide) (Or.inl rfl) lo5_1
    have lo8_0 := f10 0 _ (by decide) (Or.inl rfl) lo5_0
    exact h1 q4 lo8 lo8_0 lo8_1 lo8_2 e9 hm_1
  ·
    refine wR_li rfl e2 ?_
    refine yR_m 1 (fun _ _ _ _ => rfl) ?_
    refine wN_rem (a := (gi mem 221 1).toInt) (b := 4) rfl rfl rfl (by decide) (by omega) (fun x11 e12 => ?_)
    refine wR_if_ne rfl (a := ((gi mem 221 1).toInt % 4)) e12 (fun q13 => ?_) (fun q13 => ?_)
    ·
      refine yR_m 1 (fun _ _ _ _ => rfl) ?_
      refine wR_si rfl rfl (fun lo14 e15 f16 => ?_)
      have lo14_1 := f16 1 _ (by decide) (Or.inl rfl) e2
      have lo14_0 := f16 0 _ (by decide) (Or.inl rfl) lo1_0
      refine yR_m 1 (fun _ _ _ _ => rfl) ?_
      refine wR_si rfl rfl (fun lo17 e18 f19 => ?_)
      have lo17_2 := f19 2 _ (by decide) (Or.inl rfl) e15
      have lo17_1 := f19 1 _ (by decide) (Or.inl rfl) lo14_1
      have lo17_0 := f19 0 _ (by decide) (Or.inl rfl) lo14_0
      exact h2 q4 x11 e12 q13 lo17 lo17_0 lo17_1 lo17_2 e18 hm_1
    ·
      refine wR_li rfl e2 ?_
      refine yR_m 1 (fun _ _ _ _ => rfl) ?_
      refine wR_ic_gt rfl (a := (gi mem 221 1).toInt) (c := 64) rfl rfl (fun q20 => ?_) (fun q20 => ?_)
      ·
        refine yR_m 1 (fun _ _ _ _ => rfl) ?_
        refine wR_si rfl rfl (fun lo21 e22 f23 => ?_)
        have lo21_1 := f23 1 _ (by decide) (Or.inl rfl) e2
        have lo21_0 := f23 0 _ (by decide) (Or.inl rfl) lo1_0
        refine yR_m 1 (fun _ _ _ _ => rfl) ?_
        refine wR_si rfl rfl (fun lo24 e25 f26 => ?_)
        have lo24_2 := f26 2 _ (by decide) (Or.inl rfl) e22
        have lo24_1 := f26 1 _ (by decide) (Or.inl rfl) lo21_1
        have lo24_0 := f26 0 _ (by decide) (Or.inl rfl) lo21_0
        exact h3 q4 x11 e12 q13 q20 lo24 lo24_0 lo24_1 lo24_2 e25 hm_1
      ·
        refine yR_m 2 (fun _ _ _ _ => rfl) ?_
        refine wR_si rfl rfl (fun lo27 e28 f29 => ?_)
        have lo27_1 := f29 1 _ (by decide) (Or.inl rfl) e2
        have lo27_0 := f29 0 _ (by decide) (Or.inl rfl) lo1_0
        refine yR_m 1 (fun _ _ _ _ => rfl) ?_
        refine wR_si rfl rfl (fun lo30 e31 f32 => ?_)
        have lo30_2 := f32 2 _ (by decide) (Or.inl rfl) e28
        have lo30_1 := f32 1 _ (by decide) (Or.inl rfl) lo27_1
        have lo30_0 := f32 0 _ (by decide) (Or.inl rfl) lo27_0
        exact h4 q4 x11 e12 q13 q20 lo30 lo30_0 lo30_1 lo30_2 e31 hm_1

theorem h_mt_m (hm : aTm aT0 mem) (hT : ga mem 222 = T) (hC : gn (ga mem 223) (gi mem 221 13).toInt = C) (hR : gn (ga mem 224) (gi mem 221 13).toInt = R) (hF : gn (ga mem 233) (gi mem 221 13).toInt = F) (hcr : (0 ≤ C ∧ C ≤ 7) ∧ 0 ≤ R ∧ R ≤ 7) (h46 : (gi mem 221 46).toInt = 1 ∨ ((gi mem 221 46).toInt = 0 ∧ C = 0)) (hd : 3 ≤ d) : yC zpg d 259 [.ref 221] mem (fun r _ => ∃ v : Int32, r = some (.int v) ∧ mtA T (gi mem 221 1).toInt C R F v.toInt) := by
  obtain ⟨d, rfl⟩ : ∃ q, d = q + 3 := ⟨d - 3, by omega⟩
  have r1 := mO_r1 hm
  refine yC_of (t := tX12_meet) rfl rfl ?_
  exact w_nm0 hm rfl
        (fun q4 lo a0 a1 a2 a3 hm2 => nm34 (n := gi mem 221 1) (by omega) hm2 (by rw [(ga_sv)]; exact hT) (by rw [(ga_sv), (gi_sv_ne (by decide))]; exact hC) (by rw [(ga_sv), (gi_sv_ne (by decide))]; exact hR) (by rw [(ga_sv), (gi_sv_ne (by decide))]; exact hF) hcr (by rw [(gi_sv_ne (by decide))]; exact h46) 401 _ 0 lo (by show _ ≤ (0 : Int) + 4 * 401; omega) (by decide) (by show (0 : Int) ≤ _; omega) (Or.inr ⟨rfl, fun w => by have w1 := w.1; omega⟩) a0 a1 a2 a3)
        (fun q4 x11 e12 q13 lo a0 a1 a2 a3 hm2 => nm34 (n := gi mem 221 1) (by omega) hm2 (by rw [(ga_sv)]; exact hT) (by rw [(ga_sv), (gi_sv_ne (by decide))]; exact hC) (by rw [(ga_sv), (gi_sv_ne (by decide))]; exact hR) (by rw [(ga_sv), (gi_sv_ne (by decide))]; exact hF) hcr (by rw [(gi_sv_ne (by decide))]; exact h46) 401 _ 0 lo (by show _ ≤ (0 : Int) + 4 * 401; omega) (by decide) (by show (0 : Int) ≤ _; omega) (Or.inr ⟨rfl, fun w => by have w1 := w.1; omega⟩) a0 a1 a2 a3)
        (fun q4 x11 e12 q13 q20 lo a0 a1 a2 a3 hm2 => nm34 (n := gi mem 221 1) (by omega) hm2 (by rw [(ga_sv)]; exact hT) (by rw [(ga_sv), (gi_sv_ne (by decide))]; exact hC) (by rw [(ga_sv), (gi_sv_ne (by decide))]; exact hR) (by rw [(ga_sv), (gi_sv_ne (by decide))]; exact hF) hcr (by rw [(gi_sv_ne (by decide))]; exact h46) 401 _ 0 lo (by show _ ≤ (0 : Int) + 4 * 401; omega) (by decide) (by show (0 : Int) ≤ _; omega) (Or.inr ⟨rfl, fun w => by have w1 := w.1; omega⟩) a0 a1 a2 a3)
        (fun q4 x11 e12 q13 q20 lo a0 a1 a2 a3 hm2 => nm34 (n := gi mem 221 1) (by omega) hm2 (by rw [(ga_sv)]; exact hT) (by rw [(ga_sv), (gi_sv_ne (by decide))]; exact hC) (by rw [(ga_sv), (gi_sv_ne (by decide))]; exact hR) (by rw [(ga_sv), (gi_sv_ne (by decide))]; exact hF) hcr (by rw [(gi_sv_ne (by decide))]; exact h46) 401 _ 0 lo (by show _ ≤ (0 : Int) + 4 * 401; omega) (by decide) (by show (0 : Int) ≤ _; omega) (Or.inl ⟨rfl, ⟨by omega, by omega, by omega⟩, by decide, fun j j0 j1 => by exfalso; have j2 : 4 * j < 0 := j1; omega⟩) a0 a1 a2 a3)
set_option maxRecDepth 100000 in
theorem w_tm24A {d : Nat} {mem : zM} {P : Option Value → zM → Prop} {n k : Int32} {lo : List (Nat × Value)} (hm : aTm aT0 mem) (l_0 : zlg lo 0 = some (.ref 185)) (l_1 : zlg lo 1 = some (.ref 1)) (l_2 : zlg lo 2 = some (.int n)) (l_3 : zlg lo 3 = some (.int k)) (hh : zfl mem 181 0 = some (.ref 2)) (hn : 4 ≤ n.toInt ∧ n.toInt ≤ 64) (hk : 0 ≤ k.toInt ∧ k.toInt ≤ 64) (h1 : (n).toInt ≤ (k).toInt → ∀ lo, zlg lo 0 = some (.ref 185) → zlg lo 1 = some (.ref 1) → zlg lo 2 = some (.int n) → aTm aT0 mem → yR zpg tX3_takesMet (d + 1) (86, lo, [], mem) P) (h2 : (k).toInt < (n).toInt → ∀ (y2 : Int32), y2.toInt = (gn (ga mem 1) (k).toInt) → 30 < (gn (ga mem 1) (k).toInt) → aTm aT0 mem → P (some (.int 0)) mem) (h3 : (k).toInt < (n).toInt → ∀ (y2 : Int32), y2.toInt = (gn (ga mem 1) (k).toInt) → (gn (ga mem 1) (k).toInt) ≤ 30 → ∀ (x5 : Int32), x5.toInt = ((k).toInt + 1) → ∀ (y7 : Int32), y7.toInt = (gn (ga mem 1) ((k).toInt + 1)) → (gi mem 2 13).toInt ≤ (gn (ga mem 1) ((k).toInt + 1)) → aTm aT0 mem → P (some (.int 0)) mem) (h4 : (k).toInt < (n).toInt → ∀ (y2 : Int32), y2.toInt = (gn (ga mem 1) (k).toInt) → (gn (ga mem 1) (k).toInt) ≤ 30 → ∀ (x5 : Int32), x5.toInt = ((k).toInt + 1) → ∀ (y7 : Int32), y7.toInt = (gn (ga mem 1) ((k).toInt + 1)) → (gn (ga mem 1) ((k).toInt + 1)) < (gi mem 2 13).toInt → ∀ (x10 : Int32), x10.toInt = ((k).toInt + 2) → ∀ (y12 : Int32), y12.toInt = (gn (ga mem 1) ((k).toInt + 2)) → ∀ (x14 : Int32), x14.toInt = ((k).toInt + 3) → ∀ (y16 : Int32), y16.toInt = (gn (ga mem 1) ((k).toInt + 3)) → (gn (ga mem 1) ((k).toInt + 2)) < 0 → aTm aT0 mem → P (some (.int 0)) mem) (h5 : (k).toInt < (n).toInt → ∀ (y2 : Int32), y2.toInt = (gn (ga mem 1) (k).toInt) → (gn (ga mem 1) (k).toInt) ≤ 30 → ∀ (x5 : Int32), x5.toInt = ((k).toInt + 1) → ∀ (y7 : Int32), y7.toInt = (gn (ga mem 1) ((k).toInt + 1)) → (gn (ga mem 1) ((k).toInt + 1)) < (gi mem 2 13).toInt → ∀ (x10 : Int32), x10.toInt = ((k).toInt + 2) → ∀ (y12 : Int32), y12.toInt = (gn (ga mem 1) ((k).toInt + 2)) → ∀ (x14 : Int32), x14.toInt = ((k).toInt + 3) → ∀ (y16 : Int32), y16.toInt = (gn (ga mem 1) ((k).toInt + 3)) → 0 ≤ (gn (ga mem 1) ((k).toInt + 2)) → (gi mem 2 1).toInt ≤ (gn (ga mem 1) ((k).toInt + 2)) → aTm aT0 mem → P (some (.int 0)) mem) (h6 : (k).toInt < (n).toInt → ∀ (y2 : Int32), y2.toInt = (gn (ga mem 1) (k).toInt) → (gn (ga mem 1) (k).toInt) ≤ 30 → ∀ (x5 : Int32), x5.toInt = ((k).toInt + 1) → ∀ (y7 : Int32), y7.toInt = (gn (ga mem 1) ((k).toInt + 1)) → (gn (ga mem 1) ((k).toInt + 1)) < (gi mem 2 13).toInt → ∀ (x10 : Int32), x10.toInt = ((k).toInt + 2) → ∀ (y12 : Int32), y12.toInt = (gn (ga mem 1) ((k).toInt + 2)) → ∀ (x14 : Int32), x14.toInt = ((k).toInt + 3) → ∀ (y16 : Int32), y16.toInt = (gn (ga mem 1) ((k).toInt + 3)) → 0 ≤ (gn (ga mem 1) ((k).toInt + 2)) → (gn (ga mem 1) ((k).toInt + 2)) < (gi mem 2 1).toInt → (gn (ga mem 1) ((k).toInt + 3)) < 0 → aTm aT0 mem → P (some (.int 0)) mem) (h7 : (k).toInt < (n).toInt → ∀ (y2 : Int32), y2.toInt = (gn (ga mem 1) (k).toInt) → (gn (ga mem 1) (k).toInt) ≤ 30 → ∀ (x5 : Int32), x5.toInt = ((k).toInt + 1) → ∀ (y7 : Int32), y7.toInt = (gn (ga mem 1) ((k).toInt + 1)) → (gn (ga mem 1) ((k).toInt + 1)) < (gi mem 2 13).toInt → ∀ (x10 : Int32), x10.toInt = ((k).toInt + 2) → ∀ (y12 : Int32), y12.toInt = (gn (ga mem 1) ((k).toInt + 2)) → ∀ (x14 : Int32), x14.toInt = ((k).toInt + 3) → ∀ (y16 : Int32), y16.toInt = (gn (ga mem 1) ((k).toInt + 3)) → 0 ≤ (gn (ga mem 1) ((k).toInt + 2)) → (gn (ga mem 1) ((k).toInt + 2)) < (gi mem 2 1).toInt → 0 ≤ (gn (ga mem 1) ((k).toInt + 3)) → (gi mem 2 2).toInt ≤ (gn (ga mem 1) ((k).toInt + 3)) → aTm aT0 mem → P (some (.int 0)) mem) (h8 : (k).toInt < (n).toInt → ∀ (y2 : Int32), y2.toInt = (gn (ga mem 1) (k).toInt) → (gn (ga mem 1) (k).toInt) ≤ 30 → ∀ (x5 : Int32), x5.toInt = ((k).toInt + 1) → ∀ (y7 : Int32), y7.toInt = (gn (ga mem 1) ((k).toInt + 1)) → (gn (ga mem 1) ((k).toInt + 1)) < (gi mem 2 13).toInt → ∀ (x10 : Int32), x10.toInt = ((k).toInt + 2) → ∀ (y12 : Int32), y12.toInt = (gn (ga mem 1) ((k).toInt + 2)) → ∀ (x14 : Int32), x14.toInt = ((k).toInt + 3) → ∀ (y16 : Int32), y16.toInt = (gn (ga mem 1) ((k).toInt + 3)) → 0 ≤ (gn (ga mem 1) ((k).toInt + 2)) → (gn (ga mem 1) ((k).toInt + 2)) < (gi mem 2 1).toInt → 0 ≤ (gn (ga mem 1) ((k).toInt + 3)) → (gn (ga mem 1) ((k).toInt + 3)) < (gi mem 2 2).toInt → ∀ (x22 : Int32), x22.toInt = ((k).toInt + 4) → ∀ lo, zlg lo 0 = some (.ref 185) → zlg lo 1 = some (.ref 1) → zlg lo 2 = some (.int n) → zlg lo 3 = some (.int x22) → aTm aT0 mem → yR zpg tX3_takesMet (d + 1) (24, lo, [], mem) P) : yR zpg tX3_takesMet (d + 1) (24, lo, [], mem) P := by
  refine wR_li rfl l_3 ?_
  refine wR_li rfl l_2 ?_
  refine wR_ic_ge rfl (a := (k).toInt) (c := (n).toInt) rfl rfl (fun q1 => ?_) (fun q1 => ?_)
  ·
    exact h1 q1 lo l_0 l_1 l_2 hm
  ·
    refine wR_la rfl l_1 ?_
    refine wR_li rfl l_3 ?_
    refine wN_al (a := (k).toInt) rfl aR_1 hm rfl rfl (by omega) (fun y2 e3 => ?_)
    refine yR_m 1 (fun _ _ _ _ => rfl) ?_
    refine wR_ic_gt rfl (a := (gn (ga mem 1) (k).toInt)) (c := 30) e3 rfl (fun q4 => ?_) (fun q4 => ?_)
    ·
      refine yR_m 1 (fun _ _ _ _ => rfl) ?_
      exact yR_rz rfl ⟨by decide, by decide⟩ (h2 q1 y2 e3 q4 hm)
    ·
      refine wR_la rfl l_1 ?_
      refine wR_li rfl l_3 ?_
      refine yR_m 1 (fun _ _ _ _ => rfl) ?_
      refine wN_add (a := (k).toInt) (b := 1) rfl rfl rfl (by omega) (fun x5 e6 => ?_)
      refine wN_al (a := ((k).toInt + 1)) rfl aR_1 hm rfl e6 (by omega) (fun y7 e8 => ?_)
      refine wR_la rfl l_0 ?_
      refine wR_gr rfl plO_e plO_0 hm ?_
      refine wR_gq rfl haO_e hm hh ?_
      refine wR_gi rfl quA_e quA_13 hm rfl ?_
      refine wR_ic_ge rfl (a := (gn (ga mem 1) ((k).toInt + 1))) (c := (gi mem 2 13).toInt) e8 rfl (fun q9 => ?_) (fun q9 => ?_)
      ·
        refine yR_m 1 (fun _ _ _ _ => rfl) ?_
        exact yR_rz rfl ⟨by decide, by decide⟩ (h3 q1 y2 e3 q4 x5 e6 y7 e8 q9 hm)
      ·
        refine wR_la rfl l_0 ?_
        refine wR_gr rfl plO_e plO_0 hm ?_
        refine wR_gq rfl haO_e hm hh ?_
        refine wR_la rfl l_1 ?_
        refine wR_li rfl l_3 ?_
        refine yR_m 1 (fun _ _ _ _ => rfl) ?_
        refine wN_add (a := (k).toInt) (b := 2) rfl rfl rfl (by omega) (fun x10 e11 => ?_)
        refine wN_al (a := ((k).toInt + 2)) rfl aR_1 hm rfl e11 (by omega) (fun y12 e13 => ?_)
        refine wR_la rfl l_1 ?_
        refine wR_li rfl l_3 ?_
        refine yR_m 1 (fun _ _ _ _ => rfl) ?_
        refine wN_add (a := (k).toInt) (b := 3) rfl rfl rfl (by omega) (fun x14 e15 => ?_)
        refine wN_al (a := ((k).toInt + 3)) rfl aR_1 hm rfl e15 (by omega) (fun y16 e17 => ?_)
        refine wR_iv rfl rfl quA_e hm rfl rfl rfl rfl ?_
        show yR zpg tX4_hasCell d (0, [(0, .ref 2), (1, .int y12), (2, .int y16)], [], mem) _
        refine yR_m 1 (fun _ _ _ _ => rfl) ?_
        refine wR_if_lt rfl (a := (gn (ga mem 1) ((k).toInt + 2))) e13 (fun q18 => ?_) (fun q18 => ?_)
        ·
          refine yR_m 1 (fun _ _ _ _ => rfl) ?_
          refine yR_rz rfl ⟨by decide, by decide⟩ ?_
          show yR zpg tX3_takesMet (d + 1) (75, lo, [.int 0], mem) _
          refine wR_if_ne rfl (a := 0) rfl (fun q => by exfalso; omega) (fun _ => ?_)
          refine yR_m 1 (fun _ _ _ _ => rfl) ?_
          exact yR_rz rfl ⟨by decide, by decide⟩ (h4 q1 y2 e3 q4 x5 e6 y7 e8 q9 x10 e11 y12 e13 x14 e15 y16 e17 q18 hm)
        ·
          refine yR_m 2 (fun _ _ _ _ => rfl) ?_
          refine wR_gi rfl quA_e quA_1 hm rfl ?_
          refine wR_ic_ge rfl (a := (gn (ga mem 1) ((k).toInt + 2))) (c := (gi mem 2 1).toInt) e13 rfl (fun q19 => ?_) (fun q19 => ?_)
          ·
            refine yR_m 1 (fun _ _ _ _ => rfl) ?_
            refine yR_rz rfl ⟨by decide, by decide⟩ ?_
            show yR zpg tX3_takesMet (d + 1) (75, lo, [.int 0], mem) _
            refine wR_if_ne rfl (a := 0) rfl (fun q => by exfalso; omega) (fun _ => ?_)
            refine yR_m 1 (fun _ _ _ _ => rfl) ?_
            exact yR_rz rfl ⟨by decide, by decide⟩ (h5 q1 y2 e3 q4 x5 e6 y7 e8 q9 x10 e11 y12 e13 x14 e15 y16 e17 q18 q19 hm)
          ·
            refine yR_m 1 (fun _ _ _ _ => rfl) ?_
            refine wR_if_lt rfl (a := (gn (ga mem 1) ((k).toInt + 3))) e17 (fun q20 => ?_) (fun q20 => ?_)
            ·
              refine yR_m 1 (fun _ _ _ _ => rfl) ?_
              refine yR_rz rfl ⟨by decide, by decide⟩ ?_
              show yR zpg tX3_takesMet (d + 1) (75, lo, [.int 0], mem) _
              refine wR_if_ne rfl (a := 0) rfl (fun q => by exfalso; omega) (fun _ => ?_)
              refine yR_m 1 (fun _ _ _ _ => rfl) ?_
              exact yR_rz rfl ⟨by decide, by decide⟩ (h6 q1 y2 e3 q4 x5 e6 y7 e8 q9 x10 e11 y12 e13 x14 e15 y16 e17 q18 q19 q20 hm)
            ·
              refine yR_m 2 (fun _ _ _ _ => rfl) ?_
              refine wR_gi rfl quA_e quA_2 hm rfl ?_
              refine wR_ic_ge rfl (a := (gn (ga mem 1) ((k).toInt + 3))) (c := (gi mem 2 2).toInt) e17 rfl (fun q21 => ?_) (fun q21 => ?_)
              ·
                refine yR_m 1 (fun _ _ _ _ => rfl) ?_
                refine yR_rz rfl ⟨by decide, by decide⟩ ?_
                show yR zpg tX3_takesMet (d + 1) (75, lo, [.int 0], mem) _
                refine wR_if_ne rfl (a := 0) rfl (fun q => by exfalso; omega) (fun _ => ?_)
                refine yR_m 1 (fun _ _ _ _ => rfl) ?_
                exact yR_rz rfl ⟨by decide, by decide⟩ (h7 q1 y2 e3 q4 x5 e6 y7 e8 q9 x10 e11 y12 e13 x14 e15 y16 e17 q18 q19 q20 q21 hm)
              ·
                refine yR_m 2 (fun _ _ _ _ => rfl) ?_
                refine yR_rz rfl ⟨by decide, by decide⟩ ?_
                show yR zpg tX3_takesMet (d + 1) (75, lo, [.int 1], mem) _
                refine wR_if_ne rfl (a := 1) rfl (fun _ => ?_) (fun q => by exfalso; omega)
                refine wN_in (a := (k).toInt) (b := 4) rfl rfl l_3 rfl rfl (by omega) (fun x22 e23 => fun lo24 e25 f26 => ?_)
                have lo24_0 := f26 0 _ (by decide) (Or.inl rfl) l_0
                have lo24_1 := f26 1 _ (by decide) (Or.inl rfl) l_1
                have lo24_2 := f26 2 _ (by decide) (Or.inl rfl) l_2
                exact yR_m 1 (fun _ _ _ _ => rfl) (h8 q1 y2 e3 q4 x5 e6 y7 e8 q9 x10 e11 y12 e13 x14 e15 y16 e17 q18 q19 q20 q21 x22 e23 lo24 lo24_0 lo24_1 lo24_2 e25 hm)

theorem tm24_A (hm : aTm aT0 mem) (hh : zfl mem 181 0 = some (.ref 2)) (hn : 4 ≤ n.toInt ∧ n.toInt ≤ 64) (h4 : n.toInt % 4 = 0) (hC : (gi mem 2 1).toInt = C) (hR : (gi mem 2 2).toInt = R) (hF : (gi mem 2 13).toInt = F) : ∀ (f : Nat) (k : Int32) (lo : List (Nat × Value)), n.toInt ≤ k.toInt + 4 * (f : Int) → 0 ≤ k.toInt → k.toInt ≤ 64 → k.toInt % 4 = 0 → (∀ j, 0 ≤ j → 4 * j < k.toInt → mtO (ga mem 1) C R F j) → zlg lo 0 = some (.ref 185) → zlg lo 1 = some (.ref 1) → zlg lo 2 = some (.int n) → zlg lo 3 = some (.int k) → yR zpg tX3_takesMet (d + 1) (24, lo, [], mem) (fun r m => ∃ v : Int32, r = some (.int v) ∧ ((v.toInt = 1 ∧ mtK (ga mem 1) n.toInt C R F ∧ (gi m 185 9).toInt = n.toInt / 4) ∨ (v.toInt = 0 ∧ ¬ mtK (ga mem 1) n.toInt C R F))) := by
  intro f
  induction f with
  | zero =>
    intro k lo hf h0 h1 k4 hO a0 a1 a2 a3
    exact w_tm24A hm a0 a1 a2 a3 hh hn ⟨h0, h1⟩
        (fun q1 lo a0 a1 a2 hm2 => yR_mono (fun r m q => ⟨1, q.1, Or.inl ⟨rfl, ⟨⟨hn.1, hn.2, h4⟩, fun j j0 j1 => hO j j0 (by omega)⟩, q.2⟩⟩) (tm86 hm2 (by omega) (by omega) a0 a1 a2))
        (fun q1 y2 e3 q4 hm2 => by exfalso; omega)
        (fun q1 y2 e3 q4 x5 e6 y7 e8 q9 hm2 => by exfalso; omega)
        (fun q1 y2 e3 q4 x5 e6 y7 e8 q9 x10 e11 y12 e13 x14 e15 y16 e17 q18 hm2 => by exfalso; omega)
        (fun q1 y2 e3 q4 x5 e6 y7 e8 q9 x10 e11 y12 e13 x14 e15 y16 e17 q18 q19 hm2 => by exfalso; omega)
        (fun q1 y2 e3 q4 x5 e6 y7 e8 q9 x10 e11 y12 e13 x14 e15 y16 e17 q18 q19 q20 hm2 => by exfalso; omega)
        (fun q1 y2 e3 q4 x5 e6 y7 e8 q9 x10 e11 y12 e13 x14 e15 y16 e17 q18 q19 q20 q21 hm2 => by exfalso; omega)
        (fun q1 y2 e3 q4 x5 e6 y7 e8 q9 x10 e11 y12 e13 x14 e15 y16 e17 q18 q19 q20 q21 x22 e23 lo a0 a1 a2 a3 hm2 => by exfalso; omega)
  | succ f ih =>
    intro k lo hf h0 h1 k4 hO a0 a1 a2 a3
    exact w_tm24A hm a0 a1 a2 a3 hh hn ⟨h0, h1⟩
        (fun q1 lo a0 a1 a2 hm2 => yR_mono (fun r m q => ⟨1, q.1, Or.inl ⟨rfl, ⟨⟨hn.1, hn.2, h4⟩, fun j j0 j1 => hO j j0 (by omega)⟩, q.2⟩⟩) (tm86 hm2 (by omega) (by omega) a0 a1 a2))
        (fun q1 y2 e3 q4 hm2 => by
          have g1 := gR_1 hm (i := k.toInt + 1) (by omega) (by omega)
          have g2 := gR_1 hm (i := k.toInt + 2) (by omega) (by omega)
          have g3 := gR_1 hm (i := k.toInt + 3) (by omega) (by omega)
          exact ⟨0, rfl, Or.inr ⟨rfl, fun w => by
            have e : 4 * (k.toInt / 4) = k.toInt := by omega
            have o := w.2 (k.toInt / 4) (by omega) (by omega)
            unfold mtO at o
            rw [e] at o
            omega⟩⟩)
        (fun q1 y2 e3 q4 x5 e6 y7 e8 q9 hm2 => by
          have g1 := gR_1 hm (i := k.toInt + 1) (by omega) (by omega)
          have g2 := gR_1 hm (i := k.toInt + 2) (by omega) (by omega)
          have g3 := gR_1 hm (i := k.toInt + 3) (by omega) (by omega)
          exact ⟨0, rfl, Or.inr ⟨rfl, fun w => by
            have e : 4 * (k.toInt / 4) = k.toInt := by omega
            have o := w.2 (k.toInt / 4) (by omega) (by omega)
            unfold mtO at o
            rw [e] at o
            omega⟩⟩)
        (fun q1 y2 e3 q4 x5 e6 y7 e8 q9 x10 e11 y12 e13 x14 e15 y16 e17 q18 hm2 => by
          have g1 := gR_1 hm (i := k.toInt + 1) (by omega) (by omega)
          have g2 := gR_1 hm (i := k.toInt + 2) (by omega) (by omega)
          have g3 := gR_1 hm (i := k.toInt + 3) (by omega) (by omega)
          exact ⟨0, rfl, Or.inr ⟨rfl, fun w => by
            have e : 4 * (k.toInt / 4) = k.toInt := by omega
            have o := w.2 (k.toInt / 4) (by omega) (by omega)
            unfold mtO at o
            rw [e] at o
            omega⟩⟩)
        (fun q1 y2 e3 q4 x5 e6 y7 e8 q9 x10 e11 y12 e13 x14 e15 y16 e17 q18 q19 hm2 => by
          have g1 := gR_1 hm (i := k.toInt + 1) (by omega) (by omega)
          have g2 := gR_1 hm (i := k.toInt + 2) (by omega) (by omega)
          have g3 := gR_1 hm (i := k.toInt + 3) (by omega) (by omega)
          exact ⟨0, rfl, Or.inr ⟨rfl, fun w => by
            have e : 4 * (k.toInt / 4) = k.toInt := by omega
            have o := w.2 (k.toInt / 4) (by omega) (by omega)
            unfold mtO at o
            rw [e] at o
            omega⟩⟩)
        (fun q1 y2 e3 q4 x5 e6 y7 e8 q9 x10 e11 y12 e13 x14 e15 y16 e17 q18 q19 q20 hm2 => by
          have g1 := gR_1 hm (i := k.toInt + 1) (by omega) (by omega)
          have g2 := gR_1 hm (i := k.toInt + 2) (by omega) (by omega)
          have g3 := gR_1 hm (i := k.toInt + 3) (by omega) (by omega)
          exact ⟨0, rfl, Or.inr ⟨rfl, fun w => by
            have e : 4 * (k.toInt / 4) = k.toInt := by omega
            have o := w.2 (k.toInt / 4) (by omega) (by omega)
            unfold mtO at o
            rw [e] at o
            omega⟩⟩)
        (fun q1 y2 e3 q4 x5 e6 y7 e8 q9 x10 e11 y12 e13 x14 e15 y16 e17 q18 q19 q20 q21 hm2 => by
          have g1 := gR_1 hm (i := k.toInt + 1) (by omega) (by omega)
          have g2 := gR_1 hm (i := k.toInt + 2) (by omega) (by omega)
          have g3 := gR_1 hm (i := k.toInt + 3) (by omega) (by omega)
          exact ⟨0, rfl, Or.inr ⟨rfl, fun w => by
            have e : 4 * (k.toInt / 4) = k.toInt := by omega
            have o := w.2 (k.toInt / 4) (by omega) (by omega)
            unfold mtO at o
            rw [e] at o
            omega⟩⟩)
        (fun q1 y2 e3 q4 x5 e6 y7 e8 q9 x10 e11 y12 e13 x14 e15 y16 e17 q18 q19 q20 q21 x22 e23 lo a0 a1 a2 a3 hm2 => by
          have g1 := gR_1 hm (i := k.toInt + 1) (by omega) (by omega)
          have g2 := gR_1 hm (i := k.toInt + 2) (by omega) (by omega)
          have g3 := gR_1 hm (i := k.toInt + 3) (by omega) (by omega)
          exact ih x22 lo (by omega) (by omega) (by omega) (by omega) (fun j j0 j1 => by
            by_cases c : 4 * j < k.toInt
            · exact hO j j0 c
            · have e : 4 * j = k.toInt := by omega
              unfold mtO
              rw [e]
              omega) a0 a1 a2 a3)
set_option maxRecDepth 100000 in
theorem w_tm0A {d : Nat} {mem : zM} {P : Option Value → zM → Prop} {n : Int32} {lo : List (Nat × Value)} (hm : aTm aT0 mem) (l_0 : zlg lo 0 = some (.ref 185)) (l_1 : zlg lo 1 = some (.ref 1)) (l_2 : zlg lo 2 = some (.int n)) (hh : zfl mem 181 0 = some (.ref 2)) (hn : 0 ≤ n.toInt ∧ n.toInt ≤ 1600) (h1 : (n).toInt < 4 → aTm aT0 mem → P (some (.int 0)) mem) (h2 : 4 ≤ (n).toInt → 64 < (n).toInt → aTm aT0 mem → P (some (.int 0)) mem) (h3 : 4 ≤ (n).toInt → (n).toInt ≤ 64 → ∀ (x3 : Int32), x3.toInt = ((n).toInt % 4) → ((n).toInt % 4) = 0 → ∀ lo, zlg lo 0 = some (.ref 185) → zlg lo 1 = some (.ref 1) → zlg lo 2 = some (.int n) → zlg lo 3 = some (.int 0) → aTm aT0 mem → yR zpg tX3_takesMet (d + 1) (24, lo, [], mem) P) (h4 : 4 ≤ (n).toInt → (n).toInt ≤ 64 → ∀ (x3 : Int32), x3.toInt = ((n).toInt % 4) → ¬ ((n).toInt % 4) = 0 → aTm aT0 mem → P (some (.int 0)) mem) : yR zpg tX3_takesMet (d + 1) (0, lo, [], mem) P := by
  refine wR_li rfl l_2 ?_
  refine yR_m 1 (fun _ _ _ _ => rfl) ?_
  refine wR_ic_lt rfl (a := (n).toInt) (c := 4) rfl rfl (fun q1 => ?_) (fun q1 => ?_)
  ·
    refine yR_m 1 (fun _ _ _ _ => rfl) ?_
    exact yR_rz rfl ⟨by decide, by decide⟩ (h1 q1 hm)
  ·
    refine wR_li rfl l_2 ?_
    refine wR_la rfl l_0 ?_
    refine wR_gr rfl plO_e plO_8 hm ?_
    refine wR_le (x := 64) rfl aR_191 hm rfl ?_
    refine wR_ic_gt rfl (a := (n).toInt) (c := 64) rfl rfl (fun q2 => ?_) (fun q2 => ?_)
    ·
      refine yR_m 1 (fun _ _ _ _ => rfl) ?_
      exact yR_rz rfl ⟨by decide, by decide⟩ (h2 q1 q2 hm)
    ·
      refine wR_li rfl l_2 ?_
      refine yR_m 1 (fun _ _ _ _ => rfl) ?_
      refine wN_rem (a := (n).toInt) (b := 4) rfl rfl rfl (by decide) (by omega) (fun x3 e4 => ?_)
      refine wR_if_eq rfl (a := ((n).toInt % 4)) e4 (fun q5 => ?_) (fun q5 => ?_)
      ·
        refine yR_m 1 (fun _ _ _ _ => rfl) ?_
        refine wR_si rfl rfl (fun lo6 e7 f8 => ?_)
        have lo6_0 := f8 0 _ (by decide) (Or.inl rfl) l_0
        have lo6_1 := f8 1 _ (by decide) (Or.inl rfl) l_1
        have lo6_2 := f8 2 _ (by decide) (Or.inl rfl) l_2
        exact h3 q1 q2 x3 e4 q5 lo6 lo6_0 lo6_1 lo6_2 e7 hm
      ·
        refine yR_m 1 (fun _ _ _ _ => rfl) ?_
        exact yR_rz rfl ⟨by decide, by decide⟩ (h4 q1 q2 x3 e4 q5 hm)

theorem h_tmA (hm : aTm aT0 mem) (hh : zfl mem 181 0 = some (.ref 2)) (hn : 0 ≤ n.toInt ∧ n.toInt ≤ 1600) (hC : (gi mem 2 1).toInt = C) (hR : (gi mem 2 2).toInt = R) (hF : (gi mem 2 13).toInt = F) (hd : 2 ≤ d) : yC zpg d 40 [.ref 185, .ref 1, .int n] mem (fun r m => ∃ v : Int32, r = some (.int v) ∧ ((v.toInt = 1 ∧ mtK (ga mem 1) n.toInt C R F ∧ (gi m 185 9).toInt = n.toInt / 4) ∨ (v.toInt = 0 ∧ ¬ mtK (ga mem 1) n.toInt C R F))) := by
  obtain ⟨d, rfl⟩ : ∃ q, d = q + 2 := ⟨d - 2, by omega⟩
  refine yC_of (t := tX3_takesMet) rfl rfl ?_
  exact w_tm0A hm rfl rfl rfl hh hn
        (fun q1 hm2 => ⟨0, rfl, Or.inr ⟨rfl, fun w => by have w1 := w.1; omega⟩⟩)
        (fun q1 q2 hm2 => ⟨0, rfl, Or.inr ⟨rfl, fun w => by have w1 := w.1; omega⟩⟩)
        (fun q1 q2 x3 e4 q5 lo a0 a1 a2 a3 hm2 => tm24_A hm2 hh (by omega) (by omega) hC hR hF 16 0 lo (by show _ ≤ (0 : Int) + 4 * 16; omega) (by decide) (by decide) (by decide) (fun j j0 j1 => by exfalso; have j2 : 4 * j < 0 := j1; omega) a0 a1 a2 a3)
        (fun q1 q2 x3 e4 q5 hm2 => ⟨0, rfl, Or.inr ⟨rfl, fun w => by have w1 := w.1; omega⟩⟩)
set_option maxRecDepth 100000 in
theorem w_tm24B {d : Nat} {mem : zM} {P : Option Value → zM → Prop} {n k : Int32} {lo : List (Nat × Value)} (hm : aTm aT0 mem) (l_0 : zlg lo 0 = some (.ref 185)) (l_1 : zlg lo 1 = some (.ref 1)) (l_2 : zlg lo 2 = some (.int n)) (l_3 : zlg lo 3 = some (.int k)) (hh : zfl mem 181 0 = some (.ref 14)) (hn : 4 ≤ n.toInt ∧ n.toInt ≤ 64) (hk : 0 ≤ k.toInt ∧ k.toInt ≤ 64) (h1 : (n).toInt ≤ (k).toInt → ∀ lo, zlg lo 0 = some (.ref 185) → zlg lo 1 = some (.ref 1) → zlg lo 2 = some (.int n) → aTm aT0 mem → yR zpg tX3_takesMet (d + 1) (86, lo, [], mem) P) (h2 : (k).toInt < (n).toInt → ∀ (y2 : Int32), y2.toInt = (gn (ga mem 1) (k).toInt) → 30 < (gn (ga mem 1) (k).toInt) → aTm aT0 mem → P (some (.int 0)) mem) (h3 : (k).toInt < (n).toInt → ∀ (y2 : Int32), y2.toInt = (gn (ga mem 1) (k).toInt) → (gn (ga mem 1) (k).toInt) ≤ 30 → ∀ (x5 : Int32), x5.toInt = ((k).toInt + 1) → ∀ (y7 : Int32), y7.toInt = (gn (ga mem 1) ((k).toInt + 1)) → (gi mem 14 13).toInt ≤ (gn (ga mem 1) ((k).toInt + 1)) → aTm aT0 mem → P (some (.int 0)) mem) (h4 : (k).toInt < (n).toInt → ∀ (y2 : Int32), y2.toInt = (gn (ga mem 1) (k).toInt) → (gn (ga mem 1) (k).toInt) ≤ 30 → ∀ (x5 : Int32), x5.toInt = ((k).toInt + 1) → ∀ (y7 : Int32), y7.toInt = (gn (ga mem 1) ((k).toInt + 1)) → (gn (ga mem 1) ((k).toInt + 1)) < (gi mem 14 13).toInt → ∀ (x10 : Int32), x10.toInt = ((k).toInt + 2) → ∀ (y12 : Int32), y12.toInt = (gn (ga mem 1) ((k).toInt + 2)) → ∀ (x14 : Int32), x14.toInt = ((k).toInt + 3) → ∀ (y16 : Int32), y16.toInt = (gn (ga mem 1) ((k).toInt + 3)) → (gn (ga mem 1) ((k).toInt + 2)) < 0 → aTm aT0 mem → P (some (.int 0)) mem) (h5 : (k).toInt < (n).toInt → ∀ (y2 : Int32), y2.toInt = (gn (ga mem 1) (k).toInt) → (gn (ga mem 1) (k).toInt) ≤ 30 → ∀ (x5 : Int32), x5.toInt = ((k).toInt + 1) → ∀ (y7 : Int32), y7.toInt = (gn (ga mem 1) ((k).toInt + 1)) → (gn (ga mem 1) ((k).toInt + 1)) < (gi mem 14 13).toInt → ∀ (x10 : Int32), x10.toInt = ((k).toInt + 2) → ∀ (y12 : Int32), y12.toInt = (gn (ga mem 1) ((k).toInt + 2)) → ∀ (x14 : Int32), x14.toInt = ((k).toInt + 3) → ∀ (y16 : Int32), y16.toInt = (gn (ga mem 1) ((k).toInt + 3)) → 0 ≤ (gn (ga mem 1) ((k).toInt + 2)) → (gi mem 14 1).toInt ≤ (gn (ga mem 1) ((k).toInt + 2)) → aTm aT0 mem → P (some (.int 0)) mem) (h6 : (k).toInt < (n).toInt → ∀ (y2 : Int32), y2.toInt = (gn (ga mem 1) (k).toInt) → (gn (ga mem 1) (k).toInt) ≤ 30 → ∀ (x5 : Int32), x5.toInt = ((k).toInt + 1) → ∀ (y7 : Int32), y7.toInt = (gn (ga mem 1) ((k).toInt + 1)) → (gn (ga mem 1) ((k).toInt + 1)) < (gi mem 14 13).toInt → ∀ (x10 : Int32), x10.toInt = ((k).toInt + 2) → ∀ (y12 : Int32), y12.toInt = (gn (ga mem 1) ((k).toInt + 2)) → ∀ (x14 : Int32), x14.toInt = ((k).toInt + 3) → ∀ (y16 : Int32), y16.toInt = (gn (ga mem 1) ((k).toInt + 3)) → 0 ≤ (gn (ga mem 1) ((k).toInt + 2)) → (gn (ga mem 1) ((k).toInt + 2)) < (gi mem 14 1).toInt → (gn (ga mem 1) ((k).toInt + 3)) < 0 → aTm aT0 mem → P (some (.int 0)) mem) (h7 : (k).toInt < (n).toInt → ∀ (y2 : Int32), y2.toInt = (gn (ga mem 1) (k).toInt) → (gn (ga mem 1) (k).toInt) ≤ 30 → ∀ (x5 : Int32), x5.toInt = ((k).toInt + 1) → ∀ (y7 : Int32), y7.toInt = (gn (ga mem 1) ((k).toInt + 1)) → (gn (ga mem 1) ((k).toInt + 1)) < (gi mem 14 13).toInt → ∀ (x10 : Int32), x10.toInt = ((k).toInt + 2) → ∀ (y12 : Int32), y12.toInt = (gn (ga mem 1) ((k).toInt + 2)) → ∀ (x14 : Int32), x14.toInt = ((k).toInt + 3) → ∀ (y16 : Int32), y16.toInt = (gn (ga mem 1) ((k).toInt + 3)) → 0 ≤ (gn (ga mem 1) ((k).toInt + 2)) → (gn (ga mem 1) ((k).toInt + 2)) < (gi mem 14 1).toInt → 0 ≤ (gn (ga mem 1) ((k).toInt + 3)) → (gi mem 14 2).toInt ≤ (gn (ga mem 1) ((k).toInt + 3)) → aTm aT0 mem → P (some (.int 0)) mem) (h8 : (k).toInt < (n).toInt → ∀ (y2 : Int32), y2.toInt = (gn (ga mem 1) (k).toInt) → (gn (ga mem 1) (k).toInt) ≤ 30 → ∀ (x5 : Int32), x5.toInt = ((k).toInt + 1) → ∀ (y7 : Int32), y7.toInt = (gn (ga mem 1) ((k).toInt + 1)) → (gn (ga mem 1) ((k).toInt + 1)) < (gi mem 14 13).toInt → ∀ (x10 : Int32), x10.toInt = ((k).toInt + 2) → ∀ (y12 : Int32), y12.toInt = (gn (ga mem 1) ((k).toInt + 2)) → ∀ (x14 : Int32), x14.toInt = ((k).toInt + 3) → ∀ (y16 : Int32), y16.toInt = (gn (ga mem 1) ((k).toInt + 3)) → 0 ≤ (gn (ga mem 1) ((k).toInt + 2)) → (gn (ga mem 1) ((k).toInt + 2)) < (gi mem 14 1).toInt → 0 ≤ (gn (ga mem 1) ((k).toInt + 3)) → (gn (ga mem 1) ((k).toInt + 3)) < (gi mem 14 2).toInt → ∀ (x22 : Int32), x22.toInt = ((k).toInt + 4) → ∀ lo, zlg lo 0 = some (.ref 185) → zlg lo 1 = some (.ref 1) → zlg lo 2 = some (.int n) → zlg lo 3 = some (.int x22) → aTm aT0 mem → yR zpg tX3_takesMet (d + 1) (24, lo, [], mem) P) : yR zpg tX3_takesMet (d + 1) (24, lo, [], mem) P := by
  refine wR_li rfl l_3 ?_
  refine wR_li rfl l_2 ?_
  refine wR_ic_ge rfl (a := (k).toInt) (c := (n).toInt) rfl rfl (fun q1 => ?_) (fun q1 => ?_)
  ·
    exact h1 q1 lo l_0 l_1 l_2 hm
  ·
    refine wR_la rfl l_1 ?_
    refine wR_li rfl l_3 ?_
    refine wN_al (a := (k).toInt) rfl aR_1 hm rfl rfl (by omega) (fun y2 e3 => ?_)
    refine yR_m 1 (fun _ _ _ _ => rfl) ?_
    refine wR_ic_gt rfl (a := (gn (ga mem 1) (k).toInt)) (c := 30) e3 rfl (fun q4 => ?_) (fun q4 => ?_)
    ·
      refine yR_m 1 (fun _ _ _ _ => rfl) ?_
      exact yR_rz rfl ⟨by decide, by decide⟩ (h2 q1 y2 e3 q4 hm)
    ·
      refine wR_la rfl l_1 ?_
      refine wR_li rfl l_3 ?_
      refine yR_m 1 (fun _ _ _ _ => rfl) ?_
      refine wN_add (a := (k).toInt) (b := 1) rfl rfl rfl (by omega) (fun x5 e6 => ?_)
      refine wN_al (a := ((k).toInt + 1)) rfl aR_1 hm rfl e6 (by omega) (fun y7 e8 => ?_)
      refine wR_la rfl l_0 ?_
      refine wR_gr rfl plO_e plO_0 hm ?_
      refine wR_gq rfl haO_e hm hh ?_
      refine wR_gi rfl quB_e quB_13 hm rfl ?_
      refine wR_ic_ge rfl (a := (gn (ga mem 1) ((k).toInt + 1))) (c := (gi mem 14 13).toInt) e8 rfl (fun q9 => ?_) (fun q9 => ?_)
      ·
        refine yR_m 1 (fun _ _ _ _ => rfl) ?_
        exact yR_rz rfl ⟨by decide, by decide⟩ (h3 q1 y2 e3 q4 x5 e6 y7 e8 q9 hm)
      ·
        refine wR_la rfl l_0 ?_
        refine wR_gr rfl plO_e plO_0 hm ?_
        refine wR_gq rfl haO_e hm hh ?_
        refine wR_la rfl l_1 ?_
        refine wR_li rfl l_3 ?_
        refine yR_m 1 (fun _ _ _ _ => rfl) ?_
        refine wN_add (a := (k).toInt) (b := 2) rfl rfl rfl (by omega) (fun x10 e11 => ?_)
        refine wN_al (a := ((k).toInt + 2)) rfl aR_1 hm rfl e11 (by omega) (fun y12 e13 => ?_)
        refine wR_la rfl l_1 ?_
        refine wR_li rfl l_3 ?_
        refine yR_m 1 (fun _ _ _ _ => rfl) ?_
        refine wN_add (a := (k).toInt) (b := 3) rfl rfl rfl (by omega) (fun x14 e15 => ?_)
        refine wN_al (a := ((k).toInt + 3)) rfl aR_1 hm rfl e15 (by omega) (fun y16 e17 => ?_)
        refine wR_iv rfl rfl quB_e hm rfl rfl rfl rfl ?_
        show yR zpg tX4_hasCell d (0, [(0, .ref 14), (1, .int y12), (2, .int y16)], [], mem) _
        refine yR_m 1 (fun _ _ _ _ => rfl) ?_
        refine wR_if_lt rfl (a := (gn (ga mem 1) ((k).toInt + 2))) e13 (fun q18 => ?_) (fun q18 => ?_)
        ·
          refine yR_m 1 (fun _ _ _ _ => rfl) ?_
          refine yR_rz rfl ⟨by decide, by decide⟩ ?_
          show yR zpg tX3_takesMet (d + 1) (75, lo, [.int 0], mem) _
          refine wR_if_ne rfl (a := 0) rfl (fun q => by exfalso; omega) (fun _ => ?_)
          refine yR_m 1 (fun _ _ _ _ => rfl) ?_
          exact yR_rz rfl ⟨by decide, by decide⟩ (h4 q1 y2 e3 q4 x5 e6 y7 e8 q9 x10 e11 y12 e13 x14 e15 y16 e17 q18 hm)
        ·
          refine yR_m 2 (fun _ _ _ _ => rfl) ?_
          refine wR_gi rfl quB_e quB_1 hm rfl ?_
          refine wR_ic_ge rfl (a := (gn (ga mem 1) ((k).toInt + 2))) (c := (gi mem 14 1).toInt) e13 rfl (fun q19 => ?_) (fun q19 => ?_)
          ·
            refine yR_m 1 (fun _ _ _ _ => rfl) ?_
            refine yR_rz rfl ⟨by decide, by decide⟩ ?_
            show yR zpg tX3_takesMet (d + 1) (75, lo, [.int 0], mem) _
            refine wR_if_ne rfl (a := 0) rfl (fun q => by exfalso; omega) (fun _ => ?_)
            refine yR_m 1 (fun _ _ _ _ => rfl) ?_
            exact yR_rz rfl ⟨by decide, by decide⟩ (h5 q1 y2 e3 q4 x5 e6 y7 e8 q9 x10 e11 y12 e13 x14 e15 y16 e17 q18 q19 hm)
          ·
            refine yR_m 1 (fun _ _ _ _ => rfl) ?_
            refine wR_if_lt rfl (a := (gn (ga mem 1) ((k).toInt + 3))) e17 (fun q20 => ?_) (fun q20 => ?_)
            ·
              refine yR_m 1 (fun _ _ _ _ => rfl) ?_
              refine yR_rz rfl ⟨by decide, by decide⟩ ?_
              show yR zpg tX3_takesMet (d + 1) (75, lo, [.int 0], mem) _
              refine wR_if_ne rfl (a := 0) rfl (fun q => by exfalso; omega) (fun _ => ?_)
              refine yR_m 1 (fun _ _ _ _ => rfl) ?_
              exact yR_rz rfl ⟨by decide, by decide⟩ (h6 q1 y2 e3 q4 x5 e6 y7 e8 q9 x10 e11 y12 e13 x14 e15 y16 e17 q18 q19 q20 hm)
            ·
              refine yR_m 2 (fun _ _ _ _ => rfl) ?_
              refine wR_gi rfl quB_e quB_2 hm rfl ?_
              refine wR_ic_ge rfl (a := (gn (ga mem 1) ((k).toInt + 3))) (c := (gi mem 14 2).toInt) e17 rfl (fun q21 => ?_) (fun q21 => ?_)
              ·
                refine yR_m 1 (fun _ _ _ _ => rfl) ?_
                refine yR_rz rfl ⟨by decide, by decide⟩ ?_
                show yR zpg tX3_takesMet (d + 1) (75, lo, [.int 0], mem) _
                refine wR_if_ne rfl (a := 0) rfl (fun q => by exfalso; omega) (fun _ => ?_)
                refine yR_m 1 (fun _ _ _ _ => rfl) ?_
                exact yR_rz rfl ⟨by decide, by decide⟩ (h7 q1 y2 e3 q4 x5 e6 y7 e8 q9 x10 e11 y12 e13 x14 e15 y16 e17 q18 q19 q20 q21 hm)
              ·
                refine yR_m 2 (fun _ _ _ _ => rfl) ?_
                refine yR_rz rfl ⟨by decide, by decide⟩ ?_
                show yR zpg tX3_takesMet (d + 1) (75, lo, [.int 1], mem) _
                refine wR_if_ne rfl (a := 1) rfl (fun _ => ?_) (fun q => by exfalso; omega)
                refine wN_in (a := (k).toInt) (b := 4) rfl rfl l_3 rfl rfl (by omega) (fun x22 e23 => fun lo24 e25 f26 => ?_)
                have lo24_0 := f26 0 _ (by decide) (Or.inl rfl) l_0
                have lo24_1 := f26 1 _ (by decide) (Or.inl rfl) l_1
                have lo24_2 := f26 2 _ (by decide) (Or.inl rfl) l_2
                exact yR_m 1 (fun _ _ _ _ => rfl) (h8 q1 y2 e3 q4 x5 e6 y7 e8 q9 x10 e11 y12 e13 x14 e15 y16 e17 q18 q19 q20 q21 x22 e23 lo24 lo24_0 lo24_1 lo24_2 e25 hm)

theorem tm24_B (hm : aTm aT0 mem) (hh : zfl mem 181 0 = some (.ref 14)) (hn : 4 ≤ n.toInt ∧ n.toInt ≤ 64) (h4 : n.toInt % 4 = 0) (hC : (gi mem 14 1).toInt = C) (hR : (gi mem 14 2).toInt = R) (hF : (gi mem 14 13).toInt = F) : ∀ (f : Nat) (k : Int32) (lo : List (Nat × Value)), n.toInt ≤ k.toInt + 4 * (f : Int) → 0 ≤ k.toInt → k.toInt ≤ 64 → k.toInt % 4 = 0 → (∀ j, 0 ≤ j → 4 * j < k.toInt → mtO (ga mem 1) C R F j) → zlg lo 0 = some (.ref 185) → zlg lo 1 = some (.ref 1) → zlg lo 2 = some (.int n) → zlg lo 3 = some (.int k) → yR zpg tX3_takesMet (d + 1) (24, lo, [], mem) (fun r m => ∃ v : Int32, r = some (.int v) ∧ ((v.toInt = 1 ∧ mtK (ga mem 1) n.toInt C R F ∧ (gi m 185 9).toInt = n.toInt / 4) ∨ (v.toInt = 0 ∧ ¬ mtK (ga mem 1) n.toInt C R F))) := by
  intro f
  induction f with
  | zero =>
    intro k lo hf h0 h1 k4 hO a0 a1 a2 a3
    exact w_tm24B hm a0 a1 a2 a3 hh hn ⟨h0, h1⟩
        (fun q1 lo a0 a1 a2 hm2 => yR_mono (fun r m q => ⟨1, q.1, Or.inl ⟨rfl, ⟨⟨hn.1, hn.2, h4⟩, fun j j0 j1 => hO j j0 (by omega)⟩, q.2⟩⟩) (tm86 hm2 (by omega) (by omega) a0 a1 a2))
        (fun q1 y2 e3 q4 hm2 => by exfalso; omega)
        (fun q1 y2 e3 q4 x5 e6 y7 e8 q9 hm2 => by exfalso; omega)
        (fun q1 y2 e3 q4 x5 e6 y7 e8 q9 x10 e11 y12 e13 x14 e15 y16 e17 q18 hm2 => by exfalso; omega)
        (fun q1 y2 e3 q4 x5 e6 y7 e8 q9 x10 e11 y12 e13 x14 e15 y16 e17 q18 q19 hm2 => by exfalso; omega)
        (fun q1 y2 e3 q4 x5 e6 y7 e8 q9 x10 e11 y12 e13 x14 e15 y16 e17 q18 q19 q20 hm2 => by exfalso; omega)
        (fun q1 y2 e3 q4 x5 e6 y7 e8 q9 x10 e11 y12 e13 x14 e15 y16 e17 q18 q19 q20 q21 hm2 => by exfalso; omega)
        (fun q1 y2 e3 q4 x5 e6 y7 e8 q9 x10 e11 y12 e13 x14 e15 y16 e17 q18 q19 q20 q21 x22 e23 lo a0 a1 a2 a3 hm2 => by exfalso; omega)
  | succ f ih =>
    intro k lo hf h0 h1 k4 hO a0 a1 a2 a3
    exact w_tm24B hm a0 a1 a2 a3 hh hn ⟨h0, h1⟩
        (fun q1 lo a0 a1 a2 hm2 => yR_mono (fun r m q => ⟨1, q.1, Or.inl ⟨rfl, ⟨⟨hn.1, hn.2, h4⟩, fun j j0 j1 => hO j j0 (by omega)⟩, q.2⟩⟩) (tm86 hm2 (by omega) (by omega) a0 a1 a2))
        (fun q1 y2 e3 q4 hm2 => by
          have g1 := gR_1 hm (i := k.toInt + 1) (by omega) (by omega)
          have g2 := gR_1 hm (i := k.toInt + 2) (by omega) (by omega)
          have g3 := gR_1 hm (i := k.toInt + 3) (by omega) (by omega)
          exact ⟨0, rfl, Or.inr ⟨rfl, fun w => by
            have e : 4 * (k.toInt / 4) = k.toInt := by omega
            have o := w.2 (k.toInt / 4) (by omega) (by omega)
            unfold mtO at o
            rw [e] at o
            omega⟩⟩)
        (fun q1 y2 e3 q4 x5 e6 y7 e8 q9 hm2 => by
          have g1 := gR_1 hm (i := k.toInt + 1) (by omega) (by omega)
          have g2 := gR_1 hm (i := k.toInt + 2) (by omega) (by omega)
          have g3 := gR_1 hm (i := k.toInt + 3) (by omega) (by omega)
          exact ⟨0, rfl, Or.inr ⟨rfl, fun w => by
            have e : 4 * (k.toInt / 4) = k.toInt := by omega
            have o := w.2 (k.toInt / 4) (by omega) (by omega)
            unfold mtO at o
            rw [e] at o
            omega⟩⟩)
        (fun q1 y2 e3 q4 x5 e6 y7 e8 q9 x10 e11 y12 e13 x14 e15 y16 e17 q18 hm2 => by
          have g1 := gR_1 hm (i := k.toInt + 1) (by omega) (by omega)
          have g2 := gR_1 hm (i := k.toInt + 2) (by omega) (by omega)
          have g3 := gR_1 hm (i := k.toInt + 3) (by omega) (by omega)
          exact ⟨0, rfl, Or.inr ⟨rfl, fun w => by
            have e : 4 * (k.toInt / 4) = k.toInt := by omega
            have o := w.2 (k.toInt / 4) (by omega) (by omega)
            unfold mtO at o
            rw [e] at o
            omega⟩⟩)
        (fun q1 y2 e3 q4 x5 e6 y7 e8 q9 x10 e11 y12 e13 x14 e15 y16 e17 q18 q19 hm2 => by
          have g1 := gR_1 hm (i := k.toInt + 1) (by omega) (by omega)
          have g2 := gR_1 hm (i := k.toInt + 2) (by omega) (by omega)
          have g3 := gR_1 hm (i := k.toInt + 3) (by omega) (by omega)
          exact ⟨0, rfl, Or.inr ⟨rfl, fun w => by
            have e : 4 * (k.toInt / 4) = k.toInt := by omega
            have o := w.2 (k.toInt / 4) (by omega) (by omega)
            unfold mtO at o
            rw [e] at o
            omega⟩⟩)
        (fun q1 y2 e3 q4 x5 e6 y7 e8 q9 x10 e11 y12 e13 x14 e15 y16 e17 q18 q19 q20 hm2 => by
          have g1 := gR_1 hm (i := k.toInt + 1) (by omega) (by omega)
          have g2 := gR_1 hm (i := k.toInt + 2) (by omega) (by omega)
          have g3 := gR_1 hm (i := k.toInt + 3) (by omega) (by omega)
          exact ⟨0, rfl, Or.inr ⟨rfl, fun w => by
            have e : 4 * (k.toInt / 4) = k.toInt := by omega
            have o := w.2 (k.toInt / 4) (by omega) (by omega)
            unfold mtO at o
            rw [e] at o
            omega⟩⟩)
        (fun q1 y2 e3 q4 x5 e6 y7 e8 q9 x10 e11 y12 e13 x14 e15 y16 e17 q18 q19 q20 q21 hm2 => by
          have g1 := gR_1 hm (i := k.toInt + 1) (by omega) (by omega)
          have g2 := gR_1 hm (i := k.toInt + 2) (by omega) (by omega)
          have g3 := gR_1 hm (i := k.toInt + 3) (by omega) (by omega)
          exact ⟨0, rfl, Or.inr ⟨rfl, fun w => by
            have e : 4 * (k.toInt / 4) = k.toInt := by omega
            have o := w.2 (k.toInt / 4) (by omega) (by omega)
            unfold mtO at o
            rw [e] at o
            omega⟩⟩)
        (fun q1 y2 e3 q4 x5 e6 y7 e8 q9 x10 e11 y12 e13 x14 e15 y16 e17 q18 q19 q20 q21 x22 e23 lo a0 a1 a2 a3 hm2 => by
          have g1 := gR_1 hm (i := k.toInt + 1) (by omega) (by omega)
          have g2 := gR_1 hm (i := k.toInt + 2) (by omega) (by omega)
          have g3 := gR_1 hm (i := k.toInt + 3) (by omega) (by omega)
          exact ih x22 lo (by omega) (by omega) (by omega) (by omega) (fun j j0 j1 => by
            by_cases c : 4 * j < k.toInt
            · exact hO j j0 c
            · have e : 4 * j = k.toInt := by omega
              unfold mtO
              rw [e]
              omega) a0 a1 a2 a3)
set_option maxRecDepth 100000 in
theorem w_tm0B {d : Nat} {mem : zM} {P : Option Value → zM → Prop} {n : Int32} {lo : List (Nat × Value)} (hm : aTm aT0 mem) (l_0 : zlg lo 0 = some (.ref 185)) (l_1 : zlg lo 1 = some (.ref 1)) (l_2 : zlg lo 2 = some (.int n)) (hh : zfl mem 181 0 = some (.ref 14)) (hn : 0 ≤ n.toInt ∧ n.toInt ≤ 1600) (h1 : (n).toInt < 4 → aTm aT0 mem → P (some (.int 0)) mem) (h2 : 4 ≤ (n).toInt → 64 < (n).toInt → aTm aT0 mem → P (some (.int 0)) mem) (h3 : 4 ≤ (n).toInt → (n).toInt ≤ 64 → ∀ (x3 : Int32), x3.toInt = ((n).toInt % 4) → ((n).toInt % 4) = 0 → ∀ lo, zlg lo 0 = some (.ref 185) → zlg lo 1 = some (.ref 1) → zlg lo 2 = some (.int n) → zlg lo 3 = some (.int 0) → aTm aT0 mem → yR zpg tX3_takesMet (d + 1) (24, lo, [], mem) P) (h4 : 4 ≤ (n).toInt → (n).toInt ≤ 64 → ∀ (x3 : Int32), x3.toInt = ((n).toInt % 4) → ¬ ((n).toInt % 4) = 0 → aTm aT0 mem → P (some (.int 0)) mem) : yR zpg tX3_takesMet (d + 1) (0, lo, [], mem) P := by
  refine wR_li rfl l_2 ?_
  refine yR_m 1 (fun _ _ _ _ => rfl) ?_
  refine wR_ic_lt rfl (a := (n).toInt) (c := 4) rfl rfl (fun q1 => ?_) (fun q1 => ?_)
  ·
    refine yR_m 1 (fun _ _ _ _ => rfl) ?_
    exact yR_rz rfl ⟨by decide, by decide⟩ (h1 q1 hm)
  ·
    refine wR_li rfl l_2 ?_
    refine wR_la rfl l_0 ?_
    refine wR_gr rfl plO_e plO_8 hm ?_
    refine wR_le (x := 64) rfl aR_191 hm rfl ?_
    refine wR_ic_gt rfl (a := (n).toInt) (c := 64) rfl rfl (fun q2 => ?_) (fun q2 => ?_)
    ·
      refine yR_m 1 (fun _ _ _ _ => rfl) ?_
      exact yR_rz rfl ⟨by decide, by decide⟩ (h2 q1 q2 hm)
    ·
      refine wR_li rfl l_2 ?_
      refine yR_m 1 (fun _ _ _ _ => rfl) ?_
      refine wN_rem (a := (n).toInt) (b := 4) rfl rfl rfl (by decide) (by omega) (fun x3 e4 => ?_)
      refine wR_if_eq rfl (a := ((n).toInt % 4)) e4 (fun q5 => ?_) (fun q5 => ?_)
      ·
        refine yR_m 1 (fun _ _ _ _ => rfl) ?_
        refine wR_si rfl rfl (fun lo6 e7 f8 => ?_)
        have lo6_0 := f8 0 _ (by decide) (Or.inl rfl) l_0
        have lo6_1 := f8 1 _ (by decide) (Or.inl rfl) l_1
        have lo6_2 := f8 2 _ (by decide) (Or.inl rfl) l_2
        exact h3 q1 q2 x3 e4 q5 lo6 lo6_0 lo6_1 lo6_2 e7 hm
      ·
        refine yR_m 1 (fun _ _ _ _ => rfl) ?_
        exact yR_rz rfl ⟨by decide, by decide⟩ (h4 q1 q2 x3 e4 q5 hm)

theorem h_tmB (hm : aTm aT0 mem) (hh : zfl mem 181 0 = some (.ref 14)) (hn : 0 ≤ n.toInt ∧ n.toInt ≤ 1600) (hC : (gi mem 14 1).toInt = C) (hR : (gi mem 14 2).toInt = R) (hF : (gi mem 14 13).toInt = F) (hd : 2 ≤ d) : yC zpg d 40 [.ref 185, .ref 1, .int n] mem (fun r m => ∃ v : Int32, r = some (.int v) ∧ ((v.toInt = 1 ∧ mtK (ga mem 1) n.toInt C R F ∧ (gi m 185 9).toInt = n.toInt / 4) ∨ (v.toInt = 0 ∧ ¬ mtK (ga mem 1) n.toInt C R F))) := by
  obtain ⟨d, rfl⟩ : ∃ q, d = q + 2 := ⟨d - 2, by omega⟩
  refine yC_of (t := tX3_takesMet) rfl rfl ?_
  exact w_tm0B hm rfl rfl rfl hh hn
        (fun q1 hm2 => ⟨0, rfl, Or.inr ⟨rfl, fun w => by have w1 := w.1; omega⟩⟩)
        (fun q1 q2 hm2 => ⟨0, rfl, Or.inr ⟨rfl, fun w => by have w1 := w.1; omega⟩⟩)
        (fun q1 q2 x3 e4 q5 lo a0 a1 a2 a3 hm2 => tm24_B hm2 hh (by omega) (by omega) hC hR hF 16 0 lo (by show _ ≤ (0 : Int) + 4 * 16; omega) (by decide) (by decide) (by decide) (fun j j0 j1 => by exfalso; have j2 : 4 * j < 0 := j1; omega) a0 a1 a2 a3)
        (fun q1 q2 x3 e4 q5 hm2 => ⟨0, rfl, Or.inr ⟨rfl, fun w => by have w1 := w.1; omega⟩⟩)
theorem h_tm (hm : aTm aT0 mem) (hP : pQ Y mem) (hn : 0 ≤ n.toInt ∧ n.toInt ≤ 1600) (hd : 2 ≤ d) : yC zpg d 40 [.ref 185, .ref 1, .int n] mem (fun r m => ∃ v : Int32, r = some (.int v) ∧ ((v.toInt = 1 ∧ mtK (ga mem 1) n.toInt (Qc Y) (Qr Y) ((Qf Y).length : Int) ∧ (gi m 185 9).toInt = n.toInt / 4) ∨ (v.toInt = 0 ∧ ¬ mtK (ga mem 1) n.toInt (Qc Y) (Qr Y) ((Qf Y).length : Int)))) := by
  rcases hP with h | h
  · exact h_tmA hm h.2.2.1 hn h.2.2.2.1.1 h.2.2.2.1.2 h.2.2.2.2.2.2.2.1.1 hd
  · exact h_tmB hm h.2.2.1 hn h.2.2.2.1.1 h.2.2.2.1.2 h.2.2.2.2.2.2.2.1.1 hd
/-- meet of the class, over what takesMet does -/
theorem h_mt_c {T : List Int32} (hm : aTm aT0 mem) (hTM : aTm aT0 (si mem 0 1 0) → yC zpg (d + 3) 40 [.ref 185, .ref 1, .int (gi mem 0 1)] (si mem 0 1 0) (fun r m => ∃ v : Int32, r = some (.int v) ∧ aTm aT0 m ∧ ((v.toInt = 1 ∧ mtK T (gi mem 0 1).toInt C R F ∧ (gi m 185 9).toInt = (gi mem 0 1).toInt / 4) ∨ (v.toInt = 0 ∧ ¬ mtK T (gi mem 0 1).toInt C R F)))) : yC zpg (d + 4) 129 [.ref 0] mem (fun r _ => ∃ v : Int32, r = some (.int v) ∧ mtA T (gi mem 0 1).toInt C R F v.toInt) := by
  refine yC_of (t := tX11_meet) rfl rfl ?_
  exact w_mt hm hTM
        (fun v3 m1 hm1 k2 q4 y5 e6 hm2 => by
          rcases k2 with ⟨w, -⟩ | ⟨-, w⟩
          · exfalso; omega
          · exact ⟨_, rfl, Or.inr ⟨w, rfl⟩⟩)
        (fun v3 m1 hm1 k2 q4 hm2 => by
          rcases k2 with ⟨-, w1, w2⟩ | ⟨w, -⟩
          · exact ⟨_, rfl, Or.inl ⟨w1, w2⟩⟩
          · exfalso; omega)
end MT
