/-! the class's quay: clear, size -/
section CZ
variable {d : Nat} {mr mem m : zM} {T : List Int32} {n p q v a b : Int} {Q : Qd}
theorem gL_zq {k i : Nat} (h : zat m k = zat mr k) : gL m k i = gL mr k i := by
  unfold gL
  rw [zfl_ea h]
theorem gL_eqQ {o i : Nat} {x : Int64} {τs : List (Bool × aTy)} {τ : Bool × aTy} (h : isQ o τs.length m) (hi : τs[i]? = some τ) : gL (sL m o i x) o i = x := by
  obtain ⟨ci, fs, h1, h2⟩ := h
  have hl : i < fs.length := by rw [h2]; exact (List.getElem?_eq_some_iff.1 hi).1
  show gL (sv m o i (.long x)) o i = x
  rw [sv_at h1]
  exact gL_at (zat_eq_set h1) (List.getElem?_set_self hl)
theorem ct_2 {k x y : Nat} (h1 : ¬ k = x) (h2 : ¬ k = y) : [x, y].contains k = false := by
  simp only [List.contains_cons, List.contains_nil, Bool.or_false, Bool.or_eq_false_iff, beq_eq_false_iff_ne]
  exact ⟨h1, h2⟩
def clQ (R fi en : Nat) (mr m : zM) : Prop := fo R [fi, en] [3] mr m ∧ (∀ j, 0 ≤ j → j < 3 → gn (ga m fi) j = 0 ∧ gn (ga m en) j = 0) ∧ (gi m R 3).toInt = 0
theorem bL_0 {c : Int} : ¬ bL 0 c := fun w => by
  have w : (0#64 : BitVec 64).getLsbD c.toNat = true := w
  rw [BitVec.getLsbD_zero] at w
  cases w
theorem bt_z0 {c : Int} : ¬ bt 0 c := fun w => by
  have w : (0#32 : BitVec 32).getLsbD c.toNat = true := w
  rw [BitVec.getLsbD_zero] at w
  cases w
theorem grd_s {o : Nat} {w k x2 x4 : Int32} {τs : List (Bool × aTy)} {τ : Bool × aTy} (h : isQ o τs.length m) (hi : τs[5]? = some τ) (e1 : gi m o 1 = w) (e5 : gL m o 5 = grdW w k.toInt.toNat) (k0 : 0 ≤ k.toInt) (k7 : k.toInt < 7) (hx : x2.toInt = 8 * k.toInt) (h4 : x4.toInt = k.toInt + 1) : gL (sL m o 5 ((gL m o 5) ||| (((1 <<< ((gi m o 1).toInt64 &&& 63)) - 1) <<< (x2.toInt64 &&& 63)))) o 5 = grdW w x4.toInt.toNat := by
  rw [gL_eqQ h hi, e5, e1, show x4.toInt.toNat = k.toInt.toNat + 1 by omega]
  show _ = grdW w k.toInt.toNat ||| (((1 <<< (w.toInt64 &&& 63)) - 1) <<< ((Int32.ofInt (8 * ((k.toInt.toNat : Nat) : Int))).toInt64 &&& 63))
  rw [show (8 * ((k.toInt.toNat : Nat) : Int)) = x2.toInt by omega, Int32.ofInt_toInt]
set_option maxRecDepth 100000 in
theorem w_rc7A {d : Nat} {mem : zM} {P : Option Value → zM → Prop} {k : Int32} {lo : List (Nat × Value)} (hm : aTm aT0 mem) (l_0 : zlg lo 0 = some (.ref 10)) (l_1 : zlg lo 1 = some (.int k)) (hk : 0 ≤ k.toInt ∧ k.toInt ≤ 3) (h1 : 3 ≤ (k).toInt → aTm aT0 mem → P none mem) (h2 : (k).toInt < 3 → ∀ (x2 : Int32), x2.toInt = ((k).toInt + 1) → ∀ lo, zlg lo 0 = some (.ref 10) → zlg lo 1 = some (.int x2) → aTm aT0 (sx (sx mem 12 k 0) 13 k 0) → yR zpg tX7_clear d (7, lo, [], (sx (sx mem 12 k 0) 13 k 0)) P) : yR zpg tX7_clear d (7, lo, [], mem) P := by
  refine wR_li rfl l_1 ?_
  refine yR_m 1 (fun _ _ _ _ => rfl) ?_
  refine wR_ic_ge rfl (a := (k).toInt) (c := 3) rfl rfl (fun q1 => ?_) (fun q1 => ?_)
  ·
    exact yR_rv rfl (h1 q1 hm)
  ·
    refine wR_la rfl l_0 ?_
    refine wR_gr rfl rlA_e rlA_1 hm ?_
    refine wR_li rfl l_1 ?_
    refine yR_m 1 (fun _ _ _ _ => rfl) ?_
    refine wN_as (a := (k).toInt) rfl aR_12 hm rfl (by omega) ?_
    have hm_1 : aTm aT0 (sx mem 12 k 0) := tm_sa aR_12 hm (by decide)
    refine wR_la rfl l_0 ?_
    refine wR_gr rfl rlA_e rlA_2 hm_1 ?_
    refine wR_li rfl l_1 ?_
    refine yR_m 1 (fun _ _ _ _ => rfl) ?_
    refine wN_as (a := (k).toInt) rfl aR_13 hm_1 rfl (by omega) ?_
    have hm_2 : aTm aT0 (sx (sx mem 12 k 0) 13 k 0) := tm_sa aR_13 hm_1 (by decide)
    refine wN_in (a := (k).toInt) (b := 1) rfl rfl l_1 rfl rfl (by omega) (fun x2 e3 => fun lo4 e5 f6 => ?_)
    have lo4_0 := f6 0 _ (by decide) (Or.inl rfl) l_0
    exact yR_m 1 (fun _ _ _ _ => rfl) (h2 q1 x2 e3 lo4 lo4_0 e5 hm_2)

theorem rc7_A : ∀ (f : Nat) (mem : zM) (k : Int32) (lo : List (Nat × Value)), (3 : Int) < k.toInt + (f : Int) → 0 ≤ k.toInt → k.toInt ≤ 3 → aTm aT0 mem → fo 10 [12, 13] [3] mr mem → (∀ j, 0 ≤ j → j < k.toInt → gn (ga mem 12) j = 0 ∧ gn (ga mem 13) j = 0) → (gi mem 10 3).toInt = 0 → zlg lo 0 = some (.ref 10) → zlg lo 1 = some (.int k) → yR zpg tX7_clear d (7, lo, [], mem) (fun a m => a = none ∧ aTm aT0 m ∧ clQ 10 12 13 mr m) := by
  intro f
  induction f with
  | zero =>
    intro mem k lo hf h0 h9
    exfalso
    omega
  | succ f ih =>
    intro mem k lo hf h0 h9 hm hF hz h3 a0 a1
    exact w_rc7A hm a0 a1 ⟨h0, h9⟩
        (fun q1 hm2 => ⟨rfl, hm2, hF, fun j j0 j1 => hz j j0 (by omega), h3⟩)
        (fun q1 x2 e3 lo a0 a1 hm2 => by
          have l1 := gl_12 hm
          have l2 := gl_13 hm
          refine ih _ _ lo (by omega) (by omega) (by omega) hm2 (fo_sa rfl (fo_sa rfl hF)) (fun j j0 j1 => ?_) (by rw [gi_sa, gi_sa]; exact h3) a0 a1
          have e1 : ga (sx (sx mem 12 k 0) 13 k 0) 12 = ((ga mem 12).set k.toNatClampNeg 0) := ((ga_sa_ne (by decide)).trans ga_sa_eq)
          have e2 : ga (sx (sx mem 12 k 0) 13 k 0) 13 = ((ga mem 13).set k.toNatClampNeg 0) := (ga_sa_eq.trans (congrArg (fun l => List.set l k.toNatClampNeg 0) (ga_sa_ne (by decide))))
          rw [e1, e2, gn_set (a := k.toInt) rfl (by omega) (by omega) j0, gn_set (a := k.toInt) rfl (by omega) (by omega) j0]
          by_cases c : j = k.toInt
          · rw [if_pos c, if_pos c]
            exact ⟨rfl, rfl⟩
          · rw [if_neg c, if_neg c]
            exact hz j j0 (by omega))
set_option maxRecDepth 100000 in
theorem w_rc0A {d : Nat} {mem : zM} {P : Option Value → zM → Prop} {lo : List (Nat × Value)} (hm : aTm aT0 mem) (l_0 : zlg lo 0 = some (.ref 10)) (h1 : ∀ lo, zlg lo 0 = some (.ref 10) → zlg lo 1 = some (.int 0) → aTm aT0 (si mem 10 3 0) → yR zpg tX7_clear d (7, lo, [], (si mem 10 3 0)) P) : yR zpg tX7_clear d (0, lo, [], mem) P := by
  refine wR_la rfl l_0 ?_
  refine yR_m 1 (fun _ _ _ _ => rfl) ?_
  refine wR_pi rfl rlA_e rlA_3 hm rfl ?_
  have hm_1 : aTm aT0 (si mem 10 3 0) := tm_si rlA_e rlA_3 hm (by decide)
  refine yR_m 1 (fun _ _ _ _ => rfl) ?_
  refine wR_si rfl rfl (fun lo1 e2 f3 => ?_)
  have lo1_0 := f3 0 _ (by decide) (Or.inl rfl) l_0
  exact h1 lo1 lo1_0 e2 hm_1

theorem h_rcCA (hm : aTm aT0 mem) (hd : 1 ≤ d) : yC zpg d 74 [.ref 10] mem (fun a m => a = none ∧ aTm aT0 m ∧ clQ 10 12 13 mem m) := by
  obtain ⟨d, rfl⟩ : ∃ q, d = q + 1 := ⟨d - 1, by omega⟩
  refine yC_of (t := tX7_clear) rfl rfl ?_
  exact w_rc0A hm rfl
        (fun  lo a0 a1 hm2 => rc7_A 4 _ _ lo (by decide) (by decide) (by decide) hm2 (fo_sv rfl fo_rf) (fun j j0 j1 => by exfalso; have e : Int32.toInt 0 = 0 := rfl; omega) (by rw [gi_eqQ (isQ_of rlA_e hm) rlA_3]; rfl) a0 a1)
theorem cQ_clrA (e1 : gi m 2 1 = 0) (e2 : gi m 2 2 = 0) (e7 : gi m 2 7 = 0) (e12 : gi m 2 12 = 0) (e13 : gi m 2 13 = 0) (eL : gL m 2 6 = 0) {pc : Int} (hz : ∀ j, 0 ≤ j → j < 3 → gn (ga m 12) j = 0 ∧ gn (ga m 13) j = 0) (e3 : (gi m 2 3).toInt = pc) (e4 : gi m 2 4 = 0) (e5 : gL m 2 5 = 0) : cQ 2 3 4 7 8 9 12 13 (0, 0, [], [], [], [], [], [], pc, 0, []) m := by
  have X : cQx 2 (0, 0, [], [], [], [], [], [], pc, 0, []) m := ⟨⟨rfl, fun i y hy => by cases hy⟩, ⟨e3, by rw [e4]; rfl, e5⟩, fun w w0 w1 c hc => by cases hc⟩
  refine ⟨⟨by rw [e1]; rfl, by rw [e2]; rfl⟩, fun c c0 c1 => ?_, ⟨by rw [e7]; rfl, fun i x h => by cases h⟩, ⟨fun i i0 i1 => ?_, fun i hi => by cases hi⟩, ⟨by rw [e13]; rfl, fun i x h => by cases h⟩, fun w w0 w1 => ?_, X⟩
  · rw [eL]
    exact ⟨fun w => absurd w bL_0, fun w => by cases w⟩
  · rw [e12]
    exact ⟨fun w => absurd w bt_z0, fun w => by have w1 : i < ((([] : List (List Int × Int)).length : Nat) : Int) := w.1; simp at w1; omega⟩
  · have z := hz w w0 w1
    rw [z.1, z.2]
    exact ⟨fun c => by omega, fun c => by cases c⟩
set_option maxRecDepth 100000 in
theorem w_clA {d : Nat} {mem : zM} {P : Option Value → zM → Prop} (hm : aTm aT0 mem) (h1 : ∀ (m1 : zM), aTm aT0 m1 → clQ 10 12 13 (si (si (si (sL (sL (si (si (si (si (si mem 2 0 0) 2 1 0) 2 2 0) 2 3 3) 2 4 0) 2 5 0) 2 6 0) 2 7 0) 2 12 0) 2 13 0) m1 → aTm aT0 m1 → P none m1) : yR zpg tX4_clear (d + 1) (0, [(0, .ref 2)], [], mem) P := by
  refine yR_m 2 (fun _ _ _ _ => rfl) ?_
  refine wR_pi rfl quA_e quA_0 hm rfl ?_
  have hm_1 : aTm aT0 (si mem 2 0 0) := tm_si quA_e quA_0 hm (i32_b _)
  refine yR_m 2 (fun _ _ _ _ => rfl) ?_
  refine wR_pi rfl quA_e quA_1 hm_1 rfl ?_
  have hm_2 : aTm aT0 (si (si mem 2 0 0) 2 1 0) := tm_si quA_e quA_1 hm_1 (i32_b _)
  refine yR_m 2 (fun _ _ _ _ => rfl) ?_
  refine wR_pi rfl quA_e quA_2 hm_2 rfl ?_
  have hm_3 : aTm aT0 (si (si (si mem 2 0 0) 2 1 0) 2 2 0) := tm_si quA_e quA_2 hm_2 (i32_b _)
  refine yR_m 2 (fun _ _ _ _ => rfl) ?_
  refine wR_pi rfl quA_e quA_3 hm_3 rfl ?_
  have hm_4 : aTm aT0 (si (si (si (si mem 2 0 0) 2 1 0) 2 2 0) 2 3 3) := tm_si quA_e quA_3 hm_3 (i32_b _)
  refine yR_m 2 (fun _ _ _ _ => rfl) ?_
  refine wR_pi rfl quA_e quA_4 hm_4 rfl ?_
  have hm_5 : aTm aT0 (si (si (si (si (si mem 2 0 0) 2 1 0) 2 2 0) 2 3 3) 2 4 0) := tm_si quA_e quA_4 hm_4 (i32_b _)
  refine yR_m 2 (fun _ _ _ _ => rfl) ?_
  refine wR_pL rfl quA_e quA_5 hm_5 ?_
  have hm_6 : aTm aT0 (sL (si (si (si (si (si mem 2 0 0) 2 1 0) 2 2 0) 2 3 3) 2 4 0) 2 5 0) := tm_sL quA_e quA_5 hm_5
  refine yR_m 2 (fun _ _ _ _ => rfl) ?_
  refine wR_pL rfl quA_e quA_6 hm_6 ?_
  have hm_7 : aTm aT0 (sL (sL (si (si (si (si (si mem 2 0 0) 2 1 0) 2 2 0) 2 3 3) 2 4 0) 2 5 0) 2 6 0) := tm_sL quA_e quA_6 hm_6
  refine yR_m 2 (fun _ _ _ _ => rfl) ?_
  refine wR_pi rfl quA_e quA_7 hm_7 rfl ?_
  have hm_8 : aTm aT0 (si (sL (sL (si (si (si (si (si mem 2 0 0) 2 1 0) 2 2 0) 2 3 3) 2 4 0) 2 5 0) 2 6 0) 2 7 0) := tm_si quA_e quA_7 hm_7 (by decide)
  refine yR_m 2 (fun _ _ _ _ => rfl) ?_
  refine wR_pi rfl quA_e quA_12 hm_8 rfl ?_
  have hm_9 : aTm aT0 (si (si (sL (sL (si (si (si (si (si mem 2 0 0) 2 1 0) 2 2 0) 2 3 3) 2 4 0) 2 5 0) 2 6 0) 2 7 0) 2 12 0) := tm_si quA_e quA_12 hm_8 (by decide)
  refine yR_m 2 (fun _ _ _ _ => rfl) ?_
  refine wR_pi rfl quA_e quA_13 hm_9 rfl ?_
  have hm_10 : aTm aT0 (si (si (si (sL (sL (si (si (si (si (si mem 2 0 0) 2 1 0) 2 2 0) 2 3 3) 2 4 0) 2 5 0) 2 6 0) 2 7 0) 2 12 0) 2 13 0) := tm_si quA_e quA_13 hm_9 (by decide)
  refine yR_m 1 (fun _ _ _ _ => rfl) ?_
  refine wR_gr rfl quA_e quA_17 hm_10 ?_
  refine wR_cv rfl rfl rlA_e hm_10 rfl (h_rcCA hm_10 (by omega)) ?_
  rintro _ m1 ⟨rfl, hI1, k2⟩
  show yR zpg tX4_clear (d + 1) (57, [(0, .ref 2)], [], m1) _
  exact yR_rv rfl (h1 m1 hI1 k2 hI1)

theorem h_clCA (hm : aTm aT0 mem) (hd : 2 ≤ d) : yC zpg d 48 [.ref 2] mem (fun a m => a = none ∧ aTm aT0 m ∧ (∀ k, ¬ k = 2 → ¬ k = 10 → ¬ k = 12 → ¬ k = 13 → zat m k = zat mem k) ∧ cQ 2 3 4 7 8 9 12 13 (0, 0, [], [], [], [], [], [], 3, 0, []) m ∧ (gi m 10 3).toInt = 0) := by
  obtain ⟨d, rfl⟩ : ∃ q, d = q + 2 := ⟨d - 2, by omega⟩
  refine yC_of (t := tX4_clear) rfl rfl ?_
  exact w_clA hm
        (fun m1 hI1 k2 hm2 => ⟨rfl, hm2, fun k h1 h2 h3 h4 => (k2.1.1 k h2 (ct_2 h3 h4)).trans ((zat_sv_ne (Ne.symm h1)).trans ((zat_sv_ne (Ne.symm h1)).trans ((zat_sv_ne (Ne.symm h1)).trans ((zat_sv_ne (Ne.symm h1)).trans ((zat_sv_ne (Ne.symm h1)).trans ((zat_sv_ne (Ne.symm h1)).trans ((zat_sv_ne (Ne.symm h1)).trans ((zat_sv_ne (Ne.symm h1)).trans ((zat_sv_ne (Ne.symm h1)).trans (zat_sv_ne (Ne.symm h1))))))))))), cQ_clrA ((gi_zq (k2.1.1 2 (by decide) rfl)).trans ((gi_sv_ne (by decide)).trans ((gi_sv_ne (by decide)).trans ((gi_sv_ne (by decide)).trans ((gi_sv_ne (by decide)).trans ((gi_sv_ne (by decide)).trans ((gi_sv_ne (by decide)).trans ((gi_sv_ne (by decide)).trans ((gi_sv_ne (by decide)).trans (gi_eqQ (isQ_sv (isQ_of quA_e hm)) quA_1)))))))))) ((gi_zq (k2.1.1 2 (by decide) rfl)).trans ((gi_sv_ne (by decide)).trans ((gi_sv_ne (by decide)).trans ((gi_sv_ne (by decide)).trans ((gi_sv_ne (by decide)).trans ((gi_sv_ne (by decide)).trans ((gi_sv_ne (by decide)).trans ((gi_sv_ne (by decide)).trans (gi_eqQ (isQ_sv (isQ_sv (isQ_of quA_e hm))) quA_2))))))))) ((gi_zq (k2.1.1 2 (by decide) rfl)).trans ((gi_sv_ne (by decide)).trans ((gi_sv_ne (by decide)).trans (gi_eqQ (isQ_sv (isQ_sv (isQ_sv (isQ_sv (isQ_sv (isQ_sv (isQ_sv (isQ_of quA_e hm)))))))) quA_7)))) ((gi_zq (k2.1.1 2 (by decide) rfl)).trans ((gi_sv_ne (by decide)).trans (gi_eqQ (isQ_sv (isQ_sv (isQ_sv (isQ_sv (isQ_sv (isQ_sv (isQ_sv (isQ_sv (isQ_of quA_e hm))))))))) quA_12))) ((gi_zq (k2.1.1 2 (by decide) rfl)).trans (gi_eqQ (isQ_sv (isQ_sv (isQ_sv (isQ_sv (isQ_sv (isQ_sv (isQ_sv (isQ_sv (isQ_sv (isQ_of quA_e hm)))))))))) quA_13)) ((gL_zq (k2.1.1 2 (by decide) rfl)).trans ((gL_sv_ne (by decide)).trans ((gL_sv_ne (by decide)).trans ((gL_sv_ne (by decide)).trans (gL_eqQ (isQ_sv (isQ_sv (isQ_sv (isQ_sv (isQ_sv (isQ_sv (isQ_of quA_e hm))))))) quA_6))))) k2.2.1 (congrArg Int32.toInt ((gi_zq (k2.1.1 2 (by decide) rfl)).trans ((gi_sv_ne (by decide)).trans ((gi_sv_ne (by decide)).trans ((gi_sv_ne (by decide)).trans ((gi_sv_ne (by decide)).trans ((gi_sv_ne (by decide)).trans ((gi_sv_ne (by decide)).trans (gi_eqQ (isQ_sv (isQ_sv (isQ_sv (isQ_of quA_e hm)))) quA_3))))))))) ((gi_zq (k2.1.1 2 (by decide) rfl)).trans ((gi_sv_ne (by decide)).trans ((gi_sv_ne (by decide)).trans ((gi_sv_ne (by decide)).trans ((gi_sv_ne (by decide)).trans ((gi_sv_ne (by decide)).trans (gi_eqQ (isQ_sv (isQ_sv (isQ_sv (isQ_sv (isQ_of quA_e hm))))) quA_4))))))) ((gL_zq (k2.1.1 2 (by decide) rfl)).trans ((gL_sv_ne (by decide)).trans ((gL_sv_ne (by decide)).trans ((gL_sv_ne (by decide)).trans ((gL_sv_ne (by decide)).trans (gL_eqQ (isQ_sv (isQ_sv (isQ_sv (isQ_sv (isQ_sv (isQ_of quA_e hm)))))) quA_5)))))), k2.2.2⟩)
set_option maxRecDepth 100000 in
theorem w_ss17A {d : Nat} {mem : zM} {P : Option Value → zM → Prop} {k : Int32} {lo : List (Nat × Value)} (hm : aTm aT0 mem) (l_0 : zlg lo 0 = some (.ref 2)) (l_3 : zlg lo 3 = some (.int k)) (hk : 0 ≤ k.toInt ∧ k.toInt ≤ 7) (h1 : (gi mem 2 2).toInt ≤ (k).toInt → aTm aT0 mem → P none mem) (h2 : (k).toInt < (gi mem 2 2).toInt → ∀ (x2 : Int32), x2.toInt = (8 * (k).toInt) → ∀ (x4 : Int32), x4.toInt = ((k).toInt + 1) → ∀ lo, zlg lo 0 = some (.ref 2) → zlg lo 3 = some (.int x4) → aTm aT0 (sL mem 2 5 ((gL mem 2 5) ||| (((1 <<< (((gi mem 2 1) : Int32).toInt64 &&& 63)) - 1) <<< ((x2 : Int32).toInt64 &&& 63)))) → yR zpg tX4_setSize d (17, lo, [], (sL mem 2 5 ((gL mem 2 5) ||| (((1 <<< (((gi mem 2 1) : Int32).toInt64 &&& 63)) - 1) <<< ((x2 : Int32).toInt64 &&& 63))))) P) : yR zpg tX4_setSize d (17, lo, [], mem) P := by
  refine wR_li rfl l_3 ?_
  refine wR_la rfl l_0 ?_
  refine wR_gi rfl quA_e quA_2 hm rfl ?_
  refine wR_ic_ge rfl (a := (k).toInt) (c := (gi mem 2 2).toInt) rfl rfl (fun q1 => ?_) (fun q1 => ?_)
  ·
    exact yR_rv rfl (h1 q1 hm)
  ·
    refine wR_la rfl l_0 ?_
    refine yR_m 1 (fun _ _ _ _ => rfl) ?_
    refine wR_gL rfl quA_e quA_5 hm rfl ?_
    refine yR_m 1 (fun _ _ _ _ => rfl) ?_
    refine wR_la rfl l_0 ?_
    refine wR_gi rfl quA_e quA_1 hm rfl ?_
    refine yR_m 4 (fun _ _ _ _ => rfl) ?_
    refine wR_li rfl l_3 ?_
    refine wN_mul (a := 8) (b := (k).toInt) rfl rfl rfl (by omega) (fun x2 e3 => ?_)
    refine yR_m 2 (fun _ _ _ _ => rfl) ?_
    refine wR_pL rfl quA_e quA_5 hm ?_
    have hm_1 : aTm aT0 (sL mem 2 5 ((gL mem 2 5) ||| (((1 <<< (((gi mem 2 1) : Int32).toInt64 &&& 63)) - 1) <<< ((x2 : Int32).toInt64 &&& 63)))) := tm_sL quA_e quA_5 hm
    refine wN_in (a := (k).toInt) (b := 1) rfl rfl l_3 rfl rfl (by omega) (fun x4 e5 => fun lo6 e7 f8 => ?_)
    have lo6_0 := f8 0 _ (by decide) (Or.inl rfl) l_0
    exact yR_m 1 (fun _ _ _ _ => rfl) (h2 q1 x2 e3 x4 e5 lo6 lo6_0 e7 hm_1)

theorem ss17_A {w h : Int32} (hh : 0 ≤ h.toInt ∧ h.toInt ≤ 7) : ∀ (f : Nat) (mem : zM) (k : Int32) (lo : List (Nat × Value)), h.toInt < k.toInt + (f : Int) → 0 ≤ k.toInt → k.toInt ≤ h.toInt → aTm aT0 mem → fo 2 [] [1, 2, 5] mr mem → gi mem 2 1 = w → gi mem 2 2 = h → gL mem 2 5 = grdW w k.toInt.toNat → zlg lo 0 = some (.ref 2) → zlg lo 3 = some (.int k) → yR zpg tX4_setSize d (17, lo, [], mem) (fun a m => a = none ∧ aTm aT0 m ∧ (fo 2 [] [1, 2, 5] mr m ∧ gi m 2 1 = w ∧ gi m 2 2 = h ∧ gL m 2 5 = grdW w h.toInt.toNat)) := by
  intro f
  induction f with
  | zero =>
    intro mem k lo hf h0 h9
    exfalso
    omega
  | succ f ih =>
    intro mem k lo hf h0 h9 hm hF e1 e2 eG a0 a3
    have e3 := congrArg Int32.toInt e2
    exact w_ss17A hm a0 a3 ⟨h0, by omega⟩
        (fun q1 hm2 => ⟨rfl, hm2, hF, e1, e2, by rw [eG, show k.toInt = h.toInt by omega]⟩)
        (fun q1 x2 e3 x4 e5 lo a0 a3 hm2 => ih _ _ lo (by omega) (by omega) (by omega) hm2 (fo_sv rfl hF) (by rw [gi_sv_ne (by decide)]; exact e1) (by rw [gi_sv_ne (by decide)]; exact e2) (grd_s (isQ_of quA_e hm) quA_5 e1 eG h0 (by omega) (by omega) (by omega)) a0 a3)
set_option maxRecDepth 100000 in
theorem w_ss0A {d : Nat} {mem : zM} {P : Option Value → zM → Prop} {w h : Int32} {lo : List (Nat × Value)} (hm : aTm aT0 mem) (l_0 : zlg lo 0 = some (.ref 2)) (l_1 : zlg lo 1 = some (.int w)) (l_2 : zlg lo 2 = some (.int h)) (h1 : ∀ lo, zlg lo 0 = some (.ref 2) → zlg lo 3 = some (.int 0) → aTm aT0 (sL (si (si mem 2 1 w) 2 2 h) 2 5 0) → yR zpg tX4_setSize d (17, lo, [], (sL (si (si mem 2 1 w) 2 2 h) 2 5 0)) P) : yR zpg tX4_setSize d (0, lo, [], mem) P := by
  refine wR_la rfl l_0 ?_
  refine wR_li rfl l_1 ?_
  refine wR_pi rfl quA_e quA_1 hm rfl ?_
  have hm_1 : aTm aT0 (si mem 2 1 w) := tm_si quA_e quA_1 hm (i32_b _)
  refine wR_la rfl l_0 ?_
  refine wR_li rfl l_2 ?_
  refine wR_pi rfl quA_e quA_2 hm_1 rfl ?_
  have hm_2 : aTm aT0 (si (si mem 2 1 w) 2 2 h) := tm_si quA_e quA_2 hm_1 (i32_b _)
  refine wR_la rfl l_0 ?_
  refine yR_m 1 (fun _ _ _ _ => rfl) ?_
  refine wR_pL rfl quA_e quA_5 hm_2 ?_
  have hm_3 : aTm aT0 (sL (si (si mem 2 1 w) 2 2 h) 2 5 0) := tm_sL quA_e quA_5 hm_2
  refine yR_m 1 (fun _ _ _ _ => rfl) ?_
  refine wR_si rfl rfl (fun lo1 e2 f3 => ?_)
  have lo1_0 := f3 0 _ (by decide) (Or.inl rfl) l_0
  have lo1_1 := f3 1 _ (by decide) (Or.inl rfl) l_1
  have lo1_2 := f3 2 _ (by decide) (Or.inl rfl) l_2
  exact h1 lo1 lo1_0 e2 hm_3

theorem h_ssCA {w h : Int32} (hm : aTm aT0 mem) (hh : 0 ≤ h.toInt ∧ h.toInt ≤ 7) (hd : 1 ≤ d) : yC zpg d 52 [.ref 2, .int w, .int h] mem (fun a m => a = none ∧ aTm aT0 m ∧ (fo 2 [] [1, 2, 5] mem m ∧ gi m 2 1 = w ∧ gi m 2 2 = h ∧ gL m 2 5 = grdW w h.toInt.toNat)) := by
  obtain ⟨d, rfl⟩ : ∃ q, d = q + 1 := ⟨d - 1, by omega⟩
  refine yC_of (t := tX4_setSize) rfl rfl ?_
  exact w_ss0A hm rfl rfl rfl
        (fun  lo a0 a3 hm2 => ss17_A hh 8 _ _ lo (by show _ < (0 : Int) + 8; omega) (by decide) (by show (0 : Int) ≤ _; omega) hm2 (fo_sv rfl (fo_sv rfl (fo_sv rfl fo_rf))) ((gi_sv_ne (by decide)).trans ((gi_sv_ne (by decide)).trans (gi_eqQ (isQ_of quA_e hm) quA_1))) ((gi_sv_ne (by decide)).trans (gi_eqQ (isQ_sv (isQ_of quA_e hm)) quA_2)) (gL_eqQ (isQ_sv (isQ_sv (isQ_of quA_e hm))) quA_5) a0 a3)
theorem cQ_sizA {w h : Int32} {a0 b0 : Int} (F : fo 2 [] [1, 2, 5] mem m) (e1 : gi m 2 1 = w) (e2 : gi m 2 2 = h) (e5 : gL m 2 5 = grdW w h.toInt.toNat) (k : cQ 2 3 4 7 8 9 12 13 (a0, b0, [], [], [], [], [], [], 3, 0, []) mem) : cQ 2 3 4 7 8 9 12 13 (w.toInt, h.toInt, [], [], [], [], [], [], 3, 0, []) m := by
  have kx := k.2.2.2.2.2.2
  have X : cQx 2 (w.toInt, h.toInt, [], [], [], [], [], [], 3, 0, []) m := ⟨⟨rfl, fun i y hy => by cases hy⟩, ⟨by rw [fo_gi (i := 3) F rfl]; exact kx.2.1.1, by rw [fo_gi (i := 4) F rfl]; exact kx.2.1.2.1, by rw [e5]; show _ = grdW (Int32.ofInt w.toInt) h.toInt.toNat; rw [Int32.ofInt_toInt]⟩, fun w w0 w1 c hc => by cases hc⟩
  unfold cQ cQw cQt cQh cQf cQu at k ⊢
  rw [e1, e2, fo_gi (i := 7) F rfl, fo_gi (i := 12) F rfl, fo_gi (i := 13) F rfl, fo_ga (k := 3) F (by decide) rfl, fo_ga (k := 4) F (by decide) rfl, fo_ga (k := 7) F (by decide) rfl, fo_ga (k := 8) F (by decide) rfl, fo_ga (k := 9) F (by decide) rfl, fo_ga (k := 12) F (by decide) rfl, fo_ga (k := 13) F (by decide) rfl, show gL m 2 6 = gL mem 2 6 by unfold gL; rw [F.2 6 rfl]]
  exact ⟨⟨rfl, rfl⟩, k.2.1, k.2.2.1, k.2.2.2.1, k.2.2.2.2.1, k.2.2.2.2.2.1, X⟩
set_option maxRecDepth 100000 in
theorem w_tzA {d : Nat} {mem : zM} {P : Option Value → zM → Prop} {T : List Int32} {n p : Int} {Q : Qd} (hm : aTm aT0 mem) (ht : zfl mem 26 2 = some (.ref 2)) (hR : cRd T n p mem) (h1 : ∀ (v3 : Int32) (q4 : Int) (m1 : zM), aTm aT0 m1 → owH T n 0 p mem v3.toInt q4 m1 → (v3).toInt = 0 → aTm aT0 m1 → P (some (.int 0)) m1) (h2 : ∀ (v3 : Int32) (q4 : Int) (m1 : zM), aTm aT0 m1 → owH T n 0 p mem v3.toInt q4 m1 → ¬ (v3).toInt = 0 → ∀ (v8 : Int32) (q9 : Int) (m6 : zM), aTm aT0 m6 → nuH T n (3 : Int) 7 q4 m1 v8.toInt q9 m6 → ¬ (v8).toInt = 0 → ∀ (v13 : Int32) (q14 : Int) (m11 : zM), aTm aT0 m11 → owH T n 1 q9 m6 v13.toInt q14 m11 → (v13).toInt = 0 → aTm aT0 m11 → P (some (.int 0)) m11) (h3 : ∀ (v3 : Int32) (q4 : Int) (m1 : zM), aTm aT0 m1 → owH T n 0 p mem v3.toInt q4 m1 → ¬ (v3).toInt = 0 → ∀ (v8 : Int32) (q9 : Int) (m6 : zM), aTm aT0 m6 → nuH T n (3 : Int) 7 q4 m1 v8.toInt q9 m6 → ¬ (v8).toInt = 0 → ∀ (v13 : Int32) (q14 : Int) (m11 : zM), aTm aT0 m11 → owH T n 1 q9 m6 v13.toInt q14 m11 → ¬ (v13).toInt = 0 → ∀ (v18 : Int32) (q19 : Int) (m16 : zM), aTm aT0 m16 → nuH T n (3 : Int) 7 q14 m11 v18.toInt q19 m16 → ¬ (v18).toInt = 0 → ∀ (m21 : zM), aTm aT0 m21 → (fo 2 [] [1, 2, 5] m16 m21 ∧ gi m21 2 1 = (gi m6 27 8) ∧ gi m21 2 2 = (gi m16 27 8) ∧ gL m21 2 5 = grdW (gi m6 27 8) ((gi m16 27 8)).toInt.toNat) → aTm aT0 m21 → P (some (.int 1)) m21) (h4 : ∀ (v3 : Int32) (q4 : Int) (m1 : zM), aTm aT0 m1 → owH T n 0 p mem v3.toInt q4 m1 → ¬ (v3).toInt = 0 → ∀ (v8 : Int32) (q9 : Int) (m6 : zM), aTm aT0 m6 → nuH T n (3 : Int) 7 q4 m1 v8.toInt q9 m6 → ¬ (v8).toInt = 0 → ∀ (v13 : Int32) (q14 : Int) (m11 : zM), aTm aT0 m11 → owH T n 1 q9 m6 v13.toInt q14 m11 → ¬ (v13).toInt = 0 → ∀ (v18 : Int32) (q19 : Int) (m16 : zM), aTm aT0 m16 → nuH T n (3 : Int) 7 q14 m11 v18.toInt q19 m16 → (v18).toInt = 0 → aTm aT0 m16 → P (some (.int 0)) m16) (h5 : ∀ (v3 : Int32) (q4 : Int) (m1 : zM), aTm aT0 m1 → owH T n 0 p mem v3.toInt q4 m1 → ¬ (v3).toInt = 0 → ∀ (v8 : Int32) (q9 : Int) (m6 : zM), aTm aT0 m6 → nuH T n (3 : Int) 7 q4 m1 v8.toInt q9 m6 → (v8).toInt = 0 → aTm aT0 m6 → P (some (.int 0)) m6) : yR zpg tX9_takesSize (d + 4) (0, [(0, .ref 26)], [], mem) P := by
  refine yR_m 1 (fun _ _ _ _ => rfl) ?_
  refine wR_gr rfl tO_e tO_0 hm ?_
  refine yR_m 1 (fun _ _ _ _ => rfl) ?_
  refine wR_cv rfl rfl rO_e hm rfl (h_owC (T := T) (n := n) (p := p) (by decide) hm hR (by omega)) ?_
  rintro _ m1 ⟨v3, q4, rfl, hm1, k2⟩
  show yR zpg tX9_takesSize (d + 4) (8, [(0, .ref 26)], [.int v3], m1) _
  refine wR_if_eq rfl (a := (v3).toInt) rfl (fun q5 => ?_) (fun q5 => ?_)
  ·
    refine yR_m 1 (fun _ _ _ _ => rfl) ?_
    exact yR_rz rfl ⟨by decide, by decide⟩ (h1 v3 q4 m1 hm1 k2 q5 hm1)
  ·
    refine yR_m 1 (fun _ _ _ _ => rfl) ?_
    refine wR_gr rfl tO_e tO_0 hm1 ?_
    refine yR_m 2 (fun _ _ _ _ => rfl) ?_
    refine wR_cv rfl rfl rO_e hm1 rfl (h_nuC (T := T) (n := n) (p := q4) hm1 (ow_1 k2 (by omega)).2 (by omega)) ?_
    rintro _ m6 ⟨v8, q9, rfl, hm6, k7⟩
    show yR zpg tX9_takesSize (d + 4) (21, [(0, .ref 26)], [.int v8], m6) _
    refine wR_if_ne rfl (a := (v8).toInt) rfl (fun q10 => ?_) (fun q10 => ?_)
    ·
      refine yR_m 1 (fun _ _ _ _ => rfl) ?_
      refine wR_gr rfl tO_e tO_0 hm6 ?_
      refine wR_gi rfl rO_e rO_8 hm6 rfl ?_
      refine yR_m 2 (fun _ _ _ _ => rfl) ?_
      refine wR_gr rfl tO_e tO_0 hm6 ?_
      refine yR_m 1 (fun _ _ _ _ => rfl) ?_
      refine wR_cv rfl rfl rO_e hm6 rfl (h_owC (T := T) (n := n) (p := q9) (by decide) hm6 (nu_1 k7 (by omega)).2 (by omega)) ?_
      rintro _ m11 ⟨v13, q14, rfl, hm11, k12⟩
      show yR zpg tX9_takesSize (d + 4) (42, [(1, .int (gi m6 27 8)), (0, .ref 26)], [.int v13], m11) _
      refine wR_if_eq rfl (a := (v13).toInt) rfl (fun q15 => ?_) (fun q15 => ?_)
      ·
        refine yR_m 1 (fun _ _ _ _ => rfl) ?_
        exact yR_rz rfl ⟨by decide, by decide⟩ (h2 v3 q4 m1 hm1 k2 q5 v8 q9 m6 hm6 k7 q10 v13 q14 m11 hm11 k12 q15 hm11)
      ·
        refine yR_m 1 (fun _ _ _ _ => rfl) ?_
        refine wR_gr rfl tO_e tO_0 hm11 ?_
        refine yR_m 2 (fun _ _ _ _ => rfl) ?_
        refine wR_cv rfl rfl rO_e hm11 rfl (h_nuC (T := T) (n := n) (p := q14) hm11 (ow_1 k12 (by omega)).2 (by omega)) ?_
        rintro _ m16 ⟨v18, q19, rfl, hm16, k17⟩
        show yR zpg tX9_takesSize (d + 4) (55, [(1, .int (gi m6 27 8)), (0, .ref 26)], [.int v18], m16) _
        refine wR_if_ne rfl (a := (v18).toInt) rfl (fun q20 => ?_) (fun q20 => ?_)
        ·
          refine yR_m 1 (fun _ _ _ _ => rfl) ?_
          refine wR_gq rfl tO_e hm16 ((k6_26 (k6_fo k17.1 rfl) (by decide)).trans ((k6_26 (k6_fo k12.1 rfl) (by decide)).trans ((k6_26 (k6_fo k7.1 rfl) (by decide)).trans ((k6_26 (k6_fo k2.1 rfl) (by decide)).trans ht)))) ?_
          refine yR_m 2 (fun _ _ _ _ => rfl) ?_
          refine wR_gr rfl tO_e tO_0 hm16 ?_
          refine wR_gi rfl rO_e rO_8 hm16 rfl ?_
          refine wR_cv rfl rfl quA_e hm16 rfl (h_ssCA hm16 (by have q9 : (3 : Int32).toInt = 3 := rfl; have q8 : (7 : Int32).toInt = 7 := rfl; omega) (by omega)) ?_
          rintro _ m21 ⟨rfl, hI21, k22⟩
          show yR zpg tX9_takesSize (d + 4) (75, [(1, .int (gi m6 27 8)), (0, .ref 26)], [], m21) _
          refine yR_m 1 (fun _ _ _ _ => rfl) ?_
          exact yR_rz rfl ⟨by decide, by decide⟩ (h3 v3 q4 m1 hm1 k2 q5 v8 q9 m6 hm6 k7 q10 v13 q14 m11 hm11 k12 q15 v18 q19 m16 hm16 k17 q20 m21 hI21 k22 hI21)
        ·
          refine yR_m 1 (fun _ _ _ _ => rfl) ?_
          exact yR_rz rfl ⟨by decide, by decide⟩ (h4 v3 q4 m1 hm1 k2 q5 v8 q9 m6 hm6 k7 q10 v13 q14 m11 hm11 k12 q15 v18 q19 m16 hm16 k17 q20 hm16)
    ·
      refine yR_m 1 (fun _ _ _ _ => rfl) ?_
      exact yR_rz rfl ⟨by decide, by decide⟩ (h5 v3 q4 m1 hm1 k2 q5 v8 q9 m6 hm6 k7 q10 hm6)

theorem h_tzCA {a0 b0 : Int} (hm : aTm aT0 mem) (ht : zfl mem 26 2 = some (.ref 2)) (hR : cRd T n p mem) (hQ : cQ 2 3 4 7 8 9 12 13 (a0, b0, [], [], [], [], [], [], 3, 0, []) mem) (hs : (gi mem 10 3).toInt ≤ p) (hd : 5 ≤ d) : yC zpg d 87 [.ref 26] mem (fun a m => ∃ (v : Int32) (q : Int), a = some (.int v) ∧ aTm aT0 m ∧ (zfl m 26 2 = some (.ref 2) ∧ zo 2 m = zo 2 mem) ∧ ((v.toInt = 1 ∧ (∃ x, sSiz T n p = some (x, q) ∧ ((3 ≤ x.1 ∧ x.1 ≤ 7) ∧ 3 ≤ x.2 ∧ x.2 ≤ 7) ∧ cQ 2 3 4 7 8 9 12 13 (x.1, x.2, [], [], [], [], [], [], 3, 0, []) m) ∧ cRd T n q m ∧ (gi m 10 3).toInt ≤ q) ∨ (v.toInt = 0 ∧ sSiz T n p = none))) := by
  obtain ⟨d, rfl⟩ : ∃ q, d = q + 5 := ⟨d - 5, by omega⟩
  refine yC_of (t := tX9_takesSize) rfl rfl ?_
  exact w_tzA (T := T) (n := n) (p := p) (Q := (a0, b0, [], [], [], [], [], [], 3, 0, [])) hm ht hR
        (fun v3 q4 m1 hm1 k2 q5 hm2 => ⟨_, p, rfl, hm2, ⟨((k6_26 (k6_fo k2.1 rfl) (by decide)).trans ht), (zo_k6 (k6_fo k2.1 rfl))⟩, Or.inr ⟨rfl, (ob_0 (ow_0 k2 (by omega)))⟩⟩)
        (fun v3 q4 m1 hm1 k2 q5 v8 q9 m6 hm6 k7 q10 v13 q14 m11 hm11 k12 q15 hm2 => ⟨_, p, rfl, hm2, ⟨((k6_26 (k6_fo k12.1 rfl) (by decide)).trans ((k6_26 (k6_fo k7.1 rfl) (by decide)).trans ((k6_26 (k6_fo k2.1 rfl) (by decide)).trans ht))), ((zo_k6 (k6_fo k12.1 rfl)).trans ((zo_k6 (k6_fo k7.1 rfl)).trans (zo_k6 (k6_fo k2.1 rfl))))⟩, Or.inr ⟨rfl, ((ob_1 (ow_1 k2 (by omega)).1).trans ((ob_1 (nu_1 k7 (by omega)).1.1).trans (ob_0 (ow_0 k12 (by omega)))))⟩⟩)
        (fun v3 q4 m1 hm1 k2 q5 v8 q9 m6 hm6 k7 q10 v13 q14 m11 hm11 k12 q15 v18 q19 m16 hm16 k17 q20 m21 hI21 k22 hm2 => by
          have y0 := (tk_le hR).1
          have z1 := p_owH hR k2 (by omega)
          have z2 := p_nuH (ow_1 k2 (by omega)).2 k7 (by omega)
          have z3 := p_owH (nu_1 k7 (by omega)).2 k12 (by omega)
          have z4 := p_nuH (ow_1 k12 (by omega)).2 k17 (by omega)
          have u1 := nu_1 k7 (by omega)
          have u2 := nu_1 k17 (by omega)
          exact ⟨_, _, rfl, hm2, ⟨(zfl_ea (k22.1.1 26 (by decide) rfl)).trans ((k6_26 (k6_fo k17.1 rfl) (by decide)).trans ((k6_26 (k6_fo k12.1 rfl) (by decide)).trans ((k6_26 (k6_fo k7.1 rfl) (by decide)).trans ((k6_26 (k6_fo k2.1 rfl) (by decide)).trans ht)))), (zo_fo (by decide) k22.1).trans ((zo_k6 (k6_fo k17.1 rfl)).trans ((zo_k6 (k6_fo k12.1 rfl)).trans ((zo_k6 (k6_fo k7.1 rfl)).trans (zo_k6 (k6_fo k2.1 rfl)))))⟩, Or.inl ⟨rfl, ⟨_, ((ob_1 (ow_1 k2 (by omega)).1).trans ((ob_1 (nu_1 k7 (by omega)).1.1).trans ((ob_1 (ow_1 k12 (by omega)).1).trans (om_1 (nu_1 k17 (by omega)).1.1)))), ⟨⟨u1.1.2.1, u1.1.2.2⟩, u2.1.2.1, u2.1.2.2⟩, cQ_sizA k22.1 k22.2.1 k22.2.2.1 k22.2.2.2 (cQ_k6A (k6_tr (k6_tr (k6_tr (k6_tr k6_rf (k6_fo k2.1 rfl)) (k6_fo k7.1 rfl)) (k6_fo k12.1 rfl)) (k6_fo k17.1 rfl)) hQ)⟩, cRd_z (k22.1.1 27 (by decide) rfl) (k22.1.1 28 (by decide) rfl) (k22.1.1 1 (by decide) rfl) (nu_1 k17 (by omega)).2, by rw [gi_zq (k22.1.1 10 (by decide) rfl), ((k6_gi (by decide) (k6_fo k17.1 rfl)).trans ((k6_gi (by decide) (k6_fo k12.1 rfl)).trans ((k6_gi (by decide) (k6_fo k7.1 rfl)).trans (k6_gi (by decide) (k6_fo k2.1 rfl)))))]; omega⟩⟩)
        (fun v3 q4 m1 hm1 k2 q5 v8 q9 m6 hm6 k7 q10 v13 q14 m11 hm11 k12 q15 v18 q19 m16 hm16 k17 q20 hm2 => ⟨_, p, rfl, hm2, ⟨((k6_26 (k6_fo k17.1 rfl) (by decide)).trans ((k6_26 (k6_fo k12.1 rfl) (by decide)).trans ((k6_26 (k6_fo k7.1 rfl) (by decide)).trans ((k6_26 (k6_fo k2.1 rfl) (by decide)).trans ht)))), ((zo_k6 (k6_fo k17.1 rfl)).trans ((zo_k6 (k6_fo k12.1 rfl)).trans ((zo_k6 (k6_fo k7.1 rfl)).trans (zo_k6 (k6_fo k2.1 rfl)))))⟩, Or.inr ⟨rfl, ((ob_1 (ow_1 k2 (by omega)).1).trans ((ob_1 (nu_1 k7 (by omega)).1.1).trans ((ob_1 (ow_1 k12 (by omega)).1).trans (om_0 (nu_0 k17 (by omega))))))⟩⟩)
        (fun v3 q4 m1 hm1 k2 q5 v8 q9 m6 hm6 k7 q10 hm2 => ⟨_, p, rfl, hm2, ⟨((k6_26 (k6_fo k7.1 rfl) (by decide)).trans ((k6_26 (k6_fo k2.1 rfl) (by decide)).trans ht)), ((zo_k6 (k6_fo k7.1 rfl)).trans (zo_k6 (k6_fo k2.1 rfl)))⟩, Or.inr ⟨rfl, ((ob_1 (ow_1 k2 (by omega)).1).trans (ob_0 (nu_0 k7 (by omega))))⟩⟩)
set_option maxRecDepth 100000 in
theorem w_rc7B {d : Nat} {mem : zM} {P : Option Value → zM → Prop} {k : Int32} {lo : List (Nat × Value)} (hm : aTm aT0 mem) (l_0 : zlg lo 0 = some (.ref 22)) (l_1 : zlg lo 1 = some (.int k)) (hk : 0 ≤ k.toInt ∧ k.toInt ≤ 3) (h1 : 3 ≤ (k).toInt → aTm aT0 mem → P none mem) (h2 : (k).toInt < 3 → ∀ (x2 : Int32), x2.toInt = ((k).toInt + 1) → ∀ lo, zlg lo 0 = some (.ref 22) → zlg lo 1 = some (.int x2) → aTm aT0 (sx (sx mem 24 k 0) 25 k 0) → yR zpg tX7_clear d (7, lo, [], (sx (sx mem 24 k 0) 25 k 0)) P) : yR zpg tX7_clear d (7, lo, [], mem) P := by
  refine wR_li rfl l_1 ?_
  refine yR_m 1 (fun _ _ _ _ => rfl) ?_
  refine wR_ic_ge rfl (a := (k).toInt) (c := 3) rfl rfl (fun q1 => ?_) (fun q1 => ?_)
  ·
    exact yR_rv rfl (h1 q1 hm)
  ·
    refine wR_la rfl l_0 ?_
    refine wR_gr rfl rlB_e rlB_1 hm ?_
    refine wR_li rfl l_1 ?_
    refine yR_m 1 (fun _ _ _ _ => rfl) ?_
    refine wN_as (a := (k).toInt) rfl aR_24 hm rfl (by omega) ?_
    have hm_1 : aTm aT0 (sx mem 24 k 0) := tm_sa aR_24 hm (by decide)
    refine wR_la rfl l_0 ?_
    refine wR_gr rfl rlB_e rlB_2 hm_1 ?_
    refine wR_li rfl l_1 ?_
    refine yR_m 1 (fun _ _ _ _ => rfl) ?_
    refine wN_as (a := (k).toInt) rfl aR_25 hm_1 rfl (by omega) ?_
    have hm_2 : aTm aT0 (sx (sx mem 24 k 0) 25 k 0) := tm_sa aR_25 hm_1 (by decide)
    refine wN_in (a := (k).toInt) (b := 1) rfl rfl l_1 rfl rfl (by omega) (fun x2 e3 => fun lo4 e5 f6 => ?_)
    have lo4_0 := f6 0 _ (by decide) (Or.inl rfl) l_0
    exact yR_m 1 (fun _ _ _ _ => rfl) (h2 q1 x2 e3 lo4 lo4_0 e5 hm_2)

theorem rc7_B : ∀ (f : Nat) (mem : zM) (k : Int32) (lo : List (Nat × Value)), (3 : Int) < k.toInt + (f : Int) → 0 ≤ k.toInt → k.toInt ≤ 3 → aTm aT0 mem → fo 22 [24, 25] [3] mr mem → (∀ j, 0 ≤ j → j < k.toInt → gn (ga mem 24) j = 0 ∧ gn (ga mem 25) j = 0) → (gi mem 22 3).toInt = 0 → zlg lo 0 = some (.ref 22) → zlg lo 1 = some (.int k) → yR zpg tX7_clear d (7, lo, [], mem) (fun a m => a = none ∧ aTm aT0 m ∧ clQ 22 24 25 mr m) := by
  intro f
  induction f with
  | zero =>
    intro mem k lo hf h0 h9
    exfalso
    omega
  | succ f ih =>
    intro mem k lo hf h0 h9 hm hF hz h3 a0 a1
    exact w_rc7B hm a0 a1 ⟨h0, h9⟩
        (fun q1 hm2 => ⟨rfl, hm2, hF, fun j j0 j1 => hz j j0 (by omega), h3⟩)
        (fun q1 x2 e3 lo a0 a1 hm2 => by
          have l1 := gl_24 hm
          have l2 := gl_25 hm
          refine ih _ _ lo (by omega) (by omega) (by omega) hm2 (fo_sa rfl (fo_sa rfl hF)) (fun j j0 j1 => ?_) (by rw [gi_sa, gi_sa]; exact h3) a0 a1
          have e1 : ga (sx (sx mem 24 k 0) 25 k 0) 24 = ((ga mem 24).set k.toNatClampNeg 0) := ((ga_sa_ne (by decide)).trans ga_sa_eq)
          have e2 : ga (sx (sx mem 24 k 0) 25 k 0) 25 = ((ga mem 25).set k.toNatClampNeg 0) := (ga_sa_eq.trans (congrArg (fun l => List.set l k.toNatClampNeg 0) (ga_sa_ne (by decide))))
          rw [e1, e2, gn_set (a := k.toInt) rfl (by omega) (by omega) j0, gn_set (a := k.toInt) rfl (by omega) (by omega) j0]
          by_cases c : j = k.toInt
          · rw [if_pos c, if_pos c]
            exact ⟨rfl, rfl⟩
          · rw [if_neg c, if_neg c]
            exact hz j j0 (by omega))
set_option maxRecDepth 100000 in
theorem w_rc0B {d : Nat} {mem : zM} {P : Option Value → zM → Prop} {lo : List (Nat × Value)} (hm : aTm aT0 mem) (l_0 : zlg lo 0 = some (.ref 22)) (h1 : ∀ lo, zlg lo 0 = some (.ref 22) → zlg lo 1 = some (.int 0) → aTm aT0 (si mem 22 3 0) → yR zpg tX7_clear d (7, lo, [], (si mem 22 3 0)) P) : yR zpg tX7_clear d (0, lo, [], mem) P := by
  refine wR_la rfl l_0 ?_
  refine yR_m 1 (fun _ _ _ _ => rfl) ?_
  refine wR_pi rfl rlB_e rlB_3 hm rfl ?_
  have hm_1 : aTm aT0 (si mem 22 3 0) := tm_si rlB_e rlB_3 hm (by decide)
  refine yR_m 1 (fun _ _ _ _ => rfl) ?_
  refine wR_si rfl rfl (fun lo1 e2 f3 => ?_)
  have lo1_0 := f3 0 _ (by decide) (Or.inl rfl) l_0
  exact h1 lo1 lo1_0 e2 hm_1

theorem h_rcCB (hm : aTm aT0 mem) (hd : 1 ≤ d) : yC zpg d 74 [.ref 22] mem (fun a m => a = none ∧ aTm aT0 m ∧ clQ 22 24 25 mem m) := by
  obtain ⟨d, rfl⟩ : ∃ q, d = q + 1 := ⟨d - 1, by omega⟩
  refine yC_of (t := tX7_clear) rfl rfl ?_
  exact w_rc0B hm rfl
        (fun  lo a0 a1 hm2 => rc7_B 4 _ _ lo (by decide) (by decide) (by decide) hm2 (fo_sv rfl fo_rf) (fun j j0 j1 => by exfalso; have e : Int32.toInt 0 = 0 := rfl; omega) (by rw [gi_eqQ (isQ_of rlB_e hm) rlB_3]; rfl) a0 a1)
theorem cQ_clrB (e1 : gi m 14 1 = 0) (e2 : gi m 14 2 = 0) (e7 : gi m 14 7 = 0) (e12 : gi m 14 12 = 0) (e13 : gi m 14 13 = 0) (eL : gL m 14 6 = 0) {pc : Int} (hz : ∀ j, 0 ≤ j → j < 3 → gn (ga m 24) j = 0 ∧ gn (ga m 25) j = 0) (e3 : (gi m 14 3).toInt = pc) (e4 : gi m 14 4 = 0) (e5 : gL m 14 5 = 0) : cQ 14 15 16 19 20 21 24 25 (0, 0, [], [], [], [], [], [], pc, 0, []) m := by
  have X : cQx 14 (0, 0, [], [], [], [], [], [], pc, 0, []) m := ⟨⟨rfl, fun i y hy => by cases hy⟩, ⟨e3, by rw [e4]; rfl, e5⟩, fun w w0 w1 c hc => by cases hc⟩
  refine ⟨⟨by rw [e1]; rfl, by rw [e2]; rfl⟩, fun c c0 c1 => ?_, ⟨by rw [e7]; rfl, fun i x h => by cases h⟩, ⟨fun i i0 i1 => ?_, fun i hi => by cases hi⟩, ⟨by rw [e13]; rfl, fun i x h => by cases h⟩, fun w w0 w1 => ?_, X⟩
  · rw [eL]
    exact ⟨fun w => absurd w bL_0, fun w => by cases w⟩
  · rw [e12]
    exact ⟨fun w => absurd w bt_z0, fun w => by have w1 : i < ((([] : List (List Int × Int)).length : Nat) : Int) := w.1; simp at w1; omega⟩
  · have z := hz w w0 w1
    rw [z.1, z.2]
    exact ⟨fun c => by omega, fun c => by cases c⟩
set_option maxRecDepth 100000 in
theorem w_clB {d : Nat} {mem : zM} {P : Option Value → zM → Prop} (hm : aTm aT0 mem) (h1 : ∀ (m1 : zM), aTm aT0 m1 → clQ 22 24 25 (si (si (si (sL (sL (si (si (si (si (si mem 14 0 0) 14 1 0) 14 2 0) 14 3 3) 14 4 0) 14 5 0) 14 6 0) 14 7 0) 14 12 0) 14 13 0) m1 → aTm aT0 m1 → P none m1) : yR zpg tX4_clear (d + 1) (0, [(0, .ref 14)], [], mem) P := by
  refine yR_m 2 (fun _ _ _ _ => rfl) ?_
  refine wR_pi rfl quB_e quB_0 hm rfl ?_
  have hm_1 : aTm aT0 (si mem 14 0 0) := tm_si quB_e quB_0 hm (i32_b _)
  refine yR_m 2 (fun _ _ _ _ => rfl) ?_
  refine wR_pi rfl quB_e quB_1 hm_1 rfl ?_
  have hm_2 : aTm aT0 (si (si mem 14 0 0) 14 1 0) := tm_si quB_e quB_1 hm_1 (i32_b _)
  refine yR_m 2 (fun _ _ _ _ => rfl) ?_
  refine wR_pi rfl quB_e quB_2 hm_2 rfl ?_
  have hm_3 : aTm aT0 (si (si (si mem 14 0 0) 14 1 0) 14 2 0) := tm_si quB_e quB_2 hm_2 (i32_b _)
  refine yR_m 2 (fun _ _ _ _ => rfl) ?_
  refine wR_pi rfl quB_e quB_3 hm_3 rfl ?_
  have hm_4 : aTm aT0 (si (si (si (si mem 14 0 0) 14 1 0) 14 2 0) 14 3 3) := tm_si quB_e quB_3 hm_3 (i32_b _)
  refine yR_m 2 (fun _ _ _ _ => rfl) ?_
  refine wR_pi rfl quB_e quB_4 hm_4 rfl ?_
  have hm_5 : aTm aT0 (si (si (si (si (si mem 14 0 0) 14 1 0) 14 2 0) 14 3 3) 14 4 0) := tm_si quB_e quB_4 hm_4 (i32_b _)
  refine yR_m 2 (fun _ _ _ _ => rfl) ?_
  refine wR_pL rfl quB_e quB_5 hm_5 ?_
  have hm_6 : aTm aT0 (sL (si (si (si (si (si mem 14 0 0) 14 1 0) 14 2 0) 14 3 3) 14 4 0) 14 5 0) := tm_sL quB_e quB_5 hm_5
  refine yR_m 2 (fun _ _ _ _ => rfl) ?_
  refine wR_pL rfl quB_e quB_6 hm_6 ?_
  have hm_7 : aTm aT0 (sL (sL (si (si (si (si (si mem 14 0 0) 14 1 0) 14 2 0) 14 3 3) 14 4 0) 14 5 0) 14 6 0) := tm_sL quB_e quB_6 hm_6
  refine yR_m 2 (fun _ _ _ _ => rfl) ?_
  refine wR_pi rfl quB_e quB_7 hm_7 rfl ?_
  have hm_8 : aTm aT0 (si (sL (sL (si (si (si (si (si mem 14 0 0) 14 1 0) 14 2 0) 14 3 3) 14 4 0) 14 5 0) 14 6 0) 14 7 0) := tm_si quB_e quB_7 hm_7 (by decide)
  refine yR_m 2 (fun _ _ _ _ => rfl) ?_
  refine wR_pi rfl quB_e quB_12 hm_8 rfl ?_
  have hm_9 : aTm aT0 (si (si (sL (sL (si (si (si (si (si mem 14 0 0) 14 1 0) 14 2 0) 14 3 3) 14 4 0) 14 5 0) 14 6 0) 14 7 0) 14 12 0) := tm_si quB_e quB_12 hm_8 (by decide)
  refine yR_m 2 (fun _ _ _ _ => rfl) ?_
  refine wR_pi rfl quB_e quB_13 hm_9 rfl ?_
  have hm_10 : aTm aT0 (si (si (si (sL (sL (si (si (si (si (si mem 14 0 0) 14 1 0) 14 2 0) 14 3 3) 14 4 0) 14 5 0) 14 6 0) 14 7 0) 14 12 0) 14 13 0) := tm_si quB_e quB_13 hm_9 (by decide)
  refine yR_m 1 (fun _ _ _ _ => rfl) ?_
  refine wR_gr rfl quB_e quB_17 hm_10 ?_
  refine wR_cv rfl rfl rlB_e hm_10 rfl (h_rcCB hm_10 (by omega)) ?_
  rintro _ m1 ⟨rfl, hI1, k2⟩
  show yR zpg tX4_clear (d + 1) (57, [(0, .ref 14)], [], m1) _
  exact yR_rv rfl (h1 m1 hI1 k2 hI1)

theorem h_clCB (hm : aTm aT0 mem) (hd : 2 ≤ d) : yC zpg d 48 [.ref 14] mem (fun a m => a = none ∧ aTm aT0 m ∧ (∀ k, ¬ k = 14 → ¬ k = 22 → ¬ k = 24 → ¬ k = 25 → zat m k = zat mem k) ∧ cQ 14 15 16 19 20 21 24 25 (0, 0, [], [], [], [], [], [], 3, 0, []) m ∧ (gi m 22 3).toInt = 0) := by
  obtain ⟨d, rfl⟩ : ∃ q, d = q + 2 := ⟨d - 2, by omega⟩
  refine yC_of (t := tX4_clear) rfl rfl ?_
  exact w_clB hm
        (fun m1 hI1 k2 hm2 => ⟨rfl, hm2, fun k h1 h2 h3 h4 => (k2.1.1 k h2 (ct_2 h3 h4)).trans ((zat_sv_ne (Ne.symm h1)).trans ((zat_sv_ne (Ne.symm h1)).trans ((zat_sv_ne (Ne.symm h1)).trans ((zat_sv_ne (Ne.symm h1)).trans ((zat_sv_ne (Ne.symm h1)).trans ((zat_sv_ne (Ne.symm h1)).trans ((zat_sv_ne (Ne.symm h1)).trans ((zat_sv_ne (Ne.symm h1)).trans ((zat_sv_ne (Ne.symm h1)).trans (zat_sv_ne (Ne.symm h1))))))))))), cQ_clrB ((gi_zq (k2.1.1 14 (by decide) rfl)).trans ((gi_sv_ne (by decide)).trans ((gi_sv_ne (by decide)).trans ((gi_sv_ne (by decide)).trans ((gi_sv_ne (by decide)).trans ((gi_sv_ne (by decide)).trans ((gi_sv_ne (by decide)).trans ((gi_sv_ne (by decide)).trans ((gi_sv_ne (by decide)).trans (gi_eqQ (isQ_sv (isQ_of quB_e hm)) quB_1)))))))))) ((gi_zq (k2.1.1 14 (by decide) rfl)).trans ((gi_sv_ne (by decide)).trans ((gi_sv_ne (by decide)).trans ((gi_sv_ne (by decide)).trans ((gi_sv_ne (by decide)).trans ((gi_sv_ne (by decide)).trans ((gi_sv_ne (by decide)).trans ((gi_sv_ne (by decide)).trans (gi_eqQ (isQ_sv (isQ_sv (isQ_of quB_e hm))) quB_2))))))))) ((gi_zq (k2.1.1 14 (by decide) rfl)).trans ((gi_sv_ne (by decide)).trans ((gi_sv_ne (by decide)).trans (gi_eqQ (isQ_sv (isQ_sv (isQ_sv (isQ_sv (isQ_sv (isQ_sv (isQ_sv (isQ_of quB_e hm)))))))) quB_7)))) ((gi_zq (k2.1.1 14 (by decide) rfl)).trans ((gi_sv_ne (by decide)).trans (gi_eqQ (isQ_sv (isQ_sv (isQ_sv (isQ_sv (isQ_sv (isQ_sv (isQ_sv (isQ_sv (isQ_of quB_e hm))))))))) quB_12))) ((gi_zq (k2.1.1 14 (by decide) rfl)).trans (gi_eqQ (isQ_sv (isQ_sv (isQ_sv (isQ_sv (isQ_sv (isQ_sv (isQ_sv (isQ_sv (isQ_sv (isQ_of quB_e hm)))))))))) quB_13)) ((gL_zq (k2.1.1 14 (by decide) rfl)).trans ((gL_sv_ne (by decide)).trans ((gL_sv_ne (by decide)).trans ((gL_sv_ne (by decide)).trans (gL_eqQ (isQ_sv (isQ_sv (isQ_sv (isQ_sv (isQ_sv (isQ_sv (isQ_of quB_e hm))))))) quB_6))))) k2.2.1 (congrArg Int32.toInt ((gi_zq (k2.1.1 14 (by decide) rfl)).trans ((gi_sv_ne (by decide)).trans ((gi_sv_ne (by decide)).trans ((gi_sv_ne (by decide)).trans ((gi_sv_ne (by decide)).trans ((gi_sv_ne (by decide)).trans ((gi_sv_ne (by decide)).trans (gi_eqQ (isQ_sv (isQ_sv (isQ_sv (isQ_of quB_e hm)))) quB_3))))))))) ((gi_zq (k2.1.1 14 (by decide) rfl)).trans ((gi_sv_ne (by decide)).trans ((gi_sv_ne (by decide)).trans ((gi_sv_ne (by decide)).trans ((gi_sv_ne (by decide)).trans ((gi_sv_ne (by decide)).trans (gi_eqQ (isQ_sv (isQ_sv (isQ_sv (isQ_sv (isQ_of quB_e hm))))) quB_4))))))) ((gL_zq (k2.1.1 14 (by decide) rfl)).trans ((gL_sv_ne (by decide)).trans ((gL_sv_ne (by decide)).trans ((gL_sv_ne (by decide)).trans ((gL_sv_ne (by decide)).trans (gL_eqQ (isQ_sv (isQ_sv (isQ_sv (isQ_sv (isQ_sv (isQ_of quB_e hm)))))) quB_5)))))), k2.2.2⟩)
set_option maxRecDepth 100000 in
theorem w_ss17B {d : Nat} {mem : zM} {P : Option Value → zM → Prop} {k : Int32} {lo : List (Nat × Value)} (hm : aTm aT0 mem) (l_0 : zlg lo 0 = some (.ref 14)) (l_3 : zlg lo 3 = some (.int k)) (hk : 0 ≤ k.toInt ∧ k.toInt ≤ 7) (h1 : (gi mem 14 2).toInt ≤ (k).toInt → aTm aT0 mem → P none mem) (h2 : (k).toInt < (gi mem 14 2).toInt → ∀ (x2 : Int32), x2.toInt = (8 * (k).toInt) → ∀ (x4 : Int32), x4.toInt = ((k).toInt + 1) → ∀ lo, zlg lo 0 = some (.ref 14) → zlg lo 3 = some (.int x4) → aTm aT0 (sL mem 14 5 ((gL mem 14 5) ||| (((1 <<< (((gi mem 14 1) : Int32).toInt64 &&& 63)) - 1) <<< ((x2 : Int32).toInt64 &&& 63)))) → yR zpg tX4_setSize d (17, lo, [], (sL mem 14 5 ((gL mem 14 5) ||| (((1 <<< (((gi mem 14 1) : Int32).toInt64 &&& 63)) - 1) <<< ((x2 : Int32).toInt64 &&& 63))))) P) : yR zpg tX4_setSize d (17, lo, [], mem) P := by
  refine wR_li rfl l_3 ?_
  refine wR_la rfl l_0 ?_
  refine wR_gi rfl quB_e quB_2 hm rfl ?_
  refine wR_ic_ge rfl (a := (k).toInt) (c := (gi mem 14 2).toInt) rfl rfl (fun q1 => ?_) (fun q1 => ?_)
  ·
    exact yR_rv rfl (h1 q1 hm)
  ·
    refine wR_la rfl l_0 ?_
    refine yR_m 1 (fun _ _ _ _ => rfl) ?_
    refine wR_gL rfl quB_e quB_5 hm rfl ?_
    refine yR_m 1 (fun _ _ _ _ => rfl) ?_
    refine wR_la rfl l_0 ?_
    refine wR_gi rfl quB_e quB_1 hm rfl ?_
    refine yR_m 4 (fun _ _ _ _ => rfl) ?_
    refine wR_li rfl l_3 ?_
    refine wN_mul (a := 8) (b := (k).toInt) rfl rfl rfl (by omega) (fun x2 e3 => ?_)
    refine yR_m 2 (fun _ _ _ _ => rfl) ?_
    refine wR_pL rfl quB_e quB_5 hm ?_
    have hm_1 : aTm aT0 (sL mem 14 5 ((gL mem 14 5) ||| (((1 <<< (((gi mem 14 1) : Int32).toInt64 &&& 63)) - 1) <<< ((x2 : Int32).toInt64 &&& 63)))) := tm_sL quB_e quB_5 hm
    refine wN_in (a := (k).toInt) (b := 1) rfl rfl l_3 rfl rfl (by omega) (fun x4 e5 => fun lo6 e7 f8 => ?_)
    have lo6_0 := f8 0 _ (by decide) (Or.inl rfl) l_0
    exact yR_m 1 (fun _ _ _ _ => rfl) (h2 q1 x2 e3 x4 e5 lo6 lo6_0 e7 hm_1)

theorem ss17_B {w h : Int32} (hh : 0 ≤ h.toInt ∧ h.toInt ≤ 7) : ∀ (f : Nat) (mem : zM) (k : Int32) (lo : List (Nat × Value)), h.toInt < k.toInt + (f : Int) → 0 ≤ k.toInt → k.toInt ≤ h.toInt → aTm aT0 mem → fo 14 [] [1, 2, 5] mr mem → gi mem 14 1 = w → gi mem 14 2 = h → gL mem 14 5 = grdW w k.toInt.toNat → zlg lo 0 = some (.ref 14) → zlg lo 3 = some (.int k) → yR zpg tX4_setSize d (17, lo, [], mem) (fun a m => a = none ∧ aTm aT0 m ∧ (fo 14 [] [1, 2, 5] mr m ∧ gi m 14 1 = w ∧ gi m 14 2 = h ∧ gL m 14 5 = grdW w h.toInt.toNat)) := by
  intro f
  induction f with
  | zero =>
    intro mem k lo hf h0 h9
    exfalso
    omega
  | succ f ih =>
    intro mem k lo hf h0 h9 hm hF e1 e2 eG a0 a3
    have e3 := congrArg Int32.toInt e2
    exact w_ss17B hm a0 a3 ⟨h0, by omega⟩
        (fun q1 hm2 => ⟨rfl, hm2, hF, e1, e2, by rw [eG, show k.toInt = h.toInt by omega]⟩)
        (fun q1 x2 e3 x4 e5 lo a0 a3 hm2 => ih _ _ lo (by omega) (by omega) (by omega) hm2 (fo_sv rfl hF) (by rw [gi_sv_ne (by decide)]; exact e1) (by rw [gi_sv_ne (by decide)]; exact e2) (grd_s (isQ_of quB_e hm) quB_5 e1 eG h0 (by omega) (by omega) (by omega)) a0 a3)
set_option maxRecDepth 100000 in
theorem w_ss0B {d : Nat} {mem : zM} {P : Option Value → zM → Prop} {w h : Int32} {lo : List (Nat × Value)} (hm : aTm aT0 mem) (l_0 : zlg lo 0 = some (.ref 14)) (l_1 : zlg lo 1 = some (.int w)) (l_2 : zlg lo 2 = some (.int h)) (h1 : ∀ lo, zlg lo 0 = some (.ref 14) → zlg lo 3 = some (.int 0) → aTm aT0 (sL (si (si mem 14 1 w) 14 2 h) 14 5 0) → yR zpg tX4_setSize d (17, lo, [], (sL (si (si mem 14 1 w) 14 2 h) 14 5 0)) P) : yR zpg tX4_setSize d (0, lo, [], mem) P := by
  refine wR_la rfl l_0 ?_
  refine wR_li rfl l_1 ?_
  refine wR_pi rfl quB_e quB_1 hm rfl ?_
  have hm_1 : aTm aT0 (si mem 14 1 w) := tm_si quB_e quB_1 hm (i32_b _)
  refine wR_la rfl l_0 ?_
  refine wR_li rfl l_2 ?_
  refine wR_pi rfl quB_e quB_2 hm_1 rfl ?_
  have hm_2 : aTm aT0 (si (si mem 14 1 w) 14 2 h) := tm_si quB_e quB_2 hm_1 (i32_b _)
  refine wR_la rfl l_0 ?_
  refine yR_m 1 (fun _ _ _ _ => rfl) ?_
  refine wR_pL rfl quB_e quB_5 hm_2 ?_
  have hm_3 : aTm aT0 (sL (si (si mem 14 1 w) 14 2 h) 14 5 0) := tm_sL quB_e quB_5 hm_2
  refine yR_m 1 (fun _ _ _ _ => rfl) ?_
  refine wR_si rfl rfl (fun lo1 e2 f3 => ?_)
  have lo1_0 := f3 0 _ (by decide) (Or.inl rfl) l_0
  have lo1_1 := f3 1 _ (by decide) (Or.inl rfl) l_1
  have lo1_2 := f3 2 _ (by decide) (Or.inl rfl) l_2
  exact h1 lo1 lo1_0 e2 hm_3

theorem h_ssCB {w h : Int32} (hm : aTm aT0 mem) (hh : 0 ≤ h.toInt ∧ h.toInt ≤ 7) (hd : 1 ≤ d) : yC zpg d 52 [.ref 14, .int w, .int h] mem (fun a m => a = none ∧ aTm aT0 m ∧ (fo 14 [] [1, 2, 5] mem m ∧ gi m 14 1 = w ∧ gi m 14 2 = h ∧ gL m 14 5 = grdW w h.toInt.toNat)) := by
  obtain ⟨d, rfl⟩ : ∃ q, d = q + 1 := ⟨d - 1, by omega⟩
  refine yC_of (t := tX4_setSize) rfl rfl ?_
  exact w_ss0B hm rfl rfl rfl
        (fun  lo a0 a3 hm2 => ss17_B hh 8 _ _ lo (by show _ < (0 : Int) + 8; omega) (by decide) (by show (0 : Int) ≤ _; omega) hm2 (fo_sv rfl (fo_sv rfl (fo_sv rfl fo_rf))) ((gi_sv_ne (by decide)).trans ((gi_sv_ne (by decide)).trans (gi_eqQ (isQ_of quB_e hm) quB_1))) ((gi_sv_ne (by decide)).trans (gi_eqQ (isQ_sv (isQ_of quB_e hm)) quB_2)) (gL_eqQ (isQ_sv (isQ_sv (isQ_of quB_e hm))) quB_5) a0 a3)
theorem cQ_sizB {w h : Int32} {a0 b0 : Int} (F : fo 14 [] [1, 2, 5] mem m) (e1 : gi m 14 1 = w) (e2 : gi m 14 2 = h) (e5 : gL m 14 5 = grdW w h.toInt.toNat) (k : cQ 14 15 16 19 20 21 24 25 (a0, b0, [], [], [], [], [], [], 3, 0, []) mem) : cQ 14 15 16 19 20 21 24 25 (w.toInt, h.toInt, [], [], [], [], [], [], 3, 0, []) m := by
  have kx := k.2.2.2.2.2.2
  have X : cQx 14 (w.toInt, h.toInt, [], [], [], [], [], [], 3, 0, []) m := ⟨⟨rfl, fun i y hy => by cases hy⟩, ⟨by rw [fo_gi (i := 3) F rfl]; exact kx.2.1.1, by rw [fo_gi (i := 4) F rfl]; exact kx.2.1.2.1, by rw [e5]; show _ = grdW (Int32.ofInt w.toInt) h.toInt.toNat; rw [Int32.ofInt_toInt]⟩, fun w w0 w1 c hc => by cases hc⟩
  unfold cQ cQw cQt cQh cQf cQu at k ⊢
  rw [e1, e2, fo_gi (i := 7) F rfl, fo_gi (i := 12) F rfl, fo_gi (i := 13) F rfl, fo_ga (k := 15) F (by decide) rfl, fo_ga (k := 16) F (by decide) rfl, fo_ga (k := 19) F (by decide) rfl, fo_ga (k := 20) F (by decide) rfl, fo_ga (k := 21) F (by decide) rfl, fo_ga (k := 24) F (by decide) rfl, fo_ga (k := 25) F (by decide) rfl, show gL m 14 6 = gL mem 14 6 by unfold gL; rw [F.2 6 rfl]]
  exact ⟨⟨rfl, rfl⟩, k.2.1, k.2.2.1, k.2.2.2.1, k.2.2.2.2.1, k.2.2.2.2.2.1, X⟩
set_option maxRecDepth 100000 in
theorem w_tzB {d : Nat} {mem : zM} {P : Option Value → zM → Prop} {T : List Int32} {n p : Int} {Q : Qd} (hm : aTm aT0 mem) (ht : zfl mem 26 2 = some (.ref 14)) (hR : cRd T n p mem) (h1 : ∀ (v3 : Int32) (q4 : Int) (m1 : zM), aTm aT0 m1 → owH T n 0 p mem v3.toInt q4 m1 → (v3).toInt = 0 → aTm aT0 m1 → P (some (.int 0)) m1) (h2 : ∀ (v3 : Int32) (q4 : Int) (m1 : zM), aTm aT0 m1 → owH T n 0 p mem v3.toInt q4 m1 → ¬ (v3).toInt = 0 → ∀ (v8 : Int32) (q9 : Int) (m6 : zM), aTm aT0 m6 → nuH T n (3 : Int) 7 q4 m1 v8.toInt q9 m6 → ¬ (v8).toInt = 0 → ∀ (v13 : Int32) (q14 : Int) (m11 : zM), aTm aT0 m11 → owH T n 1 q9 m6 v13.toInt q14 m11 → (v13).toInt = 0 → aTm aT0 m11 → P (some (.int 0)) m11) (h3 : ∀ (v3 : Int32) (q4 : Int) (m1 : zM), aTm aT0 m1 → owH T n 0 p mem v3.toInt q4 m1 → ¬ (v3).toInt = 0 → ∀ (v8 : Int32) (q9 : Int) (m6 : zM), aTm aT0 m6 → nuH T n (3 : Int) 7 q4 m1 v8.toInt q9 m6 → ¬ (v8).toInt = 0 → ∀ (v13 : Int32) (q14 : Int) (m11 : zM), aTm aT0 m11 → owH T n 1 q9 m6 v13.toInt q14 m11 → ¬ (v13).toInt = 0 → ∀ (v18 : Int32) (q19 : Int) (m16 : zM), aTm aT0 m16 → nuH T n (3 : Int) 7 q14 m11 v18.toInt q19 m16 → ¬ (v18).toInt = 0 → ∀ (m21 : zM), aTm aT0 m21 → (fo 14 [] [1, 2, 5] m16 m21 ∧ gi m21 14 1 = (gi m6 27 8) ∧ gi m21 14 2 = (gi m16 27 8) ∧ gL m21 14 5 = grdW (gi m6 27 8) ((gi m16 27 8)).toInt.toNat) → aTm aT0 m21 → P (some (.int 1)) m21) (h4 : ∀ (v3 : Int32) (q4 : Int) (m1 : zM), aTm aT0 m1 → owH T n 0 p mem v3.toInt q4 m1 → ¬ (v3).toInt = 0 → ∀ (v8 : Int32) (q9 : Int) (m6 : zM), aTm aT0 m6 → nuH T n (3 : Int) 7 q4 m1 v8.toInt q9 m6 → ¬ (v8).toInt = 0 → ∀ (v13 : Int32) (q14 : Int) (m11 : zM), aTm aT0 m11 → owH T n 1 q9 m6 v13.toInt q14 m11 → ¬ (v13).toInt = 0 → ∀ (v18 : Int32) (q19 : Int) (m16 : zM), aTm aT0 m16 → nuH T n (3 : Int) 7 q14 m11 v18.toInt q19 m16 → (v18).toInt = 0 → aTm aT0 m16 → P (some (.int 0)) m16) (h5 : ∀ (v3 : Int32) (q4 : Int) (m1 : zM), aTm aT0 m1 → owH T n 0 p mem v3.toInt q4 m1 → ¬ (v3).toInt = 0 → ∀ (v8 : Int32) (q9 : Int) (m6 : zM), aTm aT0 m6 → nuH T n (3 : Int) 7 q4 m1 v8.toInt q9 m6 → (v8).toInt = 0 → aTm aT0 m6 → P (some (.int 0)) m6) : yR zpg tX9_takesSize (d + 4) (0, [(0, .ref 26)], [], mem) P := by
  refine yR_m 1 (fun _ _ _ _ => rfl) ?_
  refine wR_gr rfl tO_e tO_0 hm ?_
  refine yR_m 1 (fun _ _ _ _ => rfl) ?_
  refine wR_cv rfl rfl rO_e hm rfl (h_owC (T := T) (n := n) (p := p) (by decide) hm hR (by omega)) ?_
  rintro _ m1 ⟨v3, q4, rfl, hm1, k2⟩
  show yR zpg tX9_takesSize (d + 4) (8, [(0, .ref 26)], [.int v3], m1) _
  refine wR_if_eq rfl (a := (v3).toInt) rfl (fun q5 => ?_) (fun q5 => ?_)
  ·
    refine yR_m 1 (fun _ _ _ _ => rfl) ?_
    exact yR_rz rfl ⟨by decide, by decide⟩ (h1 v3 q4 m1 hm1 k2 q5 hm1)
  ·
    refine yR_m 1 (fun _ _ _ _ => rfl) ?_
    refine wR_gr rfl tO_e tO_0 hm1 ?_
    refine yR_m 2 (fun _ _ _ _ => rfl) ?_
    refine wR_cv rfl rfl rO_e hm1 rfl (h_nuC (T := T) (n := n) (p := q4) hm1 (ow_1 k2 (by omega)).2 (by omega)) ?_
    rintro _ m6 ⟨v8, q9, rfl, hm6, k7⟩
    show yR zpg tX9_takesSize (d + 4) (21, [(0, .ref 26)], [.int v8], m6) _
    refine wR_if_ne rfl (a := (v8).toInt) rfl (fun q10 => ?_) (fun q10 => ?_)
    ·
      refine yR_m 1 (fun _ _ _ _ => rfl) ?_
      refine wR_gr rfl tO_e tO_0 hm6 ?_
      refine wR_gi rfl rO_e rO_8 hm6 rfl ?_
      refine yR_m 2 (fun _ _ _ _ => rfl) ?_
      refine wR_gr rfl tO_e tO_0 hm6 ?_
      refine yR_m 1 (fun _ _ _ _ => rfl) ?_
      refine wR_cv rfl rfl rO_e hm6 rfl (h_owC (T := T) (n := n) (p := q9) (by decide) hm6 (nu_1 k7 (by omega)).2 (by omega)) ?_
      rintro _ m11 ⟨v13, q14, rfl, hm11, k12⟩
      show yR zpg tX9_takesSize (d + 4) (42, [(1, .int (gi m6 27 8)), (0, .ref 26)], [.int v13], m11) _
      refine wR_if_eq rfl (a := (v13).toInt) rfl (fun q15 => ?_) (fun q15 => ?_)
      ·
        refine yR_m 1 (fun _ _ _ _ => rfl) ?_
        exact yR_rz rfl ⟨by decide, by decide⟩ (h2 v3 q4 m1 hm1 k2 q5 v8 q9 m6 hm6 k7 q10 v13 q14 m11 hm11 k12 q15 hm11)
      ·
        refine yR_m 1 (fun _ _ _ _ => rfl) ?_
        refine wR_gr rfl tO_e tO_0 hm11 ?_
        refine yR_m 2 (fun _ _ _ _ => rfl) ?_
        refine wR_cv rfl rfl rO_e hm11 rfl (h_nuC (T := T) (n := n) (p := q14) hm11 (ow_1 k12 (by omega)).2 (by omega)) ?_
        rintro _ m16 ⟨v18, q19, rfl, hm16, k17⟩
        show yR zpg tX9_takesSize (d + 4) (55, [(1, .int (gi m6 27 8)), (0, .ref 26)], [.int v18], m16) _
        refine wR_if_ne rfl (a := (v18).toInt) rfl (fun q20 => ?_) (fun q20 => ?_)
        ·
          refine yR_m 1 (fun _ _ _ _ => rfl) ?_
          refine wR_gq rfl tO_e hm16 ((k6_26 (k6_fo k17.1 rfl) (by decide)).trans ((k6_26 (k6_fo k12.1 rfl) (by decide)).trans ((k6_26 (k6_fo k7.1 rfl) (by decide)).trans ((k6_26 (k6_fo k2.1 rfl) (by decide)).trans ht)))) ?_
          refine yR_m 2 (fun _ _ _ _ => rfl) ?_
          refine wR_gr rfl tO_e tO_0 hm16 ?_
          refine wR_gi rfl rO_e rO_8 hm16 rfl ?_
          refine wR_cv rfl rfl quB_e hm16 rfl (h_ssCB hm16 (by have q9 : (3 : Int32).toInt = 3 := rfl; have q8 : (7 : Int32).toInt = 7 := rfl; omega) (by omega)) ?_
          rintro _ m21 ⟨rfl, hI21, k22⟩
          show yR zpg tX9_takesSize (d + 4) (75, [(1, .int (gi m6 27 8)), (0, .ref 26)], [], m21) _
          refine yR_m 1 (fun _ _ _ _ => rfl) ?_
          exact yR_rz rfl ⟨by decide, by decide⟩ (h3 v3 q4 m1 hm1 k2 q5 v8 q9 m6 hm6 k7 q10 v13 q14 m11 hm11 k12 q15 v18 q19 m16 hm16 k17 q20 m21 hI21 k22 hI21)
        ·
          refine yR_m 1 (fun _ _ _ _ => rfl) ?_
          exact yR_rz rfl ⟨by decide, by decide⟩ (h4 v3 q4 m1 hm1 k2 q5 v8 q9 m6 hm6 k7 q10 v13 q14 m11 hm11 k12 q15 v18 q19 m16 hm16 k17 q20 hm16)
    ·
      refine yR_m 1 (fun _ _ _ _ => rfl) ?_
      exact yR_rz rfl ⟨by decide, by decide⟩ (h5 v3 q4 m1 hm1 k2 q5 v8 q9 m6 hm6 k7 q10 hm6)

theorem h_tzCB {a0 b0 : Int} (hm : aTm aT0 mem) (ht : zfl mem 26 2 = some (.ref 14)) (hR : cRd T n p mem) (hQ : cQ 14 15 16 19 20 21 24 25 (a0, b0, [], [], [], [], [], [], 3, 0, []) mem) (hs : (gi mem 22 3).toInt ≤ p) (hd : 5 ≤ d) : yC zpg d 87 [.ref 26] mem (fun a m => ∃ (v : Int32) (q : Int), a = some (.int v) ∧ aTm aT0 m ∧ (zfl m 26 2 = some (.ref 14) ∧ zo 14 m = zo 14 mem) ∧ ((v.toInt = 1 ∧ (∃ x, sSiz T n p = some (x, q) ∧ ((3 ≤ x.1 ∧ x.1 ≤ 7) ∧ 3 ≤ x.2 ∧ x.2 ≤ 7) ∧ cQ 14 15 16 19 20 21 24 25 (x.1, x.2, [], [], [], [], [], [], 3, 0, []) m) ∧ cRd T n q m ∧ (gi m 22 3).toInt ≤ q) ∨ (v.toInt = 0 ∧ sSiz T n p = none))) := by
  obtain ⟨d, rfl⟩ : ∃ q, d = q + 5 := ⟨d - 5, by omega⟩
  refine yC_of (t := tX9_takesSize) rfl rfl ?_
  exact w_tzB (T := T) (n := n) (p := p) (Q := (a0, b0, [], [], [], [], [], [], 3, 0, [])) hm ht hR
        (fun v3 q4 m1 hm1 k2 q5 hm2 => ⟨_, p, rfl, hm2, ⟨((k6_26 (k6_fo k2.1 rfl) (by decide)).trans ht), (zo_k6 (k6_fo k2.1 rfl))⟩, Or.inr ⟨rfl, (ob_0 (ow_0 k2 (by omega)))⟩⟩)
        (fun v3 q4 m1 hm1 k2 q5 v8 q9 m6 hm6 k7 q10 v13 q14 m11 hm11 k12 q15 hm2 => ⟨_, p, rfl, hm2, ⟨((k6_26 (k6_fo k12.1 rfl) (by decide)).trans ((k6_26 (k6_fo k7.1 rfl) (by decide)).trans ((k6_26 (k6_fo k2.1 rfl) (by decide)).trans ht))), ((zo_k6 (k6_fo k12.1 rfl)).trans ((zo_k6 (k6_fo k7.1 rfl)).trans (zo_k6 (k6_fo k2.1 rfl))))⟩, Or.inr ⟨rfl, ((ob_1 (ow_1 k2 (by omega)).1).trans ((ob_1 (nu_1 k7 (by omega)).1.1).trans (ob_0 (ow_0 k12 (by omega)))))⟩⟩)
        (fun v3 q4 m1 hm1 k2 q5 v8 q9 m6 hm6 k7 q10 v13 q14 m11 hm11 k12 q15 v18 q19 m16 hm16 k17 q20 m21 hI21 k22 hm2 => by
          have y0 := (tk_le hR).1
          have z1 := p_owH hR k2 (by omega)
          have z2 := p_nuH (ow_1 k2 (by omega)).2 k7 (by omega)
          have z3 := p_owH (nu_1 k7 (by omega)).2 k12 (by omega)
          have z4 := p_nuH (ow_1 k12 (by omega)).2 k17 (by omega)
          have u1 := nu_1 k7 (by omega)
          have u2 := nu_1 k17 (by omega)
          exact ⟨_, _, rfl, hm2, ⟨(zfl_ea (k22.1.1 26 (by decide) rfl)).trans ((k6_26 (k6_fo k17.1 rfl) (by decide)).trans ((k6_26 (k6_fo k12.1 rfl) (by decide)).trans ((k6_26 (k6_fo k7.1 rfl) (by decide)).trans ((k6_26 (k6_fo k2.1 rfl) (by decide)).trans ht)))), (zo_fo (by decide) k22.1).trans ((zo_k6 (k6_fo k17.1 rfl)).trans ((zo_k6 (k6_fo k12.1 rfl)).trans ((zo_k6 (k6_fo k7.1 rfl)).trans (zo_k6 (k6_fo k2.1 rfl)))))⟩, Or.inl ⟨rfl, ⟨_, ((ob_1 (ow_1 k2 (by omega)).1).trans ((ob_1 (nu_1 k7 (by omega)).1.1).trans ((ob_1 (ow_1 k12 (by omega)).1).trans (om_1 (nu_1 k17 (by omega)).1.1)))), ⟨⟨u1.1.2.1, u1.1.2.2⟩, u2.1.2.1, u2.1.2.2⟩, cQ_sizB k22.1 k22.2.1 k22.2.2.1 k22.2.2.2 (cQ_k6B (k6_tr (k6_tr (k6_tr (k6_tr k6_rf (k6_fo k2.1 rfl)) (k6_fo k7.1 rfl)) (k6_fo k12.1 rfl)) (k6_fo k17.1 rfl)) hQ)⟩, cRd_z (k22.1.1 27 (by decide) rfl) (k22.1.1 28 (by decide) rfl) (k22.1.1 1 (by decide) rfl) (nu_1 k17 (by omega)).2, by rw [gi_zq (k22.1.1 22 (by decide) rfl), ((k6_gi (by decide) (k6_fo k17.1 rfl)).trans ((k6_gi (by decide) (k6_fo k12.1 rfl)).trans ((k6_gi (by decide) (k6_fo k7.1 rfl)).trans (k6_gi (by decide) (k6_fo k2.1 rfl)))))]; omega⟩⟩)
        (fun v3 q4 m1 hm1 k2 q5 v8 q9 m6 hm6 k7 q10 v13 q14 m11 hm11 k12 q15 v18 q19 m16 hm16 k17 q20 hm2 => ⟨_, p, rfl, hm2, ⟨((k6_26 (k6_fo k17.1 rfl) (by decide)).trans ((k6_26 (k6_fo k12.1 rfl) (by decide)).trans ((k6_26 (k6_fo k7.1 rfl) (by decide)).trans ((k6_26 (k6_fo k2.1 rfl) (by decide)).trans ht)))), ((zo_k6 (k6_fo k17.1 rfl)).trans ((zo_k6 (k6_fo k12.1 rfl)).trans ((zo_k6 (k6_fo k7.1 rfl)).trans (zo_k6 (k6_fo k2.1 rfl)))))⟩, Or.inr ⟨rfl, ((ob_1 (ow_1 k2 (by omega)).1).trans ((ob_1 (nu_1 k7 (by omega)).1.1).trans ((ob_1 (ow_1 k12 (by omega)).1).trans (om_0 (nu_0 k17 (by omega))))))⟩⟩)
        (fun v3 q4 m1 hm1 k2 q5 v8 q9 m6 hm6 k7 q10 hm2 => ⟨_, p, rfl, hm2, ⟨((k6_26 (k6_fo k7.1 rfl) (by decide)).trans ((k6_26 (k6_fo k2.1 rfl) (by decide)).trans ht)), ((zo_k6 (k6_fo k7.1 rfl)).trans (zo_k6 (k6_fo k2.1 rfl)))⟩, Or.inr ⟨rfl, ((ob_1 (ow_1 k2 (by omega)).1).trans (ob_0 (nu_0 k7 (by omega))))⟩⟩)
end CZ
