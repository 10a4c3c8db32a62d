/-! acts: the model -/
section ACM
variable {d : Nat} {mem m : zM} {Q : Qd} {S : Sd} {K : Kd} {P0 : Pd} {hu : Int → Int}
theorem md_B {m m' : zM} (ho : onl [221] m m') (hz : ∀ i, ¬ i = 56 → zfl m' 221 i = zfl m 221 i) (hM : mB Q m) : mB Q m' := mB_zat (by unfold gi; rw [hz 13 (by decide)]) (by unfold gi; rw [hz 46 (by decide)]) (fun k h1 h2 => ho k (by
  cases hc : [221].contains k with
  | false => rfl
  | true =>
    have z := List.mem_singleton.1 (List.contains_iff_mem.1 hc)
    omega)) hM
theorem nn_21 {m m' : zM} {k : Nat} (ho : onl [221] m m') (hk : ¬ k = 221) : zat m' k = zat m k := ho k (by
  cases hc : [221].contains k with
  | false => rfl
  | true =>
    have z := List.mem_singleton.1 (List.contains_iff_mem.1 hc)
    exact absurd z hk)
theorem kp_B {m m' : zM} (ho : onl [221, 249, 250, 251, 252, 253, 254] m m') (hz : ∀ i, ¬ i = 54 → ¬ i = 55 → zfl m' 221 i = zfl m 221 i) (hM : mB Q m) : mB Q m' := mB_zat (by unfold gi; rw [hz 13 (by decide) (by decide)]) (by unfold gi; rw [hz 46 (by decide) (by decide)]) (fun k h1 h2 => ho k (by
  cases hc : [221, 249, 250, 251, 252, 253, 254].contains k with
  | false => rfl
  | true =>
    have z := List.contains_iff_mem.1 hc
    simp at z
    omega)) hM
theorem onl_lt {ks : List Nat} {m m' : zM} {b : Nat} (hk : ks.all (fun k => decide (b ≤ k)) = true) (ho : onl ks m m') : ∀ k, k < b → zat m' k = zat m k := fun k hb => ho k (by
  cases hc : ks.contains k with
  | false => rfl
  | true =>
    have z := of_decide_eq_true (List.all_eq_true.1 hk k (List.contains_iff_mem.1 hc))
    omega)
theorem rg_l {P1 : Pd} {a b : zM} (hW : WQ Q) (hz : ∀ i, i = 54 ∨ i = 55 → zfl b 221 i = zfl a 221 i) (O : oLl 0 a b) (e5 : ga b 255 = ga a 255) (hP : rgM Q hu P1 a) : rgM Q hu P1 b := by
  have e54 : gi b 221 54 = gi a 221 54 := by
    unfold gi
    rw [hz 54 (Or.inl rfl)]
  have e55 : gi b 221 55 = gi a 221 55 := by
    unfold gi
    rw [hz 55 (Or.inr rfl)]
  unfold rgM at hP ⊢
  rw [e54, e55]
  refine ⟨hP.1, hP.2.1, fun k k0 k1 => ?_⟩
  obtain ⟨a1, a2⟩ := hP.2.2 k k0 k1
  exact ⟨tM_l hW (by omega) (by omega) O e5 a1, kM_l (by omega) (by omega) (by omega) O a2⟩
theorem q46 (hM : mB Q mem) : ((gi mem 221 46).toInt = 0 ∧ Qc Q = 0) ∨ ((gi mem 221 46).toInt = 1 ∧ 3 ≤ Qc Q) := by
  rcases hM.2 with ⟨u, v⟩ | ⟨u, v⟩
  · exact Or.inr ⟨u, v.1.1⟩
  · exact Or.inl ⟨u, v⟩
set_option maxRecDepth 100000 in
theorem w_mn0 {d : Nat} {mem : zM} {P : Option Value → zM → Prop} {n : Int32} {lo : List (Nat × Value)} (hm : aTm aT0 mem) (l_0 : zlg lo 0 = some (.ref 221)) (l_1 : zlg lo 1 = some (.int n)) {Q : Qd} {S : Sd} {K : Kd} {P0 : Pd} {hu : Int → Int} (hM : mB Q mem) (hW : WQ Q) (hS : tM 0 Q hu S mem) (hs : wS Q S) (hK : kM 0 K mem) (hP : rgM Q hu P0 mem) (h1 : (gi mem 221 46).toInt = 0 → ∀ (y2 : Int32), y2.toInt = (gn (ga mem 248) 2) → aTm aT0 (sx mem 248 2 (y2 + 1)) → P (some (.int (-1))) (sx mem 248 2 (y2 + 1))) (h2 : ¬ (gi mem 221 46).toInt = 0 → (n).toInt < 1 → ∀ (y5 : Int32), y5.toInt = (gn (ga mem 248) 2) → aTm aT0 (sx mem 248 2 (y5 + 1)) → P (some (.int (-1))) (sx mem 248 2 (y5 + 1))) (h3 : ¬ (gi mem 221 46).toInt = 0 → 1 ≤ (n).toInt → 40 < (n).toInt → ∀ (y8 : Int32), y8.toInt = (gn (ga mem 248) 2) → aTm aT0 (sx mem 248 2 (y8 + 1)) → P (some (.int (-1))) (sx mem 248 2 (y8 + 1))) (h4 : ¬ (gi mem 221 46).toInt = 0 → 1 ≤ (n).toInt → (n).toInt ≤ 40 → ∀ (y10 : Int32), y10.toInt = (gn (ga mem 249) 0) → ∀ (x12 : Int32), x12.toInt = (999 - (n).toInt) → (999 - (n).toInt) < (gn (ga mem 249) 0) → ∀ (y15 : Int32), y15.toInt = (gn (ga mem 248) 2) → aTm aT0 (sx mem 248 2 (y15 + 1)) → P (some (.int (-1))) (sx mem 248 2 (y15 + 1))) (h5 : ¬ (gi mem 221 46).toInt = 0 → 1 ≤ (n).toInt → (n).toInt ≤ 40 → ∀ (y10 : Int32), y10.toInt = (gn (ga mem 249) 0) → ∀ (x12 : Int32), x12.toInt = (999 - (n).toInt) → (gn (ga mem 249) 0) ≤ (999 - (n).toInt) → ∀ (m17 : zM), aTm aT0 m17 → (onl [221, 249, 250, 251, 252, 253, 254] mem m17 ∧ (∀ i, ¬ i = 54 → ¬ i = 55 → zfl m17 221 i = zfl mem 221 i) ∧ tM 0 Q hu S m17 ∧ kM 0 K m17 ∧ rgM Q hu (pdN P0 (S, K)) m17) → ∀ lo, zlg lo 0 = some (.ref 221) → zlg lo 1 = some (.int n) → zlg lo 2 = some (.int 0) → zlg lo 3 = some (.int 0) → aTm aT0 m17 → yR zpg tX12_nights (d + 14) (25, lo, [], m17) P) : yR zpg tX12_nights (d + 14) (0, lo, [], mem) P := by
  have s0 := hS.1.1
  have s9 := hs.1
  have rb := mO_r13 hm
  refine wR_la rfl l_0 ?_
  refine wR_li rfl l_1 ?_
  refine yR_m 2 (fun _ _ _ _ => rfl) ?_
  refine wR_iv rfl rfl mO_e hm rfl rfl rfl rfl ?_
  show yR zpg tX12_isAhead (d + 13) (0, [(0, .ref 221), (1, .int n), (2, .int 1), (3, .int 40)], [], mem) _
  refine yR_m 1 (fun _ _ _ _ => rfl) ?_
  refine wR_gi rfl mO_e mO_46 hm rfl ?_
  refine wR_if_eq rfl (a := (gi mem 221 46).toInt) rfl (fun q1 => ?_) (fun q1 => ?_)
  ·
    refine yR_m 1 (fun _ _ _ _ => rfl) ?_
    refine yR_rz rfl ⟨by decide, by decide⟩ ?_
    show yR zpg tX12_nights (d + 14) (8, lo, [.int 0], mem) _
    refine wR_if_ne rfl (a := 0) rfl (fun q => by exfalso; omega) (fun _ => ?_)
    refine wR_la rfl l_0 ?_
    refine yR_m 1 (fun _ _ _ _ => rfl) ?_
    refine wR_iv rfl rfl mO_e hm rfl rfl rfl rfl ?_
    show yR zpg tX12_refuses (d + 13) (0, [(0, .ref 221), (1, .int 2)], [], mem) _
    refine yR_m 1 (fun _ _ _ _ => rfl) ?_
    refine wR_gr rfl mO_e mO_47 hm ?_
    refine yR_m 2 (fun _ _ _ _ => rfl) ?_
    refine wN_al (a := 2) rfl aR_248 hm rfl rfl (by decide) (fun y2 e3 => ?_)
    refine yR_m 2 (fun _ _ _ _ => rfl) ?_
    refine wN_as (a := 2) rfl aR_248 hm rfl (by decide) ?_
    have hm_1 : aTm aT0 (sx mem 248 2 (y2 + 1)) := tm_sa aR_248 hm (i32_b _)
    refine yR_m 1 (fun _ _ _ _ => rfl) ?_
    refine yR_ri rfl ?_
    show yR zpg tX12_nights (d + 14) (16, lo, [.int (-1)], (sx mem 248 2 (y2 + 1))) _
    exact yR_ri rfl (h1 q1 y2 e3 hm_1)
  ·
    refine yR_m 3 (fun _ _ _ _ => rfl) ?_
    refine wR_is rfl rfl rfl rfl rfl rfl ?_
    show yR zpg tX12_is (d + 12) (0, [(0, .int n), (1, .int 1), (2, .int 40)], [], mem) _
    refine yR_m 2 (fun _ _ _ _ => rfl) ?_
    refine wR_ic_lt rfl (a := (n).toInt) (c := 1) rfl rfl (fun q4 => ?_) (fun q4 => ?_)
    ·
      refine yR_m 1 (fun _ _ _ _ => rfl) ?_
      refine yR_rz rfl ⟨by decide, by decide⟩ ?_
      show yR zpg tX12_isAhead (d + 13) (13, [(0, .ref 221), (1, .int n), (2, .int 1), (3, .int 40)], [.int 0], mem) _
      refine wR_if_eq rfl (a := 0) rfl (fun _ => ?_) (fun q => by exfalso; omega)
      refine yR_m 1 (fun _ _ _ _ => rfl) ?_
      refine yR_rz rfl ⟨by decide, by decide⟩ ?_
      show yR zpg tX12_nights (d + 14) (8, lo, [.int 0], mem) _
      refine wR_if_ne rfl (a := 0) rfl (fun q => by exfalso; omega) (fun _ => ?_)
      refine wR_la rfl l_0 ?_
      refine yR_m 1 (fun _ _ _ _ => rfl) ?_
      refine wR_iv rfl rfl mO_e hm rfl rfl rfl rfl ?_
      show yR zpg tX12_refuses (d + 13) (0, [(0, .ref 221), (1, .int 2)], [], mem) _
      refine yR_m 1 (fun _ _ _ _ => rfl) ?_
      refine wR_gr rfl mO_e mO_47 hm ?_
      refine yR_m 2 (fun _ _ _ _ => rfl) ?_
      refine wN_al (a := 2) rfl aR_248 hm rfl rfl (by decide) (fun y5 e6 => ?_)
      refine yR_m 2 (fun _ _ _ _ => rfl) ?_
      refine wN_as (a := 2) rfl aR_248 hm rfl (by decide) ?_
      have hm_2 : aTm aT0 (sx mem 248 2 (y5 + 1)) := tm_sa aR_248 hm (i32_b _)
      refine yR_m 1 (fun _ _ _ _ => rfl) ?_
      refine yR_ri rfl ?_
      show yR zpg tX12_nights (d + 14) (16, lo, [.int (-1)], (sx mem 248 2 (y5 + 1))) _
      exact yR_ri rfl (h2 q1 q4 y5 e6 hm_2)
    ·
      refine yR_m 2 (fun _ _ _ _ => rfl) ?_
      refine wR_ic_gt rfl (a := (n).toInt) (c := 40) rfl rfl (fun q7 => ?_) (fun q7 => ?_)
      ·
        refine yR_m 1 (fun _ _ _ _ => rfl) ?_
        refine yR_rz rfl ⟨by decide, by decide⟩ ?_
        show yR zpg tX12_isAhead (d + 13) (13, [(0, .ref 221), (1, .int n), (2, .int 1), (3, .int 40)], [.int 0], mem) _
        refine wR_if_eq rfl (a := 0) rfl (fun _ => ?_) (fun q => by exfalso; omega)
        refine yR_m 1 (fun _ _ _ _ => rfl) ?_
        refine yR_rz rfl ⟨by decide, by decide⟩ ?_
        show yR zpg tX12_nights (d + 14) (8, lo, [.int 0], mem) _
        refine wR_if_ne rfl (a := 0) rfl (fun q => by exfalso; omega) (fun _ => ?_)
        refine wR_la rfl l_0 ?_
        refine yR_m 1 (fun _ _ _ _ => rfl) ?_
        refine wR_iv rfl rfl mO_e hm rfl rfl rfl rfl ?_
        show yR zpg tX12_refuses (d + 13) (0, [(0, .ref 221), (1, .int 2)], [], mem) _
        refine yR_m 1 (fun _ _ _ _ => rfl) ?_
        refine wR_gr rfl mO_e mO_47 hm ?_
        refine yR_m 2 (fun _ _ _ _ => rfl) ?_
        refine wN_al (a := 2) rfl aR_248 hm rfl rfl (by decide) (fun y8 e9 => ?_)
        refine yR_m 2 (fun _ _ _ _ => rfl) ?_
        refine wN_as (a := 2) rfl aR_248 hm rfl (by decide) ?_
        have hm_3 : aTm aT0 (sx mem 248 2 (y8 + 1)) := tm_sa aR_248 hm (i32_b _)
        refine yR_m 1 (fun _ _ _ _ => rfl) ?_
        refine yR_ri rfl ?_
        show yR zpg tX12_nights (d + 14) (16, lo, [.int (-1)], (sx mem 248 2 (y8 + 1))) _
        exact yR_ri rfl (h3 q1 q4 q7 y8 e9 hm_3)
      ·
        refine yR_m 2 (fun _ _ _ _ => rfl) ?_
        refine yR_rz rfl ⟨by decide, by decide⟩ ?_
        show yR zpg tX12_isAhead (d + 13) (13, [(0, .ref 221), (1, .int n), (2, .int 1), (3, .int 40)], [.int 1], mem) _
        refine wR_if_eq rfl (a := 1) rfl (fun q => by exfalso; omega) (fun _ => ?_)
        refine yR_m 1 (fun _ _ _ _ => rfl) ?_
        refine wR_gr rfl mO_e mO_48 hm ?_
        refine yR_m 1 (fun _ _ _ _ => rfl) ?_
        refine wN_al (a := 0) rfl aR_249 hm rfl rfl (by decide) (fun y10 e11 => ?_)
        refine yR_m 2 (fun _ _ _ _ => rfl) ?_
        refine wN_sub (a := 999) (b := (n).toInt) rfl rfl rfl (by omega) (fun x12 e13 => ?_)
        refine wR_ic_gt rfl (a := (gn (ga mem 249) 0)) (c := (999 - (n).toInt)) e11 e13 (fun q14 => ?_) (fun q14 => ?_)
        ·
          refine yR_m 1 (fun _ _ _ _ => rfl) ?_
          refine yR_rz rfl ⟨by decide, by decide⟩ ?_
          show yR zpg tX12_nights (d + 14) (8, lo, [.int 0], mem) _
          refine wR_if_ne rfl (a := 0) rfl (fun q => by exfalso; omega) (fun _ => ?_)
          refine wR_la rfl l_0 ?_
          refine yR_m 1 (fun _ _ _ _ => rfl) ?_
          refine wR_iv rfl rfl mO_e hm rfl rfl rfl rfl ?_
          show yR zpg tX12_refuses (d + 13) (0, [(0, .ref 221), (1, .int 2)], [], mem) _
          refine yR_m 1 (fun _ _ _ _ => rfl) ?_
          refine wR_gr rfl mO_e mO_47 hm ?_
          refine yR_m 2 (fun _ _ _ _ => rfl) ?_
          refine wN_al (a := 2) rfl aR_248 hm rfl rfl (by decide) (fun y15 e16 => ?_)
          refine yR_m 2 (fun _ _ _ _ => rfl) ?_
          refine wN_as (a := 2) rfl aR_248 hm rfl (by decide) ?_
          have hm_4 : aTm aT0 (sx mem 248 2 (y15 + 1)) := tm_sa aR_248 hm (i32_b _)
          refine yR_m 1 (fun _ _ _ _ => rfl) ?_
          refine yR_ri rfl ?_
          show yR zpg tX12_nights (d + 14) (16, lo, [.int (-1)], (sx mem 248 2 (y15 + 1))) _
          exact yR_ri rfl (h4 q1 q4 q7 y10 e11 x12 e13 q14 y15 e16 hm_4)
        ·
          refine yR_m 2 (fun _ _ _ _ => rfl) ?_
          refine yR_rz rfl ⟨by decide, by decide⟩ ?_
          show yR zpg tX12_nights (d + 14) (8, lo, [.int 1], mem) _
          refine wR_if_ne rfl (a := 1) rfl (fun _ => ?_) (fun q => by exfalso; omega)
          refine wR_la rfl l_0 ?_
          refine wR_cv rfl rfl mO_e hm rfl (h_kp (Q := Q) (hu := hu) (S := S) (K := K) (P := P0) hm hW hS hK hP (by omega)) ?_
          rintro _ m17 ⟨rfl, hm17, k18⟩
          show yR zpg tX12_nights (d + 14) (21, lo, [], m17) _
          refine yR_m 1 (fun _ _ _ _ => rfl) ?_
          refine wR_si rfl rfl (fun lo19 e20 f21 => ?_)
          have lo19_0 := f21 0 _ (by decide) (Or.inl rfl) l_0
          have lo19_1 := f21 1 _ (by decide) (Or.inl rfl) l_1
          refine yR_m 1 (fun _ _ _ _ => rfl) ?_
          refine wR_si rfl rfl (fun lo22 e23 f24 => ?_)
          have lo22_2 := f24 2 _ (by decide) (Or.inl rfl) e20
          have lo22_0 := f24 0 _ (by decide) (Or.inl rfl) lo19_0
          have lo22_1 := f24 1 _ (by decide) (Or.inl rfl) lo19_1
          exact h5 q1 q4 q7 y10 e11 x12 e13 q14 m17 hm17 k18 lo22 lo22_0 lo22_1 lo22_2 e23 hm17

set_option maxRecDepth 100000 in
theorem w_mn25 {d : Nat} {mem : zM} {P : Option Value → zM → Prop} {n fo k : Int32} {lo : List (Nat × Value)} (hm : aTm aT0 mem) (l_0 : zlg lo 0 = some (.ref 221)) (l_1 : zlg lo 1 = some (.int n)) (l_2 : zlg lo 2 = some (.int fo)) (l_3 : zlg lo 3 = some (.int k)) {Q : Qd} {S : Sd} {K : Kd} {hu : Int → Int} (hM : mB Q mem) (hW : WQ Q) (hS : tM 0 Q hu S mem) (hs : (k).toInt < (n).toInt → wS Q S) (hH : wH Q hu) (hK : kM 0 K mem) (hf : 0 ≤ fo.toInt ∧ fo.toInt ≤ 400) (hk : 0 ≤ k.toInt ∧ k.toInt ≤ 40) (n40 : n.toInt ≤ 40) (h1 : (n).toInt ≤ (k).toInt → aTm aT0 mem → P (some (.int fo)) mem) (s1 : (k).toInt < (n).toInt → ∀ (v4 : Int32) (m2 : zM), aTm aT0 m2 → (onl [249, 250, 251, 252, 253, 254, 256, 257, 258, 259, 260] mem m2 ∧ tM 0 Q hu (tkS Q hu ((-1) : Int32).toInt S) m2 ∧ kM 0 (tkK Q hu ((-1) : Int32).toInt S K) m2 ∧ oLl 0 mem m2 ∧ v4.toInt = fdN Q hu ((-1) : Int32).toInt S) → (-2147483648 : Int) ≤ ((fo).toInt + (v4).toInt) ∧ ((fo).toInt + (v4).toInt) ≤ 2147483647) (h2 : (k).toInt < (n).toInt → ∀ (v4 : Int32) (m2 : zM), aTm aT0 m2 → (onl [249, 250, 251, 252, 253, 254, 256, 257, 258, 259, 260] mem m2 ∧ tM 0 Q hu (tkS Q hu ((-1) : Int32).toInt S) m2 ∧ kM 0 (tkK Q hu ((-1) : Int32).toInt S K) m2 ∧ oLl 0 mem m2 ∧ v4.toInt = fdN Q hu ((-1) : Int32).toInt S) → ∀ (x5 : Int32), x5.toInt = ((fo).toInt + (v4).toInt) → ∀ (x10 : Int32), x10.toInt = ((k).toInt + 1) → ∀ lo, zlg lo 0 = some (.ref 221) → zlg lo 1 = some (.int n) → zlg lo 2 = some (.int x5) → zlg lo 3 = some (.int x10) → aTm aT0 m2 → yR zpg tX12_nights (d + 14) (25, lo, [], m2) P) : yR zpg tX12_nights (d + 14) (25, lo, [], mem) P := by
  refine wR_li rfl l_3 ?_
  refine wR_li rfl l_1 ?_
  refine wR_ic_ge rfl (a := (k).toInt) (c := (n).toInt) rfl rfl (fun q1 => ?_) (fun q1 => ?_)
  ·
    refine wR_li rfl l_2 ?_
    exact yR_ri rfl (h1 q1 hm)
  ·
    refine wR_li rfl l_2 ?_
    refine wR_la rfl l_0 ?_
    refine yR_m 2 (fun _ _ _ _ => rfl) ?_
    refine wR_cv rfl rfl mO_e hm rfl (h_tk (v := 0) (Q := Q) (S := S) (K := K) (hu := hu) hm hM hW hS (hs q1) hH hK (by decide) (by omega)) ?_
    rintro _ m2 ⟨v4, rfl, hm2, k3⟩
    show yR zpg tX12_nights (d + 14) (37, lo, [.int v4, .int fo], m2) _
    refine wN_add (a := (fo).toInt) (b := (v4).toInt) rfl rfl rfl (s1 q1 v4 m2 hm2 k3) (fun x5 e6 => ?_)
    refine wR_si rfl rfl (fun lo7 e8 f9 => ?_)
    have lo7_0 := f9 0 _ (by decide) (Or.inl rfl) l_0
    have lo7_1 := f9 1 _ (by decide) (Or.inl rfl) l_1
    have lo7_3 := f9 3 _ (by decide) (Or.inl rfl) l_3
    refine wN_in (a := (k).toInt) (b := 1) rfl rfl lo7_3 rfl rfl (by omega) (fun x10 e11 => fun lo12 e13 f14 => ?_)
    have lo12_2 := f14 2 _ (by decide) (Or.inl rfl) e8
    have lo12_0 := f14 0 _ (by decide) (Or.inl rfl) lo7_0
    have lo12_1 := f14 1 _ (by decide) (Or.inl rfl) lo7_1
    exact yR_m 1 (fun _ _ _ _ => rfl) (h2 q1 v4 m2 hm2 k3 x5 e6 x10 e11 lo12 lo12_0 lo12_1 lo12_2 e13 hm2)

set_option maxRecDepth 100000 in
theorem w_mc0 {d : Nat} {mem : zM} {P : Option Value → zM → Prop} {n : Int32} {lo : List (Nat × Value)} (hm : aTm aT0 mem) (l_0 : zlg lo 0 = some (.ref 221)) (l_1 : zlg lo 1 = some (.int n)) {Q : Qd} {S : Sd} {K : Kd} {P0 : Pd} {hu : Int → Int} (hM : mB Q mem) (hW : WQ Q) (hS : tM 0 Q hu S mem) (hs : wS Q S) (hK : kM 0 K mem) (hP : rgM Q hu P0 mem) (h1 : (gi mem 221 46).toInt = 0 → ∀ (y2 : Int32), y2.toInt = (gn (ga mem 248) 2) → aTm aT0 (sx mem 248 2 (y2 + 1)) → P (some (.int (-1))) (sx mem 248 2 (y2 + 1))) (h2 : ¬ (gi mem 221 46).toInt = 0 → (n).toInt < 1 → ∀ (y5 : Int32), y5.toInt = (gn (ga mem 248) 2) → aTm aT0 (sx mem 248 2 (y5 + 1)) → P (some (.int (-1))) (sx mem 248 2 (y5 + 1))) (h3 : ¬ (gi mem 221 46).toInt = 0 → 1 ≤ (n).toInt → 40 < (n).toInt → ∀ (y8 : Int32), y8.toInt = (gn (ga mem 248) 2) → aTm aT0 (sx mem 248 2 (y8 + 1)) → P (some (.int (-1))) (sx mem 248 2 (y8 + 1))) (h4 : ¬ (gi mem 221 46).toInt = 0 → 1 ≤ (n).toInt → (n).toInt ≤ 40 → ∀ (y10 : Int32), y10.toInt = (gn (ga mem 249) 0) → ∀ (x12 : Int32), x12.toInt = (999 - (n).toInt) → (999 - (n).toInt) < (gn (ga mem 249) 0) → ∀ (y15 : Int32), y15.toInt = (gn (ga mem 248) 2) → aTm aT0 (sx mem 248 2 (y15 + 1)) → P (some (.int (-1))) (sx mem 248 2 (y15 + 1))) (h5 : ¬ (gi mem 221 46).toInt = 0 → 1 ≤ (n).toInt → (n).toInt ≤ 40 → ∀ (y10 : Int32), y10.toInt = (gn (ga mem 249) 0) → ∀ (x12 : Int32), x12.toInt = (999 - (n).toInt) → (gn (ga mem 249) 0) ≤ (999 - (n).toInt) → ∀ (m17 : zM), aTm aT0 m17 → (onl [221, 249, 250, 251, 252, 253, 254] mem m17 ∧ (∀ i, ¬ i = 54 → ¬ i = 55 → zfl m17 221 i = zfl mem 221 i) ∧ tM 0 Q hu S m17 ∧ kM 0 K m17 ∧ rgM Q hu (pdN P0 (S, K)) m17) → ∀ lo, zlg lo 0 = some (.ref 221) → zlg lo 1 = some (.int n) → zlg lo 2 = some (.int 0) → zlg lo 3 = some (.int 0) → aTm aT0 m17 → yR zpg tX12_chance (d + 14) (25, lo, [], m17) P) : yR zpg tX12_chance (d + 14) (0, lo, [], mem) P := by
  have s0 := hS.1.1
  have s9 := hs.1
  have rb := mO_r13 hm
  refine wR_la rfl l_0 ?_
  refine wR_li rfl l_1 ?_
  refine yR_m 2 (fun _ _ _ _ => rfl) ?_
  refine wR_iv rfl rfl mO_e hm rfl rfl rfl rfl ?_
  show yR zpg tX12_isAhead (d + 13) (0, [(0, .ref 221), (1, .int n), (2, .int 1), (3, .int 40)], [], mem) _
  refine yR_m 1 (fun _ _ _ _ => rfl) ?_
  refine wR_gi rfl mO_e mO_46 hm rfl ?_
  refine wR_if_eq rfl (a := (gi mem 221 46).toInt) rfl (fun q1 => ?_) (fun q1 => ?_)
  ·
    refine yR_m 1 (fun _ _ _ _ => rfl) ?_
    refine yR_rz rfl ⟨by decide, by decide⟩ ?_
    show yR zpg tX12_chance (d + 14) (8, lo, [.int 0], mem) _
    refine wR_if_ne rfl (a := 0) rfl (fun q => by exfalso; omega) (fun _ => ?_)
    refine wR_la rfl l_0 ?_
    refine yR_m 1 (fun _ _ _ _ => rfl) ?_
    refine wR_iv rfl rfl mO_e hm rfl rfl rfl rfl ?_
    show yR zpg tX12_refuses (d + 13) (0, [(0, .ref 221), (1, .int 2)], [], mem) _
    refine yR_m 1 (fun _ _ _ _ => rfl) ?_
    refine wR_gr rfl mO_e mO_47 hm ?_
    refine yR_m 2 (fun _ _ _ _ => rfl) ?_
    refine wN_al (a := 2) rfl aR_248 hm rfl rfl (by decide) (fun y2 e3 => ?_)
    refine yR_m 2 (fun _ _ _ _ => rfl) ?_
    refine wN_as (a := 2) rfl aR_248 hm rfl (by decide) ?_
    have hm_1 : aTm aT0 (sx mem 248 2 (y2 + 1)) := tm_sa aR_248 hm (i32_b _)
    refine yR_m 1 (fun _ _ _ _ => rfl) ?_
    refine yR_ri rfl ?_
    show yR zpg tX12_chance (d + 14) (16, lo, [.int (-1)], (sx mem 248 2 (y2 + 1))) _
    exact yR_ri rfl (h1 q1 y2 e3 hm_1)
  ·
    refine yR_m 3 (fun _ _ _ _ => rfl) ?_
    refine wR_is rfl rfl rfl rfl rfl rfl ?_
    show yR zpg tX12_is (d + 12) (0, [(0, .int n), (1, .int 1), (2, .int 40)], [], mem) _
    refine yR_m 2 (fun _ _ _ _ => rfl) ?_
    refine wR_ic_lt rfl (a := (n).toInt) (c := 1) rfl rfl (fun q4 => ?_) (fun q4 => ?_)
    ·
      refine yR_m 1 (fun _ _ _ _ => rfl) ?_
      refine yR_rz rfl ⟨by decide, by decide⟩ ?_
      show yR zpg tX12_isAhead (d + 13) (13, [(0, .ref 221), (1, .int n), (2, .int 1), (3, .int 40)], [.int 0], mem) _
      refine wR_if_eq rfl (a := 0) rfl (fun _ => ?_) (fun q => by exfalso; omega)
      refine yR_m 1 (fun _ _ _ _ => rfl) ?_
      refine yR_rz rfl ⟨by decide, by decide⟩ ?_
      show yR zpg tX12_chance (d + 14) (8, lo, [.int 0], mem) _
      refine wR_if_ne rfl (a := 0) rfl (fun q => by exfalso; omega) (fun _ => ?_)
      refine wR_la rfl l_0 ?_
      refine yR_m 1 (fun _ _ _ _ => rfl) ?_
      refine wR_iv rfl rfl mO_e hm rfl rfl rfl rfl ?_
      show yR zpg tX12_refuses (d + 13) (0, [(0, .ref 221), (1, .int 2)], [], mem) _
      refine yR_m 1 (fun _ _ _ _ => rfl) ?_
      refine wR_gr rfl mO_e mO_47 hm ?_
      refine yR_m 2 (fun _ _ _ _ => rfl) ?_
      refine wN_al (a := 2) rfl aR_248 hm rfl rfl (by decide) (fun y5 e6 => ?_)
      refine yR_m 2 (fun _ _ _ _ => rfl) ?_
      refine wN_as (a := 2) rfl aR_248 hm rfl (by decide) ?_
      have hm_2 : aTm aT0 (sx mem 248 2 (y5 + 1)) := tm_sa aR_248 hm (i32_b _)
      refine yR_m 1 (fun _ _ _ _ => rfl) ?_
      refine yR_ri rfl ?_
      show yR zpg tX12_chance (d + 14) (16, lo, [.int (-1)], (sx mem 248 2 (y5 + 1))) _
      exact yR_ri rfl (h2 q1 q4 y5 e6 hm_2)
    ·
      refine yR_m 2 (fun _ _ _ _ => rfl) ?_
      refine wR_ic_gt rfl (a := (n).toInt) (c := 40) rfl rfl (fun q7 => ?_) (fun q7 => ?_)
      ·
        refine yR_m 1 (fun _ _ _ _ => rfl) ?_
        refine yR_rz rfl ⟨by decide, by decide⟩ ?_
        show yR zpg tX12_isAhead (d + 13) (13, [(0, .ref 221), (1, .int n), (2, .int 1), (3, .int 40)], [.int 0], mem) _
        refine wR_if_eq rfl (a := 0) rfl (fun _ => ?_) (fun q => by exfalso; omega)
        refine yR_m 1 (fun _ _ _ _ => rfl) ?_
        refine yR_rz rfl ⟨by decide, by decide⟩ ?_
        show yR zpg tX12_chance (d + 14) (8, lo, [.int 0], mem) _
        refine wR_if_ne rfl (a := 0) rfl (fun q => by exfalso; omega) (fun _ => ?_)
        refine wR_la rfl l_0 ?_
        refine yR_m 1 (fun _ _ _ _ => rfl) ?_
        refine wR_iv rfl rfl mO_e hm rfl rfl rfl rfl ?_
        show yR zpg tX12_refuses (d + 13) (0, [(0, .ref 221), (1, .int 2)], [], mem) _
        refine yR_m 1 (fun _ _ _ _ => rfl) ?_
        refine wR_gr rfl mO_e mO_47 hm ?_
        refine yR_m 2 (fun _ _ _ _ => rfl) ?_
        refine wN_al (a := 2) rfl aR_248 hm rfl rfl (by decide) (fun y8 e9 => ?_)
        refine yR_m 2 (fun _ _ _ _ => rfl) ?_
        refine wN_as (a := 2) rfl aR_248 hm rfl (by decide) ?_
        have hm_3 : aTm aT0 (sx mem 248 2 (y8 + 1)) := tm_sa aR_248 hm (i32_b _)
        refine yR_m 1 (fun _ _ _ _ => rfl) ?_
        refine yR_ri rfl ?_
        show yR zpg tX12_chance (d + 14) (16, lo, [.int (-1)], (sx mem 248 2 (y8 + 1))) _
        exact yR_ri rfl (h3 q1 q4 q7 y8 e9 hm_3)
      ·
        refine yR_m 2 (fun _ _ _ _ => rfl) ?_
        refine yR_rz rfl ⟨by decide, by decide⟩ ?_
        show yR zpg tX12_isAhead (d + 13) (13, [(0, .ref 221), (1, .int n), (2, .int 1), (3, .int 40)], [.int 1], mem) _
        refine wR_if_eq rfl (a := 1) rfl (fun q => by exfalso; omega) (fun _ => ?_)
        refine yR_m 1 (fun _ _ _ _ => rfl) ?_
        refine wR_gr rfl mO_e mO_48 hm ?_
        refine yR_m 1 (fun _ _ _ _ => rfl) ?_
        refine wN_al (a := 0) rfl aR_249 hm rfl rfl (by decide) (fun y10 e11 => ?_)
        refine yR_m 2 (fun _ _ _ _ => rfl) ?_
        refine wN_sub (a := 999) (b := (n).toInt) rfl rfl rfl (by omega) (fun x12 e13 => ?_)
        refine wR_ic_gt rfl (a := (gn (ga mem 249) 0)) (c := (999 - (n).toInt)) e11 e13 (fun q14 => ?_) (fun q14 => ?_)
        ·
          refine yR_m 1 (fun _ _ _ _ => rfl) ?_
          refine yR_rz rfl ⟨by decide, by decide⟩ ?_
          show yR zpg tX12_chance (d + 14) (8, lo, [.int 0], mem) _
          refine wR_if_ne rfl (a := 0) rfl (fun q => by exfalso; omega) (fun _ => ?_)
          refine wR_la rfl l_0 ?_
          refine yR_m 1 (fun _ _ _ _ => rfl) ?_
          refine wR_iv rfl rfl mO_e hm rfl rfl rfl rfl ?_
          show yR zpg tX12_refuses (d + 13) (0, [(0, .ref 221), (1, .int 2)], [], mem) _
          refine yR_m 1 (fun _ _ _ _ => rfl) ?_
          refine wR_gr rfl mO_e mO_47 hm ?_
          refine yR_m 2 (fun _ _ _ _ => rfl) ?_
          refine wN_al (a := 2) rfl aR_248 hm rfl rfl (by decide) (fun y15 e16 => ?_)
          refine yR_m 2 (fun _ _ _ _ => rfl) ?_
          refine wN_as (a := 2) rfl aR_248 hm rfl (by decide) ?_
          have hm_4 : aTm aT0 (sx mem 248 2 (y15 + 1)) := tm_sa aR_248 hm (i32_b _)
          refine yR_m 1 (fun _ _ _ _ => rfl) ?_
          refine yR_ri rfl ?_
          show yR zpg tX12_chance (d + 14) (16, lo, [.int (-1)], (sx mem 248 2 (y15 + 1))) _
          exact yR_ri rfl (h4 q1 q4 q7 y10 e11 x12 e13 q14 y15 e16 hm_4)
        ·
          refine yR_m 2 (fun _ _ _ _ => rfl) ?_
          refine yR_rz rfl ⟨by decide, by decide⟩ ?_
          show yR zpg tX12_chance (d + 14) (8, lo, [.int 1], mem) _
          refine wR_if_ne rfl (a := 1) rfl (fun _ => ?_) (fun q => by exfalso; omega)
          refine wR_la rfl l_0 ?_
          refine wR_cv rfl rfl mO_e hm rfl (h_kp (Q := Q) (hu := hu) (S := S) (K := K) (P := P0) hm hW hS hK hP (by omega)) ?_
          rintro _ m17 ⟨rfl, hm17, k18⟩
          show yR zpg tX12_chance (d + 14) (21, lo, [], m17) _
          refine yR_m 1 (fun _ _ _ _ => rfl) ?_
          refine wR_si rfl rfl (fun lo19 e20 f21 => ?_)
          have lo19_0 := f21 0 _ (by decide) (Or.inl rfl) l_0
          have lo19_1 := f21 1 _ (by decide) (Or.inl rfl) l_1
          refine yR_m 1 (fun _ _ _ _ => rfl) ?_
          refine wR_si rfl rfl (fun lo22 e23 f24 => ?_)
          have lo22_2 := f24 2 _ (by decide) (Or.inl rfl) e20
          have lo22_0 := f24 0 _ (by decide) (Or.inl rfl) lo19_0
          have lo22_1 := f24 1 _ (by decide) (Or.inl rfl) lo19_1
          exact h5 q1 q4 q7 y10 e11 x12 e13 q14 m17 hm17 k18 lo22 lo22_0 lo22_1 lo22_2 e23 hm17

set_option maxRecDepth 100000 in
theorem w_mc25 {d : Nat} {mem : zM} {P : Option Value → zM → Prop} {n fo k : Int32} {lo : List (Nat × Value)} (hm : aTm aT0 mem) (l_0 : zlg lo 0 = some (.ref 221)) (l_1 : zlg lo 1 = some (.int n)) (l_2 : zlg lo 2 = some (.int fo)) (l_3 : zlg lo 3 = some (.int k)) {Q : Qd} {S : Sd} {K : Kd} {hu : Int → Int} (hM : mB Q mem) (hW : WQ Q) (hS : tM 0 Q hu S mem) (hs : (k).toInt < (n).toInt → wS Q S) (hH : wH Q hu) (hK : kM 0 K mem) (hf : 0 ≤ fo.toInt ∧ fo.toInt ≤ 400) (hk : 0 ≤ k.toInt ∧ k.toInt ≤ 40) (n40 : n.toInt ≤ 40) (x0 : 0 ≤ (gL mem 221 56).toInt ∧ (gL mem 221 56).toInt < 2147483648) (h1 : (n).toInt ≤ (k).toInt → aTm aT0 mem → P (some (.int fo)) mem) (h2 : (k).toInt < (n).toInt → ∀ (v4 : Int32) (m2 : zM), aTm aT0 m2 → (onl [221] mem m2 ∧ (∀ i, ¬ i = 56 → zfl m2 221 i = zfl mem 221 i) ∧ (gL m2 221 56).toInt = sdN (gL mem 221 56).toInt ∧ v4.toInt = drw (gL mem 221 56).toInt (100 : Int32).toInt) → ∀ (y5 : Int32), y5.toInt = (gn (ga m2 226) (gi m2 221 13).toInt) → (gn (ga m2 226) (gi m2 221 13).toInt) ≤ (v4).toInt → ∀ (x11 : Int32), x11.toInt = ((fo).toInt + 0) → ∀ (v18 : Int32) (m16 : zM), aTm aT0 m16 → (onl [249, 250, 251, 252, 253, 254, 256, 257, 258, 259, 260] m2 m16 ∧ tM 0 Q hu (tkS Q hu ((-1) : Int32).toInt S) m16 ∧ kM 0 (tkK Q hu ((-1) : Int32).toInt S K) m16 ∧ oLl 0 m2 m16 ∧ v18.toInt = fdN Q hu ((-1) : Int32).toInt S) → ∀ (x19 : Int32), x19.toInt = ((k).toInt + 1) → ∀ lo, zlg lo 0 = some (.ref 221) → zlg lo 1 = some (.int n) → zlg lo 2 = some (.int x11) → zlg lo 3 = some (.int x19) → aTm aT0 m16 → yR zpg tX12_chance (d + 14) (25, lo, [], m16) P) (h3 : (k).toInt < (n).toInt → ∀ (v4 : Int32) (m2 : zM), aTm aT0 m2 → (onl [221] mem m2 ∧ (∀ i, ¬ i = 56 → zfl m2 221 i = zfl mem 221 i) ∧ (gL m2 221 56).toInt = sdN (gL mem 221 56).toInt ∧ v4.toInt = drw (gL mem 221 56).toInt (100 : Int32).toInt) → ∀ (y5 : Int32), y5.toInt = (gn (ga m2 226) (gi m2 221 13).toInt) → (v4).toInt < (gn (ga m2 226) (gi m2 221 13).toInt) → ∀ (y24 : Int32), y24.toInt = (gn (ga m2 228) (gi m2 221 13).toInt) → (gn (ga m2 228) (gi m2 221 13).toInt) ≤ 0 → ∀ (x30 : Int32), x30.toInt = ((fo).toInt + 0) → ∀ (v37 : Int32) (m35 : zM), aTm aT0 m35 → (onl [249, 250, 251, 252, 253, 254, 256, 257, 258, 259, 260] m2 m35 ∧ tM 0 Q hu (tkS Q hu ((-1) : Int32).toInt S) m35 ∧ kM 0 (tkK Q hu ((-1) : Int32).toInt S K) m35 ∧ oLl 0 m2 m35 ∧ v37.toInt = fdN Q hu ((-1) : Int32).toInt S) → ∀ (x38 : Int32), x38.toInt = ((k).toInt + 1) → ∀ lo, zlg lo 0 = some (.ref 221) → zlg lo 1 = some (.int n) → zlg lo 2 = some (.int x30) → zlg lo 3 = some (.int x38) → aTm aT0 m35 → yR zpg tX12_chance (d + 14) (25, lo, [], m35) P) (s1 : (k).toInt < (n).toInt → ∀ (v4 : Int32) (m2 : zM), aTm aT0 m2 → (onl [221] mem m2 ∧ (∀ i, ¬ i = 56 → zfl m2 221 i = zfl mem 221 i) ∧ (gL m2 221 56).toInt = sdN (gL mem 221 56).toInt ∧ v4.toInt = drw (gL mem 221 56).toInt (100 : Int32).toInt) → ∀ (y5 : Int32), y5.toInt = (gn (ga m2 226) (gi m2 221 13).toInt) → (v4).toInt < (gn (ga m2 226) (gi m2 221 13).toInt) → ∀ (y24 : Int32), y24.toInt = (gn (ga m2 228) (gi m2 221 13).toInt) → 0 < (gn (ga m2 228) (gi m2 221 13).toInt) → ∀ (x46 : Int32), x46.toInt = ((fo).toInt + 1) → ∀ (y51 : Int32), y51.toInt = (gn (ga m2 228) (gi m2 221 13).toInt) → 0 ≤ (gL m2 221 56).toInt) (s2 : (k).toInt < (n).toInt → ∀ (v4 : Int32) (m2 : zM), aTm aT0 m2 → (onl [221] mem m2 ∧ (∀ i, ¬ i = 56 → zfl m2 221 i = zfl mem 221 i) ∧ (gL m2 221 56).toInt = sdN (gL mem 221 56).toInt ∧ v4.toInt = drw (gL mem 221 56).toInt (100 : Int32).toInt) → ∀ (y5 : Int32), y5.toInt = (gn (ga m2 226) (gi m2 221 13).toInt) → (v4).toInt < (gn (ga m2 226) (gi m2 221 13).toInt) → ∀ (y24 : Int32), y24.toInt = (gn (ga m2 228) (gi m2 221 13).toInt) → 0 < (gn (ga m2 228) (gi m2 221 13).toInt) → ∀ (x46 : Int32), x46.toInt = ((fo).toInt + 1) → ∀ (y51 : Int32), y51.toInt = (gn (ga m2 228) (gi m2 221 13).toInt) → (gL m2 221 56).toInt < 2147483648) (h4 : (k).toInt < (n).toInt → ∀ (v4 : Int32) (m2 : zM), aTm aT0 m2 → (onl [221] mem m2 ∧ (∀ i, ¬ i = 56 → zfl m2 221 i = zfl mem 221 i) ∧ (gL m2 221 56).toInt = sdN (gL mem 221 56).toInt ∧ v4.toInt = drw (gL mem 221 56).toInt (100 : Int32).toInt) → ∀ (y5 : Int32), y5.toInt = (gn (ga m2 226) (gi m2 221 13).toInt) → (v4).toInt < (gn (ga m2 226) (gi m2 221 13).toInt) → ∀ (y24 : Int32), y24.toInt = (gn (ga m2 228) (gi m2 221 13).toInt) → 0 < (gn (ga m2 228) (gi m2 221 13).toInt) → ∀ (x46 : Int32), x46.toInt = ((fo).toInt + 1) → ∀ (y51 : Int32), y51.toInt = (gn (ga m2 228) (gi m2 221 13).toInt) → ∀ (v55 : Int32) (m53 : zM), aTm aT0 m53 → (onl [221] m2 m53 ∧ (∀ i, ¬ i = 56 → zfl m53 221 i = zfl m2 221 i) ∧ (gL m53 221 56).toInt = sdN (gL m2 221 56).toInt ∧ v55.toInt = drw (gL m2 221 56).toInt (y51 : Int32).toInt) → ∀ (v58 : Int32) (m56 : zM), aTm aT0 m56 → (onl [249, 250, 251, 252, 253, 254, 256, 257, 258, 259, 260] m53 m56 ∧ tM 0 Q hu (tkS Q hu (v55 : Int32).toInt S) m56 ∧ kM 0 (tkK Q hu (v55 : Int32).toInt S K) m56 ∧ oLl 0 m53 m56 ∧ v58.toInt = fdN Q hu (v55 : Int32).toInt S) → ∀ (x59 : Int32), x59.toInt = ((k).toInt + 1) → ∀ lo, zlg lo 0 = some (.ref 221) → zlg lo 1 = some (.int n) → zlg lo 2 = some (.int x46) → zlg lo 3 = some (.int x59) → aTm aT0 m56 → yR zpg tX12_chance (d + 14) (25, lo, [], m56) P) : yR zpg tX12_chance (d + 14) (25, lo, [], mem) P := by
  refine wR_li rfl l_3 ?_
  refine wR_li rfl l_1 ?_
  refine wR_ic_ge rfl (a := (k).toInt) (c := (n).toInt) rfl rfl (fun q1 => ?_) (fun q1 => ?_)
  ·
    refine wR_li rfl l_2 ?_
    exact yR_ri rfl (h1 q1 hm)
  ·
    refine wR_la rfl l_0 ?_
    refine yR_m 1 (fun _ _ _ _ => rfl) ?_
    refine wR_cv rfl rfl mO_e hm rfl (h_md hm (by omega) (by omega) (by decide) (by omega)) ?_
    rintro _ m2 ⟨v4, rfl, hm2, k3⟩
    show yR zpg tX12_chance (d + 14) (36, lo, [.int v4], m2) _
    have rb_m2 := mO_r13 hm2
    refine wR_la rfl l_0 ?_
    refine wR_gr rfl mO_e mO_17 hm2 ?_
    refine wR_la rfl l_0 ?_
    refine wR_gi rfl mO_e mO_13 hm2 rfl ?_
    refine wN_al (a := (gi m2 221 13).toInt) rfl aR_226 hm2 rfl rfl (by omega) (fun y5 e6 => ?_)
    refine wR_ic_ge rfl (a := (v4).toInt) (c := (gn (ga m2 226) (gi m2 221 13).toInt)) rfl e6 (fun q7 => ?_) (fun q7 => ?_)
    ·
      refine yR_m 1 (fun _ _ _ _ => rfl) ?_
      refine wR_si rfl rfl (fun lo8 e9 f10 => ?_)
      have lo8_0 := f10 0 _ (by decide) (Or.inl rfl) l_0
      have lo8_1 := f10 1 _ (by decide) (Or.inl rfl) l_1
      have lo8_2 := f10 2 _ (by decide) (Or.inl rfl) l_2
      have lo8_3 := f10 3 _ (by decide) (Or.inl rfl) l_3
      refine wR_li rfl lo8_2 ?_
      refine wR_li rfl e9 ?_
      refine wR_if_eq rfl (a := 0) rfl (fun _ => ?_) (fun q => by exfalso; omega)
      refine yR_m 1 (fun _ _ _ _ => rfl) ?_
      refine wN_add (a := (fo).toInt) (b := 0) rfl rfl rfl (by omega) (fun x11 e12 => ?_)
      refine wR_si rfl rfl (fun lo13 e14 f15 => ?_)
      have lo13_4 := f15 4 _ (by decide) (Or.inl rfl) e9
      have lo13_0 := f15 0 _ (by decide) (Or.inl rfl) lo8_0
      have lo13_1 := f15 1 _ (by decide) (Or.inl rfl) lo8_1
      have lo13_3 := f15 3 _ (by decide) (Or.inl rfl) lo8_3
      refine wR_la rfl lo13_0 ?_
      refine yR_m 1 (fun _ _ _ _ => rfl) ?_
      refine wR_li rfl lo13_4 ?_
      refine wR_if_eq rfl (a := 0) rfl (fun _ => ?_) (fun q => by exfalso; omega)
      refine yR_m 1 (fun _ _ _ _ => rfl) ?_
      refine wR_cv rfl rfl mO_e hm2 rfl (h_tk (v := 0) (Q := Q) (S := S) (K := K) (hu := hu) hm2 (md_B k3.1 k3.2.1 hM) hW (tM_o k3.1 hS) (hs q1) hH (kM_q (onl_ga k3.1 rfl) (onl_ga k3.1 rfl) hK) (by decide) (by omega)) ?_
      rintro _ m16 ⟨v18, rfl, hm16, k17⟩
      show yR zpg tX12_chance (d + 14) (107, lo13, [.int v18], m16) _
      have rb_m16 := mO_r13 hm16
      refine yR_m 1 (fun _ _ _ _ => rfl) ?_
      refine wN_in (a := (k).toInt) (b := 1) rfl rfl lo13_3 rfl rfl (by omega) (fun x19 e20 => fun lo21 e22 f23 => ?_)
      have lo21_2 := f23 2 _ (by decide) (Or.inl rfl) e14
      have lo21_4 := f23 4 _ (by decide) (Or.inl rfl) lo13_4
      have lo21_0 := f23 0 _ (by decide) (Or.inl rfl) lo13_0
      have lo21_1 := f23 1 _ (by decide) (Or.inl rfl) lo13_1
      exact yR_m 1 (fun _ _ _ _ => rfl) (h2 q1 v4 m2 hm2 k3 y5 e6 q7 x11 e12 v18 m16 hm16 k17 x19 e20 lo21 lo21_0 lo21_1 lo21_2 e22 hm16)
    ·
      refine wR_la rfl l_0 ?_
      refine wR_gr rfl mO_e mO_19 hm2 ?_
      refine wR_la rfl l_0 ?_
      refine wR_gi rfl mO_e mO_13 hm2 rfl ?_
      refine wN_al (a := (gi m2 221 13).toInt) rfl aR_228 hm2 rfl rfl (by omega) (fun y24 e25 => ?_)
      refine wR_if_le rfl (a := (gn (ga m2 228) (gi m2 221 13).toInt)) e25 (fun q26 => ?_) (fun q26 => ?_)
      ·
        refine yR_m 1 (fun _ _ _ _ => rfl) ?_
        refine wR_si rfl rfl (fun lo27 e28 f29 => ?_)
        have lo27_0 := f29 0 _ (by decide) (Or.inl rfl) l_0
        have lo27_1 := f29 1 _ (by decide) (Or.inl rfl) l_1
        have lo27_2 := f29 2 _ (by decide) (Or.inl rfl) l_2
        have lo27_3 := f29 3 _ (by decide) (Or.inl rfl) l_3
        refine wR_li rfl lo27_2 ?_
        refine wR_li rfl e28 ?_
        refine wR_if_eq rfl (a := 0) rfl (fun _ => ?_) (fun q => by exfalso; omega)
        refine yR_m 1 (fun _ _ _ _ => rfl) ?_
        refine wN_add (a := (fo).toInt) (b := 0) rfl rfl rfl (by omega) (fun x30 e31 => ?_)
        refine wR_si rfl rfl (fun lo32 e33 f34 => ?_)
        have lo32_4 := f34 4 _ (by decide) (Or.inl rfl) e28
        have lo32_0 := f34 0 _ (by decide) (Or.inl rfl) lo27_0
        have lo32_1 := f34 1 _ (by decide) (Or.inl rfl) lo27_1
        have lo32_3 := f34 3 _ (by decide) (Or.inl rfl) lo27_3
        refine wR_la rfl lo32_0 ?_
        refine yR_m 1 (fun _ _ _ _ => rfl) ?_
        refine wR_li rfl lo32_4 ?_
        refine wR_if_eq rfl (a := 0) rfl (fun _ => ?_) (fun q => by exfalso; omega)
        refine yR_m 1 (fun _ _ _ _ => rfl) ?_
        refine wR_cv rfl rfl mO_e hm2 rfl (h_tk (v := 0) (Q := Q) (S := S) (K := K) (hu := hu) hm2 (md_B k3.1 k3.2.1 hM) hW (tM_o k3.1 hS) (hs q1) hH (kM_q (onl_ga k3.1 rfl) (onl_ga k3.1 rfl) hK) (by decide) (by omega)) ?_
        rintro _ m35 ⟨v37, rfl, hm35, k36⟩
        show yR zpg tX12_chance (d + 14) (107, lo32, [.int v37], m35) _
        have rb_m35 := mO_r13 hm35
        refine yR_m 1 (fun _ _ _ _ => rfl) ?_
        refine wN_in (a := (k).toInt) (b := 1) rfl rfl lo32_3 rfl rfl (by omega) (fun x38 e39 => fun lo40 e41 f42 => ?_)
        have lo40_2 := f42 2 _ (by decide) (Or.inl rfl) e33
        have lo40_4 := f42 4 _ (by decide) (Or.inl rfl) lo32_4
        have lo40_0 := f42 0 _ (by decide) (Or.inl rfl) lo32_0
        have lo40_1 := f42 1 _ (by decide) (Or.inl rfl) lo32_1
        exact yR_m 1 (fun _ _ _ _ => rfl) (h3 q1 v4 m2 hm2 k3 y5 e6 q7 y24 e25 q26 x30 e31 v37 m35 hm35 k36 x38 e39 lo40 lo40_0 lo40_1 lo40_2 e41 hm35)
      ·
        refine yR_m 2 (fun _ _ _ _ => rfl) ?_
        refine wR_si rfl rfl (fun lo43 e44 f45 => ?_)
        have lo43_0 := f45 0 _ (by decide) (Or.inl rfl) l_0
        have lo43_1 := f45 1 _ (by decide) (Or.inl rfl) l_1
        have lo43_2 := f45 2 _ (by decide) (Or.inl rfl) l_2
        have lo43_3 := f45 3 _ (by decide) (Or.inl rfl) l_3
        refine wR_li rfl lo43_2 ?_
        refine wR_li rfl e44 ?_
        refine wR_if_eq rfl (a := 1) rfl (fun q => by exfalso; omega) (fun _ => ?_)
        refine yR_m 2 (fun _ _ _ _ => rfl) ?_
        refine wN_add (a := (fo).toInt) (b := 1) rfl rfl rfl (by omega) (fun x46 e47 => ?_)
        refine wR_si rfl rfl (fun lo48 e49 f50 => ?_)
        have lo48_4 := f50 4 _ (by decide) (Or.inl rfl) e44
        have lo48_0 := f50 0 _ (by decide) (Or.inl rfl) lo43_0
        have lo48_1 := f50 1 _ (by decide) (Or.inl rfl) lo43_1
        have lo48_3 := f50 3 _ (by decide) (Or.inl rfl) lo43_3
        refine wR_la rfl lo48_0 ?_
        refine yR_m 1 (fun _ _ _ _ => rfl) ?_
        refine wR_li rfl lo48_4 ?_
        refine wR_if_eq rfl (a := 1) rfl (fun q => by exfalso; omega) (fun _ => ?_)
        refine wR_la rfl lo48_0 ?_
        refine wR_la rfl lo48_0 ?_
        refine wR_gr rfl mO_e mO_19 hm2 ?_
        refine wR_la rfl lo48_0 ?_
        refine wR_gi rfl mO_e mO_13 hm2 rfl ?_
        refine wN_al (a := (gi m2 221 13).toInt) rfl aR_228 hm2 rfl rfl (by omega) (fun y51 e52 => ?_)
        refine wR_cv rfl rfl mO_e hm2 rfl (h_md hm2 (s1 q1 v4 m2 hm2 k3 y5 e6 q7 y24 e25 q26 x46 e47 y51 e52) (s2 q1 v4 m2 hm2 k3 y5 e6 q7 y24 e25 q26 x46 e47 y51 e52) (by omega) (by omega)) ?_
        rintro _ m53 ⟨v55, rfl, hm53, k54⟩
        show yR zpg tX12_chance (d + 14) (100, lo48, [.int v55, .int 0, .ref 221], m53) _
        have rb_m53 := mO_r13 hm53
        refine yR_m 1 (fun _ _ _ _ => rfl) ?_
        refine wR_cv rfl rfl mO_e hm53 rfl (h_tk (v := 0) (Q := Q) (S := S) (K := K) (hu := hu) hm53 (md_B (onl_tr k3.1 k54.1) (fun i hi => (k54.2.1 i hi).trans (k3.2.1 i hi)) hM) hW (tM_o (onl_tr k3.1 k54.1) hS) (hs q1) hH (kM_q (onl_ga (onl_tr k3.1 k54.1) rfl) (onl_ga (onl_tr k3.1 k54.1) rfl) hK) (by decide) (by omega)) ?_
        rintro _ m56 ⟨v58, rfl, hm56, k57⟩
        show yR zpg tX12_chance (d + 14) (107, lo48, [.int v58], m56) _
        have rb_m56 := mO_r13 hm56
        refine yR_m 1 (fun _ _ _ _ => rfl) ?_
        refine wN_in (a := (k).toInt) (b := 1) rfl rfl lo48_3 rfl rfl (by omega) (fun x59 e60 => fun lo61 e62 f63 => ?_)
        have lo61_2 := f63 2 _ (by decide) (Or.inl rfl) e49
        have lo61_4 := f63 4 _ (by decide) (Or.inl rfl) lo48_4
        have lo61_0 := f63 0 _ (by decide) (Or.inl rfl) lo48_0
        have lo61_1 := f63 1 _ (by decide) (Or.inl rfl) lo48_1
        exact yR_m 1 (fun _ _ _ _ => rfl) (h4 q1 v4 m2 hm2 k3 y5 e6 q7 y24 e25 q26 x46 e47 y51 e52 v55 m53 hm53 k54 v58 m56 hm56 k57 x59 e60 lo61 lo61_0 lo61_1 lo61_2 e62 hm56)

set_option maxRecDepth 100000 in
theorem w_ml {d : Nat} {mem : zM} {P : Option Value → zM → Prop} {t : Int32} (hm : aTm aT0 mem) {Q : Qd} {S : Sd} {K : Kd} {P0 : Pd} {hu : Int → Int} (hM : mB Q mem) (hW : WQ Q) (hS : tM 0 Q hu S mem) (hs : wS Q S) (hK : kM 0 K mem) (hP : rgM Q hu P0 mem) (h1 : (t).toInt < 0 → ∀ (y2 : Int32), y2.toInt = (gn (ga mem 248) 3) → aTm aT0 (sx mem 248 3 (y2 + 1)) → P (some (.int 0)) (sx mem 248 3 (y2 + 1))) (h2 : 0 ≤ (t).toInt → ∀ (y4 : Int32), y4.toInt = (gn (ga mem 228) (gi mem 221 13).toInt) → (gn (ga mem 228) (gi mem 221 13).toInt) ≤ (t).toInt → ∀ (y7 : Int32), y7.toInt = (gn (ga mem 248) 3) → aTm aT0 (sx mem 248 3 (y7 + 1)) → P (some (.int 0)) (sx mem 248 3 (y7 + 1))) (h3 : 0 ≤ (t).toInt → ∀ (y4 : Int32), y4.toInt = (gn (ga mem 228) (gi mem 221 13).toInt) → (t).toInt < (gn (ga mem 228) (gi mem 221 13).toInt) → ∀ (y9 : Int32), y9.toInt = (gn (ga mem 250) 0) → ¬ ((y9 >>> (t &&& 31)) &&& 1).toInt = 1 → ∀ (m12 : zM), aTm aT0 m12 → (onl [221, 249, 250, 251, 252, 253, 254] mem m12 ∧ (∀ i, ¬ i = 54 → ¬ i = 55 → zfl m12 221 i = zfl mem 221 i) ∧ tM 0 Q hu S m12 ∧ kM 0 K m12 ∧ rgM Q hu (pdN P0 (S, K)) m12) → ∀ (m14 : zM), aTm aT0 m14 → (onl [250, 251, 253, 254] m12 m14 ∧ (∀ u, 0 ≤ u → gn (ga m14 250) u = if u = 0 then (Sm S ^^^ ((1 : Int32) <<< (t &&& 31))).toInt else gn (ga m12 250) u) ∧ (∀ j, 0 ≤ j → gn (ga m14 251) j = if j = 9 * 0 + (t).toInt then 0 else gn (ga m12 251) j) ∧ kM 0 (kpP K (Sn S, (t).toInt, btI (Sm S) (t).toInt)) m14 ∧ oKl 0 m12 m14) → aTm aT0 m14 → P (some (.int 1)) m14) (h4 : 0 ≤ (t).toInt → ∀ (y4 : Int32), y4.toInt = (gn (ga mem 228) (gi mem 221 13).toInt) → (t).toInt < (gn (ga mem 228) (gi mem 221 13).toInt) → ∀ (y9 : Int32), y9.toInt = (gn (ga mem 250) 0) → ((y9 >>> (t &&& 31)) &&& 1).toInt = 1 → ∀ (y16 : Int32), y16.toInt = (gn (ga mem 248) 3) → aTm aT0 (sx mem 248 3 (y16 + 1)) → P (some (.int 0)) (sx mem 248 3 (y16 + 1))) : yR zpg tX12_lose (d + 15) (0, [(0, .ref 221), (1, .int t)], [], mem) P := by
  have s0 := hS.1.1
  have s9 := hs.1
  have rb := mO_r13 hm
  have mt := hM.1.2.2.1.1
  have t9 := hW.2.1.1
  have e9 : thN Q = ((Qt Q).length : Int) := rfl
  refine yR_m 3 (fun _ _ _ _ => rfl) ?_
  refine wR_iv rfl rfl mO_e hm rfl rfl rfl rfl ?_
  show yR zpg tX12_turnsNow (d + 14) (0, [(0, .ref 221), (1, .int t), (2, .int 1)], [], mem) _
  refine yR_m 2 (fun _ _ _ _ => rfl) ?_
  refine wR_iv rfl rfl mO_e hm rfl rfl rfl rfl ?_
  show yR zpg tX12_isThing (d + 13) (0, [(0, .ref 221), (1, .int t)], [], mem) _
  refine yR_m 1 (fun _ _ _ _ => rfl) ?_
  refine wR_if_lt rfl (a := (t).toInt) rfl (fun q1 => ?_) (fun q1 => ?_)
  ·
    refine yR_m 1 (fun _ _ _ _ => rfl) ?_
    refine yR_rz rfl ⟨by decide, by decide⟩ ?_
    show yR zpg tX12_turnsNow (d + 14) (5, [(0, .ref 221), (1, .int t), (2, .int 1)], [.int 0], mem) _
    refine wR_if_eq rfl (a := 0) rfl (fun _ => ?_) (fun q => by exfalso; omega)
    refine yR_m 2 (fun _ _ _ _ => rfl) ?_
    refine wR_iv rfl rfl mO_e hm rfl rfl rfl rfl ?_
    show yR zpg tX12_refuses (d + 13) (0, [(0, .ref 221), (1, .int 3)], [], mem) _
    refine yR_m 1 (fun _ _ _ _ => rfl) ?_
    refine wR_gr rfl mO_e mO_47 hm ?_
    refine yR_m 2 (fun _ _ _ _ => rfl) ?_
    refine wN_al (a := 3) rfl aR_248 hm rfl rfl (by decide) (fun y2 e3 => ?_)
    refine yR_m 2 (fun _ _ _ _ => rfl) ?_
    refine wN_as (a := 3) rfl aR_248 hm rfl (by decide) ?_
    have hm_1 : aTm aT0 (sx mem 248 3 (y2 + 1)) := tm_sa aR_248 hm (i32_b _)
    refine yR_m 1 (fun _ _ _ _ => rfl) ?_
    refine yR_ri rfl ?_
    show yR zpg tX12_turnsNow (d + 14) (27, [(0, .ref 221), (1, .int t), (2, .int 1)], [.int (-1)], (sx mem 248 3 (y2 + 1))) _
    refine wR_if_lt rfl (a := (-1)) tm1 (fun _ => ?_) (fun q => by exfalso; omega)
    refine yR_m 1 (fun _ _ _ _ => rfl) ?_
    refine yR_rz rfl ⟨by decide, by decide⟩ ?_
    show yR zpg tX12_lose (d + 15) (6, [(0, .ref 221), (1, .int t)], [.int 0], (sx mem 248 3 (y2 + 1))) _
    exact yR_rz rfl ⟨by decide, by decide⟩ (h1 q1 y2 e3 hm_1)
  ·
    refine yR_m 2 (fun _ _ _ _ => rfl) ?_
    refine wR_gr rfl mO_e mO_19 hm ?_
    refine yR_m 1 (fun _ _ _ _ => rfl) ?_
    refine wR_gi rfl mO_e mO_13 hm rfl ?_
    refine wN_al (a := (gi mem 221 13).toInt) rfl aR_228 hm rfl rfl (by omega) (fun y4 e5 => ?_)
    refine wR_ic_ge rfl (a := (t).toInt) (c := (gn (ga mem 228) (gi mem 221 13).toInt)) rfl e5 (fun q6 => ?_) (fun q6 => ?_)
    ·
      refine yR_m 1 (fun _ _ _ _ => rfl) ?_
      refine yR_rz rfl ⟨by decide, by decide⟩ ?_
      show yR zpg tX12_turnsNow (d + 14) (5, [(0, .ref 221), (1, .int t), (2, .int 1)], [.int 0], mem) _
      refine wR_if_eq rfl (a := 0) rfl (fun _ => ?_) (fun q => by exfalso; omega)
      refine yR_m 2 (fun _ _ _ _ => rfl) ?_
      refine wR_iv rfl rfl mO_e hm rfl rfl rfl rfl ?_
      show yR zpg tX12_refuses (d + 13) (0, [(0, .ref 221), (1, .int 3)], [], mem) _
      refine yR_m 1 (fun _ _ _ _ => rfl) ?_
      refine wR_gr rfl mO_e mO_47 hm ?_
      refine yR_m 2 (fun _ _ _ _ => rfl) ?_
      refine wN_al (a := 3) rfl aR_248 hm rfl rfl (by decide) (fun y7 e8 => ?_)
      refine yR_m 2 (fun _ _ _ _ => rfl) ?_
      refine wN_as (a := 3) rfl aR_248 hm rfl (by decide) ?_
      have hm_2 : aTm aT0 (sx mem 248 3 (y7 + 1)) := tm_sa aR_248 hm (i32_b _)
      refine yR_m 1 (fun _ _ _ _ => rfl) ?_
      refine yR_ri rfl ?_
      show yR zpg tX12_turnsNow (d + 14) (27, [(0, .ref 221), (1, .int t), (2, .int 1)], [.int (-1)], (sx mem 248 3 (y7 + 1))) _
      refine wR_if_lt rfl (a := (-1)) tm1 (fun _ => ?_) (fun q => by exfalso; omega)
      refine yR_m 1 (fun _ _ _ _ => rfl) ?_
      refine yR_rz rfl ⟨by decide, by decide⟩ ?_
      show yR zpg tX12_lose (d + 15) (6, [(0, .ref 221), (1, .int t)], [.int 0], (sx mem 248 3 (y7 + 1))) _
      exact yR_rz rfl ⟨by decide, by decide⟩ (h2 q1 y4 e5 q6 y7 e8 hm_2)
    ·
      refine yR_m 2 (fun _ _ _ _ => rfl) ?_
      refine yR_rz rfl ⟨by decide, by decide⟩ ?_
      show yR zpg tX12_turnsNow (d + 14) (5, [(0, .ref 221), (1, .int t), (2, .int 1)], [.int 1], mem) _
      refine wR_if_eq rfl (a := 1) rfl (fun q => by exfalso; omega) (fun _ => ?_)
      refine yR_m 1 (fun _ _ _ _ => rfl) ?_
      refine wR_gr rfl mO_e mO_49 hm ?_
      refine yR_m 1 (fun _ _ _ _ => rfl) ?_
      refine wN_al (a := 0) rfl aR_250 hm rfl rfl (by decide) (fun y9 e10 => ?_)
      refine yR_m 1 (fun _ _ _ _ => rfl) ?_
      refine wR_is rfl rfl rfl rfl rfl rfl ?_
      show yR zpg tX12_has2 (d + 13) (0, [(0, .int y9), (1, .int t)], [], mem) _
      refine yR_m 6 (fun _ _ _ _ => rfl) ?_
      refine wR_ic_ne rfl (a := ((y9 >>> (t &&& 31)) &&& 1).toInt) (c := 1) rfl rfl (fun q11 => ?_) (fun q11 => ?_)
      ·
        refine yR_m 1 (fun _ _ _ _ => rfl) ?_
        refine yR_rz rfl ⟨by decide, by decide⟩ ?_
        show yR zpg tX12_turnsNow (d + 14) (18, [(0, .ref 221), (1, .int t), (2, .int 1)], [.int 0], mem) _
        refine yR_m 1 (fun _ _ _ _ => rfl) ?_
        refine wR_ic_ne rfl (a := 0) (c := 1) rfl rfl (fun _ => ?_) (fun q => by exfalso; omega)
        refine yR_m 1 (fun _ _ _ _ => rfl) ?_
        refine wR_cv rfl rfl mO_e hm rfl (h_kp (Q := Q) (hu := hu) (S := S) (K := K) (P := P0) hm hW hS hK hP (by omega)) ?_
        rintro _ m12 ⟨rfl, hm12, k13⟩
        show yR zpg tX12_turnsNow (d + 14) (40, [(0, .ref 221), (1, .int t), (2, .int 1)], [], m12) _
        refine yR_m 3 (fun _ _ _ _ => rfl) ?_
        refine wR_cv rfl rfl mO_e hm12 rfl (h_tov (v := 0) (x := Sm S) (K := K) (N := Sn S) hm12 (by decide) (by omega) k13.2.2.1.1.1 k13.2.2.2.1 k13.2.2.1.1.2 (by omega)) ?_
        rintro _ m14 ⟨rfl, hm14, k15⟩
        show yR zpg tX12_turnsNow (d + 14) (46, [(0, .ref 221), (1, .int t), (2, .int 1)], [], m14) _
        refine yR_m 1 (fun _ _ _ _ => rfl) ?_
        refine yR_rz rfl ⟨by decide, by decide⟩ ?_
        show yR zpg tX12_lose (d + 15) (6, [(0, .ref 221), (1, .int t)], [.int 1], m14) _
        exact yR_rz rfl ⟨by decide, by decide⟩ (h3 q1 y4 e5 q6 y9 e10 q11 m12 hm12 k13 m14 hm14 k15 hm14)
      ·
        refine yR_m 2 (fun _ _ _ _ => rfl) ?_
        refine yR_rz rfl ⟨by decide, by decide⟩ ?_
        show yR zpg tX12_turnsNow (d + 14) (18, [(0, .ref 221), (1, .int t), (2, .int 1)], [.int 1], mem) _
        refine yR_m 1 (fun _ _ _ _ => rfl) ?_
        refine wR_ic_ne rfl (a := 1) (c := 1) rfl rfl (fun q => by exfalso; omega) (fun _ => ?_)
        refine yR_m 2 (fun _ _ _ _ => rfl) ?_
        refine wR_iv rfl rfl mO_e hm rfl rfl rfl rfl ?_
        show yR zpg tX12_refuses (d + 13) (0, [(0, .ref 221), (1, .int 3)], [], mem) _
        refine yR_m 1 (fun _ _ _ _ => rfl) ?_
        refine wR_gr rfl mO_e mO_47 hm ?_
        refine yR_m 2 (fun _ _ _ _ => rfl) ?_
        refine wN_al (a := 3) rfl aR_248 hm rfl rfl (by decide) (fun y16 e17 => ?_)
        refine yR_m 2 (fun _ _ _ _ => rfl) ?_
        refine wN_as (a := 3) rfl aR_248 hm rfl (by decide) ?_
        have hm_3 : aTm aT0 (sx mem 248 3 (y16 + 1)) := tm_sa aR_248 hm (i32_b _)
        refine yR_m 1 (fun _ _ _ _ => rfl) ?_
        refine yR_ri rfl ?_
        show yR zpg tX12_turnsNow (d + 14) (27, [(0, .ref 221), (1, .int t), (2, .int 1)], [.int (-1)], (sx mem 248 3 (y16 + 1))) _
        refine wR_if_lt rfl (a := (-1)) tm1 (fun _ => ?_) (fun q => by exfalso; omega)
        refine yR_m 1 (fun _ _ _ _ => rfl) ?_
        refine yR_rz rfl ⟨by decide, by decide⟩ ?_
        show yR zpg tX12_lose (d + 15) (6, [(0, .ref 221), (1, .int t)], [.int 0], (sx mem 248 3 (y16 + 1))) _
        exact yR_rz rfl ⟨by decide, by decide⟩ (h4 q1 y4 e5 q6 y9 e10 q11 y16 e17 hm_3)

set_option maxRecDepth 100000 in
theorem w_mf {d : Nat} {mem : zM} {P : Option Value → zM → Prop} {t : Int32} (hm : aTm aT0 mem) {Q : Qd} {S : Sd} {K : Kd} {P0 : Pd} {hu : Int → Int} (hM : mB Q mem) (hW : WQ Q) (hS : tM 0 Q hu S mem) (hs : wS Q S) (hK : kM 0 K mem) (hP : rgM Q hu P0 mem) (h1 : (t).toInt < 0 → ∀ (y2 : Int32), y2.toInt = (gn (ga mem 248) 3) → aTm aT0 (sx mem 248 3 (y2 + 1)) → P (some (.int 0)) (sx mem 248 3 (y2 + 1))) (h2 : 0 ≤ (t).toInt → ∀ (y4 : Int32), y4.toInt = (gn (ga mem 228) (gi mem 221 13).toInt) → (gn (ga mem 228) (gi mem 221 13).toInt) ≤ (t).toInt → ∀ (y7 : Int32), y7.toInt = (gn (ga mem 248) 3) → aTm aT0 (sx mem 248 3 (y7 + 1)) → P (some (.int 0)) (sx mem 248 3 (y7 + 1))) (h3 : 0 ≤ (t).toInt → ∀ (y4 : Int32), y4.toInt = (gn (ga mem 228) (gi mem 221 13).toInt) → (t).toInt < (gn (ga mem 228) (gi mem 221 13).toInt) → ∀ (y9 : Int32), y9.toInt = (gn (ga mem 250) 0) → ¬ ((y9 >>> (t &&& 31)) &&& 1).toInt = 1 → ∀ (y12 : Int32), y12.toInt = (gn (ga mem 248) 3) → aTm aT0 (sx mem 248 3 (y12 + 1)) → P (some (.int 0)) (sx mem 248 3 (y12 + 1))) (h4 : 0 ≤ (t).toInt → ∀ (y4 : Int32), y4.toInt = (gn (ga mem 228) (gi mem 221 13).toInt) → (t).toInt < (gn (ga mem 228) (gi mem 221 13).toInt) → ∀ (y9 : Int32), y9.toInt = (gn (ga mem 250) 0) → ((y9 >>> (t &&& 31)) &&& 1).toInt = 1 → ∀ (m14 : zM), aTm aT0 m14 → (onl [221, 249, 250, 251, 252, 253, 254] mem m14 ∧ (∀ i, ¬ i = 54 → ¬ i = 55 → zfl m14 221 i = zfl mem 221 i) ∧ tM 0 Q hu S m14 ∧ kM 0 K m14 ∧ rgM Q hu (pdN P0 (S, K)) m14) → ∀ (m16 : zM), aTm aT0 m16 → (onl [250, 251, 253, 254] m14 m16 ∧ (∀ u, 0 ≤ u → gn (ga m16 250) u = if u = 0 then (Sm S ^^^ ((1 : Int32) <<< (t &&& 31))).toInt else gn (ga m14 250) u) ∧ (∀ j, 0 ≤ j → gn (ga m16 251) j = if j = 9 * 0 + (t).toInt then 0 else gn (ga m14 251) j) ∧ kM 0 (kpP K (Sn S, (t).toInt, btI (Sm S) (t).toInt)) m16 ∧ oKl 0 m14 m16) → aTm aT0 m16 → P (some (.int 1)) m16) : yR zpg tX12_find (d + 15) (0, [(0, .ref 221), (1, .int t)], [], mem) P := by
  have s0 := hS.1.1
  have s9 := hs.1
  have rb := mO_r13 hm
  have mt := hM.1.2.2.1.1
  have t9 := hW.2.1.1
  have e9 : thN Q = ((Qt Q).length : Int) := rfl
  refine yR_m 3 (fun _ _ _ _ => rfl) ?_
  refine wR_iv rfl rfl mO_e hm rfl rfl rfl rfl ?_
  show yR zpg tX12_turnsNow (d + 14) (0, [(0, .ref 221), (1, .int t), (2, .int 0)], [], mem) _
  refine yR_m 2 (fun _ _ _ _ => rfl) ?_
  refine wR_iv rfl rfl mO_e hm rfl rfl rfl rfl ?_
  show yR zpg tX12_isThing (d + 13) (0, [(0, .ref 221), (1, .int t)], [], mem) _
  refine yR_m 1 (fun _ _ _ _ => rfl) ?_
  refine wR_if_lt rfl (a := (t).toInt) rfl (fun q1 => ?_) (fun q1 => ?_)
  ·
    refine yR_m 1 (fun _ _ _ _ => rfl) ?_
    refine yR_rz rfl ⟨by decide, by decide⟩ ?_
    show yR zpg tX12_turnsNow (d + 14) (5, [(0, .ref 221), (1, .int t), (2, .int 0)], [.int 0], mem) _
    refine wR_if_eq rfl (a := 0) rfl (fun _ => ?_) (fun q => by exfalso; omega)
    refine yR_m 2 (fun _ _ _ _ => rfl) ?_
    refine wR_iv rfl rfl mO_e hm rfl rfl rfl rfl ?_
    show yR zpg tX12_refuses (d + 13) (0, [(0, .ref 221), (1, .int 3)], [], mem) _
    refine yR_m 1 (fun _ _ _ _ => rfl) ?_
    refine wR_gr rfl mO_e mO_47 hm ?_
    refine yR_m 2 (fun _ _ _ _ => rfl) ?_
    refine wN_al (a := 3) rfl aR_248 hm rfl rfl (by decide) (fun y2 e3 => ?_)
    refine yR_m 2 (fun _ _ _ _ => rfl) ?_
    refine wN_as (a := 3) rfl aR_248 hm rfl (by decide) ?_
    have hm_1 : aTm aT0 (sx mem 248 3 (y2 + 1)) := tm_sa aR_248 hm (i32_b _)
    refine yR_m 1 (fun _ _ _ _ => rfl) ?_
    refine yR_ri rfl ?_
    show yR zpg tX12_turnsNow (d + 14) (27, [(0, .ref 221), (1, .int t), (2, .int 0)], [.int (-1)], (sx mem 248 3 (y2 + 1))) _
    refine wR_if_lt rfl (a := (-1)) tm1 (fun _ => ?_) (fun q => by exfalso; omega)
    refine yR_m 1 (fun _ _ _ _ => rfl) ?_
    refine yR_rz rfl ⟨by decide, by decide⟩ ?_
    show yR zpg tX12_find (d + 15) (6, [(0, .ref 221), (1, .int t)], [.int 0], (sx mem 248 3 (y2 + 1))) _
    exact yR_rz rfl ⟨by decide, by decide⟩ (h1 q1 y2 e3 hm_1)
  ·
    refine yR_m 2 (fun _ _ _ _ => rfl) ?_
    refine wR_gr rfl mO_e mO_19 hm ?_
    refine yR_m 1 (fun _ _ _ _ => rfl) ?_
    refine wR_gi rfl mO_e mO_13 hm rfl ?_
    refine wN_al (a := (gi mem 221 13).toInt) rfl aR_228 hm rfl rfl (by omega) (fun y4 e5 => ?_)
    refine wR_ic_ge rfl (a := (t).toInt) (c := (gn (ga mem 228) (gi mem 221 13).toInt)) rfl e5 (fun q6 => ?_) (fun q6 => ?_)
    ·
      refine yR_m 1 (fun _ _ _ _ => rfl) ?_
      refine yR_rz rfl ⟨by decide, by decide⟩ ?_
      show yR zpg tX12_turnsNow (d + 14) (5, [(0, .ref 221), (1, .int t), (2, .int 0)], [.int 0], mem) _
      refine wR_if_eq rfl (a := 0) rfl (fun _ => ?_) (fun q => by exfalso; omega)
      refine yR_m 2 (fun _ _ _ _ => rfl) ?_
      refine wR_iv rfl rfl mO_e hm rfl rfl rfl rfl ?_
      show yR zpg tX12_refuses (d + 13) (0, [(0, .ref 221), (1, .int 3)], [], mem) _
      refine yR_m 1 (fun _ _ _ _ => rfl) ?_
      refine wR_gr rfl mO_e mO_47 hm ?_
      refine yR_m 2 (fun _ _ _ _ => rfl) ?_
      refine wN_al (a := 3) rfl aR_248 hm rfl rfl (by decide) (fun y7 e8 => ?_)
      refine yR_m 2 (fun _ _ _ _ => rfl) ?_
      refine wN_as (a := 3) rfl aR_248 hm rfl (by decide) ?_
      have hm_2 : aTm aT0 (sx mem 248 3 (y7 + 1)) := tm_sa aR_248 hm (i32_b _)
      refine yR_m 1 (fun _ _ _ _ => rfl) ?_
      refine yR_ri rfl ?_
      show yR zpg tX12_turnsNow (d + 14) (27, [(0, .ref 221), (1, .int t), (2, .int 0)], [.int (-1)], (sx mem 248 3 (y7 + 1))) _
      refine wR_if_lt rfl (a := (-1)) tm1 (fun _ => ?_) (fun q => by exfalso; omega)
      refine yR_m 1 (fun _ _ _ _ => rfl) ?_
      refine yR_rz rfl ⟨by decide, by decide⟩ ?_
      show yR zpg tX12_find (d + 15) (6, [(0, .ref 221), (1, .int t)], [.int 0], (sx mem 248 3 (y7 + 1))) _
      exact yR_rz rfl ⟨by decide, by decide⟩ (h2 q1 y4 e5 q6 y7 e8 hm_2)
    ·
      refine yR_m 2 (fun _ _ _ _ => rfl) ?_
      refine yR_rz rfl ⟨by decide, by decide⟩ ?_
      show yR zpg tX12_turnsNow (d + 14) (5, [(0, .ref 221), (1, .int t), (2, .int 0)], [.int 1], mem) _
      refine wR_if_eq rfl (a := 1) rfl (fun q => by exfalso; omega) (fun _ => ?_)
      refine yR_m 1 (fun _ _ _ _ => rfl) ?_
      refine wR_gr rfl mO_e mO_49 hm ?_
      refine yR_m 1 (fun _ _ _ _ => rfl) ?_
      refine wN_al (a := 0) rfl aR_250 hm rfl rfl (by decide) (fun y9 e10 => ?_)
      refine yR_m 1 (fun _ _ _ _ => rfl) ?_
      refine wR_is rfl rfl rfl rfl rfl rfl ?_
      show yR zpg tX12_has2 (d + 13) (0, [(0, .int y9), (1, .int t)], [], mem) _
      refine yR_m 6 (fun _ _ _ _ => rfl) ?_
      refine wR_ic_ne rfl (a := ((y9 >>> (t &&& 31)) &&& 1).toInt) (c := 1) rfl rfl (fun q11 => ?_) (fun q11 => ?_)
      ·
        refine yR_m 1 (fun _ _ _ _ => rfl) ?_
        refine yR_rz rfl ⟨by decide, by decide⟩ ?_
        show yR zpg tX12_turnsNow (d + 14) (18, [(0, .ref 221), (1, .int t), (2, .int 0)], [.int 0], mem) _
        refine yR_m 1 (fun _ _ _ _ => rfl) ?_
        refine wR_ic_ne rfl (a := 0) (c := 0) rfl rfl (fun q => by exfalso; omega) (fun _ => ?_)
        refine yR_m 2 (fun _ _ _ _ => rfl) ?_
        refine wR_iv rfl rfl mO_e hm rfl rfl rfl rfl ?_
        show yR zpg tX12_refuses (d + 13) (0, [(0, .ref 221), (1, .int 3)], [], mem) _
        refine yR_m 1 (fun _ _ _ _ => rfl) ?_
        refine wR_gr rfl mO_e mO_47 hm ?_
        refine yR_m 2 (fun _ _ _ _ => rfl) ?_
        refine wN_al (a := 3) rfl aR_248 hm rfl rfl (by decide) (fun y12 e13 => ?_)
        refine yR_m 2 (fun _ _ _ _ => rfl) ?_
        refine wN_as (a := 3) rfl aR_248 hm rfl (by decide) ?_
        have hm_3 : aTm aT0 (sx mem 248 3 (y12 + 1)) := tm_sa aR_248 hm (i32_b _)
        refine yR_m 1 (fun _ _ _ _ => rfl) ?_
        refine yR_ri rfl ?_
        show yR zpg tX12_turnsNow (d + 14) (27, [(0, .ref 221), (1, .int t), (2, .int 0)], [.int (-1)], (sx mem 248 3 (y12 + 1))) _
        refine wR_if_lt rfl (a := (-1)) tm1 (fun _ => ?_) (fun q => by exfalso; omega)
        refine yR_m 1 (fun _ _ _ _ => rfl) ?_
        refine yR_rz rfl ⟨by decide, by decide⟩ ?_
        show yR zpg tX12_find (d + 15) (6, [(0, .ref 221), (1, .int t)], [.int 0], (sx mem 248 3 (y12 + 1))) _
        exact yR_rz rfl ⟨by decide, by decide⟩ (h3 q1 y4 e5 q6 y9 e10 q11 y12 e13 hm_3)
      ·
        refine yR_m 2 (fun _ _ _ _ => rfl) ?_
        refine yR_rz rfl ⟨by decide, by decide⟩ ?_
        show yR zpg tX12_turnsNow (d + 14) (18, [(0, .ref 221), (1, .int t), (2, .int 0)], [.int 1], mem) _
        refine yR_m 1 (fun _ _ _ _ => rfl) ?_
        refine wR_ic_ne rfl (a := 1) (c := 0) rfl rfl (fun _ => ?_) (fun q => by exfalso; omega)
        refine yR_m 1 (fun _ _ _ _ => rfl) ?_
        refine wR_cv rfl rfl mO_e hm rfl (h_kp (Q := Q) (hu := hu) (S := S) (K := K) (P := P0) hm hW hS hK hP (by omega)) ?_
        rintro _ m14 ⟨rfl, hm14, k15⟩
        show yR zpg tX12_turnsNow (d + 14) (40, [(0, .ref 221), (1, .int t), (2, .int 0)], [], m14) _
        refine yR_m 3 (fun _ _ _ _ => rfl) ?_
        refine wR_cv rfl rfl mO_e hm14 rfl (h_tov (v := 0) (x := Sm S) (K := K) (N := Sn S) hm14 (by decide) (by omega) k15.2.2.1.1.1 k15.2.2.2.1 k15.2.2.1.1.2 (by omega)) ?_
        rintro _ m16 ⟨rfl, hm16, k17⟩
        show yR zpg tX12_turnsNow (d + 14) (46, [(0, .ref 221), (1, .int t), (2, .int 0)], [], m16) _
        refine yR_m 1 (fun _ _ _ _ => rfl) ?_
        refine yR_rz rfl ⟨by decide, by decide⟩ ?_
        show yR zpg tX12_find (d + 15) (6, [(0, .ref 221), (1, .int t)], [.int 1], m16) _
        exact yR_rz rfl ⟨by decide, by decide⟩ (h4 q1 y4 e5 q6 y9 e10 q11 m14 hm14 k15 m16 hm16 k17 hm16)

set_option maxRecDepth 100000 in
theorem w_mle {d : Nat} {mem : zM} {P : Option Value → zM → Prop} {f x y : Int32} (hm : aTm aT0 mem) {Q : Qd} {S : Sd} {K : Kd} {P0 : Pd} {hu : Int → Int} (hM : mB Q mem) (hW : WQ Q) (hS : tM 0 Q hu S mem) (hs : wS Q S) (hK : kM 0 K mem) (hP : rgM Q hu P0 mem) (h1 : (gi mem 221 46).toInt = 0 → (f).toInt < 0 → ∀ (y3 : Int32), y3.toInt = (gn (ga mem 248) 3) → aTm aT0 (sx mem 248 3 (y3 + 1)) → P (some (.int 0)) (sx mem 248 3 (y3 + 1))) (h2 : (gi mem 221 46).toInt = 0 → 0 ≤ (f).toInt → ∀ (y5 : Int32), y5.toInt = (gn (ga mem 233) (gi mem 221 13).toInt) → (gn (ga mem 233) (gi mem 221 13).toInt) ≤ (f).toInt → ∀ (y8 : Int32), y8.toInt = (gn (ga mem 248) 3) → aTm aT0 (sx mem 248 3 (y8 + 1)) → P (some (.int 0)) (sx mem 248 3 (y8 + 1))) (h3 : (gi mem 221 46).toInt = 0 → 0 ≤ (f).toInt → ∀ (y5 : Int32), y5.toInt = (gn (ga mem 233) (gi mem 221 13).toInt) → (f).toInt < (gn (ga mem 233) (gi mem 221 13).toInt) → ∀ (y10 : Int32), y10.toInt = (gn (ga mem 248) 3) → aTm aT0 (sx mem 248 3 (y10 + 1)) → P (some (.int 0)) (sx mem 248 3 (y10 + 1))) (h4 : ¬ (gi mem 221 46).toInt = 0 → ∀ (y12 : Int32), y12.toInt = (gn (ga mem 223) (gi mem 221 13).toInt) → ∀ (x14 : Int32), x14.toInt = ((gn (ga mem 223) (gi mem 221 13).toInt) - 1) → (x).toInt < 0 → (f).toInt < 0 → ∀ (y18 : Int32), y18.toInt = (gn (ga mem 248) 3) → aTm aT0 (sx mem 248 3 (y18 + 1)) → P (some (.int 0)) (sx mem 248 3 (y18 + 1))) (h5 : ¬ (gi mem 221 46).toInt = 0 → ∀ (y12 : Int32), y12.toInt = (gn (ga mem 223) (gi mem 221 13).toInt) → ∀ (x14 : Int32), x14.toInt = ((gn (ga mem 223) (gi mem 221 13).toInt) - 1) → (x).toInt < 0 → 0 ≤ (f).toInt → ∀ (y20 : Int32), y20.toInt = (gn (ga mem 233) (gi mem 221 13).toInt) → (gn (ga mem 233) (gi mem 221 13).toInt) ≤ (f).toInt → ∀ (y23 : Int32), y23.toInt = (gn (ga mem 248) 3) → aTm aT0 (sx mem 248 3 (y23 + 1)) → P (some (.int 0)) (sx mem 248 3 (y23 + 1))) (h6 : ¬ (gi mem 221 46).toInt = 0 → ∀ (y12 : Int32), y12.toInt = (gn (ga mem 223) (gi mem 221 13).toInt) → ∀ (x14 : Int32), x14.toInt = ((gn (ga mem 223) (gi mem 221 13).toInt) - 1) → (x).toInt < 0 → 0 ≤ (f).toInt → ∀ (y20 : Int32), y20.toInt = (gn (ga mem 233) (gi mem 221 13).toInt) → (f).toInt < (gn (ga mem 233) (gi mem 221 13).toInt) → ∀ (y25 : Int32), y25.toInt = (gn (ga mem 248) 3) → aTm aT0 (sx mem 248 3 (y25 + 1)) → P (some (.int 0)) (sx mem 248 3 (y25 + 1))) (h7 : ¬ (gi mem 221 46).toInt = 0 → ∀ (y12 : Int32), y12.toInt = (gn (ga mem 223) (gi mem 221 13).toInt) → ∀ (x14 : Int32), x14.toInt = ((gn (ga mem 223) (gi mem 221 13).toInt) - 1) → 0 ≤ (x).toInt → ((gn (ga mem 223) (gi mem 221 13).toInt) - 1) < (x).toInt → (f).toInt < 0 → ∀ (y29 : Int32), y29.toInt = (gn (ga mem 248) 3) → aTm aT0 (sx mem 248 3 (y29 + 1)) → P (some (.int 0)) (sx mem 248 3 (y29 + 1))) (h8 : ¬ (gi mem 221 46).toInt = 0 → ∀ (y12 : Int32), y12.toInt = (gn (ga mem 223) (gi mem 221 13).toInt) → ∀ (x14 : Int32), x14.toInt = ((gn (ga mem 223) (gi mem 221 13).toInt) - 1) → 0 ≤ (x).toInt → ((gn (ga mem 223) (gi mem 221 13).toInt) - 1) < (x).toInt → 0 ≤ (f).toInt → ∀ (y31 : Int32), y31.toInt = (gn (ga mem 233) (gi mem 221 13).toInt) → (gn (ga mem 233) (gi mem 221 13).toInt) ≤ (f).toInt → ∀ (y34 : Int32), y34.toInt = (gn (ga mem 248) 3) → aTm aT0 (sx mem 248 3 (y34 + 1)) → P (some (.int 0)) (sx mem 248 3 (y34 + 1))) (h9 : ¬ (gi mem 221 46).toInt = 0 → ∀ (y12 : Int32), y12.toInt = (gn (ga mem 223) (gi mem 221 13).toInt) → ∀ (x14 : Int32), x14.toInt = ((gn (ga mem 223) (gi mem 221 13).toInt) - 1) → 0 ≤ (x).toInt → ((gn (ga mem 223) (gi mem 221 13).toInt) - 1) < (x).toInt → 0 ≤ (f).toInt → ∀ (y31 : Int32), y31.toInt = (gn (ga mem 233) (gi mem 221 13).toInt) → (f).toInt < (gn (ga mem 233) (gi mem 221 13).toInt) → ∀ (y36 : Int32), y36.toInt = (gn (ga mem 248) 3) → aTm aT0 (sx mem 248 3 (y36 + 1)) → P (some (.int 0)) (sx mem 248 3 (y36 + 1))) (h10 : ¬ (gi mem 221 46).toInt = 0 → ∀ (y12 : Int32), y12.toInt = (gn (ga mem 223) (gi mem 221 13).toInt) → ∀ (x14 : Int32), x14.toInt = ((gn (ga mem 223) (gi mem 221 13).toInt) - 1) → 0 ≤ (x).toInt → (x).toInt ≤ ((gn (ga mem 223) (gi mem 221 13).toInt) - 1) → ∀ (y38 : Int32), y38.toInt = (gn (ga mem 224) (gi mem 221 13).toInt) → ∀ (x40 : Int32), x40.toInt = ((gn (ga mem 224) (gi mem 221 13).toInt) - 1) → (y).toInt < 0 → (f).toInt < 0 → ∀ (y44 : Int32), y44.toInt = (gn (ga mem 248) 3) → aTm aT0 (sx mem 248 3 (y44 + 1)) → P (some (.int 0)) (sx mem 248 3 (y44 + 1))) (h11 : ¬ (gi mem 221 46).toInt = 0 → ∀ (y12 : Int32), y12.toInt = (gn (ga mem 223) (gi mem 221 13).toInt) → ∀ (x14 : Int32), x14.toInt = ((gn (ga mem 223) (gi mem 221 13).toInt) - 1) → 0 ≤ (x).toInt → (x).toInt ≤ ((gn (ga mem 223) (gi mem 221 13).toInt) - 1) → ∀ (y38 : Int32), y38.toInt = (gn (ga mem 224) (gi mem 221 13).toInt) → ∀ (x40 : Int32), x40.toInt = ((gn (ga mem 224) (gi mem 221 13).toInt) - 1) → (y).toInt < 0 → 0 ≤ (f).toInt → ∀ (y46 : Int32), y46.toInt = (gn (ga mem 233) (gi mem 221 13).toInt) → (gn (ga mem 233) (gi mem 221 13).toInt) ≤ (f).toInt → ∀ (y49 : Int32), y49.toInt = (gn (ga mem 248) 3) → aTm aT0 (sx mem 248 3 (y49 + 1)) → P (some (.int 0)) (sx mem 248 3 (y49 + 1))) (h12 : ¬ (gi mem 221 46).toInt = 0 → ∀ (y12 : Int32), y12.toInt = (gn (ga mem 223) (gi mem 221 13).toInt) → ∀ (x14 : Int32), x14.toInt = ((gn (ga mem 223) (gi mem 221 13).toInt) - 1) → 0 ≤ (x).toInt → (x).toInt ≤ ((gn (ga mem 223) (gi mem 221 13).toInt) - 1) → ∀ (y38 : Int32), y38.toInt = (gn (ga mem 224) (gi mem 221 13).toInt) → ∀ (x40 : Int32), x40.toInt = ((gn (ga mem 224) (gi mem 221 13).toInt) - 1) → (y).toInt < 0 → 0 ≤ (f).toInt → ∀ (y46 : Int32), y46.toInt = (gn (ga mem 233) (gi mem 221 13).toInt) → (f).toInt < (gn (ga mem 233) (gi mem 221 13).toInt) → ∀ (y51 : Int32), y51.toInt = (gn (ga mem 248) 3) → aTm aT0 (sx mem 248 3 (y51 + 1)) → P (some (.int 0)) (sx mem 248 3 (y51 + 1))) (h13 : ¬ (gi mem 221 46).toInt = 0 → ∀ (y12 : Int32), y12.toInt = (gn (ga mem 223) (gi mem 221 13).toInt) → ∀ (x14 : Int32), x14.toInt = ((gn (ga mem 223) (gi mem 221 13).toInt) - 1) → 0 ≤ (x).toInt → (x).toInt ≤ ((gn (ga mem 223) (gi mem 221 13).toInt) - 1) → ∀ (y38 : Int32), y38.toInt = (gn (ga mem 224) (gi mem 221 13).toInt) → ∀ (x40 : Int32), x40.toInt = ((gn (ga mem 224) (gi mem 221 13).toInt) - 1) → 0 ≤ (y).toInt → ((gn (ga mem 224) (gi mem 221 13).toInt) - 1) < (y).toInt → (f).toInt < 0 → ∀ (y55 : Int32), y55.toInt = (gn (ga mem 248) 3) → aTm aT0 (sx mem 248 3 (y55 + 1)) → P (some (.int 0)) (sx mem 248 3 (y55 + 1))) (h14 : ¬ (gi mem 221 46).toInt = 0 → ∀ (y12 : Int32), y12.toInt = (gn (ga mem 223) (gi mem 221 13).toInt) → ∀ (x14 : Int32), x14.toInt = ((gn (ga mem 223) (gi mem 221 13).toInt) - 1) → 0 ≤ (x).toInt → (x).toInt ≤ ((gn (ga mem 223) (gi mem 221 13).toInt) - 1) → ∀ (y38 : Int32), y38.toInt = (gn (ga mem 224) (gi mem 221 13).toInt) → ∀ (x40 : Int32), x40.toInt = ((gn (ga mem 224) (gi mem 221 13).toInt) - 1) → 0 ≤ (y).toInt → ((gn (ga mem 224) (gi mem 221 13).toInt) - 1) < (y).toInt → 0 ≤ (f).toInt → ∀ (y57 : Int32), y57.toInt = (gn (ga mem 233) (gi mem 221 13).toInt) → (gn (ga mem 233) (gi mem 221 13).toInt) ≤ (f).toInt → ∀ (y60 : Int32), y60.toInt = (gn (ga mem 248) 3) → aTm aT0 (sx mem 248 3 (y60 + 1)) → P (some (.int 0)) (sx mem 248 3 (y60 + 1))) (h15 : ¬ (gi mem 221 46).toInt = 0 → ∀ (y12 : Int32), y12.toInt = (gn (ga mem 223) (gi mem 221 13).toInt) → ∀ (x14 : Int32), x14.toInt = ((gn (ga mem 223) (gi mem 221 13).toInt) - 1) → 0 ≤ (x).toInt → (x).toInt ≤ ((gn (ga mem 223) (gi mem 221 13).toInt) - 1) → ∀ (y38 : Int32), y38.toInt = (gn (ga mem 224) (gi mem 221 13).toInt) → ∀ (x40 : Int32), x40.toInt = ((gn (ga mem 224) (gi mem 221 13).toInt) - 1) → 0 ≤ (y).toInt → ((gn (ga mem 224) (gi mem 221 13).toInt) - 1) < (y).toInt → 0 ≤ (f).toInt → ∀ (y57 : Int32), y57.toInt = (gn (ga mem 233) (gi mem 221 13).toInt) → (f).toInt < (gn (ga mem 233) (gi mem 221 13).toInt) → ∀ (y62 : Int32), y62.toInt = (gn (ga mem 248) 3) → aTm aT0 (sx mem 248 3 (y62 + 1)) → P (some (.int 0)) (sx mem 248 3 (y62 + 1))) (h16 : ¬ (gi mem 221 46).toInt = 0 → ∀ (y12 : Int32), y12.toInt = (gn (ga mem 223) (gi mem 221 13).toInt) → ∀ (x14 : Int32), x14.toInt = ((gn (ga mem 223) (gi mem 221 13).toInt) - 1) → 0 ≤ (x).toInt → (x).toInt ≤ ((gn (ga mem 223) (gi mem 221 13).toInt) - 1) → ∀ (y38 : Int32), y38.toInt = (gn (ga mem 224) (gi mem 221 13).toInt) → ∀ (x40 : Int32), x40.toInt = ((gn (ga mem 224) (gi mem 221 13).toInt) - 1) → 0 ≤ (y).toInt → (y).toInt ≤ ((gn (ga mem 224) (gi mem 221 13).toInt) - 1) → ∀ (x64 : Int32), x64.toInt = (8 * (y).toInt) → ∀ (x66 : Int32), x66.toInt = ((8 * (y).toInt) + (x).toInt) → (f).toInt < 0 → ∀ (y69 : Int32), y69.toInt = (gn (ga mem 248) 3) → aTm aT0 (sx mem 248 3 (y69 + 1)) → P (some (.int 0)) (sx mem 248 3 (y69 + 1))) (h17 : ¬ (gi mem 221 46).toInt = 0 → ∀ (y12 : Int32), y12.toInt = (gn (ga mem 223) (gi mem 221 13).toInt) → ∀ (x14 : Int32), x14.toInt = ((gn (ga mem 223) (gi mem 221 13).toInt) - 1) → 0 ≤ (x).toInt → (x).toInt ≤ ((gn (ga mem 223) (gi mem 221 13).toInt) - 1) → ∀ (y38 : Int32), y38.toInt = (gn (ga mem 224) (gi mem 221 13).toInt) → ∀ (x40 : Int32), x40.toInt = ((gn (ga mem 224) (gi mem 221 13).toInt) - 1) → 0 ≤ (y).toInt → (y).toInt ≤ ((gn (ga mem 224) (gi mem 221 13).toInt) - 1) → ∀ (x64 : Int32), x64.toInt = (8 * (y).toInt) → ∀ (x66 : Int32), x66.toInt = ((8 * (y).toInt) + (x).toInt) → 0 ≤ (f).toInt → ∀ (y71 : Int32), y71.toInt = (gn (ga mem 233) (gi mem 221 13).toInt) → (gn (ga mem 233) (gi mem 221 13).toInt) ≤ (f).toInt → ∀ (y74 : Int32), y74.toInt = (gn (ga mem 248) 3) → aTm aT0 (sx mem 248 3 (y74 + 1)) → P (some (.int 0)) (sx mem 248 3 (y74 + 1))) (h18 : ¬ (gi mem 221 46).toInt = 0 → ∀ (y12 : Int32), y12.toInt = (gn (ga mem 223) (gi mem 221 13).toInt) → ∀ (x14 : Int32), x14.toInt = ((gn (ga mem 223) (gi mem 221 13).toInt) - 1) → 0 ≤ (x).toInt → (x).toInt ≤ ((gn (ga mem 223) (gi mem 221 13).toInt) - 1) → ∀ (y38 : Int32), y38.toInt = (gn (ga mem 224) (gi mem 221 13).toInt) → ∀ (x40 : Int32), x40.toInt = ((gn (ga mem 224) (gi mem 221 13).toInt) - 1) → 0 ≤ (y).toInt → (y).toInt ≤ ((gn (ga mem 224) (gi mem 221 13).toInt) - 1) → ∀ (x64 : Int32), x64.toInt = (8 * (y).toInt) → ∀ (x66 : Int32), x66.toInt = ((8 * (y).toInt) + (x).toInt) → 0 ≤ (f).toInt → ∀ (y71 : Int32), y71.toInt = (gn (ga mem 233) (gi mem 221 13).toInt) → (f).toInt < (gn (ga mem 233) (gi mem 221 13).toInt) → ((8 * (y).toInt) + (x).toInt) = (-1) → ∀ (y77 : Int32), y77.toInt = (gn (ga mem 248) 3) → aTm aT0 (sx mem 248 3 (y77 + 1)) → P (some (.int 0)) (sx mem 248 3 (y77 + 1))) (h19 : ¬ (gi mem 221 46).toInt = 0 → ∀ (y12 : Int32), y12.toInt = (gn (ga mem 223) (gi mem 221 13).toInt) → ∀ (x14 : Int32), x14.toInt = ((gn (ga mem 223) (gi mem 221 13).toInt) - 1) → 0 ≤ (x).toInt → (x).toInt ≤ ((gn (ga mem 223) (gi mem 221 13).toInt) - 1) → ∀ (y38 : Int32), y38.toInt = (gn (ga mem 224) (gi mem 221 13).toInt) → ∀ (x40 : Int32), x40.toInt = ((gn (ga mem 224) (gi mem 221 13).toInt) - 1) → 0 ≤ (y).toInt → (y).toInt ≤ ((gn (ga mem 224) (gi mem 221 13).toInt) - 1) → ∀ (x64 : Int32), x64.toInt = (8 * (y).toInt) → ∀ (x66 : Int32), x66.toInt = ((8 * (y).toInt) + (x).toInt) → 0 ≤ (f).toInt → ∀ (y71 : Int32), y71.toInt = (gn (ga mem 233) (gi mem 221 13).toInt) → (f).toInt < (gn (ga mem 233) (gi mem 221 13).toInt) → ¬ ((8 * (y).toInt) + (x).toInt) = (-1) → ∀ (x79 : Int32), x79.toInt = (64 * (gi mem 221 13).toInt) → ∀ (x81 : Int32), x81.toInt = ((64 * (gi mem 221 13).toInt) + ((8 * (y).toInt) + (x).toInt)) → ∀ (y83 : Int32), y83.toInt = (gn (ga mem 227) ((64 * (gi mem 221 13).toInt) + ((8 * (y).toInt) + (x).toInt))) → ¬ (gn (ga mem 227) ((64 * (gi mem 221 13).toInt) + ((8 * (y).toInt) + (x).toInt))) = 1 → ∀ (y86 : Int32), y86.toInt = (gn (ga mem 252) (f).toInt) → ¬ (gn (ga mem 252) (f).toInt) = ((8 * (y).toInt) + (x).toInt) → ∀ (m89 : zM), aTm aT0 m89 → (onl [221, 249, 250, 251, 252, 253, 254] mem m89 ∧ (∀ i, ¬ i = 54 → ¬ i = 55 → zfl m89 221 i = zfl mem 221 i) ∧ tM 0 Q hu S m89 ∧ kM 0 K m89 ∧ rgM Q hu (pdN P0 (S, K)) m89) → aTm aT0 (sx m89 252 f x66) → P (some (.int 1)) (sx m89 252 f x66)) (h20 : ¬ (gi mem 221 46).toInt = 0 → ∀ (y12 : Int32), y12.toInt = (gn (ga mem 223) (gi mem 221 13).toInt) → ∀ (x14 : Int32), x14.toInt = ((gn (ga mem 223) (gi mem 221 13).toInt) - 1) → 0 ≤ (x).toInt → (x).toInt ≤ ((gn (ga mem 223) (gi mem 221 13).toInt) - 1) → ∀ (y38 : Int32), y38.toInt = (gn (ga mem 224) (gi mem 221 13).toInt) → ∀ (x40 : Int32), x40.toInt = ((gn (ga mem 224) (gi mem 221 13).toInt) - 1) → 0 ≤ (y).toInt → (y).toInt ≤ ((gn (ga mem 224) (gi mem 221 13).toInt) - 1) → ∀ (x64 : Int32), x64.toInt = (8 * (y).toInt) → ∀ (x66 : Int32), x66.toInt = ((8 * (y).toInt) + (x).toInt) → 0 ≤ (f).toInt → ∀ (y71 : Int32), y71.toInt = (gn (ga mem 233) (gi mem 221 13).toInt) → (f).toInt < (gn (ga mem 233) (gi mem 221 13).toInt) → ¬ ((8 * (y).toInt) + (x).toInt) = (-1) → ∀ (x79 : Int32), x79.toInt = (64 * (gi mem 221 13).toInt) → ∀ (x81 : Int32), x81.toInt = ((64 * (gi mem 221 13).toInt) + ((8 * (y).toInt) + (x).toInt)) → ∀ (y83 : Int32), y83.toInt = (gn (ga mem 227) ((64 * (gi mem 221 13).toInt) + ((8 * (y).toInt) + (x).toInt))) → ¬ (gn (ga mem 227) ((64 * (gi mem 221 13).toInt) + ((8 * (y).toInt) + (x).toInt))) = 1 → ∀ (y86 : Int32), y86.toInt = (gn (ga mem 252) (f).toInt) → (gn (ga mem 252) (f).toInt) = ((8 * (y).toInt) + (x).toInt) → ∀ (y91 : Int32), y91.toInt = (gn (ga mem 248) 3) → aTm aT0 (sx mem 248 3 (y91 + 1)) → P (some (.int 0)) (sx mem 248 3 (y91 + 1))) (h21 : ¬ (gi mem 221 46).toInt = 0 → ∀ (y12 : Int32), y12.toInt = (gn (ga mem 223) (gi mem 221 13).toInt) → ∀ (x14 : Int32), x14.toInt = ((gn (ga mem 223) (gi mem 221 13).toInt) - 1) → 0 ≤ (x).toInt → (x).toInt ≤ ((gn (ga mem 223) (gi mem 221 13).toInt) - 1) → ∀ (y38 : Int32), y38.toInt = (gn (ga mem 224) (gi mem 221 13).toInt) → ∀ (x40 : Int32), x40.toInt = ((gn (ga mem 224) (gi mem 221 13).toInt) - 1) → 0 ≤ (y).toInt → (y).toInt ≤ ((gn (ga mem 224) (gi mem 221 13).toInt) - 1) → ∀ (x64 : Int32), x64.toInt = (8 * (y).toInt) → ∀ (x66 : Int32), x66.toInt = ((8 * (y).toInt) + (x).toInt) → 0 ≤ (f).toInt → ∀ (y71 : Int32), y71.toInt = (gn (ga mem 233) (gi mem 221 13).toInt) → (f).toInt < (gn (ga mem 233) (gi mem 221 13).toInt) → ¬ ((8 * (y).toInt) + (x).toInt) = (-1) → ∀ (x79 : Int32), x79.toInt = (64 * (gi mem 221 13).toInt) → ∀ (x81 : Int32), x81.toInt = ((64 * (gi mem 221 13).toInt) + ((8 * (y).toInt) + (x).toInt)) → ∀ (y83 : Int32), y83.toInt = (gn (ga mem 227) ((64 * (gi mem 221 13).toInt) + ((8 * (y).toInt) + (x).toInt))) → (gn (ga mem 227) ((64 * (gi mem 221 13).toInt) + ((8 * (y).toInt) + (x).toInt))) = 1 → ∀ (y93 : Int32), y93.toInt = (gn (ga mem 248) 3) → aTm aT0 (sx mem 248 3 (y93 + 1)) → P (some (.int 0)) (sx mem 248 3 (y93 + 1))) : yR zpg tX12_lead (d + 15) (0, [(0, .ref 221), (1, .int f), (2, .int x), (3, .int y)], [], mem) P := by
  have s0 := hS.1.1
  have s9 := hs.1
  have rb := mO_r13 hm
  have mf := hM.1.2.2.2.2.1.1
  have f9 := hW.2.1.2.1
  have e9 : foN Q = ((Qf Q).length : Int) := rfl
  have mc := hM.1.1.1
  have mr := hM.1.1.2
  have w7 := hW.1
  refine yR_m 3 (fun _ _ _ _ => rfl) ?_
  refine wR_iv rfl rfl mO_e hm rfl rfl rfl rfl ?_
  show yR zpg tX12_isCell (d + 14) (0, [(0, .ref 221), (1, .int x), (2, .int y)], [], mem) _
  refine yR_m 1 (fun _ _ _ _ => rfl) ?_
  refine wR_gi rfl mO_e mO_46 hm rfl ?_
  refine wR_if_eq rfl (a := (gi mem 221 46).toInt) rfl (fun q1 => ?_) (fun q1 => ?_)
  ·
    refine yR_m 1 (fun _ _ _ _ => rfl) ?_
    refine yR_rz rfl ⟨by decide, by decide⟩ ?_
    show yR zpg tX12_lead (d + 15) (6, [(0, .ref 221), (1, .int f), (2, .int x), (3, .int y)], [.int 0], mem) _
    refine wR_if_eq rfl (a := 0) rfl (fun _ => ?_) (fun q => by exfalso; omega)
    refine yR_m 4 (fun _ _ _ _ => rfl) ?_
    refine wR_iv rfl rfl mO_e hm rfl rfl rfl rfl ?_
    show yR zpg tX12_isFolk (d + 14) (0, [(0, .ref 221), (1, .int f)], [], mem) _
    refine yR_m 1 (fun _ _ _ _ => rfl) ?_
    refine wR_if_lt rfl (a := (f).toInt) rfl (fun q2 => ?_) (fun q2 => ?_)
    ·
      refine yR_m 1 (fun _ _ _ _ => rfl) ?_
      refine yR_rz rfl ⟨by decide, by decide⟩ ?_
      show yR zpg tX12_lead (d + 15) (26, [(4, .int (-1)), (0, .ref 221), (1, .int f), (2, .int x), (3, .int y)], [.int 0], mem) _
      refine wR_if_eq rfl (a := 0) rfl (fun _ => ?_) (fun q => by exfalso; omega)
      refine yR_m 2 (fun _ _ _ _ => rfl) ?_
      refine wR_iv rfl rfl mO_e hm rfl rfl rfl rfl ?_
      show yR zpg tX12_refuses (d + 14) (0, [(0, .ref 221), (1, .int 3)], [], mem) _
      refine yR_m 1 (fun _ _ _ _ => rfl) ?_
      refine wR_gr rfl mO_e mO_47 hm ?_
      refine yR_m 2 (fun _ _ _ _ => rfl) ?_
      refine wN_al (a := 3) rfl aR_248 hm rfl rfl (by decide) (fun y3 e4 => ?_)
      refine yR_m 2 (fun _ _ _ _ => rfl) ?_
      refine wN_as (a := 3) rfl aR_248 hm rfl (by decide) ?_
      have hm_1 : aTm aT0 (sx mem 248 3 (y3 + 1)) := tm_sa aR_248 hm (i32_b _)
      refine yR_m 1 (fun _ _ _ _ => rfl) ?_
      refine yR_ri rfl ?_
      show yR zpg tX12_lead (d + 15) (60, [(4, .int (-1)), (0, .ref 221), (1, .int f), (2, .int x), (3, .int y)], [.int (-1)], (sx mem 248 3 (y3 + 1))) _
      refine wR_if_lt rfl (a := (-1)) tm1 (fun _ => ?_) (fun q => by exfalso; omega)
      refine yR_m 1 (fun _ _ _ _ => rfl) ?_
      exact yR_rz rfl ⟨by decide, by decide⟩ (h1 q1 q2 y3 e4 hm_1)
    ·
      refine yR_m 2 (fun _ _ _ _ => rfl) ?_
      refine wR_gr rfl mO_e mO_24 hm ?_
      refine yR_m 1 (fun _ _ _ _ => rfl) ?_
      refine wR_gi rfl mO_e mO_13 hm rfl ?_
      refine wN_al (a := (gi mem 221 13).toInt) rfl aR_233 hm rfl rfl (by omega) (fun y5 e6 => ?_)
      refine wR_ic_ge rfl (a := (f).toInt) (c := (gn (ga mem 233) (gi mem 221 13).toInt)) rfl e6 (fun q7 => ?_) (fun q7 => ?_)
      ·
        refine yR_m 1 (fun _ _ _ _ => rfl) ?_
        refine yR_rz rfl ⟨by decide, by decide⟩ ?_
        show yR zpg tX12_lead (d + 15) (26, [(4, .int (-1)), (0, .ref 221), (1, .int f), (2, .int x), (3, .int y)], [.int 0], mem) _
        refine wR_if_eq rfl (a := 0) rfl (fun _ => ?_) (fun q => by exfalso; omega)
        refine yR_m 2 (fun _ _ _ _ => rfl) ?_
        refine wR_iv rfl rfl mO_e hm rfl rfl rfl rfl ?_
        show yR zpg tX12_refuses (d + 14) (0, [(0, .ref 221), (1, .int 3)], [], mem) _
        refine yR_m 1 (fun _ _ _ _ => rfl) ?_
        refine wR_gr rfl mO_e mO_47 hm ?_
        refine yR_m 2 (fun _ _ _ _ => rfl) ?_
        refine wN_al (a := 3) rfl aR_248 hm rfl rfl (by decide) (fun y8 e9 => ?_)
        refine yR_m 2 (fun _ _ _ _ => rfl) ?_
        refine wN_as (a := 3) rfl aR_248 hm rfl (by decide) ?_
        have hm_2 : aTm aT0 (sx mem 248 3 (y8 + 1)) := tm_sa aR_248 hm (i32_b _)
        refine yR_m 1 (fun _ _ _ _ => rfl) ?_
        refine yR_ri rfl ?_
        show yR zpg tX12_lead (d + 15) (60, [(4, .int (-1)), (0, .ref 221), (1, .int f), (2, .int x), (3, .int y)], [.int (-1)], (sx mem 248 3 (y8 + 1))) _
        refine wR_if_lt rfl (a := (-1)) tm1 (fun _ => ?_) (fun q => by exfalso; omega)
        refine yR_m 1 (fun _ _ _ _ => rfl) ?_
        exact yR_rz rfl ⟨by decide, by decide⟩ (h2 q1 q2 y5 e6 q7 y8 e9 hm_2)
      ·
        refine yR_m 2 (fun _ _ _ _ => rfl) ?_
        refine yR_rz rfl ⟨by decide, by decide⟩ ?_
        show yR zpg tX12_lead (d + 15) (26, [(4, .int (-1)), (0, .ref 221), (1, .int f), (2, .int x), (3, .int y)], [.int 1], mem) _
        refine wR_if_eq rfl (a := 1) rfl (fun q => by exfalso; omega) (fun _ => ?_)
        refine yR_m 2 (fun _ _ _ _ => rfl) ?_
        refine wR_ic_eq rfl (a := (-1)) (c := (-1)) tm1 tm1 (fun _ => ?_) (fun q => by exfalso; omega)
        refine yR_m 2 (fun _ _ _ _ => rfl) ?_
        refine wR_iv rfl rfl mO_e hm rfl rfl rfl rfl ?_
        show yR zpg tX12_refuses (d + 14) (0, [(0, .ref 221), (1, .int 3)], [], mem) _
        refine yR_m 1 (fun _ _ _ _ => rfl) ?_
        refine wR_gr rfl mO_e mO_47 hm ?_
        refine yR_m 2 (fun _ _ _ _ => rfl) ?_
        refine wN_al (a := 3) rfl aR_248 hm rfl rfl (by decide) (fun y10 e11 => ?_)
        refine yR_m 2 (fun _ _ _ _ => rfl) ?_
        refine wN_as (a := 3) rfl aR_248 hm rfl (by decide) ?_
        have hm_3 : aTm aT0 (sx mem 248 3 (y10 + 1)) := tm_sa aR_248 hm (i32_b _)
        refine yR_m 1 (fun _ _ _ _ => rfl) ?_
        refine yR_ri rfl ?_
        show yR zpg tX12_lead (d + 15) (60, [(4, .int (-1)), (0, .ref 221), (1, .int f), (2, .int x), (3, .int y)], [.int (-1)], (sx mem 248 3 (y10 + 1))) _
        refine wR_if_lt rfl (a := (-1)) tm1 (fun _ => ?_) (fun q => by exfalso; omega)
        refine yR_m 1 (fun _ _ _ _ => rfl) ?_
        exact yR_rz rfl ⟨by decide, by decide⟩ (h3 q1 q2 y5 e6 q7 y10 e11 hm_3)
  ·
    refine yR_m 3 (fun _ _ _ _ => rfl) ?_
    refine wR_gr rfl mO_e mO_14 hm ?_
    refine yR_m 1 (fun _ _ _ _ => rfl) ?_
    refine wR_gi rfl mO_e mO_13 hm rfl ?_
    refine wN_al (a := (gi mem 221 13).toInt) rfl aR_223 hm rfl rfl (by omega) (fun y12 e13 => ?_)
    refine yR_m 1 (fun _ _ _ _ => rfl) ?_
    refine wN_sub (a := (gn (ga mem 223) (gi mem 221 13).toInt)) (b := 1) rfl e13 rfl (by omega) (fun x14 e15 => ?_)
    refine wR_is rfl rfl rfl rfl rfl rfl ?_
    show yR zpg tX12_is (d + 13) (0, [(0, .int x), (1, .int 0), (2, .int x14)], [], mem) _
    refine yR_m 2 (fun _ _ _ _ => rfl) ?_
    refine wR_ic_lt rfl (a := (x).toInt) (c := 0) rfl rfl (fun q16 => ?_) (fun q16 => ?_)
    ·
      refine yR_m 1 (fun _ _ _ _ => rfl) ?_
      refine yR_rz rfl ⟨by decide, by decide⟩ ?_
      show yR zpg tX12_isCell (d + 14) (23, [(0, .ref 221), (1, .int x), (2, .int y)], [.int 0], mem) _
      refine wR_if_eq rfl (a := 0) rfl (fun _ => ?_) (fun q => by exfalso; omega)
      refine yR_m 1 (fun _ _ _ _ => rfl) ?_
      refine yR_rz rfl ⟨by decide, by decide⟩ ?_
      show yR zpg tX12_lead (d + 15) (6, [(0, .ref 221), (1, .int f), (2, .int x), (3, .int y)], [.int 0], mem) _
      refine wR_if_eq rfl (a := 0) rfl (fun _ => ?_) (fun q => by exfalso; omega)
      refine yR_m 4 (fun _ _ _ _ => rfl) ?_
      refine wR_iv rfl rfl mO_e hm rfl rfl rfl rfl ?_
      show yR zpg tX12_isFolk (d + 14) (0, [(0, .ref 221), (1, .int f)], [], mem) _
      refine yR_m 1 (fun _ _ _ _ => rfl) ?_
      refine wR_if_lt rfl (a := (f).toInt) rfl (fun q17 => ?_) (fun q17 => ?_)
      ·
        refine yR_m 1 (fun _ _ _ _ => rfl) ?_
        refine yR_rz rfl ⟨by decide, by decide⟩ ?_
        show yR zpg tX12_lead (d + 15) (26, [(4, .int (-1)), (0, .ref 221), (1, .int f), (2, .int x), (3, .int y)], [.int 0], mem) _
        refine wR_if_eq rfl (a := 0) rfl (fun _ => ?_) (fun q => by exfalso; omega)
        refine yR_m 2 (fun _ _ _ _ => rfl) ?_
        refine wR_iv rfl rfl mO_e hm rfl rfl rfl rfl ?_
        show yR zpg tX12_refuses (d + 14) (0, [(0, .ref 221), (1, .int 3)], [], mem) _
        refine yR_m 1 (fun _ _ _ _ => rfl) ?_
        refine wR_gr rfl mO_e mO_47 hm ?_
        refine yR_m 2 (fun _ _ _ _ => rfl) ?_
        refine wN_al (a := 3) rfl aR_248 hm rfl rfl (by decide) (fun y18 e19 => ?_)
        refine yR_m 2 (fun _ _ _ _ => rfl) ?_
        refine wN_as (a := 3) rfl aR_248 hm rfl (by decide) ?_
        have hm_4 : aTm aT0 (sx mem 248 3 (y18 + 1)) := tm_sa aR_248 hm (i32_b _)
        refine yR_m 1 (fun _ _ _ _ => rfl) ?_
        refine yR_ri rfl ?_
        show yR zpg tX12_lead (d + 15) (60, [(4, .int (-1)), (0, .ref 221), (1, .int f), (2, .int x), (3, .int y)], [.int (-1)], (sx mem 248 3 (y18 + 1))) _
        refine wR_if_lt rfl (a := (-1)) tm1 (fun _ => ?_) (fun q => by exfalso; omega)
        refine yR_m 1 (fun _ _ _ _ => rfl) ?_
        exact yR_rz rfl ⟨by decide, by decide⟩ (h4 q1 y12 e13 x14 e15 q16 q17 y18 e19 hm_4)
      ·
        refine yR_m 2 (fun _ _ _ _ => rfl) ?_
        refine wR_gr rfl mO_e mO_24 hm ?_
        refine yR_m 1 (fun _ _ _ _ => rfl) ?_
        refine wR_gi rfl mO_e mO_13 hm rfl ?_
        refine wN_al (a := (gi mem 221 13).toInt) rfl aR_233 hm rfl rfl (by omega) (fun y20 e21 => ?_)
        refine wR_ic_ge rfl (a := (f).toInt) (c := (gn (ga mem 233) (gi mem 221 13).toInt)) rfl e21 (fun q22 => ?_) (fun q22 => ?_)
        ·
          refine yR_m 1 (fun _ _ _ _ => rfl) ?_
          refine yR_rz rfl ⟨by decide, by decide⟩ ?_
          show yR zpg tX12_lead (d + 15) (26, [(4, .int (-1)), (0, .ref 221), (1, .int f), (2, .int x), (3, .int y)], [.int 0], mem) _
          refine wR_if_eq rfl (a := 0) rfl (fun _ => ?_) (fun q => by exfalso; omega)
          refine yR_m 2 (fun _ _ _ _ => rfl) ?_
          refine wR_iv rfl rfl mO_e hm rfl rfl rfl rfl ?_
          show yR zpg tX12_refuses (d + 14) (0, [(0, .ref 221), (1, .int 3)], [], mem) _
          refine yR_m 1 (fun _ _ _ _ => rfl) ?_
          refine wR_gr rfl mO_e mO_47 hm ?_
          refine yR_m 2 (fun _ _ _ _ => rfl) ?_
          refine wN_al (a := 3) rfl aR_248 hm rfl rfl (by decide) (fun y23 e24 => ?_)
          refine yR_m 2 (fun _ _ _ _ => rfl) ?_
          refine wN_as (a := 3) rfl aR_248 hm rfl (by decide) ?_
          have hm_5 : aTm aT0 (sx mem 248 3 (y23 + 1)) := tm_sa aR_248 hm (i32_b _)
          refine yR_m 1 (fun _ _ _ _ => rfl) ?_
          refine yR_ri rfl ?_
          show yR zpg tX12_lead (d + 15) (60, [(4, .int (-1)), (0, .ref 221), (1, .int f), (2, .int x), (3, .int y)], [.int (-1)], (sx mem 248 3 (y23 + 1))) _
          refine wR_if_lt rfl (a := (-1)) tm1 (fun _ => ?_) (fun q => by exfalso; omega)
          refine yR_m 1 (fun _ _ _ _ => rfl) ?_
          exact yR_rz rfl ⟨by decide, by decide⟩ (h5 q1 y12 e13 x14 e15 q16 q17 y20 e21 q22 y23 e24 hm_5)
        ·
          refine yR_m 2 (fun _ _ _ _ => rfl) ?_
          refine yR_rz rfl ⟨by decide, by decide⟩ ?_
          show yR zpg tX12_lead (d + 15) (26, [(4, .int (-1)), (0, .ref 221), (1, .int f), (2, .int x), (3, .int y)], [.int 1], mem) _
          refine wR_if_eq rfl (a := 1) rfl (fun q => by exfalso; omega) (fun _ => ?_)
          refine yR_m 2 (fun _ _ _ _ => rfl) ?_
          refine wR_ic_eq rfl (a := (-1)) (c := (-1)) tm1 tm1 (fun _ => ?_) (fun q => by exfalso; omega)
          refine yR_m 2 (fun _ _ _ _ => rfl) ?_
          refine wR_iv rfl rfl mO_e hm rfl rfl rfl rfl ?_
          show yR zpg tX12_refuses (d + 14) (0, [(0, .ref 221), (1, .int 3)], [], mem) _
          refine yR_m 1 (fun _ _ _ _ => rfl) ?_
          refine wR_gr rfl mO_e mO_47 hm ?_
          refine yR_m 2 (fun _ _ _ _ => rfl) ?_
          refine wN_al (a := 3) rfl aR_248 hm rfl rfl (by decide) (fun y25 e26 => ?_)
          refine yR_m 2 (fun _ _ _ _ => rfl) ?_
          refine wN_as (a := 3) rfl aR_248 hm rfl (by decide) ?_
          have hm_6 : aTm aT0 (sx mem 248 3 (y25 + 1)) := tm_sa aR_248 hm (i32_b _)
          refine yR_m 1 (fun _ _ _ _ => rfl) ?_
          refine yR_ri rfl ?_
          show yR zpg tX12_lead (d + 15) (60, [(4, .int (-1)), (0, .ref 221), (1, .int f), (2, .int x), (3, .int y)], [.int (-1)], (sx mem 248 3 (y25 + 1))) _
          refine wR_if_lt rfl (a := (-1)) tm1 (fun _ => ?_) (fun q => by exfalso; omega)
          refine yR_m 1 (fun _ _ _ _ => rfl) ?_
          exact yR_rz rfl ⟨by decide, by decide⟩ (h6 q1 y12 e13 x14 e15 q16 q17 y20 e21 q22 y25 e26 hm_6)
    ·
      refine yR_m 2 (fun _ _ _ _ => rfl) ?_
      refine wR_ic_gt rfl (a := (x).toInt) (c := ((gn (ga mem 223) (gi mem 221 13).toInt) - 1)) rfl e15 (fun q27 => ?_) (fun q27 => ?_)
      ·
        refine yR_m 1 (fun _ _ _ _ => rfl) ?_
        refine yR_rz rfl ⟨by decide, by decide⟩ ?_
        show yR zpg tX12_isCell (d + 14) (23, [(0, .ref 221), (1, .int x), (2, .int y)], [.int 0], mem) _
        refine wR_if_eq rfl (a := 0) rfl (fun _ => ?_) (fun q => by exfalso; omega)
        refine yR_m 1 (fun _ _ _ _ => rfl) ?_
        refine yR_rz rfl ⟨by decide, by decide⟩ ?_
        show yR zpg tX12_lead (d + 15) (6, [(0, .ref 221), (1, .int f), (2, .int x), (3, .int y)], [.int 0], mem) _
        refine wR_if_eq rfl (a := 0) rfl (fun _ => ?_) (fun q => by exfalso; omega)
        refine yR_m 4 (fun _ _ _ _ => rfl) ?_
        refine wR_iv rfl rfl mO_e hm rfl rfl rfl rfl ?_
        show yR zpg tX12_isFolk (d + 14) (0, [(0, .ref 221), (1, .int f)], [], mem) _
        refine yR_m 1 (fun _ _ _ _ => rfl) ?_
        refine wR_if_lt rfl (a := (f).toInt) rfl (fun q28 => ?_) (fun q28 => ?_)
        ·
          refine yR_m 1 (fun _ _ _ _ => rfl) ?_
          refine yR_rz rfl ⟨by decide, by decide⟩ ?_
          show yR zpg tX12_lead (d + 15) (26, [(4, .int (-1)), (0, .ref 221), (1, .int f), (2, .int x), (3, .int y)], [.int 0], mem) _
          refine wR_if_eq rfl (a := 0) rfl (fun _ => ?_) (fun q => by exfalso; omega)
          refine yR_m 2 (fun _ _ _ _ => rfl) ?_
          refine wR_iv rfl rfl mO_e hm rfl rfl rfl rfl ?_
          show yR zpg tX12_refuses (d + 14) (0, [(0, .ref 221), (1, .int 3)], [], mem) _
          refine yR_m 1 (fun _ _ _ _ => rfl) ?_
          refine wR_gr rfl mO_e mO_47 hm ?_
          refine yR_m 2 (fun _ _ _ _ => rfl) ?_
          refine wN_al (a := 3) rfl aR_248 hm rfl rfl (by decide) (fun y29 e30 => ?_)
          refine yR_m 2 (fun _ _ _ _ => rfl) ?_
          refine wN_as (a := 3) rfl aR_248 hm rfl (by decide) ?_
          have hm_7 : aTm aT0 (sx mem 248 3 (y29 + 1)) := tm_sa aR_248 hm (i32_b _)
          refine yR_m 1 (fun _ _ _ _ => rfl) ?_
          refine yR_ri rfl ?_
          show yR zpg tX12_lead (d + 15) (60, [(4, .int (-1)), (0, .ref 221), (1, .int f), (2, .int x), (3, .int y)], [.int (-1)], (sx mem 248 3 (y29 + 1))) _
          refine wR_if_lt rfl (a := (-1)) tm1 (fun _ => ?_) (fun q => by exfalso; omega)
          refine yR_m 1 (fun _ _ _ _ => rfl) ?_
          exact yR_rz rfl ⟨by decide, by decide⟩ (h7 q1 y12 e13 x14 e15 q16 q27 q28 y29 e30 hm_7)
        ·
          refine yR_m 2 (fun _ _ _ _ => rfl) ?_
          refine wR_gr rfl mO_e mO_24 hm ?_
          refine yR_m 1 (fun _ _ _ _ => rfl) ?_
          refine wR_gi rfl mO_e mO_13 hm rfl ?_
          refine wN_al (a := (gi mem 221 13).toInt) rfl aR_233 hm rfl rfl (by omega) (fun y31 e32 => ?_)
          refine wR_ic_ge rfl (a := (f).toInt) (c := (gn (ga mem 233) (gi mem 221 13).toInt)) rfl e32 (fun q33 => ?_) (fun q33 => ?_)
          ·
            refine yR_m 1 (fun _ _ _ _ => rfl) ?_
            refine yR_rz rfl ⟨by decide, by decide⟩ ?_
            show yR zpg tX12_lead (d + 15) (26, [(4, .int (-1)), (0, .ref 221), (1, .int f), (2, .int x), (3, .int y)], [.int 0], mem) _
            refine wR_if_eq rfl (a := 0) rfl (fun _ => ?_) (fun q => by exfalso; omega)
            refine yR_m 2 (fun _ _ _ _ => rfl) ?_
            refine wR_iv rfl rfl mO_e hm rfl rfl rfl rfl ?_
            show yR zpg tX12_refuses (d + 14) (0, [(0, .ref 221), (1, .int 3)], [], mem) _
            refine yR_m 1 (fun _ _ _ _ => rfl) ?_
            refine wR_gr rfl mO_e mO_47 hm ?_
            refine yR_m 2 (fun _ _ _ _ => rfl) ?_
            refine wN_al (a := 3) rfl aR_248 hm rfl rfl (by decide) (fun y34 e35 => ?_)
            refine yR_m 2 (fun _ _ _ _ => rfl) ?_
            refine wN_as (a := 3) rfl aR_248 hm rfl (by decide) ?_
            have hm_8 : aTm aT0 (sx mem 248 3 (y34 + 1)) := tm_sa aR_248 hm (i32_b _)
            refine yR_m 1 (fun _ _ _ _ => rfl) ?_
            refine yR_ri rfl ?_
            show yR zpg tX12_lead (d + 15) (60, [(4, .int (-1)), (0, .ref 221), (1, .int f), (2, .int x), (3, .int y)], [.int (-1)], (sx mem 248 3 (y34 + 1))) _
            refine wR_if_lt rfl (a := (-1)) tm1 (fun _ => ?_) (fun q => by exfalso; omega)
            refine yR_m 1 (fun _ _ _ _ => rfl) ?_
            exact yR_rz rfl ⟨by decide, by decide⟩ (h8 q1 y12 e13 x14 e15 q16 q27 q28 y31 e32 q33 y34 e35 hm_8)
          ·
            refine yR_m 2 (fun _ _ _ _ => rfl) ?_
            refine yR_rz rfl ⟨by decide, by decide⟩ ?_
            show yR zpg tX12_lead (d + 15) (26, [(4, .int (-1)), (0, .ref 221), (1, .int f), (2, .int x), (3, .int y)], [.int 1], mem) _
            refine wR_if_eq rfl (a := 1) rfl (fun q => by exfalso; omega) (fun _ => ?_)
            refine yR_m 2 (fun _ _ _ _ => rfl) ?_
            refine wR_ic_eq rfl (a := (-1)) (c := (-1)) tm1 tm1 (fun _ => ?_) (fun q => by exfalso; omega)
            refine yR_m 2 (fun _ _ _ _ => rfl) ?_
            refine wR_iv rfl rfl mO_e hm rfl rfl rfl rfl ?_
            show yR zpg tX12_refuses (d + 14) (0, [(0, .ref 221), (1, .int 3)], [], mem) _
            refine yR_m 1 (fun _ _ _ _ => rfl) ?_
            refine wR_gr rfl mO_e mO_47 hm ?_
            refine yR_m 2 (fun _ _ _ _ => rfl) ?_
            refine wN_al (a := 3) rfl aR_248 hm rfl rfl (by decide) (fun y36 e37 => ?_)
            refine yR_m 2 (fun _ _ _ _ => rfl) ?_
            refine wN_as (a := 3) rfl aR_248 hm rfl (by decide) ?_
            have hm_9 : aTm aT0 (sx mem 248 3 (y36 + 1)) := tm_sa aR_248 hm (i32_b _)
            refine yR_m 1 (fun _ _ _ _ => rfl) ?_
            refine yR_ri rfl ?_
            show yR zpg tX12_lead (d + 15) (60, [(4, .int (-1)), (0, .ref 221), (1, .int f), (2, .int x), (3, .int y)], [.int (-1)], (sx mem 248 3 (y36 + 1))) _
            refine wR_if_lt rfl (a := (-1)) tm1 (fun _ => ?_) (fun q => by exfalso; omega)
            refine yR_m 1 (fun _ _ _ _ => rfl) ?_
            exact yR_rz rfl ⟨by decide, by decide⟩ (h9 q1 y12 e13 x14 e15 q16 q27 q28 y31 e32 q33 y36 e37 hm_9)
      ·
        refine yR_m 2 (fun _ _ _ _ => rfl) ?_
        refine yR_rz rfl ⟨by decide, by decide⟩ ?_
        show yR zpg tX12_isCell (d + 14) (23, [(0, .ref 221), (1, .int x), (2, .int y)], [.int 1], mem) _
        refine wR_if_eq rfl (a := 1) rfl (fun q => by exfalso; omega) (fun _ => ?_)
        refine yR_m 3 (fun _ _ _ _ => rfl) ?_
        refine wR_gr rfl mO_e mO_15 hm ?_
        refine yR_m 1 (fun _ _ _ _ => rfl) ?_
        refine wR_gi rfl mO_e mO_13 hm rfl ?_
        refine wN_al (a := (gi mem 221 13).toInt) rfl aR_224 hm rfl rfl (by omega) (fun y38 e39 => ?_)
        refine yR_m 1 (fun _ _ _ _ => rfl) ?_
        refine wN_sub (a := (gn (ga mem 224) (gi mem 221 13).toInt)) (b := 1) rfl e39 rfl (by omega) (fun x40 e41 => ?_)
        refine wR_is rfl rfl rfl rfl rfl rfl ?_
        show yR zpg tX12_is (d + 13) (0, [(0, .int y), (1, .int 0), (2, .int x40)], [], mem) _
        refine yR_m 2 (fun _ _ _ _ => rfl) ?_
        refine wR_ic_lt rfl (a := (y).toInt) (c := 0) rfl rfl (fun q42 => ?_) (fun q42 => ?_)
        ·
          refine yR_m 1 (fun _ _ _ _ => rfl) ?_
          refine yR_rz rfl ⟨by decide, by decide⟩ ?_
          show yR zpg tX12_isCell (d + 14) (42, [(0, .ref 221), (1, .int x), (2, .int y)], [.int 0], mem) _
          refine wR_if_eq rfl (a := 0) rfl (fun _ => ?_) (fun q => by exfalso; omega)
          refine yR_m 1 (fun _ _ _ _ => rfl) ?_
          refine yR_rz rfl ⟨by decide, by decide⟩ ?_
          show yR zpg tX12_lead (d + 15) (6, [(0, .ref 221), (1, .int f), (2, .int x), (3, .int y)], [.int 0], mem) _
          refine wR_if_eq rfl (a := 0) rfl (fun _ => ?_) (fun q => by exfalso; omega)
          refine yR_m 4 (fun _ _ _ _ => rfl) ?_
          refine wR_iv rfl rfl mO_e hm rfl rfl rfl rfl ?_
          show yR zpg tX12_isFolk (d + 14) (0, [(0, .ref 221), (1, .int f)], [], mem) _
          refine yR_m 1 (fun _ _ _ _ => rfl) ?_
          refine wR_if_lt rfl (a := (f).toInt) rfl (fun q43 => ?_) (fun q43 => ?_)
          ·
            refine yR_m 1 (fun _ _ _ _ => rfl) ?_
            refine yR_rz rfl ⟨by decide, by decide⟩ ?_
            show yR zpg tX12_lead (d + 15) (26, [(4, .int (-1)), (0, .ref 221), (1, .int f), (2, .int x), (3, .int y)], [.int 0], mem) _
            refine wR_if_eq rfl (a := 0) rfl (fun _ => ?_) (fun q => by exfalso; omega)
            refine yR_m 2 (fun _ _ _ _ => rfl) ?_
            refine wR_iv rfl rfl mO_e hm rfl rfl rfl rfl ?_
            show yR zpg tX12_refuses (d + 14) (0, [(0, .ref 221), (1, .int 3)], [], mem) _
            refine yR_m 1 (fun _ _ _ _ => rfl) ?_
            refine wR_gr rfl mO_e mO_47 hm ?_
            refine yR_m 2 (fun _ _ _ _ => rfl) ?_
            refine wN_al (a := 3) rfl aR_248 hm rfl rfl (by decide) (fun y44 e45 => ?_)
            refine yR_m 2 (fun _ _ _ _ => rfl) ?_
            refine wN_as (a := 3) rfl aR_248 hm rfl (by decide) ?_
            have hm_10 : aTm aT0 (sx mem 248 3 (y44 + 1)) := tm_sa aR_248 hm (i32_b _)
            refine yR_m 1 (fun _ _ _ _ => rfl) ?_
            refine yR_ri rfl ?_
            show yR zpg tX12_lead (d + 15) (60, [(4, .int (-1)), (0, .ref 221), (1, .int f), (2, .int x), (3, .int y)], [.int (-1)], (sx mem 248 3 (y44 + 1))) _
            refine wR_if_lt rfl (a := (-1)) tm1 (fun _ => ?_) (fun q => by exfalso; omega)
            refine yR_m 1 (fun _ _ _ _ => rfl) ?_
            exact yR_rz rfl ⟨by decide, by decide⟩ (h10 q1 y12 e13 x14 e15 q16 q27 y38 e39 x40 e41 q42 q43 y44 e45 hm_10)
          ·
            refine yR_m 2 (fun _ _ _ _ => rfl) ?_
            refine wR_gr rfl mO_e mO_24 hm ?_
            refine yR_m 1 (fun _ _ _ _ => rfl) ?_
            refine wR_gi rfl mO_e mO_13 hm rfl ?_
            refine wN_al (a := (gi mem 221 13).toInt) rfl aR_233 hm rfl rfl (by omega) (fun y46 e47 => ?_)
            refine wR_ic_ge rfl (a := (f).toInt) (c := (gn (ga mem 233) (gi mem 221 13).toInt)) rfl e47 (fun q48 => ?_) (fun q48 => ?_)
            ·
              refine yR_m 1 (fun _ _ _ _ => rfl) ?_
              refine yR_rz rfl ⟨by decide, by decide⟩ ?_
              show yR zpg tX12_lead (d + 15) (26, [(4, .int (-1)), (0, .ref 221), (1, .int f), (2, .int x), (3, .int y)], [.int 0], mem) _
              refine wR_if_eq rfl (a := 0) rfl (fun _ => ?_) (fun q => by exfalso; omega)
              refine yR_m 2 (fun _ _ _ _ => rfl) ?_
              refine wR_iv rfl rfl mO_e hm rfl rfl rfl rfl ?_
              show yR zpg tX12_refuses (d + 14) (0, [(0, .ref 221), (1, .int 3)], [], mem) _
              refine yR_m 1 (fun _ _ _ _ => rfl) ?_
              refine wR_gr rfl mO_e mO_47 hm ?_
              refine yR_m 2 (fun _ _ _ _ => rfl) ?_
              refine wN_al (a := 3) rfl aR_248 hm rfl rfl (by decide) (fun y49 e50 => ?_)
              refine yR_m 2 (fun _ _ _ _ => rfl) ?_
              refine wN_as (a := 3) rfl aR_248 hm rfl (by decide) ?_
              have hm_11 : aTm aT0 (sx mem 248 3 (y49 + 1)) := tm_sa aR_248 hm (i32_b _)
              refine yR_m 1 (fun _ _ _ _ => rfl) ?_
              refine yR_ri rfl ?_
              show yR zpg tX12_lead (d + 15) (60, [(4, .int (-1)), (0, .ref 221), (1, .int f), (2, .int x), (3, .int y)], [.int (-1)], (sx mem 248 3 (y49 + 1))) _
              refine wR_if_lt rfl (a := (-1)) tm1 (fun _ => ?_) (fun q => by exfalso; omega)
              refine yR_m 1 (fun _ _ _ _ => rfl) ?_
              exact yR_rz rfl ⟨by decide, by decide⟩ (h11 q1 y12 e13 x14 e15 q16 q27 y38 e39 x40 e41 q42 q43 y46 e47 q48 y49 e50 hm_11)
            ·
              refine yR_m 2 (fun _ _ _ _ => rfl) ?_
              refine yR_rz rfl ⟨by decide, by decide⟩ ?_
              show yR zpg tX12_lead (d + 15) (26, [(4, .int (-1)), (0, .ref 221), (1, .int f), (2, .int x), (3, .int y)], [.int 1], mem) _
              refine wR_if_eq rfl (a := 1) rfl (fun q => by exfalso; omega) (fun _ => ?_)
              refine yR_m 2 (fun _ _ _ _ => rfl) ?_
              refine wR_ic_eq rfl (a := (-1)) (c := (-1)) tm1 tm1 (fun _ => ?_) (fun q => by exfalso; omega)
              refine yR_m 2 (fun _ _ _ _ => rfl) ?_
              refine wR_iv rfl rfl mO_e hm rfl rfl rfl rfl ?_
              show yR zpg tX12_refuses (d + 14) (0, [(0, .ref 221), (1, .int 3)], [], mem) _
              refine yR_m 1 (fun _ _ _ _ => rfl) ?_
              refine wR_gr rfl mO_e mO_47 hm ?_
              refine yR_m 2 (fun _ _ _ _ => rfl) ?_
              refine wN_al (a := 3) rfl aR_248 hm rfl rfl (by decide) (fun y51 e52 => ?_)
              refine yR_m 2 (fun _ _ _ _ => rfl) ?_
              refine wN_as (a := 3) rfl aR_248 hm rfl (by decide) ?_
              have hm_12 : aTm aT0 (sx mem 248 3 (y51 + 1)) := tm_sa aR_248 hm (i32_b _)
              refine yR_m 1 (fun _ _ _ _ => rfl) ?_
              refine yR_ri rfl ?_
              show yR zpg tX12_lead (d + 15) (60, [(4, .int (-1)), (0, .ref 221), (1, .int f), (2, .int x), (3, .int y)], [.int (-1)], (sx mem 248 3 (y51 + 1))) _
              refine wR_if_lt rfl (a := (-1)) tm1 (fun _ => ?_) (fun q => by exfalso; omega)
              refine yR_m 1 (fun _ _ _ _ => rfl) ?_
              exact yR_rz rfl ⟨by decide, by decide⟩ (h12 q1 y12 e13 x14 e15 q16 q27 y38 e39 x40 e41 q42 q43 y46 e47 q48 y51 e52 hm_12)
        ·
          refine yR_m 2 (fun _ _ _ _ => rfl) ?_
          refine wR_ic_gt rfl (a := (y).toInt) (c := ((gn (ga mem 224) (gi mem 221 13).toInt) - 1)) rfl e41 (fun q53 => ?_) (fun q53 => ?_)
          ·
            refine yR_m 1 (fun _ _ _ _ => rfl) ?_
            refine yR_rz rfl ⟨by decide, by decide⟩ ?_
            show yR zpg tX12_isCell (d + 14) (42, [(0, .ref 221), (1, .int x), (2, .int y)], [.int 0], mem) _
            refine wR_if_eq rfl (a := 0) rfl (fun _ => ?_) (fun q => by exfalso; omega)
            refine yR_m 1 (fun _ _ _ _ => rfl) ?_
            refine yR_rz rfl ⟨by decide, by decide⟩ ?_
            show yR zpg tX12_lead (d + 15) (6, [(0, .ref 221), (1, .int f), (2, .int x), (3, .int y)], [.int 0], mem) _
            refine wR_if_eq rfl (a := 0) rfl (fun _ => ?_) (fun q => by exfalso; omega)
            refine yR_m 4 (fun _ _ _ _ => rfl) ?_
            refine wR_iv rfl rfl mO_e hm rfl rfl rfl rfl ?_
            show yR zpg tX12_isFolk (d + 14) (0, [(0, .ref 221), (1, .int f)], [], mem) _
            refine yR_m 1 (fun _ _ _ _ => rfl) ?_
            refine wR_if_lt rfl (a := (f).toInt) rfl (fun q54 => ?_) (fun q54 => ?_)
            ·
              refine yR_m 1 (fun _ _ _ _ => rfl) ?_
              refine yR_rz rfl ⟨by decide, by decide⟩ ?_
              show yR zpg tX12_lead (d + 15) (26, [(4, .int (-1)), (0, .ref 221), (1, .int f), (2, .int x), (3, .int y)], [.int 0], mem) _
              refine wR_if_eq rfl (a := 0) rfl (fun _ => ?_) (fun q => by exfalso; omega)
              refine yR_m 2 (fun _ _ _ _ => rfl) ?_
              refine wR_iv rfl rfl mO_e hm rfl rfl rfl rfl ?_
              show yR zpg tX12_refuses (d + 14) (0, [(0, .ref 221), (1, .int 3)], [], mem) _
              refine yR_m 1 (fun _ _ _ _ => rfl) ?_
              refine wR_gr rfl mO_e mO_47 hm ?_
              refine yR_m 2 (fun _ _ _ _ => rfl) ?_
              refine wN_al (a := 3) rfl aR_248 hm rfl rfl (by decide) (fun y55 e56 => ?_)
              refine yR_m 2 (fun _ _ _ _ => rfl) ?_
              refine wN_as (a := 3) rfl aR_248 hm rfl (by decide) ?_
              have hm_13 : aTm aT0 (sx mem 248 3 (y55 + 1)) := tm_sa aR_248 hm (i32_b _)
              refine yR_m 1 (fun _ _ _ _ => rfl) ?_
              refine yR_ri rfl ?_
              show yR zpg tX12_lead (d + 15) (60, [(4, .int (-1)), (0, .ref 221), (1, .int f), (2, .int x), (3, .int y)], [.int (-1)], (sx mem 248 3 (y55 + 1))) _
              refine wR_if_lt rfl (a := (-1)) tm1 (fun _ => ?_) (fun q => by exfalso; omega)
              refine yR_m 1 (fun _ _ _ _ => rfl) ?_
              exact yR_rz rfl ⟨by decide, by decide⟩ (h13 q1 y12 e13 x14 e15 q16 q27 y38 e39 x40 e41 q42 q53 q54 y55 e56 hm_13)
            ·
              refine yR_m 2 (fun _ _ _ _ => rfl) ?_
              refine wR_gr rfl mO_e mO_24 hm ?_
              refine yR_m 1 (fun _ _ _ _ => rfl) ?_
              refine wR_gi rfl mO_e mO_13 hm rfl ?_
              refine wN_al (a := (gi mem 221 13).toInt) rfl aR_233 hm rfl rfl (by omega) (fun y57 e58 => ?_)
              refine wR_ic_ge rfl (a := (f).toInt) (c := (gn (ga mem 233) (gi mem 221 13).toInt)) rfl e58 (fun q59 => ?_) (fun q59 => ?_)
              ·
                refine yR_m 1 (fun _ _ _ _ => rfl) ?_
                refine yR_rz rfl ⟨by decide, by decide⟩ ?_
                show yR zpg tX12_lead (d + 15) (26, [(4, .int (-1)), (0, .ref 221), (1, .int f), (2, .int x), (3, .int y)], [.int 0], mem) _
                refine wR_if_eq rfl (a := 0) rfl (fun _ => ?_) (fun q => by exfalso; omega)
                refine yR_m 2 (fun _ _ _ _ => rfl) ?_
                refine wR_iv rfl rfl mO_e hm rfl rfl rfl rfl ?_
                show yR zpg tX12_refuses (d + 14) (0, [(0, .ref 221), (1, .int 3)], [], mem) _
                refine yR_m 1 (fun _ _ _ _ => rfl) ?_
                refine wR_gr rfl mO_e mO_47 hm ?_
                refine yR_m 2 (fun _ _ _ _ => rfl) ?_
                refine wN_al (a := 3) rfl aR_248 hm rfl rfl (by decide) (fun y60 e61 => ?_)
                refine yR_m 2 (fun _ _ _ _ => rfl) ?_
                refine wN_as (a := 3) rfl aR_248 hm rfl (by decide) ?_
                have hm_14 : aTm aT0 (sx mem 248 3 (y60 + 1)) := tm_sa aR_248 hm (i32_b _)
                refine yR_m 1 (fun _ _ _ _ => rfl) ?_
                refine yR_ri rfl ?_
                show yR zpg tX12_lead (d + 15) (60, [(4, .int (-1)), (0, .ref 221), (1, .int f), (2, .int x), (3, .int y)], [.int (-1)], (sx mem 248 3 (y60 + 1))) _
                refine wR_if_lt rfl (a := (-1)) tm1 (fun _ => ?_) (fun q => by exfalso; omega)
                refine yR_m 1 (fun _ _ _ _ => rfl) ?_
                exact yR_rz rfl ⟨by decide, by decide⟩ (h14 q1 y12 e13 x14 e15 q16 q27 y38 e39 x40 e41 q42 q53 q54 y57 e58 q59 y60 e61 hm_14)
              ·
                refine yR_m 2 (fun _ _ _ _ => rfl) ?_
                refine yR_rz rfl ⟨by decide, by decide⟩ ?_
                show yR zpg tX12_lead (d + 15) (26, [(4, .int (-1)), (0, .ref 221), (1, .int f), (2, .int x), (3, .int y)], [.int 1], mem) _
                refine wR_if_eq rfl (a := 1) rfl (fun q => by exfalso; omega) (fun _ => ?_)
                refine yR_m 2 (fun _ _ _ _ => rfl) ?_
                refine wR_ic_eq rfl (a := (-1)) (c := (-1)) tm1 tm1 (fun _ => ?_) (fun q => by exfalso; omega)
                refine yR_m 2 (fun _ _ _ _ => rfl) ?_
                refine wR_iv rfl rfl mO_e hm rfl rfl rfl rfl ?_
                show yR zpg tX12_refuses (d + 14) (0, [(0, .ref 221), (1, .int 3)], [], mem) _
                refine yR_m 1 (fun _ _ _ _ => rfl) ?_
                refine wR_gr rfl mO_e mO_47 hm ?_
                refine yR_m 2 (fun _ _ _ _ => rfl) ?_
                refine wN_al (a := 3) rfl aR_248 hm rfl rfl (by decide) (fun y62 e63 => ?_)
                refine yR_m 2 (fun _ _ _ _ => rfl) ?_
                refine wN_as (a := 3) rfl aR_248 hm rfl (by decide) ?_
                have hm_15 : aTm aT0 (sx mem 248 3 (y62 + 1)) := tm_sa aR_248 hm (i32_b _)
                refine yR_m 1 (fun _ _ _ _ => rfl) ?_
                refine yR_ri rfl ?_
                show yR zpg tX12_lead (d + 15) (60, [(4, .int (-1)), (0, .ref 221), (1, .int f), (2, .int x), (3, .int y)], [.int (-1)], (sx mem 248 3 (y62 + 1))) _
                refine wR_if_lt rfl (a := (-1)) tm1 (fun _ => ?_) (fun q => by exfalso; omega)
                refine yR_m 1 (fun _ _ _ _ => rfl) ?_
                exact yR_rz rfl ⟨by decide, by decide⟩ (h15 q1 y12 e13 x14 e15 q16 q27 y38 e39 x40 e41 q42 q53 q54 y57 e58 q59 y62 e63 hm_15)
          ·
            refine yR_m 2 (fun _ _ _ _ => rfl) ?_
            refine yR_rz rfl ⟨by decide, by decide⟩ ?_
            show yR zpg tX12_isCell (d + 14) (42, [(0, .ref 221), (1, .int x), (2, .int y)], [.int 1], mem) _
            refine wR_if_eq rfl (a := 1) rfl (fun q => by exfalso; omega) (fun _ => ?_)
            refine yR_m 2 (fun _ _ _ _ => rfl) ?_
            refine yR_rz rfl ⟨by decide, by decide⟩ ?_
            show yR zpg tX12_lead (d + 15) (6, [(0, .ref 221), (1, .int f), (2, .int x), (3, .int y)], [.int 1], mem) _
            refine wR_if_eq rfl (a := 1) rfl (fun q => by exfalso; omega) (fun _ => ?_)
            refine yR_m 2 (fun _ _ _ _ => rfl) ?_
            refine wN_mul (a := 8) (b := (y).toInt) rfl rfl rfl (by omega) (fun x64 e65 => ?_)
            refine yR_m 1 (fun _ _ _ _ => rfl) ?_
            refine wN_add (a := (8 * (y).toInt)) (b := (x).toInt) rfl e65 rfl (by omega) (fun x66 e67 => ?_)
            refine yR_m 4 (fun _ _ _ _ => rfl) ?_
            refine wR_iv rfl rfl mO_e hm rfl rfl rfl rfl ?_
            show yR zpg tX12_isFolk (d + 14) (0, [(0, .ref 221), (1, .int f)], [], mem) _
            refine yR_m 1 (fun _ _ _ _ => rfl) ?_
            refine wR_if_lt rfl (a := (f).toInt) rfl (fun q68 => ?_) (fun q68 => ?_)
            ·
              refine yR_m 1 (fun _ _ _ _ => rfl) ?_
              refine yR_rz rfl ⟨by decide, by decide⟩ ?_
              show yR zpg tX12_lead (d + 15) (26, [(4, .int x66), (0, .ref 221), (1, .int f), (2, .int x), (3, .int y)], [.int 0], mem) _
              refine wR_if_eq rfl (a := 0) rfl (fun _ => ?_) (fun q => by exfalso; omega)
              refine yR_m 2 (fun _ _ _ _ => rfl) ?_
              refine wR_iv rfl rfl mO_e hm rfl rfl rfl rfl ?_
              show yR zpg tX12_refuses (d + 14) (0, [(0, .ref 221), (1, .int 3)], [], mem) _
              refine yR_m 1 (fun _ _ _ _ => rfl) ?_
              refine wR_gr rfl mO_e mO_47 hm ?_
              refine yR_m 2 (fun _ _ _ _ => rfl) ?_
              refine wN_al (a := 3) rfl aR_248 hm rfl rfl (by decide) (fun y69 e70 => ?_)
              refine yR_m 2 (fun _ _ _ _ => rfl) ?_
              refine wN_as (a := 3) rfl aR_248 hm rfl (by decide) ?_
              have hm_16 : aTm aT0 (sx mem 248 3 (y69 + 1)) := tm_sa aR_248 hm (i32_b _)
              refine yR_m 1 (fun _ _ _ _ => rfl) ?_
              refine yR_ri rfl ?_
              show yR zpg tX12_lead (d + 15) (60, [(4, .int x66), (0, .ref 221), (1, .int f), (2, .int x), (3, .int y)], [.int (-1)], (sx mem 248 3 (y69 + 1))) _
              refine wR_if_lt rfl (a := (-1)) tm1 (fun _ => ?_) (fun q => by exfalso; omega)
              refine yR_m 1 (fun _ _ _ _ => rfl) ?_
              exact yR_rz rfl ⟨by decide, by decide⟩ (h16 q1 y12 e13 x14 e15 q16 q27 y38 e39 x40 e41 q42 q53 x64 e65 x66 e67 q68 y69 e70 hm_16)
            ·
              refine yR_m 2 (fun _ _ _ _ => rfl) ?_
              refine wR_gr rfl mO_e mO_24 hm ?_
              refine yR_m 1 (fun _ _ _ _ => rfl) ?_
              refine wR_gi rfl mO_e mO_13 hm rfl ?_
              refine wN_al (a := (gi mem 221 13).toInt) rfl aR_233 hm rfl rfl (by omega) (fun y71 e72 => ?_)
              refine wR_ic_ge rfl (a := (f).toInt) (c := (gn (ga mem 233) (gi mem 221 13).toInt)) rfl e72 (fun q73 => ?_) (fun q73 => ?_)
              ·
                refine yR_m 1 (fun _ _ _ _ => rfl) ?_
                refine yR_rz rfl ⟨by decide, by decide⟩ ?_
                show yR zpg tX12_lead (d + 15) (26, [(4, .int x66), (0, .ref 221), (1, .int f), (2, .int x), (3, .int y)], [.int 0], mem) _
                refine wR_if_eq rfl (a := 0) rfl (fun _ => ?_) (fun q => by exfalso; omega)
                refine yR_m 2 (fun _ _ _ _ => rfl) ?_
                refine wR_iv rfl rfl mO_e hm rfl rfl rfl rfl ?_
                show yR zpg tX12_refuses (d + 14) (0, [(0, .ref 221), (1, .int 3)], [], mem) _
                refine yR_m 1 (fun _ _ _ _ => rfl) ?_
                refine wR_gr rfl mO_e mO_47 hm ?_
                refine yR_m 2 (fun _ _ _ _ => rfl) ?_
                refine wN_al (a := 3) rfl aR_248 hm rfl rfl (by decide) (fun y74 e75 => ?_)
                refine yR_m 2 (fun _ _ _ _ => rfl) ?_
                refine wN_as (a := 3) rfl aR_248 hm rfl (by decide) ?_
                have hm_17 : aTm aT0 (sx mem 248 3 (y74 + 1)) := tm_sa aR_248 hm (i32_b _)
                refine yR_m 1 (fun _ _ _ _ => rfl) ?_
                refine yR_ri rfl ?_
                show yR zpg tX12_lead (d + 15) (60, [(4, .int x66), (0, .ref 221), (1, .int f), (2, .int x), (3, .int y)], [.int (-1)], (sx mem 248 3 (y74 + 1))) _
                refine wR_if_lt rfl (a := (-1)) tm1 (fun _ => ?_) (fun q => by exfalso; omega)
                refine yR_m 1 (fun _ _ _ _ => rfl) ?_
                exact yR_rz rfl ⟨by decide, by decide⟩ (h17 q1 y12 e13 x14 e15 q16 q27 y38 e39 x40 e41 q42 q53 x64 e65 x66 e67 q68 y71 e72 q73 y74 e75 hm_17)
              ·
                refine yR_m 2 (fun _ _ _ _ => rfl) ?_
                refine yR_rz rfl ⟨by decide, by decide⟩ ?_
                show yR zpg tX12_lead (d + 15) (26, [(4, .int x66), (0, .ref 221), (1, .int f), (2, .int x), (3, .int y)], [.int 1], mem) _
                refine wR_if_eq rfl (a := 1) rfl (fun q => by exfalso; omega) (fun _ => ?_)
                refine yR_m 2 (fun _ _ _ _ => rfl) ?_
                refine wR_ic_eq rfl (a := ((8 * (y).toInt) + (x).toInt)) (c := (-1)) e67 tm1 (fun q76 => ?_) (fun q76 => ?_)
                ·
                  refine yR_m 2 (fun _ _ _ _ => rfl) ?_
                  refine wR_iv rfl rfl mO_e hm rfl rfl rfl rfl ?_
                  show yR zpg tX12_refuses (d + 14) (0, [(0, .ref 221), (1, .int 3)], [], mem) _
                  refine yR_m 1 (fun _ _ _ _ => rfl) ?_
                  refine wR_gr rfl mO_e mO_47 hm ?_
                  refine yR_m 2 (fun _ _ _ _ => rfl) ?_
                  refine wN_al (a := 3) rfl aR_248 hm rfl rfl (by decide) (fun y77 e78 => ?_)
                  refine yR_m 2 (fun _ _ _ _ => rfl) ?_
                  refine wN_as (a := 3) rfl aR_248 hm rfl (by decide) ?_
                  have hm_18 : aTm aT0 (sx mem 248 3 (y77 + 1)) := tm_sa aR_248 hm (i32_b _)
                  refine yR_m 1 (fun _ _ _ _ => rfl) ?_
                  refine yR_ri rfl ?_
                  show yR zpg tX12_lead (d + 15) (60, [(4, .int x66), (0, .ref 221), (1, .int f), (2, .int x), (3, .int y)], [.int (-1)], (sx mem 248 3 (y77 + 1))) _
                  refine wR_if_lt rfl (a := (-1)) tm1 (fun _ => ?_) (fun q => by exfalso; omega)
                  refine yR_m 1 (fun _ _ _ _ => rfl) ?_
                  exact yR_rz rfl ⟨by decide, by decide⟩ (h18 q1 y12 e13 x14 e15 q16 q27 y38 e39 x40 e41 q42 q53 x64 e65 x66 e67 q68 y71 e72 q73 q76 y77 e78 hm_18)
                ·
                  refine yR_m 2 (fun _ _ _ _ => rfl) ?_
                  refine wR_iv rfl rfl mO_e hm rfl rfl rfl rfl ?_
                  show yR zpg tX12_isWall (d + 14) (0, [(0, .ref 221), (1, .int x66)], [], mem) _
                  refine yR_m 1 (fun _ _ _ _ => rfl) ?_
                  refine wR_gr rfl mO_e mO_18 hm ?_
                  refine yR_m 2 (fun _ _ _ _ => rfl) ?_
                  refine wR_gi rfl mO_e mO_13 hm rfl ?_
                  refine wN_mul (a := 64) (b := (gi mem 221 13).toInt) rfl rfl rfl (by omega) (fun x79 e80 => ?_)
                  refine yR_m 1 (fun _ _ _ _ => rfl) ?_
                  refine wN_add (a := (64 * (gi mem 221 13).toInt)) (b := ((8 * (y).toInt) + (x).toInt)) rfl e80 e67 (by omega) (fun x81 e82 => ?_)
                  refine wN_al (a := ((64 * (gi mem 221 13).toInt) + ((8 * (y).toInt) + (x).toInt))) rfl aR_227 hm rfl e82 (by omega) (fun y83 e84 => ?_)
                  refine yR_m 1 (fun _ _ _ _ => rfl) ?_
                  refine wR_ic_ne rfl (a := (gn (ga mem 227) ((64 * (gi mem 221 13).toInt) + ((8 * (y).toInt) + (x).toInt)))) (c := 1) e84 rfl (fun q85 => ?_) (fun q85 => ?_)
                  ·
                    refine yR_m 1 (fun _ _ _ _ => rfl) ?_
                    refine yR_rz rfl ⟨by decide, by decide⟩ ?_
                    show yR zpg tX12_lead (d + 15) (41, [(4, .int x66), (0, .ref 221), (1, .int f), (2, .int x), (3, .int y)], [.int 0], mem) _
                    refine wR_if_ne rfl (a := 0) rfl (fun q => by exfalso; omega) (fun _ => ?_)
                    refine yR_m 1 (fun _ _ _ _ => rfl) ?_
                    refine wR_gr rfl mO_e mO_51 hm ?_
                    refine yR_m 1 (fun _ _ _ _ => rfl) ?_
                    refine wN_al (a := (f).toInt) rfl aR_252 hm rfl rfl (by omega) (fun y86 e87 => ?_)
                    refine yR_m 1 (fun _ _ _ _ => rfl) ?_
                    refine wR_ic_ne rfl (a := (gn (ga mem 252) (f).toInt)) (c := ((8 * (y).toInt) + (x).toInt)) e87 e67 (fun q88 => ?_) (fun q88 => ?_)
                    ·
                      refine yR_m 1 (fun _ _ _ _ => rfl) ?_
                      refine wR_cv rfl rfl mO_e hm rfl (h_kp (Q := Q) (hu := hu) (S := S) (K := K) (P := P0) hm hW hS hK hP (by omega)) ?_
                      rintro _ m89 ⟨rfl, hm89, k90⟩
                      show yR zpg tX12_lead (d + 15) (73, [(4, .int x66), (0, .ref 221), (1, .int f), (2, .int x), (3, .int y)], [], m89) _
                      refine yR_m 1 (fun _ _ _ _ => rfl) ?_
                      refine wR_gr rfl mO_e mO_51 hm89 ?_
                      refine yR_m 2 (fun _ _ _ _ => rfl) ?_
                      refine wN_as (a := (f).toInt) rfl aR_252 hm89 rfl (by omega) ?_
                      have hm_19 : aTm aT0 (sx m89 252 f x66) := tm_sa aR_252 hm89 (by rw [e67]; exact (by omega))
                      refine yR_m 1 (fun _ _ _ _ => rfl) ?_
                      exact yR_rz rfl ⟨by decide, by decide⟩ (h19 q1 y12 e13 x14 e15 q16 q27 y38 e39 x40 e41 q42 q53 x64 e65 x66 e67 q68 y71 e72 q73 q76 x79 e80 x81 e82 y83 e84 q85 y86 e87 q88 m89 hm89 k90 hm_19)
                    ·
                      refine yR_m 2 (fun _ _ _ _ => rfl) ?_
                      refine wR_iv rfl rfl mO_e hm rfl rfl rfl rfl ?_
                      show yR zpg tX12_refuses (d + 14) (0, [(0, .ref 221), (1, .int 3)], [], mem) _
                      refine yR_m 1 (fun _ _ _ _ => rfl) ?_
                      refine wR_gr rfl mO_e mO_47 hm ?_
                      refine yR_m 2 (fun _ _ _ _ => rfl) ?_
                      refine wN_al (a := 3) rfl aR_248 hm rfl rfl (by decide) (fun y91 e92 => ?_)
                      refine yR_m 2 (fun _ _ _ _ => rfl) ?_
                      refine wN_as (a := 3) rfl aR_248 hm rfl (by decide) ?_
                      have hm_20 : aTm aT0 (sx mem 248 3 (y91 + 1)) := tm_sa aR_248 hm (i32_b _)
                      refine yR_m 1 (fun _ _ _ _ => rfl) ?_
                      refine yR_ri rfl ?_
                      show yR zpg tX12_lead (d + 15) (60, [(4, .int x66), (0, .ref 221), (1, .int f), (2, .int x), (3, .int y)], [.int (-1)], (sx mem 248 3 (y91 + 1))) _
                      refine wR_if_lt rfl (a := (-1)) tm1 (fun _ => ?_) (fun q => by exfalso; omega)
                      refine yR_m 1 (fun _ _ _ _ => rfl) ?_
                      exact yR_rz rfl ⟨by decide, by decide⟩ (h20 q1 y12 e13 x14 e15 q16 q27 y38 e39 x40 e41 q42 q53 x64 e65 x66 e67 q68 y71 e72 q73 q76 x79 e80 x81 e82 y83 e84 q85 y86 e87 q88 y91 e92 hm_20)
                  ·
                    refine yR_m 2 (fun _ _ _ _ => rfl) ?_
                    refine yR_rz rfl ⟨by decide, by decide⟩ ?_
                    show yR zpg tX12_lead (d + 15) (41, [(4, .int x66), (0, .ref 221), (1, .int f), (2, .int x), (3, .int y)], [.int 1], mem) _
                    refine wR_if_ne rfl (a := 1) rfl (fun _ => ?_) (fun q => by exfalso; omega)
                    refine yR_m 2 (fun _ _ _ _ => rfl) ?_
                    refine wR_iv rfl rfl mO_e hm rfl rfl rfl rfl ?_
                    show yR zpg tX12_refuses (d + 14) (0, [(0, .ref 221), (1, .int 3)], [], mem) _
                    refine yR_m 1 (fun _ _ _ _ => rfl) ?_
                    refine wR_gr rfl mO_e mO_47 hm ?_
                    refine yR_m 2 (fun _ _ _ _ => rfl) ?_
                    refine wN_al (a := 3) rfl aR_248 hm rfl rfl (by decide) (fun y93 e94 => ?_)
                    refine yR_m 2 (fun _ _ _ _ => rfl) ?_
                    refine wN_as (a := 3) rfl aR_248 hm rfl (by decide) ?_
                    have hm_21 : aTm aT0 (sx mem 248 3 (y93 + 1)) := tm_sa aR_248 hm (i32_b _)
                    refine yR_m 1 (fun _ _ _ _ => rfl) ?_
                    refine yR_ri rfl ?_
                    show yR zpg tX12_lead (d + 15) (60, [(4, .int x66), (0, .ref 221), (1, .int f), (2, .int x), (3, .int y)], [.int (-1)], (sx mem 248 3 (y93 + 1))) _
                    refine wR_if_lt rfl (a := (-1)) tm1 (fun _ => ?_) (fun q => by exfalso; omega)
                    refine yR_m 1 (fun _ _ _ _ => rfl) ?_
                    exact yR_rz rfl ⟨by decide, by decide⟩ (h21 q1 y12 e13 x14 e15 q16 q27 y38 e39 x40 e41 q42 q53 x64 e65 x66 e67 q68 y71 e72 q73 q76 x79 e80 x81 e82 y83 e84 q85 y93 e94 hm_21)

set_option maxRecDepth 100000 in
theorem w_mu {d : Nat} {mem : zM} {P : Option Value → zM → Prop} {lo : List (Nat × Value)} (hm : aTm aT0 mem) (l_0 : zlg lo 0 = some (.ref 221)) (h1 : ¬ (gi mem 221 55).toInt = 0 → ∀ lo, zlg lo 0 = some (.ref 221) → aTm aT0 mem → yR zpg tX12_undo (d + 5) (21, lo, [], mem) P) (h2 : (gi mem 221 55).toInt = 0 → ∀ (y2 : Int32), y2.toInt = (gn (ga mem 248) 4) → aTm aT0 (sx mem 248 4 (y2 + 1)) → P (some (.int 0)) (sx mem 248 4 (y2 + 1))) : yR zpg tX12_undo (d + 5) (0, lo, [], mem) P := by
  refine wR_la rfl l_0 ?_
  refine wR_gi rfl mO_e mO_55 hm rfl ?_
  refine wR_if_ne rfl (a := (gi mem 221 55).toInt) rfl (fun q1 => ?_) (fun q1 => ?_)
  ·
    exact h1 q1 lo l_0 hm
  ·
    refine wR_la rfl l_0 ?_
    refine yR_m 1 (fun _ _ _ _ => rfl) ?_
    refine wR_iv rfl rfl mO_e hm rfl rfl rfl rfl ?_
    show yR zpg tX12_refuses (d + 4) (0, [(0, .ref 221), (1, .int 4)], [], mem) _
    refine yR_m 1 (fun _ _ _ _ => rfl) ?_
    refine wR_gr rfl mO_e mO_47 hm ?_
    refine yR_m 2 (fun _ _ _ _ => rfl) ?_
    refine wN_al (a := 4) rfl aR_248 hm rfl rfl (by decide) (fun y2 e3 => ?_)
    refine yR_m 2 (fun _ _ _ _ => rfl) ?_
    refine wN_as (a := 4) rfl aR_248 hm rfl (by decide) ?_
    have hm_1 : aTm aT0 (sx mem 248 4 (y2 + 1)) := tm_sa aR_248 hm (i32_b _)
    refine yR_m 1 (fun _ _ _ _ => rfl) ?_
    refine yR_ri rfl ?_
    show yR zpg tX12_undo (d + 5) (12, lo, [.int (-1)], (sx mem 248 4 (y2 + 1))) _
    refine wR_if_lt rfl (a := (-1)) tm1 (fun _ => ?_) (fun q => by exfalso; omega)
    refine yR_m 1 (fun _ _ _ _ => rfl) ?_
    exact yR_rz rfl ⟨by decide, by decide⟩ (h2 q1 y2 e3 hm_1)

theorem mn_lp {n : Int32} {N : Nat} {mr : zM} {P1 : Pd} (hN : n.toInt = (N : Int)) (N40 : N ≤ 40) (hMr : mB Q mr) (hW : WQ Q) (hv : wS Q S) (hH : wH Q hu) (h9 : Sn S + (N : Int) ≤ 999) : ∀ (g j : Nat) (fo k : Int32) (mem : zM) (lo : List (Nat × Value)), j + g = N → k.toInt = (j : Int) → fo.toInt = (ntN Q hu j (S, K, 0)).2.2 → tM 0 Q hu (ntN Q hu j (S, K, 0)).1 mem → kM 0 (ntN Q hu j (S, K, 0)).2.1 mem → rgM Q hu P1 mem → (∀ k, k ≤ 248 → zat mem k = zat mr k) → aTm aT0 mem → zlg lo 0 = some (.ref 221) → zlg lo 1 = some (.int n) → zlg lo 2 = some (.int fo) → zlg lo 3 = some (.int k) → yR zpg tX12_nights (d + 14) (25, lo, [], mem) (fun r m => ∃ fo : Int32, r = some (.int fo) ∧ aTm aT0 m ∧ (fo.toInt = (ntN Q hu N (S, K, 0)).2.2 ∧ tM 0 Q hu (ntN Q hu N (S, K, 0)).1 m ∧ kM 0 (ntN Q hu N (S, K, 0)).2.1 m ∧ rgM Q hu P1 m ∧ (∀ k, k ≤ 248 → zat m k = zat mr k))) := by
  intro g
  induction g with
  | zero =>
    intro j fo k mem lo hj ek ef hS hK hR hF hm l0 l1 l2 l3
    have jn : j = N := by omega
    have b := ntN_f (Q := Q) (hu := hu) (X := (S, K, 0)) j
    have b1 : 0 ≤ (ntN Q hu j (S, K, 0)).2.2 := b.1
    have b2 : (ntN Q hu j (S, K, 0)).2.2 ≤ 0 + 9 * (j : Int) := b.2
    have hM := mB_zat (gi_zq (hF 221 (by decide))) (gi_zq (hF 221 (by decide))) (fun k h1 h2 => hF k (by omega)) hMr
    exact w_mn25 (S := (ntN Q hu j (S, K, 0)).1) (K := (ntN Q hu j (S, K, 0)).2.1) hm l0 l1 l2 l3 hM hW hS (fun z => by exfalso; omega) hH hK ⟨by omega, by omega⟩ ⟨by omega, by omega⟩ (by omega) 
        (fun q1 hm2 => by
        rw [jn] at ef hS hK
        exact ⟨_, rfl, hm2, ef, hS, hK, hR, hF⟩)
        (fun q1 v4 m2 hm2 k3 => by exfalso; omega)
        (fun q1 v4 m2 hm2 k3 x5 e6 x10 e11 lo a0 a1 a2 a3 hm2 => by exfalso; omega)
  | succ g ih =>
    intro j fo k mem lo hj ek ef hS hK hR hF hm l0 l1 l2 l3
    have b := ntN_f (Q := Q) (hu := hu) (X := (S, K, 0)) j
    have b1 : 0 ≤ (ntN Q hu j (S, K, 0)).2.2 := b.1
    have b2 : (ntN Q hu j (S, K, 0)).2.2 ≤ 0 + 9 * (j : Int) := b.2
    have nj : Sn (ntN Q hu j (S, K, 0)).1 = Sn S + (j : Int) := ntN_n j
    have hw := ntN_w (hu := hu) (X := (S, K, 0)) hW hv j (by show Sn S + (j : Int) ≤ 999; omega)
    have hM := mB_zat (gi_zq (hF 221 (by decide))) (gi_zq (hF 221 (by decide))) (fun k h1 h2 => hF k (by omega)) hMr
    have fb := fdN_b (Q := Q) (hu := hu) (but := -1) (S := (ntN Q hu j (S, K, 0)).1)
    exact w_mn25 (S := (ntN Q hu j (S, K, 0)).1) (K := (ntN Q hu j (S, K, 0)).2.1) hm l0 l1 l2 l3 hM hW hS (fun z => hw) hH hK ⟨by omega, by omega⟩ ⟨by omega, by omega⟩ (by omega) 
        (fun q1 hm2 => by exfalso; omega)
        (fun q1 v4 m2 hm2 k3 => by have k := k3.2.2.2.2; rw [tm1] at k; omega)
        (fun q1 v4 m2 hm2 k3 x5 e6 x10 e11 lo a0 a1 a2 a3 hm2 => by
        have k := k3
        rw [tm1] at k
        have f8 := onl_lt (b := 249) rfl k.1
        exact ih (j + 1) _ _ _ lo (by omega) (by rw [e11, ek]; rfl) (by rw [e6, k.2.2.2.2, ef]; rfl) k.2.1 k.2.2.1 (rg_l hW (fun i _ => onl_zf k.1 rfl) k.2.2.2.1 (onl_ga k.1 rfl) hR) (fun q hq => (f8 q (by omega)).trans (hF q hq)) hm2 a0 a1 a2 a3)
theorem h_mn {n : Int32} (hm : aTm aT0 mem) (hM : mB Q mem) (hW : WQ Q) (hS : tM 0 Q hu S mem) (hs : wS Q S) (hH : wH Q hu) (hK : kM 0 K mem) (hP : rgM Q hu P0 mem) (hd : 15 ≤ d) : yC zpg d 264 [.ref 221, .int n] mem (fun r m => aTm aT0 m ∧ ((cgN Q S n.toInt ∧ (∃ fo : Int32, r = some (.int fo) ∧ fo.toInt = (ntN Q hu n.toInt.toNat (S, K, 0)).2.2) ∧ (∀ k, k < 221 → zat m k = zat mem k) ∧ (∀ i, ¬ i = 54 → ¬ i = 55 → zfl m 221 i = zfl mem 221 i) ∧ zat m 248 = zat mem 248 ∧ tM 0 Q hu (ntN Q hu n.toInt.toNat (S, K, 0)).1 m ∧ kM 0 (ntN Q hu n.toInt.toNat (S, K, 0)).2.1 m ∧ rgM Q hu (pdN P0 (S, K)) m) ∨ (¬ cgN Q S n.toInt ∧ r = some (.int (-1)) ∧ rfX 248 2 mem m))) := by
  obtain ⟨d, rfl⟩ : ∃ q, d = q + 15 := ⟨d - 15, by omega⟩
  have c46 := q46 hM
  have s0 := hS.1.1
  refine yC_of (t := tX12_nights) rfl rfl ?_
  exact w_mn0 (P0 := P0) (K := K) hm rfl rfl hM hW hS hs hK hP 
        (fun q1 y2 e3 hm2 => ⟨hm2, Or.inr ⟨fun w => by have w1 := w.1; have w2 := w.2; omega, rfl, rfX_k rfl rfl e3⟩⟩)
        (fun q1 q4 y5 e6 hm2 => ⟨hm2, Or.inr ⟨fun w => by have w1 := w.1; have w2 := w.2; omega, rfl, rfX_k rfl rfl e6⟩⟩)
        (fun q1 q4 q7 y8 e9 hm2 => ⟨hm2, Or.inr ⟨fun w => by have w1 := w.1; have w2 := w.2; omega, rfl, rfX_k rfl rfl e9⟩⟩)
        (fun q1 q4 q7 y10 e11 x12 e13 q14 y15 e16 hm2 => ⟨hm2, Or.inr ⟨fun w => by have w1 := w.1; have w2 := w.2; omega, rfl, rfX_k rfl rfl e16⟩⟩)
        (fun q1 q4 q7 y10 e11 x12 e13 q14 m17 hm17 k18 lo a0 a1 a2 a3 hm2 => by
    obtain ⟨o1, z1, S1, K1, R1⟩ := k18
    have n0 : n.toInt = (n.toInt.toNat : Int) := by omega
    refine yR_mono ?_ (mn_lp (S := S) (K := K) (N := n.toInt.toNat) n0 (by omega) (kp_B o1 z1 hM) hW hs hH (by omega) n.toInt.toNat 0 0 0 _ lo (by omega) rfl rfl S1 K1 R1 (fun _ _ => rfl) hm2 a0 a1 a2 a3)
    rintro r m ⟨fo, h1, h2, h3, h4, h5, h6, h7⟩
    exact ⟨h2, Or.inl ⟨⟨⟨by omega, by omega⟩, by omega, by omega⟩, ⟨fo, h1, h3⟩, fun k hk => (h7 k (by omega)).trans (onl_lt (b := 221) rfl o1 k hk), fun i i4 i5 => (zfl_ea (h7 221 (by omega))).trans (z1 i i4 i5), (h7 248 (by omega)).trans (o1 248 rfl), h4, h5, h6⟩⟩)
theorem mc_lp {n : Int32} {x : Int} {N : Nat} {mr : zM} {P1 : Pd} (hN : n.toInt = (N : Int)) (N40 : N ≤ 40) (hMr : mB Q mr) (hW : WQ Q) (hv : wS Q S) (hH : wH Q hu) (h9 : Sn S + (N : Int) ≤ 999) (hx : 0 ≤ x ∧ x < 2147483648) : ∀ (g j : Nat) (fo k : Int32) (mem : zM) (lo : List (Nat × Value)), j + g = N → k.toInt = (j : Int) → fo.toInt = (chN Q hu j (S, K, x, 0)).2.2.2 → (gL mem 221 56).toInt = (chN Q hu j (S, K, x, 0)).2.2.1 → tM 0 Q hu (chN Q hu j (S, K, x, 0)).1 mem → kM 0 (chN Q hu j (S, K, x, 0)).2.1 mem → rgM Q hu P1 mem → (∀ k, k ≤ 248 → ¬ k = 221 → zat mem k = zat mr k) → (∀ i, ¬ i = 56 → zfl mem 221 i = zfl mr 221 i) → aTm aT0 mem → zlg lo 0 = some (.ref 221) → zlg lo 1 = some (.int n) → zlg lo 2 = some (.int fo) → zlg lo 3 = some (.int k) → yR zpg tX12_chance (d + 14) (25, lo, [], mem) (fun r m => ∃ fo : Int32, r = some (.int fo) ∧ aTm aT0 m ∧ (fo.toInt = (chN Q hu N (S, K, x, 0)).2.2.2 ∧ (gL m 221 56).toInt = (chN Q hu N (S, K, x, 0)).2.2.1 ∧ tM 0 Q hu (chN Q hu N (S, K, x, 0)).1 m ∧ kM 0 (chN Q hu N (S, K, x, 0)).2.1 m ∧ rgM Q hu P1 m ∧ (∀ k, k ≤ 248 → ¬ k = 221 → zat m k = zat mr k) ∧ (∀ i, ¬ i = 56 → zfl m 221 i = zfl mr 221 i))) := by
  intro g
  induction g with
  | zero =>
    intro j fo k mem lo hj ek ef ex hS hK hR hF hI hm l0 l1 l2 l3
    have jn : j = N := by omega
    have b := chN_f (Q := Q) (hu := hu) (X := (S, K, x, 0)) j
    have b1 : 0 ≤ (chN Q hu j (S, K, x, 0)).2.2.2 := b.1
    have b2 : (chN Q hu j (S, K, x, 0)).2.2.2 ≤ 0 + (j : Int) := b.2
    have xb := chN_x (Q := Q) (hu := hu) (X := (S, K, x, 0)) hx j
    have hM : mB Q mem := mB_zat (by unfold gi; rw [hI 13 (by decide)]) (by unfold gi; rw [hI 46 (by decide)]) (fun k h1 h2 => hF k (by omega) (by omega)) hMr
    exact w_mc25 (S := (chN Q hu j (S, K, x, 0)).1) (K := (chN Q hu j (S, K, x, 0)).2.1) hm l0 l1 l2 l3 hM hW hS (fun z => by exfalso; omega) hH hK ⟨by omega, by omega⟩ ⟨by omega, by omega⟩ (by omega) ⟨by omega, by omega⟩ 
        (fun q1 hm2 => by
        rw [jn] at ef ex hS hK
        exact ⟨_, rfl, hm2, ef, ex, hS, hK, hR, hF, hI⟩)
        (fun q1 v4 m2 hm2 k3 y5 e6 q7 x11 e12 v18 m16 hm16 k17 x19 e20 lo a0 a1 a2 a3 hm2 => by exfalso; omega)
        (fun q1 v4 m2 hm2 k3 y5 e6 q7 y24 e25 q26 x30 e31 v37 m35 hm35 k36 x38 e39 lo a0 a1 a2 a3 hm2 => by exfalso; omega)
        (fun q1 v4 m2 hm2 k3 y5 e6 q7 y24 e25 q26 x46 e47 y51 e52 => by exfalso; omega)
        (fun q1 v4 m2 hm2 k3 y5 e6 q7 y24 e25 q26 x46 e47 y51 e52 => by exfalso; omega)
        (fun q1 v4 m2 hm2 k3 y5 e6 q7 y24 e25 q26 x46 e47 y51 e52 v55 m53 hm53 k54 v58 m56 hm56 k57 x59 e60 lo a0 a1 a2 a3 hm2 => by exfalso; omega)
  | succ g ih =>
    intro j fo k mem lo hj ek ef ex hS hK hR hF hI hm l0 l1 l2 l3
    have b := chN_f (Q := Q) (hu := hu) (X := (S, K, x, 0)) j
    have b1 : 0 ≤ (chN Q hu j (S, K, x, 0)).2.2.2 := b.1
    have b2 : (chN Q hu j (S, K, x, 0)).2.2.2 ≤ 0 + (j : Int) := b.2
    have xb := chN_x (Q := Q) (hu := hu) (X := (S, K, x, 0)) hx j
    have nj : Sn (chN Q hu j (S, K, x, 0)).1 = Sn S + (j : Int) := chN_n j
    have hw := chN_w (hu := hu) (X := (S, K, x, 0)) hW hv j (by show Sn S + (j : Int) ≤ 999; omega)
    have hM : mB Q mem := mB_zat (by unfold gi; rw [hI 13 (by decide)]) (by unfold gi; rw [hI 46 (by decide)]) (fun k h1 h2 => hF k (by omega) (by omega)) hMr
    have eg : (chN Q hu (j + 1) (S, K, x, 0)).2.2.2 = (chN Q hu j (S, K, x, 0)).2.2.2 + if (dkN Q (chN Q hu j (S, K, x, 0)).2.2.1).1 = -1 then 0 else 1 := rfl
    have qa := hM.1.2.2.2.2.2.2.2.1.2.1
    have qt := hM.1.2.2.1.1
    have z100 : (100 : Int32).toInt = 100 := rfl
    have sb := sdN_b (chN Q hu j (S, K, x, 0)).2.2.1
    have e9 : thN Q = ((Qt Q).length : Int) := rfl
    exact w_mc25 (S := (chN Q hu j (S, K, x, 0)).1) (K := (chN Q hu j (S, K, x, 0)).2.1) hm l0 l1 l2 l3 hM hW hS (fun z => hw) hH hK ⟨by omega, by omega⟩ ⟨by omega, by omega⟩ (by omega) ⟨by omega, by omega⟩ 
        (fun q1 hm2 => by exfalso; omega)
        (fun q1 v4 m2 hm2 k3 y5 e6 q7 x11 e12 v18 m16 hm16 k17 x19 e20 lo a0 a1 a2 a3 hm2 => by
        obtain ⟨d1, d2, d3, d4⟩ := k3
        rw [ex] at d3 d4
        rw [z100] at d4
        rw [show gi m2 221 13 = gi mem 221 13 by unfold gi; rw [d2 13 (by decide)], onl_ga d1 rfl] at q7
        have dk := dkN_n (Q := Q) (x := (chN Q hu j (S, K, x, 0)).2.2.1) (fun w => by omega)
        have k := k17
        rw [tm1] at k
        have f8 := onl_lt (b := 249) rfl k.1
        have z2 : ∀ i, zfl m16 221 i = zfl m2 221 i := fun i => zfl_ea (f8 221 (by decide))
        have g56 : gL m16 221 56 = gL m2 221 56 := by unfold gL; rw [z2 56]
        have ek' : tkS Q hu (-1) (chN Q hu j (S, K, x, 0)).1 = (chN Q hu (j + 1) (S, K, x, 0)).1 := by
          show _ = tkS Q hu (dkN Q (chN Q hu j (S, K, x, 0)).2.2.1).1 (chN Q hu j (S, K, x, 0)).1
          rw [dk]
        have ek2 : tkK Q hu (-1) (chN Q hu j (S, K, x, 0)).1 (chN Q hu j (S, K, x, 0)).2.1 = (chN Q hu (j + 1) (S, K, x, 0)).2.1 := by
          show _ = tkK Q hu (dkN Q (chN Q hu j (S, K, x, 0)).2.2.1).1 (chN Q hu j (S, K, x, 0)).1 (chN Q hu j (S, K, x, 0)).2.1
          rw [dk]
        have ex2 : sdN (chN Q hu j (S, K, x, 0)).2.2.1 = (chN Q hu (j + 1) (S, K, x, 0)).2.2.1 := by
          show _ = (dkN Q (chN Q hu j (S, K, x, 0)).2.2.1).2
          rw [dk]
        have R2 := rg_l hW (fun i hi => d2 i (by omega)) (oLl_q (onl_ga d1 rfl) (onl_ga d1 rfl) (onl_ga d1 rfl) (onl_ga d1 rfl) (onl_ga d1 rfl) (onl_ga d1 rfl)) (onl_ga d1 rfl) hR
        exact ih (j + 1) _ _ _ lo (by omega) (by rw [e20, ek]; rfl) (by rw [eg, dk, if_pos rfl, e12]; omega) (by rw [g56, d3, ex2]) (by rw [← ek']; exact k.2.1) (by rw [← ek2]; exact k.2.2.1) (rg_l hW (fun i _ => onl_zf k.1 rfl) k.2.2.2.1 (onl_ga k.1 rfl) R2) (fun q hq h1 => (f8 q (by omega)).trans ((nn_21 d1 h1).trans (hF q hq h1))) (fun i hi => (z2 i).trans ((d2 i hi).trans (hI i hi))) hm2 a0 a1 a2 a3)
        (fun q1 v4 m2 hm2 k3 y5 e6 q7 y24 e25 q26 x30 e31 v37 m35 hm35 k36 x38 e39 lo a0 a1 a2 a3 hm2 => by
        obtain ⟨d1, d2, d3, d4⟩ := k3
        rw [ex] at d3 d4
        rw [z100] at d4
        rw [show gi m2 221 13 = gi mem 221 13 by unfold gi; rw [d2 13 (by decide)], onl_ga d1 rfl] at q7
        rw [show gi m2 221 13 = gi mem 221 13 by unfold gi; rw [d2 13 (by decide)], onl_ga d1 rfl] at q26
        have dk := dkN_n (Q := Q) (x := (chN Q hu j (S, K, x, 0)).2.2.1) (fun w => by omega)
        have k := k36
        rw [tm1] at k
        have f8 := onl_lt (b := 249) rfl k.1
        have z2 : ∀ i, zfl m35 221 i = zfl m2 221 i := fun i => zfl_ea (f8 221 (by decide))
        have g56 : gL m35 221 56 = gL m2 221 56 := by unfold gL; rw [z2 56]
        have ek' : tkS Q hu (-1) (chN Q hu j (S, K, x, 0)).1 = (chN Q hu (j + 1) (S, K, x, 0)).1 := by
          show _ = tkS Q hu (dkN Q (chN Q hu j (S, K, x, 0)).2.2.1).1 (chN Q hu j (S, K, x, 0)).1
          rw [dk]
        have ek2 : tkK Q hu (-1) (chN Q hu j (S, K, x, 0)).1 (chN Q hu j (S, K, x, 0)).2.1 = (chN Q hu (j + 1) (S, K, x, 0)).2.1 := by
          show _ = tkK Q hu (dkN Q (chN Q hu j (S, K, x, 0)).2.2.1).1 (chN Q hu j (S, K, x, 0)).1 (chN Q hu j (S, K, x, 0)).2.1
          rw [dk]
        have ex2 : sdN (chN Q hu j (S, K, x, 0)).2.2.1 = (chN Q hu (j + 1) (S, K, x, 0)).2.2.1 := by
          show _ = (dkN Q (chN Q hu j (S, K, x, 0)).2.2.1).2
          rw [dk]
        have R2 := rg_l hW (fun i hi => d2 i (by omega)) (oLl_q (onl_ga d1 rfl) (onl_ga d1 rfl) (onl_ga d1 rfl) (onl_ga d1 rfl) (onl_ga d1 rfl) (onl_ga d1 rfl)) (onl_ga d1 rfl) hR
        exact ih (j + 1) _ _ _ lo (by omega) (by rw [e39, ek]; rfl) (by rw [eg, dk, if_pos rfl, e31]; omega) (by rw [g56, d3, ex2]) (by rw [← ek']; exact k.2.1) (by rw [← ek2]; exact k.2.2.1) (rg_l hW (fun i _ => onl_zf k.1 rfl) k.2.2.2.1 (onl_ga k.1 rfl) R2) (fun q hq h1 => (f8 q (by omega)).trans ((nn_21 d1 h1).trans (hF q hq h1))) (fun i hi => (z2 i).trans ((d2 i hi).trans (hI i hi))) hm2 a0 a1 a2 a3)
        (fun q1 v4 m2 hm2 k3 y5 e6 q7 y24 e25 q26 x46 e47 y51 e52 => by
        obtain ⟨d1, d2, d3, d4⟩ := k3
        rw [ex] at d3 d4
        rw [z100] at d4
        omega)
        (fun q1 v4 m2 hm2 k3 y5 e6 q7 y24 e25 q26 x46 e47 y51 e52 => by
        obtain ⟨d1, d2, d3, d4⟩ := k3
        rw [ex] at d3 d4
        rw [z100] at d4
        omega)
        (fun q1 v4 m2 hm2 k3 y5 e6 q7 y24 e25 q26 x46 e47 y51 e52 v55 m53 hm53 k54 v58 m56 hm56 k57 x59 e60 lo a0 a1 a2 a3 hm2 => by
        obtain ⟨d1, d2, d3, d4⟩ := k3
        rw [ex] at d3 d4
        rw [z100] at d4
        rw [show gi m2 221 13 = gi mem 221 13 by unfold gi; rw [d2 13 (by decide)], onl_ga d1 rfl] at q7
        rw [show gi m2 221 13 = gi mem 221 13 by unfold gi; rw [d2 13 (by decide)], onl_ga d1 rfl] at q26
        rw [show gi m2 221 13 = gi mem 221 13 by unfold gi; rw [d2 13 (by decide)], onl_ga d1 rfl] at e52
        obtain ⟨c1, c2, c3, c4⟩ := k54
        rw [d3] at c3 c4
        rw [e52, qt] at c4
        have dk := dkN_y (Q := Q) (x := (chN Q hu j (S, K, x, 0)).2.2.1) ⟨by omega, by omega⟩
        have k := k57
        rw [c4] at k
        have f8 := onl_lt (b := 249) rfl k.1
        have z2 : ∀ i, zfl m56 221 i = zfl m53 221 i := fun i => zfl_ea (f8 221 (by decide))
        have g56 : gL m56 221 56 = gL m53 221 56 := by unfold gL; rw [z2 56]
        have ek' : tkS Q hu (drw (sdN (chN Q hu j (S, K, x, 0)).2.2.1) (thN Q)) (chN Q hu j (S, K, x, 0)).1 = (chN Q hu (j + 1) (S, K, x, 0)).1 := by
          show _ = tkS Q hu (dkN Q (chN Q hu j (S, K, x, 0)).2.2.1).1 (chN Q hu j (S, K, x, 0)).1
          rw [dk]
        have ek2 : tkK Q hu (drw (sdN (chN Q hu j (S, K, x, 0)).2.2.1) (thN Q)) (chN Q hu j (S, K, x, 0)).1 (chN Q hu j (S, K, x, 0)).2.1 = (chN Q hu (j + 1) (S, K, x, 0)).2.1 := by
          show _ = tkK Q hu (dkN Q (chN Q hu j (S, K, x, 0)).2.2.1).1 (chN Q hu j (S, K, x, 0)).1 (chN Q hu j (S, K, x, 0)).2.1
          rw [dk]
        have ex2 : sdN (sdN (chN Q hu j (S, K, x, 0)).2.2.1) = (chN Q hu (j + 1) (S, K, x, 0)).2.2.1 := by
          show _ = (dkN Q (chN Q hu j (S, K, x, 0)).2.2.1).2
          rw [dk]
        have db := drw_b (x := sdN (chN Q hu j (S, K, x, 0)).2.2.1) (m := thN Q) (by omega)
        have d1c := onl_tr d1 c1
        have R2 := rg_l hW (fun i hi => (c2 i (by omega)).trans (d2 i (by omega))) (oLl_q (onl_ga d1c rfl) (onl_ga d1c rfl) (onl_ga d1c rfl) (onl_ga d1c rfl) (onl_ga d1c rfl) (onl_ga d1c rfl)) (onl_ga d1c rfl) hR
        exact ih (j + 1) _ _ _ lo (by omega) (by rw [e60, ek]; rfl) (by rw [eg, dk, if_neg (by show ¬ drw _ _ = -1; omega), e47, ef]) (by rw [g56, c3, ex2]) (by rw [← ek']; exact k.2.1) (by rw [← ek2]; exact k.2.2.1) (rg_l hW (fun i _ => onl_zf k.1 rfl) k.2.2.2.1 (onl_ga k.1 rfl) R2) (fun q hq h1 => (f8 q (by omega)).trans ((nn_21 d1c h1).trans (hF q hq h1))) (fun i hi => (z2 i).trans ((c2 i hi).trans ((d2 i hi).trans (hI i hi)))) hm2 a0 a1 a2 a3)
theorem h_mc {n : Int32} (hm : aTm aT0 mem) (hM : mB Q mem) (hW : WQ Q) (hS : tM 0 Q hu S mem) (hs : wS Q S) (hH : wH Q hu) (hK : kM 0 K mem) (hP : rgM Q hu P0 mem) (x0 : 0 ≤ (gL mem 221 56).toInt ∧ (gL mem 221 56).toInt < 2147483648) (hd : 15 ≤ d) : yC zpg d 266 [.ref 221, .int n] mem (fun r m => aTm aT0 m ∧ ((cgN Q S n.toInt ∧ (∃ fo : Int32, r = some (.int fo) ∧ fo.toInt = (chN Q hu n.toInt.toNat (S, K, (gL mem 221 56).toInt, 0)).2.2.2) ∧ (gL m 221 56).toInt = (chN Q hu n.toInt.toNat (S, K, (gL mem 221 56).toInt, 0)).2.2.1 ∧ (∀ k, k < 221 → zat m k = zat mem k) ∧ (∀ i, ¬ i = 54 → ¬ i = 55 → ¬ i = 56 → zfl m 221 i = zfl mem 221 i) ∧ zat m 248 = zat mem 248 ∧ tM 0 Q hu (chN Q hu n.toInt.toNat (S, K, (gL mem 221 56).toInt, 0)).1 m ∧ kM 0 (chN Q hu n.toInt.toNat (S, K, (gL mem 221 56).toInt, 0)).2.1 m ∧ rgM Q hu (pdN P0 (S, K)) m) ∨ (¬ cgN Q S n.toInt ∧ r = some (.int (-1)) ∧ rfX 248 2 mem m))) := by
  obtain ⟨d, rfl⟩ : ∃ q, d = q + 15 := ⟨d - 15, by omega⟩
  have c46 := q46 hM
  have s0 := hS.1.1
  refine yC_of (t := tX12_chance) rfl rfl ?_
  exact w_mc0 (P0 := P0) (K := K) hm rfl rfl hM hW hS hs hK hP 
        (fun q1 y2 e3 hm2 => ⟨hm2, Or.inr ⟨fun w => by have w1 := w.1; have w2 := w.2; omega, rfl, rfX_k rfl rfl e3⟩⟩)
        (fun q1 q4 y5 e6 hm2 => ⟨hm2, Or.inr ⟨fun w => by have w1 := w.1; have w2 := w.2; omega, rfl, rfX_k rfl rfl e6⟩⟩)
        (fun q1 q4 q7 y8 e9 hm2 => ⟨hm2, Or.inr ⟨fun w => by have w1 := w.1; have w2 := w.2; omega, rfl, rfX_k rfl rfl e9⟩⟩)
        (fun q1 q4 q7 y10 e11 x12 e13 q14 y15 e16 hm2 => ⟨hm2, Or.inr ⟨fun w => by have w1 := w.1; have w2 := w.2; omega, rfl, rfX_k rfl rfl e16⟩⟩)
        (fun q1 q4 q7 y10 e11 x12 e13 q14 m17 hm17 k18 lo a0 a1 a2 a3 hm2 => by
    obtain ⟨o1, z1, S1, K1, R1⟩ := k18
    have n0 : n.toInt = (n.toInt.toNat : Int) := by omega
    have e56 : gL m17 221 56 = gL mem 221 56 := by unfold gL; rw [z1 56 (by decide) (by decide)]
    refine yR_mono ?_ (mc_lp (S := S) (K := K) (x := (gL mem 221 56).toInt) (N := n.toInt.toNat) n0 (by omega) (kp_B o1 z1 hM) hW hs hH (by omega) x0 n.toInt.toNat 0 0 0 _ lo (by omega) rfl rfl (congrArg Int64.toInt e56) S1 K1 R1 (fun _ _ _ => rfl) (fun _ _ => rfl) hm2 a0 a1 a2 a3)
    rintro r m ⟨fo, h1, h2, h3, h3x, h4, h5, h6, h7, h8⟩
    exact ⟨h2, Or.inl ⟨⟨⟨by omega, by omega⟩, by omega, by omega⟩, ⟨fo, h1, h3⟩, h3x, fun k hk => (h7 k (by omega) (by omega)).trans (onl_lt (b := 221) rfl o1 k hk), fun i i4 i5 i6 => (h8 i i6).trans (z1 i i4 i5), (h7 248 (by omega) (by omega)).trans (o1 248 rfl), h4, h5, h6⟩⟩)
theorem mt_F {t : Int32} {m1 m2 : zM} (hW : WQ Q) (t0 : 0 ≤ t.toInt ∧ t.toInt ≤ 8) (hm2 : aTm aT0 m2) (k1 : onl [221, 249, 250, 251, 252, 253, 254] mem m1 ∧ (∀ i, ¬ i = 54 → ¬ i = 55 → zfl m1 221 i = zfl mem 221 i) ∧ tM 0 Q hu S m1 ∧ kM 0 K m1 ∧ rgM Q hu (pdN P0 (S, K)) m1) (k2 : onl [250, 251, 253, 254] m1 m2 ∧ (∀ u, 0 ≤ u → gn (ga m2 250) u = if u = 0 then (Sm S ^^^ ((1 : Int32) <<< (t &&& 31))).toInt else gn (ga m1 250) u) ∧ (∀ j, 0 ≤ j → gn (ga m2 251) j = if j = 9 * 0 + t.toInt then 0 else gn (ga m1 251) j) ∧ kM 0 (kpP K (Sn S, t.toInt, btI (Sm S) t.toInt)) m2 ∧ oKl 0 m1 m2) : (∀ k, k < 221 → zat m2 k = zat mem k) ∧ (∀ i, ¬ i = 54 → ¬ i = 55 → zfl m2 221 i = zfl mem 221 i) ∧ zat m2 248 = zat mem 248 ∧ tM 0 Q hu (tnS S t) m2 ∧ kM 0 (kpP K (Sn S, t.toInt, btI (Sm S) t.toInt)) m2 ∧ rgM Q hu (pdN P0 (S, K)) m2 := by
  obtain ⟨o1, z1, S1, -, R1⟩ := k1
  obtain ⟨o2, g0, g1, K2, L2⟩ := k2
  obtain ⟨⟨a1, a2⟩, a3, a4, a5⟩ := S1
  have e221 : ∀ i, zfl m2 221 i = zfl m1 221 i := fun i => onl_zf o2 rfl
  have e5 : ga m2 255 = ga m1 255 := onl_ga o2 rfl
  have e2 : ga m2 252 = ga m1 252 := onl_ga o2 rfl
  have e9 : ga m2 249 = ga m1 249 := onl_ga o2 rfl
  refine ⟨fun k hk => (onl_lt (b := 221) rfl o2 k hk).trans (onl_lt (b := 221) rfl o1 k hk), fun i i4 i5 => (e221 i).trans (z1 i i4 i5), (o2 248 rfl).trans (o1 248 rfl), ?_, K2, ?_⟩
  · refine ⟨⟨by rw [e9]; exact a1, by rw [g0 0 (by decide), if_pos rfl]; rfl⟩, fun u u0 u1 => ?_, fun u u0 u1 => by rw [e2]; exact a4 u u0 u1, fun u u0 u1 => by rw [e5]; exact a5 u u0 u1⟩
    rw [g1 _ (by omega)]
    show _ = if u = t.toInt then 0 else Sa S u
    by_cases w : u = t.toInt
    · rw [if_pos w, if_pos (by omega)]
    · rw [if_neg w, if_neg (by omega)]
      exact a3 u u0 u1
  · refine rg_l hW (fun i _ => e221 i) ⟨fun u u0 uv => ⟨by rw [e9], by rw [g0 u u0, if_neg uv]⟩, fun j j0 jv => by rw [g1 j j0, if_neg (by omega)], fun j _ _ => by rw [e2], L2⟩ e5 R1
theorem h_ml {t : Int32} (hm : aTm aT0 mem) (hM : mB Q mem) (hW : WQ Q) (hS : tM 0 Q hu S mem) (hs : wS Q S) (hK : kM 0 K mem) (hP : rgM Q hu P0 mem) (hd : 16 ≤ d) : yC zpg d 268 [.ref 221, .int t] mem (fun r m => aTm aT0 m ∧ ((loN Q S t.toInt ∧ r = some (.int 1) ∧ ((∀ k, k < 221 → zat m k = zat mem k) ∧ (∀ i, ¬ i = 54 → ¬ i = 55 → zfl m 221 i = zfl mem 221 i) ∧ zat m 248 = zat mem 248 ∧ tM 0 Q hu (tnS S t) m ∧ kM 0 (kpP K (Sn S, t.toInt, btI (Sm S) t.toInt)) m ∧ rgM Q hu (pdN P0 (S, K)) m)) ∨ (¬ loN Q S t.toInt ∧ r = some (.int 0) ∧ rfX 248 3 mem m))) := by
  obtain ⟨d, rfl⟩ : ∃ q, d = q + 16 := ⟨d - 16, by omega⟩
  have mt := hM.1.2.2.1.1
  have e9 : thN Q = ((Qt Q).length : Int) := rfl
  have t9 := hW.2.1.1
  have s1 := hS.1.2
  refine yC_of (t := tX12_lose) rfl rfl ?_
  exact w_ml (P0 := P0) (K := K) hm hM hW hS hs hK hP 
        (fun q1 y2 e3 hm2 => ⟨hm2, Or.inr ⟨fun w => by have w1 := w.1; omega, rfl, rfX_k rfl rfl e3⟩⟩)
        (fun q1 y4 e5 q6 y7 e8 hm2 => ⟨hm2, Or.inr ⟨fun w => by have w1 := w.1; omega, rfl, rfX_k rfl rfl e8⟩⟩)
        (fun q1 y4 e5 q6 y9 e10 q11 m12 hm12 k13 m14 hm14 k15 hm2 => by
      have ye : y9 = Sm S := Int32.toInt_inj.1 (e10.trans s1)
      rw [ye, bt_shr (by omega) (by omega)] at q11
      exact ⟨hm2, Or.inl ⟨⟨⟨by omega, by omega⟩, q11⟩, rfl, mt_F hW ⟨by omega, by omega⟩ hm2 k13 k15⟩⟩)
        (fun q1 y4 e5 q6 y9 e10 q11 y16 e17 hm2 => by
      have ye : y9 = Sm S := Int32.toInt_inj.1 (e10.trans s1)
      rw [ye, bt_shr (by omega) (by omega)] at q11
      exact ⟨hm2, Or.inr ⟨fun w => w.2 q11, rfl, rfX_k rfl rfl e17⟩⟩)
theorem h_mf {t : Int32} (hm : aTm aT0 mem) (hM : mB Q mem) (hW : WQ Q) (hS : tM 0 Q hu S mem) (hs : wS Q S) (hK : kM 0 K mem) (hP : rgM Q hu P0 mem) (hd : 16 ≤ d) : yC zpg d 269 [.ref 221, .int t] mem (fun r m => aTm aT0 m ∧ ((fiN Q S t.toInt ∧ r = some (.int 1) ∧ ((∀ k, k < 221 → zat m k = zat mem k) ∧ (∀ i, ¬ i = 54 → ¬ i = 55 → zfl m 221 i = zfl mem 221 i) ∧ zat m 248 = zat mem 248 ∧ tM 0 Q hu (tnS S t) m ∧ kM 0 (kpP K (Sn S, t.toInt, btI (Sm S) t.toInt)) m ∧ rgM Q hu (pdN P0 (S, K)) m)) ∨ (¬ fiN Q S t.toInt ∧ r = some (.int 0) ∧ rfX 248 3 mem m))) := by
  obtain ⟨d, rfl⟩ : ∃ q, d = q + 16 := ⟨d - 16, by omega⟩
  have mt := hM.1.2.2.1.1
  have e9 : thN Q = ((Qt Q).length : Int) := rfl
  have t9 := hW.2.1.1
  have s1 := hS.1.2
  refine yC_of (t := tX12_find) rfl rfl ?_
  exact w_mf (P0 := P0) (K := K) hm hM hW hS hs hK hP 
        (fun q1 y2 e3 hm2 => ⟨hm2, Or.inr ⟨fun w => by have w1 := w.1; omega, rfl, rfX_k rfl rfl e3⟩⟩)
        (fun q1 y4 e5 q6 y7 e8 hm2 => ⟨hm2, Or.inr ⟨fun w => by have w1 := w.1; omega, rfl, rfX_k rfl rfl e8⟩⟩)
        (fun q1 y4 e5 q6 y9 e10 q11 y12 e13 hm2 => by
      have ye : y9 = Sm S := Int32.toInt_inj.1 (e10.trans s1)
      rw [ye, bt_shr (by omega) (by omega)] at q11
      exact ⟨hm2, Or.inr ⟨fun w => q11 w.2, rfl, rfX_k rfl rfl e13⟩⟩)
        (fun q1 y4 e5 q6 y9 e10 q11 m14 hm14 k15 m16 hm16 k17 hm2 => by
      have ye : y9 = Sm S := Int32.toInt_inj.1 (e10.trans s1)
      rw [ye, bt_shr (by omega) (by omega)] at q11
      exact ⟨hm2, Or.inl ⟨⟨⟨by omega, by omega⟩, q11⟩, rfl, mt_F hW ⟨by omega, by omega⟩ hm2 k15 k17⟩⟩)
theorem h_mle {f x y : Int32} (hm : aTm aT0 mem) (hM : mB Q mem) (hW : WQ Q) (hS : tM 0 Q hu S mem) (hs : wS Q S) (hK : kM 0 K mem) (hP : rgM Q hu P0 mem) (hd : 16 ≤ d) : yC zpg d 270 [.ref 221, .int f, .int x, .int y] mem (fun r m => aTm aT0 m ∧ ((leN Q S f.toInt x.toInt y.toInt ∧ r = some (.int 1) ∧ ((∀ k, k < 221 → zat m k = zat mem k) ∧ (∀ i, ¬ i = 54 → ¬ i = 55 → zfl m 221 i = zfl mem 221 i) ∧ zat m 248 = zat mem 248 ∧ tM 0 Q hu (ldS S f.toInt (8 * y.toInt + x.toInt)) m ∧ kM 0 K m ∧ rgM Q hu (pdN P0 (S, K)) m)) ∨ (¬ leN Q S f.toInt x.toInt y.toInt ∧ r = some (.int 0) ∧ rfX 248 3 mem m))) := by
  obtain ⟨d, rfl⟩ : ∃ q, d = q + 16 := ⟨d - 16, by omega⟩
  have mf := hM.1.2.2.2.2.1.1
  have f9 := hW.2.1.2.1
  have e9 : foN Q = ((Qf Q).length : Int) := rfl
  have mc := hM.1.1.1
  have mr := hM.1.1.2
  have w7 := hW.1
  have c46 := q46 hM
  have rb := mO_r13 hm
  have s3 := hS.2.2.1
  have wl : ∀ c, 0 ≤ c → c < 64 → (gn (ga mem 227) (64 * (gi mem 221 13).toInt + c) = 1 ↔ c ∈ Qw Q) := hM.1.2.1
  refine yC_of (t := tX12_lead) rfl rfl ?_
  exact w_mle (P0 := P0) (K := K) hm hM hW hS hs hK hP 
        (fun q1 q2 y3 e4 hm2 => ⟨hm2, Or.inr ⟨fun w => by have w1 := w.1; have w2 := w.2.1.1; have w3 := w.2.1.2.1; have w4 := w.2.1.2.2.1; omega, rfl, rfX_k rfl rfl e4⟩⟩)
        (fun q1 q2 y5 e6 q7 y8 e9 hm2 => ⟨hm2, Or.inr ⟨fun w => by have w1 := w.1; have w2 := w.2.1.1; have w3 := w.2.1.2.1; have w4 := w.2.1.2.2.1; omega, rfl, rfX_k rfl rfl e9⟩⟩)
        (fun q1 q2 y5 e6 q7 y10 e11 hm2 => ⟨hm2, Or.inr ⟨fun w => by have w1 := w.1; have w2 := w.2.1.1; have w3 := w.2.1.2.1; have w4 := w.2.1.2.2.1; omega, rfl, rfX_k rfl rfl e11⟩⟩)
        (fun q1 y12 e13 x14 e15 q16 q17 y18 e19 hm2 => ⟨hm2, Or.inr ⟨fun w => by have w1 := w.1; have w2 := w.2.1.1; have w3 := w.2.1.2.1; have w4 := w.2.1.2.2.1; omega, rfl, rfX_k rfl rfl e19⟩⟩)
        (fun q1 y12 e13 x14 e15 q16 q17 y20 e21 q22 y23 e24 hm2 => ⟨hm2, Or.inr ⟨fun w => by have w1 := w.1; have w2 := w.2.1.1; have w3 := w.2.1.2.1; have w4 := w.2.1.2.2.1; omega, rfl, rfX_k rfl rfl e24⟩⟩)
        (fun q1 y12 e13 x14 e15 q16 q17 y20 e21 q22 y25 e26 hm2 => ⟨hm2, Or.inr ⟨fun w => by have w1 := w.1; have w2 := w.2.1.1; have w3 := w.2.1.2.1; have w4 := w.2.1.2.2.1; omega, rfl, rfX_k rfl rfl e26⟩⟩)
        (fun q1 y12 e13 x14 e15 q16 q27 q28 y29 e30 hm2 => ⟨hm2, Or.inr ⟨fun w => by have w1 := w.1; have w2 := w.2.1.1; have w3 := w.2.1.2.1; have w4 := w.2.1.2.2.1; omega, rfl, rfX_k rfl rfl e30⟩⟩)
        (fun q1 y12 e13 x14 e15 q16 q27 q28 y31 e32 q33 y34 e35 hm2 => ⟨hm2, Or.inr ⟨fun w => by have w1 := w.1; have w2 := w.2.1.1; have w3 := w.2.1.2.1; have w4 := w.2.1.2.2.1; omega, rfl, rfX_k rfl rfl e35⟩⟩)
        (fun q1 y12 e13 x14 e15 q16 q27 q28 y31 e32 q33 y36 e37 hm2 => ⟨hm2, Or.inr ⟨fun w => by have w1 := w.1; have w2 := w.2.1.1; have w3 := w.2.1.2.1; have w4 := w.2.1.2.2.1; omega, rfl, rfX_k rfl rfl e37⟩⟩)
        (fun q1 y12 e13 x14 e15 q16 q27 y38 e39 x40 e41 q42 q43 y44 e45 hm2 => ⟨hm2, Or.inr ⟨fun w => by have w1 := w.1; have w2 := w.2.1.1; have w3 := w.2.1.2.1; have w4 := w.2.1.2.2.1; omega, rfl, rfX_k rfl rfl e45⟩⟩)
        (fun q1 y12 e13 x14 e15 q16 q27 y38 e39 x40 e41 q42 q43 y46 e47 q48 y49 e50 hm2 => ⟨hm2, Or.inr ⟨fun w => by have w1 := w.1; have w2 := w.2.1.1; have w3 := w.2.1.2.1; have w4 := w.2.1.2.2.1; omega, rfl, rfX_k rfl rfl e50⟩⟩)
        (fun q1 y12 e13 x14 e15 q16 q27 y38 e39 x40 e41 q42 q43 y46 e47 q48 y51 e52 hm2 => ⟨hm2, Or.inr ⟨fun w => by have w1 := w.1; have w2 := w.2.1.1; have w3 := w.2.1.2.1; have w4 := w.2.1.2.2.1; omega, rfl, rfX_k rfl rfl e52⟩⟩)
        (fun q1 y12 e13 x14 e15 q16 q27 y38 e39 x40 e41 q42 q53 q54 y55 e56 hm2 => ⟨hm2, Or.inr ⟨fun w => by have w1 := w.1; have w2 := w.2.1.1; have w3 := w.2.1.2.1; have w4 := w.2.1.2.2.1; omega, rfl, rfX_k rfl rfl e56⟩⟩)
        (fun q1 y12 e13 x14 e15 q16 q27 y38 e39 x40 e41 q42 q53 q54 y57 e58 q59 y60 e61 hm2 => ⟨hm2, Or.inr ⟨fun w => by have w1 := w.1; have w2 := w.2.1.1; have w3 := w.2.1.2.1; have w4 := w.2.1.2.2.1; omega, rfl, rfX_k rfl rfl e61⟩⟩)
        (fun q1 y12 e13 x14 e15 q16 q27 y38 e39 x40 e41 q42 q53 q54 y57 e58 q59 y62 e63 hm2 => ⟨hm2, Or.inr ⟨fun w => by have w1 := w.1; have w2 := w.2.1.1; have w3 := w.2.1.2.1; have w4 := w.2.1.2.2.1; omega, rfl, rfX_k rfl rfl e63⟩⟩)
        (fun q1 y12 e13 x14 e15 q16 q27 y38 e39 x40 e41 q42 q53 x64 e65 x66 e67 q68 y69 e70 hm2 => ⟨hm2, Or.inr ⟨fun w => by have w1 := w.1; have w2 := w.2.1.1; have w3 := w.2.1.2.1; have w4 := w.2.1.2.2.1; omega, rfl, rfX_k rfl rfl e70⟩⟩)
        (fun q1 y12 e13 x14 e15 q16 q27 y38 e39 x40 e41 q42 q53 x64 e65 x66 e67 q68 y71 e72 q73 y74 e75 hm2 => ⟨hm2, Or.inr ⟨fun w => by have w1 := w.1; have w2 := w.2.1.1; have w3 := w.2.1.2.1; have w4 := w.2.1.2.2.1; omega, rfl, rfX_k rfl rfl e75⟩⟩)
        (fun q1 y12 e13 x14 e15 q16 q27 y38 e39 x40 e41 q42 q53 x64 e65 x66 e67 q68 y71 e72 q73 q76 y77 e78 hm2 => ⟨hm2, Or.inr ⟨fun w => by have w1 := w.1; have w2 := w.2.1.1; have w3 := w.2.1.2.1; have w4 := w.2.1.2.2.1; omega, rfl, rfX_k rfl rfl e78⟩⟩)
        (fun q1 y12 e13 x14 e15 q16 q27 y38 e39 x40 e41 q42 q53 x64 e65 x66 e67 q68 y71 e72 q73 q76 x79 e80 x81 e82 y83 e84 q85 y86 e87 q88 m89 hm89 k90 hm2 => by
      have g := s3 f.toInt (by omega) (by omega)
      rw [show (6 * (0 : Int) + f.toInt) = f.toInt by omega] at g
      obtain ⟨o1, z1, S1, K1, R1⟩ := k90
      obtain ⟨⟨a1, a2⟩, a3, a4, a5⟩ := S1
      have fF : ∀ k, ¬ k = 252 → zat (sx m89 252 f x66) k = zat m89 k := fun k hk => zat_sa_ne (fun w => hk w.symm)
      have e2 : ∀ u, 0 ≤ u → gn (ga (sx m89 252 f x66) 252) u = if u = f.toInt then 8 * y.toInt + x.toInt else gn (ga m89 252) u := fun u u0 => by
        show gn (ga (sa m89 252 f.toNatClampNeg x66) 252) u = _
        rw [ga_sa_eq, gn_set rfl (by omega) (by rw [(ga_ty aR_252 hm89).2.1]; omega) u0]
        by_cases w : u = f.toInt
        · rw [if_pos w, if_pos w]
          omega
        · rw [if_neg w, if_neg w]
      refine ⟨hm2, Or.inl ⟨⟨⟨by omega, by omega⟩, ⟨⟨by omega, by omega⟩, by omega, by omega, fun z => q85 ((wl _ (by omega) (by omega)).2 z)⟩, by omega⟩, rfl, fun k hk => (fF k (by omega)).trans (onl_lt (b := 221) rfl o1 k hk), fun i i4 i5 => (zfl_ea (fF 221 (by decide))).trans (z1 i i4 i5), (fF 248 (by decide)).trans (o1 248 rfl), ?_, kM_q (ga_zq (fF 253 (by decide))) (ga_zq (fF 254 (by decide))) K1, rg_l hW (fun i _ => zfl_ea (fF 221 (by decide))) ⟨fun u u0 uv => ⟨by rw [ga_zq (fF 249 (by decide))], by rw [ga_zq (fF 250 (by decide))]⟩, fun j _ _ => by rw [ga_zq (fF 251 (by decide))], fun j j0 jv => by rw [e2 j j0, if_neg (by omega)], oKl_q (ga_zq (fF 253 (by decide))) (ga_zq (fF 254 (by decide)))⟩ (ga_zq (fF 255 (by decide))) R1⟩⟩
      refine ⟨⟨by rw [ga_zq (fF 249 (by decide))]; exact a1, by rw [ga_zq (fF 250 (by decide))]; exact a2⟩, fun u u0 u1 => by rw [ga_zq (fF 251 (by decide))]; exact a3 u u0 u1, fun u u0 u1 => ?_, fun u u0 u1 => by rw [ga_zq (fF 255 (by decide))]; exact a5 u u0 u1⟩
      show gn _ (6 * 0 + u) = if u = f.toInt then 8 * y.toInt + x.toInt else Sp S u
      rw [e2 _ (by omega)]
      by_cases w : u = f.toInt
      · rw [if_pos w, if_pos (by omega)]
      · rw [if_neg w, if_neg (by omega)]
        exact a4 u u0 u1)
        (fun q1 y12 e13 x14 e15 q16 q27 y38 e39 x40 e41 q42 q53 x64 e65 x66 e67 q68 y71 e72 q73 q76 x79 e80 x81 e82 y83 e84 q85 y86 e87 q88 y91 e92 hm2 => ⟨hm2, Or.inr ⟨fun w => by have w3 := w.2.2; have g := s3 f.toInt (by omega) (by omega); rw [show (6 * (0 : Int) + f.toInt) = f.toInt by omega] at g; omega, rfl, rfX_k rfl rfl e92⟩⟩)
        (fun q1 y12 e13 x14 e15 q16 q27 y38 e39 x40 e41 q42 q53 x64 e65 x66 e67 q68 y71 e72 q73 q76 x79 e80 x81 e82 y83 e84 q85 y93 e94 hm2 => ⟨hm2, Or.inr ⟨fun w => w.2.1.2.2.2 ((wl _ (by omega) (by omega)).1 q85), rfl, rfX_k rfl rfl e94⟩⟩)
theorem h_mu (hm : aTm aT0 mem) (hW : WQ Q) (hP : rgM Q hu P0 mem) (hd : 6 ≤ d) : yC zpg d 214 [.ref 221] mem (fun r m => aTm aT0 m ∧ ((1 ≤ P0.1 ∧ r = some (.int 1) ∧ ((∀ k, k < 221 → zat m k = zat mem k) ∧ (∀ i, ¬ i = 54 → ¬ i = 55 → zfl m 221 i = zfl mem 221 i) ∧ zat m 248 = zat mem 248 ∧ tM 0 Q hu (P0.2 (P0.1 - 1)).1 m ∧ kM 0 (P0.2 (P0.1 - 1)).2 m ∧ rgM Q hu (P0.1 - 1, P0.2) m)) ∨ (¬ 1 ≤ P0.1 ∧ r = some (.int 0) ∧ rfX 248 4 mem m))) := by
  have p5 := hP.2.1.1
  by_cases p1 : 1 ≤ P0.1
  · refine yC_mono (fun r m q => ?_) (h_un hm hW hP p1 (by omega))
    obtain ⟨q1, q2, q3, q4, q5, q6, q7⟩ := q
    exact ⟨q2, Or.inl ⟨p1, q1, onl_lt (b := 221) rfl q3, fun i _ i5 => q4 i i5, q3 248 rfl, q5, q6, q7⟩⟩
  · obtain ⟨d, rfl⟩ : ∃ q, d = q + 6 := ⟨d - 6, by omega⟩
    have p0 := hP.1.1
    refine yC_of (t := tX12_undo) rfl rfl ?_
    exact w_mu hm rfl (fun q1 lo a0 hm2 => by exfalso; omega) (fun q1 y2 e2 hm2 => ⟨hm2, Or.inr ⟨p1, rfl, rfX_k rfl rfl e2⟩⟩)
end ACM
