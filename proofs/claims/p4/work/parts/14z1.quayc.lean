/-! quay of the class: what it answers -/
section DC
variable {d : Nat} {mr mem m : zM} {T : List Int32}
theorem aJ_07 (hm : aTm aT0 m) : aJ (aΘ7 (fun _ => True)) m := ⟨aLq_s aLq_e hm, trivial⟩
theorem H7_t : aH7 (fun _ => True) := ⟨fun _ _ _ _ _ => trivial, trivial⟩
theorem gi_zfq {k i : Nat} (h : zfl m k i = zfl mr k i) : gi m k i = gi mr k i := by
  unfold gi
  rw [h]
set_option maxRecDepth 100000 in
theorem qt80 {q : Nat} {τs : List (Bool × aTy)} {lo : List (Nat × Value)} (ho : aat aT0 q = some (.inr (4, τs))) (hi : τs[0]? = some (false, .inl (-2147483648, 2147483647))) (hk : aKf aT7 q 0 = true) (hq : q ∈ [2, 14]) (hm : aTm aT0 mem) (hp : zfl mem 0 4 = some (.ref q)) (a0 : zlg lo 0 = some (.ref 0)) : yR zpg tX11_quay (d + 63) (80, lo, [], mem) (fun r _ => r = some (.int (gi mem q 0))) := by
  have k4 : aKf aT7 0 4 = true := rfl
  refine wR_la rfl a0 ?_
  refine wR_gr rfl cO_e cO_10 hm ?_
  refine wR_la rfl a0 ?_
  refine wR_gq rfl cO_e hm hp ?_
  refine wR_cv rfl rfl aHo_e hm rfl (k7_X0_moveTo H7_t _ _ [.ref 181, .ref q] (by omega) (aJ_07 hm) ⟨⟨181, List.mem_singleton.mpr rfl, rfl⟩, ⟨q, hq, rfl⟩, trivial⟩) ?_
  rintro r m1 ⟨j1, p1, t1⟩
  cases r with
  | some w => exact t1.elim
  | none =>
    have h1 : aTm aT0 m1 := aLq_s aLq_f j1.1
    show yR zpg tX11_quay (d + 63) (91, lo, [], m1) _
    refine wR_la rfl a0 ?_
    refine wR_gq rfl cO_e h1 ((p1.2 0 4 k4).trans hp) ?_
    refine wR_la rfl a0 ?_
    refine wR_gr rfl cO_e cO_7 h1 ?_
    refine wR_cv rfl rfl ho h1 rfl (k7_X4_setFirst H7_t _ _ [.ref q, .ref 31] (by omega) j1 ⟨⟨q, hq, rfl⟩, ⟨31, List.mem_singleton.mpr rfl, rfl⟩, trivial⟩) ?_
    rintro r m2 ⟨j2, p2, t2⟩
    have p2 := aPr_tr p1 p2
    cases r with
    | some w => exact t2.elim
    | none =>
      have h2 : aTm aT0 m2 := aLq_s aLq_f j2.1
      show yR zpg tX11_quay (d + 63) (102, lo, [], m2) _
      refine wR_la rfl a0 ?_
      refine wR_cv rfl rfl cO_e h2 rfl (k7_X11_forgetActs H7_t _ _ [.ref 0] (by omega) j2 ⟨⟨0, List.mem_singleton.mpr rfl, rfl⟩, trivial⟩) ?_
      rintro r m3 ⟨j3, p3, t3⟩
      have p3 := aPr_tr p2 p3
      cases r with
      | some w => exact t3.elim
      | none =>
        have h3 : aTm aT0 m3 := aLq_s aLq_f j3.1
        show yR zpg tX11_quay (d + 63) (106, lo, [], m3) _
        refine wR_la rfl a0 ?_
        refine wR_gr rfl cO_e cO_11 h3 ?_
        refine wR_cv rfl rfl aPo_e h3 rfl (k7_X3_forgetMet H7_t _ _ [.ref 185] (by omega) j3 ⟨⟨185, List.mem_singleton.mpr rfl, rfl⟩, trivial⟩) ?_
        rintro r m4 ⟨j4, p4, t4⟩
        have p4 := aPr_tr p3 p4
        cases r with
        | some w => exact t4.elim
        | none =>
          have h4 : aTm aT0 m4 := aLq_s aLq_f j4.1
          show yR zpg tX11_quay (d + 63) (113, lo, [], m4) _
          refine wR_la rfl a0 ?_
          refine wR_gq rfl cO_e h4 ((p4.2 0 4 k4).trans hp) ?_
          refine wR_gi rfl ho hi h4 (gi_zfq (p4.2 q 0 hk)) ?_
          exact yR_ri rfl rfl
set_option maxRecDepth 100000 in
theorem w_qr {d : Nat} {mem : zM} {P : Option Value → zM → Prop} {lo : List (Nat × Value)} (hm : aTm aT0 mem) (l_0 : zlg lo 0 = some (.ref 0)) (h1 : ∀ (y1 : Int32), y1.toInt = (gn (ga mem 220) 1) → aTm aT0 (sx (si (si mem 0 2 (gi mem 27 10)) 0 3 (gi mem 27 11)) 220 1 (y1 + 1)) → P (some (.int (-1))) (sx (si (si mem 0 2 (gi mem 27 10)) 0 3 (gi mem 27 11)) 220 1 (y1 + 1))) : yR zpg tX11_quay (d + 63) (24, lo, [], mem) P := by
  refine wR_la rfl l_0 ?_
  refine wR_la rfl l_0 ?_
  refine wR_gr rfl cO_e cO_6 hm ?_
  refine wR_iv rfl rfl tO_e hm rfl rfl rfl rfl ?_
  show yR zpg tX9_faultKind (d + 62) (0, [(0, .ref 26)], [], mem) _
  refine yR_m 1 (fun _ _ _ _ => rfl) ?_
  refine wR_gr rfl tO_e tO_0 hm ?_
  refine wR_gi rfl rO_e rO_10 hm rfl ?_
  refine yR_ri rfl ?_
  show yR zpg tX11_quay (d + 63) (32, lo, [.int (gi mem 27 10), .ref 0], mem) _
  refine wR_pi rfl cO_e cO_2 hm rfl ?_
  have hm_1 : aTm aT0 (si mem 0 2 (gi mem 27 10)) := tm_si cO_e cO_2 hm (i32_b _)
  refine wR_la rfl l_0 ?_
  refine wR_la rfl l_0 ?_
  refine wR_gr rfl cO_e cO_6 hm_1 ?_
  refine wR_iv rfl rfl tO_e hm_1 rfl rfl rfl rfl ?_
  show yR zpg tX9_faultPlace (d + 62) (0, [(0, .ref 26)], [], (si mem 0 2 (gi mem 27 10))) _
  refine yR_m 1 (fun _ _ _ _ => rfl) ?_
  refine wR_gr rfl tO_e tO_0 hm_1 ?_
  refine wR_gi rfl rO_e rO_11 hm_1 (gi_sv_ne (by decide)) ?_
  refine yR_ri rfl ?_
  show yR zpg tX11_quay (d + 63) (43, lo, [.int (gi mem 27 11), .ref 0], (si mem 0 2 (gi mem 27 10))) _
  refine wR_pi rfl cO_e cO_3 hm_1 rfl ?_
  have hm_2 : aTm aT0 (si (si mem 0 2 (gi mem 27 10)) 0 3 (gi mem 27 11)) := tm_si cO_e cO_3 hm_1 (i32_b _)
  refine wR_la rfl l_0 ?_
  refine yR_m 1 (fun _ _ _ _ => rfl) ?_
  refine wR_iv rfl rfl cO_e hm_2 rfl rfl rfl rfl ?_
  show yR zpg tX11_refuse (d + 62) (0, [(0, .ref 0), (1, .int 1)], [], (si (si mem 0 2 (gi mem 27 10)) 0 3 (gi mem 27 11))) _
  refine yR_m 1 (fun _ _ _ _ => rfl) ?_
  refine wR_gr rfl cO_e cO_14 hm_2 ?_
  refine yR_m 2 (fun _ _ _ _ => rfl) ?_
  refine wN_al (a := 1) rfl aR_220 hm_2 ((ga_sv).trans (ga_sv)) rfl (by decide) (fun y1 e2 => ?_)
  refine yR_m 2 (fun _ _ _ _ => rfl) ?_
  refine wN_as (a := 1) rfl aR_220 hm_2 rfl (by decide) ?_
  have hm_3 : aTm aT0 (sx (si (si mem 0 2 (gi mem 27 10)) 0 3 (gi mem 27 11)) 220 1 (y1 + 1)) := tm_sa aR_220 hm_2 (i32_b _)
  refine yR_m 1 (fun _ _ _ _ => rfl) ?_
  refine yR_ri rfl ?_
  show yR zpg tX11_quay (d + 63) (51, lo, [.int (-1)], (sx (si (si mem 0 2 (gi mem 27 10)) 0 3 (gi mem 27 11)) 220 1 (y1 + 1))) _
  exact yR_ri rfl (h1 y1 e2 hm_3)

set_option maxRecDepth 100000 in
theorem w_qyA {d : Nat} {mem : zM} {P : Option Value → zM → Prop} {T : List Int32} {lo : List (Nat × Value)} (hm : aTm aT0 mem) (l_0 : zlg lo 0 = some (.ref 0)) (hsp : zfl mem 0 5 = some (.ref 2)) (hC : ga mem 28 = ownC) (hT : ga mem 1 = T) (h1 : ∀ (v6 : Int32) (m4 : zM), aTm aT0 m4 → (zat m4 0 = zat (si mem 0 1 0) 0 ∧ ((v6.toInt = 1 ∧ sQua T (gi mem 0 1).toInt = some (gi m4 2 0).toInt) ∨ (v6.toInt = 0 ∧ sQua T (gi mem 0 1).toInt = none))) → ¬ (v6).toInt = 0 → ∀ lo, zlg lo 0 = some (.ref 0) → aTm aT0 m4 → yR zpg tX11_quay (d + 63) (52, lo, [], m4) P) (h2 : ∀ (v6 : Int32) (m4 : zM), aTm aT0 m4 → (zat m4 0 = zat (si mem 0 1 0) 0 ∧ ((v6.toInt = 1 ∧ sQua T (gi mem 0 1).toInt = some (gi m4 2 0).toInt) ∨ (v6.toInt = 0 ∧ sQua T (gi mem 0 1).toInt = none))) → (v6).toInt = 0 → ∀ lo, zlg lo 0 = some (.ref 0) → aTm aT0 m4 → yR zpg tX11_quay (d + 63) (24, lo, [], m4) P) : yR zpg tX11_quay (d + 63) (0, lo, [], mem) P := by
  refine wR_la rfl l_0 ?_
  refine wR_iv rfl rfl cO_e hm rfl rfl rfl rfl ?_
  show yR zpg tX11_takeTape (d + 62) (0, [(0, .ref 0)], [], mem) _
  refine yR_m 1 (fun _ _ _ _ => rfl) ?_
  refine wR_gi rfl cO_e cO_1 hm rfl ?_
  refine yR_m 3 (fun _ _ _ _ => rfl) ?_
  refine wR_pi rfl cO_e cO_1 hm rfl ?_
  have hm_1 : aTm aT0 (si mem 0 1 0) := tm_si cO_e cO_1 hm (by decide)
  refine yR_m 1 (fun _ _ _ _ => rfl) ?_
  refine yR_ri rfl ?_
  show yR zpg tX11_quay (d + 63) (4, lo, [.int (gi mem 0 1)], (si mem 0 1 0)) _
  refine wR_si rfl rfl (fun lo1 e2 f3 => ?_)
  have lo1_0 := f3 0 _ (by decide) (Or.inl rfl) l_0
  refine wR_la rfl lo1_0 ?_
  refine wR_gr rfl cO_e cO_6 hm_1 ?_
  refine wR_la rfl lo1_0 ?_
  refine wR_gr rfl cO_e cO_0 hm_1 ?_
  refine wR_li rfl e2 ?_
  refine wR_la rfl lo1_0 ?_
  refine wR_gq rfl cO_e hm_1 ((zfl_sv_ne (by decide)).trans hsp) ?_
  refine wR_cv rfl rfl tO_e hm_1 rfl (h_reCA (T := T) hm_1 (ga_sv.trans hC) (ga_sv.trans hT) (cO_r1 hm) (by omega)) ?_
  rintro _ m4 ⟨v6, rfl, hm4, k5⟩
  show yR zpg tX11_quay (d + 63) (21, lo1, [.int v6], m4) _
  refine wR_if_ne rfl (a := (v6).toInt) rfl (fun q7 => ?_) (fun q7 => ?_)
  ·
    exact h1 v6 m4 hm4 k5 q7 lo1 lo1_0 hm4
  ·
    exact h2 v6 m4 hm4 k5 q7 lo1 lo1_0 hm4

set_option maxRecDepth 100000 in
theorem w_qsA2 {d : Nat} {mem : zM} {P : Option Value → zM → Prop} {lo : List (Nat × Value)} (hm : aTm aT0 mem) (l_0 : zlg lo 0 = some (.ref 0)) (hsp : zfl mem 0 5 = some (.ref 2)) (hp : zfl mem 0 4 = some (.ref 2)) (h1 : ∀ lo, zlg lo 0 = some (.ref 0) → aTm aT0 (sR (sR (si (si mem 0 2 0) 0 3 (-1)) 0 4 2) 0 5 2) → yR zpg tX11_quay (d + 63) (80, lo, [], (sR (sR (si (si mem 0 2 0) 0 3 (-1)) 0 4 2) 0 5 2)) P) : yR zpg tX11_quay (d + 63) (52, lo, [], mem) P := by
  refine wR_la rfl l_0 ?_
  refine yR_m 1 (fun _ _ _ _ => rfl) ?_
  refine wR_pi rfl cO_e cO_2 hm rfl ?_
  have hm_1 : aTm aT0 (si mem 0 2 0) := tm_si cO_e cO_2 hm (i32_b _)
  refine wR_la rfl l_0 ?_
  refine yR_m 1 (fun _ _ _ _ => rfl) ?_
  refine wR_pi rfl cO_e cO_3 hm_1 rfl ?_
  have hm_2 : aTm aT0 (si (si mem 0 2 0) 0 3 (-1)) := tm_si cO_e cO_3 hm_1 (i32_b _)
  refine wR_la rfl l_0 ?_
  refine wR_gq rfl cO_e hm_2 ((zfl_sv_ne (by decide)).trans ((zfl_sv_ne (by decide)).trans hp)) ?_
  refine wR_sa rfl rfl (fun lo1 e2 f3 => ?_)
  have lo1_0 := f3 0 _ (by decide) (Or.inl rfl) l_0
  refine wR_la rfl lo1_0 ?_
  refine wR_la rfl lo1_0 ?_
  refine wR_gq rfl cO_e hm_2 ((zfl_sv_ne (by decide)).trans ((zfl_sv_ne (by decide)).trans hsp)) ?_
  refine wR_pr rfl cO_e cO_4 hm_2 rfl ?_
  have hm_3 : aTm aT0 (sR (si (si mem 0 2 0) 0 3 (-1)) 0 4 2) := tm_sR cO_e cO_4 hm_2 (by decide)
  refine wR_la rfl lo1_0 ?_
  refine wR_la rfl e2 ?_
  refine wR_pr rfl cO_e cO_5 hm_3 rfl ?_
  have hm_4 : aTm aT0 (sR (sR (si (si mem 0 2 0) 0 3 (-1)) 0 4 2) 0 5 2) := tm_sR cO_e cO_5 hm_3 (by decide)
  exact h1 lo1 lo1_0 hm_4

set_option maxRecDepth 100000 in
theorem w_qsA14 {d : Nat} {mem : zM} {P : Option Value → zM → Prop} {lo : List (Nat × Value)} (hm : aTm aT0 mem) (l_0 : zlg lo 0 = some (.ref 0)) (hsp : zfl mem 0 5 = some (.ref 2)) (hp : zfl mem 0 4 = some (.ref 14)) (h1 : ∀ lo, zlg lo 0 = some (.ref 0) → aTm aT0 (sR (sR (si (si mem 0 2 0) 0 3 (-1)) 0 4 2) 0 5 14) → yR zpg tX11_quay (d + 63) (80, lo, [], (sR (sR (si (si mem 0 2 0) 0 3 (-1)) 0 4 2) 0 5 14)) P) : yR zpg tX11_quay (d + 63) (52, lo, [], mem) P := by
  refine wR_la rfl l_0 ?_
  refine yR_m 1 (fun _ _ _ _ => rfl) ?_
  refine wR_pi rfl cO_e cO_2 hm rfl ?_
  have hm_1 : aTm aT0 (si mem 0 2 0) := tm_si cO_e cO_2 hm (i32_b _)
  refine wR_la rfl l_0 ?_
  refine yR_m 1 (fun _ _ _ _ => rfl) ?_
  refine wR_pi rfl cO_e cO_3 hm_1 rfl ?_
  have hm_2 : aTm aT0 (si (si mem 0 2 0) 0 3 (-1)) := tm_si cO_e cO_3 hm_1 (i32_b _)
  refine wR_la rfl l_0 ?_
  refine wR_gq rfl cO_e hm_2 ((zfl_sv_ne (by decide)).trans ((zfl_sv_ne (by decide)).trans hp)) ?_
  refine wR_sa rfl rfl (fun lo1 e2 f3 => ?_)
  have lo1_0 := f3 0 _ (by decide) (Or.inl rfl) l_0
  refine wR_la rfl lo1_0 ?_
  refine wR_la rfl lo1_0 ?_
  refine wR_gq rfl cO_e hm_2 ((zfl_sv_ne (by decide)).trans ((zfl_sv_ne (by decide)).trans hsp)) ?_
  refine wR_pr rfl cO_e cO_4 hm_2 rfl ?_
  have hm_3 : aTm aT0 (sR (si (si mem 0 2 0) 0 3 (-1)) 0 4 2) := tm_sR cO_e cO_4 hm_2 (by decide)
  refine wR_la rfl lo1_0 ?_
  refine wR_la rfl e2 ?_
  refine wR_pr rfl cO_e cO_5 hm_3 rfl ?_
  have hm_4 : aTm aT0 (sR (sR (si (si mem 0 2 0) 0 3 (-1)) 0 4 2) 0 5 14) := tm_sR cO_e cO_5 hm_3 (by decide)
  exact h1 lo1 lo1_0 hm_4

theorem qt52A {V : Option Int} {lo : List (Nat × Value)} (hm : aTm aT0 mem) (hsp : zfl mem 0 5 = some (.ref 2)) {p : Nat} (hp : zfl mem 0 4 = some (.ref p)) (hq : p ∈ [2, 14]) (hV : V = some (gi mem 2 0).toInt) (a0 : zlg lo 0 = some (.ref 0)) : yR zpg tX11_quay (d + 63) (52, lo, [], mem) (fun r _ => quR V r) := by
  have e1 : aTm aT0 (si mem 0 2 0) := tm_si cO_e cO_2 hm (by decide)
  have e2 : aTm aT0 (si (si mem 0 2 0) 0 3 (-1)) := tm_si cO_e cO_3 e1 (by decide)
  have fin : ∀ {p : Nat} {lo : List (Nat × Value)}, zlg lo 0 = some (.ref 0) → aTm aT0 (sR (sR (si (si mem 0 2 0) 0 3 (-1)) 0 4 2) 0 5 p) → yR zpg tX11_quay (d + 63) (80, lo, [], (sR (sR (si (si mem 0 2 0) 0 3 (-1)) 0 4 2) 0 5 p)) (fun r _ => quR V r) := fun {p lo} b0 b1 => by
    refine yR_mono ?_ (qt80 (q := 2) pA_e pA_0 rfl (by decide) b1 ((zfl_sv_ne (by decide)).trans (zfl_sR cO_e cO_4 e2)) b0)
    intro r m hr
    refine Or.inl ⟨_, ?_, hr⟩
    rw [hV, gi_sv_ne (by decide), gi_sv_ne (by decide), gi_sv_ne (by decide), gi_sv_ne (by decide)]
  rcases List.mem_cons.mp hq with e | e
  · subst e
    exact w_qsA2 hm a0 hsp hp (fun lo b0 b1 => fin b0 b1)
  · have e := List.mem_singleton.mp e
    subst e
    exact w_qsA14 hm a0 hsp hp (fun lo b0 b1 => fin b0 b1)
theorem h_qcA (hm : aTm aT0 mem) (hC : ga mem 28 = ownC) (hsp : zfl mem 0 5 = some (.ref 2)) {p : Nat} (hp : zfl mem 0 4 = some (.ref p)) (hq : p ∈ [2, 14]) : yC zpg (d + 64) 114 [.ref 0] mem (fun r _ => quR (sQua (ga mem 1) (gi mem 0 1).toInt) r) := by
  refine yC_of (t := tX11_quay) rfl rfl ?_
  refine w_qyA (T := ga mem 1) hm rfl hsp hC rfl ?_ ?_
  · intro v m h1 k1 w lo a0 h2
    rcases k1.2 with ⟨-, k⟩ | ⟨k, -⟩
    · exact qt52A h2 (((zfl_ea k1.1).trans (zfl_sv_ne (by decide))).trans hsp) (((zfl_ea k1.1).trans (zfl_sv_ne (by decide))).trans hp) hq k a0
    · exact absurd k w
  · intro v m h1 k1 w lo a0 h2
    rcases k1.2 with ⟨k, -⟩ | ⟨-, k⟩
    · exfalso
      omega
    · exact w_qr h2 a0 (fun y _ _ => Or.inr ⟨k, rfl⟩)
set_option maxRecDepth 100000 in
theorem w_qyB {d : Nat} {mem : zM} {P : Option Value → zM → Prop} {T : List Int32} {lo : List (Nat × Value)} (hm : aTm aT0 mem) (l_0 : zlg lo 0 = some (.ref 0)) (hsp : zfl mem 0 5 = some (.ref 14)) (hC : ga mem 28 = ownC) (hT : ga mem 1 = T) (h1 : ∀ (v6 : Int32) (m4 : zM), aTm aT0 m4 → (zat m4 0 = zat (si mem 0 1 0) 0 ∧ ((v6.toInt = 1 ∧ sQua T (gi mem 0 1).toInt = some (gi m4 14 0).toInt) ∨ (v6.toInt = 0 ∧ sQua T (gi mem 0 1).toInt = none))) → ¬ (v6).toInt = 0 → ∀ lo, zlg lo 0 = some (.ref 0) → aTm aT0 m4 → yR zpg tX11_quay (d + 63) (52, lo, [], m4) P) (h2 : ∀ (v6 : Int32) (m4 : zM), aTm aT0 m4 → (zat m4 0 = zat (si mem 0 1 0) 0 ∧ ((v6.toInt = 1 ∧ sQua T (gi mem 0 1).toInt = some (gi m4 14 0).toInt) ∨ (v6.toInt = 0 ∧ sQua T (gi mem 0 1).toInt = none))) → (v6).toInt = 0 → ∀ lo, zlg lo 0 = some (.ref 0) → aTm aT0 m4 → yR zpg tX11_quay (d + 63) (24, lo, [], m4) P) : yR zpg tX11_quay (d + 63) (0, lo, [], mem) P := by
  refine wR_la rfl l_0 ?_
  refine wR_iv rfl rfl cO_e hm rfl rfl rfl rfl ?_
  show yR zpg tX11_takeTape (d + 62) (0, [(0, .ref 0)], [], mem) _
  refine yR_m 1 (fun _ _ _ _ => rfl) ?_
  refine wR_gi rfl cO_e cO_1 hm rfl ?_
  refine yR_m 3 (fun _ _ _ _ => rfl) ?_
  refine wR_pi rfl cO_e cO_1 hm rfl ?_
  have hm_1 : aTm aT0 (si mem 0 1 0) := tm_si cO_e cO_1 hm (by decide)
  refine yR_m 1 (fun _ _ _ _ => rfl) ?_
  refine yR_ri rfl ?_
  show yR zpg tX11_quay (d + 63) (4, lo, [.int (gi mem 0 1)], (si mem 0 1 0)) _
  refine wR_si rfl rfl (fun lo1 e2 f3 => ?_)
  have lo1_0 := f3 0 _ (by decide) (Or.inl rfl) l_0
  refine wR_la rfl lo1_0 ?_
  refine wR_gr rfl cO_e cO_6 hm_1 ?_
  refine wR_la rfl lo1_0 ?_
  refine wR_gr rfl cO_e cO_0 hm_1 ?_
  refine wR_li rfl e2 ?_
  refine wR_la rfl lo1_0 ?_
  refine wR_gq rfl cO_e hm_1 ((zfl_sv_ne (by decide)).trans hsp) ?_
  refine wR_cv rfl rfl tO_e hm_1 rfl (h_reCB (T := T) hm_1 (ga_sv.trans hC) (ga_sv.trans hT) (cO_r1 hm) (by omega)) ?_
  rintro _ m4 ⟨v6, rfl, hm4, k5⟩
  show yR zpg tX11_quay (d + 63) (21, lo1, [.int v6], m4) _
  refine wR_if_ne rfl (a := (v6).toInt) rfl (fun q7 => ?_) (fun q7 => ?_)
  ·
    exact h1 v6 m4 hm4 k5 q7 lo1 lo1_0 hm4
  ·
    exact h2 v6 m4 hm4 k5 q7 lo1 lo1_0 hm4

set_option maxRecDepth 100000 in
theorem w_qsB2 {d : Nat} {mem : zM} {P : Option Value → zM → Prop} {lo : List (Nat × Value)} (hm : aTm aT0 mem) (l_0 : zlg lo 0 = some (.ref 0)) (hsp : zfl mem 0 5 = some (.ref 14)) (hp : zfl mem 0 4 = some (.ref 2)) (h1 : ∀ lo, zlg lo 0 = some (.ref 0) → aTm aT0 (sR (sR (si (si mem 0 2 0) 0 3 (-1)) 0 4 14) 0 5 2) → yR zpg tX11_quay (d + 63) (80, lo, [], (sR (sR (si (si mem 0 2 0) 0 3 (-1)) 0 4 14) 0 5 2)) P) : yR zpg tX11_quay (d + 63) (52, lo, [], mem) P := by
  refine wR_la rfl l_0 ?_
  refine yR_m 1 (fun _ _ _ _ => rfl) ?_
  refine wR_pi rfl cO_e cO_2 hm rfl ?_
  have hm_1 : aTm aT0 (si mem 0 2 0) := tm_si cO_e cO_2 hm (i32_b _)
  refine wR_la rfl l_0 ?_
  refine yR_m 1 (fun _ _ _ _ => rfl) ?_
  refine wR_pi rfl cO_e cO_3 hm_1 rfl ?_
  have hm_2 : aTm aT0 (si (si mem 0 2 0) 0 3 (-1)) := tm_si cO_e cO_3 hm_1 (i32_b _)
  refine wR_la rfl l_0 ?_
  refine wR_gq rfl cO_e hm_2 ((zfl_sv_ne (by decide)).trans ((zfl_sv_ne (by decide)).trans hp)) ?_
  refine wR_sa rfl rfl (fun lo1 e2 f3 => ?_)
  have lo1_0 := f3 0 _ (by decide) (Or.inl rfl) l_0
  refine wR_la rfl lo1_0 ?_
  refine wR_la rfl lo1_0 ?_
  refine wR_gq rfl cO_e hm_2 ((zfl_sv_ne (by decide)).trans ((zfl_sv_ne (by decide)).trans hsp)) ?_
  refine wR_pr rfl cO_e cO_4 hm_2 rfl ?_
  have hm_3 : aTm aT0 (sR (si (si mem 0 2 0) 0 3 (-1)) 0 4 14) := tm_sR cO_e cO_4 hm_2 (by decide)
  refine wR_la rfl lo1_0 ?_
  refine wR_la rfl e2 ?_
  refine wR_pr rfl cO_e cO_5 hm_3 rfl ?_
  have hm_4 : aTm aT0 (sR (sR (si (si mem 0 2 0) 0 3 (-1)) 0 4 14) 0 5 2) := tm_sR cO_e cO_5 hm_3 (by decide)
  exact h1 lo1 lo1_0 hm_4

set_option maxRecDepth 100000 in
theorem w_qsB14 {d : Nat} {mem : zM} {P : Option Value → zM → Prop} {lo : List (Nat × Value)} (hm : aTm aT0 mem) (l_0 : zlg lo 0 = some (.ref 0)) (hsp : zfl mem 0 5 = some (.ref 14)) (hp : zfl mem 0 4 = some (.ref 14)) (h1 : ∀ lo, zlg lo 0 = some (.ref 0) → aTm aT0 (sR (sR (si (si mem 0 2 0) 0 3 (-1)) 0 4 14) 0 5 14) → yR zpg tX11_quay (d + 63) (80, lo, [], (sR (sR (si (si mem 0 2 0) 0 3 (-1)) 0 4 14) 0 5 14)) P) : yR zpg tX11_quay (d + 63) (52, lo, [], mem) P := by
  refine wR_la rfl l_0 ?_
  refine yR_m 1 (fun _ _ _ _ => rfl) ?_
  refine wR_pi rfl cO_e cO_2 hm rfl ?_
  have hm_1 : aTm aT0 (si mem 0 2 0) := tm_si cO_e cO_2 hm (i32_b _)
  refine wR_la rfl l_0 ?_
  refine yR_m 1 (fun _ _ _ _ => rfl) ?_
  refine wR_pi rfl cO_e cO_3 hm_1 rfl ?_
  have hm_2 : aTm aT0 (si (si mem 0 2 0) 0 3 (-1)) := tm_si cO_e cO_3 hm_1 (i32_b _)
  refine wR_la rfl l_0 ?_
  refine wR_gq rfl cO_e hm_2 ((zfl_sv_ne (by decide)).trans ((zfl_sv_ne (by decide)).trans hp)) ?_
  refine wR_sa rfl rfl (fun lo1 e2 f3 => ?_)
  have lo1_0 := f3 0 _ (by decide) (Or.inl rfl) l_0
  refine wR_la rfl lo1_0 ?_
  refine wR_la rfl lo1_0 ?_
  refine wR_gq rfl cO_e hm_2 ((zfl_sv_ne (by decide)).trans ((zfl_sv_ne (by decide)).trans hsp)) ?_
  refine wR_pr rfl cO_e cO_4 hm_2 rfl ?_
  have hm_3 : aTm aT0 (sR (si (si mem 0 2 0) 0 3 (-1)) 0 4 14) := tm_sR cO_e cO_4 hm_2 (by decide)
  refine wR_la rfl lo1_0 ?_
  refine wR_la rfl e2 ?_
  refine wR_pr rfl cO_e cO_5 hm_3 rfl ?_
  have hm_4 : aTm aT0 (sR (sR (si (si mem 0 2 0) 0 3 (-1)) 0 4 14) 0 5 14) := tm_sR cO_e cO_5 hm_3 (by decide)
  exact h1 lo1 lo1_0 hm_4

theorem qt52B {V : Option Int} {lo : List (Nat × Value)} (hm : aTm aT0 mem) (hsp : zfl mem 0 5 = some (.ref 14)) {p : Nat} (hp : zfl mem 0 4 = some (.ref p)) (hq : p ∈ [2, 14]) (hV : V = some (gi mem 14 0).toInt) (a0 : zlg lo 0 = some (.ref 0)) : yR zpg tX11_quay (d + 63) (52, lo, [], mem) (fun r _ => quR V r) := by
  have e1 : aTm aT0 (si mem 0 2 0) := tm_si cO_e cO_2 hm (by decide)
  have e2 : aTm aT0 (si (si mem 0 2 0) 0 3 (-1)) := tm_si cO_e cO_3 e1 (by decide)
  have fin : ∀ {p : Nat} {lo : List (Nat × Value)}, zlg lo 0 = some (.ref 0) → aTm aT0 (sR (sR (si (si mem 0 2 0) 0 3 (-1)) 0 4 14) 0 5 p) → yR zpg tX11_quay (d + 63) (80, lo, [], (sR (sR (si (si mem 0 2 0) 0 3 (-1)) 0 4 14) 0 5 p)) (fun r _ => quR V r) := fun {p lo} b0 b1 => by
    refine yR_mono ?_ (qt80 (q := 14) pB_e pB_0 rfl (by decide) b1 ((zfl_sv_ne (by decide)).trans (zfl_sR cO_e cO_4 e2)) b0)
    intro r m hr
    refine Or.inl ⟨_, ?_, hr⟩
    rw [hV, gi_sv_ne (by decide), gi_sv_ne (by decide), gi_sv_ne (by decide), gi_sv_ne (by decide)]
  rcases List.mem_cons.mp hq with e | e
  · subst e
    exact w_qsB2 hm a0 hsp hp (fun lo b0 b1 => fin b0 b1)
  · have e := List.mem_singleton.mp e
    subst e
    exact w_qsB14 hm a0 hsp hp (fun lo b0 b1 => fin b0 b1)
theorem h_qcB (hm : aTm aT0 mem) (hC : ga mem 28 = ownC) (hsp : zfl mem 0 5 = some (.ref 14)) {p : Nat} (hp : zfl mem 0 4 = some (.ref p)) (hq : p ∈ [2, 14]) : yC zpg (d + 64) 114 [.ref 0] mem (fun r _ => quR (sQua (ga mem 1) (gi mem 0 1).toInt) r) := by
  refine yC_of (t := tX11_quay) rfl rfl ?_
  refine w_qyB (T := ga mem 1) hm rfl hsp hC rfl ?_ ?_
  · intro v m h1 k1 w lo a0 h2
    rcases k1.2 with ⟨-, k⟩ | ⟨k, -⟩
    · exact qt52B h2 (((zfl_ea k1.1).trans (zfl_sv_ne (by decide))).trans hsp) (((zfl_ea k1.1).trans (zfl_sv_ne (by decide))).trans hp) hq k a0
    · exact absurd k w
  · intro v m h1 k1 w lo a0 h2
    rcases k1.2 with ⟨k, -⟩ | ⟨-, k⟩
    · exfalso
      omega
    · exact w_qr h2 a0 (fun y _ _ => Or.inr ⟨k, rfl⟩)
theorem h_quaC (hm : aTm aT0 mem) (hC : ga mem 28 = ownC) (hd : 64 ≤ d) : yC zpg d 114 [.ref 0] mem (fun r _ => quR (sQua (ga mem 1) (gi mem 0 1).toInt) r) := by
  obtain ⟨d, rfl⟩ : ∃ q, d = q + 64 := ⟨d - 64, by omega⟩
  obtain ⟨fs, hf, hg⟩ := aTm_o hm cO_e
  obtain ⟨_, f5, q, hq, rfl⟩ := aTf_at (i := 5) hg rfl
  obtain ⟨_, f4, p, hp, rfl⟩ := aTf_at (i := 4) hg rfl
  have z4 : zfl mem 0 4 = some (.ref p) := by
    unfold zfl
    rw [hf]
    exact f4
  have z5 : zfl mem 0 5 = some (.ref q) := by
    unfold zfl
    rw [hf]
    exact f5
  rcases List.mem_cons.mp hq with e | e
  · subst e
    exact h_qcA hm hC z5 z4 hp
  · have e := List.mem_singleton.mp e
    subst e
    exact h_qcB hm hC z5 z4 hp
end DC
