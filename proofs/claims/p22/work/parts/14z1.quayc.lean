/-! quay of the class: what it answers, what the plan then is -/
section DC
variable {d : Nat} {mr mem m : zM} {T : List Int32}
theorem aJ_07 (hm : aTm aT0 m) : aJ (aΘ7 (fun _ => True)) m := ⟨aLq_s aLq_e hm, trivial⟩
theorem H7_t : aH7 (fun _ => True) := ⟨fun _ _ _ _ _ => trivial, trivial⟩
set_option maxRecDepth 100000 in
theorem aHo_0 : aHo[0]? = some (true, .inr (some [2, 14])) := rfl
theorem h_mvT {q : Nat} (hm : aTm aT0 mem) (hd : 1 ≤ d) : yC zpg d 1 [.ref 181, .ref q] mem (fun r m => r = none ∧ m = sR mem 181 0 q) := by
  obtain ⟨d, rfl⟩ : ∃ w, d = w + 1 := ⟨d - 1, by omega⟩
  refine yC_of (t := tX0_moveTo) rfl rfl ?_
  refine yR_m 2 (fun _ _ _ _ => rfl) ?_
  refine wR_pr rfl aHo_e aHo_0 hm rfl ?_
  exact yR_rv rfl ⟨rfl, rfl⟩
set_option maxRecDepth 100000 in
theorem qt80 {q : Nat} {b : Bool} {τs : List (Bool × aTy)} {lo : List (Nat × Value)} (ho : aat aT0 q = some (.inr (4, τs))) (hi : τs[0]? = some (b, .inl (-2147483648, 2147483647))) (hk : aKf aT7 q 0 = true) (hq : q ∈ [2, 14]) (hq1 : ¬ q = 181) (hm : aTm aT0 mem) (hp : zfl mem 0 4 = some (.ref q)) (a0 : zlg lo 0 = some (.ref 0)) : yR zpg tX11_quay (d + 63) (80, lo, [], mem) (fun r m => r = some (.int (gi mem q 0)) ∧ aPr aT7 (sR mem 181 0 q) m) := by
  have k4 : aKf aT7 0 4 = true := rfl
  refine wR_la rfl a0 ?_
  refine wR_gr rfl cO_e cO_10 hm ?_
  refine wR_la rfl a0 ?_
  refine wR_gq rfl cO_e hm hp ?_
  refine wR_cv rfl rfl aHo_e hm rfl (h_mvT hm (by omega)) ?_
  rintro _ m1 ⟨rfl, e1⟩
  have h1 : aTm aT0 m1 := e1 ▸ tm_sR aHo_e aHo_0 hm hq
  have hp : zfl m1 0 4 = some (.ref q) := by
    rw [e1]
    exact (zfl_sv_ne (by decide)).trans hp
  have hg : gi m1 q 0 = gi mem q 0 := by
    rw [e1]
    exact gi_sv_ne (fun w => hq1 w.1.symm)
  rw [← e1, ← hg]
  show yR zpg tX11_quay (d + 63) (91, lo, [], m1) _
  refine wR_la rfl a0 ?_
  refine wR_gq rfl cO_e h1 hp ?_
  refine wR_la rfl a0 ?_
  refine wR_gr rfl cO_e cO_7 h1 ?_
  refine wR_cv rfl rfl ho h1 rfl (k7_X4_setFirst H7_t _ _ [.ref q, .ref 31] (by omega) (aJ_07 h1) ⟨⟨q, hq, rfl⟩, ⟨31, List.mem_singleton.mpr rfl, rfl⟩, trivial⟩) ?_
  rintro r m2 ⟨j2, p2, t2⟩
  cases r with
  | some w => exact t2.elim
  | none =>
    have h2 : aTm aT0 m2 := aLq_s aLq_f j2.1
    show yR zpg tX11_quay (d + 63) (102, lo, [], m2) _
    refine wR_la rfl a0 ?_
    refine wR_cv rfl rfl cO_e h2 rfl (k7_X11_forgetActs H7_t _ _ [.ref 0] (by omega) j2 ⟨⟨0, List.mem_singleton.mpr rfl, rfl⟩, trivial⟩) ?_
    rintro r m3 ⟨j3, p3, t3⟩
    have p3 := aPr_tr p2 p3
    cases r with
    | some w => exact t3.elim
    | none =>
      have h3 : aTm aT0 m3 := aLq_s aLq_f j3.1
      show yR zpg tX11_quay (d + 63) (106, lo, [], m3) _
      refine wR_la rfl a0 ?_
      refine wR_gr rfl cO_e cO_11 h3 ?_
      refine wR_cv rfl rfl aPo_e h3 rfl (k7_X3_forgetMet H7_t _ _ [.ref 185] (by omega) j3 ⟨⟨185, List.mem_singleton.mpr rfl, rfl⟩, trivial⟩) ?_
      rintro r m4 ⟨j4, p4, t4⟩
      have p4 := aPr_tr p3 p4
      cases r with
      | some w => exact t4.elim
      | none =>
        have h4 : aTm aT0 m4 := aLq_s aLq_f j4.1
        show yR zpg tX11_quay (d + 63) (113, lo, [], m4) _
        refine wR_la rfl a0 ?_
        refine wR_gq rfl cO_e h4 ((p4.2 0 4 k4).trans hp) ?_
        refine wR_gi rfl ho hi h4 (gi_zl (p4.2 q 0 hk)) ?_
        exact yR_ri rfl ⟨rfl, p4⟩
set_option maxRecDepth 100000 in
theorem w_qr {d : Nat} {mem : zM} {P : Option Value → zM → Prop} {lo : List (Nat × Value)} (hm : aTm aT0 mem) (l_0 : zlg lo 0 = some (.ref 0)) (h1 : ∀ (y1 : Int32), y1.toInt = (gn (ga mem 220) 1) → aTm aT0 (sx (si (si mem 0 2 (gi mem 27 10)) 0 3 (gi mem 27 11)) 220 1 (y1 + 1)) → P (some (.int (-1))) (sx (si (si mem 0 2 (gi mem 27 10)) 0 3 (gi mem 27 11)) 220 1 (y1 + 1))) : yR zpg tX11_quay (d + 63) (24, lo, [], mem) P := by
  refine wR_la rfl l_0 ?_
  refine wR_la rfl l_0 ?_
  refine wR_gr rfl cO_e cO_6 hm ?_
  refine wR_iv rfl rfl tO_e hm rfl rfl rfl rfl ?_
  show yR zpg tX9_faultKind (d + 62) (0, [(0, .ref 26)], [], mem) _
  refine yR_m 1 (fun _ _ _ _ => rfl) ?_
  refine wR_gr rfl tO_e tO_0 hm ?_
  refine wR_gi rfl rO_e rO_10 hm rfl ?_
  refine yR_ri rfl ?_
  show yR zpg tX11_quay (d + 63) (32, lo, [.int (gi mem 27 10), .ref 0], mem) _
  refine wR_pi rfl cO_e cO_2 hm rfl ?_
  have hm_1 : aTm aT0 (si mem 0 2 (gi mem 27 10)) := tm_si cO_e cO_2 hm (i32_b _)
  refine wR_la rfl l_0 ?_
  refine wR_la rfl l_0 ?_
  refine wR_gr rfl cO_e cO_6 hm_1 ?_
  refine wR_iv rfl rfl tO_e hm_1 rfl rfl rfl rfl ?_
  show yR zpg tX9_faultPlace (d + 62) (0, [(0, .ref 26)], [], (si mem 0 2 (gi mem 27 10))) _
  refine yR_m 1 (fun _ _ _ _ => rfl) ?_
  refine wR_gr rfl tO_e tO_0 hm_1 ?_
  refine wR_gi rfl rO_e rO_11 hm_1 (gi_sv_ne (by decide)) ?_
  refine yR_ri rfl ?_
  show yR zpg tX11_quay (d + 63) (43, lo, [.int (gi mem 27 11), .ref 0], (si mem 0 2 (gi mem 27 10))) _
  refine wR_pi rfl cO_e cO_3 hm_1 rfl ?_
  have hm_2 : aTm aT0 (si (si mem 0 2 (gi mem 27 10)) 0 3 (gi mem 27 11)) := tm_si cO_e cO_3 hm_1 (i32_b _)
  refine wR_la rfl l_0 ?_
  refine yR_m 1 (fun _ _ _ _ => rfl) ?_
  refine wR_iv rfl rfl cO_e hm_2 rfl rfl rfl rfl ?_
  show yR zpg tX11_refuse (d + 62) (0, [(0, .ref 0), (1, .int 1)], [], (si (si mem 0 2 (gi mem 27 10)) 0 3 (gi mem 27 11))) _
  refine yR_m 1 (fun _ _ _ _ => rfl) ?_
  refine wR_gr rfl cO_e cO_14 hm_2 ?_
  refine yR_m 2 (fun _ _ _ _ => rfl) ?_
  refine wN_al (a := 1) rfl aR_220 hm_2 ((ga_sv).trans (ga_sv)) rfl (by decide) (fun y1 e2 => ?_)
  refine yR_m 2 (fun _ _ _ _ => rfl) ?_
  refine wN_as (a := 1) rfl aR_220 hm_2 rfl (by decide) ?_
  have hm_3 : aTm aT0 (sx (si (si mem 0 2 (gi mem 27 10)) 0 3 (gi mem 27 11)) 220 1 (y1 + 1)) := tm_sa aR_220 hm_2 (i32_b _)
  refine yR_m 1 (fun _ _ _ _ => rfl) ?_
  refine yR_ri rfl ?_
  show yR zpg tX11_quay (d + 63) (51, lo, [.int (-1)], (sx (si (si mem 0 2 (gi mem 27 10)) 0 3 (gi mem 27 11)) 220 1 (y1 + 1))) _
  exact yR_ri rfl (h1 y1 e2 hm_3)

theorem cQ_zaA {Q : Qd} (F : ∀ k, 2 ≤ k → k ≤ 2 + 11 → zat m k = zat mem k) (h : cQ 2 3 4 7 8 9 12 13 Q mem) : cQ 2 3 4 7 8 9 12 13 Q m := by
  have X : cQx 2 Q m := cQx_eq (gi_zq (k := 2) (i := 3) (F 2 (by decide) (by decide))) (gi_zq (k := 2) (i := 4) (F 2 (by decide) (by decide))) (gL_zq (k := 2) (i := 5) (F 2 (by decide) (by decide))) (ga_zz (F 5 (by decide) (by decide))) (ga_zz (F 6 (by decide) (by decide))) (ga_zz (F 11 (by decide) (by decide))) (ga_zz (F 12 (by decide) (by decide))) (ga_zz (F 13 (by decide) (by decide))) (gi_zq (k := 10) (i := 3) (F 10 (by decide) (by decide))) h.2.2.2.2.2.2
  unfold cQ cQw cQt cQh cQf cQu at h ⊢
  rw [gi_zq (k := 2) (i := 1) (F 2 (by decide) (by decide)), gi_zq (k := 2) (i := 2) (F 2 (by decide) (by decide)), gi_zq (k := 2) (i := 7) (F 2 (by decide) (by decide)), gi_zq (k := 2) (i := 12) (F 2 (by decide) (by decide)), gi_zq (k := 2) (i := 13) (F 2 (by decide) (by decide)), gL_zq (k := 2) (i := 6) (F 2 (by decide) (by decide)), ga_zz (F 3 (by decide) (by decide)), ga_zz (F 4 (by decide) (by decide)), ga_zz (F 7 (by decide) (by decide)), ga_zz (F 8 (by decide) (by decide)), ga_zz (F 9 (by decide) (by decide)), ga_zz (F 12 (by decide) (by decide)), ga_zz (F 13 (by decide) (by decide))]
  exact ⟨h.1, h.2.1, h.2.2.1, h.2.2.2.1, h.2.2.2.2.1, h.2.2.2.2.2.1, X⟩
theorem cQ_prA {T' : List aCe} {Q : Qd} (F : aPr T' mem m) (f1 : aKf T' 2 1 = true) (f2 : aKf T' 2 2 = true) (f7 : aKf T' 2 7 = true) (f12 : aKf T' 2 12 = true) (f13 : aKf T' 2 13 = true) (f6 : aKf T' 2 6 = true) (c1 : aKa T' 3 = true) (c2 : aKa T' 4 = true) (c3 : aKa T' 7 = true) (c4 : aKa T' 8 = true) (c5 : aKa T' 9 = true) (c6 : aKa T' 12 = true) (c7 : aKa T' 13 = true) (f3 : aKf T' 2 3 = true) (f4 : aKf T' 2 4 = true) (f5 : aKf T' 2 5 = true) (c8 : aKa T' 5 = true) (c9 : aKa T' 6 = true) (d1 : aKa T' 11 = true) (d2 : aKf T' 10 3 = true) (h : cQ 2 3 4 7 8 9 12 13 Q mem) : cQ 2 3 4 7 8 9 12 13 Q m := by
  have X : cQx 2 Q m := cQx_eq (pr_gi F f3) (pr_gi F f4) (by unfold gL; rw [F.2 2 5 f5]) (pr_ga F c8) (pr_ga F c9) (pr_ga F d1) (pr_ga F c6) (pr_ga F c7) (pr_gi F d2) h.2.2.2.2.2.2
  unfold cQ cQw cQt cQh cQf cQu at h ⊢
  rw [pr_gi F f1, pr_gi F f2, pr_gi F f7, pr_gi F f12, pr_gi F f13, show gL m 2 6 = gL mem 2 6 by unfold gL; rw [F.2 2 6 f6], pr_ga F c1, pr_ga F c2, pr_ga F c3, pr_ga F c4, pr_ga F c5, pr_ga F c6, pr_ga F c7]
  exact ⟨h.1, h.2.1, h.2.2.1, h.2.2.2.1, h.2.2.2.2.1, h.2.2.2.2.2.1, X⟩
/-- the plan is this quay, the spare the other one -/
def pQA (Q : Qd) (m : zM) : Prop := zfl m 0 4 = some (.ref 2) ∧ zfl m 0 5 = some (.ref 14) ∧ zfl m 181 0 = some (.ref 2) ∧ cQ 2 3 4 7 8 9 12 13 Q m
set_option maxRecDepth 100000 in
theorem w_qyA {d : Nat} {mem : zM} {P : Option Value → zM → Prop} {T : List Int32} {lo : List (Nat × Value)} (hm : aTm aT0 mem) (l_0 : zlg lo 0 = some (.ref 0)) (hsp : zfl mem 0 5 = some (.ref 2)) (hC : ga mem 28 = ownC) (hT : ga mem 1 = T) (h1 : ∀ (v6 : Int32) (m4 : zM), aTm aT0 m4 → (zo 2 m4 = zo 2 (si mem 0 1 0) ∧ ((v6.toInt = 1 ∧ ∃ Q, sQua T (gi mem 0 1).toInt = some ((gi m4 2 0).toInt, Q) ∧ hqQ Q ∧ cQ 2 3 4 7 8 9 12 13 Q m4) ∨ (v6.toInt = 0 ∧ sQua T (gi mem 0 1).toInt = none))) → ¬ (v6).toInt = 0 → ∀ lo, zlg lo 0 = some (.ref 0) → aTm aT0 m4 → yR zpg tX11_quay (d + 63) (52, lo, [], m4) P) (h2 : ∀ (v6 : Int32) (m4 : zM), aTm aT0 m4 → (zo 2 m4 = zo 2 (si mem 0 1 0) ∧ ((v6.toInt = 1 ∧ ∃ Q, sQua T (gi mem 0 1).toInt = some ((gi m4 2 0).toInt, Q) ∧ hqQ Q ∧ cQ 2 3 4 7 8 9 12 13 Q m4) ∨ (v6.toInt = 0 ∧ sQua T (gi mem 0 1).toInt = none))) → (v6).toInt = 0 → ∀ lo, zlg lo 0 = some (.ref 0) → aTm aT0 m4 → yR zpg tX11_quay (d + 63) (24, lo, [], m4) P) : yR zpg tX11_quay (d + 63) (0, lo, [], mem) P := by
  refine wR_la rfl l_0 ?_
  refine wR_iv rfl rfl cO_e hm rfl rfl rfl rfl ?_
  show yR zpg tX11_takeTape (d + 62) (0, [(0, .ref 0)], [], mem) _
  refine yR_m 1 (fun _ _ _ _ => rfl) ?_
  refine wR_gi rfl cO_e cO_1 hm rfl ?_
  refine yR_m 3 (fun _ _ _ _ => rfl) ?_
  refine wR_pi rfl cO_e cO_1 hm rfl ?_
  have hm_1 : aTm aT0 (si mem 0 1 0) := tm_si cO_e cO_1 hm (by decide)
  refine yR_m 1 (fun _ _ _ _ => rfl) ?_
  refine yR_ri rfl ?_
  show yR zpg tX11_quay (d + 63) (4, lo, [.int (gi mem 0 1)], (si mem 0 1 0)) _
  refine wR_si rfl rfl (fun lo1 e2 f3 => ?_)
  have lo1_0 := f3 0 _ (by decide) (Or.inl rfl) l_0
  refine wR_la rfl lo1_0 ?_
  refine wR_gr rfl cO_e cO_6 hm_1 ?_
  refine wR_la rfl lo1_0 ?_
  refine wR_gr rfl cO_e cO_0 hm_1 ?_
  refine wR_li rfl e2 ?_
  refine wR_la rfl lo1_0 ?_
  refine wR_gq rfl cO_e hm_1 ((zfl_sv_ne (by decide)).trans hsp) ?_
  refine wR_cv rfl rfl tO_e hm_1 rfl (h_reCA (T := T) hm_1 (ga_sv.trans hC) (ga_sv.trans hT) (cO_r1 hm) (by omega)) ?_
  rintro _ m4 ⟨v6, rfl, hm4, k5⟩
  show yR zpg tX11_quay (d + 63) (21, lo1, [.int v6], m4) _
  refine wR_if_ne rfl (a := (v6).toInt) rfl (fun q7 => ?_) (fun q7 => ?_)
  ·
    exact h1 v6 m4 hm4 k5 q7 lo1 lo1_0 hm4
  ·
    exact h2 v6 m4 hm4 k5 q7 lo1 lo1_0 hm4

set_option maxRecDepth 100000 in
theorem w_qsA {d : Nat} {mem : zM} {P : Option Value → zM → Prop} {lo : List (Nat × Value)} (hm : aTm aT0 mem) (l_0 : zlg lo 0 = some (.ref 0)) (hsp : zfl mem 0 5 = some (.ref 2)) (hp : zfl mem 0 4 = some (.ref 14)) (h1 : ∀ lo, zlg lo 0 = some (.ref 0) → aTm aT0 (sR (sR (si (si mem 0 2 0) 0 3 (-1)) 0 4 2) 0 5 14) → yR zpg tX11_quay (d + 63) (80, lo, [], (sR (sR (si (si mem 0 2 0) 0 3 (-1)) 0 4 2) 0 5 14)) P) : yR zpg tX11_quay (d + 63) (52, lo, [], mem) P := by
  refine wR_la rfl l_0 ?_
  refine yR_m 1 (fun _ _ _ _ => rfl) ?_
  refine wR_pi rfl cO_e cO_2 hm rfl ?_
  have hm_1 : aTm aT0 (si mem 0 2 0) := tm_si cO_e cO_2 hm (i32_b _)
  refine wR_la rfl l_0 ?_
  refine yR_m 1 (fun _ _ _ _ => rfl) ?_
  refine wR_pi rfl cO_e cO_3 hm_1 rfl ?_
  have hm_2 : aTm aT0 (si (si mem 0 2 0) 0 3 (-1)) := tm_si cO_e cO_3 hm_1 (i32_b _)
  refine wR_la rfl l_0 ?_
  refine wR_gq rfl cO_e hm_2 ((zfl_sv_ne (by decide)).trans ((zfl_sv_ne (by decide)).trans hp)) ?_
  refine wR_sa rfl rfl (fun lo1 e2 f3 => ?_)
  have lo1_0 := f3 0 _ (by decide) (Or.inl rfl) l_0
  refine wR_la rfl lo1_0 ?_
  refine wR_la rfl lo1_0 ?_
  refine wR_gq rfl cO_e hm_2 ((zfl_sv_ne (by decide)).trans ((zfl_sv_ne (by decide)).trans hsp)) ?_
  refine wR_pr rfl cO_e cO_4 hm_2 rfl ?_
  have hm_3 : aTm aT0 (sR (si (si mem 0 2 0) 0 3 (-1)) 0 4 2) := tm_sR cO_e cO_4 hm_2 (by decide)
  refine wR_la rfl lo1_0 ?_
  refine wR_la rfl e2 ?_
  refine wR_pr rfl cO_e cO_5 hm_3 rfl ?_
  have hm_4 : aTm aT0 (sR (sR (si (si mem 0 2 0) 0 3 (-1)) 0 4 2) 0 5 14) := tm_sR cO_e cO_5 hm_3 (by decide)
  exact h1 lo1 lo1_0 hm_4

theorem cQ_zaB {Q : Qd} (F : ∀ k, 14 ≤ k → k ≤ 14 + 11 → zat m k = zat mem k) (h : cQ 14 15 16 19 20 21 24 25 Q mem) : cQ 14 15 16 19 20 21 24 25 Q m := by
  have X : cQx 14 Q m := cQx_eq (gi_zq (k := 14) (i := 3) (F 14 (by decide) (by decide))) (gi_zq (k := 14) (i := 4) (F 14 (by decide) (by decide))) (gL_zq (k := 14) (i := 5) (F 14 (by decide) (by decide))) (ga_zz (F 17 (by decide) (by decide))) (ga_zz (F 18 (by decide) (by decide))) (ga_zz (F 23 (by decide) (by decide))) (ga_zz (F 24 (by decide) (by decide))) (ga_zz (F 25 (by decide) (by decide))) (gi_zq (k := 22) (i := 3) (F 22 (by decide) (by decide))) h.2.2.2.2.2.2
  unfold cQ cQw cQt cQh cQf cQu at h ⊢
  rw [gi_zq (k := 14) (i := 1) (F 14 (by decide) (by decide)), gi_zq (k := 14) (i := 2) (F 14 (by decide) (by decide)), gi_zq (k := 14) (i := 7) (F 14 (by decide) (by decide)), gi_zq (k := 14) (i := 12) (F 14 (by decide) (by decide)), gi_zq (k := 14) (i := 13) (F 14 (by decide) (by decide)), gL_zq (k := 14) (i := 6) (F 14 (by decide) (by decide)), ga_zz (F 15 (by decide) (by decide)), ga_zz (F 16 (by decide) (by decide)), ga_zz (F 19 (by decide) (by decide)), ga_zz (F 20 (by decide) (by decide)), ga_zz (F 21 (by decide) (by decide)), ga_zz (F 24 (by decide) (by decide)), ga_zz (F 25 (by decide) (by decide))]
  exact ⟨h.1, h.2.1, h.2.2.1, h.2.2.2.1, h.2.2.2.2.1, h.2.2.2.2.2.1, X⟩
theorem cQ_prB {T' : List aCe} {Q : Qd} (F : aPr T' mem m) (f1 : aKf T' 14 1 = true) (f2 : aKf T' 14 2 = true) (f7 : aKf T' 14 7 = true) (f12 : aKf T' 14 12 = true) (f13 : aKf T' 14 13 = true) (f6 : aKf T' 14 6 = true) (c1 : aKa T' 15 = true) (c2 : aKa T' 16 = true) (c3 : aKa T' 19 = true) (c4 : aKa T' 20 = true) (c5 : aKa T' 21 = true) (c6 : aKa T' 24 = true) (c7 : aKa T' 25 = true) (f3 : aKf T' 14 3 = true) (f4 : aKf T' 14 4 = true) (f5 : aKf T' 14 5 = true) (c8 : aKa T' 17 = true) (c9 : aKa T' 18 = true) (d1 : aKa T' 23 = true) (d2 : aKf T' 22 3 = true) (h : cQ 14 15 16 19 20 21 24 25 Q mem) : cQ 14 15 16 19 20 21 24 25 Q m := by
  have X : cQx 14 Q m := cQx_eq (pr_gi F f3) (pr_gi F f4) (by unfold gL; rw [F.2 14 5 f5]) (pr_ga F c8) (pr_ga F c9) (pr_ga F d1) (pr_ga F c6) (pr_ga F c7) (pr_gi F d2) h.2.2.2.2.2.2
  unfold cQ cQw cQt cQh cQf cQu at h ⊢
  rw [pr_gi F f1, pr_gi F f2, pr_gi F f7, pr_gi F f12, pr_gi F f13, show gL m 14 6 = gL mem 14 6 by unfold gL; rw [F.2 14 6 f6], pr_ga F c1, pr_ga F c2, pr_ga F c3, pr_ga F c4, pr_ga F c5, pr_ga F c6, pr_ga F c7]
  exact ⟨h.1, h.2.1, h.2.2.1, h.2.2.2.1, h.2.2.2.2.1, h.2.2.2.2.2.1, X⟩
/-- the plan is this quay, the spare the other one -/
def pQB (Q : Qd) (m : zM) : Prop := zfl m 0 4 = some (.ref 14) ∧ zfl m 0 5 = some (.ref 2) ∧ zfl m 181 0 = some (.ref 14) ∧ cQ 14 15 16 19 20 21 24 25 Q m
set_option maxRecDepth 100000 in
theorem w_qyB {d : Nat} {mem : zM} {P : Option Value → zM → Prop} {T : List Int32} {lo : List (Nat × Value)} (hm : aTm aT0 mem) (l_0 : zlg lo 0 = some (.ref 0)) (hsp : zfl mem 0 5 = some (.ref 14)) (hC : ga mem 28 = ownC) (hT : ga mem 1 = T) (h1 : ∀ (v6 : Int32) (m4 : zM), aTm aT0 m4 → (zo 14 m4 = zo 14 (si mem 0 1 0) ∧ ((v6.toInt = 1 ∧ ∃ Q, sQua T (gi mem 0 1).toInt = some ((gi m4 14 0).toInt, Q) ∧ hqQ Q ∧ cQ 14 15 16 19 20 21 24 25 Q m4) ∨ (v6.toInt = 0 ∧ sQua T (gi mem 0 1).toInt = none))) → ¬ (v6).toInt = 0 → ∀ lo, zlg lo 0 = some (.ref 0) → aTm aT0 m4 → yR zpg tX11_quay (d + 63) (52, lo, [], m4) P) (h2 : ∀ (v6 : Int32) (m4 : zM), aTm aT0 m4 → (zo 14 m4 = zo 14 (si mem 0 1 0) ∧ ((v6.toInt = 1 ∧ ∃ Q, sQua T (gi mem 0 1).toInt = some ((gi m4 14 0).toInt, Q) ∧ hqQ Q ∧ cQ 14 15 16 19 20 21 24 25 Q m4) ∨ (v6.toInt = 0 ∧ sQua T (gi mem 0 1).toInt = none))) → (v6).toInt = 0 → ∀ lo, zlg lo 0 = some (.ref 0) → aTm aT0 m4 → yR zpg tX11_quay (d + 63) (24, lo, [], m4) P) : yR zpg tX11_quay (d + 63) (0, lo, [], mem) P := by
  refine wR_la rfl l_0 ?_
  refine wR_iv rfl rfl cO_e hm rfl rfl rfl rfl ?_
  show yR zpg tX11_takeTape (d + 62) (0, [(0, .ref 0)], [], mem) _
  refine yR_m 1 (fun _ _ _ _ => rfl) ?_
  refine wR_gi rfl cO_e cO_1 hm rfl ?_
  refine yR_m 3 (fun _ _ _ _ => rfl) ?_
  refine wR_pi rfl cO_e cO_1 hm rfl ?_
  have hm_1 : aTm aT0 (si mem 0 1 0) := tm_si cO_e cO_1 hm (by decide)
  refine yR_m 1 (fun _ _ _ _ => rfl) ?_
  refine yR_ri rfl ?_
  show yR zpg tX11_quay (d + 63) (4, lo, [.int (gi mem 0 1)], (si mem 0 1 0)) _
  refine wR_si rfl rfl (fun lo1 e2 f3 => ?_)
  have lo1_0 := f3 0 _ (by decide) (Or.inl rfl) l_0
  refine wR_la rfl lo1_0 ?_
  refine wR_gr rfl cO_e cO_6 hm_1 ?_
  refine wR_la rfl lo1_0 ?_
  refine wR_gr rfl cO_e cO_0 hm_1 ?_
  refine wR_li rfl e2 ?_
  refine wR_la rfl lo1_0 ?_
  refine wR_gq rfl cO_e hm_1 ((zfl_sv_ne (by decide)).trans hsp) ?_
  refine wR_cv rfl rfl tO_e hm_1 rfl (h_reCB (T := T) hm_1 (ga_sv.trans hC) (ga_sv.trans hT) (cO_r1 hm) (by omega)) ?_
  rintro _ m4 ⟨v6, rfl, hm4, k5⟩
  show yR zpg tX11_quay (d + 63) (21, lo1, [.int v6], m4) _
  refine wR_if_ne rfl (a := (v6).toInt) rfl (fun q7 => ?_) (fun q7 => ?_)
  ·
    exact h1 v6 m4 hm4 k5 q7 lo1 lo1_0 hm4
  ·
    exact h2 v6 m4 hm4 k5 q7 lo1 lo1_0 hm4

set_option maxRecDepth 100000 in
theorem w_qsB {d : Nat} {mem : zM} {P : Option Value → zM → Prop} {lo : List (Nat × Value)} (hm : aTm aT0 mem) (l_0 : zlg lo 0 = some (.ref 0)) (hsp : zfl mem 0 5 = some (.ref 14)) (hp : zfl mem 0 4 = some (.ref 2)) (h1 : ∀ lo, zlg lo 0 = some (.ref 0) → aTm aT0 (sR (sR (si (si mem 0 2 0) 0 3 (-1)) 0 4 14) 0 5 2) → yR zpg tX11_quay (d + 63) (80, lo, [], (sR (sR (si (si mem 0 2 0) 0 3 (-1)) 0 4 14) 0 5 2)) P) : yR zpg tX11_quay (d + 63) (52, lo, [], mem) P := by
  refine wR_la rfl l_0 ?_
  refine yR_m 1 (fun _ _ _ _ => rfl) ?_
  refine wR_pi rfl cO_e cO_2 hm rfl ?_
  have hm_1 : aTm aT0 (si mem 0 2 0) := tm_si cO_e cO_2 hm (i32_b _)
  refine wR_la rfl l_0 ?_
  refine yR_m 1 (fun _ _ _ _ => rfl) ?_
  refine wR_pi rfl cO_e cO_3 hm_1 rfl ?_
  have hm_2 : aTm aT0 (si (si mem 0 2 0) 0 3 (-1)) := tm_si cO_e cO_3 hm_1 (i32_b _)
  refine wR_la rfl l_0 ?_
  refine wR_gq rfl cO_e hm_2 ((zfl_sv_ne (by decide)).trans ((zfl_sv_ne (by decide)).trans hp)) ?_
  refine wR_sa rfl rfl (fun lo1 e2 f3 => ?_)
  have lo1_0 := f3 0 _ (by decide) (Or.inl rfl) l_0
  refine wR_la rfl lo1_0 ?_
  refine wR_la rfl lo1_0 ?_
  refine wR_gq rfl cO_e hm_2 ((zfl_sv_ne (by decide)).trans ((zfl_sv_ne (by decide)).trans hsp)) ?_
  refine wR_pr rfl cO_e cO_4 hm_2 rfl ?_
  have hm_3 : aTm aT0 (sR (si (si mem 0 2 0) 0 3 (-1)) 0 4 14) := tm_sR cO_e cO_4 hm_2 (by decide)
  refine wR_la rfl lo1_0 ?_
  refine wR_la rfl e2 ?_
  refine wR_pr rfl cO_e cO_5 hm_3 rfl ?_
  have hm_4 : aTm aT0 (sR (sR (si (si mem 0 2 0) 0 3 (-1)) 0 4 14) 0 5 2) := tm_sR cO_e cO_5 hm_3 (by decide)
  exact h1 lo1 lo1_0 hm_4

def pQ (Q : Qd) (m : zM) : Prop := pQA Q m ∨ pQB Q m
/-- quay's answer, and what the plan then is; it was Q0 -/
def quX (v : Option (Int × Qd)) (Q0 : Qd) (r : Option Value) (m : zM) : Prop := (∃ (c : Int32) (Q : Qd), v = some (c.toInt, Q) ∧ r = some (.int c) ∧ hqQ Q ∧ pQ Q m) ∨ (v = none ∧ r = some (.int (-1)) ∧ pQ Q0 m)
theorem qt52A {V : Option (Int × Qd)} {Q Q0 : Qd} {lo : List (Nat × Value)} (hm : aTm aT0 mem) (hsp : zfl mem 0 5 = some (.ref 2)) (hp : zfl mem 0 4 = some (.ref 14)) (hV : V = some ((gi mem 2 0).toInt, Q)) (hq : hqQ Q) (hQ : cQ 2 3 4 7 8 9 12 13 Q mem) (a0 : zlg lo 0 = some (.ref 0)) : yR zpg tX11_quay (d + 63) (52, lo, [], mem) (quX V Q0) := by
  have e1 : aTm aT0 (si mem 0 2 0) := tm_si cO_e cO_2 hm (by decide)
  have e2 : aTm aT0 (si (si mem 0 2 0) 0 3 (-1)) := tm_si cO_e cO_3 e1 (by decide)
  have e3 : aTm aT0 (sR (si (si mem 0 2 0) 0 3 (-1)) 0 4 2) := tm_sR cO_e cO_4 e2 (by decide)
  refine w_qsA hm a0 hsp hp (fun lo b0 b1 => ?_)
  have z4 : zfl (sR (sR (si (si mem 0 2 0) 0 3 (-1)) 0 4 2) 0 5 14) 0 4 = some (.ref 2) := (zfl_sv_ne (by decide)).trans (zfl_sR cO_e cO_4 e2)
  have z5 : zfl (sR (sR (si (si mem 0 2 0) 0 3 (-1)) 0 4 2) 0 5 14) 0 5 = some (.ref 14) := zfl_sR cO_e cO_5 e3
  refine yR_mono ?_ (qt80 (q := 2) pA_e pA_0 rfl (by decide) (by decide) b1 z4 b0)
  rintro r m ⟨hr, F⟩
  refine Or.inl ⟨_, Q, ?_, hr, hq, ?_⟩
  · rw [hV, gi_sv_ne (by decide), gi_sv_ne (by decide), gi_sv_ne (by decide), gi_sv_ne (by decide)]
  · refine Or.inl ⟨(F.2 0 4 rfl).trans ((zfl_sv_ne (by decide)).trans z4), (F.2 0 5 rfl).trans ((zfl_sv_ne (by decide)).trans z5), (F.2 181 0 rfl).trans (zfl_sR aHo_e aHo_0 b1), cQ_prA F rfl rfl rfl rfl rfl rfl rfl rfl rfl rfl rfl rfl rfl rfl rfl rfl rfl rfl rfl rfl (cQ_zaA (fun k h1 h2 => ?_) hQ)⟩
    rw [zat_sv_ne (by omega), zat_sv_ne (by omega), zat_sv_ne (by omega), zat_sv_ne (by omega), zat_sv_ne (by omega)]
theorem h_qcA {Q0 : Qd} (hm : aTm aT0 mem) (hC : ga mem 28 = ownC) (hP : pQB Q0 mem) : yC zpg (d + 64) 114 [.ref 0] mem (quX (sQua (ga mem 1) (gi mem 0 1).toInt) Q0) := by
  obtain ⟨hp, hsp, hh, hQ0⟩ := hP
  refine yC_of (t := tX11_quay) rfl rfl ?_
  refine w_qyA (T := ga mem 1) hm rfl hsp hC rfl ?_ ?_
  · intro v m h1 k1 w lo a0 h2
    have z0 := zo_at k1.1 (k := 0) (by decide)
    rcases k1.2 with ⟨-, Q, k, hq, hQ⟩ | ⟨k, -⟩
    · exact qt52A h2 (((zfl_ea z0).trans (zfl_sv_ne (by decide))).trans hsp) (((zfl_ea z0).trans (zfl_sv_ne (by decide))).trans hp) k hq hQ a0
    · exact absurd k w
  · intro v m h1 k1 w lo a0 h2
    have z0 := zo_at k1.1 (k := 0) (by decide)
    have z181 := zo_at k1.1 (k := 181) (by decide)
    rcases k1.2 with ⟨k, -⟩ | ⟨-, k⟩
    · exfalso
      omega
    · refine w_qr h2 a0 (fun y _ _ => Or.inr ⟨k, rfl, Or.inr ⟨?_, ?_, ?_, ?_⟩⟩)
      · exact zfl_sa.trans ((zfl_sv_ne (by decide)).trans ((zfl_sv_ne (by decide)).trans ((zfl_ea z0).trans ((zfl_sv_ne (by decide)).trans hp))))
      · exact zfl_sa.trans ((zfl_sv_ne (by decide)).trans ((zfl_sv_ne (by decide)).trans ((zfl_ea z0).trans ((zfl_sv_ne (by decide)).trans hsp))))
      · exact zfl_sa.trans ((zfl_sv_ne (by decide)).trans ((zfl_sv_ne (by decide)).trans ((zfl_ea z181).trans ((zfl_sv_ne (by decide)).trans hh))))
      · refine cQ_zaB (fun k h1 h2 => ?_) hQ0
        rw [zat_sa_ne (by omega), zat_sv_ne (by omega), zat_sv_ne (by omega), zo_at k1.1 (k := k) (by omega), zat_sv_ne (by omega)]
theorem qt52B {V : Option (Int × Qd)} {Q Q0 : Qd} {lo : List (Nat × Value)} (hm : aTm aT0 mem) (hsp : zfl mem 0 5 = some (.ref 14)) (hp : zfl mem 0 4 = some (.ref 2)) (hV : V = some ((gi mem 14 0).toInt, Q)) (hq : hqQ Q) (hQ : cQ 14 15 16 19 20 21 24 25 Q mem) (a0 : zlg lo 0 = some (.ref 0)) : yR zpg tX11_quay (d + 63) (52, lo, [], mem) (quX V Q0) := by
  have e1 : aTm aT0 (si mem 0 2 0) := tm_si cO_e cO_2 hm (by decide)
  have e2 : aTm aT0 (si (si mem 0 2 0) 0 3 (-1)) := tm_si cO_e cO_3 e1 (by decide)
  have e3 : aTm aT0 (sR (si (si mem 0 2 0) 0 3 (-1)) 0 4 14) := tm_sR cO_e cO_4 e2 (by decide)
  refine w_qsB hm a0 hsp hp (fun lo b0 b1 => ?_)
  have z4 : zfl (sR (sR (si (si mem 0 2 0) 0 3 (-1)) 0 4 14) 0 5 2) 0 4 = some (.ref 14) := (zfl_sv_ne (by decide)).trans (zfl_sR cO_e cO_4 e2)
  have z5 : zfl (sR (sR (si (si mem 0 2 0) 0 3 (-1)) 0 4 14) 0 5 2) 0 5 = some (.ref 2) := zfl_sR cO_e cO_5 e3
  refine yR_mono ?_ (qt80 (q := 14) pB_e pB_0 rfl (by decide) (by decide) b1 z4 b0)
  rintro r m ⟨hr, F⟩
  refine Or.inl ⟨_, Q, ?_, hr, hq, ?_⟩
  · rw [hV, gi_sv_ne (by decide), gi_sv_ne (by decide), gi_sv_ne (by decide), gi_sv_ne (by decide)]
  · refine Or.inr ⟨(F.2 0 4 rfl).trans ((zfl_sv_ne (by decide)).trans z4), (F.2 0 5 rfl).trans ((zfl_sv_ne (by decide)).trans z5), (F.2 181 0 rfl).trans (zfl_sR aHo_e aHo_0 b1), cQ_prB F rfl rfl rfl rfl rfl rfl rfl rfl rfl rfl rfl rfl rfl rfl rfl rfl rfl rfl rfl rfl (cQ_zaB (fun k h1 h2 => ?_) hQ)⟩
    rw [zat_sv_ne (by omega), zat_sv_ne (by omega), zat_sv_ne (by omega), zat_sv_ne (by omega), zat_sv_ne (by omega)]
theorem h_qcB {Q0 : Qd} (hm : aTm aT0 mem) (hC : ga mem 28 = ownC) (hP : pQA Q0 mem) : yC zpg (d + 64) 114 [.ref 0] mem (quX (sQua (ga mem 1) (gi mem 0 1).toInt) Q0) := by
  obtain ⟨hp, hsp, hh, hQ0⟩ := hP
  refine yC_of (t := tX11_quay) rfl rfl ?_
  refine w_qyB (T := ga mem 1) hm rfl hsp hC rfl ?_ ?_
  · intro v m h1 k1 w lo a0 h2
    have z0 := zo_at k1.1 (k := 0) (by decide)
    rcases k1.2 with ⟨-, Q, k, hq, hQ⟩ | ⟨k, -⟩
    · exact qt52B h2 (((zfl_ea z0).trans (zfl_sv_ne (by decide))).trans hsp) (((zfl_ea z0).trans (zfl_sv_ne (by decide))).trans hp) k hq hQ a0
    · exact absurd k w
  · intro v m h1 k1 w lo a0 h2
    have z0 := zo_at k1.1 (k := 0) (by decide)
    have z181 := zo_at k1.1 (k := 181) (by decide)
    rcases k1.2 with ⟨k, -⟩ | ⟨-, k⟩
    · exfalso
      omega
    · refine w_qr h2 a0 (fun y _ _ => Or.inr ⟨k, rfl, Or.inl ⟨?_, ?_, ?_, ?_⟩⟩)
      · exact zfl_sa.trans ((zfl_sv_ne (by decide)).trans ((zfl_sv_ne (by decide)).trans ((zfl_ea z0).trans ((zfl_sv_ne (by decide)).trans hp))))
      · exact zfl_sa.trans ((zfl_sv_ne (by decide)).trans ((zfl_sv_ne (by decide)).trans ((zfl_ea z0).trans ((zfl_sv_ne (by decide)).trans hsp))))
      · exact zfl_sa.trans ((zfl_sv_ne (by decide)).trans ((zfl_sv_ne (by decide)).trans ((zfl_ea z181).trans ((zfl_sv_ne (by decide)).trans hh))))
      · refine cQ_zaA (fun k h1 h2 => ?_) hQ0
        rw [zat_sa_ne (by omega), zat_sv_ne (by omega), zat_sv_ne (by omega), zo_at k1.1 (k := k) (by omega), zat_sv_ne (by omega)]
theorem h_quaC {Q0 : Qd} (hm : aTm aT0 mem) (hC : ga mem 28 = ownC) (hP : pQ Q0 mem) (hd : 64 ≤ d) : yC zpg d 114 [.ref 0] mem (quX (sQua (ga mem 1) (gi mem 0 1).toInt) Q0) := by
  obtain ⟨d, rfl⟩ : ∃ q, d = q + 64 := ⟨d - 64, by omega⟩
  rcases hP with h | h
  · exact h_qcB hm hC h
  · exact h_qcA hm hC h
end DC
