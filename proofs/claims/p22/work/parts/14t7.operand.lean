/-! operand -/
section OD
theorem ar_3 {p : Int} (h : ¬ p = 44) : arF (3, p, 0, 1, []) = 0 := by
  show (if (3 : Int) = 4 then (if p = 44 then (2 : Int) else 1) else if (3 : Int) = 3 then (if p = 44 then 1 else 0) else 0) = 0
  rw [if_neg (by decide), if_pos rfl, if_neg h]
theorem ar_6 {p : Int} : arF (6, p, 0, 1, []) = 0 := by
  show (if (6 : Int) = 4 then (if p = 44 then (2 : Int) else 1) else if (6 : Int) = 3 then (if p = 44 then 1 else 0) else 0) = 0
  rw [if_neg (by decide), if_neg (by decide)]
variable {d : Nat} {mr mem : zM} {fm s0 : Int}
theorem h_opens2 {K x41 x42 : Int32} (hm : aTm aT0 mem) (hT : tOK mem) (hd : 4 ≤ d) (e41 : gi mem 221 41 = x41) (e42 : gi mem 221 42 = x42) (p1 : 1 ≤ x41.toInt ∧ x41.toInt ≤ 8) (p4 : 0 ≤ x42.toInt ∧ x42.toInt ≤ 7) : yC zpg d 186 [.ref 221, .int K] mem (fun r m => r = none ∧ aTm aT0 m ∧ (opQ K.toInt mem m ∧ (¬ (gi m 221 8).toInt = 0 ∨ (gi m 221 41).toInt = x41.toInt + 1))) := by
  subst e41 e42
  refine yC_mono (fun r m q => ⟨q.1, q.2.1, q.2.2, ?_⟩) (h_opens hm hT hd p1 p4)
  by_cases w : (gi m 221 8).toInt = 0
  · exact Or.inr (q.2.2.2.2.2 w).2.2.1.1
  · exact Or.inl w
def odP (mr : zM) (fm s0 : Int) (r : Option Value) (m : zM) : Prop := ∃ v : Int32, r = some (.int v) ∧ aTm aT0 m ∧ (kB mr m ∧ tOK m) ∧ (0 ≤ v.toInt ∧ v.toInt ≤ 1) ∧ (1 ≤ fk m ∨ ∃ l', PI mr m fm l' v.toInt ∧ s0 < (gi m 221 4).toInt)
theorem od_f {m : zM} {v : Int32} (hm2 : aTm aT0 m) (kb : kB mr mem) (T : tOK mem) (F : fr [] [8, 9] mem m) (h8 : 1 ≤ fk m) (hv : 0 ≤ v.toInt ∧ v.toInt ≤ 1) : odP mr fm s0 (some (.int v)) m := ⟨v, rfl, hm2, ⟨kB_tr kb (kB_fr F rfl rfl rfl rfl rfl rfl rfl rfl), tOK_fr F rfl rfl rfl rfl (by omega) T⟩, hv, Or.inl h8⟩
theorem od_p {m : zM} {v : Int32} (hm2 : aTm aT0 m) (hv : 0 ≤ v.toInt ∧ v.toInt ≤ 1) {s : Int} (hs : s0 ≤ s) (h : ∃ l', PI mr m fm l' v.toInt ∧ s < (gi m 221 4).toInt) : odP mr fm s0 (some (.int v)) m := by
  obtain ⟨l', h1, h2⟩ := h
  exact ⟨v, rfl, hm2, ⟨h1.1.1, h1.1.2.1⟩, hv, Or.inr ⟨l', h1, by omega⟩⟩
/-- behind a bracket that was not opened -/
theorem od_q {m m5 : zM} {K : Int} {v : Int32} (hm2 : aTm aT0 m5) (kb : kB mr m) (Q : opQ K m m5) (h8 : ¬ (gi m5 221 8).toInt = 0) (hv : 0 ≤ v.toInt ∧ v.toInt ≤ 1) : odP mr fm s0 (some (.int v)) m5 := by
  have t : 0 ≤ (gi m5 221 8).toInt := Q.2.1.2
  exact ⟨v, rfl, hm2, ⟨kB_tr kb (kB_fr Q.1 rfl rfl rfl rfl rfl rfl rfl rfl), Q.2.1⟩, hv, Or.inl (by show 1 ≤ (gi m5 221 8).toInt; omega)⟩
theorem od_o {m5 : zM} {K : Int} {l : List Fm} (hm : aTm aT0 mem) (h : PI mr mem fm l 0) (hb : ∀ f, l.head? = some f → f.2.2.2.1 = 0) (hs : s0 ≤ (gi mem 221 4).toInt) (hm2 : aTm aT0 m5) (Q : opQ K mem m5) (hK : K = 2 ∨ K = 5) (sg : ¬ (gi mem 221 3).toInt = 0) : odP mr fm s0 (some (.int 0)) m5 := by
  by_cases q : (gi m5 221 8).toInt = 0
  · have gt := (Q.2.2.2 q).2.1 sg
    exact od_p hm2 (by decide) hs ⟨_, PI_opn hm h hb fr_rf Q q fr_rf (fun _ _ _ => rfl) (by omega) (fun w => by omega) (fun w => by omega) (by unfold arF; rw [if_neg (by simp only; omega), if_neg (by simp only; omega)]) gt, gt⟩
  · exact od_q hm2 h.1.1 Q q (by decide)
set_option maxRecDepth 100000 in
theorem w_od_446 {d : Nat} {mem : zM} {P : Option Value → zM → Prop} {wh : Int32} {lo : List (Nat × Value)} (hm : aTm aT0 mem) (l_0 : zlg lo 0 = some (.ref 221)) (l_3 : zlg lo 3 = some (.int wh)) (p1 : 1 ≤ (gi mem 221 41).toInt ∧ (gi mem 221 41).toInt ≤ 8) (p2 : 0 ≤ (gi mem 221 44).toInt ∧ (gi mem 221 44).toInt ≤ 60) (p3 : 0 ≤ (gi mem 221 33).toInt ∧ (gi mem 221 33).toInt ≤ 1599) (p4 : 0 ≤ (gi mem 221 42).toInt ∧ (gi mem 221 42).toInt ≤ 7) (p6 : (gi mem 221 5).toInt ≤ (gi mem 221 2).toInt) (h1 : ¬ (wh).toInt = (-1) → (gi mem 221 8).toInt ≤ 0 → ∀ (x3 : Int32), x3.toInt = (1600 * (gi mem 221 34).toInt) → ∀ (x5 : Int32), x5.toInt = ((1600 * (gi mem 221 34).toInt) + (gi mem 221 33).toInt) → ∀ (x7 : Int32), x7.toInt = (1600 * (gi mem 221 34).toInt) → ∀ (x9 : Int32), x9.toInt = ((1600 * (gi mem 221 34).toInt) + (gi mem 221 33).toInt) → ∀ (x11 : Int32), x11.toInt = ((gi mem 221 33).toInt + 1) → ∀ (m13 : zM), aTm aT0 m13 → (ahQ (si (sx (sx mem 238 x5 wh) 239 x9 (gi mem 221 6)) 221 33 x11) m13 ∧ (gi m13 221 41).toInt = (gi mem 221 41).toInt ∧ (gi m13 221 42).toInt = (gi mem 221 42).toInt ∧ (gi m13 221 44).toInt = (gi mem 221 44).toInt ∧ (gi m13 221 33).toInt = x11.toInt ∧ (gi m13 221 8).toInt = (gi mem 221 8).toInt ∧ (gi mem 221 5).toInt ≤ (gi m13 221 4).toInt ∧ (gi m13 221 4).toInt ≤ (gi m13 221 5).toInt ∧ (gi m13 221 5).toInt ≤ (gi m13 221 2).toInt) → aTm aT0 m13 → P (some (.int 1)) m13) (h2 : ¬ (wh).toInt = (-1) → 0 < (gi mem 221 8).toInt → aTm aT0 mem → P (some (.int 1)) mem) (h3 : (wh).toInt = (-1) → (gi mem 221 8).toInt ≤ 0 → aTm aT0 (si (si mem 221 8 1) 221 9 (gi mem 221 4)) → P (some (.int 1)) (si (si mem 221 8 1) 221 9 (gi mem 221 4))) (h4 : (wh).toInt = (-1) → 0 < (gi mem 221 8).toInt → aTm aT0 mem → P (some (.int 1)) mem) : yR zpg tX12_operand (d + 5) (446, lo, [], mem) P := by
  obtain ⟨i0, i1⟩ := mO_r34 hm
  refine wR_li rfl l_3 ?_
  refine yR_m 1 (fun _ _ _ _ => rfl) ?_
  refine wR_ic_ne rfl (a := (wh).toInt) (c := (-1)) rfl tm1 (fun q1 => ?_) (fun q1 => ?_)
  ·
    refine wR_la rfl l_0 ?_
    refine wR_gi rfl mO_e mO_8 hm rfl ?_
    refine wR_if_le rfl (a := (gi mem 221 8).toInt) rfl (fun q2 => ?_) (fun q2 => ?_)
    ·
      refine wR_la rfl l_0 ?_
      refine wR_li rfl l_3 ?_
      refine wR_la rfl l_0 ?_
      refine wR_gi rfl mO_e mO_6 hm rfl ?_
      refine wR_iv rfl rfl mO_e hm rfl rfl rfl rfl ?_
      show yR zpg tX12_add (d + 4) (0, [(0, .ref 221), (1, .int wh), (2, .int (gi mem 221 6))], [], mem) _
      refine yR_m 1 (fun _ _ _ _ => rfl) ?_
      refine wR_gr rfl mO_e mO_29 hm ?_
      refine yR_m 2 (fun _ _ _ _ => rfl) ?_
      refine wR_gi rfl mO_e mO_34 hm rfl ?_
      refine wN_mul (a := 1600) (b := (gi mem 221 34).toInt) rfl rfl rfl (by omega) (fun x3 e4 => ?_)
      refine yR_m 1 (fun _ _ _ _ => rfl) ?_
      refine wR_gi rfl mO_e mO_33 hm rfl ?_
      refine wN_add (a := (1600 * (gi mem 221 34).toInt)) (b := (gi mem 221 33).toInt) rfl e4 rfl (by omega) (fun x5 e6 => ?_)
      refine yR_m 1 (fun _ _ _ _ => rfl) ?_
      refine wN_as (a := ((1600 * (gi mem 221 34).toInt) + (gi mem 221 33).toInt)) rfl aR_238 hm e6 (by omega) ?_
      have hm_1 : aTm aT0 (sx mem 238 x5 wh) := tm_sa aR_238 hm (i32_b _)
      refine yR_m 1 (fun _ _ _ _ => rfl) ?_
      refine wR_gr rfl mO_e mO_30 hm_1 ?_
      refine yR_m 2 (fun _ _ _ _ => rfl) ?_
      refine wR_gi rfl mO_e mO_34 hm_1 (gi_sa) ?_
      refine wN_mul (a := 1600) (b := (gi mem 221 34).toInt) rfl rfl rfl (by omega) (fun x7 e8 => ?_)
      refine yR_m 1 (fun _ _ _ _ => rfl) ?_
      refine wR_gi rfl mO_e mO_33 hm_1 (gi_sa) ?_
      refine wN_add (a := (1600 * (gi mem 221 34).toInt)) (b := (gi mem 221 33).toInt) rfl e8 rfl (by omega) (fun x9 e10 => ?_)
      refine yR_m 1 (fun _ _ _ _ => rfl) ?_
      refine wN_as (a := ((1600 * (gi mem 221 34).toInt) + (gi mem 221 33).toInt)) rfl aR_239 hm_1 e10 (by omega) ?_
      have hm_2 : aTm aT0 (sx (sx mem 238 x5 wh) 239 x9 (gi mem 221 6)) := tm_sa aR_239 hm_1 (i32_b _)
      refine yR_m 2 (fun _ _ _ _ => rfl) ?_
      refine wR_gi rfl mO_e mO_33 hm_2 ((gi_sa).trans (gi_sa)) ?_
      refine yR_m 1 (fun _ _ _ _ => rfl) ?_
      refine wN_add (a := (gi mem 221 33).toInt) (b := 1) rfl rfl rfl (by omega) (fun x11 e12 => ?_)
      refine wR_pi rfl mO_e mO_33 hm_2 rfl ?_
      have hm_3 : aTm aT0 (si (sx (sx mem 238 x5 wh) 239 x9 (gi mem 221 6)) 221 33 x11) := tm_si mO_e mO_33 hm_2 (i32_b _)
      refine yR_rv rfl ?_
      show yR zpg tX12_operand (d + 5) (478, lo, [], (si (sx (sx mem 238 x5 wh) 239 x9 (gi mem 221 6)) 221 33 x11)) _
      refine wR_la rfl l_0 ?_
      refine wR_cv rfl rfl mO_e hm_3 rfl (h_ahead3 (by omega) hm_3 ((gi_sv_ne (by decide)).trans ((gi_sa).trans (gi_sa))) ((gi_sv_ne (by decide)).trans ((gi_sa).trans (gi_sa))) (by omega) ((gi_sv_ne (by decide)).trans ((gi_sa).trans (gi_sa))) ((gi_sv_ne (by decide)).trans ((gi_sa).trans (gi_sa))) ((gi_sv_ne (by decide)).trans ((gi_sa).trans (gi_sa))) (gi_si_eq mO_e mO_33 hm_2) ((gi_sv_ne (by decide)).trans ((gi_sa).trans (gi_sa)))) ?_
      rintro _ m13 ⟨rfl, hI13, k14⟩
      show yR zpg tX12_operand (d + 5) (482, lo, [], m13) _
      refine yR_m 1 (fun _ _ _ _ => rfl) ?_
      exact yR_rz rfl ⟨by decide, by decide⟩ (h1 q1 q2 x3 e4 x5 e6 x7 e8 x9 e10 x11 e12 m13 hI13 k14 hI13)
    ·
      refine yR_m 1 (fun _ _ _ _ => rfl) ?_
      exact yR_rz rfl ⟨by decide, by decide⟩ (h2 q1 q2 hm)
  ·
    refine wR_la rfl l_0 ?_
    refine yR_m 1 (fun _ _ _ _ => rfl) ?_
    refine wR_la rfl l_0 ?_
    refine wR_gi rfl mO_e mO_4 hm rfl ?_
    refine wR_iv rfl rfl mO_e hm rfl rfl rfl rfl ?_
    show yR zpg tX12_blame (d + 4) (0, [(0, .ref 221), (1, .int 1), (2, .int (gi mem 221 4))], [], mem) _
    refine yR_m 1 (fun _ _ _ _ => rfl) ?_
    refine wR_gi rfl mO_e mO_8 hm rfl ?_
    refine wR_if_le rfl (a := (gi mem 221 8).toInt) rfl (fun q15 => ?_) (fun q15 => ?_)
    ·
      refine yR_m 2 (fun _ _ _ _ => rfl) ?_
      refine wR_pi rfl mO_e mO_8 hm rfl ?_
      have hm_4 : aTm aT0 (si mem 221 8 1) := tm_si mO_e mO_8 hm (i32_b _)
      refine yR_m 2 (fun _ _ _ _ => rfl) ?_
      refine wR_pi rfl mO_e mO_9 hm_4 rfl ?_
      have hm_5 : aTm aT0 (si (si mem 221 8 1) 221 9 (gi mem 221 4)) := tm_si mO_e mO_9 hm_4 (i32_b _)
      refine yR_rv rfl ?_
      show yR zpg tX12_operand (d + 5) (460, lo, [], (si (si mem 221 8 1) 221 9 (gi mem 221 4))) _
      refine wR_la rfl l_0 ?_
      refine wR_gi rfl mO_e mO_8 hm_5 ((gi_sv_ne (by decide)).trans (gi_si_eq mO_e mO_8 hm)) ?_
      refine wR_if_le rfl (a := 1) rfl (fun q => by exfalso; omega) (fun _ => ?_)
      refine yR_m 1 (fun _ _ _ _ => rfl) ?_
      exact yR_rz rfl ⟨by decide, by decide⟩ (h3 q1 q15 hm_5)
    ·
      refine yR_rv rfl ?_
      show yR zpg tX12_operand (d + 5) (460, lo, [], mem) _
      refine wR_la rfl l_0 ?_
      refine wR_gi rfl mO_e mO_8 hm rfl ?_
      refine wR_if_le rfl (a := (gi mem 221 8).toInt) rfl (fun q => by exfalso; omega) (fun _ => ?_)
      refine yR_m 1 (fun _ _ _ _ => rfl) ?_
      exact yR_rz rfl ⟨by decide, by decide⟩ (h4 q1 q15 hm)

theorem od_446 {l : List Fm} {wh : Int32} {lo : List (Nat × Value)} (hm : aTm aT0 mem) (h : PI mr mem fm l 0) (hb : ∀ f, l.head? = some f → f.2.2.2.1 = 0) (hs : s0 ≤ (gi mem 221 4).toInt) (hw : -1 ≤ wh.toInt ∧ wh.toInt ≤ 6) (hg : wh.toInt = -1 ∨ ¬ (gi mem 221 3).toInt = 0) (a0 : zlg lo 0 = some (.ref 221)) (a3 : zlg lo 3 = some (.int wh)) : yR zpg tX12_operand (d + 5) (446, lo, [], mem) (odP mr fm s0) := by
  have pp := PI_pp hm h
  have hT := h.1.2.1
  obtain ⟨p1, p2, p3, p4, p6, p8, p9⟩ := pp
  exact w_od_446 hm a0 a3 p1 p2 p3 p4 p6
        (fun q1 q2 x3 e4 x5 e6 x7 e8 x9 e10 x11 e12 m13 hI13 k14 hm2 => od_p hm2 (by decide) hs (PI_add (x := x5) (y := wh) (x33 := x11) hm h hb (fr_sv rfl (fr_sa rfl (fr_sa rfl (fr_rf)))) k14.1 (gi_eqO (isO_sa (by decide) (isO_sa (by decide) (isO_of hm))) (by decide)) (by omega) (((ga_sv).trans ((ga_sa_ne (by decide)).trans ga_sa_eq))) (by omega) ⟨x9, (gi mem 221 6), by omega, ((ga_sv).trans (ga_sa_eq.trans (congrArg (fun l => List.set l x9.toNatClampNeg (gi mem 221 6)) (ga_sa_ne (by decide)))))⟩ (Or.inl (by omega)) (Or.inl (((ga_sv).trans ((ga_sa_ne (by decide)).trans (ga_sa_ne (by decide)))))) (by omega)))
        (fun q1 q2 hm2 => by exfalso; omega)
        (fun q1 q15 hm2 => od_f hm2 h.1.1 hT (fr_sv rfl (fr_sv rfl (fr_rf))) (by show 1 ≤ (gi (si (si mem 221 8 1) 221 9 (gi mem 221 4)) 221 8).toInt; rw [((gi_sv_ne (by decide)).trans (gi_eqO (isO_of hm) (by decide)))]; decide) (by decide))
        (fun q1 q15 hm2 => by exfalso; omega)
set_option maxRecDepth 100000 in
theorem w_od_412 {d : Nat} {mem : zM} {P : Option Value → zM → Prop} {wh : Int32} {lo : List (Nat × Value)} (hm : aTm aT0 mem) (l_0 : zlg lo 0 = some (.ref 221)) (l_3 : zlg lo 3 = some (.int wh)) (p1 : 1 ≤ (gi mem 221 41).toInt ∧ (gi mem 221 41).toInt ≤ 8) (p2 : 0 ≤ (gi mem 221 44).toInt ∧ (gi mem 221 44).toInt ≤ 60) (p3 : 0 ≤ (gi mem 221 33).toInt ∧ (gi mem 221 33).toInt ≤ 1599) (p4 : 0 ≤ (gi mem 221 42).toInt ∧ (gi mem 221 42).toInt ≤ 7) (p6 : (gi mem 221 5).toInt ≤ (gi mem 221 2).toInt) (h1 : (wh).toInt < 5 → ∀ lo, zlg lo 0 = some (.ref 221) → zlg lo 3 = some (.int wh) → aTm aT0 mem → yR zpg tX12_operand (d + 5) (446, lo, [], mem) P) (h2 : 5 ≤ (wh).toInt → ¬ (wh).toInt = 6 → ¬ (gi mem 221 35).toInt = 1 → ∀ lo, zlg lo 0 = some (.ref 221) → zlg lo 3 = some (.int wh) → aTm aT0 mem → yR zpg tX12_operand (d + 5) (446, lo, [], mem) P) (h3 : 5 ≤ (wh).toInt → ¬ (wh).toInt = 6 → (gi mem 221 35).toInt = 1 → ∀ lo, zlg lo 0 = some (.ref 221) → zlg lo 3 = some (.int (-1)) → aTm aT0 mem → yR zpg tX12_operand (d + 5) (446, lo, [], mem) P) (h4 : 5 ≤ (wh).toInt → (wh).toInt = 6 → ¬ (gi mem 221 35).toInt = 1 → ∀ lo, zlg lo 0 = some (.ref 221) → zlg lo 3 = some (.int (-1)) → aTm aT0 mem → yR zpg tX12_operand (d + 5) (446, lo, [], mem) P) (h5 : 5 ≤ (wh).toInt → (wh).toInt = 6 → (gi mem 221 35).toInt = 1 → ∀ lo, zlg lo 0 = some (.ref 221) → zlg lo 3 = some (.int wh) → aTm aT0 mem → yR zpg tX12_operand (d + 5) (446, lo, [], mem) P) : yR zpg tX12_operand (d + 5) (412, lo, [], mem) P := by
  obtain ⟨i0, i1⟩ := mO_r34 hm
  refine wR_li rfl l_3 ?_
  refine yR_m 1 (fun _ _ _ _ => rfl) ?_
  refine wR_ic_lt rfl (a := (wh).toInt) (c := 5) rfl rfl (fun q1 => ?_) (fun q1 => ?_)
  ·
    exact h1 q1 lo l_0 l_3 hm
  ·
    refine wR_li rfl l_3 ?_
    refine yR_m 1 (fun _ _ _ _ => rfl) ?_
    refine wR_ic_ne rfl (a := (wh).toInt) (c := 6) rfl rfl (fun q2 => ?_) (fun q2 => ?_)
    ·
      refine yR_m 1 (fun _ _ _ _ => rfl) ?_
      refine wR_la rfl l_0 ?_
      refine wR_gi rfl mO_e mO_35 hm rfl ?_
      refine yR_m 1 (fun _ _ _ _ => rfl) ?_
      refine wR_ic_ne rfl (a := (gi mem 221 35).toInt) (c := 1) rfl rfl (fun q3 => ?_) (fun q3 => ?_)
      ·
        refine yR_m 1 (fun _ _ _ _ => rfl) ?_
        refine wR_ic_eq rfl (a := 0) (c := 0) rfl rfl (fun _ => ?_) (fun q => by exfalso; omega)
        exact h2 q1 q2 q3 lo l_0 l_3 hm
      ·
        refine yR_m 2 (fun _ _ _ _ => rfl) ?_
        refine wR_ic_eq rfl (a := 0) (c := 1) rfl rfl (fun q => by exfalso; omega) (fun _ => ?_)
        refine yR_m 1 (fun _ _ _ _ => rfl) ?_
        refine wR_si rfl rfl (fun lo4 e5 f6 => ?_)
        have lo4_0 := f6 0 _ (by decide) (Or.inl rfl) l_0
        exact h3 q1 q2 q3 lo4 lo4_0 e5 hm
    ·
      refine yR_m 2 (fun _ _ _ _ => rfl) ?_
      refine wR_la rfl l_0 ?_
      refine wR_gi rfl mO_e mO_35 hm rfl ?_
      refine yR_m 1 (fun _ _ _ _ => rfl) ?_
      refine wR_ic_ne rfl (a := (gi mem 221 35).toInt) (c := 1) rfl rfl (fun q7 => ?_) (fun q7 => ?_)
      ·
        refine yR_m 1 (fun _ _ _ _ => rfl) ?_
        refine wR_ic_eq rfl (a := 1) (c := 0) rfl rfl (fun q => by exfalso; omega) (fun _ => ?_)
        refine yR_m 1 (fun _ _ _ _ => rfl) ?_
        refine wR_si rfl rfl (fun lo8 e9 f10 => ?_)
        have lo8_0 := f10 0 _ (by decide) (Or.inl rfl) l_0
        exact h4 q1 q2 q7 lo8 lo8_0 e9 hm
      ·
        refine yR_m 2 (fun _ _ _ _ => rfl) ?_
        refine wR_ic_eq rfl (a := 1) (c := 1) rfl rfl (fun _ => ?_) (fun q => by exfalso; omega)
        exact h5 q1 q2 q7 lo l_0 l_3 hm

theorem od_412 {l : List Fm} {wh : Int32} {lo : List (Nat × Value)} (hm : aTm aT0 mem) (h : PI mr mem fm l 0) (hb : ∀ f, l.head? = some f → f.2.2.2.1 = 0) (hs : s0 ≤ (gi mem 221 4).toInt) (hw : -1 ≤ wh.toInt ∧ wh.toInt ≤ 6) (hg : wh.toInt = -1 ∨ ¬ (gi mem 221 3).toInt = 0) (a0 : zlg lo 0 = some (.ref 221)) (a3 : zlg lo 3 = some (.int wh)) : yR zpg tX12_operand (d + 5) (412, lo, [], mem) (odP mr fm s0) := by
  have pp := PI_pp hm h
  have hT := h.1.2.1
  obtain ⟨p1, p2, p3, p4, p6, p8, p9⟩ := pp
  exact w_od_412 hm a0 a3 p1 p2 p3 p4 p6
        (fun q1 lo a0 a3 hm => od_446 hm h hb hs (by first | decide | omega) (by first | exact Or.inl rfl | omega) a0 a3)
        (fun q1 q2 q3 lo a0 a3 hm => od_446 hm h hb hs (by first | decide | omega) (by first | exact Or.inl rfl | omega) a0 a3)
        (fun q1 q2 q3 lo a0 a3 hm => od_446 hm h hb hs (by first | decide | omega) (by first | exact Or.inl rfl | omega) a0 a3)
        (fun q1 q2 q7 lo a0 a3 hm => od_446 hm h hb hs (by first | decide | omega) (by first | exact Or.inl rfl | omega) a0 a3)
        (fun q1 q2 q7 lo a0 a3 hm => od_446 hm h hb hs (by first | decide | omega) (by first | exact Or.inl rfl | omega) a0 a3)
set_option maxRecDepth 100000 in
theorem w_od_313 {d : Nat} {mem : zM} {P : Option Value → zM → Prop} {lo : List (Nat × Value)} (hm : aTm aT0 mem) (l_0 : zlg lo 0 = some (.ref 221)) (p1 : 1 ≤ (gi mem 221 41).toInt ∧ (gi mem 221 41).toInt ≤ 8) (p2 : 0 ≤ (gi mem 221 44).toInt ∧ (gi mem 221 44).toInt ≤ 60) (p3 : 0 ≤ (gi mem 221 33).toInt ∧ (gi mem 221 33).toInt ≤ 1599) (p4 : 0 ≤ (gi mem 221 42).toInt ∧ (gi mem 221 42).toInt ≤ 7) (p6 : (gi mem 221 5).toInt ≤ (gi mem 221 2).toInt) (h1 : ¬ (gi mem 221 3).toInt = 2 → ∀ (v2 : Int32), (v2.toInt = 0 ∨ (v2.toInt = 1 ∧ ¬ (gi mem 221 3).toInt = 0)) → (v2).toInt = 0 → ∀ (v5 : Int32), (v5.toInt = 0 ∨ (v5.toInt = 1 ∧ ¬ (gi mem 221 3).toInt = 0)) → (v5).toInt = 0 → ∀ (v8 : Int32), (v8.toInt = 0 ∨ (v8.toInt = 1 ∧ ¬ (gi mem 221 3).toInt = 0)) → (v8).toInt = 0 → ∀ (v11 : Int32), (v11.toInt = 0 ∨ (v11.toInt = 1 ∧ ¬ (gi mem 221 3).toInt = 0)) → (v11).toInt = 0 → ∀ (v14 : Int32), (v14.toInt = 0 ∨ (v14.toInt = 1 ∧ ¬ (gi mem 221 3).toInt = 0)) → (v14).toInt = 0 → ∀ (v17 : Int32), (v17.toInt = 0 ∨ (v17.toInt = 1 ∧ ¬ (gi mem 221 3).toInt = 0)) → (v17).toInt = 0 → ∀ lo, zlg lo 0 = some (.ref 221) → zlg lo 3 = some (.int (-1)) → aTm aT0 mem → yR zpg tX12_operand (d + 5) (412, lo, [], mem) P) (h2 : ¬ (gi mem 221 3).toInt = 2 → ∀ (v2 : Int32), (v2.toInt = 0 ∨ (v2.toInt = 1 ∧ ¬ (gi mem 221 3).toInt = 0)) → (v2).toInt = 0 → ∀ (v5 : Int32), (v5.toInt = 0 ∨ (v5.toInt = 1 ∧ ¬ (gi mem 221 3).toInt = 0)) → (v5).toInt = 0 → ∀ (v8 : Int32), (v8.toInt = 0 ∨ (v8.toInt = 1 ∧ ¬ (gi mem 221 3).toInt = 0)) → (v8).toInt = 0 → ∀ (v11 : Int32), (v11.toInt = 0 ∨ (v11.toInt = 1 ∧ ¬ (gi mem 221 3).toInt = 0)) → (v11).toInt = 0 → ∀ (v14 : Int32), (v14.toInt = 0 ∨ (v14.toInt = 1 ∧ ¬ (gi mem 221 3).toInt = 0)) → (v14).toInt = 0 → ∀ (v17 : Int32), (v17.toInt = 0 ∨ (v17.toInt = 1 ∧ ¬ (gi mem 221 3).toInt = 0)) → ¬ (v17).toInt = 0 → ∀ lo, zlg lo 0 = some (.ref 221) → zlg lo 3 = some (.int 6) → aTm aT0 mem → yR zpg tX12_operand (d + 5) (412, lo, [], mem) P) (h3 : ¬ (gi mem 221 3).toInt = 2 → ∀ (v2 : Int32), (v2.toInt = 0 ∨ (v2.toInt = 1 ∧ ¬ (gi mem 221 3).toInt = 0)) → (v2).toInt = 0 → ∀ (v5 : Int32), (v5.toInt = 0 ∨ (v5.toInt = 1 ∧ ¬ (gi mem 221 3).toInt = 0)) → (v5).toInt = 0 → ∀ (v8 : Int32), (v8.toInt = 0 ∨ (v8.toInt = 1 ∧ ¬ (gi mem 221 3).toInt = 0)) → (v8).toInt = 0 → ∀ (v11 : Int32), (v11.toInt = 0 ∨ (v11.toInt = 1 ∧ ¬ (gi mem 221 3).toInt = 0)) → (v11).toInt = 0 → ∀ (v14 : Int32), (v14.toInt = 0 ∨ (v14.toInt = 1 ∧ ¬ (gi mem 221 3).toInt = 0)) → ¬ (v14).toInt = 0 → ∀ lo, zlg lo 0 = some (.ref 221) → zlg lo 3 = some (.int 5) → aTm aT0 mem → yR zpg tX12_operand (d + 5) (412, lo, [], mem) P) (h4 : ¬ (gi mem 221 3).toInt = 2 → ∀ (v2 : Int32), (v2.toInt = 0 ∨ (v2.toInt = 1 ∧ ¬ (gi mem 221 3).toInt = 0)) → (v2).toInt = 0 → ∀ (v5 : Int32), (v5.toInt = 0 ∨ (v5.toInt = 1 ∧ ¬ (gi mem 221 3).toInt = 0)) → (v5).toInt = 0 → ∀ (v8 : Int32), (v8.toInt = 0 ∨ (v8.toInt = 1 ∧ ¬ (gi mem 221 3).toInt = 0)) → (v8).toInt = 0 → ∀ (v11 : Int32), (v11.toInt = 0 ∨ (v11.toInt = 1 ∧ ¬ (gi mem 221 3).toInt = 0)) → ¬ (v11).toInt = 0 → ∀ lo, zlg lo 0 = some (.ref 221) → zlg lo 3 = some (.int 4) → aTm aT0 mem → yR zpg tX12_operand (d + 5) (412, lo, [], mem) P) (h5 : ¬ (gi mem 221 3).toInt = 2 → ∀ (v2 : Int32), (v2.toInt = 0 ∨ (v2.toInt = 1 ∧ ¬ (gi mem 221 3).toInt = 0)) → (v2).toInt = 0 → ∀ (v5 : Int32), (v5.toInt = 0 ∨ (v5.toInt = 1 ∧ ¬ (gi mem 221 3).toInt = 0)) → (v5).toInt = 0 → ∀ (v8 : Int32), (v8.toInt = 0 ∨ (v8.toInt = 1 ∧ ¬ (gi mem 221 3).toInt = 0)) → ¬ (v8).toInt = 0 → ∀ lo, zlg lo 0 = some (.ref 221) → zlg lo 3 = some (.int 3) → aTm aT0 mem → yR zpg tX12_operand (d + 5) (412, lo, [], mem) P) (h6 : ¬ (gi mem 221 3).toInt = 2 → ∀ (v2 : Int32), (v2.toInt = 0 ∨ (v2.toInt = 1 ∧ ¬ (gi mem 221 3).toInt = 0)) → (v2).toInt = 0 → ∀ (v5 : Int32), (v5.toInt = 0 ∨ (v5.toInt = 1 ∧ ¬ (gi mem 221 3).toInt = 0)) → ¬ (v5).toInt = 0 → ∀ lo, zlg lo 0 = some (.ref 221) → zlg lo 3 = some (.int 2) → aTm aT0 mem → yR zpg tX12_operand (d + 5) (412, lo, [], mem) P) (h7 : ¬ (gi mem 221 3).toInt = 2 → ∀ (v2 : Int32), (v2.toInt = 0 ∨ (v2.toInt = 1 ∧ ¬ (gi mem 221 3).toInt = 0)) → ¬ (v2).toInt = 0 → ∀ lo, zlg lo 0 = some (.ref 221) → zlg lo 3 = some (.int 1) → aTm aT0 mem → yR zpg tX12_operand (d + 5) (412, lo, [], mem) P) (h8 : (gi mem 221 3).toInt = 2 → ∀ lo, zlg lo 0 = some (.ref 221) → zlg lo 3 = some (.int 0) → aTm aT0 mem → yR zpg tX12_operand (d + 5) (412, lo, [], mem) P) : yR zpg tX12_operand (d + 5) (313, lo, [], mem) P := by
  obtain ⟨i0, i1⟩ := mO_r34 hm
  refine wR_la rfl l_0 ?_
  refine wR_gi rfl mO_e mO_3 hm rfl ?_
  refine yR_m 1 (fun _ _ _ _ => rfl) ?_
  refine wR_ic_ne rfl (a := (gi mem 221 3).toInt) (c := 2) rfl rfl (fun q1 => ?_) (fun q1 => ?_)
  ·
    refine wR_la rfl l_0 ?_
    refine yR_m 1 (fun _ _ _ _ => rfl) ?_
    refine wR_cv rfl rfl mO_e hm rfl (c_isWord hm rfl (by omega)) ?_
    rintro _ _ ⟨v2, rfl, rfl, k3⟩
    show yR zpg tX12_operand (d + 5) (332, lo, [.int v2], mem) _
    refine wR_if_eq rfl (a := (v2).toInt) rfl (fun q4 => ?_) (fun q4 => ?_)
    ·
      refine wR_la rfl l_0 ?_
      refine yR_m 1 (fun _ _ _ _ => rfl) ?_
      refine wR_cv rfl rfl mO_e hm rfl (c_isWord hm rfl (by omega)) ?_
      rintro _ _ ⟨v5, rfl, rfl, k6⟩
      show yR zpg tX12_operand (d + 5) (346, lo, [.int v5], mem) _
      refine wR_if_eq rfl (a := (v5).toInt) rfl (fun q7 => ?_) (fun q7 => ?_)
      ·
        refine wR_la rfl l_0 ?_
        refine yR_m 1 (fun _ _ _ _ => rfl) ?_
        refine wR_cv rfl rfl mO_e hm rfl (c_isWord hm rfl (by omega)) ?_
        rintro _ _ ⟨v8, rfl, rfl, k9⟩
        show yR zpg tX12_operand (d + 5) (360, lo, [.int v8], mem) _
        refine wR_if_eq rfl (a := (v8).toInt) rfl (fun q10 => ?_) (fun q10 => ?_)
        ·
          refine wR_la rfl l_0 ?_
          refine yR_m 1 (fun _ _ _ _ => rfl) ?_
          refine wR_cv rfl rfl mO_e hm rfl (c_isWord hm rfl (by omega)) ?_
          rintro _ _ ⟨v11, rfl, rfl, k12⟩
          show yR zpg tX12_operand (d + 5) (374, lo, [.int v11], mem) _
          refine wR_if_eq rfl (a := (v11).toInt) rfl (fun q13 => ?_) (fun q13 => ?_)
          ·
            refine wR_la rfl l_0 ?_
            refine yR_m 1 (fun _ _ _ _ => rfl) ?_
            refine wR_cv rfl rfl mO_e hm rfl (c_isWord hm rfl (by omega)) ?_
            rintro _ _ ⟨v14, rfl, rfl, k15⟩
            show yR zpg tX12_operand (d + 5) (388, lo, [.int v14], mem) _
            refine wR_if_eq rfl (a := (v14).toInt) rfl (fun q16 => ?_) (fun q16 => ?_)
            ·
              refine wR_la rfl l_0 ?_
              refine yR_m 1 (fun _ _ _ _ => rfl) ?_
              refine wR_cv rfl rfl mO_e hm rfl (c_isWord hm rfl (by omega)) ?_
              rintro _ _ ⟨v17, rfl, rfl, k18⟩
              show yR zpg tX12_operand (d + 5) (402, lo, [.int v17], mem) _
              refine wR_if_eq rfl (a := (v17).toInt) rfl (fun q19 => ?_) (fun q19 => ?_)
              ·
                refine yR_m 1 (fun _ _ _ _ => rfl) ?_
                refine wR_si rfl rfl (fun lo20 e21 f22 => ?_)
                have lo20_0 := f22 0 _ (by decide) (Or.inl rfl) l_0
                exact h1 q1 v2 k3 q4 v5 k6 q7 v8 k9 q10 v11 k12 q13 v14 k15 q16 v17 k18 q19 lo20 lo20_0 e21 hm
              ·
                refine yR_m 2 (fun _ _ _ _ => rfl) ?_
                refine wR_si rfl rfl (fun lo23 e24 f25 => ?_)
                have lo23_0 := f25 0 _ (by decide) (Or.inl rfl) l_0
                exact h2 q1 v2 k3 q4 v5 k6 q7 v8 k9 q10 v11 k12 q13 v14 k15 q16 v17 k18 q19 lo23 lo23_0 e24 hm
            ·
              refine yR_m 2 (fun _ _ _ _ => rfl) ?_
              refine wR_si rfl rfl (fun lo26 e27 f28 => ?_)
              have lo26_0 := f28 0 _ (by decide) (Or.inl rfl) l_0
              exact h3 q1 v2 k3 q4 v5 k6 q7 v8 k9 q10 v11 k12 q13 v14 k15 q16 lo26 lo26_0 e27 hm
          ·
            refine yR_m 2 (fun _ _ _ _ => rfl) ?_
            refine wR_si rfl rfl (fun lo29 e30 f31 => ?_)
            have lo29_0 := f31 0 _ (by decide) (Or.inl rfl) l_0
            exact h4 q1 v2 k3 q4 v5 k6 q7 v8 k9 q10 v11 k12 q13 lo29 lo29_0 e30 hm
        ·
          refine yR_m 2 (fun _ _ _ _ => rfl) ?_
          refine wR_si rfl rfl (fun lo32 e33 f34 => ?_)
          have lo32_0 := f34 0 _ (by decide) (Or.inl rfl) l_0
          exact h5 q1 v2 k3 q4 v5 k6 q7 v8 k9 q10 lo32 lo32_0 e33 hm
      ·
        refine yR_m 2 (fun _ _ _ _ => rfl) ?_
        refine wR_si rfl rfl (fun lo35 e36 f37 => ?_)
        have lo35_0 := f37 0 _ (by decide) (Or.inl rfl) l_0
        exact h6 q1 v2 k3 q4 v5 k6 q7 lo35 lo35_0 e36 hm
    ·
      refine yR_m 2 (fun _ _ _ _ => rfl) ?_
      refine wR_si rfl rfl (fun lo38 e39 f40 => ?_)
      have lo38_0 := f40 0 _ (by decide) (Or.inl rfl) l_0
      exact h7 q1 v2 k3 q4 lo38 lo38_0 e39 hm
  ·
    refine yR_m 2 (fun _ _ _ _ => rfl) ?_
    refine wR_si rfl rfl (fun lo41 e42 f43 => ?_)
    have lo41_0 := f43 0 _ (by decide) (Or.inl rfl) l_0
    exact h8 q1 lo41 lo41_0 e42 hm

theorem od_313 {l : List Fm} {lo : List (Nat × Value)} (hm : aTm aT0 mem) (h : PI mr mem fm l 0) (hb : ∀ f, l.head? = some f → f.2.2.2.1 = 0) (hs : s0 ≤ (gi mem 221 4).toInt) (a0 : zlg lo 0 = some (.ref 221)) : yR zpg tX12_operand (d + 5) (313, lo, [], mem) (odP mr fm s0) := by
  have pp := PI_pp hm h
  have hT := h.1.2.1
  obtain ⟨p1, p2, p3, p4, p6, p8, p9⟩ := pp
  exact w_od_313 hm a0 p1 p2 p3 p4 p6
        (fun q1 v2 k3 q4 v5 k6 q7 v8 k9 q10 v11 k12 q13 v14 k15 q16 v17 k18 q19 lo a0 a3 hm => od_412 hm h hb hs (by first | decide | omega) (by first | exact Or.inl rfl | exact Or.inr (by omega)) a0 a3)
        (fun q1 v2 k3 q4 v5 k6 q7 v8 k9 q10 v11 k12 q13 v14 k15 q16 v17 k18 q19 lo a0 a3 hm => od_412 hm h hb hs (by first | decide | omega) (by first | exact Or.inl rfl | exact Or.inr (by omega)) a0 a3)
        (fun q1 v2 k3 q4 v5 k6 q7 v8 k9 q10 v11 k12 q13 v14 k15 q16 lo a0 a3 hm => od_412 hm h hb hs (by first | decide | omega) (by first | exact Or.inl rfl | exact Or.inr (by omega)) a0 a3)
        (fun q1 v2 k3 q4 v5 k6 q7 v8 k9 q10 v11 k12 q13 lo a0 a3 hm => od_412 hm h hb hs (by first | decide | omega) (by first | exact Or.inl rfl | exact Or.inr (by omega)) a0 a3)
        (fun q1 v2 k3 q4 v5 k6 q7 v8 k9 q10 lo a0 a3 hm => od_412 hm h hb hs (by first | decide | omega) (by first | exact Or.inl rfl | exact Or.inr (by omega)) a0 a3)
        (fun q1 v2 k3 q4 v5 k6 q7 lo a0 a3 hm => od_412 hm h hb hs (by first | decide | omega) (by first | exact Or.inl rfl | exact Or.inr (by omega)) a0 a3)
        (fun q1 v2 k3 q4 lo a0 a3 hm => od_412 hm h hb hs (by first | decide | omega) (by first | exact Or.inl rfl | exact Or.inr (by omega)) a0 a3)
        (fun q1 lo a0 a3 hm => od_412 hm h hb hs (by first | decide | omega) (by first | exact Or.inl rfl | exact Or.inr (by omega)) a0 a3)
set_option maxRecDepth 100000 in
theorem w_od_276 {d : Nat} {mem : zM} {P : Option Value → zM → Prop} {wh : Int32} {lo : List (Nat × Value)} (hm : aTm aT0 mem) (l_0 : zlg lo 0 = some (.ref 221)) (l_3 : zlg lo 3 = some (.int wh)) (p1 : 1 ≤ (gi mem 221 41).toInt ∧ (gi mem 221 41).toInt ≤ 8) (p2 : 0 ≤ (gi mem 221 44).toInt ∧ (gi mem 221 44).toInt ≤ 60) (p3 : 0 ≤ (gi mem 221 33).toInt ∧ (gi mem 221 33).toInt ≤ 1599) (p4 : 0 ≤ (gi mem 221 42).toInt ∧ (gi mem 221 42).toInt ≤ 7) (p6 : (gi mem 221 5).toInt ≤ (gi mem 221 2).toInt) (s1 : ¬ (wh).toInt = 44 → tOK mem) (h1 : ¬ (wh).toInt = 44 → ∀ (m2 : zM), aTm aT0 m2 → (opQ 3 mem m2 ∧ (¬ (gi m2 221 8).toInt = 0 ∨ (gi m2 221 41).toInt = (gi mem 221 41).toInt + 1)) → ¬ (gi m2 221 8).toInt = 0 → aTm aT0 m2 → P (some (.int 0)) m2) (h2 : ¬ (wh).toInt = 44 → ∀ (m2 : zM), aTm aT0 m2 → (opQ 3 mem m2 ∧ (¬ (gi m2 221 8).toInt = 0 ∨ (gi m2 221 41).toInt = (gi mem 221 41).toInt + 1)) → (gi m2 221 8).toInt = 0 → ∀ (x5 : Int32), x5.toInt = ((gi m2 221 41).toInt - 1) → aTm aT0 (sx m2 245 x5 wh) → P (some (.int 0)) (sx m2 245 x5 wh)) (s2 : (wh).toInt = 44 → tOK mem) (h3 : (wh).toInt = 44 → ∀ (m7 : zM), aTm aT0 m7 → (opQ 6 mem m7 ∧ (¬ (gi m7 221 8).toInt = 0 ∨ (gi m7 221 41).toInt = (gi mem 221 41).toInt + 1)) → ¬ (gi m7 221 8).toInt = 0 → aTm aT0 m7 → P (some (.int 0)) m7) (h4 : (wh).toInt = 44 → ∀ (m7 : zM), aTm aT0 m7 → (opQ 6 mem m7 ∧ (¬ (gi m7 221 8).toInt = 0 ∨ (gi m7 221 41).toInt = (gi mem 221 41).toInt + 1)) → (gi m7 221 8).toInt = 0 → ∀ (x10 : Int32), x10.toInt = ((gi m7 221 41).toInt - 1) → aTm aT0 (sx m7 245 x10 wh) → P (some (.int 0)) (sx m7 245 x10 wh)) : yR zpg tX12_operand (d + 5) (276, lo, [], mem) P := by
  obtain ⟨i0, i1⟩ := mO_r34 hm
  refine wR_la rfl l_0 ?_
  refine wR_li rfl l_3 ?_
  refine yR_m 1 (fun _ _ _ _ => rfl) ?_
  refine wR_ic_ne rfl (a := (wh).toInt) (c := 44) rfl rfl (fun q1 => ?_) (fun q1 => ?_)
  ·
    refine yR_m 1 (fun _ _ _ _ => rfl) ?_
    refine wR_cv rfl rfl mO_e hm rfl (h_opens2 hm (s1 q1) (by omega) rfl rfl (by omega) (by omega)) ?_
    rintro _ m2 ⟨rfl, hI2, k3⟩
    show yR zpg tX12_operand (d + 5) (292, lo, [], m2) _
    refine wR_la rfl l_0 ?_
    refine wR_gi rfl mO_e mO_8 hI2 rfl ?_
    refine wR_if_ne rfl (a := (gi m2 221 8).toInt) rfl (fun q4 => ?_) (fun q4 => ?_)
    ·
      refine yR_m 1 (fun _ _ _ _ => rfl) ?_
      exact yR_rz rfl ⟨by decide, by decide⟩ (h1 q1 m2 hI2 k3 q4 hI2)
    ·
      refine wR_la rfl l_0 ?_
      refine wR_gr rfl mO_e mO_39 hI2 ?_
      refine wR_la rfl l_0 ?_
      refine wR_gi rfl mO_e mO_41 hI2 rfl ?_
      refine yR_m 1 (fun _ _ _ _ => rfl) ?_
      refine wN_sub (a := (gi m2 221 41).toInt) (b := 1) rfl rfl rfl (by omega) (fun x5 e6 => ?_)
      refine wR_li rfl l_3 ?_
      refine wN_as (a := ((gi m2 221 41).toInt - 1)) rfl aR_245 hI2 e6 (by omega) ?_
      have hm_1 : aTm aT0 (sx m2 245 x5 wh) := tm_sa aR_245 hI2 (i32_b _)
      refine yR_m 1 (fun _ _ _ _ => rfl) ?_
      exact yR_rz rfl ⟨by decide, by decide⟩ (h2 q1 m2 hI2 k3 q4 x5 e6 hm_1)
  ·
    refine yR_m 2 (fun _ _ _ _ => rfl) ?_
    refine wR_cv rfl rfl mO_e hm rfl (h_opens2 hm (s2 q1) (by omega) rfl rfl (by omega) (by omega)) ?_
    rintro _ m7 ⟨rfl, hI7, k8⟩
    show yR zpg tX12_operand (d + 5) (292, lo, [], m7) _
    refine wR_la rfl l_0 ?_
    refine wR_gi rfl mO_e mO_8 hI7 rfl ?_
    refine wR_if_ne rfl (a := (gi m7 221 8).toInt) rfl (fun q9 => ?_) (fun q9 => ?_)
    ·
      refine yR_m 1 (fun _ _ _ _ => rfl) ?_
      exact yR_rz rfl ⟨by decide, by decide⟩ (h3 q1 m7 hI7 k8 q9 hI7)
    ·
      refine wR_la rfl l_0 ?_
      refine wR_gr rfl mO_e mO_39 hI7 ?_
      refine wR_la rfl l_0 ?_
      refine wR_gi rfl mO_e mO_41 hI7 rfl ?_
      refine yR_m 1 (fun _ _ _ _ => rfl) ?_
      refine wN_sub (a := (gi m7 221 41).toInt) (b := 1) rfl rfl rfl (by omega) (fun x10 e11 => ?_)
      refine wR_li rfl l_3 ?_
      refine wN_as (a := ((gi m7 221 41).toInt - 1)) rfl aR_245 hI7 e11 (by omega) ?_
      have hm_2 : aTm aT0 (sx m7 245 x10 wh) := tm_sa aR_245 hI7 (i32_b _)
      refine yR_m 1 (fun _ _ _ _ => rfl) ?_
      exact yR_rz rfl ⟨by decide, by decide⟩ (h4 q1 m7 hI7 k8 q9 x10 e11 hm_2)

theorem od_276 {l : List Fm} {m : zM} {wh : Int32} {lo : List (Nat × Value)} (hm0 : aTm aT0 mem) (h : PI mr mem fm l 0) (hb : ∀ f, l.head? = some f → f.2.2.2.1 = 0) (hs : s0 ≤ (gi mem 221 4).toInt) (hw : wh.toInt = 36 ∨ wh.toInt = 37 ∨ wh.toInt = 44) (hm : aTm aT0 m) (F : fr [] [3, 4, 5, 6, 7, 8, 9, 12] mem m) (hT : tOK m) (gt : (gi mem 221 4).toInt < (gi m 221 4).toInt) (a0 : zlg lo 0 = some (.ref 221)) (a3 : zlg lo 3 = some (.int wh)) : yR zpg tX12_operand (d + 5) (276, lo, [], m) (odP mr fm s0) := by
  have pp := PI_pp hm0 h
  have E41 : gi m 221 41 = gi mem 221 41 := fr_gi F rfl
  have E42 : gi m 221 42 = gi mem 221 42 := fr_gi F rfl
  have E44 : gi m 221 44 = gi mem 221 44 := fr_gi F rfl
  have E33 : gi m 221 33 = gi mem 221 33 := fr_gi F rfl
  have t := hT.1.1
  have hT8 : 0 ≤ (gi m 221 8).toInt := hT.2
  obtain ⟨p1, p2, p3, p4, p6, p8, p9⟩ := pp
  rw [← E41] at p1
  rw [← E44] at p2
  rw [← E33] at p3
  rw [← E42] at p4
  exact w_od_276 hm a0 a3 p1 p2 p3 p4 (by omega)
        (fun q1 => hT)
        (fun q1 m2 hI2 k3 q4 hm2 => od_q hm2 (kB_tr h.1.1 (kB_fr F rfl rfl rfl rfl rfl rfl rfl rfl)) k3.1 (by omega) (by decide))
        (fun q1 m2 hI2 k3 q4 x5 e6 hm2 => by
          have z8 : (gi m2 221 8).toInt = 0 := by omega
          have E41' := congrArg Int32.toInt E41
          have gg : ga (sx m2 245 x5 wh) 245 = (ga m2 245).set (x5).toNatClampNeg wh := ga_sa_eq
          have gl := gl_245 hI2
          have xe : (x5).toInt = (gi mem 221 41).toInt := by omega
          have le := k3.1.2.2.1
          have vv : gn (ga (sx m2 245 x5 wh) 245) (gi mem 221 41).toInt = wh.toInt := by rw [gg, gn_set xe (by omega) (by omega) (by omega), if_pos rfl]
          refine od_p hm2 (by decide) hs ⟨_, PI_opn hm0 h hb F k3.1 z8 (fr_sa rfl fr_rf) (fun i i0 i1 => by rw [gg, gn_set xe (by omega) (by omega) i0, if_neg (by omega)]) (by decide) (fun w => by rw [vv]; omega) (fun w => by rw [vv]; omega) (ar_3 (by rw [vv]; omega)) (by omega), by rw [gi_sa]; omega⟩)
        (fun q1 => hT)
        (fun q1 m7 hI7 k8 q9 hm2 => od_q hm2 (kB_tr h.1.1 (kB_fr F rfl rfl rfl rfl rfl rfl rfl rfl)) k8.1 (by omega) (by decide))
        (fun q1 m7 hI7 k8 q9 x10 e11 hm2 => by
          have z8 : (gi m7 221 8).toInt = 0 := by omega
          have E41' := congrArg Int32.toInt E41
          have gg : ga (sx m7 245 x10 wh) 245 = (ga m7 245).set (x10).toNatClampNeg wh := ga_sa_eq
          have gl := gl_245 hI7
          have xe : (x10).toInt = (gi mem 221 41).toInt := by omega
          have le := k8.1.2.2.1
          have vv : gn (ga (sx m7 245 x10 wh) 245) (gi mem 221 41).toInt = wh.toInt := by rw [gg, gn_set xe (by omega) (by omega) (by omega), if_pos rfl]
          refine od_p hm2 (by decide) hs ⟨_, PI_opn hm0 h hb F k8.1 z8 (fr_sa rfl fr_rf) (fun i i0 i1 => by rw [gg, gn_set xe (by omega) (by omega) i0, if_neg (by omega)]) (by decide) (fun w => by rw [vv]; omega) (fun w => by rw [vv]; omega) (ar_6) (by omega), by rw [gi_sa]; omega⟩)
set_option maxRecDepth 100000 in
theorem w_od_258 {d : Nat} {mem : zM} {P : Option Value → zM → Prop} {wh : Int32} {lo : List (Nat × Value)} (hm : aTm aT0 mem) (l_0 : zlg lo 0 = some (.ref 221)) (l_3 : zlg lo 3 = some (.int wh)) (p1 : 1 ≤ (gi mem 221 41).toInt ∧ (gi mem 221 41).toInt ≤ 8) (p2 : 0 ≤ (gi mem 221 44).toInt ∧ (gi mem 221 44).toInt ≤ 60) (p3 : 0 ≤ (gi mem 221 33).toInt ∧ (gi mem 221 33).toInt ≤ 1599) (p4 : 0 ≤ (gi mem 221 42).toInt ∧ (gi mem 221 42).toInt ≤ 7) (p6 : (gi mem 221 5).toInt ≤ (gi mem 221 2).toInt) (h1 : ∀ (v1 : Int32), (v1.toInt = 0 ∨ (v1.toInt = 1 ∧ ¬ (gi mem 221 3).toInt = 0)) → ¬ (v1).toInt = 0 → ∀ lo, zlg lo 0 = some (.ref 221) → zlg lo 3 = some (.int wh) → aTm aT0 mem → yR zpg tX12_operand (d + 5) (276, lo, [], mem) P) (h2 : ∀ (v1 : Int32), (v1.toInt = 0 ∨ (v1.toInt = 1 ∧ ¬ (gi mem 221 3).toInt = 0)) → (v1).toInt = 0 → (gi mem 221 8).toInt ≤ 0 → ∀ lo, zlg lo 0 = some (.ref 221) → zlg lo 3 = some (.int wh) → aTm aT0 (si (si mem 221 8 1) 221 9 (gi mem 221 4)) → yR zpg tX12_operand (d + 5) (276, lo, [], (si (si mem 221 8 1) 221 9 (gi mem 221 4))) P) (h3 : ∀ (v1 : Int32), (v1.toInt = 0 ∨ (v1.toInt = 1 ∧ ¬ (gi mem 221 3).toInt = 0)) → (v1).toInt = 0 → 0 < (gi mem 221 8).toInt → ∀ lo, zlg lo 0 = some (.ref 221) → zlg lo 3 = some (.int wh) → aTm aT0 mem → yR zpg tX12_operand (d + 5) (276, lo, [], mem) P) : yR zpg tX12_operand (d + 5) (258, lo, [], mem) P := by
  obtain ⟨i0, i1⟩ := mO_r34 hm
  refine wR_la rfl l_0 ?_
  refine yR_m 1 (fun _ _ _ _ => rfl) ?_
  refine wR_cv rfl rfl mO_e hm rfl (c_isSign hm rfl (by omega)) ?_
  rintro _ _ ⟨v1, rfl, rfl, k2⟩
  show yR zpg tX12_operand (d + 5) (264, lo, [.int v1], mem) _
  refine wR_if_ne rfl (a := (v1).toInt) rfl (fun q3 => ?_) (fun q3 => ?_)
  ·
    exact h1 v1 k2 q3 lo l_0 l_3 hm
  ·
    refine wR_la rfl l_0 ?_
    refine yR_m 1 (fun _ _ _ _ => rfl) ?_
    refine wR_la rfl l_0 ?_
    refine wR_gi rfl mO_e mO_4 hm rfl ?_
    refine wR_iv rfl rfl mO_e hm rfl rfl rfl rfl ?_
    show yR zpg tX12_blame (d + 4) (0, [(0, .ref 221), (1, .int 1), (2, .int (gi mem 221 4))], [], mem) _
    refine yR_m 1 (fun _ _ _ _ => rfl) ?_
    refine wR_gi rfl mO_e mO_8 hm rfl ?_
    refine wR_if_le rfl (a := (gi mem 221 8).toInt) rfl (fun q4 => ?_) (fun q4 => ?_)
    ·
      refine yR_m 2 (fun _ _ _ _ => rfl) ?_
      refine wR_pi rfl mO_e mO_8 hm rfl ?_
      have hm_1 : aTm aT0 (si mem 221 8 1) := tm_si mO_e mO_8 hm (i32_b _)
      refine yR_m 2 (fun _ _ _ _ => rfl) ?_
      refine wR_pi rfl mO_e mO_9 hm_1 rfl ?_
      have hm_2 : aTm aT0 (si (si mem 221 8 1) 221 9 (gi mem 221 4)) := tm_si mO_e mO_9 hm_1 (i32_b _)
      refine yR_rv rfl ?_
      show yR zpg tX12_operand (d + 5) (276, lo, [], (si (si mem 221 8 1) 221 9 (gi mem 221 4))) _
      exact h2 v1 k2 q3 q4 lo l_0 l_3 hm_2
    ·
      refine yR_rv rfl ?_
      show yR zpg tX12_operand (d + 5) (276, lo, [], mem) _
      exact h3 v1 k2 q3 q4 lo l_0 l_3 hm

theorem od_258 {l : List Fm} {m : zM} {wh : Int32} {lo : List (Nat × Value)} (hm0 : aTm aT0 mem) (h : PI mr mem fm l 0) (hb : ∀ f, l.head? = some f → f.2.2.2.1 = 0) (hs : s0 ≤ (gi mem 221 4).toInt) (hw : wh.toInt = 36 ∨ wh.toInt = 37 ∨ wh.toInt = 44) (hm : aTm aT0 m) (F : fr [] [3, 4, 5, 6, 7, 8, 9, 12] mem m) (hT : tOK m) (gt : (gi mem 221 4).toInt < (gi m 221 4).toInt) (a0 : zlg lo 0 = some (.ref 221)) (a3 : zlg lo 3 = some (.int wh)) : yR zpg tX12_operand (d + 5) (258, lo, [], m) (odP mr fm s0) := by
  have pp := PI_pp hm0 h
  have E41 : gi m 221 41 = gi mem 221 41 := fr_gi F rfl
  have E42 : gi m 221 42 = gi mem 221 42 := fr_gi F rfl
  have E44 : gi m 221 44 = gi mem 221 44 := fr_gi F rfl
  have E33 : gi m 221 33 = gi mem 221 33 := fr_gi F rfl
  have t := hT.1.1
  have hT8 : 0 ≤ (gi m 221 8).toInt := hT.2
  obtain ⟨p1, p2, p3, p4, p6, p8, p9⟩ := pp
  rw [← E41] at p1
  rw [← E44] at p2
  rw [← E33] at p3
  rw [← E42] at p4
  exact w_od_258 hm a0 a3 p1 p2 p3 p4 (by omega)
        (fun v1 k2 q3 lo a0 a3 hm => od_276 hm0 h hb hs hw hm F hT gt a0 a3)
        (fun v1 k2 q3 q4 lo a0 a3 hm2 => od_276 hm0 h hb hs hw hm2 (fr_tr F (fr_sv rfl (fr_sv rfl (fr_rf)))) (tOK_fr (ks := []) (is := [8, 9]) (fr_sv rfl (fr_sv rfl (fr_rf))) rfl rfl rfl rfl (by show 0 ≤ (gi _ 221 8).toInt; rw [((gi_sv_ne (by decide)).trans (gi_eqO (isO_of hm) (by decide)))]; decide) hT) (by rw [((gi_sv_ne (by decide)).trans (gi_sv_ne (by decide)))]; exact gt) a0 a3)
        (fun v1 k2 q3 q4 lo a0 a3 hm => od_276 hm0 h hb hs hw hm F hT gt a0 a3)
set_option maxRecDepth 100000 in
theorem w_od_250 {d : Nat} {mem : zM} {P : Option Value → zM → Prop} {wh : Int32} {lo : List (Nat × Value)} (hm : aTm aT0 mem) (l_0 : zlg lo 0 = some (.ref 221)) (l_3 : zlg lo 3 = some (.int wh)) (p1 : 1 ≤ (gi mem 221 41).toInt ∧ (gi mem 221 41).toInt ≤ 8) (p2 : 0 ≤ (gi mem 221 44).toInt ∧ (gi mem 221 44).toInt ≤ 60) (p3 : 0 ≤ (gi mem 221 33).toInt ∧ (gi mem 221 33).toInt ≤ 1599) (p4 : 0 ≤ (gi mem 221 42).toInt ∧ (gi mem 221 42).toInt ≤ 7) (p6 : (gi mem 221 5).toInt ≤ (gi mem 221 2).toInt) (h1 : ∀ (m1 : zM), aTm aT0 m1 → (ahQ mem m1 ∧ (gi m1 221 41).toInt = (gi mem 221 41).toInt ∧ (gi m1 221 42).toInt = (gi mem 221 42).toInt ∧ (gi m1 221 44).toInt = (gi mem 221 44).toInt ∧ (gi m1 221 33).toInt = (gi mem 221 33).toInt ∧ (gi m1 221 8).toInt = (gi mem 221 8).toInt ∧ (gi mem 221 5).toInt ≤ (gi m1 221 4).toInt ∧ (gi m1 221 4).toInt ≤ (gi m1 221 5).toInt ∧ (gi m1 221 5).toInt ≤ (gi m1 221 2).toInt) → (gi m1 221 12).toInt = (-1) → ∀ lo, zlg lo 0 = some (.ref 221) → zlg lo 3 = some (.int wh) → aTm aT0 m1 → yR zpg tX12_operand (d + 5) (258, lo, [], m1) P) (h2 : ∀ (m1 : zM), aTm aT0 m1 → (ahQ mem m1 ∧ (gi m1 221 41).toInt = (gi mem 221 41).toInt ∧ (gi m1 221 42).toInt = (gi mem 221 42).toInt ∧ (gi m1 221 44).toInt = (gi mem 221 44).toInt ∧ (gi m1 221 33).toInt = (gi mem 221 33).toInt ∧ (gi m1 221 8).toInt = (gi mem 221 8).toInt ∧ (gi mem 221 5).toInt ≤ (gi m1 221 4).toInt ∧ (gi m1 221 4).toInt ≤ (gi m1 221 5).toInt ∧ (gi m1 221 5).toInt ≤ (gi m1 221 2).toInt) → ¬ (gi m1 221 12).toInt = (-1) → (gi m1 221 8).toInt ≤ 0 → ∀ lo, zlg lo 0 = some (.ref 221) → zlg lo 3 = some (.int wh) → aTm aT0 (si (si m1 221 8 1) 221 9 (gi m1 221 12)) → yR zpg tX12_operand (d + 5) (258, lo, [], (si (si m1 221 8 1) 221 9 (gi m1 221 12))) P) (h3 : ∀ (m1 : zM), aTm aT0 m1 → (ahQ mem m1 ∧ (gi m1 221 41).toInt = (gi mem 221 41).toInt ∧ (gi m1 221 42).toInt = (gi mem 221 42).toInt ∧ (gi m1 221 44).toInt = (gi mem 221 44).toInt ∧ (gi m1 221 33).toInt = (gi mem 221 33).toInt ∧ (gi m1 221 8).toInt = (gi mem 221 8).toInt ∧ (gi mem 221 5).toInt ≤ (gi m1 221 4).toInt ∧ (gi m1 221 4).toInt ≤ (gi m1 221 5).toInt ∧ (gi m1 221 5).toInt ≤ (gi m1 221 2).toInt) → ¬ (gi m1 221 12).toInt = (-1) → 0 < (gi m1 221 8).toInt → ∀ lo, zlg lo 0 = some (.ref 221) → zlg lo 3 = some (.int wh) → aTm aT0 m1 → yR zpg tX12_operand (d + 5) (258, lo, [], m1) P) : yR zpg tX12_operand (d + 5) (250, lo, [], mem) P := by
  obtain ⟨i0, i1⟩ := mO_r34 hm
  refine wR_la rfl l_0 ?_
  refine wR_cv rfl rfl mO_e hm rfl (h_ahead3 (by omega) hm rfl rfl (by omega) rfl rfl rfl rfl rfl) ?_
  rintro _ m1 ⟨rfl, hI1, k2⟩
  show yR zpg tX12_operand (d + 5) (254, lo, [], m1) _
  refine wR_la rfl l_0 ?_
  refine wR_iv rfl rfl mO_e hI1 rfl rfl rfl rfl ?_
  show yR zpg tX12_lex (d + 4) (0, [(0, .ref 221)], [], m1) _
  refine yR_m 1 (fun _ _ _ _ => rfl) ?_
  refine wR_gi rfl mO_e mO_12 hI1 rfl ?_
  refine yR_m 1 (fun _ _ _ _ => rfl) ?_
  refine wR_ic_eq rfl (a := (gi m1 221 12).toInt) (c := (-1)) rfl tm1 (fun q3 => ?_) (fun q3 => ?_)
  ·
    refine yR_rv rfl ?_
    show yR zpg tX12_operand (d + 5) (258, lo, [], m1) _
    exact h1 m1 hI1 k2 q3 lo l_0 l_3 hI1
  ·
    refine yR_m 3 (fun _ _ _ _ => rfl) ?_
    refine wR_gi rfl mO_e mO_12 hI1 rfl ?_
    refine wR_iv rfl rfl mO_e hI1 rfl rfl rfl rfl ?_
    show yR zpg tX12_blame (d + 3) (0, [(0, .ref 221), (1, .int 1), (2, .int (gi m1 221 12))], [], m1) _
    refine yR_m 1 (fun _ _ _ _ => rfl) ?_
    refine wR_gi rfl mO_e mO_8 hI1 rfl ?_
    refine wR_if_le rfl (a := (gi m1 221 8).toInt) rfl (fun q4 => ?_) (fun q4 => ?_)
    ·
      refine yR_m 2 (fun _ _ _ _ => rfl) ?_
      refine wR_pi rfl mO_e mO_8 hI1 rfl ?_
      have hm_1 : aTm aT0 (si m1 221 8 1) := tm_si mO_e mO_8 hI1 (i32_b _)
      refine yR_m 2 (fun _ _ _ _ => rfl) ?_
      refine wR_pi rfl mO_e mO_9 hm_1 rfl ?_
      have hm_2 : aTm aT0 (si (si m1 221 8 1) 221 9 (gi m1 221 12)) := tm_si mO_e mO_9 hm_1 (i32_b _)
      refine yR_rv rfl ?_
      show yR zpg tX12_lex (d + 4) (17, [(0, .ref 221)], [], (si (si m1 221 8 1) 221 9 (gi m1 221 12))) _
      refine yR_rv rfl ?_
      show yR zpg tX12_operand (d + 5) (258, lo, [], (si (si m1 221 8 1) 221 9 (gi m1 221 12))) _
      exact h2 m1 hI1 k2 q3 q4 lo l_0 l_3 hm_2
    ·
      refine yR_rv rfl ?_
      show yR zpg tX12_lex (d + 4) (17, [(0, .ref 221)], [], m1) _
      refine yR_rv rfl ?_
      show yR zpg tX12_operand (d + 5) (258, lo, [], m1) _
      exact h3 m1 hI1 k2 q3 q4 lo l_0 l_3 hI1

theorem od_250 {l : List Fm} {wh : Int32} {lo : List (Nat × Value)} (hm : aTm aT0 mem) (h : PI mr mem fm l 0) (hb : ∀ f, l.head? = some f → f.2.2.2.1 = 0) (hs : s0 ≤ (gi mem 221 4).toInt) (hw : wh.toInt = 36 ∨ wh.toInt = 37 ∨ wh.toInt = 44) (sg : ¬ (gi mem 221 3).toInt = 0) (a0 : zlg lo 0 = some (.ref 221)) (a3 : zlg lo 3 = some (.int wh)) : yR zpg tX12_operand (d + 5) (250, lo, [], mem) (odP mr fm s0) := by
  have pp := PI_pp hm h
  have hT := h.1.2.1
  obtain ⟨p1, p2, p3, p4, p6, p8, p9⟩ := pp
  exact w_od_250 hm a0 a3 p1 p2 p3 p4 p6
        (fun m1 hI1 k2 q3 lo a0 a3 hm2 => by
          have F1 : fr [] [3, 4, 5, 6, 7, 8, 9, 12] mem m1 := fr_up k2.1.1 rfl rfl
          have T1 : tOK m1 := ⟨k2.1.2.1, by show 0 ≤ (gi m1 221 8).toInt; omega⟩
          have g1 := ah_gt k2.1 hT rfl sg
          exact od_258 hm h hb hs hw hm2 F1 T1 g1 a0 a3)
        (fun m1 hI1 k2 q3 q4 lo a0 a3 hm2 => by
          have F1 : fr [] [3, 4, 5, 6, 7, 8, 9, 12] mem m1 := fr_up k2.1.1 rfl rfl
          have T1 : tOK m1 := ⟨k2.1.2.1, by show 0 ≤ (gi m1 221 8).toInt; omega⟩
          have g1 := ah_gt k2.1 hT rfl sg
          exact od_258 hm h hb hs hw hm2 (fr_tr F1 (fr_sv rfl (fr_sv rfl (fr_rf)))) (tOK_fr (ks := []) (is := [8, 9]) (fr_sv rfl (fr_sv rfl (fr_rf))) rfl rfl rfl rfl (by show 0 ≤ (gi (si (si m1 221 8 1) 221 9 (gi m1 221 12)) 221 8).toInt; rw [((gi_sv_ne (by decide)).trans (gi_eqO (isO_of hI1) (by decide)))]; decide) T1) (by rw [((gi_sv_ne (by decide)).trans (gi_sv_ne (by decide)))]; exact g1) a0 a3)
        (fun m1 hI1 k2 q3 q4 lo a0 a3 hm2 => by
          have F1 : fr [] [3, 4, 5, 6, 7, 8, 9, 12] mem m1 := fr_up k2.1.1 rfl rfl
          have T1 : tOK m1 := ⟨k2.1.2.1, by show 0 ≤ (gi m1 221 8).toInt; omega⟩
          have g1 := ah_gt k2.1 hT rfl sg
          exact od_258 hm h hb hs hw hm2 F1 T1 g1 a0 a3)
set_option maxRecDepth 100000 in
theorem w_od_217 {d : Nat} {mem : zM} {P : Option Value → zM → Prop} {lo : List (Nat × Value)} (hm : aTm aT0 mem) (l_0 : zlg lo 0 = some (.ref 221)) (p1 : 1 ≤ (gi mem 221 41).toInt ∧ (gi mem 221 41).toInt ≤ 8) (p2 : 0 ≤ (gi mem 221 44).toInt ∧ (gi mem 221 44).toInt ≤ 60) (p3 : 0 ≤ (gi mem 221 33).toInt ∧ (gi mem 221 33).toInt ≤ 1599) (p4 : 0 ≤ (gi mem 221 42).toInt ∧ (gi mem 221 42).toInt ≤ 7) (p6 : (gi mem 221 5).toInt ≤ (gi mem 221 2).toInt) (h1 : ∀ (v1 : Int32), (v1.toInt = 0 ∨ (v1.toInt = 1 ∧ ¬ (gi mem 221 3).toInt = 0)) → (v1).toInt = 0 → ∀ (v4 : Int32), (v4.toInt = 0 ∨ (v4.toInt = 1 ∧ ¬ (gi mem 221 3).toInt = 0)) → (v4).toInt = 0 → ∀ lo, zlg lo 0 = some (.ref 221) → zlg lo 3 = some (.int 44) → aTm aT0 mem → yR zpg tX12_operand (d + 5) (250, lo, [], mem) P) (h2 : ∀ (v1 : Int32), (v1.toInt = 0 ∨ (v1.toInt = 1 ∧ ¬ (gi mem 221 3).toInt = 0)) → (v1).toInt = 0 → ∀ (v4 : Int32), (v4.toInt = 0 ∨ (v4.toInt = 1 ∧ ¬ (gi mem 221 3).toInt = 0)) → ¬ (v4).toInt = 0 → ∀ lo, zlg lo 0 = some (.ref 221) → zlg lo 3 = some (.int 37) → aTm aT0 mem → yR zpg tX12_operand (d + 5) (250, lo, [], mem) P) (h3 : ∀ (v1 : Int32), (v1.toInt = 0 ∨ (v1.toInt = 1 ∧ ¬ (gi mem 221 3).toInt = 0)) → ¬ (v1).toInt = 0 → ∀ lo, zlg lo 0 = some (.ref 221) → zlg lo 3 = some (.int 36) → aTm aT0 mem → yR zpg tX12_operand (d + 5) (250, lo, [], mem) P) : yR zpg tX12_operand (d + 5) (217, lo, [], mem) P := by
  obtain ⟨i0, i1⟩ := mO_r34 hm
  refine wR_la rfl l_0 ?_
  refine yR_m 1 (fun _ _ _ _ => rfl) ?_
  refine wR_cv rfl rfl mO_e hm rfl (c_isWord hm rfl (by omega)) ?_
  rintro _ _ ⟨v1, rfl, rfl, k2⟩
  show yR zpg tX12_operand (d + 5) (224, lo, [.int v1], mem) _
  refine wR_if_eq rfl (a := (v1).toInt) rfl (fun q3 => ?_) (fun q3 => ?_)
  ·
    refine wR_la rfl l_0 ?_
    refine yR_m 1 (fun _ _ _ _ => rfl) ?_
    refine wR_cv rfl rfl mO_e hm rfl (c_isWord hm rfl (by omega)) ?_
    rintro _ _ ⟨v4, rfl, rfl, k5⟩
    show yR zpg tX12_operand (d + 5) (239, lo, [.int v4], mem) _
    refine wR_if_eq rfl (a := (v4).toInt) rfl (fun q6 => ?_) (fun q6 => ?_)
    ·
      refine yR_m 1 (fun _ _ _ _ => rfl) ?_
      refine wR_si rfl rfl (fun lo7 e8 f9 => ?_)
      have lo7_0 := f9 0 _ (by decide) (Or.inl rfl) l_0
      exact h1 v1 k2 q3 v4 k5 q6 lo7 lo7_0 e8 hm
    ·
      refine yR_m 2 (fun _ _ _ _ => rfl) ?_
      refine wR_si rfl rfl (fun lo10 e11 f12 => ?_)
      have lo10_0 := f12 0 _ (by decide) (Or.inl rfl) l_0
      exact h2 v1 k2 q3 v4 k5 q6 lo10 lo10_0 e11 hm
  ·
    refine yR_m 2 (fun _ _ _ _ => rfl) ?_
    refine wR_si rfl rfl (fun lo13 e14 f15 => ?_)
    have lo13_0 := f15 0 _ (by decide) (Or.inl rfl) l_0
    exact h3 v1 k2 q3 lo13 lo13_0 e14 hm

theorem od_217 {l : List Fm} {lo : List (Nat × Value)} (hm : aTm aT0 mem) (h : PI mr mem fm l 0) (hb : ∀ f, l.head? = some f → f.2.2.2.1 = 0) (hs : s0 ≤ (gi mem 221 4).toInt) (sg : ¬ (gi mem 221 3).toInt = 0) (a0 : zlg lo 0 = some (.ref 221)) : yR zpg tX12_operand (d + 5) (217, lo, [], mem) (odP mr fm s0) := by
  have pp := PI_pp hm h
  have hT := h.1.2.1
  obtain ⟨p1, p2, p3, p4, p6, p8, p9⟩ := pp
  exact w_od_217 hm a0 p1 p2 p3 p4 p6
        (fun v1 k2 q3 v4 k5 q6 lo a0 a3 hm => od_250 hm h hb hs (by decide) sg a0 a3)
        (fun v1 k2 q3 v4 k5 q6 lo a0 a3 hm => od_250 hm h hb hs (by decide) sg a0 a3)
        (fun v1 k2 q3 lo a0 a3 hm => od_250 hm h hb hs (by decide) sg a0 a3)
set_option maxRecDepth 100000 in
theorem w_od_187 {d : Nat} {mem : zM} {P : Option Value → zM → Prop} {lo : List (Nat × Value)} (hm : aTm aT0 mem) (l_0 : zlg lo 0 = some (.ref 221)) (p1 : 1 ≤ (gi mem 221 41).toInt ∧ (gi mem 221 41).toInt ≤ 8) (p2 : 0 ≤ (gi mem 221 44).toInt ∧ (gi mem 221 44).toInt ≤ 60) (p3 : 0 ≤ (gi mem 221 33).toInt ∧ (gi mem 221 33).toInt ≤ 1599) (p4 : 0 ≤ (gi mem 221 42).toInt ∧ (gi mem 221 42).toInt ≤ 7) (p6 : (gi mem 221 5).toInt ≤ (gi mem 221 2).toInt) (h1 : ∀ (v1 : Int32), (v1.toInt = 0 ∨ (v1.toInt = 1 ∧ ¬ (gi mem 221 3).toInt = 0)) → ¬ (v1).toInt = 0 → ∀ lo, zlg lo 0 = some (.ref 221) → aTm aT0 mem → yR zpg tX12_operand (d + 5) (217, lo, [], mem) P) (h2 : ∀ (v1 : Int32), (v1.toInt = 0 ∨ (v1.toInt = 1 ∧ ¬ (gi mem 221 3).toInt = 0)) → (v1).toInt = 0 → ∀ (v4 : Int32), (v4.toInt = 0 ∨ (v4.toInt = 1 ∧ ¬ (gi mem 221 3).toInt = 0)) → ¬ (v4).toInt = 0 → ∀ lo, zlg lo 0 = some (.ref 221) → aTm aT0 mem → yR zpg tX12_operand (d + 5) (217, lo, [], mem) P) (h3 : ∀ (v1 : Int32), (v1.toInt = 0 ∨ (v1.toInt = 1 ∧ ¬ (gi mem 221 3).toInt = 0)) → (v1).toInt = 0 → ∀ (v4 : Int32), (v4.toInt = 0 ∨ (v4.toInt = 1 ∧ ¬ (gi mem 221 3).toInt = 0)) → (v4).toInt = 0 → ∀ (v7 : Int32), (v7.toInt = 0 ∨ (v7.toInt = 1 ∧ ¬ (gi mem 221 3).toInt = 0)) → (v7).toInt = 0 → ∀ lo, zlg lo 0 = some (.ref 221) → aTm aT0 mem → yR zpg tX12_operand (d + 5) (313, lo, [], mem) P) (h4 : ∀ (v1 : Int32), (v1.toInt = 0 ∨ (v1.toInt = 1 ∧ ¬ (gi mem 221 3).toInt = 0)) → (v1).toInt = 0 → ∀ (v4 : Int32), (v4.toInt = 0 ∨ (v4.toInt = 1 ∧ ¬ (gi mem 221 3).toInt = 0)) → (v4).toInt = 0 → ∀ (v7 : Int32), (v7.toInt = 0 ∨ (v7.toInt = 1 ∧ ¬ (gi mem 221 3).toInt = 0)) → ¬ (v7).toInt = 0 → ∀ lo, zlg lo 0 = some (.ref 221) → aTm aT0 mem → yR zpg tX12_operand (d + 5) (217, lo, [], mem) P) : yR zpg tX12_operand (d + 5) (187, lo, [], mem) P := by
  obtain ⟨i0, i1⟩ := mO_r34 hm
  refine wR_la rfl l_0 ?_
  refine yR_m 1 (fun _ _ _ _ => rfl) ?_
  refine wR_cv rfl rfl mO_e hm rfl (c_isWord hm rfl (by omega)) ?_
  rintro _ _ ⟨v1, rfl, rfl, k2⟩
  show yR zpg tX12_operand (d + 5) (194, lo, [.int v1], mem) _
  refine wR_if_ne rfl (a := (v1).toInt) rfl (fun q3 => ?_) (fun q3 => ?_)
  ·
    exact h1 v1 k2 q3 lo l_0 hm
  ·
    refine wR_la rfl l_0 ?_
    refine yR_m 1 (fun _ _ _ _ => rfl) ?_
    refine wR_cv rfl rfl mO_e hm rfl (c_isWord hm rfl (by omega)) ?_
    rintro _ _ ⟨v4, rfl, rfl, k5⟩
    show yR zpg tX12_operand (d + 5) (204, lo, [.int v4], mem) _
    refine wR_if_ne rfl (a := (v4).toInt) rfl (fun q6 => ?_) (fun q6 => ?_)
    ·
      exact h2 v1 k2 q3 v4 k5 q6 lo l_0 hm
    ·
      refine wR_la rfl l_0 ?_
      refine yR_m 1 (fun _ _ _ _ => rfl) ?_
      refine wR_cv rfl rfl mO_e hm rfl (c_isWord hm rfl (by omega)) ?_
      rintro _ _ ⟨v7, rfl, rfl, k8⟩
      show yR zpg tX12_operand (d + 5) (214, lo, [.int v7], mem) _
      refine wR_if_eq rfl (a := (v7).toInt) rfl (fun q9 => ?_) (fun q9 => ?_)
      ·
        exact h3 v1 k2 q3 v4 k5 q6 v7 k8 q9 lo l_0 hm
      ·
        exact h4 v1 k2 q3 v4 k5 q6 v7 k8 q9 lo l_0 hm

theorem od_187 {l : List Fm} {lo : List (Nat × Value)} (hm : aTm aT0 mem) (h : PI mr mem fm l 0) (hb : ∀ f, l.head? = some f → f.2.2.2.1 = 0) (hs : s0 ≤ (gi mem 221 4).toInt) (a0 : zlg lo 0 = some (.ref 221)) : yR zpg tX12_operand (d + 5) (187, lo, [], mem) (odP mr fm s0) := by
  have pp := PI_pp hm h
  have hT := h.1.2.1
  obtain ⟨p1, p2, p3, p4, p6, p8, p9⟩ := pp
  exact w_od_187 hm a0 p1 p2 p3 p4 p6
        (fun v1 k2 q3 lo a0 hm => od_217 hm h hb hs (by omega) a0)
        (fun v1 k2 q3 v4 k5 q6 lo a0 hm => od_217 hm h hb hs (by omega) a0)
        (fun v1 k2 q3 v4 k5 q6 v7 k8 q9 lo a0 hm => od_313 hm h hb hs a0)
        (fun v1 k2 q3 v4 k5 q6 v7 k8 q9 lo a0 hm => od_217 hm h hb hs (by omega) a0)
set_option maxRecDepth 100000 in
theorem w_od_171 {d : Nat} {mem : zM} {P : Option Value → zM → Prop} {lo : List (Nat × Value)} (hm : aTm aT0 mem) (l_0 : zlg lo 0 = some (.ref 221)) (p1 : 1 ≤ (gi mem 221 41).toInt ∧ (gi mem 221 41).toInt ≤ 8) (p2 : 0 ≤ (gi mem 221 44).toInt ∧ (gi mem 221 44).toInt ≤ 60) (p3 : 0 ≤ (gi mem 221 33).toInt ∧ (gi mem 221 33).toInt ≤ 1599) (p4 : 0 ≤ (gi mem 221 42).toInt ∧ (gi mem 221 42).toInt ≤ 7) (p6 : (gi mem 221 5).toInt ≤ (gi mem 221 2).toInt) (h1 : ∀ (v1 : Int32), (v1.toInt = 0 ∨ (v1.toInt = 1 ∧ ¬ (gi mem 221 3).toInt = 0)) → (v1).toInt = 0 → ∀ lo, zlg lo 0 = some (.ref 221) → aTm aT0 mem → yR zpg tX12_operand (d + 5) (187, lo, [], mem) P) (s1 : ∀ (v1 : Int32), (v1.toInt = 0 ∨ (v1.toInt = 1 ∧ ¬ (gi mem 221 3).toInt = 0)) → ¬ (v1).toInt = 0 → tOK mem) (h2 : ∀ (v1 : Int32), (v1.toInt = 0 ∨ (v1.toInt = 1 ∧ ¬ (gi mem 221 3).toInt = 0)) → ¬ (v1).toInt = 0 → ∀ (m4 : zM), aTm aT0 m4 → (opQ 2 mem m4 ∧ (¬ (gi m4 221 8).toInt = 0 ∨ (gi m4 221 41).toInt = (gi mem 221 41).toInt + 1)) → aTm aT0 m4 → P (some (.int 0)) m4) : yR zpg tX12_operand (d + 5) (171, lo, [], mem) P := by
  obtain ⟨i0, i1⟩ := mO_r34 hm
  refine wR_la rfl l_0 ?_
  refine yR_m 1 (fun _ _ _ _ => rfl) ?_
  refine wR_cv rfl rfl mO_e hm rfl (c_isSign hm rfl (by omega)) ?_
  rintro _ _ ⟨v1, rfl, rfl, k2⟩
  show yR zpg tX12_operand (d + 5) (177, lo, [.int v1], mem) _
  refine wR_if_eq rfl (a := (v1).toInt) rfl (fun q3 => ?_) (fun q3 => ?_)
  ·
    exact h1 v1 k2 q3 lo l_0 hm
  ·
    refine wR_la rfl l_0 ?_
    refine yR_m 1 (fun _ _ _ _ => rfl) ?_
    refine wR_cv rfl rfl mO_e hm rfl (h_opens2 hm (s1 v1 k2 q3) (by omega) rfl rfl (by omega) (by omega)) ?_
    rintro _ m4 ⟨rfl, hI4, k5⟩
    show yR zpg tX12_operand (d + 5) (185, lo, [], m4) _
    refine yR_m 1 (fun _ _ _ _ => rfl) ?_
    exact yR_rz rfl ⟨by decide, by decide⟩ (h2 v1 k2 q3 m4 hI4 k5 hI4)

theorem od_171 {l : List Fm} {lo : List (Nat × Value)} (hm : aTm aT0 mem) (h : PI mr mem fm l 0) (hb : ∀ f, l.head? = some f → f.2.2.2.1 = 0) (hs : s0 ≤ (gi mem 221 4).toInt) (a0 : zlg lo 0 = some (.ref 221)) : yR zpg tX12_operand (d + 5) (171, lo, [], mem) (odP mr fm s0) := by
  have pp := PI_pp hm h
  have hT := h.1.2.1
  obtain ⟨p1, p2, p3, p4, p6, p8, p9⟩ := pp
  exact w_od_171 hm a0 p1 p2 p3 p4 p6
        (fun v1 k2 q3 lo a0 hm => od_187 hm h hb hs a0)
        (fun v1 k2 q3 => hT)
        (fun v1 k2 q3 m4 hI4 k5 hm2 => od_o hm h hb hs hm2 k5.1 (by decide) (by omega))
set_option maxRecDepth 100000 in
theorem w_od_137 {d : Nat} {mem : zM} {P : Option Value → zM → Prop} {fv fi : Int32} {lo : List (Nat × Value)} (hm : aTm aT0 mem) (l_0 : zlg lo 0 = some (.ref 221)) (l_1 : zlg lo 1 = some (.int fv)) (l_2 : zlg lo 2 = some (.int fi)) (p1 : 1 ≤ (gi mem 221 41).toInt ∧ (gi mem 221 41).toInt ≤ 8) (p2 : 0 ≤ (gi mem 221 44).toInt ∧ (gi mem 221 44).toInt ≤ 60) (p3 : 0 ≤ (gi mem 221 33).toInt ∧ (gi mem 221 33).toInt ≤ 1599) (p4 : 0 ≤ (gi mem 221 42).toInt ∧ (gi mem 221 42).toInt ≤ 7) (p6 : (gi mem 221 5).toInt ≤ (gi mem 221 2).toInt) (fv1 : fv.toInt = (gi mem 221 41).toInt - 1) (h1 : (fi).toInt = 0 → ∀ lo, zlg lo 0 = some (.ref 221) → aTm aT0 mem → yR zpg tX12_operand (d + 5) (171, lo, [], mem) P) (h2 : ¬ (fi).toInt = 0 → ∀ (v2 : Int32), (v2.toInt = 0 ∨ (v2.toInt = 1 ∧ ¬ (gi mem 221 3).toInt = 0)) → (v2).toInt = 0 → ∀ lo, zlg lo 0 = some (.ref 221) → aTm aT0 mem → yR zpg tX12_operand (d + 5) (171, lo, [], mem) P) (h3 : ¬ (fi).toInt = 0 → ∀ (v2 : Int32), (v2.toInt = 0 ∨ (v2.toInt = 1 ∧ ¬ (gi mem 221 3).toInt = 0)) → ¬ (v2).toInt = 0 → ∀ (x5 : Int32), x5.toInt = (1600 * (gi mem 221 34).toInt) → ∀ (x7 : Int32), x7.toInt = ((1600 * (gi mem 221 34).toInt) + (gi mem 221 33).toInt) → ∀ (x9 : Int32), x9.toInt = (1600 * (gi mem 221 34).toInt) → ∀ (x11 : Int32), x11.toInt = ((1600 * (gi mem 221 34).toInt) + (gi mem 221 33).toInt) → ∀ (x13 : Int32), x13.toInt = ((gi mem 221 33).toInt + 1) → ∀ (m15 : zM), aTm aT0 m15 → (ahQ (sx (si (sx (sx mem 238 x7 30) 239 x11 0) 221 33 x13) 243 fv 2) m15 ∧ (gi m15 221 41).toInt = (gi mem 221 41).toInt ∧ (gi m15 221 42).toInt = (gi mem 221 42).toInt ∧ (gi m15 221 44).toInt = (gi mem 221 44).toInt ∧ (gi m15 221 33).toInt = x13.toInt ∧ (gi m15 221 8).toInt = (gi mem 221 8).toInt ∧ (gi mem 221 5).toInt ≤ (gi m15 221 4).toInt ∧ (gi m15 221 4).toInt ≤ (gi m15 221 5).toInt ∧ (gi m15 221 5).toInt ≤ (gi m15 221 2).toInt) → aTm aT0 m15 → P (some (.int 1)) m15) : yR zpg tX12_operand (d + 5) (137, lo, [], mem) P := by
  obtain ⟨i0, i1⟩ := mO_r34 hm
  refine wR_li rfl l_2 ?_
  refine wR_if_eq rfl (a := (fi).toInt) rfl (fun q1 => ?_) (fun q1 => ?_)
  ·
    exact h1 q1 lo l_0 hm
  ·
    refine wR_la rfl l_0 ?_
    refine yR_m 1 (fun _ _ _ _ => rfl) ?_
    refine wR_cv rfl rfl mO_e hm rfl (c_isWord hm rfl (by omega)) ?_
    rintro _ _ ⟨v2, rfl, rfl, k3⟩
    show yR zpg tX12_operand (d + 5) (148, lo, [.int v2], mem) _
    refine wR_if_eq rfl (a := (v2).toInt) rfl (fun q4 => ?_) (fun q4 => ?_)
    ·
      exact h2 q1 v2 k3 q4 lo l_0 hm
    ·
      refine wR_la rfl l_0 ?_
      refine yR_m 2 (fun _ _ _ _ => rfl) ?_
      refine wR_iv rfl rfl mO_e hm rfl rfl rfl rfl ?_
      show yR zpg tX12_add (d + 4) (0, [(0, .ref 221), (1, .int 30), (2, .int 0)], [], mem) _
      refine yR_m 1 (fun _ _ _ _ => rfl) ?_
      refine wR_gr rfl mO_e mO_29 hm ?_
      refine yR_m 2 (fun _ _ _ _ => rfl) ?_
      refine wR_gi rfl mO_e mO_34 hm rfl ?_
      refine wN_mul (a := 1600) (b := (gi mem 221 34).toInt) rfl rfl rfl (by omega) (fun x5 e6 => ?_)
      refine yR_m 1 (fun _ _ _ _ => rfl) ?_
      refine wR_gi rfl mO_e mO_33 hm rfl ?_
      refine wN_add (a := (1600 * (gi mem 221 34).toInt)) (b := (gi mem 221 33).toInt) rfl e6 rfl (by omega) (fun x7 e8 => ?_)
      refine yR_m 1 (fun _ _ _ _ => rfl) ?_
      refine wN_as (a := ((1600 * (gi mem 221 34).toInt) + (gi mem 221 33).toInt)) rfl aR_238 hm e8 (by omega) ?_
      have hm_1 : aTm aT0 (sx mem 238 x7 30) := tm_sa aR_238 hm (i32_b _)
      refine yR_m 1 (fun _ _ _ _ => rfl) ?_
      refine wR_gr rfl mO_e mO_30 hm_1 ?_
      refine yR_m 2 (fun _ _ _ _ => rfl) ?_
      refine wR_gi rfl mO_e mO_34 hm_1 (gi_sa) ?_
      refine wN_mul (a := 1600) (b := (gi mem 221 34).toInt) rfl rfl rfl (by omega) (fun x9 e10 => ?_)
      refine yR_m 1 (fun _ _ _ _ => rfl) ?_
      refine wR_gi rfl mO_e mO_33 hm_1 (gi_sa) ?_
      refine wN_add (a := (1600 * (gi mem 221 34).toInt)) (b := (gi mem 221 33).toInt) rfl e10 rfl (by omega) (fun x11 e12 => ?_)
      refine yR_m 1 (fun _ _ _ _ => rfl) ?_
      refine wN_as (a := ((1600 * (gi mem 221 34).toInt) + (gi mem 221 33).toInt)) rfl aR_239 hm_1 e12 (by omega) ?_
      have hm_2 : aTm aT0 (sx (sx mem 238 x7 30) 239 x11 0) := tm_sa aR_239 hm_1 (i32_b _)
      refine yR_m 2 (fun _ _ _ _ => rfl) ?_
      refine wR_gi rfl mO_e mO_33 hm_2 ((gi_sa).trans (gi_sa)) ?_
      refine yR_m 1 (fun _ _ _ _ => rfl) ?_
      refine wN_add (a := (gi mem 221 33).toInt) (b := 1) rfl rfl rfl (by omega) (fun x13 e14 => ?_)
      refine wR_pi rfl mO_e mO_33 hm_2 rfl ?_
      have hm_3 : aTm aT0 (si (sx (sx mem 238 x7 30) 239 x11 0) 221 33 x13) := tm_si mO_e mO_33 hm_2 (i32_b _)
      refine yR_rv rfl ?_
      show yR zpg tX12_operand (d + 5) (158, lo, [], (si (sx (sx mem 238 x7 30) 239 x11 0) 221 33 x13)) _
      refine wR_la rfl l_0 ?_
      refine wR_gr rfl mO_e mO_37 hm_3 ?_
      refine wR_li rfl l_1 ?_
      refine yR_m 1 (fun _ _ _ _ => rfl) ?_
      refine wN_as (a := (fv).toInt) rfl aR_243 hm_3 rfl (by omega) ?_
      have hm_4 : aTm aT0 (sx (si (sx (sx mem 238 x7 30) 239 x11 0) 221 33 x13) 243 fv 2) := tm_sa aR_243 hm_3 (i32_b _)
      refine wR_la rfl l_0 ?_
      refine wR_cv rfl rfl mO_e hm_4 rfl (h_ahead3 (by omega) hm_4 ((gi_sa).trans ((gi_sv_ne (by decide)).trans ((gi_sa).trans (gi_sa)))) ((gi_sa).trans ((gi_sv_ne (by decide)).trans ((gi_sa).trans (gi_sa)))) (by omega) ((gi_sa).trans ((gi_sv_ne (by decide)).trans ((gi_sa).trans (gi_sa)))) ((gi_sa).trans ((gi_sv_ne (by decide)).trans ((gi_sa).trans (gi_sa)))) ((gi_sa).trans ((gi_sv_ne (by decide)).trans ((gi_sa).trans (gi_sa)))) ((gi_sa).trans (gi_si_eq mO_e mO_33 hm_2)) ((gi_sa).trans ((gi_sv_ne (by decide)).trans ((gi_sa).trans (gi_sa))))) ?_
      rintro _ m15 ⟨rfl, hI15, k16⟩
      show yR zpg tX12_operand (d + 5) (169, lo, [], m15) _
      refine yR_m 1 (fun _ _ _ _ => rfl) ?_
      exact yR_rz rfl ⟨by decide, by decide⟩ (h3 q1 v2 k3 q4 x5 e6 x7 e8 x9 e10 x11 e12 x13 e14 m15 hI15 k16 hI15)

theorem od_137 {l : List Fm} {fv fi : Int32} {lo : List (Nat × Value)} (hm : aTm aT0 mem) (h : PI mr mem fm l 0) (hb : ∀ f, l.head? = some f → f.2.2.2.1 = 0) (hs : s0 ≤ (gi mem 221 4).toInt) (fv1 : fv.toInt = (gi mem 221 41).toInt - 1) (a0 : zlg lo 0 = some (.ref 221)) (a1 : zlg lo 1 = some (.int fv)) (a2 : zlg lo 2 = some (.int fi)) : yR zpg tX12_operand (d + 5) (137, lo, [], mem) (odP mr fm s0) := by
  have pp := PI_pp hm h
  have hT := h.1.2.1
  obtain ⟨p1, p2, p3, p4, p6, p8, p9⟩ := pp
  exact w_od_137 hm a0 a1 a2 p1 p2 p3 p4 p6 fv1
        (fun q1 lo a0 hm => od_171 hm h hb hs a0)
        (fun q1 v2 k3 q4 lo a0 hm => od_171 hm h hb hs a0)
        (fun q1 v2 k3 q4 x5 e6 x7 e8 x9 e10 x11 e12 x13 e14 m15 hI15 k16 hm2 => od_p hm2 (by decide) hs (PI_add (x := x7) (y := 30) (x33 := x13) hm h hb (fr_sa rfl (fr_sv rfl (fr_sa rfl (fr_sa rfl (fr_rf))))) k16.1 ((gi_sa).trans (gi_eqO (isO_sa (by decide) (isO_sa (by decide) (isO_of hm))) (by decide))) (by omega) (((ga_sa_ne (by decide)).trans ((ga_sv).trans ((ga_sa_ne (by decide)).trans ga_sa_eq)))) (by omega) ⟨x11, 0, by omega, ((ga_sa_ne (by decide)).trans ((ga_sv).trans (ga_sa_eq.trans (congrArg (fun l => List.set l x11.toNatClampNeg 0) (ga_sa_ne (by decide))))))⟩ (Or.inr rfl) (Or.inr ⟨fv, fv1, (ga_sa_eq.trans (congrArg (fun l => List.set l fv.toNatClampNeg 2) ((ga_sv).trans ((ga_sa_ne (by decide)).trans (ga_sa_ne (by decide))))))⟩) (by omega)))
set_option maxRecDepth 100000 in
theorem w_od_117 {d : Nat} {mem : zM} {P : Option Value → zM → Prop} {fv fi : Int32} {lo : List (Nat × Value)} (hm : aTm aT0 mem) (l_0 : zlg lo 0 = some (.ref 221)) (l_1 : zlg lo 1 = some (.int fv)) (l_2 : zlg lo 2 = some (.int fi)) (p1 : 1 ≤ (gi mem 221 41).toInt ∧ (gi mem 221 41).toInt ≤ 8) (p2 : 0 ≤ (gi mem 221 44).toInt ∧ (gi mem 221 44).toInt ≤ 60) (p3 : 0 ≤ (gi mem 221 33).toInt ∧ (gi mem 221 33).toInt ≤ 1599) (p4 : 0 ≤ (gi mem 221 42).toInt ∧ (gi mem 221 42).toInt ≤ 7) (p6 : (gi mem 221 5).toInt ≤ (gi mem 221 2).toInt) (fv1 : fv.toInt = (gi mem 221 41).toInt - 1) (h1 : (fi).toInt = 0 → ∀ lo, zlg lo 0 = some (.ref 221) → zlg lo 1 = some (.int fv) → zlg lo 2 = some (.int fi) → aTm aT0 mem → yR zpg tX12_operand (d + 5) (137, lo, [], mem) P) (h2 : ¬ (fi).toInt = 0 → ∀ (v2 : Int32), (v2.toInt = 0 ∨ (v2.toInt = 1 ∧ ¬ (gi mem 221 3).toInt = 0)) → (v2).toInt = 0 → ∀ lo, zlg lo 0 = some (.ref 221) → zlg lo 1 = some (.int fv) → zlg lo 2 = some (.int fi) → aTm aT0 mem → yR zpg tX12_operand (d + 5) (137, lo, [], mem) P) (s1 : ¬ (fi).toInt = 0 → ∀ (v2 : Int32), (v2.toInt = 0 ∨ (v2.toInt = 1 ∧ ¬ (gi mem 221 3).toInt = 0)) → ¬ (v2).toInt = 0 → tOK mem) (h3 : ¬ (fi).toInt = 0 → ∀ (v2 : Int32), (v2.toInt = 0 ∨ (v2.toInt = 1 ∧ ¬ (gi mem 221 3).toInt = 0)) → ¬ (v2).toInt = 0 → ∀ (m5 : zM), aTm aT0 m5 → (opQ 5 mem m5 ∧ (¬ (gi m5 221 8).toInt = 0 ∨ (gi m5 221 41).toInt = (gi mem 221 41).toInt + 1)) → aTm aT0 m5 → P (some (.int 0)) m5) : yR zpg tX12_operand (d + 5) (117, lo, [], mem) P := by
  obtain ⟨i0, i1⟩ := mO_r34 hm
  refine wR_li rfl l_2 ?_
  refine wR_if_eq rfl (a := (fi).toInt) rfl (fun q1 => ?_) (fun q1 => ?_)
  ·
    exact h1 q1 lo l_0 l_1 l_2 hm
  ·
    refine wR_la rfl l_0 ?_
    refine yR_m 1 (fun _ _ _ _ => rfl) ?_
    refine wR_cv rfl rfl mO_e hm rfl (c_isSign hm rfl (by omega)) ?_
    rintro _ _ ⟨v2, rfl, rfl, k3⟩
    show yR zpg tX12_operand (d + 5) (127, lo, [.int v2], mem) _
    refine wR_if_eq rfl (a := (v2).toInt) rfl (fun q4 => ?_) (fun q4 => ?_)
    ·
      exact h2 q1 v2 k3 q4 lo l_0 l_1 l_2 hm
    ·
      refine wR_la rfl l_0 ?_
      refine yR_m 1 (fun _ _ _ _ => rfl) ?_
      refine wR_cv rfl rfl mO_e hm rfl (h_opens2 hm (s1 q1 v2 k3 q4) (by omega) rfl rfl (by omega) (by omega)) ?_
      rintro _ m5 ⟨rfl, hI5, k6⟩
      show yR zpg tX12_operand (d + 5) (135, lo, [], m5) _
      refine yR_m 1 (fun _ _ _ _ => rfl) ?_
      exact yR_rz rfl ⟨by decide, by decide⟩ (h3 q1 v2 k3 q4 m5 hI5 k6 hI5)

theorem od_117 {l : List Fm} {fv fi : Int32} {lo : List (Nat × Value)} (hm : aTm aT0 mem) (h : PI mr mem fm l 0) (hb : ∀ f, l.head? = some f → f.2.2.2.1 = 0) (hs : s0 ≤ (gi mem 221 4).toInt) (fv1 : fv.toInt = (gi mem 221 41).toInt - 1) (a0 : zlg lo 0 = some (.ref 221)) (a1 : zlg lo 1 = some (.int fv)) (a2 : zlg lo 2 = some (.int fi)) : yR zpg tX12_operand (d + 5) (117, lo, [], mem) (odP mr fm s0) := by
  have pp := PI_pp hm h
  have hT := h.1.2.1
  obtain ⟨p1, p2, p3, p4, p6, p8, p9⟩ := pp
  exact w_od_117 hm a0 a1 a2 p1 p2 p3 p4 p6 fv1
        (fun q1 lo a0 a1 a2 hm => od_137 hm h hb hs fv1 a0 a1 a2)
        (fun q1 v2 k3 q4 lo a0 a1 a2 hm => od_137 hm h hb hs fv1 a0 a1 a2)
        (fun q1 v2 k3 q4 => hT)
        (fun q1 v2 k3 q4 m5 hI5 k6 hm2 => od_o hm h hb hs hm2 k6.1 (by decide) (by omega))
set_option maxRecDepth 100000 in
theorem w_od_110 {d : Nat} {mem : zM} {P : Option Value → zM → Prop} {fv fi : Int32} {lo : List (Nat × Value)} (hm : aTm aT0 mem) (l_0 : zlg lo 0 = some (.ref 221)) (l_1 : zlg lo 1 = some (.int fv)) (l_2 : zlg lo 2 = some (.int fi)) (p1 : 1 ≤ (gi mem 221 41).toInt ∧ (gi mem 221 41).toInt ≤ 8) (p2 : 0 ≤ (gi mem 221 44).toInt ∧ (gi mem 221 44).toInt ≤ 60) (p3 : 0 ≤ (gi mem 221 33).toInt ∧ (gi mem 221 33).toInt ≤ 1599) (p4 : 0 ≤ (gi mem 221 42).toInt ∧ (gi mem 221 42).toInt ≤ 7) (p6 : (gi mem 221 5).toInt ≤ (gi mem 221 2).toInt) (fv1 : fv.toInt = (gi mem 221 41).toInt - 1) (h1 : ∀ lo, zlg lo 0 = some (.ref 221) → zlg lo 1 = some (.int fv) → zlg lo 2 = some (.int fi) → aTm aT0 (sx mem 244 fv 0) → yR zpg tX12_operand (d + 5) (117, lo, [], (sx mem 244 fv 0)) P) : yR zpg tX12_operand (d + 5) (110, lo, [], mem) P := by
  obtain ⟨i0, i1⟩ := mO_r34 hm
  refine wR_la rfl l_0 ?_
  refine wR_gr rfl mO_e mO_38 hm ?_
  refine wR_li rfl l_1 ?_
  refine yR_m 1 (fun _ _ _ _ => rfl) ?_
  refine wN_zs (a := (fv).toInt) rfl aR_244 hm rfl (by omega) (by decide) ?_
  have hm_1 : aTm aT0 (sx mem 244 fv 0) := tm_sa aR_244 hm (by decide)
  exact h1 lo l_0 l_1 l_2 hm_1

theorem od_110 {l : List Fm} {fv fi : Int32} {lo : List (Nat × Value)} (hm : aTm aT0 mem) (h : PI mr mem fm l 0) (hs : s0 ≤ (gi mem 221 4).toInt) (fv1 : fv.toInt = (gi mem 221 41).toInt - 1) (a0 : zlg lo 0 = some (.ref 221)) (a1 : zlg lo 1 = some (.int fv)) (a2 : zlg lo 2 = some (.int fi)) : yR zpg tX12_operand (d + 5) (110, lo, [], mem) (odP mr fm s0) := by
  have pp := PI_pp hm h
  have hT := h.1.2.1
  obtain ⟨p1, p2, p3, p4, p6, p8, p9⟩ := pp
  exact w_od_110 hm a0 a1 a2 p1 p2 p3 p4 p6 fv1
        (fun  lo a0 a1 a2 hm2 => by
          obtain ⟨l', h', hb'⟩ := PI_bg (x := fv) hm h (fr_sa rfl (fr_rf)) (ga_sa_eq) fv1
          exact od_117 hm2 h' hb' (by rw [gi_sa]; exact hs) (by rw [gi_sa]; exact fv1) a0 a1 a2)
set_option maxRecDepth 100000 in
theorem w_od_47 {d : Nat} {mem : zM} {P : Option Value → zM → Prop} {fv fi : Int32} {lo : List (Nat × Value)} (hm : aTm aT0 mem) (l_0 : zlg lo 0 = some (.ref 221)) (l_1 : zlg lo 1 = some (.int fv)) (l_2 : zlg lo 2 = some (.int fi)) (p1 : 1 ≤ (gi mem 221 41).toInt ∧ (gi mem 221 41).toInt ≤ 8) (p2 : 0 ≤ (gi mem 221 44).toInt ∧ (gi mem 221 44).toInt ≤ 60) (p3 : 0 ≤ (gi mem 221 33).toInt ∧ (gi mem 221 33).toInt ≤ 1599) (p4 : 0 ≤ (gi mem 221 42).toInt ∧ (gi mem 221 42).toInt ≤ 7) (p6 : (gi mem 221 5).toInt ≤ (gi mem 221 2).toInt) (h1 : (fi).toInt = 0 → ∀ lo, zlg lo 0 = some (.ref 221) → zlg lo 1 = some (.int fv) → zlg lo 2 = some (.int fi) → aTm aT0 mem → yR zpg tX12_operand (d + 5) (110, lo, [], mem) P) (h2 : ¬ (fi).toInt = 0 → ∀ (v2 : Int32), (v2.toInt = 0 ∨ (v2.toInt = 1 ∧ ¬ (gi mem 221 3).toInt = 0)) → (v2).toInt = 0 → ∀ lo, zlg lo 0 = some (.ref 221) → zlg lo 1 = some (.int fv) → zlg lo 2 = some (.int fi) → aTm aT0 mem → yR zpg tX12_operand (d + 5) (110, lo, [], mem) P) (h3 : ¬ (fi).toInt = 0 → ∀ (v2 : Int32), (v2.toInt = 0 ∨ (v2.toInt = 1 ∧ ¬ (gi mem 221 3).toInt = 0)) → ¬ (v2).toInt = 0 → ¬ (gi mem 221 42).toInt = 7 → (gi mem 221 8).toInt ≤ 0 → ∀ (x7 : Int32), x7.toInt = ((gi mem 221 42).toInt + 1) → ∀ (x9 : Int32), x9.toInt = ((gi mem 221 44).toInt + 1) → ∀ (m11 : zM), aTm aT0 m11 → (ahQ (si (sx (si mem 221 42 x7) 247 (gi mem 221 44) 43) 221 44 x9) m11 ∧ (gi m11 221 41).toInt = (gi mem 221 41).toInt ∧ (gi m11 221 42).toInt = x7.toInt ∧ (gi m11 221 44).toInt = x9.toInt ∧ (gi m11 221 33).toInt = (gi mem 221 33).toInt ∧ (gi m11 221 8).toInt = (gi mem 221 8).toInt ∧ (gi mem 221 5).toInt ≤ (gi m11 221 4).toInt ∧ (gi m11 221 4).toInt ≤ (gi m11 221 5).toInt ∧ (gi m11 221 5).toInt ≤ (gi m11 221 2).toInt) → aTm aT0 m11 → P (some (.int 0)) m11) (h4 : ¬ (fi).toInt = 0 → ∀ (v2 : Int32), (v2.toInt = 0 ∨ (v2.toInt = 1 ∧ ¬ (gi mem 221 3).toInt = 0)) → ¬ (v2).toInt = 0 → ¬ (gi mem 221 42).toInt = 7 → 0 < (gi mem 221 8).toInt → aTm aT0 mem → P (some (.int 1)) mem) (h5 : ¬ (fi).toInt = 0 → ∀ (v2 : Int32), (v2.toInt = 0 ∨ (v2.toInt = 1 ∧ ¬ (gi mem 221 3).toInt = 0)) → ¬ (v2).toInt = 0 → (gi mem 221 42).toInt = 7 → (gi mem 221 8).toInt ≤ 0 → aTm aT0 (si (si mem 221 8 5) 221 9 (gi mem 221 4)) → P (some (.int 1)) (si (si mem 221 8 5) 221 9 (gi mem 221 4))) (h6 : ¬ (fi).toInt = 0 → ∀ (v2 : Int32), (v2.toInt = 0 ∨ (v2.toInt = 1 ∧ ¬ (gi mem 221 3).toInt = 0)) → ¬ (v2).toInt = 0 → (gi mem 221 42).toInt = 7 → 0 < (gi mem 221 8).toInt → aTm aT0 mem → P (some (.int 1)) mem) : yR zpg tX12_operand (d + 5) (47, lo, [], mem) P := by
  obtain ⟨i0, i1⟩ := mO_r34 hm
  refine wR_li rfl l_2 ?_
  refine wR_if_eq rfl (a := (fi).toInt) rfl (fun q1 => ?_) (fun q1 => ?_)
  ·
    exact h1 q1 lo l_0 l_1 l_2 hm
  ·
    refine wR_la rfl l_0 ?_
    refine yR_m 1 (fun _ _ _ _ => rfl) ?_
    refine wR_cv rfl rfl mO_e hm rfl (c_isWord hm rfl (by omega)) ?_
    rintro _ _ ⟨v2, rfl, rfl, k3⟩
    show yR zpg tX12_operand (d + 5) (58, lo, [.int v2], mem) _
    refine wR_if_eq rfl (a := (v2).toInt) rfl (fun q4 => ?_) (fun q4 => ?_)
    ·
      exact h2 q1 v2 k3 q4 lo l_0 l_1 l_2 hm
    ·
      refine wR_la rfl l_0 ?_
      refine wR_gi rfl mO_e mO_42 hm rfl ?_
      refine yR_m 1 (fun _ _ _ _ => rfl) ?_
      refine wR_ic_ne rfl (a := (gi mem 221 42).toInt) (c := 7) rfl rfl (fun q5 => ?_) (fun q5 => ?_)
      ·
        refine wR_la rfl l_0 ?_
        refine wR_gi rfl mO_e mO_8 hm rfl ?_
        refine wR_if_le rfl (a := (gi mem 221 8).toInt) rfl (fun q6 => ?_) (fun q6 => ?_)
        ·
          refine wR_la rfl l_0 ?_
          refine yR_m 1 (fun _ _ _ _ => rfl) ?_
          refine wR_gi rfl mO_e mO_42 hm rfl ?_
          refine yR_m 1 (fun _ _ _ _ => rfl) ?_
          refine wN_add (a := (gi mem 221 42).toInt) (b := 1) rfl rfl rfl (by omega) (fun x7 e8 => ?_)
          refine wR_pi rfl mO_e mO_42 hm rfl ?_
          have hm_1 : aTm aT0 (si mem 221 42 x7) := tm_si mO_e mO_42 hm (i32_b _)
          refine wR_la rfl l_0 ?_
          refine yR_m 1 (fun _ _ _ _ => rfl) ?_
          refine wR_iv rfl rfl mO_e hm_1 rfl rfl rfl rfl ?_
          show yR zpg tX12_holdsBack (d + 4) (0, [(0, .ref 221), (1, .int 43)], [], (si mem 221 42 x7)) _
          refine yR_m 1 (fun _ _ _ _ => rfl) ?_
          refine wR_gr rfl mO_e mO_43 hm_1 ?_
          refine yR_m 1 (fun _ _ _ _ => rfl) ?_
          refine wR_gi rfl mO_e mO_44 hm_1 (gi_sv_ne (by decide)) ?_
          refine yR_m 1 (fun _ _ _ _ => rfl) ?_
          refine wN_as (a := (gi mem 221 44).toInt) rfl aR_247 hm_1 rfl (by omega) ?_
          have hm_2 : aTm aT0 (sx (si mem 221 42 x7) 247 (gi mem 221 44) 43) := tm_sa aR_247 hm_1 (i32_b _)
          refine yR_m 2 (fun _ _ _ _ => rfl) ?_
          refine wR_gi rfl mO_e mO_44 hm_2 ((gi_sa).trans (gi_sv_ne (by decide))) ?_
          refine yR_m 1 (fun _ _ _ _ => rfl) ?_
          refine wN_add (a := (gi mem 221 44).toInt) (b := 1) rfl rfl rfl (by omega) (fun x9 e10 => ?_)
          refine wR_pi rfl mO_e mO_44 hm_2 rfl ?_
          have hm_3 : aTm aT0 (si (sx (si mem 221 42 x7) 247 (gi mem 221 44) 43) 221 44 x9) := tm_si mO_e mO_44 hm_2 (i32_b _)
          refine yR_rv rfl ?_
          show yR zpg tX12_operand (d + 5) (104, lo, [], (si (sx (si mem 221 42 x7) 247 (gi mem 221 44) 43) 221 44 x9)) _
          refine wR_la rfl l_0 ?_
          refine wR_cv rfl rfl mO_e hm_3 rfl (h_ahead3 (by omega) hm_3 ((gi_sv_ne (by decide)).trans ((gi_sa).trans (gi_sv_ne (by decide)))) ((gi_sv_ne (by decide)).trans ((gi_sa).trans (gi_sv_ne (by decide)))) (by omega) ((gi_sv_ne (by decide)).trans ((gi_sa).trans (gi_sv_ne (by decide)))) ((gi_sv_ne (by decide)).trans ((gi_sa).trans (gi_si_eq mO_e mO_42 hm))) (gi_si_eq mO_e mO_44 hm_2) ((gi_sv_ne (by decide)).trans ((gi_sa).trans (gi_sv_ne (by decide)))) ((gi_sv_ne (by decide)).trans ((gi_sa).trans (gi_sv_ne (by decide))))) ?_
          rintro _ m11 ⟨rfl, hI11, k12⟩
          show yR zpg tX12_operand (d + 5) (108, lo, [], m11) _
          refine yR_m 1 (fun _ _ _ _ => rfl) ?_
          exact yR_rz rfl ⟨by decide, by decide⟩ (h3 q1 v2 k3 q4 q5 q6 x7 e8 x9 e10 m11 hI11 k12 hI11)
        ·
          refine yR_m 1 (fun _ _ _ _ => rfl) ?_
          exact yR_rz rfl ⟨by decide, by decide⟩ (h4 q1 v2 k3 q4 q5 q6 hm)
      ·
        refine wR_la rfl l_0 ?_
        refine yR_m 1 (fun _ _ _ _ => rfl) ?_
        refine wR_la rfl l_0 ?_
        refine wR_gi rfl mO_e mO_4 hm rfl ?_
        refine wR_iv rfl rfl mO_e hm rfl rfl rfl rfl ?_
        show yR zpg tX12_blame (d + 4) (0, [(0, .ref 221), (1, .int 5), (2, .int (gi mem 221 4))], [], mem) _
        refine yR_m 1 (fun _ _ _ _ => rfl) ?_
        refine wR_gi rfl mO_e mO_8 hm rfl ?_
        refine wR_if_le rfl (a := (gi mem 221 8).toInt) rfl (fun q13 => ?_) (fun q13 => ?_)
        ·
          refine yR_m 2 (fun _ _ _ _ => rfl) ?_
          refine wR_pi rfl mO_e mO_8 hm rfl ?_
          have hm_4 : aTm aT0 (si mem 221 8 5) := tm_si mO_e mO_8 hm (i32_b _)
          refine yR_m 2 (fun _ _ _ _ => rfl) ?_
          refine wR_pi rfl mO_e mO_9 hm_4 rfl ?_
          have hm_5 : aTm aT0 (si (si mem 221 8 5) 221 9 (gi mem 221 4)) := tm_si mO_e mO_9 hm_4 (i32_b _)
          refine yR_rv rfl ?_
          show yR zpg tX12_operand (d + 5) (79, lo, [], (si (si mem 221 8 5) 221 9 (gi mem 221 4))) _
          refine wR_la rfl l_0 ?_
          refine wR_gi rfl mO_e mO_8 hm_5 ((gi_sv_ne (by decide)).trans (gi_si_eq mO_e mO_8 hm)) ?_
          refine wR_if_le rfl (a := 5) rfl (fun q => by exfalso; omega) (fun _ => ?_)
          refine yR_m 1 (fun _ _ _ _ => rfl) ?_
          exact yR_rz rfl ⟨by decide, by decide⟩ (h5 q1 v2 k3 q4 q5 q13 hm_5)
        ·
          refine yR_rv rfl ?_
          show yR zpg tX12_operand (d + 5) (79, lo, [], mem) _
          refine wR_la rfl l_0 ?_
          refine wR_gi rfl mO_e mO_8 hm rfl ?_
          refine wR_if_le rfl (a := (gi mem 221 8).toInt) rfl (fun q => by exfalso; omega) (fun _ => ?_)
          refine yR_m 1 (fun _ _ _ _ => rfl) ?_
          exact yR_rz rfl ⟨by decide, by decide⟩ (h6 q1 v2 k3 q4 q5 q13 hm)

theorem od_47 {l : List Fm} {fv fi : Int32} {lo : List (Nat × Value)} (hm : aTm aT0 mem) (h : PI mr mem fm l 0) (hs : s0 ≤ (gi mem 221 4).toInt) (fv1 : fv.toInt = (gi mem 221 41).toInt - 1) (hf : fi.toInt = 0 ∨ ¬ gn (ga mem 244) ((gi mem 221 41).toInt - 1) = 0) (a0 : zlg lo 0 = some (.ref 221)) (a1 : zlg lo 1 = some (.int fv)) (a2 : zlg lo 2 = some (.int fi)) : yR zpg tX12_operand (d + 5) (47, lo, [], mem) (odP mr fm s0) := by
  have pp := PI_pp hm h
  have hT := h.1.2.1
  obtain ⟨p1, p2, p3, p4, p6, p8, p9⟩ := pp
  exact w_od_47 hm a0 a1 a2 p1 p2 p3 p4 p6
        (fun q1 lo a0 a1 a2 hm => od_110 hm h hs fv1 a0 a1 a2)
        (fun q1 v2 k3 q4 lo a0 a1 a2 hm => od_110 hm h hs fv1 a0 a1 a2)
        (fun q1 v2 k3 q4 q5 q6 x7 e8 x9 e10 m11 hI11 k12 hm2 => od_p hm2 (by decide) hs (PI_not (x := (gi mem 221 44)) hm h (fr_sv rfl (fr_sa rfl (fr_sv rfl (fr_rf)))) k12.1 ((gi_sv_ne (by decide)).trans ((gi_sa).trans (gi_eqO (isO_of hm) (by decide)))) (gi_eqO (isO_sa (by decide) (isO_sv (isO_of hm))) (by decide)) (by omega) (by omega) (((ga_sv).trans (ga_sa_eq.trans (congrArg (fun l => List.set l (gi mem 221 44).toNatClampNeg 43) (ga_sv))))) (by omega) (by omega) (by omega) (by omega)))
        (fun q1 v2 k3 q4 q5 q6 hm2 => by exfalso; omega)
        (fun q1 v2 k3 q4 q5 q13 hm2 => od_f hm2 h.1.1 hT (fr_sv rfl (fr_sv rfl (fr_rf))) (by show 1 ≤ (gi (si (si mem 221 8 5) 221 9 (gi mem 221 4)) 221 8).toInt; rw [((gi_sv_ne (by decide)).trans (gi_eqO (isO_of hm) (by decide)))]; decide) (by decide))
        (fun q1 v2 k3 q4 q5 q13 hm2 => by exfalso; omega)
set_option maxRecDepth 100000 in
theorem w_od_0 {d : Nat} {mem : zM} {P : Option Value → zM → Prop} {lo : List (Nat × Value)} (hm : aTm aT0 mem) (l_0 : zlg lo 0 = some (.ref 221)) (p1 : 1 ≤ (gi mem 221 41).toInt ∧ (gi mem 221 41).toInt ≤ 8) (p2 : 0 ≤ (gi mem 221 44).toInt ∧ (gi mem 221 44).toInt ≤ 60) (p3 : 0 ≤ (gi mem 221 33).toInt ∧ (gi mem 221 33).toInt ≤ 1599) (p4 : 0 ≤ (gi mem 221 42).toInt ∧ (gi mem 221 42).toInt ≤ 7) (p6 : (gi mem 221 5).toInt ≤ (gi mem 221 2).toInt) (h1 : (gi mem 221 12).toInt = (-1) → (gi mem 221 8).toInt ≤ 0 → ∀ (x3 : Int32), x3.toInt = ((gi mem 221 41).toInt - 1) → ∀ (y8 : Int32), y8.toInt = (gn (ga mem 242) ((gi mem 221 41).toInt - 1)) → ∀ (v10 : Int32), ((v10.toInt = 0 ∧ ¬ (y8.toInt = 1 ∨ y8.toInt = 5 ∨ y8.toInt = 6)) ∨ (v10.toInt = 1 ∧ (y8.toInt = 1 ∨ y8.toInt = 5 ∨ y8.toInt = 6))) → (v10).toInt = 0 → ∀ lo, zlg lo 0 = some (.ref 221) → zlg lo 1 = some (.int x3) → zlg lo 2 = some (.int 0) → aTm aT0 mem → yR zpg tX12_operand (d + 5) (47, lo, [], mem) P) (h2 : (gi mem 221 12).toInt = (-1) → (gi mem 221 8).toInt ≤ 0 → ∀ (x3 : Int32), x3.toInt = ((gi mem 221 41).toInt - 1) → ∀ (y8 : Int32), y8.toInt = (gn (ga mem 242) ((gi mem 221 41).toInt - 1)) → ∀ (v10 : Int32), ((v10.toInt = 0 ∧ ¬ (y8.toInt = 1 ∨ y8.toInt = 5 ∨ y8.toInt = 6)) ∨ (v10.toInt = 1 ∧ (y8.toInt = 1 ∨ y8.toInt = 5 ∨ y8.toInt = 6))) → ¬ (v10).toInt = 0 → ∀ (y16 : Int32), y16.toInt = (gn (ga mem 244) ((gi mem 221 41).toInt - 1)) → (gn (ga mem 244) ((gi mem 221 41).toInt - 1)) = 0 → ∀ lo, zlg lo 0 = some (.ref 221) → zlg lo 1 = some (.int x3) → zlg lo 2 = some (.int 0) → aTm aT0 mem → yR zpg tX12_operand (d + 5) (47, lo, [], mem) P) (h3 : (gi mem 221 12).toInt = (-1) → (gi mem 221 8).toInt ≤ 0 → ∀ (x3 : Int32), x3.toInt = ((gi mem 221 41).toInt - 1) → ∀ (y8 : Int32), y8.toInt = (gn (ga mem 242) ((gi mem 221 41).toInt - 1)) → ∀ (v10 : Int32), ((v10.toInt = 0 ∧ ¬ (y8.toInt = 1 ∨ y8.toInt = 5 ∨ y8.toInt = 6)) ∨ (v10.toInt = 1 ∧ (y8.toInt = 1 ∨ y8.toInt = 5 ∨ y8.toInt = 6))) → ¬ (v10).toInt = 0 → ∀ (y16 : Int32), y16.toInt = (gn (ga mem 244) ((gi mem 221 41).toInt - 1)) → ¬ (gn (ga mem 244) ((gi mem 221 41).toInt - 1)) = 0 → ∀ lo, zlg lo 0 = some (.ref 221) → zlg lo 1 = some (.int x3) → zlg lo 2 = some (.int 1) → aTm aT0 mem → yR zpg tX12_operand (d + 5) (47, lo, [], mem) P) (h4 : (gi mem 221 12).toInt = (-1) → 0 < (gi mem 221 8).toInt → aTm aT0 mem → P (some (.int 1)) mem) (h5 : ¬ (gi mem 221 12).toInt = (-1) → (gi mem 221 8).toInt ≤ 0 → aTm aT0 (si (si mem 221 8 1) 221 9 (gi mem 221 12)) → P (some (.int 1)) (si (si mem 221 8 1) 221 9 (gi mem 221 12))) (h6 : ¬ (gi mem 221 12).toInt = (-1) → 0 < (gi mem 221 8).toInt → aTm aT0 mem → P (some (.int 1)) mem) : yR zpg tX12_operand (d + 5) (0, lo, [], mem) P := by
  obtain ⟨i0, i1⟩ := mO_r34 hm
  refine wR_la rfl l_0 ?_
  refine wR_iv rfl rfl mO_e hm rfl rfl rfl rfl ?_
  show yR zpg tX12_lex (d + 4) (0, [(0, .ref 221)], [], mem) _
  refine yR_m 1 (fun _ _ _ _ => rfl) ?_
  refine wR_gi rfl mO_e mO_12 hm rfl ?_
  refine yR_m 1 (fun _ _ _ _ => rfl) ?_
  refine wR_ic_eq rfl (a := (gi mem 221 12).toInt) (c := (-1)) rfl tm1 (fun q1 => ?_) (fun q1 => ?_)
  ·
    refine yR_rv rfl ?_
    show yR zpg tX12_operand (d + 5) (4, lo, [], mem) _
    refine wR_la rfl l_0 ?_
    refine wR_gi rfl mO_e mO_8 hm rfl ?_
    refine wR_if_le rfl (a := (gi mem 221 8).toInt) rfl (fun q2 => ?_) (fun q2 => ?_)
    ·
      refine wR_la rfl l_0 ?_
      refine wR_gi rfl mO_e mO_41 hm rfl ?_
      refine yR_m 1 (fun _ _ _ _ => rfl) ?_
      refine wN_sub (a := (gi mem 221 41).toInt) (b := 1) rfl rfl rfl (by omega) (fun x3 e4 => ?_)
      refine wR_si rfl rfl (fun lo5 e6 f7 => ?_)
      have lo5_0 := f7 0 _ (by decide) (Or.inl rfl) l_0
      refine wR_la rfl lo5_0 ?_
      refine wR_gr rfl mO_e mO_36 hm ?_
      refine wR_li rfl e6 ?_
      refine wN_al (a := ((gi mem 221 41).toInt - 1)) rfl aR_242 hm rfl e4 (by omega) (fun y8 e9 => ?_)
      refine yR_cs rfl rfl rfl (c_isTest hm (by omega)) ?_
      rintro _ _ ⟨v10, rfl, rfl, k11⟩
      show yR zpg tX12_operand (d + 5) (29, lo5, [.int v10], mem) _
      refine wR_if_eq rfl (a := (v10).toInt) rfl (fun q12 => ?_) (fun q12 => ?_)
      ·
        refine yR_m 1 (fun _ _ _ _ => rfl) ?_
        refine wR_si rfl rfl (fun lo13 e14 f15 => ?_)
        have lo13_1 := f15 1 _ (by decide) (Or.inl rfl) e6
        have lo13_0 := f15 0 _ (by decide) (Or.inl rfl) lo5_0
        exact h1 q1 q2 x3 e4 y8 e9 v10 k11 q12 lo13 lo13_0 lo13_1 e14 hm
      ·
        refine wR_la rfl lo5_0 ?_
        refine wR_gr rfl mO_e mO_38 hm ?_
        refine wR_li rfl e6 ?_
        refine wN_al (a := ((gi mem 221 41).toInt - 1)) rfl aR_244 hm rfl e4 (by omega) (fun y16 e17 => ?_)
        refine wR_if_eq rfl (a := (gn (ga mem 244) ((gi mem 221 41).toInt - 1))) e17 (fun q18 => ?_) (fun q18 => ?_)
        ·
          refine yR_m 1 (fun _ _ _ _ => rfl) ?_
          refine wR_si rfl rfl (fun lo19 e20 f21 => ?_)
          have lo19_1 := f21 1 _ (by decide) (Or.inl rfl) e6
          have lo19_0 := f21 0 _ (by decide) (Or.inl rfl) lo5_0
          exact h2 q1 q2 x3 e4 y8 e9 v10 k11 q12 y16 e17 q18 lo19 lo19_0 lo19_1 e20 hm
        ·
          refine yR_m 2 (fun _ _ _ _ => rfl) ?_
          refine wR_si rfl rfl (fun lo22 e23 f24 => ?_)
          have lo22_1 := f24 1 _ (by decide) (Or.inl rfl) e6
          have lo22_0 := f24 0 _ (by decide) (Or.inl rfl) lo5_0
          exact h3 q1 q2 x3 e4 y8 e9 v10 k11 q12 y16 e17 q18 lo22 lo22_0 lo22_1 e23 hm
    ·
      refine yR_m 1 (fun _ _ _ _ => rfl) ?_
      exact yR_rz rfl ⟨by decide, by decide⟩ (h4 q1 q2 hm)
  ·
    refine yR_m 3 (fun _ _ _ _ => rfl) ?_
    refine wR_gi rfl mO_e mO_12 hm rfl ?_
    refine wR_iv rfl rfl mO_e hm rfl rfl rfl rfl ?_
    show yR zpg tX12_blame (d + 3) (0, [(0, .ref 221), (1, .int 1), (2, .int (gi mem 221 12))], [], mem) _
    refine yR_m 1 (fun _ _ _ _ => rfl) ?_
    refine wR_gi rfl mO_e mO_8 hm rfl ?_
    refine wR_if_le rfl (a := (gi mem 221 8).toInt) rfl (fun q25 => ?_) (fun q25 => ?_)
    ·
      refine yR_m 2 (fun _ _ _ _ => rfl) ?_
      refine wR_pi rfl mO_e mO_8 hm rfl ?_
      have hm_1 : aTm aT0 (si mem 221 8 1) := tm_si mO_e mO_8 hm (i32_b _)
      refine yR_m 2 (fun _ _ _ _ => rfl) ?_
      refine wR_pi rfl mO_e mO_9 hm_1 rfl ?_
      have hm_2 : aTm aT0 (si (si mem 221 8 1) 221 9 (gi mem 221 12)) := tm_si mO_e mO_9 hm_1 (i32_b _)
      refine yR_rv rfl ?_
      show yR zpg tX12_lex (d + 4) (17, [(0, .ref 221)], [], (si (si mem 221 8 1) 221 9 (gi mem 221 12))) _
      refine yR_rv rfl ?_
      show yR zpg tX12_operand (d + 5) (4, lo, [], (si (si mem 221 8 1) 221 9 (gi mem 221 12))) _
      refine wR_la rfl l_0 ?_
      refine wR_gi rfl mO_e mO_8 hm_2 ((gi_sv_ne (by decide)).trans (gi_si_eq mO_e mO_8 hm)) ?_
      refine wR_if_le rfl (a := 1) rfl (fun q => by exfalso; omega) (fun _ => ?_)
      refine yR_m 1 (fun _ _ _ _ => rfl) ?_
      exact yR_rz rfl ⟨by decide, by decide⟩ (h5 q1 q25 hm_2)
    ·
      refine yR_rv rfl ?_
      show yR zpg tX12_lex (d + 4) (17, [(0, .ref 221)], [], mem) _
      refine yR_rv rfl ?_
      show yR zpg tX12_operand (d + 5) (4, lo, [], mem) _
      refine wR_la rfl l_0 ?_
      refine wR_gi rfl mO_e mO_8 hm rfl ?_
      refine wR_if_le rfl (a := (gi mem 221 8).toInt) rfl (fun q => by exfalso; omega) (fun _ => ?_)
      refine yR_m 1 (fun _ _ _ _ => rfl) ?_
      exact yR_rz rfl ⟨by decide, by decide⟩ (h6 q1 q25 hm)

theorem od_0 {l : List Fm} {lo : List (Nat × Value)} (hm : aTm aT0 mem) (h : PI mr mem fm l 0) (hs : s0 ≤ (gi mem 221 4).toInt) (a0 : zlg lo 0 = some (.ref 221)) : yR zpg tX12_operand (d + 5) (0, lo, [], mem) (odP mr fm s0) := by
  have pp := PI_pp hm h
  have hT := h.1.2.1
  obtain ⟨p1, p2, p3, p4, p6, p8, p9⟩ := pp
  exact w_od_0 hm a0 p1 p2 p3 p4 p6
        (fun q1 q2 x3 e4 y8 e9 v10 k11 q12 lo a0 a1 a2 hm => od_47 hm h hs (by omega) (by first | exact Or.inl rfl | exact Or.inr (by omega)) a0 a1 a2)
        (fun q1 q2 x3 e4 y8 e9 v10 k11 q12 y16 e17 q18 lo a0 a1 a2 hm => od_47 hm h hs (by omega) (by first | exact Or.inl rfl | exact Or.inr (by omega)) a0 a1 a2)
        (fun q1 q2 x3 e4 y8 e9 v10 k11 q12 y16 e17 q18 lo a0 a1 a2 hm => od_47 hm h hs (by omega) (by first | exact Or.inl rfl | exact Or.inr (by omega)) a0 a1 a2)
        (fun q1 q2 hm2 => by exfalso; omega)
        (fun q1 q25 hm2 => od_f hm2 h.1.1 hT (fr_sv rfl (fr_sv rfl (fr_rf))) (by show 1 ≤ (gi (si (si mem 221 8 1) 221 9 (gi mem 221 12)) 221 8).toInt; rw [((gi_sv_ne (by decide)).trans (gi_eqO (isO_of hm) (by decide)))]; decide) (by decide))
        (fun q1 q25 hm2 => by exfalso; omega)
theorem h_operand {l : List Fm} (hm : aTm aT0 mem) (h : PI mr mem fm l 0) (hd : 6 ≤ d) : yC zpg d 188 [.ref 221] mem (odP mr fm (gi mem 221 4).toInt) := by
  obtain ⟨d, rfl⟩ : ∃ q, d = q + 6 := ⟨d - 6, by omega⟩
  refine yC_of (t := tX12_operand) rfl rfl ?_
  exact od_0 hm h (Int.le_refl _) rfl
end OD
