/-! a night passes and is kept: the class -/
section PKA
set_option maxRecDepth 100000 in
theorem iS_31 : isS 31 := ⟨rfl, rfl, rfl, by decide, by decide⟩
theorem bSt_c {P R : Int → Prop} {n : Int} {x : Int32} (hh : ∀ i, P i ↔ R i) (hb : bSt P n x) : bSt R n x := fun i i0 i1 => by
  rw [hb i i0 i1, hh i]
theorem fP_T {Q : Qd} {hu : Int → Int} {S : Sd} (i : Int) : fP Q hu S i ↔ (bt (Sm S) i ∧ tnP Q hu S i) := ⟨fun z => ⟨z.1, Or.inl z⟩, fun z => by
  rcases z.2 with w | w
  · exact w
  · exact absurd z.1 w.1⟩
theorem lP_T {Q : Qd} {hu : Int → Int} {S : Sd} (i : Int) : lP Q hu S i ↔ (¬ bt (Sm S) i ∧ tnP Q hu S i) := ⟨fun z => ⟨z.1, Or.inr z⟩, fun z => by
  rcases z.2 with w | w
  · exact absurd w.1 z.1
  · exact w⟩
theorem kpR_1 {T : Int → Prop} {x t y : Int32} {N : Int} {K : Kd} (t0 : 0 ≤ t.toInt) (e : y.toInt = t.toInt + 1) (hb : bt x t.toInt) (hT : T t.toInt) : kpR T x N K y.toInt.toNat = kpP (kpR T x N K t.toInt.toNat) (N, t.toInt, (1 : Int32).toInt) := by
  rw [kpR_s t0 e, if_pos (cdB_t hT), show btI x t.toInt = (1 : Int32).toInt from if_pos hb]
theorem kpR_0 {T : Int → Prop} {x t y : Int32} {N : Int} {K : Kd} (t0 : 0 ≤ t.toInt) (e : y.toInt = t.toInt + 1) (hb : ¬ bt x t.toInt) (hT : T t.toInt) : kpR T x N K y.toInt.toNat = kpP (kpR T x N K t.toInt.toNat) (N, t.toInt, (0 : Int32).toInt) := by
  rw [kpR_s t0 e, if_pos (cdB_t hT), show btI x t.toInt = (0 : Int32).toInt from if_neg hb]
theorem kpR_n {T : Int → Prop} {x t y : Int32} {N : Int} {K : Kd} (t0 : 0 ≤ t.toInt) (e : y.toInt = t.toInt + 1) (hT : ¬ T t.toInt) : kpR T x N K y.toInt.toNat = kpR T x N K t.toInt.toNat := by
  rw [kpR_s t0 e, cdB_f hT]
  rfl
theorem fd_pop {Q : Qd} {hu : Int → Int} {S : Sd} {but : Int} {x : Int32} (hW : WQ Q) (hv : wS Q S) (x0 : 0 ≤ x.toInt) (hx : bSt (fP Q hu (mvS Q hu but S)) (thN Q) x) : pop x = fdN Q hu but S := by
  have b := tnF_9 (P := tnP Q hu (mvS Q hu but S)) _ hW.2.1.1
  have e : x = tnB Q hu but S &&& Sm S := by
    refine bt_ex x0 ?_ (fun i i0 i1 => ?_)
    · refine (i9_i ?_).1
      rw [Int32.toBitVec_and, BitVec.toNat_and]
      exact Nat.and_lt_two_pow (n := 9) _ (i9_n hv.2.1.1.1 hv.2.1.1.2)
    · rw [hx i i0 i1, bt_aa, fP_T]
      unfold tnB
      rw [tnF_b _ hW.2.1.1 i i0 i1]
      exact ⟨fun z => ⟨⟨z.1, z.2.2⟩, z.2.1⟩, fun z => ⟨z.1.1, z.2, z.1.2⟩⟩
  rw [e]
  rfl
end PKA
section PKA
variable {d : Nat} {mem : zM} {Q : Qd} {S : Sd} {K : Kd} {hu : Int → Int}
theorem h_p1A {but : Int32} (hm : aTm aT0 mem) (hp : zfl mem 181 0 = some (.ref 2)) (hC : cQ 2 3 4 7 8 9 12 13 Q mem) (hW : WQ Q) (hS : tS 31 Q hu S mem) (hv : wS Q S) (hH : wH Q hu) (hn : Sn S < 999) (hd : 11 ≤ d) : yC zpg d 2 [.ref 181, .ref 31, .int 1, .int but] mem (fun r m => r = none ∧ aTm aT0 m ∧ (frS 31 mem m ∧ zfl m 181 0 = some (.ref 2) ∧ tS 31 Q hu (tkS Q hu but.toInt S) m ∧ fnd Q hu but.toInt S m)) := by
  refine yC_mono (fun r m q => ?_) (h_paA (N := 1) (S := S) (hu := hu) (s := 31) rfl hm hp hC hW iS_31 hS hv hH (by show Sn S + 1 ≤ 999; omega) hd)
  obtain ⟨q1, q2, q3, q4, q5, q6⟩ := q
  exact ⟨q1, q2, q3, q4, q5, q6 0 rfl⟩
set_option maxRecDepth 100000 in
theorem w_pk0A {d : Nat} {mem : zM} {P : Option Value → zM → Prop} {dark : Int32} {lo : List (Nat × Value)} (hm : aTm aT0 mem) (l_0 : zlg lo 0 = some (.ref 0)) (l_1 : zlg lo 1 = some (.int dark)) {Q : Qd} {S : Sd} {hu : Int → Int} (hp : zfl mem 181 0 = some (.ref 2)) (hC : cQ 2 3 4 7 8 9 12 13 Q mem) (hW : WQ Q) (hS : tS 31 Q hu S mem) (hv : wS Q S) (hH : wH Q hu) (hn : Sn S < 999) (h1 : ∀ (m4 : zM), aTm aT0 m4 → (frS 31 mem m4 ∧ zfl m4 181 0 = some (.ref 2) ∧ tS 31 Q hu (tkS Q hu (dark : Int32).toInt S) m4 ∧ fnd Q hu (dark : Int32).toInt S m4) → ∀ lo, zlg lo 0 = some (.ref 0) → zlg lo 1 = some (.int dark) → zlg lo 2 = some (.int (gi mem 31 0)) → zlg lo 3 = some (.int 0) → aTm aT0 m4 → yR zpg tX11_passAndKeep (d + 12) (23, lo, [], m4) P) : yR zpg tX11_passAndKeep (d + 12) (0, lo, [], mem) P := by
  refine wR_la rfl l_0 ?_
  refine wR_gr rfl cO_e cO_7 hm ?_
  refine wR_gi rfl nO_e nO_0 hm rfl ?_
  refine wR_si rfl rfl (fun lo1 e2 f3 => ?_)
  have lo1_0 := f3 0 _ (by decide) (Or.inl rfl) l_0
  have lo1_1 := f3 1 _ (by decide) (Or.inl rfl) l_1
  refine wR_la rfl lo1_0 ?_
  refine wR_gr rfl cO_e cO_10 hm ?_
  refine wR_la rfl lo1_0 ?_
  refine wR_gr rfl cO_e cO_7 hm ?_
  refine yR_m 1 (fun _ _ _ _ => rfl) ?_
  refine wR_li rfl lo1_1 ?_
  refine wR_cv rfl rfl hrO_e hm rfl (h_p1A (Q := Q) (S := S) (hu := hu) hm hp hC hW hS hv hH hn (by omega)) ?_
  rintro _ m4 ⟨rfl, hm4, k5⟩
  show yR zpg tX11_passAndKeep (d + 12) (21, lo1, [], m4) _
  refine yR_m 1 (fun _ _ _ _ => rfl) ?_
  refine wR_si rfl rfl (fun lo6 e7 f8 => ?_)
  have lo6_2 := f8 2 _ (by decide) (Or.inl rfl) e2
  have lo6_0 := f8 0 _ (by decide) (Or.inl rfl) lo1_0
  have lo6_1 := f8 1 _ (by decide) (Or.inl rfl) lo1_1
  exact h1 m4 hm4 k5 lo6 lo6_0 lo6_1 lo6_2 e7 hm4

set_option maxRecDepth 100000 in
theorem w_pk23A {d : Nat} {mem : zM} {P : Option Value → zM → Prop} {dark nn t : Int32} {lo : List (Nat × Value)} (hm : aTm aT0 mem) (l_0 : zlg lo 0 = some (.ref 0)) (l_1 : zlg lo 1 = some (.int dark)) (l_2 : zlg lo 2 = some (.int nn)) (l_3 : zlg lo 3 = some (.int t)) (hq4 : zfl mem 0 4 = some (.ref 2)) (ht : 0 ≤ t.toInt ∧ t.toInt ≤ 9) (h1 : (gi mem 2 7).toInt ≤ (t).toInt → ∀ (v2 : Int32), v2.toInt = pop (gi mem 181 3) → aTm aT0 mem → P (some (.int v2)) mem) (h2 : (t).toInt < (gi mem 2 7).toInt → (((gi mem 181 3) >>> (t &&& 31)) &&& 1).toInt = 0 → (((gi mem 181 4) >>> (t &&& 31)) &&& 1).toInt = 0 → ∀ (x6 : Int32), x6.toInt = ((t).toInt + 1) → ∀ lo, zlg lo 0 = some (.ref 0) → zlg lo 1 = some (.int dark) → zlg lo 2 = some (.int nn) → zlg lo 3 = some (.int x6) → aTm aT0 mem → yR zpg tX11_passAndKeep (d + 12) (23, lo, [], mem) P) (h3 : (t).toInt < (gi mem 2 7).toInt → (((gi mem 181 3) >>> (t &&& 31)) &&& 1).toInt = 0 → ¬ (((gi mem 181 4) >>> (t &&& 31)) &&& 1).toInt = 0 → ∀ (m11 : zM), aTm aT0 m11 → (frW 34 mem m11 ∧ ∀ K, kC 34 K mem → kC 34 (kpP K ((nn : Int32).toInt, (t : Int32).toInt, (0 : Int32).toInt)) m11) → ∀ (x13 : Int32), x13.toInt = ((t).toInt + 1) → ∀ lo, zlg lo 0 = some (.ref 0) → zlg lo 1 = some (.int dark) → zlg lo 2 = some (.int nn) → zlg lo 3 = some (.int x13) → aTm aT0 m11 → yR zpg tX11_passAndKeep (d + 12) (23, lo, [], m11) P) (h4 : (t).toInt < (gi mem 2 7).toInt → ¬ (((gi mem 181 3) >>> (t &&& 31)) &&& 1).toInt = 0 → ∀ (m18 : zM), aTm aT0 m18 → (frW 34 mem m18 ∧ ∀ K, kC 34 K mem → kC 34 (kpP K ((nn : Int32).toInt, (t : Int32).toInt, (1 : Int32).toInt)) m18) → ∀ (x20 : Int32), x20.toInt = ((t).toInt + 1) → ∀ lo, zlg lo 0 = some (.ref 0) → zlg lo 1 = some (.int dark) → zlg lo 2 = some (.int nn) → zlg lo 3 = some (.int x20) → aTm aT0 m18 → yR zpg tX11_passAndKeep (d + 12) (23, lo, [], m18) P) : yR zpg tX11_passAndKeep (d + 12) (23, lo, [], mem) P := by
  have f3 := hrO_r3 hm
  refine wR_li rfl l_3 ?_
  refine wR_la rfl l_0 ?_
  refine wR_gq rfl cO_e hm hq4 ?_
  refine wR_gi rfl quA_e quA_7 hm rfl ?_
  refine wR_ic_ge rfl (a := (t).toInt) (c := (gi mem 2 7).toInt) rfl rfl (fun q1 => ?_) (fun q1 => ?_)
  ·
    refine wR_la rfl l_0 ?_
    refine wR_gr rfl cO_e cO_10 hm ?_
    refine wR_gi rfl hrO_e hrO_3 hm rfl ?_
    refine yR_cs rfl rfl rfl (h_bc hm (by omega) (by omega)) ?_
    rintro _ _ ⟨v2, rfl, rfl, k3⟩
    show yR zpg tX11_passAndKeep (d + 12) (101, lo, [.int v2], mem) _
    exact yR_ri rfl (h1 q1 v2 k3 hm)
  ·
    refine wR_la rfl l_0 ?_
    refine wR_gr rfl cO_e cO_10 hm ?_
    refine wR_gi rfl hrO_e hrO_3 hm rfl ?_
    refine wR_li rfl l_3 ?_
    refine yR_m 3 (fun _ _ _ _ => rfl) ?_
    refine wR_if_eq rfl (a := (((gi mem 181 3) >>> (t &&& 31)) &&& 1).toInt) rfl (fun q4 => ?_) (fun q4 => ?_)
    ·
      refine wR_la rfl l_0 ?_
      refine wR_gr rfl cO_e cO_10 hm ?_
      refine wR_gi rfl hrO_e hrO_4 hm rfl ?_
      refine wR_li rfl l_3 ?_
      refine yR_m 3 (fun _ _ _ _ => rfl) ?_
      refine wR_if_eq rfl (a := (((gi mem 181 4) >>> (t &&& 31)) &&& 1).toInt) rfl (fun q5 => ?_) (fun q5 => ?_)
      ·
        refine wN_in (a := (t).toInt) (b := 1) rfl rfl l_3 rfl rfl (by omega) (fun x6 e7 => fun lo8 e9 f10 => ?_)
        have lo8_0 := f10 0 _ (by decide) (Or.inl rfl) l_0
        have lo8_1 := f10 1 _ (by decide) (Or.inl rfl) l_1
        have lo8_2 := f10 2 _ (by decide) (Or.inl rfl) l_2
        exact yR_m 1 (fun _ _ _ _ => rfl) (h2 q1 q4 q5 x6 e7 lo8 lo8_0 lo8_1 lo8_2 e9 hm)
      ·
        refine wR_la rfl l_0 ?_
        refine wR_gr rfl cO_e cO_8 hm ?_
        refine wR_li rfl l_2 ?_
        refine wR_li rfl l_3 ?_
        refine yR_m 1 (fun _ _ _ _ => rfl) ?_
        refine wR_cv rfl rfl wO_e hm rfl (h_ra hm iW_34 (by omega)) ?_
        rintro _ m11 ⟨rfl, hm11, k12⟩
        show yR zpg tX11_passAndKeep (d + 12) (85, lo, [], m11) _
        have f3_m11 := hrO_r3 hm11
        refine wN_in (a := (t).toInt) (b := 1) rfl rfl l_3 rfl rfl (by omega) (fun x13 e14 => fun lo15 e16 f17 => ?_)
        have lo15_0 := f17 0 _ (by decide) (Or.inl rfl) l_0
        have lo15_1 := f17 1 _ (by decide) (Or.inl rfl) l_1
        have lo15_2 := f17 2 _ (by decide) (Or.inl rfl) l_2
        exact yR_m 1 (fun _ _ _ _ => rfl) (h3 q1 q4 q5 m11 hm11 k12 x13 e14 lo15 lo15_0 lo15_1 lo15_2 e16 hm11)
    ·
      refine wR_la rfl l_0 ?_
      refine wR_gr rfl cO_e cO_8 hm ?_
      refine wR_li rfl l_2 ?_
      refine wR_li rfl l_3 ?_
      refine yR_m 1 (fun _ _ _ _ => rfl) ?_
      refine wR_cv rfl rfl wO_e hm rfl (h_ra hm iW_34 (by omega)) ?_
      rintro _ m18 ⟨rfl, hm18, k19⟩
      show yR zpg tX11_passAndKeep (d + 12) (58, lo, [], m18) _
      have f3_m18 := hrO_r3 hm18
      refine yR_m 1 (fun _ _ _ _ => rfl) ?_
      refine wN_in (a := (t).toInt) (b := 1) rfl rfl l_3 rfl rfl (by omega) (fun x20 e21 => fun lo22 e23 f24 => ?_)
      have lo22_0 := f24 0 _ (by decide) (Or.inl rfl) l_0
      have lo22_1 := f24 1 _ (by decide) (Or.inl rfl) l_1
      have lo22_2 := f24 2 _ (by decide) (Or.inl rfl) l_2
      exact yR_m 1 (fun _ _ _ _ => rfl) (h4 q1 q4 m18 hm18 k19 x20 e21 lo22 lo22_0 lo22_1 lo22_2 e23 hm18)

theorem pk_lpA {dark nn x : Int32} {T : Int → Prop} {mr : zM} {N : Int} (hW : WQ Q) (hCr : cQ 2 3 4 7 8 9 12 13 Q mr) (hqr : zfl mr 0 4 = some (.ref 2)) (hF : bSt (fun i => bt x i ∧ T i) (thN Q) (gi mr 181 3)) (hL : bSt (fun i => ¬ bt x i ∧ T i) (thN Q) (gi mr 181 4)) (hN : nn.toInt = N) : ∀ (g : Nat) (t : Int32) (mem : zM) (lo : List (Nat × Value)), t.toInt + (g : Int) = thN Q → 0 ≤ t.toInt → (∀ k, ¬ (34 ≤ k ∧ k ≤ 37) → zat mem k = zat mr k) → kC 34 (kpR T x N K t.toInt.toNat) mem → aTm aT0 mem → zlg lo 0 = some (.ref 0) → zlg lo 1 = some (.int dark) → zlg lo 2 = some (.int nn) → zlg lo 3 = some (.int t) → yR zpg tX11_passAndKeep (d + 12) (23, lo, [], mem) (fun r m => ∃ fo : Int32, r = some (.int fo) ∧ aTm aT0 m ∧ ((∀ k, ¬ (34 ≤ k ∧ k ≤ 37) → zat m k = zat mr k) ∧ kC 34 (kpR T x N K (Qt Q).length) m ∧ fo.toInt = pop (gi mr 181 3))) := by
  intro g
  have l9 : thN Q ≤ 9 := by
    have := hW.2.1.1
    unfold thN
    omega
  induction g with
  | zero =>
    intro t mem lo hg t0 hZ hK hm l0 l1 l2 l3
    have cn := (cq_nA (cQ_kA (fun k hk => hZ k (by omega)) hCr)).1
    have hq : zfl mem 0 4 = some (.ref 2) := (zfl_ea (hZ 0 (by omega))).trans hqr
    rw [show t.toInt.toNat = (Qt Q).length by unfold thN at hg; omega] at hK
    exact w_pk23A hm l0 l1 l2 l3 hq ⟨t0, by omega⟩ 
        (fun q1 v2 k3 hm2 => ⟨_, rfl, hm2, hZ, hK, by rw [k3, gi_zq (hZ 181 (by omega))]⟩)
        (fun q1 q4 q5 x6 e7 lo a0 a1 a2 a3 hm2 => by exfalso; omega)
        (fun q1 q4 q5 m11 hm11 k12 x13 e14 lo a0 a1 a2 a3 hm2 => by exfalso; omega)
        (fun q1 q4 m18 hm18 k19 x20 e21 lo a0 a1 a2 a3 hm2 => by exfalso; omega)
  | succ g ih =>
    intro t mem lo hg t0 hZ hK hm l0 l1 l2 l3
    have cn := (cq_nA (cQ_kA (fun k hk => hZ k (by omega)) hCr)).1
    have hq : zfl mem 0 4 = some (.ref 2) := (zfl_ea (hZ 0 (by omega))).trans hqr
    have f3 : gi mem 181 3 = gi mr 181 3 := gi_zq (hZ 181 (by omega))
    have f4 : gi mem 181 4 = gi mr 181 4 := gi_zq (hZ 181 (by omega))
    have b3 := hF t.toInt t0 (by omega)
    have b4 := hL t.toInt t0 (by omega)
    exact w_pk23A hm l0 l1 l2 l3 hq ⟨t0, by omega⟩ 
        (fun q1 v2 k3 hm2 => by exfalso; omega)
        (fun q1 q4 q5 x6 e7 lo a0 a1 a2 a3 hm2 => by
        have nT : ¬ T t.toInt := fun hT => by
          have z3 := mi_0 t0 (by omega) q4
          have z4 := mi_0 t0 (by omega) q5
          rw [f3, b3] at z3
          rw [f4, b4] at z4
          by_cases w : bt x t.toInt
          · exact z3 ⟨by omega, w, hT⟩
          · exact z4 ⟨by omega, w, hT⟩
        exact ih _ _ lo (by omega) (by omega) hZ (by rw [kpR_n t0 e7 nT]; exact hK) hm2 a0 a1 a2 a3)
        (fun q1 q4 q5 m11 hm11 k12 x13 e14 lo a0 a1 a2 a3 hm2 => ih _ _ lo (by omega) (by omega) (fun k hk => (k12.1 k (by omega) (by omega) (by omega) (by omega)).trans (hZ k hk)) (by rw [kpR_0 t0 e14 (by have z := mi_1 t0 (by omega) q5; rw [f4, b4] at z; exact z.2.1) (by have z := mi_1 t0 (by omega) q5; rw [f4, b4] at z; exact z.2.2)]; have z := k12.2 _ hK; rw [hN] at z; exact z) hm2 a0 a1 a2 a3)
        (fun q1 q4 m18 hm18 k19 x20 e21 lo a0 a1 a2 a3 hm2 => ih _ _ lo (by omega) (by omega) (fun k hk => (k19.1 k (by omega) (by omega) (by omega) (by omega)).trans (hZ k hk)) (by rw [kpR_1 t0 e21 (by have z := mi_1 t0 (by omega) q4; rw [f3, b3] at z; exact z.2.1) (by have z := mi_1 t0 (by omega) q4; rw [f3, b3] at z; exact z.2.2)]; have z := k19.2 _ hK; rw [hN] at z; exact z) hm2 a0 a1 a2 a3)
theorem h_pkA {dark : Int32} (hm : aTm aT0 mem) (hq4 : zfl mem 0 4 = some (.ref 2)) (hp : zfl mem 181 0 = some (.ref 2)) (hC : cQ 2 3 4 7 8 9 12 13 Q mem) (hW : WQ Q) (hS : tS 31 Q hu S mem) (hv : wS Q S) (hH : wH Q hu) (hn : Sn S < 999) (hK : kC 34 K mem) (hd : 13 ≤ d) : yC zpg d 153 [.ref 0, .int dark] mem (fun r m => ∃ fo : Int32, r = some (.int fo) ∧ aTm aT0 m ∧ ((∀ k, ¬ (31 ≤ k ∧ k ≤ 37) → ¬ (181 ≤ k ∧ k ≤ 184) → zat m k = zat mem k) ∧ zfl m 181 0 = some (.ref 2) ∧ tS 31 Q hu (tkS Q hu dark.toInt S) m ∧ kC 34 (tkK Q hu dark.toInt S K) m ∧ fo.toInt = fdN Q hu dark.toInt S)) := by
  obtain ⟨d, rfl⟩ : ∃ q, d = q + 13 := ⟨d - 13, by omega⟩
  refine yC_of (t := tX11_passAndKeep) rfl rfl ?_
  exact w_pk0A (S := S) (hu := hu) hm rfl rfl hp hC hW hS hv hH hn (fun m4 hm4 k4 lo a0 a1 a2 a3 hm2 => by
    obtain ⟨F, p4, S4, N4⟩ := k4
    have Z : ∀ k, ¬ (31 ≤ k ∧ k ≤ 33) → ¬ (181 ≤ k ∧ k ≤ 184) → zat m4 k = zat mem k := fun k q1 q2 => F k (by omega) (by omega) (by omega) q2
    have r3 := hrO_r3 hm4
    refine yR_mono ?_ (pk_lpA (T := tnP Q hu (mvS Q hu dark.toInt S)) (x := Sm S) (N := Sn S) (K := K) hW (cQ_kA (fun k hk => Z k (by omega) (by omega)) hC) ((zfl_ea (Z 0 (by omega) (by omega))).trans hq4) (bSt_c fP_T N4.1) (bSt_c lP_T N4.2) hS.1.1 (Qt Q).length 0 m4 lo (by show (0 : Int) + _ = _; unfold thN; omega) (by decide) (fun _ _ => rfl) (kC_zq (Z 34 (by omega) (by omega)) (Z 35 (by omega) (by omega)) (Z 36 (by omega) (by omega)) (Z 37 (by omega) (by omega)) hK) hm2 a0 a1 a2 a3)
    rintro r m ⟨fo, h1, h2, h3, h4, h5⟩
    refine ⟨fo, h1, h2, fun k q1 q2 => (h3 k (by omega)).trans (Z k (by omega) q2), (zfl_ea (h3 181 (by omega))).trans p4, tS_zq (h3 31 (by omega)) (h3 32 (by omega)) (h3 33 (by omega)) S4, h4, ?_⟩
    rw [h5]
    exact fd_pop hW hv r3.1 N4.1)
end PKA
section PKB
variable {d : Nat} {mem : zM} {Q : Qd} {S : Sd} {K : Kd} {hu : Int → Int}
theorem h_p1B {but : Int32} (hm : aTm aT0 mem) (hp : zfl mem 181 0 = some (.ref 14)) (hC : cQ 14 15 16 19 20 21 24 25 Q mem) (hW : WQ Q) (hS : tS 31 Q hu S mem) (hv : wS Q S) (hH : wH Q hu) (hn : Sn S < 999) (hd : 11 ≤ d) : yC zpg d 2 [.ref 181, .ref 31, .int 1, .int but] mem (fun r m => r = none ∧ aTm aT0 m ∧ (frS 31 mem m ∧ zfl m 181 0 = some (.ref 14) ∧ tS 31 Q hu (tkS Q hu but.toInt S) m ∧ fnd Q hu but.toInt S m)) := by
  refine yC_mono (fun r m q => ?_) (h_paB (N := 1) (S := S) (hu := hu) (s := 31) rfl hm hp hC hW iS_31 hS hv hH (by show Sn S + 1 ≤ 999; omega) hd)
  obtain ⟨q1, q2, q3, q4, q5, q6⟩ := q
  exact ⟨q1, q2, q3, q4, q5, q6 0 rfl⟩
set_option maxRecDepth 100000 in
theorem w_pk0B {d : Nat} {mem : zM} {P : Option Value → zM → Prop} {dark : Int32} {lo : List (Nat × Value)} (hm : aTm aT0 mem) (l_0 : zlg lo 0 = some (.ref 0)) (l_1 : zlg lo 1 = some (.int dark)) {Q : Qd} {S : Sd} {hu : Int → Int} (hp : zfl mem 181 0 = some (.ref 14)) (hC : cQ 14 15 16 19 20 21 24 25 Q mem) (hW : WQ Q) (hS : tS 31 Q hu S mem) (hv : wS Q S) (hH : wH Q hu) (hn : Sn S < 999) (h1 : ∀ (m4 : zM), aTm aT0 m4 → (frS 31 mem m4 ∧ zfl m4 181 0 = some (.ref 14) ∧ tS 31 Q hu (tkS Q hu (dark : Int32).toInt S) m4 ∧ fnd Q hu (dark : Int32).toInt S m4) → ∀ lo, zlg lo 0 = some (.ref 0) → zlg lo 1 = some (.int dark) → zlg lo 2 = some (.int (gi mem 31 0)) → zlg lo 3 = some (.int 0) → aTm aT0 m4 → yR zpg tX11_passAndKeep (d + 12) (23, lo, [], m4) P) : yR zpg tX11_passAndKeep (d + 12) (0, lo, [], mem) P := by
  refine wR_la rfl l_0 ?_
  refine wR_gr rfl cO_e cO_7 hm ?_
  refine wR_gi rfl nO_e nO_0 hm rfl ?_
  refine wR_si rfl rfl (fun lo1 e2 f3 => ?_)
  have lo1_0 := f3 0 _ (by decide) (Or.inl rfl) l_0
  have lo1_1 := f3 1 _ (by decide) (Or.inl rfl) l_1
  refine wR_la rfl lo1_0 ?_
  refine wR_gr rfl cO_e cO_10 hm ?_
  refine wR_la rfl lo1_0 ?_
  refine wR_gr rfl cO_e cO_7 hm ?_
  refine yR_m 1 (fun _ _ _ _ => rfl) ?_
  refine wR_li rfl lo1_1 ?_
  refine wR_cv rfl rfl hrO_e hm rfl (h_p1B (Q := Q) (S := S) (hu := hu) hm hp hC hW hS hv hH hn (by omega)) ?_
  rintro _ m4 ⟨rfl, hm4, k5⟩
  show yR zpg tX11_passAndKeep (d + 12) (21, lo1, [], m4) _
  refine yR_m 1 (fun _ _ _ _ => rfl) ?_
  refine wR_si rfl rfl (fun lo6 e7 f8 => ?_)
  have lo6_2 := f8 2 _ (by decide) (Or.inl rfl) e2
  have lo6_0 := f8 0 _ (by decide) (Or.inl rfl) lo1_0
  have lo6_1 := f8 1 _ (by decide) (Or.inl rfl) lo1_1
  exact h1 m4 hm4 k5 lo6 lo6_0 lo6_1 lo6_2 e7 hm4

set_option maxRecDepth 100000 in
theorem w_pk23B {d : Nat} {mem : zM} {P : Option Value → zM → Prop} {dark nn t : Int32} {lo : List (Nat × Value)} (hm : aTm aT0 mem) (l_0 : zlg lo 0 = some (.ref 0)) (l_1 : zlg lo 1 = some (.int dark)) (l_2 : zlg lo 2 = some (.int nn)) (l_3 : zlg lo 3 = some (.int t)) (hq4 : zfl mem 0 4 = some (.ref 14)) (ht : 0 ≤ t.toInt ∧ t.toInt ≤ 9) (h1 : (gi mem 14 7).toInt ≤ (t).toInt → ∀ (v2 : Int32), v2.toInt = pop (gi mem 181 3) → aTm aT0 mem → P (some (.int v2)) mem) (h2 : (t).toInt < (gi mem 14 7).toInt → (((gi mem 181 3) >>> (t &&& 31)) &&& 1).toInt = 0 → (((gi mem 181 4) >>> (t &&& 31)) &&& 1).toInt = 0 → ∀ (x6 : Int32), x6.toInt = ((t).toInt + 1) → ∀ lo, zlg lo 0 = some (.ref 0) → zlg lo 1 = some (.int dark) → zlg lo 2 = some (.int nn) → zlg lo 3 = some (.int x6) → aTm aT0 mem → yR zpg tX11_passAndKeep (d + 12) (23, lo, [], mem) P) (h3 : (t).toInt < (gi mem 14 7).toInt → (((gi mem 181 3) >>> (t &&& 31)) &&& 1).toInt = 0 → ¬ (((gi mem 181 4) >>> (t &&& 31)) &&& 1).toInt = 0 → ∀ (m11 : zM), aTm aT0 m11 → (frW 34 mem m11 ∧ ∀ K, kC 34 K mem → kC 34 (kpP K ((nn : Int32).toInt, (t : Int32).toInt, (0 : Int32).toInt)) m11) → ∀ (x13 : Int32), x13.toInt = ((t).toInt + 1) → ∀ lo, zlg lo 0 = some (.ref 0) → zlg lo 1 = some (.int dark) → zlg lo 2 = some (.int nn) → zlg lo 3 = some (.int x13) → aTm aT0 m11 → yR zpg tX11_passAndKeep (d + 12) (23, lo, [], m11) P) (h4 : (t).toInt < (gi mem 14 7).toInt → ¬ (((gi mem 181 3) >>> (t &&& 31)) &&& 1).toInt = 0 → ∀ (m18 : zM), aTm aT0 m18 → (frW 34 mem m18 ∧ ∀ K, kC 34 K mem → kC 34 (kpP K ((nn : Int32).toInt, (t : Int32).toInt, (1 : Int32).toInt)) m18) → ∀ (x20 : Int32), x20.toInt = ((t).toInt + 1) → ∀ lo, zlg lo 0 = some (.ref 0) → zlg lo 1 = some (.int dark) → zlg lo 2 = some (.int nn) → zlg lo 3 = some (.int x20) → aTm aT0 m18 → yR zpg tX11_passAndKeep (d + 12) (23, lo, [], m18) P) : yR zpg tX11_passAndKeep (d + 12) (23, lo, [], mem) P := by
  have f3 := hrO_r3 hm
  refine wR_li rfl l_3 ?_
  refine wR_la rfl l_0 ?_
  refine wR_gq rfl cO_e hm hq4 ?_
  refine wR_gi rfl quB_e quB_7 hm rfl ?_
  refine wR_ic_ge rfl (a := (t).toInt) (c := (gi mem 14 7).toInt) rfl rfl (fun q1 => ?_) (fun q1 => ?_)
  ·
    refine wR_la rfl l_0 ?_
    refine wR_gr rfl cO_e cO_10 hm ?_
    refine wR_gi rfl hrO_e hrO_3 hm rfl ?_
    refine yR_cs rfl rfl rfl (h_bc hm (by omega) (by omega)) ?_
    rintro _ _ ⟨v2, rfl, rfl, k3⟩
    show yR zpg tX11_passAndKeep (d + 12) (101, lo, [.int v2], mem) _
    exact yR_ri rfl (h1 q1 v2 k3 hm)
  ·
    refine wR_la rfl l_0 ?_
    refine wR_gr rfl cO_e cO_10 hm ?_
    refine wR_gi rfl hrO_e hrO_3 hm rfl ?_
    refine wR_li rfl l_3 ?_
    refine yR_m 3 (fun _ _ _ _ => rfl) ?_
    refine wR_if_eq rfl (a := (((gi mem 181 3) >>> (t &&& 31)) &&& 1).toInt) rfl (fun q4 => ?_) (fun q4 => ?_)
    ·
      refine wR_la rfl l_0 ?_
      refine wR_gr rfl cO_e cO_10 hm ?_
      refine wR_gi rfl hrO_e hrO_4 hm rfl ?_
      refine wR_li rfl l_3 ?_
      refine yR_m 3 (fun _ _ _ _ => rfl) ?_
      refine wR_if_eq rfl (a := (((gi mem 181 4) >>> (t &&& 31)) &&& 1).toInt) rfl (fun q5 => ?_) (fun q5 => ?_)
      ·
        refine wN_in (a := (t).toInt) (b := 1) rfl rfl l_3 rfl rfl (by omega) (fun x6 e7 => fun lo8 e9 f10 => ?_)
        have lo8_0 := f10 0 _ (by decide) (Or.inl rfl) l_0
        have lo8_1 := f10 1 _ (by decide) (Or.inl rfl) l_1
        have lo8_2 := f10 2 _ (by decide) (Or.inl rfl) l_2
        exact yR_m 1 (fun _ _ _ _ => rfl) (h2 q1 q4 q5 x6 e7 lo8 lo8_0 lo8_1 lo8_2 e9 hm)
      ·
        refine wR_la rfl l_0 ?_
        refine wR_gr rfl cO_e cO_8 hm ?_
        refine wR_li rfl l_2 ?_
        refine wR_li rfl l_3 ?_
        refine yR_m 1 (fun _ _ _ _ => rfl) ?_
        refine wR_cv rfl rfl wO_e hm rfl (h_ra hm iW_34 (by omega)) ?_
        rintro _ m11 ⟨rfl, hm11, k12⟩
        show yR zpg tX11_passAndKeep (d + 12) (85, lo, [], m11) _
        have f3_m11 := hrO_r3 hm11
        refine wN_in (a := (t).toInt) (b := 1) rfl rfl l_3 rfl rfl (by omega) (fun x13 e14 => fun lo15 e16 f17 => ?_)
        have lo15_0 := f17 0 _ (by decide) (Or.inl rfl) l_0
        have lo15_1 := f17 1 _ (by decide) (Or.inl rfl) l_1
        have lo15_2 := f17 2 _ (by decide) (Or.inl rfl) l_2
        exact yR_m 1 (fun _ _ _ _ => rfl) (h3 q1 q4 q5 m11 hm11 k12 x13 e14 lo15 lo15_0 lo15_1 lo15_2 e16 hm11)
    ·
      refine wR_la rfl l_0 ?_
      refine wR_gr rfl cO_e cO_8 hm ?_
      refine wR_li rfl l_2 ?_
      refine wR_li rfl l_3 ?_
      refine yR_m 1 (fun _ _ _ _ => rfl) ?_
      refine wR_cv rfl rfl wO_e hm rfl (h_ra hm iW_34 (by omega)) ?_
      rintro _ m18 ⟨rfl, hm18, k19⟩
      show yR zpg tX11_passAndKeep (d + 12) (58, lo, [], m18) _
      have f3_m18 := hrO_r3 hm18
      refine yR_m 1 (fun _ _ _ _ => rfl) ?_
      refine wN_in (a := (t).toInt) (b := 1) rfl rfl l_3 rfl rfl (by omega) (fun x20 e21 => fun lo22 e23 f24 => ?_)
      have lo22_0 := f24 0 _ (by decide) (Or.inl rfl) l_0
      have lo22_1 := f24 1 _ (by decide) (Or.inl rfl) l_1
      have lo22_2 := f24 2 _ (by decide) (Or.inl rfl) l_2
      exact yR_m 1 (fun _ _ _ _ => rfl) (h4 q1 q4 m18 hm18 k19 x20 e21 lo22 lo22_0 lo22_1 lo22_2 e23 hm18)

theorem pk_lpB {dark nn x : Int32} {T : Int → Prop} {mr : zM} {N : Int} (hW : WQ Q) (hCr : cQ 14 15 16 19 20 21 24 25 Q mr) (hqr : zfl mr 0 4 = some (.ref 14)) (hF : bSt (fun i => bt x i ∧ T i) (thN Q) (gi mr 181 3)) (hL : bSt (fun i => ¬ bt x i ∧ T i) (thN Q) (gi mr 181 4)) (hN : nn.toInt = N) : ∀ (g : Nat) (t : Int32) (mem : zM) (lo : List (Nat × Value)), t.toInt + (g : Int) = thN Q → 0 ≤ t.toInt → (∀ k, ¬ (34 ≤ k ∧ k ≤ 37) → zat mem k = zat mr k) → kC 34 (kpR T x N K t.toInt.toNat) mem → aTm aT0 mem → zlg lo 0 = some (.ref 0) → zlg lo 1 = some (.int dark) → zlg lo 2 = some (.int nn) → zlg lo 3 = some (.int t) → yR zpg tX11_passAndKeep (d + 12) (23, lo, [], mem) (fun r m => ∃ fo : Int32, r = some (.int fo) ∧ aTm aT0 m ∧ ((∀ k, ¬ (34 ≤ k ∧ k ≤ 37) → zat m k = zat mr k) ∧ kC 34 (kpR T x N K (Qt Q).length) m ∧ fo.toInt = pop (gi mr 181 3))) := by
  intro g
  have l9 : thN Q ≤ 9 := by
    have := hW.2.1.1
    unfold thN
    omega
  induction g with
  | zero =>
    intro t mem lo hg t0 hZ hK hm l0 l1 l2 l3
    have cn := (cq_nB (cQ_kB (fun k hk => hZ k (by omega)) hCr)).1
    have hq : zfl mem 0 4 = some (.ref 14) := (zfl_ea (hZ 0 (by omega))).trans hqr
    rw [show t.toInt.toNat = (Qt Q).length by unfold thN at hg; omega] at hK
    exact w_pk23B hm l0 l1 l2 l3 hq ⟨t0, by omega⟩ 
        (fun q1 v2 k3 hm2 => ⟨_, rfl, hm2, hZ, hK, by rw [k3, gi_zq (hZ 181 (by omega))]⟩)
        (fun q1 q4 q5 x6 e7 lo a0 a1 a2 a3 hm2 => by exfalso; omega)
        (fun q1 q4 q5 m11 hm11 k12 x13 e14 lo a0 a1 a2 a3 hm2 => by exfalso; omega)
        (fun q1 q4 m18 hm18 k19 x20 e21 lo a0 a1 a2 a3 hm2 => by exfalso; omega)
  | succ g ih =>
    intro t mem lo hg t0 hZ hK hm l0 l1 l2 l3
    have cn := (cq_nB (cQ_kB (fun k hk => hZ k (by omega)) hCr)).1
    have hq : zfl mem 0 4 = some (.ref 14) := (zfl_ea (hZ 0 (by omega))).trans hqr
    have f3 : gi mem 181 3 = gi mr 181 3 := gi_zq (hZ 181 (by omega))
    have f4 : gi mem 181 4 = gi mr 181 4 := gi_zq (hZ 181 (by omega))
    have b3 := hF t.toInt t0 (by omega)
    have b4 := hL t.toInt t0 (by omega)
    exact w_pk23B hm l0 l1 l2 l3 hq ⟨t0, by omega⟩ 
        (fun q1 v2 k3 hm2 => by exfalso; omega)
        (fun q1 q4 q5 x6 e7 lo a0 a1 a2 a3 hm2 => by
        have nT : ¬ T t.toInt := fun hT => by
          have z3 := mi_0 t0 (by omega) q4
          have z4 := mi_0 t0 (by omega) q5
          rw [f3, b3] at z3
          rw [f4, b4] at z4
          by_cases w : bt x t.toInt
          · exact z3 ⟨by omega, w, hT⟩
          · exact z4 ⟨by omega, w, hT⟩
        exact ih _ _ lo (by omega) (by omega) hZ (by rw [kpR_n t0 e7 nT]; exact hK) hm2 a0 a1 a2 a3)
        (fun q1 q4 q5 m11 hm11 k12 x13 e14 lo a0 a1 a2 a3 hm2 => ih _ _ lo (by omega) (by omega) (fun k hk => (k12.1 k (by omega) (by omega) (by omega) (by omega)).trans (hZ k hk)) (by rw [kpR_0 t0 e14 (by have z := mi_1 t0 (by omega) q5; rw [f4, b4] at z; exact z.2.1) (by have z := mi_1 t0 (by omega) q5; rw [f4, b4] at z; exact z.2.2)]; have z := k12.2 _ hK; rw [hN] at z; exact z) hm2 a0 a1 a2 a3)
        (fun q1 q4 m18 hm18 k19 x20 e21 lo a0 a1 a2 a3 hm2 => ih _ _ lo (by omega) (by omega) (fun k hk => (k19.1 k (by omega) (by omega) (by omega) (by omega)).trans (hZ k hk)) (by rw [kpR_1 t0 e21 (by have z := mi_1 t0 (by omega) q4; rw [f3, b3] at z; exact z.2.1) (by have z := mi_1 t0 (by omega) q4; rw [f3, b3] at z; exact z.2.2)]; have z := k19.2 _ hK; rw [hN] at z; exact z) hm2 a0 a1 a2 a3)
theorem h_pkB {dark : Int32} (hm : aTm aT0 mem) (hq4 : zfl mem 0 4 = some (.ref 14)) (hp : zfl mem 181 0 = some (.ref 14)) (hC : cQ 14 15 16 19 20 21 24 25 Q mem) (hW : WQ Q) (hS : tS 31 Q hu S mem) (hv : wS Q S) (hH : wH Q hu) (hn : Sn S < 999) (hK : kC 34 K mem) (hd : 13 ≤ d) : yC zpg d 153 [.ref 0, .int dark] mem (fun r m => ∃ fo : Int32, r = some (.int fo) ∧ aTm aT0 m ∧ ((∀ k, ¬ (31 ≤ k ∧ k ≤ 37) → ¬ (181 ≤ k ∧ k ≤ 184) → zat m k = zat mem k) ∧ zfl m 181 0 = some (.ref 14) ∧ tS 31 Q hu (tkS Q hu dark.toInt S) m ∧ kC 34 (tkK Q hu dark.toInt S K) m ∧ fo.toInt = fdN Q hu dark.toInt S)) := by
  obtain ⟨d, rfl⟩ : ∃ q, d = q + 13 := ⟨d - 13, by omega⟩
  refine yC_of (t := tX11_passAndKeep) rfl rfl ?_
  exact w_pk0B (S := S) (hu := hu) hm rfl rfl hp hC hW hS hv hH hn (fun m4 hm4 k4 lo a0 a1 a2 a3 hm2 => by
    obtain ⟨F, p4, S4, N4⟩ := k4
    have Z : ∀ k, ¬ (31 ≤ k ∧ k ≤ 33) → ¬ (181 ≤ k ∧ k ≤ 184) → zat m4 k = zat mem k := fun k q1 q2 => F k (by omega) (by omega) (by omega) q2
    have r3 := hrO_r3 hm4
    refine yR_mono ?_ (pk_lpB (T := tnP Q hu (mvS Q hu dark.toInt S)) (x := Sm S) (N := Sn S) (K := K) hW (cQ_kB (fun k hk => Z k (by omega) (by omega)) hC) ((zfl_ea (Z 0 (by omega) (by omega))).trans hq4) (bSt_c fP_T N4.1) (bSt_c lP_T N4.2) hS.1.1 (Qt Q).length 0 m4 lo (by show (0 : Int) + _ = _; unfold thN; omega) (by decide) (fun _ _ => rfl) (kC_zq (Z 34 (by omega) (by omega)) (Z 35 (by omega) (by omega)) (Z 36 (by omega) (by omega)) (Z 37 (by omega) (by omega)) hK) hm2 a0 a1 a2 a3)
    rintro r m ⟨fo, h1, h2, h3, h4, h5⟩
    refine ⟨fo, h1, h2, fun k q1 q2 => (h3 k (by omega)).trans (Z k (by omega) q2), (zfl_ea (h3 181 (by omega))).trans p4, tS_zq (h3 31 (by omega)) (h3 32 (by omega)) (h3 33 (by omega)) S4, h4, ?_⟩
    rw [h5]
    exact fd_pop hW hv r3.1 N4.1)
end PKB
