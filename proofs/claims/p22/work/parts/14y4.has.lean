/-! the class's statements: has -/
section CU
variable {d : Nat} {mr mem m : zM} {T : List Int32} {n p q v a b : Int} {Q : Qd}
theorem bt_b {k : Int32} {i : Int} (h0 : 0 ≤ k.toInt) (h1 : k.toInt < 31) (i0 : 0 ≤ i) (i1 : i < 31) : ((1 : Int32) <<< (k &&& 31)).toBitVec.getLsbD i.toNat = decide (i.toNat = k.toInt.toNat) := by
  show ((1#32 : BitVec 32) <<< ((k &&& 31).toBitVec.smod 32).toNat).getLsbD i.toNat = _
  rw [i32_sa h0 (by omega), BitVec.getLsbD_shiftLeft]
  have hK : k.toInt.toNat < 31 := by omega
  have hI : i.toNat < 31 := by omega
  generalize k.toInt.toNat = K at hK ⊢
  generalize i.toNat = I at hI ⊢
  rw [BitVec.getLsbD_one]
  by_cases w : I = K
  · subst w
    simp
    omega
  · rw [decide_eq_false w]
    simp
    omega
theorem bt_an {x k : Int32} {i : Int} (h0 : 0 ≤ k.toInt) (h1 : k.toInt < 31) (i0 : 0 ≤ i) (i1 : i < 31) : bt (x &&& (((1 : Int32) <<< (k &&& 31)) ^^^ (-1))) i ↔ (bt x i ∧ ¬ i = k.toInt) := by
  unfold bt
  have e1 : (-1 : Int32).toBitVec.getLsbD i.toNat = true := by
    show (BitVec.allOnes 32).getLsbD i.toNat = true
    rw [BitVec.getLsbD_allOnes]
    exact decide_eq_true (by omega)
  rw [Int32.toBitVec_and, BitVec.getLsbD_and, Int32.toBitVec_xor, BitVec.getLsbD_xor, bt_b h0 h1 i0 i1, e1, Bool.and_eq_true]
  by_cases w : i.toNat = k.toInt.toNat
  · rw [decide_eq_true w]
    exact ⟨fun z => absurd z.2 (by decide), fun z => absurd (show i = k.toInt by omega) z.2⟩
  · rw [decide_eq_false w]
    exact ⟨fun z => ⟨z.1, fun c => w (by rw [c])⟩, fun z => ⟨z.1, rfl⟩⟩
theorem bt_sh0 {x k : Int32} (h0 : 0 ≤ k.toInt) (h1 : k.toInt < 31) : ((x >>> (k &&& 31)) &&& 1).toInt = 0 ↔ ¬ bt x k.toInt := by
  have B := bt_shr (x := x) h0 h1
  have r := i32_and_r (x := x >>> (k &&& 31)) (y := 1) (by decide)
  have e : (1 : Int32).toInt = 1 := rfl
  rw [← B]
  omega
theorem tn_ixC {q nm pl : Nat} {w v : Int} {l : List Int} (ht : cQt q nm pl (Qt Q) m) (hw : w = cnl l) (hl : ∀ c ∈ l, ltr c) (h : tnC q nm m w v) : (v = -1 ∧ tIx Q l = none) ∨ (∃ i : Nat, v = (i : Int) ∧ i < (Qt Q).length ∧ tIx Q l = some i) := by
  have key : ∀ (i : Nat) (hi : i < (Qt Q).length), gn (ga m nm) (i : Int) = w ↔ ((Qt Q)[i]).1 = l := fun i hi => by
    have k := ht.2 i _ (List.getElem?_eq_getElem hi)
    constructor
    · intro e
      rw [e, hw] at k
      exact (cnl_inj _ _ hl k.2.1 k.1).symm
    · intro e
      rw [k.1, e, hw]
  rcases h with ⟨h1, h2⟩ | ⟨⟨h1, h2⟩, h3, h4⟩
  · refine Or.inl ⟨h1, ?_⟩
    unfold tIx
    rw [List.findIdx?_eq_none_iff]
    intro x hx
    obtain ⟨i, hi, ei⟩ := List.mem_iff_getElem.1 hx
    have z := h2 (i : Int) (by omega) (by rw [ht.1]; omega)
    rw [key i hi, ei] at z
    simpa using z
  · rw [ht.1] at h2
    have hi : v.toNat < (Qt Q).length := by omega
    have ev : ((v.toNat : Nat) : Int) = v := by omega
    refine Or.inr ⟨v.toNat, ev.symm, hi, ?_⟩
    unfold tIx
    rw [List.findIdx?_eq_some_iff_getElem]
    refine ⟨hi, ?_, fun j hj => ?_⟩
    · have z := (key v.toNat hi).1 (by rw [ev]; exact h3)
      simpa using z
    · have z := h4 (j : Int) (by omega) (by omega)
      rw [key j (by omega)] at z
      simpa using z
theorem cQ_hasA {x : Int32} {i : Nat} (hm : aTm aT0 m) (h : cQ 2 3 4 7 8 9 12 13 Q m) (hx : x.toInt = (i : Int)) (hi : i < (Qt Q).length) (h9 : x.toInt < 9) : cQ 2 3 4 7 8 9 12 13 (Qc Q, Qr Q, Qw Q, Qt Q, (i : Int) :: Qh Q, Qf Q, Qu Q, Qx Q) (si m 2 12 ((gi m 2 12) &&& (((1 : Int32) <<< (x &&& 31)) ^^^ (-1)))) := by
  have g : gi (si m 2 12 ((gi m 2 12) &&& (((1 : Int32) <<< (x &&& 31)) ^^^ (-1)))) 2 12 = (gi m 2 12) &&& (((1 : Int32) <<< (x &&& 31)) ^^^ (-1)) := gi_eqQ (isQ_of quA_e hm) quA_12
  have X := cQx_eq (q := 2) (Q := Q) (m' := si m 2 12 ((gi m 2 12) &&& (((1 : Int32) <<< (x &&& 31)) ^^^ (-1)))) (gi_sv_ne (by decide)) (gi_sv_ne (by decide)) (gL_sv_ne (by decide)) ga_sv ga_sv ga_sv ga_sv ga_sv (gi_sv_ne (by decide)) h.2.2.2.2.2.2
  unfold cQ cQw cQt cQh cQf cQu at h ⊢
  rw [g, gi_sv_ne (by decide), gi_sv_ne (by decide), gi_sv_ne (by decide), gi_sv_ne (by decide), gL_sv_ne (by decide), ga_sv, ga_sv, ga_sv, ga_sv, ga_sv, ga_sv, ga_sv]
  refine ⟨h.1, h.2.1, h.2.2.1, ⟨fun j j0 j1 => ?_, fun j hj => ?_⟩, h.2.2.2.2.1, h.2.2.2.2.2.1, X⟩
  · show _ ↔ (j < ((Qt Q).length : Int) ∧ ¬ j ∈ (i : Int) :: Qh Q)
    rw [bt_an (by omega) (by omega) j0 (by omega), h.2.2.2.1.1 j j0 j1, List.mem_cons, hx]
    constructor
    · rintro ⟨⟨w1, w2⟩, w3⟩
      exact ⟨w1, fun z => z.elim w3 w2⟩
    · rintro ⟨w1, w2⟩
      exact ⟨⟨w1, fun z => w2 (Or.inr z)⟩, fun z => w2 (Or.inl z)⟩
  · have hj : j ∈ (i : Int) :: Qh Q := hj
    show j < ((Qt Q).length : Int)
    rcases List.mem_cons.1 hj with w | w
    · omega
    · exact h.2.2.2.1.2 j w
set_option maxRecDepth 100000 in
theorem w_haA {d : Nat} {mem : zM} {P : Option Value → zM → Prop} {T : List Int32} {n p : Int} {Q : Qd} (hm : aTm aT0 mem) (ht : zfl mem 26 2 = some (.ref 2)) (hR : cRd T n p mem) (hk4 : ¬ (tkf T n p).1.1 = 4) (hq : hqQ Q) (hQ : cQ 2 3 4 7 8 9 12 13 Q mem) (h1 : ∀ (m1 : zM), aTm aT0 m1 → (fo 27 [] avF mem m1 ∧ cRd T n (tkf T n p).2 m1) → ∀ (v5 : Int32) (q6 : Int) (m3 : zM), aTm aT0 m3 → naH T n (tkf T n p).2 m1 v5.toInt q6 m3 → ¬ (v5).toInt = 0 → ∀ (v8 : Int32), tnC 2 3 m3 (gi m3 27 8).toInt v8.toInt → (v8).toInt = (-1) → aTm aT0 (si (si m3 27 10 3) 27 11 (gi m3 27 9)) → P (some (.int 0)) (si (si m3 27 10 3) 27 11 (gi m3 27 9))) (s1 : ∀ (m1 : zM), aTm aT0 m1 → (fo 27 [] avF mem m1 ∧ cRd T n (tkf T n p).2 m1) → ∀ (v5 : Int32) (q6 : Int) (m3 : zM), aTm aT0 m3 → naH T n (tkf T n p).2 m1 v5.toInt q6 m3 → ¬ (v5).toInt = 0 → ∀ (v8 : Int32), tnC 2 3 m3 (gi m3 27 8).toInt v8.toInt → ¬ (v8).toInt = (-1) → ¬ (((gi m3 2 12) >>> (v8 &&& 31)) &&& 1).toInt = 0 → (0 : Int) ≤ ((gi m3 2 12) &&& ((1 <<< (v8 &&& 31)) ^^^ (-1))).toInt ∧ ((gi m3 2 12) &&& ((1 <<< (v8 &&& 31)) ^^^ (-1))).toInt ≤ 511) (h2 : ∀ (m1 : zM), aTm aT0 m1 → (fo 27 [] avF mem m1 ∧ cRd T n (tkf T n p).2 m1) → ∀ (v5 : Int32) (q6 : Int) (m3 : zM), aTm aT0 m3 → naH T n (tkf T n p).2 m1 v5.toInt q6 m3 → ¬ (v5).toInt = 0 → ∀ (v8 : Int32), tnC 2 3 m3 (gi m3 27 8).toInt v8.toInt → ¬ (v8).toInt = (-1) → ¬ (((gi m3 2 12) >>> (v8 &&& 31)) &&& 1).toInt = 0 → aTm aT0 (si m3 2 12 ((gi m3 2 12) &&& ((1 <<< (v8 &&& 31)) ^^^ (-1)))) → P (some (.int 1)) (si m3 2 12 ((gi m3 2 12) &&& ((1 <<< (v8 &&& 31)) ^^^ (-1))))) (h3 : ∀ (m1 : zM), aTm aT0 m1 → (fo 27 [] avF mem m1 ∧ cRd T n (tkf T n p).2 m1) → ∀ (v5 : Int32) (q6 : Int) (m3 : zM), aTm aT0 m3 → naH T n (tkf T n p).2 m1 v5.toInt q6 m3 → ¬ (v5).toInt = 0 → ∀ (v8 : Int32), tnC 2 3 m3 (gi m3 27 8).toInt v8.toInt → ¬ (v8).toInt = (-1) → (((gi m3 2 12) >>> (v8 &&& 31)) &&& 1).toInt = 0 → aTm aT0 (si (si m3 27 10 3) 27 11 (gi m3 27 9)) → P (some (.int 0)) (si (si m3 27 10 3) 27 11 (gi m3 27 9))) (h4 : ∀ (m1 : zM), aTm aT0 m1 → (fo 27 [] avF mem m1 ∧ cRd T n (tkf T n p).2 m1) → ∀ (v5 : Int32) (q6 : Int) (m3 : zM), aTm aT0 m3 → naH T n (tkf T n p).2 m1 v5.toInt q6 m3 → (v5).toInt = 0 → aTm aT0 m3 → P (some (.int 0)) m3) : yR zpg tX9_takesHas (d + 4) (0, [(0, .ref 26)], [], mem) P := by
  refine yR_m 1 (fun _ _ _ _ => rfl) ?_
  refine wR_gr rfl tO_e tO_0 hm ?_
  refine wR_cv rfl rfl rO_e hm rfl (h_avC (T := T) (n := n) (p := p) hm (cRd_t hR) hk4 (by omega)) ?_
  rintro _ m1 ⟨rfl, hI1, k2⟩
  show yR zpg tX9_takesHas (d + 4) (7, [(0, .ref 26)], [], m1) _
  refine yR_m 1 (fun _ _ _ _ => rfl) ?_
  refine wR_gr rfl tO_e tO_0 hI1 ?_
  refine wR_cv rfl rfl rO_e hI1 rfl (h_naC (T := T) (n := n) (p := (tkf T n p).2) hI1 k2.2 (by omega)) ?_
  rintro _ m3 ⟨v5, q6, rfl, hm3, k4⟩
  show yR zpg tX9_takesHas (d + 4) (14, [(0, .ref 26)], [.int v5], m3) _
  refine wR_if_ne rfl (a := (v5).toInt) rfl (fun q7 => ?_) (fun q7 => ?_)
  ·
    refine yR_m 1 (fun _ _ _ _ => rfl) ?_
    refine wR_gq rfl tO_e hm3 ((k6_26 (k6_fo k4.1 rfl) (by decide)).trans ((k6_26 (k6_fo k2.1 rfl) (by decide)).trans ht)) ?_
    refine yR_m 1 (fun _ _ _ _ => rfl) ?_
    refine wR_gr rfl tO_e tO_0 hm3 ?_
    refine wR_gi rfl rO_e rO_8 hm3 rfl ?_
    refine wR_cv rfl rfl quA_e hm3 rfl (h_tnCA hm3 (by omega)) ?_
    rintro _ _ ⟨v8, rfl, rfl, k9⟩
    show yR zpg tX9_takesHas (d + 4) (33, [(0, .ref 26)], [.int v8], m3) _
    refine yR_m 3 (fun _ _ _ _ => rfl) ?_
    refine wR_ic_eq rfl (a := (v8).toInt) (c := (-1)) rfl tm1 (fun q10 => ?_) (fun q10 => ?_)
    ·
      refine yR_m 1 (fun _ _ _ _ => rfl) ?_
      refine wR_gr rfl tO_e tO_0 hm3 ?_
      refine yR_m 2 (fun _ _ _ _ => rfl) ?_
      refine wR_gr rfl tO_e tO_0 hm3 ?_
      refine wR_gi rfl rO_e rO_9 hm3 rfl ?_
      refine wR_iv rfl rfl rO_e hm3 rfl rfl rfl rfl ?_
      show yR zpg tX5_faults (d + 3) (0, [(0, .ref 27), (1, .int 3), (2, .int (gi m3 27 9))], [], m3) _
      refine yR_m 2 (fun _ _ _ _ => rfl) ?_
      refine wR_pi rfl rO_e rO_10 hm3 rfl ?_
      have hm_1 : aTm aT0 (si m3 27 10 3) := tm_si rO_e rO_10 hm3 (i32_b _)
      refine yR_m 2 (fun _ _ _ _ => rfl) ?_
      refine wR_pi rfl rO_e rO_11 hm_1 rfl ?_
      have hm_2 : aTm aT0 (si (si m3 27 10 3) 27 11 (gi m3 27 9)) := tm_si rO_e rO_11 hm_1 (i32_b _)
      refine yR_m 1 (fun _ _ _ _ => rfl) ?_
      refine yR_rz rfl ⟨by decide, by decide⟩ ?_
      show yR zpg tX9_takesHas (d + 4) (68, [(1, .int v8), (0, .ref 26)], [.int 0], (si (si m3 27 10 3) 27 11 (gi m3 27 9))) _
      exact yR_rz rfl ⟨by decide, by decide⟩ (h1 m1 hI1 k2 v5 q6 m3 hm3 k4 q7 v8 k9 q10 hm_2)
    ·
      refine yR_m 1 (fun _ _ _ _ => rfl) ?_
      refine wR_gq rfl tO_e hm3 ((k6_26 (k6_fo k4.1 rfl) (by decide)).trans ((k6_26 (k6_fo k2.1 rfl) (by decide)).trans ht)) ?_
      refine wR_gi rfl quA_e quA_12 hm3 rfl ?_
      refine yR_m 4 (fun _ _ _ _ => rfl) ?_
      refine wR_if_ne rfl (a := (((gi m3 2 12) >>> (v8 &&& 31)) &&& 1).toInt) rfl (fun q11 => ?_) (fun q11 => ?_)
      ·
        refine yR_m 1 (fun _ _ _ _ => rfl) ?_
        refine wR_gq rfl tO_e hm3 ((k6_26 (k6_fo k4.1 rfl) (by decide)).trans ((k6_26 (k6_fo k2.1 rfl) (by decide)).trans ht)) ?_
        refine yR_m 1 (fun _ _ _ _ => rfl) ?_
        refine wR_gi rfl quA_e quA_12 hm3 rfl ?_
        refine yR_m 6 (fun _ _ _ _ => rfl) ?_
        refine wR_pi rfl quA_e quA_12 hm3 rfl ?_
        have hm_3 : aTm aT0 (si m3 2 12 ((gi m3 2 12) &&& ((1 <<< (v8 &&& 31)) ^^^ (-1)))) := tm_si quA_e quA_12 hm3 (s1 m1 hI1 k2 v5 q6 m3 hm3 k4 q7 v8 k9 q10 q11)
        refine yR_m 1 (fun _ _ _ _ => rfl) ?_
        exact yR_rz rfl ⟨by decide, by decide⟩ (h2 m1 hI1 k2 v5 q6 m3 hm3 k4 q7 v8 k9 q10 q11 hm_3)
      ·
        refine yR_m 1 (fun _ _ _ _ => rfl) ?_
        refine wR_gr rfl tO_e tO_0 hm3 ?_
        refine yR_m 2 (fun _ _ _ _ => rfl) ?_
        refine wR_gr rfl tO_e tO_0 hm3 ?_
        refine wR_gi rfl rO_e rO_9 hm3 rfl ?_
        refine wR_iv rfl rfl rO_e hm3 rfl rfl rfl rfl ?_
        show yR zpg tX5_faults (d + 3) (0, [(0, .ref 27), (1, .int 3), (2, .int (gi m3 27 9))], [], m3) _
        refine yR_m 2 (fun _ _ _ _ => rfl) ?_
        refine wR_pi rfl rO_e rO_10 hm3 rfl ?_
        have hm_4 : aTm aT0 (si m3 27 10 3) := tm_si rO_e rO_10 hm3 (i32_b _)
        refine yR_m 2 (fun _ _ _ _ => rfl) ?_
        refine wR_pi rfl rO_e rO_11 hm_4 rfl ?_
        have hm_5 : aTm aT0 (si (si m3 27 10 3) 27 11 (gi m3 27 9)) := tm_si rO_e rO_11 hm_4 (i32_b _)
        refine yR_m 1 (fun _ _ _ _ => rfl) ?_
        refine yR_rz rfl ⟨by decide, by decide⟩ ?_
        show yR zpg tX9_takesHas (d + 4) (68, [(1, .int v8), (0, .ref 26)], [.int 0], (si (si m3 27 10 3) 27 11 (gi m3 27 9))) _
        exact yR_rz rfl ⟨by decide, by decide⟩ (h3 m1 hI1 k2 v5 q6 m3 hm3 k4 q7 v8 k9 q10 q11 hm_5)
  ·
    refine yR_m 1 (fun _ _ _ _ => rfl) ?_
    exact yR_rz rfl ⟨by decide, by decide⟩ (h4 m1 hI1 k2 v5 q6 m3 hm3 k4 q7 hm3)

theorem h_haCA (hm : aTm aT0 mem) (ht : zfl mem 26 2 = some (.ref 2)) (hR : cRd T n p mem) (h4 : ¬ (tkf T n p).1.1 = 4) (hq : hqQ Q) (hQ : cQ 2 3 4 7 8 9 12 13 Q mem) (hs : (gi mem 10 3).toInt ≤ p) (hd : 5 ≤ d) : yC zpg d 93 [.ref 26] mem (fun a m => ∃ (v : Int32) (q : Int), a = some (.int v) ∧ aTm aT0 m ∧ stCA T n mem (sHav T n Q (tkf T n p).2) v.toInt q m) := by
  obtain ⟨d, rfl⟩ : ∃ q, d = q + 5 := ⟨d - 5, by omega⟩
  refine yC_of (t := tX9_takesHas) rfl rfl ?_
  exact w_haA (T := T) (n := n) (p := p) (Q := Q) hm ht hR h4 hq hQ
        (fun m1 hI1 k2 v5 q6 m3 hm3 k4 q7 v8 k9 q10 hm2 => by
          obtain ⟨⟨l, n1, n2, n3⟩, hc⟩ := na_1 k4 (by omega)
          have hQ1 := cQ_k6A (k6_tr (k6_tr k6_rf (k6_fo k2.1 rfl)) (k6_fo k4.1 rfl)) hQ
          have I := tn_ixC (Q := Q) hQ1.2.2.1 n2 n3 k9
          rcases I with ⟨-, ix⟩ | ⟨i, i1, -⟩
          · exact ⟨_, p, rfl, hm2, ⟨((zfl_sv_ne (by decide)).trans ((zfl_sv_ne (by decide)).trans ((k6_26 (k6_fo k4.1 rfl) (by decide)).trans ((k6_26 (k6_fo k2.1 rfl) (by decide)).trans ht)))), ((gi_sv_ne (by decide)).trans ((gi_sv_ne (by decide)).trans ((k6_gi (by decide) (k6_fo k4.1 rfl)).trans (k6_gi (by decide) (k6_fo k2.1 rfl))))), ((zo_sv (by decide)).trans ((zo_sv (by decide)).trans ((zo_k6 (k6_fo k4.1 rfl)).trans (zo_k6 (k6_fo k2.1 rfl)))))⟩, Or.inr (Or.inl ⟨rfl, (ob_1 n1).trans (ob_0 ix)⟩)⟩
          · exfalso; omega)
        (fun m1 hI1 k2 v5 q6 m3 hm3 k4 q7 v8 k9 q10 q11 => by
          have r8 := quA_r12 hm3
          exact ⟨(i32_and_l r8.1).1, Int.le_trans (i32_and_l r8.1).2 r8.2⟩)
        (fun m1 hI1 k2 v5 q6 m3 hm3 k4 q7 v8 k9 q10 q11 hm2 => by
          obtain ⟨⟨l, n1, n2, n3⟩, hc⟩ := na_1 k4 (by omega)
          have hQ1 := cQ_k6A (k6_tr (k6_tr k6_rf (k6_fo k2.1 rfl)) (k6_fo k4.1 rfl)) hQ
          have I := tn_ixC (Q := Q) hQ1.2.2.1 n2 n3 k9
          rcases I with ⟨w0, -⟩ | ⟨i, i1, i2, ix⟩
          · exfalso; omega
          have r7 := (hQ1.2.2.1).1
          have r9 := quA_r7 hm3
          have B := bt_sh0 (x := gi m3 2 12) (k := v8) (by omega) (by omega)
          have C := hQ1.2.2.2.1.1 v8.toInt (by omega) (by omega)
          have y0 := (tk_le hR).1
          have z1 := p_naH k2.2 k4 (by omega)
          have D : bt (gi m3 2 12) v8.toInt := Classical.byContradiction (fun z => q11 (B.2 z))
          exact ⟨_, _, rfl, hm2, ⟨((zfl_sv_ne (by decide)).trans ((k6_26 (k6_fo k4.1 rfl) (by decide)).trans ((k6_26 (k6_fo k2.1 rfl) (by decide)).trans ht))), ((gi_sv_ne (by decide)).trans ((k6_gi (by decide) (k6_fo k4.1 rfl)).trans (k6_gi (by decide) (k6_fo k2.1 rfl)))), ((zo_sv (by decide)).trans ((zo_k6 (k6_fo k4.1 rfl)).trans (zo_k6 (k6_fo k2.1 rfl))))⟩, Or.inl ⟨rfl, ⟨_, (ob_1 n1).trans ((ob_1 ix).trans (oif_t (fun w => (C.1 D).2 (by rw [i1]; exact w)))), cQ_hasA hm3 hQ1 i1 i2 (by omega)⟩, (cRd_sv (by decide) (na_1 k4 (by omega)).2), by rw [((gi_sv_ne (by decide)).trans ((k6_gi (by decide) (k6_fo k4.1 rfl)).trans (k6_gi (by decide) (k6_fo k2.1 rfl))))]; omega⟩⟩)
        (fun m1 hI1 k2 v5 q6 m3 hm3 k4 q7 v8 k9 q10 q11 hm2 => by
          obtain ⟨⟨l, n1, n2, n3⟩, hc⟩ := na_1 k4 (by omega)
          have hQ1 := cQ_k6A (k6_tr (k6_tr k6_rf (k6_fo k2.1 rfl)) (k6_fo k4.1 rfl)) hQ
          have I := tn_ixC (Q := Q) hQ1.2.2.1 n2 n3 k9
          rcases I with ⟨w0, -⟩ | ⟨i, i1, i2, ix⟩
          · exfalso; omega
          have r7 := (hQ1.2.2.1).1
          have r9 := quA_r7 hm3
          have B := bt_sh0 (x := gi m3 2 12) (k := v8) (by omega) (by omega)
          have C := hQ1.2.2.2.1.1 v8.toInt (by omega) (by omega)
          exact ⟨_, p, rfl, hm2, ⟨((zfl_sv_ne (by decide)).trans ((zfl_sv_ne (by decide)).trans ((k6_26 (k6_fo k4.1 rfl) (by decide)).trans ((k6_26 (k6_fo k2.1 rfl) (by decide)).trans ht)))), ((gi_sv_ne (by decide)).trans ((gi_sv_ne (by decide)).trans ((k6_gi (by decide) (k6_fo k4.1 rfl)).trans (k6_gi (by decide) (k6_fo k2.1 rfl))))), ((zo_sv (by decide)).trans ((zo_sv (by decide)).trans ((zo_k6 (k6_fo k4.1 rfl)).trans (zo_k6 (k6_fo k2.1 rfl)))))⟩, Or.inr (Or.inl ⟨rfl, (ob_1 n1).trans ((ob_1 ix).trans (oif_f (fun w => B.1 q11 (C.2 ⟨by omega, fun z => w (by rw [← i1]; exact z)⟩))))⟩)⟩)
        (fun m1 hI1 k2 v5 q6 m3 hm3 k4 q7 hm2 => by
          exact ⟨_, p, rfl, hm2, ⟨((k6_26 (k6_fo k4.1 rfl) (by decide)).trans ((k6_26 (k6_fo k2.1 rfl) (by decide)).trans ht)), ((k6_gi (by decide) (k6_fo k4.1 rfl)).trans (k6_gi (by decide) (k6_fo k2.1 rfl))), ((zo_k6 (k6_fo k4.1 rfl)).trans (zo_k6 (k6_fo k2.1 rfl)))⟩, Or.inr (Or.inl ⟨rfl, ob_0 (na_0 k4 (by omega))⟩)⟩)
theorem cQ_hasB {x : Int32} {i : Nat} (hm : aTm aT0 m) (h : cQ 14 15 16 19 20 21 24 25 Q m) (hx : x.toInt = (i : Int)) (hi : i < (Qt Q).length) (h9 : x.toInt < 9) : cQ 14 15 16 19 20 21 24 25 (Qc Q, Qr Q, Qw Q, Qt Q, (i : Int) :: Qh Q, Qf Q, Qu Q, Qx Q) (si m 14 12 ((gi m 14 12) &&& (((1 : Int32) <<< (x &&& 31)) ^^^ (-1)))) := by
  have g : gi (si m 14 12 ((gi m 14 12) &&& (((1 : Int32) <<< (x &&& 31)) ^^^ (-1)))) 14 12 = (gi m 14 12) &&& (((1 : Int32) <<< (x &&& 31)) ^^^ (-1)) := gi_eqQ (isQ_of quB_e hm) quB_12
  have X := cQx_eq (q := 14) (Q := Q) (m' := si m 14 12 ((gi m 14 12) &&& (((1 : Int32) <<< (x &&& 31)) ^^^ (-1)))) (gi_sv_ne (by decide)) (gi_sv_ne (by decide)) (gL_sv_ne (by decide)) ga_sv ga_sv ga_sv ga_sv ga_sv (gi_sv_ne (by decide)) h.2.2.2.2.2.2
  unfold cQ cQw cQt cQh cQf cQu at h ⊢
  rw [g, gi_sv_ne (by decide), gi_sv_ne (by decide), gi_sv_ne (by decide), gi_sv_ne (by decide), gL_sv_ne (by decide), ga_sv, ga_sv, ga_sv, ga_sv, ga_sv, ga_sv, ga_sv]
  refine ⟨h.1, h.2.1, h.2.2.1, ⟨fun j j0 j1 => ?_, fun j hj => ?_⟩, h.2.2.2.2.1, h.2.2.2.2.2.1, X⟩
  · show _ ↔ (j < ((Qt Q).length : Int) ∧ ¬ j ∈ (i : Int) :: Qh Q)
    rw [bt_an (by omega) (by omega) j0 (by omega), h.2.2.2.1.1 j j0 j1, List.mem_cons, hx]
    constructor
    · rintro ⟨⟨w1, w2⟩, w3⟩
      exact ⟨w1, fun z => z.elim w3 w2⟩
    · rintro ⟨w1, w2⟩
      exact ⟨⟨w1, fun z => w2 (Or.inr z)⟩, fun z => w2 (Or.inl z)⟩
  · have hj : j ∈ (i : Int) :: Qh Q := hj
    show j < ((Qt Q).length : Int)
    rcases List.mem_cons.1 hj with w | w
    · omega
    · exact h.2.2.2.1.2 j w
set_option maxRecDepth 100000 in
theorem w_haB {d : Nat} {mem : zM} {P : Option Value → zM → Prop} {T : List Int32} {n p : Int} {Q : Qd} (hm : aTm aT0 mem) (ht : zfl mem 26 2 = some (.ref 14)) (hR : cRd T n p mem) (hk4 : ¬ (tkf T n p).1.1 = 4) (hq : hqQ Q) (hQ : cQ 14 15 16 19 20 21 24 25 Q mem) (h1 : ∀ (m1 : zM), aTm aT0 m1 → (fo 27 [] avF mem m1 ∧ cRd T n (tkf T n p).2 m1) → ∀ (v5 : Int32) (q6 : Int) (m3 : zM), aTm aT0 m3 → naH T n (tkf T n p).2 m1 v5.toInt q6 m3 → ¬ (v5).toInt = 0 → ∀ (v8 : Int32), tnC 14 15 m3 (gi m3 27 8).toInt v8.toInt → (v8).toInt = (-1) → aTm aT0 (si (si m3 27 10 3) 27 11 (gi m3 27 9)) → P (some (.int 0)) (si (si m3 27 10 3) 27 11 (gi m3 27 9))) (s1 : ∀ (m1 : zM), aTm aT0 m1 → (fo 27 [] avF mem m1 ∧ cRd T n (tkf T n p).2 m1) → ∀ (v5 : Int32) (q6 : Int) (m3 : zM), aTm aT0 m3 → naH T n (tkf T n p).2 m1 v5.toInt q6 m3 → ¬ (v5).toInt = 0 → ∀ (v8 : Int32), tnC 14 15 m3 (gi m3 27 8).toInt v8.toInt → ¬ (v8).toInt = (-1) → ¬ (((gi m3 14 12) >>> (v8 &&& 31)) &&& 1).toInt = 0 → (0 : Int) ≤ ((gi m3 14 12) &&& ((1 <<< (v8 &&& 31)) ^^^ (-1))).toInt ∧ ((gi m3 14 12) &&& ((1 <<< (v8 &&& 31)) ^^^ (-1))).toInt ≤ 511) (h2 : ∀ (m1 : zM), aTm aT0 m1 → (fo 27 [] avF mem m1 ∧ cRd T n (tkf T n p).2 m1) → ∀ (v5 : Int32) (q6 : Int) (m3 : zM), aTm aT0 m3 → naH T n (tkf T n p).2 m1 v5.toInt q6 m3 → ¬ (v5).toInt = 0 → ∀ (v8 : Int32), tnC 14 15 m3 (gi m3 27 8).toInt v8.toInt → ¬ (v8).toInt = (-1) → ¬ (((gi m3 14 12) >>> (v8 &&& 31)) &&& 1).toInt = 0 → aTm aT0 (si m3 14 12 ((gi m3 14 12) &&& ((1 <<< (v8 &&& 31)) ^^^ (-1)))) → P (some (.int 1)) (si m3 14 12 ((gi m3 14 12) &&& ((1 <<< (v8 &&& 31)) ^^^ (-1))))) (h3 : ∀ (m1 : zM), aTm aT0 m1 → (fo 27 [] avF mem m1 ∧ cRd T n (tkf T n p).2 m1) → ∀ (v5 : Int32) (q6 : Int) (m3 : zM), aTm aT0 m3 → naH T n (tkf T n p).2 m1 v5.toInt q6 m3 → ¬ (v5).toInt = 0 → ∀ (v8 : Int32), tnC 14 15 m3 (gi m3 27 8).toInt v8.toInt → ¬ (v8).toInt = (-1) → (((gi m3 14 12) >>> (v8 &&& 31)) &&& 1).toInt = 0 → aTm aT0 (si (si m3 27 10 3) 27 11 (gi m3 27 9)) → P (some (.int 0)) (si (si m3 27 10 3) 27 11 (gi m3 27 9))) (h4 : ∀ (m1 : zM), aTm aT0 m1 → (fo 27 [] avF mem m1 ∧ cRd T n (tkf T n p).2 m1) → ∀ (v5 : Int32) (q6 : Int) (m3 : zM), aTm aT0 m3 → naH T n (tkf T n p).2 m1 v5.toInt q6 m3 → (v5).toInt = 0 → aTm aT0 m3 → P (some (.int 0)) m3) : yR zpg tX9_takesHas (d + 4) (0, [(0, .ref 26)], [], mem) P := by
  refine yR_m 1 (fun _ _ _ _ => rfl) ?_
  refine wR_gr rfl tO_e tO_0 hm ?_
  refine wR_cv rfl rfl rO_e hm rfl (h_avC (T := T) (n := n) (p := p) hm (cRd_t hR) hk4 (by omega)) ?_
  rintro _ m1 ⟨rfl, hI1, k2⟩
  show yR zpg tX9_takesHas (d + 4) (7, [(0, .ref 26)], [], m1) _
  refine yR_m 1 (fun _ _ _ _ => rfl) ?_
  refine wR_gr rfl tO_e tO_0 hI1 ?_
  refine wR_cv rfl rfl rO_e hI1 rfl (h_naC (T := T) (n := n) (p := (tkf T n p).2) hI1 k2.2 (by omega)) ?_
  rintro _ m3 ⟨v5, q6, rfl, hm3, k4⟩
  show yR zpg tX9_takesHas (d + 4) (14, [(0, .ref 26)], [.int v5], m3) _
  refine wR_if_ne rfl (a := (v5).toInt) rfl (fun q7 => ?_) (fun q7 => ?_)
  ·
    refine yR_m 1 (fun _ _ _ _ => rfl) ?_
    refine wR_gq rfl tO_e hm3 ((k6_26 (k6_fo k4.1 rfl) (by decide)).trans ((k6_26 (k6_fo k2.1 rfl) (by decide)).trans ht)) ?_
    refine yR_m 1 (fun _ _ _ _ => rfl) ?_
    refine wR_gr rfl tO_e tO_0 hm3 ?_
    refine wR_gi rfl rO_e rO_8 hm3 rfl ?_
    refine wR_cv rfl rfl quB_e hm3 rfl (h_tnCB hm3 (by omega)) ?_
    rintro _ _ ⟨v8, rfl, rfl, k9⟩
    show yR zpg tX9_takesHas (d + 4) (33, [(0, .ref 26)], [.int v8], m3) _
    refine yR_m 3 (fun _ _ _ _ => rfl) ?_
    refine wR_ic_eq rfl (a := (v8).toInt) (c := (-1)) rfl tm1 (fun q10 => ?_) (fun q10 => ?_)
    ·
      refine yR_m 1 (fun _ _ _ _ => rfl) ?_
      refine wR_gr rfl tO_e tO_0 hm3 ?_
      refine yR_m 2 (fun _ _ _ _ => rfl) ?_
      refine wR_gr rfl tO_e tO_0 hm3 ?_
      refine wR_gi rfl rO_e rO_9 hm3 rfl ?_
      refine wR_iv rfl rfl rO_e hm3 rfl rfl rfl rfl ?_
      show yR zpg tX5_faults (d + 3) (0, [(0, .ref 27), (1, .int 3), (2, .int (gi m3 27 9))], [], m3) _
      refine yR_m 2 (fun _ _ _ _ => rfl) ?_
      refine wR_pi rfl rO_e rO_10 hm3 rfl ?_
      have hm_1 : aTm aT0 (si m3 27 10 3) := tm_si rO_e rO_10 hm3 (i32_b _)
      refine yR_m 2 (fun _ _ _ _ => rfl) ?_
      refine wR_pi rfl rO_e rO_11 hm_1 rfl ?_
      have hm_2 : aTm aT0 (si (si m3 27 10 3) 27 11 (gi m3 27 9)) := tm_si rO_e rO_11 hm_1 (i32_b _)
      refine yR_m 1 (fun _ _ _ _ => rfl) ?_
      refine yR_rz rfl ⟨by decide, by decide⟩ ?_
      show yR zpg tX9_takesHas (d + 4) (68, [(1, .int v8), (0, .ref 26)], [.int 0], (si (si m3 27 10 3) 27 11 (gi m3 27 9))) _
      exact yR_rz rfl ⟨by decide, by decide⟩ (h1 m1 hI1 k2 v5 q6 m3 hm3 k4 q7 v8 k9 q10 hm_2)
    ·
      refine yR_m 1 (fun _ _ _ _ => rfl) ?_
      refine wR_gq rfl tO_e hm3 ((k6_26 (k6_fo k4.1 rfl) (by decide)).trans ((k6_26 (k6_fo k2.1 rfl) (by decide)).trans ht)) ?_
      refine wR_gi rfl quB_e quB_12 hm3 rfl ?_
      refine yR_m 4 (fun _ _ _ _ => rfl) ?_
      refine wR_if_ne rfl (a := (((gi m3 14 12) >>> (v8 &&& 31)) &&& 1).toInt) rfl (fun q11 => ?_) (fun q11 => ?_)
      ·
        refine yR_m 1 (fun _ _ _ _ => rfl) ?_
        refine wR_gq rfl tO_e hm3 ((k6_26 (k6_fo k4.1 rfl) (by decide)).trans ((k6_26 (k6_fo k2.1 rfl) (by decide)).trans ht)) ?_
        refine yR_m 1 (fun _ _ _ _ => rfl) ?_
        refine wR_gi rfl quB_e quB_12 hm3 rfl ?_
        refine yR_m 6 (fun _ _ _ _ => rfl) ?_
        refine wR_pi rfl quB_e quB_12 hm3 rfl ?_
        have hm_3 : aTm aT0 (si m3 14 12 ((gi m3 14 12) &&& ((1 <<< (v8 &&& 31)) ^^^ (-1)))) := tm_si quB_e quB_12 hm3 (s1 m1 hI1 k2 v5 q6 m3 hm3 k4 q7 v8 k9 q10 q11)
        refine yR_m 1 (fun _ _ _ _ => rfl) ?_
        exact yR_rz rfl ⟨by decide, by decide⟩ (h2 m1 hI1 k2 v5 q6 m3 hm3 k4 q7 v8 k9 q10 q11 hm_3)
      ·
        refine yR_m 1 (fun _ _ _ _ => rfl) ?_
        refine wR_gr rfl tO_e tO_0 hm3 ?_
        refine yR_m 2 (fun _ _ _ _ => rfl) ?_
        refine wR_gr rfl tO_e tO_0 hm3 ?_
        refine wR_gi rfl rO_e rO_9 hm3 rfl ?_
        refine wR_iv rfl rfl rO_e hm3 rfl rfl rfl rfl ?_
        show yR zpg tX5_faults (d + 3) (0, [(0, .ref 27), (1, .int 3), (2, .int (gi m3 27 9))], [], m3) _
        refine yR_m 2 (fun _ _ _ _ => rfl) ?_
        refine wR_pi rfl rO_e rO_10 hm3 rfl ?_
        have hm_4 : aTm aT0 (si m3 27 10 3) := tm_si rO_e rO_10 hm3 (i32_b _)
        refine yR_m 2 (fun _ _ _ _ => rfl) ?_
        refine wR_pi rfl rO_e rO_11 hm_4 rfl ?_
        have hm_5 : aTm aT0 (si (si m3 27 10 3) 27 11 (gi m3 27 9)) := tm_si rO_e rO_11 hm_4 (i32_b _)
        refine yR_m 1 (fun _ _ _ _ => rfl) ?_
        refine yR_rz rfl ⟨by decide, by decide⟩ ?_
        show yR zpg tX9_takesHas (d + 4) (68, [(1, .int v8), (0, .ref 26)], [.int 0], (si (si m3 27 10 3) 27 11 (gi m3 27 9))) _
        exact yR_rz rfl ⟨by decide, by decide⟩ (h3 m1 hI1 k2 v5 q6 m3 hm3 k4 q7 v8 k9 q10 q11 hm_5)
  ·
    refine yR_m 1 (fun _ _ _ _ => rfl) ?_
    exact yR_rz rfl ⟨by decide, by decide⟩ (h4 m1 hI1 k2 v5 q6 m3 hm3 k4 q7 hm3)

theorem h_haCB (hm : aTm aT0 mem) (ht : zfl mem 26 2 = some (.ref 14)) (hR : cRd T n p mem) (h4 : ¬ (tkf T n p).1.1 = 4) (hq : hqQ Q) (hQ : cQ 14 15 16 19 20 21 24 25 Q mem) (hs : (gi mem 22 3).toInt ≤ p) (hd : 5 ≤ d) : yC zpg d 93 [.ref 26] mem (fun a m => ∃ (v : Int32) (q : Int), a = some (.int v) ∧ aTm aT0 m ∧ stCB T n mem (sHav T n Q (tkf T n p).2) v.toInt q m) := by
  obtain ⟨d, rfl⟩ : ∃ q, d = q + 5 := ⟨d - 5, by omega⟩
  refine yC_of (t := tX9_takesHas) rfl rfl ?_
  exact w_haB (T := T) (n := n) (p := p) (Q := Q) hm ht hR h4 hq hQ
        (fun m1 hI1 k2 v5 q6 m3 hm3 k4 q7 v8 k9 q10 hm2 => by
          obtain ⟨⟨l, n1, n2, n3⟩, hc⟩ := na_1 k4 (by omega)
          have hQ1 := cQ_k6B (k6_tr (k6_tr k6_rf (k6_fo k2.1 rfl)) (k6_fo k4.1 rfl)) hQ
          have I := tn_ixC (Q := Q) hQ1.2.2.1 n2 n3 k9
          rcases I with ⟨-, ix⟩ | ⟨i, i1, -⟩
          · exact ⟨_, p, rfl, hm2, ⟨((zfl_sv_ne (by decide)).trans ((zfl_sv_ne (by decide)).trans ((k6_26 (k6_fo k4.1 rfl) (by decide)).trans ((k6_26 (k6_fo k2.1 rfl) (by decide)).trans ht)))), ((gi_sv_ne (by decide)).trans ((gi_sv_ne (by decide)).trans ((k6_gi (by decide) (k6_fo k4.1 rfl)).trans (k6_gi (by decide) (k6_fo k2.1 rfl))))), ((zo_sv (by decide)).trans ((zo_sv (by decide)).trans ((zo_k6 (k6_fo k4.1 rfl)).trans (zo_k6 (k6_fo k2.1 rfl)))))⟩, Or.inr (Or.inl ⟨rfl, (ob_1 n1).trans (ob_0 ix)⟩)⟩
          · exfalso; omega)
        (fun m1 hI1 k2 v5 q6 m3 hm3 k4 q7 v8 k9 q10 q11 => by
          have r8 := quB_r12 hm3
          exact ⟨(i32_and_l r8.1).1, Int.le_trans (i32_and_l r8.1).2 r8.2⟩)
        (fun m1 hI1 k2 v5 q6 m3 hm3 k4 q7 v8 k9 q10 q11 hm2 => by
          obtain ⟨⟨l, n1, n2, n3⟩, hc⟩ := na_1 k4 (by omega)
          have hQ1 := cQ_k6B (k6_tr (k6_tr k6_rf (k6_fo k2.1 rfl)) (k6_fo k4.1 rfl)) hQ
          have I := tn_ixC (Q := Q) hQ1.2.2.1 n2 n3 k9
          rcases I with ⟨w0, -⟩ | ⟨i, i1, i2, ix⟩
          · exfalso; omega
          have r7 := (hQ1.2.2.1).1
          have r9 := quB_r7 hm3
          have B := bt_sh0 (x := gi m3 14 12) (k := v8) (by omega) (by omega)
          have C := hQ1.2.2.2.1.1 v8.toInt (by omega) (by omega)
          have y0 := (tk_le hR).1
          have z1 := p_naH k2.2 k4 (by omega)
          have D : bt (gi m3 14 12) v8.toInt := Classical.byContradiction (fun z => q11 (B.2 z))
          exact ⟨_, _, rfl, hm2, ⟨((zfl_sv_ne (by decide)).trans ((k6_26 (k6_fo k4.1 rfl) (by decide)).trans ((k6_26 (k6_fo k2.1 rfl) (by decide)).trans ht))), ((gi_sv_ne (by decide)).trans ((k6_gi (by decide) (k6_fo k4.1 rfl)).trans (k6_gi (by decide) (k6_fo k2.1 rfl)))), ((zo_sv (by decide)).trans ((zo_k6 (k6_fo k4.1 rfl)).trans (zo_k6 (k6_fo k2.1 rfl))))⟩, Or.inl ⟨rfl, ⟨_, (ob_1 n1).trans ((ob_1 ix).trans (oif_t (fun w => (C.1 D).2 (by rw [i1]; exact w)))), cQ_hasB hm3 hQ1 i1 i2 (by omega)⟩, (cRd_sv (by decide) (na_1 k4 (by omega)).2), by rw [((gi_sv_ne (by decide)).trans ((k6_gi (by decide) (k6_fo k4.1 rfl)).trans (k6_gi (by decide) (k6_fo k2.1 rfl))))]; omega⟩⟩)
        (fun m1 hI1 k2 v5 q6 m3 hm3 k4 q7 v8 k9 q10 q11 hm2 => by
          obtain ⟨⟨l, n1, n2, n3⟩, hc⟩ := na_1 k4 (by omega)
          have hQ1 := cQ_k6B (k6_tr (k6_tr k6_rf (k6_fo k2.1 rfl)) (k6_fo k4.1 rfl)) hQ
          have I := tn_ixC (Q := Q) hQ1.2.2.1 n2 n3 k9
          rcases I with ⟨w0, -⟩ | ⟨i, i1, i2, ix⟩
          · exfalso; omega
          have r7 := (hQ1.2.2.1).1
          have r9 := quB_r7 hm3
          have B := bt_sh0 (x := gi m3 14 12) (k := v8) (by omega) (by omega)
          have C := hQ1.2.2.2.1.1 v8.toInt (by omega) (by omega)
          exact ⟨_, p, rfl, hm2, ⟨((zfl_sv_ne (by decide)).trans ((zfl_sv_ne (by decide)).trans ((k6_26 (k6_fo k4.1 rfl) (by decide)).trans ((k6_26 (k6_fo k2.1 rfl) (by decide)).trans ht)))), ((gi_sv_ne (by decide)).trans ((gi_sv_ne (by decide)).trans ((k6_gi (by decide) (k6_fo k4.1 rfl)).trans (k6_gi (by decide) (k6_fo k2.1 rfl))))), ((zo_sv (by decide)).trans ((zo_sv (by decide)).trans ((zo_k6 (k6_fo k4.1 rfl)).trans (zo_k6 (k6_fo k2.1 rfl)))))⟩, Or.inr (Or.inl ⟨rfl, (ob_1 n1).trans ((ob_1 ix).trans (oif_f (fun w => B.1 q11 (C.2 ⟨by omega, fun z => w (by rw [← i1]; exact z)⟩))))⟩)⟩)
        (fun m1 hI1 k2 v5 q6 m3 hm3 k4 q7 hm2 => by
          exact ⟨_, p, rfl, hm2, ⟨((k6_26 (k6_fo k4.1 rfl) (by decide)).trans ((k6_26 (k6_fo k2.1 rfl) (by decide)).trans ht)), ((k6_gi (by decide) (k6_fo k4.1 rfl)).trans (k6_gi (by decide) (k6_fo k2.1 rfl))), ((zo_k6 (k6_fo k4.1 rfl)).trans (zo_k6 (k6_fo k2.1 rfl)))⟩, Or.inr (Or.inl ⟨rfl, ob_0 (na_0 k4 (by omega))⟩)⟩)
end CU
