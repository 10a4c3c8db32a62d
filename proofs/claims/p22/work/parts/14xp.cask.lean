/-! the class's sums: what it asks, opens, values -/
section CX
variable {d : Nat} {R A : Nat} {mr mem m : zM} {T : List Int32} {n p e ru : Int} {t : Tk}
theorem cRd_t (h : cRd T n p m) : cR T n p (tkf T n p).1 (tkf T n p).2 m := by
  obtain ⟨t, e, h⟩ := h
  rw [tkf_e h.2.1]
  exact h
theorem cRd_p (h : cRd T n p m) : 0 ≤ p ∧ p ≤ n := by
  obtain ⟨t, e, h⟩ := h
  have L := Tok_last h.2.1 h.1.2.2.2.2
  exact ⟨h.1.2.2.2.2, by omega⟩
theorem cX_S {c : Int} (h : cRd T n p m) : ((gi m 27 4).toInt = 4 ∧ (gi m 27 5).toInt = c) ↔ sIS T n c p := sgn_iff (cRd_t h).2.2.1
theorem cX_O {k : Int} (h0 : 0 ≤ k) (h1 : k < 26) (h : cRd T n p m) : ((gi m 27 4).toInt = 2 ∧ (gi m 27 5).toInt = k) ↔ sIO T n k p := own_iff (cRd_t h).2.2.1 h0 h1
theorem cX_2 (h : cRd T n p m) : (gi m 27 4).toInt = 3 ↔ (tkf T n p).1.1 = 2 := by
  rcases (cRd_t h).2.2.1 with ⟨a, b⟩ | ⟨a, b, c⟩ | ⟨a, b, c⟩ | ⟨a, b⟩ | ⟨a, b⟩
  · omega
  · omega
  · omega
  · omega
  · rcases b with ⟨b, -⟩ | ⟨b, -⟩ <;> omega
theorem cX_0 (h : cRd T n p m) : (gi m 27 4).toInt = 0 ↔ (tkf T n p).1.1 = 0 := by
  rcases (cRd_t h).2.2.1 with ⟨a, b⟩ | ⟨a, b, c⟩ | ⟨a, b, c⟩ | ⟨a, b⟩ | ⟨a, b⟩
  · omega
  · omega
  · omega
  · omega
  · rcases b with ⟨b, -⟩ | ⟨b, -⟩ <;> omega
theorem cX_r (h : cRd T n p m) (hk : (gi m 27 4).toInt = 2) : 0 ≤ (gi m 27 5).toInt ∧ (gi m 27 5).toInt < 26 := by
  rcases (cRd_t h).2.2.1 with ⟨a, b⟩ | ⟨a, b, c⟩ | ⟨a, b, c⟩ | ⟨a, b⟩ | ⟨a, b⟩
  · omega
  · omega
  · omega
  · omega
  · rcases b with ⟨-, b, -⟩ | ⟨b, -⟩
    · exact b
    · omega
/-- opens: a bracket taken, or none -/
def opH (T : List Int32) (n e o s : Int) (mr : zM) (v : Int) (m : zM) : Prop := fo 27 [] rdF2 mr m ∧ ((v = 1 ∧ (¬ s = 0 ∧ o < 7) ∧ cRd T n e m) ∨ (v = 0 ∧ ¬ (¬ s = 0 ∧ o < 7)))
set_option maxRecDepth 100000 in
theorem w_opC {d : Nat} {mem : zM} {P : Option Value → zM → Prop} {T : List Int32} {n p e : Int} {t : Tk} {o s : Int32} (hm : aTm aT0 mem) (hR : cR T n p t e mem) (h4 : ¬ s.toInt = 0 → ¬ t.1 = 4) (s1 : ¬ (s).toInt = 0 → (o).toInt < 7 → ¬ t.1 = 4) (h1 : ¬ (s).toInt = 0 → (o).toInt < 7 → ∀ (m3 : zM), aTm aT0 m3 → (fo 27 [] avF mem m3 ∧ cRd T n e m3) → aTm aT0 m3 → P (some (.int 1)) m3) (h2 : ¬ (s).toInt = 0 → 7 ≤ (o).toInt → aTm aT0 (si (si mem 27 10 5) 27 11 (gi mem 27 7)) → P (some (.int 0)) (si (si mem 27 10 5) 27 11 (gi mem 27 7))) (h3 : (s).toInt = 0 → aTm aT0 (si (si mem 27 10 1) 27 11 (gi mem 27 7)) → P (some (.int 0)) (si (si mem 27 10 1) 27 11 (gi mem 27 7))) : yR zpg tX10_opens (d + 2) (0, [(0, .ref 30), (1, .int o), (2, .int s)], [], mem) P := by
  refine yR_m 1 (fun _ _ _ _ => rfl) ?_
  refine wR_if_ne rfl (a := (s).toInt) rfl (fun q1 => ?_) (fun q1 => ?_)
  ·
    refine yR_m 2 (fun _ _ _ _ => rfl) ?_
    refine wR_ic_lt rfl (a := (o).toInt) (c := 7) rfl rfl (fun q2 => ?_) (fun q2 => ?_)
    ·
      refine yR_m 1 (fun _ _ _ _ => rfl) ?_
      refine wR_gr rfl sO_e sO_0 hm ?_
      refine wR_cv rfl rfl rO_e hm rfl (h_adv5 (fo_rf) hm hR (s1 q1 q2) (by omega)) ?_
      rintro _ m3 ⟨rfl, hI3, k4⟩
      show yR zpg tX10_opens (d + 2) (49, [(0, .ref 30), (1, .int o), (2, .int s)], [], m3) _
      refine yR_m 1 (fun _ _ _ _ => rfl) ?_
      exact yR_rz rfl ⟨by decide, by decide⟩ (h1 q1 q2 m3 hI3 k4 hI3)
    ·
      refine yR_m 1 (fun _ _ _ _ => rfl) ?_
      refine wR_gr rfl sO_e sO_0 hm ?_
      refine yR_m 2 (fun _ _ _ _ => rfl) ?_
      refine wR_gr rfl sO_e sO_0 hm ?_
      refine wR_gi rfl rO_e rO_7 hm rfl ?_
      refine wR_iv rfl rfl rO_e hm rfl rfl rfl rfl ?_
      show yR zpg tX5_faults (d + 1) (0, [(0, .ref 27), (1, .int 5), (2, .int (gi mem 27 7))], [], mem) _
      refine yR_m 2 (fun _ _ _ _ => rfl) ?_
      refine wR_pi rfl rO_e rO_10 hm rfl ?_
      have hm_1 : aTm aT0 (si mem 27 10 5) := tm_si rO_e rO_10 hm (i32_b _)
      refine yR_m 2 (fun _ _ _ _ => rfl) ?_
      refine wR_pi rfl rO_e rO_11 hm_1 rfl ?_
      have hm_2 : aTm aT0 (si (si mem 27 10 5) 27 11 (gi mem 27 7)) := tm_si rO_e rO_11 hm_1 (i32_b _)
      refine yR_m 1 (fun _ _ _ _ => rfl) ?_
      refine yR_rz rfl ⟨by decide, by decide⟩ ?_
      show yR zpg tX10_opens (d + 2) (41, [(0, .ref 30), (1, .int o), (2, .int s)], [.int 0], (si (si mem 27 10 5) 27 11 (gi mem 27 7))) _
      exact yR_rz rfl ⟨by decide, by decide⟩ (h2 q1 q2 hm_2)
  ·
    refine yR_m 1 (fun _ _ _ _ => rfl) ?_
    refine wR_gr rfl sO_e sO_0 hm ?_
    refine yR_m 2 (fun _ _ _ _ => rfl) ?_
    refine wR_gr rfl sO_e sO_0 hm ?_
    refine wR_gi rfl rO_e rO_7 hm rfl ?_
    refine wR_iv rfl rfl rO_e hm rfl rfl rfl rfl ?_
    show yR zpg tX5_faults (d + 1) (0, [(0, .ref 27), (1, .int 1), (2, .int (gi mem 27 7))], [], mem) _
    refine yR_m 2 (fun _ _ _ _ => rfl) ?_
    refine wR_pi rfl rO_e rO_10 hm rfl ?_
    have hm_3 : aTm aT0 (si mem 27 10 1) := tm_si rO_e rO_10 hm (i32_b _)
    refine yR_m 2 (fun _ _ _ _ => rfl) ?_
    refine wR_pi rfl rO_e rO_11 hm_3 rfl ?_
    have hm_4 : aTm aT0 (si (si mem 27 10 1) 27 11 (gi mem 27 7)) := tm_si rO_e rO_11 hm_3 (i32_b _)
    refine yR_m 1 (fun _ _ _ _ => rfl) ?_
    refine yR_rz rfl ⟨by decide, by decide⟩ ?_
    show yR zpg tX10_opens (d + 2) (19, [(0, .ref 30), (1, .int o), (2, .int s)], [.int 0], (si (si mem 27 10 1) 27 11 (gi mem 27 7))) _
    exact yR_rz rfl ⟨by decide, by decide⟩ (h3 q1 hm_4)

theorem h_opC {o s : Int32} (hm : aTm aT0 mem) (hR : cR T n p t e mem) (h4 : ¬ s.toInt = 0 → ¬ t.1 = 4) (hd : 3 ≤ d) : yC zpg d 110 [.ref 30, .int o, .int s] mem (fun r m => ∃ v : Int32, r = some (.int v) ∧ aTm aT0 m ∧ opH T n e o.toInt s.toInt mem v.toInt m) := by
  obtain ⟨d, rfl⟩ : ∃ q, d = q + 3 := ⟨d - 3, by omega⟩
  refine yC_of (t := tX10_opens) rfl rfl ?_
  exact w_opC (T := T) (n := n) (p := p) (e := e) (t := t) hm hR h4
        (fun q1 q2 => h4 (by omega))
        (fun q1 q2 m3 hI3 k4 hm2 => ⟨_, rfl, hm2, fo_up k4.1 rfl rfl, Or.inl ⟨rfl, ⟨by omega, by omega⟩, k4.2⟩⟩)
        (fun q1 q2 hm2 => ⟨_, rfl, hm2, fo_sv rfl (fo_sv rfl (fo_rf)), Or.inr ⟨rfl, fun w => by have w1 := w.1; have w2 := w.2; omega⟩⟩)
        (fun q1 hm2 => ⟨_, rfl, hm2, fo_sv rfl (fo_sv rfl (fo_rf)), Or.inr ⟨rfl, fun w => by have w1 := w.1; have w2 := w.2; omega⟩⟩)
def ivV (ru w : Int) : Prop := w = 7 ∨ w = 8 ∨ w = 15 ∨ w = 16 ∨ (w = 17 ∧ ¬ ru = 1) ∨ (w = 18 ∧ ru = 1)
set_option maxRecDepth 100000 in
theorem w_ivC {d : Nat} {mem : zM} {P : Option Value → zM → Prop} {w : Int32} (hm : aTm aT0 mem) (h1 : (w).toInt = 7 → aTm aT0 mem → P (some (.int 1)) mem) (h2 : ¬ (w).toInt = 7 → (w).toInt = 8 → aTm aT0 mem → P (some (.int 1)) mem) (h3 : ¬ (w).toInt = 7 → ¬ (w).toInt = 8 → (w).toInt = 9 → aTm aT0 mem → P (some (.int 0)) mem) (h4 : ¬ (w).toInt = 7 → ¬ (w).toInt = 8 → ¬ (w).toInt = 9 → (w).toInt = 10 → aTm aT0 mem → P (some (.int 0)) mem) (h5 : ¬ (w).toInt = 7 → ¬ (w).toInt = 8 → ¬ (w).toInt = 9 → ¬ (w).toInt = 10 → (w).toInt = 11 → aTm aT0 mem → P (some (.int 0)) mem) (h6 : ¬ (w).toInt = 7 → ¬ (w).toInt = 8 → ¬ (w).toInt = 9 → ¬ (w).toInt = 10 → ¬ (w).toInt = 11 → (w).toInt = 12 → aTm aT0 mem → P (some (.int 0)) mem) (h7 : ¬ (w).toInt = 7 → ¬ (w).toInt = 8 → ¬ (w).toInt = 9 → ¬ (w).toInt = 10 → ¬ (w).toInt = 11 → ¬ (w).toInt = 12 → (w).toInt = 13 → aTm aT0 mem → P (some (.int 0)) mem) (h8 : ¬ (w).toInt = 7 → ¬ (w).toInt = 8 → ¬ (w).toInt = 9 → ¬ (w).toInt = 10 → ¬ (w).toInt = 11 → ¬ (w).toInt = 12 → ¬ (w).toInt = 13 → (w).toInt = 14 → aTm aT0 mem → P (some (.int 0)) mem) (h9 : ¬ (w).toInt = 7 → ¬ (w).toInt = 8 → ¬ (w).toInt = 9 → ¬ (w).toInt = 10 → ¬ (w).toInt = 11 → ¬ (w).toInt = 12 → ¬ (w).toInt = 13 → ¬ (w).toInt = 14 → (w).toInt = 15 → aTm aT0 mem → P (some (.int 1)) mem) (h10 : ¬ (w).toInt = 7 → ¬ (w).toInt = 8 → ¬ (w).toInt = 9 → ¬ (w).toInt = 10 → ¬ (w).toInt = 11 → ¬ (w).toInt = 12 → ¬ (w).toInt = 13 → ¬ (w).toInt = 14 → ¬ (w).toInt = 15 → (w).toInt = 16 → aTm aT0 mem → P (some (.int 1)) mem) (h11 : ¬ (w).toInt = 7 → ¬ (w).toInt = 8 → ¬ (w).toInt = 9 → ¬ (w).toInt = 10 → ¬ (w).toInt = 11 → ¬ (w).toInt = 12 → ¬ (w).toInt = 13 → ¬ (w).toInt = 14 → ¬ (w).toInt = 15 → ¬ (w).toInt = 16 → (w).toInt = 17 → (gi mem 30 2).toInt = 1 → aTm aT0 mem → P (some (.int 0)) mem) (h12 : ¬ (w).toInt = 7 → ¬ (w).toInt = 8 → ¬ (w).toInt = 9 → ¬ (w).toInt = 10 → ¬ (w).toInt = 11 → ¬ (w).toInt = 12 → ¬ (w).toInt = 13 → ¬ (w).toInt = 14 → ¬ (w).toInt = 15 → ¬ (w).toInt = 16 → (w).toInt = 17 → ¬ (gi mem 30 2).toInt = 1 → aTm aT0 mem → P (some (.int 1)) mem) (h13 : ¬ (w).toInt = 7 → ¬ (w).toInt = 8 → ¬ (w).toInt = 9 → ¬ (w).toInt = 10 → ¬ (w).toInt = 11 → ¬ (w).toInt = 12 → ¬ (w).toInt = 13 → ¬ (w).toInt = 14 → ¬ (w).toInt = 15 → ¬ (w).toInt = 16 → ¬ (w).toInt = 17 → (w).toInt = 18 → ¬ (gi mem 30 2).toInt = 1 → aTm aT0 mem → P (some (.int 0)) mem) (h14 : ¬ (w).toInt = 7 → ¬ (w).toInt = 8 → ¬ (w).toInt = 9 → ¬ (w).toInt = 10 → ¬ (w).toInt = 11 → ¬ (w).toInt = 12 → ¬ (w).toInt = 13 → ¬ (w).toInt = 14 → ¬ (w).toInt = 15 → ¬ (w).toInt = 16 → ¬ (w).toInt = 17 → (w).toInt = 18 → (gi mem 30 2).toInt = 1 → aTm aT0 mem → P (some (.int 1)) mem) (h15 : ¬ (w).toInt = 7 → ¬ (w).toInt = 8 → ¬ (w).toInt = 9 → ¬ (w).toInt = 10 → ¬ (w).toInt = 11 → ¬ (w).toInt = 12 → ¬ (w).toInt = 13 → ¬ (w).toInt = 14 → ¬ (w).toInt = 15 → ¬ (w).toInt = 16 → ¬ (w).toInt = 17 → ¬ (w).toInt = 18 → aTm aT0 mem → P (some (.int 0)) mem) : yR zpg tX10_isValue d (0, [(0, .ref 30), (1, .int w)], [], mem) P := by
  refine yR_m 1 (fun _ _ _ _ => rfl) ?_
  refine wR_ts rfl rfl ⟨fun q1 => ?_, fun q1 => ⟨fun q2 => ?_, fun q2 => ⟨fun q3 => ?_, fun q3 => ⟨fun q4 => ?_, fun q4 => ⟨fun q5 => ?_, fun q5 => ⟨fun q6 => ?_, fun q6 => ⟨fun q7 => ?_, fun q7 => ⟨fun q8 => ?_, fun q8 => ⟨fun q9 => ?_, fun q9 => ⟨fun q10 => ?_, fun q10 => ⟨fun q11 => ?_, fun q11 => ⟨fun q12 => ?_, fun q12 => ?_⟩⟩⟩⟩⟩⟩⟩⟩⟩⟩⟩⟩
  ·
    have q1 : (w).toInt = 7 := q1
    refine yR_m 1 (fun _ _ _ _ => rfl) ?_
    exact yR_rz rfl ⟨by decide, by decide⟩ (h1 q1 hm)
  ·
    have q1 : ¬ (w).toInt = 7 := q1
    have q2 : (w).toInt = 8 := q2
    refine yR_m 1 (fun _ _ _ _ => rfl) ?_
    exact yR_rz rfl ⟨by decide, by decide⟩ (h2 q1 q2 hm)
  ·
    have q1 : ¬ (w).toInt = 7 := q1
    have q2 : ¬ (w).toInt = 8 := q2
    have q3 : (w).toInt = 9 := q3
    refine yR_m 1 (fun _ _ _ _ => rfl) ?_
    exact yR_rz rfl ⟨by decide, by decide⟩ (h3 q1 q2 q3 hm)
  ·
    have q1 : ¬ (w).toInt = 7 := q1
    have q2 : ¬ (w).toInt = 8 := q2
    have q3 : ¬ (w).toInt = 9 := q3
    have q4 : (w).toInt = 10 := q4
    refine yR_m 1 (fun _ _ _ _ => rfl) ?_
    exact yR_rz rfl ⟨by decide, by decide⟩ (h4 q1 q2 q3 q4 hm)
  ·
    have q1 : ¬ (w).toInt = 7 := q1
    have q2 : ¬ (w).toInt = 8 := q2
    have q3 : ¬ (w).toInt = 9 := q3
    have q4 : ¬ (w).toInt = 10 := q4
    have q5 : (w).toInt = 11 := q5
    refine yR_m 1 (fun _ _ _ _ => rfl) ?_
    exact yR_rz rfl ⟨by decide, by decide⟩ (h5 q1 q2 q3 q4 q5 hm)
  ·
    have q1 : ¬ (w).toInt = 7 := q1
    have q2 : ¬ (w).toInt = 8 := q2
    have q3 : ¬ (w).toInt = 9 := q3
    have q4 : ¬ (w).toInt = 10 := q4
    have q5 : ¬ (w).toInt = 11 := q5
    have q6 : (w).toInt = 12 := q6
    refine yR_m 1 (fun _ _ _ _ => rfl) ?_
    exact yR_rz rfl ⟨by decide, by decide⟩ (h6 q1 q2 q3 q4 q5 q6 hm)
  ·
    have q1 : ¬ (w).toInt = 7 := q1
    have q2 : ¬ (w).toInt = 8 := q2
    have q3 : ¬ (w).toInt = 9 := q3
    have q4 : ¬ (w).toInt = 10 := q4
    have q5 : ¬ (w).toInt = 11 := q5
    have q6 : ¬ (w).toInt = 12 := q6
    have q7 : (w).toInt = 13 := q7
    refine yR_m 1 (fun _ _ _ _ => rfl) ?_
    exact yR_rz rfl ⟨by decide, by decide⟩ (h7 q1 q2 q3 q4 q5 q6 q7 hm)
  ·
    have q1 : ¬ (w).toInt = 7 := q1
    have q2 : ¬ (w).toInt = 8 := q2
    have q3 : ¬ (w).toInt = 9 := q3
    have q4 : ¬ (w).toInt = 10 := q4
    have q5 : ¬ (w).toInt = 11 := q5
    have q6 : ¬ (w).toInt = 12 := q6
    have q7 : ¬ (w).toInt = 13 := q7
    have q8 : (w).toInt = 14 := q8
    refine yR_m 1 (fun _ _ _ _ => rfl) ?_
    exact yR_rz rfl ⟨by decide, by decide⟩ (h8 q1 q2 q3 q4 q5 q6 q7 q8 hm)
  ·
    have q1 : ¬ (w).toInt = 7 := q1
    have q2 : ¬ (w).toInt = 8 := q2
    have q3 : ¬ (w).toInt = 9 := q3
    have q4 : ¬ (w).toInt = 10 := q4
    have q5 : ¬ (w).toInt = 11 := q5
    have q6 : ¬ (w).toInt = 12 := q6
    have q7 : ¬ (w).toInt = 13 := q7
    have q8 : ¬ (w).toInt = 14 := q8
    have q9 : (w).toInt = 15 := q9
    refine yR_m 1 (fun _ _ _ _ => rfl) ?_
    exact yR_rz rfl ⟨by decide, by decide⟩ (h9 q1 q2 q3 q4 q5 q6 q7 q8 q9 hm)
  ·
    have q1 : ¬ (w).toInt = 7 := q1
    have q2 : ¬ (w).toInt = 8 := q2
    have q3 : ¬ (w).toInt = 9 := q3
    have q4 : ¬ (w).toInt = 10 := q4
    have q5 : ¬ (w).toInt = 11 := q5
    have q6 : ¬ (w).toInt = 12 := q6
    have q7 : ¬ (w).toInt = 13 := q7
    have q8 : ¬ (w).toInt = 14 := q8
    have q9 : ¬ (w).toInt = 15 := q9
    have q10 : (w).toInt = 16 := q10
    refine yR_m 1 (fun _ _ _ _ => rfl) ?_
    exact yR_rz rfl ⟨by decide, by decide⟩ (h10 q1 q2 q3 q4 q5 q6 q7 q8 q9 q10 hm)
  ·
    have q1 : ¬ (w).toInt = 7 := q1
    have q2 : ¬ (w).toInt = 8 := q2
    have q3 : ¬ (w).toInt = 9 := q3
    have q4 : ¬ (w).toInt = 10 := q4
    have q5 : ¬ (w).toInt = 11 := q5
    have q6 : ¬ (w).toInt = 12 := q6
    have q7 : ¬ (w).toInt = 13 := q7
    have q8 : ¬ (w).toInt = 14 := q8
    have q9 : ¬ (w).toInt = 15 := q9
    have q10 : ¬ (w).toInt = 16 := q10
    have q11 : (w).toInt = 17 := q11
    refine yR_m 1 (fun _ _ _ _ => rfl) ?_
    refine wR_gi rfl sO_e sO_2 hm rfl ?_
    refine yR_m 1 (fun _ _ _ _ => rfl) ?_
    refine wR_ic_eq rfl (a := (gi mem 30 2).toInt) (c := 1) rfl rfl (fun q13 => ?_) (fun q13 => ?_)
    ·
      refine yR_m 1 (fun _ _ _ _ => rfl) ?_
      exact yR_rz rfl ⟨by decide, by decide⟩ (h11 q1 q2 q3 q4 q5 q6 q7 q8 q9 q10 q11 q13 hm)
    ·
      refine yR_m 2 (fun _ _ _ _ => rfl) ?_
      exact yR_rz rfl ⟨by decide, by decide⟩ (h12 q1 q2 q3 q4 q5 q6 q7 q8 q9 q10 q11 q13 hm)
  ·
    have q1 : ¬ (w).toInt = 7 := q1
    have q2 : ¬ (w).toInt = 8 := q2
    have q3 : ¬ (w).toInt = 9 := q3
    have q4 : ¬ (w).toInt = 10 := q4
    have q5 : ¬ (w).toInt = 11 := q5
    have q6 : ¬ (w).toInt = 12 := q6
    have q7 : ¬ (w).toInt = 13 := q7
    have q8 : ¬ (w).toInt = 14 := q8
    have q9 : ¬ (w).toInt = 15 := q9
    have q10 : ¬ (w).toInt = 16 := q10
    have q11 : ¬ (w).toInt = 17 := q11
    have q12 : (w).toInt = 18 := q12
    refine yR_m 1 (fun _ _ _ _ => rfl) ?_
    refine wR_gi rfl sO_e sO_2 hm rfl ?_
    refine yR_m 1 (fun _ _ _ _ => rfl) ?_
    refine wR_ic_ne rfl (a := (gi mem 30 2).toInt) (c := 1) rfl rfl (fun q14 => ?_) (fun q14 => ?_)
    ·
      refine yR_m 1 (fun _ _ _ _ => rfl) ?_
      exact yR_rz rfl ⟨by decide, by decide⟩ (h13 q1 q2 q3 q4 q5 q6 q7 q8 q9 q10 q11 q12 q14 hm)
    ·
      refine yR_m 2 (fun _ _ _ _ => rfl) ?_
      exact yR_rz rfl ⟨by decide, by decide⟩ (h14 q1 q2 q3 q4 q5 q6 q7 q8 q9 q10 q11 q12 q14 hm)
  ·
    have q1 : ¬ (w).toInt = 7 := q1
    have q2 : ¬ (w).toInt = 8 := q2
    have q3 : ¬ (w).toInt = 9 := q3
    have q4 : ¬ (w).toInt = 10 := q4
    have q5 : ¬ (w).toInt = 11 := q5
    have q6 : ¬ (w).toInt = 12 := q6
    have q7 : ¬ (w).toInt = 13 := q7
    have q8 : ¬ (w).toInt = 14 := q8
    have q9 : ¬ (w).toInt = 15 := q9
    have q10 : ¬ (w).toInt = 16 := q10
    have q11 : ¬ (w).toInt = 17 := q11
    have q12 : ¬ (w).toInt = 18 := q12
    refine yR_m 1 (fun _ _ _ _ => rfl) ?_
    exact yR_rz rfl ⟨by decide, by decide⟩ (h15 q1 q2 q3 q4 q5 q6 q7 q8 q9 q10 q11 q12 hm)

theorem h_ivC {w : Int32} (hm : aTm aT0 mem) (hru : (gi mem 30 2).toInt = ru) (hd : 1 ≤ d) : yC zpg d 108 [.ref 30, .int w] mem (fun r m => ∃ v : Int32, r = some (.int v) ∧ mem = m ∧ ((v.toInt = 0 ∧ ¬ ivV ru w.toInt) ∨ (v.toInt = 1 ∧ ivV ru w.toInt))) := by
  obtain ⟨d, rfl⟩ : ∃ q, d = q + 1 := ⟨d - 1, by omega⟩
  refine yC_of (t := tX10_isValue) rfl rfl ?_
  exact w_ivC hm
        (fun q1 hm2 => ⟨_, rfl, rfl, by first | exact Or.inl ⟨rfl, fun w => by unfold ivV at w; omega⟩ | exact Or.inr ⟨rfl, by unfold ivV; omega⟩⟩)
        (fun q1 q2 hm2 => ⟨_, rfl, rfl, by first | exact Or.inl ⟨rfl, fun w => by unfold ivV at w; omega⟩ | exact Or.inr ⟨rfl, by unfold ivV; omega⟩⟩)
        (fun q1 q2 q3 hm2 => ⟨_, rfl, rfl, by first | exact Or.inl ⟨rfl, fun w => by unfold ivV at w; omega⟩ | exact Or.inr ⟨rfl, by unfold ivV; omega⟩⟩)
        (fun q1 q2 q3 q4 hm2 => ⟨_, rfl, rfl, by first | exact Or.inl ⟨rfl, fun w => by unfold ivV at w; omega⟩ | exact Or.inr ⟨rfl, by unfold ivV; omega⟩⟩)
        (fun q1 q2 q3 q4 q5 hm2 => ⟨_, rfl, rfl, by first | exact Or.inl ⟨rfl, fun w => by unfold ivV at w; omega⟩ | exact Or.inr ⟨rfl, by unfold ivV; omega⟩⟩)
        (fun q1 q2 q3 q4 q5 q6 hm2 => ⟨_, rfl, rfl, by first | exact Or.inl ⟨rfl, fun w => by unfold ivV at w; omega⟩ | exact Or.inr ⟨rfl, by unfold ivV; omega⟩⟩)
        (fun q1 q2 q3 q4 q5 q6 q7 hm2 => ⟨_, rfl, rfl, by first | exact Or.inl ⟨rfl, fun w => by unfold ivV at w; omega⟩ | exact Or.inr ⟨rfl, by unfold ivV; omega⟩⟩)
        (fun q1 q2 q3 q4 q5 q6 q7 q8 hm2 => ⟨_, rfl, rfl, by first | exact Or.inl ⟨rfl, fun w => by unfold ivV at w; omega⟩ | exact Or.inr ⟨rfl, by unfold ivV; omega⟩⟩)
        (fun q1 q2 q3 q4 q5 q6 q7 q8 q9 hm2 => ⟨_, rfl, rfl, by first | exact Or.inl ⟨rfl, fun w => by unfold ivV at w; omega⟩ | exact Or.inr ⟨rfl, by unfold ivV; omega⟩⟩)
        (fun q1 q2 q3 q4 q5 q6 q7 q8 q9 q10 hm2 => ⟨_, rfl, rfl, by first | exact Or.inl ⟨rfl, fun w => by unfold ivV at w; omega⟩ | exact Or.inr ⟨rfl, by unfold ivV; omega⟩⟩)
        (fun q1 q2 q3 q4 q5 q6 q7 q8 q9 q10 q11 q13 hm2 => ⟨_, rfl, rfl, by first | exact Or.inl ⟨rfl, fun w => by unfold ivV at w; omega⟩ | exact Or.inr ⟨rfl, by unfold ivV; omega⟩⟩)
        (fun q1 q2 q3 q4 q5 q6 q7 q8 q9 q10 q11 q13 hm2 => ⟨_, rfl, rfl, by first | exact Or.inl ⟨rfl, fun w => by unfold ivV at w; omega⟩ | exact Or.inr ⟨rfl, by unfold ivV; omega⟩⟩)
        (fun q1 q2 q3 q4 q5 q6 q7 q8 q9 q10 q11 q12 q14 hm2 => ⟨_, rfl, rfl, by first | exact Or.inl ⟨rfl, fun w => by unfold ivV at w; omega⟩ | exact Or.inr ⟨rfl, by unfold ivV; omega⟩⟩)
        (fun q1 q2 q3 q4 q5 q6 q7 q8 q9 q10 q11 q12 q14 hm2 => ⟨_, rfl, rfl, by first | exact Or.inl ⟨rfl, fun w => by unfold ivV at w; omega⟩ | exact Or.inr ⟨rfl, by unfold ivV; omega⟩⟩)
        (fun q1 q2 q3 q4 q5 q6 q7 q8 q9 q10 q11 q12 hm2 => ⟨_, rfl, rfl, by first | exact Or.inl ⟨rfl, fun w => by unfold ivV at w; omega⟩ | exact Or.inr ⟨rfl, by unfold ivV; omega⟩⟩)
end CX
