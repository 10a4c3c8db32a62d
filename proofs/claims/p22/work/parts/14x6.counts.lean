/-! what a quay's text says so far (pure): columns, rows, walls, things (name, place), things had, folk (name, start, home), rules told; hues and highs, pace, gale, the rules' code -/
abbrev Qe : Type := List (Int × Int) × Int × Int × List (Int × List Int)
abbrev Qd : Type := Int × Int × List Int × List (List Int × Int) × List Int × List (List Int × Int × Int) × List Int × Qe
abbrev Qc (Q : Qd) : Int := Q.1
abbrev Qr (Q : Qd) : Int := Q.2.1
abbrev Qw (Q : Qd) : List Int := Q.2.2.1
abbrev Qt (Q : Qd) : List (List Int × Int) := Q.2.2.2.1
abbrev Qh (Q : Qd) : List Int := Q.2.2.2.2.1
abbrev Qf (Q : Qd) : List (List Int × Int × Int) := Q.2.2.2.2.2.1
abbrev Qu (Q : Qd) : List Int := Q.2.2.2.2.2.2.1
abbrev Qx (Q : Qd) : Qe := Q.2.2.2.2.2.2.2
abbrev Qg (Q : Qd) : List (Int × Int) := Q.2.2.2.2.2.2.2.1
abbrev Qp (Q : Qd) : Int := Q.2.2.2.2.2.2.2.2.1
abbrev Qa (Q : Qd) : Int := Q.2.2.2.2.2.2.2.2.2.1
abbrev Qk (Q : Qd) : List (Int × List Int) := Q.2.2.2.2.2.2.2.2.2.2
/-- pace (2) or gale told -/
def setT (k v : Int) (Q : Qd) : Qd := (Qc Q, Qr Q, Qw Q, Qt Q, Qh Q, Qf Q, Qu Q, Qg Q, if k = 2 then v else Qp Q, if k = 2 then Qa Q else v, Qk Q)
def nmd (Q : Qd) (nm : List Int) : Prop := (∃ x ∈ Qt Q, x.1 = nm) ∨ (∃ x ∈ Qf Q, x.1 = nm)
def inw (Q : Qd) (c : Int) : Prop := (∃ x ∈ Qt Q, x.2 = c) ∨ (∃ x ∈ Qf Q, x.2.1 = c ∨ x.2.2 = c)
section SQ
variable (T : List Int32) (n : Int)
noncomputable def sFre (Q : Qd) (p : Int) : Option (List Int × Int) := (sNam T n p).bind fun x => oif (¬ nmd Q x.1) (some x)
/-- a cell: wl says whether it is for a wall -/
noncomputable def sCel (wl : Prop) (Q : Qd) (p : Int) : Option (Int × Int) := (sNum T n 0 (Qc Q - 1) p).bind fun x => (sNum T n 0 (Qr Q - 1) x.2).bind fun y => oif (¬ (8 * y.1 + x.1) ∈ Qw Q ∧ (wl → ¬ inw Q (8 * y.1 + x.1))) (some (8 * y.1 + x.1, y.2))
end SQ
/-! the model's steps, where it reads given as a place or none -/
section MG
variable {d : Nat} {mr mem : zM} {T : List Int32} {n p e : Int} {t : Tk} {s : Option Int}
theorem mS_no {s' : Option Int} {m : zM} (h : 1 ≤ fk m) (e : s' = none) : mS T n s' m := Or.inr ⟨e, h⟩
/-- from a step over a sign to what it means -/
theorem stO_S {p e : Int} {t : Tk} {ok : Prop} {x : Option Int} {m : zM} (h : stO T n e ok mem m) (h0 : fk mem = 0) (hx : x = oif ok (some e)) : mS T n x m := by
  rcases h with ⟨⟨-, h1⟩, h2, h3⟩ | ⟨h1, h2⟩
  · exact Or.inl ⟨e, by rw [hx, oif_t h1], h2, h3⟩
  · refine Or.inr ⟨?_, h2⟩
    rcases h1 with h1 | h1
    · exfalso; omega
    · rw [hx, oif_f h1]
theorem h_mustS {c : Int32} (hm : aTm aT0 mem) (hT : tOK mem) (h : mS T n s mem) (hd : 4 ≤ d) : yC zpg d 176 [.ref 221, .int c] mem (fun r m => r = none ∧ aTm aT0 m ∧ (tQ mem m ∧ mS T n (s.bind (sSgn T n c.toInt)) m)) := by
  rcases h with ⟨p, rfl, h0, t, e, hR⟩ | ⟨rfl, h0⟩
  · refine yC_mono (fun r m q => ⟨q.1.1, q.1.2.1, q.1.2.2, stO_S (p := p) (t := t) q.2 h0 ?_⟩) (yC_and (h_must hm hT hd) (h_mustF hm hT.2 (fun _ => hR) hd))
    show sSgn T n c.toInt p = _
    unfold sSgn
    rw [tkf_e hR.2.1]
  · refine yC_mono (fun r m q => ⟨q.1.1, q.1.2.1, q.1.2.2, ?_⟩) (yC_and (h_must hm hT hd) (h_mustF (T := T) (n := n) (p := 0) (e := 0) (t := (0, 0, [])) hm hT.2 (fun w => by exfalso; have w2 : fk mem = 0 := w; omega) hd))
    rcases q.2 with ⟨⟨w, -⟩, -⟩ | ⟨-, w⟩
    · exfalso; omega
    · exact Or.inr ⟨rfl, w⟩
theorem h_mustWS {c : Int64} {k : Int} (hk : 0 ≤ k ∧ k < 26) (hc : c.toInt = wnl (ownW.getD k.toNat [])) (hm : aTm aT0 mem) (hT : tOK mem) (h : mS T n s mem) (hd : 4 ≤ d) : yC zpg d 192 [.ref 221, .long c] mem (fun r m => r = none ∧ aTm aT0 m ∧ (tQ mem m ∧ mS T n (s.bind (sOwn T n k)) m)) := by
  have hl : ∀ a ∈ ownW.getD k.toNat [], ltr a := ownW_l _ (ownW_m hk.1 hk.2)
  rcases h with ⟨p, rfl, h0, t, e, hR⟩ | ⟨rfl, h0⟩
  · refine yC_mono (fun r m q => ⟨q.1.1, q.1.2.1, q.1.2.2, stO_S (p := p) (t := t) q.2 h0 ?_⟩) (yC_and (h_must_ hm hT hd) (h_mustW hc hl hm hT.2 (fun _ => hR) hd))
    show sOwn T n k p = _
    unfold sOwn
    rw [tkf_e hR.2.1]
  · refine yC_mono (fun r m q => ⟨q.1.1, q.1.2.1, q.1.2.2, ?_⟩) (yC_and (h_must_ hm hT hd) (h_mustW (T := T) (n := n) (p := 0) (e := 0) (t := (0, 0, [])) hc hl hm hT.2 (fun w => by exfalso; have w2 : fk mem = 0 := w; omega) hd))
    rcases q.2 with ⟨⟨w, -⟩, -⟩ | ⟨-, w⟩
    · exfalso; omega
    · exact Or.inr ⟨rfl, w⟩
/-- a number's place and value -/
noncomputable def nuP (T : List Int32) (n a b : Int) (s : Option Int) : Option Int := s.bind fun p => (sNum T n a b p).map Prod.snd
def nuV (T : List Int32) (n a b : Int) (s : Option Int) (v : Int) : Prop := ∀ p x, s = some p → sNum T n a b p = some x → v = x.1
theorem h_numS {a b : Int32} {ai bi : Int} (ea : a.toInt = ai) (eb : b.toInt = bi) (hm : aTm aT0 mem) (hT : tOK mem) (h : mS T n s mem) (hd : 4 ≤ d) : yC zpg d 180 [.ref 221, .int a, .int b] mem (fun r m => ∃ v : Int32, r = some (.int v) ∧ aTm aT0 m ∧ (tQ mem m ∧ mS T n (nuP T n ai bi s) m ∧ nuV T n ai bi s v.toInt)) := by
  subst ea eb
  rcases h with ⟨p, rfl, h0, t, e, hR⟩ | ⟨rfl, h0⟩
  · refine yC_mono (fun r m q => ?_) (yC_and (h_number hm hT hd) (h_numF (a := a) (b := b) hm hT.2 (fun _ => hR) hd))
    obtain ⟨⟨v, q1, q2, q3, -⟩, q5, q6⟩ := q
    have es : sNum T n a.toInt b.toInt p = oif (t.1 = 2 ∧ a.toInt ≤ t.2.1 ∧ t.2.1 ≤ b.toInt) (some (t.2.1, e)) := by
      unfold sNum
      rw [tkf_e hR.2.1]
    refine ⟨v, q1, q2, q3, stO_S (p := p) (t := t) q5 h0 ?_, fun p' x e1 e2 => ?_⟩
    · show (sNum T n a.toInt b.toInt p).map Prod.snd = _
      rw [es]
      by_cases w : t.1 = 2 ∧ a.toInt ≤ t.2.1 ∧ t.2.1 ≤ b.toInt
      · rw [oif_t w, oif_t w]; rfl
      · rw [oif_f w, oif_f w]; rfl
    · cases e1
      rw [es] at e2
      by_cases w : t.1 = 2 ∧ a.toInt ≤ t.2.1 ∧ t.2.1 ≤ b.toInt
      · rw [oif_t w] at e2
        cases e2
        rcases q5 with ⟨-, z, -⟩ | ⟨z, -⟩
        · obtain ⟨v', w1, w2⟩ := q6 z
          rw [q1] at w1
          cases w1
          exact w2
        · rcases z with z | z
          · exfalso; omega
          · exact absurd w z
      · rw [oif_f w] at e2
        cases e2
  · refine yC_mono (fun r m q => ?_) (yC_and (h_number hm hT hd) (h_numF (T := T) (n := n) (p := 0) (e := 0) (t := (0, 0, [])) (a := a) (b := b) hm hT.2 (fun w => by exfalso; have w2 : fk mem = 0 := w; omega) hd))
    obtain ⟨⟨v, q1, q2, q3, -⟩, q5, q6⟩ := q
    refine ⟨v, q1, q2, q3, ?_, fun p x e1 => by cases e1⟩
    rcases q5 with ⟨⟨w, -⟩, -⟩ | ⟨-, w⟩
    · exfalso; omega
    · exact Or.inr ⟨rfl, w⟩
set_option maxRecDepth 100000 in
theorem w_cnF {d : Nat} {mem : zM} {P : Option Value → zM → Prop} {T : List Int32} {n p e : Int} {t : Tk} {c : Int32} (hm : aTm aT0 mem) (h1 : ¬ (gi mem 221 8).toInt = 0 → aTm aT0 mem → P (some (.int 0)) mem) (s1 : (gi mem 221 8).toInt = 0 → (c).toInt = 0 → mR T n p t e mem) (h2 : (gi mem 221 8).toInt = 0 → (c).toInt = 0 → ∀ (m3 : zM), aTm aT0 m3 → (ahQ mem m3 ∧ mRd T n e m3) → ¬ (gi m3 221 8).toInt = 0 → aTm aT0 m3 → P (some (.int 0)) m3) (h3 : (gi mem 221 8).toInt = 0 → (c).toInt = 0 → ∀ (m3 : zM), aTm aT0 m3 → (ahQ mem m3 ∧ mRd T n e m3) → (gi m3 221 8).toInt = 0 → aTm aT0 m3 → P (some (.int 1)) m3) (h4 : (gi mem 221 8).toInt = 0 → ¬ (c).toInt = 0 → aTm aT0 (si (si mem 221 8 6) 221 9 (gi mem 221 4)) → P (some (.int 0)) (si (si mem 221 8 6) 221 9 (gi mem 221 4))) : yR zpg tX12_isCounted (d + 3) (0, [(0, .ref 221), (1, .int c)], [], mem) P := by
  refine yR_m 1 (fun _ _ _ _ => rfl) ?_
  refine wR_gi rfl mO_e mO_8 hm rfl ?_
  refine wR_if_ne rfl (a := (gi mem 221 8).toInt) rfl (fun q1 => ?_) (fun q1 => ?_)
  ·
    refine yR_m 1 (fun _ _ _ _ => rfl) ?_
    refine wR_gi rfl mO_e mO_8 hm rfl ?_
    refine wR_if_ne rfl (a := (gi mem 221 8).toInt) rfl (fun _ => ?_) (fun q => by exfalso; omega)
    refine yR_m 1 (fun _ _ _ _ => rfl) ?_
    refine wR_gi rfl mO_e mO_8 hm rfl ?_
    refine wR_if_ne rfl (a := (gi mem 221 8).toInt) rfl (fun _ => ?_) (fun q => by exfalso; omega)
    refine yR_m 1 (fun _ _ _ _ => rfl) ?_
    exact yR_rz rfl ⟨by decide, by decide⟩ (h1 q1 hm)
  ·
    refine yR_m 1 (fun _ _ _ _ => rfl) ?_
    refine wR_if_eq rfl (a := (c).toInt) rfl (fun q2 => ?_) (fun q2 => ?_)
    ·
      refine yR_m 1 (fun _ _ _ _ => rfl) ?_
      refine wR_gi rfl mO_e mO_8 hm rfl ?_
      refine wR_if_ne rfl (a := (gi mem 221 8).toInt) rfl (fun q => by exfalso; omega) (fun _ => ?_)
      refine yR_m 1 (fun _ _ _ _ => rfl) ?_
      refine wR_cv rfl rfl mO_e hm rfl (h_aheadM hm (s1 q1 q2) (by omega)) ?_
      rintro _ m3 ⟨rfl, hI3, k4⟩
      show yR zpg tX12_isCounted (d + 3) (32, [(0, .ref 221), (1, .int c)], [], m3) _
      refine yR_m 1 (fun _ _ _ _ => rfl) ?_
      refine wR_gi rfl mO_e mO_8 hI3 rfl ?_
      refine wR_if_ne rfl (a := (gi m3 221 8).toInt) rfl (fun q5 => ?_) (fun q5 => ?_)
      ·
        refine yR_m 1 (fun _ _ _ _ => rfl) ?_
        exact yR_rz rfl ⟨by decide, by decide⟩ (h2 q1 q2 m3 hI3 k4 q5 hI3)
      ·
        refine yR_m 2 (fun _ _ _ _ => rfl) ?_
        exact yR_rz rfl ⟨by decide, by decide⟩ (h3 q1 q2 m3 hI3 k4 q5 hI3)
    ·
      refine yR_m 3 (fun _ _ _ _ => rfl) ?_
      refine wR_gi rfl mO_e mO_4 hm rfl ?_
      refine wR_iv rfl rfl mO_e hm rfl rfl rfl rfl ?_
      show yR zpg tX12_blame (d + 2) (0, [(0, .ref 221), (1, .int 6), (2, .int (gi mem 221 4))], [], mem) _
      refine yR_m 1 (fun _ _ _ _ => rfl) ?_
      refine wR_gi rfl mO_e mO_8 hm rfl ?_
      refine wR_if_le rfl (a := (gi mem 221 8).toInt) rfl (fun _ => ?_) (fun q => by exfalso; omega)
      refine yR_m 2 (fun _ _ _ _ => rfl) ?_
      refine wR_pi rfl mO_e mO_8 hm rfl ?_
      have hm_1 : aTm aT0 (si mem 221 8 6) := tm_si mO_e mO_8 hm (i32_b _)
      refine yR_m 2 (fun _ _ _ _ => rfl) ?_
      refine wR_pi rfl mO_e mO_9 hm_1 rfl ?_
      have hm_2 : aTm aT0 (si (si mem 221 8 6) 221 9 (gi mem 221 4)) := tm_si mO_e mO_9 hm_1 (i32_b _)
      refine yR_rv rfl ?_
      show yR zpg tX12_isCounted (d + 3) (21, [(0, .ref 221), (1, .int c)], [], (si (si mem 221 8 6) 221 9 (gi mem 221 4))) _
      refine yR_m 1 (fun _ _ _ _ => rfl) ?_
      refine wR_gi rfl mO_e mO_8 hm_2 ((gi_sv_ne (by decide)).trans (gi_si_eq mO_e mO_8 hm)) ?_
      refine wR_if_ne rfl (a := 6) rfl (fun _ => ?_) (fun q => by exfalso; omega)
      refine yR_m 1 (fun _ _ _ _ => rfl) ?_
      refine wR_gi rfl mO_e mO_8 hm_2 ((gi_sv_ne (by decide)).trans (gi_si_eq mO_e mO_8 hm)) ?_
      refine wR_if_ne rfl (a := 6) rfl (fun _ => ?_) (fun q => by exfalso; omega)
      refine yR_m 1 (fun _ _ _ _ => rfl) ?_
      exact yR_rz rfl ⟨by decide, by decide⟩ (h4 q1 q2 hm_2)

theorem h_cnF {c : Int32} (hm : aTm aT0 mem) (h8 : 0 ≤ (gi mem 221 8).toInt) (hR : (gi mem 221 8).toInt = 0 → mR T n p t e mem) (hd : 4 ≤ d) : yC zpg d 191 [.ref 221, .int c] mem (fun r m => stO T n e (c.toInt = 0) mem m) := by
  obtain ⟨d, rfl⟩ : ∃ q, d = q + 4 := ⟨d - 4, by omega⟩
  refine yC_of (t := tX12_isCounted) rfl rfl ?_
  exact w_cnF (T := T) (n := n) (p := p) (e := e) (t := t) hm
        (fun q1 hm2 => Or.inr ⟨Or.inl (by show 1 ≤ (gi mem 221 8).toInt; omega), by show 1 ≤ (gi mem 221 8).toInt; omega⟩)
        (fun q1 q2 => hR (by omega))
        (fun q1 q2 m3 hI3 k4 q5 hm2 => by exfalso; have w := congrArg Int32.toInt (fr_gi k4.1.1 (i := 8) rfl); omega)
        (fun q1 q2 m3 hI3 k4 q5 hm2 => Or.inl ⟨⟨by show (gi mem 221 8).toInt = 0; omega, by omega⟩, by show (gi _ 221 8).toInt = 0; rw [fr_gi k4.1.1 rfl]; omega, k4.2⟩)
        (fun q1 q2 hm2 => Or.inr ⟨Or.inr (by omega), by show 1 ≤ (gi _ 221 8).toInt; rw [((gi_sv_ne (by decide)).trans (gi_eqO (isO_of hm) (by decide)))]; decide⟩)
/-- the sign is passed, if there is room -/
noncomputable def cnP (T : List Int32) (n : Int) (ok : Prop) (p : Int) : Option Int := oif ok (some (tkf T n p).2)
theorem h_cnS {c : Int32} {ci : Int} (ec : c.toInt = ci) (hm : aTm aT0 mem) (hT : tOK mem) (sg : ¬ (gi mem 221 3).toInt = 0) (h : mS T n s mem) (hd : 4 ≤ d) : yC zpg d 191 [.ref 221, .int c] mem (fun r m => ∃ v : Int32, r = some (.int v) ∧ aTm aT0 m ∧ (tQ mem m ∧ mS T n (s.bind (cnP T n (ci = 0))) m ∧ ((v.toInt = 0 ∧ 1 ≤ (gi m 221 8).toInt) ∨ (¬ v.toInt = 0 ∧ (gi m 221 8).toInt = 0 ∧ ci = 0)))) := by
  subst ec
  rcases h with ⟨p, rfl, h0, t, e, hR⟩ | ⟨rfl, h0⟩
  · refine yC_mono (fun r m q => ?_) (yC_and (h_isCounted5 (b := c.toInt) rfl hm hT sg hd) (h_cnF (c := c) hm hT.2 (fun _ => hR) hd))
    obtain ⟨⟨v, q1, q2, q3, q4⟩, q5⟩ := q
    refine ⟨v, q1, q2, q3, stO_S (p := p) (t := t) q5 h0 ?_, q4⟩
    show cnP T n (c.toInt = 0) p = _
    unfold cnP
    rw [tkf_e hR.2.1]
  · refine yC_mono (fun r m q => ?_) (yC_and (h_isCounted5 (b := c.toInt) rfl hm hT sg hd) (h_cnF (T := T) (n := n) (p := 0) (e := 0) (t := (0, 0, [])) (c := c) hm hT.2 (fun w => by exfalso; have w2 : fk mem = 0 := w; omega) hd))
    obtain ⟨⟨v, q1, q2, q3, q4⟩, q5⟩ := q
    refine ⟨v, q1, q2, q3, ?_, q4⟩
    rcases q5 with ⟨⟨w, -⟩, -⟩ | ⟨-, w⟩
    · exfalso; omega
    · exact Or.inr ⟨rfl, w⟩
end MG
