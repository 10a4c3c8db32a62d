/-! signs as a function; steps over them (pure) -/
noncomputable def tkf (T : List Int32) (n p : Int) : Tk × Int := @dite _ (∃ q : Tk × Int, Tok T n p q.1 q.2) (Classical.propDecidable _) (fun h => h.choose) (fun _ => ((4, 0, []), p))
theorem tkf_e {T : List Int32} {n p e : Int} {t : Tk} (h : Tok T n p t e) : tkf T n p = (t, e) := by
  unfold tkf
  have hx : ∃ q : Tk × Int, Tok T n p q.1 q.2 := ⟨(t, e), h⟩
  rw [dif_pos hx]
  have u := Tok_u hx.choose_spec h
  exact Prod.ext u.1 u.2
noncomputable def oif {α : Type} (c : Prop) (x : Option α) : Option α := @ite _ c (Classical.propDecidable _) x none
theorem oif_t {α : Type} {c : Prop} {x : Option α} (h : c) : oif c x = x := if_pos h
theorem oif_f {α : Type} {c : Prop} {x : Option α} (h : ¬ c) : oif c x = none := if_neg h
section SP
variable (T : List Int32) (n : Int)
noncomputable def sOwn (w p : Int) : Option Int := oif ((tkf T n p).1.1 = 1 ∧ (tkf T n p).1.2.2 = ownW.getD w.toNat []) (some (tkf T n p).2)
noncomputable def sSgn (c p : Int) : Option Int := oif ((tkf T n p).1.1 = 3 ∧ (tkf T n p).1.2.1 = c) (some (tkf T n p).2)
noncomputable def sNam (p : Int) : Option (List Int × Int) := oif ((tkf T n p).1.1 = 1 ∧ ¬ (tkf T n p).1.2.2 ∈ ownW) (some ((tkf T n p).1.2.2, (tkf T n p).2))
noncomputable def sNum (lo hi p : Int) : Option (Int × Int) := oif ((tkf T n p).1.1 = 2 ∧ lo ≤ (tkf T n p).1.2.1 ∧ (tkf T n p).1.2.1 ≤ hi) (some ((tkf T n p).1.2.1, (tkf T n p).2))
end SP
theorem ownW_i {i j : Int} (h0 : 0 ≤ i) (h1 : i < 26) (k0 : 0 ≤ j) (k1 : j < 26) (h : ownW.getD i.toNat [] = ownW.getD j.toNat []) : i = j := by
  have a : ∀ x y : Fin 26, ownW.getD x.1 [] = ownW.getD y.1 [] → x = y := by decide
  have e := a ⟨i.toNat, by omega⟩ ⟨j.toNat, by omega⟩ h
  have e2 : i.toNat = j.toNat := congrArg Fin.val e
  omega
theorem ownW_m {i : Int} (h0 : 0 ≤ i) (h1 : i < 26) : ownW.getD i.toNat [] ∈ ownW := by
  rw [List.getD_eq_getElem?_getD, List.getElem?_eq_getElem (show i.toNat < ownW.length by show _ < 26; omega)]
  exact List.getElem_mem _
/-! the class's Reader: takes -/
theorem own_iff {t : Tk} {k v w : Int} (h : cEnc t k v) (w0 : 0 ≤ w) (w1 : w < 26) : (k = 2 ∧ v = w) ↔ (t.1 = 1 ∧ t.2.2 = ownW.getD w.toNat []) := by
  rcases h with ⟨h1, h2⟩ | ⟨h1, h2, h3⟩ | ⟨h1, h2, h3⟩ | ⟨h1, h2⟩ | ⟨h1, h2⟩
  · exact ⟨fun q => by exfalso; omega, fun q => by exfalso; omega⟩
  · exact ⟨fun q => by exfalso; omega, fun q => by exfalso; omega⟩
  · exact ⟨fun q => by exfalso; omega, fun q => by exfalso; omega⟩
  · exact ⟨fun q => by exfalso; omega, fun q => by exfalso; omega⟩
  · rcases h2 with ⟨a, ⟨b1, b2⟩, c⟩ | ⟨a, b, c⟩
    · constructor
      · rintro ⟨-, q⟩
        exact ⟨h1, by rw [← q]; exact c⟩
      · rintro ⟨-, q⟩
        exact ⟨a, ownW_i b1 b2 w0 w1 (c.symm.trans q)⟩
    · constructor
      · rintro ⟨q, -⟩
        exfalso; omega
      · rintro ⟨-, q⟩
        exact absurd (by rw [q]; exact ownW_m w0 w1) c
theorem sgn_iff {t : Tk} {k v c : Int} (h : cEnc t k v) : (k = 4 ∧ v = c) ↔ (t.1 = 3 ∧ t.2.1 = c) := by
  rcases h with ⟨h1, h2⟩ | ⟨h1, h2, h3⟩ | ⟨h1, h2, h3⟩ | ⟨h1, h2⟩ | ⟨h1, h2⟩
  · exact ⟨fun q => by exfalso; omega, fun q => by exfalso; omega⟩
  · exact ⟨fun q => ⟨h1, by omega⟩, fun q => ⟨h2, by omega⟩⟩
  · exact ⟨fun q => by exfalso; omega, fun q => by exfalso; omega⟩
  · exact ⟨fun q => by exfalso; omega, fun q => by exfalso; omega⟩
  · refine ⟨fun q => ?_, fun q => by exfalso; omega⟩
    rcases h2 with ⟨a, -⟩ | ⟨a, -⟩ <;> (exfalso; omega)
theorem nam_iff {t : Tk} {k v : Int} (h : cEnc t k v) : k = 1 ↔ (t.1 = 1 ∧ ¬ t.2.2 ∈ ownW) := by
  rcases h with ⟨h1, h2⟩ | ⟨h1, h2, h3⟩ | ⟨h1, h2, h3⟩ | ⟨h1, h2⟩ | ⟨h1, h2⟩
  · exact ⟨fun q => by exfalso; omega, fun q => by exfalso; omega⟩
  · exact ⟨fun q => by exfalso; omega, fun q => by exfalso; omega⟩
  · exact ⟨fun q => by exfalso; omega, fun q => by exfalso; omega⟩
  · exact ⟨fun q => by exfalso; omega, fun q => by exfalso; omega⟩
  · rcases h2 with ⟨a, ⟨b1, b2⟩, c⟩ | ⟨a, b, c⟩
    · exact ⟨fun q => by exfalso; omega, fun q => absurd (by rw [c]; exact ownW_m b1 b2) q.2⟩
    · exact ⟨fun _ => ⟨h1, c⟩, fun _ => a⟩
theorem nam_v {t : Tk} {k v : Int} (h : cEnc t k v) (hk : k = 1) : v = cnl t.2.2 := by
  rcases h with ⟨h1, h2⟩ | ⟨h1, h2, h3⟩ | ⟨h1, h2, h3⟩ | ⟨h1, h2⟩ | ⟨h1, h2⟩
  · exfalso; omega
  · exfalso; omega
  · exfalso; omega
  · exfalso; omega
  · rcases h2 with ⟨a, -⟩ | ⟨a, b, -⟩
    · exfalso; omega
    · exact b
theorem num_iff {t : Tk} {k v : Int} (h : cEnc t k v) : (k = 3 ↔ t.1 = 2) ∧ (k = 3 → v = t.2.1) := by
  rcases h with ⟨h1, h2⟩ | ⟨h1, h2, h3⟩ | ⟨h1, h2, h3⟩ | ⟨h1, h2⟩ | ⟨h1, h2⟩
  · exact ⟨⟨fun q => by exfalso; omega, fun q => by exfalso; omega⟩, fun q => by exfalso; omega⟩
  · exact ⟨⟨fun q => by exfalso; omega, fun q => by exfalso; omega⟩, fun q => by exfalso; omega⟩
  · exact ⟨⟨fun q => h1, fun q => h2⟩, fun _ => h3⟩
  · exact ⟨⟨fun q => by exfalso; omega, fun q => by exfalso; omega⟩, fun q => by exfalso; omega⟩
  · refine ⟨⟨fun q => ?_, fun q => by exfalso; omega⟩, fun q => ?_⟩
    · rcases h2 with ⟨a, -⟩ | ⟨a, -⟩ <;> (exfalso; omega)
    · rcases h2 with ⟨a, -⟩ | ⟨a, -⟩ <;> (exfalso; omega)
theorem bad_iff {t : Tk} {k v : Int} (h : cEnc t k v) : (k = 5 ↔ t.1 = 4) ∧ (k = 0 ↔ t.1 = 0) := by
  rcases h with ⟨h1, h2⟩ | ⟨h1, h2, h3⟩ | ⟨h1, h2, h3⟩ | ⟨h1, h2⟩ | ⟨h1, h2⟩
  · exact ⟨⟨fun q => by exfalso; omega, fun q => by exfalso; omega⟩, ⟨fun _ => h1, fun _ => h2⟩⟩
  · exact ⟨⟨fun q => by exfalso; omega, fun q => by exfalso; omega⟩, ⟨fun q => by exfalso; omega, fun q => by exfalso; omega⟩⟩
  · exact ⟨⟨fun q => by exfalso; omega, fun q => by exfalso; omega⟩, ⟨fun q => by exfalso; omega, fun q => by exfalso; omega⟩⟩
  · exact ⟨⟨fun _ => h1, fun _ => h2⟩, ⟨fun q => by exfalso; omega, fun q => by exfalso; omega⟩⟩
  · rcases h2 with ⟨a, -⟩ | ⟨a, -⟩ <;> exact ⟨⟨fun q => by exfalso; omega, fun q => by exfalso; omega⟩, ⟨fun q => by exfalso; omega, fun q => by exfalso; omega⟩⟩
section TK
variable {d : Nat} {mr mem : zM} {T : List Int32} {n p e : Int} {t : Tk}
def cRd (T : List Int32) (n p : Int) (m : zM) : Prop := ∃ t e, cR T n p t e m
abbrev rdF2 : List Nat := [3, 4, 5, 6, 7, 8, 9, 10, 11]
theorem cR_fo {is : List Nat} {m : zM} (F : fo 27 [] is mem m) (a1 : is.contains 1 = false) (a2 : is.contains 2 = false) (a3 : is.contains 3 = false) (a4 : is.contains 4 = false) (a5 : is.contains 5 = false) (h : cR T n p t e mem) : cR T n p t e m := by
  obtain ⟨⟨c1, c2, c3, c4, c5⟩, hT, hE, hA⟩ := h
  exact ⟨⟨(F.2 1 a1).trans c1, (fo_ga F (by decide) rfl).trans c2, (fo_ga F (by decide) rfl).trans c3, by rw [fo_gi F a2]; exact c4, c5⟩, hT, by rw [fo_gi F a4, fo_gi F a5]; exact hE, by rw [fo_gi F a3]; exact hA⟩
theorem h_adv5 {m' : zM} (F : fo 27 [] [8, 9, 10, 11] mem m') (hm : aTm aT0 m') (h : cR T n p t e mem) (h4 : ¬ t.1 = 4) (hd : 2 ≤ d) : yC zpg d 58 [.ref 27] m' (fun r m => r = none ∧ aTm aT0 m ∧ (fo 27 [] avF m' m ∧ cRd T n e m)) := h_adv hm (cR_fo F rfl rfl rfl rfl rfl h) h4 hd
/-- a step was taken, or not -/
def tkP (mr : zM) (T : List Int32) (n : Int) (s : Option Int) (r : Option Value) (m : zM) : Prop := aTm aT0 m ∧ fo 27 [] rdF2 mr m ∧ ((∃ e, s = some e ∧ r = some (.int 1) ∧ cRd T n e m) ∨ (s = none ∧ r = some (.int 0)))
def tkV (mr : zM) (T : List Int32) (n : Int) (s : Option (Int × Int)) (r : Option Value) (m : zM) : Prop := aTm aT0 m ∧ fo 27 [] rdF2 mr m ∧ ((∃ v e, s = some (v, e) ∧ r = some (.int 1) ∧ cRd T n e m ∧ (gi m 27 8).toInt = v) ∨ (s = none ∧ r = some (.int 0)))
def tkN (mr : zM) (T : List Int32) (n : Int) (s : Option (List Int × Int)) (r : Option Value) (m : zM) : Prop := aTm aT0 m ∧ fo 27 [] rdF2 mr m ∧ ((∃ v e, s = some (v, e) ∧ r = some (.int 1) ∧ cRd T n e m ∧ (gi m 27 8).toInt = cnl v) ∨ (s = none ∧ r = some (.int 0)))
set_option maxRecDepth 100000 in
theorem w_tOwn {d : Nat} {mem : zM} {P : Option Value → zM → Prop} {T : List Int32} {n p e : Int} {t : Tk} {w : Int32} (hm : aTm aT0 mem) (hR : cR T n p t e mem) (h1 : ¬ (gi mem 27 4).toInt = 2 → aTm aT0 (si (si mem 27 10 1) 27 11 (gi mem 27 7)) → P (some (.int 0)) (si (si mem 27 10 1) 27 11 (gi mem 27 7))) (h2 : (gi mem 27 4).toInt = 2 → ¬ (gi mem 27 5).toInt = (w).toInt → aTm aT0 (si (si mem 27 10 1) 27 11 (gi mem 27 7)) → P (some (.int 0)) (si (si mem 27 10 1) 27 11 (gi mem 27 7))) (s1 : (gi mem 27 4).toInt = 2 → (gi mem 27 5).toInt = (w).toInt → ¬ t.1 = 4) (h3 : (gi mem 27 4).toInt = 2 → (gi mem 27 5).toInt = (w).toInt → ∀ (m3 : zM), aTm aT0 m3 → (fo 27 [] avF mem m3 ∧ cRd T n e m3) → aTm aT0 m3 → P (some (.int 1)) m3) : yR zpg tX5_takesOwn (d + 2) (0, [(0, .ref 27), (1, .int w)], [], mem) P := by
  refine yR_m 2 (fun _ _ _ _ => rfl) ?_
  refine wR_iv rfl rfl rO_e hm rfl rfl rfl rfl ?_
  show yR zpg tX5_isOwn (d + 1) (0, [(0, .ref 27), (1, .int w)], [], mem) _
  refine yR_m 1 (fun _ _ _ _ => rfl) ?_
  refine wR_gi rfl rO_e rO_4 hm rfl ?_
  refine yR_m 1 (fun _ _ _ _ => rfl) ?_
  refine wR_ic_ne rfl (a := (gi mem 27 4).toInt) (c := 2) rfl rfl (fun q1 => ?_) (fun q1 => ?_)
  ·
    refine yR_m 1 (fun _ _ _ _ => rfl) ?_
    refine yR_rz rfl ⟨by decide, by decide⟩ ?_
    show yR zpg tX5_takesOwn (d + 2) (5, [(0, .ref 27), (1, .int w)], [.int 0], mem) _
    refine wR_if_ne rfl (a := 0) rfl (fun q => by exfalso; omega) (fun _ => ?_)
    refine yR_m 3 (fun _ _ _ _ => rfl) ?_
    refine wR_gi rfl rO_e rO_7 hm rfl ?_
    refine wR_iv rfl rfl rO_e hm rfl rfl rfl rfl ?_
    show yR zpg tX5_faults (d + 1) (0, [(0, .ref 27), (1, .int 1), (2, .int (gi mem 27 7))], [], mem) _
    refine yR_m 2 (fun _ _ _ _ => rfl) ?_
    refine wR_pi rfl rO_e rO_10 hm rfl ?_
    have hm_1 : aTm aT0 (si mem 27 10 1) := tm_si rO_e rO_10 hm (i32_b _)
    refine yR_m 2 (fun _ _ _ _ => rfl) ?_
    refine wR_pi rfl rO_e rO_11 hm_1 rfl ?_
    have hm_2 : aTm aT0 (si (si mem 27 10 1) 27 11 (gi mem 27 7)) := tm_si rO_e rO_11 hm_1 (i32_b _)
    refine yR_m 1 (fun _ _ _ _ => rfl) ?_
    refine yR_rz rfl ⟨by decide, by decide⟩ ?_
    show yR zpg tX5_takesOwn (d + 2) (17, [(0, .ref 27), (1, .int w)], [.int 0], (si (si mem 27 10 1) 27 11 (gi mem 27 7))) _
    exact yR_rz rfl ⟨by decide, by decide⟩ (h1 q1 hm_2)
  ·
    refine yR_m 1 (fun _ _ _ _ => rfl) ?_
    refine wR_gi rfl rO_e rO_5 hm rfl ?_
    refine yR_m 1 (fun _ _ _ _ => rfl) ?_
    refine wR_ic_ne rfl (a := (gi mem 27 5).toInt) (c := (w).toInt) rfl rfl (fun q2 => ?_) (fun q2 => ?_)
    ·
      refine yR_m 1 (fun _ _ _ _ => rfl) ?_
      refine yR_rz rfl ⟨by decide, by decide⟩ ?_
      show yR zpg tX5_takesOwn (d + 2) (5, [(0, .ref 27), (1, .int w)], [.int 0], mem) _
      refine wR_if_ne rfl (a := 0) rfl (fun q => by exfalso; omega) (fun _ => ?_)
      refine yR_m 3 (fun _ _ _ _ => rfl) ?_
      refine wR_gi rfl rO_e rO_7 hm rfl ?_
      refine wR_iv rfl rfl rO_e hm rfl rfl rfl rfl ?_
      show yR zpg tX5_faults (d + 1) (0, [(0, .ref 27), (1, .int 1), (2, .int (gi mem 27 7))], [], mem) _
      refine yR_m 2 (fun _ _ _ _ => rfl) ?_
      refine wR_pi rfl rO_e rO_10 hm rfl ?_
      have hm_3 : aTm aT0 (si mem 27 10 1) := tm_si rO_e rO_10 hm (i32_b _)
      refine yR_m 2 (fun _ _ _ _ => rfl) ?_
      refine wR_pi rfl rO_e rO_11 hm_3 rfl ?_
      have hm_4 : aTm aT0 (si (si mem 27 10 1) 27 11 (gi mem 27 7)) := tm_si rO_e rO_11 hm_3 (i32_b _)
      refine yR_m 1 (fun _ _ _ _ => rfl) ?_
      refine yR_rz rfl ⟨by decide, by decide⟩ ?_
      show yR zpg tX5_takesOwn (d + 2) (17, [(0, .ref 27), (1, .int w)], [.int 0], (si (si mem 27 10 1) 27 11 (gi mem 27 7))) _
      exact yR_rz rfl ⟨by decide, by decide⟩ (h2 q1 q2 hm_4)
    ·
      refine yR_m 2 (fun _ _ _ _ => rfl) ?_
      refine yR_rz rfl ⟨by decide, by decide⟩ ?_
      show yR zpg tX5_takesOwn (d + 2) (5, [(0, .ref 27), (1, .int w)], [.int 1], mem) _
      refine wR_if_ne rfl (a := 1) rfl (fun _ => ?_) (fun q => by exfalso; omega)
      refine yR_m 1 (fun _ _ _ _ => rfl) ?_
      refine wR_cv rfl rfl rO_e hm rfl (h_adv5 (fo_rf) hm hR (s1 q1 q2) (by omega)) ?_
      rintro _ m3 ⟨rfl, hI3, k4⟩
      show yR zpg tX5_takesOwn (d + 2) (22, [(0, .ref 27), (1, .int w)], [], m3) _
      refine yR_m 1 (fun _ _ _ _ => rfl) ?_
      exact yR_rz rfl ⟨by decide, by decide⟩ (h3 q1 q2 m3 hI3 k4 hI3)

theorem h_takesOwn {w : Int32} (w0 : 0 ≤ w.toInt ∧ w.toInt < 26) (hm : aTm aT0 mem) (hR : cR T n p t e mem) (hd : 3 ≤ d) : yC zpg d 64 [.ref 27, .int w] mem (tkP mem T n (sOwn T n w.toInt p)) := by
  obtain ⟨d, rfl⟩ : ∃ q, d = q + 3 := ⟨d - 3, by omega⟩
  have I := own_iff hR.2.2.1 w0.1 w0.2
  have tf := tkf_e hR.2.1
  refine yC_of (t := tX5_takesOwn) rfl rfl ?_
  exact w_tOwn (T := T) (n := n) (p := p) (e := e) (t := t) hm hR
        (fun q1 hm2 => ⟨hm2, fo_sv rfl (fo_sv rfl (fo_rf)), Or.inr ⟨by unfold sOwn; rw [tf]; exact oif_f (fun w => by have q := I.2 w; omega), rfl⟩⟩)
        (fun q1 q2 hm2 => ⟨hm2, fo_sv rfl (fo_sv rfl (fo_rf)), Or.inr ⟨by unfold sOwn; rw [tf]; exact oif_f (fun w => by have q := I.2 w; omega), rfl⟩⟩)
        (fun q1 q2 => fun w4 => by have q := (I.1 ⟨by omega, by omega⟩).1; omega)
        (fun q1 q2 m3 hI3 k4 hm2 => ⟨hm2, fo_tr (fo_rf) (fo_up k4.1 rfl rfl), Or.inl ⟨e, by unfold sOwn; rw [tf]; exact oif_t (I.1 ⟨by omega, by omega⟩), rfl, k4.2⟩⟩)
set_option maxRecDepth 100000 in
theorem w_tSgn {d : Nat} {mem : zM} {P : Option Value → zM → Prop} {T : List Int32} {n p e : Int} {t : Tk} {w : Int32} (hm : aTm aT0 mem) (hR : cR T n p t e mem) (h1 : ¬ (gi mem 27 4).toInt = 4 → aTm aT0 (si (si mem 27 10 1) 27 11 (gi mem 27 7)) → P (some (.int 0)) (si (si mem 27 10 1) 27 11 (gi mem 27 7))) (h2 : (gi mem 27 4).toInt = 4 → ¬ (gi mem 27 5).toInt = (w).toInt → aTm aT0 (si (si mem 27 10 1) 27 11 (gi mem 27 7)) → P (some (.int 0)) (si (si mem 27 10 1) 27 11 (gi mem 27 7))) (s1 : (gi mem 27 4).toInt = 4 → (gi mem 27 5).toInt = (w).toInt → ¬ t.1 = 4) (h3 : (gi mem 27 4).toInt = 4 → (gi mem 27 5).toInt = (w).toInt → ∀ (m3 : zM), aTm aT0 m3 → (fo 27 [] avF mem m3 ∧ cRd T n e m3) → aTm aT0 m3 → P (some (.int 1)) m3) : yR zpg tX5_takesSign (d + 2) (0, [(0, .ref 27), (1, .int w)], [], mem) P := by
  refine yR_m 2 (fun _ _ _ _ => rfl) ?_
  refine wR_iv rfl rfl rO_e hm rfl rfl rfl rfl ?_
  show yR zpg tX5_isSign (d + 1) (0, [(0, .ref 27), (1, .int w)], [], mem) _
  refine yR_m 1 (fun _ _ _ _ => rfl) ?_
  refine wR_gi rfl rO_e rO_4 hm rfl ?_
  refine yR_m 1 (fun _ _ _ _ => rfl) ?_
  refine wR_ic_ne rfl (a := (gi mem 27 4).toInt) (c := 4) rfl rfl (fun q1 => ?_) (fun q1 => ?_)
  ·
    refine yR_m 1 (fun _ _ _ _ => rfl) ?_
    refine yR_rz rfl ⟨by decide, by decide⟩ ?_
    show yR zpg tX5_takesSign (d + 2) (5, [(0, .ref 27), (1, .int w)], [.int 0], mem) _
    refine wR_if_ne rfl (a := 0) rfl (fun q => by exfalso; omega) (fun _ => ?_)
    refine yR_m 3 (fun _ _ _ _ => rfl) ?_
    refine wR_gi rfl rO_e rO_7 hm rfl ?_
    refine wR_iv rfl rfl rO_e hm rfl rfl rfl rfl ?_
    show yR zpg tX5_faults (d + 1) (0, [(0, .ref 27), (1, .int 1), (2, .int (gi mem 27 7))], [], mem) _
    refine yR_m 2 (fun _ _ _ _ => rfl) ?_
    refine wR_pi rfl rO_e rO_10 hm rfl ?_
    have hm_1 : aTm aT0 (si mem 27 10 1) := tm_si rO_e rO_10 hm (i32_b _)
    refine yR_m 2 (fun _ _ _ _ => rfl) ?_
    refine wR_pi rfl rO_e rO_11 hm_1 rfl ?_
    have hm_2 : aTm aT0 (si (si mem 27 10 1) 27 11 (gi mem 27 7)) := tm_si rO_e rO_11 hm_1 (i32_b _)
    refine yR_m 1 (fun _ _ _ _ => rfl) ?_
    refine yR_rz rfl ⟨by decide, by decide⟩ ?_
    show yR zpg tX5_takesSign (d + 2) (17, [(0, .ref 27), (1, .int w)], [.int 0], (si (si mem 27 10 1) 27 11 (gi mem 27 7))) _
    exact yR_rz rfl ⟨by decide, by decide⟩ (h1 q1 hm_2)
  ·
    refine yR_m 1 (fun _ _ _ _ => rfl) ?_
    refine wR_gi rfl rO_e rO_5 hm rfl ?_
    refine yR_m 1 (fun _ _ _ _ => rfl) ?_
    refine wR_ic_ne rfl (a := (gi mem 27 5).toInt) (c := (w).toInt) rfl rfl (fun q2 => ?_) (fun q2 => ?_)
    ·
      refine yR_m 1 (fun _ _ _ _ => rfl) ?_
      refine yR_rz rfl ⟨by decide, by decide⟩ ?_
      show yR zpg tX5_takesSign (d + 2) (5, [(0, .ref 27), (1, .int w)], [.int 0], mem) _
      refine wR_if_ne rfl (a := 0) rfl (fun q => by exfalso; omega) (fun _ => ?_)
      refine yR_m 3 (fun _ _ _ _ => rfl) ?_
      refine wR_gi rfl rO_e rO_7 hm rfl ?_
      refine wR_iv rfl rfl rO_e hm rfl rfl rfl rfl ?_
      show yR zpg tX5_faults (d + 1) (0, [(0, .ref 27), (1, .int 1), (2, .int (gi mem 27 7))], [], mem) _
      refine yR_m 2 (fun _ _ _ _ => rfl) ?_
      refine wR_pi rfl rO_e rO_10 hm rfl ?_
      have hm_3 : aTm aT0 (si mem 27 10 1) := tm_si rO_e rO_10 hm (i32_b _)
      refine yR_m 2 (fun _ _ _ _ => rfl) ?_
      refine wR_pi rfl rO_e rO_11 hm_3 rfl ?_
      have hm_4 : aTm aT0 (si (si mem 27 10 1) 27 11 (gi mem 27 7)) := tm_si rO_e rO_11 hm_3 (i32_b _)
      refine yR_m 1 (fun _ _ _ _ => rfl) ?_
      refine yR_rz rfl ⟨by decide, by decide⟩ ?_
      show yR zpg tX5_takesSign (d + 2) (17, [(0, .ref 27), (1, .int w)], [.int 0], (si (si mem 27 10 1) 27 11 (gi mem 27 7))) _
      exact yR_rz rfl ⟨by decide, by decide⟩ (h2 q1 q2 hm_4)
    ·
      refine yR_m 2 (fun _ _ _ _ => rfl) ?_
      refine yR_rz rfl ⟨by decide, by decide⟩ ?_
      show yR zpg tX5_takesSign (d + 2) (5, [(0, .ref 27), (1, .int w)], [.int 1], mem) _
      refine wR_if_ne rfl (a := 1) rfl (fun _ => ?_) (fun q => by exfalso; omega)
      refine yR_m 1 (fun _ _ _ _ => rfl) ?_
      refine wR_cv rfl rfl rO_e hm rfl (h_adv5 (fo_rf) hm hR (s1 q1 q2) (by omega)) ?_
      rintro _ m3 ⟨rfl, hI3, k4⟩
      show yR zpg tX5_takesSign (d + 2) (22, [(0, .ref 27), (1, .int w)], [], m3) _
      refine yR_m 1 (fun _ _ _ _ => rfl) ?_
      exact yR_rz rfl ⟨by decide, by decide⟩ (h3 q1 q2 m3 hI3 k4 hI3)

theorem h_takesSign {w : Int32} (hm : aTm aT0 mem) (hR : cR T n p t e mem) (hd : 3 ≤ d) : yC zpg d 65 [.ref 27, .int w] mem (tkP mem T n (sSgn T n w.toInt p)) := by
  obtain ⟨d, rfl⟩ : ∃ q, d = q + 3 := ⟨d - 3, by omega⟩
  have I := sgn_iff (c := w.toInt) hR.2.2.1
  have tf := tkf_e hR.2.1
  refine yC_of (t := tX5_takesSign) rfl rfl ?_
  exact w_tSgn (T := T) (n := n) (p := p) (e := e) (t := t) hm hR
        (fun q1 hm2 => ⟨hm2, fo_sv rfl (fo_sv rfl (fo_rf)), Or.inr ⟨by unfold sSgn; rw [tf]; exact oif_f (fun w => by have q := I.2 w; omega), rfl⟩⟩)
        (fun q1 q2 hm2 => ⟨hm2, fo_sv rfl (fo_sv rfl (fo_rf)), Or.inr ⟨by unfold sSgn; rw [tf]; exact oif_f (fun w => by have q := I.2 w; omega), rfl⟩⟩)
        (fun q1 q2 => fun w4 => by have q := (I.1 ⟨by omega, by omega⟩).1; omega)
        (fun q1 q2 m3 hI3 k4 hm2 => ⟨hm2, fo_tr (fo_rf) (fo_up k4.1 rfl rfl), Or.inl ⟨e, by unfold sSgn; rw [tf]; exact oif_t (I.1 ⟨by omega, by omega⟩), rfl, k4.2⟩⟩)
set_option maxRecDepth 100000 in
theorem w_tNam {d : Nat} {mem : zM} {P : Option Value → zM → Prop} {T : List Int32} {n p e : Int} {t : Tk} (hm : aTm aT0 mem) (hR : cR T n p t e mem) (s1 : (gi mem 27 4).toInt = 1 → ¬ t.1 = 4) (h1 : (gi mem 27 4).toInt = 1 → ∀ (m2 : zM), aTm aT0 m2 → (fo 27 [] avF (si (si mem 27 8 (gi mem 27 5)) 27 9 (gi mem 27 7)) m2 ∧ cRd T n e m2) → aTm aT0 m2 → P (some (.int 1)) m2) (h2 : ¬ (gi mem 27 4).toInt = 1 → aTm aT0 (si (si mem 27 10 1) 27 11 (gi mem 27 7)) → P (some (.int 0)) (si (si mem 27 10 1) 27 11 (gi mem 27 7))) : yR zpg tX5_takesName (d + 2) (0, [(0, .ref 27)], [], mem) P := by
  refine yR_m 1 (fun _ _ _ _ => rfl) ?_
  refine wR_gi rfl rO_e rO_4 hm rfl ?_
  refine yR_m 1 (fun _ _ _ _ => rfl) ?_
  refine wR_ic_eq rfl (a := (gi mem 27 4).toInt) (c := 1) rfl rfl (fun q1 => ?_) (fun q1 => ?_)
  ·
    refine yR_m 2 (fun _ _ _ _ => rfl) ?_
    refine wR_gi rfl rO_e rO_5 hm rfl ?_
    refine wR_pi rfl rO_e rO_8 hm rfl ?_
    have hm_1 : aTm aT0 (si mem 27 8 (gi mem 27 5)) := tm_si rO_e rO_8 hm (i32_b _)
    refine yR_m 2 (fun _ _ _ _ => rfl) ?_
    refine wR_gi rfl rO_e rO_7 hm_1 (gi_sv_ne (by decide)) ?_
    refine wR_pi rfl rO_e rO_9 hm_1 rfl ?_
    have hm_2 : aTm aT0 (si (si mem 27 8 (gi mem 27 5)) 27 9 (gi mem 27 7)) := tm_si rO_e rO_9 hm_1 (i32_b _)
    refine yR_m 1 (fun _ _ _ _ => rfl) ?_
    refine wR_cv rfl rfl rO_e hm_2 rfl (h_adv5 (fo_sv rfl (fo_sv rfl (fo_rf))) hm_2 hR (s1 q1) (by omega)) ?_
    rintro _ m2 ⟨rfl, hI2, k3⟩
    show yR zpg tX5_takesName (d + 2) (38, [(0, .ref 27)], [], m2) _
    refine yR_m 1 (fun _ _ _ _ => rfl) ?_
    exact yR_rz rfl ⟨by decide, by decide⟩ (h1 q1 m2 hI2 k3 hI2)
  ·
    refine yR_m 3 (fun _ _ _ _ => rfl) ?_
    refine wR_gi rfl rO_e rO_7 hm rfl ?_
    refine wR_iv rfl rfl rO_e hm rfl rfl rfl rfl ?_
    show yR zpg tX5_faults (d + 1) (0, [(0, .ref 27), (1, .int 1), (2, .int (gi mem 27 7))], [], mem) _
    refine yR_m 2 (fun _ _ _ _ => rfl) ?_
    refine wR_pi rfl rO_e rO_10 hm rfl ?_
    have hm_3 : aTm aT0 (si mem 27 10 1) := tm_si rO_e rO_10 hm (i32_b _)
    refine yR_m 2 (fun _ _ _ _ => rfl) ?_
    refine wR_pi rfl rO_e rO_11 hm_3 rfl ?_
    have hm_4 : aTm aT0 (si (si mem 27 10 1) 27 11 (gi mem 27 7)) := tm_si rO_e rO_11 hm_3 (i32_b _)
    refine yR_m 1 (fun _ _ _ _ => rfl) ?_
    refine yR_rz rfl ⟨by decide, by decide⟩ ?_
    show yR zpg tX5_takesName (d + 2) (17, [(0, .ref 27)], [.int 0], (si (si mem 27 10 1) 27 11 (gi mem 27 7))) _
    exact yR_rz rfl ⟨by decide, by decide⟩ (h2 q1 hm_4)

theorem h_takesName (hm : aTm aT0 mem) (hR : cR T n p t e mem) (hd : 3 ≤ d) : yC zpg d 66 [.ref 27] mem (tkN mem T n (sNam T n p)) := by
  obtain ⟨d, rfl⟩ : ∃ q, d = q + 3 := ⟨d - 3, by omega⟩
  have I := nam_iff hR.2.2.1
  have I2 := nam_v hR.2.2.1
  have tf := tkf_e hR.2.1
  refine yC_of (t := tX5_takesName) rfl rfl ?_
  exact w_tNam (T := T) (n := n) (p := p) (e := e) (t := t) hm hR
        (fun q1 => fun w4 => by have q := (I.1 (by omega)).1; omega)
        (fun q1 m2 hI2 k3 hm2 => ⟨hm2, fo_tr (fo_sv rfl (fo_sv rfl (fo_rf))) (fo_up k3.1 rfl rfl), Or.inl ⟨t.2.2, e, by unfold sNam; rw [tf]; exact oif_t (I.1 (by omega)), rfl, k3.2, by rw [fo_gi k3.1 rfl, ((gi_sv_ne (by decide)).trans (gi_eqQ (isQ_of rO_e hm) rO_8))]; exact I2 (by omega)⟩⟩)
        (fun q1 hm2 => ⟨hm2, fo_sv rfl (fo_sv rfl (fo_rf)), Or.inr ⟨by unfold sNam; rw [tf]; exact oif_f (fun w => by have q := I.2 w; omega), rfl⟩⟩)
set_option maxRecDepth 100000 in
theorem w_tNum {d : Nat} {mem : zM} {P : Option Value → zM → Prop} {T : List Int32} {n p e : Int} {t : Tk} {a b : Int32} (hm : aTm aT0 mem) (hR : cR T n p t e mem) (h1 : (gi mem 27 4).toInt = 3 → (gi mem 27 5).toInt < (a).toInt → aTm aT0 (si (si mem 27 10 4) 27 11 (gi mem 27 7)) → P (some (.int 0)) (si (si mem 27 10 4) 27 11 (gi mem 27 7))) (s1 : (gi mem 27 4).toInt = 3 → (a).toInt ≤ (gi mem 27 5).toInt → (gi mem 27 5).toInt ≤ (b).toInt → ¬ t.1 = 4) (h2 : (gi mem 27 4).toInt = 3 → (a).toInt ≤ (gi mem 27 5).toInt → (gi mem 27 5).toInt ≤ (b).toInt → ∀ (m4 : zM), aTm aT0 m4 → (fo 27 [] avF (si (si mem 27 8 (gi mem 27 5)) 27 9 (gi mem 27 7)) m4 ∧ cRd T n e m4) → aTm aT0 m4 → P (some (.int 1)) m4) (h3 : (gi mem 27 4).toInt = 3 → (a).toInt ≤ (gi mem 27 5).toInt → (b).toInt < (gi mem 27 5).toInt → aTm aT0 (si (si mem 27 10 4) 27 11 (gi mem 27 7)) → P (some (.int 0)) (si (si mem 27 10 4) 27 11 (gi mem 27 7))) (h4 : ¬ (gi mem 27 4).toInt = 3 → aTm aT0 (si (si mem 27 10 1) 27 11 (gi mem 27 7)) → P (some (.int 0)) (si (si mem 27 10 1) 27 11 (gi mem 27 7))) : yR zpg tX5_takesNumber (d + 2) (0, [(0, .ref 27), (1, .int a), (2, .int b)], [], mem) P := by
  refine yR_m 1 (fun _ _ _ _ => rfl) ?_
  refine wR_gi rfl rO_e rO_4 hm rfl ?_
  refine yR_m 1 (fun _ _ _ _ => rfl) ?_
  refine wR_ic_eq rfl (a := (gi mem 27 4).toInt) (c := 3) rfl rfl (fun q1 => ?_) (fun q1 => ?_)
  ·
    refine yR_m 1 (fun _ _ _ _ => rfl) ?_
    refine wR_gi rfl rO_e rO_5 hm rfl ?_
    refine yR_m 1 (fun _ _ _ _ => rfl) ?_
    refine wR_ic_lt rfl (a := (gi mem 27 5).toInt) (c := (a).toInt) rfl rfl (fun q2 => ?_) (fun q2 => ?_)
    ·
      refine yR_m 3 (fun _ _ _ _ => rfl) ?_
      refine wR_gi rfl rO_e rO_7 hm rfl ?_
      refine wR_iv rfl rfl rO_e hm rfl rfl rfl rfl ?_
      show yR zpg tX5_faults (d + 1) (0, [(0, .ref 27), (1, .int 4), (2, .int (gi mem 27 7))], [], mem) _
      refine yR_m 2 (fun _ _ _ _ => rfl) ?_
      refine wR_pi rfl rO_e rO_10 hm rfl ?_
      have hm_1 : aTm aT0 (si mem 27 10 4) := tm_si rO_e rO_10 hm (i32_b _)
      refine yR_m 2 (fun _ _ _ _ => rfl) ?_
      refine wR_pi rfl rO_e rO_11 hm_1 rfl ?_
      have hm_2 : aTm aT0 (si (si mem 27 10 4) 27 11 (gi mem 27 7)) := tm_si rO_e rO_11 hm_1 (i32_b _)
      refine yR_m 1 (fun _ _ _ _ => rfl) ?_
      refine yR_rz rfl ⟨by decide, by decide⟩ ?_
      show yR zpg tX5_takesNumber (d + 2) (43, [(0, .ref 27), (1, .int a), (2, .int b)], [.int 0], (si (si mem 27 10 4) 27 11 (gi mem 27 7))) _
      exact yR_rz rfl ⟨by decide, by decide⟩ (h1 q1 q2 hm_2)
    ·
      refine yR_m 1 (fun _ _ _ _ => rfl) ?_
      refine wR_gi rfl rO_e rO_5 hm rfl ?_
      refine yR_m 1 (fun _ _ _ _ => rfl) ?_
      refine wR_ic_le rfl (a := (gi mem 27 5).toInt) (c := (b).toInt) rfl rfl (fun q3 => ?_) (fun q3 => ?_)
      ·
        refine yR_m 2 (fun _ _ _ _ => rfl) ?_
        refine wR_gi rfl rO_e rO_5 hm rfl ?_
        refine wR_pi rfl rO_e rO_8 hm rfl ?_
        have hm_3 : aTm aT0 (si mem 27 8 (gi mem 27 5)) := tm_si rO_e rO_8 hm (i32_b _)
        refine yR_m 2 (fun _ _ _ _ => rfl) ?_
        refine wR_gi rfl rO_e rO_7 hm_3 (gi_sv_ne (by decide)) ?_
        refine wR_pi rfl rO_e rO_9 hm_3 rfl ?_
        have hm_4 : aTm aT0 (si (si mem 27 8 (gi mem 27 5)) 27 9 (gi mem 27 7)) := tm_si rO_e rO_9 hm_3 (i32_b _)
        refine yR_m 1 (fun _ _ _ _ => rfl) ?_
        refine wR_cv rfl rfl rO_e hm_4 rfl (h_adv5 (fo_sv rfl (fo_sv rfl (fo_rf))) hm_4 hR (s1 q1 q2 q3) (by omega)) ?_
        rintro _ m4 ⟨rfl, hI4, k5⟩
        show yR zpg tX5_takesNumber (d + 2) (64, [(0, .ref 27), (1, .int a), (2, .int b)], [], m4) _
        refine yR_m 1 (fun _ _ _ _ => rfl) ?_
        exact yR_rz rfl ⟨by decide, by decide⟩ (h2 q1 q2 q3 m4 hI4 k5 hI4)
      ·
        refine yR_m 3 (fun _ _ _ _ => rfl) ?_
        refine wR_gi rfl rO_e rO_7 hm rfl ?_
        refine wR_iv rfl rfl rO_e hm rfl rfl rfl rfl ?_
        show yR zpg tX5_faults (d + 1) (0, [(0, .ref 27), (1, .int 4), (2, .int (gi mem 27 7))], [], mem) _
        refine yR_m 2 (fun _ _ _ _ => rfl) ?_
        refine wR_pi rfl rO_e rO_10 hm rfl ?_
        have hm_5 : aTm aT0 (si mem 27 10 4) := tm_si rO_e rO_10 hm (i32_b _)
        refine yR_m 2 (fun _ _ _ _ => rfl) ?_
        refine wR_pi rfl rO_e rO_11 hm_5 rfl ?_
        have hm_6 : aTm aT0 (si (si mem 27 10 4) 27 11 (gi mem 27 7)) := tm_si rO_e rO_11 hm_5 (i32_b _)
        refine yR_m 1 (fun _ _ _ _ => rfl) ?_
        refine yR_rz rfl ⟨by decide, by decide⟩ ?_
        show yR zpg tX5_takesNumber (d + 2) (43, [(0, .ref 27), (1, .int a), (2, .int b)], [.int 0], (si (si mem 27 10 4) 27 11 (gi mem 27 7))) _
        exact yR_rz rfl ⟨by decide, by decide⟩ (h3 q1 q2 q3 hm_6)
  ·
    refine yR_m 3 (fun _ _ _ _ => rfl) ?_
    refine wR_gi rfl rO_e rO_7 hm rfl ?_
    refine wR_iv rfl rfl rO_e hm rfl rfl rfl rfl ?_
    show yR zpg tX5_faults (d + 1) (0, [(0, .ref 27), (1, .int 1), (2, .int (gi mem 27 7))], [], mem) _
    refine yR_m 2 (fun _ _ _ _ => rfl) ?_
    refine wR_pi rfl rO_e rO_10 hm rfl ?_
    have hm_7 : aTm aT0 (si mem 27 10 1) := tm_si rO_e rO_10 hm (i32_b _)
    refine yR_m 2 (fun _ _ _ _ => rfl) ?_
    refine wR_pi rfl rO_e rO_11 hm_7 rfl ?_
    have hm_8 : aTm aT0 (si (si mem 27 10 1) 27 11 (gi mem 27 7)) := tm_si rO_e rO_11 hm_7 (i32_b _)
    refine yR_m 1 (fun _ _ _ _ => rfl) ?_
    refine yR_rz rfl ⟨by decide, by decide⟩ ?_
    show yR zpg tX5_takesNumber (d + 2) (17, [(0, .ref 27), (1, .int a), (2, .int b)], [.int 0], (si (si mem 27 10 1) 27 11 (gi mem 27 7))) _
    exact yR_rz rfl ⟨by decide, by decide⟩ (h4 q1 hm_8)

theorem h_takesNumber {a b : Int32} (hm : aTm aT0 mem) (hR : cR T n p t e mem) (hd : 3 ≤ d) : yC zpg d 67 [.ref 27, .int a, .int b] mem (tkV mem T n (sNum T n a.toInt b.toInt p)) := by
  obtain ⟨d, rfl⟩ : ∃ q, d = q + 3 := ⟨d - 3, by omega⟩
  obtain ⟨I, I2⟩ := num_iff hR.2.2.1
  have tf := tkf_e hR.2.1
  refine yC_of (t := tX5_takesNumber) rfl rfl ?_
  exact w_tNum (T := T) (n := n) (p := p) (e := e) (t := t) hm hR
        (fun q1 q2 hm2 => ⟨hm2, fo_sv rfl (fo_sv rfl (fo_rf)), Or.inr ⟨by unfold sNum; rw [tf]; exact oif_f (fun w => by have w1 := I.2 w.1; have w2 := w.2; have w3 := I2 w1; have w4 : a.toInt ≤ t.2.1 := w2.1; have w5 : t.2.1 ≤ b.toInt := w2.2; omega), rfl⟩⟩)
        (fun q1 q2 q3 => fun w4 => by have q := I.1 (by omega); omega)
        (fun q1 q2 q3 m4 hI4 k5 hm2 => ⟨hm2, fo_tr (fo_sv rfl (fo_sv rfl (fo_rf))) (fo_up k5.1 rfl rfl), Or.inl ⟨t.2.1, e, by unfold sNum; rw [tf]; exact oif_t ⟨I.1 (by omega), by have := I2 (by omega); show a.toInt ≤ t.2.1; omega, by have := I2 (by omega); show t.2.1 ≤ b.toInt; omega⟩, rfl, k5.2, by rw [fo_gi k5.1 rfl, ((gi_sv_ne (by decide)).trans (gi_eqQ (isQ_of rO_e hm) rO_8))]; exact I2 (by omega)⟩⟩)
        (fun q1 q2 q3 hm2 => ⟨hm2, fo_sv rfl (fo_sv rfl (fo_rf)), Or.inr ⟨by unfold sNum; rw [tf]; exact oif_f (fun w => by have w1 := I.2 w.1; have w2 := w.2; have w3 := I2 w1; have w4 : a.toInt ≤ t.2.1 := w2.1; have w5 : t.2.1 ≤ b.toInt := w2.2; omega), rfl⟩⟩)
        (fun q1 hm2 => ⟨hm2, fo_sv rfl (fo_sv rfl (fo_rf)), Or.inr ⟨by unfold sNum; rw [tf]; exact oif_f (fun w => by have w1 := I.2 w.1; have w2 := w.2; have w3 := I2 w1; have w4 : a.toInt ≤ t.2.1 := w2.1; have w5 : t.2.1 ≤ b.toInt := w2.2; omega), rfl⟩⟩)
end TK
