/-! the model's steps over signs, by what they mean -/
theorem Tok_let {T : List Int32} {n p e : Int} {t : Tk} (h : Tok T n p t e) (h1 : t.1 = 1) : ∀ c ∈ t.2.2, ltr c := by
  obtain ⟨b, S, h⟩ := h
  rcases h with ⟨-, rfl, -⟩ | ⟨-, -, -, rfl, -⟩ | ⟨-, -, q, hq, -, h⟩ | ⟨-, -, q, hq, -, h⟩
  · exact absurd h1 (by decide)
  · exact absurd h1 (by show ¬ (3 : Int) = 1; decide)
  · rcases h with ⟨-, rfl⟩ | ⟨-, -, rfl⟩
    · exact absurd h1 (by decide)
    · exact lts_all _ (fun i i0 i1 => hq.2.2.1 i i0 (by have := hq.1; omega))
  · rcases h with ⟨-, rfl⟩ | ⟨-, -, rfl⟩
    · exact absurd h1 (by decide)
    · exact absurd h1 (by show ¬ (2 : Int) = 1; decide)
theorem mx_iff {t : Tk} {k v w x : Int} (h : mEnc t k v w x) : x = -1 ↔ ¬ t.1 = 4 := by
  rcases h with ⟨h1, h2⟩ | ⟨h1, h2⟩
  · exact ⟨fun q => absurd q h1, fun q => absurd h2.1 q⟩
  · exact ⟨fun _ => by rcases h2 with ⟨-, h⟩ | ⟨-, h, -⟩ | ⟨-, h, -⟩ | ⟨-, h, -⟩ <;> omega, fun _ => h1⟩
theorem msg_iff {t : Tk} {k v w x c : Int} (h : mEnc t k v w x) (hx : x = -1) : (k = 3 ∧ v = c) ↔ (t.1 = 3 ∧ t.2.1 = c) := by
  rcases h with ⟨h1, h2⟩ | ⟨h1, h2⟩
  · exact absurd hx h1
  · rcases h2 with ⟨a, b⟩ | ⟨a, b, e⟩ | ⟨a, b, e⟩ | ⟨a, b, e⟩
    · exact ⟨fun q => by exfalso; omega, fun q => by exfalso; omega⟩
    · exact ⟨fun q => ⟨b, by omega⟩, fun q => ⟨a, by omega⟩⟩
    · exact ⟨fun q => by exfalso; omega, fun q => by exfalso; omega⟩
    · exact ⟨fun q => by exfalso; omega, fun q => by exfalso; omega⟩
theorem mnu_iff {t : Tk} {k v w x : Int} (h : mEnc t k v w x) (hx : x = -1) : (k = 2 ↔ t.1 = 2) ∧ (k = 2 → v = t.2.1) := by
  rcases h with ⟨h1, h2⟩ | ⟨h1, h2⟩
  · exact absurd hx h1
  · rcases h2 with ⟨a, b⟩ | ⟨a, b, e⟩ | ⟨a, b, e⟩ | ⟨a, b, e⟩
    · exact ⟨⟨fun q => by exfalso; omega, fun q => by exfalso; omega⟩, fun q => by exfalso; omega⟩
    · exact ⟨⟨fun q => by exfalso; omega, fun q => by exfalso; omega⟩, fun q => by exfalso; omega⟩
    · exact ⟨⟨fun _ => b, fun _ => a⟩, fun _ => e⟩
    · exact ⟨⟨fun q => by exfalso; omega, fun q => by exfalso; omega⟩, fun q => by exfalso; omega⟩
theorem mwd_iff {t : Tk} {k v w x : Int} {ls : List Int} (h : mEnc t k v w x) (hx : x = -1) (ht : t.1 = 1 → ∀ c ∈ t.2.2, ltr c) (hl : ∀ c ∈ ls, ltr c) : (k = 1 ∧ w = wnl ls) ↔ (t.1 = 1 ∧ t.2.2 = ls) := by
  rcases h with ⟨h1, h2⟩ | ⟨h1, h2⟩
  · exact absurd hx h1
  · rcases h2 with ⟨a, b⟩ | ⟨a, b, e⟩ | ⟨a, b, e⟩ | ⟨a, b, e⟩
    · exact ⟨fun q => by exfalso; omega, fun q => by exfalso; omega⟩
    · exact ⟨fun q => by exfalso; omega, fun q => by exfalso; omega⟩
    · exact ⟨fun q => by exfalso; omega, fun q => by exfalso; omega⟩
    · constructor
      · rintro ⟨-, q⟩
        exact ⟨b, wnl_inj _ _ _ rfl (ht b) hl (e.symm.trans q)⟩
      · rintro ⟨-, q⟩
        exact ⟨a, by rw [e, q]⟩
section MF
variable {d : Nat} {mr mem : zM} {T : List Int32} {n p e : Int} {t : Tk}
/-- the model's reader at place p: its sign t, which ends at e -/
def mR (T : List Int32) (n p : Int) (t : Tk) (e : Int) (m : zM) : Prop := ((gi m 221 2).toInt = n ∧ ga m 222 = T ∧ 0 ≤ p) ∧ Tok T n p t e ∧ (gi m 221 5).toInt = e ∧ mEnc t (gi m 221 3).toInt (gi m 221 6).toInt (gL m 221 7).toInt (gi m 221 12).toInt
def mRd (T : List Int32) (n p : Int) (m : zM) : Prop := ∃ t e, mR T n p t e m
/-- where the model reads; nowhere any more once there is a fault -/
def mS (T : List Int32) (n : Int) (s : Option Int) (m : zM) : Prop := (∃ p, s = some p ∧ fk m = 0 ∧ mRd T n p m) ∨ (s = none ∧ 1 ≤ fk m)
theorem h_aheadM (hm : aTm aT0 mem) (h : mR T n p t e mem) (hd : 2 ≤ d) : yC zpg d 173 [.ref 221] mem (fun r m => r = none ∧ aTm aT0 m ∧ (ahQ mem m ∧ mRd T n e m)) := by
  obtain ⟨⟨h1, h2, h3⟩, h4, h5, h6⟩ := h
  have L := Tok_last h4 h3
  refine yC_mono (fun r m q => ?_) (yC_and (h_ahead2 hd hm rfl rfl (by omega)) (h_aheadF hm h5 h1 h2 L.2.2.2.2 hd))
  obtain ⟨⟨q1, q2, q3⟩, t', e', q4, q5, q6⟩ := q
  exact ⟨q1, q2, q3, t', e', ⟨by rw [fr_gi q3.1 rfl]; exact h1, (fr_ga q3.1 (by decide) rfl).trans h2, by omega⟩, q4, q5, q6⟩
/-- a step: ok says whether it may be taken -/
def stO (T : List Int32) (n e : Int) (ok : Prop) (mem m : zM) : Prop := ((fk mem = 0 ∧ ok) ∧ fk m = 0 ∧ mRd T n e m) ∨ ((1 ≤ fk mem ∨ ¬ ok) ∧ 1 ≤ fk m)
set_option maxRecDepth 100000 in
theorem w_mustF {d : Nat} {mem : zM} {P : Option Value → zM → Prop} {T : List Int32} {n p e : Int} {t : Tk} {c : Int32} (hm : aTm aT0 mem) (h1 : (gi mem 221 12).toInt = (-1) → ∀ (v2 : Int32), ((v2.toInt = 0 ∧ ¬ ((gi mem 221 3).toInt = 3 ∧ (gi mem 221 6).toInt = c.toInt)) ∨ (v2.toInt = 1 ∧ (gi mem 221 3).toInt = 3 ∧ (gi mem 221 6).toInt = c.toInt)) → ¬ (v2).toInt = 0 → ¬ (gi mem 221 8).toInt = 0 → aTm aT0 mem → P none mem) (s1 : (gi mem 221 12).toInt = (-1) → ∀ (v2 : Int32), ((v2.toInt = 0 ∧ ¬ ((gi mem 221 3).toInt = 3 ∧ (gi mem 221 6).toInt = c.toInt)) ∨ (v2.toInt = 1 ∧ (gi mem 221 3).toInt = 3 ∧ (gi mem 221 6).toInt = c.toInt)) → ¬ (v2).toInt = 0 → (gi mem 221 8).toInt = 0 → mR T n p t e mem) (h2 : (gi mem 221 12).toInt = (-1) → ∀ (v2 : Int32), ((v2.toInt = 0 ∧ ¬ ((gi mem 221 3).toInt = 3 ∧ (gi mem 221 6).toInt = c.toInt)) ∨ (v2.toInt = 1 ∧ (gi mem 221 3).toInt = 3 ∧ (gi mem 221 6).toInt = c.toInt)) → ¬ (v2).toInt = 0 → (gi mem 221 8).toInt = 0 → ∀ (m6 : zM), aTm aT0 m6 → (ahQ mem m6 ∧ mRd T n e m6) → aTm aT0 m6 → P none m6) (h3 : (gi mem 221 12).toInt = (-1) → ∀ (v2 : Int32), ((v2.toInt = 0 ∧ ¬ ((gi mem 221 3).toInt = 3 ∧ (gi mem 221 6).toInt = c.toInt)) ∨ (v2.toInt = 1 ∧ (gi mem 221 3).toInt = 3 ∧ (gi mem 221 6).toInt = c.toInt)) → (v2).toInt = 0 → (gi mem 221 8).toInt ≤ 0 → aTm aT0 (si (si mem 221 8 1) 221 9 (gi mem 221 4)) → P none (si (si mem 221 8 1) 221 9 (gi mem 221 4))) (h4 : (gi mem 221 12).toInt = (-1) → ∀ (v2 : Int32), ((v2.toInt = 0 ∧ ¬ ((gi mem 221 3).toInt = 3 ∧ (gi mem 221 6).toInt = c.toInt)) ∨ (v2.toInt = 1 ∧ (gi mem 221 3).toInt = 3 ∧ (gi mem 221 6).toInt = c.toInt)) → (v2).toInt = 0 → 0 < (gi mem 221 8).toInt → aTm aT0 mem → P none mem) (h5 : ¬ (gi mem 221 12).toInt = (-1) → (gi mem 221 8).toInt ≤ 0 → ∀ (v10 : Int32), ((v10.toInt = 0 ∧ ¬ ((gi mem 221 3).toInt = 3 ∧ (gi mem 221 6).toInt = c.toInt)) ∨ (v10.toInt = 1 ∧ (gi mem 221 3).toInt = 3 ∧ (gi mem 221 6).toInt = c.toInt)) → ¬ (v10).toInt = 0 → aTm aT0 (si (si mem 221 8 1) 221 9 (gi mem 221 12)) → P none (si (si mem 221 8 1) 221 9 (gi mem 221 12))) (h6 : ¬ (gi mem 221 12).toInt = (-1) → (gi mem 221 8).toInt ≤ 0 → ∀ (v10 : Int32), ((v10.toInt = 0 ∧ ¬ ((gi mem 221 3).toInt = 3 ∧ (gi mem 221 6).toInt = c.toInt)) ∨ (v10.toInt = 1 ∧ (gi mem 221 3).toInt = 3 ∧ (gi mem 221 6).toInt = c.toInt)) → (v10).toInt = 0 → aTm aT0 (si (si mem 221 8 1) 221 9 (gi mem 221 12)) → P none (si (si mem 221 8 1) 221 9 (gi mem 221 12))) (h7 : ¬ (gi mem 221 12).toInt = (-1) → 0 < (gi mem 221 8).toInt → ∀ (v13 : Int32), ((v13.toInt = 0 ∧ ¬ ((gi mem 221 3).toInt = 3 ∧ (gi mem 221 6).toInt = c.toInt)) ∨ (v13.toInt = 1 ∧ (gi mem 221 3).toInt = 3 ∧ (gi mem 221 6).toInt = c.toInt)) → ¬ (v13).toInt = 0 → aTm aT0 mem → P none mem) (h8 : ¬ (gi mem 221 12).toInt = (-1) → 0 < (gi mem 221 8).toInt → ∀ (v13 : Int32), ((v13.toInt = 0 ∧ ¬ ((gi mem 221 3).toInt = 3 ∧ (gi mem 221 6).toInt = c.toInt)) ∨ (v13.toInt = 1 ∧ (gi mem 221 3).toInt = 3 ∧ (gi mem 221 6).toInt = c.toInt)) → (v13).toInt = 0 → aTm aT0 mem → P none mem) : yR zpg tX12_must (d + 3) (0, [(0, .ref 221), (1, .int c)], [], mem) P := by
  refine yR_m 1 (fun _ _ _ _ => rfl) ?_
  refine wR_iv rfl rfl mO_e hm rfl rfl rfl rfl ?_
  show yR zpg tX12_lex (d + 2) (0, [(0, .ref 221)], [], mem) _
  refine yR_m 1 (fun _ _ _ _ => rfl) ?_
  refine wR_gi rfl mO_e mO_12 hm rfl ?_
  refine yR_m 1 (fun _ _ _ _ => rfl) ?_
  refine wR_ic_eq rfl (a := (gi mem 221 12).toInt) (c := (-1)) rfl tm1 (fun q1 => ?_) (fun q1 => ?_)
  ·
    refine yR_rv rfl ?_
    show yR zpg tX12_must (d + 3) (4, [(0, .ref 221), (1, .int c)], [], mem) _
    refine yR_m 2 (fun _ _ _ _ => rfl) ?_
    refine wR_cv rfl rfl mO_e hm rfl (c_isSign2 hm rfl rfl (by omega)) ?_
    rintro _ _ ⟨v2, rfl, rfl, k3⟩
    show yR zpg tX12_must (d + 3) (9, [(0, .ref 221), (1, .int c)], [.int v2], mem) _
    refine wR_if_ne rfl (a := (v2).toInt) rfl (fun q4 => ?_) (fun q4 => ?_)
    ·
      refine yR_m 1 (fun _ _ _ _ => rfl) ?_
      refine wR_gi rfl mO_e mO_8 hm rfl ?_
      refine wR_if_ne rfl (a := (gi mem 221 8).toInt) rfl (fun q5 => ?_) (fun q5 => ?_)
      ·
        exact yR_rv rfl (h1 q1 v2 k3 q4 q5 hm)
      ·
        refine yR_m 1 (fun _ _ _ _ => rfl) ?_
        refine wR_cv rfl rfl mO_e hm rfl (h_aheadM hm (s1 q1 v2 k3 q4 q5) (by omega)) ?_
        rintro _ m6 ⟨rfl, hI6, k7⟩
        show yR zpg tX12_must (d + 3) (32, [(0, .ref 221), (1, .int c)], [], m6) _
        exact yR_rv rfl (h2 q1 v2 k3 q4 q5 m6 hI6 k7 hI6)
    ·
      refine yR_m 3 (fun _ _ _ _ => rfl) ?_
      refine wR_gi rfl mO_e mO_4 hm rfl ?_
      refine wR_iv rfl rfl mO_e hm rfl rfl rfl rfl ?_
      show yR zpg tX12_blame (d + 2) (0, [(0, .ref 221), (1, .int 1), (2, .int (gi mem 221 4))], [], mem) _
      refine yR_m 1 (fun _ _ _ _ => rfl) ?_
      refine wR_gi rfl mO_e mO_8 hm rfl ?_
      refine wR_if_le rfl (a := (gi mem 221 8).toInt) rfl (fun q8 => ?_) (fun q8 => ?_)
      ·
        refine yR_m 2 (fun _ _ _ _ => rfl) ?_
        refine wR_pi rfl mO_e mO_8 hm rfl ?_
        have hm_1 : aTm aT0 (si mem 221 8 1) := tm_si mO_e mO_8 hm (i32_b _)
        refine yR_m 2 (fun _ _ _ _ => rfl) ?_
        refine wR_pi rfl mO_e mO_9 hm_1 rfl ?_
        have hm_2 : aTm aT0 (si (si mem 221 8 1) 221 9 (gi mem 221 4)) := tm_si mO_e mO_9 hm_1 (i32_b _)
        refine yR_rv rfl ?_
        show yR zpg tX12_must (d + 3) (21, [(0, .ref 221), (1, .int c)], [], (si (si mem 221 8 1) 221 9 (gi mem 221 4))) _
        refine yR_m 1 (fun _ _ _ _ => rfl) ?_
        refine wR_gi rfl mO_e mO_8 hm_2 ((gi_sv_ne (by decide)).trans (gi_si_eq mO_e mO_8 hm)) ?_
        refine wR_if_ne rfl (a := 1) rfl (fun _ => ?_) (fun q => by exfalso; omega)
        exact yR_rv rfl (h3 q1 v2 k3 q4 q8 hm_2)
      ·
        refine yR_rv rfl ?_
        show yR zpg tX12_must (d + 3) (21, [(0, .ref 221), (1, .int c)], [], mem) _
        refine yR_m 1 (fun _ _ _ _ => rfl) ?_
        refine wR_gi rfl mO_e mO_8 hm rfl ?_
        refine wR_if_ne rfl (a := (gi mem 221 8).toInt) rfl (fun _ => ?_) (fun q => by exfalso; omega)
        exact yR_rv rfl (h4 q1 v2 k3 q4 q8 hm)
  ·
    refine yR_m 3 (fun _ _ _ _ => rfl) ?_
    refine wR_gi rfl mO_e mO_12 hm rfl ?_
    refine wR_iv rfl rfl mO_e hm rfl rfl rfl rfl ?_
    show yR zpg tX12_blame (d + 1) (0, [(0, .ref 221), (1, .int 1), (2, .int (gi mem 221 12))], [], mem) _
    refine yR_m 1 (fun _ _ _ _ => rfl) ?_
    refine wR_gi rfl mO_e mO_8 hm rfl ?_
    refine wR_if_le rfl (a := (gi mem 221 8).toInt) rfl (fun q9 => ?_) (fun q9 => ?_)
    ·
      refine yR_m 2 (fun _ _ _ _ => rfl) ?_
      refine wR_pi rfl mO_e mO_8 hm rfl ?_
      have hm_3 : aTm aT0 (si mem 221 8 1) := tm_si mO_e mO_8 hm (i32_b _)
      refine yR_m 2 (fun _ _ _ _ => rfl) ?_
      refine wR_pi rfl mO_e mO_9 hm_3 rfl ?_
      have hm_4 : aTm aT0 (si (si mem 221 8 1) 221 9 (gi mem 221 12)) := tm_si mO_e mO_9 hm_3 (i32_b _)
      refine yR_rv rfl ?_
      show yR zpg tX12_lex (d + 2) (17, [(0, .ref 221)], [], (si (si mem 221 8 1) 221 9 (gi mem 221 12))) _
      refine yR_rv rfl ?_
      show yR zpg tX12_must (d + 3) (4, [(0, .ref 221), (1, .int c)], [], (si (si mem 221 8 1) 221 9 (gi mem 221 12))) _
      refine yR_m 2 (fun _ _ _ _ => rfl) ?_
      refine wR_cv rfl rfl mO_e hm_4 rfl (c_isSign2 hm_4 ((gi_sv_ne (by decide)).trans (gi_sv_ne (by decide))) ((gi_sv_ne (by decide)).trans (gi_sv_ne (by decide))) (by omega)) ?_
      rintro _ _ ⟨v10, rfl, rfl, k11⟩
      show yR zpg tX12_must (d + 3) (9, [(0, .ref 221), (1, .int c)], [.int v10], (si (si mem 221 8 1) 221 9 (gi mem 221 12))) _
      refine wR_if_ne rfl (a := (v10).toInt) rfl (fun q12 => ?_) (fun q12 => ?_)
      ·
        refine yR_m 1 (fun _ _ _ _ => rfl) ?_
        refine wR_gi rfl mO_e mO_8 hm_4 ((gi_sv_ne (by decide)).trans (gi_si_eq mO_e mO_8 hm)) ?_
        refine wR_if_ne rfl (a := 1) rfl (fun _ => ?_) (fun q => by exfalso; omega)
        exact yR_rv rfl (h5 q1 q9 v10 k11 q12 hm_4)
      ·
        refine yR_m 3 (fun _ _ _ _ => rfl) ?_
        refine wR_gi rfl mO_e mO_4 hm_4 ((gi_sv_ne (by decide)).trans (gi_sv_ne (by decide))) ?_
        refine wR_iv rfl rfl mO_e hm_4 rfl rfl rfl rfl ?_
        show yR zpg tX12_blame (d + 2) (0, [(0, .ref 221), (1, .int 1), (2, .int (gi mem 221 4))], [], (si (si mem 221 8 1) 221 9 (gi mem 221 12))) _
        refine yR_m 1 (fun _ _ _ _ => rfl) ?_
        refine wR_gi rfl mO_e mO_8 hm_4 ((gi_sv_ne (by decide)).trans (gi_si_eq mO_e mO_8 hm)) ?_
        refine wR_if_le rfl (a := 1) rfl (fun q => by exfalso; omega) (fun _ => ?_)
        refine yR_rv rfl ?_
        show yR zpg tX12_must (d + 3) (21, [(0, .ref 221), (1, .int c)], [], (si (si mem 221 8 1) 221 9 (gi mem 221 12))) _
        refine yR_m 1 (fun _ _ _ _ => rfl) ?_
        refine wR_gi rfl mO_e mO_8 hm_4 ((gi_sv_ne (by decide)).trans (gi_si_eq mO_e mO_8 hm)) ?_
        refine wR_if_ne rfl (a := 1) rfl (fun _ => ?_) (fun q => by exfalso; omega)
        exact yR_rv rfl (h6 q1 q9 v10 k11 q12 hm_4)
    ·
      refine yR_rv rfl ?_
      show yR zpg tX12_lex (d + 2) (17, [(0, .ref 221)], [], mem) _
      refine yR_rv rfl ?_
      show yR zpg tX12_must (d + 3) (4, [(0, .ref 221), (1, .int c)], [], mem) _
      refine yR_m 2 (fun _ _ _ _ => rfl) ?_
      refine wR_cv rfl rfl mO_e hm rfl (c_isSign2 hm rfl rfl (by omega)) ?_
      rintro _ _ ⟨v13, rfl, rfl, k14⟩
      show yR zpg tX12_must (d + 3) (9, [(0, .ref 221), (1, .int c)], [.int v13], mem) _
      refine wR_if_ne rfl (a := (v13).toInt) rfl (fun q15 => ?_) (fun q15 => ?_)
      ·
        refine yR_m 1 (fun _ _ _ _ => rfl) ?_
        refine wR_gi rfl mO_e mO_8 hm rfl ?_
        refine wR_if_ne rfl (a := (gi mem 221 8).toInt) rfl (fun _ => ?_) (fun q => by exfalso; omega)
        exact yR_rv rfl (h7 q1 q9 v13 k14 q15 hm)
      ·
        refine yR_m 3 (fun _ _ _ _ => rfl) ?_
        refine wR_gi rfl mO_e mO_4 hm rfl ?_
        refine wR_iv rfl rfl mO_e hm rfl rfl rfl rfl ?_
        show yR zpg tX12_blame (d + 2) (0, [(0, .ref 221), (1, .int 1), (2, .int (gi mem 221 4))], [], mem) _
        refine yR_m 1 (fun _ _ _ _ => rfl) ?_
        refine wR_gi rfl mO_e mO_8 hm rfl ?_
        refine wR_if_le rfl (a := (gi mem 221 8).toInt) rfl (fun q => by exfalso; omega) (fun _ => ?_)
        refine yR_rv rfl ?_
        show yR zpg tX12_must (d + 3) (21, [(0, .ref 221), (1, .int c)], [], mem) _
        refine yR_m 1 (fun _ _ _ _ => rfl) ?_
        refine wR_gi rfl mO_e mO_8 hm rfl ?_
        refine wR_if_ne rfl (a := (gi mem 221 8).toInt) rfl (fun _ => ?_) (fun q => by exfalso; omega)
        exact yR_rv rfl (h8 q1 q9 v13 k14 q15 hm)

theorem h_mustF {c : Int32} (hm : aTm aT0 mem) (h8 : 0 ≤ (gi mem 221 8).toInt) (hR : (gi mem 221 8).toInt = 0 → mR T n p t e mem) (hd : 4 ≤ d) : yC zpg d 176 [.ref 221, .int c] mem (fun r m => stO T n e (t.1 = 3 ∧ t.2.1 = c.toInt) mem m) := by
  obtain ⟨d, rfl⟩ : ∃ q, d = q + 4 := ⟨d - 4, by omega⟩
  refine yC_of (t := tX12_must) rfl rfl ?_
  exact w_mustF (T := T) (n := n) (p := p) (e := e) (t := t) hm
        (fun q1 v2 k3 q4 q5 hm2 => Or.inr ⟨Or.inl (by show 1 ≤ (gi mem 221 8).toInt; omega), by show 1 ≤ (gi mem 221 8).toInt; omega⟩)
        (fun q1 v2 k3 q4 q5 => hR (by omega))
        (fun q1 v2 k3 q4 q5 m6 hI6 k7 hm2 => by
          have Z := hR (by omega)
          have I := msg_iff (c := c.toInt) Z.2.2.2 q1
          exact Or.inl ⟨⟨by show (gi mem 221 8).toInt = 0; omega, I.1 ⟨by omega, by omega⟩⟩, by show (gi _ 221 8).toInt = 0; rw [fr_gi k7.1.1 rfl]; omega, k7.2⟩)
        (fun q1 v2 k3 q4 q8 hm2 => by
          have Z := hR (by omega)
          have I := msg_iff (c := c.toInt) Z.2.2.2 q1
          exact Or.inr ⟨Or.inr (fun w => by have w2 := I.2 w; omega), by show 1 ≤ (gi _ 221 8).toInt; rw [((gi_sv_ne (by decide)).trans (gi_eqO (isO_of hm) (by decide)))]; decide⟩)
        (fun q1 v2 k3 q4 q8 hm2 => Or.inr ⟨Or.inl (by show 1 ≤ (gi mem 221 8).toInt; omega), by show 1 ≤ (gi mem 221 8).toInt; omega⟩)
        (fun q1 q9 v10 k11 q12 hm2 => by
          have Z := hR (by omega)
          have X := mx_iff Z.2.2.2
          exact Or.inr ⟨Or.inr (fun w => q1 (X.2 (by have w1 := w.1; omega))), by show 1 ≤ (gi _ 221 8).toInt; rw [((gi_sv_ne (by decide)).trans (gi_eqO (isO_of hm) (by decide)))]; decide⟩)
        (fun q1 q9 v10 k11 q12 hm2 => by
          have Z := hR (by omega)
          have X := mx_iff Z.2.2.2
          exact Or.inr ⟨Or.inr (fun w => q1 (X.2 (by have w1 := w.1; omega))), by show 1 ≤ (gi _ 221 8).toInt; rw [((gi_sv_ne (by decide)).trans (gi_eqO (isO_of hm) (by decide)))]; decide⟩)
        (fun q1 q9 v13 k14 q15 hm2 => Or.inr ⟨Or.inl (by show 1 ≤ (gi mem 221 8).toInt; omega), by show 1 ≤ (gi mem 221 8).toInt; omega⟩)
        (fun q1 q9 v13 k14 q15 hm2 => Or.inr ⟨Or.inl (by show 1 ≤ (gi mem 221 8).toInt; omega), by show 1 ≤ (gi mem 221 8).toInt; omega⟩)
set_option maxRecDepth 100000 in
theorem w_mustW {d : Nat} {mem : zM} {P : Option Value → zM → Prop} {T : List Int32} {n p e : Int} {t : Tk} {c : Int64} (hm : aTm aT0 mem) (h1 : (gi mem 221 12).toInt = (-1) → (gi mem 221 8).toInt ≤ 0 → ¬ (gi mem 221 3).toInt = 1 → aTm aT0 (si (si mem 221 8 1) 221 9 (gi mem 221 4)) → P none (si (si mem 221 8 1) 221 9 (gi mem 221 4))) (h2 : (gi mem 221 12).toInt = (-1) → (gi mem 221 8).toInt ≤ 0 → (gi mem 221 3).toInt = 1 → ¬ (gL mem 221 7) = c → aTm aT0 (si (si mem 221 8 1) 221 9 (gi mem 221 4)) → P none (si (si mem 221 8 1) 221 9 (gi mem 221 4))) (h3 : (gi mem 221 12).toInt = (-1) → (gi mem 221 8).toInt ≤ 0 → (gi mem 221 3).toInt = 1 → (gL mem 221 7) = c → ¬ (gi mem 221 8).toInt = 0 → aTm aT0 mem → P none mem) (s1 : (gi mem 221 12).toInt = (-1) → (gi mem 221 8).toInt ≤ 0 → (gi mem 221 3).toInt = 1 → (gL mem 221 7) = c → (gi mem 221 8).toInt = 0 → mR T n p t e mem) (h4 : (gi mem 221 12).toInt = (-1) → (gi mem 221 8).toInt ≤ 0 → (gi mem 221 3).toInt = 1 → (gL mem 221 7) = c → (gi mem 221 8).toInt = 0 → ∀ (m6 : zM), aTm aT0 m6 → (ahQ mem m6 ∧ mRd T n e m6) → aTm aT0 m6 → P none m6) (h5 : (gi mem 221 12).toInt = (-1) → 0 < (gi mem 221 8).toInt → aTm aT0 mem → P none mem) (h6 : ¬ (gi mem 221 12).toInt = (-1) → (gi mem 221 8).toInt ≤ 0 → aTm aT0 (si (si mem 221 8 1) 221 9 (gi mem 221 12)) → P none (si (si mem 221 8 1) 221 9 (gi mem 221 12))) (h7 : ¬ (gi mem 221 12).toInt = (-1) → 0 < (gi mem 221 8).toInt → aTm aT0 mem → P none mem) : yR zpg tX12_must_ (d + 3) (0, [(0, .ref 221), (1, .long c)], [], mem) P := by
  refine yR_m 1 (fun _ _ _ _ => rfl) ?_
  refine wR_iv rfl rfl mO_e hm rfl rfl rfl rfl ?_
  show yR zpg tX12_lex (d + 2) (0, [(0, .ref 221)], [], mem) _
  refine yR_m 1 (fun _ _ _ _ => rfl) ?_
  refine wR_gi rfl mO_e mO_12 hm rfl ?_
  refine yR_m 1 (fun _ _ _ _ => rfl) ?_
  refine wR_ic_eq rfl (a := (gi mem 221 12).toInt) (c := (-1)) rfl tm1 (fun q1 => ?_) (fun q1 => ?_)
  ·
    refine yR_rv rfl ?_
    show yR zpg tX12_must_ (d + 3) (4, [(0, .ref 221), (1, .long c)], [], mem) _
    refine yR_m 1 (fun _ _ _ _ => rfl) ?_
    refine wR_gi rfl mO_e mO_8 hm rfl ?_
    refine wR_if_le rfl (a := (gi mem 221 8).toInt) rfl (fun q2 => ?_) (fun q2 => ?_)
    ·
      refine yR_m 2 (fun _ _ _ _ => rfl) ?_
      refine wR_iv rfl rfl mO_e hm rfl rfl rfl rfl ?_
      show yR zpg tX12_isWord (d + 2) (0, [(0, .ref 221), (1, .long c)], [], mem) _
      refine yR_m 1 (fun _ _ _ _ => rfl) ?_
      refine wR_gi rfl mO_e mO_3 hm rfl ?_
      refine yR_m 1 (fun _ _ _ _ => rfl) ?_
      refine wR_ic_ne rfl (a := (gi mem 221 3).toInt) (c := 1) rfl rfl (fun q3 => ?_) (fun q3 => ?_)
      ·
        refine yR_m 1 (fun _ _ _ _ => rfl) ?_
        refine yR_rz rfl ⟨by decide, by decide⟩ ?_
        show yR zpg tX12_must_ (d + 3) (17, [(0, .ref 221), (1, .long c)], [.int 0], mem) _
        refine wR_if_ne rfl (a := 0) rfl (fun q => by exfalso; omega) (fun _ => ?_)
        refine yR_m 3 (fun _ _ _ _ => rfl) ?_
        refine wR_gi rfl mO_e mO_4 hm rfl ?_
        refine wR_iv rfl rfl mO_e hm rfl rfl rfl rfl ?_
        show yR zpg tX12_blame (d + 2) (0, [(0, .ref 221), (1, .int 1), (2, .int (gi mem 221 4))], [], mem) _
        refine yR_m 1 (fun _ _ _ _ => rfl) ?_
        refine wR_gi rfl mO_e mO_8 hm rfl ?_
        refine wR_if_le rfl (a := (gi mem 221 8).toInt) rfl (fun _ => ?_) (fun q => by exfalso; omega)
        refine yR_m 2 (fun _ _ _ _ => rfl) ?_
        refine wR_pi rfl mO_e mO_8 hm rfl ?_
        have hm_1 : aTm aT0 (si mem 221 8 1) := tm_si mO_e mO_8 hm (i32_b _)
        refine yR_m 2 (fun _ _ _ _ => rfl) ?_
        refine wR_pi rfl mO_e mO_9 hm_1 rfl ?_
        have hm_2 : aTm aT0 (si (si mem 221 8 1) 221 9 (gi mem 221 4)) := tm_si mO_e mO_9 hm_1 (i32_b _)
        refine yR_rv rfl ?_
        show yR zpg tX12_must_ (d + 3) (29, [(0, .ref 221), (1, .long c)], [], (si (si mem 221 8 1) 221 9 (gi mem 221 4))) _
        refine yR_m 1 (fun _ _ _ _ => rfl) ?_
        refine wR_gi rfl mO_e mO_8 hm_2 ((gi_sv_ne (by decide)).trans (gi_si_eq mO_e mO_8 hm)) ?_
        refine wR_if_ne rfl (a := 1) rfl (fun _ => ?_) (fun q => by exfalso; omega)
        exact yR_rv rfl (h1 q1 q2 q3 hm_2)
      ·
        refine yR_m 1 (fun _ _ _ _ => rfl) ?_
        refine wR_gL rfl mO_e mO_7 hm rfl ?_
        refine yR_m 2 (fun _ _ _ _ => rfl) ?_
        refine wR_lf_ne rfl (fun q4 => ?_) (fun q4 => ?_)
        ·
          refine yR_m 1 (fun _ _ _ _ => rfl) ?_
          refine yR_rz rfl ⟨by decide, by decide⟩ ?_
          show yR zpg tX12_must_ (d + 3) (17, [(0, .ref 221), (1, .long c)], [.int 0], mem) _
          refine wR_if_ne rfl (a := 0) rfl (fun q => by exfalso; omega) (fun _ => ?_)
          refine yR_m 3 (fun _ _ _ _ => rfl) ?_
          refine wR_gi rfl mO_e mO_4 hm rfl ?_
          refine wR_iv rfl rfl mO_e hm rfl rfl rfl rfl ?_
          show yR zpg tX12_blame (d + 2) (0, [(0, .ref 221), (1, .int 1), (2, .int (gi mem 221 4))], [], mem) _
          refine yR_m 1 (fun _ _ _ _ => rfl) ?_
          refine wR_gi rfl mO_e mO_8 hm rfl ?_
          refine wR_if_le rfl (a := (gi mem 221 8).toInt) rfl (fun _ => ?_) (fun q => by exfalso; omega)
          refine yR_m 2 (fun _ _ _ _ => rfl) ?_
          refine wR_pi rfl mO_e mO_8 hm rfl ?_
          have hm_3 : aTm aT0 (si mem 221 8 1) := tm_si mO_e mO_8 hm (i32_b _)
          refine yR_m 2 (fun _ _ _ _ => rfl) ?_
          refine wR_pi rfl mO_e mO_9 hm_3 rfl ?_
          have hm_4 : aTm aT0 (si (si mem 221 8 1) 221 9 (gi mem 221 4)) := tm_si mO_e mO_9 hm_3 (i32_b _)
          refine yR_rv rfl ?_
          show yR zpg tX12_must_ (d + 3) (29, [(0, .ref 221), (1, .long c)], [], (si (si mem 221 8 1) 221 9 (gi mem 221 4))) _
          refine yR_m 1 (fun _ _ _ _ => rfl) ?_
          refine wR_gi rfl mO_e mO_8 hm_4 ((gi_sv_ne (by decide)).trans (gi_si_eq mO_e mO_8 hm)) ?_
          refine wR_if_ne rfl (a := 1) rfl (fun _ => ?_) (fun q => by exfalso; omega)
          exact yR_rv rfl (h2 q1 q2 q3 q4 hm_4)
        ·
          refine yR_m 2 (fun _ _ _ _ => rfl) ?_
          refine yR_rz rfl ⟨by decide, by decide⟩ ?_
          show yR zpg tX12_must_ (d + 3) (17, [(0, .ref 221), (1, .long c)], [.int 1], mem) _
          refine wR_if_ne rfl (a := 1) rfl (fun _ => ?_) (fun q => by exfalso; omega)
          refine yR_m 1 (fun _ _ _ _ => rfl) ?_
          refine wR_gi rfl mO_e mO_8 hm rfl ?_
          refine wR_if_ne rfl (a := (gi mem 221 8).toInt) rfl (fun q5 => ?_) (fun q5 => ?_)
          ·
            exact yR_rv rfl (h3 q1 q2 q3 q4 q5 hm)
          ·
            refine yR_m 1 (fun _ _ _ _ => rfl) ?_
            refine wR_cv rfl rfl mO_e hm rfl (h_aheadM hm (s1 q1 q2 q3 q4 q5) (by omega)) ?_
            rintro _ m6 ⟨rfl, hI6, k7⟩
            show yR zpg tX12_must_ (d + 3) (40, [(0, .ref 221), (1, .long c)], [], m6) _
            exact yR_rv rfl (h4 q1 q2 q3 q4 q5 m6 hI6 k7 hI6)
    ·
      exact yR_rv rfl (h5 q1 q2 hm)
  ·
    refine yR_m 3 (fun _ _ _ _ => rfl) ?_
    refine wR_gi rfl mO_e mO_12 hm rfl ?_
    refine wR_iv rfl rfl mO_e hm rfl rfl rfl rfl ?_
    show yR zpg tX12_blame (d + 1) (0, [(0, .ref 221), (1, .int 1), (2, .int (gi mem 221 12))], [], mem) _
    refine yR_m 1 (fun _ _ _ _ => rfl) ?_
    refine wR_gi rfl mO_e mO_8 hm rfl ?_
    refine wR_if_le rfl (a := (gi mem 221 8).toInt) rfl (fun q8 => ?_) (fun q8 => ?_)
    ·
      refine yR_m 2 (fun _ _ _ _ => rfl) ?_
      refine wR_pi rfl mO_e mO_8 hm rfl ?_
      have hm_5 : aTm aT0 (si mem 221 8 1) := tm_si mO_e mO_8 hm (i32_b _)
      refine yR_m 2 (fun _ _ _ _ => rfl) ?_
      refine wR_pi rfl mO_e mO_9 hm_5 rfl ?_
      have hm_6 : aTm aT0 (si (si mem 221 8 1) 221 9 (gi mem 221 12)) := tm_si mO_e mO_9 hm_5 (i32_b _)
      refine yR_rv rfl ?_
      show yR zpg tX12_lex (d + 2) (17, [(0, .ref 221)], [], (si (si mem 221 8 1) 221 9 (gi mem 221 12))) _
      refine yR_rv rfl ?_
      show yR zpg tX12_must_ (d + 3) (4, [(0, .ref 221), (1, .long c)], [], (si (si mem 221 8 1) 221 9 (gi mem 221 12))) _
      refine yR_m 1 (fun _ _ _ _ => rfl) ?_
      refine wR_gi rfl mO_e mO_8 hm_6 ((gi_sv_ne (by decide)).trans (gi_si_eq mO_e mO_8 hm)) ?_
      refine wR_if_le rfl (a := 1) rfl (fun q => by exfalso; omega) (fun _ => ?_)
      exact yR_rv rfl (h6 q1 q8 hm_6)
    ·
      refine yR_rv rfl ?_
      show yR zpg tX12_lex (d + 2) (17, [(0, .ref 221)], [], mem) _
      refine yR_rv rfl ?_
      show yR zpg tX12_must_ (d + 3) (4, [(0, .ref 221), (1, .long c)], [], mem) _
      refine yR_m 1 (fun _ _ _ _ => rfl) ?_
      refine wR_gi rfl mO_e mO_8 hm rfl ?_
      refine wR_if_le rfl (a := (gi mem 221 8).toInt) rfl (fun q => by exfalso; omega) (fun _ => ?_)
      exact yR_rv rfl (h7 q1 q8 hm)

theorem h_mustW {c : Int64} {ls : List Int} (hc : c.toInt = wnl ls) (hl : ∀ a ∈ ls, ltr a) (hm : aTm aT0 mem) (h8 : 0 ≤ (gi mem 221 8).toInt) (hR : (gi mem 221 8).toInt = 0 → mR T n p t e mem) (hd : 4 ≤ d) : yC zpg d 192 [.ref 221, .long c] mem (fun r m => stO T n e (t.1 = 1 ∧ t.2.2 = ls) mem m) := by
  obtain ⟨d, rfl⟩ : ∃ q, d = q + 4 := ⟨d - 4, by omega⟩
  refine yC_of (t := tX12_must_) rfl rfl ?_
  exact w_mustW (T := T) (n := n) (p := p) (e := e) (t := t) hm
        (fun q1 q2 q3 hm2 => by
          have Z := hR (by omega)
          have I := mwd_iff (ls := ls) Z.2.2.2 q1 (Tok_let Z.2.1) hl
          exact Or.inr ⟨Or.inr (fun w => by have w2 := I.2 w; first | omega | (rw [← hc] at w2; exact absurd (Int64.toInt_inj.1 w2.2) id)), by show 1 ≤ (gi _ 221 8).toInt; rw [((gi_sv_ne (by decide)).trans (gi_eqO (isO_of hm) (by decide)))]; decide⟩)
        (fun q1 q2 q3 q4 hm2 => by
          have Z := hR (by omega)
          have I := mwd_iff (ls := ls) Z.2.2.2 q1 (Tok_let Z.2.1) hl
          exact Or.inr ⟨Or.inr (fun w => by have w2 := I.2 w; first | omega | (rw [← hc] at w2; exact absurd (Int64.toInt_inj.1 w2.2) q4)), by show 1 ≤ (gi _ 221 8).toInt; rw [((gi_sv_ne (by decide)).trans (gi_eqO (isO_of hm) (by decide)))]; decide⟩)
        (fun q1 q2 q3 q4 q5 hm2 => Or.inr ⟨Or.inl (by show 1 ≤ (gi mem 221 8).toInt; omega), by show 1 ≤ (gi mem 221 8).toInt; omega⟩)
        (fun q1 q2 q3 q4 q5 => hR (by omega))
        (fun q1 q2 q3 q4 q5 m6 hI6 k7 hm2 => by
          have Z := hR (by omega)
          have I := mwd_iff (ls := ls) Z.2.2.2 q1 (Tok_let Z.2.1) hl
          exact Or.inl ⟨⟨by show (gi mem 221 8).toInt = 0; omega, I.1 ⟨by omega, by rw [← hc]; exact congrArg Int64.toInt q4⟩⟩, by show (gi _ 221 8).toInt = 0; rw [fr_gi k7.1.1 rfl]; omega, k7.2⟩)
        (fun q1 q2 hm2 => Or.inr ⟨Or.inl (by show 1 ≤ (gi mem 221 8).toInt; omega), by show 1 ≤ (gi mem 221 8).toInt; omega⟩)
        (fun q1 q8 hm2 => by
          have Z := hR (by omega)
          have X := mx_iff Z.2.2.2
          exact Or.inr ⟨Or.inr (fun w => q1 (X.2 (by have w1 := w.1; omega))), by show 1 ≤ (gi _ 221 8).toInt; rw [((gi_sv_ne (by decide)).trans (gi_eqO (isO_of hm) (by decide)))]; decide⟩)
        (fun q1 q8 hm2 => Or.inr ⟨Or.inl (by show 1 ≤ (gi mem 221 8).toInt; omega), by show 1 ≤ (gi mem 221 8).toInt; omega⟩)
set_option maxRecDepth 100000 in
theorem w_numF {d : Nat} {mem : zM} {P : Option Value → zM → Prop} {T : List Int32} {n p e : Int} {t : Tk} {a b : Int32} (hm : aTm aT0 mem) (h1 : (gi mem 221 12).toInt = (-1) → (gi mem 221 8).toInt ≤ 0 → (gi mem 221 3).toInt = 2 → ¬ (gi mem 221 8).toInt = 0 → aTm aT0 mem → P (some (.int (gi mem 221 6))) mem) (h2 : (gi mem 221 12).toInt = (-1) → (gi mem 221 8).toInt ≤ 0 → (gi mem 221 3).toInt = 2 → (gi mem 221 8).toInt = 0 → (gi mem 221 6).toInt < (a).toInt → aTm aT0 (si (si mem 221 8 4) 221 9 (gi mem 221 4)) → P (some (.int (gi mem 221 6))) (si (si mem 221 8 4) 221 9 (gi mem 221 4))) (h3 : (gi mem 221 12).toInt = (-1) → (gi mem 221 8).toInt ≤ 0 → (gi mem 221 3).toInt = 2 → (gi mem 221 8).toInt = 0 → (a).toInt ≤ (gi mem 221 6).toInt → (b).toInt < (gi mem 221 6).toInt → aTm aT0 (si (si mem 221 8 4) 221 9 (gi mem 221 4)) → P (some (.int (gi mem 221 6))) (si (si mem 221 8 4) 221 9 (gi mem 221 4))) (s1 : (gi mem 221 12).toInt = (-1) → (gi mem 221 8).toInt ≤ 0 → (gi mem 221 3).toInt = 2 → (gi mem 221 8).toInt = 0 → (a).toInt ≤ (gi mem 221 6).toInt → (gi mem 221 6).toInt ≤ (b).toInt → mR T n p t e mem) (h4 : (gi mem 221 12).toInt = (-1) → (gi mem 221 8).toInt ≤ 0 → (gi mem 221 3).toInt = 2 → (gi mem 221 8).toInt = 0 → (a).toInt ≤ (gi mem 221 6).toInt → (gi mem 221 6).toInt ≤ (b).toInt → ∀ (m7 : zM), aTm aT0 m7 → (ahQ mem m7 ∧ mRd T n e m7) → aTm aT0 m7 → P (some (.int (gi mem 221 6))) m7) (h5 : (gi mem 221 12).toInt = (-1) → (gi mem 221 8).toInt ≤ 0 → ¬ (gi mem 221 3).toInt = 2 → aTm aT0 (si (si mem 221 8 1) 221 9 (gi mem 221 4)) → P (some (.int (gi mem 221 6))) (si (si mem 221 8 1) 221 9 (gi mem 221 4))) (h6 : (gi mem 221 12).toInt = (-1) → 0 < (gi mem 221 8).toInt → aTm aT0 mem → P (some (.int 0)) mem) (h7 : ¬ (gi mem 221 12).toInt = (-1) → (gi mem 221 8).toInt ≤ 0 → aTm aT0 (si (si mem 221 8 1) 221 9 (gi mem 221 12)) → P (some (.int 0)) (si (si mem 221 8 1) 221 9 (gi mem 221 12))) (h8 : ¬ (gi mem 221 12).toInt = (-1) → 0 < (gi mem 221 8).toInt → aTm aT0 mem → P (some (.int 0)) mem) : yR zpg tX12_number (d + 3) (0, [(0, .ref 221), (1, .int a), (2, .int b)], [], mem) P := by
  refine yR_m 1 (fun _ _ _ _ => rfl) ?_
  refine wR_iv rfl rfl mO_e hm rfl rfl rfl rfl ?_
  show yR zpg tX12_lex (d + 2) (0, [(0, .ref 221)], [], mem) _
  refine yR_m 1 (fun _ _ _ _ => rfl) ?_
  refine wR_gi rfl mO_e mO_12 hm rfl ?_
  refine yR_m 1 (fun _ _ _ _ => rfl) ?_
  refine wR_ic_eq rfl (a := (gi mem 221 12).toInt) (c := (-1)) rfl tm1 (fun q1 => ?_) (fun q1 => ?_)
  ·
    refine yR_rv rfl ?_
    show yR zpg tX12_number (d + 3) (4, [(0, .ref 221), (1, .int a), (2, .int b)], [], mem) _
    refine yR_m 1 (fun _ _ _ _ => rfl) ?_
    refine wR_gi rfl mO_e mO_8 hm rfl ?_
    refine wR_if_le rfl (a := (gi mem 221 8).toInt) rfl (fun q2 => ?_) (fun q2 => ?_)
    ·
      refine yR_m 1 (fun _ _ _ _ => rfl) ?_
      refine wR_gi rfl mO_e mO_3 hm rfl ?_
      refine yR_m 1 (fun _ _ _ _ => rfl) ?_
      refine wR_ic_eq rfl (a := (gi mem 221 3).toInt) (c := 2) rfl rfl (fun q3 => ?_) (fun q3 => ?_)
      ·
        refine yR_m 1 (fun _ _ _ _ => rfl) ?_
        refine wR_gi rfl mO_e mO_8 hm rfl ?_
        refine wR_if_ne rfl (a := (gi mem 221 8).toInt) rfl (fun q4 => ?_) (fun q4 => ?_)
        ·
          refine yR_m 1 (fun _ _ _ _ => rfl) ?_
          refine wR_gi rfl mO_e mO_6 hm rfl ?_
          refine yR_m 2 (fun _ _ _ _ => rfl) ?_
          refine wR_gi rfl mO_e mO_8 hm rfl ?_
          refine wR_if_ne rfl (a := (gi mem 221 8).toInt) rfl (fun _ => ?_) (fun q => by exfalso; omega)
          refine yR_m 1 (fun _ _ _ _ => rfl) ?_
          exact yR_ri rfl (h1 q1 q2 q3 q4 hm)
        ·
          refine yR_m 1 (fun _ _ _ _ => rfl) ?_
          refine wR_gi rfl mO_e mO_6 hm rfl ?_
          refine yR_m 2 (fun _ _ _ _ => rfl) ?_
          refine wR_is rfl rfl rfl rfl rfl rfl ?_
          show yR zpg tX12_is (d + 2) (0, [(0, .int (gi mem 221 6)), (1, .int a), (2, .int b)], [], mem) _
          refine yR_m 2 (fun _ _ _ _ => rfl) ?_
          refine wR_ic_lt rfl (a := (gi mem 221 6).toInt) (c := (a).toInt) rfl rfl (fun q5 => ?_) (fun q5 => ?_)
          ·
            refine yR_m 1 (fun _ _ _ _ => rfl) ?_
            refine yR_rz rfl ⟨by decide, by decide⟩ ?_
            show yR zpg tX12_number (d + 3) (46, [(0, .ref 221), (1, .int a), (2, .int b)], [.int 0], mem) _
            refine wR_if_ne rfl (a := 0) rfl (fun q => by exfalso; omega) (fun _ => ?_)
            refine yR_m 3 (fun _ _ _ _ => rfl) ?_
            refine wR_gi rfl mO_e mO_4 hm rfl ?_
            refine wR_iv rfl rfl mO_e hm rfl rfl rfl rfl ?_
            show yR zpg tX12_blame (d + 2) (0, [(0, .ref 221), (1, .int 4), (2, .int (gi mem 221 4))], [], mem) _
            refine yR_m 1 (fun _ _ _ _ => rfl) ?_
            refine wR_gi rfl mO_e mO_8 hm rfl ?_
            refine wR_if_le rfl (a := (gi mem 221 8).toInt) rfl (fun _ => ?_) (fun q => by exfalso; omega)
            refine yR_m 2 (fun _ _ _ _ => rfl) ?_
            refine wR_pi rfl mO_e mO_8 hm rfl ?_
            have hm_1 : aTm aT0 (si mem 221 8 4) := tm_si mO_e mO_8 hm (i32_b _)
            refine yR_m 2 (fun _ _ _ _ => rfl) ?_
            refine wR_pi rfl mO_e mO_9 hm_1 rfl ?_
            have hm_2 : aTm aT0 (si (si mem 221 8 4) 221 9 (gi mem 221 4)) := tm_si mO_e mO_9 hm_1 (i32_b _)
            refine yR_rv rfl ?_
            show yR zpg tX12_number (d + 3) (58, [(0, .ref 221), (1, .int a), (2, .int b)], [], (si (si mem 221 8 4) 221 9 (gi mem 221 4))) _
            refine yR_m 1 (fun _ _ _ _ => rfl) ?_
            refine wR_gi rfl mO_e mO_6 hm_2 ((gi_sv_ne (by decide)).trans (gi_sv_ne (by decide))) ?_
            refine yR_m 2 (fun _ _ _ _ => rfl) ?_
            refine wR_gi rfl mO_e mO_8 hm_2 ((gi_sv_ne (by decide)).trans (gi_si_eq mO_e mO_8 hm)) ?_
            refine wR_if_ne rfl (a := 4) rfl (fun _ => ?_) (fun q => by exfalso; omega)
            refine yR_m 1 (fun _ _ _ _ => rfl) ?_
            exact yR_ri rfl (h2 q1 q2 q3 q4 q5 hm_2)
          ·
            refine yR_m 2 (fun _ _ _ _ => rfl) ?_
            refine wR_ic_gt rfl (a := (gi mem 221 6).toInt) (c := (b).toInt) rfl rfl (fun q6 => ?_) (fun q6 => ?_)
            ·
              refine yR_m 1 (fun _ _ _ _ => rfl) ?_
              refine yR_rz rfl ⟨by decide, by decide⟩ ?_
              show yR zpg tX12_number (d + 3) (46, [(0, .ref 221), (1, .int a), (2, .int b)], [.int 0], mem) _
              refine wR_if_ne rfl (a := 0) rfl (fun q => by exfalso; omega) (fun _ => ?_)
              refine yR_m 3 (fun _ _ _ _ => rfl) ?_
              refine wR_gi rfl mO_e mO_4 hm rfl ?_
              refine wR_iv rfl rfl mO_e hm rfl rfl rfl rfl ?_
              show yR zpg tX12_blame (d + 2) (0, [(0, .ref 221), (1, .int 4), (2, .int (gi mem 221 4))], [], mem) _
              refine yR_m 1 (fun _ _ _ _ => rfl) ?_
              refine wR_gi rfl mO_e mO_8 hm rfl ?_
              refine wR_if_le rfl (a := (gi mem 221 8).toInt) rfl (fun _ => ?_) (fun q => by exfalso; omega)
              refine yR_m 2 (fun _ _ _ _ => rfl) ?_
              refine wR_pi rfl mO_e mO_8 hm rfl ?_
              have hm_3 : aTm aT0 (si mem 221 8 4) := tm_si mO_e mO_8 hm (i32_b _)
              refine yR_m 2 (fun _ _ _ _ => rfl) ?_
              refine wR_pi rfl mO_e mO_9 hm_3 rfl ?_
              have hm_4 : aTm aT0 (si (si mem 221 8 4) 221 9 (gi mem 221 4)) := tm_si mO_e mO_9 hm_3 (i32_b _)
              refine yR_rv rfl ?_
              show yR zpg tX12_number (d + 3) (58, [(0, .ref 221), (1, .int a), (2, .int b)], [], (si (si mem 221 8 4) 221 9 (gi mem 221 4))) _
              refine yR_m 1 (fun _ _ _ _ => rfl) ?_
              refine wR_gi rfl mO_e mO_6 hm_4 ((gi_sv_ne (by decide)).trans (gi_sv_ne (by decide))) ?_
              refine yR_m 2 (fun _ _ _ _ => rfl) ?_
              refine wR_gi rfl mO_e mO_8 hm_4 ((gi_sv_ne (by decide)).trans (gi_si_eq mO_e mO_8 hm)) ?_
              refine wR_if_ne rfl (a := 4) rfl (fun _ => ?_) (fun q => by exfalso; omega)
              refine yR_m 1 (fun _ _ _ _ => rfl) ?_
              exact yR_ri rfl (h3 q1 q2 q3 q4 q5 q6 hm_4)
            ·
              refine yR_m 2 (fun _ _ _ _ => rfl) ?_
              refine yR_rz rfl ⟨by decide, by decide⟩ ?_
              show yR zpg tX12_number (d + 3) (46, [(0, .ref 221), (1, .int a), (2, .int b)], [.int 1], mem) _
              refine wR_if_ne rfl (a := 1) rfl (fun _ => ?_) (fun q => by exfalso; omega)
              refine yR_m 1 (fun _ _ _ _ => rfl) ?_
              refine wR_gi rfl mO_e mO_6 hm rfl ?_
              refine yR_m 2 (fun _ _ _ _ => rfl) ?_
              refine wR_gi rfl mO_e mO_8 hm rfl ?_
              refine wR_if_ne rfl (a := (gi mem 221 8).toInt) rfl (fun q => by exfalso; omega) (fun _ => ?_)
              refine yR_m 1 (fun _ _ _ _ => rfl) ?_
              refine wR_cv rfl rfl mO_e hm rfl (h_aheadM hm (s1 q1 q2 q3 q4 q5 q6) (by omega)) ?_
              rintro _ m7 ⟨rfl, hI7, k8⟩
              show yR zpg tX12_number (d + 3) (74, [(3, .int (gi mem 221 6)), (0, .ref 221), (1, .int a), (2, .int b)], [], m7) _
              refine yR_m 1 (fun _ _ _ _ => rfl) ?_
              exact yR_ri rfl (h4 q1 q2 q3 q4 q5 q6 m7 hI7 k8 hI7)
      ·
        refine yR_m 3 (fun _ _ _ _ => rfl) ?_
        refine wR_gi rfl mO_e mO_4 hm rfl ?_
        refine wR_iv rfl rfl mO_e hm rfl rfl rfl rfl ?_
        show yR zpg tX12_blame (d + 2) (0, [(0, .ref 221), (1, .int 1), (2, .int (gi mem 221 4))], [], mem) _
        refine yR_m 1 (fun _ _ _ _ => rfl) ?_
        refine wR_gi rfl mO_e mO_8 hm rfl ?_
        refine wR_if_le rfl (a := (gi mem 221 8).toInt) rfl (fun _ => ?_) (fun q => by exfalso; omega)
        refine yR_m 2 (fun _ _ _ _ => rfl) ?_
        refine wR_pi rfl mO_e mO_8 hm rfl ?_
        have hm_5 : aTm aT0 (si mem 221 8 1) := tm_si mO_e mO_8 hm (i32_b _)
        refine yR_m 2 (fun _ _ _ _ => rfl) ?_
        refine wR_pi rfl mO_e mO_9 hm_5 rfl ?_
        have hm_6 : aTm aT0 (si (si mem 221 8 1) 221 9 (gi mem 221 4)) := tm_si mO_e mO_9 hm_5 (i32_b _)
        refine yR_rv rfl ?_
        show yR zpg tX12_number (d + 3) (30, [(0, .ref 221), (1, .int a), (2, .int b)], [], (si (si mem 221 8 1) 221 9 (gi mem 221 4))) _
        refine yR_m 1 (fun _ _ _ _ => rfl) ?_
        refine wR_gi rfl mO_e mO_8 hm_6 ((gi_sv_ne (by decide)).trans (gi_si_eq mO_e mO_8 hm)) ?_
        refine wR_if_ne rfl (a := 1) rfl (fun _ => ?_) (fun q => by exfalso; omega)
        refine yR_m 1 (fun _ _ _ _ => rfl) ?_
        refine wR_gi rfl mO_e mO_6 hm_6 ((gi_sv_ne (by decide)).trans (gi_sv_ne (by decide))) ?_
        refine yR_m 2 (fun _ _ _ _ => rfl) ?_
        refine wR_gi rfl mO_e mO_8 hm_6 ((gi_sv_ne (by decide)).trans (gi_si_eq mO_e mO_8 hm)) ?_
        refine wR_if_ne rfl (a := 1) rfl (fun _ => ?_) (fun q => by exfalso; omega)
        refine yR_m 1 (fun _ _ _ _ => rfl) ?_
        exact yR_ri rfl (h5 q1 q2 q3 hm_6)
    ·
      refine yR_m 1 (fun _ _ _ _ => rfl) ?_
      exact yR_ri rfl (h6 q1 q2 hm)
  ·
    refine yR_m 3 (fun _ _ _ _ => rfl) ?_
    refine wR_gi rfl mO_e mO_12 hm rfl ?_
    refine wR_iv rfl rfl mO_e hm rfl rfl rfl rfl ?_
    show yR zpg tX12_blame (d + 1) (0, [(0, .ref 221), (1, .int 1), (2, .int (gi mem 221 12))], [], mem) _
    refine yR_m 1 (fun _ _ _ _ => rfl) ?_
    refine wR_gi rfl mO_e mO_8 hm rfl ?_
    refine wR_if_le rfl (a := (gi mem 221 8).toInt) rfl (fun q9 => ?_) (fun q9 => ?_)
    ·
      refine yR_m 2 (fun _ _ _ _ => rfl) ?_
      refine wR_pi rfl mO_e mO_8 hm rfl ?_
      have hm_7 : aTm aT0 (si mem 221 8 1) := tm_si mO_e mO_8 hm (i32_b _)
      refine yR_m 2 (fun _ _ _ _ => rfl) ?_
      refine wR_pi rfl mO_e mO_9 hm_7 rfl ?_
      have hm_8 : aTm aT0 (si (si mem 221 8 1) 221 9 (gi mem 221 12)) := tm_si mO_e mO_9 hm_7 (i32_b _)
      refine yR_rv rfl ?_
      show yR zpg tX12_lex (d + 2) (17, [(0, .ref 221)], [], (si (si mem 221 8 1) 221 9 (gi mem 221 12))) _
      refine yR_rv rfl ?_
      show yR zpg tX12_number (d + 3) (4, [(0, .ref 221), (1, .int a), (2, .int b)], [], (si (si mem 221 8 1) 221 9 (gi mem 221 12))) _
      refine yR_m 1 (fun _ _ _ _ => rfl) ?_
      refine wR_gi rfl mO_e mO_8 hm_8 ((gi_sv_ne (by decide)).trans (gi_si_eq mO_e mO_8 hm)) ?_
      refine wR_if_le rfl (a := 1) rfl (fun q => by exfalso; omega) (fun _ => ?_)
      refine yR_m 1 (fun _ _ _ _ => rfl) ?_
      exact yR_ri rfl (h7 q1 q9 hm_8)
    ·
      refine yR_rv rfl ?_
      show yR zpg tX12_lex (d + 2) (17, [(0, .ref 221)], [], mem) _
      refine yR_rv rfl ?_
      show yR zpg tX12_number (d + 3) (4, [(0, .ref 221), (1, .int a), (2, .int b)], [], mem) _
      refine yR_m 1 (fun _ _ _ _ => rfl) ?_
      refine wR_gi rfl mO_e mO_8 hm rfl ?_
      refine wR_if_le rfl (a := (gi mem 221 8).toInt) rfl (fun q => by exfalso; omega) (fun _ => ?_)
      refine yR_m 1 (fun _ _ _ _ => rfl) ?_
      exact yR_ri rfl (h8 q1 q9 hm)

theorem h_numF {a b : Int32} (hm : aTm aT0 mem) (h8 : 0 ≤ (gi mem 221 8).toInt) (hR : (gi mem 221 8).toInt = 0 → mR T n p t e mem) (hd : 4 ≤ d) : yC zpg d 180 [.ref 221, .int a, .int b] mem (fun r m => stO T n e (t.1 = 2 ∧ a.toInt ≤ t.2.1 ∧ t.2.1 ≤ b.toInt) mem m ∧ (fk m = 0 → ∃ v : Int32, r = some (.int v) ∧ v.toInt = t.2.1)) := by
  obtain ⟨d, rfl⟩ : ∃ q, d = q + 4 := ⟨d - 4, by omega⟩
  refine yC_of (t := tX12_number) rfl rfl ?_
  exact w_numF (T := T) (n := n) (p := p) (e := e) (t := t) hm
        (fun q1 q2 q3 q4 hm2 => ⟨Or.inr ⟨Or.inl (by show 1 ≤ (gi mem 221 8).toInt; omega), by show 1 ≤ (gi mem 221 8).toInt; omega⟩, fun w => by exfalso; have w2 : (gi mem 221 8).toInt = 0 := w; omega⟩)
        (fun q1 q2 q3 q4 q5 hm2 => by
          have Z := hR (by omega)
          have I := mnu_iff Z.2.2.2 q1
          exact ⟨Or.inr ⟨Or.inr (fun w => by have w1 := I.1.2 w.1; have w2 := I.2 w1; have w3 := w.2; omega), by show 1 ≤ (gi _ 221 8).toInt; rw [((gi_sv_ne (by decide)).trans (gi_eqO (isO_of hm) (by decide)))]; decide⟩, fun w => by exfalso; have w2 : (gi (si (si mem 221 8 4) 221 9 (gi mem 221 4)) 221 8).toInt = 0 := w; rw [((gi_sv_ne (by decide)).trans (gi_eqO (isO_of hm) (by decide)))] at w2; exact absurd w2 (by decide)⟩)
        (fun q1 q2 q3 q4 q5 q6 hm2 => by
          have Z := hR (by omega)
          have I := mnu_iff Z.2.2.2 q1
          exact ⟨Or.inr ⟨Or.inr (fun w => by have w1 := I.1.2 w.1; have w2 := I.2 w1; have w3 := w.2; omega), by show 1 ≤ (gi _ 221 8).toInt; rw [((gi_sv_ne (by decide)).trans (gi_eqO (isO_of hm) (by decide)))]; decide⟩, fun w => by exfalso; have w2 : (gi (si (si mem 221 8 4) 221 9 (gi mem 221 4)) 221 8).toInt = 0 := w; rw [((gi_sv_ne (by decide)).trans (gi_eqO (isO_of hm) (by decide)))] at w2; exact absurd w2 (by decide)⟩)
        (fun q1 q2 q3 q4 q5 q6 => hR (by omega))
        (fun q1 q2 q3 q4 q5 q6 m7 hI7 k8 hm2 => by
          have Z := hR (by omega)
          have I := mnu_iff Z.2.2.2 q1
          exact ⟨Or.inl ⟨⟨by show (gi mem 221 8).toInt = 0; omega, ⟨I.1.1 (by omega), by have := I.2 (by omega); omega, by have := I.2 (by omega); omega⟩⟩, by show (gi _ 221 8).toInt = 0; rw [fr_gi k8.1.1 rfl]; omega, k8.2⟩, fun _ => ⟨_, rfl, I.2 (by omega)⟩⟩)
        (fun q1 q2 q3 hm2 => by
          have Z := hR (by omega)
          have I := mnu_iff Z.2.2.2 q1
          exact ⟨Or.inr ⟨Or.inr (fun w => by have w1 := I.1.2 w.1; have w2 := I.2 w1; have w3 := w.2; omega), by show 1 ≤ (gi _ 221 8).toInt; rw [((gi_sv_ne (by decide)).trans (gi_eqO (isO_of hm) (by decide)))]; decide⟩, fun w => by exfalso; have w2 : (gi (si (si mem 221 8 1) 221 9 (gi mem 221 4)) 221 8).toInt = 0 := w; rw [((gi_sv_ne (by decide)).trans (gi_eqO (isO_of hm) (by decide)))] at w2; exact absurd w2 (by decide)⟩)
        (fun q1 q2 hm2 => ⟨Or.inr ⟨Or.inl (by show 1 ≤ (gi mem 221 8).toInt; omega), by show 1 ≤ (gi mem 221 8).toInt; omega⟩, fun w => by exfalso; have w2 : (gi mem 221 8).toInt = 0 := w; omega⟩)
        (fun q1 q9 hm2 => by
          have Z := hR (by omega)
          have X := mx_iff Z.2.2.2
          exact ⟨Or.inr ⟨Or.inr (fun w => q1 (X.2 (by have w1 := w.1; omega))), by show 1 ≤ (gi _ 221 8).toInt; rw [((gi_sv_ne (by decide)).trans (gi_eqO (isO_of hm) (by decide)))]; decide⟩, fun w => by exfalso; have w2 : (gi (si (si mem 221 8 1) 221 9 (gi mem 221 12)) 221 8).toInt = 0 := w; rw [((gi_sv_ne (by decide)).trans (gi_eqO (isO_of hm) (by decide)))] at w2; exact absurd w2 (by decide)⟩)
        (fun q1 q9 hm2 => ⟨Or.inr ⟨Or.inl (by show 1 ≤ (gi mem 221 8).toInt; omega), by show 1 ≤ (gi mem 221 8).toInt; omega⟩, fun w => by exfalso; have w2 : (gi mem 221 8).toInt = 0 := w; omega⟩)
end MF
