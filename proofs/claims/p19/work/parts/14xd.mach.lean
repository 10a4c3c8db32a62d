/-! sums (pure): a machine of frames -/
section SU
variable (T : List Int32) (n wh : Int)
/-- kind, phase, begins, nots held back -/
abbrev Fr : Type := Int × Int × Int × Int
def sIT (k : Int) : Prop := k = 1 ∨ k = 5 ∨ k = 6
def nts : List Fr → Int
  | [] => 0
  | f :: r => f.2.2.2 + nts r
def opn (l : List Fr) : Int := (l.length : Int) - 1 + nts l
noncomputable def sIS (c p : Int) : Prop := (tkf T n p).1.1 = 3 ∧ (tkf T n p).1.2.1 = c
noncomputable def sIO (w p : Int) : Prop := (tkf T n p).1.1 = 1 ∧ (tkf T n p).1.2.2 = ownW.getD w.toNat []
/-- one that stands for itself -/
def sIV (p : Int) : Prop := (tkf T n p).1.1 = 2 ∨ sIO T n 15 p ∨ sIO T n 7 p ∨ sIO T n 8 p ∨ sIO T n 16 p ∨ (sIO T n 17 p ∧ ¬ wh = 1) ∨ (sIO T n 18 p ∧ wh = 1)
def sIM (p : Int) : Prop := sIS T n 42 p ∨ sIS T n 47 p ∨ sIS T n 37 p
def sIA (p : Int) : Prop := sIS T n 43 p ∨ sIS T n 45 p
def sIC (p : Int) : Prop := sIS T n 60 p ∨ sIS T n 62 p ∨ sIS T n 61 p
noncomputable def pif {α : Type} (c : Prop) (x y : Option α) : Option α := @ite _ c (Classical.propDecidable _) x y
noncomputable def sOpd : List Fr → Int → Option ((List Fr × Int) × Int)
  | [], _ => none
  | f :: r, p =>
    pif ((sIT f.1 ∧ ¬ f.2.2.1 = 0) ∧ sIO T n 22 p) (oif (opn (f :: r) < 7) (some (((f.1, f.2.1, f.2.2.1, f.2.2.2 + 1) :: r, 0), (tkf T n p).2)))
    (pif ((sIT f.1 ∧ ¬ f.2.2.1 = 0) ∧ sIS T n 91 p) (oif (opn (f :: r) < 7) (some (((5, 0, 1, 0) :: (f.1, f.2.1, 0, f.2.2.2) :: r, 0), (tkf T n p).2)))
    (pif ((sIT f.1 ∧ ¬ f.2.2.1 = 0) ∧ sIO T n 23 p) (some (((f.1, 2, 0, f.2.2.2) :: r, 1), (tkf T n p).2))
    (pif (sIS T n 40 p) (oif (opn (f :: r) < 7) (some (((2, 0, 1, 0) :: (f.1, f.2.1, 0, f.2.2.2) :: r, 0), (tkf T n p).2)))
    (pif (sIO T n 24 p ∨ sIO T n 25 p) ((sSgn T n 40 (tkf T n p).2).bind fun e => oif (opn (f :: r) < 7) (some (((3, 0, 1, 0) :: (f.1, f.2.1, 0, f.2.2.2) :: r, 0), e)))
    (pif (sIO T n 19 p) ((sSgn T n 40 (tkf T n p).2).bind fun e => oif (opn (f :: r) < 7) (some (((6, 0, 1, 0) :: (f.1, f.2.1, 0, f.2.2.2) :: r, 0), e)))
    (oif (sIV T n wh p) (some (((f.1, f.2.1, 0, f.2.2.2) :: r, 1), (tkf T n p).2))))))))
def ph2 : List Fr → List Fr
  | [] => []
  | f :: r => (f.1, 2, f.2.2.1, f.2.2.2) :: r
noncomputable def sGon : List Fr → Int → Option (Option ((List Fr × Int) × Int))
  | [], _ => none
  | f :: r, p =>
    pif ((tkf T n p).1.1 = 4) none
    (pif (f.2.1 < 2 ∧ (sIA T n p ∨ sIM T n p)) (some (some ((f :: r, 0), (tkf T n p).2)))
    (pif ((sIT f.1 ∧ f.2.1 = 0) ∧ sIC T n p) (some (some (((f.1, 1, f.2.2.1, f.2.2.2) :: r, 0), (tkf T n p).2)))
    (pif (sIT f.1 ∧ (sIO T n 21 p ∨ sIO T n 20 p)) (oif (¬ f.2.1 = 0) (some (some (((f.1, 0, 1, 0) :: r, 0), (tkf T n p).2))))
    (pif (sIT f.1 ∧ f.2.1 = 0) none
    (pif (f.1 < 2) (some none)
    (pif (f.1 = 3 ∨ f.1 = 6) (oif (sIS T n 44 p) (some (some (((f.1 * 2 - 2 - (f.1 - 3) / 3 * 7, 0, f.2.2.1, 0) :: r, 0), (tkf T n p).2))))
    (pif (f.1 = 5) (oif (sIS T n 93 p) (some (some ((ph2 r, 1), (tkf T n p).2))))
    (oif (sIS T n 41 p) (some (some ((r, 1), (tkf T n p).2)))))))))))
noncomputable def mrn : Nat → List Fr → Int → Int → Option Int
  | 0, _, _, _ => none
  | f + 1, l, h, p => pif (h = 0) ((sOpd T n wh l p).bind fun x => mrn f x.1.1 x.1.2 x.2) ((sGon T n l p).bind fun y => match y with
    | none => some p
    | some x => mrn f x.1.1 x.1.2 x.2)
noncomputable def Mch (l : List Fr) (h p : Int) : Option Int := mrn T n wh ((n - p).toNat + 1) l h p
end SU
section SV
variable {T : List Int32} {n wh : Int} {α : Type}
theorem pif_t {c : Prop} {x y : Option α} (h : c) : pif c x y = x := if_pos h
theorem pif_f {c : Prop} {x y : Option α} (h : ¬ c) : pif c x y = y := if_neg h
theorem pif_s {c : Prop} {x y : Option α} {a : α} (h : pif c x y = some a) : (c ∧ x = some a) ∨ (¬ c ∧ y = some a) := by
  by_cases w : c
  · rw [pif_t w] at h
    exact Or.inl ⟨w, h⟩
  · rw [pif_f w] at h
    exact Or.inr ⟨w, h⟩
theorem oif_s {c : Prop} {x : Option α} {a : α} (h : oif c x = some a) : c ∧ x = some a := by
  by_cases w : c
  · rw [oif_t w] at h
    exact ⟨w, h⟩
  · rw [oif_f w] at h
    cases h
theorem tk_ok {p : Int} (h0 : 0 ≤ p) (h1 : p ≤ n) : Tok T n p (tkf T n p).1 (tkf T n p).2 ∧ p ≤ (tkf T n p).2 ∧ (tkf T n p).2 ≤ n ∧ (¬ (tkf T n p).1.1 = 0 → p < (tkf T n p).2) := by
  obtain ⟨t, e, h⟩ := Tok_ex (T := T) h1
  have L := Tok_last h h0
  rw [tkf_e h]
  refine ⟨h, L.2.2.2.1, L.2.2.2.2, fun w => ?_⟩
  have w1 : ¬ t.1 = 0 := w
  show p < e
  obtain ⟨b, S, h⟩ := h
  have s1 := S.1
  rcases h with ⟨-, rfl, -⟩ | ⟨h1, -, -, -, h5⟩ | ⟨h1, l, q, ⟨r1, r2, r3, r4⟩, h3, -⟩ | ⟨h1, l, q, ⟨r1, r2, r3, r4⟩, h3, -⟩
  · exact absurd rfl w1
  · omega
  · rcases Int.lt_or_le b q with z | z
    · omega
    · exfalso
      have e1 : q = b := by omega
      exact r4 (by omega) (by rw [e1]; exact l)
  · rcases Int.lt_or_le b q with z | z
    · omega
    · exfalso
      have e1 : q = b := by omega
      exact r4 (by omega) (by rw [e1]; exact l)
theorem pos_S {c p e : Int} (h0 : 0 ≤ p) (h1 : p ≤ n) (h : sSgn T n c p = some e) : p < e ∧ e ≤ n := by
  have k := tk_ok (T := T) h0 h1
  obtain ⟨h2, h3⟩ := oif_s h
  cases h3
  exact ⟨k.2.2.2 (by rw [h2.1]; decide), k.2.2.1⟩
theorem sOpd_pos {l : List Fr} {p : Int} {x : (List Fr × Int) × Int} (h0 : 0 ≤ p) (h1 : p ≤ n) (h : sOpd T n wh l p = some x) : (p < x.2 ∧ x.2 ≤ n) ∧ (x.1.2 = 0 ∨ x.1.2 = 1) := by
  have k := tk_ok (T := T) h0 h1
  have kS : ∀ {c}, sIS T n c p → p < (tkf T n p).2 ∧ (tkf T n p).2 ≤ n := fun w => ⟨k.2.2.2 (by rw [w.1]; decide), k.2.2.1⟩
  have kO : ∀ {c}, sIO T n c p → p < (tkf T n p).2 ∧ (tkf T n p).2 ≤ n := fun w => ⟨k.2.2.2 (by rw [w.1]; decide), k.2.2.1⟩
  cases l with
  | nil => cases h
  | cons f r =>
    unfold sOpd at h
    rcases pif_s h with ⟨c, h⟩ | ⟨-, h⟩
    · obtain ⟨-, h⟩ := oif_s h
      cases h
      exact ⟨kO c.2, Or.inl rfl⟩
    rcases pif_s h with ⟨c, h⟩ | ⟨-, h⟩
    · obtain ⟨-, h⟩ := oif_s h
      cases h
      exact ⟨kS c.2, Or.inl rfl⟩
    rcases pif_s h with ⟨c, h⟩ | ⟨-, h⟩
    · cases h
      exact ⟨kO c.2, Or.inr rfl⟩
    rcases pif_s h with ⟨c, h⟩ | ⟨-, h⟩
    · obtain ⟨-, h⟩ := oif_s h
      cases h
      exact ⟨kS c, Or.inl rfl⟩
    rcases pif_s h with ⟨c, h⟩ | ⟨-, h⟩
    · obtain ⟨e, he, h⟩ := ob_s h
      obtain ⟨-, h⟩ := oif_s h
      have j : p < (tkf T n p).2 ∧ (tkf T n p).2 ≤ n := by
        rcases c with c | c
        · exact kO c
        · exact kO c
      have j2 := pos_S (by omega) j.2 he
      cases h
      exact ⟨⟨Int.lt_trans j.1 j2.1, j2.2⟩, Or.inl rfl⟩
    rcases pif_s h with ⟨c, h⟩ | ⟨-, h⟩
    · obtain ⟨e, he, h⟩ := ob_s h
      obtain ⟨-, h⟩ := oif_s h
      have j := kO c
      have j2 := pos_S (by omega) j.2 he
      cases h
      exact ⟨⟨Int.lt_trans j.1 j2.1, j2.2⟩, Or.inl rfl⟩
    obtain ⟨c, h⟩ := oif_s h
    cases h
    refine ⟨?_, Or.inr rfl⟩
    rcases c with c | c | c | c | c | c | c
    · exact ⟨k.2.2.2 (by rw [c]; decide), k.2.2.1⟩
    · exact kO c
    · exact kO c
    · exact kO c
    · exact kO c
    · exact kO c.1
    · exact kO c.1
theorem sGon_pos {l : List Fr} {p : Int} {x : (List Fr × Int) × Int} (h0 : 0 ≤ p) (h1 : p ≤ n) (h : sGon T n l p = some (some x)) : (p < x.2 ∧ x.2 ≤ n) ∧ (x.1.2 = 0 ∨ x.1.2 = 1) := by
  have k := tk_ok (T := T) h0 h1
  have kS : ∀ {c}, sIS T n c p → p < (tkf T n p).2 ∧ (tkf T n p).2 ≤ n := fun w => ⟨k.2.2.2 (by rw [w.1]; decide), k.2.2.1⟩
  have kO : ∀ {c}, sIO T n c p → p < (tkf T n p).2 ∧ (tkf T n p).2 ≤ n := fun w => ⟨k.2.2.2 (by rw [w.1]; decide), k.2.2.1⟩
  cases l with
  | nil => cases h
  | cons f r =>
    unfold sGon at h
    rcases pif_s h with ⟨c, h⟩ | ⟨-, h⟩
    · cases h
    rcases pif_s h with ⟨c, h⟩ | ⟨-, h⟩
    · cases h
      refine ⟨?_, Or.inl rfl⟩
      rcases c.2 with (c | c) | c | c | c
      · exact kS c
      · exact kS c
      · exact kS c
      · exact kS c
      · exact kS c
    rcases pif_s h with ⟨c, h⟩ | ⟨-, h⟩
    · cases h
      refine ⟨?_, Or.inl rfl⟩
      rcases c.2 with c | c | c
      · exact kS c
      · exact kS c
      · exact kS c
    rcases pif_s h with ⟨c, h⟩ | ⟨-, h⟩
    · obtain ⟨-, h⟩ := oif_s h
      cases h
      refine ⟨?_, Or.inl rfl⟩
      rcases c.2 with c | c
      · exact kO c
      · exact kO c
    rcases pif_s h with ⟨c, h⟩ | ⟨-, h⟩
    · cases h
    rcases pif_s h with ⟨c, h⟩ | ⟨-, h⟩
    · cases h
    rcases pif_s h with ⟨c, h⟩ | ⟨-, h⟩
    · obtain ⟨c, h⟩ := oif_s h
      cases h
      exact ⟨kS c, Or.inl rfl⟩
    rcases pif_s h with ⟨c, h⟩ | ⟨-, h⟩
    · obtain ⟨c, h⟩ := oif_s h
      cases h
      exact ⟨kS c, Or.inr rfl⟩
    obtain ⟨c, h⟩ := oif_s h
    cases h
    exact ⟨kS c, Or.inr rfl⟩
theorem mrn_st : ∀ (f : Nat) (l : List Fr) (h p : Int), 0 ≤ p → p ≤ n → n - p < (f : Int) → mrn T n wh f l h p = Mch T n wh l h p := by
  intro f
  induction f using Nat.strongRecOn with
  | ind f ih =>
    intro l h p h0 h1 hf
    have main : ∀ g : Nat, n - p ≤ (g : Int) → g < f ∨ g = (n - p).toNat → (∀ x : (List Fr × Int) × Int, p < x.2 ∧ x.2 ≤ n → mrn T n wh g x.1.1 x.1.2 x.2 = mrn T n wh (n - p).toNat x.1.1 x.1.2 x.2) → mrn T n wh (g + 1) l h p = mrn T n wh ((n - p).toNat + 1) l h p := by
      intro g _ _ hx
      show pif _ _ _ = pif _ _ _
      by_cases w : h = 0
      · rw [pif_t w, pif_t w]
        cases e : sOpd T n wh l p with
        | none => rfl
        | some x => exact hx x (sOpd_pos h0 h1 e).1
      · rw [pif_f w, pif_f w]
        cases e : sGon T n l p with
        | none => rfl
        | some y =>
          cases y with
          | none => rfl
          | some x => exact hx x (sGon_pos h0 h1 e).1
    obtain ⟨g, rfl⟩ : ∃ g, f = g + 1 := ⟨f - 1, by omega⟩
    refine main g (by omega) (Or.inl (by omega)) (fun x hx => ?_)
    rw [ih g (by omega) _ _ _ (by omega) hx.2 (by omega)]
    by_cases w : (n - p).toNat < g + 1
    · rw [ih _ w _ _ _ (by omega) hx.2 (by omega)]
    · exfalso
      omega
theorem Mch_0 {l : List Fr} {p : Int} (h0 : 0 ≤ p) (h1 : p ≤ n) : Mch T n wh l 0 p = (sOpd T n wh l p).bind fun x => Mch T n wh x.1.1 x.1.2 x.2 := by
  show pif _ _ _ = _
  rw [pif_t rfl]
  cases e : sOpd T n wh l p with
  | none => rfl
  | some x =>
    have k := (sOpd_pos h0 h1 e).1
    exact mrn_st _ _ _ _ (by omega) k.2 (by omega)
theorem Mch_1 {l : List Fr} {p : Int} (h0 : 0 ≤ p) (h1 : p ≤ n) : Mch T n wh l 1 p = (sGon T n l p).bind fun y => match y with
    | none => some p
    | some x => Mch T n wh x.1.1 x.1.2 x.2 := by
  show pif _ _ _ = _
  rw [pif_f (by decide)]
  cases e : sGon T n l p with
  | none => rfl
  | some y =>
    cases y with
    | none => rfl
    | some x =>
      have k := (sGon_pos h0 h1 e).1
      exact mrn_st _ _ _ _ (by omega) k.2 (by omega)
end SV
