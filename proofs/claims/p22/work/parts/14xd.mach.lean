/-! sums (pure): a machine of frames, with the code that it prints -/
section SU
variable (T : List Int32) (n wh : Int)
/-- kind, phase, begins, what is held back (the newest first; lowest what a pair's bracket is for) -/
abbrev Fr : Type := Int × Int × Int × List Int
def sIT (k : Int) : Prop := k = 1 ∨ k = 5 ∨ k = 6
def nnC : List Int → Int
  | [] => 0
  | q :: t => (if q = 22 then 1 else 0) + nnC t
def nts : List Fr → Int
  | [] => 0
  | f :: r => nnC f.2.2.2 + nts r
/-- rank of what is held back -/
def rkC (o : Int) : Int := if o = 20 then 1 else if o = 21 then 2 else if o = 22 then 3 else if o = 60 ∨ o = 62 ∨ o = 61 then 4 else if o = 43 ∨ o = 45 then 5 else if o = 42 ∨ o = 47 ∨ o = 37 then 6 else 0
/-- what of it is printed at a level, what is left -/
def jnE (L : Int) : List Int → List Int
  | [] => []
  | q :: t => if L ≤ rkC q then (10000 + q) :: jnE L t else []
def jnR (L : Int) : List Int → List Int
  | [] => []
  | q :: t => if L ≤ rkC q then jnR L t else q :: t
def opE (l : List Int) : List Int := l.map fun q => 10000 + q
def opn (l : List Fr) : Int := (l.length : Int) - 1 + nts l
noncomputable def sIS (c p : Int) : Prop := (tkf T n p).1.1 = 3 ∧ (tkf T n p).1.2.1 = c
noncomputable def sIO (w p : Int) : Prop := (tkf T n p).1.1 = 1 ∧ (tkf T n p).1.2.2 = ownW.getD w.toNat []
/-- one that stands for itself -/
def sIV (p : Int) : Prop := (tkf T n p).1.1 = 2 ∨ sIO T n 15 p ∨ sIO T n 7 p ∨ sIO T n 8 p ∨ sIO T n 16 p ∨ (sIO T n 17 p ∧ ¬ wh = 1) ∨ (sIO T n 18 p ∧ wh = 1)
def sIM (p : Int) : Prop := sIS T n 42 p ∨ sIS T n 47 p ∨ sIS T n 37 p
def sIA (p : Int) : Prop := sIS T n 43 p ∨ sIS T n 45 p
def sIC (p : Int) : Prop := sIS T n 60 p ∨ sIS T n 62 p ∨ sIS T n 61 p
/-- which own word stands there; the item of one that stands for itself -/
noncomputable def wIx (p : Int) : Int := ((ownW.idxOf (tkf T n p).1.2.2 : Nat) : Int)
noncomputable def vIt (p : Int) : Int := if (tkf T n p).1.1 = 2 then (tkf T n p).1.2.1 else 10000 + wIx T n p
noncomputable def pif {α : Type} (c : Prop) (x y : Option α) : Option α := @ite _ c (Classical.propDecidable _) x y
noncomputable def sOpd : List Fr → Int → Option (List Int × ((List Fr × Int) × Int))
  | [], _ => none
  | f :: r, p =>
    pif ((sIT f.1 ∧ ¬ f.2.2.1 = 0) ∧ sIO T n 22 p) (oif (opn (f :: r) < 7) (some ([], (((f.1, f.2.1, f.2.2.1, 22 :: f.2.2.2) :: r, 0), (tkf T n p).2))))
    (pif ((sIT f.1 ∧ ¬ f.2.2.1 = 0) ∧ sIS T n 91 p) (oif (opn (f :: r) < 7) (some ([], (((5, 0, 1, []) :: (f.1, f.2.1, 0, f.2.2.2) :: r, 0), (tkf T n p).2))))
    (pif ((sIT f.1 ∧ ¬ f.2.2.1 = 0) ∧ sIO T n 23 p) (some ([10023], (((f.1, 2, 0, f.2.2.2) :: r, 1), (tkf T n p).2)))
    (pif (sIS T n 40 p) (oif (opn (f :: r) < 7) (some ([], (((2, 0, 1, []) :: (f.1, f.2.1, 0, f.2.2.2) :: r, 0), (tkf T n p).2))))
    (pif (sIO T n 24 p ∨ sIO T n 25 p) ((sSgn T n 40 (tkf T n p).2).bind fun e => oif (opn (f :: r) < 7) (some ([], (((3, 0, 1, [wIx T n p]) :: (f.1, f.2.1, 0, f.2.2.2) :: r, 0), e))))
    (pif (sIO T n 19 p) ((sSgn T n 40 (tkf T n p).2).bind fun e => oif (opn (f :: r) < 7) (some ([], (((6, 0, 1, [wIx T n p]) :: (f.1, f.2.1, 0, f.2.2.2) :: r, 0), e))))
    (oif (sIV T n wh p) (some ([vIt T n p], (((f.1, f.2.1, 0, f.2.2.2) :: r, 1), (tkf T n p).2)))))))))
def ph2 : List Fr → List Fr
  | [] => []
  | f :: r => (f.1, 2, f.2.2.1, f.2.2.2) :: r
noncomputable def sGon : List Fr → Int → Option (List Int × Option ((List Fr × Int) × Int))
  | [], _ => none
  | f :: r, p =>
    pif ((tkf T n p).1.1 = 4) none
    (pif (f.2.1 < 2 ∧ (sIA T n p ∨ sIM T n p)) (some (jnE (rkC (tkf T n p).1.2.1) f.2.2.2, some (((f.1, f.2.1, f.2.2.1, (tkf T n p).1.2.1 :: jnR (rkC (tkf T n p).1.2.1) f.2.2.2) :: r, 0), (tkf T n p).2)))
    (pif ((sIT f.1 ∧ f.2.1 = 0) ∧ sIC T n p) (some (jnE 5 f.2.2.2, some (((f.1, 1, f.2.2.1, (tkf T n p).1.2.1 :: jnR 5 f.2.2.2) :: r, 0), (tkf T n p).2)))
    (pif (sIT f.1 ∧ (sIO T n 21 p ∨ sIO T n 20 p)) (oif (¬ f.2.1 = 0) (some (jnE (rkC (wIx T n p)) f.2.2.2, some (((f.1, 0, 1, wIx T n p :: jnR (rkC (wIx T n p)) f.2.2.2) :: r, 0), (tkf T n p).2))))
    (pif (sIT f.1 ∧ f.2.1 = 0) none
    (pif (f.1 < 2) (some (jnE 1 f.2.2.2, none))
    (pif (f.1 = 3 ∨ f.1 = 6) (oif (sIS T n 44 p) (some (jnE 1 f.2.2.2, some (((f.1 * 2 - 2 - (f.1 - 3) / 3 * 7, 0, f.2.2.1, jnR 1 f.2.2.2) :: r, 0), (tkf T n p).2))))
    (pif (f.1 = 5) (oif (sIS T n 93 p) (some (jnE 1 f.2.2.2, some ((ph2 r, 1), (tkf T n p).2))))
    (oif (sIS T n 41 p) (some (jnE 1 f.2.2.2 ++ opE (jnR 1 f.2.2.2), some ((r, 1), (tkf T n p).2)))))))))))
noncomputable def mrn : Nat → List Int → List Fr → Int → Int → Option (Int × List Int)
  | 0, _, _, _, _ => none
  | f + 1, w, l, h, p => pif (h = 0) ((sOpd T n wh l p).bind fun x => mrn f (w ++ x.1) x.2.1.1 x.2.1.2 x.2.2) ((sGon T n l p).bind fun y => match y.2 with
    | none => some (p, w ++ y.1)
    | some x => mrn f (w ++ y.1) x.1.1 x.1.2 x.2)
/-- where the sum ends, and what has been printed then (w: before) -/
noncomputable def Mch (w : List Int) (l : List Fr) (h p : Int) : Option (Int × List Int) := mrn T n wh ((n - p).toNat + 1) w l h p
end SU
section SV
variable {T : List Int32} {n wh : Int} {α : Type}
theorem pif_t {c : Prop} {x y : Option α} (h : c) : pif c x y = x := if_pos h
theorem pif_f {c : Prop} {x y : Option α} (h : ¬ c) : pif c x y = y := if_neg h
theorem pif_s {c : Prop} {x y : Option α} {a : α} (h : pif c x y = some a) : (c ∧ x = some a) ∨ (¬ c ∧ y = some a) := by
  by_cases w : c
  · rw [pif_t w] at h
    exact Or.inl ⟨w, h⟩
  · rw [pif_f w] at h
    exact Or.inr ⟨w, h⟩
theorem tk_ok {p : Int} (h0 : 0 ≤ p) (h1 : p ≤ n) : Tok T n p (tkf T n p).1 (tkf T n p).2 ∧ p ≤ (tkf T n p).2 ∧ (tkf T n p).2 ≤ n ∧ (¬ (tkf T n p).1.1 = 0 → p < (tkf T n p).2) := by
  obtain ⟨t, e, h⟩ := Tok_ex (T := T) h1
  have L := Tok_last h h0
  rw [tkf_e h]
  refine ⟨h, L.2.2.2.1, L.2.2.2.2, fun w => ?_⟩
  have w1 : ¬ t.1 = 0 := w
  show p < e
  obtain ⟨b, S, h⟩ := h
  have s1 := S.1
  rcases h with ⟨-, rfl, -⟩ | ⟨h1, -, -, -, h5⟩ | ⟨h1, l, q, ⟨r1, r2, r3, r4⟩, h3, -⟩ | ⟨h1, l, q, ⟨r1, r2, r3, r4⟩, h3, -⟩
  · exact absurd rfl w1
  · omega
  · rcases Int.lt_or_le b q with z | z
    · omega
    · exfalso
      have e1 : q = b := by omega
      exact r4 (by omega) (by rw [e1]; exact l)
  · rcases Int.lt_or_le b q with z | z
    · omega
    · exfalso
      have e1 : q = b := by omega
      exact r4 (by omega) (by rw [e1]; exact l)
theorem pos_S {c p e : Int} (h0 : 0 ≤ p) (h1 : p ≤ n) (h : sSgn T n c p = some e) : p < e ∧ e ≤ n := by
  have k := tk_ok (T := T) h0 h1
  obtain ⟨h2, h3⟩ := oif_s h
  cases h3
  exact ⟨k.2.2.2 (by rw [h2.1]; decide), k.2.2.1⟩
theorem sOpd_pos {l : List Fr} {p : Int} {x : List Int × ((List Fr × Int) × Int)} (h0 : 0 ≤ p) (h1 : p ≤ n) (h : sOpd T n wh l p = some x) : (p < x.2.2 ∧ x.2.2 ≤ n) ∧ (x.2.1.2 = 0 ∨ x.2.1.2 = 1) := by
  have k := tk_ok (T := T) h0 h1
  have kS : ∀ {c}, sIS T n c p → p < (tkf T n p).2 ∧ (tkf T n p).2 ≤ n := fun w => ⟨k.2.2.2 (by rw [w.1]; decide), k.2.2.1⟩
  have kO : ∀ {c}, sIO T n c p → p < (tkf T n p).2 ∧ (tkf T n p).2 ≤ n := fun w => ⟨k.2.2.2 (by rw [w.1]; decide), k.2.2.1⟩
  cases l with
  | nil => cases h
  | cons f r =>
    unfold sOpd at h
    rcases pif_s h with ⟨c, h⟩ | ⟨-, h⟩
    · obtain ⟨-, h⟩ := oif_s h
      cases h
      exact ⟨kO c.2, Or.inl rfl⟩
    rcases pif_s h with ⟨c, h⟩ | ⟨-, h⟩
    · obtain ⟨-, h⟩ := oif_s h
      cases h
      exact ⟨kS c.2, Or.inl rfl⟩
    rcases pif_s h with ⟨c, h⟩ | ⟨-, h⟩
    · cases h
      exact ⟨kO c.2, Or.inr rfl⟩
    rcases pif_s h with ⟨c, h⟩ | ⟨-, h⟩
    · obtain ⟨-, h⟩ := oif_s h
      cases h
      exact ⟨kS c, Or.inl rfl⟩
    rcases pif_s h with ⟨c, h⟩ | ⟨-, h⟩
    · obtain ⟨e, he, h⟩ := ob_s h
      obtain ⟨-, h⟩ := oif_s h
      have j : p < (tkf T n p).2 ∧ (tkf T n p).2 ≤ n := by
        rcases c with c | c
        · exact kO c
        · exact kO c
      have j2 := pos_S (by omega) j.2 he
      cases h
      exact ⟨⟨Int.lt_trans j.1 j2.1, j2.2⟩, Or.inl rfl⟩
    rcases pif_s h with ⟨c, h⟩ | ⟨-, h⟩
    · obtain ⟨e, he, h⟩ := ob_s h
      obtain ⟨-, h⟩ := oif_s h
      have j := kO c
      have j2 := pos_S (by omega) j.2 he
      cases h
      exact ⟨⟨Int.lt_trans j.1 j2.1, j2.2⟩, Or.inl rfl⟩
    obtain ⟨c, h⟩ := oif_s h
    cases h
    refine ⟨?_, Or.inr rfl⟩
    rcases c with c | c | c | c | c | c | c
    · exact ⟨k.2.2.2 (by rw [c]; decide), k.2.2.1⟩
    · exact kO c
    · exact kO c
    · exact kO c
    · exact kO c
    · exact kO c.1
    · exact kO c.1
theorem sGon_pos {l : List Fr} {p : Int} {cc : List Int} {x : (List Fr × Int) × Int} (h0 : 0 ≤ p) (h1 : p ≤ n) (h : sGon T n l p = some (cc, some x)) : (p < x.2 ∧ x.2 ≤ n) ∧ (x.1.2 = 0 ∨ x.1.2 = 1) := by
  have k := tk_ok (T := T) h0 h1
  have kS : ∀ {c}, sIS T n c p → p < (tkf T n p).2 ∧ (tkf T n p).2 ≤ n := fun w => ⟨k.2.2.2 (by rw [w.1]; decide), k.2.2.1⟩
  have kO : ∀ {c}, sIO T n c p → p < (tkf T n p).2 ∧ (tkf T n p).2 ≤ n := fun w => ⟨k.2.2.2 (by rw [w.1]; decide), k.2.2.1⟩
  cases l with
  | nil => cases h
  | cons f r =>
    unfold sGon at h
    rcases pif_s h with ⟨c, h⟩ | ⟨-, h⟩
    · cases h
    rcases pif_s h with ⟨c, h⟩ | ⟨-, h⟩
    · cases h
      refine ⟨?_, Or.inl rfl⟩
      rcases c.2 with (c | c) | c | c | c
      · exact kS c
      · exact kS c
      · exact kS c
      · exact kS c
      · exact kS c
    rcases pif_s h with ⟨c, h⟩ | ⟨-, h⟩
    · cases h
      refine ⟨?_, Or.inl rfl⟩
      rcases c.2 with c | c | c
      · exact kS c
      · exact kS c
      · exact kS c
    rcases pif_s h with ⟨c, h⟩ | ⟨-, h⟩
    · obtain ⟨-, h⟩ := oif_s h
      cases h
      refine ⟨?_, Or.inl rfl⟩
      rcases c.2 with c | c
      · exact kO c
      · exact kO c
    rcases pif_s h with ⟨c, h⟩ | ⟨-, h⟩
    · cases h
    rcases pif_s h with ⟨c, h⟩ | ⟨-, h⟩
    · cases h
    rcases pif_s h with ⟨c, h⟩ | ⟨-, h⟩
    · obtain ⟨c, h⟩ := oif_s h
      cases h
      exact ⟨kS c, Or.inl rfl⟩
    rcases pif_s h with ⟨c, h⟩ | ⟨-, h⟩
    · obtain ⟨c, h⟩ := oif_s h
      cases h
      exact ⟨kS c, Or.inr rfl⟩
    obtain ⟨c, h⟩ := oif_s h
    cases h
    exact ⟨kS c, Or.inr rfl⟩
theorem mrn_st : ∀ (f : Nat) (w : List Int) (l : List Fr) (h p : Int), 0 ≤ p → p ≤ n → n - p < (f : Int) → mrn T n wh f w l h p = Mch T n wh w l h p := by
  intro f
  induction f using Nat.strongRecOn with
  | ind f ih =>
    intro w l h p h0 h1 hf
    have main : ∀ g : Nat, n - p ≤ (g : Int) → g < f ∨ g = (n - p).toNat → (∀ (w' : List Int) (x : (List Fr × Int) × Int), p < x.2 ∧ x.2 ≤ n → mrn T n wh g w' x.1.1 x.1.2 x.2 = mrn T n wh (n - p).toNat w' x.1.1 x.1.2 x.2) → mrn T n wh (g + 1) w l h p = mrn T n wh ((n - p).toNat + 1) w l h p := by
      intro g _ _ hx
      show pif _ _ _ = pif _ _ _
      by_cases v : h = 0
      · rw [pif_t v, pif_t v]
        cases e : sOpd T n wh l p with
        | none => rfl
        | some x => exact hx _ x.2 (sOpd_pos h0 h1 e).1
      · rw [pif_f v, pif_f v]
        cases e : sGon T n l p with
        | none => rfl
        | some y =>
          obtain ⟨c, y⟩ := y
          cases y with
          | none => rfl
          | some x => exact hx _ x (sGon_pos h0 h1 e).1
    obtain ⟨g, rfl⟩ : ∃ g, f = g + 1 := ⟨f - 1, by omega⟩
    refine main g (by omega) (Or.inl (by omega)) (fun w' x hx => ?_)
    rw [ih g (by omega) _ _ _ _ (by omega) hx.2 (by omega)]
    by_cases v : (n - p).toNat < g + 1
    · rw [ih _ v _ _ _ _ (by omega) hx.2 (by omega)]
    · exfalso
      omega
theorem Mch_0 {w : List Int} {l : List Fr} {p : Int} (h0 : 0 ≤ p) (h1 : p ≤ n) : Mch T n wh w l 0 p = (sOpd T n wh l p).bind fun x => Mch T n wh (w ++ x.1) x.2.1.1 x.2.1.2 x.2.2 := by
  show pif _ _ _ = _
  rw [pif_t rfl]
  cases e : sOpd T n wh l p with
  | none => rfl
  | some x =>
    have k := (sOpd_pos h0 h1 e).1
    exact mrn_st _ _ _ _ _ (by omega) k.2 (by omega)
theorem Mch_1 {w : List Int} {l : List Fr} {p : Int} (h0 : 0 ≤ p) (h1 : p ≤ n) : Mch T n wh w l 1 p = (sGon T n l p).bind fun y => match y.2 with
    | none => some (p, w ++ y.1)
    | some x => Mch T n wh (w ++ y.1) x.1.1 x.1.2 x.2 := by
  show pif _ _ _ = _
  rw [pif_f (by decide)]
  cases e : sGon T n l p with
  | none => rfl
  | some y =>
    obtain ⟨c, y⟩ := y
    cases y with
    | none => rfl
    | some x =>
      have k := (sGon_pos h0 h1 e).1
      exact mrn_st _ _ _ _ _ (by omega) k.2 (by omega)
/-- what was printed before stays in front -/
theorem mrn_pre : ∀ (f : Nat) (k w : List Int) (l : List Fr) (h p : Int), mrn T n wh f (k ++ w) l h p = (mrn T n wh f w l h p).map fun q => (q.1, k ++ q.2)
  | 0, _, _, _, _, _ => rfl
  | f + 1, k, w, l, h, p => by
    show pif _ _ _ = (pif _ _ _).map _
    by_cases v : h = 0
    · rw [pif_t v, pif_t v]
      cases e : sOpd T n wh l p with
      | none => rfl
      | some x =>
        show mrn T n wh f ((k ++ w) ++ x.1) _ _ _ = (mrn T n wh f (w ++ x.1) _ _ _).map _
        rw [List.append_assoc]
        exact mrn_pre f k _ _ _ _
    · rw [pif_f v, pif_f v]
      cases e : sGon T n l p with
      | none => rfl
      | some y =>
        obtain ⟨c, y⟩ := y
        cases y with
        | none =>
          show some (p, (k ++ w) ++ c) = some (p, k ++ (w ++ c))
          rw [List.append_assoc]
        | some x =>
          show mrn T n wh f ((k ++ w) ++ c) _ _ _ = (mrn T n wh f (w ++ c) _ _ _).map _
          rw [List.append_assoc]
          exact mrn_pre f k _ _ _ _
theorem Mch_pre {k : List Int} {l : List Fr} {h p : Int} : Mch T n wh k l h p = (Mch T n wh [] l h p).map fun q => (q.1, k ++ q.2) := by
  have e := mrn_pre (T := T) (n := n) (wh := wh) ((n - p).toNat + 1) k [] l h p
  rw [List.append_nil] at e
  exact e
/-- lists that a level leaves alone -/
theorem jn_lo {L : Int} : ∀ {l : List Int}, (∀ q, l.head? = some q → rkC q < L) → jnE L l = [] ∧ jnR L l = l
  | [], _ => ⟨rfl, rfl⟩
  | q :: t, h => by
    have k : ¬ L ≤ rkC q := by
      have := h q rfl
      omega
    exact ⟨if_neg k, if_neg k⟩
theorem jn_hi {L q : Int} {t : List Int} (k : L ≤ rkC q) : jnE L (q :: t) = (10000 + q) :: jnE L t ∧ jnR L (q :: t) = jnR L t := ⟨if_pos k, if_pos k⟩
theorem rkC_b (o : Int) : 0 ≤ rkC o ∧ rkC o ≤ 6 := by
  unfold rkC
  (repeat' split) <;> omega
theorem nnC_app : ∀ (a b : List Int), nnC (a ++ b) = nnC a + nnC b
  | [], b => by
    show nnC b = 0 + nnC b
    omega
  | q :: t, b => by
    show (if q = 22 then 1 else 0) + nnC (t ++ b) = (if q = 22 then 1 else 0) + nnC t + nnC b
    rw [nnC_app t b]
    omega
theorem idx_O : ∀ k : Nat, k < 26 → ownW.idxOf (ownW.getD k []) = k := by decide +kernel
theorem wIx_O {k p : Int} (h0 : 0 ≤ k) (h1 : k < 26) (h : sIO T n k p) : wIx T n p = k := by
  unfold wIx
  rw [h.2, idx_O k.toNat (by omega)]
  omega
end SV
