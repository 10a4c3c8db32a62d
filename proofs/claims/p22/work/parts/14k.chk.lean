/-! a run from a place in the middle of a method -/
theorem aSeg {Θ : aTh} {D fuel : Nat} {t : zT} {tb : aTb} {ns : List aNd} {τ : Option aTy} (hP : aP1 Θ D t tb) (b2 : ns.all (aN1 tb ns fuel τ) = true) {d : Nat} (hd : D ≤ d) {mem : zM} : ∀ (n : aNd) (st : zS), n ∈ ns → st.1 = n.1 → st.2.2.1 = [] → aLt n.2.1 st.2.1 → aJ Θ st.2.2.2 → aPr Θ.1 mem st.2.2.2 → 0 ≤ zms st.2.1 n.2.2.1 + n.2.2.2 → yR Θ.2.2 t d st (fun r m => aJ Θ m ∧ aPr Θ.1 mem m ∧ aTr τ r) := by
  have hR : ∀ (ν0 : List Int32) (a : aS) (ν : List Int32) (st : zS) (ra : Option aV) (r : Option Value), ν0 <+: ν → aRc τ ra a = true → aGm Θ mem ν a st → aRm ν ra r → (aJ Θ st.2.2.2 ∧ aPr Θ.1 mem st.2.2.2 ∧ aTr τ r) := fun ν0 a ν st ra r _ hr hg hm => by
    obtain ⟨-, -, -, h3, -, -, h6, h7⟩ := hg
    refine ⟨h6, h7, ?_⟩
    unfold aRc at hr
    split at hr
    · cases r with
      | none => trivial
      | some x => exact hm.elim
    · cases r with
      | none => exact hm.elim
      | some x => exact aVe_s h3 hr hm
    · cases hr
  have node : ∀ (M : Nat) (n : aNd) (st : zS), n ∈ ns → st.1 = n.1 → st.2.2.1 = [] → aLt n.2.1 st.2.1 → aJ Θ st.2.2.2 → aPr Θ.1 mem st.2.2.2 → 0 ≤ zms st.2.1 n.2.2.1 + n.2.2.2 → (zms st.2.1 n.2.2.1 + n.2.2.2).toNat = M → yR Θ.2.2 t d st (fun r m => aJ Θ m ∧ aPr Θ.1 mem m ∧ aTr τ r) := by
    intro M
    induction M using Nat.strongRecOn with
    | ind M ih =>
      intro n st hn e1 e2 hl hJ' hp' h0 hM
      have g := List.all_eq_true.mp b2 n hn
      unfold aN1 at g
      dsimp only at g
      split at g
      · cases g
      · next l hs =>
        obtain ⟨ν, -, p2, p3, p4⟩ := aMk_s (nx := 0) (ν := []) hl rfl
        obtain ⟨s1, s2⟩ := aSy_s p3 hs
        refine aGo_s (m0 := mem) (ν0 := ν) hP hd (fun a ν' st' hp hc hg => ?_) (hR ν) fuel _ ν st (List.prefix_refl _) g ⟨e1, p3, by show aSk ν [] st.2.2.1; rw [e2]; trivial, p4, p2, fun q hq => absurd hq List.not_mem_nil, hJ', hp'⟩
        obtain ⟨n', n1, n2, n3, n4, n5, n6⟩ := aNc_s hc hg
        obtain ⟨w1, w2⟩ := nus_pre hp s2
        have n7 := n6 _ rfl w2
        rw [w1, ← s1] at n7
        obtain ⟨-, -, -, -, -, -, g6, g7⟩ := hg
        have n7 : zms st'.2.1 n'.2.2.1 + n'.2.2.2 < zms st.2.1 n.2.2.1 + n.2.2.2 := n7
        exact ih _ (by omega) n' st' n1 n2 n3 n4 g6 g7 n5 rfl
  exact fun n st hn e1 e2 hl hJ' hp' h0 => node _ n st hn e1 e2 hl hJ' hp' h0 rfl
/-- types that are narrower -/
def aFw : List (Bool × aTy) → List (Bool × aTy) → Bool
  | [], [] => true
  | p :: r, q :: s => Bool.and (aLe p.2 q.2) (aFw r s)
  | _, _ => false
def aCw (c d : aCe) : Bool := match c, d with
  | .inr (ci, l), .inr (ci', l') => Bool.and (Nat.beq ci ci') (aFw l l')
  | c, d => aCq c d
def aLw : List aCe → List aCe → Bool
  | [], [] => true
  | c :: r, d :: s => Bool.and (aCw c d) (aLw r s)
  | _, _ => false
theorem aFw_s : ∀ {l l' : List (Bool × aTy)} {fs : List Value}, aFw l l' = true → aTf l fs → aTf l' fs
  | [], [], fs, _, k => k
  | [], _ :: _, _, h, _ => by cases h
  | _ :: _, [], _, h, _ => by cases h
  | p :: r, q :: s, [], _, k => k.elim
  | p :: r, q :: s, x :: fs, h, k => by
    obtain ⟨h1, h2⟩ := (Bool.and_eq_true _ _).mp h
    exact ⟨aLe_s h1 k.1, aFw_s h2 k.2⟩
theorem aCw_1 {c d : aCe} {e : zE} (h : aCw c d = true) (k : aTe c e) : aTe d e := by
  rcases c with c | ⟨ci, l⟩ <;> rcases d with d | ⟨ci', l'⟩
  · exact aCq_1 (show aCq (.inl c) (.inl d) = true from h) k
  · exact aCq_1 (show aCq (.inl c) (.inr (ci', l')) = true from h) k
  · exact aCq_1 (show aCq (.inr (ci, l)) (.inl d) = true from h) k
  · obtain ⟨h1, h2⟩ := (Bool.and_eq_true _ _).mp h
    have h1 : ci = ci' := Nat.eq_of_beq_eq_true h1
    subst h1
    obtain ⟨fs, f1, f2⟩ := k
    exact ⟨fs, f1, aFw_s h2 f2⟩
theorem aLw_at : ∀ {T T' : List aCe} {k : Nat} {c' : aCe}, aLw T T' = true → aat T' k = some c' → ∃ c, aat T k = some c ∧ aCw c c' = true
  | [], [], _, _, _, h => by cases h
  | [], _ :: _, _, _, h, _ => by cases h
  | _ :: _, [], _, _, h, _ => by cases h
  | c :: r, d :: s, k, c', h, hk => by
    obtain ⟨h1, h2⟩ := (Bool.and_eq_true _ _).mp h
    cases k with
    | zero =>
      simp only [aat, Option.some.injEq] at hk
      subst hk
      exact ⟨c, rfl, h1⟩
    | succ k => exact aLw_at (T := r) h2 hk
theorem aLw_s {T T' : List aCe} {mem : zM} (h : aLw T T' = true) (k : aTm T mem) : aTm T' mem := ⟨k.1, fun i c' hc => by
  obtain ⟨c, c1, c2⟩ := aLw_at h hc
  obtain ⟨e, e1, e2⟩ := k.2 i c c1
  exact ⟨e, e1, aCw_1 c2 e2⟩⟩
