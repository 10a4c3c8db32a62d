/-! a loop whose counter is a field -/
def aN2 (pc0 : Nat) (ls : List (Nat × aTy)) (k i : Nat) (b : Option Nat) (a : aS) : Option Bool := match a with
  | (pc, la, sa, en, _, mo) => bif Nat.beq pc pc0 then some (Bool.and (Bool.and (Nat.beq sa.length 0) (ls.all (aLe1 la en))) (match b with
    | none => true
    | some b => match aml mo k i with
      | some s => Bool.and (Nat.beq (aFn en s).2.2.1 b) (decide (1 ≤ (aFn en s).2.2.2))
      | none => false)) else none
theorem aN2_s {Θ : aTh} {m0 : zM} {pc0 k i : Nat} {ls : List (Nat × aTy)} {b : Option Nat} {a : aS} {ν : List Int32} {st : zS} (h : aN2 pc0 ls k i b a = some true) (hg : aGm Θ m0 ν a st) : st.1 = pc0 ∧ st.2.2.1 = [] ∧ aLt ls st.2.1 ∧ ∀ b', b = some b' → ∃ x y : Int32, zfl st.2.2.2 k i = some (.int x) ∧ ν[b']? = some y ∧ y.toInt < x.toInt := by
  obtain ⟨pc, la, sa, en, nx, mo⟩ := a
  obtain ⟨pc', lo, sk, mem⟩ := st
  obtain ⟨e0, g1, g2, g3, g4, g5, -⟩ := hg
  have e1 : pc' = pc := e0
  subst e1
  have h1 : aLo ν la lo := g1
  have h2 : aSk ν sa sk := g2
  have h3 : aFa ν en := g3
  have h5 : aMm ν mo mem := g5
  unfold aN2 at h
  dsimp only at h
  cases hb : Nat.beq pc' pc0 with
  | false => rw [hb] at h; cases h
  | true =>
    rw [hb] at h
    simp only [cond_true, Option.some.injEq] at h
    obtain ⟨q1, q2⟩ := (Bool.and_eq_true _ _).mp h
    obtain ⟨q3, q4⟩ := (Bool.and_eq_true _ _).mp q1
    refine ⟨Nat.eq_of_beq_eq_true hb, ?_, fun q hq => ?_, fun b' hb' => ?_⟩
    · have := aSk_len h2
      have q3 := Nat.eq_of_beq_eq_true q3
      show sk = []
      exact List.eq_nil_of_length_eq_zero (by omega)
    · have g := List.all_eq_true.mp q4 q hq
      unfold aLe1 at g
      split at g
      · next v hv =>
        obtain ⟨x, x1, x2⟩ := alg_s h1 hv
        exact ⟨x, x1, aVe_s h3 g x2⟩
      · cases g
    · subst hb'
      have q2 : (match aml mo k i with
        | some s => Bool.and (Nat.beq (aFn en s).2.2.1 b') (decide (1 ≤ (aFn en s).2.2.2))
        | none => false) = true := q2
      split at q2
      · next s hs =>
        obtain ⟨w1, w2⟩ := (Bool.and_eq_true _ _).mp q2
        have w1 := Nat.eq_of_beq_eq_true w1
        have w2 := of_decide_eq_true w2
        obtain ⟨x, x1, x2⟩ := aml_s h5 hs
        obtain ⟨-, -, y, y1, y2⟩ := aFn_s h3 x1
        rw [w1] at y1
        exact ⟨x, y, x2, y1, by omega⟩
      · cases q2
def aChk2 (tb : aTb) (pc0 k i : Nat) (ls : List (Nat × aTy)) (lo hi : Int) (fuel nl : Nat) (c : aCt) : Bool := Bool.and (Bool.and (Nat.ble (aWt c.2.1) nl) (match aMk (aLs 0 c.2.1) 0 with
  | (la, en, nx) => aGo tb (aN2 pc0 ls k i none) (aRc c.2.2) fuel (0, la, [], en, nx, []))) (match aMk ls 0 with
  | (la, en, nx) => aGo tb (aN2 pc0 ls k i (some nx)) (aRc c.2.2) fuel (pc0, la, [], (nx, lo, hi, nx, 0) :: en, nx + 1, [((k, i), nx)]))
theorem aMeth2 {Θ : aTh} {D nl fuel pc0 k i ci : Nat} {lo hi : Int} {ls : List (Nat × aTy)} {c : aCt} {t : zT} {tb : aTb} (hj : Θ.2.2 c.1 = some (nl, t)) (hP : aP1 Θ D t tb) (hf : aGf Θ.1 ci i (.inl (lo, hi)) k = true) (h : aChk2 tb pc0 k i ls lo hi fuel nl c = true) : aCv Θ (D + 1) c := by
  intro d mem av hd hJ hav
  obtain ⟨b1, b2⟩ := (Bool.and_eq_true _ _).mp h
  obtain ⟨b3, b4⟩ := (Bool.and_eq_true _ _).mp b1
  obtain ⟨d, rfl⟩ : ∃ q, d = q + 1 := ⟨d - 1, by omega⟩
  refine yC_of hj (by rw [aWt_s hav]; exact b3) ?_
  have hR : ∀ (ν0 : List Int32) (a : aS) (ν : List Int32) (st : zS) (ra : Option aV) (r : Option Value), ν0 <+: ν → aRc c.2.2 ra a = true → aGm Θ mem ν a st → aRm ν ra r → (aJ Θ st.2.2.2 ∧ aPr Θ.1 mem st.2.2.2 ∧ aTr c.2.2 r) := fun ν0 a ν st ra r _ hr hg hm => by
    obtain ⟨-, -, -, h3, -, -, h6, h7⟩ := hg
    refine ⟨h6, h7, ?_⟩
    unfold aRc at hr
    split at hr
    · next e1 =>
      rw [e1]
      cases r with
      | none => trivial
      | some x => exact hm.elim
    · next τ v e1 =>
      rw [e1]
      cases r with
      | none => exact hm.elim
      | some x => exact aVe_s h3 hr hm
    · cases hr
  have fv : ∀ m, aJ Θ m → ∃ x : Int32, zfl m k i = some (.int x) ∧ lo ≤ x.toInt ∧ x.toInt ≤ hi := fun m hm => by
    obtain ⟨fs, x, f1, f2, y, rfl, f3, f4⟩ := aGf_s hf hm.1
    exact ⟨y, by unfold zfl; rw [f1]; exact f2, f3, f4⟩
  have node : ∀ (M : Nat) (st : zS) (x : Int32), st.1 = pc0 → st.2.2.1 = [] → aLt ls st.2.1 → aJ Θ st.2.2.2 → aPr Θ.1 mem st.2.2.2 → zfl st.2.2.2 k i = some (.int x) → (hi - x.toInt).toNat = M → yR Θ.2.2 t d st (fun r m => aJ Θ m ∧ aPr Θ.1 mem m ∧ aTr c.2.2 r) := by
    intro M
    induction M using Nat.strongRecOn with
    | ind M ih =>
      intro st x e1 e2 hl hJ' hp' hx hM
      obtain ⟨x', x1, x2, x3⟩ := fv _ hJ'
      rw [hx] at x1
      cases x1
      obtain ⟨ν, -, p2, p3, p4⟩ := aMk_s (nx := 0) (ν := []) hl rfl
      refine aGo_s (m0 := mem) (ν0 := ν ++ [x]) hP (by omega) (fun a ν' st' hp hc hg => ?_) (hR (ν ++ [x])) fuel _ (ν ++ [x]) st (List.prefix_refl _) b2 ⟨e1, aLo_app x p3, by show aSk _ [] st.2.2.1; rw [e2]; trivial, List.forall_mem_cons.mpr ⟨aFa1_i p2 x2 x3, aFa_app x p4⟩, by rw [List.length_append, p2]; rfl, List.forall_mem_cons.mpr ⟨⟨x, a_new x p2, hx⟩, fun q hq => absurd hq List.not_mem_nil⟩, hJ', hp'⟩
      obtain ⟨n1, n2, n3, n4⟩ := aN2_s hc hg
      obtain ⟨z, y, z1, z2, z3⟩ := n4 _ rfl
      obtain ⟨-, -, -, -, -, -, g6, g7⟩ := hg
      have z4 := a_pre hp (a_new x p2)
      rw [z4] at z2
      cases z2
      obtain ⟨z', w1, w2, w3⟩ := fv _ g6
      rw [z1] at w1
      cases w1
      exact ih _ (by omega) st' z n1 n2 n3 g6 g7 z1 rfl
  obtain ⟨ν, -, p2, p3, p4⟩ := aMk_s (nx := 0) (ν := []) (aLs_s (i := 0) hav) rfl
  refine aGo_s (m0 := mem) (ν0 := ν) hP (by omega) (fun a ν' st' hp hc hg => ?_) (hR ν) fuel _ ν _ (List.prefix_refl _) b4 ⟨rfl, p3, trivial, p4, p2, fun q hq => absurd hq List.not_mem_nil, hJ, aPr_rf⟩
  obtain ⟨n1, n2, n3, -⟩ := aN2_s hc hg
  obtain ⟨-, -, -, -, -, -, g6, g7⟩ := hg
  obtain ⟨x, x1, -, -⟩ := fv _ g6
  exact node _ st' x n1 n2 n3 g6 g7 x1 rfl
