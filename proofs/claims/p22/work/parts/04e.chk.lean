/-! tables of abstract steps, beside the tables of steps; runs over them -/
abbrev aTb : Type := List (Nat × List (Nat × aF))
def al0 : List (Nat × aF) → Nat → Option aF
  | [], _ => none
  | q :: r, pc => bif Nat.beq q.1 pc then some q.2 else al0 r pc
def alk : aTb → Nat → Option aF
  | [], _ => none
  | q :: r, pc => bif Nat.ble (pc + 1) q.1 then al0 q.2 pc else alk r pc
def aP0 (Θ : aTh) (D : Nat) : List (Nat × zF) → List (Nat × aF) → Prop
  | [], [] => True
  | q :: r, p :: s => q.1 = p.1 ∧ aOk Θ D q.2 p.2 ∧ aP0 Θ D r s
  | _, _ => False
def aP1 (Θ : aTh) (D : Nat) : zT → aTb → Prop
  | [], [] => True
  | q :: r, p :: s => q.1 = p.1 ∧ aP0 Θ D q.2 p.2 ∧ aP1 Θ D r s
  | _, _ => False
theorem aP0_s {Θ : aTh} {D pc : Nat} {A : aF} : ∀ {l : List (Nat × zF)} {la : List (Nat × aF)}, aP0 Θ D l la → al0 la pc = some A → ∃ f, zl0 l pc = some (pc, f) ∧ aOk Θ D f A
  | [], [], _, h => by cases h
  | [], _ :: _, k, _ => k.elim
  | _ :: _, [], k, _ => k.elim
  | q :: r, p :: s, k, h => by
    obtain ⟨k1, k2, k3⟩ := k
    unfold al0 at h
    cases hb : Nat.beq p.1 pc with
    | true =>
      rw [hb] at h
      simp only [cond_true, Option.some.injEq] at h
      have e := Nat.eq_of_beq_eq_true hb
      refine ⟨q.2, ?_, by rw [← h]; exact k2⟩
      unfold zl0
      rw [k1, hb]
      show some q = _
      rw [← e, ← k1]
    | false =>
      rw [hb] at h
      obtain ⟨f, f1, f2⟩ := aP0_s k3 h
      refine ⟨f, ?_, f2⟩
      unfold zl0
      rw [k1, hb]
      exact f1
theorem aP1_s {Θ : aTh} {D pc : Nat} {A : aF} : ∀ {t : zT} {tb : aTb}, aP1 Θ D t tb → alk tb pc = some A → ∃ f, zlk t pc = some (pc, f) ∧ aOk Θ D f A
  | [], [], _, h => by cases h
  | [], _ :: _, k, _ => k.elim
  | _ :: _, [], k, _ => k.elim
  | q :: r, p :: s, k, h => by
    obtain ⟨k1, k2, k3⟩ := k
    unfold alk at h
    cases hb : Nat.ble (pc + 1) p.1 with
    | true =>
      rw [hb] at h
      obtain ⟨f, f1, f2⟩ := aP0_s k2 h
      refine ⟨f, ?_, f2⟩
      unfold zlk
      rw [k1, hb]
      exact f1
    | false =>
      rw [hb] at h
      obtain ⟨f, f1, f2⟩ := aP1_s k3 h
      refine ⟨f, ?_, f2⟩
      unfold zlk
      rw [k1, hb]
      exact f1
def aGo (tb : aTb) (N : aS → Option Bool) (R : Option aV → aS → Bool) : Nat → aS → Bool
  | 0, _ => false
  | n + 1, a => match alk tb a.1 with
    | none => false
    | some A => A a (fun a' => match N a' with
      | some b => b
      | none => aGo tb N R n a') R
def aRm (ν : List Int32) (ra : Option aV) (r : Option Value) : Prop := match ra, r with
  | none, none => True
  | some v, some x => aG1 ν v x
  | _, _ => False
theorem aGo_s {Θ : aTh} {D d : Nat} {t : zT} {tb : aTb} {N : aS → Option Bool} {R : Option aV → aS → Bool} {P : Option Value → zM → Prop} {m0 : zM} {ν0 : List Int32} (hP : aP1 Θ D t tb) (hD : D ≤ d) (hN : ∀ (a : aS) (ν : List Int32) (st : zS), ν0 <+: ν → N a = some true → aGm Θ m0 ν a st → yR Θ.2.2 t d st P)
    (hR : ∀ (a : aS) (ν : List Int32) (st : zS) (ra : Option aV) (r : Option Value), ν0 <+: ν → R ra a = true → aGm Θ m0 ν a st → aRm ν ra r → P r st.2.2.2) : ∀ (n : Nat) (a : aS) (ν : List Int32) (st : zS), ν0 <+: ν → aGo tb N R n a = true → aGm Θ m0 ν a st → yR Θ.2.2 t d st P := by
  intro n
  induction n with
  | zero => intro a ν st _ h; cases h
  | succ n ih =>
    intro a ν st hp h hg
    obtain ⟨pc, la, sa, en, nx, mo⟩ := a
    obtain ⟨pc', lo, sk, mem⟩ := st
    obtain ⟨e0, h1, h2, h3, h4, h5, h6, h7⟩ := id hg
    have e0 : pc' = pc := e0
    subst e0
    unfold aGo at h
    split at h
    · cases h
    · next A hA =>
      obtain ⟨f, f1, f2⟩ := aP1_s hP hA
      have go : ∀ (a' : aS) (ν' : List Int32) (st' : zS), ν <+: ν' → (match N a' with | some b => b | none => aGo tb N R n a') = true → aGm Θ m0 ν' a' st' → yR Θ.2.2 t d st' P := fun a' ν' st' q1 q2 q3 => by
        split at q2
        · next b hb =>
          subst q2
          exact hN a' ν' st' (hp.trans q1) hb q3
        · exact ih a' ν' st' (hp.trans q1) q2 q3
      rcases f2 d m0 ν pc' la sa en nx mo lo sk mem _ R hD h1 h2 h3 h4 h5 h6 h7 h with ⟨st', a', ν', q1, q2, q3, q4⟩ | ⟨r, ra, q1, q2, q3⟩ | ⟨j, av, rest, q1, q2⟩
      · exact yR_next f1 q2 (go a' ν' st' q1 q3 q4)
      · exact yR_ret f1 q1 (hR _ ν _ ra r hp q2 hg q3)
      · exact yR_call f1 q1 q2 (fun r m hq => by
          obtain ⟨a', ν', w1, w2, w3⟩ := hq
          exact go a' ν' _ w1 w2 w3)
/-! a callee's own steps -/
def aCat (v : aV) : Nat := match v with
  | .inr none => 2
  | _ => 1
theorem aCat_s {ν : List Int32} {v : aV} {x : Value} (h : aG1 ν v x) : x.category = aCat v := by
  rcases v with s | _ | ks
  · obtain ⟨y, -, rfl⟩ := h; rfl
  · obtain ⟨y, rfl⟩ := h; rfl
  · obtain ⟨y, -, rfl⟩ := h; rfl
def aArgs : Nat → List aV → List (Nat × aV)
  | _, [] => []
  | i, v :: r => (i, v) :: aArgs (i + aCat v) r
theorem aCat_1 (v : aV) : 1 ≤ aCat v := by
  rcases v with s | _ | ks
  · exact Nat.le_refl 1
  · exact Nat.le_succ 1
  · exact Nat.le_refl 1
theorem aArgs_ge : ∀ {i : Nat} {vs : List aV} {q : Nat × aV}, q ∈ aArgs i vs → i ≤ q.1
  | _, [], _, h => absurd h List.not_mem_nil
  | i, v :: r, q, h => by
    rcases List.mem_cons.mp h with rfl | h
    · exact Nat.le_refl _
    · exact Nat.le_trans (Nat.le_add_right _ _) (aArgs_ge h)
theorem aArgs_s {ν : List Int32} : ∀ {i : Nat} {vs : List aV} {xs : List Value}, aSk ν vs xs → aLo ν (aArgs i vs) (lv_args i xs)
  | _, [], [], _ => fun q h => absurd h List.not_mem_nil
  | _, [], _ :: _, h => h.elim
  | _, _ :: _, [], h => h.elim
  | i, v :: r, x :: xs, h => by
    intro q hq
    have e : lv_args i (x :: xs) = (i, x) :: lv_args (i + aCat v) xs := by
      have c := aCat_s h.1
      have e1 : lv_args i (x :: xs) = (i, x) :: lv_args (if x.category = 2 then i + 2 else i + 1) xs := rfl
      rw [e1]
      rcases lv_cat x with q | q
      · rw [← c, q]; rfl
      · rw [← c, q]; rfl
    rw [e]
    rcases List.mem_cons.mp hq with rfl | hq
    · exact ⟨x, by unfold zlg; rw [zbq]; rfl, h.1⟩
    · have g := aArgs_ge hq
      have g1 := aCat_1 v
      obtain ⟨y, k1, k2⟩ := aArgs_s h.2 q hq
      refine ⟨y, ?_, k2⟩
      unfold zlg
      have eb : Nat.beq i q.1 = false := by
        cases hb : Nat.beq i q.1 with
        | false => rfl
        | true => have := Nat.eq_of_beq_eq_true hb; omega
      show (bif Nat.beq i q.1 then some x else _) = _
      rw [eb]
      exact k1
def awd : List aV → Nat
  | [] => 0
  | v :: r => aCat v + awd r
theorem awd_s {ν : List Int32} : ∀ {vs : List aV} {xs : List Value}, aSk ν vs xs → zwd xs = awd vs
  | [], [], _ => rfl
  | [], _ :: _, h => h.elim
  | _ :: _, [], h => h.elim
  | v :: r, x :: xs, h => by
    have e : zwd (x :: xs) = x.category + zwd xs := rfl
    rw [e, aCat_s h.1, awd_s h.2]
    rfl
theorem aSk_ap {ν : List Int32} {ra : Option aV} {r : Option Value} {rest : List aV} {rs : List Value} (h : aRm ν ra r) (k : aSk ν rest rs) : aSk ν (ra.toList ++ rest) (r.toList ++ rs) := by
  cases ra with
  | none => cases r with
    | none => exact k
    | some x => exact h.elim
  | some v => cases r with
    | none => exact h.elim
    | some x => exact ⟨h, k⟩
section AI
variable {Θ : aTh} {D : Nat}
def aIn (tb : aTb) (fuel nl : Nat) (vs rest : List aV) (a : aS) (K : aS → Bool) : Bool := match a with
  | (pc, la, _, en, nx, mo) => Bool.and (Bool.and (Nat.ble rest.length 4) (Nat.ble (awd vs) nl)) (aGo tb (fun _ => none) (fun ra a' => match a' with
    | (_, _, _, en', nx', mo') => K (pc + 3, la, ra.toList ++ rest, en', nx', mo')) fuel (0, aArgs 0 vs, [], en, nx, mo))
theorem aIn_s {tb : aTb} {t : zT} {fuel nl j D' d pc nx : Nat} {vs rest sa : List aV} {la : List (Nat × aV)} {en : aEn} {mo : aMo} {K : aS → Bool} {m0 mem : zM} {ν : List Int32} {lo : List (Nat × Value)} {xs rs : List Value} (hj : Θ.2.2 j = some (nl, t)) (hP : aP1 Θ D' t tb) (hd : D' + 1 ≤ d) (h1 : aLo ν la lo) (hx : aSk ν vs xs) (hr : aSk ν rest rs) (h3 : aFa ν en) (h4 : ν.length = nx) (h5 : aMm ν mo mem) (h6 : aJ Θ mem) (h7 : aPr Θ.1 m0 mem) (h : aIn tb fuel nl vs rest (pc, la, sa, en, nx, mo) K = true) :
    Nat.ble (zwd rs) 8 = true ∧ yC Θ.2.2 d j xs mem (fun r m => ∃ (a' : aS) (ν' : List Int32), ν <+: ν' ∧ K a' = true ∧ aGm Θ m0 ν' a' (pc + 3, lo, r.toList ++ rs, m)) := by
  obtain ⟨b1, b2⟩ := (Bool.and_eq_true _ _).mp h
  obtain ⟨b3, b4⟩ := (Bool.and_eq_true _ _).mp b1
  refine ⟨zwd_8 hr b3, ?_⟩
  obtain ⟨d, rfl⟩ : ∃ q, d = q + 1 := ⟨d - 1, by omega⟩
  refine yC_of hj (by rw [awd_s hx]; exact b4) ?_
  refine aGo_s (ν0 := ν) hP (by omega) (fun a ν' st _ hn _ => by cases hn) ?_ fuel _ ν _ (List.prefix_refl _) b2 ⟨rfl, aArgs_s hx, trivial, h3, h4, h5, h6, h7⟩
  rintro ⟨pc', la', sa', en', nx', mo'⟩ ν' ⟨q1, q2, q3, q4⟩ ra r hp hK ⟨-, -, -, g3, g4, g5, g6, g7⟩ hr'
  exact ⟨_, ν', hp, hK, rfl, aLo_pre hp h1, aSk_ap hr' (aSk_pre hp hr), g3, g4, g5, g6, g7⟩
def a_iv (T : List aCe) (tb : aTb) (fuel nl n ci : Nat) : aF := fun a K _ => match app n [] a.2.2.1 with
  | some (vs, .inr (some ks) :: rest) => Bool.and (ks.all (aIs T ci)) (aIn tb fuel nl (.inr (some ks) :: vs) rest a K)
  | _ => false
theorem aok_iv {tb : aTb} {t : zT} {fuel nl n ci j D' : Nat} (hj : Θ.2.2 j = some (nl, t)) (hP : aP1 Θ D' t tb) (hD' : D' + 1 ≤ D) : aOk Θ D (zcv j n ci) (a_iv Θ.1 tb fuel nl n ci) := by
  intro d m0 ν pc la sa en nx mo lo sk mem K R hD h1 h2 h3 h4 h5 h6 h7 hA
  unfold a_iv at hA
  dsimp only at hA
  split at hA
  · next vs ks rest hap =>
    obtain ⟨b1, hA1⟩ := (Bool.and_eq_true _ _).mp hA
    obtain ⟨xs, rs, g1, g2, g3⟩ := app_s (acc := []) hap trivial h2
    obtain ⟨_, rs, rfl, ⟨k, hk, rfl⟩, g4⟩ := aSk_c g3
    obtain ⟨fs, hf⟩ := aIs_s (List.all_eq_true.mp b1 k hk) h6.1
    obtain ⟨c1, c2⟩ := aIn_s (vs := .inr (some ks) :: vs) (xs := .ref k :: xs) hj hP (Nat.le_trans hD' hD) h1 ⟨⟨k, hk, rfl⟩, g2⟩ g4 h3 h4 h5 h6 h7 hA1
    refine Or.inr (Or.inr ⟨j, .ref k :: xs, rs, fun Y rec κ ρ => ?_, c2⟩)
    have e : Bool.and (Nat.beq ci ci) (Nat.ble (zwd rs) 8) = true := by
      rw [zbq, c1]
      rfl
    simp only [zcv, g1, hf, e]
  · cases hA
def a_is (tb : aTb) (fuel nl n : Nat) : aF := fun a K _ => match app n [] a.2.2.1 with
  | some (vs, rest) => aIn tb fuel nl vs rest a K
  | _ => false
theorem aok_is {tb : aTb} {t : zT} {fuel nl n j D' : Nat} (hj : Θ.2.2 j = some (nl, t)) (hP : aP1 Θ D' t tb) (hD' : D' + 1 ≤ D) : aOk Θ D (zcs j n) (a_is tb fuel nl n) := by
  intro d m0 ν pc la sa en nx mo lo sk mem K R hD h1 h2 h3 h4 h5 h6 h7 hA
  unfold a_is at hA
  dsimp only at hA
  split at hA
  · next vs rest hap =>
    obtain ⟨xs, rs, g1, g2, g3⟩ := app_s (acc := []) hap trivial h2
    obtain ⟨c1, c2⟩ := aIn_s hj hP (Nat.le_trans hD' hD) h1 g2 g3 h3 h4 h5 h6 h7 hA
    refine Or.inr (Or.inr ⟨j, xs, rs, fun Y rec κ ρ => ?_, c2⟩)
    simp only [zcs, g1, c1]
  · cases hA
end AI
