/-! places that know fields too: (pc, locals, fields with intervals, weights, number) -/
abbrev aNf : Type := Nat × List (Nat × aTy) × List ((Nat × Nat) × (Int × Int)) × List (Nat × Int) × Int
def aMf4 : List ((Nat × Nat) × (Int × Int)) → Nat → aEn × Nat × aMo
  | [], nx => ([], nx, [])
  | (k, q) :: r, nx => match aMf4 r (nx + 1) with
    | (en, m, mo) => ((nx, q.1, q.2, nx, 0) :: en, m, (k, nx) :: mo)
def aFk (fl : List ((Nat × Nat) × (Int × Int))) (mem : zM) : Prop := ∀ f ∈ fl, ∃ x : Int32, zfl mem f.1.1 f.1.2 = some (.int x) ∧ f.2.1 ≤ x.toInt ∧ x.toInt ≤ f.2.2
theorem aMf4_s {mem : zM} : ∀ {fl : List ((Nat × Nat) × (Int × Int))} {nx : Nat} {ν : List Int32}, aFk fl mem → ν.length = nx → ∃ ν', ν <+: ν' ∧ ν'.length = (aMf4 fl nx).2.1 ∧ aFa ν' (aMf4 fl nx).1 ∧ aMm ν' (aMf4 fl nx).2.2 mem
  | [], nx, ν, _, hn => ⟨ν, List.prefix_refl _, hn, fun q h => absurd h List.not_mem_nil, fun q h => absurd h List.not_mem_nil⟩
  | (k, q) :: r, nx, ν, h, hn => by
    obtain ⟨y, h1, h2, h3⟩ := h _ List.mem_cons_self
    obtain ⟨ν', p1, p2, p3, p4⟩ := aMf4_s (fl := r) (nx := nx + 1) (ν := ν ++ [y]) (fun q hq => h q (List.mem_cons_of_mem _ hq)) (by rw [List.length_append, hn]; rfl)
    have g := a_pre p1 (a_new y hn)
    exact ⟨ν', (List.prefix_append _ _).trans p1, p2, List.forall_mem_cons.mpr ⟨⟨y, y, g, h2, h3, g, by show y.toInt = y.toInt + 0; omega⟩, p3⟩, List.forall_mem_cons.mpr ⟨⟨y, g, h1⟩, p4⟩⟩
def aFo (en : aEn) (mo : aMo) (f : (Nat × Nat) × (Int × Int)) : Bool := match aml mo f.1.1 f.1.2 with
  | some s => Bool.and (decide (f.2.1 ≤ (aFn en s).1)) (decide ((aFn en s).2.1 ≤ f.2.2))
  | none => false
def aNok4 (old : Option (List (Int × Nat) × Int)) (a : aS) (n : aNf) : Bool := match a with
  | (pc, la, sa, en, _, mo) => Bool.and (Bool.and (Nat.beq n.1 pc) (n.2.2.1.all (aFo en mo))) (Bool.and (Bool.and (Nat.beq sa.length 0) (n.2.1.all (aLe1 la en))) (match aSy la n.2.2.2.1 with
      | none => false
      | some l => Bool.and (decide (aUb en (aNg l) ≤ n.2.2.2.2)) (match old with
        | none => true
        | some o => decide (aUb en (l ++ aNg o.1) + n.2.2.2.2 < o.2))))
def aNc4 (ns : List aNf) (old : Option (List (Int × Nat) × Int)) (a : aS) : Option Bool := bif ns.any (fun n => Nat.beq n.1 a.1) then some (ns.any (aNok4 old a)) else none
theorem aNc4_s {Θ : aTh} {m0 : zM} {ns : List aNf} {old : Option (List (Int × Nat) × Int)} {a : aS} {ν : List Int32} {st : zS} (h : aNc4 ns old a = some true) (hg : aGm Θ m0 ν a st) : ∃ n ∈ ns, st.1 = n.1 ∧ st.2.2.1 = [] ∧ aLt n.2.1 st.2.1 ∧ aFk n.2.2.1 st.2.2.2 ∧ 0 ≤ zms st.2.1 n.2.2.2.1 + n.2.2.2.2 ∧ ∀ o, old = some o → aIl ν o.1 → zms st.2.1 n.2.2.2.1 + n.2.2.2.2 < nus ν o.1 + o.2 := by
  obtain ⟨pc, la, sa, en, nx, mo⟩ := a
  obtain ⟨pc', lo, sk, mem⟩ := st
  obtain ⟨e0, g1, g2, g3, -, g5, -⟩ := hg
  have e1 : pc' = pc := e0
  subst e1
  have h1 : aLo ν la lo := g1
  have h2 : aSk ν sa sk := g2
  have h3 : aFa ν en := g3
  have h5 : aMm ν mo mem := g5
  unfold aNc4 at h
  cases hb : ns.any (fun n => Nat.beq n.1 pc') with
  | false =>
    have hb' : ns.any (fun n => Nat.beq n.1 (pc', la, sa, en, nx, mo).1) = false := hb
    rw [hb'] at h
    cases h
  | true =>
    have hb' : ns.any (fun n => Nat.beq n.1 (pc', la, sa, en, nx, mo).1) = true := hb
    rw [hb'] at h
    simp only [cond_true, Option.some.injEq] at h
    obtain ⟨n, n1, hn⟩ := List.any_eq_true.mp h
    unfold aNok4 at hn
    obtain ⟨n2', hn'⟩ := (Bool.and_eq_true _ _).mp hn
    obtain ⟨n3', n4'⟩ := (Bool.and_eq_true _ _).mp n2'
    have n2 : n.1 = pc' := Nat.eq_of_beq_eq_true n3'
    obtain ⟨q1, q2⟩ := (Bool.and_eq_true _ _).mp hn'
    obtain ⟨q3, q4⟩ := (Bool.and_eq_true _ _).mp q1
    split at q2
    · cases q2
    · next l hl =>
      obtain ⟨q5, q6⟩ := (Bool.and_eq_true _ _).mp q2
      have q5 := of_decide_eq_true q5
      obtain ⟨s1, s2⟩ := aSy_s h1 hl
      have b1 := aUb_s h3 (aNg_i s2)
      rw [aNg_s] at b1
      refine ⟨n, n1, n2.symm, ?_, fun q hq => ?_, fun f hf => ?_, ?_, fun o ho hi => ?_⟩
      · have := aSk_len h2
        have q3 := Nat.eq_of_beq_eq_true q3
        show sk = []
        exact List.eq_nil_of_length_eq_zero (by omega)
      · have g := List.all_eq_true.mp q4 q hq
        unfold aLe1 at g
        split at g
        · next v hv =>
          obtain ⟨x, x1, x2⟩ := alg_s h1 hv
          exact ⟨x, x1, aVe_s h3 g x2⟩
        · cases g
      · have g := List.all_eq_true.mp n4' f hf
        unfold aFo at g
        split at g
        · next s hs =>
          obtain ⟨w1, w2⟩ := (Bool.and_eq_true _ _).mp g
          have w1 := of_decide_eq_true w1
          have w2 := of_decide_eq_true w2
          obtain ⟨x, x1, x2⟩ := aml_s h5 hs
          have := aFn_s h3 x1
          exact ⟨x, x2, by omega, by omega⟩
        · cases g
      · show 0 ≤ zms lo n.2.2.2.1 + n.2.2.2.2
        omega
      · subst ho
        have q6 := of_decide_eq_true q6
        have b2 := aUb_s (l := l ++ aNg o.1) h3 (fun q hq => (List.mem_append.mp hq).elim (s2 q) (aNg_i hi q))
        rw [nus_app, aNg_s] at b2
        show zms lo n.2.2.2.1 + n.2.2.2.2 < nus ν o.1 + o.2
        omega
def aN14 (tb : aTb) (ns : List aNf) (fuel : Nat) (τ : Option aTy) (n : aNf) : Bool := match aMk n.2.1 0 with
  | (la, en, nx) => match aMf4 n.2.2.1 nx with
    | (en', nx', mo) => match aSy la n.2.2.2.1 with
      | none => false
      | some l => aGo tb (aNc4 ns (some (l, n.2.2.2.2))) (aRc τ) fuel (n.1, la, [], en' ++ en, nx', mo)
def aChk4 (tb : aTb) (ns : List aNf) (fuel nl : Nat) (c : aCt) : Bool := Bool.and (Bool.and (Nat.ble (aWt c.2.1) nl) (match aMk (aLs 0 c.2.1) 0 with
  | (la, en, nx) => aGo tb (aNc4 ns none) (aRc c.2.2) fuel (0, la, [], en, nx, []))) (ns.all (aN14 tb ns fuel c.2.2))
theorem aFa_pre {ν ν' : List Int32} {en : aEn} (hp : ν <+: ν') (h : aFa ν en) : aFa ν' en := fun e he => by
  obtain ⟨x, y, h1, h2, h3, h4, h5⟩ := h e he
  exact ⟨x, y, a_pre hp h1, h2, h3, a_pre hp h4, h5⟩
theorem aMeth4 {Θ : aTh} {D nl fuel : Nat} {c : aCt} {t : zT} {tb : aTb} {ns : List aNf} (hj : Θ.2.2 c.1 = some (nl, t)) (hP : aP1 Θ D t tb) (h : aChk4 tb ns fuel nl c = true) : aCv Θ (D + 1) c := by
  intro d mem av hd hJ hav
  obtain ⟨b1, b2⟩ := (Bool.and_eq_true _ _).mp h
  obtain ⟨b3, b4⟩ := (Bool.and_eq_true _ _).mp b1
  obtain ⟨d, rfl⟩ : ∃ q, d = q + 1 := ⟨d - 1, by omega⟩
  refine yC_of hj (by rw [aWt_s hav]; exact b3) ?_
  have hR : ∀ (ν0 : List Int32) (a : aS) (ν : List Int32) (st : zS) (ra : Option aV) (r : Option Value), ν0 <+: ν → aRc c.2.2 ra a = true → aGm Θ mem ν a st → aRm ν ra r → (aJ Θ st.2.2.2 ∧ aPr Θ.1 mem st.2.2.2 ∧ aTr c.2.2 r) := fun ν0 a ν st ra r _ hr hg hm => by
    obtain ⟨-, -, -, h3, -, -, h6, h7⟩ := hg
    refine ⟨h6, h7, ?_⟩
    unfold aRc at hr
    split at hr
    · next e1 =>
      rw [e1]
      cases r with
      | none => trivial
      | some x => exact hm.elim
    · next τ v e1 =>
      rw [e1]
      cases r with
      | none => exact hm.elim
      | some x => exact aVe_s h3 hr hm
    · cases hr
  have node : ∀ (M : Nat) (n : aNf) (st : zS), n ∈ ns → st.1 = n.1 → st.2.2.1 = [] → aLt n.2.1 st.2.1 → aFk n.2.2.1 st.2.2.2 → aJ Θ st.2.2.2 → aPr Θ.1 mem st.2.2.2 → 0 ≤ zms st.2.1 n.2.2.2.1 + n.2.2.2.2 → (zms st.2.1 n.2.2.2.1 + n.2.2.2.2).toNat = M → yR Θ.2.2 t d st (fun r m => aJ Θ m ∧ aPr Θ.1 mem m ∧ aTr c.2.2 r) := by
    intro M
    induction M using Nat.strongRecOn with
    | ind M ih =>
      intro n st hn e1 e2 hl hk hJ' hp' h0 hM
      have g := List.all_eq_true.mp b2 n hn
      unfold aN14 at g
      dsimp only at g
      split at g
      · cases g
      · next l hs =>
        obtain ⟨ν, -, p2, p3, p4⟩ := aMk_s (nx := 0) (ν := []) hl rfl
        obtain ⟨ν2, r1, r2, r3, r4⟩ := aMf4_s hk p2
        obtain ⟨s1, s2⟩ := aSy_s (aLo_pre r1 p3) hs
        refine aGo_s (m0 := mem) (ν0 := ν2) hP (by omega) (fun a ν' st' hp hc hg => ?_) (hR ν2) fuel _ ν2 st (List.prefix_refl _) g ⟨e1, aLo_pre r1 p3, by show aSk ν2 [] st.2.2.1; rw [e2]; trivial, fun q hq => (List.mem_append.mp hq).elim (r3 q) (aFa_pre r1 p4 q), r2, r4, hJ', hp'⟩
        obtain ⟨n', n1, n2, n3, n4, n4b, n5, n6⟩ := aNc4_s hc hg
        obtain ⟨w1, w2⟩ := nus_pre hp s2
        have n7 := n6 _ rfl w2
        rw [w1, ← s1] at n7
        obtain ⟨-, -, -, -, -, -, g6, g7⟩ := hg
        have n7 : zms st'.2.1 n'.2.2.2.1 + n'.2.2.2.2 < zms st.2.1 n.2.2.2.1 + n.2.2.2.2 := n7
        exact ih _ (by omega) n' st' n1 n2 n3 n4 n4b g6 g7 n5 rfl
  obtain ⟨ν, -, p2, p3, p4⟩ := aMk_s (nx := 0) (ν := []) (aLs_s (i := 0) hav) rfl
  refine aGo_s (m0 := mem) (ν0 := ν) hP (by omega) (fun a ν' st' hp hc hg => ?_) (hR ν) fuel _ ν _ (List.prefix_refl _) b4 ⟨rfl, p3, trivial, p4, p2, fun q hq => absurd hq List.not_mem_nil, hJ, aPr_rf⟩
  obtain ⟨n', n1, n2, n3, n4, n4b, n5, -⟩ := aNc4_s hc hg
  obtain ⟨-, -, -, -, -, -, g6, g7⟩ := hg
  exact node _ n' st' n1 n2 n3 n4 n4b g6 g7 n5 rfl
/-! a call of which more is kept: the contract holds of types T' that are T but for what is kept -/
def aTq (p q : aTy) : Bool := Bool.and (aLe p q) (aLe q p)
def aFq : List (Bool × aTy) → List (Bool × aTy) → Bool
  | [], [] => true
  | p :: r, q :: s => Bool.and (aTq p.2 q.2) (aFq r s)
  | _, _ => false
def aCq (c d : aCe) : Bool := match c, d with
  | .inl (_, t, n, τ), .inl (_, t', n', τ') => Bool.and (Bool.and (Nat.beq t t') (Nat.beq n n')) (aTq τ τ')
  | .inr (ci, l), .inr (ci', l') => Bool.and (Nat.beq ci ci') (aFq l l')
  | _, _ => false
def aLq : List aCe → List aCe → Bool
  | [], [] => true
  | c :: r, d :: s => Bool.and (aCq c d) (aLq r s)
  | _, _ => false
theorem aFq_s : ∀ {l l' : List (Bool × aTy)} {fs : List Value}, aFq l l' = true → (aTf l fs ↔ aTf l' fs)
  | [], [], fs, _ => Iff.rfl
  | [], _ :: _, _, h => by cases h
  | _ :: _, [], _, h => by cases h
  | p :: r, q :: s, [], _ => Iff.rfl
  | p :: r, q :: s, x :: fs, h => by
    obtain ⟨h1, h2⟩ := (Bool.and_eq_true _ _).mp h
    obtain ⟨h3, h4⟩ := (Bool.and_eq_true _ _).mp h1
    have ih := aFq_s (fs := fs) h2
    exact ⟨fun k => ⟨aLe_s h3 k.1, ih.mp k.2⟩, fun k => ⟨aLe_s h4 k.1, ih.mpr k.2⟩⟩
theorem aCq_1 {c d : aCe} {e : zE} (h : aCq c d = true) (k : aTe c e) : aTe d e := by
  rcases c with ⟨b, t, n, τ⟩ | ⟨ci, l⟩ <;> rcases d with ⟨b', t', n', τ'⟩ | ⟨ci', l'⟩
  · obtain ⟨h1, h2⟩ := (Bool.and_eq_true _ _).mp h
    obtain ⟨h3, h4⟩ := (Bool.and_eq_true _ _).mp h1
    obtain ⟨h5, h6⟩ := (Bool.and_eq_true _ _).mp h2
    have h3 : t = t' := Nat.eq_of_beq_eq_true h3
    have h4 : n = n' := Nat.eq_of_beq_eq_true h4
    subst h3
    subst h4
    rcases τ with q | _ | ks <;> rcases τ' with q' | _ | ks' <;> first | (cases h5; done) | skip
    · obtain ⟨l, l1, l2, l3⟩ := k
      refine ⟨l, l1, l2, fun x hx => ?_⟩
      obtain ⟨w1, w2⟩ := (Bool.and_eq_true _ _).mp (show Bool.and _ _ = true from h5)
      have w1 := of_decide_eq_true w1
      have w2 := of_decide_eq_true w2
      have := l3 x hx
      omega
    · exact k
    · obtain ⟨l, l1, l2, l3⟩ := k
      refine ⟨l, l1, l2, fun x hx => ?_⟩
      obtain ⟨y, y1, y2⟩ := l3 x hx
      exact ⟨y, a_any (List.all_eq_true.mp h5 y y1), y2⟩
  · cases h
  · cases h
  · obtain ⟨h1, h2⟩ := (Bool.and_eq_true _ _).mp h
    have h1 : ci = ci' := Nat.eq_of_beq_eq_true h1
    subst h1
    obtain ⟨fs, f1, f2⟩ := k
    exact ⟨fs, f1, (aFq_s h2).mp f2⟩
theorem aLq_at : ∀ {T T' : List aCe} {k : Nat} {c' : aCe}, aLq T T' = true → aat T' k = some c' → ∃ c, aat T k = some c ∧ aCq c c' = true
  | [], [], _, _, _, h => by cases h
  | [], _ :: _, _, _, h, _ => by cases h
  | _ :: _, [], _, _, h, _ => by cases h
  | c :: r, d :: s, k, c', h, hk => by
    obtain ⟨h1, h2⟩ := (Bool.and_eq_true _ _).mp h
    cases k with
    | zero =>
      simp only [aat, Option.some.injEq] at hk
      subst hk
      exact ⟨c, rfl, h1⟩
    | succ k => exact aLq_at (T := r) h2 hk
theorem aLq_s {T T' : List aCe} {mem : zM} (h : aLq T T' = true) (k : aTm T mem) : aTm T' mem := ⟨k.1, fun i c' hc => by
  obtain ⟨c, c1, c2⟩ := aLq_at h hc
  obtain ⟨e, e1, e2⟩ := k.2 i c c1
  exact ⟨e, e1, aCq_1 c2 e2⟩⟩
def aSf : List (Bool × aTy) → List (Bool × aTy) → Bool
  | [], _ => true
  | p :: r, q :: s => Bool.and (Bool.or (!p.1) q.1) (aSf r s)
  | p :: r, [] => Bool.and (!p.1) (aSf r [])
def aSb : List aCe → List aCe → Bool
  | [], _ => true
  | c :: r, d :: s => Bool.and (match c, d with
    | .inl q, .inl q' => Bool.or (!q.1) q'.1
    | .inr o, .inr o' => aSf o.2 o'.2
    | _, _ => false) (aSb r s)
  | _ :: _, [] => false
theorem aSf_s : ∀ {l l' : List (Bool × aTy)} {i : Nat} {q : Bool × aTy}, aSf l l' = true → l[i]? = some q → q.1 = true → ∃ q', l'[i]? = some q' ∧ q'.1 = true
  | [], _, _, _, _, h, _ => by simp at h
  | p :: r, [], i, q, h, hk, hq => by
    obtain ⟨h1, h2⟩ := (Bool.and_eq_true _ _).mp h
    cases i with
    | zero =>
      simp only [List.getElem?_cons_zero, Option.some.injEq] at hk
      subst hk
      rw [hq] at h1
      cases h1
    | succ i =>
      simp only [List.getElem?_cons_succ] at hk
      obtain ⟨q', w, -⟩ := aSf_s (l' := []) h2 hk hq
      simp at w
  | p :: r, d :: s, i, q, h, hk, hq => by
    obtain ⟨h1, h2⟩ := (Bool.and_eq_true _ _).mp h
    cases i with
    | zero =>
      simp only [List.getElem?_cons_zero, Option.some.injEq] at hk
      subst hk
      rw [hq] at h1
      exact ⟨d, by simp, h1⟩
    | succ i =>
      simp only [List.getElem?_cons_succ] at hk ⊢
      exact aSf_s h2 hk hq
theorem aSb_at : ∀ {T T' : List aCe} {k : Nat}, aSb T T' = true → (aKa T k = true → aKa T' k = true) ∧ ∀ i, aKf T k i = true → aKf T' k i = true
  | [], _, _, _ => ⟨(fun h => by cases h), (fun i h => by cases h)⟩
  | _ :: _, [], _, h => by cases h
  | c :: r, d :: s, k, h => by
    obtain ⟨h1, h2⟩ := (Bool.and_eq_true _ _).mp h
    cases k with
    | zero =>
      rcases c with ⟨b, t, n, τ⟩ | ⟨ci, l⟩ <;> rcases d with ⟨b', t', n', τ'⟩ | ⟨ci', l'⟩
      · refine ⟨fun hb => ?_, (fun i hb => by cases hb)⟩
        have hb : b = true := hb
        subst hb
        exact h1
      · cases h1
      · cases h1
      · refine ⟨(fun hb => by cases hb), fun i hb => ?_⟩
        have hb : (match l[i]? with | some τ => τ.1 | none => false) = true := hb
        show (match l'[i]? with | some τ => τ.1 | none => false) = true
        split at hb
        · next q hq =>
          obtain ⟨q', w1, w2⟩ := aSf_s h1 hq hb
          rw [w1]
          exact w2
        · cases hb
    | succ k => exact aSb_at (T := r) (T' := s) (k := k) h2
theorem aSb_s {T T' : List aCe} {m0 mem : zM} (h : aSb T T' = true) (k : aPr T' m0 mem) : aPr T m0 mem := ⟨fun q hq => k.1 q ((aSb_at h).1 hq), fun q i hq => k.2 q i ((aSb_at h).2 i hq)⟩
def aKm (T' : List aCe) (mo : aMo) : aMo := mo.filter (fun q => aKf T' q.1.1 q.1.2)
theorem aKm_s {ν : List Int32} {T' : List aCe} {mo : aMo} {mem m : zM} (h : aMm ν mo mem) (k : aPr T' mem m) : aMm ν (aKm T' mo) m := fun q hq => by
  obtain ⟨q1, q2⟩ := List.mem_filter.mp hq
  obtain ⟨x, x1, x2⟩ := h q q1
  exact ⟨x, x1, by rw [k.2 _ _ q2]; exact x2⟩
def aAfk (τ : Option aTy) (pc : Nat) (la : List (Nat × aV)) (rest : List aV) (en : aEn) (nx : Nat) (mo : aMo) (K : aS → Bool) : Bool := match τ with
  | none => K (pc + 3, la, rest, en, nx, mo)
  | some (.inl q) => K (pc + 3, la, .inl nx :: rest, (nx, q.1, q.2, nx, 0) :: en, nx + 1, mo)
  | some (.inr v) => K (pc + 3, la, .inr v :: rest, en, nx, mo)
theorem aAfk_s {Θ : aTh} {m0 mem : zM} {ν : List Int32} {τ : Option aTy} {pc nx : Nat} {la : List (Nat × aV)} {rest : List aV} {en : aEn} {mo : aMo} {K : aS → Bool} {lo : List (Nat × Value)} {rs : List Value} {r : Option Value} (h : aAfk τ pc la rest en nx mo K = true) (h1 : aLo ν la lo) (h2 : aSk ν rest rs) (h3 : aFa ν en) (h4 : ν.length = nx) (h5 : aMm ν mo mem) (h6 : aJ Θ mem) (h7 : aPr Θ.1 m0 mem) (hr : aTr τ r) : ∃ (a' : aS) (ν' : List Int32), ν <+: ν' ∧ K a' = true ∧ aGm Θ m0 ν' a' (pc + 3, lo, r.toList ++ rs, mem) := by
  rcases τ with _ | q | v
  · cases r with
    | none => exact ⟨_, ν, List.prefix_refl _, h, aGm_mk h1 h2 h3 h4 h5 h6 h7⟩
    | some x => exact hr.elim
  · cases r with
    | none => exact hr.elim
    | some x =>
      obtain ⟨y, rfl, e1, e2⟩ := hr
      exact ⟨_, ν ++ [y], List.prefix_append _ _, h, aGm_nw y h1 h2 h3 h4 h5 h6 h7 (aFa1_i h4 e1 e2)⟩
  · cases r with
    | none => exact hr.elim
    | some x => exact ⟨_, ν, List.prefix_refl _, h, aGm_mk h1 ⟨by cases v <;> exact hr, h2⟩ h3 h4 h5 h6 h7⟩
def a_cvk (T T' : List aCe) (c : aCt) (n ci : Nat) : aF := fun a K _ => match a with
  | (pc, la, sa, en, nx, mo) => match app n [] sa with
    | some (vs, .inr (some ks) :: rest) => Bool.and (Bool.and (ks.all (aIs T ci)) (Bool.and (Nat.ble rest.length 4) (aVes en (.inr (some ks) :: vs) c.2.1))) (aAfk c.2.2 pc la rest en nx (aKm T' mo) K)
    | _ => false
theorem aok_cvk {T T' : List aCe} {E : zM → Prop} {Z : zPg} {c : aCt} {n ci D D' : Nat} (hc : aCv (T', E, Z) D' c) (hD' : D' ≤ D) (q1 : aLq T T' = true) (q2 : aLq T' T = true) (q3 : aSb T T' = true) : aOk (T, E, Z) D (zcv c.1 n ci) (a_cvk T T' c n ci) := by
  intro d m0 ν pc la sa en nx mo lo sk mem K R hD h1 h2 h3 h4 h5 h6 h7 hA
  unfold a_cvk at hA
  dsimp only at hA
  split at hA
  · next vs ks rest hap =>
    obtain ⟨hA1, hA2⟩ := (Bool.and_eq_true _ _).mp hA
    obtain ⟨b1, hA3⟩ := (Bool.and_eq_true _ _).mp hA1
    obtain ⟨b2, b3⟩ := (Bool.and_eq_true _ _).mp hA3
    obtain ⟨xs, rs, g1, g2, g3⟩ := app_s (acc := []) hap trivial h2
    obtain ⟨_, rs, rfl, ⟨k, hk, rfl⟩, g4⟩ := aSk_c g3
    obtain ⟨fs, hf⟩ := aIs_s (List.all_eq_true.mp b1 k hk) h6.1
    refine Or.inr (Or.inr ⟨c.1, .ref k :: xs, rs, fun Y rec κ ρ => ?_, yC_mono ?_ (hc d mem _ (Nat.le_trans hD' hD) ⟨aLq_s q1 h6.1, h6.2⟩ (aVes_s h3 b3 ⟨⟨k, hk, rfl⟩, g2⟩))⟩)
    · have e : Bool.and (Nat.beq ci ci) (Nat.ble (zwd rs) 8) = true := by
        rw [zbq, zwd_8 g4 b2]
        rfl
      simp only [zcv, g1, hf, e]
    · rintro r m ⟨w1, w2, w3⟩
      exact aAfk_s hA2 h1 g4 h3 h4 (aKm_s h5 w2) ⟨aLq_s q2 w1.1, w1.2⟩ (aPr_tr h7 (aSb_s q3 w2)) w3
  · cases hA
