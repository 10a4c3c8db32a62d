/-! loops: a place with the types of its locals and a measure (weights of locals, a number) that falls -/
abbrev aNd : Type := Nat × List (Nat × aTy) × List (Nat × Int) × Int
def aMk : List (Nat × aTy) → Nat → List (Nat × aV) × aEn × Nat
  | [], nx => ([], [], nx)
  | (k, .inl q) :: r, nx => match aMk r (nx + 1) with
    | (la, en, m) => ((k, .inl nx) :: la, (nx, q.1, q.2, nx, 0) :: en, m)
  | (k, .inr v) :: r, nx => match aMk r nx with
    | (la, en, m) => ((k, .inr v) :: la, en, m)
def aLt (ls : List (Nat × aTy)) (lo : List (Nat × Value)) : Prop := ∀ q ∈ ls, ∃ x, zlg lo q.1 = some x ∧ aTv q.2 x
theorem aMk_s {lo : List (Nat × Value)} : ∀ {ls : List (Nat × aTy)} {nx : Nat} {ν : List Int32}, aLt ls lo → ν.length = nx → ∃ ν', ν <+: ν' ∧ ν'.length = (aMk ls nx).2.2 ∧ aLo ν' (aMk ls nx).1 lo ∧ aFa ν' (aMk ls nx).2.1
  | [], nx, ν, _, hn => ⟨ν, List.prefix_refl _, hn, fun q h => absurd h List.not_mem_nil, fun q h => absurd h List.not_mem_nil⟩
  | (k, .inl q) :: r, nx, ν, h, hn => by
    obtain ⟨x, h1, y, rfl, h2, h3⟩ := h _ List.mem_cons_self
    obtain ⟨ν', p1, p2, p3, p4⟩ := aMk_s (ls := r) (nx := nx + 1) (ν := ν ++ [y]) (fun q hq => h q (List.mem_cons_of_mem _ hq)) (by rw [List.length_append, hn]; rfl)
    have g := a_pre p1 (a_new y hn)
    exact ⟨ν', (List.prefix_append _ _).trans p1, p2, List.forall_mem_cons.mpr ⟨⟨_, h1, y, g, rfl⟩, p3⟩, List.forall_mem_cons.mpr ⟨⟨y, y, g, h2, h3, g, by show y.toInt = y.toInt + 0; omega⟩, p4⟩⟩
  | (k, .inr v) :: r, nx, ν, h, hn => by
    obtain ⟨x, h1, h2⟩ := h _ List.mem_cons_self
    obtain ⟨ν', p1, p2, p3, p4⟩ := aMk_s (ls := r) (nx := nx) (ν := ν) (fun q hq => h q (List.mem_cons_of_mem _ hq)) hn
    refine ⟨ν', p1, p2, List.forall_mem_cons.mpr ⟨⟨x, h1, ?_⟩, p3⟩, p4⟩
    cases v with
    | none => exact h2
    | some ks => exact h2
/-! the measure's value, and a bound of a sum of symbols -/
def zvl (lo : List (Nat × Value)) (k : Nat) : Int := match zlg lo k with
  | some (.int x) => x.toInt
  | _ => 0
def zms (lo : List (Nat × Value)) : List (Nat × Int) → Int
  | [] => 0
  | (k, w) :: r => w * zvl lo k + zms lo r
def nuv (ν : List Int32) (s : Nat) : Int := match ν[s]? with
  | some x => x.toInt
  | none => 0
def nus (ν : List Int32) : List (Int × Nat) → Int
  | [] => 0
  | (w, s) :: r => w * nuv ν s + nus ν r
def aSy (la : List (Nat × aV)) : List (Nat × Int) → Option (List (Int × Nat))
  | [] => some []
  | (k, w) :: r => match alg la k, aSy la r with
    | some (.inl s), some l => some ((w, s) :: l)
    | _, _ => none
def aIl (ν : List Int32) (l : List (Int × Nat)) : Prop := ∀ q ∈ l, ∃ x, ν[q.2]? = some x
theorem aSy_s {ν : List Int32} {la : List (Nat × aV)} {lo : List (Nat × Value)} (h : aLo ν la lo) : ∀ {ws : List (Nat × Int)} {l : List (Int × Nat)}, aSy la ws = some l → zms lo ws = nus ν l ∧ aIl ν l
  | [], l, k => by
    simp only [aSy, Option.some.injEq] at k
    subst k
    exact ⟨rfl, fun q hq => absurd hq List.not_mem_nil⟩
  | (i, w) :: r, l, k => by
    unfold aSy at k
    split at k
    · next s l' hs hl =>
      simp only [Option.some.injEq] at k
      subst k
      obtain ⟨e1, e2⟩ := aSy_s h hl
      obtain ⟨x, h1, y, h2, rfl⟩ := alg_s h hs
      refine ⟨?_, List.forall_mem_cons.mpr ⟨⟨y, h2⟩, e2⟩⟩
      have a1 : zvl lo i = y.toInt := by unfold zvl; rw [h1]
      have a2 : nuv ν s = y.toInt := by unfold nuv; rw [h2]
      show w * zvl lo i + zms lo r = w * nuv ν s + nus ν l'
      rw [a1, a2, e1]
    · cases k
def aAdd : List (Nat × Int) → Nat → Int → List (Nat × Int)
  | [], b, c => [(b, c)]
  | q :: r, b, c => bif Nat.beq q.1 b then (b, q.2 + c) :: r else q :: aAdd r b c
def nub (ν : List Int32) : List (Nat × Int) → Int
  | [] => 0
  | (b, w) :: r => w * nuv ν b + nub ν r
theorem aAdd_s {ν : List Int32} {b : Nat} {c : Int} : ∀ l : List (Nat × Int), nub ν (aAdd l b c) = nub ν l + c * nuv ν b
  | [] => by show c * nuv ν b + 0 = 0 + c * nuv ν b; omega
  | q :: r => by
    unfold aAdd
    cases hb : Nat.beq q.1 b with
    | true =>
      have e := Nat.eq_of_beq_eq_true hb
      show (q.2 + c) * nuv ν b + nub ν r = (q.2 * nuv ν q.1 + nub ν r) + c * nuv ν b
      rw [e, Int.add_mul]
      omega
    | false =>
      have ih := aAdd_s (ν := ν) (b := b) (c := c) r
      show q.2 * nuv ν q.1 + nub ν (aAdd r b c) = (q.2 * nuv ν q.1 + nub ν r) + c * nuv ν b
      rw [ih]
      omega
def aLin (en : aEn) : List (Int × Nat) → List (Nat × Int) × Int
  | [] => ([], 0)
  | (w, s) :: r => match aLin en r with
    | (l, c) => (aAdd l (aFn en s).2.2.1 w, c + w * (aFn en s).2.2.2)
def aIb (ν : List Int32) (l : List (Nat × Int)) : Prop := ∀ q ∈ l, ∃ x, ν[q.1]? = some x
theorem aAdd_i {ν : List Int32} {b : Nat} {c : Int} {x : Int32} (hx : ν[b]? = some x) : ∀ {l : List (Nat × Int)}, aIb ν l → aIb ν (aAdd l b c)
  | [], _ => List.forall_mem_cons.mpr ⟨⟨x, hx⟩, fun q hq => absurd hq List.not_mem_nil⟩
  | q :: r, h => by
    unfold aAdd
    cases hb : Nat.beq q.1 b with
    | true => exact List.forall_mem_cons.mpr ⟨⟨x, hx⟩, fun p hp => h p (List.mem_cons_of_mem _ hp)⟩
    | false => exact List.forall_mem_cons.mpr ⟨h q List.mem_cons_self, aAdd_i hx (fun p hp => h p (List.mem_cons_of_mem _ hp))⟩
theorem aLin_s {ν : List Int32} {en : aEn} (he : aFa ν en) : ∀ {l : List (Int × Nat)}, aIl ν l → nus ν l = nub ν (aLin en l).1 + (aLin en l).2 ∧ aIb ν (aLin en l).1
  | [], _ => ⟨rfl, fun q hq => absurd hq List.not_mem_nil⟩
  | (w, s) :: r, h => by
    obtain ⟨i1, i2⟩ := aLin_s he (fun p hp => h p (List.mem_cons_of_mem _ hp))
    obtain ⟨x, hx'⟩ := h _ List.mem_cons_self
    have hx : ν[s]? = some x := hx'
    obtain ⟨-, -, y, y1, y2⟩ := aFn_s he hx
    have a1 : nuv ν s = x.toInt := by unfold nuv; rw [hx]
    have a2 : nuv ν (aFn en s).2.2.1 = y.toInt := by unfold nuv; rw [y1]
    refine ⟨?_, aAdd_i y1 i2⟩
    show w * nuv ν s + nus ν r = nub ν (aAdd (aLin en r).1 (aFn en s).2.2.1 w) + ((aLin en r).2 + w * (aFn en s).2.2.2)
    rw [aAdd_s, a1, a2, y2, i1, Int.mul_add]
    omega
def aUp (en : aEn) : List (Nat × Int) → Int
  | [] => 0
  | (b, w) :: r => (bif decide (0 ≤ w) then w * (aFn en b).2.1 else w * (aFn en b).1) + aUp en r
theorem aUp_s {ν : List Int32} {en : aEn} (he : aFa ν en) : ∀ {l : List (Nat × Int)}, aIb ν l → nub ν l ≤ aUp en l
  | [], _ => Int.le_refl _
  | (b, w) :: r, h => by
    have ih := aUp_s he (l := r) (fun p hp => h p (List.mem_cons_of_mem _ hp))
    obtain ⟨x, hx⟩ := h _ List.mem_cons_self
    obtain ⟨e1, e2, -⟩ := aFn_s he hx
    have a1 : nuv ν b = x.toInt := by unfold nuv; rw [hx]
    show w * nuv ν b + nub ν r ≤ (bif decide (0 ≤ w) then w * (aFn en b).2.1 else w * (aFn en b).1) + aUp en r
    rw [a1]
    have : w * x.toInt ≤ (bif decide (0 ≤ w) then w * (aFn en b).2.1 else w * (aFn en b).1) := by
      cases hw : decide (0 ≤ w) with
      | true => exact Int.mul_le_mul_of_nonneg_left e2 (of_decide_eq_true hw)
      | false =>
        have := of_decide_eq_false hw
        exact Int.mul_le_mul_of_nonpos_left (by omega) e1
    omega
def aUb (en : aEn) (l : List (Int × Nat)) : Int := match aLin en l with
  | (b, c) => aUp en b + c
theorem aUb_s {ν : List Int32} {en : aEn} {l : List (Int × Nat)} (he : aFa ν en) (h : aIl ν l) : nus ν l ≤ aUb en l := by
  obtain ⟨i1, i2⟩ := aLin_s he h
  have := aUp_s he i2
  show nus ν l ≤ aUp en (aLin en l).1 + (aLin en l).2
  omega
def aNg (l : List (Int × Nat)) : List (Int × Nat) := l.map (fun q => (-q.1, q.2))
theorem aNg_s {ν : List Int32} : ∀ l : List (Int × Nat), nus ν (aNg l) = - nus ν l
  | [] => rfl
  | (w, s) :: r => by
    have ih := aNg_s (ν := ν) r
    show (-w) * nuv ν s + nus ν (aNg r) = -(w * nuv ν s + nus ν r)
    rw [ih, Int.neg_mul]
    omega
theorem aNg_i {ν : List Int32} {l : List (Int × Nat)} (h : aIl ν l) : aIl ν (aNg l) := fun q hq => by
  obtain ⟨p, hp, rfl⟩ := List.mem_map.mp hq
  exact h p hp
theorem nus_app {ν : List Int32} {b : List (Int × Nat)} : ∀ a : List (Int × Nat), nus ν (a ++ b) = nus ν a + nus ν b
  | [] => by show nus ν b = 0 + nus ν b; omega
  | (w, s) :: r => by
    have ih := nus_app (ν := ν) (b := b) r
    show w * nuv ν s + nus ν (r ++ b) = w * nuv ν s + nus ν r + nus ν b
    rw [ih]
    omega
theorem nus_pre {ν ν' : List Int32} (hp : ν <+: ν') : ∀ {l : List (Int × Nat)}, aIl ν l → nus ν' l = nus ν l ∧ aIl ν' l
  | [], _ => ⟨rfl, fun q hq => absurd hq List.not_mem_nil⟩
  | (w, s) :: r, h => by
    obtain ⟨i1, i2⟩ := nus_pre hp (l := r) (fun p hq => h p (List.mem_cons_of_mem _ hq))
    obtain ⟨x, hx⟩ := h _ List.mem_cons_self
    have hx' := a_pre hp hx
    have a1 : nuv ν s = x.toInt := by unfold nuv; rw [hx]
    have a2 : nuv ν' s = x.toInt := by unfold nuv; rw [hx']
    refine ⟨?_, List.forall_mem_cons.mpr ⟨⟨x, hx'⟩, i2⟩⟩
    show w * nuv ν' s + nus ν' r = w * nuv ν s + nus ν r
    rw [a1, a2, i1]
/-! what is checked where a run comes to such a place -/
def aLe1 (la : List (Nat × aV)) (en : aEn) (q : Nat × aTy) : Bool := match alg la q.1 with
  | some v => aVe en v q.2
  | none => false
def aFd : List aNd → Nat → Option aNd
  | [], _ => none
  | n :: r, pc => bif Nat.beq n.1 pc then some n else aFd r pc
theorem aFd_s : ∀ {ns : List aNd} {pc : Nat} {n : aNd}, aFd ns pc = some n → n ∈ ns ∧ n.1 = pc
  | [], _, _, h => by cases h
  | m :: r, pc, n, h => by
    unfold aFd at h
    cases hb : Nat.beq m.1 pc with
    | true =>
      rw [hb] at h
      simp only [cond_true, Option.some.injEq] at h
      subst h
      exact ⟨List.mem_cons_self, Nat.eq_of_beq_eq_true hb⟩
    | false =>
      rw [hb] at h
      obtain ⟨a, b⟩ := aFd_s h
      exact ⟨List.mem_cons_of_mem _ a, b⟩
def aNc (ns : List aNd) (old : Option (List (Int × Nat) × Int)) (a : aS) : Option Bool := match a with
  | (pc, la, sa, en, _, _) => match aFd ns pc with
    | none => none
    | some n => some (Bool.and (Bool.and (Nat.beq sa.length 0) (n.2.1.all (aLe1 la en))) (match aSy la n.2.2.1 with
      | none => false
      | some l => Bool.and (decide (aUb en (aNg l) ≤ n.2.2.2)) (match old with
        | none => true
        | some o => decide (aUb en (l ++ aNg o.1) + n.2.2.2 < o.2))))
def aRc (τ : Option aTy) (ra : Option aV) (a : aS) : Bool := match τ, ra with
  | none, none => true
  | some τ, some v => aVe a.2.2.2.1 v τ
  | _, _ => false
def aCt1 (τ : aTy) : Nat := match τ with
  | .inr none => 2
  | _ => 1
def aLs : Nat → List aTy → List (Nat × aTy)
  | _, [] => []
  | i, τ :: r => (i, τ) :: aLs (i + aCt1 τ) r
def aWt : List aTy → Nat
  | [] => 0
  | τ :: r => aCt1 τ + aWt r
theorem aCt1_s {τ : aTy} {x : Value} (h : aTv τ x) : x.category = aCt1 τ := by
  rcases τ with q | _ | ks
  · obtain ⟨y, rfl, -⟩ := h; rfl
  · obtain ⟨y, rfl⟩ := h; rfl
  · obtain ⟨y, -, rfl⟩ := h; rfl
theorem aCt1_1 (τ : aTy) : 1 ≤ aCt1 τ := by
  rcases τ with q | _ | ks
  · exact Nat.le_refl 1
  · exact Nat.le_succ 1
  · exact Nat.le_refl 1
theorem aLs_ge : ∀ {i : Nat} {τs : List aTy} {q : Nat × aTy}, q ∈ aLs i τs → i ≤ q.1
  | _, [], _, h => absurd h List.not_mem_nil
  | i, τ :: r, q, h => by
    rcases List.mem_cons.mp h with rfl | h
    · exact Nat.le_refl _
    · exact Nat.le_trans (Nat.le_add_right _ _) (aLs_ge h)
theorem aLs_s : ∀ {i : Nat} {τs : List aTy} {xs : List Value}, aTvs τs xs → aLt (aLs i τs) (lv_args i xs)
  | _, [], _, _ => fun q h => absurd h List.not_mem_nil
  | _, _ :: _, [], h => h.elim
  | i, τ :: r, x :: xs, h => by
    intro q hq
    have e : lv_args i (x :: xs) = (i, x) :: lv_args (i + aCt1 τ) xs := by
      have c := aCt1_s h.1
      have e1 : lv_args i (x :: xs) = (i, x) :: lv_args (if x.category = 2 then i + 2 else i + 1) xs := rfl
      rw [e1]
      rcases lv_cat x with q | q
      · rw [← c, q]; rfl
      · rw [← c, q]; rfl
    rw [e]
    rcases List.mem_cons.mp hq with rfl | hq
    · exact ⟨x, by unfold zlg; rw [zbq]; rfl, h.1⟩
    · have g := aLs_ge hq
      have g1 := aCt1_1 τ
      obtain ⟨y, k1, k2⟩ := aLs_s h.2 q hq
      refine ⟨y, ?_, k2⟩
      unfold zlg
      have eb : Nat.beq i q.1 = false := by
        cases hb : Nat.beq i q.1 with
        | false => rfl
        | true => have := Nat.eq_of_beq_eq_true hb; omega
      show (bif Nat.beq i q.1 then some x else _) = _
      rw [eb]
      exact k1
theorem aWt_s : ∀ {τs : List aTy} {xs : List Value}, aTvs τs xs → zwd xs = aWt τs
  | [], [], _ => rfl
  | [], _ :: _, h => h.elim
  | _ :: _, [], h => h.elim
  | τ :: r, x :: xs, h => by
    have e : zwd (x :: xs) = x.category + zwd xs := rfl
    rw [e, aCt1_s h.1, aWt_s h.2]
    rfl
def aN1 (tb : aTb) (ns : List aNd) (fuel : Nat) (τ : Option aTy) (n : aNd) : Bool := match aMk n.2.1 0 with
  | (la, en, nx) => match aSy la n.2.2.1 with
    | none => false
    | some l => aGo tb (aNc ns (some (l, n.2.2.2))) (aRc τ) fuel (n.1, la, [], en, nx, [])
def aChk (tb : aTb) (ns : List aNd) (fuel nl : Nat) (c : aCt) : Bool := Bool.and (Bool.and (Nat.ble (aWt c.2.1) nl) (match aMk (aLs 0 c.2.1) 0 with
  | (la, en, nx) => aGo tb (aNc ns none) (aRc c.2.2) fuel (0, la, [], en, nx, []))) (ns.all (aN1 tb ns fuel c.2.2))
theorem aNc_s {Θ : aTh} {m0 : zM} {ns : List aNd} {old : Option (List (Int × Nat) × Int)} {a : aS} {ν : List Int32} {st : zS} (h : aNc ns old a = some true) (hg : aGm Θ m0 ν a st) : ∃ n ∈ ns, st.1 = n.1 ∧ st.2.2.1 = [] ∧ aLt n.2.1 st.2.1 ∧ 0 ≤ zms st.2.1 n.2.2.1 + n.2.2.2 ∧ ∀ o, old = some o → aIl ν o.1 → zms st.2.1 n.2.2.1 + n.2.2.2 < nus ν o.1 + o.2 := by
  obtain ⟨pc, la, sa, en, nx, mo⟩ := a
  obtain ⟨pc', lo, sk, mem⟩ := st
  obtain ⟨e0, g1, g2, g3, -⟩ := hg
  have e1 : pc' = pc := e0
  subst e1
  have h1 : aLo ν la lo := g1
  have h2 : aSk ν sa sk := g2
  have h3 : aFa ν en := g3
  unfold aNc at h
  dsimp only at h
  split at h
  · cases h
  · next n hn =>
    simp only [Option.some.injEq] at h
    obtain ⟨q1, q2⟩ := (Bool.and_eq_true _ _).mp h
    obtain ⟨q3, q4⟩ := (Bool.and_eq_true _ _).mp q1
    obtain ⟨n1, n2⟩ := aFd_s hn
    split at q2
    · cases q2
    · next l hl =>
      obtain ⟨q5, q6⟩ := (Bool.and_eq_true _ _).mp q2
      have q5 := of_decide_eq_true q5
      obtain ⟨s1, s2⟩ := aSy_s h1 hl
      have b1 := aUb_s h3 (aNg_i s2)
      rw [aNg_s] at b1
      refine ⟨n, n1, n2.symm, ?_, fun q hq => ?_, ?_, fun o ho hi => ?_⟩
      · have := aSk_len h2
        have q3 := Nat.eq_of_beq_eq_true q3
        show sk = []
        exact List.eq_nil_of_length_eq_zero (by omega)
      · have g := List.all_eq_true.mp q4 q hq
        unfold aLe1 at g
        split at g
        · next v hv =>
          obtain ⟨x, x1, x2⟩ := alg_s h1 hv
          exact ⟨x, x1, aVe_s h3 g x2⟩
        · cases g
      · show 0 ≤ zms lo n.2.2.1 + n.2.2.2
        omega
      · subst ho
        have q6 := of_decide_eq_true q6
        have b2 := aUb_s (l := l ++ aNg o.1) h3 (fun q hq => (List.mem_append.mp hq).elim (s2 q) (aNg_i hi q))
        rw [nus_app, aNg_s] at b2
        show zms lo n.2.2.1 + n.2.2.2 < nus ν o.1 + o.2
        omega
theorem aMeth {Θ : aTh} {D nl fuel : Nat} {c : aCt} {t : zT} {tb : aTb} {ns : List aNd} (hj : Θ.2.2 c.1 = some (nl, t)) (hP : aP1 Θ D t tb) (h : aChk tb ns fuel nl c = true) : aCv Θ (D + 1) c := by
  intro d mem av hd hJ hav
  obtain ⟨b1, b2⟩ := (Bool.and_eq_true _ _).mp h
  obtain ⟨b3, b4⟩ := (Bool.and_eq_true _ _).mp b1
  obtain ⟨d, rfl⟩ : ∃ q, d = q + 1 := ⟨d - 1, by omega⟩
  refine yC_of hj (by rw [aWt_s hav]; exact b3) ?_
  have hR : ∀ (ν0 : List Int32) (a : aS) (ν : List Int32) (st : zS) (ra : Option aV) (r : Option Value), ν0 <+: ν → aRc c.2.2 ra a = true → aGm Θ mem ν a st → aRm ν ra r → (aJ Θ st.2.2.2 ∧ aPr Θ.1 mem st.2.2.2 ∧ aTr c.2.2 r) := fun ν0 a ν st ra r _ hr hg hm => by
    obtain ⟨-, -, -, h3, -, -, h6, h7⟩ := hg
    refine ⟨h6, h7, ?_⟩
    unfold aRc at hr
    split at hr
    · next e1 =>
      rw [e1]
      cases r with
      | none => trivial
      | some x => exact hm.elim
    · next τ v e1 =>
      rw [e1]
      cases r with
      | none => exact hm.elim
      | some x => exact aVe_s h3 hr hm
    · cases hr
  have node : ∀ (M : Nat) (n : aNd) (st : zS), n ∈ ns → st.1 = n.1 → st.2.2.1 = [] → aLt n.2.1 st.2.1 → aJ Θ st.2.2.2 → aPr Θ.1 mem st.2.2.2 → 0 ≤ zms st.2.1 n.2.2.1 + n.2.2.2 → (zms st.2.1 n.2.2.1 + n.2.2.2).toNat = M → yR Θ.2.2 t d st (fun r m => aJ Θ m ∧ aPr Θ.1 mem m ∧ aTr c.2.2 r) := by
    intro M
    induction M using Nat.strongRecOn with
    | ind M ih =>
      intro n st hn e1 e2 hl hJ' hp' h0 hM
      have g := List.all_eq_true.mp b2 n hn
      unfold aN1 at g
      dsimp only at g
      split at g
      · cases g
      · next l hs =>
        obtain ⟨ν, -, p2, p3, p4⟩ := aMk_s (nx := 0) (ν := []) hl rfl
        obtain ⟨s1, s2⟩ := aSy_s p3 hs
        refine aGo_s (m0 := mem) (ν0 := ν) hP (by omega) (fun a ν' st' hp hc hg => ?_) (hR ν) fuel _ ν st (List.prefix_refl _) g ⟨e1, p3, by show aSk ν [] st.2.2.1; rw [e2]; trivial, p4, p2, fun q hq => absurd hq List.not_mem_nil, hJ', hp'⟩
        obtain ⟨n', n1, n2, n3, n4, n5, n6⟩ := aNc_s hc hg
        obtain ⟨w1, w2⟩ := nus_pre hp s2
        have n7 := n6 _ rfl w2
        rw [w1, ← s1] at n7
        obtain ⟨-, -, -, -, -, -, g6, g7⟩ := hg
        have n7 : zms st'.2.1 n'.2.2.1 + n'.2.2.2 < zms st.2.1 n.2.2.1 + n.2.2.2 := n7
        exact ih _ (by omega) n' st' n1 n2 n3 n4 g6 g7 n5 rfl
  obtain ⟨ν, -, p2, p3, p4⟩ := aMk_s (nx := 0) (ν := []) (aLs_s (i := 0) hav) rfl
  refine aGo_s (m0 := mem) (ν0 := ν) hP (by omega) (fun a ν' st' hp hc hg => ?_) (hR ν) fuel _ ν _ (List.prefix_refl _) b4 ⟨rfl, p3, trivial, p4, p2, fun q hq => absurd hq List.not_mem_nil, hJ, aPr_rf⟩
  obtain ⟨n', n1, n2, n3, n4, n5, -⟩ := aNc_s hc hg
  obtain ⟨-, -, -, -, -, -, g6, g7⟩ := hg
  exact node _ n' st' n1 n2 n3 n4 g6 g7 n5 rfl
