section AO
variable {Θ : aTh} {D : Nat}
/-! fields and arrays -/
def aLe (p q : aTy) : Bool := match p, q with
  | .inl p, .inl q => Bool.and (decide (q.1 ≤ p.1)) (decide (p.2 ≤ q.2))
  | .inr none, .inr none => true
  | .inr (some ks), .inr (some qs) => ks.all (fun k => qs.any (fun q => Nat.beq q k))
  | _, _ => false
theorem a_any {qs : List Nat} {k : Nat} (h : qs.any (fun q => Nat.beq q k) = true) : k ∈ qs := by
  obtain ⟨q, h1, h2⟩ := List.any_eq_true.mp h
  rw [← Nat.eq_of_beq_eq_true h2]
  exact h1
theorem aLe_s {p q : aTy} {x : Value} (h : aLe p q = true) (k : aTv p x) : aTv q x := by
  rcases p with p | _ | ks <;> rcases q with q | _ | qs <;> first | (cases h; done) | skip
  · obtain ⟨y, rfl, k1, k2⟩ := k
    obtain ⟨h1, h2⟩ := (Bool.and_eq_true _ _).mp h
    have h1 := of_decide_eq_true h1
    have h2 := of_decide_eq_true h2
    exact ⟨y, rfl, by omega, by omega⟩
  · exact k
  · obtain ⟨y, k1, rfl⟩ := k
    exact ⟨y, a_any (List.all_eq_true.mp h y k1), rfl⟩
/-- a value is of a type -/
def aVe (en : aEn) (v : aV) (q : aTy) : Bool := match v, q with
  | .inl s, .inl q => Bool.and (decide (q.1 ≤ (aFn en s).1)) (decide ((aFn en s).2.1 ≤ q.2))
  | .inr none, .inr none => true
  | .inr (some ks), .inr (some qs) => ks.all (fun k => qs.any (fun q => Nat.beq q k))
  | _, _ => false
theorem aVe_s {ν : List Int32} {en : aEn} {v : aV} {q : aTy} {x : Value} (he : aFa ν en) (h : aVe en v q = true) (k : aG1 ν v x) : aTv q x := by
  rcases v with s | _ | ks <;> rcases q with q | _ | qs <;> first | (cases h; done) | skip
  · obtain ⟨y, k1, rfl⟩ := k
    obtain ⟨h1, h2⟩ := (Bool.and_eq_true _ _).mp h
    have h1 := of_decide_eq_true h1
    have h2 := of_decide_eq_true h2
    have := aFn_s he k1
    exact ⟨y, rfl, by omega, by omega⟩
  · exact k
  · obtain ⟨y, k1, rfl⟩ := k
    exact ⟨y, a_any (List.all_eq_true.mp h y k1), rfl⟩
theorem aTf_at {i : Nat} {q : Bool × aTy} : ∀ {τs : List (Bool × aTy)} {fs : List Value}, aTf τs fs → τs[i]? = some q → ∃ x, fs[i]? = some x ∧ aTv q.2 x
  | [], _, _, h => by simp at h
  | _ :: _, [], h, _ => h.elim
  | τ :: r, x :: fs, h, k => by
    cases i with
    | zero =>
      simp only [List.getElem?_cons_zero, Option.some.injEq] at k
      subst k
      exact ⟨x, by simp, h.1⟩
    | succ i =>
      simp only [List.getElem?_cons_succ] at k ⊢
      exact aTf_at h.2 k
theorem aTf_set {i : Nat} {q : Bool × aTy} {y : Value} : ∀ {τs : List (Bool × aTy)} {fs : List Value}, aTf τs fs → τs[i]? = some q → aTv q.2 y → aTf τs (fs.set i y)
  | [], _, _, h, _ => by simp at h
  | _ :: _, [], h, _, _ => h.elim
  | τ :: r, x :: fs, h, k, hy => by
    cases i with
    | zero =>
      simp only [List.getElem?_cons_zero, Option.some.injEq] at k
      subst k
      exact ⟨hy, h.2⟩
    | succ i =>
      simp only [List.getElem?_cons_succ] at k
      exact ⟨h.1, aTf_set h.2 k hy⟩
theorem aTm_o {T : List aCe} {mem : zM} {k ci : Nat} {τs : List (Bool × aTy)} (h : aTm T mem) (hk : aat T k = some (.inr (ci, τs))) : ∃ fs, zat mem k = some (.inr (ci, fs)) ∧ aTf τs fs := by
  obtain ⟨e, h1, fs, rfl, h2⟩ := h.2 k _ hk
  exact ⟨fs, h1, h2⟩
def aml : aMo → Nat → Nat → Option Nat
  | [], _, _ => none
  | q :: r, k, i => bif Bool.and (Nat.beq q.1.1 k) (Nat.beq q.1.2 i) then some q.2 else aml r k i
theorem aml_s {ν : List Int32} {mem : zM} {k i s : Nat} : ∀ {mo : aMo}, aMm ν mo mem → aml mo k i = some s → ∃ x, ν[s]? = some x ∧ zfl mem k i = some (.int x)
  | [], _, h => by cases h
  | q :: r, hm, h => by
    unfold aml at h
    cases hb : Bool.and (Nat.beq q.1.1 k) (Nat.beq q.1.2 i) with
    | true =>
      rw [hb] at h
      simp only [cond_true, Option.some.injEq] at h
      obtain ⟨b1, b2⟩ := (Bool.and_eq_true _ _).mp hb
      obtain ⟨x, k1, k2⟩ := hm q List.mem_cons_self
      rw [Nat.eq_of_beq_eq_true b1, Nat.eq_of_beq_eq_true b2] at k2
      rw [h] at k1
      exact ⟨x, k1, k2⟩
    | false =>
      rw [hb] at h
      exact aml_s (fun p hp => hm p (List.mem_cons_of_mem _ hp)) h
/-- field i of cell k, of class ci, has type τ at the most -/
def aGf (T : List aCe) (ci i : Nat) (τ : aTy) (k : Nat) : Bool := match aat T k with
  | some (.inr o) => Bool.and (Nat.beq o.1 ci) (match o.2[i]? with
    | some q => aLe q.2 τ
    | none => false)
  | _ => false
theorem aGf_s {T : List aCe} {ci i k : Nat} {τ : aTy} {mem : zM} (h : aGf T ci i τ k = true) (hm : aTm T mem) : ∃ fs x, zat mem k = some (.inr (ci, fs)) ∧ fs[i]? = some x ∧ aTv τ x := by
  unfold aGf at h
  split at h
  · next o ho =>
    obtain ⟨h1, h_1⟩ := (Bool.and_eq_true _ _).mp h
    split at h_1
    · next q hq =>
      obtain ⟨ci', τs⟩ := o
      have h1 : ci' = ci := Nat.eq_of_beq_eq_true h1
      subst h1
      obtain ⟨fs, k1, k2⟩ := aTm_o hm ho
      obtain ⟨x, k3, k4⟩ := aTf_at k2 hq
      exact ⟨fs, x, k1, k3, aLe_s h_1 k4⟩
    · cases h_1
  · cases h
def a_gf (T : List aCe) (ci i : Nat) (τ : aTy) : aF := fun a K _ => match a with
  | (pc, la, .inr (some ks) :: sa, en, nx, mo) => Bool.and (ks.all (aGf T ci i τ)) (match τ with
    | .inl q => match ks with
      | [k] => match aml mo k i with
        | some s => K (pc + 3, la, .inl s :: sa, en, nx, mo)
        | none => K (pc + 3, la, .inl nx :: sa, (nx, q.1, q.2, nx, 0) :: en, nx + 1, ((k, i), nx) :: mo)
      | _ => K (pc + 3, la, .inl nx :: sa, (nx, q.1, q.2, nx, 0) :: en, nx + 1, mo)
    | .inr none => K (pc + 3, la, .inr none :: sa, en, nx, mo)
    | .inr (some qs) => K (pc + 3, la, .inr (some qs) :: sa, en, nx, mo))
  | _ => false
theorem aok_gf {ci i : Nat} {τ : aTy} : aOk Θ D (zgf ci i) (a_gf Θ.1 ci i τ) := by
  intro d m0 ν pc la sa en nx mo lo sk mem K R hD h1 h2 h3 h4 h5 h6 h7 hA
  unfold a_gf at hA
  split at hA
  · next heq =>
    cases heq
    obtain ⟨hA1, hA_1⟩ := (Bool.and_eq_true _ _).mp hA
    obtain ⟨_, sk, rfl, ⟨k, hk, rfl⟩, h2a⟩ := aSk_c h2
    obtain ⟨fs, x, g1, g2, g3⟩ := aGf_s (List.all_eq_true.mp hA1 k hk) h6.1
    have e : ∀ (Y : Type) (rec : zRec Y) (κ : zS → Option Y) (ρ : Option Value → zM → Option Y), zgf ci i Y rec (pc, lo, .ref k :: sk, mem) κ ρ = κ (pc + 3, lo, x :: sk, mem) := fun Y rec κ ρ => by
      simp only [zgf, g1, g2, zbq, cond_true]
    have g4 : zfl mem k i = some x := by unfold zfl; rw [g1]; exact g2
    split at hA_1
    · next q =>
      obtain ⟨y, rfl, q1, q2⟩ := g3
      split at hA_1
      · next k' =>
        rw [List.mem_singleton] at hk
        subst hk
        split at hA_1
        · next s hs =>
          obtain ⟨z, z1, z2⟩ := aml_s h5 hs
          rw [g4] at z2
          cases z2
          exact Or.inl ⟨_, _, ν, List.prefix_refl _, e, hA_1, aGm_mk h1 ⟨⟨y, z1, rfl⟩, h2a⟩ h3 h4 h5 h6 h7⟩
        · exact Or.inl ⟨_, _, ν ++ [y], List.prefix_append _ _, e, hA_1, rfl, aLo_app y h1, ⟨⟨y, a_new y h4, rfl⟩, aSk_app y h2a⟩, List.forall_mem_cons.mpr ⟨aFa1_i h4 q1 q2, aFa_app y h3⟩, by rw [List.length_append, h4]; rfl, List.forall_mem_cons.mpr ⟨⟨y, a_new y h4, g4⟩, aMm_app y h5⟩, h6, h7⟩
      · exact Or.inl ⟨_, _, ν ++ [y], List.prefix_append _ _, e, hA_1, aGm_nw y h1 h2a h3 h4 h5 h6 h7 (aFa1_i h4 q1 q2)⟩
    · obtain ⟨y, rfl⟩ := g3
      exact Or.inl ⟨_, _, ν, List.prefix_refl _, e, hA_1, aGm_mk h1 ⟨⟨y, rfl⟩, h2a⟩ h3 h4 h5 h6 h7⟩
    · exact Or.inl ⟨_, _, ν, List.prefix_refl _, e, hA_1, aGm_mk h1 ⟨g3, h2a⟩ h3 h4 h5 h6 h7⟩
  · cases hA
/-! stores: the types and what is kept stay -/
theorem zfl_ne {mem : zM} {a k i : Nat} {c : zE} (h : ¬ a = k) : zfl (mem.set a c) k i = zfl mem k i := by
  unfold zfl
  rw [zat_ne_set h]
theorem zfl_arr {mem : zM} {a k i : Nat} {c c' : Nat × zA} (h : zat mem a = some (.inl c)) : zfl (mem.set a (.inl c')) k i = zfl mem k i := by
  by_cases q : a = k
  · subst q
    unfold zfl
    rw [zat_eq_set h, h]
  · exact zfl_ne q
theorem aTm_set {T : List aCe} {mem : zM} {a : Nat} {c : aCe} {e e' : zE} (h : aTm T mem) (hc : aat T a = some c) (he : zat mem a = some e) (h' : aTe c e') : aTm T (mem.set a e') := by
  refine ⟨by rw [List.length_set]; exact h.1, fun k c' hk => ?_⟩
  by_cases q : a = k
  · subst q
    rw [hc] at hk
    cases hk
    exact ⟨e', zat_eq_set he, h'⟩
  · rw [zat_ne_set q]
    exact h.2 k c' hk
theorem aPr_arr {T : List aCe} {m0 mem : zM} {a : Nat} {c c' : Nat × zA} (h : aPr T m0 mem) (ha : aKa T a = false) (he : zat mem a = some (.inl c)) : aPr T m0 (mem.set a (.inl c')) := by
  refine ⟨fun k hk => ?_, fun k i hk => ?_⟩
  · rw [zat_ne_set (fun q => by rw [q, hk] at ha; cases ha)]
    exact h.1 k hk
  · rw [zfl_arr he]
    exact h.2 k i hk
theorem aJ_arr {m0 mem : zM} {a : Nat} {ct : aCe} {c c' : Nat × zA} (hE : aEs Θ) (h6 : aJ Θ mem) (h7 : aPr Θ.1 m0 mem) (ha : aKa Θ.1 a = false) (hc : aat Θ.1 a = some ct) (he : zat mem a = some (.inl c)) (h' : aTe ct (.inl c')) : aJ Θ (mem.set a (.inl c')) ∧ aPr Θ.1 m0 (mem.set a (.inl c')) := by
  have t1 := aTm_set h6.1 hc he h'
  exact ⟨⟨t1, hE mem _ (aPr_arr aPr_rf ha he) t1 h6.2⟩, aPr_arr h7 ha he⟩
theorem aMm_arr {ν : List Int32} {mo : aMo} {mem : zM} {a : Nat} {c c' : Nat × zA} (h : aMm ν mo mem) (he : zat mem a = some (.inl c)) : aMm ν mo (mem.set a (.inl c')) := fun q hq => by
  obtain ⟨x, h1, h2⟩ := h q hq
  exact ⟨x, h1, by rw [zfl_arr he]; exact h2⟩
/-- a value may be put into field i of cell k -/
def aPf (T : List aCe) (en : aEn) (v : aV) (ci i : Nat) (k : Nat) : Bool := match aat T k with
  | some (.inr o) => Bool.and (Nat.beq o.1 ci) (match o.2[i]? with
    | some (false, τ) => aVe en v τ
    | _ => false)
  | _ => false
def aFt (en : aEn) (ty : FieldType) (v : aV) : Bool := match ty, v with
  | .int, .inl _ => true
  | .long, .inr none => true
  | .boolean, .inl s => Bool.and (decide (0 ≤ (aFn en s).1)) (decide ((aFn en s).2.1 ≤ 1))
  | .object _, .inr (some _) => true
  | .array _, .inr (some _) => true
  | _, _ => false
theorem aFt_s {ν : List Int32} {en : aEn} {ty : FieldType} {v : aV} {x : Value} (he : aFa ν en) (h : aFt en ty v = true) (k : aG1 ν v x) : zfit ty x = true := by
  unfold aFt at h
  split at h
  · obtain ⟨y, -, rfl⟩ := k; rfl
  · obtain ⟨y, rfl⟩ := k; rfl
  · obtain ⟨y, k1, rfl⟩ := k
    obtain ⟨h1, h2⟩ := (Bool.and_eq_true _ _).mp h
    have h1 := of_decide_eq_true h1
    have h2 := of_decide_eq_true h2
    have := aFn_s he k1
    exact i32_01 (by omega) (by omega)
  · obtain ⟨y, -, rfl⟩ := k; rfl
  · obtain ⟨y, -, rfl⟩ := k; rfl
  · cases h
def aMf (mo : aMo) (ks : List Nat) (i : Nat) : aMo := mo.filter (fun q => !(Bool.and (Nat.beq q.1.2 i) (ks.any (fun k => Nat.beq k q.1.1))))
def aMp (mo : aMo) (ks : List Nat) (i : Nat) (v : aV) : aMo := match v, ks with
  | .inl s, [k] => ((k, i), s) :: aMf mo ks i
  | _, _ => aMf mo ks i
def a_pf (T : List aCe) (ci i : Nat) (ty : FieldType) : aF := fun a K _ => match a with
  | (pc, la, v :: .inr (some ks) :: sa, en, nx, mo) => Bool.and (Bool.and (ks.all (aPf T en v ci i)) (aFt en ty v)) (K (pc + 3, la, sa, en, nx, aMp mo ks i v))
  | _ => false
theorem aok_pf {ci i : Nat} {ty : FieldType} (hE : aEs Θ) : aOk Θ D (zpf ci i ty) (a_pf Θ.1 ci i ty) := by
  intro d m0 ν pc la sa en nx mo lo sk mem K R hD h1 h2 h3 h4 h5 h6 h7 hA
  unfold a_pf at hA
  split at hA
  · next heq =>
    cases heq
    rename_i v ks sa
    obtain ⟨hA1, hA_1⟩ := (Bool.and_eq_true _ _).mp hA
    obtain ⟨hA1_1, hA2⟩ := (Bool.and_eq_true _ _).mp hA1
    obtain ⟨x, sk, rfl, k1, h2a⟩ := aSk_c h2
    obtain ⟨_, sk, rfl, ⟨k, hk, rfl⟩, h2b⟩ := aSk_c h2a
    have g := List.all_eq_true.mp hA1_1 k hk
    unfold aPf at g
    split at g
    · next o ho =>
      obtain ⟨g1, g_1⟩ := (Bool.and_eq_true _ _).mp g
      split at g_1
      · next τ hτ =>
        obtain ⟨ci', τs⟩ := o
        have g1 : ci' = ci := Nat.eq_of_beq_eq_true g1
        subst g1
        obtain ⟨fs, f1, f2⟩ := aTm_o h6.1 ho
        obtain ⟨y, f3, f4⟩ := aTf_at f2 hτ
        have hx : aTv τ x := aVe_s h3 g_1 k1
        have t1 : aTm Θ.1 (mem.set k (.inr (ci', fs.set i x))) := aTm_set h6.1 ho f1 ⟨_, rfl, aTf_set f2 hτ hx⟩
        have hka : aKa Θ.1 k = false := by unfold aKa; rw [ho]
        have hkf : aKf Θ.1 k i = false := by unfold aKf; rw [ho]; show (match τs[i]? with | some τ => τ.1 | none => false) = false; rw [hτ]
        have hz : ∀ k' i', ¬ (k' = k ∧ i' = i) → zfl (mem.set k (.inr (ci', fs.set i x))) k' i' = zfl mem k' i' := fun k' i' hn => by
          by_cases q : k = k'
          · subst q
            unfold zfl
            rw [zat_eq_set f1, f1]
            show (fs.set i x)[i']? = fs[i']?
            rw [List.getElem?_set_ne (fun z => hn ⟨rfl, z.symm⟩)]
          · exact zfl_ne q
        have pr : ∀ m1, aPr Θ.1 m1 mem → aPr Θ.1 m1 (mem.set k (.inr (ci', fs.set i x))) := fun m1 hm => ⟨fun k' hk' => by
          rw [zat_ne_set (fun q => by rw [q, hk'] at hka; cases hka)]
          exact hm.1 k' hk', fun k' i' hk' => by
          rw [hz k' i' (fun q => by rw [q.1, q.2, hkf] at hk'; cases hk')]
          exact hm.2 k' i' hk'⟩
        have mf : aMm ν (aMf mo ks i) (mem.set k (.inr (ci', fs.set i x))) := fun q hq => by
          obtain ⟨q1, q2⟩ := List.mem_filter.mp hq
          obtain ⟨z, z1, z2⟩ := h5 q q1
          refine ⟨z, z1, ?_⟩
          rw [hz]
          · exact z2
          · rintro ⟨w1, w2⟩
            have : ks.any (fun k => Nat.beq k q.1.1) = true := List.any_eq_true.mpr ⟨k, hk, by rw [w1]; exact zbq k⟩
            rw [this, w2, zbq] at q2
            cases q2
        refine Or.inl ⟨(pc + 3, lo, sk, mem.set k (.inr (ci', fs.set i x))), _, ν, List.prefix_refl _, fun Y rec κ ρ => ?_, hA_1, aGm_mk h1 h2b h3 h4 ?_ ⟨t1, hE mem _ (pr mem aPr_rf) t1 h6.2⟩ (pr m0 h7)⟩
        · have e : Bool.and (Nat.beq ci' ci') (Bool.and (Nat.ble (i + 1) fs.length) (zfit ty x)) = true := by
            rw [zbq, aFt_s h3 hA2 k1, Nat.ble_eq_true_of_le (List.getElem?_eq_some_iff.mp f3).1]
            rfl
          simp only [zpf, f1, e]
        · unfold aMp
          split
          · next s k' =>
            rw [List.mem_singleton] at hk
            subst hk
            obtain ⟨y', w1, rfl⟩ := k1
            refine List.forall_mem_cons.mpr ⟨⟨y', w1, ?_⟩, mf⟩
            show zfl _ k i = _
            unfold zfl
            rw [zat_eq_set f1]
            exact List.getElem?_set_self (List.getElem?_eq_some_iff.mp f3).1
          · exact mf
      · cases g_1
    · cases g
  · cases hA
/-- cell k is an array of ints of kind tt, longer than the index; its elements in q at the most -/
def aGa (T : List aCe) (tt : Nat) (hi : Int) (q : Int × Int) (k : Nat) : Bool := match aat T k with
  | some (.inl (_, t', n, .inl p)) => Bool.and (Nat.beq t' tt) (Bool.and (decide (hi < (n : Int))) (Bool.and (decide (q.1 ≤ p.1)) (decide (p.2 ≤ q.2))))
  | _ => false
theorem aTm_a {T : List aCe} {mem : zM} {k tt n : Nat} {b : Bool} {p : Int × Int} (h : aTm T mem) (hk : aat T k = some (.inl (b, tt, n, .inl p))) : ∃ l : List Int32, zat mem k = some (.inl (tt, .inl l)) ∧ l.length = n ∧ ∀ x ∈ l, p.1 ≤ x.toInt ∧ x.toInt ≤ p.2 := by
  obtain ⟨e, h1, l, rfl, h2, h3⟩ := h.2 k _ hk
  exact ⟨l, h1, h2, h3⟩
def a_al (T : List aCe) (tt : Nat) (q : Int × Int) : aF := fun a K _ => match a with
  | (pc, la, .inl s :: .inr (some ks) :: sa, en, nx, mo) => Bool.and (Bool.and (decide (0 ≤ (aFn en s).1)) (ks.all (aGa T tt (aFn en s).2.1 q))) (K (pc + 1, la, .inl nx :: sa, (nx, q.1, q.2, nx, 0) :: en, nx + 1, mo))
  | _ => false
theorem z_getD {l : List Int32} {x : Int32} (h0 : 0 ≤ x.toInt) (h1 : x.toInt < l.length) : l.getD x.toNatClampNeg 0 ∈ l := by
  have h := zclamp h0
  have h2 : x.toNatClampNeg < l.length := by omega
  rw [List.getD_eq_getElem?_getD, List.getElem?_eq_getElem h2]
  exact List.getElem_mem h2
theorem aok_al {tt : Nat} {q : Int × Int} : aOk Θ D (zal tt) (a_al Θ.1 tt q) := by
  intro d m0 ν pc la sa en nx mo lo sk mem K R hD h1 h2 h3 h4 h5 h6 h7 hA
  unfold a_al at hA
  split at hA
  · next heq =>
    cases heq
    obtain ⟨hA1, hA_1⟩ := (Bool.and_eq_true _ _).mp hA
    obtain ⟨hA1_1, hA2⟩ := (Bool.and_eq_true _ _).mp hA1
    have hA1_1 := of_decide_eq_true hA1_1
    obtain ⟨_, sk, rfl, ⟨x, k1, rfl⟩, h2a⟩ := aSk_c h2
    obtain ⟨_, sk, rfl, ⟨k, hk, rfl⟩, h2b⟩ := aSk_c h2a
    have e1 := aFn_s h3 k1
    have g := List.all_eq_true.mp hA2 k hk
    unfold aGa at g
    split at g
    · next b t' n p hp =>
      obtain ⟨g1, g_1⟩ := (Bool.and_eq_true _ _).mp g
      obtain ⟨g2, g_2⟩ := (Bool.and_eq_true _ _).mp g_1
      obtain ⟨g3, g4⟩ := (Bool.and_eq_true _ _).mp g_2
      have g1 := Nat.eq_of_beq_eq_true g1
      subst g1
      have g2 := of_decide_eq_true g2
      have g3 := of_decide_eq_true g3
      have g4 := of_decide_eq_true g4
      obtain ⟨l, l1, l2, l3⟩ := aTm_a h6.1 hp
      have x0 : 0 ≤ x.toInt := by omega
      have x1 : x.toInt < l.length := by omega
      have l4 := l3 _ (z_getD x0 x1)
      refine Or.inl ⟨(pc + 1, lo, .int (l.getD x.toNatClampNeg 0) :: sk, mem), _, ν ++ [l.getD x.toNatClampNeg 0], List.prefix_append _ _, fun Y rec κ ρ => ?_, hA_1, aGm_nw _ h1 h2b h3 h4 h5 h6 h7 (aFa1_i h4 (by omega) (by omega))⟩
      have e : Bool.and (Nat.beq t' t') (zixl x l) = true := by
        rw [zbq, zixl_t x0 x1]
        rfl
      simp only [zal, l1, e]
    · cases g
  · cases hA
def aGs (T : List aCe) (tt : Nat) (hi : Int) (q : Int × Int) (k : Nat) : Bool := match aat T k with
  | some (.inl (false, t', n, .inl p)) => Bool.and (Nat.beq t' tt) (Bool.and (decide (hi < (n : Int))) (Bool.and (decide (p.1 ≤ q.1)) (decide (q.2 ≤ p.2))))
  | _ => false
def a_as (T : List aCe) (tt : Nat) : aF := fun a K _ => match a with
  | (pc, la, .inl v :: .inl s :: .inr (some ks) :: sa, en, nx, mo) => Bool.and (Bool.and (decide (0 ≤ (aFn en s).1)) (ks.all (aGs T tt (aFn en s).2.1 ((aFn en v).1, (aFn en v).2.1)))) (K (pc + 1, la, sa, en, nx, mo))
  | _ => false
theorem aok_as {tt : Nat} (hE : aEs Θ) : aOk Θ D (zas tt) (a_as Θ.1 tt) := by
  intro d m0 ν pc la sa en nx mo lo sk mem K R hD h1 h2 h3 h4 h5 h6 h7 hA
  unfold a_as at hA
  split at hA
  · next heq =>
    cases heq
    obtain ⟨hA1, hA_1⟩ := (Bool.and_eq_true _ _).mp hA
    obtain ⟨hA1_1, hA2⟩ := (Bool.and_eq_true _ _).mp hA1
    have hA1_1 := of_decide_eq_true hA1_1
    obtain ⟨_, sk, rfl, ⟨y, k0, rfl⟩, h2a⟩ := aSk_c h2
    obtain ⟨_, sk, rfl, ⟨x, k1, rfl⟩, h2b⟩ := aSk_c h2a
    obtain ⟨_, sk, rfl, ⟨k, hk, rfl⟩, h2c⟩ := aSk_c h2b
    have e0 := aFn_s h3 k0
    have e1 := aFn_s h3 k1
    have g := List.all_eq_true.mp hA2 k hk
    unfold aGs at g
    split at g
    · next t' n p hp =>
      obtain ⟨g1, g_1⟩ := (Bool.and_eq_true _ _).mp g
      obtain ⟨g2, g_2⟩ := (Bool.and_eq_true _ _).mp g_1
      obtain ⟨g3, g4⟩ := (Bool.and_eq_true _ _).mp g_2
      have g1 := Nat.eq_of_beq_eq_true g1
      subst g1
      have g2 := of_decide_eq_true g2
      have g3 := of_decide_eq_true g3
      have g4 := of_decide_eq_true g4
      obtain ⟨l, l1, l2, l3⟩ := aTm_a h6.1 hp
      have x0 : 0 ≤ x.toInt := by omega
      have x1 : x.toInt < l.length := by omega
      obtain ⟨j1, j2⟩ := aJ_arr (c' := (t', .inl (l.set x.toNatClampNeg y))) hE h6 h7 (by unfold aKa; rw [hp]) hp l1 ⟨_, rfl, by rw [List.length_set]; exact l2, fun z hz => by
        rcases List.mem_or_eq_of_mem_set hz with q | q
        · exact l3 z q
        · subst q
          exact ⟨by show p.1 ≤ _; omega, by show _ ≤ p.2; omega⟩⟩
      refine Or.inl ⟨(pc + 1, lo, sk, mem.set k (.inl (t', .inl (l.set x.toNatClampNeg y)))), _, ν, List.prefix_refl _, fun Y rec κ ρ => ?_, hA_1, aGm_mk h1 h2c h3 h4 (aMm_arr h5 l1) j1 j2⟩
      have e : Bool.and (Nat.beq t' t') (Bool.and (zixl x l) true) = true := by
        rw [zbq, zixl_t x0 x1]
        rfl
      simp only [zas, l1, e]
    · cases g
  · cases hA
/-! arrays of longs and of references; an array's length; a copy -/
def aGl (T : List aCe) (tt : Nat) (hi : Int) (wr : Bool) (k : Nat) : Bool := match aat T k with
  | some (.inl (b, t', n, .inr none)) => Bool.and (Nat.beq t' tt) (Bool.and (decide (hi < (n : Int))) (Bool.or (!wr) (!b)))
  | _ => false
theorem aTm_l {T : List aCe} {mem : zM} {k tt n : Nat} {b : Bool} (h : aTm T mem) (hk : aat T k = some (.inl (b, tt, n, .inr none))) : ∃ l : List Int64, zat mem k = some (.inl (tt, .inr (.inl l))) ∧ l.length = n := by
  obtain ⟨e, h1, l, rfl, h2⟩ := h.2 k _ hk
  exact ⟨l, h1, h2⟩
def a_lal (T : List aCe) (tt : Nat) : aF := fun a K _ => match a with
  | (pc, la, .inl s :: .inr (some ks) :: sa, en, nx, mo) => Bool.and (Bool.and (decide (0 ≤ (aFn en s).1)) (ks.all (aGl T tt (aFn en s).2.1 false))) (K (pc + 1, la, .inr none :: sa, en, nx, mo))
  | _ => false
theorem aok_lal {tt : Nat} : aOk Θ D (zll tt) (a_lal Θ.1 tt) := by
  intro d m0 ν pc la sa en nx mo lo sk mem K R hD h1 h2 h3 h4 h5 h6 h7 hA
  unfold a_lal at hA
  split at hA
  · next heq =>
    cases heq
    obtain ⟨hA1, hA_1⟩ := (Bool.and_eq_true _ _).mp hA
    obtain ⟨hA1_1, hA2⟩ := (Bool.and_eq_true _ _).mp hA1
    have hA1_1 := of_decide_eq_true hA1_1
    obtain ⟨_, sk, rfl, ⟨x, k1, rfl⟩, h2a⟩ := aSk_c h2
    obtain ⟨_, sk, rfl, ⟨k, hk, rfl⟩, h2b⟩ := aSk_c h2a
    have e1 := aFn_s h3 k1
    have g := List.all_eq_true.mp hA2 k hk
    unfold aGl at g
    split at g
    · next b t' n hp =>
      obtain ⟨g1, g_1⟩ := (Bool.and_eq_true _ _).mp g
      obtain ⟨g2, g_2⟩ := (Bool.and_eq_true _ _).mp g_1
      have g1 := Nat.eq_of_beq_eq_true g1
      subst g1
      have g2 := of_decide_eq_true g2
      obtain ⟨l, l1, l2⟩ := aTm_l h6.1 hp
      have x0 : 0 ≤ x.toInt := by omega
      have x1 : x.toInt < l.length := by omega
      refine Or.inl ⟨(pc + 1, lo, .long (l.getD x.toNatClampNeg 0) :: sk, mem), _, ν, List.prefix_refl _, fun Y rec κ ρ => ?_, hA_1, aGm_mk h1 ⟨⟨_, rfl⟩, h2b⟩ h3 h4 h5 h6 h7⟩
      have e : Bool.and (Nat.beq t' t') (zixl x l) = true := by
        rw [zbq, zixl_t x0 x1]
        rfl
      simp only [zll, l1, e]
    · cases g
  · cases hA
def a_las (T : List aCe) (tt : Nat) : aF := fun a K _ => match a with
  | (pc, la, .inr none :: .inl s :: .inr (some ks) :: sa, en, nx, mo) => Bool.and (Bool.and (decide (0 ≤ (aFn en s).1)) (ks.all (aGl T tt (aFn en s).2.1 true))) (K (pc + 1, la, sa, en, nx, mo))
  | _ => false
theorem aok_las {tt : Nat} (hE : aEs Θ) : aOk Θ D (zla tt) (a_las Θ.1 tt) := by
  intro d m0 ν pc la sa en nx mo lo sk mem K R hD h1 h2 h3 h4 h5 h6 h7 hA
  unfold a_las at hA
  split at hA
  · next heq =>
    cases heq
    obtain ⟨hA1, hA_1⟩ := (Bool.and_eq_true _ _).mp hA
    obtain ⟨hA1_1, hA2⟩ := (Bool.and_eq_true _ _).mp hA1
    have hA1_1 := of_decide_eq_true hA1_1
    obtain ⟨_, sk, rfl, ⟨y, rfl⟩, h2a⟩ := aSk_c h2
    obtain ⟨_, sk, rfl, ⟨x, k1, rfl⟩, h2b⟩ := aSk_c h2a
    obtain ⟨_, sk, rfl, ⟨k, hk, rfl⟩, h2c⟩ := aSk_c h2b
    have e1 := aFn_s h3 k1
    have g := List.all_eq_true.mp hA2 k hk
    unfold aGl at g
    split at g
    · next b t' n hp =>
      obtain ⟨g1, g_1⟩ := (Bool.and_eq_true _ _).mp g
      obtain ⟨g2, g_2⟩ := (Bool.and_eq_true _ _).mp g_1
      have g1 := Nat.eq_of_beq_eq_true g1
      subst g1
      have g2 := of_decide_eq_true g2
      have hb : b = false := by
        cases b with
        | false => rfl
        | true => cases g_2
      subst hb
      obtain ⟨l, l1, l2⟩ := aTm_l h6.1 hp
      have x0 : 0 ≤ x.toInt := by omega
      have x1 : x.toInt < l.length := by omega
      obtain ⟨j1, j2⟩ := aJ_arr (c' := (t', .inr (.inl (l.set x.toNatClampNeg y)))) hE h6 h7 (by unfold aKa; rw [hp]) hp l1 ⟨_, rfl, by rw [List.length_set]; exact l2⟩
      refine Or.inl ⟨(pc + 1, lo, sk, mem.set k (.inl (t', .inr (.inl (l.set x.toNatClampNeg y))))), _, ν, List.prefix_refl _, fun Y rec κ ρ => ?_, hA_1, aGm_mk h1 h2c h3 h4 (aMm_arr h5 l1) j1 j2⟩
      have e : Bool.and (Nat.beq t' t') (Bool.and (zixl x l) true) = true := by
        rw [zbq, zixl_t x0 x1]
        rfl
      simp only [zla, l1, e]
    · cases g
  · cases hA
def aGq (T : List aCe) (tt : Nat) (hi : Int) (qs : List Nat) (k : Nat) : Bool := match aat T k with
  | some (.inl (_, t', n, .inr (some ks))) => Bool.and (Nat.beq t' tt) (Bool.and (decide (hi < (n : Int))) (ks.all (fun k => qs.any (fun q => Nat.beq q k))))
  | _ => false
theorem aTm_q {T : List aCe} {mem : zM} {k tt n : Nat} {b : Bool} {ks : List Nat} (h : aTm T mem) (hk : aat T k = some (.inl (b, tt, n, .inr (some ks)))) : ∃ l : List (Option Nat), zat mem k = some (.inl (tt, .inr (.inr l))) ∧ l.length = n ∧ ∀ x ∈ l, ∃ k, k ∈ ks ∧ x = some k := by
  obtain ⟨e, h1, l, rfl, h2, h3⟩ := h.2 k _ hk
  exact ⟨l, h1, h2, h3⟩
def a_aal (T : List aCe) (tt : Nat) (qs : List Nat) : aF := fun a K _ => match a with
  | (pc, la, .inl s :: .inr (some ks) :: sa, en, nx, mo) => Bool.and (Bool.and (decide (0 ≤ (aFn en s).1)) (ks.all (aGq T tt (aFn en s).2.1 qs))) (K (pc + 1, la, .inr (some qs) :: sa, en, nx, mo))
  | _ => false
theorem aok_aal {tt : Nat} {qs : List Nat} : aOk Θ D (zaq tt) (a_aal Θ.1 tt qs) := by
  intro d m0 ν pc la sa en nx mo lo sk mem K R hD h1 h2 h3 h4 h5 h6 h7 hA
  unfold a_aal at hA
  split at hA
  · next heq =>
    cases heq
    obtain ⟨hA1, hA_1⟩ := (Bool.and_eq_true _ _).mp hA
    obtain ⟨hA1_1, hA2⟩ := (Bool.and_eq_true _ _).mp hA1
    have hA1_1 := of_decide_eq_true hA1_1
    obtain ⟨_, sk, rfl, ⟨x, k1, rfl⟩, h2a⟩ := aSk_c h2
    obtain ⟨_, sk, rfl, ⟨k, hk, rfl⟩, h2b⟩ := aSk_c h2a
    have e1 := aFn_s h3 k1
    have g := List.all_eq_true.mp hA2 k hk
    unfold aGq at g
    split at g
    · next b t' n ks' hp =>
      obtain ⟨g1, g_1⟩ := (Bool.and_eq_true _ _).mp g
      obtain ⟨g2, g_2⟩ := (Bool.and_eq_true _ _).mp g_1
      have g1 := Nat.eq_of_beq_eq_true g1
      subst g1
      have g2 := of_decide_eq_true g2
      obtain ⟨l, l1, l2, l3⟩ := aTm_q h6.1 hp
      have x0 : 0 ≤ x.toInt := by omega
      have x1 : x.toInt < l.length := by omega
      have hcl := zclamp x0
      have x2 : x.toNatClampNeg < l.length := by omega
      obtain ⟨w, w1, w2⟩ := l3 _ (List.getElem_mem x2)
      have w3 : l.getD x.toNatClampNeg none = some w := by
        rw [List.getD_eq_getElem?_getD, List.getElem?_eq_getElem x2, w2]
        rfl
      refine Or.inl ⟨(pc + 1, lo, .ref w :: sk, mem), _, ν, List.prefix_refl _, fun Y rec κ ρ => ?_, hA_1, aGm_mk h1 ⟨⟨w, a_any (List.all_eq_true.mp g_2 w w1), rfl⟩, h2b⟩ h3 h4 h5 h6 h7⟩
      have e : Bool.and (Nat.beq t' t') (zixl x l) = true := by
        rw [zbq, zixl_t x0 x1]
        rfl
      simp only [zaq, l1, e, w3]
    · cases g
  · cases hA
def aGn (T : List aCe) (tt n : Nat) (k : Nat) : Bool := match aat T k with
  | some (.inl (_, t', m, .inl _)) => Bool.and (Nat.beq t' tt) (Nat.beq m n)
  | _ => false
def a_len (T : List aCe) (tt n : Nat) : aF := fun a K _ => match a with
  | (pc, la, .inr (some ks) :: sa, en, nx, mo) => Bool.and (Bool.and (ks.all (aGn T tt n)) (Nat.ble n 2147483647)) (K (pc + 1, la, .inl nx :: sa, (nx, (n : Int), (n : Int), nx, 0) :: en, nx + 1, mo))
  | _ => false
theorem i32_nat {n : Nat} (h : n ≤ 2147483647) : (Int32.ofNat n).toInt = (n : Int) := Int32.toInt_ofNat_small (by omega)
theorem aok_len {tt n : Nat} : aOk Θ D (zle4 tt) (a_len Θ.1 tt n) := by
  intro d m0 ν pc la sa en nx mo lo sk mem K R hD h1 h2 h3 h4 h5 h6 h7 hA
  unfold a_len at hA
  split at hA
  · next heq =>
    cases heq
    obtain ⟨hA1, hA_1⟩ := (Bool.and_eq_true _ _).mp hA
    obtain ⟨hA1_1, hA2⟩ := (Bool.and_eq_true _ _).mp hA1
    obtain ⟨_, sk, rfl, ⟨k, hk, rfl⟩, h2a⟩ := aSk_c h2
    have g := List.all_eq_true.mp hA1_1 k hk
    unfold aGn at g
    split at g
    · next b t' m p hp =>
      obtain ⟨g1, g2⟩ := (Bool.and_eq_true _ _).mp g
      have g1 := Nat.eq_of_beq_eq_true g1
      have g2 := Nat.eq_of_beq_eq_true g2
      subst g1
      subst g2
      obtain ⟨l, l1, l2, -⟩ := aTm_a h6.1 hp
      have e1 := i32_nat (Nat.le_of_ble_eq_true hA2)
      refine Or.inl ⟨(pc + 1, lo, .int (Int32.ofNat m) :: sk, mem), _, ν ++ [Int32.ofNat m], List.prefix_append _ _, fun Y rec κ ρ => ?_, hA_1, aGm_nw _ h1 h2a h3 h4 h5 h6 h7 (aFa1_i h4 (by omega) (by omega))⟩
      simp only [zle4, l1, zbq, cond_true, zaz, l2]
    · cases g
  · cases hA
/-- System.arraycopy of ints: from k0 (elements in q) into k -/
def a_cp (T : List aCe) (tt : Nat) (q : Int × Int) : aF := fun a K _ => match a with
  | (pc, la, .inl n :: .inl dp :: .inr (some ks) :: .inl sp :: .inr (some k0) :: sa, en, nx, mo) => Bool.and (Bool.and (Bool.and (decide (0 ≤ (aFn en n).1)) (Bool.and (decide (0 ≤ (aFn en dp).1)) (decide (0 ≤ (aFn en sp).1)))) (Bool.and (Nat.ble sa.length 4) (Bool.and (k0.all (aGa T tt ((aFn en sp).2.1 + (aFn en n).2.1 - 1) q)) (ks.all (aGs T tt ((aFn en dp).2.1 + (aFn en n).2.1 - 1) q))))) (K (pc + 3, la, sa, en, nx, mo))
  | _ => false
theorem zcpl_mem {f g : List Int32} {sp dp n : Nat} {x : Int32} (hs : sp + n ≤ f.length) (h : x ∈ zcpl f g sp dp n) : x ∈ f ∨ x ∈ g := by
  unfold zcpl at h
  obtain ⟨j, hj, rfl⟩ := List.mem_map.mp h
  have hj := List.mem_range.mp hj
  unfold va_cpy
  split
  · next q =>
    left
    have h2 : sp + (j - dp) < f.length := by omega
    show f.getD (sp + (j - dp)) 0 ∈ f
    rw [List.getD_eq_getElem?_getD, List.getElem?_eq_getElem h2]
    exact List.getElem_mem h2
  · right
    show g.getD j 0 ∈ g
    rw [List.getD_eq_getElem?_getD, List.getElem?_eq_getElem hj]
    exact List.getElem_mem hj
theorem aok_cp {tt : Nat} {q : Int × Int} (hE : aEs Θ) : aOk Θ D (zcp tt) (a_cp Θ.1 tt q) := by
  intro d m0 ν pc la sa en nx mo lo sk mem K R hD h1 h2 h3 h4 h5 h6 h7 hA
  unfold a_cp at hA
  split at hA
  · next heq =>
    cases heq
    obtain ⟨hA1, hA_1⟩ := (Bool.and_eq_true _ _).mp hA
    obtain ⟨hB, hC⟩ := (Bool.and_eq_true _ _).mp hA1
    obtain ⟨b1, hB_1⟩ := (Bool.and_eq_true _ _).mp hB
    obtain ⟨b2, b3⟩ := (Bool.and_eq_true _ _).mp hB_1
    have b1 := of_decide_eq_true b1
    have b2 := of_decide_eq_true b2
    have b3 := of_decide_eq_true b3
    obtain ⟨c1, hC_1⟩ := (Bool.and_eq_true _ _).mp hC
    obtain ⟨c2, c3⟩ := (Bool.and_eq_true _ _).mp hC_1
    obtain ⟨_, sk, rfl, ⟨n, k1, rfl⟩, h2a⟩ := aSk_c h2
    obtain ⟨_, sk, rfl, ⟨dp, k2, rfl⟩, h2b⟩ := aSk_c h2a
    obtain ⟨_, sk, rfl, ⟨k, hk, rfl⟩, h2c⟩ := aSk_c h2b
    obtain ⟨_, sk, rfl, ⟨sp, k3, rfl⟩, h2d⟩ := aSk_c h2c
    obtain ⟨_, sk, rfl, ⟨k0, hk0, rfl⟩, h2e⟩ := aSk_c h2d
    have e1 := aFn_s h3 k1
    have e2 := aFn_s h3 k2
    have e3 := aFn_s h3 k3
    have g := List.all_eq_true.mp c3 k hk
    have g' := List.all_eq_true.mp c2 k0 hk0
    unfold aGs at g
    split at g
    · next t' nn p hp =>
      unfold aGa at g'
      split at g'
      · next b0 t0 n0 p0 hp0 =>
        obtain ⟨g1, g_1⟩ := (Bool.and_eq_true _ _).mp g
        obtain ⟨g2, g_2⟩ := (Bool.and_eq_true _ _).mp g_1
        obtain ⟨g3, g4⟩ := (Bool.and_eq_true _ _).mp g_2
        have g1 := Nat.eq_of_beq_eq_true g1
        subst g1
        have g2 := of_decide_eq_true g2
        have g3 := of_decide_eq_true g3
        have g4 := of_decide_eq_true g4
        obtain ⟨f1, gq_1⟩ := (Bool.and_eq_true _ _).mp g'
        obtain ⟨f2, gq_2⟩ := (Bool.and_eq_true _ _).mp gq_1
        obtain ⟨f3, f4⟩ := (Bool.and_eq_true _ _).mp gq_2
        have f1 := Nat.eq_of_beq_eq_true f1
        subst f1
        have f2 := of_decide_eq_true f2
        have f3 := of_decide_eq_true f3
        have f4 := of_decide_eq_true f4
        obtain ⟨l, l1, l2, l3⟩ := aTm_a h6.1 hp
        obtain ⟨r, r1, r2, r3⟩ := aTm_a h6.1 hp0
        have n1 : 0 ≤ n.toInt := by omega
        have n2 : 0 ≤ dp.toInt := by omega
        have n3 : 0 ≤ sp.toInt := by omega
        have z1 := zclamp n1
        have z2 := zclamp n2
        have z3 := zclamp n3
        obtain ⟨j1, j2⟩ := aJ_arr (c' := (t0, .inl (zcpl r l sp.toNatClampNeg dp.toNatClampNeg n.toNatClampNeg))) hE h6 h7 (by unfold aKa; rw [hp]) hp l1 ⟨_, rfl, by rw [zcpl_len]; exact l2, fun z hz => by
          rcases zcpl_mem (by omega) hz with w | w
          · have := r3 z w
            exact ⟨by show p.1 ≤ _; omega, by show _ ≤ p.2; omega⟩
          · exact l3 z w⟩
        refine Or.inl ⟨(pc + 3, lo, sk, mem.set k (.inl (t0, .inl (zcpl r l sp.toNatClampNeg dp.toNatClampNeg n.toNatClampNeg)))), _, ν, List.prefix_refl _, fun Y rec κ ρ => ?_, hA_1, aGm_mk h1 h2e h3 h4 (aMm_arr h5 l1) j1 j2⟩
        have e : Bool.and (Bool.and (Nat.beq t0 t0) (Nat.beq t0 t0)) (Bool.and (Bool.and (!decide (sp < 0)) (Bool.and (!decide (dp < 0)) (!decide (n < 0)))) (Bool.and (Bool.and (Nat.ble (sp.toNatClampNeg + n.toNatClampNeg) r.length) (Nat.ble (dp.toNatClampNeg + n.toNatClampNeg) l.length)) (Nat.ble (zwd sk) 8))) = true := by
          rw [zbq, zneg_f n1, zneg_f n2, zneg_f n3, zwd_8 h2e c1, Nat.ble_eq_true_of_le (by omega), Nat.ble_eq_true_of_le (by omega)]
          rfl
        simp only [zcp, r1, l1, e]
      · cases g'
    · cases g
  · cases hA
end AO
