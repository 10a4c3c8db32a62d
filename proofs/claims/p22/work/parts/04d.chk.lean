section AO
variable {Θ : aTh} {D : Nat}
/-! branches: what a test says of the intervals -/
def aBr (s : Nat) (e : Int × Int × Nat × Int) (q : Int × Int) (a : aS) (K : aS → Bool) : Bool := bif decide (q.2 < q.1) then true else match a with
  | (pc, la, sa, en, nx, mo) => K (pc, la, sa, (s, q.1, q.2, e.2.2) :: en, nx, mo)
theorem aBr_s {ν : List Int32} {s : Nat} {x : Int32} {q : Int × Int} {pc nx : Nat} {la : List (Nat × aV)} {sa : List aV} {en : aEn} {mo : aMo} {K : aS → Bool} (h3 : aFa ν en) (hx : ν[s]? = some x) (h0 : q.1 ≤ x.toInt) (h1 : x.toInt ≤ q.2) (h : aBr s (aFn en s) q (pc, la, sa, en, nx, mo) K = true) : K (pc, la, sa, (s, q.1, q.2, (aFn en s).2.2) :: en, nx, mo) = true ∧ aFa ν ((s, q.1, q.2, (aFn en s).2.2) :: en) := by
  unfold aBr at h
  rw [decide_eq_false (by omega)] at h
  obtain ⟨-, -, y, e1, e2⟩ := aFn_s h3 hx
  exact ⟨h, List.forall_mem_cons.mpr ⟨⟨x, y, hx, h0, h1, e1, e2⟩, h3⟩⟩
def aSi (p : Int32 → Bool) (gT gF : Int × Int → Int × Int) : Prop := ∀ (q : Int × Int) (x : Int32), q.1 ≤ x.toInt → x.toInt ≤ q.2 → (p x = true → (gT q).1 ≤ x.toInt ∧ x.toInt ≤ (gT q).2) ∧ (p x = false → (gF q).1 ≤ x.toInt ∧ x.toInt ≤ (gF q).2)
def a_if (gT gF : Int × Int → Int × Int) (len tgt : Nat) : aF := fun a K _ => match a with
  | (pc, la, .inl s :: sa, en, nx, mo) => match aFn en s with
    | e => Bool.and (aBr s e (gT (e.1, e.2.1)) (tgt, la, sa, en, nx, mo) K) (aBr s e (gF (e.1, e.2.1)) (pc + len, la, sa, en, nx, mo) K)
  | _ => false
theorem aok_if {p : Int32 → Bool} {gT gF : Int × Int → Int × Int} {len tgt : Nat} (hg : aSi p gT gF) : aOk Θ D (zif p len tgt) (a_if gT gF len tgt) := by
  intro d m0 ν pc la sa en nx mo lo sk mem K R hD h1 h2 h3 h4 h5 h6 h7 hA
  unfold a_if at hA
  split at hA
  · next heq =>
    cases heq
    rename_i s sa
    obtain ⟨hT, hF⟩ := (Bool.and_eq_true _ _).mp hA
    obtain ⟨_, sk, rfl, ⟨x, k1, rfl⟩, h2a⟩ := aSk_c h2
    have e1 := aFn_s h3 k1
    have e2 := hg ((aFn en s).1, (aFn en s).2.1) x e1.1 e1.2.1
    cases hp : p x with
    | true =>
      obtain ⟨q1, q2⟩ := aBr_s h3 k1 (e2.1 hp).1 (e2.1 hp).2 hT
      refine Or.inl ⟨(tgt, lo, sk, mem), _, ν, List.prefix_refl _, fun Y rec κ ρ => ?_, q1, aGm_mk h1 h2a q2 h4 h5 h6 h7⟩
      simp only [zif, hp]
    | false =>
      obtain ⟨q1, q2⟩ := aBr_s h3 k1 (e2.2 hp).1 (e2.2 hp).2 hF
      refine Or.inl ⟨(pc + len, lo, sk, mem), _, ν, List.prefix_refl _, fun Y rec κ ρ => ?_, q1, aGm_mk h1 h2a q2 h4 h5 h6 h7⟩
      simp only [zif, hp]
  · cases hA
def aBr2 (s r : Nat) (q p : Int × Int) (a : aS) (K : aS → Bool) : Bool := match a with
  | (pc, la, sa, en, nx, mo) => aBr s (aFn en s) q (pc, la, sa, en, nx, mo) (fun a' => match a' with
    | (pc, la, sa, en', nx, mo) => aBr r (aFn en' r) p (pc, la, sa, en', nx, mo) K)
theorem aBr2_s {ν : List Int32} {s r : Nat} {x y : Int32} {q p : Int × Int} {pc nx : Nat} {la : List (Nat × aV)} {sa : List aV} {en : aEn} {mo : aMo} {K : aS → Bool} (h3 : aFa ν en) (hx : ν[s]? = some x) (hy : ν[r]? = some y) (h0 : q.1 ≤ x.toInt) (h1 : x.toInt ≤ q.2) (k0 : p.1 ≤ y.toInt) (k1 : y.toInt ≤ p.2) (h : aBr2 s r q p (pc, la, sa, en, nx, mo) K = true) : ∃ en', K (pc, la, sa, en', nx, mo) = true ∧ aFa ν en' := by
  obtain ⟨a1, a2⟩ := aBr_s (K := fun a' => match a' with
    | (pc, la, sa, en', nx, mo) => aBr r (aFn en' r) p (pc, la, sa, en', nx, mo) K) h3 hx h0 h1 h
  obtain ⟨b1, b2⟩ := aBr_s (pc := pc) (la := la) (sa := sa) (nx := nx) (mo := mo) (K := K) a2 hy k0 k1 a1
  exact ⟨_, b1, b2⟩
def aSc (p : Int32 → Int32 → Bool) (gT gF : Int × Int → Int × Int → (Int × Int) × (Int × Int)) : Prop := ∀ (q r : Int × Int) (x y : Int32), q.1 ≤ x.toInt → x.toInt ≤ q.2 → r.1 ≤ y.toInt → y.toInt ≤ r.2 → (p x y = true → ((gT q r).1.1 ≤ x.toInt ∧ x.toInt ≤ (gT q r).1.2) ∧ (gT q r).2.1 ≤ y.toInt ∧ y.toInt ≤ (gT q r).2.2) ∧ (p x y = false → ((gF q r).1.1 ≤ x.toInt ∧ x.toInt ≤ (gF q r).1.2) ∧ (gF q r).2.1 ≤ y.toInt ∧ y.toInt ≤ (gF q r).2.2)
def a_ic (gT gF : Int × Int → Int × Int → (Int × Int) × (Int × Int)) (len tgt : Nat) : aF := fun a K _ => match a with
  | (pc, la, .inl r :: .inl s :: sa, en, nx, mo) => match gT ((aFn en s).1, (aFn en s).2.1) ((aFn en r).1, (aFn en r).2.1) with
    | (t1, t2) => match gF ((aFn en s).1, (aFn en s).2.1) ((aFn en r).1, (aFn en r).2.1) with
      | (f1, f2) => Bool.and (aBr2 s r t1 t2 (tgt, la, sa, en, nx, mo) K) (aBr2 s r f1 f2 (pc + len, la, sa, en, nx, mo) K)
  | _ => false
theorem aok_ic {p : Int32 → Int32 → Bool} {gT gF : Int × Int → Int × Int → (Int × Int) × (Int × Int)} {len tgt : Nat} (hg : aSc p gT gF) : aOk Θ D (zic p len tgt) (a_ic gT gF len tgt) := by
  intro d m0 ν pc la sa en nx mo lo sk mem K R hD h1 h2 h3 h4 h5 h6 h7 hA
  unfold a_ic at hA
  split at hA
  · next heq =>
    cases heq
    rename_i r s sa
    obtain ⟨hT, hF⟩ := (Bool.and_eq_true _ _).mp hA
    obtain ⟨_, sk, rfl, ⟨y, k1, rfl⟩, h2a⟩ := aSk_c h2
    obtain ⟨_, sk, rfl, ⟨x, k2, rfl⟩, h2b⟩ := aSk_c h2a
    have e1 := aFn_s h3 k1
    have e2 := aFn_s h3 k2
    have e3 := hg ((aFn en s).1, (aFn en s).2.1) ((aFn en r).1, (aFn en r).2.1) x y e2.1 e2.2.1 e1.1 e1.2.1
    cases hp : p x y with
    | true =>
      obtain ⟨⟨c1, c2⟩, c3, c4⟩ := e3.1 hp
      obtain ⟨en', q1, q2⟩ := aBr2_s h3 k2 k1 c1 c2 c3 c4 hT
      refine Or.inl ⟨(tgt, lo, sk, mem), _, ν, List.prefix_refl _, fun Y rec κ ρ => ?_, q1, aGm_mk h1 h2b q2 h4 h5 h6 h7⟩
      simp only [zic, hp]
    | false =>
      obtain ⟨⟨c1, c2⟩, c3, c4⟩ := e3.2 hp
      obtain ⟨en', q1, q2⟩ := aBr2_s h3 k2 k1 c1 c2 c3 c4 hF
      refine Or.inl ⟨(pc + len, lo, sk, mem), _, ν, List.prefix_refl _, fun Y rec κ ρ => ?_, q1, aGm_mk h1 h2b q2 h4 h5 h6 h7⟩
      simp only [zic, hp]
  · cases hA
def a_gt (tgt : Nat) : aF := fun a K _ => match a with
  | (_, la, sa, en, nx, mo) => K (tgt, la, sa, en, nx, mo)
theorem aok_gt {tgt : Nat} : aOk Θ D (zgt tgt) (a_gt tgt) := by
  intro d m0 ν pc la sa en nx mo lo sk mem K R hD h1 h2 h3 h4 h5 h6 h7 hA
  exact Or.inl ⟨(tgt, lo, sk, mem), _, ν, List.prefix_refl _, fun Y rec κ ρ => rfl, hA, aGm_mk h1 h2 h3 h4 h5 h6 h7⟩
def a_ts (ks : List (Int32 × Nat)) (dflt : Nat) : aF := fun a K _ => match a with
  | (_, la, .inl s :: sa, en, nx, mo) => Bool.and (ks.all (fun q => bif Bool.or (decide (q.1.toInt < (aFn en s).1)) (decide ((aFn en s).2.1 < q.1.toInt)) then true else K (q.2, la, sa, (s, q.1.toInt, q.1.toInt, (aFn en s).2.2) :: en, nx, mo))) (K (dflt, la, sa, en, nx, mo))
  | _ => false
theorem zsw_y {x : Int32} {dflt : Nat} : ∀ ks : List (Int32 × Nat), (∃ q ∈ ks, x = q.1) → ∃ q ∈ ks, x = q.1 ∧ ∀ (Y : Type) (κ : Nat → Option Y), zsw ks dflt x κ = κ q.2 := by
  intro ks
  induction ks with
  | nil => intro h; obtain ⟨q, hq, -⟩ := h; simp at hq
  | cons b r ih =>
    intro h
    by_cases hb : x = b.1
    · refine ⟨b, List.mem_cons_self, hb, fun Y κ => ?_⟩
      show (Bool.rec (zsw r dflt x κ) (κ b.2) (decide (x = b.1)) : Option Y) = _
      rw [decide_eq_true hb]
    · obtain ⟨q, hq1, hx1⟩ := h
      rcases List.mem_cons.mp hq1 with e | hq2
      · exact absurd (hx1.trans (by rw [e])) hb
      · obtain ⟨q', a1, a2, a3⟩ := ih ⟨q, hq2, hx1⟩
        refine ⟨q', List.mem_cons_of_mem _ a1, a2, fun Y κ => ?_⟩
        show (Bool.rec (zsw r dflt x κ) (κ b.2) (decide (x = b.1)) : Option Y) = _
        rw [decide_eq_false hb]
        exact a3 Y κ
theorem aok_ts {ks : List (Int32 × Nat)} {dflt : Nat} : aOk Θ D (zts ks dflt) (a_ts ks dflt) := by
  intro d m0 ν pc la sa en nx mo lo sk mem K R hD h1 h2 h3 h4 h5 h6 h7 hA
  unfold a_ts at hA
  split at hA
  · next heq =>
    cases heq
    rename_i s sa
    obtain ⟨hA1, hA2⟩ := (Bool.and_eq_true _ _).mp hA
    obtain ⟨_, sk, rfl, ⟨x, k1, rfl⟩, h2a⟩ := aSk_c h2
    have e1 := aFn_s h3 k1
    by_cases hq : ∃ q ∈ ks, x = q.1
    · obtain ⟨q, hq', hx⟩ := zsw_y (dflt := dflt) ks hq
      obtain ⟨hx, hz⟩ := hx
      have g := List.all_eq_true.mp hA1 q hq'
      rw [show (Bool.or (decide (q.1.toInt < (aFn en s).1)) (decide ((aFn en s).2.1 < q.1.toInt))) = false by rw [← hx, decide_eq_false (by omega), decide_eq_false (by omega)]; rfl] at g
      obtain ⟨-, -, y, y1, y2⟩ := e1
      refine Or.inl ⟨(q.2, lo, sk, mem), _, ν, List.prefix_refl _, fun Y rec κ ρ => ?_, g, aGm_mk h1 h2a (List.forall_mem_cons.mpr ⟨⟨x, y, k1, by rw [hx]; exact Int.le_refl _, by rw [hx]; exact Int.le_refl _, y1, y2⟩, h3⟩) h4 h5 h6 h7⟩
      simp only [zts]
      exact hz Y (fun t => κ (t, lo, sk, mem))
    · have hz : ∀ (Y : Type) (κ : Nat → Option Y), zsw ks dflt x κ = κ dflt := by
        intro Y κ
        rcases zsw_s (x := x) (dflt := dflt) (κ := κ) ks with ⟨q, a1, a2, -⟩ | ⟨-, a2⟩
        · exact absurd ⟨q, a1, a2⟩ hq
        · exact a2
      refine Or.inl ⟨(dflt, lo, sk, mem), _, ν, List.prefix_refl _, fun Y rec κ ρ => ?_, hA2, aGm_mk h1 h2a h3 h4 h5 h6 h7⟩
      simp only [zts]
      exact hz Y (fun t => κ (t, lo, sk, mem))
  · cases hA
/-! calls: by a contract, or by the callee's own steps -/
abbrev aCt : Type := Nat × List aTy × Option aTy
def aTvs : List aTy → List Value → Prop
  | [], [] => True
  | τ :: r, x :: q => aTv τ x ∧ aTvs r q
  | _, _ => False
def aTr (τ : Option aTy) (r : Option Value) : Prop := match τ, r with
  | none, none => True
  | some τ, some x => aTv τ x
  | _, _ => False
def aCv (Θ : aTh) (D : Nat) (c : aCt) : Prop := ∀ (d : Nat) (mem : zM) (av : List Value), D ≤ d → aJ Θ mem → aTvs c.2.1 av → yC Θ.2.2 d c.1 av mem (fun r m => aJ Θ m ∧ aPr Θ.1 mem m ∧ aTr c.2.2 r)
def aVes (en : aEn) : List aV → List aTy → Bool
  | [], [] => true
  | v :: r, τ :: q => Bool.and (aVe en v τ) (aVes en r q)
  | _, _ => false
theorem aVes_s {ν : List Int32} {en : aEn} (he : aFa ν en) : ∀ {vs : List aV} {τs : List aTy} {xs : List Value}, aVes en vs τs = true → aSk ν vs xs → aTvs τs xs
  | [], [], [], _, _ => trivial
  | [], _ :: _, _, h, _ => by cases h
  | _ :: _, [], _, h, _ => by cases h
  | [], [], _ :: _, _, k => k.elim
  | _ :: _, _ :: _, [], _, k => k.elim
  | _ :: _, _ :: _, _ :: _, h, k => by
    obtain ⟨h1, h2⟩ := (Bool.and_eq_true _ _).mp h
    exact ⟨aVe_s he h1 k.1, aVes_s he h2 k.2⟩
def app : Nat → List aV → List aV → Option (List aV × List aV)
  | 0, acc, sk => some (acc, sk)
  | _ + 1, _, [] => none
  | n + 1, acc, v :: sk => app n (v :: acc) sk
theorem app_s {ν : List Int32} : ∀ {n : Nat} {ac sa vs rest : List aV} {acc sk : List Value}, app n ac sa = some (vs, rest) → aSk ν ac acc → aSk ν sa sk → ∃ xs rs, zpp n acc sk = some (xs, rs) ∧ aSk ν vs xs ∧ aSk ν rest rs
  | 0, _, _, _, _, _, _, h, k1, k2 => by
    simp only [app, Option.some.injEq, Prod.mk.injEq] at h
    obtain ⟨rfl, rfl⟩ := h
    exact ⟨_, _, rfl, k1, k2⟩
  | n + 1, _, [], _, _, _, _, h, _, _ => by cases h
  | n + 1, ac, v :: sa, vs, rest, acc, sk, h, k1, k2 => by
    obtain ⟨x, q, rfl, a1, a2⟩ := aSk_c k2
    exact app_s (ac := v :: ac) (acc := x :: acc) h ⟨a1, k1⟩ a2
def aIs (T : List aCe) (ci : Nat) (k : Nat) : Bool := match aat T k with
  | some (.inr o) => Nat.beq o.1 ci
  | _ => false
theorem aIs_s {T : List aCe} {ci k : Nat} {mem : zM} (h : aIs T ci k = true) (hm : aTm T mem) : ∃ fs, zat mem k = some (.inr (ci, fs)) := by
  unfold aIs at h
  split at h
  · next o ho =>
    obtain ⟨ci', τs⟩ := o
    have h : ci' = ci := Nat.eq_of_beq_eq_true h
    subst h
    obtain ⟨fs, k1, -⟩ := aTm_o hm ho
    exact ⟨fs, k1⟩
  · cases h
/-- behind a call: what it answers, and nothing of the fields is known any more -/
def aAft (τ : Option aTy) (pc : Nat) (la : List (Nat × aV)) (rest : List aV) (en : aEn) (nx : Nat) (K : aS → Bool) : Bool := match τ with
  | none => K (pc + 3, la, rest, en, nx, [])
  | some (.inl q) => K (pc + 3, la, .inl nx :: rest, (nx, q.1, q.2, nx, 0) :: en, nx + 1, [])
  | some (.inr v) => K (pc + 3, la, .inr v :: rest, en, nx, [])
theorem aAft_s {m0 mem : zM} {ν : List Int32} {τ : Option aTy} {pc nx : Nat} {la : List (Nat × aV)} {rest : List aV} {en : aEn} {K : aS → Bool} {lo : List (Nat × Value)} {rs : List Value} {r : Option Value} (h : aAft τ pc la rest en nx K = true) (h1 : aLo ν la lo) (h2 : aSk ν rest rs) (h3 : aFa ν en) (h4 : ν.length = nx) (h6 : aJ Θ mem) (h7 : aPr Θ.1 m0 mem) (hr : aTr τ r) : ∃ (a' : aS) (ν' : List Int32), ν <+: ν' ∧ K a' = true ∧ aGm Θ m0 ν' a' (pc + 3, lo, r.toList ++ rs, mem) := by
  have hn : ∀ ν : List Int32, aMm ν [] mem := fun ν q hq => absurd hq List.not_mem_nil
  rcases τ with _ | q | v
  · cases r with
    | none => exact ⟨_, ν, List.prefix_refl _, h, aGm_mk h1 h2 h3 h4 (hn ν) h6 h7⟩
    | some x => exact hr.elim
  · cases r with
    | none => exact hr.elim
    | some x =>
      obtain ⟨y, rfl, e1, e2⟩ := hr
      exact ⟨_, ν ++ [y], List.prefix_append _ _, h, aGm_nw y h1 h2 h3 h4 (hn ν) h6 h7 (aFa1_i h4 e1 e2)⟩
  · cases r with
    | none => exact hr.elim
    | some x => exact ⟨_, ν, List.prefix_refl _, h, aGm_mk h1 ⟨by cases v <;> exact hr, h2⟩ h3 h4 (hn ν) h6 h7⟩
def a_cv (T : List aCe) (c : aCt) (n ci : Nat) : aF := fun a K _ => match a with
  | (pc, la, sa, en, nx, _) => match app n [] sa with
    | some (vs, .inr (some ks) :: rest) => Bool.and (Bool.and (ks.all (aIs T ci)) (Bool.and (Nat.ble rest.length 4) (aVes en (.inr (some ks) :: vs) c.2.1))) (aAft c.2.2 pc la rest en nx K)
    | _ => false
theorem aok_cv {c : aCt} {n ci D' : Nat} (hc : aCv Θ D' c) (hD' : D' ≤ D) : aOk Θ D (zcv c.1 n ci) (a_cv Θ.1 c n ci) := by
  intro d m0 ν pc la sa en nx mo lo sk mem K R hD h1 h2 h3 h4 h5 h6 h7 hA
  unfold a_cv at hA
  dsimp only at hA
  split at hA
  · next vs ks rest hap =>
    obtain ⟨hA1, hA_1⟩ := (Bool.and_eq_true _ _).mp hA
    obtain ⟨b1, hA1_1⟩ := (Bool.and_eq_true _ _).mp hA1
    obtain ⟨b2, b3⟩ := (Bool.and_eq_true _ _).mp hA1_1
    obtain ⟨xs, rs, g1, g2, g3⟩ := app_s (acc := []) hap trivial h2
    obtain ⟨_, rs, rfl, ⟨k, hk, rfl⟩, g4⟩ := aSk_c g3
    obtain ⟨fs, hf⟩ := aIs_s (List.all_eq_true.mp b1 k hk) h6.1
    refine Or.inr (Or.inr ⟨c.1, .ref k :: xs, rs, fun Y rec κ ρ => ?_, yC_mono ?_ (hc d mem _ (Nat.le_trans hD' hD) h6 (aVes_s h3 b3 ⟨⟨k, hk, rfl⟩, g2⟩))⟩)
    · have e : Bool.and (Nat.beq ci ci) (Nat.ble (zwd rs) 8) = true := by
        rw [zbq, zwd_8 g4 b2]
        rfl
      simp only [zcv, g1, hf, e]
    · rintro r m ⟨q1, q2, q3⟩
      exact aAft_s hA_1 h1 g4 h3 h4 q1 (aPr_tr h7 q2) q3
  · cases hA
def a_cs (c : aCt) (n : Nat) : aF := fun a K _ => match a with
  | (pc, la, sa, en, nx, _) => match app n [] sa with
    | some (vs, rest) => Bool.and (Bool.and (Nat.ble rest.length 4) (aVes en vs c.2.1)) (aAft c.2.2 pc la rest en nx K)
    | _ => false
theorem aok_cs {c : aCt} {n D' : Nat} (hc : aCv Θ D' c) (hD' : D' ≤ D) : aOk Θ D (zcs c.1 n) (a_cs c n) := by
  intro d m0 ν pc la sa en nx mo lo sk mem K R hD h1 h2 h3 h4 h5 h6 h7 hA
  unfold a_cs at hA
  dsimp only at hA
  split at hA
  · next vs rest hap =>
    obtain ⟨hA1, hA_1⟩ := (Bool.and_eq_true _ _).mp hA
    obtain ⟨b2, b3⟩ := (Bool.and_eq_true _ _).mp hA1
    obtain ⟨xs, rs, g1, g2, g3⟩ := app_s (acc := []) hap trivial h2
    refine Or.inr (Or.inr ⟨c.1, xs, rs, fun Y rec κ ρ => ?_, yC_mono ?_ (hc d mem _ (Nat.le_trans hD' hD) h6 (aVes_s h3 b3 g2))⟩)
    · simp only [zcs, g1, zwd_8 g3 b2]
    · rintro r m ⟨q1, q2, q3⟩
      exact aAft_s hA_1 h1 g3 h3 h4 q1 (aPr_tr h7 q2) q3
  · cases hA
end AO
