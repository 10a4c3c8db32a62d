/-! VIEWS of the own memory: a field's int, an array's content, what stores leave; rows for walks over typed memories -/
def gi (m : zM) (k i : Nat) : Int32 := match zfl m k i with
  | some (.int x) => x
  | _ => 0
def gL (m : zM) (k i : Nat) : Int64 := match zfl m k i with
  | some (.long x) => x
  | _ => 0
def ga (m : zM) (k : Nat) : List Int32 := match zat m k with
  | some (.inl (_, .inl l)) => l
  | _ => []
def gA (m : zM) (k : Nat) : List Int64 := match zat m k with
  | some (.inl (_, .inr (.inl l))) => l
  | _ => []
def sv (m : zM) (k i : Nat) (v : Value) : zM := match zat m k with
  | some (.inr o) => m.set k (.inr (o.1, o.2.set i v))
  | _ => m
abbrev si (m : zM) (k i : Nat) (x : Int32) : zM := sv m k i (.int x)
abbrev sL (m : zM) (k i : Nat) (x : Int64) : zM := sv m k i (.long x)
def sa (m : zM) (k j : Nat) (x : Int32) : zM := match zat m k with
  | some (.inl (t, .inl l)) => m.set k (.inl (t, .inl (l.set j x)))
  | _ => m
def sA (m : zM) (k j : Nat) (x : Int64) : zM := match zat m k with
  | some (.inl (t, .inr (.inl l))) => m.set k (.inl (t, .inr (.inl (l.set j x))))
  | _ => m
theorem sv_at {m : zM} {k i ci : Nat} {fs : List Value} {v : Value} (h : zat m k = some (.inr (ci, fs))) : sv m k i v = m.set k (.inr (ci, fs.set i v)) := by
  unfold sv
  rw [h]
theorem sa_at {m : zM} {k j t : Nat} {l : List Int32} {x : Int32} (h : zat m k = some (.inl (t, .inl l))) : sa m k j x = m.set k (.inl (t, .inl (l.set j x))) := by
  unfold sa
  rw [h]
theorem sA_at {m : zM} {k j t : Nat} {l : List Int64} {x : Int64} (h : zat m k = some (.inl (t, .inr (.inl l)))) : sA m k j x = m.set k (.inl (t, .inr (.inl (l.set j x)))) := by
  unfold sA
  rw [h]
theorem ga_at {m : zM} {k t : Nat} {l : List Int32} (h : zat m k = some (.inl (t, .inl l))) : ga m k = l := by
  unfold ga
  rw [h]
theorem gA_at {m : zM} {k t : Nat} {l : List Int64} (h : zat m k = some (.inl (t, .inr (.inl l)))) : gA m k = l := by
  unfold gA
  rw [h]
theorem zfl_at {m : zM} {k i ci : Nat} {fs : List Value} (h : zat m k = some (.inr (ci, fs))) : zfl m k i = fs[i]? := by
  unfold zfl
  rw [h]
theorem gi_at {m : zM} {k i ci : Nat} {fs : List Value} {x : Int32} (h : zat m k = some (.inr (ci, fs))) (hx : fs[i]? = some (.int x)) : gi m k i = x := by
  unfold gi
  rw [zfl_at h, hx]
theorem gL_at {m : zM} {k i ci : Nat} {fs : List Value} {x : Int64} (h : zat m k = some (.inr (ci, fs))) (hx : fs[i]? = some (.long x)) : gL m k i = x := by
  unfold gL
  rw [zfl_at h, hx]
/-! what stores leave -/
theorem zat_sv_ne {m : zM} {k i k' : Nat} {v : Value} (h : ¬ k = k') : zat (sv m k i v) k' = zat m k' := by
  unfold sv
  split
  · exact zat_ne_set h
  · rfl
theorem zat_sa_ne {m : zM} {k j k' : Nat} {x : Int32} (h : ¬ k = k') : zat (sa m k j x) k' = zat m k' := by
  unfold sa
  split
  · exact zat_ne_set h
  · rfl
theorem zat_sA_ne {m : zM} {k j k' : Nat} {x : Int64} (h : ¬ k = k') : zat (sA m k j x) k' = zat m k' := by
  unfold sA
  split
  · exact zat_ne_set h
  · rfl
theorem zfl_sv_ne {m : zM} {k i k' i' : Nat} {v : Value} (h : ¬ (k = k' ∧ i = i')) : zfl (sv m k i v) k' i' = zfl m k' i' := by
  by_cases hk : k = k'
  · subst hk
    have hi : ¬ i = i' := fun q => h ⟨rfl, q⟩
    cases hz : zat m k with
    | none => unfold sv; rw [hz]
    | some c =>
      cases c with
      | inl a => unfold sv; rw [hz]
      | inr o =>
        obtain ⟨ci, fs⟩ := o
        rw [sv_at hz, zfl_at hz, zfl_at (zat_eq_set hz), List.getElem?_set_ne hi]
  · unfold zfl
    rw [zat_sv_ne hk]
theorem zfl_sa {m : zM} {k j k' i' : Nat} {x : Int32} : zfl (sa m k j x) k' i' = zfl m k' i' := by
  unfold sa
  split
  · next t l h => exact zfl_arr h
  · rfl
theorem zfl_sA {m : zM} {k j k' i' : Nat} {x : Int64} : zfl (sA m k j x) k' i' = zfl m k' i' := by
  unfold sA
  split
  · next t l h => exact zfl_arr h
  · rfl
theorem gi_sv_ne {m : zM} {k i k' i' : Nat} {v : Value} (h : ¬ (k = k' ∧ i = i')) : gi (sv m k i v) k' i' = gi m k' i' := by
  unfold gi
  rw [zfl_sv_ne h]
theorem gL_sv_ne {m : zM} {k i k' i' : Nat} {v : Value} (h : ¬ (k = k' ∧ i = i')) : gL (sv m k i v) k' i' = gL m k' i' := by
  unfold gL
  rw [zfl_sv_ne h]
theorem gi_sa {m : zM} {k j k' i' : Nat} {x : Int32} : gi (sa m k j x) k' i' = gi m k' i' := by
  unfold gi
  rw [zfl_sa]
theorem gL_sa {m : zM} {k j k' i' : Nat} {x : Int32} : gL (sa m k j x) k' i' = gL m k' i' := by
  unfold gL
  rw [zfl_sa]
theorem gi_sA {m : zM} {k j k' i' : Nat} {x : Int64} : gi (sA m k j x) k' i' = gi m k' i' := by
  unfold gi
  rw [zfl_sA]
theorem gL_sA {m : zM} {k j k' i' : Nat} {x : Int64} : gL (sA m k j x) k' i' = gL m k' i' := by
  unfold gL
  rw [zfl_sA]
theorem ga_sv {m : zM} {k i k' : Nat} {v : Value} : ga (sv m k i v) k' = ga m k' := by
  by_cases hk : k = k'
  · subst hk
    unfold sv
    split
    · next o h =>
      unfold ga
      rw [zat_eq_set h, h]
    · rfl
  · unfold ga
    rw [zat_sv_ne hk]
theorem gA_sv {m : zM} {k i k' : Nat} {v : Value} : gA (sv m k i v) k' = gA m k' := by
  by_cases hk : k = k'
  · subst hk
    unfold sv
    split
    · next o h =>
      unfold gA
      rw [zat_eq_set h, h]
    · rfl
  · unfold gA
    rw [zat_sv_ne hk]
theorem ga_sa_eq {m : zM} {k j : Nat} {x : Int32} : ga (sa m k j x) k = (ga m k).set j x := by
  unfold sa
  split
  · next t l h => rw [ga_at (zat_eq_set h), ga_at h]
  · next h =>
    have e : ga m k = [] := by
      unfold ga
      split
      · next t l h' => exact absurd h' (h t l)
      · rfl
    rw [e]
    rfl
theorem ga_sa_ne {m : zM} {k j k' : Nat} {x : Int32} (h : ¬ k = k') : ga (sa m k j x) k' = ga m k' := by
  unfold ga
  rw [zat_sa_ne h]
theorem gA_sA_eq {m : zM} {k j : Nat} {x : Int64} : gA (sA m k j x) k = (gA m k).set j x := by
  unfold sA
  split
  · next t l h => rw [gA_at (zat_eq_set h), gA_at h]
  · next h =>
    have e : gA m k = [] := by
      unfold gA
      split
      · next t l h' => exact absurd h' (h t l)
      · rfl
    rw [e]
    rfl
theorem gA_sA_ne {m : zM} {k j k' : Nat} {x : Int64} (h : ¬ k = k') : gA (sA m k j x) k' = gA m k' := by
  unfold gA
  rw [zat_sA_ne h]
theorem gA_sa {m : zM} {k j k' : Nat} {x : Int32} : gA (sa m k j x) k' = gA m k' := by
  by_cases hk : k = k'
  · subst hk
    unfold sa
    split
    · next t l h =>
      unfold gA
      rw [zat_eq_set h, h]
    · rfl
  · unfold gA
    rw [zat_sa_ne hk]
theorem ga_sA {m : zM} {k j k' : Nat} {x : Int64} : ga (sA m k j x) k' = ga m k' := by
  by_cases hk : k = k'
  · subst hk
    unfold sA
    split
    · next t l h =>
      unfold ga
      rw [zat_eq_set h, h]
    · rfl
  · unfold ga
    rw [zat_sA_ne hk]
/-! typed memories -/
section VW
variable {T : List aCe} {m : zM} {k i ci : Nat} {τs : List (Bool × aTy)} {b : Bool} {q : Int × Int}
theorem gi_ty (ho : aat T k = some (.inr (ci, τs))) (hi : τs[i]? = some (b, .inl q)) (hm : aTm T m) : ∃ fs, zat m k = some (.inr (ci, fs)) ∧ fs[i]? = some (.int (gi m k i)) ∧ q.1 ≤ (gi m k i).toInt ∧ (gi m k i).toInt ≤ q.2 := by
  obtain ⟨fs, h1, h2⟩ := aTm_o hm ho
  obtain ⟨_, h3, x, rfl, h4, h5⟩ := aTf_at h2 hi
  have e := gi_at h1 h3
  rw [e]
  exact ⟨fs, h1, h3, h4, h5⟩
theorem gi_rg (ho : aat T k = some (.inr (ci, τs))) (hi : τs[i]? = some (b, .inl q)) (hm : aTm T m) : q.1 ≤ (gi m k i).toInt ∧ (gi m k i).toInt ≤ q.2 := by
  obtain ⟨fs, -, -, h⟩ := gi_ty ho hi hm
  exact h
theorem gL_ty (ho : aat T k = some (.inr (ci, τs))) (hi : τs[i]? = some (b, .inr none)) (hm : aTm T m) : ∃ fs, zat m k = some (.inr (ci, fs)) ∧ fs[i]? = some (.long (gL m k i)) := by
  obtain ⟨fs, h1, h2⟩ := aTm_o hm ho
  obtain ⟨_, h3, x, rfl⟩ := aTf_at h2 hi
  have e := gL_at h1 h3
  rw [e]
  exact ⟨fs, h1, h3⟩
theorem gr_ty {r : Nat} (ho : aat T k = some (.inr (ci, τs))) (hi : τs[i]? = some (b, .inr (some [r]))) (hm : aTm T m) : ∃ fs, zat m k = some (.inr (ci, fs)) ∧ fs[i]? = some (.ref r) := by
  obtain ⟨fs, h1, h2⟩ := aTm_o hm ho
  obtain ⟨x, h3, h4⟩ := aTf_at h2 hi
  rw [aTv_r h4] at h3
  exact ⟨fs, h1, h3⟩
theorem ga_ty {tt n : Nat} (ho : aat T k = some (.inl (b, tt, n, .inl q))) (hm : aTm T m) : zat m k = some (.inl (tt, .inl (ga m k))) ∧ (ga m k).length = n ∧ ∀ x ∈ ga m k, q.1 ≤ x.toInt ∧ x.toInt ≤ q.2 := by
  obtain ⟨l, h1, h2, h3⟩ := aTm_a hm ho
  rw [ga_at h1]
  exact ⟨h1, h2, h3⟩
theorem gA_ty {tt n : Nat} (ho : aat T k = some (.inl (b, tt, n, .inr none))) (hm : aTm T m) : zat m k = some (.inl (tt, .inr (.inl (gA m k)))) ∧ (gA m k).length = n := by
  obtain ⟨l, h1, h2⟩ := aTm_l hm ho
  rw [gA_at h1]
  exact ⟨h1, h2⟩
theorem ga_rg {tt n : Nat} {j : Nat} (ho : aat T k = some (.inl (b, tt, n, .inl q))) (hm : aTm T m) (hj : j < n) : q.1 ≤ ((ga m k).getD j 0).toInt ∧ ((ga m k).getD j 0).toInt ≤ q.2 := by
  obtain ⟨-, h2, h3⟩ := ga_ty ho hm
  have hj : j < (ga m k).length := by omega
  rw [List.getD_eq_getElem?_getD, List.getElem?_eq_getElem hj]
  exact h3 _ (List.getElem_mem hj)
theorem gi_si_eq {x : Int32} (ho : aat T k = some (.inr (ci, τs))) (hi : τs[i]? = some (b, .inl q)) (hm : aTm T m) : gi (si m k i x) k i = x := by
  obtain ⟨fs, h1, h2, -⟩ := gi_ty ho hi hm
  show gi (sv m k i (.int x)) k i = x
  rw [sv_at h1]
  exact gi_at (zat_eq_set h1) (List.getElem?_set_self (List.getElem?_eq_some_iff.mp h2).1)
theorem gL_sL_eq {x : Int64} (ho : aat T k = some (.inr (ci, τs))) (hi : τs[i]? = some (b, .inr none)) (hm : aTm T m) : gL (sL m k i x) k i = x := by
  obtain ⟨fs, h1, h2⟩ := gL_ty ho hi hm
  show gL (sv m k i (.long x)) k i = x
  rw [sv_at h1]
  exact gL_at (zat_eq_set h1) (List.getElem?_set_self (List.getElem?_eq_some_iff.mp h2).1)
theorem tm_si {x : Int32} (ho : aat T k = some (.inr (ci, τs))) (hi : τs[i]? = some (b, .inl q)) (hm : aTm T m) (hx : q.1 ≤ x.toInt ∧ x.toInt ≤ q.2) : aTm T (si m k i x) := by
  obtain ⟨fs, h1, h2⟩ := aTm_o hm ho
  show aTm T (sv m k i (.int x))
  rw [sv_at h1]
  exact aTm_set hm ho h1 ⟨_, rfl, aTf_set h2 hi ⟨x, rfl, hx.1, hx.2⟩⟩
theorem tm_sL {x : Int64} (ho : aat T k = some (.inr (ci, τs))) (hi : τs[i]? = some (b, .inr none)) (hm : aTm T m) : aTm T (sL m k i x) := by
  obtain ⟨fs, h1, h2⟩ := aTm_o hm ho
  show aTm T (sv m k i (.long x))
  rw [sv_at h1]
  exact aTm_set hm ho h1 ⟨_, rfl, aTf_set h2 hi ⟨x, rfl⟩⟩
theorem tm_sa {tt n j : Nat} {x : Int32} (ho : aat T k = some (.inl (b, tt, n, .inl q))) (hm : aTm T m) (hx : q.1 ≤ x.toInt ∧ x.toInt ≤ q.2) : aTm T (sa m k j x) := by
  obtain ⟨h1, h2, h3⟩ := ga_ty ho hm
  rw [sa_at h1]
  exact aTm_set hm ho h1 ⟨_, rfl, by rw [List.length_set]; exact h2, fun y hy => by
    rcases List.mem_or_eq_of_mem_set hy with w | w
    · exact h3 y w
    · rw [w]; exact hx⟩
theorem tm_sA {tt n j : Nat} {x : Int64} (ho : aat T k = some (.inl (b, tt, n, .inr none))) (hm : aTm T m) : aTm T (sA m k j x) := by
  obtain ⟨h1, h2⟩ := gA_ty ho hm
  rw [sA_at h1]
  exact aTm_set hm ho h1 ⟨_, rfl, by rw [List.length_set]; exact h2⟩
/-! what is kept -/
theorem pr_sv {v : Value} {τ : aTy} (ho : aat T k = some (.inr (ci, τs))) (hi : τs[i]? = some (false, τ)) : aPr T m (sv m k i v) := by
  have hka : aKa T k = false := by unfold aKa; rw [ho]
  have hkf : aKf T k i = false := by unfold aKf; rw [ho]; show (match τs[i]? with | some τ => τ.1 | none => false) = false; rw [hi]
  refine ⟨fun k' hk' => ?_, fun k' i' hk' => ?_⟩
  · exact zat_sv_ne (fun w => by rw [w, hk'] at hka; cases hka)
  · exact zfl_sv_ne (fun w => by rw [w.1, w.2, hk'] at hkf; cases hkf)
theorem pr_sa {j : Nat} {x : Int32} (hka : aKa T k = false) : aPr T m (sa m k j x) := ⟨fun k' hk' => zat_sa_ne (fun w => by rw [w, hk'] at hka; cases hka), fun _ _ _ => zfl_sa⟩
theorem pr_sA {j : Nat} {x : Int64} (hka : aKa T k = false) : aPr T m (sA m k j x) := ⟨fun k' hk' => zat_sA_ne (fun w => by rw [w, hk'] at hka; cases hka), fun _ _ _ => zfl_sA⟩
end VW
theorem pr_gi {T : List aCe} {m m' : zM} {k i : Nat} (h : aPr T m m') (hk : aKf T k i = true) : gi m' k i = gi m k i := by
  unfold gi
  rw [h.2 k i hk]
theorem pr_ga {T : List aCe} {m m' : zM} {k : Nat} (h : aPr T m m') (hk : aKa T k = true) : ga m' k = ga m k := by
  unfold ga
  rw [h.1 k hk]
/-! rows -/
section WR
variable {Z : zPg} {T : List aCe} {t : zT} {d pc k i ci : Nat} {lo : List (Nat × Value)} {r : List Value} {mem : zM} {P : Option Value → zM → Prop} {τs : List (Bool × aTy)} {b : Bool} {q : Int × Int}
theorem wR_gi {v : Int32} (hk : zlk t pc = some (pc, zgf ci i)) (ho : aat T k = some (.inr (ci, τs))) (hi : τs[i]? = some (b, .inl q)) (hm : aTm T mem) (hv : gi mem k i = v) (h : yR Z t d (pc + 3, lo, .int v :: r, mem) P) : yR Z t d (pc, lo, .ref k :: r, mem) P := by
  obtain ⟨fs, h1, h2, -⟩ := gi_ty ho hi hm
  rw [hv] at h2
  exact yR_gf hk h1 h2 h
theorem wR_gL {v : Int64} (hk : zlk t pc = some (pc, zgf ci i)) (ho : aat T k = some (.inr (ci, τs))) (hi : τs[i]? = some (b, .inr none)) (hm : aTm T mem) (hv : gL mem k i = v) (h : yR Z t d (pc + 3, lo, .long v :: r, mem) P) : yR Z t d (pc, lo, .ref k :: r, mem) P := by
  obtain ⟨fs, h1, h2⟩ := gL_ty ho hi hm
  rw [hv] at h2
  exact yR_gf hk h1 h2 h
theorem wR_gr {a : Nat} (hk : zlk t pc = some (pc, zgf ci i)) (ho : aat T k = some (.inr (ci, τs))) (hi : τs[i]? = some (b, .inr (some [a]))) (hm : aTm T mem) (h : yR Z t d (pc + 3, lo, .ref a :: r, mem) P) : yR Z t d (pc, lo, .ref k :: r, mem) P := by
  obtain ⟨fs, h1, h2⟩ := gr_ty ho hi hm
  exact yR_gf hk h1 h2 h
theorem wR_pi {ty : FieldType} {v : Int32} (hk : zlk t pc = some (pc, zpf ci i ty)) (ho : aat T k = some (.inr (ci, τs))) (hi : τs[i]? = some (b, .inl q)) (hm : aTm T mem) (hf : zfit ty (.int v) = true) (h : yR Z t d (pc + 3, lo, r, si mem k i v) P) : yR Z t d (pc, lo, .int v :: .ref k :: r, mem) P := by
  obtain ⟨fs, h1, h2, -⟩ := gi_ty ho hi hm
  refine yR_pf hk h1 (List.getElem?_eq_some_iff.mp h2).1 hf ?_
  rw [← sv_at h1]
  exact h
theorem wR_pL {v : Int64} (hk : zlk t pc = some (pc, zpf ci i .long)) (ho : aat T k = some (.inr (ci, τs))) (hi : τs[i]? = some (b, .inr none)) (hm : aTm T mem) (h : yR Z t d (pc + 3, lo, r, sL mem k i v) P) : yR Z t d (pc, lo, .long v :: .ref k :: r, mem) P := by
  obtain ⟨fs, h1, h2⟩ := gL_ty ho hi hm
  refine yR_pf hk h1 (List.getElem?_eq_some_iff.mp h2).1 rfl ?_
  rw [← sv_at h1]
  exact h
theorem wR_al {tt n : Nat} {x : Int32} {l : List Int32} (hk : zlk t pc = some (pc, zal tt)) (ho : aat T k = some (.inl (b, tt, n, .inl q))) (hm : aTm T mem) (hl : ga mem k = l) (hx : 0 ≤ x.toInt ∧ x.toInt < (n : Int)) (h : yR Z t d (pc + 1, lo, .int (l.getD x.toNatClampNeg 0) :: r, mem) P) : yR Z t d (pc, lo, .int x :: .ref k :: r, mem) P := by
  obtain ⟨h1, h2, -⟩ := ga_ty ho hm
  rw [hl] at h1 h2
  exact yR_al hk h1 hx.1 (by omega) h
theorem wR_ll {tt n : Nat} {x : Int32} {l : List Int64} (hk : zlk t pc = some (pc, zll tt)) (ho : aat T k = some (.inl (b, tt, n, .inr none))) (hm : aTm T mem) (hl : gA mem k = l) (hx : 0 ≤ x.toInt ∧ x.toInt < (n : Int)) (h : yR Z t d (pc + 1, lo, .long (l.getD x.toNatClampNeg 0) :: r, mem) P) : yR Z t d (pc, lo, .int x :: .ref k :: r, mem) P := by
  obtain ⟨h1, h2⟩ := gA_ty ho hm
  rw [hl] at h1 h2
  refine yR_next hk (fun Y rec κ ρ => ?_) h
  have e : Bool.and (Nat.beq tt tt) (zixl x l) = true := by
    rw [zbq, zixl_t hx.1 (by omega)]
    rfl
  simp only [zll, h1, e]
theorem wR_as {tt n : Nat} {x v : Int32} (hk : zlk t pc = some (pc, zas tt)) (ho : aat T k = some (.inl (b, tt, n, .inl q))) (hm : aTm T mem) (hx : 0 ≤ x.toInt ∧ x.toInt < (n : Int)) (h : yR Z t d (pc + 1, lo, r, sa mem k x.toNatClampNeg v) P) : yR Z t d (pc, lo, .int v :: .int x :: .ref k :: r, mem) P := by
  obtain ⟨h1, h2, -⟩ := ga_ty ho hm
  refine yR_as hk h1 hx.1 (by omega) ?_
  rw [← sa_at h1]
  exact h
theorem wR_zs {tt n : Nat} {x v : Int32} (hk : zlk t pc = some (pc, zzs tt)) (ho : aat T k = some (.inl (b, tt, n, .inl q))) (hm : aTm T mem) (hx : 0 ≤ x.toInt ∧ x.toInt < (n : Int)) (hv : v = 0 ∨ v = 1) (h : yR Z t d (pc + 1, lo, r, sa mem k x.toNatClampNeg v) P) : yR Z t d (pc, lo, .int v :: .int x :: .ref k :: r, mem) P := by
  obtain ⟨h1, h2, -⟩ := ga_ty ho hm
  rw [sa_at h1] at h
  refine yR_next hk (fun Y rec κ ρ => ?_) h
  have e : zixl x (ga mem k) = true := zixl_t hx.1 (by omega)
  have n0 : vp_nar .boolean 0 = 0 := rfl
  have n1 : vp_nar .boolean 1 = 1 := rfl
  have e : Bool.and (Nat.beq tt tt) (Bool.and (zixl x (ga mem k)) true) = true := by
    rw [zbq, e]
    rfl
  rcases hv with rfl | rfl
  · simp only [zzs, h1, e, n0]
  · simp only [zzs, h1, e, n1]
theorem wR_las {tt n : Nat} {x : Int32} {v : Int64} (hk : zlk t pc = some (pc, zla tt)) (ho : aat T k = some (.inl (b, tt, n, .inr none))) (hm : aTm T mem) (hx : 0 ≤ x.toInt ∧ x.toInt < (n : Int)) (h : yR Z t d (pc + 1, lo, r, sA mem k x.toNatClampNeg v) P) : yR Z t d (pc, lo, .long v :: .int x :: .ref k :: r, mem) P := by
  obtain ⟨h1, h2⟩ := gA_ty ho hm
  rw [sA_at h1] at h
  refine yR_next hk (fun Y rec κ ρ => ?_) h
  have e : zixl x (gA mem k) = true := zixl_t hx.1 (by omega)
  have e : Bool.and (Nat.beq tt tt) (Bool.and (zixl x (gA mem k)) true) = true := by
    rw [zbq, e]
    rfl
  simp only [zla, h1, e]
theorem wR_cv {j n : Nat} {sk As rest : List Value} {Q : Option Value → zM → Prop} (hk : zlk t pc = some (pc, zcv j n ci)) (hp : zpp n [] sk = some (As, .ref k :: rest)) (ho : aat T k = some (.inr (ci, τs))) (hm : aTm T mem) (hw : Nat.ble (zwd rest) 8 = true) (hc : yC Z d j (.ref k :: As) mem Q) (h : ∀ r m, Q r m → yR Z t d (pc + 3, lo, r.toList ++ rest, m) P) : yR Z t d (pc, lo, sk, mem) P := by
  obtain ⟨fs, h1, -⟩ := aTm_o hm ho
  exact yR_cv hk hp h1 hw hc h
/-- the callee in place -/
theorem wR_iv {j n nl : Nat} {t' : zT} {d' : Nat} {sk As rest : List Value} (hk : zlk t pc = some (pc, zcv j n ci)) (hp : zpp n [] sk = some (As, .ref k :: rest)) (ho : aat T k = some (.inr (ci, τs))) (hm : aTm T mem) (hw : Nat.ble (zwd rest) 8 = true) (hd : d = d' + 1) (hj : Z j = some (nl, t')) (hl : Nat.ble (zwd (.ref k :: As)) nl = true) (h : yR Z t' d' (0, lv_args 0 (.ref k :: As), [], mem) (fun r m => yR Z t d (pc + 3, lo, r.toList ++ rest, m) P)) : yR Z t d (pc, lo, sk, mem) P := by
  obtain ⟨fs, h1, -⟩ := aTm_o hm ho
  subst hd
  exact yR_cv hk hp h1 hw (yC_of hj hl h) (fun _ _ hq => hq)
theorem wR_is {j n nl : Nat} {t' : zT} {d' : Nat} {sk As rest : List Value} (hk : zlk t pc = some (pc, zcs j n)) (hp : zpp n [] sk = some (As, rest)) (hw : Nat.ble (zwd rest) 8 = true) (hd : d = d' + 1) (hj : Z j = some (nl, t')) (hl : Nat.ble (zwd As) nl = true) (h : yR Z t' d' (0, lv_args 0 As, [], mem) (fun r m => yR Z t d (pc + 3, lo, r.toList ++ rest, m) P)) : yR Z t d (pc, lo, sk, mem) P := by
  subst hd
  exact yR_cs hk hp hw (yC_of hj hl h) (fun _ _ hq => hq)
variable {x y : Int32} {u v : Int64} {len tgt : Nat} {a c : Int}
theorem i32_lt {x y : Int32} : x < y ↔ x.toInt < y.toInt := Int32.lt_iff_toInt_lt
theorem i32_le {x y : Int32} : x ≤ y ↔ x.toInt ≤ y.toInt := Int32.le_iff_toInt_le
theorem i32_e {x y : Int32} : x = y ↔ x.toInt = y.toInt := Int32.toInt_inj.symm
theorem wR_if_eq (hk : zlk t pc = some (pc, zif (fun x => decide (x = 0)) len tgt)) (hx : x.toInt = a) (hT : a = 0 → yR Z t d (tgt, lo, r, mem) P) (hF : ¬ a = 0 → yR Z t d (pc + len, lo, r, mem) P) : yR Z t d (pc, lo, .int x :: r, mem) P := by
  have z : (0 : Int32).toInt = 0 := rfl
  refine yR_if hk (fun w => hT ?_) (fun w => hF ?_)
  · simp only [Bool.not_eq_true', decide_eq_true_eq, decide_eq_false_iff_not, i32_lt, i32_le, i32_e, z] at w
    omega
  · simp only [Bool.not_eq_false', decide_eq_true_eq, decide_eq_false_iff_not, i32_lt, i32_le, i32_e, z] at w
    omega
theorem wR_if_ne (hk : zlk t pc = some (pc, zif (fun x => !decide (x = 0)) len tgt)) (hx : x.toInt = a) (hT : ¬ a = 0 → yR Z t d (tgt, lo, r, mem) P) (hF : a = 0 → yR Z t d (pc + len, lo, r, mem) P) : yR Z t d (pc, lo, .int x :: r, mem) P := by
  have z : (0 : Int32).toInt = 0 := rfl
  refine yR_if hk (fun w => hT ?_) (fun w => hF ?_)
  · simp only [Bool.not_eq_true', decide_eq_true_eq, decide_eq_false_iff_not, i32_lt, i32_le, i32_e, z] at w
    omega
  · simp only [Bool.not_eq_false', decide_eq_true_eq, decide_eq_false_iff_not, i32_lt, i32_le, i32_e, z] at w
    omega
theorem wR_if_lt (hk : zlk t pc = some (pc, zif (fun x => decide (x < 0)) len tgt)) (hx : x.toInt = a) (hT : a < 0 → yR Z t d (tgt, lo, r, mem) P) (hF : 0 ≤ a → yR Z t d (pc + len, lo, r, mem) P) : yR Z t d (pc, lo, .int x :: r, mem) P := by
  have z : (0 : Int32).toInt = 0 := rfl
  refine yR_if hk (fun w => hT ?_) (fun w => hF ?_)
  · simp only [Bool.not_eq_true', decide_eq_true_eq, decide_eq_false_iff_not, i32_lt, i32_le, i32_e, z] at w
    omega
  · simp only [Bool.not_eq_false', decide_eq_true_eq, decide_eq_false_iff_not, i32_lt, i32_le, i32_e, z] at w
    omega
theorem wR_if_ge (hk : zlk t pc = some (pc, zif (fun x => decide (0 ≤ x)) len tgt)) (hx : x.toInt = a) (hT : 0 ≤ a → yR Z t d (tgt, lo, r, mem) P) (hF : a < 0 → yR Z t d (pc + len, lo, r, mem) P) : yR Z t d (pc, lo, .int x :: r, mem) P := by
  have z : (0 : Int32).toInt = 0 := rfl
  refine yR_if hk (fun w => hT ?_) (fun w => hF ?_)
  · simp only [Bool.not_eq_true', decide_eq_true_eq, decide_eq_false_iff_not, i32_lt, i32_le, i32_e, z] at w
    omega
  · simp only [Bool.not_eq_false', decide_eq_true_eq, decide_eq_false_iff_not, i32_lt, i32_le, i32_e, z] at w
    omega
theorem wR_if_gt (hk : zlk t pc = some (pc, zif (fun x => decide (0 < x)) len tgt)) (hx : x.toInt = a) (hT : 0 < a → yR Z t d (tgt, lo, r, mem) P) (hF : a ≤ 0 → yR Z t d (pc + len, lo, r, mem) P) : yR Z t d (pc, lo, .int x :: r, mem) P := by
  have z : (0 : Int32).toInt = 0 := rfl
  refine yR_if hk (fun w => hT ?_) (fun w => hF ?_)
  · simp only [Bool.not_eq_true', decide_eq_true_eq, decide_eq_false_iff_not, i32_lt, i32_le, i32_e, z] at w
    omega
  · simp only [Bool.not_eq_false', decide_eq_true_eq, decide_eq_false_iff_not, i32_lt, i32_le, i32_e, z] at w
    omega
theorem wR_if_le (hk : zlk t pc = some (pc, zif (fun x => decide (x ≤ 0)) len tgt)) (hx : x.toInt = a) (hT : a ≤ 0 → yR Z t d (tgt, lo, r, mem) P) (hF : 0 < a → yR Z t d (pc + len, lo, r, mem) P) : yR Z t d (pc, lo, .int x :: r, mem) P := by
  have z : (0 : Int32).toInt = 0 := rfl
  refine yR_if hk (fun w => hT ?_) (fun w => hF ?_)
  · simp only [Bool.not_eq_true', decide_eq_true_eq, decide_eq_false_iff_not, i32_lt, i32_le, i32_e, z] at w
    omega
  · simp only [Bool.not_eq_false', decide_eq_true_eq, decide_eq_false_iff_not, i32_lt, i32_le, i32_e, z] at w
    omega
theorem wR_ic_eq (hk : zlk t pc = some (pc, zic (fun x y => decide (x = y)) len tgt)) (hx : x.toInt = a) (hy : y.toInt = c) (hT : a = c → yR Z t d (tgt, lo, r, mem) P) (hF : ¬ a = c → yR Z t d (pc + len, lo, r, mem) P) : yR Z t d (pc, lo, .int y :: .int x :: r, mem) P := by
  refine yR_ic hk (fun w => hT ?_) (fun w => hF ?_)
  · simp only [Bool.not_eq_true', decide_eq_true_eq, decide_eq_false_iff_not, i32_lt, i32_le, i32_e] at w
    omega
  · simp only [Bool.not_eq_false', decide_eq_true_eq, decide_eq_false_iff_not, i32_lt, i32_le, i32_e] at w
    omega
theorem wR_ic_ne (hk : zlk t pc = some (pc, zic (fun x y => !decide (x = y)) len tgt)) (hx : x.toInt = a) (hy : y.toInt = c) (hT : ¬ a = c → yR Z t d (tgt, lo, r, mem) P) (hF : a = c → yR Z t d (pc + len, lo, r, mem) P) : yR Z t d (pc, lo, .int y :: .int x :: r, mem) P := by
  refine yR_ic hk (fun w => hT ?_) (fun w => hF ?_)
  · simp only [Bool.not_eq_true', decide_eq_true_eq, decide_eq_false_iff_not, i32_lt, i32_le, i32_e] at w
    omega
  · simp only [Bool.not_eq_false', decide_eq_true_eq, decide_eq_false_iff_not, i32_lt, i32_le, i32_e] at w
    omega
theorem wR_ic_lt (hk : zlk t pc = some (pc, zic (fun x y => decide (x < y)) len tgt)) (hx : x.toInt = a) (hy : y.toInt = c) (hT : a < c → yR Z t d (tgt, lo, r, mem) P) (hF : c ≤ a → yR Z t d (pc + len, lo, r, mem) P) : yR Z t d (pc, lo, .int y :: .int x :: r, mem) P := by
  refine yR_ic hk (fun w => hT ?_) (fun w => hF ?_)
  · simp only [Bool.not_eq_true', decide_eq_true_eq, decide_eq_false_iff_not, i32_lt, i32_le, i32_e] at w
    omega
  · simp only [Bool.not_eq_false', decide_eq_true_eq, decide_eq_false_iff_not, i32_lt, i32_le, i32_e] at w
    omega
theorem wR_ic_ge (hk : zlk t pc = some (pc, zic (fun x y => decide (y ≤ x)) len tgt)) (hx : x.toInt = a) (hy : y.toInt = c) (hT : c ≤ a → yR Z t d (tgt, lo, r, mem) P) (hF : a < c → yR Z t d (pc + len, lo, r, mem) P) : yR Z t d (pc, lo, .int y :: .int x :: r, mem) P := by
  refine yR_ic hk (fun w => hT ?_) (fun w => hF ?_)
  · simp only [Bool.not_eq_true', decide_eq_true_eq, decide_eq_false_iff_not, i32_lt, i32_le, i32_e] at w
    omega
  · simp only [Bool.not_eq_false', decide_eq_true_eq, decide_eq_false_iff_not, i32_lt, i32_le, i32_e] at w
    omega
theorem wR_ic_gt (hk : zlk t pc = some (pc, zic (fun x y => decide (y < x)) len tgt)) (hx : x.toInt = a) (hy : y.toInt = c) (hT : c < a → yR Z t d (tgt, lo, r, mem) P) (hF : a ≤ c → yR Z t d (pc + len, lo, r, mem) P) : yR Z t d (pc, lo, .int y :: .int x :: r, mem) P := by
  refine yR_ic hk (fun w => hT ?_) (fun w => hF ?_)
  · simp only [Bool.not_eq_true', decide_eq_true_eq, decide_eq_false_iff_not, i32_lt, i32_le, i32_e] at w
    omega
  · simp only [Bool.not_eq_false', decide_eq_true_eq, decide_eq_false_iff_not, i32_lt, i32_le, i32_e] at w
    omega
theorem wR_ic_le (hk : zlk t pc = some (pc, zic (fun x y => decide (x ≤ y)) len tgt)) (hx : x.toInt = a) (hy : y.toInt = c) (hT : a ≤ c → yR Z t d (tgt, lo, r, mem) P) (hF : c < a → yR Z t d (pc + len, lo, r, mem) P) : yR Z t d (pc, lo, .int y :: .int x :: r, mem) P := by
  refine yR_ic hk (fun w => hT ?_) (fun w => hF ?_)
  · simp only [Bool.not_eq_true', decide_eq_true_eq, decide_eq_false_iff_not, i32_lt, i32_le, i32_e] at w
    omega
  · simp only [Bool.not_eq_false', decide_eq_true_eq, decide_eq_false_iff_not, i32_lt, i32_le, i32_e] at w
    omega
theorem wR_lf_eq (hk : zlk t pc = some (pc, zif (fun x => decide (x = 0)) len tgt)) (hT : u = v → yR Z t d (tgt, lo, r, mem) P) (hF : ¬ u = v → yR Z t d (pc + len, lo, r, mem) P) : yR Z t d (pc, lo, .int (lg_cmp u v) :: r, mem) P := by
  refine yR_if hk (fun w => hT ?_) (fun w => hF ?_)
  · simp only [Bool.not_eq_true', decide_eq_true_eq, decide_eq_false_iff_not, lg_cmp_eq, lg_cmp_lt, lg_cmp_le, lg_cmp_ge, lg_cmp_gt, Int64.lt_iff_toInt_lt, Int64.le_iff_toInt_le] at w
    first | exact w | omega
  · simp only [Bool.not_eq_false', decide_eq_true_eq, decide_eq_false_iff_not, lg_cmp_eq, lg_cmp_lt, lg_cmp_le, lg_cmp_ge, lg_cmp_gt, Int64.lt_iff_toInt_lt, Int64.le_iff_toInt_le] at w
    first | exact w | omega
theorem wR_lf_ne (hk : zlk t pc = some (pc, zif (fun x => !decide (x = 0)) len tgt)) (hT : ¬ u = v → yR Z t d (tgt, lo, r, mem) P) (hF : u = v → yR Z t d (pc + len, lo, r, mem) P) : yR Z t d (pc, lo, .int (lg_cmp u v) :: r, mem) P := by
  refine yR_if hk (fun w => hT ?_) (fun w => hF ?_)
  · simp only [Bool.not_eq_true', decide_eq_true_eq, decide_eq_false_iff_not, lg_cmp_eq, lg_cmp_lt, lg_cmp_le, lg_cmp_ge, lg_cmp_gt, Int64.lt_iff_toInt_lt, Int64.le_iff_toInt_le] at w
    first | exact w | omega
  · simp only [Bool.not_eq_false', decide_eq_true_eq, decide_eq_false_iff_not, lg_cmp_eq, lg_cmp_lt, lg_cmp_le, lg_cmp_ge, lg_cmp_gt, Int64.lt_iff_toInt_lt, Int64.le_iff_toInt_le] at w
    first | exact w | omega
theorem wR_lf_lt (hk : zlk t pc = some (pc, zif (fun x => decide (x < 0)) len tgt)) (hT : u.toInt < v.toInt → yR Z t d (tgt, lo, r, mem) P) (hF : v.toInt ≤ u.toInt → yR Z t d (pc + len, lo, r, mem) P) : yR Z t d (pc, lo, .int (lg_cmp u v) :: r, mem) P := by
  refine yR_if hk (fun w => hT ?_) (fun w => hF ?_)
  · simp only [Bool.not_eq_true', decide_eq_true_eq, decide_eq_false_iff_not, lg_cmp_eq, lg_cmp_lt, lg_cmp_le, lg_cmp_ge, lg_cmp_gt, Int64.lt_iff_toInt_lt, Int64.le_iff_toInt_le] at w
    first | exact w | omega
  · simp only [Bool.not_eq_false', decide_eq_true_eq, decide_eq_false_iff_not, lg_cmp_eq, lg_cmp_lt, lg_cmp_le, lg_cmp_ge, lg_cmp_gt, Int64.lt_iff_toInt_lt, Int64.le_iff_toInt_le] at w
    first | exact w | omega
theorem wR_lf_ge (hk : zlk t pc = some (pc, zif (fun x => decide (0 ≤ x)) len tgt)) (hT : v.toInt ≤ u.toInt → yR Z t d (tgt, lo, r, mem) P) (hF : u.toInt < v.toInt → yR Z t d (pc + len, lo, r, mem) P) : yR Z t d (pc, lo, .int (lg_cmp u v) :: r, mem) P := by
  refine yR_if hk (fun w => hT ?_) (fun w => hF ?_)
  · simp only [Bool.not_eq_true', decide_eq_true_eq, decide_eq_false_iff_not, lg_cmp_eq, lg_cmp_lt, lg_cmp_le, lg_cmp_ge, lg_cmp_gt, Int64.lt_iff_toInt_lt, Int64.le_iff_toInt_le] at w
    first | exact w | omega
  · simp only [Bool.not_eq_false', decide_eq_true_eq, decide_eq_false_iff_not, lg_cmp_eq, lg_cmp_lt, lg_cmp_le, lg_cmp_ge, lg_cmp_gt, Int64.lt_iff_toInt_lt, Int64.le_iff_toInt_le] at w
    first | exact w | omega
theorem wR_lf_gt (hk : zlk t pc = some (pc, zif (fun x => decide (0 < x)) len tgt)) (hT : v.toInt < u.toInt → yR Z t d (tgt, lo, r, mem) P) (hF : u.toInt ≤ v.toInt → yR Z t d (pc + len, lo, r, mem) P) : yR Z t d (pc, lo, .int (lg_cmp u v) :: r, mem) P := by
  refine yR_if hk (fun w => hT ?_) (fun w => hF ?_)
  · simp only [Bool.not_eq_true', decide_eq_true_eq, decide_eq_false_iff_not, lg_cmp_eq, lg_cmp_lt, lg_cmp_le, lg_cmp_ge, lg_cmp_gt, Int64.lt_iff_toInt_lt, Int64.le_iff_toInt_le] at w
    first | exact w | omega
  · simp only [Bool.not_eq_false', decide_eq_true_eq, decide_eq_false_iff_not, lg_cmp_eq, lg_cmp_lt, lg_cmp_le, lg_cmp_ge, lg_cmp_gt, Int64.lt_iff_toInt_lt, Int64.le_iff_toInt_le] at w
    first | exact w | omega
theorem wR_lf_le (hk : zlk t pc = some (pc, zif (fun x => decide (x ≤ 0)) len tgt)) (hT : u.toInt ≤ v.toInt → yR Z t d (tgt, lo, r, mem) P) (hF : v.toInt < u.toInt → yR Z t d (pc + len, lo, r, mem) P) : yR Z t d (pc, lo, .int (lg_cmp u v) :: r, mem) P := by
  refine yR_if hk (fun w => hT ?_) (fun w => hF ?_)
  · simp only [Bool.not_eq_true', decide_eq_true_eq, decide_eq_false_iff_not, lg_cmp_eq, lg_cmp_lt, lg_cmp_le, lg_cmp_ge, lg_cmp_gt, Int64.lt_iff_toInt_lt, Int64.le_iff_toInt_le] at w
    first | exact w | omega
  · simp only [Bool.not_eq_false', decide_eq_true_eq, decide_eq_false_iff_not, lg_cmp_eq, lg_cmp_lt, lg_cmp_le, lg_cmp_ge, lg_cmp_gt, Int64.lt_iff_toInt_lt, Int64.le_iff_toInt_le] at w
    first | exact w | omega
end WR
abbrev gx (l : List Int32) (x : Int32) : Int32 := l.getD x.toNatClampNeg 0
abbrev gX (l : List Int64) (x : Int32) : Int64 := l.getD x.toNatClampNeg 0
abbrev sx (m : zM) (k : Nat) (x v : Int32) : zM := sa m k x.toNatClampNeg v
abbrev sX (m : zM) (k : Nat) (x : Int32) (v : Int64) : zM := sA m k x.toNatClampNeg v
theorem aTr_l {r : Option Value} (h : aTr (some (.inr none)) r) : ∃ x : Int64, r = some (.long x) := by
  cases r with
  | none => exact h.elim
  | some v =>
    obtain ⟨x, rfl⟩ := h
    exact ⟨x, rfl⟩
theorem yR_rl {Z : zPg} {t : zT} {d pc : Nat} {lo : List (Nat × Value)} {mem : zM} {P : Option Value → zM → Prop} {x : Int64} (hk : zlk t pc = some (pc, zrl)) (h : P (some (.long x)) mem) : yR Z t d (pc, lo, [.long x], mem) P := yR_ret hk (fun Y rec κ ρ => rfl) h
/-- types, extra invariant, and what is kept since m0 -/
def wI (Θ : aTh) (m0 m : zM) : Prop := aJ Θ m ∧ aPr Θ.1 m0 m
theorem wI_rf {Θ : aTh} {m : zM} (h : aJ Θ m) : wI Θ m m := ⟨h, aPr_rf⟩
section WI
variable {Θ : aTh} {m0 m : zM} {k i ci : Nat} {τs : List (Bool × aTy)} {q : Int × Int}
theorem wI_si (hE : aEs Θ) {x : Int32} (ho : aat Θ.1 k = some (.inr (ci, τs))) (hi : τs[i]? = some (false, .inl q)) (h : wI Θ m0 m) (hx : q.1 ≤ x.toInt ∧ x.toInt ≤ q.2) : wI Θ m0 (si m k i x) := by
  have t := tm_si ho hi h.1.1 hx
  have p := pr_sv (m := m) (v := .int x) ho hi
  exact ⟨⟨t, hE m _ p t h.1.2⟩, aPr_tr h.2 p⟩
theorem wI_sL (hE : aEs Θ) {x : Int64} (ho : aat Θ.1 k = some (.inr (ci, τs))) (hi : τs[i]? = some (false, .inr none)) (h : wI Θ m0 m) : wI Θ m0 (sL m k i x) := by
  have t := tm_sL (x := x) ho hi h.1.1
  have p := pr_sv (m := m) (v := .long x) ho hi
  exact ⟨⟨t, hE m _ p t h.1.2⟩, aPr_tr h.2 p⟩
theorem wI_sa (hE : aEs Θ) {tt n j : Nat} {x : Int32} (ho : aat Θ.1 k = some (.inl (false, tt, n, .inl q))) (h : wI Θ m0 m) (hx : q.1 ≤ x.toInt ∧ x.toInt ≤ q.2) : wI Θ m0 (sa m k j x) := by
  have t := tm_sa (j := j) ho h.1.1 hx
  have p := pr_sa (m := m) (j := j) (x := x) (T := Θ.1) (k := k) (by unfold aKa; rw [ho])
  exact ⟨⟨t, hE m _ p t h.1.2⟩, aPr_tr h.2 p⟩
theorem wI_sA (hE : aEs Θ) {tt n j : Nat} {x : Int64} (ho : aat Θ.1 k = some (.inl (false, tt, n, .inr none))) (h : wI Θ m0 m) : wI Θ m0 (sA m k j x) := by
  have t := tm_sA (j := j) (x := x) ho h.1.1
  have p := pr_sA (m := m) (j := j) (x := x) (T := Θ.1) (k := k) (by unfold aKa; rw [ho])
  exact ⟨⟨t, hE m _ p t h.1.2⟩, aPr_tr h.2 p⟩
end WI
/-! locals by what is known of them -/
theorem zlg_z1_eq {lo : List (Nat × Value)} {k : Nat} {v : Value} : zlg (zl1 lo k v) k = some v := by
  unfold zl1 zlg
  rw [zbq]
  rfl
theorem zlg_z2_eq {lo : List (Nat × Value)} {k : Nat} {v : Value} : zlg (zl2 lo k v) k = some v := by
  unfold zl2 zlg
  rw [zbq]
  rfl
theorem nbeq_n {a b : Nat} (h : ¬ a = b) : Nat.beq a b = false := by
  cases hb : Nat.beq a b with
  | false => rfl
  | true => exact absurd (Nat.eq_of_beq_eq_true hb) h
theorem zlg_z1_ne {lo : List (Nat × Value)} {k j : Nat} {v x : Value} (h : ¬ j = k) (hc : x.category = 1 ∨ ¬ j + 1 = k) (hx : zlg lo j = some x) : zlg (zl1 lo k v) j = some x := by
  unfold zl1 zlg
  rw [nbeq_n (Ne.symm h)]
  refine zlg_fil hx ?_
  rcases hc with hc | hc <;> simp [h, hc]
theorem zlg_z2_ne {lo : List (Nat × Value)} {k j : Nat} {v x : Value} (h : ¬ j = k) (h2 : ¬ j = k + 1) (hc : x.category = 1 ∨ ¬ j + 1 = k) (hx : zlg lo j = some x) : zlg (zl2 lo k v) j = some x := by
  unfold zl2 zlg
  rw [nbeq_n (Ne.symm h)]
  refine zlg_fil hx ?_
  rcases hc with hc | hc <;> simp [h, h2, hc]
section WL
variable {Z : zPg} {t : zT} {d pc k len nL : Nat} {lo : List (Nat × Value)} {r : List Value} {mem : zM} {P : Option Value → zM → Prop} {x : Int32} {y : Int64} {a : Nat}
theorem wR_li (hk : zlk t pc = some (pc, zli4 k len)) (hl : zlg lo k = some (.int x)) (h : yR Z t d (pc + len, lo, .int x :: r, mem) P) : yR Z t d (pc, lo, r, mem) P := yR_next hk (fun Y rec κ ρ => by simp only [zli4, hl]) h
theorem wR_ll4 (hk : zlk t pc = some (pc, zll4 k len)) (hl : zlg lo k = some (.long y)) (h : yR Z t d (pc + len, lo, .long y :: r, mem) P) : yR Z t d (pc, lo, r, mem) P := yR_next hk (fun Y rec κ ρ => by simp only [zll4, hl]) h
theorem wR_la (hk : zlk t pc = some (pc, zla4 k len)) (hl : zlg lo k = some (.ref a)) (h : yR Z t d (pc + len, lo, .ref a :: r, mem) P) : yR Z t d (pc, lo, r, mem) P := yR_next hk (fun Y rec κ ρ => by simp only [zla4, hl]) h
theorem wR_si (hk : zlk t pc = some (pc, zsi4 nL k len)) (hn : Nat.ble (k + 1) nL = true) (h : ∀ lo', zlg lo' k = some (.int x) → (∀ j v, ¬ j = k → (v.category = 1 ∨ ¬ j + 1 = k) → zlg lo j = some v → zlg lo' j = some v) → yR Z t d (pc + len, lo', r, mem) P) : yR Z t d (pc, lo, .int x :: r, mem) P :=
  yR_next hk (fun Y rec κ ρ => by simp only [zsi4, hn]) (h _ zlg_z1_eq (fun _ _ h1 h2 h3 => zlg_z1_ne h1 h2 h3))
theorem wR_sl (hk : zlk t pc = some (pc, zsl4 nL k len)) (hn : Nat.ble (k + 2) nL = true) (h : ∀ lo', zlg lo' k = some (.long y) → (∀ j v, (¬ j = k ∧ ¬ j = k + 1) → (v.category = 1 ∨ ¬ j + 1 = k) → zlg lo j = some v → zlg lo' j = some v) → yR Z t d (pc + len, lo', r, mem) P) : yR Z t d (pc, lo, .long y :: r, mem) P :=
  yR_next hk (fun Y rec κ ρ => by simp only [zsl4, hn]) (h _ zlg_z2_eq (fun _ _ h1 h2 h3 => zlg_z2_ne h1.1 h1.2 h2 h3))
theorem wR_sa (hk : zlk t pc = some (pc, zsa4 nL k len)) (hn : Nat.ble (k + 1) nL = true) (h : ∀ lo', zlg lo' k = some (.ref a) → (∀ j v, ¬ j = k → (v.category = 1 ∨ ¬ j + 1 = k) → zlg lo j = some v → zlg lo' j = some v) → yR Z t d (pc + len, lo', r, mem) P) : yR Z t d (pc, lo, .ref a :: r, mem) P :=
  yR_next hk (fun Y rec κ ρ => by simp only [zsa4, hn]) (h _ zlg_z1_eq (fun _ _ h1 h2 h3 => zlg_z1_ne h1 h2 h3))
theorem wR_in {c : Int32} (hk : zlk t pc = some (pc, zin4 nL k c)) (hn : Nat.ble (k + 1) nL = true) (hl : zlg lo k = some (.int x)) (h : ∀ lo', zlg lo' k = some (.int (x + c)) → (∀ j v, ¬ j = k → (v.category = 1 ∨ ¬ j + 1 = k) → zlg lo j = some v → zlg lo' j = some v) → yR Z t d (pc + 3, lo', r, mem) P) : yR Z t d (pc, lo, r, mem) P :=
  yR_next hk (fun Y rec κ ρ => by simp only [zin4, hl, hn]) (h _ zlg_z1_eq (fun _ _ h1 h2 h3 => zlg_z1_ne h1 h2 h3))
end WL
theorem bm32 (x : Int) : x.bmod (2 ^ 32) = (x + 2147483648) % 4294967296 - 2147483648 := by
  rw [Int.bmod_def]
  show (if x % 4294967296 < (4294967296 + 1) / 2 then x % 4294967296 else x % 4294967296 - 4294967296) = _
  split <;> omega
def ySw (Z : zPg) (t : zT) (d : Nat) (lo : List (Nat × Value)) (r : List Value) (mem : zM) (P : Option Value → zM → Prop) (a : Int) (dflt : Nat) : List (Int32 × Nat) → Prop
  | [] => yR Z t d (dflt, lo, r, mem) P
  | q :: ks => (a = q.1.toInt → yR Z t d (q.2, lo, r, mem) P) ∧ (¬ a = q.1.toInt → ySw Z t d lo r mem P a dflt ks)
theorem ySw_s {Z : zPg} {t : zT} {d : Nat} {lo : List (Nat × Value)} {r : List Value} {mem : zM} {P : Option Value → zM → Prop} {dflt : Nat} {x : Int32} : ∀ ks : List (Int32 × Nat), ySw Z t d lo r mem P x.toInt dflt ks → ∃ tg, yR Z t d (tg, lo, r, mem) P ∧ ∀ (Y : Type) (κ : Nat → Option Y), zsw ks dflt x κ = κ tg
  | [], h => ⟨dflt, h, fun _ _ => rfl⟩
  | q :: ks, h => by
    by_cases hq : x = q.1
    · exact ⟨q.2, h.1 (by rw [hq]), fun Y κ => by
        show (Bool.rec (zsw ks dflt x κ) (κ q.2) (decide (x = q.1)) : Option Y) = _
        rw [decide_eq_true hq]⟩
    · obtain ⟨tg, h1, h2⟩ := ySw_s ks (h.2 (fun e => hq (Int32.toInt_inj.mp e)))
      exact ⟨tg, h1, fun Y κ => by
        show (Bool.rec (zsw ks dflt x κ) (κ q.2) (decide (x = q.1)) : Option Y) = _
        rw [decide_eq_false hq]
        exact h2 Y κ⟩
theorem wR_ts {Z : zPg} {t : zT} {d pc : Nat} {lo : List (Nat × Value)} {r : List Value} {mem : zM} {P : Option Value → zM → Prop} {ks : List (Int32 × Nat)} {dflt : Nat} {x : Int32} {a : Int} (hk : zlk t pc = some (pc, zts ks dflt)) (hx : x.toInt = a) (h : ySw Z t d lo r mem P a dflt ks) : yR Z t d (pc, lo, .int x :: r, mem) P := by
  subst hx
  obtain ⟨tg, h1, h2⟩ := ySw_s ks h
  exact yR_next hk (fun Y rec κ ρ => h2 Y (fun tg => κ (tg, lo, r, mem))) h1
theorem wR_ldz {Z : zPg} {t : zT} {d pc : Nat} {lo : List (Nat × Value)} {r : List Value} {mem : zM} {P : Option Value → zM → Prop} {o : Int64 → Int64 → Int64} {x y : Int64} (hk : zlk t pc = some (pc, zst 1 (zdl o))) (hy : ¬ y = 0) (h : yR Z t d (pc + 1, lo, .long (o x y) :: r, mem) P) : yR Z t d (pc, lo, .long y :: .long x :: r, mem) P := by
  have e : decide (y = 0) = false := decide_eq_false hy
  exact yR_next hk (fun Y rec κ ρ => by simp only [zst, zdl, e]) h
theorem gx_n {l : List Int32} {x : Int32} {n : Nat} (h : x.toInt = (n : Int)) : gx l x = l.getD n 0 := by
  have e : x.toNatClampNeg = n := by
    have := zclamp (x := x) (by omega)
    omega
  show l.getD x.toNatClampNeg 0 = _
  rw [e]
theorem gx_set_eq {l : List Int32} {x v : Int32} (h0 : 0 ≤ x.toInt) (h1 : x.toInt < l.length) : gx (l.set x.toNatClampNeg v) x = v := by
  have := zclamp h0
  show (l.set x.toNatClampNeg v).getD x.toNatClampNeg 0 = v
  rw [List.getD_eq_getElem?_getD, List.getElem?_set_self (by omega)]
  rfl
theorem gx_set_ne {l : List Int32} {x y v : Int32} (h0 : 0 ≤ x.toInt) (h1 : 0 ≤ y.toInt) (h : ¬ x.toInt = y.toInt) : gx (l.set x.toNatClampNeg v) y = gx l y := by
  have a := zclamp h0
  have b := zclamp h1
  show (l.set x.toNatClampNeg v).getD y.toNatClampNeg 0 = l.getD y.toNatClampNeg 0
  rw [List.getD_eq_getElem?_getD, List.getD_eq_getElem?_getD, List.getElem?_set_ne (by omega)]
theorem aTv_c {τ : aTy} {τs : List aTy} {av : List Value} (h : aTvs (τ :: τs) av) : ∃ x r, av = x :: r ∧ aTv τ x ∧ aTvs τs r := by
  cases av with
  | nil => exact h.elim
  | cons a r => exact ⟨a, r, rfl, h.1, h.2⟩
theorem aTv_n {av : List Value} (h : aTvs [] av) : av = [] := by
  cases av with
  | nil => rfl
  | cons a r => exact h.elim
/-! heights of a rule's code -/
def hst (s : Int32) (h : Nat) : Option Nat := if s.toInt ≤ 30 then (if 0 ≤ s.toInt ∧ (s.toInt ≤ 6 ∨ s.toInt = 30) ∧ h < 499 then some (h + 1) else none) else if s.toInt = 43 then (if 1 ≤ h then some h else none) else if s.toInt = 44 then (if 3 ≤ h then some (h - 2) else none) else if 2 ≤ h then some (h - 1) else none
def hgt (cs : List Int32) (a : Nat) : Nat → Option Nat
  | 0 => some 0
  | n + 1 => match hgt cs a n with
    | some h => hst (cs.getD (a + n) 0) h
    | none => none
theorem hgt_le {cs : List Int32} {a : Nat} : ∀ {n H : Nat}, hgt cs a n = some H → ∀ k, k ≤ n → ∃ h, hgt cs a k = some h := by
  intro n
  induction n with
  | zero => intro H h k hk; exact ⟨0, by rw [Nat.le_zero.mp hk]; rfl⟩
  | succ n ih =>
    intro H h k hk
    rcases Nat.lt_or_ge k (n + 1) with hl | hg
    · unfold hgt at h
      split at h
      · next h' hh => exact ih hh k (by omega)
      · cases h
    · have : k = n + 1 := by omega
      subst this
      exact ⟨H, h⟩
theorem hgt_s {cs : List Int32} {a n h H k : Nat} (hH : hgt cs a n = some H) (hk : k < n) (hh : hgt cs a k = some h) : ∃ h', hst (cs.getD (a + k) 0) h = some h' ∧ hgt cs a (k + 1) = some h' := by
  obtain ⟨h', e⟩ := hgt_le hH (k + 1) hk
  have e2 := e
  unfold hgt at e2
  rw [hh] at e2
  exact ⟨h', e2, e⟩
theorem tm1 : (-1 : Int32).toInt = -1 := by decide
theorem tm2 : (-2 : Int32).toInt = -2 := by decide
theorem tm8 : (-8 : Int32).toInt = -8 := by decide
theorem ti_add {a b : Int32} {p q : Int} (ha : a.toInt = p) (hb : b.toInt = q) (h : -2147483648 ≤ p + q) (h' : p + q ≤ 2147483647) : (a + b).toInt = p + q := by
  rw [← ha, ← hb] at *
  exact zadd_i h h'
theorem ti_sub {a b : Int32} {p q : Int} (ha : a.toInt = p) (hb : b.toInt = q) (h : -2147483648 ≤ p - q) (h' : p - q ≤ 2147483647) : (a - b).toInt = p - q := by
  rw [Int32.toInt_sub, ha, hb, bm32]
  omega
theorem ti_mul {a b : Int32} {p q : Int} (ha : a.toInt = p) (hb : b.toInt = q) (h : -2147483648 ≤ p * q) (h' : p * q ≤ 2147483647) : (a * b).toInt = p * q := by
  rw [Int32.toInt_mul, ha, hb]
  exact Int.bmod_eq_of_le (by omega) (by omega)
theorem ti_m1 {a : Int32} {p : Int} (ha : a.toInt = p) (h : -2147483647 ≤ p) : (a + (-1)).toInt = p - 1 := by
  have := i32_b a
  rw [Int32.toInt_add, tm1, ha]
  exact Int.bmod_eq_of_le (by omega) (by omega)
theorem ti_m2 {a : Int32} {p : Int} (ha : a.toInt = p) (h : -2147483646 ≤ p) : (a + (-2)).toInt = p - 2 := by
  have := i32_b a
  rw [Int32.toInt_add, tm2, ha]
  exact Int.bmod_eq_of_le (by omega) (by omega)
/-! rows of arithmetic without overflow: what the answer is as a whole number -/
section WN
variable {Z : zPg} {t : zT} {d pc k nL : Nat} {lo : List (Nat × Value)} {r : List Value} {mem : zM} {P : Option Value → zM → Prop} {x y : Int32} {a b : Int}
theorem wN_add (hk : zlk t pc = some (pc, zst 1 (zb (fun x y => x + y)))) (hx : x.toInt = a) (hy : y.toInt = b) (hs : -2147483648 ≤ a + b ∧ a + b ≤ 2147483647) (h : ∀ z : Int32, z.toInt = a + b → yR Z t d (pc + 1, lo, .int z :: r, mem) P) : yR Z t d (pc, lo, .int y :: .int x :: r, mem) P := yR_next hk (fun _ _ _ _ => rfl) (h _ (ti_add hx hy hs.1 hs.2))
theorem wN_sub (hk : zlk t pc = some (pc, zst 1 (zb (fun x y => x - y)))) (hx : x.toInt = a) (hy : y.toInt = b) (hs : -2147483648 ≤ a - b ∧ a - b ≤ 2147483647) (h : ∀ z : Int32, z.toInt = a - b → yR Z t d (pc + 1, lo, .int z :: r, mem) P) : yR Z t d (pc, lo, .int y :: .int x :: r, mem) P := yR_next hk (fun _ _ _ _ => rfl) (h _ (ti_sub hx hy hs.1 hs.2))
theorem wN_mul (hk : zlk t pc = some (pc, zst 1 (zb (fun x y => x * y)))) (hx : x.toInt = a) (hy : y.toInt = b) (hs : -2147483648 ≤ a * b ∧ a * b ≤ 2147483647) (h : ∀ z : Int32, z.toInt = a * b → yR Z t d (pc + 1, lo, .int z :: r, mem) P) : yR Z t d (pc, lo, .int y :: .int x :: r, mem) P := yR_next hk (fun _ _ _ _ => rfl) (h _ (ti_mul hx hy hs.1 hs.2))
theorem z_ne0 {y : Int32} {b : Int} (hy : y.toInt = b) (hb : 1 ≤ b) : decide (y = 0) = false := decide_eq_false (fun q => by
  rw [q] at hy
  have : (0 : Int32).toInt = 0 := rfl
  omega)
theorem wN_div (hk : zlk t pc = some (pc, zst 1 (zdi (fun x y => x / y)))) (hx : x.toInt = a) (hy : y.toInt = b) (hb : 1 ≤ b) (hs : 0 ≤ a) (h : ∀ z : Int32, z.toInt = a / b → yR Z t d (pc + 1, lo, .int z :: r, mem) P) : yR Z t d (pc, lo, .int y :: .int x :: r, mem) P := by
  have e := z_ne0 hy hb
  refine yR_next hk (fun Y rec κ ρ => by simp only [zst, zdi, e]) (h (x / y) ?_)
  rw [i32_div (by omega), hx, hy, Int.tdiv_eq_ediv_of_nonneg hs]
theorem wN_rem (hk : zlk t pc = some (pc, zst 1 (zdi (fun x y => x - x / y * y)))) (hx : x.toInt = a) (hy : y.toInt = b) (hb : 1 ≤ b) (hs : 0 ≤ a) (h : ∀ z : Int32, z.toInt = a % b → yR Z t d (pc + 1, lo, .int z :: r, mem) P) : yR Z t d (pc, lo, .int y :: .int x :: r, mem) P := by
  have e := z_ne0 hy hb
  refine yR_next hk (fun Y rec κ ρ => by simp only [zst, zdi, e]) (h (x - x / y * y) ?_)
  rw [i32_rem (by omega), hx, hy, Int.tmod_eq_emod_of_nonneg hs]
theorem wN_in {c : Int32} (hk : zlk t pc = some (pc, zin4 nL k c)) (hn : Nat.ble (k + 1) nL = true) (hl : zlg lo k = some (.int x)) (hx : x.toInt = a) (hc : c.toInt = b) (hs : -2147483648 ≤ a + b ∧ a + b ≤ 2147483647) (h : ∀ (z : Int32), z.toInt = a + b → ∀ lo', zlg lo' k = some (.int z) → (∀ j v, ¬ j = k → (v.category = 1 ∨ ¬ j + 1 = k) → zlg lo j = some v → zlg lo' j = some v) → yR Z t d (pc + 3, lo', r, mem) P) : yR Z t d (pc, lo, r, mem) P := wR_in hk hn hl (h _ (ti_add hx hc hs.1 hs.2))
end WN
/-- an element as a whole number -/
def gn (l : List Int32) (i : Int) : Int := (l.getD i.toNat 0).toInt
theorem gn_x {l : List Int32} {x : Int32} {a : Int} (hx : x.toInt = a) (h0 : 0 ≤ a) : (gx l x).toInt = gn l a := by
  unfold gn
  rw [gx_n (n := a.toNat) (by omega)]
theorem gn_set {l : List Int32} {x v : Int32} {a i : Int} (hx : x.toInt = a) (h0 : 0 ≤ a) (h1 : a < l.length) (hi : 0 ≤ i) : gn (l.set x.toNatClampNeg v) i = if i = a then v.toInt else gn l i := by
  have e : x.toNatClampNeg = a.toNat := by
    have := zclamp (x := x) (by omega)
    omega
  unfold gn
  rw [e]
  split
  · next q =>
    rw [q, List.getD_eq_getElem?_getD, List.getElem?_set_self (by omega)]
    rfl
  · rw [List.getD_eq_getElem?_getD, List.getElem?_set_ne (by omega), ← List.getD_eq_getElem?_getD]
theorem gn_rg {T : List aCe} {m : zM} {k tt n : Nat} {b : Bool} {q : Int × Int} (ho : aat T k = some (.inl (b, tt, n, .inl q))) (hm : aTm T m) {i : Int} (h0 : 0 ≤ i) (h1 : i < n) : q.1 ≤ gn (ga m k) i ∧ gn (ga m k) i ≤ q.2 := ga_rg ho hm (by omega)
section WN2
variable {Z : zPg} {T : List aCe} {t : zT} {d pc k : Nat} {lo : List (Nat × Value)} {r : List Value} {mem : zM} {P : Option Value → zM → Prop} {b : Bool} {q : Int × Int} {a : Int}
theorem wN_al {tt n : Nat} {x : Int32} {l : List Int32} (hk : zlk t pc = some (pc, zal tt)) (ho : aat T k = some (.inl (b, tt, n, .inl q))) (hm : aTm T mem) (hl : ga mem k = l) (ha : x.toInt = a) (hx : 0 ≤ a ∧ a < (n : Int)) (h : ∀ y : Int32, y.toInt = gn l a → yR Z t d (pc + 1, lo, .int y :: r, mem) P) : yR Z t d (pc, lo, .int x :: .ref k :: r, mem) P := by
  subst ha
  exact wR_al hk ho hm hl hx (h _ (gn_x rfl hx.1))
theorem wN_ll {tt n : Nat} {x : Int32} {l : List Int64} (hk : zlk t pc = some (pc, zll tt)) (ho : aat T k = some (.inl (b, tt, n, .inr none))) (hm : aTm T mem) (hl : gA mem k = l) (ha : x.toInt = a) (hx : 0 ≤ a ∧ a < (n : Int)) (h : yR Z t d (pc + 1, lo, .long (l.getD a.toNat 0) :: r, mem) P) : yR Z t d (pc, lo, .int x :: .ref k :: r, mem) P := by
  subst ha
  have e : x.toNatClampNeg = x.toInt.toNat := by
    have := zclamp (x := x) hx.1
    omega
  refine wR_ll hk ho hm hl hx ?_
  rw [e]
  exact h
theorem wN_as {tt n : Nat} {x v : Int32} (hk : zlk t pc = some (pc, zas tt)) (ho : aat T k = some (.inl (b, tt, n, .inl q))) (hm : aTm T mem) (ha : x.toInt = a) (hx : 0 ≤ a ∧ a < (n : Int)) (h : yR Z t d (pc + 1, lo, r, sa mem k x.toNatClampNeg v) P) : yR Z t d (pc, lo, .int v :: .int x :: .ref k :: r, mem) P := by
  subst ha
  exact wR_as hk ho hm hx h
theorem wN_zs {tt n : Nat} {x v : Int32} (hk : zlk t pc = some (pc, zzs tt)) (ho : aat T k = some (.inl (b, tt, n, .inl q))) (hm : aTm T mem) (ha : x.toInt = a) (hx : 0 ≤ a ∧ a < (n : Int)) (hv : v = 0 ∨ v = 1) (h : yR Z t d (pc + 1, lo, r, sa mem k x.toNatClampNeg v) P) : yR Z t d (pc, lo, .int v :: .int x :: .ref k :: r, mem) P := by
  subst ha
  exact wR_zs hk ho hm hx hv h
theorem wN_las {tt n : Nat} {x : Int32} {v : Int64} (hk : zlk t pc = some (pc, zla tt)) (ho : aat T k = some (.inl (b, tt, n, .inr none))) (hm : aTm T mem) (ha : x.toInt = a) (hx : 0 ≤ a ∧ a < (n : Int)) (h : yR Z t d (pc + 1, lo, r, sA mem k x.toNatClampNeg v) P) : yR Z t d (pc, lo, .long v :: .int x :: .ref k :: r, mem) P := by
  subst ha
  exact wR_las hk ho hm hx h
end WN2
/-! which cells changed -/
def onl (ks : List Nat) (m0 m : zM) : Prop := ∀ k, ks.contains k = false → zat m k = zat m0 k
theorem onl_rf {ks : List Nat} {m : zM} : onl ks m m := fun _ _ => rfl
theorem onl_tr {ks : List Nat} {a b c : zM} (h : onl ks a b) (k : onl ks b c) : onl ks a c := fun q hq => (k q hq).trans (h q hq)
theorem onl_up {ks qs : List Nat} {a b : zM} (h : onl ks a b) (hs : ks.all (fun k => qs.contains k) = true) : onl qs a b := fun q hq => h q (by
  cases hc : ks.contains q with
  | false => rfl
  | true =>
    have := List.all_eq_true.mp hs q (by simpa using hc)
    rw [hq] at this
    cases this)
theorem onl_ne {ks : List Nat} {k q : Nat} (hk : ks.contains k = true) (hq : ks.contains q = false) : ¬ k = q := fun e => by rw [e, hq] at hk; cases hk
theorem onl_sa {ks : List Nat} {m0 m : zM} {k j : Nat} {x : Int32} (hk : ks.contains k = true) (h : onl ks m0 m) : onl ks m0 (sa m k j x) := fun q hq => by rw [zat_sa_ne (onl_ne hk hq)]; exact h q hq
theorem onl_sA {ks : List Nat} {m0 m : zM} {k j : Nat} {x : Int64} (hk : ks.contains k = true) (h : onl ks m0 m) : onl ks m0 (sA m k j x) := fun q hq => by rw [zat_sA_ne (onl_ne hk hq)]; exact h q hq
theorem onl_gi {ks : List Nat} {m0 m : zM} {k i : Nat} (h : onl ks m0 m) (hk : ks.contains k = false) : gi m k i = gi m0 k i := by
  unfold gi zfl
  rw [h k hk]
theorem onl_ga {ks : List Nat} {m0 m : zM} {k : Nat} (h : onl ks m0 m) (hk : ks.contains k = false) : ga m k = ga m0 k := by
  unfold ga
  rw [h k hk]
