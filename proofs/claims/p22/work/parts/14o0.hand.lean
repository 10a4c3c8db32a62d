/-! Planner.takesMet: the rows that are met have folk's numbers below 6 -/
def metOk (l : List Int32) : Prop := ∀ j, j < 16 → 0 ≤ (l.getD (4 * j + 1) 0).toInt ∧ (l.getD (4 * j + 1) 0).toInt ≤ 5
def aEm (E' : zM → Prop) (mem : zM) : Prop := E' mem ∧ ∀ l, zat mem 191 = some (.inl (0, .inl l)) → metOk l
/-- E' doesn't look at the cells ks -/
def aNo (E' : zM → Prop) (ks : List Nat) : Prop := ∀ m m' : zM, (∀ k, ks.contains k = false → zat m' k = zat m k) → E' m → E' m'
theorem met_q {E' : zM → Prop} : aQc (aΘ0 (aEm E')) 191 met_f := by
  intro mem x l q hJ hz hf
  unfold met_f at hf
  cases hb : Bool.and (decide (0 ≤ x.toInt)) (decide (x.toInt % 4 = 1)) with
  | false => rw [hb] at hf; cases hf
  | true =>
    rw [hb] at hf
    cases hf
    obtain ⟨b1, b2⟩ := (Bool.and_eq_true _ _).mp hb
    have h0 := of_decide_eq_true b1
    have h1 := of_decide_eq_true b2
    have hm := hJ.2.2 l hz
    have hc := zclamp h0
    have hl : l.length = 64 := by
      obtain ⟨l2, w1, w2, -⟩ := aTm_a (k := 191) hJ.1 rfl
      rw [hz] at w1
      cases w1
      exact w2
    by_cases h2 : x.toInt < 64
    · have e : x.toNatClampNeg = 4 * (x.toNatClampNeg / 4) + 1 := by omega
      rw [e]
      exact hm _ (by omega)
    · rw [List.getD_eq_getElem?_getD, List.getElem?_eq_none (by omega)]
      exact ⟨by decide, by decide⟩
def aPo : List (Bool × aTy) := match aat aT0 185 with
  | some (.inr o) => o.2
  | _ => []
set_option maxRecDepth 100000 in
theorem aPo_e : aat aT0 185 = some (.inr (3, aPo)) := rfl
def aHo : List (Bool × aTy) := match aat aT0 181 with
  | some (.inr o) => o.2
  | _ => []
set_option maxRecDepth 100000 in
theorem aHo_e : aat aT0 181 = some (.inr (0, aHo)) := rfl
set_option maxRecDepth 100000 in
theorem aGf_q {q : Nat} (hq : q ∈ [2, 14]) : aGf aT0 4 13 (.inl (0, 6)) q = true := by
  rcases List.mem_cons.mp hq with rfl | hq
  · decide +kernel
  · rw [List.mem_singleton] at hq
    subst hq
    decide +kernel
/-- behind the loop: the rows go over, and their count -/
theorem met_end {E' : zM → Prop} (hN : aNo E' [191, 185]) {m : zM} {T l : List Int32} {fs : List Value} {n : Int32} (hJ : aJ (aΘ0 (aEm E')) m) (hT : zat m 1 = some (.inl (0, .inl T))) (hl : zat m 191 = some (.inl (0, .inl l))) (hf : zat m 185 = some (.inr (3, fs))) (n0 : 0 ≤ n.toInt) (n1 : n.toInt ≤ 64) (hk : ∀ j : Nat, 4 * (j : Int) < n.toInt → (T.getD (4 * j + 1) 0).toInt ≤ 5) {v : Int32} (v0 : 0 ≤ v.toInt) (v1 : v.toInt ≤ 16) : aJ (aΘ0 (aEm E')) ((m.set 191 (.inl (0, .inl (zcpl T l 0 0 n.toNatClampNeg)))).set 185 (.inr (3, fs.set 9 (.int v)))) := by
  obtain ⟨T2, t1, t2, t3⟩ := aTm_a (k := 1) hJ.1 rfl
  rw [hT] at t1
  cases t1
  obtain ⟨l2, w1, w2, w3⟩ := aTm_a (k := 191) hJ.1 rfl
  rw [hl] at w1
  cases w1
  have hc := zclamp n0
  have g1 := aTm_set (e' := .inl (0, .inl (zcpl T l 0 0 n.toNatClampNeg))) hJ.1 (show aat aT0 191 = some (.inl (true, 0, 64, .inl (0, 255))) from rfl) hl ⟨_, rfl, by rw [zcpl_len]; exact w2, fun z hz => by
    rcases zcpl_mem (by omega) hz with w | w
    · exact t3 z w
    · exact w3 z w⟩
  have hf1 : zat (m.set 191 (.inl (0, .inl (zcpl T l 0 0 n.toNatClampNeg)))) 185 = some (.inr (3, fs)) := (zat_ne_set (by decide)).trans hf
  obtain ⟨fs2, f1, f2⟩ := aTm_o g1 aPo_e
  rw [hf1] at f1
  cases f1
  have g2 := aTm_set (e' := .inr (3, fs.set 9 (.int v))) g1 aPo_e hf1 ⟨_, rfl, aTf_set (i := 9) f2 rfl ⟨v, rfl, v0, v1⟩⟩
  refine ⟨g2, hN m _ (fun k hk => ?_) hJ.2.1, fun l' hl' => ?_⟩
  · simp only [List.contains_cons, List.contains_nil, Bool.or_false, Bool.or_eq_false_iff, beq_eq_false_iff_ne] at hk
    rw [zat_ne_set (fun q => hk.2 q.symm), zat_ne_set (fun q => hk.1 q.symm)]
  · rw [zat_ne_set (by decide), zat_eq_set hl] at hl'
    cases hl'
    intro j hj
    have e := congrFun (zcpl_s (f := T) (g := l) (sp := 0) (dp := 0) (n := n.toNatClampNeg) (by omega)) (4 * j + 1)
    have e : (zcpl T l 0 0 n.toNatClampNeg).getD (4 * j + 1) 0 = va_cpy (fun j => T.getD j 0) (fun j => l.getD j 0) 0 0 n.toNatClampNeg (4 * j + 1) := e
    rw [e]
    unfold va_cpy
    split
    · next hj2 =>
      have e2 : 0 + (4 * j + 1 - 0) = 4 * j + 1 := by omega
      show 0 ≤ (T.getD (0 + (4 * j + 1 - 0)) 0).toInt ∧ (T.getD (0 + (4 * j + 1 - 0)) 0).toInt ≤ 5
      rw [e2]
      refine ⟨?_, hk j (by omega)⟩
      have h4 : 4 * j + 1 < T.length := by omega
      rw [List.getD_eq_getElem?_getD, List.getElem?_eq_getElem h4]
      exact (t3 _ (List.getElem_mem h4)).1
    · exact hJ.2.2 l hl j hj
