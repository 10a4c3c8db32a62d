/-! Reader.begin and StatementReader.reads: the reader's text becomes the tape -/
def aEx (i : Nat) : Nat → List aCe → List aCe → Bool
  | _, [], [] => true
  | k, c :: r, d :: s => Bool.and (Bool.or (Nat.beq k i) (aCq c d)) (aEx i (k + 1) r s)
  | _, _, _ => false
theorem aEx_at {i : Nat} : ∀ {j : Nat} {T T' : List aCe} {k : Nat} {c' : aCe}, aEx i j T T' = true → aat T' k = some c' → ¬ j + k = i → ∃ c, aat T k = some c ∧ aCq c c' = true
  | _, [], [], _, _, _, h, _ => by cases h
  | _, [], _ :: _, _, _, h, _, _ => by cases h
  | _, _ :: _, [], _, _, h, _, _ => by cases h
  | j, c :: r, d :: s, k, c', h, hk, hn => by
    obtain ⟨h1, h2⟩ := (Bool.and_eq_true _ _).mp h
    cases k with
    | zero =>
      simp only [aat, Option.some.injEq] at hk
      subst hk
      rcases (Bool.or_eq_true _ _).mp h1 with q | q
      · exact absurd (Nat.eq_of_beq_eq_true q) (by omega)
      · exact ⟨c, rfl, q⟩
    | succ k => exact aEx_at (T := r) h2 hk (by omega)
def aFx (i : Nat) : Nat → List (Bool × aTy) → List (Bool × aTy) → Bool
  | _, [], [] => true
  | k, p :: r, q :: s => Bool.and (Bool.or (Nat.beq k i) (aLe p.2 q.2)) (aFx i (k + 1) r s)
  | _, _, _ => false
theorem aFx_t : ∀ {i j : Nat} {l l' : List (Bool × aTy)} {fs : List Value}, aFx i j l l' = true → i < j → aTf l fs → aTf l' fs
  | _, _, [], [], _, _, _, k => k
  | _, _, [], _ :: _, _, h, _, _ => by cases h
  | _, _, _ :: _, [], _, h, _, _ => by cases h
  | _, _, _ :: _, _ :: _, [], _, _, k => k.elim
  | i, j, p :: r, p' :: s, x :: fs, h, hj, k => by
    obtain ⟨h1, h2⟩ := (Bool.and_eq_true _ _).mp h
    refine ⟨?_, aFx_t h2 (by omega) k.2⟩
    rcases (Bool.or_eq_true _ _).mp h1 with q1 | q1
    · exact absurd (Nat.eq_of_beq_eq_true q1) (by omega)
    · exact aLe_s q1 k.1
theorem aFx_s {i : Nat} {y : Value} {q : Bool × aTy} (hy : aTv q.2 y) : ∀ {j : Nat} {l l' : List (Bool × aTy)} {fs : List Value}, aFx i j l l' = true → j ≤ i → l'[i - j]? = some q → aTf l fs → aTf l' (fs.set (i - j) y)
  | _, [], [], _, _, _, h, _ => by simp at h
  | _, [], _ :: _, _, h, _, _, _ => by cases h
  | _, _ :: _, [], _, h, _, _, _ => by cases h
  | _, _ :: _, _ :: _, [], _, _, _, k => k.elim
  | j, p :: r, p' :: s, x :: fs, h, hj, hq, k => by
    obtain ⟨h1, h2⟩ := (Bool.and_eq_true _ _).mp h
    rcases Nat.eq_or_lt_of_le hj with e | e
    · subst e
      rw [Nat.sub_self] at hq ⊢
      simp only [List.getElem?_cons_zero, Option.some.injEq] at hq
      subst hq
      refine ⟨hy, ?_⟩
      exact aFx_t h2 (Nat.lt_succ_self j) k.2
    · obtain ⟨m, hm⟩ : ∃ m, i - j = m + 1 := ⟨i - j - 1, by omega⟩
      rw [hm] at hq ⊢
      have hm' : i - (j + 1) = m := by omega
      simp only [List.getElem?_cons_succ] at hq
      refine ⟨?_, ?_⟩
      · rcases (Bool.or_eq_true _ _).mp h1 with q1 | q1
        · exact absurd (Nat.eq_of_beq_eq_true q1) (by omega)
        · exact aLe_s q1 k.1
      · have := aFx_s hy (j := j + 1) h2 (by omega) (by rw [hm']; exact hq) k.2
        rw [hm'] at this
        exact this
set_option maxRecDepth 100000 in
theorem aEx_01 : aEx 27 0 aT0 aT1 = true := by decide +kernel
set_option maxRecDepth 100000 in
theorem aLw_10 : aLw aT1 aT0 = true := by decide +kernel
def aRo : List (Bool × aTy) := match aat aT0 27 with
  | some (.inr o) => o.2
  | _ => []
def aRn : List (Bool × aTy) := match aat aT1 27 with
  | some (.inr o) => o.2
  | _ => []
set_option maxRecDepth 100000 in
theorem aRo_e : aat aT0 27 = some (.inr (5, aRo)) := rfl
set_option maxRecDepth 100000 in
theorem aRn_e : aat aT1 27 = some (.inr (5, aRn)) := rfl
set_option maxRecDepth 100000 in
theorem aRo_x : aFx 1 0 aRo aRn = true := by decide +kernel
theorem h_text {E : zM → Prop} (hE : aEs (aΘ0 E)) {mem : zM} {fs : List Value} (hJ : aJ (aΘ0 E) mem) (hf : zat mem 27 = some (.inr (5, fs))) : aJ (aΘ1 E) (mem.set 27 (.inr (5, fs.set 1 (.ref 1)))) := by
  obtain ⟨fs', g1, g2⟩ := aTm_o hJ.1 aRo_e
  rw [hf] at g1
  cases g1
  obtain ⟨⟨-, j2⟩, -⟩ := aJ_pf (τ := .inr (some [1, 29])) (i := 1) (x := .ref 1) hE hJ aRo_e rfl hf ⟨1, List.mem_cons_self, rfl⟩
  refine ⟨⟨by rw [List.length_set]; exact hJ.1.1, fun k c' hk => ?_⟩, j2⟩
  by_cases q : 27 = k
  · subst q
    have hk' : aat aT1 27 = some c' := hk
    rw [aRn_e] at hk'
    cases hk'
    exact ⟨_, zat_eq_set hf, _, rfl, aFx_s (q := (false, .inr (some [1]))) (j := 0) ⟨1, List.mem_singleton.mpr rfl, rfl⟩ aRo_x (Nat.zero_le _) rfl g2⟩
  · rw [zat_ne_set q]
    obtain ⟨c, c1, c2⟩ := aEx_at aEx_01 hk (by omega)
    obtain ⟨e, e1, e2⟩ := hJ.1.2 k c c1
    exact ⟨e, e1, aCq_1 c2 e2⟩
set_option maxRecDepth 100000 in
theorem h_begin {E : zM → Prop} (hE : aEs (aΘ0 E)) (h1 : aH1 E) {d : Nat} (hd : 2 ≤ d) {mem : zM} (hJ : aJ (aΘ0 E) mem) {n : Int32} (n0 : 0 ≤ n.toInt) (n1 : n.toInt ≤ 1600) : yC zpg (d + 1) 57 [.ref 27, .ref 1, .int n] mem (fun r m => r = none ∧ aJ (aΘ1 E) m) := by
  obtain ⟨fs, hf, hg⟩ := aTm_o hJ.1 aRo_e
  obtain ⟨y, hy, -⟩ := aTf_at (i := 1) hg rfl
  refine yC_of (t := tX5_begin) rfl rfl ?_
  refine yR_m 2 (fun _ _ _ _ => rfl) ?_
  refine yR_pf rfl hf (List.getElem?_eq_some_iff.mp hy).1 rfl ?_
  have hJ1 := h_text hE hJ hf
  refine yR_mono ?_ (aSeg (Θ := aΘ1 E) (τ := none) (q7_g_begin h1) s7_g_begin hd _ _ List.mem_cons_self rfl rfl (List.forall_mem_cons.mpr ⟨⟨.ref 27, rfl, 27, List.mem_singleton.mpr rfl, rfl⟩, List.forall_mem_cons.mpr ⟨⟨.ref 1, rfl, 1, List.mem_singleton.mpr rfl, rfl⟩, List.forall_mem_cons.mpr ⟨⟨.int n, rfl, n, rfl, n0, n1⟩, fun q hq => absurd hq List.not_mem_nil⟩⟩⟩) hJ1 aPr_rf (by show (0 : Int) ≤ 0 + 1000000000; omega))
  rintro r m ⟨a1, -, a3⟩
  cases r with
  | none => exact ⟨rfl, a1⟩
  | some x => exact a3.elim
