/-! the code that the machine prints has types: sums (false) and tests (true) on a stack -/
section TYA
def tyB (a b : Bool) : List Bool → Option (List Bool)
  | x :: y :: r => if x = a ∧ y = a then some (b :: r) else none
  | _ => none
def tyN : List Bool → Option (List Bool)
  | true :: r => some (true :: r)
  | _ => none
def tyI : List Bool → Option (List Bool)
  | false :: false :: true :: r => some (false :: r)
  | _ => none
/-- one item more (the newest operand first) -/
def ty1 (i : Int) (st : List Bool) : Option (List Bool) :=
  if st.length < 100 then
    (if (0 ≤ i ∧ i < 10000) ∨ i = 10015 ∨ i = 10007 ∨ i = 10008 ∨ i = 10016 ∨ i = 10017 ∨ i = 10018 then some (false :: st)
    else if i = 10023 then some (true :: st)
    else if i = 10022 then tyN st
    else if i = 10019 then tyI st
    else if i = 10020 ∨ i = 10021 then tyB true true st
    else if i = 10060 ∨ i = 10062 ∨ i = 10061 then tyB false true st
    else if i = 10043 ∨ i = 10045 ∨ i = 10042 ∨ i = 10047 ∨ i = 10037 ∨ i = 10024 ∨ i = 10025 then tyB false false st
    else none)
  else none
def tyS : List Int → List Bool → Option (List Bool)
  | [], st => some st
  | i :: c, st => (ty1 i st).bind (tyS c)
theorem tyS_app : ∀ (a b : List Int) (st : List Bool), tyS (a ++ b) st = (tyS a st).bind (tyS b)
  | [], _, _ => rfl
  | i :: a, b, st => by
    show (ty1 i st).bind (tyS (a ++ b)) = ((ty1 i st).bind (tyS a)).bind (tyS b)
    cases ty1 i st with
    | none => rfl
    | some z => exact tyS_app a b z
theorem tyS_1 {i : Int} {st : List Bool} : tyS [i] st = ty1 i st := by
  show (ty1 i st).bind (tyS []) = _
  cases ty1 i st with
  | none => rfl
  | some z => rfl
/-- what a frame's operations wait with -/
def pdO : List Int → List Bool
  | [] => []
  | o :: t => if o = 22 then pdO t else if rkC o = 0 then [] else decide (rkC o < 4) :: pdO t
def prO : List Int → Int
  | [] => 0
  | [z] => z
  | _ :: t => prO t
def pdP (k z : Int) : List Bool := if k = 3 then (if z = 19 then [true] else []) else if k = 4 then (if z = 19 then [false, true] else [false]) else []
def pdF (f : Fr) : List Bool := pdO f.2.2.2 ++ pdP f.1 (prO f.2.2.2)
def pdL : List Fr → List Bool
  | [] => []
  | f :: r => pdF f ++ pdL r
theorem rk5 {q : Int} (h : 5 ≤ rkC q) : q = 43 ∨ q = 45 ∨ q = 42 ∨ q = 47 ∨ q = 37 := by
  unfold rkC at h
  (repeat' split at h) <;> omega
theorem rk4 {q : Int} (h : rkC q = 4) : q = 60 ∨ q = 62 ∨ q = 61 := by
  unfold rkC at h
  (repeat' split at h) <;> omega
theorem ty_5 {q : Int} (h : 5 ≤ rkC q) {r : List Bool} (hl : r.length < 98) : ty1 (10000 + q) (false :: false :: r) = some (false :: r) := by
  have l : (false :: false :: r : List Bool).length < 100 := by
    simp only [List.length_cons]
    omega
  unfold ty1
  rw [if_pos l]
  rcases rk5 h with rfl | rfl | rfl | rfl | rfl <;> rfl
theorem ty_4 {q : Int} (h : rkC q = 4) {r : List Bool} (hl : r.length < 98) : ty1 (10000 + q) (false :: false :: r) = some (true :: r) := by
  have l : (false :: false :: r : List Bool).length < 100 := by
    simp only [List.length_cons]
    omega
  unfold ty1
  rw [if_pos l]
  rcases rk4 h with rfl | rfl | rfl <;> rfl
theorem ty_2 {q : Int} (h : q = 20 ∨ q = 21) {r : List Bool} (hl : r.length < 98) : ty1 (10000 + q) (true :: true :: r) = some (true :: r) := by
  have l : (true :: true :: r : List Bool).length < 100 := by
    simp only [List.length_cons]
    omega
  unfold ty1
  rw [if_pos l]
  rcases h with rfl | rfl <;> rfl
theorem ty_3 {r : List Bool} (hl : r.length < 99) : ty1 (10000 + 22) (true :: r) = some (true :: r) := by
  have l : (true :: r : List Bool).length < 100 := by
    simp only [List.length_cons]
    omega
  unfold ty1
  rw [if_pos l]
  rfl
theorem ty_p {q : Int} (h : q = 24 ∨ q = 25) {r : List Bool} (hl : r.length < 98) : ty1 (10000 + q) (false :: false :: r) = some (false :: r) := by
  have l : (false :: false :: r : List Bool).length < 100 := by
    simp only [List.length_cons]
    omega
  unfold ty1
  rw [if_pos l]
  rcases h with rfl | rfl <;> rfl
theorem ty_i {r : List Bool} (hl : r.length < 97) : ty1 (10000 + 19) (false :: false :: true :: r) = some (false :: r) := by
  have l : (false :: false :: true :: r : List Bool).length < 100 := by
    simp only [List.length_cons]
    omega
  unfold ty1
  rw [if_pos l]
  rfl
/-- an operation of sums is printed: at any level that prints it -/
theorem pdO_5 {q : Int} {t : List Int} (h : 5 ≤ rkC q) : pdO (q :: t) = false :: pdO t := by
  show (if q = 22 then _ else if rkC q = 0 then _ else decide (rkC q < 4) :: pdO t) = _
  rw [if_neg (by rcases rk5 h with rfl | rfl | rfl | rfl | rfl <;> decide), if_neg (by omega), decide_eq_false (by omega)]
theorem pdO_4 {q : Int} {t : List Int} (h : rkC q = 4) : pdO (q :: t) = false :: pdO t := by
  show (if q = 22 then _ else if rkC q = 0 then _ else decide (rkC q < 4) :: pdO t) = _
  rw [if_neg (by rcases rk4 h with rfl | rfl | rfl <;> decide), if_neg (by omega), decide_eq_false (by omega)]
theorem jn_A {L : Int} (hL : L ≤ 5) : ∀ (A X : List Int), (∀ q ∈ A, 5 ≤ rkC q) → jnE L (A ++ X) = opE A ++ jnE L X ∧ jnR L (A ++ X) = jnR L X
  | [], _, _ => ⟨rfl, rfl⟩
  | q :: A, X, h => by
    have hq := h q List.mem_cons_self
    have k := jn_A hL A X (fun z hz => h z (List.mem_cons_of_mem _ hz))
    have j := jn_hi (L := L) (q := q) (t := A ++ X) (by omega)
    refine ⟨j.1.trans ?_, j.2.trans k.2⟩
    rw [k.1]
    rfl
theorem ty_A : ∀ (A X : List Int) (R : List Bool), (∀ q ∈ A, 5 ≤ rkC q) → (pdO (A ++ X) ++ R).length < 98 → tyS (opE A) (false :: (pdO (A ++ X) ++ R)) = some (false :: (pdO X ++ R))
  | [], _, _, _, _ => rfl
  | q :: A, X, R, h, hl => by
    have hq := h q List.mem_cons_self
    have e : pdO (q :: A ++ X) = false :: pdO (A ++ X) := pdO_5 hq
    rw [e] at hl ⊢
    have hl' : (pdO (A ++ X) ++ R).length < 97 := by
      have := hl
      simp only [List.cons_append, List.length_cons] at this
      omega
    show (ty1 (10000 + q) (false :: false :: (pdO (A ++ X) ++ R))).bind (tyS (opE A)) = _
    rw [ty_5 hq (by omega)]
    exact ty_A A X R (fun z hz => h z (List.mem_cons_of_mem _ hz)) (by omega)
/-- at a level of sums: what is printed stays a sum -/
theorem ty_L {L : Int} (hL : 5 ≤ L) : ∀ (l : List Int) (R : List Bool), (pdO l ++ R).length < 98 → tyS (jnE L l) (false :: (pdO l ++ R)) = some (false :: (pdO (jnR L l) ++ R))
  | [], _, _ => rfl
  | q :: t, R, hl => by
    by_cases k : L ≤ rkC q
    · have j := jn_hi (t := t) k
      have e : pdO (q :: t) = false :: pdO t := pdO_5 (by omega)
      rw [j.1, j.2, e]
      rw [e] at hl
      simp only [List.cons_append, List.length_cons] at hl
      show (ty1 (10000 + q) (false :: false :: (pdO t ++ R))).bind (tyS (jnE L t)) = _
      rw [ty_5 (by omega) (by omega)]
      exact ty_L hL t R (by omega)
    · have j := jn_lo (L := L) (l := q :: t) (fun z hz => by cases hz; omega)
      rw [j.1, j.2]
      rfl
/-- nots, and, or -/
def wB (B : List Int) : Prop := ∃ (N : Nat) (s : List Int), B = List.replicate N 22 ++ s ∧ (s = [] ∨ s = [20] ∨ s = [21] ∨ s = [21, 20])
theorem jn_N {L : Int} (hL : L ≤ 3) : ∀ (N : Nat) (X : List Int), jnE L (List.replicate N 22 ++ X) = opE (List.replicate N 22) ++ jnE L X ∧ jnR L (List.replicate N 22 ++ X) = jnR L X
  | 0, _ => ⟨rfl, rfl⟩
  | N + 1, X => by
    have k := jn_N hL N X
    have e : List.replicate (N + 1) (22 : Int) ++ X = 22 :: (List.replicate N 22 ++ X) := by
      rw [List.replicate_succ]
      rfl
    have j := jn_hi (L := L) (q := 22) (t := List.replicate N 22 ++ X) (by show L ≤ 3; exact hL)
    rw [e, j.1, j.2, k.1, k.2, List.replicate_succ]
    exact ⟨rfl, rfl⟩
theorem pdO_N : ∀ (N : Nat) (X : List Int), pdO (List.replicate N 22 ++ X) = pdO X
  | 0, _ => rfl
  | N + 1, X => by
    have e : List.replicate (N + 1) (22 : Int) ++ X = 22 :: (List.replicate N 22 ++ X) := by
      rw [List.replicate_succ]
      rfl
    rw [e]
    show (if (22 : Int) = 22 then pdO (List.replicate N 22 ++ X) else _) = _
    rw [if_pos rfl]
    exact pdO_N N X
theorem ty_N : ∀ (N : Nat) (R : List Bool), R.length < 98 → tyS (opE (List.replicate N 22)) (true :: R) = some (true :: R)
  | 0, _, _ => rfl
  | N + 1, R, h => by
    rw [List.replicate_succ]
    show (ty1 (10000 + 22) (true :: R)).bind (tyS (opE (List.replicate N 22))) = _
    rw [ty_3 (by omega)]
    exact ty_N N R h
/-- at the level of or (1) all of them is printed; at the level of and (2) what is above or -/
theorem ty_B1 {B pr : List Int} {R : List Bool} (h : wB B) (hp : jnE 1 pr = [] ∧ jnR 1 pr = pr) (hl : (pdO (B ++ pr) ++ R).length < 98) : tyS (jnE 1 (B ++ pr)) (true :: (pdO (B ++ pr) ++ R)) = some (true :: (pdO pr ++ R)) ∧ jnR 1 (B ++ pr) = pr := by
  obtain ⟨N, s, rfl, hs⟩ := h
  have j := jn_N (L := 1) (by decide) N (s ++ pr)
  rw [List.append_assoc] at hl ⊢
  rw [pdO_N] at hl ⊢
  rw [j.1, j.2, tyS_app, ty_N N _ hl]
  rcases hs with rfl | rfl | rfl | rfl
  · show tyS (jnE 1 pr) (true :: (pdO pr ++ R)) = _ ∧ jnR 1 pr = pr
    rw [hp.1]
    exact ⟨rfl, hp.2⟩
  · have e : pdO ([20] ++ pr) = true :: pdO pr := rfl
    have q := jn_hi (L := 1) (q := 20) (t := pr) (by decide)
    rw [e] at hl ⊢
    simp only [List.cons_append, List.length_cons] at hl
    refine ⟨?_, q.2.trans hp.2⟩
    show tyS (jnE 1 (20 :: pr)) (true :: true :: (pdO pr ++ R)) = _
    rw [q.1, hp.1]
    show (ty1 (10000 + 20) (true :: true :: (pdO pr ++ R))).bind (tyS []) = _
    rw [ty_2 (Or.inl rfl) (by omega)]
    rfl
  · have e : pdO ([21] ++ pr) = true :: pdO pr := rfl
    have q := jn_hi (L := 1) (q := 21) (t := pr) (by decide)
    rw [e] at hl ⊢
    simp only [List.cons_append, List.length_cons] at hl
    refine ⟨?_, q.2.trans hp.2⟩
    show tyS (jnE 1 (21 :: pr)) (true :: true :: (pdO pr ++ R)) = _
    rw [q.1, hp.1]
    show (ty1 (10000 + 21) (true :: true :: (pdO pr ++ R))).bind (tyS []) = _
    rw [ty_2 (Or.inr rfl) (by omega)]
    rfl
  · have e : pdO ([21, 20] ++ pr) = true :: true :: pdO pr := rfl
    have q := jn_hi (L := 1) (q := 21) (t := 20 :: pr) (by decide)
    have q2 := jn_hi (L := 1) (q := 20) (t := pr) (by decide)
    rw [e] at hl ⊢
    simp only [List.cons_append, List.length_cons] at hl
    refine ⟨?_, (q.2.trans q2.2).trans hp.2⟩
    show tyS (jnE 1 (21 :: 20 :: pr)) (true :: true :: true :: (pdO pr ++ R)) = _
    rw [q.1, q2.1, hp.1]
    show (ty1 (10000 + 21) (true :: true :: true :: (pdO pr ++ R))).bind (tyS [10000 + 20]) = _
    rw [ty_2 (Or.inr rfl) (by simp only [List.length_cons]; omega)]
    show tyS [10000 + 20] (true :: true :: (pdO pr ++ R)) = _
    rw [tyS_1, ty_2 (Or.inl rfl) (by omega)]
theorem ty_B2 {B pr : List Int} {R : List Bool} (h : wB B) (hp : jnE 2 pr = [] ∧ jnR 2 pr = pr) (hl : (pdO (B ++ pr) ++ R).length < 98) : ∃ B', (B' = [] ∨ B' = [20]) ∧ jnR 2 (B ++ pr) = B' ++ pr ∧ tyS (jnE 2 (B ++ pr)) (true :: (pdO (B ++ pr) ++ R)) = some (true :: (pdO (B' ++ pr) ++ R)) := by
  obtain ⟨N, s, rfl, hs⟩ := h
  have j := jn_N (L := 2) (by decide) N (s ++ pr)
  rw [List.append_assoc] at hl ⊢
  rw [pdO_N] at hl ⊢
  rw [j.1, j.2, tyS_app, ty_N N _ hl]
  rcases hs with rfl | rfl | rfl | rfl
  · refine ⟨[], Or.inl rfl, hp.2, ?_⟩
    show tyS (jnE 2 pr) (true :: (pdO pr ++ R)) = _
    rw [hp.1]
    rfl
  · have q := jn_lo (L := 2) (l := 20 :: pr) (fun z hz => by cases hz; decide)
    refine ⟨[20], Or.inr rfl, q.2, ?_⟩
    show tyS (jnE 2 (20 :: pr)) (true :: (pdO ([20] ++ pr) ++ R)) = _
    rw [q.1]
    rfl
  · have e : pdO ([21] ++ pr) = true :: pdO pr := rfl
    have q := jn_hi (L := 2) (q := 21) (t := pr) (by decide)
    rw [e] at hl ⊢
    simp only [List.cons_append, List.length_cons] at hl
    refine ⟨[], Or.inl rfl, q.2.trans hp.2, ?_⟩
    show tyS (jnE 2 (21 :: pr)) (true :: true :: (pdO pr ++ R)) = _
    rw [q.1, hp.1]
    show (ty1 (10000 + 21) (true :: true :: (pdO pr ++ R))).bind (tyS []) = _
    rw [ty_2 (Or.inr rfl) (by omega)]
    rfl
  · have e : pdO ([21, 20] ++ pr) = true :: true :: pdO pr := rfl
    have q := jn_hi (L := 2) (q := 21) (t := 20 :: pr) (by decide)
    have q2 := jn_lo (L := 2) (l := 20 :: pr) (fun z hz => by cases hz; decide)
    rw [e] at hl ⊢
    simp only [List.cons_append, List.length_cons] at hl
    refine ⟨[20], Or.inr rfl, q.2.trans q2.2, ?_⟩
    show tyS (jnE 2 (21 :: 20 :: pr)) (true :: true :: true :: (pdO pr ++ R)) = _
    rw [q.1, q2.1]
    show (ty1 (10000 + 21) (true :: true :: true :: (pdO pr ++ R))).bind (tyS []) = _
    rw [ty_2 (Or.inr rfl) (by simp only [List.length_cons]; omega)]
    rfl
end TYA
section TYB
theorem pdO_A : ∀ (A X : List Int), (∀ q ∈ A, 5 ≤ rkC q) → (pdO (A ++ X)).length = A.length + (pdO X).length
  | [], X, _ => by
    show (pdO X).length = 0 + (pdO X).length
    omega
  | q :: A, X, h => by
    have k := pdO_A A X (fun z hz => h z (List.mem_cons_of_mem _ hz))
    have e : pdO (q :: A ++ X) = false :: pdO (A ++ X) := pdO_5 (h q List.mem_cons_self)
    rw [e, List.length_cons, List.length_cons, k]
    omega
theorem pdO_le : ∀ (A X : List Int), (pdO (A ++ X)).length ≤ A.length + (pdO X).length
  | [], X => by
    show (pdO X).length ≤ 0 + (pdO X).length
    omega
  | q :: A, X => by
    have k := pdO_le A X
    show (if q = 22 then pdO (A ++ X) else if rkC q = 0 then [] else decide (rkC q < 4) :: pdO (A ++ X)).length ≤ (A.length + 1) + (pdO X).length
    by_cases h1 : q = 22
    · rw [if_pos h1]
      omega
    · rw [if_neg h1]
      by_cases h2 : rkC q = 0
      · rw [if_pos h2]
        show 0 ≤ _
        omega
      · rw [if_neg h2, List.length_cons]
        omega
/-- in what order things are held back -/
def wA (A : List Int) : Prop := A = [] ∨ (∃ a, 5 ≤ rkC a ∧ A = [a]) ∨ ∃ a b, rkC a = 6 ∧ rkC b = 5 ∧ A = [a, b]
def wC (C : List Int) : Prop := C = [] ∨ ∃ c, rkC c = 4 ∧ C = [c]
def wP (k : Int) (pr : List Int) : Prop := ((k = 0 ∨ k = 1 ∨ k = 2 ∨ k = 5) ∧ pr = []) ∨ ((k = 3 ∨ k = 4) ∧ (pr = [24] ∨ pr = [25] ∨ pr = [19])) ∨ (k = 6 ∧ pr = [19])
def wFT (k ph : Int) (A C : List Int) : Prop := sIT k → (ph = 0 ∧ C = []) ∨ (ph = 1 ∧ ¬ C = []) ∨ (ph = 2 ∧ A = [] ∧ C = [])
def wF (k ph bg : Int) (ops : List Int) : Prop := ∃ A C B pr, ops = A ++ (C ++ (B ++ pr)) ∧ wA A ∧ wC C ∧ wB B ∧ wP k pr ∧ wFT k ph A C ∧ (¬ sIT k → ph = 0 ∧ C = [] ∧ B = []) ∧ (sIT k → ¬ bg = 0 → A = [] ∧ C = [] ∧ ph = 0)
/-- frames below one of kind k; the lowest is of kind K -/
def wR (K : Int) : Int → List Fr → Prop
  | k, [] => k = K
  | k, f :: r => 2 ≤ k ∧ wF f.1 f.2.1 f.2.2.1 f.2.2.2 ∧ f.2.1 < 2 ∧ f.2.2.1 = 0 ∧ (k = 5 → sIT f.1 ∧ (∃ B pr, f.2.2.2 = B ++ pr ∧ wB B ∧ wP f.1 pr) ∧ f.2.1 = 0) ∧ wR K f.1 r
theorem wR_c {K k : Int} {f : Fr} {r : List Fr} (h : wR K k (f :: r)) : 2 ≤ k ∧ wF f.1 f.2.1 f.2.2.1 f.2.2.2 ∧ f.2.1 < 2 ∧ f.2.2.1 = 0 ∧ (k = 5 → sIT f.1 ∧ (∃ B pr, f.2.2.2 = B ++ pr ∧ wB B ∧ wP f.1 pr) ∧ f.2.1 = 0) ∧ wR K f.1 r := h
theorem wR_n {K k : Int} (h : wR K k []) : k = K := h
theorem wR_k {K k k' : Int} {r : List Fr} (h : wR K k r) (hK : K < 2) (hk : 2 ≤ k) (h2 : 2 ≤ k') (h5 : ¬ k' = 5) : wR K k' r := by
  cases r with
  | nil =>
    exfalso
    have := wR_n h
    omega
  | cons f r =>
    obtain ⟨-, a, b, c, -, e⟩ := wR_c h
    exact ⟨h2, a, b, c, fun q => absurd q h5, e⟩
theorem wA_n : wA [] := Or.inl rfl
theorem wC_n : wC [] := Or.inl rfl
theorem wB_n : wB [] := ⟨0, [], rfl, Or.inl rfl⟩
theorem wB_22 {B : List Int} (h : wB B) : wB (22 :: B) := by
  obtain ⟨N, s, rfl, h⟩ := h
  exact ⟨N + 1, s, rfl, h⟩
theorem wA_5 {A : List Int} (h : wA A) : ∀ q ∈ A, 5 ≤ rkC q := by
  rcases h with rfl | ⟨a, ha, rfl⟩ | ⟨a, b, ha, hb, rfl⟩
  · intro q hq
    cases hq
  · intro q hq
    rw [List.mem_singleton] at hq
    rw [hq]
    exact ha
  · intro q hq
    rcases List.mem_cons.1 hq with e | e
    · rw [e, ha]
      decide
    · rw [List.mem_singleton] at e
      rw [e, hb]
      decide
theorem wA_2 {A : List Int} (h : wA A) : A.length ≤ 2 := by
  rcases h with rfl | ⟨a, ha, rfl⟩ | ⟨a, b, ha, hb, rfl⟩
  · show 0 ≤ 2
    decide
  · show 1 ≤ 2
    decide
  · show 2 ≤ 2
    decide
theorem wP_z {k : Int} {pr : List Int} (h : wP k pr) : pr = [] ∨ ∃ z, (z = 24 ∨ z = 25 ∨ z = 19) ∧ pr = [z] := by
  rcases h with ⟨-, h⟩ | ⟨-, h | h | h⟩ | ⟨-, h⟩
  · exact Or.inl h
  · exact Or.inr ⟨_, Or.inl rfl, h⟩
  · exact Or.inr ⟨_, Or.inr (Or.inl rfl), h⟩
  · exact Or.inr ⟨_, Or.inr (Or.inr rfl), h⟩
  · exact Or.inr ⟨_, Or.inr (Or.inr rfl), h⟩
theorem rk_z {z : Int} (h : z = 24 ∨ z = 25 ∨ z = 19) : rkC z = 0 := by
  rcases h with rfl | rfl | rfl <;> rfl
theorem wP_j {k L : Int} {pr : List Int} (h : wP k pr) (hL : 1 ≤ L) : jnE L pr = [] ∧ jnR L pr = pr := by
  rcases wP_z h with rfl | ⟨z, hz, rfl⟩
  · exact ⟨rfl, rfl⟩
  · refine jn_lo (fun q hq => ?_)
    have e : z = q := Option.some.inj hq
    rw [← e, rk_z hz]
    omega
theorem pdO_p {k : Int} {pr : List Int} (h : wP k pr) : pdO pr = [] := by
  rcases wP_z h with rfl | ⟨z, hz, rfl⟩
  · rfl
  · rcases hz with rfl | rfl | rfl <;> rfl
theorem hd_B {k : Int} {B pr : List Int} (hB : wB B) (hP : wP k pr) : ∀ q, (B ++ pr).head? = some q → rkC q < 4 := by
  obtain ⟨N, s, rfl, hs⟩ := hB
  intro q hq
  cases N with
  | succ N =>
    have e : (22 : Int) = q := Option.some.inj hq
    rw [← e]
    decide
  | zero =>
    rcases hs with rfl | rfl | rfl | rfl
    · rcases wP_z hP with rfl | ⟨z, hz, rfl⟩
      · have e : (none : Option Int) = some q := hq
        cases e
      · have e : z = q := Option.some.inj hq
        rw [← e, rk_z hz]
        decide
    · have e : (20 : Int) = q := Option.some.inj hq
      rw [← e]
      decide
    · have e : (21 : Int) = q := Option.some.inj hq
      rw [← e]
      decide
    · have e : (21 : Int) = q := Option.some.inj hq
      rw [← e]
      decide
theorem hd_X {k : Int} {C B pr : List Int} (hC : wC C) (hB : wB B) (hP : wP k pr) : ∀ q, (C ++ (B ++ pr)).head? = some q → rkC q < 5 := by
  intro q hq
  rcases hC with rfl | ⟨c, hc, rfl⟩
  · have := hd_B hB hP q hq
    omega
  · have e : c = q := Option.some.inj hq
    rw [← e, hc]
    decide
theorem prO_z : ∀ (X : List Int) (z : Int), prO (X ++ [z]) = z
  | [], _ => rfl
  | [_], _ => rfl
  | _ :: y :: X, z => prO_z (y :: X) z
theorem pdP_0 {k z : Int} (h3 : ¬ k = 3) (h4 : ¬ k = 4) : pdP k z = [] := by
  unfold pdP
  rw [if_neg h3, if_neg h4]
theorem pdP_e {k : Int} {pr : List Int} (h : wP k pr) (X : List Int) : pdP k (prO (X ++ pr)) = pdP k (prO pr) := by
  rcases h with ⟨h, -⟩ | ⟨-, h⟩ | ⟨h, -⟩
  · rw [pdP_0 (by omega) (by omega), pdP_0 (by omega) (by omega)]
  · obtain ⟨z, e⟩ : ∃ z, pr = [z] := by
      rcases h with h | h | h <;> exact ⟨_, h⟩
    rw [e, prO_z]
    rfl
  · rw [pdP_0 (by omega) (by omega), pdP_0 (by omega) (by omega)]
theorem pdP_34 (z : Int) : pdP 4 z = false :: pdP 3 z := by
  show (if z = 19 then [false, true] else [false]) = false :: (if z = 19 then [true] else [])
  by_cases h : z = 19
  · rw [if_pos h, if_pos h]
  · rw [if_neg h, if_neg h]
theorem pdP_2 (k z : Int) : (pdP k z).length ≤ 2 := by
  unfold pdP
  (repeat' split)
  all_goals first
    | (show 0 ≤ 2; decide)
    | (show 1 ≤ 2; decide)
    | (show 2 ≤ 2; decide)
/-- what a frame waits with, told apart -/
theorem pdL_X {k ph bg : Int} {X pr ops : List Int} {r : List Fr} (h : wP k pr) (e : ops = X ++ pr) : pdL ((k, ph, bg, ops) :: r) = pdO ops ++ (pdP k (prO pr) ++ pdL r) := by
  subst e
  show (pdO (X ++ pr) ++ pdP k (prO (X ++ pr))) ++ pdL r = _
  rw [pdP_e h, List.append_assoc]
theorem wF_8 {k ph bg : Int} {ops : List Int} (h : wF k ph bg ops) : (pdO ops ++ pdP k (prO ops)).length ≤ 8 := by
  obtain ⟨A, C, B, pr, rfl, hA, hC, hB, hP, -⟩ := h
  have a := pdO_le A (C ++ (B ++ pr))
  have b := pdO_le C (B ++ pr)
  have a2 := wA_2 hA
  have c1 : C.length ≤ 1 := by
    rcases hC with rfl | ⟨c, -, rfl⟩
    · show 0 ≤ 1
      decide
    · show 1 ≤ 1
      decide
  obtain ⟨N, s, rfl, hs⟩ := hB
  rw [List.append_assoc, pdO_N] at b
  have d := pdO_le s pr
  rw [pdO_p hP] at d
  have s2 : s.length ≤ 2 := by
    rcases hs with rfl | rfl | rfl | rfl
    · show 0 ≤ 2
      decide
    · show 1 ≤ 2
      decide
    · show 1 ≤ 2
      decide
    · show 2 ≤ 2
      decide
  have p2 := pdP_2 k (prO (A ++ (C ++ (List.replicate N 22 ++ s ++ pr))))
  have d0 : ([] : List Bool).length = 0 := rfl
  rw [List.append_assoc] at a p2 ⊢
  rw [List.length_append]
  rw [d0] at d
  omega
theorem wR_8 {K : Int} : ∀ {k : Int} {r : List Fr}, wR K k r → (pdL r).length ≤ 8 * r.length
  | _, [], _ => by
    show 0 ≤ _
    omega
  | _, f :: r, h => by
    obtain ⟨-, a, -, -, -, e⟩ := wR_c h
    have k := wR_8 e
    have j := wF_8 a
    show ((pdO f.2.2.2 ++ pdP f.1 (prO f.2.2.2)) ++ pdL r).length ≤ 8 * (r.length + 1)
    rw [List.length_append]
    omega
theorem pdL_64 {K k ph bg : Int} {ops : List Int} {r : List Fr} (h : wF k ph bg ops) (hr : wR K k r) (hl : ((k, ph, bg, ops) :: r : List Fr).length ≤ 8) : (pdL ((k, ph, bg, ops) :: r)).length ≤ 64 := by
  have a := wF_8 h
  have b := wR_8 hr
  rw [List.length_cons] at hl
  show ((pdO ops ++ pdP k (prO ops)) ++ pdL r).length ≤ 64
  rw [List.length_append]
  omega
/-- a sign of sums is pushed -/
theorem jr_A {A X : List Int} {c : Int} (hA : wA A) (hc : 5 ≤ rkC c) (hX : ∀ q, X.head? = some q → rkC q < 5) : ∃ A', jnR (rkC c) (A ++ X) = A' ++ X ∧ wA (c :: A') := by
  have b := rkC_b c
  have x := (jn_lo (L := rkC c) (l := X) (fun q hq => by have := hX q hq; omega)).2
  rcases hA with rfl | ⟨a, ha, rfl⟩ | ⟨a, d, ha, hd, rfl⟩
  · exact ⟨[], x, Or.inr (Or.inl ⟨c, hc, rfl⟩)⟩
  · by_cases v : rkC c ≤ rkC a
    · exact ⟨[], (jn_hi (t := X) v).2.trans x, Or.inr (Or.inl ⟨c, hc, rfl⟩)⟩
    · have b2 := rkC_b a
      refine ⟨[a], (jn_lo (l := a :: X) (fun q hq => ?_)).2, Or.inr (Or.inr ⟨c, a, by omega, by omega, rfl⟩)⟩
      have e : a = q := Option.some.inj hq
      rw [← e]
      omega
  · have v : rkC c ≤ rkC a := by omega
    have y := (jn_hi (t := d :: X) v).2
    by_cases u : rkC c ≤ rkC d
    · exact ⟨[], y.trans ((jn_hi (t := X) u).2.trans x), Or.inr (Or.inl ⟨c, hc, rfl⟩)⟩
    · refine ⟨[d], y.trans (jn_lo (l := d :: X) (fun q hq => ?_)).2, Or.inr (Or.inr ⟨c, d, by omega, hd, rfl⟩)⟩
      have e : d = q := Option.some.inj hq
      rw [← e]
      omega
/-- a test's comparison is over: what is printed of it -/
theorem fl_C {L k ph : Int} {A C B pr : List Int} {R : List Bool} (hL : L ≤ 4) (hA : wA A) (hC : wC C) (hT : wFT k ph A C) (hk : sIT k) (h0 : ¬ ph = 0) (hl : (pdO (A ++ (C ++ (B ++ pr))) ++ R).length < 98) : ∃ E, jnE L (A ++ (C ++ (B ++ pr))) = E ++ jnE L (B ++ pr) ∧ jnR L (A ++ (C ++ (B ++ pr))) = jnR L (B ++ pr) ∧ tyS E (decide (ph = 2) :: (pdO (A ++ (C ++ (B ++ pr))) ++ R)) = some (true :: (pdO (B ++ pr) ++ R)) ∧ (pdO (B ++ pr) ++ R).length < 98 := by
  rcases hT hk with ⟨h, -⟩ | ⟨h, h'⟩ | ⟨h, hA0, hC0⟩
  · exact absurd h h0
  · rcases hC with hC | ⟨c, hc, rfl⟩
    · exact absurd hC h'
    have a5 := wA_5 hA
    have j := jn_A (L := L) (by omega) A ([c] ++ (B ++ pr)) a5
    have j2 := jn_hi (t := B ++ pr) (show L ≤ rkC c by omega)
    have la := pdO_A A ([c] ++ (B ++ pr)) a5
    have e : pdO ([c] ++ (B ++ pr)) = false :: pdO (B ++ pr) := pdO_4 hc
    have t := ty_A A ([c] ++ (B ++ pr)) R a5 hl
    have lb : (pdO (B ++ pr) ++ R).length < 97 := by
      rw [List.length_append, la, e, List.length_cons] at hl
      rw [List.length_append]
      omega
    have v : decide (ph = 2) = false := decide_eq_false (by omega)
    refine ⟨opE A ++ [10000 + c], ?_, j.2.trans j2.2, ?_, by omega⟩
    · rw [j.1, List.append_assoc]
      exact congrArg (opE A ++ ·) j2.1
    · rw [tyS_app, v, t, e]
      show tyS [10000 + c] (false :: false :: (pdO (B ++ pr) ++ R)) = _
      rw [tyS_1, ty_4 hc (by omega)]
  · subst hA0
    subst hC0
    subst h
    exact ⟨[], rfl, rfl, rfl, hl⟩
/-- all of a frame is printed -/
theorem fl_1 {k ph : Int} {A C B pr : List Int} {R : List Bool} (hA : wA A) (hC : wC C) (hB : wB B) (hP : wP k pr) (hT : wFT k ph A C) (hS : ¬ sIT k → ph = 0 ∧ C = [] ∧ B = []) (h5 : sIT k → ¬ ph = 0) (hl : (pdO (A ++ (C ++ (B ++ pr))) ++ R).length < 98) : ∃ b, (sIT k → b = true) ∧ (¬ sIT k → b = false) ∧ tyS (jnE 1 (A ++ (C ++ (B ++ pr)))) (decide (ph = 2) :: (pdO (A ++ (C ++ (B ++ pr))) ++ R)) = some (b :: R) ∧ jnR 1 (A ++ (C ++ (B ++ pr))) = pr := by
  by_cases v : sIT k
  · obtain ⟨E, e1, e2, e3, lb⟩ := fl_C (L := 1) (by decide) hA hC hT v (h5 v) hl
    obtain ⟨t, j⟩ := ty_B1 hB (wP_j hP (by decide)) lb
    rw [pdO_p hP] at t
    refine ⟨true, fun _ => rfl, fun q => absurd v q, ?_, e2.trans j⟩
    rw [e1, tyS_app, e3]
    exact t
  · obtain ⟨s1, s2, s3⟩ := hS v
    subst s2
    subst s3
    have t := ty_A A pr R (wA_5 hA) hl
    rw [pdO_p hP] at t
    have j := jn_A (L := 1) (by decide) A pr (wA_5 hA)
    have j2 := wP_j (L := 1) hP (by decide)
    have u : decide (ph = 2) = false := decide_eq_false (by omega)
    have j3 : jnE 1 (A ++ ([] ++ ([] ++ pr))) = opE A := by
      refine j.1.trans ?_
      rw [j2.1, List.append_nil]
    refine ⟨false, fun q => absurd q v, fun _ => rfl, ?_, j.2.trans j2.2⟩
    rw [j3, u]
    exact t
/-- what holds while the machine runs -/
def iO (K : Int) (w : List Int) (l : List Fr) : Prop := ∃ k ph bg ops r, l = (k, ph, bg, ops) :: r ∧ wF k ph bg ops ∧ ph < 2 ∧ wR K k r ∧ tyS w [] = some (pdL l)
def iG (K : Int) (w : List Int) (l : List Fr) : Prop := ∃ k ph bg ops r, l = (k, ph, bg, ops) :: r ∧ wF k ph bg ops ∧ (sIT k → bg = 0) ∧ wR K k r ∧ tyS w [] = some (decide (ph = 2) :: pdL l)
def iH (K : Int) (w : List Int) (l : List Fr) (h : Int) : Prop := l.length ≤ 8 ∧ ((h = 0 ∧ iO K w l) ∨ (h = 1 ∧ iG K w l))
def gP (K : Int) (w : List Int) (y : List Int × Option ((List Fr × Int) × Int)) : Prop := match y.2 with
  | none => tyS (w ++ y.1) [] = some [decide (K = 1)]
  | some x => iH K (w ++ y.1) x.1.1 x.1.2
theorem nnC_0 : ∀ l : List Int, 0 ≤ nnC l
  | [] => by
    show (0 : Int) ≤ 0
    decide
  | q :: t => by
    have k := nnC_0 t
    show 0 ≤ (if q = 22 then 1 else 0) + nnC t
    split <;> omega
theorem nts_0 : ∀ l : List Fr, 0 ≤ nts l
  | [] => by
    show (0 : Int) ≤ 0
    decide
  | f :: r => by
    have k := nts_0 r
    have j := nnC_0 f.2.2.2
    show 0 ≤ nnC f.2.2.2 + nts r
    omega
theorem opn_l {l : List Fr} (h : opn l < 7) : l.length ≤ 7 := by
  have k := nts_0 l
  unfold opn at h
  omega
theorem ty1_v {i : Int} {st : List Bool} (h : (0 ≤ i ∧ i < 10000) ∨ i = 10015 ∨ i = 10007 ∨ i = 10008 ∨ i = 10016 ∨ i = 10017 ∨ i = 10018) (hl : st.length < 100) : ty1 i st = some (false :: st) := by
  unfold ty1
  rw [if_pos hl, if_pos h]
variable {T : List Int32} {n wh : Int}
theorem tk_v {p : Int} (h0 : 0 ≤ p) (h1 : p ≤ n) (h : (tkf T n p).1.1 = 2) : 0 ≤ (tkf T n p).1.2.1 ∧ (tkf T n p).1.2.1 < 10000 := by
  have k := (tk_ok (T := T) h0 h1).1
  generalize (tkf T n p).1 = t at h k
  obtain ⟨b, -, k⟩ := k
  rcases k with ⟨-, rfl, -⟩ | ⟨-, -, -, rfl, -⟩ | ⟨-, -, q, -, -, ⟨-, rfl⟩ | ⟨-, -, rfl⟩⟩ | ⟨h1, -, q, ⟨r1, r2, r3, -⟩, -, ⟨-, rfl⟩ | ⟨-, h4, rfl⟩⟩
  · exact absurd h (by show ¬ (0 : Int) = 2; decide)
  · exact absurd h (by show ¬ (3 : Int) = 2; decide)
  · exact absurd h (by show ¬ (4 : Int) = 2; decide)
  · exact absurd h (by show ¬ (1 : Int) = 2; decide)
  · exact absurd h (by show ¬ (4 : Int) = 2; decide)
  · have d := dgv_b (T := T) (b := b) (q - b).toNat (fun i i0 i1 => r3 i i0 (by omega))
    show 0 ≤ dgv T b (q - b).toNat ∧ dgv T b (q - b).toNat < 10000
    refine ⟨d.1, Int.lt_of_lt_of_le d.2 ?_⟩
    have e : (q - b).toNat = 0 ∨ (q - b).toNat = 1 ∨ (q - b).toNat = 2 ∨ (q - b).toNat = 3 ∨ (q - b).toNat = 4 := by omega
    rcases e with e | e | e | e | e <;> rw [e] <;> decide
theorem vIt_t {p : Int} (h0 : 0 ≤ p) (h1 : p ≤ n) (h : sIV T n wh p) : (0 ≤ vIt T n p ∧ vIt T n p < 10000) ∨ vIt T n p = 10015 ∨ vIt T n p = 10007 ∨ vIt T n p = 10008 ∨ vIt T n p = 10016 ∨ vIt T n p = 10017 ∨ vIt T n p = 10018 := by
  by_cases v : (tkf T n p).1.1 = 2
  · have e : vIt T n p = (tkf T n p).1.2.1 := if_pos v
    rw [e]
    exact Or.inl (tk_v h0 h1 v)
  · have e : vIt T n p = 10000 + wIx T n p := if_neg v
    rw [e]
    rcases h with c | c | c | c | c | c | c
    · exact absurd c v
    · rw [wIx_O (by decide) (by decide) c]
      decide
    · rw [wIx_O (by decide) (by decide) c]
      decide
    · rw [wIx_O (by decide) (by decide) c]
      decide
    · rw [wIx_O (by decide) (by decide) c]
      decide
    · rw [wIx_O (by decide) (by decide) c.1]
      decide
    · rw [wIx_O (by decide) (by decide) c.1]
      decide
end TYB
section TYC
variable {T : List Int32} {n wh : Int}
theorem ty_o {K p : Int} {w : List Int} {l : List Fr} {x : List Int × ((List Fr × Int) × Int)} (h0 : 0 ≤ p) (h1 : p ≤ n) (hl : l.length ≤ 8) (hi : iO K w l) (h : sOpd T n wh l p = some x) : iH K (w ++ x.1) x.2.1.1 x.2.1.2 := by
  obtain ⟨k, ph, bg, ops, r, rfl, hf, hp, hr, ht⟩ := hi
  have l64 := pdL_64 hf hr hl
  have hB : sIT k → ¬ bg = 0 → ph = 0 ∧ ∃ B pr, ops = B ++ pr ∧ wB B ∧ wP k pr := by
    obtain ⟨A, C, B, pr, e, -, -, hB, hP, -, -, hG⟩ := hf
    intro a b
    obtain ⟨rfl, rfl, g⟩ := hG a b
    exact ⟨g, B, pr, e, hB, hP⟩
  have hZ : wF k ph 0 ops := by
    obtain ⟨A, C, B, pr, e, hA, hC, hB, hP, hT, hS, -⟩ := hf
    exact ⟨A, C, B, pr, e, hA, hC, hB, hP, hT, hS, fun _ q => absurd rfl q⟩
  have hN : ∀ k' pr', 2 ≤ k' → ¬ k' = 5 → wP k' pr' → wFT k' 0 [] [] ∧ wF k' 0 1 pr' ∧ wR K k' ((k, ph, 0, ops) :: r) := by
    intro k' pr' a b c
    have ft : wFT k' 0 [] [] := fun _ => Or.inl ⟨rfl, rfl⟩
    exact ⟨ft, ⟨[], [], [], pr', rfl, wA_n, wC_n, wB_n, c, ft, fun _ => ⟨rfl, rfl, rfl⟩, fun _ _ => ⟨rfl, rfl, rfl⟩⟩, a, hZ, hp, rfl, fun q => absurd q b, hr⟩
  unfold sOpd at h
  rcases pif_s h with ⟨c, h⟩ | ⟨-, h⟩
  · obtain ⟨hn, h⟩ := oif_s h
    cases h
    obtain ⟨g, B, pr, e, hB1, hP⟩ := hB c.1.1 c.1.2
    subst e
    refine ⟨hl, Or.inl ⟨rfl, k, ph, bg, 22 :: (B ++ pr), r, rfl, ⟨[], [], 22 :: B, pr, rfl, wA_n, wC_n, wB_22 hB1, hP, fun _ => Or.inl ⟨g, rfl⟩, fun q => absurd c.1.1 q, fun _ _ => ⟨rfl, rfl, g⟩⟩, hp, hr, ?_⟩⟩
    show tyS (w ++ []) [] = some (pdL ((k, ph, bg, 22 :: (B ++ pr)) :: r))
    rw [List.append_nil, ht, pdL_X (ops := B ++ pr) (X := B) hP rfl, pdL_X (ops := 22 :: (B ++ pr)) (X := 22 :: B) hP rfl]
    rfl
  rcases pif_s h with ⟨c, h⟩ | ⟨-, h⟩
  · obtain ⟨hn, h⟩ := oif_s h
    cases h
    obtain ⟨g, hb⟩ := hB c.1.1 c.1.2
    have hn' := opn_l hn
    refine ⟨Nat.succ_le_succ hn', Or.inl ⟨rfl, 5, 0, 1, [], (k, ph, 0, ops) :: r, rfl, ⟨[], [], [], [], rfl, wA_n, wC_n, wB_n, Or.inl ⟨Or.inr (Or.inr (Or.inr rfl)), rfl⟩, fun _ => Or.inl ⟨rfl, rfl⟩, fun _ => ⟨rfl, rfl, rfl⟩, fun _ _ => ⟨rfl, rfl, rfl⟩⟩, by decide, ⟨by decide, hZ, hp, rfl, fun _ => ⟨c.1.1, hb, g⟩, hr⟩, ?_⟩⟩
    show tyS (w ++ []) [] = some (pdL ((k, ph, bg, ops) :: r))
    rw [List.append_nil]
    exact ht
  rcases pif_s h with ⟨c, h⟩ | ⟨-, h⟩
  · cases h
    obtain ⟨g, B, pr, e, hB1, hP⟩ := hB c.1.1 c.1.2
    refine ⟨hl, Or.inr ⟨rfl, k, 2, 0, ops, r, rfl, ⟨[], [], B, pr, e, wA_n, wC_n, hB1, hP, fun _ => Or.inr (Or.inr ⟨rfl, rfl, rfl⟩), fun q => absurd c.1.1 q, fun _ q => absurd rfl q⟩, fun _ => rfl, hr, ?_⟩⟩
    show tyS (w ++ [10023]) [] = some (true :: pdL ((k, ph, bg, ops) :: r))
    rw [tyS_app, ht]
    show tyS [10023] (pdL ((k, ph, bg, ops) :: r)) = _
    rw [tyS_1]
    unfold ty1
    rw [if_pos (by omega)]
    rfl
  rcases pif_s h with ⟨c, h⟩ | ⟨-, h⟩
  · obtain ⟨hn, h⟩ := oif_s h
    cases h
    have hn' := opn_l hn
    obtain ⟨-, a, b⟩ := hN 2 [] (by decide) (by decide) (Or.inl ⟨Or.inr (Or.inr (Or.inl rfl)), rfl⟩)
    refine ⟨Nat.succ_le_succ hn', Or.inl ⟨rfl, 2, 0, 1, [], (k, ph, 0, ops) :: r, rfl, a, by decide, b, ?_⟩⟩
    show tyS (w ++ []) [] = some (pdL ((k, ph, bg, ops) :: r))
    rw [List.append_nil]
    exact ht
  rcases pif_s h with ⟨c, h⟩ | ⟨-, h⟩
  · obtain ⟨e, he, h⟩ := ob_s h
    obtain ⟨hn, h⟩ := oif_s h
    have hn' := opn_l hn
    have hw : wIx T n p = 24 ∨ wIx T n p = 25 := by
      rcases c with c | c
      · exact Or.inl (wIx_O (by decide) (by decide) c)
      · exact Or.inr (wIx_O (by decide) (by decide) c)
    generalize wIx T n p = z at h hw
    cases h
    obtain ⟨-, a, b⟩ := hN 3 [z] (by decide) (by decide) (Or.inr (Or.inl ⟨Or.inl rfl, by
      rcases hw with rfl | rfl
      · exact Or.inl rfl
      · exact Or.inr (Or.inl rfl)⟩))
    refine ⟨Nat.succ_le_succ hn', Or.inl ⟨rfl, 3, 0, 1, [z], (k, ph, 0, ops) :: r, rfl, a, by decide, b, ?_⟩⟩
    show tyS (w ++ []) [] = _
    rw [List.append_nil, ht]
    rcases hw with rfl | rfl <;> rfl
  rcases pif_s h with ⟨c, h⟩ | ⟨-, h⟩
  · obtain ⟨e, he, h⟩ := ob_s h
    obtain ⟨hn, h⟩ := oif_s h
    have hn' := opn_l hn
    rw [wIx_O (by decide) (by decide) c] at h
    cases h
    obtain ⟨-, a, b⟩ := hN 6 [19] (by decide) (by decide) (Or.inr (Or.inr ⟨rfl, rfl⟩))
    refine ⟨Nat.succ_le_succ hn', Or.inl ⟨rfl, 6, 0, 1, [19], (k, ph, 0, ops) :: r, rfl, a, by decide, b, ?_⟩⟩
    show tyS (w ++ []) [] = _
    rw [List.append_nil, ht]
    rfl
  obtain ⟨c, h⟩ := oif_s h
  cases h
  refine ⟨hl, Or.inr ⟨rfl, k, ph, 0, ops, r, rfl, hZ, fun _ => rfl, hr, ?_⟩⟩
  show tyS (w ++ [vIt T n p]) [] = some (decide (ph = 2) :: pdL ((k, ph, bg, ops) :: r))
  rw [tyS_app, ht, decide_eq_false (show ¬ ph = 2 by omega)]
  show tyS [vIt T n p] (pdL ((k, ph, bg, ops) :: r)) = _
  rw [tyS_1, ty1_v (vIt_t h0 h1 c) (by omega)]
theorem ty_g {K p : Int} {w : List Int} {l : List Fr} {y : List Int × Option ((List Fr × Int) × Int)} (hK : K = 0 ∨ K = 1) (hl : l.length ≤ 8) (hi : iG K w l) (h : sGon T n l p = some y) : gP K w y := by
  obtain ⟨k, ph, bg, ops, r, rfl, hf, hb, hr, ht⟩ := hi
  have l64 := pdL_64 hf hr hl
  obtain ⟨A, C, B, pr, rfl, hA, hC, hB, hP, hT, hS, hG⟩ := hf
  have ex : A ++ (C ++ (B ++ pr)) = (A ++ (C ++ B)) ++ pr := by
    rw [List.append_assoc, List.append_assoc]
  have eL := pdL_X (ph := ph) (bg := bg) (r := r) hP ex
  rw [eL] at ht l64
  generalize hR : pdP k (prO pr) ++ pdL r = R at ht l64 eL
  have lR : (pdO (A ++ (C ++ (B ++ pr))) ++ R).length < 98 := by omega
  unfold sGon at h
  dsimp only at h
  rcases pif_s h with ⟨c, h⟩ | ⟨-, h⟩
  · cases h
  rcases pif_s h with ⟨c, h⟩ | ⟨-, h⟩
  · have ho : 5 ≤ rkC (tkf T n p).1.2.1 := by
      rcases c.2 with (q | q) | q | q | q <;> rw [q.2] <;> decide
    have hp := c.1
    clear c
    generalize (tkf T n p).1.2.1 = o at ho h
    cases h
    obtain ⟨A', hA1, hA2⟩ := jr_A hA ho (hd_X hC hB hP)
    have v : decide (ph = 2) = false := decide_eq_false (by omega)
    have t := ty_L ho (A ++ (C ++ (B ++ pr))) R lR
    show iH K (w ++ jnE (rkC o) (A ++ (C ++ (B ++ pr)))) ((k, ph, bg, o :: jnR (rkC o) (A ++ (C ++ (B ++ pr)))) :: r) 0
    rw [hA1] at t ⊢
    refine ⟨hl, Or.inl ⟨rfl, k, ph, bg, o :: (A' ++ (C ++ (B ++ pr))), r, rfl, ⟨o :: A', C, B, pr, rfl, hA2, hC, hB, hP, ?_, hS, fun q1 q2 => absurd (hb q1) q2⟩, hp, hr, ?_⟩⟩
    · intro q
      rcases hT q with q | q | q
      · exact Or.inl q
      · exact Or.inr (Or.inl q)
      · exfalso
        have := q.1
        omega
    · have ex' : o :: (A' ++ (C ++ (B ++ pr))) = (o :: (A' ++ (C ++ B))) ++ pr := by
        rw [List.cons_append, List.append_assoc, List.append_assoc]
      rw [tyS_app, ht, v, pdL_X hP ex', pdO_5 ho, hR]
      exact t
  rcases pif_s h with ⟨c, h⟩ | ⟨-, h⟩
  · have ho : rkC (tkf T n p).1.2.1 = 4 := by
      rcases c.2 with q | q | q <;> rw [q.2] <;> decide
    have hk := c.1
    clear c
    generalize (tkf T n p).1.2.1 = o at ho h
    cases h
    have hC0 : C = [] := by
      rcases hT hk.1 with q | q | q
      · exact q.2
      · exfalso
        have := q.1
        omega
      · exact q.2.2
    subst hC0
    have v : decide (ph = 2) = false := decide_eq_false (by omega)
    have t := ty_A A (B ++ pr) R (wA_5 hA) lR
    have j := jn_A (L := 5) (by decide) A (B ++ pr) (wA_5 hA)
    have j2 := jn_lo (L := 5) (l := B ++ pr) (fun q hq => by have := hd_B hB hP q hq; omega)
    have e1 : jnE 5 (A ++ ([] ++ (B ++ pr))) = opE A := by
      refine j.1.trans ?_
      rw [j2.1, List.append_nil]
    have e2 : jnR 5 (A ++ ([] ++ (B ++ pr))) = B ++ pr := j.2.trans j2.2
    show iH K (w ++ jnE 5 (A ++ ([] ++ (B ++ pr)))) ((k, 1, bg, o :: jnR 5 (A ++ ([] ++ (B ++ pr)))) :: r) 0
    rw [e1, e2]
    refine ⟨hl, Or.inl ⟨rfl, k, 1, bg, o :: (B ++ pr), r, rfl, ⟨[], [o], B, pr, rfl, wA_n, Or.inr ⟨o, ho, rfl⟩, hB, hP, fun _ => Or.inr (Or.inl ⟨rfl, List.cons_ne_nil _ _⟩), fun q => absurd hk.1 q, fun q1 q2 => absurd (hb q1) q2⟩, by decide, hr, ?_⟩⟩
    rw [tyS_app, ht, v, pdL_X (ops := o :: (B ++ pr)) (X := o :: B) hP rfl, pdO_4 ho, hR]
    exact t
  rcases pif_s h with ⟨c, h⟩ | ⟨-, h⟩
  · obtain ⟨hph, h⟩ := oif_s h
    rcases c.2 with q | q
    · rw [wIx_O (by decide) (by decide) q] at h
      cases h
      obtain ⟨E, e1, e2, e3, lb⟩ := fl_C (L := 2) (by decide) hA hC hT c.1 hph lR
      obtain ⟨B', hB', j, t⟩ := ty_B2 hB (wP_j hP (by decide)) lb
      show iH K (w ++ jnE 2 (A ++ (C ++ (B ++ pr)))) ((k, 0, 1, 21 :: jnR 2 (A ++ (C ++ (B ++ pr)))) :: r) 0
      rw [e2, j]
      have wb : wB (21 :: B') := by
        rcases hB' with rfl | rfl
        · exact ⟨0, [21], rfl, Or.inr (Or.inr (Or.inl rfl))⟩
        · exact ⟨0, [21, 20], rfl, Or.inr (Or.inr (Or.inr rfl))⟩
      refine ⟨hl, Or.inl ⟨rfl, k, 0, 1, 21 :: (B' ++ pr), r, rfl, ⟨[], [], 21 :: B', pr, rfl, wA_n, wC_n, wb, hP, fun _ => Or.inl ⟨rfl, rfl⟩, fun q => absurd c.1 q, fun _ _ => ⟨rfl, rfl, rfl⟩⟩, by decide, hr, ?_⟩⟩
      have ed : pdO (21 :: (B' ++ pr)) = true :: pdO (B' ++ pr) := rfl
      rw [tyS_app, ht, pdL_X (ops := 21 :: (B' ++ pr)) (X := 21 :: B') hP rfl, ed, hR]
      show tyS (jnE 2 (A ++ (C ++ (B ++ pr)))) (decide (ph = 2) :: (pdO (A ++ (C ++ (B ++ pr))) ++ R)) = _
      rw [e1, tyS_app, e3]
      exact t
    · rw [wIx_O (by decide) (by decide) q] at h
      cases h
      obtain ⟨E, e1, e2, e3, lb⟩ := fl_C (L := 1) (by decide) hA hC hT c.1 hph lR
      obtain ⟨t, j⟩ := ty_B1 hB (wP_j hP (by decide)) lb
      show iH K (w ++ jnE 1 (A ++ (C ++ (B ++ pr)))) ((k, 0, 1, 20 :: jnR 1 (A ++ (C ++ (B ++ pr)))) :: r) 0
      rw [e2, j]
      have wb : wB [20] := ⟨0, [20], rfl, Or.inr (Or.inl rfl)⟩
      refine ⟨hl, Or.inl ⟨rfl, k, 0, 1, 20 :: pr, r, rfl, ⟨[], [], [20], pr, rfl, wA_n, wC_n, wb, hP, fun _ => Or.inl ⟨rfl, rfl⟩, fun q => absurd c.1 q, fun _ _ => ⟨rfl, rfl, rfl⟩⟩, by decide, hr, ?_⟩⟩
      have ed : pdO (20 :: pr) = true :: pdO pr := rfl
      rw [tyS_app, ht, pdL_X (ops := 20 :: pr) (X := [20]) hP rfl, ed, hR]
      show tyS (jnE 1 (A ++ (C ++ (B ++ pr)))) (decide (ph = 2) :: (pdO (A ++ (C ++ (B ++ pr))) ++ R)) = _
      rw [e1, tyS_app, e3]
      exact t
  rcases pif_s h with ⟨c, h⟩ | ⟨n5, h⟩
  · cases h
  have h5 : sIT k → ¬ ph = 0 := fun a b => n5 ⟨a, b⟩
  obtain ⟨b, b1, b0, t, j⟩ := fl_1 hA hC hB hP hT hS h5 lR
  have hK2 : K < 2 := by omega
  have t' : tyS (w ++ jnE 1 (A ++ (C ++ (B ++ pr)))) [] = some (b :: R) := by
    rw [tyS_app, ht]
    exact t
  rcases pif_s h with ⟨c, h⟩ | ⟨n6, h⟩
  · cases h
    show tyS (w ++ jnE 1 (A ++ (C ++ (B ++ pr)))) [] = some [decide (K = 1)]
    cases r with
    | cons g r =>
      exfalso
      have := (wR_c hr).1
      omega
    | nil =>
      have hk := wR_n hr
      subst hk
      rw [t', ← hR, pdP_0 (by omega) (by omega)]
      rcases hK with hK | hK
      · subst hK
        rw [b0 (by unfold sIT; decide)]
        rfl
      · subst hK
        rw [b1 (Or.inl rfl)]
        rfl
  rcases pif_s h with ⟨c, h⟩ | ⟨n7, h⟩
  · obtain ⟨-, h⟩ := oif_s h
    cases h
    rcases c with c | c
    · subst c
      have e : (3 * 2 - 2 - (3 - 3) / 3 * 7 : Int) = 4 := by decide
      show iH K (w ++ jnE 1 (A ++ (C ++ (B ++ pr)))) (((3 * 2 - 2 - (3 - 3) / 3 * 7 : Int), 0, bg, jnR 1 (A ++ (C ++ (B ++ pr)))) :: r) 0
      rw [e, j]
      have hP4 : wP 4 pr := by
        rcases hP with ⟨hP, -⟩ | ⟨-, hP⟩ | ⟨hP, -⟩
        · exfalso
          omega
        · exact Or.inr (Or.inl ⟨Or.inr rfl, hP⟩)
        · exfalso
          omega
      have n4 : ¬ sIT 4 := by
        unfold sIT
        decide
      refine ⟨hl, Or.inl ⟨rfl, 4, 0, bg, pr, r, rfl, ⟨[], [], [], pr, rfl, wA_n, wC_n, wB_n, hP4, fun q => absurd q n4, fun _ => ⟨rfl, rfl, rfl⟩, fun q => absurd q n4⟩, by decide, wR_k hr hK2 (by decide) (by decide) (by decide), ?_⟩⟩
      rw [t', ← hR, pdL_X (ops := pr) (X := []) hP4 rfl, pdO_p hP4, pdP_34, b0 (by unfold sIT; decide)]
      rfl
    · subst c
      have e : (6 * 2 - 2 - (6 - 3) / 3 * 7 : Int) = 3 := by decide
      show iH K (w ++ jnE 1 (A ++ (C ++ (B ++ pr)))) (((6 * 2 - 2 - (6 - 3) / 3 * 7 : Int), 0, bg, jnR 1 (A ++ (C ++ (B ++ pr)))) :: r) 0
      rw [e, j]
      have hP6 : pr = [19] := by
        rcases hP with ⟨hP, -⟩ | ⟨hP, -⟩ | ⟨-, hP⟩
        · exfalso
          omega
        · exfalso
          omega
        · exact hP
      have n3 : ¬ sIT 3 := by
        unfold sIT
        decide
      subst hP6
      refine ⟨hl, Or.inl ⟨rfl, 3, 0, bg, [19], r, rfl, ⟨[], [], [], [19], rfl, wA_n, wC_n, wB_n, Or.inr (Or.inl ⟨Or.inl rfl, Or.inr (Or.inr rfl)⟩), fun q => absurd q n3, fun _ => ⟨rfl, rfl, rfl⟩, fun q => absurd q n3⟩, by decide, wR_k hr hK2 (by decide) (by decide) (by decide), ?_⟩⟩
      rw [t', ← hR, b1 (Or.inr (Or.inr rfl))]
      rfl
  rcases pif_s h with ⟨c, h⟩ | ⟨n8, h⟩
  · obtain ⟨-, h⟩ := oif_s h
    cases h
    subst c
    show iH K (w ++ jnE 1 (A ++ (C ++ (B ++ pr)))) (ph2 r) 1
    cases r with
    | nil =>
      exfalso
      have := wR_n hr
      omega
    | cons g r =>
      obtain ⟨-, gF, gp, gb, g5, gr⟩ := wR_c hr
      obtain ⟨gT, ⟨B', pr', e', hB', hP'⟩, g0⟩ := g5 rfl
      have hl2 : (g :: r).length ≤ 8 := by
        rw [List.length_cons] at hl
        omega
      have hz : pr = [] := by
        rcases hP with ⟨-, hP⟩ | ⟨hP, -⟩ | ⟨hP, -⟩
        · exact hP
        · exfalso
          omega
        · exfalso
          omega
      refine ⟨hl2, Or.inr ⟨rfl, g.1, 2, g.2.2.1, g.2.2.2, r, rfl, ⟨[], [], B', pr', e', wA_n, wC_n, hB', hP', fun _ => Or.inr (Or.inr ⟨rfl, rfl, rfl⟩), fun q => absurd gT q, fun _ q => absurd gb q⟩, fun _ => gb, gr, ?_⟩⟩
      rw [t', ← hR, b1 (Or.inr (Or.inl rfl)), hz]
      rfl
  obtain ⟨-, h⟩ := oif_s h
  cases h
  show iH K (w ++ (jnE 1 (A ++ (C ++ (B ++ pr))) ++ opE (jnR 1 (A ++ (C ++ (B ++ pr)))))) r 1
  have hk : k = 2 ∧ pr = [] ∨ k = 4 := by
    rcases hP with ⟨h, h'⟩ | ⟨h, -⟩ | ⟨h, -⟩
    · refine Or.inl ⟨?_, h'⟩
      omega
    · refine Or.inr ?_
      omega
    · exfalso
      omega
  have nT : ¬ sIT k := by
    unfold sIT
    omega
  cases r with
  | nil =>
    exfalso
    have := wR_n hr
    omega
  | cons g r =>
    obtain ⟨-, gF, gp, gb, -, gr⟩ := wR_c hr
    have hl2 : (g :: r).length ≤ 8 := by
      rw [List.length_cons] at hl
      omega
    refine ⟨hl2, Or.inr ⟨rfl, g.1, g.2.1, g.2.2.1, g.2.2.2, r, rfl, gF, fun _ => gb, gr, ?_⟩⟩
    rw [j, ← List.append_assoc, tyS_app, t', b0 nT, ← hR, decide_eq_false (show ¬ g.2.1 = 2 by omega)]
    have lz : (pdL (g :: r)).length ≤ 64 := pdL_64 gF gr hl2
    show tyS (opE pr) (false :: (pdP k (prO pr) ++ pdL (g :: r))) = some (false :: pdL (g :: r))
    generalize pdL (g :: r) = Z at lz
    rcases hk with ⟨hk, hz⟩ | hk
    · subst hk
      subst hz
      rfl
    · subst hk
      have hz : pr = [24] ∨ pr = [25] ∨ pr = [19] := by
        rcases hP with ⟨hP, -⟩ | ⟨-, hP⟩ | ⟨hP, -⟩
        · exfalso
          omega
        · exact hP
        · exfalso
          omega
      rcases hz with rfl | rfl | rfl
      · show tyS [10000 + 24] (false :: false :: Z) = _
        rw [tyS_1, ty_p (Or.inl rfl) (by omega)]
      · show tyS [10000 + 25] (false :: false :: Z) = _
        rw [tyS_1, ty_p (Or.inr rfl) (by omega)]
      · show tyS [10000 + 19] (false :: false :: true :: Z) = _
        rw [tyS_1, ty_i (by omega)]
theorem mrn_ty {K : Int} (hK : K = 0 ∨ K = 1) : ∀ (f : Nat) (w : List Int) (l : List Fr) (h p q : Int) (c : List Int), 0 ≤ p → p ≤ n → iH K w l h → mrn T n wh f w l h p = some (q, c) → tyS c [] = some [decide (K = 1)]
  | 0, _, _, _, _, _, _, _, _, _, e => by cases e
  | f + 1, w, l, h, p, q, c, h0, h1, hi, e => by
    have e1 : pif (h = 0) ((sOpd T n wh l p).bind fun x => mrn T n wh f (w ++ x.1) x.2.1.1 x.2.1.2 x.2.2) ((sGon T n l p).bind fun y => match y.2 with
      | none => some (p, w ++ y.1)
      | some x => mrn T n wh f (w ++ y.1) x.1.1 x.1.2 x.2) = some (q, c) := e
    rcases pif_s e1 with ⟨v, e2⟩ | ⟨v, e2⟩
    · obtain ⟨x, hx, e3⟩ := ob_s e2
      rcases hi.2 with ⟨-, i⟩ | ⟨i, -⟩
      · have k := (sOpd_pos h0 h1 hx).1
        exact mrn_ty hK f _ _ _ _ _ _ (by omega) k.2 (ty_o h0 h1 hi.1 i hx) e3
      · exfalso
        omega
    · obtain ⟨y, hy, e3⟩ := ob_s e2
      rcases hi.2 with ⟨i, -⟩ | ⟨-, i⟩
      · exact absurd i v
      · have g := ty_g hK hi.1 i hy
        obtain ⟨cc, y⟩ := y
        cases y with
        | none =>
          have e4 : some (p, w ++ cc) = some (q, c) := e3
          cases e4
          exact g
        | some x =>
          have k := (sGon_pos h0 h1 hy).1
          exact mrn_ty hK f _ _ _ _ _ _ (by omega) k.2 g e3
/-- a rule's code leaves one value: a test's for 1, a sum's for 0 -/
theorem Mch_ty {K p q : Int} {c : List Int} (hK : K = 0 ∨ K = 1) (h0 : 0 ≤ p) (h1 : p ≤ n) (e : Mch T n wh [] [(K, 0, 1, [])] 0 p = some (q, c)) : tyS c [] = some [decide (K = 1)] := by
  refine mrn_ty hK _ _ _ _ _ _ _ h0 h1 ?_ e
  have hP : wP K [] := by
    rcases hK with rfl | rfl
    · exact Or.inl ⟨Or.inl rfl, rfl⟩
    · exact Or.inl ⟨Or.inr (Or.inl rfl), rfl⟩
  exact ⟨by show 1 ≤ 8; decide, Or.inl ⟨rfl, K, 0, 1, [], [], rfl, ⟨[], [], [], [], rfl, wA_n, wC_n, wB_n, hP, fun _ => Or.inl ⟨rfl, rfl⟩, fun _ => ⟨rfl, rfl, rfl⟩, fun _ _ => ⟨rfl, rfl, rfl⟩⟩, by decide, rfl, by
    have e : pdL [(K, 0, 1, [])] = pdP K 0 := by
      show ([] ++ pdP K 0) ++ [] = _
      rw [List.append_nil]
      rfl
    rw [e, pdP_0 (by omega) (by omega)]
    rfl⟩⟩
end TYC
