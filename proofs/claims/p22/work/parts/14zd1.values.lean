/-! what a rule's code comes to (pure) -/
section RVA
def bndI (x : Int) : Int := if 1000000 < x then 1000000 else if x < -1000000 then -1000000 else x
def divI (a b : Int) : Int := if ¬ a.tmod b = 0 ∧ ¬ (a < 0 ↔ b < 0) then a.tdiv b - 1 else a.tdiv b
def modI (a b : Int) : Int := if ¬ a.tmod b = 0 ∧ ¬ (a < 0 ↔ b < 0) then a.tmod b + b else a.tmod b
def twoI (w a b : Int) : Int :=
  if w = 43 then bndI (a + b) else if w = 45 then bndI (a - b) else if w = 42 then bndI (a * b)
  else if w = 47 then (if b = 0 then 0 else divI a b) else if w = 37 then (if b = 0 then 0 else modI a b)
  else if w = 60 then (if a < b then 1 else 0) else if w = 62 then (if b < a then 1 else 0) else if w = 61 then (if a = b then 1 else 0)
  else if w = 21 ∨ w = 24 then min a b else max a b
/-- one item more (the newest value first) -/
def rv1 (env : Int → Int) (i : Int) (vs : List Int) : List Int :=
  if i < 10000 then i :: vs
  else if i = 10022 then (match vs with
    | x :: r => (1 - x) :: r
    | [] => [])
  else if i = 10019 then (match vs with
    | z :: y :: x :: r => (if x = 0 then z else y) :: r
    | _ => [])
  else if 10020 ≤ i ∧ ¬ i = 10023 then (match vs with
    | y :: x :: r => twoI (i - 10000) x y :: r
    | _ => [])
  else (if i = 10023 then 1 else env (i - 10000)) :: vs
def rvS (env : Int → Int) : List Int → List Int → List Int
  | [], vs => vs
  | i :: c, vs => rvS env c (rv1 env i vs)
/-- a rule's value -/
def rvV (env : Int → Int) (c : List Int) : Int := (rvS env c []).headD 0
def vOK (b : Bool) (x : Int) : Prop := -1000000 ≤ x ∧ x ≤ 1000000 ∧ (b = true → x = 0 ∨ x = 1)
def vsOK : List Bool → List Int → Prop
  | [], [] => True
  | b :: t, x :: s => vOK b x ∧ vsOK t s
  | _, _ => False
theorem vs_len : ∀ {t : List Bool} {s : List Int}, vsOK t s → s.length = t.length
  | [], [], _ => rfl
  | [], _ :: _, h => h.elim
  | _ :: _, [], h => h.elim
  | _ :: _, _ :: _, h => congrArg (· + 1) (vs_len h.2)
theorem vs_c {b : Bool} {t : List Bool} : ∀ {s : List Int}, vsOK (b :: t) s → ∃ x r, s = x :: r ∧ vOK b x ∧ vsOK t r
  | [], h => h.elim
  | x :: r, h => ⟨x, r, rfl, h.1, h.2⟩
theorem bnd_b (x : Int) : -1000000 ≤ bndI x ∧ bndI x ≤ 1000000 := by
  unfold bndI
  (repeat' split) <;> omega
/-- a sign of sums: 43 45 42 47 37, and 24 25 -/
def isA (i : Int) : Prop := i = 10043 ∨ i = 10045 ∨ i = 10042 ∨ i = 10047 ∨ i = 10037 ∨ i = 10024 ∨ i = 10025
def isC (i : Int) : Prop := i = 10060 ∨ i = 10062 ∨ i = 10061
def isE (i : Int) : Prop := i = 10015 ∨ i = 10007 ∨ i = 10008 ∨ i = 10016 ∨ i = 10017 ∨ i = 10018
/-- rounded down: as both sides reckon it -/
theorem tdv_b {a b : Int} (h0 : -1000000 ≤ a) (h1 : a ≤ 1000000) : -1000000 ≤ a.tdiv b ∧ a.tdiv b ≤ 1000000 := by
  have n := Int.natAbs_tdiv_le_natAbs a b
  omega
theorem tmd_z {a b : Int} (h : b = 1 ∨ b = -1) : a.tmod b = 0 := by
  rcases h with rfl | rfl
  · exact Int.tmod_one a
  · rw [Int.tmod_neg]
    exact Int.tmod_one a
theorem tmd_b {a b : Int} (hb : ¬ b = 0) : (a.tmod b).natAbs < b.natAbs := by
  rw [Int.natAbs_tmod]
  exact Nat.mod_lt _ (by omega)
theorem tmd_s {a b : Int} (h : ¬ a.tmod b = 0) : a.tmod b < 0 ↔ a < 0 := by
  by_cases v : a < 0
  · have k := Int.tmod_nonneg b (show 0 ≤ -a by omega)
    rw [Int.neg_tmod] at k
    omega
  · have k := Int.tmod_nonneg b (show 0 ≤ a by omega)
    omega
theorem tdv_h {a b : Int} (h0 : -1000000 ≤ a) (h1 : a ≤ 1000000) (hb : ¬ b = 0) (h : ¬ a.tmod b = 0) : -500000 ≤ a.tdiv b ∧ a.tdiv b ≤ 500000 := by
  have nb : 2 ≤ b.natAbs := by
    rcases Nat.lt_or_ge b.natAbs 2 with w | w
    · exact absurd (tmd_z (show b = 1 ∨ b = -1 by omega)) h
    · exact w
  have n : (a.tdiv b).natAbs = a.natAbs / b.natAbs := Int.natAbs_tdiv a b
  have k := Nat.div_le_div_left (a := a.natAbs) nb (by decide)
  rw [← n] at k
  omega
theorem divI_b {a b : Int} (h0 : -1000000 ≤ a) (h1 : a ≤ 1000000) (hb : ¬ b = 0) : -1000000 ≤ divI a b ∧ divI a b ≤ 1000000 := by
  unfold divI
  split
  · rename_i h
    have k := tdv_h h0 h1 hb h.1
    omega
  · exact tdv_b h0 h1
theorem modI_b {a b : Int} (h0 : -1000000 ≤ b) (h1 : b ≤ 1000000) (hb : ¬ b = 0) : -1000000 ≤ modI a b ∧ modI a b ≤ 1000000 := by
  have k := tmd_b (a := a) hb
  unfold modI
  split
  · rename_i h
    have s := tmd_s h.1
    have u := h.2
    omega
  · omega
theorem modI_e (a b : Int) : modI a b = a - b * divI a b := by
  have k := Int.tmod_add_mul_tdiv a b
  unfold modI divI
  split
  · rw [Int.mul_sub]
    omega
  · omega
theorem two_b {w a b : Int} (a0 : -1000000 ≤ a) (a1 : a ≤ 1000000) (b0 : -1000000 ≤ b) (b1 : b ≤ 1000000) : -1000000 ≤ twoI w a b ∧ twoI w a b ≤ 1000000 := by
  unfold twoI
  split
  · exact bnd_b _
  split
  · exact bnd_b _
  split
  · exact bnd_b _
  split
  · split
    · decide
    · exact divI_b a0 a1 ‹_›
  split
  · split
    · decide
    · exact modI_b b0 b1 ‹_›
  split
  · split <;> decide
  split
  · split <;> decide
  split
  · split <;> decide
  split <;> omega
theorem two_c {w a b : Int} (h : w = 60 ∨ w = 62 ∨ w = 61) : twoI w a b = 0 ∨ twoI w a b = 1 := by
  unfold twoI
  rcases h with rfl | rfl | rfl
  · rw [if_neg (by decide), if_neg (by decide), if_neg (by decide), if_neg (by decide), if_neg (by decide), if_pos rfl]
    split
    · exact Or.inr rfl
    · exact Or.inl rfl
  · rw [if_neg (by decide), if_neg (by decide), if_neg (by decide), if_neg (by decide), if_neg (by decide), if_neg (by decide), if_pos rfl]
    split
    · exact Or.inr rfl
    · exact Or.inl rfl
  · rw [if_neg (by decide), if_neg (by decide), if_neg (by decide), if_neg (by decide), if_neg (by decide), if_neg (by decide), if_neg (by decide), if_pos rfl]
    split
    · exact Or.inr rfl
    · exact Or.inl rfl
theorem two_l {w a b : Int} (h : w = 20 ∨ w = 21) (ha : a = 0 ∨ a = 1) (hb : b = 0 ∨ b = 1) : twoI w a b = 0 ∨ twoI w a b = 1 := by
  rcases h with rfl | rfl <;> rcases ha with rfl | rfl <;> rcases hb with rfl | rfl <;> decide
/-- what an item does with values that have the types -/
def rvC (env : Int → Int) (i : Int) (vs vs' : List Int) : Prop :=
  (0 ≤ i ∧ i < 10000 ∧ vs' = i :: vs) ∨ (i = 10023 ∧ vs' = 1 :: vs) ∨ (isE i ∧ vs' = env (i - 10000) :: vs) ∨
  (i = 10022 ∧ ∃ x r, vs = x :: r ∧ (x = 0 ∨ x = 1) ∧ vs' = (1 - x) :: r) ∨
  (i = 10019 ∧ ∃ x y z r, vs = z :: y :: x :: r ∧ (x = 0 ∨ x = 1) ∧ vs' = (if x = 0 then z else y) :: r) ∨
  ((isA i ∨ isC i ∨ i = 10020 ∨ i = 10021) ∧ ∃ x y r, vs = y :: x :: r ∧ (-1000000 ≤ x ∧ x ≤ 1000000) ∧ (-1000000 ≤ y ∧ y ≤ 1000000) ∧ ((i = 10020 ∨ i = 10021) → (x = 0 ∨ x = 1) ∧ (y = 0 ∨ y = 1)) ∧ vs' = twoI (i - 10000) x y :: r)
theorem tyB_s {a b : Bool} : ∀ {st st' : List Bool}, tyB a b st = some st' → ∃ r, st = a :: a :: r ∧ st' = b :: r
  | [], _, h => by cases h
  | [_], _, h => by cases h
  | x :: y :: r, st', h => by
    have h9 : (if x = a ∧ y = a then some (b :: r) else none) = some st' := h
    by_cases c : x = a ∧ y = a
    · rw [if_pos c] at h9
      rw [c.1, c.2]
      exact ⟨r, rfl, (Option.some.inj h9).symm⟩
    · rw [if_neg c] at h9
      cases h9
theorem rv_cs {env : Int → Int} (he : ∀ w, -1000000 ≤ env w ∧ env w ≤ 1000000) {i : Int} {st st' : List Bool} {vs : List Int} (h : ty1 i st = some st') (hv : vsOK st vs) : vs.length < 100 ∧ rvC env i vs (rv1 env i vs) ∧ vsOK st' (rv1 env i vs) := by
  unfold ty1 at h
  split at h
  · rename_i hl
    refine ⟨by rw [vs_len hv]; exact hl, ?_⟩
    split at h
    · rename_i c
      cases h
      rcases c with c | c
      · have e : rv1 env i vs = i :: vs := if_pos c.2
        rw [e]
        exact ⟨Or.inl ⟨c.1, c.2, rfl⟩, ⟨by omega, by omega, fun q => by cases q⟩, hv⟩
      · have e : rv1 env i vs = env (i - 10000) :: vs := by
          unfold rv1
          rw [if_neg (by omega), if_neg (by omega), if_neg (by omega), if_neg (by omega), if_neg (by omega)]
        rw [e]
        exact ⟨Or.inr (Or.inr (Or.inl ⟨c, rfl⟩)), ⟨(he _).1, (he _).2, fun q => by cases q⟩, hv⟩
    split at h
    · rename_i c
      cases h
      have e : rv1 env i vs = 1 :: vs := by
        unfold rv1
        rw [if_neg (by omega), if_neg (by omega), if_neg (by omega), if_neg (by omega), if_pos c]
      rw [e]
      exact ⟨Or.inr (Or.inl ⟨c, rfl⟩), ⟨by decide, by decide, fun _ => Or.inr rfl⟩, hv⟩
    split at h
    · rename_i c
      subst c
      cases st with
      | nil => cases h
      | cons b t =>
        cases b with
        | false => cases h
        | true =>
          have h : some (true :: t) = some st' := h
          cases h
          obtain ⟨x, r, rfl, hx, hr⟩ := vs_c hv
          have x1 := hx.2.2 rfl
          exact ⟨Or.inr (Or.inr (Or.inr (Or.inl ⟨rfl, x, r, rfl, x1, rfl⟩))), ⟨by show -1000000 ≤ 1 - x; omega, by show 1 - x ≤ 1000000; omega, fun _ => by show 1 - x = 0 ∨ 1 - x = 1; omega⟩, hr⟩
    split at h
    · rename_i c
      subst c
      have hs : ∃ t, st = false :: false :: true :: t ∧ st' = false :: t := by
        match st, h with
        | [], h => cases h
        | [a], h => cases a <;> cases h
        | [a, b], h => cases a <;> cases b <;> cases h
        | a :: b :: d :: t, h =>
          cases a <;> cases b <;> cases d
          all_goals first
            | (have h : some (false :: t) = some st' := h; cases h; exact ⟨t, rfl, rfl⟩)
            | cases h
      obtain ⟨t, rfl, rfl⟩ := hs
      obtain ⟨z, r1, rfl, hz, h1⟩ := vs_c hv
      obtain ⟨y, r2, rfl, hy, h2⟩ := vs_c h1
      obtain ⟨x, r, rfl, hx, hr⟩ := vs_c h2
      have x1 := hx.2.2 rfl
      refine ⟨Or.inr (Or.inr (Or.inr (Or.inr (Or.inl ⟨rfl, x, y, z, r, rfl, x1, rfl⟩)))), ?_, hr⟩
      show vOK false (if x = 0 then z else y)
      split
      · exact ⟨hz.1, hz.2.1, fun q => by cases q⟩
      · exact ⟨hy.1, hy.2.1, fun q => by cases q⟩
    have hb : ∀ {a b : Bool}, tyB a b st = some st' → (isA i ∨ isC i ∨ i = 10020 ∨ i = 10021) → ((i = 10020 ∨ i = 10021) → a = true) → (b = true → ∀ x y, vOK a x → vOK a y → twoI (i - 10000) x y = 0 ∨ twoI (i - 10000) x y = 1) → rvC env i vs (rv1 env i vs) ∧ vsOK st' (rv1 env i vs) := by
      intro a b ht hi hl2 hb
      obtain ⟨t, rfl, rfl⟩ := tyB_s ht
      obtain ⟨y, r1, rfl, hy, h1⟩ := vs_c hv
      obtain ⟨x, r, rfl, hx, hr⟩ := vs_c h1
      have ig : 10020 ≤ i ∧ ¬ i = 10022 ∧ ¬ i = 10023 := by
        unfold isA isC at hi
        omega
      have e : rv1 env i (y :: x :: r) = twoI (i - 10000) x y :: r := by
        unfold rv1
        rw [if_neg (by omega), if_neg (by omega), if_neg (by omega), if_pos ⟨ig.1, ig.2.2⟩]
      rw [e]
      have tb := two_b (w := i - 10000) hx.1 hx.2.1 hy.1 hy.2.1
      exact ⟨Or.inr (Or.inr (Or.inr (Or.inr (Or.inr ⟨hi, x, y, r, rfl, ⟨hx.1, hx.2.1⟩, ⟨hy.1, hy.2.1⟩, fun q => ⟨hx.2.2 (hl2 q), hy.2.2 (hl2 q)⟩, rfl⟩)))), ⟨tb.1, tb.2, fun q => hb q x y hx hy⟩, hr⟩
    split at h
    · rename_i c
      exact hb h (Or.inr (Or.inr c)) (fun _ => rfl) (fun _ x y hx hy => two_l (by omega) (hx.2.2 rfl) (hy.2.2 rfl))
    split at h
    · rename_i c
      exact hb h (Or.inr (Or.inl c)) (fun q => by exfalso; omega) (fun _ x y hx hy => two_c (by omega))
    split at h
    · rename_i c
      exact hb h (Or.inl c) (fun q => by exfalso; omega) (fun q => by cases q)
    · cases h
  · cases h
end RVA
