/-! the class's Reader: signs -/
/-! the signs of a text (pure) -/
def blk (c : Int) : Prop := c = 32 ∨ c = 10
def ltr (c : Int) : Prop := 97 ≤ c ∧ c ≤ 122
def dgt (c : Int) : Prop := 48 ≤ c ∧ c ≤ 57
/-- a sign: what it is (0 end, 1 word, 2 number, 3 sign, 4 wrong), its number, its letters -/
abbrev Tk : Type := Int × Int × List Int
def lts (T : List Int32) (b : Int) : Nat → List Int
  | 0 => []
  | k + 1 => lts T b k ++ [gn T (b + k)]
def dgv (T : List Int32) (b : Int) : Nat → Int
  | 0 => 0
  | k + 1 => 10 * dgv T b k + gn T (b + k) - 48
def Skp (T : List Int32) (n p b : Int) : Prop := p ≤ b ∧ b ≤ n ∧ (∀ i, p ≤ i → i < b → blk (gn T i)) ∧ (b < n → ¬ blk (gn T b))
def Rn (ok : Int → Prop) (T : List Int32) (n b e : Int) : Prop := b ≤ e ∧ e ≤ n ∧ (∀ i, b ≤ i → i < e → ok (gn T i)) ∧ (e < n → ¬ ok (gn T e))
def tch (T : List Int32) (p b : Int) : Prop := b = p ∧ 0 < p ∧ (ltr (gn T (p - 1)) ∨ dgt (gn T (p - 1)))
/-- the sign behind place p, and where it ends -/
def Tok (T : List Int32) (n p : Int) (t : Tk) (e : Int) : Prop := ∃ b, Skp T n p b ∧ ((b = n ∧ t = (0, 0, []) ∧ e = n) ∨ (b < n ∧ ¬ ltr (gn T b) ∧ ¬ dgt (gn T b) ∧ t = (3, gn T b, []) ∧ e = b + 1) ∨ (b < n ∧ ltr (gn T b) ∧ ∃ q, Rn ltr T n b q ∧ e = q ∧ (((tch T p b ∨ 6 < q - b) ∧ t = (4, 0, [])) ∨ (¬ tch T p b ∧ q - b ≤ 6 ∧ t = (1, 0, lts T b (q - b).toNat)))) ∨ (b < n ∧ dgt (gn T b) ∧ ∃ q, Rn dgt T n b q ∧ e = q ∧ (((tch T p b ∨ 4 < q - b) ∧ t = (4, 0, [])) ∨ (¬ tch T p b ∧ q - b ≤ 4 ∧ t = (2, dgv T b (q - b).toNat, [])))))
theorem Skp_u {T : List Int32} {n p b c : Int} (h : Skp T n p b) (k : Skp T n p c) : b = c := by
  obtain ⟨h1, h2, h3, h4⟩ := h
  obtain ⟨k1, k2, k3, k4⟩ := k
  rcases Int.lt_trichotomy b c with w | w | w
  · exact absurd (k3 b h1 w) (h4 (by omega))
  · exact w
  · exact absurd (h3 c k1 w) (k4 (by omega))
theorem Rn_u {ok : Int → Prop} {T : List Int32} {n b e f : Int} (h : Rn ok T n b e) (k : Rn ok T n b f) : e = f := by
  obtain ⟨h1, h2, h3, h4⟩ := h
  obtain ⟨k1, k2, k3, k4⟩ := k
  rcases Int.lt_trichotomy e f with w | w | w
  · exact absurd (k3 e h1 w) (h4 (by omega))
  · exact w
  · exact absurd (h3 f k1 w) (k4 (by omega))
theorem ltr_d {c : Int} (h : ltr c) : ¬ dgt c := fun k => by
  have a := h.1
  have b := k.2
  omega
theorem Tok_u {T : List Int32} {n p e f : Int} {t u : Tk} (h : Tok T n p t e) (k : Tok T n p u f) : t = u ∧ e = f := by
  obtain ⟨b, hs, h⟩ := h
  obtain ⟨c, ks, k⟩ := k
  have eb := Skp_u hs ks
  subst eb
  rcases h with ⟨h1, h2, h3⟩ | ⟨h1, h2, h3, h4, h5⟩ | ⟨h1, h2, q, hq, h3, h4⟩ | ⟨h1, h2, q, hq, h3, h4⟩ <;> rcases k with ⟨k1, k2, k3⟩ | ⟨k1, k2, k3, k4, k5⟩ | ⟨k1, k2, q', kq, k3, k4⟩ | ⟨k1, k2, q', kq, k3, k4⟩
  · exact ⟨by rw [h2, k2], by omega⟩
  · exfalso; omega
  · exfalso; omega
  · exfalso; omega
  · exfalso; omega
  · exact ⟨by rw [h4, k4], by omega⟩
  · exact absurd k2 h2
  · exact absurd k2 h3
  · exfalso; omega
  · exact absurd h2 k2
  · have e1 := Rn_u hq kq
    subst e1
    refine ⟨?_, by omega⟩
    rcases h4 with ⟨a, rfl⟩ | ⟨a, a2, rfl⟩ <;> rcases k4 with ⟨z, rfl⟩ | ⟨z, z2, rfl⟩
    · rfl
    · rcases a with a | a
      · exact absurd a z
      · exfalso; omega
    · rcases z with z | z
      · exact absurd z a
      · exfalso; omega
    · rfl
  · exact absurd k2 (ltr_d h2)
  · exfalso; omega
  · exact absurd h2 k3
  · exact absurd h2 (ltr_d k2)
  · have e1 := Rn_u hq kq
    subst e1
    refine ⟨?_, by omega⟩
    rcases h4 with ⟨a, rfl⟩ | ⟨a, a2, rfl⟩ <;> rcases k4 with ⟨z, rfl⟩ | ⟨z, z2, rfl⟩
    · rfl
    · rcases a with a | a
      · exact absurd a z
      · exfalso; omega
    · rcases z with z | z
      · exact absurd z a
      · exfalso; omega
    · rfl
/-- what stands just ahead of a sign's end -/
theorem Tok_last {T : List Int32} {n p e : Int} {t : Tk} (h : Tok T n p t e) (hp : 0 ≤ p) : (t.1 = 1 ∨ t.1 = 2 → 0 < e ∧ (ltr (gn T (e - 1)) ∨ dgt (gn T (e - 1)))) ∧ (t.1 = 3 → ¬ (ltr (gn T (e - 1)) ∨ dgt (gn T (e - 1)))) ∧ (t.1 = 0 → e = n) ∧ p ≤ e ∧ e ≤ n := by
  obtain ⟨b, ⟨s1, s2, -, -⟩, h⟩ := h
  rcases h with ⟨h1, rfl, h3⟩ | ⟨h1, h2, h3, rfl, h5⟩ | ⟨h1, h2, q, ⟨r1, r2, r3, r4⟩, h3, h4⟩ | ⟨h1, h2, q, ⟨r1, r2, r3, r4⟩, h3, h4⟩
  · refine ⟨fun w => ?_, fun w => ?_, fun _ => h3, by omega, by omega⟩
    · rcases w with w | w <;> exact absurd w (by decide)
    · exact absurd w (by decide)
  · have e1 : e - 1 = b := by omega
    refine ⟨fun w => ?_, fun _ => ?_, fun w => absurd w (by show ¬ (3 : Int) = 0; decide), by omega, by omega⟩
    · rcases w with w | w
      · exact absurd w (by show ¬ (3 : Int) = 1; decide)
      · exact absurd w (by show ¬ (3 : Int) = 2; decide)
    · rw [e1]
      rintro (w | w)
      · exact h2 w
      · exact h3 w
  · have hq : b < q := by
      rcases Int.lt_or_le b q with w | w
      · exact w
      · exact absurd (show ltr (gn T q) by rw [show q = b by omega]; exact h2) (r4 (by omega))
    refine ⟨fun _ => ⟨by omega, Or.inl (r3 (e - 1) (by omega) (by omega))⟩, fun w => ?_, fun w => ?_, by omega, by omega⟩
    · rcases h4 with ⟨-, rfl⟩ | ⟨-, -, rfl⟩
      · exact absurd w (by show ¬ (4 : Int) = 3; decide)
      · exact absurd w (by show ¬ (1 : Int) = 3; decide)
    · rcases h4 with ⟨-, rfl⟩ | ⟨-, -, rfl⟩
      · exact absurd w (by show ¬ (4 : Int) = 0; decide)
      · exact absurd w (by show ¬ (1 : Int) = 0; decide)
  · have hq : b < q := by
      rcases Int.lt_or_le b q with w | w
      · exact w
      · exact absurd (show dgt (gn T q) by rw [show q = b by omega]; exact h2) (r4 (by omega))
    refine ⟨fun _ => ⟨by omega, Or.inr (r3 (e - 1) (by omega) (by omega))⟩, fun w => ?_, fun w => ?_, by omega, by omega⟩
    · rcases h4 with ⟨-, rfl⟩ | ⟨-, -, rfl⟩
      · exact absurd w (by show ¬ (4 : Int) = 3; decide)
      · exact absurd w (by show ¬ (2 : Int) = 3; decide)
    · rcases h4 with ⟨-, rfl⟩ | ⟨-, -, rfl⟩
      · exact absurd w (by show ¬ (4 : Int) = 0; decide)
      · exact absurd w (by show ¬ (2 : Int) = 0; decide)
/-- the numbers that stand for words: the class's, the model's -/
def cnl : List Int → Int
  | [] => 0
  | c :: r => (c - 96) + 32 * cnl r
def wnl (l : List Int) : Int := l.foldl (fun w c => w * 256 + c) 0
theorem cnl_app {c : Int} : ∀ l : List Int, cnl (l ++ [c]) = cnl l + (c - 96) * 32 ^ l.length
  | [] => by simp [cnl]
  | a :: r => by
    have e := cnl_app (c := c) r
    show (a - 96) + 32 * cnl (r ++ [c]) = (a - 96) + 32 * cnl r + (c - 96) * 32 ^ (r.length + 1)
    rw [e, Int.pow_succ, Int.mul_add, show (c - 96) * (32 ^ r.length * 32) = 32 * ((c - 96) * 32 ^ r.length) by rw [← Int.mul_assoc, Int.mul_comm]]
    omega
theorem wnl_app {c : Int} (l : List Int) : wnl (l ++ [c]) = wnl l * 256 + c := by
  unfold wnl
  rw [List.foldl_append]
  rfl
theorem cnl_0 : ∀ l : List Int, (∀ c ∈ l, ltr c) → 0 ≤ cnl l ∧ (cnl l = 0 → l = [])
  | [], _ => ⟨by decide, fun _ => rfl⟩
  | a :: r, h => by
    have e := cnl_0 r (fun c hc => h c (List.mem_cons_of_mem _ hc))
    have ha := h a List.mem_cons_self
    have h1 := ha.1
    have e1 : cnl (a :: r) = (a - 96) + 32 * cnl r := rfl
    refine ⟨by omega, fun w => ?_⟩
    exfalso
    omega
theorem cnl_inj : ∀ l m : List Int, (∀ c ∈ l, ltr c) → (∀ c ∈ m, ltr c) → cnl l = cnl m → l = m
  | [], m, _, hm, e => ((cnl_0 m hm).2 e.symm).symm
  | a :: r, [], hl, _, e => (cnl_0 (a :: r) hl).2 e
  | a :: r, b :: s, hl, hm, e => by
    have ha := hl a List.mem_cons_self
    have hb := hm b List.mem_cons_self
    have a1 := ha.1
    have a2 := ha.2
    have b1 := hb.1
    have b2 := hb.2
    have e : (a - 96) + 32 * cnl r = (b - 96) + 32 * cnl s := e
    have e1 : a = b := by omega
    have e2 := cnl_inj r s (fun c hc => hl c (List.mem_cons_of_mem _ hc)) (fun c hc => hm c (List.mem_cons_of_mem _ hc)) (by omega)
    rw [e1, e2]
theorem wnl_pos : ∀ (k : Nat) (l : List Int), l.length = k → (∀ c ∈ l, ltr c) → 0 ≤ wnl l ∧ (wnl l = 0 → l = []) := by
  intro k
  induction k with
  | zero =>
    intro l hl _
    rw [List.length_eq_zero_iff.1 hl]
    exact ⟨by decide, fun _ => rfl⟩
  | succ k ih =>
    intro l hl h
    rcases List.eq_nil_or_concat l with w | ⟨m, a, w⟩
    · rw [w] at hl
      cases hl
    · have w : l = m ++ [a] := by rw [w]; simp
      subst w
      have i := (ih m (by simp at hl; exact hl) (fun c hc => h c (List.mem_append_left _ hc))).1
      have ha := (h a (List.mem_append_right _ List.mem_cons_self)).1
      rw [wnl_app]
      exact ⟨by omega, fun z => by exfalso; omega⟩
theorem wnl_inj : ∀ (k : Nat) (l m : List Int), l.length = k → (∀ c ∈ l, ltr c) → (∀ c ∈ m, ltr c) → wnl l = wnl m → l = m := by
  intro k
  induction k with
  | zero =>
    intro l m hl _ hm e
    rw [List.length_eq_zero_iff.1 hl] at e ⊢
    exact ((wnl_pos _ m rfl hm).2 e.symm).symm
  | succ k ih =>
    intro l m hl h hm e
    rcases List.eq_nil_or_concat l with w | ⟨l', a, w⟩
    · rw [w] at hl
      cases hl
    · have w : l = l' ++ [a] := by rw [w]; simp
      subst w
      have ha := h a (List.mem_append_right _ List.mem_cons_self)
      have a1 := ha.1
      have a2 := ha.2
      rcases List.eq_nil_or_concat m with v | ⟨m', b, v⟩
      · rw [v] at e
        exact absurd ((wnl_pos _ _ rfl h).2 e) (by simp)
      · have v : m = m' ++ [b] := by rw [v]; simp
        subst v
        have hb := hm b (List.mem_append_right _ List.mem_cons_self)
        have b1 := hb.1
        have b2 := hb.2
        rw [wnl_app, wnl_app] at e
        have e1 : a = b := by omega
        have e2 := ih l' m' (by simp at hl; exact hl) (fun c hc => h c (List.mem_append_left _ hc)) (fun c hc => hm c (List.mem_append_left _ hc)) (by omega)
        rw [e1, e2]
/-- letters read one behind another -/
theorem lts_len {T : List Int32} {b : Int} : ∀ k : Nat, (lts T b k).length = k
  | 0 => rfl
  | k + 1 => by
    show (lts T b k ++ [gn T (b + k)]).length = k + 1
    rw [List.length_append, lts_len k]
    rfl
theorem lts_all {T : List Int32} {b : Int} : ∀ k : Nat, (∀ i, b ≤ i → i < b + (k : Int) → ltr (gn T i)) → ∀ c ∈ lts T b k, ltr c
  | 0, _, c, hc => absurd hc List.not_mem_nil
  | k + 1, h, c, hc => by
    rcases List.mem_append.1 hc with w | w
    · exact lts_all k (fun i i0 i1 => h i i0 (by omega)) c w
    · rw [List.mem_singleton.1 w]
      exact h _ (by omega) (by omega)
/-- the language's own words -/
def ownW : List (List Int) := [[113, 117, 97, 121], [98, 121], [112, 97, 99, 101], [103, 97, 108, 101], [119, 97, 108, 108], [108, 97, 99, 107], [97, 116], [104, 117, 101], [104, 105, 103, 104], [104, 97, 115], [102, 111, 108, 107], [104, 111, 109, 101], [103, 108, 111, 119, 115], [102, 105, 110, 100, 115], [108, 111, 115, 101, 115], [110, 105, 103, 104, 116], [97, 103, 101], [108, 111, 115, 116], [110, 101, 97, 114], [105, 102], [111, 114], [97, 110, 100], [110, 111, 116], [97, 108, 108], [109, 105, 110], [109, 97, 120]]
theorem ownW_l : ∀ l ∈ ownW, ∀ c ∈ l, ltr c := by
  have h : ownW.all (fun l => l.all (fun c => decide (97 ≤ c) && decide (c ≤ 122))) = true := by decide
  intro l hl c hc
  have h1 := List.all_eq_true.1 (List.all_eq_true.1 h l hl) c hc
  rw [Bool.and_eq_true] at h1
  exact ⟨of_decide_eq_true h1.1, of_decide_eq_true h1.2⟩
/-! shifts and sums of bits that don't meet -/
theorem shl_e {x y : Int32} (hx : 0 ≤ x.toInt) (hy : 0 ≤ y.toInt) (hy2 : y.toInt < 32) (hs : x.toInt * 2 ^ y.toInt.toNat < 2147483648) : (x <<< (y &&& 31)).toInt = x.toInt * 2 ^ y.toInt.toNat := by
  have e1 := i32_nn (x := x) hx
  have hk : y.toInt.toNat < 32 := by omega
  have e2 : (x <<< (y &&& 31)).toBitVec.toNat = (x.toBitVec.toNat * 2 ^ y.toInt.toNat) % 2 ^ 32 := by
    rw [i32_of (y := y) (by omega)]
    have e3 : (Int32.ofNat y.toInt.toNat).toInt.toNat = y.toInt.toNat := by rw [← i32_of (y := y) (by omega)]
    rw [e3]
    show (x.toBitVec <<< ((Int32.ofNat y.toInt.toNat &&& 31).toBitVec.smod 32).toNat).toNat = _
    rw [i32_sh _ hk, BitVec.toNat_shiftLeft, Nat.shiftLeft_eq]
  have h7 : ((x.toBitVec.toNat * 2 ^ y.toInt.toNat : Nat) : Int) = x.toInt * 2 ^ y.toInt.toNat := by
    rw [Int.natCast_mul, Int.natCast_pow, e1]
    rfl
  have h8 : x.toBitVec.toNat * 2 ^ y.toInt.toNat < 2147483648 := by omega
  have e4 : (x <<< (y &&& 31)).toBitVec.toNat = x.toBitVec.toNat * 2 ^ y.toInt.toNat := by
    rw [e2, Nat.mod_eq_of_lt (by omega)]
  rw [i32_tn (by rw [e4]; exact h8), e4]
  exact h7
theorem or_e {a b : Int32} {k : Nat} {c : Int} (ha : 0 ≤ a.toInt) (ha2 : a.toInt < 2 ^ k) (hb : b.toInt = c * 2 ^ k) (hc : 0 ≤ c) (hs : a.toInt + b.toInt < 2147483648) : (a ||| b).toInt = a.toInt + b.toInt := by
  have hp : (0 : Int) ≤ 2 ^ k := by
    have : ((2 ^ k : Nat) : Int) = (2 : Int) ^ k := by simp
    omega
  have hb0 : 0 ≤ b.toInt := by rw [hb]; exact Int.mul_nonneg hc hp
  have e1 := i32_nn ha
  have e2 := i32_nn hb0
  have p2 : ((2 ^ k : Nat) : Int) = (2 : Int) ^ k := by simp
  have e3 : b.toBitVec.toNat = 2 ^ k * c.toNat := by
    have : ((2 ^ k * c.toNat : Nat) : Int) = c * 2 ^ k := by
      rw [Int.natCast_mul, p2, Int.toNat_of_nonneg hc, Int.mul_comm]
    omega
  have e4 : (a ||| b).toBitVec.toNat = a.toBitVec.toNat + b.toBitVec.toNat := by
    rw [Int32.toBitVec_or, BitVec.toNat_or, e3, Nat.or_comm, ← Nat.two_pow_add_eq_or_of_lt (by omega), Nat.add_comm]
  rw [i32_tn (by omega), e4]
  omega
/-- one letter more in the class's number of a word -/
theorem cnl_or {nm x y : Int32} {ls : List Int} {c k : Int} (h1 : nm.toInt = cnl ls) (h2 : ∀ a ∈ ls, ltr a) (hk : (ls.length : Int) = k) (hk5 : k ≤ 5) (hx : x.toInt = c - 97 + 1) (hc : ltr c) (hy : y.toInt = 5 * k) : (nm ||| (x <<< (y &&& 31))).toInt = cnl (ls ++ [c]) := by
  have hb : ∀ l : List Int, (∀ a ∈ l, ltr a) → cnl l < 32 ^ l.length := by
    intro l
    induction l with
    | nil => intro _; decide
    | cons a r ih =>
      intro h
      have i := ih (fun c hc => h c (List.mem_cons_of_mem _ hc))
      have ha := (h a List.mem_cons_self).2
      have e : cnl (a :: r) = (a - 96) + 32 * cnl r := rfl
      have e2 : (32 : Int) ^ (a :: r).length = 32 ^ r.length * 32 := Int.pow_succ _ _
      omega
  have n0 := (cnl_0 ls h2).1
  have n1 := hb ls h2
  have c1 := hc.1
  have c2 := hc.2
  have e5 : (2 : Int) ^ y.toInt.toNat = 32 ^ ls.length := by
    have : y.toInt.toNat = 5 * ls.length := by omega
    rw [this, Int.pow_mul]
    rfl
  have hl : ls.length ≤ 5 := by omega
  have hp : (32 : Int) ^ ls.length ≤ 33554432 := by
    rcases (show ls.length = 0 ∨ ls.length = 1 ∨ ls.length = 2 ∨ ls.length = 3 ∨ ls.length = 4 ∨ ls.length = 5 by omega) with w | w | w | w | w | w <;> rw [w] <;> decide
  have hp0 : (0 : Int) < 32 ^ ls.length := by
    rcases (show ls.length = 0 ∨ ls.length = 1 ∨ ls.length = 2 ∨ ls.length = 3 ∨ ls.length = 4 ∨ ls.length = 5 by omega) with w | w | w | w | w | w <;> rw [w] <;> decide
  have hm : x.toInt * 32 ^ ls.length ≤ 26 * 33554432 := by
    calc x.toInt * 32 ^ ls.length ≤ 26 * 32 ^ ls.length := Int.mul_le_mul_of_nonneg_right (by omega) (by omega)
      _ ≤ 26 * 33554432 := by omega
  have s := shl_e (x := x) (y := y) (by omega) (by omega) (by omega) (by rw [e5]; omega)
  rw [e5] at s
  have e6 : (2 : Int) ^ (5 * ls.length) = 32 ^ ls.length := by rw [Int.pow_mul]; rfl
  rw [or_e (k := 5 * ls.length) (c := x.toInt) (by omega) (by rw [e6]; omega) (by rw [s, e6]) (by omega) (by rw [s]; omega), s, cnl_app, h1, show x.toInt = c - 96 by omega]
def rO : List (Bool × aTy) := match aat aT0 27 with
  | some (.inr o) => o.2
  | _ => []
set_option maxRecDepth 100000 in
theorem rO_e : aat aT0 27 = some (.inr (5, rO)) := rfl
set_option maxRecDepth 100000 in
theorem rO_0 : rO[0]? = some (false, .inr (some [28])) := rfl
set_option maxRecDepth 100000 in
theorem rO_1 : rO[1]? = some (false, .inr (some [1, 29])) := rfl
set_option maxRecDepth 100000 in
theorem rO_2 : rO[2]? = some (false, .inl (0, 1600)) := rfl
theorem rO_r2 {m : zM} (hm : aTm aT0 m) : 0 ≤ (gi m 27 2).toInt ∧ (gi m 27 2).toInt ≤ 1600 := gi_rg rO_e rO_2 hm
set_option maxRecDepth 100000 in
theorem rO_3 : rO[3]? = some (false, .inl (0, 1600)) := rfl
theorem rO_r3 {m : zM} (hm : aTm aT0 m) : 0 ≤ (gi m 27 3).toInt ∧ (gi m 27 3).toInt ≤ 1600 := gi_rg rO_e rO_3 hm
set_option maxRecDepth 100000 in
theorem rO_4 : rO[4]? = some (false, .inl (-2147483648, 2147483647)) := rfl
set_option maxRecDepth 100000 in
theorem rO_5 : rO[5]? = some (false, .inl (-2147483648, 2147483647)) := rfl
set_option maxRecDepth 100000 in
theorem rO_6 : rO[6]? = some (false, .inl (-2147483648, 2147483647)) := rfl
set_option maxRecDepth 100000 in
theorem rO_7 : rO[7]? = some (false, .inl (-2147483648, 2147483647)) := rfl
set_option maxRecDepth 100000 in
theorem rO_8 : rO[8]? = some (false, .inl (-2147483648, 2147483647)) := rfl
set_option maxRecDepth 100000 in
theorem rO_9 : rO[9]? = some (false, .inl (-2147483648, 2147483647)) := rfl
set_option maxRecDepth 100000 in
theorem rO_10 : rO[10]? = some (false, .inl (-2147483648, 2147483647)) := rfl
set_option maxRecDepth 100000 in
theorem rO_11 : rO[11]? = some (false, .inl (-2147483648, 2147483647)) := rfl
set_option maxRecDepth 100000 in
theorem aR_28 : aat aT0 28 = some (.inl (true, 0, 26, .inl (-2147483648, 2147483647))) := rfl
theorem gR_28 {m : zM} (hm : aTm aT0 m) {i : Int} (h0 : 0 ≤ i) (h1 : i < 26) : -2147483648 ≤ gn (ga m 28) i ∧ gn (ga m 28) i ≤ 2147483647 := gn_rg aR_28 hm h0 h1
theorem gl_28 {m : zM} (hm : aTm aT0 m) : (ga m 28).length = 26 := (ga_ty aR_28 hm).2.1
section FO
variable {o : Nat} {ks is : List Nat} {mr m : zM}
/-- only the fields is of the object o and the cells ks have changed -/
def fo (o : Nat) (ks is : List Nat) (mr m : zM) : Prop := (∀ k, ¬ k = o → ks.contains k = false → zat m k = zat mr k) ∧ ∀ i, is.contains i = false → zfl m o i = zfl mr o i
theorem fo_rf : fo o ks is m m := ⟨fun _ _ _ => rfl, fun _ _ => rfl⟩
theorem fo_tr {a b c : zM} (h : fo o ks is a b) (k : fo o ks is b c) : fo o ks is a c := ⟨fun q h1 h2 => (k.1 q h1 h2).trans (h.1 q h1 h2), fun i h1 => (k.2 i h1).trans (h.2 i h1)⟩
theorem fo_up {qs js : List Nat} {a b : zM} (h : fo o ks is a b) (h1 : ks.all (fun k => qs.contains k) = true) (h2 : is.all (fun k => js.contains k) = true) : fo o qs js a b := ⟨fun k e1 e2 => h.1 k e1 (ct_up h1 e2), fun i e => h.2 i (ct_up h2 e)⟩
theorem fo_sv {i : Nat} {v : Value} (hi : is.contains i = true) (h : fo o ks is mr m) : fo o ks is mr (sv m o i v) := ⟨fun k e1 e2 => by rw [zat_sv_ne (Ne.symm e1)]; exact h.1 k e1 e2, fun j e => by rw [zfl_sv_ne (fun q => onl_ne hi e q.2)]; exact h.2 j e⟩
theorem fo_sa {k j : Nat} {x : Int32} (hk : ks.contains k = true) (h : fo o ks is mr m) : fo o ks is mr (sa m k j x) := ⟨fun q e1 e2 => by rw [zat_sa_ne (onl_ne hk e2)]; exact h.1 q e1 e2, fun i e => by rw [zfl_sa]; exact h.2 i e⟩
theorem fo_gi {i : Nat} (h : fo o ks is mr m) (hi : is.contains i = false) : gi m o i = gi mr o i := by
  unfold gi
  rw [h.2 i hi]
theorem fo_ga {k : Nat} (h : fo o ks is mr m) (hn : ¬ k = o) (hk : ks.contains k = false) : ga m k = ga mr k := by
  unfold ga
  rw [h.1 k hn hk]
/-- an object with so many fields -/
def isQ (o L : Nat) (m : zM) : Prop := ∃ (ci : Nat) (fs : List Value), zat m o = some (.inr (ci, fs)) ∧ fs.length = L
theorem isQ_of {ci : Nat} {τs : List (Bool × aTy)} (ho : aat aT0 o = some (.inr (ci, τs))) (hm : aTm aT0 m) : isQ o τs.length m := by
  obtain ⟨fs, h1, h2⟩ := aTm_o hm ho
  exact ⟨ci, fs, h1, aTf_len h2⟩
theorem isQ_sv {q i L : Nat} {v : Value} (h : isQ o L m) : isQ o L (sv m q i v) := by
  obtain ⟨ci, fs, h1, h2⟩ := h
  by_cases e : q = o
  · subst e
    rw [sv_at h1]
    exact ⟨ci, fs.set i v, zat_eq_set h1, by rw [List.length_set]; exact h2⟩
  · exact ⟨ci, fs, (zat_sv_ne e).trans h1, h2⟩
theorem isQ_sa {q j L : Nat} {x : Int32} (hk : ¬ q = o) (h : isQ o L m) : isQ o L (sa m q j x) := by
  obtain ⟨ci, fs, h1, h2⟩ := h
  exact ⟨ci, fs, (zat_sa_ne hk).trans h1, h2⟩
theorem gi_eqQ {i : Nat} {x : Int32} {τs : List (Bool × aTy)} {τ : Bool × aTy} (h : isQ o τs.length m) (hi : τs[i]? = some τ) : gi (si m o i x) o i = x := by
  obtain ⟨ci, fs, h1, h2⟩ := h
  have hl : i < fs.length := by rw [h2]; exact (List.getElem?_eq_some_iff.1 hi).1
  show gi (sv m o i (.int x)) o i = x
  rw [sv_at h1]
  exact gi_at (zat_eq_set h1) (List.getElem?_set_self hl)
end FO
theorem Rn_ex {ok : Int → Prop} {T : List Int32} {n : Int} : ∀ (f : Nat) (b : Int), b + (f : Int) = n → ∃ q, Rn ok T n b q := by
  intro f
  induction f with
  | zero =>
    intro b h
    exact ⟨b, by omega, by omega, fun i _ _ => by omega, fun h => by omega⟩
  | succ f ih =>
    intro b h
    by_cases w : ok (gn T b)
    · obtain ⟨q, q1, q2, q3, q4⟩ := ih (b + 1) (by omega)
      refine ⟨q, by omega, q2, fun i i0 i1 => ?_, q4⟩
      by_cases e : i = b
      · rw [e]; exact w
      · exact q3 i (by omega) i1
    · exact ⟨b, by omega, by omega, fun i _ _ => by omega, fun _ => w⟩
def ownC : List Int32 := [820913, 802, 166960, 176167, 405559, 363564, 641, 5800, 269608, 19496, 373222, 177640, 20692359, 20068646, 20106732, 21241134, 5345, 675308, 591022, 201, 591, 4545, 20974, 12673, 14637, 24621]
theorem ownC_e {j : Int} (h0 : 0 ≤ j) (h1 : j < 26) : gn ownC j = cnl (ownW.getD j.toNat []) := by
  have h : ∀ k : Fin 26, gn ownC (k.1 : Int) = cnl (ownW.getD k.1 []) := by decide
  have e := h ⟨j.toNat, by omega⟩
  have e2 : ((j.toNat : Nat) : Int) = j := by omega
  rw [e2] at e
  exact e
/-- a word's kind and number -/
def cEw (ls : List Int) (k v : Int) : Prop := (k = 2 ∧ (0 ≤ v ∧ v < 26) ∧ ls = ownW.getD v.toNat []) ∨ (k = 1 ∧ v = cnl ls ∧ ¬ ls ∈ ownW)
section RW
variable {d : Nat} {mr mem : zM} {T : List Int32} {n b : Int}
def rwP (mr : zM) (T : List Int32) (n b z : Int) (r : Option Value) (m : zM) : Prop := r = none ∧ aTm aT0 m ∧ fo 27 [] [3, 4, 5, 7] mr m ∧ ∃ q, Rn ltr T n b q ∧ (((6 < q - b ∨ ¬ z = 0) ∧ (gi m 27 4).toInt = 5) ∨ (q - b ≤ 6 ∧ z = 0 ∧ (gi m 27 3).toInt = q ∧ cEw (lts T b (q - b).toNat) (gi m 27 4).toInt (gi m 27 5).toInt))
set_option maxRecDepth 100000 in
theorem w_rw_120 {d : Nat} {mem : zM} {P : Option Value → zM → Prop} {nm j : Int32} {lo : List (Nat × Value)} (hm : aTm aT0 mem) (l_0 : zlg lo 0 = some (.ref 27)) (l_2 : zlg lo 2 = some (.int nm)) (l_3 : zlg lo 3 = some (.int j)) (ht : zfl mem 27 1 = some (.ref 1)) (hj : 0 ≤ j.toInt ∧ j.toInt ≤ 26) (h1 : 26 ≤ (j).toInt → aTm aT0 mem → P none mem) (h2 : (j).toInt < 26 → ¬ (gi mem 27 4).toInt = 1 → aTm aT0 mem → P none mem) (h3 : (j).toInt < 26 → (gi mem 27 4).toInt = 1 → ∀ (y3 : Int32), y3.toInt = (gn (ga mem 28) (j).toInt) → ¬ (gn (ga mem 28) (j).toInt) = (nm).toInt → ∀ (x6 : Int32), x6.toInt = ((j).toInt + 1) → ∀ lo, zlg lo 0 = some (.ref 27) → zlg lo 2 = some (.int nm) → zlg lo 3 = some (.int x6) → aTm aT0 mem → yR zpg tX5_readWord d (120, lo, [], mem) P) (h4 : (j).toInt < 26 → (gi mem 27 4).toInt = 1 → ∀ (y3 : Int32), y3.toInt = (gn (ga mem 28) (j).toInt) → (gn (ga mem 28) (j).toInt) = (nm).toInt → ∀ (x11 : Int32), x11.toInt = ((j).toInt + 1) → ∀ lo, zlg lo 0 = some (.ref 27) → zlg lo 2 = some (.int nm) → zlg lo 3 = some (.int x11) → aTm aT0 (si (si mem 27 4 2) 27 5 j) → yR zpg tX5_readWord d (120, lo, [], (si (si mem 27 4 2) 27 5 j)) P) : yR zpg tX5_readWord d (120, lo, [], mem) P := by
  have r2 := rO_r2 hm
  have r3 := rO_r3 hm
  refine wR_li rfl l_3 ?_
  refine yR_m 1 (fun _ _ _ _ => rfl) ?_
  refine wR_ic_ge rfl (a := (j).toInt) (c := 26) rfl rfl (fun q1 => ?_) (fun q1 => ?_)
  ·
    exact yR_rv rfl (h1 q1 hm)
  ·
    refine wR_la rfl l_0 ?_
    refine wR_gi rfl rO_e rO_4 hm rfl ?_
    refine yR_m 1 (fun _ _ _ _ => rfl) ?_
    refine wR_ic_ne rfl (a := (gi mem 27 4).toInt) (c := 1) rfl rfl (fun q2 => ?_) (fun q2 => ?_)
    ·
      exact yR_rv rfl (h2 q1 q2 hm)
    ·
      refine wR_la rfl l_0 ?_
      refine wR_gr rfl rO_e rO_0 hm ?_
      refine wR_li rfl l_3 ?_
      refine wN_al (a := (j).toInt) rfl aR_28 hm rfl rfl (by omega) (fun y3 e4 => ?_)
      refine wR_li rfl l_2 ?_
      refine wR_ic_ne rfl (a := (gn (ga mem 28) (j).toInt)) (c := (nm).toInt) e4 rfl (fun q5 => ?_) (fun q5 => ?_)
      ·
        refine wN_in (a := (j).toInt) (b := 1) rfl rfl l_3 rfl rfl (by omega) (fun x6 e7 => fun lo8 e9 f10 => ?_)
        have lo8_0 := f10 0 _ (by decide) (Or.inl rfl) l_0
        have lo8_2 := f10 2 _ (by decide) (Or.inl rfl) l_2
        exact yR_m 1 (fun _ _ _ _ => rfl) (h3 q1 q2 y3 e4 q5 x6 e7 lo8 lo8_0 lo8_2 e9 hm)
      ·
        refine wR_la rfl l_0 ?_
        refine yR_m 1 (fun _ _ _ _ => rfl) ?_
        refine wR_pi rfl rO_e rO_4 hm rfl ?_
        have hm_1 : aTm aT0 (si mem 27 4 2) := tm_si rO_e rO_4 hm (i32_b _)
        refine wR_la rfl l_0 ?_
        refine wR_li rfl l_3 ?_
        refine wR_pi rfl rO_e rO_5 hm_1 rfl ?_
        have hm_2 : aTm aT0 (si (si mem 27 4 2) 27 5 j) := tm_si rO_e rO_5 hm_1 (i32_b _)
        refine wN_in (a := (j).toInt) (b := 1) rfl rfl l_3 rfl rfl (by omega) (fun x11 e12 => fun lo13 e14 f15 => ?_)
        have lo13_0 := f15 0 _ (by decide) (Or.inl rfl) l_0
        have lo13_2 := f15 2 _ (by decide) (Or.inl rfl) l_2
        exact yR_m 1 (fun _ _ _ _ => rfl) (h4 q1 q2 y3 e4 q5 x11 e12 lo13 lo13_0 lo13_2 e14 hm_2)

theorem rw_120 {q z : Int} {nm : Int32} (hC : ga mr 28 = ownC) (hT : T = ga mr 1) (hq : Rn ltr T n b q) (hl : q - b ≤ 6) (hn : nm.toInt = cnl (lts T b (q - b).toNat)) : ∀ (f : Nat) (mem : zM) (j : Int32) (lo : List (Nat × Value)), j.toInt + (f : Int) = 26 → 0 ≤ j.toInt → aTm aT0 mem → zfl mem 27 1 = some (.ref 1) → fo 27 [] [3, 4, 5, 7] mr mem → (gi mem 27 3).toInt = q → ((¬ z = 0 ∧ (gi mem 27 4).toInt = 5) ∨ (z = 0 ∧ (gi mem 27 4).toInt = 2 ∧ cEw (lts T b (q - b).toNat) (gi mem 27 4).toInt (gi mem 27 5).toInt) ∨ (z = 0 ∧ (gi mem 27 4).toInt = 1 ∧ gi mem 27 5 = nm ∧ ∀ i, 0 ≤ i → i < j.toInt → ¬ gn ownC i = nm.toInt)) → zlg lo 0 = some (.ref 27) → zlg lo 2 = some (.int nm) → zlg lo 3 = some (.int j) → yR zpg tX5_readWord d (120, lo, [], mem) (rwP mr T n b z) := by
  have hA : ∀ c ∈ lts T b (q - b).toNat, ltr c := lts_all _ (fun i i0 i1 => hq.2.2.1 i i0 (by have := hq.1; omega))
  intro f
  induction f with
  | zero =>
    intro mem j lo hj h0 hm ht hf hat h a0 a2 a3
    have g28 : ga mem 28 = ownC := (fo_ga hf (by decide) rfl).trans hC
    exact w_rw_120 hm a0 a2 a3 ht ⟨h0, by omega⟩
        (fun q1 hm => by
          refine ⟨rfl, hm, hf, q, hq, ?_⟩
          rcases h with ⟨w1, w2⟩ | ⟨w1, w2, w3⟩ | ⟨w1, w2, w3, w4⟩
          · exact Or.inl ⟨Or.inr w1, w2⟩
          · exact Or.inr ⟨hl, w1, hat, w3⟩
          · refine Or.inr ⟨hl, w1, hat, Or.inr ⟨w2, by rw [w3]; exact hn, fun hw => ?_⟩⟩
            obtain ⟨i, hi, ei⟩ := List.mem_iff_getElem.1 hw
            have hi2 : i < 26 := hi
            refine w4 (i : Int) (by omega) (by omega) ?_
            rw [ownC_e (by omega) (by omega), hn, ← ei, show ((i : Int)).toNat = i by omega, List.getD_eq_getElem?_getD, List.getElem?_eq_getElem hi]
            rfl)
        (fun q1 q2 hm => by
          refine ⟨rfl, hm, hf, q, hq, ?_⟩
          rcases h with ⟨w1, w2⟩ | ⟨w1, w2, w3⟩ | ⟨w1, w2, w3, w4⟩
          · exact Or.inl ⟨Or.inr w1, w2⟩
          · exact Or.inr ⟨hl, w1, hat, w3⟩
          · exfalso; omega)
        (fun q1 q2 y3 e4 q5 x6 e7 lo a0 a2 a3 hm2 => by exfalso; omega)
        (fun q1 q2 y3 e4 q5 x11 e12 lo a0 a2 a3 hm2 => by exfalso; omega)
  | succ f ih =>
    intro mem j lo hj h0 hm ht hf hat h a0 a2 a3
    have g28 : ga mem 28 = ownC := (fo_ga hf (by decide) rfl).trans hC
    exact w_rw_120 hm a0 a2 a3 ht ⟨h0, by omega⟩
        (fun q1 hm => by
          refine ⟨rfl, hm, hf, q, hq, ?_⟩
          rcases h with ⟨w1, w2⟩ | ⟨w1, w2, w3⟩ | ⟨w1, w2, w3, w4⟩
          · exact Or.inl ⟨Or.inr w1, w2⟩
          · exact Or.inr ⟨hl, w1, hat, w3⟩
          · refine Or.inr ⟨hl, w1, hat, Or.inr ⟨w2, by rw [w3]; exact hn, fun hw => ?_⟩⟩
            obtain ⟨i, hi, ei⟩ := List.mem_iff_getElem.1 hw
            have hi2 : i < 26 := hi
            refine w4 (i : Int) (by omega) (by omega) ?_
            rw [ownC_e (by omega) (by omega), hn, ← ei, show ((i : Int)).toNat = i by omega, List.getD_eq_getElem?_getD, List.getElem?_eq_getElem hi]
            rfl)
        (fun q1 q2 hm => by
          refine ⟨rfl, hm, hf, q, hq, ?_⟩
          rcases h with ⟨w1, w2⟩ | ⟨w1, w2, w3⟩ | ⟨w1, w2, w3, w4⟩
          · exact Or.inl ⟨Or.inr w1, w2⟩
          · exact Or.inr ⟨hl, w1, hat, w3⟩
          · exfalso; omega)
        (fun q1 q2 y3 e4 q5 x6 e7 lo a0 a2 a3 hm2 => by
          rcases h with ⟨w1, w2⟩ | ⟨w1, w2, w3⟩ | ⟨w1, w2, w3, w4⟩
          · exfalso; omega
          · exfalso; omega
          · rw [g28] at q5
            refine ih mem _ lo (by omega) (by omega) hm2 ht hf hat (Or.inr (Or.inr ⟨w1, w2, w3, fun i i0 i1 => ?_⟩)) a0 a2 a3
            by_cases e : i = j.toInt
            · rw [e]; exact q5
            · exact w4 i i0 (by omega))
        (fun q1 q2 y3 e4 q5 x11 e12 lo a0 a2 a3 hm2 => by
          rcases h with ⟨w1, w2⟩ | ⟨w1, w2, w3⟩ | ⟨w1, w2, w3, w4⟩
          · exfalso; omega
          · exfalso; omega
          · rw [g28, ownC_e h0 (by omega)] at q5
            have e := cnl_inj _ _ hA (ownW_l _ (by rw [List.getD_eq_getElem?_getD, List.getElem?_eq_getElem (show j.toInt.toNat < ownW.length by show _ < 26; omega)]; exact List.getElem_mem _)) (hn.symm.trans q5.symm)
            refine ih _ _ lo (by omega) (by omega) hm2 ((zfl_sv_ne (by decide)).trans ((zfl_sv_ne (by decide)).trans ht)) (fo_sv rfl (fo_sv rfl (hf))) (by rw [((gi_sv_ne (by decide)).trans (gi_sv_ne (by decide)))]; exact hat) (Or.inr (Or.inl ⟨w1, by rw [((gi_sv_ne (by decide)).trans (gi_eqQ (isQ_of rO_e hm) rO_4))]; rfl, Or.inl ⟨by rw [((gi_sv_ne (by decide)).trans (gi_eqQ (isQ_of rO_e hm) rO_4))]; rfl, by rw [(gi_eqQ (isQ_sv (isQ_of rO_e hm)) rO_5)]; omega, by rw [(gi_eqQ (isQ_sv (isQ_of rO_e hm)) rO_5)]; exact e⟩⟩)) a0 a2 a3)
set_option maxRecDepth 100000 in
theorem w_rw_100 {d : Nat} {mem : zM} {P : Option Value → zM → Prop} {z nm : Int32} {lo : List (Nat × Value)} (hm : aTm aT0 mem) (l_0 : zlg lo 0 = some (.ref 27)) (l_1 : zlg lo 1 = some (.int z)) (l_2 : zlg lo 2 = some (.int nm)) (ht : zfl mem 27 1 = some (.ref 1)) (h1 : (z).toInt = 0 → ∀ lo, zlg lo 0 = some (.ref 27) → zlg lo 2 = some (.int nm) → zlg lo 3 = some (.int 0) → aTm aT0 (si (si mem 27 4 1) 27 5 nm) → yR zpg tX5_readWord d (120, lo, [], (si (si mem 27 4 1) 27 5 nm)) P) (h2 : ¬ (z).toInt = 0 → ∀ lo, zlg lo 0 = some (.ref 27) → zlg lo 2 = some (.int nm) → zlg lo 3 = some (.int 0) → aTm aT0 (si (si mem 27 4 5) 27 5 nm) → yR zpg tX5_readWord d (120, lo, [], (si (si mem 27 4 5) 27 5 nm)) P) : yR zpg tX5_readWord d (100, lo, [], mem) P := by
  have r2 := rO_r2 hm
  have r3 := rO_r3 hm
  refine wR_la rfl l_0 ?_
  refine wR_li rfl l_1 ?_
  refine wR_if_eq rfl (a := (z).toInt) rfl (fun q1 => ?_) (fun q1 => ?_)
  ·
    refine yR_m 1 (fun _ _ _ _ => rfl) ?_
    refine wR_pi rfl rO_e rO_4 hm rfl ?_
    have hm_1 : aTm aT0 (si mem 27 4 1) := tm_si rO_e rO_4 hm (i32_b _)
    refine wR_la rfl l_0 ?_
    refine wR_li rfl l_2 ?_
    refine wR_pi rfl rO_e rO_5 hm_1 rfl ?_
    have hm_2 : aTm aT0 (si (si mem 27 4 1) 27 5 nm) := tm_si rO_e rO_5 hm_1 (i32_b _)
    refine yR_m 1 (fun _ _ _ _ => rfl) ?_
    refine wR_si rfl rfl (fun lo2 e3 f4 => ?_)
    have lo2_0 := f4 0 _ (by decide) (Or.inl rfl) l_0
    have lo2_1 := f4 1 _ (by decide) (Or.inl rfl) l_1
    have lo2_2 := f4 2 _ (by decide) (Or.inl rfl) l_2
    exact h1 q1 lo2 lo2_0 lo2_2 e3 hm_2
  ·
    refine yR_m 2 (fun _ _ _ _ => rfl) ?_
    refine wR_pi rfl rO_e rO_4 hm rfl ?_
    have hm_3 : aTm aT0 (si mem 27 4 5) := tm_si rO_e rO_4 hm (i32_b _)
    refine wR_la rfl l_0 ?_
    refine wR_li rfl l_2 ?_
    refine wR_pi rfl rO_e rO_5 hm_3 rfl ?_
    have hm_4 : aTm aT0 (si (si mem 27 4 5) 27 5 nm) := tm_si rO_e rO_5 hm_3 (i32_b _)
    refine yR_m 1 (fun _ _ _ _ => rfl) ?_
    refine wR_si rfl rfl (fun lo5 e6 f7 => ?_)
    have lo5_0 := f7 0 _ (by decide) (Or.inl rfl) l_0
    have lo5_1 := f7 1 _ (by decide) (Or.inl rfl) l_1
    have lo5_2 := f7 2 _ (by decide) (Or.inl rfl) l_2
    exact h2 q1 lo5 lo5_0 lo5_2 e6 hm_4

theorem rw_100 {q : Int} {z nm : Int32} {lo : List (Nat × Value)} (hC : ga mr 28 = ownC) (hT : T = ga mr 1) (hq : Rn ltr T n b q) (hl : q - b ≤ 6) (hn : nm.toInt = cnl (lts T b (q - b).toNat)) (hm : aTm aT0 mem) (ht : zfl mem 27 1 = some (.ref 1)) (hf : fo 27 [] [3, 4, 5, 7] mr mem) (hat : (gi mem 27 3).toInt = q) (a0 : zlg lo 0 = some (.ref 27)) (a1 : zlg lo 1 = some (.int z)) (a2 : zlg lo 2 = some (.int nm)) : yR zpg tX5_readWord d (100, lo, [], mem) (rwP mr T n b z.toInt) := by
  exact w_rw_100 hm a0 a1 a2 ht
        (fun q1 lo a0 a2 a3 hm2 => rw_120 hC hT hq hl hn 26 _ 0 lo (by decide) (by decide) hm2 ((zfl_sv_ne (by decide)).trans ((zfl_sv_ne (by decide)).trans ht)) (fo_sv rfl (fo_sv rfl (hf))) (by rw [((gi_sv_ne (by decide)).trans (gi_sv_ne (by decide)))]; exact hat) (Or.inr (Or.inr ⟨q1, by rw [((gi_sv_ne (by decide)).trans (gi_eqQ (isQ_of rO_e hm) rO_4))]; rfl, by rw [(gi_eqQ (isQ_sv (isQ_of rO_e hm)) rO_5)], fun i i0 i1 => by exfalso; have e : Int32.toInt 0 = 0 := rfl; omega⟩)) a0 a2 a3)
        (fun q1 lo a0 a2 a3 hm2 => rw_120 hC hT hq hl hn 26 _ 0 lo (by decide) (by decide) hm2 ((zfl_sv_ne (by decide)).trans ((zfl_sv_ne (by decide)).trans ht)) (fo_sv rfl (fo_sv rfl (hf))) (by rw [((gi_sv_ne (by decide)).trans (gi_sv_ne (by decide)))]; exact hat) (Or.inl ⟨q1, by rw [((gi_sv_ne (by decide)).trans (gi_eqQ (isQ_of rO_e hm) rO_4))]; rfl⟩) a0 a2 a3)
set_option maxRecDepth 100000 in
theorem w_rw_4 {d : Nat} {mem : zM} {P : Option Value → zM → Prop} {z nm k : Int32} {lo : List (Nat × Value)} (hm : aTm aT0 mem) (l_0 : zlg lo 0 = some (.ref 27)) (l_1 : zlg lo 1 = some (.int z)) (l_2 : zlg lo 2 = some (.int nm)) (l_3 : zlg lo 3 = some (.int k)) (ht : zfl mem 27 1 = some (.ref 1)) (hk : 0 ≤ k.toInt ∧ k.toInt ≤ 6) (h1 : (gi mem 27 2).toInt ≤ (gi mem 27 3).toInt → ∀ lo, zlg lo 0 = some (.ref 27) → zlg lo 1 = some (.int z) → zlg lo 2 = some (.int nm) → aTm aT0 mem → yR zpg tX5_readWord d (100, lo, [], mem) P) (h2 : (gi mem 27 3).toInt < (gi mem 27 2).toInt → ∀ (y2 : Int32), y2.toInt = (gn (ga mem 1) (gi mem 27 3).toInt) → (gn (ga mem 1) (gi mem 27 3).toInt) < 97 → ∀ lo, zlg lo 0 = some (.ref 27) → zlg lo 1 = some (.int z) → zlg lo 2 = some (.int nm) → aTm aT0 mem → yR zpg tX5_readWord d (100, lo, [], mem) P) (h3 : (gi mem 27 3).toInt < (gi mem 27 2).toInt → ∀ (y2 : Int32), y2.toInt = (gn (ga mem 1) (gi mem 27 3).toInt) → 97 ≤ (gn (ga mem 1) (gi mem 27 3).toInt) → ∀ (y5 : Int32), y5.toInt = (gn (ga mem 1) (gi mem 27 3).toInt) → 122 < (gn (ga mem 1) (gi mem 27 3).toInt) → ∀ lo, zlg lo 0 = some (.ref 27) → zlg lo 1 = some (.int z) → zlg lo 2 = some (.int nm) → aTm aT0 mem → yR zpg tX5_readWord d (100, lo, [], mem) P) (s1 : (gi mem 27 3).toInt < (gi mem 27 2).toInt → ∀ (y2 : Int32), y2.toInt = (gn (ga mem 1) (gi mem 27 3).toInt) → 97 ≤ (gn (ga mem 1) (gi mem 27 3).toInt) → ∀ (y5 : Int32), y5.toInt = (gn (ga mem 1) (gi mem 27 3).toInt) → (gn (ga mem 1) (gi mem 27 3).toInt) ≤ 122 → ¬ (k).toInt = 6 → ∀ (y9 : Int32), y9.toInt = (gn (ga mem 1) (gi mem 27 3).toInt) → (-2147483648 : Int) ≤ ((gn (ga mem 1) (gi mem 27 3).toInt) - 97) ∧ ((gn (ga mem 1) (gi mem 27 3).toInt) - 97) ≤ 2147483647) (s2 : (gi mem 27 3).toInt < (gi mem 27 2).toInt → ∀ (y2 : Int32), y2.toInt = (gn (ga mem 1) (gi mem 27 3).toInt) → 97 ≤ (gn (ga mem 1) (gi mem 27 3).toInt) → ∀ (y5 : Int32), y5.toInt = (gn (ga mem 1) (gi mem 27 3).toInt) → (gn (ga mem 1) (gi mem 27 3).toInt) ≤ 122 → ¬ (k).toInt = 6 → ∀ (y9 : Int32), y9.toInt = (gn (ga mem 1) (gi mem 27 3).toInt) → ∀ (x11 : Int32), x11.toInt = ((gn (ga mem 1) (gi mem 27 3).toInt) - 97) → (-2147483648 : Int) ≤ (((gn (ga mem 1) (gi mem 27 3).toInt) - 97) + 1) ∧ (((gn (ga mem 1) (gi mem 27 3).toInt) - 97) + 1) ≤ 2147483647) (h4 : (gi mem 27 3).toInt < (gi mem 27 2).toInt → ∀ (y2 : Int32), y2.toInt = (gn (ga mem 1) (gi mem 27 3).toInt) → 97 ≤ (gn (ga mem 1) (gi mem 27 3).toInt) → ∀ (y5 : Int32), y5.toInt = (gn (ga mem 1) (gi mem 27 3).toInt) → (gn (ga mem 1) (gi mem 27 3).toInt) ≤ 122 → ¬ (k).toInt = 6 → ∀ (y9 : Int32), y9.toInt = (gn (ga mem 1) (gi mem 27 3).toInt) → ∀ (x11 : Int32), x11.toInt = ((gn (ga mem 1) (gi mem 27 3).toInt) - 97) → ∀ (x13 : Int32), x13.toInt = (((gn (ga mem 1) (gi mem 27 3).toInt) - 97) + 1) → ∀ (x15 : Int32), x15.toInt = (5 * (k).toInt) → ∀ (x20 : Int32), x20.toInt = ((gi mem 27 3).toInt + 1) → ∀ (x22 : Int32), x22.toInt = ((k).toInt + 1) → ∀ lo, zlg lo 0 = some (.ref 27) → zlg lo 1 = some (.int z) → zlg lo 2 = some (.int (nm ||| (x13 <<< (x15 &&& 31)))) → zlg lo 3 = some (.int x22) → aTm aT0 (si mem 27 3 x20) → yR zpg tX5_readWord d (4, lo, [], (si mem 27 3 x20)) P) (h5 : (gi mem 27 3).toInt < (gi mem 27 2).toInt → ∀ (y2 : Int32), y2.toInt = (gn (ga mem 1) (gi mem 27 3).toInt) → 97 ≤ (gn (ga mem 1) (gi mem 27 3).toInt) → ∀ (y5 : Int32), y5.toInt = (gn (ga mem 1) (gi mem 27 3).toInt) → (gn (ga mem 1) (gi mem 27 3).toInt) ≤ 122 → (k).toInt = 6 → aTm aT0 (si (si mem 27 4 5) 27 7 (gi mem 27 3)) → P none (si (si mem 27 4 5) 27 7 (gi mem 27 3))) : yR zpg tX5_readWord d (4, lo, [], mem) P := by
  have r2 := rO_r2 hm
  have r3 := rO_r3 hm
  refine wR_la rfl l_0 ?_
  refine wR_gi rfl rO_e rO_3 hm rfl ?_
  refine wR_la rfl l_0 ?_
  refine wR_gi rfl rO_e rO_2 hm rfl ?_
  refine wR_ic_ge rfl (a := (gi mem 27 3).toInt) (c := (gi mem 27 2).toInt) rfl rfl (fun q1 => ?_) (fun q1 => ?_)
  ·
    exact h1 q1 lo l_0 l_1 l_2 hm
  ·
    refine wR_la rfl l_0 ?_
    refine wR_gq rfl rO_e hm ht ?_
    refine wR_la rfl l_0 ?_
    refine wR_gi rfl rO_e rO_3 hm rfl ?_
    refine wN_al (a := (gi mem 27 3).toInt) rfl aR_1 hm rfl rfl (by omega) (fun y2 e3 => ?_)
    refine yR_m 1 (fun _ _ _ _ => rfl) ?_
    refine wR_ic_lt rfl (a := (gn (ga mem 1) (gi mem 27 3).toInt)) (c := 97) e3 rfl (fun q4 => ?_) (fun q4 => ?_)
    ·
      exact h2 q1 y2 e3 q4 lo l_0 l_1 l_2 hm
    ·
      refine wR_la rfl l_0 ?_
      refine wR_gq rfl rO_e hm ht ?_
      refine wR_la rfl l_0 ?_
      refine wR_gi rfl rO_e rO_3 hm rfl ?_
      refine wN_al (a := (gi mem 27 3).toInt) rfl aR_1 hm rfl rfl (by omega) (fun y5 e6 => ?_)
      refine yR_m 1 (fun _ _ _ _ => rfl) ?_
      refine wR_ic_gt rfl (a := (gn (ga mem 1) (gi mem 27 3).toInt)) (c := 122) e6 rfl (fun q7 => ?_) (fun q7 => ?_)
      ·
        exact h3 q1 y2 e3 q4 y5 e6 q7 lo l_0 l_1 l_2 hm
      ·
        refine wR_li rfl l_3 ?_
        refine yR_m 1 (fun _ _ _ _ => rfl) ?_
        refine wR_ic_ne rfl (a := (k).toInt) (c := 6) rfl rfl (fun q8 => ?_) (fun q8 => ?_)
        ·
          refine wR_li rfl l_2 ?_
          refine wR_la rfl l_0 ?_
          refine wR_gq rfl rO_e hm ht ?_
          refine wR_la rfl l_0 ?_
          refine wR_gi rfl rO_e rO_3 hm rfl ?_
          refine wN_al (a := (gi mem 27 3).toInt) rfl aR_1 hm rfl rfl (by omega) (fun y9 e10 => ?_)
          refine yR_m 1 (fun _ _ _ _ => rfl) ?_
          refine wN_sub (a := (gn (ga mem 1) (gi mem 27 3).toInt)) (b := 97) rfl e10 rfl (s1 q1 y2 e3 q4 y5 e6 q7 q8 y9 e10) (fun x11 e12 => ?_)
          refine yR_m 1 (fun _ _ _ _ => rfl) ?_
          refine wN_add (a := ((gn (ga mem 1) (gi mem 27 3).toInt) - 97)) (b := 1) rfl e12 rfl (s2 q1 y2 e3 q4 y5 e6 q7 q8 y9 e10 x11 e12) (fun x13 e14 => ?_)
          refine yR_m 1 (fun _ _ _ _ => rfl) ?_
          refine wR_li rfl l_3 ?_
          refine wN_mul (a := 5) (b := (k).toInt) rfl rfl rfl (by omega) (fun x15 e16 => ?_)
          refine yR_m 2 (fun _ _ _ _ => rfl) ?_
          refine wR_si rfl rfl (fun lo17 e18 f19 => ?_)
          have lo17_0 := f19 0 _ (by decide) (Or.inl rfl) l_0
          have lo17_1 := f19 1 _ (by decide) (Or.inl rfl) l_1
          have lo17_3 := f19 3 _ (by decide) (Or.inl rfl) l_3
          refine wR_la rfl lo17_0 ?_
          refine yR_m 1 (fun _ _ _ _ => rfl) ?_
          refine wR_gi rfl rO_e rO_3 hm rfl ?_
          refine yR_m 1 (fun _ _ _ _ => rfl) ?_
          refine wN_add (a := (gi mem 27 3).toInt) (b := 1) rfl rfl rfl (by omega) (fun x20 e21 => ?_)
          refine wR_pi rfl rO_e rO_3 hm rfl ?_
          have hm_1 : aTm aT0 (si mem 27 3 x20) := tm_si rO_e rO_3 hm (by rw [e21]; exact (by omega))
          refine wN_in (a := (k).toInt) (b := 1) rfl rfl lo17_3 rfl rfl (by omega) (fun x22 e23 => fun lo24 e25 f26 => ?_)
          have lo24_2 := f26 2 _ (by decide) (Or.inl rfl) e18
          have lo24_0 := f26 0 _ (by decide) (Or.inl rfl) lo17_0
          have lo24_1 := f26 1 _ (by decide) (Or.inl rfl) lo17_1
          exact yR_m 1 (fun _ _ _ _ => rfl) (h4 q1 y2 e3 q4 y5 e6 q7 q8 y9 e10 x11 e12 x13 e14 x15 e16 x20 e21 x22 e23 lo24 lo24_0 lo24_1 lo24_2 e25 hm_1)
        ·
          refine wR_la rfl l_0 ?_
          refine yR_m 1 (fun _ _ _ _ => rfl) ?_
          refine wR_pi rfl rO_e rO_4 hm rfl ?_
          have hm_2 : aTm aT0 (si mem 27 4 5) := tm_si rO_e rO_4 hm (i32_b _)
          refine wR_la rfl l_0 ?_
          refine wR_la rfl l_0 ?_
          refine wR_gi rfl rO_e rO_3 hm_2 (gi_sv_ne (by decide)) ?_
          refine wR_pi rfl rO_e rO_7 hm_2 rfl ?_
          have hm_3 : aTm aT0 (si (si mem 27 4 5) 27 7 (gi mem 27 3)) := tm_si rO_e rO_7 hm_2 (i32_b _)
          exact yR_rv rfl (h5 q1 y2 e3 q4 y5 e6 q7 q8 hm_3)

theorem rw_4 {z : Int32} (hC : ga mr 28 = ownC) (hT : T = ga mr 1) (hN : (gi mr 27 2).toInt = n) : ∀ (f : Nat) (mem : zM) (k nm : Int32) (lo : List (Nat × Value)), k.toInt + (f : Int) = 6 → 0 ≤ k.toInt → aTm aT0 mem → zfl mem 27 1 = some (.ref 1) → fo 27 [] [3, 4, 5, 7] mr mem → (gi mem 27 3).toInt = b + k.toInt → b + k.toInt ≤ n → (∀ i, b ≤ i → i < b + k.toInt → ltr (gn T i)) → nm.toInt = cnl (lts T b k.toInt.toNat) → zlg lo 0 = some (.ref 27) → zlg lo 1 = some (.int z) → zlg lo 2 = some (.int nm) → zlg lo 3 = some (.int k) → yR zpg tX5_readWord d (4, lo, [], mem) (rwP mr T n b z.toInt) := by
  intro f
  induction f with
  | zero =>
    intro mem k nm lo hk h0 hm ht hf hat hbn hl hn a0 a1 a2 a3
    have g1 : ga mem 1 = T := (fo_ga hf (by decide) rfl).trans hT.symm
    have g2 : (gi mem 27 2).toInt = n := by rw [fo_gi hf rfl]; exact hN
    exact w_rw_4 hm a0 a1 a2 a3 ht ⟨h0, by omega⟩
        (fun q1 lo a0 a1 a2 hm2 => by
          have hq : Rn ltr T n b (b + k.toInt) := ⟨by omega, hbn, hl, fun w => by exfalso; omega⟩
          have e : (b + k.toInt - b).toNat = k.toInt.toNat := by omega
          exact rw_100 hC hT hq (by omega) (by rw [e]; exact hn) hm2 ht hf hat a0 a1 a2)
        (fun q1 y2 e3 q4 lo a0 a1 a2 hm2 => by
          have hq : Rn ltr T n b (b + k.toInt) := ⟨by omega, hbn, hl, fun _ w => by have w1 := w.1; rw [← g1, ← hat] at w1; omega⟩
          have e : (b + k.toInt - b).toNat = k.toInt.toNat := by omega
          exact rw_100 hC hT hq (by omega) (by rw [e]; exact hn) hm2 ht hf hat a0 a1 a2)
        (fun q1 y2 e3 q4 y5 e6 q7 lo a0 a1 a2 hm2 => by
          have hq : Rn ltr T n b (b + k.toInt) := ⟨by omega, hbn, hl, fun _ w => by have w1 := w.2; rw [← g1, ← hat] at w1; omega⟩
          have e : (b + k.toInt - b).toNat = k.toInt.toNat := by omega
          exact rw_100 hC hT hq (by omega) (by rw [e]; exact hn) hm2 ht hf hat a0 a1 a2)
        (fun q1 y2 e3 q4 y5 e6 q7 q8 y9 e10 => by omega)
        (fun q1 y2 e3 q4 y5 e6 q7 q8 y9 e10 x11 e12 => by omega)
        (fun q1 y2 e3 q4 y5 e6 q7 q8 y9 e10 x11 e12 x13 e14 x15 e16 x20 e21 x22 e23 lo a0 a1 a2 a3 hm2 => by exfalso; omega)
        (fun q1 y2 e3 q4 y5 e6 q7 q8 hm2 => by
          have lt : ltr (gn T (b + k.toInt)) := by
            rw [g1, hat] at q4 q7
            exact ⟨q4, q7⟩
          obtain ⟨q, hq⟩ := Rn_ex (ok := ltr) (T := T) (n := n) (n - b).toNat b (by omega)
          refine ⟨rfl, hm2, fo_sv rfl (fo_sv rfl (hf)), q, hq, Or.inl ⟨Or.inl ?_, by rw [((gi_sv_ne (by decide)).trans (gi_eqQ (isQ_of rO_e hm) rO_4))]; rfl⟩⟩
          rcases Int.lt_or_le (b + k.toInt) q with w | w
          · omega
          · exfalso
            rcases Int.lt_or_le q (b + k.toInt) with w2 | w2
            · exact hq.2.2.2 (by omega) (hl q hq.1 w2)
            · exact hq.2.2.2 (by omega) (by rw [show q = b + k.toInt by omega]; exact lt))
  | succ f ih =>
    intro mem k nm lo hk h0 hm ht hf hat hbn hl hn a0 a1 a2 a3
    have g1 : ga mem 1 = T := (fo_ga hf (by decide) rfl).trans hT.symm
    have g2 : (gi mem 27 2).toInt = n := by rw [fo_gi hf rfl]; exact hN
    exact w_rw_4 hm a0 a1 a2 a3 ht ⟨h0, by omega⟩
        (fun q1 lo a0 a1 a2 hm2 => by
          have hq : Rn ltr T n b (b + k.toInt) := ⟨by omega, hbn, hl, fun w => by exfalso; omega⟩
          have e : (b + k.toInt - b).toNat = k.toInt.toNat := by omega
          exact rw_100 hC hT hq (by omega) (by rw [e]; exact hn) hm2 ht hf hat a0 a1 a2)
        (fun q1 y2 e3 q4 lo a0 a1 a2 hm2 => by
          have hq : Rn ltr T n b (b + k.toInt) := ⟨by omega, hbn, hl, fun _ w => by have w1 := w.1; rw [← g1, ← hat] at w1; omega⟩
          have e : (b + k.toInt - b).toNat = k.toInt.toNat := by omega
          exact rw_100 hC hT hq (by omega) (by rw [e]; exact hn) hm2 ht hf hat a0 a1 a2)
        (fun q1 y2 e3 q4 y5 e6 q7 lo a0 a1 a2 hm2 => by
          have hq : Rn ltr T n b (b + k.toInt) := ⟨by omega, hbn, hl, fun _ w => by have w1 := w.2; rw [← g1, ← hat] at w1; omega⟩
          have e : (b + k.toInt - b).toNat = k.toInt.toNat := by omega
          exact rw_100 hC hT hq (by omega) (by rw [e]; exact hn) hm2 ht hf hat a0 a1 a2)
        (fun q1 y2 e3 q4 y5 e6 q7 q8 y9 e10 => by omega)
        (fun q1 y2 e3 q4 y5 e6 q7 q8 y9 e10 x11 e12 => by omega)
        (fun q1 y2 e3 q4 y5 e6 q7 q8 y9 e10 x11 e12 x13 e14 x15 e16 x20 e21 x22 e23 lo a0 a1 a2 a3 hm2 => by
          have lt : ltr (gn T (b + k.toInt)) := by
            rw [g1, hat] at q4 q7
            exact ⟨q4, q7⟩
          have kk : (k.toInt.toNat : Int) = k.toInt := by omega
          have e1 : ∀ q : Int32, q.toInt = k.toInt + 1 → q.toInt.toNat = k.toInt.toNat + 1 := fun q h => by omega
          refine ih _ _ _ lo (by omega) (by omega) hm2 ((zfl_sv_ne (by decide)).trans ht) (fo_sv rfl (hf)) (by rw [(gi_eqQ (isQ_of rO_e hm) rO_3)]; omega) (by omega) (fun i i0 i1 => ?_) ?_ a0 a1 a2 a3
          · by_cases e : i = b + k.toInt
            · rw [e]; exact lt
            · exact hl i i0 (by omega)
          · rw [e1 _ (by omega)]
            show _ = cnl (lts T b k.toInt.toNat ++ [gn T (b + (k.toInt.toNat : Int))])
            rw [kk]
            exact cnl_or (k := k.toInt) hn (lts_all _ (fun i i0 i1 => hl i i0 (by omega))) (by rw [lts_len]; exact kk) (by omega) (by rw [← g1, ← hat]; omega) lt (by omega))
        (fun q1 y2 e3 q4 y5 e6 q7 q8 hm2 => by
          have lt : ltr (gn T (b + k.toInt)) := by
            rw [g1, hat] at q4 q7
            exact ⟨q4, q7⟩
          obtain ⟨q, hq⟩ := Rn_ex (ok := ltr) (T := T) (n := n) (n - b).toNat b (by omega)
          refine ⟨rfl, hm2, fo_sv rfl (fo_sv rfl (hf)), q, hq, Or.inl ⟨Or.inl ?_, by rw [((gi_sv_ne (by decide)).trans (gi_eqQ (isQ_of rO_e hm) rO_4))]; rfl⟩⟩
          rcases Int.lt_or_le (b + k.toInt) q with w | w
          · omega
          · exfalso
            rcases Int.lt_or_le q (b + k.toInt) with w2 | w2
            · exact hq.2.2.2 (by omega) (hl q hq.1 w2)
            · exact hq.2.2.2 (by omega) (by rw [show q = b + k.toInt by omega]; exact lt))
set_option maxRecDepth 100000 in
theorem w_rw_0 {d : Nat} {mem : zM} {P : Option Value → zM → Prop} {z : Int32} {lo : List (Nat × Value)} (hm : aTm aT0 mem) (l_0 : zlg lo 0 = some (.ref 27)) (l_1 : zlg lo 1 = some (.int z)) (ht : zfl mem 27 1 = some (.ref 1)) (h1 : ∀ lo, zlg lo 0 = some (.ref 27) → zlg lo 1 = some (.int z) → zlg lo 2 = some (.int 0) → zlg lo 3 = some (.int 0) → aTm aT0 mem → yR zpg tX5_readWord d (4, lo, [], mem) P) : yR zpg tX5_readWord d (0, lo, [], mem) P := by
  have r2 := rO_r2 hm
  have r3 := rO_r3 hm
  refine yR_m 1 (fun _ _ _ _ => rfl) ?_
  refine wR_si rfl rfl (fun lo1 e2 f3 => ?_)
  have lo1_0 := f3 0 _ (by decide) (Or.inl rfl) l_0
  have lo1_1 := f3 1 _ (by decide) (Or.inl rfl) l_1
  refine yR_m 1 (fun _ _ _ _ => rfl) ?_
  refine wR_si rfl rfl (fun lo4 e5 f6 => ?_)
  have lo4_2 := f6 2 _ (by decide) (Or.inl rfl) e2
  have lo4_0 := f6 0 _ (by decide) (Or.inl rfl) lo1_0
  have lo4_1 := f6 1 _ (by decide) (Or.inl rfl) lo1_1
  exact h1 lo4 lo4_0 lo4_1 lo4_2 e5 hm

theorem h_readWord {z : Int32} (hm : aTm aT0 mem) (ht : zfl mem 27 1 = some (.ref 1)) (hC : ga mem 28 = ownC) (hN : (gi mem 27 2).toInt = n) (hb : (gi mem 27 3).toInt = b) (hbn : b ≤ n) (hd : 1 ≤ d) : yC zpg d 59 [.ref 27, .int z] mem (rwP mem (ga mem 1) n b z.toInt) := by
  obtain ⟨d, rfl⟩ : ∃ q, d = q + 1 := ⟨d - 1, by omega⟩
  refine yC_of (t := tX5_readWord) rfl rfl ?_
  exact w_rw_0 hm rfl rfl ht
        (fun  lo a0 a1 a2 a3 hm2 => rw_4 hC rfl hN 6 mem 0 0 lo (by decide) (by decide) hm2 ht fo_rf (by rw [hb]; show b = b + 0; omega) (by show b + 0 ≤ n; omega) (fun i i0 i1 => by exfalso; have e : Int32.toInt 0 = 0 := rfl; omega) rfl a0 a1 a2 a3)
end RW
