/-! what the operations do to intervals -/
abbrev aTop : Int × Int := (-2147483648, 2147483647)
def aRg (l h : Int) : Int × Int := bif Bool.and (decide (-2147483648 ≤ l)) (decide (h ≤ 2147483647)) then (l, h) else aTop
theorem aTop_s (x : Int32) : aTop.1 ≤ x.toInt ∧ x.toInt ≤ aTop.2 := i32_b x
theorem aRg_s {l h : Int} {x : Int32} {v : Int} (hx : x.toInt = v.bmod (2 ^ 32)) (h0 : l ≤ v) (h1 : v ≤ h) : (aRg l h).1 ≤ x.toInt ∧ x.toInt ≤ (aRg l h).2 := by
  unfold aRg
  cases hb : Bool.and (decide (-2147483648 ≤ l)) (decide (h ≤ 2147483647)) with
  | false => exact i32_b x
  | true =>
    obtain ⟨b1, b2⟩ := (Bool.and_eq_true _ _).mp hb
    have b1 := of_decide_eq_true b1
    have b2 := of_decide_eq_true b2
    rw [hx, Int.bmod_eq_of_le (by omega) (by omega)]
    exact ⟨h0, h1⟩
def g_add (p q : Int × Int) : Int × Int := aRg (p.1 + q.1) (p.2 + q.2)
theorem sd_add : aSd (fun x y => x + y) g_add := fun p q x y h1 h2 h3 h4 => aRg_s (Int32.toInt_add x y) (by omega) (by omega)
def g_sub (p q : Int × Int) : Int × Int := aRg (p.1 - q.2) (p.2 - q.1)
theorem sd_sub : aSd (fun x y => x - y) g_sub := fun p q x y h1 h2 h3 h4 => aRg_s (Int32.toInt_sub x y) (by omega) (by omega)
def g_mul (p q : Int × Int) : Int × Int := bif Bool.and (decide (0 ≤ p.1)) (decide (0 ≤ q.1)) then aRg 0 (p.2 * q.2) else aTop
theorem sd_mul : aSd (fun x y => x * y) g_mul := fun p q x y h1 h2 h3 h4 => by
  unfold g_mul
  cases hb : Bool.and (decide (0 ≤ p.1)) (decide (0 ≤ q.1)) with
  | false => exact i32_b _
  | true =>
    obtain ⟨b1, b2⟩ := (Bool.and_eq_true _ _).mp hb
    have b1 := of_decide_eq_true b1
    have b2 := of_decide_eq_true b2
    exact aRg_s (Int32.toInt_mul x y) (Int.mul_nonneg (by omega) (by omega)) (Int.mul_le_mul h2 h4 (by omega) (by omega))
theorem i32_nn {x : Int32} (h : 0 ≤ x.toInt) : (x.toBitVec.toNat : Int) = x.toInt := by
  have e : x.toInt = x.toBitVec.toInt := rfl
  have l := x.toBitVec.isLt
  rw [e, BitVec.toInt_eq_toNat_cond] at h
  rw [e, BitVec.toInt_eq_toNat_cond]
  split at h <;> split <;> omega
theorem i32_tn {x : Int32} (h : x.toBitVec.toNat < 2147483648) : x.toInt = (x.toBitVec.toNat : Int) := by
  have e : x.toInt = x.toBitVec.toInt := rfl
  rw [e, BitVec.toInt_eq_toNat_cond]
  split <;> omega
def g_and (p q : Int × Int) : Int × Int := bif decide (0 ≤ q.1) then (bif decide (0 ≤ p.1) then (0, min p.2 q.2) else (0, q.2)) else bif decide (0 ≤ p.1) then (0, p.2) else aTop
theorem i32_and_r {x y : Int32} (h : 0 ≤ y.toInt) : 0 ≤ (x &&& y).toInt ∧ (x &&& y).toInt ≤ y.toInt := by
  have e := i32_nn h
  have b := (i32_b y).2
  have c : (x &&& y).toBitVec.toNat ≤ y.toBitVec.toNat := by
    rw [Int32.toBitVec_and, BitVec.toNat_and]
    exact Nat.and_le_right
  rw [i32_tn (x := x &&& y) (by omega)]
  omega
theorem i32_and_l {x y : Int32} (h : 0 ≤ x.toInt) : 0 ≤ (x &&& y).toInt ∧ (x &&& y).toInt ≤ x.toInt := by
  have e := i32_nn h
  have b := (i32_b x).2
  have c : (x &&& y).toBitVec.toNat ≤ x.toBitVec.toNat := by
    rw [Int32.toBitVec_and, BitVec.toNat_and]
    exact Nat.and_le_left
  rw [i32_tn (x := x &&& y) (by omega)]
  omega
theorem sd_and : aSd (fun x y => x &&& y) g_and := fun p q x y h1 h2 h3 h4 => by
  unfold g_and
  cases b1 : decide (0 ≤ q.1) with
  | true =>
    have b1 := of_decide_eq_true b1
    have r := i32_and_r (x := x) (y := y) (by omega)
    cases b2 : decide (0 ≤ p.1) with
    | true =>
      have b2 := of_decide_eq_true b2
      have l := i32_and_l (x := x) (y := y) (by omega)
      exact ⟨r.1, by show (x &&& y).toInt ≤ min p.2 q.2; omega⟩
    | false => exact ⟨r.1, by show (x &&& y).toInt ≤ q.2; omega⟩
  | false =>
    cases b2 : decide (0 ≤ p.1) with
    | true =>
      have b2 := of_decide_eq_true b2
      have l := i32_and_l (x := x) (y := y) (by omega)
      exact ⟨l.1, by show (x &&& y).toInt ≤ p.2; omega⟩
    | false => exact i32_b _
/-- the least 2 ^ k - 1 that is no less -/
def aP2 (n : Int) : Nat → Option Nat
  | 0 => none
  | k + 1 => match aP2 n k with
    | some j => some j
    | none => bif decide (n < 2 ^ k) then some k else none
theorem aP2_s {n : Int} : ∀ {k j : Nat}, aP2 n k = some j → n < 2 ^ j ∧ j < k
  | 0, _, h => by cases h
  | k + 1, j, h => by
    unfold aP2 at h
    split at h
    · next i hi =>
      cases h
      have := aP2_s hi
      exact ⟨this.1, by omega⟩
    · cases hb : decide (n < 2 ^ k) with
      | true =>
        rw [hb] at h
        cases h
        exact ⟨of_decide_eq_true hb, by omega⟩
      | false => rw [hb] at h; cases h
def g_or (p q : Int × Int) : Int × Int := bif Bool.and (decide (0 ≤ p.1)) (decide (0 ≤ q.1)) then (match aP2 (max p.2 q.2) 32 with
  | some k => (0, 2 ^ k - 1)
  | none => aTop) else aTop
theorem i32_2k {x : Int32} {k : Nat} (hk : k < 32) (h : x.toBitVec.toNat < 2 ^ k) : 0 ≤ x.toInt ∧ x.toInt ≤ (2 : Int) ^ k - 1 := by
  have h2 : (2 : Nat) ^ k ≤ 2 ^ 31 := Nat.pow_le_pow_right (by decide) (by omega)
  rw [i32_tn (by have : (2 : Nat) ^ 31 = 2147483648 := by decide
                 omega)]
  have h3 : ((2 ^ k : Nat) : Int) = (2 : Int) ^ k := by simp
  omega
theorem i32_lt2k {x : Int32} {k : Nat} {n : Int} (h0 : 0 ≤ x.toInt) (h1 : x.toInt ≤ n) (h : n < 2 ^ k) : x.toBitVec.toNat < 2 ^ k := by
  have e := i32_nn h0
  have h3 : ((2 ^ k : Nat) : Int) = (2 : Int) ^ k := by simp
  omega
theorem sd_or : aSd (fun x y => x ||| y) g_or := fun p q x y h1 h2 h3 h4 => by
  unfold g_or
  cases hb : Bool.and (decide (0 ≤ p.1)) (decide (0 ≤ q.1)) with
  | false => exact i32_b _
  | true =>
    obtain ⟨b1, b2⟩ := (Bool.and_eq_true _ _).mp hb
    have b1 := of_decide_eq_true b1
    have b2 := of_decide_eq_true b2
    show (match aP2 (max p.2 q.2) 32 with | some k => ((0, 2 ^ k - 1) : Int × Int) | none => aTop).1 ≤ _ ∧ _
    split
    · next k hk =>
      obtain ⟨k1, k2⟩ := aP2_s hk
      refine i32_2k k2 ?_
      rw [Int32.toBitVec_or, BitVec.toNat_or]
      exact Nat.or_lt_two_pow (i32_lt2k (by omega) (by omega) k1) (i32_lt2k (n := max p.2 q.2) (by omega) (by omega) k1)
    · exact i32_b _
theorem sd_xor : aSd (fun x y => x ^^^ y) g_or := fun p q x y h1 h2 h3 h4 => by
  unfold g_or
  cases hb : Bool.and (decide (0 ≤ p.1)) (decide (0 ≤ q.1)) with
  | false => exact i32_b _
  | true =>
    obtain ⟨b1, b2⟩ := (Bool.and_eq_true _ _).mp hb
    have b1 := of_decide_eq_true b1
    have b2 := of_decide_eq_true b2
    show (match aP2 (max p.2 q.2) 32 with | some k => ((0, 2 ^ k - 1) : Int × Int) | none => aTop).1 ≤ _ ∧ _
    split
    · next k hk =>
      obtain ⟨k1, k2⟩ := aP2_s hk
      refine i32_2k k2 ?_
      rw [Int32.toBitVec_xor, BitVec.toNat_xor]
      exact Nat.xor_lt_two_pow (i32_lt2k (by omega) (by omega) k1) (i32_lt2k (n := max p.2 q.2) (by omega) (by omega) k1)
    · exact i32_b _
/-- shifts by 0 to 31 -/
theorem i32_sh : ∀ n, n < 32 → ((Int32.ofNat n &&& 31).toBitVec.smod 32).toNat = n := by decide +kernel
theorem i32_of {y : Int32} (h : 0 ≤ y.toInt) : y = Int32.ofNat y.toInt.toNat := by
  have b := (i32_b y).2
  apply Int32.toInt_inj.mp
  rw [Int32.toInt_ofNat_small (by omega)]
  omega
def g_shl (p q : Int × Int) : Int × Int := bif Bool.and (decide (0 ≤ p.1)) (Bool.and (decide (0 ≤ q.1)) (decide (q.2 ≤ 31))) then aRg 0 (p.2 * 2 ^ q.2.toNat) else aTop
theorem sd_shl : aSd (fun x y => x <<< (y &&& 31)) g_shl := fun p q x y h1 h2 h3 h4 => by
  unfold g_shl
  cases hb : Bool.and (decide (0 ≤ p.1)) (Bool.and (decide (0 ≤ q.1)) (decide (q.2 ≤ 31))) with
  | false => exact i32_b _
  | true =>
    obtain ⟨b1, b2⟩ := (Bool.and_eq_true _ _).mp hb
    obtain ⟨b3, b4⟩ := (Bool.and_eq_true _ _).mp b2
    have b1 := of_decide_eq_true b1
    have b3 := of_decide_eq_true b3
    have b4 := of_decide_eq_true b4
    show (aRg 0 (p.2 * 2 ^ q.2.toNat)).1 ≤ (x <<< (y &&& 31)).toInt ∧ (x <<< (y &&& 31)).toInt ≤ (aRg 0 (p.2 * 2 ^ q.2.toNat)).2
    unfold aRg
    cases hc : Bool.and (decide ((-2147483648 : Int) ≤ 0)) (decide (p.2 * 2 ^ q.2.toNat ≤ 2147483647)) with
    | false => exact i32_b _
    | true =>
      have c2 := of_decide_eq_true ((Bool.and_eq_true _ _).mp hc).2
      have e1 := i32_nn (x := x) (by omega)
      have hk : y.toInt.toNat < 32 := by omega
      have e2 : (x <<< (y &&& 31)).toBitVec.toNat = (x.toBitVec.toNat * 2 ^ y.toInt.toNat) % 2 ^ 32 := by
        rw [i32_of (y := y) (by omega)]
        have e3 : (Int32.ofNat y.toInt.toNat).toInt.toNat = y.toInt.toNat := by rw [← i32_of (y := y) (by omega)]
        rw [e3]
        show (x.toBitVec <<< ((Int32.ofNat y.toInt.toNat &&& 31).toBitVec.smod 32).toNat).toNat = _
        rw [i32_sh _ hk, BitVec.toNat_shiftLeft, Nat.shiftLeft_eq]
      have h5 : (2 : Nat) ^ y.toInt.toNat ≤ 2 ^ q.2.toNat := Nat.pow_le_pow_right (by decide) (by omega)
      have h6 : x.toBitVec.toNat * 2 ^ y.toInt.toNat ≤ p.2.toNat * 2 ^ q.2.toNat := Nat.mul_le_mul (by omega) h5
      have h7 : ((p.2.toNat * 2 ^ q.2.toNat : Nat) : Int) = p.2 * 2 ^ q.2.toNat := by
        rw [Int.natCast_mul, Int.natCast_pow, Int.toNat_of_nonneg (by omega)]
        rfl
      have h8 : x.toBitVec.toNat * 2 ^ y.toInt.toNat < 2147483648 := by omega
      have e4 : (x <<< (y &&& 31)).toBitVec.toNat = x.toBitVec.toNat * 2 ^ y.toInt.toNat := by
        rw [e2, Nat.mod_eq_of_lt (by omega)]
      rw [i32_tn (by rw [e4]; exact h8), e4]
      show (0 : Int) ≤ _ ∧ _ ≤ p.2 * 2 ^ q.2.toNat
      omega
def g_shr (p q : Int × Int) : Int × Int := bif Bool.and (decide (0 ≤ q.1)) (decide (q.2 ≤ 31)) then (min p.1 0, max p.2 0) else aTop
theorem sd_shr : aSd (fun x y => x >>> (y &&& 31)) g_shr := fun p q x y h1 h2 h3 h4 => by
  unfold g_shr
  cases hb : Bool.and (decide (0 ≤ q.1)) (decide (q.2 ≤ 31)) with
  | false => exact i32_b _
  | true =>
    obtain ⟨b1, b2⟩ := (Bool.and_eq_true _ _).mp hb
    have b1 := of_decide_eq_true b1
    have b2 := of_decide_eq_true b2
    have e2 : (x >>> (y &&& 31)).toInt = x.toInt / 2 ^ y.toInt.toNat := by
      rw [i32_of (y := y) (by omega)]
      have e3 : (Int32.ofNat y.toInt.toNat).toInt.toNat = y.toInt.toNat := by rw [← i32_of (y := y) (by omega)]
      rw [e3]
      show (x.toBitVec.sshiftRight ((Int32.ofNat y.toInt.toNat &&& 31).toBitVec.smod 32).toNat).toInt = _
      rw [i32_sh _ (by omega), BitVec.toInt_sshiftRight, Int.shiftRight_eq_div_pow]
      rfl
    have h5 : (1 : Int) ≤ 2 ^ y.toInt.toNat := by
      have : (1 : Nat) ≤ 2 ^ y.toInt.toNat := Nat.one_le_two_pow
      have h3 : ((2 ^ y.toInt.toNat : Nat) : Int) = (2 : Int) ^ y.toInt.toNat := by simp
      omega
    show min p.1 0 ≤ (x >>> (y &&& 31)).toInt ∧ (x >>> (y &&& 31)).toInt ≤ max p.2 0
    rw [e2]
    generalize (2 : Int) ^ y.toInt.toNat = m at h5
    rcases Int.le_total 0 x.toInt with hx | hx
    · have a1 : 0 ≤ x.toInt / m := Int.ediv_nonneg hx (by omega)
      have a2 : x.toInt / m ≤ x.toInt := Int.ediv_le_self _ hx
      omega
    · have a1 : x.toInt / m ≤ 0 := Int.ediv_nonpos_of_nonpos_of_neg hx (by omega)
      have a2 : x.toInt ≤ x.toInt / m := by
        have h9 : x.toInt ≤ x.toInt / m := by
          apply Int.le_ediv_of_mul_le (by omega)
          have : x.toInt * m ≤ x.toInt * 1 := Int.mul_le_mul_of_nonpos_left hx h5
          omega
        exact h9
      omega
def g_top (_ _ : Int × Int) : Int × Int := aTop
theorem sd_top {o : Int32 → Int32 → Int32} : aSd o g_top := fun _ _ _ _ _ _ _ _ => i32_b _
/-- a quotient lies between 0 and what is divided; a rest below the divisor -/
def g_div (p _ : Int × Int) : Int × Int := (min p.1 0, max p.2 0)
theorem i32_div {x y : Int32} (h : 1 ≤ y.toInt) : (x / y).toInt = x.toInt.tdiv y.toInt := by
  have b := i32_b x
  rw [Int32.toInt_div]
  rcases Int.le_total 0 x.toInt with hx | hx
  · have a1 : 0 ≤ x.toInt.tdiv y.toInt := Int.tdiv_nonneg hx (by omega)
    have a2 : x.toInt.tdiv y.toInt ≤ x.toInt := Int.tdiv_le_self _ hx
    exact Int.bmod_eq_of_le (by omega) (by omega)
  · have e : x.toInt.tdiv y.toInt = -((-x.toInt).tdiv y.toInt) := by rw [Int.neg_tdiv, Int.neg_neg]
    have a1 : 0 ≤ (-x.toInt).tdiv y.toInt := Int.tdiv_nonneg (by omega) (by omega)
    have a2 : (-x.toInt).tdiv y.toInt ≤ -x.toInt := Int.tdiv_le_self _ (by omega)
    exact Int.bmod_eq_of_le (by omega) (by omega)
theorem sp_div : aSp (fun x y => x / y) g_div := fun p q x y h1 h2 h3 h4 h5 => by
  show min p.1 0 ≤ (x / y).toInt ∧ (x / y).toInt ≤ max p.2 0
  rw [i32_div (by omega)]
  rcases Int.le_total 0 x.toInt with hx | hx
  · have a1 : 0 ≤ x.toInt.tdiv y.toInt := Int.tdiv_nonneg hx (by omega)
    have a2 : x.toInt.tdiv y.toInt ≤ x.toInt := Int.tdiv_le_self _ hx
    omega
  · have e : x.toInt.tdiv y.toInt = -((-x.toInt).tdiv y.toInt) := by rw [Int.neg_tdiv, Int.neg_neg]
    have a1 : 0 ≤ (-x.toInt).tdiv y.toInt := Int.tdiv_nonneg (by omega) (by omega)
    have a2 : (-x.toInt).tdiv y.toInt ≤ -x.toInt := Int.tdiv_le_self _ (by omega)
    omega
def g_rem (p q : Int × Int) : Int × Int := bif decide (0 ≤ p.1) then (0, min p.2 (q.2 - 1)) else (-(q.2 - 1), q.2 - 1)
theorem i32_rem {x y : Int32} (h : 1 ≤ y.toInt) : (x - x / y * y).toInt = x.toInt.tmod y.toInt := by
  have b := i32_b x
  have e := i32_div (x := x) h
  have d := Int.tmod_def x.toInt y.toInt
  rw [Int32.toInt_sub, Int32.toInt_mul, e, Int.sub_bmod_bmod, Int.mul_comm, ← d]
  rcases Int.le_total 0 x.toInt with hx | hx
  · have a1 : 0 ≤ x.toInt.tmod y.toInt := Int.tmod_nonneg _ hx
    have a2 : x.toInt.tmod y.toInt < y.toInt := Int.tmod_lt_of_pos _ (by omega)
    have b2 := i32_b y
    exact Int.bmod_eq_of_le (by omega) (by omega)
  · have e2 : x.toInt.tmod y.toInt = -((-x.toInt).tmod y.toInt) := by rw [Int.neg_tmod, Int.neg_neg]
    have a1 : 0 ≤ (-x.toInt).tmod y.toInt := Int.tmod_nonneg _ (by omega)
    have a2 : (-x.toInt).tmod y.toInt < y.toInt := Int.tmod_lt_of_pos _ (by omega)
    have b2 := i32_b y
    exact Int.bmod_eq_of_le (by omega) (by omega)
theorem sp_rem : aSp (fun x y => x - x / y * y) g_rem := fun p q x y h1 h2 h3 h4 h5 => by
  unfold g_rem
  show _ ≤ (x - x / y * y).toInt ∧ (x - x / y * y).toInt ≤ _
  rw [i32_rem (by omega)]
  rcases Int.le_total 0 x.toInt with hx | hx
  · have a1 : 0 ≤ x.toInt.tmod y.toInt := Int.tmod_nonneg _ hx
    have a2 : x.toInt.tmod y.toInt < y.toInt := Int.tmod_lt_of_pos _ (by omega)
    have a3 : x.toInt.tmod y.toInt ≤ x.toInt := by
      have d := Int.tmod_def x.toInt y.toInt
      have a4 : 0 ≤ x.toInt.tdiv y.toInt := Int.tdiv_nonneg hx (by omega)
      have a5 : 0 ≤ y.toInt * x.toInt.tdiv y.toInt := Int.mul_nonneg (by omega) a4
      omega
    cases hb : decide (0 ≤ p.1) with
    | true => show 0 ≤ _ ∧ _ ≤ min p.2 (q.2 - 1); omega
    | false => show -(q.2 - 1) ≤ _ ∧ _ ≤ q.2 - 1; omega
  · have e2 : x.toInt.tmod y.toInt = -((-x.toInt).tmod y.toInt) := by rw [Int.neg_tmod, Int.neg_neg]
    have a1 : 0 ≤ (-x.toInt).tmod y.toInt := Int.tmod_nonneg _ (by omega)
    have a2 : (-x.toInt).tmod y.toInt < y.toInt := Int.tmod_lt_of_pos _ (by omega)
    cases hb : decide (0 ≤ p.1) with
    | true =>
      have hb := of_decide_eq_true hb
      have hx0 : x.toInt = 0 := by omega
      have e3 : x.toInt.tmod y.toInt = 0 := by rw [hx0]; exact Int.zero_tmod _
      show 0 ≤ _ ∧ _ ≤ min p.2 (q.2 - 1)
      omega
    | false => show -(q.2 - 1) ≤ _ ∧ _ ≤ q.2 - 1; omega
/-! tests -/
theorem i32_eq {x y : Int32} : x = y ↔ x.toInt = y.toInt := Int32.toInt_inj.symm
theorem i32_z : (0 : Int32).toInt = 0 := rfl
def c_eq (q : Int × Int) : Int × Int := (max q.1 0, min q.2 0)
def c_ne (q : Int × Int) : Int × Int := (bif decide (q.1 = 0) then 1 else q.1, bif decide (q.2 = 0) then -1 else q.2)
def c_lt (q : Int × Int) : Int × Int := (q.1, min q.2 (-1))
def c_ge (q : Int × Int) : Int × Int := (max q.1 0, q.2)
def c_gt (q : Int × Int) : Int × Int := (max q.1 1, q.2)
def c_le (q : Int × Int) : Int × Int := (q.1, min q.2 0)
theorem c_eq_s {q : Int × Int} {x : Int32} (h0 : q.1 ≤ x.toInt) (h1 : x.toInt ≤ q.2) (h : x = 0) : (c_eq q).1 ≤ x.toInt ∧ x.toInt ≤ (c_eq q).2 := by
  have := i32_eq.mp h
  rw [i32_z] at this
  show max q.1 0 ≤ x.toInt ∧ x.toInt ≤ min q.2 0
  omega
theorem c_ne_s {q : Int × Int} {x : Int32} (h0 : q.1 ≤ x.toInt) (h1 : x.toInt ≤ q.2) (h : ¬ x = 0) : (c_ne q).1 ≤ x.toInt ∧ x.toInt ≤ (c_ne q).2 := by
  rw [i32_eq, i32_z] at h
  show (bif decide (q.1 = 0) then 1 else q.1) ≤ x.toInt ∧ x.toInt ≤ (bif decide (q.2 = 0) then -1 else q.2)
  constructor
  · cases hb : decide (q.1 = 0) with
    | true => have := of_decide_eq_true hb; show 1 ≤ x.toInt; omega
    | false => exact h0
  · cases hb : decide (q.2 = 0) with
    | true => have := of_decide_eq_true hb; show x.toInt ≤ -1; omega
    | false => exact h1
theorem si_eq : aSi (fun x => decide (x = 0)) c_eq c_ne := fun q x h0 h1 => ⟨fun h => c_eq_s h0 h1 (of_decide_eq_true h), fun h => c_ne_s h0 h1 (of_decide_eq_false h)⟩
theorem si_ne : aSi (fun x => !decide (x = 0)) c_ne c_eq := fun q x h0 h1 => ⟨fun h => c_ne_s h0 h1 (by simpa using h), fun h => c_eq_s h0 h1 (by simpa using h)⟩
theorem si_lt : aSi (fun x => decide (x < 0)) c_lt c_ge := fun q x h0 h1 => ⟨fun h => by
  have := of_decide_eq_true h
  rw [Int32.lt_iff_toInt_lt, i32_z] at this
  show q.1 ≤ x.toInt ∧ x.toInt ≤ min q.2 (-1)
  omega, fun h => by
  have := of_decide_eq_false h
  rw [Int32.lt_iff_toInt_lt, i32_z] at this
  show max q.1 0 ≤ x.toInt ∧ x.toInt ≤ q.2
  omega⟩
theorem si_ge : aSi (fun x => decide (0 ≤ x)) c_ge c_lt := fun q x h0 h1 => ⟨fun h => by
  have := of_decide_eq_true h
  rw [Int32.le_iff_toInt_le, i32_z] at this
  show max q.1 0 ≤ x.toInt ∧ x.toInt ≤ q.2
  omega, fun h => by
  have := of_decide_eq_false h
  rw [Int32.le_iff_toInt_le, i32_z] at this
  show q.1 ≤ x.toInt ∧ x.toInt ≤ min q.2 (-1)
  omega⟩
theorem si_gt : aSi (fun x => decide (0 < x)) c_gt c_le := fun q x h0 h1 => ⟨fun h => by
  have := of_decide_eq_true h
  rw [Int32.lt_iff_toInt_lt, i32_z] at this
  show max q.1 1 ≤ x.toInt ∧ x.toInt ≤ q.2
  omega, fun h => by
  have := of_decide_eq_false h
  rw [Int32.lt_iff_toInt_lt, i32_z] at this
  show q.1 ≤ x.toInt ∧ x.toInt ≤ min q.2 0
  omega⟩
theorem si_le : aSi (fun x => decide (x ≤ 0)) c_le c_gt := fun q x h0 h1 => ⟨fun h => by
  have := of_decide_eq_true h
  rw [Int32.le_iff_toInt_le, i32_z] at this
  show q.1 ≤ x.toInt ∧ x.toInt ≤ min q.2 0
  omega, fun h => by
  have := of_decide_eq_false h
  rw [Int32.le_iff_toInt_le, i32_z] at this
  show max q.1 1 ≤ x.toInt ∧ x.toInt ≤ q.2
  omega⟩
def d_eq (q r : Int × Int) : (Int × Int) × (Int × Int) := ((max q.1 r.1, min q.2 r.2), (max q.1 r.1, min q.2 r.2))
def d_n1 (q r : Int × Int) : Int × Int := bif decide (r.1 = r.2) then (bif decide (q.1 = r.1) then q.1 + 1 else q.1, bif decide (q.2 = r.1) then q.2 - 1 else q.2) else q
def d_ne (q r : Int × Int) : (Int × Int) × (Int × Int) := (d_n1 q r, d_n1 r q)
def d_lt (q r : Int × Int) : (Int × Int) × (Int × Int) := ((q.1, min q.2 (r.2 - 1)), (max r.1 (q.1 + 1), r.2))
def d_ge (q r : Int × Int) : (Int × Int) × (Int × Int) := ((max q.1 r.1, q.2), (r.1, min r.2 q.2))
def d_gt (q r : Int × Int) : (Int × Int) × (Int × Int) := ((max q.1 (r.1 + 1), q.2), (r.1, min r.2 (q.2 - 1)))
def d_le (q r : Int × Int) : (Int × Int) × (Int × Int) := ((q.1, min q.2 r.2), (max r.1 q.1, r.2))
theorem d_n1_s {q r : Int × Int} {x y : Int32} (h0 : q.1 ≤ x.toInt) (h1 : x.toInt ≤ q.2) (h2 : r.1 ≤ y.toInt) (h3 : y.toInt ≤ r.2) (h : ¬ x.toInt = y.toInt) : (d_n1 q r).1 ≤ x.toInt ∧ x.toInt ≤ (d_n1 q r).2 := by
  unfold d_n1
  cases hb : decide (r.1 = r.2) with
  | false => exact ⟨h0, h1⟩
  | true =>
    have hb := of_decide_eq_true hb
    show (bif decide (q.1 = r.1) then q.1 + 1 else q.1) ≤ x.toInt ∧ x.toInt ≤ (bif decide (q.2 = r.1) then q.2 - 1 else q.2)
    constructor
    · cases hc : decide (q.1 = r.1) with
      | true => have := of_decide_eq_true hc; show q.1 + 1 ≤ x.toInt; omega
      | false => exact h0
    · cases hc : decide (q.2 = r.1) with
      | true => have := of_decide_eq_true hc; show x.toInt ≤ q.2 - 1; omega
      | false => exact h1
theorem d_eq_s {q r : Int × Int} {x y : Int32} (h0 : q.1 ≤ x.toInt) (h1 : x.toInt ≤ q.2) (h2 : r.1 ≤ y.toInt) (h3 : y.toInt ≤ r.2) (h : x = y) : ((d_eq q r).1.1 ≤ x.toInt ∧ x.toInt ≤ (d_eq q r).1.2) ∧ (d_eq q r).2.1 ≤ y.toInt ∧ y.toInt ≤ (d_eq q r).2.2 := by
  have := i32_eq.mp h
  show (max q.1 r.1 ≤ x.toInt ∧ x.toInt ≤ min q.2 r.2) ∧ max q.1 r.1 ≤ y.toInt ∧ y.toInt ≤ min q.2 r.2
  omega
theorem d_ne_s {q r : Int × Int} {x y : Int32} (h0 : q.1 ≤ x.toInt) (h1 : x.toInt ≤ q.2) (h2 : r.1 ≤ y.toInt) (h3 : y.toInt ≤ r.2) (h : ¬ x = y) : ((d_ne q r).1.1 ≤ x.toInt ∧ x.toInt ≤ (d_ne q r).1.2) ∧ (d_ne q r).2.1 ≤ y.toInt ∧ y.toInt ≤ (d_ne q r).2.2 := by
  rw [i32_eq] at h
  exact ⟨d_n1_s h0 h1 h2 h3 h, d_n1_s h2 h3 h0 h1 (fun q => h q.symm)⟩
theorem sj_eq : aSc (fun x y => decide (x = y)) d_eq d_ne := fun q r x y h0 h1 h2 h3 => ⟨fun h => d_eq_s h0 h1 h2 h3 (of_decide_eq_true h), fun h => d_ne_s h0 h1 h2 h3 (of_decide_eq_false h)⟩
theorem sj_ne : aSc (fun x y => !decide (x = y)) d_ne d_eq := fun q r x y h0 h1 h2 h3 => ⟨fun h => d_ne_s h0 h1 h2 h3 (by simpa using h), fun h => d_eq_s h0 h1 h2 h3 (by simpa using h)⟩
theorem sj_lt : aSc (fun x y => decide (x < y)) d_lt d_ge := fun q r x y h0 h1 h2 h3 => ⟨fun h => by
  have := of_decide_eq_true h
  rw [Int32.lt_iff_toInt_lt] at this
  show (q.1 ≤ x.toInt ∧ x.toInt ≤ min q.2 (r.2 - 1)) ∧ max r.1 (q.1 + 1) ≤ y.toInt ∧ y.toInt ≤ r.2
  omega, fun h => by
  have := of_decide_eq_false h
  rw [Int32.lt_iff_toInt_lt] at this
  show (max q.1 r.1 ≤ x.toInt ∧ x.toInt ≤ q.2) ∧ r.1 ≤ y.toInt ∧ y.toInt ≤ min r.2 q.2
  omega⟩
theorem sj_ge : aSc (fun x y => decide (y ≤ x)) d_ge d_lt := fun q r x y h0 h1 h2 h3 => ⟨fun h => by
  have := of_decide_eq_true h
  rw [Int32.le_iff_toInt_le] at this
  show (max q.1 r.1 ≤ x.toInt ∧ x.toInt ≤ q.2) ∧ r.1 ≤ y.toInt ∧ y.toInt ≤ min r.2 q.2
  omega, fun h => by
  have := of_decide_eq_false h
  rw [Int32.le_iff_toInt_le] at this
  show (q.1 ≤ x.toInt ∧ x.toInt ≤ min q.2 (r.2 - 1)) ∧ max r.1 (q.1 + 1) ≤ y.toInt ∧ y.toInt ≤ r.2
  omega⟩
theorem sj_gt : aSc (fun x y => decide (y < x)) d_gt d_le := fun q r x y h0 h1 h2 h3 => ⟨fun h => by
  have := of_decide_eq_true h
  rw [Int32.lt_iff_toInt_lt] at this
  show (max q.1 (r.1 + 1) ≤ x.toInt ∧ x.toInt ≤ q.2) ∧ r.1 ≤ y.toInt ∧ y.toInt ≤ min r.2 (q.2 - 1)
  omega, fun h => by
  have := of_decide_eq_false h
  rw [Int32.lt_iff_toInt_lt] at this
  show (q.1 ≤ x.toInt ∧ x.toInt ≤ min q.2 r.2) ∧ max r.1 q.1 ≤ y.toInt ∧ y.toInt ≤ r.2
  omega⟩
theorem sj_le : aSc (fun x y => decide (x ≤ y)) d_le d_gt := fun q r x y h0 h1 h2 h3 => ⟨fun h => by
  have := of_decide_eq_true h
  rw [Int32.le_iff_toInt_le] at this
  show (q.1 ≤ x.toInt ∧ x.toInt ≤ min q.2 r.2) ∧ max r.1 q.1 ≤ y.toInt ∧ y.toInt ≤ r.2
  omega, fun h => by
  have := of_decide_eq_false h
  rw [Int32.le_iff_toInt_le] at this
  show (max q.1 (r.1 + 1) ≤ x.toInt ∧ x.toInt ≤ q.2) ∧ r.1 ≤ y.toInt ∧ y.toInt ≤ min r.2 (q.2 - 1)
  omega⟩
