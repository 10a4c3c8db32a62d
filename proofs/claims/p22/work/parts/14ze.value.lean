/-! what a rule comes to: the class -/
section RKR
variable {Z : zPg} {t : zT} {d pc : Nat} {lo : List (Nat × Value)} {r : List Value} {mem : zM} {P : Option Value → zM → Prop} {x y : Int32} {a b : Int}
theorem z_ne1 (hy : y.toInt = b) (hb : ¬ b = 0) : decide (y = 0) = false := decide_eq_false (fun q => by
  rw [q] at hy
  have : (0 : Int32).toInt = 0 := rfl
  omega)
theorem i32_dv (hx : x.toInt = a) (hy : y.toInt = b) (ha : -1000000 ≤ a ∧ a ≤ 1000000) : (x / y).toInt = a.tdiv b := by
  rw [Int32.toInt_div_of_ne_left x y (fun q => by
    rw [q] at hx
    have : Int32.minValue.toInt = -2147483648 := rfl
    omega), hx, hy]
theorem wN_dvz (hk : zlk t pc = some (pc, zst 1 (zdi (fun x y => x / y)))) (hx : x.toInt = a) (hy : y.toInt = b) (hb : ¬ b = 0) (ha : -1000000 ≤ a ∧ a ≤ 1000000) (h : ∀ z : Int32, z.toInt = a.tdiv b → yR Z t d (pc + 1, lo, .int z :: r, mem) P) : yR Z t d (pc, lo, .int y :: .int x :: r, mem) P := by
  have e := z_ne1 hy hb
  exact yR_next hk (fun Y rec κ ρ => by simp only [zst, zdi, e]) (h (x / y) (i32_dv hx hy ha))
theorem wN_rmz (hk : zlk t pc = some (pc, zst 1 (zdi (fun x y => x - x / y * y)))) (hx : x.toInt = a) (hy : y.toInt = b) (hb : ¬ b = 0) (ha : -1000000 ≤ a ∧ a ≤ 1000000) (h : ∀ z : Int32, z.toInt = a.tmod b → yR Z t d (pc + 1, lo, .int z :: r, mem) P) : yR Z t d (pc, lo, .int y :: .int x :: r, mem) P := by
  have e := z_ne1 hy hb
  refine yR_next hk (fun Y rec κ ρ => by simp only [zst, zdi, e]) (h (x - x / y * y) ?_)
  have k := Int.tmod_add_tdiv_mul a b
  have n : (a.tmod b).natAbs = a.natAbs % b.natAbs := Int.natAbs_tmod a b
  have n2 := Nat.mod_le a.natAbs b.natAbs
  have p := ti_mul (i32_dv hx hy ha) hy (by omega) (by omega)
  rw [ti_sub hx p (by omega) (by omega)]
  omega
theorem wN_mi (hk : zlk t pc = some (pc, zmmin)) (hx : x.toInt = a) (hy : y.toInt = b) (hw : Nat.ble (zwd r) 8 = true) (h : ∀ z : Int32, z.toInt = min a b → yR Z t d (pc + 3, lo, .int z :: r, mem) P) : yR Z t d (pc, lo, .int y :: .int x :: r, mem) P := by
  refine yR_next hk (fun Y rec κ ρ => by simp only [zmmin, hw]) (h (if y < x then y else x) ?_)
  have e := i32_lt (x := y) (y := x)
  by_cases v : y < x
  · rw [if_pos v]
    have := e.1 v
    omega
  · rw [if_neg v]
    have : ¬ y.toInt < x.toInt := fun q => v (e.2 q)
    omega
theorem wN_mx (hk : zlk t pc = some (pc, zmmax)) (hx : x.toInt = a) (hy : y.toInt = b) (hw : Nat.ble (zwd r) 8 = true) (h : ∀ z : Int32, z.toInt = max a b → yR Z t d (pc + 3, lo, .int z :: r, mem) P) : yR Z t d (pc, lo, .int y :: .int x :: r, mem) P := by
  refine yR_next hk (fun Y rec κ ρ => by simp only [zmmax, hw]) (h (if x < y then y else x) ?_)
  have e := i32_lt (x := x) (y := y)
  by_cases v : x < y
  · rw [if_pos v]
    have := e.1 v
    omega
  · rw [if_neg v]
    have : ¬ x.toInt < y.toInt := fun q => v (e.2 q)
    omega
theorem xor_neg {x y : Int32} : (x ^^^ y).toInt < 0 ↔ ¬ (x.toInt < 0 ↔ y.toInt < 0) := by
  have m : (x ^^^ y).toBitVec.msb = (x.toBitVec.msb ^^ y.toBitVec.msb) := BitVec.msb_xor
  rw [BitVec.msb_eq_toInt, BitVec.msb_eq_toInt, BitVec.msb_eq_toInt] at m
  have m : decide ((x ^^^ y).toInt < 0) = (decide (x.toInt < 0) ^^ decide (y.toInt < 0)) := m
  by_cases p : x.toInt < 0 <;> by_cases q : y.toInt < 0
  · rw [decide_eq_true p, decide_eq_true q] at m
    have := of_decide_eq_false m
    omega
  · rw [decide_eq_true p, decide_eq_false q] at m
    have := of_decide_eq_true m
    omega
  · rw [decide_eq_false p, decide_eq_true q] at m
    have := of_decide_eq_true m
    omega
  · rw [decide_eq_false p, decide_eq_false q] at m
    have := of_decide_eq_false m
    omega
theorem j64_m {x y : Int32} (hx : -1000000 ≤ x.toInt ∧ x.toInt ≤ 1000000) (hy : -1000000 ≤ y.toInt ∧ y.toInt ≤ 1000000) : (x.toInt64 * y.toInt64).toInt = x.toInt * y.toInt := by
  have k := (show (x.toInt * y.toInt).natAbs ≤ 1000000 * 1000000 from by
    rw [Int.natAbs_mul]
    exact Nat.mul_le_mul (by omega) (by omega))
  rw [Int64.toInt_mul, Int32.toInt_toInt64, Int32.toInt_toInt64]
  exact Int.bmod_eq_of_le (by omega) (by omega)
theorem j64_n {z : Int64} (h0 : -1000000 ≤ z.toInt) (h1 : z.toInt ≤ 1000000) : z.toInt32.toInt = z.toInt := by
  rw [Int64.toInt_toInt32]
  exact Int.bmod_eq_of_le (by omega) (by omega)
end RKR
section RKC
variable {d : Nat} {mem : zM}
def rkO : List (Bool × aTy) := match aat aT0 182 with
  | some (.inr o) => o.2
  | _ => []
set_option maxRecDepth 100000 in
theorem rkO_e : aat aT0 182 = some (.inr (6, rkO)) := rfl
set_option maxRecDepth 100000 in
theorem rkO_0 : rkO[0]? = some (false, .inr (some [183])) := rfl
set_option maxRecDepth 100000 in
theorem rkO_1 : rkO[1]? = some (false, .inl (-2147483648, 2147483647)) := rfl
set_option maxRecDepth 100000 in
theorem rkO_2 : rkO[2]? = some (false, .inl (-2147483648, 2147483647)) := rfl
set_option maxRecDepth 100000 in
theorem rkO_3 : rkO[3]? = some (false, .inl (-2147483648, 2147483647)) := rfl
set_option maxRecDepth 100000 in
theorem rkO_4 : rkO[4]? = some (false, .inl (-2147483648, 2147483647)) := rfl
set_option maxRecDepth 100000 in
theorem rkO_5 : rkO[5]? = some (false, .inl (-2147483648, 2147483647)) := rfl
set_option maxRecDepth 100000 in
theorem rkO_6 : rkO[6]? = some (false, .inl (-2147483648, 2147483647)) := rfl
set_option maxRecDepth 100000 in
theorem aR_183 : aat aT0 183 = some (.inl (false, 0, 128, .inl (-2147483648, 2147483647))) := rfl
theorem gR_183 {m : zM} (hm : aTm aT0 m) {i : Int} (h0 : 0 ≤ i) (h1 : i < 128) : -2147483648 ≤ gn (ga m 183) i ∧ gn (ga m 183) i ≤ 2147483647 := gn_rg aR_183 hm h0 h1
theorem gl_183 {m : zM} (hm : aTm aT0 m) : (ga m 183).length = 128 := (ga_ty aR_183 hm).2.1
set_option maxRecDepth 100000 in
theorem w_jo {d : Nat} {mem : zM} {P : Option Value → zM → Prop} {w a b : Int32} (hm : aTm aT0 mem) (ha : -1000000 ≤ a.toInt ∧ a.toInt ≤ 1000000) (hb : -1000000 ≤ b.toInt ∧ b.toInt ≤ 1000000) (h1 : (w).toInt = 21 → ∀ (x11 : Int32), x11.toInt = (min (a).toInt (b).toInt) → aTm aT0 mem → P (some (.int x11)) mem) (h2 : ¬ (w).toInt = 21 → (w).toInt = 24 → ∀ (x13 : Int32), x13.toInt = (min (a).toInt (b).toInt) → aTm aT0 mem → P (some (.int x13)) mem) (h3 : ¬ (w).toInt = 21 → ¬ (w).toInt = 24 → (w).toInt = 37 → ¬ (b).toInt = 0 → ∀ (x16 : Int32), x16.toInt = (Int.tmod (a).toInt (b).toInt) → 0 ≤ (a ^^^ b).toInt → aTm aT0 mem → P (some (.int x16)) mem) (h4 : ¬ (w).toInt = 21 → ¬ (w).toInt = 24 → (w).toInt = 37 → ¬ (b).toInt = 0 → ∀ (x16 : Int32), x16.toInt = (Int.tmod (a).toInt (b).toInt) → (a ^^^ b).toInt < 0 → (Int.tmod (a).toInt (b).toInt) = 0 → aTm aT0 mem → P (some (.int x16)) mem) (s1 : ¬ (w).toInt = 21 → ¬ (w).toInt = 24 → (w).toInt = 37 → ¬ (b).toInt = 0 → ∀ (x16 : Int32), x16.toInt = (Int.tmod (a).toInt (b).toInt) → (a ^^^ b).toInt < 0 → ¬ (Int.tmod (a).toInt (b).toInt) = 0 → (-2147483648 : Int) ≤ ((Int.tmod (a).toInt (b).toInt) + (b).toInt) ∧ ((Int.tmod (a).toInt (b).toInt) + (b).toInt) ≤ 2147483647) (h5 : ¬ (w).toInt = 21 → ¬ (w).toInt = 24 → (w).toInt = 37 → ¬ (b).toInt = 0 → ∀ (x16 : Int32), x16.toInt = (Int.tmod (a).toInt (b).toInt) → (a ^^^ b).toInt < 0 → ¬ (Int.tmod (a).toInt (b).toInt) = 0 → ∀ (x20 : Int32), x20.toInt = ((Int.tmod (a).toInt (b).toInt) + (b).toInt) → aTm aT0 mem → P (some (.int x20)) mem) (h6 : ¬ (w).toInt = 21 → ¬ (w).toInt = 24 → (w).toInt = 37 → (b).toInt = 0 → aTm aT0 mem → P (some (.int 0)) mem) (h7 : ¬ (w).toInt = 21 → ¬ (w).toInt = 24 → ¬ (w).toInt = 37 → (w).toInt = 42 → ((a : Int32).toInt64 * (b : Int32).toInt64).toInt ≤ (1000000 : Int64).toInt → ((-1000000) : Int64).toInt ≤ ((a : Int32).toInt64 * (b : Int32).toInt64).toInt → aTm aT0 mem → P (some (.int (((a : Int32).toInt64 * (b : Int32).toInt64)).toInt32)) mem) (h8 : ¬ (w).toInt = 21 → ¬ (w).toInt = 24 → ¬ (w).toInt = 37 → (w).toInt = 42 → ((a : Int32).toInt64 * (b : Int32).toInt64).toInt ≤ (1000000 : Int64).toInt → ((a : Int32).toInt64 * (b : Int32).toInt64).toInt < ((-1000000) : Int64).toInt → aTm aT0 mem → P (some (.int (-1000000))) mem) (h9 : ¬ (w).toInt = 21 → ¬ (w).toInt = 24 → ¬ (w).toInt = 37 → (w).toInt = 42 → (1000000 : Int64).toInt < ((a : Int32).toInt64 * (b : Int32).toInt64).toInt → aTm aT0 mem → P (some (.int 1000000)) mem) (h10 : ¬ (w).toInt = 21 → ¬ (w).toInt = 24 → ¬ (w).toInt = 37 → ¬ (w).toInt = 42 → (w).toInt = 43 → ∀ (x24 : Int32), x24.toInt = ((a).toInt + (b).toInt) → (x24 : Int32).toInt64.toInt ≤ (1000000 : Int64).toInt → ((-1000000) : Int64).toInt ≤ (x24 : Int32).toInt64.toInt → aTm aT0 mem → P (some (.int ((x24 : Int32).toInt64).toInt32)) mem) (h11 : ¬ (w).toInt = 21 → ¬ (w).toInt = 24 → ¬ (w).toInt = 37 → ¬ (w).toInt = 42 → (w).toInt = 43 → ∀ (x24 : Int32), x24.toInt = ((a).toInt + (b).toInt) → (x24 : Int32).toInt64.toInt ≤ (1000000 : Int64).toInt → (x24 : Int32).toInt64.toInt < ((-1000000) : Int64).toInt → aTm aT0 mem → P (some (.int (-1000000))) mem) (h12 : ¬ (w).toInt = 21 → ¬ (w).toInt = 24 → ¬ (w).toInt = 37 → ¬ (w).toInt = 42 → (w).toInt = 43 → ∀ (x24 : Int32), x24.toInt = ((a).toInt + (b).toInt) → (1000000 : Int64).toInt < (x24 : Int32).toInt64.toInt → aTm aT0 mem → P (some (.int 1000000)) mem) (h13 : ¬ (w).toInt = 21 → ¬ (w).toInt = 24 → ¬ (w).toInt = 37 → ¬ (w).toInt = 42 → ¬ (w).toInt = 43 → (w).toInt = 45 → ∀ (x28 : Int32), x28.toInt = ((a).toInt - (b).toInt) → (x28 : Int32).toInt64.toInt ≤ (1000000 : Int64).toInt → ((-1000000) : Int64).toInt ≤ (x28 : Int32).toInt64.toInt → aTm aT0 mem → P (some (.int ((x28 : Int32).toInt64).toInt32)) mem) (h14 : ¬ (w).toInt = 21 → ¬ (w).toInt = 24 → ¬ (w).toInt = 37 → ¬ (w).toInt = 42 → ¬ (w).toInt = 43 → (w).toInt = 45 → ∀ (x28 : Int32), x28.toInt = ((a).toInt - (b).toInt) → (x28 : Int32).toInt64.toInt ≤ (1000000 : Int64).toInt → (x28 : Int32).toInt64.toInt < ((-1000000) : Int64).toInt → aTm aT0 mem → P (some (.int (-1000000))) mem) (h15 : ¬ (w).toInt = 21 → ¬ (w).toInt = 24 → ¬ (w).toInt = 37 → ¬ (w).toInt = 42 → ¬ (w).toInt = 43 → (w).toInt = 45 → ∀ (x28 : Int32), x28.toInt = ((a).toInt - (b).toInt) → (1000000 : Int64).toInt < (x28 : Int32).toInt64.toInt → aTm aT0 mem → P (some (.int 1000000)) mem) (h16 : ¬ (w).toInt = 21 → ¬ (w).toInt = 24 → ¬ (w).toInt = 37 → ¬ (w).toInt = 42 → ¬ (w).toInt = 43 → ¬ (w).toInt = 45 → (w).toInt = 47 → ¬ (b).toInt = 0 → ∀ (x33 : Int32), x33.toInt = (Int.tdiv (a).toInt (b).toInt) → 0 ≤ (a ^^^ b).toInt → aTm aT0 mem → P (some (.int x33)) mem) (s2 : ¬ (w).toInt = 21 → ¬ (w).toInt = 24 → ¬ (w).toInt = 37 → ¬ (w).toInt = 42 → ¬ (w).toInt = 43 → ¬ (w).toInt = 45 → (w).toInt = 47 → ¬ (b).toInt = 0 → ∀ (x33 : Int32), x33.toInt = (Int.tdiv (a).toInt (b).toInt) → (a ^^^ b).toInt < 0 → (-2147483648 : Int) ≤ ((Int.tdiv (a).toInt (b).toInt) * (b).toInt) ∧ ((Int.tdiv (a).toInt (b).toInt) * (b).toInt) ≤ 2147483647) (h17 : ¬ (w).toInt = 21 → ¬ (w).toInt = 24 → ¬ (w).toInt = 37 → ¬ (w).toInt = 42 → ¬ (w).toInt = 43 → ¬ (w).toInt = 45 → (w).toInt = 47 → ¬ (b).toInt = 0 → ∀ (x33 : Int32), x33.toInt = (Int.tdiv (a).toInt (b).toInt) → (a ^^^ b).toInt < 0 → ∀ (x36 : Int32), x36.toInt = ((Int.tdiv (a).toInt (b).toInt) * (b).toInt) → ((Int.tdiv (a).toInt (b).toInt) * (b).toInt) = (a).toInt → aTm aT0 mem → P (some (.int x33)) mem) (s3 : ¬ (w).toInt = 21 → ¬ (w).toInt = 24 → ¬ (w).toInt = 37 → ¬ (w).toInt = 42 → ¬ (w).toInt = 43 → ¬ (w).toInt = 45 → (w).toInt = 47 → ¬ (b).toInt = 0 → ∀ (x33 : Int32), x33.toInt = (Int.tdiv (a).toInt (b).toInt) → (a ^^^ b).toInt < 0 → ∀ (x36 : Int32), x36.toInt = ((Int.tdiv (a).toInt (b).toInt) * (b).toInt) → ¬ ((Int.tdiv (a).toInt (b).toInt) * (b).toInt) = (a).toInt → (-2147483648 : Int) ≤ ((Int.tdiv (a).toInt (b).toInt) - 1) ∧ ((Int.tdiv (a).toInt (b).toInt) - 1) ≤ 2147483647) (h18 : ¬ (w).toInt = 21 → ¬ (w).toInt = 24 → ¬ (w).toInt = 37 → ¬ (w).toInt = 42 → ¬ (w).toInt = 43 → ¬ (w).toInt = 45 → (w).toInt = 47 → ¬ (b).toInt = 0 → ∀ (x33 : Int32), x33.toInt = (Int.tdiv (a).toInt (b).toInt) → (a ^^^ b).toInt < 0 → ∀ (x36 : Int32), x36.toInt = ((Int.tdiv (a).toInt (b).toInt) * (b).toInt) → ¬ ((Int.tdiv (a).toInt (b).toInt) * (b).toInt) = (a).toInt → ∀ (x39 : Int32), x39.toInt = ((Int.tdiv (a).toInt (b).toInt) - 1) → aTm aT0 mem → P (some (.int x39)) mem) (h19 : ¬ (w).toInt = 21 → ¬ (w).toInt = 24 → ¬ (w).toInt = 37 → ¬ (w).toInt = 42 → ¬ (w).toInt = 43 → ¬ (w).toInt = 45 → (w).toInt = 47 → (b).toInt = 0 → aTm aT0 mem → P (some (.int 0)) mem) (h20 : ¬ (w).toInt = 21 → ¬ (w).toInt = 24 → ¬ (w).toInt = 37 → ¬ (w).toInt = 42 → ¬ (w).toInt = 43 → ¬ (w).toInt = 45 → ¬ (w).toInt = 47 → (w).toInt = 60 → (b).toInt ≤ (a).toInt → aTm aT0 mem → P (some (.int 0)) mem) (h21 : ¬ (w).toInt = 21 → ¬ (w).toInt = 24 → ¬ (w).toInt = 37 → ¬ (w).toInt = 42 → ¬ (w).toInt = 43 → ¬ (w).toInt = 45 → ¬ (w).toInt = 47 → (w).toInt = 60 → (a).toInt < (b).toInt → aTm aT0 mem → P (some (.int 1)) mem) (h22 : ¬ (w).toInt = 21 → ¬ (w).toInt = 24 → ¬ (w).toInt = 37 → ¬ (w).toInt = 42 → ¬ (w).toInt = 43 → ¬ (w).toInt = 45 → ¬ (w).toInt = 47 → ¬ (w).toInt = 60 → (w).toInt = 61 → ¬ (a).toInt = (b).toInt → aTm aT0 mem → P (some (.int 0)) mem) (h23 : ¬ (w).toInt = 21 → ¬ (w).toInt = 24 → ¬ (w).toInt = 37 → ¬ (w).toInt = 42 → ¬ (w).toInt = 43 → ¬ (w).toInt = 45 → ¬ (w).toInt = 47 → ¬ (w).toInt = 60 → (w).toInt = 61 → (a).toInt = (b).toInt → aTm aT0 mem → P (some (.int 1)) mem) (h24 : ¬ (w).toInt = 21 → ¬ (w).toInt = 24 → ¬ (w).toInt = 37 → ¬ (w).toInt = 42 → ¬ (w).toInt = 43 → ¬ (w).toInt = 45 → ¬ (w).toInt = 47 → ¬ (w).toInt = 60 → ¬ (w).toInt = 61 → (w).toInt = 62 → (a).toInt ≤ (b).toInt → aTm aT0 mem → P (some (.int 0)) mem) (h25 : ¬ (w).toInt = 21 → ¬ (w).toInt = 24 → ¬ (w).toInt = 37 → ¬ (w).toInt = 42 → ¬ (w).toInt = 43 → ¬ (w).toInt = 45 → ¬ (w).toInt = 47 → ¬ (w).toInt = 60 → ¬ (w).toInt = 61 → (w).toInt = 62 → (b).toInt < (a).toInt → aTm aT0 mem → P (some (.int 1)) mem) (h26 : ¬ (w).toInt = 21 → ¬ (w).toInt = 24 → ¬ (w).toInt = 37 → ¬ (w).toInt = 42 → ¬ (w).toInt = 43 → ¬ (w).toInt = 45 → ¬ (w).toInt = 47 → ¬ (w).toInt = 60 → ¬ (w).toInt = 61 → ¬ (w).toInt = 62 → ∀ (x44 : Int32), x44.toInt = (max (a).toInt (b).toInt) → aTm aT0 mem → P (some (.int x44)) mem) : yR zpg tX6_joined (d + 2) (0, [(0, .int w), (1, .int a), (2, .int b)], [], mem) P := by
  refine yR_m 1 (fun _ _ _ _ => rfl) ?_
  refine wR_ts rfl rfl ⟨fun q1 => ?_, fun q1 => ⟨fun q2 => ?_, fun q2 => ⟨fun q3 => ?_, fun q3 => ⟨fun q4 => ?_, fun q4 => ⟨fun q5 => ?_, fun q5 => ⟨fun q6 => ?_, fun q6 => ⟨fun q7 => ?_, fun q7 => ⟨fun q8 => ?_, fun q8 => ⟨fun q9 => ?_, fun q9 => ⟨fun q10 => ?_, fun q10 => ?_⟩⟩⟩⟩⟩⟩⟩⟩⟩⟩
  ·
    have q1 : (w).toInt = 21 := q1
    refine yR_m 2 (fun _ _ _ _ => rfl) ?_
    refine wN_mi (a := (a).toInt) (b := (b).toInt) rfl rfl rfl rfl (fun x11 e12 => ?_)
    exact yR_ri rfl (h1 q1 x11 e12 hm)
  ·
    have q1 : ¬ (w).toInt = 21 := q1
    have q2 : (w).toInt = 24 := q2
    refine yR_m 2 (fun _ _ _ _ => rfl) ?_
    refine wN_mi (a := (a).toInt) (b := (b).toInt) rfl rfl rfl rfl (fun x13 e14 => ?_)
    exact yR_ri rfl (h2 q1 q2 x13 e14 hm)
  ·
    have q1 : ¬ (w).toInt = 21 := q1
    have q2 : ¬ (w).toInt = 24 := q2
    have q3 : (w).toInt = 37 := q3
    refine yR_m 1 (fun _ _ _ _ => rfl) ?_
    refine wR_if_ne rfl (a := (b).toInt) rfl (fun q15 => ?_) (fun q15 => ?_)
    ·
      refine yR_m 2 (fun _ _ _ _ => rfl) ?_
      refine wR_is rfl rfl rfl rfl rfl rfl ?_
      show yR zpg tJ9_floorMod_7cf53 (d + 1) (0, [(0, .int a), (1, .int b)], [], mem) _
      refine yR_m 2 (fun _ _ _ _ => rfl) ?_
      refine wN_rmz (a := (a).toInt) (b := (b).toInt) rfl rfl rfl (by omega) (by omega) (fun x16 e17 => ?_)
      refine yR_m 4 (fun _ _ _ _ => rfl) ?_
      refine wR_if_ge rfl (a := (a ^^^ b).toInt) rfl (fun q18 => ?_) (fun q18 => ?_)
      ·
        refine yR_m 1 (fun _ _ _ _ => rfl) ?_
        refine yR_ri rfl ?_
        show yR zpg tX6_joined (d + 2) (144, [(0, .int w), (1, .int a), (2, .int b)], [.int x16], mem) _
        exact yR_ri rfl (h3 q1 q2 q3 q15 x16 e17 q18 hm)
      ·
        refine yR_m 1 (fun _ _ _ _ => rfl) ?_
        refine wR_if_eq rfl (a := (Int.tmod (a).toInt (b).toInt)) e17 (fun q19 => ?_) (fun q19 => ?_)
        ·
          refine yR_m 1 (fun _ _ _ _ => rfl) ?_
          refine yR_ri rfl ?_
          show yR zpg tX6_joined (d + 2) (144, [(0, .int w), (1, .int a), (2, .int b)], [.int x16], mem) _
          exact yR_ri rfl (h4 q1 q2 q3 q15 x16 e17 q18 q19 hm)
        ·
          refine yR_m 2 (fun _ _ _ _ => rfl) ?_
          refine wN_add (a := (Int.tmod (a).toInt (b).toInt)) (b := (b).toInt) rfl e17 rfl (s1 q1 q2 q3 q15 x16 e17 q18 q19) (fun x20 e21 => ?_)
          refine yR_ri rfl ?_
          show yR zpg tX6_joined (d + 2) (144, [(0, .int w), (1, .int a), (2, .int b)], [.int x20], mem) _
          exact yR_ri rfl (h5 q1 q2 q3 q15 x16 e17 q18 q19 x20 e21 hm)
    ·
      refine yR_m 2 (fun _ _ _ _ => rfl) ?_
      exact yR_ri rfl (h6 q1 q2 q3 q15 hm)
  ·
    have q1 : ¬ (w).toInt = 21 := q1
    have q2 : ¬ (w).toInt = 24 := q2
    have q3 : ¬ (w).toInt = 37 := q3
    have q4 : (w).toInt = 42 := q4
    refine yR_m 5 (fun _ _ _ _ => rfl) ?_
    refine wR_is rfl rfl rfl rfl rfl rfl ?_
    show yR zpg tX6_bounded (d + 1) (0, [(0, .long ((a : Int32).toInt64 * (b : Int32).toInt64))], [], mem) _
    refine yR_m 3 (fun _ _ _ _ => rfl) ?_
    refine wR_lf_le rfl (fun q22 => ?_) (fun q22 => ?_)
    ·
      refine yR_m 3 (fun _ _ _ _ => rfl) ?_
      refine wR_lf_ge rfl (fun q23 => ?_) (fun q23 => ?_)
      ·
        refine yR_m 2 (fun _ _ _ _ => rfl) ?_
        refine yR_ri rfl ?_
        show yR zpg tX6_joined (d + 2) (116, [(0, .int w), (1, .int a), (2, .int b)], [.int (((a : Int32).toInt64 * (b : Int32).toInt64)).toInt32], mem) _
        exact yR_ri rfl (h7 q1 q2 q3 q4 q22 q23 hm)
      ·
        refine yR_m 2 (fun _ _ _ _ => rfl) ?_
        refine yR_ri rfl ?_
        show yR zpg tX6_joined (d + 2) (116, [(0, .int w), (1, .int a), (2, .int b)], [.int (-1000000)], mem) _
        exact yR_ri rfl (h8 q1 q2 q3 q4 q22 q23 hm)
    ·
      refine yR_m 1 (fun _ _ _ _ => rfl) ?_
      refine yR_ri rfl ?_
      show yR zpg tX6_joined (d + 2) (116, [(0, .int w), (1, .int a), (2, .int b)], [.int 1000000], mem) _
      exact yR_ri rfl (h9 q1 q2 q3 q4 q22 hm)
  ·
    have q1 : ¬ (w).toInt = 21 := q1
    have q2 : ¬ (w).toInt = 24 := q2
    have q3 : ¬ (w).toInt = 37 := q3
    have q4 : ¬ (w).toInt = 42 := q4
    have q5 : (w).toInt = 43 := q5
    refine yR_m 2 (fun _ _ _ _ => rfl) ?_
    refine wN_add (a := (a).toInt) (b := (b).toInt) rfl rfl rfl (by omega) (fun x24 e25 => ?_)
    refine yR_m 1 (fun _ _ _ _ => rfl) ?_
    refine wR_is rfl rfl rfl rfl rfl rfl ?_
    show yR zpg tX6_bounded (d + 1) (0, [(0, .long (x24 : Int32).toInt64)], [], mem) _
    refine yR_m 3 (fun _ _ _ _ => rfl) ?_
    refine wR_lf_le rfl (fun q26 => ?_) (fun q26 => ?_)
    ·
      refine yR_m 3 (fun _ _ _ _ => rfl) ?_
      refine wR_lf_ge rfl (fun q27 => ?_) (fun q27 => ?_)
      ·
        refine yR_m 2 (fun _ _ _ _ => rfl) ?_
        refine yR_ri rfl ?_
        show yR zpg tX6_joined (d + 2) (99, [(0, .int w), (1, .int a), (2, .int b)], [.int ((x24 : Int32).toInt64).toInt32], mem) _
        exact yR_ri rfl (h10 q1 q2 q3 q4 q5 x24 e25 q26 q27 hm)
      ·
        refine yR_m 2 (fun _ _ _ _ => rfl) ?_
        refine yR_ri rfl ?_
        show yR zpg tX6_joined (d + 2) (99, [(0, .int w), (1, .int a), (2, .int b)], [.int (-1000000)], mem) _
        exact yR_ri rfl (h11 q1 q2 q3 q4 q5 x24 e25 q26 q27 hm)
    ·
      refine yR_m 1 (fun _ _ _ _ => rfl) ?_
      refine yR_ri rfl ?_
      show yR zpg tX6_joined (d + 2) (99, [(0, .int w), (1, .int a), (2, .int b)], [.int 1000000], mem) _
      exact yR_ri rfl (h12 q1 q2 q3 q4 q5 x24 e25 q26 hm)
  ·
    have q1 : ¬ (w).toInt = 21 := q1
    have q2 : ¬ (w).toInt = 24 := q2
    have q3 : ¬ (w).toInt = 37 := q3
    have q4 : ¬ (w).toInt = 42 := q4
    have q5 : ¬ (w).toInt = 43 := q5
    have q6 : (w).toInt = 45 := q6
    refine yR_m 2 (fun _ _ _ _ => rfl) ?_
    refine wN_sub (a := (a).toInt) (b := (b).toInt) rfl rfl rfl (by omega) (fun x28 e29 => ?_)
    refine yR_m 1 (fun _ _ _ _ => rfl) ?_
    refine wR_is rfl rfl rfl rfl rfl rfl ?_
    show yR zpg tX6_bounded (d + 1) (0, [(0, .long (x28 : Int32).toInt64)], [], mem) _
    refine yR_m 3 (fun _ _ _ _ => rfl) ?_
    refine wR_lf_le rfl (fun q30 => ?_) (fun q30 => ?_)
    ·
      refine yR_m 3 (fun _ _ _ _ => rfl) ?_
      refine wR_lf_ge rfl (fun q31 => ?_) (fun q31 => ?_)
      ·
        refine yR_m 2 (fun _ _ _ _ => rfl) ?_
        refine yR_ri rfl ?_
        show yR zpg tX6_joined (d + 2) (107, [(0, .int w), (1, .int a), (2, .int b)], [.int ((x28 : Int32).toInt64).toInt32], mem) _
        exact yR_ri rfl (h13 q1 q2 q3 q4 q5 q6 x28 e29 q30 q31 hm)
      ·
        refine yR_m 2 (fun _ _ _ _ => rfl) ?_
        refine yR_ri rfl ?_
        show yR zpg tX6_joined (d + 2) (107, [(0, .int w), (1, .int a), (2, .int b)], [.int (-1000000)], mem) _
        exact yR_ri rfl (h14 q1 q2 q3 q4 q5 q6 x28 e29 q30 q31 hm)
    ·
      refine yR_m 1 (fun _ _ _ _ => rfl) ?_
      refine yR_ri rfl ?_
      show yR zpg tX6_joined (d + 2) (107, [(0, .int w), (1, .int a), (2, .int b)], [.int 1000000], mem) _
      exact yR_ri rfl (h15 q1 q2 q3 q4 q5 q6 x28 e29 q30 hm)
  ·
    have q1 : ¬ (w).toInt = 21 := q1
    have q2 : ¬ (w).toInt = 24 := q2
    have q3 : ¬ (w).toInt = 37 := q3
    have q4 : ¬ (w).toInt = 42 := q4
    have q5 : ¬ (w).toInt = 43 := q5
    have q6 : ¬ (w).toInt = 45 := q6
    have q7 : (w).toInt = 47 := q7
    refine yR_m 1 (fun _ _ _ _ => rfl) ?_
    refine wR_if_ne rfl (a := (b).toInt) rfl (fun q32 => ?_) (fun q32 => ?_)
    ·
      refine yR_m 2 (fun _ _ _ _ => rfl) ?_
      refine wR_is rfl rfl rfl rfl rfl rfl ?_
      show yR zpg tJ9_floorDiv_7cf53 (d + 1) (0, [(0, .int a), (1, .int b)], [], mem) _
      refine yR_m 2 (fun _ _ _ _ => rfl) ?_
      refine wN_dvz (a := (a).toInt) (b := (b).toInt) rfl rfl rfl (by omega) (by omega) (fun x33 e34 => ?_)
      refine yR_m 4 (fun _ _ _ _ => rfl) ?_
      refine wR_if_ge rfl (a := (a ^^^ b).toInt) rfl (fun q35 => ?_) (fun q35 => ?_)
      ·
        refine yR_m 1 (fun _ _ _ _ => rfl) ?_
        refine yR_ri rfl ?_
        show yR zpg tX6_joined (d + 2) (130, [(0, .int w), (1, .int a), (2, .int b)], [.int x33], mem) _
        exact yR_ri rfl (h16 q1 q2 q3 q4 q5 q6 q7 q32 x33 e34 q35 hm)
      ·
        refine yR_m 2 (fun _ _ _ _ => rfl) ?_
        refine wN_mul (a := (Int.tdiv (a).toInt (b).toInt)) (b := (b).toInt) rfl e34 rfl (s2 q1 q2 q3 q4 q5 q6 q7 q32 x33 e34 q35) (fun x36 e37 => ?_)
        refine yR_m 1 (fun _ _ _ _ => rfl) ?_
        refine wR_ic_eq rfl (a := ((Int.tdiv (a).toInt (b).toInt) * (b).toInt)) (c := (a).toInt) e37 rfl (fun q38 => ?_) (fun q38 => ?_)
        ·
          refine yR_m 1 (fun _ _ _ _ => rfl) ?_
          refine yR_ri rfl ?_
          show yR zpg tX6_joined (d + 2) (130, [(0, .int w), (1, .int a), (2, .int b)], [.int x33], mem) _
          exact yR_ri rfl (h17 q1 q2 q3 q4 q5 q6 q7 q32 x33 e34 q35 x36 e37 q38 hm)
        ·
          refine yR_m 2 (fun _ _ _ _ => rfl) ?_
          refine wN_sub (a := (Int.tdiv (a).toInt (b).toInt)) (b := 1) rfl e34 rfl (s3 q1 q2 q3 q4 q5 q6 q7 q32 x33 e34 q35 x36 e37 q38) (fun x39 e40 => ?_)
          refine yR_ri rfl ?_
          show yR zpg tX6_joined (d + 2) (130, [(0, .int w), (1, .int a), (2, .int b)], [.int x39], mem) _
          exact yR_ri rfl (h18 q1 q2 q3 q4 q5 q6 q7 q32 x33 e34 q35 x36 e37 q38 x39 e40 hm)
    ·
      refine yR_m 2 (fun _ _ _ _ => rfl) ?_
      exact yR_ri rfl (h19 q1 q2 q3 q4 q5 q6 q7 q32 hm)
  ·
    have q1 : ¬ (w).toInt = 21 := q1
    have q2 : ¬ (w).toInt = 24 := q2
    have q3 : ¬ (w).toInt = 37 := q3
    have q4 : ¬ (w).toInt = 42 := q4
    have q5 : ¬ (w).toInt = 43 := q5
    have q6 : ¬ (w).toInt = 45 := q6
    have q7 : ¬ (w).toInt = 47 := q7
    have q8 : (w).toInt = 60 := q8
    refine yR_m 2 (fun _ _ _ _ => rfl) ?_
    refine wR_ic_ge rfl (a := (a).toInt) (c := (b).toInt) rfl rfl (fun q41 => ?_) (fun q41 => ?_)
    ·
      refine yR_m 1 (fun _ _ _ _ => rfl) ?_
      exact yR_ri rfl (h20 q1 q2 q3 q4 q5 q6 q7 q8 q41 hm)
    ·
      refine yR_m 2 (fun _ _ _ _ => rfl) ?_
      exact yR_ri rfl (h21 q1 q2 q3 q4 q5 q6 q7 q8 q41 hm)
  ·
    have q1 : ¬ (w).toInt = 21 := q1
    have q2 : ¬ (w).toInt = 24 := q2
    have q3 : ¬ (w).toInt = 37 := q3
    have q4 : ¬ (w).toInt = 42 := q4
    have q5 : ¬ (w).toInt = 43 := q5
    have q6 : ¬ (w).toInt = 45 := q6
    have q7 : ¬ (w).toInt = 47 := q7
    have q8 : ¬ (w).toInt = 60 := q8
    have q9 : (w).toInt = 61 := q9
    refine yR_m 2 (fun _ _ _ _ => rfl) ?_
    refine wR_ic_ne rfl (a := (a).toInt) (c := (b).toInt) rfl rfl (fun q42 => ?_) (fun q42 => ?_)
    ·
      refine yR_m 1 (fun _ _ _ _ => rfl) ?_
      exact yR_ri rfl (h22 q1 q2 q3 q4 q5 q6 q7 q8 q9 q42 hm)
    ·
      refine yR_m 2 (fun _ _ _ _ => rfl) ?_
      exact yR_ri rfl (h23 q1 q2 q3 q4 q5 q6 q7 q8 q9 q42 hm)
  ·
    have q1 : ¬ (w).toInt = 21 := q1
    have q2 : ¬ (w).toInt = 24 := q2
    have q3 : ¬ (w).toInt = 37 := q3
    have q4 : ¬ (w).toInt = 42 := q4
    have q5 : ¬ (w).toInt = 43 := q5
    have q6 : ¬ (w).toInt = 45 := q6
    have q7 : ¬ (w).toInt = 47 := q7
    have q8 : ¬ (w).toInt = 60 := q8
    have q9 : ¬ (w).toInt = 61 := q9
    have q10 : (w).toInt = 62 := q10
    refine yR_m 2 (fun _ _ _ _ => rfl) ?_
    refine wR_ic_le rfl (a := (a).toInt) (c := (b).toInt) rfl rfl (fun q43 => ?_) (fun q43 => ?_)
    ·
      refine yR_m 1 (fun _ _ _ _ => rfl) ?_
      exact yR_ri rfl (h24 q1 q2 q3 q4 q5 q6 q7 q8 q9 q10 q43 hm)
    ·
      refine yR_m 2 (fun _ _ _ _ => rfl) ?_
      exact yR_ri rfl (h25 q1 q2 q3 q4 q5 q6 q7 q8 q9 q10 q43 hm)
  ·
    have q1 : ¬ (w).toInt = 21 := q1
    have q2 : ¬ (w).toInt = 24 := q2
    have q3 : ¬ (w).toInt = 37 := q3
    have q4 : ¬ (w).toInt = 42 := q4
    have q5 : ¬ (w).toInt = 43 := q5
    have q6 : ¬ (w).toInt = 45 := q6
    have q7 : ¬ (w).toInt = 47 := q7
    have q8 : ¬ (w).toInt = 60 := q8
    have q9 : ¬ (w).toInt = 61 := q9
    have q10 : ¬ (w).toInt = 62 := q10
    refine yR_m 2 (fun _ _ _ _ => rfl) ?_
    refine wN_mx (a := (a).toInt) (b := (b).toInt) rfl rfl rfl rfl (fun x44 e45 => ?_)
    exact yR_ri rfl (h26 q1 q2 q3 q4 q5 q6 q7 q8 q9 q10 x44 e45 hm)

theorem t_mn {w a b : Int} (h : w = 21 ∨ w = 24) : twoI w a b = min a b := by
  rcases h with rfl | rfl <;> rfl
theorem t_mx {w a b : Int} (h1 : ¬ w = 21) (h2 : ¬ w = 24) (h3 : ¬ w = 37) (h4 : ¬ w = 42) (h5 : ¬ w = 43) (h6 : ¬ w = 45) (h7 : ¬ w = 47) (h8 : ¬ w = 60) (h9 : ¬ w = 61) (h10 : ¬ w = 62) : twoI w a b = max a b := by
  unfold twoI
  rw [if_neg h5, if_neg h6, if_neg h4, if_neg h7, if_neg h3, if_neg h8, if_neg h10, if_neg h9, if_neg (by omega)]
theorem t_bn {w a b c : Int} (h : (w = 43 ∧ c = a + b) ∨ (w = 45 ∧ c = a - b) ∨ (w = 42 ∧ c = a * b)) : twoI w a b = bndI c := by
  unfold twoI
  rcases h with ⟨rfl, rfl⟩ | ⟨rfl, rfl⟩ | ⟨rfl, rfl⟩
  · rw [if_pos rfl]
  · rw [if_neg (by decide), if_pos rfl]
  · rw [if_neg (by decide), if_neg (by decide), if_pos rfl]
theorem b_0 {c : Int} (h0 : -1000000 ≤ c) (h1 : c ≤ 1000000) : bndI c = c := by
  unfold bndI
  rw [if_neg (by omega), if_neg (by omega)]
theorem b_h {c : Int} (h : 1000000 < c) : bndI c = 1000000 := if_pos h
theorem b_l {c : Int} (h : c < -1000000) : bndI c = -1000000 := by
  unfold bndI
  rw [if_neg (by omega), if_pos h]
theorem t_dv {w a b : Int} (h : w = 47) (hb : ¬ b = 0) : twoI w a b = divI a b := by
  subst h
  exact if_neg hb
theorem t_md {w a b : Int} (h : w = 37) (hb : ¬ b = 0) : twoI w a b = modI a b := by
  subst h
  exact if_neg hb
theorem t_z {w a b : Int} (h : w = 47 ∨ w = 37) (hb : b = 0) : twoI w a b = 0 := by
  rcases h with rfl | rfl
  · exact if_pos hb
  · exact if_pos hb
theorem t_lt {w a b : Int} (h : w = 60) : twoI w a b = if a < b then 1 else 0 := by
  subst h
  rfl
theorem t_gt {w a b : Int} (h : w = 62) : twoI w a b = if b < a then 1 else 0 := by
  subst h
  rfl
theorem t_eq {w a b : Int} (h : w = 61) : twoI w a b = if a = b then 1 else 0 := by
  subst h
  rfl
theorem h_jo {w a b : Int32} (hm : aTm aT0 mem) (ha : -1000000 ≤ a.toInt ∧ a.toInt ≤ 1000000) (hb : -1000000 ≤ b.toInt ∧ b.toInt ≤ 1000000) (hd : 3 ≤ d) : yC zpg d 71 [.int w, .int a, .int b] mem (fun r m => ∃ v : Int32, r = some (.int v) ∧ mem = m ∧ v.toInt = twoI w.toInt a.toInt b.toInt) := by
  obtain ⟨d, rfl⟩ : ∃ q, d = q + 3 := ⟨d - 3, by omega⟩
  refine yC_of (t := tX6_joined) rfl rfl ?_
  refine w_jo hm ha hb
        (fun q1 x11 e12 hm2 => ⟨_, rfl, rfl, by rw [t_mn (Or.inl q1)]; exact e12⟩)
        (fun q1 q2 x13 e14 hm2 => ⟨_, rfl, rfl, by rw [t_mn (Or.inr q2)]; exact e14⟩)
        (fun q1 q2 q3 q15 x16 e17 q18 hm2 => ⟨_, rfl, rfl, by rw [t_md q3 q15, e17]; unfold modI; rw [if_neg (fun z => by have := xor_neg.2 z.2; omega)]⟩)
        (fun q1 q2 q3 q15 x16 e17 q18 q19 hm2 => ⟨_, rfl, rfl, by rw [t_md q3 q15, e17]; unfold modI; rw [if_neg (fun z => z.1 q19)]⟩)
        (fun q1 q2 q3 q15 x16 e17 q18 q19 => by have n1 := Int.natAbs_tmod a.toInt b.toInt; have n2 := Nat.mod_le a.toInt.natAbs b.toInt.natAbs; omega)
        (fun q1 q2 q3 q15 x16 e17 q18 q19 x20 e21 hm2 => ⟨_, rfl, rfl, by rw [t_md q3 q15, e21]; unfold modI; rw [if_pos ⟨q19, xor_neg.1 q18⟩]⟩)
        (fun q1 q2 q3 q15 hm2 => ⟨_, rfl, rfl, Eq.trans (show ((0 : Int32).toInt = 0) from rfl) (by rw [t_z (Or.inr q3) q15])⟩)
        (fun q1 q2 q3 q4 q22 q23 hm2 => ⟨_, rfl, rfl, by have j := j64_m ha hb; have c1 : (1000000 : Int64).toInt = 1000000 := rfl; have c2 : ((-1000000) : Int64).toInt = -1000000 := rfl; rw [t_bn (Or.inr (Or.inr ⟨q4, rfl⟩)), j64_n (by omega) (by omega), j, b_0 (by omega) (by omega)]⟩)
        (fun q1 q2 q3 q4 q22 q23 hm2 => ⟨_, rfl, rfl, by have j := j64_m ha hb; have c1 : (1000000 : Int64).toInt = 1000000 := rfl; have c2 : ((-1000000) : Int64).toInt = -1000000 := rfl; exact Eq.trans (show (((-1000000) : Int32).toInt = -1000000) from rfl) (by rw [t_bn (Or.inr (Or.inr ⟨q4, rfl⟩)), b_l (by omega)])⟩)
        (fun q1 q2 q3 q4 q22 hm2 => ⟨_, rfl, rfl, by have j := j64_m ha hb; have c1 : (1000000 : Int64).toInt = 1000000 := rfl; have c2 : ((-1000000) : Int64).toInt = -1000000 := rfl; exact Eq.trans (show ((1000000 : Int32).toInt = 1000000) from rfl) (by rw [t_bn (Or.inr (Or.inr ⟨q4, rfl⟩)), b_h (by omega)])⟩)
        (fun q1 q2 q3 q4 q5 x24 e25 q26 q27 hm2 => ⟨_, rfl, rfl, by have j := Int32.toInt_toInt64 x24; have e0 := e25; have c1 : (1000000 : Int64).toInt = 1000000 := rfl; have c2 : ((-1000000) : Int64).toInt = -1000000 := rfl; rw [t_bn (Or.inl ⟨q5, rfl⟩), j64_n (by omega) (by omega), j, e25, b_0 (by omega) (by omega)]⟩)
        (fun q1 q2 q3 q4 q5 x24 e25 q26 q27 hm2 => ⟨_, rfl, rfl, by have j := Int32.toInt_toInt64 x24; have e0 := e25; have c1 : (1000000 : Int64).toInt = 1000000 := rfl; have c2 : ((-1000000) : Int64).toInt = -1000000 := rfl; exact Eq.trans (show (((-1000000) : Int32).toInt = -1000000) from rfl) (by rw [t_bn (Or.inl ⟨q5, rfl⟩), b_l (by omega)])⟩)
        (fun q1 q2 q3 q4 q5 x24 e25 q26 hm2 => ⟨_, rfl, rfl, by have j := Int32.toInt_toInt64 x24; have e0 := e25; have c1 : (1000000 : Int64).toInt = 1000000 := rfl; have c2 : ((-1000000) : Int64).toInt = -1000000 := rfl; exact Eq.trans (show ((1000000 : Int32).toInt = 1000000) from rfl) (by rw [t_bn (Or.inl ⟨q5, rfl⟩), b_h (by omega)])⟩)
        (fun q1 q2 q3 q4 q5 q6 x28 e29 q30 q31 hm2 => ⟨_, rfl, rfl, by have j := Int32.toInt_toInt64 x28; have e0 := e29; have c1 : (1000000 : Int64).toInt = 1000000 := rfl; have c2 : ((-1000000) : Int64).toInt = -1000000 := rfl; rw [t_bn (Or.inr (Or.inl ⟨q6, rfl⟩)), j64_n (by omega) (by omega), j, e29, b_0 (by omega) (by omega)]⟩)
        (fun q1 q2 q3 q4 q5 q6 x28 e29 q30 q31 hm2 => ⟨_, rfl, rfl, by have j := Int32.toInt_toInt64 x28; have e0 := e29; have c1 : (1000000 : Int64).toInt = 1000000 := rfl; have c2 : ((-1000000) : Int64).toInt = -1000000 := rfl; exact Eq.trans (show (((-1000000) : Int32).toInt = -1000000) from rfl) (by rw [t_bn (Or.inr (Or.inl ⟨q6, rfl⟩)), b_l (by omega)])⟩)
        (fun q1 q2 q3 q4 q5 q6 x28 e29 q30 hm2 => ⟨_, rfl, rfl, by have j := Int32.toInt_toInt64 x28; have e0 := e29; have c1 : (1000000 : Int64).toInt = 1000000 := rfl; have c2 : ((-1000000) : Int64).toInt = -1000000 := rfl; exact Eq.trans (show ((1000000 : Int32).toInt = 1000000) from rfl) (by rw [t_bn (Or.inr (Or.inl ⟨q6, rfl⟩)), b_h (by omega)])⟩)
        (fun q1 q2 q3 q4 q5 q6 q7 q32 x33 e34 q35 hm2 => ⟨_, rfl, rfl, by rw [t_dv q7 q32, e34]; unfold divI; rw [if_neg (fun z => by have := xor_neg.2 z.2; omega)]⟩)
        (fun q1 q2 q3 q4 q5 q6 q7 q32 x33 e34 q35 => by have k := Int.tmod_add_tdiv_mul a.toInt b.toInt; have n1 := Int.natAbs_tmod a.toInt b.toInt; have n2 := Nat.mod_le a.toInt.natAbs b.toInt.natAbs; have t := tdv_b ha.1 ha.2 (b := b.toInt); omega)
        (fun q1 q2 q3 q4 q5 q6 q7 q32 x33 e34 q35 x36 e37 q38 hm2 => ⟨_, rfl, rfl, by have k := Int.tmod_add_tdiv_mul a.toInt b.toInt; have n1 := Int.natAbs_tmod a.toInt b.toInt; have n2 := Nat.mod_le a.toInt.natAbs b.toInt.natAbs; rw [t_dv q7 q32, e34]; unfold divI; rw [if_neg (fun z => z.1 (by omega))]⟩)
        (fun q1 q2 q3 q4 q5 q6 q7 q32 x33 e34 q35 x36 e37 q38 => by have k := Int.tmod_add_tdiv_mul a.toInt b.toInt; have n1 := Int.natAbs_tmod a.toInt b.toInt; have n2 := Nat.mod_le a.toInt.natAbs b.toInt.natAbs; have t := tdv_b ha.1 ha.2 (b := b.toInt); omega)
        (fun q1 q2 q3 q4 q5 q6 q7 q32 x33 e34 q35 x36 e37 q38 x39 e40 hm2 => ⟨_, rfl, rfl, by have k := Int.tmod_add_tdiv_mul a.toInt b.toInt; have n1 := Int.natAbs_tmod a.toInt b.toInt; have n2 := Nat.mod_le a.toInt.natAbs b.toInt.natAbs; rw [t_dv q7 q32, e40]; unfold divI; rw [if_pos ⟨by omega, xor_neg.1 q35⟩]⟩)
        (fun q1 q2 q3 q4 q5 q6 q7 q32 hm2 => ⟨_, rfl, rfl, Eq.trans (show ((0 : Int32).toInt = 0) from rfl) (by rw [t_z (Or.inl q7) q32])⟩)
        (fun q1 q2 q3 q4 q5 q6 q7 q8 q41 hm2 => ⟨_, rfl, rfl, Eq.trans (show ((0 : Int32).toInt = 0) from rfl) (by rw [t_lt q8, if_neg (by omega)])⟩)
        (fun q1 q2 q3 q4 q5 q6 q7 q8 q41 hm2 => ⟨_, rfl, rfl, Eq.trans (show ((1 : Int32).toInt = 1) from rfl) (by rw [t_lt q8, if_pos (by omega)])⟩)
        (fun q1 q2 q3 q4 q5 q6 q7 q8 q9 q42 hm2 => ⟨_, rfl, rfl, Eq.trans (show ((0 : Int32).toInt = 0) from rfl) (by rw [t_eq q9, if_neg (by omega)])⟩)
        (fun q1 q2 q3 q4 q5 q6 q7 q8 q9 q42 hm2 => ⟨_, rfl, rfl, Eq.trans (show ((1 : Int32).toInt = 1) from rfl) (by rw [t_eq q9, if_pos (by omega)])⟩)
        (fun q1 q2 q3 q4 q5 q6 q7 q8 q9 q10 q43 hm2 => ⟨_, rfl, rfl, Eq.trans (show ((0 : Int32).toInt = 0) from rfl) (by rw [t_gt q10, if_neg (by omega)])⟩)
        (fun q1 q2 q3 q4 q5 q6 q7 q8 q9 q10 q43 hm2 => ⟨_, rfl, rfl, Eq.trans (show ((1 : Int32).toInt = 1) from rfl) (by rw [t_gt q10, if_pos (by omega)])⟩)
        (fun q1 q2 q3 q4 q5 q6 q7 q8 q9 q10 x44 e45 hm2 => ⟨_, rfl, rfl, by rw [t_mx q1 q2 q3 q4 q5 q6 q7 q8 q9 q10]; exact e45⟩)
theorem h_jo2 {w a b : Int32} {p q s : Int} (hm : aTm aT0 mem) (hw : w.toInt = s) (hp : a.toInt = p) (hq : b.toInt = q) (ha : -1000000 ≤ p ∧ p ≤ 1000000) (hb : -1000000 ≤ q ∧ q ≤ 1000000) (hd : 3 ≤ d) : yC zpg d 71 [.int w, .int a, .int b] mem (fun r m => ∃ v : Int32, r = some (.int v) ∧ mem = m ∧ v.toInt = twoI s p q) := by
  subst hw
  subst hp
  subst hq
  exact h_jo hm ha hb hd
/-- what a name stands for -/
def naC (m : zM) (w : Int) : Int := if w = 7 then (gi m 182 2).toInt else if w = 8 then (gi m 182 3).toInt else if w = 15 then (gi m 182 1).toInt else if w = 16 then (gi m 182 4).toInt else if w = 17 then (gi m 182 5).toInt else if w = 18 then (gi m 182 6).toInt else 1
set_option maxRecDepth 100000 in
theorem w_na {d : Nat} {mem : zM} {P : Option Value → zM → Prop} {w : Int32} (hm : aTm aT0 mem) (h1 : (w).toInt = 7 → aTm aT0 mem → P (some (.int (gi mem 182 2))) mem) (h2 : ¬ (w).toInt = 7 → (w).toInt = 8 → aTm aT0 mem → P (some (.int (gi mem 182 3))) mem) (h3 : ¬ (w).toInt = 7 → ¬ (w).toInt = 8 → (w).toInt = 9 → aTm aT0 mem → P (some (.int 1)) mem) (h4 : ¬ (w).toInt = 7 → ¬ (w).toInt = 8 → ¬ (w).toInt = 9 → (w).toInt = 10 → aTm aT0 mem → P (some (.int 1)) mem) (h5 : ¬ (w).toInt = 7 → ¬ (w).toInt = 8 → ¬ (w).toInt = 9 → ¬ (w).toInt = 10 → (w).toInt = 11 → aTm aT0 mem → P (some (.int 1)) mem) (h6 : ¬ (w).toInt = 7 → ¬ (w).toInt = 8 → ¬ (w).toInt = 9 → ¬ (w).toInt = 10 → ¬ (w).toInt = 11 → (w).toInt = 12 → aTm aT0 mem → P (some (.int 1)) mem) (h7 : ¬ (w).toInt = 7 → ¬ (w).toInt = 8 → ¬ (w).toInt = 9 → ¬ (w).toInt = 10 → ¬ (w).toInt = 11 → ¬ (w).toInt = 12 → (w).toInt = 13 → aTm aT0 mem → P (some (.int 1)) mem) (h8 : ¬ (w).toInt = 7 → ¬ (w).toInt = 8 → ¬ (w).toInt = 9 → ¬ (w).toInt = 10 → ¬ (w).toInt = 11 → ¬ (w).toInt = 12 → ¬ (w).toInt = 13 → (w).toInt = 14 → aTm aT0 mem → P (some (.int 1)) mem) (h9 : ¬ (w).toInt = 7 → ¬ (w).toInt = 8 → ¬ (w).toInt = 9 → ¬ (w).toInt = 10 → ¬ (w).toInt = 11 → ¬ (w).toInt = 12 → ¬ (w).toInt = 13 → ¬ (w).toInt = 14 → (w).toInt = 15 → aTm aT0 mem → P (some (.int (gi mem 182 1))) mem) (h10 : ¬ (w).toInt = 7 → ¬ (w).toInt = 8 → ¬ (w).toInt = 9 → ¬ (w).toInt = 10 → ¬ (w).toInt = 11 → ¬ (w).toInt = 12 → ¬ (w).toInt = 13 → ¬ (w).toInt = 14 → ¬ (w).toInt = 15 → (w).toInt = 16 → aTm aT0 mem → P (some (.int (gi mem 182 4))) mem) (h11 : ¬ (w).toInt = 7 → ¬ (w).toInt = 8 → ¬ (w).toInt = 9 → ¬ (w).toInt = 10 → ¬ (w).toInt = 11 → ¬ (w).toInt = 12 → ¬ (w).toInt = 13 → ¬ (w).toInt = 14 → ¬ (w).toInt = 15 → ¬ (w).toInt = 16 → (w).toInt = 17 → aTm aT0 mem → P (some (.int (gi mem 182 5))) mem) (h12 : ¬ (w).toInt = 7 → ¬ (w).toInt = 8 → ¬ (w).toInt = 9 → ¬ (w).toInt = 10 → ¬ (w).toInt = 11 → ¬ (w).toInt = 12 → ¬ (w).toInt = 13 → ¬ (w).toInt = 14 → ¬ (w).toInt = 15 → ¬ (w).toInt = 16 → ¬ (w).toInt = 17 → (w).toInt = 18 → aTm aT0 mem → P (some (.int (gi mem 182 6))) mem) (h13 : ¬ (w).toInt = 7 → ¬ (w).toInt = 8 → ¬ (w).toInt = 9 → ¬ (w).toInt = 10 → ¬ (w).toInt = 11 → ¬ (w).toInt = 12 → ¬ (w).toInt = 13 → ¬ (w).toInt = 14 → ¬ (w).toInt = 15 → ¬ (w).toInt = 16 → ¬ (w).toInt = 17 → ¬ (w).toInt = 18 → aTm aT0 mem → P (some (.int 1)) mem) : yR zpg tX6_named d (0, [(0, .ref 182), (1, .int w)], [], mem) P := by
  refine yR_m 1 (fun _ _ _ _ => rfl) ?_
  refine wR_ts rfl rfl ⟨fun q1 => ?_, fun q1 => ⟨fun q2 => ?_, fun q2 => ⟨fun q3 => ?_, fun q3 => ⟨fun q4 => ?_, fun q4 => ⟨fun q5 => ?_, fun q5 => ⟨fun q6 => ?_, fun q6 => ⟨fun q7 => ?_, fun q7 => ⟨fun q8 => ?_, fun q8 => ⟨fun q9 => ?_, fun q9 => ⟨fun q10 => ?_, fun q10 => ⟨fun q11 => ?_, fun q11 => ⟨fun q12 => ?_, fun q12 => ?_⟩⟩⟩⟩⟩⟩⟩⟩⟩⟩⟩⟩
  ·
    have q1 : (w).toInt = 7 := q1
    refine yR_m 1 (fun _ _ _ _ => rfl) ?_
    refine wR_gi rfl rkO_e rkO_2 hm rfl ?_
    exact yR_ri rfl (h1 q1 hm)
  ·
    have q1 : ¬ (w).toInt = 7 := q1
    have q2 : (w).toInt = 8 := q2
    refine yR_m 1 (fun _ _ _ _ => rfl) ?_
    refine wR_gi rfl rkO_e rkO_3 hm rfl ?_
    exact yR_ri rfl (h2 q1 q2 hm)
  ·
    have q1 : ¬ (w).toInt = 7 := q1
    have q2 : ¬ (w).toInt = 8 := q2
    have q3 : (w).toInt = 9 := q3
    refine yR_m 1 (fun _ _ _ _ => rfl) ?_
    exact yR_ri rfl (h3 q1 q2 q3 hm)
  ·
    have q1 : ¬ (w).toInt = 7 := q1
    have q2 : ¬ (w).toInt = 8 := q2
    have q3 : ¬ (w).toInt = 9 := q3
    have q4 : (w).toInt = 10 := q4
    refine yR_m 1 (fun _ _ _ _ => rfl) ?_
    exact yR_ri rfl (h4 q1 q2 q3 q4 hm)
  ·
    have q1 : ¬ (w).toInt = 7 := q1
    have q2 : ¬ (w).toInt = 8 := q2
    have q3 : ¬ (w).toInt = 9 := q3
    have q4 : ¬ (w).toInt = 10 := q4
    have q5 : (w).toInt = 11 := q5
    refine yR_m 1 (fun _ _ _ _ => rfl) ?_
    exact yR_ri rfl (h5 q1 q2 q3 q4 q5 hm)
  ·
    have q1 : ¬ (w).toInt = 7 := q1
    have q2 : ¬ (w).toInt = 8 := q2
    have q3 : ¬ (w).toInt = 9 := q3
    have q4 : ¬ (w).toInt = 10 := q4
    have q5 : ¬ (w).toInt = 11 := q5
    have q6 : (w).toInt = 12 := q6
    refine yR_m 1 (fun _ _ _ _ => rfl) ?_
    exact yR_ri rfl (h6 q1 q2 q3 q4 q5 q6 hm)
  ·
    have q1 : ¬ (w).toInt = 7 := q1
    have q2 : ¬ (w).toInt = 8 := q2
    have q3 : ¬ (w).toInt = 9 := q3
    have q4 : ¬ (w).toInt = 10 := q4
    have q5 : ¬ (w).toInt = 11 := q5
    have q6 : ¬ (w).toInt = 12 := q6
    have q7 : (w).toInt = 13 := q7
    refine yR_m 1 (fun _ _ _ _ => rfl) ?_
    exact yR_ri rfl (h7 q1 q2 q3 q4 q5 q6 q7 hm)
  ·
    have q1 : ¬ (w).toInt = 7 := q1
    have q2 : ¬ (w).toInt = 8 := q2
    have q3 : ¬ (w).toInt = 9 := q3
    have q4 : ¬ (w).toInt = 10 := q4
    have q5 : ¬ (w).toInt = 11 := q5
    have q6 : ¬ (w).toInt = 12 := q6
    have q7 : ¬ (w).toInt = 13 := q7
    have q8 : (w).toInt = 14 := q8
    refine yR_m 1 (fun _ _ _ _ => rfl) ?_
    exact yR_ri rfl (h8 q1 q2 q3 q4 q5 q6 q7 q8 hm)
  ·
    have q1 : ¬ (w).toInt = 7 := q1
    have q2 : ¬ (w).toInt = 8 := q2
    have q3 : ¬ (w).toInt = 9 := q3
    have q4 : ¬ (w).toInt = 10 := q4
    have q5 : ¬ (w).toInt = 11 := q5
    have q6 : ¬ (w).toInt = 12 := q6
    have q7 : ¬ (w).toInt = 13 := q7
    have q8 : ¬ (w).toInt = 14 := q8
    have q9 : (w).toInt = 15 := q9
    refine yR_m 1 (fun _ _ _ _ => rfl) ?_
    refine wR_gi rfl rkO_e rkO_1 hm rfl ?_
    exact yR_ri rfl (h9 q1 q2 q3 q4 q5 q6 q7 q8 q9 hm)
  ·
    have q1 : ¬ (w).toInt = 7 := q1
    have q2 : ¬ (w).toInt = 8 := q2
    have q3 : ¬ (w).toInt = 9 := q3
    have q4 : ¬ (w).toInt = 10 := q4
    have q5 : ¬ (w).toInt = 11 := q5
    have q6 : ¬ (w).toInt = 12 := q6
    have q7 : ¬ (w).toInt = 13 := q7
    have q8 : ¬ (w).toInt = 14 := q8
    have q9 : ¬ (w).toInt = 15 := q9
    have q10 : (w).toInt = 16 := q10
    refine yR_m 1 (fun _ _ _ _ => rfl) ?_
    refine wR_gi rfl rkO_e rkO_4 hm rfl ?_
    exact yR_ri rfl (h10 q1 q2 q3 q4 q5 q6 q7 q8 q9 q10 hm)
  ·
    have q1 : ¬ (w).toInt = 7 := q1
    have q2 : ¬ (w).toInt = 8 := q2
    have q3 : ¬ (w).toInt = 9 := q3
    have q4 : ¬ (w).toInt = 10 := q4
    have q5 : ¬ (w).toInt = 11 := q5
    have q6 : ¬ (w).toInt = 12 := q6
    have q7 : ¬ (w).toInt = 13 := q7
    have q8 : ¬ (w).toInt = 14 := q8
    have q9 : ¬ (w).toInt = 15 := q9
    have q10 : ¬ (w).toInt = 16 := q10
    have q11 : (w).toInt = 17 := q11
    refine yR_m 1 (fun _ _ _ _ => rfl) ?_
    refine wR_gi rfl rkO_e rkO_5 hm rfl ?_
    exact yR_ri rfl (h11 q1 q2 q3 q4 q5 q6 q7 q8 q9 q10 q11 hm)
  ·
    have q1 : ¬ (w).toInt = 7 := q1
    have q2 : ¬ (w).toInt = 8 := q2
    have q3 : ¬ (w).toInt = 9 := q3
    have q4 : ¬ (w).toInt = 10 := q4
    have q5 : ¬ (w).toInt = 11 := q5
    have q6 : ¬ (w).toInt = 12 := q6
    have q7 : ¬ (w).toInt = 13 := q7
    have q8 : ¬ (w).toInt = 14 := q8
    have q9 : ¬ (w).toInt = 15 := q9
    have q10 : ¬ (w).toInt = 16 := q10
    have q11 : ¬ (w).toInt = 17 := q11
    have q12 : (w).toInt = 18 := q12
    refine yR_m 1 (fun _ _ _ _ => rfl) ?_
    refine wR_gi rfl rkO_e rkO_6 hm rfl ?_
    exact yR_ri rfl (h12 q1 q2 q3 q4 q5 q6 q7 q8 q9 q10 q11 q12 hm)
  ·
    have q1 : ¬ (w).toInt = 7 := q1
    have q2 : ¬ (w).toInt = 8 := q2
    have q3 : ¬ (w).toInt = 9 := q3
    have q4 : ¬ (w).toInt = 10 := q4
    have q5 : ¬ (w).toInt = 11 := q5
    have q6 : ¬ (w).toInt = 12 := q6
    have q7 : ¬ (w).toInt = 13 := q7
    have q8 : ¬ (w).toInt = 14 := q8
    have q9 : ¬ (w).toInt = 15 := q9
    have q10 : ¬ (w).toInt = 16 := q10
    have q11 : ¬ (w).toInt = 17 := q11
    have q12 : ¬ (w).toInt = 18 := q12
    refine yR_m 1 (fun _ _ _ _ => rfl) ?_
    exact yR_ri rfl (h13 q1 q2 q3 q4 q5 q6 q7 q8 q9 q10 q11 q12 hm)

theorem h_na {w : Int32} {s : Int} (hm : aTm aT0 mem) (hw : w.toInt = s) (hd : 1 ≤ d) : yC zpg d 70 [.ref 182, .int w] mem (fun r m => ∃ v : Int32, r = some (.int v) ∧ mem = m ∧ v.toInt = naC mem s) := by
  subst hw
  obtain ⟨d, rfl⟩ : ∃ q, d = q + 1 := ⟨d - 1, by omega⟩
  refine yC_of (t := tX6_named) rfl rfl ?_
  refine w_na hm 
        (fun q1 hm2 => ⟨_, rfl, rfl, by rw [q1]; rfl⟩)
        (fun q1 q2 hm2 => ⟨_, rfl, rfl, by rw [q2]; rfl⟩)
        (fun q1 q2 q3 hm2 => ⟨_, rfl, rfl, by rw [q3]; rfl⟩)
        (fun q1 q2 q3 q4 hm2 => ⟨_, rfl, rfl, by rw [q4]; rfl⟩)
        (fun q1 q2 q3 q4 q5 hm2 => ⟨_, rfl, rfl, by rw [q5]; rfl⟩)
        (fun q1 q2 q3 q4 q5 q6 hm2 => ⟨_, rfl, rfl, by rw [q6]; rfl⟩)
        (fun q1 q2 q3 q4 q5 q6 q7 hm2 => ⟨_, rfl, rfl, by rw [q7]; rfl⟩)
        (fun q1 q2 q3 q4 q5 q6 q7 q8 hm2 => ⟨_, rfl, rfl, by rw [q8]; rfl⟩)
        (fun q1 q2 q3 q4 q5 q6 q7 q8 q9 hm2 => ⟨_, rfl, rfl, by rw [q9]; rfl⟩)
        (fun q1 q2 q3 q4 q5 q6 q7 q8 q9 q10 hm2 => ⟨_, rfl, rfl, by rw [q10]; rfl⟩)
        (fun q1 q2 q3 q4 q5 q6 q7 q8 q9 q10 q11 hm2 => ⟨_, rfl, rfl, by rw [q11]; rfl⟩)
        (fun q1 q2 q3 q4 q5 q6 q7 q8 q9 q10 q11 q12 hm2 => ⟨_, rfl, rfl, by rw [q12]; rfl⟩)
        (fun q1 q2 q3 q4 q5 q6 q7 q8 q9 q10 q11 q12 hm2 => ⟨_, rfl, rfl, Eq.trans (show ((1 : Int32).toInt = 1) from rfl) (by unfold naC; rw [if_neg q1, if_neg q2, if_neg q9, if_neg q10, if_neg q11, if_neg q12])⟩)
theorem naC_c {ks : List Nat} {m m' : zM} {w : Int} (h : onl ks m m') (hk : ks.contains 182 = false) : naC m' w = naC m w := by
  unfold naC
  rw [onl_gi h hk, onl_gi h hk, onl_gi h hk, onl_gi h hk, onl_gi h hk, onl_gi h hk]
/-- values lie one below the other, the newest at t -/
def sk (g : Int → Int) : Int → List Int → Prop
  | _, [] => True
  | t, x :: s => g t = x ∧ sk g (t - 1) s
theorem sk_up {g g' : Int → Int} : ∀ {s : List Int} {t : Int}, (∀ j, t - (s.length : Int) < j → j ≤ t → g' j = g j) → sk g t s → sk g' t s
  | [], _, _, _ => trivial
  | x :: s, t, h, k => ⟨(h t (by rw [List.length_cons]; omega) (by omega)).trans k.1, sk_up (fun j j0 j1 => h j (by rw [List.length_cons]; omega) (by omega)) k.2⟩
theorem sk_st {j v : Int32} {s : List Int} (hm : aTm aT0 mem) (h0 : (s.length : Int) ≤ j.toInt) (h1 : j.toInt < 128) (h : sk (gn (ga mem 183)) (j.toInt - 1) s) : sk (gn (ga (sx mem 183 j v) 183)) j.toInt (v.toInt :: s) := by
  have l := gl_183 hm
  have e : ∀ i, 0 ≤ i → gn (ga (sx mem 183 j v) 183) i = if i = j.toInt then v.toInt else gn (ga mem 183) i := fun i hi => by
    rw [ga_sa_eq]
    exact gn_set rfl (by omega) (by rw [l]; omega) hi
  refine ⟨by rw [e _ (by omega), if_pos rfl], sk_up (fun i i0 i1 => ?_) h⟩
  rw [e i (by omega), if_neg (by omega)]
end RKC
section RKA
variable {d : Nat} {mem : zM}
set_option maxRecDepth 100000 in
theorem w_vaA {d : Nat} {mem : zM} {P : Option Value → zM → Prop} {ru : Int32} {lo : List (Nat × Value)} (hm : aTm aT0 mem) (l_0 : zlg lo 0 = some (.ref 182)) (l_1 : zlg lo 1 = some (.ref 10)) (l_2 : zlg lo 2 = some (.int ru)) (hr : 0 ≤ ru.toInt ∧ ru.toInt ≤ 2) (h1 : ∀ (y4 : Int32), y4.toInt = (gn (ga mem 12) (ru).toInt) → ∀ lo, zlg lo 0 = some (.ref 182) → zlg lo 1 = some (.ref 10) → zlg lo 2 = some (.int ru) → zlg lo 3 = some (.int 2) → zlg lo 4 = some (.int y4) → aTm aT0 mem → yR zpg tX6_value (d + 3) (10, lo, [], mem) P) : yR zpg tX6_value (d + 3) (0, lo, [], mem) P := by
  refine yR_m 1 (fun _ _ _ _ => rfl) ?_
  refine wR_si rfl rfl (fun lo1 e2 f3 => ?_)
  have lo1_0 := f3 0 _ (by decide) (Or.inl rfl) l_0
  have lo1_1 := f3 1 _ (by decide) (Or.inl rfl) l_1
  have lo1_2 := f3 2 _ (by decide) (Or.inl rfl) l_2
  refine wR_la rfl lo1_1 ?_
  refine wR_gr rfl rlA_e rlA_1 hm ?_
  refine wR_li rfl lo1_2 ?_
  refine wN_al (a := (ru).toInt) rfl aR_12 hm rfl rfl (by omega) (fun y4 e5 => ?_)
  refine wR_si rfl rfl (fun lo6 e7 f8 => ?_)
  have lo6_3 := f8 3 _ (by decide) (Or.inl rfl) e2
  have lo6_0 := f8 0 _ (by decide) (Or.inl rfl) lo1_0
  have lo6_1 := f8 1 _ (by decide) (Or.inl rfl) lo1_1
  have lo6_2 := f8 2 _ (by decide) (Or.inl rfl) lo1_2
  exact h1 y4 e5 lo6 lo6_0 lo6_1 lo6_2 lo6_3 e7 hm

set_option maxRecDepth 100000 in
theorem w_vlA {d : Nat} {mem : zM} {P : Option Value → zM → Prop} {ru p k : Int32} {lo : List (Nat × Value)} (hm : aTm aT0 mem) (l_0 : zlg lo 0 = some (.ref 182)) (l_1 : zlg lo 1 = some (.ref 10)) (l_2 : zlg lo 2 = some (.int ru)) (l_3 : zlg lo 3 = some (.int p)) (l_4 : zlg lo 4 = some (.int k)) (hr : 0 ≤ ru.toInt ∧ ru.toInt ≤ 2) (hp : 2 ≤ p.toInt ∧ p.toInt ≤ 102) (hk : 0 ≤ k.toInt ∧ k.toInt ≤ 1600) (h1 : ∀ (y1 : Int32), y1.toInt = (gn (ga mem 13) (ru).toInt) → (gn (ga mem 13) (ru).toInt) ≤ (k).toInt → ∀ (x4 : Int32), x4.toInt = (max (p).toInt 0) → ∀ (y6 : Int32), y6.toInt = (gn (ga mem 183) (max (p).toInt 0)) → aTm aT0 mem → P (some (.int y6)) mem) (h2 : ∀ (y1 : Int32), y1.toInt = (gn (ga mem 13) (ru).toInt) → (k).toInt < (gn (ga mem 13) (ru).toInt) → (p).toInt < 2 → aTm aT0 mem → P (some (.int 0)) mem) (s1 : ∀ (y1 : Int32), y1.toInt = (gn (ga mem 13) (ru).toInt) → (k).toInt < (gn (ga mem 13) (ru).toInt) → 2 ≤ (p).toInt → ∀ (x9 : Int32), x9.toInt = ((p).toInt + 1) → ((p).toInt + 1) < 128 → ∀ (y12 : Int32), y12.toInt = (gn (ga mem 11) (k).toInt) → (-2147483648 : Int) ≤ ((gn (ga mem 11) (k).toInt) - 10000) ∧ ((gn (ga mem 11) (k).toInt) - 10000) ≤ 2147483647) (h3 : ∀ (y1 : Int32), y1.toInt = (gn (ga mem 13) (ru).toInt) → (k).toInt < (gn (ga mem 13) (ru).toInt) → 2 ≤ (p).toInt → ∀ (x9 : Int32), x9.toInt = ((p).toInt + 1) → ((p).toInt + 1) < 128 → ∀ (y12 : Int32), y12.toInt = (gn (ga mem 11) (k).toInt) → ∀ (x17 : Int32), x17.toInt = ((gn (ga mem 11) (k).toInt) - 10000) → 0 ≤ ((gn (ga mem 11) (k).toInt) - 10000) → ¬ ((gn (ga mem 11) (k).toInt) - 10000) = 22 → ¬ ((gn (ga mem 11) (k).toInt) - 10000) = 19 → ((gn (ga mem 11) (k).toInt) - 10000) < 20 → ∀ (x26 : Int32), x26.toInt = ((p).toInt + 1) → ∀ (v31 : Int32), v31.toInt = naC mem ((gn (ga mem 11) (k).toInt) - 10000) → ∀ (x33 : Int32), x33.toInt = ((k).toInt + 1) → ∀ lo, zlg lo 0 = some (.ref 182) → zlg lo 1 = some (.ref 10) → zlg lo 2 = some (.int ru) → zlg lo 3 = some (.int x26) → zlg lo 4 = some (.int x33) → aTm aT0 (sx mem 183 x26 v31) → yR zpg tX6_value (d + 3) (10, lo, [], (sx mem 183 x26 v31)) P) (h4 : ∀ (y1 : Int32), y1.toInt = (gn (ga mem 13) (ru).toInt) → (k).toInt < (gn (ga mem 13) (ru).toInt) → 2 ≤ (p).toInt → ∀ (x9 : Int32), x9.toInt = ((p).toInt + 1) → ((p).toInt + 1) < 128 → ∀ (y12 : Int32), y12.toInt = (gn (ga mem 11) (k).toInt) → ∀ (x17 : Int32), x17.toInt = ((gn (ga mem 11) (k).toInt) - 10000) → 0 ≤ ((gn (ga mem 11) (k).toInt) - 10000) → ¬ ((gn (ga mem 11) (k).toInt) - 10000) = 22 → ¬ ((gn (ga mem 11) (k).toInt) - 10000) = 19 → 20 ≤ ((gn (ga mem 11) (k).toInt) - 10000) → ((gn (ga mem 11) (k).toInt) - 10000) = 23 → ∀ (x39 : Int32), x39.toInt = ((p).toInt + 1) → ∀ (v44 : Int32), v44.toInt = naC mem ((gn (ga mem 11) (k).toInt) - 10000) → ∀ (x46 : Int32), x46.toInt = ((k).toInt + 1) → ∀ lo, zlg lo 0 = some (.ref 182) → zlg lo 1 = some (.ref 10) → zlg lo 2 = some (.int ru) → zlg lo 3 = some (.int x39) → zlg lo 4 = some (.int x46) → aTm aT0 (sx mem 183 x39 v44) → yR zpg tX6_value (d + 3) (10, lo, [], (sx mem 183 x39 v44)) P) (s2 : ∀ (y1 : Int32), y1.toInt = (gn (ga mem 13) (ru).toInt) → (k).toInt < (gn (ga mem 13) (ru).toInt) → 2 ≤ (p).toInt → ∀ (x9 : Int32), x9.toInt = ((p).toInt + 1) → ((p).toInt + 1) < 128 → ∀ (y12 : Int32), y12.toInt = (gn (ga mem 11) (k).toInt) → ∀ (x17 : Int32), x17.toInt = ((gn (ga mem 11) (k).toInt) - 10000) → 0 ≤ ((gn (ga mem 11) (k).toInt) - 10000) → ¬ ((gn (ga mem 11) (k).toInt) - 10000) = 22 → ¬ ((gn (ga mem 11) (k).toInt) - 10000) = 19 → 20 ≤ ((gn (ga mem 11) (k).toInt) - 10000) → ¬ ((gn (ga mem 11) (k).toInt) - 10000) = 23 → ∀ (x51 : Int32), x51.toInt = ((p).toInt + (-1)) → ∀ (y56 : Int32), y56.toInt = (gn (ga mem 183) ((p).toInt + (-1))) → ∀ (x58 : Int32), x58.toInt = (((p).toInt + (-1)) + 1) → ∀ (y60 : Int32), y60.toInt = (gn (ga mem 183) (((p).toInt + (-1)) + 1)) → (-1000000 : Int) ≤ (gn (ga mem 183) ((p).toInt + (-1))) ∧ (gn (ga mem 183) ((p).toInt + (-1))) ≤ 1000000) (s3 : ∀ (y1 : Int32), y1.toInt = (gn (ga mem 13) (ru).toInt) → (k).toInt < (gn (ga mem 13) (ru).toInt) → 2 ≤ (p).toInt → ∀ (x9 : Int32), x9.toInt = ((p).toInt + 1) → ((p).toInt + 1) < 128 → ∀ (y12 : Int32), y12.toInt = (gn (ga mem 11) (k).toInt) → ∀ (x17 : Int32), x17.toInt = ((gn (ga mem 11) (k).toInt) - 10000) → 0 ≤ ((gn (ga mem 11) (k).toInt) - 10000) → ¬ ((gn (ga mem 11) (k).toInt) - 10000) = 22 → ¬ ((gn (ga mem 11) (k).toInt) - 10000) = 19 → 20 ≤ ((gn (ga mem 11) (k).toInt) - 10000) → ¬ ((gn (ga mem 11) (k).toInt) - 10000) = 23 → ∀ (x51 : Int32), x51.toInt = ((p).toInt + (-1)) → ∀ (y56 : Int32), y56.toInt = (gn (ga mem 183) ((p).toInt + (-1))) → ∀ (x58 : Int32), x58.toInt = (((p).toInt + (-1)) + 1) → ∀ (y60 : Int32), y60.toInt = (gn (ga mem 183) (((p).toInt + (-1)) + 1)) → (-1000000 : Int) ≤ (gn (ga mem 183) (((p).toInt + (-1)) + 1)) ∧ (gn (ga mem 183) (((p).toInt + (-1)) + 1)) ≤ 1000000) (h5 : ∀ (y1 : Int32), y1.toInt = (gn (ga mem 13) (ru).toInt) → (k).toInt < (gn (ga mem 13) (ru).toInt) → 2 ≤ (p).toInt → ∀ (x9 : Int32), x9.toInt = ((p).toInt + 1) → ((p).toInt + 1) < 128 → ∀ (y12 : Int32), y12.toInt = (gn (ga mem 11) (k).toInt) → ∀ (x17 : Int32), x17.toInt = ((gn (ga mem 11) (k).toInt) - 10000) → 0 ≤ ((gn (ga mem 11) (k).toInt) - 10000) → ¬ ((gn (ga mem 11) (k).toInt) - 10000) = 22 → ¬ ((gn (ga mem 11) (k).toInt) - 10000) = 19 → 20 ≤ ((gn (ga mem 11) (k).toInt) - 10000) → ¬ ((gn (ga mem 11) (k).toInt) - 10000) = 23 → ∀ (x51 : Int32), x51.toInt = ((p).toInt + (-1)) → ∀ (y56 : Int32), y56.toInt = (gn (ga mem 183) ((p).toInt + (-1))) → ∀ (x58 : Int32), x58.toInt = (((p).toInt + (-1)) + 1) → ∀ (y60 : Int32), y60.toInt = (gn (ga mem 183) (((p).toInt + (-1)) + 1)) → ∀ (v62 : Int32), v62.toInt = twoI ((gn (ga mem 11) (k).toInt) - 10000) (gn (ga mem 183) ((p).toInt + (-1))) (gn (ga mem 183) (((p).toInt + (-1)) + 1)) → ∀ (x64 : Int32), x64.toInt = ((k).toInt + 1) → ∀ lo, zlg lo 0 = some (.ref 182) → zlg lo 1 = some (.ref 10) → zlg lo 2 = some (.int ru) → zlg lo 3 = some (.int x51) → zlg lo 4 = some (.int x64) → aTm aT0 (sx mem 183 x51 v62) → yR zpg tX6_value (d + 3) (10, lo, [], (sx mem 183 x51 v62)) P) (h6 : ∀ (y1 : Int32), y1.toInt = (gn (ga mem 13) (ru).toInt) → (k).toInt < (gn (ga mem 13) (ru).toInt) → 2 ≤ (p).toInt → ∀ (x9 : Int32), x9.toInt = ((p).toInt + 1) → ((p).toInt + 1) < 128 → ∀ (y12 : Int32), y12.toInt = (gn (ga mem 11) (k).toInt) → ∀ (x17 : Int32), x17.toInt = ((gn (ga mem 11) (k).toInt) - 10000) → 0 ≤ ((gn (ga mem 11) (k).toInt) - 10000) → ¬ ((gn (ga mem 11) (k).toInt) - 10000) = 22 → ((gn (ga mem 11) (k).toInt) - 10000) = 19 → ∀ (x69 : Int32), x69.toInt = ((p).toInt + (-2)) → ∀ (y74 : Int32), y74.toInt = (gn (ga mem 183) ((p).toInt + (-2))) → (gn (ga mem 183) ((p).toInt + (-2))) = 0 → ∀ (x77 : Int32), x77.toInt = (((p).toInt + (-2)) + 2) → ∀ (y79 : Int32), y79.toInt = (gn (ga mem 183) (((p).toInt + (-2)) + 2)) → ∀ (x81 : Int32), x81.toInt = ((k).toInt + 1) → ∀ lo, zlg lo 0 = some (.ref 182) → zlg lo 1 = some (.ref 10) → zlg lo 2 = some (.int ru) → zlg lo 3 = some (.int x69) → zlg lo 4 = some (.int x81) → aTm aT0 (sx mem 183 x69 y79) → yR zpg tX6_value (d + 3) (10, lo, [], (sx mem 183 x69 y79)) P) (h7 : ∀ (y1 : Int32), y1.toInt = (gn (ga mem 13) (ru).toInt) → (k).toInt < (gn (ga mem 13) (ru).toInt) → 2 ≤ (p).toInt → ∀ (x9 : Int32), x9.toInt = ((p).toInt + 1) → ((p).toInt + 1) < 128 → ∀ (y12 : Int32), y12.toInt = (gn (ga mem 11) (k).toInt) → ∀ (x17 : Int32), x17.toInt = ((gn (ga mem 11) (k).toInt) - 10000) → 0 ≤ ((gn (ga mem 11) (k).toInt) - 10000) → ¬ ((gn (ga mem 11) (k).toInt) - 10000) = 22 → ((gn (ga mem 11) (k).toInt) - 10000) = 19 → ∀ (x69 : Int32), x69.toInt = ((p).toInt + (-2)) → ∀ (y74 : Int32), y74.toInt = (gn (ga mem 183) ((p).toInt + (-2))) → ¬ (gn (ga mem 183) ((p).toInt + (-2))) = 0 → ∀ (x86 : Int32), x86.toInt = (((p).toInt + (-2)) + 1) → ∀ (y88 : Int32), y88.toInt = (gn (ga mem 183) (((p).toInt + (-2)) + 1)) → ∀ (x90 : Int32), x90.toInt = ((k).toInt + 1) → ∀ lo, zlg lo 0 = some (.ref 182) → zlg lo 1 = some (.ref 10) → zlg lo 2 = some (.int ru) → zlg lo 3 = some (.int x69) → zlg lo 4 = some (.int x90) → aTm aT0 (sx mem 183 x69 y88) → yR zpg tX6_value (d + 3) (10, lo, [], (sx mem 183 x69 y88)) P) (s4 : ∀ (y1 : Int32), y1.toInt = (gn (ga mem 13) (ru).toInt) → (k).toInt < (gn (ga mem 13) (ru).toInt) → 2 ≤ (p).toInt → ∀ (x9 : Int32), x9.toInt = ((p).toInt + 1) → ((p).toInt + 1) < 128 → ∀ (y12 : Int32), y12.toInt = (gn (ga mem 11) (k).toInt) → ∀ (x17 : Int32), x17.toInt = ((gn (ga mem 11) (k).toInt) - 10000) → 0 ≤ ((gn (ga mem 11) (k).toInt) - 10000) → ((gn (ga mem 11) (k).toInt) - 10000) = 22 → ∀ (y95 : Int32), y95.toInt = (gn (ga mem 183) (p).toInt) → (-2147483648 : Int) ≤ (1 - (gn (ga mem 183) (p).toInt)) ∧ (1 - (gn (ga mem 183) (p).toInt)) ≤ 2147483647) (h8 : ∀ (y1 : Int32), y1.toInt = (gn (ga mem 13) (ru).toInt) → (k).toInt < (gn (ga mem 13) (ru).toInt) → 2 ≤ (p).toInt → ∀ (x9 : Int32), x9.toInt = ((p).toInt + 1) → ((p).toInt + 1) < 128 → ∀ (y12 : Int32), y12.toInt = (gn (ga mem 11) (k).toInt) → ∀ (x17 : Int32), x17.toInt = ((gn (ga mem 11) (k).toInt) - 10000) → 0 ≤ ((gn (ga mem 11) (k).toInt) - 10000) → ((gn (ga mem 11) (k).toInt) - 10000) = 22 → ∀ (y95 : Int32), y95.toInt = (gn (ga mem 183) (p).toInt) → ∀ (x97 : Int32), x97.toInt = (1 - (gn (ga mem 183) (p).toInt)) → ∀ (x99 : Int32), x99.toInt = ((k).toInt + 1) → ∀ lo, zlg lo 0 = some (.ref 182) → zlg lo 1 = some (.ref 10) → zlg lo 2 = some (.int ru) → zlg lo 3 = some (.int p) → zlg lo 4 = some (.int x99) → aTm aT0 (sx mem 183 p x97) → yR zpg tX6_value (d + 3) (10, lo, [], (sx mem 183 p x97)) P) (h9 : ∀ (y1 : Int32), y1.toInt = (gn (ga mem 13) (ru).toInt) → (k).toInt < (gn (ga mem 13) (ru).toInt) → 2 ≤ (p).toInt → ∀ (x9 : Int32), x9.toInt = ((p).toInt + 1) → ((p).toInt + 1) < 128 → ∀ (y12 : Int32), y12.toInt = (gn (ga mem 11) (k).toInt) → ∀ (x17 : Int32), x17.toInt = ((gn (ga mem 11) (k).toInt) - 10000) → ((gn (ga mem 11) (k).toInt) - 10000) < 0 → ∀ (x104 : Int32), x104.toInt = ((p).toInt + 1) → ∀ (x109 : Int32), x109.toInt = ((k).toInt + 1) → ∀ lo, zlg lo 0 = some (.ref 182) → zlg lo 1 = some (.ref 10) → zlg lo 2 = some (.int ru) → zlg lo 3 = some (.int x104) → zlg lo 4 = some (.int x109) → aTm aT0 (sx mem 183 x104 y12) → yR zpg tX6_value (d + 3) (10, lo, [], (sx mem 183 x104 y12)) P) (h10 : ∀ (y1 : Int32), y1.toInt = (gn (ga mem 13) (ru).toInt) → (k).toInt < (gn (ga mem 13) (ru).toInt) → 2 ≤ (p).toInt → ∀ (x9 : Int32), x9.toInt = ((p).toInt + 1) → 128 ≤ ((p).toInt + 1) → aTm aT0 mem → P (some (.int 0)) mem) : yR zpg tX6_value (d + 3) (10, lo, [], mem) P := by
  have r13 := gR_13 hm (i := ru.toInt) hr.1 (by omega)
  refine wR_li rfl l_4 ?_
  refine wR_la rfl l_1 ?_
  refine wR_gr rfl rlA_e rlA_2 hm ?_
  refine wR_li rfl l_2 ?_
  refine wN_al (a := (ru).toInt) rfl aR_13 hm rfl rfl (by omega) (fun y1 e2 => ?_)
  refine wR_ic_ge rfl (a := (k).toInt) (c := (gn (ga mem 13) (ru).toInt)) rfl e2 (fun q3 => ?_) (fun q3 => ?_)
  ·
    refine wR_la rfl l_0 ?_
    refine wR_gr rfl rkO_e rkO_0 hm ?_
    refine wR_li rfl l_3 ?_
    refine yR_m 1 (fun _ _ _ _ => rfl) ?_
    refine wN_mx (a := (p).toInt) (b := 0) rfl rfl rfl rfl (fun x4 e5 => ?_)
    refine wN_al (a := (max (p).toInt 0)) rfl aR_183 hm rfl e5 (by omega) (fun y6 e7 => ?_)
    exact yR_ri rfl (h1 y1 e2 q3 x4 e5 y6 e7 hm)
  ·
    refine wR_li rfl l_3 ?_
    refine yR_m 1 (fun _ _ _ _ => rfl) ?_
    refine wR_ic_lt rfl (a := (p).toInt) (c := 2) rfl rfl (fun q8 => ?_) (fun q8 => ?_)
    ·
      refine yR_m 1 (fun _ _ _ _ => rfl) ?_
      exact yR_ri rfl (h2 y1 e2 q3 q8 hm)
    ·
      refine wR_li rfl l_3 ?_
      refine yR_m 1 (fun _ _ _ _ => rfl) ?_
      refine wN_add (a := (p).toInt) (b := 1) rfl rfl rfl (by omega) (fun x9 e10 => ?_)
      refine yR_m 1 (fun _ _ _ _ => rfl) ?_
      refine wR_ic_lt rfl (a := ((p).toInt + 1)) (c := 128) e10 rfl (fun q11 => ?_) (fun q11 => ?_)
      ·
        refine wR_la rfl l_1 ?_
        refine wR_gr rfl rlA_e rlA_0 hm ?_
        refine wR_li rfl l_4 ?_
        refine wN_al (a := (k).toInt) rfl aR_11 hm rfl rfl (by omega) (fun y12 e13 => ?_)
        refine wR_si rfl rfl (fun lo14 e15 f16 => ?_)
        have lo14_0 := f16 0 _ (by decide) (Or.inl rfl) l_0
        have lo14_1 := f16 1 _ (by decide) (Or.inl rfl) l_1
        have lo14_2 := f16 2 _ (by decide) (Or.inl rfl) l_2
        have lo14_3 := f16 3 _ (by decide) (Or.inl rfl) l_3
        have lo14_4 := f16 4 _ (by decide) (Or.inl rfl) l_4
        refine wR_li rfl e15 ?_
        refine yR_m 1 (fun _ _ _ _ => rfl) ?_
        refine wN_sub (a := (gn (ga mem 11) (k).toInt)) (b := 10000) rfl e13 rfl (s1 y1 e2 q3 q8 x9 e10 q11 y12 e13) (fun x17 e18 => ?_)
        refine wR_si rfl rfl (fun lo19 e20 f21 => ?_)
        have lo19_5 := f21 5 _ (by decide) (Or.inl rfl) e15
        have lo19_0 := f21 0 _ (by decide) (Or.inl rfl) lo14_0
        have lo19_1 := f21 1 _ (by decide) (Or.inl rfl) lo14_1
        have lo19_2 := f21 2 _ (by decide) (Or.inl rfl) lo14_2
        have lo19_3 := f21 3 _ (by decide) (Or.inl rfl) lo14_3
        have lo19_4 := f21 4 _ (by decide) (Or.inl rfl) lo14_4
        refine wR_li rfl e20 ?_
        refine wR_if_ge rfl (a := ((gn (ga mem 11) (k).toInt) - 10000)) e18 (fun q22 => ?_) (fun q22 => ?_)
        ·
          refine wR_li rfl e20 ?_
          refine yR_m 1 (fun _ _ _ _ => rfl) ?_
          refine wR_ic_ne rfl (a := ((gn (ga mem 11) (k).toInt) - 10000)) (c := 22) e18 rfl (fun q23 => ?_) (fun q23 => ?_)
          ·
            refine wR_li rfl e20 ?_
            refine yR_m 1 (fun _ _ _ _ => rfl) ?_
            refine wR_ic_ne rfl (a := ((gn (ga mem 11) (k).toInt) - 10000)) (c := 19) e18 rfl (fun q24 => ?_) (fun q24 => ?_)
            ·
              refine wR_li rfl e20 ?_
              refine yR_m 1 (fun _ _ _ _ => rfl) ?_
              refine wR_ic_lt rfl (a := ((gn (ga mem 11) (k).toInt) - 10000)) (c := 20) e18 rfl (fun q25 => ?_) (fun q25 => ?_)
              ·
                refine wN_in (a := (p).toInt) (b := 1) rfl rfl lo19_3 rfl rfl (by omega) (fun x26 e27 => fun lo28 e29 f30 => ?_)
                have lo28_6 := f30 6 _ (by decide) (Or.inl rfl) e20
                have lo28_5 := f30 5 _ (by decide) (Or.inl rfl) lo19_5
                have lo28_0 := f30 0 _ (by decide) (Or.inl rfl) lo19_0
                have lo28_1 := f30 1 _ (by decide) (Or.inl rfl) lo19_1
                have lo28_2 := f30 2 _ (by decide) (Or.inl rfl) lo19_2
                have lo28_4 := f30 4 _ (by decide) (Or.inl rfl) lo19_4
                refine wR_la rfl lo28_0 ?_
                refine wR_gr rfl rkO_e rkO_0 hm ?_
                refine wR_li rfl e29 ?_
                refine wR_la rfl lo28_0 ?_
                refine wR_li rfl lo28_6 ?_
                refine wR_cv rfl rfl rkO_e hm rfl (h_na hm e18 (by omega)) ?_
                rintro _ _ ⟨v31, rfl, rfl, k32⟩
                show yR zpg tX6_value (d + 3) (203, lo28, [.int v31, .int x26, .ref 183], mem) _
                refine wN_as (a := ((p).toInt + 1)) rfl aR_183 hm e27 (by omega) ?_
                have hm_1 : aTm aT0 (sx mem 183 x26 v31) := tm_sa aR_183 hm (i32_b _)
                refine wN_in (a := (k).toInt) (b := 1) rfl rfl lo28_4 rfl rfl (by omega) (fun x33 e34 => fun lo35 e36 f37 => ?_)
                have lo35_3 := f37 3 _ (by decide) (Or.inl rfl) e29
                have lo35_6 := f37 6 _ (by decide) (Or.inl rfl) lo28_6
                have lo35_5 := f37 5 _ (by decide) (Or.inl rfl) lo28_5
                have lo35_0 := f37 0 _ (by decide) (Or.inl rfl) lo28_0
                have lo35_1 := f37 1 _ (by decide) (Or.inl rfl) lo28_1
                have lo35_2 := f37 2 _ (by decide) (Or.inl rfl) lo28_2
                exact yR_m 1 (fun _ _ _ _ => rfl) (h3 y1 e2 q3 q8 x9 e10 q11 y12 e13 x17 e18 q22 q23 q24 q25 x26 e27 v31 k32 x33 e34 lo35 lo35_0 lo35_1 lo35_2 lo35_3 e36 hm_1)
              ·
                refine wR_li rfl e20 ?_
                refine yR_m 1 (fun _ _ _ _ => rfl) ?_
                refine wR_ic_eq rfl (a := ((gn (ga mem 11) (k).toInt) - 10000)) (c := 23) e18 rfl (fun q38 => ?_) (fun q38 => ?_)
                ·
                  refine wN_in (a := (p).toInt) (b := 1) rfl rfl lo19_3 rfl rfl (by omega) (fun x39 e40 => fun lo41 e42 f43 => ?_)
                  have lo41_6 := f43 6 _ (by decide) (Or.inl rfl) e20
                  have lo41_5 := f43 5 _ (by decide) (Or.inl rfl) lo19_5
                  have lo41_0 := f43 0 _ (by decide) (Or.inl rfl) lo19_0
                  have lo41_1 := f43 1 _ (by decide) (Or.inl rfl) lo19_1
                  have lo41_2 := f43 2 _ (by decide) (Or.inl rfl) lo19_2
                  have lo41_4 := f43 4 _ (by decide) (Or.inl rfl) lo19_4
                  refine wR_la rfl lo41_0 ?_
                  refine wR_gr rfl rkO_e rkO_0 hm ?_
                  refine wR_li rfl e42 ?_
                  refine wR_la rfl lo41_0 ?_
                  refine wR_li rfl lo41_6 ?_
                  refine wR_cv rfl rfl rkO_e hm rfl (h_na hm e18 (by omega)) ?_
                  rintro _ _ ⟨v44, rfl, rfl, k45⟩
                  show yR zpg tX6_value (d + 3) (203, lo41, [.int v44, .int x39, .ref 183], mem) _
                  refine wN_as (a := ((p).toInt + 1)) rfl aR_183 hm e40 (by omega) ?_
                  have hm_2 : aTm aT0 (sx mem 183 x39 v44) := tm_sa aR_183 hm (i32_b _)
                  refine wN_in (a := (k).toInt) (b := 1) rfl rfl lo41_4 rfl rfl (by omega) (fun x46 e47 => fun lo48 e49 f50 => ?_)
                  have lo48_3 := f50 3 _ (by decide) (Or.inl rfl) e42
                  have lo48_6 := f50 6 _ (by decide) (Or.inl rfl) lo41_6
                  have lo48_5 := f50 5 _ (by decide) (Or.inl rfl) lo41_5
                  have lo48_0 := f50 0 _ (by decide) (Or.inl rfl) lo41_0
                  have lo48_1 := f50 1 _ (by decide) (Or.inl rfl) lo41_1
                  have lo48_2 := f50 2 _ (by decide) (Or.inl rfl) lo41_2
                  exact yR_m 1 (fun _ _ _ _ => rfl) (h4 y1 e2 q3 q8 x9 e10 q11 y12 e13 x17 e18 q22 q23 q24 q25 q38 x39 e40 v44 k45 x46 e47 lo48 lo48_0 lo48_1 lo48_2 lo48_3 e49 hm_2)
                ·
                  refine wN_in (a := (p).toInt) (b := (-1)) rfl rfl lo19_3 rfl tm1 (by omega) (fun x51 e52 => fun lo53 e54 f55 => ?_)
                  have lo53_6 := f55 6 _ (by decide) (Or.inl rfl) e20
                  have lo53_5 := f55 5 _ (by decide) (Or.inl rfl) lo19_5
                  have lo53_0 := f55 0 _ (by decide) (Or.inl rfl) lo19_0
                  have lo53_1 := f55 1 _ (by decide) (Or.inl rfl) lo19_1
                  have lo53_2 := f55 2 _ (by decide) (Or.inl rfl) lo19_2
                  have lo53_4 := f55 4 _ (by decide) (Or.inl rfl) lo19_4
                  refine wR_la rfl lo53_0 ?_
                  refine wR_gr rfl rkO_e rkO_0 hm ?_
                  refine wR_li rfl e54 ?_
                  refine wR_li rfl lo53_6 ?_
                  refine wR_la rfl lo53_0 ?_
                  refine wR_gr rfl rkO_e rkO_0 hm ?_
                  refine wR_li rfl e54 ?_
                  refine wN_al (a := ((p).toInt + (-1))) rfl aR_183 hm rfl e52 (by omega) (fun y56 e57 => ?_)
                  refine wR_la rfl lo53_0 ?_
                  refine wR_gr rfl rkO_e rkO_0 hm ?_
                  refine wR_li rfl e54 ?_
                  refine yR_m 1 (fun _ _ _ _ => rfl) ?_
                  refine wN_add (a := ((p).toInt + (-1))) (b := 1) rfl e52 rfl (by omega) (fun x58 e59 => ?_)
                  refine wN_al (a := (((p).toInt + (-1)) + 1)) rfl aR_183 hm rfl e59 (by omega) (fun y60 e61 => ?_)
                  refine yR_cs rfl rfl rfl (h_jo2 hm e18 e57 e61 (s2 y1 e2 q3 q8 x9 e10 q11 y12 e13 x17 e18 q22 q23 q24 q25 q38 x51 e52 y56 e57 x58 e59 y60 e61) (s3 y1 e2 q3 q8 x9 e10 q11 y12 e13 x17 e18 q22 q23 q24 q25 q38 x51 e52 y56 e57 x58 e59 y60 e61) (by omega)) ?_
                  rintro _ _ ⟨v62, rfl, rfl, k63⟩
                  show yR zpg tX6_value (d + 3) (185, lo53, [.int v62, .int x51, .ref 183], mem) _
                  refine wN_as (a := ((p).toInt + (-1))) rfl aR_183 hm e52 (by omega) ?_
                  have hm_3 : aTm aT0 (sx mem 183 x51 v62) := tm_sa aR_183 hm (i32_b _)
                  refine yR_m 1 (fun _ _ _ _ => rfl) ?_
                  refine wN_in (a := (k).toInt) (b := 1) rfl rfl lo53_4 rfl rfl (by omega) (fun x64 e65 => fun lo66 e67 f68 => ?_)
                  have lo66_3 := f68 3 _ (by decide) (Or.inl rfl) e54
                  have lo66_6 := f68 6 _ (by decide) (Or.inl rfl) lo53_6
                  have lo66_5 := f68 5 _ (by decide) (Or.inl rfl) lo53_5
                  have lo66_0 := f68 0 _ (by decide) (Or.inl rfl) lo53_0
                  have lo66_1 := f68 1 _ (by decide) (Or.inl rfl) lo53_1
                  have lo66_2 := f68 2 _ (by decide) (Or.inl rfl) lo53_2
                  exact yR_m 1 (fun _ _ _ _ => rfl) (h5 y1 e2 q3 q8 x9 e10 q11 y12 e13 x17 e18 q22 q23 q24 q25 q38 x51 e52 y56 e57 x58 e59 y60 e61 v62 k63 x64 e65 lo66 lo66_0 lo66_1 lo66_2 lo66_3 e67 hm_3)
            ·
              refine wN_in (a := (p).toInt) (b := (-2)) rfl rfl lo19_3 rfl tm2 (by omega) (fun x69 e70 => fun lo71 e72 f73 => ?_)
              have lo71_6 := f73 6 _ (by decide) (Or.inl rfl) e20
              have lo71_5 := f73 5 _ (by decide) (Or.inl rfl) lo19_5
              have lo71_0 := f73 0 _ (by decide) (Or.inl rfl) lo19_0
              have lo71_1 := f73 1 _ (by decide) (Or.inl rfl) lo19_1
              have lo71_2 := f73 2 _ (by decide) (Or.inl rfl) lo19_2
              have lo71_4 := f73 4 _ (by decide) (Or.inl rfl) lo19_4
              refine wR_la rfl lo71_0 ?_
              refine wR_gr rfl rkO_e rkO_0 hm ?_
              refine wR_li rfl e72 ?_
              refine wR_la rfl lo71_0 ?_
              refine wR_gr rfl rkO_e rkO_0 hm ?_
              refine wR_li rfl e72 ?_
              refine wN_al (a := ((p).toInt + (-2))) rfl aR_183 hm rfl e70 (by omega) (fun y74 e75 => ?_)
              refine wR_if_eq rfl (a := (gn (ga mem 183) ((p).toInt + (-2)))) e75 (fun q76 => ?_) (fun q76 => ?_)
              ·
                refine wR_la rfl lo71_0 ?_
                refine wR_gr rfl rkO_e rkO_0 hm ?_
                refine wR_li rfl e72 ?_
                refine yR_m 1 (fun _ _ _ _ => rfl) ?_
                refine wN_add (a := ((p).toInt + (-2))) (b := 2) rfl e70 rfl (by omega) (fun x77 e78 => ?_)
                refine wN_al (a := (((p).toInt + (-2)) + 2)) rfl aR_183 hm rfl e78 (by omega) (fun y79 e80 => ?_)
                refine wN_as (a := ((p).toInt + (-2))) rfl aR_183 hm e70 (by omega) ?_
                have hm_4 : aTm aT0 (sx mem 183 x69 y79) := tm_sa aR_183 hm (i32_b _)
                refine yR_m 1 (fun _ _ _ _ => rfl) ?_
                refine wN_in (a := (k).toInt) (b := 1) rfl rfl lo71_4 rfl rfl (by omega) (fun x81 e82 => fun lo83 e84 f85 => ?_)
                have lo83_3 := f85 3 _ (by decide) (Or.inl rfl) e72
                have lo83_6 := f85 6 _ (by decide) (Or.inl rfl) lo71_6
                have lo83_5 := f85 5 _ (by decide) (Or.inl rfl) lo71_5
                have lo83_0 := f85 0 _ (by decide) (Or.inl rfl) lo71_0
                have lo83_1 := f85 1 _ (by decide) (Or.inl rfl) lo71_1
                have lo83_2 := f85 2 _ (by decide) (Or.inl rfl) lo71_2
                exact yR_m 1 (fun _ _ _ _ => rfl) (h6 y1 e2 q3 q8 x9 e10 q11 y12 e13 x17 e18 q22 q23 q24 x69 e70 y74 e75 q76 x77 e78 y79 e80 x81 e82 lo83 lo83_0 lo83_1 lo83_2 lo83_3 e84 hm_4)
              ·
                refine wR_la rfl lo71_0 ?_
                refine wR_gr rfl rkO_e rkO_0 hm ?_
                refine wR_li rfl e72 ?_
                refine yR_m 1 (fun _ _ _ _ => rfl) ?_
                refine wN_add (a := ((p).toInt + (-2))) (b := 1) rfl e70 rfl (by omega) (fun x86 e87 => ?_)
                refine wN_al (a := (((p).toInt + (-2)) + 1)) rfl aR_183 hm rfl e87 (by omega) (fun y88 e89 => ?_)
                refine yR_m 1 (fun _ _ _ _ => rfl) ?_
                refine wN_as (a := ((p).toInt + (-2))) rfl aR_183 hm e70 (by omega) ?_
                have hm_5 : aTm aT0 (sx mem 183 x69 y88) := tm_sa aR_183 hm (i32_b _)
                refine yR_m 1 (fun _ _ _ _ => rfl) ?_
                refine wN_in (a := (k).toInt) (b := 1) rfl rfl lo71_4 rfl rfl (by omega) (fun x90 e91 => fun lo92 e93 f94 => ?_)
                have lo92_3 := f94 3 _ (by decide) (Or.inl rfl) e72
                have lo92_6 := f94 6 _ (by decide) (Or.inl rfl) lo71_6
                have lo92_5 := f94 5 _ (by decide) (Or.inl rfl) lo71_5
                have lo92_0 := f94 0 _ (by decide) (Or.inl rfl) lo71_0
                have lo92_1 := f94 1 _ (by decide) (Or.inl rfl) lo71_1
                have lo92_2 := f94 2 _ (by decide) (Or.inl rfl) lo71_2
                exact yR_m 1 (fun _ _ _ _ => rfl) (h7 y1 e2 q3 q8 x9 e10 q11 y12 e13 x17 e18 q22 q23 q24 x69 e70 y74 e75 q76 x86 e87 y88 e89 x90 e91 lo92 lo92_0 lo92_1 lo92_2 lo92_3 e93 hm_5)
          ·
            refine wR_la rfl lo19_0 ?_
            refine wR_gr rfl rkO_e rkO_0 hm ?_
            refine wR_li rfl lo19_3 ?_
            refine yR_m 1 (fun _ _ _ _ => rfl) ?_
            refine wR_la rfl lo19_0 ?_
            refine wR_gr rfl rkO_e rkO_0 hm ?_
            refine wR_li rfl lo19_3 ?_
            refine wN_al (a := (p).toInt) rfl aR_183 hm rfl rfl (by omega) (fun y95 e96 => ?_)
            refine wN_sub (a := 1) (b := (gn (ga mem 183) (p).toInt)) rfl rfl e96 (s4 y1 e2 q3 q8 x9 e10 q11 y12 e13 x17 e18 q22 q23 y95 e96) (fun x97 e98 => ?_)
            refine wN_as (a := (p).toInt) rfl aR_183 hm rfl (by omega) ?_
            have hm_6 : aTm aT0 (sx mem 183 p x97) := tm_sa aR_183 hm (i32_b _)
            refine yR_m 1 (fun _ _ _ _ => rfl) ?_
            refine wN_in (a := (k).toInt) (b := 1) rfl rfl lo19_4 rfl rfl (by omega) (fun x99 e100 => fun lo101 e102 f103 => ?_)
            have lo101_6 := f103 6 _ (by decide) (Or.inl rfl) e20
            have lo101_5 := f103 5 _ (by decide) (Or.inl rfl) lo19_5
            have lo101_0 := f103 0 _ (by decide) (Or.inl rfl) lo19_0
            have lo101_1 := f103 1 _ (by decide) (Or.inl rfl) lo19_1
            have lo101_2 := f103 2 _ (by decide) (Or.inl rfl) lo19_2
            have lo101_3 := f103 3 _ (by decide) (Or.inl rfl) lo19_3
            exact yR_m 1 (fun _ _ _ _ => rfl) (h8 y1 e2 q3 q8 x9 e10 q11 y12 e13 x17 e18 q22 q23 y95 e96 x97 e98 x99 e100 lo101 lo101_0 lo101_1 lo101_2 lo101_3 e102 hm_6)
        ·
          refine wN_in (a := (p).toInt) (b := 1) rfl rfl lo19_3 rfl rfl (by omega) (fun x104 e105 => fun lo106 e107 f108 => ?_)
          have lo106_6 := f108 6 _ (by decide) (Or.inl rfl) e20
          have lo106_5 := f108 5 _ (by decide) (Or.inl rfl) lo19_5
          have lo106_0 := f108 0 _ (by decide) (Or.inl rfl) lo19_0
          have lo106_1 := f108 1 _ (by decide) (Or.inl rfl) lo19_1
          have lo106_2 := f108 2 _ (by decide) (Or.inl rfl) lo19_2
          have lo106_4 := f108 4 _ (by decide) (Or.inl rfl) lo19_4
          refine wR_la rfl lo106_0 ?_
          refine wR_gr rfl rkO_e rkO_0 hm ?_
          refine wR_li rfl e107 ?_
          refine wR_li rfl lo106_5 ?_
          refine wN_as (a := ((p).toInt + 1)) rfl aR_183 hm e105 (by omega) ?_
          have hm_7 : aTm aT0 (sx mem 183 x104 y12) := tm_sa aR_183 hm (i32_b _)
          refine yR_m 1 (fun _ _ _ _ => rfl) ?_
          refine wN_in (a := (k).toInt) (b := 1) rfl rfl lo106_4 rfl rfl (by omega) (fun x109 e110 => fun lo111 e112 f113 => ?_)
          have lo111_3 := f113 3 _ (by decide) (Or.inl rfl) e107
          have lo111_6 := f113 6 _ (by decide) (Or.inl rfl) lo106_6
          have lo111_5 := f113 5 _ (by decide) (Or.inl rfl) lo106_5
          have lo111_0 := f113 0 _ (by decide) (Or.inl rfl) lo106_0
          have lo111_1 := f113 1 _ (by decide) (Or.inl rfl) lo106_1
          have lo111_2 := f113 2 _ (by decide) (Or.inl rfl) lo106_2
          exact yR_m 1 (fun _ _ _ _ => rfl) (h9 y1 e2 q3 q8 x9 e10 q11 y12 e13 x17 e18 q22 x104 e105 x109 e110 lo111 lo111_0 lo111_1 lo111_2 lo111_3 e112 hm_7)
      ·
        refine yR_m 1 (fun _ _ _ _ => rfl) ?_
        exact yR_ri rfl (h10 y1 e2 q3 q8 x9 e10 q11 hm)

theorem va_loopA {env : Int → Int} {mr : zM} {ru : Int32} {b : Bool} (he : ∀ w, -1000000 ≤ env w ∧ env w ≤ 1000000) (hr : 0 ≤ ru.toInt ∧ ru.toInt ≤ 2) : ∀ (c : List Int) (st : List Bool) (vs : List Int) (p k : Int32) (mem : zM) (lo : List (Nat × Value)), (∀ w, isE (10000 + w) → 10000 + w ∈ c → naC mr w = env w) → tyS c st = some [b] → vsOK st vs → p.toInt = 2 + (vs.length : Int) → 0 ≤ k.toInt → k.toInt + (c.length : Int) ≤ 1600 → (∀ i : Nat, i < c.length → gn (ga mr 11) (k.toInt + (i : Int)) = c.getD i 0) → gn (ga mr 13) ru.toInt = k.toInt + (c.length : Int) → sk (gn (ga mem 183)) p.toInt vs → aTm aT0 mem → onl [183] mr mem → zlg lo 0 = some (.ref 182) → zlg lo 1 = some (.ref 10) → zlg lo 2 = some (.int ru) → zlg lo 3 = some (.int p) → zlg lo 4 = some (.int k) → yR zpg tX6_value (d + 3) (10, lo, [], mem) (fun r m => ∃ v : Int32, r = some (.int v) ∧ aTm aT0 m ∧ (onl [183] mr m ∧ v.toInt = (rvS env c vs).headD 0)) := by
  intro c
  induction c with
  | nil =>
    intro st vs p k mem lo hn ht hv hp k0 k1 hc hE hs hm ho l0 l1 l2 l3 l4
    have ht : some st = some [b] := ht
    cases ht
    obtain ⟨x, s, rfl, -, hz⟩ := vs_c hv
    have hE : gn (ga mem 13) ru.toInt = k.toInt := by
      rw [onl_ga ho rfl, hE]
      show k.toInt + 0 = k.toInt
      omega
    have sl := vs_len hz
    have sl : s.length = 0 := sl
    rw [List.length_cons] at hp
    have hx : gn (ga mem 183) p.toInt = x := hs.1
    refine w_vlA hm l0 l1 l2 l3 l4 hr (by omega) (by omega) 
        (fun y1 e2 q3 x4 e5 y6 e7 hm2 => ⟨_, rfl, hm2, ho, by rw [e7, show max p.toInt 0 = p.toInt by omega]; exact hx⟩)
        (fun y1 e2 q3 q8 hm2 => by exfalso; omega)
        (fun y1 e2 q3 q8 x9 e10 q11 y12 e13 => by exfalso; omega)
        (fun y1 e2 q3 q8 x9 e10 q11 y12 e13 x17 e18 q22 q23 q24 q25 x26 e27 v31 k32 x33 e34 lo a0 a1 a2 a3 a4 hm2 => by exfalso; omega)
        (fun y1 e2 q3 q8 x9 e10 q11 y12 e13 x17 e18 q22 q23 q24 q25 q38 x39 e40 v44 k45 x46 e47 lo a0 a1 a2 a3 a4 hm2 => by exfalso; omega)
        (fun y1 e2 q3 q8 x9 e10 q11 y12 e13 x17 e18 q22 q23 q24 q25 q38 x51 e52 y56 e57 x58 e59 y60 e61 => by exfalso; omega)
        (fun y1 e2 q3 q8 x9 e10 q11 y12 e13 x17 e18 q22 q23 q24 q25 q38 x51 e52 y56 e57 x58 e59 y60 e61 => by exfalso; omega)
        (fun y1 e2 q3 q8 x9 e10 q11 y12 e13 x17 e18 q22 q23 q24 q25 q38 x51 e52 y56 e57 x58 e59 y60 e61 v62 k63 x64 e65 lo a0 a1 a2 a3 a4 hm2 => by exfalso; omega)
        (fun y1 e2 q3 q8 x9 e10 q11 y12 e13 x17 e18 q22 q23 q24 x69 e70 y74 e75 q76 x77 e78 y79 e80 x81 e82 lo a0 a1 a2 a3 a4 hm2 => by exfalso; omega)
        (fun y1 e2 q3 q8 x9 e10 q11 y12 e13 x17 e18 q22 q23 q24 x69 e70 y74 e75 q76 x86 e87 y88 e89 x90 e91 lo a0 a1 a2 a3 a4 hm2 => by exfalso; omega)
        (fun y1 e2 q3 q8 x9 e10 q11 y12 e13 x17 e18 q22 q23 y95 e96 => by exfalso; omega)
        (fun y1 e2 q3 q8 x9 e10 q11 y12 e13 x17 e18 q22 q23 y95 e96 x97 e98 x99 e100 lo a0 a1 a2 a3 a4 hm2 => by exfalso; omega)
        (fun y1 e2 q3 q8 x9 e10 q11 y12 e13 x17 e18 q22 x104 e105 x109 e110 lo a0 a1 a2 a3 a4 hm2 => by exfalso; omega)
        (fun y1 e2 q3 q8 x9 e10 q11 hm2 => by exfalso; omega)
  | cons i c ih =>
    intro st vs p k mem lo hn ht hv hp k0 k1 hc hE hs hm ho l0 l1 l2 l3 l4
    obtain ⟨st', h1, ht⟩ := ob_s (show (ty1 i st).bind (tyS c) = some [b] from ht)
    obtain ⟨q1, q2, q3⟩ := rv_cs he h1 hv
    rw [List.length_cons] at k1 hE hc
    have hE' : gn (ga mem 13) ru.toInt = k.toInt + ((c.length + 1 : Nat) : Int) := by rw [onl_ga ho rfl, hE]
    have hi : gn (ga mem 11) k.toInt = i := by
      have q := hc 0 (by omega)
      rw [onl_ga ho rfl]
      refine Eq.trans ?_ q
      rw [show k.toInt + ((0 : Nat) : Int) = k.toInt by omega]
    have hc' : ∀ z : Nat, z < c.length → gn (ga mr 11) (k.toInt + 1 + (z : Int)) = c.getD z 0 := fun z hz => by
      have q := hc (z + 1) (by omega)
      rw [show k.toInt + 1 + (z : Int) = k.toInt + ((z + 1 : Nat) : Int) by omega]
      exact q
    have go : ∀ (j p' k' v : Int32) (lo' : List (Nat × Value)) (x : Int) (s : List Int), rv1 env i vs = x :: s → v.toInt = x → j.toInt = p'.toInt → p'.toInt = 2 + ((s.length + 1 : Nat) : Int) → k'.toInt = k.toInt + 1 → sk (gn (ga mem 183)) (p'.toInt - 1) s → aTm aT0 (sx mem 183 j v) → zlg lo' 0 = some (.ref 182) → zlg lo' 1 = some (.ref 10) → zlg lo' 2 = some (.int ru) → zlg lo' 3 = some (.int p') → zlg lo' 4 = some (.int k') → yR zpg tX6_value (d + 3) (10, lo', [], sx mem 183 j v) (fun r m => ∃ v : Int32, r = some (.int v) ∧ aTm aT0 m ∧ (onl [183] mr m ∧ v.toInt = (rvS env (i :: c) vs).headD 0)) := by
      intro j p' k' v lo' x s e1 e2 e3 e4 e5 e6 e7 a0 a1 a2 a3 a4
      have q3 := q3
      have q4 := vs_len q3
      rw [e1] at q3
      have z := ih st' (x :: s) p' k' (sx mem 183 j v) lo' (fun w h1 h2 => hn w h1 (List.mem_cons_of_mem _ h2)) ht q3 (by rw [List.length_cons]; exact e4) (by omega) (by omega) (fun z hz => by rw [e5]; exact hc' z hz) (by rw [hE, e5]; omega) ?_ e7 (onl_sa rfl ho) a0 a1 a2 a3 a4
      · show yR zpg tX6_value (d + 3) (10, lo', [], sx mem 183 j v) (fun r m => ∃ v : Int32, r = some (.int v) ∧ aTm aT0 m ∧ (onl [183] mr m ∧ v.toInt = (rvS env c (rv1 env i vs)).headD 0))
        rw [e1]
        exact z
      · have s1 : (s.length : Int) ≤ j.toInt := by omega
        have s2 : (rv1 env i vs).length ≤ 101 := by
          rcases q2 with ⟨-, -, e⟩ | ⟨-, e⟩ | ⟨-, e⟩ | ⟨-, x, r, e0, -, e⟩ | ⟨-, x, y, z, r, e0, -, e⟩ | ⟨-, x, y, r, e0, -, -, -, e⟩
          · rw [e, List.length_cons]
            omega
          · rw [e, List.length_cons]
            omega
          · rw [e, List.length_cons]
            omega
          · rw [e0, List.length_cons] at q1
            rw [e, List.length_cons]
            omega
          · rw [e0, List.length_cons, List.length_cons, List.length_cons] at q1
            rw [e, List.length_cons]
            omega
          · rw [e0, List.length_cons, List.length_cons] at q1
            rw [e, List.length_cons]
            omega
        rw [e1, List.length_cons] at s2
        rw [← e3, ← e2]
        exact sk_st hm s1 (by omega) (by rw [e3]; exact e6)
    have hk2 : 0 ≤ i := by
      rcases q2 with ⟨e, -⟩ | ⟨e, -⟩ | ⟨e, -⟩ | ⟨e, -⟩ | ⟨e, -⟩ | ⟨e, -⟩
      · exact e
      · omega
      · unfold isE at e
        omega
      · omega
      · omega
      · unfold isA isC at e
        omega
    have hk3 : i ≤ 10062 := by
      rcases q2 with ⟨-, e, -⟩ | ⟨e, -⟩ | ⟨e, -⟩ | ⟨e, -⟩ | ⟨e, -⟩ | ⟨e, -⟩
      · omega
      · omega
      · unfold isE at e
        omega
      · omega
      · omega
      · unfold isA isC at e
        omega
    have hNA : ∀ v : Int32, 10000 ≤ i → ¬ i = 10022 → ¬ i = 10019 → (i < 10020 ∨ i = 10023) → v.toInt = naC mem (i - 10000) → rv1 env i vs = v.toInt :: vs := by
      intro v _ _ _ _ hv'
      rcases q2 with ⟨-, e, -⟩ | ⟨e, e'⟩ | ⟨e, e'⟩ | ⟨e, -⟩ | ⟨e, -⟩ | ⟨e, -⟩
      · exfalso
        omega
      · rw [e', hv', e]
        rfl
      · rw [e', hv', naC_c ho rfl, hn (i - 10000) (by rw [show 10000 + (i - 10000) = i by omega]; exact e) (by rw [show 10000 + (i - 10000) = i by omega]; exact List.mem_cons_self)]
      · exfalso
        omega
      · exfalso
        omega
      · exfalso
        unfold isA isC at e
        omega
    have hBI : 10020 ≤ i → ¬ i = 10022 → ¬ i = 10019 → ¬ i = 10023 → ∃ r, rv1 env i vs = twoI (i - 10000) (gn (ga mem 183) (p.toInt - 1)) (gn (ga mem 183) p.toInt) :: r ∧ vs.length = r.length + 2 ∧ sk (gn (ga mem 183)) (p.toInt - 2) r ∧ (-1000000 ≤ gn (ga mem 183) (p.toInt - 1) ∧ gn (ga mem 183) (p.toInt - 1) ≤ 1000000) ∧ (-1000000 ≤ gn (ga mem 183) p.toInt ∧ gn (ga mem 183) p.toInt ≤ 1000000) := by
      intro _ _ _ _
      rcases q2 with ⟨-, e, -⟩ | ⟨e, -⟩ | ⟨e, -⟩ | ⟨e, -⟩ | ⟨e, -⟩ | ⟨-, x, y, r, e0, b1, b2, -, e⟩
      · exfalso
        omega
      · exfalso
        omega
      · exfalso
        unfold isE at e
        omega
      · exfalso
        omega
      · exfalso
        omega
      · rw [e0] at hs
        obtain ⟨y1, x1, s1⟩ := hs
        rw [show p.toInt - 1 - 1 = p.toInt - 2 by omega] at s1
        rw [x1, y1]
        exact ⟨r, e, by rw [e0]; rfl, s1, b1, b2⟩
    have hIF : i = 10019 → ∃ r, rv1 env i vs = (if gn (ga mem 183) (p.toInt - 2) = 0 then gn (ga mem 183) p.toInt else gn (ga mem 183) (p.toInt - 1)) :: r ∧ vs.length = r.length + 3 ∧ sk (gn (ga mem 183)) (p.toInt - 3) r := by
      intro _
      rcases q2 with ⟨-, e, -⟩ | ⟨e, -⟩ | ⟨e, -⟩ | ⟨e, -⟩ | ⟨-, x, y, z, r, e0, -, e⟩ | ⟨e, -⟩
      · exfalso
        omega
      · exfalso
        omega
      · exfalso
        unfold isE at e
        omega
      · exfalso
        omega
      · rw [e0] at hs
        obtain ⟨z1, y1, x1, s1⟩ := hs
        rw [show p.toInt - 1 - 1 = p.toInt - 2 by omega] at x1 s1
        rw [show p.toInt - 2 - 1 = p.toInt - 3 by omega] at s1
        rw [x1, y1, z1]
        exact ⟨r, e, by rw [e0]; rfl, s1⟩
      · exfalso
        unfold isA isC at e
        omega
    have hNO : i = 10022 → ∃ r, rv1 env i vs = (1 - gn (ga mem 183) p.toInt) :: r ∧ vs.length = r.length + 1 ∧ sk (gn (ga mem 183)) (p.toInt - 1) r ∧ (gn (ga mem 183) p.toInt = 0 ∨ gn (ga mem 183) p.toInt = 1) := by
      intro _
      rcases q2 with ⟨-, e, -⟩ | ⟨e, -⟩ | ⟨e, -⟩ | ⟨-, x, r, e0, b1, e⟩ | ⟨e, -⟩ | ⟨e, -⟩
      · exfalso
        omega
      · exfalso
        omega
      · exfalso
        unfold isE at e
        omega
      · rw [e0] at hs
        obtain ⟨x1, s1⟩ := hs
        rw [x1]
        exact ⟨r, e, by rw [e0]; rfl, s1, b1⟩
      · exfalso
        omega
      · exfalso
        unfold isA isC at e
        omega
    have hNU : i < 10000 → rv1 env i vs = i :: vs := fun q => if_pos q
    refine w_vlA hm l0 l1 l2 l3 l4 hr (by omega) (by omega) 
        (fun y1 e2 q3 x4 e5 y6 e7 hm2 => by exfalso; omega)
        (fun y1 e2 q3 q8 hm2 => by exfalso; omega)
        (fun y1 e2 q3 q8 x9 e10 q11 y12 e13 => by omega)
        (fun y1 e2 q3 q8 x9 e10 q11 y12 e13 x17 e18 q22 q23 q24 q25 x26 e27 v31 k32 x33 e34 lo a0 a1 a2 a3 a4 hm2 => go x26 x26 x33 v31 lo _ vs (hNA v31 (by omega) (by omega) (by omega) (by omega) (by rw [k32, hi])) rfl (by omega) (by omega) (by omega) (by rw [show x26.toInt - 1 = p.toInt by omega]; exact hs) hm2 a0 a1 a2 a3 a4)
        (fun y1 e2 q3 q8 x9 e10 q11 y12 e13 x17 e18 q22 q23 q24 q25 q38 x39 e40 v44 k45 x46 e47 lo a0 a1 a2 a3 a4 hm2 => go x39 x39 x46 v44 lo _ vs (hNA v44 (by omega) (by omega) (by omega) (by omega) (by rw [k45, hi])) rfl (by omega) (by omega) (by omega) (by rw [show x39.toInt - 1 = p.toInt by omega]; exact hs) hm2 a0 a1 a2 a3 a4)
        (fun y1 e2 q3 q8 x9 e10 q11 y12 e13 x17 e18 q22 q23 q24 q25 q38 x51 e52 y56 e57 x58 e59 y60 e61 => by obtain ⟨r, r1, r2, r3, r4, r5⟩ := hBI (by omega) (by omega) (by omega) (by omega); rw [show p.toInt + (-1) = p.toInt - 1 by omega]; exact r4)
        (fun y1 e2 q3 q8 x9 e10 q11 y12 e13 x17 e18 q22 q23 q24 q25 q38 x51 e52 y56 e57 x58 e59 y60 e61 => by obtain ⟨r, r1, r2, r3, r4, r5⟩ := hBI (by omega) (by omega) (by omega) (by omega); rw [show p.toInt + (-1) + 1 = p.toInt by omega]; exact r5)
        (fun y1 e2 q3 q8 x9 e10 q11 y12 e13 x17 e18 q22 q23 q24 q25 q38 x51 e52 y56 e57 x58 e59 y60 e61 v62 k63 x64 e65 lo a0 a1 a2 a3 a4 hm2 => by obtain ⟨r, r1, r2, r3, r4, r5⟩ := hBI (by omega) (by omega) (by omega) (by omega); exact go x51 x51 x64 v62 lo _ r r1 (by rw [k63, hi, show p.toInt + (-1) + 1 = p.toInt by omega, show p.toInt + (-1) = p.toInt - 1 by omega]) (by omega) (by omega) (by omega) (by rw [show x51.toInt - 1 = p.toInt - 2 by omega]; exact r3) hm2 a0 a1 a2 a3 a4)
        (fun y1 e2 q3 q8 x9 e10 q11 y12 e13 x17 e18 q22 q23 q24 x69 e70 y74 e75 q76 x77 e78 y79 e80 x81 e82 lo a0 a1 a2 a3 a4 hm2 => by
          obtain ⟨r, r1, r2, r3⟩ := hIF (by omega)
          have z2 : p.toInt + (-2) = p.toInt - 2 := by omega
          exact go x69 x69 x81 y79 lo _ r (by rw [r1, if_pos (by rw [← z2]; exact q76)]) (by rw [e80]; exact congrArg (gn (ga mem 183)) (by omega)) (by omega) (by omega) (by omega) (by rw [show x69.toInt - 1 = p.toInt - 3 by omega]; exact r3) hm2 a0 a1 a2 a3 a4)
        (fun y1 e2 q3 q8 x9 e10 q11 y12 e13 x17 e18 q22 q23 q24 x69 e70 y74 e75 q76 x86 e87 y88 e89 x90 e91 lo a0 a1 a2 a3 a4 hm2 => by
          obtain ⟨r, r1, r2, r3⟩ := hIF (by omega)
          have z2 : p.toInt + (-2) = p.toInt - 2 := by omega
          exact go x69 x69 x90 y88 lo _ r (by rw [r1, if_neg (by rw [← z2]; exact q76)]) (by rw [e89]; exact congrArg (gn (ga mem 183)) (by omega)) (by omega) (by omega) (by omega) (by rw [show x69.toInt - 1 = p.toInt - 3 by omega]; exact r3) hm2 a0 a1 a2 a3 a4)
        (fun y1 e2 q3 q8 x9 e10 q11 y12 e13 x17 e18 q22 q23 y95 e96 => by obtain ⟨r, r1, r2, r3, r4⟩ := hNO (by omega); omega)
        (fun y1 e2 q3 q8 x9 e10 q11 y12 e13 x17 e18 q22 q23 y95 e96 x97 e98 x99 e100 lo a0 a1 a2 a3 a4 hm2 => by obtain ⟨r, r1, r2, r3, r4⟩ := hNO (by omega); exact go p p x99 x97 lo _ r r1 e98 (by omega) (by omega) (by omega) r3 hm2 a0 a1 a2 a3 a4)
        (fun y1 e2 q3 q8 x9 e10 q11 y12 e13 x17 e18 q22 x104 e105 x109 e110 lo a0 a1 a2 a3 a4 hm2 => go x104 x104 x109 y12 lo i vs (hNU (by omega)) (by rw [e13]; exact hi) (by omega) (by omega) (by omega) (by rw [show x104.toInt - 1 = p.toInt by omega]; exact hs) hm2 a0 a1 a2 a3 a4)
        (fun y1 e2 q3 q8 x9 e10 q11 hm2 => by exfalso; omega)
/-- a rule's value -/
theorem h_vaA {env : Int → Int} {ru : Int32} {c : List Int} {b : Bool} (hm : aTm aT0 mem) (he : ∀ w, -1000000 ≤ env w ∧ env w ≤ 1000000) (hn : ∀ w, isE (10000 + w) → 10000 + w ∈ c → naC mem w = env w) (hr : 0 ≤ ru.toInt ∧ ru.toInt ≤ 2) (ht : tyS c [] = some [b]) (h0 : 0 ≤ gn (ga mem 12) ru.toInt) (h1 : gn (ga mem 13) ru.toInt = gn (ga mem 12) ru.toInt + (c.length : Int)) (h2 : gn (ga mem 13) ru.toInt ≤ 1600) (hc : ∀ i : Nat, i < c.length → gn (ga mem 11) (gn (ga mem 12) ru.toInt + (i : Int)) = c.getD i 0) (hd : 4 ≤ d) : yC zpg d 69 [.ref 182, .ref 10, .int ru] mem (fun r m => ∃ v : Int32, r = some (.int v) ∧ aTm aT0 m ∧ (onl [183] mem m ∧ v.toInt = rvV env c)) := by
  obtain ⟨d, rfl⟩ : ∃ q, d = q + 4 := ⟨d - 4, by omega⟩
  refine yC_of (t := tX6_value) rfl rfl ?_
  refine w_vaA hm rfl rfl rfl hr ?_
  intro y hy lo a0 a1 a2 a3 a4 hm
  rw [← hy] at h0 h1 hc
  exact va_loopA he hr c [] [] 2 y mem lo hn ht trivial rfl h0 (by omega) hc h1 trivial hm onl_rf a0 a1 a2 a3 a4
end RKA
section RKB
variable {d : Nat} {mem : zM}
set_option maxRecDepth 100000 in
theorem w_vaB {d : Nat} {mem : zM} {P : Option Value → zM → Prop} {ru : Int32} {lo : List (Nat × Value)} (hm : aTm aT0 mem) (l_0 : zlg lo 0 = some (.ref 182)) (l_1 : zlg lo 1 = some (.ref 22)) (l_2 : zlg lo 2 = some (.int ru)) (hr : 0 ≤ ru.toInt ∧ ru.toInt ≤ 2) (h1 : ∀ (y4 : Int32), y4.toInt = (gn (ga mem 24) (ru).toInt) → ∀ lo, zlg lo 0 = some (.ref 182) → zlg lo 1 = some (.ref 22) → zlg lo 2 = some (.int ru) → zlg lo 3 = some (.int 2) → zlg lo 4 = some (.int y4) → aTm aT0 mem → yR zpg tX6_value (d + 3) (10, lo, [], mem) P) : yR zpg tX6_value (d + 3) (0, lo, [], mem) P := by
  refine yR_m 1 (fun _ _ _ _ => rfl) ?_
  refine wR_si rfl rfl (fun lo1 e2 f3 => ?_)
  have lo1_0 := f3 0 _ (by decide) (Or.inl rfl) l_0
  have lo1_1 := f3 1 _ (by decide) (Or.inl rfl) l_1
  have lo1_2 := f3 2 _ (by decide) (Or.inl rfl) l_2
  refine wR_la rfl lo1_1 ?_
  refine wR_gr rfl rlB_e rlB_1 hm ?_
  refine wR_li rfl lo1_2 ?_
  refine wN_al (a := (ru).toInt) rfl aR_24 hm rfl rfl (by omega) (fun y4 e5 => ?_)
  refine wR_si rfl rfl (fun lo6 e7 f8 => ?_)
  have lo6_3 := f8 3 _ (by decide) (Or.inl rfl) e2
  have lo6_0 := f8 0 _ (by decide) (Or.inl rfl) lo1_0
  have lo6_1 := f8 1 _ (by decide) (Or.inl rfl) lo1_1
  have lo6_2 := f8 2 _ (by decide) (Or.inl rfl) lo1_2
  exact h1 y4 e5 lo6 lo6_0 lo6_1 lo6_2 lo6_3 e7 hm

set_option maxRecDepth 100000 in
theorem w_vlB {d : Nat} {mem : zM} {P : Option Value → zM → Prop} {ru p k : Int32} {lo : List (Nat × Value)} (hm : aTm aT0 mem) (l_0 : zlg lo 0 = some (.ref 182)) (l_1 : zlg lo 1 = some (.ref 22)) (l_2 : zlg lo 2 = some (.int ru)) (l_3 : zlg lo 3 = some (.int p)) (l_4 : zlg lo 4 = some (.int k)) (hr : 0 ≤ ru.toInt ∧ ru.toInt ≤ 2) (hp : 2 ≤ p.toInt ∧ p.toInt ≤ 102) (hk : 0 ≤ k.toInt ∧ k.toInt ≤ 1600) (h1 : ∀ (y1 : Int32), y1.toInt = (gn (ga mem 25) (ru).toInt) → (gn (ga mem 25) (ru).toInt) ≤ (k).toInt → ∀ (x4 : Int32), x4.toInt = (max (p).toInt 0) → ∀ (y6 : Int32), y6.toInt = (gn (ga mem 183) (max (p).toInt 0)) → aTm aT0 mem → P (some (.int y6)) mem) (h2 : ∀ (y1 : Int32), y1.toInt = (gn (ga mem 25) (ru).toInt) → (k).toInt < (gn (ga mem 25) (ru).toInt) → (p).toInt < 2 → aTm aT0 mem → P (some (.int 0)) mem) (s1 : ∀ (y1 : Int32), y1.toInt = (gn (ga mem 25) (ru).toInt) → (k).toInt < (gn (ga mem 25) (ru).toInt) → 2 ≤ (p).toInt → ∀ (x9 : Int32), x9.toInt = ((p).toInt + 1) → ((p).toInt + 1) < 128 → ∀ (y12 : Int32), y12.toInt = (gn (ga mem 23) (k).toInt) → (-2147483648 : Int) ≤ ((gn (ga mem 23) (k).toInt) - 10000) ∧ ((gn (ga mem 23) (k).toInt) - 10000) ≤ 2147483647) (h3 : ∀ (y1 : Int32), y1.toInt = (gn (ga mem 25) (ru).toInt) → (k).toInt < (gn (ga mem 25) (ru).toInt) → 2 ≤ (p).toInt → ∀ (x9 : Int32), x9.toInt = ((p).toInt + 1) → ((p).toInt + 1) < 128 → ∀ (y12 : Int32), y12.toInt = (gn (ga mem 23) (k).toInt) → ∀ (x17 : Int32), x17.toInt = ((gn (ga mem 23) (k).toInt) - 10000) → 0 ≤ ((gn (ga mem 23) (k).toInt) - 10000) → ¬ ((gn (ga mem 23) (k).toInt) - 10000) = 22 → ¬ ((gn (ga mem 23) (k).toInt) - 10000) = 19 → ((gn (ga mem 23) (k).toInt) - 10000) < 20 → ∀ (x26 : Int32), x26.toInt = ((p).toInt + 1) → ∀ (v31 : Int32), v31.toInt = naC mem ((gn (ga mem 23) (k).toInt) - 10000) → ∀ (x33 : Int32), x33.toInt = ((k).toInt + 1) → ∀ lo, zlg lo 0 = some (.ref 182) → zlg lo 1 = some (.ref 22) → zlg lo 2 = some (.int ru) → zlg lo 3 = some (.int x26) → zlg lo 4 = some (.int x33) → aTm aT0 (sx mem 183 x26 v31) → yR zpg tX6_value (d + 3) (10, lo, [], (sx mem 183 x26 v31)) P) (h4 : ∀ (y1 : Int32), y1.toInt = (gn (ga mem 25) (ru).toInt) → (k).toInt < (gn (ga mem 25) (ru).toInt) → 2 ≤ (p).toInt → ∀ (x9 : Int32), x9.toInt = ((p).toInt + 1) → ((p).toInt + 1) < 128 → ∀ (y12 : Int32), y12.toInt = (gn (ga mem 23) (k).toInt) → ∀ (x17 : Int32), x17.toInt = ((gn (ga mem 23) (k).toInt) - 10000) → 0 ≤ ((gn (ga mem 23) (k).toInt) - 10000) → ¬ ((gn (ga mem 23) (k).toInt) - 10000) = 22 → ¬ ((gn (ga mem 23) (k).toInt) - 10000) = 19 → 20 ≤ ((gn (ga mem 23) (k).toInt) - 10000) → ((gn (ga mem 23) (k).toInt) - 10000) = 23 → ∀ (x39 : Int32), x39.toInt = ((p).toInt + 1) → ∀ (v44 : Int32), v44.toInt = naC mem ((gn (ga mem 23) (k).toInt) - 10000) → ∀ (x46 : Int32), x46.toInt = ((k).toInt + 1) → ∀ lo, zlg lo 0 = some (.ref 182) → zlg lo 1 = some (.ref 22) → zlg lo 2 = some (.int ru) → zlg lo 3 = some (.int x39) → zlg lo 4 = some (.int x46) → aTm aT0 (sx mem 183 x39 v44) → yR zpg tX6_value (d + 3) (10, lo, [], (sx mem 183 x39 v44)) P) (s2 : ∀ (y1 : Int32), y1.toInt = (gn (ga mem 25) (ru).toInt) → (k).toInt < (gn (ga mem 25) (ru).toInt) → 2 ≤ (p).toInt → ∀ (x9 : Int32), x9.toInt = ((p).toInt + 1) → ((p).toInt + 1) < 128 → ∀ (y12 : Int32), y12.toInt = (gn (ga mem 23) (k).toInt) → ∀ (x17 : Int32), x17.toInt = ((gn (ga mem 23) (k).toInt) - 10000) → 0 ≤ ((gn (ga mem 23) (k).toInt) - 10000) → ¬ ((gn (ga mem 23) (k).toInt) - 10000) = 22 → ¬ ((gn (ga mem 23) (k).toInt) - 10000) = 19 → 20 ≤ ((gn (ga mem 23) (k).toInt) - 10000) → ¬ ((gn (ga mem 23) (k).toInt) - 10000) = 23 → ∀ (x51 : Int32), x51.toInt = ((p).toInt + (-1)) → ∀ (y56 : Int32), y56.toInt = (gn (ga mem 183) ((p).toInt + (-1))) → ∀ (x58 : Int32), x58.toInt = (((p).toInt + (-1)) + 1) → ∀ (y60 : Int32), y60.toInt = (gn (ga mem 183) (((p).toInt + (-1)) + 1)) → (-1000000 : Int) ≤ (gn (ga mem 183) ((p).toInt + (-1))) ∧ (gn (ga mem 183) ((p).toInt + (-1))) ≤ 1000000) (s3 : ∀ (y1 : Int32), y1.toInt = (gn (ga mem 25) (ru).toInt) → (k).toInt < (gn (ga mem 25) (ru).toInt) → 2 ≤ (p).toInt → ∀ (x9 : Int32), x9.toInt = ((p).toInt + 1) → ((p).toInt + 1) < 128 → ∀ (y12 : Int32), y12.toInt = (gn (ga mem 23) (k).toInt) → ∀ (x17 : Int32), x17.toInt = ((gn (ga mem 23) (k).toInt) - 10000) → 0 ≤ ((gn (ga mem 23) (k).toInt) - 10000) → ¬ ((gn (ga mem 23) (k).toInt) - 10000) = 22 → ¬ ((gn (ga mem 23) (k).toInt) - 10000) = 19 → 20 ≤ ((gn (ga mem 23) (k).toInt) - 10000) → ¬ ((gn (ga mem 23) (k).toInt) - 10000) = 23 → ∀ (x51 : Int32), x51.toInt = ((p).toInt + (-1)) → ∀ (y56 : Int32), y56.toInt = (gn (ga mem 183) ((p).toInt + (-1))) → ∀ (x58 : Int32), x58.toInt = (((p).toInt + (-1)) + 1) → ∀ (y60 : Int32), y60.toInt = (gn (ga mem 183) (((p).toInt + (-1)) + 1)) → (-1000000 : Int) ≤ (gn (ga mem 183) (((p).toInt + (-1)) + 1)) ∧ (gn (ga mem 183) (((p).toInt + (-1)) + 1)) ≤ 1000000) (h5 : ∀ (y1 : Int32), y1.toInt = (gn (ga mem 25) (ru).toInt) → (k).toInt < (gn (ga mem 25) (ru).toInt) → 2 ≤ (p).toInt → ∀ (x9 : Int32), x9.toInt = ((p).toInt + 1) → ((p).toInt + 1) < 128 → ∀ (y12 : Int32), y12.toInt = (gn (ga mem 23) (k).toInt) → ∀ (x17 : Int32), x17.toInt = ((gn (ga mem 23) (k).toInt) - 10000) → 0 ≤ ((gn (ga mem 23) (k).toInt) - 10000) → ¬ ((gn (ga mem 23) (k).toInt) - 10000) = 22 → ¬ ((gn (ga mem 23) (k).toInt) - 10000) = 19 → 20 ≤ ((gn (ga mem 23) (k).toInt) - 10000) → ¬ ((gn (ga mem 23) (k).toInt) - 10000) = 23 → ∀ (x51 : Int32), x51.toInt = ((p).toInt + (-1)) → ∀ (y56 : Int32), y56.toInt = (gn (ga mem 183) ((p).toInt + (-1))) → ∀ (x58 : Int32), x58.toInt = (((p).toInt + (-1)) + 1) → ∀ (y60 : Int32), y60.toInt = (gn (ga mem 183) (((p).toInt + (-1)) + 1)) → ∀ (v62 : Int32), v62.toInt = twoI ((gn (ga mem 23) (k).toInt) - 10000) (gn (ga mem 183) ((p).toInt + (-1))) (gn (ga mem 183) (((p).toInt + (-1)) + 1)) → ∀ (x64 : Int32), x64.toInt = ((k).toInt + 1) → ∀ lo, zlg lo 0 = some (.ref 182) → zlg lo 1 = some (.ref 22) → zlg lo 2 = some (.int ru) → zlg lo 3 = some (.int x51) → zlg lo 4 = some (.int x64) → aTm aT0 (sx mem 183 x51 v62) → yR zpg tX6_value (d + 3) (10, lo, [], (sx mem 183 x51 v62)) P) (h6 : ∀ (y1 : Int32), y1.toInt = (gn (ga mem 25) (ru).toInt) → (k).toInt < (gn (ga mem 25) (ru).toInt) → 2 ≤ (p).toInt → ∀ (x9 : Int32), x9.toInt = ((p).toInt + 1) → ((p).toInt + 1) < 128 → ∀ (y12 : Int32), y12.toInt = (gn (ga mem 23) (k).toInt) → ∀ (x17 : Int32), x17.toInt = ((gn (ga mem 23) (k).toInt) - 10000) → 0 ≤ ((gn (ga mem 23) (k).toInt) - 10000) → ¬ ((gn (ga mem 23) (k).toInt) - 10000) = 22 → ((gn (ga mem 23) (k).toInt) - 10000) = 19 → ∀ (x69 : Int32), x69.toInt = ((p).toInt + (-2)) → ∀ (y74 : Int32), y74.toInt = (gn (ga mem 183) ((p).toInt + (-2))) → (gn (ga mem 183) ((p).toInt + (-2))) = 0 → ∀ (x77 : Int32), x77.toInt = (((p).toInt + (-2)) + 2) → ∀ (y79 : Int32), y79.toInt = (gn (ga mem 183) (((p).toInt + (-2)) + 2)) → ∀ (x81 : Int32), x81.toInt = ((k).toInt + 1) → ∀ lo, zlg lo 0 = some (.ref 182) → zlg lo 1 = some (.ref 22) → zlg lo 2 = some (.int ru) → zlg lo 3 = some (.int x69) → zlg lo 4 = some (.int x81) → aTm aT0 (sx mem 183 x69 y79) → yR zpg tX6_value (d + 3) (10, lo, [], (sx mem 183 x69 y79)) P) (h7 : ∀ (y1 : Int32), y1.toInt = (gn (ga mem 25) (ru).toInt) → (k).toInt < (gn (ga mem 25) (ru).toInt) → 2 ≤ (p).toInt → ∀ (x9 : Int32), x9.toInt = ((p).toInt + 1) → ((p).toInt + 1) < 128 → ∀ (y12 : Int32), y12.toInt = (gn (ga mem 23) (k).toInt) → ∀ (x17 : Int32), x17.toInt = ((gn (ga mem 23) (k).toInt) - 10000) → 0 ≤ ((gn (ga mem 23) (k).toInt) - 10000) → ¬ ((gn (ga mem 23) (k).toInt) - 10000) = 22 → ((gn (ga mem 23) (k).toInt) - 10000) = 19 → ∀ (x69 : Int32), x69.toInt = ((p).toInt + (-2)) → ∀ (y74 : Int32), y74.toInt = (gn (ga mem 183) ((p).toInt + (-2))) → ¬ (gn (ga mem 183) ((p).toInt + (-2))) = 0 → ∀ (x86 : Int32), x86.toInt = (((p).toInt + (-2)) + 1) → ∀ (y88 : Int32), y88.toInt = (gn (ga mem 183) (((p).toInt + (-2)) + 1)) → ∀ (x90 : Int32), x90.toInt = ((k).toInt + 1) → ∀ lo, zlg lo 0 = some (.ref 182) → zlg lo 1 = some (.ref 22) → zlg lo 2 = some (.int ru) → zlg lo 3 = some (.int x69) → zlg lo 4 = some (.int x90) → aTm aT0 (sx mem 183 x69 y88) → yR zpg tX6_value (d + 3) (10, lo, [], (sx mem 183 x69 y88)) P) (s4 : ∀ (y1 : Int32), y1.toInt = (gn (ga mem 25) (ru).toInt) → (k).toInt < (gn (ga mem 25) (ru).toInt) → 2 ≤ (p).toInt → ∀ (x9 : Int32), x9.toInt = ((p).toInt + 1) → ((p).toInt + 1) < 128 → ∀ (y12 : Int32), y12.toInt = (gn (ga mem 23) (k).toInt) → ∀ (x17 : Int32), x17.toInt = ((gn (ga mem 23) (k).toInt) - 10000) → 0 ≤ ((gn (ga mem 23) (k).toInt) - 10000) → ((gn (ga mem 23) (k).toInt) - 10000) = 22 → ∀ (y95 : Int32), y95.toInt = (gn (ga mem 183) (p).toInt) → (-2147483648 : Int) ≤ (1 - (gn (ga mem 183) (p).toInt)) ∧ (1 - (gn (ga mem 183) (p).toInt)) ≤ 2147483647) (h8 : ∀ (y1 : Int32), y1.toInt = (gn (ga mem 25) (ru).toInt) → (k).toInt < (gn (ga mem 25) (ru).toInt) → 2 ≤ (p).toInt → ∀ (x9 : Int32), x9.toInt = ((p).toInt + 1) → ((p).toInt + 1) < 128 → ∀ (y12 : Int32), y12.toInt = (gn (ga mem 23) (k).toInt) → ∀ (x17 : Int32), x17.toInt = ((gn (ga mem 23) (k).toInt) - 10000) → 0 ≤ ((gn (ga mem 23) (k).toInt) - 10000) → ((gn (ga mem 23) (k).toInt) - 10000) = 22 → ∀ (y95 : Int32), y95.toInt = (gn (ga mem 183) (p).toInt) → ∀ (x97 : Int32), x97.toInt = (1 - (gn (ga mem 183) (p).toInt)) → ∀ (x99 : Int32), x99.toInt = ((k).toInt + 1) → ∀ lo, zlg lo 0 = some (.ref 182) → zlg lo 1 = some (.ref 22) → zlg lo 2 = some (.int ru) → zlg lo 3 = some (.int p) → zlg lo 4 = some (.int x99) → aTm aT0 (sx mem 183 p x97) → yR zpg tX6_value (d + 3) (10, lo, [], (sx mem 183 p x97)) P) (h9 : ∀ (y1 : Int32), y1.toInt = (gn (ga mem 25) (ru).toInt) → (k).toInt < (gn (ga mem 25) (ru).toInt) → 2 ≤ (p).toInt → ∀ (x9 : Int32), x9.toInt = ((p).toInt + 1) → ((p).toInt + 1) < 128 → ∀ (y12 : Int32), y12.toInt = (gn (ga mem 23) (k).toInt) → ∀ (x17 : Int32), x17.toInt = ((gn (ga mem 23) (k).toInt) - 10000) → ((gn (ga mem 23) (k).toInt) - 10000) < 0 → ∀ (x104 : Int32), x104.toInt = ((p).toInt + 1) → ∀ (x109 : Int32), x109.toInt = ((k).toInt + 1) → ∀ lo, zlg lo 0 = some (.ref 182) → zlg lo 1 = some (.ref 22) → zlg lo 2 = some (.int ru) → zlg lo 3 = some (.int x104) → zlg lo 4 = some (.int x109) → aTm aT0 (sx mem 183 x104 y12) → yR zpg tX6_value (d + 3) (10, lo, [], (sx mem 183 x104 y12)) P) (h10 : ∀ (y1 : Int32), y1.toInt = (gn (ga mem 25) (ru).toInt) → (k).toInt < (gn (ga mem 25) (ru).toInt) → 2 ≤ (p).toInt → ∀ (x9 : Int32), x9.toInt = ((p).toInt + 1) → 128 ≤ ((p).toInt + 1) → aTm aT0 mem → P (some (.int 0)) mem) : yR zpg tX6_value (d + 3) (10, lo, [], mem) P := by
  have r13 := gR_25 hm (i := ru.toInt) hr.1 (by omega)
  refine wR_li rfl l_4 ?_
  refine wR_la rfl l_1 ?_
  refine wR_gr rfl rlB_e rlB_2 hm ?_
  refine wR_li rfl l_2 ?_
  refine wN_al (a := (ru).toInt) rfl aR_25 hm rfl rfl (by omega) (fun y1 e2 => ?_)
  refine wR_ic_ge rfl (a := (k).toInt) (c := (gn (ga mem 25) (ru).toInt)) rfl e2 (fun q3 => ?_) (fun q3 => ?_)
  ·
    refine wR_la rfl l_0 ?_
    refine wR_gr rfl rkO_e rkO_0 hm ?_
    refine wR_li rfl l_3 ?_
    refine yR_m 1 (fun _ _ _ _ => rfl) ?_
    refine wN_mx (a := (p).toInt) (b := 0) rfl rfl rfl rfl (fun x4 e5 => ?_)
    refine wN_al (a := (max (p).toInt 0)) rfl aR_183 hm rfl e5 (by omega) (fun y6 e7 => ?_)
    exact yR_ri rfl (h1 y1 e2 q3 x4 e5 y6 e7 hm)
  ·
    refine wR_li rfl l_3 ?_
    refine yR_m 1 (fun _ _ _ _ => rfl) ?_
    refine wR_ic_lt rfl (a := (p).toInt) (c := 2) rfl rfl (fun q8 => ?_) (fun q8 => ?_)
    ·
      refine yR_m 1 (fun _ _ _ _ => rfl) ?_
      exact yR_ri rfl (h2 y1 e2 q3 q8 hm)
    ·
      refine wR_li rfl l_3 ?_
      refine yR_m 1 (fun _ _ _ _ => rfl) ?_
      refine wN_add (a := (p).toInt) (b := 1) rfl rfl rfl (by omega) (fun x9 e10 => ?_)
      refine yR_m 1 (fun _ _ _ _ => rfl) ?_
      refine wR_ic_lt rfl (a := ((p).toInt + 1)) (c := 128) e10 rfl (fun q11 => ?_) (fun q11 => ?_)
      ·
        refine wR_la rfl l_1 ?_
        refine wR_gr rfl rlB_e rlB_0 hm ?_
        refine wR_li rfl l_4 ?_
        refine wN_al (a := (k).toInt) rfl aR_23 hm rfl rfl (by omega) (fun y12 e13 => ?_)
        refine wR_si rfl rfl (fun lo14 e15 f16 => ?_)
        have lo14_0 := f16 0 _ (by decide) (Or.inl rfl) l_0
        have lo14_1 := f16 1 _ (by decide) (Or.inl rfl) l_1
        have lo14_2 := f16 2 _ (by decide) (Or.inl rfl) l_2
        have lo14_3 := f16 3 _ (by decide) (Or.inl rfl) l_3
        have lo14_4 := f16 4 _ (by decide) (Or.inl rfl) l_4
        refine wR_li rfl e15 ?_
        refine yR_m 1 (fun _ _ _ _ => rfl) ?_
        refine wN_sub (a := (gn (ga mem 23) (k).toInt)) (b := 10000) rfl e13 rfl (s1 y1 e2 q3 q8 x9 e10 q11 y12 e13) (fun x17 e18 => ?_)
        refine wR_si rfl rfl (fun lo19 e20 f21 => ?_)
        have lo19_5 := f21 5 _ (by decide) (Or.inl rfl) e15
        have lo19_0 := f21 0 _ (by decide) (Or.inl rfl) lo14_0
        have lo19_1 := f21 1 _ (by decide) (Or.inl rfl) lo14_1
        have lo19_2 := f21 2 _ (by decide) (Or.inl rfl) lo14_2
        have lo19_3 := f21 3 _ (by decide) (Or.inl rfl) lo14_3
        have lo19_4 := f21 4 _ (by decide) (Or.inl rfl) lo14_4
        refine wR_li rfl e20 ?_
        refine wR_if_ge rfl (a := ((gn (ga mem 23) (k).toInt) - 10000)) e18 (fun q22 => ?_) (fun q22 => ?_)
        ·
          refine wR_li rfl e20 ?_
          refine yR_m 1 (fun _ _ _ _ => rfl) ?_
          refine wR_ic_ne rfl (a := ((gn (ga mem 23) (k).toInt) - 10000)) (c := 22) e18 rfl (fun q23 => ?_) (fun q23 => ?_)
          ·
            refine wR_li rfl e20 ?_
            refine yR_m 1 (fun _ _ _ _ => rfl) ?_
            refine wR_ic_ne rfl (a := ((gn (ga mem 23) (k).toInt) - 10000)) (c := 19) e18 rfl (fun q24 => ?_) (fun q24 => ?_)
            ·
              refine wR_li rfl e20 ?_
              refine yR_m 1 (fun _ _ _ _ => rfl) ?_
              refine wR_ic_lt rfl (a := ((gn (ga mem 23) (k).toInt) - 10000)) (c := 20) e18 rfl (fun q25 => ?_) (fun q25 => ?_)
              ·
                refine wN_in (a := (p).toInt) (b := 1) rfl rfl lo19_3 rfl rfl (by omega) (fun x26 e27 => fun lo28 e29 f30 => ?_)
                have lo28_6 := f30 6 _ (by decide) (Or.inl rfl) e20
                have lo28_5 := f30 5 _ (by decide) (Or.inl rfl) lo19_5
                have lo28_0 := f30 0 _ (by decide) (Or.inl rfl) lo19_0
                have lo28_1 := f30 1 _ (by decide) (Or.inl rfl) lo19_1
                have lo28_2 := f30 2 _ (by decide) (Or.inl rfl) lo19_2
                have lo28_4 := f30 4 _ (by decide) (Or.inl rfl) lo19_4
                refine wR_la rfl lo28_0 ?_
                refine wR_gr rfl rkO_e rkO_0 hm ?_
                refine wR_li rfl e29 ?_
                refine wR_la rfl lo28_0 ?_
                refine wR_li rfl lo28_6 ?_
                refine wR_cv rfl rfl rkO_e hm rfl (h_na hm e18 (by omega)) ?_
                rintro _ _ ⟨v31, rfl, rfl, k32⟩
                show yR zpg tX6_value (d + 3) (203, lo28, [.int v31, .int x26, .ref 183], mem) _
                refine wN_as (a := ((p).toInt + 1)) rfl aR_183 hm e27 (by omega) ?_
                have hm_1 : aTm aT0 (sx mem 183 x26 v31) := tm_sa aR_183 hm (i32_b _)
                refine wN_in (a := (k).toInt) (b := 1) rfl rfl lo28_4 rfl rfl (by omega) (fun x33 e34 => fun lo35 e36 f37 => ?_)
                have lo35_3 := f37 3 _ (by decide) (Or.inl rfl) e29
                have lo35_6 := f37 6 _ (by decide) (Or.inl rfl) lo28_6
                have lo35_5 := f37 5 _ (by decide) (Or.inl rfl) lo28_5
                have lo35_0 := f37 0 _ (by decide) (Or.inl rfl) lo28_0
                have lo35_1 := f37 1 _ (by decide) (Or.inl rfl) lo28_1
                have lo35_2 := f37 2 _ (by decide) (Or.inl rfl) lo28_2
                exact yR_m 1 (fun _ _ _ _ => rfl) (h3 y1 e2 q3 q8 x9 e10 q11 y12 e13 x17 e18 q22 q23 q24 q25 x26 e27 v31 k32 x33 e34 lo35 lo35_0 lo35_1 lo35_2 lo35_3 e36 hm_1)
              ·
                refine wR_li rfl e20 ?_
                refine yR_m 1 (fun _ _ _ _ => rfl) ?_
                refine wR_ic_eq rfl (a := ((gn (ga mem 23) (k).toInt) - 10000)) (c := 23) e18 rfl (fun q38 => ?_) (fun q38 => ?_)
                ·
                  refine wN_in (a := (p).toInt) (b := 1) rfl rfl lo19_3 rfl rfl (by omega) (fun x39 e40 => fun lo41 e42 f43 => ?_)
                  have lo41_6 := f43 6 _ (by decide) (Or.inl rfl) e20
                  have lo41_5 := f43 5 _ (by decide) (Or.inl rfl) lo19_5
                  have lo41_0 := f43 0 _ (by decide) (Or.inl rfl) lo19_0
                  have lo41_1 := f43 1 _ (by decide) (Or.inl rfl) lo19_1
                  have lo41_2 := f43 2 _ (by decide) (Or.inl rfl) lo19_2
                  have lo41_4 := f43 4 _ (by decide) (Or.inl rfl) lo19_4
                  refine wR_la rfl lo41_0 ?_
                  refine wR_gr rfl rkO_e rkO_0 hm ?_
                  refine wR_li rfl e42 ?_
                  refine wR_la rfl lo41_0 ?_
                  refine wR_li rfl lo41_6 ?_
                  refine wR_cv rfl rfl rkO_e hm rfl (h_na hm e18 (by omega)) ?_
                  rintro _ _ ⟨v44, rfl, rfl, k45⟩
                  show yR zpg tX6_value (d + 3) (203, lo41, [.int v44, .int x39, .ref 183], mem) _
                  refine wN_as (a := ((p).toInt + 1)) rfl aR_183 hm e40 (by omega) ?_
                  have hm_2 : aTm aT0 (sx mem 183 x39 v44) := tm_sa aR_183 hm (i32_b _)
                  refine wN_in (a := (k).toInt) (b := 1) rfl rfl lo41_4 rfl rfl (by omega) (fun x46 e47 => fun lo48 e49 f50 => ?_)
                  have lo48_3 := f50 3 _ (by decide) (Or.inl rfl) e42
                  have lo48_6 := f50 6 _ (by decide) (Or.inl rfl) lo41_6
                  have lo48_5 := f50 5 _ (by decide) (Or.inl rfl) lo41_5
                  have lo48_0 := f50 0 _ (by decide) (Or.inl rfl) lo41_0
                  have lo48_1 := f50 1 _ (by decide) (Or.inl rfl) lo41_1
                  have lo48_2 := f50 2 _ (by decide) (Or.inl rfl) lo41_2
                  exact yR_m 1 (fun _ _ _ _ => rfl) (h4 y1 e2 q3 q8 x9 e10 q11 y12 e13 x17 e18 q22 q23 q24 q25 q38 x39 e40 v44 k45 x46 e47 lo48 lo48_0 lo48_1 lo48_2 lo48_3 e49 hm_2)
                ·
                  refine wN_in (a := (p).toInt) (b := (-1)) rfl rfl lo19_3 rfl tm1 (by omega) (fun x51 e52 => fun lo53 e54 f55 => ?_)
                  have lo53_6 := f55 6 _ (by decide) (Or.inl rfl) e20
                  have lo53_5 := f55 5 _ (by decide) (Or.inl rfl) lo19_5
                  have lo53_0 := f55 0 _ (by decide) (Or.inl rfl) lo19_0
                  have lo53_1 := f55 1 _ (by decide) (Or.inl rfl) lo19_1
                  have lo53_2 := f55 2 _ (by decide) (Or.inl rfl) lo19_2
                  have lo53_4 := f55 4 _ (by decide) (Or.inl rfl) lo19_4
                  refine wR_la rfl lo53_0 ?_
                  refine wR_gr rfl rkO_e rkO_0 hm ?_
                  refine wR_li rfl e54 ?_
                  refine wR_li rfl lo53_6 ?_
                  refine wR_la rfl lo53_0 ?_
                  refine wR_gr rfl rkO_e rkO_0 hm ?_
                  refine wR_li rfl e54 ?_
                  refine wN_al (a := ((p).toInt + (-1))) rfl aR_183 hm rfl e52 (by omega) (fun y56 e57 => ?_)
                  refine wR_la rfl lo53_0 ?_
                  refine wR_gr rfl rkO_e rkO_0 hm ?_
                  refine wR_li rfl e54 ?_
                  refine yR_m 1 (fun _ _ _ _ => rfl) ?_
                  refine wN_add (a := ((p).toInt + (-1))) (b := 1) rfl e52 rfl (by omega) (fun x58 e59 => ?_)
                  refine wN_al (a := (((p).toInt + (-1)) + 1)) rfl aR_183 hm rfl e59 (by omega) (fun y60 e61 => ?_)
                  refine yR_cs rfl rfl rfl (h_jo2 hm e18 e57 e61 (s2 y1 e2 q3 q8 x9 e10 q11 y12 e13 x17 e18 q22 q23 q24 q25 q38 x51 e52 y56 e57 x58 e59 y60 e61) (s3 y1 e2 q3 q8 x9 e10 q11 y12 e13 x17 e18 q22 q23 q24 q25 q38 x51 e52 y56 e57 x58 e59 y60 e61) (by omega)) ?_
                  rintro _ _ ⟨v62, rfl, rfl, k63⟩
                  show yR zpg tX6_value (d + 3) (185, lo53, [.int v62, .int x51, .ref 183], mem) _
                  refine wN_as (a := ((p).toInt + (-1))) rfl aR_183 hm e52 (by omega) ?_
                  have hm_3 : aTm aT0 (sx mem 183 x51 v62) := tm_sa aR_183 hm (i32_b _)
                  refine yR_m 1 (fun _ _ _ _ => rfl) ?_
                  refine wN_in (a := (k).toInt) (b := 1) rfl rfl lo53_4 rfl rfl (by omega) (fun x64 e65 => fun lo66 e67 f68 => ?_)
                  have lo66_3 := f68 3 _ (by decide) (Or.inl rfl) e54
                  have lo66_6 := f68 6 _ (by decide) (Or.inl rfl) lo53_6
                  have lo66_5 := f68 5 _ (by decide) (Or.inl rfl) lo53_5
                  have lo66_0 := f68 0 _ (by decide) (Or.inl rfl) lo53_0
                  have lo66_1 := f68 1 _ (by decide) (Or.inl rfl) lo53_1
                  have lo66_2 := f68 2 _ (by decide) (Or.inl rfl) lo53_2
                  exact yR_m 1 (fun _ _ _ _ => rfl) (h5 y1 e2 q3 q8 x9 e10 q11 y12 e13 x17 e18 q22 q23 q24 q25 q38 x51 e52 y56 e57 x58 e59 y60 e61 v62 k63 x64 e65 lo66 lo66_0 lo66_1 lo66_2 lo66_3 e67 hm_3)
            ·
              refine wN_in (a := (p).toInt) (b := (-2)) rfl rfl lo19_3 rfl tm2 (by omega) (fun x69 e70 => fun lo71 e72 f73 => ?_)
              have lo71_6 := f73 6 _ (by decide) (Or.inl rfl) e20
              have lo71_5 := f73 5 _ (by decide) (Or.inl rfl) lo19_5
              have lo71_0 := f73 0 _ (by decide) (Or.inl rfl) lo19_0
              have lo71_1 := f73 1 _ (by decide) (Or.inl rfl) lo19_1
              have lo71_2 := f73 2 _ (by decide) (Or.inl rfl) lo19_2
              have lo71_4 := f73 4 _ (by decide) (Or.inl rfl) lo19_4
              refine wR_la rfl lo71_0 ?_
              refine wR_gr rfl rkO_e rkO_0 hm ?_
              refine wR_li rfl e72 ?_
              refine wR_la rfl lo71_0 ?_
              refine wR_gr rfl rkO_e rkO_0 hm ?_
              refine wR_li rfl e72 ?_
              refine wN_al (a := ((p).toInt + (-2))) rfl aR_183 hm rfl e70 (by omega) (fun y74 e75 => ?_)
              refine wR_if_eq rfl (a := (gn (ga mem 183) ((p).toInt + (-2)))) e75 (fun q76 => ?_) (fun q76 => ?_)
              ·
                refine wR_la rfl lo71_0 ?_
                refine wR_gr rfl rkO_e rkO_0 hm ?_
                refine wR_li rfl e72 ?_
                refine yR_m 1 (fun _ _ _ _ => rfl) ?_
                refine wN_add (a := ((p).toInt + (-2))) (b := 2) rfl e70 rfl (by omega) (fun x77 e78 => ?_)
                refine wN_al (a := (((p).toInt + (-2)) + 2)) rfl aR_183 hm rfl e78 (by omega) (fun y79 e80 => ?_)
                refine wN_as (a := ((p).toInt + (-2))) rfl aR_183 hm e70 (by omega) ?_
                have hm_4 : aTm aT0 (sx mem 183 x69 y79) := tm_sa aR_183 hm (i32_b _)
                refine yR_m 1 (fun _ _ _ _ => rfl) ?_
                refine wN_in (a := (k).toInt) (b := 1) rfl rfl lo71_4 rfl rfl (by omega) (fun x81 e82 => fun lo83 e84 f85 => ?_)
                have lo83_3 := f85 3 _ (by decide) (Or.inl rfl) e72
                have lo83_6 := f85 6 _ (by decide) (Or.inl rfl) lo71_6
                have lo83_5 := f85 5 _ (by decide) (Or.inl rfl) lo71_5
                have lo83_0 := f85 0 _ (by decide) (Or.inl rfl) lo71_0
                have lo83_1 := f85 1 _ (by decide) (Or.inl rfl) lo71_1
                have lo83_2 := f85 2 _ (by decide) (Or.inl rfl) lo71_2
                exact yR_m 1 (fun _ _ _ _ => rfl) (h6 y1 e2 q3 q8 x9 e10 q11 y12 e13 x17 e18 q22 q23 q24 x69 e70 y74 e75 q76 x77 e78 y79 e80 x81 e82 lo83 lo83_0 lo83_1 lo83_2 lo83_3 e84 hm_4)
              ·
                refine wR_la rfl lo71_0 ?_
                refine wR_gr rfl rkO_e rkO_0 hm ?_
                refine wR_li rfl e72 ?_
                refine yR_m 1 (fun _ _ _ _ => rfl) ?_
                refine wN_add (a := ((p).toInt + (-2))) (b := 1) rfl e70 rfl (by omega) (fun x86 e87 => ?_)
                refine wN_al (a := (((p).toInt + (-2)) + 1)) rfl aR_183 hm rfl e87 (by omega) (fun y88 e89 => ?_)
                refine yR_m 1 (fun _ _ _ _ => rfl) ?_
                refine wN_as (a := ((p).toInt + (-2))) rfl aR_183 hm e70 (by omega) ?_
                have hm_5 : aTm aT0 (sx mem 183 x69 y88) := tm_sa aR_183 hm (i32_b _)
                refine yR_m 1 (fun _ _ _ _ => rfl) ?_
                refine wN_in (a := (k).toInt) (b := 1) rfl rfl lo71_4 rfl rfl (by omega) (fun x90 e91 => fun lo92 e93 f94 => ?_)
                have lo92_3 := f94 3 _ (by decide) (Or.inl rfl) e72
                have lo92_6 := f94 6 _ (by decide) (Or.inl rfl) lo71_6
                have lo92_5 := f94 5 _ (by decide) (Or.inl rfl) lo71_5
                have lo92_0 := f94 0 _ (by decide) (Or.inl rfl) lo71_0
                have lo92_1 := f94 1 _ (by decide) (Or.inl rfl) lo71_1
                have lo92_2 := f94 2 _ (by decide) (Or.inl rfl) lo71_2
                exact yR_m 1 (fun _ _ _ _ => rfl) (h7 y1 e2 q3 q8 x9 e10 q11 y12 e13 x17 e18 q22 q23 q24 x69 e70 y74 e75 q76 x86 e87 y88 e89 x90 e91 lo92 lo92_0 lo92_1 lo92_2 lo92_3 e93 hm_5)
          ·
            refine wR_la rfl lo19_0 ?_
            refine wR_gr rfl rkO_e rkO_0 hm ?_
            refine wR_li rfl lo19_3 ?_
            refine yR_m 1 (fun _ _ _ _ => rfl) ?_
            refine wR_la rfl lo19_0 ?_
            refine wR_gr rfl rkO_e rkO_0 hm ?_
            refine wR_li rfl lo19_3 ?_
            refine wN_al (a := (p).toInt) rfl aR_183 hm rfl rfl (by omega) (fun y95 e96 => ?_)
            refine wN_sub (a := 1) (b := (gn (ga mem 183) (p).toInt)) rfl rfl e96 (s4 y1 e2 q3 q8 x9 e10 q11 y12 e13 x17 e18 q22 q23 y95 e96) (fun x97 e98 => ?_)
            refine wN_as (a := (p).toInt) rfl aR_183 hm rfl (by omega) ?_
            have hm_6 : aTm aT0 (sx mem 183 p x97) := tm_sa aR_183 hm (i32_b _)
            refine yR_m 1 (fun _ _ _ _ => rfl) ?_
            refine wN_in (a := (k).toInt) (b := 1) rfl rfl lo19_4 rfl rfl (by omega) (fun x99 e100 => fun lo101 e102 f103 => ?_)
            have lo101_6 := f103 6 _ (by decide) (Or.inl rfl) e20
            have lo101_5 := f103 5 _ (by decide) (Or.inl rfl) lo19_5
            have lo101_0 := f103 0 _ (by decide) (Or.inl rfl) lo19_0
            have lo101_1 := f103 1 _ (by decide) (Or.inl rfl) lo19_1
            have lo101_2 := f103 2 _ (by decide) (Or.inl rfl) lo19_2
            have lo101_3 := f103 3 _ (by decide) (Or.inl rfl) lo19_3
            exact yR_m 1 (fun _ _ _ _ => rfl) (h8 y1 e2 q3 q8 x9 e10 q11 y12 e13 x17 e18 q22 q23 y95 e96 x97 e98 x99 e100 lo101 lo101_0 lo101_1 lo101_2 lo101_3 e102 hm_6)
        ·
          refine wN_in (a := (p).toInt) (b := 1) rfl rfl lo19_3 rfl rfl (by omega) (fun x104 e105 => fun lo106 e107 f108 => ?_)
          have lo106_6 := f108 6 _ (by decide) (Or.inl rfl) e20
          have lo106_5 := f108 5 _ (by decide) (Or.inl rfl) lo19_5
          have lo106_0 := f108 0 _ (by decide) (Or.inl rfl) lo19_0
          have lo106_1 := f108 1 _ (by decide) (Or.inl rfl) lo19_1
          have lo106_2 := f108 2 _ (by decide) (Or.inl rfl) lo19_2
          have lo106_4 := f108 4 _ (by decide) (Or.inl rfl) lo19_4
          refine wR_la rfl lo106_0 ?_
          refine wR_gr rfl rkO_e rkO_0 hm ?_
          refine wR_li rfl e107 ?_
          refine wR_li rfl lo106_5 ?_
          refine wN_as (a := ((p).toInt + 1)) rfl aR_183 hm e105 (by omega) ?_
          have hm_7 : aTm aT0 (sx mem 183 x104 y12) := tm_sa aR_183 hm (i32_b _)
          refine yR_m 1 (fun _ _ _ _ => rfl) ?_
          refine wN_in (a := (k).toInt) (b := 1) rfl rfl lo106_4 rfl rfl (by omega) (fun x109 e110 => fun lo111 e112 f113 => ?_)
          have lo111_3 := f113 3 _ (by decide) (Or.inl rfl) e107
          have lo111_6 := f113 6 _ (by decide) (Or.inl rfl) lo106_6
          have lo111_5 := f113 5 _ (by decide) (Or.inl rfl) lo106_5
          have lo111_0 := f113 0 _ (by decide) (Or.inl rfl) lo106_0
          have lo111_1 := f113 1 _ (by decide) (Or.inl rfl) lo106_1
          have lo111_2 := f113 2 _ (by decide) (Or.inl rfl) lo106_2
          exact yR_m 1 (fun _ _ _ _ => rfl) (h9 y1 e2 q3 q8 x9 e10 q11 y12 e13 x17 e18 q22 x104 e105 x109 e110 lo111 lo111_0 lo111_1 lo111_2 lo111_3 e112 hm_7)
      ·
        refine yR_m 1 (fun _ _ _ _ => rfl) ?_
        exact yR_ri rfl (h10 y1 e2 q3 q8 x9 e10 q11 hm)

theorem va_loopB {env : Int → Int} {mr : zM} {ru : Int32} {b : Bool} (he : ∀ w, -1000000 ≤ env w ∧ env w ≤ 1000000) (hr : 0 ≤ ru.toInt ∧ ru.toInt ≤ 2) : ∀ (c : List Int) (st : List Bool) (vs : List Int) (p k : Int32) (mem : zM) (lo : List (Nat × Value)), (∀ w, isE (10000 + w) → 10000 + w ∈ c → naC mr w = env w) → tyS c st = some [b] → vsOK st vs → p.toInt = 2 + (vs.length : Int) → 0 ≤ k.toInt → k.toInt + (c.length : Int) ≤ 1600 → (∀ i : Nat, i < c.length → gn (ga mr 23) (k.toInt + (i : Int)) = c.getD i 0) → gn (ga mr 25) ru.toInt = k.toInt + (c.length : Int) → sk (gn (ga mem 183)) p.toInt vs → aTm aT0 mem → onl [183] mr mem → zlg lo 0 = some (.ref 182) → zlg lo 1 = some (.ref 22) → zlg lo 2 = some (.int ru) → zlg lo 3 = some (.int p) → zlg lo 4 = some (.int k) → yR zpg tX6_value (d + 3) (10, lo, [], mem) (fun r m => ∃ v : Int32, r = some (.int v) ∧ aTm aT0 m ∧ (onl [183] mr m ∧ v.toInt = (rvS env c vs).headD 0)) := by
  intro c
  induction c with
  | nil =>
    intro st vs p k mem lo hn ht hv hp k0 k1 hc hE hs hm ho l0 l1 l2 l3 l4
    have ht : some st = some [b] := ht
    cases ht
    obtain ⟨x, s, rfl, -, hz⟩ := vs_c hv
    have hE : gn (ga mem 25) ru.toInt = k.toInt := by
      rw [onl_ga ho rfl, hE]
      show k.toInt + 0 = k.toInt
      omega
    have sl := vs_len hz
    have sl : s.length = 0 := sl
    rw [List.length_cons] at hp
    have hx : gn (ga mem 183) p.toInt = x := hs.1
    refine w_vlB hm l0 l1 l2 l3 l4 hr (by omega) (by omega) 
        (fun y1 e2 q3 x4 e5 y6 e7 hm2 => ⟨_, rfl, hm2, ho, by rw [e7, show max p.toInt 0 = p.toInt by omega]; exact hx⟩)
        (fun y1 e2 q3 q8 hm2 => by exfalso; omega)
        (fun y1 e2 q3 q8 x9 e10 q11 y12 e13 => by exfalso; omega)
        (fun y1 e2 q3 q8 x9 e10 q11 y12 e13 x17 e18 q22 q23 q24 q25 x26 e27 v31 k32 x33 e34 lo a0 a1 a2 a3 a4 hm2 => by exfalso; omega)
        (fun y1 e2 q3 q8 x9 e10 q11 y12 e13 x17 e18 q22 q23 q24 q25 q38 x39 e40 v44 k45 x46 e47 lo a0 a1 a2 a3 a4 hm2 => by exfalso; omega)
        (fun y1 e2 q3 q8 x9 e10 q11 y12 e13 x17 e18 q22 q23 q24 q25 q38 x51 e52 y56 e57 x58 e59 y60 e61 => by exfalso; omega)
        (fun y1 e2 q3 q8 x9 e10 q11 y12 e13 x17 e18 q22 q23 q24 q25 q38 x51 e52 y56 e57 x58 e59 y60 e61 => by exfalso; omega)
        (fun y1 e2 q3 q8 x9 e10 q11 y12 e13 x17 e18 q22 q23 q24 q25 q38 x51 e52 y56 e57 x58 e59 y60 e61 v62 k63 x64 e65 lo a0 a1 a2 a3 a4 hm2 => by exfalso; omega)
        (fun y1 e2 q3 q8 x9 e10 q11 y12 e13 x17 e18 q22 q23 q24 x69 e70 y74 e75 q76 x77 e78 y79 e80 x81 e82 lo a0 a1 a2 a3 a4 hm2 => by exfalso; omega)
        (fun y1 e2 q3 q8 x9 e10 q11 y12 e13 x17 e18 q22 q23 q24 x69 e70 y74 e75 q76 x86 e87 y88 e89 x90 e91 lo a0 a1 a2 a3 a4 hm2 => by exfalso; omega)
        (fun y1 e2 q3 q8 x9 e10 q11 y12 e13 x17 e18 q22 q23 y95 e96 => by exfalso; omega)
        (fun y1 e2 q3 q8 x9 e10 q11 y12 e13 x17 e18 q22 q23 y95 e96 x97 e98 x99 e100 lo a0 a1 a2 a3 a4 hm2 => by exfalso; omega)
        (fun y1 e2 q3 q8 x9 e10 q11 y12 e13 x17 e18 q22 x104 e105 x109 e110 lo a0 a1 a2 a3 a4 hm2 => by exfalso; omega)
        (fun y1 e2 q3 q8 x9 e10 q11 hm2 => by exfalso; omega)
  | cons i c ih =>
    intro st vs p k mem lo hn ht hv hp k0 k1 hc hE hs hm ho l0 l1 l2 l3 l4
    obtain ⟨st', h1, ht⟩ := ob_s (show (ty1 i st).bind (tyS c) = some [b] from ht)
    obtain ⟨q1, q2, q3⟩ := rv_cs he h1 hv
    rw [List.length_cons] at k1 hE hc
    have hE' : gn (ga mem 25) ru.toInt = k.toInt + ((c.length + 1 : Nat) : Int) := by rw [onl_ga ho rfl, hE]
    have hi : gn (ga mem 23) k.toInt = i := by
      have q := hc 0 (by omega)
      rw [onl_ga ho rfl]
      refine Eq.trans ?_ q
      rw [show k.toInt + ((0 : Nat) : Int) = k.toInt by omega]
    have hc' : ∀ z : Nat, z < c.length → gn (ga mr 23) (k.toInt + 1 + (z : Int)) = c.getD z 0 := fun z hz => by
      have q := hc (z + 1) (by omega)
      rw [show k.toInt + 1 + (z : Int) = k.toInt + ((z + 1 : Nat) : Int) by omega]
      exact q
    have go : ∀ (j p' k' v : Int32) (lo' : List (Nat × Value)) (x : Int) (s : List Int), rv1 env i vs = x :: s → v.toInt = x → j.toInt = p'.toInt → p'.toInt = 2 + ((s.length + 1 : Nat) : Int) → k'.toInt = k.toInt + 1 → sk (gn (ga mem 183)) (p'.toInt - 1) s → aTm aT0 (sx mem 183 j v) → zlg lo' 0 = some (.ref 182) → zlg lo' 1 = some (.ref 22) → zlg lo' 2 = some (.int ru) → zlg lo' 3 = some (.int p') → zlg lo' 4 = some (.int k') → yR zpg tX6_value (d + 3) (10, lo', [], sx mem 183 j v) (fun r m => ∃ v : Int32, r = some (.int v) ∧ aTm aT0 m ∧ (onl [183] mr m ∧ v.toInt = (rvS env (i :: c) vs).headD 0)) := by
      intro j p' k' v lo' x s e1 e2 e3 e4 e5 e6 e7 a0 a1 a2 a3 a4
      have q3 := q3
      have q4 := vs_len q3
      rw [e1] at q3
      have z := ih st' (x :: s) p' k' (sx mem 183 j v) lo' (fun w h1 h2 => hn w h1 (List.mem_cons_of_mem _ h2)) ht q3 (by rw [List.length_cons]; exact e4) (by omega) (by omega) (fun z hz => by rw [e5]; exact hc' z hz) (by rw [hE, e5]; omega) ?_ e7 (onl_sa rfl ho) a0 a1 a2 a3 a4
      · show yR zpg tX6_value (d + 3) (10, lo', [], sx mem 183 j v) (fun r m => ∃ v : Int32, r = some (.int v) ∧ aTm aT0 m ∧ (onl [183] mr m ∧ v.toInt = (rvS env c (rv1 env i vs)).headD 0))
        rw [e1]
        exact z
      · have s1 : (s.length : Int) ≤ j.toInt := by omega
        have s2 : (rv1 env i vs).length ≤ 101 := by
          rcases q2 with ⟨-, -, e⟩ | ⟨-, e⟩ | ⟨-, e⟩ | ⟨-, x, r, e0, -, e⟩ | ⟨-, x, y, z, r, e0, -, e⟩ | ⟨-, x, y, r, e0, -, -, -, e⟩
          · rw [e, List.length_cons]
            omega
          · rw [e, List.length_cons]
            omega
          · rw [e, List.length_cons]
            omega
          · rw [e0, List.length_cons] at q1
            rw [e, List.length_cons]
            omega
          · rw [e0, List.length_cons, List.length_cons, List.length_cons] at q1
            rw [e, List.length_cons]
            omega
          · rw [e0, List.length_cons, List.length_cons] at q1
            rw [e, List.length_cons]
            omega
        rw [e1, List.length_cons] at s2
        rw [← e3, ← e2]
        exact sk_st hm s1 (by omega) (by rw [e3]; exact e6)
    have hk2 : 0 ≤ i := by
      rcases q2 with ⟨e, -⟩ | ⟨e, -⟩ | ⟨e, -⟩ | ⟨e, -⟩ | ⟨e, -⟩ | ⟨e, -⟩
      · exact e
      · omega
      · unfold isE at e
        omega
      · omega
      · omega
      · unfold isA isC at e
        omega
    have hk3 : i ≤ 10062 := by
      rcases q2 with ⟨-, e, -⟩ | ⟨e, -⟩ | ⟨e, -⟩ | ⟨e, -⟩ | ⟨e, -⟩ | ⟨e, -⟩
      · omega
      · omega
      · unfold isE at e
        omega
      · omega
      · omega
      · unfold isA isC at e
        omega
    have hNA : ∀ v : Int32, 10000 ≤ i → ¬ i = 10022 → ¬ i = 10019 → (i < 10020 ∨ i = 10023) → v.toInt = naC mem (i - 10000) → rv1 env i vs = v.toInt :: vs := by
      intro v _ _ _ _ hv'
      rcases q2 with ⟨-, e, -⟩ | ⟨e, e'⟩ | ⟨e, e'⟩ | ⟨e, -⟩ | ⟨e, -⟩ | ⟨e, -⟩
      · exfalso
        omega
      · rw [e', hv', e]
        rfl
      · rw [e', hv', naC_c ho rfl, hn (i - 10000) (by rw [show 10000 + (i - 10000) = i by omega]; exact e) (by rw [show 10000 + (i - 10000) = i by omega]; exact List.mem_cons_self)]
      · exfalso
        omega
      · exfalso
        omega
      · exfalso
        unfold isA isC at e
        omega
    have hBI : 10020 ≤ i → ¬ i = 10022 → ¬ i = 10019 → ¬ i = 10023 → ∃ r, rv1 env i vs = twoI (i - 10000) (gn (ga mem 183) (p.toInt - 1)) (gn (ga mem 183) p.toInt) :: r ∧ vs.length = r.length + 2 ∧ sk (gn (ga mem 183)) (p.toInt - 2) r ∧ (-1000000 ≤ gn (ga mem 183) (p.toInt - 1) ∧ gn (ga mem 183) (p.toInt - 1) ≤ 1000000) ∧ (-1000000 ≤ gn (ga mem 183) p.toInt ∧ gn (ga mem 183) p.toInt ≤ 1000000) := by
      intro _ _ _ _
      rcases q2 with ⟨-, e, -⟩ | ⟨e, -⟩ | ⟨e, -⟩ | ⟨e, -⟩ | ⟨e, -⟩ | ⟨-, x, y, r, e0, b1, b2, -, e⟩
      · exfalso
        omega
      · exfalso
        omega
      · exfalso
        unfold isE at e
        omega
      · exfalso
        omega
      · exfalso
        omega
      · rw [e0] at hs
        obtain ⟨y1, x1, s1⟩ := hs
        rw [show p.toInt - 1 - 1 = p.toInt - 2 by omega] at s1
        rw [x1, y1]
        exact ⟨r, e, by rw [e0]; rfl, s1, b1, b2⟩
    have hIF : i = 10019 → ∃ r, rv1 env i vs = (if gn (ga mem 183) (p.toInt - 2) = 0 then gn (ga mem 183) p.toInt else gn (ga mem 183) (p.toInt - 1)) :: r ∧ vs.length = r.length + 3 ∧ sk (gn (ga mem 183)) (p.toInt - 3) r := by
      intro _
      rcases q2 with ⟨-, e, -⟩ | ⟨e, -⟩ | ⟨e, -⟩ | ⟨e, -⟩ | ⟨-, x, y, z, r, e0, -, e⟩ | ⟨e, -⟩
      · exfalso
        omega
      · exfalso
        omega
      · exfalso
        unfold isE at e
        omega
      · exfalso
        omega
      · rw [e0] at hs
        obtain ⟨z1, y1, x1, s1⟩ := hs
        rw [show p.toInt - 1 - 1 = p.toInt - 2 by omega] at x1 s1
        rw [show p.toInt - 2 - 1 = p.toInt - 3 by omega] at s1
        rw [x1, y1, z1]
        exact ⟨r, e, by rw [e0]; rfl, s1⟩
      · exfalso
        unfold isA isC at e
        omega
    have hNO : i = 10022 → ∃ r, rv1 env i vs = (1 - gn (ga mem 183) p.toInt) :: r ∧ vs.length = r.length + 1 ∧ sk (gn (ga mem 183)) (p.toInt - 1) r ∧ (gn (ga mem 183) p.toInt = 0 ∨ gn (ga mem 183) p.toInt = 1) := by
      intro _
      rcases q2 with ⟨-, e, -⟩ | ⟨e, -⟩ | ⟨e, -⟩ | ⟨-, x, r, e0, b1, e⟩ | ⟨e, -⟩ | ⟨e, -⟩
      · exfalso
        omega
      · exfalso
        omega
      · exfalso
        unfold isE at e
        omega
      · rw [e0] at hs
        obtain ⟨x1, s1⟩ := hs
        rw [x1]
        exact ⟨r, e, by rw [e0]; rfl, s1, b1⟩
      · exfalso
        omega
      · exfalso
        unfold isA isC at e
        omega
    have hNU : i < 10000 → rv1 env i vs = i :: vs := fun q => if_pos q
    refine w_vlB hm l0 l1 l2 l3 l4 hr (by omega) (by omega) 
        (fun y1 e2 q3 x4 e5 y6 e7 hm2 => by exfalso; omega)
        (fun y1 e2 q3 q8 hm2 => by exfalso; omega)
        (fun y1 e2 q3 q8 x9 e10 q11 y12 e13 => by omega)
        (fun y1 e2 q3 q8 x9 e10 q11 y12 e13 x17 e18 q22 q23 q24 q25 x26 e27 v31 k32 x33 e34 lo a0 a1 a2 a3 a4 hm2 => go x26 x26 x33 v31 lo _ vs (hNA v31 (by omega) (by omega) (by omega) (by omega) (by rw [k32, hi])) rfl (by omega) (by omega) (by omega) (by rw [show x26.toInt - 1 = p.toInt by omega]; exact hs) hm2 a0 a1 a2 a3 a4)
        (fun y1 e2 q3 q8 x9 e10 q11 y12 e13 x17 e18 q22 q23 q24 q25 q38 x39 e40 v44 k45 x46 e47 lo a0 a1 a2 a3 a4 hm2 => go x39 x39 x46 v44 lo _ vs (hNA v44 (by omega) (by omega) (by omega) (by omega) (by rw [k45, hi])) rfl (by omega) (by omega) (by omega) (by rw [show x39.toInt - 1 = p.toInt by omega]; exact hs) hm2 a0 a1 a2 a3 a4)
        (fun y1 e2 q3 q8 x9 e10 q11 y12 e13 x17 e18 q22 q23 q24 q25 q38 x51 e52 y56 e57 x58 e59 y60 e61 => by obtain ⟨r, r1, r2, r3, r4, r5⟩ := hBI (by omega) (by omega) (by omega) (by omega); rw [show p.toInt + (-1) = p.toInt - 1 by omega]; exact r4)
        (fun y1 e2 q3 q8 x9 e10 q11 y12 e13 x17 e18 q22 q23 q24 q25 q38 x51 e52 y56 e57 x58 e59 y60 e61 => by obtain ⟨r, r1, r2, r3, r4, r5⟩ := hBI (by omega) (by omega) (by omega) (by omega); rw [show p.toInt + (-1) + 1 = p.toInt by omega]; exact r5)
        (fun y1 e2 q3 q8 x9 e10 q11 y12 e13 x17 e18 q22 q23 q24 q25 q38 x51 e52 y56 e57 x58 e59 y60 e61 v62 k63 x64 e65 lo a0 a1 a2 a3 a4 hm2 => by obtain ⟨r, r1, r2, r3, r4, r5⟩ := hBI (by omega) (by omega) (by omega) (by omega); exact go x51 x51 x64 v62 lo _ r r1 (by rw [k63, hi, show p.toInt + (-1) + 1 = p.toInt by omega, show p.toInt + (-1) = p.toInt - 1 by omega]) (by omega) (by omega) (by omega) (by rw [show x51.toInt - 1 = p.toInt - 2 by omega]; exact r3) hm2 a0 a1 a2 a3 a4)
        (fun y1 e2 q3 q8 x9 e10 q11 y12 e13 x17 e18 q22 q23 q24 x69 e70 y74 e75 q76 x77 e78 y79 e80 x81 e82 lo a0 a1 a2 a3 a4 hm2 => by
          obtain ⟨r, r1, r2, r3⟩ := hIF (by omega)
          have z2 : p.toInt + (-2) = p.toInt - 2 := by omega
          exact go x69 x69 x81 y79 lo _ r (by rw [r1, if_pos (by rw [← z2]; exact q76)]) (by rw [e80]; exact congrArg (gn (ga mem 183)) (by omega)) (by omega) (by omega) (by omega) (by rw [show x69.toInt - 1 = p.toInt - 3 by omega]; exact r3) hm2 a0 a1 a2 a3 a4)
        (fun y1 e2 q3 q8 x9 e10 q11 y12 e13 x17 e18 q22 q23 q24 x69 e70 y74 e75 q76 x86 e87 y88 e89 x90 e91 lo a0 a1 a2 a3 a4 hm2 => by
          obtain ⟨r, r1, r2, r3⟩ := hIF (by omega)
          have z2 : p.toInt + (-2) = p.toInt - 2 := by omega
          exact go x69 x69 x90 y88 lo _ r (by rw [r1, if_neg (by rw [← z2]; exact q76)]) (by rw [e89]; exact congrArg (gn (ga mem 183)) (by omega)) (by omega) (by omega) (by omega) (by rw [show x69.toInt - 1 = p.toInt - 3 by omega]; exact r3) hm2 a0 a1 a2 a3 a4)
        (fun y1 e2 q3 q8 x9 e10 q11 y12 e13 x17 e18 q22 q23 y95 e96 => by obtain ⟨r, r1, r2, r3, r4⟩ := hNO (by omega); omega)
        (fun y1 e2 q3 q8 x9 e10 q11 y12 e13 x17 e18 q22 q23 y95 e96 x97 e98 x99 e100 lo a0 a1 a2 a3 a4 hm2 => by obtain ⟨r, r1, r2, r3, r4⟩ := hNO (by omega); exact go p p x99 x97 lo _ r r1 e98 (by omega) (by omega) (by omega) r3 hm2 a0 a1 a2 a3 a4)
        (fun y1 e2 q3 q8 x9 e10 q11 y12 e13 x17 e18 q22 x104 e105 x109 e110 lo a0 a1 a2 a3 a4 hm2 => go x104 x104 x109 y12 lo i vs (hNU (by omega)) (by rw [e13]; exact hi) (by omega) (by omega) (by omega) (by rw [show x104.toInt - 1 = p.toInt by omega]; exact hs) hm2 a0 a1 a2 a3 a4)
        (fun y1 e2 q3 q8 x9 e10 q11 hm2 => by exfalso; omega)
/-- a rule's value -/
theorem h_vaB {env : Int → Int} {ru : Int32} {c : List Int} {b : Bool} (hm : aTm aT0 mem) (he : ∀ w, -1000000 ≤ env w ∧ env w ≤ 1000000) (hn : ∀ w, isE (10000 + w) → 10000 + w ∈ c → naC mem w = env w) (hr : 0 ≤ ru.toInt ∧ ru.toInt ≤ 2) (ht : tyS c [] = some [b]) (h0 : 0 ≤ gn (ga mem 24) ru.toInt) (h1 : gn (ga mem 25) ru.toInt = gn (ga mem 24) ru.toInt + (c.length : Int)) (h2 : gn (ga mem 25) ru.toInt ≤ 1600) (hc : ∀ i : Nat, i < c.length → gn (ga mem 23) (gn (ga mem 24) ru.toInt + (i : Int)) = c.getD i 0) (hd : 4 ≤ d) : yC zpg d 69 [.ref 182, .ref 22, .int ru] mem (fun r m => ∃ v : Int32, r = some (.int v) ∧ aTm aT0 m ∧ (onl [183] mem m ∧ v.toInt = rvV env c)) := by
  obtain ⟨d, rfl⟩ : ∃ q, d = q + 4 := ⟨d - 4, by omega⟩
  refine yC_of (t := tX6_value) rfl rfl ?_
  refine w_vaB hm rfl rfl rfl hr ?_
  intro y hy lo a0 a1 a2 a3 a4 hm
  rw [← hy] at h0 h1 hc
  exact va_loopB he hr c [] [] 2 y mem lo hn ht trivial rfl h0 (by omega) hc h1 trivial hm onl_rf a0 a1 a2 a3 a4
end RKB
