/-! letters out of the numbers that stand for words -/
section LT
theorem bv_nn {w : Nat} {x : BitVec w} (h : 0 ≤ x.toInt) : (x.toNat : Int) = x.toInt := by
  rw [BitVec.toInt_eq_toNat_cond] at h ⊢
  by_cases c : 2 * x.toNat < 2 ^ w
  · rw [if_pos c]
  · rw [if_neg c] at h
    exfalso
    have l := x.isLt
    have l2 : (x.toNat : Int) < ((2 ^ w : Nat) : Int) := Int.ofNat_lt.2 l
    omega
theorem bv_an (x : BitVec 32) (s : Nat) (h : 0 ≤ x.toInt) : ((x >>> s) &&& 31#32).toInt = x.toInt / 2 ^ s % 32 := by
  have e : ((x >>> s) &&& 31#32).toNat = x.toNat / 2 ^ s % 32 := by
    rw [BitVec.toNat_and, BitVec.toNat_ushiftRight, Nat.shiftRight_eq_div_pow]
    exact Nat.and_two_pow_sub_one_eq_mod _ 5
  have l : x.toNat / 2 ^ s % 32 < 32 := Nat.mod_lt _ (by decide)
  rw [BitVec.toInt_eq_toNat_of_lt (by rw [e]; omega), e, ← bv_nn h]
  rw [Int.natCast_emod, Int.natCast_ediv, Int.natCast_pow]
  rfl
theorem ush5 {y x : Int32} {s : Nat} (h : ((x.toUInt32 &&& Int32.toUInt32 31).toBitVec % 32#32).toNat = s) (hy : 0 ≤ y.toInt) : ((y.toUInt32 >>> (x.toUInt32 &&& Int32.toUInt32 31)).toInt32 &&& 31).toInt = y.toInt / 2 ^ s % 32 := by
  subst h
  exact bv_an y.toBitVec _ hy
theorem lsh8 {x : Int64} {c : Int32} {s : Nat} (h : ((c.toInt64 &&& 63).toBitVec.smod 64#64).toNat = s) : (x >>> (c.toInt64 &&& 63)).toInt = x.toInt / 2 ^ s := by
  subst h
  show (x.toBitVec.sshiftRight (((c.toInt64 &&& 63).toBitVec.smod 64#64).toNat)).toInt = _
  rw [BitVec.toInt_sshiftRight, Int.shiftRight_eq_div_pow]
  rfl
theorem lan {y : Int64} (h : 0 ≤ y.toInt) : (y &&& 255).toInt = y.toInt % 256 := by
  have e : (y.toBitVec &&& 255#64).toNat = y.toBitVec.toNat % 256 := by
    rw [BitVec.toNat_and]
    exact Nat.and_two_pow_sub_one_eq_mod _ 8
  have l : y.toBitVec.toNat % 256 < 256 := Nat.mod_lt _ (by decide)
  show (y.toBitVec &&& 255#64).toInt = y.toBitVec.toInt % 256
  rw [BitVec.toInt_eq_toNat_of_lt (by rw [e]; omega), e, ← bv_nn h]
  rw [Int.natCast_emod]
  rfl
/-- letter k of a word: 0 behind it -/
def ltk (l : List Int) (k : Nat) : Int := match l[k]? with
  | some c => c - 96
  | none => 0
def dv (x : Int) : Nat → Int
  | 0 => x
  | k + 1 => dv (x / 32) k
def dw (x : Int) : Nat → Int
  | 0 => x
  | k + 1 => dw (x / 256) k
theorem lt_cn : ∀ (k : Nat) (l : List Int), (∀ c ∈ l, ltr c) → dv (cnl l) k % 32 = ltk l k
  | 0, [], _ => rfl
  | 0, c :: r, h => by
    have hc := h c List.mem_cons_self
    have h1 := hc.1
    have h2 := hc.2
    show ((c - 96) + 32 * cnl r) % 32 = c - 96
    omega
  | k + 1, [], h => by
    show dv (0 / 32) k % 32 = 0
    exact lt_cn k [] h
  | k + 1, c :: r, h => by
    have hc := h c List.mem_cons_self
    have h1 := hc.1
    have h2 := hc.2
    show dv (((c - 96) + 32 * cnl r) / 32) k % 32 = ltk r k
    rw [show ((c - 96) + 32 * cnl r) / 32 = cnl r by omega]
    exact lt_cn k r (fun a ha => h a (List.mem_cons_of_mem _ ha))
theorem lt_wn : ∀ (j : Nat) (l : List Int) (k : Nat), (∀ c ∈ l, ltr c) → l.length = k + 1 + j → dw (wnl l) j % 256 - 96 = ltk l k := by
  intro j
  induction j with
  | zero =>
    intro l k h hl
    rcases List.eq_nil_or_concat l with w | ⟨m, a, w⟩
    · rw [w] at hl
      simp at hl
    · have w : l = m ++ [a] := by rw [w]; simp
      subst w
      have lm : m.length = k := by simp at hl; exact hl
      have ha := h a (List.mem_append_right _ List.mem_cons_self)
      have h1 := ha.1
      have h2 := ha.2
      unfold ltk
      rw [← lm, List.getElem?_append_right (Nat.le_refl _), Nat.sub_self]
      show wnl (m ++ [a]) % 256 - 96 = a - 96
      rw [wnl_app]
      omega
  | succ j ih =>
    intro l k h hl
    rcases List.eq_nil_or_concat l with w | ⟨m, a, w⟩
    · rw [w] at hl
      simp at hl
    · have w : l = m ++ [a] := by rw [w]; simp
      subst w
      have lm : m.length = k + 1 + j := by simp at hl; omega
      have ha := h a (List.mem_append_right _ List.mem_cons_self)
      have h1 := ha.1
      have h2 := ha.2
      have i := ih m k (fun c hc => h c (List.mem_append_left _ hc)) lm
      have e : ltk (m ++ [a]) k = ltk m k := by
        unfold ltk
        rw [List.getElem?_append_left (by omega)]
      rw [e, ← i]
      show dw (wnl (m ++ [a]) / 256) j % 256 - 96 = dw (wnl m) j % 256 - 96
      rw [wnl_app, show (wnl m * 256 + a) / 256 = wnl m by omega]
theorem w_dp : ∀ (j : Nat) (l : List Int), (∀ c ∈ l, ltr c) → j < l.length → 0 < dw (wnl l) j := by
  intro j
  induction j with
  | zero =>
    intro l h hl
    have p := wnl_pos _ l rfl h
    show 0 < wnl l
    by_cases z : wnl l = 0
    · rw [p.2 z] at hl
      simp at hl
    · omega
  | succ j ih =>
    intro l h hl
    rcases List.eq_nil_or_concat l with w | ⟨m, a, w⟩
    · rw [w] at hl
      simp at hl
    · have w : l = m ++ [a] := by rw [w]; simp
      subst w
      have ha := h a (List.mem_append_right _ List.mem_cons_self)
      have h1 := ha.1
      have h2 := ha.2
      show 0 < dw (wnl (m ++ [a]) / 256) j
      rw [wnl_app, show (wnl m * 256 + a) / 256 = wnl m by omega]
      exact ih m (fun c hc => h c (List.mem_append_left _ hc)) (by simp at hl; omega)
theorem w_ln {l : List Int} {x : Int64} (h : ∀ c ∈ l, ltr c) (e : x.toInt = wnl l) : l.length ≤ 8 := by
  have p := (wnl_pos _ l rfl h).1
  have b : x.toInt < 9223372036854775808 := by
    have q := Int64.toInt_lt x
    omega
  by_cases c : l.length ≤ 8
  · exact c
  · exfalso
    have q := w_dp 8 l h (by omega)
    have q2 : dw (wnl l) 8 = wnl l / 256 / 256 / 256 / 256 / 256 / 256 / 256 / 256 := rfl
    omega
theorem ltk_0 {l : List Int} {k : Nat} (h : l.length ≤ k) : ltk l k = 0 := by
  unfold ltk
  rw [List.getElem?_eq_none h]
/-- the word that is asked for -/
def nmQ (Y : Qd) (q w : Int) : Option (List Int) := if w < 0 then none else if q = 0 then ((Qt Y)[w.toNat]?).map Prod.fst else if q = 1 then ((Qf Y)[w.toNat]?).map Prod.fst else none
/-- what letter answers -/
def ltA (Y : Qd) (q w k v : Int) : Prop := ((nmQ Y q w = none ∨ ¬ (0 ≤ k ∧ k ≤ 5)) ∧ v = -1) ∨ (∃ l, nmQ Y q w = some l ∧ (0 ≤ k ∧ k ≤ 5) ∧ v = ltk l k.toNat)
theorem ltA_eq {Y : Qd} {q w k v v' : Int} (h : ltA Y q w k v) (h' : ltA Y q w k v') : v = v' := by
  rcases h with ⟨h1, h2⟩ | ⟨l, h1, h2, h3⟩ <;> rcases h' with ⟨k1, k2⟩ | ⟨l', k1, k2, k3⟩
  · rw [h2, k2]
  · rcases h1 with h1 | h1
    · rw [h1] at k1
      cases k1
    · exact absurd k2 h1
  · rcases k1 with k1 | k1
    · rw [k1] at h1
      cases h1
    · exact absurd h2 k1
  · rw [h1] at k1
    cases k1
    rw [h3, k3]
theorem nmQ_n {Y : Qd} {q w : Int} (h : ¬ q = 0) (h1 : ¬ q = 1) : nmQ Y q w = none := by
  unfold nmQ
  by_cases c : w < 0
  · rw [if_pos c]
  · rw [if_neg c, if_neg h, if_neg h1]
theorem nmQ_m {Y : Qd} {q w : Int} (h : w < 0) : nmQ Y q w = none := by
  unfold nmQ
  rw [if_pos h]
theorem nmQ_t0 {Y : Qd} {q w : Int} (hq : q = 0) (hw : 0 ≤ w) (hl : ((Qt Y).length : Int) ≤ w) : nmQ Y q w = none := by
  unfold nmQ
  rw [if_neg (by omega), if_pos hq, List.getElem?_eq_none (by omega)]
  rfl
theorem nmQ_f0 {Y : Qd} {q w : Int} (hq : q = 1) (hw : 0 ≤ w) (hl : ((Qf Y).length : Int) ≤ w) : nmQ Y q w = none := by
  unfold nmQ
  rw [if_neg (by omega), if_neg (by omega), if_pos hq, List.getElem?_eq_none (by omega)]
  rfl
theorem nmQ_t {Y : Qd} {q w : Int} {x : List Int × Int} (hq : q = 0) (hw : 0 ≤ w) (hx : (Qt Y)[w.toNat]? = some x) : nmQ Y q w = some x.1 := by
  unfold nmQ
  rw [if_neg (by omega), if_pos hq, hx]
  rfl
theorem nmQ_f {Y : Qd} {q w : Int} {x : List Int × Int × Int} (hq : q = 1) (hw : 0 ≤ w) (hx : (Qf Y)[w.toNat]? = some x) : nmQ Y q w = some x.1 := by
  unfold nmQ
  rw [if_neg (by omega), if_neg (by omega), if_pos hq, hx]
  rfl
theorem i32_lit {x : Int32} {c : Int32} (h : x.toInt = c.toInt) : x = c := Int32.toInt_inj.1 h
/-- the class's letter -/
theorem c_bit {y x k : Int32} {l : List Int} (h : ∀ c ∈ l, ltr c) (hy : y.toInt = cnl l) (hx : x.toInt = 5 * k.toInt) (h0 : 0 ≤ k.toInt) (h6 : k.toInt < 6) : ((y.toUInt32 >>> (x.toUInt32 &&& Int32.toUInt32 31)).toInt32 &&& 31).toInt = ltk l k.toInt.toNat := by
  have p := (cnl_0 l h).1
  have c := lt_cn k.toInt.toNat l h
  rcases (show k.toInt = 0 ∨ k.toInt = 1 ∨ k.toInt = 2 ∨ k.toInt = 3 ∨ k.toInt = 4 ∨ k.toInt = 5 by omega) with e | e | e | e | e | e
  · rw [e] at hx c ⊢
    have e2 : x = 0 := i32_lit hx
    subst e2
    rw [ush5 (s := 0) (by decide) (by omega), hy, ← c]
    show cnl l / 1 % 32 = cnl l % 32
    omega
  · rw [e] at hx c ⊢
    have e2 : x = 5 := i32_lit hx
    subst e2
    rw [ush5 (s := 5) (by decide) (by omega), hy, ← c]
    rfl
  · rw [e] at hx c ⊢
    have e2 : x = 10 := i32_lit hx
    subst e2
    rw [ush5 (s := 10) (by decide) (by omega), hy, ← c]
    show cnl l / 1024 % 32 = cnl l / 32 / 32 % 32
    omega
  · rw [e] at hx c ⊢
    have e2 : x = 15 := i32_lit hx
    subst e2
    rw [ush5 (s := 15) (by decide) (by omega), hy, ← c]
    show cnl l / 32768 % 32 = cnl l / 32 / 32 / 32 % 32
    omega
  · rw [e] at hx c ⊢
    have e2 : x = 20 := i32_lit hx
    subst e2
    rw [ush5 (s := 20) (by decide) (by omega), hy, ← c]
    show cnl l / 1048576 % 32 = cnl l / 32 / 32 / 32 / 32 % 32
    omega
  · rw [e] at hx c ⊢
    have e2 : x = 25 := i32_lit hx
    subst e2
    rw [ush5 (s := 25) (by decide) (by omega), hy, ← c]
    show cnl l / 33554432 % 32 = cnl l / 32 / 32 / 32 / 32 / 32 % 32
    omega
theorem dw_nn : ∀ (j : Nat) (x : Int), 0 ≤ x → 0 ≤ dw x j
  | 0, _, h => h
  | j + 1, x, h => dw_nn j (x / 256) (by omega)
/-- eight bits of a word further on -/
theorem l_dw {x : Int64} {c : Int32} {j : Int} (h : 0 ≤ x.toInt) (hc : c.toInt = 8 * j) (j0 : 0 ≤ j) (j7 : j ≤ 7) : (x >>> (c.toInt64 &&& 63)).toInt = dw x.toInt j.toNat := by
  rcases (show j = 0 ∨ j = 1 ∨ j = 2 ∨ j = 3 ∨ j = 4 ∨ j = 5 ∨ j = 6 ∨ j = 7 by omega) with e | e | e | e | e | e | e | e
  · subst e
    have e2 : c = 0 := i32_lit hc
    subst e2
    rw [lsh8 (s := 0) (by decide)]
    show x.toInt / 1 = x.toInt
    omega
  · subst e
    have e2 : c = 8 := i32_lit hc
    subst e2
    rw [lsh8 (s := 8) (by decide)]
    rfl
  · subst e
    have e2 : c = 16 := i32_lit hc
    subst e2
    rw [lsh8 (s := 16) (by decide)]
    show x.toInt / 65536 = x.toInt / 256 / 256
    omega
  · subst e
    have e2 : c = 24 := i32_lit hc
    subst e2
    rw [lsh8 (s := 24) (by decide)]
    show x.toInt / 16777216 = x.toInt / 256 / 256 / 256
    omega
  · subst e
    have e2 : c = 32 := i32_lit hc
    subst e2
    rw [lsh8 (s := 32) (by decide)]
    show x.toInt / 4294967296 = x.toInt / 256 / 256 / 256 / 256
    omega
  · subst e
    have e2 : c = 40 := i32_lit hc
    subst e2
    rw [lsh8 (s := 40) (by decide)]
    show x.toInt / 1099511627776 = x.toInt / 256 / 256 / 256 / 256 / 256
    omega
  · subst e
    have e2 : c = 48 := i32_lit hc
    subst e2
    rw [lsh8 (s := 48) (by decide)]
    show x.toInt / 281474976710656 = x.toInt / 256 / 256 / 256 / 256 / 256 / 256
    omega
  · subst e
    have e2 : c = 56 := i32_lit hc
    subst e2
    rw [lsh8 (s := 56) (by decide)]
    show x.toInt / 72057594037927936 = x.toInt / 256 / 256 / 256 / 256 / 256 / 256 / 256
    omega
/-- the model's letter -/
theorem m_bit {x : Int64} {c n k : Int32} {l : List Int} (h : ∀ a ∈ l, ltr a) (hx : x.toInt = wnl l) (hn : n.toInt = (l.length : Int)) (k0 : 0 ≤ k.toInt) (kn : k.toInt < n.toInt) (hc : c.toInt = 8 * ((n.toInt - 1) - k.toInt)) : ((((x >>> (c.toInt64 &&& 63)) &&& 255).toInt32 - 97) + 1).toInt = ltk l k.toInt.toNat := by
  have p := (wnl_pos _ l rfl h).1
  have l8 := w_ln h hx
  have e1 := l_dw (x := x) (c := c) (j := (n.toInt - 1) - k.toInt) (by omega) hc (by omega) (by omega)
  have w := lt_wn ((n.toInt - 1) - k.toInt).toNat l k.toInt.toNat h (by omega)
  have nn := dw_nn ((n.toInt - 1) - k.toInt).toNat (wnl l) p
  have e2 : ((x >>> (c.toInt64 &&& 63)) &&& 255).toInt = dw (wnl l) ((n.toInt - 1) - k.toInt).toNat % 256 := by
    rw [lan (by rw [e1, hx]; exact nn), e1, hx]
  have e3 : ((x >>> (c.toInt64 &&& 63)) &&& 255).toInt32.toInt = dw (wnl l) ((n.toInt - 1) - k.toInt).toNat % 256 := by
    rw [Int64.toInt_toInt32, e2]
    exact Int.bmod_eq_of_le (by omega) (by omega)
  have e4 : ((97 : Int32)).toInt = 97 := rfl
  have e5 : (((x >>> (c.toInt64 &&& 63)) &&& 255).toInt32 - 97).toInt = dw (wnl l) ((n.toInt - 1) - k.toInt).toNat % 256 - 97 := by
    rw [Int32.toInt_sub, e3, e4]
    exact Int.bmod_eq_of_le (by omega) (by omega)
  have e6 : ((1 : Int32)).toInt = 1 := rfl
  rw [Int32.toInt_add, e5, e6, ← w]
  rw [Int.bmod_eq_of_le (by omega) (by omega)]
  omega
end LT
