/-! the model's signs -/
theorem tch_iff {T : List Int32} {n p b : Int} (S : Skp T n p b) (hp : 0 ≤ p) : tch T p b ↔ (0 < b ∧ (ltr (gn T (b - 1)) ∨ dgt (gn T (b - 1)))) := by
  obtain ⟨s1, s2, s3, s4⟩ := S
  constructor
  · rintro ⟨h1, h2, h3⟩
    subst h1
    exact ⟨h2, h3⟩
  · rintro ⟨h1, h2⟩
    by_cases e : b = p
    · subst e
      exact ⟨rfl, h1, h2⟩
    · have k := s3 (b - 1) (by omega) (by omega)
      exfalso
      rcases k with k | k <;> rcases h2 with h2 | h2 <;> (have a1 := h2.1; have a2 := h2.2; omega)
theorem yC_and {d j : Nat} {av : List Value} {mem : zM} {P P' : Option Value → zM → Prop} (h : yC zpg d j av mem P) (k : yC zpg d j av mem P') : yC zpg d j av mem (fun r m => P r m ∧ P' r m) := by
  obtain ⟨F0, r, m, hP, e⟩ := h
  obtain ⟨F1, r1, m1, hP1, e1⟩ := k
  have a := e (F0 + F1) (Option Value × zM) (fun r m => some (r, m)) (by omega)
  have b := e1 (F0 + F1) (Option Value × zM) (fun r m => some (r, m)) (by omega)
  have c := Option.some.inj (a.symm.trans b)
  have c1 : r = r1 := congrArg Prod.fst c
  have c2 : m = m1 := congrArg Prod.snd c
  subst c1
  subst c2
  exact ⟨F0, r, m, ⟨hP, hP1⟩, e⟩
/-- one letter more in the model's number of a word -/
theorem wnl_or {w : Int64} {y : Int32} {ls : List Int} (h1 : w.toInt = wnl ls) (h2 : ∀ a ∈ ls, ltr a) (hk : ls.length ≤ 5) (hc : ltr y.toInt) : ((w <<< ((8 : Int32).toInt64 &&& 63)) ||| y.toInt64).toInt = wnl (ls ++ [y.toInt]) := by
  have hb : ∀ (k : Nat) (l : List Int), l.length = k → (∀ a ∈ l, ltr a) → 0 ≤ wnl l ∧ wnl l < 256 ^ k := by
    intro k
    induction k with
    | zero =>
      intro l hl _
      rw [List.length_eq_zero_iff.1 hl]
      exact ⟨by decide, by decide⟩
    | succ k ih =>
      intro l hl h
      rcases List.eq_nil_or_concat l with e | ⟨m, a, e⟩
      · rw [e] at hl
        cases hl
      · have e : l = m ++ [a] := by rw [e]; simp
        subst e
        have i := ih m (by simp at hl; exact hl) (fun c hc => h c (List.mem_append_left _ hc))
        have ha := h a (List.mem_append_right _ List.mem_cons_self)
        have a1 := ha.1
        have a2 := ha.2
        have e2 : (256 : Int) ^ (k + 1) = 256 ^ k * 256 := Int.pow_succ _ _
        rw [wnl_app]
        omega
  obtain ⟨n0, n1⟩ := hb _ ls rfl h2
  have hp : (256 : Int) ^ ls.length ≤ 1099511627776 := by
    rcases (show ls.length = 0 ∨ ls.length = 1 ∨ ls.length = 2 ∨ ls.length = 3 ∨ ls.length = 4 ∨ ls.length = 5 by omega) with e | e | e | e | e | e <;> rw [e] <;> decide
  have c1 := hc.1
  have c2 := hc.2
  have w0 : 0 ≤ w.toInt := by omega
  have e1 : (w.toBitVec.toNat : Int) = w.toInt := by
    have e : w.toInt = w.toBitVec.toInt := rfl
    have l := w.toBitVec.isLt
    rw [e, BitVec.toInt_eq_toNat_cond] at w0 ⊢
    split at w0 <;> split <;> omega
  have e2 : (y.toInt64.toBitVec.toNat : Int) = y.toInt := by
    have e : y.toInt64.toInt = y.toInt := Int32.toInt_toInt64 y
    have e' : y.toInt64.toInt = y.toInt64.toBitVec.toInt := rfl
    have l := y.toInt64.toBitVec.isLt
    rw [e', BitVec.toInt_eq_toNat_cond] at e
    split at e <;> omega
  have e3 : (w <<< ((8 : Int32).toInt64 &&& 63)).toBitVec.toNat = w.toBitVec.toNat * 256 := by
    have s : (w <<< ((8 : Int32).toInt64 &&& 63)).toBitVec = w.toBitVec <<< 8 := rfl
    rw [s, BitVec.toNat_shiftLeft, Nat.shiftLeft_eq, Nat.mod_eq_of_lt (by omega)]
  have e4 : ((w <<< ((8 : Int32).toInt64 &&& 63)) ||| y.toInt64).toBitVec.toNat = w.toBitVec.toNat * 256 + y.toInt64.toBitVec.toNat := by
    rw [Int64.toBitVec_or, BitVec.toNat_or, e3, show w.toBitVec.toNat * 256 = 2 ^ 8 * w.toBitVec.toNat by omega, ← Nat.two_pow_add_eq_or_of_lt (show y.toInt64.toBitVec.toNat < 2 ^ 8 by omega)]
  have e5 : ((w <<< ((8 : Int32).toInt64 &&& 63)) ||| y.toInt64).toInt = ((w.toBitVec.toNat * 256 + y.toInt64.toBitVec.toNat : Nat) : Int) := by
    rw [← e4]
    show BitVec.toInt _ = _
    rw [BitVec.toInt_eq_toNat_of_lt (by rw [e4]; omega)]
  rw [e5, wnl_app]
  omega
/-- a sign as the model holds it: what it is, number, word, where it is wrong -/
def mEnc (t : Tk) (k v w x : Int) : Prop := (¬ x = -1 ∧ t.1 = 4 ∧ ¬ k = 0) ∨ (x = -1 ∧ ((k = 0 ∧ t.1 = 0) ∨ (k = 3 ∧ t.1 = 3 ∧ v = t.2.1) ∨ (k = 2 ∧ t.1 = 2 ∧ v = t.2.1) ∨ (k = 1 ∧ t.1 = 1 ∧ w = wnl t.2.2)))
def mT (T : List Int32) (n p : Int) (m : zM) : Prop := ∃ t e, Tok T n p t e ∧ (gi m 221 5).toInt = e ∧ mEnc t (gi m 221 3).toInt (gi m 221 6).toInt (gL m 221 7).toInt (gi m 221 12).toInt
section AF
variable {d : Nat} {T : List Int32} {n p b : Int}
/-- letters (l is not 0) or digits have been read from b on, k of them -/
def afI (T : List Int32) (n p b l k : Int) (m : zM) : Prop := (gi m 221 2).toInt = n ∧ ga m 222 = T ∧ ((¬ l = 0 ∧ (gi m 221 3).toInt = 1 ∧ (∀ i, b ≤ i → i < b + k → ltr (gn T i)) ∧ (k ≤ 6 → (gL m 221 7).toInt = wnl (lts T b k.toNat)) ∧ ((tch T p b ∨ 6 < k) ↔ ¬ (gi m 221 12).toInt = -1)) ∨ (l = 0 ∧ (gi m 221 3).toInt = 2 ∧ (∀ i, b ≤ i → i < b + k → dgt (gn T i)) ∧ (k ≤ 4 → (gi m 221 6).toInt = dgv T b k.toNat) ∧ ((tch T p b ∨ 4 < k) ↔ ¬ (gi m 221 12).toInt = -1)))
theorem af_334 {mem : zM} {a : Int32} {l : Int} {lo : List (Nat × Value)} (S : Skp T n p b) (hbn : b < n) (h : afI T n p b l (a.toInt - b) mem) (ha : b < a.toInt ∧ a.toInt ≤ n) (hn : n ≤ 1600) (hb : 0 ≤ b) (he : a.toInt < n → ((¬ l = 0 → ¬ ltr (gn T a.toInt)) ∧ (l = 0 → ¬ dgt (gn T a.toInt)))) (hm : aTm aT0 mem) (a0 : zlg lo 0 = some (.ref 221)) (a1 : zlg lo 1 = some (.int a)) : yR zpg tX12_ahead (d + 1) (334, lo, [], mem) (fun r m => mT T n p m) := by
  refine w_ah_334 hm a0 a1 (by omega) (fun hm2 => ?_)
  have e5 : gi (si mem 221 5 a) 221 5 = a := gi_eqO (isO_of hm) (by decide)
  have e3 : gi (si mem 221 5 a) 221 3 = gi mem 221 3 := gi_sv_ne (by decide)
  have e6 : gi (si mem 221 5 a) 221 6 = gi mem 221 6 := gi_sv_ne (by decide)
  have e12 : gi (si mem 221 5 a) 221 12 = gi mem 221 12 := gi_sv_ne (by decide)
  have e7 : gL (si mem 221 5 a) 221 7 = gL mem 221 7 := gL_sv_ne (by decide)
  unfold mT
  rw [e5, e3, e6, e12, e7]
  obtain ⟨h1, h2, h⟩ := h
  rcases h with ⟨l1, l2, l3, l4, l5⟩ | ⟨l1, l2, l3, l4, l5⟩
  · have R : Rn ltr T n b a.toInt := ⟨by omega, by omega, fun i i0 i1 => l3 i i0 (by omega), fun w => (he w).1 l1⟩
    have hl : ltr (gn T b) := l3 b (by omega) (by omega)
    by_cases x : (gi mem 221 12).toInt = -1
    · have nt : ¬ (tch T p b ∨ 6 < a.toInt - b) := fun w => l5.1 w x
      exact ⟨(1, 0, lts T b (a.toInt - b).toNat), a.toInt, ⟨b, S, Or.inr (Or.inr (Or.inl ⟨hbn, hl, a.toInt, R, rfl, Or.inr ⟨fun w => nt (Or.inl w), by rcases Int.lt_or_le 6 (a.toInt - b) with w | w; exact absurd (Or.inr w) nt; exact w, rfl⟩⟩))⟩, rfl, Or.inr ⟨x, Or.inr (Or.inr (Or.inr ⟨l2, rfl, l4 (by rcases Int.lt_or_le 6 (a.toInt - b) with w | w; exact absurd (Or.inr w) nt; exact w)⟩))⟩⟩
    · exact ⟨(4, 0, []), a.toInt, ⟨b, S, Or.inr (Or.inr (Or.inl ⟨hbn, hl, a.toInt, R, rfl, Or.inl ⟨l5.2 x, rfl⟩⟩))⟩, rfl, Or.inl ⟨x, rfl, by omega⟩⟩
  · have R : Rn dgt T n b a.toInt := ⟨by omega, by omega, fun i i0 i1 => l3 i i0 (by omega), fun w => (he w).2 l1⟩
    have hl : dgt (gn T b) := l3 b (by omega) (by omega)
    by_cases x : (gi mem 221 12).toInt = -1
    · have nt : ¬ (tch T p b ∨ 4 < a.toInt - b) := fun w => l5.1 w x
      exact ⟨(2, dgv T b (a.toInt - b).toNat, []), a.toInt, ⟨b, S, Or.inr (Or.inr (Or.inr ⟨hbn, hl, a.toInt, R, rfl, Or.inr ⟨fun w => nt (Or.inl w), by rcases Int.lt_or_le 4 (a.toInt - b) with w | w; exact absurd (Or.inr w) nt; exact w, rfl⟩⟩))⟩, rfl, Or.inr ⟨x, Or.inr (Or.inr (Or.inl ⟨l2, rfl, l4 (by rcases Int.lt_or_le 4 (a.toInt - b) with w | w; exact absurd (Or.inr w) nt; exact w)⟩))⟩⟩
    · exact ⟨(4, 0, []), a.toInt, ⟨b, S, Or.inr (Or.inr (Or.inr ⟨hbn, hl, a.toInt, R, rfl, Or.inl ⟨l5.2 x, rfl⟩⟩))⟩, rfl, Or.inl ⟨x, rfl, by omega⟩⟩
theorem i32_10 {v y : Int32} (h0 : 0 ≤ v.toInt) (h1 : v.toInt ≤ 99999) (y0 : 0 ≤ y.toInt) (y1 : y.toInt ≤ 255) : (((10 * v) + y) - 48).toInt = 10 * v.toInt + y.toInt - 48 := by
  have e1 : (10 * v).toInt = 10 * v.toInt := by
    rw [Int32.toInt_mul]
    show ((10 : Int) * v.toInt).bmod _ = _
    exact Int.bmod_eq_of_le (by omega) (by omega)
  have e2 : ((10 * v) + y).toInt = 10 * v.toInt + y.toInt := by rw [zadd_i (by omega) (by omega), e1]
  rw [Int32.toInt_sub, e2]
  show ((10 * v.toInt + y.toInt) - (48 : Int)).bmod _ = _
  exact Int.bmod_eq_of_le (by omega) (by omega)
/-- one letter or digit more -/
theorem af_243 {mem : zM} {a l g mo k : Int32} {lo : List (Nat × Value)} {P : Option Value → zM → Prop} (hk0 : 0 ≤ k.toInt) (hk1 : k.toInt ≤ 1600) (hab : a.toInt = b + k.toInt) (ha : 0 ≤ a.toInt ∧ a.toInt < 1600) (hb0 : 0 ≤ b) (h : afI T n p b l.toInt k.toInt mem) (hc : (¬ l.toInt = 0 ∧ g.toInt = 0 ∧ mo.toInt = 6 ∧ ltr (gn T a.toInt)) ∨ (l.toInt = 0 ∧ ¬ g.toInt = 0 ∧ mo.toInt = 4 ∧ dgt (gn T a.toInt))) (hm : aTm aT0 mem) (ih : ∀ (m : zM) (a' k' : Int32) (lo' : List (Nat × Value)), a'.toInt = a.toInt + 1 → k'.toInt = k.toInt + 1 → afI T n p b l.toInt k'.toInt m → aTm aT0 m → zlg lo' 0 = some (.ref 221) → zlg lo' 1 = some (.int a') → zlg lo' 2 = some (.int l) → zlg lo' 3 = some (.int g) → zlg lo' 4 = some (.int mo) → zlg lo' 5 = some (.int k') → yR zpg tX12_ahead (d + 1) (204, lo', [], m) P) (a0 : zlg lo 0 = some (.ref 221)) (a1 : zlg lo 1 = some (.int a)) (a2 : zlg lo 2 = some (.int l)) (a3 : zlg lo 3 = some (.int g)) (a4 : zlg lo 4 = some (.int mo)) (a5 : zlg lo 5 = some (.int k)) : yR zpg tX12_ahead (d + 1) (243, lo, [], mem) P := by
  have kn : (k.toInt.toNat : Int) = k.toInt := by omega
  have ks : (k.toInt + 1).toNat = k.toInt.toNat + 1 := by omega
  -- behind 243: where it is wrong
  have J1 : ∀ (m : zM) (lo : List (Nat × Value)), (gi m 221 2).toInt = n → ga m 222 = T → (gi m 221 3).toInt = (gi mem 221 3).toInt → gi m 221 6 = gi mem 221 6 → gL m 221 7 = gL mem 221 7 → ((tch T p b ∨ mo.toInt < k.toInt + 1) ↔ ¬ (gi m 221 12).toInt = -1) → aTm aT0 m → zlg lo 0 = some (.ref 221) → zlg lo 1 = some (.int a) → zlg lo 2 = some (.int l) → zlg lo 3 = some (.int g) → zlg lo 4 = some (.int mo) → zlg lo 5 = some (.int k) → yR zpg tX12_ahead (d + 1) (263, lo, [], m) P := by
    intro m lo m2 m222 m3 m6 m7 mx hm a0 a1 a2 a3 a4 a5
    -- at 325
    have J3 : ∀ (m' : zM) (lo : List (Nat × Value)), afI T n p b l.toInt (k.toInt + 1) m' → aTm aT0 m' → zlg lo 0 = some (.ref 221) → zlg lo 1 = some (.int a) → zlg lo 2 = some (.int l) → zlg lo 3 = some (.int g) → zlg lo 4 = some (.int mo) → zlg lo 5 = some (.int k) → yR zpg tX12_ahead (d + 1) (325, lo, [], m') P := by
      intro m' lo h' hm' a0 a1 a2 a3 a4 a5
      exact w_ah_325 hm' a0 a1 a2 a3 a4 a5 ha ⟨hk0, hk1⟩ (fun x1 e1 x6 e6 lo b0 b1 b2 b3 b4 b5 hm2 => ih m' x6 x1 lo e6 e1 (by rw [e1]; exact h') hm2 b0 b1 b2 b3 b4 b5)
    obtain ⟨h1, h2, h⟩ := h
    rcases hc with ⟨c1, c2, c3, c4⟩ | ⟨c1, c2, c3, c4⟩
    · rcases h with ⟨l1, l2, l3, l4, l5⟩ | ⟨l1, -⟩
      · have lN : ∀ i, b ≤ i → i < b + (k.toInt + 1) → ltr (gn T i) := fun i i0 i1 => by
          by_cases e : i = a.toInt
          · rw [e]; exact c4
          · exact l3 i i0 (by omega)
        refine w_ah_263 hm a0 a1 a2 a3 a4 a5 ha (fun q lo b0 b1 b2 b3 b4 b5 hm2 => ?_) (fun q q2 => absurd q2 c1) (fun q q2 y3 e3 lo b0 b1 b2 b3 b4 b5 hm2 => ?_)
        · refine w_ah_293 hm2 b0 b1 b2 b3 b4 b5 ha (fun q' lo b0 b1 b2 b3 b4 b5 hm3 => ?_) (fun q' _ lo b0 b1 b2 b3 b4 b5 hm3 => ?_) (fun q' q2 => absurd c2 q2)
          · exact J3 m lo ⟨m2, m222, Or.inl ⟨c1, by rw [m3]; exact l2, lN, fun w => by exfalso; omega, by rw [← c3]; exact mx⟩⟩ hm3 b0 b1 b2 b3 b4 b5
          · exfalso; omega
        · have e7 : gL (sL m 221 7 (((gL m 221 7) <<< ((8 : Int32).toInt64 &&& 63)) ||| (y3 : Int32).toInt64)) 221 7 = ((gL m 221 7) <<< ((8 : Int32).toInt64 &&& 63)) ||| (y3 : Int32).toInt64 := gL_sL_eq mO_e mO_7 hm
          have S3 : afI T n p b l.toInt (k.toInt + 1) (sL m 221 7 (((gL m 221 7) <<< ((8 : Int32).toInt64 &&& 63)) ||| (y3 : Int32).toInt64)) := by
            refine ⟨by rw [gi_sv_ne (by decide)]; exact m2, ga_sv.trans m222, Or.inl ⟨c1, by rw [gi_sv_ne (by decide), m3]; exact l2, lN, fun w => ?_, by rw [gi_sv_ne (by decide), ← c3]; exact mx⟩⟩
            rw [e7, ks]
            show _ = wnl (lts T b k.toInt.toNat ++ [gn T (b + (k.toInt.toNat : Int))])
            have ey : y3.toInt = gn T (b + (k.toInt.toNat : Int)) := by rw [e3, m222, kn, hab]
            rw [← ey]
            exact wnl_or (by rw [m7]; exact l4 (by omega)) (lts_all _ (fun i i0 i1 => l3 i i0 (by omega))) (by rw [lts_len]; omega) (by rw [ey, kn, ← hab]; exact c4)
          refine w_ah_293 hm2 b0 b1 b2 b3 b4 b5 ha (fun q' lo b0 b1 b2 b3 b4 b5 hm3 => ?_) (fun q' _ lo b0 b1 b2 b3 b4 b5 hm3 => ?_) (fun q' q2 => absurd c2 q2)
          · exfalso; omega
          · exact J3 _ lo S3 hm3 b0 b1 b2 b3 b4 b5
      · exact absurd l1 c1
    · rcases h with ⟨l1, -⟩ | ⟨l1, l2, l3, l4, l5⟩
      · exact absurd c1 l1
      · have lN : ∀ i, b ≤ i → i < b + (k.toInt + 1) → dgt (gn T i) := fun i i0 i1 => by
          by_cases e : i = a.toInt
          · rw [e]; exact c4
          · exact l3 i i0 (by omega)
        have go : ∀ (lo : List (Nat × Value)), zlg lo 0 = some (.ref 221) → zlg lo 1 = some (.int a) → zlg lo 2 = some (.int l) → zlg lo 3 = some (.int g) → zlg lo 4 = some (.int mo) → zlg lo 5 = some (.int k) → yR zpg tX12_ahead (d + 1) (293, lo, [], m) P := fun lo b0 b1 b2 b3 b4 b5 => by
          refine w_ah_293 hm b0 b1 b2 b3 b4 b5 ha (fun q' lo b0 b1 b2 b3 b4 b5 hm3 => ?_) (fun q' q2 => absurd q2 c2) (fun q' q2 y3 e3 lo b0 b1 b2 b3 b4 b5 hm3 => ?_)
          · exact J3 m lo ⟨m2, m222, Or.inr ⟨c1, by rw [m3]; exact l2, lN, fun w => by exfalso; omega, by rw [← c3]; exact mx⟩⟩ hm3 b0 b1 b2 b3 b4 b5
          · have e6 : gi (si m 221 6 (((10 * (gi m 221 6)) + y3) - 48)) 221 6 = (((10 * (gi m 221 6)) + y3) - 48) := gi_eqO (isO_of hm) (by decide)
            have v0 : (gi m 221 6).toInt = dgv T b k.toInt.toNat := by rw [m6]; exact l4 (by omega)
            have bd := dgv_b (T := T) (b := b) k.toInt.toNat (fun i i0 i1 => l3 i i0 (by omega))
            have bd2 : (10 : Int) ^ k.toInt.toNat ≤ 10000 := by
              rcases (show k.toInt.toNat = 0 ∨ k.toInt.toNat = 1 ∨ k.toInt.toNat = 2 ∨ k.toInt.toNat = 3 ∨ k.toInt.toNat = 4 by omega) with w | w | w | w | w <;> rw [w] <;> decide
            have ey : y3.toInt = gn T (b + (k.toInt.toNat : Int)) := by rw [e3, m222, kn, hab]
            have cy : dgt y3.toInt := by rw [ey, kn, ← hab]; exact c4
            have cy1 := cy.1
            have cy2 := cy.2
            refine J3 _ lo ⟨by rw [gi_sv_ne (by decide)]; exact m2, ga_sv.trans m222, Or.inr ⟨c1, by rw [gi_sv_ne (by decide), m3]; exact l2, lN, fun w => ?_, by rw [gi_sv_ne (by decide), ← c3]; exact mx⟩⟩ hm3 b0 b1 b2 b3 b4 b5
            rw [e6, ks, i32_10 (by omega) (by omega) (by omega) (by omega)]
            show _ = 10 * dgv T b k.toInt.toNat + gn T (b + (k.toInt.toNat : Int)) - 48
            rw [← ey, v0]
        refine w_ah_263 hm a0 a1 a2 a3 a4 a5 ha (fun q lo b0 b1 b2 b3 b4 b5 hm2 => go lo b0 b1 b2 b3 b4 b5) (fun q q2 lo b0 b1 b2 b3 b4 b5 hm2 => go lo b0 b1 b2 b3 b4 b5) (fun q q2 => absurd c1 q2)
  have hx : (tch T p b ∨ mo.toInt < k.toInt) ↔ ¬ (gi mem 221 12).toInt = -1 := by
    obtain ⟨-, -, h⟩ := h
    rcases hc with ⟨c1, c2, c3, c4⟩ | ⟨c1, c2, c3, c4⟩
    · rcases h with ⟨l1, l2, l3, l4, l5⟩ | ⟨l1, -⟩
      · rw [c3]; exact l5
      · exact absurd l1 c1
    · rcases h with ⟨l1, -⟩ | ⟨l1, l2, l3, l4, l5⟩
      · exact absurd c1 l1
      · rw [c3]; exact l5
  have m2 := h.1
  have m222 := h.2.1
  refine w_ah_243 hm a0 a1 a2 a3 a4 a5 (fun q lo b0 b1 b2 b3 b4 b5 hm2 => ?_) (fun q q2 lo b0 b1 b2 b3 b4 b5 hm2 => ?_) (fun q q2 lo b0 b1 b2 b3 b4 b5 hm2 => ?_)
  · refine J1 mem lo m2 m222 rfl rfl rfl ?_ hm2 b0 b1 b2 b3 b4 b5
    rw [← hx]
    constructor
    · rintro (w | w)
      · exact Or.inl w
      · exact Or.inr (by omega)
    · rintro (w | w)
      · exact Or.inl w
      · exact Or.inr (by omega)
  · exact J1 mem lo m2 m222 rfl rfl rfl ⟨fun _ => q2, fun _ => Or.inr (by omega)⟩ hm2 b0 b1 b2 b3 b4 b5
  · have e12 : gi (si mem 221 12 a) 221 12 = a := gi_eqO (isO_of hm) (by decide)
    exact J1 _ lo (by rw [gi_sv_ne (by decide)]; exact m2) (ga_sv.trans m222) (by rw [gi_sv_ne (by decide)]) (gi_sv_ne (by decide)) (gL_sv_ne (by decide)) ⟨fun _ => by rw [e12]; omega, fun _ => Or.inr (by omega)⟩ hm2 b0 b1 b2 b3 b4 b5
theorem af_204 {l g mo : Int32} (S : Skp T n p b) (hbn : b < n) (hn : n ≤ 1600) (hb0 : 0 ≤ b) (hl : (¬ l.toInt = 0 ∧ g.toInt = 0 ∧ mo.toInt = 6 ∧ ltr (gn T b)) ∨ (l.toInt = 0 ∧ ¬ g.toInt = 0 ∧ mo.toInt = 4 ∧ dgt (gn T b))) : ∀ (f : Nat) (mem : zM) (a k : Int32) (lo : List (Nat × Value)), n ≤ a.toInt + (f : Int) → 0 ≤ k.toInt → a.toInt = b + k.toInt → a.toInt ≤ n → afI T n p b l.toInt k.toInt mem → aTm aT0 mem → zlg lo 0 = some (.ref 221) → zlg lo 1 = some (.int a) → zlg lo 2 = some (.int l) → zlg lo 3 = some (.int g) → zlg lo 4 = some (.int mo) → zlg lo 5 = some (.int k) → yR zpg tX12_ahead (d + 1) (204, lo, [], mem) (fun r m => mT T n p m) := by
  intro f
  induction f with
  | zero =>
    intro mem a k lo hf k0 hab han h hm a0 a1 a2 a3 a4 a5
    have g2 := h.1
    have ek : a.toInt - b = k.toInt := by omega
    refine w_ah_204 hm a0 a1 a2 a3 a4 a5 (by omega) (fun q lo b0 b1 hm2 => ?_) (fun q => by exfalso; omega) (fun q => by exfalso; omega) (fun q => by exfalso; omega) (fun q => by exfalso; omega) (fun q => by exfalso; omega) (fun q => by exfalso; omega)
    exact af_334 S hbn (by rw [ek]; exact h) ⟨by omega, han⟩ hn hb0 (fun w => by exfalso; omega) hm2 b0 b1
  | succ f ih =>
    intro mem a k lo hf k0 hab han h hm a0 a1 a2 a3 a4 a5
    have g2 := h.1
    have g1 := h.2.1
    have ek : a.toInt - b = k.toInt := by omega
    -- the first sign counts: k is not 0 at the end
    have en : ∀ (lo : List (Nat × Value)), (a.toInt < n → ((¬ l.toInt = 0 → ¬ ltr (gn T a.toInt)) ∧ (l.toInt = 0 → ¬ dgt (gn T a.toInt)))) → zlg lo 0 = some (.ref 221) → zlg lo 1 = some (.int a) → yR zpg tX12_ahead (d + 1) (334, lo, [], mem) (fun r m => mT T n p m) := fun lo w b0 b1 => by
      have hk : 0 < k.toInt := by
        rcases Int.lt_or_le 0 k.toInt with z | z
        · exact z
        · exfalso
          have e : a.toInt = b := by omega
          have w2 := w (by omega)
          rw [e] at w2
          rcases hl with ⟨c1, -, -, c4⟩ | ⟨c1, -, -, c4⟩
          · exact w2.1 c1 c4
          · exact w2.2 c1 c4
      exact af_334 S hbn (by rw [ek]; exact h) ⟨by omega, han⟩ hn hb0 w hm b0 b1
    have st : ∀ (lo : List (Nat × Value)), a.toInt < n → ((¬ l.toInt = 0 ∧ ltr (gn T a.toInt)) ∨ (l.toInt = 0 ∧ dgt (gn T a.toInt))) → zlg lo 0 = some (.ref 221) → zlg lo 1 = some (.int a) → zlg lo 2 = some (.int l) → zlg lo 3 = some (.int g) → zlg lo 4 = some (.int mo) → zlg lo 5 = some (.int k) → yR zpg tX12_ahead (d + 1) (243, lo, [], mem) (fun r m => mT T n p m) := fun lo q w b0 b1 b2 b3 b4 b5 => by
      refine af_243 k0 (by omega) hab ⟨by omega, by omega⟩ hb0 h ?_ hm (fun m a' k' lo' e1 e2 h' hm' c0 c1 c2 c3 c4 c5 => ih m a' k' lo' (by omega) (by omega) (by omega) (by omega) h' hm' c0 c1 c2 c3 c4 c5) b0 b1 b2 b3 b4 b5
      rcases hl with ⟨c1, c2, c3, -⟩ | ⟨c1, c2, c3, -⟩
      · rcases w with ⟨-, w⟩ | ⟨w, -⟩
        · exact Or.inl ⟨c1, c2, c3, w⟩
        · exact absurd w c1
      · rcases w with ⟨w, -⟩ | ⟨-, w⟩
        · exact absurd c1 w
        · exact Or.inr ⟨c1, c2, c3, w⟩
    refine w_ah_204 hm a0 a1 a2 a3 a4 a5 (by omega) (fun q lo b0 b1 hm2 => en lo (fun w => by exfalso; omega) b0 b1) (fun q z y e c lo b0 b1 hm2 => ?_) (fun q z y e c c' lo b0 b1 hm2 => ?_) (fun q z y e c c' lo b0 b1 b2 b3 b4 b5 hm2 => ?_) (fun q z y e c lo b0 b1 hm2 => ?_) (fun q z y e c c' lo b0 b1 hm2 => ?_) (fun q z y e c c' lo b0 b1 b2 b3 b4 b5 hm2 => ?_)
    · rw [g1] at c
      exact en lo (fun _ => ⟨fun w => absurd z w, fun _ w => by have := w.1; omega⟩) b0 b1
    · rw [g1] at c c'
      exact en lo (fun _ => ⟨fun w => absurd z w, fun _ w => by have := w.2; omega⟩) b0 b1
    · rw [g1] at c c'
      exact st lo (by omega) (Or.inr ⟨z, c, c'⟩) b0 b1 b2 b3 b4 b5
    · rw [g1] at c
      exact en lo (fun _ => ⟨fun _ w => by have := w.1; omega, fun w => absurd w z⟩) b0 b1
    · rw [g1] at c c'
      exact en lo (fun _ => ⟨fun _ w => by have := w.2; omega, fun w => absurd w z⟩) b0 b1
    · rw [g1] at c c'
      exact st lo (by omega) (Or.inl ⟨z, c, c'⟩) b0 b1 b2 b3 b4 b5
/-- the first byte of a sign: what kind it is -/
theorem af_135 {mem : zM} {a l g : Int32} {lo : List (Nat × Value)} (S : Skp T n p a.toInt) (hbn : a.toInt < n) (hn : n ≤ 1600) (hb0 : 0 ≤ a.toInt) (hN : (gi mem 221 2).toInt = n) (hT : ga mem 222 = T) (hl : (¬ l.toInt = 0 ∧ g.toInt = 0 ∧ ltr (gn T a.toInt)) ∨ (l.toInt = 0 ∧ ¬ g.toInt = 0 ∧ dgt (gn T a.toInt)) ∨ (l.toInt = 0 ∧ g.toInt = 0 ∧ ¬ ltr (gn T a.toInt) ∧ ¬ dgt (gn T a.toInt))) (hx : (l.toInt = 0 ∧ g.toInt = 0 → (gi mem 221 12).toInt = -1) ∧ (¬ (l.toInt = 0 ∧ g.toInt = 0) → (tch T p a.toInt ↔ ¬ (gi mem 221 12).toInt = -1))) (hm : aTm aT0 mem) (a0 : zlg lo 0 = some (.ref 221)) (a1 : zlg lo 1 = some (.int a)) (a2 : zlg lo 2 = some (.int l)) (a3 : zlg lo 3 = some (.int g)) : yR zpg tX12_ahead (d + 1) (135, lo, [], mem) (fun r m => mT T n p m) := by
  have o1 : isO mem := isO_of hm
  refine w_ah_135 hm a0 a1 a2 a3 ⟨hb0, by omega⟩ (fun x1 e1 q lo b0 b1 b2 b3 b4 b5 hm2 => ?_) (fun x1 e1 q q2 lo b0 b1 b2 b3 b4 b5 hm2 => ?_) (fun x1 e1 q q2 y e hm2 => ?_)
  · have c : ¬ l.toInt = 0 ∧ g.toInt = 0 ∧ ltr (gn T a.toInt) := by
      rcases hl with w | ⟨w, -⟩ | ⟨w, -⟩
      · exact w
      · exact absurd w q
      · exact absurd w q
    refine af_204 (mo := 6) S hbn hn hb0 (Or.inl ⟨c.1, c.2.1, rfl, c.2.2⟩) 1600 _ a 0 lo (by omega) (by decide) (by show a.toInt = a.toInt + 0; omega) (by omega) ⟨?_, ?_, Or.inl ⟨c.1, ?_, fun i i0 i1 => ?_, fun _ => ?_, ?_⟩⟩ hm2 b0 b1 b2 b3 b4 b5
    · rw [gi_sv_ne (by decide), gi_sv_ne (by decide), gi_sv_ne (by decide), gi_sv_ne (by decide), gi_sv_ne (by decide)]; exact hN
    · rw [ga_sv, ga_sv, ga_sv, ga_sv, ga_sv]; exact hT
    · rw [gi_eqO (isO_sv (isO_sv (isO_sv (isO_sv o1)))) (by decide)]; rfl
    · exfalso
      have z : Int32.toInt 0 = 0 := rfl
      omega
    · rw [gL_sv_ne (by decide), gL_sv_ne (by decide), gL_sv_ne (by decide), gL_sL_eq mO_e mO_7 (tm_si mO_e mO_6 hm (i32_b _))]
      rfl
    · rw [gi_sv_ne (by decide), gi_sv_ne (by decide), gi_sv_ne (by decide), gi_sv_ne (by decide), gi_sv_ne (by decide), ← hx.2 (fun w => c.1 w.1)]
      constructor
      · rintro (w | w)
        · exact w
        · exact absurd w (by decide)
      · exact Or.inl
  · have c : l.toInt = 0 ∧ ¬ g.toInt = 0 ∧ dgt (gn T a.toInt) := by
      rcases hl with ⟨w, -⟩ | w | ⟨-, w, -⟩
      · exact absurd q w
      · exact w
      · exact absurd w q2
    refine af_204 (mo := 4) S hbn hn hb0 (Or.inr ⟨c.1, c.2.1, rfl, c.2.2⟩) 1600 _ a 0 lo (by omega) (by decide) (by show a.toInt = a.toInt + 0; omega) (by omega) ⟨?_, ?_, Or.inr ⟨c.1, ?_, fun i i0 i1 => ?_, fun _ => ?_, ?_⟩⟩ hm2 b0 b1 b2 b3 b4 b5
    · rw [gi_sv_ne (by decide), gi_sv_ne (by decide), gi_sv_ne (by decide), gi_sv_ne (by decide), gi_sv_ne (by decide)]; exact hN
    · rw [ga_sv, ga_sv, ga_sv, ga_sv, ga_sv]; exact hT
    · rw [gi_eqO (isO_sv (isO_sv (isO_sv (isO_sv o1)))) (by decide)]; rfl
    · exfalso
      have z : Int32.toInt 0 = 0 := rfl
      omega
    · rw [gi_sv_ne (by decide), gi_sv_ne (by decide), gi_sv_ne (by decide), gi_sv_ne (by decide), gi_eqO o1 (by decide)]
      rfl
    · rw [gi_sv_ne (by decide), gi_sv_ne (by decide), gi_sv_ne (by decide), gi_sv_ne (by decide), gi_sv_ne (by decide), ← hx.2 (fun w => c.2.1 w.2)]
      constructor
      · rintro (w | w)
        · exact w
        · exact absurd w (by decide)
      · exact Or.inl
  · have c : ¬ ltr (gn T a.toInt) ∧ ¬ dgt (gn T a.toInt) := by
      rcases hl with ⟨w, -⟩ | ⟨-, w, -⟩ | w
      · exact absurd q w
      · exact absurd q2 w
      · exact w.2.2
    refine ⟨(3, gn T a.toInt, []), a.toInt + 1, ⟨a.toInt, S, Or.inr (Or.inl ⟨hbn, c.1, c.2, rfl, rfl⟩)⟩, ?_, Or.inr ⟨?_, Or.inr (Or.inl ⟨?_, rfl, ?_⟩)⟩⟩
    · rw [gi_sv_ne (by decide), gi_eqO (isO_sv (isO_sv (isO_sv o1))) (by decide)]; exact e1
    · rw [gi_sv_ne (by decide), gi_sv_ne (by decide), gi_sv_ne (by decide), gi_sv_ne (by decide), gi_sv_ne (by decide)]; exact hx.1 ⟨q, q2⟩
    · rw [gi_sv_ne (by decide), gi_sv_ne (by decide), gi_eqO (isO_sv (isO_sv o1)) (by decide)]; rfl
    · rw [gi_eqO (isO_sv (isO_sv (isO_sv (isO_sv o1)))) (by decide), e, hT]
theorem af_41 {mem : zM} {a : Int32} {lo : List (Nat × Value)} (S : Skp T n p a.toInt) (hp : 0 ≤ p) (hn : n ≤ 1600) (hN : (gi mem 221 2).toInt = n) (hT : ga mem 222 = T) (hm : aTm aT0 mem) (a0 : zlg lo 0 = some (.ref 221)) (a1 : zlg lo 1 = some (.int a)) : yR zpg tX12_ahead (d + 1) (41, lo, [], mem) (fun r m => mT T n p m) := by
  have s1 := S.1
  have s2 := S.2.1
  have hb0 : 0 ≤ a.toInt := by omega
  have tI := tch_iff S hp
  exact w_ah_41 hm a0 a1 ⟨hb0, by omega⟩
        (fun q1 y2 e3 q4 y8 e9 q10 lo b0 b1 b2 b3 hm2 => by
          rw [hT] at e3 q4 e9 q10
          exact af_135 S (by omega) hn hb0 (by rw [((gi_sv_ne (by decide)).trans ((gi_sv_ne (by decide)).trans ((gi_sv_ne (by decide)).trans (gi_sv_ne (by decide)))))]; exact hN) (((ga_sv).trans ((ga_sv).trans ((ga_sv).trans (ga_sv)))).trans hT) (Or.inr (Or.inr ⟨rfl, rfl, fun w => by have w1 := w.1; have w2 := w.2; omega, fun w => by have w1 := w.1; have w2 := w.2; omega⟩)) ⟨fun _ => by rw [(gi_eqO (isO_sv (isO_sv (isO_sv (isO_of hm)))) (by decide))]; rfl, fun w => absurd ⟨rfl, rfl⟩ w⟩ hm2 b0 b1 b2 b3)
        (fun q1 y2 e3 q4 y8 e9 q10 q14 lo b0 b1 b2 b3 hm2 => by
          rw [hT] at e3 q4 e9 q10 q14
          exact af_135 S (by omega) hn hb0 (by rw [((gi_sv_ne (by decide)).trans ((gi_sv_ne (by decide)).trans ((gi_sv_ne (by decide)).trans (gi_sv_ne (by decide)))))]; exact hN) (((ga_sv).trans ((ga_sv).trans ((ga_sv).trans (ga_sv)))).trans hT) (Or.inr (Or.inr ⟨rfl, rfl, fun w => by have w1 := w.1; have w2 := w.2; omega, fun w => by have w1 := w.1; have w2 := w.2; omega⟩)) ⟨fun _ => by rw [(gi_eqO (isO_sv (isO_sv (isO_sv (isO_of hm)))) (by decide))]; rfl, fun w => absurd ⟨rfl, rfl⟩ w⟩ hm2 b0 b1 b2 b3)
        (fun q1 y2 e3 q4 y8 e9 q10 q14 q21 lo b0 b1 b2 b3 hm2 => by
          rw [hT] at e3 q4 e9 q10 q14
          exact af_135 S (by omega) hn hb0 (by rw [((gi_sv_ne (by decide)).trans ((gi_sv_ne (by decide)).trans ((gi_sv_ne (by decide)).trans (gi_sv_ne (by decide)))))]; exact hN) (((ga_sv).trans ((ga_sv).trans ((ga_sv).trans (ga_sv)))).trans hT) (Or.inr (Or.inl ⟨rfl, by decide, ⟨by omega, by omega⟩⟩)) ⟨fun w => absurd w (by decide), fun _ => by
            rw [tI, (gi_eqO (isO_sv (isO_sv (isO_sv (isO_of hm)))) (by decide))]
            refine ⟨fun w => ?_, fun w => absurd rfl w⟩
            exfalso
            obtain ⟨w1, w2⟩ := w
            rcases w2 with w2 | w2 <;> (have w3 := w2.1; have w4 := w2.2; omega)⟩ hm2 b0 b1 b2 b3)
        (fun q1 y2 e3 q4 y8 e9 q10 q14 q21 x22 e23 y24 e25 q26 x27 e28 y29 e30 q31 lo b0 b1 b2 b3 hm2 => by
          rw [hT] at e3 q4 e9 q10 q14 e25 q26 e30 q31
          exact af_135 S (by omega) hn hb0 (by rw [((gi_sv_ne (by decide)).trans ((gi_sv_ne (by decide)).trans ((gi_sv_ne (by decide)).trans (gi_sv_ne (by decide)))))]; exact hN) (((ga_sv).trans ((ga_sv).trans ((ga_sv).trans (ga_sv)))).trans hT) (Or.inr (Or.inl ⟨rfl, by decide, ⟨by omega, by omega⟩⟩)) ⟨fun w => absurd w (by decide), fun _ => by
            rw [tI, (gi_eqO (isO_sv (isO_sv (isO_sv (isO_of hm)))) (by decide))]
            refine ⟨fun w => ?_, fun w => absurd rfl w⟩
            exfalso
            obtain ⟨w1, w2⟩ := w
            rcases w2 with w2 | w2 <;> (have w3 := w2.1; have w4 := w2.2; omega)⟩ hm2 b0 b1 b2 b3)
        (fun q1 y2 e3 q4 y8 e9 q10 q14 q21 x22 e23 y24 e25 q26 x27 e28 y29 e30 q31 q32 lo b0 b1 b2 b3 hm2 => by
          rw [hT] at e3 q4 e9 q10 q14 e25 q26 e30 q31 q32
          exact af_135 S (by omega) hn hb0 (by rw [((gi_sv_ne (by decide)).trans ((gi_sv_ne (by decide)).trans ((gi_sv_ne (by decide)).trans (gi_sv_ne (by decide)))))]; exact hN) (((ga_sv).trans ((ga_sv).trans ((ga_sv).trans (ga_sv)))).trans hT) (Or.inr (Or.inl ⟨rfl, by decide, ⟨by omega, by omega⟩⟩)) ⟨fun w => absurd w (by decide), fun _ => by
            rw [tI, (gi_eqO (isO_sv (isO_sv (isO_sv (isO_of hm)))) (by decide))]
            refine ⟨fun w => ?_, fun w => absurd rfl w⟩
            exfalso
            obtain ⟨w1, w2⟩ := w
            rcases w2 with w2 | w2 <;> (have w3 := w2.1; have w4 := w2.2; omega)⟩ hm2 b0 b1 b2 b3)
        (fun q1 y2 e3 q4 y8 e9 q10 q14 q21 x22 e23 y24 e25 q26 x27 e28 y29 e30 q31 q32 lo b0 b1 b2 b3 hm2 => by
          rw [hT] at e3 q4 e9 q10 q14 e25 q26 e30 q31 q32
          exact af_135 S (by omega) hn hb0 (by rw [((gi_sv_ne (by decide)).trans ((gi_sv_ne (by decide)).trans ((gi_sv_ne (by decide)).trans ((gi_sv_ne (by decide)).trans (gi_sv_ne (by decide))))))]; exact hN) (((ga_sv).trans ((ga_sv).trans ((ga_sv).trans ((ga_sv).trans (ga_sv))))).trans hT) (Or.inr (Or.inl ⟨rfl, by decide, ⟨by omega, by omega⟩⟩)) ⟨fun w => absurd w (by decide), fun _ => by
            rw [tI, (gi_eqO (isO_sv (isO_sv (isO_sv (isO_sv (isO_of hm))))) (by decide))]
            refine ⟨fun _ => by omega, fun _ => ⟨by omega, ?_⟩⟩
            first | exact Or.inl ⟨by omega, by omega⟩ | exact Or.inr ⟨by omega, by omega⟩⟩ hm2 b0 b1 b2 b3)
        (fun q1 y2 e3 q4 y8 e9 q10 q14 q21 x22 e23 y24 e25 q26 q33 x34 e35 y36 e37 lo b0 b1 b2 b3 hm2 => by
          rw [hT] at e3 q4 e9 q10 q14 e25 q26 q33 e37
          exact af_135 S (by omega) hn hb0 (by rw [((gi_sv_ne (by decide)).trans ((gi_sv_ne (by decide)).trans ((gi_sv_ne (by decide)).trans (gi_sv_ne (by decide)))))]; exact hN) (((ga_sv).trans ((ga_sv).trans ((ga_sv).trans (ga_sv)))).trans hT) (Or.inr (Or.inl ⟨rfl, by decide, ⟨by omega, by omega⟩⟩)) ⟨fun w => absurd w (by decide), fun _ => by
            rw [tI, (gi_eqO (isO_sv (isO_sv (isO_sv (isO_of hm)))) (by decide))]
            refine ⟨fun w => ?_, fun w => absurd rfl w⟩
            exfalso
            obtain ⟨w1, w2⟩ := w
            rcases w2 with w2 | w2 <;> (have w3 := w2.1; have w4 := w2.2; omega)⟩ hm2 b0 b1 b2 b3)
        (fun q1 y2 e3 q4 y8 e9 q10 q14 q21 x22 e23 y24 e25 q26 q33 lo b0 b1 b2 b3 hm2 => by
          rw [hT] at e3 q4 e9 q10 q14 e25 q26 q33
          exact af_135 S (by omega) hn hb0 (by rw [((gi_sv_ne (by decide)).trans ((gi_sv_ne (by decide)).trans ((gi_sv_ne (by decide)).trans ((gi_sv_ne (by decide)).trans (gi_sv_ne (by decide))))))]; exact hN) (((ga_sv).trans ((ga_sv).trans ((ga_sv).trans ((ga_sv).trans (ga_sv))))).trans hT) (Or.inr (Or.inl ⟨rfl, by decide, ⟨by omega, by omega⟩⟩)) ⟨fun w => absurd w (by decide), fun _ => by
            rw [tI, (gi_eqO (isO_sv (isO_sv (isO_sv (isO_sv (isO_of hm))))) (by decide))]
            refine ⟨fun _ => by omega, fun _ => ⟨by omega, ?_⟩⟩
            first | exact Or.inl ⟨by omega, by omega⟩ | exact Or.inr ⟨by omega, by omega⟩⟩ hm2 b0 b1 b2 b3)
        (fun q1 y2 e3 q4 q38 y42 e43 lo b0 b1 b2 b3 hm2 => by
          rw [hT] at e3 q4 q38 e43
          exact af_135 S (by omega) hn hb0 (by rw [((gi_sv_ne (by decide)).trans ((gi_sv_ne (by decide)).trans ((gi_sv_ne (by decide)).trans (gi_sv_ne (by decide)))))]; exact hN) (((ga_sv).trans ((ga_sv).trans ((ga_sv).trans (ga_sv)))).trans hT) (Or.inr (Or.inr ⟨rfl, rfl, fun w => by have w1 := w.1; have w2 := w.2; omega, fun w => by have w1 := w.1; have w2 := w.2; omega⟩)) ⟨fun _ => by rw [(gi_eqO (isO_sv (isO_sv (isO_sv (isO_of hm)))) (by decide))]; rfl, fun w => absurd ⟨rfl, rfl⟩ w⟩ hm2 b0 b1 b2 b3)
        (fun q1 y2 e3 q4 q38 y50 e51 q55 lo b0 b1 b2 b3 hm2 => by
          rw [hT] at e3 q4 q38 e51
          exact af_135 S (by omega) hn hb0 (by rw [((gi_sv_ne (by decide)).trans ((gi_sv_ne (by decide)).trans ((gi_sv_ne (by decide)).trans (gi_sv_ne (by decide)))))]; exact hN) (((ga_sv).trans ((ga_sv).trans ((ga_sv).trans (ga_sv)))).trans hT) (Or.inl ⟨by decide, rfl, ⟨by omega, by omega⟩⟩) ⟨fun w => absurd w (by decide), fun _ => by
            rw [tI, (gi_eqO (isO_sv (isO_sv (isO_sv (isO_of hm)))) (by decide))]
            refine ⟨fun w => ?_, fun w => absurd rfl w⟩
            exfalso
            obtain ⟨w1, w2⟩ := w
            rcases w2 with w2 | w2 <;> (have w3 := w2.1; have w4 := w2.2; omega)⟩ hm2 b0 b1 b2 b3)
        (fun q1 y2 e3 q4 q38 y50 e51 q55 x56 e57 y58 e59 q60 x61 e62 y63 e64 q65 lo b0 b1 b2 b3 hm2 => by
          rw [hT] at e3 q4 q38 e51 e59 q60 e64 q65
          exact af_135 S (by omega) hn hb0 (by rw [((gi_sv_ne (by decide)).trans ((gi_sv_ne (by decide)).trans ((gi_sv_ne (by decide)).trans (gi_sv_ne (by decide)))))]; exact hN) (((ga_sv).trans ((ga_sv).trans ((ga_sv).trans (ga_sv)))).trans hT) (Or.inl ⟨by decide, rfl, ⟨by omega, by omega⟩⟩) ⟨fun w => absurd w (by decide), fun _ => by
            rw [tI, (gi_eqO (isO_sv (isO_sv (isO_sv (isO_of hm)))) (by decide))]
            refine ⟨fun w => ?_, fun w => absurd rfl w⟩
            exfalso
            obtain ⟨w1, w2⟩ := w
            rcases w2 with w2 | w2 <;> (have w3 := w2.1; have w4 := w2.2; omega)⟩ hm2 b0 b1 b2 b3)
        (fun q1 y2 e3 q4 q38 y50 e51 q55 x56 e57 y58 e59 q60 x61 e62 y63 e64 q65 q66 lo b0 b1 b2 b3 hm2 => by
          rw [hT] at e3 q4 q38 e51 e59 q60 e64 q65 q66
          exact af_135 S (by omega) hn hb0 (by rw [((gi_sv_ne (by decide)).trans ((gi_sv_ne (by decide)).trans ((gi_sv_ne (by decide)).trans (gi_sv_ne (by decide)))))]; exact hN) (((ga_sv).trans ((ga_sv).trans ((ga_sv).trans (ga_sv)))).trans hT) (Or.inl ⟨by decide, rfl, ⟨by omega, by omega⟩⟩) ⟨fun w => absurd w (by decide), fun _ => by
            rw [tI, (gi_eqO (isO_sv (isO_sv (isO_sv (isO_of hm)))) (by decide))]
            refine ⟨fun w => ?_, fun w => absurd rfl w⟩
            exfalso
            obtain ⟨w1, w2⟩ := w
            rcases w2 with w2 | w2 <;> (have w3 := w2.1; have w4 := w2.2; omega)⟩ hm2 b0 b1 b2 b3)
        (fun q1 y2 e3 q4 q38 y50 e51 q55 x56 e57 y58 e59 q60 x61 e62 y63 e64 q65 q66 lo b0 b1 b2 b3 hm2 => by
          rw [hT] at e3 q4 q38 e51 e59 q60 e64 q65 q66
          exact af_135 S (by omega) hn hb0 (by rw [((gi_sv_ne (by decide)).trans ((gi_sv_ne (by decide)).trans ((gi_sv_ne (by decide)).trans ((gi_sv_ne (by decide)).trans (gi_sv_ne (by decide))))))]; exact hN) (((ga_sv).trans ((ga_sv).trans ((ga_sv).trans ((ga_sv).trans (ga_sv))))).trans hT) (Or.inl ⟨by decide, rfl, ⟨by omega, by omega⟩⟩) ⟨fun w => absurd w (by decide), fun _ => by
            rw [tI, (gi_eqO (isO_sv (isO_sv (isO_sv (isO_sv (isO_of hm))))) (by decide))]
            refine ⟨fun _ => by omega, fun _ => ⟨by omega, ?_⟩⟩
            first | exact Or.inl ⟨by omega, by omega⟩ | exact Or.inr ⟨by omega, by omega⟩⟩ hm2 b0 b1 b2 b3)
        (fun q1 y2 e3 q4 q38 y50 e51 q55 x56 e57 y58 e59 q60 q67 x68 e69 y70 e71 lo b0 b1 b2 b3 hm2 => by
          rw [hT] at e3 q4 q38 e51 e59 q60 q67 e71
          exact af_135 S (by omega) hn hb0 (by rw [((gi_sv_ne (by decide)).trans ((gi_sv_ne (by decide)).trans ((gi_sv_ne (by decide)).trans (gi_sv_ne (by decide)))))]; exact hN) (((ga_sv).trans ((ga_sv).trans ((ga_sv).trans (ga_sv)))).trans hT) (Or.inl ⟨by decide, rfl, ⟨by omega, by omega⟩⟩) ⟨fun w => absurd w (by decide), fun _ => by
            rw [tI, (gi_eqO (isO_sv (isO_sv (isO_sv (isO_of hm)))) (by decide))]
            refine ⟨fun w => ?_, fun w => absurd rfl w⟩
            exfalso
            obtain ⟨w1, w2⟩ := w
            rcases w2 with w2 | w2 <;> (have w3 := w2.1; have w4 := w2.2; omega)⟩ hm2 b0 b1 b2 b3)
        (fun q1 y2 e3 q4 q38 y50 e51 q55 x56 e57 y58 e59 q60 q67 lo b0 b1 b2 b3 hm2 => by
          rw [hT] at e3 q4 q38 e51 e59 q60 q67
          exact af_135 S (by omega) hn hb0 (by rw [((gi_sv_ne (by decide)).trans ((gi_sv_ne (by decide)).trans ((gi_sv_ne (by decide)).trans ((gi_sv_ne (by decide)).trans (gi_sv_ne (by decide))))))]; exact hN) (((ga_sv).trans ((ga_sv).trans ((ga_sv).trans ((ga_sv).trans (ga_sv))))).trans hT) (Or.inl ⟨by decide, rfl, ⟨by omega, by omega⟩⟩) ⟨fun w => absurd w (by decide), fun _ => by
            rw [tI, (gi_eqO (isO_sv (isO_sv (isO_sv (isO_sv (isO_of hm))))) (by decide))]
            refine ⟨fun _ => by omega, fun _ => ⟨by omega, ?_⟩⟩
            first | exact Or.inl ⟨by omega, by omega⟩ | exact Or.inr ⟨by omega, by omega⟩⟩ hm2 b0 b1 b2 b3)
        (fun q1 hm2 => ⟨(0, 0, []), n, ⟨a.toInt, S, Or.inl ⟨by omega, rfl, rfl⟩⟩, by rw [((gi_sv_ne (by decide)).trans ((gi_sv_ne (by decide)).trans (gi_eqO (isO_sv (isO_of hm)) (by decide))))]; omega, Or.inr ⟨by rw [(gi_eqO (isO_sv (isO_sv (isO_sv (isO_of hm)))) (by decide))]; rfl, Or.inl ⟨by rw [((gi_sv_ne (by decide)).trans (gi_eqO (isO_sv (isO_sv (isO_of hm))) (by decide)))]; rfl, rfl⟩⟩⟩)
theorem af_5 {mem : zM} (hp : 0 ≤ p) (hn : n ≤ 1600) (hN : (gi mem 221 2).toInt = n) (hT : ga mem 222 = T) (hm : aTm aT0 mem) : ∀ (f : Nat) (a : Int32) (lo : List (Nat × Value)), n ≤ a.toInt + (f : Int) → p ≤ a.toInt → a.toInt ≤ n → (∀ i, p ≤ i → i < a.toInt → blk (gn T i)) → zlg lo 0 = some (.ref 221) → zlg lo 1 = some (.int a) → yR zpg tX12_ahead (d + 1) (5, lo, [], mem) (fun r m => mT T n p m) := by
  intro f
  induction f with
  | zero =>
    intro a lo hf h0 h1 hb a0 a1
    refine w_ah_5 hm a0 a1 ⟨by omega, by omega⟩ (fun q lo b0 b1 hm2 => af_41 ⟨h0, h1, hb, fun w => by exfalso; omega⟩ hp hn hN hT hm2 b0 b1) (fun q => by exfalso; omega) (fun q => by exfalso; omega) (fun q => by exfalso; omega)
  | succ f ih =>
    intro a lo hf h0 h1 hb a0 a1
    have up : ∀ (x : Int32) (lo : List (Nat × Value)), x.toInt = a.toInt + 1 → a.toInt < n → blk (gn T a.toInt) → zlg lo 0 = some (.ref 221) → zlg lo 1 = some (.int x) → yR zpg tX12_ahead (d + 1) (5, lo, [], mem) (fun r m => mT T n p m) := fun x lo e q w b0 b1 => ih x lo (by omega) (by omega) (by omega) (fun i i0 i1 => by
      by_cases z : i = a.toInt
      · rw [z]; exact w
      · exact hb i i0 (by omega)) b0 b1
    refine w_ah_5 hm a0 a1 ⟨by omega, by omega⟩ (fun q lo b0 b1 hm2 => af_41 ⟨h0, h1, hb, fun w => by exfalso; omega⟩ hp hn hN hT hm2 b0 b1) (fun q y e c x ex lo b0 b1 hm2 => ?_) (fun q y e c y2 e2 c2 lo b0 b1 hm2 => ?_) (fun q y e c y2 e2 c2 x ex lo b0 b1 hm2 => ?_)
    · rw [hT] at c
      exact up x lo ex (by omega) (Or.inl c) b0 b1
    · rw [hT] at c c2
      exact af_41 ⟨h0, h1, hb, fun _ w => by rcases w with w | w; exact c w; exact c2 w⟩ hp hn hN hT hm2 b0 b1
    · rw [hT] at c2
      exact up x lo ex (by omega) (Or.inr c2) b0 b1
theorem h_aheadF {mem : zM} (hm : aTm aT0 mem) (hp : (gi mem 221 5).toInt = p) (hN : (gi mem 221 2).toInt = n) (hT : ga mem 222 = T) (hpn : p ≤ n) (hd : 2 ≤ d) : yC zpg d 173 [.ref 221] mem (fun r m => mT T n p m) := by
  obtain ⟨d, rfl⟩ : ∃ q, d = q + 2 := ⟨d - 2, by omega⟩
  have r2 := mO_r2 hm
  have r5 := mO_r5 hm
  refine yC_of (t := tX12_ahead) rfl rfl ?_
  exact w_ah_0 hm rfl (fun lo b0 b1 hm2 => af_5 (by omega) (by omega) hN hT hm2 1600 _ lo (by omega) (by omega) (by omega) (fun i i0 i1 => by exfalso; omega) b0 b1)
end AF
