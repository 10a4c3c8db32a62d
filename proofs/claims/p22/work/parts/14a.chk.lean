def g_shm (p q : Int × Int) : Int × Int := bif Bool.and (decide (0 ≤ p.1)) (Bool.and (decide (0 ≤ q.1)) (decide (q.2 ≤ 31))) then aRg (p.1 * 2 ^ q.1.toNat) (p.2 * 2 ^ q.2.toNat) else aTop
theorem sd_shm : aSd (fun x y => x <<< (y &&& 31)) g_shm := fun p q x y h1 h2 h3 h4 => by
  unfold g_shm
  cases hb : Bool.and (decide (0 ≤ p.1)) (Bool.and (decide (0 ≤ q.1)) (decide (q.2 ≤ 31))) with
  | false => exact i32_b _
  | true =>
    obtain ⟨b1, b2⟩ := (Bool.and_eq_true _ _).mp hb
    obtain ⟨b3, b4⟩ := (Bool.and_eq_true _ _).mp b2
    have b1 := of_decide_eq_true b1
    have b3 := of_decide_eq_true b3
    have b4 := of_decide_eq_true b4
    show (aRg (p.1 * 2 ^ q.1.toNat) (p.2 * 2 ^ q.2.toNat)).1 ≤ (x <<< (y &&& 31)).toInt ∧ (x <<< (y &&& 31)).toInt ≤ (aRg (p.1 * 2 ^ q.1.toNat) (p.2 * 2 ^ q.2.toNat)).2
    unfold aRg
    cases hc : Bool.and (decide ((-2147483648 : Int) ≤ p.1 * 2 ^ q.1.toNat)) (decide (p.2 * 2 ^ q.2.toNat ≤ 2147483647)) with
    | false => exact i32_b _
    | true =>
      have c2 := of_decide_eq_true ((Bool.and_eq_true _ _).mp hc).2
      have e1 := i32_nn (x := x) (by omega)
      have hk : y.toInt.toNat < 32 := by omega
      have e2 : (x <<< (y &&& 31)).toBitVec.toNat = (x.toBitVec.toNat * 2 ^ y.toInt.toNat) % 2 ^ 32 := by
        rw [i32_of (y := y) (by omega)]
        have e3 : (Int32.ofNat y.toInt.toNat).toInt.toNat = y.toInt.toNat := by rw [← i32_of (y := y) (by omega)]
        rw [e3]
        show (x.toBitVec <<< ((Int32.ofNat y.toInt.toNat &&& 31).toBitVec.smod 32).toNat).toNat = _
        rw [i32_sh _ hk, BitVec.toNat_shiftLeft, Nat.shiftLeft_eq]
      have h5 : (2 : Nat) ^ y.toInt.toNat ≤ 2 ^ q.2.toNat := Nat.pow_le_pow_right (by decide) (by omega)
      have h6 : x.toBitVec.toNat * 2 ^ y.toInt.toNat ≤ p.2.toNat * 2 ^ q.2.toNat := Nat.mul_le_mul (by omega) h5
      have h7 : ((p.2.toNat * 2 ^ q.2.toNat : Nat) : Int) = p.2 * 2 ^ q.2.toNat := by
        rw [Int.natCast_mul, Int.natCast_pow, Int.toNat_of_nonneg (by omega)]
        rfl
      have h8 : x.toBitVec.toNat * 2 ^ y.toInt.toNat < 2147483648 := by omega
      have e4 : (x <<< (y &&& 31)).toBitVec.toNat = x.toBitVec.toNat * 2 ^ y.toInt.toNat := by
        rw [e2, Nat.mod_eq_of_lt (by omega)]
      rw [i32_tn (by rw [e4]; exact h8), e4]
      have l5 : (2 : Nat) ^ q.1.toNat ≤ 2 ^ y.toInt.toNat := Nat.pow_le_pow_right (by decide) (by omega)
      have l6 : p.1.toNat * 2 ^ q.1.toNat ≤ x.toBitVec.toNat * 2 ^ y.toInt.toNat := Nat.mul_le_mul (by omega) l5
      have l7 : ((p.1.toNat * 2 ^ q.1.toNat : Nat) : Int) = p.1 * 2 ^ q.1.toNat := by
        rw [Int.natCast_mul, Int.natCast_pow, Int.toNat_of_nonneg (by omega)]
        rfl
      show p.1 * 2 ^ q.1.toNat ≤ _ ∧ _ ≤ p.2 * 2 ^ q.2.toNat
      omega
/-! some more abstract steps -/
section AJ
variable {Θ : aTh} {D : Nat}
def a_pop : aF := fun a K _ => match a with
  | (pc, la, v :: sa, en, nx, mo) => Bool.and (aC1 v) (K (pc + 1, la, sa, en, nx, mo))
  | _ => false
theorem aok_pop : aOk Θ D (zst 1 zpo) a_pop := by
  intro d m0 ν pc la sa en nx mo lo sk mem K R hD h1 h2 h3 h4 h5 h6 h7 hA
  unfold a_pop at hA
  split at hA
  · next heq =>
    cases heq
    obtain ⟨hA1, hA2⟩ := (Bool.and_eq_true _ _).mp hA
    obtain ⟨x, sk, rfl, k1, h2a⟩ := aSk_c h2
    refine Or.inl ⟨(pc + 1, lo, sk, mem), _, ν, List.prefix_refl _, fun Y rec κ ρ => ?_, hA2, aGm_mk h1 h2a h3 h4 h5 h6 h7⟩
    simp only [zst, zpo, aC1_s k1 hA1]
  · cases hA
/-- a counter that may go over the edge -/
def a_iw (nL k : Nat) (c : Int) : aF := fun a K R => match a with
  | (pc, la, sa, en, nx, mo) => match alg la k with
    | some (.inl s) => bif Bool.and (decide (-2147483648 ≤ (aFn en s).1 + c)) (decide ((aFn en s).2.1 + c ≤ 2147483647)) then a_in nL k c a K R else Bool.and (Nat.ble (k + 1) nL) (K (pc + 3, az1 la k (.inl nx), sa, (nx, -2147483648, 2147483647, nx, 0) :: en, nx + 1, mo))
    | _ => false
theorem aok_iw {nL k : Nat} {n : Int32} {c : Int} (hc : n.toInt = c) : aOk Θ D (zin4 nL k n) (a_iw nL k c) := by
  intro d m0 ν pc la sa en nx mo lo sk mem K R hD h1 h2 h3 h4 h5 h6 h7 hA
  unfold a_iw at hA
  dsimp only at hA
  split at hA
  · next s hs =>
    cases hb : Bool.and (decide (-2147483648 ≤ (aFn en s).1 + c)) (decide ((aFn en s).2.1 + c ≤ 2147483647)) with
    | true =>
      rw [hb] at hA
      exact aok_in hc d m0 ν pc la sa en nx mo lo sk mem K R hD h1 h2 h3 h4 h5 h6 h7 hA
    | false =>
      rw [hb] at hA
      obtain ⟨hA1, hA2⟩ := (Bool.and_eq_true _ _).mp hA
      obtain ⟨x, k1, y, k2, rfl⟩ := alg_s h1 hs
      refine Or.inl ⟨(pc + 3, zl1 lo k (.int (y + n)), sk, mem), _, ν ++ [y + n], List.prefix_append _ _, fun Y rec κ ρ => ?_, hA2, rfl, az1_s (aLo_app _ h1) ⟨_, a_new _ h4, rfl⟩, aSk_app _ h2, List.forall_mem_cons.mpr ⟨aFa1_i h4 (i32_b _).1 (i32_b _).2, aFa_app _ h3⟩, by rw [List.length_append, h4]; rfl, aMm_app _ h5, h6, h7⟩
      simp only [zin4, k1, hA1]
  · cases hA
/-- not 0: below or above, one after the other -/
def a_ifs (len tgt : Nat) : aF := fun a K _ => match a with
  | (pc, la, .inl s :: sa, en, nx, mo) => match aFn en s with
    | e => Bool.and (aBr s e (c_eq (e.1, e.2.1)) (pc + len, la, sa, en, nx, mo) K) (Bool.and (aBr s e (c_lt (e.1, e.2.1)) (tgt, la, sa, en, nx, mo) K) (aBr s e (c_gt (e.1, e.2.1)) (tgt, la, sa, en, nx, mo) K))
  | _ => false
theorem aok_ifs {len tgt : Nat} : aOk Θ D (zif (fun x => !decide (x = 0)) len tgt) (a_ifs len tgt) := by
  intro d m0 ν pc la sa en nx mo lo sk mem K R hD h1 h2 h3 h4 h5 h6 h7 hA
  unfold a_ifs at hA
  split at hA
  · next heq =>
    cases heq
    rename_i s sa
    obtain ⟨hE, hA1⟩ := (Bool.and_eq_true _ _).mp hA
    obtain ⟨hL, hG⟩ := (Bool.and_eq_true _ _).mp hA1
    obtain ⟨_, sk, rfl, ⟨x, k1, rfl⟩, h2a⟩ := aSk_c h2
    have e1 := aFn_s h3 k1
    by_cases hx : x = 0
    · have w := c_eq_s (q := ((aFn en s).1, (aFn en s).2.1)) e1.1 e1.2.1 hx
      obtain ⟨q1, q2⟩ := aBr_s h3 k1 w.1 w.2 hE
      refine Or.inl ⟨(pc + len, lo, sk, mem), _, ν, List.prefix_refl _, fun Y rec κ ρ => ?_, q1, aGm_mk h1 h2a q2 h4 h5 h6 h7⟩
      simp only [zif, decide_eq_true hx, Bool.not_true]
    · have hx' := hx
      rw [i32_eq, i32_z] at hx'
      rcases (show x.toInt ≤ -1 ∨ 1 ≤ x.toInt by omega) with hs | hs
      · obtain ⟨q1, q2⟩ := aBr_s (q := c_lt ((aFn en s).1, (aFn en s).2.1)) h3 k1 (by show (aFn en s).1 ≤ _; omega) (by show _ ≤ min (aFn en s).2.1 (-1); omega) hL
        refine Or.inl ⟨(tgt, lo, sk, mem), _, ν, List.prefix_refl _, fun Y rec κ ρ => ?_, q1, aGm_mk h1 h2a q2 h4 h5 h6 h7⟩
        simp only [zif, decide_eq_false hx, Bool.not_false]
      · obtain ⟨q1, q2⟩ := aBr_s (q := c_gt ((aFn en s).1, (aFn en s).2.1)) h3 k1 (by show max (aFn en s).1 1 ≤ _; omega) (by show _ ≤ (aFn en s).2.1; omega) hG
        refine Or.inl ⟨(tgt, lo, sk, mem), _, ν, List.prefix_refl _, fun Y rec κ ρ => ?_, q1, aGm_mk h1 h2a q2 h4 h5 h6 h7⟩
        simp only [zif, decide_eq_false hx, Bool.not_false]
  · cases hA
/-- a division by what isn't 0; nothing is known of its answer -/
def a_d3 : aF := fun a K _ => match a with
  | (pc, la, .inl s :: .inl _ :: sa, en, nx, mo) => Bool.and (Bool.or (decide (1 ≤ (aFn en s).1)) (decide ((aFn en s).2.1 ≤ -1))) (K (pc + 1, la, .inl nx :: sa, (nx, -2147483648, 2147483647, nx, 0) :: en, nx + 1, mo))
  | _ => false
theorem aok_d3 {o : Int32 → Int32 → Int32} : aOk Θ D (zst 1 (zdi o)) a_d3 := by
  intro d m0 ν pc la sa en nx mo lo sk mem K R hD h1 h2 h3 h4 h5 h6 h7 hA
  unfold a_d3 at hA
  split at hA
  · next heq =>
    cases heq
    obtain ⟨hA1, hA2⟩ := (Bool.and_eq_true _ _).mp hA
    obtain ⟨_, sk, rfl, ⟨y, k1, rfl⟩, h2a⟩ := aSk_c h2
    obtain ⟨_, sk, rfl, ⟨w, k2, rfl⟩, h2b⟩ := aSk_c h2a
    have e1 := aFn_s h3 k1
    have hy : decide (y = 0) = false := decide_eq_false (fun q => by
      rw [q, i32_z] at e1
      rcases (Bool.or_eq_true _ _).mp hA1 with z | z
      · have z := of_decide_eq_true z
        omega
      · have z := of_decide_eq_true z
        omega)
    refine Or.inl ⟨(pc + 1, lo, .int (o w y) :: sk, mem), _, ν ++ [o w y], List.prefix_append _ _, fun Y rec κ ρ => ?_, hA2, aGm_nw _ h1 h2b h3 h4 h5 h6 h7 (aFa1_i h4 (i32_b _).1 (i32_b _).2)⟩
    simp only [zst, zdi, hy]
  · cases hA
/-- a number is added: the sum stays tied to what it was added to -/
def a_adc : aF := fun a K R => match a with
  | (pc, la, .inl s :: .inl r :: sa, en, nx, mo) => bif Bool.and (decide ((aFn en s).1 = (aFn en s).2.1)) (Bool.and (decide (-2147483648 ≤ (aFn en r).1 + (aFn en s).1)) (decide ((aFn en r).2.1 + (aFn en s).1 ≤ 2147483647))) then K (pc + 1, la, .inl nx :: sa, (nx, (aFn en r).1 + (aFn en s).1, (aFn en r).2.1 + (aFn en s).1, (aFn en r).2.2.1, (aFn en r).2.2.2 + (aFn en s).1) :: en, nx + 1, mo) else a_b2 g_add a K R
  | _ => false
theorem aok_adc : aOk Θ D (zst 1 (zb (fun x y => x + y))) a_adc := by
  intro d m0 ν pc la sa en nx mo lo sk mem K R hD h1 h2 h3 h4 h5 h6 h7 hA
  unfold a_adc at hA
  split at hA
  · next heq =>
    cases heq
    rename_i s r sa
    cases hb : Bool.and (decide ((aFn en s).1 = (aFn en s).2.1)) (Bool.and (decide (-2147483648 ≤ (aFn en r).1 + (aFn en s).1)) (decide ((aFn en r).2.1 + (aFn en s).1 ≤ 2147483647))) with
    | false =>
      rw [hb] at hA
      exact aok_b2 sd_add d m0 ν pc la _ en nx mo lo sk mem K R hD h1 h2 h3 h4 h5 h6 h7 hA
    | true =>
      rw [hb] at hA
      obtain ⟨b1, b2⟩ := (Bool.and_eq_true _ _).mp hb
      obtain ⟨b3, b4⟩ := (Bool.and_eq_true _ _).mp b2
      have b1 := of_decide_eq_true b1
      have b3 := of_decide_eq_true b3
      have b4 := of_decide_eq_true b4
      obtain ⟨_, sk, rfl, ⟨y, k1, rfl⟩, h2a⟩ := aSk_c h2
      obtain ⟨_, sk, rfl, ⟨x, k2, rfl⟩, h2b⟩ := aSk_c h2a
      obtain ⟨e1, e2, -⟩ := aFn_s h3 k1
      obtain ⟨f1, f2, z, f3, f4⟩ := aFn_s h3 k2
      have e5 : (x + y).toInt = x.toInt + y.toInt := zadd_i (by omega) (by omega)
      refine Or.inl ⟨(pc + 1, lo, .int (x + y) :: sk, mem), _, ν ++ [x + y], List.prefix_append _ _, fun Y rec κ ρ => rfl, hA, aGm_nw _ h1 h2b h3 h4 h5 h6 h7 ⟨_, z, a_new _ h4, ?_, ?_, a_get _ f3, ?_⟩⟩
      · show (aFn en r).1 + (aFn en s).1 ≤ (x + y).toInt; omega
      · show (x + y).toInt ≤ (aFn en r).2.1 + (aFn en s).1; omega
      · show (x + y).toInt = z.toInt + ((aFn en r).2.2.2 + (aFn en s).1); omega
  · cases hA
/-- what is known of a sum is known of what it is tied to -/
def aBa (s : Nat) (K : aS → Bool) : aS → Bool := fun a => match a with
  | (pc, la, sa, en, nx, mo) => K (pc, la, sa, ((aFn en s).2.2.1, max (aFn en (aFn en s).2.2.1).1 ((aFn en s).1 - (aFn en s).2.2.2), min (aFn en (aFn en s).2.2.1).2.1 ((aFn en s).2.1 - (aFn en s).2.2.2), (aFn en (aFn en s).2.2.1).2.2) :: en, nx, mo)
theorem aBa_s {m0 : zM} {ν : List Int32} {s : Nat} {x : Int32} {a : aS} {st : zS} {K : aS → Bool} (h : aBa s K a = true) (hx : ν[s]? = some x) (hg : aGm Θ m0 ν a st) : ∃ a', K a' = true ∧ aGm Θ m0 ν a' st := by
  obtain ⟨pc, la, sa, en, nx, mo⟩ := a
  obtain ⟨g0, g1, g2, g3, g4, g5, g6, g7⟩ := hg
  have h3 : aFa ν en := g3
  obtain ⟨e1, e2, y, e3, e4⟩ := aFn_s h3 hx
  obtain ⟨f1, f2, z, f3, f4⟩ := aFn_s h3 e3
  refine ⟨_, h, g0, g1, g2, List.forall_mem_cons.mpr ⟨⟨y, z, e3, ?_, ?_, f3, f4⟩, h3⟩, g4, g5, g6, g7⟩
  · show max _ _ ≤ y.toInt; omega
  · show y.toInt ≤ min _ _; omega
def a_icb (gT gF : Int × Int → Int × Int → (Int × Int) × (Int × Int)) (len tgt : Nat) : aF := fun a K R => match a.2.2.1 with
  | .inl _ :: .inl s :: _ => a_ic gT gF len tgt a (aBa s K) R
  | _ => false
theorem aok_icb {p : Int32 → Int32 → Bool} {gT gF : Int × Int → Int × Int → (Int × Int) × (Int × Int)} {len tgt : Nat} (hg : aSc p gT gF) : aOk Θ D (zic p len tgt) (a_icb gT gF len tgt) := by
  intro d m0 ν pc la sa en nx mo lo sk mem K R hD h1 h2 h3 h4 h5 h6 h7 hA
  unfold a_icb at hA
  split at hA
  · next r s sa' heq =>
    have heq : sa = .inl r :: .inl s :: sa' := heq
    subst heq
    obtain ⟨x, k1⟩ : ∃ x, ν[s]? = some x := by
      obtain ⟨_, _, rfl, -, h2a⟩ := aSk_c h2
      obtain ⟨_, _, rfl, ⟨x, k2, -⟩, -⟩ := aSk_c h2a
      exact ⟨x, k2⟩
    rcases aok_ic hg d m0 ν pc la _ en nx mo lo sk mem (aBa s K) R hD h1 h2 h3 h4 h5 h6 h7 hA with ⟨st', a', ν', q1, q2, q3, q4⟩ | q | ⟨j, av, rest, q1, q2⟩
    · obtain ⟨a'', w1, w2⟩ := aBa_s q3 (a_pre q1 k1) q4
      exact Or.inl ⟨st', a'', ν', q1, q2, w1, w2⟩
    · exact Or.inr (Or.inl q)
    · refine Or.inr (Or.inr ⟨j, av, rest, q1, yC_mono ?_ q2⟩)
      rintro rr m ⟨a', ν', w1, w2, w3⟩
      obtain ⟨a'', z1, z2⟩ := aBa_s w2 (a_pre w1 k1) w3
      exact ⟨a'', ν', w1, z1, z2⟩
  · cases hA
/-- a reference among some: each of them by itself -/
def a_lds (k len : Nat) : aF := fun a K _ => match a with
  | (pc, la, sa, en, nx, mo) => match alg la k with
    | some (.inr (some ks)) => ks.all (fun q => K (pc + len, (k, .inr (some [q])) :: la, .inr (some [q]) :: sa, en, nx, mo))
    | _ => false
theorem aok_lds {k len : Nat} : aOk Θ D (zla4 k len) (a_lds k len) := by
  intro d m0 ν pc la sa en nx mo lo sk mem K R hD h1 h2 h3 h4 h5 h6 h7 hA
  unfold a_lds at hA
  dsimp only at hA
  split at hA
  · next ks hs =>
    obtain ⟨x, k1, k2⟩ := alg_s h1 hs
    obtain ⟨y, hy, rfl⟩ := id k2
    have g := List.all_eq_true.mp hA y hy
    have hv : aG1 ν (.inr (some [y])) (.ref y) := ⟨y, List.mem_singleton.mpr rfl, rfl⟩
    refine Or.inl ⟨(pc + len, lo, .ref y :: sk, mem), _, ν, List.prefix_refl _, fun Y rec κ ρ => ?_, g, aGm_mk (List.forall_mem_cons.mpr ⟨⟨_, k1, hv⟩, h1⟩) ⟨hv, h2⟩ h3 h4 h5 h6 h7⟩
    simp only [zla4, k1]
  · cases hA
end AJ
