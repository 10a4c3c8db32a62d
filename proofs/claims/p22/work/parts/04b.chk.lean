/-! abstract steps -/
section AO
variable {Θ : aTh} {D : Nat}
theorem aGm_mk {m0 : zM} {ν : List Int32} {pc nx : Nat} {la : List (Nat × aV)} {sa : List aV} {en : aEn} {mo : aMo} {lo : List (Nat × Value)} {sk : List Value} {mem : zM} (h1 : aLo ν la lo) (h2 : aSk ν sa sk) (h3 : aFa ν en) (h4 : ν.length = nx) (h5 : aMm ν mo mem) (h6 : aJ Θ mem) (h7 : aPr Θ.1 m0 mem) : aGm Θ m0 ν (pc, la, sa, en, nx, mo) (pc, lo, sk, mem) := ⟨rfl, h1, h2, h3, h4, h5, h6, h7⟩
theorem aGm_nw {m0 : zM} {ν : List Int32} {pc nx : Nat} {la : List (Nat × aV)} {sa : List aV} {en : aEn} {mo : aMo} {lo : List (Nat × Value)} {sk : List Value} {mem : zM} {e : Int × Int × Nat × Int} (x : Int32) (h1 : aLo ν la lo) (h2 : aSk ν sa sk) (h3 : aFa ν en) (h4 : ν.length = nx) (h5 : aMm ν mo mem) (h6 : aJ Θ mem) (h7 : aPr Θ.1 m0 mem) (he : aFa1 (ν ++ [x]) (nx, e)) : aGm Θ m0 (ν ++ [x]) (pc, la, .inl nx :: sa, (nx, e) :: en, nx + 1, mo) (pc, lo, .int x :: sk, mem) :=
  ⟨rfl, aLo_app x h1, ⟨⟨x, a_new x h4, rfl⟩, aSk_app x h2⟩, List.forall_mem_cons.mpr ⟨he, aFa_app x h3⟩, by rw [List.length_append, h4]; rfl, aMm_app x h5, h6, h7⟩
/-- a new symbol with an interval alone -/
theorem aFa1_i {ν : List Int32} {nx : Nat} {x : Int32} {l h : Int} (hn : ν.length = nx) (h1 : l ≤ x.toInt) (h2 : x.toInt ≤ h) : aFa1 (ν ++ [x]) (nx, l, h, nx, 0) := ⟨x, x, a_new x hn, h1, h2, a_new x hn, by show x.toInt = x.toInt + 0; omega⟩
/-! stack and constants -/
def a_pi (c : Int) (len : Nat) : aF := fun a K _ => match a with
  | (pc, la, sa, en, nx, mo) => K (pc + len, la, .inl nx :: sa, (nx, c, c, nx, 0) :: en, nx + 1, mo)
theorem aok_pi {c : Int} {len : Nat} {v : Int32} (hv : v.toInt = c) : aOk Θ D (zst len (zp (.int v))) (a_pi c len) := by
  intro d m0 ν pc la sa en nx mo lo sk mem K R hD h1 h2 h3 h4 h5 h6 h7 hA
  exact Or.inl ⟨(pc + len, lo, .int v :: sk, mem), _, ν ++ [v], List.prefix_append _ _, fun Y rec κ ρ => rfl, hA, aGm_nw v h1 h2 h3 h4 h5 h6 h7 (aFa1_i h4 (by omega) (by omega))⟩
def a_pl (len : Nat) : aF := fun a K _ => match a with
  | (pc, la, sa, en, nx, mo) => K (pc + len, la, .inr none :: sa, en, nx, mo)
theorem aok_pl {len : Nat} {v : Int64} : aOk Θ D (zst len (zp (.long v))) (a_pl len) := by
  intro d m0 ν pc la sa en nx mo lo sk mem K R hD h1 h2 h3 h4 h5 h6 h7 hA
  exact Or.inl ⟨(pc + len, lo, .long v :: sk, mem), _, ν, List.prefix_refl _, fun Y rec κ ρ => rfl, hA, aGm_mk h1 ⟨⟨v, rfl⟩, h2⟩ h3 h4 h5 h6 h7⟩
/-- two ints into one; g says its interval -/
def a_b2 (g : Int × Int → Int × Int → Int × Int) : aF := fun a K _ => match a with
  | (pc, la, .inl s :: .inl r :: sa, en, nx, mo) => match g ((aFn en r).1, (aFn en r).2.1) ((aFn en s).1, (aFn en s).2.1) with
    | (l, h) => K (pc + 1, la, .inl nx :: sa, (nx, l, h, nx, 0) :: en, nx + 1, mo)
  | _ => false
def aSd (o : Int32 → Int32 → Int32) (g : Int × Int → Int × Int → Int × Int) : Prop := ∀ (p q : Int × Int) (x y : Int32), p.1 ≤ x.toInt → x.toInt ≤ p.2 → q.1 ≤ y.toInt → y.toInt ≤ q.2 → (g p q).1 ≤ (o x y).toInt ∧ (o x y).toInt ≤ (g p q).2
theorem aok_b2 {o : Int32 → Int32 → Int32} {g : Int × Int → Int × Int → Int × Int} (hg : aSd o g) : aOk Θ D (zst 1 (zb o)) (a_b2 g) := by
  intro d m0 ν pc la sa en nx mo lo sk mem K R hD h1 h2 h3 h4 h5 h6 h7 hA
  unfold a_b2 at hA
  split at hA
  · next heq =>
    cases heq
    rename_i s r sa
    obtain ⟨x, sk, rfl, ⟨y, k1, rfl⟩, h2a⟩ := aSk_c h2
    obtain ⟨z, sk, rfl, ⟨w, k2, rfl⟩, h2b⟩ := aSk_c h2a
    have e1 := aFn_s h3 k1
    have e2 := aFn_s h3 k2
    have e3 := hg ((aFn en r).1, (aFn en r).2.1) ((aFn en s).1, (aFn en s).2.1) w y e2.1 e2.2.1 e1.1 e1.2.1
    exact Or.inl ⟨(pc + 1, lo, .int (o w y) :: sk, mem), _, ν ++ [o w y], List.prefix_append _ _, fun Y rec κ ρ => rfl, hA, aGm_nw _ h1 h2b h3 h4 h5 h6 h7 (aFa1_i h4 e3.1 e3.2)⟩
  · cases hA
/-- divisions: the divisor's interval has no 0 -/
def a_d2 (g : Int × Int → Int × Int → Int × Int) : aF := fun a K _ => match a with
  | (pc, la, .inl s :: .inl r :: sa, en, nx, mo) => Bool.and (decide (1 ≤ (aFn en s).1)) (match g ((aFn en r).1, (aFn en r).2.1) ((aFn en s).1, (aFn en s).2.1) with
    | (l, h) => K (pc + 1, la, .inl nx :: sa, (nx, l, h, nx, 0) :: en, nx + 1, mo))
  | _ => false
def aSp (o : Int32 → Int32 → Int32) (g : Int × Int → Int × Int → Int × Int) : Prop := ∀ (p q : Int × Int) (x y : Int32), p.1 ≤ x.toInt → x.toInt ≤ p.2 → q.1 ≤ y.toInt → y.toInt ≤ q.2 → 1 ≤ q.1 → (g p q).1 ≤ (o x y).toInt ∧ (o x y).toInt ≤ (g p q).2
theorem aok_d2 {o : Int32 → Int32 → Int32} {g : Int × Int → Int × Int → Int × Int} (hg : aSp o g) : aOk Θ D (zst 1 (zdi o)) (a_d2 g) := by
  intro d m0 ν pc la sa en nx mo lo sk mem K R hD h1 h2 h3 h4 h5 h6 h7 hA
  unfold a_d2 at hA
  split at hA
  · next heq =>
    cases heq
    rename_i s r sa
    obtain ⟨hA1, hA⟩ := (Bool.and_eq_true _ _).mp hA
    have hA1 := of_decide_eq_true hA1
    obtain ⟨x, sk, rfl, ⟨y, k1, rfl⟩, h2a⟩ := aSk_c h2
    obtain ⟨z, sk, rfl, ⟨w, k2, rfl⟩, h2b⟩ := aSk_c h2a
    have e1 := aFn_s h3 k1
    have e2 := aFn_s h3 k2
    have e3 := hg ((aFn en r).1, (aFn en r).2.1) ((aFn en s).1, (aFn en s).2.1) w y e2.1 e2.2.1 e1.1 e1.2.1 hA1
    have hy : decide (y = 0) = false := decide_eq_false (fun q => by
      rw [q] at e1
      have : (0 : Int32).toInt = 0 := rfl
      omega)
    refine Or.inl ⟨(pc + 1, lo, .int (o w y) :: sk, mem), _, ν ++ [o w y], List.prefix_append _ _, fun Y rec κ ρ => ?_, hA, aGm_nw _ h1 h2b h3 h4 h5 h6 h7 (aFa1_i h4 e3.1 e3.2)⟩
    simp only [zst, zdi, hy]
  · cases hA
/-- longs -/
def a_l2 : aF := fun a K _ => match a with
  | (pc, la, .inr none :: .inr none :: sa, en, nx, mo) => K (pc + 1, la, .inr none :: sa, en, nx, mo)
  | _ => false
theorem aok_l2 {o : Int64 → Int64 → Int64} : aOk Θ D (zst 1 (zbl o)) a_l2 := by
  intro d m0 ν pc la sa en nx mo lo sk mem K R hD h1 h2 h3 h4 h5 h6 h7 hA
  unfold a_l2 at hA
  split at hA
  · next heq =>
    cases heq
    obtain ⟨x, sk, rfl, ⟨y, rfl⟩, h2a⟩ := aSk_c h2
    obtain ⟨z, sk, rfl, ⟨w, rfl⟩, h2b⟩ := aSk_c h2a
    exact Or.inl ⟨(pc + 1, lo, .long (o w y) :: sk, mem), _, ν, List.prefix_refl _, fun Y rec κ ρ => rfl, hA, aGm_mk h1 ⟨⟨_, rfl⟩, h2b⟩ h3 h4 h5 h6 h7⟩
  · cases hA
def a_ls : aF := fun a K _ => match a with
  | (pc, la, .inl _ :: .inr none :: sa, en, nx, mo) => K (pc + 1, la, .inr none :: sa, en, nx, mo)
  | _ => false
theorem aok_ls {o : Int64 → Int32 → Int64} : aOk Θ D (zst 1 (zbs o)) a_ls := by
  intro d m0 ν pc la sa en nx mo lo sk mem K R hD h1 h2 h3 h4 h5 h6 h7 hA
  unfold a_ls at hA
  split at hA
  · next heq =>
    cases heq
    obtain ⟨x, sk, rfl, ⟨y, -, rfl⟩, h2a⟩ := aSk_c h2
    obtain ⟨z, sk, rfl, ⟨w, rfl⟩, h2b⟩ := aSk_c h2a
    exact Or.inl ⟨(pc + 1, lo, .long (o w y) :: sk, mem), _, ν, List.prefix_refl _, fun Y rec κ ρ => rfl, hA, aGm_mk h1 ⟨⟨_, rfl⟩, h2b⟩ h3 h4 h5 h6 h7⟩
  · cases hA
theorem lg_cmp_b (x y : Int64) : -1 ≤ (lg_cmp x y).toInt ∧ (lg_cmp x y).toInt ≤ 1 := by
  unfold lg_cmp
  split
  · exact ⟨by decide, by decide⟩
  · split
    · exact ⟨by decide, by decide⟩
    · exact ⟨by decide, by decide⟩
def a_cm : aF := fun a K _ => match a with
  | (pc, la, .inr none :: .inr none :: sa, en, nx, mo) => K (pc + 1, la, .inl nx :: sa, (nx, -1, 1, nx, 0) :: en, nx + 1, mo)
  | _ => false
theorem aok_cm : aOk Θ D (zst 1 zcm) a_cm := by
  intro d m0 ν pc la sa en nx mo lo sk mem K R hD h1 h2 h3 h4 h5 h6 h7 hA
  unfold a_cm at hA
  split at hA
  · next heq =>
    cases heq
    obtain ⟨x, sk, rfl, ⟨y, rfl⟩, h2a⟩ := aSk_c h2
    obtain ⟨z, sk, rfl, ⟨w, rfl⟩, h2b⟩ := aSk_c h2a
    exact Or.inl ⟨(pc + 1, lo, .int (lg_cmp w y) :: sk, mem), _, ν ++ [lg_cmp w y], List.prefix_append _ _, fun Y rec κ ρ => rfl, hA, aGm_nw _ h1 h2b h3 h4 h5 h6 h7 (aFa1_i h4 (lg_cmp_b w y).1 (lg_cmp_b w y).2)⟩
  · cases hA
def a_il : aF := fun a K _ => match a with
  | (pc, la, .inl _ :: sa, en, nx, mo) => K (pc + 1, la, .inr none :: sa, en, nx, mo)
  | _ => false
theorem aok_il : aOk Θ D (zst 1 zil) a_il := by
  intro d m0 ν pc la sa en nx mo lo sk mem K R hD h1 h2 h3 h4 h5 h6 h7 hA
  unfold a_il at hA
  split at hA
  · next heq =>
    cases heq
    obtain ⟨x, sk, rfl, ⟨y, -, rfl⟩, h2a⟩ := aSk_c h2
    exact Or.inl ⟨(pc + 1, lo, .long y.toInt64 :: sk, mem), _, ν, List.prefix_refl _, fun Y rec κ ρ => rfl, hA, aGm_mk h1 ⟨⟨_, rfl⟩, h2a⟩ h3 h4 h5 h6 h7⟩
  · cases hA
def a_l2i : aF := fun a K _ => match a with
  | (pc, la, .inr none :: sa, en, nx, mo) => K (pc + 1, la, .inl nx :: sa, (nx, -2147483648, 2147483647, nx, 0) :: en, nx + 1, mo)
  | _ => false
theorem aok_l2i : aOk Θ D (zst 1 zli) a_l2i := by
  intro d m0 ν pc la sa en nx mo lo sk mem K R hD h1 h2 h3 h4 h5 h6 h7 hA
  unfold a_l2i at hA
  split at hA
  · next heq =>
    cases heq
    obtain ⟨x, sk, rfl, ⟨y, rfl⟩, h2a⟩ := aSk_c h2
    exact Or.inl ⟨(pc + 1, lo, .int y.toInt32 :: sk, mem), _, ν ++ [y.toInt32], List.prefix_append _ _, fun Y rec κ ρ => rfl, hA, aGm_nw _ h1 h2a h3 h4 h5 h6 h7 (aFa1_i h4 (i32_b _).1 (i32_b _).2)⟩
  · cases hA
def aC1 (v : aV) : Bool := match v with
  | .inr none => false
  | _ => true
theorem aC1_s {ν : List Int32} {v : aV} {x : Value} (h : aG1 ν v x) (k : aC1 v = true) : zc1 x = true := by
  rcases v with s | _ | ks
  · obtain ⟨y, -, rfl⟩ := h; rfl
  · cases k
  · obtain ⟨y, -, rfl⟩ := h; rfl
def a_du : aF := fun a K _ => match a with
  | (pc, la, v :: sa, en, nx, mo) => Bool.and (aC1 v) (K (pc + 1, la, v :: v :: sa, en, nx, mo))
  | _ => false
theorem aok_du : aOk Θ D (zst 1 zdu) a_du := by
  intro d m0 ν pc la sa en nx mo lo sk mem K R hD h1 h2 h3 h4 h5 h6 h7 hA
  unfold a_du at hA
  split at hA
  · next heq =>
    cases heq
    obtain ⟨hA1, hA⟩ := (Bool.and_eq_true _ _).mp hA
    obtain ⟨x, sk, rfl, k1, h2a⟩ := aSk_c h2
    refine Or.inl ⟨(pc + 1, lo, x :: x :: sk, mem), _, ν, List.prefix_refl _, fun Y rec κ ρ => ?_, hA, aGm_mk h1 ⟨k1, k1, h2a⟩ h3 h4 h5 h6 h7⟩
    simp only [zst, zdu, aC1_s k1 hA1]
  · cases hA
def a_d22 : aF := fun a K _ => match a with
  | (pc, la, v :: w :: sa, en, nx, mo) => Bool.and (aC1 v) (Bool.and (aC1 w) (K (pc + 1, la, v :: w :: v :: w :: sa, en, nx, mo)))
  | _ => false
theorem zd2_2 {x y : Value} {sk : List Value} (h1 : zc1 x = true) (h2 : zc1 y = true) : zd2 (x :: y :: sk) = some (x :: y :: x :: y :: sk) := by
  cases x <;> first | (cases h1; done) | (simp only [zd2, h1, h2])
theorem aok_d22 : aOk Θ D (zst 1 zd2) a_d22 := by
  intro d m0 ν pc la sa en nx mo lo sk mem K R hD h1 h2 h3 h4 h5 h6 h7 hA
  unfold a_d22 at hA
  split at hA
  · next heq =>
    cases heq
    obtain ⟨hA1, hA⟩ := (Bool.and_eq_true _ _).mp hA
    obtain ⟨hA2, hA⟩ := (Bool.and_eq_true _ _).mp hA
    obtain ⟨x, sk, rfl, k1, h2a⟩ := aSk_c h2
    obtain ⟨y, sk, rfl, k2, h2b⟩ := aSk_c h2a
    refine Or.inl ⟨(pc + 1, lo, x :: y :: x :: y :: sk, mem), _, ν, List.prefix_refl _, fun Y rec κ ρ => ?_, hA, aGm_mk h1 ⟨k1, k2, k1, k2, h2b⟩ h3 h4 h5 h6 h7⟩
    simp only [zst, zd2_2 (aC1_s k1 hA1) (aC1_s k2 hA2)]
  · cases hA
def a_mm (mx : Bool) : aF := fun a K _ => match a with
  | (pc, la, .inl s :: .inl r :: sa, en, nx, mo) => Bool.and (Nat.ble sa.length 4) (bif mx then K (pc + 3, la, .inl nx :: sa, (nx, max (aFn en r).1 (aFn en s).1, max (aFn en r).2.1 (aFn en s).2.1, nx, 0) :: en, nx + 1, mo) else K (pc + 3, la, .inl nx :: sa, (nx, min (aFn en r).1 (aFn en s).1, min (aFn en r).2.1 (aFn en s).2.1, nx, 0) :: en, nx + 1, mo))
  | _ => false
theorem aSk_len {ν : List Int32} : ∀ {sa : List aV} {sk : List Value}, aSk ν sa sk → sk.length = sa.length
  | [], [], _ => rfl
  | _ :: _, _ :: _, h => congrArg (· + 1) (aSk_len h.2)
  | [], _ :: _, h => h.elim
  | _ :: _, [], h => h.elim
theorem zwd_le : ∀ sk : List Value, zwd sk ≤ 2 * sk.length
  | [] => Nat.le_refl _
  | x :: r => by
    have h := zwd_le r
    have e : zwd (x :: r) = x.category + zwd r := rfl
    have c : x.category ≤ 2 := by rcases lv_cat x with q | q <;> omega
    rw [e, List.length_cons]
    omega
theorem zwd_8 {ν : List Int32} {sa : List aV} {sk : List Value} (h : aSk ν sa sk) (k : Nat.ble sa.length 4 = true) : Nat.ble (zwd sk) 8 = true := Nat.ble_eq_true_of_le (by
  have h1 := aSk_len h
  have h2 := zwd_le sk
  have h3 := Nat.le_of_ble_eq_true k
  omega)
theorem aok_mmin : aOk Θ D zmmin (a_mm false) := by
  intro d m0 ν pc la sa en nx mo lo sk mem K R hD h1 h2 h3 h4 h5 h6 h7 hA
  unfold a_mm at hA
  split at hA
  · next heq =>
    cases heq
    obtain ⟨hA1, hA⟩ := (Bool.and_eq_true _ _).mp hA
    obtain ⟨_, sk, rfl, ⟨y, k1, rfl⟩, h2a⟩ := aSk_c h2
    obtain ⟨_, sk, rfl, ⟨x, k2, rfl⟩, h2b⟩ := aSk_c h2a
    have e1 := aFn_s h3 k1
    have e2 := aFn_s h3 k2
    refine Or.inl ⟨(pc + 3, lo, .int (if y < x then y else x) :: sk, mem), _, ν ++ [if y < x then y else x], List.prefix_append _ _, fun Y rec κ ρ => ?_, hA, aGm_nw _ h1 h2b h3 h4 h5 h6 h7 (aFa1_i h4 ?_ ?_)⟩
    · simp only [zmmin, zwd_8 h2b hA1]
    · split <;> omega
    · split
      · next q => rw [Int32.lt_iff_toInt_lt] at q; omega
      · next q => rw [Int32.lt_iff_toInt_lt] at q; omega
  · cases hA
theorem aok_mmax : aOk Θ D zmmax (a_mm true) := by
  intro d m0 ν pc la sa en nx mo lo sk mem K R hD h1 h2 h3 h4 h5 h6 h7 hA
  unfold a_mm at hA
  split at hA
  · next heq =>
    cases heq
    obtain ⟨hA1, hA⟩ := (Bool.and_eq_true _ _).mp hA
    obtain ⟨_, sk, rfl, ⟨y, k1, rfl⟩, h2a⟩ := aSk_c h2
    obtain ⟨_, sk, rfl, ⟨x, k2, rfl⟩, h2b⟩ := aSk_c h2a
    have e1 := aFn_s h3 k1
    have e2 := aFn_s h3 k2
    refine Or.inl ⟨(pc + 3, lo, .int (if x < y then y else x) :: sk, mem), _, ν ++ [if x < y then y else x], List.prefix_append _ _, fun Y rec κ ρ => ?_, hA, aGm_nw _ h1 h2b h3 h4 h5 h6 h7 (aFa1_i h4 ?_ ?_)⟩
    · simp only [zmmax, zwd_8 h2b hA1]
    · split
      · next q => rw [Int32.lt_iff_toInt_lt] at q; omega
      · next q => rw [Int32.lt_iff_toInt_lt] at q; omega
    · split <;> omega
  · cases hA
/-! locals -/
def alg : List (Nat × aV) → Nat → Option aV
  | [], _ => none
  | q :: r, i => bif Nat.beq q.1 i then some q.2 else alg r i
theorem alg_mem {i : Nat} {v : aV} : ∀ {l : List (Nat × aV)}, alg l i = some v → (i, v) ∈ l
  | [], h => by cases h
  | q :: r, h => by
    unfold alg at h
    cases hb : Nat.beq q.1 i with
    | true =>
      rw [hb] at h
      simp only [cond_true, Option.some.injEq] at h
      rw [← h, ← Nat.eq_of_beq_eq_true hb]
      exact List.mem_cons_self
    | false =>
      rw [hb] at h
      exact List.mem_cons_of_mem _ (alg_mem h)
theorem alg_s {ν : List Int32} {la : List (Nat × aV)} {lo : List (Nat × Value)} {i : Nat} {v : aV} (h : aLo ν la lo) (k : alg la i = some v) : ∃ x, zlg lo i = some x ∧ aG1 ν v x := h _ (alg_mem k)
def a_ld (k len : Nat) : aF := fun a K _ => match a with
  | (pc, la, sa, en, nx, mo) => match alg la k with
    | some v => K (pc + len, la, v :: sa, en, nx, mo)
    | none => false
def a_ldi (k len : Nat) : aF := fun a K _ => match a with
  | (pc, la, sa, en, nx, mo) => match alg la k with
    | some (.inl s) => K (pc + len, la, .inl s :: sa, en, nx, mo)
    | _ => false
theorem aok_ldi {k len : Nat} : aOk Θ D (zli4 k len) (a_ldi k len) := by
  intro d m0 ν pc la sa en nx mo lo sk mem K R hD h1 h2 h3 h4 h5 h6 h7 hA
  unfold a_ldi at hA
  dsimp only at hA
  split at hA
  · next s hs =>
    obtain ⟨x, k1, k2⟩ := alg_s h1 hs
    obtain ⟨y, k3, rfl⟩ := id k2
    refine Or.inl ⟨(pc + len, lo, .int y :: sk, mem), _, ν, List.prefix_refl _, fun Y rec κ ρ => ?_, hA, aGm_mk h1 ⟨k2, h2⟩ h3 h4 h5 h6 h7⟩
    simp only [zli4, k1]
  · cases hA
def a_ldl (k len : Nat) : aF := fun a K _ => match a with
  | (pc, la, sa, en, nx, mo) => match alg la k with
    | some (.inr none) => K (pc + len, la, .inr none :: sa, en, nx, mo)
    | _ => false
theorem aok_ldl {k len : Nat} : aOk Θ D (zll4 k len) (a_ldl k len) := by
  intro d m0 ν pc la sa en nx mo lo sk mem K R hD h1 h2 h3 h4 h5 h6 h7 hA
  unfold a_ldl at hA
  dsimp only at hA
  split at hA
  · next hs =>
    obtain ⟨x, k1, k2⟩ := alg_s h1 hs
    obtain ⟨y, rfl⟩ := id k2
    refine Or.inl ⟨(pc + len, lo, .long y :: sk, mem), _, ν, List.prefix_refl _, fun Y rec κ ρ => ?_, hA, aGm_mk h1 ⟨k2, h2⟩ h3 h4 h5 h6 h7⟩
    simp only [zll4, k1]
  · cases hA
def a_lda (k len : Nat) : aF := fun a K _ => match a with
  | (pc, la, sa, en, nx, mo) => match alg la k with
    | some (.inr (some ks)) => K (pc + len, la, .inr (some ks) :: sa, en, nx, mo)
    | _ => false
theorem aok_lda {k len : Nat} : aOk Θ D (zla4 k len) (a_lda k len) := by
  intro d m0 ν pc la sa en nx mo lo sk mem K R hD h1 h2 h3 h4 h5 h6 h7 hA
  unfold a_lda at hA
  dsimp only at hA
  split at hA
  · next hs =>
    obtain ⟨x, k1, k2⟩ := alg_s h1 hs
    obtain ⟨y, hy, rfl⟩ := id k2
    refine Or.inl ⟨(pc + len, lo, .ref y :: sk, mem), _, ν, List.prefix_refl _, fun Y rec κ ρ => ?_, hA, aGm_mk h1 ⟨k2, h2⟩ h3 h4 h5 h6 h7⟩
    simp only [zla4, k1]
  · cases hA
def aLg (v : aV) : Bool := match v with
  | .inr none => true
  | _ => false
def az1 (la : List (Nat × aV)) (i : Nat) (v : aV) : List (Nat × aV) := (i, v) :: la.filter (fun q => !(Nat.beq q.1 i) && !(Nat.beq (q.1 + 1) i && aLg q.2))
def az2 (la : List (Nat × aV)) (i : Nat) (v : aV) : List (Nat × aV) := (i, v) :: la.filter (fun q => !(Nat.beq q.1 i) && (!(Nat.beq q.1 (i + 1)) && !(Nat.beq (q.1 + 1) i && aLg q.2)))
theorem zlg_fil {p : Nat × Value → Bool} {i : Nat} {x : Value} : ∀ {l : List (Nat × Value)}, zlg l i = some x → p (i, x) = true → zlg (l.filter p) i = some x
  | [], h, _ => by cases h
  | q :: r, h, hp => by
    unfold zlg at h
    cases hb : Nat.beq q.1 i with
    | true =>
      rw [hb] at h
      simp only [cond_true, Option.some.injEq] at h
      have hq : q = (i, x) := by rw [← h, ← Nat.eq_of_beq_eq_true hb]
      rw [List.filter_cons, hq, hp, if_pos rfl]
      unfold zlg
      rw [zbq]
      rfl
    | false =>
      rw [hb] at h
      have ih := zlg_fil h hp
      rw [List.filter_cons]
      split
      · unfold zlg
        rw [hb]
        exact ih
      · exact ih
theorem aLg_s {ν : List Int32} {v : aV} {x : Value} (h : aG1 ν v x) (k : aLg v = false) : x.category = 1 := by
  rcases v with s | _ | ks
  · obtain ⟨y, -, rfl⟩ := h; rfl
  · cases k
  · obtain ⟨y, -, rfl⟩ := h; rfl
theorem nbeq_f {a b : Nat} (h : Nat.beq a b = false) : (a == b) = false := by
  have : ¬ a = b := fun q => by rw [q, zbq] at h; cases h
  simpa using this
theorem az1_s {ν : List Int32} {la : List (Nat × aV)} {lo : List (Nat × Value)} {i : Nat} {v : aV} {x : Value} (h : aLo ν la lo) (hv : aG1 ν v x) : aLo ν (az1 la i v) (zl1 lo i x) := by
  intro q hq
  rcases List.mem_cons.mp hq with rfl | hq
  · exact ⟨x, by unfold zl1 zlg; rw [zbq]; rfl, hv⟩
  · obtain ⟨hm, hp⟩ := List.mem_filter.mp hq
    obtain ⟨y, k1, k2⟩ := h q hm
    simp only [Bool.and_eq_true, Bool.not_eq_true', Bool.and_eq_false_iff] at hp
    refine ⟨y, ?_, k2⟩
    unfold zl1 zlg
    have e : Nat.beq i q.1 = false := by
      cases hb : Nat.beq i q.1 with
      | false => rfl
      | true => rw [Nat.eq_of_beq_eq_true hb, zbq] at hp; cases hp.1
    show (bif Nat.beq i q.1 then some x else _) = _
    rw [e]
    refine zlg_fil k1 ?_
    simp only [nbeq_f hp.1, Bool.not_false, Bool.true_and]
    rcases hp.2 with q1 | q1
    · simp only [nbeq_f q1, Bool.false_and, Bool.not_false]
    · rw [aLg_s k2 q1]
      simp
theorem az2_s {ν : List Int32} {la : List (Nat × aV)} {lo : List (Nat × Value)} {i : Nat} {v : aV} {x : Value} (h : aLo ν la lo) (hv : aG1 ν v x) : aLo ν (az2 la i v) (zl2 lo i x) := by
  intro q hq
  rcases List.mem_cons.mp hq with rfl | hq
  · exact ⟨x, by unfold zl2 zlg; rw [zbq]; rfl, hv⟩
  · obtain ⟨hm, hp⟩ := List.mem_filter.mp hq
    obtain ⟨y, k1, k2⟩ := h q hm
    simp only [Bool.and_eq_true, Bool.not_eq_true', Bool.and_eq_false_iff] at hp
    refine ⟨y, ?_, k2⟩
    unfold zl2 zlg
    have e : Nat.beq i q.1 = false := by
      cases hb : Nat.beq i q.1 with
      | false => rfl
      | true => rw [Nat.eq_of_beq_eq_true hb, zbq] at hp; cases hp.1
    show (bif Nat.beq i q.1 then some x else _) = _
    rw [e]
    refine zlg_fil k1 ?_
    simp only [nbeq_f hp.1, nbeq_f hp.2.1, Bool.not_false, Bool.true_and]
    rcases hp.2.2 with q1 | q1
    · simp only [nbeq_f q1, Bool.false_and, Bool.not_false]
    · rw [aLg_s k2 q1]
      simp
def a_sti (nL k len : Nat) : aF := fun a K _ => match a with
  | (pc, la, .inl s :: sa, en, nx, mo) => Bool.and (Nat.ble (k + 1) nL) (K (pc + len, az1 la k (.inl s), sa, en, nx, mo))
  | _ => false
theorem aok_sti {nL k len : Nat} : aOk Θ D (zsi4 nL k len) (a_sti nL k len) := by
  intro d m0 ν pc la sa en nx mo lo sk mem K R hD h1 h2 h3 h4 h5 h6 h7 hA
  unfold a_sti at hA
  split at hA
  · next heq =>
    cases heq
    obtain ⟨hA1, hA⟩ := (Bool.and_eq_true _ _).mp hA
    obtain ⟨_, sk, rfl, k2, h2a⟩ := aSk_c h2
    obtain ⟨y, k1, rfl⟩ := id k2
    refine Or.inl ⟨(pc + len, zl1 lo k (.int y), sk, mem), _, ν, List.prefix_refl _, fun Y rec κ ρ => ?_, hA, aGm_mk (az1_s h1 k2) h2a h3 h4 h5 h6 h7⟩
    simp only [zsi4, hA1]
  · cases hA
def a_stl (nL k len : Nat) : aF := fun a K _ => match a with
  | (pc, la, .inr none :: sa, en, nx, mo) => Bool.and (Nat.ble (k + 2) nL) (K (pc + len, az2 la k (.inr none), sa, en, nx, mo))
  | _ => false
theorem aok_stl {nL k len : Nat} : aOk Θ D (zsl4 nL k len) (a_stl nL k len) := by
  intro d m0 ν pc la sa en nx mo lo sk mem K R hD h1 h2 h3 h4 h5 h6 h7 hA
  unfold a_stl at hA
  split at hA
  · next heq =>
    cases heq
    obtain ⟨hA1, hA⟩ := (Bool.and_eq_true _ _).mp hA
    obtain ⟨_, sk, rfl, k2, h2a⟩ := aSk_c h2
    obtain ⟨y, rfl⟩ := id k2
    refine Or.inl ⟨(pc + len, zl2 lo k (.long y), sk, mem), _, ν, List.prefix_refl _, fun Y rec κ ρ => ?_, hA, aGm_mk (az2_s h1 k2) h2a h3 h4 h5 h6 h7⟩
    simp only [zsl4, hA1]
  · cases hA
def a_sta (nL k len : Nat) : aF := fun a K _ => match a with
  | (pc, la, .inr (some ks) :: sa, en, nx, mo) => Bool.and (Nat.ble (k + 1) nL) (K (pc + len, az1 la k (.inr (some ks)), sa, en, nx, mo))
  | _ => false
theorem aok_sta {nL k len : Nat} : aOk Θ D (zsa4 nL k len) (a_sta nL k len) := by
  intro d m0 ν pc la sa en nx mo lo sk mem K R hD h1 h2 h3 h4 h5 h6 h7 hA
  unfold a_sta at hA
  split at hA
  · next heq =>
    cases heq
    obtain ⟨hA1, hA⟩ := (Bool.and_eq_true _ _).mp hA
    obtain ⟨_, sk, rfl, k2, h2a⟩ := aSk_c h2
    obtain ⟨y, hy, rfl⟩ := id k2
    refine Or.inl ⟨(pc + len, zl1 lo k (.ref y), sk, mem), _, ν, List.prefix_refl _, fun Y rec κ ρ => ?_, hA, aGm_mk (az1_s h1 k2) h2a h3 h4 h5 h6 h7⟩
    simp only [zsa4, hA1]
  · cases hA
/-- a counter goes on: no overflow -/
def a_in (nL k : Nat) (c : Int) : aF := fun a K _ => match a with
  | (pc, la, sa, en, nx, mo) => match alg la k with
    | some (.inl s) => match aFn en s with
      | (l, h, b, o) => Bool.and (Bool.and (Nat.ble (k + 1) nL) (Bool.and (decide (-2147483648 ≤ l + c)) (decide (h + c ≤ 2147483647)))) (K (pc + 3, az1 la k (.inl nx), sa, (nx, l + c, h + c, b, o + c) :: en, nx + 1, mo))
    | _ => false
theorem aok_in {nL k : Nat} {n : Int32} {c : Int} (hc : n.toInt = c) : aOk Θ D (zin4 nL k n) (a_in nL k c) := by
  intro d m0 ν pc la sa en nx mo lo sk mem K R hD h1 h2 h3 h4 h5 h6 h7 hA
  unfold a_in at hA
  dsimp only at hA
  split at hA
  · next s hs =>
    obtain ⟨x, k1, y, k2, rfl⟩ := alg_s h1 hs
    obtain ⟨e1, e2, z, e3, e4⟩ := aFn_s h3 k2
    obtain ⟨hA1, hA⟩ := (Bool.and_eq_true _ _).mp hA
    obtain ⟨hA1, hA2⟩ := (Bool.and_eq_true _ _).mp hA1
    obtain ⟨hA2, hA3⟩ := (Bool.and_eq_true _ _).mp hA2
    have hA2 : -2147483648 ≤ (aFn en s).1 + c := of_decide_eq_true hA2
    have hA3 : (aFn en s).2.1 + c ≤ 2147483647 := of_decide_eq_true hA3
    have e5 : (y + n).toInt = y.toInt + c := by rw [zadd_i (by rw [hc]; omega) (by rw [hc]; omega), hc]
    refine Or.inl ⟨(pc + 3, zl1 lo k (.int (y + n)), sk, mem), _, ν ++ [y + n], List.prefix_append _ _, fun Y rec κ ρ => ?_, hA, rfl, az1_s (aLo_app _ h1) ⟨_, a_new _ h4, rfl⟩, aSk_app _ h2, List.forall_mem_cons.mpr ⟨⟨_, z, a_new _ h4, ?_, ?_, a_get _ e3, ?_⟩, aFa_app _ h3⟩, by rw [List.length_append, h4]; rfl, aMm_app _ h5, h6, h7⟩
    · simp only [zin4, k1, hA1]
    · show _ ≤ (y + n).toInt; rw [e5]; show (aFn en s).1 + c ≤ _; omega
    · show (y + n).toInt ≤ _; rw [e5]; show _ ≤ (aFn en s).2.1 + c; omega
    · show (y + n).toInt = z.toInt + ((aFn en s).2.2.2 + c); rw [e5]; omega
  · cases hA
/-! returns -/
def a_ri (z : Bool) : aF := fun a _ R => match a with
  | (pc, la, [.inl s], en, nx, mo) => Bool.and (Bool.or (!z) (Bool.and (decide (0 ≤ (aFn en s).1)) (decide ((aFn en s).2.1 ≤ 1)))) (R (some (.inl s)) (pc, la, [.inl s], en, nx, mo))
  | _ => false
theorem i32_01 {x : Int32} (h0 : 0 ≤ x.toInt) (h1 : x.toInt ≤ 1) : Bool.or (decide (x = 0)) (decide (x = 1)) = true := by
  rcases (show x.toInt = 0 ∨ x.toInt = 1 by omega) with q | q
  · have : x = 0 := Int32.toInt_inj.mp q
    subst this; rfl
  · have : x = 1 := Int32.toInt_inj.mp q
    subst this; rfl
theorem aok_ri {z : Bool} : aOk Θ D (zri z) (a_ri z) := by
  intro d m0 ν pc la sa en nx mo lo sk mem K R hD h1 h2 h3 h4 h5 h6 h7 hA
  unfold a_ri at hA
  split at hA
  · next heq =>
    cases heq
    obtain ⟨hA1, hA⟩ := (Bool.and_eq_true _ _).mp hA
    obtain ⟨_, sk, rfl, k2, h2a⟩ := aSk_c h2
    obtain ⟨y, k1, rfl⟩ := id k2
    cases sk with
    | cons _ _ => exact h2a.elim
    | nil =>
      refine Or.inr (Or.inl ⟨some (.int y), some _, fun Y rec κ ρ => ?_, hA, k2⟩)
      have e : Bool.or (!z) (Bool.or (decide (y = 0)) (decide (y = 1))) = true := by
        cases z with
        | false => rfl
        | true =>
          have e1 := aFn_s h3 k1
          obtain ⟨q1, q2⟩ := (Bool.and_eq_true _ _).mp (show Bool.and _ _ = true from hA1)
          have q1 := of_decide_eq_true q1
          have q2 := of_decide_eq_true q2
          exact i32_01 (by omega) (by omega)
      simp only [zri, e]
  · cases hA
def a_rl : aF := fun a _ R => match a with
  | (pc, la, [.inr none], en, nx, mo) => R (some (.inr none)) (pc, la, [.inr none], en, nx, mo)
  | _ => false
theorem aok_rl : aOk Θ D zrl a_rl := by
  intro d m0 ν pc la sa en nx mo lo sk mem K R hD h1 h2 h3 h4 h5 h6 h7 hA
  unfold a_rl at hA
  split at hA
  · next heq =>
    cases heq
    obtain ⟨_, sk, rfl, k2, h2a⟩ := aSk_c h2
    obtain ⟨y, rfl⟩ := id k2
    cases sk with
    | cons _ _ => exact h2a.elim
    | nil => exact Or.inr (Or.inl ⟨some (.long y), some _, fun Y rec κ ρ => rfl, hA, k2⟩)
  · cases hA
def a_ra : aF := fun a _ R => match a with
  | (pc, la, [.inr (some ks)], en, nx, mo) => R (some (.inr (some ks))) (pc, la, [.inr (some ks)], en, nx, mo)
  | _ => false
theorem aok_ra : aOk Θ D zra a_ra := by
  intro d m0 ν pc la sa en nx mo lo sk mem K R hD h1 h2 h3 h4 h5 h6 h7 hA
  unfold a_ra at hA
  split at hA
  · next heq =>
    cases heq
    obtain ⟨_, sk, rfl, k2, h2a⟩ := aSk_c h2
    obtain ⟨y, hy, rfl⟩ := id k2
    cases sk with
    | cons _ _ => exact h2a.elim
    | nil => exact Or.inr (Or.inl ⟨some (.ref y), some _, fun Y rec κ ρ => rfl, hA, k2⟩)
  · cases hA
def a_rv : aF := fun a _ R => match a with
  | (pc, la, [], en, nx, mo) => R none (pc, la, [], en, nx, mo)
  | _ => false
theorem aok_rv : aOk Θ D zrv a_rv := by
  intro d m0 ν pc la sa en nx mo lo sk mem K R hD h1 h2 h3 h4 h5 h6 h7 hA
  unfold a_rv at hA
  split at hA
  · next heq =>
    cases heq
    cases sk with
    | cons _ _ => exact h2.elim
    | nil => exact Or.inr (Or.inl ⟨none, none, fun Y rec κ ρ => rfl, hA, trivial⟩)
  · cases hA
end AO
