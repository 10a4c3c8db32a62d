/-- a load of what the extra invariant knows: cell k, at the index that field i of object o holds -/
def a_ale (T : List aCe) (k o i n : Nat) (q : Int × Int) : aF := fun a K _ => match a with
  | (pc, la, .inl s :: .inr (some [k']) :: sa, en, nx, mo) => Bool.and (Bool.and (Nat.beq k' k) (match aml mo o i with
    | some s' => Nat.beq s' s
    | none => false)) (Bool.and (Bool.and (decide (0 ≤ (aFn en s).1)) (aGa T 0 (aFn en s).2.1 (-2147483648, 2147483647) k)) (K (pc + 1, la, .inl nx :: sa, (nx, q.1, q.2, nx, 0) :: en, nx + 1, mo)))
  | _ => false
def aQe (Θ : aTh) (k o i : Nat) (q : Int × Int) : Prop := ∀ (mem : zM) (x : Int32) (l : List Int32), aJ Θ mem → zfl mem o i = some (.int x) → zat mem k = some (.inl (0, .inl l)) → q.1 ≤ (l.getD x.toNatClampNeg 0).toInt ∧ (l.getD x.toNatClampNeg 0).toInt ≤ q.2
theorem aok_ale {Θ : aTh} {D k o i n : Nat} {q : Int × Int} (hq : aQe Θ k o i q) : aOk Θ D (zal 0) (a_ale Θ.1 k o i n q) := by
  intro d m0 ν pc la sa en nx mo lo sk mem K R hD h1 h2 h3 h4 h5 h6 h7 hA
  unfold a_ale at hA
  split at hA
  · next heq =>
    cases heq
    rename_i s k' sa
    obtain ⟨c1, c2⟩ := (Bool.and_eq_true _ _).mp hA
    obtain ⟨c3, c4⟩ := (Bool.and_eq_true _ _).mp c1
    obtain ⟨c5, c6⟩ := (Bool.and_eq_true _ _).mp c2
    obtain ⟨c7, c8⟩ := (Bool.and_eq_true _ _).mp c5
    have c3 := Nat.eq_of_beq_eq_true c3
    subst c3
    have c7 := of_decide_eq_true c7
    split at c4
    · next s' hs =>
      have c4 := Nat.eq_of_beq_eq_true c4
      subst c4
      obtain ⟨_, sk, rfl, ⟨x, k1, rfl⟩, h2a⟩ := aSk_c h2
      obtain ⟨_, sk, rfl, ⟨kk, hk, rfl⟩, h2b⟩ := aSk_c h2a
      rw [List.mem_singleton] at hk
      subst hk
      obtain ⟨z, z1, z2⟩ := aml_s h5 hs
      rw [k1] at z1
      cases z1
      have e1 := aFn_s h3 k1
      unfold aGa at c8
      split at c8
      · next b t' n' p hp =>
        obtain ⟨g1, g⟩ := (Bool.and_eq_true _ _).mp c8
        obtain ⟨g2, -⟩ := (Bool.and_eq_true _ _).mp g
        have g1 := Nat.eq_of_beq_eq_true g1
        subst g1
        have g2 := of_decide_eq_true g2
        obtain ⟨l, l1, l2, l3⟩ := aTm_a h6.1 hp
        have x0 : 0 ≤ x.toInt := by omega
        have x1 : x.toInt < l.length := by omega
        obtain ⟨w1, w2⟩ := hq mem x l h6 z2 l1
        refine Or.inl ⟨(pc + 1, lo, .int (l.getD x.toNatClampNeg 0) :: sk, mem), _, ν ++ [l.getD x.toNatClampNeg 0], List.prefix_append _ _, fun Y rec κ ρ => ?_, c6, aGm_nw _ h1 h2b h3 h4 h5 h6 h7 (aFa1_i h4 w1 w2)⟩
        have e : Bool.and (Nat.beq 0 0) (zixl x l) = true := by
          rw [zixl_t x0 x1]
          rfl
        simp only [zal, l1, e]
      · cases c8
    · cases c4
  · cases hA
abbrev c_X12_reckons : aCt := (218, [.inr (some [221]), .inl (0, 2)], some (.inr none))
abbrev c_X12_leads : aCt := (229, [.inr (some [221]), .inl (0, 63), .inl (0, 1)], none)
abbrev c_X12_walks : aCt := (230, [.inr (some [221]), .inl (0, 21), .inl (0, 5)], none)
abbrev c_X12_bits : aCt := (220, [.inl (-2147483648, 2147483647)], some (.inl (-2147483648, 2147483647)))
abbrev c_X12_writesDown : aCt := (232, [.inr (some [221]), .inl (0, 21), .inl (0, 8), .inl (0, 1)], none)
abbrev c_X12_keeps : aCt := (213, [.inr (some [221])], none)
/-- what is still to be proved by hand of the model: columns and rows of the bank, and seven methods -/
def aH2 (E : zM → Prop) : Prop := aEs (aΘ0 E) ∧ aQe (aΘ0 E) 223 221 13 (0, 7) ∧ aQe (aΘ0 E) 224 221 13 (0, 7) ∧ aCv (aΘ0 E) 6 c_X12_reckons ∧ aCv (aΘ0 E) 6 c_X12_leads ∧ aCv (aΘ0 E) 6 c_X12_walks ∧ aCv (aΘ0 E) 6 c_X12_bits ∧ aCv (aΘ0 E) 6 c_X12_writesDown ∧ aCv (aΘ0 E) 6 c_X12_keeps
