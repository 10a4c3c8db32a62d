/-! by hand: what a store of a field that isn't kept leaves -/
theorem aJ_pf {Θ : aTh} (hE : aEs Θ) {mem : zM} {k ci i : Nat} {fs : List Value} {τs : List (Bool × aTy)} {τ : aTy} {x : Value} (hJ : aJ Θ mem) (ho : aat Θ.1 k = some (.inr (ci, τs))) (hτ : τs[i]? = some (false, τ)) (f1 : zat mem k = some (.inr (ci, fs))) (hx : aTv τ x) : aJ Θ (mem.set k (.inr (ci, fs.set i x))) ∧ aPr Θ.1 mem (mem.set k (.inr (ci, fs.set i x))) := by
  obtain ⟨fs', g1, f2⟩ := aTm_o hJ.1 ho
  rw [f1] at g1
  cases g1
  have t1 : aTm Θ.1 (mem.set k (.inr (ci, fs.set i x))) := aTm_set hJ.1 ho f1 ⟨_, rfl, aTf_set f2 hτ hx⟩
  have hka : aKa Θ.1 k = false := by unfold aKa; rw [ho]
  have hkf : aKf Θ.1 k i = false := by unfold aKf; rw [ho]; show (match τs[i]? with | some τ => τ.1 | none => false) = false; rw [hτ]
  have pr : aPr Θ.1 mem (mem.set k (.inr (ci, fs.set i x))) := by
    refine ⟨fun k' hk' => ?_, fun k' i' hk' => ?_⟩
    · rw [zat_ne_set (fun q => by rw [q, hk'] at hka; cases hka)]
    · by_cases q : k = k'
      · subst q
        unfold zfl
        rw [zat_eq_set f1, f1]
        show (fs.set i x)[i']? = fs[i']?
        rw [List.getElem?_set_ne (fun z => by rw [← z, hkf] at hk'; cases hk')]
      · exact zfl_ne q
  exact ⟨⟨t1, hE mem _ pr t1 hJ.2⟩, pr⟩
theorem aTv_1 {av : List Value} {q : Int × Int} (h : aTvs [.inl q] av) : ∃ x : Int32, av = [.int x] ∧ q.1 ≤ x.toInt ∧ x.toInt ≤ q.2 := by
  cases av with
  | nil => exact h.elim
  | cons a r =>
    obtain ⟨⟨x, rfl, h1, h2⟩, h3⟩ := h
    cases r with
    | nil => exact ⟨x, rfl, h1, h2⟩
    | cons b r => exact h3.elim
theorem bits_dec {x : Int32} (h : ¬ x = 0) : (x &&& (x - 1)).toBitVec.toNat < x.toBitVec.toNat := by
  have h1 : 1 ≤ x.toBitVec.toNat := by
    rcases Nat.eq_zero_or_pos x.toBitVec.toNat with q | q
    · exact absurd (Int32.toBitVec_inj.mp (BitVec.eq_of_toNat_eq (by rw [q]; rfl))) h
    · exact q
  have h2 : (x &&& (x - 1)).toBitVec.toNat ≤ (x - 1).toBitVec.toNat := by
    rw [Int32.toBitVec_and, BitVec.toNat_and]
    exact Nat.and_le_right
  have h3 : (x - 1).toBitVec.toNat = x.toBitVec.toNat - 1 := by
    have hl := x.toBitVec.isLt
    rw [Int32.toBitVec_sub, BitVec.toNat_sub]
    show (2 ^ 32 - 1 + x.toBitVec.toNat) % 2 ^ 32 = _
    omega
  omega
set_option maxRecDepth 100000 in
theorem bits_loop {E : zM → Prop} {d : Nat} {m0 mem : zM} {x : Int32} (hJ : aJ (aΘ0 E) mem) (hp : aPr aT0 m0 mem) : ∀ (M : Nat) (l n : Int32), l.toBitVec.toNat = M → yR zpg tX12_bits d (4, [(2, .int l), (1, .int n), (0, .int x)], [], mem) (fun r m => aJ (aΘ0 E) m ∧ aPr aT0 m0 m ∧ aTr (some (.inl (-2147483648, 2147483647))) r) := by
  intro M
  induction M using Nat.strongRecOn with
  | ind M ih =>
    intro l n hl
    refine yR_m 1 (fun _ _ _ _ => rfl) ?_
    refine yR_if rfl (fun q => ?_) (fun q => ?_)
    · refine yR_m 1 (fun _ _ _ _ => rfl) ?_
      exact yR_ri rfl ⟨hJ, hp, n, rfl, (i32_b n).1, (i32_b n).2⟩
    · have q : decide (l = 0) = false := q
      refine yR_m 8 (fun _ _ _ _ => rfl) ?_
      exact ih _ (by rw [← hl]; exact bits_dec (of_decide_eq_false q)) _ _ rfl
theorem k2_X12_bits {E : zM → Prop} : aCv (aΘ0 E) 6 c_X12_bits := by
  intro d mem av hd hJ hav
  obtain ⟨x, rfl, -, -⟩ := aTv_1 hav
  obtain ⟨d, rfl⟩ : ∃ q, d = q + 1 := ⟨d - 1, by omega⟩
  refine yC_of (t := tX12_bits) rfl rfl ?_
  refine yR_m 4 (fun _ _ _ _ => rfl) ?_
  exact bits_loop hJ aPr_rf _ x 0 rfl
