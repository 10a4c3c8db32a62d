/-! rows for runs that are walked by hand -/
section YM
variable {Z : zPg} {t : zT} {d pc : Nat} {lo : List (Nat × Value)} {mem : zM} {P : Option Value → zM → Prop}
theorem yR_m (c : Nat) {st st' : zS} (h : ∀ (F n : Nat) (Y : Type) (κ : Option Value → zM → Option Y), zgo t (zrun Z F d Y) κ (n + c) st = zgo t (zrun Z F d Y) κ n st') (k : yR Z t d st' P) : yR Z t d st P := by
  obtain ⟨F0, r, m', hP, e⟩ := k
  refine ⟨F0 + c, r, m', hP, fun F n Y κ hF hn => ?_⟩
  obtain ⟨n, rfl⟩ : ∃ q, n = q + c := ⟨n - c, by omega⟩
  rw [h]
  exact e F n Y κ (by omega) (by omega)
theorem yR_gf {ci k a : Nat} {fs r : List Value} {v : Value} (hk : zlk t pc = some (pc, zgf ci k)) (hz : zat mem a = some (.inr (ci, fs))) (hv : fs[k]? = some v) (h : yR Z t d (pc + 3, lo, v :: r, mem) P) : yR Z t d (pc, lo, .ref a :: r, mem) P := yR_next hk (fun Y rec κ ρ => by simp only [zgf, hz, hv, zbq, cond_true]) h
theorem yR_pf {ci k a : Nat} {ty : FieldType} {fs r : List Value} {v : Value} (hk : zlk t pc = some (pc, zpf ci k ty)) (hz : zat mem a = some (.inr (ci, fs))) (hl : k < fs.length) (hf : zfit ty v = true) (h : yR Z t d (pc + 3, lo, r, mem.set a (.inr (ci, fs.set k v))) P) : yR Z t d (pc, lo, v :: .ref a :: r, mem) P := yR_next hk (fun Y rec κ ρ => by
  have e : Bool.and (Nat.beq ci ci) (Bool.and (Nat.ble (k + 1) fs.length) (zfit ty v)) = true := by
    rw [zbq, hf, Nat.ble_eq_true_of_le hl]
    rfl
  simp only [zpf, hz, e]) h
theorem yR_al {tt a : Nat} {f : List Int32} {r : List Value} {x : Int32} (hk : zlk t pc = some (pc, zal tt)) (hz : zat mem a = some (.inl (tt, .inl f))) (h0 : 0 ≤ x.toInt) (h1 : x.toInt < f.length) (h : yR Z t d (pc + 1, lo, .int (f.getD x.toNatClampNeg 0) :: r, mem) P) : yR Z t d (pc, lo, .int x :: .ref a :: r, mem) P := yR_next hk (fun Y rec κ ρ => by
  have e : Bool.and (Nat.beq tt tt) (zixl x f) = true := by
    rw [zbq, zixl_t h0 h1]
    rfl
  simp only [zal, hz, e]) h
theorem yR_as {tt a : Nat} {f : List Int32} {r : List Value} {x v : Int32} (hk : zlk t pc = some (pc, zas tt)) (hz : zat mem a = some (.inl (tt, .inl f))) (h0 : 0 ≤ x.toInt) (h1 : x.toInt < f.length) (h : yR Z t d (pc + 1, lo, r, mem.set a (.inl (tt, .inl (f.set x.toNatClampNeg v)))) P) : yR Z t d (pc, lo, .int v :: .int x :: .ref a :: r, mem) P := yR_next hk (fun Y rec κ ρ => by
  have e : Bool.and (Nat.beq tt tt) (Bool.and (zixl x f) true) = true := by
    rw [zbq, zixl_t h0 h1]
    rfl
  simp only [zas, hz, e]) h
theorem yR_if {p : Int32 → Bool} {len tgt : Nat} {r : List Value} {x : Int32} (hk : zlk t pc = some (pc, zif p len tgt)) (hT : p x = true → yR Z t d (tgt, lo, r, mem) P) (hF : p x = false → yR Z t d (pc + len, lo, r, mem) P) : yR Z t d (pc, lo, .int x :: r, mem) P := by
  cases hp : p x with
  | true => exact yR_next hk (fun Y rec κ ρ => by simp only [zif, hp]) (hT hp)
  | false => exact yR_next hk (fun Y rec κ ρ => by simp only [zif, hp]) (hF hp)
theorem yR_ic {p : Int32 → Int32 → Bool} {len tgt : Nat} {r : List Value} {x y : Int32} (hk : zlk t pc = some (pc, zic p len tgt)) (hT : p x y = true → yR Z t d (tgt, lo, r, mem) P) (hF : p x y = false → yR Z t d (pc + len, lo, r, mem) P) : yR Z t d (pc, lo, .int y :: .int x :: r, mem) P := by
  cases hp : p x y with
  | true => exact yR_next hk (fun Y rec κ ρ => by simp only [zic, hp]) (hT hp)
  | false => exact yR_next hk (fun Y rec κ ρ => by simp only [zic, hp]) (hF hp)
theorem yR_cv {j n ci b : Nat} {sk As rest fs : List Value} {Q : Option Value → zM → Prop} (hk : zlk t pc = some (pc, zcv j n ci)) (hp : zpp n [] sk = some (As, .ref b :: rest)) (hz : zat mem b = some (.inr (ci, fs))) (hw : Nat.ble (zwd rest) 8 = true) (hc : yC Z d j (.ref b :: As) mem Q) (h : ∀ r m, Q r m → yR Z t d (pc + 3, lo, r.toList ++ rest, m) P) : yR Z t d (pc, lo, sk, mem) P := yR_call hk (fun Y rec κ ρ => by
  have e1 : Bool.and (Nat.beq ci ci) (Nat.ble (zwd rest) 8) = true := by
    rw [zbq, hw]
    rfl
  simp only [zcv, hp, hz, e1]) hc h
theorem yR_cs {j n : Nat} {sk As rest : List Value} {Q : Option Value → zM → Prop} (hk : zlk t pc = some (pc, zcs j n)) (hp : zpp n [] sk = some (As, rest)) (hw : Nat.ble (zwd rest) 8 = true) (hc : yC Z d j As mem Q) (h : ∀ r m, Q r m → yR Z t d (pc + 3, lo, r.toList ++ rest, m) P) : yR Z t d (pc, lo, sk, mem) P := yR_call hk (fun Y rec κ ρ => by simp only [zcs, hp, hw]) hc h
theorem yR_rv (hk : zlk t pc = some (pc, zrv)) (h : P none mem) : yR Z t d (pc, lo, [], mem) P := yR_ret hk (fun Y rec κ ρ => rfl) h
theorem yR_ri {x : Int32} (hk : zlk t pc = some (pc, zri false)) (h : P (some (.int x)) mem) : yR Z t d (pc, lo, [.int x], mem) P := yR_ret hk (fun Y rec κ ρ => rfl) h
theorem yR_rz {x : Int32} (hk : zlk t pc = some (pc, zri true)) (hx : 0 ≤ x.toInt ∧ x.toInt ≤ 1) (h : P (some (.int x)) mem) : yR Z t d (pc, lo, [.int x], mem) P := yR_ret hk (fun Y rec κ ρ => by
  have e : Bool.or (!true) (Bool.or (decide (x = 0)) (decide (x = 1))) = true := i32_01 hx.1 hx.2
  simp only [zri, e]) h
end YM
/-! by hand: what a store of a field that isn't kept leaves -/
theorem aJ_pf {Θ : aTh} (hE : aEs Θ) {mem : zM} {k ci i : Nat} {fs : List Value} {τs : List (Bool × aTy)} {τ : aTy} {x : Value} (hJ : aJ Θ mem) (ho : aat Θ.1 k = some (.inr (ci, τs))) (hτ : τs[i]? = some (false, τ)) (f1 : zat mem k = some (.inr (ci, fs))) (hx : aTv τ x) : aJ Θ (mem.set k (.inr (ci, fs.set i x))) ∧ aPr Θ.1 mem (mem.set k (.inr (ci, fs.set i x))) := by
  obtain ⟨fs', g1, f2⟩ := aTm_o hJ.1 ho
  rw [f1] at g1
  cases g1
  have t1 : aTm Θ.1 (mem.set k (.inr (ci, fs.set i x))) := aTm_set hJ.1 ho f1 ⟨_, rfl, aTf_set f2 hτ hx⟩
  have hka : aKa Θ.1 k = false := by unfold aKa; rw [ho]
  have hkf : aKf Θ.1 k i = false := by unfold aKf; rw [ho]; show (match τs[i]? with | some τ => τ.1 | none => false) = false; rw [hτ]
  have pr : aPr Θ.1 mem (mem.set k (.inr (ci, fs.set i x))) := by
    refine ⟨fun k' hk' => ?_, fun k' i' hk' => ?_⟩
    · rw [zat_ne_set (fun q => by rw [q, hk'] at hka; cases hka)]
    · by_cases q : k = k'
      · subst q
        unfold zfl
        rw [zat_eq_set f1, f1]
        show (fs.set i x)[i']? = fs[i']?
        rw [List.getElem?_set_ne (fun z => by rw [← z, hkf] at hk'; cases hk')]
      · exact zfl_ne q
  exact ⟨⟨t1, hE mem _ pr t1 hJ.2⟩, pr⟩
theorem aTv_1 {av : List Value} {q : Int × Int} (h : aTvs [.inl q] av) : ∃ x : Int32, av = [.int x] ∧ q.1 ≤ x.toInt ∧ x.toInt ≤ q.2 := by
  cases av with
  | nil => exact h.elim
  | cons a r =>
    obtain ⟨⟨x, rfl, h1, h2⟩, h3⟩ := h
    cases r with
    | nil => exact ⟨x, rfl, h1, h2⟩
    | cons b r => exact h3.elim
theorem bits_dec {x : Int32} (h : ¬ x = 0) : (x &&& (x - 1)).toBitVec.toNat < x.toBitVec.toNat := by
  have h1 : 1 ≤ x.toBitVec.toNat := by
    rcases Nat.eq_zero_or_pos x.toBitVec.toNat with q | q
    · exact absurd (Int32.toBitVec_inj.mp (BitVec.eq_of_toNat_eq (by rw [q]; rfl))) h
    · exact q
  have h2 : (x &&& (x - 1)).toBitVec.toNat ≤ (x - 1).toBitVec.toNat := by
    rw [Int32.toBitVec_and, BitVec.toNat_and]
    exact Nat.and_le_right
  have h3 : (x - 1).toBitVec.toNat = x.toBitVec.toNat - 1 := by
    have hl := x.toBitVec.isLt
    rw [Int32.toBitVec_sub, BitVec.toNat_sub]
    show (2 ^ 32 - 1 + x.toBitVec.toNat) % 2 ^ 32 = _
    omega
  omega
set_option maxRecDepth 100000 in
theorem bits_loop {E : zM → Prop} {d : Nat} {m0 mem : zM} {x : Int32} (hJ : aJ (aΘ0 E) mem) (hp : aPr aT0 m0 mem) : ∀ (M : Nat) (l n : Int32), l.toBitVec.toNat = M → yR zpg tX12_bits d (4, [(2, .int l), (1, .int n), (0, .int x)], [], mem) (fun r m => aJ (aΘ0 E) m ∧ aPr aT0 m0 m ∧ aTr (some (.inl (-2147483648, 2147483647))) r) := by
  intro M
  induction M using Nat.strongRecOn with
  | ind M ih =>
    intro l n hl
    refine yR_m 1 (fun _ _ _ _ => rfl) ?_
    refine yR_if rfl (fun q => ?_) (fun q => ?_)
    · refine yR_m 1 (fun _ _ _ _ => rfl) ?_
      exact yR_ri rfl ⟨hJ, hp, n, rfl, (i32_b n).1, (i32_b n).2⟩
    · have q : decide (l = 0) = false := q
      refine yR_m 8 (fun _ _ _ _ => rfl) ?_
      exact ih _ (by rw [← hl]; exact bits_dec (of_decide_eq_false q)) _ _ rfl
theorem k2_X12_bits {E : zM → Prop} : aCv (aΘ0 E) 6 c_X12_bits := by
  intro d mem av hd hJ hav
  obtain ⟨x, rfl, -, -⟩ := aTv_1 hav
  obtain ⟨d, rfl⟩ : ∃ q, d = q + 1 := ⟨d - 1, by omega⟩
  refine yC_of (t := tX12_bits) rfl rfl ?_
  refine yR_m 4 (fun _ _ _ _ => rfl) ?_
  exact bits_loop hJ aPr_rf _ x 0 rfl
