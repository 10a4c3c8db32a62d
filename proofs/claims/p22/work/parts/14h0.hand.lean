/-! rows for runs that are walked by hand -/
section YM
variable {Z : zPg} {t : zT} {d pc : Nat} {lo : List (Nat × Value)} {mem : zM} {P : Option Value → zM → Prop}
theorem yR_m (c : Nat) {st st' : zS} (h : ∀ (F n : Nat) (Y : Type) (κ : Option Value → zM → Option Y), zgo t (zrun Z F d Y) κ (n + c) st = zgo t (zrun Z F d Y) κ n st') (k : yR Z t d st' P) : yR Z t d st P := by
  obtain ⟨F0, r, m', hP, e⟩ := k
  refine ⟨F0 + c, r, m', hP, fun F n Y κ hF hn => ?_⟩
  obtain ⟨n, rfl⟩ : ∃ q, n = q + c := ⟨n - c, by omega⟩
  rw [h]
  exact e F n Y κ (by omega) (by omega)
theorem yR_gf {ci k a : Nat} {fs r : List Value} {v : Value} (hk : zlk t pc = some (pc, zgf ci k)) (hz : zat mem a = some (.inr (ci, fs))) (hv : fs[k]? = some v) (h : yR Z t d (pc + 3, lo, v :: r, mem) P) : yR Z t d (pc, lo, .ref a :: r, mem) P := yR_next hk (fun Y rec κ ρ => by simp only [zgf, hz, hv, zbq, cond_true]) h
theorem yR_pf {ci k a : Nat} {ty : FieldType} {fs r : List Value} {v : Value} (hk : zlk t pc = some (pc, zpf ci k ty)) (hz : zat mem a = some (.inr (ci, fs))) (hl : k < fs.length) (hf : zfit ty v = true) (h : yR Z t d (pc + 3, lo, r, mem.set a (.inr (ci, fs.set k v))) P) : yR Z t d (pc, lo, v :: .ref a :: r, mem) P := yR_next hk (fun Y rec κ ρ => by
  have e : Bool.and (Nat.beq ci ci) (Bool.and (Nat.ble (k + 1) fs.length) (zfit ty v)) = true := by
    rw [zbq, hf, Nat.ble_eq_true_of_le hl]
    rfl
  simp only [zpf, hz, e]) h
theorem yR_al {tt a : Nat} {f : List Int32} {r : List Value} {x : Int32} (hk : zlk t pc = some (pc, zal tt)) (hz : zat mem a = some (.inl (tt, .inl f))) (h0 : 0 ≤ x.toInt) (h1 : x.toInt < f.length) (h : yR Z t d (pc + 1, lo, .int (f.getD x.toNatClampNeg 0) :: r, mem) P) : yR Z t d (pc, lo, .int x :: .ref a :: r, mem) P := yR_next hk (fun Y rec κ ρ => by
  have e : Bool.and (Nat.beq tt tt) (zixl x f) = true := by
    rw [zbq, zixl_t h0 h1]
    rfl
  simp only [zal, hz, e]) h
theorem yR_as {tt a : Nat} {f : List Int32} {r : List Value} {x v : Int32} (hk : zlk t pc = some (pc, zas tt)) (hz : zat mem a = some (.inl (tt, .inl f))) (h0 : 0 ≤ x.toInt) (h1 : x.toInt < f.length) (h : yR Z t d (pc + 1, lo, r, mem.set a (.inl (tt, .inl (f.set x.toNatClampNeg v)))) P) : yR Z t d (pc, lo, .int v :: .int x :: .ref a :: r, mem) P := yR_next hk (fun Y rec κ ρ => by
  have e : Bool.and (Nat.beq tt tt) (Bool.and (zixl x f) true) = true := by
    rw [zbq, zixl_t h0 h1]
    rfl
  simp only [zas, hz, e]) h
theorem yR_if {p : Int32 → Bool} {len tgt : Nat} {r : List Value} {x : Int32} (hk : zlk t pc = some (pc, zif p len tgt)) (hT : p x = true → yR Z t d (tgt, lo, r, mem) P) (hF : p x = false → yR Z t d (pc + len, lo, r, mem) P) : yR Z t d (pc, lo, .int x :: r, mem) P := by
  cases hp : p x with
  | true => exact yR_next hk (fun Y rec κ ρ => by simp only [zif, hp]) (hT hp)
  | false => exact yR_next hk (fun Y rec κ ρ => by simp only [zif, hp]) (hF hp)
theorem yR_ic {p : Int32 → Int32 → Bool} {len tgt : Nat} {r : List Value} {x y : Int32} (hk : zlk t pc = some (pc, zic p len tgt)) (hT : p x y = true → yR Z t d (tgt, lo, r, mem) P) (hF : p x y = false → yR Z t d (pc + len, lo, r, mem) P) : yR Z t d (pc, lo, .int y :: .int x :: r, mem) P := by
  cases hp : p x y with
  | true => exact yR_next hk (fun Y rec κ ρ => by simp only [zic, hp]) (hT hp)
  | false => exact yR_next hk (fun Y rec κ ρ => by simp only [zic, hp]) (hF hp)
theorem yR_cv {j n ci b : Nat} {sk As rest fs : List Value} {Q : Option Value → zM → Prop} (hk : zlk t pc = some (pc, zcv j n ci)) (hp : zpp n [] sk = some (As, .ref b :: rest)) (hz : zat mem b = some (.inr (ci, fs))) (hw : Nat.ble (zwd rest) 8 = true) (hc : yC Z d j (.ref b :: As) mem Q) (h : ∀ r m, Q r m → yR Z t d (pc + 3, lo, r.toList ++ rest, m) P) : yR Z t d (pc, lo, sk, mem) P := yR_call hk (fun Y rec κ ρ => by
  have e1 : Bool.and (Nat.beq ci ci) (Nat.ble (zwd rest) 8) = true := by
    rw [zbq, hw]
    rfl
  simp only [zcv, hp, hz, e1]) hc h
theorem yR_cs {j n : Nat} {sk As rest : List Value} {Q : Option Value → zM → Prop} (hk : zlk t pc = some (pc, zcs j n)) (hp : zpp n [] sk = some (As, rest)) (hw : Nat.ble (zwd rest) 8 = true) (hc : yC Z d j As mem Q) (h : ∀ r m, Q r m → yR Z t d (pc + 3, lo, r.toList ++ rest, m) P) : yR Z t d (pc, lo, sk, mem) P := yR_call hk (fun Y rec κ ρ => by simp only [zcs, hp, hw]) hc h
theorem yR_rv (hk : zlk t pc = some (pc, zrv)) (h : P none mem) : yR Z t d (pc, lo, [], mem) P := yR_ret hk (fun Y rec κ ρ => rfl) h
theorem yR_ri {x : Int32} (hk : zlk t pc = some (pc, zri false)) (h : P (some (.int x)) mem) : yR Z t d (pc, lo, [.int x], mem) P := yR_ret hk (fun Y rec κ ρ => rfl) h
theorem yR_rz {x : Int32} (hk : zlk t pc = some (pc, zri true)) (hx : 0 ≤ x.toInt ∧ x.toInt ≤ 1) (h : P (some (.int x)) mem) : yR Z t d (pc, lo, [.int x], mem) P := yR_ret hk (fun Y rec κ ρ => by
  have e : Bool.or (!true) (Bool.or (decide (x = 0)) (decide (x = 1))) = true := i32_01 hx.1 hx.2
  simp only [zri, e]) h
end YM
