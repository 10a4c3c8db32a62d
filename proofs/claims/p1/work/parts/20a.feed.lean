/-! CONTRACTS OVER THE OWN MACHINE: yG: the run from a state ends, what is so then; yK: a call ends. -/
def yG (F : Nat) (t : zT) (d N : Nat) (st : zS) (P : Option Value → zM → Prop) : Prop := ∃ k, k ≤ N ∧ ∃ (r : Option Value) (mem' : zM), P r mem' ∧ ∀ (Y : Type) (κ : Option Value → zM → Option Y) (n : Nat), zgo t (zrun zpg F d Y) κ (n + k) st = κ r mem'
def yK (F d j : Nat) (av : List Value) (mem : zM) (P : Option Value → zM → Prop) : Prop := ∃ (r : Option Value) (mem' : zM), P r mem' ∧ ∀ (Y : Type) (κ : Option Value → zM → Option Y), zrun zpg F d Y j av mem κ = κ r mem'
theorem zbq : ∀ n : Nat, Nat.beq n n = true := fun n => Nat.beq_refl n
theorem zat_eq_set {mem : zM} {a : Nat} {c c' : zE} (h : zat mem a = some c) : zat (mem.set a c') a = some c' := by
  rw [zat_eq] at h ⊢
  obtain ⟨hl, -⟩ := List.getElem?_eq_some_iff.mp h
  rw [List.getElem?_set_self hl]
theorem zat_ne_set {mem : zM} {a b : Nat} {c' : zE} (h : ¬ a = b) : zat (mem.set a c') b = zat mem b := by
  rw [zat_eq, zat_eq, List.getElem?_set_ne h]
theorem zlt_t {α : Type} : ∀ (l : List α) (k : Nat), k < l.length → zlt l k = true := by
  intro l
  induction l with
  | nil => intro k h; simp at h
  | cons a r ih =>
    intro k h
    cases k with
    | zero => rfl
    | succ k => exact ih k (by simpa using h)
theorem zclamp {x : Int32} (h : 0 ≤ x.toInt) : (x.toNatClampNeg : Int) = x.toInt := by
  have : x.toNatClampNeg = x.toInt.toNat := rfl
  omega
theorem zneg_f {x : Int32} (h : 0 ≤ x.toInt) : decide (x < 0) = false := decide_eq_false (by rw [Int32.lt_iff_toInt_lt]; show ¬ x.toInt < 0; omega)
theorem zixl_t {α : Type} {x : Int32} {l : List α} (h0 : 0 ≤ x.toInt) (h1 : x.toInt < l.length) : zixl x l = true := by
  unfold zixl
  rw [zneg_f h0, zlt_t l _ (by have := zclamp h0; omega)]
  rfl
theorem zadd_i {x y : Int32} (h0 : -2147483648 ≤ x.toInt + y.toInt) (h1 : x.toInt + y.toInt ≤ 2147483647) : (x + y).toInt = x.toInt + y.toInt := by
  rw [Int32.toInt_add]
  exact Int.bmod_eq_of_le (by omega) (by omega)
section HO
variable {F d N pc : Nat} {t : zT} {lo : List (Nat × Value)} {mem : zM} {P : Option Value → zM → Prop}
theorem yK_of {j nl : Nat} {av : List Value} (hj : zpg j = some (nl, t)) (hw : Nat.ble (zwd av) nl = true) (hN : N ≤ F) (h : yG F t d N (0, lv_args 0 av, [], mem) P) : yK F (d + 1) j av mem P := by
  obtain ⟨k, hk, r, m', hP, e⟩ := h
  refine ⟨r, m', hP, fun Y κ => ?_⟩
  have e1 : zrun zpg F (d + 1) Y j av mem κ = match zpg j with
    | none => none
    | some t => Bool.rec none (zgo t.2 (zrun zpg F d Y) κ F (0, lv_args 0 av, [], mem)) (Nat.ble (zwd av) t.1) := rfl
  rw [e1, hj]
  show (Bool.rec none (zgo t (zrun zpg F d Y) κ F (0, lv_args 0 av, [], mem)) (Nat.ble (zwd av) nl) : Option Y) = _
  rw [hw]
  have := e Y κ (F - k)
  rwa [Nat.sub_add_cancel (Nat.le_trans hk hN)] at this
theorem yK_mono {j : Nat} {av : List Value} {P' : Option Value → zM → Prop} (h : ∀ r m, P r m → P' r m) (k : yK F d j av mem P) : yK F d j av mem P' := by
  obtain ⟨r, m', hP, e⟩ := k
  exact ⟨r, m', h r m' hP, e⟩
theorem yG_m (c : Nat) {st st' : zS} (h : ∀ (Y : Type) (κ : Option Value → zM → Option Y) (n : Nat), zgo t (zrun zpg F d Y) κ (n + c) st = zgo t (zrun zpg F d Y) κ n st') (k : yG F t d N st' P) : yG F t d (N + c) st P := by
  obtain ⟨a, ha, r, m', hP, e⟩ := k
  exact ⟨a + c, by omega, r, m', hP, fun Y κ n => by rw [← Nat.add_assoc, h, e]⟩
theorem yG_up {M : Nat} {st : zS} (h : N ≤ M) (k : yG F t d N st P) : yG F t d M st P := by
  obtain ⟨a, ha, q⟩ := k
  exact ⟨a, Nat.le_trans ha h, q⟩
theorem zgo_1 {Y : Type} {rec : zRec Y} {κ : Option Value → zM → Option Y} {n : Nat} {f : zF} {sk : List Value} (hk : zlk t pc = some (pc, f)) : zgo t rec κ (n + 1) (pc, lo, sk, mem) = f Y rec (pc, lo, sk, mem) (zgo t rec κ n) κ := by
  show (match zlk t pc with
      | none => none
      | some q => q.2 Y rec (q.1, lo, sk, mem) (zgo t rec κ n) κ) = _
  rw [hk]
theorem yG_gf {ci k a : Nat} {fs r : List Value} {v : Value} (hk : zlk t pc = some (pc, zgf ci k)) (hz : zat mem a = some (.inr (ci, fs))) (hv : fs[k]? = some v) (h : yG F t d N (pc + 3, lo, v :: r, mem) P) : yG F t d (N + 1) (pc, lo, .ref a :: r, mem) P := by
  refine yG_m 1 (fun Y κ n => ?_) h
  rw [zgo_1 hk]
  simp only [zgf, hz, hv, zbq, cond_true]
theorem yG_pf {ci k a : Nat} {ty : FieldType} {fs r : List Value} {v : Value} (hk : zlk t pc = some (pc, zpf ci k ty)) (hz : zat mem a = some (.inr (ci, fs))) (hl : k < fs.length) (hf : zfit ty v = true) (h : yG F t d N (pc + 3, lo, r, mem.set a (.inr (ci, fs.set k v))) P) : yG F t d (N + 1) (pc, lo, v :: .ref a :: r, mem) P := by
  refine yG_m 1 (fun Y κ n => ?_) h
  rw [zgo_1 hk]
  have e : Bool.and (Nat.beq ci ci) (Bool.and (Nat.ble (k + 1) fs.length) (zfit ty v)) = true := by
    rw [zbq, hf, Nat.ble_eq_true_of_le hl]
    rfl
  simp only [zpf, hz, e]
theorem yG_al {tt a : Nat} {f : List Int32} {r : List Value} {x : Int32} (hk : zlk t pc = some (pc, zal tt)) (hz : zat mem a = some (.inl (tt, .inl f))) (h0 : 0 ≤ x.toInt) (h1 : x.toInt < f.length) (h : yG F t d N (pc + 1, lo, .int (f.getD x.toNatClampNeg 0) :: r, mem) P) : yG F t d (N + 1) (pc, lo, .int x :: .ref a :: r, mem) P := by
  refine yG_m 1 (fun Y κ n => ?_) h
  rw [zgo_1 hk]
  have e : Bool.and (Nat.beq tt tt) (zixl x f) = true := by
    rw [zbq, zixl_t h0 h1]
    rfl
  simp only [zal, hz, e]
theorem yG_as {tt a : Nat} {f : List Int32} {r : List Value} {x v : Int32} (hk : zlk t pc = some (pc, zas tt)) (hz : zat mem a = some (.inl (tt, .inl f))) (h0 : 0 ≤ x.toInt) (h1 : x.toInt < f.length) (h : yG F t d N (pc + 1, lo, r, mem.set a (.inl (tt, .inl (f.set x.toNatClampNeg v)))) P) : yG F t d (N + 1) (pc, lo, .int v :: .int x :: .ref a :: r, mem) P := by
  refine yG_m 1 (fun Y κ n => ?_) h
  rw [zgo_1 hk]
  have e : Bool.and (Nat.beq tt tt) (Bool.and (zixl x f) true) = true := by
    rw [zbq, zixl_t h0 h1]
    rfl
  simp only [zas, hz, e]
theorem yG_if {p : Int32 → Bool} {len tgt : Nat} {r : List Value} {x : Int32} (hk : zlk t pc = some (pc, zif p len tgt)) (hT : p x = true → yG F t d N (tgt, lo, r, mem) P) (hF : p x = false → yG F t d N (pc + len, lo, r, mem) P) : yG F t d (N + 1) (pc, lo, .int x :: r, mem) P := by
  cases hp : p x with
  | true =>
    refine yG_m 1 (fun Y κ n => ?_) (hT hp)
    rw [zgo_1 hk]
    simp only [zif, hp]
  | false =>
    refine yG_m 1 (fun Y κ n => ?_) (hF hp)
    rw [zgo_1 hk]
    simp only [zif, hp]
theorem yG_ic {p : Int32 → Int32 → Bool} {len tgt : Nat} {r : List Value} {x y : Int32} (hk : zlk t pc = some (pc, zic p len tgt)) (hT : p x y = true → yG F t d N (tgt, lo, r, mem) P) (hF : p x y = false → yG F t d N (pc + len, lo, r, mem) P) : yG F t d (N + 1) (pc, lo, .int y :: .int x :: r, mem) P := by
  cases hp : p x y with
  | true =>
    refine yG_m 1 (fun Y κ n => ?_) (hT hp)
    rw [zgo_1 hk]
    simp only [zic, hp]
  | false =>
    refine yG_m 1 (fun Y κ n => ?_) (hF hp)
    rw [zgo_1 hk]
    simp only [zic, hp]
theorem yG_cv {j n ci b : Nat} {sk As rest fs : List Value} {Q : Option Value → zM → Prop} (hk : zlk t pc = some (pc, zcv j n ci)) (hp : zpp n [] sk = some (As, .ref b :: rest)) (hz : zat mem b = some (.inr (ci, fs))) (hw : Nat.ble (zwd rest) 8 = true) (hc : yK F d j (.ref b :: As) mem Q) (h : ∀ r mem', Q r mem' → yG F t d N (pc + 3, lo, r.toList ++ rest, mem') P) : yG F t d (N + 1) (pc, lo, sk, mem) P := by
  obtain ⟨r, m', hQ, e⟩ := hc
  refine yG_m 1 (fun Y κ n => ?_) (h r m' hQ)
  rw [zgo_1 hk]
  have e1 : Bool.and (Nat.beq ci ci) (Nat.ble (zwd rest) 8) = true := by
    rw [zbq, hw]
    rfl
  simp only [zcv, hp, hz, e1, e]
theorem yG_cs {j n : Nat} {sk As rest : List Value} {Q : Option Value → zM → Prop} (hk : zlk t pc = some (pc, zcs j n)) (hp : zpp n [] sk = some (As, rest)) (hw : Nat.ble (zwd rest) 8 = true) (hc : yK F d j As mem Q) (h : ∀ r mem', Q r mem' → yG F t d N (pc + 3, lo, r.toList ++ rest, mem') P) : yG F t d (N + 1) (pc, lo, sk, mem) P := by
  obtain ⟨r, m', hQ, e⟩ := hc
  refine yG_m 1 (fun Y κ n => ?_) (h r m' hQ)
  rw [zgo_1 hk]
  simp only [zcs, hp, hw, e]
theorem yG_rv {N : Nat} (hk : zlk t pc = some (pc, zrv)) (h : P none mem) : yG F t d (N + 1) (pc, lo, [], mem) P := by
  refine ⟨1, by omega, none, mem, h, fun Y κ n => ?_⟩
  rw [zgo_1 hk]
  rfl
theorem yG_ri {N : Nat} {x : Int32} (hk : zlk t pc = some (pc, zri false)) (h : P (some (.int x)) mem) : yG F t d (N + 1) (pc, lo, [.int x], mem) P := by
  refine ⟨1, by omega, _, mem, h, fun Y κ n => ?_⟩
  rw [zgo_1 hk]
  rfl
end HO
def zFed (b ra ci : Nat) (fs : List Value) (L : Nat) (n : Int) (mem m' : zM) : Prop := m'.length = mem.length ∧ (∀ k, ¬ k = b → ¬ k = ra → zat m' k = zat mem k) ∧ ∃ (n' : Int32) (T' : List Int32), zat m' b = some (.inr (ci, fs.set 1 (.int n'))) ∧ n'.toInt = n ∧ zat m' ra = some (.inl (0, .inl T')) ∧ T'.length = L
set_option maxRecDepth 100000 in
theorem zput_turn_x {F d N b ra : Nat} {s a n : Int32} {T : List Int32} {fs : List Value} {mem : zM} {P : Option Value → zM → Prop} (hne : ¬ ra = b) (h0 : zat mem b = some (.inr (11, fs))) (f0 : fs[0]? = some (.ref ra)) (f1 : fs[1]? = some (.int n)) (h1 : zat mem ra = some (.inl (0, .inl T))) (hn : 0 ≤ n.toInt) (hT : n.toInt < T.length) (hL : n.toInt < 2000) (hs : decide (s < 0) = false)
    (h : ∀ m', zFed b ra 11 fs T.length (n.toInt + 1) mem m' → yG F tX11_putOnTape d N (3, [(2, .int (s + -8)), (0, .ref b), (1, .int a)], [], m') P) : yG F tX11_putOnTape d (N + 20) (3, [(2, .int s), (0, .ref b), (1, .int a)], [], mem) P := by
  refine yG_m 1 (fun _ _ _ => rfl) ?_
  refine yG_if rfl (fun q => absurd (hs.symm.trans q) (by decide)) (fun _ => ?_)
  refine yG_m 1 (fun _ _ _ => rfl) ?_
  refine yG_gf rfl h0 f0 ?_
  refine yG_m 1 (fun _ _ _ => rfl) ?_
  refine yG_gf rfl h0 f1 ?_
  refine yG_m 5 (fun _ _ _ => rfl) ?_
  refine yG_as rfl h1 hn hT ?_
  have g0 : ∀ c', zat (mem.set ra c') b = some (.inr (11, fs)) := fun c' => (zat_ne_set hne).trans h0
  refine yG_m 2 (fun _ _ _ => rfl) ?_
  refine yG_gf rfl (g0 _) f1 ?_
  refine yG_m 2 (fun _ _ _ => rfl) ?_
  refine yG_pf rfl (g0 _) (List.getElem?_eq_some_iff.mp f1).1 rfl ?_
  refine yG_m 2 (fun _ _ _ => rfl) ?_
  refine h _ ⟨by simp, fun k k1 k2 => ?_, n + 1, _, zat_eq_set (g0 _), zadd_i (by show _ ≤ n.toInt + 1; omega) (by show n.toInt + 1 ≤ _; omega), (zat_ne_set (Ne.symm hne)).trans (zat_eq_set h1), by simp⟩
  rw [zat_ne_set (Ne.symm k1), zat_ne_set (Ne.symm k2)]
theorem zfed_tr_x : True := trivial
set_option maxRecDepth 100000 in
theorem zput_x {F d b ra : Nat} {a n : Int32} {T : List Int32} {fs : List Value} {mem : zM} (hF : 100 ≤ F) (hne : ¬ ra = b) (h0 : zat mem b = some (.inr (11, fs))) (f0 : fs[0]? = some (.ref ra)) (f1 : fs[1]? = some (.int n)) (h1 : zat mem ra = some (.inl (0, .inl T))) (hn : 0 ≤ n.toInt) (hT : n.toInt + 4 ≤ T.length) (hL : n.toInt < 1900) : yK F (d + 1) 146 [.ref b, .int a] mem (fun r m' => r = none ∧ zFed b ra 11 fs T.length (n.toInt + 4) mem m') := by
  have f1l := (List.getElem?_eq_some_iff.mp f1).1
  have ff : ∀ v : Value, (fs.set 1 v)[0]? = some (.ref ra) := fun v => by rw [List.getElem?_set_ne (by omega)]; exact f0
  have fg : ∀ v : Value, (fs.set 1 v)[1]? = some v := fun v => by rw [List.getElem?_set_self f1l]
  refine yK_of (t := tX11_putOnTape) (N := 1 + 20 + 20 + 20 + 20 + 2 + 2) rfl rfl (by omega) ?_
  refine yG_m 2 (fun _ _ _ => rfl) ?_
  refine zput_turn_x (N := 1 + 20 + 20 + 20 + 2) hne h0 f0 f1 h1 hn (by omega) (by omega) rfl ?_
  rintro m1 ⟨l1, u1, n1, T1, a1, b1, c1, d1⟩
  refine zput_turn_x (N := 1 + 20 + 20 + 2) hne a1 (ff _) (fg _) c1 (by omega) (by omega) (by omega) rfl ?_
  rintro m2 ⟨l2, u2, n2, T2, a2, b2, c2, d2⟩
  refine zput_turn_x (N := 1 + 20 + 2) hne (by rw [a2, List.set_set]) (ff _) (fg _) c2 (by omega) (by omega) (by omega) rfl ?_
  rintro m3 ⟨l3, u3, n3, T3, a3, b3, c3, d3⟩
  refine zput_turn_x (N := 1 + 2) hne (by rw [a3, List.set_set]) (ff _) (fg _) c3 (by omega) (by omega) (by omega) rfl ?_
  rintro m4 ⟨l4, u4, n4, T4, a4, b4, c4, d4⟩
  refine yG_m 1 (fun _ _ _ => rfl) ?_
  refine yG_if rfl (fun _ => ?_) (fun q => absurd q (by decide))
  refine yG_rv rfl ⟨rfl, by omega, fun k k1 k2 => by rw [u4 k k1 k2, u3 k k1 k2, u2 k k1 k2, u1 k k1 k2], n4, T4, by rw [a4, List.set_set], by omega, c4, by omega⟩
set_option maxRecDepth 100000 in
theorem zput_turn_m {F d N b ra : Nat} {s a n : Int32} {T : List Int32} {fs : List Value} {mem : zM} {P : Option Value → zM → Prop} (hne : ¬ ra = b) (h0 : zat mem b = some (.inr (12, fs))) (f0 : fs[0]? = some (.ref ra)) (f1 : fs[1]? = some (.int n)) (h1 : zat mem ra = some (.inl (0, .inl T))) (hn : 0 ≤ n.toInt) (hT : n.toInt < T.length) (hL : n.toInt < 2000) (hs : decide (s < 0) = false)
    (h : ∀ m', zFed b ra 12 fs T.length (n.toInt + 1) mem m' → yG F tX12_put d N (3, [(2, .int (s + -8)), (0, .ref b), (1, .int a)], [], m') P) : yG F tX12_put d (N + 20) (3, [(2, .int s), (0, .ref b), (1, .int a)], [], mem) P := by
  refine yG_m 1 (fun _ _ _ => rfl) ?_
  refine yG_if rfl (fun q => absurd (hs.symm.trans q) (by decide)) (fun _ => ?_)
  refine yG_m 1 (fun _ _ _ => rfl) ?_
  refine yG_gf rfl h0 f0 ?_
  refine yG_m 1 (fun _ _ _ => rfl) ?_
  refine yG_gf rfl h0 f1 ?_
  refine yG_m 5 (fun _ _ _ => rfl) ?_
  refine yG_as rfl h1 hn hT ?_
  have g0 : ∀ c', zat (mem.set ra c') b = some (.inr (12, fs)) := fun c' => (zat_ne_set hne).trans h0
  refine yG_m 2 (fun _ _ _ => rfl) ?_
  refine yG_gf rfl (g0 _) f1 ?_
  refine yG_m 2 (fun _ _ _ => rfl) ?_
  refine yG_pf rfl (g0 _) (List.getElem?_eq_some_iff.mp f1).1 rfl ?_
  refine yG_m 2 (fun _ _ _ => rfl) ?_
  refine h _ ⟨by simp, fun k k1 k2 => ?_, n + 1, _, zat_eq_set (g0 _), zadd_i (by show _ ≤ n.toInt + 1; omega) (by show n.toInt + 1 ≤ _; omega), (zat_ne_set (Ne.symm hne)).trans (zat_eq_set h1), by simp⟩
  rw [zat_ne_set (Ne.symm k1), zat_ne_set (Ne.symm k2)]
theorem zfed_tr_m : True := trivial
set_option maxRecDepth 100000 in
theorem zput_m {F d b ra : Nat} {a n : Int32} {T : List Int32} {fs : List Value} {mem : zM} (hF : 100 ≤ F) (hne : ¬ ra = b) (h0 : zat mem b = some (.inr (12, fs))) (f0 : fs[0]? = some (.ref ra)) (f1 : fs[1]? = some (.int n)) (h1 : zat mem ra = some (.inl (0, .inl T))) (hn : 0 ≤ n.toInt) (hT : n.toInt + 4 ≤ T.length) (hL : n.toInt < 1900) : yK F (d + 1) 166 [.ref b, .int a] mem (fun r m' => r = none ∧ zFed b ra 12 fs T.length (n.toInt + 4) mem m') := by
  have f1l := (List.getElem?_eq_some_iff.mp f1).1
  have ff : ∀ v : Value, (fs.set 1 v)[0]? = some (.ref ra) := fun v => by rw [List.getElem?_set_ne (by omega)]; exact f0
  have fg : ∀ v : Value, (fs.set 1 v)[1]? = some v := fun v => by rw [List.getElem?_set_self f1l]
  refine yK_of (t := tX12_put) (N := 1 + 20 + 20 + 20 + 20 + 2 + 2) rfl rfl (by omega) ?_
  refine yG_m 2 (fun _ _ _ => rfl) ?_
  refine zput_turn_m (N := 1 + 20 + 20 + 20 + 2) hne h0 f0 f1 h1 hn (by omega) (by omega) rfl ?_
  rintro m1 ⟨l1, u1, n1, T1, a1, b1, c1, d1⟩
  refine zput_turn_m (N := 1 + 20 + 20 + 2) hne a1 (ff _) (fg _) c1 (by omega) (by omega) (by omega) rfl ?_
  rintro m2 ⟨l2, u2, n2, T2, a2, b2, c2, d2⟩
  refine zput_turn_m (N := 1 + 20 + 2) hne (by rw [a2, List.set_set]) (ff _) (fg _) c2 (by omega) (by omega) (by omega) rfl ?_
  rintro m3 ⟨l3, u3, n3, T3, a3, b3, c3, d3⟩
  refine zput_turn_m (N := 1 + 2) hne (by rw [a3, List.set_set]) (ff _) (fg _) c3 (by omega) (by omega) (by omega) rfl ?_
  rintro m4 ⟨l4, u4, n4, T4, a4, b4, c4, d4⟩
  refine yG_m 1 (fun _ _ _ => rfl) ?_
  refine yG_if rfl (fun _ => ?_) (fun q => absurd q (by decide))
  refine yG_rv rfl ⟨rfl, by omega, fun k k1 k2 => by rw [u4 k k1 k2, u3 k k1 k2, u2 k k1 k2, u1 k k1 k2], n4, T4, by rw [a4, List.set_set], by omega, c4, by omega⟩
set_option maxRecDepth 100000 in
theorem zfeed_x {F d b ra : Nat} {a0 a1 a2 a3 a4 n : Int32} {T : List Int32} {fs : List Value} {mem : zM} (hF : 100 ≤ F) (hne : ¬ ra = b) (h0 : zat mem b = some (.inr (11, fs))) (f0 : fs[0]? = some (.ref ra)) (f1 : fs[1]? = some (.int n)) (h1 : zat mem ra = some (.inl (0, .inl T))) (hn : 0 ≤ n.toInt) (hT : n.toInt + 20 ≤ T.length) (hL : n.toInt ≤ 1580) : yK F (d + 2) 112 [.ref b, .int a0, .int a1, .int a2, .int a3, .int a4] mem (fun r m' => ∃ v : Int32, r = some (.int v) ∧ v.toInt = n.toInt + 20 ∧ zFed b ra 11 fs T.length (n.toInt + 20) mem m') := by
  have f1l := (List.getElem?_eq_some_iff.mp f1).1
  have ff : ∀ v : Value, (fs.set 1 v)[0]? = some (.ref ra) := fun v => by rw [List.getElem?_set_ne (by omega)]; exact f0
  have fg : ∀ v : Value, (fs.set 1 v)[1]? = some v := fun v => by rw [List.getElem?_set_self f1l]
  refine yK_of (t := tX11_feed) (N := 100) rfl rfl hF ?_
  refine yG_m 1 (fun _ _ _ => rfl) ?_
  refine yG_gf rfl h0 f1 ?_
  refine yG_m 3 (fun _ _ _ => rfl) ?_
  refine yG_ic rfl (fun _ => ?_) (fun q => ?_)
  rotate_left
  · have q : decide (n + 20 ≤ 1600) = false := q
    have := of_decide_eq_false q
    rw [Int32.le_iff_toInt_le, zadd_i (by show _ ≤ n.toInt + 20; omega) (by show n.toInt + 20 ≤ _; omega)] at this
    exact absurd (show n.toInt + 20 ≤ 1600 by omega) this
  refine yG_m 2 (fun _ _ _ => rfl) ?_
  refine yG_cv rfl rfl h0 rfl (zput_x (a := a0) hF hne h0 f0 f1 h1 hn (by omega) (by omega)) ?_
  rintro _ m1 ⟨rfl, l1, u1, n1, T1, p1, b1, c1, d1⟩
  refine yG_m 2 (fun _ _ _ => rfl) ?_
  refine yG_cv rfl rfl p1 rfl (zput_x (a := a1) hF hne p1 (ff _) (fg _) c1 (by omega) (by omega) (by omega)) ?_
  rintro _ m2 ⟨rfl, l2, u2, n2, T2, p2, b2, c2, d2⟩
  rw [List.set_set] at p2
  refine yG_m 2 (fun _ _ _ => rfl) ?_
  refine yG_cv rfl rfl p2 rfl (zput_x (a := a2) hF hne p2 (ff _) (fg _) c2 (by omega) (by omega) (by omega)) ?_
  rintro _ m3 ⟨rfl, l3, u3, n3, T3, p3, b3, c3, d3⟩
  rw [List.set_set] at p3
  refine yG_m 2 (fun _ _ _ => rfl) ?_
  refine yG_cv rfl rfl p3 rfl (zput_x (a := a3) hF hne p3 (ff _) (fg _) c3 (by omega) (by omega) (by omega)) ?_
  rintro _ m4 ⟨rfl, l4, u4, n4, T4, p4, b4, c4, d4⟩
  rw [List.set_set] at p4
  refine yG_m 2 (fun _ _ _ => rfl) ?_
  refine yG_cv rfl rfl p4 rfl (zput_x (a := a4) hF hne p4 (ff _) (fg _) c4 (by omega) (by omega) (by omega)) ?_
  rintro _ m5 ⟨rfl, l5, u5, n5, T5, p5, b5, c5, d5⟩
  rw [List.set_set] at p5
  refine yG_m 1 (fun _ _ _ => rfl) ?_
  refine yG_gf rfl p5 (fg _) ?_
  refine yG_ri rfl ⟨n5, rfl, by omega, by omega, fun k k1 k2 => by rw [u5 k k1 k2, u4 k k1 k2, u3 k k1 k2, u2 k k1 k2, u1 k k1 k2], n5, T5, p5, by omega, c5, by omega⟩
set_option maxRecDepth 100000 in
theorem zfeed_m {F d b ra : Nat} {a0 a1 a2 a3 a4 n : Int32} {T : List Int32} {fs : List Value} {mem : zM} (hF : 100 ≤ F) (hne : ¬ ra = b) (h0 : zat mem b = some (.inr (12, fs))) (f0 : fs[0]? = some (.ref ra)) (f1 : fs[1]? = some (.int n)) (h1 : zat mem ra = some (.inl (0, .inl T))) (hn : 0 ≤ n.toInt) (hT : n.toInt + 20 ≤ T.length) (hL : n.toInt ≤ 1580) : yK F (d + 2) 167 [.ref b, .int a0, .int a1, .int a2, .int a3, .int a4] mem (fun r m' => ∃ v : Int32, r = some (.int v) ∧ v.toInt = n.toInt + 20 ∧ zFed b ra 12 fs T.length (n.toInt + 20) mem m') := by
  have f1l := (List.getElem?_eq_some_iff.mp f1).1
  have ff : ∀ v : Value, (fs.set 1 v)[0]? = some (.ref ra) := fun v => by rw [List.getElem?_set_ne (by omega)]; exact f0
  have fg : ∀ v : Value, (fs.set 1 v)[1]? = some v := fun v => by rw [List.getElem?_set_self f1l]
  refine yK_of (t := tX12_feed) (N := 100) rfl rfl hF ?_
  refine yG_m 1 (fun _ _ _ => rfl) ?_
  refine yG_gf rfl h0 f1 ?_
  refine yG_m 3 (fun _ _ _ => rfl) ?_
  refine yG_ic rfl (fun _ => ?_) (fun q => ?_)
  rotate_left
  · have q : decide (n + 20 ≤ 1600) = false := q
    have := of_decide_eq_false q
    rw [Int32.le_iff_toInt_le, zadd_i (by show _ ≤ n.toInt + 20; omega) (by show n.toInt + 20 ≤ _; omega)] at this
    exact absurd (show n.toInt + 20 ≤ 1600 by omega) this
  refine yG_m 2 (fun _ _ _ => rfl) ?_
  refine yG_cv rfl rfl h0 rfl (zput_m (a := a0) hF hne h0 f0 f1 h1 hn (by omega) (by omega)) ?_
  rintro _ m1 ⟨rfl, l1, u1, n1, T1, p1, b1, c1, d1⟩
  refine yG_m 2 (fun _ _ _ => rfl) ?_
  refine yG_cv rfl rfl p1 rfl (zput_m (a := a1) hF hne p1 (ff _) (fg _) c1 (by omega) (by omega) (by omega)) ?_
  rintro _ m2 ⟨rfl, l2, u2, n2, T2, p2, b2, c2, d2⟩
  rw [List.set_set] at p2
  refine yG_m 2 (fun _ _ _ => rfl) ?_
  refine yG_cv rfl rfl p2 rfl (zput_m (a := a2) hF hne p2 (ff _) (fg _) c2 (by omega) (by omega) (by omega)) ?_
  rintro _ m3 ⟨rfl, l3, u3, n3, T3, p3, b3, c3, d3⟩
  rw [List.set_set] at p3
  refine yG_m 2 (fun _ _ _ => rfl) ?_
  refine yG_cv rfl rfl p3 rfl (zput_m (a := a3) hF hne p3 (ff _) (fg _) c3 (by omega) (by omega) (by omega)) ?_
  rintro _ m4 ⟨rfl, l4, u4, n4, T4, p4, b4, c4, d4⟩
  rw [List.set_set] at p4
  refine yG_m 2 (fun _ _ _ => rfl) ?_
  refine yG_cv rfl rfl p4 rfl (zput_m (a := a4) hF hne p4 (ff _) (fg _) c4 (by omega) (by omega) (by omega)) ?_
  rintro _ m5 ⟨rfl, l5, u5, n5, T5, p5, b5, c5, d5⟩
  rw [List.set_set] at p5
  refine yG_m 1 (fun _ _ _ => rfl) ?_
  refine yG_gf rfl p5 (fg _) ?_
  refine yG_ri rfl ⟨n5, rfl, by omega, by omega, fun k k1 k2 => by rw [u5 k k1 k2, u4 k k1 k2, u3 k k1 k2, u2 k k1 k2, u1 k k1 k2], n5, T5, p5, by omega, c5, by omega⟩
theorem zres_K {jx jm : Nat} {av : List Value} (h : yK 100000 12 jx (.ref 0 :: av) zfm (fun r m1 => ∃ v : Int32, r = some (.int v) ∧ (∃ fs, zat m1 221 = some (.inr (12, fs))) ∧ yK 100000 12 jm (.ref 221 :: av) m1 (fun r2 m2 => r2 = some (.int v) ∧ m2.length = 269))) : zRes (zboth jx jm av) := by
  obtain ⟨_, m1, ⟨v, rfl, ⟨fs, h0⟩, _, m2, ⟨rfl, h5⟩, e2⟩, e1⟩ := h
  refine z_leaf (v := v) ?_
  unfold zboth
  rw [e1]
  unfold zisM
  rw [h0]
  show zrun zpg 100000 12 zY jm (.ref 221 :: av) m1 (fun r2 m2 => some (some (.int v), r2, m2.length)) = _
  rw [e2, h5]
set_option maxRecDepth 100000 in
theorem zfm_0 : ∃ fs, zat zfm 0 = some (.inr (11, fs)) ∧ fs[0]? = some (.ref 1) ∧ fs[1]? = some (.int 0) := ⟨_, rfl, rfl, rfl⟩
set_option maxRecDepth 100000 in
theorem zfm_221 : ∃ fs, zat zfm 221 = some (.inr (12, fs)) ∧ fs[0]? = some (.ref 222) ∧ fs[1]? = some (.int 0) := ⟨_, rfl, rfl, rfl⟩
set_option maxRecDepth 100000 in
theorem zfm_1 : zat zfm 1 = some (.inl (0, .inl (List.replicate 1600 0))) := rfl
set_option maxRecDepth 100000 in
theorem zfm_222 : zat zfm 222 = some (.inl (0, .inl (List.replicate 1800 0))) := rfl
theorem zfm_269 : zfm.length = 269 := by decide +kernel
theorem zk_0 (a b c d e : Int32) : zRes (zboth 112 167 [.int a, .int b, .int c, .int d, .int e]) := by
  obtain ⟨fs, h0, f0, f1⟩ := zfm_0
  obtain ⟨gs, g0, e0, e1⟩ := zfm_221
  refine zres_K (yK_mono ?_ (zfeed_x (d := 10) (by decide) (by decide) h0 f0 f1 zfm_1 (by decide) (by rw [List.length_replicate]; decide) (by decide)))
  rintro _ m1 ⟨v, rfl, hv, l1, u1, n1, T1, p1, b1, c1, d1⟩
  have q0 := (u1 221 (by decide) (by decide)).trans g0
  refine ⟨v, rfl, ⟨gs, q0⟩, yK_mono ?_ (zfeed_m (d := 10) (by decide) (by decide) q0 e0 e1 ((u1 222 (by decide) (by decide)).trans zfm_222) (by decide) (by rw [List.length_replicate]; decide) (by decide))⟩
  rintro _ m2 ⟨v', rfl, hv', l2, -⟩
  exact ⟨by rw [Int32.toInt_inj.mp (hv'.trans hv.symm)], by rw [l2, l1, zfm_269]⟩
