theorem zbq : ∀ n : Nat, Nat.beq n n = true := fun n => Nat.beq_refl n
theorem zat_eq_set {mem : zM} {a : Nat} {c c' : zE} (h : zat mem a = some c) : zat (mem.set a c') a = some c' := by
  rw [zat_eq] at h ⊢
  obtain ⟨hl, -⟩ := List.getElem?_eq_some_iff.mp h
  rw [List.getElem?_set_self hl]
theorem zat_ne_set {mem : zM} {a b : Nat} {c' : zE} (h : ¬ a = b) : zat (mem.set a c') b = zat mem b := by
  rw [zat_eq, zat_eq, List.getElem?_set_ne h]
theorem zlt_t {α : Type} : ∀ (l : List α) (k : Nat), k < l.length → zlt l k = true := by
  intro l
  induction l with
  | nil => intro k h; simp at h
  | cons a r ih =>
    intro k h
    cases k with
    | zero => rfl
    | succ k => exact ih k (by simpa using h)
theorem zclamp {x : Int32} (h : 0 ≤ x.toInt) : (x.toNatClampNeg : Int) = x.toInt := by
  have : x.toNatClampNeg = x.toInt.toNat := rfl
  omega
theorem zneg_f {x : Int32} (h : 0 ≤ x.toInt) : decide (x < 0) = false := decide_eq_false (by rw [Int32.lt_iff_toInt_lt]; show ¬ x.toInt < 0; omega)
theorem zixl_t {α : Type} {x : Int32} {l : List α} (h0 : 0 ≤ x.toInt) (h1 : x.toInt < l.length) : zixl x l = true := by
  unfold zixl
  rw [zneg_f h0, zlt_t l _ (by have := zclamp h0; omega)]
  rfl
theorem zadd_i {x y : Int32} (h0 : -2147483648 ≤ x.toInt + y.toInt) (h1 : x.toInt + y.toInt ≤ 2147483647) : (x + y).toInt = x.toInt + y.toInt := by
  rw [Int32.toInt_add]
  exact Int.bmod_eq_of_le (by omega) (by omega)
theorem zgo_1 {t : zT} {pc : Nat} {lo : List (Nat × Value)} {mem : zM} {Y : Type} {rec : zRec Y} {κ : Option Value → zM → Option Y} {n : Nat} {f : zF} {sk : List Value} (hk : zlk t pc = some (pc, f)) : zgo t rec κ (n + 1) (pc, lo, sk, mem) = f Y rec (pc, lo, sk, mem) (zgo t rec κ n) κ := by
  show (match zlk t pc with
      | none => none
      | some q => q.2 Y rec (q.1, lo, sk, mem) (zgo t rec κ n) κ) = _
  rw [hk]
/-! A CHECKER OF METHODS: symbols with intervals, memory by types; what it accepts ends, and keeps the types. -/
def yR (Z : zPg) (t : zT) (d : Nat) (st : zS) (P : Option Value → zM → Prop) : Prop := ∃ (F0 : Nat) (r : Option Value) (mem' : zM), P r mem' ∧ ∀ (F n : Nat) (Y : Type) (κ : Option Value → zM → Option Y), F0 ≤ F → F0 ≤ n → zgo t (zrun Z F d Y) κ n st = κ r mem'
def yC (Z : zPg) (d j : Nat) (av : List Value) (mem : zM) (P : Option Value → zM → Prop) : Prop := ∃ (F0 : Nat) (r : Option Value) (mem' : zM), P r mem' ∧ ∀ (F : Nat) (Y : Type) (κ : Option Value → zM → Option Y), F0 ≤ F → zrun Z F d Y j av mem κ = κ r mem'
theorem yC_mono {Z : zPg} {d j : Nat} {av : List Value} {mem : zM} {P P' : Option Value → zM → Prop} (h : ∀ r m, P r m → P' r m) (k : yC Z d j av mem P) : yC Z d j av mem P' := by
  obtain ⟨F0, r, m', hP, e⟩ := k
  exact ⟨F0, r, m', h r m' hP, e⟩
theorem yR_mono {Z : zPg} {t : zT} {d : Nat} {st : zS} {P P' : Option Value → zM → Prop} (h : ∀ r m, P r m → P' r m) (k : yR Z t d st P) : yR Z t d st P' := by
  obtain ⟨F0, r, m', hP, e⟩ := k
  exact ⟨F0, r, m', h r m' hP, e⟩
theorem yC_of {Z : zPg} {d j nl : Nat} {t : zT} {av : List Value} {mem : zM} {P : Option Value → zM → Prop} (hj : Z j = some (nl, t)) (hw : Nat.ble (zwd av) nl = true) (h : yR Z t d (0, lv_args 0 av, [], mem) P) : yC Z (d + 1) j av mem P := by
  obtain ⟨F0, r, m', hP, e⟩ := h
  refine ⟨F0, r, m', hP, fun F Y κ hF => ?_⟩
  have e1 : zrun Z F (d + 1) Y j av mem κ = match Z j with
    | none => none
    | some t => Bool.rec none (zgo t.2 (zrun Z F d Y) κ F (0, lv_args 0 av, [], mem)) (Nat.ble (zwd av) t.1) := rfl
  rw [e1, hj]
  show (Bool.rec none (zgo t (zrun Z F d Y) κ F (0, lv_args 0 av, [], mem)) (Nat.ble (zwd av) nl) : Option Y) = _
  rw [hw]
  exact e F F Y κ hF hF
section YR
variable {Z : zPg} {t : zT} {d pc : Nat} {lo : List (Nat × Value)} {sk : List Value} {mem : zM} {P : Option Value → zM → Prop} {f : zF}
theorem yR_next {st' : zS} (hk : zlk t pc = some (pc, f)) (e : ∀ (Y : Type) (rec : zRec Y) (κ : zS → Option Y) (ρ : Option Value → zM → Option Y), f Y rec (pc, lo, sk, mem) κ ρ = κ st') (h : yR Z t d st' P) : yR Z t d (pc, lo, sk, mem) P := by
  obtain ⟨F0, r, m', hP, k⟩ := h
  refine ⟨F0 + 1, r, m', hP, fun F n Y κ hF hn => ?_⟩
  obtain ⟨n, rfl⟩ : ∃ q, n = q + 1 := ⟨n - 1, by omega⟩
  rw [zgo_1 hk, e]
  exact k F n Y κ (by omega) (by omega)
theorem yR_ret {r : Option Value} {mem' : zM} (hk : zlk t pc = some (pc, f)) (e : ∀ (Y : Type) (rec : zRec Y) (κ : zS → Option Y) (ρ : Option Value → zM → Option Y), f Y rec (pc, lo, sk, mem) κ ρ = ρ r mem') (h : P r mem') : yR Z t d (pc, lo, sk, mem) P := by
  refine ⟨1, r, mem', h, fun F n Y κ hF hn => ?_⟩
  obtain ⟨n, rfl⟩ : ∃ q, n = q + 1 := ⟨n - 1, by omega⟩
  rw [zgo_1 hk, e]
theorem yR_call {j : Nat} {av : List Value} {g : Option Value → zM → zS} {Q : Option Value → zM → Prop} (hk : zlk t pc = some (pc, f)) (e : ∀ (Y : Type) (rec : zRec Y) (κ : zS → Option Y) (ρ : Option Value → zM → Option Y), f Y rec (pc, lo, sk, mem) κ ρ = rec j av mem (fun r m => κ (g r m))) (hc : yC Z d j av mem Q) (h : ∀ r m, Q r m → yR Z t d (g r m) P) : yR Z t d (pc, lo, sk, mem) P := by
  obtain ⟨F0, r, m', hQ, k⟩ := hc
  obtain ⟨F1, r1, m1, hP, k1⟩ := h r m' hQ
  refine ⟨F0 + F1 + 1, r1, m1, hP, fun F n Y κ hF hn => ?_⟩
  obtain ⟨n, rfl⟩ : ∃ q, n = q + 1 := ⟨n - 1, by omega⟩
  rw [zgo_1 hk, e, k F Y _ (by omega)]
  exact k1 F n Y κ (by omega) (by omega)
end YR
/-! abstract values: a symbol for an int, a long, a reference among some; types: an interval, a long, a reference among some -/
abbrev aV : Type := Nat ⊕ Option (List Nat)
abbrev aTy : Type := (Int × Int) ⊕ Option (List Nat)
abbrev aEn : Type := List (Nat × Int × Int × Nat × Int)
abbrev aMo : Type := List ((Nat × Nat) × Nat)
abbrev aS : Type := Nat × List (Nat × aV) × List aV × aEn × Nat × aMo
/-- a cell's type: an array (kept by the checked methods?, kind, length, elements), an object (class, fields, each kept?) -/
abbrev aCe : Type := (Bool × Nat × Nat × aTy) ⊕ (Nat × List (Bool × aTy))
abbrev aTh : Type 1 := List aCe × (zM → Prop) × zPg
abbrev aF : Type := aS → (aS → Bool) → (Option aV → aS → Bool) → Bool
def aG1 (ν : List Int32) (v : aV) (x : Value) : Prop := match v with
  | .inl s => ∃ y, ν[s]? = some y ∧ x = .int y
  | .inr none => ∃ y, x = .long y
  | .inr (some ks) => ∃ k, k ∈ ks ∧ x = .ref k
theorem aG1_app {ν : List Int32} {v : aV} {x : Value} (q : Int32) (h : aG1 ν v x) : aG1 (ν ++ [q]) v x := by
  rcases v with s | _ | ks
  · obtain ⟨y, h1, h2⟩ := h
    exact ⟨y, by rw [List.getElem?_append_left (List.getElem?_eq_some_iff.mp h1).1]; exact h1, h2⟩
  · exact h
  · exact h
def aTv (τ : aTy) (x : Value) : Prop := match τ with
  | .inl q => ∃ y, x = .int y ∧ q.1 ≤ y.toInt ∧ y.toInt ≤ q.2
  | .inr none => ∃ y, x = .long y
  | .inr (some ks) => ∃ k, k ∈ ks ∧ x = .ref k
def aLo (ν : List Int32) (la : List (Nat × aV)) (lo : List (Nat × Value)) : Prop := ∀ q ∈ la, ∃ x, zlg lo q.1 = some x ∧ aG1 ν q.2 x
theorem aLo_app {ν : List Int32} {la : List (Nat × aV)} {lo : List (Nat × Value)} (q : Int32) (h : aLo ν la lo) : aLo (ν ++ [q]) la lo := fun p hp => by
  obtain ⟨x, h1, h2⟩ := h p hp
  exact ⟨x, h1, aG1_app q h2⟩
def aSk (ν : List Int32) : List aV → List Value → Prop
  | [], [] => True
  | a :: r, x :: q => aG1 ν a x ∧ aSk ν r q
  | _, _ => False
theorem aSk_app {ν : List Int32} (q : Int32) : ∀ {sa : List aV} {sk : List Value}, aSk ν sa sk → aSk (ν ++ [q]) sa sk
  | [], [], _ => trivial
  | _ :: _, _ :: _, h => ⟨aG1_app q h.1, aSk_app q h.2⟩
  | [], _ :: _, h => h.elim
  | _ :: _, [], h => h.elim
theorem aSk_c {ν : List Int32} {a : aV} {r : List aV} {sk : List Value} (h : aSk ν (a :: r) sk) : ∃ x q, sk = x :: q ∧ aG1 ν a x ∧ aSk ν r q := by
  cases sk with
  | nil => exact h.elim
  | cons x q => exact ⟨x, q, rfl, h.1, h.2⟩
def aFa1 (ν : List Int32) (e : Nat × Int × Int × Nat × Int) : Prop := ∃ x y, ν[e.1]? = some x ∧ e.2.1 ≤ x.toInt ∧ x.toInt ≤ e.2.2.1 ∧ ν[e.2.2.2.1]? = some y ∧ x.toInt = y.toInt + e.2.2.2.2
def aFa (ν : List Int32) (en : aEn) : Prop := ∀ e ∈ en, aFa1 ν e
theorem a_get {ν : List Int32} {s : Nat} {x : Int32} (q : Int32) (h : ν[s]? = some x) : (ν ++ [q])[s]? = some x := by
  rw [List.getElem?_append_left (List.getElem?_eq_some_iff.mp h).1]; exact h
theorem a_new {ν : List Int32} {nx : Nat} (q : Int32) (h : ν.length = nx) : (ν ++ [q])[nx]? = some q := by
  subst h; simp
theorem aFa_app {ν : List Int32} {en : aEn} (q : Int32) (h : aFa ν en) : aFa (ν ++ [q]) en := fun e he => by
  obtain ⟨x, y, h1, h2, h3, h4, h5⟩ := h e he
  exact ⟨x, y, a_get q h1, h2, h3, a_get q h4, h5⟩
/-- what is known of a symbol -/
def aFn : aEn → Nat → Int × Int × Nat × Int
  | [], s => (-2147483648, 2147483647, s, 0)
  | e :: r, s => bif Nat.beq e.1 s then e.2 else aFn r s
theorem i32_b (x : Int32) : -2147483648 ≤ x.toInt ∧ x.toInt ≤ 2147483647 := ⟨x.le_toInt, by have := x.toInt_lt; omega⟩
theorem aFn_s {ν : List Int32} {s : Nat} {x : Int32} : ∀ {en : aEn}, aFa ν en → ν[s]? = some x → (aFn en s).1 ≤ x.toInt ∧ x.toInt ≤ (aFn en s).2.1 ∧ ∃ y, ν[(aFn en s).2.2.1]? = some y ∧ x.toInt = y.toInt + (aFn en s).2.2.2
  | [], _, hx => ⟨(i32_b x).1, (i32_b x).2, x, hx, by show x.toInt = x.toInt + 0; omega⟩
  | e :: r, h, hx => by
    unfold aFn
    cases hb : Nat.beq e.1 s with
    | true =>
      obtain ⟨x', y, h1, h2, h3, h4, h5⟩ := h e List.mem_cons_self
      rw [Nat.eq_of_beq_eq_true hb, hx] at h1
      cases h1
      exact ⟨h2, h3, y, h4, h5⟩
    | false => exact aFn_s (fun q hq => h q (List.mem_cons_of_mem _ hq)) hx
theorem a_pre {ν ν' : List Int32} {s : Nat} {x : Int32} (hp : ν <+: ν') (h : ν[s]? = some x) : ν'[s]? = some x := by
  obtain ⟨q, rfl⟩ := hp
  rw [List.getElem?_append_left (List.getElem?_eq_some_iff.mp h).1]; exact h
theorem aG1_pre {ν ν' : List Int32} {v : aV} {x : Value} (hp : ν <+: ν') (h : aG1 ν v x) : aG1 ν' v x := by
  rcases v with s | _ | ks
  · obtain ⟨y, h1, h2⟩ := h
    exact ⟨y, a_pre hp h1, h2⟩
  · exact h
  · exact h
theorem aLo_pre {ν ν' : List Int32} {la : List (Nat × aV)} {lo : List (Nat × Value)} (hp : ν <+: ν') (h : aLo ν la lo) : aLo ν' la lo := fun p hq => by
  obtain ⟨x, h1, h2⟩ := h p hq
  exact ⟨x, h1, aG1_pre hp h2⟩
theorem aSk_pre {ν ν' : List Int32} (hp : ν <+: ν') : ∀ {sa : List aV} {sk : List Value}, aSk ν sa sk → aSk ν' sa sk
  | [], [], _ => trivial
  | _ :: _, _ :: _, h => ⟨aG1_pre hp h.1, aSk_pre hp h.2⟩
  | [], _ :: _, h => h.elim
  | _ :: _, [], h => h.elim
/-- a cell of the types -/
def aat : List aCe → Nat → Option aCe
  | [], _ => none
  | c :: _, 0 => some c
  | _ :: r, k + 1 => aat r k
def aTf : List (Bool × aTy) → List Value → Prop
  | [], [] => True
  | τ :: r, x :: q => aTv τ.2 x ∧ aTf r q
  | _, _ => False
def aTe (c : aCe) (e : zE) : Prop := match c with
  | .inl (_, tt, n, .inl q) => ∃ l : List Int32, e = .inl (tt, .inl l) ∧ l.length = n ∧ ∀ x ∈ l, q.1 ≤ x.toInt ∧ x.toInt ≤ q.2
  | .inl (_, tt, n, .inr none) => ∃ l : List Int64, e = .inl (tt, .inr (.inl l)) ∧ l.length = n
  | .inl (_, tt, n, .inr (some ks)) => ∃ l : List (Option Nat), e = .inl (tt, .inr (.inr l)) ∧ l.length = n ∧ ∀ x ∈ l, ∃ k, k ∈ ks ∧ x = some k
  | .inr (ci, τs) => ∃ fs : List Value, e = .inr (ci, fs) ∧ aTf τs fs
def aTm (T : List aCe) (mem : zM) : Prop := mem.length = 269 ∧ ∀ k c, aat T k = some c → ∃ e, zat mem k = some e ∧ aTe c e
/-- what a checked method leaves as it is -/
def aKa (T : List aCe) (k : Nat) : Bool := match aat T k with
  | some (.inl q) => q.1
  | _ => false
def aKf (T : List aCe) (k i : Nat) : Bool := match aat T k with
  | some (.inr o) => match o.2[i]? with
    | some τ => τ.1
    | none => false
  | _ => false
def zfl (mem : zM) (k i : Nat) : Option Value := match zat mem k with
  | some (.inr o) => o.2[i]?
  | _ => none
def aPr (T : List aCe) (m0 mem : zM) : Prop := (∀ k, aKa T k = true → zat mem k = zat m0 k) ∧ ∀ k i, aKf T k i = true → zfl mem k i = zfl m0 k i
theorem aPr_rf {T : List aCe} {m : zM} : aPr T m m := ⟨fun _ _ => rfl, fun _ _ _ => rfl⟩
theorem aPr_tr {T : List aCe} {a b c : zM} (h : aPr T a b) (k : aPr T b c) : aPr T a c := ⟨fun q hq => (k.1 q hq).trans (h.1 q hq), fun q i hq => (k.2 q i hq).trans (h.2 q i hq)⟩
def aEs (Θ : aTh) : Prop := ∀ m m', aPr Θ.1 m m' → aTm Θ.1 m' → Θ.2.1 m → Θ.2.1 m'
def aJ (Θ : aTh) (mem : zM) : Prop := aTm Θ.1 mem ∧ Θ.2.1 mem
def aMm (ν : List Int32) (mo : aMo) (mem : zM) : Prop := ∀ q ∈ mo, ∃ x, ν[q.2]? = some x ∧ zfl mem q.1.1 q.1.2 = some (.int x)
theorem aMm_app {ν : List Int32} {mo : aMo} {mem : zM} (q : Int32) (h : aMm ν mo mem) : aMm (ν ++ [q]) mo mem := fun p hp => by
  obtain ⟨x, h1, h2⟩ := h p hp
  exact ⟨x, a_get q h1, h2⟩
def aGm (Θ : aTh) (m0 : zM) (ν : List Int32) (a : aS) (st : zS) : Prop := st.1 = a.1 ∧ aLo ν a.2.1 st.2.1 ∧ aSk ν a.2.2.1 st.2.2.1 ∧ aFa ν a.2.2.2.1 ∧ ν.length = a.2.2.2.2.1 ∧ aMm ν a.2.2.2.2.2 st.2.2.2 ∧ aJ Θ st.2.2.2 ∧ aPr Θ.1 m0 st.2.2.2
/-- an abstract step stands for a step (in frames of depth D at least) -/
def aOk (Θ : aTh) (D : Nat) (f : zF) (A : aF) : Prop := ∀ (d : Nat) (m0 : zM) (ν : List Int32) (pc : Nat) (la : List (Nat × aV)) (sa : List aV) (en : aEn) (nx : Nat) (mo : aMo) (lo : List (Nat × Value)) (sk : List Value) (mem : zM) (K : aS → Bool) (R : Option aV → aS → Bool), D ≤ d → aLo ν la lo → aSk ν sa sk → aFa ν en → ν.length = nx → aMm ν mo mem → aJ Θ mem → aPr Θ.1 m0 mem → A (pc, la, sa, en, nx, mo) K R = true →
  (∃ (st' : zS) (a' : aS) (ν' : List Int32), ν <+: ν' ∧ (∀ (Y : Type) (rec : zRec Y) (κ : zS → Option Y) (ρ : Option Value → zM → Option Y), f Y rec (pc, lo, sk, mem) κ ρ = κ st') ∧ K a' = true ∧ aGm Θ m0 ν' a' st') ∨
  (∃ (r : Option Value) (ra : Option aV), (∀ (Y : Type) (rec : zRec Y) (κ : zS → Option Y) (ρ : Option Value → zM → Option Y), f Y rec (pc, lo, sk, mem) κ ρ = ρ r mem) ∧ R ra (pc, la, sa, en, nx, mo) = true ∧ (match ra, r with
    | none, none => True
    | some v, some x => aG1 ν v x
    | _, _ => False)) ∨
  (∃ (j : Nat) (av rest : List Value), (∀ (Y : Type) (rec : zRec Y) (κ : zS → Option Y) (ρ : Option Value → zM → Option Y), f Y rec (pc, lo, sk, mem) κ ρ = rec j av mem (fun r m => κ (pc + 3, lo, r.toList ++ rest, m))) ∧ yC Θ.2.2 d j av mem (fun r m => ∃ (a' : aS) (ν' : List Int32), ν <+: ν' ∧ K a' = true ∧ aGm Θ m0 ν' a' (pc + 3, lo, r.toList ++ rest, m)))
