/-! OWN MEMORY: the cells that were made since the law's entry, in their order; a reference is a number in that order. zrun runs methods over it; z_sound: what zrun answers, the machine does. -/
/-- arrays as lists: of ints (booleans too), of longs, of references; objects by their class and fields -/
abbrev zA : Type := List Int32 ⊕ List Int64 ⊕ List (Option Nat)
abbrev zE : Type := (Nat × zA) ⊕ (Nat × List Value)
abbrev zM : Type := List zE
def zu (h0 : Nat) (x0 : Nat → Option Nat) (v : Value) : Value := match v with
  | .ref k => .ref (h0 + k)
  | .retAddr k => va_rf (x0 k)
  | .int x => .int x
  | .long x => .long x
  | .float x => .float x
  | .double x => .double x
  | .null => .null
theorem zu_cat (h0 : Nat) (x0 : Nat → Option Nat) (v : Value) : (zu h0 x0 v).category = v.category := by
  cases v with
  | retAddr k => show (va_rf (x0 k)).category = 1; cases x0 k <;> rfl
  | _ => rfl
def zua (h0 : Nat) (a : zA) : vp_A := match a with
  | .inl l => (l.length, .inl (fun j => l.getD j 0))
  | .inr (.inl l) => (l.length, .inr (.inl (fun j => l.getD j 0)))
  | .inr (.inr l) => (l.length, .inr (.inr (.inr (.inr (fun j => (l.getD j none).map (fun k => h0 + k))))))
def zue (h0 : Nat) (x0 : Nat → Option Nat) (kA : Nat → ClassId) (c : zE) : va_E := match c with
  | .inl a => .inl (kA a.1, zua h0 a.2)
  | .inr o => .inr (o.1, o.2.map (zu h0 x0))
def zaz (a : zA) : Nat := match a with
  | .inl l => l.length
  | .inr (.inl l) => l.length
  | .inr (.inr l) => l.length
theorem zua_1 (h0 : Nat) (a : zA) : (zua h0 a).1 = zaz a := by
  rcases a with l | l | l <;> rfl
theorem z_gset {α : Type} (l : List α) (k : Nat) (x d : α) (h : k < l.length) : (fun j => (l.set k x).getD j d) = fun j => if j = k then x else l.getD j d := by
  funext j
  rw [List.getD_eq_getElem?_getD, List.getD_eq_getElem?_getD, List.getElem?_set]
  by_cases hj : j = k
  · subst hj
    simp [h]
  · simp [hj, Ne.symm hj]
theorem z_grep {α : Type} (n : Nat) (d : α) : (fun j => (List.replicate n d).getD j d) = fun _ => d := by
  funext j
  rw [List.getD_eq_getElem?_getD, List.getElem?_replicate]
  split <;> rfl
def zws (h0 : Nat) (x0 : Nat → Option Nat) (kA : Nat → ClassId) : Nat → zM → va_W
  | _, [] => []
  | k, c :: r => (h0 + k, zue h0 x0 kA c) :: zws h0 x0 kA (k + 1) r
theorem zws_get (h0 : Nat) (x0 : Nat → Option Nat) (kA : Nat → ClassId) (mem : zM) : ∀ (k i : Nat), (zws h0 x0 kA k mem)[i]? = (mem[i]?).map (fun c => (h0 + (k + i), zue h0 x0 kA c)) := by
  induction mem with
  | nil => intro k i; simp [zws]
  | cons c r ih =>
    intro k i
    cases i with
    | zero => simp [zws]
    | succ i =>
      have e : k + 1 + i = k + (i + 1) := by omega
      simp only [zws, List.getElem?_cons_succ, ih, e]
theorem zws_at {h0 : Nat} {x0 : Nat → Option Nat} {kA : Nat → ClassId} {mem : zM} {i : Nat} {c : zE} (h : mem[i]? = some c) : (zws h0 x0 kA 0 mem)[i]? = some (h0 + i, zue h0 x0 kA c) := by
  rw [zws_get, h]
  simp
theorem zws_set (h0 : Nat) (x0 : Nat → Option Nat) (kA : Nat → ClassId) (c' : zE) (mem : zM) : ∀ (k i : Nat), zws h0 x0 kA k (mem.set i c') = (zws h0 x0 kA k mem).set i (h0 + (k + i), zue h0 x0 kA c') := by
  induction mem with
  | nil => intro k i; simp [zws]
  | cons c r ih =>
    intro k i
    cases i with
    | zero => simp [zws]
    | succ i =>
      have e : k + 1 + i = k + (i + 1) := by omega
      simp only [zws, List.set_cons_succ, ih, e]
theorem zws_app (h0 : Nat) (x0 : Nat → Option Nat) (kA : Nat → ClassId) (c' : zE) (mem : zM) : ∀ (k : Nat), zws h0 x0 kA k (mem ++ [c']) = zws h0 x0 kA k mem ++ [(h0 + (k + mem.length), zue h0 x0 kA c')] := by
  induction mem with
  | nil => intro k; simp [zws]
  | cons c r ih =>
    intro k
    have e : k + 1 + r.length = k + (r.length + 1) := by omega
    simp only [zws, List.cons_append, ih, e, List.length_cons]
theorem zws_D (h0 : Nat) (x0 : Nat → Option Nat) (kA : Nat → ClassId) (mem : zM) : va_D (fun q => h0 ≤ q) (zws h0 x0 kA 0 mem) := by
  refine ⟨fun i j p q hi hj he => ?_, fun k q hk => ?_⟩
  · rw [zws_get] at hi hj
    obtain ⟨a, -, ha⟩ := Option.map_eq_some_iff.mp hi
    obtain ⟨b, -, hb⟩ := Option.map_eq_some_iff.mp hj
    rw [← ha, ← hb] at he
    simp only at he
    omega
  · rw [zws_get] at hk
    obtain ⟨a, -, ha⟩ := Option.map_eq_some_iff.mp hk
    rw [← ha]
    simp only
    omega
def zsz (c : zE) : Nat := match c with
  | .inl a => zaz a.2
  | .inr o => o.2.length
def zsl : zM → Nat
  | [] => 0
  | c :: r => zsz c + zsl r
theorem zsl_app (c : zE) (mem : zM) : zsl (mem ++ [c]) = zsl mem + zsz c := by
  induction mem with
  | nil => simp [zsl]
  | cons a r ih => simp only [List.cons_append, zsl, ih]; omega
theorem zsl_set {c c' : zE} (hs : zsz c' = zsz c) (mem : zM) : ∀ k : Nat, mem[k]? = some c → zsl (mem.set k c') = zsl mem := by
  induction mem with
  | nil => intro k h; simp at h
  | cons a r ih =>
    intro k h
    cases k with
    | zero =>
      simp at h
      subst h
      simp only [List.set_cons_zero, zsl, hs]
    | succ k =>
      simp only [List.getElem?_cons_succ] at h
      simp only [List.set_cons_succ, zsl, ih k h]
def zle (a b : zM) : Prop := a.length ≤ b.length ∧ zsl a ≤ zsl b ∧ (a.length = b.length → zsl a = zsl b)
theorem zle.rf {a : zM} : zle a a := ⟨Nat.le_refl _, Nat.le_refl _, fun _ => rfl⟩
theorem zle.tr {a b c : zM} (h : zle a b) (k : zle b c) : zle a c := ⟨Nat.le_trans h.1 k.1, Nat.le_trans h.2.1 k.2.1, fun e => (h.2.2 (by have := h.1; have := k.1; omega)).trans (k.2.2 (by have := h.1; have := k.1; omega))⟩
theorem zle.app {a : zM} {c : zE} : zle a (a ++ [c]) := ⟨by simp, by rw [zsl_app]; omega, fun e => by simp at e⟩
theorem zle.set {a : zM} {k : Nat} {c c' : zE} (h : a[k]? = some c) (hs : zsz c' = zsz c) : zle a (a.set k c') := ⟨by simp, by rw [zsl_set hs a k h]; exact Nat.le_refl _, fun _ => (zsl_set hs a k h).symm⟩
def zat : zM → Nat → Option zE
  | [], _ => none
  | c :: _, 0 => some c
  | _ :: r, k + 1 => zat r k
theorem zat_eq (mem : zM) : ∀ k : Nat, zat mem k = mem[k]? := by
  induction mem with
  | nil => intro k; simp [zat]
  | cons a r ih =>
    intro k
    cases k with
    | zero => simp [zat]
    | succ k => simp [zat, ih]
/-! the locals: values by their places -/
def zlg : List (Nat × Value) → Nat → Option Value
  | [], _ => none
  | q :: r, i => bif Nat.beq q.1 i then some q.2 else zlg r i
theorem zlg_mem {i : Nat} {v : Value} : ∀ l : List (Nat × Value), zlg l i = some v → (i, v) ∈ l := by
  intro l
  induction l with
  | nil => intro h; cases h
  | cons q r ih =>
    intro h
    unfold zlg at h
    cases hb : Nat.beq q.1 i with
    | true =>
      rw [hb] at h
      simp only [cond_true, Option.some.injEq] at h
      have := Nat.eq_of_beq_eq_true hb
      rw [← h, ← this]
      exact List.mem_cons_self
    | false =>
      rw [hb] at h
      exact List.mem_cons_of_mem _ (ih h)
def zlm (h0 : Nat) (x0 : Nat → Option Nat) (l : List (Nat × Value)) : List (Nat × Value) := l.map (fun q => (q.1, zu h0 x0 q.2))
theorem zlm_at {h0 nL i : Nat} {x0 : Nat → Option Nat} {ls : Array Slot} {l : List (Nat × Value)} {v : Value} (h : lv_has ls nL (zlm h0 x0 l)) (hg : zlg l i = some v) : ls[i]? = some (.val (zu h0 x0 v)) :=
  h.2.2 (i, zu h0 x0 v) (List.mem_map.mpr ⟨(i, v), zlg_mem l hg, rfl⟩)
def zl1 (l : List (Nat × Value)) (i : Nat) (v : Value) : List (Nat × Value) := (i, v) :: l.filter (fun q => !(q.1 == i) && !(q.1 + 1 == i && q.2.category == 2))
def zl2 (l : List (Nat × Value)) (i : Nat) (v : Value) : List (Nat × Value) := (i, v) :: l.filter (fun q => !(q.1 == i) && (!(q.1 == i + 1) && !(q.1 + 1 == i && q.2.category == 2)))
theorem zl1_m (h0 : Nat) (x0 : Nat → Option Nat) (l : List (Nat × Value)) (i : Nat) (v : Value) : (i, zu h0 x0 v) :: (zlm h0 x0 l).filter (fun q => !(q.1 == i) && !(q.1 + 1 == i && q.2.category == 2)) = zlm h0 x0 (zl1 l i v) := by
  simp only [zl1, zlm, List.map_cons, List.filter_map, Function.comp_def, zu_cat]
theorem zl2_m (h0 : Nat) (x0 : Nat → Option Nat) (l : List (Nat × Value)) (i : Nat) (v : Value) : (i, zu h0 x0 v) :: (zlm h0 x0 l).filter (fun q => !(q.1 == i) && (!(q.1 == i + 1) && !(q.1 + 1 == i && q.2.category == 2))) = zlm h0 x0 (zl2 l i v) := by
  simp only [zl2, zlm, List.map_cons, List.filter_map, Function.comp_def, zu_cat]
theorem zlm_args (h0 : Nat) (x0 : Nat → Option Nat) (vs : List Value) : ∀ i : Nat, lv_args i (vs.map (zu h0 x0)) = zlm h0 x0 (lv_args i vs) := by
  induction vs with
  | nil => intro i; rfl
  | cons v r ih =>
    intro i
    simp only [List.map_cons, lv_args, zu_cat, zlm]
    rw [ih]
    rfl
def zwd (vs : List Value) : Nat := (vs.map (fun v => v.category)).sum
theorem zwd_m (h0 : Nat) (x0 : Nat → Option Nat) (vs : List Value) : zwd (vs.map (zu h0 x0)) = zwd vs := by
  simp only [zwd, List.map_map, Function.comp_def, zu_cat]
theorem zwd_sl (vs : List Value) : (lg_sl vs).length = zwd vs := by
  induction vs with
  | nil => rfl
  | cons v r ih =>
    have e : lg_sl (v :: r) = (if v.category = 2 then [Slot.val v, Slot.second] else [Slot.val v]) ++ lg_sl r := rfl
    rw [e, List.length_append, ih]
    rcases lv_cat v with h | h <;> simp [zwd, h]
/-! a state of a method: pc, locals, stack, memory; steps in the style of continuations (what goes on, what is returned), so that a test of an unknown number stays a Bool.rec at the top -/
abbrev zS : Type := Nat × List (Nat × Value) × List Value × zM
abbrev zRec (Y : Type) : Type := Nat → List Value → zM → (Option Value → zM → Option Y) → Option Y
abbrev zF : Type 1 := ∀ (Y : Type), zRec Y → zS → (zS → Option Y) → (Option Value → zM → Option Y) → Option Y
/-- a method: its name, code, locals, answer -/
abbrev zI : Type := MethodName × ByteArray × Nat × Option FieldType
/-- the system: classes, words, array kinds, what else is known of the tables, methods by number -/
abbrev zG : Type := List vw_C × List Cond × List FieldType × ((Launch × va_G × (Nat → ClassId) × Nat × (Nat → Option Nat)) → State → Prop) × (Nat → Option zI)
abbrev zCl (g : zG) : List vw_C := g.1
abbrev zTb (g : zG) : List Cond := g.2.1
abbrev zTl (g : zG) : List FieldType := g.2.2.1
abbrev zEx (g : zG) : (Launch × va_G × (Nat → ClassId) × Nat × (Nat → Option Nat)) → State → Prop := g.2.2.2.1
abbrev zMt (g : zG) : Nat → Option zI := g.2.2.2.2
/-- the start: launch, class numbers and slots, array classes, the first own address, the text's address -/
abbrev zX : Type := Launch × va_G × (Nat → ClassId) × Nat × (Nat → Option Nat)
abbrev zL (X : zX) : Launch := X.1
abbrev zD (X : zX) : va_G := X.2.1
abbrev zK (X : zX) : Nat → ClassId := X.2.2.1
abbrev zH (X : zX) : Nat := X.2.2.2.1
abbrev zx (X : zX) : Nat → Option Nat := X.2.2.2.2
abbrev zU (X : zX) : Value → Value := zu (zH X) (zx X)
abbrev zWs (X : zX) (mem : zM) : va_W := zws (zH X) (zx X) (zK X) 0 mem
def zTy (kA : Nat → ClassId) : Nat → List FieldType → List (ClassId × FieldType)
  | _, [] => []
  | k, t :: r => (kA k, t) :: zTy kA (k + 1) r
theorem zTy_get (kA : Nat → ClassId) (ts : List FieldType) : ∀ (k i : Nat), (zTy kA k ts)[i]? = (ts[i]?).map (fun t => (kA (k + i), t)) := by
  induction ts with
  | nil => intro k i; simp [zTy]
  | cons c r ih =>
    intro k i
    cases i with
    | zero => simp [zTy]
    | succ i =>
      have e : k + 1 + i = k + (i + 1) := by omega
      simp only [zTy, List.getElem?_cons_succ, ih, e]
theorem zTy_at {kA : Nat → ClassId} {ts : List FieldType} {i : Nat} {t : FieldType} (h : ts[i]? = some t) : (zTy kA 0 ts)[i]? = some (kA i, t) := by
  rw [zTy_get, h]
  simp
abbrev zTt (g : zG) (X : zX) : List (ClassId × FieldType) := zTy (zK X) 0 (zTl g)
def zExOk (g : zG) (X : zX) : Prop := (∀ (U : State) (f : JFrame) (mk : MethodId) (a : Array Value), zEx g X U → zEx g X (U.calling f mk a)) ∧ ∀ s U : State, s.WarmedH U.vm → (∀ q : Nat, q < zH X → U.heap[q]? = s.heap[q]?) → zEx g X s → zEx g X U
def zPre (g : zG) (X : zX) (mem : zM) (U : State) : Prop := U.heap.size = zH X + mem.length ∧ va_P (zD X) (zCl g) (zWs X mem) U.heap ∧ va_K (zD X) (zCl g) (zTt g X) U ∧ zEx g X U
def zQ (g : zG) (X : zX) (r : Option Value) (mem' : zM) : Array Value → State → Outcome → State → Prop := fun _ st o t => o = .returned (r.map (zU X)) ∧ va_P (zD X) (zCl g) (zWs X mem') t.heap ∧ va_F (fun q => zH X ≤ q) st t
def zrm (d : Nat) (mem mem' : zM) : Room := { frames := d, cells := mem'.length - mem.length, slots := zsl mem' - zsl mem, locals := 64 * d }
abbrev zwo (g : zG) (i : zI) : List Cond := .code i.1 i.2.1 i.2.2.1 i.2.2.2 :: zTb g
def zMet (g : zG) (X : zX) (d j : Nat) (av : List Value) (mem : zM) (r : Option Value) (mem' : zM) : Prop := ∀ i : zI, zMt g j = some i →
  Met (zL X) i.1 (zwo g i) (zrm d mem mem') (va_Pc (av.map (zU X)) (zPre g X mem)) (zQ g X r mem') (mem'.length - mem.length) (zsl mem' - zsl mem) (fun q => zH X ≤ q)
def zRecOk (g : zG) (X : zX) (d : Nat) (Y : Type) (rec : zRec Y) : Prop := ∀ (j : Nat) (av : List Value) (mem : zM) (κ : Option Value → zM → Option Y) (y : Y), rec j av mem κ = some y → ∃ (r : Option Value) (mem' : zM), κ r mem' = some y ∧ zle mem mem' ∧ zMet g X d j av mem r mem'
def zC (g : zG) (X : zX) (i : zI) (d n0 : Nat) (p : Program) (R : Room) (s : State) (m : MethodId) (args : Array Value) (meth : Method) (c : Code) : Prop :=
  p.tables.exec = Jvm.exec ∧ c.code = i.2.1 ∧ c.maxLocals = i.2.2.1 ∧ s.vm.findClass i.1.cls = some m.cls ∧ (∀ w ∈ zTb g, w.before args s = true) ∧ va_K (zD X) (zCl g) (zTt g X) s ∧ zEx g X s ∧ s.heap.size = zH X + n0 ∧ meth.locks = false ∧ meth.sig.returnType = i.2.2.2 ∧ (i.1.name = "<init>" → meth.name = "<init>") ∧ d + 1 ≤ R.frames ∧ 64 * (d + 1) ≤ R.locals
def zW (g : zG) (X : zX) (nL n0 sl0 : Nat) (p : Program) (e : Env) (R : Room) (s : State) (m : MethodId) (args : Array Value) (below : List Frame) (meth : Method) (c : Code) (Q : State → Prop) (st : zS) : Prop :=
  ∀ (H : Heap) (locs : List Loc) (ls : Array Slot), n0 ≤ st.2.2.2.length → sl0 ≤ zsl st.2.2.2 → va_P (zD X) (zCl g) (zWs X st.2.2.2) H → va_S (fun q => zH X ≤ q) s.heap H locs → lv_has ls nL (zlm (zH X) (zx X) st.2.1) →
    W p (zL X) e R s m args below meth c H locs (st.2.2.2.length - n0) (zsl st.2.2.2 - sl0) Q (F0 m st.1 ls (st.2.2.1.map (zU X)))
abbrev zQf (g : zG) (X : zX) (n0 sl0 : Nat) (below : List Frame) (args : Array Value) (s : State) (r : Option Value) (mem' : zM) : State → Prop := MQ below (zQ g X r mem') args s (mem'.length - n0) (zsl mem' - sl0) (fun q => zH X ≤ q)
/-- a step at pc is sound -/
def zOk (g : zG) (i : zI) (pc : Nat) (f : zF) : Prop := ∀ (X : zX), zExOk g X → ∀ (d : Nat) (Y : Type) (rec : zRec Y), zRecOk g X d Y rec → ∀ (lo : List (Nat × Value)) (sk : List Value) (mem : zM) (κ : zS → Option Y) (ρ : Option Value → zM → Option Y) (y : Y), f Y rec (pc, lo, sk, mem) κ ρ = some y →
  (∃ st' : zS, κ st' = some y ∧ zle mem st'.2.2.2 ∧ ∀ (n0 sl0 : Nat) (p : Program) (e : Env) (R : Room) (s : State) (m : MethodId) (args : Array Value) (below : List Frame) (meth : Method) (c : Code), zC g X i d n0 p R s m args meth c → st'.2.2.2.length ≤ n0 + R.cells → zsl st'.2.2.2 ≤ sl0 + R.slots → ∀ Q : State → Prop, zW g X i.2.2.1 n0 sl0 p e R s m args below meth c Q st' → zW g X i.2.2.1 n0 sl0 p e R s m args below meth c Q (pc, lo, sk, mem)) ∨
  (∃ (r : Option Value) (mem' : zM), ρ r mem' = some y ∧ zle mem mem' ∧ ∀ (n0 sl0 : Nat) (p : Program) (e : Env) (R : Room) (s : State) (m : MethodId) (args : Array Value) (below : List Frame) (meth : Method) (c : Code), zC g X i d n0 p R s m args meth c → zW g X i.2.2.1 n0 sl0 p e R s m args below meth c (zQf g X n0 sl0 below args s r mem') (pc, lo, sk, mem))
section ZO
variable {g : zG} {i : zI} {pc : Nat}
/-! steps that touch the stack alone -/
def zst (len : Nat) (gg : List Value → Option (List Value)) : zF := fun _ _ st κ _ => match st with
  | (pc, lo, sk, mem) => match gg sk with
  | some sk => κ (pc + len, lo, sk, mem)
  | none => none
theorem zOk_st {len : Nat} {gg : List Value → Option (List Value)} (h : ∀ (X : zX) (d n0 : Nat) (p : Program) (e : Env) (R : Room) (s : State) (m : MethodId) (args : Array Value) (below : List Frame) (meth : Method) (c : Code), zC g X i d n0 p R s m args meth c → ∀ sk sk' : List Value, gg sk = some sk' → ∀ (H : Heap) (locs : List Loc) (cells slots : Nat) (Q : State → Prop) (ls : Array Slot),
    W p (zL X) e R s m args below meth c H locs cells slots Q (F0 m (pc + len) ls (sk'.map (zU X))) → W p (zL X) e R s m args below meth c H locs cells slots Q (F0 m pc ls (sk.map (zU X)))) : zOk g i pc (zst len gg) := by
  intro X hE d Y rec hrec lo sk mem κ ρ y hf
  left
  unfold zst at hf
  dsimp only at hf
  split at hf
  · next sk' hg =>
    refine ⟨(pc + len, lo, sk', mem), hf, zle.rf, ?_⟩
    intro n0 sl0 p e R s m args below meth c hC _ _ Q hW H locs ls h1 h2 hP hS hl
    exact h X d n0 p e R s m args below meth c hC sk sk' hg H locs _ _ Q ls (hW H locs ls h1 h2 hP hS hl)
  · cases hf
def zp (v : Value) (sk : List Value) : Option (List Value) := some (v :: sk)
def zb (o : Int32 → Int32 → Int32) (sk : List Value) : Option (List Value) := match sk with
  | .int y :: .int x :: r => some (.int (o x y) :: r)
  | _ => none
theorem zb_s {o : Int32 → Int32 → Int32} {sk sk' : List Value} (h : zb o sk = some sk') : ∃ (x y : Int32) (r : List Value), sk = .int y :: .int x :: r ∧ sk' = .int (o x y) :: r := by
  unfold zb at h
  split at h
  · cases h; exact ⟨_, _, _, rfl, rfl⟩
  · cases h
def zbl (o : Int64 → Int64 → Int64) (sk : List Value) : Option (List Value) := match sk with
  | .long y :: .long x :: r => some (.long (o x y) :: r)
  | _ => none
theorem zbl_s {o : Int64 → Int64 → Int64} {sk sk' : List Value} (h : zbl o sk = some sk') : ∃ (x y : Int64) (r : List Value), sk = .long y :: .long x :: r ∧ sk' = .long (o x y) :: r := by
  unfold zbl at h
  split at h
  · cases h; exact ⟨_, _, _, rfl, rfl⟩
  · cases h
def zbs (o : Int64 → Int32 → Int64) (sk : List Value) : Option (List Value) := match sk with
  | .int y :: .long x :: r => some (.long (o x y) :: r)
  | _ => none
theorem zbs_s {o : Int64 → Int32 → Int64} {sk sk' : List Value} (h : zbs o sk = some sk') : ∃ (x : Int64) (y : Int32) (r : List Value), sk = .int y :: .long x :: r ∧ sk' = .long (o x y) :: r := by
  unfold zbs at h
  split at h
  · cases h; exact ⟨_, _, _, rfl, rfl⟩
  · cases h
def zcm (sk : List Value) : Option (List Value) := match sk with
  | .long y :: .long x :: r => some (.int (lg_cmp x y) :: r)
  | _ => none
theorem zcm_s {sk sk' : List Value} (h : zcm sk = some sk') : ∃ (x y : Int64) (r : List Value), sk = .long y :: .long x :: r ∧ sk' = .int (lg_cmp x y) :: r := by
  unfold zcm at h
  split at h
  · cases h; exact ⟨_, _, _, rfl, rfl⟩
  · cases h
noncomputable def zdi (o : Int32 → Int32 → Int32) (sk : List Value) : Option (List Value) := match sk with
  | .int y :: .int x :: r => Bool.rec (some (.int (o x y) :: r)) none (decide (y = 0))
  | _ => none
theorem zdi_s {o : Int32 → Int32 → Int32} {sk sk' : List Value} (h : zdi o sk = some sk') : ∃ (x y : Int32) (r : List Value), sk = .int y :: .int x :: r ∧ ¬ y = 0 ∧ sk' = .int (o x y) :: r := by
  unfold zdi at h
  split at h
  · next y x r =>
    cases hd : decide (y = 0) with
    | true => rw [hd] at h; cases h
    | false => rw [hd] at h; cases h; exact ⟨_, _, _, rfl, of_decide_eq_false hd, rfl⟩
  · cases h
noncomputable def zdl (o : Int64 → Int64 → Int64) (sk : List Value) : Option (List Value) := match sk with
  | .long y :: .long x :: r => Bool.rec (some (.long (o x y) :: r)) none (decide (y = 0))
  | _ => none
theorem zdl_s {o : Int64 → Int64 → Int64} {sk sk' : List Value} (h : zdl o sk = some sk') : ∃ (x y : Int64) (r : List Value), sk = .long y :: .long x :: r ∧ ¬ y = 0 ∧ sk' = .long (o x y) :: r := by
  unfold zdl at h
  split at h
  · next y x r =>
    cases hd : decide (y = 0) with
    | true => rw [hd] at h; cases h
    | false => rw [hd] at h; cases h; exact ⟨_, _, _, rfl, of_decide_eq_false hd, rfl⟩
  · cases h
def zil (sk : List Value) : Option (List Value) := match sk with
  | .int x :: r => some (.long x.toInt64 :: r)
  | _ => none
def zli (sk : List Value) : Option (List Value) := match sk with
  | .long x :: r => some (.int x.toInt32 :: r)
  | _ => none
def zc1 (v : Value) : Bool := match v with
  | .long _ => false
  | .double _ => false
  | _ => true
theorem zc1_s {h0 : Nat} {x0 : Nat → Option Nat} {v : Value} (h : zc1 v = true) : (zu h0 x0 v).category = 1 := by
  rw [zu_cat]
  cases v <;> first | rfl | cases h
noncomputable def zdu (sk : List Value) : Option (List Value) := match sk with
  | v :: r => Bool.rec none (some (v :: v :: r)) (zc1 v)
  | _ => none
theorem zdu_s {sk sk' : List Value} (h : zdu sk = some sk') : ∃ (v : Value) (r : List Value), zc1 v = true ∧ sk = v :: r ∧ sk' = v :: v :: r := by
  unfold zdu at h
  split at h
  · next v r =>
    cases hd : zc1 v with
    | false => rw [hd] at h; cases h
    | true => rw [hd] at h; cases h; exact ⟨v, r, hd, rfl, rfl⟩
  · cases h
noncomputable def zpo (sk : List Value) : Option (List Value) := match sk with
  | v :: r => Bool.rec none (some r) (zc1 v)
  | _ => none
theorem zpo_s {sk sk' : List Value} (h : zpo sk = some sk') : ∃ (v : Value) (r : List Value), zc1 v = true ∧ sk = v :: r ∧ sk' = r := by
  unfold zpo at h
  split at h
  · next v r =>
    cases hd : zc1 v with
    | false => rw [hd] at h; cases h
    | true => rw [hd] at h; cases h; exact ⟨v, _, hd, rfl, rfl⟩
  · cases h
noncomputable def zd2 (sk : List Value) : Option (List Value) := match sk with
  | .long x :: r => some (.long x :: .long x :: r)
  | v :: w :: r => Bool.rec none (Bool.rec none (some (v :: w :: v :: w :: r)) (zc1 w)) (zc1 v)
  | _ => none
theorem ok_iconst {n : Int} {v : Int32} (hd : decode i.2.1 pc = .ok (.iconst n, 1)) (hv : Int32.ofInt n = v) : zOk g i pc (zst 1 (zp (.int v))) := zOk_st fun X d n0 p e R s m args below meth c hC sk sk' hg H locs cells slots Q ls k => by
  cases hg
  exact lv_iconst hC.1 hC.2.1 hd hv k
theorem ok_bipush {n : Int} {v : Int32} (hd : decode i.2.1 pc = .ok (.bipush n, 2)) (hv : (Int8.ofInt n).toInt32 = v) : zOk g i pc (zst 2 (zp (.int v))) := zOk_st fun X d n0 p e R s m args below meth c hC sk sk' hg H locs cells slots Q ls k => by
  cases hg
  exact lv_bipush hC.1 hC.2.1 hd hv k
theorem ok_sipush {n : Int} {v : Int32} (hd : decode i.2.1 pc = .ok (.sipush n, 3)) (hv : (Int16.ofInt n).toInt32 = v) : zOk g i pc (zst 3 (zp (.int v))) := zOk_st fun X d n0 p e R s m args below meth c hC sk sk' hg H locs cells slots Q ls k => by
  cases hg
  exact lv_sipush hC.1 hC.2.1 hd hv k
theorem ok_lconst {n : Fin 2} {v : Int64} (hd : decode i.2.1 pc = .ok (.lconst n, 1)) (hv : Int64.ofNat (n : Nat) = v) : zOk g i pc (zst 1 (zp (.long v))) := zOk_st fun X d n0 p e R s m args below meth c hC sk sk' hg H locs cells slots Q ls k => by
  cases hg
  exact lv_lconst hC.1 hC.2.1 hd hv k
theorem ok_ldc {n : Nat} {v : Int32} (hw : Cond.constant i.1.cls n v ∈ zTb g) (hd : decode i.2.1 pc = .ok (.ldc n, 2)) : zOk g i pc (zst 2 (zp (.int v))) := zOk_st fun X d n0 p e R s m args below meth c hC sk sk' hg H locs cells slots Q ls k => by
  cases hg
  exact lv_ldc hC.1 hC.2.1 hC.2.2.2.1 (hC.2.2.2.2.1 _ hw) hd k
theorem ok_ldcw {n : Nat} {v : Int32} (hw : Cond.constant i.1.cls n v ∈ zTb g) (hd : decode i.2.1 pc = .ok (.ldc_w n, 3)) : zOk g i pc (zst 3 (zp (.int v))) := zOk_st fun X d n0 p e R s m args below meth c hC sk sk' hg H locs cells slots Q ls k => by
  cases hg
  exact lv_ldcw hC.1 hC.2.1 hC.2.2.2.1 (hC.2.2.2.2.1 _ hw) hd k
theorem ok_ldc2 {n : Nat} {v : Int64} (hw : Cond.constantLong i.1.cls n v ∈ zTb g) (hd : decode i.2.1 pc = .ok (.ldc2_w n, 3)) : zOk g i pc (zst 3 (zp (.long v))) := zOk_st fun X d n0 p e R s m args below meth c hC sk sk' hg H locs cells slots Q ls k => by
  cases hg
  exact lv_ldc2 hC.1 hC.2.1 hC.2.2.2.1 (hC.2.2.2.2.1 _ hw) hd k
theorem ok_iadd (hd : decode i.2.1 pc = .ok (.iadd, 1)) : zOk g i pc (zst 1 (zb (fun x y => x + y))) := zOk_st fun X d n0 p e R s m args below meth c hC sk sk' hg H locs cells slots Q ls k => by
  obtain ⟨x, y, r, rfl, rfl⟩ := zb_s hg
  exact lv_iadd hC.1 hC.2.1 hd k
theorem ok_isub (hd : decode i.2.1 pc = .ok (.isub, 1)) : zOk g i pc (zst 1 (zb (fun x y => x - y))) := zOk_st fun X d n0 p e R s m args below meth c hC sk sk' hg H locs cells slots Q ls k => by
  obtain ⟨x, y, r, rfl, rfl⟩ := zb_s hg
  exact lv_isub hC.1 hC.2.1 hd k
theorem ok_imul (hd : decode i.2.1 pc = .ok (.imul, 1)) : zOk g i pc (zst 1 (zb (fun x y => x * y))) := zOk_st fun X d n0 p e R s m args below meth c hC sk sk' hg H locs cells slots Q ls k => by
  obtain ⟨x, y, r, rfl, rfl⟩ := zb_s hg
  exact lv_imul hC.1 hC.2.1 hd k
theorem ok_iand (hd : decode i.2.1 pc = .ok (.iand, 1)) : zOk g i pc (zst 1 (zb (fun x y => x &&& y))) := zOk_st fun X d n0 p e R s m args below meth c hC sk sk' hg H locs cells slots Q ls k => by
  obtain ⟨x, y, r, rfl, rfl⟩ := zb_s hg
  exact lv_iand hC.1 hC.2.1 hd k
theorem ok_ior (hd : decode i.2.1 pc = .ok (.ior, 1)) : zOk g i pc (zst 1 (zb (fun x y => x ||| y))) := zOk_st fun X d n0 p e R s m args below meth c hC sk sk' hg H locs cells slots Q ls k => by
  obtain ⟨x, y, r, rfl, rfl⟩ := zb_s hg
  exact lv_ior hC.1 hC.2.1 hd k
theorem ok_ixor (hd : decode i.2.1 pc = .ok (.ixor, 1)) : zOk g i pc (zst 1 (zb (fun x y => x ^^^ y))) := zOk_st fun X d n0 p e R s m args below meth c hC sk sk' hg H locs cells slots Q ls k => by
  obtain ⟨x, y, r, rfl, rfl⟩ := zb_s hg
  exact lv_ixor hC.1 hC.2.1 hd k
theorem ok_ishl (hd : decode i.2.1 pc = .ok (.ishl, 1)) : zOk g i pc (zst 1 (zb (fun x y => x <<< (y &&& 31)))) := zOk_st fun X d n0 p e R s m args below meth c hC sk sk' hg H locs cells slots Q ls k => by
  obtain ⟨x, y, r, rfl, rfl⟩ := zb_s hg
  exact lv_ishl hC.1 hC.2.1 hd k
theorem ok_ishr (hd : decode i.2.1 pc = .ok (.ishr, 1)) : zOk g i pc (zst 1 (zb (fun x y => x >>> (y &&& 31)))) := zOk_st fun X d n0 p e R s m args below meth c hC sk sk' hg H locs cells slots Q ls k => by
  obtain ⟨x, y, r, rfl, rfl⟩ := zb_s hg
  exact lv_ishr hC.1 hC.2.1 hd k
theorem ok_iushr (hd : decode i.2.1 pc = .ok (.iushr, 1)) : zOk g i pc (zst 1 (zb (fun x y => (x.toUInt32 >>> (y.toUInt32 &&& Int32.toUInt32 31)).toInt32))) := zOk_st fun X d n0 p e R s m args below meth c hC sk sk' hg H locs cells slots Q ls k => by
  obtain ⟨x, y, r, rfl, rfl⟩ := zb_s hg
  exact lv_iushr hC.1 hC.2.1 hd rfl k
theorem ok_idiv (hd : decode i.2.1 pc = .ok (.idiv, 1)) : zOk g i pc (zst 1 (zdi (fun x y => x / y))) := zOk_st fun X d n0 p e R s m args below meth c hC sk sk' hg H locs cells slots Q ls k => by
  obtain ⟨x, y, r, rfl, hne, rfl⟩ := zdi_s hg
  exact lv_idiv hC.1 hC.2.1 hd hne k
theorem ok_irem (hd : decode i.2.1 pc = .ok (.irem, 1)) : zOk g i pc (zst 1 (zdi (fun x y => x - x / y * y))) := zOk_st fun X d n0 p e R s m args below meth c hC sk sk' hg H locs cells slots Q ls k => by
  obtain ⟨x, y, r, rfl, hne, rfl⟩ := zdi_s hg
  exact lv_irem hC.1 hC.2.1 hd hne k
theorem ok_ladd (hd : decode i.2.1 pc = .ok (.ladd, 1)) : zOk g i pc (zst 1 (zbl (fun x y => x + y))) := zOk_st fun X d n0 p e R s m args below meth c hC sk sk' hg H locs cells slots Q ls k => by
  obtain ⟨x, y, r, rfl, rfl⟩ := zbl_s hg
  exact lv_ladd hC.1 hC.2.1 hd k
theorem ok_lsub (hd : decode i.2.1 pc = .ok (.lsub, 1)) : zOk g i pc (zst 1 (zbl (fun x y => x - y))) := zOk_st fun X d n0 p e R s m args below meth c hC sk sk' hg H locs cells slots Q ls k => by
  obtain ⟨x, y, r, rfl, rfl⟩ := zbl_s hg
  exact lv_lsub hC.1 hC.2.1 hd k
theorem ok_lmul (hd : decode i.2.1 pc = .ok (.lmul, 1)) : zOk g i pc (zst 1 (zbl (fun x y => x * y))) := zOk_st fun X d n0 p e R s m args below meth c hC sk sk' hg H locs cells slots Q ls k => by
  obtain ⟨x, y, r, rfl, rfl⟩ := zbl_s hg
  exact lv_lmul hC.1 hC.2.1 hd k
theorem ok_land (hd : decode i.2.1 pc = .ok (.land, 1)) : zOk g i pc (zst 1 (zbl (fun x y => x &&& y))) := zOk_st fun X d n0 p e R s m args below meth c hC sk sk' hg H locs cells slots Q ls k => by
  obtain ⟨x, y, r, rfl, rfl⟩ := zbl_s hg
  exact lv_land hC.1 hC.2.1 hd k
theorem ok_lor (hd : decode i.2.1 pc = .ok (.lor, 1)) : zOk g i pc (zst 1 (zbl (fun x y => x ||| y))) := zOk_st fun X d n0 p e R s m args below meth c hC sk sk' hg H locs cells slots Q ls k => by
  obtain ⟨x, y, r, rfl, rfl⟩ := zbl_s hg
  exact lv_lor hC.1 hC.2.1 hd k
theorem ok_lxor (hd : decode i.2.1 pc = .ok (.lxor, 1)) : zOk g i pc (zst 1 (zbl (fun x y => x ^^^ y))) := zOk_st fun X d n0 p e R s m args below meth c hC sk sk' hg H locs cells slots Q ls k => by
  obtain ⟨x, y, r, rfl, rfl⟩ := zbl_s hg
  exact lv_lxor hC.1 hC.2.1 hd k
theorem ok_ldiv (hd : decode i.2.1 pc = .ok (.ldiv, 1)) : zOk g i pc (zst 1 (zdl (fun x y => x / y))) := zOk_st fun X d n0 p e R s m args below meth c hC sk sk' hg H locs cells slots Q ls k => by
  obtain ⟨x, y, r, rfl, hne, rfl⟩ := zdl_s hg
  exact lv_ldiv hC.1 hC.2.1 hd hne k
theorem ok_lrem (hd : decode i.2.1 pc = .ok (.lrem, 1)) : zOk g i pc (zst 1 (zdl (fun x y => x - x / y * y))) := zOk_st fun X d n0 p e R s m args below meth c hC sk sk' hg H locs cells slots Q ls k => by
  obtain ⟨x, y, r, rfl, hne, rfl⟩ := zdl_s hg
  exact lv_lrem hC.1 hC.2.1 hd hne k
theorem ok_lshl (hd : decode i.2.1 pc = .ok (.lshl, 1)) : zOk g i pc (zst 1 (zbs (fun x y => x <<< (y.toInt64 &&& 63)))) := zOk_st fun X d n0 p e R s m args below meth c hC sk sk' hg H locs cells slots Q ls k => by
  obtain ⟨x, y, r, rfl, rfl⟩ := zbs_s hg
  exact lv_lshl hC.1 hC.2.1 hd rfl k
theorem ok_lshr (hd : decode i.2.1 pc = .ok (.lshr, 1)) : zOk g i pc (zst 1 (zbs (fun x y => x >>> (y.toInt64 &&& 63)))) := zOk_st fun X d n0 p e R s m args below meth c hC sk sk' hg H locs cells slots Q ls k => by
  obtain ⟨x, y, r, rfl, rfl⟩ := zbs_s hg
  exact lv_lshr hC.1 hC.2.1 hd rfl k
theorem ok_lushr (hd : decode i.2.1 pc = .ok (.lushr, 1)) : zOk g i pc (zst 1 (zbs (fun x y => (x.toUInt64 >>> (y.toInt64.toUInt64 &&& Int64.toUInt64 63)).toInt64))) := zOk_st fun X d n0 p e R s m args below meth c hC sk sk' hg H locs cells slots Q ls k => by
  obtain ⟨x, y, r, rfl, rfl⟩ := zbs_s hg
  exact lv_lushr hC.1 hC.2.1 hd rfl k
theorem ok_lcmp (hd : decode i.2.1 pc = .ok (.lcmp, 1)) : zOk g i pc (zst 1 zcm) := zOk_st fun X d n0 p e R s m args below meth c hC sk sk' hg H locs cells slots Q ls k => by
  obtain ⟨x, y, r, rfl, rfl⟩ := zcm_s hg
  exact W.lcmp hC.1 hC.2.1 hd k
theorem ok_i2l (hd : decode i.2.1 pc = .ok (.i2l, 1)) : zOk g i pc (zst 1 zil) := zOk_st fun X d n0 p e R s m args below meth c hC sk sk' hg H locs cells slots Q ls k => by
  unfold zil at hg
  split at hg
  · cases hg; exact lv_i2l hC.1 hC.2.1 hd rfl k
  · cases hg
theorem ok_l2i (hd : decode i.2.1 pc = .ok (.l2i, 1)) : zOk g i pc (zst 1 zli) := zOk_st fun X d n0 p e R s m args below meth c hC sk sk' hg H locs cells slots Q ls k => by
  unfold zli at hg
  split at hg
  · cases hg; exact lv_l2i hC.1 hC.2.1 hd rfl k
  · cases hg
theorem ok_dup (hd : decode i.2.1 pc = .ok (.dup, 1)) : zOk g i pc (zst 1 zdu) := zOk_st fun X d n0 p e R s m args below meth c hC sk sk' hg H locs cells slots Q ls k => by
  obtain ⟨v, r, hv, rfl, rfl⟩ := zdu_s hg
  exact lv_dup hC.1 hC.2.1 hd (zc1_s hv) k
theorem ok_pop (hd : decode i.2.1 pc = .ok (.pop, 1)) : zOk g i pc (zst 1 zpo) := zOk_st fun X d n0 p e R s m args below meth c hC sk sk' hg H locs cells slots Q ls k => by
  obtain ⟨v, r, hv, rfl, rfl⟩ := zpo_s hg
  exact lv_pop hC.1 hC.2.1 hd (zc1_s hv) k
theorem ok_dup2 (hd : decode i.2.1 pc = .ok (.dup2, 1)) : zOk g i pc (zst 1 zd2) := zOk_st fun X d n0 p e R s m args below meth c hC sk sk' hg H locs cells slots Q ls k => by
  unfold zd2 at hg
  split at hg
  · cases hg; exact lv_dup2_2 hC.1 hC.2.1 hd rfl k
  · next v w r _ =>
    cases hv : zc1 v with
    | false => rw [hv] at hg; cases hg
    | true =>
      cases hw : zc1 w with
      | false => rw [hv, hw] at hg; cases hg
      | true => rw [hv, hw] at hg; cases hg; exact lv_dup2_11 hC.1 hC.2.1 hd (zc1_s hv) (zc1_s hw) k
  · cases hg
/-! tests and jumps -/
noncomputable def zif (P : Int32 → Bool) (len tgt : Nat) : zF := fun _ _ st κ _ => match st with
  | (pc, lo, sk, mem) => match sk with
  | .int x :: r => Bool.rec (κ (pc + len, lo, r, mem)) (κ (tgt, lo, r, mem)) (P x)
  | _ => none
noncomputable def zic (P : Int32 → Int32 → Bool) (len tgt : Nat) : zF := fun _ _ st κ _ => match st with
  | (pc, lo, sk, mem) => match sk with
  | .int y :: .int x :: r => Bool.rec (κ (pc + len, lo, r, mem)) (κ (tgt, lo, r, mem)) (P x y)
  | _ => none
theorem zOk_if {P : Int32 → Bool} {len tgt : Nat} (h : ∀ (X : zX) (d n0 : Nat) (p : Program) (e : Env) (R : Room) (s : State) (m : MethodId) (args : Array Value) (below : List Frame) (meth : Method) (c : Code), zC g X i d n0 p R s m args meth c → ∀ (x : Int32) (r : List Value) (H : Heap) (locs : List Loc) (cells slots : Nat) (Q : State → Prop) (ls : Array Slot),
    (P x = true → W p (zL X) e R s m args below meth c H locs cells slots Q (F0 m tgt ls r)) → (P x = false → W p (zL X) e R s m args below meth c H locs cells slots Q (F0 m (pc + len) ls r)) → W p (zL X) e R s m args below meth c H locs cells slots Q (F0 m pc ls (.int x :: r))) : zOk g i pc (zif P len tgt) := by
  intro X hE d Y rec hrec lo sk mem κ ρ y hf
  left
  unfold zif at hf
  dsimp only at hf
  split at hf
  · next x r =>
    cases hb : P x with
    | true =>
      rw [hb] at hf
      refine ⟨(tgt, lo, r, mem), hf, zle.rf, ?_⟩
      intro n0 sl0 p e R s m args below meth c hC _ _ Q hW H locs ls h1 h2 hP hS hl
      exact h X d n0 p e R s m args below meth c hC x _ H locs _ _ Q ls (fun _ => hW H locs ls h1 h2 hP hS hl) (fun q => by rw [hb] at q; cases q)
    | false =>
      rw [hb] at hf
      refine ⟨(pc + len, lo, r, mem), hf, zle.rf, ?_⟩
      intro n0 sl0 p e R s m args below meth c hC _ _ Q hW H locs ls h1 h2 hP hS hl
      exact h X d n0 p e R s m args below meth c hC x _ H locs _ _ Q ls (fun q => by rw [hb] at q; cases q) (fun _ => hW H locs ls h1 h2 hP hS hl)
  · cases hf
theorem zOk_ic {P : Int32 → Int32 → Bool} {len tgt : Nat} (h : ∀ (X : zX) (d n0 : Nat) (p : Program) (e : Env) (R : Room) (s : State) (m : MethodId) (args : Array Value) (below : List Frame) (meth : Method) (c : Code), zC g X i d n0 p R s m args meth c → ∀ (x y : Int32) (r : List Value) (H : Heap) (locs : List Loc) (cells slots : Nat) (Q : State → Prop) (ls : Array Slot),
    (P x y = true → W p (zL X) e R s m args below meth c H locs cells slots Q (F0 m tgt ls r)) → (P x y = false → W p (zL X) e R s m args below meth c H locs cells slots Q (F0 m (pc + len) ls r)) → W p (zL X) e R s m args below meth c H locs cells slots Q (F0 m pc ls (.int y :: .int x :: r))) : zOk g i pc (zic P len tgt) := by
  intro X hE d Y rec hrec lo sk mem κ ρ y hf
  left
  unfold zic at hf
  dsimp only at hf
  split at hf
  · next y x r =>
    cases hb : P x y with
    | true =>
      rw [hb] at hf
      refine ⟨(tgt, lo, r, mem), hf, zle.rf, ?_⟩
      intro n0 sl0 p e R s m args below meth c hC _ _ Q hW H locs ls h1 h2 hP hS hl
      exact h X d n0 p e R s m args below meth c hC x y _ H locs _ _ Q ls (fun _ => hW H locs ls h1 h2 hP hS hl) (fun q => by rw [hb] at q; cases q)
    | false =>
      rw [hb] at hf
      refine ⟨(pc + len, lo, r, mem), hf, zle.rf, ?_⟩
      intro n0 sl0 p e R s m args below meth c hC _ _ Q hW H locs ls h1 h2 hP hS hl
      exact h X d n0 p e R s m args below meth c hC x y _ H locs _ _ Q ls (fun q => by rw [hb] at q; cases q) (fun _ => hW H locs ls h1 h2 hP hS hl)
  · cases hf
theorem ok_if_eq {off : Int} {tgt : Nat} (hd : decode i.2.1 pc = .ok (.ifCond .eq off, 3)) (ht : (pc : Int) + off = (tgt : Int)) : zOk g i pc (zif (fun x => decide (x = 0)) 3 tgt) := zOk_if fun X d n0 p e R s m args below meth c hC x r H locs cells slots Q ls kt kf => lv_if_eq hC.1 hC.2.1 hd ht (fun q => kt (decide_eq_true q)) (fun q => kf (decide_eq_false q))
theorem ok_icmp_eq {off : Int} {tgt : Nat} (hd : decode i.2.1 pc = .ok (.if_icmp .eq off, 3)) (ht : (pc : Int) + off = (tgt : Int)) : zOk g i pc (zic (fun x y => decide (x = y)) 3 tgt) := zOk_ic fun X d n0 p e R s m args below meth c hC x y r H locs cells slots Q ls kt kf => lv_icmp_eq hC.1 hC.2.1 hd ht (fun q => kt (decide_eq_true q)) (fun q => kf (decide_eq_false q))
theorem ok_if_ne {off : Int} {tgt : Nat} (hd : decode i.2.1 pc = .ok (.ifCond .ne off, 3)) (ht : (pc : Int) + off = (tgt : Int)) : zOk g i pc (zif (fun x => !decide (x = 0)) 3 tgt) := zOk_if fun X d n0 p e R s m args below meth c hC x r H locs cells slots Q ls kt kf => lv_if_ne hC.1 hC.2.1 hd ht (fun q => kt (by simp [q])) (fun q => kf (by simp [q]))
theorem ok_icmp_ne {off : Int} {tgt : Nat} (hd : decode i.2.1 pc = .ok (.if_icmp .ne off, 3)) (ht : (pc : Int) + off = (tgt : Int)) : zOk g i pc (zic (fun x y => !decide (x = y)) 3 tgt) := zOk_ic fun X d n0 p e R s m args below meth c hC x y r H locs cells slots Q ls kt kf => lv_icmp_ne hC.1 hC.2.1 hd ht (fun q => kt (by simp [q])) (fun q => kf (by simp [q]))
theorem ok_if_lt {off : Int} {tgt : Nat} (hd : decode i.2.1 pc = .ok (.ifCond .lt off, 3)) (ht : (pc : Int) + off = (tgt : Int)) : zOk g i pc (zif (fun x => decide (x < 0)) 3 tgt) := zOk_if fun X d n0 p e R s m args below meth c hC x r H locs cells slots Q ls kt kf => lv_if_lt hC.1 hC.2.1 hd ht (fun q => kt (decide_eq_true q)) (fun q => kf (decide_eq_false q))
theorem ok_icmp_lt {off : Int} {tgt : Nat} (hd : decode i.2.1 pc = .ok (.if_icmp .lt off, 3)) (ht : (pc : Int) + off = (tgt : Int)) : zOk g i pc (zic (fun x y => decide (x < y)) 3 tgt) := zOk_ic fun X d n0 p e R s m args below meth c hC x y r H locs cells slots Q ls kt kf => lv_icmp_lt hC.1 hC.2.1 hd ht (fun q => kt (decide_eq_true q)) (fun q => kf (decide_eq_false q))
theorem ok_if_ge {off : Int} {tgt : Nat} (hd : decode i.2.1 pc = .ok (.ifCond .ge off, 3)) (ht : (pc : Int) + off = (tgt : Int)) : zOk g i pc (zif (fun x => decide (0 ≤ x)) 3 tgt) := zOk_if fun X d n0 p e R s m args below meth c hC x r H locs cells slots Q ls kt kf => lv_if_ge hC.1 hC.2.1 hd ht (fun q => kt (decide_eq_true q)) (fun q => kf (decide_eq_false q))
theorem ok_icmp_ge {off : Int} {tgt : Nat} (hd : decode i.2.1 pc = .ok (.if_icmp .ge off, 3)) (ht : (pc : Int) + off = (tgt : Int)) : zOk g i pc (zic (fun x y => decide (y ≤ x)) 3 tgt) := zOk_ic fun X d n0 p e R s m args below meth c hC x y r H locs cells slots Q ls kt kf => lv_icmp_ge hC.1 hC.2.1 hd ht (fun q => kt (decide_eq_true q)) (fun q => kf (decide_eq_false q))
theorem ok_if_gt {off : Int} {tgt : Nat} (hd : decode i.2.1 pc = .ok (.ifCond .gt off, 3)) (ht : (pc : Int) + off = (tgt : Int)) : zOk g i pc (zif (fun x => decide (0 < x)) 3 tgt) := zOk_if fun X d n0 p e R s m args below meth c hC x r H locs cells slots Q ls kt kf => lv_if_gt hC.1 hC.2.1 hd ht (fun q => kt (decide_eq_true q)) (fun q => kf (decide_eq_false q))
theorem ok_icmp_gt {off : Int} {tgt : Nat} (hd : decode i.2.1 pc = .ok (.if_icmp .gt off, 3)) (ht : (pc : Int) + off = (tgt : Int)) : zOk g i pc (zic (fun x y => decide (y < x)) 3 tgt) := zOk_ic fun X d n0 p e R s m args below meth c hC x y r H locs cells slots Q ls kt kf => lv_icmp_gt hC.1 hC.2.1 hd ht (fun q => kt (decide_eq_true q)) (fun q => kf (decide_eq_false q))
theorem ok_if_le {off : Int} {tgt : Nat} (hd : decode i.2.1 pc = .ok (.ifCond .le off, 3)) (ht : (pc : Int) + off = (tgt : Int)) : zOk g i pc (zif (fun x => decide (x ≤ 0)) 3 tgt) := zOk_if fun X d n0 p e R s m args below meth c hC x r H locs cells slots Q ls kt kf => lv_if_le hC.1 hC.2.1 hd ht (fun q => kt (decide_eq_true q)) (fun q => kf (decide_eq_false q))
theorem ok_icmp_le {off : Int} {tgt : Nat} (hd : decode i.2.1 pc = .ok (.if_icmp .le off, 3)) (ht : (pc : Int) + off = (tgt : Int)) : zOk g i pc (zic (fun x y => decide (x ≤ y)) 3 tgt) := zOk_ic fun X d n0 p e R s m args below meth c hC x y r H locs cells slots Q ls kt kf => lv_icmp_le hC.1 hC.2.1 hd ht (fun q => kt (decide_eq_true q)) (fun q => kf (decide_eq_false q))
def zgt (tgt : Nat) : zF := fun _ _ st κ _ => match st with
  | (pc, lo, sk, mem) => κ (tgt, lo, sk, mem)
theorem ok_goto {off : Int} {tgt : Nat} (hd : decode i.2.1 pc = .ok (.goto off, 3)) (ht : (pc : Int) + off = (tgt : Int)) : zOk g i pc (zgt tgt) := by
  intro X hE d Y rec hrec lo sk mem κ ρ y hf
  refine Or.inl ⟨(tgt, lo, sk, mem), hf, zle.rf, ?_⟩
  intro n0 sl0 p e R s m args below meth c hC _ _ Q hW H locs ls h1 h2 hP hS hl
  exact lv_goto hC.1 hC.2.1 hd ht (hW H locs ls h1 h2 hP hS hl)
/-! switches: the pairs of key and target, one after the other -/
noncomputable def zsw (ks : List (Int32 × Nat)) (dflt : Nat) (x : Int32) {Z : Type} (κ : Nat → Z) : Z := List.rec (κ dflt) (fun q _ ih => Bool.rec ih (κ q.2) (decide (x = q.1))) ks
theorem zsw_s {Z : Type} {x : Int32} {dflt : Nat} {κ : Nat → Z} : ∀ ks : List (Int32 × Nat), (∃ q ∈ ks, x = q.1 ∧ zsw ks dflt x κ = κ q.2) ∨ ((∀ q ∈ ks, ¬ x = q.1) ∧ zsw ks dflt x κ = κ dflt) := by
  intro ks
  induction ks with
  | nil => exact Or.inr ⟨fun q h => by simp at h, rfl⟩
  | cons a r ih =>
    have e : zsw (a :: r) dflt x κ = Bool.rec (zsw r dflt x κ) (κ a.2) (decide (x = a.1)) := rfl
    cases hb : decide (x = a.1) with
    | true =>
      rw [hb] at e
      exact Or.inl ⟨a, List.mem_cons_self, of_decide_eq_true hb, e⟩
    | false =>
      rw [hb] at e
      have hne := of_decide_eq_false hb
      rcases ih with ⟨q, h1, h2, h3⟩ | ⟨h1, h2⟩
      · exact Or.inl ⟨q, List.mem_cons_of_mem _ h1, h2, e.trans h3⟩
      · exact Or.inr ⟨fun q hq => (List.mem_cons.mp hq).elim (fun z => by rw [z]; exact hne) (h1 q), e.trans h2⟩
noncomputable def zts (ks : List (Int32 × Nat)) (dflt : Nat) : zF := fun _ _ st κ _ => match st with
  | (pc, lo, sk, mem) => match sk with
  | .int x :: r => zsw ks dflt x (fun t => κ (t, lo, r, mem))
  | _ => none
theorem zOk_sw {ks : List (Int32 × Nat)} {dflt : Nat} (h : ∀ (X : zX) (d n0 : Nat) (p : Program) (e : Env) (R : Room) (s : State) (m : MethodId) (args : Array Value) (below : List Frame) (meth : Method) (c : Code), zC g X i d n0 p R s m args meth c → ∀ (x : Int32) (r : List Value) (H : Heap) (locs : List Loc) (cells slots : Nat) (Q : State → Prop) (ls : Array Slot) (t : Nat),
    ((∃ q ∈ ks, x = q.1 ∧ t = q.2) ∨ ((∀ q ∈ ks, ¬ x = q.1) ∧ t = dflt)) → W p (zL X) e R s m args below meth c H locs cells slots Q (F0 m t ls r) → W p (zL X) e R s m args below meth c H locs cells slots Q (F0 m pc ls (.int x :: r))) : zOk g i pc (zts ks dflt) := by
  intro X hE d Y rec hrec lo sk mem κ ρ y hf
  left
  unfold zts at hf
  dsimp only at hf
  split at hf
  · next x r =>
    rcases zsw_s (x := x) (dflt := dflt) (κ := fun t => κ (t, lo, r, mem)) ks with ⟨q, h1, h2, h3⟩ | ⟨h1, h2⟩
    · rw [h3] at hf
      refine ⟨(q.2, lo, r, mem), hf, zle.rf, ?_⟩
      intro n0 sl0 p e R s m args below meth c hC _ _ Q hW H locs ls g1 g2 hP hS hl
      exact h X d n0 p e R s m args below meth c hC x _ H locs _ _ Q ls q.2 (Or.inl ⟨q, h1, h2, rfl⟩) (hW H locs ls g1 g2 hP hS hl)
    · rw [h2] at hf
      refine ⟨(dflt, lo, r, mem), hf, zle.rf, ?_⟩
      intro n0 sl0 p e R s m args below meth c hC _ _ Q hW H locs ls g1 g2 hP hS hl
      exact h X d n0 p e R s m args below meth c hC x _ H locs _ _ Q ls dflt (Or.inr ⟨h1, rfl⟩) (hW H locs ls g1 g2 hP hS hl)
  · cases hf
/-- a tableswitch, its keys lo .. hi one after the other -/
theorem ok_tsw {ks : List (Int32 × Nat)} {dflt : Nat} {df lo hi : Int} {offs : Array Int} {len : Nat} (hd : decode i.2.1 pc = .ok (.tableswitch df lo hi offs, len)) (ht : (pc : Int) + df = (dflt : Int))
    (h1 : ks.all (fun q => decide (lo ≤ q.1.toInt) && decide (q.1.toInt ≤ hi) && decide ((offs[(q.1.toInt - lo).toNat]?).map (fun o => (pc : Int) + o) = some (q.2 : Int))) = true) (h2 : ks.map (fun q => q.1.toInt) = (List.range ks.length).map (fun (k : Nat) => lo + (k : Int))) (h3 : lo + (ks.length : Int) = hi + 1) : zOk g i pc (zts ks dflt) := zOk_sw fun X d n0 p e R s m args below meth c hC x r H locs cells slots Q ls t hor k => by
  rcases hor with ⟨q, hq, hx, rfl⟩ | ⟨hn, rfl⟩
  · have hq1 := List.all_eq_true.mp h1 q hq
    simp only [Bool.and_eq_true, decide_eq_true_eq] at hq1
    obtain ⟨⟨a1, a2⟩, a3⟩ := hq1
    obtain ⟨o, b1, b2⟩ := Option.map_eq_some_iff.mp a3
    exact lv_tableIn hC.1 hC.2.1 hd (by rw [hx]; omega) (by rw [hx]; omega) (by rw [hx]; exact b1) b2 k
  · refine lv_tableOut hC.1 hC.2.1 hd ?_ ht k
    apply Classical.byContradiction
    intro hc
    have c1 : lo ≤ x.toInt := by omega
    have c2 : x.toInt ≤ hi := by omega
    have hk : (x.toInt - lo).toNat < ks.length := by omega
    have hm : (x.toInt - lo).toNat ∈ List.range ks.length := List.mem_range.mpr hk
    have hm2 : lo + (((x.toInt - lo).toNat : Nat) : Int) ∈ ks.map (fun q => q.1.toInt) := by
      rw [h2]
      exact List.mem_map.mpr ⟨_, hm, rfl⟩
    obtain ⟨q, hq, he⟩ := List.mem_map.mp hm2
    exact hn q hq (Int32.toInt_inj.mp (by rw [he]; omega))
theorem z_osw {pc : Nat} {d : Int} {x : Int32} : ∀ (ks : List (Int32 × Nat)) (ps : List (Int × Int)), ks.map (fun q => (q.1.toInt, (q.2 : Int))) = ps.map (fun z => (z.1, (pc : Int) + z.2)) → List.Pairwise (fun a b : Int32 × Nat => ¬ a.1 = b.1) ks → ∀ q ∈ ks, x = q.1 → (pc : Int) + Op.lookupswitch.offset ps d x.toInt = (q.2 : Int) := by
  intro ks
  induction ks with
  | nil => intro ps _ _ q hq; simp at hq
  | cons a r ih =>
    intro ps he hp q hq hx
    cases ps with
    | nil => simp at he
    | cons b ps =>
      simp only [List.map_cons, List.cons.injEq, Prod.mk.injEq] at he
      obtain ⟨⟨e1, e2⟩, e3⟩ := he
      obtain ⟨p1, p2⟩ := List.pairwise_cons.mp hp
      rw [show b = (b.1, b.2) from rfl, Op.lookupswitch.offset_cons]
      rcases List.mem_cons.mp hq with rfl | hq
      · rw [if_pos (by rw [hx, e1])]
        omega
      · rw [if_neg (fun z => p1 q hq (Int32.toInt_inj.mp (by rw [e1, ← hx]; exact z)))]
        exact ih ps e3 p2 q hq hx
theorem z_osn {pc : Nat} {d : Int} {x : Int32} : ∀ (ks : List (Int32 × Nat)) (ps : List (Int × Int)), ks.map (fun q => (q.1.toInt, (q.2 : Int))) = ps.map (fun z => (z.1, (pc : Int) + z.2)) → (∀ q ∈ ks, ¬ x = q.1) → Op.lookupswitch.offset ps d x.toInt = d := by
  intro ks
  induction ks with
  | nil =>
    intro ps he _
    cases ps with
    | nil => rfl
    | cons b ps => simp at he
  | cons a r ih =>
    intro ps he hn
    cases ps with
    | nil => simp at he
    | cons b ps =>
      simp only [List.map_cons, List.cons.injEq, Prod.mk.injEq] at he
      obtain ⟨⟨e1, e2⟩, e3⟩ := he
      rw [show b = (b.1, b.2) from rfl, Op.lookupswitch.offset_cons, if_neg (fun z => hn a List.mem_cons_self (Int32.toInt_inj.mp (by rw [e1]; exact z.symm)))]
      exact ih ps e3 (fun q hq => hn q (List.mem_cons_of_mem _ hq))
theorem ok_lsw {ks : List (Int32 × Nat)} {dflt : Nat} {df : Int} {ps : Array (Int × Int)} {len : Nat} (hd : decode i.2.1 pc = .ok (.lookupswitch df ps, len)) (ht : (pc : Int) + df = (dflt : Int)) (h0 : (ps.toList.zip (ps.toList.drop 1)).all (fun (a, next) => a.1 < next.1) = true)
    (h1 : ks.map (fun q => (q.1.toInt, (q.2 : Int))) = ps.toList.map (fun z => (z.1, (pc : Int) + z.2))) (h2 : List.Pairwise (fun a b : Int32 × Nat => ¬ a.1 = b.1) ks) : zOk g i pc (zts ks dflt) := zOk_sw fun X d n0 p e R s m args below meth c hC x r H locs cells slots Q ls t hor k => by
  rcases hor with ⟨q, hq, hx, rfl⟩ | ⟨hn, rfl⟩
  · exact lv_lookup hC.1 hC.2.1 hd h0 rfl (z_osw ks ps.toList h1 h2 q hq hx) k
  · exact lv_lookup hC.1 hC.2.1 hd h0 rfl (by rw [z_osn ks ps.toList h1 hn]; exact ht) k
/-! locals -/
def zli4 (k : Nat) (len : Nat) : zF := fun _ _ st κ _ => match st with
  | (pc, lo, sk, mem) => match zlg lo k with
  | some (.int x) => κ (pc + len, lo, .int x :: sk, mem)
  | _ => none
def zll4 (k : Nat) (len : Nat) : zF := fun _ _ st κ _ => match st with
  | (pc, lo, sk, mem) => match zlg lo k with
  | some (.long x) => κ (pc + len, lo, .long x :: sk, mem)
  | _ => none
def zla4 (k : Nat) (len : Nat) : zF := fun _ _ st κ _ => match st with
  | (pc, lo, sk, mem) => match zlg lo k with
  | some (.ref x) => κ (pc + len, lo, .ref x :: sk, mem)
  | _ => none
theorem ok_iload_n {k : Fin 4} {j : Nat} (hd : decode i.2.1 pc = .ok (.iload_n k, 1)) (hj : (k : Nat) = j) : zOk g i pc (zli4 j 1) := by
  intro X hE d Y rec hrec lo sk mem κ ρ y hf
  left
  unfold zli4 at hf
  dsimp only at hf
  split at hf
  · next x hg =>
    refine ⟨(pc + 1, lo, .int x :: sk, mem), hf, zle.rf, ?_⟩
    intro n0 sl0 p e R s m args below meth c hC _ _ Q hW H locs ls h1 h2 hP hS hl
    exact lv_iload_n hC.1 hC.2.1 hd hj (zlm_at hl hg) (hW H locs ls h1 h2 hP hS hl)
  · cases hf
theorem ok_iload {j : Nat} (hd : decode i.2.1 pc = .ok (.iload j, 2)) : zOk g i pc (zli4 j 2) := by
  intro X hE d Y rec hrec lo sk mem κ ρ y hf
  left
  unfold zli4 at hf
  dsimp only at hf
  split at hf
  · next x hg =>
    refine ⟨(pc + 2, lo, .int x :: sk, mem), hf, zle.rf, ?_⟩
    intro n0 sl0 p e R s m args below meth c hC _ _ Q hW H locs ls h1 h2 hP hS hl
    exact lv_iload hC.1 hC.2.1 hd (zlm_at hl hg) (hW H locs ls h1 h2 hP hS hl)
  · cases hf
theorem ok_lload_n {k : Fin 4} {j : Nat} (hd : decode i.2.1 pc = .ok (.lload_n k, 1)) (hj : (k : Nat) = j) : zOk g i pc (zll4 j 1) := by
  intro X hE d Y rec hrec lo sk mem κ ρ y hf
  left
  unfold zll4 at hf
  dsimp only at hf
  split at hf
  · next x hg =>
    refine ⟨(pc + 1, lo, .long x :: sk, mem), hf, zle.rf, ?_⟩
    intro n0 sl0 p e R s m args below meth c hC _ _ Q hW H locs ls h1 h2 hP hS hl
    exact lv_lload_n hC.1 hC.2.1 hd hj (zlm_at hl hg) (hW H locs ls h1 h2 hP hS hl)
  · cases hf
theorem ok_lload {j : Nat} (hd : decode i.2.1 pc = .ok (.lload j, 2)) : zOk g i pc (zll4 j 2) := by
  intro X hE d Y rec hrec lo sk mem κ ρ y hf
  left
  unfold zll4 at hf
  dsimp only at hf
  split at hf
  · next x hg =>
    refine ⟨(pc + 2, lo, .long x :: sk, mem), hf, zle.rf, ?_⟩
    intro n0 sl0 p e R s m args below meth c hC _ _ Q hW H locs ls h1 h2 hP hS hl
    exact lv_lload hC.1 hC.2.1 hd (zlm_at hl hg) (hW H locs ls h1 h2 hP hS hl)
  · cases hf
theorem ok_aload_n {k : Fin 4} {j : Nat} (hd : decode i.2.1 pc = .ok (.aload_n k, 1)) (hj : (k : Nat) = j) : zOk g i pc (zla4 j 1) := by
  intro X hE d Y rec hrec lo sk mem κ ρ y hf
  left
  unfold zla4 at hf
  dsimp only at hf
  split at hf
  · next x hg =>
    refine ⟨(pc + 1, lo, .ref x :: sk, mem), hf, zle.rf, ?_⟩
    intro n0 sl0 p e R s m args below meth c hC _ _ Q hW H locs ls h1 h2 hP hS hl
    exact lv_aload_n hC.1 hC.2.1 hd hj (zlm_at hl hg) (hW H locs ls h1 h2 hP hS hl)
  · cases hf
theorem ok_aload {j : Nat} (hd : decode i.2.1 pc = .ok (.aload j, 2)) : zOk g i pc (zla4 j 2) := by
  intro X hE d Y rec hrec lo sk mem κ ρ y hf
  left
  unfold zla4 at hf
  dsimp only at hf
  split at hf
  · next x hg =>
    refine ⟨(pc + 2, lo, .ref x :: sk, mem), hf, zle.rf, ?_⟩
    intro n0 sl0 p e R s m args below meth c hC _ _ Q hW H locs ls h1 h2 hP hS hl
    exact lv_aload hC.1 hC.2.1 hd (zlm_at hl hg) (hW H locs ls h1 h2 hP hS hl)
  · cases hf
noncomputable def zsi4 (nL k : Nat) (len : Nat) : zF := fun _ _ st κ _ => match st with
  | (pc, lo, sk, mem) => match sk with
  | .int x :: r => Bool.rec none (κ (pc + len, zl1 lo k (.int x), r, mem)) (Nat.ble (k + 1) nL)
  | _ => none
theorem ok_istore_n {k : Fin 4} {j : Nat} (hd : decode i.2.1 pc = .ok (.istore_n k, 1)) (hj : (k : Nat) = j) : zOk g i pc (zsi4 i.2.2.1 j 1) := by
  intro X hE d Y rec hrec lo sk mem κ ρ y hf
  left
  unfold zsi4 at hf
  dsimp only at hf
  split at hf
  · next x r =>
    cases hb : Nat.ble (j + 1) i.2.2.1 with
    | false => rw [hb] at hf; cases hf
    | true =>
      rw [hb] at hf
      refine ⟨(pc + 1, zl1 lo j (.int x), r, mem), hf, zle.rf, ?_⟩
      intro n0 sl0 p e R s m args below meth c hC _ _ Q hW H locs ls h1 h2 hP hS hl
      exact lv_istore_n hC.1 hC.2.1 hd hj hl (by have := Nat.le_of_ble_eq_true hb; omega) (zl1_m (zH X) (zx X) lo j (.int x)) (fun ls' hl' => hW H locs ls' h1 h2 hP hS hl')
  · cases hf
theorem ok_istore {j : Nat} (hd : decode i.2.1 pc = .ok (.istore j, 2)) : zOk g i pc (zsi4 i.2.2.1 j 2) := by
  intro X hE d Y rec hrec lo sk mem κ ρ y hf
  left
  unfold zsi4 at hf
  dsimp only at hf
  split at hf
  · next x r =>
    cases hb : Nat.ble (j + 1) i.2.2.1 with
    | false => rw [hb] at hf; cases hf
    | true =>
      rw [hb] at hf
      refine ⟨(pc + 2, zl1 lo j (.int x), r, mem), hf, zle.rf, ?_⟩
      intro n0 sl0 p e R s m args below meth c hC _ _ Q hW H locs ls h1 h2 hP hS hl
      exact lv_istore hC.1 hC.2.1 hd hl (by have := Nat.le_of_ble_eq_true hb; omega) (zl1_m (zH X) (zx X) lo j (.int x)) (fun ls' hl' => hW H locs ls' h1 h2 hP hS hl')
  · cases hf
noncomputable def zsl4 (nL k : Nat) (len : Nat) : zF := fun _ _ st κ _ => match st with
  | (pc, lo, sk, mem) => match sk with
  | .long x :: r => Bool.rec none (κ (pc + len, zl2 lo k (.long x), r, mem)) (Nat.ble (k + 2) nL)
  | _ => none
theorem ok_lstore_n {k : Fin 4} {j : Nat} (hd : decode i.2.1 pc = .ok (.lstore_n k, 1)) (hj : (k : Nat) = j) : zOk g i pc (zsl4 i.2.2.1 j 1) := by
  intro X hE d Y rec hrec lo sk mem κ ρ y hf
  left
  unfold zsl4 at hf
  dsimp only at hf
  split at hf
  · next x r =>
    cases hb : Nat.ble (j + 2) i.2.2.1 with
    | false => rw [hb] at hf; cases hf
    | true =>
      rw [hb] at hf
      refine ⟨(pc + 1, zl2 lo j (.long x), r, mem), hf, zle.rf, ?_⟩
      intro n0 sl0 p e R s m args below meth c hC _ _ Q hW H locs ls h1 h2 hP hS hl
      exact lv_lstore_n hC.1 hC.2.1 hd hj hl (by have := Nat.le_of_ble_eq_true hb; omega) (zl2_m (zH X) (zx X) lo j (.long x)) (fun ls' hl' => hW H locs ls' h1 h2 hP hS hl')
  · cases hf
theorem ok_lstore {j : Nat} (hd : decode i.2.1 pc = .ok (.lstore j, 2)) : zOk g i pc (zsl4 i.2.2.1 j 2) := by
  intro X hE d Y rec hrec lo sk mem κ ρ y hf
  left
  unfold zsl4 at hf
  dsimp only at hf
  split at hf
  · next x r =>
    cases hb : Nat.ble (j + 2) i.2.2.1 with
    | false => rw [hb] at hf; cases hf
    | true =>
      rw [hb] at hf
      refine ⟨(pc + 2, zl2 lo j (.long x), r, mem), hf, zle.rf, ?_⟩
      intro n0 sl0 p e R s m args below meth c hC _ _ Q hW H locs ls h1 h2 hP hS hl
      exact lv_lstore hC.1 hC.2.1 hd hl (by have := Nat.le_of_ble_eq_true hb; omega) (zl2_m (zH X) (zx X) lo j (.long x)) (fun ls' hl' => hW H locs ls' h1 h2 hP hS hl')
  · cases hf
noncomputable def zsa4 (nL k : Nat) (len : Nat) : zF := fun _ _ st κ _ => match st with
  | (pc, lo, sk, mem) => match sk with
  | .ref x :: r => Bool.rec none (κ (pc + len, zl1 lo k (.ref x), r, mem)) (Nat.ble (k + 1) nL)
  | _ => none
theorem ok_astore_n {k : Fin 4} {j : Nat} (hd : decode i.2.1 pc = .ok (.astore_n k, 1)) (hj : (k : Nat) = j) : zOk g i pc (zsa4 i.2.2.1 j 1) := by
  intro X hE d Y rec hrec lo sk mem κ ρ y hf
  left
  unfold zsa4 at hf
  dsimp only at hf
  split at hf
  · next x r =>
    cases hb : Nat.ble (j + 1) i.2.2.1 with
    | false => rw [hb] at hf; cases hf
    | true =>
      rw [hb] at hf
      refine ⟨(pc + 1, zl1 lo j (.ref x), r, mem), hf, zle.rf, ?_⟩
      intro n0 sl0 p e R s m args below meth c hC _ _ Q hW H locs ls h1 h2 hP hS hl
      exact lv_astore_n hC.1 hC.2.1 hd hj hl (by have := Nat.le_of_ble_eq_true hb; omega) (zl1_m (zH X) (zx X) lo j (.ref x)) (fun ls' hl' => hW H locs ls' h1 h2 hP hS hl')
  · cases hf
theorem ok_astore {j : Nat} (hd : decode i.2.1 pc = .ok (.astore j, 2)) : zOk g i pc (zsa4 i.2.2.1 j 2) := by
  intro X hE d Y rec hrec lo sk mem κ ρ y hf
  left
  unfold zsa4 at hf
  dsimp only at hf
  split at hf
  · next x r =>
    cases hb : Nat.ble (j + 1) i.2.2.1 with
    | false => rw [hb] at hf; cases hf
    | true =>
      rw [hb] at hf
      refine ⟨(pc + 2, zl1 lo j (.ref x), r, mem), hf, zle.rf, ?_⟩
      intro n0 sl0 p e R s m args below meth c hC _ _ Q hW H locs ls h1 h2 hP hS hl
      exact lv_astore hC.1 hC.2.1 hd hl (by have := Nat.le_of_ble_eq_true hb; omega) (zl1_m (zH X) (zx X) lo j (.ref x)) (fun ls' hl' => hW H locs ls' h1 h2 hP hS hl')
  · cases hf
noncomputable def zin4 (nL k : Nat) (n : Int32) : zF := fun _ _ st κ _ => match st with
  | (pc, lo, sk, mem) => match zlg lo k with
  | some (.int x) => Bool.rec none (κ (pc + 3, zl1 lo k (.int (x + n)), sk, mem)) (Nat.ble (k + 1) nL)
  | _ => none
theorem ok_iinc {j : Nat} {n : Int} {v : Int32} (hd : decode i.2.1 pc = .ok (.iinc j n, 3)) (hv : Int32.ofInt n = v) : zOk g i pc (zin4 i.2.2.1 j v) := by
  intro X hE d Y rec hrec lo sk mem κ ρ y hf
  left
  subst hv
  unfold zin4 at hf
  dsimp only at hf
  split at hf
  · next x hg =>
    cases hb : Nat.ble (j + 1) i.2.2.1 with
    | false => rw [hb] at hf; cases hf
    | true =>
      rw [hb] at hf
      refine ⟨(pc + 3, zl1 lo j (.int (x + Int32.ofInt n)), sk, mem), hf, zle.rf, ?_⟩
      intro n0 sl0 p e R s m args below meth c hC _ _ Q hW H locs ls h1 h2 hP hS hl
      obtain ⟨k, hk⟩ := List.getElem?_of_mem (List.mem_map.mpr ⟨(j, Value.int x), zlg_mem lo hg, rfl⟩ : (j, Value.int x) ∈ zlm (zH X) (zx X) lo)
      exact lv_iinc hC.1 hC.2.1 hd hl hk rfl (by have := Nat.le_of_ble_eq_true hb; omega) (zl1_m (zH X) (zx X) lo j (.int (x + Int32.ofInt n))) (fun ls' hl' => hW H locs ls' h1 h2 hP hS hl')
  · cases hf
/-! the size of the heap, by the count of new cells -/
theorem z_size {p : Program} {l : Launch} {e : Env} {R : Room} {s : State} {m : MethodId} {args : Array Value} {below : List Frame} {meth : Method} {c : Code} {H : Heap} {locs : List Loc} {cells slots : Nat} {Q : State → Prop} {f : JFrame} (k : H.size ≤ s.heap.size + cells → W p l e R s m args below meth c H locs cells slots Q f) : W p l e R s m args below meth c H locs cells slots Q f :=
  fun T hT X => k (by rw [← hT]; exact X.heapSize) T hT X
theorem z_ge {X : zX} {cl : List vw_C} {mem : zM} {H H0 : Heap} {n0 : Nat} {locs : List Loc} (hP : va_P (zD X) cl (zWs X mem) H) (hS : va_S (fun q => zH X ≤ q) H0 H locs) (h0 : H0.size = zH X + n0) (h1 : n0 ≤ mem.length) : zH X + mem.length ≤ H.size := by
  have hz := hS.1
  rcases Nat.eq_zero_or_pos mem.length with h | h
  · omega
  · obtain ⟨c, hc⟩ : ∃ c, mem[mem.length - 1]? = some c := ⟨_, List.getElem?_eq_getElem (by omega)⟩
    have := (hP _ _ (zws_at (h0 := zH X) (x0 := zx X) (kA := zK X) hc)).lt
    simp only at this
    omega
/-! fields -/
def zgf (ci k : Nat) : zF := fun _ _ st κ _ => match st with
  | (pc, lo, sk, mem) => match sk with
  | .ref a :: r => match zat mem a with
    | some (.inr o) => match o.2[k]? with
      | some v => bif Nat.beq o.1 ci then κ (pc + 3, lo, v :: r, mem) else none
      | none => none
    | _ => none
  | _ => none
theorem ok_getf {ci k N n : Nat} {ref C : String} {T : u_T} (hc : (zCl g)[ci]? = some (C, T, N)) (hk : k < N) (hin : ∀ w ∈ u_ws C T N, w ∈ zTb g) (hr : ref = (T k).1) (hw : Cond.fieldLink i.1.cls n ref (T k).2.1 (T k).2.2.1 ∈ zTb g) (hd : decode i.2.1 pc = .ok (.getfield n, 3)) : zOk g i pc (zgf ci k) := by
  intro X hE d Y rec hrec lo sk mem κ ρ y hf
  left
  unfold zgf at hf
  dsimp only at hf
  split at hf
  · next a r =>
    split at hf
    · next o ho =>
      split at hf
      · next v hv =>
        cases hb : Nat.beq o.1 ci with
        | false => rw [hb] at hf; cases hf
        | true =>
          rw [hb] at hf
          have hci := Nat.eq_of_beq_eq_true hb
          refine ⟨(pc + 3, lo, v :: r, mem), hf, zle.rf, ?_⟩
          intro n0 sl0 p e R s m args below meth c hC _ _ Q hW H locs ls h1 h2 hP hS hl
          rw [zat_eq] at ho
          have he : (zWs X mem)[a]? = some (zH X + a, .inr (ci, o.2.map (zU X))) := by rw [zws_at ho, ← hci]; rfl
          exact va_get hC.1 hC.2.1 hC.2.2.2.2.1 hin hC.2.2.2.1 hC.2.2.2.2.2.1 hP a he hc k hk (hC.2.2.2.2.1 _ hw) (fun x h => by rw [hr]; exact h) (v := zU X v) (by rw [List.getElem?_map, hv]; rfl) hd (hW H locs ls h1 h2 hP hS hl)
      · cases hf
    · cases hf
  · cases hf
/-- what may stand in a field of a type -/
def zfit (ty : FieldType) (v : Value) : Bool := match ty, v with
  | .int, .int _ => true
  | .long, .long _ => true
  | .boolean, .int x => Bool.or (decide (x = 0)) (decide (x = 1))
  | .object _, .ref _ => true
  | .array _, .ref _ => true
  | _, _ => false
theorem zfit_s {X : zX} {ty : FieldType} {v : Value} (h : zfit ty v = true) : narrow ty (zU X v) = zU X v ∧ fits ty (zU X v) = true := by
  cases ty <;> cases v <;> first | (exact absurd h (by decide)) | (cases h; done) | (exact ⟨rfl, rfl⟩) | skip
  next x =>
    simp only [zfit, Bool.or_eq_true, decide_eq_true_eq] at h
    rcases h with h | h <;> subst h <;> exact ⟨rfl, rfl⟩
noncomputable def zpf (ci k : Nat) (ty : FieldType) : zF := fun _ _ st κ _ => match st with
  | (pc, lo, sk, mem) => match sk with
  | v :: .ref a :: r => match zat mem a with
    | some (.inr o) => Bool.rec none (κ (pc + 3, lo, r, mem.set a (.inr (o.1, o.2.set k v)))) (Bool.and (Nat.beq o.1 ci) (Bool.and (Nat.ble (k + 1) o.2.length) (zfit ty v)))
    | _ => none
  | _ => none
theorem zpf_s {X : zX} {mem : zM} {a k : Nat} {o : Nat × List Value} {v : Value} : (zWs X mem).set a (zH X + a, .inr (o.1, (o.2.map (zU X)).set k (zU X v))) = zWs X (mem.set a (.inr (o.1, o.2.set k v))) := by
  show _ = zws (zH X) (zx X) (zK X) 0 (mem.set a (.inr (o.1, o.2.set k v)))
  rw [zws_set]
  have e1 : zue (zH X) (zx X) (zK X) (.inr (o.1, o.2.set k v)) = .inr (o.1, (o.2.map (zU X)).set k (zU X v)) := by
    show Sum.inr (o.1, (o.2.set k v).map (zU X)) = _
    rw [List.map_set]
  rw [e1]
  simp
theorem ok_putf {ci k N n : Nat} {ref C : String} {T : u_T} {ty : FieldType} (fin : Bool) (ty0 : Nat → FieldType) (hty : ∀ k, k < N → parseFieldDescriptor (T k).2.2.1 = some (ty0 k)) (hnm : ∀ a, a < N → ∀ b, b < N → a ≠ b → (T a).2.1 ≠ (T b).2.1) (hc : (zCl g)[ci]? = some (C, T, N)) (hk : k < N) (hin : ∀ w ∈ u_ws C T N, w ∈ zTb g) (hr : ref = (T k).1) (hw : Cond.fieldLink i.1.cls n ref (T k).2.1 (T k).2.2.1 ∈ zTb g) (hfin : (T k).2.2.2 = fin) (hfi : fin = true → i.1.name = "<init>" ∧ (T k).1 = i.1.cls) (hd0 : ty0 k = ty) (hd : decode i.2.1 pc = .ok (.putfield n, 3)) : zOk g i pc (zpf ci k ty) := by
  intro X hE d Y rec hrec lo sk mem κ ρ y hf
  left
  unfold zpf at hf
  dsimp only at hf
  split at hf
  · next v a r =>
    split at hf
    · next o ho =>
      cases hb : Bool.and (Nat.beq o.1 ci) (Bool.and (Nat.ble (k + 1) o.2.length) (zfit ty v)) with
      | false => rw [hb] at hf; cases hf
      | true =>
        rw [hb] at hf
        obtain ⟨b1, b2⟩ := (Bool.and_eq_true _ _).mp hb
        obtain ⟨b2, b3⟩ := (Bool.and_eq_true _ _).mp b2
        have hci := Nat.eq_of_beq_eq_true b1
        have hlen := Nat.le_of_ble_eq_true b2
        have hft := zfit_s (X := X) b3
        rw [zat_eq] at ho
        refine ⟨(pc + 3, lo, r, mem.set a (.inr (o.1, o.2.set k v))), hf, zle.set ho (by simp [zsz]), ?_⟩
        intro n0 sl0 p e R s m args below meth c hC _ _ Q hW H locs ls h1 h2 hP hS hl
        have hsl : zsl (mem.set a (.inr (o.1, o.2.set k v))) = zsl mem := zsl_set (by simp [zsz]) mem a ho
        have hle : (mem.set a (.inr (o.1, o.2.set k v))).length = mem.length := by simp
        have he : (zWs X mem)[a]? = some (zH X + a, .inr (ci, o.2.map (zU X))) := by rw [zws_at ho, ← hci]; rfl
        have hpd : parseFieldDescriptor (T k).2.2.1 = some ty := by rw [hty k hk, hd0]
        have hW2 : ∀ (H1 : Heap) (locs1 : List Loc), va_P (zD X) (zCl g) ((zWs X mem).set a (zH X + a, .inr (ci, (o.2.map (zU X)).set k (zU X v)))) H1 → va_S (fun q => zH X ≤ q) s.heap H1 locs1 → W p (zL X) e R s m args below meth c H1 locs1 (mem.length - n0) (zsl mem - sl0) Q (F0 m (pc + 3) ls (r.map (zU X))) := by
          intro H1 locs1 q1 q2
          rw [← hci, zpf_s] at q1
          have := hW H1 locs1 ls (by show n0 ≤ (mem.set a (.inr (o.1, o.2.set k v))).length; rw [hle]; exact h1) (by show sl0 ≤ zsl (mem.set a (.inr (o.1, o.2.set k v))); rw [hsl]; exact h2) q1 q2 hl
          simp only [hle, hsl] at this
          exact this
        cases hff : fin with
        | false =>
          rw [hff] at hfin
          exact va_put hC.1 hC.2.1 hC.2.2.2.2.1 hin ty0 hty hnm hC.2.2.2.1 hC.2.2.2.2.2.1 hP (zws_D _ _ _ _) hS a he hc k hk (hC.2.2.2.2.1 _ hw) (fun x h => by rw [hr]; exact h) hfin hpd hft.1 hft.2 (by simp; omega) hd (fun H1 locs1 q1 _ q2 => hW2 H1 locs1 q1 q2)
        | true =>
          rw [hff] at hfin
          obtain ⟨hi1, hi2⟩ := hfi hff
          exact va_putF hC.1 hC.2.1 hC.2.2.2.2.1 hin ty0 hty hnm hC.2.2.2.1 hC.2.2.2.2.2.1 hP (zws_D _ _ _ _) hS a he hc k hk (hC.2.2.2.2.1 _ hw) (fun x h => by rw [hr]; exact h) hfin (hC.2.2.2.2.2.2.2.2.2.2.1 hi1) hi2 hpd hft.1 hft.2 (by simp; omega) hd (fun H1 locs1 q1 _ q2 => hW2 H1 locs1 q1 q2)
    · cases hf
  · cases hf
/-! arrays -/
noncomputable def zix (x : Int32) (n : Nat) : Bool := Bool.and (!decide (x < 0)) (Nat.ble (x.toNatClampNeg + 1) n)
theorem zix_s {x : Int32} {n : Nat} (h : zix x n = true) : vp_in x n := by
  obtain ⟨h1, h2⟩ := (Bool.and_eq_true _ _).mp h
  have h2 := Nat.le_of_ble_eq_true h2
  simp only [Bool.not_eq_true', decide_eq_false_iff_not] at h1
  rintro (q | q)
  · exact h1 q
  · omega
def zlt {α : Type} : List α → Nat → Bool
  | [], _ => false
  | _ :: _, 0 => true
  | _ :: r, k + 1 => zlt r k
theorem zlt_s {α : Type} : ∀ (l : List α) (k : Nat), zlt l k = true → k < l.length := by
  intro l
  induction l with
  | nil => intro k h; cases h
  | cons a r ih =>
    intro k h
    cases k with
    | zero => simp
    | succ k =>
      have := ih k h
      simp only [List.length_cons]
      omega
noncomputable def zixl {α : Type} (x : Int32) (l : List α) : Bool := Bool.and (!decide (x < 0)) (zlt l x.toNatClampNeg)
theorem zixl_s {α : Type} {x : Int32} {l : List α} (h : zixl x l = true) : vp_in x l.length := by
  obtain ⟨h1, h2⟩ := (Bool.and_eq_true _ _).mp h
  have h2 := zlt_s _ _ h2
  simp only [Bool.not_eq_true', decide_eq_false_iff_not] at h1
  rintro (q | q)
  · exact h1 q
  · omega
theorem zwa_i {X : zX} {mem : zM} {a t : Nat} {l : List Int32} (ho : mem[a]? = some (.inl (t, .inl l))) : (zWs X mem)[a]? = some (zH X + a, .inl (zK X t, l.length, .inl (fun j => l.getD j 0))) := zws_at ho
theorem zwa_l {X : zX} {mem : zM} {a t : Nat} {l : List Int64} (ho : mem[a]? = some (.inl (t, .inr (.inl l)))) : (zWs X mem)[a]? = some (zH X + a, .inl (zK X t, l.length, .inr (.inl (fun j => l.getD j 0)))) := zws_at ho
theorem zwa_q {X : zX} {mem : zM} {a t : Nat} {l : List (Option Nat)} (ho : mem[a]? = some (.inl (t, .inr (.inr l)))) : (zWs X mem)[a]? = some (zH X + a, .inl (zK X t, l.length, .inr (.inr (.inr (.inr (fun j => (l.getD j none).map (fun k => zH X + k))))))) := zws_at ho
theorem zix_lt {x : Int32} {n : Nat} (h : vp_in x n) : x.toNatClampNeg < n := Nat.not_le.mp fun q => h (Or.inr q)
/-- an array of ints (booleans: kind t) read -/
noncomputable def zal (t : Nat) : zF := fun _ _ st κ _ => match st with
  | (pc, lo, sk, mem) => match sk with
  | .int x :: .ref a :: r => match zat mem a with
    | some (.inl (t', .inl f)) => Bool.rec none (κ (pc + 1, lo, .int (f.getD x.toNatClampNeg 0) :: r, mem)) (Bool.and (Nat.beq t' t) (zixl x f))
    | _ => none
  | _ => none
noncomputable def zll (t : Nat) : zF := fun _ _ st κ _ => match st with
  | (pc, lo, sk, mem) => match sk with
  | .int x :: .ref a :: r => match zat mem a with
    | some (.inl (t', .inr (.inl f))) => Bool.rec none (κ (pc + 1, lo, .long (f.getD x.toNatClampNeg 0) :: r, mem)) (Bool.and (Nat.beq t' t) (zixl x f))
    | _ => none
  | _ => none
noncomputable def zaq (t : Nat) : zF := fun _ _ st κ _ => match st with
  | (pc, lo, sk, mem) => match sk with
  | .int x :: .ref a :: r => match zat mem a with
    | some (.inl (t', .inr (.inr f))) => Bool.rec none (match f.getD x.toNatClampNeg none with
      | some q => κ (pc + 1, lo, .ref q :: r, mem)
      | none => none) (Bool.and (Nat.beq t' t) (zixl x f))
    | _ => none
  | _ => none
theorem ok_iaload {t : Nat} (ht : (zTl g)[t]? = some .int) (hd : decode i.2.1 pc = .ok (.iaload, 1)) : zOk g i pc (zal t) := by
  intro X hE d Y rec hrec lo sk mem κ ρ y hf
  left
  unfold zal at hf
  dsimp only at hf
  split at hf
  · next x a r =>
    split at hf
    · next t' f ho =>
      cases hb : Bool.and (Nat.beq t' t) (zixl x f) with
      | false => rw [hb] at hf; cases hf
      | true =>
        rw [hb] at hf
        obtain ⟨b1, b2⟩ := (Bool.and_eq_true _ _).mp hb
        have hci := Nat.eq_of_beq_eq_true b1
        subst hci
        refine ⟨(pc + 1, lo, .int (f.getD x.toNatClampNeg 0) :: r, mem), hf, zle.rf, ?_⟩
        intro n0 sl0 p e R s m args below meth c hC _ _ Q hW H locs ls h1 h2 hP hS hl
        rw [zat_eq] at ho
        exact va_iald hC.1 hC.2.1 hC.2.2.2.2.2.1 hP a t' (zwa_i ho) (zTy_at ht) (zixl_s b2) hd (hW H locs ls h1 h2 hP hS hl)
    · cases hf
  · cases hf
theorem ok_zaload {t : Nat} (ht : (zTl g)[t]? = some .boolean) (hd : decode i.2.1 pc = .ok (.baload, 1)) : zOk g i pc (zal t) := by
  intro X hE d Y rec hrec lo sk mem κ ρ y hf
  left
  unfold zal at hf
  dsimp only at hf
  split at hf
  · next x a r =>
    split at hf
    · next t' f ho =>
      cases hb : Bool.and (Nat.beq t' t) (zixl x f) with
      | false => rw [hb] at hf; cases hf
      | true =>
        rw [hb] at hf
        obtain ⟨b1, b2⟩ := (Bool.and_eq_true _ _).mp hb
        have hci := Nat.eq_of_beq_eq_true b1
        subst hci
        refine ⟨(pc + 1, lo, .int (f.getD x.toNatClampNeg 0) :: r, mem), hf, zle.rf, ?_⟩
        intro n0 sl0 p e R s m args below meth c hC _ _ Q hW H locs ls h1 h2 hP hS hl
        rw [zat_eq] at ho
        exact va_zald hC.1 hC.2.1 hC.2.2.2.2.2.1 hP a t' (zwa_i ho) (zTy_at ht) (zixl_s b2) hd (hW H locs ls h1 h2 hP hS hl)
    · cases hf
  · cases hf
theorem ok_laload {t : Nat} (ht : (zTl g)[t]? = some .long) (hd : decode i.2.1 pc = .ok (.laload, 1)) : zOk g i pc (zll t) := by
  intro X hE d Y rec hrec lo sk mem κ ρ y hf
  left
  unfold zll at hf
  dsimp only at hf
  split at hf
  · next x a r =>
    split at hf
    · next t' f ho =>
      cases hb : Bool.and (Nat.beq t' t) (zixl x f) with
      | false => rw [hb] at hf; cases hf
      | true =>
        rw [hb] at hf
        obtain ⟨b1, b2⟩ := (Bool.and_eq_true _ _).mp hb
        have hci := Nat.eq_of_beq_eq_true b1
        subst hci
        refine ⟨(pc + 1, lo, .long (f.getD x.toNatClampNeg 0) :: r, mem), hf, zle.rf, ?_⟩
        intro n0 sl0 p e R s m args below meth c hC _ _ Q hW H locs ls h1 h2 hP hS hl
        rw [zat_eq] at ho
        exact va_lald hC.1 hC.2.1 hC.2.2.2.2.2.1 hP a t' (zwa_l ho) (zTy_at ht) (zixl_s b2) hd (hW H locs ls h1 h2 hP hS hl)
    · cases hf
  · cases hf
theorem ok_aaload {t : Nat} {C : String} (ht : (zTl g)[t]? = some (.object C)) (hd : decode i.2.1 pc = .ok (.aaload, 1)) : zOk g i pc (zaq t) := by
  intro X hE d Y rec hrec lo sk mem κ ρ y hf
  left
  unfold zaq at hf
  dsimp only at hf
  split at hf
  · next x a r =>
    split at hf
    · next t' f ho =>
      cases hb : Bool.and (Nat.beq t' t) (zixl x f) with
      | false => rw [hb] at hf; cases hf
      | true =>
        rw [hb] at hf
        obtain ⟨b1, b2⟩ := (Bool.and_eq_true _ _).mp hb
        have hci := Nat.eq_of_beq_eq_true b1
        subst hci
        dsimp only at hf
        split at hf
        · next q hq =>
          refine ⟨(pc + 1, lo, .ref q :: r, mem), hf, zle.rf, ?_⟩
          intro n0 sl0 p e R s m args below meth c hC _ _ Q hW H locs ls h1 h2 hP hS hl
          rw [zat_eq] at ho
          refine va_aldq hC.1 hC.2.1 hC.2.2.2.2.2.1 hP a t' (zwa_q ho) (zTy_at ht) (zixl_s b2) hd ?_
          have e1 : va_rf ((f.getD x.toNatClampNeg none).map (fun k => zH X + k)) = .ref (zH X + q) := by rw [hq]; rfl
          rw [e1]
          exact hW H locs ls h1 h2 hP hS hl
        · cases hf
    · cases hf
  · cases hf
/-- the length -/
def zle4 (t : Nat) : zF := fun _ _ st κ _ => match st with
  | (pc, lo, sk, mem) => match sk with
  | .ref a :: r => match zat mem a with
    | some (.inl o) => bif Nat.beq o.1 t then κ (pc + 1, lo, .int (Int32.ofNat (zaz o.2)) :: r, mem) else none
    | _ => none
  | _ => none
theorem ok_alen {t : Nat} {ty : FieldType} (ht : (zTl g)[t]? = some ty) (hd : decode i.2.1 pc = .ok (.arraylength, 1)) : zOk g i pc (zle4 t) := by
  intro X hE d Y rec hrec lo sk mem κ ρ y hf
  left
  unfold zle4 at hf
  dsimp only at hf
  split at hf
  · next a r =>
    split at hf
    · next o ho =>
      cases hb : Nat.beq o.1 t with
      | false => rw [hb] at hf; cases hf
      | true =>
        rw [hb] at hf
        have hci := Nat.eq_of_beq_eq_true hb
        refine ⟨(pc + 1, lo, .int (Int32.ofNat (zaz o.2)) :: r, mem), hf, zle.rf, ?_⟩
        intro n0 sl0 p e R s m args below meth c hC _ _ Q hW H locs ls h1 h2 hP hS hl
        rw [zat_eq] at ho
        have he : (zWs X mem)[a]? = some (zH X + a, .inl (zK X t, zua (zH X) o.2)) := by rw [zws_at ho, ← hci]; rfl
        exact va_alen hC.1 hC.2.1 hC.2.2.2.2.2.1 hP a t he (zTy_at ht) (v := Int32.ofNat (zaz o.2)) (by rw [zua_1]) hd (hW H locs ls h1 h2 hP hS hl)
    · cases hf
  · cases hf
noncomputable def zas (t : Nat) : zF := fun _ _ st κ _ => match st with
  | (pc, lo, sk, mem) => match sk with
  | .int x :: .int j :: .ref a :: r => match zat mem a with
    | some (.inl (t', .inl f)) => Bool.rec none (κ (pc + 1, lo, r, mem.set a (.inl (t', .inl (f.set j.toNatClampNeg x))))) (Bool.and (Nat.beq t' t) (Bool.and (zixl j f) true))
    | _ => none
  | _ => none
theorem ok_iastore {t : Nat} (ht : (zTl g)[t]? = some .int) (hd : decode i.2.1 pc = .ok (.iastore, 1)) : zOk g i pc (zas t) := by
  intro X hE d Y rec hrec lo sk mem κ ρ y hf
  left
  unfold zas at hf
  dsimp only at hf
  split at hf
  · next x j a r =>
    split at hf
    · next t' f ho =>
      cases hb : Bool.and (Nat.beq t' t) (Bool.and (zixl j f) true) with
      | false => rw [hb] at hf; cases hf
      | true =>
        rw [hb] at hf
        obtain ⟨b1, b2⟩ := (Bool.and_eq_true _ _).mp hb
        obtain ⟨b2, b3⟩ := (Bool.and_eq_true _ _).mp b2
        have hci := Nat.eq_of_beq_eq_true b1
        subst hci
        rw [zat_eq] at ho
        refine ⟨(pc + 1, lo, r, mem.set a (.inl (t', .inl (f.set j.toNatClampNeg x)))), hf, zle.set ho (by simp [zsz, zaz]), ?_⟩
        intro n0 sl0 p e R s m args below meth c hC _ _ Q hW H locs ls h1 h2 hP hS hl
        have hsl : zsl (mem.set a (.inl (t', .inl (f.set j.toNatClampNeg x)))) = zsl mem := zsl_set (c := .inl (t', .inl f)) (c' := .inl (t', .inl (f.set j.toNatClampNeg x))) (by simp [zsz, zaz]) mem a ho
        have hle : (mem.set a (.inl (t', .inl (f.set j.toNatClampNeg x)))).length = mem.length := by simp
        refine va_iast hC.1 hC.2.1 hC.2.2.2.2.2.1 hP (zws_D _ _ _ _) hS a t' (zwa_i ho) (zTy_at ht) (zixl_s b2) hd (fun H1 locs1 q1 _ q2 => ?_)
        have e1 : (zWs X mem).set a (zH X + a, .inl (zK X t', f.length, .inl (upd (fun j => f.getD j 0) j.toNatClampNeg x))) = zWs X (mem.set a (.inl (t', .inl (f.set j.toNatClampNeg x)))) := by
          show _ = zws (zH X) (zx X) (zK X) 0 (mem.set a (.inl (t', .inl (f.set j.toNatClampNeg x))))
          rw [zws_set, Nat.zero_add]
          simp only [zue, zua, List.length_set, z_gset _ _ _ _ (zix_lt (zixl_s b2))]
          rfl
        rw [e1] at q1
        have := hW H1 locs1 ls (by show n0 ≤ (mem.set a (.inl (t', .inl (f.set j.toNatClampNeg x)))).length; rw [hle]; exact h1) (by show sl0 ≤ zsl (mem.set a (.inl (t', .inl (f.set j.toNatClampNeg x)))); rw [hsl]; exact h2) q1 q2 hl
        simp only [hle, hsl] at this
        exact this
    · cases hf
  · cases hf
noncomputable def zzs (t : Nat) : zF := fun _ _ st κ _ => match st with
  | (pc, lo, sk, mem) => match sk with
  | .int x :: .int j :: .ref a :: r => match zat mem a with
    | some (.inl (t', .inl f)) => Bool.rec none (κ (pc + 1, lo, r, mem.set a (.inl (t', .inl (f.set j.toNatClampNeg (vp_nar .boolean x)))))) (Bool.and (Nat.beq t' t) (Bool.and (zixl j f) true))
    | _ => none
  | _ => none
theorem ok_zastore {t : Nat} (ht : (zTl g)[t]? = some .boolean) (hd : decode i.2.1 pc = .ok (.bastore, 1)) : zOk g i pc (zzs t) := by
  intro X hE d Y rec hrec lo sk mem κ ρ y hf
  left
  unfold zzs at hf
  dsimp only at hf
  split at hf
  · next x j a r =>
    split at hf
    · next t' f ho =>
      cases hb : Bool.and (Nat.beq t' t) (Bool.and (zixl j f) true) with
      | false => rw [hb] at hf; cases hf
      | true =>
        rw [hb] at hf
        obtain ⟨b1, b2⟩ := (Bool.and_eq_true _ _).mp hb
        obtain ⟨b2, b3⟩ := (Bool.and_eq_true _ _).mp b2
        have hci := Nat.eq_of_beq_eq_true b1
        subst hci
        rw [zat_eq] at ho
        refine ⟨(pc + 1, lo, r, mem.set a (.inl (t', .inl (f.set j.toNatClampNeg (vp_nar .boolean x))))), hf, zle.set ho (by simp [zsz, zaz]), ?_⟩
        intro n0 sl0 p e R s m args below meth c hC _ _ Q hW H locs ls h1 h2 hP hS hl
        have hsl : zsl (mem.set a (.inl (t', .inl (f.set j.toNatClampNeg (vp_nar .boolean x))))) = zsl mem := zsl_set (c := .inl (t', .inl f)) (c' := .inl (t', .inl (f.set j.toNatClampNeg (vp_nar .boolean x)))) (by simp [zsz, zaz]) mem a ho
        have hle : (mem.set a (.inl (t', .inl (f.set j.toNatClampNeg (vp_nar .boolean x))))).length = mem.length := by simp
        refine va_zast hC.1 hC.2.1 hC.2.2.2.2.2.1 hP (zws_D _ _ _ _) hS a t' (zwa_i ho) (zTy_at ht) (zixl_s b2) hd (fun H1 locs1 q1 _ q2 => ?_)
        have e1 : (zWs X mem).set a (zH X + a, .inl (zK X t', f.length, .inl (upd (fun j => f.getD j 0) j.toNatClampNeg (vp_nar .boolean x)))) = zWs X (mem.set a (.inl (t', .inl (f.set j.toNatClampNeg (vp_nar .boolean x))))) := by
          show _ = zws (zH X) (zx X) (zK X) 0 (mem.set a (.inl (t', .inl (f.set j.toNatClampNeg (vp_nar .boolean x)))))
          rw [zws_set, Nat.zero_add]
          simp only [zue, zua, List.length_set, z_gset _ _ _ _ (zix_lt (zixl_s b2))]
          rfl
        rw [e1] at q1
        have := hW H1 locs1 ls (by show n0 ≤ (mem.set a (.inl (t', .inl (f.set j.toNatClampNeg (vp_nar .boolean x))))).length; rw [hle]; exact h1) (by show sl0 ≤ zsl (mem.set a (.inl (t', .inl (f.set j.toNatClampNeg (vp_nar .boolean x))))); rw [hsl]; exact h2) q1 q2 hl
        simp only [hle, hsl] at this
        exact this
    · cases hf
  · cases hf
noncomputable def zla (t : Nat) : zF := fun _ _ st κ _ => match st with
  | (pc, lo, sk, mem) => match sk with
  | .long x :: .int j :: .ref a :: r => match zat mem a with
    | some (.inl (t', .inr (.inl f))) => Bool.rec none (κ (pc + 1, lo, r, mem.set a (.inl (t', .inr (.inl (f.set j.toNatClampNeg x)))))) (Bool.and (Nat.beq t' t) (Bool.and (zixl j f) true))
    | _ => none
  | _ => none
theorem ok_lastore {t : Nat} (ht : (zTl g)[t]? = some .long) (hd : decode i.2.1 pc = .ok (.lastore, 1)) : zOk g i pc (zla t) := by
  intro X hE d Y rec hrec lo sk mem κ ρ y hf
  left
  unfold zla at hf
  dsimp only at hf
  split at hf
  · next x j a r =>
    split at hf
    · next t' f ho =>
      cases hb : Bool.and (Nat.beq t' t) (Bool.and (zixl j f) true) with
      | false => rw [hb] at hf; cases hf
      | true =>
        rw [hb] at hf
        obtain ⟨b1, b2⟩ := (Bool.and_eq_true _ _).mp hb
        obtain ⟨b2, b3⟩ := (Bool.and_eq_true _ _).mp b2
        have hci := Nat.eq_of_beq_eq_true b1
        subst hci
        rw [zat_eq] at ho
        refine ⟨(pc + 1, lo, r, mem.set a (.inl (t', .inr (.inl (f.set j.toNatClampNeg x))))), hf, zle.set ho (by simp [zsz, zaz]), ?_⟩
        intro n0 sl0 p e R s m args below meth c hC _ _ Q hW H locs ls h1 h2 hP hS hl
        have hsl : zsl (mem.set a (.inl (t', .inr (.inl (f.set j.toNatClampNeg x))))) = zsl mem := zsl_set (c := .inl (t', .inr (.inl f))) (c' := .inl (t', .inr (.inl (f.set j.toNatClampNeg x)))) (by simp [zsz, zaz]) mem a ho
        have hle : (mem.set a (.inl (t', .inr (.inl (f.set j.toNatClampNeg x))))).length = mem.length := by simp
        refine va_last hC.1 hC.2.1 hC.2.2.2.2.2.1 hP (zws_D _ _ _ _) hS a t' (zwa_l ho) (zTy_at ht) (zixl_s b2) hd (fun H1 locs1 q1 _ q2 => ?_)
        have e1 : (zWs X mem).set a (zH X + a, .inl (zK X t', f.length, .inr (.inl (vp_updL (fun j => f.getD j 0) j.toNatClampNeg x)))) = zWs X (mem.set a (.inl (t', .inr (.inl (f.set j.toNatClampNeg x))))) := by
          show _ = zws (zH X) (zx X) (zK X) 0 (mem.set a (.inl (t', .inr (.inl (f.set j.toNatClampNeg x)))))
          rw [zws_set, Nat.zero_add]
          simp only [zue, zua, List.length_set, z_gset _ _ _ _ (zix_lt (zixl_s b2))]
          rfl
        rw [e1] at q1
        have := hW H1 locs1 ls (by show n0 ≤ (mem.set a (.inl (t', .inr (.inl (f.set j.toNatClampNeg x))))).length; rw [hle]; exact h1) (by show sl0 ≤ zsl (mem.set a (.inl (t', .inr (.inl (f.set j.toNatClampNeg x))))); rw [hsl]; exact h2) q1 q2 hl
        simp only [hle, hsl] at this
        exact this
    · cases hf
  · cases hf
noncomputable def zsq (t ci : Nat) : zF := fun _ _ st κ _ => match st with
  | (pc, lo, sk, mem) => match sk with
  | .ref v :: .int j :: .ref a :: r => match zat mem a with
    | some (.inl (t', .inr (.inr f))) => match zat mem v with
      | some (.inr o) => Bool.rec none (κ (pc + 1, lo, r, mem.set a (.inl (t', .inr (.inr (f.set j.toNatClampNeg (some v))))))) (Bool.and (Nat.beq t' t) (Bool.and (zixl j f) (Nat.beq o.1 ci)))
      | _ => none
    | _ => none
  | _ => none
theorem ok_aastore {t ci : Nat} {q : vw_C} (ht : (zTl g)[t]? = some (.object q.1)) (hc : (zCl g)[ci]? = some q) (hd : decode i.2.1 pc = .ok (.aastore, 1)) : zOk g i pc (zsq t ci) := by
  intro X hE d Y rec hrec lo sk mem κ ρ y hf
  left
  unfold zsq at hf
  dsimp only at hf
  split at hf
  · next v j a r =>
    split at hf
    · next t' f ho =>
      split at hf
      · next o hv =>
        cases hb : Bool.and (Nat.beq t' t) (Bool.and (zixl j f) (Nat.beq o.1 ci)) with
        | false => rw [hb] at hf; cases hf
        | true =>
          rw [hb] at hf
          obtain ⟨b1, b2⟩ := (Bool.and_eq_true _ _).mp hb
          obtain ⟨b2, b3⟩ := (Bool.and_eq_true _ _).mp b2
          have hci := Nat.eq_of_beq_eq_true b1
          have hco := Nat.eq_of_beq_eq_true b3
          subst hci
          rw [zat_eq] at ho hv
          refine ⟨(pc + 1, lo, r, mem.set a (.inl (t', .inr (.inr (f.set j.toNatClampNeg (some v)))))), hf, zle.set ho (by simp [zsz, zaz]), ?_⟩
          intro n0 sl0 p e R s m args below meth c hC _ _ Q hW H locs ls h1 h2 hP hS hl
          have hsl : zsl (mem.set a (.inl (t', .inr (.inr (f.set j.toNatClampNeg (some v)))))) = zsl mem := zsl_set (c := .inl (t', .inr (.inr f))) (c' := .inl (t', .inr (.inr (f.set j.toNatClampNeg (some v))))) (by simp [zsz, zaz]) mem a ho
          have hle : (mem.set a (.inl (t', .inr (.inr (f.set j.toNatClampNeg (some v)))))).length = mem.length := by simp
          have hev : (zWs X mem)[v]? = some (zH X + v, .inr (ci, o.2.map (zU X))) := by rw [zws_at hv, ← hco]; rfl
          refine va_astq hC.1 hC.2.1 hC.2.2.2.2.2.1 hP (zws_D _ _ _ _) hS a t' v ci (zwa_q ho) (zTy_at ht) hev hc (zixl_s b2) hd (fun H1 locs1 q1 _ q2 => ?_)
          have e1 : (zWs X mem).set a (zH X + a, .inl (zK X t', f.length, .inr (.inr (.inr (.inr (va_up (fun j => (f.getD j none).map (fun k => zH X + k)) j.toNatClampNeg (some (zH X + v)))))))) = zWs X (mem.set a (.inl (t', .inr (.inr (f.set j.toNatClampNeg (some v)))))) := by
            show _ = zws (zH X) (zx X) (zK X) 0 (mem.set a (.inl (t', .inr (.inr (f.set j.toNatClampNeg (some v))))))
            rw [zws_set, Nat.zero_add]
            have e2 : va_up (fun j => (f.getD j none).map (fun k => zH X + k)) j.toNatClampNeg (some (zH X + v)) = fun q => ((f.set j.toNatClampNeg (some v)).getD q none).map (fun k => zH X + k) := by
              funext q
              have e3 := congrFun (z_gset f j.toNatClampNeg (some v) none (zix_lt (zixl_s b2))) q
              rw [e3]
              unfold va_up
              split <;> rfl
            simp only [zue, zua, List.length_set]
            rw [e2]
          rw [e1] at q1
          have := hW H1 locs1 ls (by show n0 ≤ (mem.set a (.inl (t', .inr (.inr (f.set j.toNatClampNeg (some v)))))).length; rw [hle]; exact h1) (by show sl0 ≤ zsl (mem.set a (.inl (t', .inr (.inr (f.set j.toNatClampNeg (some v)))))); rw [hsl]; exact h2) q1 q2 hl
          simp only [hle, hsl] at this
          exact this
      · cases hf
    · cases hf
  · cases hf
/-! new cells -/
theorem z_push {X : zX} {mem : zM} {H : Heap} {q : Nat} {cl : List vw_C} {e : va_E} {e' : zE} (h : va_P (zD X) cl (zWs X mem ++ [(q, e)]) H) (hq : q = zH X + mem.length) (he : zue (zH X) (zx X) (zK X) e' = e) : va_P (zD X) cl (zWs X (mem ++ [e'])) H := by
  show va_P (zD X) cl (zws (zH X) (zx X) (zK X) 0 (mem ++ [e'])) H
  rw [zws_app, Nat.zero_add, he, ← hq]
  exact h
theorem z_new_at {X : zX} {cl : List vw_C} {mem : zM} {H : Heap} {q : Nat} {e : va_E} {H0 : Heap} {n0 : Nat} {locs : List Loc} (hP : va_P (zD X) cl (zWs X mem ++ [(q, e)]) H) (hD : va_D (fun x => zH X ≤ x) (zWs X mem ++ [(q, e)])) (hle : H.size ≤ zH X + mem.length + 1) : q = zH X + mem.length := by
  have hl : (zWs X mem).length = mem.length := by
    have : ∀ (mem : zM) (k : Nat), (zws (zH X) (zx X) (zK X) k mem).length = mem.length := by
      intro mem
      induction mem with
      | nil => intro k; rfl
      | cons a r ih => intro k; simp only [zws, List.length_cons, ih]
    exact this mem 0
  have h1 : (zWs X mem ++ [(q, e)])[mem.length]? = some (q, e) := by rw [← hl]; simp
  have h2 := (hP _ _ h1).lt
  have h3 := hD.2 _ _ h1
  simp only at h2 h3
  apply Classical.byContradiction
  intro hne
  have hlt : q - zH X < mem.length := by omega
  obtain ⟨c, hc⟩ : ∃ c, mem[q - zH X]? = some c := ⟨_, List.getElem?_eq_getElem hlt⟩
  have h4 := zws_at (h0 := zH X) (x0 := zx X) (kA := zK X) hc
  have h5 : (zWs X mem ++ [(q, e)])[q - zH X]? = some (zH X + (q - zH X), zue (zH X) (zx X) (zK X) c) := by
    rw [List.getElem?_append_left (by rw [hl]; exact hlt)]
    exact h4
  have := hD.1 _ _ _ _ h5 h1 (by simp only; omega)
  omega
/-- an object of class ci, its fields fs -/
def znw (ci : Nat) (fs : List Value) : zF := fun _ _ st κ _ => match st with
  | (pc, lo, sk, mem) => κ (pc + 3, lo, .ref mem.length :: sk, mem ++ [.inr (ci, fs)])
theorem ok_new {ci N n : Nat} {C : String} {T : u_T} {fs : List Value} (ty0 : Nat → FieldType) (hty : ∀ k, k < N → parseFieldDescriptor (T k).2.2.1 = some (ty0 k)) (hc : (zCl g)[ci]? = some (C, T, N)) (hin : ∀ w ∈ u_ws C T N, w ∈ zTb g) (hw : Cond.classLink i.1.cls n C ∈ zTb g) (hw2 : Cond.instantiable C N ∈ zTb g) (hw3 : Cond.initialized C ∈ zTb g) (hN : fs.length = N) (hfs : ∀ h0 x0, fs.map (zu h0 x0) = fs) (hdf : fs = (List.range N).map (fun k => defaultValue (ty0 k))) (hd : decode i.2.1 pc = .ok (.new n, 3)) : zOk g i pc (znw ci fs) := by
  intro X hE d Y rec hrec lo sk mem κ ρ y hf
  have hf : κ (pc + 3, lo, .ref mem.length :: sk, mem ++ [(.inr (ci, fs) : zE)]) = some y := hf
  refine Or.inl ⟨_, hf, zle.app, ?_⟩
  intro n0 sl0 p e R s m args below meth c hC hc1 hc2 Q hW H locs ls h1 h2 hP hS hl
  dsimp only at hc1 hc2 h1 h2
  have hsl : zsl (mem ++ [.inr (ci, fs)]) = zsl mem + N := by rw [zsl_app]; simp [zsz, hN]
  have hle : (mem ++ [(.inr (ci, fs) : zE)]).length = mem.length + 1 := by simp
  rw [hle] at hc1
  rw [hsl] at hc2
  show W p (zL X) e R s m args below meth c H locs (mem.length - n0) (zsl mem - sl0) Q (F0 m pc ls (sk.map (zU X)))
  refine va_new hC.1 hC.2.1 hC.2.2.2.2.1 hin ty0 hty hC.2.2.2.1 (hC.2.2.2.2.1 _ hw) (hC.2.2.2.2.1 _ hw2) (hC.2.2.2.2.1 _ hw3) hC.2.2.2.2.2.1 hP (zws_D _ _ _ _) hS (fun q hq => by show zH X ≤ q; have := hC.2.2.2.2.2.2.2.1; omega) hc (fs := fs) (fun j hj => ?_) (by omega) (by omega) hd (fun q H1 q1 q2 q3 => ?_)
  · have hj2 : fs[j]? = some (defaultValue (ty0 j)) := by
      rw [hdf, List.getElem?_map, List.getElem?_range hj]
      rfl
    rw [vp_V, List.getD_eq_getElem?_getD, hj2]
    rfl
  · refine z_size (fun hz => ?_)
    have hq : q = zH X + mem.length := z_new_at (n0 := n0) (H0 := s.heap) (locs := locs) q1 q2 (by have := hC.2.2.2.2.2.2.2.1; omega)
    have q4 := z_push (e' := .inr (ci, fs)) q1 hq (by show Sum.inr (ci, fs.map (zu (zH X) (zx X))) = _; rw [hfs])
    have := hW H1 locs ls (by show n0 ≤ (mem ++ [(.inr (ci, fs) : zE)]).length; rw [hle]; omega) (by show sl0 ≤ zsl (mem ++ [.inr (ci, fs)]); rw [hsl]; omega) q4 q3 hl
    rw [hq]
    refine W.cs ?_ ?_ this
    · show _ = (mem ++ [(.inr (ci, fs) : zE)]).length - n0; rw [hle]; omega
    · show _ = zsl (mem ++ [.inr (ci, fs)]) - sl0; rw [hsl]; omega
/-- an array of a kind, of a constant or computed length -/
noncomputable def zna (t : Nat) (b : Nat) (a0 : Nat → zA) (len : Nat) : zF := fun _ _ st κ _ => match st with
  | (pc, lo, sk, mem) => match sk with
  | .int x :: r => Bool.rec none (κ (pc + len, lo, .ref mem.length :: r, mem ++ [.inl (t, a0 x.toNatClampNeg)])) (Bool.and (!decide (x < 0)) (Nat.ble (x.toNatClampNeg * b) 536870912))
  | _ => none
theorem z_kA {g : zG} {X : zX} {s : State} {t : Nat} {ty : FieldType} {cA : ClassId} {k : Nat} {tys : List (ClassId × FieldType)} (hK : va_K (zD X) (zCl g) (zTt g X) s) (ht : (zTl g)[t]? = some ty) (hp : (∀ C, ty ≠ .object C) ∨ ∃ C, ty = .object C) (h2 : va_K (zD X) (zCl g) tys s) (hk : tys[k]? = some (cA, ty)) : cA = zK X t := by
  have h3 := (h2.2 k _ hk).2
  have h4 := (hK.2 t _ (zTy_at ht)).2
  rcases hp with hp | ⟨C, rfl⟩
  · cases ty <;> first | exact absurd rfl (hp _) | exact Option.some.inj (Eq.trans (Eq.symm h3) h4)
  · obtain ⟨_, _, -, -, -, a1⟩ := h3
    obtain ⟨_, _, -, -, -, a2⟩ := h4
    exact Option.some.inj (a1.symm.trans a2)
theorem ok_newa {t : Nat} {at_ : ArrayType} {ty : FieldType} {b : Nat} {a0 : Nat → zA} (hty : newarray.typeOf at_ = ty) (ht : (zTl g)[t]? = some ty) (hp : ∀ C, ty ≠ .object C) (hw : Cond.arrayClass ty ∈ zTb g) (hb : componentBytes ty = b) (ha : ∀ (h0 n : Nat) (cA : ClassId), vp_cell cA (zua h0 (a0 n)) = arrV cA n (fun _ => defaultValue ty)) (ha1 : ∀ n, zaz (a0 n) = n) (hd : decode i.2.1 pc = .ok (.newarray at_, 2)) : zOk g i pc (zna t b a0 2) := by
  intro X hE d Y rec hrec lo sk mem κ ρ y hf
  left
  unfold zna at hf
  dsimp only at hf
  split at hf
  · next x r =>
    cases hbb : Bool.and (!decide (x < 0)) (Nat.ble (x.toNatClampNeg * b) 536870912) with
    | false => rw [hbb] at hf; cases hf
    | true =>
      rw [hbb] at hf
      obtain ⟨b1, b2⟩ := (Bool.and_eq_true _ _).mp hbb
      have b2 := Nat.le_of_ble_eq_true b2
      simp only [Bool.not_eq_true', decide_eq_false_iff_not] at b1
      have hf : κ (pc + 2, lo, .ref mem.length :: r, mem ++ [(.inl (t, a0 x.toNatClampNeg) : zE)]) = some y := hf
      refine ⟨_, hf, zle.app, ?_⟩
      intro n0 sl0 p e R s m args below meth c hC hc1 hc2 Q hW H locs ls h1 h2 hP hS hl
      dsimp only at hc1 hc2 h1 h2
      have hsl : zsl (mem ++ [.inl (t, a0 x.toNatClampNeg)]) = zsl mem + x.toNatClampNeg := by rw [zsl_app]; simp [zsz, ha1]
      have hle : (mem ++ [(.inl (t, a0 x.toNatClampNeg) : zE)]).length = mem.length + 1 := by simp
      rw [hle] at hc1
      rw [hsl] at hc2
      show W p (zL X) e R s m args below meth c H locs (mem.length - n0) (zsl mem - sl0) Q (F0 m pc ls (.int x :: r.map (zU X)))
      refine va_newa (atype := at_) hC.1 hC.2.1 (by rw [hty]; exact hC.2.2.2.2.1 _ hw) hty hC.2.2.2.2.2.1 hP (zws_D _ _ _ _) hS (fun q hq => by show zH X ≤ q; have := hC.2.2.2.2.2.2.2.1; omega) (a0 := zua (zH X) (a0 x.toNatClampNeg)) (ha _ _) b1 rfl (by rw [hb]; exact b2) (by omega) (by omega) hd (fun q cA H1 q0 q1 q2 q3 => ?_)
      have hcA : cA = zK X t := z_kA (k := (zTt g X).length) hC.2.2.2.2.2.1 ht (Or.inl hp) q0 (by simp)
      subst hcA
      refine z_size (fun hz => ?_)
      have hq : q = zH X + mem.length := z_new_at (n0 := n0) (H0 := s.heap) (locs := locs) q1 q2 (by have := hC.2.2.2.2.2.2.2.1; omega)
      have q4 := z_push (e' := .inl (t, a0 x.toNatClampNeg)) q1 hq rfl
      have := hW H1 locs ls (by show n0 ≤ (mem ++ [(.inl (t, a0 x.toNatClampNeg) : zE)]).length; rw [hle]; omega) (by show sl0 ≤ zsl (mem ++ [.inl (t, a0 x.toNatClampNeg)]); rw [hsl]; omega) q4 q3 hl
      rw [hq]
      refine W.cs ?_ ?_ this
      · show _ = (mem ++ [(.inl (t, a0 x.toNatClampNeg) : zE)]).length - n0; rw [hle]; omega
      · show _ = zsl (mem ++ [.inl (t, a0 x.toNatClampNeg)]) - sl0; rw [hsl]; omega
  · cases hf
theorem ok_newq {t n : Nat} {C : String} (ht : (zTl g)[t]? = some (.object C)) (hao : ∀ X U, zEx g X U → va_AO C U) (hw : Cond.classLink i.1.cls n C ∈ zTb g) (hd : decode i.2.1 pc = .ok (.anewarray n, 3)) : zOk g i pc (zna t 4 (fun n => .inr (.inr (List.replicate n none))) 3) := by
  intro X hE d Y rec hrec lo sk mem κ ρ y hf
  left
  unfold zna at hf
  dsimp only at hf
  split at hf
  · next x r =>
    cases hbb : Bool.and (!decide (x < 0)) (Nat.ble (x.toNatClampNeg * 4) 536870912) with
    | false => rw [hbb] at hf; cases hf
    | true =>
      rw [hbb] at hf
      obtain ⟨b1, b2⟩ := (Bool.and_eq_true _ _).mp hbb
      have b2 := Nat.le_of_ble_eq_true b2
      simp only [Bool.not_eq_true', decide_eq_false_iff_not] at b1
      have hf : κ (pc + 3, lo, .ref mem.length :: r, mem ++ [(.inl (t, .inr (.inr (List.replicate x.toNatClampNeg none))) : zE)]) = some y := hf
      refine ⟨_, hf, zle.app, ?_⟩
      intro n0 sl0 p e R s m args below meth c hC hc1 hc2 Q hW H locs ls h1 h2 hP hS hl
      dsimp only at hc1 hc2 h1 h2
      have hsl : zsl (mem ++ [.inl (t, .inr (.inr (List.replicate x.toNatClampNeg none)))]) = zsl mem + x.toNatClampNeg := by rw [zsl_app]; simp [zsz, zaz]
      have hle : (mem ++ [(.inl (t, .inr (.inr (List.replicate x.toNatClampNeg none))) : zE)]).length = mem.length + 1 := by simp
      rw [hle] at hc1
      rw [hsl] at hc2
      show W p (zL X) e R s m args below meth c H locs (mem.length - n0) (zsl mem - sl0) Q (F0 m pc ls (.int x :: r.map (zU X)))
      refine va_newq hC.1 hC.2.1 hC.2.2.2.1 (hC.2.2.2.2.1 _ hw) (hao X s hC.2.2.2.2.2.2.1) hC.2.2.2.2.2.1 hP (zws_D _ _ _ _) hS (fun q hq => by show zH X ≤ q; have := hC.2.2.2.2.2.2.2.1; omega) b1 rfl b2 (by omega) (by omega) hd (fun q cA H1 q0 q1 q2 q3 => ?_)
      have hcA : cA = zK X t := z_kA (k := (zTt g X).length) hC.2.2.2.2.2.1 ht (Or.inr ⟨C, rfl⟩) q0 (by simp)
      subst hcA
      refine z_size (fun hz => ?_)
      have hq : q = zH X + mem.length := z_new_at (n0 := n0) (H0 := s.heap) (locs := locs) q1 q2 (by have := hC.2.2.2.2.2.2.2.1; omega)
      have q4 := z_push (e' := .inl (t, .inr (.inr (List.replicate x.toNatClampNeg none)))) q1 hq (by
        have e3 := z_grep x.toNatClampNeg (none : Option Nat)
        have e4 : (fun j => ((List.replicate x.toNatClampNeg (none : Option Nat)).getD j none).map (fun k => zH X + k)) = fun _ => none := by
          funext j
          have := congrFun e3 j
          rw [this]
          rfl
        simp only [zue, zua, List.length_replicate]
        rw [e4])
      have := hW H1 locs ls (by show n0 ≤ (mem ++ [(.inl (t, .inr (.inr (List.replicate x.toNatClampNeg none))) : zE)]).length; rw [hle]; omega) (by show sl0 ≤ zsl (mem ++ [.inl (t, .inr (.inr (List.replicate x.toNatClampNeg none)))]); rw [hsl]; omega) q4 q3 hl
      rw [hq]
      refine W.cs ?_ ?_ this
      · show _ = (mem ++ [(.inl (t, .inr (.inr (List.replicate x.toNatClampNeg none))) : zE)]).length - n0; rw [hle]; omega
      · show _ = zsl (mem ++ [.inl (t, .inr (.inr (List.replicate x.toNatClampNeg none)))]) - sl0; rw [hsl]; omega
  · cases hf
/-! returns -/
noncomputable def zri (z : Bool) : zF := fun _ _ st _ ρ => match st with
  | (pc, lo, sk, mem) => match sk with
  | [.int x] => Bool.rec none (ρ (some (.int x)) mem) (Bool.or (!z) (Bool.or (decide (x = 0)) (decide (x = 1))))
  | _ => none
theorem z_ret {X : zX} {r : Option Value} {mem : zM} {s : State} {H : Heap} {locs : List Loc} {args : Array Value} (hP : va_P (zD X) (zCl g) (zWs X mem) H) (hS : va_S (fun q => zH X ≤ q) s.heap H locs) (t : State) (ht : t.heap = H) : zQ g X r mem args s (.returned (r.map (zU X))) t :=
  ⟨rfl, by rw [ht]; exact hP, hS.F ht⟩
theorem ok_ireturn (hr : i.2.2.2 = some .int) (hd : decode i.2.1 pc = .ok (.ireturn, 1)) : zOk g i pc (zri false) := by
  intro X hE d Y rec hrec lo sk mem κ ρ y hf
  right
  unfold zri at hf
  dsimp only at hf
  split at hf
  · next x =>
    refine ⟨some (.int x), mem, hf, zle.rf, ?_⟩
    intro n0 sl0 p e R s m args below meth c hC H locs ls h1 h2 hP hS hl
    exact W.iret hC.1 hC.2.1 (hC.2.2.2.2.2.2.2.2.2.1.trans hr) (fun t ht _ => z_ret (r := some (.int x)) hP hS t ht) (fun q hq => hS.2.2 q hq) hd (hlocks := hC.2.2.2.2.2.2.2.2.1)
  · cases hf
theorem ok_zreturn (hr : i.2.2.2 = some .boolean) (hd : decode i.2.1 pc = .ok (.ireturn, 1)) : zOk g i pc (zri true) := by
  intro X hE d Y rec hrec lo sk mem κ ρ y hf
  right
  unfold zri at hf
  dsimp only at hf
  split at hf
  · next x =>
    cases hb : Bool.or (!true) (Bool.or (decide (x = 0)) (decide (x = 1))) with
    | false => rw [hb] at hf; cases hf
    | true =>
      rw [hb] at hf
      refine ⟨some (.int x), mem, hf, zle.rf, ?_⟩
      intro n0 sl0 p e R s m args below meth c hC H locs ls h1 h2 hP hS hl
      have hn : narrow .boolean (.int x) = .int x := by
        simp at hb
        rcases hb with h | h <;> subst h <;> rfl
      exact W.zret hC.1 hC.2.1 (hC.2.2.2.2.2.2.2.2.2.1.trans hr) hn (fun t ht _ => z_ret (r := some (.int x)) hP hS t ht) (fun q hq => hS.2.2 q hq) hd (hlocks := hC.2.2.2.2.2.2.2.2.1)
  · cases hf
def zrl : zF := fun _ _ st _ ρ => match st with
  | (pc, lo, sk, mem) => match sk with
  | [.long x] => ρ (some (.long x)) mem
  | _ => none
theorem ok_lreturn (hr : i.2.2.2 = some .long) (hd : decode i.2.1 pc = .ok (.lreturn, 1)) : zOk g i pc zrl := by
  intro X hE d Y rec hrec lo sk mem κ ρ y hf
  right
  unfold zrl at hf
  dsimp only at hf
  split at hf
  · next x =>
    refine ⟨some (.long x), mem, hf, zle.rf, ?_⟩
    intro n0 sl0 p e R s m args below meth c hC H locs ls h1 h2 hP hS hl
    exact W.lret hC.1 hC.2.1 (hC.2.2.2.2.2.2.2.2.2.1.trans hr) (fun t ht _ => z_ret (r := some (.long x)) hP hS t ht) (fun q hq => hS.2.2 q hq) hd (hlocks := hC.2.2.2.2.2.2.2.2.1)
  · cases hf
def zra : zF := fun _ _ st _ ρ => match st with
  | (pc, lo, sk, mem) => match sk with
  | [.ref x] => ρ (some (.ref x)) mem
  | _ => none
theorem ok_areturn {C : String} (hr : i.2.2.2 = some (.object C)) (hd : decode i.2.1 pc = .ok (.areturn, 1)) : zOk g i pc zra := by
  intro X hE d Y rec hrec lo sk mem κ ρ y hf
  right
  unfold zra at hf
  dsimp only at hf
  split at hf
  · next x =>
    refine ⟨some (.ref x), mem, hf, zle.rf, ?_⟩
    intro n0 sl0 p e R s m args below meth c hC H locs ls h1 h2 hP hS hl
    exact W.aret hC.1 hC.2.1 (hC.2.2.2.2.2.2.2.2.2.1.trans hr) (Or.inl ⟨C, rfl⟩) (Or.inr ⟨_, rfl⟩) (fun t ht _ => z_ret (r := some (.ref x)) hP hS t ht) (fun q hq => hS.2.2 q hq) hd (hlocks := hC.2.2.2.2.2.2.2.2.1)
  · cases hf
def zrv : zF := fun _ _ st _ ρ => match st with
  | (pc, lo, sk, mem) => match sk with
  | [] => ρ none mem
  | _ => none
theorem ok_return (hr : i.2.2.2 = none) (hd : decode i.2.1 pc = .ok (.return_, 1)) : zOk g i pc zrv := by
  intro X hE d Y rec hrec lo sk mem κ ρ y hf
  right
  unfold zrv at hf
  dsimp only at hf
  split at hf
  · refine ⟨none, mem, hf, zle.rf, ?_⟩
    intro n0 sl0 p e R s m args below meth c hC H locs ls h1 h2 hP hS hl
    exact W.vret hC.1 hC.2.1 (hC.2.2.2.2.2.2.2.2.2.1.trans hr) (fun t ht _ => z_ret (r := none) hP hS t ht) (fun q hq => hS.2.2 q hq) hd (hlocks := hC.2.2.2.2.2.2.2.2.1)
  · cases hf
/-! calls -/
def zpp : Nat → List Value → List Value → Option (List Value × List Value)
  | 0, acc, sk => some (acc, sk)
  | _ + 1, _, [] => none
  | n + 1, acc, v :: sk => zpp n (v :: acc) sk
theorem zpp_s : ∀ (n : Nat) (acc sk As rest : List Value), zpp n acc sk = some (As, rest) → ∃ Bs : List Value, As = Bs ++ acc ∧ Bs.length = n ∧ sk = Bs.reverse ++ rest := by
  intro n
  induction n with
  | zero =>
    intro acc sk As rest h
    cases h
    exact ⟨[], rfl, rfl, rfl⟩
  | succ n ih =>
    intro acc sk As rest h
    cases sk with
    | nil => cases h
    | cons v sk =>
      obtain ⟨Bs, h1, h2, h3⟩ := ih (v :: acc) sk As rest h
      exact ⟨Bs ++ [v], by rw [h1]; simp, by simp [h2], by rw [h3]; simp⟩
theorem zpp_0 {n : Nat} {sk As rest : List Value} (h : zpp n [] sk = some (As, rest)) : As.length = n ∧ sk = As.reverse ++ rest := by
  obtain ⟨Bs, h1, h2, h3⟩ := zpp_s n [] sk As rest h
  rw [List.append_nil] at h1
  subst h1
  exact ⟨h2, h3⟩
theorem z_goes {X : zX} {p : Program} {e : Env} {R : Room} {s : State} {m : MethodId} {args : Array Value} {below : List Frame} {meth : Method} {c : Code} {H : Heap} {locs : List Loc} {cells slots mc ms : Nat} {Q : State → Prop} {ls : Array Slot} {st0 rest : List Value} {a : Array Value} {r : Option Value} {mem' : zM} {A0 : Nat → Prop}
    (hA0 : A0 = fun q => zH X ≤ q) (hr : va_Run p (zL X) e R s m args below meth c H locs cells slots mc ms (F0 m pc ls st0) rest (zQ g X r mem' a) (fun q => zH X ≤ q)) (hS : va_S A0 s.heap H locs)
    (kk : ∀ (H1 : Heap) (locs1 : List Loc), va_P (zD X) (zCl g) (zWs X mem') H1 → va_S A0 s.heap H1 locs1 → W p (zL X) e R s m args below meth c H1 locs1 (cells + mc) (slots + ms) Q (F0 m (pc + 3) ls ((r.map (zU X)).toList ++ rest))) : W p (zL X) e R s m args below meth c H locs cells slots Q (F0 m pc ls st0) := by
  subst hA0
  intro T hT K
  obtain ⟨v, st₀, t, T', L, b0, K', hL, e1, e2, ⟨hv, hp, hz, hk⟩, st⟩ := hr T hT K
  cases hv
  rw [b0] at hz hk
  obtain ⟨t2, a1, b1⟩ := kk T'.heap (locs ++ L) (by rw [e1]; exact hp)
    ⟨Nat.le_trans hS.1 (by rw [e1]; exact hz), fun q h1 h2 => by rw [e1, hk q (Nat.lt_of_lt_of_le h1 hS.1) h2]; exact hS.2.1 q h1 h2, fun q hq => by
      rcases List.mem_append.mp hq with h | h
      · exact hS.2.2 q h
      · exact hL q h⟩ T' rfl K'
  exact ⟨t2, st t2 a1, b1⟩
theorem z_blind {X : zX} (hE : zExOk g X) (av : List Value) (mem : zM) : FrameBlind (va_Pc av (zPre g X mem)) := by
  intro a U f mk q
  obtain ⟨q0, q1, q2, q3, q4⟩ := q
  exact ⟨q0, q1, q2, va_K.moved (u := U) (U := U.calling f mk a) (Vm.Alike.refl U.vm) q3, hE.1 U f mk a q4⟩
theorem z_pre {X : zX} {d n0 : Nat} {p : Program} {R : Room} {s : State} {m : MethodId} {args : Array Value} {meth : Method} {c : Code} {mem : zM} {H : Heap} {locs : List Loc} (hE : zExOk g X) (hC : zC g X i d n0 p R s m args meth c) (hz : H.size = zH X + mem.length) (hP : va_P (zD X) (zCl g) (zWs X mem) H) (hS : va_S (fun q => zH X ≤ q) s.heap H locs) (U : State) (hU : U.heap = H) (hw : s.WarmedH U.vm) : zPre g X mem U := by
  refine ⟨by rw [hU]; exact hz, by rw [hU]; exact hP, va_K.moved hw.alike hC.2.2.2.2.2.1, hE.2 s U hw (fun q hq => ?_) hC.2.2.2.2.2.2.1⟩
  rw [hU]
  exact hS.2.1 q (by have := hC.2.2.2.2.2.2.2.1; omega) (by omega)
/-- what is asked of a callee: its number, words, and room -/
def zcal (g : zG) (j : Nat) (k : zI) (n : Nat) : Prop := zMt g j = some k ∧ (∀ w ∈ zTb g, goodWord w = true) ∧ Cond.code k.1 k.2.1 k.2.2.1 k.2.2.2 ∈ zTb g ∧ Cond.initialized k.1.cls ∈ zTb g ∧ (k.1.cls ≠ "java/lang/invoke/MethodHandle" ∧ k.1.cls ≠ "java/lang/invoke/VarHandle" ∧ (parseMethodDescriptor k.1.desc).map (fun d => d.parameters.length) = some n) ∧ k.2.2.1 ≤ 45
theorem z_good {j n : Nat} {k : zI} (h : zcal g j k n) : GoodIn (zTb g) (zwo g k) := by
  intro w hw
  rcases List.mem_cons.mp hw with rfl | hw
  · exact ⟨h.2.2.1, good_of_word (h.2.1 _ h.2.2.1)⟩
  · exact ⟨hw, good_of_word (h.2.1 _ hw)⟩
noncomputable def zcv (j n ci : Nat) : zF := fun _ rec st κ _ => match st with
  | (pc, lo, sk, mem) => match zpp n [] sk with
  | some (As, .ref b :: rest) => match zat mem b with
    | some (.inr o) => Bool.rec none (rec j (.ref b :: As) mem (fun r mem' => κ (pc + 3, lo, r.toList ++ rest, mem'))) (Bool.and (Nat.beq o.1 ci) (Nat.ble (zwd rest) 8))
    | _ => none
  | _ => none
noncomputable def zci (j n : Nat) : zF := fun _ rec st κ _ => match st with
  | (pc, lo, sk, mem) => match zpp n [] sk with
  | some (As, .ref b :: rest) => Bool.rec none (rec j (.ref b :: As) mem (fun r mem' => κ (pc + 3, lo, r.toList ++ rest, mem'))) (Nat.ble (zwd rest) 8)
  | _ => none
noncomputable def zcs (j n : Nat) : zF := fun _ rec st κ _ => match st with
  | (pc, lo, sk, mem) => match zpp n [] sk with
  | some (As, rest) => Bool.rec none (rec j As mem (fun r mem' => κ (pc + 3, lo, r.toList ++ rest, mem'))) (Nat.ble (zwd rest) 8)
  | _ => none
theorem z_list (X : zX) (r : Option Value) (rest : List Value) : (r.map (zU X)).toList ++ rest.map (zU X) = (r.toList ++ rest).map (zU X) := by cases r <;> rfl
theorem ok_callV {j n idx : Nat} {k : zI} {ci : Nat} {q : vw_C} (hk0 : zcal g j k n) (hcl : (zCl g)[ci]? = some q) (hw : Cond.methodLink i.1.cls idx k.1 ∈ zTb g) (hw2 : Cond.instanceMethod k.1 ∈ zTb g) (hw3 : Cond.selects q.1 k.1 k.1 ∈ zTb g) (hd : decode i.2.1 pc = .ok (.invokevirtual idx, 3)) : zOk g i pc (zcv j n ci) := by
  intro X hE d Y rec hrec lo sk mem κ ρ y hf
  left
  unfold zcv at hf
  dsimp only at hf
  split at hf
  · next As b rest hpp =>
    split at hf
    · next o ho =>
      cases hb : Bool.and (Nat.beq o.1 ci) (Nat.ble (zwd rest) 8) with
      | false => rw [hb] at hf; cases hf
      | true =>
        rw [hb] at hf
        obtain ⟨b1, b2⟩ := (Bool.and_eq_true _ _).mp hb
        have hci := Nat.eq_of_beq_eq_true b1
        have b2 := Nat.le_of_ble_eq_true b2
        rw [zat_eq] at ho
        obtain ⟨hn, hsk⟩ := zpp_0 hpp
        obtain ⟨r, mem', hk, hle, hM⟩ := hrec j (.ref b :: As) mem _ y hf
        have hM := hM k hk0.1
        refine ⟨(pc + 3, lo, r.toList ++ rest, mem'), hk, hle, ?_⟩
        intro n0 sl0 p e R s m args below meth c hC hc1 hc2 Q hW H locs ls h1 h2 hP hS hl
        have hc1 : mem'.length ≤ n0 + R.cells := hc1
        have hc2 : zsl mem' ≤ sl0 + R.slots := hc2
        have h1 : n0 ≤ mem.length := h1
        have h2 : sl0 ≤ zsl mem := h2
        show W p (zL X) e R s m args below meth c H locs (mem.length - n0) (zsl mem - sl0) Q (F0 m pc ls (sk.map (zU X)))
        refine z_size (fun hz => ?_)
        have hge : zH X + mem.length ≤ H.size := z_ge (mem := mem) hP hS hC.2.2.2.2.2.2.2.1 h1
        have hsz : H.size = zH X + mem.length := by have := hC.2.2.2.2.2.2.2.1; omega
        obtain ⟨hl1, hl2, -⟩ := hle
        have hb8 : ((rest.map (zU X)).map fun v => v.category).sum ≤ 8 := by have e1 : ((rest.map (zU X)).map fun v => v.category).sum = zwd rest := zwd_m (zH X) (zx X) rest; omega
        have hfr := hC.2.2.2.2.2.2.2.2.2.2.2
        have hpr : ∀ U : State, U.heap = H → s.WarmedH U.vm → va_Pc ((.ref b :: As).map (zU X)) (zPre g X mem) ((.ref b :: As).map (zU X)).toArray U := fun U hU hw => ⟨rfl, z_pre hE hC hsz hP hS U hU hw⟩
        refine z_goes (r := r) (mem' := mem') (mc := mem'.length - mem.length) (ms := zsl mem' - zsl mem) (rest := rest.map (zU X)) rfl (va_runV (C := q.1) (As := As.map (zU X)) (b := zH X + b) ⟨hC.1, hC.2.1, hC.2.2.1, hC.2.2.2.1, hC.2.2.2.2.1⟩ hM ⟨(callB_of (ret := k.2.2.2) n hC.2.2.2.2.1 (z_good hk0) rfl rfl rfl (hC.2.2.2.2.1 _ hk0.2.2.2.1) (hC.2.2.2.2.1 _ hw) hk0.2.2.2.2.1 ⟨by show d + 1 ≤ R.frames; omega, by show 8 + (k.2.2.1 + 11) + 64 * d ≤ R.locals; have := hk0.2.2.2.2.2; omega⟩), hC.2.2.2.2.1 _ hw2, hC.2.2.2.2.1 _ hw3⟩ ⟨z_blind hE _ _, by have := va_recv (q0 := b) hC.2.2.2.2.2.1 hP hcl (by rw [zws_at ho, ← hci]; rfl : (zWs X mem)[b]? = some (zH X + b, .inr (ci, o.2.map (zU X)))); exact this, hpr⟩ rfl (by rw [List.length_map]; exact hn) hl.1 (by rw [hsk]; simp [zu]) (by show 2 * 0 + _ ≤ 8; omega) hd ⟨by omega, by omega⟩) hS (fun H1 locs1 q1 q2 => ?_)
        have := hW H1 locs1 ls (by show n0 ≤ mem'.length; omega) (by show sl0 ≤ zsl mem'; omega) q1 q2 hl
        rw [z_list]
        refine W.cs ?_ ?_ this
        · show _ = mem'.length - n0; omega
        · show _ = zsl mem' - sl0; omega
    · cases hf
  · cases hf
theorem ok_callS {j n idx : Nat} {k : zI} (hk0 : zcal g j k n) (hw : Cond.methodLink i.1.cls idx k.1 ∈ zTb g) (hw2 : Cond.static k.1 ∈ zTb g) (hd : decode i.2.1 pc = .ok (.invokestatic idx, 3)) : zOk g i pc (zcs j n) := by
  intro X hE d Y rec hrec lo sk mem κ ρ y hf
  left
  unfold zcs at hf
  dsimp only at hf
  split at hf
  · next As rest hpp =>
    cases hb : Nat.ble (zwd rest) 8 with
    | false => rw [hb] at hf; cases hf
    | true =>
      rw [hb] at hf
      have b2 := Nat.le_of_ble_eq_true hb
      obtain ⟨hn, hsk⟩ := zpp_0 hpp
      obtain ⟨r, mem', hk, hle, hM⟩ := hrec j (As) mem _ y hf
      have hM := hM k hk0.1
      refine ⟨(pc + 3, lo, r.toList ++ rest, mem'), hk, hle, ?_⟩
      intro n0 sl0 p e R s m args below meth c hC hc1 hc2 Q hW H locs ls h1 h2 hP hS hl
      have hc1 : mem'.length ≤ n0 + R.cells := hc1
      have hc2 : zsl mem' ≤ sl0 + R.slots := hc2
      have h1 : n0 ≤ mem.length := h1
      have h2 : sl0 ≤ zsl mem := h2
      show W p (zL X) e R s m args below meth c H locs (mem.length - n0) (zsl mem - sl0) Q (F0 m pc ls (sk.map (zU X)))
      refine z_size (fun hz => ?_)
      have hge : zH X + mem.length ≤ H.size := z_ge (mem := mem) hP hS hC.2.2.2.2.2.2.2.1 h1
      have hsz : H.size = zH X + mem.length := by have := hC.2.2.2.2.2.2.2.1; omega
      obtain ⟨hl1, hl2, -⟩ := hle
      have hb8 : ((rest.map (zU X)).map fun v => v.category).sum ≤ 8 := by have e1 : ((rest.map (zU X)).map fun v => v.category).sum = zwd rest := zwd_m (zH X) (zx X) rest; omega
      have hfr := hC.2.2.2.2.2.2.2.2.2.2.2
      have hpr : ∀ U : State, U.heap = H → s.WarmedH U.vm → va_Pc ((As).map (zU X)) (zPre g X mem) ((As).map (zU X)).toArray U := fun U hU hw => ⟨rfl, z_pre hE hC hsz hP hS U hU hw⟩
      refine z_goes (r := r) (mem' := mem') (mc := mem'.length - mem.length) (ms := zsl mem' - zsl mem) (rest := rest.map (zU X)) rfl (va_runS (As := As.map (zU X)) ⟨hC.1, hC.2.1, hC.2.2.1, hC.2.2.2.1, hC.2.2.2.2.1⟩ hM ⟨(callB_of (ret := k.2.2.2) n hC.2.2.2.2.1 (z_good hk0) rfl rfl rfl (hC.2.2.2.2.1 _ hk0.2.2.2.1) (hC.2.2.2.2.1 _ hw) hk0.2.2.2.2.1 ⟨by show d + 1 ≤ R.frames; omega, by show 8 + (k.2.2.1 + 11) + 64 * d ≤ R.locals; have := hk0.2.2.2.2.2; omega⟩), hC.2.2.2.2.1 _ hw2⟩ ⟨z_blind hE _ _, hpr⟩ rfl (by rw [List.length_map]; exact hn) hl.1 (by rw [hsk]; simp [zu]) (by show 2 * 0 + _ ≤ 8; omega) hd ⟨by omega, by omega⟩) hS (fun H1 locs1 q1 q2 => ?_)
      have := hW H1 locs1 ls (by show n0 ≤ mem'.length; omega) (by show sl0 ≤ zsl mem'; omega) q1 q2 hl
      rw [z_list]
      refine W.cs ?_ ?_ this
      · show _ = mem'.length - n0; omega
      · show _ = zsl mem' - sl0; omega
  · cases hf
theorem ok_callI {j n idx : Nat} {k : zI} (hk0 : zcal g j k n) (hgn : k.2.2.2 = none) (hin : k.1.name = "<init>") (hw : Cond.methodLink i.1.cls idx k.1 ∈ zTb g) (hw2 : Cond.instanceMethod k.1 ∈ zTb g) (hd : decode i.2.1 pc = .ok (.invokespecial idx, 3)) : zOk g i pc (zci j n) := by
  intro X hE d Y rec hrec lo sk mem κ ρ y hf
  left
  unfold zci at hf
  dsimp only at hf
  split at hf
  · next As b rest hpp =>
    cases hb : Nat.ble (zwd rest) 8 with
    | false => rw [hb] at hf; cases hf
    | true =>
      rw [hb] at hf
      have b2 := Nat.le_of_ble_eq_true hb
      obtain ⟨hn, hsk⟩ := zpp_0 hpp
      obtain ⟨r, mem', hk, hle, hM⟩ := hrec j (.ref b :: As) mem _ y hf
      have hM := hM k hk0.1
      refine ⟨(pc + 3, lo, r.toList ++ rest, mem'), hk, hle, ?_⟩
      intro n0 sl0 p e R s m args below meth c hC hc1 hc2 Q hW H locs ls h1 h2 hP hS hl
      have hc1 : mem'.length ≤ n0 + R.cells := hc1
      have hc2 : zsl mem' ≤ sl0 + R.slots := hc2
      have h1 : n0 ≤ mem.length := h1
      have h2 : sl0 ≤ zsl mem := h2
      show W p (zL X) e R s m args below meth c H locs (mem.length - n0) (zsl mem - sl0) Q (F0 m pc ls (sk.map (zU X)))
      refine z_size (fun hz => ?_)
      have hge : zH X + mem.length ≤ H.size := z_ge (mem := mem) hP hS hC.2.2.2.2.2.2.2.1 h1
      have hsz : H.size = zH X + mem.length := by have := hC.2.2.2.2.2.2.2.1; omega
      obtain ⟨hl1, hl2, -⟩ := hle
      have hb8 : ((rest.map (zU X)).map fun v => v.category).sum ≤ 8 := by have e1 : ((rest.map (zU X)).map fun v => v.category).sum = zwd rest := zwd_m (zH X) (zx X) rest; omega
      have hfr := hC.2.2.2.2.2.2.2.2.2.2.2
      have hpr : ∀ U : State, U.heap = H → s.WarmedH U.vm → va_Pc ((.ref b :: As).map (zU X)) (zPre g X mem) ((.ref b :: As).map (zU X)).toArray U := fun U hU hw => ⟨rfl, z_pre hE hC hsz hP hS U hU hw⟩
      refine z_goes (r := r) (mem' := mem') (mc := mem'.length - mem.length) (ms := zsl mem' - zsl mem) (rest := rest.map (zU X)) rfl (va_runI (As := As.map (zU X)) (b := zH X + b) ⟨hC.1, hC.2.1, hC.2.2.1, hC.2.2.2.1, hC.2.2.2.2.1⟩ (by have hz := hM; simp only [zwo, hgn] at hz; exact hz) ⟨(callB_of (ret := none) n hC.2.2.2.2.1 (hgn ▸ z_good hk0 : GoodIn (zTb g) (Cond.code k.1 k.2.1 k.2.2.1 none :: zTb g)) rfl rfl rfl (hC.2.2.2.2.1 _ hk0.2.2.2.1) (hC.2.2.2.2.1 _ hw) hk0.2.2.2.2.1 ⟨by show d + 1 ≤ R.frames; omega, by show 8 + (k.2.2.1 + 11) + 64 * d ≤ R.locals; have := hk0.2.2.2.2.2; omega⟩), hin, hC.2.2.2.2.1 _ hw2⟩ ⟨z_blind hE _ _, hpr⟩ rfl (by rw [List.length_map]; exact hn) hl.1 (by rw [hsk]; simp [zu]) (by show 2 * 0 + _ ≤ 8; omega) hd ⟨by omega, by omega⟩) hS (fun H1 locs1 q1 q2 => ?_)
      have := hW H1 locs1 ls (by show n0 ≤ mem'.length; omega) (by show sl0 ≤ zsl mem'; omega) q1 q2 hl
      rw [z_list]
      refine W.cs ?_ ?_ this
      · show _ = mem'.length - n0; omega
      · show _ = zsl mem' - sl0; omega
  · cases hf
theorem ok_callSN {j n idx : Nat} {k : zI} {host : String} (hk0 : zcal g j k n) (hw : ∀ X U, zEx g X U → va_Nw (.methodLinkNest i.1.cls idx k.1 host) U) (hw2 : Cond.static k.1 ∈ zTb g) (hd : decode i.2.1 pc = .ok (.invokestatic idx, 3)) : zOk g i pc (zcs j n) := by
  intro X hE d Y rec hrec lo sk mem κ ρ y hf
  left
  unfold zcs at hf
  dsimp only at hf
  split at hf
  · next As rest hpp =>
    cases hb : Nat.ble (zwd rest) 8 with
    | false => rw [hb] at hf; cases hf
    | true =>
      rw [hb] at hf
      have b2 := Nat.le_of_ble_eq_true hb
      obtain ⟨hn, hsk⟩ := zpp_0 hpp
      obtain ⟨r, mem', hk, hle, hM⟩ := hrec j (As) mem _ y hf
      have hM := hM k hk0.1
      refine ⟨(pc + 3, lo, r.toList ++ rest, mem'), hk, hle, ?_⟩
      intro n0 sl0 p e R s m args below meth c hC hc1 hc2 Q hW H locs ls h1 h2 hP hS hl
      have hc1 : mem'.length ≤ n0 + R.cells := hc1
      have hc2 : zsl mem' ≤ sl0 + R.slots := hc2
      have h1 : n0 ≤ mem.length := h1
      have h2 : sl0 ≤ zsl mem := h2
      show W p (zL X) e R s m args below meth c H locs (mem.length - n0) (zsl mem - sl0) Q (F0 m pc ls (sk.map (zU X)))
      refine z_size (fun hz => ?_)
      have hge : zH X + mem.length ≤ H.size := z_ge (mem := mem) hP hS hC.2.2.2.2.2.2.2.1 h1
      have hsz : H.size = zH X + mem.length := by have := hC.2.2.2.2.2.2.2.1; omega
      obtain ⟨hl1, hl2, -⟩ := hle
      have hb8 : ((rest.map (zU X)).map fun v => v.category).sum ≤ 8 := by have e1 : ((rest.map (zU X)).map fun v => v.category).sum = zwd rest := zwd_m (zH X) (zx X) rest; omega
      have hfr := hC.2.2.2.2.2.2.2.2.2.2.2
      have hpr : ∀ U : State, U.heap = H → s.WarmedH U.vm → va_Pc ((As).map (zU X)) (zPre g X mem) ((As).map (zU X)).toArray U := fun U hU hw => ⟨rfl, z_pre hE hC hsz hP hS U hU hw⟩
      refine z_goes (r := r) (mem' := mem') (mc := mem'.length - mem.length) (ms := zsl mem' - zsl mem) (rest := rest.map (zU X)) rfl (va_runSN (As := As.map (zU X)) ⟨hC.1, hC.2.1, hC.2.2.1, hC.2.2.2.1, hC.2.2.2.2.1⟩ hM ⟨(va_cnB (ret := k.2.2.2) n hC.2.2.2.2.1 (z_good hk0) rfl rfl rfl (hw X s hC.2.2.2.2.2.2.1) (hC.2.2.2.2.1 _ hk0.2.2.2.1) hk0.2.2.2.2.1 ⟨by show d + 1 ≤ R.frames; omega, by show 8 + (k.2.2.1 + 11) + 64 * d ≤ R.locals; have := hk0.2.2.2.2.2; omega⟩), hC.2.2.2.2.1 _ hw2, trivial⟩ ⟨z_blind hE _ _, hpr⟩ rfl (by rw [List.length_map]; exact hn) hl.1 (by rw [hsk]; simp [zu]) (by show 2 * 0 + _ ≤ 8; omega) hd ⟨by omega, by omega⟩) hS (fun H1 locs1 q1 q2 => ?_)
      have := hW H1 locs1 ls (by show n0 ≤ mem'.length; omega) (by show sl0 ≤ zsl mem'; omega) q1 q2 hl
      rw [z_list]
      refine W.cs ?_ ?_ this
      · show _ = mem'.length - n0; omega
      · show _ = zsl mem' - sl0; omega
  · cases hf
theorem ok_callVN {j n idx : Nat} {k : zI} {ci : Nat} {q : vw_C} {host : String} (hk0 : zcal g j k n) (hcl : (zCl g)[ci]? = some q) (hw : ∀ X U, zEx g X U → va_Nw (.methodLinkNest i.1.cls idx k.1 host) U) (hw2 : Cond.instanceMethod k.1 ∈ zTb g) (hw3 : Cond.selects q.1 k.1 k.1 ∈ zTb g) (hd : decode i.2.1 pc = .ok (.invokevirtual idx, 3)) : zOk g i pc (zcv j n ci) := by
  intro X hE d Y rec hrec lo sk mem κ ρ y hf
  left
  unfold zcv at hf
  dsimp only at hf
  split at hf
  · next As b rest hpp =>
    split at hf
    · next o ho =>
      cases hb : Bool.and (Nat.beq o.1 ci) (Nat.ble (zwd rest) 8) with
      | false => rw [hb] at hf; cases hf
      | true =>
        rw [hb] at hf
        obtain ⟨b1, b2⟩ := (Bool.and_eq_true _ _).mp hb
        have hci := Nat.eq_of_beq_eq_true b1
        have b2 := Nat.le_of_ble_eq_true b2
        rw [zat_eq] at ho
        obtain ⟨hn, hsk⟩ := zpp_0 hpp
        obtain ⟨r, mem', hk, hle, hM⟩ := hrec j (.ref b :: As) mem _ y hf
        have hM := hM k hk0.1
        refine ⟨(pc + 3, lo, r.toList ++ rest, mem'), hk, hle, ?_⟩
        intro n0 sl0 p e R s m args below meth c hC hc1 hc2 Q hW H locs ls h1 h2 hP hS hl
        have hc1 : mem'.length ≤ n0 + R.cells := hc1
        have hc2 : zsl mem' ≤ sl0 + R.slots := hc2
        have h1 : n0 ≤ mem.length := h1
        have h2 : sl0 ≤ zsl mem := h2
        show W p (zL X) e R s m args below meth c H locs (mem.length - n0) (zsl mem - sl0) Q (F0 m pc ls (sk.map (zU X)))
        refine z_size (fun hz => ?_)
        have hge : zH X + mem.length ≤ H.size := z_ge (mem := mem) hP hS hC.2.2.2.2.2.2.2.1 h1
        have hsz : H.size = zH X + mem.length := by have := hC.2.2.2.2.2.2.2.1; omega
        obtain ⟨hl1, hl2, -⟩ := hle
        have hb8 : ((rest.map (zU X)).map fun v => v.category).sum ≤ 8 := by have e1 : ((rest.map (zU X)).map fun v => v.category).sum = zwd rest := zwd_m (zH X) (zx X) rest; omega
        have hfr := hC.2.2.2.2.2.2.2.2.2.2.2
        have hpr : ∀ U : State, U.heap = H → s.WarmedH U.vm → va_Pc ((.ref b :: As).map (zU X)) (zPre g X mem) ((.ref b :: As).map (zU X)).toArray U := fun U hU hw => ⟨rfl, z_pre hE hC hsz hP hS U hU hw⟩
        refine z_goes (r := r) (mem' := mem') (mc := mem'.length - mem.length) (ms := zsl mem' - zsl mem) (rest := rest.map (zU X)) rfl (va_runVN (C := q.1) (As := As.map (zU X)) (b := zH X + b) ⟨hC.1, hC.2.1, hC.2.2.1, hC.2.2.2.1, hC.2.2.2.2.1⟩ hM ⟨(va_cnB (ret := k.2.2.2) n hC.2.2.2.2.1 (z_good hk0) rfl rfl rfl (hw X s hC.2.2.2.2.2.2.1) (hC.2.2.2.2.1 _ hk0.2.2.2.1) hk0.2.2.2.2.1 ⟨by show d + 1 ≤ R.frames; omega, by show 8 + (k.2.2.1 + 11) + 64 * d ≤ R.locals; have := hk0.2.2.2.2.2; omega⟩), hC.2.2.2.2.1 _ hw2, hC.2.2.2.2.1 _ hw3⟩ ⟨z_blind hE _ _, by have := va_recv (q0 := b) hC.2.2.2.2.2.1 hP hcl (by rw [zws_at ho, ← hci]; rfl : (zWs X mem)[b]? = some (zH X + b, .inr (ci, o.2.map (zU X)))); exact this, hpr⟩ rfl (by rw [List.length_map]; exact hn) hl.1 (by rw [hsk]; simp [zu]) (by show 2 * 0 + _ ≤ 8; omega) hd ⟨by omega, by omega⟩) hS (fun H1 locs1 q1 q2 => ?_)
        have := hW H1 locs1 ls (by show n0 ≤ mem'.length; omega) (by show sl0 ≤ zsl mem'; omega) q1 q2 hl
        rw [z_list]
        refine W.cs ?_ ?_ this
        · show _ = mem'.length - n0; omega
        · show _ = zsl mem' - sl0; omega
    · cases hf
  · cases hf
theorem ok_callIN {j n idx : Nat} {k : zI} {host : String} (hk0 : zcal g j k n) (hgn : k.2.2.2 = none) (hin : k.1.name = "<init>") (hw : ∀ X U, zEx g X U → va_Nw (.methodLinkNest i.1.cls idx k.1 host) U) (hw2 : Cond.instanceMethod k.1 ∈ zTb g) (hd : decode i.2.1 pc = .ok (.invokespecial idx, 3)) : zOk g i pc (zci j n) := by
  intro X hE d Y rec hrec lo sk mem κ ρ y hf
  left
  unfold zci at hf
  dsimp only at hf
  split at hf
  · next As b rest hpp =>
    cases hb : Nat.ble (zwd rest) 8 with
    | false => rw [hb] at hf; cases hf
    | true =>
      rw [hb] at hf
      have b2 := Nat.le_of_ble_eq_true hb
      obtain ⟨hn, hsk⟩ := zpp_0 hpp
      obtain ⟨r, mem', hk, hle, hM⟩ := hrec j (.ref b :: As) mem _ y hf
      have hM := hM k hk0.1
      refine ⟨(pc + 3, lo, r.toList ++ rest, mem'), hk, hle, ?_⟩
      intro n0 sl0 p e R s m args below meth c hC hc1 hc2 Q hW H locs ls h1 h2 hP hS hl
      have hc1 : mem'.length ≤ n0 + R.cells := hc1
      have hc2 : zsl mem' ≤ sl0 + R.slots := hc2
      have h1 : n0 ≤ mem.length := h1
      have h2 : sl0 ≤ zsl mem := h2
      show W p (zL X) e R s m args below meth c H locs (mem.length - n0) (zsl mem - sl0) Q (F0 m pc ls (sk.map (zU X)))
      refine z_size (fun hz => ?_)
      have hge : zH X + mem.length ≤ H.size := z_ge (mem := mem) hP hS hC.2.2.2.2.2.2.2.1 h1
      have hsz : H.size = zH X + mem.length := by have := hC.2.2.2.2.2.2.2.1; omega
      obtain ⟨hl1, hl2, -⟩ := hle
      have hb8 : ((rest.map (zU X)).map fun v => v.category).sum ≤ 8 := by have e1 : ((rest.map (zU X)).map fun v => v.category).sum = zwd rest := zwd_m (zH X) (zx X) rest; omega
      have hfr := hC.2.2.2.2.2.2.2.2.2.2.2
      have hpr : ∀ U : State, U.heap = H → s.WarmedH U.vm → va_Pc ((.ref b :: As).map (zU X)) (zPre g X mem) ((.ref b :: As).map (zU X)).toArray U := fun U hU hw => ⟨rfl, z_pre hE hC hsz hP hS U hU hw⟩
      refine z_goes (r := r) (mem' := mem') (mc := mem'.length - mem.length) (ms := zsl mem' - zsl mem) (rest := rest.map (zU X)) rfl (va_runIN (As := As.map (zU X)) (b := zH X + b) ⟨hC.1, hC.2.1, hC.2.2.1, hC.2.2.2.1, hC.2.2.2.2.1⟩ (by have hz := hM; simp only [zwo, hgn] at hz; exact hz) ⟨(va_cnB (ret := none) n hC.2.2.2.2.1 (hgn ▸ z_good hk0 : GoodIn (zTb g) (Cond.code k.1 k.2.1 k.2.2.1 none :: zTb g)) rfl rfl rfl (hw X s hC.2.2.2.2.2.2.1) (hC.2.2.2.2.1 _ hk0.2.2.2.1) hk0.2.2.2.2.1 ⟨by show d + 1 ≤ R.frames; omega, by show 8 + (k.2.2.1 + 11) + 64 * d ≤ R.locals; have := hk0.2.2.2.2.2; omega⟩), hin, hC.2.2.2.2.1 _ hw2⟩ ⟨z_blind hE _ _, hpr⟩ rfl (by rw [List.length_map]; exact hn) hl.1 (by rw [hsk]; simp [zu]) (by show 2 * 0 + _ ≤ 8; omega) hd ⟨by omega, by omega⟩) hS (fun H1 locs1 q1 q2 => ?_)
      have := hW H1 locs1 ls (by show n0 ≤ mem'.length; omega) (by show sl0 ≤ zsl mem'; omega) q1 q2 hl
      rw [z_list]
      refine W.cs ?_ ?_ this
      · show _ = mem'.length - n0; omega
      · show _ = zsl mem' - sl0; omega
  · cases hf
/-! Object.<init>, arraycopy -/
noncomputable def zoi : zF := fun _ _ st κ _ => match st with
  | (pc, lo, sk, mem) => match sk with
  | .ref _ :: r => Bool.rec none (κ (pc + 3, lo, r, mem)) (Nat.ble (zwd r) 8)
  | _ => none
theorem ok_objInit {idx : Nat} (hw : Cond.methodLink i.1.cls idx Lib.objectInit ∈ zTb g) (hw2 : Cond.instanceMethod Lib.objectInit ∈ zTb g) (hw3 : Cond.code Lib.objectInit ⟨#[0xb1]⟩ 1 none ∈ zTb g) (hd : decode i.2.1 pc = .ok (.invokespecial idx, 3)) : zOk g i pc zoi := by
  intro X hE d Y rec hrec lo sk mem κ ρ y hf
  left
  unfold zoi at hf
  dsimp only at hf
  split at hf
  · next a r =>
    cases hb : Nat.ble (zwd r) 8 with
    | false => rw [hb] at hf; cases hf
    | true =>
      rw [hb] at hf
      have b2 := Nat.le_of_ble_eq_true hb
      refine ⟨(pc + 3, lo, r, mem), hf, zle.rf, ?_⟩
      intro n0 sl0 p e R s m args below meth c hC _ _ Q hW H locs ls h1 h2 hP hS hl
      have hfr := hC.2.2.2.2.2.2.2.2.2.2.2
      have hb8 : ((r.map (zU X)).map fun v => v.category).sum ≤ 8 := by have e1 : ((r.map (zU X)).map fun v => v.category).sum = zwd r := zwd_m (zH X) (zx X) r; omega
      exact W.objInit hC.1 hC.2.1 hC.2.2.2.1 (hC.2.2.2.2.1 _ hw) (hC.2.2.2.2.1 _ hw2) (hC.2.2.2.2.1 _ hw3) (a := zH X + a) (rest := r.map (zU X)) rfl (hl.1.trans hC.2.2.1.symm) rfl hd (by omega) (by show 2 * 0 + _ + 12 ≤ _; omega) (hW H locs ls h1 h2 hP hS hl)
  · cases hf
def zcpl (f g : List Int32) (sp dp n : Nat) : List Int32 := (List.range g.length).map (va_cpy (fun j => f.getD j 0) (fun j => g.getD j 0) sp dp n)
theorem zcpl_len (f g : List Int32) (sp dp n : Nat) : (zcpl f g sp dp n).length = g.length := by simp [zcpl]
theorem zcpl_s {f g : List Int32} {sp dp n : Nat} (h : dp + n ≤ g.length) : (fun j => (zcpl f g sp dp n).getD j 0) = va_cpy (fun j => f.getD j 0) (fun j => g.getD j 0) sp dp n := by
  funext j
  rw [List.getD_eq_getElem?_getD, zcpl, List.getElem?_map]
  by_cases hj : j < g.length
  · rw [List.getElem?_range hj]
    rfl
  · rw [List.getElem?_eq_none (by simpa using hj)]
    unfold va_cpy
    rw [if_neg (by omega)]
    show _ = g.getD j 0
    rw [List.getD_eq_getElem?_getD, List.getElem?_eq_none (by omega)]
    rfl
noncomputable def zcp (t : Nat) : zF := fun _ _ st κ _ => match st with
  | (pc, lo, sk, mem) => match sk with
  | .int n :: .int dp :: .ref a :: .int sp :: .ref a0 :: r => match zat mem a0 with
    | some (.inl (t0, .inl f)) => match zat mem a with
      | some (.inl (t1, .inl f1)) => Bool.rec none (κ (pc + 3, lo, r, mem.set a (.inl (t1, .inl (zcpl f f1 sp.toNatClampNeg dp.toNatClampNeg n.toNatClampNeg))))) (Bool.and (Bool.and (Nat.beq t0 t) (Nat.beq t1 t)) (Bool.and (Bool.and (!decide (sp < 0)) (Bool.and (!decide (dp < 0)) (!decide (n < 0)))) (Bool.and (Bool.and (Nat.ble (sp.toNatClampNeg + n.toNatClampNeg) f.length) (Nat.ble (dp.toNatClampNeg + n.toNatClampNeg) f1.length)) (Nat.ble (zwd r) 8))))
      | _ => none
    | _ => none
  | _ => none
theorem ok_copyi {t idx : Nat} (ht : (zTl g)[t]? = some .int) (hw : Cond.methodLink i.1.cls idx arraycopyName ∈ zTb g) (hw2 : Cond.native arraycopyName ∈ zTb g) (hw3 : Cond.static arraycopyName ∈ zTb g) (hw4 : Cond.initialized "java/lang/System" ∈ zTb g) (hd : decode i.2.1 pc = .ok (.invokestatic idx, 3)) : zOk g i pc (zcp t) := by
  intro X hE d Y rec hrec lo sk mem κ ρ y hf
  left
  unfold zcp at hf
  dsimp only at hf
  split at hf
  · next n dp a sp a0 r =>
    split at hf
    · next t0 f ho0 =>
      split at hf
      · next t1 f1 ho1 =>
        cases hb : Bool.and (Bool.and (Nat.beq t0 t) (Nat.beq t1 t)) (Bool.and (Bool.and (!decide (sp < 0)) (Bool.and (!decide (dp < 0)) (!decide (n < 0)))) (Bool.and (Bool.and (Nat.ble (sp.toNatClampNeg + n.toNatClampNeg) f.length) (Nat.ble (dp.toNatClampNeg + n.toNatClampNeg) f1.length)) (Nat.ble (zwd r) 8))) with
        | false => rw [hb] at hf; cases hf
        | true =>
          rw [hb] at hf
          obtain ⟨b1, b2⟩ := (Bool.and_eq_true _ _).mp hb
          obtain ⟨b11, b12⟩ := (Bool.and_eq_true _ _).mp b1
          obtain ⟨b21, b22⟩ := (Bool.and_eq_true _ _).mp b2
          obtain ⟨c1, c2⟩ := (Bool.and_eq_true _ _).mp b21
          obtain ⟨c2, c3⟩ := (Bool.and_eq_true _ _).mp c2
          obtain ⟨d1, d3⟩ := (Bool.and_eq_true _ _).mp b22
          obtain ⟨d1, d2⟩ := (Bool.and_eq_true _ _).mp d1
          simp only [Bool.not_eq_true', decide_eq_false_iff_not] at c1 c2 c3
          have d1 := Nat.le_of_ble_eq_true d1
          have d2 := Nat.le_of_ble_eq_true d2
          have d3 := Nat.le_of_ble_eq_true d3
          have e0 := Nat.eq_of_beq_eq_true b11
          have e1 := Nat.eq_of_beq_eq_true b12
          subst e0
          subst e1
          rw [zat_eq] at ho0 ho1
          refine ⟨(pc + 3, lo, r, mem.set a (.inl (t1, .inl (zcpl f f1 sp.toNatClampNeg dp.toNatClampNeg n.toNatClampNeg)))), hf, zle.set ho1 (by simp [zsz, zaz, zcpl_len]), ?_⟩
          intro n0 sl0 p e R s m args below meth c hC _ _ Q hW H locs ls h1 h2 hP hS hl
          have hsl : zsl (mem.set a (.inl (t1, .inl (zcpl f f1 sp.toNatClampNeg dp.toNatClampNeg n.toNatClampNeg)))) = zsl mem := zsl_set (c := .inl (t1, .inl f1)) (c' := .inl (t1, .inl (zcpl f f1 sp.toNatClampNeg dp.toNatClampNeg n.toNatClampNeg))) (by simp [zsz, zaz, zcpl_len]) mem a ho1
          have hle : (mem.set a (.inl (t1, .inl (zcpl f f1 sp.toNatClampNeg dp.toNatClampNeg n.toNatClampNeg)))).length = mem.length := by simp
          have hfr := hC.2.2.2.2.2.2.2.2.2.2.2
          have hb8 : ((r.map (zU X)).map fun v => v.category).sum ≤ 8 := by have e1 : ((r.map (zU X)).map fun v => v.category).sum = zwd r := zwd_m (zH X) (zx X) r; omega
          have hnf : nativeFrameWords "java/lang/System" "arraycopy" 5 + 11 ≤ 40 := by decide +kernel
          refine va_copyi hC.1 hC.2.1 (hC.2.2.1.trans hl.1.symm) hC.2.2.2.1 (hC.2.2.2.2.1 _ hw) (hC.2.2.2.2.1 _ hw2) (hC.2.2.2.2.1 _ hw3) (hC.2.2.2.2.1 _ hw4) hC.2.2.2.2.2.1 hP (zws_D _ _ _ _) hS a0 a t1 t1 (zwa_i ho0) (zwa_i ho1) (zTy_at ht) (zTy_at ht) rfl c1 c2 c3 d1 d2 (fun _ _ => rfl) (by omega) (by omega) hd (fun H1 locs1 q1 _ q2 => ?_)
          have e1 : (zWs X mem).set a (zH X + a, .inl (zK X t1, f1.length, .inl (va_cpy (fun j => f.getD j 0) (fun j => f1.getD j 0) sp.toNatClampNeg dp.toNatClampNeg n.toNatClampNeg))) = zWs X (mem.set a (.inl (t1, .inl (zcpl f f1 sp.toNatClampNeg dp.toNatClampNeg n.toNatClampNeg)))) := by
            show _ = zws (zH X) (zx X) (zK X) 0 (mem.set a (.inl (t1, .inl (zcpl f f1 sp.toNatClampNeg dp.toNatClampNeg n.toNatClampNeg))))
            rw [zws_set, Nat.zero_add]
            simp only [zue, zua, zcpl_len]
            rw [zcpl_s d2]
          rw [e1] at q1
          have := hW H1 locs1 ls (by show n0 ≤ (mem.set a (.inl (t1, .inl (zcpl f f1 sp.toNatClampNeg dp.toNatClampNeg n.toNatClampNeg)))).length; rw [hle]; exact h1) (by show sl0 ≤ zsl (mem.set a (.inl (t1, .inl (zcpl f f1 sp.toNatClampNeg dp.toNatClampNeg n.toNatClampNeg)))); rw [hsl]; exact h2) q1 q2 hl
          simp only [hle, hsl] at this
          exact this
      · cases hf
    · cases hf
  · cases hf
noncomputable def zmmax : zF := fun _ _ st κ _ => match st with
  | (pc, lo, sk, mem) => match sk with
  | .int y :: .int x :: r => Bool.rec none (κ (pc + 3, lo, .int (if x < y then y else x) :: r, mem)) (Nat.ble (zwd r) 8)
  | _ => none
theorem ok_mmax {idx : Nat} (hw : Cond.methodLink i.1.cls idx Lib.Math.max.name ∈ zTb g) (hw2 : Cond.static Lib.Math.max.name ∈ zTb g) (hw3 : Cond.initialized "java/lang/Math" ∈ zTb g) (hw4 : Cond.code Lib.Math.max.name Lib.Math.max.code 2 (some .int) ∈ zTb g) (hd : decode i.2.1 pc = .ok (.invokestatic idx, 3)) : zOk g i pc zmmax := by
  intro X hE d Y rec hrec lo sk mem κ ρ y hf
  left
  unfold zmmax at hf
  dsimp only at hf
  split at hf
  · next y x r =>
    cases hb : Nat.ble (zwd r) 8 with
    | false => rw [hb] at hf; cases hf
    | true =>
      rw [hb] at hf
      have b2 := Nat.le_of_ble_eq_true hb
      refine ⟨(pc + 3, lo, .int (if x < y then y else x) :: r, mem), hf, zle.rf, ?_⟩
      intro n0 sl0 p e R s m args below meth c hC hc1 hc2 Q hW H locs ls h1 h2 hP hS hl
      have hc1 : mem.length ≤ n0 + R.cells := hc1
      have hc2 : zsl mem ≤ sl0 + R.slots := hc2
      have hfr := hC.2.2.2.2.2.2.2.2.2.2.2
      have hb8 : ((r.map (zU X)).map fun v => v.category).sum ≤ 8 := by have e1 : ((r.map (zU X)).map fun v => v.category).sum = zwd r := zwd_m (zH X) (zx X) r; omega
      exact va_mmax hC.1 hC.2.1 (hC.2.2.1.trans hl.1.symm) hC.2.2.2.1 (hC.2.2.2.2.1 _ hw) (hC.2.2.2.2.1 _ hw2) (hC.2.2.2.2.1 _ hw3) (hC.2.2.2.2.1 _ hw4) (by omega) (by omega) (by show mem.length - n0 ≤ _; omega) (by show zsl mem - sl0 ≤ _; omega) hd (hW H locs ls h1 h2 hP hS hl)
  · cases hf
noncomputable def zmmin : zF := fun _ _ st κ _ => match st with
  | (pc, lo, sk, mem) => match sk with
  | .int y :: .int x :: r => Bool.rec none (κ (pc + 3, lo, .int (if y < x then y else x) :: r, mem)) (Nat.ble (zwd r) 8)
  | _ => none
theorem ok_mmin {idx : Nat} (hw : Cond.methodLink i.1.cls idx Lib.Math.min.name ∈ zTb g) (hw2 : Cond.static Lib.Math.min.name ∈ zTb g) (hw3 : Cond.initialized "java/lang/Math" ∈ zTb g) (hw4 : Cond.code Lib.Math.min.name Lib.Math.min.code 2 (some .int) ∈ zTb g) (hd : decode i.2.1 pc = .ok (.invokestatic idx, 3)) : zOk g i pc zmmin := by
  intro X hE d Y rec hrec lo sk mem κ ρ y hf
  left
  unfold zmmin at hf
  dsimp only at hf
  split at hf
  · next y x r =>
    cases hb : Nat.ble (zwd r) 8 with
    | false => rw [hb] at hf; cases hf
    | true =>
      rw [hb] at hf
      have b2 := Nat.le_of_ble_eq_true hb
      refine ⟨(pc + 3, lo, .int (if y < x then y else x) :: r, mem), hf, zle.rf, ?_⟩
      intro n0 sl0 p e R s m args below meth c hC hc1 hc2 Q hW H locs ls h1 h2 hP hS hl
      have hc1 : mem.length ≤ n0 + R.cells := hc1
      have hc2 : zsl mem ≤ sl0 + R.slots := hc2
      have hfr := hC.2.2.2.2.2.2.2.2.2.2.2
      have hb8 : ((r.map (zU X)).map fun v => v.category).sum ≤ 8 := by have e1 : ((r.map (zU X)).map fun v => v.category).sum = zwd r := zwd_m (zH X) (zx X) r; omega
      exact va_mmin hC.1 hC.2.1 (hC.2.2.1.trans hl.1.symm) hC.2.2.2.1 (hC.2.2.2.2.1 _ hw) (hC.2.2.2.2.1 _ hw2) (hC.2.2.2.2.1 _ hw3) (hC.2.2.2.2.1 _ hw4) (by omega) (by omega) (by show mem.length - n0 ≤ _; omega) (by show zsl mem - sl0 ≤ _; omega) hd (hW H locs ls h1 h2 hP hS hl)
  · cases hf
/-! what was there before: the text, its bytes, statics (abstract values .retAddr k: the machine's value is 'va_rf (zx X k)') -/
theorem zOk_sx {len : Nat} {gg : List Value → Option (List Value)} (h : ∀ (X : zX) (d n0 : Nat) (p : Program) (e : Env) (R : Room) (s : State) (m : MethodId) (args : Array Value) (below : List Frame) (meth : Method) (c : Code), zC g X i d n0 p R s m args meth c → ∀ sk sk' : List Value, gg sk = some sk' → ∀ (H : Heap) (locs : List Loc) (cells slots : Nat) (Q : State → Prop) (ls : Array Slot), va_S (fun q => zH X ≤ q) s.heap H locs →
    W p (zL X) e R s m args below meth c H locs cells slots Q (F0 m (pc + len) ls (sk'.map (zU X))) → W p (zL X) e R s m args below meth c H locs cells slots Q (F0 m pc ls (sk.map (zU X)))) : zOk g i pc (zst len gg) := by
  intro X hE d Y rec hrec lo sk mem κ ρ y hf
  left
  unfold zst at hf
  dsimp only at hf
  split at hf
  · next sk' hg =>
    refine ⟨(pc + len, lo, sk', mem), hf, zle.rf, ?_⟩
    intro n0 sl0 p e R s m args below meth c hC _ _ Q hW H locs ls h1 h2 hP hS hl
    exact h X d n0 p e R s m args below meth c hC sk sk' hg H locs _ _ Q ls hS (hW H locs ls h1 h2 hP hS hl)
  · cases hf
theorem zU_x {X : zX} {k a : Nat} (h : zx X k = some a) : zU X (.retAddr k) = .ref a := by
  show va_rf (zx X k) = _
  rw [h]
  rfl
theorem ok_ldcS {k idx : Nat} {tx : String} (hx : ∀ X U, zEx g X U → ∃ a, zx X k = some a ∧ vk_R i.1.cls idx tx a U) (hd : decode i.2.1 pc = .ok (.ldc idx, 2)) : zOk g i pc (zst 2 (zp (.retAddr k))) := zOk_st fun X d n0 p e R s m args below meth c hC sk sk' hg H locs cells slots Q ls kk => by
  cases hg
  obtain ⟨a, h1, h2⟩ := hx X s hC.2.2.2.2.2.2.1
  rw [List.map_cons, zU_x h1] at kk
  exact va_ldcS hC.1 hC.2.1 hC.2.2.2.1 h2 hd kk
def zlx (k : Nat) (len : Nat) : zF := fun _ _ st κ _ => match st with
  | (pc, lo, sk, mem) => match zlg lo k with
  | some (.retAddr x) => κ (pc + len, lo, .retAddr x :: sk, mem)
  | _ => none
theorem ok_aloadx {k : Fin 4} {j : Nat} (hd : decode i.2.1 pc = .ok (.aload_n k, 1)) (hj : (k : Nat) = j) : zOk g i pc (zlx j 1) := by
  intro X hE d Y rec hrec lo sk mem κ ρ y hf
  left
  unfold zlx at hf
  dsimp only at hf
  split at hf
  · next x hg =>
    refine ⟨(pc + 1, lo, .retAddr x :: sk, mem), hf, zle.rf, ?_⟩
    intro n0 sl0 p e R s m args below meth c hC _ _ Q hW H locs ls h1 h2 hP hS hl
    have hW := hW H locs ls h1 h2 hP hS hl
    have hg2 : ls[j]? = some (.val (zU X (.retAddr x))) := zlm_at hl hg
    cases hx : zx X x with
    | none =>
      have e1 : zU X (.retAddr x) = .null := by show va_rf (zx X x) = _; rw [hx]; rfl
      rw [e1] at hg2
      simp only [List.map_cons, e1] at hW
      exact lv_aload_nN hC.1 hC.2.1 hd hj hg2 hW
    | some a =>
      rw [zU_x hx] at hg2
      simp only [List.map_cons, zU_x hx] at hW
      exact lv_aload_n hC.1 hC.2.1 hd hj hg2 hW
  · cases hf
def zgx (q : Nat) (v : Value) (sk : List Value) : Option (List Value) := match sk with
  | .retAddr k :: r => bif Nat.beq k q then some (v :: r) else none
  | _ => none
theorem zgx_s {q : Nat} {v : Value} {sk sk' : List Value} (h : zgx q v sk = some sk') : ∃ r, sk = .retAddr q :: r ∧ sk' = v :: r := by
  unfold zgx at h
  split at h
  · next k r =>
    cases hb : Nat.beq k q with
    | false => rw [hb] at h; cases h
    | true =>
      rw [hb] at h
      have := Nat.eq_of_beq_eq_true hb
      subst this
      cases h
      exact ⟨r, rfl, rfl⟩
  · cases h
theorem ok_getx {k idx : Nat} {v : Value} {o n dd ref : String} (hx : ∀ X U, zEx g X U → ∃ a, zx X k = some a ∧ va_OF o n dd (zU X v) a (fun q => zH X ≤ q) U U.heap) (hr : ref = o) (hw : Cond.fieldLink i.1.cls idx ref n dd ∈ zTb g) (hd : decode i.2.1 pc = .ok (.getfield idx, 3)) : zOk g i pc (zst 3 (zgx k v)) := zOk_sx fun X d n0 p e R s m args below meth c hC sk sk' hg H locs cells slots Q ls hS kk => by
  obtain ⟨r, rfl, rfl⟩ := zgx_s hg
  obtain ⟨a, h1, h2⟩ := hx X s hC.2.2.2.2.2.2.1
  rw [List.map_cons, zU_x h1]
  exact vk_getf hC.1 hC.2.1 h2 hS hC.2.2.2.1 (hC.2.2.2.2.1 _ hw) (fun x h => by rw [hr]; exact h) hd kk
theorem ok_getst {idx : Nat} {v : Value} {o n dd ref : String} (hx : ∀ X U, zEx g X U → va_Z o n dd (zU X v) (fun q => zH X ≤ q) U U.heap) (hr : ref = o) (hw : Cond.fieldLink i.1.cls idx ref n dd ∈ zTb g) (hd : decode i.2.1 pc = .ok (.getstatic idx, 3)) : zOk g i pc (zst 3 (zp v)) := zOk_sx fun X d n0 p e R s m args below meth c hC sk sk' hg H locs cells slots Q ls hS kk => by
  cases hg
  exact va_gets hC.1 hC.2.1 (hx X s hC.2.2.2.2.2.2.1) hS hC.2.2.2.1 (hC.2.2.2.2.1 _ hw) (fun x h => by rw [hr]; exact h) hd kk
theorem ok_lenx {k N : Nat} {f : Nat → Value} (hx : ∀ X U, zEx g X U → ∃ a, zx X k = some a ∧ va_T .byte a N f (fun q => zH X ≤ q) U U.heap) {v : Int32} (hv : Int32.ofNat N = v) (hd : decode i.2.1 pc = .ok (.arraylength, 1)) : zOk g i pc (zst 1 (zgx k (.int v))) := zOk_sx fun X d n0 p e R s m args below meth c hC sk sk' hg H locs cells slots Q ls hS kk => by
  obtain ⟨r, rfl, rfl⟩ := zgx_s hg
  obtain ⟨a, h1, h2⟩ := hx X s hC.2.2.2.2.2.2.1
  rw [List.map_cons, zU_x h1]
  exact va_tlen hC.1 hC.2.1 h2 hS hv hd kk
noncomputable def zbx (q N : Nat) (f : Nat → Int32) (sk : List Value) : Option (List Value) := match sk with
  | .int x :: .retAddr k :: r => Bool.rec none (some (.int (f x.toNatClampNeg) :: r)) (Bool.and (Nat.beq k q) (zix x N))
  | _ => none
theorem ok_baloadx {k N : Nat} {f : Nat → Int32} (hx : ∀ X U, zEx g X U → ∃ a, zx X k = some a ∧ va_T .byte a N (fun j => .int (f j)) (fun q => zH X ≤ q) U U.heap) (hd : decode i.2.1 pc = .ok (.baload, 1)) : zOk g i pc (zst 1 (zbx k N f)) := zOk_sx fun X d n0 p e R s m args below meth c hC sk sk' hg H locs cells slots Q ls hS kk => by
  unfold zbx at hg
  split at hg
  · next x q r =>
    cases hb : Bool.and (Nat.beq q k) (zix x N) with
    | false => rw [hb] at hg; cases hg
    | true =>
      rw [hb] at hg
      cases hg
      obtain ⟨b1, b2⟩ := (Bool.and_eq_true _ _).mp hb
      have := Nat.eq_of_beq_eq_true b1
      subst this
      obtain ⟨a, h1, h2⟩ := hx X s hC.2.2.2.2.2.2.1
      rw [List.map_cons, List.map_cons, zU_x h1]
      exact va_tb hC.1 hC.2.1 h2 hS (zix_s b2) rfl hd kk
  · cases hg
def zi2c (sk : List Value) : Option (List Value) := match sk with
  | .int x :: r => some (.int (x.toUInt32 % 65536).toInt32 :: r)
  | _ => none
theorem ok_i2c (hd : decode i.2.1 pc = .ok (.i2c, 1)) : zOk g i pc (zst 1 zi2c) := zOk_st fun X d n0 p e R s m args below meth c hC sk sk' hg H locs cells slots Q ls k => by
  unfold zi2c at hg
  split at hg
  · cases hg; exact lv_i2c hC.1 hC.2.1 hd rfl k
  · cases hg
noncomputable def zrn (ty : FieldType) : zF := fun _ _ st _ ρ => match st with
  | (pc, lo, sk, mem) => match sk with
  | [.int x] => Bool.rec none (ρ (some (.int x)) mem) (decide (narrow ty (.int x) = .int x))
  | _ => none
theorem ok_nreturn {ty : FieldType} (hr : i.2.2.2 = some ty) (hd : decode i.2.1 pc = .ok (.ireturn, 1)) : zOk g i pc (zrn ty) := by
  intro X hE d Y rec hrec lo sk mem κ ρ y hf
  right
  unfold zrn at hf
  dsimp only at hf
  split at hf
  · next x =>
    cases hb : decide (narrow ty (.int x) = .int x) with
    | false => rw [hb] at hf; cases hf
    | true =>
      rw [hb] at hf
      refine ⟨some (.int x), mem, hf, zle.rf, ?_⟩
      intro n0 sl0 p e R s m args below meth c hC H locs ls h1 h2 hP hS hl
      exact W.zret hC.1 hC.2.1 (hC.2.2.2.2.2.2.2.2.2.1.trans hr) (of_decide_eq_true hb) (fun t ht _ => z_ret (r := some (.int x)) hP hS t ht) (fun q hq => hS.2.2 q hq) hd (hlocks := hC.2.2.2.2.2.2.2.2.1)
  · cases hf
noncomputable def zcx (j n q : Nat) : zF := fun _ rec st κ _ => match st with
  | (pc, lo, sk, mem) => match zpp n [] sk with
  | some (As, .retAddr b :: rest) => Bool.rec none (rec j (.retAddr b :: As) mem (fun r mem' => κ (pc + 3, lo, r.toList ++ rest, mem'))) (Bool.and (Nat.beq b q) (Nat.ble (zwd rest) 8))
  | _ => none
theorem ok_callX {j n idx q : Nat} {k : zI} {C : String} (hk0 : zcal g j k n) (hx : ∀ X U, zEx g X U → ∃ a, zx X q = some a ∧ va_O C a (fun q => zH X ≤ q) U U.heap) (hw : Cond.methodLink i.1.cls idx k.1 ∈ zTb g) (hw2 : Cond.instanceMethod k.1 ∈ zTb g) (hw3 : Cond.selects C k.1 k.1 ∈ zTb g) (hd : decode i.2.1 pc = .ok (.invokevirtual idx, 3)) : zOk g i pc (zcx j n q) := by
  intro X hE d Y rec hrec lo sk mem κ ρ y hf
  left
  unfold zcx at hf
  dsimp only at hf
  split at hf
  · next As b rest hpp =>
    cases hb : Bool.and (Nat.beq b q) (Nat.ble (zwd rest) 8) with
    | false => rw [hb] at hf; cases hf
    | true =>
      rw [hb] at hf
      obtain ⟨b1, b2⟩ := (Bool.and_eq_true _ _).mp hb
      have hci := Nat.eq_of_beq_eq_true b1
      subst hci
      have b2 := Nat.le_of_ble_eq_true b2
      obtain ⟨hn, hsk⟩ := zpp_0 hpp
      obtain ⟨r, mem', hk, hle, hM⟩ := hrec j (.retAddr b :: As) mem _ y hf
      have hM := hM k hk0.1
      refine ⟨(pc + 3, lo, r.toList ++ rest, mem'), hk, hle, ?_⟩
      intro n0 sl0 p e R s m args below meth c hC hc1 hc2 Q hW H locs ls h1 h2 hP hS hl
      have hc1 : mem'.length ≤ n0 + R.cells := hc1
      have hc2 : zsl mem' ≤ sl0 + R.slots := hc2
      have h1 : n0 ≤ mem.length := h1
      have h2 : sl0 ≤ zsl mem := h2
      show W p (zL X) e R s m args below meth c H locs (mem.length - n0) (zsl mem - sl0) Q (F0 m pc ls (sk.map (zU X)))
      refine z_size (fun hz => ?_)
      have hge : zH X + mem.length ≤ H.size := z_ge (mem := mem) hP hS hC.2.2.2.2.2.2.2.1 h1
      have hsz : H.size = zH X + mem.length := by have := hC.2.2.2.2.2.2.2.1; omega
      obtain ⟨hl1, hl2, -⟩ := hle
      have hb8 : ((rest.map (zU X)).map fun v => v.category).sum ≤ 8 := by have e1 : ((rest.map (zU X)).map fun v => v.category).sum = zwd rest := zwd_m (zH X) (zx X) rest; omega
      have hfr := hC.2.2.2.2.2.2.2.2.2.2.2
      obtain ⟨a, hx1, hx2⟩ := hx X s hC.2.2.2.2.2.2.1
      have hpr : ∀ U : State, U.heap = H → s.WarmedH U.vm → va_Pc ((.retAddr b :: As).map (zU X)) (zPre g X mem) (Value.ref a :: As.map (zU X)).toArray U := fun U hU hw => ⟨by rw [List.map_cons, zU_x hx1], z_pre hE hC hsz hP hS U hU hw⟩
      obtain ⟨cell, o1, o2, o3, -⟩ := hx2.kept hS.2.1
      refine z_goes (r := r) (mem' := mem') (mc := mem'.length - mem.length) (ms := zsl mem' - zsl mem) (rest := rest.map (zU X)) rfl (va_runV (C := C) (As := As.map (zU X)) (b := a) ⟨hC.1, hC.2.1, hC.2.2.1, hC.2.2.2.1, hC.2.2.2.2.1⟩ hM ⟨(callB_of (ret := k.2.2.2) n hC.2.2.2.2.1 (z_good hk0) rfl rfl rfl (hC.2.2.2.2.1 _ hk0.2.2.2.1) (hC.2.2.2.2.1 _ hw) hk0.2.2.2.2.1 ⟨by show d + 1 ≤ R.frames; omega, by show 8 + (k.2.2.1 + 11) + 64 * d ≤ R.locals; have := hk0.2.2.2.2.2; omega⟩), hC.2.2.2.2.1 _ hw2, hC.2.2.2.2.1 _ hw3⟩ ⟨z_blind hE _ _, ⟨cell, o1, o2, o3⟩, hpr⟩ rfl (by rw [List.length_map]; exact hn) hl.1 (by rw [hsk, List.map_append, List.map_cons, zU_x hx1, List.map_reverse]) (by show 2 * 0 + _ ≤ 8; omega) hd ⟨by omega, by omega⟩) hS (fun H1 locs1 q1 q2 => ?_)
      have := hW H1 locs1 ls (by show n0 ≤ mem'.length; omega) (by show sl0 ≤ zsl mem'; omega) q1 q2 hl
      rw [z_list]
      refine W.cs ?_ ?_ this
      · show _ = mem'.length - n0; omega
      · show _ = zsl mem' - sl0; omega
  · cases hf
end ZO
/-! a method's table of steps, a run, and that it is sound -/
abbrev zT : Type 1 := List (Nat × List (Nat × zF))
def zl0 : List (Nat × zF) → Nat → Option (Nat × zF)
  | [], _ => none
  | q :: r, pc => bif Nat.beq q.1 pc then some q else zl0 r pc
def zlk : zT → Nat → Option (Nat × zF)
  | [], _ => none
  | q :: r, pc => bif Nat.ble (pc + 1) q.1 then zl0 q.2 pc else zlk r pc
def zTok (g : zG) (i : zI) (t : zT) : Prop := ∀ c ∈ t, ∀ q ∈ c.2, zOk g i q.1 q.2
theorem zl0_s {g : zG} {i : zI} {pc : Nat} {f : Nat × zF} : ∀ l : List (Nat × zF), (∀ q ∈ l, zOk g i q.1 q.2) → zl0 l pc = some f → f.1 = pc ∧ zOk g i pc f.2 := by
  intro l
  induction l with
  | nil => intro _ h; cases h
  | cons q r ih =>
    intro hq h
    unfold zl0 at h
    cases hb : Nat.beq q.1 pc with
    | true =>
      rw [hb] at h
      simp only [cond_true, Option.some.injEq] at h
      have := Nat.eq_of_beq_eq_true hb
      subst h
      subst this
      exact ⟨rfl, hq q List.mem_cons_self⟩
    | false =>
      rw [hb] at h
      exact ih (fun x hx => hq x (List.mem_cons_of_mem _ hx)) h
theorem zlk_s {g : zG} {i : zI} {pc : Nat} {f : Nat × zF} : ∀ t : zT, zTok g i t → zlk t pc = some f → f.1 = pc ∧ zOk g i pc f.2 := by
  intro t
  induction t with
  | nil => intro _ h; cases h
  | cons q r ih =>
    intro hq h
    unfold zlk at h
    cases hb : Nat.ble (pc + 1) q.1 with
    | true =>
      rw [hb] at h
      exact zl0_s q.2 (hq q List.mem_cons_self) h
    | false =>
      rw [hb] at h
      exact ih (fun x hx => hq x (List.mem_cons_of_mem _ hx)) h
noncomputable def zgo {Y : Type} (t : zT) (rec : zRec Y) (ρ : Option Value → zM → Option Y) (n : Nat) : zS → Option Y :=
  Nat.rec (fun _ => none) (fun _ ih st => match st with
    | (pc, lo, sk, mem) => match zlk t pc with
      | none => none
      | some q => q.2 Y rec (q.1, lo, sk, mem) ih ρ) n
/-- the program: a method's locals (in words) and its table, by number -/
abbrev zPg : Type 1 := Nat → Option (Nat × zT)
noncomputable def zrun (P : zPg) (fuel : Nat) (d : Nat) : ∀ Y : Type, zRec Y :=
  Nat.rec (fun _ _ _ _ _ => none) (fun _ ih Y j av mem κ => match P j with
    | none => none
    | some t => Bool.rec none (zgo t.2 (ih Y) κ fuel (0, lv_args 0 av, [], mem)) (Nat.ble (zwd av) t.1)) d
theorem zgo_s {g : zG} {X : zX} {i : zI} {d : Nat} {Y : Type} {rec : zRec Y} {t : zT} {ρ : Option Value → zM → Option Y} (hE : zExOk g X) (ht : zTok g i t) (hrec : zRecOk g X d Y rec) {y : Y} : ∀ (n : Nat) (st : zS), zgo t rec ρ n st = some y → ∃ (r : Option Value) (mem' : zM), ρ r mem' = some y ∧ zle st.2.2.2 mem' ∧
    ∀ (n0 sl0 : Nat) (p : Program) (e : Env) (R : Room) (s : State) (m : MethodId) (args : Array Value) (below : List Frame) (meth : Method) (c : Code), zC g X i d n0 p R s m args meth c → mem'.length ≤ n0 + R.cells → zsl mem' ≤ sl0 + R.slots → zW g X i.2.2.1 n0 sl0 p e R s m args below meth c (zQf g X n0 sl0 below args s r mem') st := by
  intro n
  induction n with
  | zero => intro st h; cases h
  | succ n ih =>
    intro st h
    obtain ⟨pc, lo, sk, mem⟩ := st
    have h : (match zlk t pc with
      | none => none
      | some q => q.2 Y rec (q.1, lo, sk, mem) (zgo t rec ρ n) ρ) = some y := h
    split at h
    · cases h
    · next f hf =>
      obtain ⟨hpc, hok⟩ := zlk_s t ht hf
      rw [hpc] at h
      rcases hok X hE d Y rec hrec lo sk mem _ _ y h with ⟨st', h1, h2, h3⟩ | ⟨r, mem', h1, h2, h3⟩
      · obtain ⟨r, mem', k1, k2, k3⟩ := ih st' h1
        refine ⟨r, mem', k1, h2.tr k2, ?_⟩
        intro n0 sl0 p e R s m args below meth c hC hc1 hc2
        exact h3 n0 sl0 p e R s m args below meth c hC (Nat.le_trans k2.1 hc1) (Nat.le_trans k2.2.1 hc2) _ (k3 n0 sl0 p e R s m args below meth c hC hc1 hc2)
      · refine ⟨r, mem', h1, h2, ?_⟩
        intro n0 sl0 p e R s m args below meth c hC _ _
        exact h3 n0 sl0 p e R s m args below meth c hC
/-- every method of the program is one of the system's, its table sound -/
def zPok (g : zG) (P : zPg) : Prop := ∀ (j : Nat) (t : Nat × zT), P j = some t → ∃ i : zI, zMt g j = some i ∧ plainFor i.1 = true ∧ i.2.2.1 = t.1 ∧ zTok g i t.2
theorem z_sound {g : zG} {X : zX} {P : zPg} {fuel : Nat} (hE : zExOk g X) (hP : zPok g P) : ∀ (d : Nat) (Y : Type), zRecOk g X d Y (zrun P fuel d Y) := by
  intro d
  induction d with
  | zero => intro Y j av mem κ y h; cases h
  | succ d ih =>
    intro Y j av mem κ y h
    have h : (match P j with
      | none => none
      | some t => Bool.rec none (zgo t.2 (zrun P fuel d Y) κ fuel (0, lv_args 0 av, [], mem)) (Nat.ble (zwd av) t.1)) = some y := h
    split at h
    · cases h
    · next t ht =>
      cases hb : Nat.ble (zwd av) t.1 with
      | false => rw [hb] at h; cases h
      | true =>
        rw [hb] at h
        have hwl := Nat.le_of_ble_eq_true hb
        obtain ⟨i, hi, hpn, hnl, hok⟩ := hP j t ht
        obtain ⟨r, mem', k1, k2, k3⟩ := zgo_s hE hok (ih Y) fuel _ h
        refine ⟨r, mem', k1, k2, ?_⟩
        intro i' hi'
        have hii : i' = i := Option.some.inj (hi'.symm.trans hi)
        subst hii
        refine va_MetF (cc := i'.2.1) (maxL := i'.2.2.1) (ret := i'.2.2.2) hpn rfl ?_
        intro p e s m args below meth c s₁ B hml hv
        obtain ⟨rfl, g1, g2, g3, g4⟩ := hv
        have hts := atoms_spec (ws := zwo g i') B.pre
        have hl := lv_entry (av.map (zU X)) (n := i'.2.2.1) (by rw [zwd_sl]; have e1 : zwd (av.map (zU X)) = zwd av := zwd_m (zH X) (zx X) av; omega)
        rw [lg_entry_eq]
        generalize (lg_sl (av.map (zU X)) ++ List.replicate (i'.2.2.1 - (lg_sl (av.map (zU X))).length) Slot.unset).toArray = ls at hl ⊢
        rw [zlm_args] at hl
        have hC : zC g X i' d mem.length p (zrm (d + 1) mem mem') s m (av.map (zU X)).toArray meth c := ⟨B.exec, B.bytes, hml, findClass_of_methodNamed B.named, fun w hw => hts w (List.mem_cons_of_mem _ hw), g3, g4, g1, B.notSynchronized, B.returns, fun q => (name_of_methodNamed B.named B.method).1.trans q, Nat.le_refl _, Nat.le_refl _⟩
        have := k3 mem.length (zsl mem) p e (zrm (d + 1) mem mem') s m _ below meth c hC (by show mem'.length ≤ mem.length + (mem'.length - mem.length); have := k2.1; simp only at this; omega) (by show zsl mem' ≤ zsl mem + (zsl mem' - zsl mem); have := k2.2.1; simp only at this; omega) s.heap [] ls (Nat.le_refl _) (Nat.le_refl _) g2 va_S.rf hl
        refine W.cs ?_ ?_ this
        · show 0 = mem.length - mem.length; omega
        · show 0 = zsl mem - zsl mem; omega
