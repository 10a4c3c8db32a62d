abbrev zY : Type := Option Value × Option Value × Nat
def zRes (z : Option zY) : Prop := ∃ v : Int32, z = some (some (.int v), some (.int v), 269)
theorem z_leaf {v : Int32} {z : Option zY} (h : z = some (some (.int v), some (.int v), 269)) : zRes z := ⟨v, h⟩
theorem z_b2 {b : Bool} {F T : Option zY} (hT : b = true → zRes T) (hF : b = false → zRes F) : zRes (Bool.rec F T b) := by
  cases b with
  | true => exact hT rfl
  | false => exact hF rfl
/-- the model's object is still one -/
noncomputable def zisM (m1 : zM) (A : Option zY) : Option zY := match zat m1 221 with
  | some (.inr o) => Bool.rec none A (Nat.beq o.1 12)
  | _ => none
theorem zisM_s {m1 : zM} {A : Option zY} {y : zY} (h : zisM m1 A = some y) : A = some y ∧ ∃ fs, zat m1 221 = some (.inr (12, fs)) := by
  unfold zisM at h
  split at h
  · next o ho =>
    cases hb : Nat.beq o.1 12 with
    | false => rw [hb] at h; cases h
    | true =>
      rw [hb] at h
      have := Nat.eq_of_beq_eq_true hb
      exact ⟨h, o.2, by rw [ho, ← this]⟩
  · cases h
noncomputable def zboth (jx jm : Nat) (av : List Value) : Option zY := zrun zpg 100000 12 zY jx (.ref 0 :: av) zfm (fun r1 m1 => zisM m1 (zrun zpg 100000 12 zY jm (.ref 221 :: av) m1 (fun r2 m2 => some (r1, r2, m2.length))))
theorem q_lt_t {w : Int32} (c : Int32) {n : Int} (hn : c.toInt = n) (h : decide (w < c) = true) : w.toInt < n := by subst hn; have := of_decide_eq_true h; simpa [Int32.lt_iff_toInt_lt, Int32.le_iff_toInt_le] using this
theorem q_lt_f {w : Int32} (c : Int32) {n : Int} (hn : c.toInt = n) (h : decide (w < c) = false) : n ≤ w.toInt := by subst hn; have := of_decide_eq_false h; simpa [Int32.lt_iff_toInt_lt, Int32.le_iff_toInt_le] using this
theorem q_ge_t {w : Int32} (c : Int32) {n : Int} (hn : c.toInt = n) (h : decide (c ≤ w) = true) : n ≤ w.toInt := by subst hn; have := of_decide_eq_true h; simpa [Int32.lt_iff_toInt_lt, Int32.le_iff_toInt_le] using this
theorem q_ge_f {w : Int32} (c : Int32) {n : Int} (hn : c.toInt = n) (h : decide (c ≤ w) = false) : w.toInt < n := by subst hn; have := of_decide_eq_false h; simpa [Int32.lt_iff_toInt_lt, Int32.le_iff_toInt_le] using this
theorem q_gt_t {w : Int32} (c : Int32) {n : Int} (hn : c.toInt = n) (h : decide (c < w) = true) : n < w.toInt := by subst hn; have := of_decide_eq_true h; simpa [Int32.lt_iff_toInt_lt, Int32.le_iff_toInt_le] using this
theorem q_gt_f {w : Int32} (c : Int32) {n : Int} (hn : c.toInt = n) (h : decide (c < w) = false) : w.toInt ≤ n := by subst hn; have := of_decide_eq_false h; simpa [Int32.lt_iff_toInt_lt, Int32.le_iff_toInt_le] using this
theorem q_le_t {w : Int32} (c : Int32) {n : Int} (hn : c.toInt = n) (h : decide (w ≤ c) = true) : w.toInt ≤ n := by subst hn; have := of_decide_eq_true h; simpa [Int32.lt_iff_toInt_lt, Int32.le_iff_toInt_le] using this
theorem q_le_f {w : Int32} (c : Int32) {n : Int} (hn : c.toInt = n) (h : decide (w ≤ c) = false) : n < w.toInt := by subst hn; have := of_decide_eq_false h; simpa [Int32.lt_iff_toInt_lt, Int32.le_iff_toInt_le] using this
theorem q_eq_t {w : Int32} (c : Int32) {n : Int} (hn : c.toInt = n) (h : decide (w = c) = true) : w.toInt = n := by subst hn; rw [of_decide_eq_true h]
theorem q_eq_f {w : Int32} (c : Int32) {n : Int} (hn : c.toInt = n) (h : decide (w = c) = false) : ¬ w.toInt = n := by subst hn; exact fun q => of_decide_eq_false h (Int32.toInt_inj.mp q)
theorem q_ne_t {w : Int32} (c : Int32) {n : Int} (hn : c.toInt = n) (h : (!decide (w = c)) = true) : ¬ w.toInt = n := q_eq_f c hn (by simpa using h)
theorem q_ne_f {w : Int32} (c : Int32) {n : Int} (hn : c.toInt = n) (h : (!decide (w = c)) = false) : w.toInt = n := q_eq_t c hn (by simpa using h)
