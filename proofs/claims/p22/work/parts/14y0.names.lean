/-! the class's quay as it is told: its asks -/
def quA : List (Bool × aTy) := match aat aT0 2 with
  | some (.inr o) => o.2
  | _ => []
set_option maxRecDepth 100000 in
theorem quA_e : aat aT0 2 = some (.inr (4, quA)) := rfl
set_option maxRecDepth 100000 in
theorem quA_0 : quA[0]? = some (true, .inl (-2147483648, 2147483647)) := rfl
set_option maxRecDepth 100000 in
theorem quA_1 : quA[1]? = some (true, .inl (-2147483648, 2147483647)) := rfl
set_option maxRecDepth 100000 in
theorem quA_2 : quA[2]? = some (true, .inl (-2147483648, 2147483647)) := rfl
set_option maxRecDepth 100000 in
theorem quA_3 : quA[3]? = some (true, .inl (-2147483648, 2147483647)) := rfl
set_option maxRecDepth 100000 in
theorem quA_4 : quA[4]? = some (true, .inl (-2147483648, 2147483647)) := rfl
set_option maxRecDepth 100000 in
theorem quA_5 : quA[5]? = some (true, .inr none) := rfl
set_option maxRecDepth 100000 in
theorem quA_6 : quA[6]? = some (true, .inr none) := rfl
set_option maxRecDepth 100000 in
theorem quA_7 : quA[7]? = some (true, .inl (0, 9)) := rfl
theorem quA_r7 {m : zM} (hm : aTm aT0 m) : 0 ≤ (gi m 2 7).toInt ∧ (gi m 2 7).toInt ≤ 9 := gi_rg quA_e quA_7 hm
set_option maxRecDepth 100000 in
theorem quA_8 : quA[8]? = some (true, .inr (some [3])) := rfl
set_option maxRecDepth 100000 in
theorem quA_9 : quA[9]? = some (true, .inr (some [4])) := rfl
set_option maxRecDepth 100000 in
theorem quA_10 : quA[10]? = some (true, .inr (some [5])) := rfl
set_option maxRecDepth 100000 in
theorem quA_11 : quA[11]? = some (true, .inr (some [6])) := rfl
set_option maxRecDepth 100000 in
theorem quA_12 : quA[12]? = some (true, .inl (0, 511)) := rfl
theorem quA_r12 {m : zM} (hm : aTm aT0 m) : 0 ≤ (gi m 2 12).toInt ∧ (gi m 2 12).toInt ≤ 511 := gi_rg quA_e quA_12 hm
set_option maxRecDepth 100000 in
theorem quA_13 : quA[13]? = some (true, .inl (0, 6)) := rfl
theorem quA_r13 {m : zM} (hm : aTm aT0 m) : 0 ≤ (gi m 2 13).toInt ∧ (gi m 2 13).toInt ≤ 6 := gi_rg quA_e quA_13 hm
set_option maxRecDepth 100000 in
theorem quA_14 : quA[14]? = some (true, .inr (some [7])) := rfl
set_option maxRecDepth 100000 in
theorem quA_15 : quA[15]? = some (true, .inr (some [8])) := rfl
set_option maxRecDepth 100000 in
theorem quA_16 : quA[16]? = some (true, .inr (some [9])) := rfl
set_option maxRecDepth 100000 in
theorem quA_17 : quA[17]? = some (true, .inr (some [10])) := rfl
set_option maxRecDepth 100000 in
theorem aR_3 : aat aT0 3 = some (.inl (true, 0, 9, .inl (-2147483648, 2147483647))) := rfl
theorem gR_3 {m : zM} (hm : aTm aT0 m) {i : Int} (h0 : 0 ≤ i) (h1 : i < 9) : -2147483648 ≤ gn (ga m 3) i ∧ gn (ga m 3) i ≤ 2147483647 := gn_rg aR_3 hm h0 h1
theorem gl_3 {m : zM} (hm : aTm aT0 m) : (ga m 3).length = 9 := (ga_ty aR_3 hm).2.1
set_option maxRecDepth 100000 in
theorem aR_4 : aat aT0 4 = some (.inl (true, 0, 9, .inl (-2147483648, 2147483647))) := rfl
theorem gR_4 {m : zM} (hm : aTm aT0 m) {i : Int} (h0 : 0 ≤ i) (h1 : i < 9) : -2147483648 ≤ gn (ga m 4) i ∧ gn (ga m 4) i ≤ 2147483647 := gn_rg aR_4 hm h0 h1
theorem gl_4 {m : zM} (hm : aTm aT0 m) : (ga m 4).length = 9 := (ga_ty aR_4 hm).2.1
set_option maxRecDepth 100000 in
theorem aR_5 : aat aT0 5 = some (.inl (true, 0, 9, .inl (-2147483648, 2147483647))) := rfl
theorem gR_5 {m : zM} (hm : aTm aT0 m) {i : Int} (h0 : 0 ≤ i) (h1 : i < 9) : -2147483648 ≤ gn (ga m 5) i ∧ gn (ga m 5) i ≤ 2147483647 := gn_rg aR_5 hm h0 h1
theorem gl_5 {m : zM} (hm : aTm aT0 m) : (ga m 5).length = 9 := (ga_ty aR_5 hm).2.1
set_option maxRecDepth 100000 in
theorem aR_6 : aat aT0 6 = some (.inl (true, 0, 9, .inl (-2147483648, 2147483647))) := rfl
theorem gR_6 {m : zM} (hm : aTm aT0 m) {i : Int} (h0 : 0 ≤ i) (h1 : i < 9) : -2147483648 ≤ gn (ga m 6) i ∧ gn (ga m 6) i ≤ 2147483647 := gn_rg aR_6 hm h0 h1
theorem gl_6 {m : zM} (hm : aTm aT0 m) : (ga m 6).length = 9 := (ga_ty aR_6 hm).2.1
set_option maxRecDepth 100000 in
theorem aR_7 : aat aT0 7 = some (.inl (true, 0, 6, .inl (-2147483648, 2147483647))) := rfl
theorem gR_7 {m : zM} (hm : aTm aT0 m) {i : Int} (h0 : 0 ≤ i) (h1 : i < 6) : -2147483648 ≤ gn (ga m 7) i ∧ gn (ga m 7) i ≤ 2147483647 := gn_rg aR_7 hm h0 h1
theorem gl_7 {m : zM} (hm : aTm aT0 m) : (ga m 7).length = 6 := (ga_ty aR_7 hm).2.1
set_option maxRecDepth 100000 in
theorem aR_8 : aat aT0 8 = some (.inl (true, 0, 6, .inl (-2147483648, 2147483647))) := rfl
theorem gR_8 {m : zM} (hm : aTm aT0 m) {i : Int} (h0 : 0 ≤ i) (h1 : i < 6) : -2147483648 ≤ gn (ga m 8) i ∧ gn (ga m 8) i ≤ 2147483647 := gn_rg aR_8 hm h0 h1
theorem gl_8 {m : zM} (hm : aTm aT0 m) : (ga m 8).length = 6 := (ga_ty aR_8 hm).2.1
set_option maxRecDepth 100000 in
theorem aR_9 : aat aT0 9 = some (.inl (true, 0, 6, .inl (-2147483648, 2147483647))) := rfl
theorem gR_9 {m : zM} (hm : aTm aT0 m) {i : Int} (h0 : 0 ≤ i) (h1 : i < 6) : -2147483648 ≤ gn (ga m 9) i ∧ gn (ga m 9) i ≤ 2147483647 := gn_rg aR_9 hm h0 h1
theorem gl_9 {m : zM} (hm : aTm aT0 m) : (ga m 9).length = 6 := (ga_ty aR_9 hm).2.1
set_option maxRecDepth 100000 in
theorem aR_12 : aat aT0 12 = some (.inl (true, 0, 3, .inl (0, 1600))) := rfl
theorem gR_12 {m : zM} (hm : aTm aT0 m) {i : Int} (h0 : 0 ≤ i) (h1 : i < 3) : 0 ≤ gn (ga m 12) i ∧ gn (ga m 12) i ≤ 1600 := gn_rg aR_12 hm h0 h1
theorem gl_12 {m : zM} (hm : aTm aT0 m) : (ga m 12).length = 3 := (ga_ty aR_12 hm).2.1
set_option maxRecDepth 100000 in
theorem aR_13 : aat aT0 13 = some (.inl (true, 0, 3, .inl (0, 1600))) := rfl
theorem gR_13 {m : zM} (hm : aTm aT0 m) {i : Int} (h0 : 0 ≤ i) (h1 : i < 3) : 0 ≤ gn (ga m 13) i ∧ gn (ga m 13) i ≤ 1600 := gn_rg aR_13 hm h0 h1
theorem gl_13 {m : zM} (hm : aTm aT0 m) : (ga m 13).length = 3 := (ga_ty aR_13 hm).2.1
def quB : List (Bool × aTy) := match aat aT0 14 with
  | some (.inr o) => o.2
  | _ => []
set_option maxRecDepth 100000 in
theorem quB_e : aat aT0 14 = some (.inr (4, quB)) := rfl
set_option maxRecDepth 100000 in
theorem quB_0 : quB[0]? = some (true, .inl (-2147483648, 2147483647)) := rfl
set_option maxRecDepth 100000 in
theorem quB_1 : quB[1]? = some (true, .inl (-2147483648, 2147483647)) := rfl
set_option maxRecDepth 100000 in
theorem quB_2 : quB[2]? = some (true, .inl (-2147483648, 2147483647)) := rfl
set_option maxRecDepth 100000 in
theorem quB_3 : quB[3]? = some (true, .inl (-2147483648, 2147483647)) := rfl
set_option maxRecDepth 100000 in
theorem quB_4 : quB[4]? = some (true, .inl (-2147483648, 2147483647)) := rfl
set_option maxRecDepth 100000 in
theorem quB_5 : quB[5]? = some (true, .inr none) := rfl
set_option maxRecDepth 100000 in
theorem quB_6 : quB[6]? = some (true, .inr none) := rfl
set_option maxRecDepth 100000 in
theorem quB_7 : quB[7]? = some (true, .inl (0, 9)) := rfl
theorem quB_r7 {m : zM} (hm : aTm aT0 m) : 0 ≤ (gi m 14 7).toInt ∧ (gi m 14 7).toInt ≤ 9 := gi_rg quB_e quB_7 hm
set_option maxRecDepth 100000 in
theorem quB_8 : quB[8]? = some (true, .inr (some [15])) := rfl
set_option maxRecDepth 100000 in
theorem quB_9 : quB[9]? = some (true, .inr (some [16])) := rfl
set_option maxRecDepth 100000 in
theorem quB_10 : quB[10]? = some (true, .inr (some [17])) := rfl
set_option maxRecDepth 100000 in
theorem quB_11 : quB[11]? = some (true, .inr (some [18])) := rfl
set_option maxRecDepth 100000 in
theorem quB_12 : quB[12]? = some (true, .inl (0, 511)) := rfl
theorem quB_r12 {m : zM} (hm : aTm aT0 m) : 0 ≤ (gi m 14 12).toInt ∧ (gi m 14 12).toInt ≤ 511 := gi_rg quB_e quB_12 hm
set_option maxRecDepth 100000 in
theorem quB_13 : quB[13]? = some (true, .inl (0, 6)) := rfl
theorem quB_r13 {m : zM} (hm : aTm aT0 m) : 0 ≤ (gi m 14 13).toInt ∧ (gi m 14 13).toInt ≤ 6 := gi_rg quB_e quB_13 hm
set_option maxRecDepth 100000 in
theorem quB_14 : quB[14]? = some (true, .inr (some [19])) := rfl
set_option maxRecDepth 100000 in
theorem quB_15 : quB[15]? = some (true, .inr (some [20])) := rfl
set_option maxRecDepth 100000 in
theorem quB_16 : quB[16]? = some (true, .inr (some [21])) := rfl
set_option maxRecDepth 100000 in
theorem quB_17 : quB[17]? = some (true, .inr (some [22])) := rfl
set_option maxRecDepth 100000 in
theorem aR_15 : aat aT0 15 = some (.inl (true, 0, 9, .inl (-2147483648, 2147483647))) := rfl
theorem gR_15 {m : zM} (hm : aTm aT0 m) {i : Int} (h0 : 0 ≤ i) (h1 : i < 9) : -2147483648 ≤ gn (ga m 15) i ∧ gn (ga m 15) i ≤ 2147483647 := gn_rg aR_15 hm h0 h1
theorem gl_15 {m : zM} (hm : aTm aT0 m) : (ga m 15).length = 9 := (ga_ty aR_15 hm).2.1
set_option maxRecDepth 100000 in
theorem aR_16 : aat aT0 16 = some (.inl (true, 0, 9, .inl (-2147483648, 2147483647))) := rfl
theorem gR_16 {m : zM} (hm : aTm aT0 m) {i : Int} (h0 : 0 ≤ i) (h1 : i < 9) : -2147483648 ≤ gn (ga m 16) i ∧ gn (ga m 16) i ≤ 2147483647 := gn_rg aR_16 hm h0 h1
theorem gl_16 {m : zM} (hm : aTm aT0 m) : (ga m 16).length = 9 := (ga_ty aR_16 hm).2.1
set_option maxRecDepth 100000 in
theorem aR_17 : aat aT0 17 = some (.inl (true, 0, 9, .inl (-2147483648, 2147483647))) := rfl
theorem gR_17 {m : zM} (hm : aTm aT0 m) {i : Int} (h0 : 0 ≤ i) (h1 : i < 9) : -2147483648 ≤ gn (ga m 17) i ∧ gn (ga m 17) i ≤ 2147483647 := gn_rg aR_17 hm h0 h1
theorem gl_17 {m : zM} (hm : aTm aT0 m) : (ga m 17).length = 9 := (ga_ty aR_17 hm).2.1
set_option maxRecDepth 100000 in
theorem aR_18 : aat aT0 18 = some (.inl (true, 0, 9, .inl (-2147483648, 2147483647))) := rfl
theorem gR_18 {m : zM} (hm : aTm aT0 m) {i : Int} (h0 : 0 ≤ i) (h1 : i < 9) : -2147483648 ≤ gn (ga m 18) i ∧ gn (ga m 18) i ≤ 2147483647 := gn_rg aR_18 hm h0 h1
theorem gl_18 {m : zM} (hm : aTm aT0 m) : (ga m 18).length = 9 := (ga_ty aR_18 hm).2.1
set_option maxRecDepth 100000 in
theorem aR_19 : aat aT0 19 = some (.inl (true, 0, 6, .inl (-2147483648, 2147483647))) := rfl
theorem gR_19 {m : zM} (hm : aTm aT0 m) {i : Int} (h0 : 0 ≤ i) (h1 : i < 6) : -2147483648 ≤ gn (ga m 19) i ∧ gn (ga m 19) i ≤ 2147483647 := gn_rg aR_19 hm h0 h1
theorem gl_19 {m : zM} (hm : aTm aT0 m) : (ga m 19).length = 6 := (ga_ty aR_19 hm).2.1
set_option maxRecDepth 100000 in
theorem aR_20 : aat aT0 20 = some (.inl (true, 0, 6, .inl (-2147483648, 2147483647))) := rfl
theorem gR_20 {m : zM} (hm : aTm aT0 m) {i : Int} (h0 : 0 ≤ i) (h1 : i < 6) : -2147483648 ≤ gn (ga m 20) i ∧ gn (ga m 20) i ≤ 2147483647 := gn_rg aR_20 hm h0 h1
theorem gl_20 {m : zM} (hm : aTm aT0 m) : (ga m 20).length = 6 := (ga_ty aR_20 hm).2.1
set_option maxRecDepth 100000 in
theorem aR_21 : aat aT0 21 = some (.inl (true, 0, 6, .inl (-2147483648, 2147483647))) := rfl
theorem gR_21 {m : zM} (hm : aTm aT0 m) {i : Int} (h0 : 0 ≤ i) (h1 : i < 6) : -2147483648 ≤ gn (ga m 21) i ∧ gn (ga m 21) i ≤ 2147483647 := gn_rg aR_21 hm h0 h1
theorem gl_21 {m : zM} (hm : aTm aT0 m) : (ga m 21).length = 6 := (ga_ty aR_21 hm).2.1
set_option maxRecDepth 100000 in
theorem aR_24 : aat aT0 24 = some (.inl (true, 0, 3, .inl (0, 1600))) := rfl
theorem gR_24 {m : zM} (hm : aTm aT0 m) {i : Int} (h0 : 0 ≤ i) (h1 : i < 3) : 0 ≤ gn (ga m 24) i ∧ gn (ga m 24) i ≤ 1600 := gn_rg aR_24 hm h0 h1
theorem gl_24 {m : zM} (hm : aTm aT0 m) : (ga m 24).length = 3 := (ga_ty aR_24 hm).2.1
set_option maxRecDepth 100000 in
theorem aR_25 : aat aT0 25 = some (.inl (true, 0, 3, .inl (0, 1600))) := rfl
theorem gR_25 {m : zM} (hm : aTm aT0 m) {i : Int} (h0 : 0 ≤ i) (h1 : i < 3) : 0 ≤ gn (ga m 25) i ∧ gn (ga m 25) i ≤ 1600 := gn_rg aR_25 hm h0 h1
theorem gl_25 {m : zM} (hm : aTm aT0 m) : (ga m 25).length = 3 := (ga_ty aR_25 hm).2.1
def tO : List (Bool × aTy) := match aat aT0 26 with
  | some (.inr o) => o.2
  | _ => []
set_option maxRecDepth 100000 in
theorem tO_e : aat aT0 26 = some (.inr (9, tO)) := rfl
set_option maxRecDepth 100000 in
theorem tO_0 : tO[0]? = some (false, .inr (some [27])) := rfl
set_option maxRecDepth 100000 in
theorem tO_1 : tO[1]? = some (false, .inr (some [30])) := rfl
set_option maxRecDepth 100000 in
theorem tO_2 : tO[2]? = some (false, .inr (some [2, 14])) := rfl
set_option maxRecDepth 100000 in
theorem tO_3 : tO[3]? = some (false, .inl (-2147483648, 2147483647)) := rfl
section CQ
/-- the bit i of a long -/
def bL (x : Int64) (i : Int) : Prop := x.toBitVec.getLsbD i.toNat = true
theorem i64_sa {k : Int32} (h0 : 0 ≤ k.toInt) (h1 : k.toInt < 64) : ((k.toInt64 &&& 63).toBitVec.smod 64).toNat = k.toInt.toNat := by
  have e : k = Int32.ofNat k.toInt.toNat := i32_of h0
  have h : ∀ K : Fin 64, (((Int32.ofNat K.val).toInt64 &&& 63).toBitVec.smod 64).toNat = K.val := by decide
  have z := h ⟨k.toInt.toNat, by omega⟩
  rw [← e] at z
  exact z
theorem bL_b {k : Int32} {i : Nat} (h0 : 0 ≤ k.toInt) (h1 : k.toInt < 64) (i1 : i < 64) : ((1 : Int64) <<< (k.toInt64 &&& 63)).toBitVec.getLsbD i = decide (i = k.toInt.toNat) := by
  show ((1#64 : BitVec 64) <<< ((k.toInt64 &&& 63).toBitVec.smod 64).toNat).getLsbD i = _
  rw [i64_sa h0 h1, BitVec.getLsbD_shiftLeft]
  have hK : k.toInt.toNat < 64 := by omega
  generalize k.toInt.toNat = K at hK ⊢
  rw [BitVec.getLsbD_one]
  by_cases w : i = K
  · subst w
    simp
    omega
  · rw [decide_eq_false w]
    simp
    omega
theorem bL_1 {k : Int32} {i : Int} (h0 : 0 ≤ k.toInt) (h1 : k.toInt < 64) (i0 : 0 ≤ i) (i1 : i < 64) : bL ((1 : Int64) <<< (k.toInt64 &&& 63)) i ↔ i = k.toInt := by
  unfold bL
  rw [bL_b h0 h1 (by omega), decide_eq_true_eq]
  omega
theorem bL_o {x y : Int64} {i : Int} : bL (x ||| y) i ↔ (bL x i ∨ bL y i) := by
  unfold bL
  rw [Int64.toBitVec_or, BitVec.getLsbD_or, Bool.or_eq_true]
theorem bL_and {y : Int64} {k : Int32} (h0 : 0 ≤ k.toInt) (h1 : k.toInt < 64) : y &&& ((1 : Int64) <<< (k.toInt64 &&& 63)) = 0 ↔ ¬ bL y k.toInt := by
  have e : ∀ i : Nat, i < 64 → (y &&& ((1 : Int64) <<< (k.toInt64 &&& 63))).toBitVec.getLsbD i = (y.toBitVec.getLsbD i && decide (i = k.toInt.toNat)) := fun i hi => by
    rw [Int64.toBitVec_and, BitVec.getLsbD_and, bL_b h0 h1 hi]
  constructor
  · intro h w
    have z := e k.toInt.toNat (by omega)
    have w' : y.toBitVec.getLsbD k.toInt.toNat = true := w
    rw [h, w'] at z
    simp at z
  · intro h
    have w' : y.toBitVec.getLsbD k.toInt.toNat = false := by
      cases c : y.toBitVec.getLsbD k.toInt.toNat with
      | false => rfl
      | true => exact absurd c h
    apply Int64.toBitVec_inj.1
    apply BitVec.eq_of_getLsbD_eq
    intro i hi
    rw [e i hi]
    by_cases w : i = k.toInt.toNat
    · rw [w, w']
      simp
    · rw [decide_eq_false w]
      simp
variable {d : Nat} {mr mem m : zM}
def tnC (q nm : Nat) (m : zM) (w v : Int) : Prop := (v = -1 ∧ ∀ i, 0 ≤ i → i < (gi m q 7).toInt → ¬ gn (ga m nm) i = w) ∨ ((0 ≤ v ∧ v < (gi m q 7).toInt) ∧ gn (ga m nm) v = w ∧ ∀ i, 0 ≤ i → i < v → ¬ gn (ga m nm) i = w)
def iqC (q nm fn : Nat) (m : zM) (w v : Int) : Prop := (v = 0 ∧ (∀ i, 0 ≤ i → i < (gi m q 7).toInt → ¬ gn (ga m nm) i = w) ∧ ∀ i, 0 ≤ i → i < (gi m q 13).toInt → ¬ gn (ga m fn) i = w) ∨ (v = 1 ∧ ((∃ i, 0 ≤ i ∧ i < (gi m q 7).toInt ∧ gn (ga m nm) i = w) ∨ ∃ i, 0 ≤ i ∧ i < (gi m q 13).toInt ∧ gn (ga m fn) i = w))
/-- where walls, the first a things and the first b folk are -/
def tkD (q pl st ho : Nat) (a b : Int) (m : zM) (y : Int64) : Prop := ∀ c, 0 ≤ c → c < 64 → (bL y c ↔ (bL (gL m q 6) c ∨ (∃ i, 0 ≤ i ∧ i < a ∧ gn (ga m pl) i = c) ∨ ∃ i, 0 ≤ i ∧ i < b ∧ (gn (ga m st) i = c ∨ gn (ga m ho) i = c)))
variable {q pl st ho : Nat} {a b a' b' : Int} {y : Int64}
theorem tkD_0 : tkD q pl st ho 0 0 m (gL m q 6) := fun c _ _ => ⟨fun w => Or.inl w, fun w => by
  rcases w with w | ⟨i, h1, h2, -⟩ | ⟨i, h1, h2, -⟩
  · exact w
  · exfalso; omega
  · exfalso; omega⟩
theorem tkD_b (h : tkD q pl st ho a b m y) (ha : a = a') (hb : b = b') : tkD q pl st ho a' b' m y := by
  subst ha
  subst hb
  exact h
theorem tkD_t {x : Int32} (h : tkD q pl st ho a 0 m y) (a0 : 0 ≤ a) (hx : x.toInt = gn (ga m pl) a) (x0 : 0 ≤ gn (ga m pl) a ∧ gn (ga m pl) a < 64) (ha : a' = a + 1) : tkD q pl st ho a' 0 m (y ||| ((1 : Int64) <<< (x.toInt64 &&& 63))) := fun c c0 c1 => by
  subst ha
  rw [bL_o, bL_1 (by omega) (by omega) c0 c1, h c c0 c1, hx]
  constructor
  · rintro ((w | ⟨i, h1, h2, h3⟩ | ⟨i, h1, h2, -⟩) | w)
    · exact Or.inl w
    · exact Or.inr (Or.inl ⟨i, h1, by omega, h3⟩)
    · exfalso; omega
    · exact Or.inr (Or.inl ⟨a, a0, by omega, w.symm⟩)
  · rintro (w | ⟨i, h1, h2, h3⟩ | ⟨i, h1, h2, -⟩)
    · exact Or.inl (Or.inl w)
    · by_cases e : i = a
      · rw [e] at h3
        exact Or.inr h3.symm
      · exact Or.inl (Or.inr (Or.inl ⟨i, h1, by omega, h3⟩))
    · exfalso; omega
theorem tkD_f {x z : Int32} (h : tkD q pl st ho a b m y) (b0 : 0 ≤ b) (hx : x.toInt = gn (ga m st) b) (hz : z.toInt = gn (ga m ho) b) (x0 : 0 ≤ x.toInt ∧ x.toInt < 64) (z0 : 0 ≤ z.toInt ∧ z.toInt < 64) (hb : b' = b + 1) : tkD q pl st ho a b' m (y ||| (((1 : Int64) <<< (x.toInt64 &&& 63)) ||| ((1 : Int64) <<< (z.toInt64 &&& 63)))) := fun c c0 c1 => by
  subst hb
  rw [bL_o, bL_o, bL_1 x0.1 x0.2 c0 c1, bL_1 z0.1 z0.2 c0 c1, h c c0 c1, hx, hz]
  constructor
  · rintro ((w | w | ⟨i, h1, h2, h3⟩) | w | w)
    · exact Or.inl w
    · exact Or.inr (Or.inl w)
    · exact Or.inr (Or.inr ⟨i, h1, by omega, h3⟩)
    · exact Or.inr (Or.inr ⟨b, b0, by omega, Or.inl w.symm⟩)
    · exact Or.inr (Or.inr ⟨b, b0, by omega, Or.inr w.symm⟩)
  · rintro (w | w | ⟨i, h1, h2, h3⟩)
    · exact Or.inl (Or.inl w)
    · exact Or.inl (Or.inr (Or.inl w))
    · by_cases e : i = b
      · rw [e] at h3
        rcases h3 with h3 | h3
        · exact Or.inr (Or.inl h3.symm)
        · exact Or.inr (Or.inr h3.symm)
      · exact Or.inl (Or.inr (Or.inr ⟨i, h1, by omega, h3⟩))
set_option maxRecDepth 100000 in
theorem w_tn2A {d : Nat} {mem : zM} {P : Option Value → zM → Prop} {w k : Int32} {lo : List (Nat × Value)} (hm : aTm aT0 mem) (l_0 : zlg lo 0 = some (.ref 2)) (l_1 : zlg lo 1 = some (.int w)) (l_2 : zlg lo 2 = some (.int k)) (hk : 0 ≤ k.toInt ∧ k.toInt ≤ 9) (h1 : (gi mem 2 7).toInt ≤ (k).toInt → aTm aT0 mem → P (some (.int (-1))) mem) (h2 : (k).toInt < (gi mem 2 7).toInt → ∀ (y2 : Int32), y2.toInt = (gn (ga mem 3) (k).toInt) → ¬ (gn (ga mem 3) (k).toInt) = (w).toInt → ∀ (x5 : Int32), x5.toInt = ((k).toInt + 1) → ∀ lo, zlg lo 0 = some (.ref 2) → zlg lo 1 = some (.int w) → zlg lo 2 = some (.int x5) → aTm aT0 mem → yR zpg tX4_thingNamed d (2, lo, [], mem) P) (h3 : (k).toInt < (gi mem 2 7).toInt → ∀ (y2 : Int32), y2.toInt = (gn (ga mem 3) (k).toInt) → (gn (ga mem 3) (k).toInt) = (w).toInt → aTm aT0 mem → P (some (.int k)) mem) : yR zpg tX4_thingNamed d (2, lo, [], mem) P := by
  have r7 := quA_r7 hm
  refine wR_li rfl l_2 ?_
  refine wR_la rfl l_0 ?_
  refine wR_gi rfl quA_e quA_7 hm rfl ?_
  refine wR_ic_ge rfl (a := (k).toInt) (c := (gi mem 2 7).toInt) rfl rfl (fun q1 => ?_) (fun q1 => ?_)
  ·
    refine yR_m 1 (fun _ _ _ _ => rfl) ?_
    exact yR_ri rfl (h1 q1 hm)
  ·
    refine wR_la rfl l_0 ?_
    refine wR_gr rfl quA_e quA_8 hm ?_
    refine wR_li rfl l_2 ?_
    refine wN_al (a := (k).toInt) rfl aR_3 hm rfl rfl (by omega) (fun y2 e3 => ?_)
    refine wR_li rfl l_1 ?_
    refine wR_ic_ne rfl (a := (gn (ga mem 3) (k).toInt)) (c := (w).toInt) e3 rfl (fun q4 => ?_) (fun q4 => ?_)
    ·
      refine wN_in (a := (k).toInt) (b := 1) rfl rfl l_2 rfl rfl (by omega) (fun x5 e6 => fun lo7 e8 f9 => ?_)
      have lo7_0 := f9 0 _ (by decide) (Or.inl rfl) l_0
      have lo7_1 := f9 1 _ (by decide) (Or.inl rfl) l_1
      exact yR_m 1 (fun _ _ _ _ => rfl) (h2 q1 y2 e3 q4 x5 e6 lo7 lo7_0 lo7_1 e8 hm)
    ·
      refine wR_li rfl l_2 ?_
      exact yR_ri rfl (h3 q1 y2 e3 q4 hm)

theorem tn2_A {w : Int32} (hm : aTm aT0 mem) : ∀ (f : Nat) (k : Int32) (lo : List (Nat × Value)), (gi mem 2 7).toInt < k.toInt + (f : Int) → 0 ≤ k.toInt → k.toInt ≤ (gi mem 2 7).toInt → (∀ i, 0 ≤ i → i < k.toInt → ¬ gn (ga mem 3) i = w.toInt) → zlg lo 0 = some (.ref 2) → zlg lo 1 = some (.int w) → zlg lo 2 = some (.int k) → yR zpg tX4_thingNamed d (2, lo, [], mem) (fun r m => ∃ v : Int32, r = some (.int v) ∧ mem = m ∧ tnC 2 3 mem w.toInt v.toInt) := by
  have rr := quA_r7 hm
  intro f
  induction f with
  | zero =>
    intro k lo hf h0 h9
    exfalso
    omega
  | succ f ih =>
    intro k lo hf h0 h9 hA a0 a1 a2
    exact w_tn2A hm a0 a1 a2 ⟨h0, by omega⟩
        (fun q1 hm2 => ⟨_, rfl, rfl, Or.inl ⟨rfl, fun i i0 i1 => hA i i0 (by omega)⟩⟩)
        (fun q1 y2 e3 q4 x5 e6 lo a0 a1 a2 hm2 => ih _ lo (by omega) (by omega) (by omega) (fun i i0 i1 => by
          by_cases e : i = k.toInt
          · rw [e]; exact q4
          · exact hA i i0 (by omega)) a0 a1 a2)
        (fun q1 y2 e3 q4 hm2 => ⟨_, rfl, rfl, Or.inr ⟨by omega, q4, fun i i0 i1 => hA i i0 i1⟩⟩)
set_option maxRecDepth 100000 in
theorem w_tn0A {d : Nat} {mem : zM} {P : Option Value → zM → Prop} {w : Int32} {lo : List (Nat × Value)} (hm : aTm aT0 mem) (l_0 : zlg lo 0 = some (.ref 2)) (l_1 : zlg lo 1 = some (.int w)) (h1 : ∀ lo, zlg lo 0 = some (.ref 2) → zlg lo 1 = some (.int w) → zlg lo 2 = some (.int 0) → aTm aT0 mem → yR zpg tX4_thingNamed d (2, lo, [], mem) P) : yR zpg tX4_thingNamed d (0, lo, [], mem) P := by
  refine yR_m 1 (fun _ _ _ _ => rfl) ?_
  refine wR_si rfl rfl (fun lo1 e2 f3 => ?_)
  have lo1_0 := f3 0 _ (by decide) (Or.inl rfl) l_0
  have lo1_1 := f3 1 _ (by decide) (Or.inl rfl) l_1
  exact h1 lo1 lo1_0 lo1_1 e2 hm

theorem h_tnCA {w : Int32} (hm : aTm aT0 mem) (hd : 1 ≤ d) : yC zpg d 54 [.ref 2, .int w] mem (fun r m => ∃ v : Int32, r = some (.int v) ∧ mem = m ∧ tnC 2 3 mem w.toInt v.toInt) := by
  obtain ⟨d, rfl⟩ : ∃ q, d = q + 1 := ⟨d - 1, by omega⟩
  refine yC_of (t := tX4_thingNamed) rfl rfl ?_
  exact w_tn0A hm rfl rfl
        (fun  lo a0 a1 a2 hm2 => tn2_A hm 10 _ lo (by have q9 := quA_r7 hm; show _ < 0 + 10; omega) (by decide) (by have q9 := quA_r7 hm; show 0 ≤ _; omega) (fun i i0 i1 => by exfalso; have e : Int32.toInt 0 = 0 := rfl; omega) a0 a1 a2)
set_option maxRecDepth 100000 in
theorem w_in2A {d : Nat} {mem : zM} {P : Option Value → zM → Prop} {w k : Int32} {lo : List (Nat × Value)} (hm : aTm aT0 mem) (l_0 : zlg lo 0 = some (.ref 2)) (l_1 : zlg lo 1 = some (.int w)) (l_2 : zlg lo 2 = some (.int k)) (hk : 0 ≤ k.toInt ∧ k.toInt ≤ 6) (h1 : (gi mem 2 13).toInt ≤ (k).toInt → ∀ (v2 : Int32), tnC 2 3 mem w.toInt v2.toInt → (v2).toInt = (-1) → aTm aT0 mem → P (some (.int 0)) mem) (h2 : (gi mem 2 13).toInt ≤ (k).toInt → ∀ (v2 : Int32), tnC 2 3 mem w.toInt v2.toInt → ¬ (v2).toInt = (-1) → aTm aT0 mem → P (some (.int 1)) mem) (h3 : (k).toInt < (gi mem 2 13).toInt → ∀ (y5 : Int32), y5.toInt = (gn (ga mem 7) (k).toInt) → ¬ (gn (ga mem 7) (k).toInt) = (w).toInt → ∀ (x8 : Int32), x8.toInt = ((k).toInt + 1) → ∀ lo, zlg lo 0 = some (.ref 2) → zlg lo 1 = some (.int w) → zlg lo 2 = some (.int x8) → aTm aT0 mem → yR zpg tX4_isNamed (d + 1) (2, lo, [], mem) P) (h4 : (k).toInt < (gi mem 2 13).toInt → ∀ (y5 : Int32), y5.toInt = (gn (ga mem 7) (k).toInt) → (gn (ga mem 7) (k).toInt) = (w).toInt → aTm aT0 mem → P (some (.int 1)) mem) : yR zpg tX4_isNamed (d + 1) (2, lo, [], mem) P := by
  have r13 := quA_r13 hm
  refine wR_li rfl l_2 ?_
  refine wR_la rfl l_0 ?_
  refine wR_gi rfl quA_e quA_13 hm rfl ?_
  refine wR_ic_ge rfl (a := (k).toInt) (c := (gi mem 2 13).toInt) rfl rfl (fun q1 => ?_) (fun q1 => ?_)
  ·
    refine wR_la rfl l_0 ?_
    refine wR_li rfl l_1 ?_
    refine wR_cv rfl rfl quA_e hm rfl (h_tnCA hm (by omega)) ?_
    rintro _ _ ⟨v2, rfl, rfl, k3⟩
    show yR zpg tX4_isNamed (d + 1) (33, lo, [.int v2], mem) _
    refine yR_m 1 (fun _ _ _ _ => rfl) ?_
    refine wR_ic_eq rfl (a := (v2).toInt) (c := (-1)) rfl tm1 (fun q4 => ?_) (fun q4 => ?_)
    ·
      refine yR_m 1 (fun _ _ _ _ => rfl) ?_
      exact yR_rz rfl ⟨by decide, by decide⟩ (h1 q1 v2 k3 q4 hm)
    ·
      refine yR_m 2 (fun _ _ _ _ => rfl) ?_
      exact yR_rz rfl ⟨by decide, by decide⟩ (h2 q1 v2 k3 q4 hm)
  ·
    refine wR_la rfl l_0 ?_
    refine wR_gr rfl quA_e quA_14 hm ?_
    refine wR_li rfl l_2 ?_
    refine wN_al (a := (k).toInt) rfl aR_7 hm rfl rfl (by omega) (fun y5 e6 => ?_)
    refine wR_li rfl l_1 ?_
    refine wR_ic_ne rfl (a := (gn (ga mem 7) (k).toInt)) (c := (w).toInt) e6 rfl (fun q7 => ?_) (fun q7 => ?_)
    ·
      refine wN_in (a := (k).toInt) (b := 1) rfl rfl l_2 rfl rfl (by omega) (fun x8 e9 => fun lo10 e11 f12 => ?_)
      have lo10_0 := f12 0 _ (by decide) (Or.inl rfl) l_0
      have lo10_1 := f12 1 _ (by decide) (Or.inl rfl) l_1
      exact yR_m 1 (fun _ _ _ _ => rfl) (h3 q1 y5 e6 q7 x8 e9 lo10 lo10_0 lo10_1 e11 hm)
    ·
      refine yR_m 1 (fun _ _ _ _ => rfl) ?_
      exact yR_rz rfl ⟨by decide, by decide⟩ (h4 q1 y5 e6 q7 hm)

theorem in2_A {w : Int32} (hm : aTm aT0 mem) : ∀ (f : Nat) (k : Int32) (lo : List (Nat × Value)), (gi mem 2 13).toInt < k.toInt + (f : Int) → 0 ≤ k.toInt → k.toInt ≤ (gi mem 2 13).toInt → (∀ i, 0 ≤ i → i < k.toInt → ¬ gn (ga mem 7) i = w.toInt) → zlg lo 0 = some (.ref 2) → zlg lo 1 = some (.int w) → zlg lo 2 = some (.int k) → yR zpg tX4_isNamed (d + 1) (2, lo, [], mem) (fun r m => ∃ v : Int32, r = some (.int v) ∧ mem = m ∧ iqC 2 3 7 mem w.toInt v.toInt) := by
  have rr := quA_r13 hm
  intro f
  induction f with
  | zero =>
    intro k lo hf h0 h9
    exfalso
    omega
  | succ f ih =>
    intro k lo hf h0 h9 hA a0 a1 a2
    exact w_in2A hm a0 a1 a2 ⟨h0, by omega⟩
        (fun q1 v2 k3 q4 hm2 => by
          rcases k3 with ⟨-, t2⟩ | ⟨t1, -⟩
          · exact ⟨_, rfl, rfl, Or.inl ⟨rfl, t2, fun i i0 i1 => hA i i0 (by omega)⟩⟩
          · exfalso; omega)
        (fun q1 v2 k3 q4 hm2 => by
          rcases k3 with ⟨t1, -⟩ | ⟨t1, t2, -⟩
          · exfalso; omega
          · exact ⟨_, rfl, rfl, Or.inr ⟨rfl, Or.inl ⟨_, t1.1, t1.2, t2⟩⟩⟩)
        (fun q1 y5 e6 q7 x8 e9 lo a0 a1 a2 hm2 => ih _ lo (by omega) (by omega) (by omega) (fun i i0 i1 => by
          by_cases e : i = k.toInt
          · rw [e]; exact q7
          · exact hA i i0 (by omega)) a0 a1 a2)
        (fun q1 y5 e6 q7 hm2 => ⟨_, rfl, rfl, Or.inr ⟨rfl, Or.inr ⟨k.toInt, by omega, by omega, q7⟩⟩⟩)
set_option maxRecDepth 100000 in
theorem w_in0A {d : Nat} {mem : zM} {P : Option Value → zM → Prop} {w : Int32} {lo : List (Nat × Value)} (hm : aTm aT0 mem) (l_0 : zlg lo 0 = some (.ref 2)) (l_1 : zlg lo 1 = some (.int w)) (h1 : ∀ lo, zlg lo 0 = some (.ref 2) → zlg lo 1 = some (.int w) → zlg lo 2 = some (.int 0) → aTm aT0 mem → yR zpg tX4_isNamed (d + 1) (2, lo, [], mem) P) : yR zpg tX4_isNamed (d + 1) (0, lo, [], mem) P := by
  refine yR_m 1 (fun _ _ _ _ => rfl) ?_
  refine wR_si rfl rfl (fun lo1 e2 f3 => ?_)
  have lo1_0 := f3 0 _ (by decide) (Or.inl rfl) l_0
  have lo1_1 := f3 1 _ (by decide) (Or.inl rfl) l_1
  exact h1 lo1 lo1_0 lo1_1 e2 hm

theorem h_inCA {w : Int32} (hm : aTm aT0 mem) (hd : 2 ≤ d) : yC zpg d 55 [.ref 2, .int w] mem (fun r m => ∃ v : Int32, r = some (.int v) ∧ mem = m ∧ iqC 2 3 7 mem w.toInt v.toInt) := by
  obtain ⟨d, rfl⟩ : ∃ q, d = q + 2 := ⟨d - 2, by omega⟩
  refine yC_of (t := tX4_isNamed) rfl rfl ?_
  exact w_in0A hm rfl rfl
        (fun  lo a0 a1 a2 hm2 => in2_A hm 7 _ lo (by have q9 := quA_r13 hm; show _ < 0 + 7; omega) (by decide) (by have q9 := quA_r13 hm; show 0 ≤ _; omega) (fun i i0 i1 => by exfalso; have e : Int32.toInt 0 = 0 := rfl; omega) a0 a1 a2)
set_option maxRecDepth 100000 in
theorem w_tk35A {d : Nat} {mem : zM} {P : Option Value → zM → Prop} {y : Int64} {k : Int32} {lo : List (Nat × Value)} (hm : aTm aT0 mem) (l_0 : zlg lo 0 = some (.ref 2)) (l_1 : zlg lo 1 = some (.long y)) (l_3 : zlg lo 3 = some (.int k)) (hk : 0 ≤ k.toInt ∧ k.toInt ≤ 6) (h1 : (gi mem 2 13).toInt ≤ (k).toInt → aTm aT0 mem → P (some (.long y)) mem) (h2 : (k).toInt < (gi mem 2 13).toInt → ∀ (y2 : Int32), y2.toInt = (gn (ga mem 8) (k).toInt) → ∀ (y4 : Int32), y4.toInt = (gn (ga mem 9) (k).toInt) → ∀ (x9 : Int32), x9.toInt = ((k).toInt + 1) → ∀ lo, zlg lo 0 = some (.ref 2) → zlg lo 1 = some (.long (y ||| ((1 <<< ((y2 : Int32).toInt64 &&& 63)) ||| (1 <<< ((y4 : Int32).toInt64 &&& 63))))) → zlg lo 3 = some (.int x9) → aTm aT0 mem → yR zpg tX4_taken (d + 1) (35, lo, [], mem) P) : yR zpg tX4_taken (d + 1) (35, lo, [], mem) P := by
  have r13 := quA_r13 hm
  refine wR_li rfl l_3 ?_
  refine wR_la rfl l_0 ?_
  refine wR_gi rfl quA_e quA_13 hm rfl ?_
  refine wR_ic_ge rfl (a := (k).toInt) (c := (gi mem 2 13).toInt) rfl rfl (fun q1 => ?_) (fun q1 => ?_)
  ·
    refine wR_ll4 rfl l_1 ?_
    exact yR_rl rfl (h1 q1 hm)
  ·
    refine wR_ll4 rfl l_1 ?_
    refine wR_la rfl l_0 ?_
    refine wR_gr rfl quA_e quA_15 hm ?_
    refine wR_li rfl l_3 ?_
    refine wN_al (a := (k).toInt) rfl aR_8 hm rfl rfl (by omega) (fun y2 e3 => ?_)
    refine wR_is rfl rfl rfl rfl rfl rfl ?_
    show yR zpg tX11_bitOf d (0, [(0, .int y2)], [], mem) _
    refine yR_m 3 (fun _ _ _ _ => rfl) ?_
    refine yR_rl rfl ?_
    show yR zpg tX4_taken (d + 1) (53, lo, [.long (1 <<< ((y2 : Int32).toInt64 &&& 63)), .long y], mem) _
    refine wR_la rfl l_0 ?_
    refine wR_gr rfl quA_e quA_16 hm ?_
    refine wR_li rfl l_3 ?_
    refine wN_al (a := (k).toInt) rfl aR_9 hm rfl rfl (by omega) (fun y4 e5 => ?_)
    refine wR_is rfl rfl rfl rfl rfl rfl ?_
    show yR zpg tX11_bitOf d (0, [(0, .int y4)], [], mem) _
    refine yR_m 3 (fun _ _ _ _ => rfl) ?_
    refine yR_rl rfl ?_
    show yR zpg tX4_taken (d + 1) (62, lo, [.long (1 <<< ((y4 : Int32).toInt64 &&& 63)), .long (1 <<< ((y2 : Int32).toInt64 &&& 63)), .long y], mem) _
    refine yR_m 2 (fun _ _ _ _ => rfl) ?_
    refine wR_sl rfl rfl (fun lo6 e7 f8 => ?_)
    have lo6_0 := f8 0 _ (by decide) (Or.inl rfl) l_0
    have lo6_3 := f8 3 _ (by decide) (Or.inl rfl) l_3
    refine wN_in (a := (k).toInt) (b := 1) rfl rfl lo6_3 rfl rfl (by omega) (fun x9 e10 => fun lo11 e12 f13 => ?_)
    have lo11_1 := f13 1 _ (by decide) (Or.inr (by decide)) e7
    have lo11_0 := f13 0 _ (by decide) (Or.inl rfl) lo6_0
    exact yR_m 1 (fun _ _ _ _ => rfl) (h2 q1 y2 e3 y4 e5 x9 e10 lo11 lo11_0 lo11_1 e12 hm)

theorem tk35_A (hm : aTm aT0 mem) (hP2 : ∀ i, 0 ≤ i → i < (gi mem 2 13).toInt → (0 ≤ gn (ga mem 8) i ∧ gn (ga mem 8) i < 64) ∧ 0 ≤ gn (ga mem 9) i ∧ gn (ga mem 9) i < 64) : ∀ (f : Nat) (k : Int32) (y : Int64) (lo : List (Nat × Value)), (gi mem 2 13).toInt < k.toInt + (f : Int) → 0 ≤ k.toInt → k.toInt ≤ (gi mem 2 13).toInt → tkD 2 4 8 9 (gi mem 2 7).toInt k.toInt mem y → zlg lo 0 = some (.ref 2) → zlg lo 1 = some (.long y) → zlg lo 3 = some (.int k) → yR zpg tX4_taken (d + 1) (35, lo, [], mem) (fun r m => ∃ y : Int64, r = some (.long y) ∧ mem = m ∧ tkD 2 4 8 9 (gi mem 2 7).toInt (gi mem 2 13).toInt mem y) := by
  have rr := quA_r13 hm
  intro f
  induction f with
  | zero =>
    intro k y lo hf h0 h9
    exfalso
    omega
  | succ f ih =>
    intro k y lo hf h0 h9 hD a0 a1 a3
    exact w_tk35A hm a0 a1 a3 ⟨h0, by omega⟩
        (fun q1 hm2 => ⟨_, rfl, rfl, tkD_b hD (by omega) (by omega)⟩)
        (fun q1 y2 e3 y4 e5 x9 e10 lo a0 a1 a3 hm2 => ih _ _ lo (by omega) (by omega) (by omega) (tkD_f hD (by omega) e3 e5 (by rw [e3]; exact (hP2 _ (by omega) (by omega)).1) (by rw [e5]; exact (hP2 _ (by omega) (by omega)).2) (by omega)) a0 a1 a3)
set_option maxRecDepth 100000 in
theorem w_tk7A {d : Nat} {mem : zM} {P : Option Value → zM → Prop} {y : Int64} {k : Int32} {lo : List (Nat × Value)} (hm : aTm aT0 mem) (l_0 : zlg lo 0 = some (.ref 2)) (l_1 : zlg lo 1 = some (.long y)) (l_3 : zlg lo 3 = some (.int k)) (hk : 0 ≤ k.toInt ∧ k.toInt ≤ 9) (h1 : (gi mem 2 7).toInt ≤ (k).toInt → ∀ lo, zlg lo 0 = some (.ref 2) → zlg lo 1 = some (.long y) → zlg lo 3 = some (.int 0) → aTm aT0 mem → yR zpg tX4_taken (d + 1) (35, lo, [], mem) P) (h2 : (k).toInt < (gi mem 2 7).toInt → ∀ (y5 : Int32), y5.toInt = (gn (ga mem 4) (k).toInt) → ∀ (x10 : Int32), x10.toInt = ((k).toInt + 1) → ∀ lo, zlg lo 0 = some (.ref 2) → zlg lo 1 = some (.long (y ||| (1 <<< ((y5 : Int32).toInt64 &&& 63)))) → zlg lo 3 = some (.int x10) → aTm aT0 mem → yR zpg tX4_taken (d + 1) (7, lo, [], mem) P) : yR zpg tX4_taken (d + 1) (7, lo, [], mem) P := by
  have r7 := quA_r7 hm
  refine wR_li rfl l_3 ?_
  refine wR_la rfl l_0 ?_
  refine wR_gi rfl quA_e quA_7 hm rfl ?_
  refine wR_ic_ge rfl (a := (k).toInt) (c := (gi mem 2 7).toInt) rfl rfl (fun q1 => ?_) (fun q1 => ?_)
  ·
    refine yR_m 1 (fun _ _ _ _ => rfl) ?_
    refine wR_si rfl rfl (fun lo2 e3 f4 => ?_)
    have lo2_0 := f4 0 _ (by decide) (Or.inl rfl) l_0
    have lo2_1 := f4 1 _ (by decide) (Or.inr (by decide)) l_1
    exact h1 q1 lo2 lo2_0 lo2_1 e3 hm
  ·
    refine wR_ll4 rfl l_1 ?_
    refine wR_la rfl l_0 ?_
    refine wR_gr rfl quA_e quA_9 hm ?_
    refine wR_li rfl l_3 ?_
    refine wN_al (a := (k).toInt) rfl aR_4 hm rfl rfl (by omega) (fun y5 e6 => ?_)
    refine wR_is rfl rfl rfl rfl rfl rfl ?_
    show yR zpg tX11_bitOf d (0, [(0, .int y5)], [], mem) _
    refine yR_m 3 (fun _ _ _ _ => rfl) ?_
    refine yR_rl rfl ?_
    show yR zpg tX4_taken (d + 1) (25, lo, [.long (1 <<< ((y5 : Int32).toInt64 &&& 63)), .long y], mem) _
    refine yR_m 1 (fun _ _ _ _ => rfl) ?_
    refine wR_sl rfl rfl (fun lo7 e8 f9 => ?_)
    have lo7_0 := f9 0 _ (by decide) (Or.inl rfl) l_0
    have lo7_3 := f9 3 _ (by decide) (Or.inl rfl) l_3
    refine wN_in (a := (k).toInt) (b := 1) rfl rfl lo7_3 rfl rfl (by omega) (fun x10 e11 => fun lo12 e13 f14 => ?_)
    have lo12_1 := f14 1 _ (by decide) (Or.inr (by decide)) e8
    have lo12_0 := f14 0 _ (by decide) (Or.inl rfl) lo7_0
    exact yR_m 1 (fun _ _ _ _ => rfl) (h2 q1 y5 e6 x10 e11 lo12 lo12_0 lo12_1 e13 hm)

theorem tk7_A (hm : aTm aT0 mem) (hP1 : ∀ i, 0 ≤ i → i < (gi mem 2 7).toInt → 0 ≤ gn (ga mem 4) i ∧ gn (ga mem 4) i < 64) (hP2 : ∀ i, 0 ≤ i → i < (gi mem 2 13).toInt → (0 ≤ gn (ga mem 8) i ∧ gn (ga mem 8) i < 64) ∧ 0 ≤ gn (ga mem 9) i ∧ gn (ga mem 9) i < 64) : ∀ (f : Nat) (k : Int32) (y : Int64) (lo : List (Nat × Value)), (gi mem 2 7).toInt < k.toInt + (f : Int) → 0 ≤ k.toInt → k.toInt ≤ (gi mem 2 7).toInt → tkD 2 4 8 9 k.toInt 0 mem y → zlg lo 0 = some (.ref 2) → zlg lo 1 = some (.long y) → zlg lo 3 = some (.int k) → yR zpg tX4_taken (d + 1) (7, lo, [], mem) (fun r m => ∃ y : Int64, r = some (.long y) ∧ mem = m ∧ tkD 2 4 8 9 (gi mem 2 7).toInt (gi mem 2 13).toInt mem y) := by
  have rr := quA_r7 hm
  intro f
  induction f with
  | zero =>
    intro k y lo hf h0 h9
    exfalso
    omega
  | succ f ih =>
    intro k y lo hf h0 h9 hD a0 a1 a3
    exact w_tk7A hm a0 a1 a3 ⟨h0, by omega⟩
        (fun q1 lo a0 a1 a3 hm2 => tk35_A hm hP2 7 _ _ lo (by have q9 := quA_r13 hm; show _ < 0 + 7; omega) (by decide) (by have q9 := quA_r13 hm; show 0 ≤ _; omega) (tkD_b hD (by omega) rfl) a0 a1 a3)
        (fun q1 y5 e6 x10 e11 lo a0 a1 a3 hm2 => ih _ _ lo (by omega) (by omega) (by omega) (tkD_t hD (by omega) e6 (hP1 _ (by omega) (by omega)) (by omega)) a0 a1 a3)
set_option maxRecDepth 100000 in
theorem w_tk0A {d : Nat} {mem : zM} {P : Option Value → zM → Prop} {lo : List (Nat × Value)} (hm : aTm aT0 mem) (l_0 : zlg lo 0 = some (.ref 2)) (h1 : ∀ lo, zlg lo 0 = some (.ref 2) → zlg lo 1 = some (.long (gL mem 2 6)) → zlg lo 3 = some (.int 0) → aTm aT0 mem → yR zpg tX4_taken (d + 1) (7, lo, [], mem) P) : yR zpg tX4_taken (d + 1) (0, lo, [], mem) P := by
  refine wR_la rfl l_0 ?_
  refine wR_gL rfl quA_e quA_6 hm rfl ?_
  refine wR_sl rfl rfl (fun lo1 e2 f3 => ?_)
  have lo1_0 := f3 0 _ (by decide) (Or.inl rfl) l_0
  refine yR_m 1 (fun _ _ _ _ => rfl) ?_
  refine wR_si rfl rfl (fun lo4 e5 f6 => ?_)
  have lo4_1 := f6 1 _ (by decide) (Or.inr (by decide)) e2
  have lo4_0 := f6 0 _ (by decide) (Or.inl rfl) lo1_0
  exact h1 lo4 lo4_0 lo4_1 e5 hm

theorem h_tkCA (hm : aTm aT0 mem) (hP1 : ∀ i, 0 ≤ i → i < (gi mem 2 7).toInt → 0 ≤ gn (ga mem 4) i ∧ gn (ga mem 4) i < 64) (hP2 : ∀ i, 0 ≤ i → i < (gi mem 2 13).toInt → (0 ≤ gn (ga mem 8) i ∧ gn (ga mem 8) i < 64) ∧ 0 ≤ gn (ga mem 9) i ∧ gn (ga mem 9) i < 64) (hd : 2 ≤ d) : yC zpg d 53 [.ref 2] mem (fun r m => ∃ y : Int64, r = some (.long y) ∧ mem = m ∧ tkD 2 4 8 9 (gi mem 2 7).toInt (gi mem 2 13).toInt mem y) := by
  obtain ⟨d, rfl⟩ : ∃ q, d = q + 2 := ⟨d - 2, by omega⟩
  refine yC_of (t := tX4_taken) rfl rfl ?_
  exact w_tk0A hm rfl
        (fun  lo a0 a1 a3 hm2 => tk7_A hm hP1 hP2 10 _ _ lo (by have q9 := quA_r7 hm; show _ < 0 + 10; omega) (by decide) (by have q9 := quA_r7 hm; show 0 ≤ _; omega) tkD_0 a0 a1 a3)
set_option maxRecDepth 100000 in
theorem w_tn2B {d : Nat} {mem : zM} {P : Option Value → zM → Prop} {w k : Int32} {lo : List (Nat × Value)} (hm : aTm aT0 mem) (l_0 : zlg lo 0 = some (.ref 14)) (l_1 : zlg lo 1 = some (.int w)) (l_2 : zlg lo 2 = some (.int k)) (hk : 0 ≤ k.toInt ∧ k.toInt ≤ 9) (h1 : (gi mem 14 7).toInt ≤ (k).toInt → aTm aT0 mem → P (some (.int (-1))) mem) (h2 : (k).toInt < (gi mem 14 7).toInt → ∀ (y2 : Int32), y2.toInt = (gn (ga mem 15) (k).toInt) → ¬ (gn (ga mem 15) (k).toInt) = (w).toInt → ∀ (x5 : Int32), x5.toInt = ((k).toInt + 1) → ∀ lo, zlg lo 0 = some (.ref 14) → zlg lo 1 = some (.int w) → zlg lo 2 = some (.int x5) → aTm aT0 mem → yR zpg tX4_thingNamed d (2, lo, [], mem) P) (h3 : (k).toInt < (gi mem 14 7).toInt → ∀ (y2 : Int32), y2.toInt = (gn (ga mem 15) (k).toInt) → (gn (ga mem 15) (k).toInt) = (w).toInt → aTm aT0 mem → P (some (.int k)) mem) : yR zpg tX4_thingNamed d (2, lo, [], mem) P := by
  have r7 := quB_r7 hm
  refine wR_li rfl l_2 ?_
  refine wR_la rfl l_0 ?_
  refine wR_gi rfl quB_e quB_7 hm rfl ?_
  refine wR_ic_ge rfl (a := (k).toInt) (c := (gi mem 14 7).toInt) rfl rfl (fun q1 => ?_) (fun q1 => ?_)
  ·
    refine yR_m 1 (fun _ _ _ _ => rfl) ?_
    exact yR_ri rfl (h1 q1 hm)
  ·
    refine wR_la rfl l_0 ?_
    refine wR_gr rfl quB_e quB_8 hm ?_
    refine wR_li rfl l_2 ?_
    refine wN_al (a := (k).toInt) rfl aR_15 hm rfl rfl (by omega) (fun y2 e3 => ?_)
    refine wR_li rfl l_1 ?_
    refine wR_ic_ne rfl (a := (gn (ga mem 15) (k).toInt)) (c := (w).toInt) e3 rfl (fun q4 => ?_) (fun q4 => ?_)
    ·
      refine wN_in (a := (k).toInt) (b := 1) rfl rfl l_2 rfl rfl (by omega) (fun x5 e6 => fun lo7 e8 f9 => ?_)
      have lo7_0 := f9 0 _ (by decide) (Or.inl rfl) l_0
      have lo7_1 := f9 1 _ (by decide) (Or.inl rfl) l_1
      exact yR_m 1 (fun _ _ _ _ => rfl) (h2 q1 y2 e3 q4 x5 e6 lo7 lo7_0 lo7_1 e8 hm)
    ·
      refine wR_li rfl l_2 ?_
      exact yR_ri rfl (h3 q1 y2 e3 q4 hm)

theorem tn2_B {w : Int32} (hm : aTm aT0 mem) : ∀ (f : Nat) (k : Int32) (lo : List (Nat × Value)), (gi mem 14 7).toInt < k.toInt + (f : Int) → 0 ≤ k.toInt → k.toInt ≤ (gi mem 14 7).toInt → (∀ i, 0 ≤ i → i < k.toInt → ¬ gn (ga mem 15) i = w.toInt) → zlg lo 0 = some (.ref 14) → zlg lo 1 = some (.int w) → zlg lo 2 = some (.int k) → yR zpg tX4_thingNamed d (2, lo, [], mem) (fun r m => ∃ v : Int32, r = some (.int v) ∧ mem = m ∧ tnC 14 15 mem w.toInt v.toInt) := by
  have rr := quB_r7 hm
  intro f
  induction f with
  | zero =>
    intro k lo hf h0 h9
    exfalso
    omega
  | succ f ih =>
    intro k lo hf h0 h9 hA a0 a1 a2
    exact w_tn2B hm a0 a1 a2 ⟨h0, by omega⟩
        (fun q1 hm2 => ⟨_, rfl, rfl, Or.inl ⟨rfl, fun i i0 i1 => hA i i0 (by omega)⟩⟩)
        (fun q1 y2 e3 q4 x5 e6 lo a0 a1 a2 hm2 => ih _ lo (by omega) (by omega) (by omega) (fun i i0 i1 => by
          by_cases e : i = k.toInt
          · rw [e]; exact q4
          · exact hA i i0 (by omega)) a0 a1 a2)
        (fun q1 y2 e3 q4 hm2 => ⟨_, rfl, rfl, Or.inr ⟨by omega, q4, fun i i0 i1 => hA i i0 i1⟩⟩)
set_option maxRecDepth 100000 in
theorem w_tn0B {d : Nat} {mem : zM} {P : Option Value → zM → Prop} {w : Int32} {lo : List (Nat × Value)} (hm : aTm aT0 mem) (l_0 : zlg lo 0 = some (.ref 14)) (l_1 : zlg lo 1 = some (.int w)) (h1 : ∀ lo, zlg lo 0 = some (.ref 14) → zlg lo 1 = some (.int w) → zlg lo 2 = some (.int 0) → aTm aT0 mem → yR zpg tX4_thingNamed d (2, lo, [], mem) P) : yR zpg tX4_thingNamed d (0, lo, [], mem) P := by
  refine yR_m 1 (fun _ _ _ _ => rfl) ?_
  refine wR_si rfl rfl (fun lo1 e2 f3 => ?_)
  have lo1_0 := f3 0 _ (by decide) (Or.inl rfl) l_0
  have lo1_1 := f3 1 _ (by decide) (Or.inl rfl) l_1
  exact h1 lo1 lo1_0 lo1_1 e2 hm

theorem h_tnCB {w : Int32} (hm : aTm aT0 mem) (hd : 1 ≤ d) : yC zpg d 54 [.ref 14, .int w] mem (fun r m => ∃ v : Int32, r = some (.int v) ∧ mem = m ∧ tnC 14 15 mem w.toInt v.toInt) := by
  obtain ⟨d, rfl⟩ : ∃ q, d = q + 1 := ⟨d - 1, by omega⟩
  refine yC_of (t := tX4_thingNamed) rfl rfl ?_
  exact w_tn0B hm rfl rfl
        (fun  lo a0 a1 a2 hm2 => tn2_B hm 10 _ lo (by have q9 := quB_r7 hm; show _ < 0 + 10; omega) (by decide) (by have q9 := quB_r7 hm; show 0 ≤ _; omega) (fun i i0 i1 => by exfalso; have e : Int32.toInt 0 = 0 := rfl; omega) a0 a1 a2)
set_option maxRecDepth 100000 in
theorem w_in2B {d : Nat} {mem : zM} {P : Option Value → zM → Prop} {w k : Int32} {lo : List (Nat × Value)} (hm : aTm aT0 mem) (l_0 : zlg lo 0 = some (.ref 14)) (l_1 : zlg lo 1 = some (.int w)) (l_2 : zlg lo 2 = some (.int k)) (hk : 0 ≤ k.toInt ∧ k.toInt ≤ 6) (h1 : (gi mem 14 13).toInt ≤ (k).toInt → ∀ (v2 : Int32), tnC 14 15 mem w.toInt v2.toInt → (v2).toInt = (-1) → aTm aT0 mem → P (some (.int 0)) mem) (h2 : (gi mem 14 13).toInt ≤ (k).toInt → ∀ (v2 : Int32), tnC 14 15 mem w.toInt v2.toInt → ¬ (v2).toInt = (-1) → aTm aT0 mem → P (some (.int 1)) mem) (h3 : (k).toInt < (gi mem 14 13).toInt → ∀ (y5 : Int32), y5.toInt = (gn (ga mem 19) (k).toInt) → ¬ (gn (ga mem 19) (k).toInt) = (w).toInt → ∀ (x8 : Int32), x8.toInt = ((k).toInt + 1) → ∀ lo, zlg lo 0 = some (.ref 14) → zlg lo 1 = some (.int w) → zlg lo 2 = some (.int x8) → aTm aT0 mem → yR zpg tX4_isNamed (d + 1) (2, lo, [], mem) P) (h4 : (k).toInt < (gi mem 14 13).toInt → ∀ (y5 : Int32), y5.toInt = (gn (ga mem 19) (k).toInt) → (gn (ga mem 19) (k).toInt) = (w).toInt → aTm aT0 mem → P (some (.int 1)) mem) : yR zpg tX4_isNamed (d + 1) (2, lo, [], mem) P := by
  have r13 := quB_r13 hm
  refine wR_li rfl l_2 ?_
  refine wR_la rfl l_0 ?_
  refine wR_gi rfl quB_e quB_13 hm rfl ?_
  refine wR_ic_ge rfl (a := (k).toInt) (c := (gi mem 14 13).toInt) rfl rfl (fun q1 => ?_) (fun q1 => ?_)
  ·
    refine wR_la rfl l_0 ?_
    refine wR_li rfl l_1 ?_
    refine wR_cv rfl rfl quB_e hm rfl (h_tnCB hm (by omega)) ?_
    rintro _ _ ⟨v2, rfl, rfl, k3⟩
    show yR zpg tX4_isNamed (d + 1) (33, lo, [.int v2], mem) _
    refine yR_m 1 (fun _ _ _ _ => rfl) ?_
    refine wR_ic_eq rfl (a := (v2).toInt) (c := (-1)) rfl tm1 (fun q4 => ?_) (fun q4 => ?_)
    ·
      refine yR_m 1 (fun _ _ _ _ => rfl) ?_
      exact yR_rz rfl ⟨by decide, by decide⟩ (h1 q1 v2 k3 q4 hm)
    ·
      refine yR_m 2 (fun _ _ _ _ => rfl) ?_
      exact yR_rz rfl ⟨by decide, by decide⟩ (h2 q1 v2 k3 q4 hm)
  ·
    refine wR_la rfl l_0 ?_
    refine wR_gr rfl quB_e quB_14 hm ?_
    refine wR_li rfl l_2 ?_
    refine wN_al (a := (k).toInt) rfl aR_19 hm rfl rfl (by omega) (fun y5 e6 => ?_)
    refine wR_li rfl l_1 ?_
    refine wR_ic_ne rfl (a := (gn (ga mem 19) (k).toInt)) (c := (w).toInt) e6 rfl (fun q7 => ?_) (fun q7 => ?_)
    ·
      refine wN_in (a := (k).toInt) (b := 1) rfl rfl l_2 rfl rfl (by omega) (fun x8 e9 => fun lo10 e11 f12 => ?_)
      have lo10_0 := f12 0 _ (by decide) (Or.inl rfl) l_0
      have lo10_1 := f12 1 _ (by decide) (Or.inl rfl) l_1
      exact yR_m 1 (fun _ _ _ _ => rfl) (h3 q1 y5 e6 q7 x8 e9 lo10 lo10_0 lo10_1 e11 hm)
    ·
      refine yR_m 1 (fun _ _ _ _ => rfl) ?_
      exact yR_rz rfl ⟨by decide, by decide⟩ (h4 q1 y5 e6 q7 hm)

theorem in2_B {w : Int32} (hm : aTm aT0 mem) : ∀ (f : Nat) (k : Int32) (lo : List (Nat × Value)), (gi mem 14 13).toInt < k.toInt + (f : Int) → 0 ≤ k.toInt → k.toInt ≤ (gi mem 14 13).toInt → (∀ i, 0 ≤ i → i < k.toInt → ¬ gn (ga mem 19) i = w.toInt) → zlg lo 0 = some (.ref 14) → zlg lo 1 = some (.int w) → zlg lo 2 = some (.int k) → yR zpg tX4_isNamed (d + 1) (2, lo, [], mem) (fun r m => ∃ v : Int32, r = some (.int v) ∧ mem = m ∧ iqC 14 15 19 mem w.toInt v.toInt) := by
  have rr := quB_r13 hm
  intro f
  induction f with
  | zero =>
    intro k lo hf h0 h9
    exfalso
    omega
  | succ f ih =>
    intro k lo hf h0 h9 hA a0 a1 a2
    exact w_in2B hm a0 a1 a2 ⟨h0, by omega⟩
        (fun q1 v2 k3 q4 hm2 => by
          rcases k3 with ⟨-, t2⟩ | ⟨t1, -⟩
          · exact ⟨_, rfl, rfl, Or.inl ⟨rfl, t2, fun i i0 i1 => hA i i0 (by omega)⟩⟩
          · exfalso; omega)
        (fun q1 v2 k3 q4 hm2 => by
          rcases k3 with ⟨t1, -⟩ | ⟨t1, t2, -⟩
          · exfalso; omega
          · exact ⟨_, rfl, rfl, Or.inr ⟨rfl, Or.inl ⟨_, t1.1, t1.2, t2⟩⟩⟩)
        (fun q1 y5 e6 q7 x8 e9 lo a0 a1 a2 hm2 => ih _ lo (by omega) (by omega) (by omega) (fun i i0 i1 => by
          by_cases e : i = k.toInt
          · rw [e]; exact q7
          · exact hA i i0 (by omega)) a0 a1 a2)
        (fun q1 y5 e6 q7 hm2 => ⟨_, rfl, rfl, Or.inr ⟨rfl, Or.inr ⟨k.toInt, by omega, by omega, q7⟩⟩⟩)
set_option maxRecDepth 100000 in
theorem w_in0B {d : Nat} {mem : zM} {P : Option Value → zM → Prop} {w : Int32} {lo : List (Nat × Value)} (hm : aTm aT0 mem) (l_0 : zlg lo 0 = some (.ref 14)) (l_1 : zlg lo 1 = some (.int w)) (h1 : ∀ lo, zlg lo 0 = some (.ref 14) → zlg lo 1 = some (.int w) → zlg lo 2 = some (.int 0) → aTm aT0 mem → yR zpg tX4_isNamed (d + 1) (2, lo, [], mem) P) : yR zpg tX4_isNamed (d + 1) (0, lo, [], mem) P := by
  refine yR_m 1 (fun _ _ _ _ => rfl) ?_
  refine wR_si rfl rfl (fun lo1 e2 f3 => ?_)
  have lo1_0 := f3 0 _ (by decide) (Or.inl rfl) l_0
  have lo1_1 := f3 1 _ (by decide) (Or.inl rfl) l_1
  exact h1 lo1 lo1_0 lo1_1 e2 hm

theorem h_inCB {w : Int32} (hm : aTm aT0 mem) (hd : 2 ≤ d) : yC zpg d 55 [.ref 14, .int w] mem (fun r m => ∃ v : Int32, r = some (.int v) ∧ mem = m ∧ iqC 14 15 19 mem w.toInt v.toInt) := by
  obtain ⟨d, rfl⟩ : ∃ q, d = q + 2 := ⟨d - 2, by omega⟩
  refine yC_of (t := tX4_isNamed) rfl rfl ?_
  exact w_in0B hm rfl rfl
        (fun  lo a0 a1 a2 hm2 => in2_B hm 7 _ lo (by have q9 := quB_r13 hm; show _ < 0 + 7; omega) (by decide) (by have q9 := quB_r13 hm; show 0 ≤ _; omega) (fun i i0 i1 => by exfalso; have e : Int32.toInt 0 = 0 := rfl; omega) a0 a1 a2)
set_option maxRecDepth 100000 in
theorem w_tk35B {d : Nat} {mem : zM} {P : Option Value → zM → Prop} {y : Int64} {k : Int32} {lo : List (Nat × Value)} (hm : aTm aT0 mem) (l_0 : zlg lo 0 = some (.ref 14)) (l_1 : zlg lo 1 = some (.long y)) (l_3 : zlg lo 3 = some (.int k)) (hk : 0 ≤ k.toInt ∧ k.toInt ≤ 6) (h1 : (gi mem 14 13).toInt ≤ (k).toInt → aTm aT0 mem → P (some (.long y)) mem) (h2 : (k).toInt < (gi mem 14 13).toInt → ∀ (y2 : Int32), y2.toInt = (gn (ga mem 20) (k).toInt) → ∀ (y4 : Int32), y4.toInt = (gn (ga mem 21) (k).toInt) → ∀ (x9 : Int32), x9.toInt = ((k).toInt + 1) → ∀ lo, zlg lo 0 = some (.ref 14) → zlg lo 1 = some (.long (y ||| ((1 <<< ((y2 : Int32).toInt64 &&& 63)) ||| (1 <<< ((y4 : Int32).toInt64 &&& 63))))) → zlg lo 3 = some (.int x9) → aTm aT0 mem → yR zpg tX4_taken (d + 1) (35, lo, [], mem) P) : yR zpg tX4_taken (d + 1) (35, lo, [], mem) P := by
  have r13 := quB_r13 hm
  refine wR_li rfl l_3 ?_
  refine wR_la rfl l_0 ?_
  refine wR_gi rfl quB_e quB_13 hm rfl ?_
  refine wR_ic_ge rfl (a := (k).toInt) (c := (gi mem 14 13).toInt) rfl rfl (fun q1 => ?_) (fun q1 => ?_)
  ·
    refine wR_ll4 rfl l_1 ?_
    exact yR_rl rfl (h1 q1 hm)
  ·
    refine wR_ll4 rfl l_1 ?_
    refine wR_la rfl l_0 ?_
    refine wR_gr rfl quB_e quB_15 hm ?_
    refine wR_li rfl l_3 ?_
    refine wN_al (a := (k).toInt) rfl aR_20 hm rfl rfl (by omega) (fun y2 e3 => ?_)
    refine wR_is rfl rfl rfl rfl rfl rfl ?_
    show yR zpg tX11_bitOf d (0, [(0, .int y2)], [], mem) _
    refine yR_m 3 (fun _ _ _ _ => rfl) ?_
    refine yR_rl rfl ?_
    show yR zpg tX4_taken (d + 1) (53, lo, [.long (1 <<< ((y2 : Int32).toInt64 &&& 63)), .long y], mem) _
    refine wR_la rfl l_0 ?_
    refine wR_gr rfl quB_e quB_16 hm ?_
    refine wR_li rfl l_3 ?_
    refine wN_al (a := (k).toInt) rfl aR_21 hm rfl rfl (by omega) (fun y4 e5 => ?_)
    refine wR_is rfl rfl rfl rfl rfl rfl ?_
    show yR zpg tX11_bitOf d (0, [(0, .int y4)], [], mem) _
    refine yR_m 3 (fun _ _ _ _ => rfl) ?_
    refine yR_rl rfl ?_
    show yR zpg tX4_taken (d + 1) (62, lo, [.long (1 <<< ((y4 : Int32).toInt64 &&& 63)), .long (1 <<< ((y2 : Int32).toInt64 &&& 63)), .long y], mem) _
    refine yR_m 2 (fun _ _ _ _ => rfl) ?_
    refine wR_sl rfl rfl (fun lo6 e7 f8 => ?_)
    have lo6_0 := f8 0 _ (by decide) (Or.inl rfl) l_0
    have lo6_3 := f8 3 _ (by decide) (Or.inl rfl) l_3
    refine wN_in (a := (k).toInt) (b := 1) rfl rfl lo6_3 rfl rfl (by omega) (fun x9 e10 => fun lo11 e12 f13 => ?_)
    have lo11_1 := f13 1 _ (by decide) (Or.inr (by decide)) e7
    have lo11_0 := f13 0 _ (by decide) (Or.inl rfl) lo6_0
    exact yR_m 1 (fun _ _ _ _ => rfl) (h2 q1 y2 e3 y4 e5 x9 e10 lo11 lo11_0 lo11_1 e12 hm)

theorem tk35_B (hm : aTm aT0 mem) (hP2 : ∀ i, 0 ≤ i → i < (gi mem 14 13).toInt → (0 ≤ gn (ga mem 20) i ∧ gn (ga mem 20) i < 64) ∧ 0 ≤ gn (ga mem 21) i ∧ gn (ga mem 21) i < 64) : ∀ (f : Nat) (k : Int32) (y : Int64) (lo : List (Nat × Value)), (gi mem 14 13).toInt < k.toInt + (f : Int) → 0 ≤ k.toInt → k.toInt ≤ (gi mem 14 13).toInt → tkD 14 16 20 21 (gi mem 14 7).toInt k.toInt mem y → zlg lo 0 = some (.ref 14) → zlg lo 1 = some (.long y) → zlg lo 3 = some (.int k) → yR zpg tX4_taken (d + 1) (35, lo, [], mem) (fun r m => ∃ y : Int64, r = some (.long y) ∧ mem = m ∧ tkD 14 16 20 21 (gi mem 14 7).toInt (gi mem 14 13).toInt mem y) := by
  have rr := quB_r13 hm
  intro f
  induction f with
  | zero =>
    intro k y lo hf h0 h9
    exfalso
    omega
  | succ f ih =>
    intro k y lo hf h0 h9 hD a0 a1 a3
    exact w_tk35B hm a0 a1 a3 ⟨h0, by omega⟩
        (fun q1 hm2 => ⟨_, rfl, rfl, tkD_b hD (by omega) (by omega)⟩)
        (fun q1 y2 e3 y4 e5 x9 e10 lo a0 a1 a3 hm2 => ih _ _ lo (by omega) (by omega) (by omega) (tkD_f hD (by omega) e3 e5 (by rw [e3]; exact (hP2 _ (by omega) (by omega)).1) (by rw [e5]; exact (hP2 _ (by omega) (by omega)).2) (by omega)) a0 a1 a3)
set_option maxRecDepth 100000 in
theorem w_tk7B {d : Nat} {mem : zM} {P : Option Value → zM → Prop} {y : Int64} {k : Int32} {lo : List (Nat × Value)} (hm : aTm aT0 mem) (l_0 : zlg lo 0 = some (.ref 14)) (l_1 : zlg lo 1 = some (.long y)) (l_3 : zlg lo 3 = some (.int k)) (hk : 0 ≤ k.toInt ∧ k.toInt ≤ 9) (h1 : (gi mem 14 7).toInt ≤ (k).toInt → ∀ lo, zlg lo 0 = some (.ref 14) → zlg lo 1 = some (.long y) → zlg lo 3 = some (.int 0) → aTm aT0 mem → yR zpg tX4_taken (d + 1) (35, lo, [], mem) P) (h2 : (k).toInt < (gi mem 14 7).toInt → ∀ (y5 : Int32), y5.toInt = (gn (ga mem 16) (k).toInt) → ∀ (x10 : Int32), x10.toInt = ((k).toInt + 1) → ∀ lo, zlg lo 0 = some (.ref 14) → zlg lo 1 = some (.long (y ||| (1 <<< ((y5 : Int32).toInt64 &&& 63)))) → zlg lo 3 = some (.int x10) → aTm aT0 mem → yR zpg tX4_taken (d + 1) (7, lo, [], mem) P) : yR zpg tX4_taken (d + 1) (7, lo, [], mem) P := by
  have r7 := quB_r7 hm
  refine wR_li rfl l_3 ?_
  refine wR_la rfl l_0 ?_
  refine wR_gi rfl quB_e quB_7 hm rfl ?_
  refine wR_ic_ge rfl (a := (k).toInt) (c := (gi mem 14 7).toInt) rfl rfl (fun q1 => ?_) (fun q1 => ?_)
  ·
    refine yR_m 1 (fun _ _ _ _ => rfl) ?_
    refine wR_si rfl rfl (fun lo2 e3 f4 => ?_)
    have lo2_0 := f4 0 _ (by decide) (Or.inl rfl) l_0
    have lo2_1 := f4 1 _ (by decide) (Or.inr (by decide)) l_1
    exact h1 q1 lo2 lo2_0 lo2_1 e3 hm
  ·
    refine wR_ll4 rfl l_1 ?_
    refine wR_la rfl l_0 ?_
    refine wR_gr rfl quB_e quB_9 hm ?_
    refine wR_li rfl l_3 ?_
    refine wN_al (a := (k).toInt) rfl aR_16 hm rfl rfl (by omega) (fun y5 e6 => ?_)
    refine wR_is rfl rfl rfl rfl rfl rfl ?_
    show yR zpg tX11_bitOf d (0, [(0, .int y5)], [], mem) _
    refine yR_m 3 (fun _ _ _ _ => rfl) ?_
    refine yR_rl rfl ?_
    show yR zpg tX4_taken (d + 1) (25, lo, [.long (1 <<< ((y5 : Int32).toInt64 &&& 63)), .long y], mem) _
    refine yR_m 1 (fun _ _ _ _ => rfl) ?_
    refine wR_sl rfl rfl (fun lo7 e8 f9 => ?_)
    have lo7_0 := f9 0 _ (by decide) (Or.inl rfl) l_0
    have lo7_3 := f9 3 _ (by decide) (Or.inl rfl) l_3
    refine wN_in (a := (k).toInt) (b := 1) rfl rfl lo7_3 rfl rfl (by omega) (fun x10 e11 => fun lo12 e13 f14 => ?_)
    have lo12_1 := f14 1 _ (by decide) (Or.inr (by decide)) e8
    have lo12_0 := f14 0 _ (by decide) (Or.inl rfl) lo7_0
    exact yR_m 1 (fun _ _ _ _ => rfl) (h2 q1 y5 e6 x10 e11 lo12 lo12_0 lo12_1 e13 hm)

theorem tk7_B (hm : aTm aT0 mem) (hP1 : ∀ i, 0 ≤ i → i < (gi mem 14 7).toInt → 0 ≤ gn (ga mem 16) i ∧ gn (ga mem 16) i < 64) (hP2 : ∀ i, 0 ≤ i → i < (gi mem 14 13).toInt → (0 ≤ gn (ga mem 20) i ∧ gn (ga mem 20) i < 64) ∧ 0 ≤ gn (ga mem 21) i ∧ gn (ga mem 21) i < 64) : ∀ (f : Nat) (k : Int32) (y : Int64) (lo : List (Nat × Value)), (gi mem 14 7).toInt < k.toInt + (f : Int) → 0 ≤ k.toInt → k.toInt ≤ (gi mem 14 7).toInt → tkD 14 16 20 21 k.toInt 0 mem y → zlg lo 0 = some (.ref 14) → zlg lo 1 = some (.long y) → zlg lo 3 = some (.int k) → yR zpg tX4_taken (d + 1) (7, lo, [], mem) (fun r m => ∃ y : Int64, r = some (.long y) ∧ mem = m ∧ tkD 14 16 20 21 (gi mem 14 7).toInt (gi mem 14 13).toInt mem y) := by
  have rr := quB_r7 hm
  intro f
  induction f with
  | zero =>
    intro k y lo hf h0 h9
    exfalso
    omega
  | succ f ih =>
    intro k y lo hf h0 h9 hD a0 a1 a3
    exact w_tk7B hm a0 a1 a3 ⟨h0, by omega⟩
        (fun q1 lo a0 a1 a3 hm2 => tk35_B hm hP2 7 _ _ lo (by have q9 := quB_r13 hm; show _ < 0 + 7; omega) (by decide) (by have q9 := quB_r13 hm; show 0 ≤ _; omega) (tkD_b hD (by omega) rfl) a0 a1 a3)
        (fun q1 y5 e6 x10 e11 lo a0 a1 a3 hm2 => ih _ _ lo (by omega) (by omega) (by omega) (tkD_t hD (by omega) e6 (hP1 _ (by omega) (by omega)) (by omega)) a0 a1 a3)
set_option maxRecDepth 100000 in
theorem w_tk0B {d : Nat} {mem : zM} {P : Option Value → zM → Prop} {lo : List (Nat × Value)} (hm : aTm aT0 mem) (l_0 : zlg lo 0 = some (.ref 14)) (h1 : ∀ lo, zlg lo 0 = some (.ref 14) → zlg lo 1 = some (.long (gL mem 14 6)) → zlg lo 3 = some (.int 0) → aTm aT0 mem → yR zpg tX4_taken (d + 1) (7, lo, [], mem) P) : yR zpg tX4_taken (d + 1) (0, lo, [], mem) P := by
  refine wR_la rfl l_0 ?_
  refine wR_gL rfl quB_e quB_6 hm rfl ?_
  refine wR_sl rfl rfl (fun lo1 e2 f3 => ?_)
  have lo1_0 := f3 0 _ (by decide) (Or.inl rfl) l_0
  refine yR_m 1 (fun _ _ _ _ => rfl) ?_
  refine wR_si rfl rfl (fun lo4 e5 f6 => ?_)
  have lo4_1 := f6 1 _ (by decide) (Or.inr (by decide)) e2
  have lo4_0 := f6 0 _ (by decide) (Or.inl rfl) lo1_0
  exact h1 lo4 lo4_0 lo4_1 e5 hm

theorem h_tkCB (hm : aTm aT0 mem) (hP1 : ∀ i, 0 ≤ i → i < (gi mem 14 7).toInt → 0 ≤ gn (ga mem 16) i ∧ gn (ga mem 16) i < 64) (hP2 : ∀ i, 0 ≤ i → i < (gi mem 14 13).toInt → (0 ≤ gn (ga mem 20) i ∧ gn (ga mem 20) i < 64) ∧ 0 ≤ gn (ga mem 21) i ∧ gn (ga mem 21) i < 64) (hd : 2 ≤ d) : yC zpg d 53 [.ref 14] mem (fun r m => ∃ y : Int64, r = some (.long y) ∧ mem = m ∧ tkD 14 16 20 21 (gi mem 14 7).toInt (gi mem 14 13).toInt mem y) := by
  obtain ⟨d, rfl⟩ : ∃ q, d = q + 2 := ⟨d - 2, by omega⟩
  refine yC_of (t := tX4_taken) rfl rfl ?_
  exact w_tk0B hm rfl
        (fun  lo a0 a1 a3 hm2 => tk7_B hm hP1 hP2 10 _ _ lo (by have q9 := quB_r7 hm; show _ < 0 + 10; omega) (by decide) (by have q9 := quB_r7 hm; show 0 ≤ _; omega) tkD_0 a0 a1 a3)
end CQ
