/-! on of the class -/
section CR
variable {Z : zPg} {T : List aCe} {t : zT} {d pc k i ci : Nat} {lo : List (Nat × Value)} {r : List Value} {mem : zM} {P : Option Value → zM → Prop} {τs : List (Bool × aTy)} {b : Bool} {q : Int × Int}
theorem wR_gq {a : Nat} (hk : zlk t pc = some (pc, zgf ci i)) (ho : aat T k = some (.inr (ci, τs))) (hm : aTm T mem) (hf : zfl mem k i = some (.ref a)) (h : yR Z t d (pc + 3, lo, .ref a :: r, mem) P) : yR Z t d (pc, lo, .ref k :: r, mem) P := by
  obtain ⟨fs, h1, -⟩ := aTm_o hm ho
  have h2 : fs[i]? = some (.ref a) := by
    unfold zfl at hf
    rw [h1] at hf
    exact hf
  exact yR_gf hk h1 h2 h
theorem wR_le {tt n : Nat} {x : Int32} (hk : zlk t pc = some (pc, zle4 tt)) (ho : aat T k = some (.inl (b, tt, n, .inl q))) (hm : aTm T mem) (hx : Int32.ofNat n = x) (h : yR Z t d (pc + 1, lo, .int x :: r, mem) P) : yR Z t d (pc, lo, .ref k :: r, mem) P := by
  obtain ⟨l, l1, l2, -⟩ := aTm_a hm ho
  subst hx
  exact yR_next hk (fun Y rec κ ρ => by simp only [zle4, l1, zbq, cond_true, zaz, l2]) h
end CR
def cO : List (Bool × aTy) := match aat aT0 0 with
  | some (.inr o) => o.2
  | _ => []
set_option maxRecDepth 100000 in
theorem cO_e : aat aT0 0 = some (.inr (11, cO)) := rfl
set_option maxRecDepth 100000 in
theorem cO_0 : cO[0]? = some (false, .inr (some [1])) := rfl
set_option maxRecDepth 100000 in
theorem cO_1 : cO[1]? = some (true, .inl (0, 1600)) := rfl
theorem cO_r1 {m : zM} (hm : aTm aT0 m) : 0 ≤ (gi m 0 1).toInt ∧ (gi m 0 1).toInt ≤ 1600 := gi_rg cO_e cO_1 hm
set_option maxRecDepth 100000 in
theorem cO_2 : cO[2]? = some (false, .inl (-2147483648, 2147483647)) := rfl
set_option maxRecDepth 100000 in
theorem cO_3 : cO[3]? = some (false, .inl (-2147483648, 2147483647)) := rfl
set_option maxRecDepth 100000 in
theorem cO_4 : cO[4]? = some (true, .inr (some [2, 14])) := rfl
set_option maxRecDepth 100000 in
theorem cO_5 : cO[5]? = some (true, .inr (some [2, 14])) := rfl
set_option maxRecDepth 100000 in
theorem cO_6 : cO[6]? = some (false, .inr (some [26])) := rfl
set_option maxRecDepth 100000 in
theorem cO_7 : cO[7]? = some (false, .inr (some [31])) := rfl
set_option maxRecDepth 100000 in
theorem cO_8 : cO[8]? = some (false, .inr (some [34])) := rfl
set_option maxRecDepth 100000 in
theorem cO_9 : cO[9]? = some (false, .inr (some [38])) := rfl
set_option maxRecDepth 100000 in
theorem cO_10 : cO[10]? = some (false, .inr (some [181])) := rfl
set_option maxRecDepth 100000 in
theorem cO_11 : cO[11]? = some (false, .inr (some [185])) := rfl
set_option maxRecDepth 100000 in
theorem cO_12 : cO[12]? = some (false, .inr (some [219])) := rfl
set_option maxRecDepth 100000 in
theorem cO_13 : cO[13]? = some (false, .inl (0, 33)) := rfl
theorem cO_r13 {m : zM} (hm : aTm aT0 m) : 0 ≤ (gi m 0 13).toInt ∧ (gi m 0 13).toInt ≤ 33 := gi_rg cO_e cO_13 hm
set_option maxRecDepth 100000 in
theorem cO_14 : cO[14]? = some (false, .inr (some [220])) := rfl
set_option maxRecDepth 100000 in
theorem cO_15 : cO[15]? = some (false, .inl (-2147483648, 2147483647)) := rfl
def pA : List (Bool × aTy) := match aat aT0 2 with
  | some (.inr o) => o.2
  | _ => []
set_option maxRecDepth 100000 in
theorem pA_e : aat aT0 2 = some (.inr (4, pA)) := rfl
set_option maxRecDepth 100000 in
theorem pA_0 : pA[0]? = some (true, .inl (-2147483648, 2147483647)) := rfl
set_option maxRecDepth 100000 in
theorem pA_1 : pA[1]? = some (true, .inl (-2147483648, 2147483647)) := rfl
set_option maxRecDepth 100000 in
theorem pA_2 : pA[2]? = some (true, .inl (-2147483648, 2147483647)) := rfl
set_option maxRecDepth 100000 in
theorem pA_3 : pA[3]? = some (true, .inl (-2147483648, 2147483647)) := rfl
set_option maxRecDepth 100000 in
theorem pA_4 : pA[4]? = some (true, .inl (-2147483648, 2147483647)) := rfl
set_option maxRecDepth 100000 in
theorem pA_5 : pA[5]? = some (true, .inr none) := rfl
set_option maxRecDepth 100000 in
theorem pA_6 : pA[6]? = some (true, .inr none) := rfl
set_option maxRecDepth 100000 in
theorem pA_7 : pA[7]? = some (true, .inl (0, 9)) := rfl
theorem pA_r7 {m : zM} (hm : aTm aT0 m) : 0 ≤ (gi m 2 7).toInt ∧ (gi m 2 7).toInt ≤ 9 := gi_rg pA_e pA_7 hm
set_option maxRecDepth 100000 in
theorem pA_8 : pA[8]? = some (true, .inr (some [3])) := rfl
set_option maxRecDepth 100000 in
theorem pA_9 : pA[9]? = some (true, .inr (some [4])) := rfl
set_option maxRecDepth 100000 in
theorem pA_10 : pA[10]? = some (true, .inr (some [5])) := rfl
set_option maxRecDepth 100000 in
theorem pA_11 : pA[11]? = some (true, .inr (some [6])) := rfl
set_option maxRecDepth 100000 in
theorem pA_12 : pA[12]? = some (true, .inl (0, 511)) := rfl
theorem pA_r12 {m : zM} (hm : aTm aT0 m) : 0 ≤ (gi m 2 12).toInt ∧ (gi m 2 12).toInt ≤ 511 := gi_rg pA_e pA_12 hm
set_option maxRecDepth 100000 in
theorem pA_13 : pA[13]? = some (true, .inl (0, 6)) := rfl
theorem pA_r13 {m : zM} (hm : aTm aT0 m) : 0 ≤ (gi m 2 13).toInt ∧ (gi m 2 13).toInt ≤ 6 := gi_rg pA_e pA_13 hm
set_option maxRecDepth 100000 in
theorem pA_14 : pA[14]? = some (true, .inr (some [7])) := rfl
set_option maxRecDepth 100000 in
theorem pA_15 : pA[15]? = some (true, .inr (some [8])) := rfl
set_option maxRecDepth 100000 in
theorem pA_16 : pA[16]? = some (true, .inr (some [9])) := rfl
set_option maxRecDepth 100000 in
theorem pA_17 : pA[17]? = some (true, .inr (some [10])) := rfl
def pB : List (Bool × aTy) := match aat aT0 14 with
  | some (.inr o) => o.2
  | _ => []
set_option maxRecDepth 100000 in
theorem pB_e : aat aT0 14 = some (.inr (4, pB)) := rfl
set_option maxRecDepth 100000 in
theorem pB_0 : pB[0]? = some (true, .inl (-2147483648, 2147483647)) := rfl
set_option maxRecDepth 100000 in
theorem pB_1 : pB[1]? = some (true, .inl (-2147483648, 2147483647)) := rfl
set_option maxRecDepth 100000 in
theorem pB_2 : pB[2]? = some (true, .inl (-2147483648, 2147483647)) := rfl
set_option maxRecDepth 100000 in
theorem pB_3 : pB[3]? = some (true, .inl (-2147483648, 2147483647)) := rfl
set_option maxRecDepth 100000 in
theorem pB_4 : pB[4]? = some (true, .inl (-2147483648, 2147483647)) := rfl
set_option maxRecDepth 100000 in
theorem pB_5 : pB[5]? = some (true, .inr none) := rfl
set_option maxRecDepth 100000 in
theorem pB_6 : pB[6]? = some (true, .inr none) := rfl
set_option maxRecDepth 100000 in
theorem pB_7 : pB[7]? = some (true, .inl (0, 9)) := rfl
theorem pB_r7 {m : zM} (hm : aTm aT0 m) : 0 ≤ (gi m 14 7).toInt ∧ (gi m 14 7).toInt ≤ 9 := gi_rg pB_e pB_7 hm
set_option maxRecDepth 100000 in
theorem pB_8 : pB[8]? = some (true, .inr (some [15])) := rfl
set_option maxRecDepth 100000 in
theorem pB_9 : pB[9]? = some (true, .inr (some [16])) := rfl
set_option maxRecDepth 100000 in
theorem pB_10 : pB[10]? = some (true, .inr (some [17])) := rfl
set_option maxRecDepth 100000 in
theorem pB_11 : pB[11]? = some (true, .inr (some [18])) := rfl
set_option maxRecDepth 100000 in
theorem pB_12 : pB[12]? = some (true, .inl (0, 511)) := rfl
theorem pB_r12 {m : zM} (hm : aTm aT0 m) : 0 ≤ (gi m 14 12).toInt ∧ (gi m 14 12).toInt ≤ 511 := gi_rg pB_e pB_12 hm
set_option maxRecDepth 100000 in
theorem pB_13 : pB[13]? = some (true, .inl (0, 6)) := rfl
theorem pB_r13 {m : zM} (hm : aTm aT0 m) : 0 ≤ (gi m 14 13).toInt ∧ (gi m 14 13).toInt ≤ 6 := gi_rg pB_e pB_13 hm
set_option maxRecDepth 100000 in
theorem pB_14 : pB[14]? = some (true, .inr (some [19])) := rfl
set_option maxRecDepth 100000 in
theorem pB_15 : pB[15]? = some (true, .inr (some [20])) := rfl
set_option maxRecDepth 100000 in
theorem pB_16 : pB[16]? = some (true, .inr (some [21])) := rfl
set_option maxRecDepth 100000 in
theorem pB_17 : pB[17]? = some (true, .inr (some [22])) := rfl
def nO : List (Bool × aTy) := match aat aT0 31 with
  | some (.inr o) => o.2
  | _ => []
set_option maxRecDepth 100000 in
theorem nO_e : aat aT0 31 = some (.inr (8, nO)) := rfl
set_option maxRecDepth 100000 in
theorem nO_0 : nO[0]? = some (false, .inl (-2147483648, 2147483647)) := rfl
set_option maxRecDepth 100000 in
theorem nO_1 : nO[1]? = some (false, .inl (0, 511)) := rfl
theorem nO_r1 {m : zM} (hm : aTm aT0 m) : 0 ≤ (gi m 31 1).toInt ∧ (gi m 31 1).toInt ≤ 511 := gi_rg nO_e nO_1 hm
set_option maxRecDepth 100000 in
theorem nO_2 : nO[2]? = some (false, .inr (some [32])) := rfl
set_option maxRecDepth 100000 in
theorem nO_3 : nO[3]? = some (false, .inr (some [33])) := rfl
set_option maxRecDepth 100000 in
theorem nO_4 : nO[4]? = some (false, .inl (-2147483648, 2147483647)) := rfl
set_option maxRecDepth 100000 in
theorem nO_5 : nO[5]? = some (false, .inl (-2147483648, 2147483647)) := rfl
def wO : List (Bool × aTy) := match aat aT0 34 with
  | some (.inr o) => o.2
  | _ => []
set_option maxRecDepth 100000 in
theorem wO_e : aat aT0 34 = some (.inr (1, wO)) := rfl
set_option maxRecDepth 100000 in
theorem wO_0 : wO[0]? = some (false, .inr (some [35])) := rfl
set_option maxRecDepth 100000 in
theorem wO_1 : wO[1]? = some (false, .inr (some [36])) := rfl
set_option maxRecDepth 100000 in
theorem wO_2 : wO[2]? = some (false, .inr (some [37])) := rfl
set_option maxRecDepth 100000 in
theorem wO_3 : wO[3]? = some (false, .inl (0, 40)) := rfl
theorem wO_r3 {m : zM} (hm : aTm aT0 m) : 0 ≤ (gi m 34 3).toInt ∧ (gi m 34 3).toInt ≤ 40 := gi_rg wO_e wO_3 hm
def uO : List (Bool × aTy) := match aat aT0 38 with
  | some (.inr o) => o.2
  | _ => []
set_option maxRecDepth 100000 in
theorem uO_e : aat aT0 38 = some (.inr (2, uO)) := rfl
set_option maxRecDepth 100000 in
theorem uO_0 : uO[0]? = some (false, .inr (some [39])) := rfl
set_option maxRecDepth 100000 in
theorem uO_1 : uO[1]? = some (false, .inr (some [40])) := rfl
set_option maxRecDepth 100000 in
theorem uO_2 : uO[2]? = some (false, .inl (0, 19)) := rfl
theorem uO_r2 {m : zM} (hm : aTm aT0 m) : 0 ≤ (gi m 38 2).toInt ∧ (gi m 38 2).toInt ≤ 19 := gi_rg uO_e uO_2 hm
set_option maxRecDepth 100000 in
theorem uO_3 : uO[3]? = some (false, .inl (0, 20)) := rfl
theorem uO_r3 {m : zM} (hm : aTm aT0 m) : 0 ≤ (gi m 38 3).toInt ∧ (gi m 38 3).toInt ≤ 20 := gi_rg uO_e uO_3 hm
set_option maxRecDepth 100000 in
theorem aR_1 : aat aT0 1 = some (.inl (true, 0, 1600, .inl (0, 255))) := rfl
theorem gR_1 {m : zM} (hm : aTm aT0 m) {i : Int} (h0 : 0 ≤ i) (h1 : i < 1600) : 0 ≤ gn (ga m 1) i ∧ gn (ga m 1) i ≤ 255 := gn_rg aR_1 hm h0 h1
theorem gl_1 {m : zM} (hm : aTm aT0 m) : (ga m 1).length = 1600 := (ga_ty aR_1 hm).2.1
set_option maxRecDepth 100000 in
theorem aR_32 : aat aT0 32 = some (.inl (false, 0, 9, .inl (-2147483648, 2147483647))) := rfl
theorem gR_32 {m : zM} (hm : aTm aT0 m) {i : Int} (h0 : 0 ≤ i) (h1 : i < 9) : -2147483648 ≤ gn (ga m 32) i ∧ gn (ga m 32) i ≤ 2147483647 := gn_rg aR_32 hm h0 h1
theorem gl_32 {m : zM} (hm : aTm aT0 m) : (ga m 32).length = 9 := (ga_ty aR_32 hm).2.1
set_option maxRecDepth 100000 in
theorem aR_33 : aat aT0 33 = some (.inl (false, 0, 6, .inl (-2147483648, 2147483647))) := rfl
theorem gR_33 {m : zM} (hm : aTm aT0 m) {i : Int} (h0 : 0 ≤ i) (h1 : i < 6) : -2147483648 ≤ gn (ga m 33) i ∧ gn (ga m 33) i ≤ 2147483647 := gn_rg aR_33 hm h0 h1
theorem gl_33 {m : zM} (hm : aTm aT0 m) : (ga m 33).length = 6 := (ga_ty aR_33 hm).2.1
set_option maxRecDepth 100000 in
theorem aR_220 : aat aT0 220 = some (.inl (false, 0, 6, .inl (-2147483648, 2147483647))) := rfl
theorem gR_220 {m : zM} (hm : aTm aT0 m) {i : Int} (h0 : 0 ≤ i) (h1 : i < 6) : -2147483648 ≤ gn (ga m 220) i ∧ gn (ga m 220) i ≤ 2147483647 := gn_rg aR_220 hm h0 h1
theorem gl_220 {m : zM} (hm : aTm aT0 m) : (ga m 220).length = 6 := (ga_ty aR_220 hm).2.1
section CN
variable {d : Nat} {mr mem : zM}
set_option maxRecDepth 100000 in
theorem w_ck_6 {d : Nat} {mem : zM} {P : Option Value → zM → Prop} {n c k : Int32} {lo : List (Nat × Value)} (hm : aTm aT0 mem) (l_0 : zlg lo 0 = some (.ref 1)) (l_1 : zlg lo 1 = some (.int n)) (l_2 : zlg lo 2 = some (.int c)) (l_3 : zlg lo 3 = some (.int k)) (hk : 0 ≤ k.toInt ∧ k.toInt ≤ 1600) (h1 : (n).toInt ≤ (k).toInt → aTm aT0 mem → P (some (.int c)) mem) (h2 : (k).toInt < (n).toInt → 1600 ≤ (k).toInt → aTm aT0 mem → P (some (.int c)) mem) (h3 : (k).toInt < (n).toInt → (k).toInt < 1600 → ∀ (y3 : Int32), y3.toInt = (gn (ga mem 1) (k).toInt) → ∀ (x8 : Int32), x8.toInt = ((k).toInt + 1) → ∀ lo, zlg lo 0 = some (.ref 1) → zlg lo 1 = some (.int n) → zlg lo 2 = some (.int (((5 * c) + y3) - ((5 * c) + y3) / 251 * 251)) → zlg lo 3 = some (.int x8) → aTm aT0 mem → yR zpg tX11_checkOf d (6, lo, [], mem) P) : yR zpg tX11_checkOf d (6, lo, [], mem) P := by
  refine wR_li rfl l_3 ?_
  refine wR_li rfl l_1 ?_
  refine wR_ic_ge rfl (a := (k).toInt) (c := (n).toInt) rfl rfl (fun q1 => ?_) (fun q1 => ?_)
  ·
    refine wR_li rfl l_2 ?_
    exact yR_ri rfl (h1 q1 hm)
  ·
    refine wR_li rfl l_3 ?_
    refine wR_la rfl l_0 ?_
    refine wR_le (x := 1600) rfl aR_1 hm rfl ?_
    refine wR_ic_ge rfl (a := (k).toInt) (c := 1600) rfl rfl (fun q2 => ?_) (fun q2 => ?_)
    ·
      refine wR_li rfl l_2 ?_
      exact yR_ri rfl (h2 q1 q2 hm)
    ·
      refine yR_m 1 (fun _ _ _ _ => rfl) ?_
      refine wR_li rfl l_2 ?_
      refine yR_m 1 (fun _ _ _ _ => rfl) ?_
      refine wR_la rfl l_0 ?_
      refine wR_li rfl l_3 ?_
      refine wN_al (a := (k).toInt) rfl aR_1 hm rfl rfl (by omega) (fun y3 e4 => ?_)
      refine yR_m 3 (fun _ _ _ _ => rfl) ?_
      refine wR_si rfl rfl (fun lo5 e6 f7 => ?_)
      have lo5_0 := f7 0 _ (by decide) (Or.inl rfl) l_0
      have lo5_1 := f7 1 _ (by decide) (Or.inl rfl) l_1
      have lo5_3 := f7 3 _ (by decide) (Or.inl rfl) l_3
      refine wN_in (a := (k).toInt) (b := 1) rfl rfl lo5_3 rfl rfl (by omega) (fun x8 e9 => fun lo10 e11 f12 => ?_)
      have lo10_2 := f12 2 _ (by decide) (Or.inl rfl) e6
      have lo10_0 := f12 0 _ (by decide) (Or.inl rfl) lo5_0
      have lo10_1 := f12 1 _ (by decide) (Or.inl rfl) lo5_1
      exact yR_m 1 (fun _ _ _ _ => rfl) (h3 q1 q2 y3 e4 x8 e9 lo10 lo10_0 lo10_1 lo10_2 e11 hm)

theorem ck_6 {n : Int32} (hm : aTm aT0 mem) : ∀ (f : Nat) (c k : Int32) (lo : List (Nat × Value)), k.toInt + (f : Int) = 1600 → 0 ≤ k.toInt → zlg lo 0 = some (.ref 1) → zlg lo 1 = some (.int n) → zlg lo 2 = some (.int c) → zlg lo 3 = some (.int k) → yR zpg tX11_checkOf d (6, lo, [], mem) (fun r m => ∃ v : Int32, r = some (.int v) ∧ mem = m ∧ True) := by
  intro f
  induction f with
  | zero =>
    intro c k lo hk h0 a0 a1 a2 a3
    exact w_ck_6 hm a0 a1 a2 a3 ⟨h0, by omega⟩
        (fun q1 hm => ⟨_, rfl, rfl, trivial⟩)
        (fun q1 q2 hm => ⟨_, rfl, rfl, trivial⟩)
        (fun q1 q2 y3 e4 x8 e9 lo a0 a1 a2 a3 hm => by exfalso; omega)
  | succ f ih =>
    intro c k lo hk h0 a0 a1 a2 a3
    exact w_ck_6 hm a0 a1 a2 a3 ⟨h0, by omega⟩
        (fun q1 hm => ⟨_, rfl, rfl, trivial⟩)
        (fun q1 q2 hm => ⟨_, rfl, rfl, trivial⟩)
        (fun q1 q2 y3 e4 x8 e9 lo a0 a1 a2 a3 hm => ih _ _ lo (by omega) (by omega) a0 a1 a2 a3)
set_option maxRecDepth 100000 in
theorem w_ck_0 {d : Nat} {mem : zM} {P : Option Value → zM → Prop} {n : Int32} {lo : List (Nat × Value)} (hm : aTm aT0 mem) (l_0 : zlg lo 0 = some (.ref 1)) (l_1 : zlg lo 1 = some (.int n)) (h1 : ∀ lo, zlg lo 0 = some (.ref 1) → zlg lo 1 = some (.int n) → zlg lo 2 = some (.int 241) → zlg lo 3 = some (.int 0) → aTm aT0 mem → yR zpg tX11_checkOf d (6, lo, [], mem) P) : yR zpg tX11_checkOf d (0, lo, [], mem) P := by
  refine yR_m 1 (fun _ _ _ _ => rfl) ?_
  refine wR_si rfl rfl (fun lo1 e2 f3 => ?_)
  have lo1_0 := f3 0 _ (by decide) (Or.inl rfl) l_0
  have lo1_1 := f3 1 _ (by decide) (Or.inl rfl) l_1
  refine yR_m 1 (fun _ _ _ _ => rfl) ?_
  refine wR_si rfl rfl (fun lo4 e5 f6 => ?_)
  have lo4_2 := f6 2 _ (by decide) (Or.inl rfl) e2
  have lo4_0 := f6 0 _ (by decide) (Or.inl rfl) lo1_0
  have lo4_1 := f6 1 _ (by decide) (Or.inl rfl) lo1_1
  exact h1 lo4 lo4_0 lo4_1 lo4_2 e5 hm

theorem h_checkOf {n : Int32} (hm : aTm aT0 mem) (hd : 1 ≤ d) : yC zpg d 158 [.ref 1, .int n] mem (fun r m => ∃ v : Int32, r = some (.int v) ∧ mem = m ∧ True) := by
  obtain ⟨d, rfl⟩ : ∃ q, d = q + 1 := ⟨d - 1, by omega⟩
  refine yC_of (t := tX11_checkOf) rfl rfl ?_
  exact w_ck_0 hm rfl rfl
        (fun  lo a0 a1 a2 a3 hm => ck_6 hm 1600 _ _ lo (by decide) (by decide) a0 a1 a2 a3)
/-- the things' bytes on the tape are 0 or 1 -/
def hiT (p : Nat) (m : zM) : Prop := ∀ j : Int, 0 ≤ j → j < (gi m p 7).toInt → gn (ga m 1) (2 + 2 * j) ≤ 1
def frK (a b : zM) : Prop := (∀ k, ((1 ≤ k ∧ k ≤ 30) ∨ (181 ≤ k ∧ k ≤ 219) ∨ 221 ≤ k) → zat b k = zat a k) ∧ ∀ i, ¬ i = 15 → zfl b 0 i = zfl a 0 i
theorem frK_rf {m : zM} : frK m m := ⟨fun _ _ => rfl, fun _ _ => rfl⟩
theorem frK_sv {m : zM} {k i : Nat} {v : Value} (hk : (k = 0 ∧ i = 15) ∨ (30 < k ∧ k < 181) ∨ k = 220) (h : frK mr m) : frK mr (sv m k i v) := ⟨fun q hq => by
  rw [zat_sv_ne (by omega)]; exact h.1 q hq, fun j hj => (zfl_sv_ne (by omega)).trans (h.2 j hj)⟩
theorem frK_sa {m : zM} {k j : Nat} {x : Int32} (hk : (30 < k ∧ k < 181) ∨ k = 220) (h : frK mr m) : frK mr (sa m k j x) := ⟨fun q hq => by
  rw [zat_sa_ne (by omega)]; exact h.1 q hq, fun j hj => zfl_sa.trans (h.2 j hj)⟩
theorem gi_zl {m m' : zM} {k i : Nat} (h : zfl m' k i = zfl m k i) : gi m' k i = gi m k i := by
  unfold gi
  rw [h]
def hiP (p : Nat) (mem : zM) (r : Option Value) (m : zM) : Prop := ∃ v : Int32, r = some (.int v) ∧ mem = m ∧ (v.toInt = 0 ∨ (v.toInt = 1 ∧ hiT p mem))
def onP (mr : zM) (r : Option Value) (m : zM) : Prop := (∃ v : Int32, r = some (.int v)) ∧ aTm aT0 m ∧ frK mr m
set_option maxRecDepth 100000 in
theorem w_hf_pA {d : Nat} {mem : zM} {P : Option Value → zM → Prop} {x y : Int32} (hm : aTm aT0 mem) (h1 : (x).toInt < 0 → aTm aT0 mem → P (some (.int 0)) mem) (h2 : 0 ≤ (x).toInt → (gi mem 2 1).toInt ≤ (x).toInt → aTm aT0 mem → P (some (.int 0)) mem) (h3 : 0 ≤ (x).toInt → (x).toInt < (gi mem 2 1).toInt → (y).toInt < 0 → aTm aT0 mem → P (some (.int 0)) mem) (h4 : 0 ≤ (x).toInt → (x).toInt < (gi mem 2 1).toInt → 0 ≤ (y).toInt → (gi mem 2 2).toInt ≤ (y).toInt → aTm aT0 mem → P (some (.int 0)) mem) (h5 : 0 ≤ (x).toInt → (x).toInt < (gi mem 2 1).toInt → 0 ≤ (y).toInt → (y).toInt < (gi mem 2 2).toInt → ¬ ((gL mem 2 6) &&& (1 <<< ((((y * 8) + x) : Int32).toInt64 &&& 63))) = 0 → aTm aT0 mem → P (some (.int 0)) mem) (h6 : 0 ≤ (x).toInt → (x).toInt < (gi mem 2 1).toInt → 0 ≤ (y).toInt → (y).toInt < (gi mem 2 2).toInt → ((gL mem 2 6) &&& (1 <<< ((((y * 8) + x) : Int32).toInt64 &&& 63))) = 0 → aTm aT0 mem → P (some (.int 1)) mem) : yR zpg tX4_hasFreeCell (d + 1) (0, [(0, .ref 2), (1, .int x), (2, .int y)], [], mem) P := by
  refine yR_m 3 (fun _ _ _ _ => rfl) ?_
  refine wR_iv rfl rfl pA_e hm rfl rfl rfl rfl ?_
  show yR zpg tX4_hasCell d (0, [(0, .ref 2), (1, .int x), (2, .int y)], [], mem) _
  refine yR_m 1 (fun _ _ _ _ => rfl) ?_
  refine wR_if_lt rfl (a := (x).toInt) rfl (fun q1 => ?_) (fun q1 => ?_)
  ·
    refine yR_m 1 (fun _ _ _ _ => rfl) ?_
    refine yR_rz rfl ⟨by decide, by decide⟩ ?_
    show yR zpg tX4_hasFreeCell (d + 1) (6, [(0, .ref 2), (1, .int x), (2, .int y)], [.int 0], mem) _
    refine wR_if_eq rfl (a := 0) rfl (fun _ => ?_) (fun q => by exfalso; omega)
    refine yR_m 1 (fun _ _ _ _ => rfl) ?_
    exact yR_rz rfl ⟨by decide, by decide⟩ (h1 q1 hm)
  ·
    refine yR_m 2 (fun _ _ _ _ => rfl) ?_
    refine wR_gi rfl pA_e pA_1 hm rfl ?_
    refine wR_ic_ge rfl (a := (x).toInt) (c := (gi mem 2 1).toInt) rfl rfl (fun q2 => ?_) (fun q2 => ?_)
    ·
      refine yR_m 1 (fun _ _ _ _ => rfl) ?_
      refine yR_rz rfl ⟨by decide, by decide⟩ ?_
      show yR zpg tX4_hasFreeCell (d + 1) (6, [(0, .ref 2), (1, .int x), (2, .int y)], [.int 0], mem) _
      refine wR_if_eq rfl (a := 0) rfl (fun _ => ?_) (fun q => by exfalso; omega)
      refine yR_m 1 (fun _ _ _ _ => rfl) ?_
      exact yR_rz rfl ⟨by decide, by decide⟩ (h2 q1 q2 hm)
    ·
      refine yR_m 1 (fun _ _ _ _ => rfl) ?_
      refine wR_if_lt rfl (a := (y).toInt) rfl (fun q3 => ?_) (fun q3 => ?_)
      ·
        refine yR_m 1 (fun _ _ _ _ => rfl) ?_
        refine yR_rz rfl ⟨by decide, by decide⟩ ?_
        show yR zpg tX4_hasFreeCell (d + 1) (6, [(0, .ref 2), (1, .int x), (2, .int y)], [.int 0], mem) _
        refine wR_if_eq rfl (a := 0) rfl (fun _ => ?_) (fun q => by exfalso; omega)
        refine yR_m 1 (fun _ _ _ _ => rfl) ?_
        exact yR_rz rfl ⟨by decide, by decide⟩ (h3 q1 q2 q3 hm)
      ·
        refine yR_m 2 (fun _ _ _ _ => rfl) ?_
        refine wR_gi rfl pA_e pA_2 hm rfl ?_
        refine wR_ic_ge rfl (a := (y).toInt) (c := (gi mem 2 2).toInt) rfl rfl (fun q4 => ?_) (fun q4 => ?_)
        ·
          refine yR_m 1 (fun _ _ _ _ => rfl) ?_
          refine yR_rz rfl ⟨by decide, by decide⟩ ?_
          show yR zpg tX4_hasFreeCell (d + 1) (6, [(0, .ref 2), (1, .int x), (2, .int y)], [.int 0], mem) _
          refine wR_if_eq rfl (a := 0) rfl (fun _ => ?_) (fun q => by exfalso; omega)
          refine yR_m 1 (fun _ _ _ _ => rfl) ?_
          exact yR_rz rfl ⟨by decide, by decide⟩ (h4 q1 q2 q3 q4 hm)
        ·
          refine yR_m 2 (fun _ _ _ _ => rfl) ?_
          refine yR_rz rfl ⟨by decide, by decide⟩ ?_
          show yR zpg tX4_hasFreeCell (d + 1) (6, [(0, .ref 2), (1, .int x), (2, .int y)], [.int 1], mem) _
          refine wR_if_eq rfl (a := 1) rfl (fun q => by exfalso; omega) (fun _ => ?_)
          refine yR_m 1 (fun _ _ _ _ => rfl) ?_
          refine wR_gL rfl pA_e pA_6 hm rfl ?_
          refine yR_m 2 (fun _ _ _ _ => rfl) ?_
          refine wR_is rfl rfl rfl rfl rfl rfl ?_
          show yR zpg tX11_placeOf d (0, [(0, .int x), (1, .int y)], [], mem) _
          refine yR_m 5 (fun _ _ _ _ => rfl) ?_
          refine yR_ri rfl ?_
          show yR zpg tX4_hasFreeCell (d + 1) (18, [(0, .ref 2), (1, .int x), (2, .int y)], [.int ((y * 8) + x), .long (gL mem 2 6)], mem) _
          refine wR_is rfl rfl rfl rfl rfl rfl ?_
          show yR zpg tX11_bitOf d (0, [(0, .int ((y * 8) + x))], [], mem) _
          refine yR_m 3 (fun _ _ _ _ => rfl) ?_
          refine yR_rl rfl ?_
          show yR zpg tX4_hasFreeCell (d + 1) (21, [(0, .ref 2), (1, .int x), (2, .int y)], [.long (1 <<< ((((y * 8) + x) : Int32).toInt64 &&& 63)), .long (gL mem 2 6)], mem) _
          refine yR_m 3 (fun _ _ _ _ => rfl) ?_
          refine wR_lf_ne rfl (fun q5 => ?_) (fun q5 => ?_)
          ·
            refine yR_m 1 (fun _ _ _ _ => rfl) ?_
            exact yR_rz rfl ⟨by decide, by decide⟩ (h5 q1 q2 q3 q4 q5 hm)
          ·
            refine yR_m 2 (fun _ _ _ _ => rfl) ?_
            exact yR_rz rfl ⟨by decide, by decide⟩ (h6 q1 q2 q3 q4 q5 hm)

theorem h_hasFree_pA {x y : Int32} (hm : aTm aT0 mem) (hd : 2 ≤ d) : yC zpg d 51 [.ref 2, .int x, .int y] mem (fun r m => ∃ v : Int32, r = some (.int v) ∧ mem = m ∧ 0 ≤ v.toInt ∧ v.toInt ≤ 1) := by
  obtain ⟨d, rfl⟩ : ∃ q, d = q + 2 := ⟨d - 2, by omega⟩
  refine yC_of (t := tX4_hasFreeCell) rfl rfl ?_
  exact w_hf_pA hm
        (fun q1 hm => ⟨_, rfl, rfl, by decide, by decide⟩)
        (fun q1 q2 hm => ⟨_, rfl, rfl, by decide, by decide⟩)
        (fun q1 q2 q3 hm => ⟨_, rfl, rfl, by decide, by decide⟩)
        (fun q1 q2 q3 q4 hm => ⟨_, rfl, rfl, by decide, by decide⟩)
        (fun q1 q2 q3 q4 q5 hm => ⟨_, rfl, rfl, by decide, by decide⟩)
        (fun q1 q2 q3 q4 q5 hm => ⟨_, rfl, rfl, by decide, by decide⟩)
set_option maxRecDepth 100000 in
theorem w_hipA_116 {d : Nat} {mem : zM} {P : Option Value → zM → Prop} {n u g k : Int32} {lo : List (Nat × Value)} (hm : aTm aT0 mem) (l_0 : zlg lo 0 = some (.ref 0)) (l_1 : zlg lo 1 = some (.int n)) (l_2 : zlg lo 2 = some (.int u)) (l_3 : zlg lo 3 = some (.int g)) (l_4 : zlg lo 4 = some (.int k)) (hp : zfl mem 0 4 = some (.ref 2)) (hk : 0 ≤ k.toInt ∧ k.toInt ≤ 6) (hu : 1 ≤ u.toInt ∧ u.toInt ≤ 33) (hg : 0 ≤ g.toInt ∧ g.toInt ≤ 20) (h1 : (gi mem 2 13).toInt ≤ (k).toInt → ∀ (x2 : Int32), x2.toInt = ((u).toInt - 1) → ∀ (y4 : Int32), y4.toInt = (gn (ga mem 1) ((u).toInt - 1)) → ∀ (x6 : Int32), x6.toInt = ((u).toInt - 1) → ∀ (v8 : Int32), True → ¬ (gn (ga mem 1) ((u).toInt - 1)) = (v8).toInt → aTm aT0 mem → P (some (.int 0)) mem) (h2 : (gi mem 2 13).toInt ≤ (k).toInt → ∀ (x2 : Int32), x2.toInt = ((u).toInt - 1) → ∀ (y4 : Int32), y4.toInt = (gn (ga mem 1) ((u).toInt - 1)) → ∀ (x6 : Int32), x6.toInt = ((u).toInt - 1) → ∀ (v8 : Int32), True → (gn (ga mem 1) ((u).toInt - 1)) = (v8).toInt → aTm aT0 mem → P (some (.int 1)) mem) (h3 : (k).toInt < (gi mem 2 13).toInt → ∀ (x11 : Int32), x11.toInt = (2 * (k).toInt) → ∀ (x13 : Int32), x13.toInt = ((g).toInt + (2 * (k).toInt)) → ∀ (y15 : Int32), y15.toInt = (gn (ga mem 1) ((g).toInt + (2 * (k).toInt))) → ∀ (x17 : Int32), x17.toInt = (2 * (k).toInt) → ∀ (x19 : Int32), x19.toInt = ((g).toInt + (2 * (k).toInt)) → ∀ (x21 : Int32), x21.toInt = (((g).toInt + (2 * (k).toInt)) + 1) → ∀ (y23 : Int32), y23.toInt = (gn (ga mem 1) (((g).toInt + (2 * (k).toInt)) + 1)) → ∀ (v25 : Int32), 0 ≤ v25.toInt ∧ v25.toInt ≤ 1 → ¬ (v25).toInt = 0 → ∀ (x28 : Int32), x28.toInt = ((k).toInt + 1) → ∀ lo, zlg lo 0 = some (.ref 0) → zlg lo 1 = some (.int n) → zlg lo 2 = some (.int u) → zlg lo 3 = some (.int g) → zlg lo 4 = some (.int x28) → aTm aT0 mem → yR zpg tX11_holdsImage (d + 2) (116, lo, [], mem) P) (h4 : (k).toInt < (gi mem 2 13).toInt → ∀ (x11 : Int32), x11.toInt = (2 * (k).toInt) → ∀ (x13 : Int32), x13.toInt = ((g).toInt + (2 * (k).toInt)) → ∀ (y15 : Int32), y15.toInt = (gn (ga mem 1) ((g).toInt + (2 * (k).toInt))) → ∀ (x17 : Int32), x17.toInt = (2 * (k).toInt) → ∀ (x19 : Int32), x19.toInt = ((g).toInt + (2 * (k).toInt)) → ∀ (x21 : Int32), x21.toInt = (((g).toInt + (2 * (k).toInt)) + 1) → ∀ (y23 : Int32), y23.toInt = (gn (ga mem 1) (((g).toInt + (2 * (k).toInt)) + 1)) → ∀ (v25 : Int32), 0 ≤ v25.toInt ∧ v25.toInt ≤ 1 → (v25).toInt = 0 → aTm aT0 mem → P (some (.int 0)) mem) : yR zpg tX11_holdsImage (d + 2) (116, lo, [], mem) P := by
  have r7 := pA_r7 hm
  have r13 := pA_r13 hm
  refine wR_li rfl l_4 ?_
  refine wR_la rfl l_0 ?_
  refine wR_gq rfl cO_e hm hp ?_
  refine wR_gi rfl pA_e pA_13 hm rfl ?_
  refine wR_ic_ge rfl (a := (k).toInt) (c := (gi mem 2 13).toInt) rfl rfl (fun q1 => ?_) (fun q1 => ?_)
  ·
    refine wR_la rfl l_0 ?_
    refine wR_gr rfl cO_e cO_0 hm ?_
    refine wR_li rfl l_2 ?_
    refine yR_m 1 (fun _ _ _ _ => rfl) ?_
    refine wN_sub (a := (u).toInt) (b := 1) rfl rfl rfl (by omega) (fun x2 e3 => ?_)
    refine wN_al (a := ((u).toInt - 1)) rfl aR_1 hm rfl e3 (by omega) (fun y4 e5 => ?_)
    refine wR_la rfl l_0 ?_
    refine wR_gr rfl cO_e cO_0 hm ?_
    refine wR_li rfl l_2 ?_
    refine yR_m 1 (fun _ _ _ _ => rfl) ?_
    refine wN_sub (a := (u).toInt) (b := 1) rfl rfl rfl (by omega) (fun x6 e7 => ?_)
    refine yR_cs rfl rfl rfl (h_checkOf hm (by omega)) ?_
    rintro _ _ ⟨v8, rfl, rfl, k9⟩
    show yR zpg tX11_holdsImage (d + 2) (188, lo, [.int v8, .int y4], mem) _
    refine wR_ic_ne rfl (a := (gn (ga mem 1) ((u).toInt - 1))) (c := (v8).toInt) e5 rfl (fun q10 => ?_) (fun q10 => ?_)
    ·
      refine yR_m 1 (fun _ _ _ _ => rfl) ?_
      exact yR_rz rfl ⟨by decide, by decide⟩ (h1 q1 x2 e3 y4 e5 x6 e7 v8 k9 q10 hm)
    ·
      refine yR_m 2 (fun _ _ _ _ => rfl) ?_
      exact yR_rz rfl ⟨by decide, by decide⟩ (h2 q1 x2 e3 y4 e5 x6 e7 v8 k9 q10 hm)
  ·
    refine wR_la rfl l_0 ?_
    refine wR_gq rfl cO_e hm hp ?_
    refine wR_la rfl l_0 ?_
    refine wR_gr rfl cO_e cO_0 hm ?_
    refine wR_li rfl l_3 ?_
    refine yR_m 1 (fun _ _ _ _ => rfl) ?_
    refine wR_li rfl l_4 ?_
    refine wN_mul (a := 2) (b := (k).toInt) rfl rfl rfl (by omega) (fun x11 e12 => ?_)
    refine wN_add (a := (g).toInt) (b := (2 * (k).toInt)) rfl rfl e12 (by omega) (fun x13 e14 => ?_)
    refine wN_al (a := ((g).toInt + (2 * (k).toInt))) rfl aR_1 hm rfl e14 (by omega) (fun y15 e16 => ?_)
    refine wR_la rfl l_0 ?_
    refine wR_gr rfl cO_e cO_0 hm ?_
    refine wR_li rfl l_3 ?_
    refine yR_m 1 (fun _ _ _ _ => rfl) ?_
    refine wR_li rfl l_4 ?_
    refine wN_mul (a := 2) (b := (k).toInt) rfl rfl rfl (by omega) (fun x17 e18 => ?_)
    refine wN_add (a := (g).toInt) (b := (2 * (k).toInt)) rfl rfl e18 (by omega) (fun x19 e20 => ?_)
    refine yR_m 1 (fun _ _ _ _ => rfl) ?_
    refine wN_add (a := ((g).toInt + (2 * (k).toInt))) (b := 1) rfl e20 rfl (by omega) (fun x21 e22 => ?_)
    refine wN_al (a := (((g).toInt + (2 * (k).toInt)) + 1)) rfl aR_1 hm rfl e22 (by omega) (fun y23 e24 => ?_)
    refine wR_cv rfl rfl pA_e hm rfl (h_hasFree_pA hm (by omega)) ?_
    rintro _ _ ⟨v25, rfl, rfl, k26⟩
    show yR zpg tX11_holdsImage (d + 2) (159, lo, [.int v25], mem) _
    refine wR_if_ne rfl (a := (v25).toInt) rfl (fun q27 => ?_) (fun q27 => ?_)
    ·
      refine wN_in (a := (k).toInt) (b := 1) rfl rfl l_4 rfl rfl (by omega) (fun x28 e29 => fun lo30 e31 f32 => ?_)
      have lo30_0 := f32 0 _ (by decide) (Or.inl rfl) l_0
      have lo30_1 := f32 1 _ (by decide) (Or.inl rfl) l_1
      have lo30_2 := f32 2 _ (by decide) (Or.inl rfl) l_2
      have lo30_3 := f32 3 _ (by decide) (Or.inl rfl) l_3
      exact yR_m 1 (fun _ _ _ _ => rfl) (h3 q1 x11 e12 x13 e14 y15 e16 x17 e18 x19 e20 x21 e22 y23 e24 v25 k26 q27 x28 e29 lo30 lo30_0 lo30_1 lo30_2 lo30_3 e31 hm)
    ·
      refine yR_m 1 (fun _ _ _ _ => rfl) ?_
      exact yR_rz rfl ⟨by decide, by decide⟩ (h4 q1 x11 e12 x13 e14 y15 e16 x17 e18 x19 e20 x21 e22 y23 e24 v25 k26 q27 hm)

theorem hi_pA_116 {n u g : Int32} (hm : aTm aT0 mem) (hp : zfl mem 0 4 = some (.ref 2)) (hT : hiT 2 mem) (hu : 1 ≤ u.toInt ∧ u.toInt ≤ 33) (hg : 0 ≤ g.toInt ∧ g.toInt ≤ 20) : ∀ (f : Nat) (k : Int32) (lo : List (Nat × Value)), k.toInt + (f : Int) = 6 → 0 ≤ k.toInt → zlg lo 0 = some (.ref 0) → zlg lo 1 = some (.int n) → zlg lo 2 = some (.int u) → zlg lo 3 = some (.int g) → zlg lo 4 = some (.int k) → yR zpg tX11_holdsImage (d + 2) (116, lo, [], mem) (hiP 2 mem) := by
  have r13 := pA_r13 hm
  intro f
  induction f with
  | zero =>
    intro k lo hk h0 a0 a1 a2 a3 a4
    exact w_hipA_116 hm a0 a1 a2 a3 a4 hp ⟨h0, by omega⟩ hu hg
        (fun q1 x2 e3 y4 e5 x6 e7 v8 k9 q10 hm => ⟨_, rfl, rfl, Or.inl rfl⟩)
        (fun q1 x2 e3 y4 e5 x6 e7 v8 k9 q10 hm => ⟨_, rfl, rfl, Or.inr ⟨rfl, hT⟩⟩)
        (fun q1 x11 e12 x13 e14 y15 e16 x17 e18 x19 e20 x21 e22 y23 e24 v25 k26 q27 x28 e29 lo a0 a1 a2 a3 a4 hm => by exfalso; omega)
        (fun q1 x11 e12 x13 e14 y15 e16 x17 e18 x19 e20 x21 e22 y23 e24 v25 k26 q27 hm => ⟨_, rfl, rfl, Or.inl rfl⟩)
  | succ f ih =>
    intro k lo hk h0 a0 a1 a2 a3 a4
    exact w_hipA_116 hm a0 a1 a2 a3 a4 hp ⟨h0, by omega⟩ hu hg
        (fun q1 x2 e3 y4 e5 x6 e7 v8 k9 q10 hm => ⟨_, rfl, rfl, Or.inl rfl⟩)
        (fun q1 x2 e3 y4 e5 x6 e7 v8 k9 q10 hm => ⟨_, rfl, rfl, Or.inr ⟨rfl, hT⟩⟩)
        (fun q1 x11 e12 x13 e14 y15 e16 x17 e18 x19 e20 x21 e22 y23 e24 v25 k26 q27 x28 e29 lo a0 a1 a2 a3 a4 hm => ih _ lo (by omega) (by omega) a0 a1 a2 a3 a4)
        (fun q1 x11 e12 x13 e14 y15 e16 x17 e18 x19 e20 x21 e22 y23 e24 v25 k26 q27 hm => ⟨_, rfl, rfl, Or.inl rfl⟩)
set_option maxRecDepth 100000 in
theorem w_hipA_53 {d : Nat} {mem : zM} {P : Option Value → zM → Prop} {n u k : Int32} {lo : List (Nat × Value)} (hm : aTm aT0 mem) (l_0 : zlg lo 0 = some (.ref 0)) (l_1 : zlg lo 1 = some (.int n)) (l_2 : zlg lo 2 = some (.int u)) (l_3 : zlg lo 3 = some (.int k)) (hp : zfl mem 0 4 = some (.ref 2)) (hk : 0 ≤ k.toInt ∧ k.toInt ≤ 9) (hu : 1 ≤ u.toInt ∧ u.toInt ≤ 33) (h1 : (gi mem 2 7).toInt ≤ (k).toInt → ∀ (x2 : Int32), x2.toInt = (2 * (gi mem 2 7).toInt) → ∀ (x4 : Int32), x4.toInt = (2 + (2 * (gi mem 2 7).toInt)) → ∀ lo, zlg lo 0 = some (.ref 0) → zlg lo 1 = some (.int n) → zlg lo 2 = some (.int u) → zlg lo 3 = some (.int x4) → zlg lo 4 = some (.int 0) → aTm aT0 mem → yR zpg tX11_holdsImage (d + 2) (116, lo, [], mem) P) (h2 : (k).toInt < (gi mem 2 7).toInt → ∀ (x12 : Int32), x12.toInt = (2 * (k).toInt) → ∀ (x14 : Int32), x14.toInt = (2 + (2 * (k).toInt)) → ∀ (y16 : Int32), y16.toInt = (gn (ga mem 1) (2 + (2 * (k).toInt))) → 1 < (gn (ga mem 1) (2 + (2 * (k).toInt))) → aTm aT0 mem → P (some (.int 0)) mem) (h3 : (k).toInt < (gi mem 2 7).toInt → ∀ (x12 : Int32), x12.toInt = (2 * (k).toInt) → ∀ (x14 : Int32), x14.toInt = (2 + (2 * (k).toInt)) → ∀ (y16 : Int32), y16.toInt = (gn (ga mem 1) (2 + (2 * (k).toInt))) → (gn (ga mem 1) (2 + (2 * (k).toInt))) ≤ 1 → ∀ (x19 : Int32), x19.toInt = (2 * (k).toInt) → ∀ (x21 : Int32), x21.toInt = (3 + (2 * (k).toInt)) → ∀ (y23 : Int32), y23.toInt = (gn (ga mem 1) (3 + (2 * (k).toInt))) → (gn (ga mem 1) (3 + (2 * (k).toInt))) ≤ 99 → ∀ (x26 : Int32), x26.toInt = ((k).toInt + 1) → ∀ lo, zlg lo 0 = some (.ref 0) → zlg lo 1 = some (.int n) → zlg lo 2 = some (.int u) → zlg lo 3 = some (.int x26) → aTm aT0 mem → yR zpg tX11_holdsImage (d + 2) (53, lo, [], mem) P) (h4 : (k).toInt < (gi mem 2 7).toInt → ∀ (x12 : Int32), x12.toInt = (2 * (k).toInt) → ∀ (x14 : Int32), x14.toInt = (2 + (2 * (k).toInt)) → ∀ (y16 : Int32), y16.toInt = (gn (ga mem 1) (2 + (2 * (k).toInt))) → (gn (ga mem 1) (2 + (2 * (k).toInt))) ≤ 1 → ∀ (x19 : Int32), x19.toInt = (2 * (k).toInt) → ∀ (x21 : Int32), x21.toInt = (3 + (2 * (k).toInt)) → ∀ (y23 : Int32), y23.toInt = (gn (ga mem 1) (3 + (2 * (k).toInt))) → 99 < (gn (ga mem 1) (3 + (2 * (k).toInt))) → aTm aT0 mem → P (some (.int 0)) mem) : yR zpg tX11_holdsImage (d + 2) (53, lo, [], mem) P := by
  have r7 := pA_r7 hm
  have r13 := pA_r13 hm
  refine wR_li rfl l_3 ?_
  refine wR_la rfl l_0 ?_
  refine wR_gq rfl cO_e hm hp ?_
  refine wR_gi rfl pA_e pA_7 hm rfl ?_
  refine wR_ic_ge rfl (a := (k).toInt) (c := (gi mem 2 7).toInt) rfl rfl (fun q1 => ?_) (fun q1 => ?_)
  ·
    refine yR_m 2 (fun _ _ _ _ => rfl) ?_
    refine wR_la rfl l_0 ?_
    refine wR_gq rfl cO_e hm hp ?_
    refine wR_gi rfl pA_e pA_7 hm rfl ?_
    refine wN_mul (a := 2) (b := (gi mem 2 7).toInt) rfl rfl rfl (by omega) (fun x2 e3 => ?_)
    refine wN_add (a := 2) (b := (2 * (gi mem 2 7).toInt)) rfl rfl e3 (by omega) (fun x4 e5 => ?_)
    refine wR_si rfl rfl (fun lo6 e7 f8 => ?_)
    have lo6_0 := f8 0 _ (by decide) (Or.inl rfl) l_0
    have lo6_1 := f8 1 _ (by decide) (Or.inl rfl) l_1
    have lo6_2 := f8 2 _ (by decide) (Or.inl rfl) l_2
    refine yR_m 1 (fun _ _ _ _ => rfl) ?_
    refine wR_si rfl rfl (fun lo9 e10 f11 => ?_)
    have lo9_3 := f11 3 _ (by decide) (Or.inl rfl) e7
    have lo9_0 := f11 0 _ (by decide) (Or.inl rfl) lo6_0
    have lo9_1 := f11 1 _ (by decide) (Or.inl rfl) lo6_1
    have lo9_2 := f11 2 _ (by decide) (Or.inl rfl) lo6_2
    exact h1 q1 x2 e3 x4 e5 lo9 lo9_0 lo9_1 lo9_2 lo9_3 e10 hm
  ·
    refine wR_la rfl l_0 ?_
    refine wR_gr rfl cO_e cO_0 hm ?_
    refine yR_m 2 (fun _ _ _ _ => rfl) ?_
    refine wR_li rfl l_3 ?_
    refine wN_mul (a := 2) (b := (k).toInt) rfl rfl rfl (by omega) (fun x12 e13 => ?_)
    refine wN_add (a := 2) (b := (2 * (k).toInt)) rfl rfl e13 (by omega) (fun x14 e15 => ?_)
    refine wN_al (a := (2 + (2 * (k).toInt))) rfl aR_1 hm rfl e15 (by omega) (fun y16 e17 => ?_)
    refine yR_m 1 (fun _ _ _ _ => rfl) ?_
    refine wR_ic_gt rfl (a := (gn (ga mem 1) (2 + (2 * (k).toInt)))) (c := 1) e17 rfl (fun q18 => ?_) (fun q18 => ?_)
    ·
      refine yR_m 1 (fun _ _ _ _ => rfl) ?_
      exact yR_rz rfl ⟨by decide, by decide⟩ (h2 q1 x12 e13 x14 e15 y16 e17 q18 hm)
    ·
      refine wR_la rfl l_0 ?_
      refine wR_gr rfl cO_e cO_0 hm ?_
      refine yR_m 2 (fun _ _ _ _ => rfl) ?_
      refine wR_li rfl l_3 ?_
      refine wN_mul (a := 2) (b := (k).toInt) rfl rfl rfl (by omega) (fun x19 e20 => ?_)
      refine wN_add (a := 3) (b := (2 * (k).toInt)) rfl rfl e20 (by omega) (fun x21 e22 => ?_)
      refine wN_al (a := (3 + (2 * (k).toInt))) rfl aR_1 hm rfl e22 (by omega) (fun y23 e24 => ?_)
      refine yR_m 1 (fun _ _ _ _ => rfl) ?_
      refine wR_ic_le rfl (a := (gn (ga mem 1) (3 + (2 * (k).toInt)))) (c := 99) e24 rfl (fun q25 => ?_) (fun q25 => ?_)
      ·
        refine wN_in (a := (k).toInt) (b := 1) rfl rfl l_3 rfl rfl (by omega) (fun x26 e27 => fun lo28 e29 f30 => ?_)
        have lo28_0 := f30 0 _ (by decide) (Or.inl rfl) l_0
        have lo28_1 := f30 1 _ (by decide) (Or.inl rfl) l_1
        have lo28_2 := f30 2 _ (by decide) (Or.inl rfl) l_2
        exact yR_m 1 (fun _ _ _ _ => rfl) (h3 q1 x12 e13 x14 e15 y16 e17 q18 x19 e20 x21 e22 y23 e24 q25 x26 e27 lo28 lo28_0 lo28_1 lo28_2 e29 hm)
      ·
        refine yR_m 1 (fun _ _ _ _ => rfl) ?_
        exact yR_rz rfl ⟨by decide, by decide⟩ (h4 q1 x12 e13 x14 e15 y16 e17 q18 x19 e20 x21 e22 y23 e24 q25 hm)

theorem hi_pA_53 {n u : Int32} (hm : aTm aT0 mem) (hp : zfl mem 0 4 = some (.ref 2)) (hu : 1 ≤ u.toInt ∧ u.toInt ≤ 33) : ∀ (f : Nat) (k : Int32) (lo : List (Nat × Value)), (gi mem 2 7).toInt ≤ k.toInt + (f : Int) → 0 ≤ k.toInt → k.toInt ≤ 9 → (∀ j : Int, 0 ≤ j → j < k.toInt → gn (ga mem 1) (2 + 2 * j) ≤ 1) → zlg lo 0 = some (.ref 0) → zlg lo 1 = some (.int n) → zlg lo 2 = some (.int u) → zlg lo 3 = some (.int k) → yR zpg tX11_holdsImage (d + 2) (53, lo, [], mem) (hiP 2 mem) := by
  have r7 := pA_r7 hm
  intro f
  induction f with
  | zero =>
    intro k lo hk h0 h9 hT a0 a1 a2 a3
    exact w_hipA_53 hm a0 a1 a2 a3 hp ⟨h0, h9⟩ hu
        (fun q1 x2 e3 x4 e5 lo a0 a1 a2 a3 a4 hm => hi_pA_116 hm hp (fun j j0 j1 => hT j j0 (by omega)) hu (by omega) 6 _ lo (by decide) (by decide) a0 a1 a2 a3 a4)
        (fun q1 x12 e13 x14 e15 y16 e17 q18 hm => ⟨_, rfl, rfl, Or.inl rfl⟩)
        (fun q1 x12 e13 x14 e15 y16 e17 q18 x19 e20 x21 e22 y23 e24 q25 x26 e27 lo a0 a1 a2 a3 hm => by exfalso; omega)
        (fun q1 x12 e13 x14 e15 y16 e17 q18 x19 e20 x21 e22 y23 e24 q25 hm => ⟨_, rfl, rfl, Or.inl rfl⟩)
  | succ f ih =>
    intro k lo hk h0 h9 hT a0 a1 a2 a3
    exact w_hipA_53 hm a0 a1 a2 a3 hp ⟨h0, h9⟩ hu
        (fun q1 x2 e3 x4 e5 lo a0 a1 a2 a3 a4 hm => hi_pA_116 hm hp (fun j j0 j1 => hT j j0 (by omega)) hu (by omega) 6 _ lo (by decide) (by decide) a0 a1 a2 a3 a4)
        (fun q1 x12 e13 x14 e15 y16 e17 q18 hm => ⟨_, rfl, rfl, Or.inl rfl⟩)
        (fun q1 x12 e13 x14 e15 y16 e17 q18 x19 e20 x21 e22 y23 e24 q25 x26 e27 lo a0 a1 a2 a3 hm => ih _ lo (by omega) (by omega) (by omega) (fun j j0 j1 => by
          by_cases q : j = k.toInt
          · subst q; omega
          · exact hT j j0 (by omega)) a0 a1 a2 a3)
        (fun q1 x12 e13 x14 e15 y16 e17 q18 x19 e20 x21 e22 y23 e24 q25 hm => ⟨_, rfl, rfl, Or.inl rfl⟩)
set_option maxRecDepth 100000 in
theorem w_hipA_0 {d : Nat} {mem : zM} {P : Option Value → zM → Prop} {n : Int32} {lo : List (Nat × Value)} (hm : aTm aT0 mem) (l_0 : zlg lo 0 = some (.ref 0)) (l_1 : zlg lo 1 = some (.int n)) (hp : zfl mem 0 4 = some (.ref 2)) (h1 : ∀ (x1 : Int32), x1.toInt = (2 * (gi mem 2 7).toInt) → ∀ (x3 : Int32), x3.toInt = (2 + (2 * (gi mem 2 7).toInt)) → ∀ (x5 : Int32), x5.toInt = (2 * (gi mem 2 13).toInt) → ∀ (x7 : Int32), x7.toInt = ((2 + (2 * (gi mem 2 7).toInt)) + (2 * (gi mem 2 13).toInt)) → ∀ (x9 : Int32), x9.toInt = (((2 + (2 * (gi mem 2 7).toInt)) + (2 * (gi mem 2 13).toInt)) + 1) → (gi mem 2 1).toInt = 0 → aTm aT0 mem → P (some (.int 0)) mem) (h2 : ∀ (x1 : Int32), x1.toInt = (2 * (gi mem 2 7).toInt) → ∀ (x3 : Int32), x3.toInt = (2 + (2 * (gi mem 2 7).toInt)) → ∀ (x5 : Int32), x5.toInt = (2 * (gi mem 2 13).toInt) → ∀ (x7 : Int32), x7.toInt = ((2 + (2 * (gi mem 2 7).toInt)) + (2 * (gi mem 2 13).toInt)) → ∀ (x9 : Int32), x9.toInt = (((2 + (2 * (gi mem 2 7).toInt)) + (2 * (gi mem 2 13).toInt)) + 1) → ¬ (gi mem 2 1).toInt = 0 → ¬ (n).toInt = (((2 + (2 * (gi mem 2 7).toInt)) + (2 * (gi mem 2 13).toInt)) + 1) → aTm aT0 mem → P (some (.int 0)) mem) (h3 : ∀ (x1 : Int32), x1.toInt = (2 * (gi mem 2 7).toInt) → ∀ (x3 : Int32), x3.toInt = (2 + (2 * (gi mem 2 7).toInt)) → ∀ (x5 : Int32), x5.toInt = (2 * (gi mem 2 13).toInt) → ∀ (x7 : Int32), x7.toInt = ((2 + (2 * (gi mem 2 7).toInt)) + (2 * (gi mem 2 13).toInt)) → ∀ (x9 : Int32), x9.toInt = (((2 + (2 * (gi mem 2 7).toInt)) + (2 * (gi mem 2 13).toInt)) + 1) → ¬ (gi mem 2 1).toInt = 0 → (n).toInt = (((2 + (2 * (gi mem 2 7).toInt)) + (2 * (gi mem 2 13).toInt)) + 1) → ∀ (y16 : Int32), y16.toInt = (gn (ga mem 1) 0) → ∀ (y18 : Int32), y18.toInt = (gn (ga mem 1) 1) → ((y16 * 256) + y18).toInt ≤ 999 → ∀ lo, zlg lo 0 = some (.ref 0) → zlg lo 1 = some (.int n) → zlg lo 2 = some (.int x9) → zlg lo 3 = some (.int 0) → aTm aT0 mem → yR zpg tX11_holdsImage (d + 2) (53, lo, [], mem) P) (h4 : ∀ (x1 : Int32), x1.toInt = (2 * (gi mem 2 7).toInt) → ∀ (x3 : Int32), x3.toInt = (2 + (2 * (gi mem 2 7).toInt)) → ∀ (x5 : Int32), x5.toInt = (2 * (gi mem 2 13).toInt) → ∀ (x7 : Int32), x7.toInt = ((2 + (2 * (gi mem 2 7).toInt)) + (2 * (gi mem 2 13).toInt)) → ∀ (x9 : Int32), x9.toInt = (((2 + (2 * (gi mem 2 7).toInt)) + (2 * (gi mem 2 13).toInt)) + 1) → ¬ (gi mem 2 1).toInt = 0 → (n).toInt = (((2 + (2 * (gi mem 2 7).toInt)) + (2 * (gi mem 2 13).toInt)) + 1) → ∀ (y16 : Int32), y16.toInt = (gn (ga mem 1) 0) → ∀ (y18 : Int32), y18.toInt = (gn (ga mem 1) 1) → 999 < ((y16 * 256) + y18).toInt → aTm aT0 mem → P (some (.int 0)) mem) : yR zpg tX11_holdsImage (d + 2) (0, lo, [], mem) P := by
  have r7 := pA_r7 hm
  have r13 := pA_r13 hm
  refine yR_m 2 (fun _ _ _ _ => rfl) ?_
  refine wR_la rfl l_0 ?_
  refine wR_gq rfl cO_e hm hp ?_
  refine wR_gi rfl pA_e pA_7 hm rfl ?_
  refine wN_mul (a := 2) (b := (gi mem 2 7).toInt) rfl rfl rfl (by omega) (fun x1 e2 => ?_)
  refine wN_add (a := 2) (b := (2 * (gi mem 2 7).toInt)) rfl rfl e2 (by omega) (fun x3 e4 => ?_)
  refine yR_m 1 (fun _ _ _ _ => rfl) ?_
  refine wR_la rfl l_0 ?_
  refine wR_gq rfl cO_e hm hp ?_
  refine wR_gi rfl pA_e pA_13 hm rfl ?_
  refine wN_mul (a := 2) (b := (gi mem 2 13).toInt) rfl rfl rfl (by omega) (fun x5 e6 => ?_)
  refine wN_add (a := (2 + (2 * (gi mem 2 7).toInt))) (b := (2 * (gi mem 2 13).toInt)) rfl e4 e6 (by omega) (fun x7 e8 => ?_)
  refine yR_m 1 (fun _ _ _ _ => rfl) ?_
  refine wN_add (a := ((2 + (2 * (gi mem 2 7).toInt)) + (2 * (gi mem 2 13).toInt))) (b := 1) rfl e8 rfl (by omega) (fun x9 e10 => ?_)
  refine wR_si rfl rfl (fun lo11 e12 f13 => ?_)
  have lo11_0 := f13 0 _ (by decide) (Or.inl rfl) l_0
  have lo11_1 := f13 1 _ (by decide) (Or.inl rfl) l_1
  refine wR_la rfl lo11_0 ?_
  refine wR_gq rfl cO_e hm hp ?_
  refine wR_gi rfl pA_e pA_1 hm rfl ?_
  refine wR_if_eq rfl (a := (gi mem 2 1).toInt) rfl (fun q14 => ?_) (fun q14 => ?_)
  ·
    refine yR_m 1 (fun _ _ _ _ => rfl) ?_
    exact yR_rz rfl ⟨by decide, by decide⟩ (h1 x1 e2 x3 e4 x5 e6 x7 e8 x9 e10 q14 hm)
  ·
    refine wR_li rfl lo11_1 ?_
    refine wR_li rfl e12 ?_
    refine wR_ic_ne rfl (a := (n).toInt) (c := (((2 + (2 * (gi mem 2 7).toInt)) + (2 * (gi mem 2 13).toInt)) + 1)) rfl e10 (fun q15 => ?_) (fun q15 => ?_)
    ·
      refine yR_m 1 (fun _ _ _ _ => rfl) ?_
      exact yR_rz rfl ⟨by decide, by decide⟩ (h2 x1 e2 x3 e4 x5 e6 x7 e8 x9 e10 q14 q15 hm)
    ·
      refine wR_la rfl lo11_0 ?_
      refine wR_iv rfl rfl cO_e hm rfl rfl rfl rfl ?_
      show yR zpg tX11_nightOnTape (d + 1) (0, [(0, .ref 0)], [], mem) _
      refine yR_m 1 (fun _ _ _ _ => rfl) ?_
      refine wR_gr rfl cO_e cO_0 hm ?_
      refine yR_m 1 (fun _ _ _ _ => rfl) ?_
      refine wN_al (a := 0) rfl aR_1 hm rfl rfl (by decide) (fun y16 e17 => ?_)
      refine yR_m 3 (fun _ _ _ _ => rfl) ?_
      refine wR_gr rfl cO_e cO_0 hm ?_
      refine yR_m 1 (fun _ _ _ _ => rfl) ?_
      refine wN_al (a := 1) rfl aR_1 hm rfl rfl (by decide) (fun y18 e19 => ?_)
      refine yR_m 1 (fun _ _ _ _ => rfl) ?_
      refine yR_ri rfl ?_
      show yR zpg tX11_holdsImage (d + 2) (43, lo11, [.int ((y16 * 256) + y18)], mem) _
      refine yR_m 1 (fun _ _ _ _ => rfl) ?_
      refine wR_ic_le rfl (a := ((y16 * 256) + y18).toInt) (c := 999) rfl rfl (fun q20 => ?_) (fun q20 => ?_)
      ·
        refine yR_m 1 (fun _ _ _ _ => rfl) ?_
        refine wR_si rfl rfl (fun lo21 e22 f23 => ?_)
        have lo21_2 := f23 2 _ (by decide) (Or.inl rfl) e12
        have lo21_0 := f23 0 _ (by decide) (Or.inl rfl) lo11_0
        have lo21_1 := f23 1 _ (by decide) (Or.inl rfl) lo11_1
        exact h3 x1 e2 x3 e4 x5 e6 x7 e8 x9 e10 q14 q15 y16 e17 y18 e19 q20 lo21 lo21_0 lo21_1 lo21_2 e22 hm
      ·
        refine yR_m 1 (fun _ _ _ _ => rfl) ?_
        exact yR_rz rfl ⟨by decide, by decide⟩ (h4 x1 e2 x3 e4 x5 e6 x7 e8 x9 e10 q14 q15 y16 e17 y18 e19 q20 hm)

theorem h_holds_pA {n : Int32} (hm : aTm aT0 mem) (hp : zfl mem 0 4 = some (.ref 2)) (hd : 3 ≤ d) : yC zpg d 157 [.ref 0, .int n] mem (hiP 2 mem) := by
  obtain ⟨d, rfl⟩ : ∃ q, d = q + 3 := ⟨d - 3, by omega⟩
  have r7 := pA_r7 hm
  have r13 := pA_r13 hm
  refine yC_of (t := tX11_holdsImage) rfl rfl ?_
  exact w_hipA_0 hm rfl rfl hp
        (fun x1 e2 x3 e4 x5 e6 x7 e8 x9 e10 q14 hm => ⟨_, rfl, rfl, Or.inl rfl⟩)
        (fun x1 e2 x3 e4 x5 e6 x7 e8 x9 e10 q14 q15 hm => ⟨_, rfl, rfl, Or.inl rfl⟩)
        (fun x1 e2 x3 e4 x5 e6 x7 e8 x9 e10 q14 q15 y16 e17 y18 e19 q20 lo a0 a1 a2 a3 hm => hi_pA_53 hm hp (by omega) 9 _ lo (by show (gi _ _ _).toInt ≤ 0 + 9; omega) (by decide) (by decide) (fun j j0 j1 => by exfalso; have e : Int32.toInt 0 = 0 := rfl; omega) a0 a1 a2 a3)
        (fun x1 e2 x3 e4 x5 e6 x7 e8 x9 e10 q14 q15 y16 e17 y18 e19 q20 hm => ⟨_, rfl, rfl, Or.inl rfl⟩)
set_option maxRecDepth 100000 in
theorem w_onpA_114 {d : Nat} {mem : zM} {P : Option Value → zM → Prop} {g k : Int32} {lo : List (Nat × Value)} (hm : aTm aT0 mem) (l_0 : zlg lo 0 = some (.ref 0)) (l_2 : zlg lo 2 = some (.int g)) (l_3 : zlg lo 3 = some (.int k)) (hp : zfl mem 0 4 = some (.ref 2)) (hk : 0 ≤ k.toInt ∧ k.toInt ≤ 6) (hg : 0 ≤ g.toInt ∧ g.toInt ≤ 20) (h1 : (gi mem 2 13).toInt ≤ (k).toInt → aTm aT0 (si (si mem 34 3 0) 38 3 0) → P (some (.int 1)) (si (si mem 34 3 0) 38 3 0)) (h2 : (k).toInt < (gi mem 2 13).toInt → ∀ (x2 : Int32), x2.toInt = (2 * (k).toInt) → ∀ (x4 : Int32), x4.toInt = ((g).toInt + (2 * (k).toInt)) → ∀ (y6 : Int32), y6.toInt = (gn (ga mem 1) ((g).toInt + (2 * (k).toInt))) → ∀ (x8 : Int32), x8.toInt = (2 * (k).toInt) → ∀ (x10 : Int32), x10.toInt = ((g).toInt + (2 * (k).toInt)) → ∀ (x12 : Int32), x12.toInt = (((g).toInt + (2 * (k).toInt)) + 1) → ∀ (y14 : Int32), y14.toInt = (gn (ga mem 1) (((g).toInt + (2 * (k).toInt)) + 1)) → ∀ (x16 : Int32), x16.toInt = ((k).toInt + 1) → ∀ lo, zlg lo 0 = some (.ref 0) → zlg lo 2 = some (.int g) → zlg lo 3 = some (.int x16) → aTm aT0 (sx mem 33 k ((y14 * 8) + y6)) → yR zpg tX11_on (d + 4) (114, lo, [], (sx mem 33 k ((y14 * 8) + y6))) P) : yR zpg tX11_on (d + 4) (114, lo, [], mem) P := by
  have r7 := pA_r7 hm
  have r13 := pA_r13 hm
  refine wR_li rfl l_3 ?_
  refine wR_la rfl l_0 ?_
  refine wR_gq rfl cO_e hm hp ?_
  refine wR_gi rfl pA_e pA_13 hm rfl ?_
  refine wR_ic_ge rfl (a := (k).toInt) (c := (gi mem 2 13).toInt) rfl rfl (fun q1 => ?_) (fun q1 => ?_)
  ·
    refine wR_la rfl l_0 ?_
    refine wR_iv rfl rfl cO_e hm rfl rfl rfl rfl ?_
    show yR zpg tX11_forgetActs (d + 3) (0, [(0, .ref 0)], [], mem) _
    refine yR_m 1 (fun _ _ _ _ => rfl) ?_
    refine wR_gr rfl cO_e cO_8 hm ?_
    refine yR_m 1 (fun _ _ _ _ => rfl) ?_
    refine wR_pi rfl wO_e wO_3 hm rfl ?_
    have hm_1 : aTm aT0 (si mem 34 3 0) := tm_si wO_e wO_3 hm (by decide)
    refine yR_m 1 (fun _ _ _ _ => rfl) ?_
    refine wR_gr rfl cO_e cO_9 hm_1 ?_
    refine yR_m 1 (fun _ _ _ _ => rfl) ?_
    refine wR_pi rfl uO_e uO_3 hm_1 rfl ?_
    have hm_2 : aTm aT0 (si (si mem 34 3 0) 38 3 0) := tm_si uO_e uO_3 hm_1 (by decide)
    refine yR_rv rfl ?_
    show yR zpg tX11_on (d + 4) (169, lo, [], (si (si mem 34 3 0) 38 3 0)) _
    refine yR_m 1 (fun _ _ _ _ => rfl) ?_
    exact yR_rz rfl ⟨by decide, by decide⟩ (h1 q1 hm_2)
  ·
    refine wR_la rfl l_0 ?_
    refine wR_gr rfl cO_e cO_7 hm ?_
    refine wR_gr rfl nO_e nO_3 hm ?_
    refine wR_li rfl l_3 ?_
    refine wR_la rfl l_0 ?_
    refine wR_gr rfl cO_e cO_0 hm ?_
    refine wR_li rfl l_2 ?_
    refine yR_m 1 (fun _ _ _ _ => rfl) ?_
    refine wR_li rfl l_3 ?_
    refine wN_mul (a := 2) (b := (k).toInt) rfl rfl rfl (by omega) (fun x2 e3 => ?_)
    refine wN_add (a := (g).toInt) (b := (2 * (k).toInt)) rfl rfl e3 (by omega) (fun x4 e5 => ?_)
    refine wN_al (a := ((g).toInt + (2 * (k).toInt))) rfl aR_1 hm rfl e5 (by omega) (fun y6 e7 => ?_)
    refine wR_la rfl l_0 ?_
    refine wR_gr rfl cO_e cO_0 hm ?_
    refine wR_li rfl l_2 ?_
    refine yR_m 1 (fun _ _ _ _ => rfl) ?_
    refine wR_li rfl l_3 ?_
    refine wN_mul (a := 2) (b := (k).toInt) rfl rfl rfl (by omega) (fun x8 e9 => ?_)
    refine wN_add (a := (g).toInt) (b := (2 * (k).toInt)) rfl rfl e9 (by omega) (fun x10 e11 => ?_)
    refine yR_m 1 (fun _ _ _ _ => rfl) ?_
    refine wN_add (a := ((g).toInt + (2 * (k).toInt))) (b := 1) rfl e11 rfl (by omega) (fun x12 e13 => ?_)
    refine wN_al (a := (((g).toInt + (2 * (k).toInt)) + 1)) rfl aR_1 hm rfl e13 (by omega) (fun y14 e15 => ?_)
    refine wR_is rfl rfl rfl rfl rfl rfl ?_
    show yR zpg tX11_placeOf (d + 3) (0, [(0, .int y6), (1, .int y14)], [], mem) _
    refine yR_m 5 (fun _ _ _ _ => rfl) ?_
    refine yR_ri rfl ?_
    show yR zpg tX11_on (d + 4) (158, lo, [.int ((y14 * 8) + y6), .int k, .ref 33], mem) _
    refine wN_as (a := (k).toInt) rfl aR_33 hm rfl (by omega) ?_
    have hm_3 : aTm aT0 (sx mem 33 k ((y14 * 8) + y6)) := tm_sa aR_33 hm (i32_b _)
    refine wN_in (a := (k).toInt) (b := 1) rfl rfl l_3 rfl rfl (by omega) (fun x16 e17 => fun lo18 e19 f20 => ?_)
    have lo18_0 := f20 0 _ (by decide) (Or.inl rfl) l_0
    have lo18_2 := f20 2 _ (by decide) (Or.inl rfl) l_2
    exact yR_m 1 (fun _ _ _ _ => rfl) (h2 q1 x2 e3 x4 e5 y6 e7 x8 e9 x10 e11 x12 e13 y14 e15 x16 e17 lo18 lo18_0 lo18_2 e19 hm_3)

theorem on_pA_114 {g : Int32} (hg : 0 ≤ g.toInt ∧ g.toInt ≤ 20) : ∀ (f : Nat) (mem : zM) (k : Int32) (lo : List (Nat × Value)), (gi mem 2 13).toInt ≤ k.toInt + (f : Int) → 0 ≤ k.toInt ∧ k.toInt ≤ 6 → aTm aT0 mem → zfl mem 0 4 = some (.ref 2) → frK mr mem → zlg lo 0 = some (.ref 0) → zlg lo 2 = some (.int g) → zlg lo 3 = some (.int k) → yR zpg tX11_on (d + 4) (114, lo, [], mem) (onP mr) := by
  intro f
  induction f with
  | zero =>
    intro mem k lo hk h0 hm hp hf a0 a2 a3
    have r13 := pA_r13 hm
    exact w_onpA_114 hm a0 a2 a3 hp h0 hg
        (fun q1 hm => ⟨⟨_, rfl⟩, hm, frK_sv (by decide) (frK_sv (by decide) (hf))⟩)
        (fun q1 x2 e3 x4 e5 y6 e7 x8 e9 x10 e11 x12 e13 y14 e15 x16 e17 lo a0 a2 a3 hm => by exfalso; omega)
  | succ f ih =>
    intro mem k lo hk h0 hm hp hf a0 a2 a3
    have r13 := pA_r13 hm
    exact w_onpA_114 hm a0 a2 a3 hp h0 hg
        (fun q1 hm => ⟨⟨_, rfl⟩, hm, frK_sv (by decide) (frK_sv (by decide) (hf))⟩)
        (fun q1 x2 e3 x4 e5 y6 e7 x8 e9 x10 e11 x12 e13 y14 e15 x16 e17 lo a0 a2 a3 hm => ih _ _ lo (by rw [(gi_sa)]; omega) (by omega) hm (zfl_sa.trans hp) (frK_sa (by decide) (hf)) a0 a2 a3)
set_option maxRecDepth 100000 in
theorem w_onpA_40 {d : Nat} {mem : zM} {P : Option Value → zM → Prop} {k : Int32} {lo : List (Nat × Value)} (hm : aTm aT0 mem) (l_0 : zlg lo 0 = some (.ref 0)) (l_2 : zlg lo 2 = some (.int k)) (hp : zfl mem 0 4 = some (.ref 2)) (hk : 0 ≤ k.toInt ∧ k.toInt ≤ 9) (h1 : (gi mem 2 7).toInt ≤ (k).toInt → ∀ (x2 : Int32), x2.toInt = (2 * (gi mem 2 7).toInt) → ∀ (x4 : Int32), x4.toInt = (2 + (2 * (gi mem 2 7).toInt)) → ∀ lo, zlg lo 0 = some (.ref 0) → zlg lo 2 = some (.int x4) → zlg lo 3 = some (.int 0) → aTm aT0 mem → yR zpg tX11_on (d + 4) (114, lo, [], mem) P) (s1 : (k).toInt < (gi mem 2 7).toInt → ∀ (x12 : Int32), x12.toInt = (2 * (k).toInt) → ∀ (x14 : Int32), x14.toInt = (2 + (2 * (k).toInt)) → ∀ (y16 : Int32), y16.toInt = (gn (ga mem 1) (2 + (2 * (k).toInt))) → (0 : Int) ≤ ((gi mem 31 1) ||| (y16 <<< (k &&& 31))).toInt ∧ ((gi mem 31 1) ||| (y16 <<< (k &&& 31))).toInt ≤ 511) (h2 : (k).toInt < (gi mem 2 7).toInt → ∀ (x12 : Int32), x12.toInt = (2 * (k).toInt) → ∀ (x14 : Int32), x14.toInt = (2 + (2 * (k).toInt)) → ∀ (y16 : Int32), y16.toInt = (gn (ga mem 1) (2 + (2 * (k).toInt))) → ∀ (x18 : Int32), x18.toInt = (2 * (k).toInt) → ∀ (x20 : Int32), x20.toInt = (3 + (2 * (k).toInt)) → ∀ (y22 : Int32), y22.toInt = (gn (ga mem 1) (3 + (2 * (k).toInt))) → ∀ (x24 : Int32), x24.toInt = ((k).toInt + 1) → ∀ lo, zlg lo 0 = some (.ref 0) → zlg lo 2 = some (.int x24) → aTm aT0 (sx (si mem 31 1 ((gi mem 31 1) ||| (y16 <<< (k &&& 31)))) 32 k y22) → yR zpg tX11_on (d + 4) (40, lo, [], (sx (si mem 31 1 ((gi mem 31 1) ||| (y16 <<< (k &&& 31)))) 32 k y22)) P) : yR zpg tX11_on (d + 4) (40, lo, [], mem) P := by
  have r7 := pA_r7 hm
  have r13 := pA_r13 hm
  refine wR_li rfl l_2 ?_
  refine wR_la rfl l_0 ?_
  refine wR_gq rfl cO_e hm hp ?_
  refine wR_gi rfl pA_e pA_7 hm rfl ?_
  refine wR_ic_ge rfl (a := (k).toInt) (c := (gi mem 2 7).toInt) rfl rfl (fun q1 => ?_) (fun q1 => ?_)
  ·
    refine yR_m 2 (fun _ _ _ _ => rfl) ?_
    refine wR_la rfl l_0 ?_
    refine wR_gq rfl cO_e hm hp ?_
    refine wR_gi rfl pA_e pA_7 hm rfl ?_
    refine wN_mul (a := 2) (b := (gi mem 2 7).toInt) rfl rfl rfl (by omega) (fun x2 e3 => ?_)
    refine wN_add (a := 2) (b := (2 * (gi mem 2 7).toInt)) rfl rfl e3 (by omega) (fun x4 e5 => ?_)
    refine wR_si rfl rfl (fun lo6 e7 f8 => ?_)
    have lo6_0 := f8 0 _ (by decide) (Or.inl rfl) l_0
    refine yR_m 1 (fun _ _ _ _ => rfl) ?_
    refine wR_si rfl rfl (fun lo9 e10 f11 => ?_)
    have lo9_2 := f11 2 _ (by decide) (Or.inl rfl) e7
    have lo9_0 := f11 0 _ (by decide) (Or.inl rfl) lo6_0
    exact h1 q1 x2 e3 x4 e5 lo9 lo9_0 lo9_2 e10 hm
  ·
    refine wR_la rfl l_0 ?_
    refine wR_gr rfl cO_e cO_7 hm ?_
    refine yR_m 1 (fun _ _ _ _ => rfl) ?_
    refine wR_gi rfl nO_e nO_1 hm rfl ?_
    refine wR_la rfl l_0 ?_
    refine wR_gr rfl cO_e cO_0 hm ?_
    refine yR_m 2 (fun _ _ _ _ => rfl) ?_
    refine wR_li rfl l_2 ?_
    refine wN_mul (a := 2) (b := (k).toInt) rfl rfl rfl (by omega) (fun x12 e13 => ?_)
    refine wN_add (a := 2) (b := (2 * (k).toInt)) rfl rfl e13 (by omega) (fun x14 e15 => ?_)
    refine wN_al (a := (2 + (2 * (k).toInt))) rfl aR_1 hm rfl e15 (by omega) (fun y16 e17 => ?_)
    refine wR_li rfl l_2 ?_
    refine yR_m 2 (fun _ _ _ _ => rfl) ?_
    refine wR_pi rfl nO_e nO_1 hm rfl ?_
    have hm_1 : aTm aT0 (si mem 31 1 ((gi mem 31 1) ||| (y16 <<< (k &&& 31)))) := tm_si nO_e nO_1 hm (s1 q1 x12 e13 x14 e15 y16 e17)
    refine wR_la rfl l_0 ?_
    refine wR_gr rfl cO_e cO_7 hm_1 ?_
    refine wR_gr rfl nO_e nO_2 hm_1 ?_
    refine wR_li rfl l_2 ?_
    refine wR_la rfl l_0 ?_
    refine wR_gr rfl cO_e cO_0 hm_1 ?_
    refine yR_m 2 (fun _ _ _ _ => rfl) ?_
    refine wR_li rfl l_2 ?_
    refine wN_mul (a := 2) (b := (k).toInt) rfl rfl rfl (by omega) (fun x18 e19 => ?_)
    refine wN_add (a := 3) (b := (2 * (k).toInt)) rfl rfl e19 (by omega) (fun x20 e21 => ?_)
    refine wN_al (a := (3 + (2 * (k).toInt))) rfl aR_1 hm_1 (ga_sv) e21 (by omega) (fun y22 e23 => ?_)
    refine wN_as (a := (k).toInt) rfl aR_32 hm_1 rfl (by omega) ?_
    have hm_2 : aTm aT0 (sx (si mem 31 1 ((gi mem 31 1) ||| (y16 <<< (k &&& 31)))) 32 k y22) := tm_sa aR_32 hm_1 (i32_b _)
    refine wN_in (a := (k).toInt) (b := 1) rfl rfl l_2 rfl rfl (by omega) (fun x24 e25 => fun lo26 e27 f28 => ?_)
    have lo26_0 := f28 0 _ (by decide) (Or.inl rfl) l_0
    exact yR_m 1 (fun _ _ _ _ => rfl) (h2 q1 x12 e13 x14 e15 y16 e17 x18 e19 x20 e21 y22 e23 x24 e25 lo26 lo26_0 e27 hm_2)

theorem on_pA_40 : ∀ (f : Nat) (mem : zM) (k : Int32) (lo : List (Nat × Value)), (gi mem 2 7).toInt ≤ k.toInt + (f : Int) → 0 ≤ k.toInt → k.toInt ≤ (gi mem 2 7).toInt → aTm aT0 mem → zfl mem 0 4 = some (.ref 2) → hiT 2 mem → frK mr mem → zlg lo 0 = some (.ref 0) → zlg lo 2 = some (.int k) → yR zpg tX11_on (d + 4) (40, lo, [], mem) (onP mr) := by
  intro f
  induction f with
  | zero =>
    intro mem k lo hk h0 h9 hm hp hT hf a0 a2
    have r7 := pA_r7 hm
    exact w_onpA_40 hm a0 a2 hp ⟨h0, by omega⟩
        (fun q1 x2 e3 x4 e5 lo a0 a2 a3 hm => on_pA_114 (by omega) 6 _ _ lo (by have := pA_r13 hm; show (gi _ _ _).toInt ≤ 0 + 6; omega) (by decide) hm hp (hf) a0 a2 a3)
        (fun q1 x12 e13 x14 e15 y16 e17 => by
          have r1 := nO_r1 hm
          have t1 := hT k.toInt h0 (by omega)
          have t0 := gR_1 hm (i := 2 + 2 * k.toInt) (by omega) (by omega)
          exact or_rg (by omega) (by omega) (by omega) (by omega) (by omega) (by omega))
        (fun q1 x12 e13 x14 e15 y16 e17 x18 e19 x20 e21 y22 e23 x24 e25 lo a0 a2 hm => by exfalso; omega)
  | succ f ih =>
    intro mem k lo hk h0 h9 hm hp hT hf a0 a2
    have r7 := pA_r7 hm
    exact w_onpA_40 hm a0 a2 hp ⟨h0, by omega⟩
        (fun q1 x2 e3 x4 e5 lo a0 a2 a3 hm => on_pA_114 (by omega) 6 _ _ lo (by have := pA_r13 hm; show (gi _ _ _).toInt ≤ 0 + 6; omega) (by decide) hm hp (hf) a0 a2 a3)
        (fun q1 x12 e13 x14 e15 y16 e17 => by
          have r1 := nO_r1 hm
          have t1 := hT k.toInt h0 (by omega)
          have t0 := gR_1 hm (i := 2 + 2 * k.toInt) (by omega) (by omega)
          exact or_rg (by omega) (by omega) (by omega) (by omega) (by omega) (by omega))
        (fun q1 x12 e13 x14 e15 y16 e17 x18 e19 x20 e21 y22 e23 x24 e25 lo a0 a2 hm => ih _ _ lo (by rw [((gi_sa).trans (gi_sv_ne (by decide)))]; omega) (by omega) (by rw [((gi_sa).trans (gi_sv_ne (by decide)))]; omega) hm (zfl_sa.trans ((zfl_sv_ne (by decide)).trans hp)) (by unfold hiT; rw [((ga_sa_ne (by decide)).trans (ga_sv)), ((gi_sa).trans (gi_sv_ne (by decide)))]; exact hT) (frK_sa (by decide) (frK_sv (by decide) (hf))) a0 a2)
set_option maxRecDepth 100000 in
theorem w_onpA_0 {d : Nat} {mem : zM} {P : Option Value → zM → Prop} {lo : List (Nat × Value)} (hm : aTm aT0 mem) (l_0 : zlg lo 0 = some (.ref 0)) (hp : zfl mem 0 4 = some (.ref 2)) (h1 : ∀ (v4 : Int32), (v4.toInt = 0 ∨ (v4.toInt = 1 ∧ hiT 2 (si mem 0 1 0))) → ¬ (v4).toInt = 0 → ∀ (y7 : Int32), y7.toInt = (gn (ga mem 1) 0) → ∀ (y9 : Int32), y9.toInt = (gn (ga mem 1) 1) → ∀ lo, zlg lo 0 = some (.ref 0) → zlg lo 2 = some (.int 0) → aTm aT0 (si (si (si mem 0 1 0) 31 0 ((y7 * 256) + y9)) 31 1 0) → yR zpg tX11_on (d + 4) (40, lo, [], (si (si (si mem 0 1 0) 31 0 ((y7 * 256) + y9)) 31 1 0)) P) (h2 : ∀ (v4 : Int32), (v4.toInt = 0 ∨ (v4.toInt = 1 ∧ hiT 2 (si mem 0 1 0))) → (v4).toInt = 0 → ∀ (y14 : Int32), y14.toInt = (gn (ga mem 220) 5) → aTm aT0 (sx (si mem 0 1 0) 220 5 (y14 + 1)) → P (some (.int 0)) (sx (si mem 0 1 0) 220 5 (y14 + 1))) : yR zpg tX11_on (d + 4) (0, lo, [], mem) P := by
  have r7 := pA_r7 hm
  have r13 := pA_r13 hm
  refine wR_la rfl l_0 ?_
  refine wR_iv rfl rfl cO_e hm rfl rfl rfl rfl ?_
  show yR zpg tX11_takeTape (d + 3) (0, [(0, .ref 0)], [], mem) _
  refine yR_m 1 (fun _ _ _ _ => rfl) ?_
  refine wR_gi rfl cO_e cO_1 hm rfl ?_
  refine yR_m 3 (fun _ _ _ _ => rfl) ?_
  refine wR_pi rfl cO_e cO_1 hm rfl ?_
  have hm_1 : aTm aT0 (si mem 0 1 0) := tm_si cO_e cO_1 hm (by decide)
  refine yR_m 1 (fun _ _ _ _ => rfl) ?_
  refine yR_ri rfl ?_
  show yR zpg tX11_on (d + 4) (4, lo, [.int (gi mem 0 1)], (si mem 0 1 0)) _
  refine wR_si rfl rfl (fun lo1 e2 f3 => ?_)
  have lo1_0 := f3 0 _ (by decide) (Or.inl rfl) l_0
  refine wR_la rfl lo1_0 ?_
  refine wR_li rfl e2 ?_
  refine wR_cv rfl rfl cO_e hm_1 rfl (h_holds_pA hm_1 ((zfl_sv_ne (by decide)).trans hp) (by omega)) ?_
  rintro _ _ ⟨v4, rfl, rfl, k5⟩
  show yR zpg tX11_on (d + 4) (10, lo1, [.int v4], (si mem 0 1 0)) _
  refine wR_if_ne rfl (a := (v4).toInt) rfl (fun q6 => ?_) (fun q6 => ?_)
  ·
    refine wR_la rfl lo1_0 ?_
    refine wR_gr rfl cO_e cO_7 hm_1 ?_
    refine wR_la rfl lo1_0 ?_
    refine wR_iv rfl rfl cO_e hm_1 rfl rfl rfl rfl ?_
    show yR zpg tX11_nightOnTape (d + 3) (0, [(0, .ref 0)], [], (si mem 0 1 0)) _
    refine yR_m 1 (fun _ _ _ _ => rfl) ?_
    refine wR_gr rfl cO_e cO_0 hm_1 ?_
    refine yR_m 1 (fun _ _ _ _ => rfl) ?_
    refine wN_al (a := 0) rfl aR_1 hm_1 (ga_sv) rfl (by decide) (fun y7 e8 => ?_)
    refine yR_m 3 (fun _ _ _ _ => rfl) ?_
    refine wR_gr rfl cO_e cO_0 hm_1 ?_
    refine yR_m 1 (fun _ _ _ _ => rfl) ?_
    refine wN_al (a := 1) rfl aR_1 hm_1 (ga_sv) rfl (by decide) (fun y9 e10 => ?_)
    refine yR_m 1 (fun _ _ _ _ => rfl) ?_
    refine yR_ri rfl ?_
    show yR zpg tX11_on (d + 4) (27, lo1, [.int ((y7 * 256) + y9), .ref 31], (si mem 0 1 0)) _
    refine wR_pi rfl nO_e nO_0 hm_1 rfl ?_
    have hm_2 : aTm aT0 (si (si mem 0 1 0) 31 0 ((y7 * 256) + y9)) := tm_si nO_e nO_0 hm_1 (i32_b _)
    refine wR_la rfl lo1_0 ?_
    refine wR_gr rfl cO_e cO_7 hm_2 ?_
    refine yR_m 1 (fun _ _ _ _ => rfl) ?_
    refine wR_pi rfl nO_e nO_1 hm_2 rfl ?_
    have hm_3 : aTm aT0 (si (si (si mem 0 1 0) 31 0 ((y7 * 256) + y9)) 31 1 0) := tm_si nO_e nO_1 hm_2 (by decide)
    refine yR_m 1 (fun _ _ _ _ => rfl) ?_
    refine wR_si rfl rfl (fun lo11 e12 f13 => ?_)
    have lo11_1 := f13 1 _ (by decide) (Or.inl rfl) e2
    have lo11_0 := f13 0 _ (by decide) (Or.inl rfl) lo1_0
    exact h1 v4 k5 q6 y7 e8 y9 e10 lo11 lo11_0 e12 hm_3
  ·
    refine wR_la rfl lo1_0 ?_
    refine yR_m 1 (fun _ _ _ _ => rfl) ?_
    refine wR_iv rfl rfl cO_e hm_1 rfl rfl rfl rfl ?_
    show yR zpg tX11_refused (d + 3) (0, [(0, .ref 0), (1, .int 5)], [], (si mem 0 1 0)) _
    refine yR_m 1 (fun _ _ _ _ => rfl) ?_
    refine wR_gr rfl cO_e cO_14 hm_1 ?_
    refine yR_m 2 (fun _ _ _ _ => rfl) ?_
    refine wN_al (a := 5) rfl aR_220 hm_1 (ga_sv) rfl (by decide) (fun y14 e15 => ?_)
    refine yR_m 2 (fun _ _ _ _ => rfl) ?_
    refine wN_as (a := 5) rfl aR_220 hm_1 rfl (by decide) ?_
    have hm_4 : aTm aT0 (sx (si mem 0 1 0) 220 5 (y14 + 1)) := tm_sa aR_220 hm_1 (i32_b _)
    refine yR_m 1 (fun _ _ _ _ => rfl) ?_
    refine yR_rz rfl ⟨by decide, by decide⟩ ?_
    show yR zpg tX11_on (d + 4) (18, lo1, [.int 0], (sx (si mem 0 1 0) 220 5 (y14 + 1))) _
    exact yR_rz rfl ⟨by decide, by decide⟩ (h2 v4 k5 q6 y14 e15 hm_4)

theorem h_on_pA (hm : aTm aT0 mem) (hp : zfl mem 0 4 = some (.ref 2)) (hd : 5 ≤ d) : yC zpg d 142 [.ref 0] mem (onP (si mem 0 1 0)) := by
  obtain ⟨d, rfl⟩ : ∃ q, d = q + 5 := ⟨d - 5, by omega⟩
  refine yC_of (t := tX11_on) rfl rfl ?_
  exact w_onpA_0 hm rfl hp
        (fun v4 k5 q6 y7 e8 y9 e10 lo a0 a2 hm2 => by
          have hT : hiT 2 (si (si (si mem 0 1 0) 31 0 ((y7 * 256) + y9)) 31 1 0) := by
            rcases k5 with w | w
            · exfalso; omega
            · unfold hiT at w ⊢
              rw [((ga_sv).trans ((ga_sv).trans (ga_sv))), ((gi_sv_ne (by decide)).trans ((gi_sv_ne (by decide)).trans (gi_sv_ne (by decide))))]
              rw [ga_sv, gi_sv_ne (by decide)] at w
              exact w.2
          exact on_pA_40 9 _ _ lo (by have := pA_r7 hm2; show (gi _ _ _).toInt ≤ 0 + 9; omega) (by decide) (by have := pA_r7 hm2; show 0 ≤ (gi _ _ _).toInt; omega) hm2 ((zfl_sv_ne (by decide)).trans ((zfl_sv_ne (by decide)).trans ((zfl_sv_ne (by decide)).trans hp))) hT (frK_sv (by decide) (frK_sv (by decide) (frK_rf))) a0 a2)
        (fun v4 k5 q6 y14 e15 hm => ⟨⟨_, rfl⟩, hm, frK_sa (by decide) (frK_rf)⟩)
set_option maxRecDepth 100000 in
theorem w_hf_pB {d : Nat} {mem : zM} {P : Option Value → zM → Prop} {x y : Int32} (hm : aTm aT0 mem) (h1 : (x).toInt < 0 → aTm aT0 mem → P (some (.int 0)) mem) (h2 : 0 ≤ (x).toInt → (gi mem 14 1).toInt ≤ (x).toInt → aTm aT0 mem → P (some (.int 0)) mem) (h3 : 0 ≤ (x).toInt → (x).toInt < (gi mem 14 1).toInt → (y).toInt < 0 → aTm aT0 mem → P (some (.int 0)) mem) (h4 : 0 ≤ (x).toInt → (x).toInt < (gi mem 14 1).toInt → 0 ≤ (y).toInt → (gi mem 14 2).toInt ≤ (y).toInt → aTm aT0 mem → P (some (.int 0)) mem) (h5 : 0 ≤ (x).toInt → (x).toInt < (gi mem 14 1).toInt → 0 ≤ (y).toInt → (y).toInt < (gi mem 14 2).toInt → ¬ ((gL mem 14 6) &&& (1 <<< ((((y * 8) + x) : Int32).toInt64 &&& 63))) = 0 → aTm aT0 mem → P (some (.int 0)) mem) (h6 : 0 ≤ (x).toInt → (x).toInt < (gi mem 14 1).toInt → 0 ≤ (y).toInt → (y).toInt < (gi mem 14 2).toInt → ((gL mem 14 6) &&& (1 <<< ((((y * 8) + x) : Int32).toInt64 &&& 63))) = 0 → aTm aT0 mem → P (some (.int 1)) mem) : yR zpg tX4_hasFreeCell (d + 1) (0, [(0, .ref 14), (1, .int x), (2, .int y)], [], mem) P := by
  refine yR_m 3 (fun _ _ _ _ => rfl) ?_
  refine wR_iv rfl rfl pB_e hm rfl rfl rfl rfl ?_
  show yR zpg tX4_hasCell d (0, [(0, .ref 14), (1, .int x), (2, .int y)], [], mem) _
  refine yR_m 1 (fun _ _ _ _ => rfl) ?_
  refine wR_if_lt rfl (a := (x).toInt) rfl (fun q1 => ?_) (fun q1 => ?_)
  ·
    refine yR_m 1 (fun _ _ _ _ => rfl) ?_
    refine yR_rz rfl ⟨by decide, by decide⟩ ?_
    show yR zpg tX4_hasFreeCell (d + 1) (6, [(0, .ref 14), (1, .int x), (2, .int y)], [.int 0], mem) _
    refine wR_if_eq rfl (a := 0) rfl (fun _ => ?_) (fun q => by exfalso; omega)
    refine yR_m 1 (fun _ _ _ _ => rfl) ?_
    exact yR_rz rfl ⟨by decide, by decide⟩ (h1 q1 hm)
  ·
    refine yR_m 2 (fun _ _ _ _ => rfl) ?_
    refine wR_gi rfl pB_e pB_1 hm rfl ?_
    refine wR_ic_ge rfl (a := (x).toInt) (c := (gi mem 14 1).toInt) rfl rfl (fun q2 => ?_) (fun q2 => ?_)
    ·
      refine yR_m 1 (fun _ _ _ _ => rfl) ?_
      refine yR_rz rfl ⟨by decide, by decide⟩ ?_
      show yR zpg tX4_hasFreeCell (d + 1) (6, [(0, .ref 14), (1, .int x), (2, .int y)], [.int 0], mem) _
      refine wR_if_eq rfl (a := 0) rfl (fun _ => ?_) (fun q => by exfalso; omega)
      refine yR_m 1 (fun _ _ _ _ => rfl) ?_
      exact yR_rz rfl ⟨by decide, by decide⟩ (h2 q1 q2 hm)
    ·
      refine yR_m 1 (fun _ _ _ _ => rfl) ?_
      refine wR_if_lt rfl (a := (y).toInt) rfl (fun q3 => ?_) (fun q3 => ?_)
      ·
        refine yR_m 1 (fun _ _ _ _ => rfl) ?_
        refine yR_rz rfl ⟨by decide, by decide⟩ ?_
        show yR zpg tX4_hasFreeCell (d + 1) (6, [(0, .ref 14), (1, .int x), (2, .int y)], [.int 0], mem) _
        refine wR_if_eq rfl (a := 0) rfl (fun _ => ?_) (fun q => by exfalso; omega)
        refine yR_m 1 (fun _ _ _ _ => rfl) ?_
        exact yR_rz rfl ⟨by decide, by decide⟩ (h3 q1 q2 q3 hm)
      ·
        refine yR_m 2 (fun _ _ _ _ => rfl) ?_
        refine wR_gi rfl pB_e pB_2 hm rfl ?_
        refine wR_ic_ge rfl (a := (y).toInt) (c := (gi mem 14 2).toInt) rfl rfl (fun q4 => ?_) (fun q4 => ?_)
        ·
          refine yR_m 1 (fun _ _ _ _ => rfl) ?_
          refine yR_rz rfl ⟨by decide, by decide⟩ ?_
          show yR zpg tX4_hasFreeCell (d + 1) (6, [(0, .ref 14), (1, .int x), (2, .int y)], [.int 0], mem) _
          refine wR_if_eq rfl (a := 0) rfl (fun _ => ?_) (fun q => by exfalso; omega)
          refine yR_m 1 (fun _ _ _ _ => rfl) ?_
          exact yR_rz rfl ⟨by decide, by decide⟩ (h4 q1 q2 q3 q4 hm)
        ·
          refine yR_m 2 (fun _ _ _ _ => rfl) ?_
          refine yR_rz rfl ⟨by decide, by decide⟩ ?_
          show yR zpg tX4_hasFreeCell (d + 1) (6, [(0, .ref 14), (1, .int x), (2, .int y)], [.int 1], mem) _
          refine wR_if_eq rfl (a := 1) rfl (fun q => by exfalso; omega) (fun _ => ?_)
          refine yR_m 1 (fun _ _ _ _ => rfl) ?_
          refine wR_gL rfl pB_e pB_6 hm rfl ?_
          refine yR_m 2 (fun _ _ _ _ => rfl) ?_
          refine wR_is rfl rfl rfl rfl rfl rfl ?_
          show yR zpg tX11_placeOf d (0, [(0, .int x), (1, .int y)], [], mem) _
          refine yR_m 5 (fun _ _ _ _ => rfl) ?_
          refine yR_ri rfl ?_
          show yR zpg tX4_hasFreeCell (d + 1) (18, [(0, .ref 14), (1, .int x), (2, .int y)], [.int ((y * 8) + x), .long (gL mem 14 6)], mem) _
          refine wR_is rfl rfl rfl rfl rfl rfl ?_
          show yR zpg tX11_bitOf d (0, [(0, .int ((y * 8) + x))], [], mem) _
          refine yR_m 3 (fun _ _ _ _ => rfl) ?_
          refine yR_rl rfl ?_
          show yR zpg tX4_hasFreeCell (d + 1) (21, [(0, .ref 14), (1, .int x), (2, .int y)], [.long (1 <<< ((((y * 8) + x) : Int32).toInt64 &&& 63)), .long (gL mem 14 6)], mem) _
          refine yR_m 3 (fun _ _ _ _ => rfl) ?_
          refine wR_lf_ne rfl (fun q5 => ?_) (fun q5 => ?_)
          ·
            refine yR_m 1 (fun _ _ _ _ => rfl) ?_
            exact yR_rz rfl ⟨by decide, by decide⟩ (h5 q1 q2 q3 q4 q5 hm)
          ·
            refine yR_m 2 (fun _ _ _ _ => rfl) ?_
            exact yR_rz rfl ⟨by decide, by decide⟩ (h6 q1 q2 q3 q4 q5 hm)

theorem h_hasFree_pB {x y : Int32} (hm : aTm aT0 mem) (hd : 2 ≤ d) : yC zpg d 51 [.ref 14, .int x, .int y] mem (fun r m => ∃ v : Int32, r = some (.int v) ∧ mem = m ∧ 0 ≤ v.toInt ∧ v.toInt ≤ 1) := by
  obtain ⟨d, rfl⟩ : ∃ q, d = q + 2 := ⟨d - 2, by omega⟩
  refine yC_of (t := tX4_hasFreeCell) rfl rfl ?_
  exact w_hf_pB hm
        (fun q1 hm => ⟨_, rfl, rfl, by decide, by decide⟩)
        (fun q1 q2 hm => ⟨_, rfl, rfl, by decide, by decide⟩)
        (fun q1 q2 q3 hm => ⟨_, rfl, rfl, by decide, by decide⟩)
        (fun q1 q2 q3 q4 hm => ⟨_, rfl, rfl, by decide, by decide⟩)
        (fun q1 q2 q3 q4 q5 hm => ⟨_, rfl, rfl, by decide, by decide⟩)
        (fun q1 q2 q3 q4 q5 hm => ⟨_, rfl, rfl, by decide, by decide⟩)
set_option maxRecDepth 100000 in
theorem w_hipB_116 {d : Nat} {mem : zM} {P : Option Value → zM → Prop} {n u g k : Int32} {lo : List (Nat × Value)} (hm : aTm aT0 mem) (l_0 : zlg lo 0 = some (.ref 0)) (l_1 : zlg lo 1 = some (.int n)) (l_2 : zlg lo 2 = some (.int u)) (l_3 : zlg lo 3 = some (.int g)) (l_4 : zlg lo 4 = some (.int k)) (hp : zfl mem 0 4 = some (.ref 14)) (hk : 0 ≤ k.toInt ∧ k.toInt ≤ 6) (hu : 1 ≤ u.toInt ∧ u.toInt ≤ 33) (hg : 0 ≤ g.toInt ∧ g.toInt ≤ 20) (h1 : (gi mem 14 13).toInt ≤ (k).toInt → ∀ (x2 : Int32), x2.toInt = ((u).toInt - 1) → ∀ (y4 : Int32), y4.toInt = (gn (ga mem 1) ((u).toInt - 1)) → ∀ (x6 : Int32), x6.toInt = ((u).toInt - 1) → ∀ (v8 : Int32), True → ¬ (gn (ga mem 1) ((u).toInt - 1)) = (v8).toInt → aTm aT0 mem → P (some (.int 0)) mem) (h2 : (gi mem 14 13).toInt ≤ (k).toInt → ∀ (x2 : Int32), x2.toInt = ((u).toInt - 1) → ∀ (y4 : Int32), y4.toInt = (gn (ga mem 1) ((u).toInt - 1)) → ∀ (x6 : Int32), x6.toInt = ((u).toInt - 1) → ∀ (v8 : Int32), True → (gn (ga mem 1) ((u).toInt - 1)) = (v8).toInt → aTm aT0 mem → P (some (.int 1)) mem) (h3 : (k).toInt < (gi mem 14 13).toInt → ∀ (x11 : Int32), x11.toInt = (2 * (k).toInt) → ∀ (x13 : Int32), x13.toInt = ((g).toInt + (2 * (k).toInt)) → ∀ (y15 : Int32), y15.toInt = (gn (ga mem 1) ((g).toInt + (2 * (k).toInt))) → ∀ (x17 : Int32), x17.toInt = (2 * (k).toInt) → ∀ (x19 : Int32), x19.toInt = ((g).toInt + (2 * (k).toInt)) → ∀ (x21 : Int32), x21.toInt = (((g).toInt + (2 * (k).toInt)) + 1) → ∀ (y23 : Int32), y23.toInt = (gn (ga mem 1) (((g).toInt + (2 * (k).toInt)) + 1)) → ∀ (v25 : Int32), 0 ≤ v25.toInt ∧ v25.toInt ≤ 1 → ¬ (v25).toInt = 0 → ∀ (x28 : Int32), x28.toInt = ((k).toInt + 1) → ∀ lo, zlg lo 0 = some (.ref 0) → zlg lo 1 = some (.int n) → zlg lo 2 = some (.int u) → zlg lo 3 = some (.int g) → zlg lo 4 = some (.int x28) → aTm aT0 mem → yR zpg tX11_holdsImage (d + 2) (116, lo, [], mem) P) (h4 : (k).toInt < (gi mem 14 13).toInt → ∀ (x11 : Int32), x11.toInt = (2 * (k).toInt) → ∀ (x13 : Int32), x13.toInt = ((g).toInt + (2 * (k).toInt)) → ∀ (y15 : Int32), y15.toInt = (gn (ga mem 1) ((g).toInt + (2 * (k).toInt))) → ∀ (x17 : Int32), x17.toInt = (2 * (k).toInt) → ∀ (x19 : Int32), x19.toInt = ((g).toInt + (2 * (k).toInt)) → ∀ (x21 : Int32), x21.toInt = (((g).toInt + (2 * (k).toInt)) + 1) → ∀ (y23 : Int32), y23.toInt = (gn (ga mem 1) (((g).toInt + (2 * (k).toInt)) + 1)) → ∀ (v25 : Int32), 0 ≤ v25.toInt ∧ v25.toInt ≤ 1 → (v25).toInt = 0 → aTm aT0 mem → P (some (.int 0)) mem) : yR zpg tX11_holdsImage (d + 2) (116, lo, [], mem) P := by
  have r7 := pB_r7 hm
  have r13 := pB_r13 hm
  refine wR_li rfl l_4 ?_
  refine wR_la rfl l_0 ?_
  refine wR_gq rfl cO_e hm hp ?_
  refine wR_gi rfl pB_e pB_13 hm rfl ?_
  refine wR_ic_ge rfl (a := (k).toInt) (c := (gi mem 14 13).toInt) rfl rfl (fun q1 => ?_) (fun q1 => ?_)
  ·
    refine wR_la rfl l_0 ?_
    refine wR_gr rfl cO_e cO_0 hm ?_
    refine wR_li rfl l_2 ?_
    refine yR_m 1 (fun _ _ _ _ => rfl) ?_
    refine wN_sub (a := (u).toInt) (b := 1) rfl rfl rfl (by omega) (fun x2 e3 => ?_)
    refine wN_al (a := ((u).toInt - 1)) rfl aR_1 hm rfl e3 (by omega) (fun y4 e5 => ?_)
    refine wR_la rfl l_0 ?_
    refine wR_gr rfl cO_e cO_0 hm ?_
    refine wR_li rfl l_2 ?_
    refine yR_m 1 (fun _ _ _ _ => rfl) ?_
    refine wN_sub (a := (u).toInt) (b := 1) rfl rfl rfl (by omega) (fun x6 e7 => ?_)
    refine yR_cs rfl rfl rfl (h_checkOf hm (by omega)) ?_
    rintro _ _ ⟨v8, rfl, rfl, k9⟩
    show yR zpg tX11_holdsImage (d + 2) (188, lo, [.int v8, .int y4], mem) _
    refine wR_ic_ne rfl (a := (gn (ga mem 1) ((u).toInt - 1))) (c := (v8).toInt) e5 rfl (fun q10 => ?_) (fun q10 => ?_)
    ·
      refine yR_m 1 (fun _ _ _ _ => rfl) ?_
      exact yR_rz rfl ⟨by decide, by decide⟩ (h1 q1 x2 e3 y4 e5 x6 e7 v8 k9 q10 hm)
    ·
      refine yR_m 2 (fun _ _ _ _ => rfl) ?_
      exact yR_rz rfl ⟨by decide, by decide⟩ (h2 q1 x2 e3 y4 e5 x6 e7 v8 k9 q10 hm)
  ·
    refine wR_la rfl l_0 ?_
    refine wR_gq rfl cO_e hm hp ?_
    refine wR_la rfl l_0 ?_
    refine wR_gr rfl cO_e cO_0 hm ?_
    refine wR_li rfl l_3 ?_
    refine yR_m 1 (fun _ _ _ _ => rfl) ?_
    refine wR_li rfl l_4 ?_
    refine wN_mul (a := 2) (b := (k).toInt) rfl rfl rfl (by omega) (fun x11 e12 => ?_)
    refine wN_add (a := (g).toInt) (b := (2 * (k).toInt)) rfl rfl e12 (by omega) (fun x13 e14 => ?_)
    refine wN_al (a := ((g).toInt + (2 * (k).toInt))) rfl aR_1 hm rfl e14 (by omega) (fun y15 e16 => ?_)
    refine wR_la rfl l_0 ?_
    refine wR_gr rfl cO_e cO_0 hm ?_
    refine wR_li rfl l_3 ?_
    refine yR_m 1 (fun _ _ _ _ => rfl) ?_
    refine wR_li rfl l_4 ?_
    refine wN_mul (a := 2) (b := (k).toInt) rfl rfl rfl (by omega) (fun x17 e18 => ?_)
    refine wN_add (a := (g).toInt) (b := (2 * (k).toInt)) rfl rfl e18 (by omega) (fun x19 e20 => ?_)
    refine yR_m 1 (fun _ _ _ _ => rfl) ?_
    refine wN_add (a := ((g).toInt + (2 * (k).toInt))) (b := 1) rfl e20 rfl (by omega) (fun x21 e22 => ?_)
    refine wN_al (a := (((g).toInt + (2 * (k).toInt)) + 1)) rfl aR_1 hm rfl e22 (by omega) (fun y23 e24 => ?_)
    refine wR_cv rfl rfl pB_e hm rfl (h_hasFree_pB hm (by omega)) ?_
    rintro _ _ ⟨v25, rfl, rfl, k26⟩
    show yR zpg tX11_holdsImage (d + 2) (159, lo, [.int v25], mem) _
    refine wR_if_ne rfl (a := (v25).toInt) rfl (fun q27 => ?_) (fun q27 => ?_)
    ·
      refine wN_in (a := (k).toInt) (b := 1) rfl rfl l_4 rfl rfl (by omega) (fun x28 e29 => fun lo30 e31 f32 => ?_)
      have lo30_0 := f32 0 _ (by decide) (Or.inl rfl) l_0
      have lo30_1 := f32 1 _ (by decide) (Or.inl rfl) l_1
      have lo30_2 := f32 2 _ (by decide) (Or.inl rfl) l_2
      have lo30_3 := f32 3 _ (by decide) (Or.inl rfl) l_3
      exact yR_m 1 (fun _ _ _ _ => rfl) (h3 q1 x11 e12 x13 e14 y15 e16 x17 e18 x19 e20 x21 e22 y23 e24 v25 k26 q27 x28 e29 lo30 lo30_0 lo30_1 lo30_2 lo30_3 e31 hm)
    ·
      refine yR_m 1 (fun _ _ _ _ => rfl) ?_
      exact yR_rz rfl ⟨by decide, by decide⟩ (h4 q1 x11 e12 x13 e14 y15 e16 x17 e18 x19 e20 x21 e22 y23 e24 v25 k26 q27 hm)

theorem hi_pB_116 {n u g : Int32} (hm : aTm aT0 mem) (hp : zfl mem 0 4 = some (.ref 14)) (hT : hiT 14 mem) (hu : 1 ≤ u.toInt ∧ u.toInt ≤ 33) (hg : 0 ≤ g.toInt ∧ g.toInt ≤ 20) : ∀ (f : Nat) (k : Int32) (lo : List (Nat × Value)), k.toInt + (f : Int) = 6 → 0 ≤ k.toInt → zlg lo 0 = some (.ref 0) → zlg lo 1 = some (.int n) → zlg lo 2 = some (.int u) → zlg lo 3 = some (.int g) → zlg lo 4 = some (.int k) → yR zpg tX11_holdsImage (d + 2) (116, lo, [], mem) (hiP 14 mem) := by
  have r13 := pB_r13 hm
  intro f
  induction f with
  | zero =>
    intro k lo hk h0 a0 a1 a2 a3 a4
    exact w_hipB_116 hm a0 a1 a2 a3 a4 hp ⟨h0, by omega⟩ hu hg
        (fun q1 x2 e3 y4 e5 x6 e7 v8 k9 q10 hm => ⟨_, rfl, rfl, Or.inl rfl⟩)
        (fun q1 x2 e3 y4 e5 x6 e7 v8 k9 q10 hm => ⟨_, rfl, rfl, Or.inr ⟨rfl, hT⟩⟩)
        (fun q1 x11 e12 x13 e14 y15 e16 x17 e18 x19 e20 x21 e22 y23 e24 v25 k26 q27 x28 e29 lo a0 a1 a2 a3 a4 hm => by exfalso; omega)
        (fun q1 x11 e12 x13 e14 y15 e16 x17 e18 x19 e20 x21 e22 y23 e24 v25 k26 q27 hm => ⟨_, rfl, rfl, Or.inl rfl⟩)
  | succ f ih =>
    intro k lo hk h0 a0 a1 a2 a3 a4
    exact w_hipB_116 hm a0 a1 a2 a3 a4 hp ⟨h0, by omega⟩ hu hg
        (fun q1 x2 e3 y4 e5 x6 e7 v8 k9 q10 hm => ⟨_, rfl, rfl, Or.inl rfl⟩)
        (fun q1 x2 e3 y4 e5 x6 e7 v8 k9 q10 hm => ⟨_, rfl, rfl, Or.inr ⟨rfl, hT⟩⟩)
        (fun q1 x11 e12 x13 e14 y15 e16 x17 e18 x19 e20 x21 e22 y23 e24 v25 k26 q27 x28 e29 lo a0 a1 a2 a3 a4 hm => ih _ lo (by omega) (by omega) a0 a1 a2 a3 a4)
        (fun q1 x11 e12 x13 e14 y15 e16 x17 e18 x19 e20 x21 e22 y23 e24 v25 k26 q27 hm => ⟨_, rfl, rfl, Or.inl rfl⟩)
set_option maxRecDepth 100000 in
theorem w_hipB_53 {d : Nat} {mem : zM} {P : Option Value → zM → Prop} {n u k : Int32} {lo : List (Nat × Value)} (hm : aTm aT0 mem) (l_0 : zlg lo 0 = some (.ref 0)) (l_1 : zlg lo 1 = some (.int n)) (l_2 : zlg lo 2 = some (.int u)) (l_3 : zlg lo 3 = some (.int k)) (hp : zfl mem 0 4 = some (.ref 14)) (hk : 0 ≤ k.toInt ∧ k.toInt ≤ 9) (hu : 1 ≤ u.toInt ∧ u.toInt ≤ 33) (h1 : (gi mem 14 7).toInt ≤ (k).toInt → ∀ (x2 : Int32), x2.toInt = (2 * (gi mem 14 7).toInt) → ∀ (x4 : Int32), x4.toInt = (2 + (2 * (gi mem 14 7).toInt)) → ∀ lo, zlg lo 0 = some (.ref 0) → zlg lo 1 = some (.int n) → zlg lo 2 = some (.int u) → zlg lo 3 = some (.int x4) → zlg lo 4 = some (.int 0) → aTm aT0 mem → yR zpg tX11_holdsImage (d + 2) (116, lo, [], mem) P) (h2 : (k).toInt < (gi mem 14 7).toInt → ∀ (x12 : Int32), x12.toInt = (2 * (k).toInt) → ∀ (x14 : Int32), x14.toInt = (2 + (2 * (k).toInt)) → ∀ (y16 : Int32), y16.toInt = (gn (ga mem 1) (2 + (2 * (k).toInt))) → 1 < (gn (ga mem 1) (2 + (2 * (k).toInt))) → aTm aT0 mem → P (some (.int 0)) mem) (h3 : (k).toInt < (gi mem 14 7).toInt → ∀ (x12 : Int32), x12.toInt = (2 * (k).toInt) → ∀ (x14 : Int32), x14.toInt = (2 + (2 * (k).toInt)) → ∀ (y16 : Int32), y16.toInt = (gn (ga mem 1) (2 + (2 * (k).toInt))) → (gn (ga mem 1) (2 + (2 * (k).toInt))) ≤ 1 → ∀ (x19 : Int32), x19.toInt = (2 * (k).toInt) → ∀ (x21 : Int32), x21.toInt = (3 + (2 * (k).toInt)) → ∀ (y23 : Int32), y23.toInt = (gn (ga mem 1) (3 + (2 * (k).toInt))) → (gn (ga mem 1) (3 + (2 * (k).toInt))) ≤ 99 → ∀ (x26 : Int32), x26.toInt = ((k).toInt + 1) → ∀ lo, zlg lo 0 = some (.ref 0) → zlg lo 1 = some (.int n) → zlg lo 2 = some (.int u) → zlg lo 3 = some (.int x26) → aTm aT0 mem → yR zpg tX11_holdsImage (d + 2) (53, lo, [], mem) P) (h4 : (k).toInt < (gi mem 14 7).toInt → ∀ (x12 : Int32), x12.toInt = (2 * (k).toInt) → ∀ (x14 : Int32), x14.toInt = (2 + (2 * (k).toInt)) → ∀ (y16 : Int32), y16.toInt = (gn (ga mem 1) (2 + (2 * (k).toInt))) → (gn (ga mem 1) (2 + (2 * (k).toInt))) ≤ 1 → ∀ (x19 : Int32), x19.toInt = (2 * (k).toInt) → ∀ (x21 : Int32), x21.toInt = (3 + (2 * (k).toInt)) → ∀ (y23 : Int32), y23.toInt = (gn (ga mem 1) (3 + (2 * (k).toInt))) → 99 < (gn (ga mem 1) (3 + (2 * (k).toInt))) → aTm aT0 mem → P (some (.int 0)) mem) : yR zpg tX11_holdsImage (d + 2) (53, lo, [], mem) P := by
  have r7 := pB_r7 hm
  have r13 := pB_r13 hm
  refine wR_li rfl l_3 ?_
  refine wR_la rfl l_0 ?_
  refine wR_gq rfl cO_e hm hp ?_
  refine wR_gi rfl pB_e pB_7 hm rfl ?_
  refine wR_ic_ge rfl (a := (k).toInt) (c := (gi mem 14 7).toInt) rfl rfl (fun q1 => ?_) (fun q1 => ?_)
  ·
    refine yR_m 2 (fun _ _ _ _ => rfl) ?_
    refine wR_la rfl l_0 ?_
    refine wR_gq rfl cO_e hm hp ?_
    refine wR_gi rfl pB_e pB_7 hm rfl ?_
    refine wN_mul (a := 2) (b := (gi mem 14 7).toInt) rfl rfl rfl (by omega) (fun x2 e3 => ?_)
    refine wN_add (a := 2) (b := (2 * (gi mem 14 7).toInt)) rfl rfl e3 (by omega) (fun x4 e5 => ?_)
    refine wR_si rfl rfl (fun lo6 e7 f8 => ?_)
    have lo6_0 := f8 0 _ (by decide) (Or.inl rfl) l_0
    have lo6_1 := f8 1 _ (by decide) (Or.inl rfl) l_1
    have lo6_2 := f8 2 _ (by decide) (Or.inl rfl) l_2
    refine yR_m 1 (fun _ _ _ _ => rfl) ?_
    refine wR_si rfl rfl (fun lo9 e10 f11 => ?_)
    have lo9_3 := f11 3 _ (by decide) (Or.inl rfl) e7
    have lo9_0 := f11 0 _ (by decide) (Or.inl rfl) lo6_0
    have lo9_1 := f11 1 _ (by decide) (Or.inl rfl) lo6_1
    have lo9_2 := f11 2 _ (by decide) (Or.inl rfl) lo6_2
    exact h1 q1 x2 e3 x4 e5 lo9 lo9_0 lo9_1 lo9_2 lo9_3 e10 hm
  ·
    refine wR_la rfl l_0 ?_
    refine wR_gr rfl cO_e cO_0 hm ?_
    refine yR_m 2 (fun _ _ _ _ => rfl) ?_
    refine wR_li rfl l_3 ?_
    refine wN_mul (a := 2) (b := (k).toInt) rfl rfl rfl (by omega) (fun x12 e13 => ?_)
    refine wN_add (a := 2) (b := (2 * (k).toInt)) rfl rfl e13 (by omega) (fun x14 e15 => ?_)
    refine wN_al (a := (2 + (2 * (k).toInt))) rfl aR_1 hm rfl e15 (by omega) (fun y16 e17 => ?_)
    refine yR_m 1 (fun _ _ _ _ => rfl) ?_
    refine wR_ic_gt rfl (a := (gn (ga mem 1) (2 + (2 * (k).toInt)))) (c := 1) e17 rfl (fun q18 => ?_) (fun q18 => ?_)
    ·
      refine yR_m 1 (fun _ _ _ _ => rfl) ?_
      exact yR_rz rfl ⟨by decide, by decide⟩ (h2 q1 x12 e13 x14 e15 y16 e17 q18 hm)
    ·
      refine wR_la rfl l_0 ?_
      refine wR_gr rfl cO_e cO_0 hm ?_
      refine yR_m 2 (fun _ _ _ _ => rfl) ?_
      refine wR_li rfl l_3 ?_
      refine wN_mul (a := 2) (b := (k).toInt) rfl rfl rfl (by omega) (fun x19 e20 => ?_)
      refine wN_add (a := 3) (b := (2 * (k).toInt)) rfl rfl e20 (by omega) (fun x21 e22 => ?_)
      refine wN_al (a := (3 + (2 * (k).toInt))) rfl aR_1 hm rfl e22 (by omega) (fun y23 e24 => ?_)
      refine yR_m 1 (fun _ _ _ _ => rfl) ?_
      refine wR_ic_le rfl (a := (gn (ga mem 1) (3 + (2 * (k).toInt)))) (c := 99) e24 rfl (fun q25 => ?_) (fun q25 => ?_)
      ·
        refine wN_in (a := (k).toInt) (b := 1) rfl rfl l_3 rfl rfl (by omega) (fun x26 e27 => fun lo28 e29 f30 => ?_)
        have lo28_0 := f30 0 _ (by decide) (Or.inl rfl) l_0
        have lo28_1 := f30 1 _ (by decide) (Or.inl rfl) l_1
        have lo28_2 := f30 2 _ (by decide) (Or.inl rfl) l_2
        exact yR_m 1 (fun _ _ _ _ => rfl) (h3 q1 x12 e13 x14 e15 y16 e17 q18 x19 e20 x21 e22 y23 e24 q25 x26 e27 lo28 lo28_0 lo28_1 lo28_2 e29 hm)
      ·
        refine yR_m 1 (fun _ _ _ _ => rfl) ?_
        exact yR_rz rfl ⟨by decide, by decide⟩ (h4 q1 x12 e13 x14 e15 y16 e17 q18 x19 e20 x21 e22 y23 e24 q25 hm)

theorem hi_pB_53 {n u : Int32} (hm : aTm aT0 mem) (hp : zfl mem 0 4 = some (.ref 14)) (hu : 1 ≤ u.toInt ∧ u.toInt ≤ 33) : ∀ (f : Nat) (k : Int32) (lo : List (Nat × Value)), (gi mem 14 7).toInt ≤ k.toInt + (f : Int) → 0 ≤ k.toInt → k.toInt ≤ 9 → (∀ j : Int, 0 ≤ j → j < k.toInt → gn (ga mem 1) (2 + 2 * j) ≤ 1) → zlg lo 0 = some (.ref 0) → zlg lo 1 = some (.int n) → zlg lo 2 = some (.int u) → zlg lo 3 = some (.int k) → yR zpg tX11_holdsImage (d + 2) (53, lo, [], mem) (hiP 14 mem) := by
  have r7 := pB_r7 hm
  intro f
  induction f with
  | zero =>
    intro k lo hk h0 h9 hT a0 a1 a2 a3
    exact w_hipB_53 hm a0 a1 a2 a3 hp ⟨h0, h9⟩ hu
        (fun q1 x2 e3 x4 e5 lo a0 a1 a2 a3 a4 hm => hi_pB_116 hm hp (fun j j0 j1 => hT j j0 (by omega)) hu (by omega) 6 _ lo (by decide) (by decide) a0 a1 a2 a3 a4)
        (fun q1 x12 e13 x14 e15 y16 e17 q18 hm => ⟨_, rfl, rfl, Or.inl rfl⟩)
        (fun q1 x12 e13 x14 e15 y16 e17 q18 x19 e20 x21 e22 y23 e24 q25 x26 e27 lo a0 a1 a2 a3 hm => by exfalso; omega)
        (fun q1 x12 e13 x14 e15 y16 e17 q18 x19 e20 x21 e22 y23 e24 q25 hm => ⟨_, rfl, rfl, Or.inl rfl⟩)
  | succ f ih =>
    intro k lo hk h0 h9 hT a0 a1 a2 a3
    exact w_hipB_53 hm a0 a1 a2 a3 hp ⟨h0, h9⟩ hu
        (fun q1 x2 e3 x4 e5 lo a0 a1 a2 a3 a4 hm => hi_pB_116 hm hp (fun j j0 j1 => hT j j0 (by omega)) hu (by omega) 6 _ lo (by decide) (by decide) a0 a1 a2 a3 a4)
        (fun q1 x12 e13 x14 e15 y16 e17 q18 hm => ⟨_, rfl, rfl, Or.inl rfl⟩)
        (fun q1 x12 e13 x14 e15 y16 e17 q18 x19 e20 x21 e22 y23 e24 q25 x26 e27 lo a0 a1 a2 a3 hm => ih _ lo (by omega) (by omega) (by omega) (fun j j0 j1 => by
          by_cases q : j = k.toInt
          · subst q; omega
          · exact hT j j0 (by omega)) a0 a1 a2 a3)
        (fun q1 x12 e13 x14 e15 y16 e17 q18 x19 e20 x21 e22 y23 e24 q25 hm => ⟨_, rfl, rfl, Or.inl rfl⟩)
set_option maxRecDepth 100000 in
theorem w_hipB_0 {d : Nat} {mem : zM} {P : Option Value → zM → Prop} {n : Int32} {lo : List (Nat × Value)} (hm : aTm aT0 mem) (l_0 : zlg lo 0 = some (.ref 0)) (l_1 : zlg lo 1 = some (.int n)) (hp : zfl mem 0 4 = some (.ref 14)) (h1 : ∀ (x1 : Int32), x1.toInt = (2 * (gi mem 14 7).toInt) → ∀ (x3 : Int32), x3.toInt = (2 + (2 * (gi mem 14 7).toInt)) → ∀ (x5 : Int32), x5.toInt = (2 * (gi mem 14 13).toInt) → ∀ (x7 : Int32), x7.toInt = ((2 + (2 * (gi mem 14 7).toInt)) + (2 * (gi mem 14 13).toInt)) → ∀ (x9 : Int32), x9.toInt = (((2 + (2 * (gi mem 14 7).toInt)) + (2 * (gi mem 14 13).toInt)) + 1) → (gi mem 14 1).toInt = 0 → aTm aT0 mem → P (some (.int 0)) mem) (h2 : ∀ (x1 : Int32), x1.toInt = (2 * (gi mem 14 7).toInt) → ∀ (x3 : Int32), x3.toInt = (2 + (2 * (gi mem 14 7).toInt)) → ∀ (x5 : Int32), x5.toInt = (2 * (gi mem 14 13).toInt) → ∀ (x7 : Int32), x7.toInt = ((2 + (2 * (gi mem 14 7).toInt)) + (2 * (gi mem 14 13).toInt)) → ∀ (x9 : Int32), x9.toInt = (((2 + (2 * (gi mem 14 7).toInt)) + (2 * (gi mem 14 13).toInt)) + 1) → ¬ (gi mem 14 1).toInt = 0 → ¬ (n).toInt = (((2 + (2 * (gi mem 14 7).toInt)) + (2 * (gi mem 14 13).toInt)) + 1) → aTm aT0 mem → P (some (.int 0)) mem) (h3 : ∀ (x1 : Int32), x1.toInt = (2 * (gi mem 14 7).toInt) → ∀ (x3 : Int32), x3.toInt = (2 + (2 * (gi mem 14 7).toInt)) → ∀ (x5 : Int32), x5.toInt = (2 * (gi mem 14 13).toInt) → ∀ (x7 : Int32), x7.toInt = ((2 + (2 * (gi mem 14 7).toInt)) + (2 * (gi mem 14 13).toInt)) → ∀ (x9 : Int32), x9.toInt = (((2 + (2 * (gi mem 14 7).toInt)) + (2 * (gi mem 14 13).toInt)) + 1) → ¬ (gi mem 14 1).toInt = 0 → (n).toInt = (((2 + (2 * (gi mem 14 7).toInt)) + (2 * (gi mem 14 13).toInt)) + 1) → ∀ (y16 : Int32), y16.toInt = (gn (ga mem 1) 0) → ∀ (y18 : Int32), y18.toInt = (gn (ga mem 1) 1) → ((y16 * 256) + y18).toInt ≤ 999 → ∀ lo, zlg lo 0 = some (.ref 0) → zlg lo 1 = some (.int n) → zlg lo 2 = some (.int x9) → zlg lo 3 = some (.int 0) → aTm aT0 mem → yR zpg tX11_holdsImage (d + 2) (53, lo, [], mem) P) (h4 : ∀ (x1 : Int32), x1.toInt = (2 * (gi mem 14 7).toInt) → ∀ (x3 : Int32), x3.toInt = (2 + (2 * (gi mem 14 7).toInt)) → ∀ (x5 : Int32), x5.toInt = (2 * (gi mem 14 13).toInt) → ∀ (x7 : Int32), x7.toInt = ((2 + (2 * (gi mem 14 7).toInt)) + (2 * (gi mem 14 13).toInt)) → ∀ (x9 : Int32), x9.toInt = (((2 + (2 * (gi mem 14 7).toInt)) + (2 * (gi mem 14 13).toInt)) + 1) → ¬ (gi mem 14 1).toInt = 0 → (n).toInt = (((2 + (2 * (gi mem 14 7).toInt)) + (2 * (gi mem 14 13).toInt)) + 1) → ∀ (y16 : Int32), y16.toInt = (gn (ga mem 1) 0) → ∀ (y18 : Int32), y18.toInt = (gn (ga mem 1) 1) → 999 < ((y16 * 256) + y18).toInt → aTm aT0 mem → P (some (.int 0)) mem) : yR zpg tX11_holdsImage (d + 2) (0, lo, [], mem) P := by
  have r7 := pB_r7 hm
  have r13 := pB_r13 hm
  refine yR_m 2 (fun _ _ _ _ => rfl) ?_
  refine wR_la rfl l_0 ?_
  refine wR_gq rfl cO_e hm hp ?_
  refine wR_gi rfl pB_e pB_7 hm rfl ?_
  refine wN_mul (a := 2) (b := (gi mem 14 7).toInt) rfl rfl rfl (by omega) (fun x1 e2 => ?_)
  refine wN_add (a := 2) (b := (2 * (gi mem 14 7).toInt)) rfl rfl e2 (by omega) (fun x3 e4 => ?_)
  refine yR_m 1 (fun _ _ _ _ => rfl) ?_
  refine wR_la rfl l_0 ?_
  refine wR_gq rfl cO_e hm hp ?_
  refine wR_gi rfl pB_e pB_13 hm rfl ?_
  refine wN_mul (a := 2) (b := (gi mem 14 13).toInt) rfl rfl rfl (by omega) (fun x5 e6 => ?_)
  refine wN_add (a := (2 + (2 * (gi mem 14 7).toInt))) (b := (2 * (gi mem 14 13).toInt)) rfl e4 e6 (by omega) (fun x7 e8 => ?_)
  refine yR_m 1 (fun _ _ _ _ => rfl) ?_
  refine wN_add (a := ((2 + (2 * (gi mem 14 7).toInt)) + (2 * (gi mem 14 13).toInt))) (b := 1) rfl e8 rfl (by omega) (fun x9 e10 => ?_)
  refine wR_si rfl rfl (fun lo11 e12 f13 => ?_)
  have lo11_0 := f13 0 _ (by decide) (Or.inl rfl) l_0
  have lo11_1 := f13 1 _ (by decide) (Or.inl rfl) l_1
  refine wR_la rfl lo11_0 ?_
  refine wR_gq rfl cO_e hm hp ?_
  refine wR_gi rfl pB_e pB_1 hm rfl ?_
  refine wR_if_eq rfl (a := (gi mem 14 1).toInt) rfl (fun q14 => ?_) (fun q14 => ?_)
  ·
    refine yR_m 1 (fun _ _ _ _ => rfl) ?_
    exact yR_rz rfl ⟨by decide, by decide⟩ (h1 x1 e2 x3 e4 x5 e6 x7 e8 x9 e10 q14 hm)
  ·
    refine wR_li rfl lo11_1 ?_
    refine wR_li rfl e12 ?_
    refine wR_ic_ne rfl (a := (n).toInt) (c := (((2 + (2 * (gi mem 14 7).toInt)) + (2 * (gi mem 14 13).toInt)) + 1)) rfl e10 (fun q15 => ?_) (fun q15 => ?_)
    ·
      refine yR_m 1 (fun _ _ _ _ => rfl) ?_
      exact yR_rz rfl ⟨by decide, by decide⟩ (h2 x1 e2 x3 e4 x5 e6 x7 e8 x9 e10 q14 q15 hm)
    ·
      refine wR_la rfl lo11_0 ?_
      refine wR_iv rfl rfl cO_e hm rfl rfl rfl rfl ?_
      show yR zpg tX11_nightOnTape (d + 1) (0, [(0, .ref 0)], [], mem) _
      refine yR_m 1 (fun _ _ _ _ => rfl) ?_
      refine wR_gr rfl cO_e cO_0 hm ?_
      refine yR_m 1 (fun _ _ _ _ => rfl) ?_
      refine wN_al (a := 0) rfl aR_1 hm rfl rfl (by decide) (fun y16 e17 => ?_)
      refine yR_m 3 (fun _ _ _ _ => rfl) ?_
      refine wR_gr rfl cO_e cO_0 hm ?_
      refine yR_m 1 (fun _ _ _ _ => rfl) ?_
      refine wN_al (a := 1) rfl aR_1 hm rfl rfl (by decide) (fun y18 e19 => ?_)
      refine yR_m 1 (fun _ _ _ _ => rfl) ?_
      refine yR_ri rfl ?_
      show yR zpg tX11_holdsImage (d + 2) (43, lo11, [.int ((y16 * 256) + y18)], mem) _
      refine yR_m 1 (fun _ _ _ _ => rfl) ?_
      refine wR_ic_le rfl (a := ((y16 * 256) + y18).toInt) (c := 999) rfl rfl (fun q20 => ?_) (fun q20 => ?_)
      ·
        refine yR_m 1 (fun _ _ _ _ => rfl) ?_
        refine wR_si rfl rfl (fun lo21 e22 f23 => ?_)
        have lo21_2 := f23 2 _ (by decide) (Or.inl rfl) e12
        have lo21_0 := f23 0 _ (by decide) (Or.inl rfl) lo11_0
        have lo21_1 := f23 1 _ (by decide) (Or.inl rfl) lo11_1
        exact h3 x1 e2 x3 e4 x5 e6 x7 e8 x9 e10 q14 q15 y16 e17 y18 e19 q20 lo21 lo21_0 lo21_1 lo21_2 e22 hm
      ·
        refine yR_m 1 (fun _ _ _ _ => rfl) ?_
        exact yR_rz rfl ⟨by decide, by decide⟩ (h4 x1 e2 x3 e4 x5 e6 x7 e8 x9 e10 q14 q15 y16 e17 y18 e19 q20 hm)

theorem h_holds_pB {n : Int32} (hm : aTm aT0 mem) (hp : zfl mem 0 4 = some (.ref 14)) (hd : 3 ≤ d) : yC zpg d 157 [.ref 0, .int n] mem (hiP 14 mem) := by
  obtain ⟨d, rfl⟩ : ∃ q, d = q + 3 := ⟨d - 3, by omega⟩
  have r7 := pB_r7 hm
  have r13 := pB_r13 hm
  refine yC_of (t := tX11_holdsImage) rfl rfl ?_
  exact w_hipB_0 hm rfl rfl hp
        (fun x1 e2 x3 e4 x5 e6 x7 e8 x9 e10 q14 hm => ⟨_, rfl, rfl, Or.inl rfl⟩)
        (fun x1 e2 x3 e4 x5 e6 x7 e8 x9 e10 q14 q15 hm => ⟨_, rfl, rfl, Or.inl rfl⟩)
        (fun x1 e2 x3 e4 x5 e6 x7 e8 x9 e10 q14 q15 y16 e17 y18 e19 q20 lo a0 a1 a2 a3 hm => hi_pB_53 hm hp (by omega) 9 _ lo (by show (gi _ _ _).toInt ≤ 0 + 9; omega) (by decide) (by decide) (fun j j0 j1 => by exfalso; have e : Int32.toInt 0 = 0 := rfl; omega) a0 a1 a2 a3)
        (fun x1 e2 x3 e4 x5 e6 x7 e8 x9 e10 q14 q15 y16 e17 y18 e19 q20 hm => ⟨_, rfl, rfl, Or.inl rfl⟩)
set_option maxRecDepth 100000 in
theorem w_onpB_114 {d : Nat} {mem : zM} {P : Option Value → zM → Prop} {g k : Int32} {lo : List (Nat × Value)} (hm : aTm aT0 mem) (l_0 : zlg lo 0 = some (.ref 0)) (l_2 : zlg lo 2 = some (.int g)) (l_3 : zlg lo 3 = some (.int k)) (hp : zfl mem 0 4 = some (.ref 14)) (hk : 0 ≤ k.toInt ∧ k.toInt ≤ 6) (hg : 0 ≤ g.toInt ∧ g.toInt ≤ 20) (h1 : (gi mem 14 13).toInt ≤ (k).toInt → aTm aT0 (si (si mem 34 3 0) 38 3 0) → P (some (.int 1)) (si (si mem 34 3 0) 38 3 0)) (h2 : (k).toInt < (gi mem 14 13).toInt → ∀ (x2 : Int32), x2.toInt = (2 * (k).toInt) → ∀ (x4 : Int32), x4.toInt = ((g).toInt + (2 * (k).toInt)) → ∀ (y6 : Int32), y6.toInt = (gn (ga mem 1) ((g).toInt + (2 * (k).toInt))) → ∀ (x8 : Int32), x8.toInt = (2 * (k).toInt) → ∀ (x10 : Int32), x10.toInt = ((g).toInt + (2 * (k).toInt)) → ∀ (x12 : Int32), x12.toInt = (((g).toInt + (2 * (k).toInt)) + 1) → ∀ (y14 : Int32), y14.toInt = (gn (ga mem 1) (((g).toInt + (2 * (k).toInt)) + 1)) → ∀ (x16 : Int32), x16.toInt = ((k).toInt + 1) → ∀ lo, zlg lo 0 = some (.ref 0) → zlg lo 2 = some (.int g) → zlg lo 3 = some (.int x16) → aTm aT0 (sx mem 33 k ((y14 * 8) + y6)) → yR zpg tX11_on (d + 4) (114, lo, [], (sx mem 33 k ((y14 * 8) + y6))) P) : yR zpg tX11_on (d + 4) (114, lo, [], mem) P := by
  have r7 := pB_r7 hm
  have r13 := pB_r13 hm
  refine wR_li rfl l_3 ?_
  refine wR_la rfl l_0 ?_
  refine wR_gq rfl cO_e hm hp ?_
  refine wR_gi rfl pB_e pB_13 hm rfl ?_
  refine wR_ic_ge rfl (a := (k).toInt) (c := (gi mem 14 13).toInt) rfl rfl (fun q1 => ?_) (fun q1 => ?_)
  ·
    refine wR_la rfl l_0 ?_
    refine wR_iv rfl rfl cO_e hm rfl rfl rfl rfl ?_
    show yR zpg tX11_forgetActs (d + 3) (0, [(0, .ref 0)], [], mem) _
    refine yR_m 1 (fun _ _ _ _ => rfl) ?_
    refine wR_gr rfl cO_e cO_8 hm ?_
    refine yR_m 1 (fun _ _ _ _ => rfl) ?_
    refine wR_pi rfl wO_e wO_3 hm rfl ?_
    have hm_1 : aTm aT0 (si mem 34 3 0) := tm_si wO_e wO_3 hm (by decide)
    refine yR_m 1 (fun _ _ _ _ => rfl) ?_
    refine wR_gr rfl cO_e cO_9 hm_1 ?_
    refine yR_m 1 (fun _ _ _ _ => rfl) ?_
    refine wR_pi rfl uO_e uO_3 hm_1 rfl ?_
    have hm_2 : aTm aT0 (si (si mem 34 3 0) 38 3 0) := tm_si uO_e uO_3 hm_1 (by decide)
    refine yR_rv rfl ?_
    show yR zpg tX11_on (d + 4) (169, lo, [], (si (si mem 34 3 0) 38 3 0)) _
    refine yR_m 1 (fun _ _ _ _ => rfl) ?_
    exact yR_rz rfl ⟨by decide, by decide⟩ (h1 q1 hm_2)
  ·
    refine wR_la rfl l_0 ?_
    refine wR_gr rfl cO_e cO_7 hm ?_
    refine wR_gr rfl nO_e nO_3 hm ?_
    refine wR_li rfl l_3 ?_
    refine wR_la rfl l_0 ?_
    refine wR_gr rfl cO_e cO_0 hm ?_
    refine wR_li rfl l_2 ?_
    refine yR_m 1 (fun _ _ _ _ => rfl) ?_
    refine wR_li rfl l_3 ?_
    refine wN_mul (a := 2) (b := (k).toInt) rfl rfl rfl (by omega) (fun x2 e3 => ?_)
    refine wN_add (a := (g).toInt) (b := (2 * (k).toInt)) rfl rfl e3 (by omega) (fun x4 e5 => ?_)
    refine wN_al (a := ((g).toInt + (2 * (k).toInt))) rfl aR_1 hm rfl e5 (by omega) (fun y6 e7 => ?_)
    refine wR_la rfl l_0 ?_
    refine wR_gr rfl cO_e cO_0 hm ?_
    refine wR_li rfl l_2 ?_
    refine yR_m 1 (fun _ _ _ _ => rfl) ?_
    refine wR_li rfl l_3 ?_
    refine wN_mul (a := 2) (b := (k).toInt) rfl rfl rfl (by omega) (fun x8 e9 => ?_)
    refine wN_add (a := (g).toInt) (b := (2 * (k).toInt)) rfl rfl e9 (by omega) (fun x10 e11 => ?_)
    refine yR_m 1 (fun _ _ _ _ => rfl) ?_
    refine wN_add (a := ((g).toInt + (2 * (k).toInt))) (b := 1) rfl e11 rfl (by omega) (fun x12 e13 => ?_)
    refine wN_al (a := (((g).toInt + (2 * (k).toInt)) + 1)) rfl aR_1 hm rfl e13 (by omega) (fun y14 e15 => ?_)
    refine wR_is rfl rfl rfl rfl rfl rfl ?_
    show yR zpg tX11_placeOf (d + 3) (0, [(0, .int y6), (1, .int y14)], [], mem) _
    refine yR_m 5 (fun _ _ _ _ => rfl) ?_
    refine yR_ri rfl ?_
    show yR zpg tX11_on (d + 4) (158, lo, [.int ((y14 * 8) + y6), .int k, .ref 33], mem) _
    refine wN_as (a := (k).toInt) rfl aR_33 hm rfl (by omega) ?_
    have hm_3 : aTm aT0 (sx mem 33 k ((y14 * 8) + y6)) := tm_sa aR_33 hm (i32_b _)
    refine wN_in (a := (k).toInt) (b := 1) rfl rfl l_3 rfl rfl (by omega) (fun x16 e17 => fun lo18 e19 f20 => ?_)
    have lo18_0 := f20 0 _ (by decide) (Or.inl rfl) l_0
    have lo18_2 := f20 2 _ (by decide) (Or.inl rfl) l_2
    exact yR_m 1 (fun _ _ _ _ => rfl) (h2 q1 x2 e3 x4 e5 y6 e7 x8 e9 x10 e11 x12 e13 y14 e15 x16 e17 lo18 lo18_0 lo18_2 e19 hm_3)

theorem on_pB_114 {g : Int32} (hg : 0 ≤ g.toInt ∧ g.toInt ≤ 20) : ∀ (f : Nat) (mem : zM) (k : Int32) (lo : List (Nat × Value)), (gi mem 14 13).toInt ≤ k.toInt + (f : Int) → 0 ≤ k.toInt ∧ k.toInt ≤ 6 → aTm aT0 mem → zfl mem 0 4 = some (.ref 14) → frK mr mem → zlg lo 0 = some (.ref 0) → zlg lo 2 = some (.int g) → zlg lo 3 = some (.int k) → yR zpg tX11_on (d + 4) (114, lo, [], mem) (onP mr) := by
  intro f
  induction f with
  | zero =>
    intro mem k lo hk h0 hm hp hf a0 a2 a3
    have r13 := pB_r13 hm
    exact w_onpB_114 hm a0 a2 a3 hp h0 hg
        (fun q1 hm => ⟨⟨_, rfl⟩, hm, frK_sv (by decide) (frK_sv (by decide) (hf))⟩)
        (fun q1 x2 e3 x4 e5 y6 e7 x8 e9 x10 e11 x12 e13 y14 e15 x16 e17 lo a0 a2 a3 hm => by exfalso; omega)
  | succ f ih =>
    intro mem k lo hk h0 hm hp hf a0 a2 a3
    have r13 := pB_r13 hm
    exact w_onpB_114 hm a0 a2 a3 hp h0 hg
        (fun q1 hm => ⟨⟨_, rfl⟩, hm, frK_sv (by decide) (frK_sv (by decide) (hf))⟩)
        (fun q1 x2 e3 x4 e5 y6 e7 x8 e9 x10 e11 x12 e13 y14 e15 x16 e17 lo a0 a2 a3 hm => ih _ _ lo (by rw [(gi_sa)]; omega) (by omega) hm (zfl_sa.trans hp) (frK_sa (by decide) (hf)) a0 a2 a3)
set_option maxRecDepth 100000 in
theorem w_onpB_40 {d : Nat} {mem : zM} {P : Option Value → zM → Prop} {k : Int32} {lo : List (Nat × Value)} (hm : aTm aT0 mem) (l_0 : zlg lo 0 = some (.ref 0)) (l_2 : zlg lo 2 = some (.int k)) (hp : zfl mem 0 4 = some (.ref 14)) (hk : 0 ≤ k.toInt ∧ k.toInt ≤ 9) (h1 : (gi mem 14 7).toInt ≤ (k).toInt → ∀ (x2 : Int32), x2.toInt = (2 * (gi mem 14 7).toInt) → ∀ (x4 : Int32), x4.toInt = (2 + (2 * (gi mem 14 7).toInt)) → ∀ lo, zlg lo 0 = some (.ref 0) → zlg lo 2 = some (.int x4) → zlg lo 3 = some (.int 0) → aTm aT0 mem → yR zpg tX11_on (d + 4) (114, lo, [], mem) P) (s1 : (k).toInt < (gi mem 14 7).toInt → ∀ (x12 : Int32), x12.toInt = (2 * (k).toInt) → ∀ (x14 : Int32), x14.toInt = (2 + (2 * (k).toInt)) → ∀ (y16 : Int32), y16.toInt = (gn (ga mem 1) (2 + (2 * (k).toInt))) → (0 : Int) ≤ ((gi mem 31 1) ||| (y16 <<< (k &&& 31))).toInt ∧ ((gi mem 31 1) ||| (y16 <<< (k &&& 31))).toInt ≤ 511) (h2 : (k).toInt < (gi mem 14 7).toInt → ∀ (x12 : Int32), x12.toInt = (2 * (k).toInt) → ∀ (x14 : Int32), x14.toInt = (2 + (2 * (k).toInt)) → ∀ (y16 : Int32), y16.toInt = (gn (ga mem 1) (2 + (2 * (k).toInt))) → ∀ (x18 : Int32), x18.toInt = (2 * (k).toInt) → ∀ (x20 : Int32), x20.toInt = (3 + (2 * (k).toInt)) → ∀ (y22 : Int32), y22.toInt = (gn (ga mem 1) (3 + (2 * (k).toInt))) → ∀ (x24 : Int32), x24.toInt = ((k).toInt + 1) → ∀ lo, zlg lo 0 = some (.ref 0) → zlg lo 2 = some (.int x24) → aTm aT0 (sx (si mem 31 1 ((gi mem 31 1) ||| (y16 <<< (k &&& 31)))) 32 k y22) → yR zpg tX11_on (d + 4) (40, lo, [], (sx (si mem 31 1 ((gi mem 31 1) ||| (y16 <<< (k &&& 31)))) 32 k y22)) P) : yR zpg tX11_on (d + 4) (40, lo, [], mem) P := by
  have r7 := pB_r7 hm
  have r13 := pB_r13 hm
  refine wR_li rfl l_2 ?_
  refine wR_la rfl l_0 ?_
  refine wR_gq rfl cO_e hm hp ?_
  refine wR_gi rfl pB_e pB_7 hm rfl ?_
  refine wR_ic_ge rfl (a := (k).toInt) (c := (gi mem 14 7).toInt) rfl rfl (fun q1 => ?_) (fun q1 => ?_)
  ·
    refine yR_m 2 (fun _ _ _ _ => rfl) ?_
    refine wR_la rfl l_0 ?_
    refine wR_gq rfl cO_e hm hp ?_
    refine wR_gi rfl pB_e pB_7 hm rfl ?_
    refine wN_mul (a := 2) (b := (gi mem 14 7).toInt) rfl rfl rfl (by omega) (fun x2 e3 => ?_)
    refine wN_add (a := 2) (b := (2 * (gi mem 14 7).toInt)) rfl rfl e3 (by omega) (fun x4 e5 => ?_)
    refine wR_si rfl rfl (fun lo6 e7 f8 => ?_)
    have lo6_0 := f8 0 _ (by decide) (Or.inl rfl) l_0
    refine yR_m 1 (fun _ _ _ _ => rfl) ?_
    refine wR_si rfl rfl (fun lo9 e10 f11 => ?_)
    have lo9_2 := f11 2 _ (by decide) (Or.inl rfl) e7
    have lo9_0 := f11 0 _ (by decide) (Or.inl rfl) lo6_0
    exact h1 q1 x2 e3 x4 e5 lo9 lo9_0 lo9_2 e10 hm
  ·
    refine wR_la rfl l_0 ?_
    refine wR_gr rfl cO_e cO_7 hm ?_
    refine yR_m 1 (fun _ _ _ _ => rfl) ?_
    refine wR_gi rfl nO_e nO_1 hm rfl ?_
    refine wR_la rfl l_0 ?_
    refine wR_gr rfl cO_e cO_0 hm ?_
    refine yR_m 2 (fun _ _ _ _ => rfl) ?_
    refine wR_li rfl l_2 ?_
    refine wN_mul (a := 2) (b := (k).toInt) rfl rfl rfl (by omega) (fun x12 e13 => ?_)
    refine wN_add (a := 2) (b := (2 * (k).toInt)) rfl rfl e13 (by omega) (fun x14 e15 => ?_)
    refine wN_al (a := (2 + (2 * (k).toInt))) rfl aR_1 hm rfl e15 (by omega) (fun y16 e17 => ?_)
    refine wR_li rfl l_2 ?_
    refine yR_m 2 (fun _ _ _ _ => rfl) ?_
    refine wR_pi rfl nO_e nO_1 hm rfl ?_
    have hm_1 : aTm aT0 (si mem 31 1 ((gi mem 31 1) ||| (y16 <<< (k &&& 31)))) := tm_si nO_e nO_1 hm (s1 q1 x12 e13 x14 e15 y16 e17)
    refine wR_la rfl l_0 ?_
    refine wR_gr rfl cO_e cO_7 hm_1 ?_
    refine wR_gr rfl nO_e nO_2 hm_1 ?_
    refine wR_li rfl l_2 ?_
    refine wR_la rfl l_0 ?_
    refine wR_gr rfl cO_e cO_0 hm_1 ?_
    refine yR_m 2 (fun _ _ _ _ => rfl) ?_
    refine wR_li rfl l_2 ?_
    refine wN_mul (a := 2) (b := (k).toInt) rfl rfl rfl (by omega) (fun x18 e19 => ?_)
    refine wN_add (a := 3) (b := (2 * (k).toInt)) rfl rfl e19 (by omega) (fun x20 e21 => ?_)
    refine wN_al (a := (3 + (2 * (k).toInt))) rfl aR_1 hm_1 (ga_sv) e21 (by omega) (fun y22 e23 => ?_)
    refine wN_as (a := (k).toInt) rfl aR_32 hm_1 rfl (by omega) ?_
    have hm_2 : aTm aT0 (sx (si mem 31 1 ((gi mem 31 1) ||| (y16 <<< (k &&& 31)))) 32 k y22) := tm_sa aR_32 hm_1 (i32_b _)
    refine wN_in (a := (k).toInt) (b := 1) rfl rfl l_2 rfl rfl (by omega) (fun x24 e25 => fun lo26 e27 f28 => ?_)
    have lo26_0 := f28 0 _ (by decide) (Or.inl rfl) l_0
    exact yR_m 1 (fun _ _ _ _ => rfl) (h2 q1 x12 e13 x14 e15 y16 e17 x18 e19 x20 e21 y22 e23 x24 e25 lo26 lo26_0 e27 hm_2)

theorem on_pB_40 : ∀ (f : Nat) (mem : zM) (k : Int32) (lo : List (Nat × Value)), (gi mem 14 7).toInt ≤ k.toInt + (f : Int) → 0 ≤ k.toInt → k.toInt ≤ (gi mem 14 7).toInt → aTm aT0 mem → zfl mem 0 4 = some (.ref 14) → hiT 14 mem → frK mr mem → zlg lo 0 = some (.ref 0) → zlg lo 2 = some (.int k) → yR zpg tX11_on (d + 4) (40, lo, [], mem) (onP mr) := by
  intro f
  induction f with
  | zero =>
    intro mem k lo hk h0 h9 hm hp hT hf a0 a2
    have r7 := pB_r7 hm
    exact w_onpB_40 hm a0 a2 hp ⟨h0, by omega⟩
        (fun q1 x2 e3 x4 e5 lo a0 a2 a3 hm => on_pB_114 (by omega) 6 _ _ lo (by have := pB_r13 hm; show (gi _ _ _).toInt ≤ 0 + 6; omega) (by decide) hm hp (hf) a0 a2 a3)
        (fun q1 x12 e13 x14 e15 y16 e17 => by
          have r1 := nO_r1 hm
          have t1 := hT k.toInt h0 (by omega)
          have t0 := gR_1 hm (i := 2 + 2 * k.toInt) (by omega) (by omega)
          exact or_rg (by omega) (by omega) (by omega) (by omega) (by omega) (by omega))
        (fun q1 x12 e13 x14 e15 y16 e17 x18 e19 x20 e21 y22 e23 x24 e25 lo a0 a2 hm => by exfalso; omega)
  | succ f ih =>
    intro mem k lo hk h0 h9 hm hp hT hf a0 a2
    have r7 := pB_r7 hm
    exact w_onpB_40 hm a0 a2 hp ⟨h0, by omega⟩
        (fun q1 x2 e3 x4 e5 lo a0 a2 a3 hm => on_pB_114 (by omega) 6 _ _ lo (by have := pB_r13 hm; show (gi _ _ _).toInt ≤ 0 + 6; omega) (by decide) hm hp (hf) a0 a2 a3)
        (fun q1 x12 e13 x14 e15 y16 e17 => by
          have r1 := nO_r1 hm
          have t1 := hT k.toInt h0 (by omega)
          have t0 := gR_1 hm (i := 2 + 2 * k.toInt) (by omega) (by omega)
          exact or_rg (by omega) (by omega) (by omega) (by omega) (by omega) (by omega))
        (fun q1 x12 e13 x14 e15 y16 e17 x18 e19 x20 e21 y22 e23 x24 e25 lo a0 a2 hm => ih _ _ lo (by rw [((gi_sa).trans (gi_sv_ne (by decide)))]; omega) (by omega) (by rw [((gi_sa).trans (gi_sv_ne (by decide)))]; omega) hm (zfl_sa.trans ((zfl_sv_ne (by decide)).trans hp)) (by unfold hiT; rw [((ga_sa_ne (by decide)).trans (ga_sv)), ((gi_sa).trans (gi_sv_ne (by decide)))]; exact hT) (frK_sa (by decide) (frK_sv (by decide) (hf))) a0 a2)
set_option maxRecDepth 100000 in
theorem w_onpB_0 {d : Nat} {mem : zM} {P : Option Value → zM → Prop} {lo : List (Nat × Value)} (hm : aTm aT0 mem) (l_0 : zlg lo 0 = some (.ref 0)) (hp : zfl mem 0 4 = some (.ref 14)) (h1 : ∀ (v4 : Int32), (v4.toInt = 0 ∨ (v4.toInt = 1 ∧ hiT 14 (si mem 0 1 0))) → ¬ (v4).toInt = 0 → ∀ (y7 : Int32), y7.toInt = (gn (ga mem 1) 0) → ∀ (y9 : Int32), y9.toInt = (gn (ga mem 1) 1) → ∀ lo, zlg lo 0 = some (.ref 0) → zlg lo 2 = some (.int 0) → aTm aT0 (si (si (si mem 0 1 0) 31 0 ((y7 * 256) + y9)) 31 1 0) → yR zpg tX11_on (d + 4) (40, lo, [], (si (si (si mem 0 1 0) 31 0 ((y7 * 256) + y9)) 31 1 0)) P) (h2 : ∀ (v4 : Int32), (v4.toInt = 0 ∨ (v4.toInt = 1 ∧ hiT 14 (si mem 0 1 0))) → (v4).toInt = 0 → ∀ (y14 : Int32), y14.toInt = (gn (ga mem 220) 5) → aTm aT0 (sx (si mem 0 1 0) 220 5 (y14 + 1)) → P (some (.int 0)) (sx (si mem 0 1 0) 220 5 (y14 + 1))) : yR zpg tX11_on (d + 4) (0, lo, [], mem) P := by
  have r7 := pB_r7 hm
  have r13 := pB_r13 hm
  refine wR_la rfl l_0 ?_
  refine wR_iv rfl rfl cO_e hm rfl rfl rfl rfl ?_
  show yR zpg tX11_takeTape (d + 3) (0, [(0, .ref 0)], [], mem) _
  refine yR_m 1 (fun _ _ _ _ => rfl) ?_
  refine wR_gi rfl cO_e cO_1 hm rfl ?_
  refine yR_m 3 (fun _ _ _ _ => rfl) ?_
  refine wR_pi rfl cO_e cO_1 hm rfl ?_
  have hm_1 : aTm aT0 (si mem 0 1 0) := tm_si cO_e cO_1 hm (by decide)
  refine yR_m 1 (fun _ _ _ _ => rfl) ?_
  refine yR_ri rfl ?_
  show yR zpg tX11_on (d + 4) (4, lo, [.int (gi mem 0 1)], (si mem 0 1 0)) _
  refine wR_si rfl rfl (fun lo1 e2 f3 => ?_)
  have lo1_0 := f3 0 _ (by decide) (Or.inl rfl) l_0
  refine wR_la rfl lo1_0 ?_
  refine wR_li rfl e2 ?_
  refine wR_cv rfl rfl cO_e hm_1 rfl (h_holds_pB hm_1 ((zfl_sv_ne (by decide)).trans hp) (by omega)) ?_
  rintro _ _ ⟨v4, rfl, rfl, k5⟩
  show yR zpg tX11_on (d + 4) (10, lo1, [.int v4], (si mem 0 1 0)) _
  refine wR_if_ne rfl (a := (v4).toInt) rfl (fun q6 => ?_) (fun q6 => ?_)
  ·
    refine wR_la rfl lo1_0 ?_
    refine wR_gr rfl cO_e cO_7 hm_1 ?_
    refine wR_la rfl lo1_0 ?_
    refine wR_iv rfl rfl cO_e hm_1 rfl rfl rfl rfl ?_
    show yR zpg tX11_nightOnTape (d + 3) (0, [(0, .ref 0)], [], (si mem 0 1 0)) _
    refine yR_m 1 (fun _ _ _ _ => rfl) ?_
    refine wR_gr rfl cO_e cO_0 hm_1 ?_
    refine yR_m 1 (fun _ _ _ _ => rfl) ?_
    refine wN_al (a := 0) rfl aR_1 hm_1 (ga_sv) rfl (by decide) (fun y7 e8 => ?_)
    refine yR_m 3 (fun _ _ _ _ => rfl) ?_
    refine wR_gr rfl cO_e cO_0 hm_1 ?_
    refine yR_m 1 (fun _ _ _ _ => rfl) ?_
    refine wN_al (a := 1) rfl aR_1 hm_1 (ga_sv) rfl (by decide) (fun y9 e10 => ?_)
    refine yR_m 1 (fun _ _ _ _ => rfl) ?_
    refine yR_ri rfl ?_
    show yR zpg tX11_on (d + 4) (27, lo1, [.int ((y7 * 256) + y9), .ref 31], (si mem 0 1 0)) _
    refine wR_pi rfl nO_e nO_0 hm_1 rfl ?_
    have hm_2 : aTm aT0 (si (si mem 0 1 0) 31 0 ((y7 * 256) + y9)) := tm_si nO_e nO_0 hm_1 (i32_b _)
    refine wR_la rfl lo1_0 ?_
    refine wR_gr rfl cO_e cO_7 hm_2 ?_
    refine yR_m 1 (fun _ _ _ _ => rfl) ?_
    refine wR_pi rfl nO_e nO_1 hm_2 rfl ?_
    have hm_3 : aTm aT0 (si (si (si mem 0 1 0) 31 0 ((y7 * 256) + y9)) 31 1 0) := tm_si nO_e nO_1 hm_2 (by decide)
    refine yR_m 1 (fun _ _ _ _ => rfl) ?_
    refine wR_si rfl rfl (fun lo11 e12 f13 => ?_)
    have lo11_1 := f13 1 _ (by decide) (Or.inl rfl) e2
    have lo11_0 := f13 0 _ (by decide) (Or.inl rfl) lo1_0
    exact h1 v4 k5 q6 y7 e8 y9 e10 lo11 lo11_0 e12 hm_3
  ·
    refine wR_la rfl lo1_0 ?_
    refine yR_m 1 (fun _ _ _ _ => rfl) ?_
    refine wR_iv rfl rfl cO_e hm_1 rfl rfl rfl rfl ?_
    show yR zpg tX11_refused (d + 3) (0, [(0, .ref 0), (1, .int 5)], [], (si mem 0 1 0)) _
    refine yR_m 1 (fun _ _ _ _ => rfl) ?_
    refine wR_gr rfl cO_e cO_14 hm_1 ?_
    refine yR_m 2 (fun _ _ _ _ => rfl) ?_
    refine wN_al (a := 5) rfl aR_220 hm_1 (ga_sv) rfl (by decide) (fun y14 e15 => ?_)
    refine yR_m 2 (fun _ _ _ _ => rfl) ?_
    refine wN_as (a := 5) rfl aR_220 hm_1 rfl (by decide) ?_
    have hm_4 : aTm aT0 (sx (si mem 0 1 0) 220 5 (y14 + 1)) := tm_sa aR_220 hm_1 (i32_b _)
    refine yR_m 1 (fun _ _ _ _ => rfl) ?_
    refine yR_rz rfl ⟨by decide, by decide⟩ ?_
    show yR zpg tX11_on (d + 4) (18, lo1, [.int 0], (sx (si mem 0 1 0) 220 5 (y14 + 1))) _
    exact yR_rz rfl ⟨by decide, by decide⟩ (h2 v4 k5 q6 y14 e15 hm_4)

theorem h_on_pB (hm : aTm aT0 mem) (hp : zfl mem 0 4 = some (.ref 14)) (hd : 5 ≤ d) : yC zpg d 142 [.ref 0] mem (onP (si mem 0 1 0)) := by
  obtain ⟨d, rfl⟩ : ∃ q, d = q + 5 := ⟨d - 5, by omega⟩
  refine yC_of (t := tX11_on) rfl rfl ?_
  exact w_onpB_0 hm rfl hp
        (fun v4 k5 q6 y7 e8 y9 e10 lo a0 a2 hm2 => by
          have hT : hiT 14 (si (si (si mem 0 1 0) 31 0 ((y7 * 256) + y9)) 31 1 0) := by
            rcases k5 with w | w
            · exfalso; omega
            · unfold hiT at w ⊢
              rw [((ga_sv).trans ((ga_sv).trans (ga_sv))), ((gi_sv_ne (by decide)).trans ((gi_sv_ne (by decide)).trans (gi_sv_ne (by decide))))]
              rw [ga_sv, gi_sv_ne (by decide)] at w
              exact w.2
          exact on_pB_40 9 _ _ lo (by have := pB_r7 hm2; show (gi _ _ _).toInt ≤ 0 + 9; omega) (by decide) (by have := pB_r7 hm2; show 0 ≤ (gi _ _ _).toInt; omega) hm2 ((zfl_sv_ne (by decide)).trans ((zfl_sv_ne (by decide)).trans ((zfl_sv_ne (by decide)).trans hp))) hT (frK_sv (by decide) (frK_sv (by decide) (frK_rf))) a0 a2)
        (fun v4 k5 q6 y14 e15 hm => ⟨⟨_, rfl⟩, hm, frK_sa (by decide) (frK_rf)⟩)
theorem h_on_c (hm : aTm aT0 mem) (hd : 5 ≤ d) : yC zpg d 142 [.ref 0] mem (onP (si mem 0 1 0)) := by
  obtain ⟨fs, h1, h2⟩ := aTm_o hm cO_e
  obtain ⟨x, h3, a, ha, h4⟩ := aTf_at h2 cO_4
  subst h4
  have hp : zfl mem 0 4 = some (.ref a) := by unfold zfl; rw [h1]; exact h3
  rcases List.mem_cons.mp ha with rfl | ha
  · exact h_on_pA hm hp hd
  · rw [List.mem_singleton] at ha
    subst ha
    exact h_on_pB hm hp hd
end CN
