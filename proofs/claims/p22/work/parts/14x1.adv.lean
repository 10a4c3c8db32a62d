/-! the class's Reader: numbers, advance -/
theorem dgv_b {T : List Int32} {b : Int} : ∀ k : Nat, (∀ i, b ≤ i → i < b + (k : Int) → dgt (gn T i)) → 0 ≤ dgv T b k ∧ dgv T b k < 10 ^ k
  | 0, _ => ⟨Int.le_refl 0, by show (0 : Int) < 1; decide⟩
  | k + 1, h => by
    have e := dgv_b k (fun i i0 i1 => h i i0 (by omega))
    have l := h (b + k) (by omega) (by omega)
    have l1 := l.1
    have l2 := l.2
    have e2 : dgv T b (k + 1) = 10 * dgv T b k + gn T (b + k) - 48 := rfl
    have e3 : (10 : Int) ^ (k + 1) = 10 ^ k * 10 := Int.pow_succ _ _
    omega
section RN
variable {d : Nat} {mr mem : zM} {T : List Int32} {n b : Int}
def rwP2 (mr : zM) (T : List Int32) (n b z : Int) (m : zM) : Prop := fo 27 [] [3, 4, 5, 7] mr m ∧ ∃ q, Rn ltr T n b q ∧ (((6 < q - b ∨ ¬ z = 0) ∧ (gi m 27 4).toInt = 5) ∨ (q - b ≤ 6 ∧ z = 0 ∧ (gi m 27 3).toInt = q ∧ cEw (lts T b (q - b).toNat) (gi m 27 4).toInt (gi m 27 5).toInt))
def rnP2 (mr : zM) (T : List Int32) (n b z : Int) (m : zM) : Prop := fo 27 [] [3, 4, 5, 7] mr m ∧ ∃ q, Rn dgt T n b q ∧ (((4 < q - b ∨ ¬ z = 0) ∧ (gi m 27 4).toInt = 5) ∨ (q - b ≤ 4 ∧ z = 0 ∧ (gi m 27 3).toInt = q ∧ (gi m 27 4).toInt = 3 ∧ (gi m 27 5).toInt = dgv T b (q - b).toNat))
def rnP (mr : zM) (T : List Int32) (n b z : Int) (r : Option Value) (m : zM) : Prop := r = none ∧ aTm aT0 m ∧ rnP2 mr T n b z m
set_option maxRecDepth 100000 in
theorem w_rn_100 {d : Nat} {mem : zM} {P : Option Value → zM → Prop} {z : Int32} {lo : List (Nat × Value)} (hm : aTm aT0 mem) (l_0 : zlg lo 0 = some (.ref 27)) (l_1 : zlg lo 1 = some (.int z)) (ht : zfl mem 27 1 = some (.ref 1)) (h1 : (z).toInt = 0 → aTm aT0 (si mem 27 4 3) → P none (si mem 27 4 3)) (h2 : ¬ (z).toInt = 0 → aTm aT0 (si mem 27 4 5) → P none (si mem 27 4 5)) : yR zpg tX5_readNumber d (100, lo, [], mem) P := by
  have r2 := rO_r2 hm
  have r3 := rO_r3 hm
  refine wR_la rfl l_0 ?_
  refine wR_li rfl l_1 ?_
  refine wR_if_eq rfl (a := (z).toInt) rfl (fun q1 => ?_) (fun q1 => ?_)
  ·
    refine yR_m 1 (fun _ _ _ _ => rfl) ?_
    refine wR_pi rfl rO_e rO_4 hm rfl ?_
    have hm_1 : aTm aT0 (si mem 27 4 3) := tm_si rO_e rO_4 hm (i32_b _)
    exact yR_rv rfl (h1 q1 hm_1)
  ·
    refine yR_m 2 (fun _ _ _ _ => rfl) ?_
    refine wR_pi rfl rO_e rO_4 hm rfl ?_
    have hm_2 : aTm aT0 (si mem 27 4 5) := tm_si rO_e rO_4 hm (i32_b _)
    exact yR_rv rfl (h2 q1 hm_2)

theorem rn_100 {q : Int} {z : Int32} {lo : List (Nat × Value)} (hq : Rn dgt T n b q) (hl : q - b ≤ 4) (hn : (gi mem 27 5).toInt = dgv T b (q - b).toNat) (hm : aTm aT0 mem) (ht : zfl mem 27 1 = some (.ref 1)) (hf : fo 27 [] [3, 4, 5, 7] mr mem) (hat : (gi mem 27 3).toInt = q) (a0 : zlg lo 0 = some (.ref 27)) (a1 : zlg lo 1 = some (.int z)) : yR zpg tX5_readNumber d (100, lo, [], mem) (rnP mr T n b z.toInt) := by
  exact w_rn_100 hm a0 a1 ht
        (fun q1 hm2 => ⟨rfl, hm2, fo_sv rfl (hf), q, hq, Or.inr ⟨hl, q1, by rw [(gi_sv_ne (by decide))]; exact hat, by rw [(gi_eqQ (isQ_of rO_e hm) rO_4)]; rfl, by rw [(gi_sv_ne (by decide))]; exact hn⟩⟩)
        (fun q1 hm2 => ⟨rfl, hm2, fo_sv rfl (hf), q, hq, Or.inl ⟨Or.inr q1, by rw [(gi_eqQ (isQ_of rO_e hm) rO_4)]; rfl⟩⟩)
set_option maxRecDepth 100000 in
theorem w_rn_2 {d : Nat} {mem : zM} {P : Option Value → zM → Prop} {z k : Int32} {lo : List (Nat × Value)} (hm : aTm aT0 mem) (l_0 : zlg lo 0 = some (.ref 27)) (l_1 : zlg lo 1 = some (.int z)) (l_2 : zlg lo 2 = some (.int k)) (ht : zfl mem 27 1 = some (.ref 1)) (hk : 0 ≤ k.toInt ∧ k.toInt ≤ 4) (hv : 0 ≤ (gi mem 27 5).toInt ∧ (gi mem 27 5).toInt ≤ 99999) (h1 : (gi mem 27 2).toInt ≤ (gi mem 27 3).toInt → ∀ lo, zlg lo 0 = some (.ref 27) → zlg lo 1 = some (.int z) → aTm aT0 mem → yR zpg tX5_readNumber d (100, lo, [], mem) P) (h2 : (gi mem 27 3).toInt < (gi mem 27 2).toInt → ∀ (y2 : Int32), y2.toInt = (gn (ga mem 1) (gi mem 27 3).toInt) → (gn (ga mem 1) (gi mem 27 3).toInt) < 48 → ∀ lo, zlg lo 0 = some (.ref 27) → zlg lo 1 = some (.int z) → aTm aT0 mem → yR zpg tX5_readNumber d (100, lo, [], mem) P) (h3 : (gi mem 27 3).toInt < (gi mem 27 2).toInt → ∀ (y2 : Int32), y2.toInt = (gn (ga mem 1) (gi mem 27 3).toInt) → 48 ≤ (gn (ga mem 1) (gi mem 27 3).toInt) → ∀ (y5 : Int32), y5.toInt = (gn (ga mem 1) (gi mem 27 3).toInt) → 57 < (gn (ga mem 1) (gi mem 27 3).toInt) → ∀ lo, zlg lo 0 = some (.ref 27) → zlg lo 1 = some (.int z) → aTm aT0 mem → yR zpg tX5_readNumber d (100, lo, [], mem) P) (h4 : (gi mem 27 3).toInt < (gi mem 27 2).toInt → ∀ (y2 : Int32), y2.toInt = (gn (ga mem 1) (gi mem 27 3).toInt) → 48 ≤ (gn (ga mem 1) (gi mem 27 3).toInt) → ∀ (y5 : Int32), y5.toInt = (gn (ga mem 1) (gi mem 27 3).toInt) → (gn (ga mem 1) (gi mem 27 3).toInt) ≤ 57 → ¬ (k).toInt = 4 → ∀ (x9 : Int32), x9.toInt = (10 * (gi mem 27 5).toInt) → ∀ (y11 : Int32), y11.toInt = (gn (ga mem 1) (gi mem 27 3).toInt) → ∀ (x13 : Int32), x13.toInt = ((10 * (gi mem 27 5).toInt) + (gn (ga mem 1) (gi mem 27 3).toInt)) → ∀ (x15 : Int32), x15.toInt = (((10 * (gi mem 27 5).toInt) + (gn (ga mem 1) (gi mem 27 3).toInt)) - 48) → ∀ (x17 : Int32), x17.toInt = ((gi mem 27 3).toInt + 1) → ∀ (x19 : Int32), x19.toInt = ((k).toInt + 1) → ∀ lo, zlg lo 0 = some (.ref 27) → zlg lo 1 = some (.int z) → zlg lo 2 = some (.int x19) → aTm aT0 (si (si mem 27 5 x15) 27 3 x17) → yR zpg tX5_readNumber d (2, lo, [], (si (si mem 27 5 x15) 27 3 x17)) P) (h5 : (gi mem 27 3).toInt < (gi mem 27 2).toInt → ∀ (y2 : Int32), y2.toInt = (gn (ga mem 1) (gi mem 27 3).toInt) → 48 ≤ (gn (ga mem 1) (gi mem 27 3).toInt) → ∀ (y5 : Int32), y5.toInt = (gn (ga mem 1) (gi mem 27 3).toInt) → (gn (ga mem 1) (gi mem 27 3).toInt) ≤ 57 → (k).toInt = 4 → aTm aT0 (si (si mem 27 4 5) 27 7 (gi mem 27 3)) → P none (si (si mem 27 4 5) 27 7 (gi mem 27 3))) : yR zpg tX5_readNumber d (2, lo, [], mem) P := by
  have r2 := rO_r2 hm
  have r3 := rO_r3 hm
  refine wR_la rfl l_0 ?_
  refine wR_gi rfl rO_e rO_3 hm rfl ?_
  refine wR_la rfl l_0 ?_
  refine wR_gi rfl rO_e rO_2 hm rfl ?_
  refine wR_ic_ge rfl (a := (gi mem 27 3).toInt) (c := (gi mem 27 2).toInt) rfl rfl (fun q1 => ?_) (fun q1 => ?_)
  ·
    exact h1 q1 lo l_0 l_1 hm
  ·
    refine wR_la rfl l_0 ?_
    refine wR_gq rfl rO_e hm ht ?_
    refine wR_la rfl l_0 ?_
    refine wR_gi rfl rO_e rO_3 hm rfl ?_
    refine wN_al (a := (gi mem 27 3).toInt) rfl aR_1 hm rfl rfl (by omega) (fun y2 e3 => ?_)
    refine yR_m 1 (fun _ _ _ _ => rfl) ?_
    refine wR_ic_lt rfl (a := (gn (ga mem 1) (gi mem 27 3).toInt)) (c := 48) e3 rfl (fun q4 => ?_) (fun q4 => ?_)
    ·
      exact h2 q1 y2 e3 q4 lo l_0 l_1 hm
    ·
      refine wR_la rfl l_0 ?_
      refine wR_gq rfl rO_e hm ht ?_
      refine wR_la rfl l_0 ?_
      refine wR_gi rfl rO_e rO_3 hm rfl ?_
      refine wN_al (a := (gi mem 27 3).toInt) rfl aR_1 hm rfl rfl (by omega) (fun y5 e6 => ?_)
      refine yR_m 1 (fun _ _ _ _ => rfl) ?_
      refine wR_ic_gt rfl (a := (gn (ga mem 1) (gi mem 27 3).toInt)) (c := 57) e6 rfl (fun q7 => ?_) (fun q7 => ?_)
      ·
        exact h3 q1 y2 e3 q4 y5 e6 q7 lo l_0 l_1 hm
      ·
        refine wR_li rfl l_2 ?_
        refine yR_m 1 (fun _ _ _ _ => rfl) ?_
        refine wR_ic_ne rfl (a := (k).toInt) (c := 4) rfl rfl (fun q8 => ?_) (fun q8 => ?_)
        ·
          refine wR_la rfl l_0 ?_
          refine yR_m 1 (fun _ _ _ _ => rfl) ?_
          refine wR_la rfl l_0 ?_
          refine wR_gi rfl rO_e rO_5 hm rfl ?_
          refine wN_mul (a := 10) (b := (gi mem 27 5).toInt) rfl rfl rfl (by omega) (fun x9 e10 => ?_)
          refine wR_la rfl l_0 ?_
          refine wR_gq rfl rO_e hm ht ?_
          refine wR_la rfl l_0 ?_
          refine wR_gi rfl rO_e rO_3 hm rfl ?_
          refine wN_al (a := (gi mem 27 3).toInt) rfl aR_1 hm rfl rfl (by omega) (fun y11 e12 => ?_)
          refine wN_add (a := (10 * (gi mem 27 5).toInt)) (b := (gn (ga mem 1) (gi mem 27 3).toInt)) rfl e10 e12 (by omega) (fun x13 e14 => ?_)
          refine yR_m 1 (fun _ _ _ _ => rfl) ?_
          refine wN_sub (a := ((10 * (gi mem 27 5).toInt) + (gn (ga mem 1) (gi mem 27 3).toInt))) (b := 48) rfl e14 rfl (by omega) (fun x15 e16 => ?_)
          refine wR_pi rfl rO_e rO_5 hm rfl ?_
          have hm_1 : aTm aT0 (si mem 27 5 x15) := tm_si rO_e rO_5 hm (i32_b _)
          refine wR_la rfl l_0 ?_
          refine yR_m 1 (fun _ _ _ _ => rfl) ?_
          refine wR_gi rfl rO_e rO_3 hm_1 (gi_sv_ne (by decide)) ?_
          refine yR_m 1 (fun _ _ _ _ => rfl) ?_
          refine wN_add (a := (gi mem 27 3).toInt) (b := 1) rfl rfl rfl (by omega) (fun x17 e18 => ?_)
          refine wR_pi rfl rO_e rO_3 hm_1 rfl ?_
          have hm_2 : aTm aT0 (si (si mem 27 5 x15) 27 3 x17) := tm_si rO_e rO_3 hm_1 (by rw [e18]; exact (by omega))
          refine wN_in (a := (k).toInt) (b := 1) rfl rfl l_2 rfl rfl (by omega) (fun x19 e20 => fun lo21 e22 f23 => ?_)
          have lo21_0 := f23 0 _ (by decide) (Or.inl rfl) l_0
          have lo21_1 := f23 1 _ (by decide) (Or.inl rfl) l_1
          exact yR_m 1 (fun _ _ _ _ => rfl) (h4 q1 y2 e3 q4 y5 e6 q7 q8 x9 e10 y11 e12 x13 e14 x15 e16 x17 e18 x19 e20 lo21 lo21_0 lo21_1 e22 hm_2)
        ·
          refine wR_la rfl l_0 ?_
          refine yR_m 1 (fun _ _ _ _ => rfl) ?_
          refine wR_pi rfl rO_e rO_4 hm rfl ?_
          have hm_3 : aTm aT0 (si mem 27 4 5) := tm_si rO_e rO_4 hm (i32_b _)
          refine wR_la rfl l_0 ?_
          refine wR_la rfl l_0 ?_
          refine wR_gi rfl rO_e rO_3 hm_3 (gi_sv_ne (by decide)) ?_
          refine wR_pi rfl rO_e rO_7 hm_3 rfl ?_
          have hm_4 : aTm aT0 (si (si mem 27 4 5) 27 7 (gi mem 27 3)) := tm_si rO_e rO_7 hm_3 (i32_b _)
          exact yR_rv rfl (h5 q1 y2 e3 q4 y5 e6 q7 q8 hm_4)

theorem rn_2 {z : Int32} (hT : T = ga mr 1) (hN : (gi mr 27 2).toInt = n) : ∀ (f : Nat) (mem : zM) (k : Int32) (lo : List (Nat × Value)), k.toInt + (f : Int) = 4 → 0 ≤ k.toInt → aTm aT0 mem → zfl mem 27 1 = some (.ref 1) → fo 27 [] [3, 4, 5, 7] mr mem → (gi mem 27 3).toInt = b + k.toInt → b + k.toInt ≤ n → (∀ i, b ≤ i → i < b + k.toInt → dgt (gn T i)) → (gi mem 27 5).toInt = dgv T b k.toInt.toNat → zlg lo 0 = some (.ref 27) → zlg lo 1 = some (.int z) → zlg lo 2 = some (.int k) → yR zpg tX5_readNumber d (2, lo, [], mem) (rnP mr T n b z.toInt) := by
  intro f
  induction f with
  | zero =>
    intro mem k lo hk h0 hm ht hf hat hbn hl hn a0 a1 a2
    have g1 : ga mem 1 = T := (fo_ga hf (by decide) rfl).trans hT.symm
    have g2 : (gi mem 27 2).toInt = n := by rw [fo_gi hf rfl]; exact hN
    have bd := dgv_b (T := T) (b := b) k.toInt.toNat (fun i i0 i1 => hl i i0 (by omega))
    have e4 : k.toInt.toNat = 4 := by omega
    rw [e4] at bd
    have e5 : (gi mem 27 5).toInt = dgv T b 4 := by rw [hn, e4]
    exact w_rn_2 hm a0 a1 a2 ht ⟨h0, by omega⟩ ⟨by omega, by omega⟩
        (fun q1 lo a0 a1 hm2 => by
          have hq : Rn dgt T n b (b + k.toInt) := ⟨by omega, hbn, hl, fun w => by exfalso; omega⟩
          have e : (b + k.toInt - b).toNat = k.toInt.toNat := by omega
          exact rn_100 hq (by omega) (by rw [e]; exact hn) hm2 ht hf hat a0 a1)
        (fun q1 y2 e3 q4 lo a0 a1 hm2 => by
          have hq : Rn dgt T n b (b + k.toInt) := ⟨by omega, hbn, hl, fun _ w => by have w1 := w.1; rw [← g1, ← hat] at w1; omega⟩
          have e : (b + k.toInt - b).toNat = k.toInt.toNat := by omega
          exact rn_100 hq (by omega) (by rw [e]; exact hn) hm2 ht hf hat a0 a1)
        (fun q1 y2 e3 q4 y5 e6 q7 lo a0 a1 hm2 => by
          have hq : Rn dgt T n b (b + k.toInt) := ⟨by omega, hbn, hl, fun _ w => by have w1 := w.2; rw [← g1, ← hat] at w1; omega⟩
          have e : (b + k.toInt - b).toNat = k.toInt.toNat := by omega
          exact rn_100 hq (by omega) (by rw [e]; exact hn) hm2 ht hf hat a0 a1)
        (fun q1 y2 e3 q4 y5 e6 q7 q8 x9 e10 y11 e12 x13 e14 x15 e16 x17 e18 x19 e20 lo a0 a1 a2 hm2 => by exfalso; omega)
        (fun q1 y2 e3 q4 y5 e6 q7 q8 hm2 => by
          have lt : dgt (gn T (b + k.toInt)) := by
            rw [g1, hat] at q4 q7
            exact ⟨q4, q7⟩
          obtain ⟨q, hq⟩ := Rn_ex (ok := dgt) (T := T) (n := n) (n - b).toNat b (by omega)
          refine ⟨rfl, hm2, fo_sv rfl (fo_sv rfl (hf)), q, hq, Or.inl ⟨Or.inl ?_, by rw [((gi_sv_ne (by decide)).trans (gi_eqQ (isQ_of rO_e hm) rO_4))]; rfl⟩⟩
          rcases Int.lt_or_le (b + k.toInt) q with w | w
          · omega
          · exfalso
            rcases Int.lt_or_le q (b + k.toInt) with w2 | w2
            · exact hq.2.2.2 (by omega) (hl q hq.1 w2)
            · exact hq.2.2.2 (by omega) (by rw [show q = b + k.toInt by omega]; exact lt))
  | succ f ih =>
    intro mem k lo hk h0 hm ht hf hat hbn hl hn a0 a1 a2
    have g1 : ga mem 1 = T := (fo_ga hf (by decide) rfl).trans hT.symm
    have g2 : (gi mem 27 2).toInt = n := by rw [fo_gi hf rfl]; exact hN
    have bd := dgv_b (T := T) (b := b) k.toInt.toNat (fun i i0 i1 => hl i i0 (by omega))
    have bd2 : (10 : Int) ^ k.toInt.toNat ≤ 10000 := by
      rcases (show k.toInt.toNat = 0 ∨ k.toInt.toNat = 1 ∨ k.toInt.toNat = 2 ∨ k.toInt.toNat = 3 ∨ k.toInt.toNat = 4 by omega) with w | w | w | w | w <;> rw [w] <;> decide
    exact w_rn_2 hm a0 a1 a2 ht ⟨h0, by omega⟩ ⟨by omega, by omega⟩
        (fun q1 lo a0 a1 hm2 => by
          have hq : Rn dgt T n b (b + k.toInt) := ⟨by omega, hbn, hl, fun w => by exfalso; omega⟩
          have e : (b + k.toInt - b).toNat = k.toInt.toNat := by omega
          exact rn_100 hq (by omega) (by rw [e]; exact hn) hm2 ht hf hat a0 a1)
        (fun q1 y2 e3 q4 lo a0 a1 hm2 => by
          have hq : Rn dgt T n b (b + k.toInt) := ⟨by omega, hbn, hl, fun _ w => by have w1 := w.1; rw [← g1, ← hat] at w1; omega⟩
          have e : (b + k.toInt - b).toNat = k.toInt.toNat := by omega
          exact rn_100 hq (by omega) (by rw [e]; exact hn) hm2 ht hf hat a0 a1)
        (fun q1 y2 e3 q4 y5 e6 q7 lo a0 a1 hm2 => by
          have hq : Rn dgt T n b (b + k.toInt) := ⟨by omega, hbn, hl, fun _ w => by have w1 := w.2; rw [← g1, ← hat] at w1; omega⟩
          have e : (b + k.toInt - b).toNat = k.toInt.toNat := by omega
          exact rn_100 hq (by omega) (by rw [e]; exact hn) hm2 ht hf hat a0 a1)
        (fun q1 y2 e3 q4 y5 e6 q7 q8 x9 e10 y11 e12 x13 e14 x15 e16 x17 e18 x19 e20 lo a0 a1 a2 hm2 => by
          have lt : dgt (gn T (b + k.toInt)) := by
            rw [g1, hat] at q4 q7
            exact ⟨q4, q7⟩
          have kk : (k.toInt.toNat : Int) = k.toInt := by omega
          have e1 : ∀ q : Int32, q.toInt = k.toInt + 1 → q.toInt.toNat = k.toInt.toNat + 1 := fun q h => by omega
          refine ih _ _ lo (by omega) (by omega) hm2 ((zfl_sv_ne (by decide)).trans ((zfl_sv_ne (by decide)).trans ht)) (fo_sv rfl (fo_sv rfl (hf))) (by rw [(gi_eqQ (isQ_sv (isQ_of rO_e hm)) rO_3)]; omega) (by omega) (fun i i0 i1 => ?_) ?_ a0 a1 a2
          · by_cases e : i = b + k.toInt
            · rw [e]; exact lt
            · exact hl i i0 (by omega)
          · rw [e1 _ (by omega), ((gi_sv_ne (by decide)).trans (gi_eqQ (isQ_of rO_e hm) rO_5))]
            show _ = 10 * dgv T b k.toInt.toNat + gn T (b + (k.toInt.toNat : Int)) - 48
            rw [kk, ← hn, ← g1, ← hat]
            omega)
        (fun q1 y2 e3 q4 y5 e6 q7 q8 hm2 => by
          have lt : dgt (gn T (b + k.toInt)) := by
            rw [g1, hat] at q4 q7
            exact ⟨q4, q7⟩
          obtain ⟨q, hq⟩ := Rn_ex (ok := dgt) (T := T) (n := n) (n - b).toNat b (by omega)
          refine ⟨rfl, hm2, fo_sv rfl (fo_sv rfl (hf)), q, hq, Or.inl ⟨Or.inl ?_, by rw [((gi_sv_ne (by decide)).trans (gi_eqQ (isQ_of rO_e hm) rO_4))]; rfl⟩⟩
          rcases Int.lt_or_le (b + k.toInt) q with w | w
          · omega
          · exfalso
            rcases Int.lt_or_le q (b + k.toInt) with w2 | w2
            · exact hq.2.2.2 (by omega) (hl q hq.1 w2)
            · exact hq.2.2.2 (by omega) (by rw [show q = b + k.toInt by omega]; exact lt))
set_option maxRecDepth 100000 in
theorem w_rn_0 {d : Nat} {mem : zM} {P : Option Value → zM → Prop} {z : Int32} {lo : List (Nat × Value)} (hm : aTm aT0 mem) (l_0 : zlg lo 0 = some (.ref 27)) (l_1 : zlg lo 1 = some (.int z)) (ht : zfl mem 27 1 = some (.ref 1)) (h1 : ∀ lo, zlg lo 0 = some (.ref 27) → zlg lo 1 = some (.int z) → zlg lo 2 = some (.int 0) → aTm aT0 mem → yR zpg tX5_readNumber d (2, lo, [], mem) P) : yR zpg tX5_readNumber d (0, lo, [], mem) P := by
  have r2 := rO_r2 hm
  have r3 := rO_r3 hm
  refine yR_m 1 (fun _ _ _ _ => rfl) ?_
  refine wR_si rfl rfl (fun lo1 e2 f3 => ?_)
  have lo1_0 := f3 0 _ (by decide) (Or.inl rfl) l_0
  have lo1_1 := f3 1 _ (by decide) (Or.inl rfl) l_1
  exact h1 lo1 lo1_0 lo1_1 e2 hm

theorem h_readNumber {z : Int32} (hm : aTm aT0 mem) (ht : zfl mem 27 1 = some (.ref 1)) (hN : (gi mem 27 2).toInt = n) (hb : (gi mem 27 3).toInt = b) (hbn : b ≤ n) (h5 : (gi mem 27 5).toInt = 0) (hd : 1 ≤ d) : yC zpg d 60 [.ref 27, .int z] mem (rnP mem (ga mem 1) n b z.toInt) := by
  obtain ⟨d, rfl⟩ : ∃ q, d = q + 1 := ⟨d - 1, by omega⟩
  refine yC_of (t := tX5_readNumber) rfl rfl ?_
  exact w_rn_0 hm rfl rfl ht
        (fun  lo a0 a1 a2 hm2 => rn_2 rfl hN 4 mem 0 lo (by decide) (by decide) hm2 ht fo_rf (by rw [hb]; show b = b + 0; omega) (by show b + 0 ≤ n; omega) (fun i i0 i1 => by exfalso; have e : Int32.toInt 0 = 0 := rfl; omega) (by rw [h5]; rfl) a0 a1 a2)
end RN
/-- a sign as the class holds it: kind, number -/
def cEnc (t : Tk) (k v : Int) : Prop := (t.1 = 0 ∧ k = 0) ∨ (t.1 = 3 ∧ k = 4 ∧ v = t.2.1) ∨ (t.1 = 2 ∧ k = 3 ∧ v = t.2.1) ∨ (t.1 = 4 ∧ k = 5) ∨ (t.1 = 1 ∧ cEw t.2.2 k v)
abbrev avF : List Nat := [3, 4, 5, 6, 7]
def avQ (mr : zM) (T : List Int32) (n p : Int) (m : zM) : Prop := fo 27 [] avF mr m ∧ ∃ t e, Tok T n p t e ∧ cEnc t (gi m 27 4).toInt (gi m 27 5).toInt ∧ (¬ t.1 = 4 → (gi m 27 3).toInt = e)
section AV
variable {d : Nat} {mr M mem : zM} {T : List Int32} {n p b : Int}
theorem av_wd {z : Int} {m : zM} (S : Skp T n p b) (hbn : b < n) (hl : ltr (gn T b)) (hz : tch T p b ↔ ¬ z = 0) (hF : fo 27 [] avF mr M) (h : rwP2 M T n b z m) : avQ mr T n p m := by
  obtain ⟨F, q, hq, h⟩ := h
  refine ⟨fo_tr hF (fo_up F rfl rfl), ?_⟩
  rcases h with ⟨w, k5⟩ | ⟨hl6, z0, hat, ew⟩
  · refine ⟨(4, 0, []), q, ⟨b, S, Or.inr (Or.inr (Or.inl ⟨hbn, hl, q, hq, rfl, Or.inl ⟨?_, rfl⟩⟩))⟩, Or.inr (Or.inr (Or.inr (Or.inl ⟨rfl, k5⟩))), fun w => absurd rfl w⟩
    rcases w with w | w
    · exact Or.inr w
    · exact Or.inl (hz.2 w)
  · exact ⟨(1, 0, lts T b (q - b).toNat), q, ⟨b, S, Or.inr (Or.inr (Or.inl ⟨hbn, hl, q, hq, rfl, Or.inr ⟨fun w => hz.1 w z0, hl6, rfl⟩⟩))⟩, Or.inr (Or.inr (Or.inr (Or.inr ⟨rfl, ew⟩))), fun _ => hat⟩
theorem av_nu {z : Int} {m : zM} (S : Skp T n p b) (hbn : b < n) (hl : dgt (gn T b)) (hz : tch T p b ↔ ¬ z = 0) (hF : fo 27 [] avF mr M) (h : rnP2 M T n b z m) : avQ mr T n p m := by
  obtain ⟨F, q, hq, h⟩ := h
  refine ⟨fo_tr hF (fo_up F rfl rfl), ?_⟩
  rcases h with ⟨w, k5⟩ | ⟨hl6, z0, hat, ek, ev⟩
  · refine ⟨(4, 0, []), q, ⟨b, S, Or.inr (Or.inr (Or.inr ⟨hbn, hl, q, hq, rfl, Or.inl ⟨?_, rfl⟩⟩))⟩, Or.inr (Or.inr (Or.inr (Or.inl ⟨rfl, k5⟩))), fun w => absurd rfl w⟩
    rcases w with w | w
    · exact Or.inr w
    · exact Or.inl (hz.2 w)
  · exact ⟨(2, dgv T b (q - b).toNat, []), q, ⟨b, S, Or.inr (Or.inr (Or.inr ⟨hbn, hl, q, hq, rfl, Or.inr ⟨fun w => hz.1 w z0, hl6, rfl⟩⟩))⟩, Or.inr (Or.inr (Or.inl ⟨rfl, ek, ev⟩)), fun _ => hat⟩
theorem av_sg (S : Skp T n p b) (hbn : b < n) (h1 : ¬ ltr (gn T b)) (h2 : ¬ dgt (gn T b)) (hF : fo 27 [] avF mr M) (e4 : (gi M 27 4).toInt = 4) (e5 : (gi M 27 5).toInt = gn T b) (e3 : (gi M 27 3).toInt = b + 1) : avQ mr T n p M := ⟨hF, (3, gn T b, []), b + 1, ⟨b, S, Or.inr (Or.inl ⟨hbn, h1, h2, rfl, rfl⟩)⟩, Or.inr (Or.inl ⟨rfl, e4, e5⟩), fun _ => e3⟩
theorem av_fi (S : Skp T n p b) (hbn : b = n) (hF : fo 27 [] avF mr M) (e4 : (gi M 27 4).toInt = 0) (e3 : (gi M 27 3).toInt = b) : avQ mr T n p M := ⟨hF, (0, 0, []), n, ⟨b, S, Or.inl ⟨hbn, rfl, rfl⟩⟩, Or.inl ⟨rfl, e4⟩, fun _ => by omega⟩
set_option maxRecDepth 100000 in
theorem w_av_87 {d : Nat} {mem : zM} {P : Option Value → zM → Prop} {z p : Int32} {n : Int} {lo : List (Nat × Value)} (hm : aTm aT0 mem) (l_0 : zlg lo 0 = some (.ref 27)) (l_1 : zlg lo 1 = some (.int z)) (l_2 : zlg lo 2 = some (.int p)) (ht : zfl mem 27 1 = some (.ref 1)) (hC : ga mem 28 = ownC) (hN : (gi mem 27 2).toInt = n) (hbn : (gi mem 27 3).toInt ≤ n) (h1 : (gi mem 27 3).toInt < (gi mem 27 2).toInt → ∀ (y2 : Int32), y2.toInt = (gn (ga mem 1) (gi mem 27 3).toInt) → (gn (ga mem 1) (gi mem 27 3).toInt) < 97 → ∀ (y5 : Int32), y5.toInt = (gn (ga mem 1) (gi mem 27 3).toInt) → (gn (ga mem 1) (gi mem 27 3).toInt) < 48 → ∀ (y8 : Int32), y8.toInt = (gn (ga mem 1) (gi mem 27 3).toInt) → ∀ (x10 : Int32), x10.toInt = ((gi mem 27 3).toInt + 1) → aTm aT0 (si (si (si (si (si (si mem 27 6 (gi mem 27 3)) 27 7 (gi mem 27 3)) 27 5 0) 27 4 4) 27 5 y8) 27 3 x10) → P none (si (si (si (si (si (si mem 27 6 (gi mem 27 3)) 27 7 (gi mem 27 3)) 27 5 0) 27 4 4) 27 5 y8) 27 3 x10)) (h2 : (gi mem 27 3).toInt < (gi mem 27 2).toInt → ∀ (y2 : Int32), y2.toInt = (gn (ga mem 1) (gi mem 27 3).toInt) → (gn (ga mem 1) (gi mem 27 3).toInt) < 97 → ∀ (y5 : Int32), y5.toInt = (gn (ga mem 1) (gi mem 27 3).toInt) → 48 ≤ (gn (ga mem 1) (gi mem 27 3).toInt) → ∀ (y12 : Int32), y12.toInt = (gn (ga mem 1) (gi mem 27 3).toInt) → 57 < (gn (ga mem 1) (gi mem 27 3).toInt) → ∀ (y15 : Int32), y15.toInt = (gn (ga mem 1) (gi mem 27 3).toInt) → ∀ (x17 : Int32), x17.toInt = ((gi mem 27 3).toInt + 1) → aTm aT0 (si (si (si (si (si (si mem 27 6 (gi mem 27 3)) 27 7 (gi mem 27 3)) 27 5 0) 27 4 4) 27 5 y15) 27 3 x17) → P none (si (si (si (si (si (si mem 27 6 (gi mem 27 3)) 27 7 (gi mem 27 3)) 27 5 0) 27 4 4) 27 5 y15) 27 3 x17)) (h3 : (gi mem 27 3).toInt < (gi mem 27 2).toInt → ∀ (y2 : Int32), y2.toInt = (gn (ga mem 1) (gi mem 27 3).toInt) → (gn (ga mem 1) (gi mem 27 3).toInt) < 97 → ∀ (y5 : Int32), y5.toInt = (gn (ga mem 1) (gi mem 27 3).toInt) → 48 ≤ (gn (ga mem 1) (gi mem 27 3).toInt) → ∀ (y12 : Int32), y12.toInt = (gn (ga mem 1) (gi mem 27 3).toInt) → (gn (ga mem 1) (gi mem 27 3).toInt) ≤ 57 → (z).toInt = 0 → ∀ (m20 : zM), aTm aT0 m20 → rnP2 (si (si (si mem 27 6 (gi mem 27 3)) 27 7 (gi mem 27 3)) 27 5 0) (ga (si (si (si mem 27 6 (gi mem 27 3)) 27 7 (gi mem 27 3)) 27 5 0) 1) n (gi mem 27 3).toInt 0 m20 → aTm aT0 m20 → P none m20) (h4 : (gi mem 27 3).toInt < (gi mem 27 2).toInt → ∀ (y2 : Int32), y2.toInt = (gn (ga mem 1) (gi mem 27 3).toInt) → (gn (ga mem 1) (gi mem 27 3).toInt) < 97 → ∀ (y5 : Int32), y5.toInt = (gn (ga mem 1) (gi mem 27 3).toInt) → 48 ≤ (gn (ga mem 1) (gi mem 27 3).toInt) → ∀ (y12 : Int32), y12.toInt = (gn (ga mem 1) (gi mem 27 3).toInt) → (gn (ga mem 1) (gi mem 27 3).toInt) ≤ 57 → ¬ (z).toInt = 0 → ¬ (gi mem 27 3).toInt = (p).toInt → ∀ (m23 : zM), aTm aT0 m23 → rnP2 (si (si (si mem 27 6 (gi mem 27 3)) 27 7 (gi mem 27 3)) 27 5 0) (ga (si (si (si mem 27 6 (gi mem 27 3)) 27 7 (gi mem 27 3)) 27 5 0) 1) n (gi mem 27 3).toInt 0 m23 → aTm aT0 m23 → P none m23) (h5 : (gi mem 27 3).toInt < (gi mem 27 2).toInt → ∀ (y2 : Int32), y2.toInt = (gn (ga mem 1) (gi mem 27 3).toInt) → (gn (ga mem 1) (gi mem 27 3).toInt) < 97 → ∀ (y5 : Int32), y5.toInt = (gn (ga mem 1) (gi mem 27 3).toInt) → 48 ≤ (gn (ga mem 1) (gi mem 27 3).toInt) → ∀ (y12 : Int32), y12.toInt = (gn (ga mem 1) (gi mem 27 3).toInt) → (gn (ga mem 1) (gi mem 27 3).toInt) ≤ 57 → ¬ (z).toInt = 0 → (gi mem 27 3).toInt = (p).toInt → ∀ (m25 : zM), aTm aT0 m25 → rnP2 (si (si (si mem 27 6 (gi mem 27 3)) 27 7 (gi mem 27 3)) 27 5 0) (ga (si (si (si mem 27 6 (gi mem 27 3)) 27 7 (gi mem 27 3)) 27 5 0) 1) n (gi mem 27 3).toInt 1 m25 → aTm aT0 m25 → P none m25) (h6 : (gi mem 27 3).toInt < (gi mem 27 2).toInt → ∀ (y2 : Int32), y2.toInt = (gn (ga mem 1) (gi mem 27 3).toInt) → 97 ≤ (gn (ga mem 1) (gi mem 27 3).toInt) → ∀ (y27 : Int32), y27.toInt = (gn (ga mem 1) (gi mem 27 3).toInt) → 122 < (gn (ga mem 1) (gi mem 27 3).toInt) → ∀ (y30 : Int32), y30.toInt = (gn (ga mem 1) (gi mem 27 3).toInt) → ∀ (y32 : Int32), y32.toInt = (gn (ga mem 1) (gi mem 27 3).toInt) → ∀ (y34 : Int32), y34.toInt = (gn (ga mem 1) (gi mem 27 3).toInt) → ∀ (x36 : Int32), x36.toInt = ((gi mem 27 3).toInt + 1) → aTm aT0 (si (si (si (si (si (si mem 27 6 (gi mem 27 3)) 27 7 (gi mem 27 3)) 27 5 0) 27 4 4) 27 5 y34) 27 3 x36) → P none (si (si (si (si (si (si mem 27 6 (gi mem 27 3)) 27 7 (gi mem 27 3)) 27 5 0) 27 4 4) 27 5 y34) 27 3 x36)) (h7 : (gi mem 27 3).toInt < (gi mem 27 2).toInt → ∀ (y2 : Int32), y2.toInt = (gn (ga mem 1) (gi mem 27 3).toInt) → 97 ≤ (gn (ga mem 1) (gi mem 27 3).toInt) → ∀ (y27 : Int32), y27.toInt = (gn (ga mem 1) (gi mem 27 3).toInt) → (gn (ga mem 1) (gi mem 27 3).toInt) ≤ 122 → (z).toInt = 0 → ∀ (m39 : zM), aTm aT0 m39 → rwP2 (si (si (si mem 27 6 (gi mem 27 3)) 27 7 (gi mem 27 3)) 27 5 0) (ga (si (si (si mem 27 6 (gi mem 27 3)) 27 7 (gi mem 27 3)) 27 5 0) 1) n (gi mem 27 3).toInt 0 m39 → aTm aT0 m39 → P none m39) (h8 : (gi mem 27 3).toInt < (gi mem 27 2).toInt → ∀ (y2 : Int32), y2.toInt = (gn (ga mem 1) (gi mem 27 3).toInt) → 97 ≤ (gn (ga mem 1) (gi mem 27 3).toInt) → ∀ (y27 : Int32), y27.toInt = (gn (ga mem 1) (gi mem 27 3).toInt) → (gn (ga mem 1) (gi mem 27 3).toInt) ≤ 122 → ¬ (z).toInt = 0 → ¬ (gi mem 27 3).toInt = (p).toInt → ∀ (m42 : zM), aTm aT0 m42 → rwP2 (si (si (si mem 27 6 (gi mem 27 3)) 27 7 (gi mem 27 3)) 27 5 0) (ga (si (si (si mem 27 6 (gi mem 27 3)) 27 7 (gi mem 27 3)) 27 5 0) 1) n (gi mem 27 3).toInt 0 m42 → aTm aT0 m42 → P none m42) (h9 : (gi mem 27 3).toInt < (gi mem 27 2).toInt → ∀ (y2 : Int32), y2.toInt = (gn (ga mem 1) (gi mem 27 3).toInt) → 97 ≤ (gn (ga mem 1) (gi mem 27 3).toInt) → ∀ (y27 : Int32), y27.toInt = (gn (ga mem 1) (gi mem 27 3).toInt) → (gn (ga mem 1) (gi mem 27 3).toInt) ≤ 122 → ¬ (z).toInt = 0 → (gi mem 27 3).toInt = (p).toInt → ∀ (m44 : zM), aTm aT0 m44 → rwP2 (si (si (si mem 27 6 (gi mem 27 3)) 27 7 (gi mem 27 3)) 27 5 0) (ga (si (si (si mem 27 6 (gi mem 27 3)) 27 7 (gi mem 27 3)) 27 5 0) 1) n (gi mem 27 3).toInt 1 m44 → aTm aT0 m44 → P none m44) (h10 : (gi mem 27 2).toInt ≤ (gi mem 27 3).toInt → aTm aT0 (si (si (si (si mem 27 6 (gi mem 27 3)) 27 7 (gi mem 27 3)) 27 5 0) 27 4 0) → P none (si (si (si (si mem 27 6 (gi mem 27 3)) 27 7 (gi mem 27 3)) 27 5 0) 27 4 0)) : yR zpg tX5_advance (d + 1) (87, lo, [], mem) P := by
  have r2 := rO_r2 hm
  have r3 := rO_r3 hm
  refine wR_la rfl l_0 ?_
  refine wR_la rfl l_0 ?_
  refine wR_gi rfl rO_e rO_3 hm rfl ?_
  refine wR_pi rfl rO_e rO_6 hm rfl ?_
  have hm_1 : aTm aT0 (si mem 27 6 (gi mem 27 3)) := tm_si rO_e rO_6 hm (i32_b _)
  refine wR_la rfl l_0 ?_
  refine wR_la rfl l_0 ?_
  refine wR_gi rfl rO_e rO_3 hm_1 (gi_sv_ne (by decide)) ?_
  refine wR_pi rfl rO_e rO_7 hm_1 rfl ?_
  have hm_2 : aTm aT0 (si (si mem 27 6 (gi mem 27 3)) 27 7 (gi mem 27 3)) := tm_si rO_e rO_7 hm_1 (i32_b _)
  refine wR_la rfl l_0 ?_
  refine yR_m 1 (fun _ _ _ _ => rfl) ?_
  refine wR_pi rfl rO_e rO_5 hm_2 rfl ?_
  have hm_3 : aTm aT0 (si (si (si mem 27 6 (gi mem 27 3)) 27 7 (gi mem 27 3)) 27 5 0) := tm_si rO_e rO_5 hm_2 (i32_b _)
  refine wR_la rfl l_0 ?_
  refine wR_gi rfl rO_e rO_3 hm_3 ((gi_sv_ne (by decide)).trans ((gi_sv_ne (by decide)).trans (gi_sv_ne (by decide)))) ?_
  refine wR_la rfl l_0 ?_
  refine wR_gi rfl rO_e rO_2 hm_3 ((gi_sv_ne (by decide)).trans ((gi_sv_ne (by decide)).trans (gi_sv_ne (by decide)))) ?_
  refine wR_ic_lt rfl (a := (gi mem 27 3).toInt) (c := (gi mem 27 2).toInt) rfl rfl (fun q1 => ?_) (fun q1 => ?_)
  ·
    refine wR_la rfl l_0 ?_
    refine wR_gq rfl rO_e hm_3 ((zfl_sv_ne (by decide)).trans ((zfl_sv_ne (by decide)).trans ((zfl_sv_ne (by decide)).trans ht))) ?_
    refine wR_la rfl l_0 ?_
    refine wR_gi rfl rO_e rO_3 hm_3 ((gi_sv_ne (by decide)).trans ((gi_sv_ne (by decide)).trans (gi_sv_ne (by decide)))) ?_
    refine wN_al (a := (gi mem 27 3).toInt) rfl aR_1 hm_3 ((ga_sv).trans ((ga_sv).trans (ga_sv))) rfl (by omega) (fun y2 e3 => ?_)
    refine yR_m 1 (fun _ _ _ _ => rfl) ?_
    refine wR_ic_lt rfl (a := (gn (ga mem 1) (gi mem 27 3).toInt)) (c := 97) e3 rfl (fun q4 => ?_) (fun q4 => ?_)
    ·
      refine wR_la rfl l_0 ?_
      refine wR_gq rfl rO_e hm_3 ((zfl_sv_ne (by decide)).trans ((zfl_sv_ne (by decide)).trans ((zfl_sv_ne (by decide)).trans ht))) ?_
      refine wR_la rfl l_0 ?_
      refine wR_gi rfl rO_e rO_3 hm_3 ((gi_sv_ne (by decide)).trans ((gi_sv_ne (by decide)).trans (gi_sv_ne (by decide)))) ?_
      refine wN_al (a := (gi mem 27 3).toInt) rfl aR_1 hm_3 ((ga_sv).trans ((ga_sv).trans (ga_sv))) rfl (by omega) (fun y5 e6 => ?_)
      refine yR_m 1 (fun _ _ _ _ => rfl) ?_
      refine wR_ic_lt rfl (a := (gn (ga mem 1) (gi mem 27 3).toInt)) (c := 48) e6 rfl (fun q7 => ?_) (fun q7 => ?_)
      ·
        refine wR_la rfl l_0 ?_
        refine yR_m 1 (fun _ _ _ _ => rfl) ?_
        refine wR_pi rfl rO_e rO_4 hm_3 rfl ?_
        have hm_4 : aTm aT0 (si (si (si (si mem 27 6 (gi mem 27 3)) 27 7 (gi mem 27 3)) 27 5 0) 27 4 4) := tm_si rO_e rO_4 hm_3 (i32_b _)
        refine wR_la rfl l_0 ?_
        refine wR_la rfl l_0 ?_
        refine wR_gq rfl rO_e hm_4 ((zfl_sv_ne (by decide)).trans ((zfl_sv_ne (by decide)).trans ((zfl_sv_ne (by decide)).trans ((zfl_sv_ne (by decide)).trans ht)))) ?_
        refine wR_la rfl l_0 ?_
        refine wR_gi rfl rO_e rO_3 hm_4 ((gi_sv_ne (by decide)).trans ((gi_sv_ne (by decide)).trans ((gi_sv_ne (by decide)).trans (gi_sv_ne (by decide))))) ?_
        refine wN_al (a := (gi mem 27 3).toInt) rfl aR_1 hm_4 ((ga_sv).trans ((ga_sv).trans ((ga_sv).trans (ga_sv)))) rfl (by omega) (fun y8 e9 => ?_)
        refine wR_pi rfl rO_e rO_5 hm_4 rfl ?_
        have hm_5 : aTm aT0 (si (si (si (si (si mem 27 6 (gi mem 27 3)) 27 7 (gi mem 27 3)) 27 5 0) 27 4 4) 27 5 y8) := tm_si rO_e rO_5 hm_4 (i32_b _)
        refine wR_la rfl l_0 ?_
        refine yR_m 1 (fun _ _ _ _ => rfl) ?_
        refine wR_gi rfl rO_e rO_3 hm_5 ((gi_sv_ne (by decide)).trans ((gi_sv_ne (by decide)).trans ((gi_sv_ne (by decide)).trans ((gi_sv_ne (by decide)).trans (gi_sv_ne (by decide)))))) ?_
        refine yR_m 1 (fun _ _ _ _ => rfl) ?_
        refine wN_add (a := (gi mem 27 3).toInt) (b := 1) rfl rfl rfl (by omega) (fun x10 e11 => ?_)
        refine wR_pi rfl rO_e rO_3 hm_5 rfl ?_
        have hm_6 : aTm aT0 (si (si (si (si (si (si mem 27 6 (gi mem 27 3)) 27 7 (gi mem 27 3)) 27 5 0) 27 4 4) 27 5 y8) 27 3 x10) := tm_si rO_e rO_3 hm_5 (by rw [e11]; exact (by omega))
        exact yR_rv rfl (h1 q1 y2 e3 q4 y5 e6 q7 y8 e9 x10 e11 hm_6)
      ·
        refine wR_la rfl l_0 ?_
        refine wR_gq rfl rO_e hm_3 ((zfl_sv_ne (by decide)).trans ((zfl_sv_ne (by decide)).trans ((zfl_sv_ne (by decide)).trans ht))) ?_
        refine wR_la rfl l_0 ?_
        refine wR_gi rfl rO_e rO_3 hm_3 ((gi_sv_ne (by decide)).trans ((gi_sv_ne (by decide)).trans (gi_sv_ne (by decide)))) ?_
        refine wN_al (a := (gi mem 27 3).toInt) rfl aR_1 hm_3 ((ga_sv).trans ((ga_sv).trans (ga_sv))) rfl (by omega) (fun y12 e13 => ?_)
        refine yR_m 1 (fun _ _ _ _ => rfl) ?_
        refine wR_ic_gt rfl (a := (gn (ga mem 1) (gi mem 27 3).toInt)) (c := 57) e13 rfl (fun q14 => ?_) (fun q14 => ?_)
        ·
          refine wR_la rfl l_0 ?_
          refine yR_m 1 (fun _ _ _ _ => rfl) ?_
          refine wR_pi rfl rO_e rO_4 hm_3 rfl ?_
          have hm_7 : aTm aT0 (si (si (si (si mem 27 6 (gi mem 27 3)) 27 7 (gi mem 27 3)) 27 5 0) 27 4 4) := tm_si rO_e rO_4 hm_3 (i32_b _)
          refine wR_la rfl l_0 ?_
          refine wR_la rfl l_0 ?_
          refine wR_gq rfl rO_e hm_7 ((zfl_sv_ne (by decide)).trans ((zfl_sv_ne (by decide)).trans ((zfl_sv_ne (by decide)).trans ((zfl_sv_ne (by decide)).trans ht)))) ?_
          refine wR_la rfl l_0 ?_
          refine wR_gi rfl rO_e rO_3 hm_7 ((gi_sv_ne (by decide)).trans ((gi_sv_ne (by decide)).trans ((gi_sv_ne (by decide)).trans (gi_sv_ne (by decide))))) ?_
          refine wN_al (a := (gi mem 27 3).toInt) rfl aR_1 hm_7 ((ga_sv).trans ((ga_sv).trans ((ga_sv).trans (ga_sv)))) rfl (by omega) (fun y15 e16 => ?_)
          refine wR_pi rfl rO_e rO_5 hm_7 rfl ?_
          have hm_8 : aTm aT0 (si (si (si (si (si mem 27 6 (gi mem 27 3)) 27 7 (gi mem 27 3)) 27 5 0) 27 4 4) 27 5 y15) := tm_si rO_e rO_5 hm_7 (i32_b _)
          refine wR_la rfl l_0 ?_
          refine yR_m 1 (fun _ _ _ _ => rfl) ?_
          refine wR_gi rfl rO_e rO_3 hm_8 ((gi_sv_ne (by decide)).trans ((gi_sv_ne (by decide)).trans ((gi_sv_ne (by decide)).trans ((gi_sv_ne (by decide)).trans (gi_sv_ne (by decide)))))) ?_
          refine yR_m 1 (fun _ _ _ _ => rfl) ?_
          refine wN_add (a := (gi mem 27 3).toInt) (b := 1) rfl rfl rfl (by omega) (fun x17 e18 => ?_)
          refine wR_pi rfl rO_e rO_3 hm_8 rfl ?_
          have hm_9 : aTm aT0 (si (si (si (si (si (si mem 27 6 (gi mem 27 3)) 27 7 (gi mem 27 3)) 27 5 0) 27 4 4) 27 5 y15) 27 3 x17) := tm_si rO_e rO_3 hm_8 (by rw [e18]; exact (by omega))
          exact yR_rv rfl (h2 q1 y2 e3 q4 y5 e6 q7 y12 e13 q14 y15 e16 x17 e18 hm_9)
        ·
          refine wR_la rfl l_0 ?_
          refine wR_li rfl l_1 ?_
          refine wR_if_eq rfl (a := (z).toInt) rfl (fun q19 => ?_) (fun q19 => ?_)
          ·
            refine yR_m 1 (fun _ _ _ _ => rfl) ?_
            refine wR_cv rfl rfl rO_e hm_3 rfl (h_readNumber hm_3 ((zfl_sv_ne (by decide)).trans ((zfl_sv_ne (by decide)).trans ((zfl_sv_ne (by decide)).trans ht))) (n := n) (by rw [((gi_sv_ne (by decide)).trans ((gi_sv_ne (by decide)).trans (gi_sv_ne (by decide))))]; exact hN) (b := (gi mem 27 3).toInt) (by rw [((gi_sv_ne (by decide)).trans ((gi_sv_ne (by decide)).trans (gi_sv_ne (by decide))))]) (by omega) (by rw [(gi_eqQ (isQ_sv (isQ_sv (isQ_of rO_e hm))) rO_5)]; rfl) (by omega)) ?_
            rintro _ m20 ⟨rfl, hI20, k21⟩
            show yR zpg tX5_advance (d + 1) (228, lo, [], m20) _
            refine yR_m 1 (fun _ _ _ _ => rfl) ?_
            exact yR_rv rfl (h3 q1 y2 e3 q4 y5 e6 q7 y12 e13 q14 q19 m20 hI20 k21 hI20)
          ·
            refine wR_la rfl l_0 ?_
            refine wR_gi rfl rO_e rO_3 hm_3 ((gi_sv_ne (by decide)).trans ((gi_sv_ne (by decide)).trans (gi_sv_ne (by decide)))) ?_
            refine wR_li rfl l_2 ?_
            refine wR_ic_ne rfl (a := (gi mem 27 3).toInt) (c := (p).toInt) rfl rfl (fun q22 => ?_) (fun q22 => ?_)
            ·
              refine yR_m 1 (fun _ _ _ _ => rfl) ?_
              refine wR_cv rfl rfl rO_e hm_3 rfl (h_readNumber hm_3 ((zfl_sv_ne (by decide)).trans ((zfl_sv_ne (by decide)).trans ((zfl_sv_ne (by decide)).trans ht))) (n := n) (by rw [((gi_sv_ne (by decide)).trans ((gi_sv_ne (by decide)).trans (gi_sv_ne (by decide))))]; exact hN) (b := (gi mem 27 3).toInt) (by rw [((gi_sv_ne (by decide)).trans ((gi_sv_ne (by decide)).trans (gi_sv_ne (by decide))))]) (by omega) (by rw [(gi_eqQ (isQ_sv (isQ_sv (isQ_of rO_e hm))) rO_5)]; rfl) (by omega)) ?_
              rintro _ m23 ⟨rfl, hI23, k24⟩
              show yR zpg tX5_advance (d + 1) (228, lo, [], m23) _
              refine yR_m 1 (fun _ _ _ _ => rfl) ?_
              exact yR_rv rfl (h4 q1 y2 e3 q4 y5 e6 q7 y12 e13 q14 q19 q22 m23 hI23 k24 hI23)
            ·
              refine yR_m 2 (fun _ _ _ _ => rfl) ?_
              refine wR_cv rfl rfl rO_e hm_3 rfl (h_readNumber hm_3 ((zfl_sv_ne (by decide)).trans ((zfl_sv_ne (by decide)).trans ((zfl_sv_ne (by decide)).trans ht))) (n := n) (by rw [((gi_sv_ne (by decide)).trans ((gi_sv_ne (by decide)).trans (gi_sv_ne (by decide))))]; exact hN) (b := (gi mem 27 3).toInt) (by rw [((gi_sv_ne (by decide)).trans ((gi_sv_ne (by decide)).trans (gi_sv_ne (by decide))))]) (by omega) (by rw [(gi_eqQ (isQ_sv (isQ_sv (isQ_of rO_e hm))) rO_5)]; rfl) (by omega)) ?_
              rintro _ m25 ⟨rfl, hI25, k26⟩
              show yR zpg tX5_advance (d + 1) (228, lo, [], m25) _
              refine yR_m 1 (fun _ _ _ _ => rfl) ?_
              exact yR_rv rfl (h5 q1 y2 e3 q4 y5 e6 q7 y12 e13 q14 q19 q22 m25 hI25 k26 hI25)
    ·
      refine wR_la rfl l_0 ?_
      refine wR_gq rfl rO_e hm_3 ((zfl_sv_ne (by decide)).trans ((zfl_sv_ne (by decide)).trans ((zfl_sv_ne (by decide)).trans ht))) ?_
      refine wR_la rfl l_0 ?_
      refine wR_gi rfl rO_e rO_3 hm_3 ((gi_sv_ne (by decide)).trans ((gi_sv_ne (by decide)).trans (gi_sv_ne (by decide)))) ?_
      refine wN_al (a := (gi mem 27 3).toInt) rfl aR_1 hm_3 ((ga_sv).trans ((ga_sv).trans (ga_sv))) rfl (by omega) (fun y27 e28 => ?_)
      refine yR_m 1 (fun _ _ _ _ => rfl) ?_
      refine wR_ic_gt rfl (a := (gn (ga mem 1) (gi mem 27 3).toInt)) (c := 122) e28 rfl (fun q29 => ?_) (fun q29 => ?_)
      ·
        refine wR_la rfl l_0 ?_
        refine wR_gq rfl rO_e hm_3 ((zfl_sv_ne (by decide)).trans ((zfl_sv_ne (by decide)).trans ((zfl_sv_ne (by decide)).trans ht))) ?_
        refine wR_la rfl l_0 ?_
        refine wR_gi rfl rO_e rO_3 hm_3 ((gi_sv_ne (by decide)).trans ((gi_sv_ne (by decide)).trans (gi_sv_ne (by decide)))) ?_
        refine wN_al (a := (gi mem 27 3).toInt) rfl aR_1 hm_3 ((ga_sv).trans ((ga_sv).trans (ga_sv))) rfl (by omega) (fun y30 e31 => ?_)
        refine yR_m 1 (fun _ _ _ _ => rfl) ?_
        refine wR_ic_lt rfl (a := (gn (ga mem 1) (gi mem 27 3).toInt)) (c := 48) e31 rfl (fun q => by exfalso; omega) (fun _ => ?_)
        refine wR_la rfl l_0 ?_
        refine wR_gq rfl rO_e hm_3 ((zfl_sv_ne (by decide)).trans ((zfl_sv_ne (by decide)).trans ((zfl_sv_ne (by decide)).trans ht))) ?_
        refine wR_la rfl l_0 ?_
        refine wR_gi rfl rO_e rO_3 hm_3 ((gi_sv_ne (by decide)).trans ((gi_sv_ne (by decide)).trans (gi_sv_ne (by decide)))) ?_
        refine wN_al (a := (gi mem 27 3).toInt) rfl aR_1 hm_3 ((ga_sv).trans ((ga_sv).trans (ga_sv))) rfl (by omega) (fun y32 e33 => ?_)
        refine yR_m 1 (fun _ _ _ _ => rfl) ?_
        refine wR_ic_gt rfl (a := (gn (ga mem 1) (gi mem 27 3).toInt)) (c := 57) e33 rfl (fun _ => ?_) (fun q => by exfalso; omega)
        refine wR_la rfl l_0 ?_
        refine yR_m 1 (fun _ _ _ _ => rfl) ?_
        refine wR_pi rfl rO_e rO_4 hm_3 rfl ?_
        have hm_10 : aTm aT0 (si (si (si (si mem 27 6 (gi mem 27 3)) 27 7 (gi mem 27 3)) 27 5 0) 27 4 4) := tm_si rO_e rO_4 hm_3 (i32_b _)
        refine wR_la rfl l_0 ?_
        refine wR_la rfl l_0 ?_
        refine wR_gq rfl rO_e hm_10 ((zfl_sv_ne (by decide)).trans ((zfl_sv_ne (by decide)).trans ((zfl_sv_ne (by decide)).trans ((zfl_sv_ne (by decide)).trans ht)))) ?_
        refine wR_la rfl l_0 ?_
        refine wR_gi rfl rO_e rO_3 hm_10 ((gi_sv_ne (by decide)).trans ((gi_sv_ne (by decide)).trans ((gi_sv_ne (by decide)).trans (gi_sv_ne (by decide))))) ?_
        refine wN_al (a := (gi mem 27 3).toInt) rfl aR_1 hm_10 ((ga_sv).trans ((ga_sv).trans ((ga_sv).trans (ga_sv)))) rfl (by omega) (fun y34 e35 => ?_)
        refine wR_pi rfl rO_e rO_5 hm_10 rfl ?_
        have hm_11 : aTm aT0 (si (si (si (si (si mem 27 6 (gi mem 27 3)) 27 7 (gi mem 27 3)) 27 5 0) 27 4 4) 27 5 y34) := tm_si rO_e rO_5 hm_10 (i32_b _)
        refine wR_la rfl l_0 ?_
        refine yR_m 1 (fun _ _ _ _ => rfl) ?_
        refine wR_gi rfl rO_e rO_3 hm_11 ((gi_sv_ne (by decide)).trans ((gi_sv_ne (by decide)).trans ((gi_sv_ne (by decide)).trans ((gi_sv_ne (by decide)).trans (gi_sv_ne (by decide)))))) ?_
        refine yR_m 1 (fun _ _ _ _ => rfl) ?_
        refine wN_add (a := (gi mem 27 3).toInt) (b := 1) rfl rfl rfl (by omega) (fun x36 e37 => ?_)
        refine wR_pi rfl rO_e rO_3 hm_11 rfl ?_
        have hm_12 : aTm aT0 (si (si (si (si (si (si mem 27 6 (gi mem 27 3)) 27 7 (gi mem 27 3)) 27 5 0) 27 4 4) 27 5 y34) 27 3 x36) := tm_si rO_e rO_3 hm_11 (by rw [e37]; exact (by omega))
        exact yR_rv rfl (h6 q1 y2 e3 q4 y27 e28 q29 y30 e31 y32 e33 y34 e35 x36 e37 hm_12)
      ·
        refine wR_la rfl l_0 ?_
        refine wR_li rfl l_1 ?_
        refine wR_if_eq rfl (a := (z).toInt) rfl (fun q38 => ?_) (fun q38 => ?_)
        ·
          refine yR_m 1 (fun _ _ _ _ => rfl) ?_
          refine wR_cv rfl rfl rO_e hm_3 rfl (h_readWord hm_3 ((zfl_sv_ne (by decide)).trans ((zfl_sv_ne (by decide)).trans ((zfl_sv_ne (by decide)).trans ht))) (by rw [((ga_sv).trans ((ga_sv).trans (ga_sv)))]; exact hC) (n := n) (by rw [((gi_sv_ne (by decide)).trans ((gi_sv_ne (by decide)).trans (gi_sv_ne (by decide))))]; exact hN) (b := (gi mem 27 3).toInt) (by rw [((gi_sv_ne (by decide)).trans ((gi_sv_ne (by decide)).trans (gi_sv_ne (by decide))))]) (by omega) (by omega)) ?_
          rintro _ m39 ⟨rfl, hI39, k40⟩
          show yR zpg tX5_advance (d + 1) (176, lo, [], m39) _
          refine yR_m 1 (fun _ _ _ _ => rfl) ?_
          exact yR_rv rfl (h7 q1 y2 e3 q4 y27 e28 q29 q38 m39 hI39 k40 hI39)
        ·
          refine wR_la rfl l_0 ?_
          refine wR_gi rfl rO_e rO_3 hm_3 ((gi_sv_ne (by decide)).trans ((gi_sv_ne (by decide)).trans (gi_sv_ne (by decide)))) ?_
          refine wR_li rfl l_2 ?_
          refine wR_ic_ne rfl (a := (gi mem 27 3).toInt) (c := (p).toInt) rfl rfl (fun q41 => ?_) (fun q41 => ?_)
          ·
            refine yR_m 1 (fun _ _ _ _ => rfl) ?_
            refine wR_cv rfl rfl rO_e hm_3 rfl (h_readWord hm_3 ((zfl_sv_ne (by decide)).trans ((zfl_sv_ne (by decide)).trans ((zfl_sv_ne (by decide)).trans ht))) (by rw [((ga_sv).trans ((ga_sv).trans (ga_sv)))]; exact hC) (n := n) (by rw [((gi_sv_ne (by decide)).trans ((gi_sv_ne (by decide)).trans (gi_sv_ne (by decide))))]; exact hN) (b := (gi mem 27 3).toInt) (by rw [((gi_sv_ne (by decide)).trans ((gi_sv_ne (by decide)).trans (gi_sv_ne (by decide))))]) (by omega) (by omega)) ?_
            rintro _ m42 ⟨rfl, hI42, k43⟩
            show yR zpg tX5_advance (d + 1) (176, lo, [], m42) _
            refine yR_m 1 (fun _ _ _ _ => rfl) ?_
            exact yR_rv rfl (h8 q1 y2 e3 q4 y27 e28 q29 q38 q41 m42 hI42 k43 hI42)
          ·
            refine yR_m 2 (fun _ _ _ _ => rfl) ?_
            refine wR_cv rfl rfl rO_e hm_3 rfl (h_readWord hm_3 ((zfl_sv_ne (by decide)).trans ((zfl_sv_ne (by decide)).trans ((zfl_sv_ne (by decide)).trans ht))) (by rw [((ga_sv).trans ((ga_sv).trans (ga_sv)))]; exact hC) (n := n) (by rw [((gi_sv_ne (by decide)).trans ((gi_sv_ne (by decide)).trans (gi_sv_ne (by decide))))]; exact hN) (b := (gi mem 27 3).toInt) (by rw [((gi_sv_ne (by decide)).trans ((gi_sv_ne (by decide)).trans (gi_sv_ne (by decide))))]) (by omega) (by omega)) ?_
            rintro _ m44 ⟨rfl, hI44, k45⟩
            show yR zpg tX5_advance (d + 1) (176, lo, [], m44) _
            refine yR_m 1 (fun _ _ _ _ => rfl) ?_
            exact yR_rv rfl (h9 q1 y2 e3 q4 y27 e28 q29 q38 q41 m44 hI44 k45 hI44)
  ·
    refine wR_la rfl l_0 ?_
    refine yR_m 1 (fun _ _ _ _ => rfl) ?_
    refine wR_pi rfl rO_e rO_4 hm_3 rfl ?_
    have hm_13 : aTm aT0 (si (si (si (si mem 27 6 (gi mem 27 3)) 27 7 (gi mem 27 3)) 27 5 0) 27 4 0) := tm_si rO_e rO_4 hm_3 (i32_b _)
    refine yR_m 1 (fun _ _ _ _ => rfl) ?_
    exact yR_rv rfl (h10 q1 hm_13)

theorem av_87 {z p' : Int32} {lo : List (Nat × Value)} (hT : T = ga mr 1) (hC : ga mr 28 = ownC) (hN : (gi mr 27 2).toInt = n) (hp : p'.toInt = p) (hz : p < n → (¬ z.toInt = 0 ↔ (0 < p ∧ (ltr (gn T (p - 1)) ∨ dgt (gn T (p - 1)))))) (S : Skp T n p (gi mem 27 3).toInt) (hm : aTm aT0 mem) (ht : zfl mem 27 1 = some (.ref 1)) (hf : fo 27 [] avF mr mem) (a0 : zlg lo 0 = some (.ref 27)) (a1 : zlg lo 1 = some (.int z)) (a2 : zlg lo 2 = some (.int p')) : yR zpg tX5_advance (d + 1) (87, lo, [], mem) (fun r m => r = none ∧ aTm aT0 m ∧ avQ mr T n p m) := by
  have g1 : ga mem 1 = T := (fo_ga hf (by decide) rfl).trans hT.symm
  have g28 : ga mem 28 = ownC := (fo_ga hf (by decide) rfl).trans hC
  have g2 : (gi mem 27 2).toInt = n := by rw [fo_gi hf rfl]; exact hN
  have s1 := S.1
  have s2 := S.2.1
  have tz : (gi mem 27 3).toInt < n → (tch T p (gi mem 27 3).toInt ↔ (¬ z.toInt = 0 ∧ (gi mem 27 3).toInt = p'.toInt)) := fun h => by
    have hz2 := hz (by omega)
    constructor
    · rintro ⟨w1, w2⟩
      exact ⟨hz2.2 w2, by omega⟩
    · rintro ⟨w1, w2⟩
      exact ⟨by omega, hz2.1 w1⟩
  exact w_av_87 (n := n) hm a0 a1 a2 ht g28 g2 s2
        (fun q1 y2 e3 q4 y5 e6 q7 y8 e9 x10 e11 hm2 => by
          rw [g1] at q4 q7
          exact ⟨rfl, hm2, av_sg S (by omega) (fun w => by have w1 := w.1; have w2 := w.2; omega) (fun w => by have w1 := w.1; have w2 := w.2; omega) (fo_sv rfl (fo_sv rfl (fo_sv rfl (fo_sv rfl (fo_sv rfl (fo_sv rfl (hf))))))) (by rw [((gi_sv_ne (by decide)).trans ((gi_sv_ne (by decide)).trans (gi_eqQ (isQ_sv (isQ_sv (isQ_sv (isQ_of rO_e hm)))) rO_4)))]; rfl) (by rw [((gi_sv_ne (by decide)).trans (gi_eqQ (isQ_sv (isQ_sv (isQ_sv (isQ_sv (isQ_of rO_e hm))))) rO_5)), e9, g1]) (by rw [(gi_eqQ (isQ_sv (isQ_sv (isQ_sv (isQ_sv (isQ_sv (isQ_of rO_e hm)))))) rO_3)]; omega)⟩)
        (fun q1 y2 e3 q4 y5 e6 q7 y12 e13 q14 y15 e16 x17 e18 hm2 => by
          rw [g1] at q4 q7 q14
          exact ⟨rfl, hm2, av_sg S (by omega) (fun w => by have w1 := w.1; have w2 := w.2; omega) (fun w => by have w1 := w.1; have w2 := w.2; omega) (fo_sv rfl (fo_sv rfl (fo_sv rfl (fo_sv rfl (fo_sv rfl (fo_sv rfl (hf))))))) (by rw [((gi_sv_ne (by decide)).trans ((gi_sv_ne (by decide)).trans (gi_eqQ (isQ_sv (isQ_sv (isQ_sv (isQ_of rO_e hm)))) rO_4)))]; rfl) (by rw [((gi_sv_ne (by decide)).trans (gi_eqQ (isQ_sv (isQ_sv (isQ_sv (isQ_sv (isQ_of rO_e hm))))) rO_5)), e16, g1]) (by rw [(gi_eqQ (isQ_sv (isQ_sv (isQ_sv (isQ_sv (isQ_sv (isQ_of rO_e hm)))))) rO_3)]; omega)⟩)
        (fun q1 y2 e3 q4 y5 e6 q7 y12 e13 q14 q19 m20 hI20 k21 hm2 => by
          rw [g1] at q7 q14
          have gT : ga (si (si (si mem 27 6 (gi mem 27 3)) 27 7 (gi mem 27 3)) 27 5 0) 1 = T := (ga_sv.trans (ga_sv.trans ga_sv)).trans g1
          have kk := k21
          rw [gT] at kk
          exact ⟨rfl, hm2, av_nu S (by omega) ⟨q7, q14⟩ ⟨fun w => absurd q19 ((tz (by omega)).1 w).1, fun w => absurd rfl w⟩ (fo_sv rfl (fo_sv rfl (fo_sv rfl hf))) kk⟩)
        (fun q1 y2 e3 q4 y5 e6 q7 y12 e13 q14 q19 q22 m23 hI23 k24 hm2 => by
          rw [g1] at q7 q14
          have gT : ga (si (si (si mem 27 6 (gi mem 27 3)) 27 7 (gi mem 27 3)) 27 5 0) 1 = T := (ga_sv.trans (ga_sv.trans ga_sv)).trans g1
          have kk := k24
          rw [gT] at kk
          exact ⟨rfl, hm2, av_nu S (by omega) ⟨q7, q14⟩ ⟨fun w => absurd ((tz (by omega)).1 w).2 q22, fun w => absurd rfl w⟩ (fo_sv rfl (fo_sv rfl (fo_sv rfl hf))) kk⟩)
        (fun q1 y2 e3 q4 y5 e6 q7 y12 e13 q14 q19 q22 m25 hI25 k26 hm2 => by
          rw [g1] at q7 q14
          have gT : ga (si (si (si mem 27 6 (gi mem 27 3)) 27 7 (gi mem 27 3)) 27 5 0) 1 = T := (ga_sv.trans (ga_sv.trans ga_sv)).trans g1
          have kk := k26
          rw [gT] at kk
          exact ⟨rfl, hm2, av_nu S (by omega) ⟨q7, q14⟩ ⟨fun _ => by decide, fun _ => (tz (by omega)).2 ⟨q19, q22⟩⟩ (fo_sv rfl (fo_sv rfl (fo_sv rfl hf))) kk⟩)
        (fun q1 y2 e3 q4 y27 e28 q29 y30 e31 y32 e33 y34 e35 x36 e37 hm2 => by
          rw [g1] at q4 q29
          exact ⟨rfl, hm2, av_sg S (by omega) (fun w => by have w1 := w.1; have w2 := w.2; omega) (fun w => by have w1 := w.1; have w2 := w.2; omega) (fo_sv rfl (fo_sv rfl (fo_sv rfl (fo_sv rfl (fo_sv rfl (fo_sv rfl (hf))))))) (by rw [((gi_sv_ne (by decide)).trans ((gi_sv_ne (by decide)).trans (gi_eqQ (isQ_sv (isQ_sv (isQ_sv (isQ_of rO_e hm)))) rO_4)))]; rfl) (by rw [((gi_sv_ne (by decide)).trans (gi_eqQ (isQ_sv (isQ_sv (isQ_sv (isQ_sv (isQ_of rO_e hm))))) rO_5)), e35, g1]) (by rw [(gi_eqQ (isQ_sv (isQ_sv (isQ_sv (isQ_sv (isQ_sv (isQ_of rO_e hm)))))) rO_3)]; omega)⟩)
        (fun q1 y2 e3 q4 y27 e28 q29 q38 m39 hI39 k40 hm2 => by
          rw [g1] at q4 q29
          have gT : ga (si (si (si mem 27 6 (gi mem 27 3)) 27 7 (gi mem 27 3)) 27 5 0) 1 = T := (ga_sv.trans (ga_sv.trans ga_sv)).trans g1
          have kk := k40
          rw [gT] at kk
          exact ⟨rfl, hm2, av_wd S (by omega) ⟨q4, q29⟩ ⟨fun w => absurd q38 ((tz (by omega)).1 w).1, fun w => absurd rfl w⟩ (fo_sv rfl (fo_sv rfl (fo_sv rfl hf))) kk⟩)
        (fun q1 y2 e3 q4 y27 e28 q29 q38 q41 m42 hI42 k43 hm2 => by
          rw [g1] at q4 q29
          have gT : ga (si (si (si mem 27 6 (gi mem 27 3)) 27 7 (gi mem 27 3)) 27 5 0) 1 = T := (ga_sv.trans (ga_sv.trans ga_sv)).trans g1
          have kk := k43
          rw [gT] at kk
          exact ⟨rfl, hm2, av_wd S (by omega) ⟨q4, q29⟩ ⟨fun w => absurd ((tz (by omega)).1 w).2 q41, fun w => absurd rfl w⟩ (fo_sv rfl (fo_sv rfl (fo_sv rfl hf))) kk⟩)
        (fun q1 y2 e3 q4 y27 e28 q29 q38 q41 m44 hI44 k45 hm2 => by
          rw [g1] at q4 q29
          have gT : ga (si (si (si mem 27 6 (gi mem 27 3)) 27 7 (gi mem 27 3)) 27 5 0) 1 = T := (ga_sv.trans (ga_sv.trans ga_sv)).trans g1
          have kk := k45
          rw [gT] at kk
          exact ⟨rfl, hm2, av_wd S (by omega) ⟨q4, q29⟩ ⟨fun _ => by decide, fun _ => (tz (by omega)).2 ⟨q38, q41⟩⟩ (fo_sv rfl (fo_sv rfl (fo_sv rfl hf))) kk⟩)
        (fun q1 hm2 => ⟨rfl, hm2, av_fi S (by omega) (fo_sv rfl (fo_sv rfl (fo_sv rfl (fo_sv rfl (hf))))) (by rw [(gi_eqQ (isQ_sv (isQ_sv (isQ_sv (isQ_of rO_e hm)))) rO_4)]; rfl) (by rw [((gi_sv_ne (by decide)).trans ((gi_sv_ne (by decide)).trans ((gi_sv_ne (by decide)).trans (gi_sv_ne (by decide)))))])⟩)
set_option maxRecDepth 100000 in
theorem w_av_35 {d : Nat} {mem : zM} {P : Option Value → zM → Prop} {z p : Int32} {lo : List (Nat × Value)} (hm : aTm aT0 mem) (l_0 : zlg lo 0 = some (.ref 27)) (l_1 : zlg lo 1 = some (.int z)) (l_2 : zlg lo 2 = some (.int p)) (ht : zfl mem 27 1 = some (.ref 1)) (h1 : (gi mem 27 2).toInt ≤ (gi mem 27 3).toInt → ∀ lo, zlg lo 0 = some (.ref 27) → zlg lo 1 = some (.int z) → zlg lo 2 = some (.int p) → aTm aT0 mem → yR zpg tX5_advance (d + 1) (87, lo, [], mem) P) (h2 : (gi mem 27 3).toInt < (gi mem 27 2).toInt → ∀ (y2 : Int32), y2.toInt = (gn (ga mem 1) (gi mem 27 3).toInt) → (gn (ga mem 1) (gi mem 27 3).toInt) = 32 → ∀ (x5 : Int32), x5.toInt = ((gi mem 27 3).toInt + 1) → ∀ lo, zlg lo 0 = some (.ref 27) → zlg lo 1 = some (.int z) → zlg lo 2 = some (.int p) → aTm aT0 (si mem 27 3 x5) → yR zpg tX5_advance (d + 1) (35, lo, [], (si mem 27 3 x5)) P) (h3 : (gi mem 27 3).toInt < (gi mem 27 2).toInt → ∀ (y2 : Int32), y2.toInt = (gn (ga mem 1) (gi mem 27 3).toInt) → ¬ (gn (ga mem 1) (gi mem 27 3).toInt) = 32 → ∀ (y7 : Int32), y7.toInt = (gn (ga mem 1) (gi mem 27 3).toInt) → ¬ (gn (ga mem 1) (gi mem 27 3).toInt) = 10 → ∀ lo, zlg lo 0 = some (.ref 27) → zlg lo 1 = some (.int z) → zlg lo 2 = some (.int p) → aTm aT0 mem → yR zpg tX5_advance (d + 1) (87, lo, [], mem) P) (h4 : (gi mem 27 3).toInt < (gi mem 27 2).toInt → ∀ (y2 : Int32), y2.toInt = (gn (ga mem 1) (gi mem 27 3).toInt) → ¬ (gn (ga mem 1) (gi mem 27 3).toInt) = 32 → ∀ (y7 : Int32), y7.toInt = (gn (ga mem 1) (gi mem 27 3).toInt) → (gn (ga mem 1) (gi mem 27 3).toInt) = 10 → ∀ (x10 : Int32), x10.toInt = ((gi mem 27 3).toInt + 1) → ∀ lo, zlg lo 0 = some (.ref 27) → zlg lo 1 = some (.int z) → zlg lo 2 = some (.int p) → aTm aT0 (si mem 27 3 x10) → yR zpg tX5_advance (d + 1) (35, lo, [], (si mem 27 3 x10)) P) : yR zpg tX5_advance (d + 1) (35, lo, [], mem) P := by
  have r2 := rO_r2 hm
  have r3 := rO_r3 hm
  refine wR_la rfl l_0 ?_
  refine wR_gi rfl rO_e rO_3 hm rfl ?_
  refine wR_la rfl l_0 ?_
  refine wR_gi rfl rO_e rO_2 hm rfl ?_
  refine wR_ic_ge rfl (a := (gi mem 27 3).toInt) (c := (gi mem 27 2).toInt) rfl rfl (fun q1 => ?_) (fun q1 => ?_)
  ·
    exact h1 q1 lo l_0 l_1 l_2 hm
  ·
    refine wR_la rfl l_0 ?_
    refine wR_gq rfl rO_e hm ht ?_
    refine wR_la rfl l_0 ?_
    refine wR_gi rfl rO_e rO_3 hm rfl ?_
    refine wN_al (a := (gi mem 27 3).toInt) rfl aR_1 hm rfl rfl (by omega) (fun y2 e3 => ?_)
    refine yR_m 1 (fun _ _ _ _ => rfl) ?_
    refine wR_ic_eq rfl (a := (gn (ga mem 1) (gi mem 27 3).toInt)) (c := 32) e3 rfl (fun q4 => ?_) (fun q4 => ?_)
    ·
      refine wR_la rfl l_0 ?_
      refine yR_m 1 (fun _ _ _ _ => rfl) ?_
      refine wR_gi rfl rO_e rO_3 hm rfl ?_
      refine yR_m 1 (fun _ _ _ _ => rfl) ?_
      refine wN_add (a := (gi mem 27 3).toInt) (b := 1) rfl rfl rfl (by omega) (fun x5 e6 => ?_)
      refine wR_pi rfl rO_e rO_3 hm rfl ?_
      have hm_1 : aTm aT0 (si mem 27 3 x5) := tm_si rO_e rO_3 hm (by rw [e6]; exact (by omega))
      exact yR_m 1 (fun _ _ _ _ => rfl) (h2 q1 y2 e3 q4 x5 e6 lo l_0 l_1 l_2 hm_1)
    ·
      refine wR_la rfl l_0 ?_
      refine wR_gq rfl rO_e hm ht ?_
      refine wR_la rfl l_0 ?_
      refine wR_gi rfl rO_e rO_3 hm rfl ?_
      refine wN_al (a := (gi mem 27 3).toInt) rfl aR_1 hm rfl rfl (by omega) (fun y7 e8 => ?_)
      refine yR_m 1 (fun _ _ _ _ => rfl) ?_
      refine wR_ic_ne rfl (a := (gn (ga mem 1) (gi mem 27 3).toInt)) (c := 10) e8 rfl (fun q9 => ?_) (fun q9 => ?_)
      ·
        exact h3 q1 y2 e3 q4 y7 e8 q9 lo l_0 l_1 l_2 hm
      ·
        refine wR_la rfl l_0 ?_
        refine yR_m 1 (fun _ _ _ _ => rfl) ?_
        refine wR_gi rfl rO_e rO_3 hm rfl ?_
        refine yR_m 1 (fun _ _ _ _ => rfl) ?_
        refine wN_add (a := (gi mem 27 3).toInt) (b := 1) rfl rfl rfl (by omega) (fun x10 e11 => ?_)
        refine wR_pi rfl rO_e rO_3 hm rfl ?_
        have hm_2 : aTm aT0 (si mem 27 3 x10) := tm_si rO_e rO_3 hm (by rw [e11]; exact (by omega))
        exact yR_m 1 (fun _ _ _ _ => rfl) (h4 q1 y2 e3 q4 y7 e8 q9 x10 e11 lo l_0 l_1 l_2 hm_2)

theorem av_35 {z p' : Int32} (hT : T = ga mr 1) (hC : ga mr 28 = ownC) (hN : (gi mr 27 2).toInt = n) (hp : p'.toInt = p) (hz : p < n → (¬ z.toInt = 0 ↔ (0 < p ∧ (ltr (gn T (p - 1)) ∨ dgt (gn T (p - 1)))))) : ∀ (f : Nat) (mem : zM) (lo : List (Nat × Value)), n ≤ (gi mem 27 3).toInt + (f : Int) → p ≤ (gi mem 27 3).toInt → (gi mem 27 3).toInt ≤ n → (∀ i, p ≤ i → i < (gi mem 27 3).toInt → blk (gn T i)) → aTm aT0 mem → zfl mem 27 1 = some (.ref 1) → fo 27 [] avF mr mem → zlg lo 0 = some (.ref 27) → zlg lo 1 = some (.int z) → zlg lo 2 = some (.int p') → yR zpg tX5_advance (d + 1) (35, lo, [], mem) (fun r m => r = none ∧ aTm aT0 m ∧ avQ mr T n p m) := by
  intro f
  induction f with
  | zero =>
    intro mem lo hn h0 h1 hb hm ht hf a0 a1 a2
    have g1 : ga mem 1 = T := (fo_ga hf (by decide) rfl).trans hT.symm
    have g2 : (gi mem 27 2).toInt = n := by rw [fo_gi hf rfl]; exact hN
    exact w_av_35 hm a0 a1 a2 ht
        (fun q1 lo a0 a1 a2 hm2 => av_87 hT hC hN hp hz ⟨h0, h1, hb, fun w => by exfalso; omega⟩ hm2 ht hf a0 a1 a2)
        (fun q1 y2 e3 q4 x5 e6 lo a0 a1 a2 hm2 => by exfalso; omega)
        (fun q1 y2 e3 q4 y7 e8 q9 lo a0 a1 a2 hm2 => av_87 hT hC hN hp hz ⟨h0, h1, hb, fun _ w => by rw [← g1] at w; rcases w with w | w <;> omega⟩ hm2 ht hf a0 a1 a2)
        (fun q1 y2 e3 q4 y7 e8 q9 x10 e11 lo a0 a1 a2 hm2 => by exfalso; omega)
  | succ f ih =>
    intro mem lo hn h0 h1 hb hm ht hf a0 a1 a2
    have g1 : ga mem 1 = T := (fo_ga hf (by decide) rfl).trans hT.symm
    have g2 : (gi mem 27 2).toInt = n := by rw [fo_gi hf rfl]; exact hN
    exact w_av_35 hm a0 a1 a2 ht
        (fun q1 lo a0 a1 a2 hm2 => av_87 hT hC hN hp hz ⟨h0, h1, hb, fun w => by exfalso; omega⟩ hm2 ht hf a0 a1 a2)
        (fun q1 y2 e3 q4 x5 e6 lo a0 a1 a2 hm2 => by
          have e3 : (gi (si mem 27 3 x5) 27 3).toInt = (gi mem 27 3).toInt + 1 := by rw [(gi_eqQ (isQ_of rO_e hm) rO_3)]; omega
          refine ih _ lo (by omega) (by omega) (by omega) (fun i i0 i1 => ?_) hm2 ((zfl_sv_ne (by decide)).trans ht) (fo_sv rfl (hf)) a0 a1 a2
          rw [e3] at i1
          by_cases w : i = (gi mem 27 3).toInt
          · rw [w, ← g1]
            exact Or.inl q4
          · exact hb i i0 (by omega))
        (fun q1 y2 e3 q4 y7 e8 q9 lo a0 a1 a2 hm2 => av_87 hT hC hN hp hz ⟨h0, h1, hb, fun _ w => by rw [← g1] at w; rcases w with w | w <;> omega⟩ hm2 ht hf a0 a1 a2)
        (fun q1 y2 e3 q4 y7 e8 q9 x10 e11 lo a0 a1 a2 hm2 => by
          have e3 : (gi (si mem 27 3 x10) 27 3).toInt = (gi mem 27 3).toInt + 1 := by rw [(gi_eqQ (isQ_of rO_e hm) rO_3)]; omega
          refine ih _ lo (by omega) (by omega) (by omega) (fun i i0 i1 => ?_) hm2 ((zfl_sv_ne (by decide)).trans ht) (fo_sv rfl (hf)) a0 a1 a2
          rw [e3] at i1
          by_cases w : i = (gi mem 27 3).toInt
          · rw [w, ← g1]
            exact Or.inr q9
          · exact hb i i0 (by omega))
set_option maxRecDepth 100000 in
theorem w_av_0 {d : Nat} {mem : zM} {P : Option Value → zM → Prop} {lo : List (Nat × Value)} (hm : aTm aT0 mem) (l_0 : zlg lo 0 = some (.ref 27)) (ht : zfl mem 27 1 = some (.ref 1)) (h1 : (gi mem 27 4).toInt = 1 → ∀ lo, zlg lo 0 = some (.ref 27) → zlg lo 1 = some (.int 1) → zlg lo 2 = some (.int (gi mem 27 3)) → aTm aT0 mem → yR zpg tX5_advance (d + 1) (35, lo, [], mem) P) (h2 : ¬ (gi mem 27 4).toInt = 1 → (gi mem 27 4).toInt = 2 → ∀ lo, zlg lo 0 = some (.ref 27) → zlg lo 1 = some (.int 1) → zlg lo 2 = some (.int (gi mem 27 3)) → aTm aT0 mem → yR zpg tX5_advance (d + 1) (35, lo, [], mem) P) (h3 : ¬ (gi mem 27 4).toInt = 1 → ¬ (gi mem 27 4).toInt = 2 → ¬ (gi mem 27 4).toInt = 3 → ∀ lo, zlg lo 0 = some (.ref 27) → zlg lo 1 = some (.int 0) → zlg lo 2 = some (.int (gi mem 27 3)) → aTm aT0 mem → yR zpg tX5_advance (d + 1) (35, lo, [], mem) P) (h4 : ¬ (gi mem 27 4).toInt = 1 → ¬ (gi mem 27 4).toInt = 2 → (gi mem 27 4).toInt = 3 → ∀ lo, zlg lo 0 = some (.ref 27) → zlg lo 1 = some (.int 1) → zlg lo 2 = some (.int (gi mem 27 3)) → aTm aT0 mem → yR zpg tX5_advance (d + 1) (35, lo, [], mem) P) : yR zpg tX5_advance (d + 1) (0, lo, [], mem) P := by
  have r2 := rO_r2 hm
  have r3 := rO_r3 hm
  refine wR_la rfl l_0 ?_
  refine wR_gi rfl rO_e rO_4 hm rfl ?_
  refine yR_m 1 (fun _ _ _ _ => rfl) ?_
  refine wR_ic_eq rfl (a := (gi mem 27 4).toInt) (c := 1) rfl rfl (fun q1 => ?_) (fun q1 => ?_)
  ·
    refine yR_m 2 (fun _ _ _ _ => rfl) ?_
    refine wR_si rfl rfl (fun lo2 e3 f4 => ?_)
    have lo2_0 := f4 0 _ (by decide) (Or.inl rfl) l_0
    refine wR_la rfl lo2_0 ?_
    refine wR_gi rfl rO_e rO_3 hm rfl ?_
    refine wR_si rfl rfl (fun lo5 e6 f7 => ?_)
    have lo5_1 := f7 1 _ (by decide) (Or.inl rfl) e3
    have lo5_0 := f7 0 _ (by decide) (Or.inl rfl) lo2_0
    exact h1 q1 lo5 lo5_0 lo5_1 e6 hm
  ·
    refine wR_la rfl l_0 ?_
    refine wR_gi rfl rO_e rO_4 hm rfl ?_
    refine yR_m 1 (fun _ _ _ _ => rfl) ?_
    refine wR_ic_eq rfl (a := (gi mem 27 4).toInt) (c := 2) rfl rfl (fun q8 => ?_) (fun q8 => ?_)
    ·
      refine yR_m 2 (fun _ _ _ _ => rfl) ?_
      refine wR_si rfl rfl (fun lo9 e10 f11 => ?_)
      have lo9_0 := f11 0 _ (by decide) (Or.inl rfl) l_0
      refine wR_la rfl lo9_0 ?_
      refine wR_gi rfl rO_e rO_3 hm rfl ?_
      refine wR_si rfl rfl (fun lo12 e13 f14 => ?_)
      have lo12_1 := f14 1 _ (by decide) (Or.inl rfl) e10
      have lo12_0 := f14 0 _ (by decide) (Or.inl rfl) lo9_0
      exact h2 q1 q8 lo12 lo12_0 lo12_1 e13 hm
    ·
      refine wR_la rfl l_0 ?_
      refine wR_gi rfl rO_e rO_4 hm rfl ?_
      refine yR_m 1 (fun _ _ _ _ => rfl) ?_
      refine wR_ic_ne rfl (a := (gi mem 27 4).toInt) (c := 3) rfl rfl (fun q15 => ?_) (fun q15 => ?_)
      ·
        refine yR_m 1 (fun _ _ _ _ => rfl) ?_
        refine wR_si rfl rfl (fun lo16 e17 f18 => ?_)
        have lo16_0 := f18 0 _ (by decide) (Or.inl rfl) l_0
        refine wR_la rfl lo16_0 ?_
        refine wR_gi rfl rO_e rO_3 hm rfl ?_
        refine wR_si rfl rfl (fun lo19 e20 f21 => ?_)
        have lo19_1 := f21 1 _ (by decide) (Or.inl rfl) e17
        have lo19_0 := f21 0 _ (by decide) (Or.inl rfl) lo16_0
        exact h3 q1 q8 q15 lo19 lo19_0 lo19_1 e20 hm
      ·
        refine yR_m 2 (fun _ _ _ _ => rfl) ?_
        refine wR_si rfl rfl (fun lo22 e23 f24 => ?_)
        have lo22_0 := f24 0 _ (by decide) (Or.inl rfl) l_0
        refine wR_la rfl lo22_0 ?_
        refine wR_gi rfl rO_e rO_3 hm rfl ?_
        refine wR_si rfl rfl (fun lo25 e26 f27 => ?_)
        have lo25_1 := f27 1 _ (by decide) (Or.inl rfl) e23
        have lo25_0 := f27 0 _ (by decide) (Or.inl rfl) lo22_0
        exact h4 q1 q8 q15 lo25 lo25_0 lo25_1 e26 hm

theorem h_advance (hm : aTm aT0 mem) (ht : zfl mem 27 1 = some (.ref 1)) (hC : ga mem 28 = ownC) (hT : T = ga mem 1) (hN : (gi mem 27 2).toInt = n) (hp : (gi mem 27 3).toInt = p) (hpn : p ≤ n) (hK : p < n → (((gi mem 27 4).toInt = 1 ∨ (gi mem 27 4).toInt = 2 ∨ (gi mem 27 4).toInt = 3) ↔ (0 < p ∧ (ltr (gn T (p - 1)) ∨ dgt (gn T (p - 1)))))) (hd : 2 ≤ d) : yC zpg d 58 [.ref 27] mem (fun r m => r = none ∧ aTm aT0 m ∧ avQ mem T n p m) := by
  obtain ⟨d, rfl⟩ : ∃ q, d = q + 2 := ⟨d - 2, by omega⟩
  refine yC_of (t := tX5_advance) rfl rfl ?_
  exact w_av_0 hm rfl ht
        (fun q1 lo a0 a1 a2 hm2 => av_35 hT hC hN hp (fun h => ⟨fun _ => (hK h).1 (by omega), fun _ => by decide⟩) 1600 mem lo (by have := rO_r2 hm; have := rO_r3 hm; omega) (by omega) (by omega) (fun i i0 i1 => by omega) hm2 ht fo_rf a0 a1 a2)
        (fun q1 q8 lo a0 a1 a2 hm2 => av_35 hT hC hN hp (fun h => ⟨fun _ => (hK h).1 (by omega), fun _ => by decide⟩) 1600 mem lo (by have := rO_r2 hm; have := rO_r3 hm; omega) (by omega) (by omega) (fun i i0 i1 => by omega) hm2 ht fo_rf a0 a1 a2)
        (fun q1 q8 q15 lo a0 a1 a2 hm2 => av_35 hT hC hN hp (fun h => ⟨fun w => absurd rfl w, fun w => by exfalso; have := (hK h).2 w; omega⟩) 1600 mem lo (by have := rO_r2 hm; have := rO_r3 hm; omega) (by omega) (by omega) (fun i i0 i1 => by omega) hm2 ht fo_rf a0 a1 a2)
        (fun q1 q8 q15 lo a0 a1 a2 hm2 => av_35 hT hC hN hp (fun h => ⟨fun _ => (hK h).1 (by omega), fun _ => by decide⟩) 1600 mem lo (by have := rO_r2 hm; have := rO_r3 hm; omega) (by omega) (by omega) (fun i i0 i1 => by omega) hm2 ht fo_rf a0 a1 a2)
/-- the class's reader at place p: its sign t, which ends at e -/
def cR (T : List Int32) (n p : Int) (t : Tk) (e : Int) (m : zM) : Prop := (zfl m 27 1 = some (.ref 1) ∧ ga m 28 = ownC ∧ ga m 1 = T ∧ (gi m 27 2).toInt = n ∧ 0 ≤ p) ∧ Tok T n p t e ∧ cEnc t (gi m 27 4).toInt (gi m 27 5).toInt ∧ (¬ t.1 = 4 → (gi m 27 3).toInt = e)
theorem h_adv {t : Tk} {e : Int} (hm : aTm aT0 mem) (h : cR T n p t e mem) (h4 : ¬ t.1 = 4) (hd : 2 ≤ d) : yC zpg d 58 [.ref 27] mem (fun r m => r = none ∧ aTm aT0 m ∧ fo 27 [] avF mem m ∧ ∃ t' e', cR T n e t' e' m) := by
  obtain ⟨⟨c1, c2, c3, c4, c5⟩, hT, hE, hA⟩ := h
  have L := Tok_last hT c5
  refine yC_mono (fun r m q => ?_) (h_advance hm c1 c2 c3.symm c4 (hA h4) L.2.2.2.2 (fun hlt => ?_) hd)
  · obtain ⟨q1, q2, q3, t', e', q4, q5, q6⟩ := q
    exact ⟨q1, q2, q3, t', e', ⟨(q3.2 1 rfl).trans c1, (fo_ga q3 (by decide) rfl).trans c2, (fo_ga q3 (by decide) rfl).trans c3, by rw [fo_gi q3 rfl]; exact c4, by omega⟩, q4, q5, q6⟩
  · rcases hE with ⟨w1, w2⟩ | ⟨w1, w2, w3⟩ | ⟨w1, w2, w3⟩ | ⟨w1, w2⟩ | ⟨w1, w2⟩
    · exfalso
      have := L.2.2.1 w1
      omega
    · constructor
      · intro k
        exfalso
        omega
      · intro k
        exact absurd k.2 (L.2.1 w1)
    · exact ⟨fun _ => L.1 (Or.inr w1), fun _ => Or.inr (Or.inr w2)⟩
    · exact absurd w1 h4
    · refine ⟨fun _ => L.1 (Or.inl w1), fun _ => ?_⟩
      rcases w2 with w2 | w2
      · exact Or.inr (Or.inl w2.1)
      · exact Or.inl w2.1
end AV
