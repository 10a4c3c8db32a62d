/-! quay of the model: what is so behind it -/
section QNZ
variable {d : Nat} {mem m mr : zM} {Q : Qd}
/-- what begin leaves -/
def bgZ (Q : Qd) (m0 m : zM) : Prop := (∀ q, ¬ q = 221 → ¬ (249 ≤ q ∧ q ≤ 253) → ¬ q = 255 → zat m q = zat m0 q) ∧ (∀ i, ¬ i = 55 → ¬ i = 66 → zfl m 221 i = zfl m0 221 i) ∧ (WQ Q → tM 0 Q (huA Q) (fsS Q) m) ∧ gn (ga m 253) 0 = 0 ∧ gi m 221 55 = 0
theorem ml_b {x y N : Int32} (hN : 0 ≤ N.toInt ∧ N.toInt ≤ 9) {i : Int} (i0 : 0 ≤ i) (i1 : i < 31) : bt ((((1 : Int32) <<< (N &&& 31)) - 1) &&& (y ^^^ (-1))) i ↔ (i < N.toInt ∧ ¬ bt y i) := by
  rw [bt_aa, bt_xx]
  have z : ∀ M : Fin 10, ∀ j : Fin 31, (((((1 : Int32) <<< (Int32.ofNat M.val &&& 31)) - 1).toBitVec.getLsbD j.val = true) ↔ j.val < M.val) := by decide
  have e := i32_of hN.1
  have q := z ⟨N.toInt.toNat, by omega⟩ ⟨i.toNat, by omega⟩
  rw [← e] at q
  have w : ∀ j : Fin 31, (-1 : Int32).toBitVec.getLsbD j.val = true := by decide
  have w1 := w ⟨i.toNat, by omega⟩
  have q1 : bt (((1 : Int32) <<< (N &&& 31)) - 1) i ↔ i < N.toInt := ⟨fun h => by have h2 : i.toNat < N.toInt.toNat := q.1 h; omega, fun h => q.2 (show i.toNat < N.toInt.toNat by omega)⟩
  rw [q1]
  exact ⟨fun h => ⟨h.1, fun hy => by
    rcases h.2 with u | u
    · exact u.2 w1
    · exact u.1 hy⟩, fun h => ⟨h.1, Or.inr ⟨h.2, w1⟩⟩⟩
theorem ml_r {y N : Int32} (hN : 0 ≤ N.toInt ∧ N.toInt ≤ 9) : 0 ≤ ((((1 : Int32) <<< (N &&& 31)) - 1) &&& (y ^^^ (-1))).toInt ∧ ((((1 : Int32) <<< (N &&& 31)) - 1) &&& (y ^^^ (-1))).toInt ≤ 511 := by
  have z : ∀ M : Fin 10, (((1 : Int32) <<< (Int32.ofNat M.val &&& 31)) - 1).toBitVec.toNat < 512 := by decide
  have e := i32_of hN.1
  have q := z ⟨N.toInt.toNat, by omega⟩
  rw [← e] at q
  refine i9_i ?_
  rw [Int32.toBitVec_and, BitVec.toNat_and]
  exact Nat.lt_of_le_of_lt (Nat.and_le_left) q
set_option maxRecDepth 100000 in
theorem w_nb0 {d : Nat} {mem : zM} {P : Option Value → zM → Prop} {lo : List (Nat × Value)} (hm : aTm aT0 mem) (l_0 : zlg lo 0 = some (.ref 221)) (s1 : ∀ (y1 : Int32), y1.toInt = (gn (ga mem 228) (gi mem 221 13).toInt) → ∀ (y3 : Int32), y3.toInt = (gn (ga mem 232) (gi mem 221 13).toInt) → (0 : Int) ≤ (((1 <<< (y1 &&& 31)) - 1) &&& (y3 ^^^ (-1))).toInt ∧ (((1 <<< (y1 &&& 31)) - 1) &&& (y3 ^^^ (-1))).toInt ≤ 511) (h1 : ∀ (y1 : Int32), y1.toInt = (gn (ga mem 228) (gi mem 221 13).toInt) → ∀ (y3 : Int32), y3.toInt = (gn (ga mem 232) (gi mem 221 13).toInt) → ∀ lo, zlg lo 0 = some (.ref 221) → zlg lo 1 = some (.int 0) → aTm aT0 (sx (sx mem 249 0 0) 250 0 (((1 <<< (y1 &&& 31)) - 1) &&& (y3 ^^^ (-1)))) → yR zpg tX12_begin (d + 1) (40, lo, [], (sx (sx mem 249 0 0) 250 0 (((1 <<< (y1 &&& 31)) - 1) &&& (y3 ^^^ (-1))))) P) : yR zpg tX12_begin (d + 1) (0, lo, [], mem) P := by
  have rb := mO_r13 hm
  refine wR_la rfl l_0 ?_
  refine wR_gr rfl mO_e mO_48 hm ?_
  refine yR_m 2 (fun _ _ _ _ => rfl) ?_
  refine wN_as (a := 0) rfl aR_249 hm rfl (by decide) ?_
  have hm_1 : aTm aT0 (sx mem 249 0 0) := tm_sa aR_249 hm (i32_b _)
  refine wR_la rfl l_0 ?_
  refine wR_gr rfl mO_e mO_49 hm_1 ?_
  refine yR_m 2 (fun _ _ _ _ => rfl) ?_
  refine wR_la rfl l_0 ?_
  refine wR_gr rfl mO_e mO_19 hm_1 ?_
  refine wR_la rfl l_0 ?_
  refine wR_gi rfl mO_e mO_13 hm_1 (gi_sa) ?_
  refine wN_al (a := (gi mem 221 13).toInt) rfl aR_228 hm_1 (ga_sa_ne (by first | decide | omega)) rfl (by omega) (fun y1 e2 => ?_)
  refine yR_m 3 (fun _ _ _ _ => rfl) ?_
  refine wR_la rfl l_0 ?_
  refine wR_gr rfl mO_e mO_23 hm_1 ?_
  refine wR_la rfl l_0 ?_
  refine wR_gi rfl mO_e mO_13 hm_1 (gi_sa) ?_
  refine wN_al (a := (gi mem 221 13).toInt) rfl aR_232 hm_1 (ga_sa_ne (by first | decide | omega)) rfl (by omega) (fun y3 e4 => ?_)
  refine yR_m 3 (fun _ _ _ _ => rfl) ?_
  refine wN_as (a := 0) rfl aR_250 hm_1 rfl (by decide) ?_
  have hm_2 : aTm aT0 (sx (sx mem 249 0 0) 250 0 (((1 <<< (y1 &&& 31)) - 1) &&& (y3 ^^^ (-1)))) := tm_sa aR_250 hm_1 (s1 y1 e2 y3 e4)
  refine yR_m 1 (fun _ _ _ _ => rfl) ?_
  refine wR_si rfl rfl (fun lo5 e6 f7 => ?_)
  have lo5_0 := f7 0 _ (by decide) (Or.inl rfl) l_0
  exact h1 y1 e2 y3 e4 lo5 lo5_0 e6 hm_2

set_option maxRecDepth 100000 in
theorem w_nb40 {d : Nat} {mem : zM} {P : Option Value → zM → Prop} {k : Int32} {lo : List (Nat × Value)} (hm : aTm aT0 mem) (l_0 : zlg lo 0 = some (.ref 221)) (l_1 : zlg lo 1 = some (.int k)) (hk : 0 ≤ k.toInt ∧ k.toInt ≤ 9) (h1 : 9 ≤ (k).toInt → ∀ lo, zlg lo 0 = some (.ref 221) → zlg lo 1 = some (.int 0) → aTm aT0 mem → yR zpg tX12_begin (d + 1) (81, lo, [], mem) P) (h2 : (k).toInt < 9 → ∀ (x5 : Int32), x5.toInt = (9 * (gi mem 221 13).toInt) → ∀ (x7 : Int32), x7.toInt = ((9 * (gi mem 221 13).toInt) + (k).toInt) → ∀ (y9 : Int32), y9.toInt = (gn (ga mem 230) ((9 * (gi mem 221 13).toInt) + (k).toInt)) → ∀ (x11 : Int32), x11.toInt = ((k).toInt + 1) → ∀ lo, zlg lo 0 = some (.ref 221) → zlg lo 1 = some (.int x11) → aTm aT0 (sx (sx mem 251 k 0) 255 k y9) → yR zpg tX12_begin (d + 1) (40, lo, [], (sx (sx mem 251 k 0) 255 k y9)) P) : yR zpg tX12_begin (d + 1) (40, lo, [], mem) P := by
  have rb := mO_r13 hm
  refine wR_li rfl l_1 ?_
  refine yR_m 1 (fun _ _ _ _ => rfl) ?_
  refine wR_ic_ge rfl (a := (k).toInt) (c := 9) rfl rfl (fun q1 => ?_) (fun q1 => ?_)
  ·
    refine yR_m 1 (fun _ _ _ _ => rfl) ?_
    refine wR_si rfl rfl (fun lo2 e3 f4 => ?_)
    have lo2_0 := f4 0 _ (by decide) (Or.inl rfl) l_0
    exact h1 q1 lo2 lo2_0 e3 hm
  ·
    refine wR_la rfl l_0 ?_
    refine wR_gr rfl mO_e mO_50 hm ?_
    refine wR_li rfl l_1 ?_
    refine yR_m 1 (fun _ _ _ _ => rfl) ?_
    refine wN_as (a := (k).toInt) rfl aR_251 hm rfl (by omega) ?_
    have hm_1 : aTm aT0 (sx mem 251 k 0) := tm_sa aR_251 hm (i32_b _)
    refine wR_la rfl l_0 ?_
    refine wR_gr rfl mO_e mO_57 hm_1 ?_
    refine wR_li rfl l_1 ?_
    refine wR_la rfl l_0 ?_
    refine wR_gr rfl mO_e mO_21 hm_1 ?_
    refine yR_m 1 (fun _ _ _ _ => rfl) ?_
    refine wR_la rfl l_0 ?_
    refine wR_gi rfl mO_e mO_13 hm_1 (gi_sa) ?_
    refine wN_mul (a := 9) (b := (gi mem 221 13).toInt) rfl rfl rfl (by omega) (fun x5 e6 => ?_)
    refine wR_li rfl l_1 ?_
    refine wN_add (a := (9 * (gi mem 221 13).toInt)) (b := (k).toInt) rfl e6 rfl (by omega) (fun x7 e8 => ?_)
    refine wN_al (a := ((9 * (gi mem 221 13).toInt) + (k).toInt)) rfl aR_230 hm_1 (ga_sa_ne (by first | decide | omega)) e8 (by omega) (fun y9 e10 => ?_)
    refine wN_as (a := (k).toInt) rfl aR_255 hm_1 rfl (by omega) ?_
    have hm_2 : aTm aT0 (sx (sx mem 251 k 0) 255 k y9) := tm_sa aR_255 hm_1 (i32_b _)
    refine wN_in (a := (k).toInt) (b := 1) rfl rfl l_1 rfl rfl (by omega) (fun x11 e12 => fun lo13 e14 f15 => ?_)
    have lo13_0 := f15 0 _ (by decide) (Or.inl rfl) l_0
    exact yR_m 1 (fun _ _ _ _ => rfl) (h2 q1 x5 e6 x7 e8 y9 e10 x11 e12 lo13 lo13_0 e14 hm_2)

set_option maxRecDepth 100000 in
theorem w_nb81 {d : Nat} {mem : zM} {P : Option Value → zM → Prop} {k : Int32} {lo : List (Nat × Value)} (hm : aTm aT0 mem) (l_0 : zlg lo 0 = some (.ref 221)) (l_1 : zlg lo 1 = some (.int k)) (hk : 0 ≤ k.toInt ∧ k.toInt ≤ 6) (h1 : 6 ≤ (k).toInt → aTm aT0 (si (si (sx mem 253 0 0) 221 55 0) 221 66 0) → P none (si (si (sx mem 253 0 0) 221 55 0) 221 66 0)) (h2 : (k).toInt < 6 → ∀ (x2 : Int32), x2.toInt = (6 * (gi mem 221 13).toInt) → ∀ (x4 : Int32), x4.toInt = ((6 * (gi mem 221 13).toInt) + (k).toInt) → ∀ (y6 : Int32), y6.toInt = (gn (ga mem 234) ((6 * (gi mem 221 13).toInt) + (k).toInt)) → ∀ (x8 : Int32), x8.toInt = ((k).toInt + 1) → ∀ lo, zlg lo 0 = some (.ref 221) → zlg lo 1 = some (.int x8) → aTm aT0 (sx mem 252 k y6) → yR zpg tX12_begin (d + 1) (81, lo, [], (sx mem 252 k y6)) P) : yR zpg tX12_begin (d + 1) (81, lo, [], mem) P := by
  have rb := mO_r13 hm
  have g234 : k.toInt < 6 → 0 ≤ gn (ga mem 234) (6 * (gi mem 221 13).toInt + k.toInt) ∧ gn (ga mem 234) (6 * (gi mem 221 13).toInt + k.toInt) ≤ 63 := fun z => gR_234 hm (by omega) (by omega)
  refine wR_li rfl l_1 ?_
  refine yR_m 1 (fun _ _ _ _ => rfl) ?_
  refine wR_ic_ge rfl (a := (k).toInt) (c := 6) rfl rfl (fun q1 => ?_) (fun q1 => ?_)
  ·
    refine wR_la rfl l_0 ?_
    refine wR_gr rfl mO_e mO_52 hm ?_
    refine yR_m 2 (fun _ _ _ _ => rfl) ?_
    refine wN_as (a := 0) rfl aR_253 hm rfl (by decide) ?_
    have hm_1 : aTm aT0 (sx mem 253 0 0) := tm_sa aR_253 hm (by decide)
    refine wR_la rfl l_0 ?_
    refine yR_m 1 (fun _ _ _ _ => rfl) ?_
    refine wR_pi rfl mO_e mO_55 hm_1 rfl ?_
    have hm_2 : aTm aT0 (si (sx mem 253 0 0) 221 55 0) := tm_si mO_e mO_55 hm_1 (by decide)
    refine wR_la rfl l_0 ?_
    refine yR_m 1 (fun _ _ _ _ => rfl) ?_
    refine wR_pi rfl mO_e mO_66 hm_2 rfl ?_
    have hm_3 : aTm aT0 (si (si (sx mem 253 0 0) 221 55 0) 221 66 0) := tm_si mO_e mO_66 hm_2 (by decide)
    exact yR_rv rfl (h1 q1 hm_3)
  ·
    refine wR_la rfl l_0 ?_
    refine wR_gr rfl mO_e mO_51 hm ?_
    refine wR_li rfl l_1 ?_
    refine wR_la rfl l_0 ?_
    refine wR_gr rfl mO_e mO_25 hm ?_
    refine yR_m 1 (fun _ _ _ _ => rfl) ?_
    refine wR_la rfl l_0 ?_
    refine wR_gi rfl mO_e mO_13 hm rfl ?_
    refine wN_mul (a := 6) (b := (gi mem 221 13).toInt) rfl rfl rfl (by omega) (fun x2 e3 => ?_)
    refine wR_li rfl l_1 ?_
    refine wN_add (a := (6 * (gi mem 221 13).toInt)) (b := (k).toInt) rfl e3 rfl (by omega) (fun x4 e5 => ?_)
    refine wN_al (a := ((6 * (gi mem 221 13).toInt) + (k).toInt)) rfl aR_234 hm rfl e5 (by omega) (fun y6 e7 => ?_)
    refine wN_as (a := (k).toInt) rfl aR_252 hm rfl (by omega) ?_
    have hm_4 : aTm aT0 (sx mem 252 k y6) := tm_sa aR_252 hm (by rw [e7]; exact (by omega))
    refine wN_in (a := (k).toInt) (b := 1) rfl rfl l_1 rfl rfl (by omega) (fun x8 e9 => fun lo10 e11 f12 => ?_)
    have lo10_0 := f12 0 _ (by decide) (Or.inl rfl) l_0
    exact yR_m 1 (fun _ _ _ _ => rfl) (h2 q1 x2 e3 x4 e5 y6 e7 x8 e9 lo10 lo10_0 e11 hm_4)

theorem nb81 (hbr : 0 ≤ (gi mr 221 13).toInt ∧ (gi mr 221 13).toInt ≤ 1) : ∀ (g : Nat) (k : Int32) (mem : zM) (lo : List (Nat × Value)), k.toInt + (g : Int) = 6 → 0 ≤ k.toInt → (∀ q, ¬ q = 252 → zat mem q = zat mr q) → (∀ u, 0 ≤ u → u < k.toInt → gn (ga mem 252) u = gn (ga mr 234) (6 * (gi mr 221 13).toInt + u)) → aTm aT0 mem → zlg lo 0 = some (.ref 221) → zlg lo 1 = some (.int k) → yR zpg tX12_begin (d + 1) (81, lo, [], mem) (fun r m => r = none ∧ aTm aT0 m ∧ ((∀ q, ¬ q = 252 → ¬ q = 253 → ¬ q = 221 → zat m q = zat mr q) ∧ (∀ i, ¬ i = 55 → ¬ i = 66 → zfl m 221 i = zfl mr 221 i) ∧ (∀ u, 0 ≤ u → u < 6 → gn (ga m 252) u = gn (ga mr 234) (6 * (gi mr 221 13).toInt + u)) ∧ gn (ga m 253) 0 = 0 ∧ gi m 221 55 = 0)) := by
  intro g
  induction g with
  | zero =>
    intro k mem lo hg k0 hF hA hm l0 l1
    have hB := tm_sa (j := (0 : Int32).toNatClampNeg) (x := 0) aR_253 hm (by decide)
    have hD := tm_si (x := 0) mO_e mO_55 hB (by decide)
    exact w_nb81 hm l0 l1 ⟨k0, by omega⟩ (fun q1 hm2 => ⟨rfl, hm2, fun q a b c => (zat_sv_ne (fun w => c w.symm)).trans ((zat_sv_ne (fun w => c w.symm)).trans ((zat_sa_ne (fun w => b w.symm)).trans (hF q a))), fun i a b => (zfl_sv_ne (fun w => b w.2.symm)).trans ((zfl_sv_ne (fun w => a w.2.symm)).trans (zfl_sa.trans (zfl_ea (hF 221 (by decide))))), fun u u0 u1 => by rw [ga_sv, ga_sv, ga_sa_ne (by decide)]; exact hA u u0 (by omega), by
      rw [ga_sv, ga_sv]
      show gn (ga (sa mem 253 (0 : Int32).toNatClampNeg 0) 253) 0 = 0
      rw [ga_sa_eq, gn_set (a := 0) rfl (by decide) (by rw [(ga_ty aR_253 hm).2.1]; decide) (by decide), if_pos rfl]
      rfl, by rw [gi_sv_ne (by decide), gi_si_eq mO_e mO_55 hB]⟩) (fun q1 x2 e2 x4 e4 y6 e6 x8 e8 lo a0 a1 hm2 => by exfalso; omega)
  | succ g ih =>
    intro k mem lo hg k0 hF hA hm l0 l1
    have e13 : gi mem 221 13 = gi mr 221 13 := gi_zq (hF 221 (by decide))
    exact w_nb81 hm l0 l1 ⟨k0, by omega⟩ (fun q1 hm2 => by exfalso; omega) (fun q1 x2 e2 x4 e4 y6 e6 x8 e8 lo a0 a1 hm2 => ih _ _ lo (by omega) (by omega) (fun q hq => (zat_sa_ne (fun w => hq w.symm)).trans (hF q hq)) (fun u u0 u1 => by
      show gn (ga (sa mem 252 k.toNatClampNeg y6) 252) u = _
      rw [ga_sa_eq, gn_set rfl k0 (by rw [(ga_ty aR_252 hm).2.1]; omega) u0]
      by_cases w : u = k.toInt
      · rw [if_pos w, e6, ga_zq (hF 234 (by decide)), e13, w]
      · rw [if_neg w]
        exact hA u u0 (by omega)) hm2 a0 a1)
theorem nb40 (hbr : 0 ≤ (gi mr 221 13).toInt ∧ (gi mr 221 13).toInt ≤ 1) : ∀ (g : Nat) (k : Int32) (mem : zM) (lo : List (Nat × Value)), k.toInt + (g : Int) = 9 → 0 ≤ k.toInt → (∀ q, ¬ q = 251 → ¬ q = 255 → zat mem q = zat mr q) → (∀ u, 0 ≤ u → u < k.toInt → gn (ga mem 251) u = 0 ∧ gn (ga mem 255) u = gn (ga mr 230) (9 * (gi mr 221 13).toInt + u)) → aTm aT0 mem → zlg lo 0 = some (.ref 221) → zlg lo 1 = some (.int k) → yR zpg tX12_begin (d + 1) (40, lo, [], mem) (fun r m => r = none ∧ aTm aT0 m ∧ ((∀ q, ¬ (251 ≤ q ∧ q ≤ 253) → ¬ q = 255 → ¬ q = 221 → zat m q = zat mr q) ∧ (∀ i, ¬ i = 55 → ¬ i = 66 → zfl m 221 i = zfl mr 221 i) ∧ (∀ u, 0 ≤ u → u < 9 → gn (ga m 251) u = 0 ∧ gn (ga m 255) u = gn (ga mr 230) (9 * (gi mr 221 13).toInt + u)) ∧ (∀ u, 0 ≤ u → u < 6 → gn (ga m 252) u = gn (ga mr 234) (6 * (gi mr 221 13).toInt + u)) ∧ gn (ga m 253) 0 = 0 ∧ gi m 221 55 = 0)) := by
  intro g
  induction g with
  | zero =>
    intro k mem lo hg k0 hF hA hm l0 l1
    have e13 : gi mem 221 13 = gi mr 221 13 := gi_zq (hF 221 (by decide) (by decide))
    exact w_nb40 hm l0 l1 ⟨k0, by omega⟩ (fun q1 lo a0 a1 hm2 => by
      refine yR_mono ?_ (nb81 (mr := mem) (by rw [e13]; exact hbr) 6 0 mem lo rfl (by decide) (fun _ _ => rfl) (fun u u0 u1 => by exfalso; have z : (0 : Int32).toInt = 0 := rfl; omega) hm2 a0 a1)
      rintro r m ⟨h1, h2, h3, h4, h5, h6, h7⟩
      refine ⟨h1, h2, fun q a b c => (h3 q (by omega) (by omega) c).trans (hF q (by omega) b), fun i a b => (h4 i a b).trans (zfl_ea (hF 221 (by decide) (by decide))), fun u u0 u1 => ?_, fun u u0 u1 => ?_, h6, h7⟩
      · rw [ga_zq (h3 251 (by decide) (by decide) (by decide)), ga_zq (h3 255 (by decide) (by decide) (by decide))]
        exact hA u u0 (by omega)
      · rw [h5 u u0 u1, e13, ga_zq (hF 234 (by decide) (by decide))]) (fun q1 x5 e5 x7 e7 y9 e9 x11 e11 lo a0 a1 hm2 => by exfalso; omega)
  | succ g ih =>
    intro k mem lo hg k0 hF hA hm l0 l1
    have e13 : gi mem 221 13 = gi mr 221 13 := gi_zq (hF 221 (by decide) (by decide))
    exact w_nb40 hm l0 l1 ⟨k0, by omega⟩ (fun q1 lo a0 a1 hm2 => by exfalso; omega) (fun q1 x5 e5 x7 e7 y9 e9 x11 e11 lo a0 a1 hm2 => ih _ _ lo (by omega) (by omega) (fun q a b => (zat_sa_ne (fun w => b w.symm)).trans ((zat_sa_ne (fun w => a w.symm)).trans (hF q a b))) (fun u u0 u1 => by
      have h1 : gn (ga (sx (sx mem 251 k 0) 255 k y9) 251) u = if u = k.toInt then (0 : Int32).toInt else gn (ga mem 251) u := by
        rw [ga_sa_ne (by decide), ga_sa_eq]
        exact gn_set rfl k0 (by rw [(ga_ty aR_251 hm).2.1]; omega) u0
      have h2 : gn (ga (sx (sx mem 251 k 0) 255 k y9) 255) u = if u = k.toInt then y9.toInt else gn (ga mem 255) u := by
        rw [ga_sa_eq, gn_set rfl k0 (by rw [ga_sa_ne (by decide), (ga_ty aR_255 hm).2.1]; omega) u0, ga_sa_ne (by decide)]
      rw [h1, h2]
      by_cases w : u = k.toInt
      · rw [if_pos w, if_pos w, e9, ga_zq (hF 230 (by decide) (by decide)), e13, w]
        exact ⟨rfl, rfl⟩
      · rw [if_neg w, if_neg w]
        exact hA u u0 (by omega)) hm2 a0 a1)
theorem h_bg (hm : aTm aT0 mem) (hQ : mQ (gi mem 221 13).toInt Q mem) (hd : 2 ≤ d) : yC zpg d 211 [.ref 221] mem (fun r m => r = none ∧ aTm aT0 m ∧ bgZ Q mem m) := by
  obtain ⟨d, rfl⟩ : ∃ q, d = q + 2 := ⟨d - 2, by omega⟩
  have rb := mO_r13 hm
  have g28 := gR_228 hm (i := (gi mem 221 13).toInt) rb.1 (by omega)
  have c28 := hQ.2.2.1.1
  refine yC_of (t := tX12_begin) rfl rfl ?_
  exact w_nb0 hm rfl (fun y1 e1 y3 e3 => ml_r ⟨by omega, by omega⟩) (fun y1 e1 y3 e3 lo a0 a1 hm2 => by
    have r1 := ml_r (y := y3) (N := y1) ⟨by omega, by omega⟩
    have hA := tm_sa (j := (0 : Int32).toNatClampNeg) (x := 0) aR_249 hm (i32_b _)
    have e13 : gi (sx (sx mem 249 0 0) 250 0 ((((1 : Int32) <<< (y1 &&& 31)) - 1) &&& (y3 ^^^ (-1)))) 221 13 = gi mem 221 13 := gi_sa.trans gi_sa
    refine yR_mono ?_ (nb40 (mr := sx (sx mem 249 0 0) 250 0 ((((1 : Int32) <<< (y1 &&& 31)) - 1) &&& (y3 ^^^ (-1)))) (by rw [e13]; exact ⟨rb.1, rb.2⟩) 9 0 _ lo rfl (by decide) (fun _ _ _ => rfl) (fun u u0 u1 => by exfalso; have z : (0 : Int32).toInt = 0 := rfl; omega) hm2 a0 a1)
    rintro r m ⟨h1, h2, h3, h4, h5, h6, h7, h8⟩
    refine ⟨h1, h2, fun q a b c => (h3 q (by omega) c a).trans ((zat_sa_ne (by omega)).trans (zat_sa_ne (by omega))), fun i a b => (h4 i a b).trans (zfl_sa.trans zfl_sa), fun hW => ?_, h7, h8⟩
    have t9 : thN Q ≤ 9 := by
      have := hW.2.1.1
      unfold thN
      omega
    have l6 : foN Q ≤ 6 := by
      have := hW.2.1.2.1
      unfold foN
      omega
    have e9 : thN Q = ((Qt Q).length : Int) := rfl
    rw [e13] at h5 h6
    refine ⟨⟨?_, ?_⟩, fun u u0 u1 => ?_, fun u u0 u1 => ?_, fun u u0 u1 => ?_⟩
    · rw [ga_zq (h3 249 (by decide) (by decide) (by decide)), ga_sa_ne (by decide)]
      show gn (ga (sa mem 249 (0 : Int32).toNatClampNeg 0) 249) 0 = 0
      rw [ga_sa_eq, gn_set (a := 0) rfl (by decide) (by rw [(ga_ty aR_249 hm).2.1]; decide) (by decide), if_pos rfl]
      rfl
    · rw [ga_zq (h3 250 (by decide) (by decide) (by decide))]
      show gn (ga (sa (sx mem 249 0 0) 250 (0 : Int32).toNatClampNeg ((((1 : Int32) <<< (y1 &&& 31)) - 1) &&& (y3 ^^^ (-1)))) 250) 0 = (fsM Q).toInt
      rw [ga_sa_eq, gn_set (a := 0) rfl (by decide) (by rw [ga_sa_ne (by decide), (ga_ty aR_250 hm).2.1]; decide) (by decide), if_pos rfl]
      congr 1
      have ey : y3 = (ga mem 232).getD (gi mem 221 13).toInt.toNat 0 := Int32.toInt_inj.1 e3
      refine bt_ex r1.1 (tnF_9 _ hW.2.1.1).1 (fun i i0 i1 => ?_)
      rw [ml_b (x := 0) ⟨by omega, by omega⟩ i0 i1, fsM_b hW i0 i1, show y1.toInt = thN Q by omega]
      by_cases w : i < 9
      · have hq := hQ.2.2.2.1 i i0 w
        rw [← ey] at hq
        rw [hq]
      · exact ⟨fun z => by omega, fun z => by omega⟩
    · have z := (h5 u u0 (by omega)).1
      rw [show (9 * (0 : Int) + u) = u by omega]
      exact z
    · have z := h6 u u0 (by omega)
      rw [show (6 * (0 : Int) + u) = u by omega, z, ga_sa_ne (by decide), ga_sa_ne (by decide)]
      exact (mq_f hQ u0 u1).1
    · have z := (h5 u u0 (by omega)).2
      rw [z, ga_sa_ne (by decide), ga_sa_ne (by decide)]
      exact (mq_g hQ u0 u1).1)
/-- what quay leaves besides, relative to mr -/
def quN (v : Option (Int × Qd)) (mr : zM) (r : Option Value) (m : zM) : Prop := aTm aT0 m ∧ ((∃ (c : Int32) (Q : Qd), v = some (c.toInt, Q) ∧ r = some (.int c) ∧ (WQ Q → tM 0 Q (huA Q) (fsS Q) m) ∧ gn (ga m 253) 0 = 0 ∧ gi m 221 55 = 0 ∧ (∀ k, k ≤ 220 ∨ k = 248 → zat m k = zat mr k) ∧ zfl m 221 54 = zfl mr 221 54 ∧ zfl m 221 56 = zfl mr 221 56) ∨ (v = none ∧ r = some (.int (-1)) ∧ (∀ k, k ≤ 220 ∨ (249 ≤ k ∧ k ≤ 255) → zat m k = zat mr k) ∧ (zfl m 221 54 = zfl mr 221 54 ∧ zfl m 221 55 = zfl mr 221 55 ∧ zfl m 221 56 = zfl mr 221 56) ∧ ga m 248 = (ga mr 248).set 1 ((ga mr 248).getD 1 0 + 1)))
theorem qK_n {k : Nat} (hk : k ≤ 220 ∨ 248 ≤ k) : qK.contains k = false := by
  cases hc : qK.contains k with
  | false => rfl
  | true =>
    have z := List.contains_iff_mem.1 hc
    simp at z
    omega
theorem quN_g {v : Option (Int × Qd)} {X : zM} (F : fr [225, 226, 228, 232, 233] [1, 2, 5, 8, 9, 34] mem X) : ∀ (r : Option Value) (m : zM), quN v X r m → quN v mem r m := by
  have Z : ∀ k, k ≤ 220 ∨ 248 ≤ k → zat X k = zat mem k := fun k hk => F.1 k (by omega) (by
    cases hc : [225, 226, 228, 232, 233].contains k with
    | false => rfl
    | true =>
      have z := List.contains_iff_mem.1 hc
      simp at z
      omega)
  rintro r m ⟨h0, h⟩
  refine ⟨h0, ?_⟩
  rcases h with ⟨c, Q, h1, h2, h3, h4, h5, h6, h7, h8⟩ | ⟨h1, h2, h3, ⟨h4, h5, h6⟩, h7⟩
  · exact Or.inl ⟨c, Q, h1, h2, h3, h4, h5, fun k hk => (h6 k hk).trans (Z k (by omega)), h7.trans (F.2 54 rfl), h8.trans (F.2 56 rfl)⟩
  · exact Or.inr ⟨h1, h2, fun k hk => (h3 k hk).trans (Z k (by omega)), ⟨h4.trans (F.2 54 rfl), h5.trans (F.2 55 rfl), h6.trans (F.2 56 rfl)⟩, by rw [h7, ga_zq (Z 248 (by omega))]⟩
set_option maxRecDepth 100000 in
theorem w_qz198 {d : Nat} {mem : zM} {P : Option Value → zM → Prop} {Q : Qd} {k : Int32} {lo : List (Nat × Value)} (hm : aTm aT0 mem) (l_0 : zlg lo 0 = some (.ref 221)) (l_1 : zlg lo 1 = some (.int k)) (s1 : (gi mem 221 8).toInt ≤ 0 → mQ (gi (si (si (si (si mem 221 10 (gi mem 221 8)) 221 11 (gi mem 221 9)) 221 13 (gi mem 221 34)) 221 46 1) 221 13).toInt Q (si (si (si (si mem 221 10 (gi mem 221 8)) 221 11 (gi mem 221 9)) 221 13 (gi mem 221 34)) 221 46 1)) (h1 : (gi mem 221 8).toInt ≤ 0 → ∀ (m2 : zM), aTm aT0 m2 → bgZ Q (si (si (si (si mem 221 10 (gi mem 221 8)) 221 11 (gi mem 221 9)) 221 13 (gi mem 221 34)) 221 46 1) m2 → aTm aT0 m2 → P (some (.int k)) m2) (h2 : 0 < (gi mem 221 8).toInt → ∀ (y4 : Int32), y4.toInt = (gn (ga mem 248) 1) → aTm aT0 (sx (si (si mem 221 10 (gi mem 221 8)) 221 11 (gi mem 221 9)) 248 1 (y4 + 1)) → P (some (.int (-1))) (sx (si (si mem 221 10 (gi mem 221 8)) 221 11 (gi mem 221 9)) 248 1 (y4 + 1))) : yR zpg tX12_quay (d + 11) (198, lo, [], mem) P := by
  obtain ⟨i0, i1⟩ := mO_r34 hm
  refine wR_la rfl l_0 ?_
  refine wR_la rfl l_0 ?_
  refine wR_gi rfl mO_e mO_8 hm rfl ?_
  refine wR_pi rfl mO_e mO_10 hm rfl ?_
  have hm_1 : aTm aT0 (si mem 221 10 (gi mem 221 8)) := tm_si mO_e mO_10 hm (i32_b _)
  refine wR_la rfl l_0 ?_
  refine wR_la rfl l_0 ?_
  refine wR_gi rfl mO_e mO_9 hm_1 (gi_sv_ne (by first | decide | omega)) ?_
  refine wR_pi rfl mO_e mO_11 hm_1 rfl ?_
  have hm_2 : aTm aT0 (si (si mem 221 10 (gi mem 221 8)) 221 11 (gi mem 221 9)) := tm_si mO_e mO_11 hm_1 (i32_b _)
  refine wR_la rfl l_0 ?_
  refine wR_gi rfl mO_e mO_8 hm_2 ((gi_sv_ne (by first | decide | omega)).trans (gi_sv_ne (by first | decide | omega))) ?_
  refine wR_if_le rfl (a := (gi mem 221 8).toInt) rfl (fun q1 => ?_) (fun q1 => ?_)
  ·
    refine wR_la rfl l_0 ?_
    refine wR_la rfl l_0 ?_
    refine wR_gi rfl mO_e mO_34 hm_2 ((gi_sv_ne (by first | decide | omega)).trans (gi_sv_ne (by first | decide | omega))) ?_
    refine wR_pi rfl mO_e mO_13 hm_2 rfl ?_
    have hm_3 : aTm aT0 (si (si (si mem 221 10 (gi mem 221 8)) 221 11 (gi mem 221 9)) 221 13 (gi mem 221 34)) := tm_si mO_e mO_13 hm_2 (by omega)
    refine wR_la rfl l_0 ?_
    refine yR_m 1 (fun _ _ _ _ => rfl) ?_
    refine wR_pi rfl mO_e mO_46 hm_3 rfl ?_
    have hm_4 : aTm aT0 (si (si (si (si mem 221 10 (gi mem 221 8)) 221 11 (gi mem 221 9)) 221 13 (gi mem 221 34)) 221 46 1) := tm_si mO_e mO_46 hm_3 (by decide)
    refine wR_la rfl l_0 ?_
    refine wR_cv rfl rfl mO_e hm_4 rfl (h_bg (Q := Q) hm_4 (s1 q1) (by omega)) ?_
    rintro _ m2 ⟨rfl, hm2, k3⟩
    show yR zpg tX12_quay (d + 11) (244, lo, [], m2) _
    refine wR_li rfl l_1 ?_
    exact yR_ri rfl (h1 q1 m2 hm2 k3 hm2)
  ·
    refine wR_la rfl l_0 ?_
    refine yR_m 1 (fun _ _ _ _ => rfl) ?_
    refine wR_iv rfl rfl mO_e hm_2 rfl rfl rfl rfl ?_
    show yR zpg tX12_refuses (d + 10) (0, [(0, .ref 221), (1, .int 1)], [], (si (si mem 221 10 (gi mem 221 8)) 221 11 (gi mem 221 9))) _
    refine yR_m 1 (fun _ _ _ _ => rfl) ?_
    refine wR_gr rfl mO_e mO_47 hm_2 ?_
    refine yR_m 2 (fun _ _ _ _ => rfl) ?_
    refine wN_al (a := 1) rfl aR_248 hm_2 ((ga_sv).trans (ga_sv)) rfl (by decide) (fun y4 e5 => ?_)
    refine yR_m 2 (fun _ _ _ _ => rfl) ?_
    refine wN_as (a := 1) rfl aR_248 hm_2 rfl (by decide) ?_
    have hm_5 : aTm aT0 (sx (si (si mem 221 10 (gi mem 221 8)) 221 11 (gi mem 221 9)) 248 1 (y4 + 1)) := tm_sa aR_248 hm_2 (i32_b _)
    refine yR_m 1 (fun _ _ _ _ => rfl) ?_
    refine yR_ri rfl ?_
    show yR zpg tX12_quay (d + 11) (226, lo, [.int (-1)], (sx (si (si mem 221 10 (gi mem 221 8)) 221 11 (gi mem 221 9)) 248 1 (y4 + 1))) _
    exact yR_ri rfl (h2 q1 y4 e5 hm_5)

end QNZ
section QNL
variable {d : Nat} {mr mem m : zM} {T : List Int32} {n p b : Int} {Q : Qd} {v : Option (Int × Qd)} {w : Nat → Int → Int}
theorem qN_198 {k : Int32} {lo : List (Nat × Value)} (hm : aTm aT0 mem) (h : SI mr mem) (hB : vB (gi mr 221 13).toInt mem = w) (hv : (fk mem = 0 ∧ (gi mem 221 34).toInt = b ∧ ∃ Q, v = some (k.toInt, Q) ∧ hqQ Q ∧ mQ b Q mem) ∨ (1 ≤ fk mem ∧ v = none)) (a0 : zlg lo 0 = some (.ref 221)) (a1 : zlg lo 1 = some (.int k)) : yR zpg tX12_quay (d + 11) (198, lo, [], mem) (quN v mr) := by
  have T8 : 0 ≤ (gi mem 221 8).toInt := h.2.1.2
  have F := h.1.1
  have hv : ((gi mem 221 8).toInt = 0 ∧ (gi mem 221 34).toInt = b ∧ ∃ Q, v = some (k.toInt, Q) ∧ hqQ Q ∧ mQ b Q mem) ∨ (1 ≤ (gi mem 221 8).toInt ∧ v = none) := hv
  rcases hv with ⟨g8, eb, Q, e, hq, hQ⟩ | ⟨g8, e⟩
  · exact w_qz198 (Q := Q) hm a0 a1
      (fun q1 => by
        rw [(gi_sv_ne (by decide)).trans (gi_eqO (isO_sv (isO_sv (isO_of hm))) (by decide)), eb]
        exact mQ_fk (ks := []) (is := [10, 11, 13, 46]) (fr_sv rfl (fr_sv rfl (fr_sv rfl (fr_sv rfl (fr_rf))))) rfl hQ)
      (fun q1 m2 hm3 k3 hm2 => by
        obtain ⟨z1, z2, z3, z4, z5⟩ := k3
        have B : ∀ q, ¬ q = 221 → zat (si (si (si (si mem 221 10 (gi mem 221 8)) 221 11 (gi mem 221 9)) 221 13 (gi mem 221 34)) 221 46 1) q = zat mem q := fun q hq => (zat_sv_ne (fun w => hq w.symm)).trans ((zat_sv_ne (fun w => hq w.symm)).trans ((zat_sv_ne (fun w => hq w.symm)).trans (zat_sv_ne (fun w => hq w.symm))))
        exact ⟨hm2, Or.inl ⟨k, Q, e, rfl, z3, z4, z5, fun q hq => (z1 q (by omega) (by omega) (by omega)).trans ((B q (by omega)).trans (F.1 q (by omega) (qK_n (by omega)))), (z2 54 (by decide) (by decide)).trans ((zfl_sv_ne (by decide)).trans ((zfl_sv_ne (by decide)).trans ((zfl_sv_ne (by decide)).trans ((zfl_sv_ne (by decide)).trans (F.2 54 rfl))))), (z2 56 (by decide) (by decide)).trans ((zfl_sv_ne (by decide)).trans ((zfl_sv_ne (by decide)).trans ((zfl_sv_ne (by decide)).trans ((zfl_sv_ne (by decide)).trans (F.2 56 rfl)))))⟩⟩)
      (fun q1 y4 e5 hm2 => by exfalso; omega)
  · exact w_qu_198 hm a0 a1
      (fun q1 m2 hI2 k3 hm2 => by exfalso; omega)
      (fun q1 y4 e5 hm2 => by
        have B : ∀ q, ¬ q = 221 → ¬ q = 248 → zat (sx (si (si mem 221 10 (gi mem 221 8)) 221 11 (gi mem 221 9)) 248 1 (y4 + 1)) q = zat mem q := fun q a b => (zat_sa_ne (fun w => b w.symm)).trans ((zat_sv_ne (fun w => a w.symm)).trans (zat_sv_ne (fun w => a w.symm)))
        have B5 : ∀ i, ¬ i = 10 → ¬ i = 11 → zfl (sx (si (si mem 221 10 (gi mem 221 8)) 221 11 (gi mem 221 9)) 248 1 (y4 + 1)) 221 i = zfl mem 221 i := fun i a b => zfl_sa.trans ((zfl_sv_ne (fun w => b w.2.symm)).trans (zfl_sv_ne (fun w => a w.2.symm)))
        have z248 : zat mem 248 = zat mr 248 := F.1 248 (by decide) (qK_n (by decide))
        have ey : y4 = (ga mr 248).getD 1 0 := by
          have e5 : y4.toInt = gn (ga mem 248) 1 := e5
          rw [ga_zq z248] at e5
          exact Int32.toInt_inj.1 e5
        refine ⟨hm2, Or.inr ⟨e, rfl, fun q hq => (B q (by omega) (by omega)).trans (F.1 q (by omega) (qK_n (by omega))), ⟨(B5 54 (by decide) (by decide)).trans (F.2 54 rfl), (B5 55 (by decide) (by decide)).trans (F.2 55 rfl), (B5 56 (by decide) (by decide)).trans (F.2 56 rfl)⟩, ?_⟩⟩
        show ga (sa _ 248 (Int32.toNatClampNeg 1) (y4 + 1)) 248 = _
        rw [ga_sa_eq, ga_sv, ga_sv, ga_zq z248, ey]
        rfl)
theorem qN_loop : ∀ (f : Nat) (mem : zM) (k : Int32) (lo : List (Nat × Value)), k.toInt + (f : Int) = 1602 → aTm aT0 mem → SI mr mem → vB (gi mr 221 13).toInt mem = w → qG T n b f k.toInt v mem → zlg lo 0 = some (.ref 221) → zlg lo 1 = some (.int k) → yR zpg tX12_quay (d + 11) (169, lo, [], mem) (quN v mr) := by
  intro f
  induction f with
  | zero =>
    intro mem k lo hk hm h hB G a0 a1
    have r4 := mO_r4 hm
    rcases G with ⟨-, g, -⟩ | ⟨g, gv⟩
    · exfalso
      omega
    · have g1 : 1 ≤ (gi mem 221 8).toInt := g
      exact w_qu_169 (mr := mr) hm a0 a1 h
        (fun q1 lo a0 a1 hm => qN_198 (b := b) hm h hB (Or.inr ⟨g, gv⟩) a0 a1)
        (fun q1 q2 lo a0 a1 hm => by exfalso; omega)
        (fun q1 q2 m3 hI3 k4 => by exfalso; omega)
        (fun q1 q2 m3 hI3 k4 m8 hI8 k9 lo a0 a1 hm => by exfalso; omega)
  | succ f ih =>
    intro mem k lo hk hm h hB G a0 a1
    rcases G with ⟨g0, g1, hb, p, Q, hR, hQ, hq, gv⟩ | ⟨g, gv⟩
    · have g8 : (gi mem 221 8).toInt = 0 := g0
      have kb := (i32_b k).1
      have k1 : (k + 1).toInt = k.toInt + 1 := i32_addc rfl (by omega) (by omega)
      have z0 := mR_0 hR
      have eB : 1 - (gi mem 221 34).toInt = (gi mr 221 13).toInt := by
        have u1 : (gi mem 221 34).toInt = 1 - (gi mem 221 13).toInt := h.2.2.1
        have u2 : gi mem 221 13 = gi mr 221 13 := fr_gi h.1.1 rfl
        rw [u2] at u1
        omega
      exact w_qF_169 (mr := mr) (T := T) (n := n) (p := p) (b := b) (Q := Q) hm a0 a1 h hR hb hQ hq
        (fun q1 lo a0 a1 hm => by exfalso; omega)
        (fun q1 q2 lo a0 a1 hm => qN_198 (b := b) hm h hB (Or.inl ⟨g0, hb, Q, gv.trans (pif_t (z0.1 (by omega))), hq, hQ⟩) a0 a1)
        (fun q1 q2 m3 hI3 k4 => k4.1.1.2.1)
        (fun q1 q2 m3 hI3 k4 m8 hI8 k9 lo a0 a1 hm2 => by
          have tq := k9.1
          have K := k9.2
          have gv2 : v = (sSta T n Q p).bind fun x => (sFin T n (k.toInt + 1) x.2).bind fun e => sQL T n f (k.toInt + 1) x.1 e := gv.trans (pif_f (fun w => absurd (z0.2 w) (by omega)))
          have vb := k4.2.2
          rw [eB] at vb
          refine ih m8 _ lo (by omega) hm2 (SI_t k4.1.1 tq) (Eq.trans (vB_fr tq.1 rfl) (Eq.trans vb hB)) ?_ a0 a1
          rw [k1] at K ⊢
          rcases K with ⟨e, h1, h2, h3⟩ | ⟨h1, h2⟩
          · obtain ⟨y, hy, he⟩ := ob_s h1
            obtain ⟨x, hx, ex⟩ := om_s hy
            subst ex
            have u := tq.2.2.2 h2
            have w := k4.1.2 u.1
            have z := sSta_sz hx
            rcases k4.2.1 with ⟨Q', p', e1, -, -, e4⟩ | ⟨e1, -⟩
            · rw [hx] at e1
              cases e1
              refine Or.inl ⟨h2, by omega, ?_, e, Q', h3, mQ_fr tq.1 e4, ?_, ?_⟩
              · rw [fr_gi tq.1 rfl, SI34 k4.1.1, ← SI34 h]
                exact hb
              · unfold hqQ
                rw [z.1, z.2]
                exact hq
              · rw [gv2, hx]
                show (sFin T n (k.toInt + 1) p').bind _ = _
                rw [he]
                rfl
            · rw [hx] at e1
              cases e1
          · refine Or.inr ⟨h2, ?_⟩
            rw [gv2]
            cases hx : sSta T n Q p with
            | none => rfl
            | some x =>
              rw [hx] at h1
              have h4 : sFin T n (k.toInt + 1) x.2 = none := h1
              show (sFin T n (k.toInt + 1) x.2).bind _ = none
              rw [h4]
              rfl)
    · have g1 : 1 ≤ (gi mem 221 8).toInt := g
      exact w_qu_169 (mr := mr) hm a0 a1 h
        (fun q1 lo a0 a1 hm => qN_198 (b := b) hm h hB (Or.inr ⟨g, gv⟩) a0 a1)
        (fun q1 q2 lo a0 a1 hm => by exfalso; omega)
        (fun q1 q2 m3 hI3 k4 => by exfalso; omega)
        (fun q1 q2 m3 hI3 k4 m8 hI8 k9 lo a0 a1 hm => by exfalso; omega)
theorem qN_149 {lo : List (Nat × Value)} (hm : aTm aT0 mem) (H : qH mr) (hf : fr [227, 236] [] mr mem) (k6 : ∀ w, 0 ≤ w → w < 3 → gn (ga mem 236) (3 * (gi mr 221 13).toInt + w) = gn (ga mr 236) (3 * (gi mr 221 13).toInt + w)) (n6 : ∀ w, 0 ≤ w → w < 3 → gn (ga mem 236) (3 * (gi mr 221 34).toInt + w) = -1) (hC : qC (gi mr 221 34).toInt mem) (hN : (gi mem 221 2).toInt = n) (hT : ga mem 222 = T) (hW : vB (gi mr 221 13).toInt mem = w) (a0 : zlg lo 0 = some (.ref 221)) : yR zpg tX12_quay (d + 11) (149, lo, [], mem) (quN (sQua T n) mr) := by
  have h0 := H
  obtain ⟨h8, h5, hi, rb1, rb2⟩ := H
  have rb := And.intro rb1 rb2
  have m8 : (gi mem 221 8).toInt = 0 := by rw [fr_gi hf rfl]; exact h8
  have m5 : (gi mem 221 5).toInt = 0 := by rw [fr_gi hf rfl]; exact h5
  have e34 : (gi mem 221 34).toInt = (gi mr 221 34).toInt := by rw [fr_gi hf rfl]
  have eB : 1 - (gi mr 221 34).toInt = (gi mr 221 13).toInt := by omega
  have r2 := mO_r2 hm
  exact w_qF_149 (T := T) (n := n) (b := (gi mr 221 34).toInt) hm a0 (by omega) m5 hN hT m8 e34
        (fun m4 hI4 k5 => by rw [fr_gi k5.1.1 rfl, gi_sv_ne (by decide)]; omega)
        (fun m4 hI4 k5 => by rw [fr_gi k5.1.1 rfl, gi_sv_ne (by decide)]; omega)
        (fun m4 hI4 k5 => ⟨k5.1.2.1, by show 0 ≤ (gi m4 221 8).toInt; rw [fr_gi k5.1.1 rfl, gi_sv_ne (by decide)]; omega⟩)
        (fun m4 hI4 k5 m6 hI6 k7 => k7.1.1.2.1)
        (fun m4 hI4 k5 m6 hI6 k7 m8 hI8 k9 lo a0 a1 hm2 => by
          have F1 : fr [227, 236] [33] mr (si mem 221 33 0) := fr_sv rfl (fr_up hf rfl rfl)
          have r4 := mO_r4 hm2
          have e6 : ga (si mem 221 33 0) 236 = ga mem 236 := ga_sv
          have SI1 := SI_go F1 (by rw [gi_eqO (isO_of hm) (by decide)]; rfl) hi rb (by rw [e6]; exact k6) (by rw [e6]; exact n6) k5.1 k7.1.1 k7.1.2 k9.1 hI4
          have FA : fr [223, 224] [3, 4, 5, 6, 7, 8, 9, 12, 33] mem m6 := fr_tr (fr_up (fr_sv (i := 33) (ks := []) (is := [33]) rfl fr_rf) rfl rfl) (fr_tr (fr_up k5.1.1 rfl rfl) (fr_up k7.1.1.1 rfl rfl))
          refine qN_loop (T := T) (n := n) (b := (gi mr 221 34).toInt) 1601 _ 1 lo (by decide) hm2 SI1 (Eq.trans (vB_fr k9.1.1 rfl) (Eq.trans (eB ▸ k7.2.2) (Eq.trans (vB_fr k5.1.1 rfl) (Eq.trans vB_sv hW)))) ?_ a0 a1
          rcases k9.2 with ⟨e, h1, h2, h3⟩ | ⟨h1, h2⟩
          · obtain ⟨y, hy, he⟩ := ob_s h1
            obtain ⟨x, hx, ex⟩ := om_s hy
            subst ex
            rcases k7.2.1 with ⟨x', q1, -, -, q4, q5⟩ | ⟨q1, -⟩
            · rw [hx] at q1
              cases q1
              exact qG_i h2 (by omega) (by rw [SI34 SI1]) h3 (mQ_fr k9.1.1 (mQ_new (qC_fr FA rfl rfl rfl rfl rfl rfl rfl hC) q4 q5)) hx (sQua_s hx he)
            · rw [hx] at q1
              cases q1
          · exact Or.inr ⟨h2, sQua_n h1⟩)
theorem qN_124 (H : qH mr) : ∀ (f : Nat) (mem : zM) (k : Int32) (lo : List (Nat × Value)), k.toInt + (f : Int) = 3 * (gi mr 221 34).toInt + 3 → 3 * (gi mr 221 34).toInt ≤ k.toInt → aTm aT0 mem → fr [227, 236] [] mr mem → (∀ w, 0 ≤ w → w < 3 → gn (ga mem 236) (3 * (gi mr 221 13).toInt + w) = gn (ga mr 236) (3 * (gi mr 221 13).toInt + w)) → (∀ w, 0 ≤ w → 3 * (gi mr 221 34).toInt + w < k.toInt → gn (ga mem 236) (3 * (gi mr 221 34).toInt + w) = -1) → (∀ c, 0 ≤ c → c < 64 → gn (ga mem 227) (64 * (gi mr 221 34).toInt + c) = 0) → (gn (ga mr 228) (gi mr 221 34).toInt = 0 ∧ gn (ga mr 233) (gi mr 221 34).toInt = 0 ∧ (ga mr 232).getD (gi mr 221 34).toInt.toNat 0 = 0 ∧ gn (ga mr 225) (gi mr 221 34).toInt = 3 ∧ gn (ga mr 226) (gi mr 221 34).toInt = 0) → (gi mr 221 2).toInt = n → ga mr 222 = T → vB (gi mr 221 13).toInt mem = w → zlg lo 0 = some (.ref 221) → zlg lo 1 = some (.int k) → yR zpg tX12_quay (d + 11) (124, lo, [], mem) (quN (sQua T n) mr) := by
  obtain ⟨-, -, hi, rb1, rb2⟩ := id H
  have rb := And.intro rb1 rb2
  intro f
  induction f with
  | zero =>
    intro mem k lo hk h0 hm hf k6 n6 c7 c8 hN hT hW a0 a1
    have e34 : gi mem 221 34 = gi mr 221 34 := fr_gi hf rfl
    have e34i : (gi mem 221 34).toInt = (gi mr 221 34).toInt := by rw [e34]
    exact w_qu_124 hm a0 a1 (by rw [e34]; omega)
        (fun x1 e2 x3 e4 q5 lo a0 hm => qN_149 hm H hf k6 (fun w w0 w1 => n6 w w0 (by omega)) ⟨by rw [fr_ga hf (by decide) rfl, fr_ga hf (k := 233) (by decide) rfl, fr_ga hf (k := 232) (by decide) rfl]; exact ⟨c8.1, c8.2.1, c8.2.2.1⟩, c7, fun w w0 w1 => n6 w w0 (by omega), by rw [fr_ga hf (k := 225) (by decide) rfl]; exact c8.2.2.2.1, by rw [fr_ga hf (k := 226) (by decide) rfl]; exact c8.2.2.2.2⟩ (by rw [fr_gi hf rfl]; exact hN) (by rw [fr_ga hf (by decide) rfl]; exact hT) hW a0)
        (fun x1 e2 x3 e4 q5 x6 e7 lo a0 a1 hm => by exfalso; omega)
  | succ f ih =>
    intro mem k lo hk h0 hm hf k6 n6 c7 c8 hN hT hW a0 a1
    have e34 : gi mem 221 34 = gi mr 221 34 := fr_gi hf rfl
    have e34i : (gi mem 221 34).toInt = (gi mr 221 34).toInt := by rw [e34]
    have gl6 := gl_236 hm
    exact w_qu_124 hm a0 a1 (by rw [e34]; omega)
        (fun x1 e2 x3 e4 q5 lo a0 hm => qN_149 hm H hf k6 (fun w w0 w1 => n6 w w0 (by omega)) ⟨by rw [fr_ga hf (by decide) rfl, fr_ga hf (k := 233) (by decide) rfl, fr_ga hf (k := 232) (by decide) rfl]; exact ⟨c8.1, c8.2.1, c8.2.2.1⟩, c7, fun w w0 w1 => n6 w w0 (by omega), by rw [fr_ga hf (k := 225) (by decide) rfl]; exact c8.2.2.2.1, by rw [fr_ga hf (k := 226) (by decide) rfl]; exact c8.2.2.2.2⟩ (by rw [fr_gi hf rfl]; exact hN) (by rw [fr_ga hf (by decide) rfl]; exact hT) hW a0)
        (fun x1 e2 x3 e4 q5 x6 e7 lo a0 a1 hm2 => ih _ _ lo (by omega) (by omega) hm2 (fr_sa rfl (hf)) (fun w w0 w1 => by rw [ga_sa_eq, gn_set (a := k.toInt) rfl (by omega) (by omega) (by omega), if_neg (by omega)]; exact k6 w w0 w1) (fun w w0 w1 => by
          rw [ga_sa_eq, gn_set (a := k.toInt) rfl (by omega) (by omega) (by omega)]
          by_cases q : 3 * (gi mr 221 34).toInt + w = k.toInt
          · rw [if_pos q]; rfl
          · rw [if_neg q]; exact n6 w w0 (by omega)) (fun c c0 c1 => by rw [ga_sa_ne (by decide)]; exact c7 c c0 c1) c8 hN hT (Eq.trans (vB_sa (s := 3) rfl (by decide) (by omega) (fun i i0 i1 => by omega) (by omega)) hW) a0 a1)
theorem qN_90 (H : qH mr) : ∀ (f : Nat) (mem : zM) (k : Int32) (lo : List (Nat × Value)), k.toInt + (f : Int) = 64 → 0 ≤ k.toInt → aTm aT0 mem → fr [227] [] mr mem → (∀ c, 0 ≤ c → c < k.toInt → gn (ga mem 227) (64 * (gi mr 221 34).toInt + c) = 0) → (gn (ga mr 228) (gi mr 221 34).toInt = 0 ∧ gn (ga mr 233) (gi mr 221 34).toInt = 0 ∧ (ga mr 232).getD (gi mr 221 34).toInt.toNat 0 = 0 ∧ gn (ga mr 225) (gi mr 221 34).toInt = 3 ∧ gn (ga mr 226) (gi mr 221 34).toInt = 0) → (gi mr 221 2).toInt = n → ga mr 222 = T → vB (gi mr 221 13).toInt mem = w → zlg lo 0 = some (.ref 221) → zlg lo 1 = some (.int k) → yR zpg tX12_quay (d + 11) (90, lo, [], mem) (quN (sQua T n) mr) := by
  obtain ⟨-, -, hi, rb1, rb2⟩ := id H
  intro f
  induction f with
  | zero =>
    intro mem k lo hk h0 hm hf c7 c8 hN hT hW a0 a1
    have e34 : gi mem 221 34 = gi mr 221 34 := fr_gi hf rfl
    have e34i : (gi mem 221 34).toInt = (gi mr 221 34).toInt := by rw [e34]
    exact w_qu_90 hm a0 a1 ⟨h0, by omega⟩
        (fun q1 x2 e3 lo a0 a1 hm => qN_124 H 3 _ _ lo (by omega) (by omega) hm (fr_up hf rfl rfl) (fun w _ _ => by rw [fr_ga hf (by decide) rfl]) (fun w w0 w1 => by exfalso; omega) (fun c c0 c1 => c7 c c0 (by omega)) c8 hN hT hW a0 a1)
        (fun q1 x7 e8 x9 e10 x11 e12 lo a0 a1 hm => by exfalso; omega)
  | succ f ih =>
    intro mem k lo hk h0 hm hf c7 c8 hN hT hW a0 a1
    have e34 : gi mem 221 34 = gi mr 221 34 := fr_gi hf rfl
    have e34i : (gi mem 221 34).toInt = (gi mr 221 34).toInt := by rw [e34]
    have gl7 := gl_227 hm
    exact w_qu_90 hm a0 a1 ⟨h0, by omega⟩
        (fun q1 x2 e3 lo a0 a1 hm => qN_124 H 3 _ _ lo (by omega) (by omega) hm (fr_up hf rfl rfl) (fun w _ _ => by rw [fr_ga hf (by decide) rfl]) (fun w w0 w1 => by exfalso; omega) (fun c c0 c1 => c7 c c0 (by omega)) c8 hN hT hW a0 a1)
        (fun q1 x7 e8 x9 e10 x11 e12 lo a0 a1 hm2 => ih _ _ lo (by omega) (by omega) hm2 (fr_sa rfl (hf)) (fun c c0 c1 => by
          rw [ga_sa_eq, gn_set (a := 64 * (gi mr 221 34).toInt + k.toInt) (by omega) (by omega) (by omega) (by omega)]
          by_cases q : 64 * (gi mr 221 34).toInt + c = 64 * (gi mr 221 34).toInt + k.toInt
          · rw [if_pos q]; rfl
          · rw [if_neg q]; exact c7 c c0 (by omega)) c8 hN hT (Eq.trans (vB_sa (s := 64) rfl (by decide) (by omega) (fun i i0 i1 => by omega) (by omega)) hW) a0 a1)
theorem h_quaN (hm : aTm aT0 mem) (hd : 12 ≤ d) : yC zpg d 206 [.ref 221] mem (quN (sQua (ga mem 222) (gi mem 221 1).toInt) mem) := by
  obtain ⟨d, rfl⟩ : ∃ q, d = q + 12 := ⟨d - 12, by omega⟩
  have rb := mO_r13 hm
  refine yC_of (t := tX12_quay) rfl rfl ?_
  exact w_qu_0 hm rfl
        (fun x1 e2 lo a0 a1 hm2 => by
          have FX : fr [225, 226, 228, 232, 233] [1, 2, 5, 8, 9, 34] mem (sx (sx (sx (sx (sx (si (si (si (si (si (si mem 221 2 (gi mem 221 1)) 221 1 0) 221 5 0) 221 8 0) 221 9 (-1)) 221 34 x1) 225 x1 3) 226 x1 0) 228 x1 0) 232 x1 0) 233 x1 0) := fr_sa rfl (fr_sa rfl (fr_sa rfl (fr_sa rfl (fr_sa rfl (fr_sv rfl (fr_sv rfl (fr_sv rfl (fr_sv rfl (fr_sv rfl (fr_sv rfl (fr_rf)))))))))))
          have g13 : gi (sx (sx (sx (sx (sx (si (si (si (si (si (si mem 221 2 (gi mem 221 1)) 221 1 0) 221 5 0) 221 8 0) 221 9 (-1)) 221 34 x1) 225 x1 3) 226 x1 0) 228 x1 0) 232 x1 0) 233 x1 0) 221 13 = gi mem 221 13 := fr_gi FX rfl
          have H : qH (sx (sx (sx (sx (sx (si (si (si (si (si (si mem 221 2 (gi mem 221 1)) 221 1 0) 221 5 0) 221 8 0) 221 9 (-1)) 221 34 x1) 225 x1 3) 226 x1 0) 228 x1 0) 232 x1 0) 233 x1 0) := ⟨by rw [((gi_sa).trans ((gi_sa).trans ((gi_sa).trans ((gi_sa).trans ((gi_sa).trans ((gi_sv_ne (by decide)).trans ((gi_sv_ne (by decide)).trans (gi_eqO (isO_sv (isO_sv (isO_sv (isO_of hm)))) (by decide)))))))))]; rfl, by rw [((gi_sa).trans ((gi_sa).trans ((gi_sa).trans ((gi_sa).trans ((gi_sa).trans ((gi_sv_ne (by decide)).trans ((gi_sv_ne (by decide)).trans ((gi_sv_ne (by decide)).trans (gi_eqO (isO_sv (isO_sv (isO_of hm))) (by decide))))))))))]; rfl, by rw [((gi_sa).trans ((gi_sa).trans ((gi_sa).trans ((gi_sa).trans ((gi_sa).trans (gi_eqO (isO_sv (isO_sv (isO_sv (isO_sv (isO_sv (isO_of hm)))))) (by decide))))))), g13]; omega, by rw [g13]; exact rb.1, by rw [g13]; exact rb.2⟩
          have g46 : gi (sx (sx (sx (sx (sx (si (si (si (si (si (si mem 221 2 (gi mem 221 1)) 221 1 0) 221 5 0) 221 8 0) 221 9 (-1)) 221 34 x1) 225 x1 3) 226 x1 0) 228 x1 0) 232 x1 0) 233 x1 0) 221 46 = gi mem 221 46 := fr_gi FX rfl
          refine yR_mono (quN_g FX) (qN_90 (w := vB (gi mem 221 13).toInt mem) H 64 _ 0 lo (by decide) (by decide) hm2 fr_rf (fun c c0 c1 => by exfalso; have c2 : c < 0 := c1; omega) ⟨(by rw [((gi_sa).trans ((gi_sa).trans ((gi_sa).trans ((gi_sa).trans ((gi_sa).trans (gi_eqO (isO_sv (isO_sv (isO_sv (isO_sv (isO_sv (isO_of hm)))))) (by decide))))))), ((ga_sa_ne (by decide)).trans ((ga_sa_ne (by decide)).trans (ga_sa_eq.trans (congrArg (fun l => List.set l x1.toNatClampNeg 0) ((ga_sa_ne (by decide)).trans ((ga_sa_ne (by decide)).trans ((ga_sv).trans ((ga_sv).trans ((ga_sv).trans ((ga_sv).trans ((ga_sv).trans (ga_sv)))))))))))), gn_set (a := (x1).toInt) rfl (by omega) (by rw [gl_228 hm]; omega) (by omega), if_pos rfl]; rfl), (by rw [((gi_sa).trans ((gi_sa).trans ((gi_sa).trans ((gi_sa).trans ((gi_sa).trans (gi_eqO (isO_sv (isO_sv (isO_sv (isO_sv (isO_sv (isO_of hm)))))) (by decide))))))), (ga_sa_eq.trans (congrArg (fun l => List.set l x1.toNatClampNeg 0) ((ga_sa_ne (by decide)).trans ((ga_sa_ne (by decide)).trans ((ga_sa_ne (by decide)).trans ((ga_sa_ne (by decide)).trans ((ga_sv).trans ((ga_sv).trans ((ga_sv).trans ((ga_sv).trans ((ga_sv).trans (ga_sv)))))))))))), gn_set (a := (x1).toInt) rfl (by omega) (by rw [gl_233 hm]; omega) (by omega), if_pos rfl]; rfl), ?_, (by rw [((gi_sa).trans ((gi_sa).trans ((gi_sa).trans ((gi_sa).trans ((gi_sa).trans (gi_eqO (isO_sv (isO_sv (isO_sv (isO_sv (isO_sv (isO_of hm)))))) (by decide))))))), ((ga_sa_ne (by decide)).trans ((ga_sa_ne (by decide)).trans ((ga_sa_ne (by decide)).trans ((ga_sa_ne (by decide)).trans (ga_sa_eq.trans (congrArg (fun l => List.set l x1.toNatClampNeg 3) ((ga_sv).trans ((ga_sv).trans ((ga_sv).trans ((ga_sv).trans ((ga_sv).trans (ga_sv)))))))))))), gn_set (a := (x1).toInt) rfl (by omega) (by rw [gl_225 hm]; omega) (by omega), if_pos rfl]; rfl), (by rw [((gi_sa).trans ((gi_sa).trans ((gi_sa).trans ((gi_sa).trans ((gi_sa).trans (gi_eqO (isO_sv (isO_sv (isO_sv (isO_sv (isO_sv (isO_of hm)))))) (by decide))))))), ((ga_sa_ne (by decide)).trans ((ga_sa_ne (by decide)).trans ((ga_sa_ne (by decide)).trans (ga_sa_eq.trans (congrArg (fun l => List.set l x1.toNatClampNeg 0) ((ga_sa_ne (by decide)).trans ((ga_sv).trans ((ga_sv).trans ((ga_sv).trans ((ga_sv).trans ((ga_sv).trans (ga_sv)))))))))))), gn_set (a := (x1).toInt) rfl (by omega) (by rw [gl_226 hm]; omega) (by omega), if_pos rfl]; rfl)⟩ (by rw [((gi_sa).trans ((gi_sa).trans ((gi_sa).trans ((gi_sa).trans ((gi_sa).trans ((gi_sv_ne (by decide)).trans ((gi_sv_ne (by decide)).trans ((gi_sv_ne (by decide)).trans ((gi_sv_ne (by decide)).trans ((gi_sv_ne (by decide)).trans (gi_eqO (isO_of hm) (by decide))))))))))))]) (fr_ga FX (by decide) rfl) (by rw [g13]; exact (Eq.trans (vB_sa (s := 1) rfl (by decide) (by omega) (fun i i0 i1 => by omega) (by omega)) (Eq.trans (vB_sa (s := 1) rfl (by decide) (by omega) (fun i i0 i1 => by omega) (by omega)) (Eq.trans (vB_sa (s := 1) rfl (by decide) (by omega) (fun i i0 i1 => by omega) (by omega)) (Eq.trans (vB_sa (s := 1) rfl (by decide) (by omega) (fun i i0 i1 => by omega) (by omega)) (Eq.trans (vB_sa (s := 1) rfl (by decide) (by omega) (fun i i0 i1 => by omega) (by omega)) (Eq.trans vB_sv (Eq.trans vB_sv (Eq.trans vB_sv (Eq.trans vB_sv (Eq.trans vB_sv vB_sv))))))))))) a0 a1)
          have l32 := gl_232 hm
          have cl : (x1).toNatClampNeg = (x1).toInt.toNat := by
            have := zclamp (x := x1) (by omega)
            omega
          rw [((gi_sa).trans ((gi_sa).trans ((gi_sa).trans ((gi_sa).trans ((gi_sa).trans (gi_eqO (isO_sv (isO_sv (isO_sv (isO_sv (isO_sv (isO_of hm)))))) (by decide))))))), ((ga_sa_ne (by decide)).trans (ga_sa_eq.trans (congrArg (fun l => List.set l x1.toNatClampNeg 0) ((ga_sa_ne (by decide)).trans ((ga_sa_ne (by decide)).trans ((ga_sa_ne (by decide)).trans ((ga_sv).trans ((ga_sv).trans ((ga_sv).trans ((ga_sv).trans ((ga_sv).trans (ga_sv)))))))))))), cl, List.getD_eq_getElem?_getD, List.getElem?_set_self (by omega)]
          rfl)
end QNL
