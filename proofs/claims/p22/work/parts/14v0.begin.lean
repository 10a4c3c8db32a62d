/-! begin of the model -/
section BG
variable {d : Nat} {mr mem : zM}
abbrev bgK : List Nat := [249, 250, 251, 252, 253, 255]
abbrev bgF : List Nat := [55, 66]
def bgP (mr : zM) (r : Option Value) (m : zM) : Prop := r = none ∧ aTm aT0 m ∧ fr bgK bgF mr m
theorem lo_rg {x y : Int32} (h0 : 0 ≤ x.toInt) (h1 : x.toInt ≤ 9) : 0 ≤ (((1 <<< (x &&& 31)) - 1) &&& y).toInt ∧ (((1 <<< (x &&& 31)) - 1) &&& y).toInt ≤ 511 := by
  have a := sd_shm (1, 1) (0, 9) 1 x (by decide) (by decide) h0 h1
  have b := sd_sub (1, 512) (1, 1) (1 <<< (x &&& 31)) 1 a.1 a.2 (by decide) (by decide)
  exact sd_and (0, 511) (-2147483648, 2147483647) ((1 <<< (x &&& 31)) - 1) y b.1 b.2 (i32_b y).1 (i32_b y).2
set_option maxRecDepth 100000 in
theorem w_bg_113 {d : Nat} {mem : zM} {P : Option Value → zM → Prop} {lo : List (Nat × Value)} (hm : aTm aT0 mem) (l_0 : zlg lo 0 = some (.ref 221)) (h1 : aTm aT0 (si (si (sx mem 253 0 0) 221 55 0) 221 66 0) → P none (si (si (sx mem 253 0 0) 221 55 0) 221 66 0)) : yR zpg tX12_begin d (113, lo, [], mem) P := by
  refine wR_la rfl l_0 ?_
  refine wR_gr rfl mO_e mO_52 hm ?_
  refine yR_m 2 (fun _ _ _ _ => rfl) ?_
  refine wN_as (a := 0) rfl aR_253 hm rfl (by decide) ?_
  have hm_1 : aTm aT0 (sx mem 253 0 0) := tm_sa aR_253 hm (by decide)
  refine wR_la rfl l_0 ?_
  refine yR_m 1 (fun _ _ _ _ => rfl) ?_
  refine wR_pi rfl mO_e mO_55 hm_1 rfl ?_
  have hm_2 : aTm aT0 (si (sx mem 253 0 0) 221 55 0) := tm_si mO_e mO_55 hm_1 (by decide)
  refine wR_la rfl l_0 ?_
  refine yR_m 1 (fun _ _ _ _ => rfl) ?_
  refine wR_pi rfl mO_e mO_66 hm_2 rfl ?_
  have hm_3 : aTm aT0 (si (si (sx mem 253 0 0) 221 55 0) 221 66 0) := tm_si mO_e mO_66 hm_2 (by decide)
  exact yR_rv rfl (h1 hm_3)

theorem bg_113 {lo : List (Nat × Value)} (hm : aTm aT0 mem) (hf : fr bgK bgF mr mem) (a0 : zlg lo 0 = some (.ref 221)) : yR zpg tX12_begin d (113, lo, [], mem) (bgP mr) := by
  exact w_bg_113 hm a0
        (fun  hm2 => ⟨rfl, hm2, fr_sv rfl (fr_sv rfl (fr_sa rfl (hf)))⟩)
set_option maxRecDepth 100000 in
theorem w_bg_81 {d : Nat} {mem : zM} {P : Option Value → zM → Prop} {k : Int32} {lo : List (Nat × Value)} (hm : aTm aT0 mem) (l_0 : zlg lo 0 = some (.ref 221)) (l_1 : zlg lo 1 = some (.int k)) (hk : 0 ≤ k.toInt ∧ k.toInt ≤ 6) (h1 : 6 ≤ (k).toInt → ∀ lo, zlg lo 0 = some (.ref 221) → aTm aT0 mem → yR zpg tX12_begin d (113, lo, [], mem) P) (s1 : (k).toInt < 6 → ∀ (x2 : Int32), x2.toInt = (6 * (gi mem 221 13).toInt) → ∀ (x4 : Int32), x4.toInt = ((6 * (gi mem 221 13).toInt) + (k).toInt) → ∀ (y6 : Int32), y6.toInt = (gn (ga mem 234) ((6 * (gi mem 221 13).toInt) + (k).toInt)) → (0 : Int) ≤ (gn (ga mem 234) ((6 * (gi mem 221 13).toInt) + (k).toInt)) ∧ (gn (ga mem 234) ((6 * (gi mem 221 13).toInt) + (k).toInt)) ≤ 63) (h2 : (k).toInt < 6 → ∀ (x2 : Int32), x2.toInt = (6 * (gi mem 221 13).toInt) → ∀ (x4 : Int32), x4.toInt = ((6 * (gi mem 221 13).toInt) + (k).toInt) → ∀ (y6 : Int32), y6.toInt = (gn (ga mem 234) ((6 * (gi mem 221 13).toInt) + (k).toInt)) → ∀ (x8 : Int32), x8.toInt = ((k).toInt + 1) → ∀ lo, zlg lo 0 = some (.ref 221) → zlg lo 1 = some (.int x8) → aTm aT0 (sx mem 252 k y6) → yR zpg tX12_begin d (81, lo, [], (sx mem 252 k y6)) P) : yR zpg tX12_begin d (81, lo, [], mem) P := by
  obtain ⟨i0, i1⟩ := mO_r13 hm
  refine wR_li rfl l_1 ?_
  refine yR_m 1 (fun _ _ _ _ => rfl) ?_
  refine wR_ic_ge rfl (a := (k).toInt) (c := 6) rfl rfl (fun q1 => ?_) (fun q1 => ?_)
  ·
    exact h1 q1 lo l_0 hm
  ·
    refine wR_la rfl l_0 ?_
    refine wR_gr rfl mO_e mO_51 hm ?_
    refine wR_li rfl l_1 ?_
    refine wR_la rfl l_0 ?_
    refine wR_gr rfl mO_e mO_25 hm ?_
    refine yR_m 1 (fun _ _ _ _ => rfl) ?_
    refine wR_la rfl l_0 ?_
    refine wR_gi rfl mO_e mO_13 hm rfl ?_
    refine wN_mul (a := 6) (b := (gi mem 221 13).toInt) rfl rfl rfl (by omega) (fun x2 e3 => ?_)
    refine wR_li rfl l_1 ?_
    refine wN_add (a := (6 * (gi mem 221 13).toInt)) (b := (k).toInt) rfl e3 rfl (by omega) (fun x4 e5 => ?_)
    refine wN_al (a := ((6 * (gi mem 221 13).toInt) + (k).toInt)) rfl aR_234 hm rfl e5 (by omega) (fun y6 e7 => ?_)
    refine wN_as (a := (k).toInt) rfl aR_252 hm rfl (by omega) ?_
    have hm_1 : aTm aT0 (sx mem 252 k y6) := tm_sa aR_252 hm (by rw [e7]; exact (s1 q1 x2 e3 x4 e5 y6 e7))
    refine wN_in (a := (k).toInt) (b := 1) rfl rfl l_1 rfl rfl (by omega) (fun x8 e9 => fun lo10 e11 f12 => ?_)
    have lo10_0 := f12 0 _ (by decide) (Or.inl rfl) l_0
    exact yR_m 1 (fun _ _ _ _ => rfl) (h2 q1 x2 e3 x4 e5 y6 e7 x8 e9 lo10 lo10_0 e11 hm_1)

theorem bg_81 : ∀ (f : Nat) (k : Int32) (mem : zM) (lo : List (Nat × Value)), k.toInt + (f : Int) = 6 → 0 ≤ k.toInt → aTm aT0 mem → fr bgK bgF mr mem → zlg lo 0 = some (.ref 221) → zlg lo 1 = some (.int k) → yR zpg tX12_begin d (81, lo, [], mem) (bgP mr) := by
  intro f
  induction f with
  | zero =>
    intro k mem lo hk h0 hm hf a0 a1
    exact w_bg_81 hm a0 a1 ⟨h0, by omega⟩
        (fun q1 lo a0 hm => bg_113 hm hf a0)
        (fun q1 x2 e3 x4 e5 y6 e7 => gR_234 hm (by omega) (by omega))
        (fun q1 x2 e3 x4 e5 y6 e7 x8 e9 lo a0 a1 hm => by exfalso; omega)
  | succ f ih =>
    intro k mem lo hk h0 hm hf a0 a1
    have b13 := mO_r13 hm
    exact w_bg_81 hm a0 a1 ⟨h0, by omega⟩
        (fun q1 lo a0 hm => bg_113 hm hf a0)
        (fun q1 x2 e3 x4 e5 y6 e7 => gR_234 hm (by omega) (by omega))
        (fun q1 x2 e3 x4 e5 y6 e7 x8 e9 lo a0 a1 hm => ih _ _ lo (by omega) (by omega) hm (fr_sa rfl (hf)) a0 a1)
set_option maxRecDepth 100000 in
theorem w_bg_40 {d : Nat} {mem : zM} {P : Option Value → zM → Prop} {k : Int32} {lo : List (Nat × Value)} (hm : aTm aT0 mem) (l_0 : zlg lo 0 = some (.ref 221)) (l_1 : zlg lo 1 = some (.int k)) (hk : 0 ≤ k.toInt ∧ k.toInt ≤ 9) (h1 : 9 ≤ (k).toInt → ∀ lo, zlg lo 0 = some (.ref 221) → zlg lo 1 = some (.int 0) → aTm aT0 mem → yR zpg tX12_begin d (81, lo, [], mem) P) (h2 : (k).toInt < 9 → ∀ (x5 : Int32), x5.toInt = (9 * (gi mem 221 13).toInt) → ∀ (x7 : Int32), x7.toInt = ((9 * (gi mem 221 13).toInt) + (k).toInt) → ∀ (y9 : Int32), y9.toInt = (gn (ga mem 230) ((9 * (gi mem 221 13).toInt) + (k).toInt)) → ∀ (x11 : Int32), x11.toInt = ((k).toInt + 1) → ∀ lo, zlg lo 0 = some (.ref 221) → zlg lo 1 = some (.int x11) → aTm aT0 (sx (sx mem 251 k 0) 255 k y9) → yR zpg tX12_begin d (40, lo, [], (sx (sx mem 251 k 0) 255 k y9)) P) : yR zpg tX12_begin d (40, lo, [], mem) P := by
  obtain ⟨i0, i1⟩ := mO_r13 hm
  refine wR_li rfl l_1 ?_
  refine yR_m 1 (fun _ _ _ _ => rfl) ?_
  refine wR_ic_ge rfl (a := (k).toInt) (c := 9) rfl rfl (fun q1 => ?_) (fun q1 => ?_)
  ·
    refine yR_m 1 (fun _ _ _ _ => rfl) ?_
    refine wR_si rfl rfl (fun lo2 e3 f4 => ?_)
    have lo2_0 := f4 0 _ (by decide) (Or.inl rfl) l_0
    exact h1 q1 lo2 lo2_0 e3 hm
  ·
    refine wR_la rfl l_0 ?_
    refine wR_gr rfl mO_e mO_50 hm ?_
    refine wR_li rfl l_1 ?_
    refine yR_m 1 (fun _ _ _ _ => rfl) ?_
    refine wN_as (a := (k).toInt) rfl aR_251 hm rfl (by omega) ?_
    have hm_1 : aTm aT0 (sx mem 251 k 0) := tm_sa aR_251 hm (i32_b _)
    refine wR_la rfl l_0 ?_
    refine wR_gr rfl mO_e mO_57 hm_1 ?_
    refine wR_li rfl l_1 ?_
    refine wR_la rfl l_0 ?_
    refine wR_gr rfl mO_e mO_21 hm_1 ?_
    refine yR_m 1 (fun _ _ _ _ => rfl) ?_
    refine wR_la rfl l_0 ?_
    refine wR_gi rfl mO_e mO_13 hm_1 (gi_sa) ?_
    refine wN_mul (a := 9) (b := (gi mem 221 13).toInt) rfl rfl rfl (by omega) (fun x5 e6 => ?_)
    refine wR_li rfl l_1 ?_
    refine wN_add (a := (9 * (gi mem 221 13).toInt)) (b := (k).toInt) rfl e6 rfl (by omega) (fun x7 e8 => ?_)
    refine wN_al (a := ((9 * (gi mem 221 13).toInt) + (k).toInt)) rfl aR_230 hm_1 (ga_sa_ne (by decide)) e8 (by omega) (fun y9 e10 => ?_)
    refine wN_as (a := (k).toInt) rfl aR_255 hm_1 rfl (by omega) ?_
    have hm_2 : aTm aT0 (sx (sx mem 251 k 0) 255 k y9) := tm_sa aR_255 hm_1 (i32_b _)
    refine wN_in (a := (k).toInt) (b := 1) rfl rfl l_1 rfl rfl (by omega) (fun x11 e12 => fun lo13 e14 f15 => ?_)
    have lo13_0 := f15 0 _ (by decide) (Or.inl rfl) l_0
    exact yR_m 1 (fun _ _ _ _ => rfl) (h2 q1 x5 e6 x7 e8 y9 e10 x11 e12 lo13 lo13_0 e14 hm_2)

theorem bg_40 : ∀ (f : Nat) (k : Int32) (mem : zM) (lo : List (Nat × Value)), k.toInt + (f : Int) = 9 → 0 ≤ k.toInt → aTm aT0 mem → fr bgK bgF mr mem → zlg lo 0 = some (.ref 221) → zlg lo 1 = some (.int k) → yR zpg tX12_begin d (40, lo, [], mem) (bgP mr) := by
  intro f
  induction f with
  | zero =>
    intro k mem lo hk h0 hm hf a0 a1
    exact w_bg_40 hm a0 a1 ⟨h0, by omega⟩
        (fun q1 lo a0 a1 hm => bg_81 6 _ _ lo (by decide) (by decide) hm hf a0 a1)
        (fun q1 x5 e6 x7 e8 y9 e10 x11 e12 lo a0 a1 hm => by exfalso; omega)
  | succ f ih =>
    intro k mem lo hk h0 hm hf a0 a1
    exact w_bg_40 hm a0 a1 ⟨h0, by omega⟩
        (fun q1 lo a0 a1 hm => bg_81 6 _ _ lo (by decide) (by decide) hm hf a0 a1)
        (fun q1 x5 e6 x7 e8 y9 e10 x11 e12 lo a0 a1 hm => ih _ _ lo (by omega) (by omega) hm (fr_sa rfl (fr_sa rfl (hf))) a0 a1)
set_option maxRecDepth 100000 in
theorem w_bg_0 {d : Nat} {mem : zM} {P : Option Value → zM → Prop} {lo : List (Nat × Value)} (hm : aTm aT0 mem) (l_0 : zlg lo 0 = some (.ref 221)) (s1 : ∀ (y1 : Int32), y1.toInt = (gn (ga mem 228) (gi mem 221 13).toInt) → ∀ (y3 : Int32), y3.toInt = (gn (ga mem 232) (gi mem 221 13).toInt) → (0 : Int) ≤ (((1 <<< (y1 &&& 31)) - 1) &&& (y3 ^^^ (-1))).toInt ∧ (((1 <<< (y1 &&& 31)) - 1) &&& (y3 ^^^ (-1))).toInt ≤ 511) (h1 : ∀ (y1 : Int32), y1.toInt = (gn (ga mem 228) (gi mem 221 13).toInt) → ∀ (y3 : Int32), y3.toInt = (gn (ga mem 232) (gi mem 221 13).toInt) → ∀ lo, zlg lo 0 = some (.ref 221) → zlg lo 1 = some (.int 0) → aTm aT0 (sx (sx mem 249 0 0) 250 0 (((1 <<< (y1 &&& 31)) - 1) &&& (y3 ^^^ (-1)))) → yR zpg tX12_begin d (40, lo, [], (sx (sx mem 249 0 0) 250 0 (((1 <<< (y1 &&& 31)) - 1) &&& (y3 ^^^ (-1))))) P) : yR zpg tX12_begin d (0, lo, [], mem) P := by
  obtain ⟨i0, i1⟩ := mO_r13 hm
  refine wR_la rfl l_0 ?_
  refine wR_gr rfl mO_e mO_48 hm ?_
  refine yR_m 2 (fun _ _ _ _ => rfl) ?_
  refine wN_as (a := 0) rfl aR_249 hm rfl (by decide) ?_
  have hm_1 : aTm aT0 (sx mem 249 0 0) := tm_sa aR_249 hm (i32_b _)
  refine wR_la rfl l_0 ?_
  refine wR_gr rfl mO_e mO_49 hm_1 ?_
  refine yR_m 2 (fun _ _ _ _ => rfl) ?_
  refine wR_la rfl l_0 ?_
  refine wR_gr rfl mO_e mO_19 hm_1 ?_
  refine wR_la rfl l_0 ?_
  refine wR_gi rfl mO_e mO_13 hm_1 (gi_sa) ?_
  refine wN_al (a := (gi mem 221 13).toInt) rfl aR_228 hm_1 (ga_sa_ne (by decide)) rfl (by omega) (fun y1 e2 => ?_)
  refine yR_m 3 (fun _ _ _ _ => rfl) ?_
  refine wR_la rfl l_0 ?_
  refine wR_gr rfl mO_e mO_23 hm_1 ?_
  refine wR_la rfl l_0 ?_
  refine wR_gi rfl mO_e mO_13 hm_1 (gi_sa) ?_
  refine wN_al (a := (gi mem 221 13).toInt) rfl aR_232 hm_1 (ga_sa_ne (by decide)) rfl (by omega) (fun y3 e4 => ?_)
  refine yR_m 3 (fun _ _ _ _ => rfl) ?_
  refine wN_as (a := 0) rfl aR_250 hm_1 rfl (by decide) ?_
  have hm_2 : aTm aT0 (sx (sx mem 249 0 0) 250 0 (((1 <<< (y1 &&& 31)) - 1) &&& (y3 ^^^ (-1)))) := tm_sa aR_250 hm_1 (s1 y1 e2 y3 e4)
  refine yR_m 1 (fun _ _ _ _ => rfl) ?_
  refine wR_si rfl rfl (fun lo5 e6 f7 => ?_)
  have lo5_0 := f7 0 _ (by decide) (Or.inl rfl) l_0
  exact h1 y1 e2 y3 e4 lo5 lo5_0 e6 hm_2

theorem h_begin_m (hm : aTm aT0 mem) (hd : 1 ≤ d) : yC zpg d 211 [.ref 221] mem (bgP mem) := by
  obtain ⟨d, rfl⟩ : ∃ q, d = q + 1 := ⟨d - 1, by omega⟩
  have b13 := mO_r13 hm
  have th := gR_228 hm (i := (gi mem 221 13).toInt) b13.1 (by omega)
  refine yC_of (t := tX12_begin) rfl rfl ?_
  exact w_bg_0 hm rfl
        (fun y1 e2 y3 e4 => lo_rg (by omega) (by omega))
        (fun y1 e2 y3 e4 lo a0 a1 hm => bg_40 9 _ _ lo (by decide) (by decide) hm (fr_sa rfl (fr_sa rfl (fr_rf))) a0 a1)
end BG
