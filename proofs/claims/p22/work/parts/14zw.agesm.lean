/-! a night: the model -/
section TKA
variable {d : Nat} {mem : zM} {Q : Qd} {S : Sd} {hu : Int → Int}
/-- what a night writes down -/
noncomputable def kpR (T : Int → Prop) (x : Int32) (N : Int) (K : Kd) : Nat → Kd
  | 0 => K
  | n + 1 => if cdB (T (n : Int)) = true then kpP (kpR T x N K n) (N, (n : Int), btI x (n : Int)) else kpR T x N K n
theorem kpR_s {T : Int → Prop} {x : Int32} {N k k' : Int} {K : Kd} (k0 : 0 ≤ k) (e' : k' = k + 1) : kpR T x N K k'.toNat = if cdB (T k) = true then kpP (kpR T x N K k.toNat) (N, k, btI x k) else kpR T x N K k.toNat := by
  rw [show k'.toNat = k.toNat + 1 by omega]
  show (if cdB (T ((k.toNat : Nat) : Int)) = true then kpP (kpR T x N K k.toNat) (N, ((k.toNat : Nat) : Int), btI x ((k.toNat : Nat) : Int)) else kpR T x N K k.toNat) = _
  rw [show ((k.toNat : Nat) : Int) = k by omega]
/-- of the first k those for which T holds are turned over -/
def tkX (T : Int → Prop) (x0 x : Int32) (k : Int) : Prop := (0 ≤ x.toInt ∧ x.toInt ≤ 511) ∧ ∀ i, 0 ≤ i → i < 31 → (bt x i ↔ ((bt x0 i ∧ ¬ (i < k ∧ T i)) ∨ (¬ bt x0 i ∧ i < k ∧ T i)))
theorem tkX_z {T : Int → Prop} {x0 : Int32} (hx : 0 ≤ x0.toInt ∧ x0.toInt ≤ 511) : tkX T x0 x0 0 := by
  refine ⟨hx, fun i i0 i1 => ⟨fun z => Or.inl ⟨z, fun w => ?_⟩, ?_⟩⟩
  · have := w.1
    omega
  · rintro (⟨w, -⟩ | ⟨-, w, -⟩)
    · exact w
    · exfalso
      omega
theorem tkX_n {T : Int → Prop} {x0 x : Int32} {k k' : Int} (e' : k' = k + 1) (hn : ¬ T k) (hh : tkX T x0 x k) : tkX T x0 x k' := by
  refine ⟨hh.1, fun i i0 i1 => ?_⟩
  have e1 : (i < k' ∧ T i) ↔ (i < k ∧ T i) := by
    constructor
    · rintro ⟨a, b⟩
      have ne : ¬ i = k := fun q => hn (q ▸ b)
      exact ⟨by omega, b⟩
    · rintro ⟨a, b⟩
      exact ⟨by omega, b⟩
  rw [e1]
  exact hh.2 i i0 i1
theorem tkX_y {T : Int → Prop} {x0 x t : Int32} {k k' : Int} (ht : t.toInt = k) (k0 : 0 ≤ k) (k9 : k < 9) (e' : k' = k + 1) (hT : T k) (hh : tkX T x0 x k) : tkX T x0 (x ^^^ ((1 : Int32) <<< (t &&& 31))) k' := by
  refine ⟨i9_xr hh.1 (i9_sh (by omega) (by omega)), fun i i0 i1 => ?_⟩
  rw [bt_xr (by omega) (by omega) i0 i1]
  by_cases z : i = t.toInt
  · have nk : ¬ (i < k ∧ T i) := fun w => by
      have := w.1
      omega
    have hk' : i < k' ∧ T i := ⟨by omega, by rw [z, ht]; exact hT⟩
    have b := hh.2 i i0 i1
    constructor
    · rintro (⟨-, w⟩ | ⟨w, -⟩)
      · exact absurd z w
      · exact Or.inr ⟨fun q => w (b.2 (Or.inl ⟨q, nk⟩)), hk'⟩
    · rintro (⟨-, w⟩ | ⟨w, -⟩)
      · exact absurd hk' w
      · refine Or.inr ⟨fun q => ?_, z⟩
        rcases b.1 q with ⟨q1, -⟩ | ⟨-, q1⟩
        · exact w q1
        · exact nk q1
  · have e1 : (i < k' ∧ T i) ↔ (i < k ∧ T i) := by
      constructor
      · rintro ⟨a, b⟩
        exact ⟨by omega, b⟩
      · rintro ⟨a, b⟩
        exact ⟨by omega, b⟩
    rw [e1, ← hh.2 i i0 i1]
    exact ⟨fun w => w.elim (fun q => q.1) (fun q => absurd q.2 z), fun w => Or.inl ⟨w, z⟩⟩
theorem tkX_e {T : Int → Prop} {x0 x B : Int32} {n : Int} (b9 : 0 ≤ B.toInt ∧ B.toInt ≤ 511) (x9 : 0 ≤ x0.toInt ∧ x0.toInt ≤ 511) (hB : ∀ i, 0 ≤ i → i < 31 → (bt B i ↔ (i < n ∧ T i))) (hh : tkX T x0 x n) : x = x0 ^^^ B := by
  have r := i9_xr x9 b9
  refine bt_ex hh.1.1 r.1 (fun i i0 i1 => ?_)
  rw [bt_xx, hB i i0 i1]
  exact hh.2 i i0 i1
theorem tkX_k {T : Int → Prop} {x0 x : Int32} {k : Int} (k0 : 0 ≤ k) (k9 : k < 31) (hh : tkX T x0 x k) : btI x k = btI x0 k := by
  have b := hh.2 k k0 k9
  have nk : ¬ (k < k ∧ T k) := fun w => by
    have := w.1
    omega
  by_cases z : bt x0 k
  · rw [btI_1 z, btI_1 (b.2 (Or.inl ⟨z, nk⟩))]
  · rw [btI_0 z, btI_0]
    intro q
    rcases b.1 q with ⟨q1, -⟩ | ⟨-, q1⟩
    · exact z q1
    · exact nk q1
/-- and the first k are as old as they get -/
def tkA (T : Int → Prop) (A : Int → Int) (v n k : Int) (m : zM) : Prop := ∀ t, 0 ≤ t → t < n → gn (ga m 251) (9 * v + t) = if t < k then (if cdB (T t) = true then 0 else min 99 (A t + 1)) else A t
theorem tkA_q {T : Int → Prop} {A : Int → Int} {v n k : Int} {m m' : zM} (ee : ga m' 251 = ga m 251) (hh : tkA T A v n k m) : tkA T A v n k m' := fun t t0 t1 => by
  rw [ee]
  exact hh t t0 t1
theorem tkA_s {T : Int → Prop} {A : Int → Int} {v n k k' : Int} {m m' : zM} (e' : k' = k + 1) (hv : gn (ga m' 251) (9 * v + k) = if cdB (T k) = true then 0 else min 99 (A k + 1)) (ho : ∀ t, 0 ≤ t → t < n → ¬ t = k → gn (ga m' 251) (9 * v + t) = gn (ga m 251) (9 * v + t)) (hh : tkA T A v n k m) : tkA T A v n k' m' := fun t t0 t1 => by
  by_cases z : t = k
  · rw [z, hv, if_pos (show k < k' by omega)]
  · rw [ho t t0 t1 z, hh t t0 t1]
    by_cases w : t < k
    · rw [if_pos w, if_pos (show t < k' by omega)]
    · rw [if_neg w, if_neg (show ¬ t < k' by omega)]
/-- the other layers are as they were -/
def oLl (v : Int) (a b : zM) : Prop := (∀ u, 0 ≤ u → ¬ u = v → gn (ga b 249) u = gn (ga a 249) u ∧ gn (ga b 250) u = gn (ga a 250) u) ∧ (∀ j, 0 ≤ j → ¬ (9 * v ≤ j ∧ j < 9 * v + 9) → gn (ga b 251) j = gn (ga a 251) j) ∧ (∀ j, 0 ≤ j → ¬ (6 * v ≤ j ∧ j < 6 * v + 6) → gn (ga b 252) j = gn (ga a 252) j) ∧ oKl v a b
theorem oLl_tr {v : Int} {a b c : zM} (h1 : oLl v a b) (h2 : oLl v b c) : oLl v a c := ⟨fun u u0 uv => ⟨((h2.1 u u0 uv).1).trans (h1.1 u u0 uv).1, ((h2.1 u u0 uv).2).trans (h1.1 u u0 uv).2⟩, fun j j0 jv => (h2.2.1 j j0 jv).trans (h1.2.1 j j0 jv), fun j j0 jv => (h2.2.2.1 j j0 jv).trans (h1.2.2.1 j j0 jv), oKl_tr h1.2.2.2 h2.2.2.2⟩
theorem oLl_q {v : Int} {a b : zM} (e1 : ga b 249 = ga a 249) (e2 : ga b 250 = ga a 250) (e3 : ga b 251 = ga a 251) (e4 : ga b 252 = ga a 252) (e5 : ga b 253 = ga a 253) (e6 : ga b 254 = ga a 254) : oLl v a b := ⟨fun u _ _ => ⟨by rw [e1], by rw [e2]⟩, fun j _ _ => by rw [e3], fun j _ _ => by rw [e4], oKl_q e5 e6⟩
theorem i9_an {x y : Int32} (b : 0 ≤ y.toInt ∧ y.toInt ≤ 511) : 0 ≤ (x &&& y).toInt ∧ (x &&& y).toInt ≤ 511 := by
  refine i9_i ?_
  rw [Int32.toBitVec_and, BitVec.toNat_and]
  exact Nat.and_lt_two_pow (n := 9) _ (i9_n b.1 b.2)
set_option maxRecDepth 100000 in
theorem w_tk95 {d : Nat} {mem : zM} {P : Option Value → zM → Prop} {v bu tu fo k x : Int32} {K : Kd} {N : Int} {lo : List (Nat × Value)} (hm : aTm aT0 mem) (l_0 : zlg lo 0 = some (.ref 221)) (l_1 : zlg lo 1 = some (.int v)) (l_2 : zlg lo 2 = some (.int bu)) (l_3 : zlg lo 3 = some (.int tu)) (l_4 : zlg lo 4 = some (.int fo)) (l_5 : zlg lo 5 = some (.int k)) (v0 : 0 ≤ v.toInt ∧ v.toInt ≤ 21) (hN : gn (ga mem 249) v.toInt = N) (hK : kM v.toInt K mem) (hx : gn (ga mem 250) v.toInt = x.toInt) (hk : 0 ≤ k.toInt ∧ k.toInt ≤ 9) (n9 : gn (ga mem 228) (gi mem 221 13).toInt ≤ 9) (N0 : 0 ≤ N ∧ N ≤ 999) (ag : k.toInt < gn (ga mem 228) (gi mem 221 13).toInt → 0 ≤ gn (ga mem 251) (9 * v.toInt + k.toInt)) (h1 : ∀ (y1 : Int32), y1.toInt = (gn (ga mem 228) (gi mem 221 13).toInt) → (gn (ga mem 228) (gi mem 221 13).toInt) ≤ (k).toInt → ∀ (y4 : Int32), y4.toInt = (gn (ga mem 249) (v).toInt) → ∀ (x6 : Int32), x6.toInt = ((gn (ga mem 249) (v).toInt) + 1) → aTm aT0 (sx mem 249 v x6) → P (some (.int fo)) (sx mem 249 v x6)) (h2 : ∀ (y1 : Int32), y1.toInt = (gn (ga mem 228) (gi mem 221 13).toInt) → (k).toInt < (gn (ga mem 228) (gi mem 221 13).toInt) → ¬ ((tu >>> (k &&& 31)) &&& 1).toInt = 1 → ∀ (x9 : Int32), x9.toInt = (9 * (v).toInt) → ∀ (x11 : Int32), x11.toInt = ((9 * (v).toInt) + (k).toInt) → ∀ (y13 : Int32), y13.toInt = (gn (ga mem 251) ((9 * (v).toInt) + (k).toInt)) → 99 ≤ (gn (ga mem 251) ((9 * (v).toInt) + (k).toInt)) → ∀ (x16 : Int32), x16.toInt = ((k).toInt + 1) → ∀ lo, zlg lo 0 = some (.ref 221) → zlg lo 1 = some (.int v) → zlg lo 2 = some (.int bu) → zlg lo 3 = some (.int tu) → zlg lo 4 = some (.int fo) → zlg lo 5 = some (.int x16) → aTm aT0 mem → yR zpg tX12_ticks (d + 10) (95, lo, [], mem) P) (h3 : ∀ (y1 : Int32), y1.toInt = (gn (ga mem 228) (gi mem 221 13).toInt) → (k).toInt < (gn (ga mem 228) (gi mem 221 13).toInt) → ¬ ((tu >>> (k &&& 31)) &&& 1).toInt = 1 → ∀ (x9 : Int32), x9.toInt = (9 * (v).toInt) → ∀ (x11 : Int32), x11.toInt = ((9 * (v).toInt) + (k).toInt) → ∀ (y13 : Int32), y13.toInt = (gn (ga mem 251) ((9 * (v).toInt) + (k).toInt)) → (gn (ga mem 251) ((9 * (v).toInt) + (k).toInt)) < 99 → ∀ (x21 : Int32), x21.toInt = (9 * (v).toInt) → ∀ (x23 : Int32), x23.toInt = ((9 * (v).toInt) + (k).toInt) → ∀ (y25 : Int32), y25.toInt = (gn (ga mem 251) ((9 * (v).toInt) + (k).toInt)) → ∀ (x27 : Int32), x27.toInt = ((gn (ga mem 251) ((9 * (v).toInt) + (k).toInt)) + 1) → ∀ (x29 : Int32), x29.toInt = ((k).toInt + 1) → ∀ lo, zlg lo 0 = some (.ref 221) → zlg lo 1 = some (.int v) → zlg lo 2 = some (.int bu) → zlg lo 3 = some (.int tu) → zlg lo 4 = some (.int fo) → zlg lo 5 = some (.int x29) → aTm aT0 (sx mem 251 x23 x27) → yR zpg tX12_ticks (d + 10) (95, lo, [], (sx mem 251 x23 x27)) P) (h4 : ∀ (y1 : Int32), y1.toInt = (gn (ga mem 228) (gi mem 221 13).toInt) → (k).toInt < (gn (ga mem 228) (gi mem 221 13).toInt) → ((tu >>> (k &&& 31)) &&& 1).toInt = 1 → ∀ (m34 : zM), aTm aT0 m34 → (onl [250, 251, 253, 254] mem m34 ∧ (∀ u, 0 ≤ u → gn (ga m34 250) u = if u = (v).toInt then (x ^^^ ((1 : Int32) <<< (k &&& 31))).toInt else gn (ga mem 250) u) ∧ (∀ j, 0 ≤ j → gn (ga m34 251) j = if j = 9 * (v).toInt + (k).toInt then 0 else gn (ga mem 251) j) ∧ kM (v).toInt (kpP K (N, (k).toInt, btI x (k).toInt)) m34 ∧ oKl (v).toInt mem m34) → ∀ (x36 : Int32), x36.toInt = ((k).toInt + 1) → ∀ lo, zlg lo 0 = some (.ref 221) → zlg lo 1 = some (.int v) → zlg lo 2 = some (.int bu) → zlg lo 3 = some (.int tu) → zlg lo 4 = some (.int fo) → zlg lo 5 = some (.int x36) → aTm aT0 m34 → yR zpg tX12_ticks (d + 10) (95, lo, [], m34) P) : yR zpg tX12_ticks (d + 10) (95, lo, [], mem) P := by
  obtain ⟨b0, b1⟩ := mO_r13 hm
  refine wR_li rfl l_5 ?_
  refine wR_la rfl l_0 ?_
  refine wR_gr rfl mO_e mO_19 hm ?_
  refine wR_la rfl l_0 ?_
  refine wR_gi rfl mO_e mO_13 hm rfl ?_
  refine wN_al (a := (gi mem 221 13).toInt) rfl aR_228 hm rfl rfl (by omega) (fun y1 e2 => ?_)
  refine wR_ic_ge rfl (a := (k).toInt) (c := (gn (ga mem 228) (gi mem 221 13).toInt)) rfl e2 (fun q3 => ?_) (fun q3 => ?_)
  ·
    refine wR_la rfl l_0 ?_
    refine wR_gr rfl mO_e mO_48 hm ?_
    refine wR_li rfl l_1 ?_
    refine yR_m 1 (fun _ _ _ _ => rfl) ?_
    refine wN_al (a := (v).toInt) rfl aR_249 hm rfl rfl (by omega) (fun y4 e5 => ?_)
    refine yR_m 1 (fun _ _ _ _ => rfl) ?_
    refine wN_add (a := (gn (ga mem 249) (v).toInt)) (b := 1) rfl e5 rfl (by omega) (fun x6 e7 => ?_)
    refine wN_as (a := (v).toInt) rfl aR_249 hm rfl (by omega) ?_
    have hm_1 : aTm aT0 (sx mem 249 v x6) := tm_sa aR_249 hm (i32_b _)
    refine wR_li rfl l_4 ?_
    exact yR_ri rfl (h1 y1 e2 q3 y4 e5 x6 e7 hm_1)
  ·
    refine wR_li rfl l_3 ?_
    refine wR_li rfl l_5 ?_
    refine wR_is rfl rfl rfl rfl rfl rfl ?_
    show yR zpg tX12_has2 (d + 9) (0, [(0, .int tu), (1, .int k)], [], mem) _
    refine yR_m 6 (fun _ _ _ _ => rfl) ?_
    refine wR_ic_ne rfl (a := ((tu >>> (k &&& 31)) &&& 1).toInt) (c := 1) rfl rfl (fun q8 => ?_) (fun q8 => ?_)
    ·
      refine yR_m 1 (fun _ _ _ _ => rfl) ?_
      refine yR_rz rfl ⟨by decide, by decide⟩ ?_
      show yR zpg tX12_ticks (d + 10) (115, lo, [.int 0], mem) _
      refine wR_if_eq rfl (a := 0) rfl (fun _ => ?_) (fun q => by exfalso; omega)
      refine wR_la rfl l_0 ?_
      refine wR_gr rfl mO_e mO_50 hm ?_
      refine yR_m 1 (fun _ _ _ _ => rfl) ?_
      refine wR_li rfl l_1 ?_
      refine wN_mul (a := 9) (b := (v).toInt) rfl rfl rfl (by omega) (fun x9 e10 => ?_)
      refine wR_li rfl l_5 ?_
      refine wN_add (a := (9 * (v).toInt)) (b := (k).toInt) rfl e10 rfl (by omega) (fun x11 e12 => ?_)
      refine wN_al (a := ((9 * (v).toInt) + (k).toInt)) rfl aR_251 hm rfl e12 (by omega) (fun y13 e14 => ?_)
      refine yR_m 1 (fun _ _ _ _ => rfl) ?_
      refine wR_ic_ge rfl (a := (gn (ga mem 251) ((9 * (v).toInt) + (k).toInt))) (c := 99) e14 rfl (fun q15 => ?_) (fun q15 => ?_)
      ·
        refine wN_in (a := (k).toInt) (b := 1) rfl rfl l_5 rfl rfl (by omega) (fun x16 e17 => fun lo18 e19 f20 => ?_)
        have lo18_0 := f20 0 _ (by decide) (Or.inl rfl) l_0
        have lo18_1 := f20 1 _ (by decide) (Or.inl rfl) l_1
        have lo18_2 := f20 2 _ (by decide) (Or.inl rfl) l_2
        have lo18_3 := f20 3 _ (by decide) (Or.inl rfl) l_3
        have lo18_4 := f20 4 _ (by decide) (Or.inl rfl) l_4
        exact yR_m 1 (fun _ _ _ _ => rfl) (h2 y1 e2 q3 q8 x9 e10 x11 e12 y13 e14 q15 x16 e17 lo18 lo18_0 lo18_1 lo18_2 lo18_3 lo18_4 e19 hm)
      ·
        refine wR_la rfl l_0 ?_
        refine wR_gr rfl mO_e mO_50 hm ?_
        refine yR_m 1 (fun _ _ _ _ => rfl) ?_
        refine wR_li rfl l_1 ?_
        refine wN_mul (a := 9) (b := (v).toInt) rfl rfl rfl (by omega) (fun x21 e22 => ?_)
        refine wR_li rfl l_5 ?_
        refine wN_add (a := (9 * (v).toInt)) (b := (k).toInt) rfl e22 rfl (by omega) (fun x23 e24 => ?_)
        refine yR_m 1 (fun _ _ _ _ => rfl) ?_
        refine wN_al (a := ((9 * (v).toInt) + (k).toInt)) rfl aR_251 hm rfl e24 (by omega) (fun y25 e26 => ?_)
        refine yR_m 1 (fun _ _ _ _ => rfl) ?_
        refine wN_add (a := (gn (ga mem 251) ((9 * (v).toInt) + (k).toInt))) (b := 1) rfl e26 rfl (by omega) (fun x27 e28 => ?_)
        refine wN_as (a := ((9 * (v).toInt) + (k).toInt)) rfl aR_251 hm e24 (by omega) ?_
        have hm_2 : aTm aT0 (sx mem 251 x23 x27) := tm_sa aR_251 hm (i32_b _)
        refine wN_in (a := (k).toInt) (b := 1) rfl rfl l_5 rfl rfl (by omega) (fun x29 e30 => fun lo31 e32 f33 => ?_)
        have lo31_0 := f33 0 _ (by decide) (Or.inl rfl) l_0
        have lo31_1 := f33 1 _ (by decide) (Or.inl rfl) l_1
        have lo31_2 := f33 2 _ (by decide) (Or.inl rfl) l_2
        have lo31_3 := f33 3 _ (by decide) (Or.inl rfl) l_3
        have lo31_4 := f33 4 _ (by decide) (Or.inl rfl) l_4
        exact yR_m 1 (fun _ _ _ _ => rfl) (h3 y1 e2 q3 q8 x9 e10 x11 e12 y13 e14 q15 x21 e22 x23 e24 y25 e26 x27 e28 x29 e30 lo31 lo31_0 lo31_1 lo31_2 lo31_3 lo31_4 e32 hm_2)
    ·
      refine yR_m 2 (fun _ _ _ _ => rfl) ?_
      refine yR_rz rfl ⟨by decide, by decide⟩ ?_
      show yR zpg tX12_ticks (d + 10) (115, lo, [.int 1], mem) _
      refine wR_if_eq rfl (a := 1) rfl (fun q => by exfalso; omega) (fun _ => ?_)
      refine wR_la rfl l_0 ?_
      refine wR_li rfl l_1 ?_
      refine wR_li rfl l_5 ?_
      refine wR_cv rfl rfl mO_e hm rfl (h_tov (K := K) (N := N) (x := x) hm v0 (by omega) hN hK hx (by omega)) ?_
      rintro _ m34 ⟨rfl, hm34, k35⟩
      show yR zpg tX12_ticks (d + 10) (125, lo, [], m34) _
      refine yR_m 1 (fun _ _ _ _ => rfl) ?_
      refine wN_in (a := (k).toInt) (b := 1) rfl rfl l_5 rfl rfl (by omega) (fun x36 e37 => fun lo38 e39 f40 => ?_)
      have lo38_0 := f40 0 _ (by decide) (Or.inl rfl) l_0
      have lo38_1 := f40 1 _ (by decide) (Or.inl rfl) l_1
      have lo38_2 := f40 2 _ (by decide) (Or.inl rfl) l_2
      have lo38_3 := f40 3 _ (by decide) (Or.inl rfl) l_3
      have lo38_4 := f40 4 _ (by decide) (Or.inl rfl) l_4
      exact yR_m 1 (fun _ _ _ _ => rfl) (h4 y1 e2 q3 q8 m34 hm34 k35 x36 e37 lo38 lo38_0 lo38_1 lo38_2 lo38_3 lo38_4 e39 hm34)

theorem tk_age {v bu tu fo : Int32} {T : Int → Prop} {A : Int → Int} {x0 : Int32} {N : Int} {K0 : Kd} {mr : zM} (hM : mB Q mr) (hW : WQ Q) (v0 : 0 ≤ v.toInt ∧ v.toInt ≤ 21) (hT : ∀ i, 0 ≤ i → i < 31 → (bt tu i ↔ (i < thN Q ∧ T i))) (hN : gn (ga mr 249) v.toInt = N) (N0 : 0 ≤ N ∧ N ≤ 999) (hA : ∀ t, 0 ≤ t → t < thN Q → 0 ≤ A t ∧ A t ≤ 99) : ∀ (f : Nat) (k x : Int32) (mem : zM) (lo : List (Nat × Value)), k.toInt + (f : Int) = thN Q → 0 ≤ k.toInt → onl [250, 251, 253, 254] mr mem → tkX T x0 x k.toInt → gn (ga mem 250) v.toInt = x.toInt → tkA T A v.toInt (thN Q) k.toInt mem → kM v.toInt (kpR T x0 N K0 k.toInt.toNat) mem → oLl v.toInt mr mem → zlg lo 0 = some (.ref 221) → zlg lo 1 = some (.int v) → zlg lo 2 = some (.int bu) → zlg lo 3 = some (.int tu) → zlg lo 4 = some (.int fo) → zlg lo 5 = some (.int k) → aTm aT0 mem → yR zpg tX12_ticks (d + 10) (95, lo, [], mem) (fun r m => r = some (.int fo) ∧ aTm aT0 m ∧ (onl [249, 250, 251, 253, 254] mr m ∧ gn (ga m 249) v.toInt = N + 1 ∧ (∃ x : Int32, tkX T x0 x (thN Q) ∧ gn (ga m 250) v.toInt = x.toInt) ∧ tkA T A v.toInt (thN Q) (thN Q) m ∧ kM v.toInt (kpR T x0 N K0 (thN Q).toNat) m ∧ oLl v.toInt mr m)) := by
  intro f
  have n9 : thN Q ≤ 9 := by
    have := hW.2.1.1
    unfold thN
    omega
  induction f with
  | zero =>
    intro k x mem lo hf k0 ho hX hx hA2 hK hO l0 l1 l2 l3 l4 l5 hm
    have M1 := mB_o rfl ho hM
    have cn := (mq_n M1.1).1
    have kn : k.toInt = thN Q := by omega
    have t9 := ga_ty aR_249 hm
    have hN' : gn (ga mem 249) v.toInt = N := by
      rw [onl_ga ho rfl]
      exact hN
    exact w_tk95 (K := kpR T x0 N K0 k.toInt.toNat) (N := N) (x := x) hm l0 l1 l2 l3 l4 l5 v0 hN' hK hx ⟨k0, by omega⟩ (by omega) N0 (fun z => by omega) 
        (fun y1 e2 q3 y4 e5 x6 e7 hm2 => by
          have g9 : ga (sx mem 249 v x6) 249 = (ga mem 249).set v.toNatClampNeg x6 := ga_sa_eq
          have g0 : ga (sx mem 249 v x6) 250 = ga mem 250 := ga_sa_ne (by decide)
          have g1 : ga (sx mem 249 v x6) 251 = ga mem 251 := ga_sa_ne (by decide)
          have g2 : ga (sx mem 249 v x6) 252 = ga mem 252 := ga_sa_ne (by decide)
          have g3 : ga (sx mem 249 v x6) 253 = ga mem 253 := ga_sa_ne (by decide)
          have g4 : ga (sx mem 249 v x6) 254 = ga mem 254 := ga_sa_ne (by decide)
          refine ⟨rfl, hm2, onl_sa rfl (onl_up ho rfl), ?_, ⟨x, by rw [← kn]; exact hX, by rw [g0]; exact hx⟩, tkA_q g1 (by rw [kn] at hA2; exact hA2), kM_q g3 g4 (by rw [kn] at hK; exact hK), oLl_tr hO ⟨fun u u0 uv => ⟨?_, by rw [g0]⟩, fun j _ _ => by rw [g1], fun j _ _ => by rw [g2], oKl_q g3 g4⟩⟩
          · rw [g9, gn_set rfl v0.1 (by rw [t9.2.1]; omega) v0.1, if_pos rfl]
            omega
          · rw [g9, gn_set rfl v0.1 (by rw [t9.2.1]; omega) u0, if_neg uv])
        (fun y1 e2 q3 q8 x9 e10 x11 e12 y13 e14 q15 x16 e17 lo a0 a1 a2 a3 a4 a5 hm2 => by exfalso; omega)
        (fun y1 e2 q3 q8 x9 e10 x11 e12 y13 e14 q15 x21 e22 x23 e24 y25 e26 x27 e28 x29 e30 lo a0 a1 a2 a3 a4 a5 hm2 => by exfalso; omega)
        (fun y1 e2 q3 q8 m34 hm34 k35 x36 e37 lo a0 a1 a2 a3 a4 a5 hm2 => by exfalso; omega)
  | succ f ih =>
    intro k x mem lo hf k0 ho hX hx hA2 hK hO l0 l1 l2 l3 l4 l5 hm
    have M1 := mB_o rfl ho hM
    have cn := (mq_n M1.1).1
    have t1 := ga_ty aR_251 hm
    have hN' : gn (ga mem 249) v.toInt = N := by
      rw [onl_ga ho rfl]
      exact hN
    have ak := hA2 k.toInt k0 (by omega)
    rw [if_neg (by omega)] at ak
    have ab := hA k.toInt k0 (by omega)
    have tT := hT k.toInt k0 (by omega)
    exact w_tk95 (K := kpR T x0 N K0 k.toInt.toNat) (N := N) (x := x) hm l0 l1 l2 l3 l4 l5 v0 hN' hK hx ⟨k0, by omega⟩ (by omega) N0 (fun _ => by omega) 
        (fun y1 e2 q3 y4 e5 x6 e7 hm2 => by exfalso; omega)
        (fun y1 e2 q3 q8 x9 e10 x11 e12 y13 e14 q15 x16 e17 lo a0 a1 a2 a3 a4 a5 hm2 => by
          have nT : ¬ T k.toInt := fun w => q8 ((bt_shr k0 (by omega)).2 (tT.2 ⟨by omega, w⟩))
          have eK := kpR_s (T := T) (x := x0) (N := N) (K := K0) k0 e17
          rw [if_neg (by rw [cdB_f nT]; decide)] at eK
          exact ih _ x mem lo (by omega) (by omega) ho (tkX_n e17 nT hX) hx (tkA_s e17 (by
            rw [if_neg (by rw [cdB_f nT]; decide)]
            omega) (fun t _ _ _ => rfl) hA2) (by rw [eK]; exact hK) hO a0 a1 a2 a3 a4 a5 hm2)
        (fun y1 e2 q3 q8 x9 e10 x11 e12 y13 e14 q15 x21 e22 x23 e24 y25 e26 x27 e28 x29 e30 lo a0 a1 a2 a3 a4 a5 hm2 => by
          have nT : ¬ T k.toInt := fun w => q8 ((bt_shr k0 (by omega)).2 (tT.2 ⟨by omega, w⟩))
          have eK := kpR_s (T := T) (x := x0) (N := N) (K := K0) k0 e30
          rw [if_neg (by rw [cdB_f nT]; decide)] at eK
          have g1 : ∀ j, 0 ≤ j → gn (ga (sx mem 251 x23 x27) 251) j = if j = 9 * v.toInt + k.toInt then x27.toInt else gn (ga mem 251) j := fun j j0 => by
            rw [ga_sa_eq, gn_set e24 (by omega) (by rw [t1.2.1]; omega) j0]
          have g0 : ga (sx mem 251 x23 x27) 250 = ga mem 250 := ga_sa_ne (by decide)
          have g3 : ga (sx mem 251 x23 x27) 253 = ga mem 253 := ga_sa_ne (by decide)
          have g4 : ga (sx mem 251 x23 x27) 254 = ga mem 254 := ga_sa_ne (by decide)
          have g2 : ga (sx mem 251 x23 x27) 252 = ga mem 252 := ga_sa_ne (by decide)
          have g9 : ga (sx mem 251 x23 x27) 249 = ga mem 249 := ga_sa_ne (by decide)
          exact ih _ x _ lo (by omega) (by omega) (onl_sa rfl ho) (tkX_n e30 nT hX) (by rw [g0]; exact hx) (tkA_s e30 (by
            rw [if_neg (by rw [cdB_f nT]; decide), g1 _ (by omega), if_pos rfl]
            omega) (fun t t0 t1 tk => by rw [g1 _ (by omega), if_neg (by omega)]) hA2) (by rw [eK]; exact kM_q g3 g4 hK) (oLl_tr hO ⟨fun u _ _ => ⟨by rw [g9], by rw [g0]⟩, fun j j0 jv => by rw [g1 j j0, if_neg (by omega)], fun j _ _ => by rw [g2], oKl_q g3 g4⟩) a0 a1 a2 a3 a4 a5 hm2)
        (fun y1 e2 q3 q8 m34 hm34 k35 x36 e37 lo a0 a1 a2 a3 a4 a5 hm2 => by
          have yT : T k.toInt := (tT.1 ((bt_shr k0 (by omega)).1 q8)).2
          have eK := kpR_s (T := T) (x := x0) (N := N) (K := K0) k0 e37
          rw [if_pos (cdB_t yT)] at eK
          obtain ⟨K1, K2, K3, K4, K5⟩ := k35
          rw [tkX_k k0 (by omega) hX] at K4
          refine ih _ (x ^^^ ((1 : Int32) <<< (k &&& 31))) _ lo (by omega) (by omega) (onl_tr ho K1) (tkX_y rfl k0 (by omega) e37 yT hX) (by rw [K2 _ v0.1, if_pos rfl]) (tkA_s e37 (by
            rw [if_pos (cdB_t yT), K3 _ (by omega), if_pos rfl]) (fun t t0 t1 tk => by rw [K3 _ (by omega), if_neg (by omega)]) hA2) (by rw [eK]; exact K4) (oLl_tr hO ⟨fun u u0 uv => ⟨by rw [onl_ga K1 rfl], by rw [K2 u u0, if_neg uv]⟩, fun j j0 jv => by rw [K3 j j0, if_neg (by omega)], fun j _ _ => by rw [onl_ga K1 rfl], K5⟩) a0 a1 a2 a3 a4 a5 hm2)
end TKA
