/-! on of the class: what it answers -/
section ON
variable {d : Nat} {mem m : zM} {Y Z : Qd} {T U : List Int32} {n : Int32}
def ck (T : List Int32) : Nat → Int
  | 0 => 241
  | k + 1 => (5 * ck T k + gn T (k : Int)) % 251
theorem ck_c (h : smT T U) : ∀ k : Nat, k ≤ 1600 → ck T k = ck U k
  | 0, _ => rfl
  | k + 1, hk => by
    show (5 * ck T k + gn T (k : Int)) % 251 = (5 * ck U k + gn U (k : Int)) % 251
    rw [ck_c h k (by omega), h (k : Int) (by omega)]
/-- a cell that there is, without a wall -/
def frO (Y : Qd) (x y : Int) : Prop := x < Qc Y ∧ y < Qr Y ∧ ¬ (8 * y + x) ∈ Qw Y
/-- the tape is an image -/
def imK (T : List Int32) (n : Int) (Y : Qd) : Prop := (¬ Qc Y = 0 ∧ n = 3 + 2 * ((Qt Y).length : Int) + 2 * ((Qf Y).length : Int) ∧ gn T 0 * 256 + gn T 1 ≤ 999 ∧ gn T (n - 1) = ck T (n - 1).toNat) ∧ (∀ t, 0 ≤ t → t < ((Qt Y).length : Int) → gn T (2 + 2 * t) ≤ 1 ∧ gn T (3 + 2 * t) ≤ 99) ∧ ∀ f, 0 ≤ f → f < ((Qf Y).length : Int) → frO Y (gn T (2 + 2 * ((Qt Y).length : Int) + 2 * f)) (gn T (2 + 2 * ((Qt Y).length : Int) + 2 * f + 1))
def imA (T : List Int32) (n : Int) (Y : Qd) (v : Int) : Prop := (imK T n Y ∧ v = 1) ∨ (¬ imK T n Y ∧ v = 0)
theorem imK_c {n : Int} (h : smT T U) (hn : n ≤ 1600) (k : imK T n Y) : imK U n Y := by
  obtain ⟨⟨k1, k2, k3, k4⟩, k5, k6⟩ := k
  refine ⟨⟨k1, k2, ?_, ?_⟩, fun t t0 t1 => ?_, fun f f0 f1 => ?_⟩
  · rw [← h 0 (by decide), ← h 1 (by decide)]
    exact k3
  · rw [← h (n - 1) (by omega), ← ck_c h (n - 1).toNat (by omega)]
    exact k4
  · rw [← h (2 + 2 * t) (by omega), ← h (3 + 2 * t) (by omega)]
    exact k5 t t0 t1
  · rw [← h (2 + 2 * ((Qt Y).length : Int) + 2 * f) (by omega), ← h (2 + 2 * ((Qt Y).length : Int) + 2 * f + 1) (by omega)]
    exact k6 f f0 f1
theorem on_eq {n v v' : Int} (h : smT T U) (hn : n ≤ 1600) (a : imA T n Y v) (b : imA U n Y v') : v = v' := by
  have h' : smT U T := fun i hi => (h i hi).symm
  rcases a with ⟨a1, a2⟩ | ⟨a1, a2⟩ <;> rcases b with ⟨b1, b2⟩ | ⟨b1, b2⟩
  · rw [a2, b2]
  · exact absurd (imK_c h hn a1) b1
  · exact absurd (imK_c h' hn b1) a1
  · rw [a2, b2]
set_option maxRecDepth 100000 in
theorem w_cq_6 {d : Nat} {mem : zM} {P : Option Value → zM → Prop} {n c k : Int32} {lo : List (Nat × Value)} (hm : aTm aT0 mem) (l_0 : zlg lo 0 = some (.ref 1)) (l_1 : zlg lo 1 = some (.int n)) (l_2 : zlg lo 2 = some (.int c)) (l_3 : zlg lo 3 = some (.int k)) (hk : 0 ≤ k.toInt ∧ k.toInt ≤ 1600) (hc : 0 ≤ c.toInt ∧ c.toInt ≤ 250) (h1 : (n).toInt ≤ (k).toInt → aTm aT0 mem → P (some (.int c)) mem) (h2 : (k).toInt < (n).toInt → 1600 ≤ (k).toInt → aTm aT0 mem → P (some (.int c)) mem) (h3 : (k).toInt < (n).toInt → (k).toInt < 1600 → ∀ (x3 : Int32), x3.toInt = (5 * (c).toInt) → ∀ (y5 : Int32), y5.toInt = (gn (ga mem 1) (k).toInt) → ∀ (x7 : Int32), x7.toInt = ((5 * (c).toInt) + (gn (ga mem 1) (k).toInt)) → ∀ (x9 : Int32), x9.toInt = (((5 * (c).toInt) + (gn (ga mem 1) (k).toInt)) % 251) → ∀ (x14 : Int32), x14.toInt = ((k).toInt + 1) → ∀ lo, zlg lo 0 = some (.ref 1) → zlg lo 1 = some (.int n) → zlg lo 2 = some (.int x9) → zlg lo 3 = some (.int x14) → aTm aT0 mem → yR zpg tX11_checkOf d (6, lo, [], mem) P) : yR zpg tX11_checkOf d (6, lo, [], mem) P := by
  have r0 : k.toInt < 1600 → 0 ≤ gn (ga mem 1) k.toInt ∧ gn (ga mem 1) k.toInt ≤ 255 := fun h => gR_1 hm hk.1 h
  refine wR_li rfl l_3 ?_
  refine wR_li rfl l_1 ?_
  refine wR_ic_ge rfl (a := (k).toInt) (c := (n).toInt) rfl rfl (fun q1 => ?_) (fun q1 => ?_)
  ·
    refine wR_li rfl l_2 ?_
    exact yR_ri rfl (h1 q1 hm)
  ·
    refine wR_li rfl l_3 ?_
    refine wR_la rfl l_0 ?_
    refine wR_le (x := 1600) rfl aR_1 hm rfl ?_
    refine wR_ic_ge rfl (a := (k).toInt) (c := 1600) rfl rfl (fun q2 => ?_) (fun q2 => ?_)
    ·
      refine wR_li rfl l_2 ?_
      exact yR_ri rfl (h2 q1 q2 hm)
    ·
      refine yR_m 1 (fun _ _ _ _ => rfl) ?_
      refine wR_li rfl l_2 ?_
      refine wN_mul (a := 5) (b := (c).toInt) rfl rfl rfl (by omega) (fun x3 e4 => ?_)
      refine wR_la rfl l_0 ?_
      refine wR_li rfl l_3 ?_
      refine wN_al (a := (k).toInt) rfl aR_1 hm rfl rfl (by omega) (fun y5 e6 => ?_)
      refine wN_add (a := (5 * (c).toInt)) (b := (gn (ga mem 1) (k).toInt)) rfl e4 e6 (by omega) (fun x7 e8 => ?_)
      refine yR_m 1 (fun _ _ _ _ => rfl) ?_
      refine wN_rem (a := ((5 * (c).toInt) + (gn (ga mem 1) (k).toInt))) (b := 251) rfl e8 rfl (by decide) (by omega) (fun x9 e10 => ?_)
      refine wR_si rfl rfl (fun lo11 e12 f13 => ?_)
      have lo11_0 := f13 0 _ (by decide) (Or.inl rfl) l_0
      have lo11_1 := f13 1 _ (by decide) (Or.inl rfl) l_1
      have lo11_3 := f13 3 _ (by decide) (Or.inl rfl) l_3
      refine wN_in (a := (k).toInt) (b := 1) rfl rfl lo11_3 rfl rfl (by omega) (fun x14 e15 => fun lo16 e17 f18 => ?_)
      have lo16_2 := f18 2 _ (by decide) (Or.inl rfl) e12
      have lo16_0 := f18 0 _ (by decide) (Or.inl rfl) lo11_0
      have lo16_1 := f18 1 _ (by decide) (Or.inl rfl) lo11_1
      exact yR_m 1 (fun _ _ _ _ => rfl) (h3 q1 q2 x3 e4 y5 e6 x7 e8 x9 e10 x14 e15 lo16 lo16_0 lo16_1 lo16_2 e17 hm)

theorem cq_6 (hm : aTm aT0 mem) (hn : 0 ≤ n.toInt ∧ n.toInt ≤ 1600) : ∀ (f : Nat) (c k : Int32) (lo : List (Nat × Value)), n.toInt ≤ k.toInt + (f : Int) → 0 ≤ k.toInt → k.toInt ≤ n.toInt → c.toInt = ck (ga mem 1) k.toInt.toNat → (0 ≤ c.toInt ∧ c.toInt ≤ 250) → zlg lo 0 = some (.ref 1) → zlg lo 1 = some (.int n) → zlg lo 2 = some (.int c) → zlg lo 3 = some (.int k) → yR zpg tX11_checkOf d (6, lo, [], mem) (fun r m => ∃ v : Int32, r = some (.int v) ∧ mem = m ∧ v.toInt = ck (ga mem 1) n.toInt.toNat) := by
  intro f
  induction f with
  | zero =>
    intro c k lo hf h0 h1 hc2 hc a0 a1 a2 a3
    exact w_cq_6 hm a0 a1 a2 a3 (by omega) hc
        (fun q1 hm2 => ⟨_, rfl, rfl, by rw [hc2, show k.toInt.toNat = n.toInt.toNat by omega]⟩)
        (fun q1 q2 hm2 => ⟨_, rfl, rfl, by rw [hc2, show k.toInt.toNat = n.toInt.toNat by omega]⟩)
        (fun q1 q2 x3 e4 y5 e6 x7 e8 x9 e10 x14 e15 lo a0 a1 a2 a3 hm2 => by exfalso; omega)
  | succ f ih =>
    intro c k lo hf h0 h1 hc2 hc a0 a1 a2 a3
    exact w_cq_6 hm a0 a1 a2 a3 (by omega) hc
        (fun q1 hm2 => ⟨_, rfl, rfl, by rw [hc2, show k.toInt.toNat = n.toInt.toNat by omega]⟩)
        (fun q1 q2 hm2 => ⟨_, rfl, rfl, by rw [hc2, show k.toInt.toNat = n.toInt.toNat by omega]⟩)
        (fun q1 q2 x3 e4 y5 e6 x7 e8 x9 e10 x14 e15 lo a0 a1 a2 a3 hm2 => by
          have r0 := gR_1 hm (i := k.toInt) (by omega) (by omega)
          refine ih x9 x14 lo (by omega) (by omega) (by omega) ?_ (by omega) a0 a1 a2 a3
          rw [show x14.toInt.toNat = k.toInt.toNat + 1 by omega]
          show _ = (5 * ck (ga mem 1) k.toInt.toNat + gn (ga mem 1) ((k.toInt.toNat : Nat) : Int)) % 251
          rw [← hc2, Int.toNat_of_nonneg (by omega)]
          omega)
set_option maxRecDepth 100000 in
theorem w_cq_0 {d : Nat} {mem : zM} {P : Option Value → zM → Prop} {n : Int32} {lo : List (Nat × Value)} (hm : aTm aT0 mem) (l_0 : zlg lo 0 = some (.ref 1)) (l_1 : zlg lo 1 = some (.int n)) (h1 : ∀ lo, zlg lo 0 = some (.ref 1) → zlg lo 1 = some (.int n) → zlg lo 2 = some (.int 241) → zlg lo 3 = some (.int 0) → aTm aT0 mem → yR zpg tX11_checkOf d (6, lo, [], mem) P) : yR zpg tX11_checkOf d (0, lo, [], mem) P := by
  refine yR_m 1 (fun _ _ _ _ => rfl) ?_
  refine wR_si rfl rfl (fun lo1 e2 f3 => ?_)
  have lo1_0 := f3 0 _ (by decide) (Or.inl rfl) l_0
  have lo1_1 := f3 1 _ (by decide) (Or.inl rfl) l_1
  refine yR_m 1 (fun _ _ _ _ => rfl) ?_
  refine wR_si rfl rfl (fun lo4 e5 f6 => ?_)
  have lo4_2 := f6 2 _ (by decide) (Or.inl rfl) e2
  have lo4_0 := f6 0 _ (by decide) (Or.inl rfl) lo1_0
  have lo4_1 := f6 1 _ (by decide) (Or.inl rfl) lo1_1
  exact h1 lo4 lo4_0 lo4_1 lo4_2 e5 hm

theorem h_ckF (hm : aTm aT0 mem) (hn : 0 ≤ n.toInt ∧ n.toInt ≤ 1600) (hd : 1 ≤ d) : yC zpg d 158 [.ref 1, .int n] mem (fun r m => ∃ v : Int32, r = some (.int v) ∧ mem = m ∧ v.toInt = ck (ga mem 1) n.toInt.toNat) := by
  obtain ⟨d, rfl⟩ : ∃ q, d = q + 1 := ⟨d - 1, by omega⟩
  refine yC_of (t := tX11_checkOf) rfl rfl ?_
  exact w_cq_0 hm rfl rfl
        (fun  lo a0 a1 a2 a3 hm2 => cq_6 hm2 hn 1600 241 0 lo (by show n.toInt ≤ (0 : Int) + 1600; omega) (by decide) (by show (0 : Int) ≤ _; omega) rfl (by decide) a0 a1 a2 a3)
theorem h_ckF2 {z : Int} (hm : aTm aT0 mem) (e : n.toInt = z) (hn : 0 ≤ z ∧ z ≤ 1600) (hd : 1 ≤ d) : yC zpg d 158 [.ref 1, .int n] mem (fun r m => ∃ v : Int32, r = some (.int v) ∧ mem = m ∧ v.toInt = ck (ga mem 1) z.toNat) := by
  subst e
  exact h_ckF hm hn hd
set_option maxRecDepth 100000 in
theorem w_hqA {d : Nat} {mem : zM} {P : Option Value → zM → Prop} {x y : Int32} (hm : aTm aT0 mem) (hx : 0 ≤ x.toInt ∧ x.toInt ≤ 255) (hy : 0 ≤ y.toInt ∧ y.toInt ≤ 255) (h1 : (x).toInt < 0 → aTm aT0 mem → P (some (.int 0)) mem) (h2 : 0 ≤ (x).toInt → (gi mem 2 1).toInt ≤ (x).toInt → aTm aT0 mem → P (some (.int 0)) mem) (h3 : 0 ≤ (x).toInt → (x).toInt < (gi mem 2 1).toInt → (y).toInt < 0 → aTm aT0 mem → P (some (.int 0)) mem) (h4 : 0 ≤ (x).toInt → (x).toInt < (gi mem 2 1).toInt → 0 ≤ (y).toInt → (gi mem 2 2).toInt ≤ (y).toInt → aTm aT0 mem → P (some (.int 0)) mem) (h5 : 0 ≤ (x).toInt → (x).toInt < (gi mem 2 1).toInt → 0 ≤ (y).toInt → (y).toInt < (gi mem 2 2).toInt → ∀ (x5 : Int32), x5.toInt = ((y).toInt * 8) → ∀ (x7 : Int32), x7.toInt = (((y).toInt * 8) + (x).toInt) → ¬ ((gL mem 2 6) &&& (1 <<< ((x7 : Int32).toInt64 &&& 63))) = 0 → aTm aT0 mem → P (some (.int 0)) mem) (h6 : 0 ≤ (x).toInt → (x).toInt < (gi mem 2 1).toInt → 0 ≤ (y).toInt → (y).toInt < (gi mem 2 2).toInt → ∀ (x5 : Int32), x5.toInt = ((y).toInt * 8) → ∀ (x7 : Int32), x7.toInt = (((y).toInt * 8) + (x).toInt) → ((gL mem 2 6) &&& (1 <<< ((x7 : Int32).toInt64 &&& 63))) = 0 → aTm aT0 mem → P (some (.int 1)) mem) : yR zpg tX4_hasFreeCell (d + 1) (0, [(0, .ref 2), (1, .int x), (2, .int y)], [], mem) P := by
  refine yR_m 3 (fun _ _ _ _ => rfl) ?_
  refine wR_iv rfl rfl quA_e hm rfl rfl rfl rfl ?_
  show yR zpg tX4_hasCell d (0, [(0, .ref 2), (1, .int x), (2, .int y)], [], mem) _
  refine yR_m 1 (fun _ _ _ _ => rfl) ?_
  refine wR_if_lt rfl (a := (x).toInt) rfl (fun q1 => ?_) (fun q1 => ?_)
  ·
    refine yR_m 1 (fun _ _ _ _ => rfl) ?_
    refine yR_rz rfl ⟨by decide, by decide⟩ ?_
    show yR zpg tX4_hasFreeCell (d + 1) (6, [(0, .ref 2), (1, .int x), (2, .int y)], [.int 0], mem) _
    refine wR_if_eq rfl (a := 0) rfl (fun _ => ?_) (fun q => by exfalso; omega)
    refine yR_m 1 (fun _ _ _ _ => rfl) ?_
    exact yR_rz rfl ⟨by decide, by decide⟩ (h1 q1 hm)
  ·
    refine yR_m 2 (fun _ _ _ _ => rfl) ?_
    refine wR_gi rfl quA_e quA_1 hm rfl ?_
    refine wR_ic_ge rfl (a := (x).toInt) (c := (gi mem 2 1).toInt) rfl rfl (fun q2 => ?_) (fun q2 => ?_)
    ·
      refine yR_m 1 (fun _ _ _ _ => rfl) ?_
      refine yR_rz rfl ⟨by decide, by decide⟩ ?_
      show yR zpg tX4_hasFreeCell (d + 1) (6, [(0, .ref 2), (1, .int x), (2, .int y)], [.int 0], mem) _
      refine wR_if_eq rfl (a := 0) rfl (fun _ => ?_) (fun q => by exfalso; omega)
      refine yR_m 1 (fun _ _ _ _ => rfl) ?_
      exact yR_rz rfl ⟨by decide, by decide⟩ (h2 q1 q2 hm)
    ·
      refine yR_m 1 (fun _ _ _ _ => rfl) ?_
      refine wR_if_lt rfl (a := (y).toInt) rfl (fun q3 => ?_) (fun q3 => ?_)
      ·
        refine yR_m 1 (fun _ _ _ _ => rfl) ?_
        refine yR_rz rfl ⟨by decide, by decide⟩ ?_
        show yR zpg tX4_hasFreeCell (d + 1) (6, [(0, .ref 2), (1, .int x), (2, .int y)], [.int 0], mem) _
        refine wR_if_eq rfl (a := 0) rfl (fun _ => ?_) (fun q => by exfalso; omega)
        refine yR_m 1 (fun _ _ _ _ => rfl) ?_
        exact yR_rz rfl ⟨by decide, by decide⟩ (h3 q1 q2 q3 hm)
      ·
        refine yR_m 2 (fun _ _ _ _ => rfl) ?_
        refine wR_gi rfl quA_e quA_2 hm rfl ?_
        refine wR_ic_ge rfl (a := (y).toInt) (c := (gi mem 2 2).toInt) rfl rfl (fun q4 => ?_) (fun q4 => ?_)
        ·
          refine yR_m 1 (fun _ _ _ _ => rfl) ?_
          refine yR_rz rfl ⟨by decide, by decide⟩ ?_
          show yR zpg tX4_hasFreeCell (d + 1) (6, [(0, .ref 2), (1, .int x), (2, .int y)], [.int 0], mem) _
          refine wR_if_eq rfl (a := 0) rfl (fun _ => ?_) (fun q => by exfalso; omega)
          refine yR_m 1 (fun _ _ _ _ => rfl) ?_
          exact yR_rz rfl ⟨by decide, by decide⟩ (h4 q1 q2 q3 q4 hm)
        ·
          refine yR_m 2 (fun _ _ _ _ => rfl) ?_
          refine yR_rz rfl ⟨by decide, by decide⟩ ?_
          show yR zpg tX4_hasFreeCell (d + 1) (6, [(0, .ref 2), (1, .int x), (2, .int y)], [.int 1], mem) _
          refine wR_if_eq rfl (a := 1) rfl (fun q => by exfalso; omega) (fun _ => ?_)
          refine yR_m 1 (fun _ _ _ _ => rfl) ?_
          refine wR_gL rfl quA_e quA_6 hm rfl ?_
          refine yR_m 2 (fun _ _ _ _ => rfl) ?_
          refine wR_is rfl rfl rfl rfl rfl rfl ?_
          show yR zpg tX11_placeOf d (0, [(0, .int x), (1, .int y)], [], mem) _
          refine yR_m 2 (fun _ _ _ _ => rfl) ?_
          refine wN_mul (a := (y).toInt) (b := 8) rfl rfl rfl (by omega) (fun x5 e6 => ?_)
          refine yR_m 1 (fun _ _ _ _ => rfl) ?_
          refine wN_add (a := ((y).toInt * 8)) (b := (x).toInt) rfl e6 rfl (by omega) (fun x7 e8 => ?_)
          refine yR_ri rfl ?_
          show yR zpg tX4_hasFreeCell (d + 1) (18, [(0, .ref 2), (1, .int x), (2, .int y)], [.int x7, .long (gL mem 2 6)], mem) _
          refine wR_is rfl rfl rfl rfl rfl rfl ?_
          show yR zpg tX11_bitOf d (0, [(0, .int x7)], [], mem) _
          refine yR_m 3 (fun _ _ _ _ => rfl) ?_
          refine yR_rl rfl ?_
          show yR zpg tX4_hasFreeCell (d + 1) (21, [(0, .ref 2), (1, .int x), (2, .int y)], [.long (1 <<< ((x7 : Int32).toInt64 &&& 63)), .long (gL mem 2 6)], mem) _
          refine yR_m 3 (fun _ _ _ _ => rfl) ?_
          refine wR_lf_ne rfl (fun q9 => ?_) (fun q9 => ?_)
          ·
            refine yR_m 1 (fun _ _ _ _ => rfl) ?_
            exact yR_rz rfl ⟨by decide, by decide⟩ (h5 q1 q2 q3 q4 x5 e6 x7 e8 q9 hm)
          ·
            refine yR_m 2 (fun _ _ _ _ => rfl) ?_
            exact yR_rz rfl ⟨by decide, by decide⟩ (h6 q1 q2 q3 q4 x5 e6 x7 e8 q9 hm)

theorem h_hqA {x y : Int32} {a b : Int} (hb : (0 ≤ Qc Y ∧ Qc Y ≤ 7) ∧ 0 ≤ Qr Y ∧ Qr Y ≤ 7) (hm : aTm aT0 mem) (ex : x.toInt = a) (ey : y.toInt = b) (hQ : cQ 2 3 4 7 8 9 12 13 Y mem) (hx : 0 ≤ a ∧ a ≤ 255) (hy : 0 ≤ b ∧ b ≤ 255) (hd : 2 ≤ d) : yC zpg d 51 [.ref 2, .int x, .int y] mem (fun r m => ∃ v : Int32, r = some (.int v) ∧ mem = m ∧ ((v.toInt = 1 ∧ frO Y a b) ∨ (v.toInt = 0 ∧ ¬ frO Y a b))) := by
  obtain ⟨d, rfl⟩ : ∃ q, d = q + 2 := ⟨d - 2, by omega⟩
  subst ex ey
  have c1 := hQ.1.1
  have c2 := hQ.1.2
  refine yC_of (t := tX4_hasFreeCell) rfl rfl ?_
  exact w_hqA hm hx hy
        (fun q1 hm2 => ⟨0, rfl, rfl, Or.inr ⟨rfl, fun w => by have w1 := w.1; have w2 := w.2.1; omega⟩⟩)
        (fun q1 q2 hm2 => ⟨0, rfl, rfl, Or.inr ⟨rfl, fun w => by have w1 := w.1; have w2 := w.2.1; omega⟩⟩)
        (fun q1 q2 q3 hm2 => ⟨0, rfl, rfl, Or.inr ⟨rfl, fun w => by have w1 := w.1; have w2 := w.2.1; omega⟩⟩)
        (fun q1 q2 q3 q4 hm2 => ⟨0, rfl, rfl, Or.inr ⟨rfl, fun w => by have w1 := w.1; have w2 := w.2.1; omega⟩⟩)
        (fun q1 q2 q3 q4 x5 e6 x7 e8 q9 hm2 => by
          have K := bL_and (y := gL mem 2 6) (k := x7) (by omega) (by omega)
          have K2 := hQ.2.1 x7.toInt (by omega) (by omega)
          have e : 8 * y.toInt + x.toInt = x7.toInt := by omega
          exact ⟨0, rfl, rfl, Or.inr ⟨rfl, fun w => q9 (K.2 (fun z => w.2.2 (by rw [e]; exact K2.1 z)))⟩⟩)
        (fun q1 q2 q3 q4 x5 e6 x7 e8 q9 hm2 => by
          have K := bL_and (y := gL mem 2 6) (k := x7) (by omega) (by omega)
          have K2 := hQ.2.1 x7.toInt (by omega) (by omega)
          have e : 8 * y.toInt + x.toInt = x7.toInt := by omega
          exact ⟨1, rfl, rfl, Or.inl ⟨rfl, by omega, by omega, fun z => K.1 q9 (K2.2 (by rw [← e]; exact z))⟩⟩)
set_option maxRecDepth 100000 in
theorem w_hkA_116 {d : Nat} {mem : zM} {P : Option Value → zM → Prop} {Y : Qd} {n u g k : Int32} {lo : List (Nat × Value)} (hm : aTm aT0 mem) (l_0 : zlg lo 0 = some (.ref 0)) (l_1 : zlg lo 1 = some (.int n)) (l_2 : zlg lo 2 = some (.int u)) (l_3 : zlg lo 3 = some (.int g)) (l_4 : zlg lo 4 = some (.int k)) (hp : zfl mem 0 4 = some (.ref 2)) (hQ : cQ 2 3 4 7 8 9 12 13 Y mem) (hb : (0 ≤ Qc Y ∧ Qc Y ≤ 7) ∧ 0 ≤ Qr Y ∧ Qr Y ≤ 7) (hk : 0 ≤ k.toInt ∧ k.toInt ≤ 6) (hu : 1 ≤ u.toInt ∧ u.toInt ≤ 33) (hg : 0 ≤ g.toInt ∧ g.toInt ≤ 20) (h1 : (gi mem 2 13).toInt ≤ (k).toInt → ∀ (x2 : Int32), x2.toInt = ((u).toInt - 1) → ∀ (y4 : Int32), y4.toInt = (gn (ga mem 1) ((u).toInt - 1)) → ∀ (x6 : Int32), x6.toInt = ((u).toInt - 1) → ∀ (v8 : Int32), v8.toInt = ck (ga mem 1) (((u).toInt - 1) : Int).toNat → ¬ (gn (ga mem 1) ((u).toInt - 1)) = (v8).toInt → aTm aT0 mem → P (some (.int 0)) mem) (h2 : (gi mem 2 13).toInt ≤ (k).toInt → ∀ (x2 : Int32), x2.toInt = ((u).toInt - 1) → ∀ (y4 : Int32), y4.toInt = (gn (ga mem 1) ((u).toInt - 1)) → ∀ (x6 : Int32), x6.toInt = ((u).toInt - 1) → ∀ (v8 : Int32), v8.toInt = ck (ga mem 1) (((u).toInt - 1) : Int).toNat → (gn (ga mem 1) ((u).toInt - 1)) = (v8).toInt → aTm aT0 mem → P (some (.int 1)) mem) (s1 : (k).toInt < (gi mem 2 13).toInt → ∀ (x11 : Int32), x11.toInt = (2 * (k).toInt) → ∀ (x13 : Int32), x13.toInt = ((g).toInt + (2 * (k).toInt)) → ∀ (y15 : Int32), y15.toInt = (gn (ga mem 1) ((g).toInt + (2 * (k).toInt))) → ∀ (x17 : Int32), x17.toInt = (2 * (k).toInt) → ∀ (x19 : Int32), x19.toInt = ((g).toInt + (2 * (k).toInt)) → ∀ (x21 : Int32), x21.toInt = (((g).toInt + (2 * (k).toInt)) + 1) → ∀ (y23 : Int32), y23.toInt = (gn (ga mem 1) (((g).toInt + (2 * (k).toInt)) + 1)) → (0 : Int) ≤ (gn (ga mem 1) ((g).toInt + (2 * (k).toInt))) ∧ (gn (ga mem 1) ((g).toInt + (2 * (k).toInt))) ≤ 255) (s2 : (k).toInt < (gi mem 2 13).toInt → ∀ (x11 : Int32), x11.toInt = (2 * (k).toInt) → ∀ (x13 : Int32), x13.toInt = ((g).toInt + (2 * (k).toInt)) → ∀ (y15 : Int32), y15.toInt = (gn (ga mem 1) ((g).toInt + (2 * (k).toInt))) → ∀ (x17 : Int32), x17.toInt = (2 * (k).toInt) → ∀ (x19 : Int32), x19.toInt = ((g).toInt + (2 * (k).toInt)) → ∀ (x21 : Int32), x21.toInt = (((g).toInt + (2 * (k).toInt)) + 1) → ∀ (y23 : Int32), y23.toInt = (gn (ga mem 1) (((g).toInt + (2 * (k).toInt)) + 1)) → (0 : Int) ≤ (gn (ga mem 1) (((g).toInt + (2 * (k).toInt)) + 1)) ∧ (gn (ga mem 1) (((g).toInt + (2 * (k).toInt)) + 1)) ≤ 255) (h3 : (k).toInt < (gi mem 2 13).toInt → ∀ (x11 : Int32), x11.toInt = (2 * (k).toInt) → ∀ (x13 : Int32), x13.toInt = ((g).toInt + (2 * (k).toInt)) → ∀ (y15 : Int32), y15.toInt = (gn (ga mem 1) ((g).toInt + (2 * (k).toInt))) → ∀ (x17 : Int32), x17.toInt = (2 * (k).toInt) → ∀ (x19 : Int32), x19.toInt = ((g).toInt + (2 * (k).toInt)) → ∀ (x21 : Int32), x21.toInt = (((g).toInt + (2 * (k).toInt)) + 1) → ∀ (y23 : Int32), y23.toInt = (gn (ga mem 1) (((g).toInt + (2 * (k).toInt)) + 1)) → ∀ (v25 : Int32), ((v25.toInt = 1 ∧ frO Y (gn (ga mem 1) ((g).toInt + (2 * (k).toInt))) (gn (ga mem 1) (((g).toInt + (2 * (k).toInt)) + 1))) ∨ (v25.toInt = 0 ∧ ¬ frO Y (gn (ga mem 1) ((g).toInt + (2 * (k).toInt))) (gn (ga mem 1) (((g).toInt + (2 * (k).toInt)) + 1)))) → ¬ (v25).toInt = 0 → ∀ (x28 : Int32), x28.toInt = ((k).toInt + 1) → ∀ lo, zlg lo 0 = some (.ref 0) → zlg lo 1 = some (.int n) → zlg lo 2 = some (.int u) → zlg lo 3 = some (.int g) → zlg lo 4 = some (.int x28) → aTm aT0 mem → yR zpg tX11_holdsImage (d + 2) (116, lo, [], mem) P) (h4 : (k).toInt < (gi mem 2 13).toInt → ∀ (x11 : Int32), x11.toInt = (2 * (k).toInt) → ∀ (x13 : Int32), x13.toInt = ((g).toInt + (2 * (k).toInt)) → ∀ (y15 : Int32), y15.toInt = (gn (ga mem 1) ((g).toInt + (2 * (k).toInt))) → ∀ (x17 : Int32), x17.toInt = (2 * (k).toInt) → ∀ (x19 : Int32), x19.toInt = ((g).toInt + (2 * (k).toInt)) → ∀ (x21 : Int32), x21.toInt = (((g).toInt + (2 * (k).toInt)) + 1) → ∀ (y23 : Int32), y23.toInt = (gn (ga mem 1) (((g).toInt + (2 * (k).toInt)) + 1)) → ∀ (v25 : Int32), ((v25.toInt = 1 ∧ frO Y (gn (ga mem 1) ((g).toInt + (2 * (k).toInt))) (gn (ga mem 1) (((g).toInt + (2 * (k).toInt)) + 1))) ∨ (v25.toInt = 0 ∧ ¬ frO Y (gn (ga mem 1) ((g).toInt + (2 * (k).toInt))) (gn (ga mem 1) (((g).toInt + (2 * (k).toInt)) + 1)))) → (v25).toInt = 0 → aTm aT0 mem → P (some (.int 0)) mem) : yR zpg tX11_holdsImage (d + 2) (116, lo, [], mem) P := by
  have r7 := pA_r7 hm
  have r13 := pA_r13 hm
  have b0 := gR_1 hm (i := 0) (by decide) (by decide)
  have b1 := gR_1 hm (i := 1) (by decide) (by decide)
  refine wR_li rfl l_4 ?_
  refine wR_la rfl l_0 ?_
  refine wR_gq rfl cO_e hm hp ?_
  refine wR_gi rfl quA_e quA_13 hm rfl ?_
  refine wR_ic_ge rfl (a := (k).toInt) (c := (gi mem 2 13).toInt) rfl rfl (fun q1 => ?_) (fun q1 => ?_)
  ·
    refine wR_la rfl l_0 ?_
    refine wR_gr rfl cO_e cO_0 hm ?_
    refine wR_li rfl l_2 ?_
    refine yR_m 1 (fun _ _ _ _ => rfl) ?_
    refine wN_sub (a := (u).toInt) (b := 1) rfl rfl rfl (by omega) (fun x2 e3 => ?_)
    refine wN_al (a := ((u).toInt - 1)) rfl aR_1 hm rfl e3 (by omega) (fun y4 e5 => ?_)
    refine wR_la rfl l_0 ?_
    refine wR_gr rfl cO_e cO_0 hm ?_
    refine wR_li rfl l_2 ?_
    refine yR_m 1 (fun _ _ _ _ => rfl) ?_
    refine wN_sub (a := (u).toInt) (b := 1) rfl rfl rfl (by omega) (fun x6 e7 => ?_)
    refine yR_cs rfl rfl rfl (h_ckF2 hm e7 (by omega) (by omega)) ?_
    rintro _ _ ⟨v8, rfl, rfl, k9⟩
    show yR zpg tX11_holdsImage (d + 2) (188, lo, [.int v8, .int y4], mem) _
    refine wR_ic_ne rfl (a := (gn (ga mem 1) ((u).toInt - 1))) (c := (v8).toInt) e5 rfl (fun q10 => ?_) (fun q10 => ?_)
    ·
      refine yR_m 1 (fun _ _ _ _ => rfl) ?_
      exact yR_rz rfl ⟨by decide, by decide⟩ (h1 q1 x2 e3 y4 e5 x6 e7 v8 k9 q10 hm)
    ·
      refine yR_m 2 (fun _ _ _ _ => rfl) ?_
      exact yR_rz rfl ⟨by decide, by decide⟩ (h2 q1 x2 e3 y4 e5 x6 e7 v8 k9 q10 hm)
  ·
    refine wR_la rfl l_0 ?_
    refine wR_gq rfl cO_e hm hp ?_
    refine wR_la rfl l_0 ?_
    refine wR_gr rfl cO_e cO_0 hm ?_
    refine wR_li rfl l_3 ?_
    refine yR_m 1 (fun _ _ _ _ => rfl) ?_
    refine wR_li rfl l_4 ?_
    refine wN_mul (a := 2) (b := (k).toInt) rfl rfl rfl (by omega) (fun x11 e12 => ?_)
    refine wN_add (a := (g).toInt) (b := (2 * (k).toInt)) rfl rfl e12 (by omega) (fun x13 e14 => ?_)
    refine wN_al (a := ((g).toInt + (2 * (k).toInt))) rfl aR_1 hm rfl e14 (by omega) (fun y15 e16 => ?_)
    refine wR_la rfl l_0 ?_
    refine wR_gr rfl cO_e cO_0 hm ?_
    refine wR_li rfl l_3 ?_
    refine yR_m 1 (fun _ _ _ _ => rfl) ?_
    refine wR_li rfl l_4 ?_
    refine wN_mul (a := 2) (b := (k).toInt) rfl rfl rfl (by omega) (fun x17 e18 => ?_)
    refine wN_add (a := (g).toInt) (b := (2 * (k).toInt)) rfl rfl e18 (by omega) (fun x19 e20 => ?_)
    refine yR_m 1 (fun _ _ _ _ => rfl) ?_
    refine wN_add (a := ((g).toInt + (2 * (k).toInt))) (b := 1) rfl e20 rfl (by omega) (fun x21 e22 => ?_)
    refine wN_al (a := (((g).toInt + (2 * (k).toInt)) + 1)) rfl aR_1 hm rfl e22 (by omega) (fun y23 e24 => ?_)
    refine wR_cv rfl rfl quA_e hm rfl (h_hqA hb hm e16 e24 hQ (s1 q1 x11 e12 x13 e14 y15 e16 x17 e18 x19 e20 x21 e22 y23 e24) (s2 q1 x11 e12 x13 e14 y15 e16 x17 e18 x19 e20 x21 e22 y23 e24) (by omega)) ?_
    rintro _ _ ⟨v25, rfl, rfl, k26⟩
    show yR zpg tX11_holdsImage (d + 2) (159, lo, [.int v25], mem) _
    refine wR_if_ne rfl (a := (v25).toInt) rfl (fun q27 => ?_) (fun q27 => ?_)
    ·
      refine wN_in (a := (k).toInt) (b := 1) rfl rfl l_4 rfl rfl (by omega) (fun x28 e29 => fun lo30 e31 f32 => ?_)
      have lo30_0 := f32 0 _ (by decide) (Or.inl rfl) l_0
      have lo30_1 := f32 1 _ (by decide) (Or.inl rfl) l_1
      have lo30_2 := f32 2 _ (by decide) (Or.inl rfl) l_2
      have lo30_3 := f32 3 _ (by decide) (Or.inl rfl) l_3
      exact yR_m 1 (fun _ _ _ _ => rfl) (h3 q1 x11 e12 x13 e14 y15 e16 x17 e18 x19 e20 x21 e22 y23 e24 v25 k26 q27 x28 e29 lo30 lo30_0 lo30_1 lo30_2 lo30_3 e31 hm)
    ·
      refine yR_m 1 (fun _ _ _ _ => rfl) ?_
      exact yR_rz rfl ⟨by decide, by decide⟩ (h4 q1 x11 e12 x13 e14 y15 e16 x17 e18 x19 e20 x21 e22 y23 e24 v25 k26 q27 hm)

theorem hk116_A (hb : (0 ≤ Qc Y ∧ Qc Y ≤ 7) ∧ 0 ≤ Qr Y ∧ Qr Y ≤ 7) (hm : aTm aT0 mem) (hp : zfl mem 0 4 = some (.ref 2)) (hQ : cQ 2 3 4 7 8 9 12 13 Y mem) {u : Int32} (hu : u.toInt = n.toInt) (K1 : ¬ Qc Y = 0 ∧ n.toInt = 3 + 2 * ((Qt Y).length : Int) + 2 * ((Qf Y).length : Int) ∧ gn (ga mem 1) 0 * 256 + gn (ga mem 1) 1 ≤ 999) (hT : ∀ t, 0 ≤ t → t < ((Qt Y).length : Int) → gn (ga mem 1) (2 + 2 * t) ≤ 1 ∧ gn (ga mem 1) (3 + 2 * t) ≤ 99) {g : Int32} (hg : g.toInt = 2 + 2 * ((Qt Y).length : Int)) : ∀ (f : Nat) (k : Int32) (lo : List (Nat × Value)), ((Qf Y).length : Int) ≤ k.toInt + (f : Int) → 0 ≤ k.toInt → k.toInt ≤ ((Qf Y).length : Int) → (∀ j, 0 ≤ j → j < k.toInt → frO Y (gn (ga mem 1) (2 + 2 * ((Qt Y).length : Int) + 2 * j)) (gn (ga mem 1) (2 + 2 * ((Qt Y).length : Int) + 2 * j + 1))) → zlg lo 0 = some (.ref 0) → zlg lo 1 = some (.int n) → zlg lo 2 = some (.int u) → zlg lo 3 = some (.int g) → zlg lo 4 = some (.int k) → yR zpg tX11_holdsImage (d + 2) (116, lo, [], mem) (fun r m => ∃ v : Int32, r = some (.int v) ∧ mem = m ∧ ((v.toInt = 1 ∧ imK (ga mem 1) n.toInt Y) ∨ (v.toInt = 0 ∧ ¬ imK (ga mem 1) n.toInt Y))) := by
  have r7 := pA_r7 hm
  have r13 := pA_r13 hm
  have t1 := hQ.2.2.1.1
  have f1 := hQ.2.2.2.2.1.1
  intro f
  induction f with
  | zero =>
    intro k lo hf h0 h1 hO a0 a1 a2 a3 a4
    exact w_hkA_116 hm a0 a1 a2 a3 a4 hp hQ hb (by omega) (by omega) (by omega)
        (fun q1 x2 e3 y4 e5 x6 e7 v8 k9 q10 hm2 => ⟨0, rfl, rfl, Or.inr ⟨rfl, fun w => by
          have o := w.1.2.2.2
          rw [← hu, ← k9] at o
          omega⟩⟩)
        (fun q1 x2 e3 y4 e5 x6 e7 v8 k9 q10 hm2 => ⟨1, rfl, rfl, Or.inl ⟨rfl, ⟨K1.1, K1.2.1, K1.2.2, by rw [← hu, ← k9]; omega⟩, hT, fun j j0 j1 => hO j j0 (by omega)⟩⟩)
        (fun q1 x11 e12 x13 e14 y15 e16 x17 e18 x19 e20 x21 e22 y23 e24 => gR_1 hm (by omega) (by omega))
        (fun q1 x11 e12 x13 e14 y15 e16 x17 e18 x19 e20 x21 e22 y23 e24 => gR_1 hm (by omega) (by omega))
        (fun q1 x11 e12 x13 e14 y15 e16 x17 e18 x19 e20 x21 e22 y23 e24 v25 k26 q27 x28 e29 lo a0 a1 a2 a3 a4 hm2 => by exfalso; omega)
        (fun q1 x11 e12 x13 e14 y15 e16 x17 e18 x19 e20 x21 e22 y23 e24 v25 k26 q27 hm2 => ⟨0, rfl, rfl, Or.inr ⟨rfl, fun w => by
          have o := w.2.2 k.toInt (by omega) (by omega)
          rw [← hg] at o
          rcases k26 with z | z
          · have z1 := z.1; omega
          · exact z.2 o⟩⟩)
  | succ f ih =>
    intro k lo hf h0 h1 hO a0 a1 a2 a3 a4
    exact w_hkA_116 hm a0 a1 a2 a3 a4 hp hQ hb (by omega) (by omega) (by omega)
        (fun q1 x2 e3 y4 e5 x6 e7 v8 k9 q10 hm2 => ⟨0, rfl, rfl, Or.inr ⟨rfl, fun w => by
          have o := w.1.2.2.2
          rw [← hu, ← k9] at o
          omega⟩⟩)
        (fun q1 x2 e3 y4 e5 x6 e7 v8 k9 q10 hm2 => ⟨1, rfl, rfl, Or.inl ⟨rfl, ⟨K1.1, K1.2.1, K1.2.2, by rw [← hu, ← k9]; omega⟩, hT, fun j j0 j1 => hO j j0 (by omega)⟩⟩)
        (fun q1 x11 e12 x13 e14 y15 e16 x17 e18 x19 e20 x21 e22 y23 e24 => gR_1 hm (by omega) (by omega))
        (fun q1 x11 e12 x13 e14 y15 e16 x17 e18 x19 e20 x21 e22 y23 e24 => gR_1 hm (by omega) (by omega))
        (fun q1 x11 e12 x13 e14 y15 e16 x17 e18 x19 e20 x21 e22 y23 e24 v25 k26 q27 x28 e29 lo a0 a1 a2 a3 a4 hm2 => ih x28 lo (by omega) (by omega) (by omega) (fun j j0 j1 => by
          by_cases c : j < k.toInt
          · exact hO j j0 c
          · have e : j = k.toInt := by omega
            subst e
            rw [← hg]
            rcases k26 with w | w
            · exact w.2
            · exfalso; have w1 := w.1; omega) a0 a1 a2 a3 a4)
        (fun q1 x11 e12 x13 e14 y15 e16 x17 e18 x19 e20 x21 e22 y23 e24 v25 k26 q27 hm2 => ⟨0, rfl, rfl, Or.inr ⟨rfl, fun w => by
          have o := w.2.2 k.toInt (by omega) (by omega)
          rw [← hg] at o
          rcases k26 with z | z
          · have z1 := z.1; omega
          · exact z.2 o⟩⟩)
set_option maxRecDepth 100000 in
theorem w_hkA_53 {d : Nat} {mem : zM} {P : Option Value → zM → Prop} {Y : Qd} {n u k : Int32} {lo : List (Nat × Value)} (hm : aTm aT0 mem) (l_0 : zlg lo 0 = some (.ref 0)) (l_1 : zlg lo 1 = some (.int n)) (l_2 : zlg lo 2 = some (.int u)) (l_3 : zlg lo 3 = some (.int k)) (hp : zfl mem 0 4 = some (.ref 2)) (hQ : cQ 2 3 4 7 8 9 12 13 Y mem) (hb : (0 ≤ Qc Y ∧ Qc Y ≤ 7) ∧ 0 ≤ Qr Y ∧ Qr Y ≤ 7) (hk : 0 ≤ k.toInt ∧ k.toInt ≤ 9) (hu : 1 ≤ u.toInt ∧ u.toInt ≤ 33) (h1 : (gi mem 2 7).toInt ≤ (k).toInt → ∀ (x2 : Int32), x2.toInt = (2 * (gi mem 2 7).toInt) → ∀ (x4 : Int32), x4.toInt = (2 + (2 * (gi mem 2 7).toInt)) → ∀ lo, zlg lo 0 = some (.ref 0) → zlg lo 1 = some (.int n) → zlg lo 2 = some (.int u) → zlg lo 3 = some (.int x4) → zlg lo 4 = some (.int 0) → aTm aT0 mem → yR zpg tX11_holdsImage (d + 2) (116, lo, [], mem) P) (h2 : (k).toInt < (gi mem 2 7).toInt → ∀ (x12 : Int32), x12.toInt = (2 * (k).toInt) → ∀ (x14 : Int32), x14.toInt = (2 + (2 * (k).toInt)) → ∀ (y16 : Int32), y16.toInt = (gn (ga mem 1) (2 + (2 * (k).toInt))) → 1 < (gn (ga mem 1) (2 + (2 * (k).toInt))) → aTm aT0 mem → P (some (.int 0)) mem) (h3 : (k).toInt < (gi mem 2 7).toInt → ∀ (x12 : Int32), x12.toInt = (2 * (k).toInt) → ∀ (x14 : Int32), x14.toInt = (2 + (2 * (k).toInt)) → ∀ (y16 : Int32), y16.toInt = (gn (ga mem 1) (2 + (2 * (k).toInt))) → (gn (ga mem 1) (2 + (2 * (k).toInt))) ≤ 1 → ∀ (x19 : Int32), x19.toInt = (2 * (k).toInt) → ∀ (x21 : Int32), x21.toInt = (3 + (2 * (k).toInt)) → ∀ (y23 : Int32), y23.toInt = (gn (ga mem 1) (3 + (2 * (k).toInt))) → (gn (ga mem 1) (3 + (2 * (k).toInt))) ≤ 99 → ∀ (x26 : Int32), x26.toInt = ((k).toInt + 1) → ∀ lo, zlg lo 0 = some (.ref 0) → zlg lo 1 = some (.int n) → zlg lo 2 = some (.int u) → zlg lo 3 = some (.int x26) → aTm aT0 mem → yR zpg tX11_holdsImage (d + 2) (53, lo, [], mem) P) (h4 : (k).toInt < (gi mem 2 7).toInt → ∀ (x12 : Int32), x12.toInt = (2 * (k).toInt) → ∀ (x14 : Int32), x14.toInt = (2 + (2 * (k).toInt)) → ∀ (y16 : Int32), y16.toInt = (gn (ga mem 1) (2 + (2 * (k).toInt))) → (gn (ga mem 1) (2 + (2 * (k).toInt))) ≤ 1 → ∀ (x19 : Int32), x19.toInt = (2 * (k).toInt) → ∀ (x21 : Int32), x21.toInt = (3 + (2 * (k).toInt)) → ∀ (y23 : Int32), y23.toInt = (gn (ga mem 1) (3 + (2 * (k).toInt))) → 99 < (gn (ga mem 1) (3 + (2 * (k).toInt))) → aTm aT0 mem → P (some (.int 0)) mem) : yR zpg tX11_holdsImage (d + 2) (53, lo, [], mem) P := by
  have r7 := pA_r7 hm
  have r13 := pA_r13 hm
  have b0 := gR_1 hm (i := 0) (by decide) (by decide)
  have b1 := gR_1 hm (i := 1) (by decide) (by decide)
  refine wR_li rfl l_3 ?_
  refine wR_la rfl l_0 ?_
  refine wR_gq rfl cO_e hm hp ?_
  refine wR_gi rfl quA_e quA_7 hm rfl ?_
  refine wR_ic_ge rfl (a := (k).toInt) (c := (gi mem 2 7).toInt) rfl rfl (fun q1 => ?_) (fun q1 => ?_)
  ·
    refine yR_m 2 (fun _ _ _ _ => rfl) ?_
    refine wR_la rfl l_0 ?_
    refine wR_gq rfl cO_e hm hp ?_
    refine wR_gi rfl quA_e quA_7 hm rfl ?_
    refine wN_mul (a := 2) (b := (gi mem 2 7).toInt) rfl rfl rfl (by omega) (fun x2 e3 => ?_)
    refine wN_add (a := 2) (b := (2 * (gi mem 2 7).toInt)) rfl rfl e3 (by omega) (fun x4 e5 => ?_)
    refine wR_si rfl rfl (fun lo6 e7 f8 => ?_)
    have lo6_0 := f8 0 _ (by decide) (Or.inl rfl) l_0
    have lo6_1 := f8 1 _ (by decide) (Or.inl rfl) l_1
    have lo6_2 := f8 2 _ (by decide) (Or.inl rfl) l_2
    refine yR_m 1 (fun _ _ _ _ => rfl) ?_
    refine wR_si rfl rfl (fun lo9 e10 f11 => ?_)
    have lo9_3 := f11 3 _ (by decide) (Or.inl rfl) e7
    have lo9_0 := f11 0 _ (by decide) (Or.inl rfl) lo6_0
    have lo9_1 := f11 1 _ (by decide) (Or.inl rfl) lo6_1
    have lo9_2 := f11 2 _ (by decide) (Or.inl rfl) lo6_2
    exact h1 q1 x2 e3 x4 e5 lo9 lo9_0 lo9_1 lo9_2 lo9_3 e10 hm
  ·
    refine wR_la rfl l_0 ?_
    refine wR_gr rfl cO_e cO_0 hm ?_
    refine yR_m 2 (fun _ _ _ _ => rfl) ?_
    refine wR_li rfl l_3 ?_
    refine wN_mul (a := 2) (b := (k).toInt) rfl rfl rfl (by omega) (fun x12 e13 => ?_)
    refine wN_add (a := 2) (b := (2 * (k).toInt)) rfl rfl e13 (by omega) (fun x14 e15 => ?_)
    refine wN_al (a := (2 + (2 * (k).toInt))) rfl aR_1 hm rfl e15 (by omega) (fun y16 e17 => ?_)
    refine yR_m 1 (fun _ _ _ _ => rfl) ?_
    refine wR_ic_gt rfl (a := (gn (ga mem 1) (2 + (2 * (k).toInt)))) (c := 1) e17 rfl (fun q18 => ?_) (fun q18 => ?_)
    ·
      refine yR_m 1 (fun _ _ _ _ => rfl) ?_
      exact yR_rz rfl ⟨by decide, by decide⟩ (h2 q1 x12 e13 x14 e15 y16 e17 q18 hm)
    ·
      refine wR_la rfl l_0 ?_
      refine wR_gr rfl cO_e cO_0 hm ?_
      refine yR_m 2 (fun _ _ _ _ => rfl) ?_
      refine wR_li rfl l_3 ?_
      refine wN_mul (a := 2) (b := (k).toInt) rfl rfl rfl (by omega) (fun x19 e20 => ?_)
      refine wN_add (a := 3) (b := (2 * (k).toInt)) rfl rfl e20 (by omega) (fun x21 e22 => ?_)
      refine wN_al (a := (3 + (2 * (k).toInt))) rfl aR_1 hm rfl e22 (by omega) (fun y23 e24 => ?_)
      refine yR_m 1 (fun _ _ _ _ => rfl) ?_
      refine wR_ic_le rfl (a := (gn (ga mem 1) (3 + (2 * (k).toInt)))) (c := 99) e24 rfl (fun q25 => ?_) (fun q25 => ?_)
      ·
        refine wN_in (a := (k).toInt) (b := 1) rfl rfl l_3 rfl rfl (by omega) (fun x26 e27 => fun lo28 e29 f30 => ?_)
        have lo28_0 := f30 0 _ (by decide) (Or.inl rfl) l_0
        have lo28_1 := f30 1 _ (by decide) (Or.inl rfl) l_1
        have lo28_2 := f30 2 _ (by decide) (Or.inl rfl) l_2
        exact yR_m 1 (fun _ _ _ _ => rfl) (h3 q1 x12 e13 x14 e15 y16 e17 q18 x19 e20 x21 e22 y23 e24 q25 x26 e27 lo28 lo28_0 lo28_1 lo28_2 e29 hm)
      ·
        refine yR_m 1 (fun _ _ _ _ => rfl) ?_
        exact yR_rz rfl ⟨by decide, by decide⟩ (h4 q1 x12 e13 x14 e15 y16 e17 q18 x19 e20 x21 e22 y23 e24 q25 hm)

theorem hk53_A (hb : (0 ≤ Qc Y ∧ Qc Y ≤ 7) ∧ 0 ≤ Qr Y ∧ Qr Y ≤ 7) (hm : aTm aT0 mem) (hp : zfl mem 0 4 = some (.ref 2)) (hQ : cQ 2 3 4 7 8 9 12 13 Y mem) {u : Int32} (hu : u.toInt = n.toInt) (K1 : ¬ Qc Y = 0 ∧ n.toInt = 3 + 2 * ((Qt Y).length : Int) + 2 * ((Qf Y).length : Int) ∧ gn (ga mem 1) 0 * 256 + gn (ga mem 1) 1 ≤ 999) : ∀ (f : Nat) (k : Int32) (lo : List (Nat × Value)), ((Qt Y).length : Int) ≤ k.toInt + (f : Int) → 0 ≤ k.toInt → k.toInt ≤ ((Qt Y).length : Int) → (∀ t, 0 ≤ t → t < k.toInt → gn (ga mem 1) (2 + 2 * t) ≤ 1 ∧ gn (ga mem 1) (3 + 2 * t) ≤ 99) → zlg lo 0 = some (.ref 0) → zlg lo 1 = some (.int n) → zlg lo 2 = some (.int u) → zlg lo 3 = some (.int k) → yR zpg tX11_holdsImage (d + 2) (53, lo, [], mem) (fun r m => ∃ v : Int32, r = some (.int v) ∧ mem = m ∧ ((v.toInt = 1 ∧ imK (ga mem 1) n.toInt Y) ∨ (v.toInt = 0 ∧ ¬ imK (ga mem 1) n.toInt Y))) := by
  have r7 := pA_r7 hm
  have r13 := pA_r13 hm
  have t1 := hQ.2.2.1.1
  have f1 := hQ.2.2.2.2.1.1
  intro f
  induction f with
  | zero =>
    intro k lo hf h0 h1 hT a0 a1 a2 a3
    exact w_hkA_53 hm a0 a1 a2 a3 hp hQ hb (by omega) (by omega)
        (fun q1 x2 e3 x4 e5 lo a0 a1 a2 a3 a4 hm2 => hk116_A hb hm2 hp hQ hu K1 (fun t h0 h1 => hT t h0 (by omega)) (g := x4) (by omega) 6 0 lo (by show _ ≤ (0 : Int) + 6; omega) (by decide) (by show (0 : Int) ≤ _; omega) (fun j j0 j1 => by exfalso; have j2 : j < 0 := j1; omega) a0 a1 a2 a3 a4)
        (fun q1 x12 e13 x14 e15 y16 e17 q18 hm2 => ⟨0, rfl, rfl, Or.inr ⟨rfl, fun w => by
          have o := w.2.1 k.toInt (by omega) (by omega)
          omega⟩⟩)
        (fun q1 x12 e13 x14 e15 y16 e17 q18 x19 e20 x21 e22 y23 e24 q25 x26 e27 lo a0 a1 a2 a3 hm2 => by exfalso; omega)
        (fun q1 x12 e13 x14 e15 y16 e17 q18 x19 e20 x21 e22 y23 e24 q25 hm2 => ⟨0, rfl, rfl, Or.inr ⟨rfl, fun w => by
          have o := w.2.1 k.toInt (by omega) (by omega)
          omega⟩⟩)
  | succ f ih =>
    intro k lo hf h0 h1 hT a0 a1 a2 a3
    exact w_hkA_53 hm a0 a1 a2 a3 hp hQ hb (by omega) (by omega)
        (fun q1 x2 e3 x4 e5 lo a0 a1 a2 a3 a4 hm2 => hk116_A hb hm2 hp hQ hu K1 (fun t h0 h1 => hT t h0 (by omega)) (g := x4) (by omega) 6 0 lo (by show _ ≤ (0 : Int) + 6; omega) (by decide) (by show (0 : Int) ≤ _; omega) (fun j j0 j1 => by exfalso; have j2 : j < 0 := j1; omega) a0 a1 a2 a3 a4)
        (fun q1 x12 e13 x14 e15 y16 e17 q18 hm2 => ⟨0, rfl, rfl, Or.inr ⟨rfl, fun w => by
          have o := w.2.1 k.toInt (by omega) (by omega)
          omega⟩⟩)
        (fun q1 x12 e13 x14 e15 y16 e17 q18 x19 e20 x21 e22 y23 e24 q25 x26 e27 lo a0 a1 a2 a3 hm2 => ih x26 lo (by omega) (by omega) (by omega) (fun j j0 j1 => by
          by_cases c : j < k.toInt
          · exact hT j j0 c
          · have e : j = k.toInt := by omega
            subst e
            omega) a0 a1 a2 a3)
        (fun q1 x12 e13 x14 e15 y16 e17 q18 x19 e20 x21 e22 y23 e24 q25 hm2 => ⟨0, rfl, rfl, Or.inr ⟨rfl, fun w => by
          have o := w.2.1 k.toInt (by omega) (by omega)
          omega⟩⟩)
set_option maxRecDepth 100000 in
theorem w_hkA_0 {d : Nat} {mem : zM} {P : Option Value → zM → Prop} {Y : Qd} {n : Int32} {lo : List (Nat × Value)} (hm : aTm aT0 mem) (l_0 : zlg lo 0 = some (.ref 0)) (l_1 : zlg lo 1 = some (.int n)) (hp : zfl mem 0 4 = some (.ref 2)) (hQ : cQ 2 3 4 7 8 9 12 13 Y mem) (hb : (0 ≤ Qc Y ∧ Qc Y ≤ 7) ∧ 0 ≤ Qr Y ∧ Qr Y ≤ 7) (h1 : ∀ (x1 : Int32), x1.toInt = (2 * (gi mem 2 7).toInt) → ∀ (x3 : Int32), x3.toInt = (2 + (2 * (gi mem 2 7).toInt)) → ∀ (x5 : Int32), x5.toInt = (2 * (gi mem 2 13).toInt) → ∀ (x7 : Int32), x7.toInt = ((2 + (2 * (gi mem 2 7).toInt)) + (2 * (gi mem 2 13).toInt)) → ∀ (x9 : Int32), x9.toInt = (((2 + (2 * (gi mem 2 7).toInt)) + (2 * (gi mem 2 13).toInt)) + 1) → (gi mem 2 1).toInt = 0 → aTm aT0 mem → P (some (.int 0)) mem) (h2 : ∀ (x1 : Int32), x1.toInt = (2 * (gi mem 2 7).toInt) → ∀ (x3 : Int32), x3.toInt = (2 + (2 * (gi mem 2 7).toInt)) → ∀ (x5 : Int32), x5.toInt = (2 * (gi mem 2 13).toInt) → ∀ (x7 : Int32), x7.toInt = ((2 + (2 * (gi mem 2 7).toInt)) + (2 * (gi mem 2 13).toInt)) → ∀ (x9 : Int32), x9.toInt = (((2 + (2 * (gi mem 2 7).toInt)) + (2 * (gi mem 2 13).toInt)) + 1) → ¬ (gi mem 2 1).toInt = 0 → ¬ (n).toInt = (((2 + (2 * (gi mem 2 7).toInt)) + (2 * (gi mem 2 13).toInt)) + 1) → aTm aT0 mem → P (some (.int 0)) mem) (h3 : ∀ (x1 : Int32), x1.toInt = (2 * (gi mem 2 7).toInt) → ∀ (x3 : Int32), x3.toInt = (2 + (2 * (gi mem 2 7).toInt)) → ∀ (x5 : Int32), x5.toInt = (2 * (gi mem 2 13).toInt) → ∀ (x7 : Int32), x7.toInt = ((2 + (2 * (gi mem 2 7).toInt)) + (2 * (gi mem 2 13).toInt)) → ∀ (x9 : Int32), x9.toInt = (((2 + (2 * (gi mem 2 7).toInt)) + (2 * (gi mem 2 13).toInt)) + 1) → ¬ (gi mem 2 1).toInt = 0 → (n).toInt = (((2 + (2 * (gi mem 2 7).toInt)) + (2 * (gi mem 2 13).toInt)) + 1) → ∀ (y16 : Int32), y16.toInt = (gn (ga mem 1) 0) → ∀ (x18 : Int32), x18.toInt = ((gn (ga mem 1) 0) * 256) → ∀ (y20 : Int32), y20.toInt = (gn (ga mem 1) 1) → ∀ (x22 : Int32), x22.toInt = (((gn (ga mem 1) 0) * 256) + (gn (ga mem 1) 1)) → (((gn (ga mem 1) 0) * 256) + (gn (ga mem 1) 1)) ≤ 999 → ∀ lo, zlg lo 0 = some (.ref 0) → zlg lo 1 = some (.int n) → zlg lo 2 = some (.int x9) → zlg lo 3 = some (.int 0) → aTm aT0 mem → yR zpg tX11_holdsImage (d + 2) (53, lo, [], mem) P) (h4 : ∀ (x1 : Int32), x1.toInt = (2 * (gi mem 2 7).toInt) → ∀ (x3 : Int32), x3.toInt = (2 + (2 * (gi mem 2 7).toInt)) → ∀ (x5 : Int32), x5.toInt = (2 * (gi mem 2 13).toInt) → ∀ (x7 : Int32), x7.toInt = ((2 + (2 * (gi mem 2 7).toInt)) + (2 * (gi mem 2 13).toInt)) → ∀ (x9 : Int32), x9.toInt = (((2 + (2 * (gi mem 2 7).toInt)) + (2 * (gi mem 2 13).toInt)) + 1) → ¬ (gi mem 2 1).toInt = 0 → (n).toInt = (((2 + (2 * (gi mem 2 7).toInt)) + (2 * (gi mem 2 13).toInt)) + 1) → ∀ (y16 : Int32), y16.toInt = (gn (ga mem 1) 0) → ∀ (x18 : Int32), x18.toInt = ((gn (ga mem 1) 0) * 256) → ∀ (y20 : Int32), y20.toInt = (gn (ga mem 1) 1) → ∀ (x22 : Int32), x22.toInt = (((gn (ga mem 1) 0) * 256) + (gn (ga mem 1) 1)) → 999 < (((gn (ga mem 1) 0) * 256) + (gn (ga mem 1) 1)) → aTm aT0 mem → P (some (.int 0)) mem) : yR zpg tX11_holdsImage (d + 2) (0, lo, [], mem) P := by
  have r7 := pA_r7 hm
  have r13 := pA_r13 hm
  have b0 := gR_1 hm (i := 0) (by decide) (by decide)
  have b1 := gR_1 hm (i := 1) (by decide) (by decide)
  refine yR_m 2 (fun _ _ _ _ => rfl) ?_
  refine wR_la rfl l_0 ?_
  refine wR_gq rfl cO_e hm hp ?_
  refine wR_gi rfl quA_e quA_7 hm rfl ?_
  refine wN_mul (a := 2) (b := (gi mem 2 7).toInt) rfl rfl rfl (by omega) (fun x1 e2 => ?_)
  refine wN_add (a := 2) (b := (2 * (gi mem 2 7).toInt)) rfl rfl e2 (by omega) (fun x3 e4 => ?_)
  refine yR_m 1 (fun _ _ _ _ => rfl) ?_
  refine wR_la rfl l_0 ?_
  refine wR_gq rfl cO_e hm hp ?_
  refine wR_gi rfl quA_e quA_13 hm rfl ?_
  refine wN_mul (a := 2) (b := (gi mem 2 13).toInt) rfl rfl rfl (by omega) (fun x5 e6 => ?_)
  refine wN_add (a := (2 + (2 * (gi mem 2 7).toInt))) (b := (2 * (gi mem 2 13).toInt)) rfl e4 e6 (by omega) (fun x7 e8 => ?_)
  refine yR_m 1 (fun _ _ _ _ => rfl) ?_
  refine wN_add (a := ((2 + (2 * (gi mem 2 7).toInt)) + (2 * (gi mem 2 13).toInt))) (b := 1) rfl e8 rfl (by omega) (fun x9 e10 => ?_)
  refine wR_si rfl rfl (fun lo11 e12 f13 => ?_)
  have lo11_0 := f13 0 _ (by decide) (Or.inl rfl) l_0
  have lo11_1 := f13 1 _ (by decide) (Or.inl rfl) l_1
  refine wR_la rfl lo11_0 ?_
  refine wR_gq rfl cO_e hm hp ?_
  refine wR_gi rfl quA_e quA_1 hm rfl ?_
  refine wR_if_eq rfl (a := (gi mem 2 1).toInt) rfl (fun q14 => ?_) (fun q14 => ?_)
  ·
    refine yR_m 1 (fun _ _ _ _ => rfl) ?_
    exact yR_rz rfl ⟨by decide, by decide⟩ (h1 x1 e2 x3 e4 x5 e6 x7 e8 x9 e10 q14 hm)
  ·
    refine wR_li rfl lo11_1 ?_
    refine wR_li rfl e12 ?_
    refine wR_ic_ne rfl (a := (n).toInt) (c := (((2 + (2 * (gi mem 2 7).toInt)) + (2 * (gi mem 2 13).toInt)) + 1)) rfl e10 (fun q15 => ?_) (fun q15 => ?_)
    ·
      refine yR_m 1 (fun _ _ _ _ => rfl) ?_
      exact yR_rz rfl ⟨by decide, by decide⟩ (h2 x1 e2 x3 e4 x5 e6 x7 e8 x9 e10 q14 q15 hm)
    ·
      refine wR_la rfl lo11_0 ?_
      refine wR_iv rfl rfl cO_e hm rfl rfl rfl rfl ?_
      show yR zpg tX11_nightOnTape (d + 1) (0, [(0, .ref 0)], [], mem) _
      refine yR_m 1 (fun _ _ _ _ => rfl) ?_
      refine wR_gr rfl cO_e cO_0 hm ?_
      refine yR_m 1 (fun _ _ _ _ => rfl) ?_
      refine wN_al (a := 0) rfl aR_1 hm rfl rfl (by decide) (fun y16 e17 => ?_)
      refine yR_m 1 (fun _ _ _ _ => rfl) ?_
      refine wN_mul (a := (gn (ga mem 1) 0)) (b := 256) rfl e17 rfl (by omega) (fun x18 e19 => ?_)
      refine yR_m 1 (fun _ _ _ _ => rfl) ?_
      refine wR_gr rfl cO_e cO_0 hm ?_
      refine yR_m 1 (fun _ _ _ _ => rfl) ?_
      refine wN_al (a := 1) rfl aR_1 hm rfl rfl (by decide) (fun y20 e21 => ?_)
      refine wN_add (a := ((gn (ga mem 1) 0) * 256)) (b := (gn (ga mem 1) 1)) rfl e19 e21 (by omega) (fun x22 e23 => ?_)
      refine yR_ri rfl ?_
      show yR zpg tX11_holdsImage (d + 2) (43, lo11, [.int x22], mem) _
      refine yR_m 1 (fun _ _ _ _ => rfl) ?_
      refine wR_ic_le rfl (a := (((gn (ga mem 1) 0) * 256) + (gn (ga mem 1) 1))) (c := 999) e23 rfl (fun q24 => ?_) (fun q24 => ?_)
      ·
        refine yR_m 1 (fun _ _ _ _ => rfl) ?_
        refine wR_si rfl rfl (fun lo25 e26 f27 => ?_)
        have lo25_2 := f27 2 _ (by decide) (Or.inl rfl) e12
        have lo25_0 := f27 0 _ (by decide) (Or.inl rfl) lo11_0
        have lo25_1 := f27 1 _ (by decide) (Or.inl rfl) lo11_1
        exact h3 x1 e2 x3 e4 x5 e6 x7 e8 x9 e10 q14 q15 y16 e17 x18 e19 y20 e21 x22 e23 q24 lo25 lo25_0 lo25_1 lo25_2 e26 hm
      ·
        refine yR_m 1 (fun _ _ _ _ => rfl) ?_
        exact yR_rz rfl ⟨by decide, by decide⟩ (h4 x1 e2 x3 e4 x5 e6 x7 e8 x9 e10 q14 q15 y16 e17 x18 e19 y20 e21 x22 e23 q24 hm)

theorem h_hkA (hb : (0 ≤ Qc Y ∧ Qc Y ≤ 7) ∧ 0 ≤ Qr Y ∧ Qr Y ≤ 7) (hm : aTm aT0 mem) (hp : zfl mem 0 4 = some (.ref 2)) (hQ : cQ 2 3 4 7 8 9 12 13 Y mem) (hn : 0 ≤ n.toInt ∧ n.toInt ≤ 1600) (hd : 3 ≤ d) : yC zpg d 157 [.ref 0, .int n] mem (fun r m => ∃ v : Int32, r = some (.int v) ∧ mem = m ∧ ((v.toInt = 1 ∧ imK (ga mem 1) n.toInt Y) ∨ (v.toInt = 0 ∧ ¬ imK (ga mem 1) n.toInt Y))) := by
  obtain ⟨d, rfl⟩ : ∃ q, d = q + 3 := ⟨d - 3, by omega⟩
  have r7 := pA_r7 hm
  have r13 := pA_r13 hm
  have t1 := hQ.2.2.1.1
  have f1 := hQ.2.2.2.2.1.1
  have c1 := hQ.1.1
  refine yC_of (t := tX11_holdsImage) rfl rfl ?_
  exact w_hkA_0 hm rfl rfl hp hQ hb
        (fun x1 e2 x3 e4 x5 e6 x7 e8 x9 e10 q14 hm2 => ⟨0, rfl, rfl, Or.inr ⟨rfl, fun w => by have w1 := w.1; omega⟩⟩)
        (fun x1 e2 x3 e4 x5 e6 x7 e8 x9 e10 q14 q15 hm2 => ⟨0, rfl, rfl, Or.inr ⟨rfl, fun w => by have w1 := w.1; omega⟩⟩)
        (fun x1 e2 x3 e4 x5 e6 x7 e8 x9 e10 q14 q15 y16 e17 x18 e19 y20 e21 x22 e23 q24 lo a0 a1 a2 a3 hm2 => hk53_A hb hm2 hp hQ (u := x9) (by omega) ⟨by omega, by omega, by omega⟩ 9 0 lo (by show _ ≤ (0 : Int) + 9; omega) (by decide) (by show (0 : Int) ≤ _; omega) (fun j j0 j1 => by exfalso; have j2 : j < 0 := j1; omega) a0 a1 a2 a3)
        (fun x1 e2 x3 e4 x5 e6 x7 e8 x9 e10 q14 q15 y16 e17 x18 e19 y20 e21 x22 e23 q24 hm2 => ⟨0, rfl, rfl, Or.inr ⟨rfl, fun w => by have w1 := w.1; omega⟩⟩)
theorem on1_pA_114 {g : Int32} (hg : 0 ≤ g.toInt ∧ g.toInt ≤ 20) : ∀ (f : Nat) (mem : zM) (k : Int32) (lo : List (Nat × Value)), (gi mem 2 13).toInt ≤ k.toInt + (f : Int) → 0 ≤ k.toInt ∧ k.toInt ≤ 6 → aTm aT0 mem → zfl mem 0 4 = some (.ref 2) → zlg lo 0 = some (.ref 0) → zlg lo 2 = some (.int g) → zlg lo 3 = some (.int k) → yR zpg tX11_on (d + 4) (114, lo, [], mem) (fun r _ => r = some (.int 1)) := by
  intro f
  induction f with
  | zero =>
    intro mem k lo hk h0 hm hp a0 a2 a3
    have r13 := pA_r13 hm
    exact w_onpA_114 hm a0 a2 a3 hp h0 hg
        (fun q1 hm => rfl)
        (fun q1 x2 e3 x4 e5 y6 e7 x8 e9 x10 e11 x12 e13 y14 e15 x16 e17 lo a0 a2 a3 hm => by exfalso; omega)
  | succ f ih =>
    intro mem k lo hk h0 hm hp a0 a2 a3
    have r13 := pA_r13 hm
    exact w_onpA_114 hm a0 a2 a3 hp h0 hg
        (fun q1 hm => rfl)
        (fun q1 x2 e3 x4 e5 y6 e7 x8 e9 x10 e11 x12 e13 y14 e15 x16 e17 lo a0 a2 a3 hm => ih _ _ lo (by rw [(gi_sa)]; omega) (by omega) hm (zfl_sa.trans hp) a0 a2 a3)
theorem on1_pA_40 : ∀ (f : Nat) (mem : zM) (k : Int32) (lo : List (Nat × Value)), (gi mem 2 7).toInt ≤ k.toInt + (f : Int) → 0 ≤ k.toInt → k.toInt ≤ (gi mem 2 7).toInt → aTm aT0 mem → zfl mem 0 4 = some (.ref 2) → hiT 2 mem → zlg lo 0 = some (.ref 0) → zlg lo 2 = some (.int k) → yR zpg tX11_on (d + 4) (40, lo, [], mem) (fun r _ => r = some (.int 1)) := by
  intro f
  induction f with
  | zero =>
    intro mem k lo hk h0 h9 hm hp hT a0 a2
    have r7 := pA_r7 hm
    exact w_onpA_40 hm a0 a2 hp ⟨h0, by omega⟩
        (fun q1 x2 e3 x4 e5 lo a0 a2 a3 hm => on1_pA_114 (by omega) 6 _ _ lo (by have := pA_r13 hm; show (gi _ _ _).toInt ≤ 0 + 6; omega) (by decide) hm hp a0 a2 a3)
        (fun q1 x12 e13 x14 e15 y16 e17 => by
          have r1 := nO_r1 hm
          have t1 := hT k.toInt h0 (by omega)
          have t0 := gR_1 hm (i := 2 + 2 * k.toInt) (by omega) (by omega)
          exact or_rg (by omega) (by omega) (by omega) (by omega) (by omega) (by omega))
        (fun q1 x12 e13 x14 e15 y16 e17 x18 e19 x20 e21 y22 e23 x24 e25 lo a0 a2 hm => by exfalso; omega)
  | succ f ih =>
    intro mem k lo hk h0 h9 hm hp hT a0 a2
    have r7 := pA_r7 hm
    exact w_onpA_40 hm a0 a2 hp ⟨h0, by omega⟩
        (fun q1 x2 e3 x4 e5 lo a0 a2 a3 hm => on1_pA_114 (by omega) 6 _ _ lo (by have := pA_r13 hm; show (gi _ _ _).toInt ≤ 0 + 6; omega) (by decide) hm hp a0 a2 a3)
        (fun q1 x12 e13 x14 e15 y16 e17 => by
          have r1 := nO_r1 hm
          have t1 := hT k.toInt h0 (by omega)
          have t0 := gR_1 hm (i := 2 + 2 * k.toInt) (by omega) (by omega)
          exact or_rg (by omega) (by omega) (by omega) (by omega) (by omega) (by omega))
        (fun q1 x12 e13 x14 e15 y16 e17 x18 e19 x20 e21 y22 e23 x24 e25 lo a0 a2 hm => ih _ _ lo (by rw [((gi_sa).trans (gi_sv_ne (by decide)))]; omega) (by omega) (by rw [((gi_sa).trans (gi_sv_ne (by decide)))]; omega) hm (zfl_sa.trans ((zfl_sv_ne (by decide)).trans hp)) (by unfold hiT; rw [((ga_sa_ne (by decide)).trans (ga_sv)), ((gi_sa).trans (gi_sv_ne (by decide)))]; exact hT) a0 a2)
set_option maxRecDepth 100000 in
theorem w_okA {d : Nat} {mem : zM} {P : Option Value → zM → Prop} {Y : Qd} {lo : List (Nat × Value)} (hm : aTm aT0 mem) (l_0 : zlg lo 0 = some (.ref 0)) (hp : zfl mem 0 4 = some (.ref 2)) (hQ : cQ 2 3 4 7 8 9 12 13 Y mem) (hb : (0 ≤ Qc Y ∧ Qc Y ≤ 7) ∧ 0 ≤ Qr Y ∧ Qr Y ≤ 7) (h1 : ∀ (v4 : Int32), ((v4.toInt = 1 ∧ imK (ga (si mem 0 1 0) 1) (gi mem 0 1).toInt Y) ∨ (v4.toInt = 0 ∧ ¬ imK (ga (si mem 0 1 0) 1) (gi mem 0 1).toInt Y)) → ¬ (v4).toInt = 0 → ∀ (y7 : Int32), y7.toInt = (gn (ga mem 1) 0) → ∀ (y9 : Int32), y9.toInt = (gn (ga mem 1) 1) → ∀ lo, zlg lo 0 = some (.ref 0) → zlg lo 2 = some (.int 0) → aTm aT0 (si (si (si mem 0 1 0) 31 0 ((y7 * 256) + y9)) 31 1 0) → yR zpg tX11_on (d + 4) (40, lo, [], (si (si (si mem 0 1 0) 31 0 ((y7 * 256) + y9)) 31 1 0)) P) (h2 : ∀ (v4 : Int32), ((v4.toInt = 1 ∧ imK (ga (si mem 0 1 0) 1) (gi mem 0 1).toInt Y) ∨ (v4.toInt = 0 ∧ ¬ imK (ga (si mem 0 1 0) 1) (gi mem 0 1).toInt Y)) → (v4).toInt = 0 → ∀ (y14 : Int32), y14.toInt = (gn (ga mem 220) 5) → aTm aT0 (sx (si mem 0 1 0) 220 5 (y14 + 1)) → P (some (.int 0)) (sx (si mem 0 1 0) 220 5 (y14 + 1))) : yR zpg tX11_on (d + 4) (0, lo, [], mem) P := by
  refine wR_la rfl l_0 ?_
  refine wR_iv rfl rfl cO_e hm rfl rfl rfl rfl ?_
  show yR zpg tX11_takeTape (d + 3) (0, [(0, .ref 0)], [], mem) _
  refine yR_m 1 (fun _ _ _ _ => rfl) ?_
  refine wR_gi rfl cO_e cO_1 hm rfl ?_
  refine yR_m 3 (fun _ _ _ _ => rfl) ?_
  refine wR_pi rfl cO_e cO_1 hm rfl ?_
  have hm_1 : aTm aT0 (si mem 0 1 0) := tm_si cO_e cO_1 hm (by decide)
  refine yR_m 1 (fun _ _ _ _ => rfl) ?_
  refine yR_ri rfl ?_
  show yR zpg tX11_on (d + 4) (4, lo, [.int (gi mem 0 1)], (si mem 0 1 0)) _
  refine wR_si rfl rfl (fun lo1 e2 f3 => ?_)
  have lo1_0 := f3 0 _ (by decide) (Or.inl rfl) l_0
  refine wR_la rfl lo1_0 ?_
  refine wR_li rfl e2 ?_
  refine wR_cv rfl rfl cO_e hm_1 rfl (h_hkA hb hm_1 ((zfl_sv_ne (by decide)).trans hp) (cQ_zaA (fun k h1 h2 => zat_sv_ne (by omega)) hQ) (cO_r1 hm) (by omega)) ?_
  rintro _ _ ⟨v4, rfl, rfl, k5⟩
  show yR zpg tX11_on (d + 4) (10, lo1, [.int v4], (si mem 0 1 0)) _
  refine wR_if_ne rfl (a := (v4).toInt) rfl (fun q6 => ?_) (fun q6 => ?_)
  ·
    refine wR_la rfl lo1_0 ?_
    refine wR_gr rfl cO_e cO_7 hm_1 ?_
    refine wR_la rfl lo1_0 ?_
    refine wR_iv rfl rfl cO_e hm_1 rfl rfl rfl rfl ?_
    show yR zpg tX11_nightOnTape (d + 3) (0, [(0, .ref 0)], [], (si mem 0 1 0)) _
    refine yR_m 1 (fun _ _ _ _ => rfl) ?_
    refine wR_gr rfl cO_e cO_0 hm_1 ?_
    refine yR_m 1 (fun _ _ _ _ => rfl) ?_
    refine wN_al (a := 0) rfl aR_1 hm_1 (ga_sv) rfl (by decide) (fun y7 e8 => ?_)
    refine yR_m 3 (fun _ _ _ _ => rfl) ?_
    refine wR_gr rfl cO_e cO_0 hm_1 ?_
    refine yR_m 1 (fun _ _ _ _ => rfl) ?_
    refine wN_al (a := 1) rfl aR_1 hm_1 (ga_sv) rfl (by decide) (fun y9 e10 => ?_)
    refine yR_m 1 (fun _ _ _ _ => rfl) ?_
    refine yR_ri rfl ?_
    show yR zpg tX11_on (d + 4) (27, lo1, [.int ((y7 * 256) + y9), .ref 31], (si mem 0 1 0)) _
    refine wR_pi rfl nO_e nO_0 hm_1 rfl ?_
    have hm_2 : aTm aT0 (si (si mem 0 1 0) 31 0 ((y7 * 256) + y9)) := tm_si nO_e nO_0 hm_1 (i32_b _)
    refine wR_la rfl lo1_0 ?_
    refine wR_gr rfl cO_e cO_7 hm_2 ?_
    refine yR_m 1 (fun _ _ _ _ => rfl) ?_
    refine wR_pi rfl nO_e nO_1 hm_2 rfl ?_
    have hm_3 : aTm aT0 (si (si (si mem 0 1 0) 31 0 ((y7 * 256) + y9)) 31 1 0) := tm_si nO_e nO_1 hm_2 (by decide)
    refine yR_m 1 (fun _ _ _ _ => rfl) ?_
    refine wR_si rfl rfl (fun lo11 e12 f13 => ?_)
    have lo11_1 := f13 1 _ (by decide) (Or.inl rfl) e2
    have lo11_0 := f13 0 _ (by decide) (Or.inl rfl) lo1_0
    exact h1 v4 k5 q6 y7 e8 y9 e10 lo11 lo11_0 e12 hm_3
  ·
    refine wR_la rfl lo1_0 ?_
    refine yR_m 1 (fun _ _ _ _ => rfl) ?_
    refine wR_iv rfl rfl cO_e hm_1 rfl rfl rfl rfl ?_
    show yR zpg tX11_refused (d + 3) (0, [(0, .ref 0), (1, .int 5)], [], (si mem 0 1 0)) _
    refine yR_m 1 (fun _ _ _ _ => rfl) ?_
    refine wR_gr rfl cO_e cO_14 hm_1 ?_
    refine yR_m 2 (fun _ _ _ _ => rfl) ?_
    refine wN_al (a := 5) rfl aR_220 hm_1 (ga_sv) rfl (by decide) (fun y14 e15 => ?_)
    refine yR_m 2 (fun _ _ _ _ => rfl) ?_
    refine wN_as (a := 5) rfl aR_220 hm_1 rfl (by decide) ?_
    have hm_4 : aTm aT0 (sx (si mem 0 1 0) 220 5 (y14 + 1)) := tm_sa aR_220 hm_1 (i32_b _)
    refine yR_m 1 (fun _ _ _ _ => rfl) ?_
    refine yR_rz rfl ⟨by decide, by decide⟩ ?_
    show yR zpg tX11_on (d + 4) (18, lo1, [.int 0], (sx (si mem 0 1 0) 220 5 (y14 + 1))) _
    exact yR_rz rfl ⟨by decide, by decide⟩ (h2 v4 k5 q6 y14 e15 hm_4)

theorem h_onA (hb : (0 ≤ Qc Y ∧ Qc Y ≤ 7) ∧ 0 ≤ Qr Y ∧ Qr Y ≤ 7) (hm : aTm aT0 mem) (hp : zfl mem 0 4 = some (.ref 2)) (hQ : cQ 2 3 4 7 8 9 12 13 Y mem) (hd : 5 ≤ d) : yC zpg d 142 [.ref 0] mem (fun r _ => ∃ v : Int32, r = some (.int v) ∧ imA (ga mem 1) (gi mem 0 1).toInt Y v.toInt) := by
  obtain ⟨d, rfl⟩ : ∃ q, d = q + 5 := ⟨d - 5, by omega⟩
  refine yC_of (t := tX11_on) rfl rfl ?_
  exact w_okA hm rfl hp hQ hb
        (fun v4 k5 q6 y7 e8 y9 e10 lo a0 a2 hm2 => by
          rcases k5 with w | w
          · have K := w.2
            rw [ga_sv] at K
            have hT : hiT 2 (si (si (si mem 0 1 0) 31 0 ((y7 * 256) + y9)) 31 1 0) := by
              unfold hiT
              rw [((ga_sv).trans ((ga_sv).trans (ga_sv))), ((gi_sv_ne (by decide)).trans ((gi_sv_ne (by decide)).trans (gi_sv_ne (by decide))))]
              intro j j0 j1
              exact (K.2.1 j j0 (by have t1 := hQ.2.2.1.1; omega)).1
            exact yR_mono (fun r m q => ⟨1, q, Or.inl ⟨K, rfl⟩⟩) (on1_pA_40 9 _ _ lo (by have := pA_r7 hm2; show (gi _ _ _).toInt ≤ 0 + 9; omega) (by decide) (by have := pA_r7 hm2; show 0 ≤ (gi _ _ _).toInt; omega) hm2 ((zfl_sv_ne (by decide)).trans ((zfl_sv_ne (by decide)).trans ((zfl_sv_ne (by decide)).trans hp))) hT a0 a2)
          · exfalso; have w1 := w.1; omega)
        (fun v4 k5 q6 y14 e15 hm2 => by
          rcases k5 with w | w
          · exfalso; have w1 := w.1; omega
          · have K := w.2
            rw [ga_sv] at K
            exact ⟨0, rfl, Or.inr ⟨K, rfl⟩⟩)
set_option maxRecDepth 100000 in
theorem w_hqB {d : Nat} {mem : zM} {P : Option Value → zM → Prop} {x y : Int32} (hm : aTm aT0 mem) (hx : 0 ≤ x.toInt ∧ x.toInt ≤ 255) (hy : 0 ≤ y.toInt ∧ y.toInt ≤ 255) (h1 : (x).toInt < 0 → aTm aT0 mem → P (some (.int 0)) mem) (h2 : 0 ≤ (x).toInt → (gi mem 14 1).toInt ≤ (x).toInt → aTm aT0 mem → P (some (.int 0)) mem) (h3 : 0 ≤ (x).toInt → (x).toInt < (gi mem 14 1).toInt → (y).toInt < 0 → aTm aT0 mem → P (some (.int 0)) mem) (h4 : 0 ≤ (x).toInt → (x).toInt < (gi mem 14 1).toInt → 0 ≤ (y).toInt → (gi mem 14 2).toInt ≤ (y).toInt → aTm aT0 mem → P (some (.int 0)) mem) (h5 : 0 ≤ (x).toInt → (x).toInt < (gi mem 14 1).toInt → 0 ≤ (y).toInt → (y).toInt < (gi mem 14 2).toInt → ∀ (x5 : Int32), x5.toInt = ((y).toInt * 8) → ∀ (x7 : Int32), x7.toInt = (((y).toInt * 8) + (x).toInt) → ¬ ((gL mem 14 6) &&& (1 <<< ((x7 : Int32).toInt64 &&& 63))) = 0 → aTm aT0 mem → P (some (.int 0)) mem) (h6 : 0 ≤ (x).toInt → (x).toInt < (gi mem 14 1).toInt → 0 ≤ (y).toInt → (y).toInt < (gi mem 14 2).toInt → ∀ (x5 : Int32), x5.toInt = ((y).toInt * 8) → ∀ (x7 : Int32), x7.toInt = (((y).toInt * 8) + (x).toInt) → ((gL mem 14 6) &&& (1 <<< ((x7 : Int32).toInt64 &&& 63))) = 0 → aTm aT0 mem → P (some (.int 1)) mem) : yR zpg tX4_hasFreeCell (d + 1) (0, [(0, .ref 14), (1, .int x), (2, .int y)], [], mem) P := by
  refine yR_m 3 (fun _ _ _ _ => rfl) ?_
  refine wR_iv rfl rfl quB_e hm rfl rfl rfl rfl ?_
  show yR zpg tX4_hasCell d (0, [(0, .ref 14), (1, .int x), (2, .int y)], [], mem) _
  refine yR_m 1 (fun _ _ _ _ => rfl) ?_
  refine wR_if_lt rfl (a := (x).toInt) rfl (fun q1 => ?_) (fun q1 => ?_)
  ·
    refine yR_m 1 (fun _ _ _ _ => rfl) ?_
    refine yR_rz rfl ⟨by decide, by decide⟩ ?_
    show yR zpg tX4_hasFreeCell (d + 1) (6, [(0, .ref 14), (1, .int x), (2, .int y)], [.int 0], mem) _
    refine wR_if_eq rfl (a := 0) rfl (fun _ => ?_) (fun q => by exfalso; omega)
    refine yR_m 1 (fun _ _ _ _ => rfl) ?_
    exact yR_rz rfl ⟨by decide, by decide⟩ (h1 q1 hm)
  ·
    refine yR_m 2 (fun _ _ _ _ => rfl) ?_
    refine wR_gi rfl quB_e quB_1 hm rfl ?_
    refine wR_ic_ge rfl (a := (x).toInt) (c := (gi mem 14 1).toInt) rfl rfl (fun q2 => ?_) (fun q2 => ?_)
    ·
      refine yR_m 1 (fun _ _ _ _ => rfl) ?_
      refine yR_rz rfl ⟨by decide, by decide⟩ ?_
      show yR zpg tX4_hasFreeCell (d + 1) (6, [(0, .ref 14), (1, .int x), (2, .int y)], [.int 0], mem) _
      refine wR_if_eq rfl (a := 0) rfl (fun _ => ?_) (fun q => by exfalso; omega)
      refine yR_m 1 (fun _ _ _ _ => rfl) ?_
      exact yR_rz rfl ⟨by decide, by decide⟩ (h2 q1 q2 hm)
    ·
      refine yR_m 1 (fun _ _ _ _ => rfl) ?_
      refine wR_if_lt rfl (a := (y).toInt) rfl (fun q3 => ?_) (fun q3 => ?_)
      ·
        refine yR_m 1 (fun _ _ _ _ => rfl) ?_
        refine yR_rz rfl ⟨by decide, by decide⟩ ?_
        show yR zpg tX4_hasFreeCell (d + 1) (6, [(0, .ref 14), (1, .int x), (2, .int y)], [.int 0], mem) _
        refine wR_if_eq rfl (a := 0) rfl (fun _ => ?_) (fun q => by exfalso; omega)
        refine yR_m 1 (fun _ _ _ _ => rfl) ?_
        exact yR_rz rfl ⟨by decide, by decide⟩ (h3 q1 q2 q3 hm)
      ·
        refine yR_m 2 (fun _ _ _ _ => rfl) ?_
        refine wR_gi rfl quB_e quB_2 hm rfl ?_
        refine wR_ic_ge rfl (a := (y).toInt) (c := (gi mem 14 2).toInt) rfl rfl (fun q4 => ?_) (fun q4 => ?_)
        ·
          refine yR_m 1 (fun _ _ _ _ => rfl) ?_
          refine yR_rz rfl ⟨by decide, by decide⟩ ?_
          show yR zpg tX4_hasFreeCell (d + 1) (6, [(0, .ref 14), (1, .int x), (2, .int y)], [.int 0], mem) _
          refine wR_if_eq rfl (a := 0) rfl (fun _ => ?_) (fun q => by exfalso; omega)
          refine yR_m 1 (fun _ _ _ _ => rfl) ?_
          exact yR_rz rfl ⟨by decide, by decide⟩ (h4 q1 q2 q3 q4 hm)
        ·
          refine yR_m 2 (fun _ _ _ _ => rfl) ?_
          refine yR_rz rfl ⟨by decide, by decide⟩ ?_
          show yR zpg tX4_hasFreeCell (d + 1) (6, [(0, .ref 14), (1, .int x), (2, .int y)], [.int 1], mem) _
          refine wR_if_eq rfl (a := 1) rfl (fun q => by exfalso; omega) (fun _ => ?_)
          refine yR_m 1 (fun _ _ _ _ => rfl) ?_
          refine wR_gL rfl quB_e quB_6 hm rfl ?_
          refine yR_m 2 (fun _ _ _ _ => rfl) ?_
          refine wR_is rfl rfl rfl rfl rfl rfl ?_
          show yR zpg tX11_placeOf d (0, [(0, .int x), (1, .int y)], [], mem) _
          refine yR_m 2 (fun _ _ _ _ => rfl) ?_
          refine wN_mul (a := (y).toInt) (b := 8) rfl rfl rfl (by omega) (fun x5 e6 => ?_)
          refine yR_m 1 (fun _ _ _ _ => rfl) ?_
          refine wN_add (a := ((y).toInt * 8)) (b := (x).toInt) rfl e6 rfl (by omega) (fun x7 e8 => ?_)
          refine yR_ri rfl ?_
          show yR zpg tX4_hasFreeCell (d + 1) (18, [(0, .ref 14), (1, .int x), (2, .int y)], [.int x7, .long (gL mem 14 6)], mem) _
          refine wR_is rfl rfl rfl rfl rfl rfl ?_
          show yR zpg tX11_bitOf d (0, [(0, .int x7)], [], mem) _
          refine yR_m 3 (fun _ _ _ _ => rfl) ?_
          refine yR_rl rfl ?_
          show yR zpg tX4_hasFreeCell (d + 1) (21, [(0, .ref 14), (1, .int x), (2, .int y)], [.long (1 <<< ((x7 : Int32).toInt64 &&& 63)), .long (gL mem 14 6)], mem) _
          refine yR_m 3 (fun _ _ _ _ => rfl) ?_
          refine wR_lf_ne rfl (fun q9 => ?_) (fun q9 => ?_)
          ·
            refine yR_m 1 (fun _ _ _ _ => rfl) ?_
            exact yR_rz rfl ⟨by decide, by decide⟩ (h5 q1 q2 q3 q4 x5 e6 x7 e8 q9 hm)
          ·
            refine yR_m 2 (fun _ _ _ _ => rfl) ?_
            exact yR_rz rfl ⟨by decide, by decide⟩ (h6 q1 q2 q3 q4 x5 e6 x7 e8 q9 hm)

theorem h_hqB {x y : Int32} {a b : Int} (hb : (0 ≤ Qc Y ∧ Qc Y ≤ 7) ∧ 0 ≤ Qr Y ∧ Qr Y ≤ 7) (hm : aTm aT0 mem) (ex : x.toInt = a) (ey : y.toInt = b) (hQ : cQ 14 15 16 19 20 21 24 25 Y mem) (hx : 0 ≤ a ∧ a ≤ 255) (hy : 0 ≤ b ∧ b ≤ 255) (hd : 2 ≤ d) : yC zpg d 51 [.ref 14, .int x, .int y] mem (fun r m => ∃ v : Int32, r = some (.int v) ∧ mem = m ∧ ((v.toInt = 1 ∧ frO Y a b) ∨ (v.toInt = 0 ∧ ¬ frO Y a b))) := by
  obtain ⟨d, rfl⟩ : ∃ q, d = q + 2 := ⟨d - 2, by omega⟩
  subst ex ey
  have c1 := hQ.1.1
  have c2 := hQ.1.2
  refine yC_of (t := tX4_hasFreeCell) rfl rfl ?_
  exact w_hqB hm hx hy
        (fun q1 hm2 => ⟨0, rfl, rfl, Or.inr ⟨rfl, fun w => by have w1 := w.1; have w2 := w.2.1; omega⟩⟩)
        (fun q1 q2 hm2 => ⟨0, rfl, rfl, Or.inr ⟨rfl, fun w => by have w1 := w.1; have w2 := w.2.1; omega⟩⟩)
        (fun q1 q2 q3 hm2 => ⟨0, rfl, rfl, Or.inr ⟨rfl, fun w => by have w1 := w.1; have w2 := w.2.1; omega⟩⟩)
        (fun q1 q2 q3 q4 hm2 => ⟨0, rfl, rfl, Or.inr ⟨rfl, fun w => by have w1 := w.1; have w2 := w.2.1; omega⟩⟩)
        (fun q1 q2 q3 q4 x5 e6 x7 e8 q9 hm2 => by
          have K := bL_and (y := gL mem 14 6) (k := x7) (by omega) (by omega)
          have K2 := hQ.2.1 x7.toInt (by omega) (by omega)
          have e : 8 * y.toInt + x.toInt = x7.toInt := by omega
          exact ⟨0, rfl, rfl, Or.inr ⟨rfl, fun w => q9 (K.2 (fun z => w.2.2 (by rw [e]; exact K2.1 z)))⟩⟩)
        (fun q1 q2 q3 q4 x5 e6 x7 e8 q9 hm2 => by
          have K := bL_and (y := gL mem 14 6) (k := x7) (by omega) (by omega)
          have K2 := hQ.2.1 x7.toInt (by omega) (by omega)
          have e : 8 * y.toInt + x.toInt = x7.toInt := by omega
          exact ⟨1, rfl, rfl, Or.inl ⟨rfl, by omega, by omega, fun z => K.1 q9 (K2.2 (by rw [← e]; exact z))⟩⟩)
set_option maxRecDepth 100000 in
theorem w_hkB_116 {d : Nat} {mem : zM} {P : Option Value → zM → Prop} {Y : Qd} {n u g k : Int32} {lo : List (Nat × Value)} (hm : aTm aT0 mem) (l_0 : zlg lo 0 = some (.ref 0)) (l_1 : zlg lo 1 = some (.int n)) (l_2 : zlg lo 2 = some (.int u)) (l_3 : zlg lo 3 = some (.int g)) (l_4 : zlg lo 4 = some (.int k)) (hp : zfl mem 0 4 = some (.ref 14)) (hQ : cQ 14 15 16 19 20 21 24 25 Y mem) (hb : (0 ≤ Qc Y ∧ Qc Y ≤ 7) ∧ 0 ≤ Qr Y ∧ Qr Y ≤ 7) (hk : 0 ≤ k.toInt ∧ k.toInt ≤ 6) (hu : 1 ≤ u.toInt ∧ u.toInt ≤ 33) (hg : 0 ≤ g.toInt ∧ g.toInt ≤ 20) (h1 : (gi mem 14 13).toInt ≤ (k).toInt → ∀ (x2 : Int32), x2.toInt = ((u).toInt - 1) → ∀ (y4 : Int32), y4.toInt = (gn (ga mem 1) ((u).toInt - 1)) → ∀ (x6 : Int32), x6.toInt = ((u).toInt - 1) → ∀ (v8 : Int32), v8.toInt = ck (ga mem 1) (((u).toInt - 1) : Int).toNat → ¬ (gn (ga mem 1) ((u).toInt - 1)) = (v8).toInt → aTm aT0 mem → P (some (.int 0)) mem) (h2 : (gi mem 14 13).toInt ≤ (k).toInt → ∀ (x2 : Int32), x2.toInt = ((u).toInt - 1) → ∀ (y4 : Int32), y4.toInt = (gn (ga mem 1) ((u).toInt - 1)) → ∀ (x6 : Int32), x6.toInt = ((u).toInt - 1) → ∀ (v8 : Int32), v8.toInt = ck (ga mem 1) (((u).toInt - 1) : Int).toNat → (gn (ga mem 1) ((u).toInt - 1)) = (v8).toInt → aTm aT0 mem → P (some (.int 1)) mem) (s1 : (k).toInt < (gi mem 14 13).toInt → ∀ (x11 : Int32), x11.toInt = (2 * (k).toInt) → ∀ (x13 : Int32), x13.toInt = ((g).toInt + (2 * (k).toInt)) → ∀ (y15 : Int32), y15.toInt = (gn (ga mem 1) ((g).toInt + (2 * (k).toInt))) → ∀ (x17 : Int32), x17.toInt = (2 * (k).toInt) → ∀ (x19 : Int32), x19.toInt = ((g).toInt + (2 * (k).toInt)) → ∀ (x21 : Int32), x21.toInt = (((g).toInt + (2 * (k).toInt)) + 1) → ∀ (y23 : Int32), y23.toInt = (gn (ga mem 1) (((g).toInt + (2 * (k).toInt)) + 1)) → (0 : Int) ≤ (gn (ga mem 1) ((g).toInt + (2 * (k).toInt))) ∧ (gn (ga mem 1) ((g).toInt + (2 * (k).toInt))) ≤ 255) (s2 : (k).toInt < (gi mem 14 13).toInt → ∀ (x11 : Int32), x11.toInt = (2 * (k).toInt) → ∀ (x13 : Int32), x13.toInt = ((g).toInt + (2 * (k).toInt)) → ∀ (y15 : Int32), y15.toInt = (gn (ga mem 1) ((g).toInt + (2 * (k).toInt))) → ∀ (x17 : Int32), x17.toInt = (2 * (k).toInt) → ∀ (x19 : Int32), x19.toInt = ((g).toInt + (2 * (k).toInt)) → ∀ (x21 : Int32), x21.toInt = (((g).toInt + (2 * (k).toInt)) + 1) → ∀ (y23 : Int32), y23.toInt = (gn (ga mem 1) (((g).toInt + (2 * (k).toInt)) + 1)) → (0 : Int) ≤ (gn (ga mem 1) (((g).toInt + (2 * (k).toInt)) + 1)) ∧ (gn (ga mem 1) (((g).toInt + (2 * (k).toInt)) + 1)) ≤ 255) (h3 : (k).toInt < (gi mem 14 13).toInt → ∀ (x11 : Int32), x11.toInt = (2 * (k).toInt) → ∀ (x13 : Int32), x13.toInt = ((g).toInt + (2 * (k).toInt)) → ∀ (y15 : Int32), y15.toInt = (gn (ga mem 1) ((g).toInt + (2 * (k).toInt))) → ∀ (x17 : Int32), x17.toInt = (2 * (k).toInt) → ∀ (x19 : Int32), x19.toInt = ((g).toInt + (2 * (k).toInt)) → ∀ (x21 : Int32), x21.toInt = (((g).toInt + (2 * (k).toInt)) + 1) → ∀ (y23 : Int32), y23.toInt = (gn (ga mem 1) (((g).toInt + (2 * (k).toInt)) + 1)) → ∀ (v25 : Int32), ((v25.toInt = 1 ∧ frO Y (gn (ga mem 1) ((g).toInt + (2 * (k).toInt))) (gn (ga mem 1) (((g).toInt + (2 * (k).toInt)) + 1))) ∨ (v25.toInt = 0 ∧ ¬ frO Y (gn (ga mem 1) ((g).toInt + (2 * (k).toInt))) (gn (ga mem 1) (((g).toInt + (2 * (k).toInt)) + 1)))) → ¬ (v25).toInt = 0 → ∀ (x28 : Int32), x28.toInt = ((k).toInt + 1) → ∀ lo, zlg lo 0 = some (.ref 0) → zlg lo 1 = some (.int n) → zlg lo 2 = some (.int u) → zlg lo 3 = some (.int g) → zlg lo 4 = some (.int x28) → aTm aT0 mem → yR zpg tX11_holdsImage (d + 2) (116, lo, [], mem) P) (h4 : (k).toInt < (gi mem 14 13).toInt → ∀ (x11 : Int32), x11.toInt = (2 * (k).toInt) → ∀ (x13 : Int32), x13.toInt = ((g).toInt + (2 * (k).toInt)) → ∀ (y15 : Int32), y15.toInt = (gn (ga mem 1) ((g).toInt + (2 * (k).toInt))) → ∀ (x17 : Int32), x17.toInt = (2 * (k).toInt) → ∀ (x19 : Int32), x19.toInt = ((g).toInt + (2 * (k).toInt)) → ∀ (x21 : Int32), x21.toInt = (((g).toInt + (2 * (k).toInt)) + 1) → ∀ (y23 : Int32), y23.toInt = (gn (ga mem 1) (((g).toInt + (2 * (k).toInt)) + 1)) → ∀ (v25 : Int32), ((v25.toInt = 1 ∧ frO Y (gn (ga mem 1) ((g).toInt + (2 * (k).toInt))) (gn (ga mem 1) (((g).toInt + (2 * (k).toInt)) + 1))) ∨ (v25.toInt = 0 ∧ ¬ frO Y (gn (ga mem 1) ((g).toInt + (2 * (k).toInt))) (gn (ga mem 1) (((g).toInt + (2 * (k).toInt)) + 1)))) → (v25).toInt = 0 → aTm aT0 mem → P (some (.int 0)) mem) : yR zpg tX11_holdsImage (d + 2) (116, lo, [], mem) P := by
  have r7 := pB_r7 hm
  have r13 := pB_r13 hm
  have b0 := gR_1 hm (i := 0) (by decide) (by decide)
  have b1 := gR_1 hm (i := 1) (by decide) (by decide)
  refine wR_li rfl l_4 ?_
  refine wR_la rfl l_0 ?_
  refine wR_gq rfl cO_e hm hp ?_
  refine wR_gi rfl quB_e quB_13 hm rfl ?_
  refine wR_ic_ge rfl (a := (k).toInt) (c := (gi mem 14 13).toInt) rfl rfl (fun q1 => ?_) (fun q1 => ?_)
  ·
    refine wR_la rfl l_0 ?_
    refine wR_gr rfl cO_e cO_0 hm ?_
    refine wR_li rfl l_2 ?_
    refine yR_m 1 (fun _ _ _ _ => rfl) ?_
    refine wN_sub (a := (u).toInt) (b := 1) rfl rfl rfl (by omega) (fun x2 e3 => ?_)
    refine wN_al (a := ((u).toInt - 1)) rfl aR_1 hm rfl e3 (by omega) (fun y4 e5 => ?_)
    refine wR_la rfl l_0 ?_
    refine wR_gr rfl cO_e cO_0 hm ?_
    refine wR_li rfl l_2 ?_
    refine yR_m 1 (fun _ _ _ _ => rfl) ?_
    refine wN_sub (a := (u).toInt) (b := 1) rfl rfl rfl (by omega) (fun x6 e7 => ?_)
    refine yR_cs rfl rfl rfl (h_ckF2 hm e7 (by omega) (by omega)) ?_
    rintro _ _ ⟨v8, rfl, rfl, k9⟩
    show yR zpg tX11_holdsImage (d + 2) (188, lo, [.int v8, .int y4], mem) _
    refine wR_ic_ne rfl (a := (gn (ga mem 1) ((u).toInt - 1))) (c := (v8).toInt) e5 rfl (fun q10 => ?_) (fun q10 => ?_)
    ·
      refine yR_m 1 (fun _ _ _ _ => rfl) ?_
      exact yR_rz rfl ⟨by decide, by decide⟩ (h1 q1 x2 e3 y4 e5 x6 e7 v8 k9 q10 hm)
    ·
      refine yR_m 2 (fun _ _ _ _ => rfl) ?_
      exact yR_rz rfl ⟨by decide, by decide⟩ (h2 q1 x2 e3 y4 e5 x6 e7 v8 k9 q10 hm)
  ·
    refine wR_la rfl l_0 ?_
    refine wR_gq rfl cO_e hm hp ?_
    refine wR_la rfl l_0 ?_
    refine wR_gr rfl cO_e cO_0 hm ?_
    refine wR_li rfl l_3 ?_
    refine yR_m 1 (fun _ _ _ _ => rfl) ?_
    refine wR_li rfl l_4 ?_
    refine wN_mul (a := 2) (b := (k).toInt) rfl rfl rfl (by omega) (fun x11 e12 => ?_)
    refine wN_add (a := (g).toInt) (b := (2 * (k).toInt)) rfl rfl e12 (by omega) (fun x13 e14 => ?_)
    refine wN_al (a := ((g).toInt + (2 * (k).toInt))) rfl aR_1 hm rfl e14 (by omega) (fun y15 e16 => ?_)
    refine wR_la rfl l_0 ?_
    refine wR_gr rfl cO_e cO_0 hm ?_
    refine wR_li rfl l_3 ?_
    refine yR_m 1 (fun _ _ _ _ => rfl) ?_
    refine wR_li rfl l_4 ?_
    refine wN_mul (a := 2) (b := (k).toInt) rfl rfl rfl (by omega) (fun x17 e18 => ?_)
    refine wN_add (a := (g).toInt) (b := (2 * (k).toInt)) rfl rfl e18 (by omega) (fun x19 e20 => ?_)
    refine yR_m 1 (fun _ _ _ _ => rfl) ?_
    refine wN_add (a := ((g).toInt + (2 * (k).toInt))) (b := 1) rfl e20 rfl (by omega) (fun x21 e22 => ?_)
    refine wN_al (a := (((g).toInt + (2 * (k).toInt)) + 1)) rfl aR_1 hm rfl e22 (by omega) (fun y23 e24 => ?_)
    refine wR_cv rfl rfl quB_e hm rfl (h_hqB hb hm e16 e24 hQ (s1 q1 x11 e12 x13 e14 y15 e16 x17 e18 x19 e20 x21 e22 y23 e24) (s2 q1 x11 e12 x13 e14 y15 e16 x17 e18 x19 e20 x21 e22 y23 e24) (by omega)) ?_
    rintro _ _ ⟨v25, rfl, rfl, k26⟩
    show yR zpg tX11_holdsImage (d + 2) (159, lo, [.int v25], mem) _
    refine wR_if_ne rfl (a := (v25).toInt) rfl (fun q27 => ?_) (fun q27 => ?_)
    ·
      refine wN_in (a := (k).toInt) (b := 1) rfl rfl l_4 rfl rfl (by omega) (fun x28 e29 => fun lo30 e31 f32 => ?_)
      have lo30_0 := f32 0 _ (by decide) (Or.inl rfl) l_0
      have lo30_1 := f32 1 _ (by decide) (Or.inl rfl) l_1
      have lo30_2 := f32 2 _ (by decide) (Or.inl rfl) l_2
      have lo30_3 := f32 3 _ (by decide) (Or.inl rfl) l_3
      exact yR_m 1 (fun _ _ _ _ => rfl) (h3 q1 x11 e12 x13 e14 y15 e16 x17 e18 x19 e20 x21 e22 y23 e24 v25 k26 q27 x28 e29 lo30 lo30_0 lo30_1 lo30_2 lo30_3 e31 hm)
    ·
      refine yR_m 1 (fun _ _ _ _ => rfl) ?_
      exact yR_rz rfl ⟨by decide, by decide⟩ (h4 q1 x11 e12 x13 e14 y15 e16 x17 e18 x19 e20 x21 e22 y23 e24 v25 k26 q27 hm)

theorem hk116_B (hb : (0 ≤ Qc Y ∧ Qc Y ≤ 7) ∧ 0 ≤ Qr Y ∧ Qr Y ≤ 7) (hm : aTm aT0 mem) (hp : zfl mem 0 4 = some (.ref 14)) (hQ : cQ 14 15 16 19 20 21 24 25 Y mem) {u : Int32} (hu : u.toInt = n.toInt) (K1 : ¬ Qc Y = 0 ∧ n.toInt = 3 + 2 * ((Qt Y).length : Int) + 2 * ((Qf Y).length : Int) ∧ gn (ga mem 1) 0 * 256 + gn (ga mem 1) 1 ≤ 999) (hT : ∀ t, 0 ≤ t → t < ((Qt Y).length : Int) → gn (ga mem 1) (2 + 2 * t) ≤ 1 ∧ gn (ga mem 1) (3 + 2 * t) ≤ 99) {g : Int32} (hg : g.toInt = 2 + 2 * ((Qt Y).length : Int)) : ∀ (f : Nat) (k : Int32) (lo : List (Nat × Value)), ((Qf Y).length : Int) ≤ k.toInt + (f : Int) → 0 ≤ k.toInt → k.toInt ≤ ((Qf Y).length : Int) → (∀ j, 0 ≤ j → j < k.toInt → frO Y (gn (ga mem 1) (2 + 2 * ((Qt Y).length : Int) + 2 * j)) (gn (ga mem 1) (2 + 2 * ((Qt Y).length : Int) + 2 * j + 1))) → zlg lo 0 = some (.ref 0) → zlg lo 1 = some (.int n) → zlg lo 2 = some (.int u) → zlg lo 3 = some (.int g) → zlg lo 4 = some (.int k) → yR zpg tX11_holdsImage (d + 2) (116, lo, [], mem) (fun r m => ∃ v : Int32, r = some (.int v) ∧ mem = m ∧ ((v.toInt = 1 ∧ imK (ga mem 1) n.toInt Y) ∨ (v.toInt = 0 ∧ ¬ imK (ga mem 1) n.toInt Y))) := by
  have r7 := pB_r7 hm
  have r13 := pB_r13 hm
  have t1 := hQ.2.2.1.1
  have f1 := hQ.2.2.2.2.1.1
  intro f
  induction f with
  | zero =>
    intro k lo hf h0 h1 hO a0 a1 a2 a3 a4
    exact w_hkB_116 hm a0 a1 a2 a3 a4 hp hQ hb (by omega) (by omega) (by omega)
        (fun q1 x2 e3 y4 e5 x6 e7 v8 k9 q10 hm2 => ⟨0, rfl, rfl, Or.inr ⟨rfl, fun w => by
          have o := w.1.2.2.2
          rw [← hu, ← k9] at o
          omega⟩⟩)
        (fun q1 x2 e3 y4 e5 x6 e7 v8 k9 q10 hm2 => ⟨1, rfl, rfl, Or.inl ⟨rfl, ⟨K1.1, K1.2.1, K1.2.2, by rw [← hu, ← k9]; omega⟩, hT, fun j j0 j1 => hO j j0 (by omega)⟩⟩)
        (fun q1 x11 e12 x13 e14 y15 e16 x17 e18 x19 e20 x21 e22 y23 e24 => gR_1 hm (by omega) (by omega))
        (fun q1 x11 e12 x13 e14 y15 e16 x17 e18 x19 e20 x21 e22 y23 e24 => gR_1 hm (by omega) (by omega))
        (fun q1 x11 e12 x13 e14 y15 e16 x17 e18 x19 e20 x21 e22 y23 e24 v25 k26 q27 x28 e29 lo a0 a1 a2 a3 a4 hm2 => by exfalso; omega)
        (fun q1 x11 e12 x13 e14 y15 e16 x17 e18 x19 e20 x21 e22 y23 e24 v25 k26 q27 hm2 => ⟨0, rfl, rfl, Or.inr ⟨rfl, fun w => by
          have o := w.2.2 k.toInt (by omega) (by omega)
          rw [← hg] at o
          rcases k26 with z | z
          · have z1 := z.1; omega
          · exact z.2 o⟩⟩)
  | succ f ih =>
    intro k lo hf h0 h1 hO a0 a1 a2 a3 a4
    exact w_hkB_116 hm a0 a1 a2 a3 a4 hp hQ hb (by omega) (by omega) (by omega)
        (fun q1 x2 e3 y4 e5 x6 e7 v8 k9 q10 hm2 => ⟨0, rfl, rfl, Or.inr ⟨rfl, fun w => by
          have o := w.1.2.2.2
          rw [← hu, ← k9] at o
          omega⟩⟩)
        (fun q1 x2 e3 y4 e5 x6 e7 v8 k9 q10 hm2 => ⟨1, rfl, rfl, Or.inl ⟨rfl, ⟨K1.1, K1.2.1, K1.2.2, by rw [← hu, ← k9]; omega⟩, hT, fun j j0 j1 => hO j j0 (by omega)⟩⟩)
        (fun q1 x11 e12 x13 e14 y15 e16 x17 e18 x19 e20 x21 e22 y23 e24 => gR_1 hm (by omega) (by omega))
        (fun q1 x11 e12 x13 e14 y15 e16 x17 e18 x19 e20 x21 e22 y23 e24 => gR_1 hm (by omega) (by omega))
        (fun q1 x11 e12 x13 e14 y15 e16 x17 e18 x19 e20 x21 e22 y23 e24 v25 k26 q27 x28 e29 lo a0 a1 a2 a3 a4 hm2 => ih x28 lo (by omega) (by omega) (by omega) (fun j j0 j1 => by
          by_cases c : j < k.toInt
          · exact hO j j0 c
          · have e : j = k.toInt := by omega
            subst e
            rw [← hg]
            rcases k26 with w | w
            · exact w.2
            · exfalso; have w1 := w.1; omega) a0 a1 a2 a3 a4)
        (fun q1 x11 e12 x13 e14 y15 e16 x17 e18 x19 e20 x21 e22 y23 e24 v25 k26 q27 hm2 => ⟨0, rfl, rfl, Or.inr ⟨rfl, fun w => by
          have o := w.2.2 k.toInt (by omega) (by omega)
          rw [← hg] at o
          rcases k26 with z | z
          · have z1 := z.1; omega
          · exact z.2 o⟩⟩)
set_option maxRecDepth 100000 in
theorem w_hkB_53 {d : Nat} {mem : zM} {P : Option Value → zM → Prop} {Y : Qd} {n u k : Int32} {lo : List (Nat × Value)} (hm : aTm aT0 mem) (l_0 : zlg lo 0 = some (.ref 0)) (l_1 : zlg lo 1 = some (.int n)) (l_2 : zlg lo 2 = some (.int u)) (l_3 : zlg lo 3 = some (.int k)) (hp : zfl mem 0 4 = some (.ref 14)) (hQ : cQ 14 15 16 19 20 21 24 25 Y mem) (hb : (0 ≤ Qc Y ∧ Qc Y ≤ 7) ∧ 0 ≤ Qr Y ∧ Qr Y ≤ 7) (hk : 0 ≤ k.toInt ∧ k.toInt ≤ 9) (hu : 1 ≤ u.toInt ∧ u.toInt ≤ 33) (h1 : (gi mem 14 7).toInt ≤ (k).toInt → ∀ (x2 : Int32), x2.toInt = (2 * (gi mem 14 7).toInt) → ∀ (x4 : Int32), x4.toInt = (2 + (2 * (gi mem 14 7).toInt)) → ∀ lo, zlg lo 0 = some (.ref 0) → zlg lo 1 = some (.int n) → zlg lo 2 = some (.int u) → zlg lo 3 = some (.int x4) → zlg lo 4 = some (.int 0) → aTm aT0 mem → yR zpg tX11_holdsImage (d + 2) (116, lo, [], mem) P) (h2 : (k).toInt < (gi mem 14 7).toInt → ∀ (x12 : Int32), x12.toInt = (2 * (k).toInt) → ∀ (x14 : Int32), x14.toInt = (2 + (2 * (k).toInt)) → ∀ (y16 : Int32), y16.toInt = (gn (ga mem 1) (2 + (2 * (k).toInt))) → 1 < (gn (ga mem 1) (2 + (2 * (k).toInt))) → aTm aT0 mem → P (some (.int 0)) mem) (h3 : (k).toInt < (gi mem 14 7).toInt → ∀ (x12 : Int32), x12.toInt = (2 * (k).toInt) → ∀ (x14 : Int32), x14.toInt = (2 + (2 * (k).toInt)) → ∀ (y16 : Int32), y16.toInt = (gn (ga mem 1) (2 + (2 * (k).toInt))) → (gn (ga mem 1) (2 + (2 * (k).toInt))) ≤ 1 → ∀ (x19 : Int32), x19.toInt = (2 * (k).toInt) → ∀ (x21 : Int32), x21.toInt = (3 + (2 * (k).toInt)) → ∀ (y23 : Int32), y23.toInt = (gn (ga mem 1) (3 + (2 * (k).toInt))) → (gn (ga mem 1) (3 + (2 * (k).toInt))) ≤ 99 → ∀ (x26 : Int32), x26.toInt = ((k).toInt + 1) → ∀ lo, zlg lo 0 = some (.ref 0) → zlg lo 1 = some (.int n) → zlg lo 2 = some (.int u) → zlg lo 3 = some (.int x26) → aTm aT0 mem → yR zpg tX11_holdsImage (d + 2) (53, lo, [], mem) P) (h4 : (k).toInt < (gi mem 14 7).toInt → ∀ (x12 : Int32), x12.toInt = (2 * (k).toInt) → ∀ (x14 : Int32), x14.toInt = (2 + (2 * (k).toInt)) → ∀ (y16 : Int32), y16.toInt = (gn (ga mem 1) (2 + (2 * (k).toInt))) → (gn (ga mem 1) (2 + (2 * (k).toInt))) ≤ 1 → ∀ (x19 : Int32), x19.toInt = (2 * (k).toInt) → ∀ (x21 : Int32), x21.toInt = (3 + (2 * (k).toInt)) → ∀ (y23 : Int32), y23.toInt = (gn (ga mem 1) (3 + (2 * (k).toInt))) → 99 < (gn (ga mem 1) (3 + (2 * (k).toInt))) → aTm aT0 mem → P (some (.int 0)) mem) : yR zpg tX11_holdsImage (d + 2) (53, lo, [], mem) P := by
  have r7 := pB_r7 hm
  have r13 := pB_r13 hm
  have b0 := gR_1 hm (i := 0) (by decide) (by decide)
  have b1 := gR_1 hm (i := 1) (by decide) (by decide)
  refine wR_li rfl l_3 ?_
  refine wR_la rfl l_0 ?_
  refine wR_gq rfl cO_e hm hp ?_
  refine wR_gi rfl quB_e quB_7 hm rfl ?_
  refine wR_ic_ge rfl (a := (k).toInt) (c := (gi mem 14 7).toInt) rfl rfl (fun q1 => ?_) (fun q1 => ?_)
  ·
    refine yR_m 2 (fun _ _ _ _ => rfl) ?_
    refine wR_la rfl l_0 ?_
    refine wR_gq rfl cO_e hm hp ?_
    refine wR_gi rfl quB_e quB_7 hm rfl ?_
    refine wN_mul (a := 2) (b := (gi mem 14 7).toInt) rfl rfl rfl (by omega) (fun x2 e3 => ?_)
    refine wN_add (a := 2) (b := (2 * (gi mem 14 7).toInt)) rfl rfl e3 (by omega) (fun x4 e5 => ?_)
    refine wR_si rfl rfl (fun lo6 e7 f8 => ?_)
    have lo6_0 := f8 0 _ (by decide) (Or.inl rfl) l_0
    have lo6_1 := f8 1 _ (by decide) (Or.inl rfl) l_1
    have lo6_2 := f8 2 _ (by decide) (Or.inl rfl) l_2
    refine yR_m 1 (fun _ _ _ _ => rfl) ?_
    refine wR_si rfl rfl (fun lo9 e10 f11 => ?_)
    have lo9_3 := f11 3 _ (by decide) (Or.inl rfl) e7
    have lo9_0 := f11 0 _ (by decide) (Or.inl rfl) lo6_0
    have lo9_1 := f11 1 _ (by decide) (Or.inl rfl) lo6_1
    have lo9_2 := f11 2 _ (by decide) (Or.inl rfl) lo6_2
    exact h1 q1 x2 e3 x4 e5 lo9 lo9_0 lo9_1 lo9_2 lo9_3 e10 hm
  ·
    refine wR_la rfl l_0 ?_
    refine wR_gr rfl cO_e cO_0 hm ?_
    refine yR_m 2 (fun _ _ _ _ => rfl) ?_
    refine wR_li rfl l_3 ?_
    refine wN_mul (a := 2) (b := (k).toInt) rfl rfl rfl (by omega) (fun x12 e13 => ?_)
    refine wN_add (a := 2) (b := (2 * (k).toInt)) rfl rfl e13 (by omega) (fun x14 e15 => ?_)
    refine wN_al (a := (2 + (2 * (k).toInt))) rfl aR_1 hm rfl e15 (by omega) (fun y16 e17 => ?_)
    refine yR_m 1 (fun _ _ _ _ => rfl) ?_
    refine wR_ic_gt rfl (a := (gn (ga mem 1) (2 + (2 * (k).toInt)))) (c := 1) e17 rfl (fun q18 => ?_) (fun q18 => ?_)
    ·
      refine yR_m 1 (fun _ _ _ _ => rfl) ?_
      exact yR_rz rfl ⟨by decide, by decide⟩ (h2 q1 x12 e13 x14 e15 y16 e17 q18 hm)
    ·
      refine wR_la rfl l_0 ?_
      refine wR_gr rfl cO_e cO_0 hm ?_
      refine yR_m 2 (fun _ _ _ _ => rfl) ?_
      refine wR_li rfl l_3 ?_
      refine wN_mul (a := 2) (b := (k).toInt) rfl rfl rfl (by omega) (fun x19 e20 => ?_)
      refine wN_add (a := 3) (b := (2 * (k).toInt)) rfl rfl e20 (by omega) (fun x21 e22 => ?_)
      refine wN_al (a := (3 + (2 * (k).toInt))) rfl aR_1 hm rfl e22 (by omega) (fun y23 e24 => ?_)
      refine yR_m 1 (fun _ _ _ _ => rfl) ?_
      refine wR_ic_le rfl (a := (gn (ga mem 1) (3 + (2 * (k).toInt)))) (c := 99) e24 rfl (fun q25 => ?_) (fun q25 => ?_)
      ·
        refine wN_in (a := (k).toInt) (b := 1) rfl rfl l_3 rfl rfl (by omega) (fun x26 e27 => fun lo28 e29 f30 => ?_)
        have lo28_0 := f30 0 _ (by decide) (Or.inl rfl) l_0
        have lo28_1 := f30 1 _ (by decide) (Or.inl rfl) l_1
        have lo28_2 := f30 2 _ (by decide) (Or.inl rfl) l_2
        exact yR_m 1 (fun _ _ _ _ => rfl) (h3 q1 x12 e13 x14 e15 y16 e17 q18 x19 e20 x21 e22 y23 e24 q25 x26 e27 lo28 lo28_0 lo28_1 lo28_2 e29 hm)
      ·
        refine yR_m 1 (fun _ _ _ _ => rfl) ?_
        exact yR_rz rfl ⟨by decide, by decide⟩ (h4 q1 x12 e13 x14 e15 y16 e17 q18 x19 e20 x21 e22 y23 e24 q25 hm)

theorem hk53_B (hb : (0 ≤ Qc Y ∧ Qc Y ≤ 7) ∧ 0 ≤ Qr Y ∧ Qr Y ≤ 7) (hm : aTm aT0 mem) (hp : zfl mem 0 4 = some (.ref 14)) (hQ : cQ 14 15 16 19 20 21 24 25 Y mem) {u : Int32} (hu : u.toInt = n.toInt) (K1 : ¬ Qc Y = 0 ∧ n.toInt = 3 + 2 * ((Qt Y).length : Int) + 2 * ((Qf Y).length : Int) ∧ gn (ga mem 1) 0 * 256 + gn (ga mem 1) 1 ≤ 999) : ∀ (f : Nat) (k : Int32) (lo : List (Nat × Value)), ((Qt Y).length : Int) ≤ k.toInt + (f : Int) → 0 ≤ k.toInt → k.toInt ≤ ((Qt Y).length : Int) → (∀ t, 0 ≤ t → t < k.toInt → gn (ga mem 1) (2 + 2 * t) ≤ 1 ∧ gn (ga mem 1) (3 + 2 * t) ≤ 99) → zlg lo 0 = some (.ref 0) → zlg lo 1 = some (.int n) → zlg lo 2 = some (.int u) → zlg lo 3 = some (.int k) → yR zpg tX11_holdsImage (d + 2) (53, lo, [], mem) (fun r m => ∃ v : Int32, r = some (.int v) ∧ mem = m ∧ ((v.toInt = 1 ∧ imK (ga mem 1) n.toInt Y) ∨ (v.toInt = 0 ∧ ¬ imK (ga mem 1) n.toInt Y))) := by
  have r7 := pB_r7 hm
  have r13 := pB_r13 hm
  have t1 := hQ.2.2.1.1
  have f1 := hQ.2.2.2.2.1.1
  intro f
  induction f with
  | zero =>
    intro k lo hf h0 h1 hT a0 a1 a2 a3
    exact w_hkB_53 hm a0 a1 a2 a3 hp hQ hb (by omega) (by omega)
        (fun q1 x2 e3 x4 e5 lo a0 a1 a2 a3 a4 hm2 => hk116_B hb hm2 hp hQ hu K1 (fun t h0 h1 => hT t h0 (by omega)) (g := x4) (by omega) 6 0 lo (by show _ ≤ (0 : Int) + 6; omega) (by decide) (by show (0 : Int) ≤ _; omega) (fun j j0 j1 => by exfalso; have j2 : j < 0 := j1; omega) a0 a1 a2 a3 a4)
        (fun q1 x12 e13 x14 e15 y16 e17 q18 hm2 => ⟨0, rfl, rfl, Or.inr ⟨rfl, fun w => by
          have o := w.2.1 k.toInt (by omega) (by omega)
          omega⟩⟩)
        (fun q1 x12 e13 x14 e15 y16 e17 q18 x19 e20 x21 e22 y23 e24 q25 x26 e27 lo a0 a1 a2 a3 hm2 => by exfalso; omega)
        (fun q1 x12 e13 x14 e15 y16 e17 q18 x19 e20 x21 e22 y23 e24 q25 hm2 => ⟨0, rfl, rfl, Or.inr ⟨rfl, fun w => by
          have o := w.2.1 k.toInt (by omega) (by omega)
          omega⟩⟩)
  | succ f ih =>
    intro k lo hf h0 h1 hT a0 a1 a2 a3
    exact w_hkB_53 hm a0 a1 a2 a3 hp hQ hb (by omega) (by omega)
        (fun q1 x2 e3 x4 e5 lo a0 a1 a2 a3 a4 hm2 => hk116_B hb hm2 hp hQ hu K1 (fun t h0 h1 => hT t h0 (by omega)) (g := x4) (by omega) 6 0 lo (by show _ ≤ (0 : Int) + 6; omega) (by decide) (by show (0 : Int) ≤ _; omega) (fun j j0 j1 => by exfalso; have j2 : j < 0 := j1; omega) a0 a1 a2 a3 a4)
        (fun q1 x12 e13 x14 e15 y16 e17 q18 hm2 => ⟨0, rfl, rfl, Or.inr ⟨rfl, fun w => by
          have o := w.2.1 k.toInt (by omega) (by omega)
          omega⟩⟩)
        (fun q1 x12 e13 x14 e15 y16 e17 q18 x19 e20 x21 e22 y23 e24 q25 x26 e27 lo a0 a1 a2 a3 hm2 => ih x26 lo (by omega) (by omega) (by omega) (fun j j0 j1 => by
          by_cases c : j < k.toInt
          · exact hT j j0 c
          · have e : j = k.toInt := by omega
            subst e
            omega) a0 a1 a2 a3)
        (fun q1 x12 e13 x14 e15 y16 e17 q18 x19 e20 x21 e22 y23 e24 q25 hm2 => ⟨0, rfl, rfl, Or.inr ⟨rfl, fun w => by
          have o := w.2.1 k.toInt (by omega) (by omega)
          omega⟩⟩)
set_option maxRecDepth 100000 in
theorem w_hkB_0 {d : Nat} {mem : zM} {P : Option Value → zM → Prop} {Y : Qd} {n : Int32} {lo : List (Nat × Value)} (hm : aTm aT0 mem) (l_0 : zlg lo 0 = some (.ref 0)) (l_1 : zlg lo 1 = some (.int n)) (hp : zfl mem 0 4 = some (.ref 14)) (hQ : cQ 14 15 16 19 20 21 24 25 Y mem) (hb : (0 ≤ Qc Y ∧ Qc Y ≤ 7) ∧ 0 ≤ Qr Y ∧ Qr Y ≤ 7) (h1 : ∀ (x1 : Int32), x1.toInt = (2 * (gi mem 14 7).toInt) → ∀ (x3 : Int32), x3.toInt = (2 + (2 * (gi mem 14 7).toInt)) → ∀ (x5 : Int32), x5.toInt = (2 * (gi mem 14 13).toInt) → ∀ (x7 : Int32), x7.toInt = ((2 + (2 * (gi mem 14 7).toInt)) + (2 * (gi mem 14 13).toInt)) → ∀ (x9 : Int32), x9.toInt = (((2 + (2 * (gi mem 14 7).toInt)) + (2 * (gi mem 14 13).toInt)) + 1) → (gi mem 14 1).toInt = 0 → aTm aT0 mem → P (some (.int 0)) mem) (h2 : ∀ (x1 : Int32), x1.toInt = (2 * (gi mem 14 7).toInt) → ∀ (x3 : Int32), x3.toInt = (2 + (2 * (gi mem 14 7).toInt)) → ∀ (x5 : Int32), x5.toInt = (2 * (gi mem 14 13).toInt) → ∀ (x7 : Int32), x7.toInt = ((2 + (2 * (gi mem 14 7).toInt)) + (2 * (gi mem 14 13).toInt)) → ∀ (x9 : Int32), x9.toInt = (((2 + (2 * (gi mem 14 7).toInt)) + (2 * (gi mem 14 13).toInt)) + 1) → ¬ (gi mem 14 1).toInt = 0 → ¬ (n).toInt = (((2 + (2 * (gi mem 14 7).toInt)) + (2 * (gi mem 14 13).toInt)) + 1) → aTm aT0 mem → P (some (.int 0)) mem) (h3 : ∀ (x1 : Int32), x1.toInt = (2 * (gi mem 14 7).toInt) → ∀ (x3 : Int32), x3.toInt = (2 + (2 * (gi mem 14 7).toInt)) → ∀ (x5 : Int32), x5.toInt = (2 * (gi mem 14 13).toInt) → ∀ (x7 : Int32), x7.toInt = ((2 + (2 * (gi mem 14 7).toInt)) + (2 * (gi mem 14 13).toInt)) → ∀ (x9 : Int32), x9.toInt = (((2 + (2 * (gi mem 14 7).toInt)) + (2 * (gi mem 14 13).toInt)) + 1) → ¬ (gi mem 14 1).toInt = 0 → (n).toInt = (((2 + (2 * (gi mem 14 7).toInt)) + (2 * (gi mem 14 13).toInt)) + 1) → ∀ (y16 : Int32), y16.toInt = (gn (ga mem 1) 0) → ∀ (x18 : Int32), x18.toInt = ((gn (ga mem 1) 0) * 256) → ∀ (y20 : Int32), y20.toInt = (gn (ga mem 1) 1) → ∀ (x22 : Int32), x22.toInt = (((gn (ga mem 1) 0) * 256) + (gn (ga mem 1) 1)) → (((gn (ga mem 1) 0) * 256) + (gn (ga mem 1) 1)) ≤ 999 → ∀ lo, zlg lo 0 = some (.ref 0) → zlg lo 1 = some (.int n) → zlg lo 2 = some (.int x9) → zlg lo 3 = some (.int 0) → aTm aT0 mem → yR zpg tX11_holdsImage (d + 2) (53, lo, [], mem) P) (h4 : ∀ (x1 : Int32), x1.toInt = (2 * (gi mem 14 7).toInt) → ∀ (x3 : Int32), x3.toInt = (2 + (2 * (gi mem 14 7).toInt)) → ∀ (x5 : Int32), x5.toInt = (2 * (gi mem 14 13).toInt) → ∀ (x7 : Int32), x7.toInt = ((2 + (2 * (gi mem 14 7).toInt)) + (2 * (gi mem 14 13).toInt)) → ∀ (x9 : Int32), x9.toInt = (((2 + (2 * (gi mem 14 7).toInt)) + (2 * (gi mem 14 13).toInt)) + 1) → ¬ (gi mem 14 1).toInt = 0 → (n).toInt = (((2 + (2 * (gi mem 14 7).toInt)) + (2 * (gi mem 14 13).toInt)) + 1) → ∀ (y16 : Int32), y16.toInt = (gn (ga mem 1) 0) → ∀ (x18 : Int32), x18.toInt = ((gn (ga mem 1) 0) * 256) → ∀ (y20 : Int32), y20.toInt = (gn (ga mem 1) 1) → ∀ (x22 : Int32), x22.toInt = (((gn (ga mem 1) 0) * 256) + (gn (ga mem 1) 1)) → 999 < (((gn (ga mem 1) 0) * 256) + (gn (ga mem 1) 1)) → aTm aT0 mem → P (some (.int 0)) mem) : yR zpg tX11_holdsImage (d + 2) (0, lo, [], mem) P := by
  have r7 := pB_r7 hm
  have r13 := pB_r13 hm
  have b0 := gR_1 hm (i := 0) (by decide) (by decide)
  have b1 := gR_1 hm (i := 1) (by decide) (by decide)
  refine yR_m 2 (fun _ _ _ _ => rfl) ?_
  refine wR_la rfl l_0 ?_
  refine wR_gq rfl cO_e hm hp ?_
  refine wR_gi rfl quB_e quB_7 hm rfl ?_
  refine wN_mul (a := 2) (b := (gi mem 14 7).toInt) rfl rfl rfl (by omega) (fun x1 e2 => ?_)
  refine wN_add (a := 2) (b := (2 * (gi mem 14 7).toInt)) rfl rfl e2 (by omega) (fun x3 e4 => ?_)
  refine yR_m 1 (fun _ _ _ _ => rfl) ?_
  refine wR_la rfl l_0 ?_
  refine wR_gq rfl cO_e hm hp ?_
  refine wR_gi rfl quB_e quB_13 hm rfl ?_
  refine wN_mul (a := 2) (b := (gi mem 14 13).toInt) rfl rfl rfl (by omega) (fun x5 e6 => ?_)
  refine wN_add (a := (2 + (2 * (gi mem 14 7).toInt))) (b := (2 * (gi mem 14 13).toInt)) rfl e4 e6 (by omega) (fun x7 e8 => ?_)
  refine yR_m 1 (fun _ _ _ _ => rfl) ?_
  refine wN_add (a := ((2 + (2 * (gi mem 14 7).toInt)) + (2 * (gi mem 14 13).toInt))) (b := 1) rfl e8 rfl (by omega) (fun x9 e10 => ?_)
  refine wR_si rfl rfl (fun lo11 e12 f13 => ?_)
  have lo11_0 := f13 0 _ (by decide) (Or.inl rfl) l_0
  have lo11_1 := f13 1 _ (by decide) (Or.inl rfl) l_1
  refine wR_la rfl lo11_0 ?_
  refine wR_gq rfl cO_e hm hp ?_
  refine wR_gi rfl quB_e quB_1 hm rfl ?_
  refine wR_if_eq rfl (a := (gi mem 14 1).toInt) rfl (fun q14 => ?_) (fun q14 => ?_)
  ·
    refine yR_m 1 (fun _ _ _ _ => rfl) ?_
    exact yR_rz rfl ⟨by decide, by decide⟩ (h1 x1 e2 x3 e4 x5 e6 x7 e8 x9 e10 q14 hm)
  ·
    refine wR_li rfl lo11_1 ?_
    refine wR_li rfl e12 ?_
    refine wR_ic_ne rfl (a := (n).toInt) (c := (((2 + (2 * (gi mem 14 7).toInt)) + (2 * (gi mem 14 13).toInt)) + 1)) rfl e10 (fun q15 => ?_) (fun q15 => ?_)
    ·
      refine yR_m 1 (fun _ _ _ _ => rfl) ?_
      exact yR_rz rfl ⟨by decide, by decide⟩ (h2 x1 e2 x3 e4 x5 e6 x7 e8 x9 e10 q14 q15 hm)
    ·
      refine wR_la rfl lo11_0 ?_
      refine wR_iv rfl rfl cO_e hm rfl rfl rfl rfl ?_
      show yR zpg tX11_nightOnTape (d + 1) (0, [(0, .ref 0)], [], mem) _
      refine yR_m 1 (fun _ _ _ _ => rfl) ?_
      refine wR_gr rfl cO_e cO_0 hm ?_
      refine yR_m 1 (fun _ _ _ _ => rfl) ?_
      refine wN_al (a := 0) rfl aR_1 hm rfl rfl (by decide) (fun y16 e17 => ?_)
      refine yR_m 1 (fun _ _ _ _ => rfl) ?_
      refine wN_mul (a := (gn (ga mem 1) 0)) (b := 256) rfl e17 rfl (by omega) (fun x18 e19 => ?_)
      refine yR_m 1 (fun _ _ _ _ => rfl) ?_
      refine wR_gr rfl cO_e cO_0 hm ?_
      refine yR_m 1 (fun _ _ _ _ => rfl) ?_
      refine wN_al (a := 1) rfl aR_1 hm rfl rfl (by decide) (fun y20 e21 => ?_)
      refine wN_add (a := ((gn (ga mem 1) 0) * 256)) (b := (gn (ga mem 1) 1)) rfl e19 e21 (by omega) (fun x22 e23 => ?_)
      refine yR_ri rfl ?_
      show yR zpg tX11_holdsImage (d + 2) (43, lo11, [.int x22], mem) _
      refine yR_m 1 (fun _ _ _ _ => rfl) ?_
      refine wR_ic_le rfl (a := (((gn (ga mem 1) 0) * 256) + (gn (ga mem 1) 1))) (c := 999) e23 rfl (fun q24 => ?_) (fun q24 => ?_)
      ·
        refine yR_m 1 (fun _ _ _ _ => rfl) ?_
        refine wR_si rfl rfl (fun lo25 e26 f27 => ?_)
        have lo25_2 := f27 2 _ (by decide) (Or.inl rfl) e12
        have lo25_0 := f27 0 _ (by decide) (Or.inl rfl) lo11_0
        have lo25_1 := f27 1 _ (by decide) (Or.inl rfl) lo11_1
        exact h3 x1 e2 x3 e4 x5 e6 x7 e8 x9 e10 q14 q15 y16 e17 x18 e19 y20 e21 x22 e23 q24 lo25 lo25_0 lo25_1 lo25_2 e26 hm
      ·
        refine yR_m 1 (fun _ _ _ _ => rfl) ?_
        exact yR_rz rfl ⟨by decide, by decide⟩ (h4 x1 e2 x3 e4 x5 e6 x7 e8 x9 e10 q14 q15 y16 e17 x18 e19 y20 e21 x22 e23 q24 hm)

theorem h_hkB (hb : (0 ≤ Qc Y ∧ Qc Y ≤ 7) ∧ 0 ≤ Qr Y ∧ Qr Y ≤ 7) (hm : aTm aT0 mem) (hp : zfl mem 0 4 = some (.ref 14)) (hQ : cQ 14 15 16 19 20 21 24 25 Y mem) (hn : 0 ≤ n.toInt ∧ n.toInt ≤ 1600) (hd : 3 ≤ d) : yC zpg d 157 [.ref 0, .int n] mem (fun r m => ∃ v : Int32, r = some (.int v) ∧ mem = m ∧ ((v.toInt = 1 ∧ imK (ga mem 1) n.toInt Y) ∨ (v.toInt = 0 ∧ ¬ imK (ga mem 1) n.toInt Y))) := by
  obtain ⟨d, rfl⟩ : ∃ q, d = q + 3 := ⟨d - 3, by omega⟩
  have r7 := pB_r7 hm
  have r13 := pB_r13 hm
  have t1 := hQ.2.2.1.1
  have f1 := hQ.2.2.2.2.1.1
  have c1 := hQ.1.1
  refine yC_of (t := tX11_holdsImage) rfl rfl ?_
  exact w_hkB_0 hm rfl rfl hp hQ hb
        (fun x1 e2 x3 e4 x5 e6 x7 e8 x9 e10 q14 hm2 => ⟨0, rfl, rfl, Or.inr ⟨rfl, fun w => by have w1 := w.1; omega⟩⟩)
        (fun x1 e2 x3 e4 x5 e6 x7 e8 x9 e10 q14 q15 hm2 => ⟨0, rfl, rfl, Or.inr ⟨rfl, fun w => by have w1 := w.1; omega⟩⟩)
        (fun x1 e2 x3 e4 x5 e6 x7 e8 x9 e10 q14 q15 y16 e17 x18 e19 y20 e21 x22 e23 q24 lo a0 a1 a2 a3 hm2 => hk53_B hb hm2 hp hQ (u := x9) (by omega) ⟨by omega, by omega, by omega⟩ 9 0 lo (by show _ ≤ (0 : Int) + 9; omega) (by decide) (by show (0 : Int) ≤ _; omega) (fun j j0 j1 => by exfalso; have j2 : j < 0 := j1; omega) a0 a1 a2 a3)
        (fun x1 e2 x3 e4 x5 e6 x7 e8 x9 e10 q14 q15 y16 e17 x18 e19 y20 e21 x22 e23 q24 hm2 => ⟨0, rfl, rfl, Or.inr ⟨rfl, fun w => by have w1 := w.1; omega⟩⟩)
theorem on1_pB_114 {g : Int32} (hg : 0 ≤ g.toInt ∧ g.toInt ≤ 20) : ∀ (f : Nat) (mem : zM) (k : Int32) (lo : List (Nat × Value)), (gi mem 14 13).toInt ≤ k.toInt + (f : Int) → 0 ≤ k.toInt ∧ k.toInt ≤ 6 → aTm aT0 mem → zfl mem 0 4 = some (.ref 14) → zlg lo 0 = some (.ref 0) → zlg lo 2 = some (.int g) → zlg lo 3 = some (.int k) → yR zpg tX11_on (d + 4) (114, lo, [], mem) (fun r _ => r = some (.int 1)) := by
  intro f
  induction f with
  | zero =>
    intro mem k lo hk h0 hm hp a0 a2 a3
    have r13 := pB_r13 hm
    exact w_onpB_114 hm a0 a2 a3 hp h0 hg
        (fun q1 hm => rfl)
        (fun q1 x2 e3 x4 e5 y6 e7 x8 e9 x10 e11 x12 e13 y14 e15 x16 e17 lo a0 a2 a3 hm => by exfalso; omega)
  | succ f ih =>
    intro mem k lo hk h0 hm hp a0 a2 a3
    have r13 := pB_r13 hm
    exact w_onpB_114 hm a0 a2 a3 hp h0 hg
        (fun q1 hm => rfl)
        (fun q1 x2 e3 x4 e5 y6 e7 x8 e9 x10 e11 x12 e13 y14 e15 x16 e17 lo a0 a2 a3 hm => ih _ _ lo (by rw [(gi_sa)]; omega) (by omega) hm (zfl_sa.trans hp) a0 a2 a3)
theorem on1_pB_40 : ∀ (f : Nat) (mem : zM) (k : Int32) (lo : List (Nat × Value)), (gi mem 14 7).toInt ≤ k.toInt + (f : Int) → 0 ≤ k.toInt → k.toInt ≤ (gi mem 14 7).toInt → aTm aT0 mem → zfl mem 0 4 = some (.ref 14) → hiT 14 mem → zlg lo 0 = some (.ref 0) → zlg lo 2 = some (.int k) → yR zpg tX11_on (d + 4) (40, lo, [], mem) (fun r _ => r = some (.int 1)) := by
  intro f
  induction f with
  | zero =>
    intro mem k lo hk h0 h9 hm hp hT a0 a2
    have r7 := pB_r7 hm
    exact w_onpB_40 hm a0 a2 hp ⟨h0, by omega⟩
        (fun q1 x2 e3 x4 e5 lo a0 a2 a3 hm => on1_pB_114 (by omega) 6 _ _ lo (by have := pB_r13 hm; show (gi _ _ _).toInt ≤ 0 + 6; omega) (by decide) hm hp a0 a2 a3)
        (fun q1 x12 e13 x14 e15 y16 e17 => by
          have r1 := nO_r1 hm
          have t1 := hT k.toInt h0 (by omega)
          have t0 := gR_1 hm (i := 2 + 2 * k.toInt) (by omega) (by omega)
          exact or_rg (by omega) (by omega) (by omega) (by omega) (by omega) (by omega))
        (fun q1 x12 e13 x14 e15 y16 e17 x18 e19 x20 e21 y22 e23 x24 e25 lo a0 a2 hm => by exfalso; omega)
  | succ f ih =>
    intro mem k lo hk h0 h9 hm hp hT a0 a2
    have r7 := pB_r7 hm
    exact w_onpB_40 hm a0 a2 hp ⟨h0, by omega⟩
        (fun q1 x2 e3 x4 e5 lo a0 a2 a3 hm => on1_pB_114 (by omega) 6 _ _ lo (by have := pB_r13 hm; show (gi _ _ _).toInt ≤ 0 + 6; omega) (by decide) hm hp a0 a2 a3)
        (fun q1 x12 e13 x14 e15 y16 e17 => by
          have r1 := nO_r1 hm
          have t1 := hT k.toInt h0 (by omega)
          have t0 := gR_1 hm (i := 2 + 2 * k.toInt) (by omega) (by omega)
          exact or_rg (by omega) (by omega) (by omega) (by omega) (by omega) (by omega))
        (fun q1 x12 e13 x14 e15 y16 e17 x18 e19 x20 e21 y22 e23 x24 e25 lo a0 a2 hm => ih _ _ lo (by rw [((gi_sa).trans (gi_sv_ne (by decide)))]; omega) (by omega) (by rw [((gi_sa).trans (gi_sv_ne (by decide)))]; omega) hm (zfl_sa.trans ((zfl_sv_ne (by decide)).trans hp)) (by unfold hiT; rw [((ga_sa_ne (by decide)).trans (ga_sv)), ((gi_sa).trans (gi_sv_ne (by decide)))]; exact hT) a0 a2)
set_option maxRecDepth 100000 in
theorem w_okB {d : Nat} {mem : zM} {P : Option Value → zM → Prop} {Y : Qd} {lo : List (Nat × Value)} (hm : aTm aT0 mem) (l_0 : zlg lo 0 = some (.ref 0)) (hp : zfl mem 0 4 = some (.ref 14)) (hQ : cQ 14 15 16 19 20 21 24 25 Y mem) (hb : (0 ≤ Qc Y ∧ Qc Y ≤ 7) ∧ 0 ≤ Qr Y ∧ Qr Y ≤ 7) (h1 : ∀ (v4 : Int32), ((v4.toInt = 1 ∧ imK (ga (si mem 0 1 0) 1) (gi mem 0 1).toInt Y) ∨ (v4.toInt = 0 ∧ ¬ imK (ga (si mem 0 1 0) 1) (gi mem 0 1).toInt Y)) → ¬ (v4).toInt = 0 → ∀ (y7 : Int32), y7.toInt = (gn (ga mem 1) 0) → ∀ (y9 : Int32), y9.toInt = (gn (ga mem 1) 1) → ∀ lo, zlg lo 0 = some (.ref 0) → zlg lo 2 = some (.int 0) → aTm aT0 (si (si (si mem 0 1 0) 31 0 ((y7 * 256) + y9)) 31 1 0) → yR zpg tX11_on (d + 4) (40, lo, [], (si (si (si mem 0 1 0) 31 0 ((y7 * 256) + y9)) 31 1 0)) P) (h2 : ∀ (v4 : Int32), ((v4.toInt = 1 ∧ imK (ga (si mem 0 1 0) 1) (gi mem 0 1).toInt Y) ∨ (v4.toInt = 0 ∧ ¬ imK (ga (si mem 0 1 0) 1) (gi mem 0 1).toInt Y)) → (v4).toInt = 0 → ∀ (y14 : Int32), y14.toInt = (gn (ga mem 220) 5) → aTm aT0 (sx (si mem 0 1 0) 220 5 (y14 + 1)) → P (some (.int 0)) (sx (si mem 0 1 0) 220 5 (y14 + 1))) : yR zpg tX11_on (d + 4) (0, lo, [], mem) P := by
  refine wR_la rfl l_0 ?_
  refine wR_iv rfl rfl cO_e hm rfl rfl rfl rfl ?_
  show yR zpg tX11_takeTape (d + 3) (0, [(0, .ref 0)], [], mem) _
  refine yR_m 1 (fun _ _ _ _ => rfl) ?_
  refine wR_gi rfl cO_e cO_1 hm rfl ?_
  refine yR_m 3 (fun _ _ _ _ => rfl) ?_
  refine wR_pi rfl cO_e cO_1 hm rfl ?_
  have hm_1 : aTm aT0 (si mem 0 1 0) := tm_si cO_e cO_1 hm (by decide)
  refine yR_m 1 (fun _ _ _ _ => rfl) ?_
  refine yR_ri rfl ?_
  show yR zpg tX11_on (d + 4) (4, lo, [.int (gi mem 0 1)], (si mem 0 1 0)) _
  refine wR_si rfl rfl (fun lo1 e2 f3 => ?_)
  have lo1_0 := f3 0 _ (by decide) (Or.inl rfl) l_0
  refine wR_la rfl lo1_0 ?_
  refine wR_li rfl e2 ?_
  refine wR_cv rfl rfl cO_e hm_1 rfl (h_hkB hb hm_1 ((zfl_sv_ne (by decide)).trans hp) (cQ_zaB (fun k h1 h2 => zat_sv_ne (by omega)) hQ) (cO_r1 hm) (by omega)) ?_
  rintro _ _ ⟨v4, rfl, rfl, k5⟩
  show yR zpg tX11_on (d + 4) (10, lo1, [.int v4], (si mem 0 1 0)) _
  refine wR_if_ne rfl (a := (v4).toInt) rfl (fun q6 => ?_) (fun q6 => ?_)
  ·
    refine wR_la rfl lo1_0 ?_
    refine wR_gr rfl cO_e cO_7 hm_1 ?_
    refine wR_la rfl lo1_0 ?_
    refine wR_iv rfl rfl cO_e hm_1 rfl rfl rfl rfl ?_
    show yR zpg tX11_nightOnTape (d + 3) (0, [(0, .ref 0)], [], (si mem 0 1 0)) _
    refine yR_m 1 (fun _ _ _ _ => rfl) ?_
    refine wR_gr rfl cO_e cO_0 hm_1 ?_
    refine yR_m 1 (fun _ _ _ _ => rfl) ?_
    refine wN_al (a := 0) rfl aR_1 hm_1 (ga_sv) rfl (by decide) (fun y7 e8 => ?_)
    refine yR_m 3 (fun _ _ _ _ => rfl) ?_
    refine wR_gr rfl cO_e cO_0 hm_1 ?_
    refine yR_m 1 (fun _ _ _ _ => rfl) ?_
    refine wN_al (a := 1) rfl aR_1 hm_1 (ga_sv) rfl (by decide) (fun y9 e10 => ?_)
    refine yR_m 1 (fun _ _ _ _ => rfl) ?_
    refine yR_ri rfl ?_
    show yR zpg tX11_on (d + 4) (27, lo1, [.int ((y7 * 256) + y9), .ref 31], (si mem 0 1 0)) _
    refine wR_pi rfl nO_e nO_0 hm_1 rfl ?_
    have hm_2 : aTm aT0 (si (si mem 0 1 0) 31 0 ((y7 * 256) + y9)) := tm_si nO_e nO_0 hm_1 (i32_b _)
    refine wR_la rfl lo1_0 ?_
    refine wR_gr rfl cO_e cO_7 hm_2 ?_
    refine yR_m 1 (fun _ _ _ _ => rfl) ?_
    refine wR_pi rfl nO_e nO_1 hm_2 rfl ?_
    have hm_3 : aTm aT0 (si (si (si mem 0 1 0) 31 0 ((y7 * 256) + y9)) 31 1 0) := tm_si nO_e nO_1 hm_2 (by decide)
    refine yR_m 1 (fun _ _ _ _ => rfl) ?_
    refine wR_si rfl rfl (fun lo11 e12 f13 => ?_)
    have lo11_1 := f13 1 _ (by decide) (Or.inl rfl) e2
    have lo11_0 := f13 0 _ (by decide) (Or.inl rfl) lo1_0
    exact h1 v4 k5 q6 y7 e8 y9 e10 lo11 lo11_0 e12 hm_3
  ·
    refine wR_la rfl lo1_0 ?_
    refine yR_m 1 (fun _ _ _ _ => rfl) ?_
    refine wR_iv rfl rfl cO_e hm_1 rfl rfl rfl rfl ?_
    show yR zpg tX11_refused (d + 3) (0, [(0, .ref 0), (1, .int 5)], [], (si mem 0 1 0)) _
    refine yR_m 1 (fun _ _ _ _ => rfl) ?_
    refine wR_gr rfl cO_e cO_14 hm_1 ?_
    refine yR_m 2 (fun _ _ _ _ => rfl) ?_
    refine wN_al (a := 5) rfl aR_220 hm_1 (ga_sv) rfl (by decide) (fun y14 e15 => ?_)
    refine yR_m 2 (fun _ _ _ _ => rfl) ?_
    refine wN_as (a := 5) rfl aR_220 hm_1 rfl (by decide) ?_
    have hm_4 : aTm aT0 (sx (si mem 0 1 0) 220 5 (y14 + 1)) := tm_sa aR_220 hm_1 (i32_b _)
    refine yR_m 1 (fun _ _ _ _ => rfl) ?_
    refine yR_rz rfl ⟨by decide, by decide⟩ ?_
    show yR zpg tX11_on (d + 4) (18, lo1, [.int 0], (sx (si mem 0 1 0) 220 5 (y14 + 1))) _
    exact yR_rz rfl ⟨by decide, by decide⟩ (h2 v4 k5 q6 y14 e15 hm_4)

theorem h_onB (hb : (0 ≤ Qc Y ∧ Qc Y ≤ 7) ∧ 0 ≤ Qr Y ∧ Qr Y ≤ 7) (hm : aTm aT0 mem) (hp : zfl mem 0 4 = some (.ref 14)) (hQ : cQ 14 15 16 19 20 21 24 25 Y mem) (hd : 5 ≤ d) : yC zpg d 142 [.ref 0] mem (fun r _ => ∃ v : Int32, r = some (.int v) ∧ imA (ga mem 1) (gi mem 0 1).toInt Y v.toInt) := by
  obtain ⟨d, rfl⟩ : ∃ q, d = q + 5 := ⟨d - 5, by omega⟩
  refine yC_of (t := tX11_on) rfl rfl ?_
  exact w_okB hm rfl hp hQ hb
        (fun v4 k5 q6 y7 e8 y9 e10 lo a0 a2 hm2 => by
          rcases k5 with w | w
          · have K := w.2
            rw [ga_sv] at K
            have hT : hiT 14 (si (si (si mem 0 1 0) 31 0 ((y7 * 256) + y9)) 31 1 0) := by
              unfold hiT
              rw [((ga_sv).trans ((ga_sv).trans (ga_sv))), ((gi_sv_ne (by decide)).trans ((gi_sv_ne (by decide)).trans (gi_sv_ne (by decide))))]
              intro j j0 j1
              exact (K.2.1 j j0 (by have t1 := hQ.2.2.1.1; omega)).1
            exact yR_mono (fun r m q => ⟨1, q, Or.inl ⟨K, rfl⟩⟩) (on1_pB_40 9 _ _ lo (by have := pB_r7 hm2; show (gi _ _ _).toInt ≤ 0 + 9; omega) (by decide) (by have := pB_r7 hm2; show 0 ≤ (gi _ _ _).toInt; omega) hm2 ((zfl_sv_ne (by decide)).trans ((zfl_sv_ne (by decide)).trans ((zfl_sv_ne (by decide)).trans hp))) hT a0 a2)
          · exfalso; have w1 := w.1; omega)
        (fun v4 k5 q6 y14 e15 hm2 => by
          rcases k5 with w | w
          · exfalso; have w1 := w.1; omega
          · have K := w.2
            rw [ga_sv] at K
            exact ⟨0, rfl, Or.inr ⟨K, rfl⟩⟩)
theorem h_onX (hb : (0 ≤ Qc Y ∧ Qc Y ≤ 7) ∧ 0 ≤ Qr Y ∧ Qr Y ≤ 7) (hm : aTm aT0 mem) (hP : pQ Y mem) (hd : 5 ≤ d) : yC zpg d 142 [.ref 0] mem (fun r _ => ∃ v : Int32, r = some (.int v) ∧ imA (ga mem 1) (gi mem 0 1).toInt Y v.toInt) := by
  rcases hP with h | h
  · exact h_onA hb hm h.1 h.2.2.2 hd
  · exact h_onB hb hm h.1 h.2.2.2 hd
end ON
