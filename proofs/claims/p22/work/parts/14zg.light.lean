/-! how far a lantern lights: the class -/
section LI
variable {d : Nat} {mem : zM} {x y : Int64} {i : Int}
theorem bL_sl {k : Int32} (h0 : 0 ≤ k.toInt) (h1 : k.toInt < 64) (i0 : 0 ≤ i) (i1 : i < 64) : bL (x <<< (k.toInt64 &&& 63)) i ↔ (k.toInt ≤ i ∧ bL x (i - k.toInt)) := by
  show (x.toBitVec <<< ((k.toInt64 &&& 63).toBitVec.smod 64).toNat).getLsbD i.toNat = true ↔ (k.toInt ≤ i ∧ x.toBitVec.getLsbD (i - k.toInt).toNat = true)
  rw [i64_sa h0 h1, BitVec.getLsbD_shiftLeft, decide_eq_true (show i.toNat < 64 by omega), Bool.true_and, Bool.and_eq_true]
  by_cases w : k.toInt ≤ i
  · rw [decide_eq_false (show ¬ i.toNat < k.toInt.toNat by omega), show i.toNat - k.toInt.toNat = (i - k.toInt).toNat by omega]
    exact ⟨fun z => ⟨w, z.2⟩, fun z => ⟨rfl, z.2⟩⟩
  · rw [decide_eq_true (show i.toNat < k.toInt.toNat by omega)]
    exact ⟨fun z => (by cases z.1), fun z => absurd z.1 w⟩
theorem bL_r1 (i0 : 0 ≤ i) : bL (((x).toUInt64 >>> ((1 : Int32).toInt64.toUInt64 &&& Int64.toUInt64 63)).toInt64) i ↔ bL x (i + 1) := by
  have h : (((1 : Int32).toInt64.toUInt64 &&& Int64.toUInt64 63).toBitVec % 64#64).toNat = 1 := by decide
  show (x.toBitVec >>> (((1 : Int32).toInt64.toUInt64 &&& Int64.toUInt64 63).toBitVec % 64#64).toNat).getLsbD i.toNat = true ↔ x.toBitVec.getLsbD (i + 1).toNat = true
  rw [h, BitVec.getLsbD_ushiftRight, show 1 + i.toNat = (i + 1).toNat by omega]
theorem bL_r8 (i0 : 0 ≤ i) : bL (((x).toUInt64 >>> ((8 : Int32).toInt64.toUInt64 &&& Int64.toUInt64 63)).toInt64) i ↔ bL x (i + 8) := by
  have h : (((8 : Int32).toInt64.toUInt64 &&& Int64.toUInt64 63).toBitVec % 64#64).toNat = 8 := by decide
  show (x.toBitVec >>> (((8 : Int32).toInt64.toUInt64 &&& Int64.toUInt64 63).toBitVec % 64#64).toNat).getLsbD i.toNat = true ↔ x.toBitVec.getLsbD (i + 8).toNat = true
  rw [h, BitVec.getLsbD_ushiftRight, show 8 + i.toNat = (i + 8).toNat by omega]
theorem bL_a : bL (x &&& y) i ↔ (bL x i ∧ bL y i) := by
  unfold bL
  rw [Int64.toBitVec_and, BitVec.getLsbD_and, Bool.and_eq_true]
theorem bL_n (i0 : 0 ≤ i) (i1 : i < 64) : bL (x ^^^ (-1)) i ↔ ¬ bL x i := by
  unfold bL
  have h : ((-1 : Int64)).toBitVec = BitVec.allOnes 64 := by decide
  rw [Int64.toBitVec_xor, h, BitVec.getLsbD_xor, BitVec.getLsbD_allOnes, decide_eq_true (show i.toNat < 64 by omega)]
  cases x.toBitVec.getLsbD i.toNat
  · exact ⟨fun _ q => (by cases q), fun _ => rfl⟩
  · exact ⟨fun q => (by cases q), fun q => absurd rfl q⟩
theorem bL_h (h : 64 ≤ i) : ¬ bL x i := by
  unfold bL
  rw [BitVec.getLsbD_of_ge _ _ (by omega)]
  intro q
  cases q
def nxt (x : Int64) : Int64 := ((((x <<< ((1 : Int32).toInt64 &&& 63)) ||| (((x).toUInt64 >>> ((1 : Int32).toInt64.toUInt64 &&& Int64.toUInt64 63)).toInt64)) ||| (x <<< ((8 : Int32).toInt64 &&& 63))) ||| (((x).toUInt64 >>> ((8 : Int32).toInt64.toUInt64 &&& Int64.toUInt64 63)).toInt64))
theorem nxt_b (i0 : 0 ≤ i) (i1 : i < 64) : bL (nxt x) i ↔ ((1 ≤ i ∧ bL x (i - 1)) ∨ bL x (i + 1) ∨ (8 ≤ i ∧ bL x (i - 8)) ∨ bL x (i + 8)) := by
  have h1 : ((1 : Int32)).toInt = 1 := rfl
  have h8 : ((8 : Int32)).toInt = 8 := rfl
  have a := bL_sl (x := x) (k := 1) (i := i) (by decide) (by decide) i0 i1
  have b := bL_sl (x := x) (k := 8) (i := i) (by decide) (by decide) i0 i1
  rw [h1] at a
  rw [h8] at b
  unfold nxt
  rw [bL_o, bL_o, bL_o, a, b, bL_r1 i0, bL_r8 i0, or_assoc, or_assoc]
/-- one step further -/
theorem mh_st {Q : Qd} {x gr : Int64} {p k : Int} (c7 : Qc Q ≤ 7) (r7 : Qr Q ≤ 7) (hp : inG Q p) (hg : ∀ c, 0 ≤ c → c < 64 → (bL gr c ↔ inG Q c)) (k0 : 0 ≤ k) (h : ∀ c, 0 ≤ c → c < 64 → (bL x c ↔ (inG Q c ∧ mhd c p ≤ k))) : ∀ c, 0 ≤ c → c < 64 → (bL (x ||| (nxt x &&& gr)) c ↔ (inG Q c ∧ mhd c p ≤ k + 1)) := by
  intro c c0 c1
  have hi : ∀ j, 64 ≤ j → ¬ bL x j := fun j hj => bL_h hj
  rw [bL_o, bL_a, hg c c0 c1, h c c0 c1, nxt_b c0 c1]
  obtain ⟨p0, p1, p2⟩ := hp
  constructor
  · rintro (⟨a, b⟩ | ⟨b, a⟩)
    · exact ⟨a, by omega⟩
    · refine ⟨a, ?_⟩
      rcases b with ⟨b0, b⟩ | b | ⟨b0, b⟩ | b
      · have z := (h (c - 1) (by omega) (by omega)).1 b
        unfold mhd inG at *
        omega
      · have l : c + 1 < 64 := by
          rcases Int.lt_or_le (c + 1) 64 with w | w
          · exact w
          · exact absurd b (hi _ w)
        have z := (h (c + 1) (by omega) l).1 b
        unfold mhd inG at *
        omega
      · have z := (h (c - 8) (by omega) (by omega)).1 b
        unfold mhd inG at *
        omega
      · have l : c + 8 < 64 := by
          rcases Int.lt_or_le (c + 8) 64 with w | w
          · exact w
          · exact absurd b (hi _ w)
        have z := (h (c + 8) (by omega) l).1 b
        unfold mhd inG at *
        omega
  · rintro ⟨a, b⟩
    by_cases w : mhd c p ≤ k
    · exact Or.inl ⟨a, w⟩
    · refine Or.inr ⟨?_, a⟩
      have e : mhd c p = k + 1 := by omega
      unfold mhd inG at *
      by_cases v1 : p % 8 < c % 8
      · exact Or.inl ⟨by omega, (h (c - 1) (by omega) (by omega)).2 (by omega)⟩
      · by_cases v2 : c % 8 < p % 8
        · exact Or.inr (Or.inl ((h (c + 1) (by omega) (by omega)).2 (by omega)))
        · by_cases v3 : p / 8 < c / 8
          · exact Or.inr (Or.inr (Or.inl ⟨by omega, (h (c - 8) (by omega) (by omega)).2 (by omega)⟩))
          · exact Or.inr (Or.inr (Or.inr ((h (c + 8) (by omega) (by omega)).2 (by omega))))
theorem mh_0 {Q : Qd} {p : Int32} (hp : inG Q p.toInt) (p1 : p.toInt < 64) : ∀ c, 0 ≤ c → c < 64 → (bL ((1 : Int64) <<< (p.toInt64 &&& 63)) c ↔ (inG Q c ∧ mhd c p.toInt ≤ 0)) := by
  intro c c0 c1
  rw [bL_1 hp.1 p1 c0 c1]
  constructor
  · intro e
    subst e
    refine ⟨hp, ?_⟩
    unfold mhd
    omega
  · rintro ⟨-, e⟩
    unfold mhd at e
    omega
/-- the ground's bits -/
theorem gr_row {w : Int32} {c k : Int} (w0 : 0 ≤ w.toInt) (w7 : w.toInt ≤ 7) (k0 : 0 ≤ k) (k7 : k ≤ 7) (c0 : 0 ≤ c) (c1 : c < 64) : bL ((((1 : Int64) <<< (w.toInt64 &&& 63)) - 1) <<< ((Int32.ofInt (8 * k)).toInt64 &&& 63)) c ↔ (c / 8 = k ∧ c % 8 < w.toInt) := by
  have e8 : (Int32.ofInt (8 * k)).toInt = 8 * k := by
    have sz9 : Int32.size = 4294967296 := rfl
    rw [Int32.toInt_ofInt]
    exact Int.bmod_eq_of_le (by omega) (by omega)
  rw [bL_sl (by omega) (by omega) c0 c1, e8]
  have e : w = Int32.ofNat w.toInt.toNat := i32_of w0
  have h : ∀ (K : Fin 8) (J : Fin 64), ((((1 : Int64) <<< ((Int32.ofNat K.val).toInt64 &&& 63)) - 1).toBitVec.getLsbD J.val) = decide (J.val < K.val) := by decide
  have z : ∀ j, 0 ≤ j → j < 64 → (bL (((1 : Int64) <<< (w.toInt64 &&& 63)) - 1) j ↔ j < w.toInt) := fun j j0 j1 => by
    have q := h ⟨w.toInt.toNat, by omega⟩ ⟨j.toNat, by omega⟩
    rw [← e] at q
    unfold bL
    rw [q, decide_eq_true_eq]
    show j.toNat < w.toInt.toNat ↔ j < w.toInt
    omega
  constructor
  · rintro ⟨a, b⟩
    have := (z (c - 8 * k) (by omega) (by omega)).1 b
    omega
  · rintro ⟨a, b⟩
    exact ⟨by omega, (z (c - 8 * k) (by omega) (by omega)).2 (by omega)⟩
theorem gr_b {w : Int32} (w0 : 0 ≤ w.toInt) (w7 : w.toInt ≤ 7) : ∀ (n : Nat), n ≤ 7 → ∀ c, 0 ≤ c → c < 64 → (bL (grdW w n) c ↔ (c % 8 < w.toInt ∧ c / 8 < (n : Int)))
  | 0, _, c, c0, c1 => by
    unfold bL grdW
    constructor
    · intro q
      rw [show ((0 : Int64)).toBitVec = 0#64 from rfl, BitVec.getLsbD_zero] at q
      cases q
    · rintro ⟨-, q⟩
      exfalso
      omega
  | n + 1, h, c, c0, c1 => by
    have k := gr_b w0 w7 n (by omega) c c0 c1
    show bL (grdW w n ||| (((1 <<< (w.toInt64 &&& 63)) - 1) <<< ((Int32.ofInt (8 * (n : Int))).toInt64 &&& 63))) c ↔ _
    rw [bL_o, k, gr_row w0 w7 (by omega) (by omega) c0 c1]
    omega
theorem gr_Q {Q : Qd} (b : (0 ≤ Qc Q ∧ Qc Q ≤ 7) ∧ 0 ≤ Qr Q ∧ Qr Q ≤ 7) : ∀ c, 0 ≤ c → c < 64 → (bL (grdW (Int32.ofInt (Qc Q)) (Qr Q).toNat) c ↔ inG Q c) := by
  intro c c0 c1
  have e : (Int32.ofInt (Qc Q)).toInt = Qc Q := by
    have sz9 : Int32.size = 4294967296 := rfl
    rw [Int32.toInt_ofInt]
    exact Int.bmod_eq_of_le (by omega) (by omega)
  rw [gr_b (by omega) (by omega) (Qr Q).toNat (by omega) c c0 c1, e]
  unfold inG
  omega
def hrO : List (Bool × aTy) := match aat aT0 181 with
  | some (.inr o) => o.2
  | _ => []
set_option maxRecDepth 100000 in
theorem hrO_e : aat aT0 181 = some (.inr (0, hrO)) := rfl
set_option maxRecDepth 100000 in
theorem hrO_0 : hrO[0]? = some (true, .inr (some [2, 14])) := rfl
set_option maxRecDepth 100000 in
theorem hrO_1 : hrO[1]? = some (false, .inr (some [182])) := rfl
set_option maxRecDepth 100000 in
theorem hrO_2 : hrO[2]? = some (false, .inr (some [184])) := rfl
set_option maxRecDepth 100000 in
theorem hrO_3 : hrO[3]? = some (false, .inl (0, 511)) := rfl
theorem hrO_r3 {m : zM} (hm : aTm aT0 m) : 0 ≤ (gi m 181 3).toInt ∧ (gi m 181 3).toInt ≤ 511 := gi_rg hrO_e hrO_3 hm
set_option maxRecDepth 100000 in
theorem hrO_4 : hrO[4]? = some (false, .inl (0, 511)) := rfl
theorem hrO_r4 {m : zM} (hm : aTm aT0 m) : 0 ≤ (gi m 181 4).toInt ∧ (gi m 181 4).toInt ≤ 511 := gi_rg hrO_e hrO_4 hm
end LI
section LIA
variable {d : Nat} {mem : zM} {Q : Qd}
set_option maxRecDepth 100000 in
theorem w_li0A {d : Nat} {mem : zM} {P : Option Value → zM → Prop} {p g : Int32} {lo : List (Nat × Value)} (hm : aTm aT0 mem) (l_0 : zlg lo 0 = some (.ref 181)) (l_1 : zlg lo 1 = some (.int p)) (l_2 : zlg lo 2 = some (.int g)) (hp : zfl mem 181 0 = some (.ref 2)) (h1 : ∀ lo, zlg lo 0 = some (.ref 181) → zlg lo 1 = some (.int p) → zlg lo 2 = some (.int g) → zlg lo 3 = some (.long (1 <<< ((p : Int32).toInt64 &&& 63))) → zlg lo 5 = some (.int 0) → aTm aT0 mem → yR zpg tX0_light (d + 2) (8, lo, [], mem) P) : yR zpg tX0_light (d + 2) (0, lo, [], mem) P := by
  refine wR_li rfl l_1 ?_
  refine wR_is rfl rfl rfl rfl rfl rfl ?_
  show yR zpg tX11_bitOf (d + 1) (0, [(0, .int p)], [], mem) _
  refine yR_m 3 (fun _ _ _ _ => rfl) ?_
  refine yR_rl rfl ?_
  show yR zpg tX0_light (d + 2) (4, lo, [.long (1 <<< ((p : Int32).toInt64 &&& 63))], mem) _
  refine wR_sl rfl rfl (fun lo1 e2 f3 => ?_)
  have lo1_0 := f3 0 _ (by decide) (Or.inl rfl) l_0
  have lo1_1 := f3 1 _ (by decide) (Or.inl rfl) l_1
  have lo1_2 := f3 2 _ (by decide) (Or.inl rfl) l_2
  refine yR_m 1 (fun _ _ _ _ => rfl) ?_
  refine wR_si rfl rfl (fun lo4 e5 f6 => ?_)
  have lo4_3 := f6 3 _ (by decide) (Or.inr (by decide)) e2
  have lo4_0 := f6 0 _ (by decide) (Or.inl rfl) lo1_0
  have lo4_1 := f6 1 _ (by decide) (Or.inl rfl) lo1_1
  have lo4_2 := f6 2 _ (by decide) (Or.inl rfl) lo1_2
  exact h1 lo4 lo4_0 lo4_1 lo4_2 lo4_3 e5 hm

set_option maxRecDepth 100000 in
theorem w_li8A {d : Nat} {mem : zM} {P : Option Value → zM → Prop} {p g k : Int32} {al : Int64} {lo : List (Nat × Value)} (hm : aTm aT0 mem) (l_0 : zlg lo 0 = some (.ref 181)) (l_1 : zlg lo 1 = some (.int p)) (l_2 : zlg lo 2 = some (.int g)) (l_3 : zlg lo 3 = some (.long al)) (l_5 : zlg lo 5 = some (.int k)) (hp : zfl mem 181 0 = some (.ref 2)) (hk : 0 ≤ k.toInt ∧ k.toInt ≤ 9) (h1 : (g).toInt ≤ (k).toInt → aTm aT0 mem → P (some (.long (al &&& ((gL mem 2 6) ^^^ (-1))))) mem) (h2 : (k).toInt < (g).toInt → ∀ (x5 : Int32), x5.toInt = ((k).toInt + 1) → ∀ lo, zlg lo 0 = some (.ref 181) → zlg lo 1 = some (.int p) → zlg lo 2 = some (.int g) → zlg lo 3 = some (.long (al ||| (((((al <<< ((1 : Int32).toInt64 &&& 63)) ||| (((al).toUInt64 >>> ((1 : Int32).toInt64.toUInt64 &&& Int64.toUInt64 63)).toInt64)) ||| (al <<< ((8 : Int32).toInt64 &&& 63))) ||| (((al).toUInt64 >>> ((8 : Int32).toInt64.toUInt64 &&& Int64.toUInt64 63)).toInt64)) &&& (gL mem 2 5)))) → zlg lo 5 = some (.int x5) → aTm aT0 mem → yR zpg tX0_light (d + 2) (8, lo, [], mem) P) : yR zpg tX0_light (d + 2) (8, lo, [], mem) P := by
  refine wR_li rfl l_5 ?_
  refine wR_li rfl l_2 ?_
  refine wR_ic_ge rfl (a := (k).toInt) (c := (g).toInt) rfl rfl (fun q1 => ?_) (fun q1 => ?_)
  ·
    refine wR_ll4 rfl l_3 ?_
    refine wR_la rfl l_0 ?_
    refine wR_gq rfl hrO_e hm hp ?_
    refine wR_gL rfl quA_e quA_6 hm rfl ?_
    refine yR_m 3 (fun _ _ _ _ => rfl) ?_
    exact yR_rl rfl (h1 q1 hm)
  ·
    refine wR_ll4 rfl l_3 ?_
    refine wR_ll4 rfl l_3 ?_
    refine wR_is rfl rfl rfl rfl rfl rfl ?_
    show yR zpg tX0_nextTo (d + 1) (0, [(0, .long al)], [], mem) _
    refine yR_m 15 (fun _ _ _ _ => rfl) ?_
    refine yR_rl rfl ?_
    show yR zpg tX0_light (d + 2) (19, lo, [.long ((((al <<< ((1 : Int32).toInt64 &&& 63)) ||| (((al).toUInt64 >>> ((1 : Int32).toInt64.toUInt64 &&& Int64.toUInt64 63)).toInt64)) ||| (al <<< ((8 : Int32).toInt64 &&& 63))) ||| (((al).toUInt64 >>> ((8 : Int32).toInt64.toUInt64 &&& Int64.toUInt64 63)).toInt64)), .long al], mem) _
    refine wR_la rfl l_0 ?_
    refine wR_gq rfl hrO_e hm hp ?_
    refine wR_gL rfl quA_e quA_5 hm rfl ?_
    refine yR_m 2 (fun _ _ _ _ => rfl) ?_
    refine wR_sl rfl rfl (fun lo2 e3 f4 => ?_)
    have lo2_0 := f4 0 _ (by decide) (Or.inl rfl) l_0
    have lo2_1 := f4 1 _ (by decide) (Or.inl rfl) l_1
    have lo2_2 := f4 2 _ (by decide) (Or.inl rfl) l_2
    have lo2_5 := f4 5 _ (by decide) (Or.inl rfl) l_5
    refine wN_in (a := (k).toInt) (b := 1) rfl rfl lo2_5 rfl rfl (by omega) (fun x5 e6 => fun lo7 e8 f9 => ?_)
    have lo7_3 := f9 3 _ (by decide) (Or.inr (by decide)) e3
    have lo7_0 := f9 0 _ (by decide) (Or.inl rfl) lo2_0
    have lo7_1 := f9 1 _ (by decide) (Or.inl rfl) lo2_1
    have lo7_2 := f9 2 _ (by decide) (Or.inl rfl) lo2_2
    exact yR_m 1 (fun _ _ _ _ => rfl) (h2 q1 x5 e6 lo7 lo7_0 lo7_1 lo7_2 lo7_3 e8 hm)

theorem li_loopA {p g : Int32} (hp : zfl mem 181 0 = some (.ref 2)) (b : (0 ≤ Qc Q ∧ Qc Q ≤ 7) ∧ 0 ≤ Qr Q ∧ Qr Q ≤ 7) (hG : gL mem 2 5 = grdW (Int32.ofInt (Qc Q)) (Qr Q).toNat) (hW : cQw 2 (Qw Q) mem) (hi : inG Q p.toInt) (g0 : 0 ≤ g.toInt) (g9 : g.toInt ≤ 9) (hm : aTm aT0 mem) : ∀ (f : Nat) (k : Int32) (al : Int64) (lo : List (Nat × Value)), k.toInt + (f : Int) = g.toInt → 0 ≤ k.toInt → (∀ c, 0 ≤ c → c < 64 → (bL al c ↔ (inG Q c ∧ mhd c p.toInt ≤ k.toInt))) → zlg lo 0 = some (.ref 181) → zlg lo 1 = some (.int p) → zlg lo 2 = some (.int g) → zlg lo 3 = some (.long al) → zlg lo 5 = some (.int k) → yR zpg tX0_light (d + 2) (8, lo, [], mem) (fun r m => ∃ v : Int64, r = some (.long v) ∧ mem = m ∧ ∀ c, 0 ≤ c → c < 64 → (bL v c ↔ liP Q p.toInt g.toInt c)) := by
  intro f
  induction f with
  | zero =>
    intro k al lo hk k0 hal l0 l1 l2 l3 l5
    have e : k.toInt = g.toInt := by omega
    refine w_li8A hm l0 l1 l2 l3 l5 hp (by omega) 
        (fun q1 hm2 => ⟨_, rfl, rfl, fun c c0 c1 => by
          rw [bL_a, bL_n c0 c1, hal c c0 c1, hW c c0 c1, e]
          unfold liP
          exact ⟨fun q => ⟨q.1.1, q.2, q.1.2⟩, fun q => ⟨⟨q.1, q.2.2⟩, q.2.1⟩⟩⟩)
        (fun q1 x5 e6 lo a0 a1 a2 a3 a5 hm2 => by exfalso; omega)
  | succ f ih =>
    intro k al lo hk k0 hal l0 l1 l2 l3 l5
    refine w_li8A hm l0 l1 l2 l3 l5 hp (by omega) 
        (fun q1 hm2 => by exfalso; omega)
        (fun q1 x5 e6 lo a0 a1 a2 a3 a5 hm2 => ih x5 _ lo (by omega) (by omega) (by rw [e6]; exact mh_st b.1.2 b.2.2 hi (by rw [hG]; exact gr_Q b) k0 hal) a0 a1 a2 a3 a5)
theorem h_liA {p g : Int32} (hm : aTm aT0 mem) (hp : zfl mem 181 0 = some (.ref 2)) (b : (0 ≤ Qc Q ∧ Qc Q ≤ 7) ∧ 0 ≤ Qr Q ∧ Qr Q ≤ 7) (hG : gL mem 2 5 = grdW (Int32.ofInt (Qc Q)) (Qr Q).toNat) (hW : cQw 2 (Qw Q) mem) (hi : inG Q p.toInt) (g0 : 0 ≤ g.toInt) (g9 : g.toInt ≤ 9) (hd : 3 ≤ d) : yC zpg d 5 [.ref 181, .int p, .int g] mem (fun r m => ∃ v : Int64, r = some (.long v) ∧ mem = m ∧ ∀ c, 0 ≤ c → c < 64 → (bL v c ↔ liP Q p.toInt g.toInt c)) := by
  obtain ⟨d, rfl⟩ : ∃ q, d = q + 3 := ⟨d - 3, by omega⟩
  refine yC_of (t := tX0_light) rfl rfl ?_
  refine w_li0A hm rfl rfl rfl hp ?_
  intro lo a0 a1 a2 a3 a5 hm
  have p1 : p.toInt < 64 := by
    unfold inG at hi
    omega
  exact li_loopA hp b hG hW hi g0 g9 hm g.toInt.toNat 0 _ lo (by show (0 : Int) + _ = _; omega) (by decide) (mh_0 hi p1) a0 a1 a2 a3 a5
end LIA
section LIB
variable {d : Nat} {mem : zM} {Q : Qd}
set_option maxRecDepth 100000 in
theorem w_li0B {d : Nat} {mem : zM} {P : Option Value → zM → Prop} {p g : Int32} {lo : List (Nat × Value)} (hm : aTm aT0 mem) (l_0 : zlg lo 0 = some (.ref 181)) (l_1 : zlg lo 1 = some (.int p)) (l_2 : zlg lo 2 = some (.int g)) (hp : zfl mem 181 0 = some (.ref 14)) (h1 : ∀ lo, zlg lo 0 = some (.ref 181) → zlg lo 1 = some (.int p) → zlg lo 2 = some (.int g) → zlg lo 3 = some (.long (1 <<< ((p : Int32).toInt64 &&& 63))) → zlg lo 5 = some (.int 0) → aTm aT0 mem → yR zpg tX0_light (d + 2) (8, lo, [], mem) P) : yR zpg tX0_light (d + 2) (0, lo, [], mem) P := by
  refine wR_li rfl l_1 ?_
  refine wR_is rfl rfl rfl rfl rfl rfl ?_
  show yR zpg tX11_bitOf (d + 1) (0, [(0, .int p)], [], mem) _
  refine yR_m 3 (fun _ _ _ _ => rfl) ?_
  refine yR_rl rfl ?_
  show yR zpg tX0_light (d + 2) (4, lo, [.long (1 <<< ((p : Int32).toInt64 &&& 63))], mem) _
  refine wR_sl rfl rfl (fun lo1 e2 f3 => ?_)
  have lo1_0 := f3 0 _ (by decide) (Or.inl rfl) l_0
  have lo1_1 := f3 1 _ (by decide) (Or.inl rfl) l_1
  have lo1_2 := f3 2 _ (by decide) (Or.inl rfl) l_2
  refine yR_m 1 (fun _ _ _ _ => rfl) ?_
  refine wR_si rfl rfl (fun lo4 e5 f6 => ?_)
  have lo4_3 := f6 3 _ (by decide) (Or.inr (by decide)) e2
  have lo4_0 := f6 0 _ (by decide) (Or.inl rfl) lo1_0
  have lo4_1 := f6 1 _ (by decide) (Or.inl rfl) lo1_1
  have lo4_2 := f6 2 _ (by decide) (Or.inl rfl) lo1_2
  exact h1 lo4 lo4_0 lo4_1 lo4_2 lo4_3 e5 hm

set_option maxRecDepth 100000 in
theorem w_li8B {d : Nat} {mem : zM} {P : Option Value → zM → Prop} {p g k : Int32} {al : Int64} {lo : List (Nat × Value)} (hm : aTm aT0 mem) (l_0 : zlg lo 0 = some (.ref 181)) (l_1 : zlg lo 1 = some (.int p)) (l_2 : zlg lo 2 = some (.int g)) (l_3 : zlg lo 3 = some (.long al)) (l_5 : zlg lo 5 = some (.int k)) (hp : zfl mem 181 0 = some (.ref 14)) (hk : 0 ≤ k.toInt ∧ k.toInt ≤ 9) (h1 : (g).toInt ≤ (k).toInt → aTm aT0 mem → P (some (.long (al &&& ((gL mem 14 6) ^^^ (-1))))) mem) (h2 : (k).toInt < (g).toInt → ∀ (x5 : Int32), x5.toInt = ((k).toInt + 1) → ∀ lo, zlg lo 0 = some (.ref 181) → zlg lo 1 = some (.int p) → zlg lo 2 = some (.int g) → zlg lo 3 = some (.long (al ||| (((((al <<< ((1 : Int32).toInt64 &&& 63)) ||| (((al).toUInt64 >>> ((1 : Int32).toInt64.toUInt64 &&& Int64.toUInt64 63)).toInt64)) ||| (al <<< ((8 : Int32).toInt64 &&& 63))) ||| (((al).toUInt64 >>> ((8 : Int32).toInt64.toUInt64 &&& Int64.toUInt64 63)).toInt64)) &&& (gL mem 14 5)))) → zlg lo 5 = some (.int x5) → aTm aT0 mem → yR zpg tX0_light (d + 2) (8, lo, [], mem) P) : yR zpg tX0_light (d + 2) (8, lo, [], mem) P := by
  refine wR_li rfl l_5 ?_
  refine wR_li rfl l_2 ?_
  refine wR_ic_ge rfl (a := (k).toInt) (c := (g).toInt) rfl rfl (fun q1 => ?_) (fun q1 => ?_)
  ·
    refine wR_ll4 rfl l_3 ?_
    refine wR_la rfl l_0 ?_
    refine wR_gq rfl hrO_e hm hp ?_
    refine wR_gL rfl quB_e quB_6 hm rfl ?_
    refine yR_m 3 (fun _ _ _ _ => rfl) ?_
    exact yR_rl rfl (h1 q1 hm)
  ·
    refine wR_ll4 rfl l_3 ?_
    refine wR_ll4 rfl l_3 ?_
    refine wR_is rfl rfl rfl rfl rfl rfl ?_
    show yR zpg tX0_nextTo (d + 1) (0, [(0, .long al)], [], mem) _
    refine yR_m 15 (fun _ _ _ _ => rfl) ?_
    refine yR_rl rfl ?_
    show yR zpg tX0_light (d + 2) (19, lo, [.long ((((al <<< ((1 : Int32).toInt64 &&& 63)) ||| (((al).toUInt64 >>> ((1 : Int32).toInt64.toUInt64 &&& Int64.toUInt64 63)).toInt64)) ||| (al <<< ((8 : Int32).toInt64 &&& 63))) ||| (((al).toUInt64 >>> ((8 : Int32).toInt64.toUInt64 &&& Int64.toUInt64 63)).toInt64)), .long al], mem) _
    refine wR_la rfl l_0 ?_
    refine wR_gq rfl hrO_e hm hp ?_
    refine wR_gL rfl quB_e quB_5 hm rfl ?_
    refine yR_m 2 (fun _ _ _ _ => rfl) ?_
    refine wR_sl rfl rfl (fun lo2 e3 f4 => ?_)
    have lo2_0 := f4 0 _ (by decide) (Or.inl rfl) l_0
    have lo2_1 := f4 1 _ (by decide) (Or.inl rfl) l_1
    have lo2_2 := f4 2 _ (by decide) (Or.inl rfl) l_2
    have lo2_5 := f4 5 _ (by decide) (Or.inl rfl) l_5
    refine wN_in (a := (k).toInt) (b := 1) rfl rfl lo2_5 rfl rfl (by omega) (fun x5 e6 => fun lo7 e8 f9 => ?_)
    have lo7_3 := f9 3 _ (by decide) (Or.inr (by decide)) e3
    have lo7_0 := f9 0 _ (by decide) (Or.inl rfl) lo2_0
    have lo7_1 := f9 1 _ (by decide) (Or.inl rfl) lo2_1
    have lo7_2 := f9 2 _ (by decide) (Or.inl rfl) lo2_2
    exact yR_m 1 (fun _ _ _ _ => rfl) (h2 q1 x5 e6 lo7 lo7_0 lo7_1 lo7_2 lo7_3 e8 hm)

theorem li_loopB {p g : Int32} (hp : zfl mem 181 0 = some (.ref 14)) (b : (0 ≤ Qc Q ∧ Qc Q ≤ 7) ∧ 0 ≤ Qr Q ∧ Qr Q ≤ 7) (hG : gL mem 14 5 = grdW (Int32.ofInt (Qc Q)) (Qr Q).toNat) (hW : cQw 14 (Qw Q) mem) (hi : inG Q p.toInt) (g0 : 0 ≤ g.toInt) (g9 : g.toInt ≤ 9) (hm : aTm aT0 mem) : ∀ (f : Nat) (k : Int32) (al : Int64) (lo : List (Nat × Value)), k.toInt + (f : Int) = g.toInt → 0 ≤ k.toInt → (∀ c, 0 ≤ c → c < 64 → (bL al c ↔ (inG Q c ∧ mhd c p.toInt ≤ k.toInt))) → zlg lo 0 = some (.ref 181) → zlg lo 1 = some (.int p) → zlg lo 2 = some (.int g) → zlg lo 3 = some (.long al) → zlg lo 5 = some (.int k) → yR zpg tX0_light (d + 2) (8, lo, [], mem) (fun r m => ∃ v : Int64, r = some (.long v) ∧ mem = m ∧ ∀ c, 0 ≤ c → c < 64 → (bL v c ↔ liP Q p.toInt g.toInt c)) := by
  intro f
  induction f with
  | zero =>
    intro k al lo hk k0 hal l0 l1 l2 l3 l5
    have e : k.toInt = g.toInt := by omega
    refine w_li8B hm l0 l1 l2 l3 l5 hp (by omega) 
        (fun q1 hm2 => ⟨_, rfl, rfl, fun c c0 c1 => by
          rw [bL_a, bL_n c0 c1, hal c c0 c1, hW c c0 c1, e]
          unfold liP
          exact ⟨fun q => ⟨q.1.1, q.2, q.1.2⟩, fun q => ⟨⟨q.1, q.2.2⟩, q.2.1⟩⟩⟩)
        (fun q1 x5 e6 lo a0 a1 a2 a3 a5 hm2 => by exfalso; omega)
  | succ f ih =>
    intro k al lo hk k0 hal l0 l1 l2 l3 l5
    refine w_li8B hm l0 l1 l2 l3 l5 hp (by omega) 
        (fun q1 hm2 => by exfalso; omega)
        (fun q1 x5 e6 lo a0 a1 a2 a3 a5 hm2 => ih x5 _ lo (by omega) (by omega) (by rw [e6]; exact mh_st b.1.2 b.2.2 hi (by rw [hG]; exact gr_Q b) k0 hal) a0 a1 a2 a3 a5)
theorem h_liB {p g : Int32} (hm : aTm aT0 mem) (hp : zfl mem 181 0 = some (.ref 14)) (b : (0 ≤ Qc Q ∧ Qc Q ≤ 7) ∧ 0 ≤ Qr Q ∧ Qr Q ≤ 7) (hG : gL mem 14 5 = grdW (Int32.ofInt (Qc Q)) (Qr Q).toNat) (hW : cQw 14 (Qw Q) mem) (hi : inG Q p.toInt) (g0 : 0 ≤ g.toInt) (g9 : g.toInt ≤ 9) (hd : 3 ≤ d) : yC zpg d 5 [.ref 181, .int p, .int g] mem (fun r m => ∃ v : Int64, r = some (.long v) ∧ mem = m ∧ ∀ c, 0 ≤ c → c < 64 → (bL v c ↔ liP Q p.toInt g.toInt c)) := by
  obtain ⟨d, rfl⟩ : ∃ q, d = q + 3 := ⟨d - 3, by omega⟩
  refine yC_of (t := tX0_light) rfl rfl ?_
  refine w_li0B hm rfl rfl rfl hp ?_
  intro lo a0 a1 a2 a3 a5 hm
  have p1 : p.toInt < 64 := by
    unfold inG at hi
    omega
  exact li_loopB hp b hG hW hi g0 g9 hm g.toInt.toNat 0 _ lo (by show (0 : Int) + _ = _; omega) (by decide) (mh_0 hi p1) a0 a1 a2 a3 a5
end LIB
