/-! going home: the class -/
section WAC
variable {d : Nat} {mem : zM} {L : Int → Prop} {e : Int}
theorem sh_8 {x : Int64} {p : Int32} (p0 : 0 ≤ p.toInt) (p1 : p.toInt < 64) : (((((1 : Int64) <<< (p.toInt64 &&& 63)).toUInt64 >>> ((8 : Int32).toInt64.toUInt64 &&& Int64.toUInt64 63)).toInt64) &&& x) = 0 ↔ ¬ (0 ≤ p.toInt - 8 ∧ bL x (p.toInt - 8)) := by
  rw [bL_e0]
  constructor
  · rintro hh ⟨z0, z1⟩
    refine hh (p.toInt - 8) z0 (by omega) (bL_a.2 ⟨(bL_r8 z0).2 ?_, z1⟩)
    rw [show p.toInt - 8 + 8 = p.toInt by omega]
    exact (bL_1 p0 p1 p0 p1).2 rfl
  · intro hh c c0 c1 z
    obtain ⟨z1, z2⟩ := bL_a.1 z
    have z1 := (bL_r8 c0).1 z1
    rcases Int.lt_or_le (c + 8) 64 with w | w
    · have q := (bL_1 p0 p1 (by omega) w).1 z1
      refine hh ⟨by omega, ?_⟩
      rw [show p.toInt - 8 = c by omega]
      exact z2
    · exact bL_h w z1
theorem sh_1 {x : Int64} {p : Int32} (p0 : 0 ≤ p.toInt) (p1 : p.toInt < 64) : (((((1 : Int64) <<< (p.toInt64 &&& 63)).toUInt64 >>> ((1 : Int32).toInt64.toUInt64 &&& Int64.toUInt64 63)).toInt64) &&& x) = 0 ↔ ¬ (0 ≤ p.toInt - 1 ∧ bL x (p.toInt - 1)) := by
  rw [bL_e0]
  constructor
  · rintro hh ⟨z0, z1⟩
    refine hh (p.toInt - 1) z0 (by omega) (bL_a.2 ⟨(bL_r1 z0).2 ?_, z1⟩)
    rw [show p.toInt - 1 + 1 = p.toInt by omega]
    exact (bL_1 p0 p1 p0 p1).2 rfl
  · intro hh c c0 c1 z
    obtain ⟨z1, z2⟩ := bL_a.1 z
    have z1 := (bL_r1 c0).1 z1
    rcases Int.lt_or_le (c + 1) 64 with w | w
    · have q := (bL_1 p0 p1 (by omega) w).1 z1
      refine hh ⟨by omega, ?_⟩
      rw [show p.toInt - 1 = c by omega]
      exact z2
    · exact bL_h w z1
theorem sl_k {x : Int64} {p k : Int32} (p0 : 0 ≤ p.toInt) (p1 : p.toInt < 64) (k0 : 0 ≤ k.toInt) (k1 : k.toInt < 64) : ((((1 : Int64) <<< (p.toInt64 &&& 63)) <<< (k.toInt64 &&& 63)) &&& x) = 0 ↔ ¬ (p.toInt + k.toInt < 64 ∧ bL x (p.toInt + k.toInt)) := by
  rw [bL_e0]
  constructor
  · rintro hh ⟨z0, z1⟩
    refine hh (p.toInt + k.toInt) (by omega) z0 (bL_a.2 ⟨(bL_sl k0 k1 (by omega) z0).2 ⟨by omega, ?_⟩, z1⟩)
    rw [show p.toInt + k.toInt - k.toInt = p.toInt by omega]
    exact (bL_1 p0 p1 p0 p1).2 rfl
  · intro hh c c0 c1 z
    obtain ⟨z1, z2⟩ := bL_a.1 z
    obtain ⟨z3, z4⟩ := (bL_sl k0 k1 c0 c1).1 z1
    have q := (bL_1 p0 p1 (by omega) (by omega)).1 z4
    refine hh ⟨by omega, ?_⟩
    rw [show p.toInt + k.toInt = c by omega]
    exact z2
/-- the bits of a ring: those places of L that are n steps away -/
def rgB (L : Int → Prop) (e : Int) (n : Nat) (x : Int64) : Prop := ∀ c, 0 ≤ c → c < 64 → (bL x c ↔ (L c ∧ dsP L e n c))
/-- the first way that leads nearer -/
theorem fw_nx {n : Nat} {x : Int64} {p : Int} (hG : ∀ c, L c → 0 ≤ c ∧ c < 64) (hx : rgB L e n x) (hp : dsP L e (n + 1) p) (w : Int) (hw : 0 ≤ w ∧ w < 4) (b0 : 0 ≤ nbr p w) (b1 : nbr p w < 64) (hb : bL x (nbr p w)) (hn : ∀ u, 0 ≤ u → u < w → ¬ ((0 ≤ nbr p u ∧ nbr p u < 64) ∧ bL x (nbr p u))) : nxF L e p = nbr p w := by
  refine nxF_e ⟨w, n, hw, rfl, hp, (hx _ b0 b1).1 hb, fun u u0 u1 z => hn u u0 u1 ?_⟩
  have g := hG _ z.1
  exact ⟨g, (hx _ g.1 g.2).2 z⟩
theorem fw_no {n : Nat} {x : Int64} {p : Int} (hG : ∀ c, L c → 0 ≤ c ∧ c < 64) (hx : rgB L e n x) (hp : dsP L e (n + 1) p) (hn : ∀ u, 0 ≤ u → u < 4 → ¬ ((0 ≤ nbr p u ∧ nbr p u < 64) ∧ bL x (nbr p u))) : False := by
  obtain ⟨w, hw, lw, dw⟩ := ds_st hp
  have g := hG _ lw
  exact hn w hw.1 hw.2 ⟨g, (hx _ g.1 g.2).2 ⟨lw, dw⟩⟩

set_option maxRecDepth 100000 in
theorem w_stp {d : Nat} {mem : zM} {P : Option Value → zM → Prop} {p : Int32} {x : Int64} (hm : aTm aT0 mem) (p0 : 0 ≤ p.toInt ∧ p.toInt < 64) (h1 : ((((((1 : Int64) <<< ((p : Int32).toInt64 &&& 63))).toUInt64 >>> ((8 : Int32).toInt64.toUInt64 &&& Int64.toUInt64 63)).toInt64) &&& x) = 0 → ((((1 : Int64) <<< ((p : Int32).toInt64 &&& 63)) <<< ((1 : Int32).toInt64 &&& 63)) &&& x) = 0 → ((((1 : Int64) <<< ((p : Int32).toInt64 &&& 63)) <<< ((8 : Int32).toInt64 &&& 63)) &&& x) = 0 → ((((((1 : Int64) <<< ((p : Int32).toInt64 &&& 63))).toUInt64 >>> ((1 : Int32).toInt64.toUInt64 &&& Int64.toUInt64 63)).toInt64) &&& x) = 0 → aTm aT0 mem → P (some (.int p)) mem) (h2 : ((((((1 : Int64) <<< ((p : Int32).toInt64 &&& 63))).toUInt64 >>> ((8 : Int32).toInt64.toUInt64 &&& Int64.toUInt64 63)).toInt64) &&& x) = 0 → ((((1 : Int64) <<< ((p : Int32).toInt64 &&& 63)) <<< ((1 : Int32).toInt64 &&& 63)) &&& x) = 0 → ((((1 : Int64) <<< ((p : Int32).toInt64 &&& 63)) <<< ((8 : Int32).toInt64 &&& 63)) &&& x) = 0 → ¬ ((((((1 : Int64) <<< ((p : Int32).toInt64 &&& 63))).toUInt64 >>> ((1 : Int32).toInt64.toUInt64 &&& Int64.toUInt64 63)).toInt64) &&& x) = 0 → ∀ (x5 : Int32), x5.toInt = ((p).toInt - 1) → aTm aT0 mem → P (some (.int x5)) mem) (h3 : ((((((1 : Int64) <<< ((p : Int32).toInt64 &&& 63))).toUInt64 >>> ((8 : Int32).toInt64.toUInt64 &&& Int64.toUInt64 63)).toInt64) &&& x) = 0 → ((((1 : Int64) <<< ((p : Int32).toInt64 &&& 63)) <<< ((1 : Int32).toInt64 &&& 63)) &&& x) = 0 → ¬ ((((1 : Int64) <<< ((p : Int32).toInt64 &&& 63)) <<< ((8 : Int32).toInt64 &&& 63)) &&& x) = 0 → ∀ (x7 : Int32), x7.toInt = ((p).toInt + 8) → aTm aT0 mem → P (some (.int x7)) mem) (h4 : ((((((1 : Int64) <<< ((p : Int32).toInt64 &&& 63))).toUInt64 >>> ((8 : Int32).toInt64.toUInt64 &&& Int64.toUInt64 63)).toInt64) &&& x) = 0 → ¬ ((((1 : Int64) <<< ((p : Int32).toInt64 &&& 63)) <<< ((1 : Int32).toInt64 &&& 63)) &&& x) = 0 → ∀ (x9 : Int32), x9.toInt = ((p).toInt + 1) → aTm aT0 mem → P (some (.int x9)) mem) (h5 : ¬ ((((((1 : Int64) <<< ((p : Int32).toInt64 &&& 63))).toUInt64 >>> ((8 : Int32).toInt64.toUInt64 &&& Int64.toUInt64 63)).toInt64) &&& x) = 0 → ∀ (x11 : Int32), x11.toInt = ((p).toInt - 8) → aTm aT0 mem → P (some (.int x11)) mem) : yR zpg tX0_stepped (d + 1) (0, [(0, .int p), (1, .long x)], [], mem) P := by
  refine yR_m 1 (fun _ _ _ _ => rfl) ?_
  refine wR_is rfl rfl rfl rfl rfl rfl ?_
  show yR zpg tX11_bitOf d (0, [(0, .int p)], [], mem) _
  refine yR_m 3 (fun _ _ _ _ => rfl) ?_
  refine yR_rl rfl ?_
  show yR zpg tX0_stepped (d + 1) (4, [(0, .int p), (1, .long x)], [.long ((1 : Int64) <<< ((p : Int32).toInt64 &&& 63))], mem) _
  refine yR_m 8 (fun _ _ _ _ => rfl) ?_
  refine wR_lf_eq rfl (fun q1 => ?_) (fun q1 => ?_)
  ·
    refine yR_m 7 (fun _ _ _ _ => rfl) ?_
    refine wR_lf_eq rfl (fun q2 => ?_) (fun q2 => ?_)
    ·
      refine yR_m 7 (fun _ _ _ _ => rfl) ?_
      refine wR_lf_eq rfl (fun q3 => ?_) (fun q3 => ?_)
      ·
        refine yR_m 7 (fun _ _ _ _ => rfl) ?_
        refine wR_lf_eq rfl (fun q4 => ?_) (fun q4 => ?_)
        ·
          refine yR_m 1 (fun _ _ _ _ => rfl) ?_
          exact yR_ri rfl (h1 q1 q2 q3 q4 hm)
        ·
          refine yR_m 2 (fun _ _ _ _ => rfl) ?_
          refine wN_sub (a := (p).toInt) (b := 1) rfl rfl rfl (by omega) (fun x5 e6 => ?_)
          refine yR_m 1 (fun _ _ _ _ => rfl) ?_
          exact yR_ri rfl (h2 q1 q2 q3 q4 x5 e6 hm)
      ·
        refine yR_m 2 (fun _ _ _ _ => rfl) ?_
        refine wN_add (a := (p).toInt) (b := 8) rfl rfl rfl (by omega) (fun x7 e8 => ?_)
        exact yR_ri rfl (h3 q1 q2 q3 x7 e8 hm)
    ·
      refine yR_m 2 (fun _ _ _ _ => rfl) ?_
      refine wN_add (a := (p).toInt) (b := 1) rfl rfl rfl (by omega) (fun x9 e10 => ?_)
      exact yR_ri rfl (h4 q1 q2 x9 e10 hm)
  ·
    refine yR_m 2 (fun _ _ _ _ => rfl) ?_
    refine wN_sub (a := (p).toInt) (b := 8) rfl rfl rfl (by omega) (fun x11 e12 => ?_)
    exact yR_ri rfl (h5 q1 x11 e12 hm)

theorem h_stp {p : Int32} {x : Int64} {n : Nat} {z : Int} (hz : p.toInt = z) (hm : aTm aT0 mem) (hG : ∀ c, L c → 0 ≤ c ∧ c < 64) (p0 : 0 ≤ z ∧ z < 64) (hx : rgB L e n x) (hp : dsP L e (n + 1) z) (hd : 2 ≤ d) : yC zpg d 10 [.int p, .long x] mem (fun r m => ∃ v : Int32, r = some (.int v) ∧ mem = m ∧ v.toInt = nxF L e z) := by
  obtain ⟨d, rfl⟩ : ∃ q, d = q + 2 := ⟨d - 2, by omega⟩
  subst hz
  have E0 : nbr p.toInt 0 = p.toInt - 8 := rfl
  have E1 : nbr p.toInt 1 = p.toInt + 1 := rfl
  have E2 : nbr p.toInt 2 = p.toInt + 8 := rfl
  have E3 : nbr p.toInt 3 = p.toInt - 1 := rfl
  have N0 : ∀ q : ¬ (0 ≤ p.toInt - 8 ∧ bL x (p.toInt - 8)), ¬ ((0 ≤ nbr p.toInt 0 ∧ nbr p.toInt 0 < 64) ∧ bL x (nbr p.toInt 0)) := fun q z => by
    rw [E0] at z
    exact q ⟨z.1.1, z.2⟩
  have N1 : ∀ q : ¬ (p.toInt + 1 < 64 ∧ bL x (p.toInt + 1)), ¬ ((0 ≤ nbr p.toInt 1 ∧ nbr p.toInt 1 < 64) ∧ bL x (nbr p.toInt 1)) := fun q z => by
    rw [E1] at z
    exact q ⟨z.1.2, z.2⟩
  have N2 : ∀ q : ¬ (p.toInt + 8 < 64 ∧ bL x (p.toInt + 8)), ¬ ((0 ≤ nbr p.toInt 2 ∧ nbr p.toInt 2 < 64) ∧ bL x (nbr p.toInt 2)) := fun q z => by
    rw [E2] at z
    exact q ⟨z.1.2, z.2⟩
  have N3 : ∀ q : ¬ (0 ≤ p.toInt - 1 ∧ bL x (p.toInt - 1)), ¬ ((0 ≤ nbr p.toInt 3 ∧ nbr p.toInt 3 < 64) ∧ bL x (nbr p.toInt 3)) := fun q z => by
    rw [E3] at z
    exact q ⟨z.1.1, z.2⟩
  have s8 := sh_8 (x := x) p0.1 p0.2
  have s1 := sh_1 (x := x) p0.1 p0.2
  have t1 : _ ↔ ¬ (p.toInt + 1 < 64 ∧ bL x (p.toInt + 1)) := sl_k (x := x) (k := 1) p0.1 p0.2 (by decide) (by decide)
  have t8 : _ ↔ ¬ (p.toInt + 8 < 64 ∧ bL x (p.toInt + 8)) := sl_k (x := x) (k := 8) p0.1 p0.2 (by decide) (by decide)
  have B0 : ¬ (0 ≤ p.toInt - 8 ∧ bL x (p.toInt - 8)) ∨ nxF L e p.toInt = p.toInt - 8 := by
    by_cases q : 0 ≤ p.toInt - 8 ∧ bL x (p.toInt - 8)
    · exact Or.inr (fw_nx hG hx hp 0 (by decide) q.1 (by rw [E0]; omega) q.2 (fun u u0 u1 => by exfalso; omega))
    · exact Or.inl q
  have B1 : ¬ (0 ≤ p.toInt - 8 ∧ bL x (p.toInt - 8)) → (p.toInt + 1 < 64 ∧ bL x (p.toInt + 1)) → nxF L e p.toInt = p.toInt + 1 := fun a q => fw_nx hG hx hp 1 (by decide) (by rw [E1]; omega) q.1 q.2 (fun u u0 u1 => by
    rw [show u = 0 by omega]
    exact N0 a)
  have B2 : ¬ (0 ≤ p.toInt - 8 ∧ bL x (p.toInt - 8)) → ¬ (p.toInt + 1 < 64 ∧ bL x (p.toInt + 1)) → (p.toInt + 8 < 64 ∧ bL x (p.toInt + 8)) → nxF L e p.toInt = p.toInt + 8 := fun a b q => fw_nx hG hx hp 2 (by decide) (by rw [E2]; omega) q.1 q.2 (fun u u0 u1 => by
    have c : u = 0 ∨ u = 1 := by omega
    rcases c with c | c
    · rw [c]
      exact N0 a
    · rw [c]
      exact N1 b)
  have B3 : ¬ (0 ≤ p.toInt - 8 ∧ bL x (p.toInt - 8)) → ¬ (p.toInt + 1 < 64 ∧ bL x (p.toInt + 1)) → ¬ (p.toInt + 8 < 64 ∧ bL x (p.toInt + 8)) → (0 ≤ p.toInt - 1 ∧ bL x (p.toInt - 1)) → nxF L e p.toInt = p.toInt - 1 := fun a b b2 q => fw_nx hG hx hp 3 (by decide) q.1 (by rw [E3]; omega) q.2 (fun u u0 u1 => by
    have c : u = 0 ∨ u = 1 ∨ u = 2 := by omega
    rcases c with c | c | c
    · rw [c]
      exact N0 a
    · rw [c]
      exact N1 b
    · rw [c]
      exact N2 b2)
  have B4 : ¬ (0 ≤ p.toInt - 8 ∧ bL x (p.toInt - 8)) → ¬ (p.toInt + 1 < 64 ∧ bL x (p.toInt + 1)) → ¬ (p.toInt + 8 < 64 ∧ bL x (p.toInt + 8)) → ¬ (0 ≤ p.toInt - 1 ∧ bL x (p.toInt - 1)) → False := fun a b b2 b3 => fw_no hG hx hp (fun u u0 u1 => by
    have c : u = 0 ∨ u = 1 ∨ u = 2 ∨ u = 3 := by omega
    rcases c with c | c | c | c
    · rw [c]
      exact N0 a
    · rw [c]
      exact N1 b
    · rw [c]
      exact N2 b2
    · rw [c]
      exact N3 b3)
  refine yC_of (t := tX0_stepped) rfl rfl ?_
  exact w_stp hm p0 
        (fun q1 q2 q3 q4 hm2 => (B4 (s8.1 q1) (t1.1 q2) (t8.1 q3) (s1.1 q4)).elim)
        (fun q1 q2 q3 q4 x5 e6 hm2 => ⟨_, rfl, rfl, by rw [e6]; exact (B3 (s8.1 q1) (t1.1 q2) (t8.1 q3) (Classical.byContradiction (fun z => q4 (s1.2 z)))).symm⟩)
        (fun q1 q2 q3 x7 e8 hm2 => ⟨_, rfl, rfl, by rw [e8]; exact (B2 (s8.1 q1) (t1.1 q2) (Classical.byContradiction (fun z => q3 (t8.2 z)))).symm⟩)
        (fun q1 q2 x9 e10 hm2 => ⟨_, rfl, rfl, by rw [e10]; exact (B1 (s8.1 q1) (Classical.byContradiction (fun z => q2 (t1.2 z)))).symm⟩)
        (fun q1 x11 e12 hm2 => ⟨_, rfl, rfl, by rw [e12]; exact (B0.resolve_left (fun z => z (Classical.byContradiction (fun z => q1 (s8.2 z))))).symm⟩)
end WAC
section WAA
variable {d : Nat} {mem : zM} {L : Int → Prop} {e : Int} {Q : Qd}
set_option maxRecDepth 100000 in
theorem w_wa0A {d : Nat} {mem : zM} {P : Option Value → zM → Prop} {pl en : Int32} {op : Int64} {L : Int → Prop} {Q : Qd} {lo : List (Nat × Value)} (hm : aTm aT0 mem) (l_0 : zlg lo 0 = some (.ref 181)) (l_1 : zlg lo 1 = some (.int pl)) (l_2 : zlg lo 2 = some (.int en)) (l_3 : zlg lo 3 = some (.long op)) (b : (0 ≤ Qc Q ∧ Qc Q ≤ 7) ∧ 0 ≤ Qr Q ∧ Qr Q ≤ 7) (hL : ∀ c, L c → inG Q c) (hop : ∀ c, 0 ≤ c → c < 64 → (bL op c ↔ L c)) (hi : inG Q pl.toInt) (hj : inG Q en.toInt) (h1 : ∀ (v3 : Int32) (m1 : zM), aTm aT0 m1 → (onl [184] mem m1 ∧ rdR L (en).toInt (pl).toInt m1 v3.toInt) → ∀ lo, zlg lo 0 = some (.ref 181) → zlg lo 1 = some (.int pl) → zlg lo 2 = some (.int en) → zlg lo 3 = some (.long op) → zlg lo 5 = some (.int v3) → zlg lo 6 = some (.int pl) → zlg lo 7 = some (.int 0) → aTm aT0 m1 → yR zpg tX0_walked (d + 4) (15, lo, [], m1) P) : yR zpg tX0_walked (d + 4) (0, lo, [], mem) P := by
  refine wR_la rfl l_0 ?_
  refine wR_li rfl l_1 ?_
  refine wR_li rfl l_2 ?_
  refine wR_ll4 rfl l_3 ?_
  refine wR_cv rfl rfl hrO_e hm rfl (h_rd (L := L) (Q := Q) rfl rfl hm b hL hop hi hj (by omega)) ?_
  rintro _ m1 ⟨v3, rfl, hm1, k2⟩
  show yR zpg tX0_walked (d + 4) (7, lo, [.int v3], m1) _
  refine wR_si rfl rfl (fun lo4 e5 f6 => ?_)
  have lo4_0 := f6 0 _ (by decide) (Or.inl rfl) l_0
  have lo4_1 := f6 1 _ (by decide) (Or.inl rfl) l_1
  have lo4_2 := f6 2 _ (by decide) (Or.inl rfl) l_2
  have lo4_3 := f6 3 _ (by decide) (Or.inr (by decide)) l_3
  refine wR_li rfl lo4_1 ?_
  refine wR_si rfl rfl (fun lo7 e8 f9 => ?_)
  have lo7_5 := f9 5 _ (by decide) (Or.inl rfl) e5
  have lo7_0 := f9 0 _ (by decide) (Or.inl rfl) lo4_0
  have lo7_1 := f9 1 _ (by decide) (Or.inl rfl) lo4_1
  have lo7_2 := f9 2 _ (by decide) (Or.inl rfl) lo4_2
  have lo7_3 := f9 3 _ (by decide) (Or.inr (by decide)) lo4_3
  refine yR_m 1 (fun _ _ _ _ => rfl) ?_
  refine wR_si rfl rfl (fun lo10 e11 f12 => ?_)
  have lo10_6 := f12 6 _ (by decide) (Or.inl rfl) e8
  have lo10_5 := f12 5 _ (by decide) (Or.inl rfl) lo7_5
  have lo10_0 := f12 0 _ (by decide) (Or.inl rfl) lo7_0
  have lo10_1 := f12 1 _ (by decide) (Or.inl rfl) lo7_1
  have lo10_2 := f12 2 _ (by decide) (Or.inl rfl) lo7_2
  have lo10_3 := f12 3 _ (by decide) (Or.inr (by decide)) lo7_3
  exact h1 v3 m1 hm1 k2 lo10 lo10_0 lo10_1 lo10_2 lo10_3 lo10_5 lo10_6 e11 hm1

set_option maxRecDepth 100000 in
theorem w_wa15A {d : Nat} {mem : zM} {P : Option Value → zM → Prop} {pl en st he k : Int32} {op : Int64} {L : Int → Prop} {e : Int} {lo : List (Nat × Value)} (hm : aTm aT0 mem) (l_0 : zlg lo 0 = some (.ref 181)) (l_1 : zlg lo 1 = some (.int pl)) (l_2 : zlg lo 2 = some (.int en)) (l_3 : zlg lo 3 = some (.long op)) (l_5 : zlg lo 5 = some (.int st)) (l_6 : zlg lo 6 = some (.int he)) (l_7 : zlg lo 7 = some (.int k)) (hp : zfl mem 181 0 = some (.ref 2)) (hk : 0 ≤ k.toInt ∧ k.toInt ≤ 9) (hst : -1 ≤ st.toInt ∧ st.toInt ≤ 48) (hG : ∀ c, L c → 0 ≤ c ∧ c < 64) (hh : 0 ≤ he.toInt ∧ he.toInt < 64) (h1 : (gi mem 2 3).toInt ≤ (k).toInt → aTm aT0 mem → P (some (.int he)) mem) (h2 : (k).toInt < (gi mem 2 3).toInt → (st).toInt ≤ 0 → aTm aT0 mem → P (some (.int he)) mem) (s1 : (k).toInt < (gi mem 2 3).toInt → 0 < (st).toInt → ∀ (x3 : Int32), x3.toInt = ((st).toInt + (-1)) → rgB L e ((st).toInt + (-1)).toNat ((gA mem 184).getD (((st).toInt + (-1)) : Int).toNat 0)) (s2 : (k).toInt < (gi mem 2 3).toInt → 0 < (st).toInt → ∀ (x3 : Int32), x3.toInt = ((st).toInt + (-1)) → dsP L e (((st).toInt + (-1)).toNat + 1) (he).toInt) (h3 : (k).toInt < (gi mem 2 3).toInt → 0 < (st).toInt → ∀ (x3 : Int32), x3.toInt = ((st).toInt + (-1)) → ∀ (v8 : Int32), v8.toInt = nxF L e (he).toInt → ∀ (x13 : Int32), x13.toInt = ((k).toInt + 1) → ∀ lo, zlg lo 0 = some (.ref 181) → zlg lo 1 = some (.int pl) → zlg lo 2 = some (.int en) → zlg lo 3 = some (.long op) → zlg lo 5 = some (.int x3) → zlg lo 6 = some (.int v8) → zlg lo 7 = some (.int x13) → aTm aT0 mem → yR zpg tX0_walked (d + 3) (15, lo, [], mem) P) : yR zpg tX0_walked (d + 3) (15, lo, [], mem) P := by
  refine wR_li rfl l_7 ?_
  refine wR_la rfl l_0 ?_
  refine wR_gq rfl hrO_e hm hp ?_
  refine wR_gi rfl quA_e quA_3 hm rfl ?_
  refine wR_ic_ge rfl (a := (k).toInt) (c := (gi mem 2 3).toInt) rfl rfl (fun q1 => ?_) (fun q1 => ?_)
  ·
    refine wR_li rfl l_6 ?_
    exact yR_ri rfl (h1 q1 hm)
  ·
    refine wR_li rfl l_5 ?_
    refine wR_if_le rfl (a := (st).toInt) rfl (fun q2 => ?_) (fun q2 => ?_)
    ·
      refine wR_li rfl l_6 ?_
      exact yR_ri rfl (h2 q1 q2 hm)
    ·
      refine wN_in (a := (st).toInt) (b := (-1)) rfl rfl l_5 rfl tm1 (by omega) (fun x3 e4 => fun lo5 e6 f7 => ?_)
      have lo5_0 := f7 0 _ (by decide) (Or.inl rfl) l_0
      have lo5_1 := f7 1 _ (by decide) (Or.inl rfl) l_1
      have lo5_2 := f7 2 _ (by decide) (Or.inl rfl) l_2
      have lo5_3 := f7 3 _ (by decide) (Or.inr (by decide)) l_3
      have lo5_6 := f7 6 _ (by decide) (Or.inl rfl) l_6
      have lo5_7 := f7 7 _ (by decide) (Or.inl rfl) l_7
      refine wR_li rfl lo5_6 ?_
      refine wR_la rfl lo5_0 ?_
      refine wR_gr rfl hrO_e hrO_2 hm ?_
      refine wR_li rfl e6 ?_
      refine wN_ll (a := ((st).toInt + (-1))) rfl aR_184 hm rfl e4 (by omega) ?_
      refine yR_cs rfl rfl rfl (h_stp (L := L) (e := e) (n := ((st).toInt + (-1)).toNat) rfl hm hG (by omega) (s1 q1 q2 x3 e4) (s2 q1 q2 x3 e4) (by omega)) ?_
      rintro _ _ ⟨v8, rfl, rfl, k9⟩
      show yR zpg tX0_walked (d + 3) (47, lo5, [.int v8], mem) _
      refine wR_si rfl rfl (fun lo10 e11 f12 => ?_)
      have lo10_5 := f12 5 _ (by decide) (Or.inl rfl) e6
      have lo10_0 := f12 0 _ (by decide) (Or.inl rfl) lo5_0
      have lo10_1 := f12 1 _ (by decide) (Or.inl rfl) lo5_1
      have lo10_2 := f12 2 _ (by decide) (Or.inl rfl) lo5_2
      have lo10_3 := f12 3 _ (by decide) (Or.inr (by decide)) lo5_3
      have lo10_7 := f12 7 _ (by decide) (Or.inl rfl) lo5_7
      refine wN_in (a := (k).toInt) (b := 1) rfl rfl lo10_7 rfl rfl (by omega) (fun x13 e14 => fun lo15 e16 f17 => ?_)
      have lo15_6 := f17 6 _ (by decide) (Or.inl rfl) e11
      have lo15_5 := f17 5 _ (by decide) (Or.inl rfl) lo10_5
      have lo15_0 := f17 0 _ (by decide) (Or.inl rfl) lo10_0
      have lo15_1 := f17 1 _ (by decide) (Or.inl rfl) lo10_1
      have lo15_2 := f17 2 _ (by decide) (Or.inl rfl) lo10_2
      have lo15_3 := f17 3 _ (by decide) (Or.inr (by decide)) lo10_3
      exact yR_m 1 (fun _ _ _ _ => rfl) (h3 q1 q2 x3 e4 v8 k9 x13 e14 lo15 lo15_0 lo15_1 lo15_2 lo15_3 lo15_5 lo15_6 e16 hm)

theorem wa_loopA {pl en : Int32} {op : Int64} {P : Nat} {z0 : Int} (hp : zfl mem 181 0 = some (.ref 2)) (hP : (gi mem 2 3).toInt = (P : Int)) (hP9 : P ≤ 9) (hG : ∀ c, L c → 0 ≤ c ∧ c < 64) (hm : aTm aT0 mem) {sv : Int} (hr : rdR L e z0 mem sv) (s49 : sv ≤ 48) : ∀ (f : Nat) (k st he : Int32) (lo : List (Nat × Value)), k.toInt + (f : Int) = (P : Int) → 0 ≤ k.toInt → (0 ≤ he.toInt ∧ he.toInt < 64) → ((st.toInt ≤ 0 ∧ nxF L e he.toInt = he.toInt) ∨ (∃ n : Nat, st.toInt = (n : Int) + 1 ∧ st.toInt ≤ sv ∧ dsP L e (n + 1) he.toInt)) → -1 ≤ st.toInt → zlg lo 0 = some (.ref 181) → zlg lo 1 = some (.int pl) → zlg lo 2 = some (.int en) → zlg lo 3 = some (.long op) → zlg lo 5 = some (.int st) → zlg lo 6 = some (.int he) → zlg lo 7 = some (.int k) → yR zpg tX0_walked (d + 3) (15, lo, [], mem) (fun r m => ∃ v : Int32, r = some (.int v) ∧ mem = m ∧ v.toInt = wkF L e f he.toInt) := by
  intro f
  have sub : ∀ n : Nat, (n : Int) + 1 ≤ sv → rgB L e n ((gA mem 184).getD n 0) := fun n hn c c0 c1 => by
    rw [hr.2 n (by omega) c c0 c1]
    constructor
    · rintro ⟨a | a, b⟩
      · exact ⟨a, b⟩
      · exfalso
        rw [a] at b
        rcases hr.1 with ⟨-, q⟩ | ⟨m, q1, q2⟩
        · exact q n b.1
        · have := ds_u b q2
          omega
    · rintro ⟨a, b⟩
      exact ⟨Or.inl a, b⟩
  induction f with
  | zero =>
    intro k st he lo hk k0 hh hv s1 l0 l1 l2 l3 l5 l6 l7
    exact w_wa15A (e := e) hm l0 l1 l2 l3 l5 l6 l7 hp (by omega) (by omega) hG hh 
        (fun q1 hm2 => ⟨_, rfl, rfl, rfl⟩)
        (fun q1 q2 hm2 => by exfalso; omega)
        (fun q1 q2 x3 e4 => by exfalso; omega)
        (fun q1 q2 x3 e4 => by exfalso; omega)
        (fun q1 q2 x3 e4 v8 k9 x13 e14 lo a0 a1 a2 a3 a5 a6 a7 hm2 => by exfalso; omega)
  | succ f ih =>
    intro k st he lo hk k0 hh hv s1 l0 l1 l2 l3 l5 l6 l7
    exact w_wa15A (e := e) hm l0 l1 l2 l3 l5 l6 l7 hp (by omega) (by omega) hG hh 
        (fun q1 hm2 => by exfalso; omega)
        (fun q1 q2 hm2 => ⟨_, rfl, rfl, (wkF_0 (hv.elim (fun w => w.2) (fun ⟨n, w, _⟩ => by exfalso; omega)) _).symm⟩)
        (fun q1 q2 x3 e4 => by
          obtain ⟨n, n1, n2, n3⟩ : ∃ n : Nat, st.toInt = (n : Int) + 1 ∧ st.toInt ≤ sv ∧ dsP L e (n + 1) he.toInt := hv.elim (fun w => by exfalso; omega) id
          have nn : ((st).toInt + (-1)).toNat = n := by omega
          rw [nn]
          exact sub n (by omega))
        (fun q1 q2 x3 e4 => by
          obtain ⟨n, n1, n2, n3⟩ : ∃ n : Nat, st.toInt = (n : Int) + 1 ∧ st.toInt ≤ sv ∧ dsP L e (n + 1) he.toInt := hv.elim (fun w => by exfalso; omega) id
          have nn : ((st).toInt + (-1)).toNat = n := by omega
          rw [nn]
          exact n3)
        (fun q1 q2 x3 e4 v8 k9 x13 e14 lo a0 a1 a2 a3 a5 a6 a7 hm2 => by
          obtain ⟨n, n1, n2, n3⟩ : ∃ n : Nat, st.toInt = (n : Int) + 1 ∧ st.toInt ≤ sv ∧ dsP L e (n + 1) he.toInt := hv.elim (fun w => by exfalso; omega) id
          have nn : ((st).toInt + (-1)).toNat = n := by omega
          obtain ⟨y, hy⟩ := nx_ex n3
          have ye := nxF_e hy
          obtain ⟨w, n', -, -, d1, d2, -⟩ := hy
          have n8 : n' = n := by have := ds_u d1 n3; omega
          rw [n8] at d2
          have g := hG y d2.1
          have hy9 : v8.toInt = y := by rw [k9]; exact ye
          have r := ih x13 x3 v8 lo (by omega) (by omega) (by omega) (by
            rw [hy9]
            cases n with
            | zero => exact Or.inl ⟨by omega, nxF_0 (fun k hk => by have := ds_u hk d2.2; omega)⟩
            | succ n => exact Or.inr ⟨n, by omega, by omega, d2.2⟩) (by omega) a0 a1 a2 a3 a5 a6 a7
          rw [wkF_s, ← k9]
          exact r)
theorem h_waA {pl en : Int32} {op : Int64} {ee pp : Int} (he : en.toInt = ee) (hpp : pl.toInt = pp) (hm : aTm aT0 mem) (hp : zfl mem 181 0 = some (.ref 2)) (hC : cQ 2 3 4 7 8 9 12 13 Q mem) (hW : WQ Q) (hL : ∀ c, L c → inG Q c) (hop : ∀ c, 0 ≤ c → c < 64 → (bL op c ↔ L c)) (hi : inG Q pp) (hj : inG Q ee) (hd : 5 ≤ d) : yC zpg d 9 [.ref 181, .int pl, .int en, .long op] mem (fun r m => ∃ v : Int32, r = some (.int v) ∧ aTm aT0 m ∧ (onl [184] mem m ∧ v.toInt = wkF L ee (Qp Q).toNat pp)) := by
  obtain ⟨d, rfl⟩ : ∃ q, d = q + 5 := ⟨d - 5, by omega⟩
  have b := hW.1
  have hG : ∀ c, L c → 0 ≤ c ∧ c < 64 := fun c hc => by
    have z := hL c hc
    unfold inG at z
    omega
  have p64 : 0 ≤ pp ∧ pp < 64 := by
    unfold inG at hi
    omega
  have pa := hW.2.2.2.1.1
  subst he
  subst hpp
  refine yC_of (t := tX0_walked) rfl rfl ?_
  exact w_wa0A hm rfl rfl rfl rfl b hL hop hi hj 
        (fun v3 m1 hm1 k2 lo a0 a1 a2 a3 a5 a6 a7 hm2 => by
          have s49 : v3.toInt ≤ 48 ∧ -1 ≤ v3.toInt := by
            rcases k2.2.1 with ⟨q, -⟩ | ⟨n, q1, q2⟩
            · omega
            · have := ds_48 b.1.2 b.2.2 hL hi q2; omega
          have hC1 := cQ_qA rfl k2.1 hC
          refine yR_mono (fun r m q => ?_) (wa_loopA (P := (Qp Q).toNat) ((onl_zf k2.1 rfl).trans hp) (by rw [(cq_pA hC1).1]; omega) (by omega) hG hm2 k2.2 s49.1 (Qp Q).toNat 0 _ _ lo (by show (0 : Int) + _ = _; omega) (by decide) p64 ?_ s49.2 a0 a1 a2 a3 a5 a6 a7)
          · obtain ⟨v, q1, q2, q3⟩ := q
            subst q2
            exact ⟨v, q1, hm2, k2.1, q3⟩
          · rcases k2.2.1 with ⟨q, q0⟩ | ⟨n, q1, q2⟩
            · exact Or.inl ⟨by omega, nxF_0 (fun k hk => q0 _ hk.1)⟩
            · cases n with
              | zero => exact Or.inl ⟨by omega, nxF_0 (fun k hk => by have := ds_u hk q2; omega)⟩
              | succ n => exact Or.inr ⟨n, by omega, Int.le_refl _, q2⟩)
end WAA
section WAB
variable {d : Nat} {mem : zM} {L : Int → Prop} {e : Int} {Q : Qd}
set_option maxRecDepth 100000 in
theorem w_wa0B {d : Nat} {mem : zM} {P : Option Value → zM → Prop} {pl en : Int32} {op : Int64} {L : Int → Prop} {Q : Qd} {lo : List (Nat × Value)} (hm : aTm aT0 mem) (l_0 : zlg lo 0 = some (.ref 181)) (l_1 : zlg lo 1 = some (.int pl)) (l_2 : zlg lo 2 = some (.int en)) (l_3 : zlg lo 3 = some (.long op)) (b : (0 ≤ Qc Q ∧ Qc Q ≤ 7) ∧ 0 ≤ Qr Q ∧ Qr Q ≤ 7) (hL : ∀ c, L c → inG Q c) (hop : ∀ c, 0 ≤ c → c < 64 → (bL op c ↔ L c)) (hi : inG Q pl.toInt) (hj : inG Q en.toInt) (h1 : ∀ (v3 : Int32) (m1 : zM), aTm aT0 m1 → (onl [184] mem m1 ∧ rdR L (en).toInt (pl).toInt m1 v3.toInt) → ∀ lo, zlg lo 0 = some (.ref 181) → zlg lo 1 = some (.int pl) → zlg lo 2 = some (.int en) → zlg lo 3 = some (.long op) → zlg lo 5 = some (.int v3) → zlg lo 6 = some (.int pl) → zlg lo 7 = some (.int 0) → aTm aT0 m1 → yR zpg tX0_walked (d + 4) (15, lo, [], m1) P) : yR zpg tX0_walked (d + 4) (0, lo, [], mem) P := by
  refine wR_la rfl l_0 ?_
  refine wR_li rfl l_1 ?_
  refine wR_li rfl l_2 ?_
  refine wR_ll4 rfl l_3 ?_
  refine wR_cv rfl rfl hrO_e hm rfl (h_rd (L := L) (Q := Q) rfl rfl hm b hL hop hi hj (by omega)) ?_
  rintro _ m1 ⟨v3, rfl, hm1, k2⟩
  show yR zpg tX0_walked (d + 4) (7, lo, [.int v3], m1) _
  refine wR_si rfl rfl (fun lo4 e5 f6 => ?_)
  have lo4_0 := f6 0 _ (by decide) (Or.inl rfl) l_0
  have lo4_1 := f6 1 _ (by decide) (Or.inl rfl) l_1
  have lo4_2 := f6 2 _ (by decide) (Or.inl rfl) l_2
  have lo4_3 := f6 3 _ (by decide) (Or.inr (by decide)) l_3
  refine wR_li rfl lo4_1 ?_
  refine wR_si rfl rfl (fun lo7 e8 f9 => ?_)
  have lo7_5 := f9 5 _ (by decide) (Or.inl rfl) e5
  have lo7_0 := f9 0 _ (by decide) (Or.inl rfl) lo4_0
  have lo7_1 := f9 1 _ (by decide) (Or.inl rfl) lo4_1
  have lo7_2 := f9 2 _ (by decide) (Or.inl rfl) lo4_2
  have lo7_3 := f9 3 _ (by decide) (Or.inr (by decide)) lo4_3
  refine yR_m 1 (fun _ _ _ _ => rfl) ?_
  refine wR_si rfl rfl (fun lo10 e11 f12 => ?_)
  have lo10_6 := f12 6 _ (by decide) (Or.inl rfl) e8
  have lo10_5 := f12 5 _ (by decide) (Or.inl rfl) lo7_5
  have lo10_0 := f12 0 _ (by decide) (Or.inl rfl) lo7_0
  have lo10_1 := f12 1 _ (by decide) (Or.inl rfl) lo7_1
  have lo10_2 := f12 2 _ (by decide) (Or.inl rfl) lo7_2
  have lo10_3 := f12 3 _ (by decide) (Or.inr (by decide)) lo7_3
  exact h1 v3 m1 hm1 k2 lo10 lo10_0 lo10_1 lo10_2 lo10_3 lo10_5 lo10_6 e11 hm1

set_option maxRecDepth 100000 in
theorem w_wa15B {d : Nat} {mem : zM} {P : Option Value → zM → Prop} {pl en st he k : Int32} {op : Int64} {L : Int → Prop} {e : Int} {lo : List (Nat × Value)} (hm : aTm aT0 mem) (l_0 : zlg lo 0 = some (.ref 181)) (l_1 : zlg lo 1 = some (.int pl)) (l_2 : zlg lo 2 = some (.int en)) (l_3 : zlg lo 3 = some (.long op)) (l_5 : zlg lo 5 = some (.int st)) (l_6 : zlg lo 6 = some (.int he)) (l_7 : zlg lo 7 = some (.int k)) (hp : zfl mem 181 0 = some (.ref 14)) (hk : 0 ≤ k.toInt ∧ k.toInt ≤ 9) (hst : -1 ≤ st.toInt ∧ st.toInt ≤ 48) (hG : ∀ c, L c → 0 ≤ c ∧ c < 64) (hh : 0 ≤ he.toInt ∧ he.toInt < 64) (h1 : (gi mem 14 3).toInt ≤ (k).toInt → aTm aT0 mem → P (some (.int he)) mem) (h2 : (k).toInt < (gi mem 14 3).toInt → (st).toInt ≤ 0 → aTm aT0 mem → P (some (.int he)) mem) (s1 : (k).toInt < (gi mem 14 3).toInt → 0 < (st).toInt → ∀ (x3 : Int32), x3.toInt = ((st).toInt + (-1)) → rgB L e ((st).toInt + (-1)).toNat ((gA mem 184).getD (((st).toInt + (-1)) : Int).toNat 0)) (s2 : (k).toInt < (gi mem 14 3).toInt → 0 < (st).toInt → ∀ (x3 : Int32), x3.toInt = ((st).toInt + (-1)) → dsP L e (((st).toInt + (-1)).toNat + 1) (he).toInt) (h3 : (k).toInt < (gi mem 14 3).toInt → 0 < (st).toInt → ∀ (x3 : Int32), x3.toInt = ((st).toInt + (-1)) → ∀ (v8 : Int32), v8.toInt = nxF L e (he).toInt → ∀ (x13 : Int32), x13.toInt = ((k).toInt + 1) → ∀ lo, zlg lo 0 = some (.ref 181) → zlg lo 1 = some (.int pl) → zlg lo 2 = some (.int en) → zlg lo 3 = some (.long op) → zlg lo 5 = some (.int x3) → zlg lo 6 = some (.int v8) → zlg lo 7 = some (.int x13) → aTm aT0 mem → yR zpg tX0_walked (d + 3) (15, lo, [], mem) P) : yR zpg tX0_walked (d + 3) (15, lo, [], mem) P := by
  refine wR_li rfl l_7 ?_
  refine wR_la rfl l_0 ?_
  refine wR_gq rfl hrO_e hm hp ?_
  refine wR_gi rfl quB_e quB_3 hm rfl ?_
  refine wR_ic_ge rfl (a := (k).toInt) (c := (gi mem 14 3).toInt) rfl rfl (fun q1 => ?_) (fun q1 => ?_)
  ·
    refine wR_li rfl l_6 ?_
    exact yR_ri rfl (h1 q1 hm)
  ·
    refine wR_li rfl l_5 ?_
    refine wR_if_le rfl (a := (st).toInt) rfl (fun q2 => ?_) (fun q2 => ?_)
    ·
      refine wR_li rfl l_6 ?_
      exact yR_ri rfl (h2 q1 q2 hm)
    ·
      refine wN_in (a := (st).toInt) (b := (-1)) rfl rfl l_5 rfl tm1 (by omega) (fun x3 e4 => fun lo5 e6 f7 => ?_)
      have lo5_0 := f7 0 _ (by decide) (Or.inl rfl) l_0
      have lo5_1 := f7 1 _ (by decide) (Or.inl rfl) l_1
      have lo5_2 := f7 2 _ (by decide) (Or.inl rfl) l_2
      have lo5_3 := f7 3 _ (by decide) (Or.inr (by decide)) l_3
      have lo5_6 := f7 6 _ (by decide) (Or.inl rfl) l_6
      have lo5_7 := f7 7 _ (by decide) (Or.inl rfl) l_7
      refine wR_li rfl lo5_6 ?_
      refine wR_la rfl lo5_0 ?_
      refine wR_gr rfl hrO_e hrO_2 hm ?_
      refine wR_li rfl e6 ?_
      refine wN_ll (a := ((st).toInt + (-1))) rfl aR_184 hm rfl e4 (by omega) ?_
      refine yR_cs rfl rfl rfl (h_stp (L := L) (e := e) (n := ((st).toInt + (-1)).toNat) rfl hm hG (by omega) (s1 q1 q2 x3 e4) (s2 q1 q2 x3 e4) (by omega)) ?_
      rintro _ _ ⟨v8, rfl, rfl, k9⟩
      show yR zpg tX0_walked (d + 3) (47, lo5, [.int v8], mem) _
      refine wR_si rfl rfl (fun lo10 e11 f12 => ?_)
      have lo10_5 := f12 5 _ (by decide) (Or.inl rfl) e6
      have lo10_0 := f12 0 _ (by decide) (Or.inl rfl) lo5_0
      have lo10_1 := f12 1 _ (by decide) (Or.inl rfl) lo5_1
      have lo10_2 := f12 2 _ (by decide) (Or.inl rfl) lo5_2
      have lo10_3 := f12 3 _ (by decide) (Or.inr (by decide)) lo5_3
      have lo10_7 := f12 7 _ (by decide) (Or.inl rfl) lo5_7
      refine wN_in (a := (k).toInt) (b := 1) rfl rfl lo10_7 rfl rfl (by omega) (fun x13 e14 => fun lo15 e16 f17 => ?_)
      have lo15_6 := f17 6 _ (by decide) (Or.inl rfl) e11
      have lo15_5 := f17 5 _ (by decide) (Or.inl rfl) lo10_5
      have lo15_0 := f17 0 _ (by decide) (Or.inl rfl) lo10_0
      have lo15_1 := f17 1 _ (by decide) (Or.inl rfl) lo10_1
      have lo15_2 := f17 2 _ (by decide) (Or.inl rfl) lo10_2
      have lo15_3 := f17 3 _ (by decide) (Or.inr (by decide)) lo10_3
      exact yR_m 1 (fun _ _ _ _ => rfl) (h3 q1 q2 x3 e4 v8 k9 x13 e14 lo15 lo15_0 lo15_1 lo15_2 lo15_3 lo15_5 lo15_6 e16 hm)

theorem wa_loopB {pl en : Int32} {op : Int64} {P : Nat} {z0 : Int} (hp : zfl mem 181 0 = some (.ref 14)) (hP : (gi mem 14 3).toInt = (P : Int)) (hP9 : P ≤ 9) (hG : ∀ c, L c → 0 ≤ c ∧ c < 64) (hm : aTm aT0 mem) {sv : Int} (hr : rdR L e z0 mem sv) (s49 : sv ≤ 48) : ∀ (f : Nat) (k st he : Int32) (lo : List (Nat × Value)), k.toInt + (f : Int) = (P : Int) → 0 ≤ k.toInt → (0 ≤ he.toInt ∧ he.toInt < 64) → ((st.toInt ≤ 0 ∧ nxF L e he.toInt = he.toInt) ∨ (∃ n : Nat, st.toInt = (n : Int) + 1 ∧ st.toInt ≤ sv ∧ dsP L e (n + 1) he.toInt)) → -1 ≤ st.toInt → zlg lo 0 = some (.ref 181) → zlg lo 1 = some (.int pl) → zlg lo 2 = some (.int en) → zlg lo 3 = some (.long op) → zlg lo 5 = some (.int st) → zlg lo 6 = some (.int he) → zlg lo 7 = some (.int k) → yR zpg tX0_walked (d + 3) (15, lo, [], mem) (fun r m => ∃ v : Int32, r = some (.int v) ∧ mem = m ∧ v.toInt = wkF L e f he.toInt) := by
  intro f
  have sub : ∀ n : Nat, (n : Int) + 1 ≤ sv → rgB L e n ((gA mem 184).getD n 0) := fun n hn c c0 c1 => by
    rw [hr.2 n (by omega) c c0 c1]
    constructor
    · rintro ⟨a | a, b⟩
      · exact ⟨a, b⟩
      · exfalso
        rw [a] at b
        rcases hr.1 with ⟨-, q⟩ | ⟨m, q1, q2⟩
        · exact q n b.1
        · have := ds_u b q2
          omega
    · rintro ⟨a, b⟩
      exact ⟨Or.inl a, b⟩
  induction f with
  | zero =>
    intro k st he lo hk k0 hh hv s1 l0 l1 l2 l3 l5 l6 l7
    exact w_wa15B (e := e) hm l0 l1 l2 l3 l5 l6 l7 hp (by omega) (by omega) hG hh 
        (fun q1 hm2 => ⟨_, rfl, rfl, rfl⟩)
        (fun q1 q2 hm2 => by exfalso; omega)
        (fun q1 q2 x3 e4 => by exfalso; omega)
        (fun q1 q2 x3 e4 => by exfalso; omega)
        (fun q1 q2 x3 e4 v8 k9 x13 e14 lo a0 a1 a2 a3 a5 a6 a7 hm2 => by exfalso; omega)
  | succ f ih =>
    intro k st he lo hk k0 hh hv s1 l0 l1 l2 l3 l5 l6 l7
    exact w_wa15B (e := e) hm l0 l1 l2 l3 l5 l6 l7 hp (by omega) (by omega) hG hh 
        (fun q1 hm2 => by exfalso; omega)
        (fun q1 q2 hm2 => ⟨_, rfl, rfl, (wkF_0 (hv.elim (fun w => w.2) (fun ⟨n, w, _⟩ => by exfalso; omega)) _).symm⟩)
        (fun q1 q2 x3 e4 => by
          obtain ⟨n, n1, n2, n3⟩ : ∃ n : Nat, st.toInt = (n : Int) + 1 ∧ st.toInt ≤ sv ∧ dsP L e (n + 1) he.toInt := hv.elim (fun w => by exfalso; omega) id
          have nn : ((st).toInt + (-1)).toNat = n := by omega
          rw [nn]
          exact sub n (by omega))
        (fun q1 q2 x3 e4 => by
          obtain ⟨n, n1, n2, n3⟩ : ∃ n : Nat, st.toInt = (n : Int) + 1 ∧ st.toInt ≤ sv ∧ dsP L e (n + 1) he.toInt := hv.elim (fun w => by exfalso; omega) id
          have nn : ((st).toInt + (-1)).toNat = n := by omega
          rw [nn]
          exact n3)
        (fun q1 q2 x3 e4 v8 k9 x13 e14 lo a0 a1 a2 a3 a5 a6 a7 hm2 => by
          obtain ⟨n, n1, n2, n3⟩ : ∃ n : Nat, st.toInt = (n : Int) + 1 ∧ st.toInt ≤ sv ∧ dsP L e (n + 1) he.toInt := hv.elim (fun w => by exfalso; omega) id
          have nn : ((st).toInt + (-1)).toNat = n := by omega
          obtain ⟨y, hy⟩ := nx_ex n3
          have ye := nxF_e hy
          obtain ⟨w, n', -, -, d1, d2, -⟩ := hy
          have n8 : n' = n := by have := ds_u d1 n3; omega
          rw [n8] at d2
          have g := hG y d2.1
          have hy9 : v8.toInt = y := by rw [k9]; exact ye
          have r := ih x13 x3 v8 lo (by omega) (by omega) (by omega) (by
            rw [hy9]
            cases n with
            | zero => exact Or.inl ⟨by omega, nxF_0 (fun k hk => by have := ds_u hk d2.2; omega)⟩
            | succ n => exact Or.inr ⟨n, by omega, by omega, d2.2⟩) (by omega) a0 a1 a2 a3 a5 a6 a7
          rw [wkF_s, ← k9]
          exact r)
theorem h_waB {pl en : Int32} {op : Int64} {ee pp : Int} (he : en.toInt = ee) (hpp : pl.toInt = pp) (hm : aTm aT0 mem) (hp : zfl mem 181 0 = some (.ref 14)) (hC : cQ 14 15 16 19 20 21 24 25 Q mem) (hW : WQ Q) (hL : ∀ c, L c → inG Q c) (hop : ∀ c, 0 ≤ c → c < 64 → (bL op c ↔ L c)) (hi : inG Q pp) (hj : inG Q ee) (hd : 5 ≤ d) : yC zpg d 9 [.ref 181, .int pl, .int en, .long op] mem (fun r m => ∃ v : Int32, r = some (.int v) ∧ aTm aT0 m ∧ (onl [184] mem m ∧ v.toInt = wkF L ee (Qp Q).toNat pp)) := by
  obtain ⟨d, rfl⟩ : ∃ q, d = q + 5 := ⟨d - 5, by omega⟩
  have b := hW.1
  have hG : ∀ c, L c → 0 ≤ c ∧ c < 64 := fun c hc => by
    have z := hL c hc
    unfold inG at z
    omega
  have p64 : 0 ≤ pp ∧ pp < 64 := by
    unfold inG at hi
    omega
  have pa := hW.2.2.2.1.1
  subst he
  subst hpp
  refine yC_of (t := tX0_walked) rfl rfl ?_
  exact w_wa0B hm rfl rfl rfl rfl b hL hop hi hj 
        (fun v3 m1 hm1 k2 lo a0 a1 a2 a3 a5 a6 a7 hm2 => by
          have s49 : v3.toInt ≤ 48 ∧ -1 ≤ v3.toInt := by
            rcases k2.2.1 with ⟨q, -⟩ | ⟨n, q1, q2⟩
            · omega
            · have := ds_48 b.1.2 b.2.2 hL hi q2; omega
          have hC1 := cQ_qB rfl k2.1 hC
          refine yR_mono (fun r m q => ?_) (wa_loopB (P := (Qp Q).toNat) ((onl_zf k2.1 rfl).trans hp) (by rw [(cq_pB hC1).1]; omega) (by omega) hG hm2 k2.2 s49.1 (Qp Q).toNat 0 _ _ lo (by show (0 : Int) + _ = _; omega) (by decide) p64 ?_ s49.2 a0 a1 a2 a3 a5 a6 a7)
          · obtain ⟨v, q1, q2, q3⟩ := q
            subst q2
            exact ⟨v, q1, hm2, k2.1, q3⟩
          · rcases k2.2.1 with ⟨q, q0⟩ | ⟨n, q1, q2⟩
            · exact Or.inl ⟨by omega, nxF_0 (fun k hk => q0 _ hk.1)⟩
            · cases n with
              | zero => exact Or.inl ⟨by omega, nxF_0 (fun k hk => by have := ds_u hk q2; omega)⟩
              | succ n => exact Or.inr ⟨n, by omega, Int.le_refl _, q2⟩)
end WAB
