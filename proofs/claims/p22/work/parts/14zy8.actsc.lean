/-! acts: the class -/
section ACA
noncomputable def ntN (Q : Qd) (hu : Int → Int) : Nat → Sd × Kd × Int → Sd × Kd × Int
  | 0, X => X
  | n + 1, X => (tkS Q hu (-1) (ntN Q hu n X).1, tkK Q hu (-1) (ntN Q hu n X).1 (ntN Q hu n X).2.1, (ntN Q hu n X).2.2 + fdN Q hu (-1) (ntN Q hu n X).1)
noncomputable def chN (Q : Qd) (hu : Int → Int) : Nat → Sd × Kd × Int × Int → Sd × Kd × Int × Int
  | 0, X => X
  | n + 1, X => (tkS Q hu (dkN Q (chN Q hu n X).2.2.1).1 (chN Q hu n X).1, tkK Q hu (dkN Q (chN Q hu n X).2.2.1).1 (chN Q hu n X).1 (chN Q hu n X).2.1, (dkN Q (chN Q hu n X).2.2.1).2, (chN Q hu n X).2.2.2 + if (dkN Q (chN Q hu n X).2.2.1).1 = -1 then 0 else 1)
variable {Q : Qd} {S : Sd} {K : Kd} {P0 : Pd} {hu : Int → Int}
theorem fdN_b {but : Int} : 0 ≤ fdN Q hu but S ∧ fdN Q hu but S ≤ 9 := pop_b _
theorem ntN_n {X : Sd × Kd × Int} : ∀ n : Nat, Sn (ntN Q hu n X).1 = Sn X.1 + (n : Int)
  | 0 => by
    show Sn X.1 = Sn X.1 + 0
    omega
  | n + 1 => by
    have k := ntN_n (X := X) n
    show Sn (ntN Q hu n X).1 + 1 = _
    omega
theorem ntN_w {X : Sd × Kd × Int} (hW : WQ Q) (hv : wS Q X.1) : ∀ n : Nat, Sn X.1 + (n : Int) ≤ 999 → wS Q (ntN Q hu n X).1
  | 0, _ => hv
  | n + 1, hn => tkS_w hW (ntN_w hW hv n (by omega)) (by
    rw [ntN_n]
    omega)
theorem ntN_f {X : Sd × Kd × Int} : ∀ n : Nat, X.2.2 ≤ (ntN Q hu n X).2.2 ∧ (ntN Q hu n X).2.2 ≤ X.2.2 + 9 * (n : Int)
  | 0 => ⟨Int.le_refl _, by show X.2.2 ≤ X.2.2 + 9 * 0; omega⟩
  | n + 1 => by
    have k := ntN_f (X := X) n
    have b := fdN_b (Q := Q) (hu := hu) (but := -1) (S := (ntN Q hu n X).1)
    constructor
    · show X.2.2 ≤ (ntN Q hu n X).2.2 + fdN Q hu (-1) (ntN Q hu n X).1
      omega
    · show (ntN Q hu n X).2.2 + fdN Q hu (-1) (ntN Q hu n X).1 ≤ _
      omega
theorem dkN_b {x : Int} : 0 ≤ (dkN Q x).2 ∧ (dkN Q x).2 < 2147483648 := by
  by_cases hh : drw x 100 < Qa Q ∧ 0 < thN Q
  · rw [dkN_y hh]
    exact sdN_b _
  · rw [dkN_n hh]
    exact sdN_b _
theorem chN_n {X : Sd × Kd × Int × Int} : ∀ n : Nat, Sn (chN Q hu n X).1 = Sn X.1 + (n : Int)
  | 0 => by
    show Sn X.1 = Sn X.1 + 0
    omega
  | n + 1 => by
    have k := chN_n (X := X) n
    show Sn (chN Q hu n X).1 + 1 = _
    omega
theorem chN_w {X : Sd × Kd × Int × Int} (hW : WQ Q) (hv : wS Q X.1) : ∀ n : Nat, Sn X.1 + (n : Int) ≤ 999 → wS Q (chN Q hu n X).1
  | 0, _ => hv
  | n + 1, hn => tkS_w hW (chN_w hW hv n (by omega)) (by
    rw [chN_n]
    omega)
theorem chN_x {X : Sd × Kd × Int × Int} (hx : 0 ≤ X.2.2.1 ∧ X.2.2.1 < 2147483648) : ∀ n : Nat, 0 ≤ (chN Q hu n X).2.2.1 ∧ (chN Q hu n X).2.2.1 < 2147483648
  | 0 => hx
  | n + 1 => dkN_b
theorem chN_f {X : Sd × Kd × Int × Int} : ∀ n : Nat, X.2.2.2 ≤ (chN Q hu n X).2.2.2 ∧ (chN Q hu n X).2.2.2 ≤ X.2.2.2 + (n : Int)
  | 0 => ⟨Int.le_refl _, by show X.2.2.2 ≤ X.2.2.2 + 0; omega⟩
  | n + 1 => by
    have k := chN_f (X := X) n
    have e : (chN Q hu (n + 1) X).2.2.2 = (chN Q hu n X).2.2.2 + if (dkN Q (chN Q hu n X).2.2.1).1 = -1 then 0 else 1 := rfl
    rw [e]
    split <;> (constructor <;> omega)
/-- when nights can go by -/
def cgN (Q : Qd) (S : Sd) (n : Int) : Prop := (1 ≤ n ∧ n ≤ 40) ∧ 0 < Qc Q ∧ Sn S + n ≤ 999
/-- a thing is turned over -/
def tnS (S : Sd) (t : Int32) : Sd := (Sn S, Sm S ^^^ ((1 : Int32) <<< (t &&& 31)), fun u => if u = t.toInt then 0 else Sa S u, Sp S)
/-- one of the folk is led to a place -/
def ldS (S : Sd) (f p : Int) : Sd := (Sn S, Sm S, Sa S, fun g => if g = f then p else Sp S g)
def loN (Q : Qd) (S : Sd) (t : Int) : Prop := (0 ≤ t ∧ t < thN Q) ∧ ¬ bt (Sm S) t
def fiN (Q : Qd) (S : Sd) (t : Int) : Prop := (0 ≤ t ∧ t < thN Q) ∧ bt (Sm S) t
def frL (Q : Qd) (x y : Int) : Prop := (0 ≤ x ∧ 0 ≤ y) ∧ frO Q x y
def leN (Q : Qd) (S : Sd) (f x y : Int) : Prop := (0 ≤ f ∧ f < foN Q) ∧ frL Q x y ∧ ¬ Sp S f = 8 * y + x
/-- one more is refused -/
def rfX (c k : Nat) (m0 m : zM) : Prop := (∀ q, ¬ q = c → zat m q = zat m0 q) ∧ ga m c = (ga m0 c).set k ((ga m0 c).getD k 0 + 1)
theorem rfX_k {c k : Nat} {m0 : zM} {i y : Int32} {a : Int} (hi : i.toNatClampNeg = k) (ha : a.toNat = k) (hy : y.toInt = gn (ga m0 c) a) : rfX c k m0 (sx m0 c i (y + 1)) := by
  refine ⟨fun q hq => zat_sa_ne (fun w => hq w.symm), ?_⟩
  have e : y = (ga m0 c).getD k 0 := by
    unfold gn at hy
    rw [ha] at hy
    exact Int32.toInt_inj.1 hy
  show ga (sa m0 c i.toNatClampNeg (y + 1)) c = _
  rw [ga_sa_eq, hi, e]
variable {d : Nat} {mem : zM}
theorem tb_F {t b : Int32} {m1 m4 : zM} (hm : aTm aT0 mem) (hW : WQ Q) (hS : tS 31 Q hu S mem) (hK : kC 34 K mem) (t0 : 0 ≤ t.toInt ∧ t.toInt ≤ 8) (k1 : (∀ k, ¬ (41 ≤ k ∧ k ≤ 180) → ¬ k = 38 → zat m1 k = zat mem k) ∧ rgC Q hu (pdN P0 (S, K)) m1) (hb : b.toInt = btI (Sm S) t.toInt) (hm4 : aTm aT0 m4) (k4 : frW 34 m1 m4 ∧ ∀ K, kC 34 K m1 → kC 34 (kpP K (((gi m1 31 0) : Int32).toInt, (t : Int32).toInt, (b : Int32).toInt)) m4) (hm2 : aTm aT0 (sx (si m4 31 1 ((gi m4 31 1) ^^^ (1 <<< (t &&& 31)))) 32 t 0)) : (none : Option Value) = none ∧ aTm aT0 (sx (si m4 31 1 ((gi m4 31 1) ^^^ (1 <<< (t &&& 31)))) 32 t 0) ∧ ((∀ k, ¬ (31 ≤ k ∧ k ≤ 180) → zat (sx (si m4 31 1 ((gi m4 31 1) ^^^ (1 <<< (t &&& 31)))) 32 t 0) k = zat mem k) ∧ tS 31 Q hu (tnS S t) (sx (si m4 31 1 ((gi m4 31 1) ^^^ (1 <<< (t &&& 31)))) 32 t 0) ∧ kC 34 (kpP K (Sn S, t.toInt, btI (Sm S) t.toInt)) (sx (si m4 31 1 ((gi m4 31 1) ^^^ (1 <<< (t &&& 31)))) 32 t 0) ∧ rgC Q hu (pdN P0 (S, K)) (sx (si m4 31 1 ((gi m4 31 1) ^^^ (1 <<< (t &&& 31)))) 32 t 0)) := by
  obtain ⟨F1, R1⟩ := k1
  obtain ⟨F4, K4⟩ := k4
  have f1 : ∀ k, 31 ≤ k → k ≤ 37 → zat m1 k = zat mem k := fun k a b => F1 k (by omega) (by omega)
  have f4 : ∀ k, 31 ≤ k → k ≤ 33 → zat m4 k = zat mem k := fun k a b => (F4 k (by omega) (by omega) (by omega) (by omega)).trans (f1 k (by omega) (by omega))
  have G : ∀ i, gi m4 31 i = gi mem 31 i := fun i => gi_zq (f4 31 (by decide) (by decide))
  have fF : ∀ k, ¬ k = 31 → ¬ k = 32 → zat (sx (si m4 31 1 ((gi m4 31 1) ^^^ (1 <<< (t &&& 31)))) 32 t 0) k = zat m4 k := fun k a b => (zat_sa_ne (fun w => b w.symm)).trans (zat_sv_ne (fun w => a w.symm))
  have e0 : (gi m1 31 0).toInt = Sn S := by
    rw [gi_zq (f1 31 (by decide) (by decide))]
    exact hS.1.1
  obtain ⟨⟨s0, s1⟩, s2, s3, s4⟩ := hS
  refine ⟨rfl, hm2, fun k hk => (fF k (by omega) (by omega)).trans ((F4 k (by omega) (by omega) (by omega) (by omega)).trans (F1 k (by omega) (by omega))), ?_, ?_, ?_⟩
  · refine ⟨⟨?_, ?_⟩, fun u u0 u1 => ?_, fun u u0 u1 => ?_, fun u u0 u1 => ?_⟩
    · rw [gi_sa, gi_sv_ne (by decide), G]
      exact s0
    · rw [gi_sa, gi_si_eq nO_e nO_1 hm4, G, s1]
      rfl
    · show gn (ga (sa (si m4 31 1 ((gi m4 31 1) ^^^ (1 <<< (t &&& 31)))) 32 t.toNatClampNeg 0) 32) u = _
      rw [ga_sa_eq, ga_sv, gn_set rfl t0.1 (by rw [(ga_ty aR_32 hm4).2.1]; omega) u0, ga_zq (f4 32 (by decide) (by decide))]
      show _ = if u = t.toInt then 0 else Sa S u
      by_cases w : u = t.toInt
      · rw [if_pos w, if_pos w]
        rfl
      · rw [if_neg w, if_neg w]
        exact s2 u u0 u1
    · rw [ga_zq (fF 33 (by decide) (by decide)), ga_zq (f4 33 (by decide) (by decide))]
      exact s3 u u0 u1
    · rw [gi_sa, gi_sa, gi_sv_ne (by decide), gi_sv_ne (by decide), G, G]
      exact s4 u u0 u1
  · have z := K4 K (kC_zq (f1 34 (by decide) (by decide)) (f1 35 (by decide) (by decide)) (f1 36 (by decide) (by decide)) (f1 37 (by decide) (by decide)) hK)
    rw [e0, hb] at z
    exact kC_zq (fF 34 (by decide) (by decide)) (fF 35 (by decide) (by decide)) (fF 36 (by decide) (by decide)) (fF 37 (by decide) (by decide)) z
  · exact rgC_zq (fun k a b => (fF k (by omega) (by omega)).trans (F4 k (by omega) (by omega) (by omega) (by omega))) R1
set_option maxRecDepth 100000 in
theorem w_tb {d : Nat} {mem : zM} {P : Option Value → zM → Prop} {t : Int32} (hm : aTm aT0 mem) {Q : Qd} {S : Sd} {K : Kd} {P0 : Pd} {hu : Int → Int} (hW : WQ Q) (hS : tS 31 Q hu S mem) (hK : kC 34 K mem) (hP : rgC Q hu P0 mem) (t0 : 0 ≤ t.toInt ∧ t.toInt ≤ 8) (s1 : ∀ (m1 : zM), aTm aT0 m1 → ((∀ k, ¬ (41 ≤ k ∧ k ≤ 180) → ¬ k = 38 → zat m1 k = zat mem k) ∧ rgC Q hu (pdN P0 (S, K)) m1) → (((gi m1 31 1) >>> (t &&& 31)) &&& 1).toInt = 0 → ∀ (m4 : zM), aTm aT0 m4 → (frW 34 m1 m4 ∧ ∀ K, kC 34 K m1 → kC 34 (kpP K (((gi m1 31 0) : Int32).toInt, (t : Int32).toInt, (0 : Int32).toInt)) m4) → (0 : Int) ≤ ((gi m4 31 1) ^^^ (1 <<< (t &&& 31))).toInt ∧ ((gi m4 31 1) ^^^ (1 <<< (t &&& 31))).toInt ≤ 511) (h1 : ∀ (m1 : zM), aTm aT0 m1 → ((∀ k, ¬ (41 ≤ k ∧ k ≤ 180) → ¬ k = 38 → zat m1 k = zat mem k) ∧ rgC Q hu (pdN P0 (S, K)) m1) → (((gi m1 31 1) >>> (t &&& 31)) &&& 1).toInt = 0 → ∀ (m4 : zM), aTm aT0 m4 → (frW 34 m1 m4 ∧ ∀ K, kC 34 K m1 → kC 34 (kpP K (((gi m1 31 0) : Int32).toInt, (t : Int32).toInt, (0 : Int32).toInt)) m4) → aTm aT0 (sx (si m4 31 1 ((gi m4 31 1) ^^^ (1 <<< (t &&& 31)))) 32 t 0) → P none (sx (si m4 31 1 ((gi m4 31 1) ^^^ (1 <<< (t &&& 31)))) 32 t 0)) (s2 : ∀ (m1 : zM), aTm aT0 m1 → ((∀ k, ¬ (41 ≤ k ∧ k ≤ 180) → ¬ k = 38 → zat m1 k = zat mem k) ∧ rgC Q hu (pdN P0 (S, K)) m1) → ¬ (((gi m1 31 1) >>> (t &&& 31)) &&& 1).toInt = 0 → ∀ (m6 : zM), aTm aT0 m6 → (frW 34 m1 m6 ∧ ∀ K, kC 34 K m1 → kC 34 (kpP K (((gi m1 31 0) : Int32).toInt, (t : Int32).toInt, (1 : Int32).toInt)) m6) → (0 : Int) ≤ ((gi m6 31 1) ^^^ (1 <<< (t &&& 31))).toInt ∧ ((gi m6 31 1) ^^^ (1 <<< (t &&& 31))).toInt ≤ 511) (h2 : ∀ (m1 : zM), aTm aT0 m1 → ((∀ k, ¬ (41 ≤ k ∧ k ≤ 180) → ¬ k = 38 → zat m1 k = zat mem k) ∧ rgC Q hu (pdN P0 (S, K)) m1) → ¬ (((gi m1 31 1) >>> (t &&& 31)) &&& 1).toInt = 0 → ∀ (m6 : zM), aTm aT0 m6 → (frW 34 m1 m6 ∧ ∀ K, kC 34 K m1 → kC 34 (kpP K (((gi m1 31 0) : Int32).toInt, (t : Int32).toInt, (1 : Int32).toInt)) m6) → aTm aT0 (sx (si m6 31 1 ((gi m6 31 1) ^^^ (1 <<< (t &&& 31)))) 32 t 0) → P none (sx (si m6 31 1 ((gi m6 31 1) ^^^ (1 <<< (t &&& 31)))) 32 t 0)) : yR zpg tX11_turnByAct (d + 6) (0, [(0, .ref 0), (1, .int t)], [], mem) P := by
  refine yR_m 1 (fun _ _ _ _ => rfl) ?_
  refine wR_gr rfl cO_e cO_9 hm ?_
  refine yR_m 1 (fun _ _ _ _ => rfl) ?_
  refine wR_gr rfl cO_e cO_7 hm ?_
  refine yR_m 1 (fun _ _ _ _ => rfl) ?_
  refine wR_gr rfl cO_e cO_8 hm ?_
  refine wR_cv rfl rfl rngO_e hm rfl (h_pu (Q := Q) (hu := hu) (S := S) (K := K) (P := P0) hm hW hS hK hP (by omega)) ?_
  rintro _ m1 ⟨rfl, hm1, k2⟩
  show yR zpg tX11_turnByAct (d + 6) (15, [(0, .ref 0), (1, .int t)], [], m1) _
  refine yR_m 1 (fun _ _ _ _ => rfl) ?_
  refine wR_gr rfl cO_e cO_8 hm1 ?_
  refine yR_m 1 (fun _ _ _ _ => rfl) ?_
  refine wR_gr rfl cO_e cO_7 hm1 ?_
  refine wR_gi rfl nO_e nO_0 hm1 rfl ?_
  refine yR_m 2 (fun _ _ _ _ => rfl) ?_
  refine wR_gr rfl cO_e cO_7 hm1 ?_
  refine yR_m 1 (fun _ _ _ _ => rfl) ?_
  refine wR_iv rfl rfl nO_e hm1 rfl rfl rfl rfl ?_
  show yR zpg tX8_isMissing (d + 5) (0, [(0, .ref 31), (1, .int t)], [], m1) _
  refine yR_m 1 (fun _ _ _ _ => rfl) ?_
  refine wR_gi rfl nO_e nO_1 hm1 rfl ?_
  refine yR_m 4 (fun _ _ _ _ => rfl) ?_
  refine wR_if_eq rfl (a := (((gi m1 31 1) >>> (t &&& 31)) &&& 1).toInt) rfl (fun q3 => ?_) (fun q3 => ?_)
  ·
    refine yR_m 1 (fun _ _ _ _ => rfl) ?_
    refine yR_rz rfl ⟨by decide, by decide⟩ ?_
    show yR zpg tX11_turnByAct (d + 6) (35, [(0, .ref 0), (1, .int t)], [.int 0, .int t, .int (gi m1 31 0), .ref 34], m1) _
    refine wR_if_eq rfl (a := 0) rfl (fun _ => ?_) (fun q => by exfalso; omega)
    refine yR_m 1 (fun _ _ _ _ => rfl) ?_
    refine wR_cv rfl rfl wO_e hm1 rfl (h_ra hm1 iW_34 (by omega)) ?_
    rintro _ m4 ⟨rfl, hm4, k5⟩
    show yR zpg tX11_turnByAct (d + 6) (46, [(0, .ref 0), (1, .int t)], [], m4) _
    refine yR_m 1 (fun _ _ _ _ => rfl) ?_
    refine wR_gr rfl cO_e cO_7 hm4 ?_
    refine yR_m 1 (fun _ _ _ _ => rfl) ?_
    refine wR_iv rfl rfl nO_e hm4 rfl rfl rfl rfl ?_
    show yR zpg tX8_turn (d + 5) (0, [(0, .ref 31), (1, .int t)], [], m4) _
    refine yR_m 2 (fun _ _ _ _ => rfl) ?_
    refine wR_gi rfl nO_e nO_1 hm4 rfl ?_
    refine yR_m 4 (fun _ _ _ _ => rfl) ?_
    refine wR_pi rfl nO_e nO_1 hm4 rfl ?_
    have hm_1 : aTm aT0 (si m4 31 1 ((gi m4 31 1) ^^^ (1 <<< (t &&& 31)))) := tm_si nO_e nO_1 hm4 (s1 m1 hm1 k2 q3 m4 hm4 k5)
    refine yR_m 1 (fun _ _ _ _ => rfl) ?_
    refine wR_gr rfl nO_e nO_2 hm_1 ?_
    refine yR_m 2 (fun _ _ _ _ => rfl) ?_
    refine wN_as (a := (t).toInt) rfl aR_32 hm_1 rfl (by omega) ?_
    have hm_2 : aTm aT0 (sx (si m4 31 1 ((gi m4 31 1) ^^^ (1 <<< (t &&& 31)))) 32 t 0) := tm_sa aR_32 hm_1 (i32_b _)
    refine yR_rv rfl ?_
    show yR zpg tX11_turnByAct (d + 6) (54, [(0, .ref 0), (1, .int t)], [], (sx (si m4 31 1 ((gi m4 31 1) ^^^ (1 <<< (t &&& 31)))) 32 t 0)) _
    exact yR_rv rfl (h1 m1 hm1 k2 q3 m4 hm4 k5 hm_2)
  ·
    refine yR_m 2 (fun _ _ _ _ => rfl) ?_
    refine yR_rz rfl ⟨by decide, by decide⟩ ?_
    show yR zpg tX11_turnByAct (d + 6) (35, [(0, .ref 0), (1, .int t)], [.int 1, .int t, .int (gi m1 31 0), .ref 34], m1) _
    refine wR_if_eq rfl (a := 1) rfl (fun q => by exfalso; omega) (fun _ => ?_)
    refine yR_m 2 (fun _ _ _ _ => rfl) ?_
    refine wR_cv rfl rfl wO_e hm1 rfl (h_ra hm1 iW_34 (by omega)) ?_
    rintro _ m6 ⟨rfl, hm6, k7⟩
    show yR zpg tX11_turnByAct (d + 6) (46, [(0, .ref 0), (1, .int t)], [], m6) _
    refine yR_m 1 (fun _ _ _ _ => rfl) ?_
    refine wR_gr rfl cO_e cO_7 hm6 ?_
    refine yR_m 1 (fun _ _ _ _ => rfl) ?_
    refine wR_iv rfl rfl nO_e hm6 rfl rfl rfl rfl ?_
    show yR zpg tX8_turn (d + 5) (0, [(0, .ref 31), (1, .int t)], [], m6) _
    refine yR_m 2 (fun _ _ _ _ => rfl) ?_
    refine wR_gi rfl nO_e nO_1 hm6 rfl ?_
    refine yR_m 4 (fun _ _ _ _ => rfl) ?_
    refine wR_pi rfl nO_e nO_1 hm6 rfl ?_
    have hm_3 : aTm aT0 (si m6 31 1 ((gi m6 31 1) ^^^ (1 <<< (t &&& 31)))) := tm_si nO_e nO_1 hm6 (s2 m1 hm1 k2 q3 m6 hm6 k7)
    refine yR_m 1 (fun _ _ _ _ => rfl) ?_
    refine wR_gr rfl nO_e nO_2 hm_3 ?_
    refine yR_m 2 (fun _ _ _ _ => rfl) ?_
    refine wN_as (a := (t).toInt) rfl aR_32 hm_3 rfl (by omega) ?_
    have hm_4 : aTm aT0 (sx (si m6 31 1 ((gi m6 31 1) ^^^ (1 <<< (t &&& 31)))) 32 t 0) := tm_sa aR_32 hm_3 (i32_b _)
    refine yR_rv rfl ?_
    show yR zpg tX11_turnByAct (d + 6) (54, [(0, .ref 0), (1, .int t)], [], (sx (si m6 31 1 ((gi m6 31 1) ^^^ (1 <<< (t &&& 31)))) 32 t 0)) _
    exact yR_rv rfl (h2 m1 hm1 k2 q3 m6 hm6 k7 hm_4)

theorem h_tb {t : Int32} (hm : aTm aT0 mem) (hW : WQ Q) (hS : tS 31 Q hu S mem) (hK : kC 34 K mem) (hP : rgC Q hu P0 mem) (t0 : 0 ≤ t.toInt ∧ t.toInt ≤ 8) (hd : 7 ≤ d) : yC zpg d 152 [.ref 0, .int t] mem (fun r m => r = none ∧ aTm aT0 m ∧ ((∀ k, ¬ (31 ≤ k ∧ k ≤ 180) → zat m k = zat mem k) ∧ tS 31 Q hu (tnS S t) m ∧ kC 34 (kpP K (Sn S, t.toInt, btI (Sm S) t.toInt)) m ∧ rgC Q hu (pdN P0 (S, K)) m)) := by
  obtain ⟨d, rfl⟩ : ∃ q, d = q + 7 := ⟨d - 7, by omega⟩
  have s1 := hS.1.2
  refine yC_of (t := tX11_turnByAct) rfl rfl ?_
  exact w_tb hm hW hS hK hP t0 
        (fun m1 hm1 k2 q3 m4 hm4 k5 => i9_xr (nO_r1 hm4) (i9_sh t0.1 (by omega)))
        (fun m1 hm1 k2 q3 m4 hm4 k5 hm2 => by
      have z := mi_0 t0.1 (by omega) q3; rw [gi_zq (k2.1 31 (by omega) (by omega)), s1] at z; exact tb_F hm hW hS hK t0 k2 (by show (0 : Int) = _; unfold btI; rw [if_neg (show ¬ (Sm S).toBitVec.getLsbD t.toInt.toNat = true from z)]) hm4 k5 hm2)
        (fun m1 hm1 k2 q3 m6 hm6 k7 => i9_xr (nO_r1 hm6) (i9_sh t0.1 (by omega)))
        (fun m1 hm1 k2 q3 m6 hm6 k7 hm2 => by
      have z := mi_1 t0.1 (by omega) q3; rw [gi_zq (k2.1 31 (by omega) (by omega)), s1] at z; exact tb_F hm hW hS hK t0 k2 (by show (1 : Int) = _; unfold btI; rw [if_pos (show  (Sm S).toBitVec.getLsbD t.toInt.toNat = true from z)]) hm6 k7 hm2)
set_option maxRecDepth 100000 in
theorem w_ud0 {d : Nat} {mem : zM} {P : Option Value → zM → Prop} {lo : List (Nat × Value)} (hm : aTm aT0 mem) (l_0 : zlg lo 0 = some (.ref 0)) (h1 : ¬ (gi mem 38 3).toInt = 0 → ∀ lo, zlg lo 0 = some (.ref 0) → aTm aT0 mem → yR zpg tX11_undo (d + 6) (16, lo, [], mem) P) (h2 : (gi mem 38 3).toInt = 0 → ∀ (y2 : Int32), y2.toInt = (gn (ga mem 220) 4) → aTm aT0 (sx mem 220 4 (y2 + 1)) → P (some (.int 0)) (sx mem 220 4 (y2 + 1))) : yR zpg tX11_undo (d + 6) (0, lo, [], mem) P := by
  refine wR_la rfl l_0 ?_
  refine wR_gr rfl cO_e cO_9 hm ?_
  refine wR_gi rfl rngO_e rngO_3 hm rfl ?_
  refine wR_if_ne rfl (a := (gi mem 38 3).toInt) rfl (fun q1 => ?_) (fun q1 => ?_)
  ·
    exact h1 q1 lo l_0 hm
  ·
    refine wR_la rfl l_0 ?_
    refine yR_m 1 (fun _ _ _ _ => rfl) ?_
    refine wR_iv rfl rfl cO_e hm rfl rfl rfl rfl ?_
    show yR zpg tX11_refused (d + 5) (0, [(0, .ref 0), (1, .int 4)], [], mem) _
    refine yR_m 1 (fun _ _ _ _ => rfl) ?_
    refine wR_gr rfl cO_e cO_14 hm ?_
    refine yR_m 2 (fun _ _ _ _ => rfl) ?_
    refine wN_al (a := 4) rfl aR_220 hm rfl rfl (by decide) (fun y2 e3 => ?_)
    refine yR_m 2 (fun _ _ _ _ => rfl) ?_
    refine wN_as (a := 4) rfl aR_220 hm rfl (by decide) ?_
    have hm_1 : aTm aT0 (sx mem 220 4 (y2 + 1)) := tm_sa aR_220 hm (i32_b _)
    refine yR_m 1 (fun _ _ _ _ => rfl) ?_
    refine yR_rz rfl ⟨by decide, by decide⟩ ?_
    show yR zpg tX11_undo (d + 6) (15, lo, [.int 0], (sx mem 220 4 (y2 + 1))) _
    exact yR_rz rfl ⟨by decide, by decide⟩ (h2 q1 y2 e3 hm_1)

set_option maxRecDepth 100000 in
theorem w_ud16 {d : Nat} {mem : zM} {P : Option Value → zM → Prop} {lo : List (Nat × Value)} (hm : aTm aT0 mem) (l_0 : zlg lo 0 = some (.ref 0)) {Q : Qd} {P0 : Pd} {hu : Int → Int} (hW : WQ Q) (hP : rgC Q hu P0 mem) (p1 : 1 ≤ P0.1) (h1 : ∀ (m1 : zM), aTm aT0 m1 → ((∀ k, ¬ (31 ≤ k ∧ k ≤ 38) → zat m1 k = zat mem k) ∧ tS 31 Q hu (P0.2 (P0.1 - 1)).1 m1 ∧ kC 34 (P0.2 (P0.1 - 1)).2 m1 ∧ rgC Q hu (P0.1 - 1, P0.2) m1) → aTm aT0 m1 → P (some (.int 1)) m1) : yR zpg tX11_undo (d + 6) (16, lo, [], mem) P := by
  refine wR_la rfl l_0 ?_
  refine wR_gr rfl cO_e cO_9 hm ?_
  refine wR_la rfl l_0 ?_
  refine wR_gr rfl cO_e cO_7 hm ?_
  refine wR_la rfl l_0 ?_
  refine wR_gr rfl cO_e cO_8 hm ?_
  refine wR_cv rfl rfl rngO_e hm rfl (h_po (Q := Q) (hu := hu) (P := P0) hm hW hP p1 (by omega)) ?_
  rintro _ m1 ⟨rfl, hm1, k2⟩
  show yR zpg tX11_undo (d + 6) (31, lo, [], m1) _
  refine yR_m 1 (fun _ _ _ _ => rfl) ?_
  exact yR_rz rfl ⟨by decide, by decide⟩ (h1 m1 hm1 k2 hm1)

theorem h_ud (hm : aTm aT0 mem) (hW : WQ Q) (hP : rgC Q hu P0 mem) (hd : 7 ≤ d) : yC zpg d 137 [.ref 0] mem (fun r m => aTm aT0 m ∧ ((1 ≤ P0.1 ∧ r = some (.int 1) ∧ (∀ k, ¬ (31 ≤ k ∧ k ≤ 38) → zat m k = zat mem k) ∧ tS 31 Q hu (P0.2 (P0.1 - 1)).1 m ∧ kC 34 (P0.2 (P0.1 - 1)).2 m ∧ rgC Q hu (P0.1 - 1, P0.2) m) ∨ (¬ 1 ≤ P0.1 ∧ r = some (.int 0) ∧ rfX 220 4 mem m))) := by
  obtain ⟨d, rfl⟩ : ∃ q, d = q + 7 := ⟨d - 7, by omega⟩
  have p0 := hP.1.1
  have p3 := hP.2.1.1
  refine yC_of (t := tX11_undo) rfl rfl ?_
  exact w_ud0 hm rfl (fun q1 lo a0 hm2 => w_ud16 (Q := Q) (P0 := P0) (hu := hu) hm2 a0 hW hP (by omega) (fun m1 hm1 k1 hm3 => ⟨hm3, Or.inl ⟨by omega, rfl, k1.1, k1.2.1, k1.2.2.1, k1.2.2.2⟩⟩)) (fun q1 y2 e2 hm2 => ⟨hm2, Or.inr ⟨by omega, rfl, rfX_k rfl rfl e2⟩⟩)
end ACA
section ACA
variable {d : Nat} {mem : zM} {Q : Qd} {S : Sd} {K : Kd} {P0 : Pd} {hu : Int → Int}
set_option maxRecDepth 100000 in
theorem w_hlA {d : Nat} {mem : zM} {P : Option Value → zM → Prop} {x y : Int32} (hm : aTm aT0 mem) (hc1 : (gi mem 2 1).toInt ≤ 7) (hc2 : (gi mem 2 2).toInt ≤ 7) (h1 : (x).toInt < 0 → aTm aT0 mem → P (some (.int 0)) mem) (h2 : 0 ≤ (x).toInt → (gi mem 2 1).toInt ≤ (x).toInt → aTm aT0 mem → P (some (.int 0)) mem) (h3 : 0 ≤ (x).toInt → (x).toInt < (gi mem 2 1).toInt → (y).toInt < 0 → aTm aT0 mem → P (some (.int 0)) mem) (h4 : 0 ≤ (x).toInt → (x).toInt < (gi mem 2 1).toInt → 0 ≤ (y).toInt → (gi mem 2 2).toInt ≤ (y).toInt → aTm aT0 mem → P (some (.int 0)) mem) (h5 : 0 ≤ (x).toInt → (x).toInt < (gi mem 2 1).toInt → 0 ≤ (y).toInt → (y).toInt < (gi mem 2 2).toInt → ∀ (x5 : Int32), x5.toInt = ((y).toInt * 8) → ∀ (x7 : Int32), x7.toInt = (((y).toInt * 8) + (x).toInt) → ¬ ((gL mem 2 6) &&& ((1 : Int64) <<< ((x7 : Int32).toInt64 &&& 63))) = 0 → aTm aT0 mem → P (some (.int 0)) mem) (h6 : 0 ≤ (x).toInt → (x).toInt < (gi mem 2 1).toInt → 0 ≤ (y).toInt → (y).toInt < (gi mem 2 2).toInt → ∀ (x5 : Int32), x5.toInt = ((y).toInt * 8) → ∀ (x7 : Int32), x7.toInt = (((y).toInt * 8) + (x).toInt) → ((gL mem 2 6) &&& ((1 : Int64) <<< ((x7 : Int32).toInt64 &&& 63))) = 0 → aTm aT0 mem → P (some (.int 1)) mem) : yR zpg tX4_hasFreeCell (d + 1) (0, [(0, .ref 2), (1, .int x), (2, .int y)], [], mem) P := by
  refine yR_m 3 (fun _ _ _ _ => rfl) ?_
  refine wR_iv rfl rfl quA_e hm rfl rfl rfl rfl ?_
  show yR zpg tX4_hasCell d (0, [(0, .ref 2), (1, .int x), (2, .int y)], [], mem) _
  refine yR_m 1 (fun _ _ _ _ => rfl) ?_
  refine wR_if_lt rfl (a := (x).toInt) rfl (fun q1 => ?_) (fun q1 => ?_)
  ·
    refine yR_m 1 (fun _ _ _ _ => rfl) ?_
    refine yR_rz rfl ⟨by decide, by decide⟩ ?_
    show yR zpg tX4_hasFreeCell (d + 1) (6, [(0, .ref 2), (1, .int x), (2, .int y)], [.int 0], mem) _
    refine wR_if_eq rfl (a := 0) rfl (fun _ => ?_) (fun q => by exfalso; omega)
    refine yR_m 1 (fun _ _ _ _ => rfl) ?_
    exact yR_rz rfl ⟨by decide, by decide⟩ (h1 q1 hm)
  ·
    refine yR_m 2 (fun _ _ _ _ => rfl) ?_
    refine wR_gi rfl quA_e quA_1 hm rfl ?_
    refine wR_ic_ge rfl (a := (x).toInt) (c := (gi mem 2 1).toInt) rfl rfl (fun q2 => ?_) (fun q2 => ?_)
    ·
      refine yR_m 1 (fun _ _ _ _ => rfl) ?_
      refine yR_rz rfl ⟨by decide, by decide⟩ ?_
      show yR zpg tX4_hasFreeCell (d + 1) (6, [(0, .ref 2), (1, .int x), (2, .int y)], [.int 0], mem) _
      refine wR_if_eq rfl (a := 0) rfl (fun _ => ?_) (fun q => by exfalso; omega)
      refine yR_m 1 (fun _ _ _ _ => rfl) ?_
      exact yR_rz rfl ⟨by decide, by decide⟩ (h2 q1 q2 hm)
    ·
      refine yR_m 1 (fun _ _ _ _ => rfl) ?_
      refine wR_if_lt rfl (a := (y).toInt) rfl (fun q3 => ?_) (fun q3 => ?_)
      ·
        refine yR_m 1 (fun _ _ _ _ => rfl) ?_
        refine yR_rz rfl ⟨by decide, by decide⟩ ?_
        show yR zpg tX4_hasFreeCell (d + 1) (6, [(0, .ref 2), (1, .int x), (2, .int y)], [.int 0], mem) _
        refine wR_if_eq rfl (a := 0) rfl (fun _ => ?_) (fun q => by exfalso; omega)
        refine yR_m 1 (fun _ _ _ _ => rfl) ?_
        exact yR_rz rfl ⟨by decide, by decide⟩ (h3 q1 q2 q3 hm)
      ·
        refine yR_m 2 (fun _ _ _ _ => rfl) ?_
        refine wR_gi rfl quA_e quA_2 hm rfl ?_
        refine wR_ic_ge rfl (a := (y).toInt) (c := (gi mem 2 2).toInt) rfl rfl (fun q4 => ?_) (fun q4 => ?_)
        ·
          refine yR_m 1 (fun _ _ _ _ => rfl) ?_
          refine yR_rz rfl ⟨by decide, by decide⟩ ?_
          show yR zpg tX4_hasFreeCell (d + 1) (6, [(0, .ref 2), (1, .int x), (2, .int y)], [.int 0], mem) _
          refine wR_if_eq rfl (a := 0) rfl (fun _ => ?_) (fun q => by exfalso; omega)
          refine yR_m 1 (fun _ _ _ _ => rfl) ?_
          exact yR_rz rfl ⟨by decide, by decide⟩ (h4 q1 q2 q3 q4 hm)
        ·
          refine yR_m 2 (fun _ _ _ _ => rfl) ?_
          refine yR_rz rfl ⟨by decide, by decide⟩ ?_
          show yR zpg tX4_hasFreeCell (d + 1) (6, [(0, .ref 2), (1, .int x), (2, .int y)], [.int 1], mem) _
          refine wR_if_eq rfl (a := 1) rfl (fun q => by exfalso; omega) (fun _ => ?_)
          refine yR_m 1 (fun _ _ _ _ => rfl) ?_
          refine wR_gL rfl quA_e quA_6 hm rfl ?_
          refine yR_m 2 (fun _ _ _ _ => rfl) ?_
          refine wR_is rfl rfl rfl rfl rfl rfl ?_
          show yR zpg tX11_placeOf d (0, [(0, .int x), (1, .int y)], [], mem) _
          refine yR_m 2 (fun _ _ _ _ => rfl) ?_
          refine wN_mul (a := (y).toInt) (b := 8) rfl rfl rfl (by omega) (fun x5 e6 => ?_)
          refine yR_m 1 (fun _ _ _ _ => rfl) ?_
          refine wN_add (a := ((y).toInt * 8)) (b := (x).toInt) rfl e6 rfl (by omega) (fun x7 e8 => ?_)
          refine yR_ri rfl ?_
          show yR zpg tX4_hasFreeCell (d + 1) (18, [(0, .ref 2), (1, .int x), (2, .int y)], [.int x7, .long (gL mem 2 6)], mem) _
          refine wR_is rfl rfl rfl rfl rfl rfl ?_
          show yR zpg tX11_bitOf d (0, [(0, .int x7)], [], mem) _
          refine yR_m 3 (fun _ _ _ _ => rfl) ?_
          refine yR_rl rfl ?_
          show yR zpg tX4_hasFreeCell (d + 1) (21, [(0, .ref 2), (1, .int x), (2, .int y)], [.long ((1 : Int64) <<< ((x7 : Int32).toInt64 &&& 63)), .long (gL mem 2 6)], mem) _
          refine yR_m 3 (fun _ _ _ _ => rfl) ?_
          refine wR_lf_ne rfl (fun q9 => ?_) (fun q9 => ?_)
          ·
            refine yR_m 1 (fun _ _ _ _ => rfl) ?_
            exact yR_rz rfl ⟨by decide, by decide⟩ (h5 q1 q2 q3 q4 x5 e6 x7 e8 q9 hm)
          ·
            refine yR_m 2 (fun _ _ _ _ => rfl) ?_
            exact yR_rz rfl ⟨by decide, by decide⟩ (h6 q1 q2 q3 q4 x5 e6 x7 e8 q9 hm)

theorem h_hlA {x y : Int32} (hW : WQ Q) (hm : aTm aT0 mem) (hQ : cQ 2 3 4 7 8 9 12 13 Q mem) (hd : 2 ≤ d) : yC zpg d 51 [.ref 2, .int x, .int y] mem (fun r m => ∃ v : Int32, r = some (.int v) ∧ mem = m ∧ ((v.toInt = 1 ∧ frL Q x.toInt y.toInt) ∨ (v.toInt = 0 ∧ ¬ frL Q x.toInt y.toInt))) := by
  obtain ⟨d, rfl⟩ : ∃ q, d = q + 2 := ⟨d - 2, by omega⟩
  have c1 := hQ.1.1
  have c2 := hQ.1.2
  have hb := hW.1
  refine yC_of (t := tX4_hasFreeCell) rfl rfl ?_
  exact w_hlA hm (by omega) (by omega) 
        (fun q1 hm2 => ⟨0, rfl, rfl, Or.inr ⟨rfl, fun w => by have w1 := w.1; have w2 := w.2.1; have w3 := w.2.2.1; omega⟩⟩)
        (fun q1 q2 hm2 => ⟨0, rfl, rfl, Or.inr ⟨rfl, fun w => by have w1 := w.1; have w2 := w.2.1; have w3 := w.2.2.1; omega⟩⟩)
        (fun q1 q2 q3 hm2 => ⟨0, rfl, rfl, Or.inr ⟨rfl, fun w => by have w1 := w.1; have w2 := w.2.1; have w3 := w.2.2.1; omega⟩⟩)
        (fun q1 q2 q3 q4 hm2 => ⟨0, rfl, rfl, Or.inr ⟨rfl, fun w => by have w1 := w.1; have w2 := w.2.1; have w3 := w.2.2.1; omega⟩⟩)
        (fun q1 q2 q3 q4 x5 e6 x7 e8 q9 hm2 => by
          have K := bL_and (y := gL mem 2 6) (k := x7) (by omega) (by omega)
          have K2 := hQ.2.1 x7.toInt (by omega) (by omega)
          have e : 8 * y.toInt + x.toInt = x7.toInt := by omega
          exact ⟨0, rfl, rfl, Or.inr ⟨rfl, fun w => q9 (K.2 (fun z => w.2.2.2 (by rw [e]; exact K2.1 z)))⟩⟩)
        (fun q1 q2 q3 q4 x5 e6 x7 e8 q9 hm2 => by
          have K := bL_and (y := gL mem 2 6) (k := x7) (by omega) (by omega)
          have K2 := hQ.2.1 x7.toInt (by omega) (by omega)
          have e : 8 * y.toInt + x.toInt = x7.toInt := by omega
          exact ⟨1, rfl, rfl, Or.inl ⟨rfl, ⟨by omega, by omega⟩, by omega, by omega, fun z => K.1 q9 (K2.2 (by rw [← e]; exact z))⟩⟩)
set_option maxRecDepth 100000 in
theorem w_ni0A {d : Nat} {mem : zM} {P : Option Value → zM → Prop} {n : Int32} {lo : List (Nat × Value)} (hm : aTm aT0 mem) (l_0 : zlg lo 0 = some (.ref 0)) (l_1 : zlg lo 1 = some (.int n)) {Q : Qd} {S : Sd} {K : Kd} {P0 : Pd} {hu : Int → Int} (hW : WQ Q) (hS : tS 31 Q hu S mem) (hK : kC 34 K mem) (hP : rgC Q hu P0 mem) (hq4 : zfl mem 0 4 = some (.ref 2)) (hC : cQ 2 3 4 7 8 9 12 13 Q mem) (hv : wS Q S) (h1 : (n).toInt < 1 → ∀ (y2 : Int32), y2.toInt = (gn (ga mem 220) 2) → aTm aT0 (sx mem 220 2 (y2 + 1)) → P (some (.int (-1))) (sx mem 220 2 (y2 + 1))) (h2 : 1 ≤ (n).toInt → (gi mem 2 1).toInt ≤ 0 → ∀ (y5 : Int32), y5.toInt = (gn (ga mem 220) 2) → aTm aT0 (sx mem 220 2 (y5 + 1)) → P (some (.int (-1))) (sx mem 220 2 (y5 + 1))) (h3 : 1 ≤ (n).toInt → 0 < (gi mem 2 1).toInt → 40 < (n).toInt → ∀ (y8 : Int32), y8.toInt = (gn (ga mem 220) 2) → aTm aT0 (sx mem 220 2 (y8 + 1)) → P (some (.int (-1))) (sx mem 220 2 (y8 + 1))) (h4 : 1 ≤ (n).toInt → 0 < (gi mem 2 1).toInt → (n).toInt ≤ 40 → ∀ (x10 : Int32), x10.toInt = ((gi mem 31 0).toInt + (n).toInt) → 999 < ((gi mem 31 0).toInt + (n).toInt) → ∀ (y13 : Int32), y13.toInt = (gn (ga mem 220) 2) → aTm aT0 (sx mem 220 2 (y13 + 1)) → P (some (.int (-1))) (sx mem 220 2 (y13 + 1))) (h5 : 1 ≤ (n).toInt → 0 < (gi mem 2 1).toInt → (n).toInt ≤ 40 → ∀ (x10 : Int32), x10.toInt = ((gi mem 31 0).toInt + (n).toInt) → ((gi mem 31 0).toInt + (n).toInt) ≤ 999 → ∀ (m15 : zM), aTm aT0 m15 → ((∀ k, ¬ (41 ≤ k ∧ k ≤ 180) → ¬ k = 38 → zat m15 k = zat mem k) ∧ rgC Q hu (pdN P0 (S, K)) m15) → ∀ lo, zlg lo 0 = some (.ref 0) → zlg lo 1 = some (.int n) → zlg lo 2 = some (.int 0) → zlg lo 3 = some (.int 0) → aTm aT0 m15 → yR zpg tX11_nights (d + 14) (40, lo, [], m15) P) : yR zpg tX11_nights (d + 14) (0, lo, [], mem) P := by
  have v1 := hS.1.1
  have v2 := hv.1
  refine wR_li rfl l_1 ?_
  refine yR_m 1 (fun _ _ _ _ => rfl) ?_
  refine wR_ic_lt rfl (a := (n).toInt) (c := 1) rfl rfl (fun q1 => ?_) (fun q1 => ?_)
  ·
    refine wR_la rfl l_0 ?_
    refine yR_m 1 (fun _ _ _ _ => rfl) ?_
    refine wR_iv rfl rfl cO_e hm rfl rfl rfl rfl ?_
    show yR zpg tX11_refuse (d + 13) (0, [(0, .ref 0), (1, .int 2)], [], mem) _
    refine yR_m 1 (fun _ _ _ _ => rfl) ?_
    refine wR_gr rfl cO_e cO_14 hm ?_
    refine yR_m 2 (fun _ _ _ _ => rfl) ?_
    refine wN_al (a := 2) rfl aR_220 hm rfl rfl (by decide) (fun y2 e3 => ?_)
    refine yR_m 2 (fun _ _ _ _ => rfl) ?_
    refine wN_as (a := 2) rfl aR_220 hm rfl (by decide) ?_
    have hm_1 : aTm aT0 (sx mem 220 2 (y2 + 1)) := tm_sa aR_220 hm (i32_b _)
    refine yR_m 1 (fun _ _ _ _ => rfl) ?_
    refine yR_ri rfl ?_
    show yR zpg tX11_nights (d + 14) (20, lo, [.int (-1)], (sx mem 220 2 (y2 + 1))) _
    exact yR_ri rfl (h1 q1 y2 e3 hm_1)
  ·
    refine wR_la rfl l_0 ?_
    refine wR_li rfl l_1 ?_
    refine yR_m 1 (fun _ _ _ _ => rfl) ?_
    refine wR_iv rfl rfl cO_e hm rfl rfl rfl rfl ?_
    show yR zpg tX11_comes (d + 13) (0, [(0, .ref 0), (1, .int n), (2, .int 40)], [], mem) _
    refine yR_m 1 (fun _ _ _ _ => rfl) ?_
    refine wR_gq rfl cO_e hm hq4 ?_
    refine wR_gi rfl quA_e quA_1 hm rfl ?_
    refine wR_if_le rfl (a := (gi mem 2 1).toInt) rfl (fun q4 => ?_) (fun q4 => ?_)
    ·
      refine yR_m 1 (fun _ _ _ _ => rfl) ?_
      refine yR_rz rfl ⟨by decide, by decide⟩ ?_
      show yR zpg tX11_nights (d + 14) (12, lo, [.int 0], mem) _
      refine wR_if_ne rfl (a := 0) rfl (fun q => by exfalso; omega) (fun _ => ?_)
      refine wR_la rfl l_0 ?_
      refine yR_m 1 (fun _ _ _ _ => rfl) ?_
      refine wR_iv rfl rfl cO_e hm rfl rfl rfl rfl ?_
      show yR zpg tX11_refuse (d + 13) (0, [(0, .ref 0), (1, .int 2)], [], mem) _
      refine yR_m 1 (fun _ _ _ _ => rfl) ?_
      refine wR_gr rfl cO_e cO_14 hm ?_
      refine yR_m 2 (fun _ _ _ _ => rfl) ?_
      refine wN_al (a := 2) rfl aR_220 hm rfl rfl (by decide) (fun y5 e6 => ?_)
      refine yR_m 2 (fun _ _ _ _ => rfl) ?_
      refine wN_as (a := 2) rfl aR_220 hm rfl (by decide) ?_
      have hm_2 : aTm aT0 (sx mem 220 2 (y5 + 1)) := tm_sa aR_220 hm (i32_b _)
      refine yR_m 1 (fun _ _ _ _ => rfl) ?_
      refine yR_ri rfl ?_
      show yR zpg tX11_nights (d + 14) (20, lo, [.int (-1)], (sx mem 220 2 (y5 + 1))) _
      exact yR_ri rfl (h2 q1 q4 y5 e6 hm_2)
    ·
      refine yR_m 1 (fun _ _ _ _ => rfl) ?_
      refine wR_if_lt rfl (a := (n).toInt) rfl (fun q => by exfalso; omega) (fun _ => ?_)
      refine yR_m 2 (fun _ _ _ _ => rfl) ?_
      refine wR_ic_gt rfl (a := (n).toInt) (c := 40) rfl rfl (fun q7 => ?_) (fun q7 => ?_)
      ·
        refine yR_m 1 (fun _ _ _ _ => rfl) ?_
        refine yR_rz rfl ⟨by decide, by decide⟩ ?_
        show yR zpg tX11_nights (d + 14) (12, lo, [.int 0], mem) _
        refine wR_if_ne rfl (a := 0) rfl (fun q => by exfalso; omega) (fun _ => ?_)
        refine wR_la rfl l_0 ?_
        refine yR_m 1 (fun _ _ _ _ => rfl) ?_
        refine wR_iv rfl rfl cO_e hm rfl rfl rfl rfl ?_
        show yR zpg tX11_refuse (d + 13) (0, [(0, .ref 0), (1, .int 2)], [], mem) _
        refine yR_m 1 (fun _ _ _ _ => rfl) ?_
        refine wR_gr rfl cO_e cO_14 hm ?_
        refine yR_m 2 (fun _ _ _ _ => rfl) ?_
        refine wN_al (a := 2) rfl aR_220 hm rfl rfl (by decide) (fun y8 e9 => ?_)
        refine yR_m 2 (fun _ _ _ _ => rfl) ?_
        refine wN_as (a := 2) rfl aR_220 hm rfl (by decide) ?_
        have hm_3 : aTm aT0 (sx mem 220 2 (y8 + 1)) := tm_sa aR_220 hm (i32_b _)
        refine yR_m 1 (fun _ _ _ _ => rfl) ?_
        refine yR_ri rfl ?_
        show yR zpg tX11_nights (d + 14) (20, lo, [.int (-1)], (sx mem 220 2 (y8 + 1))) _
        exact yR_ri rfl (h3 q1 q4 q7 y8 e9 hm_3)
      ·
        refine yR_m 1 (fun _ _ _ _ => rfl) ?_
        refine wR_gr rfl cO_e cO_7 hm ?_
        refine wR_gi rfl nO_e nO_0 hm rfl ?_
        refine yR_m 1 (fun _ _ _ _ => rfl) ?_
        refine wN_add (a := (gi mem 31 0).toInt) (b := (n).toInt) rfl rfl rfl (by omega) (fun x10 e11 => ?_)
        refine yR_m 1 (fun _ _ _ _ => rfl) ?_
        refine wR_ic_gt rfl (a := ((gi mem 31 0).toInt + (n).toInt)) (c := 999) e11 rfl (fun q12 => ?_) (fun q12 => ?_)
        ·
          refine yR_m 1 (fun _ _ _ _ => rfl) ?_
          refine yR_rz rfl ⟨by decide, by decide⟩ ?_
          show yR zpg tX11_nights (d + 14) (12, lo, [.int 0], mem) _
          refine wR_if_ne rfl (a := 0) rfl (fun q => by exfalso; omega) (fun _ => ?_)
          refine wR_la rfl l_0 ?_
          refine yR_m 1 (fun _ _ _ _ => rfl) ?_
          refine wR_iv rfl rfl cO_e hm rfl rfl rfl rfl ?_
          show yR zpg tX11_refuse (d + 13) (0, [(0, .ref 0), (1, .int 2)], [], mem) _
          refine yR_m 1 (fun _ _ _ _ => rfl) ?_
          refine wR_gr rfl cO_e cO_14 hm ?_
          refine yR_m 2 (fun _ _ _ _ => rfl) ?_
          refine wN_al (a := 2) rfl aR_220 hm rfl rfl (by decide) (fun y13 e14 => ?_)
          refine yR_m 2 (fun _ _ _ _ => rfl) ?_
          refine wN_as (a := 2) rfl aR_220 hm rfl (by decide) ?_
          have hm_4 : aTm aT0 (sx mem 220 2 (y13 + 1)) := tm_sa aR_220 hm (i32_b _)
          refine yR_m 1 (fun _ _ _ _ => rfl) ?_
          refine yR_ri rfl ?_
          show yR zpg tX11_nights (d + 14) (20, lo, [.int (-1)], (sx mem 220 2 (y13 + 1))) _
          exact yR_ri rfl (h4 q1 q4 q7 x10 e11 q12 y13 e14 hm_4)
        ·
          refine yR_m 2 (fun _ _ _ _ => rfl) ?_
          refine yR_rz rfl ⟨by decide, by decide⟩ ?_
          show yR zpg tX11_nights (d + 14) (12, lo, [.int 1], mem) _
          refine wR_if_ne rfl (a := 1) rfl (fun _ => ?_) (fun q => by exfalso; omega)
          refine wR_la rfl l_0 ?_
          refine wR_gr rfl cO_e cO_9 hm ?_
          refine wR_la rfl l_0 ?_
          refine wR_gr rfl cO_e cO_7 hm ?_
          refine wR_la rfl l_0 ?_
          refine wR_gr rfl cO_e cO_8 hm ?_
          refine wR_cv rfl rfl rngO_e hm rfl (h_pu (Q := Q) (hu := hu) (S := S) (K := K) (P := P0) hm hW hS hK hP (by omega)) ?_
          rintro _ m15 ⟨rfl, hm15, k16⟩
          show yR zpg tX11_nights (d + 14) (36, lo, [], m15) _
          refine yR_m 1 (fun _ _ _ _ => rfl) ?_
          refine wR_si rfl rfl (fun lo17 e18 f19 => ?_)
          have lo17_0 := f19 0 _ (by decide) (Or.inl rfl) l_0
          have lo17_1 := f19 1 _ (by decide) (Or.inl rfl) l_1
          refine yR_m 1 (fun _ _ _ _ => rfl) ?_
          refine wR_si rfl rfl (fun lo20 e21 f22 => ?_)
          have lo20_2 := f22 2 _ (by decide) (Or.inl rfl) e18
          have lo20_0 := f22 0 _ (by decide) (Or.inl rfl) lo17_0
          have lo20_1 := f22 1 _ (by decide) (Or.inl rfl) lo17_1
          exact h5 q1 q4 q7 x10 e11 q12 m15 hm15 k16 lo20 lo20_0 lo20_1 lo20_2 e21 hm15

set_option maxRecDepth 100000 in
theorem w_ni40A {d : Nat} {mem : zM} {P : Option Value → zM → Prop} {n fo k : Int32} {lo : List (Nat × Value)} (hm : aTm aT0 mem) (l_0 : zlg lo 0 = some (.ref 0)) (l_1 : zlg lo 1 = some (.int n)) (l_2 : zlg lo 2 = some (.int fo)) (l_3 : zlg lo 3 = some (.int k)) {Q : Qd} {S : Sd} {K : Kd} {hu : Int → Int} (hp : zfl mem 181 0 = some (.ref 2)) (hq4 : zfl mem 0 4 = some (.ref 2)) (hC : cQ 2 3 4 7 8 9 12 13 Q mem) (hW : WQ Q) (hS : tS 31 Q hu S mem) (hv : wS Q S) (hH : wH Q hu) (hn : (k).toInt < (n).toInt → Sn S < 999) (hK : kC 34 K mem) (hf : 0 ≤ fo.toInt ∧ fo.toInt ≤ 400) (hk : 0 ≤ k.toInt ∧ k.toInt ≤ 40) (n40 : n.toInt ≤ 40) (h1 : (n).toInt ≤ (k).toInt → aTm aT0 mem → P (some (.int fo)) mem) (s1 : (k).toInt < (n).toInt → ∀ (v4 : Int32) (m2 : zM), aTm aT0 m2 → ((∀ k, ¬ (31 ≤ k ∧ k ≤ 37) → ¬ (181 ≤ k ∧ k ≤ 184) → zat m2 k = zat mem k) ∧ zfl m2 181 0 = some (.ref 2) ∧ tS 31 Q hu (tkS Q hu ((-1) : Int32).toInt S) m2 ∧ kC 34 (tkK Q hu ((-1) : Int32).toInt S K) m2 ∧ v4.toInt = fdN Q hu ((-1) : Int32).toInt S) → (-2147483648 : Int) ≤ ((fo).toInt + (v4).toInt) ∧ ((fo).toInt + (v4).toInt) ≤ 2147483647) (h2 : (k).toInt < (n).toInt → ∀ (v4 : Int32) (m2 : zM), aTm aT0 m2 → ((∀ k, ¬ (31 ≤ k ∧ k ≤ 37) → ¬ (181 ≤ k ∧ k ≤ 184) → zat m2 k = zat mem k) ∧ zfl m2 181 0 = some (.ref 2) ∧ tS 31 Q hu (tkS Q hu ((-1) : Int32).toInt S) m2 ∧ kC 34 (tkK Q hu ((-1) : Int32).toInt S K) m2 ∧ v4.toInt = fdN Q hu ((-1) : Int32).toInt S) → ∀ (x5 : Int32), x5.toInt = ((fo).toInt + (v4).toInt) → ∀ (x10 : Int32), x10.toInt = ((k).toInt + 1) → ∀ lo, zlg lo 0 = some (.ref 0) → zlg lo 1 = some (.int n) → zlg lo 2 = some (.int x5) → zlg lo 3 = some (.int x10) → aTm aT0 m2 → yR zpg tX11_nights (d + 14) (40, lo, [], m2) P) : yR zpg tX11_nights (d + 14) (40, lo, [], mem) P := by
  refine wR_li rfl l_3 ?_
  refine wR_li rfl l_1 ?_
  refine wR_ic_ge rfl (a := (k).toInt) (c := (n).toInt) rfl rfl (fun q1 => ?_) (fun q1 => ?_)
  ·
    refine wR_li rfl l_2 ?_
    exact yR_ri rfl (h1 q1 hm)
  ·
    refine wR_li rfl l_2 ?_
    refine wR_la rfl l_0 ?_
    refine yR_m 1 (fun _ _ _ _ => rfl) ?_
    refine wR_cv rfl rfl cO_e hm rfl (h_pkA (Q := Q) (S := S) (K := K) (hu := hu) hm hq4 hp hC hW hS hv hH (hn q1) hK (by omega)) ?_
    rintro _ m2 ⟨v4, rfl, hm2, k3⟩
    show yR zpg tX11_nights (d + 14) (51, lo, [.int v4, .int fo], m2) _
    refine wN_add (a := (fo).toInt) (b := (v4).toInt) rfl rfl rfl (s1 q1 v4 m2 hm2 k3) (fun x5 e6 => ?_)
    refine wR_si rfl rfl (fun lo7 e8 f9 => ?_)
    have lo7_0 := f9 0 _ (by decide) (Or.inl rfl) l_0
    have lo7_1 := f9 1 _ (by decide) (Or.inl rfl) l_1
    have lo7_3 := f9 3 _ (by decide) (Or.inl rfl) l_3
    refine wN_in (a := (k).toInt) (b := 1) rfl rfl lo7_3 rfl rfl (by omega) (fun x10 e11 => fun lo12 e13 f14 => ?_)
    have lo12_2 := f14 2 _ (by decide) (Or.inl rfl) e8
    have lo12_0 := f14 0 _ (by decide) (Or.inl rfl) lo7_0
    have lo12_1 := f14 1 _ (by decide) (Or.inl rfl) lo7_1
    exact yR_m 1 (fun _ _ _ _ => rfl) (h2 q1 v4 m2 hm2 k3 x5 e6 x10 e11 lo12 lo12_0 lo12_1 lo12_2 e13 hm2)

set_option maxRecDepth 100000 in
theorem w_ch0A {d : Nat} {mem : zM} {P : Option Value → zM → Prop} {n : Int32} {lo : List (Nat × Value)} (hm : aTm aT0 mem) (l_0 : zlg lo 0 = some (.ref 0)) (l_1 : zlg lo 1 = some (.int n)) {Q : Qd} {S : Sd} {K : Kd} {P0 : Pd} {hu : Int → Int} (hW : WQ Q) (hS : tS 31 Q hu S mem) (hK : kC 34 K mem) (hP : rgC Q hu P0 mem) (hq4 : zfl mem 0 4 = some (.ref 2)) (hC : cQ 2 3 4 7 8 9 12 13 Q mem) (hv : wS Q S) (h1 : (n).toInt < 1 → ∀ (y2 : Int32), y2.toInt = (gn (ga mem 220) 2) → aTm aT0 (sx mem 220 2 (y2 + 1)) → P (some (.int (-1))) (sx mem 220 2 (y2 + 1))) (h2 : 1 ≤ (n).toInt → (gi mem 2 1).toInt ≤ 0 → ∀ (y5 : Int32), y5.toInt = (gn (ga mem 220) 2) → aTm aT0 (sx mem 220 2 (y5 + 1)) → P (some (.int (-1))) (sx mem 220 2 (y5 + 1))) (h3 : 1 ≤ (n).toInt → 0 < (gi mem 2 1).toInt → 40 < (n).toInt → ∀ (y8 : Int32), y8.toInt = (gn (ga mem 220) 2) → aTm aT0 (sx mem 220 2 (y8 + 1)) → P (some (.int (-1))) (sx mem 220 2 (y8 + 1))) (h4 : 1 ≤ (n).toInt → 0 < (gi mem 2 1).toInt → (n).toInt ≤ 40 → ∀ (x10 : Int32), x10.toInt = ((gi mem 31 0).toInt + (n).toInt) → 999 < ((gi mem 31 0).toInt + (n).toInt) → ∀ (y13 : Int32), y13.toInt = (gn (ga mem 220) 2) → aTm aT0 (sx mem 220 2 (y13 + 1)) → P (some (.int (-1))) (sx mem 220 2 (y13 + 1))) (h5 : 1 ≤ (n).toInt → 0 < (gi mem 2 1).toInt → (n).toInt ≤ 40 → ∀ (x10 : Int32), x10.toInt = ((gi mem 31 0).toInt + (n).toInt) → ((gi mem 31 0).toInt + (n).toInt) ≤ 999 → ∀ (m15 : zM), aTm aT0 m15 → ((∀ k, ¬ (41 ≤ k ∧ k ≤ 180) → ¬ k = 38 → zat m15 k = zat mem k) ∧ rgC Q hu (pdN P0 (S, K)) m15) → ∀ lo, zlg lo 0 = some (.ref 0) → zlg lo 1 = some (.int n) → zlg lo 2 = some (.int 0) → zlg lo 3 = some (.int 0) → aTm aT0 m15 → yR zpg tX11_chance (d + 14) (40, lo, [], m15) P) : yR zpg tX11_chance (d + 14) (0, lo, [], mem) P := by
  have v1 := hS.1.1
  have v2 := hv.1
  refine wR_li rfl l_1 ?_
  refine yR_m 1 (fun _ _ _ _ => rfl) ?_
  refine wR_ic_lt rfl (a := (n).toInt) (c := 1) rfl rfl (fun q1 => ?_) (fun q1 => ?_)
  ·
    refine wR_la rfl l_0 ?_
    refine yR_m 1 (fun _ _ _ _ => rfl) ?_
    refine wR_iv rfl rfl cO_e hm rfl rfl rfl rfl ?_
    show yR zpg tX11_refuse (d + 13) (0, [(0, .ref 0), (1, .int 2)], [], mem) _
    refine yR_m 1 (fun _ _ _ _ => rfl) ?_
    refine wR_gr rfl cO_e cO_14 hm ?_
    refine yR_m 2 (fun _ _ _ _ => rfl) ?_
    refine wN_al (a := 2) rfl aR_220 hm rfl rfl (by decide) (fun y2 e3 => ?_)
    refine yR_m 2 (fun _ _ _ _ => rfl) ?_
    refine wN_as (a := 2) rfl aR_220 hm rfl (by decide) ?_
    have hm_1 : aTm aT0 (sx mem 220 2 (y2 + 1)) := tm_sa aR_220 hm (i32_b _)
    refine yR_m 1 (fun _ _ _ _ => rfl) ?_
    refine yR_ri rfl ?_
    show yR zpg tX11_chance (d + 14) (20, lo, [.int (-1)], (sx mem 220 2 (y2 + 1))) _
    exact yR_ri rfl (h1 q1 y2 e3 hm_1)
  ·
    refine wR_la rfl l_0 ?_
    refine wR_li rfl l_1 ?_
    refine yR_m 1 (fun _ _ _ _ => rfl) ?_
    refine wR_iv rfl rfl cO_e hm rfl rfl rfl rfl ?_
    show yR zpg tX11_comes (d + 13) (0, [(0, .ref 0), (1, .int n), (2, .int 40)], [], mem) _
    refine yR_m 1 (fun _ _ _ _ => rfl) ?_
    refine wR_gq rfl cO_e hm hq4 ?_
    refine wR_gi rfl quA_e quA_1 hm rfl ?_
    refine wR_if_le rfl (a := (gi mem 2 1).toInt) rfl (fun q4 => ?_) (fun q4 => ?_)
    ·
      refine yR_m 1 (fun _ _ _ _ => rfl) ?_
      refine yR_rz rfl ⟨by decide, by decide⟩ ?_
      show yR zpg tX11_chance (d + 14) (12, lo, [.int 0], mem) _
      refine wR_if_ne rfl (a := 0) rfl (fun q => by exfalso; omega) (fun _ => ?_)
      refine wR_la rfl l_0 ?_
      refine yR_m 1 (fun _ _ _ _ => rfl) ?_
      refine wR_iv rfl rfl cO_e hm rfl rfl rfl rfl ?_
      show yR zpg tX11_refuse (d + 13) (0, [(0, .ref 0), (1, .int 2)], [], mem) _
      refine yR_m 1 (fun _ _ _ _ => rfl) ?_
      refine wR_gr rfl cO_e cO_14 hm ?_
      refine yR_m 2 (fun _ _ _ _ => rfl) ?_
      refine wN_al (a := 2) rfl aR_220 hm rfl rfl (by decide) (fun y5 e6 => ?_)
      refine yR_m 2 (fun _ _ _ _ => rfl) ?_
      refine wN_as (a := 2) rfl aR_220 hm rfl (by decide) ?_
      have hm_2 : aTm aT0 (sx mem 220 2 (y5 + 1)) := tm_sa aR_220 hm (i32_b _)
      refine yR_m 1 (fun _ _ _ _ => rfl) ?_
      refine yR_ri rfl ?_
      show yR zpg tX11_chance (d + 14) (20, lo, [.int (-1)], (sx mem 220 2 (y5 + 1))) _
      exact yR_ri rfl (h2 q1 q4 y5 e6 hm_2)
    ·
      refine yR_m 1 (fun _ _ _ _ => rfl) ?_
      refine wR_if_lt rfl (a := (n).toInt) rfl (fun q => by exfalso; omega) (fun _ => ?_)
      refine yR_m 2 (fun _ _ _ _ => rfl) ?_
      refine wR_ic_gt rfl (a := (n).toInt) (c := 40) rfl rfl (fun q7 => ?_) (fun q7 => ?_)
      ·
        refine yR_m 1 (fun _ _ _ _ => rfl) ?_
        refine yR_rz rfl ⟨by decide, by decide⟩ ?_
        show yR zpg tX11_chance (d + 14) (12, lo, [.int 0], mem) _
        refine wR_if_ne rfl (a := 0) rfl (fun q => by exfalso; omega) (fun _ => ?_)
        refine wR_la rfl l_0 ?_
        refine yR_m 1 (fun _ _ _ _ => rfl) ?_
        refine wR_iv rfl rfl cO_e hm rfl rfl rfl rfl ?_
        show yR zpg tX11_refuse (d + 13) (0, [(0, .ref 0), (1, .int 2)], [], mem) _
        refine yR_m 1 (fun _ _ _ _ => rfl) ?_
        refine wR_gr rfl cO_e cO_14 hm ?_
        refine yR_m 2 (fun _ _ _ _ => rfl) ?_
        refine wN_al (a := 2) rfl aR_220 hm rfl rfl (by decide) (fun y8 e9 => ?_)
        refine yR_m 2 (fun _ _ _ _ => rfl) ?_
        refine wN_as (a := 2) rfl aR_220 hm rfl (by decide) ?_
        have hm_3 : aTm aT0 (sx mem 220 2 (y8 + 1)) := tm_sa aR_220 hm (i32_b _)
        refine yR_m 1 (fun _ _ _ _ => rfl) ?_
        refine yR_ri rfl ?_
        show yR zpg tX11_chance (d + 14) (20, lo, [.int (-1)], (sx mem 220 2 (y8 + 1))) _
        exact yR_ri rfl (h3 q1 q4 q7 y8 e9 hm_3)
      ·
        refine yR_m 1 (fun _ _ _ _ => rfl) ?_
        refine wR_gr rfl cO_e cO_7 hm ?_
        refine wR_gi rfl nO_e nO_0 hm rfl ?_
        refine yR_m 1 (fun _ _ _ _ => rfl) ?_
        refine wN_add (a := (gi mem 31 0).toInt) (b := (n).toInt) rfl rfl rfl (by omega) (fun x10 e11 => ?_)
        refine yR_m 1 (fun _ _ _ _ => rfl) ?_
        refine wR_ic_gt rfl (a := ((gi mem 31 0).toInt + (n).toInt)) (c := 999) e11 rfl (fun q12 => ?_) (fun q12 => ?_)
        ·
          refine yR_m 1 (fun _ _ _ _ => rfl) ?_
          refine yR_rz rfl ⟨by decide, by decide⟩ ?_
          show yR zpg tX11_chance (d + 14) (12, lo, [.int 0], mem) _
          refine wR_if_ne rfl (a := 0) rfl (fun q => by exfalso; omega) (fun _ => ?_)
          refine wR_la rfl l_0 ?_
          refine yR_m 1 (fun _ _ _ _ => rfl) ?_
          refine wR_iv rfl rfl cO_e hm rfl rfl rfl rfl ?_
          show yR zpg tX11_refuse (d + 13) (0, [(0, .ref 0), (1, .int 2)], [], mem) _
          refine yR_m 1 (fun _ _ _ _ => rfl) ?_
          refine wR_gr rfl cO_e cO_14 hm ?_
          refine yR_m 2 (fun _ _ _ _ => rfl) ?_
          refine wN_al (a := 2) rfl aR_220 hm rfl rfl (by decide) (fun y13 e14 => ?_)
          refine yR_m 2 (fun _ _ _ _ => rfl) ?_
          refine wN_as (a := 2) rfl aR_220 hm rfl (by decide) ?_
          have hm_4 : aTm aT0 (sx mem 220 2 (y13 + 1)) := tm_sa aR_220 hm (i32_b _)
          refine yR_m 1 (fun _ _ _ _ => rfl) ?_
          refine yR_ri rfl ?_
          show yR zpg tX11_chance (d + 14) (20, lo, [.int (-1)], (sx mem 220 2 (y13 + 1))) _
          exact yR_ri rfl (h4 q1 q4 q7 x10 e11 q12 y13 e14 hm_4)
        ·
          refine yR_m 2 (fun _ _ _ _ => rfl) ?_
          refine yR_rz rfl ⟨by decide, by decide⟩ ?_
          show yR zpg tX11_chance (d + 14) (12, lo, [.int 1], mem) _
          refine wR_if_ne rfl (a := 1) rfl (fun _ => ?_) (fun q => by exfalso; omega)
          refine wR_la rfl l_0 ?_
          refine wR_gr rfl cO_e cO_9 hm ?_
          refine wR_la rfl l_0 ?_
          refine wR_gr rfl cO_e cO_7 hm ?_
          refine wR_la rfl l_0 ?_
          refine wR_gr rfl cO_e cO_8 hm ?_
          refine wR_cv rfl rfl rngO_e hm rfl (h_pu (Q := Q) (hu := hu) (S := S) (K := K) (P := P0) hm hW hS hK hP (by omega)) ?_
          rintro _ m15 ⟨rfl, hm15, k16⟩
          show yR zpg tX11_chance (d + 14) (36, lo, [], m15) _
          refine yR_m 1 (fun _ _ _ _ => rfl) ?_
          refine wR_si rfl rfl (fun lo17 e18 f19 => ?_)
          have lo17_0 := f19 0 _ (by decide) (Or.inl rfl) l_0
          have lo17_1 := f19 1 _ (by decide) (Or.inl rfl) l_1
          refine yR_m 1 (fun _ _ _ _ => rfl) ?_
          refine wR_si rfl rfl (fun lo20 e21 f22 => ?_)
          have lo20_2 := f22 2 _ (by decide) (Or.inl rfl) e18
          have lo20_0 := f22 0 _ (by decide) (Or.inl rfl) lo17_0
          have lo20_1 := f22 1 _ (by decide) (Or.inl rfl) lo17_1
          exact h5 q1 q4 q7 x10 e11 q12 m15 hm15 k16 lo20 lo20_0 lo20_1 lo20_2 e21 hm15

set_option maxRecDepth 100000 in
theorem w_ch40A {d : Nat} {mem : zM} {P : Option Value → zM → Prop} {n fo k : Int32} {lo : List (Nat × Value)} (hm : aTm aT0 mem) (l_0 : zlg lo 0 = some (.ref 0)) (l_1 : zlg lo 1 = some (.int n)) (l_2 : zlg lo 2 = some (.int fo)) (l_3 : zlg lo 3 = some (.int k)) {Q : Qd} {S : Sd} {K : Kd} {hu : Int → Int} (hp : zfl mem 181 0 = some (.ref 2)) (hq4 : zfl mem 0 4 = some (.ref 2)) (hC : cQ 2 3 4 7 8 9 12 13 Q mem) (hW : WQ Q) (hS : tS 31 Q hu S mem) (hv : wS Q S) (hH : wH Q hu) (hn : (k).toInt < (n).toInt → Sn S < 999) (hK : kC 34 K mem) (hf : 0 ≤ fo.toInt ∧ fo.toInt ≤ 400) (hk : 0 ≤ k.toInt ∧ k.toInt ≤ 40) (n40 : n.toInt ≤ 40) (x0 : 0 ≤ (gi mem 0 15).toInt) (h1 : (n).toInt ≤ (k).toInt → aTm aT0 mem → P (some (.int fo)) mem) (h2 : (k).toInt < (n).toInt → ∀ (v4 : Int32) (m2 : zM), aTm aT0 m2 → (fr0 mem m2 ∧ v4.toInt = (dkN Q (gi mem 0 15).toInt).1 ∧ (gi m2 0 15).toInt = (dkN Q (gi mem 0 15).toInt).2) → (v4).toInt = (-1) → ∀ (v11 : Int32) (m9 : zM), aTm aT0 m9 → ((∀ k, ¬ (31 ≤ k ∧ k ≤ 37) → ¬ (181 ≤ k ∧ k ≤ 184) → zat m9 k = zat m2 k) ∧ zfl m9 181 0 = some (.ref 2) ∧ tS 31 Q hu (tkS Q hu (v4 : Int32).toInt S) m9 ∧ kC 34 (tkK Q hu (v4 : Int32).toInt S K) m9 ∧ v11.toInt = fdN Q hu (v4 : Int32).toInt S) → ∀ (x12 : Int32), x12.toInt = ((k).toInt + 1) → ∀ lo, zlg lo 0 = some (.ref 0) → zlg lo 1 = some (.int n) → zlg lo 2 = some (.int fo) → zlg lo 3 = some (.int x12) → aTm aT0 m9 → yR zpg tX11_chance (d + 14) (40, lo, [], m9) P) (h3 : (k).toInt < (n).toInt → ∀ (v4 : Int32) (m2 : zM), aTm aT0 m2 → (fr0 mem m2 ∧ v4.toInt = (dkN Q (gi mem 0 15).toInt).1 ∧ (gi m2 0 15).toInt = (dkN Q (gi mem 0 15).toInt).2) → ¬ (v4).toInt = (-1) → ∀ (x17 : Int32), x17.toInt = ((fo).toInt + 1) → ∀ (v24 : Int32) (m22 : zM), aTm aT0 m22 → ((∀ k, ¬ (31 ≤ k ∧ k ≤ 37) → ¬ (181 ≤ k ∧ k ≤ 184) → zat m22 k = zat m2 k) ∧ zfl m22 181 0 = some (.ref 2) ∧ tS 31 Q hu (tkS Q hu (v4 : Int32).toInt S) m22 ∧ kC 34 (tkK Q hu (v4 : Int32).toInt S K) m22 ∧ v24.toInt = fdN Q hu (v4 : Int32).toInt S) → ∀ (x25 : Int32), x25.toInt = ((k).toInt + 1) → ∀ lo, zlg lo 0 = some (.ref 0) → zlg lo 1 = some (.int n) → zlg lo 2 = some (.int x17) → zlg lo 3 = some (.int x25) → aTm aT0 m22 → yR zpg tX11_chance (d + 14) (40, lo, [], m22) P) : yR zpg tX11_chance (d + 14) (40, lo, [], mem) P := by
  refine wR_li rfl l_3 ?_
  refine wR_li rfl l_1 ?_
  refine wR_ic_ge rfl (a := (k).toInt) (c := (n).toInt) rfl rfl (fun q1 => ?_) (fun q1 => ?_)
  ·
    refine wR_li rfl l_2 ?_
    exact yR_ri rfl (h1 q1 hm)
  ·
    refine wR_la rfl l_0 ?_
    refine wR_cv rfl rfl cO_e hm rfl (h_ddA (Q := Q) hm hq4 hC x0 (by omega)) ?_
    rintro _ m2 ⟨v4, rfl, hm2, k3⟩
    show yR zpg tX11_chance (d + 14) (49, lo, [.int v4], m2) _
    refine wR_si rfl rfl (fun lo5 e6 f7 => ?_)
    have lo5_0 := f7 0 _ (by decide) (Or.inl rfl) l_0
    have lo5_1 := f7 1 _ (by decide) (Or.inl rfl) l_1
    have lo5_2 := f7 2 _ (by decide) (Or.inl rfl) l_2
    have lo5_3 := f7 3 _ (by decide) (Or.inl rfl) l_3
    refine wR_li rfl e6 ?_
    refine yR_m 1 (fun _ _ _ _ => rfl) ?_
    refine wR_ic_eq rfl (a := (v4).toInt) (c := (-1)) rfl tm1 (fun q8 => ?_) (fun q8 => ?_)
    ·
      refine wR_la rfl lo5_0 ?_
      refine wR_li rfl e6 ?_
      refine wR_cv rfl rfl cO_e hm2 rfl (h_pkA (Q := Q) (S := S) (K := K) (hu := hu) hm2 ((k3.1.2 4 (by decide)).trans hq4) ((zfl_ea (k3.1.1 181 (by decide))).trans hp) (cQ_zaA (fun k a1 a2 => k3.1.1 k (by omega)) hC) hW (tS_zq (k3.1.1 31 (by decide)) (k3.1.1 32 (by decide)) (k3.1.1 33 (by decide)) hS) hv hH (hn q1) (kC_zq (k3.1.1 34 (by decide)) (k3.1.1 35 (by decide)) (k3.1.1 36 (by decide)) (k3.1.1 37 (by decide)) hK) (by omega)) ?_
      rintro _ m9 ⟨v11, rfl, hm9, k10⟩
      show yR zpg tX11_chance (d + 14) (66, lo5, [.int v11], m9) _
      refine yR_m 1 (fun _ _ _ _ => rfl) ?_
      refine wN_in (a := (k).toInt) (b := 1) rfl rfl lo5_3 rfl rfl (by omega) (fun x12 e13 => fun lo14 e15 f16 => ?_)
      have lo14_4 := f16 4 _ (by decide) (Or.inl rfl) e6
      have lo14_0 := f16 0 _ (by decide) (Or.inl rfl) lo5_0
      have lo14_1 := f16 1 _ (by decide) (Or.inl rfl) lo5_1
      have lo14_2 := f16 2 _ (by decide) (Or.inl rfl) lo5_2
      exact yR_m 1 (fun _ _ _ _ => rfl) (h2 q1 v4 m2 hm2 k3 q8 v11 m9 hm9 k10 x12 e13 lo14 lo14_0 lo14_1 lo14_2 e15 hm9)
    ·
      refine wN_in (a := (fo).toInt) (b := 1) rfl rfl lo5_2 rfl rfl (by omega) (fun x17 e18 => fun lo19 e20 f21 => ?_)
      have lo19_4 := f21 4 _ (by decide) (Or.inl rfl) e6
      have lo19_0 := f21 0 _ (by decide) (Or.inl rfl) lo5_0
      have lo19_1 := f21 1 _ (by decide) (Or.inl rfl) lo5_1
      have lo19_3 := f21 3 _ (by decide) (Or.inl rfl) lo5_3
      refine wR_la rfl lo19_0 ?_
      refine wR_li rfl lo19_4 ?_
      refine wR_cv rfl rfl cO_e hm2 rfl (h_pkA (Q := Q) (S := S) (K := K) (hu := hu) hm2 ((k3.1.2 4 (by decide)).trans hq4) ((zfl_ea (k3.1.1 181 (by decide))).trans hp) (cQ_zaA (fun k a1 a2 => k3.1.1 k (by omega)) hC) hW (tS_zq (k3.1.1 31 (by decide)) (k3.1.1 32 (by decide)) (k3.1.1 33 (by decide)) hS) hv hH (hn q1) (kC_zq (k3.1.1 34 (by decide)) (k3.1.1 35 (by decide)) (k3.1.1 36 (by decide)) (k3.1.1 37 (by decide)) hK) (by omega)) ?_
      rintro _ m22 ⟨v24, rfl, hm22, k23⟩
      show yR zpg tX11_chance (d + 14) (66, lo19, [.int v24], m22) _
      refine yR_m 1 (fun _ _ _ _ => rfl) ?_
      refine wN_in (a := (k).toInt) (b := 1) rfl rfl lo19_3 rfl rfl (by omega) (fun x25 e26 => fun lo27 e28 f29 => ?_)
      have lo27_2 := f29 2 _ (by decide) (Or.inl rfl) e20
      have lo27_4 := f29 4 _ (by decide) (Or.inl rfl) lo19_4
      have lo27_0 := f29 0 _ (by decide) (Or.inl rfl) lo19_0
      have lo27_1 := f29 1 _ (by decide) (Or.inl rfl) lo19_1
      exact yR_m 1 (fun _ _ _ _ => rfl) (h3 q1 v4 m2 hm2 k3 q8 x17 e18 v24 m22 hm22 k23 x25 e26 lo27 lo27_0 lo27_1 lo27_2 e28 hm22)

set_option maxRecDepth 100000 in
theorem w_loA {d : Nat} {mem : zM} {P : Option Value → zM → Prop} {t : Int32} (hm : aTm aT0 mem) {Q : Qd} {S : Sd} {K : Kd} {P0 : Pd} {hu : Int → Int} (hW : WQ Q) (hS : tS 31 Q hu S mem) (hK : kC 34 K mem) (hP : rgC Q hu P0 mem) (hq4 : zfl mem 0 4 = some (.ref 2)) (hC : cQ 2 3 4 7 8 9 12 13 Q mem) (hv : wS Q S) (c9 : (gi mem 2 7).toInt ≤ 9) (h1 : (t).toInt < 0 → ∀ (y2 : Int32), y2.toInt = (gn (ga mem 220) 3) → aTm aT0 (sx mem 220 3 (y2 + 1)) → P (some (.int 0)) (sx mem 220 3 (y2 + 1))) (h2 : 0 ≤ (t).toInt → (gi mem 2 7).toInt ≤ (t).toInt → ∀ (y5 : Int32), y5.toInt = (gn (ga mem 220) 3) → aTm aT0 (sx mem 220 3 (y5 + 1)) → P (some (.int 0)) (sx mem 220 3 (y5 + 1))) (h3 : 0 ≤ (t).toInt → (t).toInt < (gi mem 2 7).toInt → (((gi mem 31 1) >>> (t &&& 31)) &&& 1).toInt = 0 → ∀ (m8 : zM), aTm aT0 m8 → ((∀ k, ¬ (31 ≤ k ∧ k ≤ 180) → zat m8 k = zat mem k) ∧ tS 31 Q hu (tnS S t) m8 ∧ kC 34 (kpP K (Sn S, (t).toInt, btI (Sm S) (t).toInt)) m8 ∧ rgC Q hu (pdN P0 (S, K)) m8) → aTm aT0 m8 → P (some (.int 1)) m8) (h4 : 0 ≤ (t).toInt → (t).toInt < (gi mem 2 7).toInt → ¬ (((gi mem 31 1) >>> (t &&& 31)) &&& 1).toInt = 0 → ∀ (y10 : Int32), y10.toInt = (gn (ga mem 220) 3) → aTm aT0 (sx mem 220 3 (y10 + 1)) → P (some (.int 0)) (sx mem 220 3 (y10 + 1))) : yR zpg tX11_lose (d + 14) (0, [(0, .ref 0), (1, .int t)], [], mem) P := by
  refine yR_m 2 (fun _ _ _ _ => rfl) ?_
  refine wR_iv rfl rfl cO_e hm rfl rfl rfl rfl ?_
  show yR zpg tX11_isThing (d + 13) (0, [(0, .ref 0), (1, .int t)], [], mem) _
  refine yR_m 1 (fun _ _ _ _ => rfl) ?_
  refine wR_if_lt rfl (a := (t).toInt) rfl (fun q1 => ?_) (fun q1 => ?_)
  ·
    refine yR_m 1 (fun _ _ _ _ => rfl) ?_
    refine yR_rz rfl ⟨by decide, by decide⟩ ?_
    show yR zpg tX11_lose (d + 14) (5, [(0, .ref 0), (1, .int t)], [.int 0], mem) _
    refine wR_if_eq rfl (a := 0) rfl (fun _ => ?_) (fun q => by exfalso; omega)
    refine yR_m 2 (fun _ _ _ _ => rfl) ?_
    refine wR_iv rfl rfl cO_e hm rfl rfl rfl rfl ?_
    show yR zpg tX11_refused (d + 13) (0, [(0, .ref 0), (1, .int 3)], [], mem) _
    refine yR_m 1 (fun _ _ _ _ => rfl) ?_
    refine wR_gr rfl cO_e cO_14 hm ?_
    refine yR_m 2 (fun _ _ _ _ => rfl) ?_
    refine wN_al (a := 3) rfl aR_220 hm rfl rfl (by decide) (fun y2 e3 => ?_)
    refine yR_m 2 (fun _ _ _ _ => rfl) ?_
    refine wN_as (a := 3) rfl aR_220 hm rfl (by decide) ?_
    have hm_1 : aTm aT0 (sx mem 220 3 (y2 + 1)) := tm_sa aR_220 hm (i32_b _)
    refine yR_m 1 (fun _ _ _ _ => rfl) ?_
    refine yR_rz rfl ⟨by decide, by decide⟩ ?_
    show yR zpg tX11_lose (d + 14) (24, [(0, .ref 0), (1, .int t)], [.int 0], (sx mem 220 3 (y2 + 1))) _
    exact yR_rz rfl ⟨by decide, by decide⟩ (h1 q1 y2 e3 hm_1)
  ·
    refine yR_m 2 (fun _ _ _ _ => rfl) ?_
    refine wR_gq rfl cO_e hm hq4 ?_
    refine wR_gi rfl quA_e quA_7 hm rfl ?_
    refine wR_ic_ge rfl (a := (t).toInt) (c := (gi mem 2 7).toInt) rfl rfl (fun q4 => ?_) (fun q4 => ?_)
    ·
      refine yR_m 1 (fun _ _ _ _ => rfl) ?_
      refine yR_rz rfl ⟨by decide, by decide⟩ ?_
      show yR zpg tX11_lose (d + 14) (5, [(0, .ref 0), (1, .int t)], [.int 0], mem) _
      refine wR_if_eq rfl (a := 0) rfl (fun _ => ?_) (fun q => by exfalso; omega)
      refine yR_m 2 (fun _ _ _ _ => rfl) ?_
      refine wR_iv rfl rfl cO_e hm rfl rfl rfl rfl ?_
      show yR zpg tX11_refused (d + 13) (0, [(0, .ref 0), (1, .int 3)], [], mem) _
      refine yR_m 1 (fun _ _ _ _ => rfl) ?_
      refine wR_gr rfl cO_e cO_14 hm ?_
      refine yR_m 2 (fun _ _ _ _ => rfl) ?_
      refine wN_al (a := 3) rfl aR_220 hm rfl rfl (by decide) (fun y5 e6 => ?_)
      refine yR_m 2 (fun _ _ _ _ => rfl) ?_
      refine wN_as (a := 3) rfl aR_220 hm rfl (by decide) ?_
      have hm_2 : aTm aT0 (sx mem 220 3 (y5 + 1)) := tm_sa aR_220 hm (i32_b _)
      refine yR_m 1 (fun _ _ _ _ => rfl) ?_
      refine yR_rz rfl ⟨by decide, by decide⟩ ?_
      show yR zpg tX11_lose (d + 14) (24, [(0, .ref 0), (1, .int t)], [.int 0], (sx mem 220 3 (y5 + 1))) _
      exact yR_rz rfl ⟨by decide, by decide⟩ (h2 q1 q4 y5 e6 hm_2)
    ·
      refine yR_m 2 (fun _ _ _ _ => rfl) ?_
      refine yR_rz rfl ⟨by decide, by decide⟩ ?_
      show yR zpg tX11_lose (d + 14) (5, [(0, .ref 0), (1, .int t)], [.int 1], mem) _
      refine wR_if_eq rfl (a := 1) rfl (fun q => by exfalso; omega) (fun _ => ?_)
      refine yR_m 1 (fun _ _ _ _ => rfl) ?_
      refine wR_gr rfl cO_e cO_7 hm ?_
      refine yR_m 1 (fun _ _ _ _ => rfl) ?_
      refine wR_iv rfl rfl nO_e hm rfl rfl rfl rfl ?_
      show yR zpg tX8_isMissing (d + 13) (0, [(0, .ref 31), (1, .int t)], [], mem) _
      refine yR_m 1 (fun _ _ _ _ => rfl) ?_
      refine wR_gi rfl nO_e nO_1 hm rfl ?_
      refine yR_m 4 (fun _ _ _ _ => rfl) ?_
      refine wR_if_eq rfl (a := (((gi mem 31 1) >>> (t &&& 31)) &&& 1).toInt) rfl (fun q7 => ?_) (fun q7 => ?_)
      ·
        refine yR_m 1 (fun _ _ _ _ => rfl) ?_
        refine yR_rz rfl ⟨by decide, by decide⟩ ?_
        show yR zpg tX11_lose (d + 14) (16, [(0, .ref 0), (1, .int t)], [.int 0], mem) _
        refine wR_if_eq rfl (a := 0) rfl (fun _ => ?_) (fun q => by exfalso; omega)
        refine yR_m 2 (fun _ _ _ _ => rfl) ?_
        refine wR_cv rfl rfl cO_e hm rfl (h_tb (Q := Q) (hu := hu) (S := S) (K := K) (P0 := P0) hm hW hS hK hP (by omega) (by omega)) ?_
        rintro _ m8 ⟨rfl, hm8, k9⟩
        show yR zpg tX11_lose (d + 14) (30, [(0, .ref 0), (1, .int t)], [], m8) _
        refine yR_m 1 (fun _ _ _ _ => rfl) ?_
        exact yR_rz rfl ⟨by decide, by decide⟩ (h3 q1 q4 q7 m8 hm8 k9 hm8)
      ·
        refine yR_m 2 (fun _ _ _ _ => rfl) ?_
        refine yR_rz rfl ⟨by decide, by decide⟩ ?_
        show yR zpg tX11_lose (d + 14) (16, [(0, .ref 0), (1, .int t)], [.int 1], mem) _
        refine wR_if_eq rfl (a := 1) rfl (fun q => by exfalso; omega) (fun _ => ?_)
        refine yR_m 2 (fun _ _ _ _ => rfl) ?_
        refine wR_iv rfl rfl cO_e hm rfl rfl rfl rfl ?_
        show yR zpg tX11_refused (d + 13) (0, [(0, .ref 0), (1, .int 3)], [], mem) _
        refine yR_m 1 (fun _ _ _ _ => rfl) ?_
        refine wR_gr rfl cO_e cO_14 hm ?_
        refine yR_m 2 (fun _ _ _ _ => rfl) ?_
        refine wN_al (a := 3) rfl aR_220 hm rfl rfl (by decide) (fun y10 e11 => ?_)
        refine yR_m 2 (fun _ _ _ _ => rfl) ?_
        refine wN_as (a := 3) rfl aR_220 hm rfl (by decide) ?_
        have hm_3 : aTm aT0 (sx mem 220 3 (y10 + 1)) := tm_sa aR_220 hm (i32_b _)
        refine yR_m 1 (fun _ _ _ _ => rfl) ?_
        refine yR_rz rfl ⟨by decide, by decide⟩ ?_
        show yR zpg tX11_lose (d + 14) (24, [(0, .ref 0), (1, .int t)], [.int 0], (sx mem 220 3 (y10 + 1))) _
        exact yR_rz rfl ⟨by decide, by decide⟩ (h4 q1 q4 q7 y10 e11 hm_3)

set_option maxRecDepth 100000 in
theorem w_fiA {d : Nat} {mem : zM} {P : Option Value → zM → Prop} {t : Int32} (hm : aTm aT0 mem) {Q : Qd} {S : Sd} {K : Kd} {P0 : Pd} {hu : Int → Int} (hW : WQ Q) (hS : tS 31 Q hu S mem) (hK : kC 34 K mem) (hP : rgC Q hu P0 mem) (hq4 : zfl mem 0 4 = some (.ref 2)) (hC : cQ 2 3 4 7 8 9 12 13 Q mem) (hv : wS Q S) (c9 : (gi mem 2 7).toInt ≤ 9) (h1 : (t).toInt < 0 → ∀ (y2 : Int32), y2.toInt = (gn (ga mem 220) 3) → aTm aT0 (sx mem 220 3 (y2 + 1)) → P (some (.int 0)) (sx mem 220 3 (y2 + 1))) (h2 : 0 ≤ (t).toInt → (gi mem 2 7).toInt ≤ (t).toInt → ∀ (y5 : Int32), y5.toInt = (gn (ga mem 220) 3) → aTm aT0 (sx mem 220 3 (y5 + 1)) → P (some (.int 0)) (sx mem 220 3 (y5 + 1))) (h3 : 0 ≤ (t).toInt → (t).toInt < (gi mem 2 7).toInt → (((gi mem 31 1) >>> (t &&& 31)) &&& 1).toInt = 0 → ∀ (y8 : Int32), y8.toInt = (gn (ga mem 220) 3) → aTm aT0 (sx mem 220 3 (y8 + 1)) → P (some (.int 0)) (sx mem 220 3 (y8 + 1))) (h4 : 0 ≤ (t).toInt → (t).toInt < (gi mem 2 7).toInt → ¬ (((gi mem 31 1) >>> (t &&& 31)) &&& 1).toInt = 0 → ∀ (m10 : zM), aTm aT0 m10 → ((∀ k, ¬ (31 ≤ k ∧ k ≤ 180) → zat m10 k = zat mem k) ∧ tS 31 Q hu (tnS S t) m10 ∧ kC 34 (kpP K (Sn S, (t).toInt, btI (Sm S) (t).toInt)) m10 ∧ rgC Q hu (pdN P0 (S, K)) m10) → aTm aT0 m10 → P (some (.int 1)) m10) : yR zpg tX11_find (d + 14) (0, [(0, .ref 0), (1, .int t)], [], mem) P := by
  refine yR_m 2 (fun _ _ _ _ => rfl) ?_
  refine wR_iv rfl rfl cO_e hm rfl rfl rfl rfl ?_
  show yR zpg tX11_isThing (d + 13) (0, [(0, .ref 0), (1, .int t)], [], mem) _
  refine yR_m 1 (fun _ _ _ _ => rfl) ?_
  refine wR_if_lt rfl (a := (t).toInt) rfl (fun q1 => ?_) (fun q1 => ?_)
  ·
    refine yR_m 1 (fun _ _ _ _ => rfl) ?_
    refine yR_rz rfl ⟨by decide, by decide⟩ ?_
    show yR zpg tX11_find (d + 14) (5, [(0, .ref 0), (1, .int t)], [.int 0], mem) _
    refine wR_if_eq rfl (a := 0) rfl (fun _ => ?_) (fun q => by exfalso; omega)
    refine yR_m 2 (fun _ _ _ _ => rfl) ?_
    refine wR_iv rfl rfl cO_e hm rfl rfl rfl rfl ?_
    show yR zpg tX11_refused (d + 13) (0, [(0, .ref 0), (1, .int 3)], [], mem) _
    refine yR_m 1 (fun _ _ _ _ => rfl) ?_
    refine wR_gr rfl cO_e cO_14 hm ?_
    refine yR_m 2 (fun _ _ _ _ => rfl) ?_
    refine wN_al (a := 3) rfl aR_220 hm rfl rfl (by decide) (fun y2 e3 => ?_)
    refine yR_m 2 (fun _ _ _ _ => rfl) ?_
    refine wN_as (a := 3) rfl aR_220 hm rfl (by decide) ?_
    have hm_1 : aTm aT0 (sx mem 220 3 (y2 + 1)) := tm_sa aR_220 hm (i32_b _)
    refine yR_m 1 (fun _ _ _ _ => rfl) ?_
    refine yR_rz rfl ⟨by decide, by decide⟩ ?_
    show yR zpg tX11_find (d + 14) (24, [(0, .ref 0), (1, .int t)], [.int 0], (sx mem 220 3 (y2 + 1))) _
    exact yR_rz rfl ⟨by decide, by decide⟩ (h1 q1 y2 e3 hm_1)
  ·
    refine yR_m 2 (fun _ _ _ _ => rfl) ?_
    refine wR_gq rfl cO_e hm hq4 ?_
    refine wR_gi rfl quA_e quA_7 hm rfl ?_
    refine wR_ic_ge rfl (a := (t).toInt) (c := (gi mem 2 7).toInt) rfl rfl (fun q4 => ?_) (fun q4 => ?_)
    ·
      refine yR_m 1 (fun _ _ _ _ => rfl) ?_
      refine yR_rz rfl ⟨by decide, by decide⟩ ?_
      show yR zpg tX11_find (d + 14) (5, [(0, .ref 0), (1, .int t)], [.int 0], mem) _
      refine wR_if_eq rfl (a := 0) rfl (fun _ => ?_) (fun q => by exfalso; omega)
      refine yR_m 2 (fun _ _ _ _ => rfl) ?_
      refine wR_iv rfl rfl cO_e hm rfl rfl rfl rfl ?_
      show yR zpg tX11_refused (d + 13) (0, [(0, .ref 0), (1, .int 3)], [], mem) _
      refine yR_m 1 (fun _ _ _ _ => rfl) ?_
      refine wR_gr rfl cO_e cO_14 hm ?_
      refine yR_m 2 (fun _ _ _ _ => rfl) ?_
      refine wN_al (a := 3) rfl aR_220 hm rfl rfl (by decide) (fun y5 e6 => ?_)
      refine yR_m 2 (fun _ _ _ _ => rfl) ?_
      refine wN_as (a := 3) rfl aR_220 hm rfl (by decide) ?_
      have hm_2 : aTm aT0 (sx mem 220 3 (y5 + 1)) := tm_sa aR_220 hm (i32_b _)
      refine yR_m 1 (fun _ _ _ _ => rfl) ?_
      refine yR_rz rfl ⟨by decide, by decide⟩ ?_
      show yR zpg tX11_find (d + 14) (24, [(0, .ref 0), (1, .int t)], [.int 0], (sx mem 220 3 (y5 + 1))) _
      exact yR_rz rfl ⟨by decide, by decide⟩ (h2 q1 q4 y5 e6 hm_2)
    ·
      refine yR_m 2 (fun _ _ _ _ => rfl) ?_
      refine yR_rz rfl ⟨by decide, by decide⟩ ?_
      show yR zpg tX11_find (d + 14) (5, [(0, .ref 0), (1, .int t)], [.int 1], mem) _
      refine wR_if_eq rfl (a := 1) rfl (fun q => by exfalso; omega) (fun _ => ?_)
      refine yR_m 1 (fun _ _ _ _ => rfl) ?_
      refine wR_gr rfl cO_e cO_7 hm ?_
      refine yR_m 1 (fun _ _ _ _ => rfl) ?_
      refine wR_iv rfl rfl nO_e hm rfl rfl rfl rfl ?_
      show yR zpg tX8_isMissing (d + 13) (0, [(0, .ref 31), (1, .int t)], [], mem) _
      refine yR_m 1 (fun _ _ _ _ => rfl) ?_
      refine wR_gi rfl nO_e nO_1 hm rfl ?_
      refine yR_m 4 (fun _ _ _ _ => rfl) ?_
      refine wR_if_eq rfl (a := (((gi mem 31 1) >>> (t &&& 31)) &&& 1).toInt) rfl (fun q7 => ?_) (fun q7 => ?_)
      ·
        refine yR_m 1 (fun _ _ _ _ => rfl) ?_
        refine yR_rz rfl ⟨by decide, by decide⟩ ?_
        show yR zpg tX11_find (d + 14) (16, [(0, .ref 0), (1, .int t)], [.int 0], mem) _
        refine wR_if_ne rfl (a := 0) rfl (fun q => by exfalso; omega) (fun _ => ?_)
        refine yR_m 2 (fun _ _ _ _ => rfl) ?_
        refine wR_iv rfl rfl cO_e hm rfl rfl rfl rfl ?_
        show yR zpg tX11_refused (d + 13) (0, [(0, .ref 0), (1, .int 3)], [], mem) _
        refine yR_m 1 (fun _ _ _ _ => rfl) ?_
        refine wR_gr rfl cO_e cO_14 hm ?_
        refine yR_m 2 (fun _ _ _ _ => rfl) ?_
        refine wN_al (a := 3) rfl aR_220 hm rfl rfl (by decide) (fun y8 e9 => ?_)
        refine yR_m 2 (fun _ _ _ _ => rfl) ?_
        refine wN_as (a := 3) rfl aR_220 hm rfl (by decide) ?_
        have hm_3 : aTm aT0 (sx mem 220 3 (y8 + 1)) := tm_sa aR_220 hm (i32_b _)
        refine yR_m 1 (fun _ _ _ _ => rfl) ?_
        refine yR_rz rfl ⟨by decide, by decide⟩ ?_
        show yR zpg tX11_find (d + 14) (24, [(0, .ref 0), (1, .int t)], [.int 0], (sx mem 220 3 (y8 + 1))) _
        exact yR_rz rfl ⟨by decide, by decide⟩ (h3 q1 q4 q7 y8 e9 hm_3)
      ·
        refine yR_m 2 (fun _ _ _ _ => rfl) ?_
        refine yR_rz rfl ⟨by decide, by decide⟩ ?_
        show yR zpg tX11_find (d + 14) (16, [(0, .ref 0), (1, .int t)], [.int 1], mem) _
        refine wR_if_ne rfl (a := 1) rfl (fun _ => ?_) (fun q => by exfalso; omega)
        refine yR_m 2 (fun _ _ _ _ => rfl) ?_
        refine wR_cv rfl rfl cO_e hm rfl (h_tb (Q := Q) (hu := hu) (S := S) (K := K) (P0 := P0) hm hW hS hK hP (by omega) (by omega)) ?_
        rintro _ m10 ⟨rfl, hm10, k11⟩
        show yR zpg tX11_find (d + 14) (30, [(0, .ref 0), (1, .int t)], [], m10) _
        refine yR_m 1 (fun _ _ _ _ => rfl) ?_
        exact yR_rz rfl ⟨by decide, by decide⟩ (h4 q1 q4 q7 m10 hm10 k11 hm10)

set_option maxRecDepth 100000 in
theorem w_leA {d : Nat} {mem : zM} {P : Option Value → zM → Prop} {f x y : Int32} (hm : aTm aT0 mem) {Q : Qd} {S : Sd} {K : Kd} {P0 : Pd} {hu : Int → Int} (hW : WQ Q) (hS : tS 31 Q hu S mem) (hK : kC 34 K mem) (hP : rgC Q hu P0 mem) (hq4 : zfl mem 0 4 = some (.ref 2)) (hC : cQ 2 3 4 7 8 9 12 13 Q mem) (hv : wS Q S) (c9 : (gi mem 2 13).toInt ≤ 6) (h1 : (f).toInt < 0 → ∀ (y2 : Int32), y2.toInt = (gn (ga mem 220) 3) → aTm aT0 (sx mem 220 3 (y2 + 1)) → P (some (.int 0)) (sx mem 220 3 (y2 + 1))) (h2 : 0 ≤ (f).toInt → (gi mem 2 13).toInt ≤ (f).toInt → ∀ (y5 : Int32), y5.toInt = (gn (ga mem 220) 3) → aTm aT0 (sx mem 220 3 (y5 + 1)) → P (some (.int 0)) (sx mem 220 3 (y5 + 1))) (h3 : 0 ≤ (f).toInt → (f).toInt < (gi mem 2 13).toInt → ∀ (v7 : Int32), ((v7.toInt = 1 ∧ frL Q (x).toInt (y).toInt) ∨ (v7.toInt = 0 ∧ ¬ frL Q (x).toInt (y).toInt)) → (v7).toInt = 0 → ∀ (y10 : Int32), y10.toInt = (gn (ga mem 220) 3) → aTm aT0 (sx mem 220 3 (y10 + 1)) → P (some (.int 0)) (sx mem 220 3 (y10 + 1))) (s1 : 0 ≤ (f).toInt → (f).toInt < (gi mem 2 13).toInt → ∀ (v7 : Int32), ((v7.toInt = 1 ∧ frL Q (x).toInt (y).toInt) ∨ (v7.toInt = 0 ∧ ¬ frL Q (x).toInt (y).toInt)) → ¬ (v7).toInt = 0 → ∀ (y12 : Int32), y12.toInt = (gn (ga mem 33) (f).toInt) → (-2147483648 : Int) ≤ ((y).toInt * 8) ∧ ((y).toInt * 8) ≤ 2147483647) (s2 : 0 ≤ (f).toInt → (f).toInt < (gi mem 2 13).toInt → ∀ (v7 : Int32), ((v7.toInt = 1 ∧ frL Q (x).toInt (y).toInt) ∨ (v7.toInt = 0 ∧ ¬ frL Q (x).toInt (y).toInt)) → ¬ (v7).toInt = 0 → ∀ (y12 : Int32), y12.toInt = (gn (ga mem 33) (f).toInt) → ∀ (x14 : Int32), x14.toInt = ((y).toInt * 8) → (-2147483648 : Int) ≤ (((y).toInt * 8) + (x).toInt) ∧ (((y).toInt * 8) + (x).toInt) ≤ 2147483647) (s3 : 0 ≤ (f).toInt → (f).toInt < (gi mem 2 13).toInt → ∀ (v7 : Int32), ((v7.toInt = 1 ∧ frL Q (x).toInt (y).toInt) ∨ (v7.toInt = 0 ∧ ¬ frL Q (x).toInt (y).toInt)) → ¬ (v7).toInt = 0 → ∀ (y12 : Int32), y12.toInt = (gn (ga mem 33) (f).toInt) → ∀ (x14 : Int32), x14.toInt = ((y).toInt * 8) → ∀ (x16 : Int32), x16.toInt = (((y).toInt * 8) + (x).toInt) → ¬ (gn (ga mem 33) (f).toInt) = (((y).toInt * 8) + (x).toInt) → ∀ (m19 : zM), aTm aT0 m19 → ((∀ k, ¬ (41 ≤ k ∧ k ≤ 180) → ¬ k = 38 → zat m19 k = zat mem k) ∧ rgC Q hu (pdN P0 (S, K)) m19) → (-2147483648 : Int) ≤ ((y).toInt * 8) ∧ ((y).toInt * 8) ≤ 2147483647) (s4 : 0 ≤ (f).toInt → (f).toInt < (gi mem 2 13).toInt → ∀ (v7 : Int32), ((v7.toInt = 1 ∧ frL Q (x).toInt (y).toInt) ∨ (v7.toInt = 0 ∧ ¬ frL Q (x).toInt (y).toInt)) → ¬ (v7).toInt = 0 → ∀ (y12 : Int32), y12.toInt = (gn (ga mem 33) (f).toInt) → ∀ (x14 : Int32), x14.toInt = ((y).toInt * 8) → ∀ (x16 : Int32), x16.toInt = (((y).toInt * 8) + (x).toInt) → ¬ (gn (ga mem 33) (f).toInt) = (((y).toInt * 8) + (x).toInt) → ∀ (m19 : zM), aTm aT0 m19 → ((∀ k, ¬ (41 ≤ k ∧ k ≤ 180) → ¬ k = 38 → zat m19 k = zat mem k) ∧ rgC Q hu (pdN P0 (S, K)) m19) → ∀ (x21 : Int32), x21.toInt = ((y).toInt * 8) → (-2147483648 : Int) ≤ (((y).toInt * 8) + (x).toInt) ∧ (((y).toInt * 8) + (x).toInt) ≤ 2147483647) (h4 : 0 ≤ (f).toInt → (f).toInt < (gi mem 2 13).toInt → ∀ (v7 : Int32), ((v7.toInt = 1 ∧ frL Q (x).toInt (y).toInt) ∨ (v7.toInt = 0 ∧ ¬ frL Q (x).toInt (y).toInt)) → ¬ (v7).toInt = 0 → ∀ (y12 : Int32), y12.toInt = (gn (ga mem 33) (f).toInt) → ∀ (x14 : Int32), x14.toInt = ((y).toInt * 8) → ∀ (x16 : Int32), x16.toInt = (((y).toInt * 8) + (x).toInt) → ¬ (gn (ga mem 33) (f).toInt) = (((y).toInt * 8) + (x).toInt) → ∀ (m19 : zM), aTm aT0 m19 → ((∀ k, ¬ (41 ≤ k ∧ k ≤ 180) → ¬ k = 38 → zat m19 k = zat mem k) ∧ rgC Q hu (pdN P0 (S, K)) m19) → ∀ (x21 : Int32), x21.toInt = ((y).toInt * 8) → ∀ (x23 : Int32), x23.toInt = (((y).toInt * 8) + (x).toInt) → aTm aT0 (sx m19 33 f x23) → P (some (.int 1)) (sx m19 33 f x23)) (h5 : 0 ≤ (f).toInt → (f).toInt < (gi mem 2 13).toInt → ∀ (v7 : Int32), ((v7.toInt = 1 ∧ frL Q (x).toInt (y).toInt) ∨ (v7.toInt = 0 ∧ ¬ frL Q (x).toInt (y).toInt)) → ¬ (v7).toInt = 0 → ∀ (y12 : Int32), y12.toInt = (gn (ga mem 33) (f).toInt) → ∀ (x14 : Int32), x14.toInt = ((y).toInt * 8) → ∀ (x16 : Int32), x16.toInt = (((y).toInt * 8) + (x).toInt) → (gn (ga mem 33) (f).toInt) = (((y).toInt * 8) + (x).toInt) → ∀ (y25 : Int32), y25.toInt = (gn (ga mem 220) 3) → aTm aT0 (sx mem 220 3 (y25 + 1)) → P (some (.int 0)) (sx mem 220 3 (y25 + 1))) : yR zpg tX11_lead (d + 14) (0, [(0, .ref 0), (1, .int f), (2, .int x), (3, .int y)], [], mem) P := by
  refine yR_m 2 (fun _ _ _ _ => rfl) ?_
  refine wR_iv rfl rfl cO_e hm rfl rfl rfl rfl ?_
  show yR zpg tX11_isFolk (d + 13) (0, [(0, .ref 0), (1, .int f)], [], mem) _
  refine yR_m 1 (fun _ _ _ _ => rfl) ?_
  refine wR_if_lt rfl (a := (f).toInt) rfl (fun q1 => ?_) (fun q1 => ?_)
  ·
    refine yR_m 1 (fun _ _ _ _ => rfl) ?_
    refine yR_rz rfl ⟨by decide, by decide⟩ ?_
    show yR zpg tX11_lead (d + 14) (5, [(0, .ref 0), (1, .int f), (2, .int x), (3, .int y)], [.int 0], mem) _
    refine wR_if_eq rfl (a := 0) rfl (fun _ => ?_) (fun q => by exfalso; omega)
    refine yR_m 2 (fun _ _ _ _ => rfl) ?_
    refine wR_iv rfl rfl cO_e hm rfl rfl rfl rfl ?_
    show yR zpg tX11_refused (d + 13) (0, [(0, .ref 0), (1, .int 3)], [], mem) _
    refine yR_m 1 (fun _ _ _ _ => rfl) ?_
    refine wR_gr rfl cO_e cO_14 hm ?_
    refine yR_m 2 (fun _ _ _ _ => rfl) ?_
    refine wN_al (a := 3) rfl aR_220 hm rfl rfl (by decide) (fun y2 e3 => ?_)
    refine yR_m 2 (fun _ _ _ _ => rfl) ?_
    refine wN_as (a := 3) rfl aR_220 hm rfl (by decide) ?_
    have hm_1 : aTm aT0 (sx mem 220 3 (y2 + 1)) := tm_sa aR_220 hm (i32_b _)
    refine yR_m 1 (fun _ _ _ _ => rfl) ?_
    refine yR_rz rfl ⟨by decide, by decide⟩ ?_
    show yR zpg tX11_lead (d + 14) (42, [(0, .ref 0), (1, .int f), (2, .int x), (3, .int y)], [.int 0], (sx mem 220 3 (y2 + 1))) _
    exact yR_rz rfl ⟨by decide, by decide⟩ (h1 q1 y2 e3 hm_1)
  ·
    refine yR_m 2 (fun _ _ _ _ => rfl) ?_
    refine wR_gq rfl cO_e hm hq4 ?_
    refine wR_gi rfl quA_e quA_13 hm rfl ?_
    refine wR_ic_ge rfl (a := (f).toInt) (c := (gi mem 2 13).toInt) rfl rfl (fun q4 => ?_) (fun q4 => ?_)
    ·
      refine yR_m 1 (fun _ _ _ _ => rfl) ?_
      refine yR_rz rfl ⟨by decide, by decide⟩ ?_
      show yR zpg tX11_lead (d + 14) (5, [(0, .ref 0), (1, .int f), (2, .int x), (3, .int y)], [.int 0], mem) _
      refine wR_if_eq rfl (a := 0) rfl (fun _ => ?_) (fun q => by exfalso; omega)
      refine yR_m 2 (fun _ _ _ _ => rfl) ?_
      refine wR_iv rfl rfl cO_e hm rfl rfl rfl rfl ?_
      show yR zpg tX11_refused (d + 13) (0, [(0, .ref 0), (1, .int 3)], [], mem) _
      refine yR_m 1 (fun _ _ _ _ => rfl) ?_
      refine wR_gr rfl cO_e cO_14 hm ?_
      refine yR_m 2 (fun _ _ _ _ => rfl) ?_
      refine wN_al (a := 3) rfl aR_220 hm rfl rfl (by decide) (fun y5 e6 => ?_)
      refine yR_m 2 (fun _ _ _ _ => rfl) ?_
      refine wN_as (a := 3) rfl aR_220 hm rfl (by decide) ?_
      have hm_2 : aTm aT0 (sx mem 220 3 (y5 + 1)) := tm_sa aR_220 hm (i32_b _)
      refine yR_m 1 (fun _ _ _ _ => rfl) ?_
      refine yR_rz rfl ⟨by decide, by decide⟩ ?_
      show yR zpg tX11_lead (d + 14) (42, [(0, .ref 0), (1, .int f), (2, .int x), (3, .int y)], [.int 0], (sx mem 220 3 (y5 + 1))) _
      exact yR_rz rfl ⟨by decide, by decide⟩ (h2 q1 q4 y5 e6 hm_2)
    ·
      refine yR_m 2 (fun _ _ _ _ => rfl) ?_
      refine yR_rz rfl ⟨by decide, by decide⟩ ?_
      show yR zpg tX11_lead (d + 14) (5, [(0, .ref 0), (1, .int f), (2, .int x), (3, .int y)], [.int 1], mem) _
      refine wR_if_eq rfl (a := 1) rfl (fun q => by exfalso; omega) (fun _ => ?_)
      refine yR_m 1 (fun _ _ _ _ => rfl) ?_
      refine wR_gq rfl cO_e hm hq4 ?_
      refine yR_m 2 (fun _ _ _ _ => rfl) ?_
      refine wR_cv rfl rfl quA_e hm rfl (h_hlA (Q := Q) hW hm hC (by omega)) ?_
      rintro _ _ ⟨v7, rfl, rfl, k8⟩
      show yR zpg tX11_lead (d + 14) (17, [(0, .ref 0), (1, .int f), (2, .int x), (3, .int y)], [.int v7], mem) _
      refine wR_if_eq rfl (a := (v7).toInt) rfl (fun q9 => ?_) (fun q9 => ?_)
      ·
        refine yR_m 2 (fun _ _ _ _ => rfl) ?_
        refine wR_iv rfl rfl cO_e hm rfl rfl rfl rfl ?_
        show yR zpg tX11_refused (d + 13) (0, [(0, .ref 0), (1, .int 3)], [], mem) _
        refine yR_m 1 (fun _ _ _ _ => rfl) ?_
        refine wR_gr rfl cO_e cO_14 hm ?_
        refine yR_m 2 (fun _ _ _ _ => rfl) ?_
        refine wN_al (a := 3) rfl aR_220 hm rfl rfl (by decide) (fun y10 e11 => ?_)
        refine yR_m 2 (fun _ _ _ _ => rfl) ?_
        refine wN_as (a := 3) rfl aR_220 hm rfl (by decide) ?_
        have hm_3 : aTm aT0 (sx mem 220 3 (y10 + 1)) := tm_sa aR_220 hm (i32_b _)
        refine yR_m 1 (fun _ _ _ _ => rfl) ?_
        refine yR_rz rfl ⟨by decide, by decide⟩ ?_
        show yR zpg tX11_lead (d + 14) (42, [(0, .ref 0), (1, .int f), (2, .int x), (3, .int y)], [.int 0], (sx mem 220 3 (y10 + 1))) _
        exact yR_rz rfl ⟨by decide, by decide⟩ (h3 q1 q4 v7 k8 q9 y10 e11 hm_3)
      ·
        refine yR_m 1 (fun _ _ _ _ => rfl) ?_
        refine wR_gr rfl cO_e cO_7 hm ?_
        refine wR_gr rfl nO_e nO_3 hm ?_
        refine yR_m 1 (fun _ _ _ _ => rfl) ?_
        refine wN_al (a := (f).toInt) rfl aR_33 hm rfl rfl (by omega) (fun y12 e13 => ?_)
        refine yR_m 2 (fun _ _ _ _ => rfl) ?_
        refine wR_is rfl rfl rfl rfl rfl rfl ?_
        show yR zpg tX11_placeOf (d + 13) (0, [(0, .int x), (1, .int y)], [], mem) _
        refine yR_m 2 (fun _ _ _ _ => rfl) ?_
        refine wN_mul (a := (y).toInt) (b := 8) rfl rfl rfl (s1 q1 q4 v7 k8 q9 y12 e13) (fun x14 e15 => ?_)
        refine yR_m 1 (fun _ _ _ _ => rfl) ?_
        refine wN_add (a := ((y).toInt * 8)) (b := (x).toInt) rfl e15 rfl (s2 q1 q4 v7 k8 q9 y12 e13 x14 e15) (fun x16 e17 => ?_)
        refine yR_ri rfl ?_
        show yR zpg tX11_lead (d + 14) (34, [(0, .ref 0), (1, .int f), (2, .int x), (3, .int y)], [.int x16, .int y12], mem) _
        refine wR_ic_ne rfl (a := (gn (ga mem 33) (f).toInt)) (c := (((y).toInt * 8) + (x).toInt)) e13 e17 (fun q18 => ?_) (fun q18 => ?_)
        ·
          refine yR_m 1 (fun _ _ _ _ => rfl) ?_
          refine wR_gr rfl cO_e cO_9 hm ?_
          refine yR_m 1 (fun _ _ _ _ => rfl) ?_
          refine wR_gr rfl cO_e cO_7 hm ?_
          refine yR_m 1 (fun _ _ _ _ => rfl) ?_
          refine wR_gr rfl cO_e cO_8 hm ?_
          refine wR_cv rfl rfl rngO_e hm rfl (h_pu (Q := Q) (hu := hu) (S := S) (K := K) (P := P0) hm hW hS hK hP (by omega)) ?_
          rintro _ m19 ⟨rfl, hm19, k20⟩
          show yR zpg tX11_lead (d + 14) (58, [(0, .ref 0), (1, .int f), (2, .int x), (3, .int y)], [], m19) _
          refine yR_m 1 (fun _ _ _ _ => rfl) ?_
          refine wR_gr rfl cO_e cO_7 hm19 ?_
          refine wR_gr rfl nO_e nO_3 hm19 ?_
          refine yR_m 3 (fun _ _ _ _ => rfl) ?_
          refine wR_is rfl rfl rfl rfl rfl rfl ?_
          show yR zpg tX11_placeOf (d + 13) (0, [(0, .int x), (1, .int y)], [], m19) _
          refine yR_m 2 (fun _ _ _ _ => rfl) ?_
          refine wN_mul (a := (y).toInt) (b := 8) rfl rfl rfl (s3 q1 q4 v7 k8 q9 y12 e13 x14 e15 x16 e17 q18 m19 hm19 k20) (fun x21 e22 => ?_)
          refine yR_m 1 (fun _ _ _ _ => rfl) ?_
          refine wN_add (a := ((y).toInt * 8)) (b := (x).toInt) rfl e22 rfl (s4 q1 q4 v7 k8 q9 y12 e13 x14 e15 x16 e17 q18 m19 hm19 k20 x21 e22) (fun x23 e24 => ?_)
          refine yR_ri rfl ?_
          show yR zpg tX11_lead (d + 14) (71, [(0, .ref 0), (1, .int f), (2, .int x), (3, .int y)], [.int x23, .int f, .ref 33], m19) _
          refine wN_as (a := (f).toInt) rfl aR_33 hm19 rfl (by omega) ?_
          have hm_4 : aTm aT0 (sx m19 33 f x23) := tm_sa aR_33 hm19 (i32_b _)
          refine yR_m 1 (fun _ _ _ _ => rfl) ?_
          exact yR_rz rfl ⟨by decide, by decide⟩ (h4 q1 q4 v7 k8 q9 y12 e13 x14 e15 x16 e17 q18 m19 hm19 k20 x21 e22 x23 e24 hm_4)
        ·
          refine yR_m 2 (fun _ _ _ _ => rfl) ?_
          refine wR_iv rfl rfl cO_e hm rfl rfl rfl rfl ?_
          show yR zpg tX11_refused (d + 13) (0, [(0, .ref 0), (1, .int 3)], [], mem) _
          refine yR_m 1 (fun _ _ _ _ => rfl) ?_
          refine wR_gr rfl cO_e cO_14 hm ?_
          refine yR_m 2 (fun _ _ _ _ => rfl) ?_
          refine wN_al (a := 3) rfl aR_220 hm rfl rfl (by decide) (fun y25 e26 => ?_)
          refine yR_m 2 (fun _ _ _ _ => rfl) ?_
          refine wN_as (a := 3) rfl aR_220 hm rfl (by decide) ?_
          have hm_5 : aTm aT0 (sx mem 220 3 (y25 + 1)) := tm_sa aR_220 hm (i32_b _)
          refine yR_m 1 (fun _ _ _ _ => rfl) ?_
          refine yR_rz rfl ⟨by decide, by decide⟩ ?_
          show yR zpg tX11_lead (d + 14) (42, [(0, .ref 0), (1, .int f), (2, .int x), (3, .int y)], [.int 0], (sx mem 220 3 (y25 + 1))) _
          exact yR_rz rfl ⟨by decide, by decide⟩ (h5 q1 q4 v7 k8 q9 y12 e13 x14 e15 x16 e17 q18 y25 e26 hm_5)

theorem ni_lpA {n : Int32} {N : Nat} {mr : zM} (hN : n.toInt = (N : Int)) (N40 : N ≤ 40) (hqr : zfl mr 0 4 = some (.ref 2)) (hCr : cQ 2 3 4 7 8 9 12 13 Q mr) (hW : WQ Q) (hv : wS Q S) (hH : wH Q hu) (h9 : Sn S + (N : Int) ≤ 999) : ∀ (g j : Nat) (fo k : Int32) (mem : zM) (lo : List (Nat × Value)), j + g = N → k.toInt = (j : Int) → fo.toInt = (ntN Q hu j (S, K, 0)).2.2 → tS 31 Q hu (ntN Q hu j (S, K, 0)).1 mem → kC 34 (ntN Q hu j (S, K, 0)).2.1 mem → (∀ k, ¬ (31 ≤ k ∧ k ≤ 37) → ¬ (181 ≤ k ∧ k ≤ 184) → zat mem k = zat mr k) → zfl mem 181 0 = some (.ref 2) → aTm aT0 mem → zlg lo 0 = some (.ref 0) → zlg lo 1 = some (.int n) → zlg lo 2 = some (.int fo) → zlg lo 3 = some (.int k) → yR zpg tX11_nights (d + 14) (40, lo, [], mem) (fun r m => ∃ fo : Int32, r = some (.int fo) ∧ aTm aT0 m ∧ (fo.toInt = (ntN Q hu N (S, K, 0)).2.2 ∧ tS 31 Q hu (ntN Q hu N (S, K, 0)).1 m ∧ kC 34 (ntN Q hu N (S, K, 0)).2.1 m ∧ (∀ k, ¬ (31 ≤ k ∧ k ≤ 37) → ¬ (181 ≤ k ∧ k ≤ 184) → zat m k = zat mr k) ∧ zfl m 181 0 = some (.ref 2))) := by
  intro g
  induction g with
  | zero =>
    intro j fo k mem lo hj ek ef hS hK hF hp hm l0 l1 l2 l3
    have jn : j = N := by omega
    have b := ntN_f (Q := Q) (hu := hu) (X := (S, K, 0)) j
    have b1 : 0 ≤ (ntN Q hu j (S, K, 0)).2.2 := b.1
    have b2 : (ntN Q hu j (S, K, 0)).2.2 ≤ 0 + 9 * (j : Int) := b.2
    have hw := ntN_w (hu := hu) (X := (S, K, 0)) hW hv j (by show Sn S + (j : Int) ≤ 999; omega)
    have hq : zfl mem 0 4 = some (.ref 2) := (zfl_ea (hF 0 (by omega) (by omega))).trans hqr
    have hC := cQ_kA (fun k hk => hF k (by omega) (by omega)) hCr
    exact w_ni40A (S := (ntN Q hu j (S, K, 0)).1) (K := (ntN Q hu j (S, K, 0)).2.1) hm l0 l1 l2 l3 hp hq hC hW hS hw hH (fun z => by exfalso; omega) hK ⟨by omega, by omega⟩ ⟨by omega, by omega⟩ (by omega) 
        (fun q1 hm2 => by
        rw [jn] at ef hS hK
        exact ⟨_, rfl, hm2, ef, hS, hK, hF, hp⟩)
        (fun q1 v4 m2 hm2 k3 => by exfalso; omega)
        (fun q1 v4 m2 hm2 k3 x5 e6 x10 e11 lo a0 a1 a2 a3 hm2 => by exfalso; omega)
  | succ g ih =>
    intro j fo k mem lo hj ek ef hS hK hF hp hm l0 l1 l2 l3
    have b := ntN_f (Q := Q) (hu := hu) (X := (S, K, 0)) j
    have b1 : 0 ≤ (ntN Q hu j (S, K, 0)).2.2 := b.1
    have b2 : (ntN Q hu j (S, K, 0)).2.2 ≤ 0 + 9 * (j : Int) := b.2
    have nj : Sn (ntN Q hu j (S, K, 0)).1 = Sn S + (j : Int) := ntN_n j
    have hw := ntN_w (hu := hu) (X := (S, K, 0)) hW hv j (by show Sn S + (j : Int) ≤ 999; omega)
    have hq : zfl mem 0 4 = some (.ref 2) := (zfl_ea (hF 0 (by omega) (by omega))).trans hqr
    have hC := cQ_kA (fun k hk => hF k (by omega) (by omega)) hCr
    have fb := fdN_b (Q := Q) (hu := hu) (but := -1) (S := (ntN Q hu j (S, K, 0)).1)
    exact w_ni40A (S := (ntN Q hu j (S, K, 0)).1) (K := (ntN Q hu j (S, K, 0)).2.1) hm l0 l1 l2 l3 hp hq hC hW hS hw hH (fun z => by omega) hK ⟨by omega, by omega⟩ ⟨by omega, by omega⟩ (by omega) 
        (fun q1 hm2 => by exfalso; omega)
        (fun q1 v4 m2 hm2 k3 => by have k := k3.2.2.2.2; rw [tm1] at k; omega)
        (fun q1 v4 m2 hm2 k3 x5 e6 x10 e11 lo a0 a1 a2 a3 hm2 => by
        have k := k3
        rw [tm1] at k
        exact ih (j + 1) _ _ _ lo (by omega) (by rw [e11, ek]; rfl) (by rw [e6, k.2.2.2.2, ef]; rfl) k.2.2.1 k.2.2.2.1 (fun q q1 q2 => (k.1 q q1 q2).trans (hF q q1 q2)) k.2.1 hm2 a0 a1 a2 a3)
theorem h_niA {n : Int32} (hm : aTm aT0 mem) (hq4 : zfl mem 0 4 = some (.ref 2)) (hp : zfl mem 181 0 = some (.ref 2)) (hC : cQ 2 3 4 7 8 9 12 13 Q mem) (hW : WQ Q) (hS : tS 31 Q hu S mem) (hv : wS Q S) (hH : wH Q hu) (hK : kC 34 K mem) (hP : rgC Q hu P0 mem) (hd : 15 ≤ d) : yC zpg d 132 [.ref 0, .int n] mem (fun r m => aTm aT0 m ∧ ((cgN Q S n.toInt ∧ (∃ fo : Int32, r = some (.int fo) ∧ fo.toInt = (ntN Q hu n.toInt.toNat (S, K, 0)).2.2) ∧ (∀ k, ¬ (31 ≤ k ∧ k ≤ 184) → zat m k = zat mem k) ∧ tS 31 Q hu (ntN Q hu n.toInt.toNat (S, K, 0)).1 m ∧ kC 34 (ntN Q hu n.toInt.toNat (S, K, 0)).2.1 m ∧ rgC Q hu (pdN P0 (S, K)) m) ∨ (¬ cgN Q S n.toInt ∧ r = some (.int (-1)) ∧ rfX 220 2 mem m))) := by
  obtain ⟨d, rfl⟩ : ∃ q, d = q + 15 := ⟨d - 15, by omega⟩
  have c1 : (gi mem 2 1).toInt = Qc Q := hC.1.1
  have s0 := hS.1.1
  refine yC_of (t := tX11_nights) rfl rfl ?_
  exact w_ni0A (P0 := P0) (K := K) hm rfl rfl hW hS hK hP hq4 hC hv 
        (fun q1 y2 e3 hm2 => ⟨hm2, Or.inr ⟨fun w => by have w1 := w.1; have w2 := w.2; omega, rfl, rfX_k rfl rfl e3⟩⟩)
        (fun q1 q4 y5 e6 hm2 => ⟨hm2, Or.inr ⟨fun w => by have w1 := w.1; have w2 := w.2; omega, rfl, rfX_k rfl rfl e6⟩⟩)
        (fun q1 q4 q7 y8 e9 hm2 => ⟨hm2, Or.inr ⟨fun w => by have w1 := w.1; have w2 := w.2; omega, rfl, rfX_k rfl rfl e9⟩⟩)
        (fun q1 q4 q7 x10 e11 q12 y13 e14 hm2 => ⟨hm2, Or.inr ⟨fun w => by have w1 := w.1; have w2 := w.2; omega, rfl, rfX_k rfl rfl e14⟩⟩)
        (fun q1 q4 q7 x10 e11 q12 m15 hm15 k16 lo a0 a1 a2 a3 hm2 => by
    obtain ⟨F, R⟩ := k16
    have n0 : n.toInt = (n.toInt.toNat : Int) := by omega
    refine yR_mono ?_ (ni_lpA (S := S) (K := K) (N := n.toInt.toNat) n0 (by omega) ((zfl_ea (F 0 (by omega) (by omega))).trans hq4) (cQ_kA (fun k hk => F k (by omega) (by omega)) hC) hW hv hH (by omega) n.toInt.toNat 0 0 0 _ lo (by omega) rfl rfl (tS_zq (F 31 (by omega) (by omega)) (F 32 (by omega) (by omega)) (F 33 (by omega) (by omega)) hS) (kC_zq (F 34 (by omega) (by omega)) (F 35 (by omega) (by omega)) (F 36 (by omega) (by omega)) (F 37 (by omega) (by omega)) hK) (fun _ _ _ => rfl) ((zfl_ea (F 181 (by omega) (by omega))).trans hp) hm2 a0 a1 a2 a3)
    rintro r m ⟨fo, h1, h2, h3, h4, h5, h6, h7⟩
    exact ⟨h2, Or.inl ⟨⟨⟨by omega, by omega⟩, by omega, by omega⟩, ⟨fo, h1, h3⟩, fun k hk => (h6 k (by omega) (by omega)).trans (F k (by omega) (by omega)), h4, h5, rgC_zq (fun k q1 q2 => h6 k (by omega) (by omega)) R⟩⟩)
theorem ch_lpA {n : Int32} {x : Int} {N : Nat} {mr : zM} (hN : n.toInt = (N : Int)) (N40 : N ≤ 40) (hqr : zfl mr 0 4 = some (.ref 2)) (hCr : cQ 2 3 4 7 8 9 12 13 Q mr) (hW : WQ Q) (hv : wS Q S) (hH : wH Q hu) (h9 : Sn S + (N : Int) ≤ 999) (hx : 0 ≤ x ∧ x < 2147483648) : ∀ (g j : Nat) (fo k : Int32) (mem : zM) (lo : List (Nat × Value)), j + g = N → k.toInt = (j : Int) → fo.toInt = (chN Q hu j (S, K, x, 0)).2.2.2 → (gi mem 0 15).toInt = (chN Q hu j (S, K, x, 0)).2.2.1 → tS 31 Q hu (chN Q hu j (S, K, x, 0)).1 mem → kC 34 (chN Q hu j (S, K, x, 0)).2.1 mem → (∀ k, ¬ (31 ≤ k ∧ k ≤ 37) → ¬ (181 ≤ k ∧ k ≤ 184) → ¬ k = 0 → zat mem k = zat mr k) → (∀ i, ¬ i = 15 → zfl mem 0 i = zfl mr 0 i) → zfl mem 181 0 = some (.ref 2) → aTm aT0 mem → zlg lo 0 = some (.ref 0) → zlg lo 1 = some (.int n) → zlg lo 2 = some (.int fo) → zlg lo 3 = some (.int k) → yR zpg tX11_chance (d + 14) (40, lo, [], mem) (fun r m => ∃ fo : Int32, r = some (.int fo) ∧ aTm aT0 m ∧ (fo.toInt = (chN Q hu N (S, K, x, 0)).2.2.2 ∧ (gi m 0 15).toInt = (chN Q hu N (S, K, x, 0)).2.2.1 ∧ tS 31 Q hu (chN Q hu N (S, K, x, 0)).1 m ∧ kC 34 (chN Q hu N (S, K, x, 0)).2.1 m ∧ (∀ k, ¬ (31 ≤ k ∧ k ≤ 37) → ¬ (181 ≤ k ∧ k ≤ 184) → ¬ k = 0 → zat m k = zat mr k) ∧ zfl m 181 0 = some (.ref 2))) := by
  intro g
  induction g with
  | zero =>
    intro j fo k mem lo hj ek ef ex hS hK hF hI hp hm l0 l1 l2 l3
    have jn : j = N := by omega
    have b := chN_f (Q := Q) (hu := hu) (X := (S, K, x, 0)) j
    have b1 : 0 ≤ (chN Q hu j (S, K, x, 0)).2.2.2 := b.1
    have b2 : (chN Q hu j (S, K, x, 0)).2.2.2 ≤ 0 + (j : Int) := b.2
    have xb := chN_x (Q := Q) (hu := hu) (X := (S, K, x, 0)) hx j
    have hw := chN_w (hu := hu) (X := (S, K, x, 0)) hW hv j (by show Sn S + (j : Int) ≤ 999; omega)
    have hq : zfl mem 0 4 = some (.ref 2) := (hI 4 (by decide)).trans hqr
    have hC := cQ_zaA (fun k a1 a2 => hF k (by omega) (by omega) (by omega)) hCr
    exact w_ch40A (S := (chN Q hu j (S, K, x, 0)).1) (K := (chN Q hu j (S, K, x, 0)).2.1) hm l0 l1 l2 l3 hp hq hC hW hS hw hH (fun z => by exfalso; omega) hK ⟨by omega, by omega⟩ ⟨by omega, by omega⟩ (by omega) (by omega) 
        (fun q1 hm2 => by
        rw [jn] at ef ex hS hK
        exact ⟨_, rfl, hm2, ef, ex, hS, hK, hF, hp⟩)
        (fun q1 v4 m2 hm2 k3 q8 v11 m9 hm9 k10 x12 e13 lo a0 a1 a2 a3 hm2 => by exfalso; omega)
        (fun q1 v4 m2 hm2 k3 q8 x17 e18 v24 m22 hm22 k23 x25 e26 lo a0 a1 a2 a3 hm2 => by exfalso; omega)
  | succ g ih =>
    intro j fo k mem lo hj ek ef ex hS hK hF hI hp hm l0 l1 l2 l3
    have b := chN_f (Q := Q) (hu := hu) (X := (S, K, x, 0)) j
    have b1 : 0 ≤ (chN Q hu j (S, K, x, 0)).2.2.2 := b.1
    have b2 : (chN Q hu j (S, K, x, 0)).2.2.2 ≤ 0 + (j : Int) := b.2
    have xb := chN_x (Q := Q) (hu := hu) (X := (S, K, x, 0)) hx j
    have nj : Sn (chN Q hu j (S, K, x, 0)).1 = Sn S + (j : Int) := chN_n j
    have hw := chN_w (hu := hu) (X := (S, K, x, 0)) hW hv j (by show Sn S + (j : Int) ≤ 999; omega)
    have hq : zfl mem 0 4 = some (.ref 2) := (hI 4 (by decide)).trans hqr
    have hC := cQ_zaA (fun k a1 a2 => hF k (by omega) (by omega) (by omega)) hCr
    have eg : (chN Q hu (j + 1) (S, K, x, 0)).2.2.2 = (chN Q hu j (S, K, x, 0)).2.2.2 + if (dkN Q (chN Q hu j (S, K, x, 0)).2.2.1).1 = -1 then 0 else 1 := rfl
    exact w_ch40A (S := (chN Q hu j (S, K, x, 0)).1) (K := (chN Q hu j (S, K, x, 0)).2.1) hm l0 l1 l2 l3 hp hq hC hW hS hw hH (fun z => by omega) hK ⟨by omega, by omega⟩ ⟨by omega, by omega⟩ (by omega) (by omega) 
        (fun q1 hm2 => by exfalso; omega)
        (fun q1 v4 m2 hm2 k3 q8 v11 m9 hm9 k10 x12 e13 lo a0 a1 a2 a3 hm2 => by
        obtain ⟨d1, d2, d3⟩ := k3
        rw [ex] at d2 d3
        have k := k10
        rw [d2] at k
        have k15 : gi _ 0 15 = _ := gi_zq (k.1 0 (by omega) (by omega))
        refine ih (j + 1) _ _ _ lo (by omega) (by rw [e13, ek]; rfl) (by rw [eg, if_pos (by omega)]; omega) (by rw [k15, d3]; rfl) k.2.2.1 k.2.2.2.1 (fun q q1 q2 q3 => (k.1 q q1 q2).trans ((d1.1 q q3).trans (hF q q1 q2 q3))) (fun u hu => (zfl_ea (k.1 0 (by omega) (by omega))).trans ((d1.2 u hu).trans (hI u hu))) k.2.1 hm2 a0 a1 a2 a3)
        (fun q1 v4 m2 hm2 k3 q8 x17 e18 v24 m22 hm22 k23 x25 e26 lo a0 a1 a2 a3 hm2 => by
        obtain ⟨d1, d2, d3⟩ := k3
        rw [ex] at d2 d3
        have k := k23
        rw [d2] at k
        have k15 : gi _ 0 15 = _ := gi_zq (k.1 0 (by omega) (by omega))
        refine ih (j + 1) _ _ _ lo (by omega) (by rw [e26, ek]; rfl) (by rw [eg, if_neg (by omega), e18]; omega) (by rw [k15, d3]; rfl) k.2.2.1 k.2.2.2.1 (fun q q1 q2 q3 => (k.1 q q1 q2).trans ((d1.1 q q3).trans (hF q q1 q2 q3))) (fun u hu => (zfl_ea (k.1 0 (by omega) (by omega))).trans ((d1.2 u hu).trans (hI u hu))) k.2.1 hm2 a0 a1 a2 a3)
theorem h_chA {n : Int32} (hm : aTm aT0 mem) (hq4 : zfl mem 0 4 = some (.ref 2)) (hp : zfl mem 181 0 = some (.ref 2)) (hC : cQ 2 3 4 7 8 9 12 13 Q mem) (hW : WQ Q) (hS : tS 31 Q hu S mem) (hv : wS Q S) (hH : wH Q hu) (hK : kC 34 K mem) (hP : rgC Q hu P0 mem) (x0 : 0 ≤ (gi mem 0 15).toInt) (hd : 15 ≤ d) : yC zpg d 133 [.ref 0, .int n] mem (fun r m => aTm aT0 m ∧ ((cgN Q S n.toInt ∧ (∃ fo : Int32, r = some (.int fo) ∧ fo.toInt = (chN Q hu n.toInt.toNat (S, K, (gi mem 0 15).toInt, 0)).2.2.2) ∧ (gi m 0 15).toInt = (chN Q hu n.toInt.toNat (S, K, (gi mem 0 15).toInt, 0)).2.2.1 ∧ (∀ k, ¬ (31 ≤ k ∧ k ≤ 184) → ¬ k = 0 → zat m k = zat mem k) ∧ tS 31 Q hu (chN Q hu n.toInt.toNat (S, K, (gi mem 0 15).toInt, 0)).1 m ∧ kC 34 (chN Q hu n.toInt.toNat (S, K, (gi mem 0 15).toInt, 0)).2.1 m ∧ rgC Q hu (pdN P0 (S, K)) m) ∨ (¬ cgN Q S n.toInt ∧ r = some (.int (-1)) ∧ rfX 220 2 mem m))) := by
  obtain ⟨d, rfl⟩ : ∃ q, d = q + 15 := ⟨d - 15, by omega⟩
  have c1 : (gi mem 2 1).toInt = Qc Q := hC.1.1
  have s0 := hS.1.1
  have x1 := (i32_b (gi mem 0 15)).2
  refine yC_of (t := tX11_chance) rfl rfl ?_
  exact w_ch0A (P0 := P0) (K := K) hm rfl rfl hW hS hK hP hq4 hC hv 
        (fun q1 y2 e3 hm2 => ⟨hm2, Or.inr ⟨fun w => by have w1 := w.1; have w2 := w.2; omega, rfl, rfX_k rfl rfl e3⟩⟩)
        (fun q1 q4 y5 e6 hm2 => ⟨hm2, Or.inr ⟨fun w => by have w1 := w.1; have w2 := w.2; omega, rfl, rfX_k rfl rfl e6⟩⟩)
        (fun q1 q4 q7 y8 e9 hm2 => ⟨hm2, Or.inr ⟨fun w => by have w1 := w.1; have w2 := w.2; omega, rfl, rfX_k rfl rfl e9⟩⟩)
        (fun q1 q4 q7 x10 e11 q12 y13 e14 hm2 => ⟨hm2, Or.inr ⟨fun w => by have w1 := w.1; have w2 := w.2; omega, rfl, rfX_k rfl rfl e14⟩⟩)
        (fun q1 q4 q7 x10 e11 q12 m15 hm15 k16 lo a0 a1 a2 a3 hm2 => by
    obtain ⟨F, R⟩ := k16
    have n0 : n.toInt = (n.toInt.toNat : Int) := by omega
    have e15 : gi _ 0 15 = _ := gi_zq (F 0 (by omega) (by omega))
    refine yR_mono ?_ (ch_lpA (S := S) (K := K) (x := (gi mem 0 15).toInt) (N := n.toInt.toNat) n0 (by omega) ((zfl_ea (F 0 (by omega) (by omega))).trans hq4) (cQ_kA (fun k hk => F k (by omega) (by omega)) hC) hW hv hH (by omega) ⟨x0, by omega⟩ n.toInt.toNat 0 0 0 _ lo (by omega) rfl rfl (congrArg Int32.toInt e15) (tS_zq (F 31 (by omega) (by omega)) (F 32 (by omega) (by omega)) (F 33 (by omega) (by omega)) hS) (kC_zq (F 34 (by omega) (by omega)) (F 35 (by omega) (by omega)) (F 36 (by omega) (by omega)) (F 37 (by omega) (by omega)) hK) (fun _ _ _ _ => rfl) (fun _ _ => rfl) ((zfl_ea (F 181 (by omega) (by omega))).trans hp) hm2 a0 a1 a2 a3)
    rintro r m ⟨fo, h1, h2, h3, h3x, h4, h5, h6, h7⟩
    exact ⟨h2, Or.inl ⟨⟨⟨by omega, by omega⟩, by omega, by omega⟩, ⟨fo, h1, h3⟩, h3x, fun k hk hk0 => (h6 k (by omega) (by omega) hk0).trans (F k (by omega) (by omega)), h4, h5, rgC_zq (fun k q1 q2 => h6 k (by omega) (by omega) (by omega)) R⟩⟩)
theorem h_loA {t : Int32} (hm : aTm aT0 mem) (hq4 : zfl mem 0 4 = some (.ref 2)) (hC : cQ 2 3 4 7 8 9 12 13 Q mem) (hW : WQ Q) (hS : tS 31 Q hu S mem) (hv : wS Q S) (hK : kC 34 K mem) (hP : rgC Q hu P0 mem) (hd : 15 ≤ d) : yC zpg d 134 [.ref 0, .int t] mem (fun r m => aTm aT0 m ∧ ((loN Q S t.toInt ∧ r = some (.int 1) ∧ (∀ k, ¬ (31 ≤ k ∧ k ≤ 180) → zat m k = zat mem k) ∧ tS 31 Q hu (tnS S t) m ∧ kC 34 (kpP K (Sn S, t.toInt, btI (Sm S) t.toInt)) m ∧ rgC Q hu (pdN P0 (S, K)) m) ∨ (¬ loN Q S t.toInt ∧ r = some (.int 0) ∧ rfX 220 3 mem m))) := by
  obtain ⟨d, rfl⟩ : ∃ q, d = q + 15 := ⟨d - 15, by omega⟩
  have cn := (cq_nA hC).1
  have t9 := hW.2.1.1
  have e9 : thN Q = ((Qt Q).length : Int) := rfl
  have s1 := hS.1.2
  refine yC_of (t := tX11_lose) rfl rfl ?_
  exact w_loA (P0 := P0) (K := K) hm hW hS hK hP hq4 hC hv (by omega) 
        (fun q1 y2 e3 hm2 => ⟨hm2, Or.inr ⟨fun w => by have w1 := w.1; omega, rfl, rfX_k rfl rfl e3⟩⟩)
        (fun q1 q4 y5 e6 hm2 => ⟨hm2, Or.inr ⟨fun w => by have w1 := w.1; omega, rfl, rfX_k rfl rfl e6⟩⟩)
        (fun q1 q4 q7 m8 hm8 k9 hm2 => by
      have z := mi_0 (by omega) (by omega) q7; rw [s1] at z; exact ⟨hm2, Or.inl ⟨⟨⟨by omega, by omega⟩, z⟩, rfl, k9.1, k9.2.1, k9.2.2.1, k9.2.2.2⟩⟩)
        (fun q1 q4 q7 y10 e11 hm2 => by
      have z := mi_1 (by omega) (by omega) q7; rw [s1] at z; exact ⟨hm2, Or.inr ⟨fun w => w.2 z, rfl, rfX_k rfl rfl e11⟩⟩)
theorem h_fiA {t : Int32} (hm : aTm aT0 mem) (hq4 : zfl mem 0 4 = some (.ref 2)) (hC : cQ 2 3 4 7 8 9 12 13 Q mem) (hW : WQ Q) (hS : tS 31 Q hu S mem) (hv : wS Q S) (hK : kC 34 K mem) (hP : rgC Q hu P0 mem) (hd : 15 ≤ d) : yC zpg d 135 [.ref 0, .int t] mem (fun r m => aTm aT0 m ∧ ((fiN Q S t.toInt ∧ r = some (.int 1) ∧ (∀ k, ¬ (31 ≤ k ∧ k ≤ 180) → zat m k = zat mem k) ∧ tS 31 Q hu (tnS S t) m ∧ kC 34 (kpP K (Sn S, t.toInt, btI (Sm S) t.toInt)) m ∧ rgC Q hu (pdN P0 (S, K)) m) ∨ (¬ fiN Q S t.toInt ∧ r = some (.int 0) ∧ rfX 220 3 mem m))) := by
  obtain ⟨d, rfl⟩ : ∃ q, d = q + 15 := ⟨d - 15, by omega⟩
  have cn := (cq_nA hC).1
  have t9 := hW.2.1.1
  have e9 : thN Q = ((Qt Q).length : Int) := rfl
  have s1 := hS.1.2
  refine yC_of (t := tX11_find) rfl rfl ?_
  exact w_fiA (P0 := P0) (K := K) hm hW hS hK hP hq4 hC hv (by omega) 
        (fun q1 y2 e3 hm2 => ⟨hm2, Or.inr ⟨fun w => by have w1 := w.1; omega, rfl, rfX_k rfl rfl e3⟩⟩)
        (fun q1 q4 y5 e6 hm2 => ⟨hm2, Or.inr ⟨fun w => by have w1 := w.1; omega, rfl, rfX_k rfl rfl e6⟩⟩)
        (fun q1 q4 q7 y8 e9 hm2 => by
      have z := mi_0 (by omega) (by omega) q7; rw [s1] at z; exact ⟨hm2, Or.inr ⟨fun w => z w.2, rfl, rfX_k rfl rfl e9⟩⟩)
        (fun q1 q4 q7 m10 hm10 k11 hm2 => by
      have z := mi_1 (by omega) (by omega) q7; rw [s1] at z; exact ⟨hm2, Or.inl ⟨⟨⟨by omega, by omega⟩, z⟩, rfl, k11.1, k11.2.1, k11.2.2.1, k11.2.2.2⟩⟩)
theorem h_leA {f x y : Int32} (hm : aTm aT0 mem) (hq4 : zfl mem 0 4 = some (.ref 2)) (hC : cQ 2 3 4 7 8 9 12 13 Q mem) (hW : WQ Q) (hS : tS 31 Q hu S mem) (hv : wS Q S) (hK : kC 34 K mem) (hP : rgC Q hu P0 mem) (hd : 15 ≤ d) : yC zpg d 136 [.ref 0, .int f, .int x, .int y] mem (fun r m => aTm aT0 m ∧ ((leN Q S f.toInt x.toInt y.toInt ∧ r = some (.int 1) ∧ (∀ k, ¬ (31 ≤ k ∧ k ≤ 180) → zat m k = zat mem k) ∧ tS 31 Q hu (ldS S f.toInt (8 * y.toInt + x.toInt)) m ∧ kC 34 K m ∧ rgC Q hu (pdN P0 (S, K)) m) ∨ (¬ leN Q S f.toInt x.toInt y.toInt ∧ r = some (.int 0) ∧ rfX 220 3 mem m))) := by
  obtain ⟨d, rfl⟩ : ∃ q, d = q + 15 := ⟨d - 15, by omega⟩
  have cf := (cq_nA hC).2
  have f9 := hW.2.1.2.1
  have e9 : foN Q = ((Qf Q).length : Int) := rfl
  have hb := hW.1
  have s3 : 0 ≤ f.toInt → f.toInt < foN Q → gn (ga mem 33) f.toInt = Sp S f.toInt := hS.2.2.1 f.toInt
  refine yC_of (t := tX11_lead) rfl rfl ?_
  exact w_leA (P0 := P0) (K := K) hm hW hS hK hP hq4 hC hv (by omega) 
        (fun q1 y2 e3 hm2 => ⟨hm2, Or.inr ⟨fun w => by have w1 := w.1; omega, rfl, rfX_k rfl rfl e3⟩⟩)
        (fun q1 q4 y5 e6 hm2 => ⟨hm2, Or.inr ⟨fun w => by have w1 := w.1; omega, rfl, rfX_k rfl rfl e6⟩⟩)
        (fun q1 q4 v7 k8 q9 y10 e11 hm2 => ⟨hm2, Or.inr ⟨fun w => by
      rcases k8 with u | u
      · have u1 := u.1; omega
      · exact u.2 w.2.1, rfl, rfX_k rfl rfl e11⟩⟩)
        (fun q1 q4 v7 k8 q9 y12 e13 => by
      have fl : frL Q x.toInt y.toInt := by
        rcases k8 with w | w
        · exact w.2
        · exfalso; have w1 := w.1; omega
      have f1 := fl.1
      have f2 := fl.2.1
      have f3 := fl.2.2.1
      omega)
        (fun q1 q4 v7 k8 q9 y12 e13 x14 e15 => by
      have fl : frL Q x.toInt y.toInt := by
        rcases k8 with w | w
        · exact w.2
        · exfalso; have w1 := w.1; omega
      have f1 := fl.1
      have f2 := fl.2.1
      have f3 := fl.2.2.1
      omega)
        (fun q1 q4 v7 k8 q9 y12 e13 x14 e15 x16 e17 q18 m19 hm19 k20 => by
      have fl : frL Q x.toInt y.toInt := by
        rcases k8 with w | w
        · exact w.2
        · exfalso; have w1 := w.1; omega
      have f1 := fl.1
      have f2 := fl.2.1
      have f3 := fl.2.2.1
      omega)
        (fun q1 q4 v7 k8 q9 y12 e13 x14 e15 x16 e17 q18 m19 hm19 k20 x21 e22 => by
      have fl : frL Q x.toInt y.toInt := by
        rcases k8 with w | w
        · exact w.2
        · exfalso; have w1 := w.1; omega
      have f1 := fl.1
      have f2 := fl.2.1
      have f3 := fl.2.2.1
      omega)
        (fun q1 q4 v7 k8 q9 y12 e13 x14 e15 x16 e17 q18 m19 hm19 k20 x21 e22 x23 e24 hm2 => by
      have fl : frL Q x.toInt y.toInt := by
        rcases k8 with w | w
        · exact w.2
        · exfalso; have w1 := w.1; omega
      have f1 := fl.1
      have f2 := fl.2.1
      have f3 := fl.2.2.1
      have g := s3 (by omega) (by omega)
      obtain ⟨F, R⟩ := k20
      have fF : ∀ k, ¬ k = 33 → zat (sx m19 33 f x23) k = zat m19 k := fun k hk => zat_sa_ne (fun w => hk w.symm)
      refine ⟨hm2, Or.inl ⟨⟨⟨by omega, by omega⟩, fl, by omega⟩, rfl, fun k hk => (fF k (by omega)).trans (F k (by omega) (by omega)), ?_, kC_zq ((fF 34 (by decide)).trans (F 34 (by omega) (by omega))) ((fF 35 (by decide)).trans (F 35 (by omega) (by omega))) ((fF 36 (by decide)).trans (F 36 (by omega) (by omega))) ((fF 37 (by decide)).trans (F 37 (by omega) (by omega))) hK, rgC_zq (fun k q1 q2 => fF k (by omega)) R⟩⟩
      have G : ∀ i, gi (sx m19 33 f x23) 31 i = gi mem 31 i := fun i => (gi_zq (fF 31 (by decide))).trans (gi_zq (F 31 (by omega) (by omega)))
      refine ⟨⟨by rw [G]; exact hS.1.1, by rw [G]; exact hS.1.2⟩, fun u u0 u1 => ?_, fun u u0 u1 => ?_, by rw [G, G]; exact hS.2.2.2⟩
      · rw [ga_zq ((fF 32 (by decide)).trans (F 32 (by omega) (by omega)))]
        exact hS.2.1 u u0 u1
      · show gn (ga (sa m19 33 f.toNatClampNeg x23) 33) u = if u = f.toInt then 8 * y.toInt + x.toInt else Sp S u
        rw [ga_sa_eq, gn_set rfl (by omega) (by rw [(ga_ty aR_33 hm19).2.1]; omega) u0, ga_zq (F 33 (by omega) (by omega))]
        by_cases w : u = f.toInt
        · rw [if_pos w, if_pos w]
          omega
        · rw [if_neg w, if_neg w]
          exact hS.2.2.1 u u0 u1)
        (fun q1 q4 v7 k8 q9 y12 e13 x14 e15 x16 e17 q18 y25 e26 hm2 => ⟨hm2, Or.inr ⟨fun w => by
      have g := s3 (by omega) (by omega)
      have w3 := w.2.2
      omega, rfl, rfX_k rfl rfl e26⟩⟩)
end ACA
section ACB
variable {d : Nat} {mem : zM} {Q : Qd} {S : Sd} {K : Kd} {P0 : Pd} {hu : Int → Int}
set_option maxRecDepth 100000 in
theorem w_hlB {d : Nat} {mem : zM} {P : Option Value → zM → Prop} {x y : Int32} (hm : aTm aT0 mem) (hc1 : (gi mem 14 1).toInt ≤ 7) (hc2 : (gi mem 14 2).toInt ≤ 7) (h1 : (x).toInt < 0 → aTm aT0 mem → P (some (.int 0)) mem) (h2 : 0 ≤ (x).toInt → (gi mem 14 1).toInt ≤ (x).toInt → aTm aT0 mem → P (some (.int 0)) mem) (h3 : 0 ≤ (x).toInt → (x).toInt < (gi mem 14 1).toInt → (y).toInt < 0 → aTm aT0 mem → P (some (.int 0)) mem) (h4 : 0 ≤ (x).toInt → (x).toInt < (gi mem 14 1).toInt → 0 ≤ (y).toInt → (gi mem 14 2).toInt ≤ (y).toInt → aTm aT0 mem → P (some (.int 0)) mem) (h5 : 0 ≤ (x).toInt → (x).toInt < (gi mem 14 1).toInt → 0 ≤ (y).toInt → (y).toInt < (gi mem 14 2).toInt → ∀ (x5 : Int32), x5.toInt = ((y).toInt * 8) → ∀ (x7 : Int32), x7.toInt = (((y).toInt * 8) + (x).toInt) → ¬ ((gL mem 14 6) &&& ((1 : Int64) <<< ((x7 : Int32).toInt64 &&& 63))) = 0 → aTm aT0 mem → P (some (.int 0)) mem) (h6 : 0 ≤ (x).toInt → (x).toInt < (gi mem 14 1).toInt → 0 ≤ (y).toInt → (y).toInt < (gi mem 14 2).toInt → ∀ (x5 : Int32), x5.toInt = ((y).toInt * 8) → ∀ (x7 : Int32), x7.toInt = (((y).toInt * 8) + (x).toInt) → ((gL mem 14 6) &&& ((1 : Int64) <<< ((x7 : Int32).toInt64 &&& 63))) = 0 → aTm aT0 mem → P (some (.int 1)) mem) : yR zpg tX4_hasFreeCell (d + 1) (0, [(0, .ref 14), (1, .int x), (2, .int y)], [], mem) P := by
  refine yR_m 3 (fun _ _ _ _ => rfl) ?_
  refine wR_iv rfl rfl quB_e hm rfl rfl rfl rfl ?_
  show yR zpg tX4_hasCell d (0, [(0, .ref 14), (1, .int x), (2, .int y)], [], mem) _
  refine yR_m 1 (fun _ _ _ _ => rfl) ?_
  refine wR_if_lt rfl (a := (x).toInt) rfl (fun q1 => ?_) (fun q1 => ?_)
  ·
    refine yR_m 1 (fun _ _ _ _ => rfl) ?_
    refine yR_rz rfl ⟨by decide, by decide⟩ ?_
    show yR zpg tX4_hasFreeCell (d + 1) (6, [(0, .ref 14), (1, .int x), (2, .int y)], [.int 0], mem) _
    refine wR_if_eq rfl (a := 0) rfl (fun _ => ?_) (fun q => by exfalso; omega)
    refine yR_m 1 (fun _ _ _ _ => rfl) ?_
    exact yR_rz rfl ⟨by decide, by decide⟩ (h1 q1 hm)
  ·
    refine yR_m 2 (fun _ _ _ _ => rfl) ?_
    refine wR_gi rfl quB_e quB_1 hm rfl ?_
    refine wR_ic_ge rfl (a := (x).toInt) (c := (gi mem 14 1).toInt) rfl rfl (fun q2 => ?_) (fun q2 => ?_)
    ·
      refine yR_m 1 (fun _ _ _ _ => rfl) ?_
      refine yR_rz rfl ⟨by decide, by decide⟩ ?_
      show yR zpg tX4_hasFreeCell (d + 1) (6, [(0, .ref 14), (1, .int x), (2, .int y)], [.int 0], mem) _
      refine wR_if_eq rfl (a := 0) rfl (fun _ => ?_) (fun q => by exfalso; omega)
      refine yR_m 1 (fun _ _ _ _ => rfl) ?_
      exact yR_rz rfl ⟨by decide, by decide⟩ (h2 q1 q2 hm)
    ·
      refine yR_m 1 (fun _ _ _ _ => rfl) ?_
      refine wR_if_lt rfl (a := (y).toInt) rfl (fun q3 => ?_) (fun q3 => ?_)
      ·
        refine yR_m 1 (fun _ _ _ _ => rfl) ?_
        refine yR_rz rfl ⟨by decide, by decide⟩ ?_
        show yR zpg tX4_hasFreeCell (d + 1) (6, [(0, .ref 14), (1, .int x), (2, .int y)], [.int 0], mem) _
        refine wR_if_eq rfl (a := 0) rfl (fun _ => ?_) (fun q => by exfalso; omega)
        refine yR_m 1 (fun _ _ _ _ => rfl) ?_
        exact yR_rz rfl ⟨by decide, by decide⟩ (h3 q1 q2 q3 hm)
      ·
        refine yR_m 2 (fun _ _ _ _ => rfl) ?_
        refine wR_gi rfl quB_e quB_2 hm rfl ?_
        refine wR_ic_ge rfl (a := (y).toInt) (c := (gi mem 14 2).toInt) rfl rfl (fun q4 => ?_) (fun q4 => ?_)
        ·
          refine yR_m 1 (fun _ _ _ _ => rfl) ?_
          refine yR_rz rfl ⟨by decide, by decide⟩ ?_
          show yR zpg tX4_hasFreeCell (d + 1) (6, [(0, .ref 14), (1, .int x), (2, .int y)], [.int 0], mem) _
          refine wR_if_eq rfl (a := 0) rfl (fun _ => ?_) (fun q => by exfalso; omega)
          refine yR_m 1 (fun _ _ _ _ => rfl) ?_
          exact yR_rz rfl ⟨by decide, by decide⟩ (h4 q1 q2 q3 q4 hm)
        ·
          refine yR_m 2 (fun _ _ _ _ => rfl) ?_
          refine yR_rz rfl ⟨by decide, by decide⟩ ?_
          show yR zpg tX4_hasFreeCell (d + 1) (6, [(0, .ref 14), (1, .int x), (2, .int y)], [.int 1], mem) _
          refine wR_if_eq rfl (a := 1) rfl (fun q => by exfalso; omega) (fun _ => ?_)
          refine yR_m 1 (fun _ _ _ _ => rfl) ?_
          refine wR_gL rfl quB_e quB_6 hm rfl ?_
          refine yR_m 2 (fun _ _ _ _ => rfl) ?_
          refine wR_is rfl rfl rfl rfl rfl rfl ?_
          show yR zpg tX11_placeOf d (0, [(0, .int x), (1, .int y)], [], mem) _
          refine yR_m 2 (fun _ _ _ _ => rfl) ?_
          refine wN_mul (a := (y).toInt) (b := 8) rfl rfl rfl (by omega) (fun x5 e6 => ?_)
          refine yR_m 1 (fun _ _ _ _ => rfl) ?_
          refine wN_add (a := ((y).toInt * 8)) (b := (x).toInt) rfl e6 rfl (by omega) (fun x7 e8 => ?_)
          refine yR_ri rfl ?_
          show yR zpg tX4_hasFreeCell (d + 1) (18, [(0, .ref 14), (1, .int x), (2, .int y)], [.int x7, .long (gL mem 14 6)], mem) _
          refine wR_is rfl rfl rfl rfl rfl rfl ?_
          show yR zpg tX11_bitOf d (0, [(0, .int x7)], [], mem) _
          refine yR_m 3 (fun _ _ _ _ => rfl) ?_
          refine yR_rl rfl ?_
          show yR zpg tX4_hasFreeCell (d + 1) (21, [(0, .ref 14), (1, .int x), (2, .int y)], [.long ((1 : Int64) <<< ((x7 : Int32).toInt64 &&& 63)), .long (gL mem 14 6)], mem) _
          refine yR_m 3 (fun _ _ _ _ => rfl) ?_
          refine wR_lf_ne rfl (fun q9 => ?_) (fun q9 => ?_)
          ·
            refine yR_m 1 (fun _ _ _ _ => rfl) ?_
            exact yR_rz rfl ⟨by decide, by decide⟩ (h5 q1 q2 q3 q4 x5 e6 x7 e8 q9 hm)
          ·
            refine yR_m 2 (fun _ _ _ _ => rfl) ?_
            exact yR_rz rfl ⟨by decide, by decide⟩ (h6 q1 q2 q3 q4 x5 e6 x7 e8 q9 hm)

theorem h_hlB {x y : Int32} (hW : WQ Q) (hm : aTm aT0 mem) (hQ : cQ 14 15 16 19 20 21 24 25 Q mem) (hd : 2 ≤ d) : yC zpg d 51 [.ref 14, .int x, .int y] mem (fun r m => ∃ v : Int32, r = some (.int v) ∧ mem = m ∧ ((v.toInt = 1 ∧ frL Q x.toInt y.toInt) ∨ (v.toInt = 0 ∧ ¬ frL Q x.toInt y.toInt))) := by
  obtain ⟨d, rfl⟩ : ∃ q, d = q + 2 := ⟨d - 2, by omega⟩
  have c1 := hQ.1.1
  have c2 := hQ.1.2
  have hb := hW.1
  refine yC_of (t := tX4_hasFreeCell) rfl rfl ?_
  exact w_hlB hm (by omega) (by omega) 
        (fun q1 hm2 => ⟨0, rfl, rfl, Or.inr ⟨rfl, fun w => by have w1 := w.1; have w2 := w.2.1; have w3 := w.2.2.1; omega⟩⟩)
        (fun q1 q2 hm2 => ⟨0, rfl, rfl, Or.inr ⟨rfl, fun w => by have w1 := w.1; have w2 := w.2.1; have w3 := w.2.2.1; omega⟩⟩)
        (fun q1 q2 q3 hm2 => ⟨0, rfl, rfl, Or.inr ⟨rfl, fun w => by have w1 := w.1; have w2 := w.2.1; have w3 := w.2.2.1; omega⟩⟩)
        (fun q1 q2 q3 q4 hm2 => ⟨0, rfl, rfl, Or.inr ⟨rfl, fun w => by have w1 := w.1; have w2 := w.2.1; have w3 := w.2.2.1; omega⟩⟩)
        (fun q1 q2 q3 q4 x5 e6 x7 e8 q9 hm2 => by
          have K := bL_and (y := gL mem 14 6) (k := x7) (by omega) (by omega)
          have K2 := hQ.2.1 x7.toInt (by omega) (by omega)
          have e : 8 * y.toInt + x.toInt = x7.toInt := by omega
          exact ⟨0, rfl, rfl, Or.inr ⟨rfl, fun w => q9 (K.2 (fun z => w.2.2.2 (by rw [e]; exact K2.1 z)))⟩⟩)
        (fun q1 q2 q3 q4 x5 e6 x7 e8 q9 hm2 => by
          have K := bL_and (y := gL mem 14 6) (k := x7) (by omega) (by omega)
          have K2 := hQ.2.1 x7.toInt (by omega) (by omega)
          have e : 8 * y.toInt + x.toInt = x7.toInt := by omega
          exact ⟨1, rfl, rfl, Or.inl ⟨rfl, ⟨by omega, by omega⟩, by omega, by omega, fun z => K.1 q9 (K2.2 (by rw [← e]; exact z))⟩⟩)
set_option maxRecDepth 100000 in
theorem w_ni0B {d : Nat} {mem : zM} {P : Option Value → zM → Prop} {n : Int32} {lo : List (Nat × Value)} (hm : aTm aT0 mem) (l_0 : zlg lo 0 = some (.ref 0)) (l_1 : zlg lo 1 = some (.int n)) {Q : Qd} {S : Sd} {K : Kd} {P0 : Pd} {hu : Int → Int} (hW : WQ Q) (hS : tS 31 Q hu S mem) (hK : kC 34 K mem) (hP : rgC Q hu P0 mem) (hq4 : zfl mem 0 4 = some (.ref 14)) (hC : cQ 14 15 16 19 20 21 24 25 Q mem) (hv : wS Q S) (h1 : (n).toInt < 1 → ∀ (y2 : Int32), y2.toInt = (gn (ga mem 220) 2) → aTm aT0 (sx mem 220 2 (y2 + 1)) → P (some (.int (-1))) (sx mem 220 2 (y2 + 1))) (h2 : 1 ≤ (n).toInt → (gi mem 14 1).toInt ≤ 0 → ∀ (y5 : Int32), y5.toInt = (gn (ga mem 220) 2) → aTm aT0 (sx mem 220 2 (y5 + 1)) → P (some (.int (-1))) (sx mem 220 2 (y5 + 1))) (h3 : 1 ≤ (n).toInt → 0 < (gi mem 14 1).toInt → 40 < (n).toInt → ∀ (y8 : Int32), y8.toInt = (gn (ga mem 220) 2) → aTm aT0 (sx mem 220 2 (y8 + 1)) → P (some (.int (-1))) (sx mem 220 2 (y8 + 1))) (h4 : 1 ≤ (n).toInt → 0 < (gi mem 14 1).toInt → (n).toInt ≤ 40 → ∀ (x10 : Int32), x10.toInt = ((gi mem 31 0).toInt + (n).toInt) → 999 < ((gi mem 31 0).toInt + (n).toInt) → ∀ (y13 : Int32), y13.toInt = (gn (ga mem 220) 2) → aTm aT0 (sx mem 220 2 (y13 + 1)) → P (some (.int (-1))) (sx mem 220 2 (y13 + 1))) (h5 : 1 ≤ (n).toInt → 0 < (gi mem 14 1).toInt → (n).toInt ≤ 40 → ∀ (x10 : Int32), x10.toInt = ((gi mem 31 0).toInt + (n).toInt) → ((gi mem 31 0).toInt + (n).toInt) ≤ 999 → ∀ (m15 : zM), aTm aT0 m15 → ((∀ k, ¬ (41 ≤ k ∧ k ≤ 180) → ¬ k = 38 → zat m15 k = zat mem k) ∧ rgC Q hu (pdN P0 (S, K)) m15) → ∀ lo, zlg lo 0 = some (.ref 0) → zlg lo 1 = some (.int n) → zlg lo 2 = some (.int 0) → zlg lo 3 = some (.int 0) → aTm aT0 m15 → yR zpg tX11_nights (d + 14) (40, lo, [], m15) P) : yR zpg tX11_nights (d + 14) (0, lo, [], mem) P := by
  have v1 := hS.1.1
  have v2 := hv.1
  refine wR_li rfl l_1 ?_
  refine yR_m 1 (fun _ _ _ _ => rfl) ?_
  refine wR_ic_lt rfl (a := (n).toInt) (c := 1) rfl rfl (fun q1 => ?_) (fun q1 => ?_)
  ·
    refine wR_la rfl l_0 ?_
    refine yR_m 1 (fun _ _ _ _ => rfl) ?_
    refine wR_iv rfl rfl cO_e hm rfl rfl rfl rfl ?_
    show yR zpg tX11_refuse (d + 13) (0, [(0, .ref 0), (1, .int 2)], [], mem) _
    refine yR_m 1 (fun _ _ _ _ => rfl) ?_
    refine wR_gr rfl cO_e cO_14 hm ?_
    refine yR_m 2 (fun _ _ _ _ => rfl) ?_
    refine wN_al (a := 2) rfl aR_220 hm rfl rfl (by decide) (fun y2 e3 => ?_)
    refine yR_m 2 (fun _ _ _ _ => rfl) ?_
    refine wN_as (a := 2) rfl aR_220 hm rfl (by decide) ?_
    have hm_1 : aTm aT0 (sx mem 220 2 (y2 + 1)) := tm_sa aR_220 hm (i32_b _)
    refine yR_m 1 (fun _ _ _ _ => rfl) ?_
    refine yR_ri rfl ?_
    show yR zpg tX11_nights (d + 14) (20, lo, [.int (-1)], (sx mem 220 2 (y2 + 1))) _
    exact yR_ri rfl (h1 q1 y2 e3 hm_1)
  ·
    refine wR_la rfl l_0 ?_
    refine wR_li rfl l_1 ?_
    refine yR_m 1 (fun _ _ _ _ => rfl) ?_
    refine wR_iv rfl rfl cO_e hm rfl rfl rfl rfl ?_
    show yR zpg tX11_comes (d + 13) (0, [(0, .ref 0), (1, .int n), (2, .int 40)], [], mem) _
    refine yR_m 1 (fun _ _ _ _ => rfl) ?_
    refine wR_gq rfl cO_e hm hq4 ?_
    refine wR_gi rfl quB_e quB_1 hm rfl ?_
    refine wR_if_le rfl (a := (gi mem 14 1).toInt) rfl (fun q4 => ?_) (fun q4 => ?_)
    ·
      refine yR_m 1 (fun _ _ _ _ => rfl) ?_
      refine yR_rz rfl ⟨by decide, by decide⟩ ?_
      show yR zpg tX11_nights (d + 14) (12, lo, [.int 0], mem) _
      refine wR_if_ne rfl (a := 0) rfl (fun q => by exfalso; omega) (fun _ => ?_)
      refine wR_la rfl l_0 ?_
      refine yR_m 1 (fun _ _ _ _ => rfl) ?_
      refine wR_iv rfl rfl cO_e hm rfl rfl rfl rfl ?_
      show yR zpg tX11_refuse (d + 13) (0, [(0, .ref 0), (1, .int 2)], [], mem) _
      refine yR_m 1 (fun _ _ _ _ => rfl) ?_
      refine wR_gr rfl cO_e cO_14 hm ?_
      refine yR_m 2 (fun _ _ _ _ => rfl) ?_
      refine wN_al (a := 2) rfl aR_220 hm rfl rfl (by decide) (fun y5 e6 => ?_)
      refine yR_m 2 (fun _ _ _ _ => rfl) ?_
      refine wN_as (a := 2) rfl aR_220 hm rfl (by decide) ?_
      have hm_2 : aTm aT0 (sx mem 220 2 (y5 + 1)) := tm_sa aR_220 hm (i32_b _)
      refine yR_m 1 (fun _ _ _ _ => rfl) ?_
      refine yR_ri rfl ?_
      show yR zpg tX11_nights (d + 14) (20, lo, [.int (-1)], (sx mem 220 2 (y5 + 1))) _
      exact yR_ri rfl (h2 q1 q4 y5 e6 hm_2)
    ·
      refine yR_m 1 (fun _ _ _ _ => rfl) ?_
      refine wR_if_lt rfl (a := (n).toInt) rfl (fun q => by exfalso; omega) (fun _ => ?_)
      refine yR_m 2 (fun _ _ _ _ => rfl) ?_
      refine wR_ic_gt rfl (a := (n).toInt) (c := 40) rfl rfl (fun q7 => ?_) (fun q7 => ?_)
      ·
        refine yR_m 1 (fun _ _ _ _ => rfl) ?_
        refine yR_rz rfl ⟨by decide, by decide⟩ ?_
        show yR zpg tX11_nights (d + 14) (12, lo, [.int 0], mem) _
        refine wR_if_ne rfl (a := 0) rfl (fun q => by exfalso; omega) (fun _ => ?_)
        refine wR_la rfl l_0 ?_
        refine yR_m 1 (fun _ _ _ _ => rfl) ?_
        refine wR_iv rfl rfl cO_e hm rfl rfl rfl rfl ?_
        show yR zpg tX11_refuse (d + 13) (0, [(0, .ref 0), (1, .int 2)], [], mem) _
        refine yR_m 1 (fun _ _ _ _ => rfl) ?_
        refine wR_gr rfl cO_e cO_14 hm ?_
        refine yR_m 2 (fun _ _ _ _ => rfl) ?_
        refine wN_al (a := 2) rfl aR_220 hm rfl rfl (by decide) (fun y8 e9 => ?_)
        refine yR_m 2 (fun _ _ _ _ => rfl) ?_
        refine wN_as (a := 2) rfl aR_220 hm rfl (by decide) ?_
        have hm_3 : aTm aT0 (sx mem 220 2 (y8 + 1)) := tm_sa aR_220 hm (i32_b _)
        refine yR_m 1 (fun _ _ _ _ => rfl) ?_
        refine yR_ri rfl ?_
        show yR zpg tX11_nights (d + 14) (20, lo, [.int (-1)], (sx mem 220 2 (y8 + 1))) _
        exact yR_ri rfl (h3 q1 q4 q7 y8 e9 hm_3)
      ·
        refine yR_m 1 (fun _ _ _ _ => rfl) ?_
        refine wR_gr rfl cO_e cO_7 hm ?_
        refine wR_gi rfl nO_e nO_0 hm rfl ?_
        refine yR_m 1 (fun _ _ _ _ => rfl) ?_
        refine wN_add (a := (gi mem 31 0).toInt) (b := (n).toInt) rfl rfl rfl (by omega) (fun x10 e11 => ?_)
        refine yR_m 1 (fun _ _ _ _ => rfl) ?_
        refine wR_ic_gt rfl (a := ((gi mem 31 0).toInt + (n).toInt)) (c := 999) e11 rfl (fun q12 => ?_) (fun q12 => ?_)
        ·
          refine yR_m 1 (fun _ _ _ _ => rfl) ?_
          refine yR_rz rfl ⟨by decide, by decide⟩ ?_
          show yR zpg tX11_nights (d + 14) (12, lo, [.int 0], mem) _
          refine wR_if_ne rfl (a := 0) rfl (fun q => by exfalso; omega) (fun _ => ?_)
          refine wR_la rfl l_0 ?_
          refine yR_m 1 (fun _ _ _ _ => rfl) ?_
          refine wR_iv rfl rfl cO_e hm rfl rfl rfl rfl ?_
          show yR zpg tX11_refuse (d + 13) (0, [(0, .ref 0), (1, .int 2)], [], mem) _
          refine yR_m 1 (fun _ _ _ _ => rfl) ?_
          refine wR_gr rfl cO_e cO_14 hm ?_
          refine yR_m 2 (fun _ _ _ _ => rfl) ?_
          refine wN_al (a := 2) rfl aR_220 hm rfl rfl (by decide) (fun y13 e14 => ?_)
          refine yR_m 2 (fun _ _ _ _ => rfl) ?_
          refine wN_as (a := 2) rfl aR_220 hm rfl (by decide) ?_
          have hm_4 : aTm aT0 (sx mem 220 2 (y13 + 1)) := tm_sa aR_220 hm (i32_b _)
          refine yR_m 1 (fun _ _ _ _ => rfl) ?_
          refine yR_ri rfl ?_
          show yR zpg tX11_nights (d + 14) (20, lo, [.int (-1)], (sx mem 220 2 (y13 + 1))) _
          exact yR_ri rfl (h4 q1 q4 q7 x10 e11 q12 y13 e14 hm_4)
        ·
          refine yR_m 2 (fun _ _ _ _ => rfl) ?_
          refine yR_rz rfl ⟨by decide, by decide⟩ ?_
          show yR zpg tX11_nights (d + 14) (12, lo, [.int 1], mem) _
          refine wR_if_ne rfl (a := 1) rfl (fun _ => ?_) (fun q => by exfalso; omega)
          refine wR_la rfl l_0 ?_
          refine wR_gr rfl cO_e cO_9 hm ?_
          refine wR_la rfl l_0 ?_
          refine wR_gr rfl cO_e cO_7 hm ?_
          refine wR_la rfl l_0 ?_
          refine wR_gr rfl cO_e cO_8 hm ?_
          refine wR_cv rfl rfl rngO_e hm rfl (h_pu (Q := Q) (hu := hu) (S := S) (K := K) (P := P0) hm hW hS hK hP (by omega)) ?_
          rintro _ m15 ⟨rfl, hm15, k16⟩
          show yR zpg tX11_nights (d + 14) (36, lo, [], m15) _
          refine yR_m 1 (fun _ _ _ _ => rfl) ?_
          refine wR_si rfl rfl (fun lo17 e18 f19 => ?_)
          have lo17_0 := f19 0 _ (by decide) (Or.inl rfl) l_0
          have lo17_1 := f19 1 _ (by decide) (Or.inl rfl) l_1
          refine yR_m 1 (fun _ _ _ _ => rfl) ?_
          refine wR_si rfl rfl (fun lo20 e21 f22 => ?_)
          have lo20_2 := f22 2 _ (by decide) (Or.inl rfl) e18
          have lo20_0 := f22 0 _ (by decide) (Or.inl rfl) lo17_0
          have lo20_1 := f22 1 _ (by decide) (Or.inl rfl) lo17_1
          exact h5 q1 q4 q7 x10 e11 q12 m15 hm15 k16 lo20 lo20_0 lo20_1 lo20_2 e21 hm15

set_option maxRecDepth 100000 in
theorem w_ni40B {d : Nat} {mem : zM} {P : Option Value → zM → Prop} {n fo k : Int32} {lo : List (Nat × Value)} (hm : aTm aT0 mem) (l_0 : zlg lo 0 = some (.ref 0)) (l_1 : zlg lo 1 = some (.int n)) (l_2 : zlg lo 2 = some (.int fo)) (l_3 : zlg lo 3 = some (.int k)) {Q : Qd} {S : Sd} {K : Kd} {hu : Int → Int} (hp : zfl mem 181 0 = some (.ref 14)) (hq4 : zfl mem 0 4 = some (.ref 14)) (hC : cQ 14 15 16 19 20 21 24 25 Q mem) (hW : WQ Q) (hS : tS 31 Q hu S mem) (hv : wS Q S) (hH : wH Q hu) (hn : (k).toInt < (n).toInt → Sn S < 999) (hK : kC 34 K mem) (hf : 0 ≤ fo.toInt ∧ fo.toInt ≤ 400) (hk : 0 ≤ k.toInt ∧ k.toInt ≤ 40) (n40 : n.toInt ≤ 40) (h1 : (n).toInt ≤ (k).toInt → aTm aT0 mem → P (some (.int fo)) mem) (s1 : (k).toInt < (n).toInt → ∀ (v4 : Int32) (m2 : zM), aTm aT0 m2 → ((∀ k, ¬ (31 ≤ k ∧ k ≤ 37) → ¬ (181 ≤ k ∧ k ≤ 184) → zat m2 k = zat mem k) ∧ zfl m2 181 0 = some (.ref 14) ∧ tS 31 Q hu (tkS Q hu ((-1) : Int32).toInt S) m2 ∧ kC 34 (tkK Q hu ((-1) : Int32).toInt S K) m2 ∧ v4.toInt = fdN Q hu ((-1) : Int32).toInt S) → (-2147483648 : Int) ≤ ((fo).toInt + (v4).toInt) ∧ ((fo).toInt + (v4).toInt) ≤ 2147483647) (h2 : (k).toInt < (n).toInt → ∀ (v4 : Int32) (m2 : zM), aTm aT0 m2 → ((∀ k, ¬ (31 ≤ k ∧ k ≤ 37) → ¬ (181 ≤ k ∧ k ≤ 184) → zat m2 k = zat mem k) ∧ zfl m2 181 0 = some (.ref 14) ∧ tS 31 Q hu (tkS Q hu ((-1) : Int32).toInt S) m2 ∧ kC 34 (tkK Q hu ((-1) : Int32).toInt S K) m2 ∧ v4.toInt = fdN Q hu ((-1) : Int32).toInt S) → ∀ (x5 : Int32), x5.toInt = ((fo).toInt + (v4).toInt) → ∀ (x10 : Int32), x10.toInt = ((k).toInt + 1) → ∀ lo, zlg lo 0 = some (.ref 0) → zlg lo 1 = some (.int n) → zlg lo 2 = some (.int x5) → zlg lo 3 = some (.int x10) → aTm aT0 m2 → yR zpg tX11_nights (d + 14) (40, lo, [], m2) P) : yR zpg tX11_nights (d + 14) (40, lo, [], mem) P := by
  refine wR_li rfl l_3 ?_
  refine wR_li rfl l_1 ?_
  refine wR_ic_ge rfl (a := (k).toInt) (c := (n).toInt) rfl rfl (fun q1 => ?_) (fun q1 => ?_)
  ·
    refine wR_li rfl l_2 ?_
    exact yR_ri rfl (h1 q1 hm)
  ·
    refine wR_li rfl l_2 ?_
    refine wR_la rfl l_0 ?_
    refine yR_m 1 (fun _ _ _ _ => rfl) ?_
    refine wR_cv rfl rfl cO_e hm rfl (h_pkB (Q := Q) (S := S) (K := K) (hu := hu) hm hq4 hp hC hW hS hv hH (hn q1) hK (by omega)) ?_
    rintro _ m2 ⟨v4, rfl, hm2, k3⟩
    show yR zpg tX11_nights (d + 14) (51, lo, [.int v4, .int fo], m2) _
    refine wN_add (a := (fo).toInt) (b := (v4).toInt) rfl rfl rfl (s1 q1 v4 m2 hm2 k3) (fun x5 e6 => ?_)
    refine wR_si rfl rfl (fun lo7 e8 f9 => ?_)
    have lo7_0 := f9 0 _ (by decide) (Or.inl rfl) l_0
    have lo7_1 := f9 1 _ (by decide) (Or.inl rfl) l_1
    have lo7_3 := f9 3 _ (by decide) (Or.inl rfl) l_3
    refine wN_in (a := (k).toInt) (b := 1) rfl rfl lo7_3 rfl rfl (by omega) (fun x10 e11 => fun lo12 e13 f14 => ?_)
    have lo12_2 := f14 2 _ (by decide) (Or.inl rfl) e8
    have lo12_0 := f14 0 _ (by decide) (Or.inl rfl) lo7_0
    have lo12_1 := f14 1 _ (by decide) (Or.inl rfl) lo7_1
    exact yR_m 1 (fun _ _ _ _ => rfl) (h2 q1 v4 m2 hm2 k3 x5 e6 x10 e11 lo12 lo12_0 lo12_1 lo12_2 e13 hm2)

set_option maxRecDepth 100000 in
theorem w_ch0B {d : Nat} {mem : zM} {P : Option Value → zM → Prop} {n : Int32} {lo : List (Nat × Value)} (hm : aTm aT0 mem) (l_0 : zlg lo 0 = some (.ref 0)) (l_1 : zlg lo 1 = some (.int n)) {Q : Qd} {S : Sd} {K : Kd} {P0 : Pd} {hu : Int → Int} (hW : WQ Q) (hS : tS 31 Q hu S mem) (hK : kC 34 K mem) (hP : rgC Q hu P0 mem) (hq4 : zfl mem 0 4 = some (.ref 14)) (hC : cQ 14 15 16 19 20 21 24 25 Q mem) (hv : wS Q S) (h1 : (n).toInt < 1 → ∀ (y2 : Int32), y2.toInt = (gn (ga mem 220) 2) → aTm aT0 (sx mem 220 2 (y2 + 1)) → P (some (.int (-1))) (sx mem 220 2 (y2 + 1))) (h2 : 1 ≤ (n).toInt → (gi mem 14 1).toInt ≤ 0 → ∀ (y5 : Int32), y5.toInt = (gn (ga mem 220) 2) → aTm aT0 (sx mem 220 2 (y5 + 1)) → P (some (.int (-1))) (sx mem 220 2 (y5 + 1))) (h3 : 1 ≤ (n).toInt → 0 < (gi mem 14 1).toInt → 40 < (n).toInt → ∀ (y8 : Int32), y8.toInt = (gn (ga mem 220) 2) → aTm aT0 (sx mem 220 2 (y8 + 1)) → P (some (.int (-1))) (sx mem 220 2 (y8 + 1))) (h4 : 1 ≤ (n).toInt → 0 < (gi mem 14 1).toInt → (n).toInt ≤ 40 → ∀ (x10 : Int32), x10.toInt = ((gi mem 31 0).toInt + (n).toInt) → 999 < ((gi mem 31 0).toInt + (n).toInt) → ∀ (y13 : Int32), y13.toInt = (gn (ga mem 220) 2) → aTm aT0 (sx mem 220 2 (y13 + 1)) → P (some (.int (-1))) (sx mem 220 2 (y13 + 1))) (h5 : 1 ≤ (n).toInt → 0 < (gi mem 14 1).toInt → (n).toInt ≤ 40 → ∀ (x10 : Int32), x10.toInt = ((gi mem 31 0).toInt + (n).toInt) → ((gi mem 31 0).toInt + (n).toInt) ≤ 999 → ∀ (m15 : zM), aTm aT0 m15 → ((∀ k, ¬ (41 ≤ k ∧ k ≤ 180) → ¬ k = 38 → zat m15 k = zat mem k) ∧ rgC Q hu (pdN P0 (S, K)) m15) → ∀ lo, zlg lo 0 = some (.ref 0) → zlg lo 1 = some (.int n) → zlg lo 2 = some (.int 0) → zlg lo 3 = some (.int 0) → aTm aT0 m15 → yR zpg tX11_chance (d + 14) (40, lo, [], m15) P) : yR zpg tX11_chance (d + 14) (0, lo, [], mem) P := by
  have v1 := hS.1.1
  have v2 := hv.1
  refine wR_li rfl l_1 ?_
  refine yR_m 1 (fun _ _ _ _ => rfl) ?_
  refine wR_ic_lt rfl (a := (n).toInt) (c := 1) rfl rfl (fun q1 => ?_) (fun q1 => ?_)
  ·
    refine wR_la rfl l_0 ?_
    refine yR_m 1 (fun _ _ _ _ => rfl) ?_
    refine wR_iv rfl rfl cO_e hm rfl rfl rfl rfl ?_
    show yR zpg tX11_refuse (d + 13) (0, [(0, .ref 0), (1, .int 2)], [], mem) _
    refine yR_m 1 (fun _ _ _ _ => rfl) ?_
    refine wR_gr rfl cO_e cO_14 hm ?_
    refine yR_m 2 (fun _ _ _ _ => rfl) ?_
    refine wN_al (a := 2) rfl aR_220 hm rfl rfl (by decide) (fun y2 e3 => ?_)
    refine yR_m 2 (fun _ _ _ _ => rfl) ?_
    refine wN_as (a := 2) rfl aR_220 hm rfl (by decide) ?_
    have hm_1 : aTm aT0 (sx mem 220 2 (y2 + 1)) := tm_sa aR_220 hm (i32_b _)
    refine yR_m 1 (fun _ _ _ _ => rfl) ?_
    refine yR_ri rfl ?_
    show yR zpg tX11_chance (d + 14) (20, lo, [.int (-1)], (sx mem 220 2 (y2 + 1))) _
    exact yR_ri rfl (h1 q1 y2 e3 hm_1)
  ·
    refine wR_la rfl l_0 ?_
    refine wR_li rfl l_1 ?_
    refine yR_m 1 (fun _ _ _ _ => rfl) ?_
    refine wR_iv rfl rfl cO_e hm rfl rfl rfl rfl ?_
    show yR zpg tX11_comes (d + 13) (0, [(0, .ref 0), (1, .int n), (2, .int 40)], [], mem) _
    refine yR_m 1 (fun _ _ _ _ => rfl) ?_
    refine wR_gq rfl cO_e hm hq4 ?_
    refine wR_gi rfl quB_e quB_1 hm rfl ?_
    refine wR_if_le rfl (a := (gi mem 14 1).toInt) rfl (fun q4 => ?_) (fun q4 => ?_)
    ·
      refine yR_m 1 (fun _ _ _ _ => rfl) ?_
      refine yR_rz rfl ⟨by decide, by decide⟩ ?_
      show yR zpg tX11_chance (d + 14) (12, lo, [.int 0], mem) _
      refine wR_if_ne rfl (a := 0) rfl (fun q => by exfalso; omega) (fun _ => ?_)
      refine wR_la rfl l_0 ?_
      refine yR_m 1 (fun _ _ _ _ => rfl) ?_
      refine wR_iv rfl rfl cO_e hm rfl rfl rfl rfl ?_
      show yR zpg tX11_refuse (d + 13) (0, [(0, .ref 0), (1, .int 2)], [], mem) _
      refine yR_m 1 (fun _ _ _ _ => rfl) ?_
      refine wR_gr rfl cO_e cO_14 hm ?_
      refine yR_m 2 (fun _ _ _ _ => rfl) ?_
      refine wN_al (a := 2) rfl aR_220 hm rfl rfl (by decide) (fun y5 e6 => ?_)
      refine yR_m 2 (fun _ _ _ _ => rfl) ?_
      refine wN_as (a := 2) rfl aR_220 hm rfl (by decide) ?_
      have hm_2 : aTm aT0 (sx mem 220 2 (y5 + 1)) := tm_sa aR_220 hm (i32_b _)
      refine yR_m 1 (fun _ _ _ _ => rfl) ?_
      refine yR_ri rfl ?_
      show yR zpg tX11_chance (d + 14) (20, lo, [.int (-1)], (sx mem 220 2 (y5 + 1))) _
      exact yR_ri rfl (h2 q1 q4 y5 e6 hm_2)
    ·
      refine yR_m 1 (fun _ _ _ _ => rfl) ?_
      refine wR_if_lt rfl (a := (n).toInt) rfl (fun q => by exfalso; omega) (fun _ => ?_)
      refine yR_m 2 (fun _ _ _ _ => rfl) ?_
      refine wR_ic_gt rfl (a := (n).toInt) (c := 40) rfl rfl (fun q7 => ?_) (fun q7 => ?_)
      ·
        refine yR_m 1 (fun _ _ _ _ => rfl) ?_
        refine yR_rz rfl ⟨by decide, by decide⟩ ?_
        show yR zpg tX11_chance (d + 14) (12, lo, [.int 0], mem) _
        refine wR_if_ne rfl (a := 0) rfl (fun q => by exfalso; omega) (fun _ => ?_)
        refine wR_la rfl l_0 ?_
        refine yR_m 1 (fun _ _ _ _ => rfl) ?_
        refine wR_iv rfl rfl cO_e hm rfl rfl rfl rfl ?_
        show yR zpg tX11_refuse (d + 13) (0, [(0, .ref 0), (1, .int 2)], [], mem) _
        refine yR_m 1 (fun _ _ _ _ => rfl) ?_
        refine wR_gr rfl cO_e cO_14 hm ?_
        refine yR_m 2 (fun _ _ _ _ => rfl) ?_
        refine wN_al (a := 2) rfl aR_220 hm rfl rfl (by decide) (fun y8 e9 => ?_)
        refine yR_m 2 (fun _ _ _ _ => rfl) ?_
        refine wN_as (a := 2) rfl aR_220 hm rfl (by decide) ?_
        have hm_3 : aTm aT0 (sx mem 220 2 (y8 + 1)) := tm_sa aR_220 hm (i32_b _)
        refine yR_m 1 (fun _ _ _ _ => rfl) ?_
        refine yR_ri rfl ?_
        show yR zpg tX11_chance (d + 14) (20, lo, [.int (-1)], (sx mem 220 2 (y8 + 1))) _
        exact yR_ri rfl (h3 q1 q4 q7 y8 e9 hm_3)
      ·
        refine yR_m 1 (fun _ _ _ _ => rfl) ?_
        refine wR_gr rfl cO_e cO_7 hm ?_
        refine wR_gi rfl nO_e nO_0 hm rfl ?_
        refine yR_m 1 (fun _ _ _ _ => rfl) ?_
        refine wN_add (a := (gi mem 31 0).toInt) (b := (n).toInt) rfl rfl rfl (by omega) (fun x10 e11 => ?_)
        refine yR_m 1 (fun _ _ _ _ => rfl) ?_
        refine wR_ic_gt rfl (a := ((gi mem 31 0).toInt + (n).toInt)) (c := 999) e11 rfl (fun q12 => ?_) (fun q12 => ?_)
        ·
          refine yR_m 1 (fun _ _ _ _ => rfl) ?_
          refine yR_rz rfl ⟨by decide, by decide⟩ ?_
          show yR zpg tX11_chance (d + 14) (12, lo, [.int 0], mem) _
          refine wR_if_ne rfl (a := 0) rfl (fun q => by exfalso; omega) (fun _ => ?_)
          refine wR_la rfl l_0 ?_
          refine yR_m 1 (fun _ _ _ _ => rfl) ?_
          refine wR_iv rfl rfl cO_e hm rfl rfl rfl rfl ?_
          show yR zpg tX11_refuse (d + 13) (0, [(0, .ref 0), (1, .int 2)], [], mem) _
          refine yR_m 1 (fun _ _ _ _ => rfl) ?_
          refine wR_gr rfl cO_e cO_14 hm ?_
          refine yR_m 2 (fun _ _ _ _ => rfl) ?_
          refine wN_al (a := 2) rfl aR_220 hm rfl rfl (by decide) (fun y13 e14 => ?_)
          refine yR_m 2 (fun _ _ _ _ => rfl) ?_
          refine wN_as (a := 2) rfl aR_220 hm rfl (by decide) ?_
          have hm_4 : aTm aT0 (sx mem 220 2 (y13 + 1)) := tm_sa aR_220 hm (i32_b _)
          refine yR_m 1 (fun _ _ _ _ => rfl) ?_
          refine yR_ri rfl ?_
          show yR zpg tX11_chance (d + 14) (20, lo, [.int (-1)], (sx mem 220 2 (y13 + 1))) _
          exact yR_ri rfl (h4 q1 q4 q7 x10 e11 q12 y13 e14 hm_4)
        ·
          refine yR_m 2 (fun _ _ _ _ => rfl) ?_
          refine yR_rz rfl ⟨by decide, by decide⟩ ?_
          show yR zpg tX11_chance (d + 14) (12, lo, [.int 1], mem) _
          refine wR_if_ne rfl (a := 1) rfl (fun _ => ?_) (fun q => by exfalso; omega)
          refine wR_la rfl l_0 ?_
          refine wR_gr rfl cO_e cO_9 hm ?_
          refine wR_la rfl l_0 ?_
          refine wR_gr rfl cO_e cO_7 hm ?_
          refine wR_la rfl l_0 ?_
          refine wR_gr rfl cO_e cO_8 hm ?_
          refine wR_cv rfl rfl rngO_e hm rfl (h_pu (Q := Q) (hu := hu) (S := S) (K := K) (P := P0) hm hW hS hK hP (by omega)) ?_
          rintro _ m15 ⟨rfl, hm15, k16⟩
          show yR zpg tX11_chance (d + 14) (36, lo, [], m15) _
          refine yR_m 1 (fun _ _ _ _ => rfl) ?_
          refine wR_si rfl rfl (fun lo17 e18 f19 => ?_)
          have lo17_0 := f19 0 _ (by decide) (Or.inl rfl) l_0
          have lo17_1 := f19 1 _ (by decide) (Or.inl rfl) l_1
          refine yR_m 1 (fun _ _ _ _ => rfl) ?_
          refine wR_si rfl rfl (fun lo20 e21 f22 => ?_)
          have lo20_2 := f22 2 _ (by decide) (Or.inl rfl) e18
          have lo20_0 := f22 0 _ (by decide) (Or.inl rfl) lo17_0
          have lo20_1 := f22 1 _ (by decide) (Or.inl rfl) lo17_1
          exact h5 q1 q4 q7 x10 e11 q12 m15 hm15 k16 lo20 lo20_0 lo20_1 lo20_2 e21 hm15

set_option maxRecDepth 100000 in
theorem w_ch40B {d : Nat} {mem : zM} {P : Option Value → zM → Prop} {n fo k : Int32} {lo : List (Nat × Value)} (hm : aTm aT0 mem) (l_0 : zlg lo 0 = some (.ref 0)) (l_1 : zlg lo 1 = some (.int n)) (l_2 : zlg lo 2 = some (.int fo)) (l_3 : zlg lo 3 = some (.int k)) {Q : Qd} {S : Sd} {K : Kd} {hu : Int → Int} (hp : zfl mem 181 0 = some (.ref 14)) (hq4 : zfl mem 0 4 = some (.ref 14)) (hC : cQ 14 15 16 19 20 21 24 25 Q mem) (hW : WQ Q) (hS : tS 31 Q hu S mem) (hv : wS Q S) (hH : wH Q hu) (hn : (k).toInt < (n).toInt → Sn S < 999) (hK : kC 34 K mem) (hf : 0 ≤ fo.toInt ∧ fo.toInt ≤ 400) (hk : 0 ≤ k.toInt ∧ k.toInt ≤ 40) (n40 : n.toInt ≤ 40) (x0 : 0 ≤ (gi mem 0 15).toInt) (h1 : (n).toInt ≤ (k).toInt → aTm aT0 mem → P (some (.int fo)) mem) (h2 : (k).toInt < (n).toInt → ∀ (v4 : Int32) (m2 : zM), aTm aT0 m2 → (fr0 mem m2 ∧ v4.toInt = (dkN Q (gi mem 0 15).toInt).1 ∧ (gi m2 0 15).toInt = (dkN Q (gi mem 0 15).toInt).2) → (v4).toInt = (-1) → ∀ (v11 : Int32) (m9 : zM), aTm aT0 m9 → ((∀ k, ¬ (31 ≤ k ∧ k ≤ 37) → ¬ (181 ≤ k ∧ k ≤ 184) → zat m9 k = zat m2 k) ∧ zfl m9 181 0 = some (.ref 14) ∧ tS 31 Q hu (tkS Q hu (v4 : Int32).toInt S) m9 ∧ kC 34 (tkK Q hu (v4 : Int32).toInt S K) m9 ∧ v11.toInt = fdN Q hu (v4 : Int32).toInt S) → ∀ (x12 : Int32), x12.toInt = ((k).toInt + 1) → ∀ lo, zlg lo 0 = some (.ref 0) → zlg lo 1 = some (.int n) → zlg lo 2 = some (.int fo) → zlg lo 3 = some (.int x12) → aTm aT0 m9 → yR zpg tX11_chance (d + 14) (40, lo, [], m9) P) (h3 : (k).toInt < (n).toInt → ∀ (v4 : Int32) (m2 : zM), aTm aT0 m2 → (fr0 mem m2 ∧ v4.toInt = (dkN Q (gi mem 0 15).toInt).1 ∧ (gi m2 0 15).toInt = (dkN Q (gi mem 0 15).toInt).2) → ¬ (v4).toInt = (-1) → ∀ (x17 : Int32), x17.toInt = ((fo).toInt + 1) → ∀ (v24 : Int32) (m22 : zM), aTm aT0 m22 → ((∀ k, ¬ (31 ≤ k ∧ k ≤ 37) → ¬ (181 ≤ k ∧ k ≤ 184) → zat m22 k = zat m2 k) ∧ zfl m22 181 0 = some (.ref 14) ∧ tS 31 Q hu (tkS Q hu (v4 : Int32).toInt S) m22 ∧ kC 34 (tkK Q hu (v4 : Int32).toInt S K) m22 ∧ v24.toInt = fdN Q hu (v4 : Int32).toInt S) → ∀ (x25 : Int32), x25.toInt = ((k).toInt + 1) → ∀ lo, zlg lo 0 = some (.ref 0) → zlg lo 1 = some (.int n) → zlg lo 2 = some (.int x17) → zlg lo 3 = some (.int x25) → aTm aT0 m22 → yR zpg tX11_chance (d + 14) (40, lo, [], m22) P) : yR zpg tX11_chance (d + 14) (40, lo, [], mem) P := by
  refine wR_li rfl l_3 ?_
  refine wR_li rfl l_1 ?_
  refine wR_ic_ge rfl (a := (k).toInt) (c := (n).toInt) rfl rfl (fun q1 => ?_) (fun q1 => ?_)
  ·
    refine wR_li rfl l_2 ?_
    exact yR_ri rfl (h1 q1 hm)
  ·
    refine wR_la rfl l_0 ?_
    refine wR_cv rfl rfl cO_e hm rfl (h_ddB (Q := Q) hm hq4 hC x0 (by omega)) ?_
    rintro _ m2 ⟨v4, rfl, hm2, k3⟩
    show yR zpg tX11_chance (d + 14) (49, lo, [.int v4], m2) _
    refine wR_si rfl rfl (fun lo5 e6 f7 => ?_)
    have lo5_0 := f7 0 _ (by decide) (Or.inl rfl) l_0
    have lo5_1 := f7 1 _ (by decide) (Or.inl rfl) l_1
    have lo5_2 := f7 2 _ (by decide) (Or.inl rfl) l_2
    have lo5_3 := f7 3 _ (by decide) (Or.inl rfl) l_3
    refine wR_li rfl e6 ?_
    refine yR_m 1 (fun _ _ _ _ => rfl) ?_
    refine wR_ic_eq rfl (a := (v4).toInt) (c := (-1)) rfl tm1 (fun q8 => ?_) (fun q8 => ?_)
    ·
      refine wR_la rfl lo5_0 ?_
      refine wR_li rfl e6 ?_
      refine wR_cv rfl rfl cO_e hm2 rfl (h_pkB (Q := Q) (S := S) (K := K) (hu := hu) hm2 ((k3.1.2 4 (by decide)).trans hq4) ((zfl_ea (k3.1.1 181 (by decide))).trans hp) (cQ_zaB (fun k a1 a2 => k3.1.1 k (by omega)) hC) hW (tS_zq (k3.1.1 31 (by decide)) (k3.1.1 32 (by decide)) (k3.1.1 33 (by decide)) hS) hv hH (hn q1) (kC_zq (k3.1.1 34 (by decide)) (k3.1.1 35 (by decide)) (k3.1.1 36 (by decide)) (k3.1.1 37 (by decide)) hK) (by omega)) ?_
      rintro _ m9 ⟨v11, rfl, hm9, k10⟩
      show yR zpg tX11_chance (d + 14) (66, lo5, [.int v11], m9) _
      refine yR_m 1 (fun _ _ _ _ => rfl) ?_
      refine wN_in (a := (k).toInt) (b := 1) rfl rfl lo5_3 rfl rfl (by omega) (fun x12 e13 => fun lo14 e15 f16 => ?_)
      have lo14_4 := f16 4 _ (by decide) (Or.inl rfl) e6
      have lo14_0 := f16 0 _ (by decide) (Or.inl rfl) lo5_0
      have lo14_1 := f16 1 _ (by decide) (Or.inl rfl) lo5_1
      have lo14_2 := f16 2 _ (by decide) (Or.inl rfl) lo5_2
      exact yR_m 1 (fun _ _ _ _ => rfl) (h2 q1 v4 m2 hm2 k3 q8 v11 m9 hm9 k10 x12 e13 lo14 lo14_0 lo14_1 lo14_2 e15 hm9)
    ·
      refine wN_in (a := (fo).toInt) (b := 1) rfl rfl lo5_2 rfl rfl (by omega) (fun x17 e18 => fun lo19 e20 f21 => ?_)
      have lo19_4 := f21 4 _ (by decide) (Or.inl rfl) e6
      have lo19_0 := f21 0 _ (by decide) (Or.inl rfl) lo5_0
      have lo19_1 := f21 1 _ (by decide) (Or.inl rfl) lo5_1
      have lo19_3 := f21 3 _ (by decide) (Or.inl rfl) lo5_3
      refine wR_la rfl lo19_0 ?_
      refine wR_li rfl lo19_4 ?_
      refine wR_cv rfl rfl cO_e hm2 rfl (h_pkB (Q := Q) (S := S) (K := K) (hu := hu) hm2 ((k3.1.2 4 (by decide)).trans hq4) ((zfl_ea (k3.1.1 181 (by decide))).trans hp) (cQ_zaB (fun k a1 a2 => k3.1.1 k (by omega)) hC) hW (tS_zq (k3.1.1 31 (by decide)) (k3.1.1 32 (by decide)) (k3.1.1 33 (by decide)) hS) hv hH (hn q1) (kC_zq (k3.1.1 34 (by decide)) (k3.1.1 35 (by decide)) (k3.1.1 36 (by decide)) (k3.1.1 37 (by decide)) hK) (by omega)) ?_
      rintro _ m22 ⟨v24, rfl, hm22, k23⟩
      show yR zpg tX11_chance (d + 14) (66, lo19, [.int v24], m22) _
      refine yR_m 1 (fun _ _ _ _ => rfl) ?_
      refine wN_in (a := (k).toInt) (b := 1) rfl rfl lo19_3 rfl rfl (by omega) (fun x25 e26 => fun lo27 e28 f29 => ?_)
      have lo27_2 := f29 2 _ (by decide) (Or.inl rfl) e20
      have lo27_4 := f29 4 _ (by decide) (Or.inl rfl) lo19_4
      have lo27_0 := f29 0 _ (by decide) (Or.inl rfl) lo19_0
      have lo27_1 := f29 1 _ (by decide) (Or.inl rfl) lo19_1
      exact yR_m 1 (fun _ _ _ _ => rfl) (h3 q1 v4 m2 hm2 k3 q8 x17 e18 v24 m22 hm22 k23 x25 e26 lo27 lo27_0 lo27_1 lo27_2 e28 hm22)

set_option maxRecDepth 100000 in
theorem w_loB {d : Nat} {mem : zM} {P : Option Value → zM → Prop} {t : Int32} (hm : aTm aT0 mem) {Q : Qd} {S : Sd} {K : Kd} {P0 : Pd} {hu : Int → Int} (hW : WQ Q) (hS : tS 31 Q hu S mem) (hK : kC 34 K mem) (hP : rgC Q hu P0 mem) (hq4 : zfl mem 0 4 = some (.ref 14)) (hC : cQ 14 15 16 19 20 21 24 25 Q mem) (hv : wS Q S) (c9 : (gi mem 14 7).toInt ≤ 9) (h1 : (t).toInt < 0 → ∀ (y2 : Int32), y2.toInt = (gn (ga mem 220) 3) → aTm aT0 (sx mem 220 3 (y2 + 1)) → P (some (.int 0)) (sx mem 220 3 (y2 + 1))) (h2 : 0 ≤ (t).toInt → (gi mem 14 7).toInt ≤ (t).toInt → ∀ (y5 : Int32), y5.toInt = (gn (ga mem 220) 3) → aTm aT0 (sx mem 220 3 (y5 + 1)) → P (some (.int 0)) (sx mem 220 3 (y5 + 1))) (h3 : 0 ≤ (t).toInt → (t).toInt < (gi mem 14 7).toInt → (((gi mem 31 1) >>> (t &&& 31)) &&& 1).toInt = 0 → ∀ (m8 : zM), aTm aT0 m8 → ((∀ k, ¬ (31 ≤ k ∧ k ≤ 180) → zat m8 k = zat mem k) ∧ tS 31 Q hu (tnS S t) m8 ∧ kC 34 (kpP K (Sn S, (t).toInt, btI (Sm S) (t).toInt)) m8 ∧ rgC Q hu (pdN P0 (S, K)) m8) → aTm aT0 m8 → P (some (.int 1)) m8) (h4 : 0 ≤ (t).toInt → (t).toInt < (gi mem 14 7).toInt → ¬ (((gi mem 31 1) >>> (t &&& 31)) &&& 1).toInt = 0 → ∀ (y10 : Int32), y10.toInt = (gn (ga mem 220) 3) → aTm aT0 (sx mem 220 3 (y10 + 1)) → P (some (.int 0)) (sx mem 220 3 (y10 + 1))) : yR zpg tX11_lose (d + 14) (0, [(0, .ref 0), (1, .int t)], [], mem) P := by
  refine yR_m 2 (fun _ _ _ _ => rfl) ?_
  refine wR_iv rfl rfl cO_e hm rfl rfl rfl rfl ?_
  show yR zpg tX11_isThing (d + 13) (0, [(0, .ref 0), (1, .int t)], [], mem) _
  refine yR_m 1 (fun _ _ _ _ => rfl) ?_
  refine wR_if_lt rfl (a := (t).toInt) rfl (fun q1 => ?_) (fun q1 => ?_)
  ·
    refine yR_m 1 (fun _ _ _ _ => rfl) ?_
    refine yR_rz rfl ⟨by decide, by decide⟩ ?_
    show yR zpg tX11_lose (d + 14) (5, [(0, .ref 0), (1, .int t)], [.int 0], mem) _
    refine wR_if_eq rfl (a := 0) rfl (fun _ => ?_) (fun q => by exfalso; omega)
    refine yR_m 2 (fun _ _ _ _ => rfl) ?_
    refine wR_iv rfl rfl cO_e hm rfl rfl rfl rfl ?_
    show yR zpg tX11_refused (d + 13) (0, [(0, .ref 0), (1, .int 3)], [], mem) _
    refine yR_m 1 (fun _ _ _ _ => rfl) ?_
    refine wR_gr rfl cO_e cO_14 hm ?_
    refine yR_m 2 (fun _ _ _ _ => rfl) ?_
    refine wN_al (a := 3) rfl aR_220 hm rfl rfl (by decide) (fun y2 e3 => ?_)
    refine yR_m 2 (fun _ _ _ _ => rfl) ?_
    refine wN_as (a := 3) rfl aR_220 hm rfl (by decide) ?_
    have hm_1 : aTm aT0 (sx mem 220 3 (y2 + 1)) := tm_sa aR_220 hm (i32_b _)
    refine yR_m 1 (fun _ _ _ _ => rfl) ?_
    refine yR_rz rfl ⟨by decide, by decide⟩ ?_
    show yR zpg tX11_lose (d + 14) (24, [(0, .ref 0), (1, .int t)], [.int 0], (sx mem 220 3 (y2 + 1))) _
    exact yR_rz rfl ⟨by decide, by decide⟩ (h1 q1 y2 e3 hm_1)
  ·
    refine yR_m 2 (fun _ _ _ _ => rfl) ?_
    refine wR_gq rfl cO_e hm hq4 ?_
    refine wR_gi rfl quB_e quB_7 hm rfl ?_
    refine wR_ic_ge rfl (a := (t).toInt) (c := (gi mem 14 7).toInt) rfl rfl (fun q4 => ?_) (fun q4 => ?_)
    ·
      refine yR_m 1 (fun _ _ _ _ => rfl) ?_
      refine yR_rz rfl ⟨by decide, by decide⟩ ?_
      show yR zpg tX11_lose (d + 14) (5, [(0, .ref 0), (1, .int t)], [.int 0], mem) _
      refine wR_if_eq rfl (a := 0) rfl (fun _ => ?_) (fun q => by exfalso; omega)
      refine yR_m 2 (fun _ _ _ _ => rfl) ?_
      refine wR_iv rfl rfl cO_e hm rfl rfl rfl rfl ?_
      show yR zpg tX11_refused (d + 13) (0, [(0, .ref 0), (1, .int 3)], [], mem) _
      refine yR_m 1 (fun _ _ _ _ => rfl) ?_
      refine wR_gr rfl cO_e cO_14 hm ?_
      refine yR_m 2 (fun _ _ _ _ => rfl) ?_
      refine wN_al (a := 3) rfl aR_220 hm rfl rfl (by decide) (fun y5 e6 => ?_)
      refine yR_m 2 (fun _ _ _ _ => rfl) ?_
      refine wN_as (a := 3) rfl aR_220 hm rfl (by decide) ?_
      have hm_2 : aTm aT0 (sx mem 220 3 (y5 + 1)) := tm_sa aR_220 hm (i32_b _)
      refine yR_m 1 (fun _ _ _ _ => rfl) ?_
      refine yR_rz rfl ⟨by decide, by decide⟩ ?_
      show yR zpg tX11_lose (d + 14) (24, [(0, .ref 0), (1, .int t)], [.int 0], (sx mem 220 3 (y5 + 1))) _
      exact yR_rz rfl ⟨by decide, by decide⟩ (h2 q1 q4 y5 e6 hm_2)
    ·
      refine yR_m 2 (fun _ _ _ _ => rfl) ?_
      refine yR_rz rfl ⟨by decide, by decide⟩ ?_
      show yR zpg tX11_lose (d + 14) (5, [(0, .ref 0), (1, .int t)], [.int 1], mem) _
      refine wR_if_eq rfl (a := 1) rfl (fun q => by exfalso; omega) (fun _ => ?_)
      refine yR_m 1 (fun _ _ _ _ => rfl) ?_
      refine wR_gr rfl cO_e cO_7 hm ?_
      refine yR_m 1 (fun _ _ _ _ => rfl) ?_
      refine wR_iv rfl rfl nO_e hm rfl rfl rfl rfl ?_
      show yR zpg tX8_isMissing (d + 13) (0, [(0, .ref 31), (1, .int t)], [], mem) _
      refine yR_m 1 (fun _ _ _ _ => rfl) ?_
      refine wR_gi rfl nO_e nO_1 hm rfl ?_
      refine yR_m 4 (fun _ _ _ _ => rfl) ?_
      refine wR_if_eq rfl (a := (((gi mem 31 1) >>> (t &&& 31)) &&& 1).toInt) rfl (fun q7 => ?_) (fun q7 => ?_)
      ·
        refine yR_m 1 (fun _ _ _ _ => rfl) ?_
        refine yR_rz rfl ⟨by decide, by decide⟩ ?_
        show yR zpg tX11_lose (d + 14) (16, [(0, .ref 0), (1, .int t)], [.int 0], mem) _
        refine wR_if_eq rfl (a := 0) rfl (fun _ => ?_) (fun q => by exfalso; omega)
        refine yR_m 2 (fun _ _ _ _ => rfl) ?_
        refine wR_cv rfl rfl cO_e hm rfl (h_tb (Q := Q) (hu := hu) (S := S) (K := K) (P0 := P0) hm hW hS hK hP (by omega) (by omega)) ?_
        rintro _ m8 ⟨rfl, hm8, k9⟩
        show yR zpg tX11_lose (d + 14) (30, [(0, .ref 0), (1, .int t)], [], m8) _
        refine yR_m 1 (fun _ _ _ _ => rfl) ?_
        exact yR_rz rfl ⟨by decide, by decide⟩ (h3 q1 q4 q7 m8 hm8 k9 hm8)
      ·
        refine yR_m 2 (fun _ _ _ _ => rfl) ?_
        refine yR_rz rfl ⟨by decide, by decide⟩ ?_
        show yR zpg tX11_lose (d + 14) (16, [(0, .ref 0), (1, .int t)], [.int 1], mem) _
        refine wR_if_eq rfl (a := 1) rfl (fun q => by exfalso; omega) (fun _ => ?_)
        refine yR_m 2 (fun _ _ _ _ => rfl) ?_
        refine wR_iv rfl rfl cO_e hm rfl rfl rfl rfl ?_
        show yR zpg tX11_refused (d + 13) (0, [(0, .ref 0), (1, .int 3)], [], mem) _
        refine yR_m 1 (fun _ _ _ _ => rfl) ?_
        refine wR_gr rfl cO_e cO_14 hm ?_
        refine yR_m 2 (fun _ _ _ _ => rfl) ?_
        refine wN_al (a := 3) rfl aR_220 hm rfl rfl (by decide) (fun y10 e11 => ?_)
        refine yR_m 2 (fun _ _ _ _ => rfl) ?_
        refine wN_as (a := 3) rfl aR_220 hm rfl (by decide) ?_
        have hm_3 : aTm aT0 (sx mem 220 3 (y10 + 1)) := tm_sa aR_220 hm (i32_b _)
        refine yR_m 1 (fun _ _ _ _ => rfl) ?_
        refine yR_rz rfl ⟨by decide, by decide⟩ ?_
        show yR zpg tX11_lose (d + 14) (24, [(0, .ref 0), (1, .int t)], [.int 0], (sx mem 220 3 (y10 + 1))) _
        exact yR_rz rfl ⟨by decide, by decide⟩ (h4 q1 q4 q7 y10 e11 hm_3)

set_option maxRecDepth 100000 in
theorem w_fiB {d : Nat} {mem : zM} {P : Option Value → zM → Prop} {t : Int32} (hm : aTm aT0 mem) {Q : Qd} {S : Sd} {K : Kd} {P0 : Pd} {hu : Int → Int} (hW : WQ Q) (hS : tS 31 Q hu S mem) (hK : kC 34 K mem) (hP : rgC Q hu P0 mem) (hq4 : zfl mem 0 4 = some (.ref 14)) (hC : cQ 14 15 16 19 20 21 24 25 Q mem) (hv : wS Q S) (c9 : (gi mem 14 7).toInt ≤ 9) (h1 : (t).toInt < 0 → ∀ (y2 : Int32), y2.toInt = (gn (ga mem 220) 3) → aTm aT0 (sx mem 220 3 (y2 + 1)) → P (some (.int 0)) (sx mem 220 3 (y2 + 1))) (h2 : 0 ≤ (t).toInt → (gi mem 14 7).toInt ≤ (t).toInt → ∀ (y5 : Int32), y5.toInt = (gn (ga mem 220) 3) → aTm aT0 (sx mem 220 3 (y5 + 1)) → P (some (.int 0)) (sx mem 220 3 (y5 + 1))) (h3 : 0 ≤ (t).toInt → (t).toInt < (gi mem 14 7).toInt → (((gi mem 31 1) >>> (t &&& 31)) &&& 1).toInt = 0 → ∀ (y8 : Int32), y8.toInt = (gn (ga mem 220) 3) → aTm aT0 (sx mem 220 3 (y8 + 1)) → P (some (.int 0)) (sx mem 220 3 (y8 + 1))) (h4 : 0 ≤ (t).toInt → (t).toInt < (gi mem 14 7).toInt → ¬ (((gi mem 31 1) >>> (t &&& 31)) &&& 1).toInt = 0 → ∀ (m10 : zM), aTm aT0 m10 → ((∀ k, ¬ (31 ≤ k ∧ k ≤ 180) → zat m10 k = zat mem k) ∧ tS 31 Q hu (tnS S t) m10 ∧ kC 34 (kpP K (Sn S, (t).toInt, btI (Sm S) (t).toInt)) m10 ∧ rgC Q hu (pdN P0 (S, K)) m10) → aTm aT0 m10 → P (some (.int 1)) m10) : yR zpg tX11_find (d + 14) (0, [(0, .ref 0), (1, .int t)], [], mem) P := by
  refine yR_m 2 (fun _ _ _ _ => rfl) ?_
  refine wR_iv rfl rfl cO_e hm rfl rfl rfl rfl ?_
  show yR zpg tX11_isThing (d + 13) (0, [(0, .ref 0), (1, .int t)], [], mem) _
  refine yR_m 1 (fun _ _ _ _ => rfl) ?_
  refine wR_if_lt rfl (a := (t).toInt) rfl (fun q1 => ?_) (fun q1 => ?_)
  ·
    refine yR_m 1 (fun _ _ _ _ => rfl) ?_
    refine yR_rz rfl ⟨by decide, by decide⟩ ?_
    show yR zpg tX11_find (d + 14) (5, [(0, .ref 0), (1, .int t)], [.int 0], mem) _
    refine wR_if_eq rfl (a := 0) rfl (fun _ => ?_) (fun q => by exfalso; omega)
    refine yR_m 2 (fun _ _ _ _ => rfl) ?_
    refine wR_iv rfl rfl cO_e hm rfl rfl rfl rfl ?_
    show yR zpg tX11_refused (d + 13) (0, [(0, .ref 0), (1, .int 3)], [], mem) _
    refine yR_m 1 (fun _ _ _ _ => rfl) ?_
    refine wR_gr rfl cO_e cO_14 hm ?_
    refine yR_m 2 (fun _ _ _ _ => rfl) ?_
    refine wN_al (a := 3) rfl aR_220 hm rfl rfl (by decide) (fun y2 e3 => ?_)
    refine yR_m 2 (fun _ _ _ _ => rfl) ?_
    refine wN_as (a := 3) rfl aR_220 hm rfl (by decide) ?_
    have hm_1 : aTm aT0 (sx mem 220 3 (y2 + 1)) := tm_sa aR_220 hm (i32_b _)
    refine yR_m 1 (fun _ _ _ _ => rfl) ?_
    refine yR_rz rfl ⟨by decide, by decide⟩ ?_
    show yR zpg tX11_find (d + 14) (24, [(0, .ref 0), (1, .int t)], [.int 0], (sx mem 220 3 (y2 + 1))) _
    exact yR_rz rfl ⟨by decide, by decide⟩ (h1 q1 y2 e3 hm_1)
  ·
    refine yR_m 2 (fun _ _ _ _ => rfl) ?_
    refine wR_gq rfl cO_e hm hq4 ?_
    refine wR_gi rfl quB_e quB_7 hm rfl ?_
    refine wR_ic_ge rfl (a := (t).toInt) (c := (gi mem 14 7).toInt) rfl rfl (fun q4 => ?_) (fun q4 => ?_)
    ·
      refine yR_m 1 (fun _ _ _ _ => rfl) ?_
      refine yR_rz rfl ⟨by decide, by decide⟩ ?_
      show yR zpg tX11_find (d + 14) (5, [(0, .ref 0), (1, .int t)], [.int 0], mem) _
      refine wR_if_eq rfl (a := 0) rfl (fun _ => ?_) (fun q => by exfalso; omega)
      refine yR_m 2 (fun _ _ _ _ => rfl) ?_
      refine wR_iv rfl rfl cO_e hm rfl rfl rfl rfl ?_
      show yR zpg tX11_refused (d + 13) (0, [(0, .ref 0), (1, .int 3)], [], mem) _
      refine yR_m 1 (fun _ _ _ _ => rfl) ?_
      refine wR_gr rfl cO_e cO_14 hm ?_
      refine yR_m 2 (fun _ _ _ _ => rfl) ?_
      refine wN_al (a := 3) rfl aR_220 hm rfl rfl (by decide) (fun y5 e6 => ?_)
      refine yR_m 2 (fun _ _ _ _ => rfl) ?_
      refine wN_as (a := 3) rfl aR_220 hm rfl (by decide) ?_
      have hm_2 : aTm aT0 (sx mem 220 3 (y5 + 1)) := tm_sa aR_220 hm (i32_b _)
      refine yR_m 1 (fun _ _ _ _ => rfl) ?_
      refine yR_rz rfl ⟨by decide, by decide⟩ ?_
      show yR zpg tX11_find (d + 14) (24, [(0, .ref 0), (1, .int t)], [.int 0], (sx mem 220 3 (y5 + 1))) _
      exact yR_rz rfl ⟨by decide, by decide⟩ (h2 q1 q4 y5 e6 hm_2)
    ·
      refine yR_m 2 (fun _ _ _ _ => rfl) ?_
      refine yR_rz rfl ⟨by decide, by decide⟩ ?_
      show yR zpg tX11_find (d + 14) (5, [(0, .ref 0), (1, .int t)], [.int 1], mem) _
      refine wR_if_eq rfl (a := 1) rfl (fun q => by exfalso; omega) (fun _ => ?_)
      refine yR_m 1 (fun _ _ _ _ => rfl) ?_
      refine wR_gr rfl cO_e cO_7 hm ?_
      refine yR_m 1 (fun _ _ _ _ => rfl) ?_
      refine wR_iv rfl rfl nO_e hm rfl rfl rfl rfl ?_
      show yR zpg tX8_isMissing (d + 13) (0, [(0, .ref 31), (1, .int t)], [], mem) _
      refine yR_m 1 (fun _ _ _ _ => rfl) ?_
      refine wR_gi rfl nO_e nO_1 hm rfl ?_
      refine yR_m 4 (fun _ _ _ _ => rfl) ?_
      refine wR_if_eq rfl (a := (((gi mem 31 1) >>> (t &&& 31)) &&& 1).toInt) rfl (fun q7 => ?_) (fun q7 => ?_)
      ·
        refine yR_m 1 (fun _ _ _ _ => rfl) ?_
        refine yR_rz rfl ⟨by decide, by decide⟩ ?_
        show yR zpg tX11_find (d + 14) (16, [(0, .ref 0), (1, .int t)], [.int 0], mem) _
        refine wR_if_ne rfl (a := 0) rfl (fun q => by exfalso; omega) (fun _ => ?_)
        refine yR_m 2 (fun _ _ _ _ => rfl) ?_
        refine wR_iv rfl rfl cO_e hm rfl rfl rfl rfl ?_
        show yR zpg tX11_refused (d + 13) (0, [(0, .ref 0), (1, .int 3)], [], mem) _
        refine yR_m 1 (fun _ _ _ _ => rfl) ?_
        refine wR_gr rfl cO_e cO_14 hm ?_
        refine yR_m 2 (fun _ _ _ _ => rfl) ?_
        refine wN_al (a := 3) rfl aR_220 hm rfl rfl (by decide) (fun y8 e9 => ?_)
        refine yR_m 2 (fun _ _ _ _ => rfl) ?_
        refine wN_as (a := 3) rfl aR_220 hm rfl (by decide) ?_
        have hm_3 : aTm aT0 (sx mem 220 3 (y8 + 1)) := tm_sa aR_220 hm (i32_b _)
        refine yR_m 1 (fun _ _ _ _ => rfl) ?_
        refine yR_rz rfl ⟨by decide, by decide⟩ ?_
        show yR zpg tX11_find (d + 14) (24, [(0, .ref 0), (1, .int t)], [.int 0], (sx mem 220 3 (y8 + 1))) _
        exact yR_rz rfl ⟨by decide, by decide⟩ (h3 q1 q4 q7 y8 e9 hm_3)
      ·
        refine yR_m 2 (fun _ _ _ _ => rfl) ?_
        refine yR_rz rfl ⟨by decide, by decide⟩ ?_
        show yR zpg tX11_find (d + 14) (16, [(0, .ref 0), (1, .int t)], [.int 1], mem) _
        refine wR_if_ne rfl (a := 1) rfl (fun _ => ?_) (fun q => by exfalso; omega)
        refine yR_m 2 (fun _ _ _ _ => rfl) ?_
        refine wR_cv rfl rfl cO_e hm rfl (h_tb (Q := Q) (hu := hu) (S := S) (K := K) (P0 := P0) hm hW hS hK hP (by omega) (by omega)) ?_
        rintro _ m10 ⟨rfl, hm10, k11⟩
        show yR zpg tX11_find (d + 14) (30, [(0, .ref 0), (1, .int t)], [], m10) _
        refine yR_m 1 (fun _ _ _ _ => rfl) ?_
        exact yR_rz rfl ⟨by decide, by decide⟩ (h4 q1 q4 q7 m10 hm10 k11 hm10)

set_option maxRecDepth 100000 in
theorem w_leB {d : Nat} {mem : zM} {P : Option Value → zM → Prop} {f x y : Int32} (hm : aTm aT0 mem) {Q : Qd} {S : Sd} {K : Kd} {P0 : Pd} {hu : Int → Int} (hW : WQ Q) (hS : tS 31 Q hu S mem) (hK : kC 34 K mem) (hP : rgC Q hu P0 mem) (hq4 : zfl mem 0 4 = some (.ref 14)) (hC : cQ 14 15 16 19 20 21 24 25 Q mem) (hv : wS Q S) (c9 : (gi mem 14 13).toInt ≤ 6) (h1 : (f).toInt < 0 → ∀ (y2 : Int32), y2.toInt = (gn (ga mem 220) 3) → aTm aT0 (sx mem 220 3 (y2 + 1)) → P (some (.int 0)) (sx mem 220 3 (y2 + 1))) (h2 : 0 ≤ (f).toInt → (gi mem 14 13).toInt ≤ (f).toInt → ∀ (y5 : Int32), y5.toInt = (gn (ga mem 220) 3) → aTm aT0 (sx mem 220 3 (y5 + 1)) → P (some (.int 0)) (sx mem 220 3 (y5 + 1))) (h3 : 0 ≤ (f).toInt → (f).toInt < (gi mem 14 13).toInt → ∀ (v7 : Int32), ((v7.toInt = 1 ∧ frL Q (x).toInt (y).toInt) ∨ (v7.toInt = 0 ∧ ¬ frL Q (x).toInt (y).toInt)) → (v7).toInt = 0 → ∀ (y10 : Int32), y10.toInt = (gn (ga mem 220) 3) → aTm aT0 (sx mem 220 3 (y10 + 1)) → P (some (.int 0)) (sx mem 220 3 (y10 + 1))) (s1 : 0 ≤ (f).toInt → (f).toInt < (gi mem 14 13).toInt → ∀ (v7 : Int32), ((v7.toInt = 1 ∧ frL Q (x).toInt (y).toInt) ∨ (v7.toInt = 0 ∧ ¬ frL Q (x).toInt (y).toInt)) → ¬ (v7).toInt = 0 → ∀ (y12 : Int32), y12.toInt = (gn (ga mem 33) (f).toInt) → (-2147483648 : Int) ≤ ((y).toInt * 8) ∧ ((y).toInt * 8) ≤ 2147483647) (s2 : 0 ≤ (f).toInt → (f).toInt < (gi mem 14 13).toInt → ∀ (v7 : Int32), ((v7.toInt = 1 ∧ frL Q (x).toInt (y).toInt) ∨ (v7.toInt = 0 ∧ ¬ frL Q (x).toInt (y).toInt)) → ¬ (v7).toInt = 0 → ∀ (y12 : Int32), y12.toInt = (gn (ga mem 33) (f).toInt) → ∀ (x14 : Int32), x14.toInt = ((y).toInt * 8) → (-2147483648 : Int) ≤ (((y).toInt * 8) + (x).toInt) ∧ (((y).toInt * 8) + (x).toInt) ≤ 2147483647) (s3 : 0 ≤ (f).toInt → (f).toInt < (gi mem 14 13).toInt → ∀ (v7 : Int32), ((v7.toInt = 1 ∧ frL Q (x).toInt (y).toInt) ∨ (v7.toInt = 0 ∧ ¬ frL Q (x).toInt (y).toInt)) → ¬ (v7).toInt = 0 → ∀ (y12 : Int32), y12.toInt = (gn (ga mem 33) (f).toInt) → ∀ (x14 : Int32), x14.toInt = ((y).toInt * 8) → ∀ (x16 : Int32), x16.toInt = (((y).toInt * 8) + (x).toInt) → ¬ (gn (ga mem 33) (f).toInt) = (((y).toInt * 8) + (x).toInt) → ∀ (m19 : zM), aTm aT0 m19 → ((∀ k, ¬ (41 ≤ k ∧ k ≤ 180) → ¬ k = 38 → zat m19 k = zat mem k) ∧ rgC Q hu (pdN P0 (S, K)) m19) → (-2147483648 : Int) ≤ ((y).toInt * 8) ∧ ((y).toInt * 8) ≤ 2147483647) (s4 : 0 ≤ (f).toInt → (f).toInt < (gi mem 14 13).toInt → ∀ (v7 : Int32), ((v7.toInt = 1 ∧ frL Q (x).toInt (y).toInt) ∨ (v7.toInt = 0 ∧ ¬ frL Q (x).toInt (y).toInt)) → ¬ (v7).toInt = 0 → ∀ (y12 : Int32), y12.toInt = (gn (ga mem 33) (f).toInt) → ∀ (x14 : Int32), x14.toInt = ((y).toInt * 8) → ∀ (x16 : Int32), x16.toInt = (((y).toInt * 8) + (x).toInt) → ¬ (gn (ga mem 33) (f).toInt) = (((y).toInt * 8) + (x).toInt) → ∀ (m19 : zM), aTm aT0 m19 → ((∀ k, ¬ (41 ≤ k ∧ k ≤ 180) → ¬ k = 38 → zat m19 k = zat mem k) ∧ rgC Q hu (pdN P0 (S, K)) m19) → ∀ (x21 : Int32), x21.toInt = ((y).toInt * 8) → (-2147483648 : Int) ≤ (((y).toInt * 8) + (x).toInt) ∧ (((y).toInt * 8) + (x).toInt) ≤ 2147483647) (h4 : 0 ≤ (f).toInt → (f).toInt < (gi mem 14 13).toInt → ∀ (v7 : Int32), ((v7.toInt = 1 ∧ frL Q (x).toInt (y).toInt) ∨ (v7.toInt = 0 ∧ ¬ frL Q (x).toInt (y).toInt)) → ¬ (v7).toInt = 0 → ∀ (y12 : Int32), y12.toInt = (gn (ga mem 33) (f).toInt) → ∀ (x14 : Int32), x14.toInt = ((y).toInt * 8) → ∀ (x16 : Int32), x16.toInt = (((y).toInt * 8) + (x).toInt) → ¬ (gn (ga mem 33) (f).toInt) = (((y).toInt * 8) + (x).toInt) → ∀ (m19 : zM), aTm aT0 m19 → ((∀ k, ¬ (41 ≤ k ∧ k ≤ 180) → ¬ k = 38 → zat m19 k = zat mem k) ∧ rgC Q hu (pdN P0 (S, K)) m19) → ∀ (x21 : Int32), x21.toInt = ((y).toInt * 8) → ∀ (x23 : Int32), x23.toInt = (((y).toInt * 8) + (x).toInt) → aTm aT0 (sx m19 33 f x23) → P (some (.int 1)) (sx m19 33 f x23)) (h5 : 0 ≤ (f).toInt → (f).toInt < (gi mem 14 13).toInt → ∀ (v7 : Int32), ((v7.toInt = 1 ∧ frL Q (x).toInt (y).toInt) ∨ (v7.toInt = 0 ∧ ¬ frL Q (x).toInt (y).toInt)) → ¬ (v7).toInt = 0 → ∀ (y12 : Int32), y12.toInt = (gn (ga mem 33) (f).toInt) → ∀ (x14 : Int32), x14.toInt = ((y).toInt * 8) → ∀ (x16 : Int32), x16.toInt = (((y).toInt * 8) + (x).toInt) → (gn (ga mem 33) (f).toInt) = (((y).toInt * 8) + (x).toInt) → ∀ (y25 : Int32), y25.toInt = (gn (ga mem 220) 3) → aTm aT0 (sx mem 220 3 (y25 + 1)) → P (some (.int 0)) (sx mem 220 3 (y25 + 1))) : yR zpg tX11_lead (d + 14) (0, [(0, .ref 0), (1, .int f), (2, .int x), (3, .int y)], [], mem) P := by
  refine yR_m 2 (fun _ _ _ _ => rfl) ?_
  refine wR_iv rfl rfl cO_e hm rfl rfl rfl rfl ?_
  show yR zpg tX11_isFolk (d + 13) (0, [(0, .ref 0), (1, .int f)], [], mem) _
  refine yR_m 1 (fun _ _ _ _ => rfl) ?_
  refine wR_if_lt rfl (a := (f).toInt) rfl (fun q1 => ?_) (fun q1 => ?_)
  ·
    refine yR_m 1 (fun _ _ _ _ => rfl) ?_
    refine yR_rz rfl ⟨by decide, by decide⟩ ?_
    show yR zpg tX11_lead (d + 14) (5, [(0, .ref 0), (1, .int f), (2, .int x), (3, .int y)], [.int 0], mem) _
    refine wR_if_eq rfl (a := 0) rfl (fun _ => ?_) (fun q => by exfalso; omega)
    refine yR_m 2 (fun _ _ _ _ => rfl) ?_
    refine wR_iv rfl rfl cO_e hm rfl rfl rfl rfl ?_
    show yR zpg tX11_refused (d + 13) (0, [(0, .ref 0), (1, .int 3)], [], mem) _
    refine yR_m 1 (fun _ _ _ _ => rfl) ?_
    refine wR_gr rfl cO_e cO_14 hm ?_
    refine yR_m 2 (fun _ _ _ _ => rfl) ?_
    refine wN_al (a := 3) rfl aR_220 hm rfl rfl (by decide) (fun y2 e3 => ?_)
    refine yR_m 2 (fun _ _ _ _ => rfl) ?_
    refine wN_as (a := 3) rfl aR_220 hm rfl (by decide) ?_
    have hm_1 : aTm aT0 (sx mem 220 3 (y2 + 1)) := tm_sa aR_220 hm (i32_b _)
    refine yR_m 1 (fun _ _ _ _ => rfl) ?_
    refine yR_rz rfl ⟨by decide, by decide⟩ ?_
    show yR zpg tX11_lead (d + 14) (42, [(0, .ref 0), (1, .int f), (2, .int x), (3, .int y)], [.int 0], (sx mem 220 3 (y2 + 1))) _
    exact yR_rz rfl ⟨by decide, by decide⟩ (h1 q1 y2 e3 hm_1)
  ·
    refine yR_m 2 (fun _ _ _ _ => rfl) ?_
    refine wR_gq rfl cO_e hm hq4 ?_
    refine wR_gi rfl quB_e quB_13 hm rfl ?_
    refine wR_ic_ge rfl (a := (f).toInt) (c := (gi mem 14 13).toInt) rfl rfl (fun q4 => ?_) (fun q4 => ?_)
    ·
      refine yR_m 1 (fun _ _ _ _ => rfl) ?_
      refine yR_rz rfl ⟨by decide, by decide⟩ ?_
      show yR zpg tX11_lead (d + 14) (5, [(0, .ref 0), (1, .int f), (2, .int x), (3, .int y)], [.int 0], mem) _
      refine wR_if_eq rfl (a := 0) rfl (fun _ => ?_) (fun q => by exfalso; omega)
      refine yR_m 2 (fun _ _ _ _ => rfl) ?_
      refine wR_iv rfl rfl cO_e hm rfl rfl rfl rfl ?_
      show yR zpg tX11_refused (d + 13) (0, [(0, .ref 0), (1, .int 3)], [], mem) _
      refine yR_m 1 (fun _ _ _ _ => rfl) ?_
      refine wR_gr rfl cO_e cO_14 hm ?_
      refine yR_m 2 (fun _ _ _ _ => rfl) ?_
      refine wN_al (a := 3) rfl aR_220 hm rfl rfl (by decide) (fun y5 e6 => ?_)
      refine yR_m 2 (fun _ _ _ _ => rfl) ?_
      refine wN_as (a := 3) rfl aR_220 hm rfl (by decide) ?_
      have hm_2 : aTm aT0 (sx mem 220 3 (y5 + 1)) := tm_sa aR_220 hm (i32_b _)
      refine yR_m 1 (fun _ _ _ _ => rfl) ?_
      refine yR_rz rfl ⟨by decide, by decide⟩ ?_
      show yR zpg tX11_lead (d + 14) (42, [(0, .ref 0), (1, .int f), (2, .int x), (3, .int y)], [.int 0], (sx mem 220 3 (y5 + 1))) _
      exact yR_rz rfl ⟨by decide, by decide⟩ (h2 q1 q4 y5 e6 hm_2)
    ·
      refine yR_m 2 (fun _ _ _ _ => rfl) ?_
      refine yR_rz rfl ⟨by decide, by decide⟩ ?_
      show yR zpg tX11_lead (d + 14) (5, [(0, .ref 0), (1, .int f), (2, .int x), (3, .int y)], [.int 1], mem) _
      refine wR_if_eq rfl (a := 1) rfl (fun q => by exfalso; omega) (fun _ => ?_)
      refine yR_m 1 (fun _ _ _ _ => rfl) ?_
      refine wR_gq rfl cO_e hm hq4 ?_
      refine yR_m 2 (fun _ _ _ _ => rfl) ?_
      refine wR_cv rfl rfl quB_e hm rfl (h_hlB (Q := Q) hW hm hC (by omega)) ?_
      rintro _ _ ⟨v7, rfl, rfl, k8⟩
      show yR zpg tX11_lead (d + 14) (17, [(0, .ref 0), (1, .int f), (2, .int x), (3, .int y)], [.int v7], mem) _
      refine wR_if_eq rfl (a := (v7).toInt) rfl (fun q9 => ?_) (fun q9 => ?_)
      ·
        refine yR_m 2 (fun _ _ _ _ => rfl) ?_
        refine wR_iv rfl rfl cO_e hm rfl rfl rfl rfl ?_
        show yR zpg tX11_refused (d + 13) (0, [(0, .ref 0), (1, .int 3)], [], mem) _
        refine yR_m 1 (fun _ _ _ _ => rfl) ?_
        refine wR_gr rfl cO_e cO_14 hm ?_
        refine yR_m 2 (fun _ _ _ _ => rfl) ?_
        refine wN_al (a := 3) rfl aR_220 hm rfl rfl (by decide) (fun y10 e11 => ?_)
        refine yR_m 2 (fun _ _ _ _ => rfl) ?_
        refine wN_as (a := 3) rfl aR_220 hm rfl (by decide) ?_
        have hm_3 : aTm aT0 (sx mem 220 3 (y10 + 1)) := tm_sa aR_220 hm (i32_b _)
        refine yR_m 1 (fun _ _ _ _ => rfl) ?_
        refine yR_rz rfl ⟨by decide, by decide⟩ ?_
        show yR zpg tX11_lead (d + 14) (42, [(0, .ref 0), (1, .int f), (2, .int x), (3, .int y)], [.int 0], (sx mem 220 3 (y10 + 1))) _
        exact yR_rz rfl ⟨by decide, by decide⟩ (h3 q1 q4 v7 k8 q9 y10 e11 hm_3)
      ·
        refine yR_m 1 (fun _ _ _ _ => rfl) ?_
        refine wR_gr rfl cO_e cO_7 hm ?_
        refine wR_gr rfl nO_e nO_3 hm ?_
        refine yR_m 1 (fun _ _ _ _ => rfl) ?_
        refine wN_al (a := (f).toInt) rfl aR_33 hm rfl rfl (by omega) (fun y12 e13 => ?_)
        refine yR_m 2 (fun _ _ _ _ => rfl) ?_
        refine wR_is rfl rfl rfl rfl rfl rfl ?_
        show yR zpg tX11_placeOf (d + 13) (0, [(0, .int x), (1, .int y)], [], mem) _
        refine yR_m 2 (fun _ _ _ _ => rfl) ?_
        refine wN_mul (a := (y).toInt) (b := 8) rfl rfl rfl (s1 q1 q4 v7 k8 q9 y12 e13) (fun x14 e15 => ?_)
        refine yR_m 1 (fun _ _ _ _ => rfl) ?_
        refine wN_add (a := ((y).toInt * 8)) (b := (x).toInt) rfl e15 rfl (s2 q1 q4 v7 k8 q9 y12 e13 x14 e15) (fun x16 e17 => ?_)
        refine yR_ri rfl ?_
        show yR zpg tX11_lead (d + 14) (34, [(0, .ref 0), (1, .int f), (2, .int x), (3, .int y)], [.int x16, .int y12], mem) _
        refine wR_ic_ne rfl (a := (gn (ga mem 33) (f).toInt)) (c := (((y).toInt * 8) + (x).toInt)) e13 e17 (fun q18 => ?_) (fun q18 => ?_)
        ·
          refine yR_m 1 (fun _ _ _ _ => rfl) ?_
          refine wR_gr rfl cO_e cO_9 hm ?_
          refine yR_m 1 (fun _ _ _ _ => rfl) ?_
          refine wR_gr rfl cO_e cO_7 hm ?_
          refine yR_m 1 (fun _ _ _ _ => rfl) ?_
          refine wR_gr rfl cO_e cO_8 hm ?_
          refine wR_cv rfl rfl rngO_e hm rfl (h_pu (Q := Q) (hu := hu) (S := S) (K := K) (P := P0) hm hW hS hK hP (by omega)) ?_
          rintro _ m19 ⟨rfl, hm19, k20⟩
          show yR zpg tX11_lead (d + 14) (58, [(0, .ref 0), (1, .int f), (2, .int x), (3, .int y)], [], m19) _
          refine yR_m 1 (fun _ _ _ _ => rfl) ?_
          refine wR_gr rfl cO_e cO_7 hm19 ?_
          refine wR_gr rfl nO_e nO_3 hm19 ?_
          refine yR_m 3 (fun _ _ _ _ => rfl) ?_
          refine wR_is rfl rfl rfl rfl rfl rfl ?_
          show yR zpg tX11_placeOf (d + 13) (0, [(0, .int x), (1, .int y)], [], m19) _
          refine yR_m 2 (fun _ _ _ _ => rfl) ?_
          refine wN_mul (a := (y).toInt) (b := 8) rfl rfl rfl (s3 q1 q4 v7 k8 q9 y12 e13 x14 e15 x16 e17 q18 m19 hm19 k20) (fun x21 e22 => ?_)
          refine yR_m 1 (fun _ _ _ _ => rfl) ?_
          refine wN_add (a := ((y).toInt * 8)) (b := (x).toInt) rfl e22 rfl (s4 q1 q4 v7 k8 q9 y12 e13 x14 e15 x16 e17 q18 m19 hm19 k20 x21 e22) (fun x23 e24 => ?_)
          refine yR_ri rfl ?_
          show yR zpg tX11_lead (d + 14) (71, [(0, .ref 0), (1, .int f), (2, .int x), (3, .int y)], [.int x23, .int f, .ref 33], m19) _
          refine wN_as (a := (f).toInt) rfl aR_33 hm19 rfl (by omega) ?_
          have hm_4 : aTm aT0 (sx m19 33 f x23) := tm_sa aR_33 hm19 (i32_b _)
          refine yR_m 1 (fun _ _ _ _ => rfl) ?_
          exact yR_rz rfl ⟨by decide, by decide⟩ (h4 q1 q4 v7 k8 q9 y12 e13 x14 e15 x16 e17 q18 m19 hm19 k20 x21 e22 x23 e24 hm_4)
        ·
          refine yR_m 2 (fun _ _ _ _ => rfl) ?_
          refine wR_iv rfl rfl cO_e hm rfl rfl rfl rfl ?_
          show yR zpg tX11_refused (d + 13) (0, [(0, .ref 0), (1, .int 3)], [], mem) _
          refine yR_m 1 (fun _ _ _ _ => rfl) ?_
          refine wR_gr rfl cO_e cO_14 hm ?_
          refine yR_m 2 (fun _ _ _ _ => rfl) ?_
          refine wN_al (a := 3) rfl aR_220 hm rfl rfl (by decide) (fun y25 e26 => ?_)
          refine yR_m 2 (fun _ _ _ _ => rfl) ?_
          refine wN_as (a := 3) rfl aR_220 hm rfl (by decide) ?_
          have hm_5 : aTm aT0 (sx mem 220 3 (y25 + 1)) := tm_sa aR_220 hm (i32_b _)
          refine yR_m 1 (fun _ _ _ _ => rfl) ?_
          refine yR_rz rfl ⟨by decide, by decide⟩ ?_
          show yR zpg tX11_lead (d + 14) (42, [(0, .ref 0), (1, .int f), (2, .int x), (3, .int y)], [.int 0], (sx mem 220 3 (y25 + 1))) _
          exact yR_rz rfl ⟨by decide, by decide⟩ (h5 q1 q4 v7 k8 q9 y12 e13 x14 e15 x16 e17 q18 y25 e26 hm_5)

theorem ni_lpB {n : Int32} {N : Nat} {mr : zM} (hN : n.toInt = (N : Int)) (N40 : N ≤ 40) (hqr : zfl mr 0 4 = some (.ref 14)) (hCr : cQ 14 15 16 19 20 21 24 25 Q mr) (hW : WQ Q) (hv : wS Q S) (hH : wH Q hu) (h9 : Sn S + (N : Int) ≤ 999) : ∀ (g j : Nat) (fo k : Int32) (mem : zM) (lo : List (Nat × Value)), j + g = N → k.toInt = (j : Int) → fo.toInt = (ntN Q hu j (S, K, 0)).2.2 → tS 31 Q hu (ntN Q hu j (S, K, 0)).1 mem → kC 34 (ntN Q hu j (S, K, 0)).2.1 mem → (∀ k, ¬ (31 ≤ k ∧ k ≤ 37) → ¬ (181 ≤ k ∧ k ≤ 184) → zat mem k = zat mr k) → zfl mem 181 0 = some (.ref 14) → aTm aT0 mem → zlg lo 0 = some (.ref 0) → zlg lo 1 = some (.int n) → zlg lo 2 = some (.int fo) → zlg lo 3 = some (.int k) → yR zpg tX11_nights (d + 14) (40, lo, [], mem) (fun r m => ∃ fo : Int32, r = some (.int fo) ∧ aTm aT0 m ∧ (fo.toInt = (ntN Q hu N (S, K, 0)).2.2 ∧ tS 31 Q hu (ntN Q hu N (S, K, 0)).1 m ∧ kC 34 (ntN Q hu N (S, K, 0)).2.1 m ∧ (∀ k, ¬ (31 ≤ k ∧ k ≤ 37) → ¬ (181 ≤ k ∧ k ≤ 184) → zat m k = zat mr k) ∧ zfl m 181 0 = some (.ref 14))) := by
  intro g
  induction g with
  | zero =>
    intro j fo k mem lo hj ek ef hS hK hF hp hm l0 l1 l2 l3
    have jn : j = N := by omega
    have b := ntN_f (Q := Q) (hu := hu) (X := (S, K, 0)) j
    have b1 : 0 ≤ (ntN Q hu j (S, K, 0)).2.2 := b.1
    have b2 : (ntN Q hu j (S, K, 0)).2.2 ≤ 0 + 9 * (j : Int) := b.2
    have hw := ntN_w (hu := hu) (X := (S, K, 0)) hW hv j (by show Sn S + (j : Int) ≤ 999; omega)
    have hq : zfl mem 0 4 = some (.ref 14) := (zfl_ea (hF 0 (by omega) (by omega))).trans hqr
    have hC := cQ_kB (fun k hk => hF k (by omega) (by omega)) hCr
    exact w_ni40B (S := (ntN Q hu j (S, K, 0)).1) (K := (ntN Q hu j (S, K, 0)).2.1) hm l0 l1 l2 l3 hp hq hC hW hS hw hH (fun z => by exfalso; omega) hK ⟨by omega, by omega⟩ ⟨by omega, by omega⟩ (by omega) 
        (fun q1 hm2 => by
        rw [jn] at ef hS hK
        exact ⟨_, rfl, hm2, ef, hS, hK, hF, hp⟩)
        (fun q1 v4 m2 hm2 k3 => by exfalso; omega)
        (fun q1 v4 m2 hm2 k3 x5 e6 x10 e11 lo a0 a1 a2 a3 hm2 => by exfalso; omega)
  | succ g ih =>
    intro j fo k mem lo hj ek ef hS hK hF hp hm l0 l1 l2 l3
    have b := ntN_f (Q := Q) (hu := hu) (X := (S, K, 0)) j
    have b1 : 0 ≤ (ntN Q hu j (S, K, 0)).2.2 := b.1
    have b2 : (ntN Q hu j (S, K, 0)).2.2 ≤ 0 + 9 * (j : Int) := b.2
    have nj : Sn (ntN Q hu j (S, K, 0)).1 = Sn S + (j : Int) := ntN_n j
    have hw := ntN_w (hu := hu) (X := (S, K, 0)) hW hv j (by show Sn S + (j : Int) ≤ 999; omega)
    have hq : zfl mem 0 4 = some (.ref 14) := (zfl_ea (hF 0 (by omega) (by omega))).trans hqr
    have hC := cQ_kB (fun k hk => hF k (by omega) (by omega)) hCr
    have fb := fdN_b (Q := Q) (hu := hu) (but := -1) (S := (ntN Q hu j (S, K, 0)).1)
    exact w_ni40B (S := (ntN Q hu j (S, K, 0)).1) (K := (ntN Q hu j (S, K, 0)).2.1) hm l0 l1 l2 l3 hp hq hC hW hS hw hH (fun z => by omega) hK ⟨by omega, by omega⟩ ⟨by omega, by omega⟩ (by omega) 
        (fun q1 hm2 => by exfalso; omega)
        (fun q1 v4 m2 hm2 k3 => by have k := k3.2.2.2.2; rw [tm1] at k; omega)
        (fun q1 v4 m2 hm2 k3 x5 e6 x10 e11 lo a0 a1 a2 a3 hm2 => by
        have k := k3
        rw [tm1] at k
        exact ih (j + 1) _ _ _ lo (by omega) (by rw [e11, ek]; rfl) (by rw [e6, k.2.2.2.2, ef]; rfl) k.2.2.1 k.2.2.2.1 (fun q q1 q2 => (k.1 q q1 q2).trans (hF q q1 q2)) k.2.1 hm2 a0 a1 a2 a3)
theorem h_niB {n : Int32} (hm : aTm aT0 mem) (hq4 : zfl mem 0 4 = some (.ref 14)) (hp : zfl mem 181 0 = some (.ref 14)) (hC : cQ 14 15 16 19 20 21 24 25 Q mem) (hW : WQ Q) (hS : tS 31 Q hu S mem) (hv : wS Q S) (hH : wH Q hu) (hK : kC 34 K mem) (hP : rgC Q hu P0 mem) (hd : 15 ≤ d) : yC zpg d 132 [.ref 0, .int n] mem (fun r m => aTm aT0 m ∧ ((cgN Q S n.toInt ∧ (∃ fo : Int32, r = some (.int fo) ∧ fo.toInt = (ntN Q hu n.toInt.toNat (S, K, 0)).2.2) ∧ (∀ k, ¬ (31 ≤ k ∧ k ≤ 184) → zat m k = zat mem k) ∧ tS 31 Q hu (ntN Q hu n.toInt.toNat (S, K, 0)).1 m ∧ kC 34 (ntN Q hu n.toInt.toNat (S, K, 0)).2.1 m ∧ rgC Q hu (pdN P0 (S, K)) m) ∨ (¬ cgN Q S n.toInt ∧ r = some (.int (-1)) ∧ rfX 220 2 mem m))) := by
  obtain ⟨d, rfl⟩ : ∃ q, d = q + 15 := ⟨d - 15, by omega⟩
  have c1 : (gi mem 14 1).toInt = Qc Q := hC.1.1
  have s0 := hS.1.1
  refine yC_of (t := tX11_nights) rfl rfl ?_
  exact w_ni0B (P0 := P0) (K := K) hm rfl rfl hW hS hK hP hq4 hC hv 
        (fun q1 y2 e3 hm2 => ⟨hm2, Or.inr ⟨fun w => by have w1 := w.1; have w2 := w.2; omega, rfl, rfX_k rfl rfl e3⟩⟩)
        (fun q1 q4 y5 e6 hm2 => ⟨hm2, Or.inr ⟨fun w => by have w1 := w.1; have w2 := w.2; omega, rfl, rfX_k rfl rfl e6⟩⟩)
        (fun q1 q4 q7 y8 e9 hm2 => ⟨hm2, Or.inr ⟨fun w => by have w1 := w.1; have w2 := w.2; omega, rfl, rfX_k rfl rfl e9⟩⟩)
        (fun q1 q4 q7 x10 e11 q12 y13 e14 hm2 => ⟨hm2, Or.inr ⟨fun w => by have w1 := w.1; have w2 := w.2; omega, rfl, rfX_k rfl rfl e14⟩⟩)
        (fun q1 q4 q7 x10 e11 q12 m15 hm15 k16 lo a0 a1 a2 a3 hm2 => by
    obtain ⟨F, R⟩ := k16
    have n0 : n.toInt = (n.toInt.toNat : Int) := by omega
    refine yR_mono ?_ (ni_lpB (S := S) (K := K) (N := n.toInt.toNat) n0 (by omega) ((zfl_ea (F 0 (by omega) (by omega))).trans hq4) (cQ_kB (fun k hk => F k (by omega) (by omega)) hC) hW hv hH (by omega) n.toInt.toNat 0 0 0 _ lo (by omega) rfl rfl (tS_zq (F 31 (by omega) (by omega)) (F 32 (by omega) (by omega)) (F 33 (by omega) (by omega)) hS) (kC_zq (F 34 (by omega) (by omega)) (F 35 (by omega) (by omega)) (F 36 (by omega) (by omega)) (F 37 (by omega) (by omega)) hK) (fun _ _ _ => rfl) ((zfl_ea (F 181 (by omega) (by omega))).trans hp) hm2 a0 a1 a2 a3)
    rintro r m ⟨fo, h1, h2, h3, h4, h5, h6, h7⟩
    exact ⟨h2, Or.inl ⟨⟨⟨by omega, by omega⟩, by omega, by omega⟩, ⟨fo, h1, h3⟩, fun k hk => (h6 k (by omega) (by omega)).trans (F k (by omega) (by omega)), h4, h5, rgC_zq (fun k q1 q2 => h6 k (by omega) (by omega)) R⟩⟩)
theorem ch_lpB {n : Int32} {x : Int} {N : Nat} {mr : zM} (hN : n.toInt = (N : Int)) (N40 : N ≤ 40) (hqr : zfl mr 0 4 = some (.ref 14)) (hCr : cQ 14 15 16 19 20 21 24 25 Q mr) (hW : WQ Q) (hv : wS Q S) (hH : wH Q hu) (h9 : Sn S + (N : Int) ≤ 999) (hx : 0 ≤ x ∧ x < 2147483648) : ∀ (g j : Nat) (fo k : Int32) (mem : zM) (lo : List (Nat × Value)), j + g = N → k.toInt = (j : Int) → fo.toInt = (chN Q hu j (S, K, x, 0)).2.2.2 → (gi mem 0 15).toInt = (chN Q hu j (S, K, x, 0)).2.2.1 → tS 31 Q hu (chN Q hu j (S, K, x, 0)).1 mem → kC 34 (chN Q hu j (S, K, x, 0)).2.1 mem → (∀ k, ¬ (31 ≤ k ∧ k ≤ 37) → ¬ (181 ≤ k ∧ k ≤ 184) → ¬ k = 0 → zat mem k = zat mr k) → (∀ i, ¬ i = 15 → zfl mem 0 i = zfl mr 0 i) → zfl mem 181 0 = some (.ref 14) → aTm aT0 mem → zlg lo 0 = some (.ref 0) → zlg lo 1 = some (.int n) → zlg lo 2 = some (.int fo) → zlg lo 3 = some (.int k) → yR zpg tX11_chance (d + 14) (40, lo, [], mem) (fun r m => ∃ fo : Int32, r = some (.int fo) ∧ aTm aT0 m ∧ (fo.toInt = (chN Q hu N (S, K, x, 0)).2.2.2 ∧ (gi m 0 15).toInt = (chN Q hu N (S, K, x, 0)).2.2.1 ∧ tS 31 Q hu (chN Q hu N (S, K, x, 0)).1 m ∧ kC 34 (chN Q hu N (S, K, x, 0)).2.1 m ∧ (∀ k, ¬ (31 ≤ k ∧ k ≤ 37) → ¬ (181 ≤ k ∧ k ≤ 184) → ¬ k = 0 → zat m k = zat mr k) ∧ zfl m 181 0 = some (.ref 14))) := by
  intro g
  induction g with
  | zero =>
    intro j fo k mem lo hj ek ef ex hS hK hF hI hp hm l0 l1 l2 l3
    have jn : j = N := by omega
    have b := chN_f (Q := Q) (hu := hu) (X := (S, K, x, 0)) j
    have b1 : 0 ≤ (chN Q hu j (S, K, x, 0)).2.2.2 := b.1
    have b2 : (chN Q hu j (S, K, x, 0)).2.2.2 ≤ 0 + (j : Int) := b.2
    have xb := chN_x (Q := Q) (hu := hu) (X := (S, K, x, 0)) hx j
    have hw := chN_w (hu := hu) (X := (S, K, x, 0)) hW hv j (by show Sn S + (j : Int) ≤ 999; omega)
    have hq : zfl mem 0 4 = some (.ref 14) := (hI 4 (by decide)).trans hqr
    have hC := cQ_zaB (fun k a1 a2 => hF k (by omega) (by omega) (by omega)) hCr
    exact w_ch40B (S := (chN Q hu j (S, K, x, 0)).1) (K := (chN Q hu j (S, K, x, 0)).2.1) hm l0 l1 l2 l3 hp hq hC hW hS hw hH (fun z => by exfalso; omega) hK ⟨by omega, by omega⟩ ⟨by omega, by omega⟩ (by omega) (by omega) 
        (fun q1 hm2 => by
        rw [jn] at ef ex hS hK
        exact ⟨_, rfl, hm2, ef, ex, hS, hK, hF, hp⟩)
        (fun q1 v4 m2 hm2 k3 q8 v11 m9 hm9 k10 x12 e13 lo a0 a1 a2 a3 hm2 => by exfalso; omega)
        (fun q1 v4 m2 hm2 k3 q8 x17 e18 v24 m22 hm22 k23 x25 e26 lo a0 a1 a2 a3 hm2 => by exfalso; omega)
  | succ g ih =>
    intro j fo k mem lo hj ek ef ex hS hK hF hI hp hm l0 l1 l2 l3
    have b := chN_f (Q := Q) (hu := hu) (X := (S, K, x, 0)) j
    have b1 : 0 ≤ (chN Q hu j (S, K, x, 0)).2.2.2 := b.1
    have b2 : (chN Q hu j (S, K, x, 0)).2.2.2 ≤ 0 + (j : Int) := b.2
    have xb := chN_x (Q := Q) (hu := hu) (X := (S, K, x, 0)) hx j
    have nj : Sn (chN Q hu j (S, K, x, 0)).1 = Sn S + (j : Int) := chN_n j
    have hw := chN_w (hu := hu) (X := (S, K, x, 0)) hW hv j (by show Sn S + (j : Int) ≤ 999; omega)
    have hq : zfl mem 0 4 = some (.ref 14) := (hI 4 (by decide)).trans hqr
    have hC := cQ_zaB (fun k a1 a2 => hF k (by omega) (by omega) (by omega)) hCr
    have eg : (chN Q hu (j + 1) (S, K, x, 0)).2.2.2 = (chN Q hu j (S, K, x, 0)).2.2.2 + if (dkN Q (chN Q hu j (S, K, x, 0)).2.2.1).1 = -1 then 0 else 1 := rfl
    exact w_ch40B (S := (chN Q hu j (S, K, x, 0)).1) (K := (chN Q hu j (S, K, x, 0)).2.1) hm l0 l1 l2 l3 hp hq hC hW hS hw hH (fun z => by omega) hK ⟨by omega, by omega⟩ ⟨by omega, by omega⟩ (by omega) (by omega) 
        (fun q1 hm2 => by exfalso; omega)
        (fun q1 v4 m2 hm2 k3 q8 v11 m9 hm9 k10 x12 e13 lo a0 a1 a2 a3 hm2 => by
        obtain ⟨d1, d2, d3⟩ := k3
        rw [ex] at d2 d3
        have k := k10
        rw [d2] at k
        have k15 : gi _ 0 15 = _ := gi_zq (k.1 0 (by omega) (by omega))
        refine ih (j + 1) _ _ _ lo (by omega) (by rw [e13, ek]; rfl) (by rw [eg, if_pos (by omega)]; omega) (by rw [k15, d3]; rfl) k.2.2.1 k.2.2.2.1 (fun q q1 q2 q3 => (k.1 q q1 q2).trans ((d1.1 q q3).trans (hF q q1 q2 q3))) (fun u hu => (zfl_ea (k.1 0 (by omega) (by omega))).trans ((d1.2 u hu).trans (hI u hu))) k.2.1 hm2 a0 a1 a2 a3)
        (fun q1 v4 m2 hm2 k3 q8 x17 e18 v24 m22 hm22 k23 x25 e26 lo a0 a1 a2 a3 hm2 => by
        obtain ⟨d1, d2, d3⟩ := k3
        rw [ex] at d2 d3
        have k := k23
        rw [d2] at k
        have k15 : gi _ 0 15 = _ := gi_zq (k.1 0 (by omega) (by omega))
        refine ih (j + 1) _ _ _ lo (by omega) (by rw [e26, ek]; rfl) (by rw [eg, if_neg (by omega), e18]; omega) (by rw [k15, d3]; rfl) k.2.2.1 k.2.2.2.1 (fun q q1 q2 q3 => (k.1 q q1 q2).trans ((d1.1 q q3).trans (hF q q1 q2 q3))) (fun u hu => (zfl_ea (k.1 0 (by omega) (by omega))).trans ((d1.2 u hu).trans (hI u hu))) k.2.1 hm2 a0 a1 a2 a3)
theorem h_chB {n : Int32} (hm : aTm aT0 mem) (hq4 : zfl mem 0 4 = some (.ref 14)) (hp : zfl mem 181 0 = some (.ref 14)) (hC : cQ 14 15 16 19 20 21 24 25 Q mem) (hW : WQ Q) (hS : tS 31 Q hu S mem) (hv : wS Q S) (hH : wH Q hu) (hK : kC 34 K mem) (hP : rgC Q hu P0 mem) (x0 : 0 ≤ (gi mem 0 15).toInt) (hd : 15 ≤ d) : yC zpg d 133 [.ref 0, .int n] mem (fun r m => aTm aT0 m ∧ ((cgN Q S n.toInt ∧ (∃ fo : Int32, r = some (.int fo) ∧ fo.toInt = (chN Q hu n.toInt.toNat (S, K, (gi mem 0 15).toInt, 0)).2.2.2) ∧ (gi m 0 15).toInt = (chN Q hu n.toInt.toNat (S, K, (gi mem 0 15).toInt, 0)).2.2.1 ∧ (∀ k, ¬ (31 ≤ k ∧ k ≤ 184) → ¬ k = 0 → zat m k = zat mem k) ∧ tS 31 Q hu (chN Q hu n.toInt.toNat (S, K, (gi mem 0 15).toInt, 0)).1 m ∧ kC 34 (chN Q hu n.toInt.toNat (S, K, (gi mem 0 15).toInt, 0)).2.1 m ∧ rgC Q hu (pdN P0 (S, K)) m) ∨ (¬ cgN Q S n.toInt ∧ r = some (.int (-1)) ∧ rfX 220 2 mem m))) := by
  obtain ⟨d, rfl⟩ : ∃ q, d = q + 15 := ⟨d - 15, by omega⟩
  have c1 : (gi mem 14 1).toInt = Qc Q := hC.1.1
  have s0 := hS.1.1
  have x1 := (i32_b (gi mem 0 15)).2
  refine yC_of (t := tX11_chance) rfl rfl ?_
  exact w_ch0B (P0 := P0) (K := K) hm rfl rfl hW hS hK hP hq4 hC hv 
        (fun q1 y2 e3 hm2 => ⟨hm2, Or.inr ⟨fun w => by have w1 := w.1; have w2 := w.2; omega, rfl, rfX_k rfl rfl e3⟩⟩)
        (fun q1 q4 y5 e6 hm2 => ⟨hm2, Or.inr ⟨fun w => by have w1 := w.1; have w2 := w.2; omega, rfl, rfX_k rfl rfl e6⟩⟩)
        (fun q1 q4 q7 y8 e9 hm2 => ⟨hm2, Or.inr ⟨fun w => by have w1 := w.1; have w2 := w.2; omega, rfl, rfX_k rfl rfl e9⟩⟩)
        (fun q1 q4 q7 x10 e11 q12 y13 e14 hm2 => ⟨hm2, Or.inr ⟨fun w => by have w1 := w.1; have w2 := w.2; omega, rfl, rfX_k rfl rfl e14⟩⟩)
        (fun q1 q4 q7 x10 e11 q12 m15 hm15 k16 lo a0 a1 a2 a3 hm2 => by
    obtain ⟨F, R⟩ := k16
    have n0 : n.toInt = (n.toInt.toNat : Int) := by omega
    have e15 : gi _ 0 15 = _ := gi_zq (F 0 (by omega) (by omega))
    refine yR_mono ?_ (ch_lpB (S := S) (K := K) (x := (gi mem 0 15).toInt) (N := n.toInt.toNat) n0 (by omega) ((zfl_ea (F 0 (by omega) (by omega))).trans hq4) (cQ_kB (fun k hk => F k (by omega) (by omega)) hC) hW hv hH (by omega) ⟨x0, by omega⟩ n.toInt.toNat 0 0 0 _ lo (by omega) rfl rfl (congrArg Int32.toInt e15) (tS_zq (F 31 (by omega) (by omega)) (F 32 (by omega) (by omega)) (F 33 (by omega) (by omega)) hS) (kC_zq (F 34 (by omega) (by omega)) (F 35 (by omega) (by omega)) (F 36 (by omega) (by omega)) (F 37 (by omega) (by omega)) hK) (fun _ _ _ _ => rfl) (fun _ _ => rfl) ((zfl_ea (F 181 (by omega) (by omega))).trans hp) hm2 a0 a1 a2 a3)
    rintro r m ⟨fo, h1, h2, h3, h3x, h4, h5, h6, h7⟩
    exact ⟨h2, Or.inl ⟨⟨⟨by omega, by omega⟩, by omega, by omega⟩, ⟨fo, h1, h3⟩, h3x, fun k hk hk0 => (h6 k (by omega) (by omega) hk0).trans (F k (by omega) (by omega)), h4, h5, rgC_zq (fun k q1 q2 => h6 k (by omega) (by omega) (by omega)) R⟩⟩)
theorem h_loB {t : Int32} (hm : aTm aT0 mem) (hq4 : zfl mem 0 4 = some (.ref 14)) (hC : cQ 14 15 16 19 20 21 24 25 Q mem) (hW : WQ Q) (hS : tS 31 Q hu S mem) (hv : wS Q S) (hK : kC 34 K mem) (hP : rgC Q hu P0 mem) (hd : 15 ≤ d) : yC zpg d 134 [.ref 0, .int t] mem (fun r m => aTm aT0 m ∧ ((loN Q S t.toInt ∧ r = some (.int 1) ∧ (∀ k, ¬ (31 ≤ k ∧ k ≤ 180) → zat m k = zat mem k) ∧ tS 31 Q hu (tnS S t) m ∧ kC 34 (kpP K (Sn S, t.toInt, btI (Sm S) t.toInt)) m ∧ rgC Q hu (pdN P0 (S, K)) m) ∨ (¬ loN Q S t.toInt ∧ r = some (.int 0) ∧ rfX 220 3 mem m))) := by
  obtain ⟨d, rfl⟩ : ∃ q, d = q + 15 := ⟨d - 15, by omega⟩
  have cn := (cq_nB hC).1
  have t9 := hW.2.1.1
  have e9 : thN Q = ((Qt Q).length : Int) := rfl
  have s1 := hS.1.2
  refine yC_of (t := tX11_lose) rfl rfl ?_
  exact w_loB (P0 := P0) (K := K) hm hW hS hK hP hq4 hC hv (by omega) 
        (fun q1 y2 e3 hm2 => ⟨hm2, Or.inr ⟨fun w => by have w1 := w.1; omega, rfl, rfX_k rfl rfl e3⟩⟩)
        (fun q1 q4 y5 e6 hm2 => ⟨hm2, Or.inr ⟨fun w => by have w1 := w.1; omega, rfl, rfX_k rfl rfl e6⟩⟩)
        (fun q1 q4 q7 m8 hm8 k9 hm2 => by
      have z := mi_0 (by omega) (by omega) q7; rw [s1] at z; exact ⟨hm2, Or.inl ⟨⟨⟨by omega, by omega⟩, z⟩, rfl, k9.1, k9.2.1, k9.2.2.1, k9.2.2.2⟩⟩)
        (fun q1 q4 q7 y10 e11 hm2 => by
      have z := mi_1 (by omega) (by omega) q7; rw [s1] at z; exact ⟨hm2, Or.inr ⟨fun w => w.2 z, rfl, rfX_k rfl rfl e11⟩⟩)
theorem h_fiB {t : Int32} (hm : aTm aT0 mem) (hq4 : zfl mem 0 4 = some (.ref 14)) (hC : cQ 14 15 16 19 20 21 24 25 Q mem) (hW : WQ Q) (hS : tS 31 Q hu S mem) (hv : wS Q S) (hK : kC 34 K mem) (hP : rgC Q hu P0 mem) (hd : 15 ≤ d) : yC zpg d 135 [.ref 0, .int t] mem (fun r m => aTm aT0 m ∧ ((fiN Q S t.toInt ∧ r = some (.int 1) ∧ (∀ k, ¬ (31 ≤ k ∧ k ≤ 180) → zat m k = zat mem k) ∧ tS 31 Q hu (tnS S t) m ∧ kC 34 (kpP K (Sn S, t.toInt, btI (Sm S) t.toInt)) m ∧ rgC Q hu (pdN P0 (S, K)) m) ∨ (¬ fiN Q S t.toInt ∧ r = some (.int 0) ∧ rfX 220 3 mem m))) := by
  obtain ⟨d, rfl⟩ : ∃ q, d = q + 15 := ⟨d - 15, by omega⟩
  have cn := (cq_nB hC).1
  have t9 := hW.2.1.1
  have e9 : thN Q = ((Qt Q).length : Int) := rfl
  have s1 := hS.1.2
  refine yC_of (t := tX11_find) rfl rfl ?_
  exact w_fiB (P0 := P0) (K := K) hm hW hS hK hP hq4 hC hv (by omega) 
        (fun q1 y2 e3 hm2 => ⟨hm2, Or.inr ⟨fun w => by have w1 := w.1; omega, rfl, rfX_k rfl rfl e3⟩⟩)
        (fun q1 q4 y5 e6 hm2 => ⟨hm2, Or.inr ⟨fun w => by have w1 := w.1; omega, rfl, rfX_k rfl rfl e6⟩⟩)
        (fun q1 q4 q7 y8 e9 hm2 => by
      have z := mi_0 (by omega) (by omega) q7; rw [s1] at z; exact ⟨hm2, Or.inr ⟨fun w => z w.2, rfl, rfX_k rfl rfl e9⟩⟩)
        (fun q1 q4 q7 m10 hm10 k11 hm2 => by
      have z := mi_1 (by omega) (by omega) q7; rw [s1] at z; exact ⟨hm2, Or.inl ⟨⟨⟨by omega, by omega⟩, z⟩, rfl, k11.1, k11.2.1, k11.2.2.1, k11.2.2.2⟩⟩)
theorem h_leB {f x y : Int32} (hm : aTm aT0 mem) (hq4 : zfl mem 0 4 = some (.ref 14)) (hC : cQ 14 15 16 19 20 21 24 25 Q mem) (hW : WQ Q) (hS : tS 31 Q hu S mem) (hv : wS Q S) (hK : kC 34 K mem) (hP : rgC Q hu P0 mem) (hd : 15 ≤ d) : yC zpg d 136 [.ref 0, .int f, .int x, .int y] mem (fun r m => aTm aT0 m ∧ ((leN Q S f.toInt x.toInt y.toInt ∧ r = some (.int 1) ∧ (∀ k, ¬ (31 ≤ k ∧ k ≤ 180) → zat m k = zat mem k) ∧ tS 31 Q hu (ldS S f.toInt (8 * y.toInt + x.toInt)) m ∧ kC 34 K m ∧ rgC Q hu (pdN P0 (S, K)) m) ∨ (¬ leN Q S f.toInt x.toInt y.toInt ∧ r = some (.int 0) ∧ rfX 220 3 mem m))) := by
  obtain ⟨d, rfl⟩ : ∃ q, d = q + 15 := ⟨d - 15, by omega⟩
  have cf := (cq_nB hC).2
  have f9 := hW.2.1.2.1
  have e9 : foN Q = ((Qf Q).length : Int) := rfl
  have hb := hW.1
  have s3 : 0 ≤ f.toInt → f.toInt < foN Q → gn (ga mem 33) f.toInt = Sp S f.toInt := hS.2.2.1 f.toInt
  refine yC_of (t := tX11_lead) rfl rfl ?_
  exact w_leB (P0 := P0) (K := K) hm hW hS hK hP hq4 hC hv (by omega) 
        (fun q1 y2 e3 hm2 => ⟨hm2, Or.inr ⟨fun w => by have w1 := w.1; omega, rfl, rfX_k rfl rfl e3⟩⟩)
        (fun q1 q4 y5 e6 hm2 => ⟨hm2, Or.inr ⟨fun w => by have w1 := w.1; omega, rfl, rfX_k rfl rfl e6⟩⟩)
        (fun q1 q4 v7 k8 q9 y10 e11 hm2 => ⟨hm2, Or.inr ⟨fun w => by
      rcases k8 with u | u
      · have u1 := u.1; omega
      · exact u.2 w.2.1, rfl, rfX_k rfl rfl e11⟩⟩)
        (fun q1 q4 v7 k8 q9 y12 e13 => by
      have fl : frL Q x.toInt y.toInt := by
        rcases k8 with w | w
        · exact w.2
        · exfalso; have w1 := w.1; omega
      have f1 := fl.1
      have f2 := fl.2.1
      have f3 := fl.2.2.1
      omega)
        (fun q1 q4 v7 k8 q9 y12 e13 x14 e15 => by
      have fl : frL Q x.toInt y.toInt := by
        rcases k8 with w | w
        · exact w.2
        · exfalso; have w1 := w.1; omega
      have f1 := fl.1
      have f2 := fl.2.1
      have f3 := fl.2.2.1
      omega)
        (fun q1 q4 v7 k8 q9 y12 e13 x14 e15 x16 e17 q18 m19 hm19 k20 => by
      have fl : frL Q x.toInt y.toInt := by
        rcases k8 with w | w
        · exact w.2
        · exfalso; have w1 := w.1; omega
      have f1 := fl.1
      have f2 := fl.2.1
      have f3 := fl.2.2.1
      omega)
        (fun q1 q4 v7 k8 q9 y12 e13 x14 e15 x16 e17 q18 m19 hm19 k20 x21 e22 => by
      have fl : frL Q x.toInt y.toInt := by
        rcases k8 with w | w
        · exact w.2
        · exfalso; have w1 := w.1; omega
      have f1 := fl.1
      have f2 := fl.2.1
      have f3 := fl.2.2.1
      omega)
        (fun q1 q4 v7 k8 q9 y12 e13 x14 e15 x16 e17 q18 m19 hm19 k20 x21 e22 x23 e24 hm2 => by
      have fl : frL Q x.toInt y.toInt := by
        rcases k8 with w | w
        · exact w.2
        · exfalso; have w1 := w.1; omega
      have f1 := fl.1
      have f2 := fl.2.1
      have f3 := fl.2.2.1
      have g := s3 (by omega) (by omega)
      obtain ⟨F, R⟩ := k20
      have fF : ∀ k, ¬ k = 33 → zat (sx m19 33 f x23) k = zat m19 k := fun k hk => zat_sa_ne (fun w => hk w.symm)
      refine ⟨hm2, Or.inl ⟨⟨⟨by omega, by omega⟩, fl, by omega⟩, rfl, fun k hk => (fF k (by omega)).trans (F k (by omega) (by omega)), ?_, kC_zq ((fF 34 (by decide)).trans (F 34 (by omega) (by omega))) ((fF 35 (by decide)).trans (F 35 (by omega) (by omega))) ((fF 36 (by decide)).trans (F 36 (by omega) (by omega))) ((fF 37 (by decide)).trans (F 37 (by omega) (by omega))) hK, rgC_zq (fun k q1 q2 => fF k (by omega)) R⟩⟩
      have G : ∀ i, gi (sx m19 33 f x23) 31 i = gi mem 31 i := fun i => (gi_zq (fF 31 (by decide))).trans (gi_zq (F 31 (by omega) (by omega)))
      refine ⟨⟨by rw [G]; exact hS.1.1, by rw [G]; exact hS.1.2⟩, fun u u0 u1 => ?_, fun u u0 u1 => ?_, by rw [G, G]; exact hS.2.2.2⟩
      · rw [ga_zq ((fF 32 (by decide)).trans (F 32 (by omega) (by omega)))]
        exact hS.2.1 u u0 u1
      · show gn (ga (sa m19 33 f.toNatClampNeg x23) 33) u = if u = f.toInt then 8 * y.toInt + x.toInt else Sp S u
        rw [ga_sa_eq, gn_set rfl (by omega) (by rw [(ga_ty aR_33 hm19).2.1]; omega) u0, ga_zq (F 33 (by omega) (by omega))]
        by_cases w : u = f.toInt
        · rw [if_pos w, if_pos w]
          omega
        · rw [if_neg w, if_neg w]
          exact hS.2.2.1 u u0 u1)
        (fun q1 q4 v7 k8 q9 y12 e13 x14 e15 x16 e17 q18 y25 e26 hm2 => ⟨hm2, Or.inr ⟨fun w => by
      have g := s3 (by omega) (by omega)
      have w3 := w.2.2
      omega, rfl, rfX_k rfl rfl e26⟩⟩)
end ACB
