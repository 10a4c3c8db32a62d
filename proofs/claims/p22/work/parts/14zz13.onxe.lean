/-! on of the class: what is so behind it -/
section ONZ
/-- what a tape tells that is an image -/
noncomputable def onS (T : List Int32) (Y : Qd) : Sd := (gn T 0 * 256 + gn T 1, tnF (fun t => gn T (2 + 2 * t) = 1) (Qt Y).length, fun t => gn T (3 + 2 * t), fun f => 8 * gn T (2 + 2 * thN Y + 2 * f + 1) + gn T (2 + 2 * thN Y + 2 * f))
theorem on_st {P : Int → Prop} {x y k : Int32} {n : Nat} (hk : k.toInt = (n : Int)) (n9 : n < 9) (hx : x = tnF P n) (hy : y.toInt = 0 ∨ y.toInt = 1) (hP : P (n : Int) ↔ y.toInt = 1) : x ||| (y <<< (k &&& 31)) = tnF P (n + 1) := by
  have ek : k = Int32.ofNat n := by
    have e := i32_of (y := k) (by omega)
    rw [show k.toInt.toNat = n by omega] at e
    exact e
  have z0 : (0 : Int32).toInt = 0 := rfl
  have z1 : (1 : Int32).toInt = 1 := rfl
  show _ = if cdB (P (n : Int)) = true then tnF P n ||| ((1 : Int32) <<< (Int32.ofNat n &&& 31)) else tnF P n
  rcases hy with w | w
  · have e : y = 0 := Int32.toInt_inj.1 (w.trans z0.symm)
    rw [cdB_f (fun h => by have := hP.1 h; omega), e, ← hx]
    have z : ∀ N : Fin 9, (0 : Int32) <<< (Int32.ofNat N.val &&& 31) = 0 := by decide
    have zz := z ⟨n, n9⟩
    rw [ek, show (0 : Int32) <<< (Int32.ofNat n &&& 31) = 0 from zz]
    exact Int32.or_zero
  · have e : y = 1 := Int32.toInt_inj.1 (w.trans z1.symm)
    rw [if_pos (cdB_t (hP.2 w)), e, ek, hx]
theorem onS_w {T : List Int32} {Y : Qd} {n : Int} (hW : WQ Y) (hT : ∀ i, 0 ≤ i → i < 100 → 0 ≤ gn T i ∧ gn T i ≤ 255) (hI : imK T n Y) : wS Y (onS T Y) := by
  have t9 : thN Y ≤ 9 := by
    have := hW.2.1.1
    unfold thN
    omega
  have l6 : foN Y ≤ 6 := by
    have := hW.2.1.2.1
    unfold foN
    omega
  have g0 := hT 0 (by decide) (by decide)
  have g1 := hT 1 (by decide) (by decide)
  have hb := hW.1
  obtain ⟨⟨i1, i2, i3, i4⟩, i5, i6⟩ := hI
  have e9 : thN Y = ((Qt Y).length : Int) := rfl
  refine ⟨⟨by show 0 ≤ gn T 0 * 256 + gn T 1; omega, by show gn T 0 * 256 + gn T 1 ≤ 999; omega⟩, ⟨tnF_9 _ hW.2.1.1, fun i i0 i1 hi => ((tnF_b _ hW.2.1.1 i i0 i1).1 hi).1⟩, fun t t0 t1 => ⟨(hT (3 + 2 * t) (by omega) (by omega)).1, (i5 t t0 t1).2⟩, fun f f0 f1 => ?_⟩
  have a := hT (2 + 2 * thN Y + 2 * f) (by omega) (by omega)
  have b := hT (2 + 2 * thN Y + 2 * f + 1) (by omega) (by omega)
  obtain ⟨c1, c2, c3⟩ := i6 f f0 f1
  rw [← e9] at c1 c2 c3
  exact ⟨⟨by show 0 ≤ 8 * gn T (2 + 2 * thN Y + 2 * f + 1) + gn T (2 + 2 * thN Y + 2 * f); omega, by show (8 * gn T (2 + 2 * thN Y + 2 * f + 1) + gn T (2 + 2 * thN Y + 2 * f)) % 8 < Qc Y; omega, by show (8 * gn T (2 + 2 * thN Y + 2 * f + 1) + gn T (2 + 2 * thN Y + 2 * f)) / 8 < Qr Y; omega⟩, c3⟩
def FO (Y : Qd) (T : List Int32) (m0 m : zM) : Prop := tS 31 Y (huA Y) (onS T Y) m ∧ (gi m 34 3).toInt = 0 ∧ (gi m 38 3).toInt = 0 ∧ (∀ k, 39 ≤ k → k ≤ 180 → zat m k = zat m0 k) ∧ (∀ k, 220 ≤ k → zat m k = zat m0 k) ∧ zfl m 0 15 = zfl m0 0 15 ∧ gi m 31 4 = gi m0 31 4
def FP (m0 m : zM) : Prop := (∀ k, 31 ≤ k → k ≤ 180 → zat m k = zat m0 k) ∧ (∀ k, 221 ≤ k → zat m k = zat m0 k) ∧ zfl m 0 15 = zfl m0 0 15 ∧ ga m 220 = (ga m0 220).set 5 ((ga m0 220).getD 5 0 + 1)
def onE (Y : Qd) (T : List Int32) (n : Int) (m0 : zM) (r : Option Value) (m : zM) : Prop := aTm aT0 m ∧ ((imK T n Y ∧ r = some (.int 1) ∧ FO Y T m0 m) ∨ (¬ imK T n Y ∧ r = some (.int 0) ∧ FP m0 m))
end ONZ
section ONAZ
variable {d : Nat} {mem m : zM} {Y : Qd} {T : List Int32}
theorem oz114A {g : Int32} {mr : zM} (hW : WQ Y) (hQr : cQ 2 3 4 7 8 9 12 13 Y mr) (hpr : zfl mr 0 4 = some (.ref 2)) (hg : g.toInt = 2 + 2 * thN Y) : ∀ (f : Nat) (k : Int32) (mem : zM) (lo : List (Nat × Value)), k.toInt + (f : Int) = foN Y → 0 ≤ k.toInt → (∀ q, ¬ q = 33 → zat mem q = zat mr q) → (∀ u, 0 ≤ u → u < k.toInt → gn (ga mem 33) u = 8 * gn (ga mr 1) (2 + 2 * thN Y + 2 * u + 1) + gn (ga mr 1) (2 + 2 * thN Y + 2 * u)) → aTm aT0 mem → zlg lo 0 = some (.ref 0) → zlg lo 2 = some (.int g) → zlg lo 3 = some (.int k) → yR zpg tX11_on (d + 4) (114, lo, [], mem) (fun r m => r = some (.int 1) ∧ aTm aT0 m ∧ ((∀ q, ¬ q = 33 → ¬ q = 34 → ¬ q = 38 → zat m q = zat mr q) ∧ (gi m 34 3).toInt = 0 ∧ (gi m 38 3).toInt = 0 ∧ ∀ u, 0 ≤ u → u < foN Y → gn (ga m 33) u = 8 * gn (ga mr 1) (2 + 2 * thN Y + 2 * u + 1) + gn (ga mr 1) (2 + 2 * thN Y + 2 * u))) := by
  have t9 : thN Y ≤ 9 := by
    have := hW.2.1.1
    unfold thN
    omega
  have l6 : foN Y ≤ 6 := by
    have := hW.2.1.2.1
    unfold foN
    omega
  have t0 : 0 ≤ thN Y := by
    unfold thN
    omega
  intro f
  induction f with
  | zero =>
    intro k mem lo hk k0 hF hA hm l0 l2 l3
    have cn := (cq_nA (cQ_zaA (fun k h1 h2 => hF k (by omega)) hQr)).2
    have hp : zfl mem 0 4 = some (.ref 2) := (zfl_ea (hF 0 (by decide))).trans hpr
    have hA1 := tm_si (x := 0) wO_e wO_3 hm (by decide)
    exact w_onpA_114 hm l0 l2 l3 hp ⟨k0, by omega⟩ ⟨by omega, by omega⟩
      (fun q1 hm2 => ⟨rfl, hm2, fun q a b c => (zat_sv_ne (fun w => c w.symm)).trans ((zat_sv_ne (fun w => b w.symm)).trans (hF q a)), by rw [gi_sv_ne (by decide), gi_si_eq wO_e wO_3 hm]; rfl, by rw [gi_si_eq rngO_e rngO_3 hA1]; rfl, fun u u0 u1 => by rw [ga_sv, ga_sv]; exact hA u u0 (by omega)⟩)
      (fun q1 x2 e3 x4 e5 y6 e7 x8 e9 x10 e11 x12 e13 y14 e15 x16 e17 lo a0 a2 a3 hm2 => by exfalso; omega)
  | succ f ih =>
    intro k mem lo hk k0 hF hA hm l0 l2 l3
    have cn := (cq_nA (cQ_zaA (fun k h1 h2 => hF k (by omega)) hQr)).2
    have hp : zfl mem 0 4 = some (.ref 2) := (zfl_ea (hF 0 (by decide))).trans hpr
    have e1 : ga mem 1 = ga mr 1 := ga_zq (hF 1 (by decide))
    have b1 := gR_1 hm (i := g.toInt + 2 * k.toInt) (by omega) (by omega)
    have b2 := gR_1 hm (i := g.toInt + 2 * k.toInt + 1) (by omega) (by omega)
    exact w_onpA_114 hm l0 l2 l3 hp ⟨k0, by omega⟩ ⟨by omega, by omega⟩
      (fun q1 hm2 => by exfalso; omega)
      (fun q1 x2 e3 x4 e5 y6 e7 x8 e9 x10 e11 x12 e13 y14 e15 x16 e17 lo a0 a2 a3 hm2 => ih _ _ lo (by omega) (by omega) (fun q hq => (zat_sa_ne (fun w => hq w.symm)).trans (hF q hq)) (fun u u0 u1 => by
        show gn (ga (sa mem 33 k.toNatClampNeg ((y14 * 8) + y6)) 33) u = _
        rw [ga_sa_eq, gn_set rfl k0 (by rw [(ga_ty aR_33 hm).2.1]; omega) u0]
        by_cases w : u = k.toInt
        · have z8 : (8 : Int32).toInt = 8 := rfl
          rw [if_pos w, ti_add (ti_mul e15 z8 (by omega) (by omega)) e7 (by omega) (by omega), e1, w, hg]
          omega
        · rw [if_neg w]
          exact hA u u0 (by omega)) hm2 a0 a2 a3)
theorem oz40A {mr : zM} {n : Int} (hW : WQ Y) (hQr : cQ 2 3 4 7 8 9 12 13 Y mr) (hpr : zfl mr 0 4 = some (.ref 2)) (hI : imK (ga mr 1) n Y) : ∀ (f j : Nat) (k : Int32) (mem : zM) (lo : List (Nat × Value)), (j : Int) + (f : Int) = thN Y → k.toInt = (j : Int) → (∀ q, ¬ q = 31 → ¬ q = 32 → zat mem q = zat mr q) → (∀ i, ¬ i = 1 → zfl mem 31 i = zfl mr 31 i) → gi mem 31 1 = tnF (fun t => gn (ga mr 1) (2 + 2 * t) = 1) j → (∀ u, 0 ≤ u → u < k.toInt → gn (ga mem 32) u = gn (ga mr 1) (3 + 2 * u)) → aTm aT0 mem → zlg lo 0 = some (.ref 0) → zlg lo 2 = some (.int k) → yR zpg tX11_on (d + 4) (40, lo, [], mem) (fun r m => r = some (.int 1) ∧ aTm aT0 m ∧ ((∀ q, ¬ (31 ≤ q ∧ q ≤ 34) → ¬ q = 38 → zat m q = zat mr q) ∧ (∀ i, ¬ i = 1 → zfl m 31 i = zfl mr 31 i) ∧ gi m 31 1 = tnF (fun t => gn (ga mr 1) (2 + 2 * t) = 1) (Qt Y).length ∧ (∀ u, 0 ≤ u → u < thN Y → gn (ga m 32) u = gn (ga mr 1) (3 + 2 * u)) ∧ (gi m 34 3).toInt = 0 ∧ (gi m 38 3).toInt = 0 ∧ ∀ u, 0 ≤ u → u < foN Y → gn (ga m 33) u = 8 * gn (ga mr 1) (2 + 2 * thN Y + 2 * u + 1) + gn (ga mr 1) (2 + 2 * thN Y + 2 * u))) := by
  have t9 : thN Y ≤ 9 := by
    have := hW.2.1.1
    unfold thN
    omega
  have e9 : thN Y = ((Qt Y).length : Int) := rfl
  intro f
  induction f with
  | zero =>
    intro j k mem lo hj ek hF hG hB hA hm l0 l2
    have cn := (cq_nA (cQ_zaA (fun k h1 h2 => hF k (by omega) (by omega)) hQr)).1
    have hp : zfl mem 0 4 = some (.ref 2) := (zfl_ea (hF 0 (by decide) (by decide))).trans hpr
    have e1 : ga mem 1 = ga mr 1 := ga_zq (hF 1 (by decide) (by decide))
    have hQ := cQ_zaA (fun k h1 h2 => hF k (by omega) (by omega)) hQr
    rw [show j = (Qt Y).length by omega] at hB
    exact w_onpA_40 hm l0 l2 hp ⟨by omega, by omega⟩
      (fun q1 x2 e3 x4 e5 lo a0 a2 a3 hm2 => by
        have r13 := foN Y
        refine yR_mono ?_ (oz114A (mr := mem) hW hQ hp (by rw [e5]; omega) (Qf Y).length 0 mem lo (by show (0 : Int) + _ = _; unfold foN; omega) (by decide) (fun _ _ => rfl) (fun u u0 u1 => by exfalso; have z : (0 : Int32).toInt = 0 := rfl; omega) hm2 a0 a2 a3)
        rintro r m ⟨h1, h2, h3, h4, h5, h6⟩
        refine ⟨h1, h2, fun q a b => (h3 q (by omega) (by omega) b).trans (hF q (by omega) (by omega)), fun i hi => (zfl_ea (h3 31 (by decide) (by decide) (by decide))).trans (hG i hi), by rw [gi_zq (h3 31 (by decide) (by decide) (by decide))]; exact hB, fun u u0 u1 => by rw [ga_zq (h3 32 (by decide) (by decide) (by decide))]; exact hA u u0 (by omega), h4, h5, fun u u0 u1 => by rw [h6 u u0 u1, e1]⟩)
      (fun q1 x12 e13 x14 e15 y16 e17 => by exfalso; omega)
      (fun q1 x12 e13 x14 e15 y16 e17 x18 e19 x20 e21 y22 e23 x24 e25 lo a0 a2 hm2 => by exfalso; omega)
  | succ f ih =>
    intro j k mem lo hj ek hF hG hB hA hm l0 l2
    have cn := (cq_nA (cQ_zaA (fun k h1 h2 => hF k (by omega) (by omega)) hQr)).1
    have hp : zfl mem 0 4 = some (.ref 2) := (zfl_ea (hF 0 (by decide) (by decide))).trans hpr
    have e1 : ga mem 1 = ga mr 1 := ga_zq (hF 1 (by decide) (by decide))
    have b1 := gR_1 hm (i := 2 + 2 * k.toInt) (by omega) (by omega)
    have i5 := (hI.2.1 k.toInt (by omega) (by omega)).1
    rw [e1] at b1
    exact w_onpA_40 hm l0 l2 hp ⟨by omega, by omega⟩
      (fun q1 x2 e3 x4 e5 lo a0 a2 a3 hm2 => by exfalso; omega)
      (fun q1 x12 e13 x14 e15 y16 e17 => by
        rw [e1] at e17
        have z := on_st (P := fun t => gn (ga mr 1) (2 + 2 * t) = 1) (y := y16) ek (by omega) hB (by omega) (by show gn (ga mr 1) (2 + 2 * (j : Int)) = 1 ↔ _; rw [e17, ek])
        rw [z]
        exact tnF_9 _ (by omega))
      (fun q1 x12 e13 x14 e15 y16 e17 x18 e19 x20 e21 y22 e23 x24 e25 lo a0 a2 hm2 => by
        rw [e1] at e17 e23
        have z := on_st (P := fun t => gn (ga mr 1) (2 + 2 * t) = 1) (y := y16) ek (by omega) hB (by omega) (by show gn (ga mr 1) (2 + 2 * (j : Int)) = 1 ↔ _; rw [e17, ek])
        refine ih (j + 1) _ _ lo (by omega) (by rw [e25, ek]; rfl) (fun q a b => (zat_sa_ne (fun w => b w.symm)).trans ((zat_sv_ne (fun w => a w.symm)).trans (hF q a b))) (fun i hi => zfl_sa.trans ((zfl_sv_ne (fun w => hi w.2.symm)).trans (hG i hi))) (by rw [gi_sa, gi_si_eq nO_e nO_1 hm, z]) (fun u u0 u1 => ?_) hm2 a0 a2
        show gn (ga (sa (si mem 31 1 ((gi mem 31 1) ||| (y16 <<< (k &&& 31)))) 32 k.toNatClampNeg y22) 32) u = _
        rw [ga_sa_eq, gn_set rfl (by omega) (by rw [ga_sv, (ga_ty aR_32 hm).2.1]; omega) u0, ga_sv]
        by_cases w : u = k.toInt
        · rw [if_pos w, e23, w]
        · rw [if_neg w]
          exact hA u u0 (by omega))
theorem h_oeA (hm : aTm aT0 mem) (hp : zfl mem 0 4 = some (.ref 2)) (hQ : cQ 2 3 4 7 8 9 12 13 Y mem) (hW : WQ Y) (hs : (gi mem 31 4).toInt = -1) (hd : 5 ≤ d) : yC zpg d 142 [.ref 0] mem (onE Y (ga mem 1) (gi mem 0 1).toInt mem) := by
  obtain ⟨d, rfl⟩ : ∃ q, d = q + 5 := ⟨d - 5, by omega⟩
  refine yC_of (t := tX11_on) rfl rfl ?_
  exact w_okA hm rfl hp hQ hW.1
    (fun v4 k5 q6 y7 e8 y9 e10 lo a0 a2 hm2 => by
      rcases k5 with w | w
      · have K := w.2
        rw [ga_sv] at K
        have b0 := gR_1 hm (i := 0) (by decide) (by decide)
        have b1 := gR_1 hm (i := 1) (by decide) (by decide)
        have Z : ∀ q, ¬ q = 0 → ¬ q = 31 → zat (si (si (si mem 0 1 0) 31 0 ((y7 * 256) + y9)) 31 1 0) q = zat mem q := fun q a b => (zat_sv_ne (fun w => b w.symm)).trans ((zat_sv_ne (fun w => b w.symm)).trans (zat_sv_ne (fun w => a w.symm)))
        have h1 := tm_si (x := 0) cO_e cO_1 hm (by decide)
        have h2 := tm_si (x := (y7 * 256) + y9) nO_e nO_0 h1 (i32_b _)
        have eT : ga (si (si (si mem 0 1 0) 31 0 ((y7 * 256) + y9)) 31 1 0) 1 = ga mem 1 := ga_zq (Z 1 (by decide) (by decide))
        have z256 : (256 : Int32).toInt = 256 := rfl
        refine yR_mono ?_ (oz40A (n := (gi mem 0 1).toInt) hW (cQ_zaA (fun k h1 h2 => Z k (by omega) (by omega)) hQ) ((zfl_sv_ne (by decide)).trans ((zfl_sv_ne (by decide)).trans ((zfl_sv_ne (by decide)).trans hp))) (by rw [eT]; exact K) (Qt Y).length 0 0 _ lo (by show ((0 : Nat) : Int) + _ = _; unfold thN; omega) rfl (fun _ _ _ => rfl) (fun _ _ => rfl) (by rw [gi_si_eq nO_e nO_1 h2]; rfl) (fun u u0 u1 => by exfalso; have z : (0 : Int32).toInt = 0 := rfl; omega) hm2 a0 a2)
        rw [eT]
        rintro r m ⟨g1, g2, g3, g4, g5, g6, g7, g8, g9⟩
        have e4 : gi m 31 4 = gi mem 31 4 := by
          unfold gi
          rw [g4 4 (by decide), zfl_sv_ne (by decide), zfl_sv_ne (by decide), zfl_sv_ne (by decide)]
        have e0 : (gi m 31 0).toInt = gn (ga mem 1) 0 * 256 + gn (ga mem 1) 1 := by
          have e : gi m 31 0 = (y7 * 256) + y9 := by
            have z : gi m 31 0 = gi (si (si (si mem 0 1 0) 31 0 ((y7 * 256) + y9)) 31 1 0) 31 0 := by
              unfold gi
              rw [g4 0 (by decide)]
            rw [z, gi_sv_ne (by decide), gi_si_eq nO_e nO_0 h1]
          rw [e, ti_add (ti_mul e8 z256 (by omega) (by omega)) e10 (by omega) (by omega)]
        exact ⟨g2, Or.inl ⟨K, g1, ⟨⟨e0, g5⟩, g6, g9, fun t t0 t1 => ⟨fun w => by rw [e4] at w; omega, fun _ => rfl⟩⟩, g7, g8, fun k k1 k2 => (g3 k (by omega) (by omega)).trans (Z k (by omega) (by omega)), fun k k1 => (g3 k (by omega) (by omega)).trans (Z k (by omega) (by omega)), (zfl_ea (g3 0 (by decide) (by decide))).trans ((zfl_sv_ne (by decide)).trans ((zfl_sv_ne (by decide)).trans (zfl_sv_ne (by decide)))), e4⟩⟩
      · exfalso; have w1 := w.1; omega)
    (fun v4 k5 q6 y14 e15 hm2 => by
      rcases k5 with w | w
      · exfalso; have w1 := w.1; omega
      · have K := w.2
        rw [ga_sv] at K
        refine ⟨hm2, Or.inr ⟨K, rfl, fun k k1 k2 => (zat_sa_ne (by omega)).trans (zat_sv_ne (by omega)), fun k k1 => (zat_sa_ne (by omega)).trans (zat_sv_ne (by omega)), zfl_sa.trans (zfl_sv_ne (by decide)), ?_⟩⟩
        have ey : y14 = (ga mem 220).getD 5 0 := Int32.toInt_inj.1 e15
        show ga (sa _ 220 (Int32.toNatClampNeg 5) (y14 + 1)) 220 = _
        rw [ga_sa_eq, ga_sv, ey]
        rfl)
end ONAZ
section ONBZ
variable {d : Nat} {mem m : zM} {Y : Qd} {T : List Int32}
theorem oz114B {g : Int32} {mr : zM} (hW : WQ Y) (hQr : cQ 14 15 16 19 20 21 24 25 Y mr) (hpr : zfl mr 0 4 = some (.ref 14)) (hg : g.toInt = 2 + 2 * thN Y) : ∀ (f : Nat) (k : Int32) (mem : zM) (lo : List (Nat × Value)), k.toInt + (f : Int) = foN Y → 0 ≤ k.toInt → (∀ q, ¬ q = 33 → zat mem q = zat mr q) → (∀ u, 0 ≤ u → u < k.toInt → gn (ga mem 33) u = 8 * gn (ga mr 1) (2 + 2 * thN Y + 2 * u + 1) + gn (ga mr 1) (2 + 2 * thN Y + 2 * u)) → aTm aT0 mem → zlg lo 0 = some (.ref 0) → zlg lo 2 = some (.int g) → zlg lo 3 = some (.int k) → yR zpg tX11_on (d + 4) (114, lo, [], mem) (fun r m => r = some (.int 1) ∧ aTm aT0 m ∧ ((∀ q, ¬ q = 33 → ¬ q = 34 → ¬ q = 38 → zat m q = zat mr q) ∧ (gi m 34 3).toInt = 0 ∧ (gi m 38 3).toInt = 0 ∧ ∀ u, 0 ≤ u → u < foN Y → gn (ga m 33) u = 8 * gn (ga mr 1) (2 + 2 * thN Y + 2 * u + 1) + gn (ga mr 1) (2 + 2 * thN Y + 2 * u))) := by
  have t9 : thN Y ≤ 9 := by
    have := hW.2.1.1
    unfold thN
    omega
  have l6 : foN Y ≤ 6 := by
    have := hW.2.1.2.1
    unfold foN
    omega
  have t0 : 0 ≤ thN Y := by
    unfold thN
    omega
  intro f
  induction f with
  | zero =>
    intro k mem lo hk k0 hF hA hm l0 l2 l3
    have cn := (cq_nB (cQ_zaB (fun k h1 h2 => hF k (by omega)) hQr)).2
    have hp : zfl mem 0 4 = some (.ref 14) := (zfl_ea (hF 0 (by decide))).trans hpr
    have hA1 := tm_si (x := 0) wO_e wO_3 hm (by decide)
    exact w_onpB_114 hm l0 l2 l3 hp ⟨k0, by omega⟩ ⟨by omega, by omega⟩
      (fun q1 hm2 => ⟨rfl, hm2, fun q a b c => (zat_sv_ne (fun w => c w.symm)).trans ((zat_sv_ne (fun w => b w.symm)).trans (hF q a)), by rw [gi_sv_ne (by decide), gi_si_eq wO_e wO_3 hm]; rfl, by rw [gi_si_eq rngO_e rngO_3 hA1]; rfl, fun u u0 u1 => by rw [ga_sv, ga_sv]; exact hA u u0 (by omega)⟩)
      (fun q1 x2 e3 x4 e5 y6 e7 x8 e9 x10 e11 x12 e13 y14 e15 x16 e17 lo a0 a2 a3 hm2 => by exfalso; omega)
  | succ f ih =>
    intro k mem lo hk k0 hF hA hm l0 l2 l3
    have cn := (cq_nB (cQ_zaB (fun k h1 h2 => hF k (by omega)) hQr)).2
    have hp : zfl mem 0 4 = some (.ref 14) := (zfl_ea (hF 0 (by decide))).trans hpr
    have e1 : ga mem 1 = ga mr 1 := ga_zq (hF 1 (by decide))
    have b1 := gR_1 hm (i := g.toInt + 2 * k.toInt) (by omega) (by omega)
    have b2 := gR_1 hm (i := g.toInt + 2 * k.toInt + 1) (by omega) (by omega)
    exact w_onpB_114 hm l0 l2 l3 hp ⟨k0, by omega⟩ ⟨by omega, by omega⟩
      (fun q1 hm2 => by exfalso; omega)
      (fun q1 x2 e3 x4 e5 y6 e7 x8 e9 x10 e11 x12 e13 y14 e15 x16 e17 lo a0 a2 a3 hm2 => ih _ _ lo (by omega) (by omega) (fun q hq => (zat_sa_ne (fun w => hq w.symm)).trans (hF q hq)) (fun u u0 u1 => by
        show gn (ga (sa mem 33 k.toNatClampNeg ((y14 * 8) + y6)) 33) u = _
        rw [ga_sa_eq, gn_set rfl k0 (by rw [(ga_ty aR_33 hm).2.1]; omega) u0]
        by_cases w : u = k.toInt
        · have z8 : (8 : Int32).toInt = 8 := rfl
          rw [if_pos w, ti_add (ti_mul e15 z8 (by omega) (by omega)) e7 (by omega) (by omega), e1, w, hg]
          omega
        · rw [if_neg w]
          exact hA u u0 (by omega)) hm2 a0 a2 a3)
theorem oz40B {mr : zM} {n : Int} (hW : WQ Y) (hQr : cQ 14 15 16 19 20 21 24 25 Y mr) (hpr : zfl mr 0 4 = some (.ref 14)) (hI : imK (ga mr 1) n Y) : ∀ (f j : Nat) (k : Int32) (mem : zM) (lo : List (Nat × Value)), (j : Int) + (f : Int) = thN Y → k.toInt = (j : Int) → (∀ q, ¬ q = 31 → ¬ q = 32 → zat mem q = zat mr q) → (∀ i, ¬ i = 1 → zfl mem 31 i = zfl mr 31 i) → gi mem 31 1 = tnF (fun t => gn (ga mr 1) (2 + 2 * t) = 1) j → (∀ u, 0 ≤ u → u < k.toInt → gn (ga mem 32) u = gn (ga mr 1) (3 + 2 * u)) → aTm aT0 mem → zlg lo 0 = some (.ref 0) → zlg lo 2 = some (.int k) → yR zpg tX11_on (d + 4) (40, lo, [], mem) (fun r m => r = some (.int 1) ∧ aTm aT0 m ∧ ((∀ q, ¬ (31 ≤ q ∧ q ≤ 34) → ¬ q = 38 → zat m q = zat mr q) ∧ (∀ i, ¬ i = 1 → zfl m 31 i = zfl mr 31 i) ∧ gi m 31 1 = tnF (fun t => gn (ga mr 1) (2 + 2 * t) = 1) (Qt Y).length ∧ (∀ u, 0 ≤ u → u < thN Y → gn (ga m 32) u = gn (ga mr 1) (3 + 2 * u)) ∧ (gi m 34 3).toInt = 0 ∧ (gi m 38 3).toInt = 0 ∧ ∀ u, 0 ≤ u → u < foN Y → gn (ga m 33) u = 8 * gn (ga mr 1) (2 + 2 * thN Y + 2 * u + 1) + gn (ga mr 1) (2 + 2 * thN Y + 2 * u))) := by
  have t9 : thN Y ≤ 9 := by
    have := hW.2.1.1
    unfold thN
    omega
  have e9 : thN Y = ((Qt Y).length : Int) := rfl
  intro f
  induction f with
  | zero =>
    intro j k mem lo hj ek hF hG hB hA hm l0 l2
    have cn := (cq_nB (cQ_zaB (fun k h1 h2 => hF k (by omega) (by omega)) hQr)).1
    have hp : zfl mem 0 4 = some (.ref 14) := (zfl_ea (hF 0 (by decide) (by decide))).trans hpr
    have e1 : ga mem 1 = ga mr 1 := ga_zq (hF 1 (by decide) (by decide))
    have hQ := cQ_zaB (fun k h1 h2 => hF k (by omega) (by omega)) hQr
    rw [show j = (Qt Y).length by omega] at hB
    exact w_onpB_40 hm l0 l2 hp ⟨by omega, by omega⟩
      (fun q1 x2 e3 x4 e5 lo a0 a2 a3 hm2 => by
        have r13 := foN Y
        refine yR_mono ?_ (oz114B (mr := mem) hW hQ hp (by rw [e5]; omega) (Qf Y).length 0 mem lo (by show (0 : Int) + _ = _; unfold foN; omega) (by decide) (fun _ _ => rfl) (fun u u0 u1 => by exfalso; have z : (0 : Int32).toInt = 0 := rfl; omega) hm2 a0 a2 a3)
        rintro r m ⟨h1, h2, h3, h4, h5, h6⟩
        refine ⟨h1, h2, fun q a b => (h3 q (by omega) (by omega) b).trans (hF q (by omega) (by omega)), fun i hi => (zfl_ea (h3 31 (by decide) (by decide) (by decide))).trans (hG i hi), by rw [gi_zq (h3 31 (by decide) (by decide) (by decide))]; exact hB, fun u u0 u1 => by rw [ga_zq (h3 32 (by decide) (by decide) (by decide))]; exact hA u u0 (by omega), h4, h5, fun u u0 u1 => by rw [h6 u u0 u1, e1]⟩)
      (fun q1 x12 e13 x14 e15 y16 e17 => by exfalso; omega)
      (fun q1 x12 e13 x14 e15 y16 e17 x18 e19 x20 e21 y22 e23 x24 e25 lo a0 a2 hm2 => by exfalso; omega)
  | succ f ih =>
    intro j k mem lo hj ek hF hG hB hA hm l0 l2
    have cn := (cq_nB (cQ_zaB (fun k h1 h2 => hF k (by omega) (by omega)) hQr)).1
    have hp : zfl mem 0 4 = some (.ref 14) := (zfl_ea (hF 0 (by decide) (by decide))).trans hpr
    have e1 : ga mem 1 = ga mr 1 := ga_zq (hF 1 (by decide) (by decide))
    have b1 := gR_1 hm (i := 2 + 2 * k.toInt) (by omega) (by omega)
    have i5 := (hI.2.1 k.toInt (by omega) (by omega)).1
    rw [e1] at b1
    exact w_onpB_40 hm l0 l2 hp ⟨by omega, by omega⟩
      (fun q1 x2 e3 x4 e5 lo a0 a2 a3 hm2 => by exfalso; omega)
      (fun q1 x12 e13 x14 e15 y16 e17 => by
        rw [e1] at e17
        have z := on_st (P := fun t => gn (ga mr 1) (2 + 2 * t) = 1) (y := y16) ek (by omega) hB (by omega) (by show gn (ga mr 1) (2 + 2 * (j : Int)) = 1 ↔ _; rw [e17, ek])
        rw [z]
        exact tnF_9 _ (by omega))
      (fun q1 x12 e13 x14 e15 y16 e17 x18 e19 x20 e21 y22 e23 x24 e25 lo a0 a2 hm2 => by
        rw [e1] at e17 e23
        have z := on_st (P := fun t => gn (ga mr 1) (2 + 2 * t) = 1) (y := y16) ek (by omega) hB (by omega) (by show gn (ga mr 1) (2 + 2 * (j : Int)) = 1 ↔ _; rw [e17, ek])
        refine ih (j + 1) _ _ lo (by omega) (by rw [e25, ek]; rfl) (fun q a b => (zat_sa_ne (fun w => b w.symm)).trans ((zat_sv_ne (fun w => a w.symm)).trans (hF q a b))) (fun i hi => zfl_sa.trans ((zfl_sv_ne (fun w => hi w.2.symm)).trans (hG i hi))) (by rw [gi_sa, gi_si_eq nO_e nO_1 hm, z]) (fun u u0 u1 => ?_) hm2 a0 a2
        show gn (ga (sa (si mem 31 1 ((gi mem 31 1) ||| (y16 <<< (k &&& 31)))) 32 k.toNatClampNeg y22) 32) u = _
        rw [ga_sa_eq, gn_set rfl (by omega) (by rw [ga_sv, (ga_ty aR_32 hm).2.1]; omega) u0, ga_sv]
        by_cases w : u = k.toInt
        · rw [if_pos w, e23, w]
        · rw [if_neg w]
          exact hA u u0 (by omega))
theorem h_oeB (hm : aTm aT0 mem) (hp : zfl mem 0 4 = some (.ref 14)) (hQ : cQ 14 15 16 19 20 21 24 25 Y mem) (hW : WQ Y) (hs : (gi mem 31 4).toInt = -1) (hd : 5 ≤ d) : yC zpg d 142 [.ref 0] mem (onE Y (ga mem 1) (gi mem 0 1).toInt mem) := by
  obtain ⟨d, rfl⟩ : ∃ q, d = q + 5 := ⟨d - 5, by omega⟩
  refine yC_of (t := tX11_on) rfl rfl ?_
  exact w_okB hm rfl hp hQ hW.1
    (fun v4 k5 q6 y7 e8 y9 e10 lo a0 a2 hm2 => by
      rcases k5 with w | w
      · have K := w.2
        rw [ga_sv] at K
        have b0 := gR_1 hm (i := 0) (by decide) (by decide)
        have b1 := gR_1 hm (i := 1) (by decide) (by decide)
        have Z : ∀ q, ¬ q = 0 → ¬ q = 31 → zat (si (si (si mem 0 1 0) 31 0 ((y7 * 256) + y9)) 31 1 0) q = zat mem q := fun q a b => (zat_sv_ne (fun w => b w.symm)).trans ((zat_sv_ne (fun w => b w.symm)).trans (zat_sv_ne (fun w => a w.symm)))
        have h1 := tm_si (x := 0) cO_e cO_1 hm (by decide)
        have h2 := tm_si (x := (y7 * 256) + y9) nO_e nO_0 h1 (i32_b _)
        have eT : ga (si (si (si mem 0 1 0) 31 0 ((y7 * 256) + y9)) 31 1 0) 1 = ga mem 1 := ga_zq (Z 1 (by decide) (by decide))
        have z256 : (256 : Int32).toInt = 256 := rfl
        refine yR_mono ?_ (oz40B (n := (gi mem 0 1).toInt) hW (cQ_zaB (fun k h1 h2 => Z k (by omega) (by omega)) hQ) ((zfl_sv_ne (by decide)).trans ((zfl_sv_ne (by decide)).trans ((zfl_sv_ne (by decide)).trans hp))) (by rw [eT]; exact K) (Qt Y).length 0 0 _ lo (by show ((0 : Nat) : Int) + _ = _; unfold thN; omega) rfl (fun _ _ _ => rfl) (fun _ _ => rfl) (by rw [gi_si_eq nO_e nO_1 h2]; rfl) (fun u u0 u1 => by exfalso; have z : (0 : Int32).toInt = 0 := rfl; omega) hm2 a0 a2)
        rw [eT]
        rintro r m ⟨g1, g2, g3, g4, g5, g6, g7, g8, g9⟩
        have e4 : gi m 31 4 = gi mem 31 4 := by
          unfold gi
          rw [g4 4 (by decide), zfl_sv_ne (by decide), zfl_sv_ne (by decide), zfl_sv_ne (by decide)]
        have e0 : (gi m 31 0).toInt = gn (ga mem 1) 0 * 256 + gn (ga mem 1) 1 := by
          have e : gi m 31 0 = (y7 * 256) + y9 := by
            have z : gi m 31 0 = gi (si (si (si mem 0 1 0) 31 0 ((y7 * 256) + y9)) 31 1 0) 31 0 := by
              unfold gi
              rw [g4 0 (by decide)]
            rw [z, gi_sv_ne (by decide), gi_si_eq nO_e nO_0 h1]
          rw [e, ti_add (ti_mul e8 z256 (by omega) (by omega)) e10 (by omega) (by omega)]
        exact ⟨g2, Or.inl ⟨K, g1, ⟨⟨e0, g5⟩, g6, g9, fun t t0 t1 => ⟨fun w => by rw [e4] at w; omega, fun _ => rfl⟩⟩, g7, g8, fun k k1 k2 => (g3 k (by omega) (by omega)).trans (Z k (by omega) (by omega)), fun k k1 => (g3 k (by omega) (by omega)).trans (Z k (by omega) (by omega)), (zfl_ea (g3 0 (by decide) (by decide))).trans ((zfl_sv_ne (by decide)).trans ((zfl_sv_ne (by decide)).trans (zfl_sv_ne (by decide)))), e4⟩⟩
      · exfalso; have w1 := w.1; omega)
    (fun v4 k5 q6 y14 e15 hm2 => by
      rcases k5 with w | w
      · exfalso; have w1 := w.1; omega
      · have K := w.2
        rw [ga_sv] at K
        refine ⟨hm2, Or.inr ⟨K, rfl, fun k k1 k2 => (zat_sa_ne (by omega)).trans (zat_sv_ne (by omega)), fun k k1 => (zat_sa_ne (by omega)).trans (zat_sv_ne (by omega)), zfl_sa.trans (zfl_sv_ne (by decide)), ?_⟩⟩
        have ey : y14 = (ga mem 220).getD 5 0 := Int32.toInt_inj.1 e15
        show ga (sa _ 220 (Int32.toNatClampNeg 5) (y14 + 1)) 220 = _
        rw [ga_sa_eq, ga_sv, ey]
        rfl)
end ONBZ
theorem h_oe {d : Nat} {mem : zM} {Y : Qd} (hm : aTm aT0 mem) (hP : pQ Y mem) (hW : WQ Y) (hs : (gi mem 31 4).toInt = -1) (hd : 5 ≤ d) : yC zpg d 142 [.ref 0] mem (onE Y (ga mem 1) (gi mem 0 1).toInt mem) := by
  rcases hP with h | h
  · exact h_oeA hm h.1 h.2.2.2 hW hs hd
  · exact h_oeB hm h.1 h.2.2.2 hW hs hd
