/-! a thing is turned over: the model -/
section TOA
variable {d : Nat} {mem : zM}
/-- a bit as a number -/
def btI (x : Int32) (i : Int) : Int := if x.toBitVec.getLsbD i.toNat = true then 1 else 0
theorem btI_1 {x : Int32} {i : Int} (hh : bt x i) : btI x i = 1 := if_pos hh
theorem btI_0 {x : Int32} {i : Int} (hh : ¬ bt x i) : btI x i = 0 := if_neg hh
set_option maxRecDepth 100000 in
theorem w_to {d : Nat} {mem : zM} {P : Option Value → zM → Prop} {v t : Int32} {K : Kd} {N : Int} (hm : aTm aT0 mem) (hv : 0 ≤ v.toInt ∧ v.toInt ≤ 21) (ht : 0 ≤ t.toInt ∧ t.toInt ≤ 8) (s1 : ∀ (y1 : Int32), y1.toInt = (gn (ga mem 250) (v).toInt) → ∀ (x3 : Int32), x3.toInt = (9 * (v).toInt) → ∀ (x5 : Int32), x5.toInt = ((9 * (v).toInt) + (t).toInt) → ∀ (y7 : Int32), y7.toInt = (gn ((ga mem 250).set v.toNatClampNeg (y1 ^^^ (1 <<< (t &&& 31)))) (v).toInt) → ¬ ((y7 >>> (t &&& 31)) &&& 1).toInt = 1 → gn (ga (sx (sx mem 250 v (y1 ^^^ (1 <<< (t &&& 31)))) 251 x5 0) 249) (v).toInt = N) (s2 : ∀ (y1 : Int32), y1.toInt = (gn (ga mem 250) (v).toInt) → ∀ (x3 : Int32), x3.toInt = (9 * (v).toInt) → ∀ (x5 : Int32), x5.toInt = ((9 * (v).toInt) + (t).toInt) → ∀ (y7 : Int32), y7.toInt = (gn ((ga mem 250).set v.toNatClampNeg (y1 ^^^ (1 <<< (t &&& 31)))) (v).toInt) → ¬ ((y7 >>> (t &&& 31)) &&& 1).toInt = 1 → kM (v).toInt K (sx (sx mem 250 v (y1 ^^^ (1 <<< (t &&& 31)))) 251 x5 0)) (h1 : ∀ (y1 : Int32), y1.toInt = (gn (ga mem 250) (v).toInt) → ∀ (x3 : Int32), x3.toInt = (9 * (v).toInt) → ∀ (x5 : Int32), x5.toInt = ((9 * (v).toInt) + (t).toInt) → ∀ (y7 : Int32), y7.toInt = (gn ((ga mem 250).set v.toNatClampNeg (y1 ^^^ (1 <<< (t &&& 31)))) (v).toInt) → ¬ ((y7 >>> (t &&& 31)) &&& 1).toInt = 1 → ∀ (m10 : zM), aTm aT0 m10 → (onl [253, 254] (sx (sx mem 250 v (y1 ^^^ (1 <<< (t &&& 31)))) 251 x5 0) m10 ∧ kM (v).toInt (kpP K (N, (t).toInt, 1)) m10 ∧ oKl (v).toInt (sx (sx mem 250 v (y1 ^^^ (1 <<< (t &&& 31)))) 251 x5 0) m10) → aTm aT0 m10 → P none m10) (s3 : ∀ (y1 : Int32), y1.toInt = (gn (ga mem 250) (v).toInt) → ∀ (x3 : Int32), x3.toInt = (9 * (v).toInt) → ∀ (x5 : Int32), x5.toInt = ((9 * (v).toInt) + (t).toInt) → ∀ (y7 : Int32), y7.toInt = (gn ((ga mem 250).set v.toNatClampNeg (y1 ^^^ (1 <<< (t &&& 31)))) (v).toInt) → ((y7 >>> (t &&& 31)) &&& 1).toInt = 1 → gn (ga (sx (sx mem 250 v (y1 ^^^ (1 <<< (t &&& 31)))) 251 x5 0) 249) (v).toInt = N) (s4 : ∀ (y1 : Int32), y1.toInt = (gn (ga mem 250) (v).toInt) → ∀ (x3 : Int32), x3.toInt = (9 * (v).toInt) → ∀ (x5 : Int32), x5.toInt = ((9 * (v).toInt) + (t).toInt) → ∀ (y7 : Int32), y7.toInt = (gn ((ga mem 250).set v.toNatClampNeg (y1 ^^^ (1 <<< (t &&& 31)))) (v).toInt) → ((y7 >>> (t &&& 31)) &&& 1).toInt = 1 → kM (v).toInt K (sx (sx mem 250 v (y1 ^^^ (1 <<< (t &&& 31)))) 251 x5 0)) (h2 : ∀ (y1 : Int32), y1.toInt = (gn (ga mem 250) (v).toInt) → ∀ (x3 : Int32), x3.toInt = (9 * (v).toInt) → ∀ (x5 : Int32), x5.toInt = ((9 * (v).toInt) + (t).toInt) → ∀ (y7 : Int32), y7.toInt = (gn ((ga mem 250).set v.toNatClampNeg (y1 ^^^ (1 <<< (t &&& 31)))) (v).toInt) → ((y7 >>> (t &&& 31)) &&& 1).toInt = 1 → ∀ (m12 : zM), aTm aT0 m12 → (onl [253, 254] (sx (sx mem 250 v (y1 ^^^ (1 <<< (t &&& 31)))) 251 x5 0) m12 ∧ kM (v).toInt (kpP K (N, (t).toInt, 0)) m12 ∧ oKl (v).toInt (sx (sx mem 250 v (y1 ^^^ (1 <<< (t &&& 31)))) 251 x5 0) m12) → aTm aT0 m12 → P none m12) : yR zpg tX12_turnsOver (d + 2) (0, [(0, .ref 221), (1, .int v), (2, .int t)], [], mem) P := by
  have ls := gR_250 hm (i := v.toInt) hv.1 (by omega)
  refine yR_m 1 (fun _ _ _ _ => rfl) ?_
  refine wR_gr rfl mO_e mO_49 hm ?_
  refine yR_m 2 (fun _ _ _ _ => rfl) ?_
  refine wN_al (a := (v).toInt) rfl aR_250 hm rfl rfl (by omega) (fun y1 e2 => ?_)
  refine yR_m 4 (fun _ _ _ _ => rfl) ?_
  refine wN_as (a := (v).toInt) rfl aR_250 hm rfl (by omega) ?_
  have hm_1 : aTm aT0 (sx mem 250 v (y1 ^^^ (1 <<< (t &&& 31)))) := tm_sa aR_250 hm (xor_rg (by omega) (by omega) ht.1 ht.2)
  refine yR_m 1 (fun _ _ _ _ => rfl) ?_
  refine wR_gr rfl mO_e mO_50 hm_1 ?_
  refine yR_m 2 (fun _ _ _ _ => rfl) ?_
  refine wN_mul (a := 9) (b := (v).toInt) rfl rfl rfl (by omega) (fun x3 e4 => ?_)
  refine yR_m 1 (fun _ _ _ _ => rfl) ?_
  refine wN_add (a := (9 * (v).toInt)) (b := (t).toInt) rfl e4 rfl (by omega) (fun x5 e6 => ?_)
  refine yR_m 1 (fun _ _ _ _ => rfl) ?_
  refine wN_as (a := ((9 * (v).toInt) + (t).toInt)) rfl aR_251 hm_1 e6 (by omega) ?_
  have hm_2 : aTm aT0 (sx (sx mem 250 v (y1 ^^^ (1 <<< (t &&& 31)))) 251 x5 0) := tm_sa aR_251 hm_1 (i32_b _)
  refine yR_m 4 (fun _ _ _ _ => rfl) ?_
  refine wR_gr rfl mO_e mO_49 hm_2 ?_
  refine yR_m 1 (fun _ _ _ _ => rfl) ?_
  refine wN_al (a := (v).toInt) rfl aR_250 hm_2 ((ga_sa_ne (by first | decide | omega)).trans ga_sa_eq) rfl (by omega) (fun y7 e8 => ?_)
  refine yR_m 1 (fun _ _ _ _ => rfl) ?_
  refine wR_is rfl rfl rfl rfl rfl rfl ?_
  show yR zpg tX12_has2 (d + 1) (0, [(0, .int y7), (1, .int t)], [], (sx (sx mem 250 v (y1 ^^^ (1 <<< (t &&& 31)))) 251 x5 0)) _
  refine yR_m 6 (fun _ _ _ _ => rfl) ?_
  refine wR_ic_ne rfl (a := ((y7 >>> (t &&& 31)) &&& 1).toInt) (c := 1) rfl rfl (fun q9 => ?_) (fun q9 => ?_)
  ·
    refine yR_m 1 (fun _ _ _ _ => rfl) ?_
    refine yR_rz rfl ⟨by decide, by decide⟩ ?_
    show yR zpg tX12_turnsOver (d + 2) (37, [(0, .ref 221), (1, .int v), (2, .int t)], [.int 0, .int t, .int v, .ref 221], (sx (sx mem 250 v (y1 ^^^ (1 <<< (t &&& 31)))) 251 x5 0)) _
    refine wR_if_eq rfl (a := 0) rfl (fun _ => ?_) (fun q => by exfalso; omega)
    refine yR_m 1 (fun _ _ _ _ => rfl) ?_
    refine wR_cv rfl rfl mO_e hm_2 rfl (h_wn (K := K) (N := N) hm_2 (by omega) (s1 y1 e2 x3 e4 x5 e6 y7 e8 q9) (s2 y1 e2 x3 e4 x5 e6 y7 e8 q9) (by omega)) ?_
    rintro _ m10 ⟨rfl, hm10, k11⟩
    show yR zpg tX12_turnsOver (d + 2) (48, [(0, .ref 221), (1, .int v), (2, .int t)], [], m10) _
    exact yR_rv rfl (h1 y1 e2 x3 e4 x5 e6 y7 e8 q9 m10 hm10 k11 hm10)
  ·
    refine yR_m 2 (fun _ _ _ _ => rfl) ?_
    refine yR_rz rfl ⟨by decide, by decide⟩ ?_
    show yR zpg tX12_turnsOver (d + 2) (37, [(0, .ref 221), (1, .int v), (2, .int t)], [.int 1, .int t, .int v, .ref 221], (sx (sx mem 250 v (y1 ^^^ (1 <<< (t &&& 31)))) 251 x5 0)) _
    refine wR_if_eq rfl (a := 1) rfl (fun q => by exfalso; omega) (fun _ => ?_)
    refine yR_m 2 (fun _ _ _ _ => rfl) ?_
    refine wR_cv rfl rfl mO_e hm_2 rfl (h_wn (K := K) (N := N) hm_2 (by omega) (s3 y1 e2 x3 e4 x5 e6 y7 e8 q9) (s4 y1 e2 x3 e4 x5 e6 y7 e8 q9) (by omega)) ?_
    rintro _ m12 ⟨rfl, hm12, k13⟩
    show yR zpg tX12_turnsOver (d + 2) (48, [(0, .ref 221), (1, .int v), (2, .int t)], [], m12) _
    exact yR_rv rfl (h2 y1 e2 x3 e4 x5 e6 y7 e8 q9 m12 hm12 k13 hm12)

theorem h_tov {v t x : Int32} {K : Kd} {N : Int} (hm : aTm aT0 mem) (hv : 0 ≤ v.toInt ∧ v.toInt ≤ 21) (ht : 0 ≤ t.toInt ∧ t.toInt ≤ 8) (hN : gn (ga mem 249) v.toInt = N) (hK : kM v.toInt K mem) (hx : gn (ga mem 250) v.toInt = x.toInt) (hd : 3 ≤ d) : yC zpg d 233 [.ref 221, .int v, .int t] mem (fun r m => r = none ∧ aTm aT0 m ∧ (onl [250, 251, 253, 254] mem m ∧ (∀ u, 0 ≤ u → gn (ga m 250) u = if u = v.toInt then (x ^^^ ((1 : Int32) <<< (t &&& 31))).toInt else gn (ga mem 250) u) ∧ (∀ j, 0 ≤ j → gn (ga m 251) j = if j = 9 * v.toInt + t.toInt then 0 else gn (ga mem 251) j) ∧ kM v.toInt (kpP K (N, t.toInt, btI x t.toInt)) m ∧ oKl v.toInt mem m)) := by
  obtain ⟨d, rfl⟩ : ∃ q, d = q + 3 := ⟨d - 3, by omega⟩
  have t0 := ga_ty aR_250 hm
  have t1 := ga_ty aR_251 hm
  refine yC_of (t := tX12_turnsOver) rfl rfl ?_
  exact w_to (K := K) (N := N) hm hv ht 
        (fun y1 e2 x3 e4 x5 e6 y7 e8 q9 => by rw [ga_sa_ne (by decide), ga_sa_ne (by decide)]; exact hN)
        (fun y1 e2 x3 e4 x5 e6 y7 e8 q9 => kM_q ((ga_sa_ne (by decide)).trans (ga_sa_ne (by decide))) ((ga_sa_ne (by decide)).trans (ga_sa_ne (by decide))) hK)
        (fun y1 e2 x3 e4 x5 e6 y7 e8 q9 m10 hm10 k11 hm2 => by
      have ye : y1 = x := Int32.toInt_inj.1 (e2.trans hx)
      subst ye
      have K0 := k11.1
      have A0 : ga m10 250 = (ga mem 250).set v.toNatClampNeg (y1 ^^^ ((1 : Int32) <<< (t &&& 31))) := (onl_ga K0 rfl).trans ((ga_sa_ne (by decide)).trans ga_sa_eq)
      have A1 : ga m10 251 = (ga mem 251).set x5.toNatClampNeg 0 := (onl_ga K0 rfl).trans (ga_sa_eq.trans (congrArg (fun l => List.set l x5.toNatClampNeg (0 : Int32)) (ga_sa_ne (by decide))))
      have e7 : y7 = y1 ^^^ ((1 : Int32) <<< (t &&& 31)) := Int32.toInt_inj.1 (by
        rw [e8, gn_set rfl hv.1 (by rw [t0.2.1]; omega) hv.1, if_pos rfl])
      have qq := q9
      rw [e7] at qq
      have bx := bt_xr (x := y1) (k := t) (i := t.toInt) ht.1 (by omega) ht.1 (by omega)
      have ft : btI y1 t.toInt = 1 := by
        refine btI_1 ?_
        by_cases z : bt y1 t.toInt
        · exact z
        · exact absurd ((bt_shr ht.1 (by omega)).2 (bx.2 (Or.inr ⟨z, rfl⟩))) qq
      rw [ft]
      refine ⟨rfl, hm2, onl_tr (onl_sa rfl (onl_sa rfl onl_rf)) (onl_up K0 rfl), fun u u0 => ?_, fun j j0 => ?_, k11.2.1, oKl_tr (oKl_q ((ga_sa_ne (by decide)).trans (ga_sa_ne (by decide))) ((ga_sa_ne (by decide)).trans (ga_sa_ne (by decide)))) k11.2.2⟩
      · rw [A0, gn_set rfl hv.1 (by rw [t0.2.1]; omega) u0]
      · rw [A1, gn_set e6 (by omega) (by rw [t1.2.1]; omega) j0]
        rfl)
        (fun y1 e2 x3 e4 x5 e6 y7 e8 q9 => by rw [ga_sa_ne (by decide), ga_sa_ne (by decide)]; exact hN)
        (fun y1 e2 x3 e4 x5 e6 y7 e8 q9 => kM_q ((ga_sa_ne (by decide)).trans (ga_sa_ne (by decide))) ((ga_sa_ne (by decide)).trans (ga_sa_ne (by decide))) hK)
        (fun y1 e2 x3 e4 x5 e6 y7 e8 q9 m12 hm12 k13 hm2 => by
      have ye : y1 = x := Int32.toInt_inj.1 (e2.trans hx)
      subst ye
      have K0 := k13.1
      have A0 : ga m12 250 = (ga mem 250).set v.toNatClampNeg (y1 ^^^ ((1 : Int32) <<< (t &&& 31))) := (onl_ga K0 rfl).trans ((ga_sa_ne (by decide)).trans ga_sa_eq)
      have A1 : ga m12 251 = (ga mem 251).set x5.toNatClampNeg 0 := (onl_ga K0 rfl).trans (ga_sa_eq.trans (congrArg (fun l => List.set l x5.toNatClampNeg (0 : Int32)) (ga_sa_ne (by decide))))
      have e7 : y7 = y1 ^^^ ((1 : Int32) <<< (t &&& 31)) := Int32.toInt_inj.1 (by
        rw [e8, gn_set rfl hv.1 (by rw [t0.2.1]; omega) hv.1, if_pos rfl])
      have qq := q9
      rw [e7] at qq
      have bx := bt_xr (x := y1) (k := t) (i := t.toInt) ht.1 (by omega) ht.1 (by omega)
      have ft : btI y1 t.toInt = 0 := by
        refine btI_0 ?_
        intro z
        rcases bx.1 ((bt_shr ht.1 (by omega)).1 qq) with ⟨-, w⟩ | ⟨w, -⟩
        · exact w rfl
        · exact w z
      rw [ft]
      refine ⟨rfl, hm2, onl_tr (onl_sa rfl (onl_sa rfl onl_rf)) (onl_up K0 rfl), fun u u0 => ?_, fun j j0 => ?_, k13.2.1, oKl_tr (oKl_q ((ga_sa_ne (by decide)).trans (ga_sa_ne (by decide))) ((ga_sa_ne (by decide)).trans (ga_sa_ne (by decide)))) k13.2.2⟩
      · rw [A0, gn_set rfl hv.1 (by rw [t0.2.1]; omega) u0]
      · rw [A1, gn_set e6 (by omega) (by rw [t1.2.1]; omega) j0]
        rfl)
end TOA
