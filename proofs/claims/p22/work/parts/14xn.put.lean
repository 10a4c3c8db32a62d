/-! the class's sums: frames, put, opens -/
def sO : List (Bool × aTy) := match aat aT0 30 with
  | some (.inr o) => o.2
  | _ => []
set_option maxRecDepth 100000 in
theorem sO_e : aat aT0 30 = some (.inr (10, sO)) := rfl
set_option maxRecDepth 100000 in
theorem sO_0 : sO[0]? = some (false, .inr (some [27])) := rfl
set_option maxRecDepth 100000 in
theorem sO_1 : sO[1]? = some (false, .inr (some [10, 22])) := rfl
set_option maxRecDepth 100000 in
theorem sO_2 : sO[2]? = some (false, .inl (-2147483648, 2147483647)) := rfl
def rlA : List (Bool × aTy) := match aat aT0 10 with
  | some (.inr o) => o.2
  | _ => []
set_option maxRecDepth 100000 in
theorem rlA_e : aat aT0 10 = some (.inr (7, rlA)) := rfl
set_option maxRecDepth 100000 in
theorem rlA_0 : rlA[0]? = some (true, .inr (some [11])) := rfl
set_option maxRecDepth 100000 in
theorem rlA_1 : rlA[1]? = some (true, .inr (some [12])) := rfl
set_option maxRecDepth 100000 in
theorem rlA_2 : rlA[2]? = some (true, .inr (some [13])) := rfl
set_option maxRecDepth 100000 in
theorem rlA_3 : rlA[3]? = some (true, .inl (0, 1600)) := rfl
theorem rlA_r3 {m : zM} (hm : aTm aT0 m) : 0 ≤ (gi m 10 3).toInt ∧ (gi m 10 3).toInt ≤ 1600 := gi_rg rlA_e rlA_3 hm
def rlB : List (Bool × aTy) := match aat aT0 22 with
  | some (.inr o) => o.2
  | _ => []
set_option maxRecDepth 100000 in
theorem rlB_e : aat aT0 22 = some (.inr (7, rlB)) := rfl
set_option maxRecDepth 100000 in
theorem rlB_0 : rlB[0]? = some (true, .inr (some [23])) := rfl
set_option maxRecDepth 100000 in
theorem rlB_1 : rlB[1]? = some (true, .inr (some [24])) := rfl
set_option maxRecDepth 100000 in
theorem rlB_2 : rlB[2]? = some (true, .inr (some [25])) := rfl
set_option maxRecDepth 100000 in
theorem rlB_3 : rlB[3]? = some (true, .inl (0, 1600)) := rfl
theorem rlB_r3 {m : zM} (hm : aTm aT0 m) : 0 ≤ (gi m 22 3).toInt ∧ (gi m 22 3).toInt ≤ 1600 := gi_rg rlB_e rlB_3 hm
set_option maxRecDepth 100000 in
theorem aR_11 : aat aT0 11 = some (.inl (true, 0, 1600, .inl (-2147483648, 2147483647))) := rfl
theorem gR_11 {m : zM} (hm : aTm aT0 m) {i : Int} (h0 : 0 ≤ i) (h1 : i < 1600) : -2147483648 ≤ gn (ga m 11) i ∧ gn (ga m 11) i ≤ 2147483647 := gn_rg aR_11 hm h0 h1
theorem gl_11 {m : zM} (hm : aTm aT0 m) : (ga m 11).length = 1600 := (ga_ty aR_11 hm).2.1
set_option maxRecDepth 100000 in
theorem aR_23 : aat aT0 23 = some (.inl (true, 0, 1600, .inl (-2147483648, 2147483647))) := rfl
theorem gR_23 {m : zM} (hm : aTm aT0 m) {i : Int} (h0 : 0 ≤ i) (h1 : i < 1600) : -2147483648 ≤ gn (ga m 23) i ∧ gn (ga m 23) i ≤ 2147483647 := gn_rg aR_23 hm h0 h1
theorem gl_23 {m : zM} (hm : aTm aT0 m) : (ga m 23).length = 1600 := (ga_ty aR_23 hm).2.1
section CK
variable {R A : Nat} {mr mem m : zM} {T : List Int32} {n p e : Int} {t : Tk}
def hRA (R A : Nat) : Prop := (R = 10 ∧ A = 11) ∨ (R = 22 ∧ A = 23)
/-- only the rules' list has grown -/
def pF (R A : Nat) (mr m : zM) : Prop := (∀ k, ¬ k = R → ¬ k = A → zat m k = zat mr k) ∧ ∀ i, ¬ i = 3 → zfl m R i = zfl mr R i
/-- only the reader and the rules' list have changed -/
def c2 (R A : Nat) (mr m : zM) : Prop := (∀ k, ¬ k = 27 → ¬ k = R → ¬ k = A → zat m k = zat mr k) ∧ (∀ i, rdF2.contains i = false → zfl m 27 i = zfl mr 27 i) ∧ ∀ i, ¬ i = 3 → zfl m R i = zfl mr R i
theorem zfl_ea {k i : Nat} (h : zat m k = zat mr k) : zfl m k i = zfl mr k i := by
  unfold zfl
  rw [h]
theorem c2_rf : c2 R A m m := ⟨fun _ _ _ _ => rfl, fun _ _ => rfl, fun _ _ => rfl⟩
theorem c2_tr {a b c : zM} (h : c2 R A a b) (k : c2 R A b c) : c2 R A a c := ⟨fun q h1 h2 h3 => (k.1 q h1 h2 h3).trans (h.1 q h1 h2 h3), fun i h1 => (k.2.1 i h1).trans (h.2.1 i h1), fun i h1 => (k.2.2 i h1).trans (h.2.2 i h1)⟩
theorem hRA_n (h : hRA R A) : ¬ R = 27 ∧ ¬ A = 27 ∧ ¬ R = 30 ∧ ¬ A = 30 ∧ ¬ R = 28 ∧ ¬ A = 28 ∧ ¬ R = 1 ∧ ¬ A = 1 ∧ ¬ R = A := by
  rcases h with ⟨rfl, rfl⟩ | ⟨rfl, rfl⟩ <;> decide
theorem c2_pF (hA : hRA R A) (h : pF R A mr m) : c2 R A mr m := by
  have N := hRA_n hA
  exact ⟨fun k _ h2 h3 => h.1 k h2 h3, fun i _ => zfl_ea (h.1 27 (by omega) (by omega)), h.2⟩
theorem c2_fo {is : List Nat} (hA : hRA R A) (h : fo 27 [] is mr m) (hi : is.all (fun k => rdF2.contains k) = true) : c2 R A mr m := by
  have N := hRA_n hA
  exact ⟨fun k h1 _ _ => h.1 k h1 rfl, fun i h1 => h.2 i (ct_up hi h1), fun i _ => zfl_ea (h.1 R (by omega) rfl)⟩
theorem c2_30 {i : Nat} (hA : hRA R A) (h : c2 R A mr m) : zfl m 30 i = zfl mr 30 i := by
  have N := hRA_n hA
  exact zfl_ea (h.1 30 (by decide) (by omega) (by omega))
theorem c2_g30 {i : Nat} (hA : hRA R A) (h : c2 R A mr m) : gi m 30 i = gi mr 30 i := by
  unfold gi
  rw [c2_30 hA h]
/-- what the class has printed -/
def cC (R A : Nat) (m : zM) : List Int := ((ga m A).take (gi m R 3).toInt.toNat).map Int32.toInt
theorem cC_eq (e : gi m R 3 = gi mr R 3) (a : ga m A = ga mr A) : cC R A m = cC R A mr := by
  unfold cC
  rw [e, a]
theorem cC_fo {is : List Nat} (hA : hRA R A) (h : fo 27 [] is mr m) : cC R A m = cC R A mr := by
  have N := hRA_n hA
  exact cC_eq (by unfold gi; rw [zfl_ea (h.1 R (by omega) rfl)]) (by unfold ga; rw [h.1 A (by omega) rfl])
theorem cC_put {i x : Int32} (l : (ga mr A).length = 1600) (r : 0 ≤ (gi mr R 3).toInt ∧ (gi mr R 3).toInt < 1600) (e3 : (gi m R 3).toInt = (gi mr R 3).toInt + 1) (hi : i.toInt = (gi mr R 3).toInt) (g : ga m A = (ga mr A).set i.toNatClampNeg x) : cC R A m = cC R A mr ++ [x.toInt] := by
  have ek : i.toNatClampNeg = (gi mr R 3).toInt.toNat := by
    have := zclamp (x := i) (by omega)
    omega
  unfold cC
  rw [g, ek, show (gi m R 3).toInt.toNat = (gi mr R 3).toInt.toNat + 1 by omega, List.take_succ, List.getElem?_set_self (by omega), List.take_set, List.set_eq_of_length_le (by rw [List.length_take]; omega), List.map_append]
  rfl
theorem cR_pF (hA : hRA R A) (F : pF R A mem m) (h : cR T n p t e mem) : cR T n p t e m := by
  have N := hRA_n hA
  obtain ⟨⟨c1, c2, c3, c4, c5⟩, hT, hE, hA⟩ := h
  have z27 := F.1 27 (by omega) (by omega)
  have g : ∀ i, gi m 27 i = gi mem 27 i := fun i => by
    unfold gi
    rw [zfl_ea z27]
  have a28 : ga m 28 = ga mem 28 := by
    unfold ga
    rw [F.1 28 (by omega) (by omega)]
  have a1 : ga m 1 = ga mem 1 := by
    unfold ga
    rw [F.1 1 (by omega) (by omega)]
  exact ⟨⟨(zfl_ea z27).trans c1, a28.trans c2, a1.trans c3, by rw [g]; exact c4, c5⟩, hT, by rw [g, g]; exact hE, by rw [g]; exact hA⟩
end CK
section CP
variable {d : Nat} {R A : Nat} {mr mem : zM} {T : List Int32} {n p e : Int} {t : Tk}
/-- put: one more, if there is room; its answer is 1 -/
def puQ (R A : Nat) (x : Int) (mr m : zM) : Prop := pF R A mr m ∧ ((gi mr R 3).toInt < 1600 → (gi m R 3).toInt = (gi mr R 3).toInt + 1) ∧ ((gi mr R 3).toInt < 1600 → cC R A m = cC R A mr ++ [x])
set_option maxRecDepth 100000 in
theorem w_putA {d : Nat} {mem : zM} {P : Option Value → zM → Prop} {x : Int32} (hm : aTm aT0 mem) (h1 : 1600 ≤ (gi mem 10 3).toInt → aTm aT0 mem → P (some (.int 1)) mem) (h2 : (gi mem 10 3).toInt < 1600 → ∀ (x2 : Int32), x2.toInt = ((gi mem 10 3).toInt + 1) → aTm aT0 (si (sx mem 11 (gi mem 10 3) x) 10 3 x2) → P (some (.int 1)) (si (sx mem 11 (gi mem 10 3) x) 10 3 x2)) : yR zpg tX7_put d (0, [(0, .ref 10), (1, .int x)], [], mem) P := by
  have r3 := rlA_r3 hm
  refine yR_m 1 (fun _ _ _ _ => rfl) ?_
  refine wR_gi rfl rlA_e rlA_3 hm rfl ?_
  refine yR_m 1 (fun _ _ _ _ => rfl) ?_
  refine wR_gr rfl rlA_e rlA_0 hm ?_
  refine wR_le (x := 1600) rfl aR_11 hm rfl ?_
  refine wR_ic_ge rfl (a := (gi mem 10 3).toInt) (c := 1600) rfl rfl (fun q1 => ?_) (fun q1 => ?_)
  ·
    refine yR_m 1 (fun _ _ _ _ => rfl) ?_
    exact yR_rz rfl ⟨by decide, by decide⟩ (h1 q1 hm)
  ·
    refine yR_m 1 (fun _ _ _ _ => rfl) ?_
    refine wR_gr rfl rlA_e rlA_0 hm ?_
    refine yR_m 1 (fun _ _ _ _ => rfl) ?_
    refine wR_gi rfl rlA_e rlA_3 hm rfl ?_
    refine yR_m 1 (fun _ _ _ _ => rfl) ?_
    refine wN_as (a := (gi mem 10 3).toInt) rfl aR_11 hm rfl (by omega) ?_
    have hm_1 : aTm aT0 (sx mem 11 (gi mem 10 3) x) := tm_sa aR_11 hm (i32_b _)
    refine yR_m 2 (fun _ _ _ _ => rfl) ?_
    refine wR_gi rfl rlA_e rlA_3 hm_1 (gi_sa) ?_
    refine yR_m 1 (fun _ _ _ _ => rfl) ?_
    refine wN_add (a := (gi mem 10 3).toInt) (b := 1) rfl rfl rfl (by omega) (fun x2 e3 => ?_)
    refine wR_pi rfl rlA_e rlA_3 hm_1 rfl ?_
    have hm_2 : aTm aT0 (si (sx mem 11 (gi mem 10 3) x) 10 3 x2) := tm_si rlA_e rlA_3 hm_1 (by rw [e3]; exact (by omega))
    refine yR_m 1 (fun _ _ _ _ => rfl) ?_
    exact yR_rz rfl ⟨by decide, by decide⟩ (h2 q1 x2 e3 hm_2)

set_option maxRecDepth 100000 in
theorem w_putB {d : Nat} {mem : zM} {P : Option Value → zM → Prop} {x : Int32} (hm : aTm aT0 mem) (h1 : 1600 ≤ (gi mem 22 3).toInt → aTm aT0 mem → P (some (.int 1)) mem) (h2 : (gi mem 22 3).toInt < 1600 → ∀ (x2 : Int32), x2.toInt = ((gi mem 22 3).toInt + 1) → aTm aT0 (si (sx mem 23 (gi mem 22 3) x) 22 3 x2) → P (some (.int 1)) (si (sx mem 23 (gi mem 22 3) x) 22 3 x2)) : yR zpg tX7_put d (0, [(0, .ref 22), (1, .int x)], [], mem) P := by
  have r3 := rlB_r3 hm
  refine yR_m 1 (fun _ _ _ _ => rfl) ?_
  refine wR_gi rfl rlB_e rlB_3 hm rfl ?_
  refine yR_m 1 (fun _ _ _ _ => rfl) ?_
  refine wR_gr rfl rlB_e rlB_0 hm ?_
  refine wR_le (x := 1600) rfl aR_23 hm rfl ?_
  refine wR_ic_ge rfl (a := (gi mem 22 3).toInt) (c := 1600) rfl rfl (fun q1 => ?_) (fun q1 => ?_)
  ·
    refine yR_m 1 (fun _ _ _ _ => rfl) ?_
    exact yR_rz rfl ⟨by decide, by decide⟩ (h1 q1 hm)
  ·
    refine yR_m 1 (fun _ _ _ _ => rfl) ?_
    refine wR_gr rfl rlB_e rlB_0 hm ?_
    refine yR_m 1 (fun _ _ _ _ => rfl) ?_
    refine wR_gi rfl rlB_e rlB_3 hm rfl ?_
    refine yR_m 1 (fun _ _ _ _ => rfl) ?_
    refine wN_as (a := (gi mem 22 3).toInt) rfl aR_23 hm rfl (by omega) ?_
    have hm_1 : aTm aT0 (sx mem 23 (gi mem 22 3) x) := tm_sa aR_23 hm (i32_b _)
    refine yR_m 2 (fun _ _ _ _ => rfl) ?_
    refine wR_gi rfl rlB_e rlB_3 hm_1 (gi_sa) ?_
    refine yR_m 1 (fun _ _ _ _ => rfl) ?_
    refine wN_add (a := (gi mem 22 3).toInt) (b := 1) rfl rfl rfl (by omega) (fun x2 e3 => ?_)
    refine wR_pi rfl rlB_e rlB_3 hm_1 rfl ?_
    have hm_2 : aTm aT0 (si (sx mem 23 (gi mem 22 3) x) 22 3 x2) := tm_si rlB_e rlB_3 hm_1 (by rw [e3]; exact (by omega))
    refine yR_m 1 (fun _ _ _ _ => rfl) ?_
    exact yR_rz rfl ⟨by decide, by decide⟩ (h2 q1 x2 e3 hm_2)

theorem h_putC {x : Int32} (hA : hRA R A) (hm : aTm aT0 mem) (hd : 1 ≤ d) : yC zpg d 78 [.ref R, .int x] mem (fun r m => ∃ v : Int32, r = some (.int v) ∧ aTm aT0 m ∧ (puQ R A x.toInt mem m ∧ v.toInt = 1)) := by
  obtain ⟨d, rfl⟩ : ∃ q, d = q + 1 := ⟨d - 1, by omega⟩
  rcases hA with ⟨rfl, rfl⟩ | ⟨rfl, rfl⟩
  · refine yC_of (t := tX7_put) rfl rfl ?_
    exact w_putA hm
        (fun q1 hm2 => ⟨1, rfl, hm2, ⟨⟨fun _ _ _ => rfl, fun _ _ => rfl⟩, fun w => by exfalso; omega, fun w => by exfalso; omega⟩, rfl⟩)
        (fun q1 x2 e3 hm2 => ⟨1, rfl, hm2, ⟨⟨fun k a c => by rw [zat_sv_ne (Ne.symm a), zat_sa_ne (Ne.symm c)], fun i hi => by rw [zfl_sv_ne (fun q => hi q.2.symm), zfl_sa]⟩, fun w => by rw [(gi_eqQ (isQ_sa (by decide) (isQ_of rlA_e hm)) rlA_3)]; omega, fun w => cC_put (i := (gi mem 10 3)) (gl_11 hm) ⟨(rlA_r3 hm).1, w⟩ (by rw [(gi_eqQ (isQ_sa (by decide) (isQ_of rlA_e hm)) rlA_3)]; omega) (by omega) (((ga_sv).trans ga_sa_eq))⟩, rfl⟩)
  · refine yC_of (t := tX7_put) rfl rfl ?_
    exact w_putB hm
        (fun q1 hm2 => ⟨1, rfl, hm2, ⟨⟨fun _ _ _ => rfl, fun _ _ => rfl⟩, fun w => by exfalso; omega, fun w => by exfalso; omega⟩, rfl⟩)
        (fun q1 x2 e3 hm2 => ⟨1, rfl, hm2, ⟨⟨fun k a c => by rw [zat_sv_ne (Ne.symm a), zat_sa_ne (Ne.symm c)], fun i hi => by rw [zfl_sv_ne (fun q => hi q.2.symm), zfl_sa]⟩, fun w => by rw [(gi_eqQ (isQ_sa (by decide) (isQ_of rlB_e hm)) rlB_3)]; omega, fun w => cC_put (i := (gi mem 22 3)) (gl_23 hm) ⟨(rlB_r3 hm).1, w⟩ (by rw [(gi_eqQ (isQ_sa (by decide) (isQ_of rlB_e hm)) rlB_3)]; omega) (by omega) (((ga_sv).trans ga_sa_eq))⟩, rfl⟩)
end CP
