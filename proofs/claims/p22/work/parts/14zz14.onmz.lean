/-! on of the model: what is so behind it -/
section ONMZ
variable {d : Nat} {mem m mr a b : zM} {Q : Qd} {S : Sd} {K : Kd} {P0 : Pd} {hu : Int → Int}
theorem gn_ns {l : List Int32} {j : Nat} {v : Int32} {i : Int} (i0 : 0 ≤ i) (h : ¬ i = (j : Int)) : gn (l.set j v) i = gn l i := by
  unfold gn
  rw [List.getD_eq_getElem?_getD, List.getElem?_set_ne (by omega), ← List.getD_eq_getElem?_getD]
theorem F1_sa {c j : Nat} {x : Int32} (hc : 249 ≤ c) (h5 : ¬ c = 255) (h9 : c = 249 ∨ c = 250 ∨ c = 253 → j = 1) (h1 : c = 251 → 9 ≤ j ∧ j < 18) (h2 : c = 252 → 6 ≤ j ∧ j < 12) (h4 : ¬ c = 254) : F1 a (sa a c j x) := by
  have X : ∀ q, ∀ i : Int, 0 ≤ i → (q = c → ¬ i = (j : Int)) → gn (ga (sa a c j x) q) i = gn (ga a q) i := fun q i i0 h => by
    by_cases w : q = c
    · subst w
      rw [ga_sa_eq, gn_ns i0 (h rfl)]
    · rw [ga_sa_ne (fun z => w z.symm)]
  refine ⟨fun q hq => zat_sa_ne (by omega), ⟨fun u u0 uv => ⟨X 249 u u0 (fun w => by have := h9 (by omega); omega), X 250 u u0 (fun w => by have := h9 (by omega); omega)⟩, fun i i0 iv => X 251 i i0 (fun w => by have := h1 w.symm; omega), fun i i0 iv => X 252 i i0 (fun w => by have := h2 w.symm; omega), fun u u0 u1 uv => ⟨X 253 u u0 (fun w => by have := h9 (by omega); omega), fun i i0 i1 => X 254 _ (by omega) (fun w => by omega)⟩⟩, ga_sa_ne h5⟩
theorem tM_zz {v : Int} (h : ∀ k, 249 ≤ k → k ≤ 255 → ga b k = ga a k) (hS : tM v Q hu S a) : tM v Q hu S b := by
  unfold tM at hS ⊢
  rw [h 249 (by decide) (by decide), h 250 (by decide) (by decide), h 251 (by decide) (by decide), h 252 (by decide) (by decide), h 255 (by decide) (by decide)]
  exact hS
theorem kM_zz {v : Int} (h : ∀ k, 249 ≤ k → k ≤ 255 → ga b k = ga a k) (hK : kM v K a) : kM v K b := kM_q (h 253 (by decide) (by decide)) (h 254 (by decide) (by decide)) hK
theorem rgM_zz (h : ∀ k, 249 ≤ k → k ≤ 255 → ga b k = ga a k) (e54 : gi b 221 54 = gi a 221 54) (e55 : gi b 221 55 = gi a 221 55) (hP : rgM Q hu P0 a) : rgM Q hu P0 b := by
  unfold rgM at hP ⊢
  rw [e54, e55]
  exact ⟨hP.1, hP.2.1, fun k k0 k1 => ⟨tM_zz h (hP.2.2 k k0 k1).1, kM_zz h (hP.2.2 k k0 k1).2⟩⟩
theorem mB_tk (h : mB Q mem) : mB Q (si mem 221 1 0) := mB_zat (gi_sv_ne (by decide)) (gi_sv_ne (by decide)) (fun k h1 h2 => zat_sv_ne (by omega)) h
/-- what folkOn leaves -/
def foP (k f : Int32) (mr m : zM) (v : Int32) : Prop := F1 mr m ∧ (v.toInt = 0 ∨ v.toInt = 1) ∧ (∀ j, 0 ≤ j → ¬ j = 6 + k.toInt → gn (ga m 252) j = gn (ga mr 252) j) ∧ (∀ q, ¬ q = 252 → zat m q = zat mr q) ∧ (v.toInt = 1 → gn (ga m 252) (6 + k.toInt) = 8 * gn (ga mr 222) (f.toInt + 1) + gn (ga mr 222) f.toInt)
theorem foP_0 {k f : Int32} : foP k f mem mem 0 := ⟨F1_rf, Or.inl rfl, fun _ _ _ => rfl, fun _ _ => rfl, fun w => by exfalso; have z : (0 : Int32).toInt = 0 := rfl; omega⟩
theorem foP_s {k f x z v : Int32} (hk : 0 ≤ k.toInt ∧ k.toInt ≤ 5) (hm : aTm aT0 mem) (hx : x.toInt = 6 + k.toInt) (hz : z.toInt = 8 * gn (ga mem 222) (f.toInt + 1) + gn (ga mem 222) f.toInt) (hv : v.toInt = 0 ∨ v.toInt = 1) : foP k f mem (sa mem 252 x.toNatClampNeg z) v := by
  have c := zclamp (x := x) (by omega)
  have G : ∀ j, 0 ≤ j → gn (ga (sa mem 252 x.toNatClampNeg z) 252) j = if j = 6 + k.toInt then z.toInt else gn (ga mem 252) j := fun j j0 => by
    rw [ga_sa_eq, gn_set hx (by omega) (by rw [(ga_ty aR_252 hm).2.1]; omega) j0]
  exact ⟨F1_sa (by decide) (by decide) (fun w => by omega) (fun w => by omega) (fun _ => by omega) (by decide), hv, fun j j0 j1 => by rw [G j j0, if_neg j1], fun q hq => zat_sa_ne (fun w => hq w.symm), fun _ => by rw [G _ (by omega), if_pos rfl, hz]⟩
set_option maxRecDepth 100000 in
theorem w_fo {d : Nat} {mem : zM} {P : Option Value → zM → Prop} {k f : Int32} (hm : aTm aT0 mem) {Q : Qd} (hM : mB Q mem) (hW : WQ Q) (hk : 0 ≤ k.toInt ∧ k.toInt ≤ 5) (hf : 0 ≤ f.toInt ∧ f.toInt ≤ 1000) (h1 : ∀ (y1 : Int32), y1.toInt = (gn (ga mem 222) (f).toInt) → ∀ (x3 : Int32), x3.toInt = ((f).toInt + 1) → ∀ (y5 : Int32), y5.toInt = (gn (ga mem 222) ((f).toInt + 1)) → (gi mem 221 46).toInt = 0 → aTm aT0 mem → P (some (.int 0)) mem) (h2 : ∀ (y1 : Int32), y1.toInt = (gn (ga mem 222) (f).toInt) → ∀ (x3 : Int32), x3.toInt = ((f).toInt + 1) → ∀ (y5 : Int32), y5.toInt = (gn (ga mem 222) ((f).toInt + 1)) → ¬ (gi mem 221 46).toInt = 0 → ∀ (y8 : Int32), y8.toInt = (gn (ga mem 223) (gi mem 221 13).toInt) → ∀ (x10 : Int32), x10.toInt = ((gn (ga mem 223) (gi mem 221 13).toInt) - 1) → (gn (ga mem 222) (f).toInt) < 0 → aTm aT0 mem → P (some (.int 0)) mem) (h3 : ∀ (y1 : Int32), y1.toInt = (gn (ga mem 222) (f).toInt) → ∀ (x3 : Int32), x3.toInt = ((f).toInt + 1) → ∀ (y5 : Int32), y5.toInt = (gn (ga mem 222) ((f).toInt + 1)) → ¬ (gi mem 221 46).toInt = 0 → ∀ (y8 : Int32), y8.toInt = (gn (ga mem 223) (gi mem 221 13).toInt) → ∀ (x10 : Int32), x10.toInt = ((gn (ga mem 223) (gi mem 221 13).toInt) - 1) → 0 ≤ (gn (ga mem 222) (f).toInt) → ((gn (ga mem 223) (gi mem 221 13).toInt) - 1) < (gn (ga mem 222) (f).toInt) → aTm aT0 mem → P (some (.int 0)) mem) (h4 : ∀ (y1 : Int32), y1.toInt = (gn (ga mem 222) (f).toInt) → ∀ (x3 : Int32), x3.toInt = ((f).toInt + 1) → ∀ (y5 : Int32), y5.toInt = (gn (ga mem 222) ((f).toInt + 1)) → ¬ (gi mem 221 46).toInt = 0 → ∀ (y8 : Int32), y8.toInt = (gn (ga mem 223) (gi mem 221 13).toInt) → ∀ (x10 : Int32), x10.toInt = ((gn (ga mem 223) (gi mem 221 13).toInt) - 1) → 0 ≤ (gn (ga mem 222) (f).toInt) → (gn (ga mem 222) (f).toInt) ≤ ((gn (ga mem 223) (gi mem 221 13).toInt) - 1) → ∀ (y14 : Int32), y14.toInt = (gn (ga mem 224) (gi mem 221 13).toInt) → ∀ (x16 : Int32), x16.toInt = ((gn (ga mem 224) (gi mem 221 13).toInt) - 1) → (gn (ga mem 222) ((f).toInt + 1)) < 0 → aTm aT0 mem → P (some (.int 0)) mem) (h5 : ∀ (y1 : Int32), y1.toInt = (gn (ga mem 222) (f).toInt) → ∀ (x3 : Int32), x3.toInt = ((f).toInt + 1) → ∀ (y5 : Int32), y5.toInt = (gn (ga mem 222) ((f).toInt + 1)) → ¬ (gi mem 221 46).toInt = 0 → ∀ (y8 : Int32), y8.toInt = (gn (ga mem 223) (gi mem 221 13).toInt) → ∀ (x10 : Int32), x10.toInt = ((gn (ga mem 223) (gi mem 221 13).toInt) - 1) → 0 ≤ (gn (ga mem 222) (f).toInt) → (gn (ga mem 222) (f).toInt) ≤ ((gn (ga mem 223) (gi mem 221 13).toInt) - 1) → ∀ (y14 : Int32), y14.toInt = (gn (ga mem 224) (gi mem 221 13).toInt) → ∀ (x16 : Int32), x16.toInt = ((gn (ga mem 224) (gi mem 221 13).toInt) - 1) → 0 ≤ (gn (ga mem 222) ((f).toInt + 1)) → ((gn (ga mem 224) (gi mem 221 13).toInt) - 1) < (gn (ga mem 222) ((f).toInt + 1)) → aTm aT0 mem → P (some (.int 0)) mem) (h6 : ∀ (y1 : Int32), y1.toInt = (gn (ga mem 222) (f).toInt) → ∀ (x3 : Int32), x3.toInt = ((f).toInt + 1) → ∀ (y5 : Int32), y5.toInt = (gn (ga mem 222) ((f).toInt + 1)) → ¬ (gi mem 221 46).toInt = 0 → ∀ (y8 : Int32), y8.toInt = (gn (ga mem 223) (gi mem 221 13).toInt) → ∀ (x10 : Int32), x10.toInt = ((gn (ga mem 223) (gi mem 221 13).toInt) - 1) → 0 ≤ (gn (ga mem 222) (f).toInt) → (gn (ga mem 222) (f).toInt) ≤ ((gn (ga mem 223) (gi mem 221 13).toInt) - 1) → ∀ (y14 : Int32), y14.toInt = (gn (ga mem 224) (gi mem 221 13).toInt) → ∀ (x16 : Int32), x16.toInt = ((gn (ga mem 224) (gi mem 221 13).toInt) - 1) → 0 ≤ (gn (ga mem 222) ((f).toInt + 1)) → (gn (ga mem 222) ((f).toInt + 1)) ≤ ((gn (ga mem 224) (gi mem 221 13).toInt) - 1) → ∀ (x20 : Int32), x20.toInt = ((f).toInt + 1) → ∀ (y22 : Int32), y22.toInt = (gn (ga mem 222) ((f).toInt + 1)) → ∀ (x24 : Int32), x24.toInt = (8 * (gn (ga mem 222) ((f).toInt + 1))) → ∀ (y26 : Int32), y26.toInt = (gn (ga mem 222) (f).toInt) → ∀ (x28 : Int32), x28.toInt = ((8 * (gn (ga mem 222) ((f).toInt + 1))) + (gn (ga mem 222) (f).toInt)) → ∀ (x30 : Int32), x30.toInt = (6 + (k).toInt) → ∀ (x32 : Int32), x32.toInt = (64 * (gi mem 221 13).toInt) → ∀ (x34 : Int32), x34.toInt = ((64 * (gi mem 221 13).toInt) + ((8 * (gn (ga mem 222) ((f).toInt + 1))) + (gn (ga mem 222) (f).toInt))) → ∀ (y36 : Int32), y36.toInt = (gn (ga mem 227) ((64 * (gi mem 221 13).toInt) + ((8 * (gn (ga mem 222) ((f).toInt + 1))) + (gn (ga mem 222) (f).toInt)))) → ¬ (gn (ga mem 227) ((64 * (gi mem 221 13).toInt) + ((8 * (gn (ga mem 222) ((f).toInt + 1))) + (gn (ga mem 222) (f).toInt)))) = 1 → aTm aT0 (sx mem 252 x30 x28) → P (some (.int 1)) (sx mem 252 x30 x28)) (h7 : ∀ (y1 : Int32), y1.toInt = (gn (ga mem 222) (f).toInt) → ∀ (x3 : Int32), x3.toInt = ((f).toInt + 1) → ∀ (y5 : Int32), y5.toInt = (gn (ga mem 222) ((f).toInt + 1)) → ¬ (gi mem 221 46).toInt = 0 → ∀ (y8 : Int32), y8.toInt = (gn (ga mem 223) (gi mem 221 13).toInt) → ∀ (x10 : Int32), x10.toInt = ((gn (ga mem 223) (gi mem 221 13).toInt) - 1) → 0 ≤ (gn (ga mem 222) (f).toInt) → (gn (ga mem 222) (f).toInt) ≤ ((gn (ga mem 223) (gi mem 221 13).toInt) - 1) → ∀ (y14 : Int32), y14.toInt = (gn (ga mem 224) (gi mem 221 13).toInt) → ∀ (x16 : Int32), x16.toInt = ((gn (ga mem 224) (gi mem 221 13).toInt) - 1) → 0 ≤ (gn (ga mem 222) ((f).toInt + 1)) → (gn (ga mem 222) ((f).toInt + 1)) ≤ ((gn (ga mem 224) (gi mem 221 13).toInt) - 1) → ∀ (x20 : Int32), x20.toInt = ((f).toInt + 1) → ∀ (y22 : Int32), y22.toInt = (gn (ga mem 222) ((f).toInt + 1)) → ∀ (x24 : Int32), x24.toInt = (8 * (gn (ga mem 222) ((f).toInt + 1))) → ∀ (y26 : Int32), y26.toInt = (gn (ga mem 222) (f).toInt) → ∀ (x28 : Int32), x28.toInt = ((8 * (gn (ga mem 222) ((f).toInt + 1))) + (gn (ga mem 222) (f).toInt)) → ∀ (x30 : Int32), x30.toInt = (6 + (k).toInt) → ∀ (x32 : Int32), x32.toInt = (64 * (gi mem 221 13).toInt) → ∀ (x34 : Int32), x34.toInt = ((64 * (gi mem 221 13).toInt) + ((8 * (gn (ga mem 222) ((f).toInt + 1))) + (gn (ga mem 222) (f).toInt))) → ∀ (y36 : Int32), y36.toInt = (gn (ga mem 227) ((64 * (gi mem 221 13).toInt) + ((8 * (gn (ga mem 222) ((f).toInt + 1))) + (gn (ga mem 222) (f).toInt)))) → (gn (ga mem 227) ((64 * (gi mem 221 13).toInt) + ((8 * (gn (ga mem 222) ((f).toInt + 1))) + (gn (ga mem 222) (f).toInt)))) = 1 → aTm aT0 (sx mem 252 x30 x28) → P (some (.int 0)) (sx mem 252 x30 x28)) : yR zpg tX12_folkOn (d + 2) (0, [(0, .ref 221), (1, .int k), (2, .int f)], [], mem) P := by
  have rb := mO_r13 hm
  have mc := hM.1.1.1
  have mr := hM.1.1.2
  have w7 := hW.1
  have t0 := gR_222 hm (i := f.toInt) hf.1 (by omega)
  have t1 := gR_222 hm (i := f.toInt + 1) (by omega) (by omega)
  refine yR_m 2 (fun _ _ _ _ => rfl) ?_
  refine wR_gr rfl mO_e mO_0 hm ?_
  refine yR_m 1 (fun _ _ _ _ => rfl) ?_
  refine wN_al (a := (f).toInt) rfl aR_222 hm rfl rfl (by omega) (fun y1 e2 => ?_)
  refine yR_m 1 (fun _ _ _ _ => rfl) ?_
  refine wR_gr rfl mO_e mO_0 hm ?_
  refine yR_m 2 (fun _ _ _ _ => rfl) ?_
  refine wN_add (a := (f).toInt) (b := 1) rfl rfl rfl (by omega) (fun x3 e4 => ?_)
  refine wN_al (a := ((f).toInt + 1)) rfl aR_222 hm rfl e4 (by omega) (fun y5 e6 => ?_)
  refine wR_iv rfl rfl mO_e hm rfl rfl rfl rfl ?_
  show yR zpg tX12_isCell (d + 1) (0, [(0, .ref 221), (1, .int y1), (2, .int y5)], [], mem) _
  refine yR_m 1 (fun _ _ _ _ => rfl) ?_
  refine wR_gi rfl mO_e mO_46 hm rfl ?_
  refine wR_if_eq rfl (a := (gi mem 221 46).toInt) rfl (fun q7 => ?_) (fun q7 => ?_)
  ·
    refine yR_m 1 (fun _ _ _ _ => rfl) ?_
    refine yR_rz rfl ⟨by decide, by decide⟩ ?_
    show yR zpg tX12_folkOn (d + 2) (18, [(0, .ref 221), (1, .int k), (2, .int f)], [.int 0], mem) _
    refine wR_if_ne rfl (a := 0) rfl (fun q => by exfalso; omega) (fun _ => ?_)
    refine yR_m 1 (fun _ _ _ _ => rfl) ?_
    exact yR_rz rfl ⟨by decide, by decide⟩ (h1 y1 e2 x3 e4 y5 e6 q7 hm)
  ·
    refine yR_m 3 (fun _ _ _ _ => rfl) ?_
    refine wR_gr rfl mO_e mO_14 hm ?_
    refine yR_m 1 (fun _ _ _ _ => rfl) ?_
    refine wR_gi rfl mO_e mO_13 hm rfl ?_
    refine wN_al (a := (gi mem 221 13).toInt) rfl aR_223 hm rfl rfl (by omega) (fun y8 e9 => ?_)
    refine yR_m 1 (fun _ _ _ _ => rfl) ?_
    refine wN_sub (a := (gn (ga mem 223) (gi mem 221 13).toInt)) (b := 1) rfl e9 rfl (by omega) (fun x10 e11 => ?_)
    refine wR_is rfl rfl rfl rfl rfl rfl ?_
    show yR zpg tX12_is d (0, [(0, .int y1), (1, .int 0), (2, .int x10)], [], mem) _
    refine yR_m 2 (fun _ _ _ _ => rfl) ?_
    refine wR_ic_lt rfl (a := (gn (ga mem 222) (f).toInt)) (c := 0) e2 rfl (fun q12 => ?_) (fun q12 => ?_)
    ·
      refine yR_m 1 (fun _ _ _ _ => rfl) ?_
      refine yR_rz rfl ⟨by decide, by decide⟩ ?_
      show yR zpg tX12_isCell (d + 1) (23, [(0, .ref 221), (1, .int y1), (2, .int y5)], [.int 0], mem) _
      refine wR_if_eq rfl (a := 0) rfl (fun _ => ?_) (fun q => by exfalso; omega)
      refine yR_m 1 (fun _ _ _ _ => rfl) ?_
      refine yR_rz rfl ⟨by decide, by decide⟩ ?_
      show yR zpg tX12_folkOn (d + 2) (18, [(0, .ref 221), (1, .int k), (2, .int f)], [.int 0], mem) _
      refine wR_if_ne rfl (a := 0) rfl (fun q => by exfalso; omega) (fun _ => ?_)
      refine yR_m 1 (fun _ _ _ _ => rfl) ?_
      exact yR_rz rfl ⟨by decide, by decide⟩ (h2 y1 e2 x3 e4 y5 e6 q7 y8 e9 x10 e11 q12 hm)
    ·
      refine yR_m 2 (fun _ _ _ _ => rfl) ?_
      refine wR_ic_gt rfl (a := (gn (ga mem 222) (f).toInt)) (c := ((gn (ga mem 223) (gi mem 221 13).toInt) - 1)) e2 e11 (fun q13 => ?_) (fun q13 => ?_)
      ·
        refine yR_m 1 (fun _ _ _ _ => rfl) ?_
        refine yR_rz rfl ⟨by decide, by decide⟩ ?_
        show yR zpg tX12_isCell (d + 1) (23, [(0, .ref 221), (1, .int y1), (2, .int y5)], [.int 0], mem) _
        refine wR_if_eq rfl (a := 0) rfl (fun _ => ?_) (fun q => by exfalso; omega)
        refine yR_m 1 (fun _ _ _ _ => rfl) ?_
        refine yR_rz rfl ⟨by decide, by decide⟩ ?_
        show yR zpg tX12_folkOn (d + 2) (18, [(0, .ref 221), (1, .int k), (2, .int f)], [.int 0], mem) _
        refine wR_if_ne rfl (a := 0) rfl (fun q => by exfalso; omega) (fun _ => ?_)
        refine yR_m 1 (fun _ _ _ _ => rfl) ?_
        exact yR_rz rfl ⟨by decide, by decide⟩ (h3 y1 e2 x3 e4 y5 e6 q7 y8 e9 x10 e11 q12 q13 hm)
      ·
        refine yR_m 2 (fun _ _ _ _ => rfl) ?_
        refine yR_rz rfl ⟨by decide, by decide⟩ ?_
        show yR zpg tX12_isCell (d + 1) (23, [(0, .ref 221), (1, .int y1), (2, .int y5)], [.int 1], mem) _
        refine wR_if_eq rfl (a := 1) rfl (fun q => by exfalso; omega) (fun _ => ?_)
        refine yR_m 3 (fun _ _ _ _ => rfl) ?_
        refine wR_gr rfl mO_e mO_15 hm ?_
        refine yR_m 1 (fun _ _ _ _ => rfl) ?_
        refine wR_gi rfl mO_e mO_13 hm rfl ?_
        refine wN_al (a := (gi mem 221 13).toInt) rfl aR_224 hm rfl rfl (by omega) (fun y14 e15 => ?_)
        refine yR_m 1 (fun _ _ _ _ => rfl) ?_
        refine wN_sub (a := (gn (ga mem 224) (gi mem 221 13).toInt)) (b := 1) rfl e15 rfl (by omega) (fun x16 e17 => ?_)
        refine wR_is rfl rfl rfl rfl rfl rfl ?_
        show yR zpg tX12_is d (0, [(0, .int y5), (1, .int 0), (2, .int x16)], [], mem) _
        refine yR_m 2 (fun _ _ _ _ => rfl) ?_
        refine wR_ic_lt rfl (a := (gn (ga mem 222) ((f).toInt + 1))) (c := 0) e6 rfl (fun q18 => ?_) (fun q18 => ?_)
        ·
          refine yR_m 1 (fun _ _ _ _ => rfl) ?_
          refine yR_rz rfl ⟨by decide, by decide⟩ ?_
          show yR zpg tX12_isCell (d + 1) (42, [(0, .ref 221), (1, .int y1), (2, .int y5)], [.int 0], mem) _
          refine wR_if_eq rfl (a := 0) rfl (fun _ => ?_) (fun q => by exfalso; omega)
          refine yR_m 1 (fun _ _ _ _ => rfl) ?_
          refine yR_rz rfl ⟨by decide, by decide⟩ ?_
          show yR zpg tX12_folkOn (d + 2) (18, [(0, .ref 221), (1, .int k), (2, .int f)], [.int 0], mem) _
          refine wR_if_ne rfl (a := 0) rfl (fun q => by exfalso; omega) (fun _ => ?_)
          refine yR_m 1 (fun _ _ _ _ => rfl) ?_
          exact yR_rz rfl ⟨by decide, by decide⟩ (h4 y1 e2 x3 e4 y5 e6 q7 y8 e9 x10 e11 q12 q13 y14 e15 x16 e17 q18 hm)
        ·
          refine yR_m 2 (fun _ _ _ _ => rfl) ?_
          refine wR_ic_gt rfl (a := (gn (ga mem 222) ((f).toInt + 1))) (c := ((gn (ga mem 224) (gi mem 221 13).toInt) - 1)) e6 e17 (fun q19 => ?_) (fun q19 => ?_)
          ·
            refine yR_m 1 (fun _ _ _ _ => rfl) ?_
            refine yR_rz rfl ⟨by decide, by decide⟩ ?_
            show yR zpg tX12_isCell (d + 1) (42, [(0, .ref 221), (1, .int y1), (2, .int y5)], [.int 0], mem) _
            refine wR_if_eq rfl (a := 0) rfl (fun _ => ?_) (fun q => by exfalso; omega)
            refine yR_m 1 (fun _ _ _ _ => rfl) ?_
            refine yR_rz rfl ⟨by decide, by decide⟩ ?_
            show yR zpg tX12_folkOn (d + 2) (18, [(0, .ref 221), (1, .int k), (2, .int f)], [.int 0], mem) _
            refine wR_if_ne rfl (a := 0) rfl (fun q => by exfalso; omega) (fun _ => ?_)
            refine yR_m 1 (fun _ _ _ _ => rfl) ?_
            exact yR_rz rfl ⟨by decide, by decide⟩ (h5 y1 e2 x3 e4 y5 e6 q7 y8 e9 x10 e11 q12 q13 y14 e15 x16 e17 q18 q19 hm)
          ·
            refine yR_m 2 (fun _ _ _ _ => rfl) ?_
            refine yR_rz rfl ⟨by decide, by decide⟩ ?_
            show yR zpg tX12_isCell (d + 1) (42, [(0, .ref 221), (1, .int y1), (2, .int y5)], [.int 1], mem) _
            refine wR_if_eq rfl (a := 1) rfl (fun q => by exfalso; omega) (fun _ => ?_)
            refine yR_m 2 (fun _ _ _ _ => rfl) ?_
            refine yR_rz rfl ⟨by decide, by decide⟩ ?_
            show yR zpg tX12_folkOn (d + 2) (18, [(0, .ref 221), (1, .int k), (2, .int f)], [.int 1], mem) _
            refine wR_if_ne rfl (a := 1) rfl (fun _ => ?_) (fun q => by exfalso; omega)
            refine yR_m 2 (fun _ _ _ _ => rfl) ?_
            refine wR_gr rfl mO_e mO_0 hm ?_
            refine yR_m 2 (fun _ _ _ _ => rfl) ?_
            refine wN_add (a := (f).toInt) (b := 1) rfl rfl rfl (by omega) (fun x20 e21 => ?_)
            refine wN_al (a := ((f).toInt + 1)) rfl aR_222 hm rfl e21 (by omega) (fun y22 e23 => ?_)
            refine wN_mul (a := 8) (b := (gn (ga mem 222) ((f).toInt + 1))) rfl rfl e23 (by omega) (fun x24 e25 => ?_)
            refine yR_m 1 (fun _ _ _ _ => rfl) ?_
            refine wR_gr rfl mO_e mO_0 hm ?_
            refine yR_m 1 (fun _ _ _ _ => rfl) ?_
            refine wN_al (a := (f).toInt) rfl aR_222 hm rfl rfl (by omega) (fun y26 e27 => ?_)
            refine wN_add (a := (8 * (gn (ga mem 222) ((f).toInt + 1)))) (b := (gn (ga mem 222) (f).toInt)) rfl e25 e27 (by omega) (fun x28 e29 => ?_)
            refine yR_m 2 (fun _ _ _ _ => rfl) ?_
            refine wR_gr rfl mO_e mO_51 hm ?_
            refine yR_m 2 (fun _ _ _ _ => rfl) ?_
            refine wN_add (a := 6) (b := (k).toInt) rfl rfl rfl (by omega) (fun x30 e31 => ?_)
            refine yR_m 1 (fun _ _ _ _ => rfl) ?_
            refine wN_as (a := (6 + (k).toInt)) rfl aR_252 hm e31 (by omega) ?_
            have hm_1 : aTm aT0 (sx mem 252 x30 x28) := tm_sa aR_252 hm (by rw [e29]; exact (by omega))
            refine yR_m 2 (fun _ _ _ _ => rfl) ?_
            refine wR_iv rfl rfl mO_e hm_1 rfl rfl rfl rfl ?_
            show yR zpg tX12_isWall (d + 1) (0, [(0, .ref 221), (1, .int x28)], [], (sx mem 252 x30 x28)) _
            refine yR_m 1 (fun _ _ _ _ => rfl) ?_
            refine wR_gr rfl mO_e mO_18 hm_1 ?_
            refine yR_m 2 (fun _ _ _ _ => rfl) ?_
            refine wR_gi rfl mO_e mO_13 hm_1 (gi_sa) ?_
            refine wN_mul (a := 64) (b := (gi mem 221 13).toInt) rfl rfl rfl (by omega) (fun x32 e33 => ?_)
            refine yR_m 1 (fun _ _ _ _ => rfl) ?_
            refine wN_add (a := (64 * (gi mem 221 13).toInt)) (b := ((8 * (gn (ga mem 222) ((f).toInt + 1))) + (gn (ga mem 222) (f).toInt))) rfl e33 e29 (by omega) (fun x34 e35 => ?_)
            refine wN_al (a := ((64 * (gi mem 221 13).toInt) + ((8 * (gn (ga mem 222) ((f).toInt + 1))) + (gn (ga mem 222) (f).toInt)))) rfl aR_227 hm_1 (ga_sa_ne (by first | decide | omega)) e35 (by omega) (fun y36 e37 => ?_)
            refine yR_m 1 (fun _ _ _ _ => rfl) ?_
            refine wR_ic_ne rfl (a := (gn (ga mem 227) ((64 * (gi mem 221 13).toInt) + ((8 * (gn (ga mem 222) ((f).toInt + 1))) + (gn (ga mem 222) (f).toInt))))) (c := 1) e37 rfl (fun q38 => ?_) (fun q38 => ?_)
            ·
              refine yR_m 1 (fun _ _ _ _ => rfl) ?_
              refine yR_rz rfl ⟨by decide, by decide⟩ ?_
              show yR zpg tX12_folkOn (d + 2) (57, [(3, .int x28), (0, .ref 221), (1, .int k), (2, .int f)], [.int 0], (sx mem 252 x30 x28)) _
              refine wR_if_ne rfl (a := 0) rfl (fun q => by exfalso; omega) (fun _ => ?_)
              refine yR_m 2 (fun _ _ _ _ => rfl) ?_
              exact yR_rz rfl ⟨by decide, by decide⟩ (h6 y1 e2 x3 e4 y5 e6 q7 y8 e9 x10 e11 q12 q13 y14 e15 x16 e17 q18 q19 x20 e21 y22 e23 x24 e25 y26 e27 x28 e29 x30 e31 x32 e33 x34 e35 y36 e37 q38 hm_1)
            ·
              refine yR_m 2 (fun _ _ _ _ => rfl) ?_
              refine yR_rz rfl ⟨by decide, by decide⟩ ?_
              show yR zpg tX12_folkOn (d + 2) (57, [(3, .int x28), (0, .ref 221), (1, .int k), (2, .int f)], [.int 1], (sx mem 252 x30 x28)) _
              refine wR_if_ne rfl (a := 1) rfl (fun _ => ?_) (fun q => by exfalso; omega)
              refine yR_m 1 (fun _ _ _ _ => rfl) ?_
              exact yR_rz rfl ⟨by decide, by decide⟩ (h7 y1 e2 x3 e4 y5 e6 q7 y8 e9 x10 e11 q12 q13 y14 e15 x16 e17 q18 q19 x20 e21 y22 e23 x24 e25 y26 e27 x28 e29 x30 e31 x32 e33 x34 e35 y36 e37 q38 hm_1)

theorem h_fo {k f : Int32} (hm : aTm aT0 mem) (hM : mB Q mem) (hW : WQ Q) (hk : 0 ≤ k.toInt ∧ k.toInt ≤ 5) (hf : 0 ≤ f.toInt ∧ f.toInt ≤ 1000) (hd : 3 ≤ d) : yC zpg d 276 [.ref 221, .int k, .int f] mem (fun r m => ∃ v : Int32, r = some (.int v) ∧ aTm aT0 m ∧ foP k f mem m v) := by
  obtain ⟨d, rfl⟩ : ∃ q, d = q + 3 := ⟨d - 3, by omega⟩
  refine yC_of (t := tX12_folkOn) rfl rfl ?_
  exact w_fo hm hM hW hk hf
        (fun y1 e2 x3 e4 y5 e6 q7 hm2 => ⟨_, rfl, hm2, foP_0⟩)
        (fun y1 e2 x3 e4 y5 e6 q7 y8 e9 x10 e11 q12 hm2 => ⟨_, rfl, hm2, foP_0⟩)
        (fun y1 e2 x3 e4 y5 e6 q7 y8 e9 x10 e11 q12 q13 hm2 => ⟨_, rfl, hm2, foP_0⟩)
        (fun y1 e2 x3 e4 y5 e6 q7 y8 e9 x10 e11 q12 q13 y14 e15 x16 e17 q18 hm2 => ⟨_, rfl, hm2, foP_0⟩)
        (fun y1 e2 x3 e4 y5 e6 q7 y8 e9 x10 e11 q12 q13 y14 e15 x16 e17 q18 q19 hm2 => ⟨_, rfl, hm2, foP_0⟩)
        (fun y1 e2 x3 e4 y5 e6 q7 y8 e9 x10 e11 q12 q13 y14 e15 x16 e17 q18 q19 x20 e21 y22 e23 x24 e25 y26 e27 x28 e29 x30 e31 x32 e33 x34 e35 y36 e37 q38 hm2 => ⟨_, rfl, hm2, foP_s hk hm (by omega) (by omega) (Or.inr rfl)⟩)
        (fun y1 e2 x3 e4 y5 e6 q7 y8 e9 x10 e11 q12 q13 y14 e15 x16 e17 q18 q19 x20 e21 y22 e23 x24 e25 y26 e27 x28 e29 x30 e31 x32 e33 x34 e35 y36 e37 q38 hm2 => ⟨_, rfl, hm2, foP_s hk hm (by omega) (by omega) (Or.inl rfl)⟩)
set_option maxRecDepth 100000 in
theorem w_cz256 {d : Nat} {mem : zM} {P : Option Value → zM → Prop} {ff k : Int32} {lo : List (Nat × Value)} (hm : aTm aT0 mem) (l_0 : zlg lo 0 = some (.ref 221)) (l_2 : zlg lo 2 = some (.int ff)) (l_4 : zlg lo 4 = some (.int k)) {Q : Qd} (hM : mB Q mem) (hW : WQ Q) (hk : 0 ≤ k.toInt ∧ k.toInt ≤ 6) (hff : 2 ≤ ff.toInt ∧ ff.toInt ≤ 20) (h1 : ∀ (y1 : Int32), y1.toInt = (gn (ga mem 233) (gi mem 221 13).toInt) → (gn (ga mem 233) (gi mem 221 13).toInt) ≤ (k).toInt → aTm aT0 mem → P (some (.int 1)) mem) (h2 : ∀ (y1 : Int32), y1.toInt = (gn (ga mem 233) (gi mem 221 13).toInt) → (k).toInt < (gn (ga mem 233) (gi mem 221 13).toInt) → ∀ (x4 : Int32), x4.toInt = (2 * (k).toInt) → ∀ (x6 : Int32), x6.toInt = ((ff).toInt + (2 * (k).toInt)) → ∀ (v10 : Int32) (m8 : zM), aTm aT0 m8 → foP (k) (x6) mem m8 v10 → ¬ (v10).toInt = 0 → ∀ (x12 : Int32), x12.toInt = ((k).toInt + 1) → ∀ lo, zlg lo 0 = some (.ref 221) → zlg lo 2 = some (.int ff) → zlg lo 4 = some (.int x12) → aTm aT0 m8 → yR zpg tX12_comesOn (d + 6) (256, lo, [], m8) P) (h3 : ∀ (y1 : Int32), y1.toInt = (gn (ga mem 233) (gi mem 221 13).toInt) → (k).toInt < (gn (ga mem 233) (gi mem 221 13).toInt) → ∀ (x4 : Int32), x4.toInt = (2 * (k).toInt) → ∀ (x6 : Int32), x6.toInt = ((ff).toInt + (2 * (k).toInt)) → ∀ (v10 : Int32) (m8 : zM), aTm aT0 m8 → foP (k) (x6) mem m8 v10 → (v10).toInt = 0 → aTm aT0 m8 → P (some (.int 0)) m8) : yR zpg tX12_comesOn (d + 6) (256, lo, [], mem) P := by
  have rb := mO_r13 hm
  have mf := hM.1.2.2.2.2.1.1
  have f9 := hW.2.1.2.1
  refine wR_li rfl l_4 ?_
  refine wR_la rfl l_0 ?_
  refine wR_gr rfl mO_e mO_24 hm ?_
  refine wR_la rfl l_0 ?_
  refine wR_gi rfl mO_e mO_13 hm rfl ?_
  refine wN_al (a := (gi mem 221 13).toInt) rfl aR_233 hm rfl rfl (by omega) (fun y1 e2 => ?_)
  refine wR_ic_ge rfl (a := (k).toInt) (c := (gn (ga mem 233) (gi mem 221 13).toInt)) rfl e2 (fun q3 => ?_) (fun q3 => ?_)
  ·
    refine yR_m 1 (fun _ _ _ _ => rfl) ?_
    exact yR_rz rfl ⟨by decide, by decide⟩ (h1 y1 e2 q3 hm)
  ·
    refine wR_la rfl l_0 ?_
    refine wR_li rfl l_4 ?_
    refine wR_li rfl l_2 ?_
    refine yR_m 1 (fun _ _ _ _ => rfl) ?_
    refine wR_li rfl l_4 ?_
    refine wN_mul (a := 2) (b := (k).toInt) rfl rfl rfl (by omega) (fun x4 e5 => ?_)
    refine wN_add (a := (ff).toInt) (b := (2 * (k).toInt)) rfl rfl e5 (by omega) (fun x6 e7 => ?_)
    refine wR_cv rfl rfl mO_e hm rfl (h_fo (Q := Q) hm hM hW (by omega) (by omega) (by omega)) ?_
    rintro _ m8 ⟨v10, rfl, hm8, k9⟩
    show yR zpg tX12_comesOn (d + 6) (282, lo, [.int v10], m8) _
    refine wR_if_ne rfl (a := (v10).toInt) rfl (fun q11 => ?_) (fun q11 => ?_)
    ·
      refine wN_in (a := (k).toInt) (b := 1) rfl rfl l_4 rfl rfl (by omega) (fun x12 e13 => fun lo14 e15 f16 => ?_)
      have lo14_0 := f16 0 _ (by decide) (Or.inl rfl) l_0
      have lo14_2 := f16 2 _ (by decide) (Or.inl rfl) l_2
      exact yR_m 1 (fun _ _ _ _ => rfl) (h2 y1 e2 q3 x4 e5 x6 e7 v10 m8 hm8 k9 q11 x12 e13 lo14 lo14_0 lo14_2 e15 hm8)
    ·
      refine yR_m 1 (fun _ _ _ _ => rfl) ?_
      exact yR_rz rfl ⟨by decide, by decide⟩ (h3 y1 e2 q3 x4 e5 x6 e7 v10 m8 hm8 k9 q11 hm8)

theorem cz256 {ff : Int32} (hMr : mB Q mr) (hW : WQ Q) (hff : ff.toInt = 2 + 2 * thN Q) : ∀ (g : Nat) (k : Int32) (mem : zM) (lo : List (Nat × Value)), 7 ≤ k.toInt + (g : Int) → 0 ≤ k.toInt → k.toInt ≤ 6 → F1 mr mem → (∀ q, ¬ q = 252 → zat mem q = zat mr q) → (∀ u, 0 ≤ u → u < k.toInt → gn (ga mem 252) (6 + u) = 8 * gn (ga mr 222) (2 + 2 * thN Q + 2 * u + 1) + gn (ga mr 222) (2 + 2 * thN Q + 2 * u)) → aTm aT0 mem → zlg lo 0 = some (.ref 221) → zlg lo 2 = some (.int ff) → zlg lo 4 = some (.int k) → yR zpg tX12_comesOn (d + 6) (256, lo, [], mem) (fun r m => ∃ v : Int32, r = some (.int v) ∧ aTm aT0 m ∧ (F1 mr m ∧ (v.toInt = 0 ∨ v.toInt = 1 ∧ ((∀ q, ¬ q = 252 → zat m q = zat mr q) ∧ ∀ u, 0 ≤ u → u < foN Q → gn (ga m 252) (6 + u) = 8 * gn (ga mr 222) (2 + 2 * thN Q + 2 * u + 1) + gn (ga mr 222) (2 + 2 * thN Q + 2 * u))))) := by
  have t9 : thN Q ≤ 9 := by
    have := hW.2.1.1
    unfold thN
    omega
  have t0 : 0 ≤ thN Q := by
    unfold thN
    omega
  have l6 : foN Q ≤ 6 := by
    have := hW.2.1.2.1
    unfold foN
    omega
  have e6 : foN Q = ((Qf Q).length : Int) := rfl
  intro g
  induction g with
  | zero => intro k mem lo hg k0 k1; omega
  | succ g ih =>
    intro k mem lo hg k0 k1 hF hZ hA hm l0 l2 l4
    have hM := F1_B hF hMr
    have c33 := hM.1.2.2.2.2.1.1
    exact w_cz256 hm l0 l2 l4 hM hW ⟨k0, k1⟩ ⟨by omega, by omega⟩
        (fun y1 e2 q3 hm2 => ⟨1, rfl, hm2, hF, Or.inr ⟨rfl, hZ, fun u u0 u1 => hA u u0 (by omega)⟩⟩)
        (fun y1 e2 q3 x4 e5 x6 e7 v10 m8 hm8 k9 q11 x12 e13 lo a0 a2 a4 hm2 => by
        obtain ⟨p1, p2, p3, p4, p5⟩ := k9
        refine ih _ _ lo (by omega) (by omega) (by omega) (F1_tr hF p1) (fun q hq => (p4 q hq).trans (hZ q hq)) (fun u u0 u1 => ?_) hm2 a0 a2 a4
        by_cases w : u = k.toInt
        · rw [w, p5 (by omega), ga_zq (hZ 222 (by decide)), e7, hff]
        · rw [p3 (6 + u) (by omega) (by omega)]
          exact hA u u0 (by omega))
        (fun y1 e2 q3 x4 e5 x6 e7 v10 m8 hm8 k9 q11 hm2 => ⟨0, rfl, hm2, F1_tr hF k9.1, Or.inl rfl⟩)
set_option maxRecDepth 100000 in
theorem w_cz160 {d : Nat} {mem : zM} {P : Option Value → zM → Prop} {n ff k : Int32} {lo : List (Nat × Value)} (hm : aTm aT0 mem) (l_0 : zlg lo 0 = some (.ref 221)) (l_1 : zlg lo 1 = some (.int n)) (l_2 : zlg lo 2 = some (.int ff)) (l_4 : zlg lo 4 = some (.int k)) {Q : Qd} (hM : mB Q mem) (hW : WQ Q) (hk : 0 ≤ k.toInt ∧ k.toInt ≤ 9) (h1 : ∀ (y1 : Int32), y1.toInt = (gn (ga mem 228) (gi mem 221 13).toInt) → (gn (ga mem 228) (gi mem 221 13).toInt) ≤ (k).toInt → ∀ lo, zlg lo 0 = some (.ref 221) → zlg lo 2 = some (.int ff) → zlg lo 4 = some (.int 0) → aTm aT0 mem → yR zpg tX12_comesOn (d + 6) (256, lo, [], mem) P) (h2 : ∀ (y1 : Int32), y1.toInt = (gn (ga mem 228) (gi mem 221 13).toInt) → (k).toInt < (gn (ga mem 228) (gi mem 221 13).toInt) → ∀ (x7 : Int32), x7.toInt = (2 * (k).toInt) → ∀ (x9 : Int32), x9.toInt = (2 + (2 * (k).toInt)) → ∀ (y14 : Int32), y14.toInt = (gn (ga mem 222) (2 + (2 * (k).toInt))) → 1 < (gn (ga mem 222) (2 + (2 * (k).toInt))) → aTm aT0 mem → P (some (.int 0)) mem) (s1 : ∀ (y1 : Int32), y1.toInt = (gn (ga mem 228) (gi mem 221 13).toInt) → (k).toInt < (gn (ga mem 228) (gi mem 221 13).toInt) → ∀ (x7 : Int32), x7.toInt = (2 * (k).toInt) → ∀ (x9 : Int32), x9.toInt = (2 + (2 * (k).toInt)) → ∀ (y14 : Int32), y14.toInt = (gn (ga mem 222) (2 + (2 * (k).toInt))) → (gn (ga mem 222) (2 + (2 * (k).toInt))) ≤ 1 → ∀ (x17 : Int32), x17.toInt = ((2 + (2 * (k).toInt)) + 1) → ∀ (y19 : Int32), y19.toInt = (gn (ga mem 222) ((2 + (2 * (k).toInt)) + 1)) → (gn (ga mem 222) ((2 + (2 * (k).toInt)) + 1)) ≤ 99 → ∀ (y22 : Int32), y22.toInt = (gn (ga mem 250) 1) → ∀ (y24 : Int32), y24.toInt = (gn (ga mem 222) (2 + (2 * (k).toInt))) → (0 : Int) ≤ (y22 ||| (y24 <<< (k &&& 31))).toInt ∧ (y22 ||| (y24 <<< (k &&& 31))).toInt ≤ 511) (h3 : ∀ (y1 : Int32), y1.toInt = (gn (ga mem 228) (gi mem 221 13).toInt) → (k).toInt < (gn (ga mem 228) (gi mem 221 13).toInt) → ∀ (x7 : Int32), x7.toInt = (2 * (k).toInt) → ∀ (x9 : Int32), x9.toInt = (2 + (2 * (k).toInt)) → ∀ (y14 : Int32), y14.toInt = (gn (ga mem 222) (2 + (2 * (k).toInt))) → (gn (ga mem 222) (2 + (2 * (k).toInt))) ≤ 1 → ∀ (x17 : Int32), x17.toInt = ((2 + (2 * (k).toInt)) + 1) → ∀ (y19 : Int32), y19.toInt = (gn (ga mem 222) ((2 + (2 * (k).toInt)) + 1)) → (gn (ga mem 222) ((2 + (2 * (k).toInt)) + 1)) ≤ 99 → ∀ (y22 : Int32), y22.toInt = (gn (ga mem 250) 1) → ∀ (y24 : Int32), y24.toInt = (gn (ga mem 222) (2 + (2 * (k).toInt))) → ∀ (x26 : Int32), x26.toInt = (9 + (k).toInt) → ∀ (x28 : Int32), x28.toInt = ((2 + (2 * (k).toInt)) + 1) → ∀ (y30 : Int32), y30.toInt = (gn (ga mem 222) ((2 + (2 * (k).toInt)) + 1)) → ∀ (x32 : Int32), x32.toInt = ((k).toInt + 1) → ∀ lo, zlg lo 0 = some (.ref 221) → zlg lo 1 = some (.int n) → zlg lo 2 = some (.int ff) → zlg lo 4 = some (.int x32) → aTm aT0 (sx (sx mem 250 1 (y22 ||| (y24 <<< (k &&& 31)))) 251 x26 y30) → yR zpg tX12_comesOn (d + 6) (160, lo, [], (sx (sx mem 250 1 (y22 ||| (y24 <<< (k &&& 31)))) 251 x26 y30)) P) (h4 : ∀ (y1 : Int32), y1.toInt = (gn (ga mem 228) (gi mem 221 13).toInt) → (k).toInt < (gn (ga mem 228) (gi mem 221 13).toInt) → ∀ (x7 : Int32), x7.toInt = (2 * (k).toInt) → ∀ (x9 : Int32), x9.toInt = (2 + (2 * (k).toInt)) → ∀ (y14 : Int32), y14.toInt = (gn (ga mem 222) (2 + (2 * (k).toInt))) → (gn (ga mem 222) (2 + (2 * (k).toInt))) ≤ 1 → ∀ (x17 : Int32), x17.toInt = ((2 + (2 * (k).toInt)) + 1) → ∀ (y19 : Int32), y19.toInt = (gn (ga mem 222) ((2 + (2 * (k).toInt)) + 1)) → 99 < (gn (ga mem 222) ((2 + (2 * (k).toInt)) + 1)) → aTm aT0 mem → P (some (.int 0)) mem) : yR zpg tX12_comesOn (d + 6) (160, lo, [], mem) P := by
  have rb := mO_r13 hm
  have mt := hM.1.2.2.1.1
  have t9 := hW.2.1.1
  refine wR_li rfl l_4 ?_
  refine wR_la rfl l_0 ?_
  refine wR_gr rfl mO_e mO_19 hm ?_
  refine wR_la rfl l_0 ?_
  refine wR_gi rfl mO_e mO_13 hm rfl ?_
  refine wN_al (a := (gi mem 221 13).toInt) rfl aR_228 hm rfl rfl (by omega) (fun y1 e2 => ?_)
  refine wR_ic_ge rfl (a := (k).toInt) (c := (gn (ga mem 228) (gi mem 221 13).toInt)) rfl e2 (fun q3 => ?_) (fun q3 => ?_)
  ·
    refine yR_m 1 (fun _ _ _ _ => rfl) ?_
    refine wR_si rfl rfl (fun lo4 e5 f6 => ?_)
    have lo4_0 := f6 0 _ (by decide) (Or.inl rfl) l_0
    have lo4_1 := f6 1 _ (by decide) (Or.inl rfl) l_1
    have lo4_2 := f6 2 _ (by decide) (Or.inl rfl) l_2
    exact h1 y1 e2 q3 lo4 lo4_0 lo4_2 e5 hm
  ·
    refine yR_m 2 (fun _ _ _ _ => rfl) ?_
    refine wR_li rfl l_4 ?_
    refine wN_mul (a := 2) (b := (k).toInt) rfl rfl rfl (by omega) (fun x7 e8 => ?_)
    refine wN_add (a := 2) (b := (2 * (k).toInt)) rfl rfl e8 (by omega) (fun x9 e10 => ?_)
    refine wR_si rfl rfl (fun lo11 e12 f13 => ?_)
    have lo11_0 := f13 0 _ (by decide) (Or.inl rfl) l_0
    have lo11_1 := f13 1 _ (by decide) (Or.inl rfl) l_1
    have lo11_2 := f13 2 _ (by decide) (Or.inl rfl) l_2
    have lo11_4 := f13 4 _ (by decide) (Or.inl rfl) l_4
    refine wR_la rfl lo11_0 ?_
    refine wR_gr rfl mO_e mO_0 hm ?_
    refine wR_li rfl e12 ?_
    refine wN_al (a := (2 + (2 * (k).toInt))) rfl aR_222 hm rfl e10 (by omega) (fun y14 e15 => ?_)
    refine yR_m 1 (fun _ _ _ _ => rfl) ?_
    refine wR_ic_gt rfl (a := (gn (ga mem 222) (2 + (2 * (k).toInt)))) (c := 1) e15 rfl (fun q16 => ?_) (fun q16 => ?_)
    ·
      refine yR_m 1 (fun _ _ _ _ => rfl) ?_
      exact yR_rz rfl ⟨by decide, by decide⟩ (h2 y1 e2 q3 x7 e8 x9 e10 y14 e15 q16 hm)
    ·
      refine wR_la rfl lo11_0 ?_
      refine wR_gr rfl mO_e mO_0 hm ?_
      refine wR_li rfl e12 ?_
      refine yR_m 1 (fun _ _ _ _ => rfl) ?_
      refine wN_add (a := (2 + (2 * (k).toInt))) (b := 1) rfl e10 rfl (by omega) (fun x17 e18 => ?_)
      refine wN_al (a := ((2 + (2 * (k).toInt)) + 1)) rfl aR_222 hm rfl e18 (by omega) (fun y19 e20 => ?_)
      refine yR_m 1 (fun _ _ _ _ => rfl) ?_
      refine wR_ic_le rfl (a := (gn (ga mem 222) ((2 + (2 * (k).toInt)) + 1))) (c := 99) e20 rfl (fun q21 => ?_) (fun q21 => ?_)
      ·
        refine wR_la rfl lo11_0 ?_
        refine wR_gr rfl mO_e mO_49 hm ?_
        refine yR_m 2 (fun _ _ _ _ => rfl) ?_
        refine wN_al (a := 1) rfl aR_250 hm rfl rfl (by decide) (fun y22 e23 => ?_)
        refine wR_la rfl lo11_0 ?_
        refine wR_gr rfl mO_e mO_0 hm ?_
        refine wR_li rfl e12 ?_
        refine wN_al (a := (2 + (2 * (k).toInt))) rfl aR_222 hm rfl e10 (by omega) (fun y24 e25 => ?_)
        refine wR_li rfl lo11_4 ?_
        refine yR_m 2 (fun _ _ _ _ => rfl) ?_
        refine wN_as (a := 1) rfl aR_250 hm rfl (by decide) ?_
        have hm_1 : aTm aT0 (sx mem 250 1 (y22 ||| (y24 <<< (k &&& 31)))) := tm_sa aR_250 hm (s1 y1 e2 q3 x7 e8 x9 e10 y14 e15 q16 x17 e18 y19 e20 q21 y22 e23 y24 e25)
        refine wR_la rfl lo11_0 ?_
        refine wR_gr rfl mO_e mO_50 hm_1 ?_
        refine yR_m 1 (fun _ _ _ _ => rfl) ?_
        refine wR_li rfl lo11_4 ?_
        refine wN_add (a := 9) (b := (k).toInt) rfl rfl rfl (by omega) (fun x26 e27 => ?_)
        refine wR_la rfl lo11_0 ?_
        refine wR_gr rfl mO_e mO_0 hm_1 ?_
        refine wR_li rfl e12 ?_
        refine yR_m 1 (fun _ _ _ _ => rfl) ?_
        refine wN_add (a := (2 + (2 * (k).toInt))) (b := 1) rfl e10 rfl (by omega) (fun x28 e29 => ?_)
        refine wN_al (a := ((2 + (2 * (k).toInt)) + 1)) rfl aR_222 hm_1 (ga_sa_ne (by first | decide | omega)) e29 (by omega) (fun y30 e31 => ?_)
        refine wN_as (a := (9 + (k).toInt)) rfl aR_251 hm_1 e27 (by omega) ?_
        have hm_2 : aTm aT0 (sx (sx mem 250 1 (y22 ||| (y24 <<< (k &&& 31)))) 251 x26 y30) := tm_sa aR_251 hm_1 (i32_b _)
        refine wN_in (a := (k).toInt) (b := 1) rfl rfl lo11_4 rfl rfl (by omega) (fun x32 e33 => fun lo34 e35 f36 => ?_)
        have lo34_5 := f36 5 _ (by decide) (Or.inl rfl) e12
        have lo34_0 := f36 0 _ (by decide) (Or.inl rfl) lo11_0
        have lo34_1 := f36 1 _ (by decide) (Or.inl rfl) lo11_1
        have lo34_2 := f36 2 _ (by decide) (Or.inl rfl) lo11_2
        exact yR_m 1 (fun _ _ _ _ => rfl) (h3 y1 e2 q3 x7 e8 x9 e10 y14 e15 q16 x17 e18 y19 e20 q21 y22 e23 y24 e25 x26 e27 x28 e29 y30 e31 x32 e33 lo34 lo34_0 lo34_1 lo34_2 e35 hm_2)
      ·
        refine yR_m 1 (fun _ _ _ _ => rfl) ?_
        exact yR_rz rfl ⟨by decide, by decide⟩ (h4 y1 e2 q3 x7 e8 x9 e10 y14 e15 q16 x17 e18 y19 e20 q21 hm)

theorem cz160 {n ff : Int32} (hMr : mB Q mr) (hW : WQ Q) (hff : ff.toInt = 2 + 2 * thN Q) : ∀ (g j : Nat) (k : Int32) (mem : zM) (lo : List (Nat × Value)), (j : Int) + (g : Int) = thN Q → k.toInt = (j : Int) → F1 mr mem → (∀ q, ¬ q = 250 → ¬ q = 251 → zat mem q = zat mr q) → gn (ga mem 250) 1 = (tnF (fun t => gn (ga mr 222) (2 + 2 * t) = 1) j).toInt → (∀ u, 0 ≤ u → u < k.toInt → gn (ga mem 251) (9 + u) = gn (ga mr 222) (3 + 2 * u)) → aTm aT0 mem → zlg lo 0 = some (.ref 221) → zlg lo 1 = some (.int n) → zlg lo 2 = some (.int ff) → zlg lo 4 = some (.int k) → yR zpg tX12_comesOn (d + 6) (160, lo, [], mem) (fun r m => ∃ v : Int32, r = some (.int v) ∧ aTm aT0 m ∧ (F1 mr m ∧ (v.toInt = 0 ∨ v.toInt = 1 ∧ ((∀ q, ¬ (250 ≤ q ∧ q ≤ 252) → zat m q = zat mr q) ∧ gn (ga m 250) 1 = (tnF (fun t => gn (ga mr 222) (2 + 2 * t) = 1) (Qt Q).length).toInt ∧ (∀ u, 0 ≤ u → u < thN Q → gn (ga m 251) (9 + u) = gn (ga mr 222) (3 + 2 * u)) ∧ ∀ u, 0 ≤ u → u < foN Q → gn (ga m 252) (6 + u) = 8 * gn (ga mr 222) (2 + 2 * thN Q + 2 * u + 1) + gn (ga mr 222) (2 + 2 * thN Q + 2 * u))))) := by
  have t9 : thN Q ≤ 9 := by
    have := hW.2.1.1
    unfold thN
    omega
  have e9 : thN Q = ((Qt Q).length : Int) := rfl
  intro g
  induction g with
  | zero =>
    intro j k mem lo hj ek hF hZ hB hA hm l0 l1 l2 l4
    have hM := F1_B hF hMr
    have c28 := hM.1.2.2.1.1
    have e222 : ga mem 222 = ga mr 222 := ga_zq (hZ 222 (by decide) (by decide))
    rw [show j = (Qt Q).length by omega] at hB
    exact w_cz160 hm l0 l1 l2 l4 hM hW ⟨by omega, by omega⟩
        (fun y1 e2 q3 lo a0 a2 a4 hm2 => by
        refine yR_mono ?_ (cz256 (mr := mem) (F1_B hF hMr) hW hff 7 0 mem lo (by decide) (by decide) (by decide) F1_rf (fun _ _ => rfl) (fun u u0 u1 => by exfalso; have z : (0 : Int32).toInt = 0 := rfl; omega) hm2 a0 a2 a4)
        rintro r m ⟨v, h1, h2, h3, h4⟩
        refine ⟨v, h1, h2, F1_tr hF h3, ?_⟩
        rcases h4 with w | ⟨w, h5, h6⟩
        · exact Or.inl w
        · refine Or.inr ⟨w, fun q hq => (h5 q (by omega)).trans (hZ q (by omega) (by omega)), ?_, fun u u0 u1 => ?_, fun u u0 u1 => ?_⟩
          · rw [ga_zq (h5 250 (by decide))]
            exact hB
          · rw [ga_zq (h5 251 (by decide))]
            exact hA u u0 (by omega)
          · rw [h6 u u0 u1, e222])
        (fun y1 e2 q3 x7 e8 x9 e10 y14 e15 q16 hm2 => by exfalso; omega)
        (fun y1 e2 q3 x7 e8 x9 e10 y14 e15 q16 x17 e18 y19 e20 q21 y22 e23 y24 e25 => by exfalso; omega)
        (fun y1 e2 q3 x7 e8 x9 e10 y14 e15 q16 x17 e18 y19 e20 q21 y22 e23 y24 e25 x26 e27 x28 e29 y30 e31 x32 e33 lo a0 a1 a2 a4 hm2 => by exfalso; omega)
        (fun y1 e2 q3 x7 e8 x9 e10 y14 e15 q16 x17 e18 y19 e20 q21 hm2 => by exfalso; omega)
  | succ g ih =>
    intro j k mem lo hj ek hF hZ hB hA hm l0 l1 l2 l4
    have hM := F1_B hF hMr
    have c28 := hM.1.2.2.1.1
    have e222 : ga mem 222 = ga mr 222 := ga_zq (hZ 222 (by decide) (by decide))
    have b1 := gR_222 hm (i := 2 + 2 * k.toInt) (by omega) (by omega)
    exact w_cz160 hm l0 l1 l2 l4 hM hW ⟨by omega, by omega⟩
        (fun y1 e2 q3 lo a0 a2 a4 hm2 => by exfalso; omega)
        (fun y1 e2 q3 x7 e8 x9 e10 y14 e15 q16 hm2 => ⟨0, rfl, hm2, hF, Or.inl rfl⟩)
        (fun y1 e2 q3 x7 e8 x9 e10 y14 e15 q16 x17 e18 y19 e20 q21 y22 e23 y24 e25 => by
        have z := on_st (P := fun t => gn (ga mr 222) (2 + 2 * t) = 1) (x := y22) (y := y24) ek (by omega) (Int32.toInt_inj.1 (e23.trans hB)) (by omega) (by show gn (ga mr 222) (2 + 2 * (j : Int)) = 1 ↔ _; rw [e25, ek, e222])
        rw [z]
        exact tnF_9 _ (by omega))
        (fun y1 e2 q3 x7 e8 x9 e10 y14 e15 q16 x17 e18 y19 e20 q21 y22 e23 y24 e25 x26 e27 x28 e29 y30 e31 x32 e33 lo a0 a1 a2 a4 hm2 => by
        have z := on_st (P := fun t => gn (ga mr 222) (2 + 2 * t) = 1) (x := y22) (y := y24) ek (by omega) (Int32.toInt_inj.1 (e23.trans hB)) (by omega) (by show gn (ga mr 222) (2 + 2 * (j : Int)) = 1 ↔ _; rw [e25, ek, e222])
        have c := zclamp (x := x26) (by omega)
        refine ih (j + 1) _ _ lo (by omega) (by rw [e33, ek]; rfl) (F1_tr hF (F1_tr (F1_sa (by decide) (by decide) (fun _ => rfl) (fun w => by omega) (fun w => by omega) (by decide)) (F1_sa (by decide) (by decide) (fun w => by omega) (fun _ => by omega) (fun w => by omega) (by decide)))) (fun q a b => (zat_sa_ne (fun w => b w.symm)).trans ((zat_sa_ne (fun w => a w.symm)).trans (hZ q a b))) ?_ (fun u u0 u1 => ?_) hm2 a0 a1 a2 a4
        · show gn (ga (sa (sa mem 250 (1 : Int32).toNatClampNeg (y22 ||| (y24 <<< (k &&& 31)))) 251 x26.toNatClampNeg y30) 250) 1 = _
          rw [ga_sa_ne (by decide), ga_sa_eq, gn_set (a := 1) rfl (by decide) (by rw [(ga_ty aR_250 hm).2.1]; decide) (by decide), if_pos rfl, z]
        · show gn (ga (sa (sa mem 250 (1 : Int32).toNatClampNeg (y22 ||| (y24 <<< (k &&& 31)))) 251 x26.toNatClampNeg y30) 251) (9 + u) = _
          rw [ga_sa_eq, gn_set e27 (by omega) (by rw [ga_sa_ne (by decide), (ga_ty aR_251 hm).2.1]; omega) (by omega), ga_sa_ne (by decide)]
          by_cases w : u = k.toInt
          · rw [if_pos (by omega), e31, e222, w, show (3 : Int) + 2 * k.toInt = 2 + 2 * k.toInt + 1 by omega]
          · rw [if_neg (by omega)]
            exact hA u u0 (by omega))
        (fun y1 e2 q3 x7 e8 x9 e10 y14 e15 q16 x17 e18 y19 e20 q21 hm2 => ⟨0, rfl, hm2, hF, Or.inl rfl⟩)
/-- what comesOn leaves -/
def coZP (Q : Qd) (hu : Int → Int) (mr : zM) (v : Int32) (m : zM) : Prop := F1 mr m ∧ (v.toInt = 0 ∨ v.toInt = 1 ∧ tM 1 Q hu (onS (ga mr 222) Q) m ∧ gn (ga m 253) 1 = 0)
set_option maxRecDepth 100000 in
theorem w_cz71 {d : Nat} {mem : zM} {P : Option Value → zM → Prop} {n ff su k : Int32} {lo : List (Nat × Value)} (hm : aTm aT0 mem) (l_0 : zlg lo 0 = some (.ref 221)) (l_1 : zlg lo 1 = some (.int n)) (l_2 : zlg lo 2 = some (.int ff)) (l_3 : zlg lo 3 = some (.int su)) (l_4 : zlg lo 4 = some (.int k)) {Q : Qd} {S : Sd} {K : Kd} {hu : Int → Int} (hM : mB Q mem) (hW : WQ Q) (hS : tM 0 Q hu S mem) (hK : kM 0 K mem) (hn : 1 ≤ n.toInt ∧ n.toInt ≤ 100) (hk : 0 ≤ k.toInt ∧ k.toInt ≤ 100) (hs : 0 ≤ su.toInt ∧ su.toInt ≤ 250) (h1 : ∀ (x1 : Int32), x1.toInt = ((n).toInt - 1) → ((n).toInt - 1) ≤ (k).toInt → ∀ (x4 : Int32), x4.toInt = ((n).toInt - 1) → ∀ (y6 : Int32), y6.toInt = (gn (ga mem 222) ((n).toInt - 1)) → (gn (ga mem 222) ((n).toInt - 1)) = (su).toInt → ∀ (m9 : zM), aTm aT0 m9 → (F1 mem m9 ∧ X1 Q hu S m9) → ∀ (y11 : Int32), y11.toInt = (gn (ga m9 222) 0) → ∀ (y13 : Int32), y13.toInt = (gn (ga m9 222) 1) → ∀ lo, zlg lo 0 = some (.ref 221) → zlg lo 1 = some (.int n) → zlg lo 2 = some (.int ff) → zlg lo 4 = some (.int 0) → aTm aT0 (sx (sx (sx m9 249 1 ((y11 <<< (8 &&& 31)) ||| y13)) 250 1 0) 253 1 0) → yR zpg tX12_comesOn (d + 6) (160, lo, [], (sx (sx (sx m9 249 1 ((y11 <<< (8 &&& 31)) ||| y13)) 250 1 0) 253 1 0)) P) (h2 : ∀ (x1 : Int32), x1.toInt = ((n).toInt - 1) → ((n).toInt - 1) ≤ (k).toInt → ∀ (x4 : Int32), x4.toInt = ((n).toInt - 1) → ∀ (y6 : Int32), y6.toInt = (gn (ga mem 222) ((n).toInt - 1)) → ¬ (gn (ga mem 222) ((n).toInt - 1)) = (su).toInt → aTm aT0 mem → P (some (.int 0)) mem) (h3 : ∀ (x1 : Int32), x1.toInt = ((n).toInt - 1) → (k).toInt < ((n).toInt - 1) → ∀ (x18 : Int32), x18.toInt = (5 * (su).toInt) → ∀ (y20 : Int32), y20.toInt = (gn (ga mem 222) (k).toInt) → ∀ (x22 : Int32), x22.toInt = ((5 * (su).toInt) + (gn (ga mem 222) (k).toInt)) → ∀ (x24 : Int32), x24.toInt = (((5 * (su).toInt) + (gn (ga mem 222) (k).toInt)) % 251) → ∀ (x29 : Int32), x29.toInt = ((k).toInt + 1) → ∀ lo, zlg lo 0 = some (.ref 221) → zlg lo 1 = some (.int n) → zlg lo 2 = some (.int ff) → zlg lo 3 = some (.int x24) → zlg lo 4 = some (.int x29) → aTm aT0 mem → yR zpg tX12_comesOn (d + 6) (71, lo, [], mem) P) : yR zpg tX12_comesOn (d + 6) (71, lo, [], mem) P := by
  have tb : k.toInt < 1800 → 0 ≤ gn (ga mem 222) k.toInt ∧ gn (ga mem 222) k.toInt ≤ 255 := fun z => gR_222 hm hk.1 z
  refine wR_li rfl l_4 ?_
  refine wR_li rfl l_1 ?_
  refine yR_m 1 (fun _ _ _ _ => rfl) ?_
  refine wN_sub (a := (n).toInt) (b := 1) rfl rfl rfl (by omega) (fun x1 e2 => ?_)
  refine wR_ic_ge rfl (a := (k).toInt) (c := ((n).toInt - 1)) rfl e2 (fun q3 => ?_) (fun q3 => ?_)
  ·
    refine wR_la rfl l_0 ?_
    refine wR_gr rfl mO_e mO_0 hm ?_
    refine wR_li rfl l_1 ?_
    refine yR_m 1 (fun _ _ _ _ => rfl) ?_
    refine wN_sub (a := (n).toInt) (b := 1) rfl rfl rfl (by omega) (fun x4 e5 => ?_)
    refine wN_al (a := ((n).toInt - 1)) rfl aR_222 hm rfl e5 (by omega) (fun y6 e7 => ?_)
    refine wR_li rfl l_3 ?_
    refine wR_ic_eq rfl (a := (gn (ga mem 222) ((n).toInt - 1))) (c := (su).toInt) e7 rfl (fun q8 => ?_) (fun q8 => ?_)
    ·
      refine wR_la rfl l_0 ?_
      refine yR_m 2 (fun _ _ _ _ => rfl) ?_
      refine wR_cv rfl rfl mO_e hm rfl (h_c1 (Q := Q) (S := S) (K := K) (hu := hu) hm hW hS hK (by omega)) ?_
      rintro _ m9 ⟨rfl, hm9, k10⟩
      show yR zpg tX12_comesOn (d + 6) (121, lo, [], m9) _
      refine wR_la rfl l_0 ?_
      refine wR_gr rfl mO_e mO_48 hm9 ?_
      refine yR_m 1 (fun _ _ _ _ => rfl) ?_
      refine wR_la rfl l_0 ?_
      refine wR_gr rfl mO_e mO_0 hm9 ?_
      refine yR_m 1 (fun _ _ _ _ => rfl) ?_
      refine wN_al (a := 0) rfl aR_222 hm9 rfl rfl (by decide) (fun y11 e12 => ?_)
      refine yR_m 2 (fun _ _ _ _ => rfl) ?_
      refine wR_la rfl l_0 ?_
      refine wR_gr rfl mO_e mO_0 hm9 ?_
      refine yR_m 1 (fun _ _ _ _ => rfl) ?_
      refine wN_al (a := 1) rfl aR_222 hm9 rfl rfl (by decide) (fun y13 e14 => ?_)
      refine yR_m 1 (fun _ _ _ _ => rfl) ?_
      refine wN_as (a := 1) rfl aR_249 hm9 rfl (by decide) ?_
      have hm_1 : aTm aT0 (sx m9 249 1 ((y11 <<< (8 &&& 31)) ||| y13)) := tm_sa aR_249 hm9 (i32_b _)
      refine wR_la rfl l_0 ?_
      refine wR_gr rfl mO_e mO_49 hm_1 ?_
      refine yR_m 2 (fun _ _ _ _ => rfl) ?_
      refine wN_as (a := 1) rfl aR_250 hm_1 rfl (by decide) ?_
      have hm_2 : aTm aT0 (sx (sx m9 249 1 ((y11 <<< (8 &&& 31)) ||| y13)) 250 1 0) := tm_sa aR_250 hm_1 (by decide)
      refine wR_la rfl l_0 ?_
      refine wR_gr rfl mO_e mO_52 hm_2 ?_
      refine yR_m 2 (fun _ _ _ _ => rfl) ?_
      refine wN_as (a := 1) rfl aR_253 hm_2 rfl (by decide) ?_
      have hm_3 : aTm aT0 (sx (sx (sx m9 249 1 ((y11 <<< (8 &&& 31)) ||| y13)) 250 1 0) 253 1 0) := tm_sa aR_253 hm_2 (by decide)
      refine yR_m 1 (fun _ _ _ _ => rfl) ?_
      refine wR_si rfl rfl (fun lo15 e16 f17 => ?_)
      have lo15_0 := f17 0 _ (by decide) (Or.inl rfl) l_0
      have lo15_1 := f17 1 _ (by decide) (Or.inl rfl) l_1
      have lo15_2 := f17 2 _ (by decide) (Or.inl rfl) l_2
      have lo15_3 := f17 3 _ (by decide) (Or.inl rfl) l_3
      exact h1 x1 e2 q3 x4 e5 y6 e7 q8 m9 hm9 k10 y11 e12 y13 e14 lo15 lo15_0 lo15_1 lo15_2 e16 hm_3
    ·
      refine yR_m 1 (fun _ _ _ _ => rfl) ?_
      exact yR_rz rfl ⟨by decide, by decide⟩ (h2 x1 e2 q3 x4 e5 y6 e7 q8 hm)
  ·
    refine yR_m 1 (fun _ _ _ _ => rfl) ?_
    refine wR_li rfl l_3 ?_
    refine wN_mul (a := 5) (b := (su).toInt) rfl rfl rfl (by omega) (fun x18 e19 => ?_)
    refine wR_la rfl l_0 ?_
    refine wR_gr rfl mO_e mO_0 hm ?_
    refine wR_li rfl l_4 ?_
    refine wN_al (a := (k).toInt) rfl aR_222 hm rfl rfl (by omega) (fun y20 e21 => ?_)
    refine wN_add (a := (5 * (su).toInt)) (b := (gn (ga mem 222) (k).toInt)) rfl e19 e21 (by omega) (fun x22 e23 => ?_)
    refine yR_m 1 (fun _ _ _ _ => rfl) ?_
    refine wN_rem (a := ((5 * (su).toInt) + (gn (ga mem 222) (k).toInt))) (b := 251) rfl e23 rfl (by decide) (by omega) (fun x24 e25 => ?_)
    refine wR_si rfl rfl (fun lo26 e27 f28 => ?_)
    have lo26_0 := f28 0 _ (by decide) (Or.inl rfl) l_0
    have lo26_1 := f28 1 _ (by decide) (Or.inl rfl) l_1
    have lo26_2 := f28 2 _ (by decide) (Or.inl rfl) l_2
    have lo26_4 := f28 4 _ (by decide) (Or.inl rfl) l_4
    refine wN_in (a := (k).toInt) (b := 1) rfl rfl lo26_4 rfl rfl (by omega) (fun x29 e30 => fun lo31 e32 f33 => ?_)
    have lo31_3 := f33 3 _ (by decide) (Or.inl rfl) e27
    have lo31_0 := f33 0 _ (by decide) (Or.inl rfl) lo26_0
    have lo31_1 := f33 1 _ (by decide) (Or.inl rfl) lo26_1
    have lo31_2 := f33 2 _ (by decide) (Or.inl rfl) lo26_2
    exact yR_m 1 (fun _ _ _ _ => rfl) (h3 x1 e2 q3 x18 e19 y20 e21 x22 e23 x24 e25 x29 e30 lo31 lo31_0 lo31_1 lo31_2 lo31_3 e32 hm)

theorem cz71 {n ff : Int32} (hm : aTm aT0 mem) (hM : mB Q mem) (hW : WQ Q) (hS : tM 0 Q hu S mem) (hK : kM 0 K mem) (hn : 1 ≤ n.toInt ∧ n.toInt ≤ 100) (hff : ff.toInt = 2 + 2 * thN Q) : ∀ (g : Nat) (k su : Int32) (lo : List (Nat × Value)), 100 ≤ k.toInt + (g : Int) → 0 ≤ k.toInt → k.toInt ≤ 100 → 0 ≤ su.toInt → su.toInt ≤ 250 → zlg lo 0 = some (.ref 221) → zlg lo 1 = some (.int n) → zlg lo 2 = some (.int ff) → zlg lo 3 = some (.int su) → zlg lo 4 = some (.int k) → yR zpg tX12_comesOn (d + 6) (71, lo, [], mem) (fun r m => ∃ v : Int32, r = some (.int v) ∧ aTm aT0 m ∧ coZP Q hu mem v m) := by
  intro g
  induction g with
  | zero =>
    intro k su lo hg k0 k1 s0 s1 l0 l1 l2 l3 l4
    exact w_cz71 hm l0 l1 l2 l3 l4 hM hW hS hK hn ⟨k0, k1⟩ ⟨s0, s1⟩
        (fun x1 e2 q3 x4 e5 y6 e7 q8 m9 hm9 k10 y11 e12 y13 e14 lo a0 a1 a2 a4 hm2 => by
        obtain ⟨f1, x1, -⟩ := k10
        have e222 : ga m9 222 = ga mem 222 := ga_zq (f1.1 222 (by decide))
        have G : F1 mem (sa (sa (sa m9 249 (1 : Int32).toNatClampNeg ((y11 <<< (8 &&& 31)) ||| y13)) 250 (1 : Int32).toNatClampNeg 0) 253 (1 : Int32).toNatClampNeg 0) := F1_tr f1 (F1_tr (F1_sa (by decide) (by decide) (fun _ => rfl) (fun w => by omega) (fun w => by omega) (by decide)) (F1_tr (F1_sa (by decide) (by decide) (fun _ => rfl) (fun w => by omega) (fun w => by omega) (by decide)) (F1_sa (by decide) (by decide) (fun _ => rfl) (fun w => by omega) (fun w => by omega) (by decide))))
        have eT : ga (sa (sa (sa m9 249 (1 : Int32).toNatClampNeg ((y11 <<< (8 &&& 31)) ||| y13)) 250 (1 : Int32).toNatClampNeg 0) 253 (1 : Int32).toNatClampNeg 0) 222 = ga mem 222 := ga_zq (G.1 222 (by decide))
        have g0 := gR_222 hm9 (i := 0) (by decide) (by decide)
        have g1 := gR_222 hm9 (i := 1) (by decide) (by decide)
        have b0 : gn (ga (sa (sa (sa m9 249 (1 : Int32).toNatClampNeg ((y11 <<< (8 &&& 31)) ||| y13)) 250 (1 : Int32).toNatClampNeg 0) 253 (1 : Int32).toNatClampNeg 0) 250) 1 = 0 := by
          rw [ga_sa_ne (by decide), ga_sa_eq, gn_set (a := 1) rfl (by decide) (by rw [ga_sa_ne (by decide), (ga_ty aR_250 hm9).2.1]; decide) (by decide), if_pos rfl]
          rfl
        refine yR_mono ?_ (cz160 (mr := (sa (sa (sa m9 249 (1 : Int32).toNatClampNeg ((y11 <<< (8 &&& 31)) ||| y13)) 250 (1 : Int32).toNatClampNeg 0) 253 (1 : Int32).toNatClampNeg 0)) (F1_B G hM) hW hff (Qt Q).length 0 0 (sa (sa (sa m9 249 (1 : Int32).toNatClampNeg ((y11 <<< (8 &&& 31)) ||| y13)) 250 (1 : Int32).toNatClampNeg 0) 253 (1 : Int32).toNatClampNeg 0) lo (by show ((0 : Nat) : Int) + _ = _; unfold thN; omega) rfl F1_rf (fun _ _ _ => rfl) b0 (fun u u0 u1 => by exfalso; have z : (0 : Int32).toInt = 0 := rfl; omega) hm2 a0 a1 a2 a4)
        rintro r m ⟨v, h1, h2, h3, h4⟩
        refine ⟨v, h1, h2, F1_tr G h3, ?_⟩
        rcases h4 with w | ⟨w, h5, h6, h7, h8⟩
        · exact Or.inl w
        · refine Or.inr ⟨w, ⟨⟨?_, ?_⟩, fun u u0 u1 => ?_, fun u u0 u1 => ?_, fun u u0 u1 => ?_⟩, ?_⟩
          · rw [ga_zq (h5 249 (by decide)), ga_sa_ne (by decide), ga_sa_ne (by decide), ga_sa_eq, gn_set (a := 1) rfl (by decide) (by rw [(ga_ty aR_249 hm9).2.1]; decide) (by decide), if_pos rfl, or8 (by omega) (by omega), e12, e14, e222]
            rfl
          · rw [h6, eT]
            rfl
          · rw [show (9 : Int) * 1 + u = 9 + u by omega, h7 u u0 u1, eT]
            rfl
          · rw [show (6 : Int) * 1 + u = 6 + u by omega, h8 u u0 u1, eT]
            rfl
          · rw [ga_zq (h5 255 (by decide)), ga_sa_ne (by decide), ga_sa_ne (by decide), ga_sa_ne (by decide)]
            exact x1.2.2.2 u u0 u1
          · rw [ga_zq (h5 253 (by decide)), ga_sa_eq, gn_set (a := 1) rfl (by decide) (by rw [ga_sa_ne (by decide), ga_sa_ne (by decide), (ga_ty aR_253 hm9).2.1]; decide) (by decide), if_pos rfl]
            rfl)
        (fun x1 e2 q3 x4 e5 y6 e7 q8 hm2 => ⟨0, rfl, hm2, F1_rf, Or.inl rfl⟩)
        (fun x1 e2 q3 x18 e19 y20 e21 x22 e23 x24 e25 x29 e30 lo a0 a1 a2 a3 a4 hm2 => by exfalso; omega)
  | succ g ih =>
    intro k su lo hg k0 k1 s0 s1 l0 l1 l2 l3 l4
    exact w_cz71 hm l0 l1 l2 l3 l4 hM hW hS hK hn ⟨k0, k1⟩ ⟨s0, s1⟩
        (fun x1 e2 q3 x4 e5 y6 e7 q8 m9 hm9 k10 y11 e12 y13 e14 lo a0 a1 a2 a4 hm2 => by
        obtain ⟨f1, x1, -⟩ := k10
        have e222 : ga m9 222 = ga mem 222 := ga_zq (f1.1 222 (by decide))
        have G : F1 mem (sa (sa (sa m9 249 (1 : Int32).toNatClampNeg ((y11 <<< (8 &&& 31)) ||| y13)) 250 (1 : Int32).toNatClampNeg 0) 253 (1 : Int32).toNatClampNeg 0) := F1_tr f1 (F1_tr (F1_sa (by decide) (by decide) (fun _ => rfl) (fun w => by omega) (fun w => by omega) (by decide)) (F1_tr (F1_sa (by decide) (by decide) (fun _ => rfl) (fun w => by omega) (fun w => by omega) (by decide)) (F1_sa (by decide) (by decide) (fun _ => rfl) (fun w => by omega) (fun w => by omega) (by decide))))
        have eT : ga (sa (sa (sa m9 249 (1 : Int32).toNatClampNeg ((y11 <<< (8 &&& 31)) ||| y13)) 250 (1 : Int32).toNatClampNeg 0) 253 (1 : Int32).toNatClampNeg 0) 222 = ga mem 222 := ga_zq (G.1 222 (by decide))
        have g0 := gR_222 hm9 (i := 0) (by decide) (by decide)
        have g1 := gR_222 hm9 (i := 1) (by decide) (by decide)
        have b0 : gn (ga (sa (sa (sa m9 249 (1 : Int32).toNatClampNeg ((y11 <<< (8 &&& 31)) ||| y13)) 250 (1 : Int32).toNatClampNeg 0) 253 (1 : Int32).toNatClampNeg 0) 250) 1 = 0 := by
          rw [ga_sa_ne (by decide), ga_sa_eq, gn_set (a := 1) rfl (by decide) (by rw [ga_sa_ne (by decide), (ga_ty aR_250 hm9).2.1]; decide) (by decide), if_pos rfl]
          rfl
        refine yR_mono ?_ (cz160 (mr := (sa (sa (sa m9 249 (1 : Int32).toNatClampNeg ((y11 <<< (8 &&& 31)) ||| y13)) 250 (1 : Int32).toNatClampNeg 0) 253 (1 : Int32).toNatClampNeg 0)) (F1_B G hM) hW hff (Qt Q).length 0 0 (sa (sa (sa m9 249 (1 : Int32).toNatClampNeg ((y11 <<< (8 &&& 31)) ||| y13)) 250 (1 : Int32).toNatClampNeg 0) 253 (1 : Int32).toNatClampNeg 0) lo (by show ((0 : Nat) : Int) + _ = _; unfold thN; omega) rfl F1_rf (fun _ _ _ => rfl) b0 (fun u u0 u1 => by exfalso; have z : (0 : Int32).toInt = 0 := rfl; omega) hm2 a0 a1 a2 a4)
        rintro r m ⟨v, h1, h2, h3, h4⟩
        refine ⟨v, h1, h2, F1_tr G h3, ?_⟩
        rcases h4 with w | ⟨w, h5, h6, h7, h8⟩
        · exact Or.inl w
        · refine Or.inr ⟨w, ⟨⟨?_, ?_⟩, fun u u0 u1 => ?_, fun u u0 u1 => ?_, fun u u0 u1 => ?_⟩, ?_⟩
          · rw [ga_zq (h5 249 (by decide)), ga_sa_ne (by decide), ga_sa_ne (by decide), ga_sa_eq, gn_set (a := 1) rfl (by decide) (by rw [(ga_ty aR_249 hm9).2.1]; decide) (by decide), if_pos rfl, or8 (by omega) (by omega), e12, e14, e222]
            rfl
          · rw [h6, eT]
            rfl
          · rw [show (9 : Int) * 1 + u = 9 + u by omega, h7 u u0 u1, eT]
            rfl
          · rw [show (6 : Int) * 1 + u = 6 + u by omega, h8 u u0 u1, eT]
            rfl
          · rw [ga_zq (h5 255 (by decide)), ga_sa_ne (by decide), ga_sa_ne (by decide), ga_sa_ne (by decide)]
            exact x1.2.2.2 u u0 u1
          · rw [ga_zq (h5 253 (by decide)), ga_sa_eq, gn_set (a := 1) rfl (by decide) (by rw [ga_sa_ne (by decide), ga_sa_ne (by decide), (ga_ty aR_253 hm9).2.1]; decide) (by decide), if_pos rfl]
            rfl)
        (fun x1 e2 q3 x4 e5 y6 e7 q8 hm2 => ⟨0, rfl, hm2, F1_rf, Or.inl rfl⟩)
        (fun x1 e2 q3 x18 e19 y20 e21 x22 e23 x24 e25 x29 e30 lo a0 a1 a2 a3 a4 hm2 => by
        have r0 := gR_222 hm (i := k.toInt) (by omega) (by omega)
        exact ih _ _ lo (by omega) (by omega) (by omega) (by omega) (by omega) a0 a1 a2 a3 a4)
set_option maxRecDepth 100000 in
theorem w_cz0 {d : Nat} {mem : zM} {P : Option Value → zM → Prop} {n : Int32} {lo : List (Nat × Value)} (hm : aTm aT0 mem) (l_0 : zlg lo 0 = some (.ref 221)) (l_1 : zlg lo 1 = some (.int n)) {Q : Qd} (hM : mB Q mem) (hW : WQ Q) (h1 : ∀ (y1 : Int32), y1.toInt = (gn (ga mem 228) (gi mem 221 13).toInt) → ∀ (x3 : Int32), x3.toInt = (2 * (gn (ga mem 228) (gi mem 221 13).toInt)) → ∀ (x5 : Int32), x5.toInt = (2 + (2 * (gn (ga mem 228) (gi mem 221 13).toInt))) → (gi mem 221 46).toInt = 0 → aTm aT0 mem → P (some (.int 0)) mem) (h2 : ∀ (y1 : Int32), y1.toInt = (gn (ga mem 228) (gi mem 221 13).toInt) → ∀ (x3 : Int32), x3.toInt = (2 * (gn (ga mem 228) (gi mem 221 13).toInt)) → ∀ (x5 : Int32), x5.toInt = (2 + (2 * (gn (ga mem 228) (gi mem 221 13).toInt))) → ¬ (gi mem 221 46).toInt = 0 → ∀ (y11 : Int32), y11.toInt = (gn (ga mem 233) (gi mem 221 13).toInt) → ∀ (x13 : Int32), x13.toInt = (2 * (gn (ga mem 233) (gi mem 221 13).toInt)) → ∀ (x15 : Int32), x15.toInt = ((2 + (2 * (gn (ga mem 228) (gi mem 221 13).toInt))) + (2 * (gn (ga mem 233) (gi mem 221 13).toInt))) → ∀ (x17 : Int32), x17.toInt = (((2 + (2 * (gn (ga mem 228) (gi mem 221 13).toInt))) + (2 * (gn (ga mem 233) (gi mem 221 13).toInt))) + 1) → ¬ (n).toInt = (((2 + (2 * (gn (ga mem 228) (gi mem 221 13).toInt))) + (2 * (gn (ga mem 233) (gi mem 221 13).toInt))) + 1) → aTm aT0 mem → P (some (.int 0)) mem) (h3 : ∀ (y1 : Int32), y1.toInt = (gn (ga mem 228) (gi mem 221 13).toInt) → ∀ (x3 : Int32), x3.toInt = (2 * (gn (ga mem 228) (gi mem 221 13).toInt)) → ∀ (x5 : Int32), x5.toInt = (2 + (2 * (gn (ga mem 228) (gi mem 221 13).toInt))) → ¬ (gi mem 221 46).toInt = 0 → ∀ (y11 : Int32), y11.toInt = (gn (ga mem 233) (gi mem 221 13).toInt) → ∀ (x13 : Int32), x13.toInt = (2 * (gn (ga mem 233) (gi mem 221 13).toInt)) → ∀ (x15 : Int32), x15.toInt = ((2 + (2 * (gn (ga mem 228) (gi mem 221 13).toInt))) + (2 * (gn (ga mem 233) (gi mem 221 13).toInt))) → ∀ (x17 : Int32), x17.toInt = (((2 + (2 * (gn (ga mem 228) (gi mem 221 13).toInt))) + (2 * (gn (ga mem 233) (gi mem 221 13).toInt))) + 1) → (n).toInt = (((2 + (2 * (gn (ga mem 228) (gi mem 221 13).toInt))) + (2 * (gn (ga mem 233) (gi mem 221 13).toInt))) + 1) → ∀ (y20 : Int32), y20.toInt = (gn (ga mem 222) 0) → ∀ (y22 : Int32), y22.toInt = (gn (ga mem 222) 1) → ((y20 <<< (8 &&& 31)) ||| y22).toInt ≤ 999 → ∀ lo, zlg lo 0 = some (.ref 221) → zlg lo 1 = some (.int n) → zlg lo 2 = some (.int x5) → zlg lo 3 = some (.int 241) → zlg lo 4 = some (.int 0) → aTm aT0 mem → yR zpg tX12_comesOn (d + 6) (71, lo, [], mem) P) (h4 : ∀ (y1 : Int32), y1.toInt = (gn (ga mem 228) (gi mem 221 13).toInt) → ∀ (x3 : Int32), x3.toInt = (2 * (gn (ga mem 228) (gi mem 221 13).toInt)) → ∀ (x5 : Int32), x5.toInt = (2 + (2 * (gn (ga mem 228) (gi mem 221 13).toInt))) → ¬ (gi mem 221 46).toInt = 0 → ∀ (y11 : Int32), y11.toInt = (gn (ga mem 233) (gi mem 221 13).toInt) → ∀ (x13 : Int32), x13.toInt = (2 * (gn (ga mem 233) (gi mem 221 13).toInt)) → ∀ (x15 : Int32), x15.toInt = ((2 + (2 * (gn (ga mem 228) (gi mem 221 13).toInt))) + (2 * (gn (ga mem 233) (gi mem 221 13).toInt))) → ∀ (x17 : Int32), x17.toInt = (((2 + (2 * (gn (ga mem 228) (gi mem 221 13).toInt))) + (2 * (gn (ga mem 233) (gi mem 221 13).toInt))) + 1) → (n).toInt = (((2 + (2 * (gn (ga mem 228) (gi mem 221 13).toInt))) + (2 * (gn (ga mem 233) (gi mem 221 13).toInt))) + 1) → ∀ (y20 : Int32), y20.toInt = (gn (ga mem 222) 0) → ∀ (y22 : Int32), y22.toInt = (gn (ga mem 222) 1) → 999 < ((y20 <<< (8 &&& 31)) ||| y22).toInt → aTm aT0 mem → P (some (.int 0)) mem) : yR zpg tX12_comesOn (d + 6) (0, lo, [], mem) P := by
  have rb := mO_r13 hm
  have mt := hM.1.2.2.1.1
  have t9 := hW.2.1.1
  have mf := hM.1.2.2.2.2.1.1
  have f9 := hW.2.1.2.1
  have tb0 := gR_222 hm (i := 0) (by decide) (by decide)
  have tb1 := gR_222 hm (i := 1) (by decide) (by decide)
  refine yR_m 2 (fun _ _ _ _ => rfl) ?_
  refine wR_la rfl l_0 ?_
  refine wR_gr rfl mO_e mO_19 hm ?_
  refine wR_la rfl l_0 ?_
  refine wR_gi rfl mO_e mO_13 hm rfl ?_
  refine wN_al (a := (gi mem 221 13).toInt) rfl aR_228 hm rfl rfl (by omega) (fun y1 e2 => ?_)
  refine wN_mul (a := 2) (b := (gn (ga mem 228) (gi mem 221 13).toInt)) rfl rfl e2 (by omega) (fun x3 e4 => ?_)
  refine wN_add (a := 2) (b := (2 * (gn (ga mem 228) (gi mem 221 13).toInt))) rfl rfl e4 (by omega) (fun x5 e6 => ?_)
  refine wR_si rfl rfl (fun lo7 e8 f9 => ?_)
  have lo7_0 := f9 0 _ (by decide) (Or.inl rfl) l_0
  have lo7_1 := f9 1 _ (by decide) (Or.inl rfl) l_1
  refine wR_la rfl lo7_0 ?_
  refine wR_gi rfl mO_e mO_46 hm rfl ?_
  refine wR_if_eq rfl (a := (gi mem 221 46).toInt) rfl (fun q10 => ?_) (fun q10 => ?_)
  ·
    refine yR_m 1 (fun _ _ _ _ => rfl) ?_
    exact yR_rz rfl ⟨by decide, by decide⟩ (h1 y1 e2 x3 e4 x5 e6 q10 hm)
  ·
    refine wR_li rfl lo7_1 ?_
    refine wR_li rfl e8 ?_
    refine yR_m 1 (fun _ _ _ _ => rfl) ?_
    refine wR_la rfl lo7_0 ?_
    refine wR_gr rfl mO_e mO_24 hm ?_
    refine wR_la rfl lo7_0 ?_
    refine wR_gi rfl mO_e mO_13 hm rfl ?_
    refine wN_al (a := (gi mem 221 13).toInt) rfl aR_233 hm rfl rfl (by omega) (fun y11 e12 => ?_)
    refine wN_mul (a := 2) (b := (gn (ga mem 233) (gi mem 221 13).toInt)) rfl rfl e12 (by omega) (fun x13 e14 => ?_)
    refine wN_add (a := (2 + (2 * (gn (ga mem 228) (gi mem 221 13).toInt)))) (b := (2 * (gn (ga mem 233) (gi mem 221 13).toInt))) rfl e6 e14 (by omega) (fun x15 e16 => ?_)
    refine yR_m 1 (fun _ _ _ _ => rfl) ?_
    refine wN_add (a := ((2 + (2 * (gn (ga mem 228) (gi mem 221 13).toInt))) + (2 * (gn (ga mem 233) (gi mem 221 13).toInt)))) (b := 1) rfl e16 rfl (by omega) (fun x17 e18 => ?_)
    refine wR_ic_ne rfl (a := (n).toInt) (c := (((2 + (2 * (gn (ga mem 228) (gi mem 221 13).toInt))) + (2 * (gn (ga mem 233) (gi mem 221 13).toInt))) + 1)) rfl e18 (fun q19 => ?_) (fun q19 => ?_)
    ·
      refine yR_m 1 (fun _ _ _ _ => rfl) ?_
      exact yR_rz rfl ⟨by decide, by decide⟩ (h2 y1 e2 x3 e4 x5 e6 q10 y11 e12 x13 e14 x15 e16 x17 e18 q19 hm)
    ·
      refine wR_la rfl lo7_0 ?_
      refine wR_gr rfl mO_e mO_0 hm ?_
      refine yR_m 1 (fun _ _ _ _ => rfl) ?_
      refine wN_al (a := 0) rfl aR_222 hm rfl rfl (by decide) (fun y20 e21 => ?_)
      refine yR_m 2 (fun _ _ _ _ => rfl) ?_
      refine wR_la rfl lo7_0 ?_
      refine wR_gr rfl mO_e mO_0 hm ?_
      refine yR_m 1 (fun _ _ _ _ => rfl) ?_
      refine wN_al (a := 1) rfl aR_222 hm rfl rfl (by decide) (fun y22 e23 => ?_)
      refine yR_m 2 (fun _ _ _ _ => rfl) ?_
      refine wR_ic_le rfl (a := ((y20 <<< (8 &&& 31)) ||| y22).toInt) (c := 999) rfl rfl (fun q24 => ?_) (fun q24 => ?_)
      ·
        refine yR_m 1 (fun _ _ _ _ => rfl) ?_
        refine wR_si rfl rfl (fun lo25 e26 f27 => ?_)
        have lo25_2 := f27 2 _ (by decide) (Or.inl rfl) e8
        have lo25_0 := f27 0 _ (by decide) (Or.inl rfl) lo7_0
        have lo25_1 := f27 1 _ (by decide) (Or.inl rfl) lo7_1
        refine yR_m 1 (fun _ _ _ _ => rfl) ?_
        refine wR_si rfl rfl (fun lo28 e29 f30 => ?_)
        have lo28_3 := f30 3 _ (by decide) (Or.inl rfl) e26
        have lo28_2 := f30 2 _ (by decide) (Or.inl rfl) lo25_2
        have lo28_0 := f30 0 _ (by decide) (Or.inl rfl) lo25_0
        have lo28_1 := f30 1 _ (by decide) (Or.inl rfl) lo25_1
        exact h3 y1 e2 x3 e4 x5 e6 q10 y11 e12 x13 e14 x15 e16 x17 e18 q19 y20 e21 y22 e23 q24 lo28 lo28_0 lo28_1 lo28_2 lo28_3 e29 hm
      ·
        refine yR_m 1 (fun _ _ _ _ => rfl) ?_
        exact yR_rz rfl ⟨by decide, by decide⟩ (h4 y1 e2 x3 e4 x5 e6 q10 y11 e12 x13 e14 x15 e16 x17 e18 q19 y20 e21 y22 e23 q24 hm)

theorem h_coN {n : Int32} (hm : aTm aT0 mem) (hM : mB Q mem) (hW : WQ Q) (hS : tM 0 Q hu S mem) (hK : kM 0 K mem) (hd : 7 ≤ d) : yC zpg d 277 [.ref 221, .int n] mem (fun r m => ∃ v : Int32, r = some (.int v) ∧ aTm aT0 m ∧ coZP Q hu mem v m) := by
  obtain ⟨d, rfl⟩ : ∃ q, d = q + 7 := ⟨d - 7, by omega⟩
  have t9 : thN Q ≤ 9 := by
    have := hW.2.1.1
    unfold thN
    omega
  have l6 : foN Q ≤ 6 := by
    have := hW.2.1.2.1
    unfold foN
    omega
  have e6 : foN Q = ((Qf Q).length : Int) := rfl
  have e9 : thN Q = ((Qt Q).length : Int) := rfl
  have c28 := hM.1.2.2.1.1
  have c33 := hM.1.2.2.2.2.1.1
  refine yC_of (t := tX12_comesOn) rfl rfl ?_
  exact w_cz0 hm rfl rfl hM hW
        (fun y1 e2 x3 e4 x5 e6 q10 hm2 => ⟨0, rfl, hm2, F1_rf, Or.inl rfl⟩)
        (fun y1 e2 x3 e4 x5 e6 q10 y11 e12 x13 e14 x15 e16 x17 e18 q19 hm2 => ⟨0, rfl, hm2, F1_rf, Or.inl rfl⟩)
        (fun y1 e2 x3 e4 x5 e6 q10 y11 e12 x13 e14 x15 e16 x17 e18 q19 y20 e21 y22 e23 q24 lo a0 a1 a2 a3 a4 hm2 => cz71 hm2 hM hW hS hK ⟨by omega, by omega⟩ (by omega) 100 0 241 lo (by decide) (by decide) (by decide) (by decide) (by decide) a0 a1 a2 a3 a4)
        (fun y1 e2 x3 e4 x5 e6 q10 y11 e12 x13 e14 x15 e16 x17 e18 q19 y20 e21 y22 e23 q24 hm2 => ⟨0, rfl, hm2, F1_rf, Or.inl rfl⟩)
/-- what on leaves -/
def onZ (Q : Qd) (hu : Int → Int) (S : Sd) (K : Kd) (P0 : Pd) (mr : zM) (r : Option Value) (m : zM) : Prop := aTm aT0 m ∧ ((r = some (.int 1) ∧ tM 0 Q hu (onS (ga mr 222) Q) m ∧ kM 0 K0 m ∧ rgM Q hu P00 m ∧ ga m 248 = ga mr 248) ∨ (r = some (.int 0) ∧ tM 0 Q hu S m ∧ kM 0 K m ∧ rgM Q hu P0 m ∧ ga m 248 = (ga mr 248).set 5 ((ga mr 248).getD 5 0 + 1))) ∧ (∀ k, k ≤ 220 → zat m k = zat mr k) ∧ zfl m 221 56 = zfl mr 221 56
theorem onZ_1 {v : Int32} {c m5 : zM} (hm5 : aTm aT0 m5) (hm2 : aTm aT0 (si m5 221 55 0)) (hW : WQ Q) (hC : coZP Q hu (si mem 221 1 0) v c) (hv : ¬ v.toInt = 0) (hc : onl [249, 250, 251, 252, 253, 254] c m5 ∧ cpD (0 : Int32).toInt (1 : Int32).toInt c m5) : onZ Q hu S K P0 mem (some (.int 1)) (si m5 221 55 0) := by
  obtain ⟨hF, hX⟩ := hC
  rcases hX with w | ⟨w, x1, g1⟩
  · exfalso; omega
  · have Z : ∀ k, k ≤ 248 → ¬ k = 221 → zat m5 k = zat mem k := fun k h1 h2 => (onl_lt (b := 249) rfl hc.1 k (by omega)).trans ((hF.1 k h1).trans (zat_sv_ne (fun z => h2 z.symm)))
    have hk : kM 1 K0 c := ⟨⟨by decide, by decide⟩, g1, fun i i0 i1 => by exfalso; have j1 : i < 0 := i1; omega⟩
    have e22 : ga (si mem 221 1 0) 222 = ga mem 222 := ga_sv
    rw [e22] at x1
    refine ⟨hm2, Or.inl ⟨rfl, tM_zz (fun k _ _ => ga_sv) (tM_cp hW (by decide) hc.2 (onl_ga hc.1 rfl) x1), kM_zz (fun k _ _ => ga_sv) (kM_cp (by decide) hc.2 hk), ⟨⟨by decide, by decide⟩, ⟨?_, (mO_r54 hm2).1, ?_⟩, fun k k0 k1 => by exfalso; have j1 : k < 0 := k1; omega⟩, ?_⟩, fun k h1 => (zat_sv_ne (by omega)).trans (Z k (by omega) (by omega)), ?_⟩
    · rw [gi_si_eq mO_e mO_55 hm5]
      rfl
    · have := (mO_r54 hm2).2
      omega
    · rw [ga_sv, ga_zq (Z 248 (by decide) (by decide))]
    · refine (zfl_sv_ne (by decide)).trans ((zfl_ea (onl_lt (b := 249) rfl hc.1 221 (by decide))).trans ((zfl_ea (hF.1 221 (by decide))).trans (zfl_sv_ne (by decide))))
theorem onZ_0 {v y : Int32} {c : zM} (hm : aTm aT0 mem) (hm2 : aTm aT0 (sa c 248 (5 : Int32).toNatClampNeg (y + 1))) (hW : WQ Q) (hS : tM 0 Q hu S mem) (hK : kM 0 K mem) (hP : rgM Q hu P0 mem) (hC : coZP Q hu (si mem 221 1 0) v c) (hy : y.toInt = gn (ga c 248) 5) : onZ Q hu S K P0 mem (some (.int 0)) (sa c 248 (5 : Int32).toNatClampNeg (y + 1)) := by
  obtain ⟨hF, -⟩ := hC
  have Z : ∀ k, k ≤ 248 → ¬ k = 221 → zat c k = zat mem k := fun k h1 h2 => (hF.1 k h1).trans (zat_sv_ne (fun z => h2 z.symm))
  have W : ∀ k, 249 ≤ k → k ≤ 255 → ga (sa c 248 (5 : Int32).toNatClampNeg (y + 1)) k = ga c k := fun k h1 h2 => ga_sa_ne (by omega)
  have U : ∀ k, 249 ≤ k → k ≤ 255 → ga (si mem 221 1 0) k = ga mem k := fun k h1 h2 => ga_sv
  have ey : y = (ga c 248).getD 5 0 := Int32.toInt_inj.1 hy
  have e8 : ga c 248 = ga mem 248 := ga_zq (Z 248 (by decide) (by decide))
  refine ⟨hm2, Or.inr ⟨rfl, tM_zz W (F1_0 hW hF (tM_zz U hS)), kM_zz W (F1_k hF (kM_zz U hK)), rgM_zz W gi_sa gi_sa (F1_r hW hF (rgM_zz U (gi_sv_ne (by decide)) (gi_sv_ne (by decide)) hP)), ?_⟩, fun k h1 => (zat_sa_ne (by omega)).trans (Z k (by omega) (by omega)), zfl_sa.trans ((zfl_ea (hF.1 221 (by decide))).trans (zfl_sv_ne (by decide)))⟩
  rw [ga_sa_eq, ey, e8]
  rfl
set_option maxRecDepth 100000 in
theorem w_onz {d : Nat} {mem : zM} {P : Option Value → zM → Prop} {Q : Qd} {S : Sd} {K : Kd} {hu : Int → Int} (hm : aTm aT0 mem) (hW : WQ Q) (s1 : mB Q (si mem 221 1 0)) (s2 : tM 0 Q hu S (si mem 221 1 0)) (s3 : kM 0 K (si mem 221 1 0)) (s4 : ∀ (v3 : Int32) (m1 : zM), aTm aT0 m1 → coZP Q hu (si mem 221 1 0) v3 m1 → ¬ (v3).toInt = 0 → 0 ≤ gn (ga m1 253) (1 : Int32).toInt ∧ gn (ga m1 253) (1 : Int32).toInt ≤ 40) (h1 : ∀ (v3 : Int32) (m1 : zM), aTm aT0 m1 → coZP Q hu (si mem 221 1 0) v3 m1 → ¬ (v3).toInt = 0 → ∀ (m5 : zM), aTm aT0 m5 → (onl [249, 250, 251, 252, 253, 254] m1 m5 ∧ cpD (0 : Int32).toInt (1 : Int32).toInt m1 m5) → aTm aT0 (si m5 221 55 0) → P (some (.int 1)) (si m5 221 55 0)) (h2 : ∀ (v3 : Int32) (m1 : zM), aTm aT0 m1 → coZP Q hu (si mem 221 1 0) v3 m1 → (v3).toInt = 0 → ∀ (y7 : Int32), y7.toInt = (gn (ga m1 248) 5) → aTm aT0 (sx m1 248 5 (y7 + 1)) → P (some (.int 0)) (sx m1 248 5 (y7 + 1))) : yR zpg tX12_on (d + 7) (0, [(0, .ref 221)], [], mem) P := by
  have tp := mO_r1 hm
  refine yR_m 1 (fun _ _ _ _ => rfl) ?_
  refine wR_gi rfl mO_e mO_1 hm rfl ?_
  refine yR_m 3 (fun _ _ _ _ => rfl) ?_
  refine wR_pi rfl mO_e mO_1 hm rfl ?_
  have hm_1 : aTm aT0 (si mem 221 1 0) := tm_si mO_e mO_1 hm (by decide)
  refine yR_m 2 (fun _ _ _ _ => rfl) ?_
  refine wR_cv rfl rfl mO_e hm_1 rfl (h_coN (Q := Q) (S := S) (K := K) (hu := hu) hm_1 s1 hW s2 s3 (by omega)) ?_
  rintro _ m1 ⟨v3, rfl, hm1, k2⟩
  show yR zpg tX12_on (d + 7) (15, [(1, .int (gi mem 221 1)), (0, .ref 221)], [.int v3], m1) _
  refine wR_if_ne rfl (a := (v3).toInt) rfl (fun q4 => ?_) (fun q4 => ?_)
  ·
    refine yR_m 3 (fun _ _ _ _ => rfl) ?_
    refine wR_cv rfl rfl mO_e hm1 rfl (h_cp hm1 (by decide) (by decide) (by decide) (s4 v3 m1 hm1 k2 q4) (by omega)) ?_
    rintro _ m5 ⟨rfl, hm5, k6⟩
    show yR zpg tX12_on (d + 7) (38, [(1, .int (gi mem 221 1)), (0, .ref 221)], [], m5) _
    refine yR_m 2 (fun _ _ _ _ => rfl) ?_
    refine wR_pi rfl mO_e mO_55 hm5 rfl ?_
    have hm_2 : aTm aT0 (si m5 221 55 0) := tm_si mO_e mO_55 hm5 (by decide)
    refine yR_m 1 (fun _ _ _ _ => rfl) ?_
    exact yR_rz rfl ⟨by decide, by decide⟩ (h1 v3 m1 hm1 k2 q4 m5 hm5 k6 hm_2)
  ·
    refine yR_m 2 (fun _ _ _ _ => rfl) ?_
    refine wR_iv rfl rfl mO_e hm1 rfl rfl rfl rfl ?_
    show yR zpg tX12_refuses (d + 6) (0, [(0, .ref 221), (1, .int 5)], [], m1) _
    refine yR_m 1 (fun _ _ _ _ => rfl) ?_
    refine wR_gr rfl mO_e mO_47 hm1 ?_
    refine yR_m 2 (fun _ _ _ _ => rfl) ?_
    refine wN_al (a := 5) rfl aR_248 hm1 rfl rfl (by decide) (fun y7 e8 => ?_)
    refine yR_m 2 (fun _ _ _ _ => rfl) ?_
    refine wN_as (a := 5) rfl aR_248 hm1 rfl (by decide) ?_
    have hm_3 : aTm aT0 (sx m1 248 5 (y7 + 1)) := tm_sa aR_248 hm1 (i32_b _)
    refine yR_m 1 (fun _ _ _ _ => rfl) ?_
    refine yR_ri rfl ?_
    show yR zpg tX12_on (d + 7) (23, [(1, .int (gi mem 221 1)), (0, .ref 221)], [.int (-1)], (sx m1 248 5 (y7 + 1))) _
    refine wR_if_lt rfl (a := (-1)) tm1 (fun _ => ?_) (fun q => by exfalso; omega)
    refine yR_m 1 (fun _ _ _ _ => rfl) ?_
    exact yR_rz rfl ⟨by decide, by decide⟩ (h2 v3 m1 hm1 k2 q4 y7 e8 hm_3)

theorem h_onZ (hm : aTm aT0 mem) (hM : mB Q mem) (hW : WQ Q) (hS : tM 0 Q hu S mem) (hK : kM 0 K mem) (hP : rgM Q hu P0 mem) (hd : 8 ≤ d) : yC zpg d 278 [.ref 221] mem (onZ Q hu S K P0 mem) := by
  obtain ⟨d, rfl⟩ : ∃ q, d = q + 8 := ⟨d - 8, by omega⟩
  refine yC_of (t := tX12_on) rfl rfl ?_
  exact w_onz (Q := Q) (S := S) (K := K) (hu := hu) hm hW
        (mB_tk hM)
        (tM_zz (fun k _ _ => ga_sv) hS)
        (kM_q (ga_sv) (ga_sv) hK)
        (fun v3 m1 hm1 k2 q4 => by
        rcases k2.2 with w | w
        · exfalso; omega
        · have w2 : gn (ga _ 253) 1 = 0 := w.2.2
          show 0 ≤ gn (ga _ 253) 1 ∧ gn (ga _ 253) 1 ≤ 40
          rw [w2]
          decide)
        (fun v3 m1 hm1 k2 q4 m5 hm5 k6 hm2 => onZ_1 hm5 hm2 hW k2 (by omega) k6)
        (fun v3 m1 hm1 k2 q4 y7 e8 hm2 => onZ_0 hm hm2 hW hS hK hP k2 e8)
end ONMZ
