set_option maxRecDepth 100000 in
theorem c_bits_loop {d : Nat} {mem : zM} {x : Int32} : ∀ (M : Nat) (l n : Int32), l.toBitVec.toNat = M → yR zpg tX12_bits d (4, [(2, .int l), (1, .int n), (0, .int x)], [], mem) (fun r m => ∃ v : Int32, r = some (.int v) ∧ mem = m ∧ True) := by
  intro M
  induction M using Nat.strongRecOn with
  | ind M ih =>
    intro l n hl
    refine yR_m 1 (fun _ _ _ _ => rfl) ?_
    refine yR_if rfl (fun q => ?_) (fun q => ?_)
    · refine yR_m 1 (fun _ _ _ _ => rfl) ?_
      exact yR_ri rfl ⟨n, rfl, rfl, trivial⟩
    · have q : decide (l = 0) = false := q
      refine yR_m 8 (fun _ _ _ _ => rfl) ?_
      exact ih _ (by rw [← hl]; exact bits_dec (of_decide_eq_false q)) _ _ rfl
theorem c_bits {d : Nat} {mem : zM} {x : Int32} (hd : 1 ≤ d) : yC zpg d 220 [.int x] mem (fun r m => ∃ v : Int32, r = some (.int v) ∧ mem = m ∧ True) := by
  obtain ⟨d, rfl⟩ : ∃ q, d = q + 1 := ⟨d - 1, by omega⟩
  refine yC_of (t := tX12_bits) rfl rfl ?_
  refine yR_m 4 (fun _ _ _ _ => rfl) ?_
  exact c_bits_loop _ x 0 rfl
set_option maxRecDepth 100000 in
theorem w_isCellOf {d : Nat} {mem : zM} {P : Option Value → zM → Prop} {x : Int32} (hm : aTm aT0 mem) (h1 : (x).toInt < 0 → aTm aT0 mem → P (some (.int 0)) mem) (s1 : 0 ≤ (x).toInt → (0 : Int) ≤ (x).toInt) (s2 : 0 ≤ (x).toInt → ∀ (x2 : Int32), x2.toInt = ((x).toInt % 8) → (0 : Int) ≤ (x).toInt) (s3 : szOK mem) (h2 : 0 ≤ (x).toInt → ∀ (x2 : Int32), x2.toInt = ((x).toInt % 8) → ∀ (x4 : Int32), x4.toInt = ((x).toInt / 8) → ∀ (v6 : Int32), isB v6 (inC mem (x2).toInt (x4).toInt) → (v6).toInt = 0 → aTm aT0 mem → P (some (.int 0)) mem) (h3 : 0 ≤ (x).toInt → ∀ (x2 : Int32), x2.toInt = ((x).toInt % 8) → ∀ (x4 : Int32), x4.toInt = ((x).toInt / 8) → ∀ (v6 : Int32), isB v6 (inC mem (x2).toInt (x4).toInt) → ¬ (v6).toInt = 0 → aTm aT0 mem → P (some (.int 1)) mem) : yR zpg tX12_isCellOf (d + 2) (0, [(0, .ref 221), (1, .int x)], [], mem) P := by
  refine yR_m 1 (fun _ _ _ _ => rfl) ?_
  refine wR_if_lt rfl (a := (x).toInt) rfl (fun q1 => ?_) (fun q1 => ?_)
  ·
    refine yR_m 1 (fun _ _ _ _ => rfl) ?_
    exact yR_rz rfl ⟨by decide, by decide⟩ (h1 q1 hm)
  ·
    refine yR_m 3 (fun _ _ _ _ => rfl) ?_
    refine wN_rem (a := (x).toInt) (b := 8) rfl rfl rfl (by decide) (s1 q1) (fun x2 e3 => ?_)
    refine yR_m 2 (fun _ _ _ _ => rfl) ?_
    refine wN_div (a := (x).toInt) (b := 8) rfl rfl rfl (by decide) (s2 q1 x2 e3) (fun x4 e5 => ?_)
    refine wR_cv rfl rfl mO_e hm rfl (c_isCell hm s3 (by omega)) ?_
    rintro _ _ ⟨v6, rfl, rfl, k7⟩
    show yR zpg tX12_isCellOf (d + 2) (16, [(0, .ref 221), (1, .int x)], [.int v6], mem) _
    refine wR_if_eq rfl (a := (v6).toInt) rfl (fun q8 => ?_) (fun q8 => ?_)
    ·
      refine yR_m 1 (fun _ _ _ _ => rfl) ?_
      exact yR_rz rfl ⟨by decide, by decide⟩ (h2 q1 x2 e3 x4 e5 v6 k7 q8 hm)
    ·
      refine yR_m 2 (fun _ _ _ _ => rfl) ?_
      exact yR_rz rfl ⟨by decide, by decide⟩ (h3 q1 x2 e3 x4 e5 v6 k7 q8 hm)

theorem c_isCellOf {d : Nat} {x : Int32} {mem : zM} (hm : aTm aT0 mem) (hz : szOK mem) (hd : 3 ≤ d) (hx : 0 ≤ x.toInt) : yC zpg d 222 [.ref 221, .int x] mem (fun r m => ∃ v : Int32, r = some (.int v) ∧ mem = m ∧ isB v (inC mem (x.toInt % 8) (x.toInt / 8))) := by
  obtain ⟨d, rfl⟩ : ∃ q, d = q + 3 := ⟨d - 3, by omega⟩
  refine yC_of (t := tX12_isCellOf) rfl rfl ?_
  exact w_isCellOf hm
        (fun q1 _ => by exfalso; omega)
        (fun q1 => by omega)
        (fun q1 x2 e3 => by omega)
        (hz)
        (fun q1 x2 e3 x4 e5 v6 k7 q8 _ => ⟨_, rfl, rfl, Or.inr ⟨rfl, by have w := isB_0 k7 q8; rw [e3, e5] at w; exact w⟩⟩)
        (fun q1 x2 e3 x4 e5 v6 k7 q8 _ => ⟨_, rfl, rfl, Or.inl ⟨rfl, by have w := isB_1 k7 q8; rw [e3, e5] at w; exact w⟩⟩)
set_option maxRecDepth 100000 in
theorem w_glowOf {E : zM → Prop} (hE : aEs (aΘ0 E)) {d : Nat} {m0 mem : zM} {P : Option Value → zM → Prop} {v t : Int32} (hm : wI (aΘ0 E) m0 mem) (hQ : ∀ mem, aJ (aΘ0 E) mem → cdOK mem) (hv : 0 ≤ v.toInt ∧ v.toInt ≤ 21) (ht : 0 ≤ t.toInt ∧ t.toInt ≤ 8) (h1 : ∀ (x1 : Int32), x1.toInt = (3 * (gi mem 221 13).toInt) → ∀ (x3 : Int32), x3.toInt = ((3 * (gi mem 221 13).toInt) + 0) → ∀ (y5 : Int32), y5.toInt = (gn (ga mem 236) ((3 * (gi mem 221 13).toInt) + 0)) → (gn (ga mem 236) ((3 * (gi mem 221 13).toInt) + 0)) = (-1) → ∀ (y8 : Int32), y8.toInt = (gn (ga mem 255) (t).toInt) → wI (aΘ0 E) m0 mem → P (some (.int y8)) mem) (h2 : ∀ (x1 : Int32), x1.toInt = (3 * (gi mem 221 13).toInt) → ∀ (x3 : Int32), x3.toInt = ((3 * (gi mem 221 13).toInt) + 0) → ∀ (y5 : Int32), y5.toInt = (gn (ga mem 236) ((3 * (gi mem 221 13).toInt) + 0)) → ¬ (gn (ga mem 236) ((3 * (gi mem 221 13).toInt) + 0)) = (-1) → ∀ (y10 : Int32), y10.toInt = (gn (ga mem 249) (v).toInt) → ∀ (y12 : Int32), y12.toInt = (gn (ga mem 255) (t).toInt) → ∀ (x14 : Int32), x14.toInt = (9 * (gi mem 221 13).toInt) → ∀ (x16 : Int32), x16.toInt = ((9 * (gi mem 221 13).toInt) + (t).toInt) → ∀ (y18 : Int32), y18.toInt = (gn (ga mem 231) ((9 * (gi mem 221 13).toInt) + (t).toInt)) → ∀ (x20 : Int32), x20.toInt = (9 * (v).toInt) → ∀ (x22 : Int32), x22.toInt = ((9 * (v).toInt) + (t).toInt) → ∀ (y24 : Int32), y24.toInt = (gn (ga mem 251) ((9 * (v).toInt) + (t).toInt)) → ∀ (y26 : Int32), y26.toInt = (gn (ga mem 250) (v).toInt) → ∀ (v28 : Int32), True → ∀ (v32 : Int64) (m30 : zM), wI (aΘ0 E) m0 m30 → onl [256] (sx (sx (sx (sx (sx mem 257 1 y10) 257 2 y12) 257 3 y18) 257 4 y24) 257 5 v28) m30 → (0 : Int64).toInt ≤ v32.toInt → v32.toInt ≤ (9 : Int64).toInt → wI (aΘ0 E) m0 m30 → P (some (.int (v32).toInt32)) m30) (h3 : ∀ (x1 : Int32), x1.toInt = (3 * (gi mem 221 13).toInt) → ∀ (x3 : Int32), x3.toInt = ((3 * (gi mem 221 13).toInt) + 0) → ∀ (y5 : Int32), y5.toInt = (gn (ga mem 236) ((3 * (gi mem 221 13).toInt) + 0)) → ¬ (gn (ga mem 236) ((3 * (gi mem 221 13).toInt) + 0)) = (-1) → ∀ (y10 : Int32), y10.toInt = (gn (ga mem 249) (v).toInt) → ∀ (y12 : Int32), y12.toInt = (gn (ga mem 255) (t).toInt) → ∀ (x14 : Int32), x14.toInt = (9 * (gi mem 221 13).toInt) → ∀ (x16 : Int32), x16.toInt = ((9 * (gi mem 221 13).toInt) + (t).toInt) → ∀ (y18 : Int32), y18.toInt = (gn (ga mem 231) ((9 * (gi mem 221 13).toInt) + (t).toInt)) → ∀ (x20 : Int32), x20.toInt = (9 * (v).toInt) → ∀ (x22 : Int32), x22.toInt = ((9 * (v).toInt) + (t).toInt) → ∀ (y24 : Int32), y24.toInt = (gn (ga mem 251) ((9 * (v).toInt) + (t).toInt)) → ∀ (y26 : Int32), y26.toInt = (gn (ga mem 250) (v).toInt) → ∀ (v28 : Int32), True → ∀ (v32 : Int64) (m30 : zM), wI (aΘ0 E) m0 m30 → onl [256] (sx (sx (sx (sx (sx mem 257 1 y10) 257 2 y12) 257 3 y18) 257 4 y24) 257 5 v28) m30 → (0 : Int64).toInt ≤ v32.toInt → (9 : Int64).toInt < v32.toInt → wI (aΘ0 E) m0 m30 → P (some (.int 9)) m30) (h4 : ∀ (x1 : Int32), x1.toInt = (3 * (gi mem 221 13).toInt) → ∀ (x3 : Int32), x3.toInt = ((3 * (gi mem 221 13).toInt) + 0) → ∀ (y5 : Int32), y5.toInt = (gn (ga mem 236) ((3 * (gi mem 221 13).toInt) + 0)) → ¬ (gn (ga mem 236) ((3 * (gi mem 221 13).toInt) + 0)) = (-1) → ∀ (y10 : Int32), y10.toInt = (gn (ga mem 249) (v).toInt) → ∀ (y12 : Int32), y12.toInt = (gn (ga mem 255) (t).toInt) → ∀ (x14 : Int32), x14.toInt = (9 * (gi mem 221 13).toInt) → ∀ (x16 : Int32), x16.toInt = ((9 * (gi mem 221 13).toInt) + (t).toInt) → ∀ (y18 : Int32), y18.toInt = (gn (ga mem 231) ((9 * (gi mem 221 13).toInt) + (t).toInt)) → ∀ (x20 : Int32), x20.toInt = (9 * (v).toInt) → ∀ (x22 : Int32), x22.toInt = ((9 * (v).toInt) + (t).toInt) → ∀ (y24 : Int32), y24.toInt = (gn (ga mem 251) ((9 * (v).toInt) + (t).toInt)) → ∀ (y26 : Int32), y26.toInt = (gn (ga mem 250) (v).toInt) → ∀ (v28 : Int32), True → ∀ (v32 : Int64) (m30 : zM), wI (aΘ0 E) m0 m30 → onl [256] (sx (sx (sx (sx (sx mem 257 1 y10) 257 2 y12) 257 3 y18) 257 4 y24) 257 5 v28) m30 → v32.toInt < (0 : Int64).toInt → wI (aΘ0 E) m0 m30 → P (some (.int 0)) m30) : yR zpg tX12_glowOf (d + 5) (0, [(0, .ref 221), (1, .int v), (2, .int t)], [], mem) P := by
  obtain ⟨b0, b1⟩ := mO_r13 hm.1.1
  refine yR_m 2 (fun _ _ _ _ => rfl) ?_
  refine wR_iv rfl rfl mO_e hm.1.1 rfl rfl rfl rfl ?_
  show yR zpg tX12_isTold (d + 4) (0, [(0, .ref 221), (1, .int 0)], [], mem) _
  refine yR_m 1 (fun _ _ _ _ => rfl) ?_
  refine wR_gr rfl mO_e mO_27 hm.1.1 ?_
  refine yR_m 2 (fun _ _ _ _ => rfl) ?_
  refine wR_gi rfl mO_e mO_13 hm.1.1 rfl ?_
  refine wN_mul (a := 3) (b := (gi mem 221 13).toInt) rfl rfl rfl (by omega) (fun x1 e2 => ?_)
  refine yR_m 1 (fun _ _ _ _ => rfl) ?_
  refine wN_add (a := (3 * (gi mem 221 13).toInt)) (b := 0) rfl e2 rfl (by omega) (fun x3 e4 => ?_)
  refine wN_al (a := ((3 * (gi mem 221 13).toInt) + 0)) rfl aR_236 hm.1.1 rfl e4 (by omega) (fun y5 e6 => ?_)
  refine yR_m 1 (fun _ _ _ _ => rfl) ?_
  refine wR_ic_eq rfl (a := (gn (ga mem 236) ((3 * (gi mem 221 13).toInt) + 0))) (c := (-1)) e6 tm1 (fun q7 => ?_) (fun q7 => ?_)
  ·
    refine yR_m 1 (fun _ _ _ _ => rfl) ?_
    refine yR_rz rfl ⟨by decide, by decide⟩ ?_
    show yR zpg tX12_glowOf (d + 5) (5, [(0, .ref 221), (1, .int v), (2, .int t)], [.int 0], mem) _
    refine wR_if_ne rfl (a := 0) rfl (fun q => by exfalso; omega) (fun _ => ?_)
    refine yR_m 1 (fun _ _ _ _ => rfl) ?_
    refine wR_gr rfl mO_e mO_57 hm.1.1 ?_
    refine yR_m 1 (fun _ _ _ _ => rfl) ?_
    refine wN_al (a := (t).toInt) rfl aR_255 hm.1.1 rfl rfl (by omega) (fun y8 e9 => ?_)
    exact yR_ri rfl (h1 x1 e2 x3 e4 y5 e6 q7 y8 e9 hm)
  ·
    refine yR_m 2 (fun _ _ _ _ => rfl) ?_
    refine yR_rz rfl ⟨by decide, by decide⟩ ?_
    show yR zpg tX12_glowOf (d + 5) (5, [(0, .ref 221), (1, .int v), (2, .int t)], [.int 1], mem) _
    refine wR_if_ne rfl (a := 1) rfl (fun _ => ?_) (fun q => by exfalso; omega)
    refine yR_m 3 (fun _ _ _ _ => rfl) ?_
    refine wR_iv rfl rfl mO_e hm.1.1 rfl rfl rfl rfl ?_
    show yR zpg tX12_lays (d + 4) (0, [(0, .ref 221), (1, .int v), (2, .int t)], [], mem) _
    refine yR_m 1 (fun _ _ _ _ => rfl) ?_
    refine wR_gr rfl mO_e mO_59 hm.1.1 ?_
    refine yR_m 2 (fun _ _ _ _ => rfl) ?_
    refine wR_gr rfl mO_e mO_48 hm.1.1 ?_
    refine yR_m 1 (fun _ _ _ _ => rfl) ?_
    refine wN_al (a := (v).toInt) rfl aR_249 hm.1.1 rfl rfl (by omega) (fun y10 e11 => ?_)
    refine wN_as (a := 1) rfl aR_257 hm.1.1 rfl (by decide) ?_
    have hm_1 : wI (aΘ0 E) m0 (sx mem 257 1 y10) := wI_sa hE aR_257 hm (i32_b _)
    refine yR_m 1 (fun _ _ _ _ => rfl) ?_
    refine wR_gr rfl mO_e mO_59 hm_1.1.1 ?_
    refine yR_m 2 (fun _ _ _ _ => rfl) ?_
    refine wR_gr rfl mO_e mO_57 hm_1.1.1 ?_
    refine yR_m 1 (fun _ _ _ _ => rfl) ?_
    refine wN_al (a := (t).toInt) rfl aR_255 hm_1.1.1 (ga_sa_ne (by decide)) rfl (by omega) (fun y12 e13 => ?_)
    refine wN_as (a := 2) rfl aR_257 hm_1.1.1 rfl (by decide) ?_
    have hm_2 : wI (aΘ0 E) m0 (sx (sx mem 257 1 y10) 257 2 y12) := wI_sa hE aR_257 hm_1 (i32_b _)
    refine yR_m 1 (fun _ _ _ _ => rfl) ?_
    refine wR_gr rfl mO_e mO_59 hm_2.1.1 ?_
    refine yR_m 2 (fun _ _ _ _ => rfl) ?_
    refine wR_gr rfl mO_e mO_22 hm_2.1.1 ?_
    refine yR_m 2 (fun _ _ _ _ => rfl) ?_
    refine wR_gi rfl mO_e mO_13 hm_2.1.1 ((gi_sa).trans (gi_sa)) ?_
    refine wN_mul (a := 9) (b := (gi mem 221 13).toInt) rfl rfl rfl (by omega) (fun x14 e15 => ?_)
    refine yR_m 1 (fun _ _ _ _ => rfl) ?_
    refine wN_add (a := (9 * (gi mem 221 13).toInt)) (b := (t).toInt) rfl e15 rfl (by omega) (fun x16 e17 => ?_)
    refine wN_al (a := ((9 * (gi mem 221 13).toInt) + (t).toInt)) rfl aR_231 hm_2.1.1 ((ga_sa_ne (by decide)).trans (ga_sa_ne (by decide))) e17 (by omega) (fun y18 e19 => ?_)
    refine wN_as (a := 3) rfl aR_257 hm_2.1.1 rfl (by decide) ?_
    have hm_3 : wI (aΘ0 E) m0 (sx (sx (sx mem 257 1 y10) 257 2 y12) 257 3 y18) := wI_sa hE aR_257 hm_2 (i32_b _)
    refine yR_m 1 (fun _ _ _ _ => rfl) ?_
    refine wR_gr rfl mO_e mO_59 hm_3.1.1 ?_
    refine yR_m 2 (fun _ _ _ _ => rfl) ?_
    refine wR_gr rfl mO_e mO_50 hm_3.1.1 ?_
    refine yR_m 2 (fun _ _ _ _ => rfl) ?_
    refine wN_mul (a := 9) (b := (v).toInt) rfl rfl rfl (by omega) (fun x20 e21 => ?_)
    refine yR_m 1 (fun _ _ _ _ => rfl) ?_
    refine wN_add (a := (9 * (v).toInt)) (b := (t).toInt) rfl e21 rfl (by omega) (fun x22 e23 => ?_)
    refine wN_al (a := ((9 * (v).toInt) + (t).toInt)) rfl aR_251 hm_3.1.1 ((ga_sa_ne (by decide)).trans ((ga_sa_ne (by decide)).trans (ga_sa_ne (by decide)))) e23 (by omega) (fun y24 e25 => ?_)
    refine wN_as (a := 4) rfl aR_257 hm_3.1.1 rfl (by decide) ?_
    have hm_4 : wI (aΘ0 E) m0 (sx (sx (sx (sx mem 257 1 y10) 257 2 y12) 257 3 y18) 257 4 y24) := wI_sa hE aR_257 hm_3 (i32_b _)
    refine yR_m 1 (fun _ _ _ _ => rfl) ?_
    refine wR_gr rfl mO_e mO_59 hm_4.1.1 ?_
    refine yR_m 2 (fun _ _ _ _ => rfl) ?_
    refine wR_gr rfl mO_e mO_49 hm_4.1.1 ?_
    refine yR_m 1 (fun _ _ _ _ => rfl) ?_
    refine wN_al (a := (v).toInt) rfl aR_250 hm_4.1.1 ((ga_sa_ne (by decide)).trans ((ga_sa_ne (by decide)).trans ((ga_sa_ne (by decide)).trans (ga_sa_ne (by decide))))) rfl (by omega) (fun y26 e27 => ?_)
    refine yR_cs rfl rfl rfl (c_bits (by omega)) ?_
    rintro _ _ ⟨v28, rfl, rfl, k29⟩
    show yR zpg tX12_lays (d + 4) (75, [(0, .ref 221), (1, .int v), (2, .int t)], [.int v28, .int 5, .ref 257], (sx (sx (sx (sx mem 257 1 y10) 257 2 y12) 257 3 y18) 257 4 y24)) _
    refine wN_as (a := 5) rfl aR_257 hm_4.1.1 rfl (by decide) ?_
    have hm_5 : wI (aΘ0 E) m0 (sx (sx (sx (sx (sx mem 257 1 y10) 257 2 y12) 257 3 y18) 257 4 y24) 257 5 v28) := wI_sa hE aR_257 hm_4 (i32_b _)
    refine yR_rv rfl ?_
    show yR zpg tX12_glowOf (d + 5) (21, [(0, .ref 221), (1, .int v), (2, .int t)], [], (sx (sx (sx (sx (sx mem 257 1 y10) 257 2 y12) 257 3 y18) 257 4 y24) 257 5 v28)) _
    refine yR_m 2 (fun _ _ _ _ => rfl) ?_
    refine wR_cv rfl rfl mO_e hm_5.1.1 rfl (h_reckons hE hQ (by omega) (by decide) (by decide) (B := (gi mem 221 13).toInt) (W := 0) hm_5 ((ga_sa_ne (by decide)).trans ((ga_sa_ne (by decide)).trans ((ga_sa_ne (by decide)).trans ((ga_sa_ne (by decide)).trans (ga_sa_ne (by decide)))))) (congrArg Int32.toInt ((gi_sa).trans ((gi_sa).trans ((gi_sa).trans ((gi_sa).trans (gi_sa)))))) rfl (by omega)) ?_
    rintro _ m30 ⟨v32, rfl, hI30, k31⟩
    show yR zpg tX12_glowOf (d + 5) (26, [(0, .ref 221), (1, .int v), (2, .int t)], [.long v32], m30) _
    refine yR_m 4 (fun _ _ _ _ => rfl) ?_
    refine wR_lf_ge rfl (fun q33 => ?_) (fun q33 => ?_)
    ·
      refine yR_m 3 (fun _ _ _ _ => rfl) ?_
      refine wR_lf_le rfl (fun q34 => ?_) (fun q34 => ?_)
      ·
        refine yR_m 2 (fun _ _ _ _ => rfl) ?_
        exact yR_ri rfl (h2 x1 e2 x3 e4 y5 e6 q7 y10 e11 y12 e13 x14 e15 x16 e17 y18 e19 x20 e21 x22 e23 y24 e25 y26 e27 v28 k29 v32 m30 hI30 k31 q33 q34 hI30)
      ·
        refine yR_m 2 (fun _ _ _ _ => rfl) ?_
        exact yR_ri rfl (h3 x1 e2 x3 e4 y5 e6 q7 y10 e11 y12 e13 x14 e15 x16 e17 y18 e19 x20 e21 x22 e23 y24 e25 y26 e27 v28 k29 v32 m30 hI30 k31 q33 q34 hI30)
    ·
      refine yR_m 2 (fun _ _ _ _ => rfl) ?_
      exact yR_ri rfl (h4 x1 e2 x3 e4 y5 e6 q7 y10 e11 y12 e13 x14 e15 x16 e17 y18 e19 x20 e21 x22 e23 y24 e25 y26 e27 v28 k29 v32 m30 hI30 k31 q33 hI30)

theorem h_glowOf {E : zM → Prop} (hE : aEs (aΘ0 E)) (hQ : ∀ mem, aJ (aΘ0 E) mem → cdOK mem) {d : Nat} (hd : 6 ≤ d) {v t : Int32} (hv : 0 ≤ v.toInt ∧ v.toInt ≤ 21) (ht : 0 ≤ t.toInt ∧ t.toInt ≤ 8) {m0 mem : zM} (hI : wI (aΘ0 E) m0 mem) : yC zpg d 226 [.ref 221, .int v, .int t] mem (fun r m => ∃ v : Int32, r = some (.int v) ∧ wI (aΘ0 E) m0 m ∧ onl [256, 257] mem m) := by
  obtain ⟨d, rfl⟩ : ∃ q, d = q + 6 := ⟨d - 6, by omega⟩
  obtain ⟨b0, b1⟩ := mO_r13 hI.1.1
  refine yC_of (t := tX12_glowOf) rfl rfl ?_
  exact w_glowOf hE hI
        hQ hv ht
        (fun x1 e2 x3 e4 y5 e6 q7 y8 e9 hI => ⟨_, rfl, hI, onl_rf⟩)
        (fun x1 e2 x3 e4 y5 e6 q7 y10 e11 y12 e13 x14 e15 x16 e17 y18 e19 x20 e21 x22 e23 y24 e25 y26 e27 v28 k29 v32 m30 hI30 k31 q33 q34 hI => ⟨_, rfl, hI, onl_tr (onl_sa rfl (onl_sa rfl (onl_sa rfl (onl_sa rfl (onl_sa rfl (onl_rf)))))) (onl_up k31 rfl)⟩)
        (fun x1 e2 x3 e4 y5 e6 q7 y10 e11 y12 e13 x14 e15 x16 e17 y18 e19 x20 e21 x22 e23 y24 e25 y26 e27 v28 k29 v32 m30 hI30 k31 q33 q34 hI => ⟨_, rfl, hI, onl_tr (onl_sa rfl (onl_sa rfl (onl_sa rfl (onl_sa rfl (onl_sa rfl (onl_rf)))))) (onl_up k31 rfl)⟩)
        (fun x1 e2 x3 e4 y5 e6 q7 y10 e11 y12 e13 x14 e15 x16 e17 y18 e19 x20 e21 x22 e23 y24 e25 y26 e27 v28 k29 v32 m30 hI30 k31 q33 hI => ⟨_, rfl, hI, onl_tr (onl_sa rfl (onl_sa rfl (onl_sa rfl (onl_sa rfl (onl_sa rfl (onl_rf)))))) (onl_up k31 rfl)⟩)
set_option maxRecDepth 100000 in
theorem w_it_0 {E : zM → Prop} (hE : aEs (aΘ0 E)) {d : Nat} {m0 mem : zM} {P : Option Value → zM → Prop} {v t : Int32} {lo : List (Nat × Value)} (hm : wI (aΘ0 E) m0 mem) (l_0 : zlg lo 0 = some (.ref 221)) (l_1 : zlg lo 1 = some (.int v)) (l_2 : zlg lo 2 = some (.int t)) (hv : 0 ≤ v.toInt ∧ v.toInt ≤ 21) (ht : 0 ≤ t.toInt ∧ t.toInt ≤ 8) (h1 : ∀ lo, zlg lo 0 = some (.ref 221) → zlg lo 1 = some (.int v) → zlg lo 2 = some (.int t) → zlg lo 3 = some (.int 0) → zlg lo 4 = some (.int 0) → zlg lo 5 = some (.int 0) → wI (aΘ0 E) m0 mem → yR zpg tX12_isTurned (d + 5) (17, lo, [], mem) P) (h2 : ∀ lo, zlg lo 0 = some (.ref 221) → zlg lo 1 = some (.int v) → zlg lo 2 = some (.int t) → zlg lo 3 = some (.int 1) → zlg lo 4 = some (.int 0) → zlg lo 5 = some (.int 0) → wI (aΘ0 E) m0 mem → yR zpg tX12_isTurned (d + 5) (17, lo, [], mem) P) : yR zpg tX12_isTurned (d + 5) (0, lo, [], mem) P := by
  obtain ⟨b0, b1⟩ := mO_r13 hm.1.1
  refine wR_la rfl l_0 ?_
  refine wR_gr rfl mO_e mO_49 hm.1.1 ?_
  refine wR_li rfl l_1 ?_
  refine wN_al (a := (v).toInt) rfl aR_250 hm.1.1 rfl rfl (by omega) (fun y1 e2 => ?_)
  refine wR_li rfl l_2 ?_
  refine wR_is rfl rfl rfl rfl rfl rfl ?_
  show yR zpg tX12_has2 (d + 4) (0, [(0, .int y1), (1, .int t)], [], mem) _
  refine yR_m 6 (fun _ _ _ _ => rfl) ?_
  refine wR_ic_ne rfl (a := ((y1 >>> (t &&& 31)) &&& 1).toInt) (c := 1) rfl rfl (fun q3 => ?_) (fun q3 => ?_)
  ·
    refine yR_m 1 (fun _ _ _ _ => rfl) ?_
    refine yR_rz rfl ⟨by decide, by decide⟩ ?_
    show yR zpg tX12_isTurned (d + 5) (10, lo, [.int 0], mem) _
    refine wR_si rfl rfl (fun lo4 e5 f6 => ?_)
    have lo4_0 := f6 0 _ (by decide) (Or.inl rfl) l_0
    have lo4_1 := f6 1 _ (by decide) (Or.inl rfl) l_1
    have lo4_2 := f6 2 _ (by decide) (Or.inl rfl) l_2
    refine yR_m 1 (fun _ _ _ _ => rfl) ?_
    refine wR_si rfl rfl (fun lo7 e8 f9 => ?_)
    have lo7_3 := f9 3 _ (by decide) (Or.inl rfl) e5
    have lo7_0 := f9 0 _ (by decide) (Or.inl rfl) lo4_0
    have lo7_1 := f9 1 _ (by decide) (Or.inl rfl) lo4_1
    have lo7_2 := f9 2 _ (by decide) (Or.inl rfl) lo4_2
    refine yR_m 1 (fun _ _ _ _ => rfl) ?_
    refine wR_si rfl rfl (fun lo10 e11 f12 => ?_)
    have lo10_4 := f12 4 _ (by decide) (Or.inl rfl) e8
    have lo10_3 := f12 3 _ (by decide) (Or.inl rfl) lo7_3
    have lo10_0 := f12 0 _ (by decide) (Or.inl rfl) lo7_0
    have lo10_1 := f12 1 _ (by decide) (Or.inl rfl) lo7_1
    have lo10_2 := f12 2 _ (by decide) (Or.inl rfl) lo7_2
    exact h1 lo10 lo10_0 lo10_1 lo10_2 lo10_3 lo10_4 e11 hm
  ·
    refine yR_m 2 (fun _ _ _ _ => rfl) ?_
    refine yR_rz rfl ⟨by decide, by decide⟩ ?_
    show yR zpg tX12_isTurned (d + 5) (10, lo, [.int 1], mem) _
    refine wR_si rfl rfl (fun lo13 e14 f15 => ?_)
    have lo13_0 := f15 0 _ (by decide) (Or.inl rfl) l_0
    have lo13_1 := f15 1 _ (by decide) (Or.inl rfl) l_1
    have lo13_2 := f15 2 _ (by decide) (Or.inl rfl) l_2
    refine yR_m 1 (fun _ _ _ _ => rfl) ?_
    refine wR_si rfl rfl (fun lo16 e17 f18 => ?_)
    have lo16_3 := f18 3 _ (by decide) (Or.inl rfl) e14
    have lo16_0 := f18 0 _ (by decide) (Or.inl rfl) lo13_0
    have lo16_1 := f18 1 _ (by decide) (Or.inl rfl) lo13_1
    have lo16_2 := f18 2 _ (by decide) (Or.inl rfl) lo13_2
    refine yR_m 1 (fun _ _ _ _ => rfl) ?_
    refine wR_si rfl rfl (fun lo19 e20 f21 => ?_)
    have lo19_4 := f21 4 _ (by decide) (Or.inl rfl) e17
    have lo19_3 := f21 3 _ (by decide) (Or.inl rfl) lo16_3
    have lo19_0 := f21 0 _ (by decide) (Or.inl rfl) lo16_0
    have lo19_1 := f21 1 _ (by decide) (Or.inl rfl) lo16_1
    have lo19_2 := f21 2 _ (by decide) (Or.inl rfl) lo16_2
    exact h2 lo19 lo19_0 lo19_1 lo19_2 lo19_3 lo19_4 e20 hm

set_option maxRecDepth 100000 in
theorem w_it_17 {E : zM → Prop} (hE : aEs (aΘ0 E)) {d : Nat} {m0 mem : zM} {P : Option Value → zM → Prop} {v t il n k : Int32} {lo : List (Nat × Value)} (hm : wI (aΘ0 E) m0 mem) (l_0 : zlg lo 0 = some (.ref 221)) (l_1 : zlg lo 1 = some (.int v)) (l_2 : zlg lo 2 = some (.int t)) (l_3 : zlg lo 3 = some (.int il)) (l_4 : zlg lo 4 = some (.int n)) (l_5 : zlg lo 5 = some (.int k)) (hQ : ∀ mem, aJ (aΘ0 E) mem → cdOK mem) (hv : 0 ≤ v.toInt ∧ v.toInt ≤ 21) (ht : 0 ≤ t.toInt ∧ t.toInt ≤ 8) (hk : 0 ≤ k.toInt ∧ k.toInt ≤ 6) (hn : 0 ≤ n.toInt ∧ n.toInt ≤ 6) (h1 : ∀ (y1 : Int32), y1.toInt = (gn (ga mem 233) (gi mem 221 13).toInt) → (gn (ga mem 233) (gi mem 221 13).toInt) ≤ (k).toInt → (il).toInt = 0 → ∀ (x5 : Int32), x5.toInt = (3 * (gi mem 221 13).toInt) → ∀ (x7 : Int32), x7.toInt = ((3 * (gi mem 221 13).toInt) + 2) → ∀ (y9 : Int32), y9.toInt = (gn (ga mem 236) ((3 * (gi mem 221 13).toInt) + 2)) → (gn (ga mem 236) ((3 * (gi mem 221 13).toInt) + 2)) = (-1) → wI (aΘ0 E) m0 mem → P (some (.int 0)) mem) (h2 : ∀ (y1 : Int32), y1.toInt = (gn (ga mem 233) (gi mem 221 13).toInt) → (gn (ga mem 233) (gi mem 221 13).toInt) ≤ (k).toInt → (il).toInt = 0 → ∀ (x5 : Int32), x5.toInt = (3 * (gi mem 221 13).toInt) → ∀ (x7 : Int32), x7.toInt = ((3 * (gi mem 221 13).toInt) + 2) → ∀ (y9 : Int32), y9.toInt = (gn (ga mem 236) ((3 * (gi mem 221 13).toInt) + 2)) → ¬ (gn (ga mem 236) ((3 * (gi mem 221 13).toInt) + 2)) = (-1) → ∀ (y12 : Int32), y12.toInt = (gn (ga mem 249) (v).toInt) → ∀ (y14 : Int32), y14.toInt = (gn (ga mem 255) (t).toInt) → ∀ (x16 : Int32), x16.toInt = (9 * (gi mem 221 13).toInt) → ∀ (x18 : Int32), x18.toInt = ((9 * (gi mem 221 13).toInt) + (t).toInt) → ∀ (y20 : Int32), y20.toInt = (gn (ga mem 231) ((9 * (gi mem 221 13).toInt) + (t).toInt)) → ∀ (x22 : Int32), x22.toInt = (9 * (v).toInt) → ∀ (x24 : Int32), x24.toInt = ((9 * (v).toInt) + (t).toInt) → ∀ (y26 : Int32), y26.toInt = (gn (ga mem 251) ((9 * (v).toInt) + (t).toInt)) → ∀ (y28 : Int32), y28.toInt = (gn (ga mem 250) (v).toInt) → ∀ (v30 : Int32), True → ∀ (v34 : Int64) (m32 : zM), wI (aΘ0 E) m0 m32 → onl [256] (sx (sx (sx (sx (sx (sx mem 257 1 y12) 257 2 y14) 257 3 y20) 257 4 y26) 257 5 v30) 257 6 n) m32 → ¬ v34 = 1 → wI (aΘ0 E) m0 m32 → P (some (.int 0)) m32) (h3 : ∀ (y1 : Int32), y1.toInt = (gn (ga mem 233) (gi mem 221 13).toInt) → (gn (ga mem 233) (gi mem 221 13).toInt) ≤ (k).toInt → (il).toInt = 0 → ∀ (x5 : Int32), x5.toInt = (3 * (gi mem 221 13).toInt) → ∀ (x7 : Int32), x7.toInt = ((3 * (gi mem 221 13).toInt) + 2) → ∀ (y9 : Int32), y9.toInt = (gn (ga mem 236) ((3 * (gi mem 221 13).toInt) + 2)) → ¬ (gn (ga mem 236) ((3 * (gi mem 221 13).toInt) + 2)) = (-1) → ∀ (y12 : Int32), y12.toInt = (gn (ga mem 249) (v).toInt) → ∀ (y14 : Int32), y14.toInt = (gn (ga mem 255) (t).toInt) → ∀ (x16 : Int32), x16.toInt = (9 * (gi mem 221 13).toInt) → ∀ (x18 : Int32), x18.toInt = ((9 * (gi mem 221 13).toInt) + (t).toInt) → ∀ (y20 : Int32), y20.toInt = (gn (ga mem 231) ((9 * (gi mem 221 13).toInt) + (t).toInt)) → ∀ (x22 : Int32), x22.toInt = (9 * (v).toInt) → ∀ (x24 : Int32), x24.toInt = ((9 * (v).toInt) + (t).toInt) → ∀ (y26 : Int32), y26.toInt = (gn (ga mem 251) ((9 * (v).toInt) + (t).toInt)) → ∀ (y28 : Int32), y28.toInt = (gn (ga mem 250) (v).toInt) → ∀ (v30 : Int32), True → ∀ (v34 : Int64) (m32 : zM), wI (aΘ0 E) m0 m32 → onl [256] (sx (sx (sx (sx (sx (sx mem 257 1 y12) 257 2 y14) 257 3 y20) 257 4 y26) 257 5 v30) 257 6 n) m32 → v34 = 1 → wI (aΘ0 E) m0 m32 → P (some (.int 1)) m32) (h4 : ∀ (y1 : Int32), y1.toInt = (gn (ga mem 233) (gi mem 221 13).toInt) → (gn (ga mem 233) (gi mem 221 13).toInt) ≤ (k).toInt → ¬ (il).toInt = 0 → ∀ (x36 : Int32), x36.toInt = (3 * (gi mem 221 13).toInt) → ∀ (x38 : Int32), x38.toInt = ((3 * (gi mem 221 13).toInt) + 1) → ∀ (y40 : Int32), y40.toInt = (gn (ga mem 236) ((3 * (gi mem 221 13).toInt) + 1)) → (gn (ga mem 236) ((3 * (gi mem 221 13).toInt) + 1)) = (-1) → (n).toInt ≤ 0 → wI (aΘ0 E) m0 mem → P (some (.int 0)) mem) (h5 : ∀ (y1 : Int32), y1.toInt = (gn (ga mem 233) (gi mem 221 13).toInt) → (gn (ga mem 233) (gi mem 221 13).toInt) ≤ (k).toInt → ¬ (il).toInt = 0 → ∀ (x36 : Int32), x36.toInt = (3 * (gi mem 221 13).toInt) → ∀ (x38 : Int32), x38.toInt = ((3 * (gi mem 221 13).toInt) + 1) → ∀ (y40 : Int32), y40.toInt = (gn (ga mem 236) ((3 * (gi mem 221 13).toInt) + 1)) → (gn (ga mem 236) ((3 * (gi mem 221 13).toInt) + 1)) = (-1) → 0 < (n).toInt → wI (aΘ0 E) m0 mem → P (some (.int 1)) mem) (h6 : ∀ (y1 : Int32), y1.toInt = (gn (ga mem 233) (gi mem 221 13).toInt) → (gn (ga mem 233) (gi mem 221 13).toInt) ≤ (k).toInt → ¬ (il).toInt = 0 → ∀ (x36 : Int32), x36.toInt = (3 * (gi mem 221 13).toInt) → ∀ (x38 : Int32), x38.toInt = ((3 * (gi mem 221 13).toInt) + 1) → ∀ (y40 : Int32), y40.toInt = (gn (ga mem 236) ((3 * (gi mem 221 13).toInt) + 1)) → ¬ (gn (ga mem 236) ((3 * (gi mem 221 13).toInt) + 1)) = (-1) → ∀ (y44 : Int32), y44.toInt = (gn (ga mem 249) (v).toInt) → ∀ (y46 : Int32), y46.toInt = (gn (ga mem 255) (t).toInt) → ∀ (x48 : Int32), x48.toInt = (9 * (gi mem 221 13).toInt) → ∀ (x50 : Int32), x50.toInt = ((9 * (gi mem 221 13).toInt) + (t).toInt) → ∀ (y52 : Int32), y52.toInt = (gn (ga mem 231) ((9 * (gi mem 221 13).toInt) + (t).toInt)) → ∀ (x54 : Int32), x54.toInt = (9 * (v).toInt) → ∀ (x56 : Int32), x56.toInt = ((9 * (v).toInt) + (t).toInt) → ∀ (y58 : Int32), y58.toInt = (gn (ga mem 251) ((9 * (v).toInt) + (t).toInt)) → ∀ (y60 : Int32), y60.toInt = (gn (ga mem 250) (v).toInt) → ∀ (v62 : Int32), True → ∀ (v66 : Int64) (m64 : zM), wI (aΘ0 E) m0 m64 → onl [256] (sx (sx (sx (sx (sx (sx mem 257 1 y44) 257 2 y46) 257 3 y52) 257 4 y58) 257 5 v62) 257 6 n) m64 → ¬ v66 = 1 → wI (aΘ0 E) m0 m64 → P (some (.int 0)) m64) (h7 : ∀ (y1 : Int32), y1.toInt = (gn (ga mem 233) (gi mem 221 13).toInt) → (gn (ga mem 233) (gi mem 221 13).toInt) ≤ (k).toInt → ¬ (il).toInt = 0 → ∀ (x36 : Int32), x36.toInt = (3 * (gi mem 221 13).toInt) → ∀ (x38 : Int32), x38.toInt = ((3 * (gi mem 221 13).toInt) + 1) → ∀ (y40 : Int32), y40.toInt = (gn (ga mem 236) ((3 * (gi mem 221 13).toInt) + 1)) → ¬ (gn (ga mem 236) ((3 * (gi mem 221 13).toInt) + 1)) = (-1) → ∀ (y44 : Int32), y44.toInt = (gn (ga mem 249) (v).toInt) → ∀ (y46 : Int32), y46.toInt = (gn (ga mem 255) (t).toInt) → ∀ (x48 : Int32), x48.toInt = (9 * (gi mem 221 13).toInt) → ∀ (x50 : Int32), x50.toInt = ((9 * (gi mem 221 13).toInt) + (t).toInt) → ∀ (y52 : Int32), y52.toInt = (gn (ga mem 231) ((9 * (gi mem 221 13).toInt) + (t).toInt)) → ∀ (x54 : Int32), x54.toInt = (9 * (v).toInt) → ∀ (x56 : Int32), x56.toInt = ((9 * (v).toInt) + (t).toInt) → ∀ (y58 : Int32), y58.toInt = (gn (ga mem 251) ((9 * (v).toInt) + (t).toInt)) → ∀ (y60 : Int32), y60.toInt = (gn (ga mem 250) (v).toInt) → ∀ (v62 : Int32), True → ∀ (v66 : Int64) (m64 : zM), wI (aΘ0 E) m0 m64 → onl [256] (sx (sx (sx (sx (sx (sx mem 257 1 y44) 257 2 y46) 257 3 y52) 257 4 y58) 257 5 v62) 257 6 n) m64 → v66 = 1 → wI (aΘ0 E) m0 m64 → P (some (.int 1)) m64) (h8 : ∀ (y1 : Int32), y1.toInt = (gn (ga mem 233) (gi mem 221 13).toInt) → (k).toInt < (gn (ga mem 233) (gi mem 221 13).toInt) → ∀ (x68 : Int32), x68.toInt = (6 * (v).toInt) → ∀ (x70 : Int32), x70.toInt = ((6 * (v).toInt) + (k).toInt) → ∀ (y72 : Int32), y72.toInt = (gn (ga mem 252) ((6 * (v).toInt) + (k).toInt)) → ∀ (x74 : Int32), x74.toInt = (9 * (gi mem 221 13).toInt) → ∀ (x76 : Int32), x76.toInt = ((9 * (gi mem 221 13).toInt) + (t).toInt) → ∀ (y78 : Int32), y78.toInt = (gn (ga mem 229) ((9 * (gi mem 221 13).toInt) + (t).toInt)) → ¬ (gn (ga mem 252) ((6 * (v).toInt) + (k).toInt)) = (gn (ga mem 229) ((9 * (gi mem 221 13).toInt) + (t).toInt)) → ∀ (x81 : Int32), x81.toInt = ((n).toInt + 0) → ∀ (x86 : Int32), x86.toInt = ((k).toInt + 1) → ∀ lo, zlg lo 0 = some (.ref 221) → zlg lo 1 = some (.int v) → zlg lo 2 = some (.int t) → zlg lo 3 = some (.int il) → zlg lo 4 = some (.int x81) → zlg lo 5 = some (.int x86) → wI (aΘ0 E) m0 mem → yR zpg tX12_isTurned (d + 5) (17, lo, [], mem) P) (h9 : ∀ (y1 : Int32), y1.toInt = (gn (ga mem 233) (gi mem 221 13).toInt) → (k).toInt < (gn (ga mem 233) (gi mem 221 13).toInt) → ∀ (x68 : Int32), x68.toInt = (6 * (v).toInt) → ∀ (x70 : Int32), x70.toInt = ((6 * (v).toInt) + (k).toInt) → ∀ (y72 : Int32), y72.toInt = (gn (ga mem 252) ((6 * (v).toInt) + (k).toInt)) → ∀ (x74 : Int32), x74.toInt = (9 * (gi mem 221 13).toInt) → ∀ (x76 : Int32), x76.toInt = ((9 * (gi mem 221 13).toInt) + (t).toInt) → ∀ (y78 : Int32), y78.toInt = (gn (ga mem 229) ((9 * (gi mem 221 13).toInt) + (t).toInt)) → (gn (ga mem 252) ((6 * (v).toInt) + (k).toInt)) = (gn (ga mem 229) ((9 * (gi mem 221 13).toInt) + (t).toInt)) → ∀ (x91 : Int32), x91.toInt = ((n).toInt + 1) → ∀ (x96 : Int32), x96.toInt = ((k).toInt + 1) → ∀ lo, zlg lo 0 = some (.ref 221) → zlg lo 1 = some (.int v) → zlg lo 2 = some (.int t) → zlg lo 3 = some (.int il) → zlg lo 4 = some (.int x91) → zlg lo 5 = some (.int x96) → wI (aΘ0 E) m0 mem → yR zpg tX12_isTurned (d + 5) (17, lo, [], mem) P) : yR zpg tX12_isTurned (d + 5) (17, lo, [], mem) P := by
  obtain ⟨b0, b1⟩ := mO_r13 hm.1.1
  have fk := gR_233 hm.1.1 (i := (gi mem 221 13).toInt) b0 (by omega)
  refine wR_li rfl l_5 ?_
  refine wR_la rfl l_0 ?_
  refine wR_gr rfl mO_e mO_24 hm.1.1 ?_
  refine wR_la rfl l_0 ?_
  refine wR_gi rfl mO_e mO_13 hm.1.1 rfl ?_
  refine wN_al (a := (gi mem 221 13).toInt) rfl aR_233 hm.1.1 rfl rfl (by omega) (fun y1 e2 => ?_)
  refine wR_ic_ge rfl (a := (k).toInt) (c := (gn (ga mem 233) (gi mem 221 13).toInt)) rfl e2 (fun q3 => ?_) (fun q3 => ?_)
  ·
    refine wR_la rfl l_0 ?_
    refine wR_li rfl l_3 ?_
    refine wR_if_eq rfl (a := (il).toInt) rfl (fun q4 => ?_) (fun q4 => ?_)
    ·
      refine yR_m 1 (fun _ _ _ _ => rfl) ?_
      refine wR_iv rfl rfl mO_e hm.1.1 rfl rfl rfl rfl ?_
      show yR zpg tX12_isTold (d + 4) (0, [(0, .ref 221), (1, .int 2)], [], mem) _
      refine yR_m 1 (fun _ _ _ _ => rfl) ?_
      refine wR_gr rfl mO_e mO_27 hm.1.1 ?_
      refine yR_m 2 (fun _ _ _ _ => rfl) ?_
      refine wR_gi rfl mO_e mO_13 hm.1.1 rfl ?_
      refine wN_mul (a := 3) (b := (gi mem 221 13).toInt) rfl rfl rfl (by omega) (fun x5 e6 => ?_)
      refine yR_m 1 (fun _ _ _ _ => rfl) ?_
      refine wN_add (a := (3 * (gi mem 221 13).toInt)) (b := 2) rfl e6 rfl (by omega) (fun x7 e8 => ?_)
      refine wN_al (a := ((3 * (gi mem 221 13).toInt) + 2)) rfl aR_236 hm.1.1 rfl e8 (by omega) (fun y9 e10 => ?_)
      refine yR_m 1 (fun _ _ _ _ => rfl) ?_
      refine wR_ic_eq rfl (a := (gn (ga mem 236) ((3 * (gi mem 221 13).toInt) + 2))) (c := (-1)) e10 tm1 (fun q11 => ?_) (fun q11 => ?_)
      ·
        refine yR_m 1 (fun _ _ _ _ => rfl) ?_
        refine yR_rz rfl ⟨by decide, by decide⟩ ?_
        show yR zpg tX12_isTurned (d + 5) (89, lo, [.int 0], mem) _
        refine wR_if_ne rfl (a := 0) rfl (fun q => by exfalso; omega) (fun _ => ?_)
        refine wR_li rfl l_3 ?_
        refine wR_if_eq rfl (a := (il).toInt) rfl (fun _ => ?_) (fun q => by exfalso; omega)
        refine yR_m 1 (fun _ _ _ _ => rfl) ?_
        exact yR_rz rfl ⟨by decide, by decide⟩ (h1 y1 e2 q3 q4 x5 e6 x7 e8 y9 e10 q11 hm)
      ·
        refine yR_m 2 (fun _ _ _ _ => rfl) ?_
        refine yR_rz rfl ⟨by decide, by decide⟩ ?_
        show yR zpg tX12_isTurned (d + 5) (89, lo, [.int 1], mem) _
        refine wR_if_ne rfl (a := 1) rfl (fun _ => ?_) (fun q => by exfalso; omega)
        refine wR_la rfl l_0 ?_
        refine wR_li rfl l_1 ?_
        refine wR_li rfl l_2 ?_
        refine wR_iv rfl rfl mO_e hm.1.1 rfl rfl rfl rfl ?_
        show yR zpg tX12_lays (d + 4) (0, [(0, .ref 221), (1, .int v), (2, .int t)], [], mem) _
        refine yR_m 1 (fun _ _ _ _ => rfl) ?_
        refine wR_gr rfl mO_e mO_59 hm.1.1 ?_
        refine yR_m 2 (fun _ _ _ _ => rfl) ?_
        refine wR_gr rfl mO_e mO_48 hm.1.1 ?_
        refine yR_m 1 (fun _ _ _ _ => rfl) ?_
        refine wN_al (a := (v).toInt) rfl aR_249 hm.1.1 rfl rfl (by omega) (fun y12 e13 => ?_)
        refine wN_as (a := 1) rfl aR_257 hm.1.1 rfl (by decide) ?_
        have hm_1 : wI (aΘ0 E) m0 (sx mem 257 1 y12) := wI_sa hE aR_257 hm (i32_b _)
        refine yR_m 1 (fun _ _ _ _ => rfl) ?_
        refine wR_gr rfl mO_e mO_59 hm_1.1.1 ?_
        refine yR_m 2 (fun _ _ _ _ => rfl) ?_
        refine wR_gr rfl mO_e mO_57 hm_1.1.1 ?_
        refine yR_m 1 (fun _ _ _ _ => rfl) ?_
        refine wN_al (a := (t).toInt) rfl aR_255 hm_1.1.1 (ga_sa_ne (by decide)) rfl (by omega) (fun y14 e15 => ?_)
        refine wN_as (a := 2) rfl aR_257 hm_1.1.1 rfl (by decide) ?_
        have hm_2 : wI (aΘ0 E) m0 (sx (sx mem 257 1 y12) 257 2 y14) := wI_sa hE aR_257 hm_1 (i32_b _)
        refine yR_m 1 (fun _ _ _ _ => rfl) ?_
        refine wR_gr rfl mO_e mO_59 hm_2.1.1 ?_
        refine yR_m 2 (fun _ _ _ _ => rfl) ?_
        refine wR_gr rfl mO_e mO_22 hm_2.1.1 ?_
        refine yR_m 2 (fun _ _ _ _ => rfl) ?_
        refine wR_gi rfl mO_e mO_13 hm_2.1.1 ((gi_sa).trans (gi_sa)) ?_
        refine wN_mul (a := 9) (b := (gi mem 221 13).toInt) rfl rfl rfl (by omega) (fun x16 e17 => ?_)
        refine yR_m 1 (fun _ _ _ _ => rfl) ?_
        refine wN_add (a := (9 * (gi mem 221 13).toInt)) (b := (t).toInt) rfl e17 rfl (by omega) (fun x18 e19 => ?_)
        refine wN_al (a := ((9 * (gi mem 221 13).toInt) + (t).toInt)) rfl aR_231 hm_2.1.1 ((ga_sa_ne (by decide)).trans (ga_sa_ne (by decide))) e19 (by omega) (fun y20 e21 => ?_)
        refine wN_as (a := 3) rfl aR_257 hm_2.1.1 rfl (by decide) ?_
        have hm_3 : wI (aΘ0 E) m0 (sx (sx (sx mem 257 1 y12) 257 2 y14) 257 3 y20) := wI_sa hE aR_257 hm_2 (i32_b _)
        refine yR_m 1 (fun _ _ _ _ => rfl) ?_
        refine wR_gr rfl mO_e mO_59 hm_3.1.1 ?_
        refine yR_m 2 (fun _ _ _ _ => rfl) ?_
        refine wR_gr rfl mO_e mO_50 hm_3.1.1 ?_
        refine yR_m 2 (fun _ _ _ _ => rfl) ?_
        refine wN_mul (a := 9) (b := (v).toInt) rfl rfl rfl (by omega) (fun x22 e23 => ?_)
        refine yR_m 1 (fun _ _ _ _ => rfl) ?_
        refine wN_add (a := (9 * (v).toInt)) (b := (t).toInt) rfl e23 rfl (by omega) (fun x24 e25 => ?_)
        refine wN_al (a := ((9 * (v).toInt) + (t).toInt)) rfl aR_251 hm_3.1.1 ((ga_sa_ne (by decide)).trans ((ga_sa_ne (by decide)).trans (ga_sa_ne (by decide)))) e25 (by omega) (fun y26 e27 => ?_)
        refine wN_as (a := 4) rfl aR_257 hm_3.1.1 rfl (by decide) ?_
        have hm_4 : wI (aΘ0 E) m0 (sx (sx (sx (sx mem 257 1 y12) 257 2 y14) 257 3 y20) 257 4 y26) := wI_sa hE aR_257 hm_3 (i32_b _)
        refine yR_m 1 (fun _ _ _ _ => rfl) ?_
        refine wR_gr rfl mO_e mO_59 hm_4.1.1 ?_
        refine yR_m 2 (fun _ _ _ _ => rfl) ?_
        refine wR_gr rfl mO_e mO_49 hm_4.1.1 ?_
        refine yR_m 1 (fun _ _ _ _ => rfl) ?_
        refine wN_al (a := (v).toInt) rfl aR_250 hm_4.1.1 ((ga_sa_ne (by decide)).trans ((ga_sa_ne (by decide)).trans ((ga_sa_ne (by decide)).trans (ga_sa_ne (by decide))))) rfl (by omega) (fun y28 e29 => ?_)
        refine yR_cs rfl rfl rfl (c_bits (by omega)) ?_
        rintro _ _ ⟨v30, rfl, rfl, k31⟩
        show yR zpg tX12_lays (d + 4) (75, [(0, .ref 221), (1, .int v), (2, .int t)], [.int v30, .int 5, .ref 257], (sx (sx (sx (sx mem 257 1 y12) 257 2 y14) 257 3 y20) 257 4 y26)) _
        refine wN_as (a := 5) rfl aR_257 hm_4.1.1 rfl (by decide) ?_
        have hm_5 : wI (aΘ0 E) m0 (sx (sx (sx (sx (sx mem 257 1 y12) 257 2 y14) 257 3 y20) 257 4 y26) 257 5 v30) := wI_sa hE aR_257 hm_4 (i32_b _)
        refine yR_rv rfl ?_
        show yR zpg tX12_isTurned (d + 5) (113, lo, [], (sx (sx (sx (sx (sx mem 257 1 y12) 257 2 y14) 257 3 y20) 257 4 y26) 257 5 v30)) _
        refine wR_la rfl l_0 ?_
        refine wR_gr rfl mO_e mO_59 hm_5.1.1 ?_
        refine yR_m 1 (fun _ _ _ _ => rfl) ?_
        refine wR_li rfl l_4 ?_
        refine wN_as (a := 6) rfl aR_257 hm_5.1.1 rfl (by decide) ?_
        have hm_6 : wI (aΘ0 E) m0 (sx (sx (sx (sx (sx (sx mem 257 1 y12) 257 2 y14) 257 3 y20) 257 4 y26) 257 5 v30) 257 6 n) := wI_sa hE aR_257 hm_5 (i32_b _)
        refine wR_la rfl l_0 ?_
        refine wR_li rfl l_3 ?_
        refine wR_if_eq rfl (a := (il).toInt) rfl (fun _ => ?_) (fun q => by exfalso; omega)
        refine yR_m 1 (fun _ _ _ _ => rfl) ?_
        refine wR_cv rfl rfl mO_e hm_6.1.1 rfl (h_reckons hE hQ (by omega) (by decide) (by decide) (B := (gi mem 221 13).toInt) (W := 2) hm_6 ((ga_sa_ne (by decide)).trans ((ga_sa_ne (by decide)).trans ((ga_sa_ne (by decide)).trans ((ga_sa_ne (by decide)).trans ((ga_sa_ne (by decide)).trans (ga_sa_ne (by decide))))))) (congrArg Int32.toInt ((gi_sa).trans ((gi_sa).trans ((gi_sa).trans ((gi_sa).trans ((gi_sa).trans (gi_sa))))))) rfl (by omega)) ?_
        rintro _ m32 ⟨v34, rfl, hI32, k33⟩
        show yR zpg tX12_isTurned (d + 5) (135, lo, [.long v34], m32) _
        refine yR_m 2 (fun _ _ _ _ => rfl) ?_
        refine wR_lf_ne rfl (fun q35 => ?_) (fun q35 => ?_)
        ·
          refine yR_m 1 (fun _ _ _ _ => rfl) ?_
          exact yR_rz rfl ⟨by decide, by decide⟩ (h2 y1 e2 q3 q4 x5 e6 x7 e8 y9 e10 q11 y12 e13 y14 e15 x16 e17 x18 e19 y20 e21 x22 e23 x24 e25 y26 e27 y28 e29 v30 k31 v34 m32 hI32 k33 q35 hI32)
        ·
          refine yR_m 2 (fun _ _ _ _ => rfl) ?_
          exact yR_rz rfl ⟨by decide, by decide⟩ (h3 y1 e2 q3 q4 x5 e6 x7 e8 y9 e10 q11 y12 e13 y14 e15 x16 e17 x18 e19 y20 e21 x22 e23 x24 e25 y26 e27 y28 e29 v30 k31 v34 m32 hI32 k33 q35 hI32)
    ·
      refine yR_m 2 (fun _ _ _ _ => rfl) ?_
      refine wR_iv rfl rfl mO_e hm.1.1 rfl rfl rfl rfl ?_
      show yR zpg tX12_isTold (d + 4) (0, [(0, .ref 221), (1, .int 1)], [], mem) _
      refine yR_m 1 (fun _ _ _ _ => rfl) ?_
      refine wR_gr rfl mO_e mO_27 hm.1.1 ?_
      refine yR_m 2 (fun _ _ _ _ => rfl) ?_
      refine wR_gi rfl mO_e mO_13 hm.1.1 rfl ?_
      refine wN_mul (a := 3) (b := (gi mem 221 13).toInt) rfl rfl rfl (by omega) (fun x36 e37 => ?_)
      refine yR_m 1 (fun _ _ _ _ => rfl) ?_
      refine wN_add (a := (3 * (gi mem 221 13).toInt)) (b := 1) rfl e37 rfl (by omega) (fun x38 e39 => ?_)
      refine wN_al (a := ((3 * (gi mem 221 13).toInt) + 1)) rfl aR_236 hm.1.1 rfl e39 (by omega) (fun y40 e41 => ?_)
      refine yR_m 1 (fun _ _ _ _ => rfl) ?_
      refine wR_ic_eq rfl (a := (gn (ga mem 236) ((3 * (gi mem 221 13).toInt) + 1))) (c := (-1)) e41 tm1 (fun q42 => ?_) (fun q42 => ?_)
      ·
        refine yR_m 1 (fun _ _ _ _ => rfl) ?_
        refine yR_rz rfl ⟨by decide, by decide⟩ ?_
        show yR zpg tX12_isTurned (d + 5) (89, lo, [.int 0], mem) _
        refine wR_if_ne rfl (a := 0) rfl (fun q => by exfalso; omega) (fun _ => ?_)
        refine wR_li rfl l_3 ?_
        refine wR_if_eq rfl (a := (il).toInt) rfl (fun q => by exfalso; omega) (fun _ => ?_)
        refine wR_li rfl l_4 ?_
        refine wR_if_le rfl (a := (n).toInt) rfl (fun q43 => ?_) (fun q43 => ?_)
        ·
          refine yR_m 1 (fun _ _ _ _ => rfl) ?_
          exact yR_rz rfl ⟨by decide, by decide⟩ (h4 y1 e2 q3 q4 x36 e37 x38 e39 y40 e41 q42 q43 hm)
        ·
          refine yR_m 2 (fun _ _ _ _ => rfl) ?_
          exact yR_rz rfl ⟨by decide, by decide⟩ (h5 y1 e2 q3 q4 x36 e37 x38 e39 y40 e41 q42 q43 hm)
      ·
        refine yR_m 2 (fun _ _ _ _ => rfl) ?_
        refine yR_rz rfl ⟨by decide, by decide⟩ ?_
        show yR zpg tX12_isTurned (d + 5) (89, lo, [.int 1], mem) _
        refine wR_if_ne rfl (a := 1) rfl (fun _ => ?_) (fun q => by exfalso; omega)
        refine wR_la rfl l_0 ?_
        refine wR_li rfl l_1 ?_
        refine wR_li rfl l_2 ?_
        refine wR_iv rfl rfl mO_e hm.1.1 rfl rfl rfl rfl ?_
        show yR zpg tX12_lays (d + 4) (0, [(0, .ref 221), (1, .int v), (2, .int t)], [], mem) _
        refine yR_m 1 (fun _ _ _ _ => rfl) ?_
        refine wR_gr rfl mO_e mO_59 hm.1.1 ?_
        refine yR_m 2 (fun _ _ _ _ => rfl) ?_
        refine wR_gr rfl mO_e mO_48 hm.1.1 ?_
        refine yR_m 1 (fun _ _ _ _ => rfl) ?_
        refine wN_al (a := (v).toInt) rfl aR_249 hm.1.1 rfl rfl (by omega) (fun y44 e45 => ?_)
        refine wN_as (a := 1) rfl aR_257 hm.1.1 rfl (by decide) ?_
        have hm_7 : wI (aΘ0 E) m0 (sx mem 257 1 y44) := wI_sa hE aR_257 hm (i32_b _)
        refine yR_m 1 (fun _ _ _ _ => rfl) ?_
        refine wR_gr rfl mO_e mO_59 hm_7.1.1 ?_
        refine yR_m 2 (fun _ _ _ _ => rfl) ?_
        refine wR_gr rfl mO_e mO_57 hm_7.1.1 ?_
        refine yR_m 1 (fun _ _ _ _ => rfl) ?_
        refine wN_al (a := (t).toInt) rfl aR_255 hm_7.1.1 (ga_sa_ne (by decide)) rfl (by omega) (fun y46 e47 => ?_)
        refine wN_as (a := 2) rfl aR_257 hm_7.1.1 rfl (by decide) ?_
        have hm_8 : wI (aΘ0 E) m0 (sx (sx mem 257 1 y44) 257 2 y46) := wI_sa hE aR_257 hm_7 (i32_b _)
        refine yR_m 1 (fun _ _ _ _ => rfl) ?_
        refine wR_gr rfl mO_e mO_59 hm_8.1.1 ?_
        refine yR_m 2 (fun _ _ _ _ => rfl) ?_
        refine wR_gr rfl mO_e mO_22 hm_8.1.1 ?_
        refine yR_m 2 (fun _ _ _ _ => rfl) ?_
        refine wR_gi rfl mO_e mO_13 hm_8.1.1 ((gi_sa).trans (gi_sa)) ?_
        refine wN_mul (a := 9) (b := (gi mem 221 13).toInt) rfl rfl rfl (by omega) (fun x48 e49 => ?_)
        refine yR_m 1 (fun _ _ _ _ => rfl) ?_
        refine wN_add (a := (9 * (gi mem 221 13).toInt)) (b := (t).toInt) rfl e49 rfl (by omega) (fun x50 e51 => ?_)
        refine wN_al (a := ((9 * (gi mem 221 13).toInt) + (t).toInt)) rfl aR_231 hm_8.1.1 ((ga_sa_ne (by decide)).trans (ga_sa_ne (by decide))) e51 (by omega) (fun y52 e53 => ?_)
        refine wN_as (a := 3) rfl aR_257 hm_8.1.1 rfl (by decide) ?_
        have hm_9 : wI (aΘ0 E) m0 (sx (sx (sx mem 257 1 y44) 257 2 y46) 257 3 y52) := wI_sa hE aR_257 hm_8 (i32_b _)
        refine yR_m 1 (fun _ _ _ _ => rfl) ?_
        refine wR_gr rfl mO_e mO_59 hm_9.1.1 ?_
        refine yR_m 2 (fun _ _ _ _ => rfl) ?_
        refine wR_gr rfl mO_e mO_50 hm_9.1.1 ?_
        refine yR_m 2 (fun _ _ _ _ => rfl) ?_
        refine wN_mul (a := 9) (b := (v).toInt) rfl rfl rfl (by omega) (fun x54 e55 => ?_)
        refine yR_m 1 (fun _ _ _ _ => rfl) ?_
        refine wN_add (a := (9 * (v).toInt)) (b := (t).toInt) rfl e55 rfl (by omega) (fun x56 e57 => ?_)
        refine wN_al (a := ((9 * (v).toInt) + (t).toInt)) rfl aR_251 hm_9.1.1 ((ga_sa_ne (by decide)).trans ((ga_sa_ne (by decide)).trans (ga_sa_ne (by decide)))) e57 (by omega) (fun y58 e59 => ?_)
        refine wN_as (a := 4) rfl aR_257 hm_9.1.1 rfl (by decide) ?_
        have hm_10 : wI (aΘ0 E) m0 (sx (sx (sx (sx mem 257 1 y44) 257 2 y46) 257 3 y52) 257 4 y58) := wI_sa hE aR_257 hm_9 (i32_b _)
        refine yR_m 1 (fun _ _ _ _ => rfl) ?_
        refine wR_gr rfl mO_e mO_59 hm_10.1.1 ?_
        refine yR_m 2 (fun _ _ _ _ => rfl) ?_
        refine wR_gr rfl mO_e mO_49 hm_10.1.1 ?_
        refine yR_m 1 (fun _ _ _ _ => rfl) ?_
        refine wN_al (a := (v).toInt) rfl aR_250 hm_10.1.1 ((ga_sa_ne (by decide)).trans ((ga_sa_ne (by decide)).trans ((ga_sa_ne (by decide)).trans (ga_sa_ne (by decide))))) rfl (by omega) (fun y60 e61 => ?_)
        refine yR_cs rfl rfl rfl (c_bits (by omega)) ?_
        rintro _ _ ⟨v62, rfl, rfl, k63⟩
        show yR zpg tX12_lays (d + 4) (75, [(0, .ref 221), (1, .int v), (2, .int t)], [.int v62, .int 5, .ref 257], (sx (sx (sx (sx mem 257 1 y44) 257 2 y46) 257 3 y52) 257 4 y58)) _
        refine wN_as (a := 5) rfl aR_257 hm_10.1.1 rfl (by decide) ?_
        have hm_11 : wI (aΘ0 E) m0 (sx (sx (sx (sx (sx mem 257 1 y44) 257 2 y46) 257 3 y52) 257 4 y58) 257 5 v62) := wI_sa hE aR_257 hm_10 (i32_b _)
        refine yR_rv rfl ?_
        show yR zpg tX12_isTurned (d + 5) (113, lo, [], (sx (sx (sx (sx (sx mem 257 1 y44) 257 2 y46) 257 3 y52) 257 4 y58) 257 5 v62)) _
        refine wR_la rfl l_0 ?_
        refine wR_gr rfl mO_e mO_59 hm_11.1.1 ?_
        refine yR_m 1 (fun _ _ _ _ => rfl) ?_
        refine wR_li rfl l_4 ?_
        refine wN_as (a := 6) rfl aR_257 hm_11.1.1 rfl (by decide) ?_
        have hm_12 : wI (aΘ0 E) m0 (sx (sx (sx (sx (sx (sx mem 257 1 y44) 257 2 y46) 257 3 y52) 257 4 y58) 257 5 v62) 257 6 n) := wI_sa hE aR_257 hm_11 (i32_b _)
        refine wR_la rfl l_0 ?_
        refine wR_li rfl l_3 ?_
        refine wR_if_eq rfl (a := (il).toInt) rfl (fun q => by exfalso; omega) (fun _ => ?_)
        refine yR_m 2 (fun _ _ _ _ => rfl) ?_
        refine wR_cv rfl rfl mO_e hm_12.1.1 rfl (h_reckons hE hQ (by omega) (by decide) (by decide) (B := (gi mem 221 13).toInt) (W := 1) hm_12 ((ga_sa_ne (by decide)).trans ((ga_sa_ne (by decide)).trans ((ga_sa_ne (by decide)).trans ((ga_sa_ne (by decide)).trans ((ga_sa_ne (by decide)).trans (ga_sa_ne (by decide))))))) (congrArg Int32.toInt ((gi_sa).trans ((gi_sa).trans ((gi_sa).trans ((gi_sa).trans ((gi_sa).trans (gi_sa))))))) rfl (by omega)) ?_
        rintro _ m64 ⟨v66, rfl, hI64, k65⟩
        show yR zpg tX12_isTurned (d + 5) (135, lo, [.long v66], m64) _
        refine yR_m 2 (fun _ _ _ _ => rfl) ?_
        refine wR_lf_ne rfl (fun q67 => ?_) (fun q67 => ?_)
        ·
          refine yR_m 1 (fun _ _ _ _ => rfl) ?_
          exact yR_rz rfl ⟨by decide, by decide⟩ (h6 y1 e2 q3 q4 x36 e37 x38 e39 y40 e41 q42 y44 e45 y46 e47 x48 e49 x50 e51 y52 e53 x54 e55 x56 e57 y58 e59 y60 e61 v62 k63 v66 m64 hI64 k65 q67 hI64)
        ·
          refine yR_m 2 (fun _ _ _ _ => rfl) ?_
          exact yR_rz rfl ⟨by decide, by decide⟩ (h7 y1 e2 q3 q4 x36 e37 x38 e39 y40 e41 q42 y44 e45 y46 e47 x48 e49 x50 e51 y52 e53 x54 e55 x56 e57 y58 e59 y60 e61 v62 k63 v66 m64 hI64 k65 q67 hI64)
  ·
    refine wR_li rfl l_4 ?_
    refine wR_la rfl l_0 ?_
    refine wR_gr rfl mO_e mO_51 hm.1.1 ?_
    refine yR_m 1 (fun _ _ _ _ => rfl) ?_
    refine wR_li rfl l_1 ?_
    refine wN_mul (a := 6) (b := (v).toInt) rfl rfl rfl (by omega) (fun x68 e69 => ?_)
    refine wR_li rfl l_5 ?_
    refine wN_add (a := (6 * (v).toInt)) (b := (k).toInt) rfl e69 rfl (by omega) (fun x70 e71 => ?_)
    refine wN_al (a := ((6 * (v).toInt) + (k).toInt)) rfl aR_252 hm.1.1 rfl e71 (by omega) (fun y72 e73 => ?_)
    refine wR_la rfl l_0 ?_
    refine wR_gr rfl mO_e mO_20 hm.1.1 ?_
    refine yR_m 1 (fun _ _ _ _ => rfl) ?_
    refine wR_la rfl l_0 ?_
    refine wR_gi rfl mO_e mO_13 hm.1.1 rfl ?_
    refine wN_mul (a := 9) (b := (gi mem 221 13).toInt) rfl rfl rfl (by omega) (fun x74 e75 => ?_)
    refine wR_li rfl l_2 ?_
    refine wN_add (a := (9 * (gi mem 221 13).toInt)) (b := (t).toInt) rfl e75 rfl (by omega) (fun x76 e77 => ?_)
    refine wN_al (a := ((9 * (gi mem 221 13).toInt) + (t).toInt)) rfl aR_229 hm.1.1 rfl e77 (by omega) (fun y78 e79 => ?_)
    refine wR_ic_ne rfl (a := (gn (ga mem 252) ((6 * (v).toInt) + (k).toInt))) (c := (gn (ga mem 229) ((9 * (gi mem 221 13).toInt) + (t).toInt))) e73 e79 (fun q80 => ?_) (fun q80 => ?_)
    ·
      refine yR_m 1 (fun _ _ _ _ => rfl) ?_
      refine wN_add (a := (n).toInt) (b := 0) rfl rfl rfl (by omega) (fun x81 e82 => ?_)
      refine wR_si rfl rfl (fun lo83 e84 f85 => ?_)
      have lo83_0 := f85 0 _ (by decide) (Or.inl rfl) l_0
      have lo83_1 := f85 1 _ (by decide) (Or.inl rfl) l_1
      have lo83_2 := f85 2 _ (by decide) (Or.inl rfl) l_2
      have lo83_3 := f85 3 _ (by decide) (Or.inl rfl) l_3
      have lo83_5 := f85 5 _ (by decide) (Or.inl rfl) l_5
      refine wN_in (a := (k).toInt) (b := 1) rfl rfl lo83_5 rfl rfl (by omega) (fun x86 e87 => fun lo88 e89 f90 => ?_)
      have lo88_4 := f90 4 _ (by decide) (Or.inl rfl) e84
      have lo88_0 := f90 0 _ (by decide) (Or.inl rfl) lo83_0
      have lo88_1 := f90 1 _ (by decide) (Or.inl rfl) lo83_1
      have lo88_2 := f90 2 _ (by decide) (Or.inl rfl) lo83_2
      have lo88_3 := f90 3 _ (by decide) (Or.inl rfl) lo83_3
      exact yR_m 1 (fun _ _ _ _ => rfl) (h8 y1 e2 q3 x68 e69 x70 e71 y72 e73 x74 e75 x76 e77 y78 e79 q80 x81 e82 x86 e87 lo88 lo88_0 lo88_1 lo88_2 lo88_3 lo88_4 e89 hm)
    ·
      refine yR_m 2 (fun _ _ _ _ => rfl) ?_
      refine wN_add (a := (n).toInt) (b := 1) rfl rfl rfl (by omega) (fun x91 e92 => ?_)
      refine wR_si rfl rfl (fun lo93 e94 f95 => ?_)
      have lo93_0 := f95 0 _ (by decide) (Or.inl rfl) l_0
      have lo93_1 := f95 1 _ (by decide) (Or.inl rfl) l_1
      have lo93_2 := f95 2 _ (by decide) (Or.inl rfl) l_2
      have lo93_3 := f95 3 _ (by decide) (Or.inl rfl) l_3
      have lo93_5 := f95 5 _ (by decide) (Or.inl rfl) l_5
      refine wN_in (a := (k).toInt) (b := 1) rfl rfl lo93_5 rfl rfl (by omega) (fun x96 e97 => fun lo98 e99 f100 => ?_)
      have lo98_4 := f100 4 _ (by decide) (Or.inl rfl) e94
      have lo98_0 := f100 0 _ (by decide) (Or.inl rfl) lo93_0
      have lo98_1 := f100 1 _ (by decide) (Or.inl rfl) lo93_1
      have lo98_2 := f100 2 _ (by decide) (Or.inl rfl) lo93_2
      have lo98_3 := f100 3 _ (by decide) (Or.inl rfl) lo93_3
      exact yR_m 1 (fun _ _ _ _ => rfl) (h9 y1 e2 q3 x68 e69 x70 e71 y72 e73 x74 e75 x76 e77 y78 e79 q80 x91 e92 x96 e97 lo98 lo98_0 lo98_1 lo98_2 lo98_3 lo98_4 e99 hm)

theorem it_loop {E : zM → Prop} (hE : aEs (aΘ0 E)) (hQ : ∀ mem, aJ (aΘ0 E) mem → cdOK mem) {d : Nat} {v t il : Int32} (hv : 0 ≤ v.toInt ∧ v.toInt ≤ 21) (ht : 0 ≤ t.toInt ∧ t.toInt ≤ 8) {m0 mem : zM} (hI : wI (aΘ0 E) m0 mem) : ∀ (f : Nat) (n k : Int32) (lo : List (Nat × Value)), 7 ≤ k.toInt + (f : Int) → 0 ≤ k.toInt → k.toInt ≤ 6 → 0 ≤ n.toInt → n.toInt ≤ k.toInt → zlg lo 0 = some (.ref 221) → zlg lo 1 = some (.int v) → zlg lo 2 = some (.int t) → zlg lo 3 = some (.int il) → zlg lo 4 = some (.int n) → zlg lo 5 = some (.int k) → yR zpg tX12_isTurned (d + 5) (17, lo, [], mem) (fun r m => ∃ v : Int32, r = some (.int v) ∧ wI (aΘ0 E) m0 m ∧ (0 ≤ v.toInt ∧ v.toInt ≤ 1) ∧ onl [256, 257] mem m) := by
  obtain ⟨b0, b1⟩ := mO_r13 hI.1.1
  have fk := gR_233 hI.1.1 (i := (gi mem 221 13).toInt) b0 (by omega)
  intro f
  induction f with
  | zero =>
    intro n k lo hf k0 k1 n0 n1 l0 l1 l2 l3 l4 l5
    omega
  | succ f ih =>
    intro n k lo hf k0 k1 n0 n1 l0 l1 l2 l3 l4 l5
    exact w_it_17 hE hI l0 l1 l2 l3 l4 l5
        hQ hv ht ⟨k0, k1⟩ ⟨n0, by omega⟩
        (fun y1 e2 q3 q4 x5 e6 x7 e8 y9 e10 q11 hI => ⟨_, rfl, hI, by decide, onl_rf⟩)
        (fun y1 e2 q3 q4 x5 e6 x7 e8 y9 e10 q11 y12 e13 y14 e15 x16 e17 x18 e19 y20 e21 x22 e23 x24 e25 y26 e27 y28 e29 v30 k31 v34 m32 hI32 k33 q35 hI => ⟨_, rfl, hI, by decide, onl_tr (onl_sa rfl (onl_sa rfl (onl_sa rfl (onl_sa rfl (onl_sa rfl (onl_sa rfl (onl_rf))))))) (onl_up k33 rfl)⟩)
        (fun y1 e2 q3 q4 x5 e6 x7 e8 y9 e10 q11 y12 e13 y14 e15 x16 e17 x18 e19 y20 e21 x22 e23 x24 e25 y26 e27 y28 e29 v30 k31 v34 m32 hI32 k33 q35 hI => ⟨_, rfl, hI, by decide, onl_tr (onl_sa rfl (onl_sa rfl (onl_sa rfl (onl_sa rfl (onl_sa rfl (onl_sa rfl (onl_rf))))))) (onl_up k33 rfl)⟩)
        (fun y1 e2 q3 q4 x36 e37 x38 e39 y40 e41 q42 q43 hI => ⟨_, rfl, hI, by decide, onl_rf⟩)
        (fun y1 e2 q3 q4 x36 e37 x38 e39 y40 e41 q42 q43 hI => ⟨_, rfl, hI, by decide, onl_rf⟩)
        (fun y1 e2 q3 q4 x36 e37 x38 e39 y40 e41 q42 y44 e45 y46 e47 x48 e49 x50 e51 y52 e53 x54 e55 x56 e57 y58 e59 y60 e61 v62 k63 v66 m64 hI64 k65 q67 hI => ⟨_, rfl, hI, by decide, onl_tr (onl_sa rfl (onl_sa rfl (onl_sa rfl (onl_sa rfl (onl_sa rfl (onl_sa rfl (onl_rf))))))) (onl_up k65 rfl)⟩)
        (fun y1 e2 q3 q4 x36 e37 x38 e39 y40 e41 q42 y44 e45 y46 e47 x48 e49 x50 e51 y52 e53 x54 e55 x56 e57 y58 e59 y60 e61 v62 k63 v66 m64 hI64 k65 q67 hI => ⟨_, rfl, hI, by decide, onl_tr (onl_sa rfl (onl_sa rfl (onl_sa rfl (onl_sa rfl (onl_sa rfl (onl_sa rfl (onl_rf))))))) (onl_up k65 rfl)⟩)
        (fun y1 e2 q3 x68 e69 x70 e71 y72 e73 x74 e75 x76 e77 y78 e79 q80 x81 e82 x86 e87 lo a0 a1 a2 a3 a4 a5 _ => ih _ _ lo (by omega) (by omega) (by omega) (by omega) (by omega) a0 a1 a2 a3 a4 a5)
        (fun y1 e2 q3 x68 e69 x70 e71 y72 e73 x74 e75 x76 e77 y78 e79 q80 x91 e92 x96 e97 lo a0 a1 a2 a3 a4 a5 _ => ih _ _ lo (by omega) (by omega) (by omega) (by omega) (by omega) a0 a1 a2 a3 a4 a5)
theorem h_isTurned {E : zM → Prop} (hE : aEs (aΘ0 E)) (hQ : ∀ mem, aJ (aΘ0 E) mem → cdOK mem) {d : Nat} (hd : 6 ≤ d) {v t : Int32} (hv : 0 ≤ v.toInt ∧ v.toInt ≤ 21) (ht : 0 ≤ t.toInt ∧ t.toInt ≤ 8) {m0 mem : zM} (hI : wI (aΘ0 E) m0 mem) : yC zpg d 234 [.ref 221, .int v, .int t] mem (fun r m => ∃ v : Int32, r = some (.int v) ∧ wI (aΘ0 E) m0 m ∧ (0 ≤ v.toInt ∧ v.toInt ≤ 1) ∧ onl [256, 257] mem m) := by
  obtain ⟨d, rfl⟩ : ∃ q, d = q + 6 := ⟨d - 6, by omega⟩
  refine yC_of (t := tX12_isTurned) rfl rfl ?_
  exact w_it_0 hE hI rfl rfl rfl
        hv ht
        (fun lo a0 a1 a2 a3 a4 a5 hI => it_loop hE hQ hv ht hI 7 0 0 lo (by decide) (by decide) (by decide) (by decide) (by decide) a0 a1 a2 a3 a4 a5)
        (fun lo a0 a1 a2 a3 a4 a5 hI => it_loop hE hQ hv ht hI 7 0 0 lo (by decide) (by decide) (by decide) (by decide) (by decide) a0 a1 a2 a3 a4 a5)
