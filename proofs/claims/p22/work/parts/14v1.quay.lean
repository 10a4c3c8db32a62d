/-! quay of the model -/
section QU
variable {d : Nat} {mr mem : zM}
def quE (mem m : zM) : Prop := ∃ x y v w : Int32, (x.toInt = (gi mem 221 34).toInt ∧ y.toInt = (gi mem 221 34).toInt) ∧ ga m 223 = (ga mem 223).set x.toNatClampNeg v ∧ ga m 224 = (ga mem 224).set y.toNatClampNeg w ∧ (fk m = 0 → (3 ≤ v.toInt ∧ v.toInt ≤ 7) ∧ 3 ≤ w.toInt ∧ w.toInt ≤ 7)
theorem h_quaying5 (hm : aTm aT0 mem) (hT : tOK mem) (hd : 5 ≤ d) : yC zpg d 197 [.ref 221] mem (fun r m => r = none ∧ aTm aT0 m ∧ (stQ [223, 224] mem m ∧ quE mem m)) := h_quaying hm hT hd
theorem h_statement5 (hm : aTm aT0 mem) (h : SI mr mem) (h8 : (gi mem 221 8).toInt = 0) (sg : ¬ (gi mem 221 3).toInt = 0) (hd : 11 ≤ d) : yC zpg d 204 [.ref 221] mem (fun r m => r = none ∧ aTm aT0 m ∧ (SI mr m ∧ ((gi m 221 8).toInt = 0 → (gi mem 221 4).toInt ≤ (gi m 221 4).toInt))) := h_statement hm h h8 sg hd
theorem cl_fr {ks is : List Nat} {a b : zM} (h : ks.all (fun k => decide (223 ≤ k)) = true) (F : fr ks is a b) : ∀ k, (k < 221 ∨ k = 222) → zat b k = zat a k := fun k hk => F.1 k (by omega) (by
  cases hc : ks.contains k with
  | false => rfl
  | true =>
    have t := List.all_eq_true.1 h k (List.contains_iff_mem.1 hc)
    have t2 := of_decide_eq_true t
    omega)
theorem Em_fr {ks is : List Nat} {a b : zM} (F : fr ks is a b) (h1 : is.contains 13 = false) (h2 : ks.contains 223 = false) (h3 : ks.contains 224 = false) (h4 : ks.contains 236 = false) (h5 : ks.contains 237 = false) (h6 : ks.contains 238 = false) (E : cdOK a ∧ szOK a) : cdOK b ∧ szOK b := by
  unfold cdOK szOK colsI rowsI bkN
  rw [fr_gi F h1, fr_ga F (by decide) h2, fr_ga F (by decide) h3, fr_ga F (by decide) h4, fr_ga F (by decide) h5, fr_ga F (by decide) h6]
  exact E
theorem Em_old {m : zM} (h : kO mr m) (E : cdOK mr ∧ szOK mr) (rb : 0 ≤ (gi mr 221 13).toInt ∧ (gi mr 221 13).toInt ≤ 1) : cdOK m ∧ szOK m := by
  obtain ⟨k1, k2, k3, k4⟩ := h
  have eb : gi m 221 13 = gi mr 221 13 := fr_gi k1 rfl
  refine ⟨fun w hw hn => ?_, ?_⟩
  · have en : (3 * (gi mr 221 13).toInt + (w : Int)).toNat = 3 * (gi mr 221 13).toInt.toNat + w := by omega
    have e6 : ((ga m 236).getD (3 * (gi m 221 13).toInt.toNat + w) 0).toInt = ((ga mr 236).getD (3 * (gi mr 221 13).toInt.toNat + w) 0).toInt := by
      have t := k3 236 (Or.inl rfl) (w : Int) (by omega) (by omega)
      unfold gn at t
      rw [en] at t
      rw [eb]; exact t
    have e7 : ((ga m 237).getD (3 * (gi m 221 13).toInt.toNat + w) 0).toInt = ((ga mr 237).getD (3 * (gi mr 221 13).toInt.toNat + w) 0).toInt := by
      have t := k3 237 (Or.inr rfl) (w : Int) (by omega) (by omega)
      unfold gn at t
      rw [en] at t
      rw [eb]; exact t
    rw [e6] at hn
    obtain ⟨fN, bN, a1, a2, a3, a4, Hh, a5⟩ := E.1 w hw hn
    refine ⟨fN, bN, by rw [e6]; exact a1, by rw [e7]; exact a2, a3, a4, Hh, ?_⟩
    rw [← a5, eb]
    apply hgt_ex
    intro i i0 i1
    have t := k4 ((i : Int) - 1600 * (gi mr 221 13).toInt) (by omega) (by omega)
    rw [show 1600 * bI mr + ((i : Int) - 1600 * (gi mr 221 13).toInt) = (i : Int) by show 1600 * (gi mr 221 13).toInt + _ = _; omega] at t
    exact Int32.toInt_inj.1 t
  · have t3 := k2 223 (Or.inl rfl)
    have t4 := k2 224 (Or.inr rfl)
    unfold gn at t3 t4
    unfold szOK colsI rowsI bkN
    rw [eb, t3, t4]
    exact E.2
theorem szE {m m' : zM} (s : szI m) (b : gi m' 221 13 = gi m 221 34) (g3 : ga m' 223 = ga m 223) (g4 : ga m' 224 = ga m 224) : szOK m' := by
  have s1 : 3 ≤ ((ga m 223).getD (gi m 221 34).toInt.toNat 0).toInt := s.1.1
  have s2 : ((ga m 223).getD (gi m 221 34).toInt.toNat 0).toInt ≤ 7 := s.1.2
  have s3 : 3 ≤ ((ga m 224).getD (gi m 221 34).toInt.toNat 0).toInt := s.2.1
  have s4 : ((ga m 224).getD (gi m 221 34).toInt.toNat 0).toInt ≤ 7 := s.2.2
  unfold szOK colsI rowsI bkN
  rw [b, g3, g4]
  exact ⟨by omega, s2, by omega, s4⟩
/-- the state when the first statement is read -/
theorem SI_go {a b c e : zM} (F1 : fr [227, 236] [33] mr a) (c0 : (gi a 221 33).toInt = 0) (hi : (gi mr 221 34).toInt = 1 - (gi mr 221 13).toInt) (rb : 0 ≤ (gi mr 221 13).toInt ∧ (gi mr 221 13).toInt ≤ 1) (k6 : ∀ w, 0 ≤ w → w < 3 → gn (ga a 236) (3 * (gi mr 221 13).toInt + w) = gn (ga mr 236) (3 * (gi mr 221 13).toInt + w)) (n6 : ∀ w, 0 ≤ w → w < 3 → gn (ga a 236) (3 * (gi mr 221 34).toInt + w) = -1) (A : ahQ a b) (Qs : stQ [223, 224] b c) (Qe : quE b c) (Tq : tQ c e) (hmb : aTm aT0 b) : SI mr e := by
  obtain ⟨x, y, v, w, ⟨x1, y1⟩, q3, q4, qz⟩ := Qe
  have gl3 := gl_223 hmb
  have gl4 := gl_224 hmb
  have I : ∀ i, [2, 3, 4, 5, 6, 7, 8, 9, 12, 33].contains i = false → gi e 221 i = gi mr 221 i := fun i hi => by
    have u1 : [3, 4, 5, 6, 7, 8, 9, 12].contains i = false := ct_up (qs := [2, 3, 4, 5, 6, 7, 8, 9, 12, 33]) rfl hi
    have u2 : [3, 4, 5, 6, 7, 12].contains i = false := ct_up (qs := [2, 3, 4, 5, 6, 7, 8, 9, 12, 33]) rfl hi
    have u3 : [33].contains i = false := ct_up (qs := [2, 3, 4, 5, 6, 7, 8, 9, 12, 33]) rfl hi
    rw [fr_gi Tq.1 u1, fr_gi Qs.1 u1, fr_gi A.1 u2, fr_gi F1 u3]
  have i34 := I 34 rfl
  have i13 := I 13 rfl
  have b34 : gi b 221 34 = gi mr 221 34 := by rw [fr_gi A.1 rfl, fr_gi F1 rfl]
  have i33 : (gi e 221 33).toInt = 0 := by rw [fr_gi Tq.1 rfl, fr_gi Qs.1 rfl, fr_gi A.1 rfl]; exact c0
  rw [b34] at x1 y1
  have e3 : ga e 223 = (ga mr 223).set x.toNatClampNeg v := by rw [fr_ga Tq.1 (by decide) rfl, q3, fr_ga A.1 (by decide) rfl, fr_ga F1 (by decide) rfl]
  have e4 : ga e 224 = (ga mr 224).set y.toNatClampNeg w := by rw [fr_ga Tq.1 (by decide) rfl, q4, fr_ga A.1 (by decide) rfl, fr_ga F1 (by decide) rfl]
  have m3 : ga b 223 = ga mr 223 := by rw [fr_ga A.1 (by decide) rfl, fr_ga F1 (by decide) rfl]
  have m4 : ga b 224 = ga mr 224 := by rw [fr_ga A.1 (by decide) rfl, fr_ga F1 (by decide) rfl]
  rw [m3] at gl3
  rw [m4] at gl4
  have e6 : ga e 236 = ga a 236 := by rw [fr_ga Tq.1 (by decide) rfl, fr_ga Qs.1 (by decide) rfl, fr_ga A.1 (by decide) rfl]
  have e7 : ga e 237 = ga mr 237 := by rw [fr_ga Tq.1 (by decide) rfl, fr_ga Qs.1 (by decide) rfl, fr_ga A.1 (by decide) rfl, fr_ga F1 (by decide) rfl]
  have e8 : ga e 238 = ga mr 238 := by rw [fr_ga Tq.1 (by decide) rfl, fr_ga Qs.1 (by decide) rfl, fr_ga A.1 (by decide) rfl, fr_ga F1 (by decide) rfl]
  have t4 := Tq.2.1.1.1.1
  refine ⟨⟨fr_tr (fr_up F1 rfl rfl) (fr_tr (fr_up A.1 rfl rfl) (fr_tr (fr_up Qs.1 rfl rfl) (fr_up Tq.1 rfl rfl))), fun k hk => ?_, fun k hk u u0 u1 => ?_, fun i _ _ => by rw [e8]⟩, Tq.2.1, ?_, fun z => ?_⟩
  · rcases hk with rfl | rfl
    · rw [e3, gn_set x1 (by omega) (by omega) (by show 0 ≤ (gi mr 221 13).toInt; omega), if_neg (by show ¬ (gi mr 221 13).toInt = _; omega)]
    · rw [e4, gn_set y1 (by omega) (by omega) (by show 0 ≤ (gi mr 221 13).toInt; omega), if_neg (by show ¬ (gi mr 221 13).toInt = _; omega)]
  · rcases hk with rfl | rfl
    · rw [e6]; exact k6 u u0 u1
    · rw [e7]
  · show (gi e 221 34).toInt = 1 - (gi e 221 13).toInt
    rw [i34, i13]; exact hi
  · have z2 := qz (Tq.2.2.2 z).1
    refine ⟨?_, ⟨by omega, by omega⟩, fun u u0 u1 hn => ?_⟩
    · unfold szI
      rw [e3, e4, i34, gn_set x1 (by omega) (by omega) (by omega), gn_set y1 (by omega) (by omega) (by omega), if_pos rfl, if_pos rfl]
      exact z2
    · exfalso
      apply hn
      show gn (ga e 236) (3 * (gi e 221 34).toInt + u) = -1
      rw [e6, i34]
      exact n6 u u0 u1
def quP (mr : zM) (r : Option Value) (m : zM) : Prop := (∃ v : Int32, r = some (.int v)) ∧ aTm aT0 m ∧ (cdOK m ∧ szOK m) ∧ (∀ k, (k < 221 ∨ k = 222) → zat m k = zat mr k) ∧ gi m 221 1 = 0
def quH (mr : zM) : Prop := (cdOK mr ∧ szOK mr) ∧ (gi mr 221 8).toInt = 0 ∧ (gi mr 221 5).toInt = 0 ∧ (gi mr 221 34).toInt = 1 - (gi mr 221 13).toInt ∧ 0 ≤ (gi mr 221 13).toInt ∧ (gi mr 221 13).toInt ≤ 1 ∧ gi mr 221 1 = 0
set_option maxRecDepth 100000 in
theorem w_qu_198 {d : Nat} {mem : zM} {P : Option Value → zM → Prop} {k : Int32} {lo : List (Nat × Value)} (hm : aTm aT0 mem) (l_0 : zlg lo 0 = some (.ref 221)) (l_1 : zlg lo 1 = some (.int k)) (h1 : (gi mem 221 8).toInt ≤ 0 → ∀ (m2 : zM), aTm aT0 m2 → fr bgK bgF (si (si (si (si mem 221 10 (gi mem 221 8)) 221 11 (gi mem 221 9)) 221 13 (gi mem 221 34)) 221 46 1) m2 → aTm aT0 m2 → P (some (.int k)) m2) (h2 : 0 < (gi mem 221 8).toInt → ∀ (y4 : Int32), y4.toInt = (gn (ga mem 248) 1) → aTm aT0 (sx (si (si mem 221 10 (gi mem 221 8)) 221 11 (gi mem 221 9)) 248 1 (y4 + 1)) → P (some (.int (-1))) (sx (si (si mem 221 10 (gi mem 221 8)) 221 11 (gi mem 221 9)) 248 1 (y4 + 1))) : yR zpg tX12_quay (d + 11) (198, lo, [], mem) P := by
  obtain ⟨i0, i1⟩ := mO_r34 hm
  refine wR_la rfl l_0 ?_
  refine wR_la rfl l_0 ?_
  refine wR_gi rfl mO_e mO_8 hm rfl ?_
  refine wR_pi rfl mO_e mO_10 hm rfl ?_
  have hm_1 : aTm aT0 (si mem 221 10 (gi mem 221 8)) := tm_si mO_e mO_10 hm (i32_b _)
  refine wR_la rfl l_0 ?_
  refine wR_la rfl l_0 ?_
  refine wR_gi rfl mO_e mO_9 hm_1 (gi_sv_ne (by decide)) ?_
  refine wR_pi rfl mO_e mO_11 hm_1 rfl ?_
  have hm_2 : aTm aT0 (si (si mem 221 10 (gi mem 221 8)) 221 11 (gi mem 221 9)) := tm_si mO_e mO_11 hm_1 (i32_b _)
  refine wR_la rfl l_0 ?_
  refine wR_gi rfl mO_e mO_8 hm_2 ((gi_sv_ne (by decide)).trans (gi_sv_ne (by decide))) ?_
  refine wR_if_le rfl (a := (gi mem 221 8).toInt) rfl (fun q1 => ?_) (fun q1 => ?_)
  ·
    refine wR_la rfl l_0 ?_
    refine wR_la rfl l_0 ?_
    refine wR_gi rfl mO_e mO_34 hm_2 ((gi_sv_ne (by decide)).trans (gi_sv_ne (by decide))) ?_
    refine wR_pi rfl mO_e mO_13 hm_2 rfl ?_
    have hm_3 : aTm aT0 (si (si (si mem 221 10 (gi mem 221 8)) 221 11 (gi mem 221 9)) 221 13 (gi mem 221 34)) := tm_si mO_e mO_13 hm_2 (by omega)
    refine wR_la rfl l_0 ?_
    refine yR_m 1 (fun _ _ _ _ => rfl) ?_
    refine wR_pi rfl mO_e mO_46 hm_3 rfl ?_
    have hm_4 : aTm aT0 (si (si (si (si mem 221 10 (gi mem 221 8)) 221 11 (gi mem 221 9)) 221 13 (gi mem 221 34)) 221 46 1) := tm_si mO_e mO_46 hm_3 (by decide)
    refine wR_la rfl l_0 ?_
    refine wR_cv rfl rfl mO_e hm_4 rfl (h_begin_m hm_4 (by omega)) ?_
    rintro _ m2 ⟨rfl, hI2, k3⟩
    show yR zpg tX12_quay (d + 11) (244, lo, [], m2) _
    refine wR_li rfl l_1 ?_
    exact yR_ri rfl (h1 q1 m2 hI2 k3 hI2)
  ·
    refine wR_la rfl l_0 ?_
    refine yR_m 1 (fun _ _ _ _ => rfl) ?_
    refine wR_iv rfl rfl mO_e hm_2 rfl rfl rfl rfl ?_
    show yR zpg tX12_refuses (d + 10) (0, [(0, .ref 221), (1, .int 1)], [], (si (si mem 221 10 (gi mem 221 8)) 221 11 (gi mem 221 9))) _
    refine yR_m 1 (fun _ _ _ _ => rfl) ?_
    refine wR_gr rfl mO_e mO_47 hm_2 ?_
    refine yR_m 2 (fun _ _ _ _ => rfl) ?_
    refine wN_al (a := 1) rfl aR_248 hm_2 ((ga_sv).trans (ga_sv)) rfl (by decide) (fun y4 e5 => ?_)
    refine yR_m 2 (fun _ _ _ _ => rfl) ?_
    refine wN_as (a := 1) rfl aR_248 hm_2 rfl (by decide) ?_
    have hm_5 : aTm aT0 (sx (si (si mem 221 10 (gi mem 221 8)) 221 11 (gi mem 221 9)) 248 1 (y4 + 1)) := tm_sa aR_248 hm_2 (i32_b _)
    refine yR_m 1 (fun _ _ _ _ => rfl) ?_
    refine yR_ri rfl ?_
    show yR zpg tX12_quay (d + 11) (226, lo, [.int (-1)], (sx (si (si mem 221 10 (gi mem 221 8)) 221 11 (gi mem 221 9)) 248 1 (y4 + 1))) _
    exact yR_ri rfl (h2 q1 y4 e5 hm_5)

theorem qu_198 {k : Int32} {lo : List (Nat × Value)} (hm : aTm aT0 mem) (H : quH mr) (h : SI mr mem) (a0 : zlg lo 0 = some (.ref 221)) (a1 : zlg lo 1 = some (.int k)) : yR zpg tX12_quay (d + 11) (198, lo, [], mem) (quP mr) := by
  have T8 : 0 ≤ (gi mem 221 8).toInt := h.2.1.2
  have r4 := mO_r4 hm
  exact w_qu_198 hm a0 a1
        (fun q1 m2 hI2 k3 hm2 => by
          have z : (gi mem 221 8).toInt = 0 := by omega
          have S := h.2.2.2 z
          have eb : gi m2 221 13 = gi mem 221 34 := (fr_gi k3 rfl).trans ((gi_sv_ne (by decide)).trans (gi_eqO (isO_sv (isO_sv (isO_of hm))) (by decide)))
          have FX : fr [] [10, 11, 13, 46] mem (si (si (si (si mem 221 10 (gi mem 221 8)) 221 11 (gi mem 221 9)) 221 13 (gi mem 221 34)) 221 46 1) := fr_sv rfl (fr_sv rfl (fr_sv rfl (fr_sv rfl (fr_rf))))
          exact ⟨⟨_, rfl⟩, hm2, ⟨SI_Em h z (by omega) eb ((fr_ga k3 (by decide) rfl).trans ((ga_sv).trans ((ga_sv).trans ((ga_sv).trans (ga_sv))))) ((fr_ga k3 (by decide) rfl).trans ((ga_sv).trans ((ga_sv).trans ((ga_sv).trans (ga_sv))))) ((fr_ga k3 (by decide) rfl).trans ((ga_sv).trans ((ga_sv).trans ((ga_sv).trans (ga_sv))))) ((fr_ga k3 (by decide) rfl).trans ((ga_sv).trans ((ga_sv).trans ((ga_sv).trans (ga_sv))))) ((fr_ga k3 (by decide) rfl).trans ((ga_sv).trans ((ga_sv).trans ((ga_sv).trans (ga_sv))))) (mO_r34 hm), szE S.1 eb ((fr_ga k3 (by decide) rfl).trans ((ga_sv).trans ((ga_sv).trans ((ga_sv).trans (ga_sv))))) ((fr_ga k3 (by decide) rfl).trans ((ga_sv).trans ((ga_sv).trans ((ga_sv).trans (ga_sv)))))⟩, fun q hq => (cl_fr rfl k3 q hq).trans ((cl_fr rfl FX q hq).trans (cl_fr rfl h.1.1 q hq)), by rw [fr_gi k3 rfl, fr_gi FX rfl, fr_gi h.1.1 rfl]; exact H.2.2.2.2.2.2⟩)
        (fun q1 y4 e5 hm2 => by
          have FX : fr [248] [10, 11] mem (sx (si (si mem 221 10 (gi mem 221 8)) 221 11 (gi mem 221 9)) 248 1 (y4 + 1)) := fr_sa rfl (fr_sv rfl (fr_sv rfl (fr_rf)))
          exact ⟨⟨_, rfl⟩, hm2, Em_fr FX rfl rfl rfl rfl rfl rfl (Em_old h.1 H.1 ⟨H.2.2.2.2.1, H.2.2.2.2.2.1⟩), fun q hq => (cl_fr rfl FX q hq).trans (cl_fr rfl h.1.1 q hq), by rw [fr_gi FX rfl, fr_gi h.1.1 rfl]; exact H.2.2.2.2.2.2⟩)
set_option maxRecDepth 100000 in
theorem w_qu_169 {d : Nat} {mem : zM} {P : Option Value → zM → Prop} {mr : zM} {k : Int32} {lo : List (Nat × Value)} (hm : aTm aT0 mem) (l_0 : zlg lo 0 = some (.ref 221)) (l_1 : zlg lo 1 = some (.int k)) (h : SI mr mem) (h1 : ¬ (gi mem 221 8).toInt = 0 → ∀ lo, zlg lo 0 = some (.ref 221) → zlg lo 1 = some (.int k) → aTm aT0 mem → yR zpg tX12_quay (d + 11) (198, lo, [], mem) P) (h2 : (gi mem 221 8).toInt = 0 → (gi mem 221 3).toInt = 0 → ∀ lo, zlg lo 0 = some (.ref 221) → zlg lo 1 = some (.int k) → aTm aT0 mem → yR zpg tX12_quay (d + 11) (198, lo, [], mem) P) (s1 : (gi mem 221 8).toInt = 0 → ¬ (gi mem 221 3).toInt = 0 → ∀ (m3 : zM), aTm aT0 m3 → (SI mr m3 ∧ ((gi m3 221 8).toInt = 0 → (gi mem 221 4).toInt ≤ (gi m3 221 4).toInt)) → tOK m3) (h3 : (gi mem 221 8).toInt = 0 → ¬ (gi mem 221 3).toInt = 0 → ∀ (m3 : zM), aTm aT0 m3 → (SI mr m3 ∧ ((gi m3 221 8).toInt = 0 → (gi mem 221 4).toInt ≤ (gi m3 221 4).toInt)) → ∀ (m8 : zM), aTm aT0 m8 → tQ m3 m8 → ∀ lo, zlg lo 0 = some (.ref 221) → zlg lo 1 = some (.int (k + 1)) → aTm aT0 m8 → yR zpg tX12_quay (d + 11) (169, lo, [], m8) P) : yR zpg tX12_quay (d + 11) (169, lo, [], mem) P := by
  refine wR_la rfl l_0 ?_
  refine wR_gi rfl mO_e mO_8 hm rfl ?_
  refine wR_if_ne rfl (a := (gi mem 221 8).toInt) rfl (fun q1 => ?_) (fun q1 => ?_)
  ·
    exact h1 q1 lo l_0 l_1 hm
  ·
    refine wR_la rfl l_0 ?_
    refine wR_gi rfl mO_e mO_3 hm rfl ?_
    refine wR_if_eq rfl (a := (gi mem 221 3).toInt) rfl (fun q2 => ?_) (fun q2 => ?_)
    ·
      exact h2 q1 q2 lo l_0 l_1 hm
    ·
      refine wR_la rfl l_0 ?_
      refine wR_cv rfl rfl mO_e hm rfl (h_statement5 hm h (by omega) (by omega) (by omega)) ?_
      rintro _ m3 ⟨rfl, hI3, k4⟩
      show yR zpg tX12_quay (d + 11) (187, lo, [], m3) _
      refine wR_in rfl rfl l_1 (fun lo5 e6 f7 => ?_)
      have lo5_0 := f7 0 _ (by decide) (Or.inl rfl) l_0
      refine wR_la rfl lo5_0 ?_
      refine wR_li rfl e6 ?_
      refine wR_cv rfl rfl mO_e hI3 rfl (h_finishes hI3 (s1 q1 q2 m3 hI3 k4) (by omega)) ?_
      rintro _ m8 ⟨rfl, hI8, k9⟩
      show yR zpg tX12_quay (d + 11) (195, lo5, [], m8) _
      exact yR_m 1 (fun _ _ _ _ => rfl) (h3 q1 q2 m3 hI3 k4 m8 hI8 k9 lo5 lo5_0 e6 hI8)

theorem qu_loop (H : quH mr) : ∀ (f : Nat) (mem : zM) (k : Int32) (lo : List (Nat × Value)), ((gi mem 221 8).toInt = 0 → 1600 < (gi mem 221 4).toInt + (f : Int)) → aTm aT0 mem → SI mr mem → zlg lo 0 = some (.ref 221) → zlg lo 1 = some (.int k) → yR zpg tX12_quay (d + 11) (169, lo, [], mem) (quP mr) := by
  intro f
  induction f with
  | zero =>
    intro mem k lo hf hm h a0 a1
    have r4 := mO_r4 hm
    exact w_qu_169 (mr := mr) hm a0 a1 h
        (fun q1 lo a0 a1 hm => qu_198 hm H h a0 a1)
        (fun q1 q2 lo a0 a1 hm => qu_198 hm H h a0 a1)
        (fun q1 q2 m3 hI3 k4 => k4.1.2.1)
        (fun q1 q2 m3 hI3 k4 m8 hI8 k9 lo a0 a1 hm => by exfalso; omega)
  | succ f ih =>
    intro mem k lo hf hm h a0 a1
    exact w_qu_169 (mr := mr) hm a0 a1 h
        (fun q1 lo a0 a1 hm => qu_198 hm H h a0 a1)
        (fun q1 q2 lo a0 a1 hm => qu_198 hm H h a0 a1)
        (fun q1 q2 m3 hI3 k4 => k4.1.2.1)
        (fun q1 q2 m3 hI3 k4 m8 hI8 k9 lo a0 a1 hm2 => ih _ _ lo (fun z => by
          have u := k9.2.2.2 z
          have w := k4.2 u.1
          have z0 : (gi mem 221 8).toInt = 0 := by omega
          have v := hf z0
          omega) hm2 (SI_t k4.1 k9) a0 a1)
set_option maxRecDepth 100000 in
theorem w_qu_149 {d : Nat} {mem : zM} {P : Option Value → zM → Prop} {lo : List (Nat × Value)} (hm : aTm aT0 mem) (l_0 : zlg lo 0 = some (.ref 221)) (h5 : (gi mem 221 5).toInt ≤ (gi mem 221 2).toInt) (s1 : ∀ (m4 : zM), aTm aT0 m4 → ahQ (si mem 221 33 0) m4 → tOK m4) (s2 : ∀ (m4 : zM), aTm aT0 m4 → ahQ (si mem 221 33 0) m4 → ∀ (m6 : zM), aTm aT0 m6 → (stQ [223, 224] m4 m6 ∧ quE m4 m6) → tOK m6) (h1 : ∀ (m4 : zM), aTm aT0 m4 → ahQ (si mem 221 33 0) m4 → ∀ (m6 : zM), aTm aT0 m6 → (stQ [223, 224] m4 m6 ∧ quE m4 m6) → ∀ (m8 : zM), aTm aT0 m8 → tQ m6 m8 → ∀ lo, zlg lo 0 = some (.ref 221) → zlg lo 1 = some (.int 1) → aTm aT0 m8 → yR zpg tX12_quay (d + 11) (169, lo, [], m8) P) : yR zpg tX12_quay (d + 11) (149, lo, [], mem) P := by
  refine wR_la rfl l_0 ?_
  refine yR_m 1 (fun _ _ _ _ => rfl) ?_
  refine wR_pi rfl mO_e mO_33 hm rfl ?_
  have hm_1 : aTm aT0 (si mem 221 33 0) := tm_si mO_e mO_33 hm (i32_b _)
  refine yR_m 1 (fun _ _ _ _ => rfl) ?_
  refine wR_si rfl rfl (fun lo1 e2 f3 => ?_)
  have lo1_0 := f3 0 _ (by decide) (Or.inl rfl) l_0
  refine wR_la rfl lo1_0 ?_
  refine wR_cv rfl rfl mO_e hm_1 rfl (h_ahead2 (by omega) hm_1 (gi_sv_ne (by decide)) (gi_sv_ne (by decide)) (by omega)) ?_
  rintro _ m4 ⟨rfl, hI4, k5⟩
  show yR zpg tX12_quay (d + 11) (160, lo1, [], m4) _
  refine wR_la rfl lo1_0 ?_
  refine wR_cv rfl rfl mO_e hI4 rfl (h_quaying5 hI4 (s1 m4 hI4 k5) (by omega)) ?_
  rintro _ m6 ⟨rfl, hI6, k7⟩
  show yR zpg tX12_quay (d + 11) (164, lo1, [], m6) _
  refine wR_la rfl lo1_0 ?_
  refine wR_li rfl e2 ?_
  refine wR_cv rfl rfl mO_e hI6 rfl (h_finishes hI6 (s2 m4 hI4 k5 m6 hI6 k7) (by omega)) ?_
  rintro _ m8 ⟨rfl, hI8, k9⟩
  show yR zpg tX12_quay (d + 11) (169, lo1, [], m8) _
  exact h1 m4 hI4 k5 m6 hI6 k7 m8 hI8 k9 lo1 lo1_0 e2 hI8

theorem qu_149 {lo : List (Nat × Value)} (hm : aTm aT0 mem) (H : quH mr) (hf : fr [227, 236] [] mr mem) (k6 : ∀ w, 0 ≤ w → w < 3 → gn (ga mem 236) (3 * (gi mr 221 13).toInt + w) = gn (ga mr 236) (3 * (gi mr 221 13).toInt + w)) (n6 : ∀ w, 0 ≤ w → w < 3 → gn (ga mem 236) (3 * (gi mr 221 34).toInt + w) = -1) (a0 : zlg lo 0 = some (.ref 221)) : yR zpg tX12_quay (d + 11) (149, lo, [], mem) (quP mr) := by
  have h0 := H
  obtain ⟨-, h8, h5, hi, rb1, rb2, -⟩ := H
  have rb := And.intro rb1 rb2
  have m8 : (gi mem 221 8).toInt = 0 := by rw [fr_gi hf rfl]; exact h8
  have m5 : (gi mem 221 5).toInt = 0 := by rw [fr_gi hf rfl]; exact h5
  have r2 := mO_r2 hm
  exact w_qu_149 hm a0 (by omega)
        (fun m4 hI4 k5 => ⟨k5.2.1, by show 0 ≤ (gi m4 221 8).toInt; rw [fr_gi k5.1 rfl, gi_sv_ne (by decide)]; omega⟩)
        (fun m4 hI4 k5 m6 hI6 k7 => k7.1.2.1)
        (fun m4 hI4 k5 m6 hI6 k7 m8 hI8 k9 lo a0 a1 hm2 => by
          have F1 : fr [227, 236] [33] mr (si mem 221 33 0) := fr_sv rfl (fr_up hf rfl rfl)
          have r4 := mO_r4 hm2
          have e6 : ga (si mem 221 33 0) 236 = ga mem 236 := ga_sv
          exact qu_loop h0 1601 _ 1 lo (fun _ => by omega) hm2 (SI_go F1 (by rw [gi_eqO (isO_of hm) (by decide)]; rfl) hi rb (by rw [e6]; exact k6) (by rw [e6]; exact n6) k5 k7.1 k7.2 k9 hI4) a0 a1)
set_option maxRecDepth 100000 in
theorem w_qu_124 {d : Nat} {mem : zM} {P : Option Value → zM → Prop} {k : Int32} {lo : List (Nat × Value)} (hm : aTm aT0 mem) (l_0 : zlg lo 0 = some (.ref 221)) (l_1 : zlg lo 1 = some (.int k)) (hk : 3 * (gi mem 221 34).toInt ≤ k.toInt ∧ k.toInt ≤ 3 * (gi mem 221 34).toInt + 3) (h1 : ∀ (x1 : Int32), x1.toInt = (3 * (gi mem 221 34).toInt) → ∀ (x3 : Int32), x3.toInt = ((3 * (gi mem 221 34).toInt) + 3) → ((3 * (gi mem 221 34).toInt) + 3) ≤ (k).toInt → ∀ lo, zlg lo 0 = some (.ref 221) → aTm aT0 mem → yR zpg tX12_quay (d + 11) (149, lo, [], mem) P) (h2 : ∀ (x1 : Int32), x1.toInt = (3 * (gi mem 221 34).toInt) → ∀ (x3 : Int32), x3.toInt = ((3 * (gi mem 221 34).toInt) + 3) → (k).toInt < ((3 * (gi mem 221 34).toInt) + 3) → ∀ (x6 : Int32), x6.toInt = ((k).toInt + 1) → ∀ lo, zlg lo 0 = some (.ref 221) → zlg lo 1 = some (.int x6) → aTm aT0 (sx mem 236 k (-1)) → yR zpg tX12_quay (d + 11) (124, lo, [], (sx mem 236 k (-1))) P) : yR zpg tX12_quay (d + 11) (124, lo, [], mem) P := by
  obtain ⟨i0, i1⟩ := mO_r34 hm
  refine wR_li rfl l_1 ?_
  refine yR_m 1 (fun _ _ _ _ => rfl) ?_
  refine wR_la rfl l_0 ?_
  refine wR_gi rfl mO_e mO_34 hm rfl ?_
  refine wN_mul (a := 3) (b := (gi mem 221 34).toInt) rfl rfl rfl (by omega) (fun x1 e2 => ?_)
  refine yR_m 1 (fun _ _ _ _ => rfl) ?_
  refine wN_add (a := (3 * (gi mem 221 34).toInt)) (b := 3) rfl e2 rfl (by omega) (fun x3 e4 => ?_)
  refine wR_ic_ge rfl (a := (k).toInt) (c := ((3 * (gi mem 221 34).toInt) + 3)) rfl e4 (fun q5 => ?_) (fun q5 => ?_)
  ·
    exact h1 x1 e2 x3 e4 q5 lo l_0 hm
  ·
    refine wR_la rfl l_0 ?_
    refine wR_gr rfl mO_e mO_27 hm ?_
    refine wR_li rfl l_1 ?_
    refine yR_m 1 (fun _ _ _ _ => rfl) ?_
    refine wN_as (a := (k).toInt) rfl aR_236 hm rfl (by omega) ?_
    have hm_1 : aTm aT0 (sx mem 236 k (-1)) := tm_sa aR_236 hm (i32_b _)
    refine wN_in (a := (k).toInt) (b := 1) rfl rfl l_1 rfl rfl (by omega) (fun x6 e7 => fun lo8 e9 f10 => ?_)
    have lo8_0 := f10 0 _ (by decide) (Or.inl rfl) l_0
    exact yR_m 1 (fun _ _ _ _ => rfl) (h2 x1 e2 x3 e4 q5 x6 e7 lo8 lo8_0 e9 hm_1)

theorem qu_124 (H : quH mr) : ∀ (f : Nat) (mem : zM) (k : Int32) (lo : List (Nat × Value)), k.toInt + (f : Int) = 3 * (gi mr 221 34).toInt + 3 → 3 * (gi mr 221 34).toInt ≤ k.toInt → aTm aT0 mem → fr [227, 236] [] mr mem → (∀ w, 0 ≤ w → w < 3 → gn (ga mem 236) (3 * (gi mr 221 13).toInt + w) = gn (ga mr 236) (3 * (gi mr 221 13).toInt + w)) → (∀ w, 0 ≤ w → 3 * (gi mr 221 34).toInt + w < k.toInt → gn (ga mem 236) (3 * (gi mr 221 34).toInt + w) = -1) → zlg lo 0 = some (.ref 221) → zlg lo 1 = some (.int k) → yR zpg tX12_quay (d + 11) (124, lo, [], mem) (quP mr) := by
  obtain ⟨-, -, -, hi, rb1, rb2, -⟩ := id H
  have rb := And.intro rb1 rb2
  intro f
  induction f with
  | zero =>
    intro mem k lo hk h0 hm hf k6 n6 a0 a1
    have e34 : gi mem 221 34 = gi mr 221 34 := fr_gi hf rfl
    have e34i : (gi mem 221 34).toInt = (gi mr 221 34).toInt := by rw [e34]
    exact w_qu_124 hm a0 a1 (by rw [e34]; omega)
        (fun x1 e2 x3 e4 q5 lo a0 hm => qu_149 hm H hf k6 (fun w w0 w1 => n6 w w0 (by omega)) a0)
        (fun x1 e2 x3 e4 q5 x6 e7 lo a0 a1 hm => by exfalso; omega)
  | succ f ih =>
    intro mem k lo hk h0 hm hf k6 n6 a0 a1
    have e34 : gi mem 221 34 = gi mr 221 34 := fr_gi hf rfl
    have e34i : (gi mem 221 34).toInt = (gi mr 221 34).toInt := by rw [e34]
    have gl6 := gl_236 hm
    exact w_qu_124 hm a0 a1 (by rw [e34]; omega)
        (fun x1 e2 x3 e4 q5 lo a0 hm => qu_149 hm H hf k6 (fun w w0 w1 => n6 w w0 (by omega)) a0)
        (fun x1 e2 x3 e4 q5 x6 e7 lo a0 a1 hm2 => ih _ _ lo (by omega) (by omega) hm2 (fr_sa rfl (hf)) (fun w w0 w1 => by rw [ga_sa_eq, gn_set (a := k.toInt) rfl (by omega) (by omega) (by omega), if_neg (by omega)]; exact k6 w w0 w1) (fun w w0 w1 => by
          rw [ga_sa_eq, gn_set (a := k.toInt) rfl (by omega) (by omega) (by omega)]
          by_cases q : 3 * (gi mr 221 34).toInt + w = k.toInt
          · rw [if_pos q]; rfl
          · rw [if_neg q]; exact n6 w w0 (by omega)) a0 a1)
set_option maxRecDepth 100000 in
theorem w_qu_90 {d : Nat} {mem : zM} {P : Option Value → zM → Prop} {k : Int32} {lo : List (Nat × Value)} (hm : aTm aT0 mem) (l_0 : zlg lo 0 = some (.ref 221)) (l_1 : zlg lo 1 = some (.int k)) (hk : 0 ≤ k.toInt ∧ k.toInt ≤ 64) (h1 : 64 ≤ (k).toInt → ∀ (x2 : Int32), x2.toInt = (3 * (gi mem 221 34).toInt) → ∀ lo, zlg lo 0 = some (.ref 221) → zlg lo 1 = some (.int x2) → aTm aT0 mem → yR zpg tX12_quay (d + 11) (124, lo, [], mem) P) (h2 : (k).toInt < 64 → ∀ (x7 : Int32), x7.toInt = (64 * (gi mem 221 34).toInt) → ∀ (x9 : Int32), x9.toInt = ((64 * (gi mem 221 34).toInt) + (k).toInt) → ∀ (x11 : Int32), x11.toInt = ((k).toInt + 1) → ∀ lo, zlg lo 0 = some (.ref 221) → zlg lo 1 = some (.int x11) → aTm aT0 (sx mem 227 x9 0) → yR zpg tX12_quay (d + 11) (90, lo, [], (sx mem 227 x9 0)) P) : yR zpg tX12_quay (d + 11) (90, lo, [], mem) P := by
  obtain ⟨i0, i1⟩ := mO_r34 hm
  refine wR_li rfl l_1 ?_
  refine yR_m 1 (fun _ _ _ _ => rfl) ?_
  refine wR_ic_ge rfl (a := (k).toInt) (c := 64) rfl rfl (fun q1 => ?_) (fun q1 => ?_)
  ·
    refine yR_m 1 (fun _ _ _ _ => rfl) ?_
    refine wR_la rfl l_0 ?_
    refine wR_gi rfl mO_e mO_34 hm rfl ?_
    refine wN_mul (a := 3) (b := (gi mem 221 34).toInt) rfl rfl rfl (by omega) (fun x2 e3 => ?_)
    refine wR_si rfl rfl (fun lo4 e5 f6 => ?_)
    have lo4_0 := f6 0 _ (by decide) (Or.inl rfl) l_0
    exact h1 q1 x2 e3 lo4 lo4_0 e5 hm
  ·
    refine wR_la rfl l_0 ?_
    refine wR_gr rfl mO_e mO_18 hm ?_
    refine yR_m 1 (fun _ _ _ _ => rfl) ?_
    refine wR_la rfl l_0 ?_
    refine wR_gi rfl mO_e mO_34 hm rfl ?_
    refine wN_mul (a := 64) (b := (gi mem 221 34).toInt) rfl rfl rfl (by omega) (fun x7 e8 => ?_)
    refine wR_li rfl l_1 ?_
    refine wN_add (a := (64 * (gi mem 221 34).toInt)) (b := (k).toInt) rfl e8 rfl (by omega) (fun x9 e10 => ?_)
    refine yR_m 1 (fun _ _ _ _ => rfl) ?_
    refine wN_as (a := ((64 * (gi mem 221 34).toInt) + (k).toInt)) rfl aR_227 hm e10 (by omega) ?_
    have hm_1 : aTm aT0 (sx mem 227 x9 0) := tm_sa aR_227 hm (by decide)
    refine wN_in (a := (k).toInt) (b := 1) rfl rfl l_1 rfl rfl (by omega) (fun x11 e12 => fun lo13 e14 f15 => ?_)
    have lo13_0 := f15 0 _ (by decide) (Or.inl rfl) l_0
    exact yR_m 1 (fun _ _ _ _ => rfl) (h2 q1 x7 e8 x9 e10 x11 e12 lo13 lo13_0 e14 hm_1)

theorem qu_90 (H : quH mr) : ∀ (f : Nat) (mem : zM) (k : Int32) (lo : List (Nat × Value)), k.toInt + (f : Int) = 64 → 0 ≤ k.toInt → aTm aT0 mem → fr [227] [] mr mem → zlg lo 0 = some (.ref 221) → zlg lo 1 = some (.int k) → yR zpg tX12_quay (d + 11) (90, lo, [], mem) (quP mr) := by
  intro f
  induction f with
  | zero =>
    intro mem k lo hk h0 hm hf a0 a1
    have e34 : gi mem 221 34 = gi mr 221 34 := fr_gi hf rfl
    have e34i : (gi mem 221 34).toInt = (gi mr 221 34).toInt := by rw [e34]
    exact w_qu_90 hm a0 a1 ⟨h0, by omega⟩
        (fun q1 x2 e3 lo a0 a1 hm => qu_124 H 3 _ _ lo (by omega) (by omega) hm (fr_up hf rfl rfl) (fun w _ _ => by rw [fr_ga hf (by decide) rfl]) (fun w w0 w1 => by exfalso; omega) a0 a1)
        (fun q1 x7 e8 x9 e10 x11 e12 lo a0 a1 hm => by exfalso; omega)
  | succ f ih =>
    intro mem k lo hk h0 hm hf a0 a1
    have e34 : gi mem 221 34 = gi mr 221 34 := fr_gi hf rfl
    have e34i : (gi mem 221 34).toInt = (gi mr 221 34).toInt := by rw [e34]
    exact w_qu_90 hm a0 a1 ⟨h0, by omega⟩
        (fun q1 x2 e3 lo a0 a1 hm => qu_124 H 3 _ _ lo (by omega) (by omega) hm (fr_up hf rfl rfl) (fun w _ _ => by rw [fr_ga hf (by decide) rfl]) (fun w w0 w1 => by exfalso; omega) a0 a1)
        (fun q1 x7 e8 x9 e10 x11 e12 lo a0 a1 hm => ih _ _ lo (by omega) (by omega) hm (fr_sa rfl (hf)) a0 a1)
set_option maxRecDepth 100000 in
theorem w_qu_0 {d : Nat} {mem : zM} {P : Option Value → zM → Prop} {lo : List (Nat × Value)} (hm : aTm aT0 mem) (l_0 : zlg lo 0 = some (.ref 221)) (h1 : ∀ (x1 : Int32), x1.toInt = (1 - (gi mem 221 13).toInt) → ∀ lo, zlg lo 0 = some (.ref 221) → zlg lo 1 = some (.int 0) → aTm aT0 (sx (sx (sx (sx (sx (si (si (si (si (si (si mem 221 2 (gi mem 221 1)) 221 1 0) 221 5 0) 221 8 0) 221 9 (-1)) 221 34 x1) 225 x1 3) 226 x1 0) 228 x1 0) 232 x1 0) 233 x1 0) → yR zpg tX12_quay (d + 11) (90, lo, [], (sx (sx (sx (sx (sx (si (si (si (si (si (si mem 221 2 (gi mem 221 1)) 221 1 0) 221 5 0) 221 8 0) 221 9 (-1)) 221 34 x1) 225 x1 3) 226 x1 0) 228 x1 0) 232 x1 0) 233 x1 0)) P) : yR zpg tX12_quay (d + 11) (0, lo, [], mem) P := by
  obtain ⟨i0, i1⟩ := mO_r13 hm
  have sz := mO_r1 hm
  refine wR_la rfl l_0 ?_
  refine wR_la rfl l_0 ?_
  refine wR_gi rfl mO_e mO_1 hm rfl ?_
  refine wR_pi rfl mO_e mO_2 hm rfl ?_
  have hm_1 : aTm aT0 (si mem 221 2 (gi mem 221 1)) := tm_si mO_e mO_2 hm (by omega)
  refine wR_la rfl l_0 ?_
  refine yR_m 1 (fun _ _ _ _ => rfl) ?_
  refine wR_pi rfl mO_e mO_1 hm_1 rfl ?_
  have hm_2 : aTm aT0 (si (si mem 221 2 (gi mem 221 1)) 221 1 0) := tm_si mO_e mO_1 hm_1 (by decide)
  refine wR_la rfl l_0 ?_
  refine yR_m 1 (fun _ _ _ _ => rfl) ?_
  refine wR_pi rfl mO_e mO_5 hm_2 rfl ?_
  have hm_3 : aTm aT0 (si (si (si mem 221 2 (gi mem 221 1)) 221 1 0) 221 5 0) := tm_si mO_e mO_5 hm_2 (by decide)
  refine wR_la rfl l_0 ?_
  refine yR_m 1 (fun _ _ _ _ => rfl) ?_
  refine wR_pi rfl mO_e mO_8 hm_3 rfl ?_
  have hm_4 : aTm aT0 (si (si (si (si mem 221 2 (gi mem 221 1)) 221 1 0) 221 5 0) 221 8 0) := tm_si mO_e mO_8 hm_3 (i32_b _)
  refine wR_la rfl l_0 ?_
  refine yR_m 1 (fun _ _ _ _ => rfl) ?_
  refine wR_pi rfl mO_e mO_9 hm_4 rfl ?_
  have hm_5 : aTm aT0 (si (si (si (si (si mem 221 2 (gi mem 221 1)) 221 1 0) 221 5 0) 221 8 0) 221 9 (-1)) := tm_si mO_e mO_9 hm_4 (i32_b _)
  refine wR_la rfl l_0 ?_
  refine yR_m 1 (fun _ _ _ _ => rfl) ?_
  refine wR_la rfl l_0 ?_
  refine wR_gi rfl mO_e mO_13 hm_5 ((gi_sv_ne (by decide)).trans ((gi_sv_ne (by decide)).trans ((gi_sv_ne (by decide)).trans ((gi_sv_ne (by decide)).trans (gi_sv_ne (by decide)))))) ?_
  refine wN_sub (a := 1) (b := (gi mem 221 13).toInt) rfl rfl rfl (by omega) (fun x1 e2 => ?_)
  refine wR_pi rfl mO_e mO_34 hm_5 rfl ?_
  have hm_6 : aTm aT0 (si (si (si (si (si (si mem 221 2 (gi mem 221 1)) 221 1 0) 221 5 0) 221 8 0) 221 9 (-1)) 221 34 x1) := tm_si mO_e mO_34 hm_5 (by rw [e2]; exact (by omega))
  refine wR_la rfl l_0 ?_
  refine wR_gr rfl mO_e mO_16 hm_6 ?_
  refine wR_la rfl l_0 ?_
  refine wR_gi rfl mO_e mO_34 hm_6 (gi_si_eq mO_e mO_34 hm_5) ?_
  refine yR_m 1 (fun _ _ _ _ => rfl) ?_
  refine wN_as (a := (1 - (gi mem 221 13).toInt)) rfl aR_225 hm_6 e2 (by omega) ?_
  have hm_7 : aTm aT0 (sx (si (si (si (si (si (si mem 221 2 (gi mem 221 1)) 221 1 0) 221 5 0) 221 8 0) 221 9 (-1)) 221 34 x1) 225 x1 3) := tm_sa aR_225 hm_6 (i32_b _)
  refine wR_la rfl l_0 ?_
  refine wR_gr rfl mO_e mO_17 hm_7 ?_
  refine wR_la rfl l_0 ?_
  refine wR_gi rfl mO_e mO_34 hm_7 ((gi_sa).trans (gi_si_eq mO_e mO_34 hm_5)) ?_
  refine yR_m 1 (fun _ _ _ _ => rfl) ?_
  refine wN_as (a := (1 - (gi mem 221 13).toInt)) rfl aR_226 hm_7 e2 (by omega) ?_
  have hm_8 : aTm aT0 (sx (sx (si (si (si (si (si (si mem 221 2 (gi mem 221 1)) 221 1 0) 221 5 0) 221 8 0) 221 9 (-1)) 221 34 x1) 225 x1 3) 226 x1 0) := tm_sa aR_226 hm_7 (i32_b _)
  refine wR_la rfl l_0 ?_
  refine wR_gr rfl mO_e mO_19 hm_8 ?_
  refine wR_la rfl l_0 ?_
  refine wR_gi rfl mO_e mO_34 hm_8 ((gi_sa).trans ((gi_sa).trans (gi_si_eq mO_e mO_34 hm_5))) ?_
  refine yR_m 1 (fun _ _ _ _ => rfl) ?_
  refine wN_as (a := (1 - (gi mem 221 13).toInt)) rfl aR_228 hm_8 e2 (by omega) ?_
  have hm_9 : aTm aT0 (sx (sx (sx (si (si (si (si (si (si mem 221 2 (gi mem 221 1)) 221 1 0) 221 5 0) 221 8 0) 221 9 (-1)) 221 34 x1) 225 x1 3) 226 x1 0) 228 x1 0) := tm_sa aR_228 hm_8 (by decide)
  refine wR_la rfl l_0 ?_
  refine wR_gr rfl mO_e mO_23 hm_9 ?_
  refine wR_la rfl l_0 ?_
  refine wR_gi rfl mO_e mO_34 hm_9 ((gi_sa).trans ((gi_sa).trans ((gi_sa).trans (gi_si_eq mO_e mO_34 hm_5)))) ?_
  refine yR_m 1 (fun _ _ _ _ => rfl) ?_
  refine wN_as (a := (1 - (gi mem 221 13).toInt)) rfl aR_232 hm_9 e2 (by omega) ?_
  have hm_10 : aTm aT0 (sx (sx (sx (sx (si (si (si (si (si (si mem 221 2 (gi mem 221 1)) 221 1 0) 221 5 0) 221 8 0) 221 9 (-1)) 221 34 x1) 225 x1 3) 226 x1 0) 228 x1 0) 232 x1 0) := tm_sa aR_232 hm_9 (by decide)
  refine wR_la rfl l_0 ?_
  refine wR_gr rfl mO_e mO_24 hm_10 ?_
  refine wR_la rfl l_0 ?_
  refine wR_gi rfl mO_e mO_34 hm_10 ((gi_sa).trans ((gi_sa).trans ((gi_sa).trans ((gi_sa).trans (gi_si_eq mO_e mO_34 hm_5))))) ?_
  refine yR_m 1 (fun _ _ _ _ => rfl) ?_
  refine wN_as (a := (1 - (gi mem 221 13).toInt)) rfl aR_233 hm_10 e2 (by omega) ?_
  have hm_11 : aTm aT0 (sx (sx (sx (sx (sx (si (si (si (si (si (si mem 221 2 (gi mem 221 1)) 221 1 0) 221 5 0) 221 8 0) 221 9 (-1)) 221 34 x1) 225 x1 3) 226 x1 0) 228 x1 0) 232 x1 0) 233 x1 0) := tm_sa aR_233 hm_10 (by decide)
  refine yR_m 1 (fun _ _ _ _ => rfl) ?_
  refine wR_si rfl rfl (fun lo3 e4 f5 => ?_)
  have lo3_0 := f5 0 _ (by decide) (Or.inl rfl) l_0
  exact h1 x1 e2 lo3 lo3_0 e4 hm_11

theorem h_quay_m (hm : aTm aT0 mem) (hE : cdOK mem ∧ szOK mem) (hd : 12 ≤ d) : yC zpg d 206 [.ref 221] mem (quP mem) := by
  obtain ⟨d, rfl⟩ : ∃ q, d = q + 12 := ⟨d - 12, by omega⟩
  have rb := mO_r13 hm
  refine yC_of (t := tX12_quay) rfl rfl ?_
  exact w_qu_0 hm rfl
        (fun x1 e2 lo a0 a1 hm2 => by
          have FX : fr [225, 226, 228, 232, 233] [1, 2, 5, 8, 9, 34] mem (sx (sx (sx (sx (sx (si (si (si (si (si (si mem 221 2 (gi mem 221 1)) 221 1 0) 221 5 0) 221 8 0) 221 9 (-1)) 221 34 x1) 225 x1 3) 226 x1 0) 228 x1 0) 232 x1 0) 233 x1 0) := fr_sa rfl (fr_sa rfl (fr_sa rfl (fr_sa rfl (fr_sa rfl (fr_sv rfl (fr_sv rfl (fr_sv rfl (fr_sv rfl (fr_sv rfl (fr_sv rfl (fr_rf)))))))))))
          have g13 : gi (sx (sx (sx (sx (sx (si (si (si (si (si (si mem 221 2 (gi mem 221 1)) 221 1 0) 221 5 0) 221 8 0) 221 9 (-1)) 221 34 x1) 225 x1 3) 226 x1 0) 228 x1 0) 232 x1 0) 233 x1 0) 221 13 = gi mem 221 13 := fr_gi FX rfl
          have H : quH (sx (sx (sx (sx (sx (si (si (si (si (si (si mem 221 2 (gi mem 221 1)) 221 1 0) 221 5 0) 221 8 0) 221 9 (-1)) 221 34 x1) 225 x1 3) 226 x1 0) 228 x1 0) 232 x1 0) 233 x1 0) := ⟨Em_fr FX rfl rfl rfl rfl rfl rfl hE, by rw [((gi_sa).trans ((gi_sa).trans ((gi_sa).trans ((gi_sa).trans ((gi_sa).trans ((gi_sv_ne (by decide)).trans ((gi_sv_ne (by decide)).trans (gi_eqO (isO_sv (isO_sv (isO_sv (isO_of hm)))) (by decide)))))))))]; rfl, by rw [((gi_sa).trans ((gi_sa).trans ((gi_sa).trans ((gi_sa).trans ((gi_sa).trans ((gi_sv_ne (by decide)).trans ((gi_sv_ne (by decide)).trans ((gi_sv_ne (by decide)).trans (gi_eqO (isO_sv (isO_sv (isO_of hm))) (by decide))))))))))]; rfl, by rw [((gi_sa).trans ((gi_sa).trans ((gi_sa).trans ((gi_sa).trans ((gi_sa).trans (gi_eqO (isO_sv (isO_sv (isO_sv (isO_sv (isO_sv (isO_of hm)))))) (by decide))))))), g13]; omega, by rw [g13]; exact rb.1, by rw [g13]; exact rb.2, ((gi_sa).trans ((gi_sa).trans ((gi_sa).trans ((gi_sa).trans ((gi_sa).trans ((gi_sv_ne (by decide)).trans ((gi_sv_ne (by decide)).trans ((gi_sv_ne (by decide)).trans ((gi_sv_ne (by decide)).trans (gi_eqO (isO_sv (isO_of hm)) (by decide)))))))))))⟩
          exact yR_mono (fun r m q => ⟨q.1, q.2.1, q.2.2.1, fun k hk => (q.2.2.2.1 k hk).trans (cl_fr rfl FX k hk), q.2.2.2.2⟩) (qu_90 H 64 _ 0 lo (by decide) (by decide) hm2 fr_rf a0 a1))
end QU
