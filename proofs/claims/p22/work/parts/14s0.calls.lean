/-! what the group of the model's calls rests on -/
theorem aQe_of {E : zM → Prop} (hz : ∀ mem, aJ (aΘ0 E) mem → szOK mem) : aQe (aΘ0 E) 223 221 13 (0, 7) ∧ aQe (aΘ0 E) 224 221 13 (0, 7) := by
  refine ⟨fun mem x l hJ hx hl => ?_, fun mem x l hJ hx hl => ?_⟩
  · have h := hz mem hJ
    have e : colsI mem = (l.getD x.toNatClampNeg 0).toInt := by
      unfold colsI bkN
      rw [ga_at hl, show gi mem 221 13 = x by unfold gi; rw [hx]]
      rfl
    rw [← e]
    exact ⟨h.1, h.2.1⟩
  · have h := hz mem hJ
    have e : rowsI mem = (l.getD x.toNatClampNeg 0).toInt := by
      unfold rowsI bkN
      rw [ga_at hl, show gi mem 221 13 = x by unfold gi; rw [hx]]
      rfl
    rw [← e]
    exact ⟨h.2.2.1, h.2.2.2⟩
theorem H9 {E : zM → Prop} (hE : aEs (aΘ0 E)) (h5 : aH5 E) (hQ : ∀ mem, aJ (aΘ0 E) mem → cdOK mem) (hz : ∀ mem, aJ (aΘ0 E) mem → szOK mem) : aH9 E := by
  refine ⟨hE, (aQe_of hz).1, (aQe_of hz).2, ?_, ?_, ?_, k2_X12_bits, ?_, k5_X12_keeps h5⟩
  · intro d mem av hd hJ g0
    obtain ⟨_, _, rfl, a0, g1⟩ := aTv_c g0
    have a9 := aTv_r a0
    subst a9
    obtain ⟨_, _, rfl, ⟨v, rfl, v0, v1⟩, g2⟩ := aTv_c g1
    obtain ⟨_, _, rfl, ⟨t, rfl, t0, t1⟩, g3⟩ := aTv_c g2
    have e := aTv_n g3
    subst e
    refine yC_mono ?_ (h_glowOf hE hQ hd ⟨v0, v1⟩ ⟨t0, t1⟩ (wI_rf hJ))
    rintro _ m ⟨x, rfl, hI, -⟩
    exact ⟨hI.1, hI.2, x, rfl, (i32_b x).1, (i32_b x).2⟩
  · intro d mem av hd hJ g0
    obtain ⟨_, _, rfl, a0, g1⟩ := aTv_c g0
    have a9 := aTv_r a0
    subst a9
    obtain ⟨_, _, rfl, ⟨v, rfl, v0, v1⟩, g2⟩ := aTv_c g1
    obtain ⟨_, _, rfl, ⟨t, rfl, t0, t1⟩, g3⟩ := aTv_c g2
    have e := aTv_n g3
    subst e
    refine yC_mono ?_ (h_leads hE hd ⟨v0, v1⟩ (hz mem hJ) (wI_rf hJ))
    rintro _ m ⟨rfl, hI, -⟩
    exact ⟨hI.1, hI.2, trivial⟩
  · intro d mem av hd hJ g0
    obtain ⟨_, _, rfl, a0, g1⟩ := aTv_c g0
    have a9 := aTv_r a0
    subst a9
    obtain ⟨_, _, rfl, ⟨v, rfl, v0, v1⟩, g2⟩ := aTv_c g1
    obtain ⟨_, _, rfl, ⟨t, rfl, -, -⟩, g3⟩ := aTv_c g2
    have e := aTv_n g3
    subst e
    refine yC_mono ?_ (h_ticks hE hQ hz ⟨v0, v1⟩ hd (wI_rf hJ))
    rintro _ m ⟨x, rfl, hI, -⟩
    exact ⟨hI.1, hI.2, x, rfl, (i32_b x).1, (i32_b x).2⟩
  · intro d mem av hd hJ g0
    obtain ⟨_, _, rfl, a0, g1⟩ := aTv_c g0
    have a9 := aTv_r a0
    subst a9
    obtain ⟨_, _, rfl, ⟨v, rfl, v0, v1⟩, g2⟩ := aTv_c g1
    obtain ⟨_, _, rfl, ⟨t, rfl, -, -⟩, g3⟩ := aTv_c g2
    obtain ⟨_, _, rfl, ⟨f, rfl, -, -⟩, g4⟩ := aTv_c g3
    have e := aTv_n g4
    subst e
    refine yC_mono ?_ (h_writesDown hE hd ⟨v0, v1⟩ (wI_rf hJ))
    rintro _ m ⟨rfl, hI, -⟩
    exact ⟨hI.1, hI.2, trivial⟩
/-! letter -/
theorem l_sh8 {x : Int64} (h : 0 < x.toInt) : (x >>> ((8 : Int32).toInt64 &&& 63)).toInt < x.toInt := by
  have e : (x >>> ((8 : Int32).toInt64 &&& 63)).toInt = x.toInt / 256 := by
    show (x.toBitVec.sshiftRight (((8 : Int32).toInt64 &&& 63).toBitVec.smod 64).toNat).toInt = _
    rw [show ((((8 : Int32).toInt64 &&& 63).toBitVec.smod 64).toNat) = 8 by decide, BitVec.toInt_sshiftRight, Int.shiftRight_eq_div_pow]
    rfl
  omega
set_option maxRecDepth 100000 in
theorem w_le_0 {E : zM → Prop} (hE : aEs (aΘ0 E)) {d : Nat} {m0 mem : zM} {P : Option Value → zM → Prop} {q w k : Int32} {lo : List (Nat × Value)} (hm : wI (aΘ0 E) m0 mem) (l_0 : zlg lo 0 = some (.ref 221)) (l_1 : zlg lo 1 = some (.int q)) (l_2 : zlg lo 2 = some (.int w)) (l_3 : zlg lo 3 = some (.int k)) (h1 : ¬ (q).toInt = 0 → ¬ (q).toInt = 1 → wI (aΘ0 E) m0 mem → P (some (.int (-1))) mem) (h2 : ¬ (q).toInt = 0 → (q).toInt = 1 → (w).toInt < 0 → wI (aΘ0 E) m0 mem → P (some (.int (-1))) mem) (h3 : ¬ (q).toInt = 0 → (q).toInt = 1 → 0 ≤ (w).toInt → ∀ (y10 : Int32), y10.toInt = (gn (ga mem 233) (gi mem 221 13).toInt) → (gn (ga mem 233) (gi mem 221 13).toInt) ≤ (w).toInt → wI (aΘ0 E) m0 mem → P (some (.int (-1))) mem) (h4 : ¬ (q).toInt = 0 → (q).toInt = 1 → 0 ≤ (w).toInt → ∀ (y10 : Int32), y10.toInt = (gn (ga mem 233) (gi mem 221 13).toInt) → (w).toInt < (gn (ga mem 233) (gi mem 221 13).toInt) → (k).toInt < 0 → wI (aΘ0 E) m0 mem → P (some (.int (-1))) mem) (h5 : ¬ (q).toInt = 0 → (q).toInt = 1 → 0 ≤ (w).toInt → ∀ (y10 : Int32), y10.toInt = (gn (ga mem 233) (gi mem 221 13).toInt) → (w).toInt < (gn (ga mem 233) (gi mem 221 13).toInt) → 0 ≤ (k).toInt → 5 < (k).toInt → wI (aΘ0 E) m0 mem → P (some (.int (-1))) mem) (h6 : ¬ (q).toInt = 0 → (q).toInt = 1 → 0 ≤ (w).toInt → ∀ (y10 : Int32), y10.toInt = (gn (ga mem 233) (gi mem 221 13).toInt) → (w).toInt < (gn (ga mem 233) (gi mem 221 13).toInt) → 0 ≤ (k).toInt → (k).toInt ≤ 5 → ∀ (x21 : Int32), x21.toInt = (6 * (gi mem 221 13).toInt) → ∀ (x23 : Int32), x23.toInt = ((6 * (gi mem 221 13).toInt) + (w).toInt) → ∀ lo, zlg lo 0 = some (.ref 221) → zlg lo 1 = some (.int q) → zlg lo 2 = some (.int w) → zlg lo 3 = some (.int k) → zlg lo 5 = some (.long ((gA mem 241).getD (((6 * (gi mem 221 13).toInt) + (w).toInt) : Int).toNat 0)) → zlg lo 7 = some (.int 0) → zlg lo 8 = some (.long ((gA mem 241).getD (((6 * (gi mem 221 13).toInt) + (w).toInt) : Int).toNat 0)) → wI (aΘ0 E) m0 mem → yR zpg tX12_letter (d + 2) (92, lo, [], mem) P) (h7 : (q).toInt = 0 → (w).toInt < 0 → wI (aΘ0 E) m0 mem → P (some (.int (-1))) mem) (h8 : (q).toInt = 0 → 0 ≤ (w).toInt → ∀ (y38 : Int32), y38.toInt = (gn (ga mem 228) (gi mem 221 13).toInt) → (gn (ga mem 228) (gi mem 221 13).toInt) ≤ (w).toInt → wI (aΘ0 E) m0 mem → P (some (.int (-1))) mem) (h9 : (q).toInt = 0 → 0 ≤ (w).toInt → ∀ (y38 : Int32), y38.toInt = (gn (ga mem 228) (gi mem 221 13).toInt) → (w).toInt < (gn (ga mem 228) (gi mem 221 13).toInt) → (k).toInt < 0 → wI (aΘ0 E) m0 mem → P (some (.int (-1))) mem) (h10 : (q).toInt = 0 → 0 ≤ (w).toInt → ∀ (y38 : Int32), y38.toInt = (gn (ga mem 228) (gi mem 221 13).toInt) → (w).toInt < (gn (ga mem 228) (gi mem 221 13).toInt) → 0 ≤ (k).toInt → 5 < (k).toInt → wI (aΘ0 E) m0 mem → P (some (.int (-1))) mem) (h11 : (q).toInt = 0 → 0 ≤ (w).toInt → ∀ (y38 : Int32), y38.toInt = (gn (ga mem 228) (gi mem 221 13).toInt) → (w).toInt < (gn (ga mem 228) (gi mem 221 13).toInt) → 0 ≤ (k).toInt → (k).toInt ≤ 5 → ∀ (x49 : Int32), x49.toInt = (9 * (gi mem 221 13).toInt) → ∀ (x51 : Int32), x51.toInt = ((9 * (gi mem 221 13).toInt) + (w).toInt) → ∀ lo, zlg lo 0 = some (.ref 221) → zlg lo 1 = some (.int q) → zlg lo 2 = some (.int w) → zlg lo 3 = some (.int k) → zlg lo 5 = some (.long ((gA mem 240).getD (((9 * (gi mem 221 13).toInt) + (w).toInt) : Int).toNat 0)) → zlg lo 7 = some (.int 0) → zlg lo 8 = some (.long ((gA mem 240).getD (((9 * (gi mem 221 13).toInt) + (w).toInt) : Int).toNat 0)) → wI (aΘ0 E) m0 mem → yR zpg tX12_letter (d + 2) (92, lo, [], mem) P) : yR zpg tX12_letter (d + 2) (0, lo, [], mem) P := by
  obtain ⟨b0, b1⟩ := mO_r13 hm.1.1
  have th := gR_228 hm.1.1 (i := (gi mem 221 13).toInt) b0 (by omega)
  have fk := gR_233 hm.1.1 (i := (gi mem 221 13).toInt) b0 (by omega)
  refine wR_li rfl l_1 ?_
  refine wR_if_ne rfl (a := (q).toInt) rfl (fun q1 => ?_) (fun q1 => ?_)
  ·
    refine wR_li rfl l_1 ?_
    refine yR_m 1 (fun _ _ _ _ => rfl) ?_
    refine wR_ic_ne rfl (a := (q).toInt) (c := 1) rfl rfl (fun q2 => ?_) (fun q2 => ?_)
    ·
      refine yR_m 1 (fun _ _ _ _ => rfl) ?_
      refine wR_si rfl rfl (fun lo3 e4 f5 => ?_)
      have lo3_0 := f5 0 _ (by decide) (Or.inl rfl) l_0
      have lo3_1 := f5 1 _ (by decide) (Or.inl rfl) l_1
      have lo3_2 := f5 2 _ (by decide) (Or.inl rfl) l_2
      have lo3_3 := f5 3 _ (by decide) (Or.inl rfl) l_3
      refine wR_li rfl e4 ?_
      refine wR_if_eq rfl (a := 0) rfl (fun _ => ?_) (fun q => by exfalso; omega)
      refine yR_m 1 (fun _ _ _ _ => rfl) ?_
      exact yR_ri rfl (h1 q1 q2 hm)
    ·
      refine wR_la rfl l_0 ?_
      refine wR_li rfl l_2 ?_
      refine wR_iv rfl rfl mO_e hm.1.1 rfl rfl rfl rfl ?_
      show yR zpg tX12_isFolk (d + 1) (0, [(0, .ref 221), (1, .int w)], [], mem) _
      refine yR_m 1 (fun _ _ _ _ => rfl) ?_
      refine wR_if_lt rfl (a := (w).toInt) rfl (fun q6 => ?_) (fun q6 => ?_)
      ·
        refine yR_m 1 (fun _ _ _ _ => rfl) ?_
        refine yR_rz rfl ⟨by decide, by decide⟩ ?_
        show yR zpg tX12_letter (d + 2) (22, lo, [.int 0], mem) _
        refine wR_if_eq rfl (a := 0) rfl (fun _ => ?_) (fun q => by exfalso; omega)
        refine yR_m 1 (fun _ _ _ _ => rfl) ?_
        refine wR_si rfl rfl (fun lo7 e8 f9 => ?_)
        have lo7_0 := f9 0 _ (by decide) (Or.inl rfl) l_0
        have lo7_1 := f9 1 _ (by decide) (Or.inl rfl) l_1
        have lo7_2 := f9 2 _ (by decide) (Or.inl rfl) l_2
        have lo7_3 := f9 3 _ (by decide) (Or.inl rfl) l_3
        refine wR_li rfl e8 ?_
        refine wR_if_eq rfl (a := 0) rfl (fun _ => ?_) (fun q => by exfalso; omega)
        refine yR_m 1 (fun _ _ _ _ => rfl) ?_
        exact yR_ri rfl (h2 q1 q2 q6 hm)
      ·
        refine yR_m 2 (fun _ _ _ _ => rfl) ?_
        refine wR_gr rfl mO_e mO_24 hm.1.1 ?_
        refine yR_m 1 (fun _ _ _ _ => rfl) ?_
        refine wR_gi rfl mO_e mO_13 hm.1.1 rfl ?_
        refine wN_al (a := (gi mem 221 13).toInt) rfl aR_233 hm.1.1 rfl rfl (by omega) (fun y10 e11 => ?_)
        refine wR_ic_ge rfl (a := (w).toInt) (c := (gn (ga mem 233) (gi mem 221 13).toInt)) rfl e11 (fun q12 => ?_) (fun q12 => ?_)
        ·
          refine yR_m 1 (fun _ _ _ _ => rfl) ?_
          refine yR_rz rfl ⟨by decide, by decide⟩ ?_
          show yR zpg tX12_letter (d + 2) (22, lo, [.int 0], mem) _
          refine wR_if_eq rfl (a := 0) rfl (fun _ => ?_) (fun q => by exfalso; omega)
          refine yR_m 1 (fun _ _ _ _ => rfl) ?_
          refine wR_si rfl rfl (fun lo13 e14 f15 => ?_)
          have lo13_0 := f15 0 _ (by decide) (Or.inl rfl) l_0
          have lo13_1 := f15 1 _ (by decide) (Or.inl rfl) l_1
          have lo13_2 := f15 2 _ (by decide) (Or.inl rfl) l_2
          have lo13_3 := f15 3 _ (by decide) (Or.inl rfl) l_3
          refine wR_li rfl e14 ?_
          refine wR_if_eq rfl (a := 0) rfl (fun _ => ?_) (fun q => by exfalso; omega)
          refine yR_m 1 (fun _ _ _ _ => rfl) ?_
          exact yR_ri rfl (h3 q1 q2 q6 y10 e11 q12 hm)
        ·
          refine yR_m 2 (fun _ _ _ _ => rfl) ?_
          refine yR_rz rfl ⟨by decide, by decide⟩ ?_
          show yR zpg tX12_letter (d + 2) (22, lo, [.int 1], mem) _
          refine wR_if_eq rfl (a := 1) rfl (fun q => by exfalso; omega) (fun _ => ?_)
          refine yR_m 2 (fun _ _ _ _ => rfl) ?_
          refine wR_si rfl rfl (fun lo16 e17 f18 => ?_)
          have lo16_0 := f18 0 _ (by decide) (Or.inl rfl) l_0
          have lo16_1 := f18 1 _ (by decide) (Or.inl rfl) l_1
          have lo16_2 := f18 2 _ (by decide) (Or.inl rfl) l_2
          have lo16_3 := f18 3 _ (by decide) (Or.inl rfl) l_3
          refine wR_li rfl e17 ?_
          refine wR_if_eq rfl (a := 1) rfl (fun q => by exfalso; omega) (fun _ => ?_)
          refine wR_li rfl lo16_3 ?_
          refine yR_m 2 (fun _ _ _ _ => rfl) ?_
          refine wR_is rfl rfl rfl rfl rfl rfl ?_
          show yR zpg tX12_is (d + 1) (0, [(0, .int k), (1, .int 0), (2, .int 5)], [], mem) _
          refine yR_m 2 (fun _ _ _ _ => rfl) ?_
          refine wR_ic_lt rfl (a := (k).toInt) (c := 0) rfl rfl (fun q19 => ?_) (fun q19 => ?_)
          ·
            refine yR_m 1 (fun _ _ _ _ => rfl) ?_
            refine yR_rz rfl ⟨by decide, by decide⟩ ?_
            show yR zpg tX12_letter (d + 2) (43, lo16, [.int 0], mem) _
            refine wR_if_ne rfl (a := 0) rfl (fun q => by exfalso; omega) (fun _ => ?_)
            refine yR_m 1 (fun _ _ _ _ => rfl) ?_
            exact yR_ri rfl (h4 q1 q2 q6 y10 e11 q12 q19 hm)
          ·
            refine yR_m 2 (fun _ _ _ _ => rfl) ?_
            refine wR_ic_gt rfl (a := (k).toInt) (c := 5) rfl rfl (fun q20 => ?_) (fun q20 => ?_)
            ·
              refine yR_m 1 (fun _ _ _ _ => rfl) ?_
              refine yR_rz rfl ⟨by decide, by decide⟩ ?_
              show yR zpg tX12_letter (d + 2) (43, lo16, [.int 0], mem) _
              refine wR_if_ne rfl (a := 0) rfl (fun q => by exfalso; omega) (fun _ => ?_)
              refine yR_m 1 (fun _ _ _ _ => rfl) ?_
              exact yR_ri rfl (h5 q1 q2 q6 y10 e11 q12 q19 q20 hm)
            ·
              refine yR_m 2 (fun _ _ _ _ => rfl) ?_
              refine yR_rz rfl ⟨by decide, by decide⟩ ?_
              show yR zpg tX12_letter (d + 2) (43, lo16, [.int 1], mem) _
              refine wR_if_ne rfl (a := 1) rfl (fun _ => ?_) (fun q => by exfalso; omega)
              refine wR_li rfl lo16_1 ?_
              refine wR_if_ne rfl (a := (q).toInt) rfl (fun _ => ?_) (fun q => by exfalso; omega)
              refine wR_la rfl lo16_0 ?_
              refine wR_gr rfl mO_e mO_32 hm.1.1 ?_
              refine yR_m 1 (fun _ _ _ _ => rfl) ?_
              refine wR_la rfl lo16_0 ?_
              refine wR_gi rfl mO_e mO_13 hm.1.1 rfl ?_
              refine wN_mul (a := 6) (b := (gi mem 221 13).toInt) rfl rfl rfl (by omega) (fun x21 e22 => ?_)
              refine wR_li rfl lo16_2 ?_
              refine wN_add (a := (6 * (gi mem 221 13).toInt)) (b := (w).toInt) rfl e22 rfl (by omega) (fun x23 e24 => ?_)
              refine wN_ll (a := ((6 * (gi mem 221 13).toInt) + (w).toInt)) rfl aR_241 hm.1.1 rfl e24 (by omega) ?_
              refine wR_sl rfl rfl (fun lo25 e26 f27 => ?_)
              have lo25_4 := f27 4 _ (by decide) (Or.inl rfl) e17
              have lo25_0 := f27 0 _ (by decide) (Or.inl rfl) lo16_0
              have lo25_1 := f27 1 _ (by decide) (Or.inl rfl) lo16_1
              have lo25_2 := f27 2 _ (by decide) (Or.inl rfl) lo16_2
              have lo25_3 := f27 3 _ (by decide) (Or.inl rfl) lo16_3
              refine yR_m 1 (fun _ _ _ _ => rfl) ?_
              refine wR_si rfl rfl (fun lo28 e29 f30 => ?_)
              have lo28_5 := f30 5 _ (by decide) (Or.inr (by decide)) e26
              have lo28_4 := f30 4 _ (by decide) (Or.inl rfl) lo25_4
              have lo28_0 := f30 0 _ (by decide) (Or.inl rfl) lo25_0
              have lo28_1 := f30 1 _ (by decide) (Or.inl rfl) lo25_1
              have lo28_2 := f30 2 _ (by decide) (Or.inl rfl) lo25_2
              have lo28_3 := f30 3 _ (by decide) (Or.inl rfl) lo25_3
              refine wR_ll4 rfl lo28_5 ?_
              refine wR_sl rfl rfl (fun lo31 e32 f33 => ?_)
              have lo31_7 := f33 7 _ (by decide) (Or.inl rfl) e29
              have lo31_5 := f33 5 _ (by decide) (Or.inr (by decide)) lo28_5
              have lo31_4 := f33 4 _ (by decide) (Or.inl rfl) lo28_4
              have lo31_0 := f33 0 _ (by decide) (Or.inl rfl) lo28_0
              have lo31_1 := f33 1 _ (by decide) (Or.inl rfl) lo28_1
              have lo31_2 := f33 2 _ (by decide) (Or.inl rfl) lo28_2
              have lo31_3 := f33 3 _ (by decide) (Or.inl rfl) lo28_3
              exact h6 q1 q2 q6 y10 e11 q12 q19 q20 x21 e22 x23 e24 lo31 lo31_0 lo31_1 lo31_2 lo31_3 lo31_5 lo31_7 e32 hm
  ·
    refine wR_la rfl l_0 ?_
    refine wR_li rfl l_2 ?_
    refine wR_iv rfl rfl mO_e hm.1.1 rfl rfl rfl rfl ?_
    show yR zpg tX12_isThing (d + 1) (0, [(0, .ref 221), (1, .int w)], [], mem) _
    refine yR_m 1 (fun _ _ _ _ => rfl) ?_
    refine wR_if_lt rfl (a := (w).toInt) rfl (fun q34 => ?_) (fun q34 => ?_)
    ·
      refine yR_m 1 (fun _ _ _ _ => rfl) ?_
      refine yR_rz rfl ⟨by decide, by decide⟩ ?_
      show yR zpg tX12_letter (d + 2) (9, lo, [.int 0], mem) _
      refine yR_m 1 (fun _ _ _ _ => rfl) ?_
      refine wR_si rfl rfl (fun lo35 e36 f37 => ?_)
      have lo35_0 := f37 0 _ (by decide) (Or.inl rfl) l_0
      have lo35_1 := f37 1 _ (by decide) (Or.inl rfl) l_1
      have lo35_2 := f37 2 _ (by decide) (Or.inl rfl) l_2
      have lo35_3 := f37 3 _ (by decide) (Or.inl rfl) l_3
      refine wR_li rfl e36 ?_
      refine wR_if_eq rfl (a := 0) rfl (fun _ => ?_) (fun q => by exfalso; omega)
      refine yR_m 1 (fun _ _ _ _ => rfl) ?_
      exact yR_ri rfl (h7 q1 q34 hm)
    ·
      refine yR_m 2 (fun _ _ _ _ => rfl) ?_
      refine wR_gr rfl mO_e mO_19 hm.1.1 ?_
      refine yR_m 1 (fun _ _ _ _ => rfl) ?_
      refine wR_gi rfl mO_e mO_13 hm.1.1 rfl ?_
      refine wN_al (a := (gi mem 221 13).toInt) rfl aR_228 hm.1.1 rfl rfl (by omega) (fun y38 e39 => ?_)
      refine wR_ic_ge rfl (a := (w).toInt) (c := (gn (ga mem 228) (gi mem 221 13).toInt)) rfl e39 (fun q40 => ?_) (fun q40 => ?_)
      ·
        refine yR_m 1 (fun _ _ _ _ => rfl) ?_
        refine yR_rz rfl ⟨by decide, by decide⟩ ?_
        show yR zpg tX12_letter (d + 2) (9, lo, [.int 0], mem) _
        refine yR_m 1 (fun _ _ _ _ => rfl) ?_
        refine wR_si rfl rfl (fun lo41 e42 f43 => ?_)
        have lo41_0 := f43 0 _ (by decide) (Or.inl rfl) l_0
        have lo41_1 := f43 1 _ (by decide) (Or.inl rfl) l_1
        have lo41_2 := f43 2 _ (by decide) (Or.inl rfl) l_2
        have lo41_3 := f43 3 _ (by decide) (Or.inl rfl) l_3
        refine wR_li rfl e42 ?_
        refine wR_if_eq rfl (a := 0) rfl (fun _ => ?_) (fun q => by exfalso; omega)
        refine yR_m 1 (fun _ _ _ _ => rfl) ?_
        exact yR_ri rfl (h8 q1 q34 y38 e39 q40 hm)
      ·
        refine yR_m 2 (fun _ _ _ _ => rfl) ?_
        refine yR_rz rfl ⟨by decide, by decide⟩ ?_
        show yR zpg tX12_letter (d + 2) (9, lo, [.int 1], mem) _
        refine yR_m 1 (fun _ _ _ _ => rfl) ?_
        refine wR_si rfl rfl (fun lo44 e45 f46 => ?_)
        have lo44_0 := f46 0 _ (by decide) (Or.inl rfl) l_0
        have lo44_1 := f46 1 _ (by decide) (Or.inl rfl) l_1
        have lo44_2 := f46 2 _ (by decide) (Or.inl rfl) l_2
        have lo44_3 := f46 3 _ (by decide) (Or.inl rfl) l_3
        refine wR_li rfl e45 ?_
        refine wR_if_eq rfl (a := 1) rfl (fun q => by exfalso; omega) (fun _ => ?_)
        refine wR_li rfl lo44_3 ?_
        refine yR_m 2 (fun _ _ _ _ => rfl) ?_
        refine wR_is rfl rfl rfl rfl rfl rfl ?_
        show yR zpg tX12_is (d + 1) (0, [(0, .int k), (1, .int 0), (2, .int 5)], [], mem) _
        refine yR_m 2 (fun _ _ _ _ => rfl) ?_
        refine wR_ic_lt rfl (a := (k).toInt) (c := 0) rfl rfl (fun q47 => ?_) (fun q47 => ?_)
        ·
          refine yR_m 1 (fun _ _ _ _ => rfl) ?_
          refine yR_rz rfl ⟨by decide, by decide⟩ ?_
          show yR zpg tX12_letter (d + 2) (43, lo44, [.int 0], mem) _
          refine wR_if_ne rfl (a := 0) rfl (fun q => by exfalso; omega) (fun _ => ?_)
          refine yR_m 1 (fun _ _ _ _ => rfl) ?_
          exact yR_ri rfl (h9 q1 q34 y38 e39 q40 q47 hm)
        ·
          refine yR_m 2 (fun _ _ _ _ => rfl) ?_
          refine wR_ic_gt rfl (a := (k).toInt) (c := 5) rfl rfl (fun q48 => ?_) (fun q48 => ?_)
          ·
            refine yR_m 1 (fun _ _ _ _ => rfl) ?_
            refine yR_rz rfl ⟨by decide, by decide⟩ ?_
            show yR zpg tX12_letter (d + 2) (43, lo44, [.int 0], mem) _
            refine wR_if_ne rfl (a := 0) rfl (fun q => by exfalso; omega) (fun _ => ?_)
            refine yR_m 1 (fun _ _ _ _ => rfl) ?_
            exact yR_ri rfl (h10 q1 q34 y38 e39 q40 q47 q48 hm)
          ·
            refine yR_m 2 (fun _ _ _ _ => rfl) ?_
            refine yR_rz rfl ⟨by decide, by decide⟩ ?_
            show yR zpg tX12_letter (d + 2) (43, lo44, [.int 1], mem) _
            refine wR_if_ne rfl (a := 1) rfl (fun _ => ?_) (fun q => by exfalso; omega)
            refine wR_li rfl lo44_1 ?_
            refine wR_if_ne rfl (a := (q).toInt) rfl (fun q => by exfalso; omega) (fun _ => ?_)
            refine wR_la rfl lo44_0 ?_
            refine wR_gr rfl mO_e mO_31 hm.1.1 ?_
            refine yR_m 1 (fun _ _ _ _ => rfl) ?_
            refine wR_la rfl lo44_0 ?_
            refine wR_gi rfl mO_e mO_13 hm.1.1 rfl ?_
            refine wN_mul (a := 9) (b := (gi mem 221 13).toInt) rfl rfl rfl (by omega) (fun x49 e50 => ?_)
            refine wR_li rfl lo44_2 ?_
            refine wN_add (a := (9 * (gi mem 221 13).toInt)) (b := (w).toInt) rfl e50 rfl (by omega) (fun x51 e52 => ?_)
            refine wN_ll (a := ((9 * (gi mem 221 13).toInt) + (w).toInt)) rfl aR_240 hm.1.1 rfl e52 (by omega) ?_
            refine yR_m 1 (fun _ _ _ _ => rfl) ?_
            refine wR_sl rfl rfl (fun lo53 e54 f55 => ?_)
            have lo53_4 := f55 4 _ (by decide) (Or.inl rfl) e45
            have lo53_0 := f55 0 _ (by decide) (Or.inl rfl) lo44_0
            have lo53_1 := f55 1 _ (by decide) (Or.inl rfl) lo44_1
            have lo53_2 := f55 2 _ (by decide) (Or.inl rfl) lo44_2
            have lo53_3 := f55 3 _ (by decide) (Or.inl rfl) lo44_3
            refine yR_m 1 (fun _ _ _ _ => rfl) ?_
            refine wR_si rfl rfl (fun lo56 e57 f58 => ?_)
            have lo56_5 := f58 5 _ (by decide) (Or.inr (by decide)) e54
            have lo56_4 := f58 4 _ (by decide) (Or.inl rfl) lo53_4
            have lo56_0 := f58 0 _ (by decide) (Or.inl rfl) lo53_0
            have lo56_1 := f58 1 _ (by decide) (Or.inl rfl) lo53_1
            have lo56_2 := f58 2 _ (by decide) (Or.inl rfl) lo53_2
            have lo56_3 := f58 3 _ (by decide) (Or.inl rfl) lo53_3
            refine wR_ll4 rfl lo56_5 ?_
            refine wR_sl rfl rfl (fun lo59 e60 f61 => ?_)
            have lo59_7 := f61 7 _ (by decide) (Or.inl rfl) e57
            have lo59_5 := f61 5 _ (by decide) (Or.inr (by decide)) lo56_5
            have lo59_4 := f61 4 _ (by decide) (Or.inl rfl) lo56_4
            have lo59_0 := f61 0 _ (by decide) (Or.inl rfl) lo56_0
            have lo59_1 := f61 1 _ (by decide) (Or.inl rfl) lo56_1
            have lo59_2 := f61 2 _ (by decide) (Or.inl rfl) lo56_2
            have lo59_3 := f61 3 _ (by decide) (Or.inl rfl) lo56_3
            exact h11 q1 q34 y38 e39 q40 q47 q48 x49 e50 x51 e52 lo59 lo59_0 lo59_1 lo59_2 lo59_3 lo59_5 lo59_7 e60 hm

set_option maxRecDepth 100000 in
theorem w_le_92 {E : zM → Prop} (hE : aEs (aΘ0 E)) {d : Nat} {m0 mem : zM} {P : Option Value → zM → Prop} {q w k n : Int32} {l mo : Int64} {lo : List (Nat × Value)} (hm : wI (aΘ0 E) m0 mem) (l_0 : zlg lo 0 = some (.ref 221)) (l_1 : zlg lo 1 = some (.int q)) (l_2 : zlg lo 2 = some (.int w)) (l_3 : zlg lo 3 = some (.int k)) (l_5 : zlg lo 5 = some (.long l)) (l_7 : zlg lo 7 = some (.int n)) (l_8 : zlg lo 8 = some (.long mo)) (h1 : mo.toInt ≤ (0 : Int64).toInt → (k).toInt < (n).toInt → wI (aΘ0 E) m0 mem → P (some (.int (((((l >>> (((8 * ((n - 1) - k)) : Int32).toInt64 &&& 63)) &&& 255)).toInt32 - 97) + 1))) mem) (h2 : mo.toInt ≤ (0 : Int64).toInt → (n).toInt ≤ (k).toInt → wI (aΘ0 E) m0 mem → P (some (.int 0)) mem) (h3 : (0 : Int64).toInt < mo.toInt → ∀ lo, zlg lo 0 = some (.ref 221) → zlg lo 1 = some (.int q) → zlg lo 2 = some (.int w) → zlg lo 3 = some (.int k) → zlg lo 5 = some (.long l) → zlg lo 7 = some (.int (n + 1)) → zlg lo 8 = some (.long (mo >>> ((8 : Int32).toInt64 &&& 63))) → wI (aΘ0 E) m0 mem → yR zpg tX12_letter (d + 2) (92, lo, [], mem) P) : yR zpg tX12_letter (d + 2) (92, lo, [], mem) P := by
  refine wR_ll4 rfl l_8 ?_
  refine yR_m 2 (fun _ _ _ _ => rfl) ?_
  refine wR_lf_le rfl (fun q1 => ?_) (fun q1 => ?_)
  ·
    refine wR_li rfl l_3 ?_
    refine wR_li rfl l_7 ?_
    refine wR_ic_lt rfl (a := (k).toInt) (c := (n).toInt) rfl rfl (fun q2 => ?_) (fun q2 => ?_)
    ·
      refine wR_ll4 rfl l_5 ?_
      refine yR_m 1 (fun _ _ _ _ => rfl) ?_
      refine wR_li rfl l_7 ?_
      refine yR_m 2 (fun _ _ _ _ => rfl) ?_
      refine wR_li rfl l_3 ?_
      refine yR_m 10 (fun _ _ _ _ => rfl) ?_
      exact yR_ri rfl (h1 q1 q2 hm)
    ·
      refine yR_m 2 (fun _ _ _ _ => rfl) ?_
      exact yR_ri rfl (h2 q1 q2 hm)
  ·
    refine wR_in rfl rfl l_7 (fun lo3 e4 f5 => ?_)
    have lo3_0 := f5 0 _ (by decide) (Or.inl rfl) l_0
    have lo3_1 := f5 1 _ (by decide) (Or.inl rfl) l_1
    have lo3_2 := f5 2 _ (by decide) (Or.inl rfl) l_2
    have lo3_3 := f5 3 _ (by decide) (Or.inl rfl) l_3
    have lo3_5 := f5 5 _ (by decide) (Or.inr (by decide)) l_5
    have lo3_8 := f5 8 _ (by decide) (Or.inr (by decide)) l_8
    refine wR_ll4 rfl lo3_8 ?_
    refine yR_m 2 (fun _ _ _ _ => rfl) ?_
    refine wR_sl rfl rfl (fun lo6 e7 f8 => ?_)
    have lo6_7 := f8 7 _ (by decide) (Or.inl rfl) e4
    have lo6_0 := f8 0 _ (by decide) (Or.inl rfl) lo3_0
    have lo6_1 := f8 1 _ (by decide) (Or.inl rfl) lo3_1
    have lo6_2 := f8 2 _ (by decide) (Or.inl rfl) lo3_2
    have lo6_3 := f8 3 _ (by decide) (Or.inl rfl) lo3_3
    have lo6_5 := f8 5 _ (by decide) (Or.inr (by decide)) lo3_5
    exact yR_m 1 (fun _ _ _ _ => rfl) (h3 q1 lo6 lo6_0 lo6_1 lo6_2 lo6_3 lo6_5 lo6_7 e7 hm)

theorem le_loop {E : zM → Prop} (hE : aEs (aΘ0 E)) {m0 mem : zM} {d : Nat} {q w k : Int32} {l : Int64} (hI : wI (aΘ0 E) m0 mem) : ∀ (f : Nat) (n : Int32) (mo : Int64) (lo : List (Nat × Value)), mo.toInt ≤ (f : Int) → zlg lo 0 = some (.ref 221) → zlg lo 1 = some (.int q) → zlg lo 2 = some (.int w) → zlg lo 3 = some (.int k) → zlg lo 5 = some (.long l) → zlg lo 7 = some (.int n) → zlg lo 8 = some (.long mo) → yR zpg tX12_letter (d + 2) (92, lo, [], mem) (fun r m => aJ (aΘ0 E) m ∧ aPr aT0 m0 m ∧ aTr (some (.inl (-2147483648, 2147483647))) r) := by
  intro f
  induction f with
  | zero =>
    intro n mo lo hf l0 l1 l2 l3 l5 l7 l8
    exact w_le_92 hE hI l0 l1 l2 l3 l5 l7 l8
        (fun q1 q2 hI => ⟨hI.1, hI.2, _, rfl, (i32_b _).1, (i32_b _).2⟩)
        (fun q1 q2 hI => ⟨hI.1, hI.2, _, rfl, (i32_b _).1, (i32_b _).2⟩)
        (fun q1 lo a0 a1 a2 a3 a5 a7 a8 hI => by have z0 : (0 : Int64).toInt = 0 := rfl; exfalso; omega)
  | succ f ih =>
    intro n mo lo hf l0 l1 l2 l3 l5 l7 l8
    exact w_le_92 hE hI l0 l1 l2 l3 l5 l7 l8
        (fun q1 q2 hI => ⟨hI.1, hI.2, _, rfl, (i32_b _).1, (i32_b _).2⟩)
        (fun q1 q2 hI => ⟨hI.1, hI.2, _, rfl, (i32_b _).1, (i32_b _).2⟩)
        (fun q1 lo a0 a1 a2 a3 a5 a7 a8 hI => ih _ _ lo (by have z0 : (0 : Int64).toInt = 0 := rfl; have := l_sh8 (x := mo) (by omega); omega) a0 a1 a2 a3 a5 a7 a8)
theorem le_any {E : zM → Prop} (hE : aEs (aΘ0 E)) {m0 mem : zM} {d : Nat} {q w k n : Int32} {l mo : Int64} (hI : wI (aΘ0 E) m0 mem) (lo : List (Nat × Value)) (l0 : zlg lo 0 = some (.ref 221)) (l1 : zlg lo 1 = some (.int q)) (l2 : zlg lo 2 = some (.int w)) (l3 : zlg lo 3 = some (.int k)) (l5 : zlg lo 5 = some (.long l)) (l7 : zlg lo 7 = some (.int n)) (l8 : zlg lo 8 = some (.long mo)) : yR zpg tX12_letter (d + 2) (92, lo, [], mem) (fun r m => aJ (aΘ0 E) m ∧ aPr aT0 m0 m ∧ aTr (some (.inl (-2147483648, 2147483647))) r) := le_loop hE hI mo.toInt.toNat n mo lo (by omega) l0 l1 l2 l3 l5 l7 l8
theorem h_letter {E : zM → Prop} (hE : aEs (aΘ0 E)) {m0 mem : zM} {d : Nat} (hd : 3 ≤ d) {q w k : Int32} (hI : wI (aΘ0 E) m0 mem) : yC zpg d 240 [.ref 221, .int q, .int w, .int k] mem (fun r m => aJ (aΘ0 E) m ∧ aPr aT0 m0 m ∧ aTr (some (.inl (-2147483648, 2147483647))) r) := by
  obtain ⟨d, rfl⟩ : ∃ q, d = q + 3 := ⟨d - 3, by omega⟩
  refine yC_of (t := tX12_letter) rfl rfl ?_
  exact w_le_0 hE hI rfl rfl rfl rfl
        (fun q1 q2 hI => ⟨hI.1, hI.2, _, rfl, (i32_b _).1, (i32_b _).2⟩)
        (fun q1 q2 q6 hI => ⟨hI.1, hI.2, _, rfl, (i32_b _).1, (i32_b _).2⟩)
        (fun q1 q2 q6 y10 e11 q12 hI => ⟨hI.1, hI.2, _, rfl, (i32_b _).1, (i32_b _).2⟩)
        (fun q1 q2 q6 y10 e11 q12 q19 hI => ⟨hI.1, hI.2, _, rfl, (i32_b _).1, (i32_b _).2⟩)
        (fun q1 q2 q6 y10 e11 q12 q19 q20 hI => ⟨hI.1, hI.2, _, rfl, (i32_b _).1, (i32_b _).2⟩)
        (fun q1 q2 q6 y10 e11 q12 q19 q20 x21 e22 x23 e24 lo a0 a1 a2 a3 a5 a7 a8 hI => le_any hE hI lo a0 a1 a2 a3 a5 a7 a8)
        (fun q1 q34 hI => ⟨hI.1, hI.2, _, rfl, (i32_b _).1, (i32_b _).2⟩)
        (fun q1 q34 y38 e39 q40 hI => ⟨hI.1, hI.2, _, rfl, (i32_b _).1, (i32_b _).2⟩)
        (fun q1 q34 y38 e39 q40 q47 hI => ⟨hI.1, hI.2, _, rfl, (i32_b _).1, (i32_b _).2⟩)
        (fun q1 q34 y38 e39 q40 q47 q48 hI => ⟨hI.1, hI.2, _, rfl, (i32_b _).1, (i32_b _).2⟩)
        (fun q1 q34 y38 e39 q40 q47 q48 x49 e50 x51 e52 lo a0 a1 a2 a3 a5 a7 a8 hI => le_any hE hI lo a0 a1 a2 a3 a5 a7 a8)
/-! chance -/
set_option maxRecDepth 100000 in
theorem w_ch_0 {E : zM → Prop} (hE : aEs (aΘ0 E)) {d : Nat} {m0 mem : zM} {P : Option Value → zM → Prop} {n : Int32} {lo : List (Nat × Value)} (hm : wI (aΘ0 E) m0 mem) (l_0 : zlg lo 0 = some (.ref 221)) (l_1 : zlg lo 1 = some (.int n)) (g9 : aH9 E) (g5 : aH5 E) (h1 : (gi mem 221 46).toInt = 0 → ∀ (m2 : zM), ∀ (v5 : Int32), (-1 : Int) ≤ v5.toInt ∧ v5.toInt ≤ -1 → wI (aΘ0 E) m0 m2 → aPr aT0 mem m2 → wI (aΘ0 E) m0 m2 → P (some (.int v5)) m2) (h2 : ¬ (gi mem 221 46).toInt = 0 → (n).toInt < 1 → ∀ (m7 : zM), ∀ (v10 : Int32), (-1 : Int) ≤ v10.toInt ∧ v10.toInt ≤ -1 → wI (aΘ0 E) m0 m7 → aPr aT0 mem m7 → wI (aΘ0 E) m0 m7 → P (some (.int v10)) m7) (h3 : ¬ (gi mem 221 46).toInt = 0 → 1 ≤ (n).toInt → 40 < (n).toInt → ∀ (m12 : zM), ∀ (v15 : Int32), (-1 : Int) ≤ v15.toInt ∧ v15.toInt ≤ -1 → wI (aΘ0 E) m0 m12 → aPr aT0 mem m12 → wI (aΘ0 E) m0 m12 → P (some (.int v15)) m12) (h4 : ¬ (gi mem 221 46).toInt = 0 → 1 ≤ (n).toInt → (n).toInt ≤ 40 → ∀ (y16 : Int32), y16.toInt = (gn (ga mem 249) 0) → ∀ (x18 : Int32), x18.toInt = (999 - (n).toInt) → (999 - (n).toInt) < (gn (ga mem 249) 0) → ∀ (m21 : zM), ∀ (v24 : Int32), (-1 : Int) ≤ v24.toInt ∧ v24.toInt ≤ -1 → wI (aΘ0 E) m0 m21 → aPr aT0 mem m21 → wI (aΘ0 E) m0 m21 → P (some (.int v24)) m21) (h5 : ¬ (gi mem 221 46).toInt = 0 → 1 ≤ (n).toInt → (n).toInt ≤ 40 → ∀ (y16 : Int32), y16.toInt = (gn (ga mem 249) 0) → ∀ (x18 : Int32), x18.toInt = (999 - (n).toInt) → (gn (ga mem 249) 0) ≤ (999 - (n).toInt) → ∀ (m25 : zM), wI (aΘ0 E) m0 m25 → aPr aT0 mem m25 → ∀ lo, zlg lo 0 = some (.ref 221) → zlg lo 1 = some (.int n) → zlg lo 2 = some (.int 0) → zlg lo 3 = some (.int 0) → wI (aΘ0 E) m0 m25 → yR zpg tX12_chance (d + 10) (25, lo, [], m25) P) : yR zpg tX12_chance (d + 10) (0, lo, [], mem) P := by
  refine wR_la rfl l_0 ?_
  refine wR_li rfl l_1 ?_
  refine yR_m 2 (fun _ _ _ _ => rfl) ?_
  refine wR_iv rfl rfl mO_e hm.1.1 rfl rfl rfl rfl ?_
  show yR zpg tX12_isAhead (d + 9) (0, [(0, .ref 221), (1, .int n), (2, .int 1), (3, .int 40)], [], mem) _
  refine yR_m 1 (fun _ _ _ _ => rfl) ?_
  refine wR_gi rfl mO_e mO_46 hm.1.1 rfl ?_
  refine wR_if_eq rfl (a := (gi mem 221 46).toInt) rfl (fun q1 => ?_) (fun q1 => ?_)
  ·
    refine yR_m 1 (fun _ _ _ _ => rfl) ?_
    refine yR_rz rfl ⟨by decide, by decide⟩ ?_
    show yR zpg tX12_chance (d + 10) (8, lo, [.int 0], mem) _
    refine wR_if_ne rfl (a := 0) rfl (fun q => by exfalso; omega) (fun _ => ?_)
    refine wR_la rfl l_0 ?_
    refine yR_m 1 (fun _ _ _ _ => rfl) ?_
    refine wR_cv rfl rfl mO_e hm.1.1 rfl (k9_X12_refuses g9 (d + 10) _ [.ref 221, .int 2] (by omega) hm.1 ⟨⟨221, List.mem_singleton.mpr rfl, rfl⟩, ⟨_, rfl, by decide, by decide⟩, trivial⟩) ?_
    rintro r m2 ⟨j4a, j4b, j4c⟩
    obtain ⟨v5, rfl, k3⟩ := aTr_i j4c
    have hm2 : wI (aΘ0 E) m0 m2 := ⟨j4a, aPr_tr hm.2 j4b⟩
    show yR zpg tX12_chance (d + 10) (16, lo, [.int v5], m2) _
    exact yR_ri rfl (h1 q1 m2 v5 k3 hm2 j4b hm2)
  ·
    refine yR_m 3 (fun _ _ _ _ => rfl) ?_
    refine wR_is rfl rfl rfl rfl rfl rfl ?_
    show yR zpg tX12_is (d + 8) (0, [(0, .int n), (1, .int 1), (2, .int 40)], [], mem) _
    refine yR_m 2 (fun _ _ _ _ => rfl) ?_
    refine wR_ic_lt rfl (a := (n).toInt) (c := 1) rfl rfl (fun q6 => ?_) (fun q6 => ?_)
    ·
      refine yR_m 1 (fun _ _ _ _ => rfl) ?_
      refine yR_rz rfl ⟨by decide, by decide⟩ ?_
      show yR zpg tX12_isAhead (d + 9) (13, [(0, .ref 221), (1, .int n), (2, .int 1), (3, .int 40)], [.int 0], mem) _
      refine wR_if_eq rfl (a := 0) rfl (fun _ => ?_) (fun q => by exfalso; omega)
      refine yR_m 1 (fun _ _ _ _ => rfl) ?_
      refine yR_rz rfl ⟨by decide, by decide⟩ ?_
      show yR zpg tX12_chance (d + 10) (8, lo, [.int 0], mem) _
      refine wR_if_ne rfl (a := 0) rfl (fun q => by exfalso; omega) (fun _ => ?_)
      refine wR_la rfl l_0 ?_
      refine yR_m 1 (fun _ _ _ _ => rfl) ?_
      refine wR_cv rfl rfl mO_e hm.1.1 rfl (k9_X12_refuses g9 (d + 10) _ [.ref 221, .int 2] (by omega) hm.1 ⟨⟨221, List.mem_singleton.mpr rfl, rfl⟩, ⟨_, rfl, by decide, by decide⟩, trivial⟩) ?_
      rintro r m7 ⟨j9a, j9b, j9c⟩
      obtain ⟨v10, rfl, k8⟩ := aTr_i j9c
      have hm7 : wI (aΘ0 E) m0 m7 := ⟨j9a, aPr_tr hm.2 j9b⟩
      show yR zpg tX12_chance (d + 10) (16, lo, [.int v10], m7) _
      exact yR_ri rfl (h2 q1 q6 m7 v10 k8 hm7 j9b hm7)
    ·
      refine yR_m 2 (fun _ _ _ _ => rfl) ?_
      refine wR_ic_gt rfl (a := (n).toInt) (c := 40) rfl rfl (fun q11 => ?_) (fun q11 => ?_)
      ·
        refine yR_m 1 (fun _ _ _ _ => rfl) ?_
        refine yR_rz rfl ⟨by decide, by decide⟩ ?_
        show yR zpg tX12_isAhead (d + 9) (13, [(0, .ref 221), (1, .int n), (2, .int 1), (3, .int 40)], [.int 0], mem) _
        refine wR_if_eq rfl (a := 0) rfl (fun _ => ?_) (fun q => by exfalso; omega)
        refine yR_m 1 (fun _ _ _ _ => rfl) ?_
        refine yR_rz rfl ⟨by decide, by decide⟩ ?_
        show yR zpg tX12_chance (d + 10) (8, lo, [.int 0], mem) _
        refine wR_if_ne rfl (a := 0) rfl (fun q => by exfalso; omega) (fun _ => ?_)
        refine wR_la rfl l_0 ?_
        refine yR_m 1 (fun _ _ _ _ => rfl) ?_
        refine wR_cv rfl rfl mO_e hm.1.1 rfl (k9_X12_refuses g9 (d + 10) _ [.ref 221, .int 2] (by omega) hm.1 ⟨⟨221, List.mem_singleton.mpr rfl, rfl⟩, ⟨_, rfl, by decide, by decide⟩, trivial⟩) ?_
        rintro r m12 ⟨j14a, j14b, j14c⟩
        obtain ⟨v15, rfl, k13⟩ := aTr_i j14c
        have hm12 : wI (aΘ0 E) m0 m12 := ⟨j14a, aPr_tr hm.2 j14b⟩
        show yR zpg tX12_chance (d + 10) (16, lo, [.int v15], m12) _
        exact yR_ri rfl (h3 q1 q6 q11 m12 v15 k13 hm12 j14b hm12)
      ·
        refine yR_m 2 (fun _ _ _ _ => rfl) ?_
        refine yR_rz rfl ⟨by decide, by decide⟩ ?_
        show yR zpg tX12_isAhead (d + 9) (13, [(0, .ref 221), (1, .int n), (2, .int 1), (3, .int 40)], [.int 1], mem) _
        refine wR_if_eq rfl (a := 1) rfl (fun q => by exfalso; omega) (fun _ => ?_)
        refine yR_m 1 (fun _ _ _ _ => rfl) ?_
        refine wR_gr rfl mO_e mO_48 hm.1.1 ?_
        refine yR_m 1 (fun _ _ _ _ => rfl) ?_
        refine wN_al (a := 0) rfl aR_249 hm.1.1 rfl rfl (by decide) (fun y16 e17 => ?_)
        refine yR_m 2 (fun _ _ _ _ => rfl) ?_
        refine wN_sub (a := 999) (b := (n).toInt) rfl rfl rfl (by omega) (fun x18 e19 => ?_)
        refine wR_ic_gt rfl (a := (gn (ga mem 249) 0)) (c := (999 - (n).toInt)) e17 e19 (fun q20 => ?_) (fun q20 => ?_)
        ·
          refine yR_m 1 (fun _ _ _ _ => rfl) ?_
          refine yR_rz rfl ⟨by decide, by decide⟩ ?_
          show yR zpg tX12_chance (d + 10) (8, lo, [.int 0], mem) _
          refine wR_if_ne rfl (a := 0) rfl (fun q => by exfalso; omega) (fun _ => ?_)
          refine wR_la rfl l_0 ?_
          refine yR_m 1 (fun _ _ _ _ => rfl) ?_
          refine wR_cv rfl rfl mO_e hm.1.1 rfl (k9_X12_refuses g9 (d + 10) _ [.ref 221, .int 2] (by omega) hm.1 ⟨⟨221, List.mem_singleton.mpr rfl, rfl⟩, ⟨_, rfl, by decide, by decide⟩, trivial⟩) ?_
          rintro r m21 ⟨j23a, j23b, j23c⟩
          obtain ⟨v24, rfl, k22⟩ := aTr_i j23c
          have hm21 : wI (aΘ0 E) m0 m21 := ⟨j23a, aPr_tr hm.2 j23b⟩
          show yR zpg tX12_chance (d + 10) (16, lo, [.int v24], m21) _
          exact yR_ri rfl (h4 q1 q6 q11 y16 e17 x18 e19 q20 m21 v24 k22 hm21 j23b hm21)
        ·
          refine yR_m 2 (fun _ _ _ _ => rfl) ?_
          refine yR_rz rfl ⟨by decide, by decide⟩ ?_
          show yR zpg tX12_chance (d + 10) (8, lo, [.int 1], mem) _
          refine wR_if_ne rfl (a := 1) rfl (fun _ => ?_) (fun q => by exfalso; omega)
          refine wR_la rfl l_0 ?_
          refine wR_cv rfl rfl mO_e hm.1.1 rfl (k5_X12_keeps g5 (d + 10) _ [.ref 221] (by omega) hm.1 ⟨⟨221, List.mem_singleton.mpr rfl, rfl⟩, trivial⟩) ?_
          rintro r m25 ⟨j27a, j27b, j27c⟩
          cases r with
          | some w => exact j27c.elim
          | none =>
            have hm25 : wI (aΘ0 E) m0 m25 := ⟨j27a, aPr_tr hm.2 j27b⟩
            show yR zpg tX12_chance (d + 10) (21, lo, [], m25) _
            refine yR_m 1 (fun _ _ _ _ => rfl) ?_
            refine wR_si rfl rfl (fun lo28 e29 f30 => ?_)
            have lo28_0 := f30 0 _ (by decide) (Or.inl rfl) l_0
            have lo28_1 := f30 1 _ (by decide) (Or.inl rfl) l_1
            refine yR_m 1 (fun _ _ _ _ => rfl) ?_
            refine wR_si rfl rfl (fun lo31 e32 f33 => ?_)
            have lo31_2 := f33 2 _ (by decide) (Or.inl rfl) e29
            have lo31_0 := f33 0 _ (by decide) (Or.inl rfl) lo28_0
            have lo31_1 := f33 1 _ (by decide) (Or.inl rfl) lo28_1
            exact h5 q1 q6 q11 y16 e17 x18 e19 q20 m25 hm25 j27b lo31 lo31_0 lo31_1 lo31_2 e32 hm25

set_option maxRecDepth 100000 in
theorem w_ch_25 {E : zM → Prop} (hE : aEs (aΘ0 E)) {d : Nat} {m0 mem : zM} {P : Option Value → zM → Prop} {n g k : Int32} {lo : List (Nat × Value)} (hm : wI (aΘ0 E) m0 mem) (l_0 : zlg lo 0 = some (.ref 221)) (l_1 : zlg lo 1 = some (.int n)) (l_2 : zlg lo 2 = some (.int g)) (l_3 : zlg lo 3 = some (.int k)) (hQ : ∀ mem, aJ (aΘ0 E) mem → cdOK mem) (hz : ∀ mem, aJ (aΘ0 E) mem → szOK mem) (hn : 1 ≤ n.toInt ∧ n.toInt ≤ 40) (hk : 0 ≤ k.toInt ∧ k.toInt ≤ 40) (hg : 0 ≤ g.toInt ∧ g.toInt ≤ 40) (h1 : (n).toInt ≤ (k).toInt → wI (aΘ0 E) m0 mem → P (some (.int g)) mem) (h2 : (k).toInt < (n).toInt → ∀ (m2 : zM), ∀ (v5 : Int32), (-2147483648 : Int) ≤ v5.toInt ∧ v5.toInt ≤ 2147483647 → wI (aΘ0 E) m0 m2 → aPr aT0 mem m2 → ∀ (y6 : Int32), y6.toInt = (gn (ga m2 226) (gi m2 221 13).toInt) → (gn (ga m2 226) (gi m2 221 13).toInt) ≤ (v5).toInt → ∀ (x12 : Int32), x12.toInt = ((g).toInt + 0) → ∀ (v19 : Int32) (m17 : zM), wI (aΘ0 E) m0 m17 → True → ∀ (x20 : Int32), x20.toInt = ((k).toInt + 1) → ∀ lo, zlg lo 0 = some (.ref 221) → zlg lo 1 = some (.int n) → zlg lo 2 = some (.int x12) → zlg lo 3 = some (.int x20) → wI (aΘ0 E) m0 m17 → yR zpg tX12_chance (d + 10) (25, lo, [], m17) P) (h3 : (k).toInt < (n).toInt → ∀ (m2 : zM), ∀ (v5 : Int32), (-2147483648 : Int) ≤ v5.toInt ∧ v5.toInt ≤ 2147483647 → wI (aΘ0 E) m0 m2 → aPr aT0 mem m2 → ∀ (y6 : Int32), y6.toInt = (gn (ga m2 226) (gi m2 221 13).toInt) → (v5).toInt < (gn (ga m2 226) (gi m2 221 13).toInt) → ∀ (y25 : Int32), y25.toInt = (gn (ga m2 228) (gi m2 221 13).toInt) → (gn (ga m2 228) (gi m2 221 13).toInt) ≤ 0 → ∀ (x31 : Int32), x31.toInt = ((g).toInt + 0) → ∀ (v38 : Int32) (m36 : zM), wI (aΘ0 E) m0 m36 → True → ∀ (x39 : Int32), x39.toInt = ((k).toInt + 1) → ∀ lo, zlg lo 0 = some (.ref 221) → zlg lo 1 = some (.int n) → zlg lo 2 = some (.int x31) → zlg lo 3 = some (.int x39) → wI (aΘ0 E) m0 m36 → yR zpg tX12_chance (d + 10) (25, lo, [], m36) P) (h4 : (k).toInt < (n).toInt → ∀ (m2 : zM), ∀ (v5 : Int32), (-2147483648 : Int) ≤ v5.toInt ∧ v5.toInt ≤ 2147483647 → wI (aΘ0 E) m0 m2 → aPr aT0 mem m2 → ∀ (y6 : Int32), y6.toInt = (gn (ga m2 226) (gi m2 221 13).toInt) → (v5).toInt < (gn (ga m2 226) (gi m2 221 13).toInt) → ∀ (y25 : Int32), y25.toInt = (gn (ga m2 228) (gi m2 221 13).toInt) → 0 < (gn (ga m2 228) (gi m2 221 13).toInt) → ∀ (x47 : Int32), x47.toInt = ((g).toInt + 1) → ∀ (y52 : Int32), y52.toInt = (gn (ga m2 228) (gi m2 221 13).toInt) → ∀ (m54 : zM), ∀ (v57 : Int32), (-2147483648 : Int) ≤ v57.toInt ∧ v57.toInt ≤ 2147483647 → wI (aΘ0 E) m0 m54 → aPr aT0 m2 m54 → ∀ (v60 : Int32) (m58 : zM), wI (aΘ0 E) m0 m58 → True → ∀ (x61 : Int32), x61.toInt = ((k).toInt + 1) → ∀ lo, zlg lo 0 = some (.ref 221) → zlg lo 1 = some (.int n) → zlg lo 2 = some (.int x47) → zlg lo 3 = some (.int x61) → wI (aΘ0 E) m0 m58 → yR zpg tX12_chance (d + 10) (25, lo, [], m58) P) : yR zpg tX12_chance (d + 10) (25, lo, [], mem) P := by
  refine wR_li rfl l_3 ?_
  refine wR_li rfl l_1 ?_
  refine wR_ic_ge rfl (a := (k).toInt) (c := (n).toInt) rfl rfl (fun q1 => ?_) (fun q1 => ?_)
  ·
    refine wR_li rfl l_2 ?_
    exact yR_ri rfl (h1 q1 hm)
  ·
    refine wR_la rfl l_0 ?_
    refine yR_m 1 (fun _ _ _ _ => rfl) ?_
    refine wR_cv rfl rfl mO_e hm.1.1 rfl (h_draw hE (d + 10) _ [.ref 221, .int 100] (by omega) hm.1 ⟨⟨221, List.mem_singleton.mpr rfl, rfl⟩, ⟨_, rfl, by decide, by decide⟩, trivial⟩) ?_
    rintro r m2 ⟨j4a, j4b, j4c⟩
    obtain ⟨v5, rfl, k3⟩ := aTr_i j4c
    have hm2 : wI (aΘ0 E) m0 m2 := ⟨j4a, aPr_tr hm.2 j4b⟩
    show yR zpg tX12_chance (d + 10) (36, lo, [.int v5], m2) _
    have b_m2 := mO_r13 hm2.1.1
    have t_m2 := gR_228 hm2.1.1 (i := (gi m2 221 13).toInt) b_m2.1 (by omega)
    refine wR_la rfl l_0 ?_
    refine wR_gr rfl mO_e mO_17 hm2.1.1 ?_
    refine wR_la rfl l_0 ?_
    refine wR_gi rfl mO_e mO_13 hm2.1.1 rfl ?_
    refine wN_al (a := (gi m2 221 13).toInt) rfl aR_226 hm2.1.1 rfl rfl (by omega) (fun y6 e7 => ?_)
    refine wR_ic_ge rfl (a := (v5).toInt) (c := (gn (ga m2 226) (gi m2 221 13).toInt)) rfl e7 (fun q8 => ?_) (fun q8 => ?_)
    ·
      refine yR_m 1 (fun _ _ _ _ => rfl) ?_
      refine wR_si rfl rfl (fun lo9 e10 f11 => ?_)
      have lo9_0 := f11 0 _ (by decide) (Or.inl rfl) l_0
      have lo9_1 := f11 1 _ (by decide) (Or.inl rfl) l_1
      have lo9_2 := f11 2 _ (by decide) (Or.inl rfl) l_2
      have lo9_3 := f11 3 _ (by decide) (Or.inl rfl) l_3
      refine wR_li rfl lo9_2 ?_
      refine wR_li rfl e10 ?_
      refine wR_if_eq rfl (a := 0) rfl (fun _ => ?_) (fun q => by exfalso; omega)
      refine yR_m 1 (fun _ _ _ _ => rfl) ?_
      refine wN_add (a := (g).toInt) (b := 0) rfl rfl rfl (by omega) (fun x12 e13 => ?_)
      refine wR_si rfl rfl (fun lo14 e15 f16 => ?_)
      have lo14_4 := f16 4 _ (by decide) (Or.inl rfl) e10
      have lo14_0 := f16 0 _ (by decide) (Or.inl rfl) lo9_0
      have lo14_1 := f16 1 _ (by decide) (Or.inl rfl) lo9_1
      have lo14_3 := f16 3 _ (by decide) (Or.inl rfl) lo9_3
      refine wR_la rfl lo14_0 ?_
      refine yR_m 1 (fun _ _ _ _ => rfl) ?_
      refine wR_li rfl lo14_4 ?_
      refine wR_if_eq rfl (a := 0) rfl (fun _ => ?_) (fun q => by exfalso; omega)
      refine yR_m 1 (fun _ _ _ _ => rfl) ?_
      refine wR_cv rfl rfl mO_e hm2.1.1 rfl (h_ticks hE hQ hz (by decide) (by omega) hm2) ?_
      rintro _ m17 ⟨v19, rfl, hI17, k18⟩
      show yR zpg tX12_chance (d + 10) (107, lo14, [.int v19], m17) _
      have b_m17 := mO_r13 hI17.1.1
      have t_m17 := gR_228 hI17.1.1 (i := (gi m17 221 13).toInt) b_m17.1 (by omega)
      refine yR_m 1 (fun _ _ _ _ => rfl) ?_
      refine wN_in (a := (k).toInt) (b := 1) rfl rfl lo14_3 rfl rfl (by omega) (fun x20 e21 => fun lo22 e23 f24 => ?_)
      have lo22_2 := f24 2 _ (by decide) (Or.inl rfl) e15
      have lo22_4 := f24 4 _ (by decide) (Or.inl rfl) lo14_4
      have lo22_0 := f24 0 _ (by decide) (Or.inl rfl) lo14_0
      have lo22_1 := f24 1 _ (by decide) (Or.inl rfl) lo14_1
      exact yR_m 1 (fun _ _ _ _ => rfl) (h2 q1 m2 v5 k3 hm2 j4b y6 e7 q8 x12 e13 v19 m17 hI17 k18 x20 e21 lo22 lo22_0 lo22_1 lo22_2 e23 hI17)
    ·
      refine wR_la rfl l_0 ?_
      refine wR_gr rfl mO_e mO_19 hm2.1.1 ?_
      refine wR_la rfl l_0 ?_
      refine wR_gi rfl mO_e mO_13 hm2.1.1 rfl ?_
      refine wN_al (a := (gi m2 221 13).toInt) rfl aR_228 hm2.1.1 rfl rfl (by omega) (fun y25 e26 => ?_)
      refine wR_if_le rfl (a := (gn (ga m2 228) (gi m2 221 13).toInt)) e26 (fun q27 => ?_) (fun q27 => ?_)
      ·
        refine yR_m 1 (fun _ _ _ _ => rfl) ?_
        refine wR_si rfl rfl (fun lo28 e29 f30 => ?_)
        have lo28_0 := f30 0 _ (by decide) (Or.inl rfl) l_0
        have lo28_1 := f30 1 _ (by decide) (Or.inl rfl) l_1
        have lo28_2 := f30 2 _ (by decide) (Or.inl rfl) l_2
        have lo28_3 := f30 3 _ (by decide) (Or.inl rfl) l_3
        refine wR_li rfl lo28_2 ?_
        refine wR_li rfl e29 ?_
        refine wR_if_eq rfl (a := 0) rfl (fun _ => ?_) (fun q => by exfalso; omega)
        refine yR_m 1 (fun _ _ _ _ => rfl) ?_
        refine wN_add (a := (g).toInt) (b := 0) rfl rfl rfl (by omega) (fun x31 e32 => ?_)
        refine wR_si rfl rfl (fun lo33 e34 f35 => ?_)
        have lo33_4 := f35 4 _ (by decide) (Or.inl rfl) e29
        have lo33_0 := f35 0 _ (by decide) (Or.inl rfl) lo28_0
        have lo33_1 := f35 1 _ (by decide) (Or.inl rfl) lo28_1
        have lo33_3 := f35 3 _ (by decide) (Or.inl rfl) lo28_3
        refine wR_la rfl lo33_0 ?_
        refine yR_m 1 (fun _ _ _ _ => rfl) ?_
        refine wR_li rfl lo33_4 ?_
        refine wR_if_eq rfl (a := 0) rfl (fun _ => ?_) (fun q => by exfalso; omega)
        refine yR_m 1 (fun _ _ _ _ => rfl) ?_
        refine wR_cv rfl rfl mO_e hm2.1.1 rfl (h_ticks hE hQ hz (by decide) (by omega) hm2) ?_
        rintro _ m36 ⟨v38, rfl, hI36, k37⟩
        show yR zpg tX12_chance (d + 10) (107, lo33, [.int v38], m36) _
        have b_m36 := mO_r13 hI36.1.1
        have t_m36 := gR_228 hI36.1.1 (i := (gi m36 221 13).toInt) b_m36.1 (by omega)
        refine yR_m 1 (fun _ _ _ _ => rfl) ?_
        refine wN_in (a := (k).toInt) (b := 1) rfl rfl lo33_3 rfl rfl (by omega) (fun x39 e40 => fun lo41 e42 f43 => ?_)
        have lo41_2 := f43 2 _ (by decide) (Or.inl rfl) e34
        have lo41_4 := f43 4 _ (by decide) (Or.inl rfl) lo33_4
        have lo41_0 := f43 0 _ (by decide) (Or.inl rfl) lo33_0
        have lo41_1 := f43 1 _ (by decide) (Or.inl rfl) lo33_1
        exact yR_m 1 (fun _ _ _ _ => rfl) (h3 q1 m2 v5 k3 hm2 j4b y6 e7 q8 y25 e26 q27 x31 e32 v38 m36 hI36 k37 x39 e40 lo41 lo41_0 lo41_1 lo41_2 e42 hI36)
      ·
        refine yR_m 2 (fun _ _ _ _ => rfl) ?_
        refine wR_si rfl rfl (fun lo44 e45 f46 => ?_)
        have lo44_0 := f46 0 _ (by decide) (Or.inl rfl) l_0
        have lo44_1 := f46 1 _ (by decide) (Or.inl rfl) l_1
        have lo44_2 := f46 2 _ (by decide) (Or.inl rfl) l_2
        have lo44_3 := f46 3 _ (by decide) (Or.inl rfl) l_3
        refine wR_li rfl lo44_2 ?_
        refine wR_li rfl e45 ?_
        refine wR_if_eq rfl (a := 1) rfl (fun q => by exfalso; omega) (fun _ => ?_)
        refine yR_m 2 (fun _ _ _ _ => rfl) ?_
        refine wN_add (a := (g).toInt) (b := 1) rfl rfl rfl (by omega) (fun x47 e48 => ?_)
        refine wR_si rfl rfl (fun lo49 e50 f51 => ?_)
        have lo49_4 := f51 4 _ (by decide) (Or.inl rfl) e45
        have lo49_0 := f51 0 _ (by decide) (Or.inl rfl) lo44_0
        have lo49_1 := f51 1 _ (by decide) (Or.inl rfl) lo44_1
        have lo49_3 := f51 3 _ (by decide) (Or.inl rfl) lo44_3
        refine wR_la rfl lo49_0 ?_
        refine yR_m 1 (fun _ _ _ _ => rfl) ?_
        refine wR_li rfl lo49_4 ?_
        refine wR_if_eq rfl (a := 1) rfl (fun q => by exfalso; omega) (fun _ => ?_)
        refine wR_la rfl lo49_0 ?_
        refine wR_la rfl lo49_0 ?_
        refine wR_gr rfl mO_e mO_19 hm2.1.1 ?_
        refine wR_la rfl lo49_0 ?_
        refine wR_gi rfl mO_e mO_13 hm2.1.1 rfl ?_
        refine wN_al (a := (gi m2 221 13).toInt) rfl aR_228 hm2.1.1 rfl rfl (by omega) (fun y52 e53 => ?_)
        refine wR_cv rfl rfl mO_e hm2.1.1 rfl (h_draw hE (d + 10) _ [.ref 221, .int y52] (by omega) hm2.1 ⟨⟨221, List.mem_singleton.mpr rfl, rfl⟩, ⟨_, rfl, (by rw [e53]; exact (by omega))⟩, trivial⟩) ?_
        rintro r m54 ⟨j56a, j56b, j56c⟩
        obtain ⟨v57, rfl, k55⟩ := aTr_i j56c
        have hm54 : wI (aΘ0 E) m0 m54 := ⟨j56a, aPr_tr hm2.2 j56b⟩
        show yR zpg tX12_chance (d + 10) (100, lo49, [.int v57, .int 0, .ref 221], m54) _
        have b_m54 := mO_r13 hm54.1.1
        have t_m54 := gR_228 hm54.1.1 (i := (gi m54 221 13).toInt) b_m54.1 (by omega)
        refine yR_m 1 (fun _ _ _ _ => rfl) ?_
        refine wR_cv rfl rfl mO_e hm54.1.1 rfl (h_ticks hE hQ hz (by decide) (by omega) hm54) ?_
        rintro _ m58 ⟨v60, rfl, hI58, k59⟩
        show yR zpg tX12_chance (d + 10) (107, lo49, [.int v60], m58) _
        have b_m58 := mO_r13 hI58.1.1
        have t_m58 := gR_228 hI58.1.1 (i := (gi m58 221 13).toInt) b_m58.1 (by omega)
        refine yR_m 1 (fun _ _ _ _ => rfl) ?_
        refine wN_in (a := (k).toInt) (b := 1) rfl rfl lo49_3 rfl rfl (by omega) (fun x61 e62 => fun lo63 e64 f65 => ?_)
        have lo63_2 := f65 2 _ (by decide) (Or.inl rfl) e50
        have lo63_4 := f65 4 _ (by decide) (Or.inl rfl) lo49_4
        have lo63_0 := f65 0 _ (by decide) (Or.inl rfl) lo49_0
        have lo63_1 := f65 1 _ (by decide) (Or.inl rfl) lo49_1
        exact yR_m 1 (fun _ _ _ _ => rfl) (h4 q1 m2 v5 k3 hm2 j4b y6 e7 q8 y25 e26 q27 x47 e48 y52 e53 m54 v57 k55 hm54 j56b v60 m58 hI58 k59 x61 e62 lo63 lo63_0 lo63_1 lo63_2 e64 hI58)

theorem ch_loop {E : zM → Prop} (hE : aEs (aΘ0 E)) (hQ : ∀ mem, aJ (aΘ0 E) mem → cdOK mem) (hz : ∀ mem, aJ (aΘ0 E) mem → szOK mem) {m0 : zM} {d : Nat} {n : Int32} (hn : 1 ≤ n.toInt ∧ n.toInt ≤ 40) : ∀ (f : Nat) (g k : Int32) (mem : zM) (lo : List (Nat × Value)), 41 ≤ k.toInt + (f : Int) → 0 ≤ k.toInt → k.toInt ≤ 40 → 0 ≤ g.toInt → g.toInt ≤ k.toInt → zlg lo 0 = some (.ref 221) → zlg lo 1 = some (.int n) → zlg lo 2 = some (.int g) → zlg lo 3 = some (.int k) → wI (aΘ0 E) m0 mem → yR zpg tX12_chance (d + 10) (25, lo, [], mem) (fun r m => aJ (aΘ0 E) m ∧ aPr aT0 m0 m ∧ aTr (some (.inl (-2147483648, 2147483647))) r) := by
  intro f
  induction f with
  | zero => intro g k mem lo hf k0 k1; omega
  | succ f ih =>
    intro g k mem lo hf k0 k1 g0 g1 l0 l1 l2 l3 hI
    exact w_ch_25 hE hI l0 l1 l2 l3 hQ hz hn ⟨k0, k1⟩ ⟨g0, by omega⟩
        (fun q1 hI => ⟨hI.1, hI.2, _, rfl, (i32_b _).1, (i32_b _).2⟩)
        (fun q1 m2 v5 k3 hm2 j4b y6 e7 q8 x12 e13 v19 m17 hI17 k18 x20 e21 lo a0 a1 a2 a3 hI => ih _ _ _ lo (by omega) (by omega) (by omega) (by omega) (by omega) a0 a1 a2 a3 hI)
        (fun q1 m2 v5 k3 hm2 j4b y6 e7 q8 y25 e26 q27 x31 e32 v38 m36 hI36 k37 x39 e40 lo a0 a1 a2 a3 hI => ih _ _ _ lo (by omega) (by omega) (by omega) (by omega) (by omega) a0 a1 a2 a3 hI)
        (fun q1 m2 v5 k3 hm2 j4b y6 e7 q8 y25 e26 q27 x47 e48 y52 e53 m54 v57 k55 hm54 j56b v60 m58 hI58 k59 x61 e62 lo a0 a1 a2 a3 hI => ih _ _ _ lo (by omega) (by omega) (by omega) (by omega) (by omega) a0 a1 a2 a3 hI)
theorem h_chance {E : zM → Prop} (hE : aEs (aΘ0 E)) (h9 : aH9 E) (h5 : aH5 E) (hQ : ∀ mem, aJ (aΘ0 E) mem → cdOK mem) (hz : ∀ mem, aJ (aΘ0 E) mem → szOK mem) {m0 mem : zM} {d : Nat} (hd : 11 ≤ d) {n : Int32} (hI : wI (aΘ0 E) m0 mem) : yC zpg d 266 [.ref 221, .int n] mem (fun r m => aJ (aΘ0 E) m ∧ aPr aT0 m0 m ∧ aTr (some (.inl (-2147483648, 2147483647))) r) := by
  obtain ⟨d, rfl⟩ : ∃ q, d = q + 11 := ⟨d - 11, by omega⟩
  refine yC_of (t := tX12_chance) rfl rfl ?_
  exact w_ch_0 hE hI rfl rfl h9 h5
        (fun q1 m2 v5 k3 hm2 j4b hI => ⟨hI.1, hI.2, _, rfl, (i32_b _).1, (i32_b _).2⟩)
        (fun q1 q6 m7 v10 k8 hm7 j9b hI => ⟨hI.1, hI.2, _, rfl, (i32_b _).1, (i32_b _).2⟩)
        (fun q1 q6 q11 m12 v15 k13 hm12 j14b hI => ⟨hI.1, hI.2, _, rfl, (i32_b _).1, (i32_b _).2⟩)
        (fun q1 q6 q11 y16 e17 x18 e19 q20 m21 v24 k22 hm21 j23b hI => ⟨hI.1, hI.2, _, rfl, (i32_b _).1, (i32_b _).2⟩)
        (fun q1 q6 q11 y16 e17 x18 e19 q20 m25 hm25 j27b lo a0 a1 a2 a3 hI => ch_loop hE hQ hz (by omega) 41 0 0 _ lo (by decide) (by decide) (by decide) (by decide) (by decide) a0 a1 a2 a3 hI)
