/-! reads -/
section RD
variable {d : Nat} {mr mem : zM} {fm : Int} {l : List Fm}
def odQ (mr : zM) (fm s0 v : Int) (m : zM) : Prop := (kB mr m ∧ tOK m) ∧ (0 ≤ v ∧ v ≤ 1) ∧ (1 ≤ fk m ∨ ∃ l', PI mr m fm l' v ∧ s0 < (gi m 221 4).toInt)
def goQ (mr : zM) (fm s0 v : Int) (m : zM) : Prop := (kB mr m ∧ tOK m) ∧ (0 ≤ v ∧ v ≤ 1) ∧ (1 ≤ fk m ∨ (v = 1 ∧ ∃ l', PI mr m fm l' (gi m 221 45).toInt ∧ s0 < (gi m 221 4).toInt) ∨ (v = 0 ∧ ∃ l', PI mr m fm l' 1 ∧ hS l' = 0 ∧ s0 ≤ (gi m 221 4).toInt))
theorem h_operand3 {x : Int32} (hm : aTm aT0 mem) (h : PI mr mem fm l (gi mem 221 45).toInt) (e : gi mem 221 45 = x) (h0 : x.toInt = 0) (hd : 6 ≤ d) : yC zpg d 188 [.ref 221] mem (fun r m => ∃ v : Int32, r = some (.int v) ∧ aTm aT0 m ∧ (odQ mr fm (gi mem 221 4).toInt v.toInt m ∧ 0 ≤ v.toInt ∧ v.toInt ≤ 1)) := by
  rw [e, h0] at h
  refine yC_mono (fun r m q => ?_) (h_operand hm h hd)
  obtain ⟨v, q1, q2, q3⟩ := q
  exact ⟨v, q1, q2, q3, q3.2.1⟩
theorem h_goesOn3 {x : Int32} (hm : aTm aT0 mem) (h : PI mr mem fm l (gi mem 221 45).toInt) (e : gi mem 221 45 = x) (h0 : ¬ x.toInt = 0) (hd : 6 ≤ d) : yC zpg d 189 [.ref 221] mem (fun r m => ∃ v : Int32, r = some (.int v) ∧ aTm aT0 m ∧ (goQ mr fm (gi mem 221 4).toInt v.toInt m ∧ 0 ≤ v.toInt ∧ v.toInt ≤ 1)) := by
  have rg := mO_r45 hm
  have e1 : (gi mem 221 45).toInt = 1 := by rw [e] at rg ⊢; omega
  rw [e1] at h
  cases l with
  | nil => exact h.2.1.2.2.elim
  | cons f r =>
    refine yC_mono (fun r m q => ?_) (h_goesOn hm h e1 hd)
    obtain ⟨v, q1, q2, q3⟩ := q
    exact ⟨v, q1, q2, q3, q3.2.1⟩
/-- what reads leaves -/
def rdP (mr : zM) (fm s0 : Int) (r : Option Value) (m : zM) : Prop := r = none ∧ aTm aT0 m ∧ (kB mr m ∧ tOK m) ∧ (fk m = 0 → (fm ≤ (gi m 221 33).toInt ∧ (gi m 221 33).toInt < (gi m 221 4).toInt) ∧ hgt (ga m 238) (1600 * inI m + fm).toNat ((gi m 221 33).toInt - fm).toNat = some 1 ∧ s0 ≤ (gi m 221 4).toInt)
theorem PI_e45 {m : zM} {op : Int} {v : Int32} (h : PI mr m fm l op) : PI mr (si m 221 45 v) fm l op := by
  have F : fr [] [45] m (si m 221 45 v) := fr_sv rfl fr_rf
  have e8 : fk (si m 221 45 v) = 0 := by show (gi (si m 221 45 v) 221 8).toInt = 0; rw [fr_gi F rfl]; exact h.1.2.2.1
  exact PI_fr h (fr_up F rfl rfl) (tOK_fr F rfl rfl rfl rfl (by omega) h.1.2.1) e8 (by rw [fr_gi F rfl]; omega)
theorem rd_end {m : zM} {s0 : Int} (hm : aTm aT0 m) (h : PI mr m fm l 1) (h0 : hS l = 0) (hs : s0 ≤ (gi m 221 4).toInt) : rdP mr fm s0 none m := by
  have rg := PI_rg hm h
  refine ⟨rfl, hm, ⟨h.1.1, h.1.2.1⟩, fun _ => ⟨⟨h.2.2.2.1.1.2.1, ?_⟩, ?_, hs⟩⟩
  · have := h.2.2.2.1.1.2.2
    omega
  · have e := h.2.2.2.1.2
    rw [h0] at e
    exact e
theorem rd_flt {m : zM} {s0 : Int} (hm : aTm aT0 m) (kb : kB mr m) (T : tOK m) (h8 : ¬ (gi m 221 8).toInt = 0) : rdP mr fm s0 none m := ⟨rfl, hm, ⟨kb, T⟩, fun q => absurd q h8⟩
set_option maxRecDepth 100000 in
theorem w_rd_43 {d : Nat} {mem : zM} {P : Option Value → zM → Prop} {mr : zM} {fm : Int} {l : List Fm} {mo : Int32} {lo : List (Nat × Value)} (hm : aTm aT0 mem) (l_0 : zlg lo 0 = some (.ref 221)) (l_2 : zlg lo 2 = some (.int mo)) (h1 : (mo).toInt = 0 → aTm aT0 mem → P none mem) (s1 : ¬ (mo).toInt = 0 → ¬ (gi mem 221 45).toInt = 0 → PI mr mem fm l (gi mem 221 45).toInt) (h2 : ¬ (mo).toInt = 0 → ¬ (gi mem 221 45).toInt = 0 → ∀ (v5 : Int32) (m3 : zM), aTm aT0 m3 → (goQ mr fm (gi mem 221 4).toInt v5.toInt m3 ∧ 0 ≤ v5.toInt ∧ v5.toInt ≤ 1) → (v5).toInt = 0 → ∀ lo, zlg lo 0 = some (.ref 221) → zlg lo 2 = some (.int 0) → aTm aT0 m3 → yR zpg tX12_reads (d + 7) (43, lo, [], m3) P) (h3 : ¬ (mo).toInt = 0 → ¬ (gi mem 221 45).toInt = 0 → ∀ (v5 : Int32) (m3 : zM), aTm aT0 m3 → (goQ mr fm (gi mem 221 4).toInt v5.toInt m3 ∧ 0 ≤ v5.toInt ∧ v5.toInt ≤ 1) → ¬ (v5).toInt = 0 → ¬ (gi m3 221 8).toInt = 0 → ∀ lo, zlg lo 0 = some (.ref 221) → zlg lo 2 = some (.int 0) → aTm aT0 m3 → yR zpg tX12_reads (d + 7) (43, lo, [], m3) P) (h4 : ¬ (mo).toInt = 0 → ¬ (gi mem 221 45).toInt = 0 → ∀ (v5 : Int32) (m3 : zM), aTm aT0 m3 → (goQ mr fm (gi mem 221 4).toInt v5.toInt m3 ∧ 0 ≤ v5.toInt ∧ v5.toInt ≤ 1) → ¬ (v5).toInt = 0 → (gi m3 221 8).toInt = 0 → ∀ lo, zlg lo 0 = some (.ref 221) → zlg lo 2 = some (.int 1) → aTm aT0 m3 → yR zpg tX12_reads (d + 7) (43, lo, [], m3) P) (s2 : ¬ (mo).toInt = 0 → (gi mem 221 45).toInt = 0 → PI mr mem fm l (gi mem 221 45).toInt) (h5 : ¬ (mo).toInt = 0 → (gi mem 221 45).toInt = 0 → ∀ (v22 : Int32) (m20 : zM), aTm aT0 m20 → (odQ mr fm (gi mem 221 4).toInt v22.toInt m20 ∧ 0 ≤ v22.toInt ∧ v22.toInt ≤ 1) → ¬ (gi m20 221 8).toInt = 0 → ∀ lo, zlg lo 0 = some (.ref 221) → zlg lo 2 = some (.int 0) → aTm aT0 (si m20 221 45 v22) → yR zpg tX12_reads (d + 7) (43, lo, [], (si m20 221 45 v22)) P) (h6 : ¬ (mo).toInt = 0 → (gi mem 221 45).toInt = 0 → ∀ (v22 : Int32) (m20 : zM), aTm aT0 m20 → (odQ mr fm (gi mem 221 4).toInt v22.toInt m20 ∧ 0 ≤ v22.toInt ∧ v22.toInt ≤ 1) → (gi m20 221 8).toInt = 0 → ∀ lo, zlg lo 0 = some (.ref 221) → zlg lo 2 = some (.int 1) → aTm aT0 (si m20 221 45 v22) → yR zpg tX12_reads (d + 7) (43, lo, [], (si m20 221 45 v22)) P) : yR zpg tX12_reads (d + 7) (43, lo, [], mem) P := by
  refine wR_li rfl l_2 ?_
  refine wR_if_eq rfl (a := (mo).toInt) rfl (fun q1 => ?_) (fun q1 => ?_)
  ·
    exact yR_rv rfl (h1 q1 hm)
  ·
    refine wR_la rfl l_0 ?_
    refine wR_gi rfl mO_e mO_45 hm rfl ?_
    refine wR_if_ne rfl (a := (gi mem 221 45).toInt) rfl (fun q2 => ?_) (fun q2 => ?_)
    ·
      refine wR_la rfl l_0 ?_
      refine wR_cv rfl rfl mO_e hm rfl (h_goesOn3 hm (s1 q1 q2) rfl (by omega) (by omega)) ?_
      rintro _ m3 ⟨v5, rfl, hm3, k4⟩
      show yR zpg tX12_reads (d + 7) (69, lo, [.int v5], m3) _
      refine wR_si rfl rfl (fun lo6 e7 f8 => ?_)
      have lo6_0 := f8 0 _ (by decide) (Or.inl rfl) l_0
      refine wR_li rfl e7 ?_
      refine wR_if_eq rfl (a := (v5).toInt) rfl (fun q9 => ?_) (fun q9 => ?_)
      ·
        refine yR_m 1 (fun _ _ _ _ => rfl) ?_
        refine wR_si rfl rfl (fun lo10 e11 f12 => ?_)
        have lo10_0 := f12 0 _ (by decide) (Or.inl rfl) lo6_0
        exact yR_m 1 (fun _ _ _ _ => rfl) (h2 q1 q2 v5 m3 hm3 k4 q9 lo10 lo10_0 e11 hm3)
      ·
        refine wR_la rfl lo6_0 ?_
        refine wR_gi rfl mO_e mO_8 hm3 rfl ?_
        refine wR_if_ne rfl (a := (gi m3 221 8).toInt) rfl (fun q13 => ?_) (fun q13 => ?_)
        ·
          refine yR_m 1 (fun _ _ _ _ => rfl) ?_
          refine wR_si rfl rfl (fun lo14 e15 f16 => ?_)
          have lo14_0 := f16 0 _ (by decide) (Or.inl rfl) lo6_0
          exact yR_m 1 (fun _ _ _ _ => rfl) (h3 q1 q2 v5 m3 hm3 k4 q9 q13 lo14 lo14_0 e15 hm3)
        ·
          refine yR_m 2 (fun _ _ _ _ => rfl) ?_
          refine wR_si rfl rfl (fun lo17 e18 f19 => ?_)
          have lo17_0 := f19 0 _ (by decide) (Or.inl rfl) lo6_0
          exact yR_m 1 (fun _ _ _ _ => rfl) (h4 q1 q2 v5 m3 hm3 k4 q9 q13 lo17 lo17_0 e18 hm3)
    ·
      refine wR_la rfl l_0 ?_
      refine wR_la rfl l_0 ?_
      refine wR_cv rfl rfl mO_e hm rfl (h_operand3 hm (s2 q1 q2) rfl (by omega) (by omega)) ?_
      rintro _ m20 ⟨v22, rfl, hm20, k21⟩
      show yR zpg tX12_reads (d + 7) (59, lo, [.int v22, .ref 221], m20) _
      refine wR_pi rfl mO_e mO_45 hm20 (i32_01 (by omega) (by omega)) ?_
      have hm_1 : aTm aT0 (si m20 221 45 v22) := tm_si mO_e mO_45 hm20 (by omega)
      refine yR_m 1 (fun _ _ _ _ => rfl) ?_
      refine wR_li rfl l_2 ?_
      refine wR_if_eq rfl (a := (mo).toInt) rfl (fun q => by exfalso; omega) (fun _ => ?_)
      refine wR_la rfl l_0 ?_
      refine wR_gi rfl mO_e mO_8 hm_1 (gi_sv_ne (by decide)) ?_
      refine wR_if_ne rfl (a := (gi m20 221 8).toInt) rfl (fun q23 => ?_) (fun q23 => ?_)
      ·
        refine yR_m 1 (fun _ _ _ _ => rfl) ?_
        refine wR_si rfl rfl (fun lo24 e25 f26 => ?_)
        have lo24_0 := f26 0 _ (by decide) (Or.inl rfl) l_0
        exact yR_m 1 (fun _ _ _ _ => rfl) (h5 q1 q2 v22 m20 hm20 k21 q23 lo24 lo24_0 e25 hm_1)
      ·
        refine yR_m 2 (fun _ _ _ _ => rfl) ?_
        refine wR_si rfl rfl (fun lo27 e28 f29 => ?_)
        have lo27_0 := f29 0 _ (by decide) (Or.inl rfl) l_0
        exact yR_m 1 (fun _ _ _ _ => rfl) (h6 q1 q2 v22 m20 hm20 k21 q23 lo27 lo27_0 e28 hm_1)

theorem rd_0 {s0 : Int} {mo : Int32} {lo : List (Nat × Value)} (hm : aTm aT0 mem) (h : rdP mr fm s0 none mem) (h0 : mo.toInt = 0) (a0 : zlg lo 0 = some (.ref 221)) (a2 : zlg lo 2 = some (.int mo)) : yR zpg tX12_reads (d + 7) (43, lo, [], mem) (rdP mr fm s0) := by
  exact w_rd_43 (mr := mr) (fm := fm) (l := []) hm a0 a2
        (fun q1 hm => h)
        (fun q1 q2 => by exfalso; omega)
        (fun q1 q2 v5 m3 hm3 k4 q9 lo a0 a2 hm => by exfalso; omega)
        (fun q1 q2 v5 m3 hm3 k4 q9 q13 lo a0 a2 hm => by exfalso; omega)
        (fun q1 q2 v5 m3 hm3 k4 q9 q13 lo a0 a2 hm => by exfalso; omega)
        (fun q1 q2 => by exfalso; omega)
        (fun q1 q2 v22 m20 hm20 k21 q23 lo a0 a2 hm => by exfalso; omega)
        (fun q1 q2 v22 m20 hm20 k21 q23 lo a0 a2 hm => by exfalso; omega)
theorem rd_loop {s0 : Int} : ∀ (f : Nat) (mem : zM) (l : List Fm) (mo : Int32) (lo : List (Nat × Value)), 1600 < (gi mem 221 4).toInt + (f : Int) → s0 ≤ (gi mem 221 4).toInt → aTm aT0 mem → PI mr mem fm l (gi mem 221 45).toInt → mo.toInt = 1 → zlg lo 0 = some (.ref 221) → zlg lo 2 = some (.int mo) → yR zpg tX12_reads (d + 7) (43, lo, [], mem) (rdP mr fm s0) := by
  intro f
  induction f with
  | zero =>
    intro mem l mo lo hf hs hm
    have := mO_r4 hm
    omega
  | succ f ih =>
    intro mem l mo lo hf hs hm h hmo a0 a2
    exact w_rd_43 (mr := mr) (fm := fm) (l := l) hm a0 a2
        (fun q1 hm2 => by exfalso; omega)
        (fun q1 q2 => h)
        (fun q1 q2 v5 m3 hm3 k4 q9 lo a0 a2 hm2 => by
          have G := k4.1
          refine rd_0 hm2 ?_ rfl a0 a2
          rcases G.2.2 with w | ⟨w, -⟩ | ⟨-, l', u1, u2, u3⟩
          · exact rd_flt hm2 G.1.1 G.1.2 (by have w' : 1 ≤ (gi m3 221 8).toInt := w; omega)
          · exfalso; omega
          · exact rd_end hm2 u1 u2 (by omega))
        (fun q1 q2 v5 m3 hm3 k4 q9 q13 lo a0 a2 hm2 => by
          have G := k4.1
          exact rd_0 hm2 (rd_flt hm2 G.1.1 G.1.2 q13) rfl a0 a2)
        (fun q1 q2 v5 m3 hm3 k4 q9 q13 lo a0 a2 hm2 => by
          have G := k4.1
          rcases G.2.2 with w | ⟨w, l', u1, u2⟩ | ⟨w, -⟩
          · have w' : 1 ≤ (gi m3 221 8).toInt := w
            omega
          · exact ih m3 l' 1 lo (by omega) (by omega) hm2 u1 rfl a0 a2
          · exfalso; omega)
        (fun q1 q2 => h)
        (fun q1 q2 v22 m20 hm20 k21 q23 lo a0 a2 hm2 => by
          have G := k21.1
          have F : fr [] [45] m20 (si m20 221 45 v22) := fr_sv rfl fr_rf
          exact rd_0 hm2 (rd_flt hm2 (kB_tr G.1.1 (kB_fr F rfl rfl rfl rfl rfl rfl rfl rfl)) (tOK_fr F rfl rfl rfl rfl (by show 0 ≤ (gi (si m20 221 45 v22) 221 8).toInt; rw [fr_gi F rfl]; exact G.1.2.2) G.1.2) (by rw [fr_gi F rfl]; exact q23)) rfl a0 a2)
        (fun q1 q2 v22 m20 hm20 k21 q23 lo a0 a2 hm2 => by
          have G := k21.1
          have F : fr [] [45] m20 (si m20 221 45 v22) := fr_sv rfl fr_rf
          rcases G.2.2 with w | ⟨l', u1, u2⟩
          · have w' : 1 ≤ (gi m20 221 8).toInt := w
            omega
          · have e4 : gi (si m20 221 45 v22) 221 4 = gi m20 221 4 := fr_gi F rfl
            exact ih (si m20 221 45 v22) l' 1 lo (by rw [e4]; omega) (by rw [e4]; omega) hm2 (by rw [(gi_eqO (isO_of hm20) (by decide))]; exact PI_e45 u1) rfl a0 a2)
set_option maxRecDepth 100000 in
theorem w_rd_0 {d : Nat} {mem : zM} {P : Option Value → zM → Prop} {ts : Int32} {lo : List (Nat × Value)} (hm : aTm aT0 mem) (l_0 : zlg lo 0 = some (.ref 221)) (l_1 : zlg lo 1 = some (.int ts)) (h1 : (gi mem 221 8).toInt ≤ 0 → (ts).toInt = 0 → ∀ (x3 : Int32), x3.toInt = ((0 + 1) : Int) → ∀ lo, zlg lo 0 = some (.ref 221) → zlg lo 2 = some (.int 1) → aTm aT0 (si (sx (sx (sx (sx (si (si (si (si mem 221 41 0) 221 42 0) 221 44 0) 221 45 0) 242 0 0) 243 0 0) 244 0 1) 246 0 0) 221 41 x3) → yR zpg tX12_reads (d + 7) (43, lo, [], (si (sx (sx (sx (sx (si (si (si (si mem 221 41 0) 221 42 0) 221 44 0) 221 45 0) 242 0 0) 243 0 0) 244 0 1) 246 0 0) 221 41 x3)) P) (h2 : (gi mem 221 8).toInt ≤ 0 → ¬ (ts).toInt = 0 → ∀ (x8 : Int32), x8.toInt = ((0 + 1) : Int) → ∀ lo, zlg lo 0 = some (.ref 221) → zlg lo 2 = some (.int 1) → aTm aT0 (si (sx (sx (sx (sx (si (si (si (si mem 221 41 0) 221 42 0) 221 44 0) 221 45 0) 242 0 1) 243 0 0) 244 0 1) 246 0 0) 221 41 x8) → yR zpg tX12_reads (d + 7) (43, lo, [], (si (sx (sx (sx (sx (si (si (si (si mem 221 41 0) 221 42 0) 221 44 0) 221 45 0) 242 0 1) 243 0 0) 244 0 1) 246 0 0) 221 41 x8)) P) (h3 : 0 < (gi mem 221 8).toInt → aTm aT0 mem → P none mem) : yR zpg tX12_reads (d + 7) (0, lo, [], mem) P := by
  refine wR_la rfl l_0 ?_
  refine wR_gi rfl mO_e mO_8 hm rfl ?_
  refine wR_if_le rfl (a := (gi mem 221 8).toInt) rfl (fun q1 => ?_) (fun q1 => ?_)
  ·
    refine wR_la rfl l_0 ?_
    refine yR_m 1 (fun _ _ _ _ => rfl) ?_
    refine wR_pi rfl mO_e mO_41 hm rfl ?_
    have hm_1 : aTm aT0 (si mem 221 41 0) := tm_si mO_e mO_41 hm (i32_b _)
    refine wR_la rfl l_0 ?_
    refine yR_m 1 (fun _ _ _ _ => rfl) ?_
    refine wR_pi rfl mO_e mO_42 hm_1 rfl ?_
    have hm_2 : aTm aT0 (si (si mem 221 41 0) 221 42 0) := tm_si mO_e mO_42 hm_1 (i32_b _)
    refine wR_la rfl l_0 ?_
    refine yR_m 1 (fun _ _ _ _ => rfl) ?_
    refine wR_pi rfl mO_e mO_44 hm_2 rfl ?_
    have hm_3 : aTm aT0 (si (si (si mem 221 41 0) 221 42 0) 221 44 0) := tm_si mO_e mO_44 hm_2 (i32_b _)
    refine wR_la rfl l_0 ?_
    refine yR_m 1 (fun _ _ _ _ => rfl) ?_
    refine wR_pi rfl mO_e mO_45 hm_3 rfl ?_
    have hm_4 : aTm aT0 (si (si (si (si mem 221 41 0) 221 42 0) 221 44 0) 221 45 0) := tm_si mO_e mO_45 hm_3 (by decide)
    refine wR_la rfl l_0 ?_
    refine wR_li rfl l_1 ?_
    refine wR_if_eq rfl (a := (ts).toInt) rfl (fun q2 => ?_) (fun q2 => ?_)
    ·
      refine yR_m 1 (fun _ _ _ _ => rfl) ?_
      refine wR_iv rfl rfl mO_e hm_4 rfl rfl rfl rfl ?_
      show yR zpg tX12_pushes (d + 6) (0, [(0, .ref 221), (1, .int 0)], [], (si (si (si (si mem 221 41 0) 221 42 0) 221 44 0) 221 45 0)) _
      refine yR_m 1 (fun _ _ _ _ => rfl) ?_
      refine wR_gr rfl mO_e mO_36 hm_4 ?_
      refine yR_m 1 (fun _ _ _ _ => rfl) ?_
      refine wR_gi rfl mO_e mO_41 hm_4 ((gi_sv_ne (by decide)).trans ((gi_sv_ne (by decide)).trans ((gi_sv_ne (by decide)).trans (gi_si_eq mO_e mO_41 hm)))) ?_
      refine yR_m 1 (fun _ _ _ _ => rfl) ?_
      refine wN_as (a := 0) rfl aR_242 hm_4 rfl (by decide) ?_
      have hm_5 : aTm aT0 (sx (si (si (si (si mem 221 41 0) 221 42 0) 221 44 0) 221 45 0) 242 0 0) := tm_sa aR_242 hm_4 (i32_b _)
      refine yR_m 1 (fun _ _ _ _ => rfl) ?_
      refine wR_gr rfl mO_e mO_37 hm_5 ?_
      refine yR_m 1 (fun _ _ _ _ => rfl) ?_
      refine wR_gi rfl mO_e mO_41 hm_5 ((gi_sa).trans ((gi_sv_ne (by decide)).trans ((gi_sv_ne (by decide)).trans ((gi_sv_ne (by decide)).trans (gi_si_eq mO_e mO_41 hm))))) ?_
      refine yR_m 1 (fun _ _ _ _ => rfl) ?_
      refine wN_as (a := 0) rfl aR_243 hm_5 rfl (by decide) ?_
      have hm_6 : aTm aT0 (sx (sx (si (si (si (si mem 221 41 0) 221 42 0) 221 44 0) 221 45 0) 242 0 0) 243 0 0) := tm_sa aR_243 hm_5 (i32_b _)
      refine yR_m 1 (fun _ _ _ _ => rfl) ?_
      refine wR_gr rfl mO_e mO_38 hm_6 ?_
      refine yR_m 1 (fun _ _ _ _ => rfl) ?_
      refine wR_gi rfl mO_e mO_41 hm_6 ((gi_sa).trans ((gi_sa).trans ((gi_sv_ne (by decide)).trans ((gi_sv_ne (by decide)).trans ((gi_sv_ne (by decide)).trans (gi_si_eq mO_e mO_41 hm)))))) ?_
      refine yR_m 1 (fun _ _ _ _ => rfl) ?_
      refine wN_zs (a := 0) rfl aR_244 hm_6 rfl (by decide) (by decide) ?_
      have hm_7 : aTm aT0 (sx (sx (sx (si (si (si (si mem 221 41 0) 221 42 0) 221 44 0) 221 45 0) 242 0 0) 243 0 0) 244 0 1) := tm_sa aR_244 hm_6 (by decide)
      refine yR_m 1 (fun _ _ _ _ => rfl) ?_
      refine wR_gr rfl mO_e mO_40 hm_7 ?_
      refine yR_m 1 (fun _ _ _ _ => rfl) ?_
      refine wR_gi rfl mO_e mO_41 hm_7 ((gi_sa).trans ((gi_sa).trans ((gi_sa).trans ((gi_sv_ne (by decide)).trans ((gi_sv_ne (by decide)).trans ((gi_sv_ne (by decide)).trans (gi_si_eq mO_e mO_41 hm))))))) ?_
      refine yR_m 1 (fun _ _ _ _ => rfl) ?_
      refine wR_gi rfl mO_e mO_44 hm_7 ((gi_sa).trans ((gi_sa).trans ((gi_sa).trans ((gi_sv_ne (by decide)).trans (gi_si_eq mO_e mO_44 hm_2))))) ?_
      refine wN_as (a := 0) rfl aR_246 hm_7 rfl (by decide) ?_
      have hm_8 : aTm aT0 (sx (sx (sx (sx (si (si (si (si mem 221 41 0) 221 42 0) 221 44 0) 221 45 0) 242 0 0) 243 0 0) 244 0 1) 246 0 0) := tm_sa aR_246 hm_7 (i32_b _)
      refine yR_m 2 (fun _ _ _ _ => rfl) ?_
      refine wR_gi rfl mO_e mO_41 hm_8 ((gi_sa).trans ((gi_sa).trans ((gi_sa).trans ((gi_sa).trans ((gi_sv_ne (by decide)).trans ((gi_sv_ne (by decide)).trans ((gi_sv_ne (by decide)).trans (gi_si_eq mO_e mO_41 hm)))))))) ?_
      refine yR_m 1 (fun _ _ _ _ => rfl) ?_
      refine wN_add (a := 0) (b := 1) rfl rfl rfl (by omega) (fun x3 e4 => ?_)
      refine wR_pi rfl mO_e mO_41 hm_8 rfl ?_
      have hm_9 : aTm aT0 (si (sx (sx (sx (sx (si (si (si (si mem 221 41 0) 221 42 0) 221 44 0) 221 45 0) 242 0 0) 243 0 0) 244 0 1) 246 0 0) 221 41 x3) := tm_si mO_e mO_41 hm_8 (i32_b _)
      refine yR_rv rfl ?_
      show yR zpg tX12_reads (d + 7) (41, lo, [], (si (sx (sx (sx (sx (si (si (si (si mem 221 41 0) 221 42 0) 221 44 0) 221 45 0) 242 0 0) 243 0 0) 244 0 1) 246 0 0) 221 41 x3)) _
      refine yR_m 1 (fun _ _ _ _ => rfl) ?_
      refine wR_si rfl rfl (fun lo5 e6 f7 => ?_)
      have lo5_0 := f7 0 _ (by decide) (Or.inl rfl) l_0
      have lo5_1 := f7 1 _ (by decide) (Or.inl rfl) l_1
      exact h1 q1 q2 x3 e4 lo5 lo5_0 e6 hm_9
    ·
      refine yR_m 2 (fun _ _ _ _ => rfl) ?_
      refine wR_iv rfl rfl mO_e hm_4 rfl rfl rfl rfl ?_
      show yR zpg tX12_pushes (d + 6) (0, [(0, .ref 221), (1, .int 1)], [], (si (si (si (si mem 221 41 0) 221 42 0) 221 44 0) 221 45 0)) _
      refine yR_m 1 (fun _ _ _ _ => rfl) ?_
      refine wR_gr rfl mO_e mO_36 hm_4 ?_
      refine yR_m 1 (fun _ _ _ _ => rfl) ?_
      refine wR_gi rfl mO_e mO_41 hm_4 ((gi_sv_ne (by decide)).trans ((gi_sv_ne (by decide)).trans ((gi_sv_ne (by decide)).trans (gi_si_eq mO_e mO_41 hm)))) ?_
      refine yR_m 1 (fun _ _ _ _ => rfl) ?_
      refine wN_as (a := 0) rfl aR_242 hm_4 rfl (by decide) ?_
      have hm_10 : aTm aT0 (sx (si (si (si (si mem 221 41 0) 221 42 0) 221 44 0) 221 45 0) 242 0 1) := tm_sa aR_242 hm_4 (i32_b _)
      refine yR_m 1 (fun _ _ _ _ => rfl) ?_
      refine wR_gr rfl mO_e mO_37 hm_10 ?_
      refine yR_m 1 (fun _ _ _ _ => rfl) ?_
      refine wR_gi rfl mO_e mO_41 hm_10 ((gi_sa).trans ((gi_sv_ne (by decide)).trans ((gi_sv_ne (by decide)).trans ((gi_sv_ne (by decide)).trans (gi_si_eq mO_e mO_41 hm))))) ?_
      refine yR_m 1 (fun _ _ _ _ => rfl) ?_
      refine wN_as (a := 0) rfl aR_243 hm_10 rfl (by decide) ?_
      have hm_11 : aTm aT0 (sx (sx (si (si (si (si mem 221 41 0) 221 42 0) 221 44 0) 221 45 0) 242 0 1) 243 0 0) := tm_sa aR_243 hm_10 (i32_b _)
      refine yR_m 1 (fun _ _ _ _ => rfl) ?_
      refine wR_gr rfl mO_e mO_38 hm_11 ?_
      refine yR_m 1 (fun _ _ _ _ => rfl) ?_
      refine wR_gi rfl mO_e mO_41 hm_11 ((gi_sa).trans ((gi_sa).trans ((gi_sv_ne (by decide)).trans ((gi_sv_ne (by decide)).trans ((gi_sv_ne (by decide)).trans (gi_si_eq mO_e mO_41 hm)))))) ?_
      refine yR_m 1 (fun _ _ _ _ => rfl) ?_
      refine wN_zs (a := 0) rfl aR_244 hm_11 rfl (by decide) (by decide) ?_
      have hm_12 : aTm aT0 (sx (sx (sx (si (si (si (si mem 221 41 0) 221 42 0) 221 44 0) 221 45 0) 242 0 1) 243 0 0) 244 0 1) := tm_sa aR_244 hm_11 (by decide)
      refine yR_m 1 (fun _ _ _ _ => rfl) ?_
      refine wR_gr rfl mO_e mO_40 hm_12 ?_
      refine yR_m 1 (fun _ _ _ _ => rfl) ?_
      refine wR_gi rfl mO_e mO_41 hm_12 ((gi_sa).trans ((gi_sa).trans ((gi_sa).trans ((gi_sv_ne (by decide)).trans ((gi_sv_ne (by decide)).trans ((gi_sv_ne (by decide)).trans (gi_si_eq mO_e mO_41 hm))))))) ?_
      refine yR_m 1 (fun _ _ _ _ => rfl) ?_
      refine wR_gi rfl mO_e mO_44 hm_12 ((gi_sa).trans ((gi_sa).trans ((gi_sa).trans ((gi_sv_ne (by decide)).trans (gi_si_eq mO_e mO_44 hm_2))))) ?_
      refine wN_as (a := 0) rfl aR_246 hm_12 rfl (by decide) ?_
      have hm_13 : aTm aT0 (sx (sx (sx (sx (si (si (si (si mem 221 41 0) 221 42 0) 221 44 0) 221 45 0) 242 0 1) 243 0 0) 244 0 1) 246 0 0) := tm_sa aR_246 hm_12 (i32_b _)
      refine yR_m 2 (fun _ _ _ _ => rfl) ?_
      refine wR_gi rfl mO_e mO_41 hm_13 ((gi_sa).trans ((gi_sa).trans ((gi_sa).trans ((gi_sa).trans ((gi_sv_ne (by decide)).trans ((gi_sv_ne (by decide)).trans ((gi_sv_ne (by decide)).trans (gi_si_eq mO_e mO_41 hm)))))))) ?_
      refine yR_m 1 (fun _ _ _ _ => rfl) ?_
      refine wN_add (a := 0) (b := 1) rfl rfl rfl (by omega) (fun x8 e9 => ?_)
      refine wR_pi rfl mO_e mO_41 hm_13 rfl ?_
      have hm_14 : aTm aT0 (si (sx (sx (sx (sx (si (si (si (si mem 221 41 0) 221 42 0) 221 44 0) 221 45 0) 242 0 1) 243 0 0) 244 0 1) 246 0 0) 221 41 x8) := tm_si mO_e mO_41 hm_13 (i32_b _)
      refine yR_rv rfl ?_
      show yR zpg tX12_reads (d + 7) (41, lo, [], (si (sx (sx (sx (sx (si (si (si (si mem 221 41 0) 221 42 0) 221 44 0) 221 45 0) 242 0 1) 243 0 0) 244 0 1) 246 0 0) 221 41 x8)) _
      refine yR_m 1 (fun _ _ _ _ => rfl) ?_
      refine wR_si rfl rfl (fun lo10 e11 f12 => ?_)
      have lo10_0 := f12 0 _ (by decide) (Or.inl rfl) l_0
      have lo10_1 := f12 1 _ (by decide) (Or.inl rfl) l_1
      exact h2 q1 q2 x8 e9 lo10 lo10_0 e11 hm_14
  ·
    exact yR_rv rfl (h3 q1 hm)

theorem PI_new {m m' : zM} {K : Int} (hm : aTm aT0 m) (T : tOK m) (h8 : fk m = 0) (hi : inI m = 1 - bI m) (hc : 0 ≤ (gi m 221 33).toInt ∧ (gi m 221 33).toInt < (gi m 221 4).toInt) (F : fr [242, 243, 244, 246] [41, 42, 44, 45] m m') (e41 : (gi m' 221 41).toInt = 1) (e42 : (gi m' 221 42).toInt = 0) (e44 : (gi m' 221 44).toInt = 0) (v1 : gn (ga m' 242) 0 = K) (v3 : gn (ga m' 243) 0 = 0) (v4 : gn (ga m' 244) 0 = 1) (v5 : gn (ga m' 246) 0 = 0) (hK : 0 ≤ K ∧ K ≤ 1) : PI m m' (gi m 221 33).toInt [(K, gn (ga m' 245) 0, 0, 1, [])] 0 := by
  have I : ∀ i, [41, 42, 44, 45].contains i = false → gi m' 221 i = gi m 221 i := fun i a => fr_gi F a
  have f8 : fk m' = 0 := by show (gi m' 221 8).toInt = 0; rw [I 8 rfl]; exact h8
  have ed : (gi m' 221 41).toInt - 1 = 0 := by omega
  refine ⟨⟨kB_fr F rfl rfl rfl rfl rfl rfl rfl rfl, tOK_fr F rfl rfl rfl rfl (by omega) T, f8, ?_⟩, ⟨⟨⟨by rw [ed]; exact v1, by rw [ed], by rw [ed]; exact v3, by rw [ed]; exact v4, by rw [ed, e44]; exact v5⟩, fun i hi => absurd hi (Nat.not_lt_zero _), ⟨ed, by rw [e44]; rfl⟩⟩, ?_, hK⟩, ⟨by rw [e42]; rfl, by omega⟩, ⟨⟨hc.1, by rw [I 33 rfl]; omega, by rw [I 33 rfl, I 4 rfl]; omega⟩, ?_⟩, fun f hf => absurd hf List.not_mem_nil, fun q => by omega⟩
  · show (gi m' 221 34).toInt = 1 - (gi m' 221 13).toInt
    rw [I 34 rfl, I 13 rfl]; exact hi
  · intro f hf
    rcases List.mem_cons.1 hf with q | q
    · rw [q]
      exact ⟨trivial, fun o ho => absurd ho List.not_mem_nil, fun _ o ho => absurd ho List.not_mem_nil, fun _ o ho => absurd ho List.not_mem_nil⟩
    · exact absurd q List.not_mem_nil
  · rw [I 33 rfl, show (gi m 221 33).toInt - (gi m 221 33).toInt = 0 by omega]
    have ar : arF (K, gn (ga m' 245) 0, 0, 1, []) = 0 := by
      show (if K = 4 then (if gn (ga m' 245) 0 = 44 then (2 : Int) else 1) else if K = 3 then (if gn (ga m' 245) 0 = 44 then 1 else 0) else 0) = 0
      rw [if_neg (by omega), if_neg (by omega)]
    have e : hS [(K, gn (ga m' 245) 0, 0, 1, [])] + 0 = 0 := by
      show 0 + arF (K, gn (ga m' 245) 0, 0, 1, []) + 0 + 0 = 0
      omega
    rw [e]
    rfl
theorem h_reads_m {ts : Int32} (hm : aTm aT0 mem) (T : tOK mem) (hi : inI mem = 1 - bI mem) (hc : (gi mem 221 8).toInt = 0 → 0 ≤ (gi mem 221 33).toInt ∧ (gi mem 221 33).toInt < (gi mem 221 4).toInt) (hd : 8 ≤ d) : yC zpg d 190 [.ref 221, .int ts] mem (rdP mem (gi mem 221 33).toInt (gi mem 221 4).toInt) := by
  obtain ⟨d, rfl⟩ : ∃ q, d = q + 8 := ⟨d - 8, by omega⟩
  have T8 : 0 ≤ (gi mem 221 8).toInt := T.2
  refine yC_of (t := tX12_reads) rfl rfl ?_
  exact w_rd_0 hm rfl rfl
        (fun q1 q2 x3 e4 lo a0 a2 hm2 => by
          have c := hc (by omega)
          have r4 := mO_r4 hm2
          have P1 := PI_new (K := 0) (m' := (si (sx (sx (sx (sx (si (si (si (si mem 221 41 0) 221 42 0) 221 44 0) 221 45 0) 242 0 0) 243 0 0) 244 0 1) 246 0 0) 221 41 x3)) hm T (by show (gi mem 221 8).toInt = 0; omega) hi c (fr_sv rfl (fr_sa rfl (fr_sa rfl (fr_sa rfl (fr_sa rfl (fr_sv rfl (fr_sv rfl (fr_sv rfl (fr_sv rfl (fr_rf)))))))))) (by rw [(gi_eqO (isO_sa (by decide) (isO_sa (by decide) (isO_sa (by decide) (isO_sa (by decide) (isO_sv (isO_sv (isO_sv (isO_sv (isO_of hm))))))))) (by decide))]; omega) (by rw [((gi_sv_ne (by decide)).trans ((gi_sa).trans ((gi_sa).trans ((gi_sa).trans ((gi_sa).trans ((gi_sv_ne (by decide)).trans ((gi_sv_ne (by decide)).trans (gi_eqO (isO_sv (isO_of hm)) (by decide)))))))))]; rfl) (by rw [((gi_sv_ne (by decide)).trans ((gi_sa).trans ((gi_sa).trans ((gi_sa).trans ((gi_sa).trans ((gi_sv_ne (by decide)).trans (gi_eqO (isO_sv (isO_sv (isO_of hm))) (by decide))))))))]; rfl) (by rw [((ga_sv).trans ((ga_sa_ne (by decide)).trans ((ga_sa_ne (by decide)).trans ((ga_sa_ne (by decide)).trans (ga_sa_eq.trans (congrArg (fun l => List.set l (0 : Int32).toNatClampNeg 0) ((ga_sv).trans ((ga_sv).trans ((ga_sv).trans (ga_sv)))))))))), gn_set (a := 0) rfl (by decide) (by rw [gl_242 hm]; decide) (by decide), if_pos rfl]; rfl) (by rw [((ga_sv).trans ((ga_sa_ne (by decide)).trans ((ga_sa_ne (by decide)).trans (ga_sa_eq.trans (congrArg (fun l => List.set l (0 : Int32).toNatClampNeg 0) ((ga_sa_ne (by decide)).trans ((ga_sv).trans ((ga_sv).trans ((ga_sv).trans (ga_sv)))))))))), gn_set (a := 0) rfl (by decide) (by rw [gl_243 hm]; decide) (by decide), if_pos rfl]; rfl) (by rw [((ga_sv).trans ((ga_sa_ne (by decide)).trans (ga_sa_eq.trans (congrArg (fun l => List.set l (0 : Int32).toNatClampNeg 1) ((ga_sa_ne (by decide)).trans ((ga_sa_ne (by decide)).trans ((ga_sv).trans ((ga_sv).trans ((ga_sv).trans (ga_sv)))))))))), gn_set (a := 0) rfl (by decide) (by rw [gl_244 hm]; decide) (by decide), if_pos rfl]; rfl) (by rw [((ga_sv).trans (ga_sa_eq.trans (congrArg (fun l => List.set l (0 : Int32).toNatClampNeg 0) ((ga_sa_ne (by decide)).trans ((ga_sa_ne (by decide)).trans ((ga_sa_ne (by decide)).trans ((ga_sv).trans ((ga_sv).trans ((ga_sv).trans (ga_sv)))))))))), gn_set (a := 0) rfl (by decide) (by rw [gl_246 hm]; decide) (by decide), if_pos rfl]; rfl) (by decide)
          exact rd_loop 1601 _ _ 1 lo (by omega) (by rw [((gi_sv_ne (by decide)).trans ((gi_sa).trans ((gi_sa).trans ((gi_sa).trans ((gi_sa).trans ((gi_sv_ne (by decide)).trans ((gi_sv_ne (by decide)).trans ((gi_sv_ne (by decide)).trans (gi_sv_ne (by decide))))))))))]; omega) hm2 (by rw [((gi_sv_ne (by decide)).trans ((gi_sa).trans ((gi_sa).trans ((gi_sa).trans ((gi_sa).trans (gi_eqO (isO_sv (isO_sv (isO_sv (isO_of hm)))) (by decide)))))))]; exact P1) rfl a0 a2)
        (fun q1 q2 x8 e9 lo a0 a2 hm2 => by
          have c := hc (by omega)
          have r4 := mO_r4 hm2
          have P1 := PI_new (K := 1) (m' := (si (sx (sx (sx (sx (si (si (si (si mem 221 41 0) 221 42 0) 221 44 0) 221 45 0) 242 0 1) 243 0 0) 244 0 1) 246 0 0) 221 41 x8)) hm T (by show (gi mem 221 8).toInt = 0; omega) hi c (fr_sv rfl (fr_sa rfl (fr_sa rfl (fr_sa rfl (fr_sa rfl (fr_sv rfl (fr_sv rfl (fr_sv rfl (fr_sv rfl (fr_rf)))))))))) (by rw [(gi_eqO (isO_sa (by decide) (isO_sa (by decide) (isO_sa (by decide) (isO_sa (by decide) (isO_sv (isO_sv (isO_sv (isO_sv (isO_of hm))))))))) (by decide))]; omega) (by rw [((gi_sv_ne (by decide)).trans ((gi_sa).trans ((gi_sa).trans ((gi_sa).trans ((gi_sa).trans ((gi_sv_ne (by decide)).trans ((gi_sv_ne (by decide)).trans (gi_eqO (isO_sv (isO_of hm)) (by decide)))))))))]; rfl) (by rw [((gi_sv_ne (by decide)).trans ((gi_sa).trans ((gi_sa).trans ((gi_sa).trans ((gi_sa).trans ((gi_sv_ne (by decide)).trans (gi_eqO (isO_sv (isO_sv (isO_of hm))) (by decide))))))))]; rfl) (by rw [((ga_sv).trans ((ga_sa_ne (by decide)).trans ((ga_sa_ne (by decide)).trans ((ga_sa_ne (by decide)).trans (ga_sa_eq.trans (congrArg (fun l => List.set l (0 : Int32).toNatClampNeg 1) ((ga_sv).trans ((ga_sv).trans ((ga_sv).trans (ga_sv)))))))))), gn_set (a := 0) rfl (by decide) (by rw [gl_242 hm]; decide) (by decide), if_pos rfl]; rfl) (by rw [((ga_sv).trans ((ga_sa_ne (by decide)).trans ((ga_sa_ne (by decide)).trans (ga_sa_eq.trans (congrArg (fun l => List.set l (0 : Int32).toNatClampNeg 0) ((ga_sa_ne (by decide)).trans ((ga_sv).trans ((ga_sv).trans ((ga_sv).trans (ga_sv)))))))))), gn_set (a := 0) rfl (by decide) (by rw [gl_243 hm]; decide) (by decide), if_pos rfl]; rfl) (by rw [((ga_sv).trans ((ga_sa_ne (by decide)).trans (ga_sa_eq.trans (congrArg (fun l => List.set l (0 : Int32).toNatClampNeg 1) ((ga_sa_ne (by decide)).trans ((ga_sa_ne (by decide)).trans ((ga_sv).trans ((ga_sv).trans ((ga_sv).trans (ga_sv)))))))))), gn_set (a := 0) rfl (by decide) (by rw [gl_244 hm]; decide) (by decide), if_pos rfl]; rfl) (by rw [((ga_sv).trans (ga_sa_eq.trans (congrArg (fun l => List.set l (0 : Int32).toNatClampNeg 0) ((ga_sa_ne (by decide)).trans ((ga_sa_ne (by decide)).trans ((ga_sa_ne (by decide)).trans ((ga_sv).trans ((ga_sv).trans ((ga_sv).trans (ga_sv)))))))))), gn_set (a := 0) rfl (by decide) (by rw [gl_246 hm]; decide) (by decide), if_pos rfl]; rfl) (by decide)
          exact rd_loop 1601 _ _ 1 lo (by omega) (by rw [((gi_sv_ne (by decide)).trans ((gi_sa).trans ((gi_sa).trans ((gi_sa).trans ((gi_sa).trans ((gi_sv_ne (by decide)).trans ((gi_sv_ne (by decide)).trans ((gi_sv_ne (by decide)).trans (gi_sv_ne (by decide))))))))))]; omega) hm2 (by rw [((gi_sv_ne (by decide)).trans ((gi_sa).trans ((gi_sa).trans ((gi_sa).trans ((gi_sa).trans (gi_eqO (isO_sv (isO_sv (isO_sv (isO_of hm)))) (by decide)))))))]; exact P1) rfl a0 a2)
        (fun q1 hm2 => rd_flt hm2 kB_rf T (by omega))
end RD
