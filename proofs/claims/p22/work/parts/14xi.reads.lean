/-! reads, by the machine -/
section RG
variable {d : Nat} {mr mem m : zM} {fm : Int} {l : List Fm} {T : List Int32} {n p : Int} {s : Option Int}
def odH (T : List Int32) (n : Int) (mr : zM) (fm : Int) (K0 : List Int) (sp : Option (List Int × ((List Fr × Int) × Int))) (v : Int) (m : zM) : Prop := (∃ l' p' c, sp = some (c, ((abL l', v), p')) ∧ PI mr m fm l' v ∧ mRd T n p' m ∧ mC m = K0 ++ c) ∨ (1 ≤ fk m ∧ sp = none)
def goH (T : List Int32) (n : Int) (mr : zM) (fm p : Int) (K0 : List Int) (sp : Option (List Int × Option ((List Fr × Int) × Int))) (v : Int) (m : zM) : Prop := (v = 1 ∧ ∃ l' p' c, sp = some (c, some ((abL l', (gi m 221 45).toInt), p')) ∧ PI mr m fm l' (gi m 221 45).toInt ∧ mRd T n p' m ∧ mC m = K0 ++ c) ∨ (v = 0 ∧ fk m = 0 ∧ ∃ c, sp = some (c, none) ∧ mRd T n p m ∧ mC m = K0 ++ c) ∨ (1 ≤ fk m ∧ sp = none)
/-- where a sum ends, and the code behind it -/
def mSc (T : List Int32) (n : Int) (s : Option (Int × List Int)) (m : zM) : Prop := (∃ q c, s = some (q, c) ∧ fk m = 0 ∧ mRd T n q m ∧ mC m = c) ∨ (s = none ∧ 1 ≤ fk m)
theorem mSc_no {s : Option (Int × List Int)} (h : 1 ≤ fk m) (e : s = none) : mSc T n s m := Or.inr ⟨e, h⟩
theorem kB_35 (h : kB mr m) : gi m 221 35 = gi mr 221 35 := fr_gi h.1 rfl
theorem h_opd5 {x : Int32} (hR : mRd T n p mem) (hm : aTm aT0 mem) (h : PI mr mem fm l (gi mem 221 45).toInt) (e : gi mem 221 45 = x) (h0 : x.toInt = 0) (hd : 6 ≤ d) : yC zpg d 188 [.ref 221] mem (fun r m => ∃ v : Int32, r = some (.int v) ∧ aTm aT0 m ∧ (odQ mr fm (gi mem 221 4).toInt v.toInt m ∧ (0 ≤ v.toInt ∧ v.toInt ≤ 1) ∧ odH T n mr fm (mC mem) (sOpd T n (gi mr 221 35).toInt (abL l) p) v.toInt m)) := by
  have h1 := h
  rw [e, h0] at h1
  refine yC_mono (fun r m q => ?_) (yC_and (h_operand3 hm h e h0 hd) (h_opdF (ru := (gi mr 221 35).toInt) rfl hm h1 hR (by rw [kB_35 h.1.1]) hd))
  obtain ⟨⟨v, q1, q2, q3, q4⟩, w, w1, w2⟩ := q
  rw [q1] at w1
  cases w1
  exact ⟨v, q1, q2, q3, q4, w2⟩
theorem h_go5 {x : Int32} (hR : mRd T n p mem) (hm : aTm aT0 mem) (h : PI mr mem fm l (gi mem 221 45).toInt) (e : gi mem 221 45 = x) (h0 : ¬ x.toInt = 0) (hd : 6 ≤ d) : yC zpg d 189 [.ref 221] mem (fun r m => ∃ v : Int32, r = some (.int v) ∧ aTm aT0 m ∧ (goQ mr fm (gi mem 221 4).toInt v.toInt m ∧ (0 ≤ v.toInt ∧ v.toInt ≤ 1) ∧ goH T n mr fm p (mC mem) (sGon T n (abL l) p) v.toInt m)) := by
  have rg := mO_r45 hm
  have e1 : (gi mem 221 45).toInt = 1 := by rw [e] at rg ⊢; omega
  have h1 := h
  rw [e1] at h1
  cases l with
  | nil => exact h.2.1.2.2.elim
  | cons f r =>
    refine yC_mono (fun r m q => ?_) (yC_and (h_goesOn3 hm h e h0 hd) (h_goF rfl hm h1 hR e1 hd))
    obtain ⟨⟨v, q1, q2, q3, q4⟩, w, w1, w2⟩ := q
    rw [q1] at w1
    cases w1
    exact ⟨v, q1, q2, q3, q4, w2⟩
theorem mRd_p (h : mRd T n p m) : 0 ≤ p ∧ p ≤ n := by
  obtain ⟨t, e, h⟩ := h
  have L := Tok_last h.2.1 h.1.2.2
  exact ⟨h.1.2.2, by omega⟩
section MO
variable {ru v p' : Int} {L L' : List Fr} {w c : List Int}
theorem M_o1 (hp : 0 ≤ p ∧ p ≤ n) (h : sOpd T n ru L p = some (c, ((L', v), p'))) : Mch T n ru w L 0 p = Mch T n ru (w ++ c) L' v p' := by
  rw [Mch_0 hp.1 hp.2, h]
  rfl
theorem M_o2 (hp : 0 ≤ p ∧ p ≤ n) (h : sOpd T n ru L p = some ([], ((L', v), p'))) : Mch T n ru w L 0 p = Mch T n ru w L' v p' := (M_o1 hp h).trans (by rw [List.append_nil])
theorem M_o0 (hp : 0 ≤ p ∧ p ≤ n) (h : sOpd T n ru L p = none) : Mch T n ru w L 0 p = none := by
  rw [Mch_0 hp.1 hp.2, h]
  rfl
theorem M_g1 (hp : 0 ≤ p ∧ p ≤ n) (h : sGon T n L p = some (c, some ((L', v), p'))) : Mch T n ru w L 1 p = Mch T n ru (w ++ c) L' v p' := by
  rw [Mch_1 hp.1 hp.2, h]
  rfl
theorem M_g0 (hp : 0 ≤ p ∧ p ≤ n) (h : sGon T n L p = none) : Mch T n ru w L 1 p = none := by
  rw [Mch_1 hp.1 hp.2, h]
  rfl
theorem M_ge (hp : 0 ≤ p ∧ p ≤ n) (h : sGon T n L p = some (c, none)) : Mch T n ru w L 1 p = some (p, w ++ c) := by
  rw [Mch_1 hp.1 hp.2, h]
  rfl
end MO
set_option maxRecDepth 100000 in
theorem w_rF_43 {d : Nat} {mem : zM} {P : Option Value → zM → Prop} {mr : zM} {fm : Int} {l : List Fm} {T : List Int32} {n p : Int} {mo : Int32} {lo : List (Nat × Value)} (hm : aTm aT0 mem) (l_0 : zlg lo 0 = some (.ref 221)) (l_2 : zlg lo 2 = some (.int mo)) (hR : mRd T n p mem) (h1 : (mo).toInt = 0 → aTm aT0 mem → P none mem) (s1 : ¬ (mo).toInt = 0 → ¬ (gi mem 221 45).toInt = 0 → PI mr mem fm l (gi mem 221 45).toInt) (h2 : ¬ (mo).toInt = 0 → ¬ (gi mem 221 45).toInt = 0 → ∀ (v5 : Int32) (m3 : zM), aTm aT0 m3 → (goQ mr fm (gi mem 221 4).toInt v5.toInt m3 ∧ (0 ≤ v5.toInt ∧ v5.toInt ≤ 1) ∧ goH T n mr fm p (mC mem) (sGon T n (abL l) p) v5.toInt m3) → (v5).toInt = 0 → ∀ lo, zlg lo 0 = some (.ref 221) → zlg lo 2 = some (.int 0) → aTm aT0 m3 → yR zpg tX12_reads (d + 7) (43, lo, [], m3) P) (h3 : ¬ (mo).toInt = 0 → ¬ (gi mem 221 45).toInt = 0 → ∀ (v5 : Int32) (m3 : zM), aTm aT0 m3 → (goQ mr fm (gi mem 221 4).toInt v5.toInt m3 ∧ (0 ≤ v5.toInt ∧ v5.toInt ≤ 1) ∧ goH T n mr fm p (mC mem) (sGon T n (abL l) p) v5.toInt m3) → ¬ (v5).toInt = 0 → ¬ (gi m3 221 8).toInt = 0 → ∀ lo, zlg lo 0 = some (.ref 221) → zlg lo 2 = some (.int 0) → aTm aT0 m3 → yR zpg tX12_reads (d + 7) (43, lo, [], m3) P) (h4 : ¬ (mo).toInt = 0 → ¬ (gi mem 221 45).toInt = 0 → ∀ (v5 : Int32) (m3 : zM), aTm aT0 m3 → (goQ mr fm (gi mem 221 4).toInt v5.toInt m3 ∧ (0 ≤ v5.toInt ∧ v5.toInt ≤ 1) ∧ goH T n mr fm p (mC mem) (sGon T n (abL l) p) v5.toInt m3) → ¬ (v5).toInt = 0 → (gi m3 221 8).toInt = 0 → ∀ lo, zlg lo 0 = some (.ref 221) → zlg lo 2 = some (.int 1) → aTm aT0 m3 → yR zpg tX12_reads (d + 7) (43, lo, [], m3) P) (s2 : ¬ (mo).toInt = 0 → (gi mem 221 45).toInt = 0 → PI mr mem fm l (gi mem 221 45).toInt) (h5 : ¬ (mo).toInt = 0 → (gi mem 221 45).toInt = 0 → ∀ (v22 : Int32) (m20 : zM), aTm aT0 m20 → (odQ mr fm (gi mem 221 4).toInt v22.toInt m20 ∧ (0 ≤ v22.toInt ∧ v22.toInt ≤ 1) ∧ odH T n mr fm (mC mem) (sOpd T n (gi mr 221 35).toInt (abL l) p) v22.toInt m20) → ¬ (gi m20 221 8).toInt = 0 → ∀ lo, zlg lo 0 = some (.ref 221) → zlg lo 2 = some (.int 0) → aTm aT0 (si m20 221 45 v22) → yR zpg tX12_reads (d + 7) (43, lo, [], (si m20 221 45 v22)) P) (h6 : ¬ (mo).toInt = 0 → (gi mem 221 45).toInt = 0 → ∀ (v22 : Int32) (m20 : zM), aTm aT0 m20 → (odQ mr fm (gi mem 221 4).toInt v22.toInt m20 ∧ (0 ≤ v22.toInt ∧ v22.toInt ≤ 1) ∧ odH T n mr fm (mC mem) (sOpd T n (gi mr 221 35).toInt (abL l) p) v22.toInt m20) → (gi m20 221 8).toInt = 0 → ∀ lo, zlg lo 0 = some (.ref 221) → zlg lo 2 = some (.int 1) → aTm aT0 (si m20 221 45 v22) → yR zpg tX12_reads (d + 7) (43, lo, [], (si m20 221 45 v22)) P) : yR zpg tX12_reads (d + 7) (43, lo, [], mem) P := by
  refine wR_li rfl l_2 ?_
  refine wR_if_eq rfl (a := (mo).toInt) rfl (fun q1 => ?_) (fun q1 => ?_)
  ·
    exact yR_rv rfl (h1 q1 hm)
  ·
    refine wR_la rfl l_0 ?_
    refine wR_gi rfl mO_e mO_45 hm rfl ?_
    refine wR_if_ne rfl (a := (gi mem 221 45).toInt) rfl (fun q2 => ?_) (fun q2 => ?_)
    ·
      refine wR_la rfl l_0 ?_
      refine wR_cv rfl rfl mO_e hm rfl (h_go5 (T := T) (n := n) (p := p) hR hm (s1 q1 q2) rfl (by omega) (by omega)) ?_
      rintro _ m3 ⟨v5, rfl, hm3, k4⟩
      show yR zpg tX12_reads (d + 7) (69, lo, [.int v5], m3) _
      refine wR_si rfl rfl (fun lo6 e7 f8 => ?_)
      have lo6_0 := f8 0 _ (by decide) (Or.inl rfl) l_0
      refine wR_li rfl e7 ?_
      refine wR_if_eq rfl (a := (v5).toInt) rfl (fun q9 => ?_) (fun q9 => ?_)
      ·
        refine yR_m 1 (fun _ _ _ _ => rfl) ?_
        refine wR_si rfl rfl (fun lo10 e11 f12 => ?_)
        have lo10_0 := f12 0 _ (by decide) (Or.inl rfl) lo6_0
        exact yR_m 1 (fun _ _ _ _ => rfl) (h2 q1 q2 v5 m3 hm3 k4 q9 lo10 lo10_0 e11 hm3)
      ·
        refine wR_la rfl lo6_0 ?_
        refine wR_gi rfl mO_e mO_8 hm3 rfl ?_
        refine wR_if_ne rfl (a := (gi m3 221 8).toInt) rfl (fun q13 => ?_) (fun q13 => ?_)
        ·
          refine yR_m 1 (fun _ _ _ _ => rfl) ?_
          refine wR_si rfl rfl (fun lo14 e15 f16 => ?_)
          have lo14_0 := f16 0 _ (by decide) (Or.inl rfl) lo6_0
          exact yR_m 1 (fun _ _ _ _ => rfl) (h3 q1 q2 v5 m3 hm3 k4 q9 q13 lo14 lo14_0 e15 hm3)
        ·
          refine yR_m 2 (fun _ _ _ _ => rfl) ?_
          refine wR_si rfl rfl (fun lo17 e18 f19 => ?_)
          have lo17_0 := f19 0 _ (by decide) (Or.inl rfl) lo6_0
          exact yR_m 1 (fun _ _ _ _ => rfl) (h4 q1 q2 v5 m3 hm3 k4 q9 q13 lo17 lo17_0 e18 hm3)
    ·
      refine wR_la rfl l_0 ?_
      refine wR_la rfl l_0 ?_
      refine wR_cv rfl rfl mO_e hm rfl (h_opd5 (T := T) (n := n) (p := p) hR hm (s2 q1 q2) rfl (by omega) (by omega)) ?_
      rintro _ m20 ⟨v22, rfl, hm20, k21⟩
      show yR zpg tX12_reads (d + 7) (59, lo, [.int v22, .ref 221], m20) _
      refine wR_pi rfl mO_e mO_45 hm20 (i32_01 (by omega) (by omega)) ?_
      have hm_1 : aTm aT0 (si m20 221 45 v22) := tm_si mO_e mO_45 hm20 (by omega)
      refine yR_m 1 (fun _ _ _ _ => rfl) ?_
      refine wR_li rfl l_2 ?_
      refine wR_if_eq rfl (a := (mo).toInt) rfl (fun q => by exfalso; omega) (fun _ => ?_)
      refine wR_la rfl l_0 ?_
      refine wR_gi rfl mO_e mO_8 hm_1 (gi_sv_ne (by decide)) ?_
      refine wR_if_ne rfl (a := (gi m20 221 8).toInt) rfl (fun q23 => ?_) (fun q23 => ?_)
      ·
        refine yR_m 1 (fun _ _ _ _ => rfl) ?_
        refine wR_si rfl rfl (fun lo24 e25 f26 => ?_)
        have lo24_0 := f26 0 _ (by decide) (Or.inl rfl) l_0
        exact yR_m 1 (fun _ _ _ _ => rfl) (h5 q1 q2 v22 m20 hm20 k21 q23 lo24 lo24_0 e25 hm_1)
      ·
        refine yR_m 2 (fun _ _ _ _ => rfl) ?_
        refine wR_si rfl rfl (fun lo27 e28 f29 => ?_)
        have lo27_0 := f29 0 _ (by decide) (Or.inl rfl) l_0
        exact yR_m 1 (fun _ _ _ _ => rfl) (h6 q1 q2 v22 m20 hm20 k21 q23 lo27 lo27_0 e28 hm_1)

theorem rF_9 {mo : Int32} {lo : List (Nat × Value)} {X : zM → Prop} (hm : aTm aT0 mem) (h : X mem) (h0 : mo.toInt = 0) (a0 : zlg lo 0 = some (.ref 221)) (a2 : zlg lo 2 = some (.int mo)) : yR zpg tX12_reads (d + 7) (43, lo, [], mem) (fun _ m => X m) := by
  exact w_rd_43 (mr := mem) (fm := 0) (l := []) hm a0 a2
        (fun q1 hm => h)
        (fun q1 q2 => by exfalso; omega)
        (fun q1 q2 v5 m3 hm3 k4 q9 lo a0 a2 hm => by exfalso; omega)
        (fun q1 q2 v5 m3 hm3 k4 q9 q13 lo a0 a2 hm => by exfalso; omega)
        (fun q1 q2 v5 m3 hm3 k4 q9 q13 lo a0 a2 hm => by exfalso; omega)
        (fun q1 q2 => by exfalso; omega)
        (fun q1 q2 v22 m20 hm20 k21 q23 lo a0 a2 hm => by exfalso; omega)
        (fun q1 q2 v22 m20 hm20 k21 q23 lo a0 a2 hm => by exfalso; omega)
theorem rF_loop : ∀ (f : Nat) (mem : zM) (l : List Fm) (mo : Int32) (lo : List (Nat × Value)) (p : Int), n < p + (f : Int) → aTm aT0 mem → PI mr mem fm l (gi mem 221 45).toInt → mRd T n p mem → mo.toInt = 1 → zlg lo 0 = some (.ref 221) → zlg lo 2 = some (.int mo) → yR zpg tX12_reads (d + 7) (43, lo, [], mem) (fun _ m => mSc T n (Mch T n (gi mr 221 35).toInt (mC mem) (abL l) (gi mem 221 45).toInt p) m) := by
  intro f
  induction f with
  | zero =>
    intro mem l mo lo p hf hm h hR
    have := mRd_p hR
    omega
  | succ f ih =>
    intro mem l mo lo p hf hm h hR hmo a0 a2
    have hp := mRd_p hR
    have r45 := mO_r45 hm
    exact w_rF_43 (mr := mr) (fm := fm) (l := l) (T := T) (n := n) (p := p) hm a0 a2 hR
        (fun q1 hm2 => by exfalso; omega)
        (fun q1 q2 => h)
        (fun q1 q2 v5 m3 hm3 k4 q9 lo a0 a2 hm2 => by
          have G := k4.2.2
          have e45 : (gi mem 221 45).toInt = 1 := by omega
          rw [e45]
          refine rF_9 hm2 ?_ rfl a0 a2
          rcases G with ⟨w, l', p', c, u1, u2, u3, u4⟩ | ⟨-, w1, c, w2, w3, w4⟩ | ⟨w1, w2⟩
          · exfalso
            have z : (gi m3 221 8).toInt = 0 := u2.1.2.2.1
            omega
          · exact Or.inl ⟨p, _, M_ge hp w2, w1, w3, w4⟩
          · exact Or.inr ⟨M_g0 hp w2, w1⟩)
        (fun q1 q2 v5 m3 hm3 k4 q9 q13 lo a0 a2 hm2 => by
          have G := k4.2.2
          have e45 : (gi mem 221 45).toInt = 1 := by omega
          rw [e45]
          refine rF_9 hm2 ?_ rfl a0 a2
          rcases G with ⟨w, l', p', c, u1, u2, u3, u4⟩ | ⟨-, w1, c, w2, w3, w4⟩ | ⟨w1, w2⟩
          · exfalso
            have z : (gi m3 221 8).toInt = 0 := u2.1.2.2.1
            omega
          · exact Or.inl ⟨p, _, M_ge hp w2, w1, w3, w4⟩
          · exact Or.inr ⟨M_g0 hp w2, w1⟩)
        (fun q1 q2 v5 m3 hm3 k4 q9 q13 lo a0 a2 hm2 => by
          have G := k4.2.2
          have e45 : (gi mem 221 45).toInt = 1 := by omega
          rw [e45]
          rcases G with ⟨-, l', p', c, u1, u2, u3, u4⟩ | ⟨w, -⟩ | ⟨w1, -⟩
          · have k' := (sGon_pos hp.1 hp.2 u1).1
            have k'' : p < p' := k'.1
            rw [M_g1 hp u1, ← u4]
            exact ih m3 l' 1 lo p' (by omega) hm2 u2 u3 rfl a0 a2
          · exfalso; omega
          · exfalso
            have z : 1 ≤ (gi m3 221 8).toInt := w1
            omega)
        (fun q1 q2 => h)
        (fun q1 q2 v22 m20 hm20 k21 q23 lo a0 a2 hm2 => by
          have G := k21.2.2
          have e45 : (gi mem 221 45).toInt = 0 := by omega
          rw [e45]
          have F : fr [] [45] m20 (si m20 221 45 v22) := fr_sv rfl fr_rf
          have e8 : gi (si m20 221 45 v22) 221 8 = gi m20 221 8 := fr_gi F rfl
          refine rF_9 hm2 ?_ rfl a0 a2
          rcases G with ⟨l', p', c, u1, u2, u3, u4⟩ | ⟨w1, w2⟩
          · exfalso
            have z : (gi m20 221 8).toInt = 0 := u2.1.2.2.1
            omega
          · exact Or.inr ⟨M_o0 hp w2, by show 1 ≤ (gi (si m20 221 45 v22) 221 8).toInt; rw [e8]; exact w1⟩)
        (fun q1 q2 v22 m20 hm20 k21 q23 lo a0 a2 hm2 => by
          have G := k21.2.2
          have e45 : (gi mem 221 45).toInt = 0 := by omega
          rw [e45]
          have F : fr [] [45] m20 (si m20 221 45 v22) := fr_sv rfl fr_rf
          have e8 : gi (si m20 221 45 v22) 221 8 = gi m20 221 8 := fr_gi F rfl
          rcases G with ⟨l', p', c, u1, u2, u3, u4⟩ | ⟨w1, -⟩
          · have k' := (sOpd_pos hp.1 hp.2 u1).1
            have k'' : p < p' := k'.1
            have e9 : gi (si m20 221 45 v22) 221 45 = v22 := (gi_eqO (isO_of hm20) (by decide))
            have I := ih (si m20 221 45 v22) l' 1 lo p' (by omega) hm2 (by rw [e9]; exact PI_e45 u2) (mRd_fm F rfl rfl rfl rfl rfl rfl rfl u3) rfl a0 a2
            rw [e9, mC_fm F rfl rfl, u4] at I
            rw [M_o1 hp u1]
            exact I
          · exfalso
            have z : 1 ≤ (gi m20 221 8).toInt := w1
            omega)
theorem h_rdsF {ts : Int32} (hm : aTm aT0 mem) (hT : tOK mem) (hi : inI mem = 1 - bI mem) (hc : (gi mem 221 8).toInt = 0 → 0 ≤ (gi mem 221 33).toInt ∧ (gi mem 221 33).toInt < (gi mem 221 4).toInt) (hS : mS T n s mem) (hts : (ts.toInt = 0 ∧ fm = 0) ∨ (¬ ts.toInt = 0 ∧ fm = 1)) (hd : 8 ≤ d) : yC zpg d 190 [.ref 221, .int ts] mem (fun _ m => mSc T n (s.bind (Mch T n (gi mem 221 35).toInt (mC mem) [(fm, 0, 1, [])] 0)) m) := by
  obtain ⟨d, rfl⟩ : ∃ q, d = q + 8 := ⟨d - 8, by omega⟩
  have T8 : 0 ≤ (gi mem 221 8).toInt := hT.2
  refine yC_of (t := tX12_reads) rfl rfl ?_
  exact w_rd_0 hm rfl rfl
        (fun q1 q2 x3 e4 lo a0 a2 hm2 => by
          have c := hc (by omega)
          have P1 := PI_new (K := 0) (m' := (si (sx (sx (sx (sx (si (si (si (si mem 221 41 0) 221 42 0) 221 44 0) 221 45 0) 242 0 0) 243 0 0) 244 0 1) 246 0 0) 221 41 x3)) hm hT (by show (gi mem 221 8).toInt = 0; omega) hi c (fr_sv rfl (fr_sa rfl (fr_sa rfl (fr_sa rfl (fr_sa rfl (fr_sv rfl (fr_sv rfl (fr_sv rfl (fr_sv rfl (fr_rf)))))))))) (by rw [(gi_eqO (isO_sa (by decide) (isO_sa (by decide) (isO_sa (by decide) (isO_sa (by decide) (isO_sv (isO_sv (isO_sv (isO_sv (isO_of hm))))))))) (by decide))]; omega) (by rw [((gi_sv_ne (by decide)).trans ((gi_sa).trans ((gi_sa).trans ((gi_sa).trans ((gi_sa).trans ((gi_sv_ne (by decide)).trans ((gi_sv_ne (by decide)).trans (gi_eqO (isO_sv (isO_of hm)) (by decide)))))))))]; rfl) (by rw [((gi_sv_ne (by decide)).trans ((gi_sa).trans ((gi_sa).trans ((gi_sa).trans ((gi_sa).trans ((gi_sv_ne (by decide)).trans (gi_eqO (isO_sv (isO_sv (isO_of hm))) (by decide))))))))]; rfl) (by rw [((ga_sv).trans ((ga_sa_ne (by decide)).trans ((ga_sa_ne (by decide)).trans ((ga_sa_ne (by decide)).trans (ga_sa_eq.trans (congrArg (fun l => List.set l (0 : Int32).toNatClampNeg 0) ((ga_sv).trans ((ga_sv).trans ((ga_sv).trans (ga_sv)))))))))), gn_set (a := 0) rfl (by decide) (by rw [gl_242 hm]; decide) (by decide), if_pos rfl]; rfl) (by rw [((ga_sv).trans ((ga_sa_ne (by decide)).trans ((ga_sa_ne (by decide)).trans (ga_sa_eq.trans (congrArg (fun l => List.set l (0 : Int32).toNatClampNeg 0) ((ga_sa_ne (by decide)).trans ((ga_sv).trans ((ga_sv).trans ((ga_sv).trans (ga_sv)))))))))), gn_set (a := 0) rfl (by decide) (by rw [gl_243 hm]; decide) (by decide), if_pos rfl]; rfl) (by rw [((ga_sv).trans ((ga_sa_ne (by decide)).trans (ga_sa_eq.trans (congrArg (fun l => List.set l (0 : Int32).toNatClampNeg 1) ((ga_sa_ne (by decide)).trans ((ga_sa_ne (by decide)).trans ((ga_sv).trans ((ga_sv).trans ((ga_sv).trans (ga_sv)))))))))), gn_set (a := 0) rfl (by decide) (by rw [gl_244 hm]; decide) (by decide), if_pos rfl]; rfl) (by rw [((ga_sv).trans (ga_sa_eq.trans (congrArg (fun l => List.set l (0 : Int32).toNatClampNeg 0) ((ga_sa_ne (by decide)).trans ((ga_sa_ne (by decide)).trans ((ga_sa_ne (by decide)).trans ((ga_sv).trans ((ga_sv).trans ((ga_sv).trans (ga_sv)))))))))), gn_set (a := 0) rfl (by decide) (by rw [gl_246 hm]; decide) (by decide), if_pos rfl]; rfl) (by decide)
          obtain rfl : fm = 0 := by omega
          rcases hS with ⟨p, rfl, f0, r0⟩ | ⟨-, f⟩
          · have hp := mRd_p r0
            have I := rF_loop (d := d) (T := T) (n := n) (n - p + 1).toNat _ _ 1 lo p (by omega) hm2 (by rw [((gi_sv_ne (by decide)).trans ((gi_sa).trans ((gi_sa).trans ((gi_sa).trans ((gi_sa).trans (gi_eqO (isO_sv (isO_sv (isO_sv (isO_of hm)))) (by decide)))))))]; exact P1) (mRd_fm (ks := [242, 243, 244, 246]) (is := [41, 42, 44, 45]) (fr_sv rfl (fr_sa rfl (fr_sa rfl (fr_sa rfl (fr_sa rfl (fr_sv rfl (fr_sv rfl (fr_sv rfl (fr_sv rfl (fr_rf)))))))))) rfl rfl rfl rfl rfl rfl rfl r0) rfl a0 a2
            rw [((gi_sv_ne (by decide)).trans ((gi_sa).trans ((gi_sa).trans ((gi_sa).trans ((gi_sa).trans (gi_eqO (isO_sv (isO_sv (isO_sv (isO_of hm)))) (by decide))))))), mC_fm (ks := [242, 243, 244, 246]) (is := [41, 42, 44, 45]) (fr_sv rfl (fr_sa rfl (fr_sa rfl (fr_sa rfl (fr_sa rfl (fr_sv rfl (fr_sv rfl (fr_sv rfl (fr_sv rfl (fr_rf)))))))))) rfl rfl] at I
            exact I
          · exfalso
            have f1 : 1 ≤ (gi mem 221 8).toInt := f
            omega)
        (fun q1 q2 x8 e9 lo a0 a2 hm2 => by
          have c := hc (by omega)
          have P1 := PI_new (K := 1) (m' := (si (sx (sx (sx (sx (si (si (si (si mem 221 41 0) 221 42 0) 221 44 0) 221 45 0) 242 0 1) 243 0 0) 244 0 1) 246 0 0) 221 41 x8)) hm hT (by show (gi mem 221 8).toInt = 0; omega) hi c (fr_sv rfl (fr_sa rfl (fr_sa rfl (fr_sa rfl (fr_sa rfl (fr_sv rfl (fr_sv rfl (fr_sv rfl (fr_sv rfl (fr_rf)))))))))) (by rw [(gi_eqO (isO_sa (by decide) (isO_sa (by decide) (isO_sa (by decide) (isO_sa (by decide) (isO_sv (isO_sv (isO_sv (isO_sv (isO_of hm))))))))) (by decide))]; omega) (by rw [((gi_sv_ne (by decide)).trans ((gi_sa).trans ((gi_sa).trans ((gi_sa).trans ((gi_sa).trans ((gi_sv_ne (by decide)).trans ((gi_sv_ne (by decide)).trans (gi_eqO (isO_sv (isO_of hm)) (by decide)))))))))]; rfl) (by rw [((gi_sv_ne (by decide)).trans ((gi_sa).trans ((gi_sa).trans ((gi_sa).trans ((gi_sa).trans ((gi_sv_ne (by decide)).trans (gi_eqO (isO_sv (isO_sv (isO_of hm))) (by decide))))))))]; rfl) (by rw [((ga_sv).trans ((ga_sa_ne (by decide)).trans ((ga_sa_ne (by decide)).trans ((ga_sa_ne (by decide)).trans (ga_sa_eq.trans (congrArg (fun l => List.set l (0 : Int32).toNatClampNeg 1) ((ga_sv).trans ((ga_sv).trans ((ga_sv).trans (ga_sv)))))))))), gn_set (a := 0) rfl (by decide) (by rw [gl_242 hm]; decide) (by decide), if_pos rfl]; rfl) (by rw [((ga_sv).trans ((ga_sa_ne (by decide)).trans ((ga_sa_ne (by decide)).trans (ga_sa_eq.trans (congrArg (fun l => List.set l (0 : Int32).toNatClampNeg 0) ((ga_sa_ne (by decide)).trans ((ga_sv).trans ((ga_sv).trans ((ga_sv).trans (ga_sv)))))))))), gn_set (a := 0) rfl (by decide) (by rw [gl_243 hm]; decide) (by decide), if_pos rfl]; rfl) (by rw [((ga_sv).trans ((ga_sa_ne (by decide)).trans (ga_sa_eq.trans (congrArg (fun l => List.set l (0 : Int32).toNatClampNeg 1) ((ga_sa_ne (by decide)).trans ((ga_sa_ne (by decide)).trans ((ga_sv).trans ((ga_sv).trans ((ga_sv).trans (ga_sv)))))))))), gn_set (a := 0) rfl (by decide) (by rw [gl_244 hm]; decide) (by decide), if_pos rfl]; rfl) (by rw [((ga_sv).trans (ga_sa_eq.trans (congrArg (fun l => List.set l (0 : Int32).toNatClampNeg 0) ((ga_sa_ne (by decide)).trans ((ga_sa_ne (by decide)).trans ((ga_sa_ne (by decide)).trans ((ga_sv).trans ((ga_sv).trans ((ga_sv).trans (ga_sv)))))))))), gn_set (a := 0) rfl (by decide) (by rw [gl_246 hm]; decide) (by decide), if_pos rfl]; rfl) (by decide)
          obtain rfl : fm = 1 := by omega
          rcases hS with ⟨p, rfl, f0, r0⟩ | ⟨-, f⟩
          · have hp := mRd_p r0
            have I := rF_loop (d := d) (T := T) (n := n) (n - p + 1).toNat _ _ 1 lo p (by omega) hm2 (by rw [((gi_sv_ne (by decide)).trans ((gi_sa).trans ((gi_sa).trans ((gi_sa).trans ((gi_sa).trans (gi_eqO (isO_sv (isO_sv (isO_sv (isO_of hm)))) (by decide)))))))]; exact P1) (mRd_fm (ks := [242, 243, 244, 246]) (is := [41, 42, 44, 45]) (fr_sv rfl (fr_sa rfl (fr_sa rfl (fr_sa rfl (fr_sa rfl (fr_sv rfl (fr_sv rfl (fr_sv rfl (fr_sv rfl (fr_rf)))))))))) rfl rfl rfl rfl rfl rfl rfl r0) rfl a0 a2
            rw [((gi_sv_ne (by decide)).trans ((gi_sa).trans ((gi_sa).trans ((gi_sa).trans ((gi_sa).trans (gi_eqO (isO_sv (isO_sv (isO_sv (isO_of hm)))) (by decide))))))), mC_fm (ks := [242, 243, 244, 246]) (is := [41, 42, 44, 45]) (fr_sv rfl (fr_sa rfl (fr_sa rfl (fr_sa rfl (fr_sa rfl (fr_sv rfl (fr_sv rfl (fr_sv rfl (fr_sv rfl (fr_rf)))))))))) rfl rfl] at I
            exact I
          · exfalso
            have f1 : 1 ≤ (gi mem 221 8).toInt := f
            omega)
        (fun q1 hm2 => by
          rcases hS with ⟨p, -, f0, -⟩ | ⟨e, f⟩
          · exfalso
            have f1 : (gi mem 221 8).toInt = 0 := f0
            omega
          · rw [e]
            exact mSc_no f rfl)
end RG
