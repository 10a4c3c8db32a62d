/-! a statement of the model, by what it means -/
section ST
variable (T : List Int32) (n : Int)
noncomputable def sZ192 (Q : Qd) (p : Int) : Option (Qd × Int) := none
noncomputable def sZ174 (Q : Qd) (p : Int) : Option (Qd × Int) := pif (sIO T n 14 p) (sRea T n 2 Q (tkf T n p).2) (sZ192 Q p)
noncomputable def sZ156 (Q : Qd) (p : Int) : Option (Qd × Int) := pif (sIO T n 13 p) (sRea T n 1 Q (tkf T n p).2) (sZ174 T n Q p)
noncomputable def sZ138 (Q : Qd) (p : Int) : Option (Qd × Int) := pif (sIO T n 12 p) (sRea T n 0 Q (tkf T n p).2) (sZ156 T n Q p)
noncomputable def sZ121 (Q : Qd) (p : Int) : Option (Qd × Int) := pif (sIO T n 10 p) (oif ((Qf Q).length < 6) (sFol T n Q (tkf T n p).2)) (sZ138 T n Q p)
noncomputable def sZ104 (Q : Qd) (p : Int) : Option (Qd × Int) := pif (sIO T n 9 p) (sHav T n Q (tkf T n p).2) (sZ121 T n Q p)
noncomputable def sZ87 (Q : Qd) (p : Int) : Option (Qd × Int) := pif (sIO T n 5 p) (oif ((Qt Q).length < 9) (sLac T n Q (tkf T n p).2)) (sZ104 T n Q p)
noncomputable def sZ70 (Q : Qd) (p : Int) : Option (Qd × Int) := pif (sIO T n 4 p) (sWal T n Q (tkf T n p).2) (sZ87 T n Q p)
noncomputable def sZ41 (Q : Qd) (p : Int) : Option (Qd × Int) := pif (sIO T n 3 p) (sTel T n 3 0 100 Q (tkf T n p).2) (sZ70 T n Q p)
noncomputable def sZ12 (Q : Qd) (p : Int) : Option (Qd × Int) := pif (sIO T n 2 p) (sTel T n 2 1 9 Q (tkf T n p).2) (sZ41 T n Q p)
/-- a statement -/
noncomputable def sSta (Q : Qd) (p : Int) : Option (Qd × Int) := sZ12 T n Q p
theorem sSta_4 {T : List Int32} {n : Int} {Q : Qd} {p : Int} (h : (tkf T n p).1.1 = 4) : sSta T n Q p = none := by
  have nO : ∀ c, ¬ sIO T n c p := fun c w => by
    have := w.1
    omega
  exact (pif_f (nO _)).trans ((pif_f (nO _)).trans ((pif_f (nO _)).trans ((pif_f (nO _)).trans ((pif_f (nO _)).trans ((pif_f (nO _)).trans ((pif_f (nO _)).trans ((pif_f (nO _)).trans ((pif_f (nO _)).trans (rfl)))))))))
end ST
section SU2
variable {d k : Nat} {as : List Value} {mr mem m : zM} {T : List Int32} {n p b : Int} {Q : Qd}
theorem yC_an {X Y : zM → Prop} (h1 : yC zpg d k as mem (fun r m => r = none ∧ aTm aT0 m ∧ X m)) (h2 : yC zpg d k as mem (fun r m => Y m)) : yC zpg d k as mem (fun r m => r = none ∧ aTm aT0 m ∧ Y m) := yC_mono (fun r m q => ⟨q.1.1, q.1.2.1, q.2⟩) (yC_and h1 h2)
theorem yC_an2 {X : zM → Prop} {Y : Int32 → zM → Prop} (h1 : yC zpg d k as mem (fun r m => ∃ v : Int32, r = some (.int v) ∧ aTm aT0 m ∧ X m)) (h2 : yC zpg d k as mem (fun r m => ∃ v : Int32, r = some (.int v) ∧ Y v m)) : yC zpg d k as mem (fun r m => ∃ v : Int32, r = some (.int v) ∧ aTm aT0 m ∧ (X m ∧ Y v m)) := yC_mono (fun r m q => by
  obtain ⟨⟨v, a, b, c⟩, w, e, f⟩ := q
  rw [a] at e
  cases e
  exact ⟨v, a, b, c, f⟩) (yC_and h1 h2)
theorem tel_s2 {v x : Int32} {q : Int} (h : mS T n (nuP T n 1 9 (some q)) m) (V : nuV T n 1 9 (some q) v.toInt) (hm : aTm aT0 m) (hb : 0 ≤ b ∧ b ≤ 1) (hx : x.toInt = b) (hQ : mQ b Q m) : stR T n b (sTel T n 2 1 9 Q q) (sx m 225 x v) := by
  have e : nuP T n 1 9 (some q) = (sNum T n 1 9 q).map Prod.snd := rfl
  rw [e] at h
  unfold sTel
  rcases h with ⟨p', h1, h2, h3⟩ | ⟨h1, h2⟩
  · obtain ⟨z, h4, h5⟩ := om_s h1
    have hv := V q z rfl h4
    have hz := sNum_b h4
    rw [h4]
    refine Or.inl ⟨setT 2 z.1 Q, z.2, rfl, by show (gi _ 221 8).toInt = 0; rw [gi_sa]; exact h2, mRd_sa (by decide) (by rw [h5]; exact h3), ?_⟩
    rw [← hv]
    exact mQ_225 hm hb (by omega) hx hQ
  · rw [mp_none h1]
    exact Or.inr ⟨rfl, by show 1 ≤ (gi _ 221 8).toInt; rw [gi_sa]; exact h2⟩
theorem tel_s3 {v x : Int32} {q : Int} (h : mS T n (nuP T n 0 100 (some q)) m) (V : nuV T n 0 100 (some q) v.toInt) (hm : aTm aT0 m) (hb : 0 ≤ b ∧ b ≤ 1) (hx : x.toInt = b) (hQ : mQ b Q m) : stR T n b (sTel T n 3 0 100 Q q) (sx m 226 x v) := by
  have e : nuP T n 0 100 (some q) = (sNum T n 0 100 q).map Prod.snd := rfl
  rw [e] at h
  unfold sTel
  rcases h with ⟨p', h1, h2, h3⟩ | ⟨h1, h2⟩
  · obtain ⟨z, h4, h5⟩ := om_s h1
    have hv := V q z rfl h4
    have hz := sNum_b h4
    rw [h4]
    refine Or.inl ⟨setT 3 z.1 Q, z.2, rfl, by show (gi _ 221 8).toInt = 0; rw [gi_sa]; exact h2, mRd_sa (by decide) (by rw [h5]; exact h3), ?_⟩
    rw [← hv]
    exact mQ_226 hm hb (by omega) hx hQ
  · rw [mp_none h1]
    exact Or.inr ⟨rfl, by show 1 ≤ (gi _ 221 8).toInt; rw [gi_sa]; exact h2⟩
set_option maxRecDepth 100000 in
theorem w_sF_192 {d : Nat} {mem : zM} {P : Option Value → zM → Prop} {mr : zM} {T : List Int32} {n p b : Int} {Q : Qd} {lo : List (Nat × Value)} (hm : aTm aT0 mem) (l_0 : zlg lo 0 = some (.ref 221)) (h : SI mr mem) (h8 : (gi mem 221 8).toInt = 0) (sg : ¬ (gi mem 221 3).toInt = 0) (hX : mX T n p mem) (hS : mS T n (some p) mem) (hb : (gi mem 221 34).toInt = b) (hQ : mQ b Q mem) (hq : (3 ≤ Qc Q ∧ Qc Q ≤ 7) ∧ 3 ≤ Qr Q ∧ Qr Q ≤ 7) (h1 : (gi mem 221 8).toInt ≤ 0 → aTm aT0 (si (si mem 221 8 1) 221 9 (gi mem 221 4)) → P none (si (si mem 221 8 1) 221 9 (gi mem 221 4))) (h2 : 0 < (gi mem 221 8).toInt → aTm aT0 mem → P none mem) : yR zpg tX12_statement (d + 10) (192, lo, [], mem) P := by
  obtain ⟨i0, i1⟩ := mO_r34 hm
  refine wR_la rfl l_0 ?_
  refine yR_m 1 (fun _ _ _ _ => rfl) ?_
  refine wR_la rfl l_0 ?_
  refine wR_gi rfl mO_e mO_4 hm rfl ?_
  refine wR_iv rfl rfl mO_e hm rfl rfl rfl rfl ?_
  show yR zpg tX12_blame (d + 9) (0, [(0, .ref 221), (1, .int 1), (2, .int (gi mem 221 4))], [], mem) _
  refine yR_m 1 (fun _ _ _ _ => rfl) ?_
  refine wR_gi rfl mO_e mO_8 hm rfl ?_
  refine wR_if_le rfl (a := (gi mem 221 8).toInt) rfl (fun q1 => ?_) (fun q1 => ?_)
  ·
    refine yR_m 2 (fun _ _ _ _ => rfl) ?_
    refine wR_pi rfl mO_e mO_8 hm rfl ?_
    have hm_1 : aTm aT0 (si mem 221 8 1) := tm_si mO_e mO_8 hm (i32_b _)
    refine yR_m 2 (fun _ _ _ _ => rfl) ?_
    refine wR_pi rfl mO_e mO_9 hm_1 rfl ?_
    have hm_2 : aTm aT0 (si (si mem 221 8 1) 221 9 (gi mem 221 4)) := tm_si mO_e mO_9 hm_1 (i32_b _)
    refine yR_rv rfl ?_
    show yR zpg tX12_statement (d + 10) (201, lo, [], (si (si mem 221 8 1) 221 9 (gi mem 221 4))) _
    exact yR_rv rfl (h1 q1 hm_2)
  ·
    refine yR_rv rfl ?_
    show yR zpg tX12_statement (d + 10) (201, lo, [], mem) _
    exact yR_rv rfl (h2 q1 hm)

theorem sF_192 {sp : Option (Qd × Int)} {lo : List (Nat × Value)} (hm : aTm aT0 mem) (h : SI mr mem) (h8 : (gi mem 221 8).toInt = 0) (sg : ¬ (gi mem 221 3).toInt = 0) (hX : mX T n p mem) (hS : mS T n (some p) mem) (hb : (gi mem 221 34).toInt = b) (hQ : mQ b Q mem) (hq : (3 ≤ Qc Q ∧ Qc Q ≤ 7) ∧ 3 ≤ Qr Q ∧ Qr Q ≤ 7) (hs : sp = sZ192 Q p) (a0 : zlg lo 0 = some (.ref 221)) : yR zpg tX12_statement (d + 10) (192, lo, [], mem) (fun _ m => stR T n b sp m) := by
  exact w_sF_192 (mr := mr) (T := T) (n := n) (p := p) (b := b) (Q := Q) hm a0 h h8 sg hX hS hb hQ hq
        (fun q1 hm2 => stR_no hs (by show 1 ≤ (gi _ 221 8).toInt; rw [((gi_sv_ne (by decide)).trans (gi_eqO (isO_of hm) (by decide)))]; decide))
        (fun q1 hm2 => by exfalso; omega)
set_option maxRecDepth 100000 in
theorem w_sF_174 {d : Nat} {mem : zM} {P : Option Value → zM → Prop} {mr : zM} {T : List Int32} {n p b : Int} {Q : Qd} {lo : List (Nat × Value)} (hm : aTm aT0 mem) (l_0 : zlg lo 0 = some (.ref 221)) (h : SI mr mem) (h8 : (gi mem 221 8).toInt = 0) (sg : ¬ (gi mem 221 3).toInt = 0) (hX : mX T n p mem) (hS : mS T n (some p) mem) (hb : (gi mem 221 34).toInt = b) (hQ : mQ b Q mem) (hq : (3 ≤ Qc Q ∧ Qc Q ≤ 7) ∧ 3 ≤ Qr Q ∧ Qr Q ≤ 7) (h1 : ∀ (v1 : Int32), ((v1.toInt = 0 ∧ ¬ sIO T n 14 p) ∨ (v1.toInt = 1 ∧ sIO T n 14 p)) → (v1).toInt = 0 → ∀ lo, zlg lo 0 = some (.ref 221) → aTm aT0 mem → yR zpg tX12_statement (d + 10) (192, lo, [], mem) P) (h2 : ∀ (v1 : Int32), ((v1.toInt = 0 ∧ ¬ sIO T n 14 p) ∨ (v1.toInt = 1 ∧ sIO T n 14 p)) → ¬ (v1).toInt = 0 → ∀ (m4 : zM), aTm aT0 m4 → stR T n b (sRea T n 2 Q (tkf T n p).2) m4 → aTm aT0 m4 → P none m4) : yR zpg tX12_statement (d + 10) (174, lo, [], mem) P := by
  obtain ⟨i0, i1⟩ := mO_r34 hm
  refine wR_la rfl l_0 ?_
  refine yR_m 1 (fun _ _ _ _ => rfl) ?_
  refine wR_cv rfl rfl mO_e hm rfl (h_woX (T := T) (n := n) (p := p) (k := 14) (by decide) (by decide) hm hX (by omega)) ?_
  rintro _ _ ⟨v1, rfl, rfl, k2⟩
  show yR zpg tX12_statement (d + 10) (181, lo, [.int v1], mem) _
  refine wR_if_eq rfl (a := (v1).toInt) rfl (fun q3 => ?_) (fun q3 => ?_)
  ·
    exact h1 v1 k2 q3 lo l_0 hm
  ·
    refine wR_la rfl l_0 ?_
    refine yR_m 1 (fun _ _ _ _ => rfl) ?_
    refine wR_cv rfl rfl mO_e hm rfl (yC_an (h_readin5 hm h h8 sg (by decide) (by omega)) (h_reaF (T := T) (n := n) (b := b) (Q := Q) (p0 := p) hm h h8 sg (by decide) hS rfl hb hQ (by omega))) ?_
    rintro _ m4 ⟨rfl, hI4, k5⟩
    show yR zpg tX12_statement (d + 10) (189, lo, [], m4) _
    refine yR_m 1 (fun _ _ _ _ => rfl) ?_
    exact yR_rv rfl (h2 v1 k2 q3 m4 hI4 k5 hI4)

theorem sF_174 {sp : Option (Qd × Int)} {lo : List (Nat × Value)} (hm : aTm aT0 mem) (h : SI mr mem) (h8 : (gi mem 221 8).toInt = 0) (sg : ¬ (gi mem 221 3).toInt = 0) (hX : mX T n p mem) (hS : mS T n (some p) mem) (hb : (gi mem 221 34).toInt = b) (hQ : mQ b Q mem) (hq : (3 ≤ Qc Q ∧ Qc Q ≤ 7) ∧ 3 ≤ Qr Q ∧ Qr Q ≤ 7) (hs : sp = sZ174 T n Q p) (a0 : zlg lo 0 = some (.ref 221)) : yR zpg tX12_statement (d + 10) (174, lo, [], mem) (fun _ m => stR T n b sp m) := by
  exact w_sF_174 (mr := mr) (T := T) (n := n) (p := p) (b := b) (Q := Q) hm a0 h h8 sg hX hS hb hQ hq
        (fun v1 k2 q3 lo a0 hm2 => sF_192 hm h h8 sg hX hS hb hQ hq (hs.trans (pif_f (dj_0 k2 (by omega)))) a0)
        (fun v1 k2 q3 m4 hI4 k5 hm2 => by
          rw [hs.trans (pif_t (dj_1 k2 (by omega)))]
          exact k5)
set_option maxRecDepth 100000 in
theorem w_sF_156 {d : Nat} {mem : zM} {P : Option Value → zM → Prop} {mr : zM} {T : List Int32} {n p b : Int} {Q : Qd} {lo : List (Nat × Value)} (hm : aTm aT0 mem) (l_0 : zlg lo 0 = some (.ref 221)) (h : SI mr mem) (h8 : (gi mem 221 8).toInt = 0) (sg : ¬ (gi mem 221 3).toInt = 0) (hX : mX T n p mem) (hS : mS T n (some p) mem) (hb : (gi mem 221 34).toInt = b) (hQ : mQ b Q mem) (hq : (3 ≤ Qc Q ∧ Qc Q ≤ 7) ∧ 3 ≤ Qr Q ∧ Qr Q ≤ 7) (h1 : ∀ (v1 : Int32), ((v1.toInt = 0 ∧ ¬ sIO T n 13 p) ∨ (v1.toInt = 1 ∧ sIO T n 13 p)) → (v1).toInt = 0 → ∀ lo, zlg lo 0 = some (.ref 221) → aTm aT0 mem → yR zpg tX12_statement (d + 10) (174, lo, [], mem) P) (h2 : ∀ (v1 : Int32), ((v1.toInt = 0 ∧ ¬ sIO T n 13 p) ∨ (v1.toInt = 1 ∧ sIO T n 13 p)) → ¬ (v1).toInt = 0 → ∀ (m4 : zM), aTm aT0 m4 → stR T n b (sRea T n 1 Q (tkf T n p).2) m4 → aTm aT0 m4 → P none m4) : yR zpg tX12_statement (d + 10) (156, lo, [], mem) P := by
  obtain ⟨i0, i1⟩ := mO_r34 hm
  refine wR_la rfl l_0 ?_
  refine yR_m 1 (fun _ _ _ _ => rfl) ?_
  refine wR_cv rfl rfl mO_e hm rfl (h_woX (T := T) (n := n) (p := p) (k := 13) (by decide) (by decide) hm hX (by omega)) ?_
  rintro _ _ ⟨v1, rfl, rfl, k2⟩
  show yR zpg tX12_statement (d + 10) (163, lo, [.int v1], mem) _
  refine wR_if_eq rfl (a := (v1).toInt) rfl (fun q3 => ?_) (fun q3 => ?_)
  ·
    exact h1 v1 k2 q3 lo l_0 hm
  ·
    refine wR_la rfl l_0 ?_
    refine yR_m 1 (fun _ _ _ _ => rfl) ?_
    refine wR_cv rfl rfl mO_e hm rfl (yC_an (h_readin5 hm h h8 sg (by decide) (by omega)) (h_reaF (T := T) (n := n) (b := b) (Q := Q) (p0 := p) hm h h8 sg (by decide) hS rfl hb hQ (by omega))) ?_
    rintro _ m4 ⟨rfl, hI4, k5⟩
    show yR zpg tX12_statement (d + 10) (171, lo, [], m4) _
    refine yR_m 1 (fun _ _ _ _ => rfl) ?_
    exact yR_rv rfl (h2 v1 k2 q3 m4 hI4 k5 hI4)

theorem sF_156 {sp : Option (Qd × Int)} {lo : List (Nat × Value)} (hm : aTm aT0 mem) (h : SI mr mem) (h8 : (gi mem 221 8).toInt = 0) (sg : ¬ (gi mem 221 3).toInt = 0) (hX : mX T n p mem) (hS : mS T n (some p) mem) (hb : (gi mem 221 34).toInt = b) (hQ : mQ b Q mem) (hq : (3 ≤ Qc Q ∧ Qc Q ≤ 7) ∧ 3 ≤ Qr Q ∧ Qr Q ≤ 7) (hs : sp = sZ156 T n Q p) (a0 : zlg lo 0 = some (.ref 221)) : yR zpg tX12_statement (d + 10) (156, lo, [], mem) (fun _ m => stR T n b sp m) := by
  exact w_sF_156 (mr := mr) (T := T) (n := n) (p := p) (b := b) (Q := Q) hm a0 h h8 sg hX hS hb hQ hq
        (fun v1 k2 q3 lo a0 hm2 => sF_174 hm h h8 sg hX hS hb hQ hq (hs.trans (pif_f (dj_0 k2 (by omega)))) a0)
        (fun v1 k2 q3 m4 hI4 k5 hm2 => by
          rw [hs.trans (pif_t (dj_1 k2 (by omega)))]
          exact k5)
set_option maxRecDepth 100000 in
theorem w_sF_138 {d : Nat} {mem : zM} {P : Option Value → zM → Prop} {mr : zM} {T : List Int32} {n p b : Int} {Q : Qd} {lo : List (Nat × Value)} (hm : aTm aT0 mem) (l_0 : zlg lo 0 = some (.ref 221)) (h : SI mr mem) (h8 : (gi mem 221 8).toInt = 0) (sg : ¬ (gi mem 221 3).toInt = 0) (hX : mX T n p mem) (hS : mS T n (some p) mem) (hb : (gi mem 221 34).toInt = b) (hQ : mQ b Q mem) (hq : (3 ≤ Qc Q ∧ Qc Q ≤ 7) ∧ 3 ≤ Qr Q ∧ Qr Q ≤ 7) (h1 : ∀ (v1 : Int32), ((v1.toInt = 0 ∧ ¬ sIO T n 12 p) ∨ (v1.toInt = 1 ∧ sIO T n 12 p)) → (v1).toInt = 0 → ∀ lo, zlg lo 0 = some (.ref 221) → aTm aT0 mem → yR zpg tX12_statement (d + 10) (156, lo, [], mem) P) (h2 : ∀ (v1 : Int32), ((v1.toInt = 0 ∧ ¬ sIO T n 12 p) ∨ (v1.toInt = 1 ∧ sIO T n 12 p)) → ¬ (v1).toInt = 0 → ∀ (m4 : zM), aTm aT0 m4 → stR T n b (sRea T n 0 Q (tkf T n p).2) m4 → aTm aT0 m4 → P none m4) : yR zpg tX12_statement (d + 10) (138, lo, [], mem) P := by
  obtain ⟨i0, i1⟩ := mO_r34 hm
  refine wR_la rfl l_0 ?_
  refine yR_m 1 (fun _ _ _ _ => rfl) ?_
  refine wR_cv rfl rfl mO_e hm rfl (h_woX (T := T) (n := n) (p := p) (k := 12) (by decide) (by decide) hm hX (by omega)) ?_
  rintro _ _ ⟨v1, rfl, rfl, k2⟩
  show yR zpg tX12_statement (d + 10) (145, lo, [.int v1], mem) _
  refine wR_if_eq rfl (a := (v1).toInt) rfl (fun q3 => ?_) (fun q3 => ?_)
  ·
    exact h1 v1 k2 q3 lo l_0 hm
  ·
    refine wR_la rfl l_0 ?_
    refine yR_m 1 (fun _ _ _ _ => rfl) ?_
    refine wR_cv rfl rfl mO_e hm rfl (yC_an (h_readin5 hm h h8 sg (by decide) (by omega)) (h_reaF (T := T) (n := n) (b := b) (Q := Q) (p0 := p) hm h h8 sg (by decide) hS rfl hb hQ (by omega))) ?_
    rintro _ m4 ⟨rfl, hI4, k5⟩
    show yR zpg tX12_statement (d + 10) (153, lo, [], m4) _
    refine yR_m 1 (fun _ _ _ _ => rfl) ?_
    exact yR_rv rfl (h2 v1 k2 q3 m4 hI4 k5 hI4)

theorem sF_138 {sp : Option (Qd × Int)} {lo : List (Nat × Value)} (hm : aTm aT0 mem) (h : SI mr mem) (h8 : (gi mem 221 8).toInt = 0) (sg : ¬ (gi mem 221 3).toInt = 0) (hX : mX T n p mem) (hS : mS T n (some p) mem) (hb : (gi mem 221 34).toInt = b) (hQ : mQ b Q mem) (hq : (3 ≤ Qc Q ∧ Qc Q ≤ 7) ∧ 3 ≤ Qr Q ∧ Qr Q ≤ 7) (hs : sp = sZ138 T n Q p) (a0 : zlg lo 0 = some (.ref 221)) : yR zpg tX12_statement (d + 10) (138, lo, [], mem) (fun _ m => stR T n b sp m) := by
  exact w_sF_138 (mr := mr) (T := T) (n := n) (p := p) (b := b) (Q := Q) hm a0 h h8 sg hX hS hb hQ hq
        (fun v1 k2 q3 lo a0 hm2 => sF_156 hm h h8 sg hX hS hb hQ hq (hs.trans (pif_f (dj_0 k2 (by omega)))) a0)
        (fun v1 k2 q3 m4 hI4 k5 hm2 => by
          rw [hs.trans (pif_t (dj_1 k2 (by omega)))]
          exact k5)
set_option maxRecDepth 100000 in
theorem w_sF_121 {d : Nat} {mem : zM} {P : Option Value → zM → Prop} {mr : zM} {T : List Int32} {n p b : Int} {Q : Qd} {lo : List (Nat × Value)} (hm : aTm aT0 mem) (l_0 : zlg lo 0 = some (.ref 221)) (h : SI mr mem) (h8 : (gi mem 221 8).toInt = 0) (sg : ¬ (gi mem 221 3).toInt = 0) (hX : mX T n p mem) (hS : mS T n (some p) mem) (hb : (gi mem 221 34).toInt = b) (hQ : mQ b Q mem) (hq : (3 ≤ Qc Q ∧ Qc Q ≤ 7) ∧ 3 ≤ Qr Q ∧ Qr Q ≤ 7) (h1 : ∀ (v1 : Int32), ((v1.toInt = 0 ∧ ¬ sIO T n 10 p) ∨ (v1.toInt = 1 ∧ sIO T n 10 p)) → (v1).toInt = 0 → ∀ lo, zlg lo 0 = some (.ref 221) → aTm aT0 mem → yR zpg tX12_statement (d + 10) (138, lo, [], mem) P) (h2 : ∀ (v1 : Int32), ((v1.toInt = 0 ∧ ¬ sIO T n 10 p) ∨ (v1.toInt = 1 ∧ sIO T n 10 p)) → ¬ (v1).toInt = 0 → ∀ (m4 : zM), aTm aT0 m4 → stR T n b (oif ((Qf Q).length < 6) (sFol T n Q (tkf T n p).2)) m4 → aTm aT0 m4 → P none m4) : yR zpg tX12_statement (d + 10) (121, lo, [], mem) P := by
  obtain ⟨i0, i1⟩ := mO_r34 hm
  refine wR_la rfl l_0 ?_
  refine yR_m 1 (fun _ _ _ _ => rfl) ?_
  refine wR_cv rfl rfl mO_e hm rfl (h_woX (T := T) (n := n) (p := p) (k := 10) (by decide) (by decide) hm hX (by omega)) ?_
  rintro _ _ ⟨v1, rfl, rfl, k2⟩
  show yR zpg tX12_statement (d + 10) (128, lo, [.int v1], mem) _
  refine wR_if_eq rfl (a := (v1).toInt) rfl (fun q3 => ?_) (fun q3 => ?_)
  ·
    exact h1 v1 k2 q3 lo l_0 hm
  ·
    refine wR_la rfl l_0 ?_
    refine wR_cv rfl rfl mO_e hm rfl (yC_an (h_folking hm h.2.1 sg (h.2.2.2 h8).1.1 (h.2.2.2 h8).1.2 (by omega)) (h_folF (T := T) (n := n) (b := b) (Q := Q) (p := p) hm h.2.1 sg hS rfl hb hQ hq (by omega))) ?_
    rintro _ m4 ⟨rfl, hI4, k5⟩
    show yR zpg tX12_statement (d + 10) (135, lo, [], m4) _
    refine yR_m 1 (fun _ _ _ _ => rfl) ?_
    exact yR_rv rfl (h2 v1 k2 q3 m4 hI4 k5 hI4)

theorem sF_121 {sp : Option (Qd × Int)} {lo : List (Nat × Value)} (hm : aTm aT0 mem) (h : SI mr mem) (h8 : (gi mem 221 8).toInt = 0) (sg : ¬ (gi mem 221 3).toInt = 0) (hX : mX T n p mem) (hS : mS T n (some p) mem) (hb : (gi mem 221 34).toInt = b) (hQ : mQ b Q mem) (hq : (3 ≤ Qc Q ∧ Qc Q ≤ 7) ∧ 3 ≤ Qr Q ∧ Qr Q ≤ 7) (hs : sp = sZ121 T n Q p) (a0 : zlg lo 0 = some (.ref 221)) : yR zpg tX12_statement (d + 10) (121, lo, [], mem) (fun _ m => stR T n b sp m) := by
  exact w_sF_121 (mr := mr) (T := T) (n := n) (p := p) (b := b) (Q := Q) hm a0 h h8 sg hX hS hb hQ hq
        (fun v1 k2 q3 lo a0 hm2 => sF_138 hm h h8 sg hX hS hb hQ hq (hs.trans (pif_f (dj_0 k2 (by omega)))) a0)
        (fun v1 k2 q3 m4 hI4 k5 hm2 => by
          rw [hs.trans (pif_t (dj_1 k2 (by omega)))]
          exact k5)
set_option maxRecDepth 100000 in
theorem w_sF_104 {d : Nat} {mem : zM} {P : Option Value → zM → Prop} {mr : zM} {T : List Int32} {n p b : Int} {Q : Qd} {lo : List (Nat × Value)} (hm : aTm aT0 mem) (l_0 : zlg lo 0 = some (.ref 221)) (h : SI mr mem) (h8 : (gi mem 221 8).toInt = 0) (sg : ¬ (gi mem 221 3).toInt = 0) (hX : mX T n p mem) (hS : mS T n (some p) mem) (hb : (gi mem 221 34).toInt = b) (hQ : mQ b Q mem) (hq : (3 ≤ Qc Q ∧ Qc Q ≤ 7) ∧ 3 ≤ Qr Q ∧ Qr Q ≤ 7) (h1 : ∀ (v1 : Int32), ((v1.toInt = 0 ∧ ¬ sIO T n 9 p) ∨ (v1.toInt = 1 ∧ sIO T n 9 p)) → (v1).toInt = 0 → ∀ lo, zlg lo 0 = some (.ref 221) → aTm aT0 mem → yR zpg tX12_statement (d + 10) (121, lo, [], mem) P) (h2 : ∀ (v1 : Int32), ((v1.toInt = 0 ∧ ¬ sIO T n 9 p) ∨ (v1.toInt = 1 ∧ sIO T n 9 p)) → ¬ (v1).toInt = 0 → ∀ (m4 : zM), aTm aT0 m4 → stR T n b (sHav T n Q (tkf T n p).2) m4 → aTm aT0 m4 → P none m4) : yR zpg tX12_statement (d + 10) (104, lo, [], mem) P := by
  obtain ⟨i0, i1⟩ := mO_r34 hm
  refine wR_la rfl l_0 ?_
  refine yR_m 1 (fun _ _ _ _ => rfl) ?_
  refine wR_cv rfl rfl mO_e hm rfl (h_woX (T := T) (n := n) (p := p) (k := 9) (by decide) (by decide) hm hX (by omega)) ?_
  rintro _ _ ⟨v1, rfl, rfl, k2⟩
  show yR zpg tX12_statement (d + 10) (111, lo, [.int v1], mem) _
  refine wR_if_eq rfl (a := (v1).toInt) rfl (fun q3 => ?_) (fun q3 => ?_)
  ·
    exact h1 v1 k2 q3 lo l_0 hm
  ·
    refine wR_la rfl l_0 ?_
    refine wR_cv rfl rfl mO_e hm rfl (yC_an (h_having hm h.2.1 sg (by omega)) (h_havF (T := T) (n := n) (b := b) (Q := Q) (p0 := p) hm h.2.1 sg hS rfl hb hQ hq (by omega))) ?_
    rintro _ m4 ⟨rfl, hI4, k5⟩
    show yR zpg tX12_statement (d + 10) (118, lo, [], m4) _
    refine yR_m 1 (fun _ _ _ _ => rfl) ?_
    exact yR_rv rfl (h2 v1 k2 q3 m4 hI4 k5 hI4)

theorem sF_104 {sp : Option (Qd × Int)} {lo : List (Nat × Value)} (hm : aTm aT0 mem) (h : SI mr mem) (h8 : (gi mem 221 8).toInt = 0) (sg : ¬ (gi mem 221 3).toInt = 0) (hX : mX T n p mem) (hS : mS T n (some p) mem) (hb : (gi mem 221 34).toInt = b) (hQ : mQ b Q mem) (hq : (3 ≤ Qc Q ∧ Qc Q ≤ 7) ∧ 3 ≤ Qr Q ∧ Qr Q ≤ 7) (hs : sp = sZ104 T n Q p) (a0 : zlg lo 0 = some (.ref 221)) : yR zpg tX12_statement (d + 10) (104, lo, [], mem) (fun _ m => stR T n b sp m) := by
  exact w_sF_104 (mr := mr) (T := T) (n := n) (p := p) (b := b) (Q := Q) hm a0 h h8 sg hX hS hb hQ hq
        (fun v1 k2 q3 lo a0 hm2 => sF_121 hm h h8 sg hX hS hb hQ hq (hs.trans (pif_f (dj_0 k2 (by omega)))) a0)
        (fun v1 k2 q3 m4 hI4 k5 hm2 => by
          rw [hs.trans (pif_t (dj_1 k2 (by omega)))]
          exact k5)
set_option maxRecDepth 100000 in
theorem w_sF_87 {d : Nat} {mem : zM} {P : Option Value → zM → Prop} {mr : zM} {T : List Int32} {n p b : Int} {Q : Qd} {lo : List (Nat × Value)} (hm : aTm aT0 mem) (l_0 : zlg lo 0 = some (.ref 221)) (h : SI mr mem) (h8 : (gi mem 221 8).toInt = 0) (sg : ¬ (gi mem 221 3).toInt = 0) (hX : mX T n p mem) (hS : mS T n (some p) mem) (hb : (gi mem 221 34).toInt = b) (hQ : mQ b Q mem) (hq : (3 ≤ Qc Q ∧ Qc Q ≤ 7) ∧ 3 ≤ Qr Q ∧ Qr Q ≤ 7) (h1 : ∀ (v1 : Int32), ((v1.toInt = 0 ∧ ¬ sIO T n 5 p) ∨ (v1.toInt = 1 ∧ sIO T n 5 p)) → (v1).toInt = 0 → ∀ lo, zlg lo 0 = some (.ref 221) → aTm aT0 mem → yR zpg tX12_statement (d + 10) (104, lo, [], mem) P) (h2 : ∀ (v1 : Int32), ((v1.toInt = 0 ∧ ¬ sIO T n 5 p) ∨ (v1.toInt = 1 ∧ sIO T n 5 p)) → ¬ (v1).toInt = 0 → ∀ (m4 : zM), aTm aT0 m4 → stR T n b (oif ((Qt Q).length < 9) (sLac T n Q (tkf T n p).2)) m4 → aTm aT0 m4 → P none m4) : yR zpg tX12_statement (d + 10) (87, lo, [], mem) P := by
  obtain ⟨i0, i1⟩ := mO_r34 hm
  refine wR_la rfl l_0 ?_
  refine yR_m 1 (fun _ _ _ _ => rfl) ?_
  refine wR_cv rfl rfl mO_e hm rfl (h_woX (T := T) (n := n) (p := p) (k := 5) (by decide) (by decide) hm hX (by omega)) ?_
  rintro _ _ ⟨v1, rfl, rfl, k2⟩
  show yR zpg tX12_statement (d + 10) (94, lo, [.int v1], mem) _
  refine wR_if_eq rfl (a := (v1).toInt) rfl (fun q3 => ?_) (fun q3 => ?_)
  ·
    exact h1 v1 k2 q3 lo l_0 hm
  ·
    refine wR_la rfl l_0 ?_
    refine wR_cv rfl rfl mO_e hm rfl (yC_an (h_lacking hm h.2.1 sg (h.2.2.2 h8).1.1 (h.2.2.2 h8).1.2 (by omega)) (h_lacF (T := T) (n := n) (b := b) (Q := Q) (p := p) hm h.2.1 sg hS rfl hb hQ hq (by omega))) ?_
    rintro _ m4 ⟨rfl, hI4, k5⟩
    show yR zpg tX12_statement (d + 10) (101, lo, [], m4) _
    refine yR_m 1 (fun _ _ _ _ => rfl) ?_
    exact yR_rv rfl (h2 v1 k2 q3 m4 hI4 k5 hI4)

theorem sF_87 {sp : Option (Qd × Int)} {lo : List (Nat × Value)} (hm : aTm aT0 mem) (h : SI mr mem) (h8 : (gi mem 221 8).toInt = 0) (sg : ¬ (gi mem 221 3).toInt = 0) (hX : mX T n p mem) (hS : mS T n (some p) mem) (hb : (gi mem 221 34).toInt = b) (hQ : mQ b Q mem) (hq : (3 ≤ Qc Q ∧ Qc Q ≤ 7) ∧ 3 ≤ Qr Q ∧ Qr Q ≤ 7) (hs : sp = sZ87 T n Q p) (a0 : zlg lo 0 = some (.ref 221)) : yR zpg tX12_statement (d + 10) (87, lo, [], mem) (fun _ m => stR T n b sp m) := by
  exact w_sF_87 (mr := mr) (T := T) (n := n) (p := p) (b := b) (Q := Q) hm a0 h h8 sg hX hS hb hQ hq
        (fun v1 k2 q3 lo a0 hm2 => sF_104 hm h h8 sg hX hS hb hQ hq (hs.trans (pif_f (dj_0 k2 (by omega)))) a0)
        (fun v1 k2 q3 m4 hI4 k5 hm2 => by
          rw [hs.trans (pif_t (dj_1 k2 (by omega)))]
          exact k5)
set_option maxRecDepth 100000 in
theorem w_sF_70 {d : Nat} {mem : zM} {P : Option Value → zM → Prop} {mr : zM} {T : List Int32} {n p b : Int} {Q : Qd} {lo : List (Nat × Value)} (hm : aTm aT0 mem) (l_0 : zlg lo 0 = some (.ref 221)) (h : SI mr mem) (h8 : (gi mem 221 8).toInt = 0) (sg : ¬ (gi mem 221 3).toInt = 0) (hX : mX T n p mem) (hS : mS T n (some p) mem) (hb : (gi mem 221 34).toInt = b) (hQ : mQ b Q mem) (hq : (3 ≤ Qc Q ∧ Qc Q ≤ 7) ∧ 3 ≤ Qr Q ∧ Qr Q ≤ 7) (h1 : ∀ (v1 : Int32), ((v1.toInt = 0 ∧ ¬ sIO T n 4 p) ∨ (v1.toInt = 1 ∧ sIO T n 4 p)) → (v1).toInt = 0 → ∀ lo, zlg lo 0 = some (.ref 221) → aTm aT0 mem → yR zpg tX12_statement (d + 10) (87, lo, [], mem) P) (h2 : ∀ (v1 : Int32), ((v1.toInt = 0 ∧ ¬ sIO T n 4 p) ∨ (v1.toInt = 1 ∧ sIO T n 4 p)) → ¬ (v1).toInt = 0 → ∀ (m4 : zM), aTm aT0 m4 → stR T n b (sWal T n Q (tkf T n p).2) m4 → aTm aT0 m4 → P none m4) : yR zpg tX12_statement (d + 10) (70, lo, [], mem) P := by
  obtain ⟨i0, i1⟩ := mO_r34 hm
  refine wR_la rfl l_0 ?_
  refine yR_m 1 (fun _ _ _ _ => rfl) ?_
  refine wR_cv rfl rfl mO_e hm rfl (h_woX (T := T) (n := n) (p := p) (k := 4) (by decide) (by decide) hm hX (by omega)) ?_
  rintro _ _ ⟨v1, rfl, rfl, k2⟩
  show yR zpg tX12_statement (d + 10) (77, lo, [.int v1], mem) _
  refine wR_if_eq rfl (a := (v1).toInt) rfl (fun q3 => ?_) (fun q3 => ?_)
  ·
    exact h1 v1 k2 q3 lo l_0 hm
  ·
    refine wR_la rfl l_0 ?_
    refine wR_cv rfl rfl mO_e hm rfl (yC_an (h_walling hm h.2.1 sg (h.2.2.2 h8).1.1 (h.2.2.2 h8).1.2 (by omega)) (h_walF (T := T) (n := n) (b := b) (Q := Q) (p := p) hm h.2.1 sg hS rfl hb hQ hq (by omega))) ?_
    rintro _ m4 ⟨rfl, hI4, k5⟩
    show yR zpg tX12_statement (d + 10) (84, lo, [], m4) _
    refine yR_m 1 (fun _ _ _ _ => rfl) ?_
    exact yR_rv rfl (h2 v1 k2 q3 m4 hI4 k5 hI4)

theorem sF_70 {sp : Option (Qd × Int)} {lo : List (Nat × Value)} (hm : aTm aT0 mem) (h : SI mr mem) (h8 : (gi mem 221 8).toInt = 0) (sg : ¬ (gi mem 221 3).toInt = 0) (hX : mX T n p mem) (hS : mS T n (some p) mem) (hb : (gi mem 221 34).toInt = b) (hQ : mQ b Q mem) (hq : (3 ≤ Qc Q ∧ Qc Q ≤ 7) ∧ 3 ≤ Qr Q ∧ Qr Q ≤ 7) (hs : sp = sZ70 T n Q p) (a0 : zlg lo 0 = some (.ref 221)) : yR zpg tX12_statement (d + 10) (70, lo, [], mem) (fun _ m => stR T n b sp m) := by
  exact w_sF_70 (mr := mr) (T := T) (n := n) (p := p) (b := b) (Q := Q) hm a0 h h8 sg hX hS hb hQ hq
        (fun v1 k2 q3 lo a0 hm2 => sF_87 hm h h8 sg hX hS hb hQ hq (hs.trans (pif_f (dj_0 k2 (by omega)))) a0)
        (fun v1 k2 q3 m4 hI4 k5 hm2 => by
          rw [hs.trans (pif_t (dj_1 k2 (by omega)))]
          exact k5)
set_option maxRecDepth 100000 in
theorem w_sF_41 {d : Nat} {mem : zM} {P : Option Value → zM → Prop} {mr : zM} {T : List Int32} {n p b : Int} {Q : Qd} {lo : List (Nat × Value)} (hm : aTm aT0 mem) (l_0 : zlg lo 0 = some (.ref 221)) (h : SI mr mem) (h8 : (gi mem 221 8).toInt = 0) (sg : ¬ (gi mem 221 3).toInt = 0) (hX : mX T n p mem) (hS : mS T n (some p) mem) (hb : (gi mem 221 34).toInt = b) (hQ : mQ b Q mem) (hq : (3 ≤ Qc Q ∧ Qc Q ≤ 7) ∧ 3 ≤ Qr Q ∧ Qr Q ≤ 7) (h1 : ∀ (v1 : Int32), ((v1.toInt = 0 ∧ ¬ sIO T n 3 p) ∨ (v1.toInt = 1 ∧ sIO T n 3 p)) → (v1).toInt = 0 → ∀ lo, zlg lo 0 = some (.ref 221) → aTm aT0 mem → yR zpg tX12_statement (d + 10) (70, lo, [], mem) P) (h2 : ∀ (v1 : Int32), ((v1.toInt = 0 ∧ ¬ sIO T n 3 p) ∨ (v1.toInt = 1 ∧ sIO T n 3 p)) → ¬ (v1).toInt = 0 → ∀ (v6 : Int32) (m4 : zM), aTm aT0 m4 → (stQ [] mem m4 ∧ mS T n (nuP T n 0 100 (some (tkf T n p).2)) m4 ∧ nuV T n 0 100 (some (tkf T n p).2) v6.toInt) → aTm aT0 (sx m4 226 (gi mem 221 34) v6) → P none (sx m4 226 (gi mem 221 34) v6)) : yR zpg tX12_statement (d + 10) (41, lo, [], mem) P := by
  obtain ⟨i0, i1⟩ := mO_r34 hm
  refine wR_la rfl l_0 ?_
  refine yR_m 1 (fun _ _ _ _ => rfl) ?_
  refine wR_cv rfl rfl mO_e hm rfl (h_woX (T := T) (n := n) (p := p) (k := 3) (by decide) (by decide) hm hX (by omega)) ?_
  rintro _ _ ⟨v1, rfl, rfl, k2⟩
  show yR zpg tX12_statement (d + 10) (48, lo, [.int v1], mem) _
  refine wR_if_eq rfl (a := (v1).toInt) rfl (fun q3 => ?_) (fun q3 => ?_)
  ·
    exact h1 v1 k2 q3 lo l_0 hm
  ·
    refine wR_la rfl l_0 ?_
    refine wR_gr rfl mO_e mO_17 hm ?_
    refine wR_la rfl l_0 ?_
    refine wR_gi rfl mO_e mO_34 hm rfl ?_
    refine wR_la rfl l_0 ?_
    refine yR_m 2 (fun _ _ _ _ => rfl) ?_
    refine wR_cv rfl rfl mO_e hm rfl (yC_an2 (h_telling hm h.2.1 sg (by omega)) (h_telF (T := T) (n := n) hm h.2.1 sg hS rfl (by omega))) ?_
    rintro _ m4 ⟨v6, rfl, hm4, k5⟩
    show yR zpg tX12_statement (d + 10) (66, lo, [.int v6, .int (gi mem 221 34), .ref 226], m4) _
    refine wN_as (a := (gi mem 221 34).toInt) rfl aR_226 hm4 rfl (by omega) ?_
    have hm_1 : aTm aT0 (sx m4 226 (gi mem 221 34) v6) := tm_sa aR_226 hm4 (i32_b _)
    refine yR_m 1 (fun _ _ _ _ => rfl) ?_
    exact yR_rv rfl (h2 v1 k2 q3 v6 m4 hm4 k5 hm_1)

theorem sF_41 {sp : Option (Qd × Int)} {lo : List (Nat × Value)} (hm : aTm aT0 mem) (h : SI mr mem) (h8 : (gi mem 221 8).toInt = 0) (sg : ¬ (gi mem 221 3).toInt = 0) (hX : mX T n p mem) (hS : mS T n (some p) mem) (hb : (gi mem 221 34).toInt = b) (hQ : mQ b Q mem) (hq : (3 ≤ Qc Q ∧ Qc Q ≤ 7) ∧ 3 ≤ Qr Q ∧ Qr Q ≤ 7) (hs : sp = sZ41 T n Q p) (a0 : zlg lo 0 = some (.ref 221)) : yR zpg tX12_statement (d + 10) (41, lo, [], mem) (fun _ m => stR T n b sp m) := by
  exact w_sF_41 (mr := mr) (T := T) (n := n) (p := p) (b := b) (Q := Q) hm a0 h h8 sg hX hS hb hQ hq
        (fun v1 k2 q3 lo a0 hm2 => sF_70 hm h h8 sg hX hS hb hQ hq (hs.trans (pif_f (dj_0 k2 (by omega)))) a0)
        (fun v1 k2 q3 v6 m4 hm4 k5 hm2 => by
          rw [hs.trans (pif_t (dj_1 k2 (by omega)))]
          exact tel_s3 (x := (gi mem 221 34)) k5.2.1 k5.2.2 hm4 ⟨by have := mO_r34 hm; omega, by have := mO_r34 hm; omega⟩ (by omega) (mQ_fr k5.1.1 hQ))
set_option maxRecDepth 100000 in
theorem w_sF_12 {d : Nat} {mem : zM} {P : Option Value → zM → Prop} {mr : zM} {T : List Int32} {n p b : Int} {Q : Qd} {lo : List (Nat × Value)} (hm : aTm aT0 mem) (l_0 : zlg lo 0 = some (.ref 221)) (h : SI mr mem) (h8 : (gi mem 221 8).toInt = 0) (sg : ¬ (gi mem 221 3).toInt = 0) (hX : mX T n p mem) (hS : mS T n (some p) mem) (hb : (gi mem 221 34).toInt = b) (hQ : mQ b Q mem) (hq : (3 ≤ Qc Q ∧ Qc Q ≤ 7) ∧ 3 ≤ Qr Q ∧ Qr Q ≤ 7) (h1 : ∀ (v1 : Int32), ((v1.toInt = 0 ∧ ¬ sIO T n 2 p) ∨ (v1.toInt = 1 ∧ sIO T n 2 p)) → (v1).toInt = 0 → ∀ lo, zlg lo 0 = some (.ref 221) → aTm aT0 mem → yR zpg tX12_statement (d + 10) (41, lo, [], mem) P) (h2 : ∀ (v1 : Int32), ((v1.toInt = 0 ∧ ¬ sIO T n 2 p) ∨ (v1.toInt = 1 ∧ sIO T n 2 p)) → ¬ (v1).toInt = 0 → ∀ (v6 : Int32) (m4 : zM), aTm aT0 m4 → (stQ [] mem m4 ∧ mS T n (nuP T n 1 9 (some (tkf T n p).2)) m4 ∧ nuV T n 1 9 (some (tkf T n p).2) v6.toInt) → aTm aT0 (sx m4 225 (gi mem 221 34) v6) → P none (sx m4 225 (gi mem 221 34) v6)) : yR zpg tX12_statement (d + 10) (12, lo, [], mem) P := by
  obtain ⟨i0, i1⟩ := mO_r34 hm
  refine wR_la rfl l_0 ?_
  refine yR_m 1 (fun _ _ _ _ => rfl) ?_
  refine wR_cv rfl rfl mO_e hm rfl (h_woX (T := T) (n := n) (p := p) (k := 2) (by decide) (by decide) hm hX (by omega)) ?_
  rintro _ _ ⟨v1, rfl, rfl, k2⟩
  show yR zpg tX12_statement (d + 10) (19, lo, [.int v1], mem) _
  refine wR_if_eq rfl (a := (v1).toInt) rfl (fun q3 => ?_) (fun q3 => ?_)
  ·
    exact h1 v1 k2 q3 lo l_0 hm
  ·
    refine wR_la rfl l_0 ?_
    refine wR_gr rfl mO_e mO_16 hm ?_
    refine wR_la rfl l_0 ?_
    refine wR_gi rfl mO_e mO_34 hm rfl ?_
    refine wR_la rfl l_0 ?_
    refine yR_m 2 (fun _ _ _ _ => rfl) ?_
    refine wR_cv rfl rfl mO_e hm rfl (yC_an2 (h_telling hm h.2.1 sg (by omega)) (h_telF (T := T) (n := n) hm h.2.1 sg hS rfl (by omega))) ?_
    rintro _ m4 ⟨v6, rfl, hm4, k5⟩
    show yR zpg tX12_statement (d + 10) (37, lo, [.int v6, .int (gi mem 221 34), .ref 225], m4) _
    refine wN_as (a := (gi mem 221 34).toInt) rfl aR_225 hm4 rfl (by omega) ?_
    have hm_1 : aTm aT0 (sx m4 225 (gi mem 221 34) v6) := tm_sa aR_225 hm4 (i32_b _)
    refine yR_m 1 (fun _ _ _ _ => rfl) ?_
    exact yR_rv rfl (h2 v1 k2 q3 v6 m4 hm4 k5 hm_1)

theorem sF_12 {sp : Option (Qd × Int)} {lo : List (Nat × Value)} (hm : aTm aT0 mem) (h : SI mr mem) (h8 : (gi mem 221 8).toInt = 0) (sg : ¬ (gi mem 221 3).toInt = 0) (hX : mX T n p mem) (hS : mS T n (some p) mem) (hb : (gi mem 221 34).toInt = b) (hQ : mQ b Q mem) (hq : (3 ≤ Qc Q ∧ Qc Q ≤ 7) ∧ 3 ≤ Qr Q ∧ Qr Q ≤ 7) (hs : sp = sZ12 T n Q p) (a0 : zlg lo 0 = some (.ref 221)) : yR zpg tX12_statement (d + 10) (12, lo, [], mem) (fun _ m => stR T n b sp m) := by
  exact w_sF_12 (mr := mr) (T := T) (n := n) (p := p) (b := b) (Q := Q) hm a0 h h8 sg hX hS hb hQ hq
        (fun v1 k2 q3 lo a0 hm2 => sF_41 hm h h8 sg hX hS hb hQ hq (hs.trans (pif_f (dj_0 k2 (by omega)))) a0)
        (fun v1 k2 q3 v6 m4 hm4 k5 hm2 => by
          rw [hs.trans (pif_t (dj_1 k2 (by omega)))]
          exact tel_s2 (x := (gi mem 221 34)) k5.2.1 k5.2.2 hm4 ⟨by have := mO_r34 hm; omega, by have := mO_r34 hm; omega⟩ (by omega) (mQ_fr k5.1.1 hQ))
theorem h_staF (hm : aTm aT0 mem) (h : SI mr mem) (h8 : (gi mem 221 8).toInt = 0) (sg : ¬ (gi mem 221 3).toInt = 0) (hS : mS T n (some p) mem) (hb : (gi mem 221 34).toInt = b) (hQ : mQ b Q mem) (hq : (3 ≤ Qc Q ∧ Qc Q ≤ 7) ∧ 3 ≤ Qr Q ∧ Qr Q ≤ 7) (hd : 11 ≤ d) : yC zpg d 204 [.ref 221] mem (fun _ m => stR T n b (sSta T n Q p) m) := by
  obtain ⟨d, rfl⟩ : ∃ q, d = q + 11 := ⟨d - 11, by omega⟩
  have hR : mR T n p (tkf T n p).1 (tkf T n p).2 mem := by
    rcases hS with ⟨p', e, -, hr⟩ | ⟨e, -⟩
    · cases e
      exact mRd_t hr
    · cases e
  refine yC_of (t := tX12_statement) rfl rfl ?_
  exact w_st_0 (mr := mr) hm rfl h h8 sg
        (fun q1 q2 lo a0 hm2 => sF_12 hm h h8 sg ⟨hR, by omega⟩ hS hb hQ hq rfl a0)
        (fun q1 q2 hm2 => by exfalso; omega)
        (fun q1 q3 hm2 => stR_no (sSta_4 (tk_4 hR (by omega))) (by show 1 ≤ (gi _ 221 8).toInt; rw [((gi_sv_ne (by decide)).trans (gi_eqO (isO_of hm) (by decide)))]; decide))
        (fun q1 q3 hm2 => by exfalso; omega)
end SU2
