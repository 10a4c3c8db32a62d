/-! operand, by the machine -/
section OG
variable (T : List Int32) (n ru : Int)
noncomputable def oE (L : List Fr) (p : Int) : Option (List Int × ((List Fr × Int) × Int)) := oif (sIV T n ru p) (some ([vIt T n p], ((L, 1), (tkf T n p).2)))
noncomputable def oM (K z O : Int) (L : List Fr) (q : Int) : Option (List Int × ((List Fr × Int) × Int)) := (sSgn T n 40 q).bind fun e => oif (O < 7) (some ([], (((K, 0, 1, [z]) :: L, 0), e)))
noncomputable def oD (O : Int) (L : List Fr) (p : Int) : Option (List Int × ((List Fr × Int) × Int)) := pif (sIO T n 24 p ∨ sIO T n 25 p) (oM T n 3 (wIx T n p) O L (tkf T n p).2) (pif (sIO T n 19 p) (oM T n 6 (wIx T n p) O L (tkf T n p).2) (oE T n ru L p))
noncomputable def oC (O : Int) (L : List Fr) (p : Int) : Option (List Int × ((List Fr × Int) × Int)) := pif (sIS T n 40 p) (oif (O < 7) (some ([], (((2, 0, 1, []) :: L, 0), (tkf T n p).2)))) (oD T n ru O L p)
noncomputable def oB (O : Int) (c : Prop) (L : List Fr) (p : Int) : Option (List Int × ((List Fr × Int) × Int)) := pif (c ∧ sIO T n 23 p) (some ([10023], ((ph2 L, 1), (tkf T n p).2))) (oC T n ru O L p)
noncomputable def oA (O : Int) (c : Prop) (L : List Fr) (p : Int) : Option (List Int × ((List Fr × Int) × Int)) := pif (c ∧ sIS T n 91 p) (oif (O < 7) (some ([], (((5, 0, 1, []) :: L, 0), (tkf T n p).2)))) (oB T n ru O c L p)
noncomputable def oN (O : Int) (c : Prop) (L : List Fr) (p : Int) : Option (List Int × ((List Fr × Int) × Int)) := pif (c ∧ sIO T n 22 p) (oif (O < 7) (some ([], ((notA L, 0), (tkf T n p).2)))) (oA T n ru O c (bgA L) p)
theorem sOpd_e (f : Fr) (r : List Fr) (p : Int) : sOpd T n ru (f :: r) p = oN T n ru (opn (f :: r)) (sIT f.1 ∧ ¬ f.2.2.1 = 0) (f :: r) p := rfl
/-- which value a word stands for -/
def vW (p v : Int) : Prop := (v = -1 ∧ ¬ ((tkf T n p).1.1 = 2 ∨ sIO T n 15 p ∨ sIO T n 7 p ∨ sIO T n 8 p ∨ sIO T n 16 p ∨ sIO T n 17 p ∨ sIO T n 18 p)) ∨ ((0 ≤ v ∧ v ≤ 4) ∧ ((tkf T n p).1.1 = 2 ∨ sIO T n 15 p ∨ sIO T n 7 p ∨ sIO T n 8 p ∨ sIO T n 16 p)) ∨ (v = 5 ∧ sIO T n 17 p) ∨ (v = 6 ∧ sIO T n 18 p)
def vX (p v : Int) : Prop := (v = -1 ∧ ¬ sIV T n ru p) ∨ ((0 ≤ v ∧ v ≤ 6) ∧ sIV T n ru p)
end OG
section OH
variable {d : Nat} {mr mem m : zM} {T : List Int32} {n p e q ru fm : Int} {t : Tk} {l : List Fm}
theorem sIO_u {a b : Int} (ha : 0 ≤ a ∧ a < 26) (hb : 0 ≤ b ∧ b < 26) (h : sIO T n a p) (k : sIO T n b p) : a = b := ownW_i ha.1 ha.2 hb.1 hb.2 (h.2.symm.trans k.2)
theorem vW_lt {v : Int} (h : vW T n p v) (hv : v < 5) : vX T n ru p v := by
  rcases h with ⟨h1, h2⟩ | ⟨h1, h2⟩ | ⟨h1, -⟩ | ⟨h1, -⟩
  · refine Or.inl ⟨h1, fun w => h2 ?_⟩
    rcases w with w | w | w | w | w | w | w
    · exact Or.inl w
    · exact Or.inr (Or.inl w)
    · exact Or.inr (Or.inr (Or.inl w))
    · exact Or.inr (Or.inr (Or.inr (Or.inl w)))
    · exact Or.inr (Or.inr (Or.inr (Or.inr (Or.inl w))))
    · exact Or.inr (Or.inr (Or.inr (Or.inr (Or.inr (Or.inl w.1)))))
    · exact Or.inr (Or.inr (Or.inr (Or.inr (Or.inr (Or.inr w.1)))))
  · refine Or.inr ⟨by omega, ?_⟩
    rcases h2 with w | w | w | w | w
    · exact Or.inl w
    · exact Or.inr (Or.inl w)
    · exact Or.inr (Or.inr (Or.inl w))
    · exact Or.inr (Or.inr (Or.inr (Or.inl w)))
    · exact Or.inr (Or.inr (Or.inr (Or.inr (Or.inl w))))
  · omega
  · omega
theorem vW_ok {v : Int} (h : vW T n p v) (hv : 5 ≤ v) (c : (v = 6 ∧ ru = 1) ∨ (¬ v = 6 ∧ ¬ ru = 1)) : vX T n ru p v := by
  rcases h with ⟨h1, h2⟩ | ⟨h1, h2⟩ | ⟨h1, h2⟩ | ⟨h1, h2⟩
  · omega
  · omega
  · exact Or.inr ⟨by omega, Or.inr (Or.inr (Or.inr (Or.inr (Or.inr (Or.inl ⟨h2, by omega⟩)))))⟩
  · exact Or.inr ⟨by omega, Or.inr (Or.inr (Or.inr (Or.inr (Or.inr (Or.inr ⟨h2, by omega⟩)))))⟩
theorem vW_no {v : Int} (h : vW T n p v) (hv : 5 ≤ v) (c : ¬ ((v = 6 ∧ ru = 1) ∨ (¬ v = 6 ∧ ¬ ru = 1))) : vX T n ru p (-1) := by
  refine Or.inl ⟨rfl, fun w => ?_⟩
  have key : ∀ {a : Int}, 0 ≤ a ∧ a < 26 → sIO T n a p → (a = 17 → v = 5) ∧ (a = 18 → v = 6) ∧ (a = 17 ∨ a = 18) := fun ha hw => by
    rcases h with ⟨h1, h2⟩ | ⟨h1, h2⟩ | ⟨h1, h2⟩ | ⟨h1, h2⟩
    · omega
    · omega
    · have := sIO_u ha (by decide) hw h2
      omega
    · have := sIO_u ha (by decide) hw h2
      omega
  have n2 : ¬ (tkf T n p).1.1 = 2 := fun w => by
    rcases h with ⟨h1, h2⟩ | ⟨h1, h2⟩ | ⟨h1, h2⟩ | ⟨h1, h2⟩
    · omega
    · omega
    · have := h2.1
      omega
    · have := h2.1
      omega
  rcases w with w | w | w | w | w | w | w
  · exact n2 w
  · have := key (by decide) w; omega
  · have := key (by decide) w; omega
  · have := key (by decide) w; omega
  · have := key (by decide) w; omega
  · have := key (by decide) w.1; omega
  · have := key (by decide) w.1; omega
def odG (T : List Int32) (n : Int) (mr : zM) (fm : Int) (K0 : List Int) (sp : Option (List Int × ((List Fr × Int) × Int))) (r : Option Value) (m : zM) : Prop := ∃ v : Int32, r = some (.int v) ∧ ((∃ l' p' c, sp = some (c, ((abL l', v.toInt), p')) ∧ PI mr m fm l' v.toInt ∧ mRd T n p' m ∧ mC m = K0 ++ c) ∨ (1 ≤ fk m ∧ sp = none))
variable {sp : Option (List Int × ((List Fr × Int) × Int))} {K0 c0 : List Int}
theorem oG_no {v : Int32} (h8 : 1 ≤ fk m) (e : sp = none) : odG T n mr fm K0 sp (some (.int v)) m := ⟨v, rfl, Or.inr ⟨h8, e⟩⟩
theorem oG_ok {v : Int32} {L : List Fr} {p' : Int} (h : ∃ l', PI mr m fm l' v.toInt ∧ abL l' = L) (e : sp = some (c0, ((L, v.toInt), p'))) (r : mRd T n p' m) (k : mC m = K0 ++ c0) : odG T n mr fm K0 sp (some (.int v)) m := by
  obtain ⟨l', h1, h2⟩ := h
  exact ⟨v, rfl, Or.inl ⟨l', p', c0, by rw [h2]; exact e, h1, r, k⟩⟩
theorem ap_0 {a : List Int} (h : a = K0) : a = K0 ++ [] := by rw [h, List.append_nil]
theorem ap_1 {a b : List Int} {i j : Int} (h : a = b ++ [i]) (k : b = K0) (e : i = j) : a = K0 ++ [j] := by rw [h, k, e]
/-- the item of a value -/
theorem mX_c (hX : mX T n p mem) (h3 : (gi mem 221 3).toInt = 3) : (tkf T n p).1.2.1 = (gi mem 221 6).toInt := ((mX_S hX (c := (gi mem 221 6).toInt)).1 ⟨h3, rfl⟩).2
theorem tok_v {t : Tk} {e : Int} (k : Tok T n p t e) (h : t.1 = 2) : 0 ≤ t.2.1 ∧ t.2.1 < 10000 := by
  obtain ⟨b, -, k⟩ := k
  rcases k with ⟨-, rfl, -⟩ | ⟨-, -, -, rfl, -⟩ | ⟨-, -, q, -, -, ⟨-, rfl⟩ | ⟨-, -, rfl⟩⟩ | ⟨h1, -, q, ⟨r1, r2, r3, -⟩, -, ⟨-, rfl⟩ | ⟨-, h4, rfl⟩⟩
  · exact absurd h (by show ¬ (0 : Int) = 2; decide)
  · exact absurd h (by show ¬ (3 : Int) = 2; decide)
  · exact absurd h (by show ¬ (4 : Int) = 2; decide)
  · exact absurd h (by show ¬ (1 : Int) = 2; decide)
  · exact absurd h (by show ¬ (4 : Int) = 2; decide)
  · have d := dgv_b (T := T) (b := b) (q - b).toNat (fun i i0 i1 => r3 i i0 (by omega))
    show 0 ≤ dgv T b (q - b).toNat ∧ dgv T b (q - b).toNat < 10000
    refine ⟨d.1, Int.lt_of_lt_of_le d.2 ?_⟩
    have e : (q - b).toNat = 0 ∨ (q - b).toNat = 1 ∨ (q - b).toNat = 2 ∨ (q - b).toNat = 3 ∨ (q - b).toNat = 4 := by omega
    rcases e with e | e | e | e | e <;> rw [e] <;> decide
theorem vI_2 (hX : mX T n p mem) (h3 : (gi mem 221 3).toInt = 2) : cdI 0 (gi mem 221 6).toInt = vIt T n p := by
  have k := (mX_2 hX).1 h3
  have t := tok_v hX.1.2.1 k
  have e6 : (gi mem 221 6).toInt = (tkf T n p).1.2.1 := by
    rcases hX.1.2.2.2 with ⟨h1, h2⟩ | ⟨h1, h2⟩
    · exact absurd hX.2 h1
    · rcases h2 with ⟨a, b⟩ | ⟨a, b, e⟩ | ⟨a, b, e⟩ | ⟨a, b, e⟩
      · omega
      · omega
      · first
          | exact e
          | exact e.symm
          | omega
      · omega
  unfold vIt
  rw [if_pos k, ← e6]
  rw [← e6] at t
  exact if_pos t
theorem vI_O {k s v : Int} (h0 : 0 ≤ k) (h1 : k < 26) (h : sIO T n k p) (e : cdI s v = 10000 + k) : cdI s v = vIt T n p := by
  have k1 := h.1
  unfold vIt
  rw [if_neg (by omega), wIx_O h0 h1 h]
  exact e
theorem opn_42 (h : PI mr mem fm l 0) : (gi mem 221 42).toInt = opn (abL l) := by
  rw [opn_ab]
  exact h.2.2.1.1
/-- a bracket or a test's bracket -/
theorem oG_o {m5 : zM} {K : Int} (hK0 : mC mem = K0) (hm : aTm aT0 mem) (h : PI mr mem fm l 0) (hb : ∀ f, l.head? = some f → f.2.2.2.1 = 0) (Q : opQ K mem m5) (R : opR T n e mem m5) (hK : K = 2 ∨ K = 5) (sg : ¬ (gi mem 221 3).toInt = 0) (hs : sp = oif (opn (abL l) < 7) (some ([], (((K, 0, 1, []) :: abL l, 0), e)))) : odG T n mr fm K0 sp (some (.int 0)) m5 := by
  have O := opn_42 h
  have h8 : fk mem = 0 := h.1.2.2.1
  rcases R with ⟨r1, r2, r3, r4⟩ | ⟨r1, r2⟩
  · have gt := (Q.2.2.2 r1).2.1 sg
    exact oG_ok ⟨_, PI_opn hm h hb fr_rf Q r1 fr_rf (fun _ _ _ => rfl) (by omega) (fun w => by omega) (fun w => by omega) (by unfold arF; rw [if_neg (by simp only; omega), if_neg (by simp only; omega)]) gt, by show (K, 0, 1, prI (K, _, 0, 1, [])) :: abL l = _; rw [prI_0 (by omega)]⟩ (by rw [hs]; exact oif_t (by omega)) r4 (ap_0 ((mC_fm Q.1 rfl rfl).trans hK0))
  · exact oG_no r1 (by rw [hs]; exact oif_f (fun w => r2 ⟨h8, by omega⟩))
theorem sOpd_4 (h : (tkf T n p).1.1 = 4) : ∀ L, sOpd T n ru L p = none
  | [] => rfl
  | f :: r => by
    have nS : ∀ c, ¬ sIS T n c p := fun c w => by have := w.1; omega
    have nO : ∀ c, ¬ sIO T n c p := fun c w => by have := w.1; omega
    rw [sOpd_e]
    refine (pif_f (fun w => nO _ w.2)).trans ((pif_f (fun w => nS _ w.2)).trans ((pif_f (fun w => nO _ w.2)).trans ((pif_f (nS _)).trans ((pif_f (fun w => ?_)).trans ((pif_f (nO _)).trans (oif_f (fun w => ?_)))))))
    · rcases w with w | w
      · exact nO _ w
      · exact nO _ w
    · rcases w with w | w | w | w | w | w | w
      · omega
      · exact nO _ w
      · exact nO _ w
      · exact nO _ w
      · exact nO _ w
      · exact nO _ w.1
      · exact nO _ w.1
theorem opn_bg : ∀ L, opn (bgA L) = opn L
  | [] => rfl
  | _ :: _ => rfl
theorem vX_1 {v : Int} (h : vX T n ru p v) (w : ¬ v = -1) : sIV T n ru p := by
  rcases h with h | h
  · exact absurd h.1 w
  · exact h.2
theorem vX_0 {v : Int} (h : vX T n ru p v) (w : v = -1) : ¬ sIV T n ru p := by
  rcases h with h | h
  · exact h.2
  · have := h.1
    omega
theorem tk_4 (hR : mR T n q t e m) (hx : ¬ (gi m 221 12).toInt = -1) : (tkf T n q).1.1 = 4 := by
  rw [tkf_e hR.2.1]
  show t.1 = 4
  by_cases w : t.1 = 4
  · exact w
  · exact absurd ((mx_iff hR.2.2.2).2 w) hx
theorem sSgn_4 {c : Int} (hR : mR T n q t e m) (hx : ¬ (gi m 221 12).toInt = -1) : sSgn T n c q = none := by
  have h4 := tk_4 hR hx
  unfold sSgn
  exact oif_f (fun w => by have w1 := w.1; omega)
set_option maxRecDepth 100000 in
theorem w_oF_446 {d : Nat} {mem : zM} {P : Option Value → zM → Prop} {T : List Int32} {n p : Int} {wh : Int32} {lo : List (Nat × Value)} (hm : aTm aT0 mem) (l_0 : zlg lo 0 = some (.ref 221)) (l_3 : zlg lo 3 = some (.int wh)) (p1 : 1 ≤ (gi mem 221 41).toInt ∧ (gi mem 221 41).toInt ≤ 8) (p2 : 0 ≤ (gi mem 221 44).toInt ∧ (gi mem 221 44).toInt ≤ 60) (p3 : 0 ≤ (gi mem 221 33).toInt ∧ (gi mem 221 33).toInt ≤ 1599) (p4 : 0 ≤ (gi mem 221 42).toInt ∧ (gi mem 221 42).toInt ≤ 7) (p6 : (gi mem 221 5).toInt ≤ (gi mem 221 2).toInt) (hX : mX T n p mem) (h1 : ¬ (wh).toInt = (-1) → (gi mem 221 8).toInt ≤ 0 → ∀ (x3 : Int32), x3.toInt = (1600 * (gi mem 221 34).toInt) → ∀ (x5 : Int32), x5.toInt = ((1600 * (gi mem 221 34).toInt) + (gi mem 221 33).toInt) → ∀ (x7 : Int32), x7.toInt = (1600 * (gi mem 221 34).toInt) → ∀ (x9 : Int32), x9.toInt = ((1600 * (gi mem 221 34).toInt) + (gi mem 221 33).toInt) → ∀ (x11 : Int32), x11.toInt = ((gi mem 221 33).toInt + 1) → ∀ (m13 : zM), aTm aT0 m13 → (ahQ (si (sx (sx mem 238 x5 wh) 239 x9 (gi mem 221 6)) 221 33 x11) m13 ∧ (gi m13 221 41).toInt = (gi mem 221 41).toInt ∧ (gi m13 221 42).toInt = (gi mem 221 42).toInt ∧ (gi m13 221 44).toInt = (gi mem 221 44).toInt ∧ (gi m13 221 33).toInt = x11.toInt ∧ (gi m13 221 8).toInt = (gi mem 221 8).toInt ∧ (gi mem 221 5).toInt ≤ (gi m13 221 4).toInt ∧ (gi m13 221 4).toInt ≤ (gi m13 221 5).toInt ∧ (gi m13 221 5).toInt ≤ (gi m13 221 2).toInt ∧ mRd T n (tkf T n p).2 m13) → aTm aT0 m13 → P (some (.int 1)) m13) (h2 : ¬ (wh).toInt = (-1) → 0 < (gi mem 221 8).toInt → aTm aT0 mem → P (some (.int 1)) mem) (h3 : (wh).toInt = (-1) → (gi mem 221 8).toInt ≤ 0 → aTm aT0 (si (si mem 221 8 1) 221 9 (gi mem 221 4)) → P (some (.int 1)) (si (si mem 221 8 1) 221 9 (gi mem 221 4))) (h4 : (wh).toInt = (-1) → 0 < (gi mem 221 8).toInt → aTm aT0 mem → P (some (.int 1)) mem) : yR zpg tX12_operand (d + 5) (446, lo, [], mem) P := by
  obtain ⟨i0, i1⟩ := mO_r34 hm
  have th := gR_228 hm (i := (gi mem 221 34).toInt) i0 (by omega)
  refine wR_li rfl l_3 ?_
  refine yR_m 1 (fun _ _ _ _ => rfl) ?_
  refine wR_ic_ne rfl (a := (wh).toInt) (c := (-1)) rfl tm1 (fun q1 => ?_) (fun q1 => ?_)
  ·
    refine wR_la rfl l_0 ?_
    refine wR_gi rfl mO_e mO_8 hm rfl ?_
    refine wR_if_le rfl (a := (gi mem 221 8).toInt) rfl (fun q2 => ?_) (fun q2 => ?_)
    ·
      refine wR_la rfl l_0 ?_
      refine wR_li rfl l_3 ?_
      refine wR_la rfl l_0 ?_
      refine wR_gi rfl mO_e mO_6 hm rfl ?_
      refine wR_iv rfl rfl mO_e hm rfl rfl rfl rfl ?_
      show yR zpg tX12_add (d + 4) (0, [(0, .ref 221), (1, .int wh), (2, .int (gi mem 221 6))], [], mem) _
      refine yR_m 1 (fun _ _ _ _ => rfl) ?_
      refine wR_gr rfl mO_e mO_29 hm ?_
      refine yR_m 2 (fun _ _ _ _ => rfl) ?_
      refine wR_gi rfl mO_e mO_34 hm rfl ?_
      refine wN_mul (a := 1600) (b := (gi mem 221 34).toInt) rfl rfl rfl (by omega) (fun x3 e4 => ?_)
      refine yR_m 1 (fun _ _ _ _ => rfl) ?_
      refine wR_gi rfl mO_e mO_33 hm rfl ?_
      refine wN_add (a := (1600 * (gi mem 221 34).toInt)) (b := (gi mem 221 33).toInt) rfl e4 rfl (by omega) (fun x5 e6 => ?_)
      refine yR_m 1 (fun _ _ _ _ => rfl) ?_
      refine wN_as (a := ((1600 * (gi mem 221 34).toInt) + (gi mem 221 33).toInt)) rfl aR_238 hm e6 (by omega) ?_
      have hm_1 : aTm aT0 (sx mem 238 x5 wh) := tm_sa aR_238 hm (i32_b _)
      refine yR_m 1 (fun _ _ _ _ => rfl) ?_
      refine wR_gr rfl mO_e mO_30 hm_1 ?_
      refine yR_m 2 (fun _ _ _ _ => rfl) ?_
      refine wR_gi rfl mO_e mO_34 hm_1 (gi_sa) ?_
      refine wN_mul (a := 1600) (b := (gi mem 221 34).toInt) rfl rfl rfl (by omega) (fun x7 e8 => ?_)
      refine yR_m 1 (fun _ _ _ _ => rfl) ?_
      refine wR_gi rfl mO_e mO_33 hm_1 (gi_sa) ?_
      refine wN_add (a := (1600 * (gi mem 221 34).toInt)) (b := (gi mem 221 33).toInt) rfl e8 rfl (by omega) (fun x9 e10 => ?_)
      refine yR_m 1 (fun _ _ _ _ => rfl) ?_
      refine wN_as (a := ((1600 * (gi mem 221 34).toInt) + (gi mem 221 33).toInt)) rfl aR_239 hm_1 e10 (by omega) ?_
      have hm_2 : aTm aT0 (sx (sx mem 238 x5 wh) 239 x9 (gi mem 221 6)) := tm_sa aR_239 hm_1 (i32_b _)
      refine yR_m 2 (fun _ _ _ _ => rfl) ?_
      refine wR_gi rfl mO_e mO_33 hm_2 ((gi_sa).trans (gi_sa)) ?_
      refine yR_m 1 (fun _ _ _ _ => rfl) ?_
      refine wN_add (a := (gi mem 221 33).toInt) (b := 1) rfl rfl rfl (by omega) (fun x11 e12 => ?_)
      refine wR_pi rfl mO_e mO_33 hm_2 rfl ?_
      have hm_3 : aTm aT0 (si (sx (sx mem 238 x5 wh) 239 x9 (gi mem 221 6)) 221 33 x11) := tm_si mO_e mO_33 hm_2 (i32_b _)
      refine yR_rv rfl ?_
      show yR zpg tX12_operand (d + 5) (478, lo, [], (si (sx (sx mem 238 x5 wh) 239 x9 (gi mem 221 6)) 221 33 x11)) _
      refine wR_la rfl l_0 ?_
      refine wR_cv rfl rfl mO_e hm_3 rfl (h_ahead5 (T := T) (n := n) (mR_fm (ks := [238, 239, 242, 243, 244, 245, 246, 247]) (is := [8, 9, 33, 41, 42, 44, 45]) (fr_sv rfl (fr_sa rfl (fr_sa rfl (fr_rf)))) rfl rfl rfl rfl rfl rfl rfl hX.1) (by omega) hm_3 ((gi_sv_ne (by decide)).trans ((gi_sa).trans (gi_sa))) ((gi_sv_ne (by decide)).trans ((gi_sa).trans (gi_sa))) (by omega) ((gi_sv_ne (by decide)).trans ((gi_sa).trans (gi_sa))) ((gi_sv_ne (by decide)).trans ((gi_sa).trans (gi_sa))) ((gi_sv_ne (by decide)).trans ((gi_sa).trans (gi_sa))) (gi_si_eq mO_e mO_33 hm_2) ((gi_sv_ne (by decide)).trans ((gi_sa).trans (gi_sa)))) ?_
      rintro _ m13 ⟨rfl, hI13, k14⟩
      show yR zpg tX12_operand (d + 5) (482, lo, [], m13) _
      refine yR_m 1 (fun _ _ _ _ => rfl) ?_
      exact yR_rz rfl ⟨by decide, by decide⟩ (h1 q1 q2 x3 e4 x5 e6 x7 e8 x9 e10 x11 e12 m13 hI13 k14 hI13)
    ·
      refine yR_m 1 (fun _ _ _ _ => rfl) ?_
      exact yR_rz rfl ⟨by decide, by decide⟩ (h2 q1 q2 hm)
  ·
    refine wR_la rfl l_0 ?_
    refine yR_m 1 (fun _ _ _ _ => rfl) ?_
    refine wR_la rfl l_0 ?_
    refine wR_gi rfl mO_e mO_4 hm rfl ?_
    refine wR_iv rfl rfl mO_e hm rfl rfl rfl rfl ?_
    show yR zpg tX12_blame (d + 4) (0, [(0, .ref 221), (1, .int 1), (2, .int (gi mem 221 4))], [], mem) _
    refine yR_m 1 (fun _ _ _ _ => rfl) ?_
    refine wR_gi rfl mO_e mO_8 hm rfl ?_
    refine wR_if_le rfl (a := (gi mem 221 8).toInt) rfl (fun q15 => ?_) (fun q15 => ?_)
    ·
      refine yR_m 2 (fun _ _ _ _ => rfl) ?_
      refine wR_pi rfl mO_e mO_8 hm rfl ?_
      have hm_4 : aTm aT0 (si mem 221 8 1) := tm_si mO_e mO_8 hm (i32_b _)
      refine yR_m 2 (fun _ _ _ _ => rfl) ?_
      refine wR_pi rfl mO_e mO_9 hm_4 rfl ?_
      have hm_5 : aTm aT0 (si (si mem 221 8 1) 221 9 (gi mem 221 4)) := tm_si mO_e mO_9 hm_4 (i32_b _)
      refine yR_rv rfl ?_
      show yR zpg tX12_operand (d + 5) (460, lo, [], (si (si mem 221 8 1) 221 9 (gi mem 221 4))) _
      refine wR_la rfl l_0 ?_
      refine wR_gi rfl mO_e mO_8 hm_5 ((gi_sv_ne (by decide)).trans (gi_si_eq mO_e mO_8 hm)) ?_
      refine wR_if_le rfl (a := 1) rfl (fun q => by exfalso; omega) (fun _ => ?_)
      refine yR_m 1 (fun _ _ _ _ => rfl) ?_
      exact yR_rz rfl ⟨by decide, by decide⟩ (h3 q1 q15 hm_5)
    ·
      refine yR_rv rfl ?_
      show yR zpg tX12_operand (d + 5) (460, lo, [], mem) _
      refine wR_la rfl l_0 ?_
      refine wR_gi rfl mO_e mO_8 hm rfl ?_
      refine wR_if_le rfl (a := (gi mem 221 8).toInt) rfl (fun q => by exfalso; omega) (fun _ => ?_)
      refine yR_m 1 (fun _ _ _ _ => rfl) ?_
      exact yR_rz rfl ⟨by decide, by decide⟩ (h4 q1 q15 hm)

theorem oF_446 {v : Int32} {lo : List (Nat × Value)} (hm : aTm aT0 mem) (h : PI mr mem fm l 0) (hb : ∀ f, l.head? = some f → f.2.2.2.1 = 0) (hX : mX T n p mem) (hv : vX T n ru p v.toInt) (sg : v.toInt = -1 ∨ ¬ (gi mem 221 3).toInt = 0) (hK0 : mC mem = K0) (hI : v.toInt = -1 ∨ cdI v.toInt (gi mem 221 6).toInt = vIt T n p) (a0 : zlg lo 0 = some (.ref 221)) (a3 : zlg lo 3 = some (.int v)) : yR zpg tX12_operand (d + 5) (446, lo, [], mem) (odG T n mr fm K0 (oE T n ru (abL l) p)) := by
  have pp := PI_pp hm h
  have hT := h.1.2.1
  have hv1 : (v.toInt = -1 ∧ ¬ sIV T n ru p) ∨ ((0 ≤ v.toInt ∧ v.toInt ≤ 6) ∧ sIV T n ru p) := hv
  obtain ⟨p1, p2, p3, p4, p6, p8, p9⟩ := pp
  exact w_oF_446 (T := T) (n := n) (p := p) hm a0 a3 p1 p2 p3 p4 p6 hX
        (fun q1 q2 x3 e4 x5 e6 x7 e8 x9 e10 x11 e12 m13 hI13 k14 hm2 => oG_ok (PI_addF (x := x5) (y := v) (x33 := x11) hm h hb (fr_sv rfl (fr_sa rfl (fr_sa rfl (fr_rf)))) k14.1 (gi_eqO (isO_sa (by decide) (isO_sa (by decide) (isO_of hm))) (by decide)) (by omega) (((ga_sv).trans ((ga_sa_ne (by decide)).trans ga_sa_eq))) (by omega) ⟨x9, (gi mem 221 6), by omega, ((ga_sv).trans (ga_sa_eq.trans (congrArg (fun l => List.set l x9.toNatClampNeg (gi mem 221 6)) (ga_sa_ne (by decide)))))⟩ (Or.inl (by omega)) (((ga_sv).trans ((ga_sa_ne (by decide)).trans (ga_sa_ne (by decide))))) (by omega)) (oif_t (vX_1 hv (by omega))) k14.2.2.2.2.2.2.2.2.2 (ap_1 (mC_adQ (ks := [238, 239, 243]) (is := [33]) (x := x5) (y := v) (x9 := x9) (z := (gi mem 221 6)) hm (by omega) (fr_sv rfl (fr_sa rfl (fr_sa rfl (fr_rf)))) rfl (gi_eqO (isO_sa (by decide) (isO_sa (by decide) (isO_of hm))) (by decide)) (by omega) (((ga_sv).trans ((ga_sa_ne (by decide)).trans ga_sa_eq))) (by omega) (((ga_sv).trans (ga_sa_eq.trans (congrArg (fun l => List.set l x9.toNatClampNeg (gi mem 221 6)) (ga_sa_ne (by decide)))))) (by omega) k14.1) hK0 (hI.resolve_left (by omega))))
        (fun q1 q2 hm2 => by exfalso; omega)
        (fun q1 q15 hm2 => oG_no (by show 1 ≤ (gi _ 221 8).toInt; rw [((gi_sv_ne (by decide)).trans (gi_eqO (isO_of hm) (by decide)))]; decide) (oif_f (vX_0 hv (by omega))))
        (fun q1 q15 hm2 => by exfalso; omega)
set_option maxRecDepth 100000 in
theorem w_oF_412 {d : Nat} {mem : zM} {P : Option Value → zM → Prop} {T : List Int32} {n p : Int} {wh : Int32} {lo : List (Nat × Value)} (hm : aTm aT0 mem) (l_0 : zlg lo 0 = some (.ref 221)) (l_3 : zlg lo 3 = some (.int wh)) (p1 : 1 ≤ (gi mem 221 41).toInt ∧ (gi mem 221 41).toInt ≤ 8) (p2 : 0 ≤ (gi mem 221 44).toInt ∧ (gi mem 221 44).toInt ≤ 60) (p3 : 0 ≤ (gi mem 221 33).toInt ∧ (gi mem 221 33).toInt ≤ 1599) (p4 : 0 ≤ (gi mem 221 42).toInt ∧ (gi mem 221 42).toInt ≤ 7) (p6 : (gi mem 221 5).toInt ≤ (gi mem 221 2).toInt) (hX : mX T n p mem) (h1 : (wh).toInt < 5 → ∀ lo, zlg lo 0 = some (.ref 221) → zlg lo 3 = some (.int wh) → aTm aT0 mem → yR zpg tX12_operand (d + 5) (446, lo, [], mem) P) (h2 : 5 ≤ (wh).toInt → ¬ (wh).toInt = 6 → ¬ (gi mem 221 35).toInt = 1 → ∀ lo, zlg lo 0 = some (.ref 221) → zlg lo 3 = some (.int wh) → aTm aT0 mem → yR zpg tX12_operand (d + 5) (446, lo, [], mem) P) (h3 : 5 ≤ (wh).toInt → ¬ (wh).toInt = 6 → (gi mem 221 35).toInt = 1 → ∀ lo, zlg lo 0 = some (.ref 221) → zlg lo 3 = some (.int (-1)) → aTm aT0 mem → yR zpg tX12_operand (d + 5) (446, lo, [], mem) P) (h4 : 5 ≤ (wh).toInt → (wh).toInt = 6 → ¬ (gi mem 221 35).toInt = 1 → ∀ lo, zlg lo 0 = some (.ref 221) → zlg lo 3 = some (.int (-1)) → aTm aT0 mem → yR zpg tX12_operand (d + 5) (446, lo, [], mem) P) (h5 : 5 ≤ (wh).toInt → (wh).toInt = 6 → (gi mem 221 35).toInt = 1 → ∀ lo, zlg lo 0 = some (.ref 221) → zlg lo 3 = some (.int wh) → aTm aT0 mem → yR zpg tX12_operand (d + 5) (446, lo, [], mem) P) : yR zpg tX12_operand (d + 5) (412, lo, [], mem) P := by
  obtain ⟨i0, i1⟩ := mO_r34 hm
  have th := gR_228 hm (i := (gi mem 221 34).toInt) i0 (by omega)
  refine wR_li rfl l_3 ?_
  refine yR_m 1 (fun _ _ _ _ => rfl) ?_
  refine wR_ic_lt rfl (a := (wh).toInt) (c := 5) rfl rfl (fun q1 => ?_) (fun q1 => ?_)
  ·
    exact h1 q1 lo l_0 l_3 hm
  ·
    refine wR_li rfl l_3 ?_
    refine yR_m 1 (fun _ _ _ _ => rfl) ?_
    refine wR_ic_ne rfl (a := (wh).toInt) (c := 6) rfl rfl (fun q2 => ?_) (fun q2 => ?_)
    ·
      refine yR_m 1 (fun _ _ _ _ => rfl) ?_
      refine wR_la rfl l_0 ?_
      refine wR_gi rfl mO_e mO_35 hm rfl ?_
      refine yR_m 1 (fun _ _ _ _ => rfl) ?_
      refine wR_ic_ne rfl (a := (gi mem 221 35).toInt) (c := 1) rfl rfl (fun q3 => ?_) (fun q3 => ?_)
      ·
        refine yR_m 1 (fun _ _ _ _ => rfl) ?_
        refine wR_ic_eq rfl (a := 0) (c := 0) rfl rfl (fun _ => ?_) (fun q => by exfalso; omega)
        exact h2 q1 q2 q3 lo l_0 l_3 hm
      ·
        refine yR_m 2 (fun _ _ _ _ => rfl) ?_
        refine wR_ic_eq rfl (a := 0) (c := 1) rfl rfl (fun q => by exfalso; omega) (fun _ => ?_)
        refine yR_m 1 (fun _ _ _ _ => rfl) ?_
        refine wR_si rfl rfl (fun lo4 e5 f6 => ?_)
        have lo4_0 := f6 0 _ (by decide) (Or.inl rfl) l_0
        exact h3 q1 q2 q3 lo4 lo4_0 e5 hm
    ·
      refine yR_m 2 (fun _ _ _ _ => rfl) ?_
      refine wR_la rfl l_0 ?_
      refine wR_gi rfl mO_e mO_35 hm rfl ?_
      refine yR_m 1 (fun _ _ _ _ => rfl) ?_
      refine wR_ic_ne rfl (a := (gi mem 221 35).toInt) (c := 1) rfl rfl (fun q7 => ?_) (fun q7 => ?_)
      ·
        refine yR_m 1 (fun _ _ _ _ => rfl) ?_
        refine wR_ic_eq rfl (a := 1) (c := 0) rfl rfl (fun q => by exfalso; omega) (fun _ => ?_)
        refine yR_m 1 (fun _ _ _ _ => rfl) ?_
        refine wR_si rfl rfl (fun lo8 e9 f10 => ?_)
        have lo8_0 := f10 0 _ (by decide) (Or.inl rfl) l_0
        exact h4 q1 q2 q7 lo8 lo8_0 e9 hm
      ·
        refine yR_m 2 (fun _ _ _ _ => rfl) ?_
        refine wR_ic_eq rfl (a := 1) (c := 1) rfl rfl (fun _ => ?_) (fun q => by exfalso; omega)
        exact h5 q1 q2 q7 lo l_0 l_3 hm

theorem oF_412 {v : Int32} {lo : List (Nat × Value)} (hm : aTm aT0 mem) (h : PI mr mem fm l 0) (hb : ∀ f, l.head? = some f → f.2.2.2.1 = 0) (hX : mX T n p mem) (hru : (gi mem 221 35).toInt = ru) (hv : vW T n p v.toInt) (sg : v.toInt = -1 ∨ ¬ (gi mem 221 3).toInt = 0) (hK0 : mC mem = K0) (hI : v.toInt = -1 ∨ cdI v.toInt (gi mem 221 6).toInt = vIt T n p) (a0 : zlg lo 0 = some (.ref 221)) (a3 : zlg lo 3 = some (.int v)) : yR zpg tX12_operand (d + 5) (412, lo, [], mem) (odG T n mr fm K0 (oE T n ru (abL l) p)) := by
  have pp := PI_pp hm h
  obtain ⟨p1, p2, p3, p4, p6, p8, p9⟩ := pp
  exact w_oF_412 (T := T) (n := n) (p := p) hm a0 a3 p1 p2 p3 p4 p6 hX
        (fun q1 lo a0 a3 hm => oF_446 hm h hb hX (vW_lt hv (by omega)) sg hK0 hI a0 a3)
        (fun q1 q2 q3 lo a0 a3 hm => oF_446 hm h hb hX (vW_ok hv (by omega) (by omega)) sg hK0 hI a0 a3)
        (fun q1 q2 q3 lo a0 a3 hm => oF_446 hm h hb hX (vW_no hv (by omega) (by omega)) (Or.inl rfl) hK0 (Or.inl rfl) a0 a3)
        (fun q1 q2 q7 lo a0 a3 hm => oF_446 hm h hb hX (vW_no hv (by omega) (by omega)) (Or.inl rfl) hK0 (Or.inl rfl) a0 a3)
        (fun q1 q2 q7 lo a0 a3 hm => oF_446 hm h hb hX (vW_ok hv (by omega) (by omega)) sg hK0 hI a0 a3)
set_option maxRecDepth 100000 in
theorem w_oF_313 {d : Nat} {mem : zM} {P : Option Value → zM → Prop} {T : List Int32} {n p : Int} {lo : List (Nat × Value)} (hm : aTm aT0 mem) (l_0 : zlg lo 0 = some (.ref 221)) (p1 : 1 ≤ (gi mem 221 41).toInt ∧ (gi mem 221 41).toInt ≤ 8) (p2 : 0 ≤ (gi mem 221 44).toInt ∧ (gi mem 221 44).toInt ≤ 60) (p3 : 0 ≤ (gi mem 221 33).toInt ∧ (gi mem 221 33).toInt ≤ 1599) (p4 : 0 ≤ (gi mem 221 42).toInt ∧ (gi mem 221 42).toInt ≤ 7) (p6 : (gi mem 221 5).toInt ≤ (gi mem 221 2).toInt) (hX : mX T n p mem) (h1 : ¬ (gi mem 221 3).toInt = 2 → ∀ (v2 : Int32), ((v2.toInt = 0 ∧ ¬ sIO T n 15 p) ∨ (v2.toInt = 1 ∧ sIO T n 15 p)) → (v2).toInt = 0 → ∀ (v5 : Int32), ((v5.toInt = 0 ∧ ¬ sIO T n 7 p) ∨ (v5.toInt = 1 ∧ sIO T n 7 p)) → (v5).toInt = 0 → ∀ (v8 : Int32), ((v8.toInt = 0 ∧ ¬ sIO T n 8 p) ∨ (v8.toInt = 1 ∧ sIO T n 8 p)) → (v8).toInt = 0 → ∀ (v11 : Int32), ((v11.toInt = 0 ∧ ¬ sIO T n 16 p) ∨ (v11.toInt = 1 ∧ sIO T n 16 p)) → (v11).toInt = 0 → ∀ (v14 : Int32), ((v14.toInt = 0 ∧ ¬ sIO T n 17 p) ∨ (v14.toInt = 1 ∧ sIO T n 17 p)) → (v14).toInt = 0 → ∀ (v17 : Int32), ((v17.toInt = 0 ∧ ¬ sIO T n 18 p) ∨ (v17.toInt = 1 ∧ sIO T n 18 p)) → (v17).toInt = 0 → ∀ lo, zlg lo 0 = some (.ref 221) → zlg lo 3 = some (.int (-1)) → aTm aT0 mem → yR zpg tX12_operand (d + 5) (412, lo, [], mem) P) (h2 : ¬ (gi mem 221 3).toInt = 2 → ∀ (v2 : Int32), ((v2.toInt = 0 ∧ ¬ sIO T n 15 p) ∨ (v2.toInt = 1 ∧ sIO T n 15 p)) → (v2).toInt = 0 → ∀ (v5 : Int32), ((v5.toInt = 0 ∧ ¬ sIO T n 7 p) ∨ (v5.toInt = 1 ∧ sIO T n 7 p)) → (v5).toInt = 0 → ∀ (v8 : Int32), ((v8.toInt = 0 ∧ ¬ sIO T n 8 p) ∨ (v8.toInt = 1 ∧ sIO T n 8 p)) → (v8).toInt = 0 → ∀ (v11 : Int32), ((v11.toInt = 0 ∧ ¬ sIO T n 16 p) ∨ (v11.toInt = 1 ∧ sIO T n 16 p)) → (v11).toInt = 0 → ∀ (v14 : Int32), ((v14.toInt = 0 ∧ ¬ sIO T n 17 p) ∨ (v14.toInt = 1 ∧ sIO T n 17 p)) → (v14).toInt = 0 → ∀ (v17 : Int32), ((v17.toInt = 0 ∧ ¬ sIO T n 18 p) ∨ (v17.toInt = 1 ∧ sIO T n 18 p)) → ¬ (v17).toInt = 0 → ∀ lo, zlg lo 0 = some (.ref 221) → zlg lo 3 = some (.int 6) → aTm aT0 mem → yR zpg tX12_operand (d + 5) (412, lo, [], mem) P) (h3 : ¬ (gi mem 221 3).toInt = 2 → ∀ (v2 : Int32), ((v2.toInt = 0 ∧ ¬ sIO T n 15 p) ∨ (v2.toInt = 1 ∧ sIO T n 15 p)) → (v2).toInt = 0 → ∀ (v5 : Int32), ((v5.toInt = 0 ∧ ¬ sIO T n 7 p) ∨ (v5.toInt = 1 ∧ sIO T n 7 p)) → (v5).toInt = 0 → ∀ (v8 : Int32), ((v8.toInt = 0 ∧ ¬ sIO T n 8 p) ∨ (v8.toInt = 1 ∧ sIO T n 8 p)) → (v8).toInt = 0 → ∀ (v11 : Int32), ((v11.toInt = 0 ∧ ¬ sIO T n 16 p) ∨ (v11.toInt = 1 ∧ sIO T n 16 p)) → (v11).toInt = 0 → ∀ (v14 : Int32), ((v14.toInt = 0 ∧ ¬ sIO T n 17 p) ∨ (v14.toInt = 1 ∧ sIO T n 17 p)) → ¬ (v14).toInt = 0 → ∀ lo, zlg lo 0 = some (.ref 221) → zlg lo 3 = some (.int 5) → aTm aT0 mem → yR zpg tX12_operand (d + 5) (412, lo, [], mem) P) (h4 : ¬ (gi mem 221 3).toInt = 2 → ∀ (v2 : Int32), ((v2.toInt = 0 ∧ ¬ sIO T n 15 p) ∨ (v2.toInt = 1 ∧ sIO T n 15 p)) → (v2).toInt = 0 → ∀ (v5 : Int32), ((v5.toInt = 0 ∧ ¬ sIO T n 7 p) ∨ (v5.toInt = 1 ∧ sIO T n 7 p)) → (v5).toInt = 0 → ∀ (v8 : Int32), ((v8.toInt = 0 ∧ ¬ sIO T n 8 p) ∨ (v8.toInt = 1 ∧ sIO T n 8 p)) → (v8).toInt = 0 → ∀ (v11 : Int32), ((v11.toInt = 0 ∧ ¬ sIO T n 16 p) ∨ (v11.toInt = 1 ∧ sIO T n 16 p)) → ¬ (v11).toInt = 0 → ∀ lo, zlg lo 0 = some (.ref 221) → zlg lo 3 = some (.int 4) → aTm aT0 mem → yR zpg tX12_operand (d + 5) (412, lo, [], mem) P) (h5 : ¬ (gi mem 221 3).toInt = 2 → ∀ (v2 : Int32), ((v2.toInt = 0 ∧ ¬ sIO T n 15 p) ∨ (v2.toInt = 1 ∧ sIO T n 15 p)) → (v2).toInt = 0 → ∀ (v5 : Int32), ((v5.toInt = 0 ∧ ¬ sIO T n 7 p) ∨ (v5.toInt = 1 ∧ sIO T n 7 p)) → (v5).toInt = 0 → ∀ (v8 : Int32), ((v8.toInt = 0 ∧ ¬ sIO T n 8 p) ∨ (v8.toInt = 1 ∧ sIO T n 8 p)) → ¬ (v8).toInt = 0 → ∀ lo, zlg lo 0 = some (.ref 221) → zlg lo 3 = some (.int 3) → aTm aT0 mem → yR zpg tX12_operand (d + 5) (412, lo, [], mem) P) (h6 : ¬ (gi mem 221 3).toInt = 2 → ∀ (v2 : Int32), ((v2.toInt = 0 ∧ ¬ sIO T n 15 p) ∨ (v2.toInt = 1 ∧ sIO T n 15 p)) → (v2).toInt = 0 → ∀ (v5 : Int32), ((v5.toInt = 0 ∧ ¬ sIO T n 7 p) ∨ (v5.toInt = 1 ∧ sIO T n 7 p)) → ¬ (v5).toInt = 0 → ∀ lo, zlg lo 0 = some (.ref 221) → zlg lo 3 = some (.int 2) → aTm aT0 mem → yR zpg tX12_operand (d + 5) (412, lo, [], mem) P) (h7 : ¬ (gi mem 221 3).toInt = 2 → ∀ (v2 : Int32), ((v2.toInt = 0 ∧ ¬ sIO T n 15 p) ∨ (v2.toInt = 1 ∧ sIO T n 15 p)) → ¬ (v2).toInt = 0 → ∀ lo, zlg lo 0 = some (.ref 221) → zlg lo 3 = some (.int 1) → aTm aT0 mem → yR zpg tX12_operand (d + 5) (412, lo, [], mem) P) (h8 : (gi mem 221 3).toInt = 2 → ∀ lo, zlg lo 0 = some (.ref 221) → zlg lo 3 = some (.int 0) → aTm aT0 mem → yR zpg tX12_operand (d + 5) (412, lo, [], mem) P) : yR zpg tX12_operand (d + 5) (313, lo, [], mem) P := by
  obtain ⟨i0, i1⟩ := mO_r34 hm
  have th := gR_228 hm (i := (gi mem 221 34).toInt) i0 (by omega)
  refine wR_la rfl l_0 ?_
  refine wR_gi rfl mO_e mO_3 hm rfl ?_
  refine yR_m 1 (fun _ _ _ _ => rfl) ?_
  refine wR_ic_ne rfl (a := (gi mem 221 3).toInt) (c := 2) rfl rfl (fun q1 => ?_) (fun q1 => ?_)
  ·
    refine wR_la rfl l_0 ?_
    refine yR_m 1 (fun _ _ _ _ => rfl) ?_
    refine wR_cv rfl rfl mO_e hm rfl (h_woX (T := T) (n := n) (p := p) (k := 15) (by decide) (by decide) hm hX (by omega)) ?_
    rintro _ _ ⟨v2, rfl, rfl, k3⟩
    show yR zpg tX12_operand (d + 5) (332, lo, [.int v2], mem) _
    refine wR_if_eq rfl (a := (v2).toInt) rfl (fun q4 => ?_) (fun q4 => ?_)
    ·
      refine wR_la rfl l_0 ?_
      refine yR_m 1 (fun _ _ _ _ => rfl) ?_
      refine wR_cv rfl rfl mO_e hm rfl (h_woX (T := T) (n := n) (p := p) (k := 7) (by decide) (by decide) hm hX (by omega)) ?_
      rintro _ _ ⟨v5, rfl, rfl, k6⟩
      show yR zpg tX12_operand (d + 5) (346, lo, [.int v5], mem) _
      refine wR_if_eq rfl (a := (v5).toInt) rfl (fun q7 => ?_) (fun q7 => ?_)
      ·
        refine wR_la rfl l_0 ?_
        refine yR_m 1 (fun _ _ _ _ => rfl) ?_
        refine wR_cv rfl rfl mO_e hm rfl (h_woX (T := T) (n := n) (p := p) (k := 8) (by decide) (by decide) hm hX (by omega)) ?_
        rintro _ _ ⟨v8, rfl, rfl, k9⟩
        show yR zpg tX12_operand (d + 5) (360, lo, [.int v8], mem) _
        refine wR_if_eq rfl (a := (v8).toInt) rfl (fun q10 => ?_) (fun q10 => ?_)
        ·
          refine wR_la rfl l_0 ?_
          refine yR_m 1 (fun _ _ _ _ => rfl) ?_
          refine wR_cv rfl rfl mO_e hm rfl (h_woX (T := T) (n := n) (p := p) (k := 16) (by decide) (by decide) hm hX (by omega)) ?_
          rintro _ _ ⟨v11, rfl, rfl, k12⟩
          show yR zpg tX12_operand (d + 5) (374, lo, [.int v11], mem) _
          refine wR_if_eq rfl (a := (v11).toInt) rfl (fun q13 => ?_) (fun q13 => ?_)
          ·
            refine wR_la rfl l_0 ?_
            refine yR_m 1 (fun _ _ _ _ => rfl) ?_
            refine wR_cv rfl rfl mO_e hm rfl (h_woX (T := T) (n := n) (p := p) (k := 17) (by decide) (by decide) hm hX (by omega)) ?_
            rintro _ _ ⟨v14, rfl, rfl, k15⟩
            show yR zpg tX12_operand (d + 5) (388, lo, [.int v14], mem) _
            refine wR_if_eq rfl (a := (v14).toInt) rfl (fun q16 => ?_) (fun q16 => ?_)
            ·
              refine wR_la rfl l_0 ?_
              refine yR_m 1 (fun _ _ _ _ => rfl) ?_
              refine wR_cv rfl rfl mO_e hm rfl (h_woX (T := T) (n := n) (p := p) (k := 18) (by decide) (by decide) hm hX (by omega)) ?_
              rintro _ _ ⟨v17, rfl, rfl, k18⟩
              show yR zpg tX12_operand (d + 5) (402, lo, [.int v17], mem) _
              refine wR_if_eq rfl (a := (v17).toInt) rfl (fun q19 => ?_) (fun q19 => ?_)
              ·
                refine yR_m 1 (fun _ _ _ _ => rfl) ?_
                refine wR_si rfl rfl (fun lo20 e21 f22 => ?_)
                have lo20_0 := f22 0 _ (by decide) (Or.inl rfl) l_0
                exact h1 q1 v2 k3 q4 v5 k6 q7 v8 k9 q10 v11 k12 q13 v14 k15 q16 v17 k18 q19 lo20 lo20_0 e21 hm
              ·
                refine yR_m 2 (fun _ _ _ _ => rfl) ?_
                refine wR_si rfl rfl (fun lo23 e24 f25 => ?_)
                have lo23_0 := f25 0 _ (by decide) (Or.inl rfl) l_0
                exact h2 q1 v2 k3 q4 v5 k6 q7 v8 k9 q10 v11 k12 q13 v14 k15 q16 v17 k18 q19 lo23 lo23_0 e24 hm
            ·
              refine yR_m 2 (fun _ _ _ _ => rfl) ?_
              refine wR_si rfl rfl (fun lo26 e27 f28 => ?_)
              have lo26_0 := f28 0 _ (by decide) (Or.inl rfl) l_0
              exact h3 q1 v2 k3 q4 v5 k6 q7 v8 k9 q10 v11 k12 q13 v14 k15 q16 lo26 lo26_0 e27 hm
          ·
            refine yR_m 2 (fun _ _ _ _ => rfl) ?_
            refine wR_si rfl rfl (fun lo29 e30 f31 => ?_)
            have lo29_0 := f31 0 _ (by decide) (Or.inl rfl) l_0
            exact h4 q1 v2 k3 q4 v5 k6 q7 v8 k9 q10 v11 k12 q13 lo29 lo29_0 e30 hm
        ·
          refine yR_m 2 (fun _ _ _ _ => rfl) ?_
          refine wR_si rfl rfl (fun lo32 e33 f34 => ?_)
          have lo32_0 := f34 0 _ (by decide) (Or.inl rfl) l_0
          exact h5 q1 v2 k3 q4 v5 k6 q7 v8 k9 q10 lo32 lo32_0 e33 hm
      ·
        refine yR_m 2 (fun _ _ _ _ => rfl) ?_
        refine wR_si rfl rfl (fun lo35 e36 f37 => ?_)
        have lo35_0 := f37 0 _ (by decide) (Or.inl rfl) l_0
        exact h6 q1 v2 k3 q4 v5 k6 q7 lo35 lo35_0 e36 hm
    ·
      refine yR_m 2 (fun _ _ _ _ => rfl) ?_
      refine wR_si rfl rfl (fun lo38 e39 f40 => ?_)
      have lo38_0 := f40 0 _ (by decide) (Or.inl rfl) l_0
      exact h7 q1 v2 k3 q4 lo38 lo38_0 e39 hm
  ·
    refine yR_m 2 (fun _ _ _ _ => rfl) ?_
    refine wR_si rfl rfl (fun lo41 e42 f43 => ?_)
    have lo41_0 := f43 0 _ (by decide) (Or.inl rfl) l_0
    exact h8 q1 lo41 lo41_0 e42 hm

theorem oF_313 {lo : List (Nat × Value)} (hm : aTm aT0 mem) (h : PI mr mem fm l 0) (hb : ∀ f, l.head? = some f → f.2.2.2.1 = 0) (hX : mX T n p mem) (hru : (gi mem 221 35).toInt = ru) (hK0 : mC mem = K0) (a0 : zlg lo 0 = some (.ref 221)) : yR zpg tX12_operand (d + 5) (313, lo, [], mem) (odG T n mr fm K0 (oE T n ru (abL l) p)) := by
  have pp := PI_pp hm h
  obtain ⟨p1, p2, p3, p4, p6, p8, p9⟩ := pp
  have z0 := mX_0 hX
  exact w_oF_313 (T := T) (n := n) (p := p) hm a0 p1 p2 p3 p4 p6 hX
        (fun q1 v2 k3 q4 v5 k6 q7 v8 k9 q10 v11 k12 q13 v14 k15 q16 v17 k18 q19 lo a0 a3 hm => oF_412 hm h hb hX hru (Or.inl ⟨rfl, fun w => by
            rcases w with w | w | w | w | w | w | w
            · have := (mX_2 hX).2 w
              omega
            · exact (dj_0 k3 (by omega)) w
            · exact (dj_0 k6 (by omega)) w
            · exact (dj_0 k9 (by omega)) w
            · exact (dj_0 k12 (by omega)) w
            · exact (dj_0 k15 (by omega)) w
            · exact (dj_0 k18 (by omega)) w⟩) (Or.inl rfl) hK0 (Or.inl rfl) a0 a3)
        (fun q1 v2 k3 q4 v5 k6 q7 v8 k9 q10 v11 k12 q13 v14 k15 q16 v17 k18 q19 lo a0 a3 hm => oF_412 hm h hb hX hru (Or.inr (Or.inr (Or.inr ⟨rfl, (dj_1 k18 (by omega))⟩))) (Or.inr (fun w => by have a := z0.1 w; have b := (dj_1 k18 (by omega)).1; omega)) hK0 (Or.inr (vI_O (by decide) (by decide) (dj_1 k18 (by omega)) rfl)) a0 a3)
        (fun q1 v2 k3 q4 v5 k6 q7 v8 k9 q10 v11 k12 q13 v14 k15 q16 lo a0 a3 hm => oF_412 hm h hb hX hru (Or.inr (Or.inr (Or.inl ⟨rfl, (dj_1 k15 (by omega))⟩))) (Or.inr (fun w => by have a := z0.1 w; have b := (dj_1 k15 (by omega)).1; omega)) hK0 (Or.inr (vI_O (by decide) (by decide) (dj_1 k15 (by omega)) rfl)) a0 a3)
        (fun q1 v2 k3 q4 v5 k6 q7 v8 k9 q10 v11 k12 q13 lo a0 a3 hm => oF_412 hm h hb hX hru (Or.inr (Or.inl ⟨by decide, Or.inr (Or.inr (Or.inr (Or.inr ((dj_1 k12 (by omega))))))⟩)) (Or.inr (fun w => by have a := z0.1 w; have b := (dj_1 k12 (by omega)).1; omega)) hK0 (Or.inr (vI_O (by decide) (by decide) (dj_1 k12 (by omega)) rfl)) a0 a3)
        (fun q1 v2 k3 q4 v5 k6 q7 v8 k9 q10 lo a0 a3 hm => oF_412 hm h hb hX hru (Or.inr (Or.inl ⟨by decide, Or.inr (Or.inr (Or.inr (Or.inl (dj_1 k9 (by omega)))))⟩)) (Or.inr (fun w => by have a := z0.1 w; have b := (dj_1 k9 (by omega)).1; omega)) hK0 (Or.inr (vI_O (by decide) (by decide) (dj_1 k9 (by omega)) rfl)) a0 a3)
        (fun q1 v2 k3 q4 v5 k6 q7 lo a0 a3 hm => oF_412 hm h hb hX hru (Or.inr (Or.inl ⟨by decide, Or.inr (Or.inr (Or.inl (dj_1 k6 (by omega))))⟩)) (Or.inr (fun w => by have a := z0.1 w; have b := (dj_1 k6 (by omega)).1; omega)) hK0 (Or.inr (vI_O (by decide) (by decide) (dj_1 k6 (by omega)) rfl)) a0 a3)
        (fun q1 v2 k3 q4 lo a0 a3 hm => oF_412 hm h hb hX hru (Or.inr (Or.inl ⟨by decide, Or.inr (Or.inl (dj_1 k3 (by omega)))⟩)) (Or.inr (fun w => by have a := z0.1 w; have b := (dj_1 k3 (by omega)).1; omega)) hK0 (Or.inr (vI_O (by decide) (by decide) (dj_1 k3 (by omega)) rfl)) a0 a3)
        (fun q1 lo a0 a3 hm => oF_412 (v := 0) hm h hb hX hru (Or.inr (Or.inl ⟨by decide, Or.inl ((mX_2 hX).1 (by omega))⟩)) (Or.inr (by omega)) hK0 (Or.inr (vI_2 hX (by omega))) a0 a3)
set_option maxRecDepth 100000 in
theorem w_oF_276 {d : Nat} {mem : zM} {P : Option Value → zM → Prop} {T : List Int32} {n p e : Int} {t : Tk} {wh : Int32} {lo : List (Nat × Value)} (hm : aTm aT0 mem) (l_0 : zlg lo 0 = some (.ref 221)) (l_3 : zlg lo 3 = some (.int wh)) (p1 : 1 ≤ (gi mem 221 41).toInt ∧ (gi mem 221 41).toInt ≤ 8) (p2 : 0 ≤ (gi mem 221 44).toInt ∧ (gi mem 221 44).toInt ≤ 60) (p3 : 0 ≤ (gi mem 221 33).toInt ∧ (gi mem 221 33).toInt ≤ 1599) (p4 : 0 ≤ (gi mem 221 42).toInt ∧ (gi mem 221 42).toInt ≤ 7) (p6 : (gi mem 221 5).toInt ≤ (gi mem 221 2).toInt) (hR : mR T n p t e mem) (s1 : ¬ (wh).toInt = 44 → tOK mem) (h1 : ¬ (wh).toInt = 44 → ∀ (m2 : zM), aTm aT0 m2 → (opQ 3 mem m2 ∧ (¬ (gi m2 221 8).toInt = 0 ∨ (gi m2 221 41).toInt = (gi mem 221 41).toInt + 1) ∧ opR T n e mem m2) → ¬ (gi m2 221 8).toInt = 0 → aTm aT0 m2 → P (some (.int 0)) m2) (h2 : ¬ (wh).toInt = 44 → ∀ (m2 : zM), aTm aT0 m2 → (opQ 3 mem m2 ∧ (¬ (gi m2 221 8).toInt = 0 ∨ (gi m2 221 41).toInt = (gi mem 221 41).toInt + 1) ∧ opR T n e mem m2) → (gi m2 221 8).toInt = 0 → ∀ (x5 : Int32), x5.toInt = ((gi m2 221 41).toInt - 1) → aTm aT0 (sx m2 245 x5 wh) → P (some (.int 0)) (sx m2 245 x5 wh)) (s2 : (wh).toInt = 44 → tOK mem) (h3 : (wh).toInt = 44 → ∀ (m7 : zM), aTm aT0 m7 → (opQ 6 mem m7 ∧ (¬ (gi m7 221 8).toInt = 0 ∨ (gi m7 221 41).toInt = (gi mem 221 41).toInt + 1) ∧ opR T n e mem m7) → ¬ (gi m7 221 8).toInt = 0 → aTm aT0 m7 → P (some (.int 0)) m7) (h4 : (wh).toInt = 44 → ∀ (m7 : zM), aTm aT0 m7 → (opQ 6 mem m7 ∧ (¬ (gi m7 221 8).toInt = 0 ∨ (gi m7 221 41).toInt = (gi mem 221 41).toInt + 1) ∧ opR T n e mem m7) → (gi m7 221 8).toInt = 0 → ∀ (x10 : Int32), x10.toInt = ((gi m7 221 41).toInt - 1) → aTm aT0 (sx m7 245 x10 wh) → P (some (.int 0)) (sx m7 245 x10 wh)) : yR zpg tX12_operand (d + 5) (276, lo, [], mem) P := by
  obtain ⟨i0, i1⟩ := mO_r34 hm
  have th := gR_228 hm (i := (gi mem 221 34).toInt) i0 (by omega)
  refine wR_la rfl l_0 ?_
  refine wR_li rfl l_3 ?_
  refine yR_m 1 (fun _ _ _ _ => rfl) ?_
  refine wR_ic_ne rfl (a := (wh).toInt) (c := 44) rfl rfl (fun q1 => ?_) (fun q1 => ?_)
  ·
    refine yR_m 1 (fun _ _ _ _ => rfl) ?_
    refine wR_cv rfl rfl mO_e hm rfl (h_opens5 (T := T) (n := n) hm (s1 q1) (by omega) rfl rfl (by omega) (by omega) hR) ?_
    rintro _ m2 ⟨rfl, hI2, k3⟩
    show yR zpg tX12_operand (d + 5) (292, lo, [], m2) _
    refine wR_la rfl l_0 ?_
    refine wR_gi rfl mO_e mO_8 hI2 rfl ?_
    refine wR_if_ne rfl (a := (gi m2 221 8).toInt) rfl (fun q4 => ?_) (fun q4 => ?_)
    ·
      refine yR_m 1 (fun _ _ _ _ => rfl) ?_
      exact yR_rz rfl ⟨by decide, by decide⟩ (h1 q1 m2 hI2 k3 q4 hI2)
    ·
      refine wR_la rfl l_0 ?_
      refine wR_gr rfl mO_e mO_39 hI2 ?_
      refine wR_la rfl l_0 ?_
      refine wR_gi rfl mO_e mO_41 hI2 rfl ?_
      refine yR_m 1 (fun _ _ _ _ => rfl) ?_
      refine wN_sub (a := (gi m2 221 41).toInt) (b := 1) rfl rfl rfl (by omega) (fun x5 e6 => ?_)
      refine wR_li rfl l_3 ?_
      refine wN_as (a := ((gi m2 221 41).toInt - 1)) rfl aR_245 hI2 e6 (by omega) ?_
      have hm_1 : aTm aT0 (sx m2 245 x5 wh) := tm_sa aR_245 hI2 (i32_b _)
      refine yR_m 1 (fun _ _ _ _ => rfl) ?_
      exact yR_rz rfl ⟨by decide, by decide⟩ (h2 q1 m2 hI2 k3 q4 x5 e6 hm_1)
  ·
    refine yR_m 2 (fun _ _ _ _ => rfl) ?_
    refine wR_cv rfl rfl mO_e hm rfl (h_opens5 (T := T) (n := n) hm (s2 q1) (by omega) rfl rfl (by omega) (by omega) hR) ?_
    rintro _ m7 ⟨rfl, hI7, k8⟩
    show yR zpg tX12_operand (d + 5) (292, lo, [], m7) _
    refine wR_la rfl l_0 ?_
    refine wR_gi rfl mO_e mO_8 hI7 rfl ?_
    refine wR_if_ne rfl (a := (gi m7 221 8).toInt) rfl (fun q9 => ?_) (fun q9 => ?_)
    ·
      refine yR_m 1 (fun _ _ _ _ => rfl) ?_
      exact yR_rz rfl ⟨by decide, by decide⟩ (h3 q1 m7 hI7 k8 q9 hI7)
    ·
      refine wR_la rfl l_0 ?_
      refine wR_gr rfl mO_e mO_39 hI7 ?_
      refine wR_la rfl l_0 ?_
      refine wR_gi rfl mO_e mO_41 hI7 rfl ?_
      refine yR_m 1 (fun _ _ _ _ => rfl) ?_
      refine wN_sub (a := (gi m7 221 41).toInt) (b := 1) rfl rfl rfl (by omega) (fun x10 e11 => ?_)
      refine wR_li rfl l_3 ?_
      refine wN_as (a := ((gi m7 221 41).toInt - 1)) rfl aR_245 hI7 e11 (by omega) ?_
      have hm_2 : aTm aT0 (sx m7 245 x10 wh) := tm_sa aR_245 hI7 (i32_b _)
      refine yR_m 1 (fun _ _ _ _ => rfl) ?_
      exact yR_rz rfl ⟨by decide, by decide⟩ (h4 q1 m7 hI7 k8 q9 x10 e11 hm_2)

theorem oF_276 {K z : Int} {m : zM} {wh : Int32} {lo : List (Nat × Value)} (hm0 : aTm aT0 mem) (h : PI mr mem fm l 0) (hb : ∀ f, l.head? = some f → f.2.2.2.1 = 0) (hw : ((wh.toInt = 36 ∨ wh.toInt = 37) ∧ K = 3) ∨ (wh.toInt = 44 ∧ K = 6)) (hm : aTm aT0 m) (F : fr [] [3, 4, 5, 6, 7, 8, 9, 12] mem m) (hT : tOK m) (gt : (gi mem 221 4).toInt < (gi m 221 4).toInt) (hR : mR T n q t e m) (hS : (fk m = 0 ∧ sSgn T n 40 q = some e) ∨ (1 ≤ fk m ∧ sSgn T n 40 q = none)) (hK0 : mC mem = K0) (hz : cpO wh.toInt = z) (a0 : zlg lo 0 = some (.ref 221)) (a3 : zlg lo 3 = some (.int wh)) : yR zpg tX12_operand (d + 5) (276, lo, [], m) (odG T n mr fm K0 (oM T n K z (opn (abL l)) (abL l) q)) := by
  have pp := PI_pp hm0 h
  have O := opn_42 h
  have E41 : gi m 221 41 = gi mem 221 41 := fr_gi F rfl
  have E42 : gi m 221 42 = gi mem 221 42 := fr_gi F rfl
  have E44 : gi m 221 44 = gi mem 221 44 := fr_gi F rfl
  have E33 : gi m 221 33 = gi mem 221 33 := fr_gi F rfl
  have t9 := hT.1.1
  have hT8 : 0 ≤ (gi m 221 8).toInt := hT.2
  obtain ⟨p1, p2, p3, p4, p6, p8, p9⟩ := pp
  rw [← E41] at p1
  rw [← E44] at p2
  rw [← E33] at p3
  rw [← E42] at p4
  have no : ∀ {m5 : zM}, opR T n e m m5 → 1 ≤ fk m5 → oM T n K z (opn (abL l)) (abL l) q = none := fun R f => by
    rcases hS with ⟨s1, s2⟩ | ⟨s1, s2⟩
    · rcases R with ⟨r1, -⟩ | ⟨-, r2⟩
      · omega
      · unfold oM
        rw [s2]
        exact oif_f (fun w => r2 ⟨s1, by rw [E42, O]; exact w⟩)
    · unfold oM
      rw [s2]
      rfl
  have ok : ∀ {m5 : zM}, opR T n e m m5 → fk m5 = 0 → oM T n K z (opn (abL l)) (abL l) q = some ([], (((K, 0, 1, [z]) :: abL l, 0), e)) ∧ mRd T n e m5 := fun R f => by
    rcases R with ⟨-, r2, r3, r4⟩ | ⟨r1, -⟩
    · rcases hS with ⟨s1, s2⟩ | ⟨s1, s2⟩
      · refine ⟨?_, r4⟩
        unfold oM
        rw [s2]
        rw [E42, O] at r3
        exact oif_t r3
      · omega
    · omega
  exact w_oF_276 (T := T) (n := n) (p := q) (e := e) (t := t) hm a0 a3 p1 p2 p3 p4 (by omega) hR
        (fun q1 => hT)
        (fun q1 m2 hI2 k3 q4 hm2 => by
          have f0 : 0 ≤ (gi m2 221 8).toInt := k3.1.2.1.2
          have f1 : 1 ≤ fk m2 := by
            show 1 ≤ (gi m2 221 8).toInt
            omega
          exact oG_no f1 (no k3.2.2 f1))
        (fun q1 m2 hI2 k3 q4 x5 e6 hm2 => by
          have z8 : (gi m2 221 8).toInt = 0 := by omega
          have E41' := congrArg Int32.toInt E41
          have gg : ga (sx m2 245 x5 wh) 245 = (ga m2 245).set (x5).toNatClampNeg wh := ga_sa_eq
          have gl := gl_245 hI2
          have xe : (x5).toInt = (gi mem 221 41).toInt := by omega
          have le := k3.1.2.2.1
          have vv : gn (ga (sx m2 245 x5 wh) 245) (gi mem 221 41).toInt = wh.toInt := by rw [gg, gn_set xe (by omega) (by omega) (by omega), if_pos rfl]
          obtain rfl : K = 3 := by omega
          have okk := ok k3.2.2 z8
          exact oG_ok ⟨_, PI_opn hm0 h hb F k3.1 z8 (fr_sa rfl fr_rf) (fun i i0 i1 => by rw [gg, gn_set xe (by omega) (by omega) i0, if_neg (by omega)]) (by decide) (fun w => by rw [vv]; omega) (fun w => by rw [vv]; omega) (ar_3 (by rw [vv]; omega)) (by omega), by show (3, 0, 1, prI (3, gn (ga (sx m2 245 x5 wh) 245) (gi mem 221 41).toInt, 0, 1, [])) :: abL l = _; rw [vv, prI_1 (by decide), hz]⟩ okk.1 (mRd_sa (by decide) okk.2) (ap_0 ((mC_fm (ks := [245]) (is := []) (fr_sa rfl fr_rf) rfl rfl).trans ((mC_fm k3.1.1 rfl rfl).trans ((mC_fm F rfl rfl).trans hK0)))))
        (fun q1 => hT)
        (fun q1 m7 hI7 k8 q9 hm2 => by
          have f0 : 0 ≤ (gi m7 221 8).toInt := k8.1.2.1.2
          have f1 : 1 ≤ fk m7 := by
            show 1 ≤ (gi m7 221 8).toInt
            omega
          exact oG_no f1 (no k8.2.2 f1))
        (fun q1 m7 hI7 k8 q9 x10 e11 hm2 => by
          have z8 : (gi m7 221 8).toInt = 0 := by omega
          have E41' := congrArg Int32.toInt E41
          have gg : ga (sx m7 245 x10 wh) 245 = (ga m7 245).set (x10).toNatClampNeg wh := ga_sa_eq
          have gl := gl_245 hI7
          have xe : (x10).toInt = (gi mem 221 41).toInt := by omega
          have le := k8.1.2.2.1
          have vv : gn (ga (sx m7 245 x10 wh) 245) (gi mem 221 41).toInt = wh.toInt := by rw [gg, gn_set xe (by omega) (by omega) (by omega), if_pos rfl]
          obtain rfl : K = 6 := by omega
          have okk := ok k8.2.2 z8
          exact oG_ok ⟨_, PI_opn hm0 h hb F k8.1 z8 (fr_sa rfl fr_rf) (fun i i0 i1 => by rw [gg, gn_set xe (by omega) (by omega) i0, if_neg (by omega)]) (by decide) (fun w => by rw [vv]; omega) (fun w => by rw [vv]; omega) (ar_6) (by omega), by show (6, 0, 1, prI (6, gn (ga (sx m7 245 x10 wh) 245) (gi mem 221 41).toInt, 0, 1, [])) :: abL l = _; rw [vv, prI_1 (by decide), hz]⟩ okk.1 (mRd_sa (by decide) okk.2) (ap_0 ((mC_fm (ks := [245]) (is := []) (fr_sa rfl fr_rf) rfl rfl).trans ((mC_fm k8.1.1 rfl rfl).trans ((mC_fm F rfl rfl).trans hK0)))))
set_option maxRecDepth 100000 in
theorem w_oF_258 {d : Nat} {mem : zM} {P : Option Value → zM → Prop} {wh : Int32} {lo : List (Nat × Value)} (hm : aTm aT0 mem) (l_0 : zlg lo 0 = some (.ref 221)) (l_3 : zlg lo 3 = some (.int wh)) (p1 : 1 ≤ (gi mem 221 41).toInt ∧ (gi mem 221 41).toInt ≤ 8) (p2 : 0 ≤ (gi mem 221 44).toInt ∧ (gi mem 221 44).toInt ≤ 60) (p3 : 0 ≤ (gi mem 221 33).toInt ∧ (gi mem 221 33).toInt ≤ 1599) (p4 : 0 ≤ (gi mem 221 42).toInt ∧ (gi mem 221 42).toInt ≤ 7) (p6 : (gi mem 221 5).toInt ≤ (gi mem 221 2).toInt) (h1 : ∀ (v1 : Int32), ((v1.toInt = 0 ∧ ¬ ((gi mem 221 3).toInt = 3 ∧ (gi mem 221 6).toInt = 40)) ∨ (v1.toInt = 1 ∧ (gi mem 221 3).toInt = 3 ∧ (gi mem 221 6).toInt = 40)) → ¬ (v1).toInt = 0 → ∀ lo, zlg lo 0 = some (.ref 221) → zlg lo 3 = some (.int wh) → aTm aT0 mem → yR zpg tX12_operand (d + 5) (276, lo, [], mem) P) (h2 : ∀ (v1 : Int32), ((v1.toInt = 0 ∧ ¬ ((gi mem 221 3).toInt = 3 ∧ (gi mem 221 6).toInt = 40)) ∨ (v1.toInt = 1 ∧ (gi mem 221 3).toInt = 3 ∧ (gi mem 221 6).toInt = 40)) → (v1).toInt = 0 → (gi mem 221 8).toInt ≤ 0 → ∀ lo, zlg lo 0 = some (.ref 221) → zlg lo 3 = some (.int wh) → aTm aT0 (si (si mem 221 8 1) 221 9 (gi mem 221 4)) → yR zpg tX12_operand (d + 5) (276, lo, [], (si (si mem 221 8 1) 221 9 (gi mem 221 4))) P) (h3 : ∀ (v1 : Int32), ((v1.toInt = 0 ∧ ¬ ((gi mem 221 3).toInt = 3 ∧ (gi mem 221 6).toInt = 40)) ∨ (v1.toInt = 1 ∧ (gi mem 221 3).toInt = 3 ∧ (gi mem 221 6).toInt = 40)) → (v1).toInt = 0 → 0 < (gi mem 221 8).toInt → ∀ lo, zlg lo 0 = some (.ref 221) → zlg lo 3 = some (.int wh) → aTm aT0 mem → yR zpg tX12_operand (d + 5) (276, lo, [], mem) P) : yR zpg tX12_operand (d + 5) (258, lo, [], mem) P := by
  obtain ⟨i0, i1⟩ := mO_r34 hm
  have th := gR_228 hm (i := (gi mem 221 34).toInt) i0 (by omega)
  refine wR_la rfl l_0 ?_
  refine yR_m 1 (fun _ _ _ _ => rfl) ?_
  refine wR_cv rfl rfl mO_e hm rfl (c_isSign2 hm rfl rfl (by omega)) ?_
  rintro _ _ ⟨v1, rfl, rfl, k2⟩
  show yR zpg tX12_operand (d + 5) (264, lo, [.int v1], mem) _
  refine wR_if_ne rfl (a := (v1).toInt) rfl (fun q3 => ?_) (fun q3 => ?_)
  ·
    exact h1 v1 k2 q3 lo l_0 l_3 hm
  ·
    refine wR_la rfl l_0 ?_
    refine yR_m 1 (fun _ _ _ _ => rfl) ?_
    refine wR_la rfl l_0 ?_
    refine wR_gi rfl mO_e mO_4 hm rfl ?_
    refine wR_iv rfl rfl mO_e hm rfl rfl rfl rfl ?_
    show yR zpg tX12_blame (d + 4) (0, [(0, .ref 221), (1, .int 1), (2, .int (gi mem 221 4))], [], mem) _
    refine yR_m 1 (fun _ _ _ _ => rfl) ?_
    refine wR_gi rfl mO_e mO_8 hm rfl ?_
    refine wR_if_le rfl (a := (gi mem 221 8).toInt) rfl (fun q4 => ?_) (fun q4 => ?_)
    ·
      refine yR_m 2 (fun _ _ _ _ => rfl) ?_
      refine wR_pi rfl mO_e mO_8 hm rfl ?_
      have hm_1 : aTm aT0 (si mem 221 8 1) := tm_si mO_e mO_8 hm (i32_b _)
      refine yR_m 2 (fun _ _ _ _ => rfl) ?_
      refine wR_pi rfl mO_e mO_9 hm_1 rfl ?_
      have hm_2 : aTm aT0 (si (si mem 221 8 1) 221 9 (gi mem 221 4)) := tm_si mO_e mO_9 hm_1 (i32_b _)
      refine yR_rv rfl ?_
      show yR zpg tX12_operand (d + 5) (276, lo, [], (si (si mem 221 8 1) 221 9 (gi mem 221 4))) _
      exact h2 v1 k2 q3 q4 lo l_0 l_3 hm_2
    ·
      refine yR_rv rfl ?_
      show yR zpg tX12_operand (d + 5) (276, lo, [], mem) _
      exact h3 v1 k2 q3 q4 lo l_0 l_3 hm

theorem oF_258 {K z : Int} {m : zM} {wh : Int32} {lo : List (Nat × Value)} (hm0 : aTm aT0 mem) (h : PI mr mem fm l 0) (hb : ∀ f, l.head? = some f → f.2.2.2.1 = 0) (hw : ((wh.toInt = 36 ∨ wh.toInt = 37) ∧ K = 3) ∨ (wh.toInt = 44 ∧ K = 6)) (hm : aTm aT0 m) (F : fr [] [3, 4, 5, 6, 7, 8, 9, 12] mem m) (hT : tOK m) (gt : (gi mem 221 4).toInt < (gi m 221 4).toInt) (hR : mR T n q t e m) (hS : (fk m = 0 ∧ (gi m 221 12).toInt = -1) ∨ (1 ≤ fk m ∧ sSgn T n 40 q = none)) (hK0 : mC mem = K0) (hz : cpO wh.toInt = z) (a0 : zlg lo 0 = some (.ref 221)) (a3 : zlg lo 3 = some (.int wh)) : yR zpg tX12_operand (d + 5) (258, lo, [], m) (odG T n mr fm K0 (oM T n K z (opn (abL l)) (abL l) q)) := by
  have pp := PI_pp hm0 h
  have E41 : gi m 221 41 = gi mem 221 41 := fr_gi F rfl
  have E42 : gi m 221 42 = gi mem 221 42 := fr_gi F rfl
  have E44 : gi m 221 44 = gi mem 221 44 := fr_gi F rfl
  have E33 : gi m 221 33 = gi mem 221 33 := fr_gi F rfl
  have t9 := hT.1.1
  have hT8 : 0 ≤ (gi m 221 8).toInt := hT.2
  obtain ⟨p1, p2, p3, p4, p6, p8, p9⟩ := pp
  rw [← E41] at p1
  rw [← E44] at p2
  rw [← E33] at p3
  rw [← E42] at p4
  have ss : sSgn T n 40 q = oif (t.1 = 3 ∧ t.2.1 = 40) (some e) := by
    unfold sSgn
    rw [tkf_e hR.2.1]
  have no : ¬ ((gi m 221 3).toInt = 3 ∧ (gi m 221 6).toInt = 40) → sSgn T n 40 q = none := fun w => by
    rcases hS with ⟨s1, s2⟩ | ⟨s1, s2⟩
    · rw [ss]
      exact oif_f (fun w2 => w ((msg_iff hR.2.2.2 s2).2 w2))
    · exact s2
  have ok : (gi m 221 3).toInt = 3 ∧ (gi m 221 6).toInt = 40 → (fk m = 0 ∧ sSgn T n 40 q = some e) ∨ (1 ≤ fk m ∧ sSgn T n 40 q = none) := fun w => by
    rcases hS with ⟨s1, s2⟩ | s
    · refine Or.inl ⟨s1, ?_⟩
      rw [ss]
      exact oif_t ((msg_iff hR.2.2.2 s2).1 w)
    · exact Or.inr s
  exact w_oF_258 hm a0 a3 p1 p2 p3 p4 (by omega)
        (fun v1 k2 q3 lo a0 a3 hm => oF_276 hm0 h hb hw hm F hT gt hR (ok (by omega)) hK0 hz a0 a3)
        (fun v1 k2 q3 q4 lo a0 a3 hm2 => oF_276 hm0 h hb hw hm2 (fr_tr F (fr_sv rfl (fr_sv rfl (fr_rf)))) (tOK_fr (ks := []) (is := [8, 9]) (fr_sv rfl (fr_sv rfl (fr_rf))) rfl rfl rfl rfl (by show 0 ≤ (gi _ 221 8).toInt; rw [((gi_sv_ne (by decide)).trans (gi_eqO (isO_of hm) (by decide)))]; decide) hT) (by rw [((gi_sv_ne (by decide)).trans (gi_sv_ne (by decide)))]; exact gt) (mR_fm (ks := []) (is := [8, 9]) (fr_sv rfl (fr_sv rfl (fr_rf))) rfl rfl rfl rfl rfl rfl rfl hR) (Or.inr ⟨by show 1 ≤ (gi _ 221 8).toInt; rw [((gi_sv_ne (by decide)).trans (gi_eqO (isO_of hm) (by decide)))]; decide, no (by omega)⟩) hK0 hz a0 a3)
        (fun v1 k2 q3 q4 lo a0 a3 hm => oF_276 hm0 h hb hw hm F hT gt hR (Or.inr ⟨by show 1 ≤ (gi _ 221 8).toInt; omega, no (by omega)⟩) hK0 hz a0 a3)
set_option maxRecDepth 100000 in
theorem w_oF_250 {d : Nat} {mem : zM} {P : Option Value → zM → Prop} {T : List Int32} {n p : Int} {wh : Int32} {lo : List (Nat × Value)} (hm : aTm aT0 mem) (l_0 : zlg lo 0 = some (.ref 221)) (l_3 : zlg lo 3 = some (.int wh)) (p1 : 1 ≤ (gi mem 221 41).toInt ∧ (gi mem 221 41).toInt ≤ 8) (p2 : 0 ≤ (gi mem 221 44).toInt ∧ (gi mem 221 44).toInt ≤ 60) (p3 : 0 ≤ (gi mem 221 33).toInt ∧ (gi mem 221 33).toInt ≤ 1599) (p4 : 0 ≤ (gi mem 221 42).toInt ∧ (gi mem 221 42).toInt ≤ 7) (p6 : (gi mem 221 5).toInt ≤ (gi mem 221 2).toInt) (hX : mX T n p mem) (h1 : ∀ (m1 : zM), aTm aT0 m1 → (ahQ mem m1 ∧ (gi m1 221 41).toInt = (gi mem 221 41).toInt ∧ (gi m1 221 42).toInt = (gi mem 221 42).toInt ∧ (gi m1 221 44).toInt = (gi mem 221 44).toInt ∧ (gi m1 221 33).toInt = (gi mem 221 33).toInt ∧ (gi m1 221 8).toInt = (gi mem 221 8).toInt ∧ (gi mem 221 5).toInt ≤ (gi m1 221 4).toInt ∧ (gi m1 221 4).toInt ≤ (gi m1 221 5).toInt ∧ (gi m1 221 5).toInt ≤ (gi m1 221 2).toInt ∧ mRd T n (tkf T n p).2 m1) → (gi m1 221 12).toInt = (-1) → ∀ lo, zlg lo 0 = some (.ref 221) → zlg lo 3 = some (.int wh) → aTm aT0 m1 → yR zpg tX12_operand (d + 5) (258, lo, [], m1) P) (h2 : ∀ (m1 : zM), aTm aT0 m1 → (ahQ mem m1 ∧ (gi m1 221 41).toInt = (gi mem 221 41).toInt ∧ (gi m1 221 42).toInt = (gi mem 221 42).toInt ∧ (gi m1 221 44).toInt = (gi mem 221 44).toInt ∧ (gi m1 221 33).toInt = (gi mem 221 33).toInt ∧ (gi m1 221 8).toInt = (gi mem 221 8).toInt ∧ (gi mem 221 5).toInt ≤ (gi m1 221 4).toInt ∧ (gi m1 221 4).toInt ≤ (gi m1 221 5).toInt ∧ (gi m1 221 5).toInt ≤ (gi m1 221 2).toInt ∧ mRd T n (tkf T n p).2 m1) → ¬ (gi m1 221 12).toInt = (-1) → (gi m1 221 8).toInt ≤ 0 → ∀ lo, zlg lo 0 = some (.ref 221) → zlg lo 3 = some (.int wh) → aTm aT0 (si (si m1 221 8 1) 221 9 (gi m1 221 12)) → yR zpg tX12_operand (d + 5) (258, lo, [], (si (si m1 221 8 1) 221 9 (gi m1 221 12))) P) (h3 : ∀ (m1 : zM), aTm aT0 m1 → (ahQ mem m1 ∧ (gi m1 221 41).toInt = (gi mem 221 41).toInt ∧ (gi m1 221 42).toInt = (gi mem 221 42).toInt ∧ (gi m1 221 44).toInt = (gi mem 221 44).toInt ∧ (gi m1 221 33).toInt = (gi mem 221 33).toInt ∧ (gi m1 221 8).toInt = (gi mem 221 8).toInt ∧ (gi mem 221 5).toInt ≤ (gi m1 221 4).toInt ∧ (gi m1 221 4).toInt ≤ (gi m1 221 5).toInt ∧ (gi m1 221 5).toInt ≤ (gi m1 221 2).toInt ∧ mRd T n (tkf T n p).2 m1) → ¬ (gi m1 221 12).toInt = (-1) → 0 < (gi m1 221 8).toInt → ∀ lo, zlg lo 0 = some (.ref 221) → zlg lo 3 = some (.int wh) → aTm aT0 m1 → yR zpg tX12_operand (d + 5) (258, lo, [], m1) P) : yR zpg tX12_operand (d + 5) (250, lo, [], mem) P := by
  obtain ⟨i0, i1⟩ := mO_r34 hm
  have th := gR_228 hm (i := (gi mem 221 34).toInt) i0 (by omega)
  refine wR_la rfl l_0 ?_
  refine wR_cv rfl rfl mO_e hm rfl (h_ahead5 (T := T) (n := n) hX.1 (by omega) hm rfl rfl (by omega) rfl rfl rfl rfl rfl) ?_
  rintro _ m1 ⟨rfl, hI1, k2⟩
  show yR zpg tX12_operand (d + 5) (254, lo, [], m1) _
  refine wR_la rfl l_0 ?_
  refine wR_iv rfl rfl mO_e hI1 rfl rfl rfl rfl ?_
  show yR zpg tX12_lex (d + 4) (0, [(0, .ref 221)], [], m1) _
  refine yR_m 1 (fun _ _ _ _ => rfl) ?_
  refine wR_gi rfl mO_e mO_12 hI1 rfl ?_
  refine yR_m 1 (fun _ _ _ _ => rfl) ?_
  refine wR_ic_eq rfl (a := (gi m1 221 12).toInt) (c := (-1)) rfl tm1 (fun q3 => ?_) (fun q3 => ?_)
  ·
    refine yR_rv rfl ?_
    show yR zpg tX12_operand (d + 5) (258, lo, [], m1) _
    exact h1 m1 hI1 k2 q3 lo l_0 l_3 hI1
  ·
    refine yR_m 3 (fun _ _ _ _ => rfl) ?_
    refine wR_gi rfl mO_e mO_12 hI1 rfl ?_
    refine wR_iv rfl rfl mO_e hI1 rfl rfl rfl rfl ?_
    show yR zpg tX12_blame (d + 3) (0, [(0, .ref 221), (1, .int 1), (2, .int (gi m1 221 12))], [], m1) _
    refine yR_m 1 (fun _ _ _ _ => rfl) ?_
    refine wR_gi rfl mO_e mO_8 hI1 rfl ?_
    refine wR_if_le rfl (a := (gi m1 221 8).toInt) rfl (fun q4 => ?_) (fun q4 => ?_)
    ·
      refine yR_m 2 (fun _ _ _ _ => rfl) ?_
      refine wR_pi rfl mO_e mO_8 hI1 rfl ?_
      have hm_1 : aTm aT0 (si m1 221 8 1) := tm_si mO_e mO_8 hI1 (i32_b _)
      refine yR_m 2 (fun _ _ _ _ => rfl) ?_
      refine wR_pi rfl mO_e mO_9 hm_1 rfl ?_
      have hm_2 : aTm aT0 (si (si m1 221 8 1) 221 9 (gi m1 221 12)) := tm_si mO_e mO_9 hm_1 (i32_b _)
      refine yR_rv rfl ?_
      show yR zpg tX12_lex (d + 4) (17, [(0, .ref 221)], [], (si (si m1 221 8 1) 221 9 (gi m1 221 12))) _
      refine yR_rv rfl ?_
      show yR zpg tX12_operand (d + 5) (258, lo, [], (si (si m1 221 8 1) 221 9 (gi m1 221 12))) _
      exact h2 m1 hI1 k2 q3 q4 lo l_0 l_3 hm_2
    ·
      refine yR_rv rfl ?_
      show yR zpg tX12_lex (d + 4) (17, [(0, .ref 221)], [], m1) _
      refine yR_rv rfl ?_
      show yR zpg tX12_operand (d + 5) (258, lo, [], m1) _
      exact h3 m1 hI1 k2 q3 q4 lo l_0 l_3 hI1

theorem oF_250 {K z : Int} {wh : Int32} {lo : List (Nat × Value)} (hm : aTm aT0 mem) (h : PI mr mem fm l 0) (hb : ∀ f, l.head? = some f → f.2.2.2.1 = 0) (hX : mX T n p mem) (hw : ((wh.toInt = 36 ∨ wh.toInt = 37) ∧ K = 3) ∨ (wh.toInt = 44 ∧ K = 6)) (sg : ¬ (gi mem 221 3).toInt = 0) (hK0 : mC mem = K0) (hz : cpO wh.toInt = z) (a0 : zlg lo 0 = some (.ref 221)) (a3 : zlg lo 3 = some (.int wh)) : yR zpg tX12_operand (d + 5) (250, lo, [], mem) (odG T n mr fm K0 (oM T n K z (opn (abL l)) (abL l) (tkf T n p).2)) := by
  have pp := PI_pp hm h
  have hT := h.1.2.1
  obtain ⟨p1, p2, p3, p4, p6, p8, p9⟩ := pp
  exact w_oF_250 (T := T) (n := n) (p := p) hm a0 a3 p1 p2 p3 p4 p6 hX
        (fun m1 hI1 k2 q3 lo a0 a3 hm2 => by
          have F1 : fr [] [3, 4, 5, 6, 7, 8, 9, 12] mem m1 := fr_up k2.1.1 rfl rfl
          have T1 : tOK m1 := ⟨k2.1.2.1, by show 0 ≤ (gi m1 221 8).toInt; omega⟩
          have g1 := ah_gt k2.1 hT rfl sg
          have R1 := mRd_t k2.2.2.2.2.2.2.2.2.2
          exact oF_258 hm h hb hw hm2 F1 T1 g1 R1 (Or.inl ⟨by show (gi m1 221 8).toInt = 0; omega, by omega⟩) hK0 hz a0 a3)
        (fun m1 hI1 k2 q3 q4 lo a0 a3 hm2 => by
          have F1 : fr [] [3, 4, 5, 6, 7, 8, 9, 12] mem m1 := fr_up k2.1.1 rfl rfl
          have T1 : tOK m1 := ⟨k2.1.2.1, by show 0 ≤ (gi m1 221 8).toInt; omega⟩
          have g1 := ah_gt k2.1 hT rfl sg
          have R1 := mRd_t k2.2.2.2.2.2.2.2.2.2
          exact oF_258 hm h hb hw hm2 (fr_tr F1 (fr_sv rfl (fr_sv rfl (fr_rf)))) (tOK_fr (ks := []) (is := [8, 9]) (fr_sv rfl (fr_sv rfl (fr_rf))) rfl rfl rfl rfl (by show 0 ≤ (gi (si (si m1 221 8 1) 221 9 (gi m1 221 12)) 221 8).toInt; rw [((gi_sv_ne (by decide)).trans (gi_eqO (isO_of hI1) (by decide)))]; decide) T1) (by rw [((gi_sv_ne (by decide)).trans (gi_sv_ne (by decide)))]; exact g1) (mR_fm (ks := []) (is := [8, 9]) (fr_sv rfl (fr_sv rfl (fr_rf))) rfl rfl rfl rfl rfl rfl rfl R1) (Or.inr ⟨by show 1 ≤ (gi (si (si m1 221 8 1) 221 9 (gi m1 221 12)) 221 8).toInt; rw [((gi_sv_ne (by decide)).trans (gi_eqO (isO_of hI1) (by decide)))]; decide, sSgn_4 R1 (by omega)⟩) hK0 hz a0 a3)
        (fun m1 hI1 k2 q3 q4 lo a0 a3 hm2 => by exfalso; omega)
set_option maxRecDepth 100000 in
theorem w_oF_217 {d : Nat} {mem : zM} {P : Option Value → zM → Prop} {T : List Int32} {n p : Int} {lo : List (Nat × Value)} (hm : aTm aT0 mem) (l_0 : zlg lo 0 = some (.ref 221)) (p1 : 1 ≤ (gi mem 221 41).toInt ∧ (gi mem 221 41).toInt ≤ 8) (p2 : 0 ≤ (gi mem 221 44).toInt ∧ (gi mem 221 44).toInt ≤ 60) (p3 : 0 ≤ (gi mem 221 33).toInt ∧ (gi mem 221 33).toInt ≤ 1599) (p4 : 0 ≤ (gi mem 221 42).toInt ∧ (gi mem 221 42).toInt ≤ 7) (p6 : (gi mem 221 5).toInt ≤ (gi mem 221 2).toInt) (hX : mX T n p mem) (h1 : ∀ (v1 : Int32), ((v1.toInt = 0 ∧ ¬ sIO T n 24 p) ∨ (v1.toInt = 1 ∧ sIO T n 24 p)) → (v1).toInt = 0 → ∀ (v4 : Int32), ((v4.toInt = 0 ∧ ¬ sIO T n 25 p) ∨ (v4.toInt = 1 ∧ sIO T n 25 p)) → (v4).toInt = 0 → ∀ lo, zlg lo 0 = some (.ref 221) → zlg lo 3 = some (.int 44) → aTm aT0 mem → yR zpg tX12_operand (d + 5) (250, lo, [], mem) P) (h2 : ∀ (v1 : Int32), ((v1.toInt = 0 ∧ ¬ sIO T n 24 p) ∨ (v1.toInt = 1 ∧ sIO T n 24 p)) → (v1).toInt = 0 → ∀ (v4 : Int32), ((v4.toInt = 0 ∧ ¬ sIO T n 25 p) ∨ (v4.toInt = 1 ∧ sIO T n 25 p)) → ¬ (v4).toInt = 0 → ∀ lo, zlg lo 0 = some (.ref 221) → zlg lo 3 = some (.int 37) → aTm aT0 mem → yR zpg tX12_operand (d + 5) (250, lo, [], mem) P) (h3 : ∀ (v1 : Int32), ((v1.toInt = 0 ∧ ¬ sIO T n 24 p) ∨ (v1.toInt = 1 ∧ sIO T n 24 p)) → ¬ (v1).toInt = 0 → ∀ lo, zlg lo 0 = some (.ref 221) → zlg lo 3 = some (.int 36) → aTm aT0 mem → yR zpg tX12_operand (d + 5) (250, lo, [], mem) P) : yR zpg tX12_operand (d + 5) (217, lo, [], mem) P := by
  obtain ⟨i0, i1⟩ := mO_r34 hm
  have th := gR_228 hm (i := (gi mem 221 34).toInt) i0 (by omega)
  refine wR_la rfl l_0 ?_
  refine yR_m 1 (fun _ _ _ _ => rfl) ?_
  refine wR_cv rfl rfl mO_e hm rfl (h_woX (T := T) (n := n) (p := p) (k := 24) (by decide) (by decide) hm hX (by omega)) ?_
  rintro _ _ ⟨v1, rfl, rfl, k2⟩
  show yR zpg tX12_operand (d + 5) (224, lo, [.int v1], mem) _
  refine wR_if_eq rfl (a := (v1).toInt) rfl (fun q3 => ?_) (fun q3 => ?_)
  ·
    refine wR_la rfl l_0 ?_
    refine yR_m 1 (fun _ _ _ _ => rfl) ?_
    refine wR_cv rfl rfl mO_e hm rfl (h_woX (T := T) (n := n) (p := p) (k := 25) (by decide) (by decide) hm hX (by omega)) ?_
    rintro _ _ ⟨v4, rfl, rfl, k5⟩
    show yR zpg tX12_operand (d + 5) (239, lo, [.int v4], mem) _
    refine wR_if_eq rfl (a := (v4).toInt) rfl (fun q6 => ?_) (fun q6 => ?_)
    ·
      refine yR_m 1 (fun _ _ _ _ => rfl) ?_
      refine wR_si rfl rfl (fun lo7 e8 f9 => ?_)
      have lo7_0 := f9 0 _ (by decide) (Or.inl rfl) l_0
      exact h1 v1 k2 q3 v4 k5 q6 lo7 lo7_0 e8 hm
    ·
      refine yR_m 2 (fun _ _ _ _ => rfl) ?_
      refine wR_si rfl rfl (fun lo10 e11 f12 => ?_)
      have lo10_0 := f12 0 _ (by decide) (Or.inl rfl) l_0
      exact h2 v1 k2 q3 v4 k5 q6 lo10 lo10_0 e11 hm
  ·
    refine yR_m 2 (fun _ _ _ _ => rfl) ?_
    refine wR_si rfl rfl (fun lo13 e14 f15 => ?_)
    have lo13_0 := f15 0 _ (by decide) (Or.inl rfl) l_0
    exact h3 v1 k2 q3 lo13 lo13_0 e14 hm

theorem oF_217 {lo : List (Nat × Value)} (hm : aTm aT0 mem) (h : PI mr mem fm l 0) (hb : ∀ f, l.head? = some f → f.2.2.2.1 = 0) (hX : mX T n p mem) (hW : sIO T n 24 p ∨ sIO T n 25 p ∨ sIO T n 19 p) (sg : ¬ (gi mem 221 3).toInt = 0) (hK0 : mC mem = K0) (a0 : zlg lo 0 = some (.ref 221)) : yR zpg tX12_operand (d + 5) (217, lo, [], mem) (odG T n mr fm K0 (oD T n ru (opn (abL l)) (abL l) p)) := by
  have pp := PI_pp hm h
  obtain ⟨p1, p2, p3, p4, p6, p8, p9⟩ := pp
  exact w_oF_217 (T := T) (n := n) (p := p) hm a0 p1 p2 p3 p4 p6 hX
        (fun v1 k2 q3 v4 k5 q6 lo a0 a3 hm => by
          have w19 : sIO T n 19 p := by
            rcases hW with w | w | w
            · exact absurd w (dj_0 k2 (by omega))
            · exact absurd w (dj_0 k5 (by omega))
            · exact w
          rw [show oD T n ru (opn (abL l)) (abL l) p = oM T n 6 (wIx T n p) (opn (abL l)) (abL l) (tkf T n p).2 from (pif_f (fun w => w.elim (dj_0 k2 (by omega)) (dj_0 k5 (by omega)))).trans (pif_t w19)]
          exact oF_250 (wh := 44) hm h hb hX (Or.inr ⟨rfl, rfl⟩) sg hK0 (show cpO ((44 : Int32)).toInt = _ from (wIx_O (by decide) (by decide) w19).symm) a0 a3)
        (fun v1 k2 q3 v4 k5 q6 lo a0 a3 hm => by
          rw [show oD T n ru (opn (abL l)) (abL l) p = oM T n 3 (wIx T n p) (opn (abL l)) (abL l) (tkf T n p).2 from pif_t (Or.inr (dj_1 k5 (by omega)))]
          exact oF_250 (wh := 37) hm h hb hX (Or.inl ⟨by decide, rfl⟩) sg hK0 (show cpO ((37 : Int32)).toInt = _ from (wIx_O (by decide) (by decide) (dj_1 k5 (by omega))).symm) a0 a3)
        (fun v1 k2 q3 lo a0 a3 hm => by
          rw [show oD T n ru (opn (abL l)) (abL l) p = oM T n 3 (wIx T n p) (opn (abL l)) (abL l) (tkf T n p).2 from pif_t (Or.inl (dj_1 k2 (by omega)))]
          exact oF_250 (wh := 36) hm h hb hX (Or.inl ⟨by decide, rfl⟩) sg hK0 (show cpO ((36 : Int32)).toInt = _ from (wIx_O (by decide) (by decide) (dj_1 k2 (by omega))).symm) a0 a3)
set_option maxRecDepth 100000 in
theorem w_oF_187 {d : Nat} {mem : zM} {P : Option Value → zM → Prop} {T : List Int32} {n p : Int} {lo : List (Nat × Value)} (hm : aTm aT0 mem) (l_0 : zlg lo 0 = some (.ref 221)) (p1 : 1 ≤ (gi mem 221 41).toInt ∧ (gi mem 221 41).toInt ≤ 8) (p2 : 0 ≤ (gi mem 221 44).toInt ∧ (gi mem 221 44).toInt ≤ 60) (p3 : 0 ≤ (gi mem 221 33).toInt ∧ (gi mem 221 33).toInt ≤ 1599) (p4 : 0 ≤ (gi mem 221 42).toInt ∧ (gi mem 221 42).toInt ≤ 7) (p6 : (gi mem 221 5).toInt ≤ (gi mem 221 2).toInt) (hX : mX T n p mem) (h1 : ∀ (v1 : Int32), ((v1.toInt = 0 ∧ ¬ sIO T n 24 p) ∨ (v1.toInt = 1 ∧ sIO T n 24 p)) → ¬ (v1).toInt = 0 → ∀ lo, zlg lo 0 = some (.ref 221) → aTm aT0 mem → yR zpg tX12_operand (d + 5) (217, lo, [], mem) P) (h2 : ∀ (v1 : Int32), ((v1.toInt = 0 ∧ ¬ sIO T n 24 p) ∨ (v1.toInt = 1 ∧ sIO T n 24 p)) → (v1).toInt = 0 → ∀ (v4 : Int32), ((v4.toInt = 0 ∧ ¬ sIO T n 25 p) ∨ (v4.toInt = 1 ∧ sIO T n 25 p)) → ¬ (v4).toInt = 0 → ∀ lo, zlg lo 0 = some (.ref 221) → aTm aT0 mem → yR zpg tX12_operand (d + 5) (217, lo, [], mem) P) (h3 : ∀ (v1 : Int32), ((v1.toInt = 0 ∧ ¬ sIO T n 24 p) ∨ (v1.toInt = 1 ∧ sIO T n 24 p)) → (v1).toInt = 0 → ∀ (v4 : Int32), ((v4.toInt = 0 ∧ ¬ sIO T n 25 p) ∨ (v4.toInt = 1 ∧ sIO T n 25 p)) → (v4).toInt = 0 → ∀ (v7 : Int32), ((v7.toInt = 0 ∧ ¬ sIO T n 19 p) ∨ (v7.toInt = 1 ∧ sIO T n 19 p)) → (v7).toInt = 0 → ∀ lo, zlg lo 0 = some (.ref 221) → aTm aT0 mem → yR zpg tX12_operand (d + 5) (313, lo, [], mem) P) (h4 : ∀ (v1 : Int32), ((v1.toInt = 0 ∧ ¬ sIO T n 24 p) ∨ (v1.toInt = 1 ∧ sIO T n 24 p)) → (v1).toInt = 0 → ∀ (v4 : Int32), ((v4.toInt = 0 ∧ ¬ sIO T n 25 p) ∨ (v4.toInt = 1 ∧ sIO T n 25 p)) → (v4).toInt = 0 → ∀ (v7 : Int32), ((v7.toInt = 0 ∧ ¬ sIO T n 19 p) ∨ (v7.toInt = 1 ∧ sIO T n 19 p)) → ¬ (v7).toInt = 0 → ∀ lo, zlg lo 0 = some (.ref 221) → aTm aT0 mem → yR zpg tX12_operand (d + 5) (217, lo, [], mem) P) : yR zpg tX12_operand (d + 5) (187, lo, [], mem) P := by
  obtain ⟨i0, i1⟩ := mO_r34 hm
  have th := gR_228 hm (i := (gi mem 221 34).toInt) i0 (by omega)
  refine wR_la rfl l_0 ?_
  refine yR_m 1 (fun _ _ _ _ => rfl) ?_
  refine wR_cv rfl rfl mO_e hm rfl (h_woX (T := T) (n := n) (p := p) (k := 24) (by decide) (by decide) hm hX (by omega)) ?_
  rintro _ _ ⟨v1, rfl, rfl, k2⟩
  show yR zpg tX12_operand (d + 5) (194, lo, [.int v1], mem) _
  refine wR_if_ne rfl (a := (v1).toInt) rfl (fun q3 => ?_) (fun q3 => ?_)
  ·
    exact h1 v1 k2 q3 lo l_0 hm
  ·
    refine wR_la rfl l_0 ?_
    refine yR_m 1 (fun _ _ _ _ => rfl) ?_
    refine wR_cv rfl rfl mO_e hm rfl (h_woX (T := T) (n := n) (p := p) (k := 25) (by decide) (by decide) hm hX (by omega)) ?_
    rintro _ _ ⟨v4, rfl, rfl, k5⟩
    show yR zpg tX12_operand (d + 5) (204, lo, [.int v4], mem) _
    refine wR_if_ne rfl (a := (v4).toInt) rfl (fun q6 => ?_) (fun q6 => ?_)
    ·
      exact h2 v1 k2 q3 v4 k5 q6 lo l_0 hm
    ·
      refine wR_la rfl l_0 ?_
      refine yR_m 1 (fun _ _ _ _ => rfl) ?_
      refine wR_cv rfl rfl mO_e hm rfl (h_woX (T := T) (n := n) (p := p) (k := 19) (by decide) (by decide) hm hX (by omega)) ?_
      rintro _ _ ⟨v7, rfl, rfl, k8⟩
      show yR zpg tX12_operand (d + 5) (214, lo, [.int v7], mem) _
      refine wR_if_eq rfl (a := (v7).toInt) rfl (fun q9 => ?_) (fun q9 => ?_)
      ·
        exact h3 v1 k2 q3 v4 k5 q6 v7 k8 q9 lo l_0 hm
      ·
        exact h4 v1 k2 q3 v4 k5 q6 v7 k8 q9 lo l_0 hm

theorem oF_187 {lo : List (Nat × Value)} (hm : aTm aT0 mem) (h : PI mr mem fm l 0) (hb : ∀ f, l.head? = some f → f.2.2.2.1 = 0) (hX : mX T n p mem) (hru : (gi mem 221 35).toInt = ru) (hK0 : mC mem = K0) (a0 : zlg lo 0 = some (.ref 221)) : yR zpg tX12_operand (d + 5) (187, lo, [], mem) (odG T n mr fm K0 (oD T n ru (opn (abL l)) (abL l) p)) := by
  have pp := PI_pp hm h
  obtain ⟨p1, p2, p3, p4, p6, p8, p9⟩ := pp
  have nO : ∀ {k : Int}, sIO T n k p → ¬ (gi mem 221 3).toInt = 0 := fun w z => by
    have a := (mX_0 hX).1 z
    have b := w.1
    omega
  exact w_oF_187 (T := T) (n := n) (p := p) hm a0 p1 p2 p3 p4 p6 hX
        (fun v1 k2 q3 lo a0 hm => oF_217 hm h hb hX (Or.inl (dj_1 k2 (by omega))) (nO (dj_1 k2 (by omega))) hK0 a0)
        (fun v1 k2 q3 v4 k5 q6 lo a0 hm => oF_217 hm h hb hX (Or.inr (Or.inl (dj_1 k5 (by omega)))) (nO (dj_1 k5 (by omega))) hK0 a0)
        (fun v1 k2 q3 v4 k5 q6 v7 k8 q9 lo a0 hm => by
          rw [show oD T n ru (opn (abL l)) (abL l) p = oE T n ru (abL l) p from (pif_f (fun w => w.elim (dj_0 k2 (by omega)) (dj_0 k5 (by omega)))).trans (pif_f (dj_0 k8 (by omega)))]
          exact oF_313 hm h hb hX hru hK0 a0)
        (fun v1 k2 q3 v4 k5 q6 v7 k8 q9 lo a0 hm => oF_217 hm h hb hX (Or.inr (Or.inr ((dj_1 k8 (by omega))))) (nO (dj_1 k8 (by omega))) hK0 a0)
set_option maxRecDepth 100000 in
theorem w_oF_171 {d : Nat} {mem : zM} {P : Option Value → zM → Prop} {T : List Int32} {n p : Int} {lo : List (Nat × Value)} (hm : aTm aT0 mem) (l_0 : zlg lo 0 = some (.ref 221)) (p1 : 1 ≤ (gi mem 221 41).toInt ∧ (gi mem 221 41).toInt ≤ 8) (p2 : 0 ≤ (gi mem 221 44).toInt ∧ (gi mem 221 44).toInt ≤ 60) (p3 : 0 ≤ (gi mem 221 33).toInt ∧ (gi mem 221 33).toInt ≤ 1599) (p4 : 0 ≤ (gi mem 221 42).toInt ∧ (gi mem 221 42).toInt ≤ 7) (p6 : (gi mem 221 5).toInt ≤ (gi mem 221 2).toInt) (hX : mX T n p mem) (h1 : ∀ (v1 : Int32), ((v1.toInt = 0 ∧ ¬ sIS T n 40 p) ∨ (v1.toInt = 1 ∧ sIS T n 40 p)) → (v1).toInt = 0 → ∀ lo, zlg lo 0 = some (.ref 221) → aTm aT0 mem → yR zpg tX12_operand (d + 5) (187, lo, [], mem) P) (s1 : ∀ (v1 : Int32), ((v1.toInt = 0 ∧ ¬ sIS T n 40 p) ∨ (v1.toInt = 1 ∧ sIS T n 40 p)) → ¬ (v1).toInt = 0 → tOK mem) (h2 : ∀ (v1 : Int32), ((v1.toInt = 0 ∧ ¬ sIS T n 40 p) ∨ (v1.toInt = 1 ∧ sIS T n 40 p)) → ¬ (v1).toInt = 0 → ∀ (m4 : zM), aTm aT0 m4 → (opQ 2 mem m4 ∧ (¬ (gi m4 221 8).toInt = 0 ∨ (gi m4 221 41).toInt = (gi mem 221 41).toInt + 1) ∧ opR T n (tkf T n p).2 mem m4) → aTm aT0 m4 → P (some (.int 0)) m4) : yR zpg tX12_operand (d + 5) (171, lo, [], mem) P := by
  obtain ⟨i0, i1⟩ := mO_r34 hm
  have th := gR_228 hm (i := (gi mem 221 34).toInt) i0 (by omega)
  refine wR_la rfl l_0 ?_
  refine yR_m 1 (fun _ _ _ _ => rfl) ?_
  refine wR_cv rfl rfl mO_e hm rfl (h_sgX (T := T) (n := n) (p := p) hm hX (by omega)) ?_
  rintro _ _ ⟨v1, rfl, rfl, k2⟩
  show yR zpg tX12_operand (d + 5) (177, lo, [.int v1], mem) _
  refine wR_if_eq rfl (a := (v1).toInt) rfl (fun q3 => ?_) (fun q3 => ?_)
  ·
    exact h1 v1 k2 q3 lo l_0 hm
  ·
    refine wR_la rfl l_0 ?_
    refine yR_m 1 (fun _ _ _ _ => rfl) ?_
    refine wR_cv rfl rfl mO_e hm rfl (h_opens5 (T := T) (n := n) hm (s1 v1 k2 q3) (by omega) rfl rfl (by omega) (by omega) hX.1) ?_
    rintro _ m4 ⟨rfl, hI4, k5⟩
    show yR zpg tX12_operand (d + 5) (185, lo, [], m4) _
    refine yR_m 1 (fun _ _ _ _ => rfl) ?_
    exact yR_rz rfl ⟨by decide, by decide⟩ (h2 v1 k2 q3 m4 hI4 k5 hI4)

theorem oF_171 {lo : List (Nat × Value)} (hm : aTm aT0 mem) (h : PI mr mem fm l 0) (hb : ∀ f, l.head? = some f → f.2.2.2.1 = 0) (hX : mX T n p mem) (hru : (gi mem 221 35).toInt = ru) (hK0 : mC mem = K0) (a0 : zlg lo 0 = some (.ref 221)) : yR zpg tX12_operand (d + 5) (171, lo, [], mem) (odG T n mr fm K0 (oC T n ru (opn (abL l)) (abL l) p)) := by
  have pp := PI_pp hm h
  have hT := h.1.2.1
  obtain ⟨p1, p2, p3, p4, p6, p8, p9⟩ := pp
  have nS : ∀ {k : Int}, sIS T n k p → ¬ (gi mem 221 3).toInt = 0 := fun w z => by
    have a := (mX_0 hX).1 z
    have b := w.1
    omega
  exact w_oF_171 (T := T) (n := n) (p := p) hm a0 p1 p2 p3 p4 p6 hX
        (fun v1 k2 q3 lo a0 hm => by
          rw [show oC T n ru (opn (abL l)) (abL l) p = oD T n ru (opn (abL l)) (abL l) p from pif_f (dj_0 k2 (by omega))]
          exact oF_187 hm h hb hX hru hK0 a0)
        (fun v1 k2 q3 => hT)
        (fun v1 k2 q3 m4 hI4 k5 hm2 => oG_o hK0 hm h hb k5.1 k5.2.2 (by decide) (nS (dj_1 k2 (by omega))) (pif_t (dj_1 k2 (by omega))))
set_option maxRecDepth 100000 in
theorem w_oF_137 {d : Nat} {mem : zM} {P : Option Value → zM → Prop} {T : List Int32} {n p : Int} {fv fi : Int32} {lo : List (Nat × Value)} (hm : aTm aT0 mem) (l_0 : zlg lo 0 = some (.ref 221)) (l_1 : zlg lo 1 = some (.int fv)) (l_2 : zlg lo 2 = some (.int fi)) (p1 : 1 ≤ (gi mem 221 41).toInt ∧ (gi mem 221 41).toInt ≤ 8) (p2 : 0 ≤ (gi mem 221 44).toInt ∧ (gi mem 221 44).toInt ≤ 60) (p3 : 0 ≤ (gi mem 221 33).toInt ∧ (gi mem 221 33).toInt ≤ 1599) (p4 : 0 ≤ (gi mem 221 42).toInt ∧ (gi mem 221 42).toInt ≤ 7) (p6 : (gi mem 221 5).toInt ≤ (gi mem 221 2).toInt) (fv1 : fv.toInt = (gi mem 221 41).toInt - 1) (hX : mX T n p mem) (h1 : (fi).toInt = 0 → ∀ lo, zlg lo 0 = some (.ref 221) → zlg lo 1 = some (.int fv) → zlg lo 2 = some (.int fi) → aTm aT0 mem → yR zpg tX12_operand (d + 5) (171, lo, [], mem) P) (h2 : ¬ (fi).toInt = 0 → ∀ (v2 : Int32), ((v2.toInt = 0 ∧ ¬ sIO T n 23 p) ∨ (v2.toInt = 1 ∧ sIO T n 23 p)) → (v2).toInt = 0 → ∀ lo, zlg lo 0 = some (.ref 221) → zlg lo 1 = some (.int fv) → zlg lo 2 = some (.int fi) → aTm aT0 mem → yR zpg tX12_operand (d + 5) (171, lo, [], mem) P) (h3 : ¬ (fi).toInt = 0 → ∀ (v2 : Int32), ((v2.toInt = 0 ∧ ¬ sIO T n 23 p) ∨ (v2.toInt = 1 ∧ sIO T n 23 p)) → ¬ (v2).toInt = 0 → ∀ (x5 : Int32), x5.toInt = (1600 * (gi mem 221 34).toInt) → ∀ (x7 : Int32), x7.toInt = ((1600 * (gi mem 221 34).toInt) + (gi mem 221 33).toInt) → ∀ (x9 : Int32), x9.toInt = (1600 * (gi mem 221 34).toInt) → ∀ (x11 : Int32), x11.toInt = ((1600 * (gi mem 221 34).toInt) + (gi mem 221 33).toInt) → ∀ (x13 : Int32), x13.toInt = ((gi mem 221 33).toInt + 1) → ∀ (m15 : zM), aTm aT0 m15 → (ahQ (sx (si (sx (sx mem 238 x7 30) 239 x11 0) 221 33 x13) 243 fv 2) m15 ∧ (gi m15 221 41).toInt = (gi mem 221 41).toInt ∧ (gi m15 221 42).toInt = (gi mem 221 42).toInt ∧ (gi m15 221 44).toInt = (gi mem 221 44).toInt ∧ (gi m15 221 33).toInt = x13.toInt ∧ (gi m15 221 8).toInt = (gi mem 221 8).toInt ∧ (gi mem 221 5).toInt ≤ (gi m15 221 4).toInt ∧ (gi m15 221 4).toInt ≤ (gi m15 221 5).toInt ∧ (gi m15 221 5).toInt ≤ (gi m15 221 2).toInt ∧ mRd T n (tkf T n p).2 m15) → aTm aT0 m15 → P (some (.int 1)) m15) : yR zpg tX12_operand (d + 5) (137, lo, [], mem) P := by
  obtain ⟨i0, i1⟩ := mO_r34 hm
  have th := gR_228 hm (i := (gi mem 221 34).toInt) i0 (by omega)
  refine wR_li rfl l_2 ?_
  refine wR_if_eq rfl (a := (fi).toInt) rfl (fun q1 => ?_) (fun q1 => ?_)
  ·
    exact h1 q1 lo l_0 l_1 l_2 hm
  ·
    refine wR_la rfl l_0 ?_
    refine yR_m 1 (fun _ _ _ _ => rfl) ?_
    refine wR_cv rfl rfl mO_e hm rfl (h_woX (T := T) (n := n) (p := p) (k := 23) (by decide) (by decide) hm hX (by omega)) ?_
    rintro _ _ ⟨v2, rfl, rfl, k3⟩
    show yR zpg tX12_operand (d + 5) (148, lo, [.int v2], mem) _
    refine wR_if_eq rfl (a := (v2).toInt) rfl (fun q4 => ?_) (fun q4 => ?_)
    ·
      exact h2 q1 v2 k3 q4 lo l_0 l_1 l_2 hm
    ·
      refine wR_la rfl l_0 ?_
      refine yR_m 2 (fun _ _ _ _ => rfl) ?_
      refine wR_iv rfl rfl mO_e hm rfl rfl rfl rfl ?_
      show yR zpg tX12_add (d + 4) (0, [(0, .ref 221), (1, .int 30), (2, .int 0)], [], mem) _
      refine yR_m 1 (fun _ _ _ _ => rfl) ?_
      refine wR_gr rfl mO_e mO_29 hm ?_
      refine yR_m 2 (fun _ _ _ _ => rfl) ?_
      refine wR_gi rfl mO_e mO_34 hm rfl ?_
      refine wN_mul (a := 1600) (b := (gi mem 221 34).toInt) rfl rfl rfl (by omega) (fun x5 e6 => ?_)
      refine yR_m 1 (fun _ _ _ _ => rfl) ?_
      refine wR_gi rfl mO_e mO_33 hm rfl ?_
      refine wN_add (a := (1600 * (gi mem 221 34).toInt)) (b := (gi mem 221 33).toInt) rfl e6 rfl (by omega) (fun x7 e8 => ?_)
      refine yR_m 1 (fun _ _ _ _ => rfl) ?_
      refine wN_as (a := ((1600 * (gi mem 221 34).toInt) + (gi mem 221 33).toInt)) rfl aR_238 hm e8 (by omega) ?_
      have hm_1 : aTm aT0 (sx mem 238 x7 30) := tm_sa aR_238 hm (i32_b _)
      refine yR_m 1 (fun _ _ _ _ => rfl) ?_
      refine wR_gr rfl mO_e mO_30 hm_1 ?_
      refine yR_m 2 (fun _ _ _ _ => rfl) ?_
      refine wR_gi rfl mO_e mO_34 hm_1 (gi_sa) ?_
      refine wN_mul (a := 1600) (b := (gi mem 221 34).toInt) rfl rfl rfl (by omega) (fun x9 e10 => ?_)
      refine yR_m 1 (fun _ _ _ _ => rfl) ?_
      refine wR_gi rfl mO_e mO_33 hm_1 (gi_sa) ?_
      refine wN_add (a := (1600 * (gi mem 221 34).toInt)) (b := (gi mem 221 33).toInt) rfl e10 rfl (by omega) (fun x11 e12 => ?_)
      refine yR_m 1 (fun _ _ _ _ => rfl) ?_
      refine wN_as (a := ((1600 * (gi mem 221 34).toInt) + (gi mem 221 33).toInt)) rfl aR_239 hm_1 e12 (by omega) ?_
      have hm_2 : aTm aT0 (sx (sx mem 238 x7 30) 239 x11 0) := tm_sa aR_239 hm_1 (i32_b _)
      refine yR_m 2 (fun _ _ _ _ => rfl) ?_
      refine wR_gi rfl mO_e mO_33 hm_2 ((gi_sa).trans (gi_sa)) ?_
      refine yR_m 1 (fun _ _ _ _ => rfl) ?_
      refine wN_add (a := (gi mem 221 33).toInt) (b := 1) rfl rfl rfl (by omega) (fun x13 e14 => ?_)
      refine wR_pi rfl mO_e mO_33 hm_2 rfl ?_
      have hm_3 : aTm aT0 (si (sx (sx mem 238 x7 30) 239 x11 0) 221 33 x13) := tm_si mO_e mO_33 hm_2 (i32_b _)
      refine yR_rv rfl ?_
      show yR zpg tX12_operand (d + 5) (158, lo, [], (si (sx (sx mem 238 x7 30) 239 x11 0) 221 33 x13)) _
      refine wR_la rfl l_0 ?_
      refine wR_gr rfl mO_e mO_37 hm_3 ?_
      refine wR_li rfl l_1 ?_
      refine yR_m 1 (fun _ _ _ _ => rfl) ?_
      refine wN_as (a := (fv).toInt) rfl aR_243 hm_3 rfl (by omega) ?_
      have hm_4 : aTm aT0 (sx (si (sx (sx mem 238 x7 30) 239 x11 0) 221 33 x13) 243 fv 2) := tm_sa aR_243 hm_3 (i32_b _)
      refine wR_la rfl l_0 ?_
      refine wR_cv rfl rfl mO_e hm_4 rfl (h_ahead5 (T := T) (n := n) (mR_fm (ks := [238, 239, 242, 243, 244, 245, 246, 247]) (is := [8, 9, 33, 41, 42, 44, 45]) (fr_sa rfl (fr_sv rfl (fr_sa rfl (fr_sa rfl (fr_rf))))) rfl rfl rfl rfl rfl rfl rfl hX.1) (by omega) hm_4 ((gi_sa).trans ((gi_sv_ne (by decide)).trans ((gi_sa).trans (gi_sa)))) ((gi_sa).trans ((gi_sv_ne (by decide)).trans ((gi_sa).trans (gi_sa)))) (by omega) ((gi_sa).trans ((gi_sv_ne (by decide)).trans ((gi_sa).trans (gi_sa)))) ((gi_sa).trans ((gi_sv_ne (by decide)).trans ((gi_sa).trans (gi_sa)))) ((gi_sa).trans ((gi_sv_ne (by decide)).trans ((gi_sa).trans (gi_sa)))) ((gi_sa).trans (gi_si_eq mO_e mO_33 hm_2)) ((gi_sa).trans ((gi_sv_ne (by decide)).trans ((gi_sa).trans (gi_sa))))) ?_
      rintro _ m15 ⟨rfl, hI15, k16⟩
      show yR zpg tX12_operand (d + 5) (169, lo, [], m15) _
      refine yR_m 1 (fun _ _ _ _ => rfl) ?_
      exact yR_rz rfl ⟨by decide, by decide⟩ (h3 q1 v2 k3 q4 x5 e6 x7 e8 x9 e10 x11 e12 x13 e14 m15 hI15 k16 hI15)

theorem oF_137 {c : Prop} {fv fi : Int32} {lo : List (Nat × Value)} (hm : aTm aT0 mem) (h : PI mr mem fm l 0) (hb : ∀ f, l.head? = some f → f.2.2.2.1 = 0) (hX : mX T n p mem) (hru : (gi mem 221 35).toInt = ru) (hc : (fi.toInt = 0 ∧ ¬ c) ∨ (fi.toInt = 1 ∧ c)) (fv1 : fv.toInt = (gi mem 221 41).toInt - 1) (hK0 : mC mem = K0) (a0 : zlg lo 0 = some (.ref 221)) (a1 : zlg lo 1 = some (.int fv)) (a2 : zlg lo 2 = some (.int fi)) : yR zpg tX12_operand (d + 5) (137, lo, [], mem) (odG T n mr fm K0 (oB T n ru (opn (abL l)) c (abL l) p)) := by
  have pp := PI_pp hm h
  have hT := h.1.2.1
  obtain ⟨p1, p2, p3, p4, p6, p8, p9⟩ := pp
  have nO : ∀ {k : Int}, sIO T n k p → ¬ (gi mem 221 3).toInt = 0 := fun w z => by
    have a := (mX_0 hX).1 z
    have b := w.1
    omega
  exact w_oF_137 (T := T) (n := n) (p := p) hm a0 a1 a2 p1 p2 p3 p4 p6 fv1 hX
        (fun q1 lo a0 a1 a2 hm => by
          rw [show oB T n ru (opn (abL l)) c (abL l) p = oC T n ru (opn (abL l)) (abL l) p from pif_f (fun w => absurd w.1 (dj_0 hc (by omega)))]
          exact oF_171 hm h hb hX hru hK0 a0)
        (fun q1 v2 k3 q4 lo a0 a1 a2 hm => by
          rw [show oB T n ru (opn (abL l)) c (abL l) p = oC T n ru (opn (abL l)) (abL l) p from pif_f (fun w => (dj_0 k3 (by omega)) w.2)]
          exact oF_171 hm h hb hX hru hK0 a0)
        (fun q1 v2 k3 q4 x5 e6 x7 e8 x9 e10 x11 e12 x13 e14 m15 hI15 k16 hm2 => oG_ok (PI_addF2 (x := x7) (y := 30) (x33 := x13) (z := fv) hm h hb (fr_sa rfl (fr_sv rfl (fr_sa rfl (fr_sa rfl (fr_rf))))) k16.1 ((gi_sa).trans (gi_eqO (isO_sa (by decide) (isO_sa (by decide) (isO_of hm))) (by decide))) (by omega) (((ga_sa_ne (by decide)).trans ((ga_sv).trans ((ga_sa_ne (by decide)).trans ga_sa_eq)))) (by omega) ⟨x11, 0, by omega, ((ga_sa_ne (by decide)).trans ((ga_sv).trans (ga_sa_eq.trans (congrArg (fun l => List.set l x11.toNatClampNeg 0) (ga_sa_ne (by decide))))))⟩ (Or.inr rfl) fv1 ((ga_sa_eq.trans (congrArg (fun l => List.set l fv.toNatClampNeg 2) ((ga_sv).trans ((ga_sa_ne (by decide)).trans (ga_sa_ne (by decide))))))) (nO (dj_1 k3 (by omega)))) (pif_t ⟨dj_1 hc (by omega), (dj_1 k3 (by omega))⟩) k16.2.2.2.2.2.2.2.2.2 (ap_1 (mC_adQ (ks := [238, 239, 243]) (is := [33]) (x := x7) (y := 30) (x9 := x11) (z := 0) hm (by omega) (fr_sa rfl (fr_sv rfl (fr_sa rfl (fr_sa rfl (fr_rf))))) rfl ((gi_sa).trans (gi_eqO (isO_sa (by decide) (isO_sa (by decide) (isO_of hm))) (by decide))) (by omega) (((ga_sa_ne (by decide)).trans ((ga_sv).trans ((ga_sa_ne (by decide)).trans ga_sa_eq)))) (by omega) (((ga_sa_ne (by decide)).trans ((ga_sv).trans (ga_sa_eq.trans (congrArg (fun l => List.set l x11.toNatClampNeg 0) (ga_sa_ne (by decide))))))) (by omega) k16.1) hK0 rfl))
set_option maxRecDepth 100000 in
theorem w_oF_117 {d : Nat} {mem : zM} {P : Option Value → zM → Prop} {T : List Int32} {n p : Int} {fv fi : Int32} {lo : List (Nat × Value)} (hm : aTm aT0 mem) (l_0 : zlg lo 0 = some (.ref 221)) (l_1 : zlg lo 1 = some (.int fv)) (l_2 : zlg lo 2 = some (.int fi)) (p1 : 1 ≤ (gi mem 221 41).toInt ∧ (gi mem 221 41).toInt ≤ 8) (p2 : 0 ≤ (gi mem 221 44).toInt ∧ (gi mem 221 44).toInt ≤ 60) (p3 : 0 ≤ (gi mem 221 33).toInt ∧ (gi mem 221 33).toInt ≤ 1599) (p4 : 0 ≤ (gi mem 221 42).toInt ∧ (gi mem 221 42).toInt ≤ 7) (p6 : (gi mem 221 5).toInt ≤ (gi mem 221 2).toInt) (fv1 : fv.toInt = (gi mem 221 41).toInt - 1) (hX : mX T n p mem) (h1 : (fi).toInt = 0 → ∀ lo, zlg lo 0 = some (.ref 221) → zlg lo 1 = some (.int fv) → zlg lo 2 = some (.int fi) → aTm aT0 mem → yR zpg tX12_operand (d + 5) (137, lo, [], mem) P) (h2 : ¬ (fi).toInt = 0 → ∀ (v2 : Int32), ((v2.toInt = 0 ∧ ¬ sIS T n 91 p) ∨ (v2.toInt = 1 ∧ sIS T n 91 p)) → (v2).toInt = 0 → ∀ lo, zlg lo 0 = some (.ref 221) → zlg lo 1 = some (.int fv) → zlg lo 2 = some (.int fi) → aTm aT0 mem → yR zpg tX12_operand (d + 5) (137, lo, [], mem) P) (s1 : ¬ (fi).toInt = 0 → ∀ (v2 : Int32), ((v2.toInt = 0 ∧ ¬ sIS T n 91 p) ∨ (v2.toInt = 1 ∧ sIS T n 91 p)) → ¬ (v2).toInt = 0 → tOK mem) (h3 : ¬ (fi).toInt = 0 → ∀ (v2 : Int32), ((v2.toInt = 0 ∧ ¬ sIS T n 91 p) ∨ (v2.toInt = 1 ∧ sIS T n 91 p)) → ¬ (v2).toInt = 0 → ∀ (m5 : zM), aTm aT0 m5 → (opQ 5 mem m5 ∧ (¬ (gi m5 221 8).toInt = 0 ∨ (gi m5 221 41).toInt = (gi mem 221 41).toInt + 1) ∧ opR T n (tkf T n p).2 mem m5) → aTm aT0 m5 → P (some (.int 0)) m5) : yR zpg tX12_operand (d + 5) (117, lo, [], mem) P := by
  obtain ⟨i0, i1⟩ := mO_r34 hm
  have th := gR_228 hm (i := (gi mem 221 34).toInt) i0 (by omega)
  refine wR_li rfl l_2 ?_
  refine wR_if_eq rfl (a := (fi).toInt) rfl (fun q1 => ?_) (fun q1 => ?_)
  ·
    exact h1 q1 lo l_0 l_1 l_2 hm
  ·
    refine wR_la rfl l_0 ?_
    refine yR_m 1 (fun _ _ _ _ => rfl) ?_
    refine wR_cv rfl rfl mO_e hm rfl (h_sgX (T := T) (n := n) (p := p) hm hX (by omega)) ?_
    rintro _ _ ⟨v2, rfl, rfl, k3⟩
    show yR zpg tX12_operand (d + 5) (127, lo, [.int v2], mem) _
    refine wR_if_eq rfl (a := (v2).toInt) rfl (fun q4 => ?_) (fun q4 => ?_)
    ·
      exact h2 q1 v2 k3 q4 lo l_0 l_1 l_2 hm
    ·
      refine wR_la rfl l_0 ?_
      refine yR_m 1 (fun _ _ _ _ => rfl) ?_
      refine wR_cv rfl rfl mO_e hm rfl (h_opens5 (T := T) (n := n) hm (s1 q1 v2 k3 q4) (by omega) rfl rfl (by omega) (by omega) hX.1) ?_
      rintro _ m5 ⟨rfl, hI5, k6⟩
      show yR zpg tX12_operand (d + 5) (135, lo, [], m5) _
      refine yR_m 1 (fun _ _ _ _ => rfl) ?_
      exact yR_rz rfl ⟨by decide, by decide⟩ (h3 q1 v2 k3 q4 m5 hI5 k6 hI5)

theorem oF_117 {c : Prop} {fv fi : Int32} {lo : List (Nat × Value)} (hm : aTm aT0 mem) (h : PI mr mem fm l 0) (hb : ∀ f, l.head? = some f → f.2.2.2.1 = 0) (hX : mX T n p mem) (hru : (gi mem 221 35).toInt = ru) (hc : (fi.toInt = 0 ∧ ¬ c) ∨ (fi.toInt = 1 ∧ c)) (fv1 : fv.toInt = (gi mem 221 41).toInt - 1) (hK0 : mC mem = K0) (a0 : zlg lo 0 = some (.ref 221)) (a1 : zlg lo 1 = some (.int fv)) (a2 : zlg lo 2 = some (.int fi)) : yR zpg tX12_operand (d + 5) (117, lo, [], mem) (odG T n mr fm K0 (oA T n ru (opn (abL l)) c (abL l) p)) := by
  have pp := PI_pp hm h
  have hT := h.1.2.1
  obtain ⟨p1, p2, p3, p4, p6, p8, p9⟩ := pp
  have nS : ∀ {k : Int}, sIS T n k p → ¬ (gi mem 221 3).toInt = 0 := fun w z => by
    have a := (mX_0 hX).1 z
    have b := w.1
    omega
  exact w_oF_117 (T := T) (n := n) (p := p) hm a0 a1 a2 p1 p2 p3 p4 p6 fv1 hX
        (fun q1 lo a0 a1 a2 hm => by
          rw [show oA T n ru (opn (abL l)) c (abL l) p = oB T n ru (opn (abL l)) c (abL l) p from pif_f (fun w => absurd w.1 (dj_0 hc (by omega)))]
          exact oF_137 hm h hb hX hru hc fv1 hK0 a0 a1 a2)
        (fun q1 v2 k3 q4 lo a0 a1 a2 hm => by
          rw [show oA T n ru (opn (abL l)) c (abL l) p = oB T n ru (opn (abL l)) c (abL l) p from pif_f (fun w => (dj_0 k3 (by omega)) w.2)]
          exact oF_137 hm h hb hX hru hc fv1 hK0 a0 a1 a2)
        (fun q1 v2 k3 q4 => hT)
        (fun q1 v2 k3 q4 m5 hI5 k6 hm2 => oG_o hK0 hm h hb k6.1 k6.2.2 (by decide) (nS (dj_1 k3 (by omega))) (pif_t ⟨dj_1 hc (by omega), (dj_1 k3 (by omega))⟩))
set_option maxRecDepth 100000 in
theorem w_oF_110 {d : Nat} {mem : zM} {P : Option Value → zM → Prop} {T : List Int32} {n p : Int} {fv fi : Int32} {lo : List (Nat × Value)} (hm : aTm aT0 mem) (l_0 : zlg lo 0 = some (.ref 221)) (l_1 : zlg lo 1 = some (.int fv)) (l_2 : zlg lo 2 = some (.int fi)) (p1 : 1 ≤ (gi mem 221 41).toInt ∧ (gi mem 221 41).toInt ≤ 8) (p2 : 0 ≤ (gi mem 221 44).toInt ∧ (gi mem 221 44).toInt ≤ 60) (p3 : 0 ≤ (gi mem 221 33).toInt ∧ (gi mem 221 33).toInt ≤ 1599) (p4 : 0 ≤ (gi mem 221 42).toInt ∧ (gi mem 221 42).toInt ≤ 7) (p6 : (gi mem 221 5).toInt ≤ (gi mem 221 2).toInt) (fv1 : fv.toInt = (gi mem 221 41).toInt - 1) (hX : mX T n p mem) (h1 : ∀ lo, zlg lo 0 = some (.ref 221) → zlg lo 1 = some (.int fv) → zlg lo 2 = some (.int fi) → aTm aT0 (sx mem 244 fv 0) → yR zpg tX12_operand (d + 5) (117, lo, [], (sx mem 244 fv 0)) P) : yR zpg tX12_operand (d + 5) (110, lo, [], mem) P := by
  obtain ⟨i0, i1⟩ := mO_r34 hm
  have th := gR_228 hm (i := (gi mem 221 34).toInt) i0 (by omega)
  refine wR_la rfl l_0 ?_
  refine wR_gr rfl mO_e mO_38 hm ?_
  refine wR_li rfl l_1 ?_
  refine yR_m 1 (fun _ _ _ _ => rfl) ?_
  refine wN_zs (a := (fv).toInt) rfl aR_244 hm rfl (by omega) (by decide) ?_
  have hm_1 : aTm aT0 (sx mem 244 fv 0) := tm_sa aR_244 hm (by decide)
  exact h1 lo l_0 l_1 l_2 hm_1

theorem oF_110 {c : Prop} {fv fi : Int32} {lo : List (Nat × Value)} (hm : aTm aT0 mem) (h : PI mr mem fm l 0) (hX : mX T n p mem) (hru : (gi mem 221 35).toInt = ru) (hc : (fi.toInt = 0 ∧ ¬ c) ∨ (fi.toInt = 1 ∧ c)) (fv1 : fv.toInt = (gi mem 221 41).toInt - 1) (hK0 : mC mem = K0) (a0 : zlg lo 0 = some (.ref 221)) (a1 : zlg lo 1 = some (.int fv)) (a2 : zlg lo 2 = some (.int fi)) : yR zpg tX12_operand (d + 5) (110, lo, [], mem) (odG T n mr fm K0 (oA T n ru (opn (abL l)) c (bgA (abL l)) p)) := by
  have pp := PI_pp hm h
  have hT := h.1.2.1
  obtain ⟨p1, p2, p3, p4, p6, p8, p9⟩ := pp
  exact w_oF_110 (T := T) (n := n) (p := p) hm a0 a1 a2 p1 p2 p3 p4 p6 fv1 hX
        (fun  lo a0 a1 a2 hm2 => by
          obtain ⟨l', h', e', hb'⟩ := PI_bgF (x := fv) hm h (fr_sa rfl (fr_rf)) (ga_sa_eq) fv1
          rw [← opn_bg, ← e']
          exact oF_117 hm2 h' hb' (mX_fm (ks := [244]) (is := []) (fr_sa rfl (fr_rf)) rfl rfl rfl rfl rfl rfl rfl hX) (by rw [gi_sa]; exact hru) hc (by rw [gi_sa]; exact fv1) ((mC_fm (ks := [244]) (is := []) (fr_sa rfl (fr_rf)) rfl rfl).trans hK0) a0 a1 a2)
set_option maxRecDepth 100000 in
theorem w_oF_47 {d : Nat} {mem : zM} {P : Option Value → zM → Prop} {T : List Int32} {n p : Int} {fv fi : Int32} {lo : List (Nat × Value)} (hm : aTm aT0 mem) (l_0 : zlg lo 0 = some (.ref 221)) (l_1 : zlg lo 1 = some (.int fv)) (l_2 : zlg lo 2 = some (.int fi)) (p1 : 1 ≤ (gi mem 221 41).toInt ∧ (gi mem 221 41).toInt ≤ 8) (p2 : 0 ≤ (gi mem 221 44).toInt ∧ (gi mem 221 44).toInt ≤ 60) (p3 : 0 ≤ (gi mem 221 33).toInt ∧ (gi mem 221 33).toInt ≤ 1599) (p4 : 0 ≤ (gi mem 221 42).toInt ∧ (gi mem 221 42).toInt ≤ 7) (p6 : (gi mem 221 5).toInt ≤ (gi mem 221 2).toInt) (hX : mX T n p mem) (h1 : (fi).toInt = 0 → ∀ lo, zlg lo 0 = some (.ref 221) → zlg lo 1 = some (.int fv) → zlg lo 2 = some (.int fi) → aTm aT0 mem → yR zpg tX12_operand (d + 5) (110, lo, [], mem) P) (h2 : ¬ (fi).toInt = 0 → ∀ (v2 : Int32), ((v2.toInt = 0 ∧ ¬ sIO T n 22 p) ∨ (v2.toInt = 1 ∧ sIO T n 22 p)) → (v2).toInt = 0 → ∀ lo, zlg lo 0 = some (.ref 221) → zlg lo 1 = some (.int fv) → zlg lo 2 = some (.int fi) → aTm aT0 mem → yR zpg tX12_operand (d + 5) (110, lo, [], mem) P) (h3 : ¬ (fi).toInt = 0 → ∀ (v2 : Int32), ((v2.toInt = 0 ∧ ¬ sIO T n 22 p) ∨ (v2.toInt = 1 ∧ sIO T n 22 p)) → ¬ (v2).toInt = 0 → ¬ (gi mem 221 42).toInt = 7 → (gi mem 221 8).toInt ≤ 0 → ∀ (x7 : Int32), x7.toInt = ((gi mem 221 42).toInt + 1) → ∀ (x9 : Int32), x9.toInt = ((gi mem 221 44).toInt + 1) → ∀ (m11 : zM), aTm aT0 m11 → (ahQ (si (sx (si mem 221 42 x7) 247 (gi mem 221 44) 43) 221 44 x9) m11 ∧ (gi m11 221 41).toInt = (gi mem 221 41).toInt ∧ (gi m11 221 42).toInt = x7.toInt ∧ (gi m11 221 44).toInt = x9.toInt ∧ (gi m11 221 33).toInt = (gi mem 221 33).toInt ∧ (gi m11 221 8).toInt = (gi mem 221 8).toInt ∧ (gi mem 221 5).toInt ≤ (gi m11 221 4).toInt ∧ (gi m11 221 4).toInt ≤ (gi m11 221 5).toInt ∧ (gi m11 221 5).toInt ≤ (gi m11 221 2).toInt ∧ mRd T n (tkf T n p).2 m11) → aTm aT0 m11 → P (some (.int 0)) m11) (h4 : ¬ (fi).toInt = 0 → ∀ (v2 : Int32), ((v2.toInt = 0 ∧ ¬ sIO T n 22 p) ∨ (v2.toInt = 1 ∧ sIO T n 22 p)) → ¬ (v2).toInt = 0 → ¬ (gi mem 221 42).toInt = 7 → 0 < (gi mem 221 8).toInt → aTm aT0 mem → P (some (.int 1)) mem) (h5 : ¬ (fi).toInt = 0 → ∀ (v2 : Int32), ((v2.toInt = 0 ∧ ¬ sIO T n 22 p) ∨ (v2.toInt = 1 ∧ sIO T n 22 p)) → ¬ (v2).toInt = 0 → (gi mem 221 42).toInt = 7 → (gi mem 221 8).toInt ≤ 0 → aTm aT0 (si (si mem 221 8 5) 221 9 (gi mem 221 4)) → P (some (.int 1)) (si (si mem 221 8 5) 221 9 (gi mem 221 4))) (h6 : ¬ (fi).toInt = 0 → ∀ (v2 : Int32), ((v2.toInt = 0 ∧ ¬ sIO T n 22 p) ∨ (v2.toInt = 1 ∧ sIO T n 22 p)) → ¬ (v2).toInt = 0 → (gi mem 221 42).toInt = 7 → 0 < (gi mem 221 8).toInt → aTm aT0 mem → P (some (.int 1)) mem) : yR zpg tX12_operand (d + 5) (47, lo, [], mem) P := by
  obtain ⟨i0, i1⟩ := mO_r34 hm
  have th := gR_228 hm (i := (gi mem 221 34).toInt) i0 (by omega)
  refine wR_li rfl l_2 ?_
  refine wR_if_eq rfl (a := (fi).toInt) rfl (fun q1 => ?_) (fun q1 => ?_)
  ·
    exact h1 q1 lo l_0 l_1 l_2 hm
  ·
    refine wR_la rfl l_0 ?_
    refine yR_m 1 (fun _ _ _ _ => rfl) ?_
    refine wR_cv rfl rfl mO_e hm rfl (h_woX (T := T) (n := n) (p := p) (k := 22) (by decide) (by decide) hm hX (by omega)) ?_
    rintro _ _ ⟨v2, rfl, rfl, k3⟩
    show yR zpg tX12_operand (d + 5) (58, lo, [.int v2], mem) _
    refine wR_if_eq rfl (a := (v2).toInt) rfl (fun q4 => ?_) (fun q4 => ?_)
    ·
      exact h2 q1 v2 k3 q4 lo l_0 l_1 l_2 hm
    ·
      refine wR_la rfl l_0 ?_
      refine wR_gi rfl mO_e mO_42 hm rfl ?_
      refine yR_m 1 (fun _ _ _ _ => rfl) ?_
      refine wR_ic_ne rfl (a := (gi mem 221 42).toInt) (c := 7) rfl rfl (fun q5 => ?_) (fun q5 => ?_)
      ·
        refine wR_la rfl l_0 ?_
        refine wR_gi rfl mO_e mO_8 hm rfl ?_
        refine wR_if_le rfl (a := (gi mem 221 8).toInt) rfl (fun q6 => ?_) (fun q6 => ?_)
        ·
          refine wR_la rfl l_0 ?_
          refine yR_m 1 (fun _ _ _ _ => rfl) ?_
          refine wR_gi rfl mO_e mO_42 hm rfl ?_
          refine yR_m 1 (fun _ _ _ _ => rfl) ?_
          refine wN_add (a := (gi mem 221 42).toInt) (b := 1) rfl rfl rfl (by omega) (fun x7 e8 => ?_)
          refine wR_pi rfl mO_e mO_42 hm rfl ?_
          have hm_1 : aTm aT0 (si mem 221 42 x7) := tm_si mO_e mO_42 hm (i32_b _)
          refine wR_la rfl l_0 ?_
          refine yR_m 1 (fun _ _ _ _ => rfl) ?_
          refine wR_iv rfl rfl mO_e hm_1 rfl rfl rfl rfl ?_
          show yR zpg tX12_holdsBack (d + 4) (0, [(0, .ref 221), (1, .int 43)], [], (si mem 221 42 x7)) _
          refine yR_m 1 (fun _ _ _ _ => rfl) ?_
          refine wR_gr rfl mO_e mO_43 hm_1 ?_
          refine yR_m 1 (fun _ _ _ _ => rfl) ?_
          refine wR_gi rfl mO_e mO_44 hm_1 (gi_sv_ne (by decide)) ?_
          refine yR_m 1 (fun _ _ _ _ => rfl) ?_
          refine wN_as (a := (gi mem 221 44).toInt) rfl aR_247 hm_1 rfl (by omega) ?_
          have hm_2 : aTm aT0 (sx (si mem 221 42 x7) 247 (gi mem 221 44) 43) := tm_sa aR_247 hm_1 (i32_b _)
          refine yR_m 2 (fun _ _ _ _ => rfl) ?_
          refine wR_gi rfl mO_e mO_44 hm_2 ((gi_sa).trans (gi_sv_ne (by decide))) ?_
          refine yR_m 1 (fun _ _ _ _ => rfl) ?_
          refine wN_add (a := (gi mem 221 44).toInt) (b := 1) rfl rfl rfl (by omega) (fun x9 e10 => ?_)
          refine wR_pi rfl mO_e mO_44 hm_2 rfl ?_
          have hm_3 : aTm aT0 (si (sx (si mem 221 42 x7) 247 (gi mem 221 44) 43) 221 44 x9) := tm_si mO_e mO_44 hm_2 (i32_b _)
          refine yR_rv rfl ?_
          show yR zpg tX12_operand (d + 5) (104, lo, [], (si (sx (si mem 221 42 x7) 247 (gi mem 221 44) 43) 221 44 x9)) _
          refine wR_la rfl l_0 ?_
          refine wR_cv rfl rfl mO_e hm_3 rfl (h_ahead5 (T := T) (n := n) (mR_fm (ks := [238, 239, 242, 243, 244, 245, 246, 247]) (is := [8, 9, 33, 41, 42, 44, 45]) (fr_sv rfl (fr_sa rfl (fr_sv rfl (fr_rf)))) rfl rfl rfl rfl rfl rfl rfl hX.1) (by omega) hm_3 ((gi_sv_ne (by decide)).trans ((gi_sa).trans (gi_sv_ne (by decide)))) ((gi_sv_ne (by decide)).trans ((gi_sa).trans (gi_sv_ne (by decide)))) (by omega) ((gi_sv_ne (by decide)).trans ((gi_sa).trans (gi_sv_ne (by decide)))) ((gi_sv_ne (by decide)).trans ((gi_sa).trans (gi_si_eq mO_e mO_42 hm))) (gi_si_eq mO_e mO_44 hm_2) ((gi_sv_ne (by decide)).trans ((gi_sa).trans (gi_sv_ne (by decide)))) ((gi_sv_ne (by decide)).trans ((gi_sa).trans (gi_sv_ne (by decide))))) ?_
          rintro _ m11 ⟨rfl, hI11, k12⟩
          show yR zpg tX12_operand (d + 5) (108, lo, [], m11) _
          refine yR_m 1 (fun _ _ _ _ => rfl) ?_
          exact yR_rz rfl ⟨by decide, by decide⟩ (h3 q1 v2 k3 q4 q5 q6 x7 e8 x9 e10 m11 hI11 k12 hI11)
        ·
          refine yR_m 1 (fun _ _ _ _ => rfl) ?_
          exact yR_rz rfl ⟨by decide, by decide⟩ (h4 q1 v2 k3 q4 q5 q6 hm)
      ·
        refine wR_la rfl l_0 ?_
        refine yR_m 1 (fun _ _ _ _ => rfl) ?_
        refine wR_la rfl l_0 ?_
        refine wR_gi rfl mO_e mO_4 hm rfl ?_
        refine wR_iv rfl rfl mO_e hm rfl rfl rfl rfl ?_
        show yR zpg tX12_blame (d + 4) (0, [(0, .ref 221), (1, .int 5), (2, .int (gi mem 221 4))], [], mem) _
        refine yR_m 1 (fun _ _ _ _ => rfl) ?_
        refine wR_gi rfl mO_e mO_8 hm rfl ?_
        refine wR_if_le rfl (a := (gi mem 221 8).toInt) rfl (fun q13 => ?_) (fun q13 => ?_)
        ·
          refine yR_m 2 (fun _ _ _ _ => rfl) ?_
          refine wR_pi rfl mO_e mO_8 hm rfl ?_
          have hm_4 : aTm aT0 (si mem 221 8 5) := tm_si mO_e mO_8 hm (i32_b _)
          refine yR_m 2 (fun _ _ _ _ => rfl) ?_
          refine wR_pi rfl mO_e mO_9 hm_4 rfl ?_
          have hm_5 : aTm aT0 (si (si mem 221 8 5) 221 9 (gi mem 221 4)) := tm_si mO_e mO_9 hm_4 (i32_b _)
          refine yR_rv rfl ?_
          show yR zpg tX12_operand (d + 5) (79, lo, [], (si (si mem 221 8 5) 221 9 (gi mem 221 4))) _
          refine wR_la rfl l_0 ?_
          refine wR_gi rfl mO_e mO_8 hm_5 ((gi_sv_ne (by decide)).trans (gi_si_eq mO_e mO_8 hm)) ?_
          refine wR_if_le rfl (a := 5) rfl (fun q => by exfalso; omega) (fun _ => ?_)
          refine yR_m 1 (fun _ _ _ _ => rfl) ?_
          exact yR_rz rfl ⟨by decide, by decide⟩ (h5 q1 v2 k3 q4 q5 q13 hm_5)
        ·
          refine yR_rv rfl ?_
          show yR zpg tX12_operand (d + 5) (79, lo, [], mem) _
          refine wR_la rfl l_0 ?_
          refine wR_gi rfl mO_e mO_8 hm rfl ?_
          refine wR_if_le rfl (a := (gi mem 221 8).toInt) rfl (fun q => by exfalso; omega) (fun _ => ?_)
          refine yR_m 1 (fun _ _ _ _ => rfl) ?_
          exact yR_rz rfl ⟨by decide, by decide⟩ (h6 q1 v2 k3 q4 q5 q13 hm)

theorem oF_47 {c : Prop} {fv fi : Int32} {lo : List (Nat × Value)} (hm : aTm aT0 mem) (h : PI mr mem fm l 0) (hX : mX T n p mem) (hru : (gi mem 221 35).toInt = ru) (hc : (fi.toInt = 0 ∧ ¬ c) ∨ (fi.toInt = 1 ∧ c)) (fv1 : fv.toInt = (gi mem 221 41).toInt - 1) (hf : fi.toInt = 0 ∨ ¬ gn (ga mem 244) ((gi mem 221 41).toInt - 1) = 0) (hK0 : mC mem = K0) (a0 : zlg lo 0 = some (.ref 221)) (a1 : zlg lo 1 = some (.int fv)) (a2 : zlg lo 2 = some (.int fi)) : yR zpg tX12_operand (d + 5) (47, lo, [], mem) (odG T n mr fm K0 (oN T n ru (opn (abL l)) c (abL l) p)) := by
  have pp := PI_pp hm h
  have hT := h.1.2.1
  have O := opn_42 h
  obtain ⟨p1, p2, p3, p4, p6, p8, p9⟩ := pp
  have nO : ∀ {k : Int}, sIO T n k p → ¬ (gi mem 221 3).toInt = 0 := fun w z => by
    have a := (mX_0 hX).1 z
    have b := w.1
    omega
  exact w_oF_47 (T := T) (n := n) (p := p) hm a0 a1 a2 p1 p2 p3 p4 p6 hX
        (fun q1 lo a0 a1 a2 hm => by
          rw [show oN T n ru (opn (abL l)) c (abL l) p = oA T n ru (opn (abL l)) c (bgA (abL l)) p from pif_f (fun w => absurd w.1 (dj_0 hc (by omega)))]
          exact oF_110 hm h hX hru hc fv1 hK0 a0 a1 a2)
        (fun q1 v2 k3 q4 lo a0 a1 a2 hm => by
          rw [show oN T n ru (opn (abL l)) c (abL l) p = oA T n ru (opn (abL l)) c (bgA (abL l)) p from pif_f (fun w => (dj_0 k3 (by omega)) w.2)]
          exact oF_110 hm h hX hru hc fv1 hK0 a0 a1 a2)
        (fun q1 v2 k3 q4 q5 q6 x7 e8 x9 e10 m11 hI11 k12 hm2 => oG_ok (PI_notF (x := (gi mem 221 44)) hm h (fr_sv rfl (fr_sa rfl (fr_sv rfl (fr_rf)))) k12.1 ((gi_sv_ne (by decide)).trans ((gi_sa).trans (gi_eqO (isO_of hm) (by decide)))) (gi_eqO (isO_sa (by decide) (isO_sv (isO_of hm))) (by decide)) (by omega) (by omega) (((ga_sv).trans (ga_sa_eq.trans (congrArg (fun l => List.set l (gi mem 221 44).toNatClampNeg 43) (ga_sv))))) (by omega) (by omega) (nO (dj_1 k3 (by omega))) (by omega)) ((pif_t ⟨dj_1 hc (by omega), (dj_1 k3 (by omega))⟩).trans (oif_t (by omega))) k12.2.2.2.2.2.2.2.2.2 (ap_0 ((mC_fQ (ks := [247]) (is := [42, 44]) (fr_sv rfl (fr_sa rfl (fr_sv rfl (fr_rf)))) rfl rfl k12.1).trans hK0)))
        (fun q1 v2 k3 q4 q5 q6 hm2 => by exfalso; omega)
        (fun q1 v2 k3 q4 q5 q13 hm2 => oG_no (by show 1 ≤ (gi _ 221 8).toInt; rw [((gi_sv_ne (by decide)).trans (gi_eqO (isO_of hm) (by decide)))]; decide) ((pif_t ⟨dj_1 hc (by omega), (dj_1 k3 (by omega))⟩).trans (oif_f (by omega))))
        (fun q1 v2 k3 q4 q5 q13 hm2 => by exfalso; omega)
theorem oF_0 {lo : List (Nat × Value)} (hm : aTm aT0 mem) (h : PI mr mem fm l 0) (hR : mRd T n p mem) (hru : (gi mem 221 35).toInt = ru) (hK0 : mC mem = K0) (a0 : zlg lo 0 = some (.ref 221)) : yR zpg tX12_operand (d + 5) (0, lo, [], mem) (odG T n mr fm K0 (sOpd T n ru (abL l) p)) := by
  have pp := PI_pp hm h
  have hT := h.1.2.1
  obtain ⟨p1, p2, p3, p4, p6, p8, p9⟩ := pp
  have hR := mRd_t hR
  cases l with
  | nil => exact h.2.1.2.2.elim
  | cons f r =>
    have f1 : gn (ga mem 242) ((gi mem 221 41).toInt - 1) = f.1 := h.2.1.1.1.1
    have f4 : gn (ga mem 244) ((gi mem 221 41).toInt - 1) = f.2.2.2.1 := h.2.1.1.1.2.2.2.1
    exact w_od_0 hm a0 p1 p2 p3 p4 p6
        (fun q1 q2 x3 e4 y8 e9 v10 k11 q12 lo a0 a1 a2 hm => by
          show yR _ _ _ _ (odG T n mr fm K0 (oN T n ru (opn (abL (f :: r))) (sIT f.1 ∧ ¬ f.2.2.2.1 = 0) (abL (f :: r)) p))
          exact oF_47 hm h ⟨hR, by omega⟩ hru (Or.inl ⟨rfl, fun w => by have w1 := w.1; unfold sIT at w1; have w2 := w.2; omega⟩) (by omega) (by first | exact Or.inl rfl | exact Or.inr (by omega)) hK0 a0 a1 a2)
        (fun q1 q2 x3 e4 y8 e9 v10 k11 q12 y16 e17 q18 lo a0 a1 a2 hm => by
          show yR _ _ _ _ (odG T n mr fm K0 (oN T n ru (opn (abL (f :: r))) (sIT f.1 ∧ ¬ f.2.2.2.1 = 0) (abL (f :: r)) p))
          exact oF_47 hm h ⟨hR, by omega⟩ hru (Or.inl ⟨rfl, fun w => by have w1 := w.1; unfold sIT at w1; have w2 := w.2; omega⟩) (by omega) (by first | exact Or.inl rfl | exact Or.inr (by omega)) hK0 a0 a1 a2)
        (fun q1 q2 x3 e4 y8 e9 v10 k11 q12 y16 e17 q18 lo a0 a1 a2 hm => by
          show yR _ _ _ _ (odG T n mr fm K0 (oN T n ru (opn (abL (f :: r))) (sIT f.1 ∧ ¬ f.2.2.2.1 = 0) (abL (f :: r)) p))
          exact oF_47 hm h ⟨hR, by omega⟩ hru (Or.inr ⟨rfl, by unfold sIT; omega, by omega⟩) (by omega) (by first | exact Or.inl rfl | exact Or.inr (by omega)) hK0 a0 a1 a2)
        (fun q1 q2 hm2 => by exfalso; omega)
        (fun q1 q25 hm2 => oG_no (by show 1 ≤ (gi _ 221 8).toInt; rw [((gi_sv_ne (by decide)).trans (gi_eqO (isO_of hm) (by decide)))]; decide) (sOpd_4 (tk_4 hR (by omega)) _))
        (fun q1 q25 hm2 => by exfalso; omega)
theorem h_opdF (hK0 : mC mem = K0) (hm : aTm aT0 mem) (h : PI mr mem fm l 0) (hR : mRd T n p mem) (hru : (gi mem 221 35).toInt = ru) (hd : 6 ≤ d) : yC zpg d 188 [.ref 221] mem (odG T n mr fm K0 (sOpd T n ru (abL l) p)) := by
  obtain ⟨d, rfl⟩ : ∃ q, d = q + 6 := ⟨d - 6, by omega⟩
  refine yC_of (t := tX12_operand) rfl rfl ?_
  exact oF_0 hm h hR hru hK0 rfl
end OH
