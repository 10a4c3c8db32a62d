/-! bits of ints -/
theorem i32_sa {k : Int32} (h0 : 0 ≤ k.toInt) (h1 : k.toInt < 32) : ((k &&& 31).toBitVec.smod 32).toNat = k.toInt.toNat := by
  have e : k = Int32.ofNat k.toInt.toNat := i32_of h0
  have h := i32_sh k.toInt.toNat (by omega)
  rw [← e] at h
  exact h
theorem bt_shr {x k : Int32} (h0 : 0 ≤ k.toInt) (h1 : k.toInt < 31) : ((x >>> (k &&& 31)) &&& 1).toInt = 1 ↔ bt x k.toInt := by
  have e1 : (x >>> (k &&& 31)).toBitVec.getLsbD 0 = x.toBitVec.getLsbD k.toInt.toNat := by
    show (x.toBitVec.sshiftRight ((k &&& 31).toBitVec.smod 32).toNat).getLsbD 0 = _
    rw [i32_sa h0 (by omega), BitVec.getLsbD_sshiftRight]
    have hK : k.toInt.toNat < 31 := by omega
    generalize k.toInt.toNat = K at hK ⊢
    simp
    omega
  have e2 : ((x >>> (k &&& 31)) &&& 1).toBitVec.toNat = (x >>> (k &&& 31)).toBitVec.toNat % 2 := by
    rw [Int32.toBitVec_and, BitVec.toNat_and]
    exact Nat.and_one_is_mod _
  have e3 : ((x >>> (k &&& 31)) &&& 1).toInt = (((x >>> (k &&& 31)).toBitVec.toNat % 2 : Nat) : Int) := by
    rw [i32_tn (by rw [e2]; omega), e2]
  have e4 : (x >>> (k &&& 31)).toBitVec.getLsbD 0 = decide ((x >>> (k &&& 31)).toBitVec.toNat % 2 = 1) := by
    show Nat.testBit _ 0 = _
    exact Nat.testBit_zero _
  unfold bt
  rw [← e1, e4, e3]
  constructor
  · intro h
    exact decide_eq_true (by omega)
  · intro h
    have := of_decide_eq_true h
    omega
theorem bt_or {y k : Int32} {i : Int} (h0 : 0 ≤ k.toInt) (h1 : k.toInt < 31) (i0 : 0 ≤ i) (i1 : i < 31) : bt (y ||| (1 <<< (k &&& 31))) i ↔ (bt y i ∨ i = k.toInt) := by
  unfold bt
  have e : ((1 : Int32) <<< (k &&& 31)).toBitVec.getLsbD i.toNat = decide (i.toNat = k.toInt.toNat) := by
    show ((1#32 : BitVec 32) <<< ((k &&& 31).toBitVec.smod 32).toNat).getLsbD i.toNat = _
    rw [i32_sa h0 (by omega), BitVec.getLsbD_shiftLeft]
    have hK : k.toInt.toNat < 31 := by omega
    have hI : i.toNat < 31 := by omega
    generalize k.toInt.toNat = K at hK ⊢
    generalize i.toNat = I at hI ⊢
    rw [BitVec.getLsbD_one]
    by_cases w : I = K
    · subst w
      simp
      omega
    · rw [decide_eq_false w]
      simp
      omega
  rw [Int32.toBitVec_or, BitVec.getLsbD_or, e, Bool.or_eq_true, decide_eq_true_eq]
  constructor
  · rintro (w | w)
    · exact Or.inl w
    · exact Or.inr (by omega)
  · rintro (w | w)
    · exact Or.inl w
    · exact Or.inr (by omega)
/-! what the folk have, told in the model, by what it means -/
section MV
variable {d : Nat} {mr mem m : zM} {T : List Int32} {n p e : Int} {t : Tk} {s : Option Int} {b : Int} {Q : Qd}
theorem tn_ix {w : Int64} {v : Int} {nm : List Int} (ht : mQt (gi mem 221 34).toInt (Qt Q) mem) (hw : w.toInt = wnl nm) (hl : ∀ c ∈ nm, ltr c) (h : tnQ mem w v) : (v = -1 ∧ tIx Q nm = none) ∨ (∃ i : Nat, v = (i : Int) ∧ i < (Qt Q).length ∧ tIx Q nm = some i) := by
  have key : ∀ (i : Nat) (hi : i < (Qt Q).length), gl (gA mem 240) (9 * (gi mem 221 34).toInt + (i : Int)) = w ↔ ((Qt Q)[i]).1 = nm := fun i hi => by
    have k := ht.2 i _ (List.getElem?_eq_getElem hi)
    constructor
    · intro e
      rw [e, hw] at k
      exact (wnl_inj _ _ _ rfl hl k.2.1 k.1).symm
    · intro e
      exact Int64.toInt_inj.1 (by rw [k.1, e, hw])
  rcases h with ⟨h1, h2⟩ | ⟨⟨h1, h2⟩, h3, h4⟩
  · refine Or.inl ⟨h1, ?_⟩
    unfold tIx
    rw [List.findIdx?_eq_none_iff]
    intro x hx
    obtain ⟨i, hi, ei⟩ := List.mem_iff_getElem.1 hx
    have z := h2 (i : Int) (by omega) (by rw [ht.1]; omega)
    rw [key i hi, ei] at z
    simpa using z
  · rw [ht.1] at h2
    have hi : v.toNat < (Qt Q).length := by omega
    have ev : ((v.toNat : Nat) : Int) = v := by omega
    refine Or.inr ⟨v.toNat, ev.symm, hi, ?_⟩
    unfold tIx
    rw [List.findIdx?_eq_some_iff_getElem]
    refine ⟨hi, ?_, fun j hj => ?_⟩
    · have z := (key v.toNat hi).1 (by rw [ev]; exact h3)
      simpa using z
    · have z := h4 (j : Int) (by omega) (by omega)
      rw [key j (by omega)] at z
      simpa using z
theorem mQ_addH {x v : Int32} {i : Nat} {y : Int32} (hm : aTm aT0 m) (hb : 0 ≤ b ∧ b ≤ 1) (hx : x.toInt = b) (hi : i < 9) (hv : v.toInt = (i : Int)) (hy : y = (ga m 232).getD b.toNat 0) (h : mQ b Q m) : mQ b (Qc Q, Qr Q, Qw Q, Qt Q, (i : Int) :: Qh Q, Qf Q, Qu Q, Qx Q) (sx m 232 x (y ||| (1 <<< (v &&& 31)))) := by
  have gll := gl_232 hm
  have A : ∀ q, ¬ 232 = q → ga (sx m 232 x (y ||| (1 <<< (v &&& 31)))) q = ga m q := fun q hq => ga_sa_ne hq
  have B : ∀ q, gA (sx m 232 x (y ||| (1 <<< (v &&& 31)))) q = gA m q := fun q => gA_sa
  obtain ⟨k1, k2, k3, k4, k5, k6, k7⟩ := h
  refine ⟨by rw [A _ (by decide), A _ (by decide)]; exact k1, by unfold mQw; rw [A _ (by decide)]; exact k2, by unfold mQt; rw [A _ (by decide), A _ (by decide), B]; exact k3, fun j j0 j1 => ?_, by unfold mQf; rw [A _ (by decide), A _ (by decide), A _ (by decide), B]; exact k5, by unfold mQu; rw [A _ (by decide)]; exact k6, mQx_eq (fun k hk => A k (fun e => by subst e; exact absurd hk (by decide))) k7⟩
  have ex : x.toNatClampNeg = b.toNat := by
    have := zclamp (x := x) (by omega)
    omega
  have e : (ga (sx m 232 x (y ||| (1 <<< (v &&& 31)))) 232).getD b.toNat 0 = y ||| (1 <<< (v &&& 31)) := by
    rw [show ga (sx m 232 x (y ||| (1 <<< (v &&& 31)))) 232 = (ga m 232).set x.toNatClampNeg (y ||| (1 <<< (v &&& 31))) from ga_sa_eq, ex, List.getD_eq_getElem?_getD, List.getElem?_set_self (by omega)]
    rfl
  show bt _ j ↔ j ∈ (i : Int) :: Qh Q
  rw [e, bt_or (by omega) (by omega) j0 (by omega), List.mem_cons, hy, k4 j j0 j1, hv]
  exact ⟨fun w => w.symm, fun w => w.symm⟩
theorem h_aheadM6 (hm : aTm aT0 mem) (h : mR T n p t e mem) (hd : 2 ≤ d) : yC zpg d 173 [.ref 221] mem (fun r m => r = none ∧ aTm aT0 m ∧ (ahQ mem m ∧ (mRd T n e m ∧ 0 ≤ (gi m 221 34).toInt ∧ (gi m 221 34).toInt ≤ 1))) := yC_mono (fun r m q => ⟨q.1, q.2.1, q.2.2.1, q.2.2.2, mO_r34 q.2.1⟩) (h_aheadM hm h hd)
set_option maxRecDepth 100000 in
theorem w_havingF {d : Nat} {mem : zM} {P : Option Value → zM → Prop} {T : List Int32} {n b p e : Int} {t : Tk} {s : Option Int} {Q : Qd} (hm : aTm aT0 mem) (hT : tOK mem) (sg : ¬ (gi mem 221 3).toInt = 0) (hS : mS T n s mem) (hb : (gi mem 221 34).toInt = b) (hQ : mQ b Q mem) (hq : (3 ≤ Qc Q ∧ Qc Q ≤ 7) ∧ 3 ≤ Qr Q ∧ Qr Q ≤ 7) (h1 : ∀ (v3 : Int32) (m1 : zM), aTm aT0 m1 → ((tQ mem m1 ∧ (mS T n (s.bind (cnP T n ((0 : Int) = 0))) m1 ∧ ((v3.toInt = 0 ∧ 1 ≤ (gi m1 221 8).toInt) ∨ (¬ v3.toInt = 0 ∧ (gi m1 221 8).toInt = 0 ∧ (0 : Int) = 0)))) ∧ ((¬ (gi m1 221 8).toInt = 0 ∨ (gi mem 221 8).toInt = 0) ∧ 0 ≤ (gi m1 221 8).toInt ∧ (gi m1 221 34).toInt = (gi mem 221 34).toInt ∧ gn (ga m1 223) (gi m1 221 34).toInt = gn (ga mem 223) (gi mem 221 34).toInt ∧ gn (ga m1 224) (gi m1 221 34).toInt = gn (ga mem 224) (gi mem 221 34).toInt ∧ gn (ga m1 228) (gi m1 221 34).toInt = gn (ga mem 228) (gi mem 221 34).toInt ∧ gn (ga m1 233) (gi m1 221 34).toInt = gn (ga mem 233) (gi mem 221 34).toInt)) → ¬ (v3).toInt = 0 → (gi m1 221 12).toInt = (-1) → (gi m1 221 8).toInt ≤ 0 → ¬ (gi m1 221 3).toInt = 1 → aTm aT0 (si (si m1 221 8 1) 221 9 (gi m1 221 4)) → P none (si (si m1 221 8 1) 221 9 (gi m1 221 4))) (s1 : ∀ (v3 : Int32) (m1 : zM), aTm aT0 m1 → ((tQ mem m1 ∧ (mS T n (s.bind (cnP T n ((0 : Int) = 0))) m1 ∧ ((v3.toInt = 0 ∧ 1 ≤ (gi m1 221 8).toInt) ∨ (¬ v3.toInt = 0 ∧ (gi m1 221 8).toInt = 0 ∧ (0 : Int) = 0)))) ∧ ((¬ (gi m1 221 8).toInt = 0 ∨ (gi mem 221 8).toInt = 0) ∧ 0 ≤ (gi m1 221 8).toInt ∧ (gi m1 221 34).toInt = (gi mem 221 34).toInt ∧ gn (ga m1 223) (gi m1 221 34).toInt = gn (ga mem 223) (gi mem 221 34).toInt ∧ gn (ga m1 224) (gi m1 221 34).toInt = gn (ga mem 224) (gi mem 221 34).toInt ∧ gn (ga m1 228) (gi m1 221 34).toInt = gn (ga mem 228) (gi mem 221 34).toInt ∧ gn (ga m1 233) (gi m1 221 34).toInt = gn (ga mem 233) (gi mem 221 34).toInt)) → ¬ (v3).toInt = 0 → (gi m1 221 12).toInt = (-1) → (gi m1 221 8).toInt ≤ 0 → (gi m1 221 3).toInt = 1 → ∀ (v8 : Int32), ((v8.toInt = 0 ∧ ∀ l ∈ ownW, ¬ (gL m1 221 7).toInt = wnl l) ∨ (v8.toInt = 1 ∧ ∃ l, l ∈ ownW ∧ (gL m1 221 7).toInt = wnl l)) → (v8).toInt = 0 → ∀ (v11 : Int32), tnQ m1 (gL m1 221 7) v11.toInt → ¬ (gi m1 221 8).toInt = 0 → mR T n p t e m1) (s2 : ∀ (v3 : Int32) (m1 : zM), aTm aT0 m1 → ((tQ mem m1 ∧ (mS T n (s.bind (cnP T n ((0 : Int) = 0))) m1 ∧ ((v3.toInt = 0 ∧ 1 ≤ (gi m1 221 8).toInt) ∨ (¬ v3.toInt = 0 ∧ (gi m1 221 8).toInt = 0 ∧ (0 : Int) = 0)))) ∧ ((¬ (gi m1 221 8).toInt = 0 ∨ (gi mem 221 8).toInt = 0) ∧ 0 ≤ (gi m1 221 8).toInt ∧ (gi m1 221 34).toInt = (gi mem 221 34).toInt ∧ gn (ga m1 223) (gi m1 221 34).toInt = gn (ga mem 223) (gi mem 221 34).toInt ∧ gn (ga m1 224) (gi m1 221 34).toInt = gn (ga mem 224) (gi mem 221 34).toInt ∧ gn (ga m1 228) (gi m1 221 34).toInt = gn (ga mem 228) (gi mem 221 34).toInt ∧ gn (ga m1 233) (gi m1 221 34).toInt = gn (ga mem 233) (gi mem 221 34).toInt)) → ¬ (v3).toInt = 0 → (gi m1 221 12).toInt = (-1) → (gi m1 221 8).toInt ≤ 0 → (gi m1 221 3).toInt = 1 → ∀ (v8 : Int32), ((v8.toInt = 0 ∧ ∀ l ∈ ownW, ¬ (gL m1 221 7).toInt = wnl l) ∨ (v8.toInt = 1 ∧ ∃ l, l ∈ ownW ∧ (gL m1 221 7).toInt = wnl l)) → (v8).toInt = 0 → ∀ (v11 : Int32), tnQ m1 (gL m1 221 7) v11.toInt → ¬ (gi m1 221 8).toInt = 0 → ∀ (m14 : zM), aTm aT0 m14 → (ahQ m1 m14 ∧ (mRd T n e m14 ∧ 0 ≤ (gi m14 221 34).toInt ∧ (gi m14 221 34).toInt ≤ 1)) → ∀ (y16 : Int32), y16.toInt = (gn (ga m14 232) (gi m14 221 34).toInt) → (0 : Int) ≤ (y16 ||| (1 <<< (v11 &&& 31))).toInt ∧ (y16 ||| (1 <<< (v11 &&& 31))).toInt ≤ 511) (h2 : ∀ (v3 : Int32) (m1 : zM), aTm aT0 m1 → ((tQ mem m1 ∧ (mS T n (s.bind (cnP T n ((0 : Int) = 0))) m1 ∧ ((v3.toInt = 0 ∧ 1 ≤ (gi m1 221 8).toInt) ∨ (¬ v3.toInt = 0 ∧ (gi m1 221 8).toInt = 0 ∧ (0 : Int) = 0)))) ∧ ((¬ (gi m1 221 8).toInt = 0 ∨ (gi mem 221 8).toInt = 0) ∧ 0 ≤ (gi m1 221 8).toInt ∧ (gi m1 221 34).toInt = (gi mem 221 34).toInt ∧ gn (ga m1 223) (gi m1 221 34).toInt = gn (ga mem 223) (gi mem 221 34).toInt ∧ gn (ga m1 224) (gi m1 221 34).toInt = gn (ga mem 224) (gi mem 221 34).toInt ∧ gn (ga m1 228) (gi m1 221 34).toInt = gn (ga mem 228) (gi mem 221 34).toInt ∧ gn (ga m1 233) (gi m1 221 34).toInt = gn (ga mem 233) (gi mem 221 34).toInt)) → ¬ (v3).toInt = 0 → (gi m1 221 12).toInt = (-1) → (gi m1 221 8).toInt ≤ 0 → (gi m1 221 3).toInt = 1 → ∀ (v8 : Int32), ((v8.toInt = 0 ∧ ∀ l ∈ ownW, ¬ (gL m1 221 7).toInt = wnl l) ∨ (v8.toInt = 1 ∧ ∃ l, l ∈ ownW ∧ (gL m1 221 7).toInt = wnl l)) → (v8).toInt = 0 → ∀ (v11 : Int32), tnQ m1 (gL m1 221 7) v11.toInt → ¬ (gi m1 221 8).toInt = 0 → ∀ (m14 : zM), aTm aT0 m14 → (ahQ m1 m14 ∧ (mRd T n e m14 ∧ 0 ≤ (gi m14 221 34).toInt ∧ (gi m14 221 34).toInt ≤ 1)) → ∀ (y16 : Int32), y16.toInt = (gn (ga m14 232) (gi m14 221 34).toInt) → aTm aT0 (sx m14 232 (gi m14 221 34) (y16 ||| (1 <<< (v11 &&& 31)))) → P none (sx m14 232 (gi m14 221 34) (y16 ||| (1 <<< (v11 &&& 31))))) (h3 : ∀ (v3 : Int32) (m1 : zM), aTm aT0 m1 → ((tQ mem m1 ∧ (mS T n (s.bind (cnP T n ((0 : Int) = 0))) m1 ∧ ((v3.toInt = 0 ∧ 1 ≤ (gi m1 221 8).toInt) ∨ (¬ v3.toInt = 0 ∧ (gi m1 221 8).toInt = 0 ∧ (0 : Int) = 0)))) ∧ ((¬ (gi m1 221 8).toInt = 0 ∨ (gi mem 221 8).toInt = 0) ∧ 0 ≤ (gi m1 221 8).toInt ∧ (gi m1 221 34).toInt = (gi mem 221 34).toInt ∧ gn (ga m1 223) (gi m1 221 34).toInt = gn (ga mem 223) (gi mem 221 34).toInt ∧ gn (ga m1 224) (gi m1 221 34).toInt = gn (ga mem 224) (gi mem 221 34).toInt ∧ gn (ga m1 228) (gi m1 221 34).toInt = gn (ga mem 228) (gi mem 221 34).toInt ∧ gn (ga m1 233) (gi m1 221 34).toInt = gn (ga mem 233) (gi mem 221 34).toInt)) → ¬ (v3).toInt = 0 → (gi m1 221 12).toInt = (-1) → (gi m1 221 8).toInt ≤ 0 → (gi m1 221 3).toInt = 1 → ∀ (v8 : Int32), ((v8.toInt = 0 ∧ ∀ l ∈ ownW, ¬ (gL m1 221 7).toInt = wnl l) ∨ (v8.toInt = 1 ∧ ∃ l, l ∈ ownW ∧ (gL m1 221 7).toInt = wnl l)) → (v8).toInt = 0 → ∀ (v11 : Int32), tnQ m1 (gL m1 221 7) v11.toInt → (gi m1 221 8).toInt = 0 → (v11).toInt = (-1) → aTm aT0 (si (si m1 221 8 3) 221 9 (gi m1 221 4)) → P none (si (si m1 221 8 3) 221 9 (gi m1 221 4))) (s3 : ∀ (v3 : Int32) (m1 : zM), aTm aT0 m1 → ((tQ mem m1 ∧ (mS T n (s.bind (cnP T n ((0 : Int) = 0))) m1 ∧ ((v3.toInt = 0 ∧ 1 ≤ (gi m1 221 8).toInt) ∨ (¬ v3.toInt = 0 ∧ (gi m1 221 8).toInt = 0 ∧ (0 : Int) = 0)))) ∧ ((¬ (gi m1 221 8).toInt = 0 ∨ (gi mem 221 8).toInt = 0) ∧ 0 ≤ (gi m1 221 8).toInt ∧ (gi m1 221 34).toInt = (gi mem 221 34).toInt ∧ gn (ga m1 223) (gi m1 221 34).toInt = gn (ga mem 223) (gi mem 221 34).toInt ∧ gn (ga m1 224) (gi m1 221 34).toInt = gn (ga mem 224) (gi mem 221 34).toInt ∧ gn (ga m1 228) (gi m1 221 34).toInt = gn (ga mem 228) (gi mem 221 34).toInt ∧ gn (ga m1 233) (gi m1 221 34).toInt = gn (ga mem 233) (gi mem 221 34).toInt)) → ¬ (v3).toInt = 0 → (gi m1 221 12).toInt = (-1) → (gi m1 221 8).toInt ≤ 0 → (gi m1 221 3).toInt = 1 → ∀ (v8 : Int32), ((v8.toInt = 0 ∧ ∀ l ∈ ownW, ¬ (gL m1 221 7).toInt = wnl l) ∨ (v8.toInt = 1 ∧ ∃ l, l ∈ ownW ∧ (gL m1 221 7).toInt = wnl l)) → (v8).toInt = 0 → ∀ (v11 : Int32), tnQ m1 (gL m1 221 7) v11.toInt → (gi m1 221 8).toInt = 0 → ¬ (v11).toInt = (-1) → ∀ (y19 : Int32), y19.toInt = (gn (ga m1 232) (gi m1 221 34).toInt) → ¬ ((y19 >>> (v11 &&& 31)) &&& 1).toInt = 1 → mR T n p t e m1) (s4 : ∀ (v3 : Int32) (m1 : zM), aTm aT0 m1 → ((tQ mem m1 ∧ (mS T n (s.bind (cnP T n ((0 : Int) = 0))) m1 ∧ ((v3.toInt = 0 ∧ 1 ≤ (gi m1 221 8).toInt) ∨ (¬ v3.toInt = 0 ∧ (gi m1 221 8).toInt = 0 ∧ (0 : Int) = 0)))) ∧ ((¬ (gi m1 221 8).toInt = 0 ∨ (gi mem 221 8).toInt = 0) ∧ 0 ≤ (gi m1 221 8).toInt ∧ (gi m1 221 34).toInt = (gi mem 221 34).toInt ∧ gn (ga m1 223) (gi m1 221 34).toInt = gn (ga mem 223) (gi mem 221 34).toInt ∧ gn (ga m1 224) (gi m1 221 34).toInt = gn (ga mem 224) (gi mem 221 34).toInt ∧ gn (ga m1 228) (gi m1 221 34).toInt = gn (ga mem 228) (gi mem 221 34).toInt ∧ gn (ga m1 233) (gi m1 221 34).toInt = gn (ga mem 233) (gi mem 221 34).toInt)) → ¬ (v3).toInt = 0 → (gi m1 221 12).toInt = (-1) → (gi m1 221 8).toInt ≤ 0 → (gi m1 221 3).toInt = 1 → ∀ (v8 : Int32), ((v8.toInt = 0 ∧ ∀ l ∈ ownW, ¬ (gL m1 221 7).toInt = wnl l) ∨ (v8.toInt = 1 ∧ ∃ l, l ∈ ownW ∧ (gL m1 221 7).toInt = wnl l)) → (v8).toInt = 0 → ∀ (v11 : Int32), tnQ m1 (gL m1 221 7) v11.toInt → (gi m1 221 8).toInt = 0 → ¬ (v11).toInt = (-1) → ∀ (y19 : Int32), y19.toInt = (gn (ga m1 232) (gi m1 221 34).toInt) → ¬ ((y19 >>> (v11 &&& 31)) &&& 1).toInt = 1 → ∀ (m22 : zM), aTm aT0 m22 → (ahQ m1 m22 ∧ (mRd T n e m22 ∧ 0 ≤ (gi m22 221 34).toInt ∧ (gi m22 221 34).toInt ≤ 1)) → ∀ (y24 : Int32), y24.toInt = (gn (ga m22 232) (gi m22 221 34).toInt) → (0 : Int) ≤ (y24 ||| (1 <<< (v11 &&& 31))).toInt ∧ (y24 ||| (1 <<< (v11 &&& 31))).toInt ≤ 511) (h4 : ∀ (v3 : Int32) (m1 : zM), aTm aT0 m1 → ((tQ mem m1 ∧ (mS T n (s.bind (cnP T n ((0 : Int) = 0))) m1 ∧ ((v3.toInt = 0 ∧ 1 ≤ (gi m1 221 8).toInt) ∨ (¬ v3.toInt = 0 ∧ (gi m1 221 8).toInt = 0 ∧ (0 : Int) = 0)))) ∧ ((¬ (gi m1 221 8).toInt = 0 ∨ (gi mem 221 8).toInt = 0) ∧ 0 ≤ (gi m1 221 8).toInt ∧ (gi m1 221 34).toInt = (gi mem 221 34).toInt ∧ gn (ga m1 223) (gi m1 221 34).toInt = gn (ga mem 223) (gi mem 221 34).toInt ∧ gn (ga m1 224) (gi m1 221 34).toInt = gn (ga mem 224) (gi mem 221 34).toInt ∧ gn (ga m1 228) (gi m1 221 34).toInt = gn (ga mem 228) (gi mem 221 34).toInt ∧ gn (ga m1 233) (gi m1 221 34).toInt = gn (ga mem 233) (gi mem 221 34).toInt)) → ¬ (v3).toInt = 0 → (gi m1 221 12).toInt = (-1) → (gi m1 221 8).toInt ≤ 0 → (gi m1 221 3).toInt = 1 → ∀ (v8 : Int32), ((v8.toInt = 0 ∧ ∀ l ∈ ownW, ¬ (gL m1 221 7).toInt = wnl l) ∨ (v8.toInt = 1 ∧ ∃ l, l ∈ ownW ∧ (gL m1 221 7).toInt = wnl l)) → (v8).toInt = 0 → ∀ (v11 : Int32), tnQ m1 (gL m1 221 7) v11.toInt → (gi m1 221 8).toInt = 0 → ¬ (v11).toInt = (-1) → ∀ (y19 : Int32), y19.toInt = (gn (ga m1 232) (gi m1 221 34).toInt) → ¬ ((y19 >>> (v11 &&& 31)) &&& 1).toInt = 1 → ∀ (m22 : zM), aTm aT0 m22 → (ahQ m1 m22 ∧ (mRd T n e m22 ∧ 0 ≤ (gi m22 221 34).toInt ∧ (gi m22 221 34).toInt ≤ 1)) → ∀ (y24 : Int32), y24.toInt = (gn (ga m22 232) (gi m22 221 34).toInt) → aTm aT0 (sx m22 232 (gi m22 221 34) (y24 ||| (1 <<< (v11 &&& 31)))) → P none (sx m22 232 (gi m22 221 34) (y24 ||| (1 <<< (v11 &&& 31))))) (h5 : ∀ (v3 : Int32) (m1 : zM), aTm aT0 m1 → ((tQ mem m1 ∧ (mS T n (s.bind (cnP T n ((0 : Int) = 0))) m1 ∧ ((v3.toInt = 0 ∧ 1 ≤ (gi m1 221 8).toInt) ∨ (¬ v3.toInt = 0 ∧ (gi m1 221 8).toInt = 0 ∧ (0 : Int) = 0)))) ∧ ((¬ (gi m1 221 8).toInt = 0 ∨ (gi mem 221 8).toInt = 0) ∧ 0 ≤ (gi m1 221 8).toInt ∧ (gi m1 221 34).toInt = (gi mem 221 34).toInt ∧ gn (ga m1 223) (gi m1 221 34).toInt = gn (ga mem 223) (gi mem 221 34).toInt ∧ gn (ga m1 224) (gi m1 221 34).toInt = gn (ga mem 224) (gi mem 221 34).toInt ∧ gn (ga m1 228) (gi m1 221 34).toInt = gn (ga mem 228) (gi mem 221 34).toInt ∧ gn (ga m1 233) (gi m1 221 34).toInt = gn (ga mem 233) (gi mem 221 34).toInt)) → ¬ (v3).toInt = 0 → (gi m1 221 12).toInt = (-1) → (gi m1 221 8).toInt ≤ 0 → (gi m1 221 3).toInt = 1 → ∀ (v8 : Int32), ((v8.toInt = 0 ∧ ∀ l ∈ ownW, ¬ (gL m1 221 7).toInt = wnl l) ∨ (v8.toInt = 1 ∧ ∃ l, l ∈ ownW ∧ (gL m1 221 7).toInt = wnl l)) → (v8).toInt = 0 → ∀ (v11 : Int32), tnQ m1 (gL m1 221 7) v11.toInt → (gi m1 221 8).toInt = 0 → ¬ (v11).toInt = (-1) → ∀ (y19 : Int32), y19.toInt = (gn (ga m1 232) (gi m1 221 34).toInt) → ((y19 >>> (v11 &&& 31)) &&& 1).toInt = 1 → aTm aT0 (si (si m1 221 8 3) 221 9 (gi m1 221 4)) → P none (si (si m1 221 8 3) 221 9 (gi m1 221 4))) (h6 : ∀ (v3 : Int32) (m1 : zM), aTm aT0 m1 → ((tQ mem m1 ∧ (mS T n (s.bind (cnP T n ((0 : Int) = 0))) m1 ∧ ((v3.toInt = 0 ∧ 1 ≤ (gi m1 221 8).toInt) ∨ (¬ v3.toInt = 0 ∧ (gi m1 221 8).toInt = 0 ∧ (0 : Int) = 0)))) ∧ ((¬ (gi m1 221 8).toInt = 0 ∨ (gi mem 221 8).toInt = 0) ∧ 0 ≤ (gi m1 221 8).toInt ∧ (gi m1 221 34).toInt = (gi mem 221 34).toInt ∧ gn (ga m1 223) (gi m1 221 34).toInt = gn (ga mem 223) (gi mem 221 34).toInt ∧ gn (ga m1 224) (gi m1 221 34).toInt = gn (ga mem 224) (gi mem 221 34).toInt ∧ gn (ga m1 228) (gi m1 221 34).toInt = gn (ga mem 228) (gi mem 221 34).toInt ∧ gn (ga m1 233) (gi m1 221 34).toInt = gn (ga mem 233) (gi mem 221 34).toInt)) → ¬ (v3).toInt = 0 → (gi m1 221 12).toInt = (-1) → (gi m1 221 8).toInt ≤ 0 → (gi m1 221 3).toInt = 1 → ∀ (v8 : Int32), ((v8.toInt = 0 ∧ ∀ l ∈ ownW, ¬ (gL m1 221 7).toInt = wnl l) ∨ (v8.toInt = 1 ∧ ∃ l, l ∈ ownW ∧ (gL m1 221 7).toInt = wnl l)) → ¬ (v8).toInt = 0 → aTm aT0 (si (si m1 221 8 1) 221 9 (gi m1 221 4)) → P none (si (si m1 221 8 1) 221 9 (gi m1 221 4))) (h7 : ∀ (v3 : Int32) (m1 : zM), aTm aT0 m1 → ((tQ mem m1 ∧ (mS T n (s.bind (cnP T n ((0 : Int) = 0))) m1 ∧ ((v3.toInt = 0 ∧ 1 ≤ (gi m1 221 8).toInt) ∨ (¬ v3.toInt = 0 ∧ (gi m1 221 8).toInt = 0 ∧ (0 : Int) = 0)))) ∧ ((¬ (gi m1 221 8).toInt = 0 ∨ (gi mem 221 8).toInt = 0) ∧ 0 ≤ (gi m1 221 8).toInt ∧ (gi m1 221 34).toInt = (gi mem 221 34).toInt ∧ gn (ga m1 223) (gi m1 221 34).toInt = gn (ga mem 223) (gi mem 221 34).toInt ∧ gn (ga m1 224) (gi m1 221 34).toInt = gn (ga mem 224) (gi mem 221 34).toInt ∧ gn (ga m1 228) (gi m1 221 34).toInt = gn (ga mem 228) (gi mem 221 34).toInt ∧ gn (ga m1 233) (gi m1 221 34).toInt = gn (ga mem 233) (gi mem 221 34).toInt)) → ¬ (v3).toInt = 0 → (gi m1 221 12).toInt = (-1) → 0 < (gi m1 221 8).toInt → aTm aT0 m1 → P none m1) (h8 : ∀ (v3 : Int32) (m1 : zM), aTm aT0 m1 → ((tQ mem m1 ∧ (mS T n (s.bind (cnP T n ((0 : Int) = 0))) m1 ∧ ((v3.toInt = 0 ∧ 1 ≤ (gi m1 221 8).toInt) ∨ (¬ v3.toInt = 0 ∧ (gi m1 221 8).toInt = 0 ∧ (0 : Int) = 0)))) ∧ ((¬ (gi m1 221 8).toInt = 0 ∨ (gi mem 221 8).toInt = 0) ∧ 0 ≤ (gi m1 221 8).toInt ∧ (gi m1 221 34).toInt = (gi mem 221 34).toInt ∧ gn (ga m1 223) (gi m1 221 34).toInt = gn (ga mem 223) (gi mem 221 34).toInt ∧ gn (ga m1 224) (gi m1 221 34).toInt = gn (ga mem 224) (gi mem 221 34).toInt ∧ gn (ga m1 228) (gi m1 221 34).toInt = gn (ga mem 228) (gi mem 221 34).toInt ∧ gn (ga m1 233) (gi m1 221 34).toInt = gn (ga mem 233) (gi mem 221 34).toInt)) → ¬ (v3).toInt = 0 → ¬ (gi m1 221 12).toInt = (-1) → (gi m1 221 8).toInt ≤ 0 → aTm aT0 (si (si m1 221 8 1) 221 9 (gi m1 221 12)) → P none (si (si m1 221 8 1) 221 9 (gi m1 221 12))) (h9 : ∀ (v3 : Int32) (m1 : zM), aTm aT0 m1 → ((tQ mem m1 ∧ (mS T n (s.bind (cnP T n ((0 : Int) = 0))) m1 ∧ ((v3.toInt = 0 ∧ 1 ≤ (gi m1 221 8).toInt) ∨ (¬ v3.toInt = 0 ∧ (gi m1 221 8).toInt = 0 ∧ (0 : Int) = 0)))) ∧ ((¬ (gi m1 221 8).toInt = 0 ∨ (gi mem 221 8).toInt = 0) ∧ 0 ≤ (gi m1 221 8).toInt ∧ (gi m1 221 34).toInt = (gi mem 221 34).toInt ∧ gn (ga m1 223) (gi m1 221 34).toInt = gn (ga mem 223) (gi mem 221 34).toInt ∧ gn (ga m1 224) (gi m1 221 34).toInt = gn (ga mem 224) (gi mem 221 34).toInt ∧ gn (ga m1 228) (gi m1 221 34).toInt = gn (ga mem 228) (gi mem 221 34).toInt ∧ gn (ga m1 233) (gi m1 221 34).toInt = gn (ga mem 233) (gi mem 221 34).toInt)) → ¬ (v3).toInt = 0 → ¬ (gi m1 221 12).toInt = (-1) → 0 < (gi m1 221 8).toInt → aTm aT0 m1 → P none m1) (h10 : ∀ (v3 : Int32) (m1 : zM), aTm aT0 m1 → ((tQ mem m1 ∧ (mS T n (s.bind (cnP T n ((0 : Int) = 0))) m1 ∧ ((v3.toInt = 0 ∧ 1 ≤ (gi m1 221 8).toInt) ∨ (¬ v3.toInt = 0 ∧ (gi m1 221 8).toInt = 0 ∧ (0 : Int) = 0)))) ∧ ((¬ (gi m1 221 8).toInt = 0 ∨ (gi mem 221 8).toInt = 0) ∧ 0 ≤ (gi m1 221 8).toInt ∧ (gi m1 221 34).toInt = (gi mem 221 34).toInt ∧ gn (ga m1 223) (gi m1 221 34).toInt = gn (ga mem 223) (gi mem 221 34).toInt ∧ gn (ga m1 224) (gi m1 221 34).toInt = gn (ga mem 224) (gi mem 221 34).toInt ∧ gn (ga m1 228) (gi m1 221 34).toInt = gn (ga mem 228) (gi mem 221 34).toInt ∧ gn (ga m1 233) (gi m1 221 34).toInt = gn (ga mem 233) (gi mem 221 34).toInt)) → (v3).toInt = 0 → aTm aT0 m1 → P none m1) : yR zpg tX12_having (d + 5) (0, [(0, .ref 221)], [], mem) P := by
  obtain ⟨i0, i1⟩ := mO_r34 hm
  have hb01 : 0 ≤ b ∧ b ≤ 1 := by omega
  have th := gR_228 hm (i := (gi mem 221 34).toInt) i0 (by omega)
  have fki := gR_233 hm (i := (gi mem 221 34).toInt) i0 (by omega)
  have tl : gn (ga mem 228) (gi mem 221 34).toInt = ((Qt Q).length : Int) := by rw [hb]; exact hQ.2.2.1.1
  have fl : gn (ga mem 233) (gi mem 221 34).toInt = ((Qf Q).length : Int) := by rw [hb]; exact hQ.2.2.2.2.1.1
  refine yR_m 2 (fun _ _ _ _ => rfl) ?_
  refine wR_cv rfl rfl mO_e hm rfl (pk_i (h_cy (b8 := (gi mem 221 8).toInt) rfl rfl rfl rfl rfl rfl rfl (fun _ _ q => by obtain ⟨_, _, _, q⟩ := q; exact q.1) (h_cnS (T := T) (n := n) (ci := (0 : Int)) rfl hm hT sg hS (by omega)))) ?_
  rintro _ m1 ⟨v3, rfl, hm1, k2⟩
  show yR zpg tX12_having (d + 5) (5, [(0, .ref 221)], [.int v3], m1) _
  refine wR_if_ne rfl (a := (v3).toInt) rfl (fun q4 => ?_) (fun q4 => ?_)
  ·
    refine yR_m 1 (fun _ _ _ _ => rfl) ?_
    refine wR_iv rfl rfl mO_e hm1 rfl rfl rfl rfl ?_
    show yR zpg tX12_lex (d + 4) (0, [(0, .ref 221)], [], m1) _
    refine yR_m 1 (fun _ _ _ _ => rfl) ?_
    refine wR_gi rfl mO_e mO_12 hm1 rfl ?_
    refine yR_m 1 (fun _ _ _ _ => rfl) ?_
    refine wR_ic_eq rfl (a := (gi m1 221 12).toInt) (c := (-1)) rfl tm1 (fun q5 => ?_) (fun q5 => ?_)
    ·
      refine yR_rv rfl ?_
      show yR zpg tX12_having (d + 5) (13, [(0, .ref 221)], [], m1) _
      refine yR_m 1 (fun _ _ _ _ => rfl) ?_
      refine wR_gi rfl mO_e mO_8 hm1 rfl ?_
      refine wR_if_le rfl (a := (gi m1 221 8).toInt) rfl (fun q6 => ?_) (fun q6 => ?_)
      ·
        refine yR_m 1 (fun _ _ _ _ => rfl) ?_
        refine wR_gi rfl mO_e mO_3 hm1 rfl ?_
        refine yR_m 1 (fun _ _ _ _ => rfl) ?_
        refine wR_ic_ne rfl (a := (gi m1 221 3).toInt) (c := 1) rfl rfl (fun q7 => ?_) (fun q7 => ?_)
        ·
          refine yR_m 3 (fun _ _ _ _ => rfl) ?_
          refine wR_gi rfl mO_e mO_4 hm1 rfl ?_
          refine wR_iv rfl rfl mO_e hm1 rfl rfl rfl rfl ?_
          show yR zpg tX12_blame (d + 4) (0, [(0, .ref 221), (1, .int 1), (2, .int (gi m1 221 4))], [], m1) _
          refine yR_m 1 (fun _ _ _ _ => rfl) ?_
          refine wR_gi rfl mO_e mO_8 hm1 rfl ?_
          refine wR_if_le rfl (a := (gi m1 221 8).toInt) rfl (fun _ => ?_) (fun q => by exfalso; omega)
          refine yR_m 2 (fun _ _ _ _ => rfl) ?_
          refine wR_pi rfl mO_e mO_8 hm1 rfl ?_
          have hm_1 : aTm aT0 (si m1 221 8 1) := tm_si mO_e mO_8 hm1 (i32_b _)
          refine yR_m 2 (fun _ _ _ _ => rfl) ?_
          refine wR_pi rfl mO_e mO_9 hm_1 rfl ?_
          have hm_2 : aTm aT0 (si (si m1 221 8 1) 221 9 (gi m1 221 4)) := tm_si mO_e mO_9 hm_1 (i32_b _)
          refine yR_rv rfl ?_
          show yR zpg tX12_having (d + 5) (49, [(0, .ref 221)], [], (si (si m1 221 8 1) 221 9 (gi m1 221 4))) _
          refine yR_m 1 (fun _ _ _ _ => rfl) ?_
          refine wR_gi rfl mO_e mO_8 hm_2 ((gi_sv_ne (by decide)).trans (gi_si_eq mO_e mO_8 hm1)) ?_
          refine wR_if_le rfl (a := 1) rfl (fun q => by exfalso; omega) (fun _ => ?_)
          refine yR_m 4 (fun _ _ _ _ => rfl) ?_
          refine wR_gi rfl mO_e mO_8 hm_2 ((gi_sv_ne (by decide)).trans (gi_si_eq mO_e mO_8 hm1)) ?_
          refine wR_if_ne rfl (a := 1) rfl (fun _ => ?_) (fun q => by exfalso; omega)
          refine yR_m 1 (fun _ _ _ _ => rfl) ?_
          refine wR_gi rfl mO_e mO_8 hm_2 ((gi_sv_ne (by decide)).trans (gi_si_eq mO_e mO_8 hm1)) ?_
          refine wR_if_le rfl (a := 1) rfl (fun q => by exfalso; omega) (fun _ => ?_)
          exact yR_rv rfl (h1 v3 m1 hm1 k2 q4 q5 q6 q7 hm_2)
        ·
          refine yR_m 2 (fun _ _ _ _ => rfl) ?_
          refine wR_gL rfl mO_e mO_7 hm1 rfl ?_
          refine wR_cv rfl rfl mO_e hm1 rfl (h_isOwnF hm1 (by omega)) ?_
          rintro _ _ ⟨v8, rfl, rfl, k9⟩
          show yR zpg tX12_having (d + 5) (37, [(0, .ref 221)], [.int v8], m1) _
          refine wR_if_eq rfl (a := (v8).toInt) rfl (fun q10 => ?_) (fun q10 => ?_)
          ·
            refine yR_m 1 (fun _ _ _ _ => rfl) ?_
            refine wR_gi rfl mO_e mO_8 hm1 rfl ?_
            refine wR_if_le rfl (a := (gi m1 221 8).toInt) rfl (fun _ => ?_) (fun q => by exfalso; omega)
            refine yR_m 2 (fun _ _ _ _ => rfl) ?_
            refine wR_gL rfl mO_e mO_7 hm1 rfl ?_
            refine wR_cv rfl rfl mO_e hm1 rfl (h_tnF hm1 (by omega)) ?_
            rintro _ _ ⟨v11, rfl, rfl, k12⟩
            show yR zpg tX12_having (d + 5) (68, [(0, .ref 221)], [.int v11], m1) _
            refine yR_m 2 (fun _ _ _ _ => rfl) ?_
            refine wR_gi rfl mO_e mO_8 hm1 rfl ?_
            refine wR_if_ne rfl (a := (gi m1 221 8).toInt) rfl (fun q13 => ?_) (fun q13 => ?_)
            ·
              refine yR_m 1 (fun _ _ _ _ => rfl) ?_
              refine wR_gi rfl mO_e mO_8 hm1 rfl ?_
              refine wR_if_le rfl (a := (gi m1 221 8).toInt) rfl (fun _ => ?_) (fun q => by exfalso; omega)
              refine yR_m 1 (fun _ _ _ _ => rfl) ?_
              refine wR_cv rfl rfl mO_e hm1 rfl (h_aheadM6 hm1 (s1 v3 m1 hm1 k2 q4 q5 q6 q7 v8 k9 q10 v11 k12 q13) (by omega)) ?_
              rintro _ m14 ⟨rfl, hI14, k15⟩
              show yR zpg tX12_having (d + 5) (118, [(1, .int v11), (0, .ref 221)], [], m14) _
              refine yR_m 1 (fun _ _ _ _ => rfl) ?_
              refine wR_gr rfl mO_e mO_23 hI14 ?_
              refine yR_m 1 (fun _ _ _ _ => rfl) ?_
              refine wR_gi rfl mO_e mO_34 hI14 rfl ?_
              refine yR_m 1 (fun _ _ _ _ => rfl) ?_
              refine wN_al (a := (gi m14 221 34).toInt) rfl aR_232 hI14 rfl rfl (by omega) (fun y16 e17 => ?_)
              refine yR_m 4 (fun _ _ _ _ => rfl) ?_
              refine wN_as (a := (gi m14 221 34).toInt) rfl aR_232 hI14 rfl (by omega) ?_
              have hm_3 : aTm aT0 (sx m14 232 (gi m14 221 34) (y16 ||| (1 <<< (v11 &&& 31)))) := tm_sa aR_232 hI14 (s2 v3 m1 hm1 k2 q4 q5 q6 q7 v8 k9 q10 v11 k12 q13 m14 hI14 k15 y16 e17)
              exact yR_rv rfl (h2 v3 m1 hm1 k2 q4 q5 q6 q7 v8 k9 q10 v11 k12 q13 m14 hI14 k15 y16 e17 hm_3)
            ·
              refine yR_m 2 (fun _ _ _ _ => rfl) ?_
              refine wR_ic_eq rfl (a := (v11).toInt) (c := (-1)) rfl tm1 (fun q18 => ?_) (fun q18 => ?_)
              ·
                refine yR_m 3 (fun _ _ _ _ => rfl) ?_
                refine wR_gi rfl mO_e mO_4 hm1 rfl ?_
                refine wR_iv rfl rfl mO_e hm1 rfl rfl rfl rfl ?_
                show yR zpg tX12_blame (d + 4) (0, [(0, .ref 221), (1, .int 3), (2, .int (gi m1 221 4))], [], m1) _
                refine yR_m 1 (fun _ _ _ _ => rfl) ?_
                refine wR_gi rfl mO_e mO_8 hm1 rfl ?_
                refine wR_if_le rfl (a := (gi m1 221 8).toInt) rfl (fun _ => ?_) (fun q => by exfalso; omega)
                refine yR_m 2 (fun _ _ _ _ => rfl) ?_
                refine wR_pi rfl mO_e mO_8 hm1 rfl ?_
                have hm_4 : aTm aT0 (si m1 221 8 3) := tm_si mO_e mO_8 hm1 (i32_b _)
                refine yR_m 2 (fun _ _ _ _ => rfl) ?_
                refine wR_pi rfl mO_e mO_9 hm_4 rfl ?_
                have hm_5 : aTm aT0 (si (si m1 221 8 3) 221 9 (gi m1 221 4)) := tm_si mO_e mO_9 hm_4 (i32_b _)
                refine yR_rv rfl ?_
                show yR zpg tX12_having (d + 5) (106, [(1, .int v11), (0, .ref 221)], [], (si (si m1 221 8 3) 221 9 (gi m1 221 4))) _
                refine yR_m 1 (fun _ _ _ _ => rfl) ?_
                refine wR_gi rfl mO_e mO_8 hm_5 ((gi_sv_ne (by decide)).trans (gi_si_eq mO_e mO_8 hm1)) ?_
                refine wR_if_le rfl (a := 3) rfl (fun q => by exfalso; omega) (fun _ => ?_)
                exact yR_rv rfl (h3 v3 m1 hm1 k2 q4 q5 q6 q7 v8 k9 q10 v11 k12 q13 q18 hm_5)
              ·
                refine yR_m 1 (fun _ _ _ _ => rfl) ?_
                refine wR_gr rfl mO_e mO_23 hm1 ?_
                refine yR_m 1 (fun _ _ _ _ => rfl) ?_
                refine wR_gi rfl mO_e mO_34 hm1 rfl ?_
                refine wN_al (a := (gi m1 221 34).toInt) rfl aR_232 hm1 rfl rfl (by omega) (fun y19 e20 => ?_)
                refine yR_m 1 (fun _ _ _ _ => rfl) ?_
                refine wR_is rfl rfl rfl rfl rfl rfl ?_
                show yR zpg tX12_has2 (d + 4) (0, [(0, .int y19), (1, .int v11)], [], m1) _
                refine yR_m 6 (fun _ _ _ _ => rfl) ?_
                refine wR_ic_ne rfl (a := ((y19 >>> (v11 &&& 31)) &&& 1).toInt) (c := 1) rfl rfl (fun q21 => ?_) (fun q21 => ?_)
                ·
                  refine yR_m 1 (fun _ _ _ _ => rfl) ?_
                  refine yR_rz rfl ⟨by decide, by decide⟩ ?_
                  show yR zpg tX12_having (d + 5) (94, [(1, .int v11), (0, .ref 221)], [.int 0], m1) _
                  refine wR_if_eq rfl (a := 0) rfl (fun _ => ?_) (fun q => by exfalso; omega)
                  refine yR_m 1 (fun _ _ _ _ => rfl) ?_
                  refine wR_gi rfl mO_e mO_8 hm1 rfl ?_
                  refine wR_if_le rfl (a := (gi m1 221 8).toInt) rfl (fun _ => ?_) (fun q => by exfalso; omega)
                  refine yR_m 1 (fun _ _ _ _ => rfl) ?_
                  refine wR_cv rfl rfl mO_e hm1 rfl (h_aheadM6 hm1 (s3 v3 m1 hm1 k2 q4 q5 q6 q7 v8 k9 q10 v11 k12 q13 q18 y19 e20 q21) (by omega)) ?_
                  rintro _ m22 ⟨rfl, hI22, k23⟩
                  show yR zpg tX12_having (d + 5) (118, [(1, .int v11), (0, .ref 221)], [], m22) _
                  refine yR_m 1 (fun _ _ _ _ => rfl) ?_
                  refine wR_gr rfl mO_e mO_23 hI22 ?_
                  refine yR_m 1 (fun _ _ _ _ => rfl) ?_
                  refine wR_gi rfl mO_e mO_34 hI22 rfl ?_
                  refine yR_m 1 (fun _ _ _ _ => rfl) ?_
                  refine wN_al (a := (gi m22 221 34).toInt) rfl aR_232 hI22 rfl rfl (by omega) (fun y24 e25 => ?_)
                  refine yR_m 4 (fun _ _ _ _ => rfl) ?_
                  refine wN_as (a := (gi m22 221 34).toInt) rfl aR_232 hI22 rfl (by omega) ?_
                  have hm_6 : aTm aT0 (sx m22 232 (gi m22 221 34) (y24 ||| (1 <<< (v11 &&& 31)))) := tm_sa aR_232 hI22 (s4 v3 m1 hm1 k2 q4 q5 q6 q7 v8 k9 q10 v11 k12 q13 q18 y19 e20 q21 m22 hI22 k23 y24 e25)
                  exact yR_rv rfl (h4 v3 m1 hm1 k2 q4 q5 q6 q7 v8 k9 q10 v11 k12 q13 q18 y19 e20 q21 m22 hI22 k23 y24 e25 hm_6)
                ·
                  refine yR_m 2 (fun _ _ _ _ => rfl) ?_
                  refine yR_rz rfl ⟨by decide, by decide⟩ ?_
                  show yR zpg tX12_having (d + 5) (94, [(1, .int v11), (0, .ref 221)], [.int 1], m1) _
                  refine wR_if_eq rfl (a := 1) rfl (fun q => by exfalso; omega) (fun _ => ?_)
                  refine yR_m 3 (fun _ _ _ _ => rfl) ?_
                  refine wR_gi rfl mO_e mO_4 hm1 rfl ?_
                  refine wR_iv rfl rfl mO_e hm1 rfl rfl rfl rfl ?_
                  show yR zpg tX12_blame (d + 4) (0, [(0, .ref 221), (1, .int 3), (2, .int (gi m1 221 4))], [], m1) _
                  refine yR_m 1 (fun _ _ _ _ => rfl) ?_
                  refine wR_gi rfl mO_e mO_8 hm1 rfl ?_
                  refine wR_if_le rfl (a := (gi m1 221 8).toInt) rfl (fun _ => ?_) (fun q => by exfalso; omega)
                  refine yR_m 2 (fun _ _ _ _ => rfl) ?_
                  refine wR_pi rfl mO_e mO_8 hm1 rfl ?_
                  have hm_7 : aTm aT0 (si m1 221 8 3) := tm_si mO_e mO_8 hm1 (i32_b _)
                  refine yR_m 2 (fun _ _ _ _ => rfl) ?_
                  refine wR_pi rfl mO_e mO_9 hm_7 rfl ?_
                  have hm_8 : aTm aT0 (si (si m1 221 8 3) 221 9 (gi m1 221 4)) := tm_si mO_e mO_9 hm_7 (i32_b _)
                  refine yR_rv rfl ?_
                  show yR zpg tX12_having (d + 5) (106, [(1, .int v11), (0, .ref 221)], [], (si (si m1 221 8 3) 221 9 (gi m1 221 4))) _
                  refine yR_m 1 (fun _ _ _ _ => rfl) ?_
                  refine wR_gi rfl mO_e mO_8 hm_8 ((gi_sv_ne (by decide)).trans (gi_si_eq mO_e mO_8 hm1)) ?_
                  refine wR_if_le rfl (a := 3) rfl (fun q => by exfalso; omega) (fun _ => ?_)
                  exact yR_rv rfl (h5 v3 m1 hm1 k2 q4 q5 q6 q7 v8 k9 q10 v11 k12 q13 q18 y19 e20 q21 hm_8)
          ·
            refine yR_m 3 (fun _ _ _ _ => rfl) ?_
            refine wR_gi rfl mO_e mO_4 hm1 rfl ?_
            refine wR_iv rfl rfl mO_e hm1 rfl rfl rfl rfl ?_
            show yR zpg tX12_blame (d + 4) (0, [(0, .ref 221), (1, .int 1), (2, .int (gi m1 221 4))], [], m1) _
            refine yR_m 1 (fun _ _ _ _ => rfl) ?_
            refine wR_gi rfl mO_e mO_8 hm1 rfl ?_
            refine wR_if_le rfl (a := (gi m1 221 8).toInt) rfl (fun _ => ?_) (fun q => by exfalso; omega)
            refine yR_m 2 (fun _ _ _ _ => rfl) ?_
            refine wR_pi rfl mO_e mO_8 hm1 rfl ?_
            have hm_9 : aTm aT0 (si m1 221 8 1) := tm_si mO_e mO_8 hm1 (i32_b _)
            refine yR_m 2 (fun _ _ _ _ => rfl) ?_
            refine wR_pi rfl mO_e mO_9 hm_9 rfl ?_
            have hm_10 : aTm aT0 (si (si m1 221 8 1) 221 9 (gi m1 221 4)) := tm_si mO_e mO_9 hm_9 (i32_b _)
            refine yR_rv rfl ?_
            show yR zpg tX12_having (d + 5) (49, [(0, .ref 221)], [], (si (si m1 221 8 1) 221 9 (gi m1 221 4))) _
            refine yR_m 1 (fun _ _ _ _ => rfl) ?_
            refine wR_gi rfl mO_e mO_8 hm_10 ((gi_sv_ne (by decide)).trans (gi_si_eq mO_e mO_8 hm1)) ?_
            refine wR_if_le rfl (a := 1) rfl (fun q => by exfalso; omega) (fun _ => ?_)
            refine yR_m 4 (fun _ _ _ _ => rfl) ?_
            refine wR_gi rfl mO_e mO_8 hm_10 ((gi_sv_ne (by decide)).trans (gi_si_eq mO_e mO_8 hm1)) ?_
            refine wR_if_ne rfl (a := 1) rfl (fun _ => ?_) (fun q => by exfalso; omega)
            refine yR_m 1 (fun _ _ _ _ => rfl) ?_
            refine wR_gi rfl mO_e mO_8 hm_10 ((gi_sv_ne (by decide)).trans (gi_si_eq mO_e mO_8 hm1)) ?_
            refine wR_if_le rfl (a := 1) rfl (fun q => by exfalso; omega) (fun _ => ?_)
            exact yR_rv rfl (h6 v3 m1 hm1 k2 q4 q5 q6 q7 v8 k9 q10 hm_10)
      ·
        exact yR_rv rfl (h7 v3 m1 hm1 k2 q4 q5 q6 hm1)
    ·
      refine yR_m 3 (fun _ _ _ _ => rfl) ?_
      refine wR_gi rfl mO_e mO_12 hm1 rfl ?_
      refine wR_iv rfl rfl mO_e hm1 rfl rfl rfl rfl ?_
      show yR zpg tX12_blame (d + 3) (0, [(0, .ref 221), (1, .int 1), (2, .int (gi m1 221 12))], [], m1) _
      refine yR_m 1 (fun _ _ _ _ => rfl) ?_
      refine wR_gi rfl mO_e mO_8 hm1 rfl ?_
      refine wR_if_le rfl (a := (gi m1 221 8).toInt) rfl (fun q26 => ?_) (fun q26 => ?_)
      ·
        refine yR_m 2 (fun _ _ _ _ => rfl) ?_
        refine wR_pi rfl mO_e mO_8 hm1 rfl ?_
        have hm_11 : aTm aT0 (si m1 221 8 1) := tm_si mO_e mO_8 hm1 (i32_b _)
        refine yR_m 2 (fun _ _ _ _ => rfl) ?_
        refine wR_pi rfl mO_e mO_9 hm_11 rfl ?_
        have hm_12 : aTm aT0 (si (si m1 221 8 1) 221 9 (gi m1 221 12)) := tm_si mO_e mO_9 hm_11 (i32_b _)
        refine yR_rv rfl ?_
        show yR zpg tX12_lex (d + 4) (17, [(0, .ref 221)], [], (si (si m1 221 8 1) 221 9 (gi m1 221 12))) _
        refine yR_rv rfl ?_
        show yR zpg tX12_having (d + 5) (13, [(0, .ref 221)], [], (si (si m1 221 8 1) 221 9 (gi m1 221 12))) _
        refine yR_m 1 (fun _ _ _ _ => rfl) ?_
        refine wR_gi rfl mO_e mO_8 hm_12 ((gi_sv_ne (by decide)).trans (gi_si_eq mO_e mO_8 hm1)) ?_
        refine wR_if_le rfl (a := 1) rfl (fun q => by exfalso; omega) (fun _ => ?_)
        exact yR_rv rfl (h8 v3 m1 hm1 k2 q4 q5 q26 hm_12)
      ·
        refine yR_rv rfl ?_
        show yR zpg tX12_lex (d + 4) (17, [(0, .ref 221)], [], m1) _
        refine yR_rv rfl ?_
        show yR zpg tX12_having (d + 5) (13, [(0, .ref 221)], [], m1) _
        refine yR_m 1 (fun _ _ _ _ => rfl) ?_
        refine wR_gi rfl mO_e mO_8 hm1 rfl ?_
        refine wR_if_le rfl (a := (gi m1 221 8).toInt) rfl (fun q => by exfalso; omega) (fun _ => ?_)
        exact yR_rv rfl (h9 v3 m1 hm1 k2 q4 q5 q26 hm1)
  ·
    exact yR_rv rfl (h10 v3 m1 hm1 k2 q4 hm1)

theorem h_havF {p0 : Int} (hm : aTm aT0 mem) (hT : tOK mem) (sg : ¬ (gi mem 221 3).toInt = 0) (hS : mS T n s mem) (hs : s = some p0) (hb : (gi mem 221 34).toInt = b) (hQ : mQ b Q mem) (hq : (3 ≤ Qc Q ∧ Qc Q ≤ 7) ∧ 3 ≤ Qr Q ∧ Qr Q ≤ 7) (hd : 6 ≤ d) : yC zpg d 201 [.ref 221] mem (fun r m => stR T n b (sHav T n Q (tkf T n p0).2) m) := by
  obtain ⟨d, rfl⟩ : ∃ q, d = q + 6 := ⟨d - 6, by omega⟩
  obtain ⟨i0, i1⟩ := mO_r34 hm
  have hb01 : 0 ≤ b ∧ b ≤ 1 := by omega
  have th := gR_228 hm (i := (gi mem 221 34).toInt) i0 (by omega)
  have tl : gn (ga mem 228) (gi mem 221 34).toInt = ((Qt Q).length : Int) := by rw [hb]; exact hQ.2.2.1.1
  have E1 := cn_s (T := T) (n := n) (c := ((0 : Int) = 0)) hs rfl
  have rd : ∀ m1, mS T n (s.bind (cnP T n ((0 : Int) = 0))) m1 → (gi m1 221 8).toInt = 0 → mR T n (tkf T n p0).2 (tkf T n (tkf T n p0).2).1 (tkf T n (tkf T n p0).2).2 m1 := fun m1 K f => by
    rw [E1] at K
    rcases K with ⟨q, eq, -, t, e, hR⟩ | ⟨-, w⟩
    · cases eq
      rw [tkf_e hR.2.1]
      exact hR
    · exfalso
      have w2 : 1 ≤ (gi m1 221 8).toInt := w
      omega
  generalize hp : (tkf T n p0).2 = p at rd E1 ⊢
  generalize ht : (tkf T n p).1 = t at rd
  generalize he : (tkf T n p).2 = e at rd
  have sn : sNam T n p = oif (t.1 = 1 ∧ ¬ t.2.2 ∈ ownW) (some (t.2.2, e)) := by
    unfold sNam
    rw [ht, he]
  refine yC_of (t := tX12_having) rfl rfl ?_
  exact w_havingF (T := T) (n := n) (b := b) (p := p) (e := e) (t := t) (s := s) (Q := Q) hm hT sg hS hb hQ hq
        (fun v3 m1 hm1 k2 q4 q5 q6 q7 hm2 => by
          have Z := rd m1 k2.1.2.1 (by omega)
          have I := mwo_iff Z.2.2.2 q5
          exact stR_no (by unfold sHav; rw [sn, oif_f (fun w => by have w1 := I.1.2 w.1; omega)]; rfl) (by show 1 ≤ (gi _ 221 8).toInt; rw [((gi_sv_ne (by decide)).trans (gi_eqO (isO_of hm1) (by decide)))]; decide))
        (fun v3 m1 hm1 k2 q4 q5 q6 q7 v8 k9 q10 v11 k12 q13 => by exfalso; omega)
        (fun v3 m1 hm1 k2 q4 q5 q6 q7 v8 k9 q10 v11 k12 q13 m14 hI14 k15 y16 e17 => by exfalso; omega)
        (fun v3 m1 hm1 k2 q4 q5 q6 q7 v8 k9 q10 v11 k12 q13 m14 hI14 k15 y16 e17 hm2 => by exfalso; omega)
        (fun v3 m1 hm1 k2 q4 q5 q6 q7 v8 k9 q10 v11 k12 q13 q18 hm2 => by
          have Z := rd m1 k2.1.2.1 (by omega)
          have I := mwo_iff Z.2.2.2 q5
          have W1 := I.2 (by omega)
          have T1 := I.1.1 (by omega)
          have O := own_m W1 (Tok_let Z.2.1 T1) k9
          have hQ1 := (mQ_fr k2.1.1.1 hQ)
          have e34 : (gi m1 221 34).toInt = b := by omega
          have J := tn_ix (Q := Q) (by rw [e34]; exact hQ1.2.2.1) W1 (Tok_let Z.2.1 T1) k12
          rcases O with ⟨-, o2⟩ | ⟨o1, -⟩
          · rcases J with ⟨-, j⟩ | ⟨q, j, -⟩
            · exact stR_no (by unfold sHav; rw [sn, oif_t ⟨T1, o2⟩]; show (tIx Q t.2.2).bind _ = none; rw [j]; rfl) (by show 1 ≤ (gi _ 221 8).toInt; rw [((gi_sv_ne (by decide)).trans (gi_eqO (isO_of hm1) (by decide)))]; decide)
            · exfalso; omega
          · exfalso; omega)
        (fun v3 m1 hm1 k2 q4 q5 q6 q7 v8 k9 q10 v11 k12 q13 q18 y19 e20 q21 => rd m1 k2.1.2.1 (by omega))
        (fun v3 m1 hm1 k2 q4 q5 q6 q7 v8 k9 q10 v11 k12 q13 q18 y19 e20 q21 m22 hI22 k23 y24 e25 => by
          have Z := rd m1 k2.1.2.1 (by omega)
          have I := mwo_iff Z.2.2.2 q5
          have W1 := I.2 (by omega)
          have T1 := I.1.1 (by omega)
          have O := own_m W1 (Tok_let Z.2.1 T1) k9
          have hQ1 := (mQ_fr k2.1.1.1 hQ)
          have e34 : (gi m1 221 34).toInt = b := by omega
          have J := tn_ix (Q := Q) (by rw [e34]; exact hQ1.2.2.1) W1 (Tok_let Z.2.1 T1) k12
          have r0 := mO_r34 hI22
          have r := gR_232 hI22 (i := (gi m22 221 34).toInt) r0.1 (by omega)
          rcases J with ⟨j, -⟩ | ⟨q, j, hj, -⟩
          · exfalso; omega
          · exact or_rg (by omega) (by omega) (by decide) (by decide) (by omega) (by omega))
        (fun v3 m1 hm1 k2 q4 q5 q6 q7 v8 k9 q10 v11 k12 q13 q18 y19 e20 q21 m22 hI22 k23 y24 e25 hm2 => by
          have Z := rd m1 k2.1.2.1 (by omega)
          have I := mwo_iff Z.2.2.2 q5
          have W1 := I.2 (by omega)
          have T1 := I.1.1 (by omega)
          have O := own_m W1 (Tok_let Z.2.1 T1) k9
          have hQ1 := (mQ_fr k2.1.1.1 hQ)
          have e34 : (gi m1 221 34).toInt = b := by omega
          have J := tn_ix (Q := Q) (by rw [e34]; exact hQ1.2.2.1) W1 (Tok_let Z.2.1 T1) k12
          rcases O with ⟨-, o2⟩ | ⟨o1, -⟩
          rotate_left
          · exfalso; omega
          rcases J with ⟨j, -⟩ | ⟨q, j, hj, jx⟩
          · exfalso; omega
          have hB := bt_shr (x := y19) (k := v11) (by omega) (by omega)
          have hy : y19 = (ga m1 232).getD b.toNat 0 := Int32.toInt_inj.1 (by rw [e20, e34]; rfl)
          rw [hy, j, hQ1.2.2.2.1 (q : Int) (by omega) (by omega), ← hy] at hB
          have e34b : (gi m22 221 34).toInt = b := by rw [fr_gi k23.1.1 rfl]; exact e34
          refine Or.inl ⟨_, e, by unfold sHav; rw [sn, oif_t ⟨T1, o2⟩]; show (tIx Q t.2.2).bind _ = _; rw [jx]; exact oif_t (fun w => q21 (hB.2 w)), by show (gi (sx m22 232 (gi m22 221 34) (y24 ||| (1 <<< (v11 &&& 31)))) 221 8).toInt = 0; rw [gi_sa, fr_gi k23.1.1 rfl]; omega, mRd_sa (by decide) k23.2.1, ?_⟩
          exact mQ_addH hI22 hb01 e34b (by omega) j (Int32.toInt_inj.1 (by rw [e25, e34b]; rfl)) (mQ_fr k23.1.1 hQ1))
        (fun v3 m1 hm1 k2 q4 q5 q6 q7 v8 k9 q10 v11 k12 q13 q18 y19 e20 q21 hm2 => by
          have Z := rd m1 k2.1.2.1 (by omega)
          have I := mwo_iff Z.2.2.2 q5
          have W1 := I.2 (by omega)
          have T1 := I.1.1 (by omega)
          have O := own_m W1 (Tok_let Z.2.1 T1) k9
          have hQ1 := (mQ_fr k2.1.1.1 hQ)
          have e34 : (gi m1 221 34).toInt = b := by omega
          have J := tn_ix (Q := Q) (by rw [e34]; exact hQ1.2.2.1) W1 (Tok_let Z.2.1 T1) k12
          rcases O with ⟨-, o2⟩ | ⟨o1, -⟩
          rotate_left
          · exfalso; omega
          rcases J with ⟨j, -⟩ | ⟨q, j, hj, jx⟩
          · exfalso; omega
          have hB := bt_shr (x := y19) (k := v11) (by omega) (by omega)
          have hy : y19 = (ga m1 232).getD b.toNat 0 := Int32.toInt_inj.1 (by rw [e20, e34]; rfl)
          rw [hy, j, hQ1.2.2.2.1 (q : Int) (by omega) (by omega), ← hy] at hB
          exact stR_no (by unfold sHav; rw [sn, oif_t ⟨T1, o2⟩]; show (tIx Q t.2.2).bind _ = none; rw [jx]; exact oif_f (fun w => w (hB.1 q21))) (by show 1 ≤ (gi _ 221 8).toInt; rw [((gi_sv_ne (by decide)).trans (gi_eqO (isO_of hm1) (by decide)))]; decide))
        (fun v3 m1 hm1 k2 q4 q5 q6 q7 v8 k9 q10 hm2 => by
          have Z := rd m1 k2.1.2.1 (by omega)
          have I := mwo_iff Z.2.2.2 q5
          have W1 := I.2 (by omega)
          have T1 := I.1.1 (by omega)
          have O := own_m W1 (Tok_let Z.2.1 T1) k9
          rcases O with ⟨o1, -⟩ | ⟨-, o2⟩
          · exfalso; omega
          · exact stR_no (by unfold sHav; rw [sn, oif_f (fun w => w.2 o2)]; rfl) (by show 1 ≤ (gi _ 221 8).toInt; rw [((gi_sv_ne (by decide)).trans (gi_eqO (isO_of hm1) (by decide)))]; decide))
        (fun v3 m1 hm1 k2 q4 q5 q6 hm2 => by exfalso; omega)
        (fun v3 m1 hm1 k2 q4 q5 q26 hm2 => by
          have Z := rd m1 k2.1.2.1 (by omega)
          have X := mx_iff Z.2.2.2
          exact stR_no (by unfold sHav; rw [sn, oif_f (fun w => q5 (X.2 (by have w1 := w.1; omega)))]; rfl) (by show 1 ≤ (gi _ 221 8).toInt; rw [((gi_sv_ne (by decide)).trans (gi_eqO (isO_of hm1) (by decide)))]; decide))
        (fun v3 m1 hm1 k2 q4 q5 q26 hm2 => by exfalso; omega)
        (fun v3 m1 hm1 k2 q4 hm2 => by
          have K1 := k2.1.2.1
          rw [E1] at K1
          exfalso
          rcases K1 with ⟨q, -, w, -⟩ | ⟨w, -⟩
          · have w2 : (gi m1 221 8).toInt = 0 := w
            omega
          · cases w)
end MV
