theorem i32_addc {k c : Int32} {z : Int} (hc : c.toInt = z) (h0 : -2147483648 ≤ k.toInt + z) (h1 : k.toInt + z ≤ 2147483647) : (k + c).toInt = k.toInt + z := by rw [zadd_i (by rw [hc]; omega) (by rw [hc]; omega), hc]
theorem aFold {E : zM → Prop} {m : zM} {q : Nat} (hJ : aJ (aΘ0 E) m) (hq : q ∈ [2, 14]) : ∃ (fs : List Value) (x : Int32), zat m q = some (.inr (4, fs)) ∧ fs[13]? = some (.int x) ∧ x.toInt ≤ 6 := by
  obtain ⟨fs, x, f1, f2, y, rfl, -, f4⟩ := aGf_s (aGf_q hq) hJ.1
  exact ⟨fs, y, f1, f2, f4⟩
set_option maxRecDepth 100000 in
theorem met_loop {E' : zM → Prop} (hN : aNo E' [191, 185]) (h0 : aH0 (aEm E')) {d : Nat} (hd : 1 ≤ d) {T : List Int32} (hTl : T.length = 1600) {n : Int32} (n0 : 0 ≤ n.toInt) (n1 : n.toInt ≤ 64) : ∀ (f i : Nat) (k : Int32) (m : zM), k.toInt = 4 * (i : Int) → n.toInt ≤ 4 * ((i : Int) + (f : Int)) → k.toInt ≤ 68 → aJ (aΘ0 (aEm E')) m → zat m 1 = some (.inl (0, .inl T)) → (∀ j : Nat, j < i → (T.getD (4 * j + 1) 0).toInt ≤ 5) → yR zpg tX3_takesMet d (24, [(3, .int k), (0, .ref 185), (1, .ref 1), (2, .int n)], [], m) (fun r m => aJ (aΘ0 (aEm E')) m ∧ aTr (some (.inl (0, 1))) r) := by
  intro f
  induction f with
  | zero =>
    intro i k m hk hn hk2 hJ hT hv
    obtain ⟨fs, hf, hg⟩ := aTm_o hJ.1 aPo_e
    obtain ⟨a, ha, ha1⟩ := aTf_at (i := 8) hg rfl
    have ha2 := aTv_r ha1
    subst ha2
    obtain ⟨b, hb, -⟩ := aTf_at (i := 9) hg rfl
    obtain ⟨l, hl, hl2, -⟩ := aTm_a (k := 191) hJ.1 rfl
    have hc := zclamp n0
    refine yR_m 2 (fun _ _ _ _ => rfl) ?_
    refine yR_ic rfl (fun _ => ?_) (fun q => ?_)
    · refine yR_m 3 (fun _ _ _ _ => rfl) ?_
      refine yR_gf rfl hf ha ?_
      refine yR_m 2 (fun _ _ _ _ => rfl) ?_
      have e : Bool.and (Bool.and (Nat.beq 0 0) (Nat.beq 0 0)) (Bool.and (Bool.and (!decide ((0 : Int32) < 0)) (Bool.and (!decide ((0 : Int32) < 0)) (!decide (n < 0)))) (Bool.and (Bool.and (Nat.ble (Int32.toNatClampNeg 0 + n.toNatClampNeg) T.length) (Nat.ble (Int32.toNatClampNeg 0 + n.toNatClampNeg) l.length)) (Nat.ble (zwd []) 8))) = true := by
        have z0 : Int32.toNatClampNeg 0 = 0 := rfl
        rw [zneg_f n0, zneg_f (x := 0) (by decide), z0, Nat.ble_eq_true_of_le (by omega), Nat.ble_eq_true_of_le (by omega)]
        rfl
      refine yR_next (st' := (97, [(3, .int k), (0, .ref 185), (1, .ref 1), (2, .int n)], [], m.set 191 (.inl (0, .inl (zcpl T l 0 0 n.toNatClampNeg))))) (f := zcp 0) rfl (fun Y rec κ ρ => ?_) ?_
      · simp only [zcp, hT, hl, e]
        rfl
      · refine yR_m 4 (fun _ _ _ _ => rfl) ?_
        refine yR_pf rfl ((zat_ne_set (by decide)).trans hf) (List.getElem?_eq_some_iff.mp hb).1 rfl ?_
        refine yR_m 1 (fun _ _ _ _ => rfl) ?_
        have hd4 : (n / 4).toInt = n.toInt.tdiv 4 := i32_div (y := 4) (by decide)
        have hd5 : n.toInt.tdiv 4 = n.toInt / 4 := Int.tdiv_eq_ediv_of_nonneg n0
        refine yR_rz rfl ⟨by decide, by decide⟩ ⟨met_end hN hJ hT hl hf n0 n1 (fun j hj => hv j (by omega)) (by show (0 : Int) ≤ (n / 4).toInt; omega) (by show (n / 4).toInt ≤ 16; omega), 1, rfl, by decide, by decide⟩
    · have q : decide (n ≤ k) = false := q
      have q := of_decide_eq_false q
      rw [Int32.le_iff_toInt_le] at q
      omega
  | succ f ih =>
    intro i k m hk hn hk2 hJ hT hv
    obtain ⟨fs, hf, hg⟩ := aTm_o hJ.1 aPo_e
    obtain ⟨a, ha, ha1⟩ := aTf_at (i := 8) hg rfl
    have ha2 := aTv_r ha1
    subst ha2
    obtain ⟨b, hb, -⟩ := aTf_at (i := 9) hg rfl
    obtain ⟨hh, hh0, hh1⟩ := aTf_at (i := 0) hg rfl
    have hh2 := aTv_r hh1
    subst hh2
    obtain ⟨hs, hhf, hhg⟩ := aTm_o hJ.1 aHo_e
    obtain ⟨_, hp0, p, hp, rfl⟩ := aTf_at (i := 0) hhg rfl
    obtain ⟨ps, x, pf1, pf2, pf3⟩ := aFold hJ hp
    obtain ⟨l, hl, hl2, -⟩ := aTm_a (k := 191) hJ.1 rfl
    have hc := zclamp n0
    have fail : ∀ lo, yR zpg tX3_takesMet d (78, lo, [], m) (fun r m => aJ (aΘ0 (aEm E')) m ∧ aTr (some (.inl (0, 1))) r) := fun lo => by
      refine yR_m 1 (fun _ _ _ _ => rfl) ?_
      exact yR_rz rfl ⟨by decide, by decide⟩ ⟨hJ, 0, rfl, by decide, by decide⟩
    refine yR_m 2 (fun _ _ _ _ => rfl) ?_
    refine yR_ic rfl (fun q => ?_) (fun q => ?_)
    · refine yR_m 3 (fun _ _ _ _ => rfl) ?_
      refine yR_gf rfl hf ha ?_
      refine yR_m 2 (fun _ _ _ _ => rfl) ?_
      have q : decide (n ≤ k) = true := q
      have q := of_decide_eq_true q
      rw [Int32.le_iff_toInt_le] at q
      have e : Bool.and (Bool.and (Nat.beq 0 0) (Nat.beq 0 0)) (Bool.and (Bool.and (!decide ((0 : Int32) < 0)) (Bool.and (!decide ((0 : Int32) < 0)) (!decide (n < 0)))) (Bool.and (Bool.and (Nat.ble (Int32.toNatClampNeg 0 + n.toNatClampNeg) T.length) (Nat.ble (Int32.toNatClampNeg 0 + n.toNatClampNeg) l.length)) (Nat.ble (zwd []) 8))) = true := by
        have z0 : Int32.toNatClampNeg 0 = 0 := rfl
        rw [zneg_f n0, zneg_f (x := 0) (by decide), z0, Nat.ble_eq_true_of_le (by omega), Nat.ble_eq_true_of_le (by omega)]
        rfl
      refine yR_next (st' := (97, [(3, .int k), (0, .ref 185), (1, .ref 1), (2, .int n)], [], m.set 191 (.inl (0, .inl (zcpl T l 0 0 n.toNatClampNeg))))) (f := zcp 0) rfl (fun Y rec κ ρ => ?_) ?_
      · simp only [zcp, hT, hl, e]
        rfl
      · refine yR_m 4 (fun _ _ _ _ => rfl) ?_
        refine yR_pf rfl ((zat_ne_set (by decide)).trans hf) (List.getElem?_eq_some_iff.mp hb).1 rfl ?_
        refine yR_m 1 (fun _ _ _ _ => rfl) ?_
        have hd4 : (n / 4).toInt = n.toInt.tdiv 4 := i32_div (y := 4) (by decide)
        have hd5 : n.toInt.tdiv 4 = n.toInt / 4 := Int.tdiv_eq_ediv_of_nonneg n0
        refine yR_rz rfl ⟨by decide, by decide⟩ ⟨met_end hN hJ hT hl hf n0 n1 (fun j hj => hv j (by omega)) (by show (0 : Int) ≤ (n / 4).toInt; omega) (by show (n / 4).toInt ≤ 16; omega), 1, rfl, by decide, by decide⟩
    · have q : decide (n ≤ k) = false := q
      have q := of_decide_eq_false q
      rw [Int32.le_iff_toInt_le] at q
      have k1 : (k + 1).toInt = k.toInt + 1 := i32_addc rfl (by omega) (by omega)
      have k2 : (k + 2).toInt = k.toInt + 2 := i32_addc rfl (by omega) (by omega)
      have k3 : (k + 3).toInt = k.toInt + 3 := i32_addc rfl (by omega) (by omega)
      have k4 : (k + 4).toInt = k.toInt + 4 := i32_addc rfl (by omega) (by omega)
      refine yR_m 2 (fun _ _ _ _ => rfl) ?_
      refine yR_al rfl hT (by omega) (by omega) ?_
      refine yR_m 1 (fun _ _ _ _ => rfl) ?_
      refine yR_ic rfl (fun _ => fail _) (fun _ => ?_)
      refine yR_m 4 (fun _ _ _ _ => rfl) ?_
      refine yR_al (x := k + 1) rfl hT (by omega) (by omega) ?_
      refine yR_m 1 (fun _ _ _ _ => rfl) ?_
      refine yR_gf rfl hf hh0 ?_
      refine yR_gf rfl hhf hp0 ?_
      refine yR_gf rfl pf1 pf2 ?_
      refine yR_ic rfl (fun _ => fail _) (fun q2 => ?_)
      have q2 : decide (x ≤ T.getD (k + 1).toNatClampNeg 0) = false := q2
      have q2 := of_decide_eq_false q2
      rw [Int32.le_iff_toInt_le] at q2
      have ck := zclamp (x := k + 1) (by omega)
      have ci : (k + 1).toNatClampNeg = 4 * i + 1 := by omega
      rw [ci] at q2
      refine yR_m 1 (fun _ _ _ _ => rfl) ?_
      refine yR_gf rfl hf hh0 ?_
      refine yR_gf rfl hhf hp0 ?_
      refine yR_m 4 (fun _ _ _ _ => rfl) ?_
      refine yR_al (x := k + 2) rfl hT (by omega) (by omega) ?_
      refine yR_m 4 (fun _ _ _ _ => rfl) ?_
      refine yR_al (x := k + 3) rfl hT (by omega) (by omega) ?_
      refine yR_cv rfl rfl pf1 rfl (k0_X4_hasCell h0 d m _ hd hJ ⟨⟨p, hp, rfl⟩, ⟨_, rfl, (i32_b _).1, (i32_b _).2⟩, ⟨_, rfl, (i32_b _).1, (i32_b _).2⟩, trivial⟩) ?_
      rintro r m2 ⟨j1, j2, j3⟩
      obtain ⟨w, rfl, -, -⟩ := aTr_i j3
      refine yR_if rfl (fun _ => ?_) (fun _ => ?_)
      · refine yR_m 2 (fun _ _ _ _ => rfl) ?_
        refine ih (i + 1) (k + 4) m2 (by omega) (by omega) (by omega) j1 ((j2.1 1 rfl).trans hT) (fun j hj => ?_)
        rcases Nat.lt_or_ge j i with hji | hji
        · exact hv j hji
        · have : j = i := by omega
          subst this
          omega
      · refine yR_m 1 (fun _ _ _ _ => rfl) ?_
        exact yR_rz rfl ⟨by decide, by decide⟩ ⟨j1, 0, rfl, by decide, by decide⟩
