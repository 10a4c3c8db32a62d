set_option maxRecDepth 100000 in
theorem h_takesMet {E' : zM → Prop} (hN : aNo E' [191, 185]) (h0 : aH0 (aEm E')) {d : Nat} (hd : 1 ≤ d) {mem : zM} (hJ : aJ (aΘ0 (aEm E')) mem) {n : Int32} (n0 : 0 ≤ n.toInt) : yC zpg (d + 1) 40 [.ref 185, .ref 1, .int n] mem (fun r m => aJ (aΘ0 (aEm E')) m ∧ aTr (some (.inl (0, 1))) r) := by
  obtain ⟨fs, hf, hg⟩ := aTm_o hJ.1 aPo_e
  obtain ⟨a, ha, ha1⟩ := aTf_at (i := 8) hg rfl
  have ha2 := aTv_r ha1
  subst ha2
  obtain ⟨l, hl, hl2, -⟩ := aTm_a (k := 191) hJ.1 rfl
  obtain ⟨T, hT, hT2, -⟩ := aTm_a (k := 1) hJ.1 rfl
  have fail : ∀ lo, yR zpg tX3_takesMet d (20, lo, [], mem) (fun r m => aJ (aΘ0 (aEm E')) m ∧ aTr (some (.inl (0, 1))) r) := fun lo => by
    refine yR_m 1 (fun _ _ _ _ => rfl) ?_
    exact yR_rz rfl ⟨by decide, by decide⟩ ⟨hJ, 0, rfl, by decide, by decide⟩
  refine yC_of (t := tX3_takesMet) rfl rfl ?_
  refine yR_m 2 (fun _ _ _ _ => rfl) ?_
  refine yR_ic rfl (fun _ => fail _) (fun _ => ?_)
  refine yR_m 2 (fun _ _ _ _ => rfl) ?_
  refine yR_gf rfl hf ha ?_
  refine yR_next (st' := (11, [(0, .ref 185), (1, .ref 1), (2, .int n)], [.int (Int32.ofNat 64), .int n], mem)) (f := zle4 0) rfl (fun Y rec κ ρ => ?_) ?_
  · simp only [zle4, hl, zbq, cond_true, zaz, hl2]
    rfl
  · refine yR_ic rfl (fun _ => fail _) (fun q => ?_)
    have q : decide (Int32.ofNat 64 < n) = false := q
    have q := of_decide_eq_false q
    rw [Int32.lt_iff_toInt_lt] at q
    have e64 : (Int32.ofNat 64).toInt = 64 := by decide
    rw [e64] at q
    refine yR_m 3 (fun _ _ _ _ => rfl) ?_
    refine yR_if rfl (fun _ => ?_) (fun _ => fail _)
    refine yR_m 2 (fun _ _ _ _ => rfl) ?_
    exact met_loop hN h0 hd hT2 n0 (by omega) 16 0 0 mem (by decide) (by omega) (by decide) hJ hT (fun j hj => absurd hj (by omega))
theorem aJ_7a {E : zM → Prop} {m : zM} (h : aJ (aΘ0 E) m) : aJ (aΘ7 E) m := ⟨aLq_s aLq_e h.1, h.2⟩
theorem aJ_7b {E : zM → Prop} {m : zM} (h : aJ (aΘ7 E) m) : aJ (aΘ0 E) m := ⟨aLq_s aLq_f h.1, h.2⟩
set_option maxRecDepth 100000 in
theorem h_meet {E' : zM → Prop} (hN : aNo E' [191, 185]) (h0 : aH0 (aEm E')) (h6 : aH7 (aEm E')) {d : Nat} (hd : 2 ≤ d) {mem : zM} (hm : aTm aT0 mem) (hJ : aJ (aΘ0 (aEm E')) (tk0 mem)) : yC zpg (d + 1) 129 [.ref 0] mem (fun r m => aJ (aΘ0 (aEm E')) m ∧ ∃ v : Int32, r = some (.int v)) := by
  obtain ⟨gs, hf, hg0⟩ := aTm_o hm aXo_e
  obtain ⟨_, f1, n, rfl, n0, n1⟩ := aTf_at (i := 1) hg0 rfl
  obtain ⟨d, rfl⟩ : ∃ w, d = w + 1 := ⟨d - 1, by omega⟩
  refine yC_of (t := tX11_meet) rfl rfl ?_
  refine yR_m 1 (fun _ _ _ _ => rfl) ?_
  refine yR_cv rfl rfl hf rfl (h_takeT hf f1) ?_
  rintro r m ⟨rfl, rfl⟩
  rw [tk0_e hf] at hJ
  have hJ1 := hJ
  obtain ⟨gs, hf, hg⟩ := aTm_o hJ1.1 aXo_e
  obtain ⟨a, ha, ha1⟩ := aTf_at (i := 11) hg rfl
  have ha2 := aTv_r ha1
  subst ha2
  obtain ⟨b, hb, hb1⟩ := aTf_at (i := 0) hg rfl
  have hb2 := aTv_r hb1
  subst hb2
  obtain ⟨ss, hs, -⟩ := aTm_o hJ1.1 aPo_e
  refine yR_m 2 (fun _ _ _ _ => rfl) ?_
  refine yR_gf rfl hf ha ?_
  refine yR_m 1 (fun _ _ _ _ => rfl) ?_
  refine yR_gf rfl hf hb ?_
  refine yR_m 1 (fun _ _ _ _ => rfl) ?_
  obtain ⟨d', rfl⟩ : ∃ w, d = w + 1 := ⟨d - 1, by omega⟩
  refine yR_cv rfl rfl hs rfl (h_takesMet hN h0 (by omega) hJ1 n0) ?_
  rintro r m2 ⟨hJ2, j5⟩
  obtain ⟨v, rfl, -, -⟩ := aTr_i j5
  obtain ⟨gs, hf, hg⟩ := aTm_o hJ2.1 aXo_e
  obtain ⟨a, ha, ha1⟩ := aTf_at (i := 11) hg rfl
  have ha2 := aTv_r ha1
  subst ha2
  obtain ⟨ss, hs, hsg⟩ := aTm_o hJ2.1 aPo_e
  obtain ⟨c, hc, x, rfl, -, -⟩ := aTf_at (i := 9) hsg rfl
  refine yR_if rfl (fun _ => ?_) (fun _ => ?_)
  · refine yR_m 2 (fun _ _ _ _ => rfl) ?_
    refine yR_cv rfl rfl hf rfl (k7_X11_refuse h6 _ _ [.ref 0, .int 5] (by omega) (aJ_7a hJ2) ⟨⟨0, List.mem_singleton.mpr rfl, rfl⟩, ⟨5, rfl, by decide, by decide⟩, trivial⟩) ?_
    rintro r m3 ⟨j6, -, j7⟩
    obtain ⟨w, rfl, -, -⟩ := aTr_i j7
    exact yR_ri rfl ⟨aJ_7b j6, w, rfl⟩
  · refine yR_m 1 (fun _ _ _ _ => rfl) ?_
    refine yR_gf rfl hf ha ?_
    refine yR_gf rfl hs hc ?_
    refine yR_m 1 (fun _ _ _ _ => rfl) ?_
    exact yR_ri rfl ⟨hJ2, x, rfl⟩
