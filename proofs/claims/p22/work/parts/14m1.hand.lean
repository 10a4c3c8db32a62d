def aSo : List (Bool × aTy) := match aat aT0 26 with
  | some (.inr o) => o.2
  | _ => []
set_option maxRecDepth 100000 in
theorem aSo_e : aat aT0 26 = some (.inr (9, aSo)) := rfl
theorem aTv_r {k : Nat} {x : Value} (h : aTv (.inr (some [k])) x) : x = .ref k := by
  obtain ⟨y, h1, rfl⟩ := h
  rw [List.mem_singleton.mp h1]
set_option maxRecDepth 100000 in
theorem aIs_q {q : Nat} (hq : q ∈ [2, 14]) : aIs aT0 4 q = true := by
  rcases List.mem_cons.mp hq with rfl | hq
  · decide +kernel
  · rw [List.mem_singleton] at hq
    subst hq
    decide +kernel
theorem aJ_60 {E : zM → Prop} {m : zM} (h : aJ (aΘ6 E) m) : aJ (aΘ0 E) m := ⟨aLq_s aLq_d h.1, h.2⟩
theorem aJ_06 {E : zM → Prop} {m : zM} (h : aJ (aΘ0 E) m) : aJ (aΘ6 E) m := ⟨aLq_s aLq_c h.1, h.2⟩
theorem aJ_10 {E : zM → Prop} {m : zM} (h : aJ (aΘ1 E) m) : aJ (aΘ0 E) m := ⟨aLw_s aLw_10 h.1, h.2⟩
set_option maxRecDepth 100000 in
theorem h_reads {E : zM → Prop} (hE : aEs (aΘ0 E)) (h1 : aH1 E) (h6 : aH6 E) {d : Nat} (hd : 60 ≤ d) {mem : zM} (hJ : aJ (aΘ0 E) mem) {n : Int32} (n0 : 0 ≤ n.toInt) (n1 : n.toInt ≤ 1600) {q : Nat} (hq : q ∈ [2, 14]) : yC zpg (d + 1) 86 [.ref 26, .ref 1, .int n, .ref q] mem (fun r m => aJ (aΘ1 E) m ∧ aTr (some (.inl (0, 1))) r) := by
  obtain ⟨gs, hf, hg⟩ := aTm_o hJ.1 aSo_e
  obtain ⟨y, hy, -⟩ := aTf_at (i := 2) hg rfl
  have yl := (List.getElem?_eq_some_iff.mp hy).1
  refine yC_of (t := tX9_reads) rfl rfl ?_
  refine yR_m 2 (fun _ _ _ _ => rfl) ?_
  refine yR_pf rfl hf yl rfl ?_
  obtain ⟨hJ1, -⟩ := aJ_pf (τ := .inr (some [2, 14])) (i := 2) (x := .ref q) hE hJ aSo_e rfl hf ⟨q, hq, rfl⟩
  refine yR_m 1 (fun _ _ _ _ => rfl) ?_
  refine yR_gf rfl (zat_eq_set hf) (List.getElem?_set_self yl) ?_
  obtain ⟨qs, hqs⟩ := aIs_s (aIs_q hq) hJ1.1
  refine yR_cv rfl rfl hqs rfl (k6_X4_clear h6 d _ [.ref q] (by omega) (aJ_06 hJ1) ⟨⟨q, hq, rfl⟩, trivial⟩) ?_
  rintro r m ⟨j1, -, j3⟩
  cases r with
  | some x => exact j3.elim
  | none =>
    have hJ2 := aJ_60 j1
    obtain ⟨gs2, hf2, hg2⟩ := aTm_o hJ2.1 aSo_e
    obtain ⟨z, hz, hz1⟩ := aTf_at (i := 0) hg2 rfl
    have hz2 := aTv_r hz1
    subst hz2
    obtain ⟨fs2, hf3, -⟩ := aTm_o hJ2.1 aRo_e
    refine yR_m 1 (fun _ _ _ _ => rfl) ?_
    refine yR_gf rfl hf2 hz ?_
    refine yR_m 2 (fun _ _ _ _ => rfl) ?_
    obtain ⟨d', rfl⟩ : ∃ w, d = w + 1 := ⟨d - 1, by omega⟩
    refine yR_cv rfl rfl hf3 rfl (h_begin hE h1 (by omega) hJ2 n0 n1) ?_
    rintro r m3 ⟨rfl, hJ3⟩
    refine yR_mono ?_ (aSeg (Θ := aΘ1 E) (τ := some (.inl (0, 1))) (q7_g_reads h1) s7_g_reads hd _ _ List.mem_cons_self rfl rfl (List.forall_mem_cons.mpr ⟨⟨.ref 26, rfl, 26, List.mem_singleton.mpr rfl, rfl⟩, List.forall_mem_cons.mpr ⟨⟨.ref 1, rfl, 1, List.mem_singleton.mpr rfl, rfl⟩, List.forall_mem_cons.mpr ⟨⟨.int n, rfl, n, rfl, n0, n1⟩, List.forall_mem_cons.mpr ⟨⟨.ref q, rfl, q, hq, rfl⟩, fun q hq => absurd hq List.not_mem_nil⟩⟩⟩⟩) hJ3 aPr_rf (by show (0 : Int) ≤ 0 + 1000000000; omega))
    rintro r m ⟨a1, -, a3⟩
    exact ⟨a1, a3⟩
