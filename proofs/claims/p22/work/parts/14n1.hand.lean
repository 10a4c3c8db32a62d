def aXo : List (Bool × aTy) := match aat aT0 0 with
  | some (.inr o) => o.2
  | _ => []
set_option maxRecDepth 100000 in
theorem aXo_e : aat aT0 0 = some (.inr (11, aXo)) := rfl
theorem aTr_i {q : Int × Int} {r : Option Value} (h : aTr (some (.inl q)) r) : ∃ x : Int32, r = some (.int x) ∧ q.1 ≤ x.toInt ∧ x.toInt ≤ q.2 := by
  cases r with
  | none => exact h.elim
  | some v =>
    obtain ⟨x, rfl, h1, h2⟩ := h
    exact ⟨x, rfl, h1, h2⟩
set_option maxRecDepth 100000 in
/-- takeTape: the count goes over, then it is 0 -/
theorem h_takeT {d : Nat} {mem : zM} {fs : List Value} {n : Int32} (hf : zat mem 0 = some (.inr (11, fs))) (f1 : fs[1]? = some (.int n)) : yC zpg (d + 1) 147 [.ref 0] mem (fun r m => r = some (.int n) ∧ m = mem.set 0 (.inr (11, fs.set 1 (.int 0)))) := by
  refine yC_of (t := tX11_takeTape) rfl rfl ?_
  refine yR_m 1 (fun _ _ _ _ => rfl) ?_
  refine yR_gf rfl hf f1 ?_
  refine yR_m 3 (fun _ _ _ _ => rfl) ?_
  refine yR_pf rfl hf (List.getElem?_eq_some_iff.mp f1).1 rfl ?_
  refine yR_m 1 (fun _ _ _ _ => rfl) ?_
  exact yR_ri rfl ⟨rfl, rfl⟩
/-- the memory behind takeTape -/
def tk0 (m : zM) : zM := match zat m 0 with
  | some (.inr o) => m.set 0 (.inr (o.1, o.2.set 1 (.int 0)))
  | _ => m
theorem tk0_e {m : zM} {fs : List Value} (hf : zat m 0 = some (.inr (11, fs))) : tk0 m = m.set 0 (.inr (11, fs.set 1 (.int 0))) := by
  unfold tk0
  rw [hf]
set_option maxRecDepth 100000 in
theorem h_quay {E : zM → Prop} (hE : aEs (aΘ0 E)) (h1 : aH1 E) (h6 : aH6 E) {d : Nat} (hd : 61 ≤ d) {mem : zM} (hm : aTm aT0 mem) (hJ : aJ (aΘ0 E) (tk0 mem)) : yC zpg (d + 1) 114 [.ref 0] mem (fun r m => aJ (aΘ0 E) m ∧ ∃ v : Int32, r = some (.int v)) := by
  obtain ⟨gs, hf, hg0⟩ := aTm_o hm aXo_e
  obtain ⟨_, f1, n, rfl, n0, n1⟩ := aTf_at (i := 1) hg0 rfl
  obtain ⟨d, rfl⟩ : ∃ w, d = w + 1 := ⟨d - 1, by omega⟩
  refine yC_of (t := tX11_quay) rfl rfl ?_
  refine yR_m 1 (fun _ _ _ _ => rfl) ?_
  refine yR_cv rfl rfl hf rfl (h_takeT hf f1) ?_
  rintro r m ⟨rfl, rfl⟩
  rw [tk0_e hf] at hJ
  have hJ1 := hJ
  obtain ⟨gs, hf, hg⟩ := aTm_o hJ1.1 aXo_e
  obtain ⟨a, ha, ha1⟩ := aTf_at (i := 6) hg rfl
  have ha2 := aTv_r ha1
  subst ha2
  obtain ⟨b, hb, hb1⟩ := aTf_at (i := 0) hg rfl
  have hb2 := aTv_r hb1
  subst hb2
  obtain ⟨c, hc, q, hq, rfl⟩ := aTf_at (i := 5) hg rfl
  obtain ⟨ss, hs, -⟩ := aTm_o hJ1.1 aSo_e
  refine yR_m 2 (fun _ _ _ _ => rfl) ?_
  refine yR_gf rfl hf ha ?_
  refine yR_m 1 (fun _ _ _ _ => rfl) ?_
  refine yR_gf rfl hf hb ?_
  refine yR_m 2 (fun _ _ _ _ => rfl) ?_
  refine yR_gf rfl hf hc ?_
  obtain ⟨d', rfl⟩ : ∃ w, d = w + 1 := ⟨d - 1, by omega⟩
  refine yR_cv rfl rfl hs rfl (h_reads hE h1 h6 (by omega) hJ1 n0 n1 hq) ?_
  rintro r m2 ⟨j4, j5⟩
  obtain ⟨v, rfl, -, -⟩ := aTr_i j5
  have hJ2 := aJ_06 (aJ_10 j4)
  have hl : aLt [(0, .inr (some [0])), (1, .inl (0, 1600))] [(1, .int n), (0, .ref 0)] := List.forall_mem_cons.mpr ⟨⟨.ref 0, rfl, 0, List.mem_singleton.mpr rfl, rfl⟩, List.forall_mem_cons.mpr ⟨⟨.int n, rfl, n, rfl, n0, n1⟩, fun q hq => absurd hq List.not_mem_nil⟩⟩
  have fin : ∀ (r : Option Value) (m : zM), aJ (aΘ6 E) m ∧ aPr aT6 m2 m ∧ aTr (some (.inl (-2147483648, 2147483647))) r → aJ (aΘ0 E) m ∧ ∃ v : Int32, r = some (.int v) := by
    rintro r m ⟨a1, -, a3⟩
    obtain ⟨x, rfl, -, -⟩ := aTr_i a3
    exact ⟨aJ_60 a1, x, rfl⟩
  refine yR_if rfl (fun _ => ?_) (fun _ => ?_)
  · exact yR_mono fin (aSeg (Θ := aΘ6 E) (τ := some (.inl (-2147483648, 2147483647))) (q8_g_quay h6) s8_g_quay (by omega) _ _ (List.mem_cons_of_mem _ List.mem_cons_self) rfl rfl hl hJ2 aPr_rf (by show (0 : Int) ≤ 0 + 1000000000; omega))
  · exact yR_mono fin (aSeg (Θ := aΘ6 E) (τ := some (.inl (-2147483648, 2147483647))) (q8_g_quay h6) s8_g_quay (by omega) _ _ List.mem_cons_self rfl rfl hl hJ2 aPr_rf (by show (0 : Int) ≤ 0 + 1000000000; omega))
