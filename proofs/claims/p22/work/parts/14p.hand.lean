/-! the model's draw -/
abbrev c_X12_draw : aCt := (265, [.inr (some [221]), .inl (1, 2147483647)], some (.inl (-2147483648, 2147483647)))
def aMo0 : List (Bool × aTy) := match aat aT0 221 with
  | some (.inr o) => o.2
  | _ => []
set_option maxRecDepth 100000 in
theorem aMo0_e : aat aT0 221 = some (.inr (12, aMo0)) := rfl
set_option maxRecDepth 100000 in
theorem aMo0_s : aMo0[56]? = some (false, .inr none) := rfl
set_option maxRecDepth 100000 in
theorem h_draw {E : zM → Prop} (hE : aEs (aΘ0 E)) : aCv (aΘ0 E) 1 c_X12_draw := by
  intro d mem av hd hJ hav
  obtain ⟨d, rfl⟩ : ∃ q, d = q + 1 := ⟨d - 1, by omega⟩
  cases av with
  | nil => exact hav.elim
  | cons a r =>
    obtain ⟨a1, a2⟩ := hav
    have a3 := aTv_r a1
    subst a3
    obtain ⟨i, rfl, i0, -⟩ := aTv_1 a2
    obtain ⟨fs, hf, hg⟩ := aTm_o hJ.1 aMo0_e
    obtain ⟨_, hs, s, rfl⟩ := aTf_at (i := 56) hg aMo0_s
    have hl := (List.getElem?_eq_some_iff.mp hs).1
    refine yC_of (t := tX12_draw) rfl rfl ?_
    refine yR_m 3 (fun _ _ _ _ => rfl) ?_
    refine yR_gf rfl hf hs ?_
    refine yR_m 5 (fun _ _ _ _ => rfl) ?_
    refine yR_pf rfl hf hl rfl ?_
    obtain ⟨j1, j2⟩ := aJ_pf (τ := .inr none) (i := 56) hE hJ aMo0_e aMo0_s hf (x := .long _) ⟨_, rfl⟩
    refine yR_m 1 (fun _ _ _ _ => rfl) ?_
    refine yR_gf rfl (zat_eq_set hf) (List.getElem?_set_self hl) ?_
    refine yR_m 4 (fun _ _ _ _ => rfl) ?_
    have hy : decide (i.toInt64 = 0) = false := decide_eq_false (fun q => by
      have e : (i.toInt64).toInt = i.toInt := Int32.toInt_toInt64 i
      have z : (0 : Int64).toInt = 0 := rfl
      rw [q, z] at e
      have i0 : (1 : Int) ≤ i.toInt := i0
      omega)
    refine yR_next (f := zst 1 z_lrem) rfl (fun Y rec κ ρ => by simp only [zst, zdl, hy]; rfl) ?_
    refine yR_m 1 (fun _ _ _ _ => rfl) ?_
    exact yR_ri rfl ⟨j1, j2, _, rfl, (i32_b _).1, (i32_b _).2⟩
