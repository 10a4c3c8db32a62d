/-! seed of both: the answer is the same -/
section SD
variable {d : Nat} {mem : zM}
def sdA (x : Int32) (r : Option Value) : Prop := (x.toInt < 0 ∧ r = some (.int 0)) ∨ (0 ≤ x.toInt ∧ r = some (.int 1))
set_option maxRecDepth 100000 in
theorem w_sd_c {d : Nat} {mem : zM} {P : Option Value → zM → Prop} {x : Int32} (hm : aTm aT0 mem) (h1 : 0 ≤ (x).toInt → aTm aT0 (si mem 0 15 x) → P (some (.int 1)) (si mem 0 15 x)) (h2 : (x).toInt < 0 → ∀ (y2 : Int32), y2.toInt = (gn (ga mem 220) 5) → aTm aT0 (sx mem 220 5 (y2 + 1)) → P (some (.int 0)) (sx mem 220 5 (y2 + 1))) : yR zpg tX11_seed (d + 1) (0, [(0, .ref 0), (1, .int x)], [], mem) P := by
  refine yR_m 1 (fun _ _ _ _ => rfl) ?_
  refine wR_if_ge rfl (a := (x).toInt) rfl (fun q1 => ?_) (fun q1 => ?_)
  ·
    refine yR_m 2 (fun _ _ _ _ => rfl) ?_
    refine wR_pi rfl cO_e cO_15 hm rfl ?_
    have hm_1 : aTm aT0 (si mem 0 15 x) := tm_si cO_e cO_15 hm (i32_b _)
    refine yR_m 1 (fun _ _ _ _ => rfl) ?_
    exact yR_rz rfl ⟨by decide, by decide⟩ (h1 q1 hm_1)
  ·
    refine yR_m 2 (fun _ _ _ _ => rfl) ?_
    refine wR_iv rfl rfl cO_e hm rfl rfl rfl rfl ?_
    show yR zpg tX11_refused d (0, [(0, .ref 0), (1, .int 5)], [], mem) _
    refine yR_m 1 (fun _ _ _ _ => rfl) ?_
    refine wR_gr rfl cO_e cO_14 hm ?_
    refine yR_m 2 (fun _ _ _ _ => rfl) ?_
    refine wN_al (a := 5) rfl aR_220 hm rfl rfl (by decide) (fun y2 e3 => ?_)
    refine yR_m 2 (fun _ _ _ _ => rfl) ?_
    refine wN_as (a := 5) rfl aR_220 hm rfl (by decide) ?_
    have hm_2 : aTm aT0 (sx mem 220 5 (y2 + 1)) := tm_sa aR_220 hm (i32_b _)
    refine yR_m 1 (fun _ _ _ _ => rfl) ?_
    refine yR_rz rfl ⟨by decide, by decide⟩ ?_
    show yR zpg tX11_seed (d + 1) (9, [(0, .ref 0), (1, .int x)], [.int 0], (sx mem 220 5 (y2 + 1))) _
    exact yR_rz rfl ⟨by decide, by decide⟩ (h2 q1 y2 e3 hm_2)

theorem h_seed_c {x : Int32} (hm : aTm aT0 mem) (hd : 2 ≤ d) : yC zpg d 138 [.ref 0, .int x] mem (fun r m => sdA x r ∧ aTm aT0 m ∧ frK mem m) := by
  obtain ⟨d, rfl⟩ : ∃ q, d = q + 2 := ⟨d - 2, by omega⟩
  refine yC_of (t := tX11_seed) rfl rfl ?_
  exact w_sd_c hm
        (fun q1 hm => ⟨Or.inr ⟨by omega, rfl⟩, hm, frK_sv (by decide) (frK_rf)⟩)
        (fun q1 y2 e3 hm => ⟨Or.inl ⟨by omega, rfl⟩, hm, frK_sa (by decide) (frK_rf)⟩)
set_option maxRecDepth 100000 in
theorem w_sd_m {d : Nat} {mem : zM} {P : Option Value → zM → Prop} {x : Int32} (hm : aTm aT0 mem) (h1 : 0 ≤ (x).toInt → aTm aT0 (sL mem 221 56 (x : Int32).toInt64) → P (some (.int 1)) (sL mem 221 56 (x : Int32).toInt64)) (h2 : (x).toInt < 0 → ∀ (y2 : Int32), y2.toInt = (gn (ga mem 248) 5) → aTm aT0 (sx mem 248 5 (y2 + 1)) → P (some (.int 0)) (sx mem 248 5 (y2 + 1))) : yR zpg tX12_seed (d + 1) (0, [(0, .ref 221), (1, .int x)], [], mem) P := by
  refine yR_m 1 (fun _ _ _ _ => rfl) ?_
  refine wR_if_ge rfl (a := (x).toInt) rfl (fun q1 => ?_) (fun q1 => ?_)
  ·
    refine yR_m 3 (fun _ _ _ _ => rfl) ?_
    refine wR_pL rfl mO_e mO_56 hm ?_
    have hm_1 : aTm aT0 (sL mem 221 56 (x : Int32).toInt64) := tm_sL mO_e mO_56 hm
    refine yR_m 1 (fun _ _ _ _ => rfl) ?_
    exact yR_rz rfl ⟨by decide, by decide⟩ (h1 q1 hm_1)
  ·
    refine yR_m 2 (fun _ _ _ _ => rfl) ?_
    refine wR_iv rfl rfl mO_e hm rfl rfl rfl rfl ?_
    show yR zpg tX12_refuses d (0, [(0, .ref 221), (1, .int 5)], [], mem) _
    refine yR_m 1 (fun _ _ _ _ => rfl) ?_
    refine wR_gr rfl mO_e mO_47 hm ?_
    refine yR_m 2 (fun _ _ _ _ => rfl) ?_
    refine wN_al (a := 5) rfl aR_248 hm rfl rfl (by decide) (fun y2 e3 => ?_)
    refine yR_m 2 (fun _ _ _ _ => rfl) ?_
    refine wN_as (a := 5) rfl aR_248 hm rfl (by decide) ?_
    have hm_2 : aTm aT0 (sx mem 248 5 (y2 + 1)) := tm_sa aR_248 hm (i32_b _)
    refine yR_m 1 (fun _ _ _ _ => rfl) ?_
    refine yR_ri rfl ?_
    show yR zpg tX12_seed (d + 1) (9, [(0, .ref 221), (1, .int x)], [.int (-1)], (sx mem 248 5 (y2 + 1))) _
    refine wR_if_lt rfl (a := (-1)) tm1 (fun _ => ?_) (fun q => by exfalso; omega)
    refine yR_m 1 (fun _ _ _ _ => rfl) ?_
    exact yR_rz rfl ⟨by decide, by decide⟩ (h2 q1 y2 e3 hm_2)

theorem h_seed_m {x : Int32} (hm : aTm aT0 mem) (hd : 2 ≤ d) : yC zpg d 271 [.ref 221, .int x] mem (fun r m => sdA x r ∧ aTm aT0 m ∧ fr [248] [56] mem m) := by
  obtain ⟨d, rfl⟩ : ∃ q, d = q + 2 := ⟨d - 2, by omega⟩
  refine yC_of (t := tX12_seed) rfl rfl ?_
  exact w_sd_m hm
        (fun q1 hm => ⟨Or.inr ⟨by omega, rfl⟩, hm, fr_sv rfl (fr_rf)⟩)
        (fun q1 y2 e3 hm => ⟨Or.inl ⟨by omega, rfl⟩, hm, fr_sa rfl (fr_rf)⟩)
end SD
