set_option maxRecDepth 100000 in
theorem w_rank {d : Nat} {mem : zM} {P : Option Value → zM → Prop} {x : Int32} (hm : aTm aT0 mem) (h1 : ¬ (x).toInt = 42 → ¬ (x).toInt = 41 → ¬ (x).toInt = 43 → (x).toInt = 38 → aTm aT0 mem → P (some (.int 4)) mem) (h2 : ¬ (x).toInt = 42 → ¬ (x).toInt = 41 → ¬ (x).toInt = 43 → ¬ (x).toInt = 38 → (x).toInt = 39 → aTm aT0 mem → P (some (.int 4)) mem) (h3 : ¬ (x).toInt = 42 → ¬ (x).toInt = 41 → ¬ (x).toInt = 43 → ¬ (x).toInt = 38 → ¬ (x).toInt = 39 → ¬ (x).toInt = 40 → (x).toInt = 31 → aTm aT0 mem → P (some (.int 5)) mem) (h4 : ¬ (x).toInt = 42 → ¬ (x).toInt = 41 → ¬ (x).toInt = 43 → ¬ (x).toInt = 38 → ¬ (x).toInt = 39 → ¬ (x).toInt = 40 → ¬ (x).toInt = 31 → ¬ (x).toInt = 32 → aTm aT0 mem → P (some (.int 6)) mem) (h5 : ¬ (x).toInt = 42 → ¬ (x).toInt = 41 → ¬ (x).toInt = 43 → ¬ (x).toInt = 38 → ¬ (x).toInt = 39 → ¬ (x).toInt = 40 → ¬ (x).toInt = 31 → (x).toInt = 32 → aTm aT0 mem → P (some (.int 5)) mem) (h6 : ¬ (x).toInt = 42 → ¬ (x).toInt = 41 → ¬ (x).toInt = 43 → ¬ (x).toInt = 38 → ¬ (x).toInt = 39 → (x).toInt = 40 → aTm aT0 mem → P (some (.int 4)) mem) (h7 : ¬ (x).toInt = 42 → ¬ (x).toInt = 41 → (x).toInt = 43 → aTm aT0 mem → P (some (.int 3)) mem) (h8 : ¬ (x).toInt = 42 → (x).toInt = 41 → aTm aT0 mem → P (some (.int 2)) mem) (h9 : (x).toInt = 42 → aTm aT0 mem → P (some (.int 1)) mem) : yR zpg tX12_rank d (0, [(0, .int x)], [], mem) P := by
  refine yR_m 2 (fun _ _ _ _ => rfl) ?_
  refine wR_ic_ne rfl (a := (x).toInt) (c := 42) rfl rfl (fun q1 => ?_) (fun q1 => ?_)
  ·
    refine yR_m 2 (fun _ _ _ _ => rfl) ?_
    refine wR_ic_ne rfl (a := (x).toInt) (c := 41) rfl rfl (fun q2 => ?_) (fun q2 => ?_)
    ·
      refine yR_m 2 (fun _ _ _ _ => rfl) ?_
      refine wR_ic_ne rfl (a := (x).toInt) (c := 43) rfl rfl (fun q3 => ?_) (fun q3 => ?_)
      ·
        refine yR_m 2 (fun _ _ _ _ => rfl) ?_
        refine wR_ic_eq rfl (a := (x).toInt) (c := 38) rfl rfl (fun q4 => ?_) (fun q4 => ?_)
        ·
          refine yR_m 2 (fun _ _ _ _ => rfl) ?_
          exact yR_ri rfl (h1 q1 q2 q3 q4 hm)
        ·
          refine yR_m 2 (fun _ _ _ _ => rfl) ?_
          refine wR_ic_eq rfl (a := (x).toInt) (c := 39) rfl rfl (fun q5 => ?_) (fun q5 => ?_)
          ·
            refine yR_m 2 (fun _ _ _ _ => rfl) ?_
            exact yR_ri rfl (h2 q1 q2 q3 q4 q5 hm)
          ·
            refine yR_m 2 (fun _ _ _ _ => rfl) ?_
            refine wR_ic_ne rfl (a := (x).toInt) (c := 40) rfl rfl (fun q6 => ?_) (fun q6 => ?_)
            ·
              refine yR_m 2 (fun _ _ _ _ => rfl) ?_
              refine wR_ic_eq rfl (a := (x).toInt) (c := 31) rfl rfl (fun q7 => ?_) (fun q7 => ?_)
              ·
                refine yR_m 2 (fun _ _ _ _ => rfl) ?_
                exact yR_ri rfl (h3 q1 q2 q3 q4 q5 q6 q7 hm)
              ·
                refine yR_m 2 (fun _ _ _ _ => rfl) ?_
                refine wR_ic_ne rfl (a := (x).toInt) (c := 32) rfl rfl (fun q8 => ?_) (fun q8 => ?_)
                ·
                  refine yR_m 1 (fun _ _ _ _ => rfl) ?_
                  exact yR_ri rfl (h4 q1 q2 q3 q4 q5 q6 q7 q8 hm)
                ·
                  refine yR_m 2 (fun _ _ _ _ => rfl) ?_
                  exact yR_ri rfl (h5 q1 q2 q3 q4 q5 q6 q7 q8 hm)
            ·
              refine yR_m 2 (fun _ _ _ _ => rfl) ?_
              exact yR_ri rfl (h6 q1 q2 q3 q4 q5 q6 hm)
      ·
        refine yR_m 2 (fun _ _ _ _ => rfl) ?_
        exact yR_ri rfl (h7 q1 q2 q3 hm)
    ·
      refine yR_m 2 (fun _ _ _ _ => rfl) ?_
      exact yR_ri rfl (h8 q1 q2 hm)
  ·
    refine yR_m 2 (fun _ _ _ _ => rfl) ?_
    exact yR_ri rfl (h9 q1 hm)

set_option maxRecDepth 100000 in
theorem w_isTest {d : Nat} {mem : zM} {P : Option Value → zM → Prop} {x : Int32} (hm : aTm aT0 mem) (h1 : (x).toInt = 1 → aTm aT0 mem → P (some (.int 1)) mem) (h2 : ¬ (x).toInt = 1 → (x).toInt = 5 → aTm aT0 mem → P (some (.int 1)) mem) (h3 : ¬ (x).toInt = 1 → ¬ (x).toInt = 5 → ¬ (x).toInt = 6 → aTm aT0 mem → P (some (.int 0)) mem) (h4 : ¬ (x).toInt = 1 → ¬ (x).toInt = 5 → (x).toInt = 6 → aTm aT0 mem → P (some (.int 1)) mem) : yR zpg tX12_isTest d (0, [(0, .int x)], [], mem) P := by
  refine yR_m 2 (fun _ _ _ _ => rfl) ?_
  refine wR_ic_eq rfl (a := (x).toInt) (c := 1) rfl rfl (fun q1 => ?_) (fun q1 => ?_)
  ·
    refine yR_m 2 (fun _ _ _ _ => rfl) ?_
    exact yR_rz rfl ⟨by decide, by decide⟩ (h1 q1 hm)
  ·
    refine yR_m 2 (fun _ _ _ _ => rfl) ?_
    refine wR_ic_eq rfl (a := (x).toInt) (c := 5) rfl rfl (fun q2 => ?_) (fun q2 => ?_)
    ·
      refine yR_m 2 (fun _ _ _ _ => rfl) ?_
      exact yR_rz rfl ⟨by decide, by decide⟩ (h2 q1 q2 hm)
    ·
      refine yR_m 2 (fun _ _ _ _ => rfl) ?_
      refine wR_ic_ne rfl (a := (x).toInt) (c := 6) rfl rfl (fun q3 => ?_) (fun q3 => ?_)
      ·
        refine yR_m 1 (fun _ _ _ _ => rfl) ?_
        exact yR_rz rfl ⟨by decide, by decide⟩ (h3 q1 q2 q3 hm)
      ·
        refine yR_m 2 (fun _ _ _ _ => rfl) ?_
        exact yR_rz rfl ⟨by decide, by decide⟩ (h4 q1 q2 q3 hm)

