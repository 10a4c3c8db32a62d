set_option maxRecDepth 100000 in
theorem w_floor {d : Nat} {mem : zM} {P : Option Value → zM → Prop} {a b : Int64} (hm : aTm aT0 mem) (h1 : aTm aT0 mem → P (some (.long (a / b))) mem) (h2 : aTm aT0 mem → P (some (.long ((a / b) - 1))) mem) (h3 : aTm aT0 mem → P (some (.long 0)) mem) : yR zpg tX12_floor d (0, [(0, .long a), (2, .long b)], [], mem) P := by
  refine yR_m 3 (fun _ _ _ _ => rfl) ?_
  refine wR_lf_ne rfl (fun q1 => ?_) (fun q1 => ?_)
  ·
    refine yR_m 2 (fun _ _ _ _ => rfl) ?_
    refine wR_ldz rfl q1 ?_
    refine yR_m 3 (fun _ _ _ _ => rfl) ?_
    refine wR_ldz rfl q1 ?_
    refine yR_m 2 (fun _ _ _ _ => rfl) ?_
    refine wR_lf_eq rfl (fun q2 => ?_) (fun q2 => ?_)
    ·
      refine yR_m 1 (fun _ _ _ _ => rfl) ?_
      exact yR_rl rfl (h1 hm)
    ·
      refine yR_m 3 (fun _ _ _ _ => rfl) ?_
      refine wR_lf_ge rfl (fun q3 => ?_) (fun q3 => ?_)
      ·
        refine yR_m 4 (fun _ _ _ _ => rfl) ?_
        refine wR_lf_ge rfl (fun q4 => ?_) (fun q4 => ?_)
        ·
          refine yR_m 1 (fun _ _ _ _ => rfl) ?_
          refine wR_ic_eq rfl (a := 0) (c := 0) rfl rfl (fun _ => ?_) (fun q => by exfalso; omega)
          refine yR_m 1 (fun _ _ _ _ => rfl) ?_
          exact yR_rl rfl (h1 hm)
        ·
          refine yR_m 2 (fun _ _ _ _ => rfl) ?_
          refine wR_ic_eq rfl (a := 0) (c := 1) rfl rfl (fun q => by exfalso; omega) (fun _ => ?_)
          refine yR_m 4 (fun _ _ _ _ => rfl) ?_
          exact yR_rl rfl (h2 hm)
      ·
        refine yR_m 5 (fun _ _ _ _ => rfl) ?_
        refine wR_lf_ge rfl (fun q5 => ?_) (fun q5 => ?_)
        ·
          refine yR_m 1 (fun _ _ _ _ => rfl) ?_
          refine wR_ic_eq rfl (a := 1) (c := 0) rfl rfl (fun q => by exfalso; omega) (fun _ => ?_)
          refine yR_m 4 (fun _ _ _ _ => rfl) ?_
          exact yR_rl rfl (h2 hm)
        ·
          refine yR_m 2 (fun _ _ _ _ => rfl) ?_
          refine wR_ic_eq rfl (a := 1) (c := 1) rfl rfl (fun _ => ?_) (fun q => by exfalso; omega)
          refine yR_m 1 (fun _ _ _ _ => rfl) ?_
          exact yR_rl rfl (h1 hm)
  ·
    refine yR_m 1 (fun _ _ _ _ => rfl) ?_
    exact yR_rl rfl (h3 hm)

set_option maxRecDepth 100000 in
theorem w_two {d : Nat} {mem : zM} {P : Option Value → zM → Prop} {s : Int32} {a b : Int64} (hm : aTm aT0 mem) (h1 : aTm aT0 mem → P (some (.long (a + b))) mem) (h2 : aTm aT0 mem → P (some (.long (-1000000))) mem) (h3 : aTm aT0 mem → P (some (.long 1000000)) mem) (h4 : aTm aT0 mem → P (some (.long (a - b))) mem) (h5 : aTm aT0 mem → P (some (.long (a * b))) mem) (h6 : aTm aT0 mem → P (some (.long (a / b))) mem) (h7 : aTm aT0 mem → P (some (.long ((a / b) - 1))) mem) (h8 : aTm aT0 mem → P (some (.long 0)) mem) (h9 : aTm aT0 mem → P (some (.long (a - (b * (a / b))))) mem) (h10 : aTm aT0 mem → P (some (.long (a - (b * ((a / b) - 1))))) mem) (h11 : aTm aT0 mem → P (some (.long b)) mem) (h12 : aTm aT0 mem → P (some (.long a)) mem) (h13 : aTm aT0 mem → P (some (.long 1)) mem) (h14 : aTm aT0 mem → P (some (.long (a &&& b))) mem) (h15 : aTm aT0 mem → P (some (.long (a ||| b))) mem) : yR zpg tX12_two (d + 2) (0, [(0, .int s), (1, .long a), (3, .long b)], [], mem) P := by
  refine yR_m 1 (fun _ _ _ _ => rfl) ?_
  refine wR_ts rfl rfl ⟨fun q1 => ?_, fun q1 => ⟨fun q2 => ?_, fun q2 => ⟨fun q3 => ?_, fun q3 => ⟨fun q4 => ?_, fun q4 => ⟨fun q5 => ?_, fun q5 => ⟨fun q6 => ?_, fun q6 => ⟨fun q7 => ?_, fun q7 => ⟨fun q8 => ?_, fun q8 => ⟨fun q9 => ?_, fun q9 => ⟨fun q10 => ?_, fun q10 => ⟨fun q11 => ?_, fun q11 => ?_⟩⟩⟩⟩⟩⟩⟩⟩⟩⟩⟩
  ·
    have q1 : (s).toInt = 31 := q1
    refine yR_m 3 (fun _ _ _ _ => rfl) ?_
    refine wR_is rfl rfl rfl rfl rfl rfl ?_
    show yR zpg tX12_within (d + 1) (0, [(0, .long (a + b))], [], mem) _
    refine yR_m 3 (fun _ _ _ _ => rfl) ?_
    refine wR_lf_le rfl (fun q12 => ?_) (fun q12 => ?_)
    ·
      refine yR_m 3 (fun _ _ _ _ => rfl) ?_
      refine wR_lf_ge rfl (fun q13 => ?_) (fun q13 => ?_)
      ·
        refine yR_m 1 (fun _ _ _ _ => rfl) ?_
        refine yR_rl rfl ?_
        show yR zpg tX12_two (d + 2) (66, [(0, .int s), (1, .long a), (3, .long b)], [.long (a + b)], mem) _
        exact yR_rl rfl (h1 hm)
      ·
        refine yR_m 2 (fun _ _ _ _ => rfl) ?_
        refine yR_rl rfl ?_
        show yR zpg tX12_two (d + 2) (66, [(0, .int s), (1, .long a), (3, .long b)], [.long (-1000000)], mem) _
        exact yR_rl rfl (h2 hm)
    ·
      refine yR_m 2 (fun _ _ _ _ => rfl) ?_
      refine yR_rl rfl ?_
      show yR zpg tX12_two (d + 2) (66, [(0, .int s), (1, .long a), (3, .long b)], [.long 1000000], mem) _
      exact yR_rl rfl (h3 hm)
  ·
    have q1 : ¬ (s).toInt = 31 := q1
    have q2 : (s).toInt = 32 := q2
    refine yR_m 3 (fun _ _ _ _ => rfl) ?_
    refine wR_is rfl rfl rfl rfl rfl rfl ?_
    show yR zpg tX12_within (d + 1) (0, [(0, .long (a - b))], [], mem) _
    refine yR_m 3 (fun _ _ _ _ => rfl) ?_
    refine wR_lf_le rfl (fun q14 => ?_) (fun q14 => ?_)
    ·
      refine yR_m 3 (fun _ _ _ _ => rfl) ?_
      refine wR_lf_ge rfl (fun q15 => ?_) (fun q15 => ?_)
      ·
        refine yR_m 1 (fun _ _ _ _ => rfl) ?_
        refine yR_rl rfl ?_
        show yR zpg tX12_two (d + 2) (73, [(0, .int s), (1, .long a), (3, .long b)], [.long (a - b)], mem) _
        exact yR_rl rfl (h4 hm)
      ·
        refine yR_m 2 (fun _ _ _ _ => rfl) ?_
        refine yR_rl rfl ?_
        show yR zpg tX12_two (d + 2) (73, [(0, .int s), (1, .long a), (3, .long b)], [.long (-1000000)], mem) _
        exact yR_rl rfl (h2 hm)
    ·
      refine yR_m 2 (fun _ _ _ _ => rfl) ?_
      refine yR_rl rfl ?_
      show yR zpg tX12_two (d + 2) (73, [(0, .int s), (1, .long a), (3, .long b)], [.long 1000000], mem) _
      exact yR_rl rfl (h3 hm)
  ·
    have q1 : ¬ (s).toInt = 31 := q1
    have q2 : ¬ (s).toInt = 32 := q2
    have q3 : (s).toInt = 33 := q3
    refine yR_m 3 (fun _ _ _ _ => rfl) ?_
    refine wR_is rfl rfl rfl rfl rfl rfl ?_
    show yR zpg tX12_within (d + 1) (0, [(0, .long (a * b))], [], mem) _
    refine yR_m 3 (fun _ _ _ _ => rfl) ?_
    refine wR_lf_le rfl (fun q16 => ?_) (fun q16 => ?_)
    ·
      refine yR_m 3 (fun _ _ _ _ => rfl) ?_
      refine wR_lf_ge rfl (fun q17 => ?_) (fun q17 => ?_)
      ·
        refine yR_m 1 (fun _ _ _ _ => rfl) ?_
        refine yR_rl rfl ?_
        show yR zpg tX12_two (d + 2) (80, [(0, .int s), (1, .long a), (3, .long b)], [.long (a * b)], mem) _
        exact yR_rl rfl (h5 hm)
      ·
        refine yR_m 2 (fun _ _ _ _ => rfl) ?_
        refine yR_rl rfl ?_
        show yR zpg tX12_two (d + 2) (80, [(0, .int s), (1, .long a), (3, .long b)], [.long (-1000000)], mem) _
        exact yR_rl rfl (h2 hm)
    ·
      refine yR_m 2 (fun _ _ _ _ => rfl) ?_
      refine yR_rl rfl ?_
      show yR zpg tX12_two (d + 2) (80, [(0, .int s), (1, .long a), (3, .long b)], [.long 1000000], mem) _
      exact yR_rl rfl (h3 hm)
  ·
    have q1 : ¬ (s).toInt = 31 := q1
    have q2 : ¬ (s).toInt = 32 := q2
    have q3 : ¬ (s).toInt = 33 := q3
    have q4 : (s).toInt = 34 := q4
    refine yR_m 2 (fun _ _ _ _ => rfl) ?_
    refine wR_is rfl rfl rfl rfl rfl rfl ?_
    show yR zpg tX12_floor (d + 1) (0, [(0, .long a), (2, .long b)], [], mem) _
    refine yR_m 3 (fun _ _ _ _ => rfl) ?_
    refine wR_lf_ne rfl (fun q18 => ?_) (fun q18 => ?_)
    ·
      refine yR_m 2 (fun _ _ _ _ => rfl) ?_
      refine wR_ldz rfl q18 ?_
      refine yR_m 3 (fun _ _ _ _ => rfl) ?_
      refine wR_ldz rfl q18 ?_
      refine yR_m 2 (fun _ _ _ _ => rfl) ?_
      refine wR_lf_eq rfl (fun q19 => ?_) (fun q19 => ?_)
      ·
        refine yR_m 1 (fun _ _ _ _ => rfl) ?_
        refine yR_rl rfl ?_
        show yR zpg tX12_two (d + 2) (86, [(0, .int s), (1, .long a), (3, .long b)], [.long (a / b)], mem) _
        refine wR_is rfl rfl rfl rfl rfl rfl ?_
        show yR zpg tX12_within (d + 1) (0, [(0, .long (a / b))], [], mem) _
        refine yR_m 3 (fun _ _ _ _ => rfl) ?_
        refine wR_lf_le rfl (fun q20 => ?_) (fun q20 => ?_)
        ·
          refine yR_m 3 (fun _ _ _ _ => rfl) ?_
          refine wR_lf_ge rfl (fun q21 => ?_) (fun q21 => ?_)
          ·
            refine yR_m 1 (fun _ _ _ _ => rfl) ?_
            refine yR_rl rfl ?_
            show yR zpg tX12_two (d + 2) (89, [(0, .int s), (1, .long a), (3, .long b)], [.long (a / b)], mem) _
            exact yR_rl rfl (h6 hm)
          ·
            refine yR_m 2 (fun _ _ _ _ => rfl) ?_
            refine yR_rl rfl ?_
            show yR zpg tX12_two (d + 2) (89, [(0, .int s), (1, .long a), (3, .long b)], [.long (-1000000)], mem) _
            exact yR_rl rfl (h2 hm)
        ·
          refine yR_m 2 (fun _ _ _ _ => rfl) ?_
          refine yR_rl rfl ?_
          show yR zpg tX12_two (d + 2) (89, [(0, .int s), (1, .long a), (3, .long b)], [.long 1000000], mem) _
          exact yR_rl rfl (h3 hm)
      ·
        refine yR_m 3 (fun _ _ _ _ => rfl) ?_
        refine wR_lf_ge rfl (fun q22 => ?_) (fun q22 => ?_)
        ·
          refine yR_m 4 (fun _ _ _ _ => rfl) ?_
          refine wR_lf_ge rfl (fun q23 => ?_) (fun q23 => ?_)
          ·
            refine yR_m 1 (fun _ _ _ _ => rfl) ?_
            refine wR_ic_eq rfl (a := 0) (c := 0) rfl rfl (fun _ => ?_) (fun q => by exfalso; omega)
            refine yR_m 1 (fun _ _ _ _ => rfl) ?_
            refine yR_rl rfl ?_
            show yR zpg tX12_two (d + 2) (86, [(0, .int s), (1, .long a), (3, .long b)], [.long (a / b)], mem) _
            refine wR_is rfl rfl rfl rfl rfl rfl ?_
            show yR zpg tX12_within (d + 1) (0, [(0, .long (a / b))], [], mem) _
            refine yR_m 3 (fun _ _ _ _ => rfl) ?_
            refine wR_lf_le rfl (fun q24 => ?_) (fun q24 => ?_)
            ·
              refine yR_m 3 (fun _ _ _ _ => rfl) ?_
              refine wR_lf_ge rfl (fun q25 => ?_) (fun q25 => ?_)
              ·
                refine yR_m 1 (fun _ _ _ _ => rfl) ?_
                refine yR_rl rfl ?_
                show yR zpg tX12_two (d + 2) (89, [(0, .int s), (1, .long a), (3, .long b)], [.long (a / b)], mem) _
                exact yR_rl rfl (h6 hm)
              ·
                refine yR_m 2 (fun _ _ _ _ => rfl) ?_
                refine yR_rl rfl ?_
                show yR zpg tX12_two (d + 2) (89, [(0, .int s), (1, .long a), (3, .long b)], [.long (-1000000)], mem) _
                exact yR_rl rfl (h2 hm)
            ·
              refine yR_m 2 (fun _ _ _ _ => rfl) ?_
              refine yR_rl rfl ?_
              show yR zpg tX12_two (d + 2) (89, [(0, .int s), (1, .long a), (3, .long b)], [.long 1000000], mem) _
              exact yR_rl rfl (h3 hm)
          ·
            refine yR_m 2 (fun _ _ _ _ => rfl) ?_
            refine wR_ic_eq rfl (a := 0) (c := 1) rfl rfl (fun q => by exfalso; omega) (fun _ => ?_)
            refine yR_m 4 (fun _ _ _ _ => rfl) ?_
            refine yR_rl rfl ?_
            show yR zpg tX12_two (d + 2) (86, [(0, .int s), (1, .long a), (3, .long b)], [.long ((a / b) - 1)], mem) _
            refine wR_is rfl rfl rfl rfl rfl rfl ?_
            show yR zpg tX12_within (d + 1) (0, [(0, .long ((a / b) - 1))], [], mem) _
            refine yR_m 3 (fun _ _ _ _ => rfl) ?_
            refine wR_lf_le rfl (fun q26 => ?_) (fun q26 => ?_)
            ·
              refine yR_m 3 (fun _ _ _ _ => rfl) ?_
              refine wR_lf_ge rfl (fun q27 => ?_) (fun q27 => ?_)
              ·
                refine yR_m 1 (fun _ _ _ _ => rfl) ?_
                refine yR_rl rfl ?_
                show yR zpg tX12_two (d + 2) (89, [(0, .int s), (1, .long a), (3, .long b)], [.long ((a / b) - 1)], mem) _
                exact yR_rl rfl (h7 hm)
              ·
                refine yR_m 2 (fun _ _ _ _ => rfl) ?_
                refine yR_rl rfl ?_
                show yR zpg tX12_two (d + 2) (89, [(0, .int s), (1, .long a), (3, .long b)], [.long (-1000000)], mem) _
                exact yR_rl rfl (h2 hm)
            ·
              refine yR_m 2 (fun _ _ _ _ => rfl) ?_
              refine yR_rl rfl ?_
              show yR zpg tX12_two (d + 2) (89, [(0, .int s), (1, .long a), (3, .long b)], [.long 1000000], mem) _
              exact yR_rl rfl (h3 hm)
        ·
          refine yR_m 5 (fun _ _ _ _ => rfl) ?_
          refine wR_lf_ge rfl (fun q28 => ?_) (fun q28 => ?_)
          ·
            refine yR_m 1 (fun _ _ _ _ => rfl) ?_
            refine wR_ic_eq rfl (a := 1) (c := 0) rfl rfl (fun q => by exfalso; omega) (fun _ => ?_)
            refine yR_m 4 (fun _ _ _ _ => rfl) ?_
            refine yR_rl rfl ?_
            show yR zpg tX12_two (d + 2) (86, [(0, .int s), (1, .long a), (3, .long b)], [.long ((a / b) - 1)], mem) _
            refine wR_is rfl rfl rfl rfl rfl rfl ?_
            show yR zpg tX12_within (d + 1) (0, [(0, .long ((a / b) - 1))], [], mem) _
            refine yR_m 3 (fun _ _ _ _ => rfl) ?_
            refine wR_lf_le rfl (fun q29 => ?_) (fun q29 => ?_)
            ·
              refine yR_m 3 (fun _ _ _ _ => rfl) ?_
              refine wR_lf_ge rfl (fun q30 => ?_) (fun q30 => ?_)
              ·
                refine yR_m 1 (fun _ _ _ _ => rfl) ?_
                refine yR_rl rfl ?_
                show yR zpg tX12_two (d + 2) (89, [(0, .int s), (1, .long a), (3, .long b)], [.long ((a / b) - 1)], mem) _
                exact yR_rl rfl (h7 hm)
              ·
                refine yR_m 2 (fun _ _ _ _ => rfl) ?_
                refine yR_rl rfl ?_
                show yR zpg tX12_two (d + 2) (89, [(0, .int s), (1, .long a), (3, .long b)], [.long (-1000000)], mem) _
                exact yR_rl rfl (h2 hm)
            ·
              refine yR_m 2 (fun _ _ _ _ => rfl) ?_
              refine yR_rl rfl ?_
              show yR zpg tX12_two (d + 2) (89, [(0, .int s), (1, .long a), (3, .long b)], [.long 1000000], mem) _
              exact yR_rl rfl (h3 hm)
          ·
            refine yR_m 2 (fun _ _ _ _ => rfl) ?_
            refine wR_ic_eq rfl (a := 1) (c := 1) rfl rfl (fun _ => ?_) (fun q => by exfalso; omega)
            refine yR_m 1 (fun _ _ _ _ => rfl) ?_
            refine yR_rl rfl ?_
            show yR zpg tX12_two (d + 2) (86, [(0, .int s), (1, .long a), (3, .long b)], [.long (a / b)], mem) _
            refine wR_is rfl rfl rfl rfl rfl rfl ?_
            show yR zpg tX12_within (d + 1) (0, [(0, .long (a / b))], [], mem) _
            refine yR_m 3 (fun _ _ _ _ => rfl) ?_
            refine wR_lf_le rfl (fun q31 => ?_) (fun q31 => ?_)
            ·
              refine yR_m 3 (fun _ _ _ _ => rfl) ?_
              refine wR_lf_ge rfl (fun q32 => ?_) (fun q32 => ?_)
              ·
                refine yR_m 1 (fun _ _ _ _ => rfl) ?_
                refine yR_rl rfl ?_
                show yR zpg tX12_two (d + 2) (89, [(0, .int s), (1, .long a), (3, .long b)], [.long (a / b)], mem) _
                exact yR_rl rfl (h6 hm)
              ·
                refine yR_m 2 (fun _ _ _ _ => rfl) ?_
                refine yR_rl rfl ?_
                show yR zpg tX12_two (d + 2) (89, [(0, .int s), (1, .long a), (3, .long b)], [.long (-1000000)], mem) _
                exact yR_rl rfl (h2 hm)
            ·
              refine yR_m 2 (fun _ _ _ _ => rfl) ?_
              refine yR_rl rfl ?_
              show yR zpg tX12_two (d + 2) (89, [(0, .int s), (1, .long a), (3, .long b)], [.long 1000000], mem) _
              exact yR_rl rfl (h3 hm)
    ·
      refine yR_m 1 (fun _ _ _ _ => rfl) ?_
      refine yR_rl rfl ?_
      show yR zpg tX12_two (d + 2) (86, [(0, .int s), (1, .long a), (3, .long b)], [.long 0], mem) _
      refine wR_is rfl rfl rfl rfl rfl rfl ?_
      show yR zpg tX12_within (d + 1) (0, [(0, .long 0)], [], mem) _
      refine yR_m 3 (fun _ _ _ _ => rfl) ?_
      refine wR_lf_le rfl (fun _ => ?_) (fun q => absurd q (by decide))
      refine yR_m 3 (fun _ _ _ _ => rfl) ?_
      refine wR_lf_ge rfl (fun _ => ?_) (fun q => absurd q (by decide))
      refine yR_m 1 (fun _ _ _ _ => rfl) ?_
      refine yR_rl rfl ?_
      show yR zpg tX12_two (d + 2) (89, [(0, .int s), (1, .long a), (3, .long b)], [.long 0], mem) _
      exact yR_rl rfl (h8 hm)
  ·
    have q1 : ¬ (s).toInt = 31 := q1
    have q2 : ¬ (s).toInt = 32 := q2
    have q3 : ¬ (s).toInt = 33 := q3
    have q4 : ¬ (s).toInt = 34 := q4
    have q5 : (s).toInt = 35 := q5
    refine yR_m 3 (fun _ _ _ _ => rfl) ?_
    refine wR_lf_ne rfl (fun q33 => ?_) (fun q33 => ?_)
    ·
      refine yR_m 4 (fun _ _ _ _ => rfl) ?_
      refine wR_is rfl rfl rfl rfl rfl rfl ?_
      show yR zpg tX12_floor (d + 1) (0, [(0, .long a), (2, .long b)], [], mem) _
      refine yR_m 3 (fun _ _ _ _ => rfl) ?_
      refine wR_lf_ne rfl (fun _ => ?_) (fun q => absurd q q33)
      refine yR_m 2 (fun _ _ _ _ => rfl) ?_
      refine wR_ldz rfl q33 ?_
      refine yR_m 3 (fun _ _ _ _ => rfl) ?_
      refine wR_ldz rfl q33 ?_
      refine yR_m 2 (fun _ _ _ _ => rfl) ?_
      refine wR_lf_eq rfl (fun q34 => ?_) (fun q34 => ?_)
      ·
        refine yR_m 1 (fun _ _ _ _ => rfl) ?_
        refine yR_rl rfl ?_
        show yR zpg tX12_two (d + 2) (107, [(0, .int s), (1, .long a), (3, .long b)], [.long (a / b), .long b, .long a], mem) _
        refine yR_m 2 (fun _ _ _ _ => rfl) ?_
        refine wR_is rfl rfl rfl rfl rfl rfl ?_
        show yR zpg tX12_within (d + 1) (0, [(0, .long (a - (b * (a / b))))], [], mem) _
        refine yR_m 3 (fun _ _ _ _ => rfl) ?_
        refine wR_lf_le rfl (fun q35 => ?_) (fun q35 => ?_)
        ·
          refine yR_m 3 (fun _ _ _ _ => rfl) ?_
          refine wR_lf_ge rfl (fun q36 => ?_) (fun q36 => ?_)
          ·
            refine yR_m 1 (fun _ _ _ _ => rfl) ?_
            refine yR_rl rfl ?_
            show yR zpg tX12_two (d + 2) (112, [(0, .int s), (1, .long a), (3, .long b)], [.long (a - (b * (a / b)))], mem) _
            exact yR_rl rfl (h9 hm)
          ·
            refine yR_m 2 (fun _ _ _ _ => rfl) ?_
            refine yR_rl rfl ?_
            show yR zpg tX12_two (d + 2) (112, [(0, .int s), (1, .long a), (3, .long b)], [.long (-1000000)], mem) _
            exact yR_rl rfl (h2 hm)
        ·
          refine yR_m 2 (fun _ _ _ _ => rfl) ?_
          refine yR_rl rfl ?_
          show yR zpg tX12_two (d + 2) (112, [(0, .int s), (1, .long a), (3, .long b)], [.long 1000000], mem) _
          exact yR_rl rfl (h3 hm)
      ·
        refine yR_m 3 (fun _ _ _ _ => rfl) ?_
        refine wR_lf_ge rfl (fun q37 => ?_) (fun q37 => ?_)
        ·
          refine yR_m 4 (fun _ _ _ _ => rfl) ?_
          refine wR_lf_ge rfl (fun q38 => ?_) (fun q38 => ?_)
          ·
            refine yR_m 1 (fun _ _ _ _ => rfl) ?_
            refine wR_ic_eq rfl (a := 0) (c := 0) rfl rfl (fun _ => ?_) (fun q => by exfalso; omega)
            refine yR_m 1 (fun _ _ _ _ => rfl) ?_
            refine yR_rl rfl ?_
            show yR zpg tX12_two (d + 2) (107, [(0, .int s), (1, .long a), (3, .long b)], [.long (a / b), .long b, .long a], mem) _
            refine yR_m 2 (fun _ _ _ _ => rfl) ?_
            refine wR_is rfl rfl rfl rfl rfl rfl ?_
            show yR zpg tX12_within (d + 1) (0, [(0, .long (a - (b * (a / b))))], [], mem) _
            refine yR_m 3 (fun _ _ _ _ => rfl) ?_
            refine wR_lf_le rfl (fun q39 => ?_) (fun q39 => ?_)
            ·
              refine yR_m 3 (fun _ _ _ _ => rfl) ?_
              refine wR_lf_ge rfl (fun q40 => ?_) (fun q40 => ?_)
              ·
                refine yR_m 1 (fun _ _ _ _ => rfl) ?_
                refine yR_rl rfl ?_
                show yR zpg tX12_two (d + 2) (112, [(0, .int s), (1, .long a), (3, .long b)], [.long (a - (b * (a / b)))], mem) _
                exact yR_rl rfl (h9 hm)
              ·
                refine yR_m 2 (fun _ _ _ _ => rfl) ?_
                refine yR_rl rfl ?_
                show yR zpg tX12_two (d + 2) (112, [(0, .int s), (1, .long a), (3, .long b)], [.long (-1000000)], mem) _
                exact yR_rl rfl (h2 hm)
            ·
              refine yR_m 2 (fun _ _ _ _ => rfl) ?_
              refine yR_rl rfl ?_
              show yR zpg tX12_two (d + 2) (112, [(0, .int s), (1, .long a), (3, .long b)], [.long 1000000], mem) _
              exact yR_rl rfl (h3 hm)
          ·
            refine yR_m 2 (fun _ _ _ _ => rfl) ?_
            refine wR_ic_eq rfl (a := 0) (c := 1) rfl rfl (fun q => by exfalso; omega) (fun _ => ?_)
            refine yR_m 4 (fun _ _ _ _ => rfl) ?_
            refine yR_rl rfl ?_
            show yR zpg tX12_two (d + 2) (107, [(0, .int s), (1, .long a), (3, .long b)], [.long ((a / b) - 1), .long b, .long a], mem) _
            refine yR_m 2 (fun _ _ _ _ => rfl) ?_
            refine wR_is rfl rfl rfl rfl rfl rfl ?_
            show yR zpg tX12_within (d + 1) (0, [(0, .long (a - (b * ((a / b) - 1))))], [], mem) _
            refine yR_m 3 (fun _ _ _ _ => rfl) ?_
            refine wR_lf_le rfl (fun q41 => ?_) (fun q41 => ?_)
            ·
              refine yR_m 3 (fun _ _ _ _ => rfl) ?_
              refine wR_lf_ge rfl (fun q42 => ?_) (fun q42 => ?_)
              ·
                refine yR_m 1 (fun _ _ _ _ => rfl) ?_
                refine yR_rl rfl ?_
                show yR zpg tX12_two (d + 2) (112, [(0, .int s), (1, .long a), (3, .long b)], [.long (a - (b * ((a / b) - 1)))], mem) _
                exact yR_rl rfl (h10 hm)
              ·
                refine yR_m 2 (fun _ _ _ _ => rfl) ?_
                refine yR_rl rfl ?_
                show yR zpg tX12_two (d + 2) (112, [(0, .int s), (1, .long a), (3, .long b)], [.long (-1000000)], mem) _
                exact yR_rl rfl (h2 hm)
            ·
              refine yR_m 2 (fun _ _ _ _ => rfl) ?_
              refine yR_rl rfl ?_
              show yR zpg tX12_two (d + 2) (112, [(0, .int s), (1, .long a), (3, .long b)], [.long 1000000], mem) _
              exact yR_rl rfl (h3 hm)
        ·
          refine yR_m 5 (fun _ _ _ _ => rfl) ?_
          refine wR_lf_ge rfl (fun q43 => ?_) (fun q43 => ?_)
          ·
            refine yR_m 1 (fun _ _ _ _ => rfl) ?_
            refine wR_ic_eq rfl (a := 1) (c := 0) rfl rfl (fun q => by exfalso; omega) (fun _ => ?_)
            refine yR_m 4 (fun _ _ _ _ => rfl) ?_
            refine yR_rl rfl ?_
            show yR zpg tX12_two (d + 2) (107, [(0, .int s), (1, .long a), (3, .long b)], [.long ((a / b) - 1), .long b, .long a], mem) _
            refine yR_m 2 (fun _ _ _ _ => rfl) ?_
            refine wR_is rfl rfl rfl rfl rfl rfl ?_
            show yR zpg tX12_within (d + 1) (0, [(0, .long (a - (b * ((a / b) - 1))))], [], mem) _
            refine yR_m 3 (fun _ _ _ _ => rfl) ?_
            refine wR_lf_le rfl (fun q44 => ?_) (fun q44 => ?_)
            ·
              refine yR_m 3 (fun _ _ _ _ => rfl) ?_
              refine wR_lf_ge rfl (fun q45 => ?_) (fun q45 => ?_)
              ·
                refine yR_m 1 (fun _ _ _ _ => rfl) ?_
                refine yR_rl rfl ?_
                show yR zpg tX12_two (d + 2) (112, [(0, .int s), (1, .long a), (3, .long b)], [.long (a - (b * ((a / b) - 1)))], mem) _
                exact yR_rl rfl (h10 hm)
              ·
                refine yR_m 2 (fun _ _ _ _ => rfl) ?_
                refine yR_rl rfl ?_
                show yR zpg tX12_two (d + 2) (112, [(0, .int s), (1, .long a), (3, .long b)], [.long (-1000000)], mem) _
                exact yR_rl rfl (h2 hm)
            ·
              refine yR_m 2 (fun _ _ _ _ => rfl) ?_
              refine yR_rl rfl ?_
              show yR zpg tX12_two (d + 2) (112, [(0, .int s), (1, .long a), (3, .long b)], [.long 1000000], mem) _
              exact yR_rl rfl (h3 hm)
          ·
            refine yR_m 2 (fun _ _ _ _ => rfl) ?_
            refine wR_ic_eq rfl (a := 1) (c := 1) rfl rfl (fun _ => ?_) (fun q => by exfalso; omega)
            refine yR_m 1 (fun _ _ _ _ => rfl) ?_
            refine yR_rl rfl ?_
            show yR zpg tX12_two (d + 2) (107, [(0, .int s), (1, .long a), (3, .long b)], [.long (a / b), .long b, .long a], mem) _
            refine yR_m 2 (fun _ _ _ _ => rfl) ?_
            refine wR_is rfl rfl rfl rfl rfl rfl ?_
            show yR zpg tX12_within (d + 1) (0, [(0, .long (a - (b * (a / b))))], [], mem) _
            refine yR_m 3 (fun _ _ _ _ => rfl) ?_
            refine wR_lf_le rfl (fun q46 => ?_) (fun q46 => ?_)
            ·
              refine yR_m 3 (fun _ _ _ _ => rfl) ?_
              refine wR_lf_ge rfl (fun q47 => ?_) (fun q47 => ?_)
              ·
                refine yR_m 1 (fun _ _ _ _ => rfl) ?_
                refine yR_rl rfl ?_
                show yR zpg tX12_two (d + 2) (112, [(0, .int s), (1, .long a), (3, .long b)], [.long (a - (b * (a / b)))], mem) _
                exact yR_rl rfl (h9 hm)
              ·
                refine yR_m 2 (fun _ _ _ _ => rfl) ?_
                refine yR_rl rfl ?_
                show yR zpg tX12_two (d + 2) (112, [(0, .int s), (1, .long a), (3, .long b)], [.long (-1000000)], mem) _
                exact yR_rl rfl (h2 hm)
            ·
              refine yR_m 2 (fun _ _ _ _ => rfl) ?_
              refine yR_rl rfl ?_
              show yR zpg tX12_two (d + 2) (112, [(0, .int s), (1, .long a), (3, .long b)], [.long 1000000], mem) _
              exact yR_rl rfl (h3 hm)
    ·
      refine yR_m 2 (fun _ _ _ _ => rfl) ?_
      exact yR_rl rfl (h8 hm)
  ·
    have q1 : ¬ (s).toInt = 31 := q1
    have q2 : ¬ (s).toInt = 32 := q2
    have q3 : ¬ (s).toInt = 33 := q3
    have q4 : ¬ (s).toInt = 34 := q4
    have q5 : ¬ (s).toInt = 35 := q5
    have q6 : (s).toInt = 36 := q6
    refine yR_m 3 (fun _ _ _ _ => rfl) ?_
    refine wR_lf_ge rfl (fun q48 => ?_) (fun q48 => ?_)
    ·
      refine yR_m 1 (fun _ _ _ _ => rfl) ?_
      exact yR_rl rfl (h11 hm)
    ·
      refine yR_m 2 (fun _ _ _ _ => rfl) ?_
      exact yR_rl rfl (h12 hm)
  ·
    have q1 : ¬ (s).toInt = 31 := q1
    have q2 : ¬ (s).toInt = 32 := q2
    have q3 : ¬ (s).toInt = 33 := q3
    have q4 : ¬ (s).toInt = 34 := q4
    have q5 : ¬ (s).toInt = 35 := q5
    have q6 : ¬ (s).toInt = 36 := q6
    have q7 : (s).toInt = 37 := q7
    refine yR_m 3 (fun _ _ _ _ => rfl) ?_
    refine wR_lf_le rfl (fun q49 => ?_) (fun q49 => ?_)
    ·
      refine yR_m 1 (fun _ _ _ _ => rfl) ?_
      exact yR_rl rfl (h11 hm)
    ·
      refine yR_m 2 (fun _ _ _ _ => rfl) ?_
      exact yR_rl rfl (h12 hm)
  ·
    have q1 : ¬ (s).toInt = 31 := q1
    have q2 : ¬ (s).toInt = 32 := q2
    have q3 : ¬ (s).toInt = 33 := q3
    have q4 : ¬ (s).toInt = 34 := q4
    have q5 : ¬ (s).toInt = 35 := q5
    have q6 : ¬ (s).toInt = 36 := q6
    have q7 : ¬ (s).toInt = 37 := q7
    have q8 : (s).toInt = 38 := q8
    refine yR_m 3 (fun _ _ _ _ => rfl) ?_
    refine wR_lf_ge rfl (fun q50 => ?_) (fun q50 => ?_)
    ·
      refine yR_m 1 (fun _ _ _ _ => rfl) ?_
      exact yR_rl rfl (h8 hm)
    ·
      refine yR_m 2 (fun _ _ _ _ => rfl) ?_
      exact yR_rl rfl (h13 hm)
  ·
    have q1 : ¬ (s).toInt = 31 := q1
    have q2 : ¬ (s).toInt = 32 := q2
    have q3 : ¬ (s).toInt = 33 := q3
    have q4 : ¬ (s).toInt = 34 := q4
    have q5 : ¬ (s).toInt = 35 := q5
    have q6 : ¬ (s).toInt = 36 := q6
    have q7 : ¬ (s).toInt = 37 := q7
    have q8 : ¬ (s).toInt = 38 := q8
    have q9 : (s).toInt = 39 := q9
    refine yR_m 3 (fun _ _ _ _ => rfl) ?_
    refine wR_lf_le rfl (fun q51 => ?_) (fun q51 => ?_)
    ·
      refine yR_m 1 (fun _ _ _ _ => rfl) ?_
      exact yR_rl rfl (h8 hm)
    ·
      refine yR_m 2 (fun _ _ _ _ => rfl) ?_
      exact yR_rl rfl (h13 hm)
  ·
    have q1 : ¬ (s).toInt = 31 := q1
    have q2 : ¬ (s).toInt = 32 := q2
    have q3 : ¬ (s).toInt = 33 := q3
    have q4 : ¬ (s).toInt = 34 := q4
    have q5 : ¬ (s).toInt = 35 := q5
    have q6 : ¬ (s).toInt = 36 := q6
    have q7 : ¬ (s).toInt = 37 := q7
    have q8 : ¬ (s).toInt = 38 := q8
    have q9 : ¬ (s).toInt = 39 := q9
    have q10 : (s).toInt = 40 := q10
    refine yR_m 3 (fun _ _ _ _ => rfl) ?_
    refine wR_lf_ne rfl (fun q52 => ?_) (fun q52 => ?_)
    ·
      refine yR_m 1 (fun _ _ _ _ => rfl) ?_
      exact yR_rl rfl (h8 hm)
    ·
      refine yR_m 2 (fun _ _ _ _ => rfl) ?_
      exact yR_rl rfl (h13 hm)
  ·
    have q1 : ¬ (s).toInt = 31 := q1
    have q2 : ¬ (s).toInt = 32 := q2
    have q3 : ¬ (s).toInt = 33 := q3
    have q4 : ¬ (s).toInt = 34 := q4
    have q5 : ¬ (s).toInt = 35 := q5
    have q6 : ¬ (s).toInt = 36 := q6
    have q7 : ¬ (s).toInt = 37 := q7
    have q8 : ¬ (s).toInt = 38 := q8
    have q9 : ¬ (s).toInt = 39 := q9
    have q10 : ¬ (s).toInt = 40 := q10
    have q11 : (s).toInt = 41 := q11
    refine yR_m 3 (fun _ _ _ _ => rfl) ?_
    exact yR_rl rfl (h14 hm)
  ·
    have q1 : ¬ (s).toInt = 31 := q1
    have q2 : ¬ (s).toInt = 32 := q2
    have q3 : ¬ (s).toInt = 33 := q3
    have q4 : ¬ (s).toInt = 34 := q4
    have q5 : ¬ (s).toInt = 35 := q5
    have q6 : ¬ (s).toInt = 36 := q6
    have q7 : ¬ (s).toInt = 37 := q7
    have q8 : ¬ (s).toInt = 38 := q8
    have q9 : ¬ (s).toInt = 39 := q9
    have q10 : ¬ (s).toInt = 40 := q10
    have q11 : ¬ (s).toInt = 41 := q11
    refine yR_m 3 (fun _ _ _ _ => rfl) ?_
    exact yR_rl rfl (h15 hm)

theorem hst_i {s : Int32} {h h' : Nat} (e : hst s h = some h') : (s.toInt ≤ 30 → 0 ≤ s.toInt ∧ (s.toInt ≤ 6 ∨ s.toInt = 30) ∧ h < 499 ∧ h' = h + 1) ∧ (s.toInt = 43 → 1 ≤ h ∧ h' = h) ∧ (s.toInt = 44 → 3 ≤ h ∧ h' + 2 = h) ∧ (30 < s.toInt → ¬ s.toInt = 43 → ¬ s.toInt = 44 → 2 ≤ h ∧ h' + 1 = h) := by
  unfold hst at e
  split at e
  · split at e
    · cases e
      omega
    · cases e
  · split at e
    · split at e
      · cases e
        omega
      · cases e
    · split at e
      · split at e
        · cases e
          omega
        · cases e
      · split at e
        · cases e
          omega
        · cases e
theorem c_two {d : Nat} {s : Int32} {a b : Int64} {mem : zM} (hm : aTm aT0 mem) (hd : 3 ≤ d) : yC zpg d 217 [.int s, .long a, .long b] mem (fun r m => ∃ v : Int64, r = some (.long v) ∧ mem = m ∧ True) := by
  obtain ⟨d, rfl⟩ : ∃ q, d = q + 3 := ⟨d - 3, by omega⟩
  refine yC_of (t := tX12_two) rfl rfl ?_
  refine w_two hm ?_ ?_ ?_ ?_ ?_ ?_ ?_ ?_ ?_ ?_ ?_ ?_ ?_ ?_ ?_
  all_goals exact fun _ => ⟨_, rfl, rfl, trivial⟩
set_option maxRecDepth 100000 in
theorem w_rk_0 {E : zM → Prop} (hE : aEs (aΘ0 E)) {d : Nat} {m0 mem : zM} {P : Option Value → zM → Prop} {w : Int32} {lo : List (Nat × Value)} (hm : wI (aΘ0 E) m0 mem) (l_0 : zlg lo 0 = some (.ref 221)) (l_1 : zlg lo 1 = some (.int w)) (s1 : (-2147483648 : Int) ≤ (1600 * (gi mem 221 13).toInt) ∧ (1600 * (gi mem 221 13).toInt) ≤ 2147483647) (s2 : ∀ (x4 : Int32), x4.toInt = (1600 * (gi mem 221 13).toInt) → (-2147483648 : Int) ≤ (3 * (gi mem 221 13).toInt) ∧ (3 * (gi mem 221 13).toInt) ≤ 2147483647) (s3 : ∀ (x4 : Int32), x4.toInt = (1600 * (gi mem 221 13).toInt) → ∀ (x6 : Int32), x6.toInt = (3 * (gi mem 221 13).toInt) → (-2147483648 : Int) ≤ ((3 * (gi mem 221 13).toInt) + (w).toInt) ∧ ((3 * (gi mem 221 13).toInt) + (w).toInt) ≤ 2147483647) (s4 : ∀ (x4 : Int32), x4.toInt = (1600 * (gi mem 221 13).toInt) → ∀ (x6 : Int32), x6.toInt = (3 * (gi mem 221 13).toInt) → ∀ (x8 : Int32), x8.toInt = ((3 * (gi mem 221 13).toInt) + (w).toInt) → (0 : Int) ≤ ((3 * (gi mem 221 13).toInt) + (w).toInt) ∧ ((3 * (gi mem 221 13).toInt) + (w).toInt) < 6) (s5 : ∀ (x4 : Int32), x4.toInt = (1600 * (gi mem 221 13).toInt) → ∀ (x6 : Int32), x6.toInt = (3 * (gi mem 221 13).toInt) → ∀ (x8 : Int32), x8.toInt = ((3 * (gi mem 221 13).toInt) + (w).toInt) → ∀ (y10 : Int32), y10.toInt = (gn (ga mem 236) ((3 * (gi mem 221 13).toInt) + (w).toInt)) → (-2147483648 : Int) ≤ ((1600 * (gi mem 221 13).toInt) + (gn (ga mem 236) ((3 * (gi mem 221 13).toInt) + (w).toInt))) ∧ ((1600 * (gi mem 221 13).toInt) + (gn (ga mem 236) ((3 * (gi mem 221 13).toInt) + (w).toInt))) ≤ 2147483647) (h1 : ∀ (x4 : Int32), x4.toInt = (1600 * (gi mem 221 13).toInt) → ∀ (x6 : Int32), x6.toInt = (3 * (gi mem 221 13).toInt) → ∀ (x8 : Int32), x8.toInt = ((3 * (gi mem 221 13).toInt) + (w).toInt) → ∀ (y10 : Int32), y10.toInt = (gn (ga mem 236) ((3 * (gi mem 221 13).toInt) + (w).toInt)) → ∀ (x12 : Int32), x12.toInt = ((1600 * (gi mem 221 13).toInt) + (gn (ga mem 236) ((3 * (gi mem 221 13).toInt) + (w).toInt))) → ∀ lo, zlg lo 0 = some (.ref 221) → zlg lo 1 = some (.int w) → zlg lo 2 = some (.int 0) → zlg lo 3 = some (.int x12) → wI (aΘ0 E) m0 mem → yR zpg tX12_reckons (d + 3) (25, lo, [], mem) P) : yR zpg tX12_reckons (d + 3) (0, lo, [], mem) P := by
  refine yR_m 1 (fun _ _ _ _ => rfl) ?_
  refine wR_si rfl rfl (fun lo1 e2 f3 => ?_)
  have lo1_0 := f3 0 _ (by decide) (Or.inl rfl) l_0
  have lo1_1 := f3 1 _ (by decide) (Or.inl rfl) l_1
  refine yR_m 1 (fun _ _ _ _ => rfl) ?_
  refine wR_la rfl lo1_0 ?_
  refine wR_gi rfl mO_e mO_13 hm.1.1 rfl ?_
  refine wN_mul (a := 1600) (b := (gi mem 221 13).toInt) rfl rfl rfl s1 (fun x4 e5 => ?_)
  refine wR_la rfl lo1_0 ?_
  refine wR_gr rfl mO_e mO_27 hm.1.1 ?_
  refine yR_m 1 (fun _ _ _ _ => rfl) ?_
  refine wR_la rfl lo1_0 ?_
  refine wR_gi rfl mO_e mO_13 hm.1.1 rfl ?_
  refine wN_mul (a := 3) (b := (gi mem 221 13).toInt) rfl rfl rfl (s2 x4 e5) (fun x6 e7 => ?_)
  refine wR_li rfl lo1_1 ?_
  refine wN_add (a := (3 * (gi mem 221 13).toInt)) (b := (w).toInt) rfl e7 rfl (s3 x4 e5 x6 e7) (fun x8 e9 => ?_)
  refine wN_al (a := ((3 * (gi mem 221 13).toInt) + (w).toInt)) rfl aR_236 hm.1.1 rfl e9 (s4 x4 e5 x6 e7 x8 e9) (fun y10 e11 => ?_)
  refine wN_add (a := (1600 * (gi mem 221 13).toInt)) (b := (gn (ga mem 236) ((3 * (gi mem 221 13).toInt) + (w).toInt))) rfl e5 e11 (s5 x4 e5 x6 e7 x8 e9 y10 e11) (fun x12 e13 => ?_)
  refine wR_si rfl rfl (fun lo14 e15 f16 => ?_)
  have lo14_2 := f16 2 _ (by decide) (Or.inl rfl) e2
  have lo14_0 := f16 0 _ (by decide) (Or.inl rfl) lo1_0
  have lo14_1 := f16 1 _ (by decide) (Or.inl rfl) lo1_1
  exact h1 x4 e5 x6 e7 x8 e9 y10 e11 x12 e13 lo14 lo14_0 lo14_1 lo14_2 e15 hm

set_option maxRecDepth 100000 in
theorem w_rk_25 {E : zM → Prop} (hE : aEs (aΘ0 E)) {d : Nat} {m0 mem : zM} {P : Option Value → zM → Prop} {w n c : Int32} {lo : List (Nat × Value)} (hm : wI (aΘ0 E) m0 mem) (l_0 : zlg lo 0 = some (.ref 221)) (l_1 : zlg lo 1 = some (.int w)) (l_2 : zlg lo 2 = some (.int n)) (l_3 : zlg lo 3 = some (.int c)) (s1 : (-2147483648 : Int) ≤ (1600 * (gi mem 221 13).toInt) ∧ (1600 * (gi mem 221 13).toInt) ≤ 2147483647) (s2 : ∀ (x1 : Int32), x1.toInt = (1600 * (gi mem 221 13).toInt) → (-2147483648 : Int) ≤ (3 * (gi mem 221 13).toInt) ∧ (3 * (gi mem 221 13).toInt) ≤ 2147483647) (s3 : ∀ (x1 : Int32), x1.toInt = (1600 * (gi mem 221 13).toInt) → ∀ (x3 : Int32), x3.toInt = (3 * (gi mem 221 13).toInt) → (-2147483648 : Int) ≤ ((3 * (gi mem 221 13).toInt) + (w).toInt) ∧ ((3 * (gi mem 221 13).toInt) + (w).toInt) ≤ 2147483647) (s4 : ∀ (x1 : Int32), x1.toInt = (1600 * (gi mem 221 13).toInt) → ∀ (x3 : Int32), x3.toInt = (3 * (gi mem 221 13).toInt) → ∀ (x5 : Int32), x5.toInt = ((3 * (gi mem 221 13).toInt) + (w).toInt) → (0 : Int) ≤ ((3 * (gi mem 221 13).toInt) + (w).toInt) ∧ ((3 * (gi mem 221 13).toInt) + (w).toInt) < 6) (s5 : ∀ (x1 : Int32), x1.toInt = (1600 * (gi mem 221 13).toInt) → ∀ (x3 : Int32), x3.toInt = (3 * (gi mem 221 13).toInt) → ∀ (x5 : Int32), x5.toInt = ((3 * (gi mem 221 13).toInt) + (w).toInt) → ∀ (y7 : Int32), y7.toInt = (gn (ga mem 237) ((3 * (gi mem 221 13).toInt) + (w).toInt)) → (-2147483648 : Int) ≤ ((1600 * (gi mem 221 13).toInt) + (gn (ga mem 237) ((3 * (gi mem 221 13).toInt) + (w).toInt))) ∧ ((1600 * (gi mem 221 13).toInt) + (gn (ga mem 237) ((3 * (gi mem 221 13).toInt) + (w).toInt))) ≤ 2147483647) (h1 : ∀ (x1 : Int32), x1.toInt = (1600 * (gi mem 221 13).toInt) → ∀ (x3 : Int32), x3.toInt = (3 * (gi mem 221 13).toInt) → ∀ (x5 : Int32), x5.toInt = ((3 * (gi mem 221 13).toInt) + (w).toInt) → ∀ (y7 : Int32), y7.toInt = (gn (ga mem 237) ((3 * (gi mem 221 13).toInt) + (w).toInt)) → ∀ (x9 : Int32), x9.toInt = ((1600 * (gi mem 221 13).toInt) + (gn (ga mem 237) ((3 * (gi mem 221 13).toInt) + (w).toInt))) → ((1600 * (gi mem 221 13).toInt) + (gn (ga mem 237) ((3 * (gi mem 221 13).toInt) + (w).toInt))) ≤ (c).toInt → wI (aΘ0 E) m0 mem → P (some (.long ((gA mem 256).getD (0 : Int).toNat 0))) mem) (s6 : ∀ (x1 : Int32), x1.toInt = (1600 * (gi mem 221 13).toInt) → ∀ (x3 : Int32), x3.toInt = (3 * (gi mem 221 13).toInt) → ∀ (x5 : Int32), x5.toInt = ((3 * (gi mem 221 13).toInt) + (w).toInt) → ∀ (y7 : Int32), y7.toInt = (gn (ga mem 237) ((3 * (gi mem 221 13).toInt) + (w).toInt)) → ∀ (x9 : Int32), x9.toInt = ((1600 * (gi mem 221 13).toInt) + (gn (ga mem 237) ((3 * (gi mem 221 13).toInt) + (w).toInt))) → (c).toInt < ((1600 * (gi mem 221 13).toInt) + (gn (ga mem 237) ((3 * (gi mem 221 13).toInt) + (w).toInt))) → (0 : Int) ≤ (c).toInt ∧ (c).toInt < 3200) (s7 : ∀ (x1 : Int32), x1.toInt = (1600 * (gi mem 221 13).toInt) → ∀ (x3 : Int32), x3.toInt = (3 * (gi mem 221 13).toInt) → ∀ (x5 : Int32), x5.toInt = ((3 * (gi mem 221 13).toInt) + (w).toInt) → ∀ (y7 : Int32), y7.toInt = (gn (ga mem 237) ((3 * (gi mem 221 13).toInt) + (w).toInt)) → ∀ (x9 : Int32), x9.toInt = ((1600 * (gi mem 221 13).toInt) + (gn (ga mem 237) ((3 * (gi mem 221 13).toInt) + (w).toInt))) → (c).toInt < ((1600 * (gi mem 221 13).toInt) + (gn (ga mem 237) ((3 * (gi mem 221 13).toInt) + (w).toInt))) → ∀ (y12 : Int32), y12.toInt = (gn (ga mem 238) (c).toInt) → 30 < (gn (ga mem 238) (c).toInt) → ¬ (gn (ga mem 238) (c).toInt) = 43 → ¬ (gn (ga mem 238) (c).toInt) = 44 → (-2147483648 : Int) ≤ ((n).toInt + (-1)) ∧ ((n).toInt + (-1)) ≤ 2147483647) (s8 : ∀ (x1 : Int32), x1.toInt = (1600 * (gi mem 221 13).toInt) → ∀ (x3 : Int32), x3.toInt = (3 * (gi mem 221 13).toInt) → ∀ (x5 : Int32), x5.toInt = ((3 * (gi mem 221 13).toInt) + (w).toInt) → ∀ (y7 : Int32), y7.toInt = (gn (ga mem 237) ((3 * (gi mem 221 13).toInt) + (w).toInt)) → ∀ (x9 : Int32), x9.toInt = ((1600 * (gi mem 221 13).toInt) + (gn (ga mem 237) ((3 * (gi mem 221 13).toInt) + (w).toInt))) → (c).toInt < ((1600 * (gi mem 221 13).toInt) + (gn (ga mem 237) ((3 * (gi mem 221 13).toInt) + (w).toInt))) → ∀ (y12 : Int32), y12.toInt = (gn (ga mem 238) (c).toInt) → 30 < (gn (ga mem 238) (c).toInt) → ¬ (gn (ga mem 238) (c).toInt) = 43 → ¬ (gn (ga mem 238) (c).toInt) = 44 → ∀ (x20 : Int32), x20.toInt = ((n).toInt + (-1)) → (-2147483648 : Int) ≤ (((n).toInt + (-1)) - 1) ∧ (((n).toInt + (-1)) - 1) ≤ 2147483647) (s9 : ∀ (x1 : Int32), x1.toInt = (1600 * (gi mem 221 13).toInt) → ∀ (x3 : Int32), x3.toInt = (3 * (gi mem 221 13).toInt) → ∀ (x5 : Int32), x5.toInt = ((3 * (gi mem 221 13).toInt) + (w).toInt) → ∀ (y7 : Int32), y7.toInt = (gn (ga mem 237) ((3 * (gi mem 221 13).toInt) + (w).toInt)) → ∀ (x9 : Int32), x9.toInt = ((1600 * (gi mem 221 13).toInt) + (gn (ga mem 237) ((3 * (gi mem 221 13).toInt) + (w).toInt))) → (c).toInt < ((1600 * (gi mem 221 13).toInt) + (gn (ga mem 237) ((3 * (gi mem 221 13).toInt) + (w).toInt))) → ∀ (y12 : Int32), y12.toInt = (gn (ga mem 238) (c).toInt) → 30 < (gn (ga mem 238) (c).toInt) → ¬ (gn (ga mem 238) (c).toInt) = 43 → ¬ (gn (ga mem 238) (c).toInt) = 44 → ∀ (x20 : Int32), x20.toInt = ((n).toInt + (-1)) → ∀ (x25 : Int32), x25.toInt = (((n).toInt + (-1)) - 1) → (-2147483648 : Int) ≤ (((n).toInt + (-1)) - 1) ∧ (((n).toInt + (-1)) - 1) ≤ 2147483647) (s10 : ∀ (x1 : Int32), x1.toInt = (1600 * (gi mem 221 13).toInt) → ∀ (x3 : Int32), x3.toInt = (3 * (gi mem 221 13).toInt) → ∀ (x5 : Int32), x5.toInt = ((3 * (gi mem 221 13).toInt) + (w).toInt) → ∀ (y7 : Int32), y7.toInt = (gn (ga mem 237) ((3 * (gi mem 221 13).toInt) + (w).toInt)) → ∀ (x9 : Int32), x9.toInt = ((1600 * (gi mem 221 13).toInt) + (gn (ga mem 237) ((3 * (gi mem 221 13).toInt) + (w).toInt))) → (c).toInt < ((1600 * (gi mem 221 13).toInt) + (gn (ga mem 237) ((3 * (gi mem 221 13).toInt) + (w).toInt))) → ∀ (y12 : Int32), y12.toInt = (gn (ga mem 238) (c).toInt) → 30 < (gn (ga mem 238) (c).toInt) → ¬ (gn (ga mem 238) (c).toInt) = 43 → ¬ (gn (ga mem 238) (c).toInt) = 44 → ∀ (x20 : Int32), x20.toInt = ((n).toInt + (-1)) → ∀ (x25 : Int32), x25.toInt = (((n).toInt + (-1)) - 1) → ∀ (x27 : Int32), x27.toInt = (((n).toInt + (-1)) - 1) → (0 : Int) ≤ (((n).toInt + (-1)) - 1) ∧ (((n).toInt + (-1)) - 1) < 500) (s11 : ∀ (x1 : Int32), x1.toInt = (1600 * (gi mem 221 13).toInt) → ∀ (x3 : Int32), x3.toInt = (3 * (gi mem 221 13).toInt) → ∀ (x5 : Int32), x5.toInt = ((3 * (gi mem 221 13).toInt) + (w).toInt) → ∀ (y7 : Int32), y7.toInt = (gn (ga mem 237) ((3 * (gi mem 221 13).toInt) + (w).toInt)) → ∀ (x9 : Int32), x9.toInt = ((1600 * (gi mem 221 13).toInt) + (gn (ga mem 237) ((3 * (gi mem 221 13).toInt) + (w).toInt))) → (c).toInt < ((1600 * (gi mem 221 13).toInt) + (gn (ga mem 237) ((3 * (gi mem 221 13).toInt) + (w).toInt))) → ∀ (y12 : Int32), y12.toInt = (gn (ga mem 238) (c).toInt) → 30 < (gn (ga mem 238) (c).toInt) → ¬ (gn (ga mem 238) (c).toInt) = 43 → ¬ (gn (ga mem 238) (c).toInt) = 44 → ∀ (x20 : Int32), x20.toInt = ((n).toInt + (-1)) → ∀ (x25 : Int32), x25.toInt = (((n).toInt + (-1)) - 1) → ∀ (x27 : Int32), x27.toInt = (((n).toInt + (-1)) - 1) → (0 : Int) ≤ ((n).toInt + (-1)) ∧ ((n).toInt + (-1)) < 500) (s12 : ∀ (x1 : Int32), x1.toInt = (1600 * (gi mem 221 13).toInt) → ∀ (x3 : Int32), x3.toInt = (3 * (gi mem 221 13).toInt) → ∀ (x5 : Int32), x5.toInt = ((3 * (gi mem 221 13).toInt) + (w).toInt) → ∀ (y7 : Int32), y7.toInt = (gn (ga mem 237) ((3 * (gi mem 221 13).toInt) + (w).toInt)) → ∀ (x9 : Int32), x9.toInt = ((1600 * (gi mem 221 13).toInt) + (gn (ga mem 237) ((3 * (gi mem 221 13).toInt) + (w).toInt))) → (c).toInt < ((1600 * (gi mem 221 13).toInt) + (gn (ga mem 237) ((3 * (gi mem 221 13).toInt) + (w).toInt))) → ∀ (y12 : Int32), y12.toInt = (gn (ga mem 238) (c).toInt) → 30 < (gn (ga mem 238) (c).toInt) → ¬ (gn (ga mem 238) (c).toInt) = 43 → ¬ (gn (ga mem 238) (c).toInt) = 44 → ∀ (x20 : Int32), x20.toInt = ((n).toInt + (-1)) → ∀ (x25 : Int32), x25.toInt = (((n).toInt + (-1)) - 1) → ∀ (x27 : Int32), x27.toInt = (((n).toInt + (-1)) - 1) → ∀ (v29 : Int64), True → (0 : Int) ≤ (((n).toInt + (-1)) - 1) ∧ (((n).toInt + (-1)) - 1) < 500) (s13 : ∀ (x1 : Int32), x1.toInt = (1600 * (gi mem 221 13).toInt) → ∀ (x3 : Int32), x3.toInt = (3 * (gi mem 221 13).toInt) → ∀ (x5 : Int32), x5.toInt = ((3 * (gi mem 221 13).toInt) + (w).toInt) → ∀ (y7 : Int32), y7.toInt = (gn (ga mem 237) ((3 * (gi mem 221 13).toInt) + (w).toInt)) → ∀ (x9 : Int32), x9.toInt = ((1600 * (gi mem 221 13).toInt) + (gn (ga mem 237) ((3 * (gi mem 221 13).toInt) + (w).toInt))) → (c).toInt < ((1600 * (gi mem 221 13).toInt) + (gn (ga mem 237) ((3 * (gi mem 221 13).toInt) + (w).toInt))) → ∀ (y12 : Int32), y12.toInt = (gn (ga mem 238) (c).toInt) → 30 < (gn (ga mem 238) (c).toInt) → ¬ (gn (ga mem 238) (c).toInt) = 43 → ¬ (gn (ga mem 238) (c).toInt) = 44 → ∀ (x20 : Int32), x20.toInt = ((n).toInt + (-1)) → ∀ (x25 : Int32), x25.toInt = (((n).toInt + (-1)) - 1) → ∀ (x27 : Int32), x27.toInt = (((n).toInt + (-1)) - 1) → ∀ (v29 : Int64), True → (-2147483648 : Int) ≤ ((c).toInt + 1) ∧ ((c).toInt + 1) ≤ 2147483647) (h2 : ∀ (x1 : Int32), x1.toInt = (1600 * (gi mem 221 13).toInt) → ∀ (x3 : Int32), x3.toInt = (3 * (gi mem 221 13).toInt) → ∀ (x5 : Int32), x5.toInt = ((3 * (gi mem 221 13).toInt) + (w).toInt) → ∀ (y7 : Int32), y7.toInt = (gn (ga mem 237) ((3 * (gi mem 221 13).toInt) + (w).toInt)) → ∀ (x9 : Int32), x9.toInt = ((1600 * (gi mem 221 13).toInt) + (gn (ga mem 237) ((3 * (gi mem 221 13).toInt) + (w).toInt))) → (c).toInt < ((1600 * (gi mem 221 13).toInt) + (gn (ga mem 237) ((3 * (gi mem 221 13).toInt) + (w).toInt))) → ∀ (y12 : Int32), y12.toInt = (gn (ga mem 238) (c).toInt) → 30 < (gn (ga mem 238) (c).toInt) → ¬ (gn (ga mem 238) (c).toInt) = 43 → ¬ (gn (ga mem 238) (c).toInt) = 44 → ∀ (x20 : Int32), x20.toInt = ((n).toInt + (-1)) → ∀ (x25 : Int32), x25.toInt = (((n).toInt + (-1)) - 1) → ∀ (x27 : Int32), x27.toInt = (((n).toInt + (-1)) - 1) → ∀ (v29 : Int64), True → ∀ (x31 : Int32), x31.toInt = ((c).toInt + 1) → ∀ lo, zlg lo 0 = some (.ref 221) → zlg lo 1 = some (.int w) → zlg lo 2 = some (.int x20) → zlg lo 3 = some (.int x31) → wI (aΘ0 E) m0 (sX mem 256 x25 v29) → yR zpg tX12_reckons (d + 3) (25, lo, [], (sX mem 256 x25 v29)) P) (s14 : ∀ (x1 : Int32), x1.toInt = (1600 * (gi mem 221 13).toInt) → ∀ (x3 : Int32), x3.toInt = (3 * (gi mem 221 13).toInt) → ∀ (x5 : Int32), x5.toInt = ((3 * (gi mem 221 13).toInt) + (w).toInt) → ∀ (y7 : Int32), y7.toInt = (gn (ga mem 237) ((3 * (gi mem 221 13).toInt) + (w).toInt)) → ∀ (x9 : Int32), x9.toInt = ((1600 * (gi mem 221 13).toInt) + (gn (ga mem 237) ((3 * (gi mem 221 13).toInt) + (w).toInt))) → (c).toInt < ((1600 * (gi mem 221 13).toInt) + (gn (ga mem 237) ((3 * (gi mem 221 13).toInt) + (w).toInt))) → ∀ (y12 : Int32), y12.toInt = (gn (ga mem 238) (c).toInt) → 30 < (gn (ga mem 238) (c).toInt) → ¬ (gn (ga mem 238) (c).toInt) = 43 → (gn (ga mem 238) (c).toInt) = 44 → (-2147483648 : Int) ≤ ((n).toInt + (-2)) ∧ ((n).toInt + (-2)) ≤ 2147483647) (s15 : ∀ (x1 : Int32), x1.toInt = (1600 * (gi mem 221 13).toInt) → ∀ (x3 : Int32), x3.toInt = (3 * (gi mem 221 13).toInt) → ∀ (x5 : Int32), x5.toInt = ((3 * (gi mem 221 13).toInt) + (w).toInt) → ∀ (y7 : Int32), y7.toInt = (gn (ga mem 237) ((3 * (gi mem 221 13).toInt) + (w).toInt)) → ∀ (x9 : Int32), x9.toInt = ((1600 * (gi mem 221 13).toInt) + (gn (ga mem 237) ((3 * (gi mem 221 13).toInt) + (w).toInt))) → (c).toInt < ((1600 * (gi mem 221 13).toInt) + (gn (ga mem 237) ((3 * (gi mem 221 13).toInt) + (w).toInt))) → ∀ (y12 : Int32), y12.toInt = (gn (ga mem 238) (c).toInt) → 30 < (gn (ga mem 238) (c).toInt) → ¬ (gn (ga mem 238) (c).toInt) = 43 → (gn (ga mem 238) (c).toInt) = 44 → ∀ (x36 : Int32), x36.toInt = ((n).toInt + (-2)) → (-2147483648 : Int) ≤ (((n).toInt + (-2)) - 1) ∧ (((n).toInt + (-2)) - 1) ≤ 2147483647) (s16 : ∀ (x1 : Int32), x1.toInt = (1600 * (gi mem 221 13).toInt) → ∀ (x3 : Int32), x3.toInt = (3 * (gi mem 221 13).toInt) → ∀ (x5 : Int32), x5.toInt = ((3 * (gi mem 221 13).toInt) + (w).toInt) → ∀ (y7 : Int32), y7.toInt = (gn (ga mem 237) ((3 * (gi mem 221 13).toInt) + (w).toInt)) → ∀ (x9 : Int32), x9.toInt = ((1600 * (gi mem 221 13).toInt) + (gn (ga mem 237) ((3 * (gi mem 221 13).toInt) + (w).toInt))) → (c).toInt < ((1600 * (gi mem 221 13).toInt) + (gn (ga mem 237) ((3 * (gi mem 221 13).toInt) + (w).toInt))) → ∀ (y12 : Int32), y12.toInt = (gn (ga mem 238) (c).toInt) → 30 < (gn (ga mem 238) (c).toInt) → ¬ (gn (ga mem 238) (c).toInt) = 43 → (gn (ga mem 238) (c).toInt) = 44 → ∀ (x36 : Int32), x36.toInt = ((n).toInt + (-2)) → ∀ (x41 : Int32), x41.toInt = (((n).toInt + (-2)) - 1) → (-2147483648 : Int) ≤ (((n).toInt + (-2)) - 1) ∧ (((n).toInt + (-2)) - 1) ≤ 2147483647) (s17 : ∀ (x1 : Int32), x1.toInt = (1600 * (gi mem 221 13).toInt) → ∀ (x3 : Int32), x3.toInt = (3 * (gi mem 221 13).toInt) → ∀ (x5 : Int32), x5.toInt = ((3 * (gi mem 221 13).toInt) + (w).toInt) → ∀ (y7 : Int32), y7.toInt = (gn (ga mem 237) ((3 * (gi mem 221 13).toInt) + (w).toInt)) → ∀ (x9 : Int32), x9.toInt = ((1600 * (gi mem 221 13).toInt) + (gn (ga mem 237) ((3 * (gi mem 221 13).toInt) + (w).toInt))) → (c).toInt < ((1600 * (gi mem 221 13).toInt) + (gn (ga mem 237) ((3 * (gi mem 221 13).toInt) + (w).toInt))) → ∀ (y12 : Int32), y12.toInt = (gn (ga mem 238) (c).toInt) → 30 < (gn (ga mem 238) (c).toInt) → ¬ (gn (ga mem 238) (c).toInt) = 43 → (gn (ga mem 238) (c).toInt) = 44 → ∀ (x36 : Int32), x36.toInt = ((n).toInt + (-2)) → ∀ (x41 : Int32), x41.toInt = (((n).toInt + (-2)) - 1) → ∀ (x43 : Int32), x43.toInt = (((n).toInt + (-2)) - 1) → (0 : Int) ≤ (((n).toInt + (-2)) - 1) ∧ (((n).toInt + (-2)) - 1) < 500) (s18 : ∀ (x1 : Int32), x1.toInt = (1600 * (gi mem 221 13).toInt) → ∀ (x3 : Int32), x3.toInt = (3 * (gi mem 221 13).toInt) → ∀ (x5 : Int32), x5.toInt = ((3 * (gi mem 221 13).toInt) + (w).toInt) → ∀ (y7 : Int32), y7.toInt = (gn (ga mem 237) ((3 * (gi mem 221 13).toInt) + (w).toInt)) → ∀ (x9 : Int32), x9.toInt = ((1600 * (gi mem 221 13).toInt) + (gn (ga mem 237) ((3 * (gi mem 221 13).toInt) + (w).toInt))) → (c).toInt < ((1600 * (gi mem 221 13).toInt) + (gn (ga mem 237) ((3 * (gi mem 221 13).toInt) + (w).toInt))) → ∀ (y12 : Int32), y12.toInt = (gn (ga mem 238) (c).toInt) → 30 < (gn (ga mem 238) (c).toInt) → ¬ (gn (ga mem 238) (c).toInt) = 43 → (gn (ga mem 238) (c).toInt) = 44 → ∀ (x36 : Int32), x36.toInt = ((n).toInt + (-2)) → ∀ (x41 : Int32), x41.toInt = (((n).toInt + (-2)) - 1) → ∀ (x43 : Int32), x43.toInt = (((n).toInt + (-2)) - 1) → ¬ ((gA mem 256).getD ((((n).toInt + (-2)) - 1) : Int).toNat 0) = 1 → (-2147483648 : Int) ≤ (((n).toInt + (-2)) + 1) ∧ (((n).toInt + (-2)) + 1) ≤ 2147483647) (s19 : ∀ (x1 : Int32), x1.toInt = (1600 * (gi mem 221 13).toInt) → ∀ (x3 : Int32), x3.toInt = (3 * (gi mem 221 13).toInt) → ∀ (x5 : Int32), x5.toInt = ((3 * (gi mem 221 13).toInt) + (w).toInt) → ∀ (y7 : Int32), y7.toInt = (gn (ga mem 237) ((3 * (gi mem 221 13).toInt) + (w).toInt)) → ∀ (x9 : Int32), x9.toInt = ((1600 * (gi mem 221 13).toInt) + (gn (ga mem 237) ((3 * (gi mem 221 13).toInt) + (w).toInt))) → (c).toInt < ((1600 * (gi mem 221 13).toInt) + (gn (ga mem 237) ((3 * (gi mem 221 13).toInt) + (w).toInt))) → ∀ (y12 : Int32), y12.toInt = (gn (ga mem 238) (c).toInt) → 30 < (gn (ga mem 238) (c).toInt) → ¬ (gn (ga mem 238) (c).toInt) = 43 → (gn (ga mem 238) (c).toInt) = 44 → ∀ (x36 : Int32), x36.toInt = ((n).toInt + (-2)) → ∀ (x41 : Int32), x41.toInt = (((n).toInt + (-2)) - 1) → ∀ (x43 : Int32), x43.toInt = (((n).toInt + (-2)) - 1) → ¬ ((gA mem 256).getD ((((n).toInt + (-2)) - 1) : Int).toNat 0) = 1 → ∀ (x46 : Int32), x46.toInt = (((n).toInt + (-2)) + 1) → (0 : Int) ≤ (((n).toInt + (-2)) + 1) ∧ (((n).toInt + (-2)) + 1) < 500) (s20 : ∀ (x1 : Int32), x1.toInt = (1600 * (gi mem 221 13).toInt) → ∀ (x3 : Int32), x3.toInt = (3 * (gi mem 221 13).toInt) → ∀ (x5 : Int32), x5.toInt = ((3 * (gi mem 221 13).toInt) + (w).toInt) → ∀ (y7 : Int32), y7.toInt = (gn (ga mem 237) ((3 * (gi mem 221 13).toInt) + (w).toInt)) → ∀ (x9 : Int32), x9.toInt = ((1600 * (gi mem 221 13).toInt) + (gn (ga mem 237) ((3 * (gi mem 221 13).toInt) + (w).toInt))) → (c).toInt < ((1600 * (gi mem 221 13).toInt) + (gn (ga mem 237) ((3 * (gi mem 221 13).toInt) + (w).toInt))) → ∀ (y12 : Int32), y12.toInt = (gn (ga mem 238) (c).toInt) → 30 < (gn (ga mem 238) (c).toInt) → ¬ (gn (ga mem 238) (c).toInt) = 43 → (gn (ga mem 238) (c).toInt) = 44 → ∀ (x36 : Int32), x36.toInt = ((n).toInt + (-2)) → ∀ (x41 : Int32), x41.toInt = (((n).toInt + (-2)) - 1) → ∀ (x43 : Int32), x43.toInt = (((n).toInt + (-2)) - 1) → ¬ ((gA mem 256).getD ((((n).toInt + (-2)) - 1) : Int).toNat 0) = 1 → ∀ (x46 : Int32), x46.toInt = (((n).toInt + (-2)) + 1) → (0 : Int) ≤ (((n).toInt + (-2)) - 1) ∧ (((n).toInt + (-2)) - 1) < 500) (s21 : ∀ (x1 : Int32), x1.toInt = (1600 * (gi mem 221 13).toInt) → ∀ (x3 : Int32), x3.toInt = (3 * (gi mem 221 13).toInt) → ∀ (x5 : Int32), x5.toInt = ((3 * (gi mem 221 13).toInt) + (w).toInt) → ∀ (y7 : Int32), y7.toInt = (gn (ga mem 237) ((3 * (gi mem 221 13).toInt) + (w).toInt)) → ∀ (x9 : Int32), x9.toInt = ((1600 * (gi mem 221 13).toInt) + (gn (ga mem 237) ((3 * (gi mem 221 13).toInt) + (w).toInt))) → (c).toInt < ((1600 * (gi mem 221 13).toInt) + (gn (ga mem 237) ((3 * (gi mem 221 13).toInt) + (w).toInt))) → ∀ (y12 : Int32), y12.toInt = (gn (ga mem 238) (c).toInt) → 30 < (gn (ga mem 238) (c).toInt) → ¬ (gn (ga mem 238) (c).toInt) = 43 → (gn (ga mem 238) (c).toInt) = 44 → ∀ (x36 : Int32), x36.toInt = ((n).toInt + (-2)) → ∀ (x41 : Int32), x41.toInt = (((n).toInt + (-2)) - 1) → ∀ (x43 : Int32), x43.toInt = (((n).toInt + (-2)) - 1) → ¬ ((gA mem 256).getD ((((n).toInt + (-2)) - 1) : Int).toNat 0) = 1 → ∀ (x46 : Int32), x46.toInt = (((n).toInt + (-2)) + 1) → (-2147483648 : Int) ≤ ((c).toInt + 1) ∧ ((c).toInt + 1) ≤ 2147483647) (h3 : ∀ (x1 : Int32), x1.toInt = (1600 * (gi mem 221 13).toInt) → ∀ (x3 : Int32), x3.toInt = (3 * (gi mem 221 13).toInt) → ∀ (x5 : Int32), x5.toInt = ((3 * (gi mem 221 13).toInt) + (w).toInt) → ∀ (y7 : Int32), y7.toInt = (gn (ga mem 237) ((3 * (gi mem 221 13).toInt) + (w).toInt)) → ∀ (x9 : Int32), x9.toInt = ((1600 * (gi mem 221 13).toInt) + (gn (ga mem 237) ((3 * (gi mem 221 13).toInt) + (w).toInt))) → (c).toInt < ((1600 * (gi mem 221 13).toInt) + (gn (ga mem 237) ((3 * (gi mem 221 13).toInt) + (w).toInt))) → ∀ (y12 : Int32), y12.toInt = (gn (ga mem 238) (c).toInt) → 30 < (gn (ga mem 238) (c).toInt) → ¬ (gn (ga mem 238) (c).toInt) = 43 → (gn (ga mem 238) (c).toInt) = 44 → ∀ (x36 : Int32), x36.toInt = ((n).toInt + (-2)) → ∀ (x41 : Int32), x41.toInt = (((n).toInt + (-2)) - 1) → ∀ (x43 : Int32), x43.toInt = (((n).toInt + (-2)) - 1) → ¬ ((gA mem 256).getD ((((n).toInt + (-2)) - 1) : Int).toNat 0) = 1 → ∀ (x46 : Int32), x46.toInt = (((n).toInt + (-2)) + 1) → ∀ (x48 : Int32), x48.toInt = ((c).toInt + 1) → ∀ lo, zlg lo 0 = some (.ref 221) → zlg lo 1 = some (.int w) → zlg lo 2 = some (.int x36) → zlg lo 3 = some (.int x48) → wI (aΘ0 E) m0 (sX mem 256 x41 ((gA mem 256).getD ((((n).toInt + (-2)) + 1) : Int).toNat 0)) → yR zpg tX12_reckons (d + 3) (25, lo, [], (sX mem 256 x41 ((gA mem 256).getD ((((n).toInt + (-2)) + 1) : Int).toNat 0))) P) (s22 : ∀ (x1 : Int32), x1.toInt = (1600 * (gi mem 221 13).toInt) → ∀ (x3 : Int32), x3.toInt = (3 * (gi mem 221 13).toInt) → ∀ (x5 : Int32), x5.toInt = ((3 * (gi mem 221 13).toInt) + (w).toInt) → ∀ (y7 : Int32), y7.toInt = (gn (ga mem 237) ((3 * (gi mem 221 13).toInt) + (w).toInt)) → ∀ (x9 : Int32), x9.toInt = ((1600 * (gi mem 221 13).toInt) + (gn (ga mem 237) ((3 * (gi mem 221 13).toInt) + (w).toInt))) → (c).toInt < ((1600 * (gi mem 221 13).toInt) + (gn (ga mem 237) ((3 * (gi mem 221 13).toInt) + (w).toInt))) → ∀ (y12 : Int32), y12.toInt = (gn (ga mem 238) (c).toInt) → 30 < (gn (ga mem 238) (c).toInt) → ¬ (gn (ga mem 238) (c).toInt) = 43 → (gn (ga mem 238) (c).toInt) = 44 → ∀ (x36 : Int32), x36.toInt = ((n).toInt + (-2)) → ∀ (x41 : Int32), x41.toInt = (((n).toInt + (-2)) - 1) → ∀ (x43 : Int32), x43.toInt = (((n).toInt + (-2)) - 1) → ((gA mem 256).getD ((((n).toInt + (-2)) - 1) : Int).toNat 0) = 1 → (0 : Int) ≤ ((n).toInt + (-2)) ∧ ((n).toInt + (-2)) < 500) (s23 : ∀ (x1 : Int32), x1.toInt = (1600 * (gi mem 221 13).toInt) → ∀ (x3 : Int32), x3.toInt = (3 * (gi mem 221 13).toInt) → ∀ (x5 : Int32), x5.toInt = ((3 * (gi mem 221 13).toInt) + (w).toInt) → ∀ (y7 : Int32), y7.toInt = (gn (ga mem 237) ((3 * (gi mem 221 13).toInt) + (w).toInt)) → ∀ (x9 : Int32), x9.toInt = ((1600 * (gi mem 221 13).toInt) + (gn (ga mem 237) ((3 * (gi mem 221 13).toInt) + (w).toInt))) → (c).toInt < ((1600 * (gi mem 221 13).toInt) + (gn (ga mem 237) ((3 * (gi mem 221 13).toInt) + (w).toInt))) → ∀ (y12 : Int32), y12.toInt = (gn (ga mem 238) (c).toInt) → 30 < (gn (ga mem 238) (c).toInt) → ¬ (gn (ga mem 238) (c).toInt) = 43 → (gn (ga mem 238) (c).toInt) = 44 → ∀ (x36 : Int32), x36.toInt = ((n).toInt + (-2)) → ∀ (x41 : Int32), x41.toInt = (((n).toInt + (-2)) - 1) → ∀ (x43 : Int32), x43.toInt = (((n).toInt + (-2)) - 1) → ((gA mem 256).getD ((((n).toInt + (-2)) - 1) : Int).toNat 0) = 1 → (0 : Int) ≤ (((n).toInt + (-2)) - 1) ∧ (((n).toInt + (-2)) - 1) < 500) (s24 : ∀ (x1 : Int32), x1.toInt = (1600 * (gi mem 221 13).toInt) → ∀ (x3 : Int32), x3.toInt = (3 * (gi mem 221 13).toInt) → ∀ (x5 : Int32), x5.toInt = ((3 * (gi mem 221 13).toInt) + (w).toInt) → ∀ (y7 : Int32), y7.toInt = (gn (ga mem 237) ((3 * (gi mem 221 13).toInt) + (w).toInt)) → ∀ (x9 : Int32), x9.toInt = ((1600 * (gi mem 221 13).toInt) + (gn (ga mem 237) ((3 * (gi mem 221 13).toInt) + (w).toInt))) → (c).toInt < ((1600 * (gi mem 221 13).toInt) + (gn (ga mem 237) ((3 * (gi mem 221 13).toInt) + (w).toInt))) → ∀ (y12 : Int32), y12.toInt = (gn (ga mem 238) (c).toInt) → 30 < (gn (ga mem 238) (c).toInt) → ¬ (gn (ga mem 238) (c).toInt) = 43 → (gn (ga mem 238) (c).toInt) = 44 → ∀ (x36 : Int32), x36.toInt = ((n).toInt + (-2)) → ∀ (x41 : Int32), x41.toInt = (((n).toInt + (-2)) - 1) → ∀ (x43 : Int32), x43.toInt = (((n).toInt + (-2)) - 1) → ((gA mem 256).getD ((((n).toInt + (-2)) - 1) : Int).toNat 0) = 1 → (-2147483648 : Int) ≤ ((c).toInt + 1) ∧ ((c).toInt + 1) ≤ 2147483647) (h4 : ∀ (x1 : Int32), x1.toInt = (1600 * (gi mem 221 13).toInt) → ∀ (x3 : Int32), x3.toInt = (3 * (gi mem 221 13).toInt) → ∀ (x5 : Int32), x5.toInt = ((3 * (gi mem 221 13).toInt) + (w).toInt) → ∀ (y7 : Int32), y7.toInt = (gn (ga mem 237) ((3 * (gi mem 221 13).toInt) + (w).toInt)) → ∀ (x9 : Int32), x9.toInt = ((1600 * (gi mem 221 13).toInt) + (gn (ga mem 237) ((3 * (gi mem 221 13).toInt) + (w).toInt))) → (c).toInt < ((1600 * (gi mem 221 13).toInt) + (gn (ga mem 237) ((3 * (gi mem 221 13).toInt) + (w).toInt))) → ∀ (y12 : Int32), y12.toInt = (gn (ga mem 238) (c).toInt) → 30 < (gn (ga mem 238) (c).toInt) → ¬ (gn (ga mem 238) (c).toInt) = 43 → (gn (ga mem 238) (c).toInt) = 44 → ∀ (x36 : Int32), x36.toInt = ((n).toInt + (-2)) → ∀ (x41 : Int32), x41.toInt = (((n).toInt + (-2)) - 1) → ∀ (x43 : Int32), x43.toInt = (((n).toInt + (-2)) - 1) → ((gA mem 256).getD ((((n).toInt + (-2)) - 1) : Int).toNat 0) = 1 → ∀ (x53 : Int32), x53.toInt = ((c).toInt + 1) → ∀ lo, zlg lo 0 = some (.ref 221) → zlg lo 1 = some (.int w) → zlg lo 2 = some (.int x36) → zlg lo 3 = some (.int x53) → wI (aΘ0 E) m0 (sX mem 256 x41 ((gA mem 256).getD (((n).toInt + (-2)) : Int).toNat 0)) → yR zpg tX12_reckons (d + 3) (25, lo, [], (sX mem 256 x41 ((gA mem 256).getD (((n).toInt + (-2)) : Int).toNat 0))) P) (s25 : ∀ (x1 : Int32), x1.toInt = (1600 * (gi mem 221 13).toInt) → ∀ (x3 : Int32), x3.toInt = (3 * (gi mem 221 13).toInt) → ∀ (x5 : Int32), x5.toInt = ((3 * (gi mem 221 13).toInt) + (w).toInt) → ∀ (y7 : Int32), y7.toInt = (gn (ga mem 237) ((3 * (gi mem 221 13).toInt) + (w).toInt)) → ∀ (x9 : Int32), x9.toInt = ((1600 * (gi mem 221 13).toInt) + (gn (ga mem 237) ((3 * (gi mem 221 13).toInt) + (w).toInt))) → (c).toInt < ((1600 * (gi mem 221 13).toInt) + (gn (ga mem 237) ((3 * (gi mem 221 13).toInt) + (w).toInt))) → ∀ (y12 : Int32), y12.toInt = (gn (ga mem 238) (c).toInt) → 30 < (gn (ga mem 238) (c).toInt) → (gn (ga mem 238) (c).toInt) = 43 → (-2147483648 : Int) ≤ ((n).toInt - 1) ∧ ((n).toInt - 1) ≤ 2147483647) (s26 : ∀ (x1 : Int32), x1.toInt = (1600 * (gi mem 221 13).toInt) → ∀ (x3 : Int32), x3.toInt = (3 * (gi mem 221 13).toInt) → ∀ (x5 : Int32), x5.toInt = ((3 * (gi mem 221 13).toInt) + (w).toInt) → ∀ (y7 : Int32), y7.toInt = (gn (ga mem 237) ((3 * (gi mem 221 13).toInt) + (w).toInt)) → ∀ (x9 : Int32), x9.toInt = ((1600 * (gi mem 221 13).toInt) + (gn (ga mem 237) ((3 * (gi mem 221 13).toInt) + (w).toInt))) → (c).toInt < ((1600 * (gi mem 221 13).toInt) + (gn (ga mem 237) ((3 * (gi mem 221 13).toInt) + (w).toInt))) → ∀ (y12 : Int32), y12.toInt = (gn (ga mem 238) (c).toInt) → 30 < (gn (ga mem 238) (c).toInt) → (gn (ga mem 238) (c).toInt) = 43 → ∀ (x58 : Int32), x58.toInt = ((n).toInt - 1) → (-2147483648 : Int) ≤ ((n).toInt - 1) ∧ ((n).toInt - 1) ≤ 2147483647) (s27 : ∀ (x1 : Int32), x1.toInt = (1600 * (gi mem 221 13).toInt) → ∀ (x3 : Int32), x3.toInt = (3 * (gi mem 221 13).toInt) → ∀ (x5 : Int32), x5.toInt = ((3 * (gi mem 221 13).toInt) + (w).toInt) → ∀ (y7 : Int32), y7.toInt = (gn (ga mem 237) ((3 * (gi mem 221 13).toInt) + (w).toInt)) → ∀ (x9 : Int32), x9.toInt = ((1600 * (gi mem 221 13).toInt) + (gn (ga mem 237) ((3 * (gi mem 221 13).toInt) + (w).toInt))) → (c).toInt < ((1600 * (gi mem 221 13).toInt) + (gn (ga mem 237) ((3 * (gi mem 221 13).toInt) + (w).toInt))) → ∀ (y12 : Int32), y12.toInt = (gn (ga mem 238) (c).toInt) → 30 < (gn (ga mem 238) (c).toInt) → (gn (ga mem 238) (c).toInt) = 43 → ∀ (x58 : Int32), x58.toInt = ((n).toInt - 1) → ∀ (x60 : Int32), x60.toInt = ((n).toInt - 1) → (0 : Int) ≤ ((n).toInt - 1) ∧ ((n).toInt - 1) < 500) (s28 : ∀ (x1 : Int32), x1.toInt = (1600 * (gi mem 221 13).toInt) → ∀ (x3 : Int32), x3.toInt = (3 * (gi mem 221 13).toInt) → ∀ (x5 : Int32), x5.toInt = ((3 * (gi mem 221 13).toInt) + (w).toInt) → ∀ (y7 : Int32), y7.toInt = (gn (ga mem 237) ((3 * (gi mem 221 13).toInt) + (w).toInt)) → ∀ (x9 : Int32), x9.toInt = ((1600 * (gi mem 221 13).toInt) + (gn (ga mem 237) ((3 * (gi mem 221 13).toInt) + (w).toInt))) → (c).toInt < ((1600 * (gi mem 221 13).toInt) + (gn (ga mem 237) ((3 * (gi mem 221 13).toInt) + (w).toInt))) → ∀ (y12 : Int32), y12.toInt = (gn (ga mem 238) (c).toInt) → 30 < (gn (ga mem 238) (c).toInt) → (gn (ga mem 238) (c).toInt) = 43 → ∀ (x58 : Int32), x58.toInt = ((n).toInt - 1) → ∀ (x60 : Int32), x60.toInt = ((n).toInt - 1) → (-2147483648 : Int) ≤ ((c).toInt + 1) ∧ ((c).toInt + 1) ≤ 2147483647) (h5 : ∀ (x1 : Int32), x1.toInt = (1600 * (gi mem 221 13).toInt) → ∀ (x3 : Int32), x3.toInt = (3 * (gi mem 221 13).toInt) → ∀ (x5 : Int32), x5.toInt = ((3 * (gi mem 221 13).toInt) + (w).toInt) → ∀ (y7 : Int32), y7.toInt = (gn (ga mem 237) ((3 * (gi mem 221 13).toInt) + (w).toInt)) → ∀ (x9 : Int32), x9.toInt = ((1600 * (gi mem 221 13).toInt) + (gn (ga mem 237) ((3 * (gi mem 221 13).toInt) + (w).toInt))) → (c).toInt < ((1600 * (gi mem 221 13).toInt) + (gn (ga mem 237) ((3 * (gi mem 221 13).toInt) + (w).toInt))) → ∀ (y12 : Int32), y12.toInt = (gn (ga mem 238) (c).toInt) → 30 < (gn (ga mem 238) (c).toInt) → (gn (ga mem 238) (c).toInt) = 43 → ∀ (x58 : Int32), x58.toInt = ((n).toInt - 1) → ∀ (x60 : Int32), x60.toInt = ((n).toInt - 1) → ∀ (x62 : Int32), x62.toInt = ((c).toInt + 1) → ∀ lo, zlg lo 0 = some (.ref 221) → zlg lo 1 = some (.int w) → zlg lo 2 = some (.int n) → zlg lo 3 = some (.int x62) → wI (aΘ0 E) m0 (sX mem 256 x58 (1 - ((gA mem 256).getD (((n).toInt - 1) : Int).toNat 0))) → yR zpg tX12_reckons (d + 3) (25, lo, [], (sX mem 256 x58 (1 - ((gA mem 256).getD (((n).toInt - 1) : Int).toNat 0)))) P) (s29 : ∀ (x1 : Int32), x1.toInt = (1600 * (gi mem 221 13).toInt) → ∀ (x3 : Int32), x3.toInt = (3 * (gi mem 221 13).toInt) → ∀ (x5 : Int32), x5.toInt = ((3 * (gi mem 221 13).toInt) + (w).toInt) → ∀ (y7 : Int32), y7.toInt = (gn (ga mem 237) ((3 * (gi mem 221 13).toInt) + (w).toInt)) → ∀ (x9 : Int32), x9.toInt = ((1600 * (gi mem 221 13).toInt) + (gn (ga mem 237) ((3 * (gi mem 221 13).toInt) + (w).toInt))) → (c).toInt < ((1600 * (gi mem 221 13).toInt) + (gn (ga mem 237) ((3 * (gi mem 221 13).toInt) + (w).toInt))) → ∀ (y12 : Int32), y12.toInt = (gn (ga mem 238) (c).toInt) → (gn (ga mem 238) (c).toInt) ≤ 30 → ¬ (gn (ga mem 238) (c).toInt) = 0 → ¬ (gn (ga mem 238) (c).toInt) = 30 → (0 : Int) ≤ (gn (ga mem 238) (c).toInt) ∧ (gn (ga mem 238) (c).toInt) < 10) (s30 : ∀ (x1 : Int32), x1.toInt = (1600 * (gi mem 221 13).toInt) → ∀ (x3 : Int32), x3.toInt = (3 * (gi mem 221 13).toInt) → ∀ (x5 : Int32), x5.toInt = ((3 * (gi mem 221 13).toInt) + (w).toInt) → ∀ (y7 : Int32), y7.toInt = (gn (ga mem 237) ((3 * (gi mem 221 13).toInt) + (w).toInt)) → ∀ (x9 : Int32), x9.toInt = ((1600 * (gi mem 221 13).toInt) + (gn (ga mem 237) ((3 * (gi mem 221 13).toInt) + (w).toInt))) → (c).toInt < ((1600 * (gi mem 221 13).toInt) + (gn (ga mem 237) ((3 * (gi mem 221 13).toInt) + (w).toInt))) → ∀ (y12 : Int32), y12.toInt = (gn (ga mem 238) (c).toInt) → (gn (ga mem 238) (c).toInt) ≤ 30 → ¬ (gn (ga mem 238) (c).toInt) = 0 → ¬ (gn (ga mem 238) (c).toInt) = 30 → ∀ (y69 : Int32), y69.toInt = (gn (ga mem 257) (gn (ga mem 238) (c).toInt)) → (0 : Int) ≤ (n).toInt ∧ (n).toInt < 500) (s31 : ∀ (x1 : Int32), x1.toInt = (1600 * (gi mem 221 13).toInt) → ∀ (x3 : Int32), x3.toInt = (3 * (gi mem 221 13).toInt) → ∀ (x5 : Int32), x5.toInt = ((3 * (gi mem 221 13).toInt) + (w).toInt) → ∀ (y7 : Int32), y7.toInt = (gn (ga mem 237) ((3 * (gi mem 221 13).toInt) + (w).toInt)) → ∀ (x9 : Int32), x9.toInt = ((1600 * (gi mem 221 13).toInt) + (gn (ga mem 237) ((3 * (gi mem 221 13).toInt) + (w).toInt))) → (c).toInt < ((1600 * (gi mem 221 13).toInt) + (gn (ga mem 237) ((3 * (gi mem 221 13).toInt) + (w).toInt))) → ∀ (y12 : Int32), y12.toInt = (gn (ga mem 238) (c).toInt) → (gn (ga mem 238) (c).toInt) ≤ 30 → ¬ (gn (ga mem 238) (c).toInt) = 0 → ¬ (gn (ga mem 238) (c).toInt) = 30 → ∀ (y69 : Int32), y69.toInt = (gn (ga mem 257) (gn (ga mem 238) (c).toInt)) → (-2147483648 : Int) ≤ ((n).toInt + 1) ∧ ((n).toInt + 1) ≤ 2147483647) (s32 : ∀ (x1 : Int32), x1.toInt = (1600 * (gi mem 221 13).toInt) → ∀ (x3 : Int32), x3.toInt = (3 * (gi mem 221 13).toInt) → ∀ (x5 : Int32), x5.toInt = ((3 * (gi mem 221 13).toInt) + (w).toInt) → ∀ (y7 : Int32), y7.toInt = (gn (ga mem 237) ((3 * (gi mem 221 13).toInt) + (w).toInt)) → ∀ (x9 : Int32), x9.toInt = ((1600 * (gi mem 221 13).toInt) + (gn (ga mem 237) ((3 * (gi mem 221 13).toInt) + (w).toInt))) → (c).toInt < ((1600 * (gi mem 221 13).toInt) + (gn (ga mem 237) ((3 * (gi mem 221 13).toInt) + (w).toInt))) → ∀ (y12 : Int32), y12.toInt = (gn (ga mem 238) (c).toInt) → (gn (ga mem 238) (c).toInt) ≤ 30 → ¬ (gn (ga mem 238) (c).toInt) = 0 → ¬ (gn (ga mem 238) (c).toInt) = 30 → ∀ (y69 : Int32), y69.toInt = (gn (ga mem 257) (gn (ga mem 238) (c).toInt)) → ∀ (x71 : Int32), x71.toInt = ((n).toInt + 1) → (-2147483648 : Int) ≤ ((c).toInt + 1) ∧ ((c).toInt + 1) ≤ 2147483647) (h6 : ∀ (x1 : Int32), x1.toInt = (1600 * (gi mem 221 13).toInt) → ∀ (x3 : Int32), x3.toInt = (3 * (gi mem 221 13).toInt) → ∀ (x5 : Int32), x5.toInt = ((3 * (gi mem 221 13).toInt) + (w).toInt) → ∀ (y7 : Int32), y7.toInt = (gn (ga mem 237) ((3 * (gi mem 221 13).toInt) + (w).toInt)) → ∀ (x9 : Int32), x9.toInt = ((1600 * (gi mem 221 13).toInt) + (gn (ga mem 237) ((3 * (gi mem 221 13).toInt) + (w).toInt))) → (c).toInt < ((1600 * (gi mem 221 13).toInt) + (gn (ga mem 237) ((3 * (gi mem 221 13).toInt) + (w).toInt))) → ∀ (y12 : Int32), y12.toInt = (gn (ga mem 238) (c).toInt) → (gn (ga mem 238) (c).toInt) ≤ 30 → ¬ (gn (ga mem 238) (c).toInt) = 0 → ¬ (gn (ga mem 238) (c).toInt) = 30 → ∀ (y69 : Int32), y69.toInt = (gn (ga mem 257) (gn (ga mem 238) (c).toInt)) → ∀ (x71 : Int32), x71.toInt = ((n).toInt + 1) → ∀ (x76 : Int32), x76.toInt = ((c).toInt + 1) → ∀ lo, zlg lo 0 = some (.ref 221) → zlg lo 1 = some (.int w) → zlg lo 2 = some (.int x71) → zlg lo 3 = some (.int x76) → wI (aΘ0 E) m0 (sX mem 256 n (y69 : Int32).toInt64) → yR zpg tX12_reckons (d + 3) (25, lo, [], (sX mem 256 n (y69 : Int32).toInt64)) P) (s33 : ∀ (x1 : Int32), x1.toInt = (1600 * (gi mem 221 13).toInt) → ∀ (x3 : Int32), x3.toInt = (3 * (gi mem 221 13).toInt) → ∀ (x5 : Int32), x5.toInt = ((3 * (gi mem 221 13).toInt) + (w).toInt) → ∀ (y7 : Int32), y7.toInt = (gn (ga mem 237) ((3 * (gi mem 221 13).toInt) + (w).toInt)) → ∀ (x9 : Int32), x9.toInt = ((1600 * (gi mem 221 13).toInt) + (gn (ga mem 237) ((3 * (gi mem 221 13).toInt) + (w).toInt))) → (c).toInt < ((1600 * (gi mem 221 13).toInt) + (gn (ga mem 237) ((3 * (gi mem 221 13).toInt) + (w).toInt))) → ∀ (y12 : Int32), y12.toInt = (gn (ga mem 238) (c).toInt) → (gn (ga mem 238) (c).toInt) ≤ 30 → ¬ (gn (ga mem 238) (c).toInt) = 0 → (gn (ga mem 238) (c).toInt) = 30 → (0 : Int) ≤ (n).toInt ∧ (n).toInt < 500) (s34 : ∀ (x1 : Int32), x1.toInt = (1600 * (gi mem 221 13).toInt) → ∀ (x3 : Int32), x3.toInt = (3 * (gi mem 221 13).toInt) → ∀ (x5 : Int32), x5.toInt = ((3 * (gi mem 221 13).toInt) + (w).toInt) → ∀ (y7 : Int32), y7.toInt = (gn (ga mem 237) ((3 * (gi mem 221 13).toInt) + (w).toInt)) → ∀ (x9 : Int32), x9.toInt = ((1600 * (gi mem 221 13).toInt) + (gn (ga mem 237) ((3 * (gi mem 221 13).toInt) + (w).toInt))) → (c).toInt < ((1600 * (gi mem 221 13).toInt) + (gn (ga mem 237) ((3 * (gi mem 221 13).toInt) + (w).toInt))) → ∀ (y12 : Int32), y12.toInt = (gn (ga mem 238) (c).toInt) → (gn (ga mem 238) (c).toInt) ≤ 30 → ¬ (gn (ga mem 238) (c).toInt) = 0 → (gn (ga mem 238) (c).toInt) = 30 → (-2147483648 : Int) ≤ ((n).toInt + 1) ∧ ((n).toInt + 1) ≤ 2147483647) (s35 : ∀ (x1 : Int32), x1.toInt = (1600 * (gi mem 221 13).toInt) → ∀ (x3 : Int32), x3.toInt = (3 * (gi mem 221 13).toInt) → ∀ (x5 : Int32), x5.toInt = ((3 * (gi mem 221 13).toInt) + (w).toInt) → ∀ (y7 : Int32), y7.toInt = (gn (ga mem 237) ((3 * (gi mem 221 13).toInt) + (w).toInt)) → ∀ (x9 : Int32), x9.toInt = ((1600 * (gi mem 221 13).toInt) + (gn (ga mem 237) ((3 * (gi mem 221 13).toInt) + (w).toInt))) → (c).toInt < ((1600 * (gi mem 221 13).toInt) + (gn (ga mem 237) ((3 * (gi mem 221 13).toInt) + (w).toInt))) → ∀ (y12 : Int32), y12.toInt = (gn (ga mem 238) (c).toInt) → (gn (ga mem 238) (c).toInt) ≤ 30 → ¬ (gn (ga mem 238) (c).toInt) = 0 → (gn (ga mem 238) (c).toInt) = 30 → ∀ (x81 : Int32), x81.toInt = ((n).toInt + 1) → (-2147483648 : Int) ≤ ((c).toInt + 1) ∧ ((c).toInt + 1) ≤ 2147483647) (h7 : ∀ (x1 : Int32), x1.toInt = (1600 * (gi mem 221 13).toInt) → ∀ (x3 : Int32), x3.toInt = (3 * (gi mem 221 13).toInt) → ∀ (x5 : Int32), x5.toInt = ((3 * (gi mem 221 13).toInt) + (w).toInt) → ∀ (y7 : Int32), y7.toInt = (gn (ga mem 237) ((3 * (gi mem 221 13).toInt) + (w).toInt)) → ∀ (x9 : Int32), x9.toInt = ((1600 * (gi mem 221 13).toInt) + (gn (ga mem 237) ((3 * (gi mem 221 13).toInt) + (w).toInt))) → (c).toInt < ((1600 * (gi mem 221 13).toInt) + (gn (ga mem 237) ((3 * (gi mem 221 13).toInt) + (w).toInt))) → ∀ (y12 : Int32), y12.toInt = (gn (ga mem 238) (c).toInt) → (gn (ga mem 238) (c).toInt) ≤ 30 → ¬ (gn (ga mem 238) (c).toInt) = 0 → (gn (ga mem 238) (c).toInt) = 30 → ∀ (x81 : Int32), x81.toInt = ((n).toInt + 1) → ∀ (x86 : Int32), x86.toInt = ((c).toInt + 1) → ∀ lo, zlg lo 0 = some (.ref 221) → zlg lo 1 = some (.int w) → zlg lo 2 = some (.int x81) → zlg lo 3 = some (.int x86) → wI (aΘ0 E) m0 (sX mem 256 n 1) → yR zpg tX12_reckons (d + 3) (25, lo, [], (sX mem 256 n 1)) P) (s36 : ∀ (x1 : Int32), x1.toInt = (1600 * (gi mem 221 13).toInt) → ∀ (x3 : Int32), x3.toInt = (3 * (gi mem 221 13).toInt) → ∀ (x5 : Int32), x5.toInt = ((3 * (gi mem 221 13).toInt) + (w).toInt) → ∀ (y7 : Int32), y7.toInt = (gn (ga mem 237) ((3 * (gi mem 221 13).toInt) + (w).toInt)) → ∀ (x9 : Int32), x9.toInt = ((1600 * (gi mem 221 13).toInt) + (gn (ga mem 237) ((3 * (gi mem 221 13).toInt) + (w).toInt))) → (c).toInt < ((1600 * (gi mem 221 13).toInt) + (gn (ga mem 237) ((3 * (gi mem 221 13).toInt) + (w).toInt))) → ∀ (y12 : Int32), y12.toInt = (gn (ga mem 238) (c).toInt) → (gn (ga mem 238) (c).toInt) ≤ 30 → (gn (ga mem 238) (c).toInt) = 0 → (0 : Int) ≤ (c).toInt ∧ (c).toInt < 3200) (s37 : ∀ (x1 : Int32), x1.toInt = (1600 * (gi mem 221 13).toInt) → ∀ (x3 : Int32), x3.toInt = (3 * (gi mem 221 13).toInt) → ∀ (x5 : Int32), x5.toInt = ((3 * (gi mem 221 13).toInt) + (w).toInt) → ∀ (y7 : Int32), y7.toInt = (gn (ga mem 237) ((3 * (gi mem 221 13).toInt) + (w).toInt)) → ∀ (x9 : Int32), x9.toInt = ((1600 * (gi mem 221 13).toInt) + (gn (ga mem 237) ((3 * (gi mem 221 13).toInt) + (w).toInt))) → (c).toInt < ((1600 * (gi mem 221 13).toInt) + (gn (ga mem 237) ((3 * (gi mem 221 13).toInt) + (w).toInt))) → ∀ (y12 : Int32), y12.toInt = (gn (ga mem 238) (c).toInt) → (gn (ga mem 238) (c).toInt) ≤ 30 → (gn (ga mem 238) (c).toInt) = 0 → ∀ (y91 : Int32), y91.toInt = (gn (ga mem 239) (c).toInt) → (0 : Int) ≤ (n).toInt ∧ (n).toInt < 500) (s38 : ∀ (x1 : Int32), x1.toInt = (1600 * (gi mem 221 13).toInt) → ∀ (x3 : Int32), x3.toInt = (3 * (gi mem 221 13).toInt) → ∀ (x5 : Int32), x5.toInt = ((3 * (gi mem 221 13).toInt) + (w).toInt) → ∀ (y7 : Int32), y7.toInt = (gn (ga mem 237) ((3 * (gi mem 221 13).toInt) + (w).toInt)) → ∀ (x9 : Int32), x9.toInt = ((1600 * (gi mem 221 13).toInt) + (gn (ga mem 237) ((3 * (gi mem 221 13).toInt) + (w).toInt))) → (c).toInt < ((1600 * (gi mem 221 13).toInt) + (gn (ga mem 237) ((3 * (gi mem 221 13).toInt) + (w).toInt))) → ∀ (y12 : Int32), y12.toInt = (gn (ga mem 238) (c).toInt) → (gn (ga mem 238) (c).toInt) ≤ 30 → (gn (ga mem 238) (c).toInt) = 0 → ∀ (y91 : Int32), y91.toInt = (gn (ga mem 239) (c).toInt) → (-2147483648 : Int) ≤ ((n).toInt + 1) ∧ ((n).toInt + 1) ≤ 2147483647) (s39 : ∀ (x1 : Int32), x1.toInt = (1600 * (gi mem 221 13).toInt) → ∀ (x3 : Int32), x3.toInt = (3 * (gi mem 221 13).toInt) → ∀ (x5 : Int32), x5.toInt = ((3 * (gi mem 221 13).toInt) + (w).toInt) → ∀ (y7 : Int32), y7.toInt = (gn (ga mem 237) ((3 * (gi mem 221 13).toInt) + (w).toInt)) → ∀ (x9 : Int32), x9.toInt = ((1600 * (gi mem 221 13).toInt) + (gn (ga mem 237) ((3 * (gi mem 221 13).toInt) + (w).toInt))) → (c).toInt < ((1600 * (gi mem 221 13).toInt) + (gn (ga mem 237) ((3 * (gi mem 221 13).toInt) + (w).toInt))) → ∀ (y12 : Int32), y12.toInt = (gn (ga mem 238) (c).toInt) → (gn (ga mem 238) (c).toInt) ≤ 30 → (gn (ga mem 238) (c).toInt) = 0 → ∀ (y91 : Int32), y91.toInt = (gn (ga mem 239) (c).toInt) → ∀ (x93 : Int32), x93.toInt = ((n).toInt + 1) → (-2147483648 : Int) ≤ ((c).toInt + 1) ∧ ((c).toInt + 1) ≤ 2147483647) (h8 : ∀ (x1 : Int32), x1.toInt = (1600 * (gi mem 221 13).toInt) → ∀ (x3 : Int32), x3.toInt = (3 * (gi mem 221 13).toInt) → ∀ (x5 : Int32), x5.toInt = ((3 * (gi mem 221 13).toInt) + (w).toInt) → ∀ (y7 : Int32), y7.toInt = (gn (ga mem 237) ((3 * (gi mem 221 13).toInt) + (w).toInt)) → ∀ (x9 : Int32), x9.toInt = ((1600 * (gi mem 221 13).toInt) + (gn (ga mem 237) ((3 * (gi mem 221 13).toInt) + (w).toInt))) → (c).toInt < ((1600 * (gi mem 221 13).toInt) + (gn (ga mem 237) ((3 * (gi mem 221 13).toInt) + (w).toInt))) → ∀ (y12 : Int32), y12.toInt = (gn (ga mem 238) (c).toInt) → (gn (ga mem 238) (c).toInt) ≤ 30 → (gn (ga mem 238) (c).toInt) = 0 → ∀ (y91 : Int32), y91.toInt = (gn (ga mem 239) (c).toInt) → ∀ (x93 : Int32), x93.toInt = ((n).toInt + 1) → ∀ (x98 : Int32), x98.toInt = ((c).toInt + 1) → ∀ lo, zlg lo 0 = some (.ref 221) → zlg lo 1 = some (.int w) → zlg lo 2 = some (.int x93) → zlg lo 3 = some (.int x98) → wI (aΘ0 E) m0 (sX mem 256 n (y91 : Int32).toInt64) → yR zpg tX12_reckons (d + 3) (25, lo, [], (sX mem 256 n (y91 : Int32).toInt64)) P) : yR zpg tX12_reckons (d + 3) (25, lo, [], mem) P := by
  refine wR_li rfl l_3 ?_
  refine yR_m 1 (fun _ _ _ _ => rfl) ?_
  refine wR_la rfl l_0 ?_
  refine wR_gi rfl mO_e mO_13 hm.1.1 rfl ?_
  refine wN_mul (a := 1600) (b := (gi mem 221 13).toInt) rfl rfl rfl s1 (fun x1 e2 => ?_)
  refine wR_la rfl l_0 ?_
  refine wR_gr rfl mO_e mO_28 hm.1.1 ?_
  refine yR_m 1 (fun _ _ _ _ => rfl) ?_
  refine wR_la rfl l_0 ?_
  refine wR_gi rfl mO_e mO_13 hm.1.1 rfl ?_
  refine wN_mul (a := 3) (b := (gi mem 221 13).toInt) rfl rfl rfl (s2 x1 e2) (fun x3 e4 => ?_)
  refine wR_li rfl l_1 ?_
  refine wN_add (a := (3 * (gi mem 221 13).toInt)) (b := (w).toInt) rfl e4 rfl (s3 x1 e2 x3 e4) (fun x5 e6 => ?_)
  refine wN_al (a := ((3 * (gi mem 221 13).toInt) + (w).toInt)) rfl aR_237 hm.1.1 rfl e6 (s4 x1 e2 x3 e4 x5 e6) (fun y7 e8 => ?_)
  refine wN_add (a := (1600 * (gi mem 221 13).toInt)) (b := (gn (ga mem 237) ((3 * (gi mem 221 13).toInt) + (w).toInt))) rfl e2 e8 (s5 x1 e2 x3 e4 x5 e6 y7 e8) (fun x9 e10 => ?_)
  refine wR_ic_ge rfl (a := (c).toInt) (c := ((1600 * (gi mem 221 13).toInt) + (gn (ga mem 237) ((3 * (gi mem 221 13).toInt) + (w).toInt)))) rfl e10 (fun q11 => ?_) (fun q11 => ?_)
  ·
    refine wR_la rfl l_0 ?_
    refine wR_gr rfl mO_e mO_58 hm.1.1 ?_
    refine yR_m 1 (fun _ _ _ _ => rfl) ?_
    refine wN_ll (a := 0) rfl aR_256 hm.1.1 rfl rfl (by decide) ?_
    exact yR_rl rfl (h1 x1 e2 x3 e4 x5 e6 y7 e8 x9 e10 q11 hm)
  ·
    refine wR_la rfl l_0 ?_
    refine wR_gr rfl mO_e mO_29 hm.1.1 ?_
    refine wR_li rfl l_3 ?_
    refine wN_al (a := (c).toInt) rfl aR_238 hm.1.1 rfl rfl (s6 x1 e2 x3 e4 x5 e6 y7 e8 x9 e10 q11) (fun y12 e13 => ?_)
    refine wR_si rfl rfl (fun lo14 e15 f16 => ?_)
    have lo14_0 := f16 0 _ (by decide) (Or.inl rfl) l_0
    have lo14_1 := f16 1 _ (by decide) (Or.inl rfl) l_1
    have lo14_2 := f16 2 _ (by decide) (Or.inl rfl) l_2
    have lo14_3 := f16 3 _ (by decide) (Or.inl rfl) l_3
    refine wR_li rfl e15 ?_
    refine yR_m 1 (fun _ _ _ _ => rfl) ?_
    refine wR_ic_gt rfl (a := (gn (ga mem 238) (c).toInt)) (c := 30) e13 rfl (fun q17 => ?_) (fun q17 => ?_)
    ·
      refine wR_li rfl e15 ?_
      refine yR_m 1 (fun _ _ _ _ => rfl) ?_
      refine wR_ic_ne rfl (a := (gn (ga mem 238) (c).toInt)) (c := 43) e13 rfl (fun q18 => ?_) (fun q18 => ?_)
      ·
        refine wR_li rfl e15 ?_
        refine yR_m 1 (fun _ _ _ _ => rfl) ?_
        refine wR_ic_ne rfl (a := (gn (ga mem 238) (c).toInt)) (c := 44) e13 rfl (fun q19 => ?_) (fun q19 => ?_)
        ·
          refine wN_in (a := (n).toInt) (b := (-1)) rfl rfl lo14_2 rfl tm1 (s7 x1 e2 x3 e4 x5 e6 y7 e8 x9 e10 q11 y12 e13 q17 q18 q19) (fun x20 e21 => fun lo22 e23 f24 => ?_)
          have lo22_4 := f24 4 _ (by decide) (Or.inl rfl) e15
          have lo22_0 := f24 0 _ (by decide) (Or.inl rfl) lo14_0
          have lo22_1 := f24 1 _ (by decide) (Or.inl rfl) lo14_1
          have lo22_3 := f24 3 _ (by decide) (Or.inl rfl) lo14_3
          refine wR_la rfl lo22_0 ?_
          refine wR_gr rfl mO_e mO_58 hm.1.1 ?_
          refine wR_li rfl e23 ?_
          refine yR_m 1 (fun _ _ _ _ => rfl) ?_
          refine wN_sub (a := ((n).toInt + (-1))) (b := 1) rfl e21 rfl (s8 x1 e2 x3 e4 x5 e6 y7 e8 x9 e10 q11 y12 e13 q17 q18 q19 x20 e21) (fun x25 e26 => ?_)
          refine wR_li rfl lo22_4 ?_
          refine wR_la rfl lo22_0 ?_
          refine wR_gr rfl mO_e mO_58 hm.1.1 ?_
          refine wR_li rfl e23 ?_
          refine yR_m 1 (fun _ _ _ _ => rfl) ?_
          refine wN_sub (a := ((n).toInt + (-1))) (b := 1) rfl e21 rfl (s9 x1 e2 x3 e4 x5 e6 y7 e8 x9 e10 q11 y12 e13 q17 q18 q19 x20 e21 x25 e26) (fun x27 e28 => ?_)
          refine wN_ll (a := (((n).toInt + (-1)) - 1)) rfl aR_256 hm.1.1 rfl e28 (s10 x1 e2 x3 e4 x5 e6 y7 e8 x9 e10 q11 y12 e13 q17 q18 q19 x20 e21 x25 e26 x27 e28) ?_
          refine wR_la rfl lo22_0 ?_
          refine wR_gr rfl mO_e mO_58 hm.1.1 ?_
          refine wR_li rfl e23 ?_
          refine wN_ll (a := ((n).toInt + (-1))) rfl aR_256 hm.1.1 rfl e21 (s11 x1 e2 x3 e4 x5 e6 y7 e8 x9 e10 q11 y12 e13 q17 q18 q19 x20 e21 x25 e26 x27 e28) ?_
          refine yR_cs rfl rfl rfl (c_two hm.1.1 (by omega)) ?_
          rintro _ _ ⟨v29, rfl, rfl, k30⟩
          show yR zpg tX12_reckons (d + 3) (220, lo22, [.long v29, .int x25, .ref 256], mem) _
          refine wN_las (a := (((n).toInt + (-1)) - 1)) rfl aR_256 hm.1.1 e26 (s12 x1 e2 x3 e4 x5 e6 y7 e8 x9 e10 q11 y12 e13 q17 q18 q19 x20 e21 x25 e26 x27 e28 v29 k30) ?_
          have hm_1 : wI (aΘ0 E) m0 (sX mem 256 x25 v29) := wI_sA hE aR_256 hm
          refine wN_in (a := (c).toInt) (b := 1) rfl rfl lo22_3 rfl rfl (s13 x1 e2 x3 e4 x5 e6 y7 e8 x9 e10 q11 y12 e13 q17 q18 q19 x20 e21 x25 e26 x27 e28 v29 k30) (fun x31 e32 => fun lo33 e34 f35 => ?_)
          have lo33_2 := f35 2 _ (by decide) (Or.inl rfl) e23
          have lo33_4 := f35 4 _ (by decide) (Or.inl rfl) lo22_4
          have lo33_0 := f35 0 _ (by decide) (Or.inl rfl) lo22_0
          have lo33_1 := f35 1 _ (by decide) (Or.inl rfl) lo22_1
          exact yR_m 1 (fun _ _ _ _ => rfl) (h2 x1 e2 x3 e4 x5 e6 y7 e8 x9 e10 q11 y12 e13 q17 q18 q19 x20 e21 x25 e26 x27 e28 v29 k30 x31 e32 lo33 lo33_0 lo33_1 lo33_2 e34 hm_1)
        ·
          refine wN_in (a := (n).toInt) (b := (-2)) rfl rfl lo14_2 rfl tm2 (s14 x1 e2 x3 e4 x5 e6 y7 e8 x9 e10 q11 y12 e13 q17 q18 q19) (fun x36 e37 => fun lo38 e39 f40 => ?_)
          have lo38_4 := f40 4 _ (by decide) (Or.inl rfl) e15
          have lo38_0 := f40 0 _ (by decide) (Or.inl rfl) lo14_0
          have lo38_1 := f40 1 _ (by decide) (Or.inl rfl) lo14_1
          have lo38_3 := f40 3 _ (by decide) (Or.inl rfl) lo14_3
          refine wR_la rfl lo38_0 ?_
          refine wR_gr rfl mO_e mO_58 hm.1.1 ?_
          refine wR_li rfl e39 ?_
          refine yR_m 1 (fun _ _ _ _ => rfl) ?_
          refine wN_sub (a := ((n).toInt + (-2))) (b := 1) rfl e37 rfl (s15 x1 e2 x3 e4 x5 e6 y7 e8 x9 e10 q11 y12 e13 q17 q18 q19 x36 e37) (fun x41 e42 => ?_)
          refine wR_la rfl lo38_0 ?_
          refine wR_gr rfl mO_e mO_58 hm.1.1 ?_
          refine wR_li rfl e39 ?_
          refine yR_m 1 (fun _ _ _ _ => rfl) ?_
          refine wN_sub (a := ((n).toInt + (-2))) (b := 1) rfl e37 rfl (s16 x1 e2 x3 e4 x5 e6 y7 e8 x9 e10 q11 y12 e13 q17 q18 q19 x36 e37 x41 e42) (fun x43 e44 => ?_)
          refine wN_ll (a := (((n).toInt + (-2)) - 1)) rfl aR_256 hm.1.1 rfl e44 (s17 x1 e2 x3 e4 x5 e6 y7 e8 x9 e10 q11 y12 e13 q17 q18 q19 x36 e37 x41 e42 x43 e44) ?_
          refine yR_m 2 (fun _ _ _ _ => rfl) ?_
          refine wR_lf_ne rfl (fun q45 => ?_) (fun q45 => ?_)
          ·
            refine wR_la rfl lo38_0 ?_
            refine wR_gr rfl mO_e mO_58 hm.1.1 ?_
            refine wR_li rfl e39 ?_
            refine yR_m 1 (fun _ _ _ _ => rfl) ?_
            refine wN_add (a := ((n).toInt + (-2))) (b := 1) rfl e37 rfl (s18 x1 e2 x3 e4 x5 e6 y7 e8 x9 e10 q11 y12 e13 q17 q18 q19 x36 e37 x41 e42 x43 e44 q45) (fun x46 e47 => ?_)
            refine wN_ll (a := (((n).toInt + (-2)) + 1)) rfl aR_256 hm.1.1 rfl e47 (s19 x1 e2 x3 e4 x5 e6 y7 e8 x9 e10 q11 y12 e13 q17 q18 q19 x36 e37 x41 e42 x43 e44 q45 x46 e47) ?_
            refine wN_las (a := (((n).toInt + (-2)) - 1)) rfl aR_256 hm.1.1 e42 (s20 x1 e2 x3 e4 x5 e6 y7 e8 x9 e10 q11 y12 e13 q17 q18 q19 x36 e37 x41 e42 x43 e44 q45 x46 e47) ?_
            have hm_2 : wI (aΘ0 E) m0 (sX mem 256 x41 ((gA mem 256).getD ((((n).toInt + (-2)) + 1) : Int).toNat 0)) := wI_sA hE aR_256 hm
            refine yR_m 1 (fun _ _ _ _ => rfl) ?_
            refine wN_in (a := (c).toInt) (b := 1) rfl rfl lo38_3 rfl rfl (s21 x1 e2 x3 e4 x5 e6 y7 e8 x9 e10 q11 y12 e13 q17 q18 q19 x36 e37 x41 e42 x43 e44 q45 x46 e47) (fun x48 e49 => fun lo50 e51 f52 => ?_)
            have lo50_2 := f52 2 _ (by decide) (Or.inl rfl) e39
            have lo50_4 := f52 4 _ (by decide) (Or.inl rfl) lo38_4
            have lo50_0 := f52 0 _ (by decide) (Or.inl rfl) lo38_0
            have lo50_1 := f52 1 _ (by decide) (Or.inl rfl) lo38_1
            exact yR_m 1 (fun _ _ _ _ => rfl) (h3 x1 e2 x3 e4 x5 e6 y7 e8 x9 e10 q11 y12 e13 q17 q18 q19 x36 e37 x41 e42 x43 e44 q45 x46 e47 x48 e49 lo50 lo50_0 lo50_1 lo50_2 e51 hm_2)
          ·
            refine wR_la rfl lo38_0 ?_
            refine wR_gr rfl mO_e mO_58 hm.1.1 ?_
            refine wR_li rfl e39 ?_
            refine wN_ll (a := ((n).toInt + (-2))) rfl aR_256 hm.1.1 rfl e37 (s22 x1 e2 x3 e4 x5 e6 y7 e8 x9 e10 q11 y12 e13 q17 q18 q19 x36 e37 x41 e42 x43 e44 q45) ?_
            refine yR_m 1 (fun _ _ _ _ => rfl) ?_
            refine wN_las (a := (((n).toInt + (-2)) - 1)) rfl aR_256 hm.1.1 e42 (s23 x1 e2 x3 e4 x5 e6 y7 e8 x9 e10 q11 y12 e13 q17 q18 q19 x36 e37 x41 e42 x43 e44 q45) ?_
            have hm_3 : wI (aΘ0 E) m0 (sX mem 256 x41 ((gA mem 256).getD (((n).toInt + (-2)) : Int).toNat 0)) := wI_sA hE aR_256 hm
            refine yR_m 1 (fun _ _ _ _ => rfl) ?_
            refine wN_in (a := (c).toInt) (b := 1) rfl rfl lo38_3 rfl rfl (s24 x1 e2 x3 e4 x5 e6 y7 e8 x9 e10 q11 y12 e13 q17 q18 q19 x36 e37 x41 e42 x43 e44 q45) (fun x53 e54 => fun lo55 e56 f57 => ?_)
            have lo55_2 := f57 2 _ (by decide) (Or.inl rfl) e39
            have lo55_4 := f57 4 _ (by decide) (Or.inl rfl) lo38_4
            have lo55_0 := f57 0 _ (by decide) (Or.inl rfl) lo38_0
            have lo55_1 := f57 1 _ (by decide) (Or.inl rfl) lo38_1
            exact yR_m 1 (fun _ _ _ _ => rfl) (h4 x1 e2 x3 e4 x5 e6 y7 e8 x9 e10 q11 y12 e13 q17 q18 q19 x36 e37 x41 e42 x43 e44 q45 x53 e54 lo55 lo55_0 lo55_1 lo55_2 e56 hm_3)
      ·
        refine wR_la rfl lo14_0 ?_
        refine wR_gr rfl mO_e mO_58 hm.1.1 ?_
        refine wR_li rfl lo14_2 ?_
        refine yR_m 1 (fun _ _ _ _ => rfl) ?_
        refine wN_sub (a := (n).toInt) (b := 1) rfl rfl rfl (s25 x1 e2 x3 e4 x5 e6 y7 e8 x9 e10 q11 y12 e13 q17 q18) (fun x58 e59 => ?_)
        refine yR_m 1 (fun _ _ _ _ => rfl) ?_
        refine wR_la rfl lo14_0 ?_
        refine wR_gr rfl mO_e mO_58 hm.1.1 ?_
        refine wR_li rfl lo14_2 ?_
        refine yR_m 1 (fun _ _ _ _ => rfl) ?_
        refine wN_sub (a := (n).toInt) (b := 1) rfl rfl rfl (s26 x1 e2 x3 e4 x5 e6 y7 e8 x9 e10 q11 y12 e13 q17 q18 x58 e59) (fun x60 e61 => ?_)
        refine wN_ll (a := ((n).toInt - 1)) rfl aR_256 hm.1.1 rfl e61 (s27 x1 e2 x3 e4 x5 e6 y7 e8 x9 e10 q11 y12 e13 q17 q18 x58 e59 x60 e61) ?_
        refine yR_m 1 (fun _ _ _ _ => rfl) ?_
        refine wN_las (a := ((n).toInt - 1)) rfl aR_256 hm.1.1 e59 (s27 x1 e2 x3 e4 x5 e6 y7 e8 x9 e10 q11 y12 e13 q17 q18 x58 e59 x60 e61) ?_
        have hm_4 : wI (aΘ0 E) m0 (sX mem 256 x58 (1 - ((gA mem 256).getD (((n).toInt - 1) : Int).toNat 0))) := wI_sA hE aR_256 hm
        refine yR_m 1 (fun _ _ _ _ => rfl) ?_
        refine wN_in (a := (c).toInt) (b := 1) rfl rfl lo14_3 rfl rfl (s28 x1 e2 x3 e4 x5 e6 y7 e8 x9 e10 q11 y12 e13 q17 q18 x58 e59 x60 e61) (fun x62 e63 => fun lo64 e65 f66 => ?_)
        have lo64_4 := f66 4 _ (by decide) (Or.inl rfl) e15
        have lo64_0 := f66 0 _ (by decide) (Or.inl rfl) lo14_0
        have lo64_1 := f66 1 _ (by decide) (Or.inl rfl) lo14_1
        have lo64_2 := f66 2 _ (by decide) (Or.inl rfl) lo14_2
        exact yR_m 1 (fun _ _ _ _ => rfl) (h5 x1 e2 x3 e4 x5 e6 y7 e8 x9 e10 q11 y12 e13 q17 q18 x58 e59 x60 e61 x62 e63 lo64 lo64_0 lo64_1 lo64_2 e65 hm_4)
    ·
      refine wR_la rfl lo14_0 ?_
      refine wR_gr rfl mO_e mO_58 hm.1.1 ?_
      refine wR_li rfl lo14_2 ?_
      refine wR_li rfl e15 ?_
      refine wR_if_ne rfl (a := (gn (ga mem 238) (c).toInt)) e13 (fun q67 => ?_) (fun q67 => ?_)
      ·
        refine wR_li rfl e15 ?_
        refine yR_m 1 (fun _ _ _ _ => rfl) ?_
        refine wR_ic_ne rfl (a := (gn (ga mem 238) (c).toInt)) (c := 30) e13 rfl (fun q68 => ?_) (fun q68 => ?_)
        ·
          refine wR_la rfl lo14_0 ?_
          refine wR_gr rfl mO_e mO_59 hm.1.1 ?_
          refine wR_li rfl e15 ?_
          refine wN_al (a := (gn (ga mem 238) (c).toInt)) rfl aR_257 hm.1.1 rfl e13 (s29 x1 e2 x3 e4 x5 e6 y7 e8 x9 e10 q11 y12 e13 q17 q67 q68) (fun y69 e70 => ?_)
          refine yR_m 1 (fun _ _ _ _ => rfl) ?_
          refine wN_las (a := (n).toInt) rfl aR_256 hm.1.1 rfl (s30 x1 e2 x3 e4 x5 e6 y7 e8 x9 e10 q11 y12 e13 q17 q67 q68 y69 e70) ?_
          have hm_5 : wI (aΘ0 E) m0 (sX mem 256 n (y69 : Int32).toInt64) := wI_sA hE aR_256 hm
          refine wN_in (a := (n).toInt) (b := 1) rfl rfl lo14_2 rfl rfl (s31 x1 e2 x3 e4 x5 e6 y7 e8 x9 e10 q11 y12 e13 q17 q67 q68 y69 e70) (fun x71 e72 => fun lo73 e74 f75 => ?_)
          have lo73_4 := f75 4 _ (by decide) (Or.inl rfl) e15
          have lo73_0 := f75 0 _ (by decide) (Or.inl rfl) lo14_0
          have lo73_1 := f75 1 _ (by decide) (Or.inl rfl) lo14_1
          have lo73_3 := f75 3 _ (by decide) (Or.inl rfl) lo14_3
          refine yR_m 1 (fun _ _ _ _ => rfl) ?_
          refine wN_in (a := (c).toInt) (b := 1) rfl rfl lo73_3 rfl rfl (s32 x1 e2 x3 e4 x5 e6 y7 e8 x9 e10 q11 y12 e13 q17 q67 q68 y69 e70 x71 e72) (fun x76 e77 => fun lo78 e79 f80 => ?_)
          have lo78_2 := f80 2 _ (by decide) (Or.inl rfl) e74
          have lo78_4 := f80 4 _ (by decide) (Or.inl rfl) lo73_4
          have lo78_0 := f80 0 _ (by decide) (Or.inl rfl) lo73_0
          have lo78_1 := f80 1 _ (by decide) (Or.inl rfl) lo73_1
          exact yR_m 1 (fun _ _ _ _ => rfl) (h6 x1 e2 x3 e4 x5 e6 y7 e8 x9 e10 q11 y12 e13 q17 q67 q68 y69 e70 x71 e72 x76 e77 lo78 lo78_0 lo78_1 lo78_2 e79 hm_5)
        ·
          refine yR_m 2 (fun _ _ _ _ => rfl) ?_
          refine wN_las (a := (n).toInt) rfl aR_256 hm.1.1 rfl (s33 x1 e2 x3 e4 x5 e6 y7 e8 x9 e10 q11 y12 e13 q17 q67 q68) ?_
          have hm_6 : wI (aΘ0 E) m0 (sX mem 256 n 1) := wI_sA hE aR_256 hm
          refine wN_in (a := (n).toInt) (b := 1) rfl rfl lo14_2 rfl rfl (s34 x1 e2 x3 e4 x5 e6 y7 e8 x9 e10 q11 y12 e13 q17 q67 q68) (fun x81 e82 => fun lo83 e84 f85 => ?_)
          have lo83_4 := f85 4 _ (by decide) (Or.inl rfl) e15
          have lo83_0 := f85 0 _ (by decide) (Or.inl rfl) lo14_0
          have lo83_1 := f85 1 _ (by decide) (Or.inl rfl) lo14_1
          have lo83_3 := f85 3 _ (by decide) (Or.inl rfl) lo14_3
          refine yR_m 1 (fun _ _ _ _ => rfl) ?_
          refine wN_in (a := (c).toInt) (b := 1) rfl rfl lo83_3 rfl rfl (s35 x1 e2 x3 e4 x5 e6 y7 e8 x9 e10 q11 y12 e13 q17 q67 q68 x81 e82) (fun x86 e87 => fun lo88 e89 f90 => ?_)
          have lo88_2 := f90 2 _ (by decide) (Or.inl rfl) e84
          have lo88_4 := f90 4 _ (by decide) (Or.inl rfl) lo83_4
          have lo88_0 := f90 0 _ (by decide) (Or.inl rfl) lo83_0
          have lo88_1 := f90 1 _ (by decide) (Or.inl rfl) lo83_1
          exact yR_m 1 (fun _ _ _ _ => rfl) (h7 x1 e2 x3 e4 x5 e6 y7 e8 x9 e10 q11 y12 e13 q17 q67 q68 x81 e82 x86 e87 lo88 lo88_0 lo88_1 lo88_2 e89 hm_6)
      ·
        refine wR_la rfl lo14_0 ?_
        refine wR_gr rfl mO_e mO_30 hm.1.1 ?_
        refine wR_li rfl lo14_3 ?_
        refine wN_al (a := (c).toInt) rfl aR_239 hm.1.1 rfl rfl (s36 x1 e2 x3 e4 x5 e6 y7 e8 x9 e10 q11 y12 e13 q17 q67) (fun y91 e92 => ?_)
        refine yR_m 2 (fun _ _ _ _ => rfl) ?_
        refine wN_las (a := (n).toInt) rfl aR_256 hm.1.1 rfl (s37 x1 e2 x3 e4 x5 e6 y7 e8 x9 e10 q11 y12 e13 q17 q67 y91 e92) ?_
        have hm_7 : wI (aΘ0 E) m0 (sX mem 256 n (y91 : Int32).toInt64) := wI_sA hE aR_256 hm
        refine wN_in (a := (n).toInt) (b := 1) rfl rfl lo14_2 rfl rfl (s38 x1 e2 x3 e4 x5 e6 y7 e8 x9 e10 q11 y12 e13 q17 q67 y91 e92) (fun x93 e94 => fun lo95 e96 f97 => ?_)
        have lo95_4 := f97 4 _ (by decide) (Or.inl rfl) e15
        have lo95_0 := f97 0 _ (by decide) (Or.inl rfl) lo14_0
        have lo95_1 := f97 1 _ (by decide) (Or.inl rfl) lo14_1
        have lo95_3 := f97 3 _ (by decide) (Or.inl rfl) lo14_3
        refine yR_m 1 (fun _ _ _ _ => rfl) ?_
        refine wN_in (a := (c).toInt) (b := 1) rfl rfl lo95_3 rfl rfl (s39 x1 e2 x3 e4 x5 e6 y7 e8 x9 e10 q11 y12 e13 q17 q67 y91 e92 x93 e94) (fun x98 e99 => fun lo100 e101 f102 => ?_)
        have lo100_2 := f102 2 _ (by decide) (Or.inl rfl) e96
        have lo100_4 := f102 4 _ (by decide) (Or.inl rfl) lo95_4
        have lo100_0 := f102 0 _ (by decide) (Or.inl rfl) lo95_0
        have lo100_1 := f102 1 _ (by decide) (Or.inl rfl) lo95_1
        exact yR_m 1 (fun _ _ _ _ => rfl) (h8 x1 e2 x3 e4 x5 e6 y7 e8 x9 e10 q11 y12 e13 q17 q67 y91 e92 x93 e94 x98 e99 lo100 lo100_0 lo100_1 lo100_2 e101 hm_7)

