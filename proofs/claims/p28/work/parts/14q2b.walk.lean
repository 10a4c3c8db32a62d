set_option maxRecDepth 100000 in
theorem w_floor {d : Nat} {mem : zM} {P : Option Value → zM → Prop} {a b : Int64} (hm : aTm aT0 mem) (h1 : aTm aT0 mem → P (some (.long (a / b))) mem) (h2 : aTm aT0 mem → P (some (.long ((a / b) - 1))) mem) (h3 : aTm aT0 mem → P (some (.long 0)) mem) : yR zpg tX12_floor d (0, [(0, .long a), (2, .long b)], [], mem) P := by
  refine yR_m 3 (fun _ _ _ _ => rfl) ?_
  refine wR_lf_ne rfl (fun q1 => ?_) (fun q1 => ?_)
  ·
    refine yR_m 2 (fun _ _ _ _ => rfl) ?_
    refine wR_ldz rfl q1 ?_
    refine yR_m 3 (fun _ _ _ _ => rfl) ?_
    refine wR_ldz rfl q1 ?_
    refine yR_m 2 (fun _ _ _ _ => rfl) ?_
    refine wR_lf_eq rfl (fun q2 => ?_) (fun q2 => ?_)
    ·
      refine yR_m 1 (fun _ _ _ _ => rfl) ?_
      exact yR_rl rfl (h1 hm)
    ·
      refine yR_m 3 (fun _ _ _ _ => rfl) ?_
      refine wR_lf_ge rfl (fun q3 => ?_) (fun q3 => ?_)
      ·
        refine yR_m 4 (fun _ _ _ _ => rfl) ?_
        refine wR_lf_ge rfl (fun q4 => ?_) (fun q4 => ?_)
        ·
          refine yR_m 1 (fun _ _ _ _ => rfl) ?_
          refine wR_ic_eq rfl (a := 0) (c := 0) rfl rfl (fun _ => ?_) (fun q => by exfalso; omega)
          refine yR_m 1 (fun _ _ _ _ => rfl) ?_
          exact yR_rl rfl (h1 hm)
        ·
          refine yR_m 2 (fun _ _ _ _ => rfl) ?_
          refine wR_ic_eq rfl (a := 0) (c := 1) rfl rfl (fun q => by exfalso; omega) (fun _ => ?_)
          refine yR_m 4 (fun _ _ _ _ => rfl) ?_
          exact yR_rl rfl (h2 hm)
      ·
        refine yR_m 5 (fun _ _ _ _ => rfl) ?_
        refine wR_lf_ge rfl (fun q5 => ?_) (fun q5 => ?_)
        ·
          refine yR_m 1 (fun _ _ _ _ => rfl) ?_
          refine wR_ic_eq rfl (a := 1) (c := 0) rfl rfl (fun q => by exfalso; omega) (fun _ => ?_)
          refine yR_m 4 (fun _ _ _ _ => rfl) ?_
          exact yR_rl rfl (h2 hm)
        ·
          refine yR_m 2 (fun _ _ _ _ => rfl) ?_
          refine wR_ic_eq rfl (a := 1) (c := 1) rfl rfl (fun _ => ?_) (fun q => by exfalso; omega)
          refine yR_m 1 (fun _ _ _ _ => rfl) ?_
          exact yR_rl rfl (h1 hm)
  ·
    refine yR_m 1 (fun _ _ _ _ => rfl) ?_
    exact yR_rl rfl (h3 hm)

set_option maxRecDepth 100000 in
theorem w_two {d : Nat} {mem : zM} {P : Option Value → zM → Prop} {s : Int32} {a b : Int64} (hm : aTm aT0 mem) (h1 : aTm aT0 mem → P (some (.long (a + b))) mem) (h2 : aTm aT0 mem → P (some (.long (-1000000))) mem) (h3 : aTm aT0 mem → P (some (.long 1000000)) mem) (h4 : aTm aT0 mem → P (some (.long (a - b))) mem) (h5 : aTm aT0 mem → P (some (.long (a * b))) mem) (h6 : aTm aT0 mem → P (some (.long (a / b))) mem) (h7 : aTm aT0 mem → P (some (.long ((a / b) - 1))) mem) (h8 : aTm aT0 mem → P (some (.long 0)) mem) (h9 : aTm aT0 mem → P (some (.long (a - (b * (a / b))))) mem) (h10 : aTm aT0 mem → P (some (.long (a - (b * ((a / b) - 1))))) mem) (h11 : aTm aT0 mem → P (some (.long b)) mem) (h12 : aTm aT0 mem → P (some (.long a)) mem) (h13 : aTm aT0 mem → P (some (.long 1)) mem) (h14 : aTm aT0 mem → P (some (.long (a &&& b))) mem) (h15 : aTm aT0 mem → P (some (.long (a ||| b))) mem) : yR zpg tX12_two (d + 2) (0, [(0, .int s), (1, .long a), (3, .long b)], [], mem) P := by
  refine yR_m 1 (fun _ _ _ _ => rfl) ?_
  refine wR_ts rfl rfl ⟨fun q1 => ?_, fun q1 => ⟨fun q2 => ?_, fun q2 => ⟨fun q3 => ?_, fun q3 => ⟨fun q4 => ?_, fun q4 => ⟨fun q5 => ?_, fun q5 => ⟨fun q6 => ?_, fun q6 => ⟨fun q7 => ?_, fun q7 => ⟨fun q8 => ?_, fun q8 => ⟨fun q9 => ?_, fun q9 => ⟨fun q10 => ?_, fun q10 => ⟨fun q11 => ?_, fun q11 => ?_⟩⟩⟩⟩⟩⟩⟩⟩⟩⟩⟩
  ·
    have q1 : (s).toInt = 31 := q1
    refine yR_m 3 (fun _ _ _ _ => rfl) ?_
    refine wR_is rfl rfl rfl rfl rfl rfl ?_
    show yR zpg tX12_within (d + 1) (0, [(0, .long (a + b))], [], mem) _
    refine yR_m 3 (fun _ _ _ _ => rfl) ?_
    refine wR_lf_le rfl (fun q12 => ?_) (fun q12 => ?_)
    ·
      refine yR_m 3 (fun _ _ _ _ => rfl) ?_
      refine wR_lf_ge rfl (fun q13 => ?_) (fun q13 => ?_)
      ·
        refine yR_m 1 (fun _ _ _ _ => rfl) ?_
        refine yR_rl rfl ?_
        show yR zpg tX12_two (d + 2) (66, [(0, .int s), (1, .long a), (3, .long b)], [.long (a + b)], mem) _
        exact yR_rl rfl (h1 hm)
      ·
        refine yR_m 2 (fun _ _ _ _ => rfl) ?_
        refine yR_rl rfl ?_
        show yR zpg tX12_two (d + 2) (66, [(0, .int s), (1, .long a), (3, .long b)], [.long (-1000000)], mem) _
        exact yR_rl rfl (h2 hm)
    ·
      refine yR_m 2 (fun _ _ _ _ => rfl) ?_
      refine yR_rl rfl ?_
      show yR zpg tX12_two (d + 2) (66, [(0, .int s), (1, .long a), (3, .long b)], [.long 1000000], mem) _
      exact yR_rl rfl (h3 hm)
  ·
    have q1 : ¬ (s).toInt = 31 := q1
    have q2 : (s).toInt = 32 := q2
    refine yR_m 3 (fun _ _ _ _ => rfl) ?_
    refine wR_is rfl rfl rfl rfl rfl rfl ?_
    show yR zpg tX12_within (d + 1) (0, [(0, .long (a - b))], [], mem) _
    refine yR_m 3 (fun _ _ _ _ => rfl) ?_
    refine wR_lf_le rfl (fun q14 => ?_) (fun q14 => ?_)
    ·
      refine yR_m 3 (fun _ _ _ _ => rfl) ?_
      refine wR_lf_ge rfl (fun q15 => ?_) (fun q15 => ?_)
      ·
        refine yR_m 1 (fun _ _ _ _ => rfl) ?_
        refine yR_rl rfl ?_
        show yR zpg tX12_two (d + 2) (73, [(0, .int s), (1, .long a), (3, .long b)], [.long (a - b)], mem) _
        exact yR_rl rfl (h4 hm)
      ·
        refine yR_m 2 (fun _ _ _ _ => rfl) ?_
        refine yR_rl rfl ?_
        show yR zpg tX12_two (d + 2) (73, [(0, .int s), (1, .long a), (3, .long b)], [.long (-1000000)], mem) _
        exact yR_rl rfl (h2 hm)
    ·
      refine yR_m 2 (fun _ _ _ _ => rfl) ?_
      refine yR_rl rfl ?_
      show yR zpg tX12_two (d + 2) (73, [(0, .int s), (1, .long a), (3, .long b)], [.long 1000000], mem) _
      exact yR_rl rfl (h3 hm)
  ·
    have q1 : ¬ (s).toInt = 31 := q1
    have q2 : ¬ (s).toInt = 32 := q2
    have q3 : (s).toInt = 33 := q3
    refine yR_m 3 (fun _ _ _ _ => rfl) ?_
    refine wR_is rfl rfl rfl rfl rfl rfl ?_
    show yR zpg tX12_within (d + 1) (0, [(0, .long (a * b))], [], mem) _
    refine yR_m 3 (fun _ _ _ _ => rfl) ?_
    refine wR_lf_le rfl (fun q16 => ?_) (fun q16 => ?_)
    ·
      refine yR_m 3 (fun _ _ _ _ => rfl) ?_
      refine wR_lf_ge rfl (fun q17 => ?_) (fun q17 => ?_)
      ·
        refine yR_m 1 (fun _ _ _ _ => rfl) ?_
        refine yR_rl rfl ?_
        show yR zpg tX12_two (d + 2) (80, [(0, .int s), (1, .long a), (3, .long b)], [.long (a * b)], mem) _
        exact yR_rl rfl (h5 hm)
      ·
        refine yR_m 2 (fun _ _ _ _ => rfl) ?_
        refine yR_rl rfl ?_
        show yR zpg tX12_two (d + 2) (80, [(0, .int s), (1, .long a), (3, .long b)], [.long (-1000000)], mem) _
        exact yR_rl rfl (h2 hm)
    ·
      refine yR_m 2 (fun _ _ _ _ => rfl) ?_
      refine yR_rl rfl ?_
      show yR zpg tX12_two (d + 2) (80, [(0, .int s), (1, .long a), (3, .long b)], [.long 1000000], mem) _
      exact yR_rl rfl (h3 hm)
  ·
    have q1 : ¬ (s).toInt = 31 := q1
    have q2 : ¬ (s).toInt = 32 := q2
    have q3 : ¬ (s).toInt = 33 := q3
    have q4 : (s).toInt = 34 := q4
    refine yR_m 2 (fun _ _ _ _ => rfl) ?_
    refine wR_is rfl rfl rfl rfl rfl rfl ?_
    show yR zpg tX12_floor (d + 1) (0, [(0, .long a), (2, .long b)], [], mem) _
    refine yR_m 3 (fun _ _ _ _ => rfl) ?_
    refine wR_lf_ne rfl (fun q18 => ?_) (fun q18 => ?_)
    ·
      refine yR_m 2 (fun _ _ _ _ => rfl) ?_
      refine wR_ldz rfl q18 ?_
      refine yR_m 3 (fun _ _ _ _ => rfl) ?_
      refine wR_ldz rfl q18 ?_
      refine yR_m 2 (fun _ _ _ _ => rfl) ?_
      refine wR_lf_eq rfl (fun q19 => ?_) (fun q19 => ?_)
      ·
        refine yR_m 1 (fun _ _ _ _ => rfl) ?_
        refine yR_rl rfl ?_
        show yR zpg tX12_two (d + 2) (86, [(0, .int s), (1, .long a), (3, .long b)], [.long (a / b)], mem) _
        refine wR_is rfl rfl rfl rfl rfl rfl ?_
        show yR zpg tX12_within (d + 1) (0, [(0, .long (a / b))], [], mem) _
        refine yR_m 3 (fun _ _ _ _ => rfl) ?_
        refine wR_lf_le rfl (fun q20 => ?_) (fun q20 => ?_)
        ·
          refine yR_m 3 (fun _ _ _ _ => rfl) ?_
          refine wR_lf_ge rfl (fun q21 => ?_) (fun q21 => ?_)
          ·
            refine yR_m 1 (fun _ _ _ _ => rfl) ?_
            refine yR_rl rfl ?_
            show yR zpg tX12_two (d + 2) (89, [(0, .int s), (1, .long a), (3, .long b)], [.long (a / b)], mem) _
            exact yR_rl rfl (h6 hm)
          ·
            refine yR_m 2 (fun _ _ _ _ => rfl) ?_
            refine yR_rl rfl ?_
            show yR zpg tX12_two (d + 2) (89, [(0, .int s), (1, .long a), (3, .long b)], [.long (-1000000)], mem) _
            exact yR_rl rfl (h2 hm)
        ·
          refine yR_m 2 (fun _ _ _ _ => rfl) ?_
          refine yR_rl rfl ?_
          show yR zpg tX12_two (d + 2) (89, [(0, .int s), (1, .long a), (3, .long b)], [.long 1000000], mem) _
          exact yR_rl rfl (h3 hm)
      ·
        refine yR_m 3 (fun _ _ _ _ => rfl) ?_
        refine wR_lf_ge rfl (fun q22 => ?_) (fun q22 => ?_)
        ·
          refine yR_m 4 (fun _ _ _ _ => rfl) ?_
          refine wR_lf_ge rfl (fun q23 => ?_) (fun q23 => ?_)
          ·
            refine yR_m 1 (fun _ _ _ _ => rfl) ?_
            refine wR_ic_eq rfl (a := 0) (c := 0) rfl rfl (fun _ => ?_) (fun q => by exfalso; omega)
            refine yR_m 1 (fun _ _ _ _ => rfl) ?_
            refine yR_rl rfl ?_
            show yR zpg tX12_two (d + 2) (86, [(0, .int s), (1, .long a), (3, .long b)], [.long (a / b)], mem) _
            refine wR_is rfl rfl rfl rfl rfl rfl ?_
            show yR zpg tX12_within (d + 1) (0, [(0, .long (a / b))], [], mem) _
            refine yR_m 3 (fun _ _ _ _ => rfl) ?_
            refine wR_lf_le rfl (fun q24 => ?_) (fun q24 => ?_)
            ·
              refine yR_m 3 (fun _ _ _ _ => rfl) ?_
              refine wR_lf_ge rfl (fun q25 => ?_) (fun q25 => ?_)
              ·
                refine yR_m 1 (fun _ _ _ _ => rfl) ?_
                refine yR_rl rfl ?_
                show yR zpg tX12_two (d + 2) (89, [(0, .int s), (1, .long a), (3, .long b)], [.long (a / b)], mem) _
                exact yR_rl rfl (h6 hm)
              ·
                refine yR_m 2 (fun _ _ _ _ => rfl) ?_
                refine yR_rl rfl ?_
                show yR zpg tX12_two (d + 2) (89, [(0, .int s), (1, .long a), (3, .long b)], [.long (-1000000)], mem) _
                exact yR_rl rfl (h2 hm)
            ·
              refine yR_m 2 (fun _ _ _ _ => rfl) ?_
              refine yR_rl rfl ?_
              show yR zpg tX12_two (d + 2) (89, [(0, .int s), (1, .long a), (3, .long b)], [.long 1000000], mem) _
              exact yR_rl rfl (h3 hm)
          ·
            refine yR_m 2 (fun _ _ _ _ => rfl) ?_
            refine wR_ic_eq rfl (a := 0) (c := 1) rfl rfl (fun q => by exfalso; omega) (fun _ => ?_)
            refine yR_m 4 (fun _ _ _ _ => rfl) ?_
            refine yR_rl rfl ?_
            show yR zpg tX12_two (d + 2) (86, [(0, .int s), (1, .long a), (3, .long b)], [.long ((a / b) - 1)], mem) _
            refine wR_is rfl rfl rfl rfl rfl rfl ?_
            show yR zpg tX12_within (d + 1) (0, [(0, .long ((a / b) - 1))], [], mem) _
            refine yR_m 3 (fun _ _ _ _ => rfl) ?_
            refine wR_lf_le rfl (fun q26 => ?_) (fun q26 => ?_)
            ·
              refine yR_m 3 (fun _ _ _ _ => rfl) ?_
              refine wR_lf_ge rfl (fun q27 => ?_) (fun q27 => ?_)
              ·
                refine yR_m 1 (fun _ _ _ _ => rfl) ?_
                refine yR_rl rfl ?_
                show yR zpg tX12_two (d + 2) (89, [(0, .int s), (1, .long a), (3, .long b)], [.long ((a / b) - 1)], mem) _
                exact yR_rl rfl (h7 hm)
              ·
                refine yR_m 2 (fun _ _ _ _ => rfl) ?_
                refine yR_rl rfl ?_
                show yR zpg tX12_two (d + 2) (89, [(0, .int s), (1, .long a), (3, .long b)], [.long (-1000000)], mem) _
                exact yR_rl rfl (h2 hm)
            ·
              refine yR_m 2 (fun _ _ _ _ => rfl) ?_
              refine yR_rl rfl ?_
              show yR zpg tX12_two (d + 2) (89, [(0, .int s), (1, .long a), (3, .long b)], [.long 1000000], mem) _
              exact yR_rl rfl (h3 hm)
        ·
          refine yR_m 5 (fun _ _ _ _ => rfl) ?_
          refine wR_lf_ge rfl (fun q28 => ?_) (fun q28 => ?_)
          ·
            refine yR_m 1 (fun _ _ _ _ => rfl) ?_
            refine wR_ic_eq rfl (a := 1) (c := 0) rfl rfl (fun q => by exfalso; omega) (fun _ => ?_)
            refine yR_m 4 (fun _ _ _ _ => rfl) ?_
            refine yR_rl rfl ?_
            show yR zpg tX12_two (d + 2) (86, [(0, .int s), (1, .long a), (3, .long b)], [.long ((a / b) - 1)], mem) _
            refine wR_is rfl rfl rfl rfl rfl rfl ?_
            show yR zpg tX12_within (d + 1) (0, [(0, .long ((a / b) - 1))], [], mem) _
            refine yR_m 3 (fun _ _ _ _ => rfl) ?_
            refine wR_lf_le rfl (fun q29 => ?_) (fun q29 => ?_)
            ·
              refine yR_m 3 (fun _ _ _ _ => rfl) ?_
              refine wR_lf_ge rfl (fun q30 => ?_) (fun q30 => ?_)
              ·
                refine yR_m 1 (fun _ _ _ _ => rfl) ?_
                refine yR_rl rfl ?_
                show yR zpg tX12_two (d + 2) (89, [(0, .int s), (1, .long a), (3, .long b)], [.long ((a / b) - 1)], mem) _
                exact yR_rl rfl (h7 hm)
              ·
                refine yR_m 2 (fun _ _ _ _ => rfl) ?_
                refine yR_rl rfl ?_
                show yR zpg tX12_two (d + 2) (89, [(0, .int s), (1, .long a), (3, .long b)], [.long (-1000000)], mem) _
                exact yR_rl rfl (h2 hm)
            ·
              refine yR_m 2 (fun _ _ _ _ => rfl) ?_
              refine yR_rl rfl ?_
              show yR zpg tX12_two (d + 2) (89, [(0, .int s), (1, .long a), (3, .long b)], [.long 1000000], mem) _
              exact yR_rl rfl (h3 hm)
          ·
            refine yR_m 2 (fun _ _ _ _ => rfl) ?_
            refine wR_ic_eq rfl (a := 1) (c := 1) rfl rfl (fun _ => ?_) (fun q => by exfalso; omega)
            refine yR_m 1 (fun _ _ _ _ => rfl) ?_
            refine yR_rl rfl ?_
            show yR zpg tX12_two (d + 2) (86, [(0, .int s), (1, .long a), (3, .long b)], [.long (a / b)], mem) _
            refine wR_is rfl rfl rfl rfl rfl rfl ?_
            show yR zpg tX12_within (d + 1) (0, [(0, .long (a / b))], [], mem) _
            refine yR_m 3 (fun _ _ _ _ => rfl) ?_
            refine wR_lf_le rfl (fun q31 => ?_) (fun q31 => ?_)
            ·
              refine yR_m 3 (fun _ _ _ _ => rfl) ?_
              refine wR_lf_ge rfl (fun q32 => ?_) (fun q32 => ?_)
              ·
                refine yR_m 1 (fun _ _ _ _ => rfl) ?_
                refine yR_rl rfl ?_
                show yR zpg tX12_two (d + 2) (89, [(0, .int s), (1, .long a), (3, .long b)], [.long (a / b)], mem) _
                exact yR_rl rfl (h6 hm)
              ·
                refine yR_m 2 (fun _ _ _ _ => rfl) ?_
                refine yR_rl rfl ?_
                show yR zpg tX12_two (d + 2) (89, [(0, .int s), (1, .long a), (3, .long b)], [.long (-1000000)], mem) _
                exact yR_rl rfl (h2 hm)
            ·
              refine yR_m 2 (fun _ _ _ _ => rfl) ?_
              refine yR_rl rfl ?_
              show yR zpg tX12_two (d + 2) (89, [(0, .int s), (1, .long a), (3, .long b)], [.long 1000000], mem) _
              exact yR_rl rfl (h3 hm)
    ·
      refine yR_m 1 (fun _ _ _ _ => rfl) ?_
      refine yR_rl rfl ?_
      show yR zpg tX12_two (d + 2) (86, [(0, .int s), (1, .long a), (3, .long b)], [.long 0], mem) _
      refine wR_is rfl rfl rfl rfl rfl rfl ?_
      show yR zpg tX12_within (d + 1) (0, [(0, .long 0)], [], mem) _
      refine yR_m 3 (fun _ _ _ _ => rfl) ?_
      refine wR_lf_le rfl (fun _ => ?_) (fun q => absurd q (by decide))
      refine yR_m 3 (fun _ _ _ _ => rfl) ?_
      refine wR_lf_ge rfl (fun _ => ?_) (fun q => absurd q (by decide))
      refine yR_m 1 (fun _ _ _ _ => rfl) ?_
      refine yR_rl rfl ?_
      show yR zpg tX12_two (d + 2) (89, [(0, .int s), (1, .long a), (3, .long b)], [.long 0], mem) _
      exact yR_rl rfl (h8 hm)
  ·
    have q1 : ¬ (s).toInt = 31 := q1
    have q2 : ¬ (s).toInt = 32 := q2
    have q3 : ¬ (s).toInt = 33 := q3
    have q4 : ¬ (s).toInt = 34 := q4
    have q5 : (s).toInt = 35 := q5
    refine yR_m 3 (fun _ _ _ _ => rfl) ?_
    refine wR_lf_ne rfl (fun q33 => ?_) (fun q33 => ?_)
    ·
      refine yR_m 4 (fun _ _ _ _ => rfl) ?_
      refine wR_is rfl rfl rfl rfl rfl rfl ?_
      show yR zpg tX12_floor (d + 1) (0, [(0, .long a), (2, .long b)], [], mem) _
      refine yR_m 3 (fun _ _ _ _ => rfl) ?_
      refine wR_lf_ne rfl (fun _ => ?_) (fun q => absurd q q33)
      refine yR_m 2 (fun _ _ _ _ => rfl) ?_
      refine wR_ldz rfl q33 ?_
      refine yR_m 3 (fun _ _ _ _ => rfl) ?_
      refine wR_ldz rfl q33 ?_
      refine yR_m 2 (fun _ _ _ _ => rfl) ?_
      refine wR_lf_eq rfl (fun q34 => ?_) (fun q34 => ?_)
      ·
        refine yR_m 1 (fun _ _ _ _ => rfl) ?_
        refine yR_rl rfl ?_
        show yR zpg tX12_two (d + 2) (107, [(0, .int s), (1, .long a), (3, .long b)], [.long (a / b), .long b, .long a], mem) _
        refine yR_m 2 (fun _ _ _ _ => rfl) ?_
        refine wR_is rfl rfl rfl rfl rfl rfl ?_
        show yR zpg tX12_within (d + 1) (0, [(0, .long (a - (b * (a / b))))], [], mem) _
        refine yR_m 3 (fun _ _ _ _ => rfl) ?_
        refine wR_lf_le rfl (fun q35 => ?_) (fun q35 => ?_)
        ·
          refine yR_m 3 (fun _ _ _ _ => rfl) ?_
          refine wR_lf_ge rfl (fun q36 => ?_) (fun q36 => ?_)
          ·
            refine yR_m 1 (fun _ _ _ _ => rfl) ?_
            refine yR_rl rfl ?_
            show yR zpg tX12_two (d + 2) (112, [(0, .int s), (1, .long a), (3, .long b)], [.long (a - (b * (a / b)))], mem) _
            exact yR_rl rfl (h9 hm)
          ·
            refine yR_m 2 (fun _ _ _ _ => rfl) ?_
            refine yR_rl rfl ?_
            show yR zpg tX12_two (d + 2) (112, [(0, .int s), (1, .long a), (3, .long b)], [.long (-1000000)], mem) _
            exact yR_rl rfl (h2 hm)
        ·
          refine yR_m 2 (fun _ _ _ _ => rfl) ?_
          refine yR_rl rfl ?_
          show yR zpg tX12_two (d + 2) (112, [(0, .int s), (1, .long a), (3, .long b)], [.long 1000000], mem) _
          exact yR_rl rfl (h3 hm)
      ·
        refine yR_m 3 (fun _ _ _ _ => rfl) ?_
        refine wR_lf_ge rfl (fun q37 => ?_) (fun q37 => ?_)
        ·
          refine yR_m 4 (fun _ _ _ _ => rfl) ?_
          refine wR_lf_ge rfl (fun q38 => ?_) (fun q38 => ?_)
          ·
            refine yR_m 1 (fun _ _ _ _ => rfl) ?_
            refine wR_ic_eq rfl (a := 0) (c := 0) rfl rfl (fun _ => ?_) (fun q => by exfalso; omega)
            refine yR_m 1 (fun _ _ _ _ => rfl) ?_
            refine yR_rl rfl ?_
            show yR zpg tX12_two (d + 2) (107, [(0, .int s), (1, .long a), (3, .long b)], [.long (a / b), .long b, .long a], mem) _
            refine yR_m 2 (fun _ _ _ _ => rfl) ?_
            refine wR_is rfl rfl rfl rfl rfl rfl ?_
            show yR zpg tX12_within (d + 1) (0, [(0, .long (a - (b * (a / b))))], [], mem) _
            refine yR_m 3 (fun _ _ _ _ => rfl) ?_
            refine wR_lf_le rfl (fun q39 => ?_) (fun q39 => ?_)
            ·
              refine yR_m 3 (fun _ _ _ _ => rfl) ?_
              refine wR_lf_ge rfl (fun q40 => ?_) (fun q40 => ?_)
              ·
                refine yR_m 1 (fun _ _ _ _ => rfl) ?_
                refine yR_rl rfl ?_
                show yR zpg tX12_two (d + 2) (112, [(0, .int s), (1, .long a), (3, .long b)], [.long (a - (b * (a / b)))], mem) _
                exact yR_rl rfl (h9 hm)
              ·
                refine yR_m 2 (fun _ _ _ _ => rfl) ?_
                refine yR_rl rfl ?_
                show yR zpg tX12_two (d + 2) (112, [(0, .int s), (1, .long a), (3, .long b)], [.long (-1000000)], mem) _
                exact yR_rl rfl (h2 hm)
            ·
              refine yR_m 2 (fun _ _ _ _ => rfl) ?_
              refine yR_rl rfl ?_
              show yR zpg tX12_two (d + 2) (112, [(0, .int s), (1, .long a), (3, .long b)], [.long 1000000], mem) _
              exact yR_rl rfl (h3 hm)
          ·
            refine yR_m 2 (fun _ _ _ _ => rfl) ?_
            refine wR_ic_eq rfl (a := 0) (c := 1) rfl rfl (fun q => by exfalso; omega) (fun _ => ?_)
            refine yR_m 4 (fun _ _ _ _ => rfl) ?_
            refine yR_rl rfl ?_
            show yR zpg tX12_two (d + 2) (107, [(0, .int s), (1, .long a), (3, .long b)], [.long ((a / b) - 1), .long b, .long a], mem) _
            refine yR_m 2 (fun _ _ _ _ => rfl) ?_
            refine wR_is rfl rfl rfl rfl rfl rfl ?_
            show yR zpg tX12_within (d + 1) (0, [(0, .long (a - (b * ((a / b) - 1))))], [], mem) _
            refine yR_m 3 (fun _ _ _ _ => rfl) ?_
            refine wR_lf_le rfl (fun q41 => ?_) (fun q41 => ?_)
            ·
              refine yR_m 3 (fun _ _ _ _ => rfl) ?_
              refine wR_lf_ge rfl (fun q42 => ?_) (fun q42 => ?_)
              ·
                refine yR_m 1 (fun _ _ _ _ => rfl) ?_
                refine yR_rl rfl ?_
                show yR zpg tX12_two (d + 2) (112, [(0, .int s), (1, .long a), (3, .long b)], [.long (a - (b * ((a / b) - 1)))], mem) _
                exact yR_rl rfl (h10 hm)
              ·
                refine yR_m 2 (fun _ _ _ _ => rfl) ?_
                refine yR_rl rfl ?_
                show yR zpg tX12_two (d + 2) (112, [(0, .int s), (1, .long a), (3, .long b)], [.long (-1000000)], mem) _
                exact yR_rl rfl (h2 hm)
            ·
              refine yR_m 2 (fun _ _ _ _ => rfl) ?_
              refine yR_rl rfl ?_
              show yR zpg tX12_two (d + 2) (112, [(0, .int s), (1, .long a), (3, .long b)], [.long 1000000], mem) _
              exact yR_rl rfl (h3 hm)
        ·
          refine yR_m 5 (fun _ _ _ _ => rfl) ?_
          refine wR_lf_ge rfl (fun q43 => ?_) (fun q43 => ?_)
          ·
            refine yR_m 1 (fun _ _ _ _ => rfl) ?_
            refine wR_ic_eq rfl (a := 1) (c := 0) rfl rfl (fun q => by exfalso; omega) (fun _ => ?_)
            refine yR_m 4 (fun _ _ _ _ => rfl) ?_
            refine yR_rl rfl ?_
            show yR zpg tX12_two (d + 2) (107, [(0, .int s), (1, .long a), (3, .long b)], [.long ((a / b) - 1), .long b, .long a], mem) _
            refine yR_m 2 (fun _ _ _ _ => rfl) ?_
            refine wR_is rfl rfl rfl rfl rfl rfl ?_
            show yR zpg tX12_within (d + 1) (0, [(0, .long (a - (b * ((a / b) - 1))))], [], mem) _
            refine yR_m 3 (fun _ _ _ _ => rfl) ?_
            refine wR_lf_le rfl (fun q44 => ?_) (fun q44 => ?_)
            ·
              refine yR_m 3 (fun _ _ _ _ => rfl) ?_
              refine wR_lf_ge rfl (fun q45 => ?_) (fun q45 => ?_)
              ·
                refine yR_m 1 (fun _ _ _ _ => rfl) ?_
                refine yR_rl rfl ?_
                show yR zpg tX12_two (d + 2) (112, [(0, .int s), (1, .long a), (3, .long b)], [.long (a - (b * ((a / b) - 1)))], mem) _
                exact yR_rl rfl (h10 hm)
              ·
                refine yR_m 2 (fun _ _ _ _ => rfl) ?_
                refine yR_rl rfl ?_
                show yR zpg tX12_two (d + 2) (112, [(0, .int s), (1, .long a), (3, .long b)], [.long (-1000000)], mem) _
                exact yR_rl rfl (h2 hm)
            ·
              refine yR_m 2 (fun _ _ _ _ => rfl) ?_
              refine yR_rl rfl ?_
              show yR zpg tX12_two (d + 2) (112, [(0, .int s), (1, .long a), (3, .long b)], [.long 1000000], mem) _
              exact yR_rl rfl (h3 hm)
          ·
            refine yR_m 2 (fun _ _ _ _ => rfl) ?_
            refine wR_ic_eq rfl (a := 1) (c := 1) rfl rfl (fun _ => ?_) (fun q => by exfalso; omega)
            refine yR_m 1 (fun _ _ _ _ => rfl) ?_
            refine yR_rl rfl ?_
            show yR zpg tX12_two (d + 2) (107, [(0, .int s), (1, .long a), (3, .long b)], [.long (a / b), .long b, .long a], mem) _
            refine yR_m 2 (fun _ _ _ _ => rfl) ?_
            refine wR_is rfl rfl rfl rfl rfl rfl ?_
            show yR zpg tX12_within (d + 1) (0, [(0, .long (a - (b * (a / b))))], [], mem) _
            refine yR_m 3 (fun _ _ _ _ => rfl) ?_
            refine wR_lf_le rfl (fun q46 => ?_) (fun q46 => ?_)
            ·
              refine yR_m 3 (fun _ _ _ _ => rfl) ?_
              refine wR_lf_ge rfl (fun q47 => ?_) (fun q47 => ?_)
              ·
                refine yR_m 1 (fun _ _ _ _ => rfl) ?_
                refine yR_rl rfl ?_
                show yR zpg tX12_two (d + 2) (112, [(0, .int s), (1, .long a), (3, .long b)], [.long (a - (b * (a / b)))], mem) _
                exact yR_rl rfl (h9 hm)
              ·
                refine yR_m 2 (fun _ _ _ _ => rfl) ?_
                refine yR_rl rfl ?_
                show yR zpg tX12_two (d + 2) (112, [(0, .int s), (1, .long a), (3, .long b)], [.long (-1000000)], mem) _
                exact yR_rl rfl (h2 hm)
            ·
              refine yR_m 2 (fun _ _ _ _ => rfl) ?_
              refine yR_rl rfl ?_
              show yR zpg tX12_two (d + 2) (112, [(0, .int s), (1, .long a), (3, .long b)], [.long 1000000], mem) _
              exact yR_rl rfl (h3 hm)
    ·
      refine yR_m 2 (fun _ _ _ _ => rfl) ?_
      exact yR_rl rfl (h8 hm)
  ·
    have q1 : ¬ (s).toInt = 31 := q1
    have q2 : ¬ (s).toInt = 32 := q2
    have q3 : ¬ (s).toInt = 33 := q3
    have q4 : ¬ (s).toInt = 34 := q4
    have q5 : ¬ (s).toInt = 35 := q5
    have q6 : (s).toInt = 36 := q6
    refine yR_m 3 (fun _ _ _ _ => rfl) ?_
    refine wR_lf_ge rfl (fun q48 => ?_) (fun q48 => ?_)
    ·
      refine yR_m 1 (fun _ _ _ _ => rfl) ?_
      exact yR_rl rfl (h11 hm)
    ·
      refine yR_m 2 (fun _ _ _ _ => rfl) ?_
      exact yR_rl rfl (h12 hm)
  ·
    have q1 : ¬ (s).toInt = 31 := q1
    have q2 : ¬ (s).toInt = 32 := q2
    have q3 : ¬ (s).toInt = 33 := q3
    have q4 : ¬ (s).toInt = 34 := q4
    have q5 : ¬ (s).toInt = 35 := q5
    have q6 : ¬ (s).toInt = 36 := q6
    have q7 : (s).toInt = 37 := q7
    refine yR_m 3 (fun _ _ _ _ => rfl) ?_
    refine wR_lf_le rfl (fun q49 => ?_) (fun q49 => ?_)
    ·
      refine yR_m 1 (fun _ _ _ _ => rfl) ?_
      exact yR_rl rfl (h11 hm)
    ·
      refine yR_m 2 (fun _ _ _ _ => rfl) ?_
      exact yR_rl rfl (h12 hm)
  ·
    have q1 : ¬ (s).toInt = 31 := q1
    have q2 : ¬ (s).toInt = 32 := q2
    have q3 : ¬ (s).toInt = 33 := q3
    have q4 : ¬ (s).toInt = 34 := q4
    have q5 : ¬ (s).toInt = 35 := q5
    have q6 : ¬ (s).toInt = 36 := q6
    have q7 : ¬ (s).toInt = 37 := q7
    have q8 : (s).toInt = 38 := q8
    refine yR_m 3 (fun _ _ _ _ => rfl) ?_
    refine wR_lf_ge rfl (fun q50 => ?_) (fun q50 => ?_)
    ·
      refine yR_m 1 (fun _ _ _ _ => rfl) ?_
      exact yR_rl rfl (h8 hm)
    ·
      refine yR_m 2 (fun _ _ _ _ => rfl) ?_
      exact yR_rl rfl (h13 hm)
  ·
    have q1 : ¬ (s).toInt = 31 := q1
    have q2 : ¬ (s).toInt = 32 := q2
    have q3 : ¬ (s).toInt = 33 := q3
    have q4 : ¬ (s).toInt = 34 := q4
    have q5 : ¬ (s).toInt = 35 := q5
    have q6 : ¬ (s).toInt = 36 := q6
    have q7 : ¬ (s).toInt = 37 := q7
    have q8 : ¬ (s).toInt = 38 := q8
    have q9 : (s).toInt = 39 := q9
    refine yR_m 3 (fun _ _ _ _ => rfl) ?_
    refine wR_lf_le rfl (fun q51 => ?_) (fun q51 => ?_)
    ·
      refine yR_m 1 (fun _ _ _ _ => rfl) ?_
      exact yR_rl rfl (h8 hm)
    ·
      refine yR_m 2 (fun _ _ _ _ => rfl) ?_
      exact yR_rl rfl (h13 hm)
  ·
    have q1 : ¬ (s).toInt = 31 := q1
    have q2 : ¬ (s).toInt = 32 := q2
    have q3 : ¬ (s).toInt = 33 := q3
    have q4 : ¬ (s).toInt = 34 := q4
    have q5 : ¬ (s).toInt = 35 := q5
    have q6 : ¬ (s).toInt = 36 := q6
    have q7 : ¬ (s).toInt = 37 := q7
    have q8 : ¬ (s).toInt = 38 := q8
    have q9 : ¬ (s).toInt = 39 := q9
    have q10 : (s).toInt = 40 := q10
    refine yR_m 3 (fun _ _ _ _ => rfl) ?_
    refine wR_lf_ne rfl (fun q52 => ?_) (fun q52 => ?_)
    ·
      refine yR_m 1 (fun _ _ _ _ => rfl) ?_
      exact yR_rl rfl (h8 hm)
    ·
      refine yR_m 2 (fun _ _ _ _ => rfl) ?_
      exact yR_rl rfl (h13 hm)
  ·
    have q1 : ¬ (s).toInt = 31 := q1
    have q2 : ¬ (s).toInt = 32 := q2
    have q3 : ¬ (s).toInt = 33 := q3
    have q4 : ¬ (s).toInt = 34 := q4
    have q5 : ¬ (s).toInt = 35 := q5
    have q6 : ¬ (s).toInt = 36 := q6
    have q7 : ¬ (s).toInt = 37 := q7
    have q8 : ¬ (s).toInt = 38 := q8
    have q9 : ¬ (s).toInt = 39 := q9
    have q10 : ¬ (s).toInt = 40 := q10
    have q11 : (s).toInt = 41 := q11
    refine yR_m 3 (fun _ _ _ _ => rfl) ?_
    exact yR_rl rfl (h14 hm)
  ·
    have q1 : ¬ (s).toInt = 31 := q1
    have q2 : ¬ (s).toInt = 32 := q2
    have q3 : ¬ (s).toInt = 33 := q3
    have q4 : ¬ (s).toInt = 34 := q4
    have q5 : ¬ (s).toInt = 35 := q5
    have q6 : ¬ (s).toInt = 36 := q6
    have q7 : ¬ (s).toInt = 37 := q7
    have q8 : ¬ (s).toInt = 38 := q8
    have q9 : ¬ (s).toInt = 39 := q9
    have q10 : ¬ (s).toInt = 40 := q10
    have q11 : ¬ (s).toInt = 41 := q11
    refine yR_m 3 (fun _ _ _ _ => rfl) ?_
    exact yR_rl rfl (h15 hm)

theorem hst_i {s : Int32} {h h' : Nat} (e : hst s h = some h') : (s.toInt ≤ 30 → 0 ≤ s.toInt ∧ (s.toInt ≤ 6 ∨ s.toInt = 30) ∧ h < 499 ∧ h' = h + 1) ∧ (s.toInt = 43 → 1 ≤ h ∧ h' = h) ∧ (s.toInt = 44 → 3 ≤ h ∧ h' + 2 = h) ∧ (30 < s.toInt → ¬ s.toInt = 43 → ¬ s.toInt = 44 → 2 ≤ h ∧ h' + 1 = h) := by
  unfold hst at e
  split at e
  · split at e
    · cases e
      omega
    · cases e
  · split at e
    · split at e
      · cases e
        omega
      · cases e
    · split at e
      · split at e
        · cases e
          omega
        · cases e
      · split at e
        · cases e
          omega
        · cases e
theorem c_two {d : Nat} {s : Int32} {a b : Int64} {mem : zM} (hm : aTm aT0 mem) (hd : 3 ≤ d) : yC zpg d 217 [.int s, .long a, .long b] mem (fun r m => ∃ v : Int64, r = some (.long v) ∧ mem = m ∧ True) := by
  obtain ⟨d, rfl⟩ : ∃ q, d = q + 3 := ⟨d - 3, by omega⟩
  refine yC_of (t := tX12_two) rfl rfl ?_
  refine w_two hm ?_ ?_ ?_ ?_ ?_ ?_ ?_ ?_ ?_ ?_ ?_ ?_ ?_ ?_ ?_
  all_goals exact fun _ => ⟨_, rfl, rfl, trivial⟩
set_option maxRecDepth 100000 in
theorem w_rk_0 {E : zM → Prop} (hE : aEs (aΘ0 E)) {d : Nat} {m0 mem : zM} {P : Option Value → zM → Prop} {w : Int32} {lo : List (Nat × Value)} (hm : wI (aΘ0 E) m0 mem) (l_0 : zlg lo 0 = some (.ref 221)) (l_1 : zlg lo 1 = some (.int w)) (s1 : (0 : Int) ≤ (((3 * (gi mem 221 13)) + w)).toInt ∧ (((3 * (gi mem 221 13)) + w)).toInt < 6) (h1 : ∀ lo, zlg lo 0 = some (.ref 221) → zlg lo 1 = some (.int w) → zlg lo 2 = some (.int 0) → zlg lo 3 = some (.int ((1600 * (gi mem 221 13)) + (gx (ga mem 236) ((3 * (gi mem 221 13)) + w)))) → wI (aΘ0 E) m0 mem → yR zpg tX12_reckons (d + 3) (25, lo, [], mem) P) : yR zpg tX12_reckons (d + 3) (0, lo, [], mem) P := by
  refine yR_m 1 (fun _ _ _ _ => rfl) ?_
  refine wR_si rfl rfl (fun lo1 e2 f3 => ?_)
  have lo1_0 := f3 0 _ (by decide) (Or.inl rfl) l_0
  have lo1_1 := f3 1 _ (by decide) (Or.inl rfl) l_1
  refine yR_m 1 (fun _ _ _ _ => rfl) ?_
  refine wR_la rfl lo1_0 ?_
  refine wR_gi rfl mO_e mO_13 hm.1.1 rfl ?_
  refine yR_m 1 (fun _ _ _ _ => rfl) ?_
  refine wR_la rfl lo1_0 ?_
  refine wR_gr rfl mO_e mO_27 hm.1.1 ?_
  refine yR_m 1 (fun _ _ _ _ => rfl) ?_
  refine wR_la rfl lo1_0 ?_
  refine wR_gi rfl mO_e mO_13 hm.1.1 rfl ?_
  refine yR_m 1 (fun _ _ _ _ => rfl) ?_
  refine wR_li rfl lo1_1 ?_
  refine yR_m 1 (fun _ _ _ _ => rfl) ?_
  refine wR_al rfl aR_236 hm.1.1 rfl s1 ?_
  refine yR_m 1 (fun _ _ _ _ => rfl) ?_
  refine wR_si rfl rfl (fun lo4 e5 f6 => ?_)
  have lo4_2 := f6 2 _ (by decide) (Or.inl rfl) e2
  have lo4_0 := f6 0 _ (by decide) (Or.inl rfl) lo1_0
  have lo4_1 := f6 1 _ (by decide) (Or.inl rfl) lo1_1
  exact h1 lo4 lo4_0 lo4_1 lo4_2 e5 hm

set_option maxRecDepth 100000 in
theorem w_rk_25 {E : zM → Prop} (hE : aEs (aΘ0 E)) {d : Nat} {m0 mem : zM} {P : Option Value → zM → Prop} {w n c : Int32} {lo : List (Nat × Value)} (hm : wI (aΘ0 E) m0 mem) (l_0 : zlg lo 0 = some (.ref 221)) (l_1 : zlg lo 1 = some (.int w)) (l_2 : zlg lo 2 = some (.int n)) (l_3 : zlg lo 3 = some (.int c)) (s1 : (0 : Int) ≤ (((3 * (gi mem 221 13)) + w)).toInt ∧ (((3 * (gi mem 221 13)) + w)).toInt < 6) (h1 : ((1600 * (gi mem 221 13)) + (gx (ga mem 237) ((3 * (gi mem 221 13)) + w))).toInt ≤ (c).toInt → wI (aΘ0 E) m0 mem → P (some (.long (gX (gA mem 256) 0))) mem) (s2 : (c).toInt < ((1600 * (gi mem 221 13)) + (gx (ga mem 237) ((3 * (gi mem 221 13)) + w))).toInt → (0 : Int) ≤ (c).toInt ∧ (c).toInt < 3200) (s3 : (c).toInt < ((1600 * (gi mem 221 13)) + (gx (ga mem 237) ((3 * (gi mem 221 13)) + w))).toInt → 30 < (gx (ga mem 238) c).toInt → ¬ (gx (ga mem 238) c).toInt = 43 → ¬ (gx (ga mem 238) c).toInt = 44 → (0 : Int) ≤ (((n + (-1)) - 1)).toInt ∧ (((n + (-1)) - 1)).toInt < 500) (s4 : (c).toInt < ((1600 * (gi mem 221 13)) + (gx (ga mem 237) ((3 * (gi mem 221 13)) + w))).toInt → 30 < (gx (ga mem 238) c).toInt → ¬ (gx (ga mem 238) c).toInt = 43 → ¬ (gx (ga mem 238) c).toInt = 44 → (0 : Int) ≤ ((n + (-1))).toInt ∧ ((n + (-1))).toInt < 500) (s5 : (c).toInt < ((1600 * (gi mem 221 13)) + (gx (ga mem 237) ((3 * (gi mem 221 13)) + w))).toInt → 30 < (gx (ga mem 238) c).toInt → ¬ (gx (ga mem 238) c).toInt = 43 → ¬ (gx (ga mem 238) c).toInt = 44 → ∀ (v11 : Int64), True → (0 : Int) ≤ (((n + (-1)) - 1)).toInt ∧ (((n + (-1)) - 1)).toInt < 500) (h2 : (c).toInt < ((1600 * (gi mem 221 13)) + (gx (ga mem 237) ((3 * (gi mem 221 13)) + w))).toInt → 30 < (gx (ga mem 238) c).toInt → ¬ (gx (ga mem 238) c).toInt = 43 → ¬ (gx (ga mem 238) c).toInt = 44 → ∀ (v11 : Int64), True → ∀ lo, zlg lo 0 = some (.ref 221) → zlg lo 1 = some (.int w) → zlg lo 2 = some (.int (n + (-1))) → zlg lo 3 = some (.int (c + 1)) → wI (aΘ0 E) m0 (sX mem 256 ((n + (-1)) - 1) v11) → yR zpg tX12_reckons (d + 3) (25, lo, [], (sX mem 256 ((n + (-1)) - 1) v11)) P) (s6 : (c).toInt < ((1600 * (gi mem 221 13)) + (gx (ga mem 237) ((3 * (gi mem 221 13)) + w))).toInt → 30 < (gx (ga mem 238) c).toInt → ¬ (gx (ga mem 238) c).toInt = 43 → (gx (ga mem 238) c).toInt = 44 → (0 : Int) ≤ (((n + (-2)) - 1)).toInt ∧ (((n + (-2)) - 1)).toInt < 500) (s7 : (c).toInt < ((1600 * (gi mem 221 13)) + (gx (ga mem 237) ((3 * (gi mem 221 13)) + w))).toInt → 30 < (gx (ga mem 238) c).toInt → ¬ (gx (ga mem 238) c).toInt = 43 → (gx (ga mem 238) c).toInt = 44 → ¬ (gX (gA mem 256) ((n + (-2)) - 1)) = 1 → (0 : Int) ≤ (((n + (-2)) + 1)).toInt ∧ (((n + (-2)) + 1)).toInt < 500) (s8 : (c).toInt < ((1600 * (gi mem 221 13)) + (gx (ga mem 237) ((3 * (gi mem 221 13)) + w))).toInt → 30 < (gx (ga mem 238) c).toInt → ¬ (gx (ga mem 238) c).toInt = 43 → (gx (ga mem 238) c).toInt = 44 → ¬ (gX (gA mem 256) ((n + (-2)) - 1)) = 1 → (0 : Int) ≤ (((n + (-2)) - 1)).toInt ∧ (((n + (-2)) - 1)).toInt < 500) (h3 : (c).toInt < ((1600 * (gi mem 221 13)) + (gx (ga mem 237) ((3 * (gi mem 221 13)) + w))).toInt → 30 < (gx (ga mem 238) c).toInt → ¬ (gx (ga mem 238) c).toInt = 43 → (gx (ga mem 238) c).toInt = 44 → ¬ (gX (gA mem 256) ((n + (-2)) - 1)) = 1 → ∀ lo, zlg lo 0 = some (.ref 221) → zlg lo 1 = some (.int w) → zlg lo 2 = some (.int (n + (-2))) → zlg lo 3 = some (.int (c + 1)) → wI (aΘ0 E) m0 (sX mem 256 ((n + (-2)) - 1) (gX (gA mem 256) ((n + (-2)) + 1))) → yR zpg tX12_reckons (d + 3) (25, lo, [], (sX mem 256 ((n + (-2)) - 1) (gX (gA mem 256) ((n + (-2)) + 1)))) P) (s9 : (c).toInt < ((1600 * (gi mem 221 13)) + (gx (ga mem 237) ((3 * (gi mem 221 13)) + w))).toInt → 30 < (gx (ga mem 238) c).toInt → ¬ (gx (ga mem 238) c).toInt = 43 → (gx (ga mem 238) c).toInt = 44 → (gX (gA mem 256) ((n + (-2)) - 1)) = 1 → (0 : Int) ≤ ((n + (-2))).toInt ∧ ((n + (-2))).toInt < 500) (s10 : (c).toInt < ((1600 * (gi mem 221 13)) + (gx (ga mem 237) ((3 * (gi mem 221 13)) + w))).toInt → 30 < (gx (ga mem 238) c).toInt → ¬ (gx (ga mem 238) c).toInt = 43 → (gx (ga mem 238) c).toInt = 44 → (gX (gA mem 256) ((n + (-2)) - 1)) = 1 → (0 : Int) ≤ (((n + (-2)) - 1)).toInt ∧ (((n + (-2)) - 1)).toInt < 500) (h4 : (c).toInt < ((1600 * (gi mem 221 13)) + (gx (ga mem 237) ((3 * (gi mem 221 13)) + w))).toInt → 30 < (gx (ga mem 238) c).toInt → ¬ (gx (ga mem 238) c).toInt = 43 → (gx (ga mem 238) c).toInt = 44 → (gX (gA mem 256) ((n + (-2)) - 1)) = 1 → ∀ lo, zlg lo 0 = some (.ref 221) → zlg lo 1 = some (.int w) → zlg lo 2 = some (.int (n + (-2))) → zlg lo 3 = some (.int (c + 1)) → wI (aΘ0 E) m0 (sX mem 256 ((n + (-2)) - 1) (gX (gA mem 256) (n + (-2)))) → yR zpg tX12_reckons (d + 3) (25, lo, [], (sX mem 256 ((n + (-2)) - 1) (gX (gA mem 256) (n + (-2))))) P) (s11 : (c).toInt < ((1600 * (gi mem 221 13)) + (gx (ga mem 237) ((3 * (gi mem 221 13)) + w))).toInt → 30 < (gx (ga mem 238) c).toInt → (gx (ga mem 238) c).toInt = 43 → (0 : Int) ≤ ((n - 1)).toInt ∧ ((n - 1)).toInt < 500) (h5 : (c).toInt < ((1600 * (gi mem 221 13)) + (gx (ga mem 237) ((3 * (gi mem 221 13)) + w))).toInt → 30 < (gx (ga mem 238) c).toInt → (gx (ga mem 238) c).toInt = 43 → ∀ lo, zlg lo 0 = some (.ref 221) → zlg lo 1 = some (.int w) → zlg lo 2 = some (.int n) → zlg lo 3 = some (.int (c + 1)) → wI (aΘ0 E) m0 (sX mem 256 (n - 1) (1 - (gX (gA mem 256) (n - 1)))) → yR zpg tX12_reckons (d + 3) (25, lo, [], (sX mem 256 (n - 1) (1 - (gX (gA mem 256) (n - 1))))) P) (s12 : (c).toInt < ((1600 * (gi mem 221 13)) + (gx (ga mem 237) ((3 * (gi mem 221 13)) + w))).toInt → (gx (ga mem 238) c).toInt ≤ 30 → ¬ (gx (ga mem 238) c).toInt = 0 → ¬ (gx (ga mem 238) c).toInt = 30 → (0 : Int) ≤ ((gx (ga mem 238) c)).toInt ∧ ((gx (ga mem 238) c)).toInt < 10) (s13 : (c).toInt < ((1600 * (gi mem 221 13)) + (gx (ga mem 237) ((3 * (gi mem 221 13)) + w))).toInt → (gx (ga mem 238) c).toInt ≤ 30 → ¬ (gx (ga mem 238) c).toInt = 0 → ¬ (gx (ga mem 238) c).toInt = 30 → (0 : Int) ≤ (n).toInt ∧ (n).toInt < 500) (h6 : (c).toInt < ((1600 * (gi mem 221 13)) + (gx (ga mem 237) ((3 * (gi mem 221 13)) + w))).toInt → (gx (ga mem 238) c).toInt ≤ 30 → ¬ (gx (ga mem 238) c).toInt = 0 → ¬ (gx (ga mem 238) c).toInt = 30 → ∀ lo, zlg lo 0 = some (.ref 221) → zlg lo 1 = some (.int w) → zlg lo 2 = some (.int (n + 1)) → zlg lo 3 = some (.int (c + 1)) → wI (aΘ0 E) m0 (sX mem 256 n ((gx (ga mem 257) (gx (ga mem 238) c)) : Int32).toInt64) → yR zpg tX12_reckons (d + 3) (25, lo, [], (sX mem 256 n ((gx (ga mem 257) (gx (ga mem 238) c)) : Int32).toInt64)) P) (s14 : (c).toInt < ((1600 * (gi mem 221 13)) + (gx (ga mem 237) ((3 * (gi mem 221 13)) + w))).toInt → (gx (ga mem 238) c).toInt ≤ 30 → ¬ (gx (ga mem 238) c).toInt = 0 → (gx (ga mem 238) c).toInt = 30 → (0 : Int) ≤ (n).toInt ∧ (n).toInt < 500) (h7 : (c).toInt < ((1600 * (gi mem 221 13)) + (gx (ga mem 237) ((3 * (gi mem 221 13)) + w))).toInt → (gx (ga mem 238) c).toInt ≤ 30 → ¬ (gx (ga mem 238) c).toInt = 0 → (gx (ga mem 238) c).toInt = 30 → ∀ lo, zlg lo 0 = some (.ref 221) → zlg lo 1 = some (.int w) → zlg lo 2 = some (.int (n + 1)) → zlg lo 3 = some (.int (c + 1)) → wI (aΘ0 E) m0 (sX mem 256 n 1) → yR zpg tX12_reckons (d + 3) (25, lo, [], (sX mem 256 n 1)) P) (s15 : (c).toInt < ((1600 * (gi mem 221 13)) + (gx (ga mem 237) ((3 * (gi mem 221 13)) + w))).toInt → (gx (ga mem 238) c).toInt ≤ 30 → (gx (ga mem 238) c).toInt = 0 → (0 : Int) ≤ (c).toInt ∧ (c).toInt < 3200) (s16 : (c).toInt < ((1600 * (gi mem 221 13)) + (gx (ga mem 237) ((3 * (gi mem 221 13)) + w))).toInt → (gx (ga mem 238) c).toInt ≤ 30 → (gx (ga mem 238) c).toInt = 0 → (0 : Int) ≤ (n).toInt ∧ (n).toInt < 500) (h8 : (c).toInt < ((1600 * (gi mem 221 13)) + (gx (ga mem 237) ((3 * (gi mem 221 13)) + w))).toInt → (gx (ga mem 238) c).toInt ≤ 30 → (gx (ga mem 238) c).toInt = 0 → ∀ lo, zlg lo 0 = some (.ref 221) → zlg lo 1 = some (.int w) → zlg lo 2 = some (.int (n + 1)) → zlg lo 3 = some (.int (c + 1)) → wI (aΘ0 E) m0 (sX mem 256 n ((gx (ga mem 239) c) : Int32).toInt64) → yR zpg tX12_reckons (d + 3) (25, lo, [], (sX mem 256 n ((gx (ga mem 239) c) : Int32).toInt64)) P) : yR zpg tX12_reckons (d + 3) (25, lo, [], mem) P := by
  refine wR_li rfl l_3 ?_
  refine yR_m 1 (fun _ _ _ _ => rfl) ?_
  refine wR_la rfl l_0 ?_
  refine wR_gi rfl mO_e mO_13 hm.1.1 rfl ?_
  refine yR_m 1 (fun _ _ _ _ => rfl) ?_
  refine wR_la rfl l_0 ?_
  refine wR_gr rfl mO_e mO_28 hm.1.1 ?_
  refine yR_m 1 (fun _ _ _ _ => rfl) ?_
  refine wR_la rfl l_0 ?_
  refine wR_gi rfl mO_e mO_13 hm.1.1 rfl ?_
  refine yR_m 1 (fun _ _ _ _ => rfl) ?_
  refine wR_li rfl l_1 ?_
  refine yR_m 1 (fun _ _ _ _ => rfl) ?_
  refine wR_al rfl aR_237 hm.1.1 rfl s1 ?_
  refine yR_m 1 (fun _ _ _ _ => rfl) ?_
  refine wR_ic_ge rfl rfl rfl (fun q1 => ?_) (fun q1 => ?_)
  ·
    refine wR_la rfl l_0 ?_
    refine wR_gr rfl mO_e mO_58 hm.1.1 ?_
    refine yR_m 1 (fun _ _ _ _ => rfl) ?_
    refine wR_ll rfl aR_256 hm.1.1 rfl (by decide) ?_
    exact yR_rl rfl (h1 q1 hm)
  ·
    refine wR_la rfl l_0 ?_
    refine wR_gr rfl mO_e mO_29 hm.1.1 ?_
    refine wR_li rfl l_3 ?_
    refine wR_al rfl aR_238 hm.1.1 rfl (s2 q1) ?_
    refine wR_si rfl rfl (fun lo2 e3 f4 => ?_)
    have lo2_0 := f4 0 _ (by decide) (Or.inl rfl) l_0
    have lo2_1 := f4 1 _ (by decide) (Or.inl rfl) l_1
    have lo2_2 := f4 2 _ (by decide) (Or.inl rfl) l_2
    have lo2_3 := f4 3 _ (by decide) (Or.inl rfl) l_3
    refine wR_li rfl e3 ?_
    refine yR_m 1 (fun _ _ _ _ => rfl) ?_
    refine wR_ic_gt rfl (c := 30) rfl rfl (fun q5 => ?_) (fun q5 => ?_)
    ·
      refine wR_li rfl e3 ?_
      refine yR_m 1 (fun _ _ _ _ => rfl) ?_
      refine wR_ic_ne rfl (c := 43) rfl rfl (fun q6 => ?_) (fun q6 => ?_)
      ·
        refine wR_li rfl e3 ?_
        refine yR_m 1 (fun _ _ _ _ => rfl) ?_
        refine wR_ic_ne rfl (c := 44) rfl rfl (fun q7 => ?_) (fun q7 => ?_)
        ·
          refine wR_in rfl rfl lo2_2 (fun lo8 e9 f10 => ?_)
          have lo8_4 := f10 4 _ (by decide) (Or.inl rfl) e3
          have lo8_0 := f10 0 _ (by decide) (Or.inl rfl) lo2_0
          have lo8_1 := f10 1 _ (by decide) (Or.inl rfl) lo2_1
          have lo8_3 := f10 3 _ (by decide) (Or.inl rfl) lo2_3
          refine wR_la rfl lo8_0 ?_
          refine wR_gr rfl mO_e mO_58 hm.1.1 ?_
          refine wR_li rfl e9 ?_
          refine yR_m 2 (fun _ _ _ _ => rfl) ?_
          refine wR_li rfl lo8_4 ?_
          refine wR_la rfl lo8_0 ?_
          refine wR_gr rfl mO_e mO_58 hm.1.1 ?_
          refine wR_li rfl e9 ?_
          refine yR_m 2 (fun _ _ _ _ => rfl) ?_
          refine wR_ll rfl aR_256 hm.1.1 rfl (s3 q1 q5 q6 q7) ?_
          refine wR_la rfl lo8_0 ?_
          refine wR_gr rfl mO_e mO_58 hm.1.1 ?_
          refine wR_li rfl e9 ?_
          refine wR_ll rfl aR_256 hm.1.1 rfl (s4 q1 q5 q6 q7) ?_
          refine yR_cs rfl rfl rfl (c_two hm.1.1 (by omega)) ?_
          rintro _ _ ⟨v11, rfl, rfl, k12⟩
          show yR zpg tX12_reckons (d + 3) (220, lo8, [.long v11, .int ((n + (-1)) - 1), .ref 256], mem) _
          refine wR_las rfl aR_256 hm.1.1 (s5 q1 q5 q6 q7 v11 k12) ?_
          have hm_1 : wI (aΘ0 E) m0 (sX mem 256 ((n + (-1)) - 1) v11) := wI_sA hE aR_256 hm
          refine wR_in rfl rfl lo8_3 (fun lo13 e14 f15 => ?_)
          have lo13_2 := f15 2 _ (by decide) (Or.inl rfl) e9
          have lo13_4 := f15 4 _ (by decide) (Or.inl rfl) lo8_4
          have lo13_0 := f15 0 _ (by decide) (Or.inl rfl) lo8_0
          have lo13_1 := f15 1 _ (by decide) (Or.inl rfl) lo8_1
          exact yR_m 1 (fun _ _ _ _ => rfl) (h2 q1 q5 q6 q7 v11 k12 lo13 lo13_0 lo13_1 lo13_2 e14 hm_1)
        ·
          refine wR_in rfl rfl lo2_2 (fun lo16 e17 f18 => ?_)
          have lo16_4 := f18 4 _ (by decide) (Or.inl rfl) e3
          have lo16_0 := f18 0 _ (by decide) (Or.inl rfl) lo2_0
          have lo16_1 := f18 1 _ (by decide) (Or.inl rfl) lo2_1
          have lo16_3 := f18 3 _ (by decide) (Or.inl rfl) lo2_3
          refine wR_la rfl lo16_0 ?_
          refine wR_gr rfl mO_e mO_58 hm.1.1 ?_
          refine wR_li rfl e17 ?_
          refine yR_m 2 (fun _ _ _ _ => rfl) ?_
          refine wR_la rfl lo16_0 ?_
          refine wR_gr rfl mO_e mO_58 hm.1.1 ?_
          refine wR_li rfl e17 ?_
          refine yR_m 2 (fun _ _ _ _ => rfl) ?_
          refine wR_ll rfl aR_256 hm.1.1 rfl (s6 q1 q5 q6 q7) ?_
          refine yR_m 2 (fun _ _ _ _ => rfl) ?_
          refine wR_lf_ne rfl (fun q19 => ?_) (fun q19 => ?_)
          ·
            refine wR_la rfl lo16_0 ?_
            refine wR_gr rfl mO_e mO_58 hm.1.1 ?_
            refine wR_li rfl e17 ?_
            refine yR_m 2 (fun _ _ _ _ => rfl) ?_
            refine wR_ll rfl aR_256 hm.1.1 rfl (s7 q1 q5 q6 q7 q19) ?_
            refine wR_las rfl aR_256 hm.1.1 (s8 q1 q5 q6 q7 q19) ?_
            have hm_2 : wI (aΘ0 E) m0 (sX mem 256 ((n + (-2)) - 1) (gX (gA mem 256) ((n + (-2)) + 1))) := wI_sA hE aR_256 hm
            refine yR_m 1 (fun _ _ _ _ => rfl) ?_
            refine wR_in rfl rfl lo16_3 (fun lo20 e21 f22 => ?_)
            have lo20_2 := f22 2 _ (by decide) (Or.inl rfl) e17
            have lo20_4 := f22 4 _ (by decide) (Or.inl rfl) lo16_4
            have lo20_0 := f22 0 _ (by decide) (Or.inl rfl) lo16_0
            have lo20_1 := f22 1 _ (by decide) (Or.inl rfl) lo16_1
            exact yR_m 1 (fun _ _ _ _ => rfl) (h3 q1 q5 q6 q7 q19 lo20 lo20_0 lo20_1 lo20_2 e21 hm_2)
          ·
            refine wR_la rfl lo16_0 ?_
            refine wR_gr rfl mO_e mO_58 hm.1.1 ?_
            refine wR_li rfl e17 ?_
            refine wR_ll rfl aR_256 hm.1.1 rfl (s9 q1 q5 q6 q7 q19) ?_
            refine yR_m 1 (fun _ _ _ _ => rfl) ?_
            refine wR_las rfl aR_256 hm.1.1 (s10 q1 q5 q6 q7 q19) ?_
            have hm_3 : wI (aΘ0 E) m0 (sX mem 256 ((n + (-2)) - 1) (gX (gA mem 256) (n + (-2)))) := wI_sA hE aR_256 hm
            refine yR_m 1 (fun _ _ _ _ => rfl) ?_
            refine wR_in rfl rfl lo16_3 (fun lo23 e24 f25 => ?_)
            have lo23_2 := f25 2 _ (by decide) (Or.inl rfl) e17
            have lo23_4 := f25 4 _ (by decide) (Or.inl rfl) lo16_4
            have lo23_0 := f25 0 _ (by decide) (Or.inl rfl) lo16_0
            have lo23_1 := f25 1 _ (by decide) (Or.inl rfl) lo16_1
            exact yR_m 1 (fun _ _ _ _ => rfl) (h4 q1 q5 q6 q7 q19 lo23 lo23_0 lo23_1 lo23_2 e24 hm_3)
      ·
        refine wR_la rfl lo2_0 ?_
        refine wR_gr rfl mO_e mO_58 hm.1.1 ?_
        refine wR_li rfl lo2_2 ?_
        refine yR_m 3 (fun _ _ _ _ => rfl) ?_
        refine wR_la rfl lo2_0 ?_
        refine wR_gr rfl mO_e mO_58 hm.1.1 ?_
        refine wR_li rfl lo2_2 ?_
        refine yR_m 2 (fun _ _ _ _ => rfl) ?_
        refine wR_ll rfl aR_256 hm.1.1 rfl (s11 q1 q5 q6) ?_
        refine yR_m 1 (fun _ _ _ _ => rfl) ?_
        refine wR_las rfl aR_256 hm.1.1 (s11 q1 q5 q6) ?_
        have hm_4 : wI (aΘ0 E) m0 (sX mem 256 (n - 1) (1 - (gX (gA mem 256) (n - 1)))) := wI_sA hE aR_256 hm
        refine yR_m 1 (fun _ _ _ _ => rfl) ?_
        refine wR_in rfl rfl lo2_3 (fun lo26 e27 f28 => ?_)
        have lo26_4 := f28 4 _ (by decide) (Or.inl rfl) e3
        have lo26_0 := f28 0 _ (by decide) (Or.inl rfl) lo2_0
        have lo26_1 := f28 1 _ (by decide) (Or.inl rfl) lo2_1
        have lo26_2 := f28 2 _ (by decide) (Or.inl rfl) lo2_2
        exact yR_m 1 (fun _ _ _ _ => rfl) (h5 q1 q5 q6 lo26 lo26_0 lo26_1 lo26_2 e27 hm_4)
    ·
      refine wR_la rfl lo2_0 ?_
      refine wR_gr rfl mO_e mO_58 hm.1.1 ?_
      refine wR_li rfl lo2_2 ?_
      refine wR_li rfl e3 ?_
      refine wR_if_ne rfl rfl (fun q29 => ?_) (fun q29 => ?_)
      ·
        refine wR_li rfl e3 ?_
        refine yR_m 1 (fun _ _ _ _ => rfl) ?_
        refine wR_ic_ne rfl (c := 30) rfl rfl (fun q30 => ?_) (fun q30 => ?_)
        ·
          refine wR_la rfl lo2_0 ?_
          refine wR_gr rfl mO_e mO_59 hm.1.1 ?_
          refine wR_li rfl e3 ?_
          refine wR_al rfl aR_257 hm.1.1 rfl (s12 q1 q5 q29 q30) ?_
          refine yR_m 1 (fun _ _ _ _ => rfl) ?_
          refine wR_las rfl aR_256 hm.1.1 (s13 q1 q5 q29 q30) ?_
          have hm_5 : wI (aΘ0 E) m0 (sX mem 256 n ((gx (ga mem 257) (gx (ga mem 238) c)) : Int32).toInt64) := wI_sA hE aR_256 hm
          refine wR_in rfl rfl lo2_2 (fun lo31 e32 f33 => ?_)
          have lo31_4 := f33 4 _ (by decide) (Or.inl rfl) e3
          have lo31_0 := f33 0 _ (by decide) (Or.inl rfl) lo2_0
          have lo31_1 := f33 1 _ (by decide) (Or.inl rfl) lo2_1
          have lo31_3 := f33 3 _ (by decide) (Or.inl rfl) lo2_3
          refine yR_m 1 (fun _ _ _ _ => rfl) ?_
          refine wR_in rfl rfl lo31_3 (fun lo34 e35 f36 => ?_)
          have lo34_2 := f36 2 _ (by decide) (Or.inl rfl) e32
          have lo34_4 := f36 4 _ (by decide) (Or.inl rfl) lo31_4
          have lo34_0 := f36 0 _ (by decide) (Or.inl rfl) lo31_0
          have lo34_1 := f36 1 _ (by decide) (Or.inl rfl) lo31_1
          exact yR_m 1 (fun _ _ _ _ => rfl) (h6 q1 q5 q29 q30 lo34 lo34_0 lo34_1 lo34_2 e35 hm_5)
        ·
          refine yR_m 2 (fun _ _ _ _ => rfl) ?_
          refine wR_las rfl aR_256 hm.1.1 (s14 q1 q5 q29 q30) ?_
          have hm_6 : wI (aΘ0 E) m0 (sX mem 256 n 1) := wI_sA hE aR_256 hm
          refine wR_in rfl rfl lo2_2 (fun lo37 e38 f39 => ?_)
          have lo37_4 := f39 4 _ (by decide) (Or.inl rfl) e3
          have lo37_0 := f39 0 _ (by decide) (Or.inl rfl) lo2_0
          have lo37_1 := f39 1 _ (by decide) (Or.inl rfl) lo2_1
          have lo37_3 := f39 3 _ (by decide) (Or.inl rfl) lo2_3
          refine yR_m 1 (fun _ _ _ _ => rfl) ?_
          refine wR_in rfl rfl lo37_3 (fun lo40 e41 f42 => ?_)
          have lo40_2 := f42 2 _ (by decide) (Or.inl rfl) e38
          have lo40_4 := f42 4 _ (by decide) (Or.inl rfl) lo37_4
          have lo40_0 := f42 0 _ (by decide) (Or.inl rfl) lo37_0
          have lo40_1 := f42 1 _ (by decide) (Or.inl rfl) lo37_1
          exact yR_m 1 (fun _ _ _ _ => rfl) (h7 q1 q5 q29 q30 lo40 lo40_0 lo40_1 lo40_2 e41 hm_6)
      ·
        refine wR_la rfl lo2_0 ?_
        refine wR_gr rfl mO_e mO_30 hm.1.1 ?_
        refine wR_li rfl lo2_3 ?_
        refine wR_al rfl aR_239 hm.1.1 rfl (s15 q1 q5 q29) ?_
        refine yR_m 2 (fun _ _ _ _ => rfl) ?_
        refine wR_las rfl aR_256 hm.1.1 (s16 q1 q5 q29) ?_
        have hm_7 : wI (aΘ0 E) m0 (sX mem 256 n ((gx (ga mem 239) c) : Int32).toInt64) := wI_sA hE aR_256 hm
        refine wR_in rfl rfl lo2_2 (fun lo43 e44 f45 => ?_)
        have lo43_4 := f45 4 _ (by decide) (Or.inl rfl) e3
        have lo43_0 := f45 0 _ (by decide) (Or.inl rfl) lo2_0
        have lo43_1 := f45 1 _ (by decide) (Or.inl rfl) lo2_1
        have lo43_3 := f45 3 _ (by decide) (Or.inl rfl) lo2_3
        refine yR_m 1 (fun _ _ _ _ => rfl) ?_
        refine wR_in rfl rfl lo43_3 (fun lo46 e47 f48 => ?_)
        have lo46_2 := f48 2 _ (by decide) (Or.inl rfl) e44
        have lo46_4 := f48 4 _ (by decide) (Or.inl rfl) lo43_4
        have lo46_0 := f48 0 _ (by decide) (Or.inl rfl) lo43_0
        have lo46_1 := f48 1 _ (by decide) (Or.inl rfl) lo43_1
        exact yR_m 1 (fun _ _ _ _ => rfl) (h8 q1 q5 q29 lo46 lo46_0 lo46_1 lo46_2 e47 hm_7)

def cdOK (mem : zM) : Prop := ∀ w : Nat, w < 3 → ¬ ((ga mem 236).getD (3 * (gi mem 221 13).toInt.toNat + w) 0).toInt = -1 → ∃ fN bN : Nat, ((ga mem 236).getD (3 * (gi mem 221 13).toInt.toNat + w) 0).toInt = (fN : Int) ∧ ((ga mem 237).getD (3 * (gi mem 221 13).toInt.toNat + w) 0).toInt = (bN : Int) ∧ fN ≤ bN ∧ bN ≤ 1600 ∧ ∃ H, hgt (ga mem 238) (1600 * (gi mem 221 13).toInt.toNat + fN) (bN - fN) = some H
theorem rk_loop {E : zM → Prop} (hE : aEs (aΘ0 E)) {m0 : zM} {d : Nat} {w : Int32} {cs : List Int32} {b fN bN H : Nat} (h1 : fN ≤ bN) (h2 : bN ≤ 1600) (hb : b ≤ 1) (w0 : 0 ≤ w.toInt) (w1 : w.toInt ≤ 2) (hH : hgt cs (1600 * b + fN) (bN - fN) = some H) : ∀ (r k : Nat) (c n : Int32) (h : Nat) (mem : zM) (lo : List (Nat × Value)), r + k = bN - fN → hgt cs (1600 * b + fN) k = some h → c.toInt = 1600 * (b : Int) + (fN : Int) + (k : Int) → n.toInt = (h : Int) → h ≤ 499 → (gi mem 221 13).toInt = (b : Int) → (gx (ga mem 237) ((3 * gi mem 221 13) + w)).toInt = (bN : Int) → ga mem 238 = cs → zlg lo 0 = some (.ref 221) → zlg lo 1 = some (.int w) → zlg lo 2 = some (.int n) → zlg lo 3 = some (.int c) → wI (aΘ0 E) m0 mem → yR zpg tX12_reckons (d + 3) (25, lo, [], mem) (fun r m => aJ (aΘ0 E) m ∧ aPr aT0 m0 m ∧ aTr (some (.inr none)) r) := by
  intro r
  induction r with
  | zero =>
    intro k c n h mem lo hk hh hc hn h9 hB hS hcs l0 l1 l2 l3 hI
    have he : ((1600 * (gi mem 221 13)) + (gx (ga mem 237) ((3 * (gi mem 221 13)) + w))).toInt = 1600 * (b : Int) + (bN : Int) := by simp only [Int32.toInt_add, Int32.toInt_mul, Int32.reduceToInt, bm32]; omega
    refine w_rk_25 hE hI l0 l1 l2 l3 ?_ ?_ ?_ ?_ ?_ ?_ ?_ ?_ ?_ ?_ ?_ ?_ ?_ ?_ ?_ ?_ ?_ ?_ ?_ ?_ ?_ ?_ ?_ ?_ <;> intros
    all_goals first
      | (refine ⟨hI.1, hI.2, _, rfl⟩)
      | (exfalso; omega)
      | (simp only [Int32.toInt_add, Int32.toInt_mul, Int32.reduceToInt, bm32]; omega)
  | succ r ih =>
    intro k c n h mem lo hk hh hc hn h9 hB hS hcs l0 l1 l2 l3 hI
    have he : ((1600 * (gi mem 221 13)) + (gx (ga mem 237) ((3 * (gi mem 221 13)) + w))).toInt = 1600 * (b : Int) + (bN : Int) := by simp only [Int32.toInt_add, Int32.toInt_mul, Int32.reduceToInt, bm32]; omega
    obtain ⟨h', e1, e2⟩ := hgt_s hH (by omega) hh
    have hs : gx (ga mem 238) c = cs.getD (1600 * b + fN + k) 0 := by rw [hcs]; exact gx_n (by omega)
    rw [← hs] at e1
    obtain ⟨f1, f2, f3, f4⟩ := hst_i e1
    have hc1 : (c + 1).toInt = c.toInt + 1 := by simp only [Int32.toInt_add, Int32.reduceToInt, bm32]; omega
    refine w_rk_25 hE hI l0 l1 l2 l3 ?_ ?_ ?_ ?_ ?_ ?_ ?_ ?_ ?_ ?_ ?_ ?_ ?_ ?_ ?_ ?_ ?_ ?_ ?_ ?_ ?_ ?_ ?_ ?_ <;> intros
    all_goals first
      | (exact ⟨hI.1, hI.2, _, rfl⟩)
      | (refine ih (k + 1) _ _ h' _ _ (by omega) e2 (by omega) ?_ (by omega) (by rw [gi_sA]; exact hB) (by rw [gi_sA, ga_sA]; exact hS) (by rw [ga_sA]; exact hcs) (by assumption) (by assumption) (by assumption) (by assumption) (by assumption)
         try simp only [Int32.toInt_add, Int32.toInt_sub, Int32.toInt_mul, Int32.reduceToInt, bm32]
         omega)
      | omega
      | (simp only [Int32.toInt_add, Int32.toInt_sub, Int32.toInt_mul, Int32.reduceToInt, bm32]; omega)
/-- a rule that is told is reckoned -/
theorem h_reckons {E : zM → Prop} (hE : aEs (aΘ0 E)) (hQ : ∀ mem, aJ (aΘ0 E) mem → cdOK mem) {d : Nat} (hd : 4 ≤ d) {w : Int32} (w0 : 0 ≤ w.toInt) (w1 : w.toInt ≤ 2) {m0 mem : zM} (hI : wI (aΘ0 E) m0 mem) (ht : ¬ (gx (ga mem 236) ((3 * gi mem 221 13) + w)).toInt = -1) : yC zpg d 218 [.ref 221, .int w] mem (fun r m => aJ (aΘ0 E) m ∧ aPr aT0 m0 m ∧ aTr (some (.inr none)) r) := by
  obtain ⟨d, rfl⟩ : ∃ q, d = q + 4 := ⟨d - 4, by omega⟩
  obtain ⟨b0, b1⟩ := gi_rg mO_e mO_13 hI.1.1
  have b0 : 0 ≤ (gi mem 221 13).toInt := b0
  have b1 : (gi mem 221 13).toInt ≤ 1 := b1
  have hix : ((3 * gi mem 221 13) + w).toInt = 3 * (gi mem 221 13).toInt + w.toInt := by simp only [Int32.toInt_add, Int32.toInt_mul, Int32.reduceToInt, bm32]; omega
  have en : ∀ l : List Int32, gx l ((3 * gi mem 221 13) + w) = l.getD (3 * (gi mem 221 13).toInt.toNat + w.toInt.toNat) 0 := fun l => gx_n (by omega)
  obtain ⟨fN, bN, q1, q2, q3, q4, H, q5⟩ := hQ mem hI.1 w.toInt.toNat (by omega) (by rw [← en]; exact ht)
  rw [← en] at q1 q2
  refine yC_of (t := tX12_reckons) rfl rfl ?_
  refine w_rk_0 hE hI rfl rfl (by omega) ?_
  intro lo l0 l1 l2 l3 hI
  exact rk_loop hE q3 q4 (by omega) w0 w1 q5 (bN - fN) 0 _ _ 0 mem lo (by omega) rfl (by simp only [Int32.toInt_add, Int32.toInt_mul, Int32.reduceToInt, bm32]; omega) rfl (by omega) (by omega) q2 rfl l0 l1 l2 l3 hI
