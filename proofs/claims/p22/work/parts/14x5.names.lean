/-! the model's names -/
def gl (l : List Int64) (i : Int) : Int64 := l.getD i.toNat 0
section NF
variable {d : Nat} {mem : zM} {w : Int64}
def tnQ (m : zM) (w : Int64) (v : Int) : Prop := (v = -1 ∧ ∀ i, 0 ≤ i → i < gn (ga m 228) (gi m 221 34).toInt → ¬ gl (gA m 240) (9 * (gi m 221 34).toInt + i) = w) ∨ ((0 ≤ v ∧ v < gn (ga m 228) (gi m 221 34).toInt) ∧ gl (gA m 240) (9 * (gi m 221 34).toInt + v) = w ∧ ∀ i, 0 ≤ i → i < v → ¬ gl (gA m 240) (9 * (gi m 221 34).toInt + i) = w)
def inQ (m : zM) (w : Int64) (v : Int) : Prop := (v = 0 ∧ (∀ i, 0 ≤ i → i < gn (ga m 233) (gi m 221 34).toInt → ¬ gl (gA m 241) (6 * (gi m 221 34).toInt + i) = w) ∧ ∀ i, 0 ≤ i → i < gn (ga m 228) (gi m 221 34).toInt → ¬ gl (gA m 240) (9 * (gi m 221 34).toInt + i) = w) ∨ (v = 1 ∧ ((∃ i, 0 ≤ i ∧ i < gn (ga m 233) (gi m 221 34).toInt ∧ gl (gA m 241) (6 * (gi m 221 34).toInt + i) = w) ∨ ∃ i, 0 ≤ i ∧ i < gn (ga m 228) (gi m 221 34).toInt ∧ gl (gA m 240) (9 * (gi m 221 34).toInt + i) = w))
set_option maxRecDepth 100000 in
theorem w_iOF {d : Nat} {mem : zM} {P : Option Value → zM → Prop} {w : Int64} (hm : aTm aT0 mem) (h1 : w = 1903518073 → aTm aT0 mem → P (some (.int 1)) mem) (h2 : ¬ w = 1903518073 → w = 25209 → aTm aT0 mem → P (some (.int 1)) mem) (h3 : ¬ w = 1903518073 → ¬ w = 25209 → w = 1885430629 → aTm aT0 mem → P (some (.int 1)) mem) (h4 : ¬ w = 1903518073 → ¬ w = 25209 → ¬ w = 1885430629 → w = 1734437989 → aTm aT0 mem → P (some (.int 1)) mem) (h5 : ¬ w = 1903518073 → ¬ w = 25209 → ¬ w = 1885430629 → ¬ w = 1734437989 → ¬ w = 2002873452 → w = 1818321771 → aTm aT0 mem → P (some (.int 1)) mem) (h6 : ¬ w = 1903518073 → ¬ w = 25209 → ¬ w = 1885430629 → ¬ w = 1734437989 → ¬ w = 2002873452 → ¬ w = 1818321771 → w = 24948 → aTm aT0 mem → P (some (.int 1)) mem) (h7 : ¬ w = 1903518073 → ¬ w = 25209 → ¬ w = 1885430629 → ¬ w = 1734437989 → ¬ w = 2002873452 → ¬ w = 1818321771 → ¬ w = 24948 → w = 6845797 → aTm aT0 mem → P (some (.int 1)) mem) (h8 : ¬ w = 1903518073 → ¬ w = 25209 → ¬ w = 1885430629 → ¬ w = 1734437989 → ¬ w = 2002873452 → ¬ w = 1818321771 → ¬ w = 24948 → ¬ w = 6845797 → w = 1751738216 → aTm aT0 mem → P (some (.int 1)) mem) (h9 : ¬ w = 1903518073 → ¬ w = 25209 → ¬ w = 1885430629 → ¬ w = 1734437989 → ¬ w = 2002873452 → ¬ w = 1818321771 → ¬ w = 24948 → ¬ w = 6845797 → ¬ w = 1751738216 → ¬ w = 6840691 → w = 1718578283 → aTm aT0 mem → P (some (.int 1)) mem) (h10 : ¬ w = 1903518073 → ¬ w = 25209 → ¬ w = 1885430629 → ¬ w = 1734437989 → ¬ w = 2002873452 → ¬ w = 1818321771 → ¬ w = 24948 → ¬ w = 6845797 → ¬ w = 1751738216 → ¬ w = 6840691 → ¬ w = 1718578283 → w = 1752132965 → aTm aT0 mem → P (some (.int 1)) mem) (h11 : ¬ w = 1903518073 → ¬ w = 25209 → ¬ w = 1885430629 → ¬ w = 1734437989 → ¬ w = 2002873452 → ¬ w = 1818321771 → ¬ w = 24948 → ¬ w = 6845797 → ¬ w = 1751738216 → ¬ w = 6840691 → ¬ w = 1718578283 → ¬ w = 1752132965 → w = 444200875891 → aTm aT0 mem → P (some (.int 1)) mem) (h12 : ¬ w = 1903518073 → ¬ w = 25209 → ¬ w = 1885430629 → ¬ w = 1734437989 → ¬ w = 2002873452 → ¬ w = 1818321771 → ¬ w = 24948 → ¬ w = 6845797 → ¬ w = 1751738216 → ¬ w = 6840691 → ¬ w = 1718578283 → ¬ w = 1752132965 → ¬ w = 444200875891 → w = 439855506547 → aTm aT0 mem → P (some (.int 1)) mem) (h13 : ¬ w = 1903518073 → ¬ w = 25209 → ¬ w = 1885430629 → ¬ w = 1734437989 → ¬ w = 2002873452 → ¬ w = 1818321771 → ¬ w = 24948 → ¬ w = 6845797 → ¬ w = 1751738216 → ¬ w = 6840691 → ¬ w = 1718578283 → ¬ w = 1752132965 → ¬ w = 444200875891 → ¬ w = 439855506547 → ¬ w = 465726301555 → w = 474214787188 → aTm aT0 mem → P (some (.int 1)) mem) (h14 : ¬ w = 1903518073 → ¬ w = 25209 → ¬ w = 1885430629 → ¬ w = 1734437989 → ¬ w = 2002873452 → ¬ w = 1818321771 → ¬ w = 24948 → ¬ w = 6845797 → ¬ w = 1751738216 → ¬ w = 6840691 → ¬ w = 1718578283 → ¬ w = 1752132965 → ¬ w = 444200875891 → ¬ w = 439855506547 → ¬ w = 465726301555 → ¬ w = 474214787188 → w = 6383461 → aTm aT0 mem → P (some (.int 1)) mem) (h15 : ¬ w = 1903518073 → ¬ w = 25209 → ¬ w = 1885430629 → ¬ w = 1734437989 → ¬ w = 2002873452 → ¬ w = 1818321771 → ¬ w = 24948 → ¬ w = 6845797 → ¬ w = 1751738216 → ¬ w = 6840691 → ¬ w = 1718578283 → ¬ w = 1752132965 → ¬ w = 444200875891 → ¬ w = 439855506547 → ¬ w = 465726301555 → ¬ w = 474214787188 → ¬ w = 6383461 → w = 1819243380 → aTm aT0 mem → P (some (.int 1)) mem) (h16 : ¬ w = 1903518073 → ¬ w = 25209 → ¬ w = 1885430629 → ¬ w = 1734437989 → ¬ w = 2002873452 → ¬ w = 1818321771 → ¬ w = 24948 → ¬ w = 6845797 → ¬ w = 1751738216 → ¬ w = 6840691 → ¬ w = 1718578283 → ¬ w = 1752132965 → ¬ w = 444200875891 → ¬ w = 439855506547 → ¬ w = 465726301555 → ¬ w = 474214787188 → ¬ w = 6383461 → ¬ w = 1819243380 → w = 1852137842 → aTm aT0 mem → P (some (.int 1)) mem) (h17 : ¬ w = 1903518073 → ¬ w = 25209 → ¬ w = 1885430629 → ¬ w = 1734437989 → ¬ w = 2002873452 → ¬ w = 1818321771 → ¬ w = 24948 → ¬ w = 6845797 → ¬ w = 1751738216 → ¬ w = 6840691 → ¬ w = 1718578283 → ¬ w = 1752132965 → ¬ w = 444200875891 → ¬ w = 439855506547 → ¬ w = 465726301555 → ¬ w = 474214787188 → ¬ w = 6383461 → ¬ w = 1819243380 → ¬ w = 1852137842 → ¬ w = 26982 → w = 28530 → aTm aT0 mem → P (some (.int 1)) mem) (h18 : ¬ w = 1903518073 → ¬ w = 25209 → ¬ w = 1885430629 → ¬ w = 1734437989 → ¬ w = 2002873452 → ¬ w = 1818321771 → ¬ w = 24948 → ¬ w = 6845797 → ¬ w = 1751738216 → ¬ w = 6840691 → ¬ w = 1718578283 → ¬ w = 1752132965 → ¬ w = 444200875891 → ¬ w = 439855506547 → ¬ w = 465726301555 → ¬ w = 474214787188 → ¬ w = 6383461 → ¬ w = 1819243380 → ¬ w = 1852137842 → ¬ w = 26982 → ¬ w = 28530 → w = 6385252 → aTm aT0 mem → P (some (.int 1)) mem) (h19 : ¬ w = 1903518073 → ¬ w = 25209 → ¬ w = 1885430629 → ¬ w = 1734437989 → ¬ w = 2002873452 → ¬ w = 1818321771 → ¬ w = 24948 → ¬ w = 6845797 → ¬ w = 1751738216 → ¬ w = 6840691 → ¬ w = 1718578283 → ¬ w = 1752132965 → ¬ w = 444200875891 → ¬ w = 439855506547 → ¬ w = 465726301555 → ¬ w = 474214787188 → ¬ w = 6383461 → ¬ w = 1819243380 → ¬ w = 1852137842 → ¬ w = 26982 → ¬ w = 28530 → ¬ w = 6385252 → w = 7237492 → aTm aT0 mem → P (some (.int 1)) mem) (h20 : ¬ w = 1903518073 → ¬ w = 25209 → ¬ w = 1885430629 → ¬ w = 1734437989 → ¬ w = 2002873452 → ¬ w = 1818321771 → ¬ w = 24948 → ¬ w = 6845797 → ¬ w = 1751738216 → ¬ w = 6840691 → ¬ w = 1718578283 → ¬ w = 1752132965 → ¬ w = 444200875891 → ¬ w = 439855506547 → ¬ w = 465726301555 → ¬ w = 474214787188 → ¬ w = 6383461 → ¬ w = 1819243380 → ¬ w = 1852137842 → ¬ w = 26982 → ¬ w = 28530 → ¬ w = 6385252 → ¬ w = 7237492 → w = 6384748 → aTm aT0 mem → P (some (.int 1)) mem) (h21 : ¬ w = 1903518073 → ¬ w = 25209 → ¬ w = 1885430629 → ¬ w = 1734437989 → ¬ w = 2002873452 → ¬ w = 1818321771 → ¬ w = 24948 → ¬ w = 6845797 → ¬ w = 1751738216 → ¬ w = 6840691 → ¬ w = 1718578283 → ¬ w = 1752132965 → ¬ w = 444200875891 → ¬ w = 439855506547 → ¬ w = 465726301555 → ¬ w = 474214787188 → ¬ w = 6383461 → ¬ w = 1819243380 → ¬ w = 1852137842 → ¬ w = 26982 → ¬ w = 28530 → ¬ w = 6385252 → ¬ w = 7237492 → ¬ w = 6384748 → ¬ w = 7170414 → ¬ w = 7168376 → aTm aT0 mem → P (some (.int 0)) mem) (h22 : ¬ w = 1903518073 → ¬ w = 25209 → ¬ w = 1885430629 → ¬ w = 1734437989 → ¬ w = 2002873452 → ¬ w = 1818321771 → ¬ w = 24948 → ¬ w = 6845797 → ¬ w = 1751738216 → ¬ w = 6840691 → ¬ w = 1718578283 → ¬ w = 1752132965 → ¬ w = 444200875891 → ¬ w = 439855506547 → ¬ w = 465726301555 → ¬ w = 474214787188 → ¬ w = 6383461 → ¬ w = 1819243380 → ¬ w = 1852137842 → ¬ w = 26982 → ¬ w = 28530 → ¬ w = 6385252 → ¬ w = 7237492 → ¬ w = 6384748 → ¬ w = 7170414 → w = 7168376 → aTm aT0 mem → P (some (.int 1)) mem) (h23 : ¬ w = 1903518073 → ¬ w = 25209 → ¬ w = 1885430629 → ¬ w = 1734437989 → ¬ w = 2002873452 → ¬ w = 1818321771 → ¬ w = 24948 → ¬ w = 6845797 → ¬ w = 1751738216 → ¬ w = 6840691 → ¬ w = 1718578283 → ¬ w = 1752132965 → ¬ w = 444200875891 → ¬ w = 439855506547 → ¬ w = 465726301555 → ¬ w = 474214787188 → ¬ w = 6383461 → ¬ w = 1819243380 → ¬ w = 1852137842 → ¬ w = 26982 → ¬ w = 28530 → ¬ w = 6385252 → ¬ w = 7237492 → ¬ w = 6384748 → w = 7170414 → aTm aT0 mem → P (some (.int 1)) mem) (h24 : ¬ w = 1903518073 → ¬ w = 25209 → ¬ w = 1885430629 → ¬ w = 1734437989 → ¬ w = 2002873452 → ¬ w = 1818321771 → ¬ w = 24948 → ¬ w = 6845797 → ¬ w = 1751738216 → ¬ w = 6840691 → ¬ w = 1718578283 → ¬ w = 1752132965 → ¬ w = 444200875891 → ¬ w = 439855506547 → ¬ w = 465726301555 → ¬ w = 474214787188 → ¬ w = 6383461 → ¬ w = 1819243380 → ¬ w = 1852137842 → w = 26982 → aTm aT0 mem → P (some (.int 1)) mem) (h25 : ¬ w = 1903518073 → ¬ w = 25209 → ¬ w = 1885430629 → ¬ w = 1734437989 → ¬ w = 2002873452 → ¬ w = 1818321771 → ¬ w = 24948 → ¬ w = 6845797 → ¬ w = 1751738216 → ¬ w = 6840691 → ¬ w = 1718578283 → ¬ w = 1752132965 → ¬ w = 444200875891 → ¬ w = 439855506547 → w = 465726301555 → aTm aT0 mem → P (some (.int 1)) mem) (h26 : ¬ w = 1903518073 → ¬ w = 25209 → ¬ w = 1885430629 → ¬ w = 1734437989 → ¬ w = 2002873452 → ¬ w = 1818321771 → ¬ w = 24948 → ¬ w = 6845797 → ¬ w = 1751738216 → w = 6840691 → aTm aT0 mem → P (some (.int 1)) mem) (h27 : ¬ w = 1903518073 → ¬ w = 25209 → ¬ w = 1885430629 → ¬ w = 1734437989 → w = 2002873452 → aTm aT0 mem → P (some (.int 1)) mem) : yR zpg tX12_isOwn d (0, [(0, .ref 221), (1, .long w)], [], mem) P := by
  refine yR_m 3 (fun _ _ _ _ => rfl) ?_
  refine wR_lf_eq rfl (fun q1 => ?_) (fun q1 => ?_)
  ·
    refine yR_m 1 (fun _ _ _ _ => rfl) ?_
    exact yR_rz rfl ⟨by decide, by decide⟩ (h1 q1 hm)
  ·
    refine yR_m 3 (fun _ _ _ _ => rfl) ?_
    refine wR_lf_eq rfl (fun q2 => ?_) (fun q2 => ?_)
    ·
      refine yR_m 1 (fun _ _ _ _ => rfl) ?_
      exact yR_rz rfl ⟨by decide, by decide⟩ (h2 q1 q2 hm)
    ·
      refine yR_m 3 (fun _ _ _ _ => rfl) ?_
      refine wR_lf_eq rfl (fun q3 => ?_) (fun q3 => ?_)
      ·
        refine yR_m 1 (fun _ _ _ _ => rfl) ?_
        exact yR_rz rfl ⟨by decide, by decide⟩ (h3 q1 q2 q3 hm)
      ·
        refine yR_m 3 (fun _ _ _ _ => rfl) ?_
        refine wR_lf_eq rfl (fun q4 => ?_) (fun q4 => ?_)
        ·
          refine yR_m 1 (fun _ _ _ _ => rfl) ?_
          exact yR_rz rfl ⟨by decide, by decide⟩ (h4 q1 q2 q3 q4 hm)
        ·
          refine yR_m 3 (fun _ _ _ _ => rfl) ?_
          refine wR_lf_ne rfl (fun q5 => ?_) (fun q5 => ?_)
          ·
            refine yR_m 3 (fun _ _ _ _ => rfl) ?_
            refine wR_lf_eq rfl (fun q6 => ?_) (fun q6 => ?_)
            ·
              refine yR_m 1 (fun _ _ _ _ => rfl) ?_
              exact yR_rz rfl ⟨by decide, by decide⟩ (h5 q1 q2 q3 q4 q5 q6 hm)
            ·
              refine yR_m 3 (fun _ _ _ _ => rfl) ?_
              refine wR_lf_eq rfl (fun q7 => ?_) (fun q7 => ?_)
              ·
                refine yR_m 1 (fun _ _ _ _ => rfl) ?_
                exact yR_rz rfl ⟨by decide, by decide⟩ (h6 q1 q2 q3 q4 q5 q6 q7 hm)
              ·
                refine yR_m 3 (fun _ _ _ _ => rfl) ?_
                refine wR_lf_eq rfl (fun q8 => ?_) (fun q8 => ?_)
                ·
                  refine yR_m 1 (fun _ _ _ _ => rfl) ?_
                  exact yR_rz rfl ⟨by decide, by decide⟩ (h7 q1 q2 q3 q4 q5 q6 q7 q8 hm)
                ·
                  refine yR_m 3 (fun _ _ _ _ => rfl) ?_
                  refine wR_lf_eq rfl (fun q9 => ?_) (fun q9 => ?_)
                  ·
                    refine yR_m 1 (fun _ _ _ _ => rfl) ?_
                    exact yR_rz rfl ⟨by decide, by decide⟩ (h8 q1 q2 q3 q4 q5 q6 q7 q8 q9 hm)
                  ·
                    refine yR_m 3 (fun _ _ _ _ => rfl) ?_
                    refine wR_lf_ne rfl (fun q10 => ?_) (fun q10 => ?_)
                    ·
                      refine yR_m 3 (fun _ _ _ _ => rfl) ?_
                      refine wR_lf_eq rfl (fun q11 => ?_) (fun q11 => ?_)
                      ·
                        refine yR_m 1 (fun _ _ _ _ => rfl) ?_
                        exact yR_rz rfl ⟨by decide, by decide⟩ (h9 q1 q2 q3 q4 q5 q6 q7 q8 q9 q10 q11 hm)
                      ·
                        refine yR_m 3 (fun _ _ _ _ => rfl) ?_
                        refine wR_lf_eq rfl (fun q12 => ?_) (fun q12 => ?_)
                        ·
                          refine yR_m 1 (fun _ _ _ _ => rfl) ?_
                          exact yR_rz rfl ⟨by decide, by decide⟩ (h10 q1 q2 q3 q4 q5 q6 q7 q8 q9 q10 q11 q12 hm)
                        ·
                          refine yR_m 3 (fun _ _ _ _ => rfl) ?_
                          refine wR_lf_eq rfl (fun q13 => ?_) (fun q13 => ?_)
                          ·
                            refine yR_m 1 (fun _ _ _ _ => rfl) ?_
                            exact yR_rz rfl ⟨by decide, by decide⟩ (h11 q1 q2 q3 q4 q5 q6 q7 q8 q9 q10 q11 q12 q13 hm)
                          ·
                            refine yR_m 3 (fun _ _ _ _ => rfl) ?_
                            refine wR_lf_eq rfl (fun q14 => ?_) (fun q14 => ?_)
                            ·
                              refine yR_m 1 (fun _ _ _ _ => rfl) ?_
                              exact yR_rz rfl ⟨by decide, by decide⟩ (h12 q1 q2 q3 q4 q5 q6 q7 q8 q9 q10 q11 q12 q13 q14 hm)
                            ·
                              refine yR_m 3 (fun _ _ _ _ => rfl) ?_
                              refine wR_lf_ne rfl (fun q15 => ?_) (fun q15 => ?_)
                              ·
                                refine yR_m 3 (fun _ _ _ _ => rfl) ?_
                                refine wR_lf_eq rfl (fun q16 => ?_) (fun q16 => ?_)
                                ·
                                  refine yR_m 1 (fun _ _ _ _ => rfl) ?_
                                  exact yR_rz rfl ⟨by decide, by decide⟩ (h13 q1 q2 q3 q4 q5 q6 q7 q8 q9 q10 q11 q12 q13 q14 q15 q16 hm)
                                ·
                                  refine yR_m 3 (fun _ _ _ _ => rfl) ?_
                                  refine wR_lf_eq rfl (fun q17 => ?_) (fun q17 => ?_)
                                  ·
                                    refine yR_m 1 (fun _ _ _ _ => rfl) ?_
                                    exact yR_rz rfl ⟨by decide, by decide⟩ (h14 q1 q2 q3 q4 q5 q6 q7 q8 q9 q10 q11 q12 q13 q14 q15 q16 q17 hm)
                                  ·
                                    refine yR_m 3 (fun _ _ _ _ => rfl) ?_
                                    refine wR_lf_eq rfl (fun q18 => ?_) (fun q18 => ?_)
                                    ·
                                      refine yR_m 1 (fun _ _ _ _ => rfl) ?_
                                      exact yR_rz rfl ⟨by decide, by decide⟩ (h15 q1 q2 q3 q4 q5 q6 q7 q8 q9 q10 q11 q12 q13 q14 q15 q16 q17 q18 hm)
                                    ·
                                      refine yR_m 3 (fun _ _ _ _ => rfl) ?_
                                      refine wR_lf_eq rfl (fun q19 => ?_) (fun q19 => ?_)
                                      ·
                                        refine yR_m 1 (fun _ _ _ _ => rfl) ?_
                                        exact yR_rz rfl ⟨by decide, by decide⟩ (h16 q1 q2 q3 q4 q5 q6 q7 q8 q9 q10 q11 q12 q13 q14 q15 q16 q17 q18 q19 hm)
                                      ·
                                        refine yR_m 3 (fun _ _ _ _ => rfl) ?_
                                        refine wR_lf_ne rfl (fun q20 => ?_) (fun q20 => ?_)
                                        ·
                                          refine yR_m 3 (fun _ _ _ _ => rfl) ?_
                                          refine wR_lf_eq rfl (fun q21 => ?_) (fun q21 => ?_)
                                          ·
                                            refine yR_m 1 (fun _ _ _ _ => rfl) ?_
                                            exact yR_rz rfl ⟨by decide, by decide⟩ (h17 q1 q2 q3 q4 q5 q6 q7 q8 q9 q10 q11 q12 q13 q14 q15 q16 q17 q18 q19 q20 q21 hm)
                                          ·
                                            refine yR_m 3 (fun _ _ _ _ => rfl) ?_
                                            refine wR_lf_eq rfl (fun q22 => ?_) (fun q22 => ?_)
                                            ·
                                              refine yR_m 1 (fun _ _ _ _ => rfl) ?_
                                              exact yR_rz rfl ⟨by decide, by decide⟩ (h18 q1 q2 q3 q4 q5 q6 q7 q8 q9 q10 q11 q12 q13 q14 q15 q16 q17 q18 q19 q20 q21 q22 hm)
                                            ·
                                              refine yR_m 3 (fun _ _ _ _ => rfl) ?_
                                              refine wR_lf_eq rfl (fun q23 => ?_) (fun q23 => ?_)
                                              ·
                                                refine yR_m 1 (fun _ _ _ _ => rfl) ?_
                                                exact yR_rz rfl ⟨by decide, by decide⟩ (h19 q1 q2 q3 q4 q5 q6 q7 q8 q9 q10 q11 q12 q13 q14 q15 q16 q17 q18 q19 q20 q21 q22 q23 hm)
                                              ·
                                                refine yR_m 3 (fun _ _ _ _ => rfl) ?_
                                                refine wR_lf_eq rfl (fun q24 => ?_) (fun q24 => ?_)
                                                ·
                                                  refine yR_m 1 (fun _ _ _ _ => rfl) ?_
                                                  exact yR_rz rfl ⟨by decide, by decide⟩ (h20 q1 q2 q3 q4 q5 q6 q7 q8 q9 q10 q11 q12 q13 q14 q15 q16 q17 q18 q19 q20 q21 q22 q23 q24 hm)
                                                ·
                                                  refine yR_m 3 (fun _ _ _ _ => rfl) ?_
                                                  refine wR_lf_ne rfl (fun q25 => ?_) (fun q25 => ?_)
                                                  ·
                                                    refine yR_m 3 (fun _ _ _ _ => rfl) ?_
                                                    refine wR_lf_ne rfl (fun q26 => ?_) (fun q26 => ?_)
                                                    ·
                                                      refine yR_m 1 (fun _ _ _ _ => rfl) ?_
                                                      exact yR_rz rfl ⟨by decide, by decide⟩ (h21 q1 q2 q3 q4 q5 q6 q7 q8 q9 q10 q11 q12 q13 q14 q15 q16 q17 q18 q19 q20 q21 q22 q23 q24 q25 q26 hm)
                                                    ·
                                                      refine yR_m 1 (fun _ _ _ _ => rfl) ?_
                                                      exact yR_rz rfl ⟨by decide, by decide⟩ (h22 q1 q2 q3 q4 q5 q6 q7 q8 q9 q10 q11 q12 q13 q14 q15 q16 q17 q18 q19 q20 q21 q22 q23 q24 q25 q26 hm)
                                                  ·
                                                    refine yR_m 1 (fun _ _ _ _ => rfl) ?_
                                                    exact yR_rz rfl ⟨by decide, by decide⟩ (h23 q1 q2 q3 q4 q5 q6 q7 q8 q9 q10 q11 q12 q13 q14 q15 q16 q17 q18 q19 q20 q21 q22 q23 q24 q25 hm)
                                        ·
                                          refine yR_m 1 (fun _ _ _ _ => rfl) ?_
                                          exact yR_rz rfl ⟨by decide, by decide⟩ (h24 q1 q2 q3 q4 q5 q6 q7 q8 q9 q10 q11 q12 q13 q14 q15 q16 q17 q18 q19 q20 hm)
                              ·
                                refine yR_m 1 (fun _ _ _ _ => rfl) ?_
                                exact yR_rz rfl ⟨by decide, by decide⟩ (h25 q1 q2 q3 q4 q5 q6 q7 q8 q9 q10 q11 q12 q13 q14 q15 hm)
                    ·
                      refine yR_m 1 (fun _ _ _ _ => rfl) ?_
                      exact yR_rz rfl ⟨by decide, by decide⟩ (h26 q1 q2 q3 q4 q5 q6 q7 q8 q9 q10 hm)
          ·
            refine yR_m 1 (fun _ _ _ _ => rfl) ?_
            exact yR_rz rfl ⟨by decide, by decide⟩ (h27 q1 q2 q3 q4 q5 hm)

set_option maxRecDepth 100000 in
theorem h_isOwnF (hm : aTm aT0 mem) (hd : 1 ≤ d) : yC zpg d 177 [.ref 221, .long w] mem (fun r m => ∃ v : Int32, r = some (.int v) ∧ mem = m ∧ ((v.toInt = 0 ∧ ∀ l ∈ ownW, ¬ w.toInt = wnl l) ∨ (v.toInt = 1 ∧ ∃ l, l ∈ ownW ∧ w.toInt = wnl l))) := by
  obtain ⟨d, rfl⟩ : ∃ q, d = q + 1 := ⟨d - 1, by omega⟩
  refine yC_of (t := tX12_isOwn) rfl rfl ?_
  exact w_iOF hm
        (fun q1 hm => ⟨_, rfl, rfl, Or.inr ⟨rfl, ownW.getD 0 [], by decide, by rw [q1]; decide⟩⟩)
        (fun q1 q2 hm => ⟨_, rfl, rfl, Or.inr ⟨rfl, ownW.getD 1 [], by decide, by rw [q2]; decide⟩⟩)
        (fun q1 q2 q3 hm => ⟨_, rfl, rfl, Or.inr ⟨rfl, ownW.getD 2 [], by decide, by rw [q3]; decide⟩⟩)
        (fun q1 q2 q3 q4 hm => ⟨_, rfl, rfl, Or.inr ⟨rfl, ownW.getD 3 [], by decide, by rw [q4]; decide⟩⟩)
        (fun q1 q2 q3 q4 q5 q6 hm => ⟨_, rfl, rfl, Or.inr ⟨rfl, ownW.getD 5 [], by decide, by rw [q6]; decide⟩⟩)
        (fun q1 q2 q3 q4 q5 q6 q7 hm => ⟨_, rfl, rfl, Or.inr ⟨rfl, ownW.getD 6 [], by decide, by rw [q7]; decide⟩⟩)
        (fun q1 q2 q3 q4 q5 q6 q7 q8 hm => ⟨_, rfl, rfl, Or.inr ⟨rfl, ownW.getD 7 [], by decide, by rw [q8]; decide⟩⟩)
        (fun q1 q2 q3 q4 q5 q6 q7 q8 q9 hm => ⟨_, rfl, rfl, Or.inr ⟨rfl, ownW.getD 8 [], by decide, by rw [q9]; decide⟩⟩)
        (fun q1 q2 q3 q4 q5 q6 q7 q8 q9 q10 q11 hm => ⟨_, rfl, rfl, Or.inr ⟨rfl, ownW.getD 10 [], by decide, by rw [q11]; decide⟩⟩)
        (fun q1 q2 q3 q4 q5 q6 q7 q8 q9 q10 q11 q12 hm => ⟨_, rfl, rfl, Or.inr ⟨rfl, ownW.getD 11 [], by decide, by rw [q12]; decide⟩⟩)
        (fun q1 q2 q3 q4 q5 q6 q7 q8 q9 q10 q11 q12 q13 hm => ⟨_, rfl, rfl, Or.inr ⟨rfl, ownW.getD 12 [], by decide, by rw [q13]; decide⟩⟩)
        (fun q1 q2 q3 q4 q5 q6 q7 q8 q9 q10 q11 q12 q13 q14 hm => ⟨_, rfl, rfl, Or.inr ⟨rfl, ownW.getD 13 [], by decide, by rw [q14]; decide⟩⟩)
        (fun q1 q2 q3 q4 q5 q6 q7 q8 q9 q10 q11 q12 q13 q14 q15 q16 hm => ⟨_, rfl, rfl, Or.inr ⟨rfl, ownW.getD 15 [], by decide, by rw [q16]; decide⟩⟩)
        (fun q1 q2 q3 q4 q5 q6 q7 q8 q9 q10 q11 q12 q13 q14 q15 q16 q17 hm => ⟨_, rfl, rfl, Or.inr ⟨rfl, ownW.getD 16 [], by decide, by rw [q17]; decide⟩⟩)
        (fun q1 q2 q3 q4 q5 q6 q7 q8 q9 q10 q11 q12 q13 q14 q15 q16 q17 q18 hm => ⟨_, rfl, rfl, Or.inr ⟨rfl, ownW.getD 17 [], by decide, by rw [q18]; decide⟩⟩)
        (fun q1 q2 q3 q4 q5 q6 q7 q8 q9 q10 q11 q12 q13 q14 q15 q16 q17 q18 q19 hm => ⟨_, rfl, rfl, Or.inr ⟨rfl, ownW.getD 18 [], by decide, by rw [q19]; decide⟩⟩)
        (fun q1 q2 q3 q4 q5 q6 q7 q8 q9 q10 q11 q12 q13 q14 q15 q16 q17 q18 q19 q20 q21 hm => ⟨_, rfl, rfl, Or.inr ⟨rfl, ownW.getD 20 [], by decide, by rw [q21]; decide⟩⟩)
        (fun q1 q2 q3 q4 q5 q6 q7 q8 q9 q10 q11 q12 q13 q14 q15 q16 q17 q18 q19 q20 q21 q22 hm => ⟨_, rfl, rfl, Or.inr ⟨rfl, ownW.getD 21 [], by decide, by rw [q22]; decide⟩⟩)
        (fun q1 q2 q3 q4 q5 q6 q7 q8 q9 q10 q11 q12 q13 q14 q15 q16 q17 q18 q19 q20 q21 q22 q23 hm => ⟨_, rfl, rfl, Or.inr ⟨rfl, ownW.getD 22 [], by decide, by rw [q23]; decide⟩⟩)
        (fun q1 q2 q3 q4 q5 q6 q7 q8 q9 q10 q11 q12 q13 q14 q15 q16 q17 q18 q19 q20 q21 q22 q23 q24 hm => ⟨_, rfl, rfl, Or.inr ⟨rfl, ownW.getD 23 [], by decide, by rw [q24]; decide⟩⟩)
        (fun q1 q2 q3 q4 q5 q6 q7 q8 q9 q10 q11 q12 q13 q14 q15 q16 q17 q18 q19 q20 q21 q22 q23 q24 q25 q26 hm => ⟨_, rfl, rfl, Or.inl ⟨rfl, fun l hl e => by
          simp only [ownW, List.mem_cons, List.not_mem_nil, or_false] at hl
          rcases hl with rfl | rfl | rfl | rfl | rfl | rfl | rfl | rfl | rfl | rfl | rfl | rfl | rfl | rfl | rfl | rfl | rfl | rfl | rfl | rfl | rfl | rfl | rfl | rfl | rfl | rfl
          · exact absurd (Int64.toInt_inj.1 e) q1
          · exact absurd (Int64.toInt_inj.1 e) q2
          · exact absurd (Int64.toInt_inj.1 e) q3
          · exact absurd (Int64.toInt_inj.1 e) q4
          · exact absurd (Int64.toInt_inj.1 e) q5
          · exact absurd (Int64.toInt_inj.1 e) q6
          · exact absurd (Int64.toInt_inj.1 e) q7
          · exact absurd (Int64.toInt_inj.1 e) q8
          · exact absurd (Int64.toInt_inj.1 e) q9
          · exact absurd (Int64.toInt_inj.1 e) q10
          · exact absurd (Int64.toInt_inj.1 e) q11
          · exact absurd (Int64.toInt_inj.1 e) q12
          · exact absurd (Int64.toInt_inj.1 e) q13
          · exact absurd (Int64.toInt_inj.1 e) q14
          · exact absurd (Int64.toInt_inj.1 e) q15
          · exact absurd (Int64.toInt_inj.1 e) q16
          · exact absurd (Int64.toInt_inj.1 e) q17
          · exact absurd (Int64.toInt_inj.1 e) q18
          · exact absurd (Int64.toInt_inj.1 e) q19
          · exact absurd (Int64.toInt_inj.1 e) q20
          · exact absurd (Int64.toInt_inj.1 e) q21
          · exact absurd (Int64.toInt_inj.1 e) q22
          · exact absurd (Int64.toInt_inj.1 e) q23
          · exact absurd (Int64.toInt_inj.1 e) q24
          · exact absurd (Int64.toInt_inj.1 e) q25
          · exact absurd (Int64.toInt_inj.1 e) q26⟩⟩)
        (fun q1 q2 q3 q4 q5 q6 q7 q8 q9 q10 q11 q12 q13 q14 q15 q16 q17 q18 q19 q20 q21 q22 q23 q24 q25 q26 hm => ⟨_, rfl, rfl, Or.inr ⟨rfl, ownW.getD 25 [], by decide, by rw [q26]; decide⟩⟩)
        (fun q1 q2 q3 q4 q5 q6 q7 q8 q9 q10 q11 q12 q13 q14 q15 q16 q17 q18 q19 q20 q21 q22 q23 q24 q25 hm => ⟨_, rfl, rfl, Or.inr ⟨rfl, ownW.getD 24 [], by decide, by rw [q25]; decide⟩⟩)
        (fun q1 q2 q3 q4 q5 q6 q7 q8 q9 q10 q11 q12 q13 q14 q15 q16 q17 q18 q19 q20 hm => ⟨_, rfl, rfl, Or.inr ⟨rfl, ownW.getD 19 [], by decide, by rw [q20]; decide⟩⟩)
        (fun q1 q2 q3 q4 q5 q6 q7 q8 q9 q10 q11 q12 q13 q14 q15 hm => ⟨_, rfl, rfl, Or.inr ⟨rfl, ownW.getD 14 [], by decide, by rw [q15]; decide⟩⟩)
        (fun q1 q2 q3 q4 q5 q6 q7 q8 q9 q10 hm => ⟨_, rfl, rfl, Or.inr ⟨rfl, ownW.getD 9 [], by decide, by rw [q10]; decide⟩⟩)
        (fun q1 q2 q3 q4 q5 hm => ⟨_, rfl, rfl, Or.inr ⟨rfl, ownW.getD 4 [], by decide, by rw [q5]; decide⟩⟩)
set_option maxRecDepth 100000 in
theorem w_tnF_42 {d : Nat} {mem : zM} {P : Option Value → zM → Prop} {w : Int64} {lo : List (Nat × Value)} (hm : aTm aT0 mem) (l_0 : zlg lo 0 = some (.ref 221)) (l_1 : zlg lo 1 = some (.long w)) (h1 : aTm aT0 mem → P (some (.int (-1))) mem) : yR zpg tX12_thingNamed (d + 1) (42, lo, [], mem) P := by
  obtain ⟨i0, i1⟩ := mO_r34 hm
  have th := gR_228 hm (i := (gi mem 221 34).toInt) i0 (by omega)
  refine yR_m 1 (fun _ _ _ _ => rfl) ?_
  exact yR_ri rfl (h1 hm)

theorem tnF_42 {lo : List (Nat × Value)} (hm : aTm aT0 mem) (hA : ∀ i, 0 ≤ i → i < gn (ga mem 228) (gi mem 221 34).toInt → ¬ gl (gA mem 240) (9 * (gi mem 221 34).toInt + i) = w) (a0 : zlg lo 0 = some (.ref 221)) (a1 : zlg lo 1 = some (.long w)) : yR zpg tX12_thingNamed (d + 1) (42, lo, [], mem) (fun r m => ∃ v : Int32, r = some (.int v) ∧ mem = m ∧ tnQ mem w v.toInt) := by
  exact w_tnF_42 hm a0 a1
        (fun  hm => ⟨_, rfl, rfl, Or.inl ⟨rfl, hA⟩⟩)
set_option maxRecDepth 100000 in
theorem w_tnF_2 {d : Nat} {mem : zM} {P : Option Value → zM → Prop} {w : Int64} {k : Int32} {lo : List (Nat × Value)} (hm : aTm aT0 mem) (l_0 : zlg lo 0 = some (.ref 221)) (l_1 : zlg lo 1 = some (.long w)) (l_3 : zlg lo 3 = some (.int k)) (hk : 0 ≤ k.toInt ∧ k.toInt ≤ 9) (h1 : ∀ (y1 : Int32), y1.toInt = (gn (ga mem 228) (gi mem 221 34).toInt) → (gn (ga mem 228) (gi mem 221 34).toInt) ≤ (k).toInt → ∀ lo, zlg lo 0 = some (.ref 221) → zlg lo 1 = some (.long w) → aTm aT0 mem → yR zpg tX12_thingNamed (d + 1) (42, lo, [], mem) P) (h2 : ∀ (y1 : Int32), y1.toInt = (gn (ga mem 228) (gi mem 221 34).toInt) → (k).toInt < (gn (ga mem 228) (gi mem 221 34).toInt) → ∀ (x4 : Int32), x4.toInt = (9 * (gi mem 221 34).toInt) → ∀ (x6 : Int32), x6.toInt = ((9 * (gi mem 221 34).toInt) + (k).toInt) → ¬ ((gA mem 240).getD (((9 * (gi mem 221 34).toInt) + (k).toInt) : Int).toNat 0) = w → ∀ (x9 : Int32), x9.toInt = ((k).toInt + 1) → ∀ lo, zlg lo 0 = some (.ref 221) → zlg lo 1 = some (.long w) → zlg lo 3 = some (.int x9) → aTm aT0 mem → yR zpg tX12_thingNamed (d + 1) (2, lo, [], mem) P) (h3 : ∀ (y1 : Int32), y1.toInt = (gn (ga mem 228) (gi mem 221 34).toInt) → (k).toInt < (gn (ga mem 228) (gi mem 221 34).toInt) → ∀ (x4 : Int32), x4.toInt = (9 * (gi mem 221 34).toInt) → ∀ (x6 : Int32), x6.toInt = ((9 * (gi mem 221 34).toInt) + (k).toInt) → ((gA mem 240).getD (((9 * (gi mem 221 34).toInt) + (k).toInt) : Int).toNat 0) = w → aTm aT0 mem → P (some (.int k)) mem) : yR zpg tX12_thingNamed (d + 1) (2, lo, [], mem) P := by
  obtain ⟨i0, i1⟩ := mO_r34 hm
  have th := gR_228 hm (i := (gi mem 221 34).toInt) i0 (by omega)
  refine wR_li rfl l_3 ?_
  refine wR_la rfl l_0 ?_
  refine wR_gr rfl mO_e mO_19 hm ?_
  refine wR_la rfl l_0 ?_
  refine wR_gi rfl mO_e mO_34 hm rfl ?_
  refine wN_al (a := (gi mem 221 34).toInt) rfl aR_228 hm rfl rfl (by omega) (fun y1 e2 => ?_)
  refine wR_ic_ge rfl (a := (k).toInt) (c := (gn (ga mem 228) (gi mem 221 34).toInt)) rfl e2 (fun q3 => ?_) (fun q3 => ?_)
  ·
    exact h1 y1 e2 q3 lo l_0 l_1 hm
  ·
    refine wR_la rfl l_0 ?_
    refine wR_gr rfl mO_e mO_31 hm ?_
    refine yR_m 1 (fun _ _ _ _ => rfl) ?_
    refine wR_la rfl l_0 ?_
    refine wR_gi rfl mO_e mO_34 hm rfl ?_
    refine wN_mul (a := 9) (b := (gi mem 221 34).toInt) rfl rfl rfl (by omega) (fun x4 e5 => ?_)
    refine wR_li rfl l_3 ?_
    refine wN_add (a := (9 * (gi mem 221 34).toInt)) (b := (k).toInt) rfl e5 rfl (by omega) (fun x6 e7 => ?_)
    refine wN_ll (a := ((9 * (gi mem 221 34).toInt) + (k).toInt)) rfl aR_240 hm rfl e7 (by omega) ?_
    refine wR_ll4 rfl l_1 ?_
    refine yR_m 1 (fun _ _ _ _ => rfl) ?_
    refine wR_lf_ne rfl (fun q8 => ?_) (fun q8 => ?_)
    ·
      refine wN_in (a := (k).toInt) (b := 1) rfl rfl l_3 rfl rfl (by omega) (fun x9 e10 => fun lo11 e12 f13 => ?_)
      have lo11_0 := f13 0 _ (by decide) (Or.inl rfl) l_0
      have lo11_1 := f13 1 _ (by decide) (Or.inr (by decide)) l_1
      exact yR_m 1 (fun _ _ _ _ => rfl) (h2 y1 e2 q3 x4 e5 x6 e7 q8 x9 e10 lo11 lo11_0 lo11_1 e12 hm)
    ·
      refine wR_li rfl l_3 ?_
      exact yR_ri rfl (h3 y1 e2 q3 x4 e5 x6 e7 q8 hm)

theorem tnF_2 (hm : aTm aT0 mem) : ∀ (f : Nat) (k : Int32) (lo : List (Nat × Value)), gn (ga mem 228) (gi mem 221 34).toInt ≤ k.toInt + (f : Int) → 0 ≤ k.toInt → k.toInt ≤ 9 → (∀ i, 0 ≤ i → i < k.toInt → ¬ gl (gA mem 240) (9 * (gi mem 221 34).toInt + i) = w) → zlg lo 0 = some (.ref 221) → zlg lo 1 = some (.long w) → zlg lo 3 = some (.int k) → yR zpg tX12_thingNamed (d + 1) (2, lo, [], mem) (fun r m => ∃ v : Int32, r = some (.int v) ∧ mem = m ∧ tnQ mem w v.toInt) := by
  have th := gR_228 hm (i := (gi mem 221 34).toInt) (mO_r34 hm).1 (by have := (mO_r34 hm).2; omega)
  intro f
  induction f with
  | zero =>
    intro k lo hf h0 h9 hA a0 a1 a3
    exact w_tnF_2 hm a0 a1 a3 ⟨h0, h9⟩
        (fun y1 e2 q3 lo a0 a1 hm => tnF_42 hm (fun i i0 i1 => hA i i0 (by omega)) a0 a1)
        (fun y1 e2 q3 x4 e5 x6 e7 q8 x9 e10 lo a0 a1 a3 hm => by exfalso; omega)
        (fun y1 e2 q3 x4 e5 x6 e7 q8 hm => ⟨_, rfl, rfl, Or.inr ⟨⟨by omega, by omega⟩, q8, hA⟩⟩)
  | succ f ih =>
    intro k lo hf h0 h9 hA a0 a1 a3
    exact w_tnF_2 hm a0 a1 a3 ⟨h0, h9⟩
        (fun y1 e2 q3 lo a0 a1 hm => tnF_42 hm (fun i i0 i1 => hA i i0 (by omega)) a0 a1)
        (fun y1 e2 q3 x4 e5 x6 e7 q8 x9 e10 lo a0 a1 a3 hm => ih _ lo (by omega) (by omega) (by omega) (fun i i0 i1 => by
          by_cases e : i = k.toInt
          · rw [e]; exact q8
          · exact hA i i0 (by omega)) a0 a1 a3)
        (fun y1 e2 q3 x4 e5 x6 e7 q8 hm => ⟨_, rfl, rfl, Or.inr ⟨⟨by omega, by omega⟩, q8, hA⟩⟩)
set_option maxRecDepth 100000 in
theorem w_tnF_0 {d : Nat} {mem : zM} {P : Option Value → zM → Prop} {w : Int64} {lo : List (Nat × Value)} (hm : aTm aT0 mem) (l_0 : zlg lo 0 = some (.ref 221)) (l_1 : zlg lo 1 = some (.long w)) (h1 : ∀ lo, zlg lo 0 = some (.ref 221) → zlg lo 1 = some (.long w) → zlg lo 3 = some (.int 0) → aTm aT0 mem → yR zpg tX12_thingNamed (d + 1) (2, lo, [], mem) P) : yR zpg tX12_thingNamed (d + 1) (0, lo, [], mem) P := by
  obtain ⟨i0, i1⟩ := mO_r34 hm
  have th := gR_228 hm (i := (gi mem 221 34).toInt) i0 (by omega)
  refine yR_m 1 (fun _ _ _ _ => rfl) ?_
  refine wR_si rfl rfl (fun lo1 e2 f3 => ?_)
  have lo1_0 := f3 0 _ (by decide) (Or.inl rfl) l_0
  have lo1_1 := f3 1 _ (by decide) (Or.inr (by decide)) l_1
  exact h1 lo1 lo1_0 lo1_1 e2 hm

theorem h_tnF (hm : aTm aT0 mem) (hd : 2 ≤ d) : yC zpg d 178 [.ref 221, .long w] mem (fun r m => ∃ v : Int32, r = some (.int v) ∧ mem = m ∧ tnQ mem w v.toInt) := by
  obtain ⟨d, rfl⟩ : ∃ q, d = q + 2 := ⟨d - 2, by omega⟩
  refine yC_of (t := tX12_thingNamed) rfl rfl ?_
  exact w_tnF_0 hm rfl rfl
        (fun  lo a0 a1 a3 hm => tnF_2 hm 9 _ lo (by have := gR_228 hm (i := (gi mem 221 34).toInt) (mO_r34 hm).1 (by have := (mO_r34 hm).2; omega); show _ ≤ 0 + 9; omega) (by decide) (by decide) (fun i i0 i1 => by exfalso; have e : Int32.toInt 0 = 0 := rfl; omega) a0 a1 a3)
set_option maxRecDepth 100000 in
theorem w_inF_42 {d : Nat} {mem : zM} {P : Option Value → zM → Prop} {w : Int64} {lo : List (Nat × Value)} (hm : aTm aT0 mem) (l_0 : zlg lo 0 = some (.ref 221)) (l_1 : zlg lo 1 = some (.long w)) (h1 : ∀ (v1 : Int32), tnQ mem w v1.toInt → (v1).toInt = (-1) → aTm aT0 mem → P (some (.int 0)) mem) (h2 : ∀ (v1 : Int32), tnQ mem w v1.toInt → ¬ (v1).toInt = (-1) → aTm aT0 mem → P (some (.int 1)) mem) : yR zpg tX12_isNamed (d + 2) (42, lo, [], mem) P := by
  obtain ⟨i0, i1⟩ := mO_r34 hm
  have fh := gR_233 hm (i := (gi mem 221 34).toInt) i0 (by omega)
  refine wR_la rfl l_0 ?_
  refine wR_ll4 rfl l_1 ?_
  refine wR_cv rfl rfl mO_e hm rfl (h_tnF hm (by omega)) ?_
  rintro _ _ ⟨v1, rfl, rfl, k2⟩
  show yR zpg tX12_isNamed (d + 2) (47, lo, [.int v1], mem) _
  refine yR_m 1 (fun _ _ _ _ => rfl) ?_
  refine wR_ic_eq rfl (a := (v1).toInt) (c := (-1)) rfl tm1 (fun q3 => ?_) (fun q3 => ?_)
  ·
    refine yR_m 1 (fun _ _ _ _ => rfl) ?_
    exact yR_rz rfl ⟨by decide, by decide⟩ (h1 v1 k2 q3 hm)
  ·
    refine yR_m 2 (fun _ _ _ _ => rfl) ?_
    exact yR_rz rfl ⟨by decide, by decide⟩ (h2 v1 k2 q3 hm)

theorem inF_42 {lo : List (Nat × Value)} (hm : aTm aT0 mem) (hA : ∀ i, 0 ≤ i → i < gn (ga mem 233) (gi mem 221 34).toInt → ¬ gl (gA mem 241) (6 * (gi mem 221 34).toInt + i) = w) (a0 : zlg lo 0 = some (.ref 221)) (a1 : zlg lo 1 = some (.long w)) : yR zpg tX12_isNamed (d + 2) (42, lo, [], mem) (fun r m => ∃ v : Int32, r = some (.int v) ∧ mem = m ∧ inQ mem w v.toInt) := by
  exact w_inF_42 hm a0 a1
        (fun v1 k2 q3 hm => by
          rcases k2 with ⟨-, w⟩ | ⟨⟨w, -⟩, -⟩
          · exact ⟨_, rfl, rfl, Or.inl ⟨rfl, hA, w⟩⟩
          · exfalso; omega)
        (fun v1 k2 q3 hm => by
          rcases k2 with ⟨w, -⟩ | ⟨⟨w1, w2⟩, w3, -⟩
          · exfalso; omega
          · exact ⟨_, rfl, rfl, Or.inr ⟨rfl, Or.inr ⟨_, w1, w2, w3⟩⟩⟩)
set_option maxRecDepth 100000 in
theorem w_inF_2 {d : Nat} {mem : zM} {P : Option Value → zM → Prop} {w : Int64} {k : Int32} {lo : List (Nat × Value)} (hm : aTm aT0 mem) (l_0 : zlg lo 0 = some (.ref 221)) (l_1 : zlg lo 1 = some (.long w)) (l_3 : zlg lo 3 = some (.int k)) (hk : 0 ≤ k.toInt ∧ k.toInt ≤ 6) (h1 : ∀ (y1 : Int32), y1.toInt = (gn (ga mem 233) (gi mem 221 34).toInt) → (gn (ga mem 233) (gi mem 221 34).toInt) ≤ (k).toInt → ∀ lo, zlg lo 0 = some (.ref 221) → zlg lo 1 = some (.long w) → aTm aT0 mem → yR zpg tX12_isNamed (d + 2) (42, lo, [], mem) P) (h2 : ∀ (y1 : Int32), y1.toInt = (gn (ga mem 233) (gi mem 221 34).toInt) → (k).toInt < (gn (ga mem 233) (gi mem 221 34).toInt) → ∀ (x4 : Int32), x4.toInt = (6 * (gi mem 221 34).toInt) → ∀ (x6 : Int32), x6.toInt = ((6 * (gi mem 221 34).toInt) + (k).toInt) → ¬ ((gA mem 241).getD (((6 * (gi mem 221 34).toInt) + (k).toInt) : Int).toNat 0) = w → ∀ (x9 : Int32), x9.toInt = ((k).toInt + 1) → ∀ lo, zlg lo 0 = some (.ref 221) → zlg lo 1 = some (.long w) → zlg lo 3 = some (.int x9) → aTm aT0 mem → yR zpg tX12_isNamed (d + 2) (2, lo, [], mem) P) (h3 : ∀ (y1 : Int32), y1.toInt = (gn (ga mem 233) (gi mem 221 34).toInt) → (k).toInt < (gn (ga mem 233) (gi mem 221 34).toInt) → ∀ (x4 : Int32), x4.toInt = (6 * (gi mem 221 34).toInt) → ∀ (x6 : Int32), x6.toInt = ((6 * (gi mem 221 34).toInt) + (k).toInt) → ((gA mem 241).getD (((6 * (gi mem 221 34).toInt) + (k).toInt) : Int).toNat 0) = w → aTm aT0 mem → P (some (.int 1)) mem) : yR zpg tX12_isNamed (d + 2) (2, lo, [], mem) P := by
  obtain ⟨i0, i1⟩ := mO_r34 hm
  have fh := gR_233 hm (i := (gi mem 221 34).toInt) i0 (by omega)
  refine wR_li rfl l_3 ?_
  refine wR_la rfl l_0 ?_
  refine wR_gr rfl mO_e mO_24 hm ?_
  refine wR_la rfl l_0 ?_
  refine wR_gi rfl mO_e mO_34 hm rfl ?_
  refine wN_al (a := (gi mem 221 34).toInt) rfl aR_233 hm rfl rfl (by omega) (fun y1 e2 => ?_)
  refine wR_ic_ge rfl (a := (k).toInt) (c := (gn (ga mem 233) (gi mem 221 34).toInt)) rfl e2 (fun q3 => ?_) (fun q3 => ?_)
  ·
    exact h1 y1 e2 q3 lo l_0 l_1 hm
  ·
    refine wR_la rfl l_0 ?_
    refine wR_gr rfl mO_e mO_32 hm ?_
    refine yR_m 1 (fun _ _ _ _ => rfl) ?_
    refine wR_la rfl l_0 ?_
    refine wR_gi rfl mO_e mO_34 hm rfl ?_
    refine wN_mul (a := 6) (b := (gi mem 221 34).toInt) rfl rfl rfl (by omega) (fun x4 e5 => ?_)
    refine wR_li rfl l_3 ?_
    refine wN_add (a := (6 * (gi mem 221 34).toInt)) (b := (k).toInt) rfl e5 rfl (by omega) (fun x6 e7 => ?_)
    refine wN_ll (a := ((6 * (gi mem 221 34).toInt) + (k).toInt)) rfl aR_241 hm rfl e7 (by omega) ?_
    refine wR_ll4 rfl l_1 ?_
    refine yR_m 1 (fun _ _ _ _ => rfl) ?_
    refine wR_lf_ne rfl (fun q8 => ?_) (fun q8 => ?_)
    ·
      refine wN_in (a := (k).toInt) (b := 1) rfl rfl l_3 rfl rfl (by omega) (fun x9 e10 => fun lo11 e12 f13 => ?_)
      have lo11_0 := f13 0 _ (by decide) (Or.inl rfl) l_0
      have lo11_1 := f13 1 _ (by decide) (Or.inr (by decide)) l_1
      exact yR_m 1 (fun _ _ _ _ => rfl) (h2 y1 e2 q3 x4 e5 x6 e7 q8 x9 e10 lo11 lo11_0 lo11_1 e12 hm)
    ·
      refine yR_m 1 (fun _ _ _ _ => rfl) ?_
      exact yR_rz rfl ⟨by decide, by decide⟩ (h3 y1 e2 q3 x4 e5 x6 e7 q8 hm)

theorem inF_2 (hm : aTm aT0 mem) : ∀ (f : Nat) (k : Int32) (lo : List (Nat × Value)), gn (ga mem 233) (gi mem 221 34).toInt ≤ k.toInt + (f : Int) → 0 ≤ k.toInt → k.toInt ≤ 6 → (∀ i, 0 ≤ i → i < k.toInt → ¬ gl (gA mem 241) (6 * (gi mem 221 34).toInt + i) = w) → zlg lo 0 = some (.ref 221) → zlg lo 1 = some (.long w) → zlg lo 3 = some (.int k) → yR zpg tX12_isNamed (d + 2) (2, lo, [], mem) (fun r m => ∃ v : Int32, r = some (.int v) ∧ mem = m ∧ inQ mem w v.toInt) := by
  have fh := gR_233 hm (i := (gi mem 221 34).toInt) (mO_r34 hm).1 (by have := (mO_r34 hm).2; omega)
  intro f
  induction f with
  | zero =>
    intro k lo hf h0 h9 hA a0 a1 a3
    exact w_inF_2 hm a0 a1 a3 ⟨h0, h9⟩
        (fun y1 e2 q3 lo a0 a1 hm => inF_42 hm (fun i i0 i1 => hA i i0 (by omega)) a0 a1)
        (fun y1 e2 q3 x4 e5 x6 e7 q8 x9 e10 lo a0 a1 a3 hm => by exfalso; omega)
        (fun y1 e2 q3 x4 e5 x6 e7 q8 hm => ⟨_, rfl, rfl, Or.inr ⟨rfl, Or.inl ⟨k.toInt, by omega, by omega, q8⟩⟩⟩)
  | succ f ih =>
    intro k lo hf h0 h9 hA a0 a1 a3
    exact w_inF_2 hm a0 a1 a3 ⟨h0, h9⟩
        (fun y1 e2 q3 lo a0 a1 hm => inF_42 hm (fun i i0 i1 => hA i i0 (by omega)) a0 a1)
        (fun y1 e2 q3 x4 e5 x6 e7 q8 x9 e10 lo a0 a1 a3 hm => ih _ lo (by omega) (by omega) (by omega) (fun i i0 i1 => by
          by_cases e : i = k.toInt
          · rw [e]; exact q8
          · exact hA i i0 (by omega)) a0 a1 a3)
        (fun y1 e2 q3 x4 e5 x6 e7 q8 hm => ⟨_, rfl, rfl, Or.inr ⟨rfl, Or.inl ⟨k.toInt, by omega, by omega, q8⟩⟩⟩)
set_option maxRecDepth 100000 in
theorem w_inF_0 {d : Nat} {mem : zM} {P : Option Value → zM → Prop} {w : Int64} {lo : List (Nat × Value)} (hm : aTm aT0 mem) (l_0 : zlg lo 0 = some (.ref 221)) (l_1 : zlg lo 1 = some (.long w)) (h1 : ∀ lo, zlg lo 0 = some (.ref 221) → zlg lo 1 = some (.long w) → zlg lo 3 = some (.int 0) → aTm aT0 mem → yR zpg tX12_isNamed (d + 2) (2, lo, [], mem) P) : yR zpg tX12_isNamed (d + 2) (0, lo, [], mem) P := by
  obtain ⟨i0, i1⟩ := mO_r34 hm
  have fh := gR_233 hm (i := (gi mem 221 34).toInt) i0 (by omega)
  refine yR_m 1 (fun _ _ _ _ => rfl) ?_
  refine wR_si rfl rfl (fun lo1 e2 f3 => ?_)
  have lo1_0 := f3 0 _ (by decide) (Or.inl rfl) l_0
  have lo1_1 := f3 1 _ (by decide) (Or.inr (by decide)) l_1
  exact h1 lo1 lo1_0 lo1_1 e2 hm

theorem h_inF (hm : aTm aT0 mem) (hd : 3 ≤ d) : yC zpg d 179 [.ref 221, .long w] mem (fun r m => ∃ v : Int32, r = some (.int v) ∧ mem = m ∧ inQ mem w v.toInt) := by
  obtain ⟨d, rfl⟩ : ∃ q, d = q + 3 := ⟨d - 3, by omega⟩
  refine yC_of (t := tX12_isNamed) rfl rfl ?_
  exact w_inF_0 hm rfl rfl
        (fun  lo a0 a1 a3 hm => inF_2 hm 6 _ lo (by have := gR_233 hm (i := (gi mem 221 34).toInt) (mO_r34 hm).1 (by have := (mO_r34 hm).2; omega); show _ ≤ 0 + 6; omega) (by decide) (by decide) (fun i i0 i1 => by exfalso; have e : Int32.toInt 0 = 0 := rfl; omega) a0 a1 a3)
end NF
