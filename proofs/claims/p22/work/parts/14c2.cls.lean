abbrev c0_X11_status : aCt := (143, [.inr (some [0]), .inl (-2147483648, 2147483647)], some (.inl (-2147483648, 2147483647)))
def a0_X11_status_0 : List (Nat × aF) := [(0, a_ldi 1 1), (1, a_if c_lt c_ge 3 19), (4, a_ldi 1 1), (5, a_pi (6) 2), (7, a_ic d_ge d_lt 3 19), (10, a_lda 0 1), (11, a_gf aT0 11 14 (.inr (some [220]))), (14, a_ldi 1 1), (15, a_al aT0 0 (-2147483648, 2147483647)), (16, a_gt 20), (19, a_pi (-1) 1), (20, a_ri false)]
theorem p0_X11_status_0 {E : zM → Prop} (h : aH0 E) : aP0 (aΘ0 E) 0 tX11_status_0 a0_X11_status_0 := ⟨rfl, aok_ldi, rfl, aok_if si_lt, rfl, aok_ldi, rfl, aok_pi rfl, rfl, aok_ic sj_ge, rfl, aok_lda, rfl, aok_gf, rfl, aok_ldi, rfl, aok_al, rfl, aok_gt, rfl, aok_pi rfl, rfl, aok_ri, trivial⟩
def b0_X11_status : aTb := [(100000, a0_X11_status_0)]
theorem q0_X11_status {E : zM → Prop} (h : aH0 E) : aP1 (aΘ0 E) 0 tX11_status b0_X11_status := ⟨rfl, p0_X11_status_0 h, trivial⟩
def n0_X11_status : List aNd := []
theorem k0_X11_status {E : zM → Prop} (h : aH0 E) : aCv (aΘ0 E) 1 c0_X11_status := aMeth (D := 0) (c := c0_X11_status) (tb := b0_X11_status) (ns := n0_X11_status) (fuel := 3000) rfl (q0_X11_status h) (by decide +kernel)
