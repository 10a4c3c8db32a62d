/-! feed and end of both sides: the counts of the tapes -/
section TP
variable {d : Nat} {mr mem : zM}
def frX (a b : zM) : Prop := (∀ k, ((1 ≤ k ∧ k ≤ 30) ∨ (181 ≤ k ∧ k ≤ 219) ∨ 221 ≤ k) → zat b k = zat a k) ∧ ∀ i, ¬ i = 1 → ¬ i = 15 → zfl b 0 i = zfl a 0 i
theorem frX_rf {m : zM} : frX m m := ⟨fun _ _ => rfl, fun _ _ _ => rfl⟩
theorem frX_sv {m : zM} {k i : Nat} {v : Value} (hk : (k = 0 ∧ (i = 1 ∨ i = 15)) ∨ (30 < k ∧ k < 181) ∨ k = 220) (h : frX mr m) : frX mr (sv m k i v) := ⟨fun q hq => by
  rw [zat_sv_ne (by omega)]; exact h.1 q hq, fun j h1 h2 => (zfl_sv_ne (by omega)).trans (h.2 j h1 h2)⟩
theorem frX_sa {m : zM} {k j : Nat} {x : Int32} (hk : (30 < k ∧ k < 181) ∨ k = 220) (h : frX mr m) : frX mr (sa m k j x) := ⟨fun q hq => by
  rw [zat_sa_ne (by omega)]; exact h.1 q hq, fun j h1 h2 => zfl_sa.trans (h.2 j h1 h2)⟩
theorem frK_X {a b : zM} (h : frK a b) : frX a b := ⟨h.1, fun i _ h2 => h.2 i h2⟩
/-- end's answer, and the count behind it -/
def enA (k : Nat) (x : Int32) (mem : zM) (r : Option Value) (m : zM) : Prop := ((0 ≤ x.toInt ∧ x.toInt ≤ (gi mem k 1).toInt) ∧ r = some (.int 1) ∧ gi m k 1 = x) ∨ (¬ (0 ≤ x.toInt ∧ x.toInt ≤ (gi mem k 1).toInt) ∧ r = some (.int 0) ∧ gi m k 1 = gi mem k 1)
set_option maxRecDepth 100000 in
theorem w_en_c {d : Nat} {mem : zM} {P : Option Value → zM → Prop} {x : Int32} (hm : aTm aT0 mem) (h1 : (x).toInt < 0 → ∀ (y2 : Int32), y2.toInt = (gn (ga mem 220) 0) → aTm aT0 (sx mem 220 0 (y2 + 1)) → P (some (.int 0)) (sx mem 220 0 (y2 + 1))) (h2 : 0 ≤ (x).toInt → (x).toInt ≤ (gi mem 0 1).toInt → aTm aT0 (si mem 0 1 x) → P (some (.int 1)) (si mem 0 1 x)) (h3 : 0 ≤ (x).toInt → (gi mem 0 1).toInt < (x).toInt → ∀ (y5 : Int32), y5.toInt = (gn (ga mem 220) 0) → aTm aT0 (sx mem 220 0 (y5 + 1)) → P (some (.int 0)) (sx mem 220 0 (y5 + 1))) : yR zpg tX11_end (d + 1) (0, [(0, .ref 0), (1, .int x)], [], mem) P := by
  have r1 := cO_r1 hm
  refine yR_m 1 (fun _ _ _ _ => rfl) ?_
  refine wR_if_lt rfl (a := (x).toInt) rfl (fun q1 => ?_) (fun q1 => ?_)
  ·
    refine yR_m 2 (fun _ _ _ _ => rfl) ?_
    refine wR_iv rfl rfl cO_e hm rfl rfl rfl rfl ?_
    show yR zpg tX11_refused d (0, [(0, .ref 0), (1, .int 0)], [], mem) _
    refine yR_m 1 (fun _ _ _ _ => rfl) ?_
    refine wR_gr rfl cO_e cO_14 hm ?_
    refine yR_m 2 (fun _ _ _ _ => rfl) ?_
    refine wN_al (a := 0) rfl aR_220 hm rfl rfl (by decide) (fun y2 e3 => ?_)
    refine yR_m 2 (fun _ _ _ _ => rfl) ?_
    refine wN_as (a := 0) rfl aR_220 hm rfl (by decide) ?_
    have hm_1 : aTm aT0 (sx mem 220 0 (y2 + 1)) := tm_sa aR_220 hm (i32_b _)
    refine yR_m 1 (fun _ _ _ _ => rfl) ?_
    refine yR_rz rfl ⟨by decide, by decide⟩ ?_
    show yR zpg tX11_end (d + 1) (17, [(0, .ref 0), (1, .int x)], [.int 0], (sx mem 220 0 (y2 + 1))) _
    exact yR_rz rfl ⟨by decide, by decide⟩ (h1 q1 y2 e3 hm_1)
  ·
    refine yR_m 2 (fun _ _ _ _ => rfl) ?_
    refine wR_gi rfl cO_e cO_1 hm rfl ?_
    refine wR_ic_le rfl (a := (x).toInt) (c := (gi mem 0 1).toInt) rfl rfl (fun q4 => ?_) (fun q4 => ?_)
    ·
      refine yR_m 2 (fun _ _ _ _ => rfl) ?_
      refine wR_pi rfl cO_e cO_1 hm rfl ?_
      have hm_2 : aTm aT0 (si mem 0 1 x) := tm_si cO_e cO_1 hm (by omega)
      refine yR_m 1 (fun _ _ _ _ => rfl) ?_
      exact yR_rz rfl ⟨by decide, by decide⟩ (h2 q1 q4 hm_2)
    ·
      refine yR_m 2 (fun _ _ _ _ => rfl) ?_
      refine wR_iv rfl rfl cO_e hm rfl rfl rfl rfl ?_
      show yR zpg tX11_refused d (0, [(0, .ref 0), (1, .int 0)], [], mem) _
      refine yR_m 1 (fun _ _ _ _ => rfl) ?_
      refine wR_gr rfl cO_e cO_14 hm ?_
      refine yR_m 2 (fun _ _ _ _ => rfl) ?_
      refine wN_al (a := 0) rfl aR_220 hm rfl rfl (by decide) (fun y5 e6 => ?_)
      refine yR_m 2 (fun _ _ _ _ => rfl) ?_
      refine wN_as (a := 0) rfl aR_220 hm rfl (by decide) ?_
      have hm_3 : aTm aT0 (sx mem 220 0 (y5 + 1)) := tm_sa aR_220 hm (i32_b _)
      refine yR_m 1 (fun _ _ _ _ => rfl) ?_
      refine yR_rz rfl ⟨by decide, by decide⟩ ?_
      show yR zpg tX11_end (d + 1) (17, [(0, .ref 0), (1, .int x)], [.int 0], (sx mem 220 0 (y5 + 1))) _
      exact yR_rz rfl ⟨by decide, by decide⟩ (h3 q1 q4 y5 e6 hm_3)

theorem h_end_c {x : Int32} (hm : aTm aT0 mem) (hd : 2 ≤ d) : yC zpg d 113 [.ref 0, .int x] mem (fun r m => enA 0 x mem r m ∧ aTm aT0 m ∧ frX mem m) := by
  obtain ⟨d, rfl⟩ : ∃ q, d = q + 2 := ⟨d - 2, by omega⟩
  refine yC_of (t := tX11_end) rfl rfl ?_
  exact w_en_c hm
        (fun q1 y2 e3 hm2 => ⟨Or.inr ⟨by omega, rfl, (gi_sa)⟩, hm2, frX_sa (by decide) (frX_rf)⟩)
        (fun q1 q4 hm2 => ⟨Or.inl ⟨⟨by omega, by omega⟩, rfl, (gi_si_eq cO_e cO_1 hm)⟩, hm2, frX_sv (by decide) (frX_rf)⟩)
        (fun q1 q4 y5 e6 hm2 => ⟨Or.inr ⟨by omega, rfl, (gi_sa)⟩, hm2, frX_sa (by decide) (frX_rf)⟩)
set_option maxRecDepth 100000 in
theorem w_en_m {d : Nat} {mem : zM} {P : Option Value → zM → Prop} {x : Int32} (hm : aTm aT0 mem) (h1 : (x).toInt < 0 → ∀ (y2 : Int32), y2.toInt = (gn (ga mem 248) 0) → aTm aT0 (sx mem 248 0 (y2 + 1)) → P (some (.int 0)) (sx mem 248 0 (y2 + 1))) (h2 : 0 ≤ (x).toInt → (x).toInt ≤ (gi mem 221 1).toInt → aTm aT0 (si mem 221 1 x) → P (some (.int 1)) (si mem 221 1 x)) (h3 : 0 ≤ (x).toInt → (gi mem 221 1).toInt < (x).toInt → ∀ (y5 : Int32), y5.toInt = (gn (ga mem 248) 0) → aTm aT0 (sx mem 248 0 (y5 + 1)) → P (some (.int 0)) (sx mem 248 0 (y5 + 1))) : yR zpg tX12_end (d + 1) (0, [(0, .ref 221), (1, .int x)], [], mem) P := by
  have r1 := mO_r1 hm
  refine yR_m 1 (fun _ _ _ _ => rfl) ?_
  refine wR_if_lt rfl (a := (x).toInt) rfl (fun q1 => ?_) (fun q1 => ?_)
  ·
    refine yR_m 2 (fun _ _ _ _ => rfl) ?_
    refine wR_iv rfl rfl mO_e hm rfl rfl rfl rfl ?_
    show yR zpg tX12_refuses d (0, [(0, .ref 221), (1, .int 0)], [], mem) _
    refine yR_m 1 (fun _ _ _ _ => rfl) ?_
    refine wR_gr rfl mO_e mO_47 hm ?_
    refine yR_m 2 (fun _ _ _ _ => rfl) ?_
    refine wN_al (a := 0) rfl aR_248 hm rfl rfl (by decide) (fun y2 e3 => ?_)
    refine yR_m 2 (fun _ _ _ _ => rfl) ?_
    refine wN_as (a := 0) rfl aR_248 hm rfl (by decide) ?_
    have hm_1 : aTm aT0 (sx mem 248 0 (y2 + 1)) := tm_sa aR_248 hm (i32_b _)
    refine yR_m 1 (fun _ _ _ _ => rfl) ?_
    refine yR_ri rfl ?_
    show yR zpg tX12_end (d + 1) (17, [(0, .ref 221), (1, .int x)], [.int (-1)], (sx mem 248 0 (y2 + 1))) _
    refine wR_if_lt rfl (a := (-1)) tm1 (fun _ => ?_) (fun q => by exfalso; omega)
    refine yR_m 1 (fun _ _ _ _ => rfl) ?_
    exact yR_rz rfl ⟨by decide, by decide⟩ (h1 q1 y2 e3 hm_1)
  ·
    refine yR_m 2 (fun _ _ _ _ => rfl) ?_
    refine wR_gi rfl mO_e mO_1 hm rfl ?_
    refine wR_ic_le rfl (a := (x).toInt) (c := (gi mem 221 1).toInt) rfl rfl (fun q4 => ?_) (fun q4 => ?_)
    ·
      refine yR_m 2 (fun _ _ _ _ => rfl) ?_
      refine wR_pi rfl mO_e mO_1 hm rfl ?_
      have hm_2 : aTm aT0 (si mem 221 1 x) := tm_si mO_e mO_1 hm (by omega)
      refine yR_m 1 (fun _ _ _ _ => rfl) ?_
      exact yR_rz rfl ⟨by decide, by decide⟩ (h2 q1 q4 hm_2)
    ·
      refine yR_m 2 (fun _ _ _ _ => rfl) ?_
      refine wR_iv rfl rfl mO_e hm rfl rfl rfl rfl ?_
      show yR zpg tX12_refuses d (0, [(0, .ref 221), (1, .int 0)], [], mem) _
      refine yR_m 1 (fun _ _ _ _ => rfl) ?_
      refine wR_gr rfl mO_e mO_47 hm ?_
      refine yR_m 2 (fun _ _ _ _ => rfl) ?_
      refine wN_al (a := 0) rfl aR_248 hm rfl rfl (by decide) (fun y5 e6 => ?_)
      refine yR_m 2 (fun _ _ _ _ => rfl) ?_
      refine wN_as (a := 0) rfl aR_248 hm rfl (by decide) ?_
      have hm_3 : aTm aT0 (sx mem 248 0 (y5 + 1)) := tm_sa aR_248 hm (i32_b _)
      refine yR_m 1 (fun _ _ _ _ => rfl) ?_
      refine yR_ri rfl ?_
      show yR zpg tX12_end (d + 1) (17, [(0, .ref 221), (1, .int x)], [.int (-1)], (sx mem 248 0 (y5 + 1))) _
      refine wR_if_lt rfl (a := (-1)) tm1 (fun _ => ?_) (fun q => by exfalso; omega)
      refine yR_m 1 (fun _ _ _ _ => rfl) ?_
      exact yR_rz rfl ⟨by decide, by decide⟩ (h3 q1 q4 y5 e6 hm_3)

theorem h_end_m {x : Int32} (hm : aTm aT0 mem) (hd : 2 ≤ d) : yC zpg d 168 [.ref 221, .int x] mem (fun r m => enA 221 x mem r m ∧ aTm aT0 m ∧ fr [248] [1] mem m) := by
  obtain ⟨d, rfl⟩ : ∃ q, d = q + 2 := ⟨d - 2, by omega⟩
  refine yC_of (t := tX12_end) rfl rfl ?_
  exact w_en_m hm
        (fun q1 y2 e3 hm2 => ⟨Or.inr ⟨by omega, rfl, (gi_sa)⟩, hm2, fr_sa rfl (fr_rf)⟩)
        (fun q1 q4 hm2 => ⟨Or.inl ⟨⟨by omega, by omega⟩, rfl, (gi_si_eq mO_e mO_1 hm)⟩, hm2, fr_sv rfl (fr_rf)⟩)
        (fun q1 q4 y5 e6 hm2 => ⟨Or.inr ⟨by omega, rfl, (gi_sa)⟩, hm2, fr_sa rfl (fr_rf)⟩)
set_option maxRecDepth 100000 in
theorem w_fd_c {d : Nat} {mem : zM} {P : Option Value → zM → Prop} {a1 a2 a3 a4 a5 : Int32} (hm : aTm aT0 mem) (h1 : ∀ (x1 : Int32), x1.toInt = ((gi mem 0 1).toInt + 20) → ((gi mem 0 1).toInt + 20) ≤ 1600 → aTm aT0 mem → yR zpg tX11_feed (d + 1) (19, [(0, .ref 0), (1, .int a1), (2, .int a2), (3, .int a3), (4, .int a4), (5, .int a5)], [], mem) P) (h2 : ∀ (x1 : Int32), x1.toInt = ((gi mem 0 1).toInt + 20) → 1600 < ((gi mem 0 1).toInt + 20) → ∀ (y4 : Int32), y4.toInt = (gn (ga mem 220) 0) → aTm aT0 (sx mem 220 0 (y4 + 1)) → P (some (.int (-1))) (sx mem 220 0 (y4 + 1))) : yR zpg tX11_feed (d + 1) (0, [(0, .ref 0), (1, .int a1), (2, .int a2), (3, .int a3), (4, .int a4), (5, .int a5)], [], mem) P := by
  have r1 := cO_r1 hm
  refine yR_m 1 (fun _ _ _ _ => rfl) ?_
  refine wR_gi rfl cO_e cO_1 hm rfl ?_
  refine yR_m 1 (fun _ _ _ _ => rfl) ?_
  refine wN_add (a := (gi mem 0 1).toInt) (b := 20) rfl rfl rfl (by omega) (fun x1 e2 => ?_)
  refine yR_m 1 (fun _ _ _ _ => rfl) ?_
  refine wR_ic_le rfl (a := ((gi mem 0 1).toInt + 20)) (c := 1600) e2 rfl (fun q3 => ?_) (fun q3 => ?_)
  ·
    exact h1 x1 e2 q3 hm
  ·
    refine yR_m 2 (fun _ _ _ _ => rfl) ?_
    refine wR_iv rfl rfl cO_e hm rfl rfl rfl rfl ?_
    show yR zpg tX11_refuse d (0, [(0, .ref 0), (1, .int 0)], [], mem) _
    refine yR_m 1 (fun _ _ _ _ => rfl) ?_
    refine wR_gr rfl cO_e cO_14 hm ?_
    refine yR_m 2 (fun _ _ _ _ => rfl) ?_
    refine wN_al (a := 0) rfl aR_220 hm rfl rfl (by decide) (fun y4 e5 => ?_)
    refine yR_m 2 (fun _ _ _ _ => rfl) ?_
    refine wN_as (a := 0) rfl aR_220 hm rfl (by decide) ?_
    have hm_1 : aTm aT0 (sx mem 220 0 (y4 + 1)) := tm_sa aR_220 hm (i32_b _)
    refine yR_m 1 (fun _ _ _ _ => rfl) ?_
    refine yR_ri rfl ?_
    show yR zpg tX11_feed (d + 1) (18, [(0, .ref 0), (1, .int a1), (2, .int a2), (3, .int a3), (4, .int a4), (5, .int a5)], [.int (-1)], (sx mem 220 0 (y4 + 1))) _
    exact yR_ri rfl (h2 x1 e2 q3 y4 e5 hm_1)

theorem h_feedr_c {a1 a2 a3 a4 a5 : Int32} (hm : aTm aT0 mem) (hn : 1580 < (gi mem 0 1).toInt) (hd : 2 ≤ d) : yC zpg d 112 [.ref 0, .int a1, .int a2, .int a3, .int a4, .int a5] mem (fun r m => r = some (.int (-1)) ∧ aTm aT0 m ∧ gi m 0 1 = gi mem 0 1 ∧ frX mem m) := by
  obtain ⟨d, rfl⟩ : ∃ q, d = q + 2 := ⟨d - 2, by omega⟩
  refine yC_of (t := tX11_feed) rfl rfl ?_
  exact w_fd_c hm
        (fun x1 e2 q3 hm2 => by exfalso; omega)
        (fun x1 e2 q3 y4 e5 hm2 => ⟨rfl, hm2, (gi_sa), frX_sa (by decide) (frX_rf)⟩)
set_option maxRecDepth 100000 in
theorem w_fd_m {d : Nat} {mem : zM} {P : Option Value → zM → Prop} {a1 a2 a3 a4 a5 : Int32} (hm : aTm aT0 mem) (h1 : ∀ (x1 : Int32), x1.toInt = ((gi mem 221 1).toInt + 20) → ((gi mem 221 1).toInt + 20) ≤ 1600 → aTm aT0 mem → yR zpg tX12_feed (d + 1) (19, [(0, .ref 221), (1, .int a1), (2, .int a2), (3, .int a3), (4, .int a4), (5, .int a5)], [], mem) P) (h2 : ∀ (x1 : Int32), x1.toInt = ((gi mem 221 1).toInt + 20) → 1600 < ((gi mem 221 1).toInt + 20) → ∀ (y4 : Int32), y4.toInt = (gn (ga mem 248) 0) → aTm aT0 (sx mem 248 0 (y4 + 1)) → P (some (.int (-1))) (sx mem 248 0 (y4 + 1))) : yR zpg tX12_feed (d + 1) (0, [(0, .ref 221), (1, .int a1), (2, .int a2), (3, .int a3), (4, .int a4), (5, .int a5)], [], mem) P := by
  have r1 := mO_r1 hm
  refine yR_m 1 (fun _ _ _ _ => rfl) ?_
  refine wR_gi rfl mO_e mO_1 hm rfl ?_
  refine yR_m 1 (fun _ _ _ _ => rfl) ?_
  refine wN_add (a := (gi mem 221 1).toInt) (b := 20) rfl rfl rfl (by omega) (fun x1 e2 => ?_)
  refine yR_m 1 (fun _ _ _ _ => rfl) ?_
  refine wR_ic_le rfl (a := ((gi mem 221 1).toInt + 20)) (c := 1600) e2 rfl (fun q3 => ?_) (fun q3 => ?_)
  ·
    exact h1 x1 e2 q3 hm
  ·
    refine yR_m 2 (fun _ _ _ _ => rfl) ?_
    refine wR_iv rfl rfl mO_e hm rfl rfl rfl rfl ?_
    show yR zpg tX12_refuses d (0, [(0, .ref 221), (1, .int 0)], [], mem) _
    refine yR_m 1 (fun _ _ _ _ => rfl) ?_
    refine wR_gr rfl mO_e mO_47 hm ?_
    refine yR_m 2 (fun _ _ _ _ => rfl) ?_
    refine wN_al (a := 0) rfl aR_248 hm rfl rfl (by decide) (fun y4 e5 => ?_)
    refine yR_m 2 (fun _ _ _ _ => rfl) ?_
    refine wN_as (a := 0) rfl aR_248 hm rfl (by decide) ?_
    have hm_1 : aTm aT0 (sx mem 248 0 (y4 + 1)) := tm_sa aR_248 hm (i32_b _)
    refine yR_m 1 (fun _ _ _ _ => rfl) ?_
    refine yR_ri rfl ?_
    show yR zpg tX12_feed (d + 1) (18, [(0, .ref 221), (1, .int a1), (2, .int a2), (3, .int a3), (4, .int a4), (5, .int a5)], [.int (-1)], (sx mem 248 0 (y4 + 1))) _
    exact yR_ri rfl (h2 x1 e2 q3 y4 e5 hm_1)

theorem h_feedr_m {a1 a2 a3 a4 a5 : Int32} (hm : aTm aT0 mem) (hn : 1580 < (gi mem 221 1).toInt) (hd : 2 ≤ d) : yC zpg d 167 [.ref 221, .int a1, .int a2, .int a3, .int a4, .int a5] mem (fun r m => r = some (.int (-1)) ∧ aTm aT0 m ∧ gi m 221 1 = gi mem 221 1 ∧ fr [248] [] mem m) := by
  obtain ⟨d, rfl⟩ : ∃ q, d = q + 2 := ⟨d - 2, by omega⟩
  refine yC_of (t := tX12_feed) rfl rfl ?_
  exact w_fd_m hm
        (fun x1 e2 q3 hm2 => by exfalso; omega)
        (fun x1 e2 q3 y4 e5 hm2 => ⟨rfl, hm2, (gi_sa), fr_sa rfl (fr_rf)⟩)
theorem zFed_tm {b ra ci N : Nat} {fs : List Value} {T : List Int32} {n : Int} {m' : zM} {τs : List (Bool × aTy)} {kb kr : Bool} (hm : aTm aT0 mem) (h0 : zat mem b = some (.inr (ci, fs))) (h1 : zat mem ra = some (.inl (0, .inl T))) (hb : aat aT0 b = some (.inr (ci, τs))) (ht : τs[1]? = some (kb, .inl (0, 1600))) (hr : aat aT0 ra = some (.inl (kr, 0, N, .inl (0, 255)))) (hn : 0 ≤ n ∧ n ≤ 1600) (F : zFed b ra ci fs T n mem m') : aTm aT0 m' := by
  obtain ⟨l, u, n', T', p, e, c, dd, ee⟩ := F
  refine ⟨l.trans hm.1, fun k cc hk => ?_⟩
  by_cases q : k = b
  · subst q
    rw [hb] at hk
    cases hk
    obtain ⟨fs2, w1, w2⟩ := aTm_o hm hb
    rw [h0] at w1
    cases w1
    exact ⟨_, p, _, rfl, aTf_set (i := 1) w2 ht ⟨n', rfl, by show (0 : Int) ≤ _; omega, by show _ ≤ (1600 : Int); omega⟩⟩
  · by_cases q2 : k = ra
    · subst q2
      rw [hr] at hk
      cases hk
      obtain ⟨T2, w1, w2, w3⟩ := aTm_a hm hr
      rw [h1] at w1
      cases w1
      exact ⟨_, c, _, rfl, dd.trans w2, fun x hx => (ee x hx).elim (fun h => w3 x h) id⟩
    · rw [u k q q2]
      exact hm.2 k cc hk
theorem h_feed_c {a1 a2 a3 a4 a5 : Int32} (hm : aTm aT0 mem) (hn : (gi mem 0 1).toInt ≤ 1580) (hd : 2 ≤ d) : yC zpg d 112 [.ref 0, .int a1, .int a2, .int a3, .int a4, .int a5] mem (fun r m => (∃ v : Int32, r = some (.int v) ∧ v.toInt = (gi mem 0 1).toInt + 20 ∧ gi m 0 1 = v) ∧ aTm aT0 m ∧ (∀ k, ¬ k = 0 → ¬ k = 1 → zat m k = zat mem k) ∧ ∀ i, ¬ i = 1 → zfl m 0 i = zfl mem 0 i) := by
  obtain ⟨d, rfl⟩ : ∃ q, d = q + 2 := ⟨d - 2, by omega⟩
  have r1 := cO_r1 hm
  obtain ⟨fs, h0, f1, -, -⟩ := gi_ty cO_e cO_1 hm
  obtain ⟨fs2, h0', f0⟩ := gr_ty cO_e cO_0 hm
  rw [h0] at h0'
  cases h0'
  obtain ⟨t1, t2, -⟩ := ga_ty aR_1 hm
  refine yC_mono (fun r m q => ?_) (zfeed_x (by decide) h0 f0 f1 t1 r1.1 (by omega) hn)
  obtain ⟨v, q1, q2, q3⟩ := q
  have tm := zFed_tm hm h0 t1 cO_e cO_1 aR_1 (by omega) q3
  obtain ⟨-, u, n', T', p, e, -⟩ := q3
  have g1 : gi m 0 1 = n' := gi_at p (List.getElem?_set_self (List.getElem?_eq_some_iff.mp f1).1)
  refine ⟨⟨v, q1, q2, ?_⟩, tm, u, fun i hi => ?_⟩
  · rw [g1]
    exact Int32.toInt_inj.1 (by omega)
  · unfold zfl
    rw [p, h0]
    show (fs.set 1 (.int n'))[i]? = fs[i]?
    rw [List.getElem?_set_ne (fun q => hi q.symm)]
theorem h_feed_m {a1 a2 a3 a4 a5 : Int32} (hm : aTm aT0 mem) (hn : (gi mem 221 1).toInt ≤ 1580) (hd : 2 ≤ d) : yC zpg d 167 [.ref 221, .int a1, .int a2, .int a3, .int a4, .int a5] mem (fun r m => (∃ v : Int32, r = some (.int v) ∧ v.toInt = (gi mem 221 1).toInt + 20 ∧ gi m 221 1 = v) ∧ aTm aT0 m ∧ fr [222] [1] mem m) := by
  obtain ⟨d, rfl⟩ : ∃ q, d = q + 2 := ⟨d - 2, by omega⟩
  have r1 := mO_r1 hm
  obtain ⟨fs, h0, f1, -, -⟩ := gi_ty mO_e mO_1 hm
  obtain ⟨fs2, h0', f0⟩ := gr_ty mO_e mO_0 hm
  rw [h0] at h0'
  cases h0'
  obtain ⟨t1, t2, -⟩ := ga_ty aR_222 hm
  refine yC_mono (fun r m q => ?_) (zfeed_m (by decide) h0 f0 f1 t1 r1.1 (by omega) hn)
  obtain ⟨v, q1, q2, q3⟩ := q
  have tm := zFed_tm hm h0 t1 mO_e mO_1 aR_222 (by omega) q3
  obtain ⟨-, u, n', T', p, e, -⟩ := q3
  have g1 : gi m 221 1 = n' := gi_at p (List.getElem?_set_self (List.getElem?_eq_some_iff.mp f1).1)
  refine ⟨⟨v, q1, q2, ?_⟩, tm, fun k h1 h2 => u k h1 (fun q => by rw [q] at h2; cases h2), fun i hi => ?_⟩
  · rw [g1]
    exact Int32.toInt_inj.1 (by omega)
  · unfold zfl
    rw [p, h0]
    show (fs.set 1 (.int n'))[i]? = fs[i]?
    rw [List.getElem?_set_ne (fun q => by rw [← q] at hi; cases hi)]
end TP
