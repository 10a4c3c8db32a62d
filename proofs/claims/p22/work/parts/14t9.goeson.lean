/-! goesOn -/
section GO
variable {d : Nat} {mr mem : zM} {fm s0 : Int} {f : Fm} {r : List Fm}
set_option maxRecDepth 100000 in
theorem w_isSign2 {d : Nat} {mem : zM} {P : Option Value → zM → Prop} {c : Int32} (hm : aTm aT0 mem) (h1 : ¬ (gi mem 221 3).toInt = 3 → aTm aT0 mem → P (some (.int 0)) mem) (h2 : (gi mem 221 3).toInt = 3 → ¬ (gi mem 221 6).toInt = (c).toInt → aTm aT0 mem → P (some (.int 0)) mem) (h3 : (gi mem 221 3).toInt = 3 → (gi mem 221 6).toInt = (c).toInt → aTm aT0 mem → P (some (.int 1)) mem) : yR zpg tX12_isSign d (0, [(0, .ref 221), (1, .int c)], [], mem) P := by
  refine yR_m 1 (fun _ _ _ _ => rfl) ?_
  refine wR_gi rfl mO_e mO_3 hm rfl ?_
  refine yR_m 1 (fun _ _ _ _ => rfl) ?_
  refine wR_ic_ne rfl (a := (gi mem 221 3).toInt) (c := 3) rfl rfl (fun q1 => ?_) (fun q1 => ?_)
  ·
    refine yR_m 1 (fun _ _ _ _ => rfl) ?_
    exact yR_rz rfl ⟨by decide, by decide⟩ (h1 q1 hm)
  ·
    refine yR_m 1 (fun _ _ _ _ => rfl) ?_
    refine wR_gi rfl mO_e mO_6 hm rfl ?_
    refine yR_m 1 (fun _ _ _ _ => rfl) ?_
    refine wR_ic_ne rfl (a := (gi mem 221 6).toInt) (c := (c).toInt) rfl rfl (fun q2 => ?_) (fun q2 => ?_)
    ·
      refine yR_m 1 (fun _ _ _ _ => rfl) ?_
      exact yR_rz rfl ⟨by decide, by decide⟩ (h2 q1 q2 hm)
    ·
      refine yR_m 2 (fun _ _ _ _ => rfl) ?_
      exact yR_rz rfl ⟨by decide, by decide⟩ (h3 q1 q2 hm)

theorem c_isSign2 {s3 s6 c : Int32} (hm : aTm aT0 mem) (e3 : gi mem 221 3 = s3) (e6 : gi mem 221 6 = s6) (hd : 1 ≤ d) : yC zpg d 174 [.ref 221, .int c] mem (fun r m => ∃ v : Int32, r = some (.int v) ∧ mem = m ∧ ((v.toInt = 0 ∧ ¬ (s3.toInt = 3 ∧ s6.toInt = c.toInt)) ∨ (v.toInt = 1 ∧ s3.toInt = 3 ∧ s6.toInt = c.toInt))) := by
  obtain ⟨d, rfl⟩ : ∃ q, d = q + 1 := ⟨d - 1, by omega⟩
  subst e3 e6
  refine yC_of (t := tX12_isSign) rfl rfl ?_
  exact w_isSign2 hm
        (fun q1 hm => ⟨_, rfl, rfl, by first | exact Or.inl ⟨rfl, by omega⟩ | exact Or.inr ⟨rfl, by omega, by omega⟩⟩)
        (fun q1 q2 hm => ⟨_, rfl, rfl, by first | exact Or.inl ⟨rfl, by omega⟩ | exact Or.inr ⟨rfl, by omega, by omega⟩⟩)
        (fun q1 q2 hm => ⟨_, rfl, rfl, by first | exact Or.inl ⟨rfl, by omega⟩ | exact Or.inr ⟨rfl, by omega, by omega⟩⟩)
theorem h_joins2 {ls x41 x3 x6 x4 x5 x2 x8 : Int32} (hd : 3 ≤ d) (hm : aTm aT0 mem) (hP : PI mr mem fm (f :: r) 1) (e41 : gi mem 221 41 = x41) (e3 : gi mem 221 3 = x3) (e6 : gi mem 221 6 = x6) (e4 : gi mem 221 4 = x4) (e5 : gi mem 221 5 = x5) (e2 : gi mem 221 2 = x2) (e8 : gi mem 221 8 = x8) : yC zpg d 183 [.ref 221, .int ls] mem (fun r' m => r' = none ∧ aTm aT0 m ∧ (jnQ mem m mr fm f r ls.toInt ∧ (gi m 221 41).toInt = x41.toInt ∧ (gi m 221 3).toInt = x3.toInt ∧ (gi m 221 6).toInt = x6.toInt ∧ (gi m 221 4).toInt = x4.toInt ∧ (gi m 221 5).toInt = x5.toInt ∧ (gi m 221 2).toInt = x2.toInt ∧ (gi m 221 8).toInt = x8.toInt ∧ (0 ≤ (gi m 221 44).toInt ∧ (gi m 221 44).toInt ≤ 60) ∧ (0 ≤ (gi m 221 33).toInt ∧ (gi m 221 33).toInt ≤ 1599) ∧ (0 ≤ (gi m 221 42).toInt ∧ (gi m 221 42).toInt ≤ 7) ∧ (0 ≤ (gi m 221 34).toInt ∧ (gi m 221 34).toInt ≤ 1))) :=
  yC_mono (fun r' m q => by
    obtain ⟨q1, q2, q3⟩ := q
    have J := q3.1
    have q4 := q3
    obtain ⟨-, s, -, -, jP⟩ := q4
    have pp := PI_pp q2 jP
    exact ⟨q1, q2, q3, by rw [fr_gi J rfl, e41], by rw [fr_gi J rfl, e3], by rw [fr_gi J rfl, e6], by rw [fr_gi J rfl, e4], by rw [fr_gi J rfl, e5], by rw [fr_gi J rfl, e2], by rw [fr_gi J rfl, e8], pp.2.1, pp.2.2.1, pp.2.2.2.1, mO_r34 q2⟩) (h_joins hd hm hP)
def goP (mr : zM) (fm s0 : Int) (r : Option Value) (m : zM) : Prop := ∃ v : Int32, r = some (.int v) ∧ aTm aT0 m ∧ (kB mr m ∧ tOK m) ∧ (0 ≤ v.toInt ∧ v.toInt ≤ 1) ∧ (1 ≤ fk m ∨ (v.toInt = 1 ∧ ∃ l', PI mr m fm l' (gi m 221 45).toInt ∧ s0 < (gi m 221 4).toInt) ∨ (v.toInt = 0 ∧ ∃ l', PI mr m fm l' 1 ∧ hS l' = 0 ∧ s0 ≤ (gi m 221 4).toInt))
theorem go_f {m : zM} {v : Int32} (hm2 : aTm aT0 m) (kb : kB mr mem) (T : tOK mem) (F : fr [] [8, 9] mem m) (h8 : 1 ≤ fk m) (hv : 0 ≤ v.toInt ∧ v.toInt ≤ 1) : goP mr fm s0 (some (.int v)) m := ⟨v, rfl, hm2, ⟨kB_tr kb (kB_fr F rfl rfl rfl rfl rfl rfl rfl rfl), tOK_fr F rfl rfl rfl rfl (by omega) T⟩, hv, Or.inl h8⟩
theorem go_p {m : zM} {o : Int} (hm2 : aTm aT0 m) {s : Int} (e : (gi m 221 45).toInt = o) (hs : s0 ≤ s) (h : ∃ l', PI mr m fm l' o ∧ s < (gi m 221 4).toInt) : goP mr fm s0 (some (.int 1)) m := by
  obtain ⟨l', h1, h2⟩ := h
  exact ⟨1, rfl, hm2, ⟨h1.1.1, h1.1.2.1⟩, by decide, Or.inr (Or.inl ⟨rfl, l', by rw [e]; exact h1, by omega⟩)⟩
theorem jn_nil {s : List Int} (jr : ∀ q, s.head? = some q → rkI q < 1) : s = [] := by
  cases s with
  | nil => rfl
  | cons q t =>
    have a := jr q rfl
    have b := rk_b q
    omega
theorem kdk {f : Fm} {r : List Fm} (h : kd (f :: r)) : 0 ≤ f.1 ∧ f.1 ≤ 6 := by
  cases r with
  | nil =>
    have e : 0 ≤ f.1 ∧ f.1 ≤ 1 := h
    omega
  | cons a b =>
    have e : 2 ≤ f.1 ∧ f.1 ≤ 6 := h.1
    omega
theorem hS_0 {k p ph bg : Int} {r : List Fm} (h : kd ((k, p, ph, bg, []) :: r)) (hk : k ≤ 1) : hS ((k, p, ph, bg, []) :: r) = 0 := by
  cases r with
  | nil =>
    show 0 + arF (k, p, ph, bg, []) + 0 = 0
    have : arF (k, p, ph, bg, []) = 0 := by
      show (if k = 4 then (if p = 44 then (2 : Int) else 1) else if k = 3 then (if p = 44 then 1 else 0) else 0) = 0
      rw [if_neg (by omega), if_neg (by omega)]
    omega
  | cons a b =>
    have e : 2 ≤ k ∧ k ≤ 6 := h.1
    omega
def goS (mr m : zM) (fm : Int) (f : Fm) (r : List Fm) : Prop := (kB mr m ∧ tOK m) ∧ ((1 ≤ (gi m 221 41).toInt ∧ (gi m 221 41).toInt ≤ 8) ∧ (0 ≤ (gi m 221 44).toInt ∧ (gi m 221 44).toInt ≤ 60) ∧ (0 ≤ (gi m 221 33).toInt ∧ (gi m 221 33).toInt ≤ 1599) ∧ (0 ≤ (gi m 221 42).toInt ∧ (gi m 221 42).toInt ≤ 7)) ∧ ((gi m 221 8).toInt = 0 → PI mr m fm (f :: r) 1)
theorem goS_p (hm : aTm aT0 mem) (h : PI mr mem fm (f :: r) 1) : goS mr mem fm f r := by
  have pp := PI_pp hm h
  exact ⟨⟨h.1.1, h.1.2.1⟩, ⟨pp.1, pp.2.1, pp.2.2.1, pp.2.2.2.1⟩, fun _ => h⟩
theorem goS_f {m : zM} (hm : aTm aT0 mem) (h : PI mr mem fm (f :: r) 1) (F : fr [] [8, 9] mem m) (h8 : 1 ≤ (gi m 221 8).toInt) : goS mr m fm f r := by
  have pp := PI_pp hm h
  refine ⟨⟨kB_tr h.1.1 (kB_fr F rfl rfl rfl rfl rfl rfl rfl rfl), tOK_fr F rfl rfl rfl rfl (by show 0 ≤ (gi m 221 8).toInt; omega) h.1.2.1⟩, ?_, fun q => by omega⟩
  rw [fr_gi F rfl, fr_gi F (i := 44) rfl, fr_gi F (i := 33) rfl, fr_gi F (i := 42) rfl]
  exact ⟨pp.1, pp.2.1, pp.2.2.1, pp.2.2.2.1⟩
set_option maxRecDepth 100000 in
theorem w_go_555 {d : Nat} {mem : zM} {P : Option Value → zM → Prop} {mr : zM} {fm : Int} {f : Fm} {r : List Fm} {fv kv : Int32} {lo : List (Nat × Value)} (hm : aTm aT0 mem) (l_0 : zlg lo 0 = some (.ref 221)) (l_1 : zlg lo 1 = some (.int fv)) (l_2 : zlg lo 2 = some (.int kv)) (p1 : 1 ≤ (gi mem 221 41).toInt ∧ (gi mem 221 41).toInt ≤ 8) (p2 : 0 ≤ (gi mem 221 44).toInt ∧ (gi mem 221 44).toInt ≤ 60) (p3 : 0 ≤ (gi mem 221 33).toInt ∧ (gi mem 221 33).toInt ≤ 1599) (p4 : 0 ≤ (gi mem 221 42).toInt ∧ (gi mem 221 42).toInt ≤ 7) (p6 : (gi mem 221 5).toInt ≤ (gi mem 221 2).toInt) (fv1 : fv.toInt = (gi mem 221 41).toInt - 1) (p7 : kv.toInt = 5 → 2 ≤ (gi mem 221 41).toInt) (s1 : PI mr mem fm (f :: r) 1) (h1 : ∀ (m1 : zM), aTm aT0 m1 → (jnQ mem m1 mr fm f r 1 ∧ (gi m1 221 41).toInt = (gi mem 221 41).toInt ∧ (gi m1 221 3).toInt = (gi mem 221 3).toInt ∧ (gi m1 221 6).toInt = (gi mem 221 6).toInt ∧ (gi m1 221 4).toInt = (gi mem 221 4).toInt ∧ (gi m1 221 5).toInt = (gi mem 221 5).toInt ∧ (gi m1 221 2).toInt = (gi mem 221 2).toInt ∧ (gi m1 221 8).toInt = (gi mem 221 8).toInt ∧ (0 ≤ (gi m1 221 44).toInt ∧ (gi m1 221 44).toInt ≤ 60) ∧ (0 ≤ (gi m1 221 33).toInt ∧ (gi m1 221 33).toInt ≤ 1599) ∧ (0 ≤ (gi m1 221 42).toInt ∧ (gi m1 221 42).toInt ≤ 7) ∧ (0 ≤ (gi m1 221 34).toInt ∧ (gi m1 221 34).toInt ≤ 1)) → ∀ (x3 : Int32), x3.toInt = ((gi m1 221 41).toInt - 1) → ∀ (x5 : Int32), x5.toInt = ((gi m1 221 42).toInt - 1) → ¬ (kv).toInt = 4 → ¬ (kv).toInt = 5 → ∀ (m9 : zM), aTm aT0 m9 → (ahQ (si (si m1 221 41 x3) 221 42 x5) m9 ∧ (gi m9 221 41).toInt = x3.toInt ∧ (gi m9 221 42).toInt = x5.toInt ∧ (gi m9 221 44).toInt = (gi m1 221 44).toInt ∧ (gi m9 221 33).toInt = (gi m1 221 33).toInt ∧ (gi m9 221 8).toInt = (gi m1 221 8).toInt ∧ (gi m1 221 5).toInt ≤ (gi m9 221 4).toInt ∧ (gi m9 221 4).toInt ≤ (gi m9 221 5).toInt ∧ (gi m9 221 5).toInt ≤ (gi m9 221 2).toInt) → aTm aT0 m9 → P (some (.int 1)) m9) (h2 : ∀ (m1 : zM), aTm aT0 m1 → (jnQ mem m1 mr fm f r 1 ∧ (gi m1 221 41).toInt = (gi mem 221 41).toInt ∧ (gi m1 221 3).toInt = (gi mem 221 3).toInt ∧ (gi m1 221 6).toInt = (gi mem 221 6).toInt ∧ (gi m1 221 4).toInt = (gi mem 221 4).toInt ∧ (gi m1 221 5).toInt = (gi mem 221 5).toInt ∧ (gi m1 221 2).toInt = (gi mem 221 2).toInt ∧ (gi m1 221 8).toInt = (gi mem 221 8).toInt ∧ (0 ≤ (gi m1 221 44).toInt ∧ (gi m1 221 44).toInt ≤ 60) ∧ (0 ≤ (gi m1 221 33).toInt ∧ (gi m1 221 33).toInt ≤ 1599) ∧ (0 ≤ (gi m1 221 42).toInt ∧ (gi m1 221 42).toInt ≤ 7) ∧ (0 ≤ (gi m1 221 34).toInt ∧ (gi m1 221 34).toInt ≤ 1)) → ∀ (x3 : Int32), x3.toInt = ((gi m1 221 41).toInt - 1) → ∀ (x5 : Int32), x5.toInt = ((gi m1 221 42).toInt - 1) → ¬ (kv).toInt = 4 → (kv).toInt = 5 → ∀ (x11 : Int32), x11.toInt = (((gi m1 221 41).toInt - 1) - 1) → ∀ (m13 : zM), aTm aT0 m13 → (ahQ (sx (si (si m1 221 41 x3) 221 42 x5) 243 x11 2) m13 ∧ (gi m13 221 41).toInt = x3.toInt ∧ (gi m13 221 42).toInt = x5.toInt ∧ (gi m13 221 44).toInt = (gi m1 221 44).toInt ∧ (gi m13 221 33).toInt = (gi m1 221 33).toInt ∧ (gi m13 221 8).toInt = (gi m1 221 8).toInt ∧ (gi m1 221 5).toInt ≤ (gi m13 221 4).toInt ∧ (gi m13 221 4).toInt ≤ (gi m13 221 5).toInt ∧ (gi m13 221 5).toInt ≤ (gi m13 221 2).toInt) → aTm aT0 m13 → P (some (.int 1)) m13) (h3 : ∀ (m1 : zM), aTm aT0 m1 → (jnQ mem m1 mr fm f r 1 ∧ (gi m1 221 41).toInt = (gi mem 221 41).toInt ∧ (gi m1 221 3).toInt = (gi mem 221 3).toInt ∧ (gi m1 221 6).toInt = (gi mem 221 6).toInt ∧ (gi m1 221 4).toInt = (gi mem 221 4).toInt ∧ (gi m1 221 5).toInt = (gi mem 221 5).toInt ∧ (gi m1 221 2).toInt = (gi mem 221 2).toInt ∧ (gi m1 221 8).toInt = (gi mem 221 8).toInt ∧ (0 ≤ (gi m1 221 44).toInt ∧ (gi m1 221 44).toInt ≤ 60) ∧ (0 ≤ (gi m1 221 33).toInt ∧ (gi m1 221 33).toInt ≤ 1599) ∧ (0 ≤ (gi m1 221 42).toInt ∧ (gi m1 221 42).toInt ≤ 7) ∧ (0 ≤ (gi m1 221 34).toInt ∧ (gi m1 221 34).toInt ≤ 1)) → ∀ (x3 : Int32), x3.toInt = ((gi m1 221 41).toInt - 1) → ∀ (x5 : Int32), x5.toInt = ((gi m1 221 42).toInt - 1) → (kv).toInt = 4 → ∀ (y15 : Int32), y15.toInt = (gn (ga m1 245) (fv).toInt) → ∀ (x17 : Int32), x17.toInt = (1600 * (gi m1 221 34).toInt) → ∀ (x19 : Int32), x19.toInt = ((1600 * (gi m1 221 34).toInt) + (gi m1 221 33).toInt) → ∀ (x21 : Int32), x21.toInt = (1600 * (gi m1 221 34).toInt) → ∀ (x23 : Int32), x23.toInt = ((1600 * (gi m1 221 34).toInt) + (gi m1 221 33).toInt) → ∀ (x25 : Int32), x25.toInt = ((gi m1 221 33).toInt + 1) → ∀ (m27 : zM), aTm aT0 m27 → (ahQ (si (sx (sx (si (si m1 221 41 x3) 221 42 x5) 238 x19 y15) 239 x23 0) 221 33 x25) m27 ∧ (gi m27 221 41).toInt = x3.toInt ∧ (gi m27 221 42).toInt = x5.toInt ∧ (gi m27 221 44).toInt = (gi m1 221 44).toInt ∧ (gi m27 221 33).toInt = x25.toInt ∧ (gi m27 221 8).toInt = (gi m1 221 8).toInt ∧ (gi m1 221 5).toInt ≤ (gi m27 221 4).toInt ∧ (gi m27 221 4).toInt ≤ (gi m27 221 5).toInt ∧ (gi m27 221 5).toInt ≤ (gi m27 221 2).toInt) → aTm aT0 m27 → P (some (.int 1)) m27) : yR zpg tX12_goesOn (d + 5) (555, lo, [], mem) P := by
  obtain ⟨i0, i1⟩ := mO_r34 hm
  refine wR_la rfl l_0 ?_
  refine yR_m 1 (fun _ _ _ _ => rfl) ?_
  refine wR_cv rfl rfl mO_e hm rfl (h_joins2 (by omega) hm s1 rfl rfl rfl rfl rfl rfl rfl) ?_
  rintro _ m1 ⟨rfl, hI1, k2⟩
  show yR zpg tX12_goesOn (d + 5) (560, lo, [], m1) _
  refine wR_la rfl l_0 ?_
  refine yR_m 1 (fun _ _ _ _ => rfl) ?_
  refine wR_gi rfl mO_e mO_41 hI1 rfl ?_
  refine yR_m 1 (fun _ _ _ _ => rfl) ?_
  refine wN_sub (a := (gi m1 221 41).toInt) (b := 1) rfl rfl rfl (by omega) (fun x3 e4 => ?_)
  refine wR_pi rfl mO_e mO_41 hI1 rfl ?_
  have hm_1 : aTm aT0 (si m1 221 41 x3) := tm_si mO_e mO_41 hI1 (i32_b _)
  refine wR_la rfl l_0 ?_
  refine yR_m 1 (fun _ _ _ _ => rfl) ?_
  refine wR_gi rfl mO_e mO_42 hm_1 (gi_sv_ne (by decide)) ?_
  refine yR_m 1 (fun _ _ _ _ => rfl) ?_
  refine wN_sub (a := (gi m1 221 42).toInt) (b := 1) rfl rfl rfl (by omega) (fun x5 e6 => ?_)
  refine wR_pi rfl mO_e mO_42 hm_1 rfl ?_
  have hm_2 : aTm aT0 (si (si m1 221 41 x3) 221 42 x5) := tm_si mO_e mO_42 hm_1 (i32_b _)
  refine wR_li rfl l_2 ?_
  refine yR_m 1 (fun _ _ _ _ => rfl) ?_
  refine wR_ic_ne rfl (a := (kv).toInt) (c := 4) rfl rfl (fun q7 => ?_) (fun q7 => ?_)
  ·
    refine wR_li rfl l_2 ?_
    refine yR_m 1 (fun _ _ _ _ => rfl) ?_
    refine wR_ic_ne rfl (a := (kv).toInt) (c := 5) rfl rfl (fun q8 => ?_) (fun q8 => ?_)
    ·
      refine wR_la rfl l_0 ?_
      refine wR_cv rfl rfl mO_e hm_2 rfl (h_ahead3 (by omega) hm_2 ((gi_sv_ne (by decide)).trans (gi_sv_ne (by decide))) ((gi_sv_ne (by decide)).trans (gi_sv_ne (by decide))) (by omega) ((gi_sv_ne (by decide)).trans (gi_si_eq mO_e mO_41 hI1)) (gi_si_eq mO_e mO_42 hm_1) ((gi_sv_ne (by decide)).trans (gi_sv_ne (by decide))) ((gi_sv_ne (by decide)).trans (gi_sv_ne (by decide))) ((gi_sv_ne (by decide)).trans (gi_sv_ne (by decide)))) ?_
      rintro _ m9 ⟨rfl, hI9, k10⟩
      show yR zpg tX12_goesOn (d + 5) (617, lo, [], m9) _
      refine yR_m 1 (fun _ _ _ _ => rfl) ?_
      exact yR_rz rfl ⟨by decide, by decide⟩ (h1 m1 hI1 k2 x3 e4 x5 e6 q7 q8 m9 hI9 k10 hI9)
    ·
      refine wR_la rfl l_0 ?_
      refine wR_gr rfl mO_e mO_37 hm_2 ?_
      refine wR_la rfl l_0 ?_
      refine wR_gi rfl mO_e mO_41 hm_2 ((gi_sv_ne (by decide)).trans (gi_si_eq mO_e mO_41 hI1)) ?_
      refine yR_m 1 (fun _ _ _ _ => rfl) ?_
      refine wN_sub (a := ((gi m1 221 41).toInt - 1)) (b := 1) rfl e4 rfl (by omega) (fun x11 e12 => ?_)
      refine yR_m 1 (fun _ _ _ _ => rfl) ?_
      refine wN_as (a := (((gi m1 221 41).toInt - 1) - 1)) rfl aR_243 hm_2 e12 (by omega) ?_
      have hm_3 : aTm aT0 (sx (si (si m1 221 41 x3) 221 42 x5) 243 x11 2) := tm_sa aR_243 hm_2 (i32_b _)
      refine wR_la rfl l_0 ?_
      refine wR_cv rfl rfl mO_e hm_3 rfl (h_ahead3 (by omega) hm_3 ((gi_sa).trans ((gi_sv_ne (by decide)).trans (gi_sv_ne (by decide)))) ((gi_sa).trans ((gi_sv_ne (by decide)).trans (gi_sv_ne (by decide)))) (by omega) ((gi_sa).trans ((gi_sv_ne (by decide)).trans (gi_si_eq mO_e mO_41 hI1))) ((gi_sa).trans (gi_si_eq mO_e mO_42 hm_1)) ((gi_sa).trans ((gi_sv_ne (by decide)).trans (gi_sv_ne (by decide)))) ((gi_sa).trans ((gi_sv_ne (by decide)).trans (gi_sv_ne (by decide)))) ((gi_sa).trans ((gi_sv_ne (by decide)).trans (gi_sv_ne (by decide))))) ?_
      rintro _ m13 ⟨rfl, hI13, k14⟩
      show yR zpg tX12_goesOn (d + 5) (617, lo, [], m13) _
      refine yR_m 1 (fun _ _ _ _ => rfl) ?_
      exact yR_rz rfl ⟨by decide, by decide⟩ (h2 m1 hI1 k2 x3 e4 x5 e6 q7 q8 x11 e12 m13 hI13 k14 hI13)
  ·
    refine wR_la rfl l_0 ?_
    refine wR_la rfl l_0 ?_
    refine wR_gr rfl mO_e mO_39 hm_2 ?_
    refine wR_li rfl l_1 ?_
    refine wN_al (a := (fv).toInt) rfl aR_245 hm_2 ((ga_sv).trans (ga_sv)) rfl (by omega) (fun y15 e16 => ?_)
    refine yR_m 1 (fun _ _ _ _ => rfl) ?_
    refine wR_iv rfl rfl mO_e hm_2 rfl rfl rfl rfl ?_
    show yR zpg tX12_add (d + 4) (0, [(0, .ref 221), (1, .int y15), (2, .int 0)], [], (si (si m1 221 41 x3) 221 42 x5)) _
    refine yR_m 1 (fun _ _ _ _ => rfl) ?_
    refine wR_gr rfl mO_e mO_29 hm_2 ?_
    refine yR_m 2 (fun _ _ _ _ => rfl) ?_
    refine wR_gi rfl mO_e mO_34 hm_2 ((gi_sv_ne (by decide)).trans (gi_sv_ne (by decide))) ?_
    refine wN_mul (a := 1600) (b := (gi m1 221 34).toInt) rfl rfl rfl (by omega) (fun x17 e18 => ?_)
    refine yR_m 1 (fun _ _ _ _ => rfl) ?_
    refine wR_gi rfl mO_e mO_33 hm_2 ((gi_sv_ne (by decide)).trans (gi_sv_ne (by decide))) ?_
    refine wN_add (a := (1600 * (gi m1 221 34).toInt)) (b := (gi m1 221 33).toInt) rfl e18 rfl (by omega) (fun x19 e20 => ?_)
    refine yR_m 1 (fun _ _ _ _ => rfl) ?_
    refine wN_as (a := ((1600 * (gi m1 221 34).toInt) + (gi m1 221 33).toInt)) rfl aR_238 hm_2 e20 (by omega) ?_
    have hm_4 : aTm aT0 (sx (si (si m1 221 41 x3) 221 42 x5) 238 x19 y15) := tm_sa aR_238 hm_2 (i32_b _)
    refine yR_m 1 (fun _ _ _ _ => rfl) ?_
    refine wR_gr rfl mO_e mO_30 hm_4 ?_
    refine yR_m 2 (fun _ _ _ _ => rfl) ?_
    refine wR_gi rfl mO_e mO_34 hm_4 ((gi_sa).trans ((gi_sv_ne (by decide)).trans (gi_sv_ne (by decide)))) ?_
    refine wN_mul (a := 1600) (b := (gi m1 221 34).toInt) rfl rfl rfl (by omega) (fun x21 e22 => ?_)
    refine yR_m 1 (fun _ _ _ _ => rfl) ?_
    refine wR_gi rfl mO_e mO_33 hm_4 ((gi_sa).trans ((gi_sv_ne (by decide)).trans (gi_sv_ne (by decide)))) ?_
    refine wN_add (a := (1600 * (gi m1 221 34).toInt)) (b := (gi m1 221 33).toInt) rfl e22 rfl (by omega) (fun x23 e24 => ?_)
    refine yR_m 1 (fun _ _ _ _ => rfl) ?_
    refine wN_as (a := ((1600 * (gi m1 221 34).toInt) + (gi m1 221 33).toInt)) rfl aR_239 hm_4 e24 (by omega) ?_
    have hm_5 : aTm aT0 (sx (sx (si (si m1 221 41 x3) 221 42 x5) 238 x19 y15) 239 x23 0) := tm_sa aR_239 hm_4 (i32_b _)
    refine yR_m 2 (fun _ _ _ _ => rfl) ?_
    refine wR_gi rfl mO_e mO_33 hm_5 ((gi_sa).trans ((gi_sa).trans ((gi_sv_ne (by decide)).trans (gi_sv_ne (by decide))))) ?_
    refine yR_m 1 (fun _ _ _ _ => rfl) ?_
    refine wN_add (a := (gi m1 221 33).toInt) (b := 1) rfl rfl rfl (by omega) (fun x25 e26 => ?_)
    refine wR_pi rfl mO_e mO_33 hm_5 rfl ?_
    have hm_6 : aTm aT0 (si (sx (sx (si (si m1 221 41 x3) 221 42 x5) 238 x19 y15) 239 x23 0) 221 33 x25) := tm_si mO_e mO_33 hm_5 (i32_b _)
    refine yR_rv rfl ?_
    show yR zpg tX12_goesOn (d + 5) (596, lo, [], (si (sx (sx (si (si m1 221 41 x3) 221 42 x5) 238 x19 y15) 239 x23 0) 221 33 x25)) _
    refine wR_li rfl l_2 ?_
    refine yR_m 1 (fun _ _ _ _ => rfl) ?_
    refine wR_ic_ne rfl (a := (kv).toInt) (c := 5) rfl rfl (fun _ => ?_) (fun q => by exfalso; omega)
    refine wR_la rfl l_0 ?_
    refine wR_cv rfl rfl mO_e hm_6 rfl (h_ahead3 (by omega) hm_6 ((gi_sv_ne (by decide)).trans ((gi_sa).trans ((gi_sa).trans ((gi_sv_ne (by decide)).trans (gi_sv_ne (by decide)))))) ((gi_sv_ne (by decide)).trans ((gi_sa).trans ((gi_sa).trans ((gi_sv_ne (by decide)).trans (gi_sv_ne (by decide)))))) (by omega) ((gi_sv_ne (by decide)).trans ((gi_sa).trans ((gi_sa).trans ((gi_sv_ne (by decide)).trans (gi_si_eq mO_e mO_41 hI1))))) ((gi_sv_ne (by decide)).trans ((gi_sa).trans ((gi_sa).trans (gi_si_eq mO_e mO_42 hm_1)))) ((gi_sv_ne (by decide)).trans ((gi_sa).trans ((gi_sa).trans ((gi_sv_ne (by decide)).trans (gi_sv_ne (by decide)))))) (gi_si_eq mO_e mO_33 hm_5) ((gi_sv_ne (by decide)).trans ((gi_sa).trans ((gi_sa).trans ((gi_sv_ne (by decide)).trans (gi_sv_ne (by decide))))))) ?_
    rintro _ m27 ⟨rfl, hI27, k28⟩
    show yR zpg tX12_goesOn (d + 5) (617, lo, [], m27) _
    refine yR_m 1 (fun _ _ _ _ => rfl) ?_
    exact yR_rz rfl ⟨by decide, by decide⟩ (h3 m1 hI1 k2 x3 e4 x5 e6 q7 y15 e16 x17 e18 x19 e20 x21 e22 x23 e24 x25 e26 m27 hI27 k28 hI27)

theorem go_555 {fv kv : Int32} {lo : List (Nat × Value)} (hm : aTm aT0 mem) (h : PI mr mem fm (f :: r) 1) (hs : s0 ≤ (gi mem 221 4).toInt) (h45 : (gi mem 221 45).toInt = 1) (fv1 : fv.toInt = (gi mem 221 41).toInt - 1) (kv1 : kv.toInt = f.1) (sg : ¬ (gi mem 221 3).toInt = 0) (hk : ¬ kv.toInt = 3 ∧ ¬ kv.toInt = 6 ∧ 2 ≤ kv.toInt) (a0 : zlg lo 0 = some (.ref 221)) (a1 : zlg lo 1 = some (.int fv)) (a2 : zlg lo 2 = some (.int kv)) : yR zpg tX12_goesOn (d + 5) (555, lo, [], mem) (goP mr fm s0) := by
  have pp := PI_pp hm h
  have hT := h.1.2.1
  obtain ⟨p1, p2, p3, p4, p6, p8, p9⟩ := pp
  have rg := PI_rg hm h
  have p7 : kv.toInt = 5 → 2 ≤ (gi mem 221 41).toInt := by
    intro q
    cases r with
    | nil =>
      have : 0 ≤ f.1 ∧ f.1 ≤ 1 := h.2.1.2.2
      omega
    | cons a b =>
      have e := rg.1
      simp only [List.length_cons] at e
      omega
  exact w_go_555 (mr := mr) (fm := fm) (f := f) (r := r) hm a0 a1 a2 p1 p2 p3 p4 p6 fv1 p7
        (h)
        (fun m1 hI1 k2 x3 e4 x5 e6 q7 q8 m9 hI9 k10 hm2 => by
          obtain ⟨J1, s, js, jr, jP⟩ := k2.1
          have fvD : (gi m1 221 41).toInt = (gi mem 221 41).toInt := by omega
          have fe : fv.toInt = (gi m1 221 41).toInt - 1 := by omega
          have sn := jn_nil jr
          subst sn
          have e45 : (gi m9 221 45).toInt = 1 := by rw [fr_gi k10.1.1 rfl, ((gi_sv_ne (by decide)).trans (gi_sv_ne (by decide))), fr_gi J1 rfl]; exact h45
          have kd' := kdk (h.2.1.2.2)
          exact go_p hm2 (o := 1) e45 (s := (gi m1 221 4).toInt) (by omega) (PI_cls hI1 jP (fr_sv rfl (fr_sv rfl (fr_rf))) k10.1 (by rw [((gi_sv_ne (by decide)).trans (gi_eqO (isO_of hI1) (by decide)))]; omega) (by rw [(gi_eqO (isO_sv (isO_of hI1)) (by decide))]; omega) (by omega) (Or.inl ⟨by omega, ((gi_sv_ne (by decide)).trans (gi_sv_ne (by decide))), ((ga_sv).trans (ga_sv)), ((ga_sv).trans (ga_sv))⟩) (Or.inl (((ga_sv).trans (ga_sv)))) (by omega)))
        (fun m1 hI1 k2 x3 e4 x5 e6 q7 q8 x11 e12 m13 hI13 k14 hm2 => by
          obtain ⟨J1, s, js, jr, jP⟩ := k2.1
          have fvD : (gi m1 221 41).toInt = (gi mem 221 41).toInt := by omega
          have fe : fv.toInt = (gi m1 221 41).toInt - 1 := by omega
          have sn := jn_nil jr
          subst sn
          have e45 : (gi m13 221 45).toInt = 1 := by rw [fr_gi k14.1.1 rfl, ((gi_sa).trans ((gi_sv_ne (by decide)).trans (gi_sv_ne (by decide)))), fr_gi J1 rfl]; exact h45
          have kd' := kdk (h.2.1.2.2)
          exact go_p hm2 (o := 1) e45 (s := (gi m1 221 4).toInt) (by omega) (PI_cls hI1 jP (fr_sa rfl (fr_sv rfl (fr_sv rfl (fr_rf)))) k14.1 (by rw [((gi_sa).trans ((gi_sv_ne (by decide)).trans (gi_eqO (isO_of hI1) (by decide))))]; omega) (by rw [((gi_sa).trans (gi_eqO (isO_sv (isO_of hI1)) (by decide)))]; omega) (by omega) (Or.inl ⟨by omega, ((gi_sa).trans ((gi_sv_ne (by decide)).trans (gi_sv_ne (by decide)))), ((ga_sa_ne (by decide)).trans ((ga_sv).trans (ga_sv))), ((ga_sa_ne (by decide)).trans ((ga_sv).trans (ga_sv)))⟩) (Or.inr ⟨x11, by omega, (ga_sa_eq.trans (congrArg (fun l => List.set l x11.toNatClampNeg 2) ((ga_sv).trans (ga_sv))))⟩) (by omega)))
        (fun m1 hI1 k2 x3 e4 x5 e6 q7 y15 e16 x17 e18 x19 e20 x21 e22 x23 e24 x25 e26 m27 hI27 k28 hm2 => by
          obtain ⟨J1, s, js, jr, jP⟩ := k2.1
          have fvD : (gi m1 221 41).toInt = (gi mem 221 41).toInt := by omega
          have fe : fv.toInt = (gi m1 221 41).toInt - 1 := by omega
          have sn := jn_nil jr
          subst sn
          have e45 : (gi m27 221 45).toInt = 1 := by rw [fr_gi k28.1.1 rfl, ((gi_sv_ne (by decide)).trans ((gi_sa).trans ((gi_sa).trans ((gi_sv_ne (by decide)).trans (gi_sv_ne (by decide)))))), fr_gi J1 rfl]; exact h45
          have kd' := kdk (h.2.1.2.2)
          rw [fe] at e16
          exact go_p hm2 (o := 1) e45 (s := (gi m1 221 4).toInt) (by omega) (PI_cls hI1 jP (fr_sv rfl (fr_sa rfl (fr_sa rfl (fr_sv rfl (fr_sv rfl (fr_rf)))))) k28.1 (by rw [((gi_sv_ne (by decide)).trans ((gi_sa).trans ((gi_sa).trans ((gi_sv_ne (by decide)).trans (gi_eqO (isO_of hI1) (by decide))))))]; omega) (by rw [((gi_sv_ne (by decide)).trans ((gi_sa).trans ((gi_sa).trans (gi_eqO (isO_sv (isO_of hI1)) (by decide)))))]; omega) (by omega) (Or.inr ⟨by omega, by rw [(gi_eqO (isO_sa (by decide) (isO_sa (by decide) (isO_sv (isO_sv (isO_of hI1))))) (by decide))]; omega, x19, y15, x23, 0, by omega, by omega, ((ga_sv).trans ((ga_sa_ne (by decide)).trans (ga_sa_eq.trans (congrArg (fun l => List.set l x19.toNatClampNeg y15) ((ga_sv).trans (ga_sv)))))), by omega, ((ga_sv).trans (ga_sa_eq.trans (congrArg (fun l => List.set l x23.toNatClampNeg 0) ((ga_sa_ne (by decide)).trans ((ga_sv).trans (ga_sv))))))⟩) (Or.inl (((ga_sv).trans ((ga_sa_ne (by decide)).trans ((ga_sa_ne (by decide)).trans ((ga_sv).trans (ga_sv))))))) (by omega)))
set_option maxRecDepth 100000 in
theorem w_go_518 {d : Nat} {mem : zM} {P : Option Value → zM → Prop} {mr : zM} {fm : Int} {f : Fm} {r : List Fm} {fv kv : Int32} {lo : List (Nat × Value)} (hm : aTm aT0 mem) (l_0 : zlg lo 0 = some (.ref 221)) (l_1 : zlg lo 1 = some (.int fv)) (l_2 : zlg lo 2 = some (.int kv)) (p1 : 1 ≤ (gi mem 221 41).toInt ∧ (gi mem 221 41).toInt ≤ 8) (p2 : 0 ≤ (gi mem 221 44).toInt ∧ (gi mem 221 44).toInt ≤ 60) (p3 : 0 ≤ (gi mem 221 33).toInt ∧ (gi mem 221 33).toInt ≤ 1599) (p4 : 0 ≤ (gi mem 221 42).toInt ∧ (gi mem 221 42).toInt ≤ 7) (p6 : (gi mem 221 5).toInt ≤ (gi mem 221 2).toInt) (h1 : ¬ (kv).toInt = 5 → ∀ (v2 : Int32), ((v2.toInt = 0 ∧ ¬ ((gi mem 221 3).toInt = 3 ∧ (gi mem 221 6).toInt = 41)) ∨ (v2.toInt = 1 ∧ (gi mem 221 3).toInt = 3 ∧ (gi mem 221 6).toInt = 41)) → ¬ (v2).toInt = 0 → (gi mem 221 8).toInt ≤ 0 → ∀ lo, zlg lo 0 = some (.ref 221) → zlg lo 1 = some (.int fv) → zlg lo 2 = some (.int kv) → aTm aT0 mem → yR zpg tX12_goesOn (d + 5) (555, lo, [], mem) P) (h2 : ¬ (kv).toInt = 5 → ∀ (v2 : Int32), ((v2.toInt = 0 ∧ ¬ ((gi mem 221 3).toInt = 3 ∧ (gi mem 221 6).toInt = 41)) ∨ (v2.toInt = 1 ∧ (gi mem 221 3).toInt = 3 ∧ (gi mem 221 6).toInt = 41)) → ¬ (v2).toInt = 0 → 0 < (gi mem 221 8).toInt → aTm aT0 mem → P (some (.int 0)) mem) (h3 : ¬ (kv).toInt = 5 → ∀ (v2 : Int32), ((v2.toInt = 0 ∧ ¬ ((gi mem 221 3).toInt = 3 ∧ (gi mem 221 6).toInt = 41)) ∨ (v2.toInt = 1 ∧ (gi mem 221 3).toInt = 3 ∧ (gi mem 221 6).toInt = 41)) → (v2).toInt = 0 → (gi mem 221 8).toInt ≤ 0 → aTm aT0 (si (si mem 221 8 1) 221 9 (gi mem 221 4)) → P (some (.int 0)) (si (si mem 221 8 1) 221 9 (gi mem 221 4))) (h4 : ¬ (kv).toInt = 5 → ∀ (v2 : Int32), ((v2.toInt = 0 ∧ ¬ ((gi mem 221 3).toInt = 3 ∧ (gi mem 221 6).toInt = 41)) ∨ (v2.toInt = 1 ∧ (gi mem 221 3).toInt = 3 ∧ (gi mem 221 6).toInt = 41)) → (v2).toInt = 0 → 0 < (gi mem 221 8).toInt → aTm aT0 mem → P (some (.int 0)) mem) (h5 : (kv).toInt = 5 → ∀ (v7 : Int32), ((v7.toInt = 0 ∧ ¬ ((gi mem 221 3).toInt = 3 ∧ (gi mem 221 6).toInt = 93)) ∨ (v7.toInt = 1 ∧ (gi mem 221 3).toInt = 3 ∧ (gi mem 221 6).toInt = 93)) → ¬ (v7).toInt = 0 → (gi mem 221 8).toInt ≤ 0 → ∀ lo, zlg lo 0 = some (.ref 221) → zlg lo 1 = some (.int fv) → zlg lo 2 = some (.int kv) → aTm aT0 mem → yR zpg tX12_goesOn (d + 5) (555, lo, [], mem) P) (h6 : (kv).toInt = 5 → ∀ (v7 : Int32), ((v7.toInt = 0 ∧ ¬ ((gi mem 221 3).toInt = 3 ∧ (gi mem 221 6).toInt = 93)) ∨ (v7.toInt = 1 ∧ (gi mem 221 3).toInt = 3 ∧ (gi mem 221 6).toInt = 93)) → ¬ (v7).toInt = 0 → 0 < (gi mem 221 8).toInt → aTm aT0 mem → P (some (.int 0)) mem) (h7 : (kv).toInt = 5 → ∀ (v7 : Int32), ((v7.toInt = 0 ∧ ¬ ((gi mem 221 3).toInt = 3 ∧ (gi mem 221 6).toInt = 93)) ∨ (v7.toInt = 1 ∧ (gi mem 221 3).toInt = 3 ∧ (gi mem 221 6).toInt = 93)) → (v7).toInt = 0 → (gi mem 221 8).toInt ≤ 0 → aTm aT0 (si (si mem 221 8 1) 221 9 (gi mem 221 4)) → P (some (.int 0)) (si (si mem 221 8 1) 221 9 (gi mem 221 4))) (h8 : (kv).toInt = 5 → ∀ (v7 : Int32), ((v7.toInt = 0 ∧ ¬ ((gi mem 221 3).toInt = 3 ∧ (gi mem 221 6).toInt = 93)) ∨ (v7.toInt = 1 ∧ (gi mem 221 3).toInt = 3 ∧ (gi mem 221 6).toInt = 93)) → (v7).toInt = 0 → 0 < (gi mem 221 8).toInt → aTm aT0 mem → P (some (.int 0)) mem) : yR zpg tX12_goesOn (d + 5) (518, lo, [], mem) P := by
  obtain ⟨i0, i1⟩ := mO_r34 hm
  refine wR_la rfl l_0 ?_
  refine wR_li rfl l_2 ?_
  refine yR_m 1 (fun _ _ _ _ => rfl) ?_
  refine wR_ic_ne rfl (a := (kv).toInt) (c := 5) rfl rfl (fun q1 => ?_) (fun q1 => ?_)
  ·
    refine yR_m 1 (fun _ _ _ _ => rfl) ?_
    refine wR_cv rfl rfl mO_e hm rfl (c_isSign2 hm rfl rfl (by omega)) ?_
    rintro _ _ ⟨v2, rfl, rfl, k3⟩
    show yR zpg tX12_goesOn (d + 5) (534, lo, [.int v2], mem) _
    refine wR_if_ne rfl (a := (v2).toInt) rfl (fun q4 => ?_) (fun q4 => ?_)
    ·
      refine wR_la rfl l_0 ?_
      refine wR_gi rfl mO_e mO_8 hm rfl ?_
      refine wR_if_le rfl (a := (gi mem 221 8).toInt) rfl (fun q5 => ?_) (fun q5 => ?_)
      ·
        exact h1 q1 v2 k3 q4 q5 lo l_0 l_1 l_2 hm
      ·
        refine yR_m 1 (fun _ _ _ _ => rfl) ?_
        exact yR_rz rfl ⟨by decide, by decide⟩ (h2 q1 v2 k3 q4 q5 hm)
    ·
      refine wR_la rfl l_0 ?_
      refine yR_m 1 (fun _ _ _ _ => rfl) ?_
      refine wR_la rfl l_0 ?_
      refine wR_gi rfl mO_e mO_4 hm rfl ?_
      refine wR_iv rfl rfl mO_e hm rfl rfl rfl rfl ?_
      show yR zpg tX12_blame (d + 4) (0, [(0, .ref 221), (1, .int 1), (2, .int (gi mem 221 4))], [], mem) _
      refine yR_m 1 (fun _ _ _ _ => rfl) ?_
      refine wR_gi rfl mO_e mO_8 hm rfl ?_
      refine wR_if_le rfl (a := (gi mem 221 8).toInt) rfl (fun q6 => ?_) (fun q6 => ?_)
      ·
        refine yR_m 2 (fun _ _ _ _ => rfl) ?_
        refine wR_pi rfl mO_e mO_8 hm rfl ?_
        have hm_1 : aTm aT0 (si mem 221 8 1) := tm_si mO_e mO_8 hm (i32_b _)
        refine yR_m 2 (fun _ _ _ _ => rfl) ?_
        refine wR_pi rfl mO_e mO_9 hm_1 rfl ?_
        have hm_2 : aTm aT0 (si (si mem 221 8 1) 221 9 (gi mem 221 4)) := tm_si mO_e mO_9 hm_1 (i32_b _)
        refine yR_rv rfl ?_
        show yR zpg tX12_goesOn (d + 5) (546, lo, [], (si (si mem 221 8 1) 221 9 (gi mem 221 4))) _
        refine wR_la rfl l_0 ?_
        refine wR_gi rfl mO_e mO_8 hm_2 ((gi_sv_ne (by decide)).trans (gi_si_eq mO_e mO_8 hm)) ?_
        refine wR_if_le rfl (a := 1) rfl (fun q => by exfalso; omega) (fun _ => ?_)
        refine yR_m 1 (fun _ _ _ _ => rfl) ?_
        exact yR_rz rfl ⟨by decide, by decide⟩ (h3 q1 v2 k3 q4 q6 hm_2)
      ·
        refine yR_rv rfl ?_
        show yR zpg tX12_goesOn (d + 5) (546, lo, [], mem) _
        refine wR_la rfl l_0 ?_
        refine wR_gi rfl mO_e mO_8 hm rfl ?_
        refine wR_if_le rfl (a := (gi mem 221 8).toInt) rfl (fun q => by exfalso; omega) (fun _ => ?_)
        refine yR_m 1 (fun _ _ _ _ => rfl) ?_
        exact yR_rz rfl ⟨by decide, by decide⟩ (h4 q1 v2 k3 q4 q6 hm)
  ·
    refine yR_m 2 (fun _ _ _ _ => rfl) ?_
    refine wR_cv rfl rfl mO_e hm rfl (c_isSign2 hm rfl rfl (by omega)) ?_
    rintro _ _ ⟨v7, rfl, rfl, k8⟩
    show yR zpg tX12_goesOn (d + 5) (534, lo, [.int v7], mem) _
    refine wR_if_ne rfl (a := (v7).toInt) rfl (fun q9 => ?_) (fun q9 => ?_)
    ·
      refine wR_la rfl l_0 ?_
      refine wR_gi rfl mO_e mO_8 hm rfl ?_
      refine wR_if_le rfl (a := (gi mem 221 8).toInt) rfl (fun q10 => ?_) (fun q10 => ?_)
      ·
        exact h5 q1 v7 k8 q9 q10 lo l_0 l_1 l_2 hm
      ·
        refine yR_m 1 (fun _ _ _ _ => rfl) ?_
        exact yR_rz rfl ⟨by decide, by decide⟩ (h6 q1 v7 k8 q9 q10 hm)
    ·
      refine wR_la rfl l_0 ?_
      refine yR_m 1 (fun _ _ _ _ => rfl) ?_
      refine wR_la rfl l_0 ?_
      refine wR_gi rfl mO_e mO_4 hm rfl ?_
      refine wR_iv rfl rfl mO_e hm rfl rfl rfl rfl ?_
      show yR zpg tX12_blame (d + 4) (0, [(0, .ref 221), (1, .int 1), (2, .int (gi mem 221 4))], [], mem) _
      refine yR_m 1 (fun _ _ _ _ => rfl) ?_
      refine wR_gi rfl mO_e mO_8 hm rfl ?_
      refine wR_if_le rfl (a := (gi mem 221 8).toInt) rfl (fun q11 => ?_) (fun q11 => ?_)
      ·
        refine yR_m 2 (fun _ _ _ _ => rfl) ?_
        refine wR_pi rfl mO_e mO_8 hm rfl ?_
        have hm_3 : aTm aT0 (si mem 221 8 1) := tm_si mO_e mO_8 hm (i32_b _)
        refine yR_m 2 (fun _ _ _ _ => rfl) ?_
        refine wR_pi rfl mO_e mO_9 hm_3 rfl ?_
        have hm_4 : aTm aT0 (si (si mem 221 8 1) 221 9 (gi mem 221 4)) := tm_si mO_e mO_9 hm_3 (i32_b _)
        refine yR_rv rfl ?_
        show yR zpg tX12_goesOn (d + 5) (546, lo, [], (si (si mem 221 8 1) 221 9 (gi mem 221 4))) _
        refine wR_la rfl l_0 ?_
        refine wR_gi rfl mO_e mO_8 hm_4 ((gi_sv_ne (by decide)).trans (gi_si_eq mO_e mO_8 hm)) ?_
        refine wR_if_le rfl (a := 1) rfl (fun q => by exfalso; omega) (fun _ => ?_)
        refine yR_m 1 (fun _ _ _ _ => rfl) ?_
        exact yR_rz rfl ⟨by decide, by decide⟩ (h7 q1 v7 k8 q9 q11 hm_4)
      ·
        refine yR_rv rfl ?_
        show yR zpg tX12_goesOn (d + 5) (546, lo, [], mem) _
        refine wR_la rfl l_0 ?_
        refine wR_gi rfl mO_e mO_8 hm rfl ?_
        refine wR_if_le rfl (a := (gi mem 221 8).toInt) rfl (fun q => by exfalso; omega) (fun _ => ?_)
        refine yR_m 1 (fun _ _ _ _ => rfl) ?_
        exact yR_rz rfl ⟨by decide, by decide⟩ (h8 q1 v7 k8 q9 q11 hm)

theorem go_518 {fv kv : Int32} {lo : List (Nat × Value)} (hm : aTm aT0 mem) (h : goS mr mem fm f r) (hs : s0 ≤ (gi mem 221 4).toInt) (h45 : (gi mem 221 45).toInt = 1) (fv1 : fv.toInt = (gi mem 221 41).toInt - 1) (kv1 : kv.toInt = f.1) (hk : ¬ kv.toInt = 3 ∧ ¬ kv.toInt = 6 ∧ 2 ≤ kv.toInt) (a0 : zlg lo 0 = some (.ref 221)) (a1 : zlg lo 1 = some (.int fv)) (a2 : zlg lo 2 = some (.int kv)) : yR zpg tX12_goesOn (d + 5) (518, lo, [], mem) (goP mr fm s0) := by
  have h0 := h
  obtain ⟨⟨hB, hT⟩, ⟨p1, p2, p3, p4⟩, hP⟩ := h
  have t := hT.1.1
  have hT8 : 0 ≤ (gi mem 221 8).toInt := hT.2
  exact w_go_518 (mr := mr) (fm := fm) (f := f) (r := r) hm a0 a1 a2 p1 p2 p3 p4 (by omega)
        (fun q1 v2 k3 q4 q5 lo a0 a1 a2 hm => go_555 hm (hP (by omega)) hs h45 fv1 kv1 (by omega) hk a0 a1 a2)
        (fun q1 v2 k3 q4 q5 hm2 => go_f hm2 hB hT fr_rf (by show 1 ≤ (gi mem 221 8).toInt; omega) (by decide))
        (fun q1 v2 k3 q4 q6 hm2 => go_f hm2 hB hT (fr_sv rfl (fr_sv rfl (fr_rf))) (by show 1 ≤ (gi (si (si mem 221 8 1) 221 9 (gi mem 221 4)) 221 8).toInt; rw [((gi_sv_ne (by decide)).trans (gi_eqO (isO_of hm) (by decide)))]; decide) (by decide))
        (fun q1 v2 k3 q4 q6 hm2 => go_f hm2 hB hT fr_rf (by show 1 ≤ (gi mem 221 8).toInt; omega) (by decide))
        (fun q1 v7 k8 q9 q10 lo a0 a1 a2 hm => go_555 hm (hP (by omega)) hs h45 fv1 kv1 (by omega) hk a0 a1 a2)
        (fun q1 v7 k8 q9 q10 hm2 => go_f hm2 hB hT fr_rf (by show 1 ≤ (gi mem 221 8).toInt; omega) (by decide))
        (fun q1 v7 k8 q9 q11 hm2 => go_f hm2 hB hT (fr_sv rfl (fr_sv rfl (fr_rf))) (by show 1 ≤ (gi (si (si mem 221 8 1) 221 9 (gi mem 221 4)) 221 8).toInt; rw [((gi_sv_ne (by decide)).trans (gi_eqO (isO_of hm) (by decide)))]; decide) (by decide))
        (fun q1 v7 k8 q9 q11 hm2 => go_f hm2 hB hT fr_rf (by show 1 ≤ (gi mem 221 8).toInt; omega) (by decide))
set_option maxRecDepth 100000 in
theorem w_go_479 {d : Nat} {mem : zM} {P : Option Value → zM → Prop} {mr : zM} {fm : Int} {f : Fm} {r : List Fm} {fv kv : Int32} {lo : List (Nat × Value)} (hm : aTm aT0 mem) (l_0 : zlg lo 0 = some (.ref 221)) (l_1 : zlg lo 1 = some (.int fv)) (l_2 : zlg lo 2 = some (.int kv)) (p1 : 1 ≤ (gi mem 221 41).toInt ∧ (gi mem 221 41).toInt ≤ 8) (p2 : 0 ≤ (gi mem 221 44).toInt ∧ (gi mem 221 44).toInt ≤ 60) (p3 : 0 ≤ (gi mem 221 33).toInt ∧ (gi mem 221 33).toInt ≤ 1599) (p4 : 0 ≤ (gi mem 221 42).toInt ∧ (gi mem 221 42).toInt ≤ 7) (p6 : (gi mem 221 5).toInt ≤ (gi mem 221 2).toInt) (fv1 : fv.toInt = (gi mem 221 41).toInt - 1) (s1 : PI mr mem fm (f :: r) 1) (h1 : ∀ (m1 : zM), aTm aT0 m1 → (jnQ mem m1 mr fm f r 1 ∧ (gi m1 221 41).toInt = (gi mem 221 41).toInt ∧ (gi m1 221 3).toInt = (gi mem 221 3).toInt ∧ (gi m1 221 6).toInt = (gi mem 221 6).toInt ∧ (gi m1 221 4).toInt = (gi mem 221 4).toInt ∧ (gi m1 221 5).toInt = (gi mem 221 5).toInt ∧ (gi m1 221 2).toInt = (gi mem 221 2).toInt ∧ (gi m1 221 8).toInt = (gi mem 221 8).toInt ∧ (0 ≤ (gi m1 221 44).toInt ∧ (gi m1 221 44).toInt ≤ 60) ∧ (0 ≤ (gi m1 221 33).toInt ∧ (gi m1 221 33).toInt ≤ 1599) ∧ (0 ≤ (gi m1 221 42).toInt ∧ (gi m1 221 42).toInt ≤ 7) ∧ (0 ≤ (gi m1 221 34).toInt ∧ (gi m1 221 34).toInt ≤ 1)) → ¬ (kv).toInt = 3 → ∀ (m4 : zM), aTm aT0 m4 → (ahQ (sx (sx m1 242 fv 3) 243 fv 0) m4 ∧ (gi m4 221 41).toInt = (gi m1 221 41).toInt ∧ (gi m4 221 42).toInt = (gi m1 221 42).toInt ∧ (gi m4 221 44).toInt = (gi m1 221 44).toInt ∧ (gi m4 221 33).toInt = (gi m1 221 33).toInt ∧ (gi m4 221 8).toInt = (gi m1 221 8).toInt ∧ (gi m1 221 5).toInt ≤ (gi m4 221 4).toInt ∧ (gi m4 221 4).toInt ≤ (gi m4 221 5).toInt ∧ (gi m4 221 5).toInt ≤ (gi m4 221 2).toInt) → aTm aT0 (si m4 221 45 0) → P (some (.int 1)) (si m4 221 45 0)) (h2 : ∀ (m1 : zM), aTm aT0 m1 → (jnQ mem m1 mr fm f r 1 ∧ (gi m1 221 41).toInt = (gi mem 221 41).toInt ∧ (gi m1 221 3).toInt = (gi mem 221 3).toInt ∧ (gi m1 221 6).toInt = (gi mem 221 6).toInt ∧ (gi m1 221 4).toInt = (gi mem 221 4).toInt ∧ (gi m1 221 5).toInt = (gi mem 221 5).toInt ∧ (gi m1 221 2).toInt = (gi mem 221 2).toInt ∧ (gi m1 221 8).toInt = (gi mem 221 8).toInt ∧ (0 ≤ (gi m1 221 44).toInt ∧ (gi m1 221 44).toInt ≤ 60) ∧ (0 ≤ (gi m1 221 33).toInt ∧ (gi m1 221 33).toInt ≤ 1599) ∧ (0 ≤ (gi m1 221 42).toInt ∧ (gi m1 221 42).toInt ≤ 7) ∧ (0 ≤ (gi m1 221 34).toInt ∧ (gi m1 221 34).toInt ≤ 1)) → (kv).toInt = 3 → ∀ (m6 : zM), aTm aT0 m6 → (ahQ (sx (sx m1 242 fv 4) 243 fv 0) m6 ∧ (gi m6 221 41).toInt = (gi m1 221 41).toInt ∧ (gi m6 221 42).toInt = (gi m1 221 42).toInt ∧ (gi m6 221 44).toInt = (gi m1 221 44).toInt ∧ (gi m6 221 33).toInt = (gi m1 221 33).toInt ∧ (gi m6 221 8).toInt = (gi m1 221 8).toInt ∧ (gi m1 221 5).toInt ≤ (gi m6 221 4).toInt ∧ (gi m6 221 4).toInt ≤ (gi m6 221 5).toInt ∧ (gi m6 221 5).toInt ≤ (gi m6 221 2).toInt) → aTm aT0 (si m6 221 45 0) → P (some (.int 1)) (si m6 221 45 0)) : yR zpg tX12_goesOn (d + 5) (479, lo, [], mem) P := by
  obtain ⟨i0, i1⟩ := mO_r34 hm
  refine wR_la rfl l_0 ?_
  refine yR_m 1 (fun _ _ _ _ => rfl) ?_
  refine wR_cv rfl rfl mO_e hm rfl (h_joins2 (by omega) hm s1 rfl rfl rfl rfl rfl rfl rfl) ?_
  rintro _ m1 ⟨rfl, hI1, k2⟩
  show yR zpg tX12_goesOn (d + 5) (484, lo, [], m1) _
  refine wR_la rfl l_0 ?_
  refine wR_gr rfl mO_e mO_36 hI1 ?_
  refine wR_li rfl l_1 ?_
  refine wR_li rfl l_2 ?_
  refine yR_m 1 (fun _ _ _ _ => rfl) ?_
  refine wR_ic_ne rfl (a := (kv).toInt) (c := 3) rfl rfl (fun q3 => ?_) (fun q3 => ?_)
  ·
    refine yR_m 1 (fun _ _ _ _ => rfl) ?_
    refine wN_as (a := (fv).toInt) rfl aR_242 hI1 rfl (by omega) ?_
    have hm_1 : aTm aT0 (sx m1 242 fv 3) := tm_sa aR_242 hI1 (i32_b _)
    refine wR_la rfl l_0 ?_
    refine wR_gr rfl mO_e mO_37 hm_1 ?_
    refine wR_li rfl l_1 ?_
    refine yR_m 1 (fun _ _ _ _ => rfl) ?_
    refine wN_as (a := (fv).toInt) rfl aR_243 hm_1 rfl (by omega) ?_
    have hm_2 : aTm aT0 (sx (sx m1 242 fv 3) 243 fv 0) := tm_sa aR_243 hm_1 (i32_b _)
    refine wR_la rfl l_0 ?_
    refine wR_cv rfl rfl mO_e hm_2 rfl (h_ahead3 (by omega) hm_2 ((gi_sa).trans (gi_sa)) ((gi_sa).trans (gi_sa)) (by omega) ((gi_sa).trans (gi_sa)) ((gi_sa).trans (gi_sa)) ((gi_sa).trans (gi_sa)) ((gi_sa).trans (gi_sa)) ((gi_sa).trans (gi_sa))) ?_
    rintro _ m4 ⟨rfl, hI4, k5⟩
    show yR zpg tX12_goesOn (d + 5) (511, lo, [], m4) _
    refine wR_la rfl l_0 ?_
    refine yR_m 1 (fun _ _ _ _ => rfl) ?_
    refine wR_pi rfl mO_e mO_45 hI4 rfl ?_
    have hm_3 : aTm aT0 (si m4 221 45 0) := tm_si mO_e mO_45 hI4 (by decide)
    refine yR_m 1 (fun _ _ _ _ => rfl) ?_
    exact yR_rz rfl ⟨by decide, by decide⟩ (h1 m1 hI1 k2 q3 m4 hI4 k5 hm_3)
  ·
    refine yR_m 2 (fun _ _ _ _ => rfl) ?_
    refine wN_as (a := (fv).toInt) rfl aR_242 hI1 rfl (by omega) ?_
    have hm_4 : aTm aT0 (sx m1 242 fv 4) := tm_sa aR_242 hI1 (i32_b _)
    refine wR_la rfl l_0 ?_
    refine wR_gr rfl mO_e mO_37 hm_4 ?_
    refine wR_li rfl l_1 ?_
    refine yR_m 1 (fun _ _ _ _ => rfl) ?_
    refine wN_as (a := (fv).toInt) rfl aR_243 hm_4 rfl (by omega) ?_
    have hm_5 : aTm aT0 (sx (sx m1 242 fv 4) 243 fv 0) := tm_sa aR_243 hm_4 (i32_b _)
    refine wR_la rfl l_0 ?_
    refine wR_cv rfl rfl mO_e hm_5 rfl (h_ahead3 (by omega) hm_5 ((gi_sa).trans (gi_sa)) ((gi_sa).trans (gi_sa)) (by omega) ((gi_sa).trans (gi_sa)) ((gi_sa).trans (gi_sa)) ((gi_sa).trans (gi_sa)) ((gi_sa).trans (gi_sa)) ((gi_sa).trans (gi_sa))) ?_
    rintro _ m6 ⟨rfl, hI6, k7⟩
    show yR zpg tX12_goesOn (d + 5) (511, lo, [], m6) _
    refine wR_la rfl l_0 ?_
    refine yR_m 1 (fun _ _ _ _ => rfl) ?_
    refine wR_pi rfl mO_e mO_45 hI6 rfl ?_
    have hm_6 : aTm aT0 (si m6 221 45 0) := tm_si mO_e mO_45 hI6 (by decide)
    refine yR_m 1 (fun _ _ _ _ => rfl) ?_
    exact yR_rz rfl ⟨by decide, by decide⟩ (h2 m1 hI1 k2 q3 m6 hI6 k7 hm_6)

theorem go_479 {fv kv : Int32} {lo : List (Nat × Value)} (hm : aTm aT0 mem) (h : PI mr mem fm (f :: r) 1) (hs : s0 ≤ (gi mem 221 4).toInt) (h45 : (gi mem 221 45).toInt = 1) (fv1 : fv.toInt = (gi mem 221 41).toInt - 1) (kv1 : kv.toInt = f.1) (sg : ¬ (gi mem 221 3).toInt = 0) (hk : kv.toInt = 3 ∨ kv.toInt = 6) (a0 : zlg lo 0 = some (.ref 221)) (a1 : zlg lo 1 = some (.int fv)) (a2 : zlg lo 2 = some (.int kv)) : yR zpg tX12_goesOn (d + 5) (479, lo, [], mem) (goP mr fm s0) := by
  have pp := PI_pp hm h
  have hT := h.1.2.1
  obtain ⟨p1, p2, p3, p4, p6, p8, p9⟩ := pp
  exact w_go_479 (mr := mr) (fm := fm) (f := f) (r := r) hm a0 a1 a2 p1 p2 p3 p4 p6 fv1
        (h)
        (fun m1 hI1 k2 q3 m4 hI4 k5 hm2 => by
          obtain ⟨J1, s, js, jr, jP⟩ := k2.1
          have sn := jn_nil jr
          subst sn
          exact go_p hm2 (o := 0) (by rw [(gi_eqO (isO_of hI4) (by decide))]; rfl) (s := (gi m1 221 4).toInt) (by omega) (PI_com (x := fv) (v := 3) (z := 0) (k' := 3) hI1 jP (fr_sa rfl (fr_sa rfl (fr_rf))) k5.1 (fr_sv rfl fr_rf) (((ga_sa_ne (by decide)).trans ga_sa_eq)) ((ga_sa_eq.trans (congrArg (fun l => List.set l fv.toNatClampNeg 0) (ga_sa_ne (by decide))))) rfl rfl (by omega) (by omega) (by omega)))
        (fun m1 hI1 k2 q3 m6 hI6 k7 hm2 => by
          obtain ⟨J1, s, js, jr, jP⟩ := k2.1
          have sn := jn_nil jr
          subst sn
          exact go_p hm2 (o := 0) (by rw [(gi_eqO (isO_of hI6) (by decide))]; rfl) (s := (gi m1 221 4).toInt) (by omega) (PI_com (x := fv) (v := 4) (z := 0) (k' := 4) hI1 jP (fr_sa rfl (fr_sa rfl (fr_rf))) k7.1 (fr_sv rfl fr_rf) (((ga_sa_ne (by decide)).trans ga_sa_eq)) ((ga_sa_eq.trans (congrArg (fun l => List.set l fv.toNatClampNeg 0) (ga_sa_ne (by decide))))) rfl rfl (by omega) (by omega) (by omega)))
set_option maxRecDepth 100000 in
theorem w_go_452 {d : Nat} {mem : zM} {P : Option Value → zM → Prop} {mr : zM} {fm : Int} {f : Fm} {r : List Fm} {fv kv : Int32} {lo : List (Nat × Value)} (hm : aTm aT0 mem) (l_0 : zlg lo 0 = some (.ref 221)) (l_1 : zlg lo 1 = some (.int fv)) (l_2 : zlg lo 2 = some (.int kv)) (p1 : 1 ≤ (gi mem 221 41).toInt ∧ (gi mem 221 41).toInt ≤ 8) (p2 : 0 ≤ (gi mem 221 44).toInt ∧ (gi mem 221 44).toInt ≤ 60) (p3 : 0 ≤ (gi mem 221 33).toInt ∧ (gi mem 221 33).toInt ≤ 1599) (p4 : 0 ≤ (gi mem 221 42).toInt ∧ (gi mem 221 42).toInt ≤ 7) (p6 : (gi mem 221 5).toInt ≤ (gi mem 221 2).toInt) (h1 : ∀ (v1 : Int32), ((v1.toInt = 0 ∧ ¬ ((gi mem 221 3).toInt = 3 ∧ (gi mem 221 6).toInt = 44)) ∨ (v1.toInt = 1 ∧ (gi mem 221 3).toInt = 3 ∧ (gi mem 221 6).toInt = 44)) → ¬ (v1).toInt = 0 → (gi mem 221 8).toInt ≤ 0 → ∀ lo, zlg lo 0 = some (.ref 221) → zlg lo 1 = some (.int fv) → zlg lo 2 = some (.int kv) → aTm aT0 mem → yR zpg tX12_goesOn (d + 5) (479, lo, [], mem) P) (h2 : ∀ (v1 : Int32), ((v1.toInt = 0 ∧ ¬ ((gi mem 221 3).toInt = 3 ∧ (gi mem 221 6).toInt = 44)) ∨ (v1.toInt = 1 ∧ (gi mem 221 3).toInt = 3 ∧ (gi mem 221 6).toInt = 44)) → ¬ (v1).toInt = 0 → 0 < (gi mem 221 8).toInt → aTm aT0 mem → P (some (.int 0)) mem) (h3 : ∀ (v1 : Int32), ((v1.toInt = 0 ∧ ¬ ((gi mem 221 3).toInt = 3 ∧ (gi mem 221 6).toInt = 44)) ∨ (v1.toInt = 1 ∧ (gi mem 221 3).toInt = 3 ∧ (gi mem 221 6).toInt = 44)) → (v1).toInt = 0 → (gi mem 221 8).toInt ≤ 0 → aTm aT0 (si (si mem 221 8 1) 221 9 (gi mem 221 4)) → P (some (.int 0)) (si (si mem 221 8 1) 221 9 (gi mem 221 4))) (h4 : ∀ (v1 : Int32), ((v1.toInt = 0 ∧ ¬ ((gi mem 221 3).toInt = 3 ∧ (gi mem 221 6).toInt = 44)) ∨ (v1.toInt = 1 ∧ (gi mem 221 3).toInt = 3 ∧ (gi mem 221 6).toInt = 44)) → (v1).toInt = 0 → 0 < (gi mem 221 8).toInt → aTm aT0 mem → P (some (.int 0)) mem) : yR zpg tX12_goesOn (d + 5) (452, lo, [], mem) P := by
  obtain ⟨i0, i1⟩ := mO_r34 hm
  refine wR_la rfl l_0 ?_
  refine yR_m 1 (fun _ _ _ _ => rfl) ?_
  refine wR_cv rfl rfl mO_e hm rfl (c_isSign2 hm rfl rfl (by omega)) ?_
  rintro _ _ ⟨v1, rfl, rfl, k2⟩
  show yR zpg tX12_goesOn (d + 5) (458, lo, [.int v1], mem) _
  refine wR_if_ne rfl (a := (v1).toInt) rfl (fun q3 => ?_) (fun q3 => ?_)
  ·
    refine wR_la rfl l_0 ?_
    refine wR_gi rfl mO_e mO_8 hm rfl ?_
    refine wR_if_le rfl (a := (gi mem 221 8).toInt) rfl (fun q4 => ?_) (fun q4 => ?_)
    ·
      exact h1 v1 k2 q3 q4 lo l_0 l_1 l_2 hm
    ·
      refine yR_m 1 (fun _ _ _ _ => rfl) ?_
      exact yR_rz rfl ⟨by decide, by decide⟩ (h2 v1 k2 q3 q4 hm)
  ·
    refine wR_la rfl l_0 ?_
    refine yR_m 1 (fun _ _ _ _ => rfl) ?_
    refine wR_la rfl l_0 ?_
    refine wR_gi rfl mO_e mO_4 hm rfl ?_
    refine wR_iv rfl rfl mO_e hm rfl rfl rfl rfl ?_
    show yR zpg tX12_blame (d + 4) (0, [(0, .ref 221), (1, .int 1), (2, .int (gi mem 221 4))], [], mem) _
    refine yR_m 1 (fun _ _ _ _ => rfl) ?_
    refine wR_gi rfl mO_e mO_8 hm rfl ?_
    refine wR_if_le rfl (a := (gi mem 221 8).toInt) rfl (fun q5 => ?_) (fun q5 => ?_)
    ·
      refine yR_m 2 (fun _ _ _ _ => rfl) ?_
      refine wR_pi rfl mO_e mO_8 hm rfl ?_
      have hm_1 : aTm aT0 (si mem 221 8 1) := tm_si mO_e mO_8 hm (i32_b _)
      refine yR_m 2 (fun _ _ _ _ => rfl) ?_
      refine wR_pi rfl mO_e mO_9 hm_1 rfl ?_
      have hm_2 : aTm aT0 (si (si mem 221 8 1) 221 9 (gi mem 221 4)) := tm_si mO_e mO_9 hm_1 (i32_b _)
      refine yR_rv rfl ?_
      show yR zpg tX12_goesOn (d + 5) (470, lo, [], (si (si mem 221 8 1) 221 9 (gi mem 221 4))) _
      refine wR_la rfl l_0 ?_
      refine wR_gi rfl mO_e mO_8 hm_2 ((gi_sv_ne (by decide)).trans (gi_si_eq mO_e mO_8 hm)) ?_
      refine wR_if_le rfl (a := 1) rfl (fun q => by exfalso; omega) (fun _ => ?_)
      refine yR_m 1 (fun _ _ _ _ => rfl) ?_
      exact yR_rz rfl ⟨by decide, by decide⟩ (h3 v1 k2 q3 q5 hm_2)
    ·
      refine yR_rv rfl ?_
      show yR zpg tX12_goesOn (d + 5) (470, lo, [], mem) _
      refine wR_la rfl l_0 ?_
      refine wR_gi rfl mO_e mO_8 hm rfl ?_
      refine wR_if_le rfl (a := (gi mem 221 8).toInt) rfl (fun q => by exfalso; omega) (fun _ => ?_)
      refine yR_m 1 (fun _ _ _ _ => rfl) ?_
      exact yR_rz rfl ⟨by decide, by decide⟩ (h4 v1 k2 q3 q5 hm)

theorem go_452 {fv kv : Int32} {lo : List (Nat × Value)} (hm : aTm aT0 mem) (h : goS mr mem fm f r) (hs : s0 ≤ (gi mem 221 4).toInt) (h45 : (gi mem 221 45).toInt = 1) (fv1 : fv.toInt = (gi mem 221 41).toInt - 1) (kv1 : kv.toInt = f.1) (hk : kv.toInt = 3 ∨ kv.toInt = 6) (a0 : zlg lo 0 = some (.ref 221)) (a1 : zlg lo 1 = some (.int fv)) (a2 : zlg lo 2 = some (.int kv)) : yR zpg tX12_goesOn (d + 5) (452, lo, [], mem) (goP mr fm s0) := by
  have h0 := h
  obtain ⟨⟨hB, hT⟩, ⟨p1, p2, p3, p4⟩, hP⟩ := h
  have t := hT.1.1
  have hT8 : 0 ≤ (gi mem 221 8).toInt := hT.2
  exact w_go_452 (mr := mr) (fm := fm) (f := f) (r := r) hm a0 a1 a2 p1 p2 p3 p4 (by omega)
        (fun v1 k2 q3 q4 lo a0 a1 a2 hm => go_479 hm (hP (by omega)) hs h45 fv1 kv1 (by omega) hk a0 a1 a2)
        (fun v1 k2 q3 q4 hm2 => go_f hm2 hB hT fr_rf (by show 1 ≤ (gi mem 221 8).toInt; omega) (by decide))
        (fun v1 k2 q3 q5 hm2 => go_f hm2 hB hT (fr_sv rfl (fr_sv rfl (fr_rf))) (by show 1 ≤ (gi (si (si mem 221 8 1) 221 9 (gi mem 221 4)) 221 8).toInt; rw [((gi_sv_ne (by decide)).trans (gi_eqO (isO_of hm) (by decide)))]; decide) (by decide))
        (fun v1 k2 q3 q5 hm2 => go_f hm2 hB hT fr_rf (by show 1 ≤ (gi mem 221 8).toInt; omega) (by decide))
set_option maxRecDepth 100000 in
theorem w_go_441 {d : Nat} {mem : zM} {P : Option Value → zM → Prop} {mr : zM} {fm : Int} {f : Fm} {r : List Fm} {fv kv : Int32} {lo : List (Nat × Value)} (hm : aTm aT0 mem) (l_0 : zlg lo 0 = some (.ref 221)) (l_1 : zlg lo 1 = some (.int fv)) (l_2 : zlg lo 2 = some (.int kv)) (p1 : 1 ≤ (gi mem 221 41).toInt ∧ (gi mem 221 41).toInt ≤ 8) (p2 : 0 ≤ (gi mem 221 44).toInt ∧ (gi mem 221 44).toInt ≤ 60) (p3 : 0 ≤ (gi mem 221 33).toInt ∧ (gi mem 221 33).toInt ≤ 1599) (p4 : 0 ≤ (gi mem 221 42).toInt ∧ (gi mem 221 42).toInt ≤ 7) (p6 : (gi mem 221 5).toInt ≤ (gi mem 221 2).toInt) (h1 : (kv).toInt = 3 → ∀ lo, zlg lo 0 = some (.ref 221) → zlg lo 1 = some (.int fv) → zlg lo 2 = some (.int kv) → aTm aT0 mem → yR zpg tX12_goesOn (d + 5) (452, lo, [], mem) P) (h2 : ¬ (kv).toInt = 3 → ¬ (kv).toInt = 6 → ∀ lo, zlg lo 0 = some (.ref 221) → zlg lo 1 = some (.int fv) → zlg lo 2 = some (.int kv) → aTm aT0 mem → yR zpg tX12_goesOn (d + 5) (518, lo, [], mem) P) (h3 : ¬ (kv).toInt = 3 → (kv).toInt = 6 → ∀ lo, zlg lo 0 = some (.ref 221) → zlg lo 1 = some (.int fv) → zlg lo 2 = some (.int kv) → aTm aT0 mem → yR zpg tX12_goesOn (d + 5) (452, lo, [], mem) P) : yR zpg tX12_goesOn (d + 5) (441, lo, [], mem) P := by
  obtain ⟨i0, i1⟩ := mO_r34 hm
  refine wR_li rfl l_2 ?_
  refine yR_m 1 (fun _ _ _ _ => rfl) ?_
  refine wR_ic_eq rfl (a := (kv).toInt) (c := 3) rfl rfl (fun q1 => ?_) (fun q1 => ?_)
  ·
    exact h1 q1 lo l_0 l_1 l_2 hm
  ·
    refine wR_li rfl l_2 ?_
    refine yR_m 1 (fun _ _ _ _ => rfl) ?_
    refine wR_ic_ne rfl (a := (kv).toInt) (c := 6) rfl rfl (fun q2 => ?_) (fun q2 => ?_)
    ·
      exact h2 q1 q2 lo l_0 l_1 l_2 hm
    ·
      exact h3 q1 q2 lo l_0 l_1 l_2 hm

theorem go_441 {fv kv : Int32} {lo : List (Nat × Value)} (hm : aTm aT0 mem) (h : goS mr mem fm f r) (hs : s0 ≤ (gi mem 221 4).toInt) (h45 : (gi mem 221 45).toInt = 1) (fv1 : fv.toInt = (gi mem 221 41).toInt - 1) (kv1 : kv.toInt = f.1) (hk : 2 ≤ kv.toInt) (a0 : zlg lo 0 = some (.ref 221)) (a1 : zlg lo 1 = some (.int fv)) (a2 : zlg lo 2 = some (.int kv)) : yR zpg tX12_goesOn (d + 5) (441, lo, [], mem) (goP mr fm s0) := by
  have h0 := h
  obtain ⟨⟨hB, hT⟩, ⟨p1, p2, p3, p4⟩, hP⟩ := h
  have t := hT.1.1
  have hT8 : 0 ≤ (gi mem 221 8).toInt := hT.2
  exact w_go_441 (mr := mr) (fm := fm) (f := f) (r := r) hm a0 a1 a2 p1 p2 p3 p4 (by omega)
        (fun q1 lo a0 a1 a2 hm => go_452 hm h0 hs h45 fv1 kv1 (by omega) a0 a1 a2)
        (fun q1 q2 lo a0 a1 a2 hm => go_518 hm h0 hs h45 fv1 kv1 (by omega) a0 a1 a2)
        (fun q1 q2 lo a0 a1 a2 hm => go_452 hm h0 hs h45 fv1 kv1 (by omega) a0 a1 a2)
set_option maxRecDepth 100000 in
theorem w_go_422 {d : Nat} {mem : zM} {P : Option Value → zM → Prop} {mr : zM} {fm : Int} {f : Fm} {r : List Fm} {fv kv : Int32} {lo : List (Nat × Value)} (hm : aTm aT0 mem) (l_0 : zlg lo 0 = some (.ref 221)) (l_1 : zlg lo 1 = some (.int fv)) (l_2 : zlg lo 2 = some (.int kv)) (p1 : 1 ≤ (gi mem 221 41).toInt ∧ (gi mem 221 41).toInt ≤ 8) (p2 : 0 ≤ (gi mem 221 44).toInt ∧ (gi mem 221 44).toInt ≤ 60) (p3 : 0 ≤ (gi mem 221 33).toInt ∧ (gi mem 221 33).toInt ≤ 1599) (p4 : 0 ≤ (gi mem 221 42).toInt ∧ (gi mem 221 42).toInt ≤ 7) (p6 : (gi mem 221 5).toInt ≤ (gi mem 221 2).toInt) (h1 : 2 ≤ (kv).toInt → ∀ lo, zlg lo 0 = some (.ref 221) → zlg lo 1 = some (.int fv) → zlg lo 2 = some (.int kv) → aTm aT0 mem → yR zpg tX12_goesOn (d + 5) (441, lo, [], mem) P) (h2 : (kv).toInt < 2 → ¬ (gi mem 221 8).toInt = 0 → aTm aT0 mem → P (some (.int 0)) mem) (s1 : (kv).toInt < 2 → (gi mem 221 8).toInt = 0 → PI mr mem fm (f :: r) 1) (h3 : (kv).toInt < 2 → (gi mem 221 8).toInt = 0 → ∀ (m3 : zM), aTm aT0 m3 → (jnQ mem m3 mr fm f r 1 ∧ (gi m3 221 41).toInt = (gi mem 221 41).toInt ∧ (gi m3 221 3).toInt = (gi mem 221 3).toInt ∧ (gi m3 221 6).toInt = (gi mem 221 6).toInt ∧ (gi m3 221 4).toInt = (gi mem 221 4).toInt ∧ (gi m3 221 5).toInt = (gi mem 221 5).toInt ∧ (gi m3 221 2).toInt = (gi mem 221 2).toInt ∧ (gi m3 221 8).toInt = (gi mem 221 8).toInt ∧ (0 ≤ (gi m3 221 44).toInt ∧ (gi m3 221 44).toInt ≤ 60) ∧ (0 ≤ (gi m3 221 33).toInt ∧ (gi m3 221 33).toInt ≤ 1599) ∧ (0 ≤ (gi m3 221 42).toInt ∧ (gi m3 221 42).toInt ≤ 7) ∧ (0 ≤ (gi m3 221 34).toInt ∧ (gi m3 221 34).toInt ≤ 1)) → aTm aT0 m3 → P (some (.int 0)) m3) : yR zpg tX12_goesOn (d + 5) (422, lo, [], mem) P := by
  obtain ⟨i0, i1⟩ := mO_r34 hm
  refine wR_li rfl l_2 ?_
  refine yR_m 1 (fun _ _ _ _ => rfl) ?_
  refine wR_ic_ge rfl (a := (kv).toInt) (c := 2) rfl rfl (fun q1 => ?_) (fun q1 => ?_)
  ·
    exact h1 q1 lo l_0 l_1 l_2 hm
  ·
    refine wR_la rfl l_0 ?_
    refine wR_gi rfl mO_e mO_8 hm rfl ?_
    refine wR_if_ne rfl (a := (gi mem 221 8).toInt) rfl (fun q2 => ?_) (fun q2 => ?_)
    ·
      refine yR_m 1 (fun _ _ _ _ => rfl) ?_
      exact yR_rz rfl ⟨by decide, by decide⟩ (h2 q1 q2 hm)
    ·
      refine wR_la rfl l_0 ?_
      refine yR_m 1 (fun _ _ _ _ => rfl) ?_
      refine wR_cv rfl rfl mO_e hm rfl (h_joins2 (by omega) hm (s1 q1 q2) rfl rfl rfl rfl rfl rfl rfl) ?_
      rintro _ m3 ⟨rfl, hI3, k4⟩
      show yR zpg tX12_goesOn (d + 5) (439, lo, [], m3) _
      refine yR_m 1 (fun _ _ _ _ => rfl) ?_
      exact yR_rz rfl ⟨by decide, by decide⟩ (h3 q1 q2 m3 hI3 k4 hI3)

theorem go_422 {fv kv : Int32} {lo : List (Nat × Value)} (hm : aTm aT0 mem) (h : goS mr mem fm f r) (hs : s0 ≤ (gi mem 221 4).toInt) (h45 : (gi mem 221 45).toInt = 1) (fv1 : fv.toInt = (gi mem 221 41).toInt - 1) (kv1 : kv.toInt = f.1) (a0 : zlg lo 0 = some (.ref 221)) (a1 : zlg lo 1 = some (.int fv)) (a2 : zlg lo 2 = some (.int kv)) : yR zpg tX12_goesOn (d + 5) (422, lo, [], mem) (goP mr fm s0) := by
  have h0 := h
  obtain ⟨⟨hB, hT⟩, ⟨p1, p2, p3, p4⟩, hP⟩ := h
  have t := hT.1.1
  have hT8 : 0 ≤ (gi mem 221 8).toInt := hT.2
  exact w_go_422 (mr := mr) (fm := fm) (f := f) (r := r) hm a0 a1 a2 p1 p2 p3 p4 (by omega)
        (fun q1 lo a0 a1 a2 hm => go_441 hm h0 hs h45 fv1 kv1 (by omega) a0 a1 a2)
        (fun q1 q2 hm2 => go_f hm2 hB hT fr_rf (by show 1 ≤ (gi mem 221 8).toInt; omega) (by decide))
        (fun q1 q2 => hP (by omega))
        (fun q1 q2 m3 hI3 k4 hm2 => by
          obtain ⟨J1, s, js, jr, jP⟩ := k4.1
          have sn := jn_nil jr
          subst sn
          exact ⟨0, rfl, hm2, ⟨jP.1.1, jP.1.2.1⟩, by decide, Or.inr (Or.inr ⟨rfl, _, jP, hS_0 jP.2.1.2.2 (by show f.1 ≤ 1; omega), by omega⟩)⟩)
set_option maxRecDepth 100000 in
theorem w_go_400 {d : Nat} {mem : zM} {P : Option Value → zM → Prop} {mr : zM} {fm : Int} {f : Fm} {r : List Fm} {fv kv tv : Int32} {lo : List (Nat × Value)} (hm : aTm aT0 mem) (l_0 : zlg lo 0 = some (.ref 221)) (l_1 : zlg lo 1 = some (.int fv)) (l_2 : zlg lo 2 = some (.int kv)) (l_3 : zlg lo 3 = some (.int tv)) (p1 : 1 ≤ (gi mem 221 41).toInt ∧ (gi mem 221 41).toInt ≤ 8) (p2 : 0 ≤ (gi mem 221 44).toInt ∧ (gi mem 221 44).toInt ≤ 60) (p3 : 0 ≤ (gi mem 221 33).toInt ∧ (gi mem 221 33).toInt ≤ 1599) (p4 : 0 ≤ (gi mem 221 42).toInt ∧ (gi mem 221 42).toInt ≤ 7) (p6 : (gi mem 221 5).toInt ≤ (gi mem 221 2).toInt) (fv1 : fv.toInt = (gi mem 221 41).toInt - 1) (h1 : (tv).toInt = 0 → ∀ lo, zlg lo 0 = some (.ref 221) → zlg lo 1 = some (.int fv) → zlg lo 2 = some (.int kv) → aTm aT0 mem → yR zpg tX12_goesOn (d + 5) (422, lo, [], mem) P) (h2 : ¬ (tv).toInt = 0 → ∀ (y2 : Int32), y2.toInt = (gn (ga mem 243) (fv).toInt) → ¬ (gn (ga mem 243) (fv).toInt) = 0 → ∀ lo, zlg lo 0 = some (.ref 221) → zlg lo 1 = some (.int fv) → zlg lo 2 = some (.int kv) → aTm aT0 mem → yR zpg tX12_goesOn (d + 5) (422, lo, [], mem) P) (h3 : ¬ (tv).toInt = 0 → ∀ (y2 : Int32), y2.toInt = (gn (ga mem 243) (fv).toInt) → (gn (ga mem 243) (fv).toInt) = 0 → (gi mem 221 8).toInt ≤ 0 → ∀ lo, zlg lo 0 = some (.ref 221) → zlg lo 1 = some (.int fv) → zlg lo 2 = some (.int kv) → aTm aT0 (si (si mem 221 8 1) 221 9 (gi mem 221 4)) → yR zpg tX12_goesOn (d + 5) (422, lo, [], (si (si mem 221 8 1) 221 9 (gi mem 221 4))) P) (h4 : ¬ (tv).toInt = 0 → ∀ (y2 : Int32), y2.toInt = (gn (ga mem 243) (fv).toInt) → (gn (ga mem 243) (fv).toInt) = 0 → 0 < (gi mem 221 8).toInt → ∀ lo, zlg lo 0 = some (.ref 221) → zlg lo 1 = some (.int fv) → zlg lo 2 = some (.int kv) → aTm aT0 mem → yR zpg tX12_goesOn (d + 5) (422, lo, [], mem) P) : yR zpg tX12_goesOn (d + 5) (400, lo, [], mem) P := by
  obtain ⟨i0, i1⟩ := mO_r34 hm
  refine wR_li rfl l_3 ?_
  refine wR_if_eq rfl (a := (tv).toInt) rfl (fun q1 => ?_) (fun q1 => ?_)
  ·
    exact h1 q1 lo l_0 l_1 l_2 hm
  ·
    refine wR_la rfl l_0 ?_
    refine wR_gr rfl mO_e mO_37 hm ?_
    refine wR_li rfl l_1 ?_
    refine wN_al (a := (fv).toInt) rfl aR_243 hm rfl rfl (by omega) (fun y2 e3 => ?_)
    refine wR_if_ne rfl (a := (gn (ga mem 243) (fv).toInt)) e3 (fun q4 => ?_) (fun q4 => ?_)
    ·
      exact h2 q1 y2 e3 q4 lo l_0 l_1 l_2 hm
    ·
      refine wR_la rfl l_0 ?_
      refine yR_m 1 (fun _ _ _ _ => rfl) ?_
      refine wR_la rfl l_0 ?_
      refine wR_gi rfl mO_e mO_4 hm rfl ?_
      refine wR_iv rfl rfl mO_e hm rfl rfl rfl rfl ?_
      show yR zpg tX12_blame (d + 4) (0, [(0, .ref 221), (1, .int 1), (2, .int (gi mem 221 4))], [], mem) _
      refine yR_m 1 (fun _ _ _ _ => rfl) ?_
      refine wR_gi rfl mO_e mO_8 hm rfl ?_
      refine wR_if_le rfl (a := (gi mem 221 8).toInt) rfl (fun q5 => ?_) (fun q5 => ?_)
      ·
        refine yR_m 2 (fun _ _ _ _ => rfl) ?_
        refine wR_pi rfl mO_e mO_8 hm rfl ?_
        have hm_1 : aTm aT0 (si mem 221 8 1) := tm_si mO_e mO_8 hm (i32_b _)
        refine yR_m 2 (fun _ _ _ _ => rfl) ?_
        refine wR_pi rfl mO_e mO_9 hm_1 rfl ?_
        have hm_2 : aTm aT0 (si (si mem 221 8 1) 221 9 (gi mem 221 4)) := tm_si mO_e mO_9 hm_1 (i32_b _)
        refine yR_rv rfl ?_
        show yR zpg tX12_goesOn (d + 5) (422, lo, [], (si (si mem 221 8 1) 221 9 (gi mem 221 4))) _
        exact h3 q1 y2 e3 q4 q5 lo l_0 l_1 l_2 hm_2
      ·
        refine yR_rv rfl ?_
        show yR zpg tX12_goesOn (d + 5) (422, lo, [], mem) _
        exact h4 q1 y2 e3 q4 q5 lo l_0 l_1 l_2 hm

theorem go_400 {fv kv tv : Int32} {lo : List (Nat × Value)} (hm : aTm aT0 mem) (h : PI mr mem fm (f :: r) 1) (hs : s0 ≤ (gi mem 221 4).toInt) (h45 : (gi mem 221 45).toInt = 1) (fv1 : fv.toInt = (gi mem 221 41).toInt - 1) (kv1 : kv.toInt = f.1) (a0 : zlg lo 0 = some (.ref 221)) (a1 : zlg lo 1 = some (.int fv)) (a2 : zlg lo 2 = some (.int kv)) (a3 : zlg lo 3 = some (.int tv)) : yR zpg tX12_goesOn (d + 5) (400, lo, [], mem) (goP mr fm s0) := by
  have pp := PI_pp hm h
  have hT := h.1.2.1
  obtain ⟨p1, p2, p3, p4, p6, p8, p9⟩ := pp
  exact w_go_400 (mr := mr) (fm := fm) (f := f) (r := r) hm a0 a1 a2 a3 p1 p2 p3 p4 p6 fv1
        (fun q1 lo a0 a1 a2 hm => go_422 hm (goS_p hm h) hs h45 fv1 kv1 a0 a1 a2)
        (fun q1 y2 e3 q4 lo a0 a1 a2 hm => go_422 hm (goS_p hm h) hs h45 fv1 kv1 a0 a1 a2)
        (fun q1 y2 e3 q4 q5 lo a0 a1 a2 hm2 => go_422 hm2 (goS_f hm h (fr_sv rfl (fr_sv rfl (fr_rf))) (by rw [((gi_sv_ne (by decide)).trans (gi_eqO (isO_of hm) (by decide)))]; decide)) (by rw [((gi_sv_ne (by decide)).trans (gi_sv_ne (by decide)))]; exact hs) (by rw [((gi_sv_ne (by decide)).trans (gi_sv_ne (by decide)))]; exact h45) (by rw [((gi_sv_ne (by decide)).trans (gi_sv_ne (by decide)))]; exact fv1) kv1 a0 a1 a2)
        (fun q1 y2 e3 q4 q5 lo a0 a1 a2 hm => go_422 hm (goS_p hm h) hs h45 fv1 kv1 a0 a1 a2)
set_option maxRecDepth 100000 in
theorem w_go_345 {d : Nat} {mem : zM} {P : Option Value → zM → Prop} {mr : zM} {fm : Int} {f : Fm} {r : List Fm} {fv an : Int32} {lo : List (Nat × Value)} (hm : aTm aT0 mem) (l_0 : zlg lo 0 = some (.ref 221)) (l_1 : zlg lo 1 = some (.int fv)) (l_4 : zlg lo 4 = some (.int an)) (p1 : 1 ≤ (gi mem 221 41).toInt ∧ (gi mem 221 41).toInt ≤ 8) (p2 : 0 ≤ (gi mem 221 44).toInt ∧ (gi mem 221 44).toInt ≤ 60) (p3 : 0 ≤ (gi mem 221 33).toInt ∧ (gi mem 221 33).toInt ≤ 1599) (p4 : 0 ≤ (gi mem 221 42).toInt ∧ (gi mem 221 42).toInt ≤ 7) (p6 : (gi mem 221 5).toInt ≤ (gi mem 221 2).toInt) (fv1 : fv.toInt = (gi mem 221 41).toInt - 1) (s1 : (an).toInt = 0 → PI mr mem fm (f :: r) 1) (h1 : (an).toInt = 0 → ∀ (m2 : zM), aTm aT0 m2 → (jnQ mem m2 mr fm f r 1 ∧ (gi m2 221 41).toInt = (gi mem 221 41).toInt ∧ (gi m2 221 3).toInt = (gi mem 221 3).toInt ∧ (gi m2 221 6).toInt = (gi mem 221 6).toInt ∧ (gi m2 221 4).toInt = (gi mem 221 4).toInt ∧ (gi m2 221 5).toInt = (gi mem 221 5).toInt ∧ (gi m2 221 2).toInt = (gi mem 221 2).toInt ∧ (gi m2 221 8).toInt = (gi mem 221 8).toInt ∧ (0 ≤ (gi m2 221 44).toInt ∧ (gi m2 221 44).toInt ≤ 60) ∧ (0 ≤ (gi m2 221 33).toInt ∧ (gi m2 221 33).toInt ≤ 1599) ∧ (0 ≤ (gi m2 221 42).toInt ∧ (gi m2 221 42).toInt ≤ 7) ∧ (0 ≤ (gi m2 221 34).toInt ∧ (gi m2 221 34).toInt ≤ 1)) → ∀ (x4 : Int32), x4.toInt = ((gi m2 221 44).toInt + 1) → ∀ (m6 : zM), aTm aT0 m6 → (ahQ (sx (sx (si (sx m2 247 (gi m2 221 44) 42) 221 44 x4) 243 fv 0) 244 fv 1) m6 ∧ (gi m6 221 41).toInt = (gi m2 221 41).toInt ∧ (gi m6 221 42).toInt = (gi m2 221 42).toInt ∧ (gi m6 221 44).toInt = x4.toInt ∧ (gi m6 221 33).toInt = (gi m2 221 33).toInt ∧ (gi m6 221 8).toInt = (gi m2 221 8).toInt ∧ (gi m2 221 5).toInt ≤ (gi m6 221 4).toInt ∧ (gi m6 221 4).toInt ≤ (gi m6 221 5).toInt ∧ (gi m6 221 5).toInt ≤ (gi m6 221 2).toInt) → aTm aT0 (si m6 221 45 0) → P (some (.int 1)) (si m6 221 45 0)) (s2 : ¬ (an).toInt = 0 → PI mr mem fm (f :: r) 1) (h2 : ¬ (an).toInt = 0 → ∀ (m8 : zM), aTm aT0 m8 → (jnQ mem m8 mr fm f r 2 ∧ (gi m8 221 41).toInt = (gi mem 221 41).toInt ∧ (gi m8 221 3).toInt = (gi mem 221 3).toInt ∧ (gi m8 221 6).toInt = (gi mem 221 6).toInt ∧ (gi m8 221 4).toInt = (gi mem 221 4).toInt ∧ (gi m8 221 5).toInt = (gi mem 221 5).toInt ∧ (gi m8 221 2).toInt = (gi mem 221 2).toInt ∧ (gi m8 221 8).toInt = (gi mem 221 8).toInt ∧ (0 ≤ (gi m8 221 44).toInt ∧ (gi m8 221 44).toInt ≤ 60) ∧ (0 ≤ (gi m8 221 33).toInt ∧ (gi m8 221 33).toInt ≤ 1599) ∧ (0 ≤ (gi m8 221 42).toInt ∧ (gi m8 221 42).toInt ≤ 7) ∧ (0 ≤ (gi m8 221 34).toInt ∧ (gi m8 221 34).toInt ≤ 1)) → ∀ (x10 : Int32), x10.toInt = ((gi m8 221 44).toInt + 1) → ∀ (m12 : zM), aTm aT0 m12 → (ahQ (sx (sx (si (sx m8 247 (gi m8 221 44) 41) 221 44 x10) 243 fv 0) 244 fv 1) m12 ∧ (gi m12 221 41).toInt = (gi m8 221 41).toInt ∧ (gi m12 221 42).toInt = (gi m8 221 42).toInt ∧ (gi m12 221 44).toInt = x10.toInt ∧ (gi m12 221 33).toInt = (gi m8 221 33).toInt ∧ (gi m12 221 8).toInt = (gi m8 221 8).toInt ∧ (gi m8 221 5).toInt ≤ (gi m12 221 4).toInt ∧ (gi m12 221 4).toInt ≤ (gi m12 221 5).toInt ∧ (gi m12 221 5).toInt ≤ (gi m12 221 2).toInt) → aTm aT0 (si m12 221 45 0) → P (some (.int 1)) (si m12 221 45 0)) : yR zpg tX12_goesOn (d + 5) (345, lo, [], mem) P := by
  obtain ⟨i0, i1⟩ := mO_r34 hm
  refine wR_la rfl l_0 ?_
  refine wR_li rfl l_4 ?_
  refine wR_if_eq rfl (a := (an).toInt) rfl (fun q1 => ?_) (fun q1 => ?_)
  ·
    refine yR_m 1 (fun _ _ _ _ => rfl) ?_
    refine wR_cv rfl rfl mO_e hm rfl (h_joins2 (by omega) hm (s1 q1) rfl rfl rfl rfl rfl rfl rfl) ?_
    rintro _ m2 ⟨rfl, hI2, k3⟩
    show yR zpg tX12_goesOn (d + 5) (359, lo, [], m2) _
    refine wR_la rfl l_0 ?_
    refine wR_li rfl l_4 ?_
    refine wR_if_eq rfl (a := (an).toInt) rfl (fun _ => ?_) (fun q => by exfalso; omega)
    refine yR_m 1 (fun _ _ _ _ => rfl) ?_
    refine wR_iv rfl rfl mO_e hI2 rfl rfl rfl rfl ?_
    show yR zpg tX12_holdsBack (d + 4) (0, [(0, .ref 221), (1, .int 42)], [], m2) _
    refine yR_m 1 (fun _ _ _ _ => rfl) ?_
    refine wR_gr rfl mO_e mO_43 hI2 ?_
    refine yR_m 1 (fun _ _ _ _ => rfl) ?_
    refine wR_gi rfl mO_e mO_44 hI2 rfl ?_
    refine yR_m 1 (fun _ _ _ _ => rfl) ?_
    refine wN_as (a := (gi m2 221 44).toInt) rfl aR_247 hI2 rfl (by omega) ?_
    have hm_1 : aTm aT0 (sx m2 247 (gi m2 221 44) 42) := tm_sa aR_247 hI2 (i32_b _)
    refine yR_m 2 (fun _ _ _ _ => rfl) ?_
    refine wR_gi rfl mO_e mO_44 hm_1 (gi_sa) ?_
    refine yR_m 1 (fun _ _ _ _ => rfl) ?_
    refine wN_add (a := (gi m2 221 44).toInt) (b := 1) rfl rfl rfl (by omega) (fun x4 e5 => ?_)
    refine wR_pi rfl mO_e mO_44 hm_1 rfl ?_
    have hm_2 : aTm aT0 (si (sx m2 247 (gi m2 221 44) 42) 221 44 x4) := tm_si mO_e mO_44 hm_1 (i32_b _)
    refine yR_rv rfl ?_
    show yR zpg tX12_goesOn (d + 5) (375, lo, [], (si (sx m2 247 (gi m2 221 44) 42) 221 44 x4)) _
    refine wR_la rfl l_0 ?_
    refine wR_gr rfl mO_e mO_37 hm_2 ?_
    refine wR_li rfl l_1 ?_
    refine yR_m 1 (fun _ _ _ _ => rfl) ?_
    refine wN_as (a := (fv).toInt) rfl aR_243 hm_2 rfl (by omega) ?_
    have hm_3 : aTm aT0 (sx (si (sx m2 247 (gi m2 221 44) 42) 221 44 x4) 243 fv 0) := tm_sa aR_243 hm_2 (i32_b _)
    refine wR_la rfl l_0 ?_
    refine wR_gr rfl mO_e mO_38 hm_3 ?_
    refine wR_li rfl l_1 ?_
    refine yR_m 1 (fun _ _ _ _ => rfl) ?_
    refine wN_zs (a := (fv).toInt) rfl aR_244 hm_3 rfl (by omega) (by decide) ?_
    have hm_4 : aTm aT0 (sx (sx (si (sx m2 247 (gi m2 221 44) 42) 221 44 x4) 243 fv 0) 244 fv 1) := tm_sa aR_244 hm_3 (by decide)
    refine wR_la rfl l_0 ?_
    refine wR_cv rfl rfl mO_e hm_4 rfl (h_ahead3 (by omega) hm_4 ((gi_sa).trans ((gi_sa).trans ((gi_sv_ne (by decide)).trans (gi_sa)))) ((gi_sa).trans ((gi_sa).trans ((gi_sv_ne (by decide)).trans (gi_sa)))) (by omega) ((gi_sa).trans ((gi_sa).trans ((gi_sv_ne (by decide)).trans (gi_sa)))) ((gi_sa).trans ((gi_sa).trans ((gi_sv_ne (by decide)).trans (gi_sa)))) ((gi_sa).trans ((gi_sa).trans (gi_si_eq mO_e mO_44 hm_1))) ((gi_sa).trans ((gi_sa).trans ((gi_sv_ne (by decide)).trans (gi_sa)))) ((gi_sa).trans ((gi_sa).trans ((gi_sv_ne (by decide)).trans (gi_sa))))) ?_
    rintro _ m6 ⟨rfl, hI6, k7⟩
    show yR zpg tX12_goesOn (d + 5) (393, lo, [], m6) _
    refine wR_la rfl l_0 ?_
    refine yR_m 1 (fun _ _ _ _ => rfl) ?_
    refine wR_pi rfl mO_e mO_45 hI6 rfl ?_
    have hm_5 : aTm aT0 (si m6 221 45 0) := tm_si mO_e mO_45 hI6 (by decide)
    refine yR_m 1 (fun _ _ _ _ => rfl) ?_
    exact yR_rz rfl ⟨by decide, by decide⟩ (h1 q1 m2 hI2 k3 x4 e5 m6 hI6 k7 hm_5)
  ·
    refine yR_m 2 (fun _ _ _ _ => rfl) ?_
    refine wR_cv rfl rfl mO_e hm rfl (h_joins2 (by omega) hm (s2 q1) rfl rfl rfl rfl rfl rfl rfl) ?_
    rintro _ m8 ⟨rfl, hI8, k9⟩
    show yR zpg tX12_goesOn (d + 5) (359, lo, [], m8) _
    refine wR_la rfl l_0 ?_
    refine wR_li rfl l_4 ?_
    refine wR_if_eq rfl (a := (an).toInt) rfl (fun q => by exfalso; omega) (fun _ => ?_)
    refine yR_m 2 (fun _ _ _ _ => rfl) ?_
    refine wR_iv rfl rfl mO_e hI8 rfl rfl rfl rfl ?_
    show yR zpg tX12_holdsBack (d + 4) (0, [(0, .ref 221), (1, .int 41)], [], m8) _
    refine yR_m 1 (fun _ _ _ _ => rfl) ?_
    refine wR_gr rfl mO_e mO_43 hI8 ?_
    refine yR_m 1 (fun _ _ _ _ => rfl) ?_
    refine wR_gi rfl mO_e mO_44 hI8 rfl ?_
    refine yR_m 1 (fun _ _ _ _ => rfl) ?_
    refine wN_as (a := (gi m8 221 44).toInt) rfl aR_247 hI8 rfl (by omega) ?_
    have hm_6 : aTm aT0 (sx m8 247 (gi m8 221 44) 41) := tm_sa aR_247 hI8 (i32_b _)
    refine yR_m 2 (fun _ _ _ _ => rfl) ?_
    refine wR_gi rfl mO_e mO_44 hm_6 (gi_sa) ?_
    refine yR_m 1 (fun _ _ _ _ => rfl) ?_
    refine wN_add (a := (gi m8 221 44).toInt) (b := 1) rfl rfl rfl (by omega) (fun x10 e11 => ?_)
    refine wR_pi rfl mO_e mO_44 hm_6 rfl ?_
    have hm_7 : aTm aT0 (si (sx m8 247 (gi m8 221 44) 41) 221 44 x10) := tm_si mO_e mO_44 hm_6 (i32_b _)
    refine yR_rv rfl ?_
    show yR zpg tX12_goesOn (d + 5) (375, lo, [], (si (sx m8 247 (gi m8 221 44) 41) 221 44 x10)) _
    refine wR_la rfl l_0 ?_
    refine wR_gr rfl mO_e mO_37 hm_7 ?_
    refine wR_li rfl l_1 ?_
    refine yR_m 1 (fun _ _ _ _ => rfl) ?_
    refine wN_as (a := (fv).toInt) rfl aR_243 hm_7 rfl (by omega) ?_
    have hm_8 : aTm aT0 (sx (si (sx m8 247 (gi m8 221 44) 41) 221 44 x10) 243 fv 0) := tm_sa aR_243 hm_7 (i32_b _)
    refine wR_la rfl l_0 ?_
    refine wR_gr rfl mO_e mO_38 hm_8 ?_
    refine wR_li rfl l_1 ?_
    refine yR_m 1 (fun _ _ _ _ => rfl) ?_
    refine wN_zs (a := (fv).toInt) rfl aR_244 hm_8 rfl (by omega) (by decide) ?_
    have hm_9 : aTm aT0 (sx (sx (si (sx m8 247 (gi m8 221 44) 41) 221 44 x10) 243 fv 0) 244 fv 1) := tm_sa aR_244 hm_8 (by decide)
    refine wR_la rfl l_0 ?_
    refine wR_cv rfl rfl mO_e hm_9 rfl (h_ahead3 (by omega) hm_9 ((gi_sa).trans ((gi_sa).trans ((gi_sv_ne (by decide)).trans (gi_sa)))) ((gi_sa).trans ((gi_sa).trans ((gi_sv_ne (by decide)).trans (gi_sa)))) (by omega) ((gi_sa).trans ((gi_sa).trans ((gi_sv_ne (by decide)).trans (gi_sa)))) ((gi_sa).trans ((gi_sa).trans ((gi_sv_ne (by decide)).trans (gi_sa)))) ((gi_sa).trans ((gi_sa).trans (gi_si_eq mO_e mO_44 hm_6))) ((gi_sa).trans ((gi_sa).trans ((gi_sv_ne (by decide)).trans (gi_sa)))) ((gi_sa).trans ((gi_sa).trans ((gi_sv_ne (by decide)).trans (gi_sa))))) ?_
    rintro _ m12 ⟨rfl, hI12, k13⟩
    show yR zpg tX12_goesOn (d + 5) (393, lo, [], m12) _
    refine wR_la rfl l_0 ?_
    refine yR_m 1 (fun _ _ _ _ => rfl) ?_
    refine wR_pi rfl mO_e mO_45 hI12 rfl ?_
    have hm_10 : aTm aT0 (si m12 221 45 0) := tm_si mO_e mO_45 hI12 (by decide)
    refine yR_m 1 (fun _ _ _ _ => rfl) ?_
    exact yR_rz rfl ⟨by decide, by decide⟩ (h2 q1 m8 hI8 k9 x10 e11 m12 hI12 k13 hm_10)

theorem go_345 {fv an : Int32} {lo : List (Nat × Value)} (hm : aTm aT0 mem) (h : PI mr mem fm (f :: r) 1) (hs : s0 ≤ (gi mem 221 4).toInt) (h45 : (gi mem 221 45).toInt = 1) (fv1 : fv.toInt = (gi mem 221 41).toInt - 1) (sg : ¬ (gi mem 221 3).toInt = 0) (a0 : zlg lo 0 = some (.ref 221)) (a1 : zlg lo 1 = some (.int fv)) (a4 : zlg lo 4 = some (.int an)) : yR zpg tX12_goesOn (d + 5) (345, lo, [], mem) (goP mr fm s0) := by
  have pp := PI_pp hm h
  have hT := h.1.2.1
  obtain ⟨p1, p2, p3, p4, p6, p8, p9⟩ := pp
  exact w_go_345 (mr := mr) (fm := fm) (f := f) (r := r) hm a0 a1 a4 p1 p2 p3 p4 p6 fv1
        (fun q1 => h)
        (fun q1 m2 hI2 k3 x4 e5 m6 hI6 k7 hm2 => by
          obtain ⟨J1, s, js, jr, jP⟩ := k3.1
          have fvD : (gi m2 221 41).toInt = (gi mem 221 41).toInt := by omega
          have gl3 := gl_243 hI2
          have gl4 := gl_244 hI2
          have e4 : (gi m2 221 4).toInt = (gi mem 221 4).toInt := by omega
          have ry : rkI (Int32.toInt 42) = 1 := by decide
          exact go_p hm2 (o := 0) (by rw [(gi_eqO (isO_of hI6) (by decide))]; rfl) (s := (gi m2 221 4).toInt) (by omega) (PI_hold (x := (gi m2 221 44)) (y := 42) (ph' := 0) (bg' := 1) hI2 jP (fr_sa rfl (fr_sa rfl (fr_sv rfl (fr_sa rfl (fr_rf))))) k7.1 (fr_sv rfl fr_rf) ((gi_sa).trans ((gi_sa).trans (gi_eqO (isO_sa (by decide) (isO_of hI2)) (by decide)))) (by omega) (((ga_sa_ne (by decide)).trans ((ga_sa_ne (by decide)).trans ((ga_sv).trans ga_sa_eq)))) (by omega) ⟨by rw [((ga_sa_ne (by decide)).trans (ga_sa_eq.trans (congrArg (fun l => List.set l fv.toNatClampNeg 0) ((ga_sv).trans (ga_sa_ne (by decide)))))), gn_set (a := (gi m2 221 41).toInt - 1) (by omega) (by omega) (by omega) (by omega), if_pos rfl]; rfl, fun i i0 i1 => by rw [((ga_sa_ne (by decide)).trans (ga_sa_eq.trans (congrArg (fun l => List.set l fv.toNatClampNeg 0) ((ga_sv).trans (ga_sa_ne (by decide)))))), gn_set (a := (gi m2 221 41).toInt - 1) (by omega) (by omega) (by omega) i0, if_neg (by omega)]⟩ ⟨by rw [(ga_sa_eq.trans (congrArg (fun l => List.set l fv.toNatClampNeg 1) ((ga_sa_ne (by decide)).trans ((ga_sv).trans (ga_sa_ne (by decide)))))), gn_set (a := (gi m2 221 41).toInt - 1) (by omega) (by omega) (by omega) (by omega), if_pos rfl]; rfl, fun i i0 i1 => by rw [(ga_sa_eq.trans (congrArg (fun l => List.set l fv.toNatClampNeg 1) ((ga_sa_ne (by decide)).trans ((ga_sv).trans (ga_sa_ne (by decide)))))), gn_set (a := (gi m2 221 41).toInt - 1) (by omega) (by omega) (by omega) i0, if_neg (by omega)]⟩ (by unfold opI; decide) (by decide) (fun q hq => by have a := jr q hq; rw [ry]; omega) (fun _ => ⟨by rw [ry]; decide, Or.inr (by rw [ry]; decide)⟩) (fun _ => by rw [ry]; decide) (by omega)))
        (fun q1 => h)
        (fun q1 m8 hI8 k9 x10 e11 m12 hI12 k13 hm2 => by
          obtain ⟨J1, s, js, jr, jP⟩ := k9.1
          have fvD : (gi m8 221 41).toInt = (gi mem 221 41).toInt := by omega
          have gl3 := gl_243 hI8
          have gl4 := gl_244 hI8
          have e4 : (gi m8 221 4).toInt = (gi mem 221 4).toInt := by omega
          have ry : rkI (Int32.toInt 41) = 2 := by decide
          exact go_p hm2 (o := 0) (by rw [(gi_eqO (isO_of hI12) (by decide))]; rfl) (s := (gi m8 221 4).toInt) (by omega) (PI_hold (x := (gi m8 221 44)) (y := 41) (ph' := 0) (bg' := 1) hI8 jP (fr_sa rfl (fr_sa rfl (fr_sv rfl (fr_sa rfl (fr_rf))))) k13.1 (fr_sv rfl fr_rf) ((gi_sa).trans ((gi_sa).trans (gi_eqO (isO_sa (by decide) (isO_of hI8)) (by decide)))) (by omega) (((ga_sa_ne (by decide)).trans ((ga_sa_ne (by decide)).trans ((ga_sv).trans ga_sa_eq)))) (by omega) ⟨by rw [((ga_sa_ne (by decide)).trans (ga_sa_eq.trans (congrArg (fun l => List.set l fv.toNatClampNeg 0) ((ga_sv).trans (ga_sa_ne (by decide)))))), gn_set (a := (gi m8 221 41).toInt - 1) (by omega) (by omega) (by omega) (by omega), if_pos rfl]; rfl, fun i i0 i1 => by rw [((ga_sa_ne (by decide)).trans (ga_sa_eq.trans (congrArg (fun l => List.set l fv.toNatClampNeg 0) ((ga_sv).trans (ga_sa_ne (by decide)))))), gn_set (a := (gi m8 221 41).toInt - 1) (by omega) (by omega) (by omega) i0, if_neg (by omega)]⟩ ⟨by rw [(ga_sa_eq.trans (congrArg (fun l => List.set l fv.toNatClampNeg 1) ((ga_sa_ne (by decide)).trans ((ga_sv).trans (ga_sa_ne (by decide)))))), gn_set (a := (gi m8 221 41).toInt - 1) (by omega) (by omega) (by omega) (by omega), if_pos rfl]; rfl, fun i i0 i1 => by rw [(ga_sa_eq.trans (congrArg (fun l => List.set l fv.toNatClampNeg 1) ((ga_sa_ne (by decide)).trans ((ga_sv).trans (ga_sa_ne (by decide)))))), gn_set (a := (gi m8 221 41).toInt - 1) (by omega) (by omega) (by omega) i0, if_neg (by omega)]⟩ (by unfold opI; decide) (by decide) (fun q hq => by have a := jr q hq; rw [ry]; omega) (fun _ => ⟨by rw [ry]; decide, Or.inr (by rw [ry]; decide)⟩) (fun _ => by rw [ry]; decide) (by omega)))
set_option maxRecDepth 100000 in
theorem w_go_309 {d : Nat} {mem : zM} {P : Option Value → zM → Prop} {mr : zM} {fm : Int} {f : Fm} {r : List Fm} {fv : Int32} {lo : List (Nat × Value)} (hm : aTm aT0 mem) (l_0 : zlg lo 0 = some (.ref 221)) (l_1 : zlg lo 1 = some (.int fv)) (p1 : 1 ≤ (gi mem 221 41).toInt ∧ (gi mem 221 41).toInt ≤ 8) (p2 : 0 ≤ (gi mem 221 44).toInt ∧ (gi mem 221 44).toInt ≤ 60) (p3 : 0 ≤ (gi mem 221 33).toInt ∧ (gi mem 221 33).toInt ≤ 1599) (p4 : 0 ≤ (gi mem 221 42).toInt ∧ (gi mem 221 42).toInt ≤ 7) (p6 : (gi mem 221 5).toInt ≤ (gi mem 221 2).toInt) (fv1 : fv.toInt = (gi mem 221 41).toInt - 1) (h1 : ∀ (y1 : Int32), y1.toInt = (gn (ga mem 243) (fv).toInt) → ¬ (gn (ga mem 243) (fv).toInt) = 0 → (gi mem 221 8).toInt ≤ 0 → ∀ (v5 : Int32), (v5.toInt = 0 ∨ (v5.toInt = 1 ∧ ¬ (gi mem 221 3).toInt = 0)) → ∀ lo, zlg lo 0 = some (.ref 221) → zlg lo 1 = some (.int fv) → zlg lo 4 = some (.int v5) → aTm aT0 mem → yR zpg tX12_goesOn (d + 5) (345, lo, [], mem) P) (h2 : ∀ (y1 : Int32), y1.toInt = (gn (ga mem 243) (fv).toInt) → ¬ (gn (ga mem 243) (fv).toInt) = 0 → 0 < (gi mem 221 8).toInt → aTm aT0 mem → P (some (.int 0)) mem) (h3 : ∀ (y1 : Int32), y1.toInt = (gn (ga mem 243) (fv).toInt) → (gn (ga mem 243) (fv).toInt) = 0 → (gi mem 221 8).toInt ≤ 0 → aTm aT0 (si (si mem 221 8 1) 221 9 (gi mem 221 4)) → P (some (.int 0)) (si (si mem 221 8 1) 221 9 (gi mem 221 4))) (h4 : ∀ (y1 : Int32), y1.toInt = (gn (ga mem 243) (fv).toInt) → (gn (ga mem 243) (fv).toInt) = 0 → 0 < (gi mem 221 8).toInt → aTm aT0 mem → P (some (.int 0)) mem) : yR zpg tX12_goesOn (d + 5) (309, lo, [], mem) P := by
  obtain ⟨i0, i1⟩ := mO_r34 hm
  refine wR_la rfl l_0 ?_
  refine wR_gr rfl mO_e mO_37 hm ?_
  refine wR_li rfl l_1 ?_
  refine wN_al (a := (fv).toInt) rfl aR_243 hm rfl rfl (by omega) (fun y1 e2 => ?_)
  refine wR_if_ne rfl (a := (gn (ga mem 243) (fv).toInt)) e2 (fun q3 => ?_) (fun q3 => ?_)
  ·
    refine wR_la rfl l_0 ?_
    refine wR_gi rfl mO_e mO_8 hm rfl ?_
    refine wR_if_le rfl (a := (gi mem 221 8).toInt) rfl (fun q4 => ?_) (fun q4 => ?_)
    ·
      refine wR_la rfl l_0 ?_
      refine yR_m 1 (fun _ _ _ _ => rfl) ?_
      refine wR_cv rfl rfl mO_e hm rfl (c_isWord hm rfl (by omega)) ?_
      rintro _ _ ⟨v5, rfl, rfl, k6⟩
      show yR zpg tX12_goesOn (d + 5) (343, lo, [.int v5], mem) _
      refine wR_si rfl rfl (fun lo7 e8 f9 => ?_)
      have lo7_0 := f9 0 _ (by decide) (Or.inl rfl) l_0
      have lo7_1 := f9 1 _ (by decide) (Or.inl rfl) l_1
      exact h1 y1 e2 q3 q4 v5 k6 lo7 lo7_0 lo7_1 e8 hm
    ·
      refine yR_m 1 (fun _ _ _ _ => rfl) ?_
      exact yR_rz rfl ⟨by decide, by decide⟩ (h2 y1 e2 q3 q4 hm)
  ·
    refine wR_la rfl l_0 ?_
    refine yR_m 1 (fun _ _ _ _ => rfl) ?_
    refine wR_la rfl l_0 ?_
    refine wR_gi rfl mO_e mO_4 hm rfl ?_
    refine wR_iv rfl rfl mO_e hm rfl rfl rfl rfl ?_
    show yR zpg tX12_blame (d + 4) (0, [(0, .ref 221), (1, .int 1), (2, .int (gi mem 221 4))], [], mem) _
    refine yR_m 1 (fun _ _ _ _ => rfl) ?_
    refine wR_gi rfl mO_e mO_8 hm rfl ?_
    refine wR_if_le rfl (a := (gi mem 221 8).toInt) rfl (fun q10 => ?_) (fun q10 => ?_)
    ·
      refine yR_m 2 (fun _ _ _ _ => rfl) ?_
      refine wR_pi rfl mO_e mO_8 hm rfl ?_
      have hm_1 : aTm aT0 (si mem 221 8 1) := tm_si mO_e mO_8 hm (i32_b _)
      refine yR_m 2 (fun _ _ _ _ => rfl) ?_
      refine wR_pi rfl mO_e mO_9 hm_1 rfl ?_
      have hm_2 : aTm aT0 (si (si mem 221 8 1) 221 9 (gi mem 221 4)) := tm_si mO_e mO_9 hm_1 (i32_b _)
      refine yR_rv rfl ?_
      show yR zpg tX12_goesOn (d + 5) (327, lo, [], (si (si mem 221 8 1) 221 9 (gi mem 221 4))) _
      refine wR_la rfl l_0 ?_
      refine wR_gi rfl mO_e mO_8 hm_2 ((gi_sv_ne (by decide)).trans (gi_si_eq mO_e mO_8 hm)) ?_
      refine wR_if_le rfl (a := 1) rfl (fun q => by exfalso; omega) (fun _ => ?_)
      refine yR_m 1 (fun _ _ _ _ => rfl) ?_
      exact yR_rz rfl ⟨by decide, by decide⟩ (h3 y1 e2 q3 q10 hm_2)
    ·
      refine yR_rv rfl ?_
      show yR zpg tX12_goesOn (d + 5) (327, lo, [], mem) _
      refine wR_la rfl l_0 ?_
      refine wR_gi rfl mO_e mO_8 hm rfl ?_
      refine wR_if_le rfl (a := (gi mem 221 8).toInt) rfl (fun q => by exfalso; omega) (fun _ => ?_)
      refine yR_m 1 (fun _ _ _ _ => rfl) ?_
      exact yR_rz rfl ⟨by decide, by decide⟩ (h4 y1 e2 q3 q10 hm)

theorem go_309 {fv : Int32} {lo : List (Nat × Value)} (hm : aTm aT0 mem) (h : PI mr mem fm (f :: r) 1) (hs : s0 ≤ (gi mem 221 4).toInt) (h45 : (gi mem 221 45).toInt = 1) (fv1 : fv.toInt = (gi mem 221 41).toInt - 1) (sg : ¬ (gi mem 221 3).toInt = 0) (a0 : zlg lo 0 = some (.ref 221)) (a1 : zlg lo 1 = some (.int fv)) : yR zpg tX12_goesOn (d + 5) (309, lo, [], mem) (goP mr fm s0) := by
  have pp := PI_pp hm h
  have hT := h.1.2.1
  obtain ⟨p1, p2, p3, p4, p6, p8, p9⟩ := pp
  exact w_go_309 (mr := mr) (fm := fm) (f := f) (r := r) hm a0 a1 p1 p2 p3 p4 p6 fv1
        (fun y1 e2 q3 q4 v5 k6 lo a0 a1 a4 hm => go_345 hm h hs h45 fv1 sg a0 a1 a4)
        (fun y1 e2 q3 q4 hm2 => by exfalso; omega)
        (fun y1 e2 q3 q10 hm2 => go_f hm2 h.1.1 hT (fr_sv rfl (fr_sv rfl (fr_rf))) (by show 1 ≤ (gi (si (si mem 221 8 1) 221 9 (gi mem 221 4)) 221 8).toInt; rw [((gi_sv_ne (by decide)).trans (gi_eqO (isO_of hm) (by decide)))]; decide) (by decide))
        (fun y1 e2 q3 q10 hm2 => by exfalso; omega)
set_option maxRecDepth 100000 in
theorem w_go_285 {d : Nat} {mem : zM} {P : Option Value → zM → Prop} {mr : zM} {fm : Int} {f : Fm} {r : List Fm} {fv kv tv : Int32} {lo : List (Nat × Value)} (hm : aTm aT0 mem) (l_0 : zlg lo 0 = some (.ref 221)) (l_1 : zlg lo 1 = some (.int fv)) (l_2 : zlg lo 2 = some (.int kv)) (l_3 : zlg lo 3 = some (.int tv)) (p1 : 1 ≤ (gi mem 221 41).toInt ∧ (gi mem 221 41).toInt ≤ 8) (p2 : 0 ≤ (gi mem 221 44).toInt ∧ (gi mem 221 44).toInt ≤ 60) (p3 : 0 ≤ (gi mem 221 33).toInt ∧ (gi mem 221 33).toInt ≤ 1599) (p4 : 0 ≤ (gi mem 221 42).toInt ∧ (gi mem 221 42).toInt ≤ 7) (p6 : (gi mem 221 5).toInt ≤ (gi mem 221 2).toInt) (h1 : (tv).toInt = 0 → ∀ lo, zlg lo 0 = some (.ref 221) → zlg lo 1 = some (.int fv) → zlg lo 2 = some (.int kv) → zlg lo 3 = some (.int tv) → aTm aT0 mem → yR zpg tX12_goesOn (d + 5) (400, lo, [], mem) P) (h2 : ¬ (tv).toInt = 0 → ∀ (v2 : Int32), (v2.toInt = 0 ∨ (v2.toInt = 1 ∧ ¬ (gi mem 221 3).toInt = 0)) → ¬ (v2).toInt = 0 → ∀ lo, zlg lo 0 = some (.ref 221) → zlg lo 1 = some (.int fv) → aTm aT0 mem → yR zpg tX12_goesOn (d + 5) (309, lo, [], mem) P) (h3 : ¬ (tv).toInt = 0 → ∀ (v2 : Int32), (v2.toInt = 0 ∨ (v2.toInt = 1 ∧ ¬ (gi mem 221 3).toInt = 0)) → (v2).toInt = 0 → ∀ (v5 : Int32), (v5.toInt = 0 ∨ (v5.toInt = 1 ∧ ¬ (gi mem 221 3).toInt = 0)) → (v5).toInt = 0 → ∀ lo, zlg lo 0 = some (.ref 221) → zlg lo 1 = some (.int fv) → zlg lo 2 = some (.int kv) → zlg lo 3 = some (.int tv) → aTm aT0 mem → yR zpg tX12_goesOn (d + 5) (400, lo, [], mem) P) (h4 : ¬ (tv).toInt = 0 → ∀ (v2 : Int32), (v2.toInt = 0 ∨ (v2.toInt = 1 ∧ ¬ (gi mem 221 3).toInt = 0)) → (v2).toInt = 0 → ∀ (v5 : Int32), (v5.toInt = 0 ∨ (v5.toInt = 1 ∧ ¬ (gi mem 221 3).toInt = 0)) → ¬ (v5).toInt = 0 → ∀ lo, zlg lo 0 = some (.ref 221) → zlg lo 1 = some (.int fv) → aTm aT0 mem → yR zpg tX12_goesOn (d + 5) (309, lo, [], mem) P) : yR zpg tX12_goesOn (d + 5) (285, lo, [], mem) P := by
  obtain ⟨i0, i1⟩ := mO_r34 hm
  refine wR_li rfl l_3 ?_
  refine wR_if_eq rfl (a := (tv).toInt) rfl (fun q1 => ?_) (fun q1 => ?_)
  ·
    exact h1 q1 lo l_0 l_1 l_2 l_3 hm
  ·
    refine wR_la rfl l_0 ?_
    refine yR_m 1 (fun _ _ _ _ => rfl) ?_
    refine wR_cv rfl rfl mO_e hm rfl (c_isWord hm rfl (by omega)) ?_
    rintro _ _ ⟨v2, rfl, rfl, k3⟩
    show yR zpg tX12_goesOn (d + 5) (296, lo, [.int v2], mem) _
    refine wR_if_ne rfl (a := (v2).toInt) rfl (fun q4 => ?_) (fun q4 => ?_)
    ·
      exact h2 q1 v2 k3 q4 lo l_0 l_1 hm
    ·
      refine wR_la rfl l_0 ?_
      refine yR_m 1 (fun _ _ _ _ => rfl) ?_
      refine wR_cv rfl rfl mO_e hm rfl (c_isWord hm rfl (by omega)) ?_
      rintro _ _ ⟨v5, rfl, rfl, k6⟩
      show yR zpg tX12_goesOn (d + 5) (306, lo, [.int v5], mem) _
      refine wR_if_eq rfl (a := (v5).toInt) rfl (fun q7 => ?_) (fun q7 => ?_)
      ·
        exact h3 q1 v2 k3 q4 v5 k6 q7 lo l_0 l_1 l_2 l_3 hm
      ·
        exact h4 q1 v2 k3 q4 v5 k6 q7 lo l_0 l_1 hm

theorem go_285 {fv kv tv : Int32} {lo : List (Nat × Value)} (hm : aTm aT0 mem) (h : PI mr mem fm (f :: r) 1) (hs : s0 ≤ (gi mem 221 4).toInt) (h45 : (gi mem 221 45).toInt = 1) (fv1 : fv.toInt = (gi mem 221 41).toInt - 1) (kv1 : kv.toInt = f.1) (a0 : zlg lo 0 = some (.ref 221)) (a1 : zlg lo 1 = some (.int fv)) (a2 : zlg lo 2 = some (.int kv)) (a3 : zlg lo 3 = some (.int tv)) : yR zpg tX12_goesOn (d + 5) (285, lo, [], mem) (goP mr fm s0) := by
  have pp := PI_pp hm h
  have hT := h.1.2.1
  obtain ⟨p1, p2, p3, p4, p6, p8, p9⟩ := pp
  exact w_go_285 (mr := mr) (fm := fm) (f := f) (r := r) hm a0 a1 a2 a3 p1 p2 p3 p4 p6
        (fun q1 lo a0 a1 a2 a3 hm => go_400 hm h hs h45 fv1 kv1 a0 a1 a2 a3)
        (fun q1 v2 k3 q4 lo a0 a1 hm => go_309 hm h hs h45 fv1 (by omega) a0 a1)
        (fun q1 v2 k3 q4 v5 k6 q7 lo a0 a1 a2 a3 hm => go_400 hm h hs h45 fv1 kv1 a0 a1 a2 a3)
        (fun q1 v2 k3 q4 v5 k6 q7 lo a0 a1 hm => go_309 hm h hs h45 fv1 (by omega) a0 a1)
set_option maxRecDepth 100000 in
theorem w_go_228 {d : Nat} {mem : zM} {P : Option Value → zM → Prop} {mr : zM} {fm : Int} {f : Fm} {r : List Fm} {fv : Int32} {lo : List (Nat × Value)} (hm : aTm aT0 mem) (l_0 : zlg lo 0 = some (.ref 221)) (l_1 : zlg lo 1 = some (.int fv)) (p1 : 1 ≤ (gi mem 221 41).toInt ∧ (gi mem 221 41).toInt ≤ 8) (p2 : 0 ≤ (gi mem 221 44).toInt ∧ (gi mem 221 44).toInt ≤ 60) (p3 : 0 ≤ (gi mem 221 33).toInt ∧ (gi mem 221 33).toInt ≤ 1599) (p4 : 0 ≤ (gi mem 221 42).toInt ∧ (gi mem 221 42).toInt ≤ 7) (p6 : (gi mem 221 5).toInt ≤ (gi mem 221 2).toInt) (fv1 : fv.toInt = (gi mem 221 41).toInt - 1) (s1 : PI mr mem fm (f :: r) 1) (h1 : ∀ (m1 : zM), aTm aT0 m1 → (jnQ mem m1 mr fm f r 5 ∧ (gi m1 221 41).toInt = (gi mem 221 41).toInt ∧ (gi m1 221 3).toInt = (gi mem 221 3).toInt ∧ (gi m1 221 6).toInt = (gi mem 221 6).toInt ∧ (gi m1 221 4).toInt = (gi mem 221 4).toInt ∧ (gi m1 221 5).toInt = (gi mem 221 5).toInt ∧ (gi m1 221 2).toInt = (gi mem 221 2).toInt ∧ (gi m1 221 8).toInt = (gi mem 221 8).toInt ∧ (0 ≤ (gi m1 221 44).toInt ∧ (gi m1 221 44).toInt ≤ 60) ∧ (0 ≤ (gi m1 221 33).toInt ∧ (gi m1 221 33).toInt ≤ 1599) ∧ (0 ≤ (gi m1 221 42).toInt ∧ (gi m1 221 42).toInt ≤ 7) ∧ (0 ≤ (gi m1 221 34).toInt ∧ (gi m1 221 34).toInt ≤ 1)) → ∀ (v3 : Int32), ((v3.toInt = 0 ∧ ¬ ((gi m1 221 3).toInt = 3 ∧ (gi m1 221 6).toInt = 60)) ∨ (v3.toInt = 1 ∧ (gi m1 221 3).toInt = 3 ∧ (gi m1 221 6).toInt = 60)) → (v3).toInt = 0 → ∀ (v6 : Int32), ((v6.toInt = 0 ∧ ¬ ((gi m1 221 3).toInt = 3 ∧ (gi m1 221 6).toInt = 62)) ∨ (v6.toInt = 1 ∧ (gi m1 221 3).toInt = 3 ∧ (gi m1 221 6).toInt = 62)) → (v6).toInt = 0 → ∀ (x9 : Int32), x9.toInt = ((gi m1 221 44).toInt + 1) → ∀ (m11 : zM), aTm aT0 m11 → (ahQ (sx (si (sx m1 247 (gi m1 221 44) 40) 221 44 x9) 243 fv 1) m11 ∧ (gi m11 221 41).toInt = (gi m1 221 41).toInt ∧ (gi m11 221 42).toInt = (gi m1 221 42).toInt ∧ (gi m11 221 44).toInt = x9.toInt ∧ (gi m11 221 33).toInt = (gi m1 221 33).toInt ∧ (gi m11 221 8).toInt = (gi m1 221 8).toInt ∧ (gi m1 221 5).toInt ≤ (gi m11 221 4).toInt ∧ (gi m11 221 4).toInt ≤ (gi m11 221 5).toInt ∧ (gi m11 221 5).toInt ≤ (gi m11 221 2).toInt) → aTm aT0 (si m11 221 45 0) → P (some (.int 1)) (si m11 221 45 0)) (h2 : ∀ (m1 : zM), aTm aT0 m1 → (jnQ mem m1 mr fm f r 5 ∧ (gi m1 221 41).toInt = (gi mem 221 41).toInt ∧ (gi m1 221 3).toInt = (gi mem 221 3).toInt ∧ (gi m1 221 6).toInt = (gi mem 221 6).toInt ∧ (gi m1 221 4).toInt = (gi mem 221 4).toInt ∧ (gi m1 221 5).toInt = (gi mem 221 5).toInt ∧ (gi m1 221 2).toInt = (gi mem 221 2).toInt ∧ (gi m1 221 8).toInt = (gi mem 221 8).toInt ∧ (0 ≤ (gi m1 221 44).toInt ∧ (gi m1 221 44).toInt ≤ 60) ∧ (0 ≤ (gi m1 221 33).toInt ∧ (gi m1 221 33).toInt ≤ 1599) ∧ (0 ≤ (gi m1 221 42).toInt ∧ (gi m1 221 42).toInt ≤ 7) ∧ (0 ≤ (gi m1 221 34).toInt ∧ (gi m1 221 34).toInt ≤ 1)) → ∀ (v3 : Int32), ((v3.toInt = 0 ∧ ¬ ((gi m1 221 3).toInt = 3 ∧ (gi m1 221 6).toInt = 60)) ∨ (v3.toInt = 1 ∧ (gi m1 221 3).toInt = 3 ∧ (gi m1 221 6).toInt = 60)) → (v3).toInt = 0 → ∀ (v6 : Int32), ((v6.toInt = 0 ∧ ¬ ((gi m1 221 3).toInt = 3 ∧ (gi m1 221 6).toInt = 62)) ∨ (v6.toInt = 1 ∧ (gi m1 221 3).toInt = 3 ∧ (gi m1 221 6).toInt = 62)) → ¬ (v6).toInt = 0 → ∀ (x13 : Int32), x13.toInt = ((gi m1 221 44).toInt + 1) → ∀ (m15 : zM), aTm aT0 m15 → (ahQ (sx (si (sx m1 247 (gi m1 221 44) 39) 221 44 x13) 243 fv 1) m15 ∧ (gi m15 221 41).toInt = (gi m1 221 41).toInt ∧ (gi m15 221 42).toInt = (gi m1 221 42).toInt ∧ (gi m15 221 44).toInt = x13.toInt ∧ (gi m15 221 33).toInt = (gi m1 221 33).toInt ∧ (gi m15 221 8).toInt = (gi m1 221 8).toInt ∧ (gi m1 221 5).toInt ≤ (gi m15 221 4).toInt ∧ (gi m15 221 4).toInt ≤ (gi m15 221 5).toInt ∧ (gi m15 221 5).toInt ≤ (gi m15 221 2).toInt) → aTm aT0 (si m15 221 45 0) → P (some (.int 1)) (si m15 221 45 0)) (h3 : ∀ (m1 : zM), aTm aT0 m1 → (jnQ mem m1 mr fm f r 5 ∧ (gi m1 221 41).toInt = (gi mem 221 41).toInt ∧ (gi m1 221 3).toInt = (gi mem 221 3).toInt ∧ (gi m1 221 6).toInt = (gi mem 221 6).toInt ∧ (gi m1 221 4).toInt = (gi mem 221 4).toInt ∧ (gi m1 221 5).toInt = (gi mem 221 5).toInt ∧ (gi m1 221 2).toInt = (gi mem 221 2).toInt ∧ (gi m1 221 8).toInt = (gi mem 221 8).toInt ∧ (0 ≤ (gi m1 221 44).toInt ∧ (gi m1 221 44).toInt ≤ 60) ∧ (0 ≤ (gi m1 221 33).toInt ∧ (gi m1 221 33).toInt ≤ 1599) ∧ (0 ≤ (gi m1 221 42).toInt ∧ (gi m1 221 42).toInt ≤ 7) ∧ (0 ≤ (gi m1 221 34).toInt ∧ (gi m1 221 34).toInt ≤ 1)) → ∀ (v3 : Int32), ((v3.toInt = 0 ∧ ¬ ((gi m1 221 3).toInt = 3 ∧ (gi m1 221 6).toInt = 60)) ∨ (v3.toInt = 1 ∧ (gi m1 221 3).toInt = 3 ∧ (gi m1 221 6).toInt = 60)) → ¬ (v3).toInt = 0 → ∀ (x17 : Int32), x17.toInt = ((gi m1 221 44).toInt + 1) → ∀ (m19 : zM), aTm aT0 m19 → (ahQ (sx (si (sx m1 247 (gi m1 221 44) 38) 221 44 x17) 243 fv 1) m19 ∧ (gi m19 221 41).toInt = (gi m1 221 41).toInt ∧ (gi m19 221 42).toInt = (gi m1 221 42).toInt ∧ (gi m19 221 44).toInt = x17.toInt ∧ (gi m19 221 33).toInt = (gi m1 221 33).toInt ∧ (gi m19 221 8).toInt = (gi m1 221 8).toInt ∧ (gi m1 221 5).toInt ≤ (gi m19 221 4).toInt ∧ (gi m19 221 4).toInt ≤ (gi m19 221 5).toInt ∧ (gi m19 221 5).toInt ≤ (gi m19 221 2).toInt) → aTm aT0 (si m19 221 45 0) → P (some (.int 1)) (si m19 221 45 0)) : yR zpg tX12_goesOn (d + 5) (228, lo, [], mem) P := by
  obtain ⟨i0, i1⟩ := mO_r34 hm
  refine wR_la rfl l_0 ?_
  refine yR_m 1 (fun _ _ _ _ => rfl) ?_
  refine wR_cv rfl rfl mO_e hm rfl (h_joins2 (by omega) hm s1 rfl rfl rfl rfl rfl rfl rfl) ?_
  rintro _ m1 ⟨rfl, hI1, k2⟩
  show yR zpg tX12_goesOn (d + 5) (233, lo, [], m1) _
  refine wR_la rfl l_0 ?_
  refine wR_la rfl l_0 ?_
  refine yR_m 1 (fun _ _ _ _ => rfl) ?_
  refine wR_cv rfl rfl mO_e hI1 rfl (c_isSign2 hI1 rfl rfl (by omega)) ?_
  rintro _ _ ⟨v3, rfl, rfl, k4⟩
  show yR zpg tX12_goesOn (d + 5) (240, lo, [.int v3, .ref 221], m1) _
  refine wR_if_eq rfl (a := (v3).toInt) rfl (fun q5 => ?_) (fun q5 => ?_)
  ·
    refine wR_la rfl l_0 ?_
    refine yR_m 1 (fun _ _ _ _ => rfl) ?_
    refine wR_cv rfl rfl mO_e hI1 rfl (c_isSign2 hI1 rfl rfl (by omega)) ?_
    rintro _ _ ⟨v6, rfl, rfl, k7⟩
    show yR zpg tX12_goesOn (d + 5) (254, lo, [.int v6, .ref 221], m1) _
    refine wR_if_eq rfl (a := (v6).toInt) rfl (fun q8 => ?_) (fun q8 => ?_)
    ·
      refine yR_m 1 (fun _ _ _ _ => rfl) ?_
      refine wR_iv rfl rfl mO_e hI1 rfl rfl rfl rfl ?_
      show yR zpg tX12_holdsBack (d + 4) (0, [(0, .ref 221), (1, .int 40)], [], m1) _
      refine yR_m 1 (fun _ _ _ _ => rfl) ?_
      refine wR_gr rfl mO_e mO_43 hI1 ?_
      refine yR_m 1 (fun _ _ _ _ => rfl) ?_
      refine wR_gi rfl mO_e mO_44 hI1 rfl ?_
      refine yR_m 1 (fun _ _ _ _ => rfl) ?_
      refine wN_as (a := (gi m1 221 44).toInt) rfl aR_247 hI1 rfl (by omega) ?_
      have hm_1 : aTm aT0 (sx m1 247 (gi m1 221 44) 40) := tm_sa aR_247 hI1 (i32_b _)
      refine yR_m 2 (fun _ _ _ _ => rfl) ?_
      refine wR_gi rfl mO_e mO_44 hm_1 (gi_sa) ?_
      refine yR_m 1 (fun _ _ _ _ => rfl) ?_
      refine wN_add (a := (gi m1 221 44).toInt) (b := 1) rfl rfl rfl (by omega) (fun x9 e10 => ?_)
      refine wR_pi rfl mO_e mO_44 hm_1 rfl ?_
      have hm_2 : aTm aT0 (si (sx m1 247 (gi m1 221 44) 40) 221 44 x9) := tm_si mO_e mO_44 hm_1 (i32_b _)
      refine yR_rv rfl ?_
      show yR zpg tX12_goesOn (d + 5) (267, lo, [], (si (sx m1 247 (gi m1 221 44) 40) 221 44 x9)) _
      refine wR_la rfl l_0 ?_
      refine wR_gr rfl mO_e mO_37 hm_2 ?_
      refine wR_li rfl l_1 ?_
      refine yR_m 1 (fun _ _ _ _ => rfl) ?_
      refine wN_as (a := (fv).toInt) rfl aR_243 hm_2 rfl (by omega) ?_
      have hm_3 : aTm aT0 (sx (si (sx m1 247 (gi m1 221 44) 40) 221 44 x9) 243 fv 1) := tm_sa aR_243 hm_2 (i32_b _)
      refine wR_la rfl l_0 ?_
      refine wR_cv rfl rfl mO_e hm_3 rfl (h_ahead3 (by omega) hm_3 ((gi_sa).trans ((gi_sv_ne (by decide)).trans (gi_sa))) ((gi_sa).trans ((gi_sv_ne (by decide)).trans (gi_sa))) (by omega) ((gi_sa).trans ((gi_sv_ne (by decide)).trans (gi_sa))) ((gi_sa).trans ((gi_sv_ne (by decide)).trans (gi_sa))) ((gi_sa).trans (gi_si_eq mO_e mO_44 hm_1)) ((gi_sa).trans ((gi_sv_ne (by decide)).trans (gi_sa))) ((gi_sa).trans ((gi_sv_ne (by decide)).trans (gi_sa)))) ?_
      rintro _ m11 ⟨rfl, hI11, k12⟩
      show yR zpg tX12_goesOn (d + 5) (278, lo, [], m11) _
      refine wR_la rfl l_0 ?_
      refine yR_m 1 (fun _ _ _ _ => rfl) ?_
      refine wR_pi rfl mO_e mO_45 hI11 rfl ?_
      have hm_4 : aTm aT0 (si m11 221 45 0) := tm_si mO_e mO_45 hI11 (by decide)
      refine yR_m 1 (fun _ _ _ _ => rfl) ?_
      exact yR_rz rfl ⟨by decide, by decide⟩ (h1 m1 hI1 k2 v3 k4 q5 v6 k7 q8 x9 e10 m11 hI11 k12 hm_4)
    ·
      refine yR_m 2 (fun _ _ _ _ => rfl) ?_
      refine wR_iv rfl rfl mO_e hI1 rfl rfl rfl rfl ?_
      show yR zpg tX12_holdsBack (d + 4) (0, [(0, .ref 221), (1, .int 39)], [], m1) _
      refine yR_m 1 (fun _ _ _ _ => rfl) ?_
      refine wR_gr rfl mO_e mO_43 hI1 ?_
      refine yR_m 1 (fun _ _ _ _ => rfl) ?_
      refine wR_gi rfl mO_e mO_44 hI1 rfl ?_
      refine yR_m 1 (fun _ _ _ _ => rfl) ?_
      refine wN_as (a := (gi m1 221 44).toInt) rfl aR_247 hI1 rfl (by omega) ?_
      have hm_5 : aTm aT0 (sx m1 247 (gi m1 221 44) 39) := tm_sa aR_247 hI1 (i32_b _)
      refine yR_m 2 (fun _ _ _ _ => rfl) ?_
      refine wR_gi rfl mO_e mO_44 hm_5 (gi_sa) ?_
      refine yR_m 1 (fun _ _ _ _ => rfl) ?_
      refine wN_add (a := (gi m1 221 44).toInt) (b := 1) rfl rfl rfl (by omega) (fun x13 e14 => ?_)
      refine wR_pi rfl mO_e mO_44 hm_5 rfl ?_
      have hm_6 : aTm aT0 (si (sx m1 247 (gi m1 221 44) 39) 221 44 x13) := tm_si mO_e mO_44 hm_5 (i32_b _)
      refine yR_rv rfl ?_
      show yR zpg tX12_goesOn (d + 5) (267, lo, [], (si (sx m1 247 (gi m1 221 44) 39) 221 44 x13)) _
      refine wR_la rfl l_0 ?_
      refine wR_gr rfl mO_e mO_37 hm_6 ?_
      refine wR_li rfl l_1 ?_
      refine yR_m 1 (fun _ _ _ _ => rfl) ?_
      refine wN_as (a := (fv).toInt) rfl aR_243 hm_6 rfl (by omega) ?_
      have hm_7 : aTm aT0 (sx (si (sx m1 247 (gi m1 221 44) 39) 221 44 x13) 243 fv 1) := tm_sa aR_243 hm_6 (i32_b _)
      refine wR_la rfl l_0 ?_
      refine wR_cv rfl rfl mO_e hm_7 rfl (h_ahead3 (by omega) hm_7 ((gi_sa).trans ((gi_sv_ne (by decide)).trans (gi_sa))) ((gi_sa).trans ((gi_sv_ne (by decide)).trans (gi_sa))) (by omega) ((gi_sa).trans ((gi_sv_ne (by decide)).trans (gi_sa))) ((gi_sa).trans ((gi_sv_ne (by decide)).trans (gi_sa))) ((gi_sa).trans (gi_si_eq mO_e mO_44 hm_5)) ((gi_sa).trans ((gi_sv_ne (by decide)).trans (gi_sa))) ((gi_sa).trans ((gi_sv_ne (by decide)).trans (gi_sa)))) ?_
      rintro _ m15 ⟨rfl, hI15, k16⟩
      show yR zpg tX12_goesOn (d + 5) (278, lo, [], m15) _
      refine wR_la rfl l_0 ?_
      refine yR_m 1 (fun _ _ _ _ => rfl) ?_
      refine wR_pi rfl mO_e mO_45 hI15 rfl ?_
      have hm_8 : aTm aT0 (si m15 221 45 0) := tm_si mO_e mO_45 hI15 (by decide)
      refine yR_m 1 (fun _ _ _ _ => rfl) ?_
      exact yR_rz rfl ⟨by decide, by decide⟩ (h2 m1 hI1 k2 v3 k4 q5 v6 k7 q8 x13 e14 m15 hI15 k16 hm_8)
  ·
    refine yR_m 2 (fun _ _ _ _ => rfl) ?_
    refine wR_iv rfl rfl mO_e hI1 rfl rfl rfl rfl ?_
    show yR zpg tX12_holdsBack (d + 4) (0, [(0, .ref 221), (1, .int 38)], [], m1) _
    refine yR_m 1 (fun _ _ _ _ => rfl) ?_
    refine wR_gr rfl mO_e mO_43 hI1 ?_
    refine yR_m 1 (fun _ _ _ _ => rfl) ?_
    refine wR_gi rfl mO_e mO_44 hI1 rfl ?_
    refine yR_m 1 (fun _ _ _ _ => rfl) ?_
    refine wN_as (a := (gi m1 221 44).toInt) rfl aR_247 hI1 rfl (by omega) ?_
    have hm_9 : aTm aT0 (sx m1 247 (gi m1 221 44) 38) := tm_sa aR_247 hI1 (i32_b _)
    refine yR_m 2 (fun _ _ _ _ => rfl) ?_
    refine wR_gi rfl mO_e mO_44 hm_9 (gi_sa) ?_
    refine yR_m 1 (fun _ _ _ _ => rfl) ?_
    refine wN_add (a := (gi m1 221 44).toInt) (b := 1) rfl rfl rfl (by omega) (fun x17 e18 => ?_)
    refine wR_pi rfl mO_e mO_44 hm_9 rfl ?_
    have hm_10 : aTm aT0 (si (sx m1 247 (gi m1 221 44) 38) 221 44 x17) := tm_si mO_e mO_44 hm_9 (i32_b _)
    refine yR_rv rfl ?_
    show yR zpg tX12_goesOn (d + 5) (267, lo, [], (si (sx m1 247 (gi m1 221 44) 38) 221 44 x17)) _
    refine wR_la rfl l_0 ?_
    refine wR_gr rfl mO_e mO_37 hm_10 ?_
    refine wR_li rfl l_1 ?_
    refine yR_m 1 (fun _ _ _ _ => rfl) ?_
    refine wN_as (a := (fv).toInt) rfl aR_243 hm_10 rfl (by omega) ?_
    have hm_11 : aTm aT0 (sx (si (sx m1 247 (gi m1 221 44) 38) 221 44 x17) 243 fv 1) := tm_sa aR_243 hm_10 (i32_b _)
    refine wR_la rfl l_0 ?_
    refine wR_cv rfl rfl mO_e hm_11 rfl (h_ahead3 (by omega) hm_11 ((gi_sa).trans ((gi_sv_ne (by decide)).trans (gi_sa))) ((gi_sa).trans ((gi_sv_ne (by decide)).trans (gi_sa))) (by omega) ((gi_sa).trans ((gi_sv_ne (by decide)).trans (gi_sa))) ((gi_sa).trans ((gi_sv_ne (by decide)).trans (gi_sa))) ((gi_sa).trans (gi_si_eq mO_e mO_44 hm_9)) ((gi_sa).trans ((gi_sv_ne (by decide)).trans (gi_sa))) ((gi_sa).trans ((gi_sv_ne (by decide)).trans (gi_sa)))) ?_
    rintro _ m19 ⟨rfl, hI19, k20⟩
    show yR zpg tX12_goesOn (d + 5) (278, lo, [], m19) _
    refine wR_la rfl l_0 ?_
    refine yR_m 1 (fun _ _ _ _ => rfl) ?_
    refine wR_pi rfl mO_e mO_45 hI19 rfl ?_
    have hm_12 : aTm aT0 (si m19 221 45 0) := tm_si mO_e mO_45 hI19 (by decide)
    refine yR_m 1 (fun _ _ _ _ => rfl) ?_
    exact yR_rz rfl ⟨by decide, by decide⟩ (h3 m1 hI1 k2 v3 k4 q5 x17 e18 m19 hI19 k20 hm_12)

theorem go_228 {fv : Int32} {lo : List (Nat × Value)} (hm : aTm aT0 mem) (h : PI mr mem fm (f :: r) 1) (hs : s0 ≤ (gi mem 221 4).toInt) (h45 : (gi mem 221 45).toInt = 1) (fv1 : fv.toInt = (gi mem 221 41).toInt - 1) (sg : ¬ (gi mem 221 3).toInt = 0) (ph0 : gn (ga mem 243) ((gi mem 221 41).toInt - 1) = 0) (a0 : zlg lo 0 = some (.ref 221)) (a1 : zlg lo 1 = some (.int fv)) : yR zpg tX12_goesOn (d + 5) (228, lo, [], mem) (goP mr fm s0) := by
  have pp := PI_pp hm h
  have hT := h.1.2.1
  obtain ⟨p1, p2, p3, p4, p6, p8, p9⟩ := pp
  exact w_go_228 (mr := mr) (fm := fm) (f := f) (r := r) hm a0 a1 p1 p2 p3 p4 p6 fv1
        (h)
        (fun m1 hI1 k2 v3 k4 q5 v6 k7 q8 x9 e10 m11 hI11 k12 hm2 => by
          obtain ⟨J1, s, js, jr, jP⟩ := k2.1
          have fvD : (gi m1 221 41).toInt = (gi mem 221 41).toInt := by omega
          have gl3 := gl_243 hI1
          have gl4 := gl_244 hI1
          have e4 : (gi m1 221 4).toInt = (gi mem 221 4).toInt := by omega
          have ry : rkI (Int32.toInt 40) = 4 := by decide
          exact go_p hm2 (o := 0) (by rw [(gi_eqO (isO_of hI11) (by decide))]; rfl) (s := (gi m1 221 4).toInt) (by omega) (PI_hold (x := (gi m1 221 44)) (y := 40) (ph' := 1) (bg' := f.2.2.2.1) hI1 jP (fr_sa rfl (fr_sv rfl (fr_sa rfl (fr_rf)))) k12.1 (fr_sv rfl fr_rf) ((gi_sa).trans (gi_eqO (isO_sa (by decide) (isO_of hI1)) (by decide))) (by omega) (((ga_sa_ne (by decide)).trans ((ga_sv).trans ga_sa_eq))) (by omega) ⟨by rw [(ga_sa_eq.trans (congrArg (fun l => List.set l fv.toNatClampNeg 1) ((ga_sv).trans (ga_sa_ne (by decide))))), gn_set (a := (gi m1 221 41).toInt - 1) (by omega) (by omega) (by omega) (by omega), if_pos rfl]; rfl, fun i i0 i1 => by rw [(ga_sa_eq.trans (congrArg (fun l => List.set l fv.toNatClampNeg 1) ((ga_sv).trans (ga_sa_ne (by decide))))), gn_set (a := (gi m1 221 41).toInt - 1) (by omega) (by omega) (by omega) i0, if_neg (by omega)]⟩ ⟨by rw [((ga_sa_ne (by decide)).trans ((ga_sv).trans (ga_sa_ne (by decide))))]; exact jP.2.1.1.1.2.2.2.1, fun i _ _ => by rw [((ga_sa_ne (by decide)).trans ((ga_sv).trans (ga_sa_ne (by decide))))]⟩ (by unfold opI; decide) (by decide) (fun q hq => by have a := jr q hq; have n4 := (h.2.1.2.1 f List.mem_cons_self).2.2.1 (h.2.1.1.1.2.2.1.symm.trans ph0) q (js q (List.mem_of_mem_head? hq)); rw [ry]; omega) (fun w => absurd w (by decide)) (fun w => absurd (jP.2.2.2.2.2 rfl _ rfl) w) (by omega)))
        (fun m1 hI1 k2 v3 k4 q5 v6 k7 q8 x13 e14 m15 hI15 k16 hm2 => by
          obtain ⟨J1, s, js, jr, jP⟩ := k2.1
          have fvD : (gi m1 221 41).toInt = (gi mem 221 41).toInt := by omega
          have gl3 := gl_243 hI1
          have gl4 := gl_244 hI1
          have e4 : (gi m1 221 4).toInt = (gi mem 221 4).toInt := by omega
          have ry : rkI (Int32.toInt 39) = 4 := by decide
          exact go_p hm2 (o := 0) (by rw [(gi_eqO (isO_of hI15) (by decide))]; rfl) (s := (gi m1 221 4).toInt) (by omega) (PI_hold (x := (gi m1 221 44)) (y := 39) (ph' := 1) (bg' := f.2.2.2.1) hI1 jP (fr_sa rfl (fr_sv rfl (fr_sa rfl (fr_rf)))) k16.1 (fr_sv rfl fr_rf) ((gi_sa).trans (gi_eqO (isO_sa (by decide) (isO_of hI1)) (by decide))) (by omega) (((ga_sa_ne (by decide)).trans ((ga_sv).trans ga_sa_eq))) (by omega) ⟨by rw [(ga_sa_eq.trans (congrArg (fun l => List.set l fv.toNatClampNeg 1) ((ga_sv).trans (ga_sa_ne (by decide))))), gn_set (a := (gi m1 221 41).toInt - 1) (by omega) (by omega) (by omega) (by omega), if_pos rfl]; rfl, fun i i0 i1 => by rw [(ga_sa_eq.trans (congrArg (fun l => List.set l fv.toNatClampNeg 1) ((ga_sv).trans (ga_sa_ne (by decide))))), gn_set (a := (gi m1 221 41).toInt - 1) (by omega) (by omega) (by omega) i0, if_neg (by omega)]⟩ ⟨by rw [((ga_sa_ne (by decide)).trans ((ga_sv).trans (ga_sa_ne (by decide))))]; exact jP.2.1.1.1.2.2.2.1, fun i _ _ => by rw [((ga_sa_ne (by decide)).trans ((ga_sv).trans (ga_sa_ne (by decide))))]⟩ (by unfold opI; decide) (by decide) (fun q hq => by have a := jr q hq; have n4 := (h.2.1.2.1 f List.mem_cons_self).2.2.1 (h.2.1.1.1.2.2.1.symm.trans ph0) q (js q (List.mem_of_mem_head? hq)); rw [ry]; omega) (fun w => absurd w (by decide)) (fun w => absurd (jP.2.2.2.2.2 rfl _ rfl) w) (by omega)))
        (fun m1 hI1 k2 v3 k4 q5 x17 e18 m19 hI19 k20 hm2 => by
          obtain ⟨J1, s, js, jr, jP⟩ := k2.1
          have fvD : (gi m1 221 41).toInt = (gi mem 221 41).toInt := by omega
          have gl3 := gl_243 hI1
          have gl4 := gl_244 hI1
          have e4 : (gi m1 221 4).toInt = (gi mem 221 4).toInt := by omega
          have ry : rkI (Int32.toInt 38) = 4 := by decide
          exact go_p hm2 (o := 0) (by rw [(gi_eqO (isO_of hI19) (by decide))]; rfl) (s := (gi m1 221 4).toInt) (by omega) (PI_hold (x := (gi m1 221 44)) (y := 38) (ph' := 1) (bg' := f.2.2.2.1) hI1 jP (fr_sa rfl (fr_sv rfl (fr_sa rfl (fr_rf)))) k20.1 (fr_sv rfl fr_rf) ((gi_sa).trans (gi_eqO (isO_sa (by decide) (isO_of hI1)) (by decide))) (by omega) (((ga_sa_ne (by decide)).trans ((ga_sv).trans ga_sa_eq))) (by omega) ⟨by rw [(ga_sa_eq.trans (congrArg (fun l => List.set l fv.toNatClampNeg 1) ((ga_sv).trans (ga_sa_ne (by decide))))), gn_set (a := (gi m1 221 41).toInt - 1) (by omega) (by omega) (by omega) (by omega), if_pos rfl]; rfl, fun i i0 i1 => by rw [(ga_sa_eq.trans (congrArg (fun l => List.set l fv.toNatClampNeg 1) ((ga_sv).trans (ga_sa_ne (by decide))))), gn_set (a := (gi m1 221 41).toInt - 1) (by omega) (by omega) (by omega) i0, if_neg (by omega)]⟩ ⟨by rw [((ga_sa_ne (by decide)).trans ((ga_sv).trans (ga_sa_ne (by decide))))]; exact jP.2.1.1.1.2.2.2.1, fun i _ _ => by rw [((ga_sa_ne (by decide)).trans ((ga_sv).trans (ga_sa_ne (by decide))))]⟩ (by unfold opI; decide) (by decide) (fun q hq => by have a := jr q hq; have n4 := (h.2.1.2.1 f List.mem_cons_self).2.2.1 (h.2.1.1.1.2.2.1.symm.trans ph0) q (js q (List.mem_of_mem_head? hq)); rw [ry]; omega) (fun w => absurd w (by decide)) (fun w => absurd (jP.2.2.2.2.2 rfl _ rfl) w) (by omega)))
set_option maxRecDepth 100000 in
theorem w_go_188 {d : Nat} {mem : zM} {P : Option Value → zM → Prop} {mr : zM} {fm : Int} {f : Fm} {r : List Fm} {fv kv tv : Int32} {lo : List (Nat × Value)} (hm : aTm aT0 mem) (l_0 : zlg lo 0 = some (.ref 221)) (l_1 : zlg lo 1 = some (.int fv)) (l_2 : zlg lo 2 = some (.int kv)) (l_3 : zlg lo 3 = some (.int tv)) (p1 : 1 ≤ (gi mem 221 41).toInt ∧ (gi mem 221 41).toInt ≤ 8) (p2 : 0 ≤ (gi mem 221 44).toInt ∧ (gi mem 221 44).toInt ≤ 60) (p3 : 0 ≤ (gi mem 221 33).toInt ∧ (gi mem 221 33).toInt ≤ 1599) (p4 : 0 ≤ (gi mem 221 42).toInt ∧ (gi mem 221 42).toInt ≤ 7) (p6 : (gi mem 221 5).toInt ≤ (gi mem 221 2).toInt) (fv1 : fv.toInt = (gi mem 221 41).toInt - 1) (h1 : (tv).toInt = 0 → ∀ lo, zlg lo 0 = some (.ref 221) → zlg lo 1 = some (.int fv) → zlg lo 2 = some (.int kv) → zlg lo 3 = some (.int tv) → aTm aT0 mem → yR zpg tX12_goesOn (d + 5) (285, lo, [], mem) P) (h2 : ¬ (tv).toInt = 0 → ∀ (y2 : Int32), y2.toInt = (gn (ga mem 243) (fv).toInt) → ¬ (gn (ga mem 243) (fv).toInt) = 0 → ∀ lo, zlg lo 0 = some (.ref 221) → zlg lo 1 = some (.int fv) → zlg lo 2 = some (.int kv) → zlg lo 3 = some (.int tv) → aTm aT0 mem → yR zpg tX12_goesOn (d + 5) (285, lo, [], mem) P) (h3 : ¬ (tv).toInt = 0 → ∀ (y2 : Int32), y2.toInt = (gn (ga mem 243) (fv).toInt) → (gn (ga mem 243) (fv).toInt) = 0 → ∀ (v5 : Int32), ((v5.toInt = 0 ∧ ¬ ((gi mem 221 3).toInt = 3 ∧ (gi mem 221 6).toInt = 60)) ∨ (v5.toInt = 1 ∧ (gi mem 221 3).toInt = 3 ∧ (gi mem 221 6).toInt = 60)) → ¬ (v5).toInt = 0 → ∀ lo, zlg lo 0 = some (.ref 221) → zlg lo 1 = some (.int fv) → aTm aT0 mem → yR zpg tX12_goesOn (d + 5) (228, lo, [], mem) P) (h4 : ¬ (tv).toInt = 0 → ∀ (y2 : Int32), y2.toInt = (gn (ga mem 243) (fv).toInt) → (gn (ga mem 243) (fv).toInt) = 0 → ∀ (v5 : Int32), ((v5.toInt = 0 ∧ ¬ ((gi mem 221 3).toInt = 3 ∧ (gi mem 221 6).toInt = 60)) ∨ (v5.toInt = 1 ∧ (gi mem 221 3).toInt = 3 ∧ (gi mem 221 6).toInt = 60)) → (v5).toInt = 0 → ∀ (v8 : Int32), ((v8.toInt = 0 ∧ ¬ ((gi mem 221 3).toInt = 3 ∧ (gi mem 221 6).toInt = 62)) ∨ (v8.toInt = 1 ∧ (gi mem 221 3).toInt = 3 ∧ (gi mem 221 6).toInt = 62)) → ¬ (v8).toInt = 0 → ∀ lo, zlg lo 0 = some (.ref 221) → zlg lo 1 = some (.int fv) → aTm aT0 mem → yR zpg tX12_goesOn (d + 5) (228, lo, [], mem) P) (h5 : ¬ (tv).toInt = 0 → ∀ (y2 : Int32), y2.toInt = (gn (ga mem 243) (fv).toInt) → (gn (ga mem 243) (fv).toInt) = 0 → ∀ (v5 : Int32), ((v5.toInt = 0 ∧ ¬ ((gi mem 221 3).toInt = 3 ∧ (gi mem 221 6).toInt = 60)) ∨ (v5.toInt = 1 ∧ (gi mem 221 3).toInt = 3 ∧ (gi mem 221 6).toInt = 60)) → (v5).toInt = 0 → ∀ (v8 : Int32), ((v8.toInt = 0 ∧ ¬ ((gi mem 221 3).toInt = 3 ∧ (gi mem 221 6).toInt = 62)) ∨ (v8.toInt = 1 ∧ (gi mem 221 3).toInt = 3 ∧ (gi mem 221 6).toInt = 62)) → (v8).toInt = 0 → ∀ (v11 : Int32), ((v11.toInt = 0 ∧ ¬ ((gi mem 221 3).toInt = 3 ∧ (gi mem 221 6).toInt = 61)) ∨ (v11.toInt = 1 ∧ (gi mem 221 3).toInt = 3 ∧ (gi mem 221 6).toInt = 61)) → (v11).toInt = 0 → ∀ lo, zlg lo 0 = some (.ref 221) → zlg lo 1 = some (.int fv) → zlg lo 2 = some (.int kv) → zlg lo 3 = some (.int tv) → aTm aT0 mem → yR zpg tX12_goesOn (d + 5) (285, lo, [], mem) P) (h6 : ¬ (tv).toInt = 0 → ∀ (y2 : Int32), y2.toInt = (gn (ga mem 243) (fv).toInt) → (gn (ga mem 243) (fv).toInt) = 0 → ∀ (v5 : Int32), ((v5.toInt = 0 ∧ ¬ ((gi mem 221 3).toInt = 3 ∧ (gi mem 221 6).toInt = 60)) ∨ (v5.toInt = 1 ∧ (gi mem 221 3).toInt = 3 ∧ (gi mem 221 6).toInt = 60)) → (v5).toInt = 0 → ∀ (v8 : Int32), ((v8.toInt = 0 ∧ ¬ ((gi mem 221 3).toInt = 3 ∧ (gi mem 221 6).toInt = 62)) ∨ (v8.toInt = 1 ∧ (gi mem 221 3).toInt = 3 ∧ (gi mem 221 6).toInt = 62)) → (v8).toInt = 0 → ∀ (v11 : Int32), ((v11.toInt = 0 ∧ ¬ ((gi mem 221 3).toInt = 3 ∧ (gi mem 221 6).toInt = 61)) ∨ (v11.toInt = 1 ∧ (gi mem 221 3).toInt = 3 ∧ (gi mem 221 6).toInt = 61)) → ¬ (v11).toInt = 0 → ∀ lo, zlg lo 0 = some (.ref 221) → zlg lo 1 = some (.int fv) → aTm aT0 mem → yR zpg tX12_goesOn (d + 5) (228, lo, [], mem) P) : yR zpg tX12_goesOn (d + 5) (188, lo, [], mem) P := by
  obtain ⟨i0, i1⟩ := mO_r34 hm
  refine wR_li rfl l_3 ?_
  refine wR_if_eq rfl (a := (tv).toInt) rfl (fun q1 => ?_) (fun q1 => ?_)
  ·
    exact h1 q1 lo l_0 l_1 l_2 l_3 hm
  ·
    refine wR_la rfl l_0 ?_
    refine wR_gr rfl mO_e mO_37 hm ?_
    refine wR_li rfl l_1 ?_
    refine wN_al (a := (fv).toInt) rfl aR_243 hm rfl rfl (by omega) (fun y2 e3 => ?_)
    refine wR_if_ne rfl (a := (gn (ga mem 243) (fv).toInt)) e3 (fun q4 => ?_) (fun q4 => ?_)
    ·
      exact h2 q1 y2 e3 q4 lo l_0 l_1 l_2 l_3 hm
    ·
      refine wR_la rfl l_0 ?_
      refine yR_m 1 (fun _ _ _ _ => rfl) ?_
      refine wR_cv rfl rfl mO_e hm rfl (c_isSign2 hm rfl rfl (by omega)) ?_
      rintro _ _ ⟨v5, rfl, rfl, k6⟩
      show yR zpg tX12_goesOn (d + 5) (207, lo, [.int v5], mem) _
      refine wR_if_ne rfl (a := (v5).toInt) rfl (fun q7 => ?_) (fun q7 => ?_)
      ·
        exact h3 q1 y2 e3 q4 v5 k6 q7 lo l_0 l_1 hm
      ·
        refine wR_la rfl l_0 ?_
        refine yR_m 1 (fun _ _ _ _ => rfl) ?_
        refine wR_cv rfl rfl mO_e hm rfl (c_isSign2 hm rfl rfl (by omega)) ?_
        rintro _ _ ⟨v8, rfl, rfl, k9⟩
        show yR zpg tX12_goesOn (d + 5) (216, lo, [.int v8], mem) _
        refine wR_if_ne rfl (a := (v8).toInt) rfl (fun q10 => ?_) (fun q10 => ?_)
        ·
          exact h4 q1 y2 e3 q4 v5 k6 q7 v8 k9 q10 lo l_0 l_1 hm
        ·
          refine wR_la rfl l_0 ?_
          refine yR_m 1 (fun _ _ _ _ => rfl) ?_
          refine wR_cv rfl rfl mO_e hm rfl (c_isSign2 hm rfl rfl (by omega)) ?_
          rintro _ _ ⟨v11, rfl, rfl, k12⟩
          show yR zpg tX12_goesOn (d + 5) (225, lo, [.int v11], mem) _
          refine wR_if_eq rfl (a := (v11).toInt) rfl (fun q13 => ?_) (fun q13 => ?_)
          ·
            exact h5 q1 y2 e3 q4 v5 k6 q7 v8 k9 q10 v11 k12 q13 lo l_0 l_1 l_2 l_3 hm
          ·
            exact h6 q1 y2 e3 q4 v5 k6 q7 v8 k9 q10 v11 k12 q13 lo l_0 l_1 hm

theorem go_188 {fv kv tv : Int32} {lo : List (Nat × Value)} (hm : aTm aT0 mem) (h : PI mr mem fm (f :: r) 1) (hs : s0 ≤ (gi mem 221 4).toInt) (h45 : (gi mem 221 45).toInt = 1) (fv1 : fv.toInt = (gi mem 221 41).toInt - 1) (kv1 : kv.toInt = f.1) (a0 : zlg lo 0 = some (.ref 221)) (a1 : zlg lo 1 = some (.int fv)) (a2 : zlg lo 2 = some (.int kv)) (a3 : zlg lo 3 = some (.int tv)) : yR zpg tX12_goesOn (d + 5) (188, lo, [], mem) (goP mr fm s0) := by
  have pp := PI_pp hm h
  have hT := h.1.2.1
  obtain ⟨p1, p2, p3, p4, p6, p8, p9⟩ := pp
  exact w_go_188 (mr := mr) (fm := fm) (f := f) (r := r) hm a0 a1 a2 a3 p1 p2 p3 p4 p6 fv1
        (fun q1 lo a0 a1 a2 a3 hm => go_285 hm h hs h45 fv1 kv1 a0 a1 a2 a3)
        (fun q1 y2 e3 q4 lo a0 a1 a2 a3 hm => go_285 hm h hs h45 fv1 kv1 a0 a1 a2 a3)
        (fun q1 y2 e3 q4 v5 k6 q7 lo a0 a1 hm => go_228 hm h hs h45 fv1 (by omega) (by rw [← fv1]; omega) a0 a1)
        (fun q1 y2 e3 q4 v5 k6 q7 v8 k9 q10 lo a0 a1 hm => go_228 hm h hs h45 fv1 (by omega) (by rw [← fv1]; omega) a0 a1)
        (fun q1 y2 e3 q4 v5 k6 q7 v8 k9 q10 v11 k12 q13 lo a0 a1 a2 a3 hm => go_285 hm h hs h45 fv1 kv1 a0 a1 a2 a3)
        (fun q1 y2 e3 q4 v5 k6 q7 v8 k9 q10 v11 k12 q13 lo a0 a1 hm => go_228 hm h hs h45 fv1 (by omega) (by rw [← fv1]; omega) a0 a1)
set_option maxRecDepth 100000 in
theorem w_go_87 {d : Nat} {mem : zM} {P : Option Value → zM → Prop} {mr : zM} {fm : Int} {f : Fm} {r : List Fm} {lo : List (Nat × Value)} (hm : aTm aT0 mem) (l_0 : zlg lo 0 = some (.ref 221)) (p1 : 1 ≤ (gi mem 221 41).toInt ∧ (gi mem 221 41).toInt ≤ 8) (p2 : 0 ≤ (gi mem 221 44).toInt ∧ (gi mem 221 44).toInt ≤ 60) (p3 : 0 ≤ (gi mem 221 33).toInt ∧ (gi mem 221 33).toInt ≤ 1599) (p4 : 0 ≤ (gi mem 221 42).toInt ∧ (gi mem 221 42).toInt ≤ 7) (p6 : (gi mem 221 5).toInt ≤ (gi mem 221 2).toInt) (s1 : ∀ (v1 : Int32), ((v1.toInt = 0 ∧ ¬ ((gi mem 221 3).toInt = 3 ∧ (gi mem 221 6).toInt = 43)) ∨ (v1.toInt = 1 ∧ (gi mem 221 3).toInt = 3 ∧ (gi mem 221 6).toInt = 43)) → ¬ (v1).toInt = 0 → PI mr mem fm (f :: r) 1) (h1 : ∀ (v1 : Int32), ((v1.toInt = 0 ∧ ¬ ((gi mem 221 3).toInt = 3 ∧ (gi mem 221 6).toInt = 43)) ∨ (v1.toInt = 1 ∧ (gi mem 221 3).toInt = 3 ∧ (gi mem 221 6).toInt = 43)) → ¬ (v1).toInt = 0 → ∀ (m4 : zM), aTm aT0 m4 → (jnQ mem m4 mr fm f r 5 ∧ (gi m4 221 41).toInt = (gi mem 221 41).toInt ∧ (gi m4 221 3).toInt = (gi mem 221 3).toInt ∧ (gi m4 221 6).toInt = (gi mem 221 6).toInt ∧ (gi m4 221 4).toInt = (gi mem 221 4).toInt ∧ (gi m4 221 5).toInt = (gi mem 221 5).toInt ∧ (gi m4 221 2).toInt = (gi mem 221 2).toInt ∧ (gi m4 221 8).toInt = (gi mem 221 8).toInt ∧ (0 ≤ (gi m4 221 44).toInt ∧ (gi m4 221 44).toInt ≤ 60) ∧ (0 ≤ (gi m4 221 33).toInt ∧ (gi m4 221 33).toInt ≤ 1599) ∧ (0 ≤ (gi m4 221 42).toInt ∧ (gi m4 221 42).toInt ≤ 7) ∧ (0 ≤ (gi m4 221 34).toInt ∧ (gi m4 221 34).toInt ≤ 1)) → ∀ (v6 : Int32), ((v6.toInt = 0 ∧ ¬ ((gi m4 221 3).toInt = 3 ∧ (gi m4 221 6).toInt = 43)) ∨ (v6.toInt = 1 ∧ (gi m4 221 3).toInt = 3 ∧ (gi m4 221 6).toInt = 43)) → (v6).toInt = 0 → ∀ (v9 : Int32), ((v9.toInt = 0 ∧ ¬ ((gi m4 221 3).toInt = 3 ∧ (gi m4 221 6).toInt = 45)) ∨ (v9.toInt = 1 ∧ (gi m4 221 3).toInt = 3 ∧ (gi m4 221 6).toInt = 45)) → (v9).toInt = 0 → ∀ (v12 : Int32), ((v12.toInt = 0 ∧ ¬ ((gi m4 221 3).toInt = 3 ∧ (gi m4 221 6).toInt = 42)) ∨ (v12.toInt = 1 ∧ (gi m4 221 3).toInt = 3 ∧ (gi m4 221 6).toInt = 42)) → (v12).toInt = 0 → ∀ (v15 : Int32), ((v15.toInt = 0 ∧ ¬ ((gi m4 221 3).toInt = 3 ∧ (gi m4 221 6).toInt = 47)) ∨ (v15.toInt = 1 ∧ (gi m4 221 3).toInt = 3 ∧ (gi m4 221 6).toInt = 47)) → (v15).toInt = 0 → ∀ (x18 : Int32), x18.toInt = ((gi m4 221 44).toInt + 1) → ∀ (m20 : zM), aTm aT0 m20 → (ahQ (si (sx m4 247 (gi m4 221 44) 35) 221 44 x18) m20 ∧ (gi m20 221 41).toInt = (gi m4 221 41).toInt ∧ (gi m20 221 42).toInt = (gi m4 221 42).toInt ∧ (gi m20 221 44).toInt = x18.toInt ∧ (gi m20 221 33).toInt = (gi m4 221 33).toInt ∧ (gi m20 221 8).toInt = (gi m4 221 8).toInt ∧ (gi m4 221 5).toInt ≤ (gi m20 221 4).toInt ∧ (gi m20 221 4).toInt ≤ (gi m20 221 5).toInt ∧ (gi m20 221 5).toInt ≤ (gi m20 221 2).toInt) → aTm aT0 (si m20 221 45 0) → P (some (.int 1)) (si m20 221 45 0)) (h2 : ∀ (v1 : Int32), ((v1.toInt = 0 ∧ ¬ ((gi mem 221 3).toInt = 3 ∧ (gi mem 221 6).toInt = 43)) ∨ (v1.toInt = 1 ∧ (gi mem 221 3).toInt = 3 ∧ (gi mem 221 6).toInt = 43)) → ¬ (v1).toInt = 0 → ∀ (m4 : zM), aTm aT0 m4 → (jnQ mem m4 mr fm f r 5 ∧ (gi m4 221 41).toInt = (gi mem 221 41).toInt ∧ (gi m4 221 3).toInt = (gi mem 221 3).toInt ∧ (gi m4 221 6).toInt = (gi mem 221 6).toInt ∧ (gi m4 221 4).toInt = (gi mem 221 4).toInt ∧ (gi m4 221 5).toInt = (gi mem 221 5).toInt ∧ (gi m4 221 2).toInt = (gi mem 221 2).toInt ∧ (gi m4 221 8).toInt = (gi mem 221 8).toInt ∧ (0 ≤ (gi m4 221 44).toInt ∧ (gi m4 221 44).toInt ≤ 60) ∧ (0 ≤ (gi m4 221 33).toInt ∧ (gi m4 221 33).toInt ≤ 1599) ∧ (0 ≤ (gi m4 221 42).toInt ∧ (gi m4 221 42).toInt ≤ 7) ∧ (0 ≤ (gi m4 221 34).toInt ∧ (gi m4 221 34).toInt ≤ 1)) → ∀ (v6 : Int32), ((v6.toInt = 0 ∧ ¬ ((gi m4 221 3).toInt = 3 ∧ (gi m4 221 6).toInt = 43)) ∨ (v6.toInt = 1 ∧ (gi m4 221 3).toInt = 3 ∧ (gi m4 221 6).toInt = 43)) → (v6).toInt = 0 → ∀ (v9 : Int32), ((v9.toInt = 0 ∧ ¬ ((gi m4 221 3).toInt = 3 ∧ (gi m4 221 6).toInt = 45)) ∨ (v9.toInt = 1 ∧ (gi m4 221 3).toInt = 3 ∧ (gi m4 221 6).toInt = 45)) → (v9).toInt = 0 → ∀ (v12 : Int32), ((v12.toInt = 0 ∧ ¬ ((gi m4 221 3).toInt = 3 ∧ (gi m4 221 6).toInt = 42)) ∨ (v12.toInt = 1 ∧ (gi m4 221 3).toInt = 3 ∧ (gi m4 221 6).toInt = 42)) → (v12).toInt = 0 → ∀ (v15 : Int32), ((v15.toInt = 0 ∧ ¬ ((gi m4 221 3).toInt = 3 ∧ (gi m4 221 6).toInt = 47)) ∨ (v15.toInt = 1 ∧ (gi m4 221 3).toInt = 3 ∧ (gi m4 221 6).toInt = 47)) → ¬ (v15).toInt = 0 → ∀ (x22 : Int32), x22.toInt = ((gi m4 221 44).toInt + 1) → ∀ (m24 : zM), aTm aT0 m24 → (ahQ (si (sx m4 247 (gi m4 221 44) 34) 221 44 x22) m24 ∧ (gi m24 221 41).toInt = (gi m4 221 41).toInt ∧ (gi m24 221 42).toInt = (gi m4 221 42).toInt ∧ (gi m24 221 44).toInt = x22.toInt ∧ (gi m24 221 33).toInt = (gi m4 221 33).toInt ∧ (gi m24 221 8).toInt = (gi m4 221 8).toInt ∧ (gi m4 221 5).toInt ≤ (gi m24 221 4).toInt ∧ (gi m24 221 4).toInt ≤ (gi m24 221 5).toInt ∧ (gi m24 221 5).toInt ≤ (gi m24 221 2).toInt) → aTm aT0 (si m24 221 45 0) → P (some (.int 1)) (si m24 221 45 0)) (h3 : ∀ (v1 : Int32), ((v1.toInt = 0 ∧ ¬ ((gi mem 221 3).toInt = 3 ∧ (gi mem 221 6).toInt = 43)) ∨ (v1.toInt = 1 ∧ (gi mem 221 3).toInt = 3 ∧ (gi mem 221 6).toInt = 43)) → ¬ (v1).toInt = 0 → ∀ (m4 : zM), aTm aT0 m4 → (jnQ mem m4 mr fm f r 5 ∧ (gi m4 221 41).toInt = (gi mem 221 41).toInt ∧ (gi m4 221 3).toInt = (gi mem 221 3).toInt ∧ (gi m4 221 6).toInt = (gi mem 221 6).toInt ∧ (gi m4 221 4).toInt = (gi mem 221 4).toInt ∧ (gi m4 221 5).toInt = (gi mem 221 5).toInt ∧ (gi m4 221 2).toInt = (gi mem 221 2).toInt ∧ (gi m4 221 8).toInt = (gi mem 221 8).toInt ∧ (0 ≤ (gi m4 221 44).toInt ∧ (gi m4 221 44).toInt ≤ 60) ∧ (0 ≤ (gi m4 221 33).toInt ∧ (gi m4 221 33).toInt ≤ 1599) ∧ (0 ≤ (gi m4 221 42).toInt ∧ (gi m4 221 42).toInt ≤ 7) ∧ (0 ≤ (gi m4 221 34).toInt ∧ (gi m4 221 34).toInt ≤ 1)) → ∀ (v6 : Int32), ((v6.toInt = 0 ∧ ¬ ((gi m4 221 3).toInt = 3 ∧ (gi m4 221 6).toInt = 43)) ∨ (v6.toInt = 1 ∧ (gi m4 221 3).toInt = 3 ∧ (gi m4 221 6).toInt = 43)) → (v6).toInt = 0 → ∀ (v9 : Int32), ((v9.toInt = 0 ∧ ¬ ((gi m4 221 3).toInt = 3 ∧ (gi m4 221 6).toInt = 45)) ∨ (v9.toInt = 1 ∧ (gi m4 221 3).toInt = 3 ∧ (gi m4 221 6).toInt = 45)) → (v9).toInt = 0 → ∀ (v12 : Int32), ((v12.toInt = 0 ∧ ¬ ((gi m4 221 3).toInt = 3 ∧ (gi m4 221 6).toInt = 42)) ∨ (v12.toInt = 1 ∧ (gi m4 221 3).toInt = 3 ∧ (gi m4 221 6).toInt = 42)) → ¬ (v12).toInt = 0 → ∀ (x26 : Int32), x26.toInt = ((gi m4 221 44).toInt + 1) → ∀ (m28 : zM), aTm aT0 m28 → (ahQ (si (sx m4 247 (gi m4 221 44) 33) 221 44 x26) m28 ∧ (gi m28 221 41).toInt = (gi m4 221 41).toInt ∧ (gi m28 221 42).toInt = (gi m4 221 42).toInt ∧ (gi m28 221 44).toInt = x26.toInt ∧ (gi m28 221 33).toInt = (gi m4 221 33).toInt ∧ (gi m28 221 8).toInt = (gi m4 221 8).toInt ∧ (gi m4 221 5).toInt ≤ (gi m28 221 4).toInt ∧ (gi m28 221 4).toInt ≤ (gi m28 221 5).toInt ∧ (gi m28 221 5).toInt ≤ (gi m28 221 2).toInt) → aTm aT0 (si m28 221 45 0) → P (some (.int 1)) (si m28 221 45 0)) (h4 : ∀ (v1 : Int32), ((v1.toInt = 0 ∧ ¬ ((gi mem 221 3).toInt = 3 ∧ (gi mem 221 6).toInt = 43)) ∨ (v1.toInt = 1 ∧ (gi mem 221 3).toInt = 3 ∧ (gi mem 221 6).toInt = 43)) → ¬ (v1).toInt = 0 → ∀ (m4 : zM), aTm aT0 m4 → (jnQ mem m4 mr fm f r 5 ∧ (gi m4 221 41).toInt = (gi mem 221 41).toInt ∧ (gi m4 221 3).toInt = (gi mem 221 3).toInt ∧ (gi m4 221 6).toInt = (gi mem 221 6).toInt ∧ (gi m4 221 4).toInt = (gi mem 221 4).toInt ∧ (gi m4 221 5).toInt = (gi mem 221 5).toInt ∧ (gi m4 221 2).toInt = (gi mem 221 2).toInt ∧ (gi m4 221 8).toInt = (gi mem 221 8).toInt ∧ (0 ≤ (gi m4 221 44).toInt ∧ (gi m4 221 44).toInt ≤ 60) ∧ (0 ≤ (gi m4 221 33).toInt ∧ (gi m4 221 33).toInt ≤ 1599) ∧ (0 ≤ (gi m4 221 42).toInt ∧ (gi m4 221 42).toInt ≤ 7) ∧ (0 ≤ (gi m4 221 34).toInt ∧ (gi m4 221 34).toInt ≤ 1)) → ∀ (v6 : Int32), ((v6.toInt = 0 ∧ ¬ ((gi m4 221 3).toInt = 3 ∧ (gi m4 221 6).toInt = 43)) ∨ (v6.toInt = 1 ∧ (gi m4 221 3).toInt = 3 ∧ (gi m4 221 6).toInt = 43)) → (v6).toInt = 0 → ∀ (v9 : Int32), ((v9.toInt = 0 ∧ ¬ ((gi m4 221 3).toInt = 3 ∧ (gi m4 221 6).toInt = 45)) ∨ (v9.toInt = 1 ∧ (gi m4 221 3).toInt = 3 ∧ (gi m4 221 6).toInt = 45)) → ¬ (v9).toInt = 0 → ∀ (x30 : Int32), x30.toInt = ((gi m4 221 44).toInt + 1) → ∀ (m32 : zM), aTm aT0 m32 → (ahQ (si (sx m4 247 (gi m4 221 44) 32) 221 44 x30) m32 ∧ (gi m32 221 41).toInt = (gi m4 221 41).toInt ∧ (gi m32 221 42).toInt = (gi m4 221 42).toInt ∧ (gi m32 221 44).toInt = x30.toInt ∧ (gi m32 221 33).toInt = (gi m4 221 33).toInt ∧ (gi m32 221 8).toInt = (gi m4 221 8).toInt ∧ (gi m4 221 5).toInt ≤ (gi m32 221 4).toInt ∧ (gi m32 221 4).toInt ≤ (gi m32 221 5).toInt ∧ (gi m32 221 5).toInt ≤ (gi m32 221 2).toInt) → aTm aT0 (si m32 221 45 0) → P (some (.int 1)) (si m32 221 45 0)) (h5 : ∀ (v1 : Int32), ((v1.toInt = 0 ∧ ¬ ((gi mem 221 3).toInt = 3 ∧ (gi mem 221 6).toInt = 43)) ∨ (v1.toInt = 1 ∧ (gi mem 221 3).toInt = 3 ∧ (gi mem 221 6).toInt = 43)) → ¬ (v1).toInt = 0 → ∀ (m4 : zM), aTm aT0 m4 → (jnQ mem m4 mr fm f r 5 ∧ (gi m4 221 41).toInt = (gi mem 221 41).toInt ∧ (gi m4 221 3).toInt = (gi mem 221 3).toInt ∧ (gi m4 221 6).toInt = (gi mem 221 6).toInt ∧ (gi m4 221 4).toInt = (gi mem 221 4).toInt ∧ (gi m4 221 5).toInt = (gi mem 221 5).toInt ∧ (gi m4 221 2).toInt = (gi mem 221 2).toInt ∧ (gi m4 221 8).toInt = (gi mem 221 8).toInt ∧ (0 ≤ (gi m4 221 44).toInt ∧ (gi m4 221 44).toInt ≤ 60) ∧ (0 ≤ (gi m4 221 33).toInt ∧ (gi m4 221 33).toInt ≤ 1599) ∧ (0 ≤ (gi m4 221 42).toInt ∧ (gi m4 221 42).toInt ≤ 7) ∧ (0 ≤ (gi m4 221 34).toInt ∧ (gi m4 221 34).toInt ≤ 1)) → ∀ (v6 : Int32), ((v6.toInt = 0 ∧ ¬ ((gi m4 221 3).toInt = 3 ∧ (gi m4 221 6).toInt = 43)) ∨ (v6.toInt = 1 ∧ (gi m4 221 3).toInt = 3 ∧ (gi m4 221 6).toInt = 43)) → ¬ (v6).toInt = 0 → ∀ (x34 : Int32), x34.toInt = ((gi m4 221 44).toInt + 1) → ∀ (m36 : zM), aTm aT0 m36 → (ahQ (si (sx m4 247 (gi m4 221 44) 31) 221 44 x34) m36 ∧ (gi m36 221 41).toInt = (gi m4 221 41).toInt ∧ (gi m36 221 42).toInt = (gi m4 221 42).toInt ∧ (gi m36 221 44).toInt = x34.toInt ∧ (gi m36 221 33).toInt = (gi m4 221 33).toInt ∧ (gi m36 221 8).toInt = (gi m4 221 8).toInt ∧ (gi m4 221 5).toInt ≤ (gi m36 221 4).toInt ∧ (gi m36 221 4).toInt ≤ (gi m36 221 5).toInt ∧ (gi m36 221 5).toInt ≤ (gi m36 221 2).toInt) → aTm aT0 (si m36 221 45 0) → P (some (.int 1)) (si m36 221 45 0)) (s2 : ∀ (v1 : Int32), ((v1.toInt = 0 ∧ ¬ ((gi mem 221 3).toInt = 3 ∧ (gi mem 221 6).toInt = 43)) ∨ (v1.toInt = 1 ∧ (gi mem 221 3).toInt = 3 ∧ (gi mem 221 6).toInt = 43)) → (v1).toInt = 0 → ∀ (v38 : Int32), ((v38.toInt = 0 ∧ ¬ ((gi mem 221 3).toInt = 3 ∧ (gi mem 221 6).toInt = 45)) ∨ (v38.toInt = 1 ∧ (gi mem 221 3).toInt = 3 ∧ (gi mem 221 6).toInt = 45)) → (v38).toInt = 0 → PI mr mem fm (f :: r) 1) (h6 : ∀ (v1 : Int32), ((v1.toInt = 0 ∧ ¬ ((gi mem 221 3).toInt = 3 ∧ (gi mem 221 6).toInt = 43)) ∨ (v1.toInt = 1 ∧ (gi mem 221 3).toInt = 3 ∧ (gi mem 221 6).toInt = 43)) → (v1).toInt = 0 → ∀ (v38 : Int32), ((v38.toInt = 0 ∧ ¬ ((gi mem 221 3).toInt = 3 ∧ (gi mem 221 6).toInt = 45)) ∨ (v38.toInt = 1 ∧ (gi mem 221 3).toInt = 3 ∧ (gi mem 221 6).toInt = 45)) → (v38).toInt = 0 → ∀ (m41 : zM), aTm aT0 m41 → (jnQ mem m41 mr fm f r 6 ∧ (gi m41 221 41).toInt = (gi mem 221 41).toInt ∧ (gi m41 221 3).toInt = (gi mem 221 3).toInt ∧ (gi m41 221 6).toInt = (gi mem 221 6).toInt ∧ (gi m41 221 4).toInt = (gi mem 221 4).toInt ∧ (gi m41 221 5).toInt = (gi mem 221 5).toInt ∧ (gi m41 221 2).toInt = (gi mem 221 2).toInt ∧ (gi m41 221 8).toInt = (gi mem 221 8).toInt ∧ (0 ≤ (gi m41 221 44).toInt ∧ (gi m41 221 44).toInt ≤ 60) ∧ (0 ≤ (gi m41 221 33).toInt ∧ (gi m41 221 33).toInt ≤ 1599) ∧ (0 ≤ (gi m41 221 42).toInt ∧ (gi m41 221 42).toInt ≤ 7) ∧ (0 ≤ (gi m41 221 34).toInt ∧ (gi m41 221 34).toInt ≤ 1)) → ∀ (v43 : Int32), ((v43.toInt = 0 ∧ ¬ ((gi m41 221 3).toInt = 3 ∧ (gi m41 221 6).toInt = 43)) ∨ (v43.toInt = 1 ∧ (gi m41 221 3).toInt = 3 ∧ (gi m41 221 6).toInt = 43)) → (v43).toInt = 0 → ∀ (v46 : Int32), ((v46.toInt = 0 ∧ ¬ ((gi m41 221 3).toInt = 3 ∧ (gi m41 221 6).toInt = 45)) ∨ (v46.toInt = 1 ∧ (gi m41 221 3).toInt = 3 ∧ (gi m41 221 6).toInt = 45)) → (v46).toInt = 0 → ∀ (v49 : Int32), ((v49.toInt = 0 ∧ ¬ ((gi m41 221 3).toInt = 3 ∧ (gi m41 221 6).toInt = 42)) ∨ (v49.toInt = 1 ∧ (gi m41 221 3).toInt = 3 ∧ (gi m41 221 6).toInt = 42)) → (v49).toInt = 0 → ∀ (v52 : Int32), ((v52.toInt = 0 ∧ ¬ ((gi m41 221 3).toInt = 3 ∧ (gi m41 221 6).toInt = 47)) ∨ (v52.toInt = 1 ∧ (gi m41 221 3).toInt = 3 ∧ (gi m41 221 6).toInt = 47)) → (v52).toInt = 0 → ∀ (x55 : Int32), x55.toInt = ((gi m41 221 44).toInt + 1) → ∀ (m57 : zM), aTm aT0 m57 → (ahQ (si (sx m41 247 (gi m41 221 44) 35) 221 44 x55) m57 ∧ (gi m57 221 41).toInt = (gi m41 221 41).toInt ∧ (gi m57 221 42).toInt = (gi m41 221 42).toInt ∧ (gi m57 221 44).toInt = x55.toInt ∧ (gi m57 221 33).toInt = (gi m41 221 33).toInt ∧ (gi m57 221 8).toInt = (gi m41 221 8).toInt ∧ (gi m41 221 5).toInt ≤ (gi m57 221 4).toInt ∧ (gi m57 221 4).toInt ≤ (gi m57 221 5).toInt ∧ (gi m57 221 5).toInt ≤ (gi m57 221 2).toInt) → aTm aT0 (si m57 221 45 0) → P (some (.int 1)) (si m57 221 45 0)) (h7 : ∀ (v1 : Int32), ((v1.toInt = 0 ∧ ¬ ((gi mem 221 3).toInt = 3 ∧ (gi mem 221 6).toInt = 43)) ∨ (v1.toInt = 1 ∧ (gi mem 221 3).toInt = 3 ∧ (gi mem 221 6).toInt = 43)) → (v1).toInt = 0 → ∀ (v38 : Int32), ((v38.toInt = 0 ∧ ¬ ((gi mem 221 3).toInt = 3 ∧ (gi mem 221 6).toInt = 45)) ∨ (v38.toInt = 1 ∧ (gi mem 221 3).toInt = 3 ∧ (gi mem 221 6).toInt = 45)) → (v38).toInt = 0 → ∀ (m41 : zM), aTm aT0 m41 → (jnQ mem m41 mr fm f r 6 ∧ (gi m41 221 41).toInt = (gi mem 221 41).toInt ∧ (gi m41 221 3).toInt = (gi mem 221 3).toInt ∧ (gi m41 221 6).toInt = (gi mem 221 6).toInt ∧ (gi m41 221 4).toInt = (gi mem 221 4).toInt ∧ (gi m41 221 5).toInt = (gi mem 221 5).toInt ∧ (gi m41 221 2).toInt = (gi mem 221 2).toInt ∧ (gi m41 221 8).toInt = (gi mem 221 8).toInt ∧ (0 ≤ (gi m41 221 44).toInt ∧ (gi m41 221 44).toInt ≤ 60) ∧ (0 ≤ (gi m41 221 33).toInt ∧ (gi m41 221 33).toInt ≤ 1599) ∧ (0 ≤ (gi m41 221 42).toInt ∧ (gi m41 221 42).toInt ≤ 7) ∧ (0 ≤ (gi m41 221 34).toInt ∧ (gi m41 221 34).toInt ≤ 1)) → ∀ (v43 : Int32), ((v43.toInt = 0 ∧ ¬ ((gi m41 221 3).toInt = 3 ∧ (gi m41 221 6).toInt = 43)) ∨ (v43.toInt = 1 ∧ (gi m41 221 3).toInt = 3 ∧ (gi m41 221 6).toInt = 43)) → (v43).toInt = 0 → ∀ (v46 : Int32), ((v46.toInt = 0 ∧ ¬ ((gi m41 221 3).toInt = 3 ∧ (gi m41 221 6).toInt = 45)) ∨ (v46.toInt = 1 ∧ (gi m41 221 3).toInt = 3 ∧ (gi m41 221 6).toInt = 45)) → (v46).toInt = 0 → ∀ (v49 : Int32), ((v49.toInt = 0 ∧ ¬ ((gi m41 221 3).toInt = 3 ∧ (gi m41 221 6).toInt = 42)) ∨ (v49.toInt = 1 ∧ (gi m41 221 3).toInt = 3 ∧ (gi m41 221 6).toInt = 42)) → (v49).toInt = 0 → ∀ (v52 : Int32), ((v52.toInt = 0 ∧ ¬ ((gi m41 221 3).toInt = 3 ∧ (gi m41 221 6).toInt = 47)) ∨ (v52.toInt = 1 ∧ (gi m41 221 3).toInt = 3 ∧ (gi m41 221 6).toInt = 47)) → ¬ (v52).toInt = 0 → ∀ (x59 : Int32), x59.toInt = ((gi m41 221 44).toInt + 1) → ∀ (m61 : zM), aTm aT0 m61 → (ahQ (si (sx m41 247 (gi m41 221 44) 34) 221 44 x59) m61 ∧ (gi m61 221 41).toInt = (gi m41 221 41).toInt ∧ (gi m61 221 42).toInt = (gi m41 221 42).toInt ∧ (gi m61 221 44).toInt = x59.toInt ∧ (gi m61 221 33).toInt = (gi m41 221 33).toInt ∧ (gi m61 221 8).toInt = (gi m41 221 8).toInt ∧ (gi m41 221 5).toInt ≤ (gi m61 221 4).toInt ∧ (gi m61 221 4).toInt ≤ (gi m61 221 5).toInt ∧ (gi m61 221 5).toInt ≤ (gi m61 221 2).toInt) → aTm aT0 (si m61 221 45 0) → P (some (.int 1)) (si m61 221 45 0)) (h8 : ∀ (v1 : Int32), ((v1.toInt = 0 ∧ ¬ ((gi mem 221 3).toInt = 3 ∧ (gi mem 221 6).toInt = 43)) ∨ (v1.toInt = 1 ∧ (gi mem 221 3).toInt = 3 ∧ (gi mem 221 6).toInt = 43)) → (v1).toInt = 0 → ∀ (v38 : Int32), ((v38.toInt = 0 ∧ ¬ ((gi mem 221 3).toInt = 3 ∧ (gi mem 221 6).toInt = 45)) ∨ (v38.toInt = 1 ∧ (gi mem 221 3).toInt = 3 ∧ (gi mem 221 6).toInt = 45)) → (v38).toInt = 0 → ∀ (m41 : zM), aTm aT0 m41 → (jnQ mem m41 mr fm f r 6 ∧ (gi m41 221 41).toInt = (gi mem 221 41).toInt ∧ (gi m41 221 3).toInt = (gi mem 221 3).toInt ∧ (gi m41 221 6).toInt = (gi mem 221 6).toInt ∧ (gi m41 221 4).toInt = (gi mem 221 4).toInt ∧ (gi m41 221 5).toInt = (gi mem 221 5).toInt ∧ (gi m41 221 2).toInt = (gi mem 221 2).toInt ∧ (gi m41 221 8).toInt = (gi mem 221 8).toInt ∧ (0 ≤ (gi m41 221 44).toInt ∧ (gi m41 221 44).toInt ≤ 60) ∧ (0 ≤ (gi m41 221 33).toInt ∧ (gi m41 221 33).toInt ≤ 1599) ∧ (0 ≤ (gi m41 221 42).toInt ∧ (gi m41 221 42).toInt ≤ 7) ∧ (0 ≤ (gi m41 221 34).toInt ∧ (gi m41 221 34).toInt ≤ 1)) → ∀ (v43 : Int32), ((v43.toInt = 0 ∧ ¬ ((gi m41 221 3).toInt = 3 ∧ (gi m41 221 6).toInt = 43)) ∨ (v43.toInt = 1 ∧ (gi m41 221 3).toInt = 3 ∧ (gi m41 221 6).toInt = 43)) → (v43).toInt = 0 → ∀ (v46 : Int32), ((v46.toInt = 0 ∧ ¬ ((gi m41 221 3).toInt = 3 ∧ (gi m41 221 6).toInt = 45)) ∨ (v46.toInt = 1 ∧ (gi m41 221 3).toInt = 3 ∧ (gi m41 221 6).toInt = 45)) → (v46).toInt = 0 → ∀ (v49 : Int32), ((v49.toInt = 0 ∧ ¬ ((gi m41 221 3).toInt = 3 ∧ (gi m41 221 6).toInt = 42)) ∨ (v49.toInt = 1 ∧ (gi m41 221 3).toInt = 3 ∧ (gi m41 221 6).toInt = 42)) → ¬ (v49).toInt = 0 → ∀ (x63 : Int32), x63.toInt = ((gi m41 221 44).toInt + 1) → ∀ (m65 : zM), aTm aT0 m65 → (ahQ (si (sx m41 247 (gi m41 221 44) 33) 221 44 x63) m65 ∧ (gi m65 221 41).toInt = (gi m41 221 41).toInt ∧ (gi m65 221 42).toInt = (gi m41 221 42).toInt ∧ (gi m65 221 44).toInt = x63.toInt ∧ (gi m65 221 33).toInt = (gi m41 221 33).toInt ∧ (gi m65 221 8).toInt = (gi m41 221 8).toInt ∧ (gi m41 221 5).toInt ≤ (gi m65 221 4).toInt ∧ (gi m65 221 4).toInt ≤ (gi m65 221 5).toInt ∧ (gi m65 221 5).toInt ≤ (gi m65 221 2).toInt) → aTm aT0 (si m65 221 45 0) → P (some (.int 1)) (si m65 221 45 0)) (h9 : ∀ (v1 : Int32), ((v1.toInt = 0 ∧ ¬ ((gi mem 221 3).toInt = 3 ∧ (gi mem 221 6).toInt = 43)) ∨ (v1.toInt = 1 ∧ (gi mem 221 3).toInt = 3 ∧ (gi mem 221 6).toInt = 43)) → (v1).toInt = 0 → ∀ (v38 : Int32), ((v38.toInt = 0 ∧ ¬ ((gi mem 221 3).toInt = 3 ∧ (gi mem 221 6).toInt = 45)) ∨ (v38.toInt = 1 ∧ (gi mem 221 3).toInt = 3 ∧ (gi mem 221 6).toInt = 45)) → (v38).toInt = 0 → ∀ (m41 : zM), aTm aT0 m41 → (jnQ mem m41 mr fm f r 6 ∧ (gi m41 221 41).toInt = (gi mem 221 41).toInt ∧ (gi m41 221 3).toInt = (gi mem 221 3).toInt ∧ (gi m41 221 6).toInt = (gi mem 221 6).toInt ∧ (gi m41 221 4).toInt = (gi mem 221 4).toInt ∧ (gi m41 221 5).toInt = (gi mem 221 5).toInt ∧ (gi m41 221 2).toInt = (gi mem 221 2).toInt ∧ (gi m41 221 8).toInt = (gi mem 221 8).toInt ∧ (0 ≤ (gi m41 221 44).toInt ∧ (gi m41 221 44).toInt ≤ 60) ∧ (0 ≤ (gi m41 221 33).toInt ∧ (gi m41 221 33).toInt ≤ 1599) ∧ (0 ≤ (gi m41 221 42).toInt ∧ (gi m41 221 42).toInt ≤ 7) ∧ (0 ≤ (gi m41 221 34).toInt ∧ (gi m41 221 34).toInt ≤ 1)) → ∀ (v43 : Int32), ((v43.toInt = 0 ∧ ¬ ((gi m41 221 3).toInt = 3 ∧ (gi m41 221 6).toInt = 43)) ∨ (v43.toInt = 1 ∧ (gi m41 221 3).toInt = 3 ∧ (gi m41 221 6).toInt = 43)) → (v43).toInt = 0 → ∀ (v46 : Int32), ((v46.toInt = 0 ∧ ¬ ((gi m41 221 3).toInt = 3 ∧ (gi m41 221 6).toInt = 45)) ∨ (v46.toInt = 1 ∧ (gi m41 221 3).toInt = 3 ∧ (gi m41 221 6).toInt = 45)) → ¬ (v46).toInt = 0 → ∀ (x67 : Int32), x67.toInt = ((gi m41 221 44).toInt + 1) → ∀ (m69 : zM), aTm aT0 m69 → (ahQ (si (sx m41 247 (gi m41 221 44) 32) 221 44 x67) m69 ∧ (gi m69 221 41).toInt = (gi m41 221 41).toInt ∧ (gi m69 221 42).toInt = (gi m41 221 42).toInt ∧ (gi m69 221 44).toInt = x67.toInt ∧ (gi m69 221 33).toInt = (gi m41 221 33).toInt ∧ (gi m69 221 8).toInt = (gi m41 221 8).toInt ∧ (gi m41 221 5).toInt ≤ (gi m69 221 4).toInt ∧ (gi m69 221 4).toInt ≤ (gi m69 221 5).toInt ∧ (gi m69 221 5).toInt ≤ (gi m69 221 2).toInt) → aTm aT0 (si m69 221 45 0) → P (some (.int 1)) (si m69 221 45 0)) (h10 : ∀ (v1 : Int32), ((v1.toInt = 0 ∧ ¬ ((gi mem 221 3).toInt = 3 ∧ (gi mem 221 6).toInt = 43)) ∨ (v1.toInt = 1 ∧ (gi mem 221 3).toInt = 3 ∧ (gi mem 221 6).toInt = 43)) → (v1).toInt = 0 → ∀ (v38 : Int32), ((v38.toInt = 0 ∧ ¬ ((gi mem 221 3).toInt = 3 ∧ (gi mem 221 6).toInt = 45)) ∨ (v38.toInt = 1 ∧ (gi mem 221 3).toInt = 3 ∧ (gi mem 221 6).toInt = 45)) → (v38).toInt = 0 → ∀ (m41 : zM), aTm aT0 m41 → (jnQ mem m41 mr fm f r 6 ∧ (gi m41 221 41).toInt = (gi mem 221 41).toInt ∧ (gi m41 221 3).toInt = (gi mem 221 3).toInt ∧ (gi m41 221 6).toInt = (gi mem 221 6).toInt ∧ (gi m41 221 4).toInt = (gi mem 221 4).toInt ∧ (gi m41 221 5).toInt = (gi mem 221 5).toInt ∧ (gi m41 221 2).toInt = (gi mem 221 2).toInt ∧ (gi m41 221 8).toInt = (gi mem 221 8).toInt ∧ (0 ≤ (gi m41 221 44).toInt ∧ (gi m41 221 44).toInt ≤ 60) ∧ (0 ≤ (gi m41 221 33).toInt ∧ (gi m41 221 33).toInt ≤ 1599) ∧ (0 ≤ (gi m41 221 42).toInt ∧ (gi m41 221 42).toInt ≤ 7) ∧ (0 ≤ (gi m41 221 34).toInt ∧ (gi m41 221 34).toInt ≤ 1)) → ∀ (v43 : Int32), ((v43.toInt = 0 ∧ ¬ ((gi m41 221 3).toInt = 3 ∧ (gi m41 221 6).toInt = 43)) ∨ (v43.toInt = 1 ∧ (gi m41 221 3).toInt = 3 ∧ (gi m41 221 6).toInt = 43)) → ¬ (v43).toInt = 0 → ∀ (x71 : Int32), x71.toInt = ((gi m41 221 44).toInt + 1) → ∀ (m73 : zM), aTm aT0 m73 → (ahQ (si (sx m41 247 (gi m41 221 44) 31) 221 44 x71) m73 ∧ (gi m73 221 41).toInt = (gi m41 221 41).toInt ∧ (gi m73 221 42).toInt = (gi m41 221 42).toInt ∧ (gi m73 221 44).toInt = x71.toInt ∧ (gi m73 221 33).toInt = (gi m41 221 33).toInt ∧ (gi m73 221 8).toInt = (gi m41 221 8).toInt ∧ (gi m41 221 5).toInt ≤ (gi m73 221 4).toInt ∧ (gi m73 221 4).toInt ≤ (gi m73 221 5).toInt ∧ (gi m73 221 5).toInt ≤ (gi m73 221 2).toInt) → aTm aT0 (si m73 221 45 0) → P (some (.int 1)) (si m73 221 45 0)) (s3 : ∀ (v1 : Int32), ((v1.toInt = 0 ∧ ¬ ((gi mem 221 3).toInt = 3 ∧ (gi mem 221 6).toInt = 43)) ∨ (v1.toInt = 1 ∧ (gi mem 221 3).toInt = 3 ∧ (gi mem 221 6).toInt = 43)) → (v1).toInt = 0 → ∀ (v38 : Int32), ((v38.toInt = 0 ∧ ¬ ((gi mem 221 3).toInt = 3 ∧ (gi mem 221 6).toInt = 45)) ∨ (v38.toInt = 1 ∧ (gi mem 221 3).toInt = 3 ∧ (gi mem 221 6).toInt = 45)) → ¬ (v38).toInt = 0 → PI mr mem fm (f :: r) 1) (h11 : ∀ (v1 : Int32), ((v1.toInt = 0 ∧ ¬ ((gi mem 221 3).toInt = 3 ∧ (gi mem 221 6).toInt = 43)) ∨ (v1.toInt = 1 ∧ (gi mem 221 3).toInt = 3 ∧ (gi mem 221 6).toInt = 43)) → (v1).toInt = 0 → ∀ (v38 : Int32), ((v38.toInt = 0 ∧ ¬ ((gi mem 221 3).toInt = 3 ∧ (gi mem 221 6).toInt = 45)) ∨ (v38.toInt = 1 ∧ (gi mem 221 3).toInt = 3 ∧ (gi mem 221 6).toInt = 45)) → ¬ (v38).toInt = 0 → ∀ (m75 : zM), aTm aT0 m75 → (jnQ mem m75 mr fm f r 5 ∧ (gi m75 221 41).toInt = (gi mem 221 41).toInt ∧ (gi m75 221 3).toInt = (gi mem 221 3).toInt ∧ (gi m75 221 6).toInt = (gi mem 221 6).toInt ∧ (gi m75 221 4).toInt = (gi mem 221 4).toInt ∧ (gi m75 221 5).toInt = (gi mem 221 5).toInt ∧ (gi m75 221 2).toInt = (gi mem 221 2).toInt ∧ (gi m75 221 8).toInt = (gi mem 221 8).toInt ∧ (0 ≤ (gi m75 221 44).toInt ∧ (gi m75 221 44).toInt ≤ 60) ∧ (0 ≤ (gi m75 221 33).toInt ∧ (gi m75 221 33).toInt ≤ 1599) ∧ (0 ≤ (gi m75 221 42).toInt ∧ (gi m75 221 42).toInt ≤ 7) ∧ (0 ≤ (gi m75 221 34).toInt ∧ (gi m75 221 34).toInt ≤ 1)) → ∀ (v77 : Int32), ((v77.toInt = 0 ∧ ¬ ((gi m75 221 3).toInt = 3 ∧ (gi m75 221 6).toInt = 43)) ∨ (v77.toInt = 1 ∧ (gi m75 221 3).toInt = 3 ∧ (gi m75 221 6).toInt = 43)) → (v77).toInt = 0 → ∀ (v80 : Int32), ((v80.toInt = 0 ∧ ¬ ((gi m75 221 3).toInt = 3 ∧ (gi m75 221 6).toInt = 45)) ∨ (v80.toInt = 1 ∧ (gi m75 221 3).toInt = 3 ∧ (gi m75 221 6).toInt = 45)) → (v80).toInt = 0 → ∀ (v83 : Int32), ((v83.toInt = 0 ∧ ¬ ((gi m75 221 3).toInt = 3 ∧ (gi m75 221 6).toInt = 42)) ∨ (v83.toInt = 1 ∧ (gi m75 221 3).toInt = 3 ∧ (gi m75 221 6).toInt = 42)) → (v83).toInt = 0 → ∀ (v86 : Int32), ((v86.toInt = 0 ∧ ¬ ((gi m75 221 3).toInt = 3 ∧ (gi m75 221 6).toInt = 47)) ∨ (v86.toInt = 1 ∧ (gi m75 221 3).toInt = 3 ∧ (gi m75 221 6).toInt = 47)) → (v86).toInt = 0 → ∀ (x89 : Int32), x89.toInt = ((gi m75 221 44).toInt + 1) → ∀ (m91 : zM), aTm aT0 m91 → (ahQ (si (sx m75 247 (gi m75 221 44) 35) 221 44 x89) m91 ∧ (gi m91 221 41).toInt = (gi m75 221 41).toInt ∧ (gi m91 221 42).toInt = (gi m75 221 42).toInt ∧ (gi m91 221 44).toInt = x89.toInt ∧ (gi m91 221 33).toInt = (gi m75 221 33).toInt ∧ (gi m91 221 8).toInt = (gi m75 221 8).toInt ∧ (gi m75 221 5).toInt ≤ (gi m91 221 4).toInt ∧ (gi m91 221 4).toInt ≤ (gi m91 221 5).toInt ∧ (gi m91 221 5).toInt ≤ (gi m91 221 2).toInt) → aTm aT0 (si m91 221 45 0) → P (some (.int 1)) (si m91 221 45 0)) (h12 : ∀ (v1 : Int32), ((v1.toInt = 0 ∧ ¬ ((gi mem 221 3).toInt = 3 ∧ (gi mem 221 6).toInt = 43)) ∨ (v1.toInt = 1 ∧ (gi mem 221 3).toInt = 3 ∧ (gi mem 221 6).toInt = 43)) → (v1).toInt = 0 → ∀ (v38 : Int32), ((v38.toInt = 0 ∧ ¬ ((gi mem 221 3).toInt = 3 ∧ (gi mem 221 6).toInt = 45)) ∨ (v38.toInt = 1 ∧ (gi mem 221 3).toInt = 3 ∧ (gi mem 221 6).toInt = 45)) → ¬ (v38).toInt = 0 → ∀ (m75 : zM), aTm aT0 m75 → (jnQ mem m75 mr fm f r 5 ∧ (gi m75 221 41).toInt = (gi mem 221 41).toInt ∧ (gi m75 221 3).toInt = (gi mem 221 3).toInt ∧ (gi m75 221 6).toInt = (gi mem 221 6).toInt ∧ (gi m75 221 4).toInt = (gi mem 221 4).toInt ∧ (gi m75 221 5).toInt = (gi mem 221 5).toInt ∧ (gi m75 221 2).toInt = (gi mem 221 2).toInt ∧ (gi m75 221 8).toInt = (gi mem 221 8).toInt ∧ (0 ≤ (gi m75 221 44).toInt ∧ (gi m75 221 44).toInt ≤ 60) ∧ (0 ≤ (gi m75 221 33).toInt ∧ (gi m75 221 33).toInt ≤ 1599) ∧ (0 ≤ (gi m75 221 42).toInt ∧ (gi m75 221 42).toInt ≤ 7) ∧ (0 ≤ (gi m75 221 34).toInt ∧ (gi m75 221 34).toInt ≤ 1)) → ∀ (v77 : Int32), ((v77.toInt = 0 ∧ ¬ ((gi m75 221 3).toInt = 3 ∧ (gi m75 221 6).toInt = 43)) ∨ (v77.toInt = 1 ∧ (gi m75 221 3).toInt = 3 ∧ (gi m75 221 6).toInt = 43)) → (v77).toInt = 0 → ∀ (v80 : Int32), ((v80.toInt = 0 ∧ ¬ ((gi m75 221 3).toInt = 3 ∧ (gi m75 221 6).toInt = 45)) ∨ (v80.toInt = 1 ∧ (gi m75 221 3).toInt = 3 ∧ (gi m75 221 6).toInt = 45)) → (v80).toInt = 0 → ∀ (v83 : Int32), ((v83.toInt = 0 ∧ ¬ ((gi m75 221 3).toInt = 3 ∧ (gi m75 221 6).toInt = 42)) ∨ (v83.toInt = 1 ∧ (gi m75 221 3).toInt = 3 ∧ (gi m75 221 6).toInt = 42)) → (v83).toInt = 0 → ∀ (v86 : Int32), ((v86.toInt = 0 ∧ ¬ ((gi m75 221 3).toInt = 3 ∧ (gi m75 221 6).toInt = 47)) ∨ (v86.toInt = 1 ∧ (gi m75 221 3).toInt = 3 ∧ (gi m75 221 6).toInt = 47)) → ¬ (v86).toInt = 0 → ∀ (x93 : Int32), x93.toInt = ((gi m75 221 44).toInt + 1) → ∀ (m95 : zM), aTm aT0 m95 → (ahQ (si (sx m75 247 (gi m75 221 44) 34) 221 44 x93) m95 ∧ (gi m95 221 41).toInt = (gi m75 221 41).toInt ∧ (gi m95 221 42).toInt = (gi m75 221 42).toInt ∧ (gi m95 221 44).toInt = x93.toInt ∧ (gi m95 221 33).toInt = (gi m75 221 33).toInt ∧ (gi m95 221 8).toInt = (gi m75 221 8).toInt ∧ (gi m75 221 5).toInt ≤ (gi m95 221 4).toInt ∧ (gi m95 221 4).toInt ≤ (gi m95 221 5).toInt ∧ (gi m95 221 5).toInt ≤ (gi m95 221 2).toInt) → aTm aT0 (si m95 221 45 0) → P (some (.int 1)) (si m95 221 45 0)) (h13 : ∀ (v1 : Int32), ((v1.toInt = 0 ∧ ¬ ((gi mem 221 3).toInt = 3 ∧ (gi mem 221 6).toInt = 43)) ∨ (v1.toInt = 1 ∧ (gi mem 221 3).toInt = 3 ∧ (gi mem 221 6).toInt = 43)) → (v1).toInt = 0 → ∀ (v38 : Int32), ((v38.toInt = 0 ∧ ¬ ((gi mem 221 3).toInt = 3 ∧ (gi mem 221 6).toInt = 45)) ∨ (v38.toInt = 1 ∧ (gi mem 221 3).toInt = 3 ∧ (gi mem 221 6).toInt = 45)) → ¬ (v38).toInt = 0 → ∀ (m75 : zM), aTm aT0 m75 → (jnQ mem m75 mr fm f r 5 ∧ (gi m75 221 41).toInt = (gi mem 221 41).toInt ∧ (gi m75 221 3).toInt = (gi mem 221 3).toInt ∧ (gi m75 221 6).toInt = (gi mem 221 6).toInt ∧ (gi m75 221 4).toInt = (gi mem 221 4).toInt ∧ (gi m75 221 5).toInt = (gi mem 221 5).toInt ∧ (gi m75 221 2).toInt = (gi mem 221 2).toInt ∧ (gi m75 221 8).toInt = (gi mem 221 8).toInt ∧ (0 ≤ (gi m75 221 44).toInt ∧ (gi m75 221 44).toInt ≤ 60) ∧ (0 ≤ (gi m75 221 33).toInt ∧ (gi m75 221 33).toInt ≤ 1599) ∧ (0 ≤ (gi m75 221 42).toInt ∧ (gi m75 221 42).toInt ≤ 7) ∧ (0 ≤ (gi m75 221 34).toInt ∧ (gi m75 221 34).toInt ≤ 1)) → ∀ (v77 : Int32), ((v77.toInt = 0 ∧ ¬ ((gi m75 221 3).toInt = 3 ∧ (gi m75 221 6).toInt = 43)) ∨ (v77.toInt = 1 ∧ (gi m75 221 3).toInt = 3 ∧ (gi m75 221 6).toInt = 43)) → (v77).toInt = 0 → ∀ (v80 : Int32), ((v80.toInt = 0 ∧ ¬ ((gi m75 221 3).toInt = 3 ∧ (gi m75 221 6).toInt = 45)) ∨ (v80.toInt = 1 ∧ (gi m75 221 3).toInt = 3 ∧ (gi m75 221 6).toInt = 45)) → (v80).toInt = 0 → ∀ (v83 : Int32), ((v83.toInt = 0 ∧ ¬ ((gi m75 221 3).toInt = 3 ∧ (gi m75 221 6).toInt = 42)) ∨ (v83.toInt = 1 ∧ (gi m75 221 3).toInt = 3 ∧ (gi m75 221 6).toInt = 42)) → ¬ (v83).toInt = 0 → ∀ (x97 : Int32), x97.toInt = ((gi m75 221 44).toInt + 1) → ∀ (m99 : zM), aTm aT0 m99 → (ahQ (si (sx m75 247 (gi m75 221 44) 33) 221 44 x97) m99 ∧ (gi m99 221 41).toInt = (gi m75 221 41).toInt ∧ (gi m99 221 42).toInt = (gi m75 221 42).toInt ∧ (gi m99 221 44).toInt = x97.toInt ∧ (gi m99 221 33).toInt = (gi m75 221 33).toInt ∧ (gi m99 221 8).toInt = (gi m75 221 8).toInt ∧ (gi m75 221 5).toInt ≤ (gi m99 221 4).toInt ∧ (gi m99 221 4).toInt ≤ (gi m99 221 5).toInt ∧ (gi m99 221 5).toInt ≤ (gi m99 221 2).toInt) → aTm aT0 (si m99 221 45 0) → P (some (.int 1)) (si m99 221 45 0)) (h14 : ∀ (v1 : Int32), ((v1.toInt = 0 ∧ ¬ ((gi mem 221 3).toInt = 3 ∧ (gi mem 221 6).toInt = 43)) ∨ (v1.toInt = 1 ∧ (gi mem 221 3).toInt = 3 ∧ (gi mem 221 6).toInt = 43)) → (v1).toInt = 0 → ∀ (v38 : Int32), ((v38.toInt = 0 ∧ ¬ ((gi mem 221 3).toInt = 3 ∧ (gi mem 221 6).toInt = 45)) ∨ (v38.toInt = 1 ∧ (gi mem 221 3).toInt = 3 ∧ (gi mem 221 6).toInt = 45)) → ¬ (v38).toInt = 0 → ∀ (m75 : zM), aTm aT0 m75 → (jnQ mem m75 mr fm f r 5 ∧ (gi m75 221 41).toInt = (gi mem 221 41).toInt ∧ (gi m75 221 3).toInt = (gi mem 221 3).toInt ∧ (gi m75 221 6).toInt = (gi mem 221 6).toInt ∧ (gi m75 221 4).toInt = (gi mem 221 4).toInt ∧ (gi m75 221 5).toInt = (gi mem 221 5).toInt ∧ (gi m75 221 2).toInt = (gi mem 221 2).toInt ∧ (gi m75 221 8).toInt = (gi mem 221 8).toInt ∧ (0 ≤ (gi m75 221 44).toInt ∧ (gi m75 221 44).toInt ≤ 60) ∧ (0 ≤ (gi m75 221 33).toInt ∧ (gi m75 221 33).toInt ≤ 1599) ∧ (0 ≤ (gi m75 221 42).toInt ∧ (gi m75 221 42).toInt ≤ 7) ∧ (0 ≤ (gi m75 221 34).toInt ∧ (gi m75 221 34).toInt ≤ 1)) → ∀ (v77 : Int32), ((v77.toInt = 0 ∧ ¬ ((gi m75 221 3).toInt = 3 ∧ (gi m75 221 6).toInt = 43)) ∨ (v77.toInt = 1 ∧ (gi m75 221 3).toInt = 3 ∧ (gi m75 221 6).toInt = 43)) → (v77).toInt = 0 → ∀ (v80 : Int32), ((v80.toInt = 0 ∧ ¬ ((gi m75 221 3).toInt = 3 ∧ (gi m75 221 6).toInt = 45)) ∨ (v80.toInt = 1 ∧ (gi m75 221 3).toInt = 3 ∧ (gi m75 221 6).toInt = 45)) → ¬ (v80).toInt = 0 → ∀ (x101 : Int32), x101.toInt = ((gi m75 221 44).toInt + 1) → ∀ (m103 : zM), aTm aT0 m103 → (ahQ (si (sx m75 247 (gi m75 221 44) 32) 221 44 x101) m103 ∧ (gi m103 221 41).toInt = (gi m75 221 41).toInt ∧ (gi m103 221 42).toInt = (gi m75 221 42).toInt ∧ (gi m103 221 44).toInt = x101.toInt ∧ (gi m103 221 33).toInt = (gi m75 221 33).toInt ∧ (gi m103 221 8).toInt = (gi m75 221 8).toInt ∧ (gi m75 221 5).toInt ≤ (gi m103 221 4).toInt ∧ (gi m103 221 4).toInt ≤ (gi m103 221 5).toInt ∧ (gi m103 221 5).toInt ≤ (gi m103 221 2).toInt) → aTm aT0 (si m103 221 45 0) → P (some (.int 1)) (si m103 221 45 0)) (h15 : ∀ (v1 : Int32), ((v1.toInt = 0 ∧ ¬ ((gi mem 221 3).toInt = 3 ∧ (gi mem 221 6).toInt = 43)) ∨ (v1.toInt = 1 ∧ (gi mem 221 3).toInt = 3 ∧ (gi mem 221 6).toInt = 43)) → (v1).toInt = 0 → ∀ (v38 : Int32), ((v38.toInt = 0 ∧ ¬ ((gi mem 221 3).toInt = 3 ∧ (gi mem 221 6).toInt = 45)) ∨ (v38.toInt = 1 ∧ (gi mem 221 3).toInt = 3 ∧ (gi mem 221 6).toInt = 45)) → ¬ (v38).toInt = 0 → ∀ (m75 : zM), aTm aT0 m75 → (jnQ mem m75 mr fm f r 5 ∧ (gi m75 221 41).toInt = (gi mem 221 41).toInt ∧ (gi m75 221 3).toInt = (gi mem 221 3).toInt ∧ (gi m75 221 6).toInt = (gi mem 221 6).toInt ∧ (gi m75 221 4).toInt = (gi mem 221 4).toInt ∧ (gi m75 221 5).toInt = (gi mem 221 5).toInt ∧ (gi m75 221 2).toInt = (gi mem 221 2).toInt ∧ (gi m75 221 8).toInt = (gi mem 221 8).toInt ∧ (0 ≤ (gi m75 221 44).toInt ∧ (gi m75 221 44).toInt ≤ 60) ∧ (0 ≤ (gi m75 221 33).toInt ∧ (gi m75 221 33).toInt ≤ 1599) ∧ (0 ≤ (gi m75 221 42).toInt ∧ (gi m75 221 42).toInt ≤ 7) ∧ (0 ≤ (gi m75 221 34).toInt ∧ (gi m75 221 34).toInt ≤ 1)) → ∀ (v77 : Int32), ((v77.toInt = 0 ∧ ¬ ((gi m75 221 3).toInt = 3 ∧ (gi m75 221 6).toInt = 43)) ∨ (v77.toInt = 1 ∧ (gi m75 221 3).toInt = 3 ∧ (gi m75 221 6).toInt = 43)) → ¬ (v77).toInt = 0 → ∀ (x105 : Int32), x105.toInt = ((gi m75 221 44).toInt + 1) → ∀ (m107 : zM), aTm aT0 m107 → (ahQ (si (sx m75 247 (gi m75 221 44) 31) 221 44 x105) m107 ∧ (gi m107 221 41).toInt = (gi m75 221 41).toInt ∧ (gi m107 221 42).toInt = (gi m75 221 42).toInt ∧ (gi m107 221 44).toInt = x105.toInt ∧ (gi m107 221 33).toInt = (gi m75 221 33).toInt ∧ (gi m107 221 8).toInt = (gi m75 221 8).toInt ∧ (gi m75 221 5).toInt ≤ (gi m107 221 4).toInt ∧ (gi m107 221 4).toInt ≤ (gi m107 221 5).toInt ∧ (gi m107 221 5).toInt ≤ (gi m107 221 2).toInt) → aTm aT0 (si m107 221 45 0) → P (some (.int 1)) (si m107 221 45 0)) : yR zpg tX12_goesOn (d + 5) (87, lo, [], mem) P := by
  obtain ⟨i0, i1⟩ := mO_r34 hm
  refine wR_la rfl l_0 ?_
  refine wR_la rfl l_0 ?_
  refine yR_m 1 (fun _ _ _ _ => rfl) ?_
  refine wR_cv rfl rfl mO_e hm rfl (c_isSign2 hm rfl rfl (by omega)) ?_
  rintro _ _ ⟨v1, rfl, rfl, k2⟩
  show yR zpg tX12_goesOn (d + 5) (94, lo, [.int v1, .ref 221], mem) _
  refine wR_if_ne rfl (a := (v1).toInt) rfl (fun q3 => ?_) (fun q3 => ?_)
  ·
    refine yR_m 2 (fun _ _ _ _ => rfl) ?_
    refine wR_cv rfl rfl mO_e hm rfl (h_joins2 (by omega) hm (s1 v1 k2 q3) rfl rfl rfl rfl rfl rfl rfl) ?_
    rintro _ m4 ⟨rfl, hI4, k5⟩
    show yR zpg tX12_goesOn (d + 5) (115, lo, [], m4) _
    refine wR_la rfl l_0 ?_
    refine wR_la rfl l_0 ?_
    refine yR_m 1 (fun _ _ _ _ => rfl) ?_
    refine wR_cv rfl rfl mO_e hI4 rfl (c_isSign2 hI4 rfl rfl (by omega)) ?_
    rintro _ _ ⟨v6, rfl, rfl, k7⟩
    show yR zpg tX12_goesOn (d + 5) (122, lo, [.int v6, .ref 221], m4) _
    refine wR_if_eq rfl (a := (v6).toInt) rfl (fun q8 => ?_) (fun q8 => ?_)
    ·
      refine wR_la rfl l_0 ?_
      refine yR_m 1 (fun _ _ _ _ => rfl) ?_
      refine wR_cv rfl rfl mO_e hI4 rfl (c_isSign2 hI4 rfl rfl (by omega)) ?_
      rintro _ _ ⟨v9, rfl, rfl, k10⟩
      show yR zpg tX12_goesOn (d + 5) (136, lo, [.int v9, .ref 221], m4) _
      refine wR_if_eq rfl (a := (v9).toInt) rfl (fun q11 => ?_) (fun q11 => ?_)
      ·
        refine wR_la rfl l_0 ?_
        refine yR_m 1 (fun _ _ _ _ => rfl) ?_
        refine wR_cv rfl rfl mO_e hI4 rfl (c_isSign2 hI4 rfl rfl (by omega)) ?_
        rintro _ _ ⟨v12, rfl, rfl, k13⟩
        show yR zpg tX12_goesOn (d + 5) (150, lo, [.int v12, .ref 221], m4) _
        refine wR_if_eq rfl (a := (v12).toInt) rfl (fun q14 => ?_) (fun q14 => ?_)
        ·
          refine wR_la rfl l_0 ?_
          refine yR_m 1 (fun _ _ _ _ => rfl) ?_
          refine wR_cv rfl rfl mO_e hI4 rfl (c_isSign2 hI4 rfl rfl (by omega)) ?_
          rintro _ _ ⟨v15, rfl, rfl, k16⟩
          show yR zpg tX12_goesOn (d + 5) (164, lo, [.int v15, .ref 221], m4) _
          refine wR_if_eq rfl (a := (v15).toInt) rfl (fun q17 => ?_) (fun q17 => ?_)
          ·
            refine yR_m 1 (fun _ _ _ _ => rfl) ?_
            refine wR_iv rfl rfl mO_e hI4 rfl rfl rfl rfl ?_
            show yR zpg tX12_holdsBack (d + 4) (0, [(0, .ref 221), (1, .int 35)], [], m4) _
            refine yR_m 1 (fun _ _ _ _ => rfl) ?_
            refine wR_gr rfl mO_e mO_43 hI4 ?_
            refine yR_m 1 (fun _ _ _ _ => rfl) ?_
            refine wR_gi rfl mO_e mO_44 hI4 rfl ?_
            refine yR_m 1 (fun _ _ _ _ => rfl) ?_
            refine wN_as (a := (gi m4 221 44).toInt) rfl aR_247 hI4 rfl (by omega) ?_
            have hm_1 : aTm aT0 (sx m4 247 (gi m4 221 44) 35) := tm_sa aR_247 hI4 (i32_b _)
            refine yR_m 2 (fun _ _ _ _ => rfl) ?_
            refine wR_gi rfl mO_e mO_44 hm_1 (gi_sa) ?_
            refine yR_m 1 (fun _ _ _ _ => rfl) ?_
            refine wN_add (a := (gi m4 221 44).toInt) (b := 1) rfl rfl rfl (by omega) (fun x18 e19 => ?_)
            refine wR_pi rfl mO_e mO_44 hm_1 rfl ?_
            have hm_2 : aTm aT0 (si (sx m4 247 (gi m4 221 44) 35) 221 44 x18) := tm_si mO_e mO_44 hm_1 (i32_b _)
            refine yR_rv rfl ?_
            show yR zpg tX12_goesOn (d + 5) (177, lo, [], (si (sx m4 247 (gi m4 221 44) 35) 221 44 x18)) _
            refine wR_la rfl l_0 ?_
            refine wR_cv rfl rfl mO_e hm_2 rfl (h_ahead3 (by omega) hm_2 ((gi_sv_ne (by decide)).trans (gi_sa)) ((gi_sv_ne (by decide)).trans (gi_sa)) (by omega) ((gi_sv_ne (by decide)).trans (gi_sa)) ((gi_sv_ne (by decide)).trans (gi_sa)) (gi_si_eq mO_e mO_44 hm_1) ((gi_sv_ne (by decide)).trans (gi_sa)) ((gi_sv_ne (by decide)).trans (gi_sa))) ?_
            rintro _ m20 ⟨rfl, hI20, k21⟩
            show yR zpg tX12_goesOn (d + 5) (181, lo, [], m20) _
            refine wR_la rfl l_0 ?_
            refine yR_m 1 (fun _ _ _ _ => rfl) ?_
            refine wR_pi rfl mO_e mO_45 hI20 rfl ?_
            have hm_3 : aTm aT0 (si m20 221 45 0) := tm_si mO_e mO_45 hI20 (by decide)
            refine yR_m 1 (fun _ _ _ _ => rfl) ?_
            exact yR_rz rfl ⟨by decide, by decide⟩ (h1 v1 k2 q3 m4 hI4 k5 v6 k7 q8 v9 k10 q11 v12 k13 q14 v15 k16 q17 x18 e19 m20 hI20 k21 hm_3)
          ·
            refine yR_m 2 (fun _ _ _ _ => rfl) ?_
            refine wR_iv rfl rfl mO_e hI4 rfl rfl rfl rfl ?_
            show yR zpg tX12_holdsBack (d + 4) (0, [(0, .ref 221), (1, .int 34)], [], m4) _
            refine yR_m 1 (fun _ _ _ _ => rfl) ?_
            refine wR_gr rfl mO_e mO_43 hI4 ?_
            refine yR_m 1 (fun _ _ _ _ => rfl) ?_
            refine wR_gi rfl mO_e mO_44 hI4 rfl ?_
            refine yR_m 1 (fun _ _ _ _ => rfl) ?_
            refine wN_as (a := (gi m4 221 44).toInt) rfl aR_247 hI4 rfl (by omega) ?_
            have hm_4 : aTm aT0 (sx m4 247 (gi m4 221 44) 34) := tm_sa aR_247 hI4 (i32_b _)
            refine yR_m 2 (fun _ _ _ _ => rfl) ?_
            refine wR_gi rfl mO_e mO_44 hm_4 (gi_sa) ?_
            refine yR_m 1 (fun _ _ _ _ => rfl) ?_
            refine wN_add (a := (gi m4 221 44).toInt) (b := 1) rfl rfl rfl (by omega) (fun x22 e23 => ?_)
            refine wR_pi rfl mO_e mO_44 hm_4 rfl ?_
            have hm_5 : aTm aT0 (si (sx m4 247 (gi m4 221 44) 34) 221 44 x22) := tm_si mO_e mO_44 hm_4 (i32_b _)
            refine yR_rv rfl ?_
            show yR zpg tX12_goesOn (d + 5) (177, lo, [], (si (sx m4 247 (gi m4 221 44) 34) 221 44 x22)) _
            refine wR_la rfl l_0 ?_
            refine wR_cv rfl rfl mO_e hm_5 rfl (h_ahead3 (by omega) hm_5 ((gi_sv_ne (by decide)).trans (gi_sa)) ((gi_sv_ne (by decide)).trans (gi_sa)) (by omega) ((gi_sv_ne (by decide)).trans (gi_sa)) ((gi_sv_ne (by decide)).trans (gi_sa)) (gi_si_eq mO_e mO_44 hm_4) ((gi_sv_ne (by decide)).trans (gi_sa)) ((gi_sv_ne (by decide)).trans (gi_sa))) ?_
            rintro _ m24 ⟨rfl, hI24, k25⟩
            show yR zpg tX12_goesOn (d + 5) (181, lo, [], m24) _
            refine wR_la rfl l_0 ?_
            refine yR_m 1 (fun _ _ _ _ => rfl) ?_
            refine wR_pi rfl mO_e mO_45 hI24 rfl ?_
            have hm_6 : aTm aT0 (si m24 221 45 0) := tm_si mO_e mO_45 hI24 (by decide)
            refine yR_m 1 (fun _ _ _ _ => rfl) ?_
            exact yR_rz rfl ⟨by decide, by decide⟩ (h2 v1 k2 q3 m4 hI4 k5 v6 k7 q8 v9 k10 q11 v12 k13 q14 v15 k16 q17 x22 e23 m24 hI24 k25 hm_6)
        ·
          refine yR_m 2 (fun _ _ _ _ => rfl) ?_
          refine wR_iv rfl rfl mO_e hI4 rfl rfl rfl rfl ?_
          show yR zpg tX12_holdsBack (d + 4) (0, [(0, .ref 221), (1, .int 33)], [], m4) _
          refine yR_m 1 (fun _ _ _ _ => rfl) ?_
          refine wR_gr rfl mO_e mO_43 hI4 ?_
          refine yR_m 1 (fun _ _ _ _ => rfl) ?_
          refine wR_gi rfl mO_e mO_44 hI4 rfl ?_
          refine yR_m 1 (fun _ _ _ _ => rfl) ?_
          refine wN_as (a := (gi m4 221 44).toInt) rfl aR_247 hI4 rfl (by omega) ?_
          have hm_7 : aTm aT0 (sx m4 247 (gi m4 221 44) 33) := tm_sa aR_247 hI4 (i32_b _)
          refine yR_m 2 (fun _ _ _ _ => rfl) ?_
          refine wR_gi rfl mO_e mO_44 hm_7 (gi_sa) ?_
          refine yR_m 1 (fun _ _ _ _ => rfl) ?_
          refine wN_add (a := (gi m4 221 44).toInt) (b := 1) rfl rfl rfl (by omega) (fun x26 e27 => ?_)
          refine wR_pi rfl mO_e mO_44 hm_7 rfl ?_
          have hm_8 : aTm aT0 (si (sx m4 247 (gi m4 221 44) 33) 221 44 x26) := tm_si mO_e mO_44 hm_7 (i32_b _)
          refine yR_rv rfl ?_
          show yR zpg tX12_goesOn (d + 5) (177, lo, [], (si (sx m4 247 (gi m4 221 44) 33) 221 44 x26)) _
          refine wR_la rfl l_0 ?_
          refine wR_cv rfl rfl mO_e hm_8 rfl (h_ahead3 (by omega) hm_8 ((gi_sv_ne (by decide)).trans (gi_sa)) ((gi_sv_ne (by decide)).trans (gi_sa)) (by omega) ((gi_sv_ne (by decide)).trans (gi_sa)) ((gi_sv_ne (by decide)).trans (gi_sa)) (gi_si_eq mO_e mO_44 hm_7) ((gi_sv_ne (by decide)).trans (gi_sa)) ((gi_sv_ne (by decide)).trans (gi_sa))) ?_
          rintro _ m28 ⟨rfl, hI28, k29⟩
          show yR zpg tX12_goesOn (d + 5) (181, lo, [], m28) _
          refine wR_la rfl l_0 ?_
          refine yR_m 1 (fun _ _ _ _ => rfl) ?_
          refine wR_pi rfl mO_e mO_45 hI28 rfl ?_
          have hm_9 : aTm aT0 (si m28 221 45 0) := tm_si mO_e mO_45 hI28 (by decide)
          refine yR_m 1 (fun _ _ _ _ => rfl) ?_
          exact yR_rz rfl ⟨by decide, by decide⟩ (h3 v1 k2 q3 m4 hI4 k5 v6 k7 q8 v9 k10 q11 v12 k13 q14 x26 e27 m28 hI28 k29 hm_9)
      ·
        refine yR_m 2 (fun _ _ _ _ => rfl) ?_
        refine wR_iv rfl rfl mO_e hI4 rfl rfl rfl rfl ?_
        show yR zpg tX12_holdsBack (d + 4) (0, [(0, .ref 221), (1, .int 32)], [], m4) _
        refine yR_m 1 (fun _ _ _ _ => rfl) ?_
        refine wR_gr rfl mO_e mO_43 hI4 ?_
        refine yR_m 1 (fun _ _ _ _ => rfl) ?_
        refine wR_gi rfl mO_e mO_44 hI4 rfl ?_
        refine yR_m 1 (fun _ _ _ _ => rfl) ?_
        refine wN_as (a := (gi m4 221 44).toInt) rfl aR_247 hI4 rfl (by omega) ?_
        have hm_10 : aTm aT0 (sx m4 247 (gi m4 221 44) 32) := tm_sa aR_247 hI4 (i32_b _)
        refine yR_m 2 (fun _ _ _ _ => rfl) ?_
        refine wR_gi rfl mO_e mO_44 hm_10 (gi_sa) ?_
        refine yR_m 1 (fun _ _ _ _ => rfl) ?_
        refine wN_add (a := (gi m4 221 44).toInt) (b := 1) rfl rfl rfl (by omega) (fun x30 e31 => ?_)
        refine wR_pi rfl mO_e mO_44 hm_10 rfl ?_
        have hm_11 : aTm aT0 (si (sx m4 247 (gi m4 221 44) 32) 221 44 x30) := tm_si mO_e mO_44 hm_10 (i32_b _)
        refine yR_rv rfl ?_
        show yR zpg tX12_goesOn (d + 5) (177, lo, [], (si (sx m4 247 (gi m4 221 44) 32) 221 44 x30)) _
        refine wR_la rfl l_0 ?_
        refine wR_cv rfl rfl mO_e hm_11 rfl (h_ahead3 (by omega) hm_11 ((gi_sv_ne (by decide)).trans (gi_sa)) ((gi_sv_ne (by decide)).trans (gi_sa)) (by omega) ((gi_sv_ne (by decide)).trans (gi_sa)) ((gi_sv_ne (by decide)).trans (gi_sa)) (gi_si_eq mO_e mO_44 hm_10) ((gi_sv_ne (by decide)).trans (gi_sa)) ((gi_sv_ne (by decide)).trans (gi_sa))) ?_
        rintro _ m32 ⟨rfl, hI32, k33⟩
        show yR zpg tX12_goesOn (d + 5) (181, lo, [], m32) _
        refine wR_la rfl l_0 ?_
        refine yR_m 1 (fun _ _ _ _ => rfl) ?_
        refine wR_pi rfl mO_e mO_45 hI32 rfl ?_
        have hm_12 : aTm aT0 (si m32 221 45 0) := tm_si mO_e mO_45 hI32 (by decide)
        refine yR_m 1 (fun _ _ _ _ => rfl) ?_
        exact yR_rz rfl ⟨by decide, by decide⟩ (h4 v1 k2 q3 m4 hI4 k5 v6 k7 q8 v9 k10 q11 x30 e31 m32 hI32 k33 hm_12)
    ·
      refine yR_m 2 (fun _ _ _ _ => rfl) ?_
      refine wR_iv rfl rfl mO_e hI4 rfl rfl rfl rfl ?_
      show yR zpg tX12_holdsBack (d + 4) (0, [(0, .ref 221), (1, .int 31)], [], m4) _
      refine yR_m 1 (fun _ _ _ _ => rfl) ?_
      refine wR_gr rfl mO_e mO_43 hI4 ?_
      refine yR_m 1 (fun _ _ _ _ => rfl) ?_
      refine wR_gi rfl mO_e mO_44 hI4 rfl ?_
      refine yR_m 1 (fun _ _ _ _ => rfl) ?_
      refine wN_as (a := (gi m4 221 44).toInt) rfl aR_247 hI4 rfl (by omega) ?_
      have hm_13 : aTm aT0 (sx m4 247 (gi m4 221 44) 31) := tm_sa aR_247 hI4 (i32_b _)
      refine yR_m 2 (fun _ _ _ _ => rfl) ?_
      refine wR_gi rfl mO_e mO_44 hm_13 (gi_sa) ?_
      refine yR_m 1 (fun _ _ _ _ => rfl) ?_
      refine wN_add (a := (gi m4 221 44).toInt) (b := 1) rfl rfl rfl (by omega) (fun x34 e35 => ?_)
      refine wR_pi rfl mO_e mO_44 hm_13 rfl ?_
      have hm_14 : aTm aT0 (si (sx m4 247 (gi m4 221 44) 31) 221 44 x34) := tm_si mO_e mO_44 hm_13 (i32_b _)
      refine yR_rv rfl ?_
      show yR zpg tX12_goesOn (d + 5) (177, lo, [], (si (sx m4 247 (gi m4 221 44) 31) 221 44 x34)) _
      refine wR_la rfl l_0 ?_
      refine wR_cv rfl rfl mO_e hm_14 rfl (h_ahead3 (by omega) hm_14 ((gi_sv_ne (by decide)).trans (gi_sa)) ((gi_sv_ne (by decide)).trans (gi_sa)) (by omega) ((gi_sv_ne (by decide)).trans (gi_sa)) ((gi_sv_ne (by decide)).trans (gi_sa)) (gi_si_eq mO_e mO_44 hm_13) ((gi_sv_ne (by decide)).trans (gi_sa)) ((gi_sv_ne (by decide)).trans (gi_sa))) ?_
      rintro _ m36 ⟨rfl, hI36, k37⟩
      show yR zpg tX12_goesOn (d + 5) (181, lo, [], m36) _
      refine wR_la rfl l_0 ?_
      refine yR_m 1 (fun _ _ _ _ => rfl) ?_
      refine wR_pi rfl mO_e mO_45 hI36 rfl ?_
      have hm_15 : aTm aT0 (si m36 221 45 0) := tm_si mO_e mO_45 hI36 (by decide)
      refine yR_m 1 (fun _ _ _ _ => rfl) ?_
      exact yR_rz rfl ⟨by decide, by decide⟩ (h5 v1 k2 q3 m4 hI4 k5 v6 k7 q8 x34 e35 m36 hI36 k37 hm_15)
  ·
    refine wR_la rfl l_0 ?_
    refine yR_m 1 (fun _ _ _ _ => rfl) ?_
    refine wR_cv rfl rfl mO_e hm rfl (c_isSign2 hm rfl rfl (by omega)) ?_
    rintro _ _ ⟨v38, rfl, rfl, k39⟩
    show yR zpg tX12_goesOn (d + 5) (103, lo, [.int v38, .ref 221], mem) _
    refine wR_if_eq rfl (a := (v38).toInt) rfl (fun q40 => ?_) (fun q40 => ?_)
    ·
      refine yR_m 1 (fun _ _ _ _ => rfl) ?_
      refine wR_cv rfl rfl mO_e hm rfl (h_joins2 (by omega) hm (s2 v1 k2 q3 v38 k39 q40) rfl rfl rfl rfl rfl rfl rfl) ?_
      rintro _ m41 ⟨rfl, hI41, k42⟩
      show yR zpg tX12_goesOn (d + 5) (115, lo, [], m41) _
      refine wR_la rfl l_0 ?_
      refine wR_la rfl l_0 ?_
      refine yR_m 1 (fun _ _ _ _ => rfl) ?_
      refine wR_cv rfl rfl mO_e hI41 rfl (c_isSign2 hI41 rfl rfl (by omega)) ?_
      rintro _ _ ⟨v43, rfl, rfl, k44⟩
      show yR zpg tX12_goesOn (d + 5) (122, lo, [.int v43, .ref 221], m41) _
      refine wR_if_eq rfl (a := (v43).toInt) rfl (fun q45 => ?_) (fun q45 => ?_)
      ·
        refine wR_la rfl l_0 ?_
        refine yR_m 1 (fun _ _ _ _ => rfl) ?_
        refine wR_cv rfl rfl mO_e hI41 rfl (c_isSign2 hI41 rfl rfl (by omega)) ?_
        rintro _ _ ⟨v46, rfl, rfl, k47⟩
        show yR zpg tX12_goesOn (d + 5) (136, lo, [.int v46, .ref 221], m41) _
        refine wR_if_eq rfl (a := (v46).toInt) rfl (fun q48 => ?_) (fun q48 => ?_)
        ·
          refine wR_la rfl l_0 ?_
          refine yR_m 1 (fun _ _ _ _ => rfl) ?_
          refine wR_cv rfl rfl mO_e hI41 rfl (c_isSign2 hI41 rfl rfl (by omega)) ?_
          rintro _ _ ⟨v49, rfl, rfl, k50⟩
          show yR zpg tX12_goesOn (d + 5) (150, lo, [.int v49, .ref 221], m41) _
          refine wR_if_eq rfl (a := (v49).toInt) rfl (fun q51 => ?_) (fun q51 => ?_)
          ·
            refine wR_la rfl l_0 ?_
            refine yR_m 1 (fun _ _ _ _ => rfl) ?_
            refine wR_cv rfl rfl mO_e hI41 rfl (c_isSign2 hI41 rfl rfl (by omega)) ?_
            rintro _ _ ⟨v52, rfl, rfl, k53⟩
            show yR zpg tX12_goesOn (d + 5) (164, lo, [.int v52, .ref 221], m41) _
            refine wR_if_eq rfl (a := (v52).toInt) rfl (fun q54 => ?_) (fun q54 => ?_)
            ·
              refine yR_m 1 (fun _ _ _ _ => rfl) ?_
              refine wR_iv rfl rfl mO_e hI41 rfl rfl rfl rfl ?_
              show yR zpg tX12_holdsBack (d + 4) (0, [(0, .ref 221), (1, .int 35)], [], m41) _
              refine yR_m 1 (fun _ _ _ _ => rfl) ?_
              refine wR_gr rfl mO_e mO_43 hI41 ?_
              refine yR_m 1 (fun _ _ _ _ => rfl) ?_
              refine wR_gi rfl mO_e mO_44 hI41 rfl ?_
              refine yR_m 1 (fun _ _ _ _ => rfl) ?_
              refine wN_as (a := (gi m41 221 44).toInt) rfl aR_247 hI41 rfl (by omega) ?_
              have hm_16 : aTm aT0 (sx m41 247 (gi m41 221 44) 35) := tm_sa aR_247 hI41 (i32_b _)
              refine yR_m 2 (fun _ _ _ _ => rfl) ?_
              refine wR_gi rfl mO_e mO_44 hm_16 (gi_sa) ?_
              refine yR_m 1 (fun _ _ _ _ => rfl) ?_
              refine wN_add (a := (gi m41 221 44).toInt) (b := 1) rfl rfl rfl (by omega) (fun x55 e56 => ?_)
              refine wR_pi rfl mO_e mO_44 hm_16 rfl ?_
              have hm_17 : aTm aT0 (si (sx m41 247 (gi m41 221 44) 35) 221 44 x55) := tm_si mO_e mO_44 hm_16 (i32_b _)
              refine yR_rv rfl ?_
              show yR zpg tX12_goesOn (d + 5) (177, lo, [], (si (sx m41 247 (gi m41 221 44) 35) 221 44 x55)) _
              refine wR_la rfl l_0 ?_
              refine wR_cv rfl rfl mO_e hm_17 rfl (h_ahead3 (by omega) hm_17 ((gi_sv_ne (by decide)).trans (gi_sa)) ((gi_sv_ne (by decide)).trans (gi_sa)) (by omega) ((gi_sv_ne (by decide)).trans (gi_sa)) ((gi_sv_ne (by decide)).trans (gi_sa)) (gi_si_eq mO_e mO_44 hm_16) ((gi_sv_ne (by decide)).trans (gi_sa)) ((gi_sv_ne (by decide)).trans (gi_sa))) ?_
              rintro _ m57 ⟨rfl, hI57, k58⟩
              show yR zpg tX12_goesOn (d + 5) (181, lo, [], m57) _
              refine wR_la rfl l_0 ?_
              refine yR_m 1 (fun _ _ _ _ => rfl) ?_
              refine wR_pi rfl mO_e mO_45 hI57 rfl ?_
              have hm_18 : aTm aT0 (si m57 221 45 0) := tm_si mO_e mO_45 hI57 (by decide)
              refine yR_m 1 (fun _ _ _ _ => rfl) ?_
              exact yR_rz rfl ⟨by decide, by decide⟩ (h6 v1 k2 q3 v38 k39 q40 m41 hI41 k42 v43 k44 q45 v46 k47 q48 v49 k50 q51 v52 k53 q54 x55 e56 m57 hI57 k58 hm_18)
            ·
              refine yR_m 2 (fun _ _ _ _ => rfl) ?_
              refine wR_iv rfl rfl mO_e hI41 rfl rfl rfl rfl ?_
              show yR zpg tX12_holdsBack (d + 4) (0, [(0, .ref 221), (1, .int 34)], [], m41) _
              refine yR_m 1 (fun _ _ _ _ => rfl) ?_
              refine wR_gr rfl mO_e mO_43 hI41 ?_
              refine yR_m 1 (fun _ _ _ _ => rfl) ?_
              refine wR_gi rfl mO_e mO_44 hI41 rfl ?_
              refine yR_m 1 (fun _ _ _ _ => rfl) ?_
              refine wN_as (a := (gi m41 221 44).toInt) rfl aR_247 hI41 rfl (by omega) ?_
              have hm_19 : aTm aT0 (sx m41 247 (gi m41 221 44) 34) := tm_sa aR_247 hI41 (i32_b _)
              refine yR_m 2 (fun _ _ _ _ => rfl) ?_
              refine wR_gi rfl mO_e mO_44 hm_19 (gi_sa) ?_
              refine yR_m 1 (fun _ _ _ _ => rfl) ?_
              refine wN_add (a := (gi m41 221 44).toInt) (b := 1) rfl rfl rfl (by omega) (fun x59 e60 => ?_)
              refine wR_pi rfl mO_e mO_44 hm_19 rfl ?_
              have hm_20 : aTm aT0 (si (sx m41 247 (gi m41 221 44) 34) 221 44 x59) := tm_si mO_e mO_44 hm_19 (i32_b _)
              refine yR_rv rfl ?_
              show yR zpg tX12_goesOn (d + 5) (177, lo, [], (si (sx m41 247 (gi m41 221 44) 34) 221 44 x59)) _
              refine wR_la rfl l_0 ?_
              refine wR_cv rfl rfl mO_e hm_20 rfl (h_ahead3 (by omega) hm_20 ((gi_sv_ne (by decide)).trans (gi_sa)) ((gi_sv_ne (by decide)).trans (gi_sa)) (by omega) ((gi_sv_ne (by decide)).trans (gi_sa)) ((gi_sv_ne (by decide)).trans (gi_sa)) (gi_si_eq mO_e mO_44 hm_19) ((gi_sv_ne (by decide)).trans (gi_sa)) ((gi_sv_ne (by decide)).trans (gi_sa))) ?_
              rintro _ m61 ⟨rfl, hI61, k62⟩
              show yR zpg tX12_goesOn (d + 5) (181, lo, [], m61) _
              refine wR_la rfl l_0 ?_
              refine yR_m 1 (fun _ _ _ _ => rfl) ?_
              refine wR_pi rfl mO_e mO_45 hI61 rfl ?_
              have hm_21 : aTm aT0 (si m61 221 45 0) := tm_si mO_e mO_45 hI61 (by decide)
              refine yR_m 1 (fun _ _ _ _ => rfl) ?_
              exact yR_rz rfl ⟨by decide, by decide⟩ (h7 v1 k2 q3 v38 k39 q40 m41 hI41 k42 v43 k44 q45 v46 k47 q48 v49 k50 q51 v52 k53 q54 x59 e60 m61 hI61 k62 hm_21)
          ·
            refine yR_m 2 (fun _ _ _ _ => rfl) ?_
            refine wR_iv rfl rfl mO_e hI41 rfl rfl rfl rfl ?_
            show yR zpg tX12_holdsBack (d + 4) (0, [(0, .ref 221), (1, .int 33)], [], m41) _
            refine yR_m 1 (fun _ _ _ _ => rfl) ?_
            refine wR_gr rfl mO_e mO_43 hI41 ?_
            refine yR_m 1 (fun _ _ _ _ => rfl) ?_
            refine wR_gi rfl mO_e mO_44 hI41 rfl ?_
            refine yR_m 1 (fun _ _ _ _ => rfl) ?_
            refine wN_as (a := (gi m41 221 44).toInt) rfl aR_247 hI41 rfl (by omega) ?_
            have hm_22 : aTm aT0 (sx m41 247 (gi m41 221 44) 33) := tm_sa aR_247 hI41 (i32_b _)
            refine yR_m 2 (fun _ _ _ _ => rfl) ?_
            refine wR_gi rfl mO_e mO_44 hm_22 (gi_sa) ?_
            refine yR_m 1 (fun _ _ _ _ => rfl) ?_
            refine wN_add (a := (gi m41 221 44).toInt) (b := 1) rfl rfl rfl (by omega) (fun x63 e64 => ?_)
            refine wR_pi rfl mO_e mO_44 hm_22 rfl ?_
            have hm_23 : aTm aT0 (si (sx m41 247 (gi m41 221 44) 33) 221 44 x63) := tm_si mO_e mO_44 hm_22 (i32_b _)
            refine yR_rv rfl ?_
            show yR zpg tX12_goesOn (d + 5) (177, lo, [], (si (sx m41 247 (gi m41 221 44) 33) 221 44 x63)) _
            refine wR_la rfl l_0 ?_
            refine wR_cv rfl rfl mO_e hm_23 rfl (h_ahead3 (by omega) hm_23 ((gi_sv_ne (by decide)).trans (gi_sa)) ((gi_sv_ne (by decide)).trans (gi_sa)) (by omega) ((gi_sv_ne (by decide)).trans (gi_sa)) ((gi_sv_ne (by decide)).trans (gi_sa)) (gi_si_eq mO_e mO_44 hm_22) ((gi_sv_ne (by decide)).trans (gi_sa)) ((gi_sv_ne (by decide)).trans (gi_sa))) ?_
            rintro _ m65 ⟨rfl, hI65, k66⟩
            show yR zpg tX12_goesOn (d + 5) (181, lo, [], m65) _
            refine wR_la rfl l_0 ?_
            refine yR_m 1 (fun _ _ _ _ => rfl) ?_
            refine wR_pi rfl mO_e mO_45 hI65 rfl ?_
            have hm_24 : aTm aT0 (si m65 221 45 0) := tm_si mO_e mO_45 hI65 (by decide)
            refine yR_m 1 (fun _ _ _ _ => rfl) ?_
            exact yR_rz rfl ⟨by decide, by decide⟩ (h8 v1 k2 q3 v38 k39 q40 m41 hI41 k42 v43 k44 q45 v46 k47 q48 v49 k50 q51 x63 e64 m65 hI65 k66 hm_24)
        ·
          refine yR_m 2 (fun _ _ _ _ => rfl) ?_
          refine wR_iv rfl rfl mO_e hI41 rfl rfl rfl rfl ?_
          show yR zpg tX12_holdsBack (d + 4) (0, [(0, .ref 221), (1, .int 32)], [], m41) _
          refine yR_m 1 (fun _ _ _ _ => rfl) ?_
          refine wR_gr rfl mO_e mO_43 hI41 ?_
          refine yR_m 1 (fun _ _ _ _ => rfl) ?_
          refine wR_gi rfl mO_e mO_44 hI41 rfl ?_
          refine yR_m 1 (fun _ _ _ _ => rfl) ?_
          refine wN_as (a := (gi m41 221 44).toInt) rfl aR_247 hI41 rfl (by omega) ?_
          have hm_25 : aTm aT0 (sx m41 247 (gi m41 221 44) 32) := tm_sa aR_247 hI41 (i32_b _)
          refine yR_m 2 (fun _ _ _ _ => rfl) ?_
          refine wR_gi rfl mO_e mO_44 hm_25 (gi_sa) ?_
          refine yR_m 1 (fun _ _ _ _ => rfl) ?_
          refine wN_add (a := (gi m41 221 44).toInt) (b := 1) rfl rfl rfl (by omega) (fun x67 e68 => ?_)
          refine wR_pi rfl mO_e mO_44 hm_25 rfl ?_
          have hm_26 : aTm aT0 (si (sx m41 247 (gi m41 221 44) 32) 221 44 x67) := tm_si mO_e mO_44 hm_25 (i32_b _)
          refine yR_rv rfl ?_
          show yR zpg tX12_goesOn (d + 5) (177, lo, [], (si (sx m41 247 (gi m41 221 44) 32) 221 44 x67)) _
          refine wR_la rfl l_0 ?_
          refine wR_cv rfl rfl mO_e hm_26 rfl (h_ahead3 (by omega) hm_26 ((gi_sv_ne (by decide)).trans (gi_sa)) ((gi_sv_ne (by decide)).trans (gi_sa)) (by omega) ((gi_sv_ne (by decide)).trans (gi_sa)) ((gi_sv_ne (by decide)).trans (gi_sa)) (gi_si_eq mO_e mO_44 hm_25) ((gi_sv_ne (by decide)).trans (gi_sa)) ((gi_sv_ne (by decide)).trans (gi_sa))) ?_
          rintro _ m69 ⟨rfl, hI69, k70⟩
          show yR zpg tX12_goesOn (d + 5) (181, lo, [], m69) _
          refine wR_la rfl l_0 ?_
          refine yR_m 1 (fun _ _ _ _ => rfl) ?_
          refine wR_pi rfl mO_e mO_45 hI69 rfl ?_
          have hm_27 : aTm aT0 (si m69 221 45 0) := tm_si mO_e mO_45 hI69 (by decide)
          refine yR_m 1 (fun _ _ _ _ => rfl) ?_
          exact yR_rz rfl ⟨by decide, by decide⟩ (h9 v1 k2 q3 v38 k39 q40 m41 hI41 k42 v43 k44 q45 v46 k47 q48 x67 e68 m69 hI69 k70 hm_27)
      ·
        refine yR_m 2 (fun _ _ _ _ => rfl) ?_
        refine wR_iv rfl rfl mO_e hI41 rfl rfl rfl rfl ?_
        show yR zpg tX12_holdsBack (d + 4) (0, [(0, .ref 221), (1, .int 31)], [], m41) _
        refine yR_m 1 (fun _ _ _ _ => rfl) ?_
        refine wR_gr rfl mO_e mO_43 hI41 ?_
        refine yR_m 1 (fun _ _ _ _ => rfl) ?_
        refine wR_gi rfl mO_e mO_44 hI41 rfl ?_
        refine yR_m 1 (fun _ _ _ _ => rfl) ?_
        refine wN_as (a := (gi m41 221 44).toInt) rfl aR_247 hI41 rfl (by omega) ?_
        have hm_28 : aTm aT0 (sx m41 247 (gi m41 221 44) 31) := tm_sa aR_247 hI41 (i32_b _)
        refine yR_m 2 (fun _ _ _ _ => rfl) ?_
        refine wR_gi rfl mO_e mO_44 hm_28 (gi_sa) ?_
        refine yR_m 1 (fun _ _ _ _ => rfl) ?_
        refine wN_add (a := (gi m41 221 44).toInt) (b := 1) rfl rfl rfl (by omega) (fun x71 e72 => ?_)
        refine wR_pi rfl mO_e mO_44 hm_28 rfl ?_
        have hm_29 : aTm aT0 (si (sx m41 247 (gi m41 221 44) 31) 221 44 x71) := tm_si mO_e mO_44 hm_28 (i32_b _)
        refine yR_rv rfl ?_
        show yR zpg tX12_goesOn (d + 5) (177, lo, [], (si (sx m41 247 (gi m41 221 44) 31) 221 44 x71)) _
        refine wR_la rfl l_0 ?_
        refine wR_cv rfl rfl mO_e hm_29 rfl (h_ahead3 (by omega) hm_29 ((gi_sv_ne (by decide)).trans (gi_sa)) ((gi_sv_ne (by decide)).trans (gi_sa)) (by omega) ((gi_sv_ne (by decide)).trans (gi_sa)) ((gi_sv_ne (by decide)).trans (gi_sa)) (gi_si_eq mO_e mO_44 hm_28) ((gi_sv_ne (by decide)).trans (gi_sa)) ((gi_sv_ne (by decide)).trans (gi_sa))) ?_
        rintro _ m73 ⟨rfl, hI73, k74⟩
        show yR zpg tX12_goesOn (d + 5) (181, lo, [], m73) _
        refine wR_la rfl l_0 ?_
        refine yR_m 1 (fun _ _ _ _ => rfl) ?_
        refine wR_pi rfl mO_e mO_45 hI73 rfl ?_
        have hm_30 : aTm aT0 (si m73 221 45 0) := tm_si mO_e mO_45 hI73 (by decide)
        refine yR_m 1 (fun _ _ _ _ => rfl) ?_
        exact yR_rz rfl ⟨by decide, by decide⟩ (h10 v1 k2 q3 v38 k39 q40 m41 hI41 k42 v43 k44 q45 x71 e72 m73 hI73 k74 hm_30)
    ·
      refine yR_m 2 (fun _ _ _ _ => rfl) ?_
      refine wR_cv rfl rfl mO_e hm rfl (h_joins2 (by omega) hm (s3 v1 k2 q3 v38 k39 q40) rfl rfl rfl rfl rfl rfl rfl) ?_
      rintro _ m75 ⟨rfl, hI75, k76⟩
      show yR zpg tX12_goesOn (d + 5) (115, lo, [], m75) _
      refine wR_la rfl l_0 ?_
      refine wR_la rfl l_0 ?_
      refine yR_m 1 (fun _ _ _ _ => rfl) ?_
      refine wR_cv rfl rfl mO_e hI75 rfl (c_isSign2 hI75 rfl rfl (by omega)) ?_
      rintro _ _ ⟨v77, rfl, rfl, k78⟩
      show yR zpg tX12_goesOn (d + 5) (122, lo, [.int v77, .ref 221], m75) _
      refine wR_if_eq rfl (a := (v77).toInt) rfl (fun q79 => ?_) (fun q79 => ?_)
      ·
        refine wR_la rfl l_0 ?_
        refine yR_m 1 (fun _ _ _ _ => rfl) ?_
        refine wR_cv rfl rfl mO_e hI75 rfl (c_isSign2 hI75 rfl rfl (by omega)) ?_
        rintro _ _ ⟨v80, rfl, rfl, k81⟩
        show yR zpg tX12_goesOn (d + 5) (136, lo, [.int v80, .ref 221], m75) _
        refine wR_if_eq rfl (a := (v80).toInt) rfl (fun q82 => ?_) (fun q82 => ?_)
        ·
          refine wR_la rfl l_0 ?_
          refine yR_m 1 (fun _ _ _ _ => rfl) ?_
          refine wR_cv rfl rfl mO_e hI75 rfl (c_isSign2 hI75 rfl rfl (by omega)) ?_
          rintro _ _ ⟨v83, rfl, rfl, k84⟩
          show yR zpg tX12_goesOn (d + 5) (150, lo, [.int v83, .ref 221], m75) _
          refine wR_if_eq rfl (a := (v83).toInt) rfl (fun q85 => ?_) (fun q85 => ?_)
          ·
            refine wR_la rfl l_0 ?_
            refine yR_m 1 (fun _ _ _ _ => rfl) ?_
            refine wR_cv rfl rfl mO_e hI75 rfl (c_isSign2 hI75 rfl rfl (by omega)) ?_
            rintro _ _ ⟨v86, rfl, rfl, k87⟩
            show yR zpg tX12_goesOn (d + 5) (164, lo, [.int v86, .ref 221], m75) _
            refine wR_if_eq rfl (a := (v86).toInt) rfl (fun q88 => ?_) (fun q88 => ?_)
            ·
              refine yR_m 1 (fun _ _ _ _ => rfl) ?_
              refine wR_iv rfl rfl mO_e hI75 rfl rfl rfl rfl ?_
              show yR zpg tX12_holdsBack (d + 4) (0, [(0, .ref 221), (1, .int 35)], [], m75) _
              refine yR_m 1 (fun _ _ _ _ => rfl) ?_
              refine wR_gr rfl mO_e mO_43 hI75 ?_
              refine yR_m 1 (fun _ _ _ _ => rfl) ?_
              refine wR_gi rfl mO_e mO_44 hI75 rfl ?_
              refine yR_m 1 (fun _ _ _ _ => rfl) ?_
              refine wN_as (a := (gi m75 221 44).toInt) rfl aR_247 hI75 rfl (by omega) ?_
              have hm_31 : aTm aT0 (sx m75 247 (gi m75 221 44) 35) := tm_sa aR_247 hI75 (i32_b _)
              refine yR_m 2 (fun _ _ _ _ => rfl) ?_
              refine wR_gi rfl mO_e mO_44 hm_31 (gi_sa) ?_
              refine yR_m 1 (fun _ _ _ _ => rfl) ?_
              refine wN_add (a := (gi m75 221 44).toInt) (b := 1) rfl rfl rfl (by omega) (fun x89 e90 => ?_)
              refine wR_pi rfl mO_e mO_44 hm_31 rfl ?_
              have hm_32 : aTm aT0 (si (sx m75 247 (gi m75 221 44) 35) 221 44 x89) := tm_si mO_e mO_44 hm_31 (i32_b _)
              refine yR_rv rfl ?_
              show yR zpg tX12_goesOn (d + 5) (177, lo, [], (si (sx m75 247 (gi m75 221 44) 35) 221 44 x89)) _
              refine wR_la rfl l_0 ?_
              refine wR_cv rfl rfl mO_e hm_32 rfl (h_ahead3 (by omega) hm_32 ((gi_sv_ne (by decide)).trans (gi_sa)) ((gi_sv_ne (by decide)).trans (gi_sa)) (by omega) ((gi_sv_ne (by decide)).trans (gi_sa)) ((gi_sv_ne (by decide)).trans (gi_sa)) (gi_si_eq mO_e mO_44 hm_31) ((gi_sv_ne (by decide)).trans (gi_sa)) ((gi_sv_ne (by decide)).trans (gi_sa))) ?_
              rintro _ m91 ⟨rfl, hI91, k92⟩
              show yR zpg tX12_goesOn (d + 5) (181, lo, [], m91) _
              refine wR_la rfl l_0 ?_
              refine yR_m 1 (fun _ _ _ _ => rfl) ?_
              refine wR_pi rfl mO_e mO_45 hI91 rfl ?_
              have hm_33 : aTm aT0 (si m91 221 45 0) := tm_si mO_e mO_45 hI91 (by decide)
              refine yR_m 1 (fun _ _ _ _ => rfl) ?_
              exact yR_rz rfl ⟨by decide, by decide⟩ (h11 v1 k2 q3 v38 k39 q40 m75 hI75 k76 v77 k78 q79 v80 k81 q82 v83 k84 q85 v86 k87 q88 x89 e90 m91 hI91 k92 hm_33)
            ·
              refine yR_m 2 (fun _ _ _ _ => rfl) ?_
              refine wR_iv rfl rfl mO_e hI75 rfl rfl rfl rfl ?_
              show yR zpg tX12_holdsBack (d + 4) (0, [(0, .ref 221), (1, .int 34)], [], m75) _
              refine yR_m 1 (fun _ _ _ _ => rfl) ?_
              refine wR_gr rfl mO_e mO_43 hI75 ?_
              refine yR_m 1 (fun _ _ _ _ => rfl) ?_
              refine wR_gi rfl mO_e mO_44 hI75 rfl ?_
              refine yR_m 1 (fun _ _ _ _ => rfl) ?_
              refine wN_as (a := (gi m75 221 44).toInt) rfl aR_247 hI75 rfl (by omega) ?_
              have hm_34 : aTm aT0 (sx m75 247 (gi m75 221 44) 34) := tm_sa aR_247 hI75 (i32_b _)
              refine yR_m 2 (fun _ _ _ _ => rfl) ?_
              refine wR_gi rfl mO_e mO_44 hm_34 (gi_sa) ?_
              refine yR_m 1 (fun _ _ _ _ => rfl) ?_
              refine wN_add (a := (gi m75 221 44).toInt) (b := 1) rfl rfl rfl (by omega) (fun x93 e94 => ?_)
              refine wR_pi rfl mO_e mO_44 hm_34 rfl ?_
              have hm_35 : aTm aT0 (si (sx m75 247 (gi m75 221 44) 34) 221 44 x93) := tm_si mO_e mO_44 hm_34 (i32_b _)
              refine yR_rv rfl ?_
              show yR zpg tX12_goesOn (d + 5) (177, lo, [], (si (sx m75 247 (gi m75 221 44) 34) 221 44 x93)) _
              refine wR_la rfl l_0 ?_
              refine wR_cv rfl rfl mO_e hm_35 rfl (h_ahead3 (by omega) hm_35 ((gi_sv_ne (by decide)).trans (gi_sa)) ((gi_sv_ne (by decide)).trans (gi_sa)) (by omega) ((gi_sv_ne (by decide)).trans (gi_sa)) ((gi_sv_ne (by decide)).trans (gi_sa)) (gi_si_eq mO_e mO_44 hm_34) ((gi_sv_ne (by decide)).trans (gi_sa)) ((gi_sv_ne (by decide)).trans (gi_sa))) ?_
              rintro _ m95 ⟨rfl, hI95, k96⟩
              show yR zpg tX12_goesOn (d + 5) (181, lo, [], m95) _
              refine wR_la rfl l_0 ?_
              refine yR_m 1 (fun _ _ _ _ => rfl) ?_
              refine wR_pi rfl mO_e mO_45 hI95 rfl ?_
              have hm_36 : aTm aT0 (si m95 221 45 0) := tm_si mO_e mO_45 hI95 (by decide)
              refine yR_m 1 (fun _ _ _ _ => rfl) ?_
              exact yR_rz rfl ⟨by decide, by decide⟩ (h12 v1 k2 q3 v38 k39 q40 m75 hI75 k76 v77 k78 q79 v80 k81 q82 v83 k84 q85 v86 k87 q88 x93 e94 m95 hI95 k96 hm_36)
          ·
            refine yR_m 2 (fun _ _ _ _ => rfl) ?_
            refine wR_iv rfl rfl mO_e hI75 rfl rfl rfl rfl ?_
            show yR zpg tX12_holdsBack (d + 4) (0, [(0, .ref 221), (1, .int 33)], [], m75) _
            refine yR_m 1 (fun _ _ _ _ => rfl) ?_
            refine wR_gr rfl mO_e mO_43 hI75 ?_
            refine yR_m 1 (fun _ _ _ _ => rfl) ?_
            refine wR_gi rfl mO_e mO_44 hI75 rfl ?_
            refine yR_m 1 (fun _ _ _ _ => rfl) ?_
            refine wN_as (a := (gi m75 221 44).toInt) rfl aR_247 hI75 rfl (by omega) ?_
            have hm_37 : aTm aT0 (sx m75 247 (gi m75 221 44) 33) := tm_sa aR_247 hI75 (i32_b _)
            refine yR_m 2 (fun _ _ _ _ => rfl) ?_
            refine wR_gi rfl mO_e mO_44 hm_37 (gi_sa) ?_
            refine yR_m 1 (fun _ _ _ _ => rfl) ?_
            refine wN_add (a := (gi m75 221 44).toInt) (b := 1) rfl rfl rfl (by omega) (fun x97 e98 => ?_)
            refine wR_pi rfl mO_e mO_44 hm_37 rfl ?_
            have hm_38 : aTm aT0 (si (sx m75 247 (gi m75 221 44) 33) 221 44 x97) := tm_si mO_e mO_44 hm_37 (i32_b _)
            refine yR_rv rfl ?_
            show yR zpg tX12_goesOn (d + 5) (177, lo, [], (si (sx m75 247 (gi m75 221 44) 33) 221 44 x97)) _
            refine wR_la rfl l_0 ?_
            refine wR_cv rfl rfl mO_e hm_38 rfl (h_ahead3 (by omega) hm_38 ((gi_sv_ne (by decide)).trans (gi_sa)) ((gi_sv_ne (by decide)).trans (gi_sa)) (by omega) ((gi_sv_ne (by decide)).trans (gi_sa)) ((gi_sv_ne (by decide)).trans (gi_sa)) (gi_si_eq mO_e mO_44 hm_37) ((gi_sv_ne (by decide)).trans (gi_sa)) ((gi_sv_ne (by decide)).trans (gi_sa))) ?_
            rintro _ m99 ⟨rfl, hI99, k100⟩
            show yR zpg tX12_goesOn (d + 5) (181, lo, [], m99) _
            refine wR_la rfl l_0 ?_
            refine yR_m 1 (fun _ _ _ _ => rfl) ?_
            refine wR_pi rfl mO_e mO_45 hI99 rfl ?_
            have hm_39 : aTm aT0 (si m99 221 45 0) := tm_si mO_e mO_45 hI99 (by decide)
            refine yR_m 1 (fun _ _ _ _ => rfl) ?_
            exact yR_rz rfl ⟨by decide, by decide⟩ (h13 v1 k2 q3 v38 k39 q40 m75 hI75 k76 v77 k78 q79 v80 k81 q82 v83 k84 q85 x97 e98 m99 hI99 k100 hm_39)
        ·
          refine yR_m 2 (fun _ _ _ _ => rfl) ?_
          refine wR_iv rfl rfl mO_e hI75 rfl rfl rfl rfl ?_
          show yR zpg tX12_holdsBack (d + 4) (0, [(0, .ref 221), (1, .int 32)], [], m75) _
          refine yR_m 1 (fun _ _ _ _ => rfl) ?_
          refine wR_gr rfl mO_e mO_43 hI75 ?_
          refine yR_m 1 (fun _ _ _ _ => rfl) ?_
          refine wR_gi rfl mO_e mO_44 hI75 rfl ?_
          refine yR_m 1 (fun _ _ _ _ => rfl) ?_
          refine wN_as (a := (gi m75 221 44).toInt) rfl aR_247 hI75 rfl (by omega) ?_
          have hm_40 : aTm aT0 (sx m75 247 (gi m75 221 44) 32) := tm_sa aR_247 hI75 (i32_b _)
          refine yR_m 2 (fun _ _ _ _ => rfl) ?_
          refine wR_gi rfl mO_e mO_44 hm_40 (gi_sa) ?_
          refine yR_m 1 (fun _ _ _ _ => rfl) ?_
          refine wN_add (a := (gi m75 221 44).toInt) (b := 1) rfl rfl rfl (by omega) (fun x101 e102 => ?_)
          refine wR_pi rfl mO_e mO_44 hm_40 rfl ?_
          have hm_41 : aTm aT0 (si (sx m75 247 (gi m75 221 44) 32) 221 44 x101) := tm_si mO_e mO_44 hm_40 (i32_b _)
          refine yR_rv rfl ?_
          show yR zpg tX12_goesOn (d + 5) (177, lo, [], (si (sx m75 247 (gi m75 221 44) 32) 221 44 x101)) _
          refine wR_la rfl l_0 ?_
          refine wR_cv rfl rfl mO_e hm_41 rfl (h_ahead3 (by omega) hm_41 ((gi_sv_ne (by decide)).trans (gi_sa)) ((gi_sv_ne (by decide)).trans (gi_sa)) (by omega) ((gi_sv_ne (by decide)).trans (gi_sa)) ((gi_sv_ne (by decide)).trans (gi_sa)) (gi_si_eq mO_e mO_44 hm_40) ((gi_sv_ne (by decide)).trans (gi_sa)) ((gi_sv_ne (by decide)).trans (gi_sa))) ?_
          rintro _ m103 ⟨rfl, hI103, k104⟩
          show yR zpg tX12_goesOn (d + 5) (181, lo, [], m103) _
          refine wR_la rfl l_0 ?_
          refine yR_m 1 (fun _ _ _ _ => rfl) ?_
          refine wR_pi rfl mO_e mO_45 hI103 rfl ?_
          have hm_42 : aTm aT0 (si m103 221 45 0) := tm_si mO_e mO_45 hI103 (by decide)
          refine yR_m 1 (fun _ _ _ _ => rfl) ?_
          exact yR_rz rfl ⟨by decide, by decide⟩ (h14 v1 k2 q3 v38 k39 q40 m75 hI75 k76 v77 k78 q79 v80 k81 q82 x101 e102 m103 hI103 k104 hm_42)
      ·
        refine yR_m 2 (fun _ _ _ _ => rfl) ?_
        refine wR_iv rfl rfl mO_e hI75 rfl rfl rfl rfl ?_
        show yR zpg tX12_holdsBack (d + 4) (0, [(0, .ref 221), (1, .int 31)], [], m75) _
        refine yR_m 1 (fun _ _ _ _ => rfl) ?_
        refine wR_gr rfl mO_e mO_43 hI75 ?_
        refine yR_m 1 (fun _ _ _ _ => rfl) ?_
        refine wR_gi rfl mO_e mO_44 hI75 rfl ?_
        refine yR_m 1 (fun _ _ _ _ => rfl) ?_
        refine wN_as (a := (gi m75 221 44).toInt) rfl aR_247 hI75 rfl (by omega) ?_
        have hm_43 : aTm aT0 (sx m75 247 (gi m75 221 44) 31) := tm_sa aR_247 hI75 (i32_b _)
        refine yR_m 2 (fun _ _ _ _ => rfl) ?_
        refine wR_gi rfl mO_e mO_44 hm_43 (gi_sa) ?_
        refine yR_m 1 (fun _ _ _ _ => rfl) ?_
        refine wN_add (a := (gi m75 221 44).toInt) (b := 1) rfl rfl rfl (by omega) (fun x105 e106 => ?_)
        refine wR_pi rfl mO_e mO_44 hm_43 rfl ?_
        have hm_44 : aTm aT0 (si (sx m75 247 (gi m75 221 44) 31) 221 44 x105) := tm_si mO_e mO_44 hm_43 (i32_b _)
        refine yR_rv rfl ?_
        show yR zpg tX12_goesOn (d + 5) (177, lo, [], (si (sx m75 247 (gi m75 221 44) 31) 221 44 x105)) _
        refine wR_la rfl l_0 ?_
        refine wR_cv rfl rfl mO_e hm_44 rfl (h_ahead3 (by omega) hm_44 ((gi_sv_ne (by decide)).trans (gi_sa)) ((gi_sv_ne (by decide)).trans (gi_sa)) (by omega) ((gi_sv_ne (by decide)).trans (gi_sa)) ((gi_sv_ne (by decide)).trans (gi_sa)) (gi_si_eq mO_e mO_44 hm_43) ((gi_sv_ne (by decide)).trans (gi_sa)) ((gi_sv_ne (by decide)).trans (gi_sa))) ?_
        rintro _ m107 ⟨rfl, hI107, k108⟩
        show yR zpg tX12_goesOn (d + 5) (181, lo, [], m107) _
        refine wR_la rfl l_0 ?_
        refine yR_m 1 (fun _ _ _ _ => rfl) ?_
        refine wR_pi rfl mO_e mO_45 hI107 rfl ?_
        have hm_45 : aTm aT0 (si m107 221 45 0) := tm_si mO_e mO_45 hI107 (by decide)
        refine yR_m 1 (fun _ _ _ _ => rfl) ?_
        exact yR_rz rfl ⟨by decide, by decide⟩ (h15 v1 k2 q3 v38 k39 q40 m75 hI75 k76 v77 k78 q79 x105 e106 m107 hI107 k108 hm_45)

theorem go_87 {lo : List (Nat × Value)} (hm : aTm aT0 mem) (h : PI mr mem fm (f :: r) 1) (hs : s0 ≤ (gi mem 221 4).toInt) (h45 : (gi mem 221 45).toInt = 1) (sg : ¬ (gi mem 221 3).toInt = 0) (a0 : zlg lo 0 = some (.ref 221)) : yR zpg tX12_goesOn (d + 5) (87, lo, [], mem) (goP mr fm s0) := by
  have pp := PI_pp hm h
  have hT := h.1.2.1
  obtain ⟨p1, p2, p3, p4, p6, p8, p9⟩ := pp
  exact w_go_87 (mr := mr) (fm := fm) (f := f) (r := r) hm a0 p1 p2 p3 p4 p6
        (fun v1 k2 q3 => h)
        (fun v1 k2 q3 m4 hI4 k5 v6 k7 q8 v9 k10 q11 v12 k13 q14 v15 k16 q17 x18 e19 m20 hI20 k21 hm2 => by
          obtain ⟨J1, s, js, jr, jP⟩ := k5.1
          have fvD : (gi m4 221 41).toInt = (gi mem 221 41).toInt := by omega
          have gl3 := gl_243 hI4
          have gl4 := gl_244 hI4
          have e4 : (gi m4 221 4).toInt = (gi mem 221 4).toInt := by omega
          have ry : rkI (Int32.toInt 35) = 6 := by decide
          exact go_p hm2 (o := 0) (by rw [(gi_eqO (isO_of hI20) (by decide))]; rfl) (s := (gi m4 221 4).toInt) (by omega) (PI_hold (x := (gi m4 221 44)) (y := 35) (ph' := f.2.2.1) (bg' := f.2.2.2.1) hI4 jP (fr_sv rfl (fr_sa rfl (fr_rf))) k21.1 (fr_sv rfl fr_rf) (gi_eqO (isO_sa (by decide) (isO_of hI4)) (by decide)) (by omega) (((ga_sv).trans ga_sa_eq)) (by omega) ⟨by rw [((ga_sv).trans (ga_sa_ne (by decide)))]; exact jP.2.1.1.1.2.2.1, fun i _ _ => by rw [((ga_sv).trans (ga_sa_ne (by decide)))]⟩ ⟨by rw [((ga_sv).trans (ga_sa_ne (by decide)))]; exact jP.2.1.1.1.2.2.2.1, fun i _ _ => by rw [((ga_sv).trans (ga_sa_ne (by decide)))]⟩ (by unfold opI; decide) (by decide) (fun q hq => by have a := jr q hq; rw [ry]; omega) (fun w => ⟨by rw [ry]; decide, Or.inl w⟩) (fun w => absurd (jP.2.2.2.2.2 rfl _ rfl) w) (by omega)))
        (fun v1 k2 q3 m4 hI4 k5 v6 k7 q8 v9 k10 q11 v12 k13 q14 v15 k16 q17 x22 e23 m24 hI24 k25 hm2 => by
          obtain ⟨J1, s, js, jr, jP⟩ := k5.1
          have fvD : (gi m4 221 41).toInt = (gi mem 221 41).toInt := by omega
          have gl3 := gl_243 hI4
          have gl4 := gl_244 hI4
          have e4 : (gi m4 221 4).toInt = (gi mem 221 4).toInt := by omega
          have ry : rkI (Int32.toInt 34) = 6 := by decide
          exact go_p hm2 (o := 0) (by rw [(gi_eqO (isO_of hI24) (by decide))]; rfl) (s := (gi m4 221 4).toInt) (by omega) (PI_hold (x := (gi m4 221 44)) (y := 34) (ph' := f.2.2.1) (bg' := f.2.2.2.1) hI4 jP (fr_sv rfl (fr_sa rfl (fr_rf))) k25.1 (fr_sv rfl fr_rf) (gi_eqO (isO_sa (by decide) (isO_of hI4)) (by decide)) (by omega) (((ga_sv).trans ga_sa_eq)) (by omega) ⟨by rw [((ga_sv).trans (ga_sa_ne (by decide)))]; exact jP.2.1.1.1.2.2.1, fun i _ _ => by rw [((ga_sv).trans (ga_sa_ne (by decide)))]⟩ ⟨by rw [((ga_sv).trans (ga_sa_ne (by decide)))]; exact jP.2.1.1.1.2.2.2.1, fun i _ _ => by rw [((ga_sv).trans (ga_sa_ne (by decide)))]⟩ (by unfold opI; decide) (by decide) (fun q hq => by have a := jr q hq; rw [ry]; omega) (fun w => ⟨by rw [ry]; decide, Or.inl w⟩) (fun w => absurd (jP.2.2.2.2.2 rfl _ rfl) w) (by omega)))
        (fun v1 k2 q3 m4 hI4 k5 v6 k7 q8 v9 k10 q11 v12 k13 q14 x26 e27 m28 hI28 k29 hm2 => by
          obtain ⟨J1, s, js, jr, jP⟩ := k5.1
          have fvD : (gi m4 221 41).toInt = (gi mem 221 41).toInt := by omega
          have gl3 := gl_243 hI4
          have gl4 := gl_244 hI4
          have e4 : (gi m4 221 4).toInt = (gi mem 221 4).toInt := by omega
          have ry : rkI (Int32.toInt 33) = 6 := by decide
          exact go_p hm2 (o := 0) (by rw [(gi_eqO (isO_of hI28) (by decide))]; rfl) (s := (gi m4 221 4).toInt) (by omega) (PI_hold (x := (gi m4 221 44)) (y := 33) (ph' := f.2.2.1) (bg' := f.2.2.2.1) hI4 jP (fr_sv rfl (fr_sa rfl (fr_rf))) k29.1 (fr_sv rfl fr_rf) (gi_eqO (isO_sa (by decide) (isO_of hI4)) (by decide)) (by omega) (((ga_sv).trans ga_sa_eq)) (by omega) ⟨by rw [((ga_sv).trans (ga_sa_ne (by decide)))]; exact jP.2.1.1.1.2.2.1, fun i _ _ => by rw [((ga_sv).trans (ga_sa_ne (by decide)))]⟩ ⟨by rw [((ga_sv).trans (ga_sa_ne (by decide)))]; exact jP.2.1.1.1.2.2.2.1, fun i _ _ => by rw [((ga_sv).trans (ga_sa_ne (by decide)))]⟩ (by unfold opI; decide) (by decide) (fun q hq => by have a := jr q hq; rw [ry]; omega) (fun w => ⟨by rw [ry]; decide, Or.inl w⟩) (fun w => absurd (jP.2.2.2.2.2 rfl _ rfl) w) (by omega)))
        (fun v1 k2 q3 m4 hI4 k5 v6 k7 q8 v9 k10 q11 x30 e31 m32 hI32 k33 hm2 => by
          obtain ⟨J1, s, js, jr, jP⟩ := k5.1
          have fvD : (gi m4 221 41).toInt = (gi mem 221 41).toInt := by omega
          have gl3 := gl_243 hI4
          have gl4 := gl_244 hI4
          have e4 : (gi m4 221 4).toInt = (gi mem 221 4).toInt := by omega
          have ry : rkI (Int32.toInt 32) = 5 := by decide
          exact go_p hm2 (o := 0) (by rw [(gi_eqO (isO_of hI32) (by decide))]; rfl) (s := (gi m4 221 4).toInt) (by omega) (PI_hold (x := (gi m4 221 44)) (y := 32) (ph' := f.2.2.1) (bg' := f.2.2.2.1) hI4 jP (fr_sv rfl (fr_sa rfl (fr_rf))) k33.1 (fr_sv rfl fr_rf) (gi_eqO (isO_sa (by decide) (isO_of hI4)) (by decide)) (by omega) (((ga_sv).trans ga_sa_eq)) (by omega) ⟨by rw [((ga_sv).trans (ga_sa_ne (by decide)))]; exact jP.2.1.1.1.2.2.1, fun i _ _ => by rw [((ga_sv).trans (ga_sa_ne (by decide)))]⟩ ⟨by rw [((ga_sv).trans (ga_sa_ne (by decide)))]; exact jP.2.1.1.1.2.2.2.1, fun i _ _ => by rw [((ga_sv).trans (ga_sa_ne (by decide)))]⟩ (by unfold opI; decide) (by decide) (fun q hq => by have a := jr q hq; rw [ry]; omega) (fun w => ⟨by rw [ry]; decide, Or.inl w⟩) (fun w => absurd (jP.2.2.2.2.2 rfl _ rfl) w) (by omega)))
        (fun v1 k2 q3 m4 hI4 k5 v6 k7 q8 x34 e35 m36 hI36 k37 hm2 => by
          obtain ⟨J1, s, js, jr, jP⟩ := k5.1
          have fvD : (gi m4 221 41).toInt = (gi mem 221 41).toInt := by omega
          have gl3 := gl_243 hI4
          have gl4 := gl_244 hI4
          have e4 : (gi m4 221 4).toInt = (gi mem 221 4).toInt := by omega
          have ry : rkI (Int32.toInt 31) = 5 := by decide
          exact go_p hm2 (o := 0) (by rw [(gi_eqO (isO_of hI36) (by decide))]; rfl) (s := (gi m4 221 4).toInt) (by omega) (PI_hold (x := (gi m4 221 44)) (y := 31) (ph' := f.2.2.1) (bg' := f.2.2.2.1) hI4 jP (fr_sv rfl (fr_sa rfl (fr_rf))) k37.1 (fr_sv rfl fr_rf) (gi_eqO (isO_sa (by decide) (isO_of hI4)) (by decide)) (by omega) (((ga_sv).trans ga_sa_eq)) (by omega) ⟨by rw [((ga_sv).trans (ga_sa_ne (by decide)))]; exact jP.2.1.1.1.2.2.1, fun i _ _ => by rw [((ga_sv).trans (ga_sa_ne (by decide)))]⟩ ⟨by rw [((ga_sv).trans (ga_sa_ne (by decide)))]; exact jP.2.1.1.1.2.2.2.1, fun i _ _ => by rw [((ga_sv).trans (ga_sa_ne (by decide)))]⟩ (by unfold opI; decide) (by decide) (fun q hq => by have a := jr q hq; rw [ry]; omega) (fun w => ⟨by rw [ry]; decide, Or.inl w⟩) (fun w => absurd (jP.2.2.2.2.2 rfl _ rfl) w) (by omega)))
        (fun v1 k2 q3 v38 k39 q40 => h)
        (fun v1 k2 q3 v38 k39 q40 m41 hI41 k42 v43 k44 q45 v46 k47 q48 v49 k50 q51 v52 k53 q54 x55 e56 m57 hI57 k58 hm2 => by
          obtain ⟨J1, s, js, jr, jP⟩ := k42.1
          have fvD : (gi m41 221 41).toInt = (gi mem 221 41).toInt := by omega
          have gl3 := gl_243 hI41
          have gl4 := gl_244 hI41
          have e4 : (gi m41 221 4).toInt = (gi mem 221 4).toInt := by omega
          have ry : rkI (Int32.toInt 35) = 6 := by decide
          exact go_p hm2 (o := 0) (by rw [(gi_eqO (isO_of hI57) (by decide))]; rfl) (s := (gi m41 221 4).toInt) (by omega) (PI_hold (x := (gi m41 221 44)) (y := 35) (ph' := f.2.2.1) (bg' := f.2.2.2.1) hI41 jP (fr_sv rfl (fr_sa rfl (fr_rf))) k58.1 (fr_sv rfl fr_rf) (gi_eqO (isO_sa (by decide) (isO_of hI41)) (by decide)) (by omega) (((ga_sv).trans ga_sa_eq)) (by omega) ⟨by rw [((ga_sv).trans (ga_sa_ne (by decide)))]; exact jP.2.1.1.1.2.2.1, fun i _ _ => by rw [((ga_sv).trans (ga_sa_ne (by decide)))]⟩ ⟨by rw [((ga_sv).trans (ga_sa_ne (by decide)))]; exact jP.2.1.1.1.2.2.2.1, fun i _ _ => by rw [((ga_sv).trans (ga_sa_ne (by decide)))]⟩ (by unfold opI; decide) (by decide) (fun q hq => by have a := jr q hq; rw [ry]; omega) (fun w => ⟨by rw [ry]; decide, Or.inl w⟩) (fun w => absurd (jP.2.2.2.2.2 rfl _ rfl) w) (by omega)))
        (fun v1 k2 q3 v38 k39 q40 m41 hI41 k42 v43 k44 q45 v46 k47 q48 v49 k50 q51 v52 k53 q54 x59 e60 m61 hI61 k62 hm2 => by
          obtain ⟨J1, s, js, jr, jP⟩ := k42.1
          have fvD : (gi m41 221 41).toInt = (gi mem 221 41).toInt := by omega
          have gl3 := gl_243 hI41
          have gl4 := gl_244 hI41
          have e4 : (gi m41 221 4).toInt = (gi mem 221 4).toInt := by omega
          have ry : rkI (Int32.toInt 34) = 6 := by decide
          exact go_p hm2 (o := 0) (by rw [(gi_eqO (isO_of hI61) (by decide))]; rfl) (s := (gi m41 221 4).toInt) (by omega) (PI_hold (x := (gi m41 221 44)) (y := 34) (ph' := f.2.2.1) (bg' := f.2.2.2.1) hI41 jP (fr_sv rfl (fr_sa rfl (fr_rf))) k62.1 (fr_sv rfl fr_rf) (gi_eqO (isO_sa (by decide) (isO_of hI41)) (by decide)) (by omega) (((ga_sv).trans ga_sa_eq)) (by omega) ⟨by rw [((ga_sv).trans (ga_sa_ne (by decide)))]; exact jP.2.1.1.1.2.2.1, fun i _ _ => by rw [((ga_sv).trans (ga_sa_ne (by decide)))]⟩ ⟨by rw [((ga_sv).trans (ga_sa_ne (by decide)))]; exact jP.2.1.1.1.2.2.2.1, fun i _ _ => by rw [((ga_sv).trans (ga_sa_ne (by decide)))]⟩ (by unfold opI; decide) (by decide) (fun q hq => by have a := jr q hq; rw [ry]; omega) (fun w => ⟨by rw [ry]; decide, Or.inl w⟩) (fun w => absurd (jP.2.2.2.2.2 rfl _ rfl) w) (by omega)))
        (fun v1 k2 q3 v38 k39 q40 m41 hI41 k42 v43 k44 q45 v46 k47 q48 v49 k50 q51 x63 e64 m65 hI65 k66 hm2 => by
          obtain ⟨J1, s, js, jr, jP⟩ := k42.1
          have fvD : (gi m41 221 41).toInt = (gi mem 221 41).toInt := by omega
          have gl3 := gl_243 hI41
          have gl4 := gl_244 hI41
          have e4 : (gi m41 221 4).toInt = (gi mem 221 4).toInt := by omega
          have ry : rkI (Int32.toInt 33) = 6 := by decide
          exact go_p hm2 (o := 0) (by rw [(gi_eqO (isO_of hI65) (by decide))]; rfl) (s := (gi m41 221 4).toInt) (by omega) (PI_hold (x := (gi m41 221 44)) (y := 33) (ph' := f.2.2.1) (bg' := f.2.2.2.1) hI41 jP (fr_sv rfl (fr_sa rfl (fr_rf))) k66.1 (fr_sv rfl fr_rf) (gi_eqO (isO_sa (by decide) (isO_of hI41)) (by decide)) (by omega) (((ga_sv).trans ga_sa_eq)) (by omega) ⟨by rw [((ga_sv).trans (ga_sa_ne (by decide)))]; exact jP.2.1.1.1.2.2.1, fun i _ _ => by rw [((ga_sv).trans (ga_sa_ne (by decide)))]⟩ ⟨by rw [((ga_sv).trans (ga_sa_ne (by decide)))]; exact jP.2.1.1.1.2.2.2.1, fun i _ _ => by rw [((ga_sv).trans (ga_sa_ne (by decide)))]⟩ (by unfold opI; decide) (by decide) (fun q hq => by have a := jr q hq; rw [ry]; omega) (fun w => ⟨by rw [ry]; decide, Or.inl w⟩) (fun w => absurd (jP.2.2.2.2.2 rfl _ rfl) w) (by omega)))
        (fun v1 k2 q3 v38 k39 q40 m41 hI41 k42 v43 k44 q45 v46 k47 q48 x67 e68 m69 hI69 k70 hm2 => by exfalso; omega)
        (fun v1 k2 q3 v38 k39 q40 m41 hI41 k42 v43 k44 q45 x71 e72 m73 hI73 k74 hm2 => by exfalso; omega)
        (fun v1 k2 q3 v38 k39 q40 => h)
        (fun v1 k2 q3 v38 k39 q40 m75 hI75 k76 v77 k78 q79 v80 k81 q82 v83 k84 q85 v86 k87 q88 x89 e90 m91 hI91 k92 hm2 => by
          obtain ⟨J1, s, js, jr, jP⟩ := k76.1
          have fvD : (gi m75 221 41).toInt = (gi mem 221 41).toInt := by omega
          have gl3 := gl_243 hI75
          have gl4 := gl_244 hI75
          have e4 : (gi m75 221 4).toInt = (gi mem 221 4).toInt := by omega
          have ry : rkI (Int32.toInt 35) = 6 := by decide
          exact go_p hm2 (o := 0) (by rw [(gi_eqO (isO_of hI91) (by decide))]; rfl) (s := (gi m75 221 4).toInt) (by omega) (PI_hold (x := (gi m75 221 44)) (y := 35) (ph' := f.2.2.1) (bg' := f.2.2.2.1) hI75 jP (fr_sv rfl (fr_sa rfl (fr_rf))) k92.1 (fr_sv rfl fr_rf) (gi_eqO (isO_sa (by decide) (isO_of hI75)) (by decide)) (by omega) (((ga_sv).trans ga_sa_eq)) (by omega) ⟨by rw [((ga_sv).trans (ga_sa_ne (by decide)))]; exact jP.2.1.1.1.2.2.1, fun i _ _ => by rw [((ga_sv).trans (ga_sa_ne (by decide)))]⟩ ⟨by rw [((ga_sv).trans (ga_sa_ne (by decide)))]; exact jP.2.1.1.1.2.2.2.1, fun i _ _ => by rw [((ga_sv).trans (ga_sa_ne (by decide)))]⟩ (by unfold opI; decide) (by decide) (fun q hq => by have a := jr q hq; rw [ry]; omega) (fun w => ⟨by rw [ry]; decide, Or.inl w⟩) (fun w => absurd (jP.2.2.2.2.2 rfl _ rfl) w) (by omega)))
        (fun v1 k2 q3 v38 k39 q40 m75 hI75 k76 v77 k78 q79 v80 k81 q82 v83 k84 q85 v86 k87 q88 x93 e94 m95 hI95 k96 hm2 => by
          obtain ⟨J1, s, js, jr, jP⟩ := k76.1
          have fvD : (gi m75 221 41).toInt = (gi mem 221 41).toInt := by omega
          have gl3 := gl_243 hI75
          have gl4 := gl_244 hI75
          have e4 : (gi m75 221 4).toInt = (gi mem 221 4).toInt := by omega
          have ry : rkI (Int32.toInt 34) = 6 := by decide
          exact go_p hm2 (o := 0) (by rw [(gi_eqO (isO_of hI95) (by decide))]; rfl) (s := (gi m75 221 4).toInt) (by omega) (PI_hold (x := (gi m75 221 44)) (y := 34) (ph' := f.2.2.1) (bg' := f.2.2.2.1) hI75 jP (fr_sv rfl (fr_sa rfl (fr_rf))) k96.1 (fr_sv rfl fr_rf) (gi_eqO (isO_sa (by decide) (isO_of hI75)) (by decide)) (by omega) (((ga_sv).trans ga_sa_eq)) (by omega) ⟨by rw [((ga_sv).trans (ga_sa_ne (by decide)))]; exact jP.2.1.1.1.2.2.1, fun i _ _ => by rw [((ga_sv).trans (ga_sa_ne (by decide)))]⟩ ⟨by rw [((ga_sv).trans (ga_sa_ne (by decide)))]; exact jP.2.1.1.1.2.2.2.1, fun i _ _ => by rw [((ga_sv).trans (ga_sa_ne (by decide)))]⟩ (by unfold opI; decide) (by decide) (fun q hq => by have a := jr q hq; rw [ry]; omega) (fun w => ⟨by rw [ry]; decide, Or.inl w⟩) (fun w => absurd (jP.2.2.2.2.2 rfl _ rfl) w) (by omega)))
        (fun v1 k2 q3 v38 k39 q40 m75 hI75 k76 v77 k78 q79 v80 k81 q82 v83 k84 q85 x97 e98 m99 hI99 k100 hm2 => by
          obtain ⟨J1, s, js, jr, jP⟩ := k76.1
          have fvD : (gi m75 221 41).toInt = (gi mem 221 41).toInt := by omega
          have gl3 := gl_243 hI75
          have gl4 := gl_244 hI75
          have e4 : (gi m75 221 4).toInt = (gi mem 221 4).toInt := by omega
          have ry : rkI (Int32.toInt 33) = 6 := by decide
          exact go_p hm2 (o := 0) (by rw [(gi_eqO (isO_of hI99) (by decide))]; rfl) (s := (gi m75 221 4).toInt) (by omega) (PI_hold (x := (gi m75 221 44)) (y := 33) (ph' := f.2.2.1) (bg' := f.2.2.2.1) hI75 jP (fr_sv rfl (fr_sa rfl (fr_rf))) k100.1 (fr_sv rfl fr_rf) (gi_eqO (isO_sa (by decide) (isO_of hI75)) (by decide)) (by omega) (((ga_sv).trans ga_sa_eq)) (by omega) ⟨by rw [((ga_sv).trans (ga_sa_ne (by decide)))]; exact jP.2.1.1.1.2.2.1, fun i _ _ => by rw [((ga_sv).trans (ga_sa_ne (by decide)))]⟩ ⟨by rw [((ga_sv).trans (ga_sa_ne (by decide)))]; exact jP.2.1.1.1.2.2.2.1, fun i _ _ => by rw [((ga_sv).trans (ga_sa_ne (by decide)))]⟩ (by unfold opI; decide) (by decide) (fun q hq => by have a := jr q hq; rw [ry]; omega) (fun w => ⟨by rw [ry]; decide, Or.inl w⟩) (fun w => absurd (jP.2.2.2.2.2 rfl _ rfl) w) (by omega)))
        (fun v1 k2 q3 v38 k39 q40 m75 hI75 k76 v77 k78 q79 v80 k81 q82 x101 e102 m103 hI103 k104 hm2 => by
          obtain ⟨J1, s, js, jr, jP⟩ := k76.1
          have fvD : (gi m75 221 41).toInt = (gi mem 221 41).toInt := by omega
          have gl3 := gl_243 hI75
          have gl4 := gl_244 hI75
          have e4 : (gi m75 221 4).toInt = (gi mem 221 4).toInt := by omega
          have ry : rkI (Int32.toInt 32) = 5 := by decide
          exact go_p hm2 (o := 0) (by rw [(gi_eqO (isO_of hI103) (by decide))]; rfl) (s := (gi m75 221 4).toInt) (by omega) (PI_hold (x := (gi m75 221 44)) (y := 32) (ph' := f.2.2.1) (bg' := f.2.2.2.1) hI75 jP (fr_sv rfl (fr_sa rfl (fr_rf))) k104.1 (fr_sv rfl fr_rf) (gi_eqO (isO_sa (by decide) (isO_of hI75)) (by decide)) (by omega) (((ga_sv).trans ga_sa_eq)) (by omega) ⟨by rw [((ga_sv).trans (ga_sa_ne (by decide)))]; exact jP.2.1.1.1.2.2.1, fun i _ _ => by rw [((ga_sv).trans (ga_sa_ne (by decide)))]⟩ ⟨by rw [((ga_sv).trans (ga_sa_ne (by decide)))]; exact jP.2.1.1.1.2.2.2.1, fun i _ _ => by rw [((ga_sv).trans (ga_sa_ne (by decide)))]⟩ (by unfold opI; decide) (by decide) (fun q hq => by have a := jr q hq; rw [ry]; omega) (fun w => ⟨by rw [ry]; decide, Or.inl w⟩) (fun w => absurd (jP.2.2.2.2.2 rfl _ rfl) w) (by omega)))
        (fun v1 k2 q3 v38 k39 q40 m75 hI75 k76 v77 k78 q79 x105 e106 m107 hI107 k108 hm2 => by
          obtain ⟨J1, s, js, jr, jP⟩ := k76.1
          have fvD : (gi m75 221 41).toInt = (gi mem 221 41).toInt := by omega
          have gl3 := gl_243 hI75
          have gl4 := gl_244 hI75
          have e4 : (gi m75 221 4).toInt = (gi mem 221 4).toInt := by omega
          have ry : rkI (Int32.toInt 31) = 5 := by decide
          exact go_p hm2 (o := 0) (by rw [(gi_eqO (isO_of hI107) (by decide))]; rfl) (s := (gi m75 221 4).toInt) (by omega) (PI_hold (x := (gi m75 221 44)) (y := 31) (ph' := f.2.2.1) (bg' := f.2.2.2.1) hI75 jP (fr_sv rfl (fr_sa rfl (fr_rf))) k108.1 (fr_sv rfl fr_rf) (gi_eqO (isO_sa (by decide) (isO_of hI75)) (by decide)) (by omega) (((ga_sv).trans ga_sa_eq)) (by omega) ⟨by rw [((ga_sv).trans (ga_sa_ne (by decide)))]; exact jP.2.1.1.1.2.2.1, fun i _ _ => by rw [((ga_sv).trans (ga_sa_ne (by decide)))]⟩ ⟨by rw [((ga_sv).trans (ga_sa_ne (by decide)))]; exact jP.2.1.1.1.2.2.2.1, fun i _ _ => by rw [((ga_sv).trans (ga_sa_ne (by decide)))]⟩ (by unfold opI; decide) (by decide) (fun q hq => by have a := jr q hq; rw [ry]; omega) (fun w => ⟨by rw [ry]; decide, Or.inl w⟩) (fun w => absurd (jP.2.2.2.2.2 rfl _ rfl) w) (by omega)))
set_option maxRecDepth 100000 in
theorem w_go_32 {d : Nat} {mem : zM} {P : Option Value → zM → Prop} {mr : zM} {fm : Int} {f : Fm} {r : List Fm} {fv kv tv : Int32} {lo : List (Nat × Value)} (hm : aTm aT0 mem) (l_0 : zlg lo 0 = some (.ref 221)) (l_1 : zlg lo 1 = some (.int fv)) (l_2 : zlg lo 2 = some (.int kv)) (l_3 : zlg lo 3 = some (.int tv)) (p1 : 1 ≤ (gi mem 221 41).toInt ∧ (gi mem 221 41).toInt ≤ 8) (p2 : 0 ≤ (gi mem 221 44).toInt ∧ (gi mem 221 44).toInt ≤ 60) (p3 : 0 ≤ (gi mem 221 33).toInt ∧ (gi mem 221 33).toInt ≤ 1599) (p4 : 0 ≤ (gi mem 221 42).toInt ∧ (gi mem 221 42).toInt ≤ 7) (p6 : (gi mem 221 5).toInt ≤ (gi mem 221 2).toInt) (fv1 : fv.toInt = (gi mem 221 41).toInt - 1) (h1 : ∀ (y1 : Int32), y1.toInt = (gn (ga mem 243) (fv).toInt) → 2 ≤ (gn (ga mem 243) (fv).toInt) → ∀ lo, zlg lo 0 = some (.ref 221) → zlg lo 1 = some (.int fv) → zlg lo 2 = some (.int kv) → zlg lo 3 = some (.int tv) → aTm aT0 mem → yR zpg tX12_goesOn (d + 5) (188, lo, [], mem) P) (h2 : ∀ (y1 : Int32), y1.toInt = (gn (ga mem 243) (fv).toInt) → (gn (ga mem 243) (fv).toInt) < 2 → ∀ (v4 : Int32), ((v4.toInt = 0 ∧ ¬ ((gi mem 221 3).toInt = 3 ∧ (gi mem 221 6).toInt = 43)) ∨ (v4.toInt = 1 ∧ (gi mem 221 3).toInt = 3 ∧ (gi mem 221 6).toInt = 43)) → ¬ (v4).toInt = 0 → ∀ lo, zlg lo 0 = some (.ref 221) → aTm aT0 mem → yR zpg tX12_goesOn (d + 5) (87, lo, [], mem) P) (h3 : ∀ (y1 : Int32), y1.toInt = (gn (ga mem 243) (fv).toInt) → (gn (ga mem 243) (fv).toInt) < 2 → ∀ (v4 : Int32), ((v4.toInt = 0 ∧ ¬ ((gi mem 221 3).toInt = 3 ∧ (gi mem 221 6).toInt = 43)) ∨ (v4.toInt = 1 ∧ (gi mem 221 3).toInt = 3 ∧ (gi mem 221 6).toInt = 43)) → (v4).toInt = 0 → ∀ (v7 : Int32), ((v7.toInt = 0 ∧ ¬ ((gi mem 221 3).toInt = 3 ∧ (gi mem 221 6).toInt = 45)) ∨ (v7.toInt = 1 ∧ (gi mem 221 3).toInt = 3 ∧ (gi mem 221 6).toInt = 45)) → ¬ (v7).toInt = 0 → ∀ lo, zlg lo 0 = some (.ref 221) → aTm aT0 mem → yR zpg tX12_goesOn (d + 5) (87, lo, [], mem) P) (h4 : ∀ (y1 : Int32), y1.toInt = (gn (ga mem 243) (fv).toInt) → (gn (ga mem 243) (fv).toInt) < 2 → ∀ (v4 : Int32), ((v4.toInt = 0 ∧ ¬ ((gi mem 221 3).toInt = 3 ∧ (gi mem 221 6).toInt = 43)) ∨ (v4.toInt = 1 ∧ (gi mem 221 3).toInt = 3 ∧ (gi mem 221 6).toInt = 43)) → (v4).toInt = 0 → ∀ (v7 : Int32), ((v7.toInt = 0 ∧ ¬ ((gi mem 221 3).toInt = 3 ∧ (gi mem 221 6).toInt = 45)) ∨ (v7.toInt = 1 ∧ (gi mem 221 3).toInt = 3 ∧ (gi mem 221 6).toInt = 45)) → (v7).toInt = 0 → ∀ (v10 : Int32), ((v10.toInt = 0 ∧ ¬ ((gi mem 221 3).toInt = 3 ∧ (gi mem 221 6).toInt = 42)) ∨ (v10.toInt = 1 ∧ (gi mem 221 3).toInt = 3 ∧ (gi mem 221 6).toInt = 42)) → ¬ (v10).toInt = 0 → ∀ lo, zlg lo 0 = some (.ref 221) → aTm aT0 mem → yR zpg tX12_goesOn (d + 5) (87, lo, [], mem) P) (h5 : ∀ (y1 : Int32), y1.toInt = (gn (ga mem 243) (fv).toInt) → (gn (ga mem 243) (fv).toInt) < 2 → ∀ (v4 : Int32), ((v4.toInt = 0 ∧ ¬ ((gi mem 221 3).toInt = 3 ∧ (gi mem 221 6).toInt = 43)) ∨ (v4.toInt = 1 ∧ (gi mem 221 3).toInt = 3 ∧ (gi mem 221 6).toInt = 43)) → (v4).toInt = 0 → ∀ (v7 : Int32), ((v7.toInt = 0 ∧ ¬ ((gi mem 221 3).toInt = 3 ∧ (gi mem 221 6).toInt = 45)) ∨ (v7.toInt = 1 ∧ (gi mem 221 3).toInt = 3 ∧ (gi mem 221 6).toInt = 45)) → (v7).toInt = 0 → ∀ (v10 : Int32), ((v10.toInt = 0 ∧ ¬ ((gi mem 221 3).toInt = 3 ∧ (gi mem 221 6).toInt = 42)) ∨ (v10.toInt = 1 ∧ (gi mem 221 3).toInt = 3 ∧ (gi mem 221 6).toInt = 42)) → (v10).toInt = 0 → ∀ (v13 : Int32), ((v13.toInt = 0 ∧ ¬ ((gi mem 221 3).toInt = 3 ∧ (gi mem 221 6).toInt = 47)) ∨ (v13.toInt = 1 ∧ (gi mem 221 3).toInt = 3 ∧ (gi mem 221 6).toInt = 47)) → ¬ (v13).toInt = 0 → ∀ lo, zlg lo 0 = some (.ref 221) → aTm aT0 mem → yR zpg tX12_goesOn (d + 5) (87, lo, [], mem) P) (h6 : ∀ (y1 : Int32), y1.toInt = (gn (ga mem 243) (fv).toInt) → (gn (ga mem 243) (fv).toInt) < 2 → ∀ (v4 : Int32), ((v4.toInt = 0 ∧ ¬ ((gi mem 221 3).toInt = 3 ∧ (gi mem 221 6).toInt = 43)) ∨ (v4.toInt = 1 ∧ (gi mem 221 3).toInt = 3 ∧ (gi mem 221 6).toInt = 43)) → (v4).toInt = 0 → ∀ (v7 : Int32), ((v7.toInt = 0 ∧ ¬ ((gi mem 221 3).toInt = 3 ∧ (gi mem 221 6).toInt = 45)) ∨ (v7.toInt = 1 ∧ (gi mem 221 3).toInt = 3 ∧ (gi mem 221 6).toInt = 45)) → (v7).toInt = 0 → ∀ (v10 : Int32), ((v10.toInt = 0 ∧ ¬ ((gi mem 221 3).toInt = 3 ∧ (gi mem 221 6).toInt = 42)) ∨ (v10.toInt = 1 ∧ (gi mem 221 3).toInt = 3 ∧ (gi mem 221 6).toInt = 42)) → (v10).toInt = 0 → ∀ (v13 : Int32), ((v13.toInt = 0 ∧ ¬ ((gi mem 221 3).toInt = 3 ∧ (gi mem 221 6).toInt = 47)) ∨ (v13.toInt = 1 ∧ (gi mem 221 3).toInt = 3 ∧ (gi mem 221 6).toInt = 47)) → (v13).toInt = 0 → ∀ (v16 : Int32), ((v16.toInt = 0 ∧ ¬ ((gi mem 221 3).toInt = 3 ∧ (gi mem 221 6).toInt = 37)) ∨ (v16.toInt = 1 ∧ (gi mem 221 3).toInt = 3 ∧ (gi mem 221 6).toInt = 37)) → (v16).toInt = 0 → ∀ lo, zlg lo 0 = some (.ref 221) → zlg lo 1 = some (.int fv) → zlg lo 2 = some (.int kv) → zlg lo 3 = some (.int tv) → aTm aT0 mem → yR zpg tX12_goesOn (d + 5) (188, lo, [], mem) P) (h7 : ∀ (y1 : Int32), y1.toInt = (gn (ga mem 243) (fv).toInt) → (gn (ga mem 243) (fv).toInt) < 2 → ∀ (v4 : Int32), ((v4.toInt = 0 ∧ ¬ ((gi mem 221 3).toInt = 3 ∧ (gi mem 221 6).toInt = 43)) ∨ (v4.toInt = 1 ∧ (gi mem 221 3).toInt = 3 ∧ (gi mem 221 6).toInt = 43)) → (v4).toInt = 0 → ∀ (v7 : Int32), ((v7.toInt = 0 ∧ ¬ ((gi mem 221 3).toInt = 3 ∧ (gi mem 221 6).toInt = 45)) ∨ (v7.toInt = 1 ∧ (gi mem 221 3).toInt = 3 ∧ (gi mem 221 6).toInt = 45)) → (v7).toInt = 0 → ∀ (v10 : Int32), ((v10.toInt = 0 ∧ ¬ ((gi mem 221 3).toInt = 3 ∧ (gi mem 221 6).toInt = 42)) ∨ (v10.toInt = 1 ∧ (gi mem 221 3).toInt = 3 ∧ (gi mem 221 6).toInt = 42)) → (v10).toInt = 0 → ∀ (v13 : Int32), ((v13.toInt = 0 ∧ ¬ ((gi mem 221 3).toInt = 3 ∧ (gi mem 221 6).toInt = 47)) ∨ (v13.toInt = 1 ∧ (gi mem 221 3).toInt = 3 ∧ (gi mem 221 6).toInt = 47)) → (v13).toInt = 0 → ∀ (v16 : Int32), ((v16.toInt = 0 ∧ ¬ ((gi mem 221 3).toInt = 3 ∧ (gi mem 221 6).toInt = 37)) ∨ (v16.toInt = 1 ∧ (gi mem 221 3).toInt = 3 ∧ (gi mem 221 6).toInt = 37)) → ¬ (v16).toInt = 0 → ∀ lo, zlg lo 0 = some (.ref 221) → aTm aT0 mem → yR zpg tX12_goesOn (d + 5) (87, lo, [], mem) P) : yR zpg tX12_goesOn (d + 5) (32, lo, [], mem) P := by
  obtain ⟨i0, i1⟩ := mO_r34 hm
  refine wR_la rfl l_0 ?_
  refine wR_gr rfl mO_e mO_37 hm ?_
  refine wR_li rfl l_1 ?_
  refine wN_al (a := (fv).toInt) rfl aR_243 hm rfl rfl (by omega) (fun y1 e2 => ?_)
  refine yR_m 1 (fun _ _ _ _ => rfl) ?_
  refine wR_ic_ge rfl (a := (gn (ga mem 243) (fv).toInt)) (c := 2) e2 rfl (fun q3 => ?_) (fun q3 => ?_)
  ·
    exact h1 y1 e2 q3 lo l_0 l_1 l_2 l_3 hm
  ·
    refine wR_la rfl l_0 ?_
    refine yR_m 1 (fun _ _ _ _ => rfl) ?_
    refine wR_cv rfl rfl mO_e hm rfl (c_isSign2 hm rfl rfl (by omega)) ?_
    rintro _ _ ⟨v4, rfl, rfl, k5⟩
    show yR zpg tX12_goesOn (d + 5) (48, lo, [.int v4], mem) _
    refine wR_if_ne rfl (a := (v4).toInt) rfl (fun q6 => ?_) (fun q6 => ?_)
    ·
      exact h2 y1 e2 q3 v4 k5 q6 lo l_0 hm
    ·
      refine wR_la rfl l_0 ?_
      refine yR_m 1 (fun _ _ _ _ => rfl) ?_
      refine wR_cv rfl rfl mO_e hm rfl (c_isSign2 hm rfl rfl (by omega)) ?_
      rintro _ _ ⟨v7, rfl, rfl, k8⟩
      show yR zpg tX12_goesOn (d + 5) (57, lo, [.int v7], mem) _
      refine wR_if_ne rfl (a := (v7).toInt) rfl (fun q9 => ?_) (fun q9 => ?_)
      ·
        exact h3 y1 e2 q3 v4 k5 q6 v7 k8 q9 lo l_0 hm
      ·
        refine wR_la rfl l_0 ?_
        refine yR_m 1 (fun _ _ _ _ => rfl) ?_
        refine wR_cv rfl rfl mO_e hm rfl (c_isSign2 hm rfl rfl (by omega)) ?_
        rintro _ _ ⟨v10, rfl, rfl, k11⟩
        show yR zpg tX12_goesOn (d + 5) (66, lo, [.int v10], mem) _
        refine wR_if_ne rfl (a := (v10).toInt) rfl (fun q12 => ?_) (fun q12 => ?_)
        ·
          exact h4 y1 e2 q3 v4 k5 q6 v7 k8 q9 v10 k11 q12 lo l_0 hm
        ·
          refine wR_la rfl l_0 ?_
          refine yR_m 1 (fun _ _ _ _ => rfl) ?_
          refine wR_cv rfl rfl mO_e hm rfl (c_isSign2 hm rfl rfl (by omega)) ?_
          rintro _ _ ⟨v13, rfl, rfl, k14⟩
          show yR zpg tX12_goesOn (d + 5) (75, lo, [.int v13], mem) _
          refine wR_if_ne rfl (a := (v13).toInt) rfl (fun q15 => ?_) (fun q15 => ?_)
          ·
            exact h5 y1 e2 q3 v4 k5 q6 v7 k8 q9 v10 k11 q12 v13 k14 q15 lo l_0 hm
          ·
            refine wR_la rfl l_0 ?_
            refine yR_m 1 (fun _ _ _ _ => rfl) ?_
            refine wR_cv rfl rfl mO_e hm rfl (c_isSign2 hm rfl rfl (by omega)) ?_
            rintro _ _ ⟨v16, rfl, rfl, k17⟩
            show yR zpg tX12_goesOn (d + 5) (84, lo, [.int v16], mem) _
            refine wR_if_eq rfl (a := (v16).toInt) rfl (fun q18 => ?_) (fun q18 => ?_)
            ·
              exact h6 y1 e2 q3 v4 k5 q6 v7 k8 q9 v10 k11 q12 v13 k14 q15 v16 k17 q18 lo l_0 l_1 l_2 l_3 hm
            ·
              exact h7 y1 e2 q3 v4 k5 q6 v7 k8 q9 v10 k11 q12 v13 k14 q15 v16 k17 q18 lo l_0 hm

theorem go_32 {fv kv tv : Int32} {lo : List (Nat × Value)} (hm : aTm aT0 mem) (h : PI mr mem fm (f :: r) 1) (hs : s0 ≤ (gi mem 221 4).toInt) (h45 : (gi mem 221 45).toInt = 1) (fv1 : fv.toInt = (gi mem 221 41).toInt - 1) (kv1 : kv.toInt = f.1) (a0 : zlg lo 0 = some (.ref 221)) (a1 : zlg lo 1 = some (.int fv)) (a2 : zlg lo 2 = some (.int kv)) (a3 : zlg lo 3 = some (.int tv)) : yR zpg tX12_goesOn (d + 5) (32, lo, [], mem) (goP mr fm s0) := by
  have pp := PI_pp hm h
  have hT := h.1.2.1
  obtain ⟨p1, p2, p3, p4, p6, p8, p9⟩ := pp
  exact w_go_32 (mr := mr) (fm := fm) (f := f) (r := r) hm a0 a1 a2 a3 p1 p2 p3 p4 p6 fv1
        (fun y1 e2 q3 lo a0 a1 a2 a3 hm => go_188 hm h hs h45 fv1 kv1 a0 a1 a2 a3)
        (fun y1 e2 q3 v4 k5 q6 lo a0 hm => go_87 hm h hs h45 (by omega) a0)
        (fun y1 e2 q3 v4 k5 q6 v7 k8 q9 lo a0 hm => go_87 hm h hs h45 (by omega) a0)
        (fun y1 e2 q3 v4 k5 q6 v7 k8 q9 v10 k11 q12 lo a0 hm => go_87 hm h hs h45 (by omega) a0)
        (fun y1 e2 q3 v4 k5 q6 v7 k8 q9 v10 k11 q12 v13 k14 q15 lo a0 hm => go_87 hm h hs h45 (by omega) a0)
        (fun y1 e2 q3 v4 k5 q6 v7 k8 q9 v10 k11 q12 v13 k14 q15 v16 k17 q18 lo a0 a1 a2 a3 hm => go_188 hm h hs h45 fv1 kv1 a0 a1 a2 a3)
        (fun y1 e2 q3 v4 k5 q6 v7 k8 q9 v10 k11 q12 v13 k14 q15 v16 k17 q18 lo a0 hm => go_87 hm h hs h45 (by omega) a0)
set_option maxRecDepth 100000 in
theorem w_go_0 {d : Nat} {mem : zM} {P : Option Value → zM → Prop} {mr : zM} {fm : Int} {f : Fm} {r : List Fm} {lo : List (Nat × Value)} (hm : aTm aT0 mem) (l_0 : zlg lo 0 = some (.ref 221)) (p1 : 1 ≤ (gi mem 221 41).toInt ∧ (gi mem 221 41).toInt ≤ 8) (p2 : 0 ≤ (gi mem 221 44).toInt ∧ (gi mem 221 44).toInt ≤ 60) (p3 : 0 ≤ (gi mem 221 33).toInt ∧ (gi mem 221 33).toInt ≤ 1599) (p4 : 0 ≤ (gi mem 221 42).toInt ∧ (gi mem 221 42).toInt ≤ 7) (p6 : (gi mem 221 5).toInt ≤ (gi mem 221 2).toInt) (h1 : (gi mem 221 12).toInt = (-1) → (gi mem 221 8).toInt ≤ 0 → ∀ (x3 : Int32), x3.toInt = ((gi mem 221 41).toInt - 1) → ∀ (y8 : Int32), y8.toInt = (gn (ga mem 242) ((gi mem 221 41).toInt - 1)) → ∀ (v13 : Int32), ((v13.toInt = 0 ∧ ¬ (y8.toInt = 1 ∨ y8.toInt = 5 ∨ y8.toInt = 6)) ∨ (v13.toInt = 1 ∧ (y8.toInt = 1 ∨ y8.toInt = 5 ∨ y8.toInt = 6))) → ∀ lo, zlg lo 0 = some (.ref 221) → zlg lo 1 = some (.int x3) → zlg lo 2 = some (.int y8) → zlg lo 3 = some (.int v13) → aTm aT0 mem → yR zpg tX12_goesOn (d + 5) (32, lo, [], mem) P) (h2 : (gi mem 221 12).toInt = (-1) → 0 < (gi mem 221 8).toInt → aTm aT0 mem → P (some (.int 0)) mem) (h3 : ¬ (gi mem 221 12).toInt = (-1) → (gi mem 221 8).toInt ≤ 0 → aTm aT0 (si (si mem 221 8 1) 221 9 (gi mem 221 12)) → P (some (.int 0)) (si (si mem 221 8 1) 221 9 (gi mem 221 12))) (h4 : ¬ (gi mem 221 12).toInt = (-1) → 0 < (gi mem 221 8).toInt → aTm aT0 mem → P (some (.int 0)) mem) : yR zpg tX12_goesOn (d + 5) (0, lo, [], mem) P := by
  obtain ⟨i0, i1⟩ := mO_r34 hm
  refine wR_la rfl l_0 ?_
  refine wR_iv rfl rfl mO_e hm rfl rfl rfl rfl ?_
  show yR zpg tX12_lex (d + 4) (0, [(0, .ref 221)], [], mem) _
  refine yR_m 1 (fun _ _ _ _ => rfl) ?_
  refine wR_gi rfl mO_e mO_12 hm rfl ?_
  refine yR_m 1 (fun _ _ _ _ => rfl) ?_
  refine wR_ic_eq rfl (a := (gi mem 221 12).toInt) (c := (-1)) rfl tm1 (fun q1 => ?_) (fun q1 => ?_)
  ·
    refine yR_rv rfl ?_
    show yR zpg tX12_goesOn (d + 5) (4, lo, [], mem) _
    refine wR_la rfl l_0 ?_
    refine wR_gi rfl mO_e mO_8 hm rfl ?_
    refine wR_if_le rfl (a := (gi mem 221 8).toInt) rfl (fun q2 => ?_) (fun q2 => ?_)
    ·
      refine wR_la rfl l_0 ?_
      refine wR_gi rfl mO_e mO_41 hm rfl ?_
      refine yR_m 1 (fun _ _ _ _ => rfl) ?_
      refine wN_sub (a := (gi mem 221 41).toInt) (b := 1) rfl rfl rfl (by omega) (fun x3 e4 => ?_)
      refine wR_si rfl rfl (fun lo5 e6 f7 => ?_)
      have lo5_0 := f7 0 _ (by decide) (Or.inl rfl) l_0
      refine wR_la rfl lo5_0 ?_
      refine wR_gr rfl mO_e mO_36 hm ?_
      refine wR_li rfl e6 ?_
      refine wN_al (a := ((gi mem 221 41).toInt - 1)) rfl aR_242 hm rfl e4 (by omega) (fun y8 e9 => ?_)
      refine wR_si rfl rfl (fun lo10 e11 f12 => ?_)
      have lo10_1 := f12 1 _ (by decide) (Or.inl rfl) e6
      have lo10_0 := f12 0 _ (by decide) (Or.inl rfl) lo5_0
      refine wR_li rfl e11 ?_
      refine yR_cs rfl rfl rfl (c_isTest hm (by omega)) ?_
      rintro _ _ ⟨v13, rfl, rfl, k14⟩
      show yR zpg tX12_goesOn (d + 5) (31, lo10, [.int v13], mem) _
      refine wR_si rfl rfl (fun lo15 e16 f17 => ?_)
      have lo15_2 := f17 2 _ (by decide) (Or.inl rfl) e11
      have lo15_1 := f17 1 _ (by decide) (Or.inl rfl) lo10_1
      have lo15_0 := f17 0 _ (by decide) (Or.inl rfl) lo10_0
      exact h1 q1 q2 x3 e4 y8 e9 v13 k14 lo15 lo15_0 lo15_1 lo15_2 e16 hm
    ·
      refine yR_m 1 (fun _ _ _ _ => rfl) ?_
      exact yR_rz rfl ⟨by decide, by decide⟩ (h2 q1 q2 hm)
  ·
    refine yR_m 3 (fun _ _ _ _ => rfl) ?_
    refine wR_gi rfl mO_e mO_12 hm rfl ?_
    refine wR_iv rfl rfl mO_e hm rfl rfl rfl rfl ?_
    show yR zpg tX12_blame (d + 3) (0, [(0, .ref 221), (1, .int 1), (2, .int (gi mem 221 12))], [], mem) _
    refine yR_m 1 (fun _ _ _ _ => rfl) ?_
    refine wR_gi rfl mO_e mO_8 hm rfl ?_
    refine wR_if_le rfl (a := (gi mem 221 8).toInt) rfl (fun q18 => ?_) (fun q18 => ?_)
    ·
      refine yR_m 2 (fun _ _ _ _ => rfl) ?_
      refine wR_pi rfl mO_e mO_8 hm rfl ?_
      have hm_1 : aTm aT0 (si mem 221 8 1) := tm_si mO_e mO_8 hm (i32_b _)
      refine yR_m 2 (fun _ _ _ _ => rfl) ?_
      refine wR_pi rfl mO_e mO_9 hm_1 rfl ?_
      have hm_2 : aTm aT0 (si (si mem 221 8 1) 221 9 (gi mem 221 12)) := tm_si mO_e mO_9 hm_1 (i32_b _)
      refine yR_rv rfl ?_
      show yR zpg tX12_lex (d + 4) (17, [(0, .ref 221)], [], (si (si mem 221 8 1) 221 9 (gi mem 221 12))) _
      refine yR_rv rfl ?_
      show yR zpg tX12_goesOn (d + 5) (4, lo, [], (si (si mem 221 8 1) 221 9 (gi mem 221 12))) _
      refine wR_la rfl l_0 ?_
      refine wR_gi rfl mO_e mO_8 hm_2 ((gi_sv_ne (by decide)).trans (gi_si_eq mO_e mO_8 hm)) ?_
      refine wR_if_le rfl (a := 1) rfl (fun q => by exfalso; omega) (fun _ => ?_)
      refine yR_m 1 (fun _ _ _ _ => rfl) ?_
      exact yR_rz rfl ⟨by decide, by decide⟩ (h3 q1 q18 hm_2)
    ·
      refine yR_rv rfl ?_
      show yR zpg tX12_lex (d + 4) (17, [(0, .ref 221)], [], mem) _
      refine yR_rv rfl ?_
      show yR zpg tX12_goesOn (d + 5) (4, lo, [], mem) _
      refine wR_la rfl l_0 ?_
      refine wR_gi rfl mO_e mO_8 hm rfl ?_
      refine wR_if_le rfl (a := (gi mem 221 8).toInt) rfl (fun q => by exfalso; omega) (fun _ => ?_)
      refine yR_m 1 (fun _ _ _ _ => rfl) ?_
      exact yR_rz rfl ⟨by decide, by decide⟩ (h4 q1 q18 hm)

theorem go_0 {lo : List (Nat × Value)} (hm : aTm aT0 mem) (h : PI mr mem fm (f :: r) 1) (hs : s0 ≤ (gi mem 221 4).toInt) (h45 : (gi mem 221 45).toInt = 1) (a0 : zlg lo 0 = some (.ref 221)) : yR zpg tX12_goesOn (d + 5) (0, lo, [], mem) (goP mr fm s0) := by
  have pp := PI_pp hm h
  have hT := h.1.2.1
  obtain ⟨p1, p2, p3, p4, p6, p8, p9⟩ := pp
  exact w_go_0 (mr := mr) (fm := fm) (f := f) (r := r) hm a0 p1 p2 p3 p4 p6
        (fun q1 q2 x3 e4 y8 e9 v13 k14 lo a0 a1 a2 a3 hm => go_32 hm h hs h45 (by omega) (by have e := h.2.1.1.1.1; omega) a0 a1 a2 a3)
        (fun q1 q2 hm2 => by exfalso; omega)
        (fun q1 q18 hm2 => go_f hm2 h.1.1 hT (fr_sv rfl (fr_sv rfl (fr_rf))) (by show 1 ≤ (gi (si (si mem 221 8 1) 221 9 (gi mem 221 12)) 221 8).toInt; rw [((gi_sv_ne (by decide)).trans (gi_eqO (isO_of hm) (by decide)))]; decide) (by decide))
        (fun q1 q18 hm2 => by exfalso; omega)
theorem h_goesOn (hm : aTm aT0 mem) (h : PI mr mem fm (f :: r) 1) (h45 : (gi mem 221 45).toInt = 1) (hd : 6 ≤ d) : yC zpg d 189 [.ref 221] mem (goP mr fm (gi mem 221 4).toInt) := by
  obtain ⟨d, rfl⟩ : ∃ q, d = q + 6 := ⟨d - 6, by omega⟩
  refine yC_of (t := tX12_goesOn) rfl rfl ?_
  exact go_0 hm h (Int.le_refl _) h45 rfl
end GO
