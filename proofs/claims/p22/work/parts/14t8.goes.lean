/-! what goes on behind an operand does to the frames -/
theorem chn_le : ∀ {l : List Int} {a : Int}, chn (a :: l) → ∀ o ∈ l, rkI o ≤ rkI a
  | [], _, _, _, h => absurd h List.not_mem_nil
  | b :: t, a, h, o, ho => by
    have hb : rkI b ≤ rkI a := by
      rcases h.1 with q | ⟨q1, q2⟩
      · omega
      · rw [q1, q2]; exact Int.le_refl _
    rcases List.mem_cons.1 ho with q | q
    · rw [q]; exact hb
    · have := chn_le h.2 o q
      omega
theorem PI_hold {mr m C m1 m' : zM} {fm k p ph bg ph' bg' : Int} {s : List Int} {r : List Fm} {x y x44 : Int32} (hm : aTm aT0 m) (h : PI mr m fm ((k, p, ph, bg, s) :: r) 1) (F : fr [243, 244, 247] [44] m C) (Q : ahQ C m1) (F2 : fr [] [45] m1 m') (e44 : gi C 221 44 = x44) (v44 : x44.toInt = (gi m 221 44).toInt + 1) (g : ga C 247 = (ga m 247).set x.toNatClampNeg y) (hx : x.toInt = (gi m 221 44).toInt)
    (g3 : gn (ga C 243) ((gi m 221 41).toInt - 1) = ph' ∧ ∀ i, 0 ≤ i → i < (gi m 221 41).toInt - 1 → gn (ga C 243) i = gn (ga m 243) i) (g4 : gn (ga C 244) ((gi m 221 41).toInt - 1) = bg' ∧ ∀ i, 0 ≤ i → i < (gi m 221 41).toInt - 1 → gn (ga C 244) i = gn (ga m 244) i)
    (ho : opI y.toInt) (hn : ¬ y.toInt = 43) (hr : ∀ q, s.head? = some q → rkI q < rkI y.toInt) (k3 : ph' = 0 → ¬ rkI y.toInt = 4 ∧ (ph = 0 ∨ rkI y.toInt ≤ 3)) (k4 : ¬ bg' = 0 → rkI y.toInt ≤ 3) (sg : ¬ (gi m 221 3).toInt = 0) : ∃ l', PI mr m' fm l' 0 ∧ (gi m 221 4).toInt < (gi m' 221 4).toInt := by
  have pp := PI_pp hm h
  have rg := PI_rg hm h
  have gt := ah_gt Q h.1.2.1 (fr_gi F rfl) sg
  have gl := gl_247 hm
  have FF : fr [243, 244, 247] [3, 4, 5, 6, 7, 12, 44, 45] m m' := fr_tr (fr_up F rfl rfl) (fr_tr (fr_up Q.1 rfl rfl) (fr_up F2 rfl rfl))
  have G : ∀ k, ¬ k = 221 → [243, 244, 247].contains k = false → ga m' k = ga m k := fun k a b => fr_ga FF a b
  have GC : ∀ k, ¬ k = 221 → ga m' k = ga C k := fun k a => (fr_ga F2 a rfl).trans (fr_ga Q.1 a rfl)
  have I : ∀ i, [3, 4, 5, 6, 7, 12, 44, 45].contains i = false → gi m' 221 i = gi m 221 i := fun i a => fr_gi FF a
  have f44 : (gi m' 221 44).toInt = (gi m 221 44).toInt + 1 := by rw [fr_gi F2 rfl, fr_gi Q.1 rfl, e44]; exact v44
  have f4 : gi m' 221 4 = gi m1 221 4 := fr_gi F2 rfl
  have h8 : fk m' = 0 := by show (gi m' 221 8).toInt = 0; rw [I 8 rfl]; exact h.1.2.2.1
  have g' : ga m' 247 = (ga m 247).set x.toNatClampNeg y := (GC 247 (by decide)).trans g
  obtain ⟨⟨r1, r2, r3, r4, r5⟩, r6, r7⟩ := h.2.1.1
  have okf := h.2.1.2.1 _ List.mem_cons_self
  have hd := h.2.2.2.1
  have nj : (s.length : Int) ≤ (gi m 221 44).toInt := by
    have e := (rp_D r7 (fun g hg => h.2.1.2.1 g (List.mem_cons_of_mem _ hg))).2.1
    simp only at e
    omega
  have nne : nn (y.toInt :: s) = nn s := by
    show (if y.toInt = 43 then 1 else 0) + nn s = nn s
    rw [if_neg hn]; omega
  have nbe : nb (y.toInt :: s) = 1 + nb s := by
    show (if y.toInt = 43 then 0 else 1) + nb s = _
    rw [if_neg hn]
  have hSe : hS ((k, p, ph', bg', y.toInt :: s) :: r) + 0 = hS ((k, p, ph, bg, s) :: r) + 1 := by
    show nb (y.toInt :: s) + arF (k, p, ph, bg, s) + hS r + 0 = nb s + arF (k, p, ph, bg, s) + hS r + 1
    rw [nbe]; omega
  have ch : chn (y.toInt :: s) := by
    cases s with
    | nil => trivial
    | cons b t => exact ⟨Or.inl (hr b rfl), okf.1⟩
  refine ⟨(k, p, ph', bg', y.toInt :: s) :: r, PI_hd (f' := (k, p, ph', bg', y.toInt :: s)) hm h (fr_up FF rfl rfl) (kB_tr h.1.1 (kB_fr FF rfl rfl rfl rfl rfl rfl rfl rfl)) (tOK_fr F2 rfl rfl rfl rfl (by omega) ⟨Q.2.1, by rw [show fk m1 = fk m' from by show (gi m1 221 8).toInt = (gi m' 221 8).toInt; rw [fr_gi F2 rfl]]; omega⟩) h8 (fun k hk i i0 i1 => ?_) (fun i i0 i1 => ?_) (by rw [G 242 (by decide) rfl]; exact r1) (by rw [G 245 (by decide) rfl]; exact r2) (by rw [GC 243 (by decide)]; exact g3.1) (by rw [GC 244 (by decide)]; exact g4.1) (fun i hi => ?_) ?_ ?_ (by rw [I 42 rfl]; omega) ⟨ch, ?_, ?_, ?_⟩ ?_ (fun q => by omega) (by rw [I 33 rfl]; omega) ?_ ?_, by rw [f4]; exact gt⟩
  · rcases hk with rfl | rfl | rfl | rfl
    · rw [G 242 (by decide) rfl]
    · rw [GC 243 (by decide)]; exact g3.2 i i0 i1
    · rw [GC 244 (by decide)]; exact g4.2 i i0 i1
    · rw [G 245 (by decide) rfl]
  · rw [g', gn_set hx (by omega) (by omega) i0, if_neg (by simp only at i1; omega)]
  · rw [g', f44]
    cases i with
    | zero =>
      rw [gn_set hx (by omega) (by omega) (by omega), if_pos (by omega)]
      rfl
    | succ j =>
      have lj : j < s.length := by simp only [List.length_cons] at hi; omega
      rw [gn_set hx (by omega) (by omega) (by omega), if_neg (by omega), show (gi m 221 44).toInt + 1 - 1 - ((j + 1 : Nat) : Int) = (gi m 221 44).toInt - 1 - (j : Int) by omega]
      exact r6 j lj
  · rw [f44]; simp only [List.length_cons]; omega
  · rw [I 42 rfl, nne]; simp only; omega
  · intro z hz
    rcases List.mem_cons.1 hz with q | q
    · rw [q]; exact ho
    · exact okf.2.1 z q
  · intro w z hz
    have k := k3 w
    rcases List.mem_cons.1 hz with q | q
    · rw [q]; exact k.1
    · rcases k.2 with u | u
      · exact okf.2.2.1 u z q
      · have := chn_le ch z q
        omega
  · intro w z hz
    have k := k4 w
    rcases List.mem_cons.1 hz with q | q
    · rw [q]; exact k
    · have := chn_le ch z q
      omega
  · have := h.2.1.2.2
    cases r with
    | nil => exact this
    | cons a b => exact this
  · rw [f44, I 33 rfl, f4]
    have := hd.1.2.2
    omega
  · rw [G 238 (by decide) rfl, I 33 rfl, hSe]; exact hd.2
theorem PI_com {mr m C m1 m' : zM} {fm k p ph bg k' : Int} {r : List Fm} {x v z : Int32} (hm : aTm aT0 m) (h : PI mr m fm ((k, p, ph, bg, []) :: r) 1) (F : fr [242, 243] [] m C) (Q : ahQ C m1) (F2 : fr [] [45] m1 m') (g2 : ga C 242 = (ga m 242).set x.toNatClampNeg v) (g3 : ga C 243 = (ga m 243).set x.toNatClampNeg z) (hz : z.toInt = 0) (hv : v.toInt = k') (hx : x.toInt = (gi m 221 41).toInt - 1) (hk : (k = 3 ∧ k' = 4) ∨ (k = 6 ∧ k' = 3)) (sg : ¬ (gi m 221 3).toInt = 0) : ∃ l', PI mr m' fm l' 0 ∧ (gi m 221 4).toInt < (gi m' 221 4).toInt := by
  have pp := PI_pp hm h
  have gt := ah_gt Q h.1.2.1 (fr_gi F rfl) sg
  have gl2 := gl_242 hm
  have gl3 := gl_243 hm
  have FF : fr [242, 243] [3, 4, 5, 6, 7, 12, 45] m m' := fr_tr (fr_up F rfl rfl) (fr_tr (fr_up Q.1 rfl rfl) (fr_up F2 rfl rfl))
  have G : ∀ k, ¬ k = 221 → [242, 243].contains k = false → ga m' k = ga m k := fun k a b => fr_ga FF a b
  have GC : ∀ k, ¬ k = 221 → ga m' k = ga C k := fun k a => (fr_ga F2 a rfl).trans (fr_ga Q.1 a rfl)
  have I : ∀ i, [3, 4, 5, 6, 7, 12, 45].contains i = false → gi m' 221 i = gi m 221 i := fun i a => fr_gi FF a
  have f4 : gi m' 221 4 = gi m1 221 4 := fr_gi F2 rfl
  have h8 : fk m' = 0 := by show (gi m' 221 8).toInt = 0; rw [I 8 rfl]; exact h.1.2.2.1
  obtain ⟨⟨r1, r2, r3, r4, r5⟩, r6, r7⟩ := h.2.1.1
  have okf := h.2.1.2.1 _ List.mem_cons_self
  have hd := h.2.2.2.1
  have kk := h.2.1.2.2
  have bg0 : bg = 0 := h.2.2.2.2.2 rfl _ rfl
  cases r with
  | nil =>
    have : 0 ≤ k ∧ k ≤ 1 := kk
    omega
  | cons a b =>
    have kk' : (2 ≤ k ∧ k ≤ 6) ∧ (k = 3 ∨ k = 4 → p = 36 ∨ p = 37 ∨ p = 44) ∧ (k = 6 → p = 44) ∧ kd (a :: b) := kk
    have ar : arF (k', p, 0, bg, []) = arF (k, p, ph, bg, []) + 1 := by
      show (if k' = 4 then (if p = 44 then (2 : Int) else 1) else if k' = 3 then (if p = 44 then 1 else 0) else 0) = (if k = 4 then (if p = 44 then (2 : Int) else 1) else if k = 3 then (if p = 44 then 1 else 0) else 0) + 1
      rcases hk with ⟨e1, e2⟩ | ⟨e1, e2⟩
      · rw [e1, e2]
        by_cases q : p = 44
        · rw [q]; decide
        · simp [q]
      · rw [e1, e2, kk'.2.2.1 e1]; decide
    have hSe : hS ((k', p, 0, bg, []) :: a :: b) + 0 = hS ((k, p, ph, bg, []) :: a :: b) + 1 := by
      show nb [] + arF (k', p, 0, bg, []) + hS (a :: b) + 0 = nb [] + arF (k, p, ph, bg, []) + hS (a :: b) + 1
      rw [ar]; omega
    refine ⟨(k', p, 0, bg, []) :: a :: b, PI_hd (f' := (k', p, 0, bg, [])) hm h (fr_up FF rfl rfl) (kB_tr h.1.1 (kB_fr FF rfl rfl rfl rfl rfl rfl rfl rfl)) (tOK_fr F2 rfl rfl rfl rfl (by omega) ⟨Q.2.1, by rw [show fk m1 = fk m' from by show (gi m1 221 8).toInt = (gi m' 221 8).toInt; rw [fr_gi F2 rfl]]; omega⟩) h8 (fun k hk i i0 i1 => ?_) (fun i i0 i1 => by rw [G 247 (by decide) rfl]) (by rw [GC 242 (by decide), g2, gn_set hx (by omega) (by omega) (by omega), if_pos rfl]; exact hv) (by rw [G 245 (by decide) rfl]; exact r2) (by rw [GC 243 (by decide), g3, gn_set hx (by omega) (by omega) (by omega), if_pos rfl]; exact hz) (by rw [G 244 (by decide) rfl]; exact r4) (fun i hi => absurd hi (Nat.not_lt_zero _)) ?_ ?_ (by rw [I 42 rfl]; omega) ⟨trivial, fun o ho => absurd ho List.not_mem_nil, fun _ o ho => absurd ho List.not_mem_nil, fun _ o ho => absurd ho List.not_mem_nil⟩ ⟨?_, ?_, ?_, kk'.2.2.2⟩ (fun q => by omega) (by rw [I 33 rfl]; omega) ?_ ?_, by rw [f4]; exact gt⟩
    · rcases hk with rfl | rfl | rfl | rfl
      · rw [GC 242 (by decide), g2, gn_set hx (by omega) (by omega) i0, if_neg (by omega)]
      · rw [GC 243 (by decide), g3, gn_set hx (by omega) (by omega) i0, if_neg (by omega)]
      · rw [G 244 (by decide) rfl]
      · rw [G 245 (by decide) rfl]
    · rw [I 44 rfl]; simp only; omega
    · rw [I 42 rfl]; simp only; omega
    · show 2 ≤ k' ∧ k' ≤ 6
      omega
    · intro _
      show p = 36 ∨ p = 37 ∨ p = 44
      rcases hk with ⟨e1, -⟩ | ⟨e1, -⟩
      · exact kk'.2.1 (Or.inl e1)
      · exact Or.inr (Or.inr (kk'.2.2.1 e1))
    · intro w
      have w' : k' = 6 := w
      omega
    · rw [I 44 rfl, I 33 rfl, f4]
      have := hd.1.2.2
      omega
    · rw [G 238 (by decide) rfl, I 33 rfl, hSe]; exact hd.2
theorem PI_cls {mr m C m' : zM} {fm k p ph bg : Int} {r : List Fm} (hm : aTm aT0 m) (h : PI mr m fm ((k, p, ph, bg, []) :: r) 1) (F : fr [238, 239, 243] [33, 41, 42] m C) (Q : ahQ C m') (e41 : (gi C 221 41).toInt = (gi m 221 41).toInt - 1) (e42 : (gi C 221 42).toInt = (gi m 221 42).toInt - 1) (hk : k = 2 ∨ k = 4 ∨ k = 5)
    (hc : (¬ k = 4 ∧ gi C 221 33 = gi m 221 33 ∧ ga C 238 = ga m 238 ∧ ga C 239 = ga m 239) ∨ (k = 4 ∧ (gi C 221 33).toInt = (gi m 221 33).toInt + 1 ∧ ∃ x y x9 z9 : Int32, x.toInt = 1600 * (gi m 221 34).toInt + (gi m 221 33).toInt ∧ y.toInt = gn (ga m 245) ((gi m 221 41).toInt - 1) ∧ ga C 238 = (ga m 238).set x.toNatClampNeg y ∧ x9.toInt = 1600 * (gi m 221 34).toInt + (gi m 221 33).toInt ∧ ga C 239 = (ga m 239).set x9.toNatClampNeg z9))
    (h3 : ga C 243 = ga m 243 ∨ ∃ x : Int32, x.toInt = (gi m 221 41).toInt - 2 ∧ ga C 243 = (ga m 243).set x.toNatClampNeg 2) (sg : ¬ (gi m 221 3).toInt = 0) : ∃ l', PI mr m' fm l' 1 ∧ (gi m 221 4).toInt < (gi m' 221 4).toInt := by
  have pp := PI_pp hm h
  have rg := PI_rg hm h
  have gt := ah_gt Q h.1.2.1 (fr_gi F rfl) sg
  have gl3 := gl_243 hm
  have FF : fr [238, 239, 243] [3, 4, 5, 6, 7, 12, 33, 41, 42] m m' := fr_tr (fr_up F rfl rfl) (fr_up Q.1 rfl rfl)
  have G : ∀ k, ¬ k = 221 → [238, 239, 243].contains k = false → ga m' k = ga m k := fun k a b => fr_ga FF a b
  have GC : ∀ k, ¬ k = 221 → ga m' k = ga C k := fun k a => fr_ga Q.1 a rfl
  have I : ∀ i, [3, 4, 5, 6, 7, 12, 33, 41, 42].contains i = false → gi m' 221 i = gi m 221 i := fun i a => fr_gi FF a
  have f41 : (gi m' 221 41).toInt = (gi m 221 41).toInt - 1 := by rw [fr_gi Q.1 rfl]; exact e41
  have f42 : (gi m' 221 42).toInt = (gi m 221 42).toInt - 1 := by rw [fr_gi Q.1 rfl]; exact e42
  have f33 : gi m' 221 33 = gi C 221 33 := fr_gi Q.1 rfl
  have h8 : fk m' = 0 := by show (gi m' 221 8).toInt = 0; rw [I 8 rfl]; exact h.1.2.2.1
  have hh := h
  obtain ⟨⟨a1, a2, a3, a4⟩, ⟨b1, b2, b3⟩, ⟨c1, c2⟩, ⟨d1, d2⟩, u1, u2⟩ := h
  obtain ⟨⟨r1, r2, r3, r4, r5⟩, r6, r7⟩ := b1
  cases r with
  | nil =>
    have : 0 ≤ k ∧ k ≤ 1 := b3
    omega
  | cons a b =>
    obtain ⟨ka, pa, pha, bga, opa⟩ := a
    have kk' : (2 ≤ k ∧ k ≤ 6) ∧ (k = 3 ∨ k = 4 → p = 36 ∨ p = 37 ∨ p = 44) ∧ (k = 6 → p = 44) ∧ kd ((ka, pa, pha, bga, opa) :: b) := b3
    have okr : okL ((ka, pa, pha, bga, opa) :: b) := fun g hg => b2 g (List.mem_cons_of_mem _ hg)
    have okb : okL b := fun g hg => okr g (List.mem_cons_of_mem _ hg)
    have oka := okr _ List.mem_cons_self
    have i34 : gi m' 221 34 = gi m 221 34 := I 34 rfl
    have i13 : gi m' 221 13 = gi m 221 13 := I 13 rfl
    have hi : inI m' = inI m := by show (gi m' 221 34).toInt = _; rw [i34]
    have hSl : hS ((k, p, ph, bg, []) :: (ka, pa, pha, bga, opa) :: b) = arF (k, p, ph, bg, []) + hS ((ka, pa, pha, bga, opa) :: b) := by
      show 0 + arF (k, p, ph, bg, []) + hS ((ka, pa, pha, bga, opa) :: b) = _
      omega
    have hSb := hS_b okr
    have are : arF (k, p, ph, bg, []) = (if k = 4 then (if p = 44 then (2 : Int) else 1) else if k = 3 then (if p = 44 then 1 else 0) else 0) := rfl
    have KH : kB mr m' ∧ ((gi m 221 33).toInt ≤ (gi m' 221 33).toInt ∧ (gi m' 221 33).toInt ≤ (gi m 221 33).toInt + 1) ∧ hgt (ga m' 238) (1600 * inI m + fm).toNat ((gi m' 221 33).toInt - fm).toNat = some (hS ((ka, pa, pha, bga, opa) :: b) + 1).toNat := by
      rcases hc with ⟨n4, q33, q238, q239⟩ | ⟨k4, q33, x, y, x9, z9, hx, hy, q238, hx9, q239⟩
      · have z : arF (k, p, ph, bg, []) = 0 := by rw [are, if_neg n4, if_neg (by omega)]
        have G238 : ga m' 238 = ga m 238 := (GC 238 (by decide)).trans q238
        have G239 : ga m' 239 = ga m 239 := (GC 239 (by decide)).trans q239
        refine ⟨⟨fr_tr a1.1 (fr_up FF rfl rfl), fun k hk => ?_, fun k hk w _ _ => ?_, fun i z1 z2 => ?_, by rw [f33, q33]; exact a1.2.2.2.2.1, fun i z1 z2 => ?_, fun i z1 z2 => ?_, fun i z1 z2 => ?_⟩, by rw [f33, q33]; omega, ?_⟩
        · rw [G k (by omega) (by rcases hk with rfl | rfl <;> decide)]; exact a1.2.1 k hk
        · rw [G k (by omega) (by rcases hk with rfl | rfl <;> decide)]; exact a1.2.2.1 k hk w (by assumption) (by assumption)
        · rw [G238]; exact a1.2.2.2.1 i z1 z2
        · rw [G238]; exact a1.2.2.2.2.2.1 i z1 z2
        · rw [G239]; exact a1.2.2.2.2.2.2.1 i z1 z2
        · rw [G239]; exact a1.2.2.2.2.2.2.2 i z1 z2
        · rw [G238, f33, q33]
          rw [hSl, z, show 0 + hS ((ka, pa, pha, bga, opa) :: b) + 1 = hS ((ka, pa, pha, bga, opa) :: b) + 1 by omega] at d2
          exact d2
      · have pv := kk'.2.1 (Or.inr k4)
        have yp : y.toInt = p := hy.trans r2
        have q33' : (gi m' 221 33).toInt = (gi m 221 33).toInt + 1 := by rw [f33]; exact q33
        have arv : arF (k, p, ph, bg, []) = (if p = 44 then (2 : Int) else 1) := by rw [are, if_pos k4]
        have hst1 : hst y (hS ((k, p, ph, bg, []) :: (ka, pa, pha, bga, opa) :: b) + 1).toNat = some (hS ((ka, pa, pha, bga, opa) :: b) + 1).toNat := by
          rw [hSl, arv]
          unfold hst
          rw [if_neg (by omega), if_neg (by omega)]
          by_cases q : p = 44
          · rw [if_pos (by omega), if_pos q, if_pos (by omega)]
            congr 1
            omega
          · rw [if_neg (by omega), if_neg q, if_pos (by omega)]
            congr 1
            omega
        have cd := cd_add hm hh (fr_up FF rfl rfl) q33' hx ((GC 238 (by decide)).trans q238) hx9 ((GC 239 (by decide)).trans q239) hst1
        exact ⟨cd.1, by omega, cd.2⟩
    obtain ⟨kb, l33, hgt'⟩ := KH
    have n0 : (gi m 221 44).toInt - (((k, p, ph, bg, []) : Fm).2.2.2.2.length : Int) = (gi m 221 44).toInt := by
      show _ - ((0 : Nat) : Int) = _
      omega
    rw [n0] at r7
    obtain ⟨⟨t1, t2, t3, t4, t5⟩, t6, t7⟩ := r7
    have nSl : nS ((k, p, ph, bg, []) :: (ka, pa, pha, bga, opa) :: b) = nS ((ka, pa, pha, bga, opa) :: b) := by
      show 0 + nS ((ka, pa, pha, bga, opa) :: b) = _
      omega
    have bga0 : bga = 0 := u1 (ka, pa, pha, bga, opa) List.mem_cons_self
    have key : ∀ ph' : Int, gn (ga m' 243) ((gi m 221 41).toInt - 1 - 1) = ph' → (∀ i, 0 ≤ i → i < (gi m 221 41).toInt - 1 - 1 → gn (ga m' 243) i = gn (ga m 243) i) → (ph' = pha ∨ ph' = 2) → ∃ l', PI mr m' fm l' 1 ∧ (gi m 221 4).toInt < (gi m' 221 4).toInt := by
      intro ph' z1 z2 z3
      refine ⟨(ka, pa, ph', bga, opa) :: b, ⟨⟨kb, ⟨Q.2.1, by omega⟩, h8, ?_⟩, ⟨⟨⟨by rw [f41, G 242 (by decide) rfl]; exact t1, by rw [f41, G 245 (by decide) rfl]; exact t2, by rw [f41]; exact z1, by rw [f41, G 244 (by decide) rfl]; exact t4, by rw [f41, G 246 (by decide) rfl, I 44 rfl]; exact t5⟩, fun i hi => by rw [G 247 (by decide) rfl, I 44 rfl]; exact t6 i hi, ?_⟩, ?_, ?_⟩, ⟨?_, by omega⟩, ⟨⟨d1.1, by omega, ?_⟩, by rw [hi]; exact hgt'⟩, fun f hf => u1 f (List.mem_cons_of_mem _ hf), fun _ f hf => ?_⟩, gt⟩
      · show (gi m' 221 34).toInt = 1 - (gi m' 221 13).toInt
        rw [i34, i13]; exact a4
      · rw [f41, I 44 rfl]
        exact rp_eq t7 okb (fun k q i i0 i1 => by
          by_cases w : k = 243
          · rw [w]; exact z2 i i0 i1
          · rw [G k (by omega) (by rcases q with rfl | rfl | rfl | rfl | rfl <;> first | rfl | exact absurd rfl w)]) (fun i _ _ => by rw [G 247 (by decide) rfl])
      · intro f hf
        rcases List.mem_cons.1 hf with q | q
        · rw [q]
          refine ⟨oka.1, oka.2.1, fun w => ?_, oka.2.2.2⟩
          rcases z3 with v | v
          · exact oka.2.2.1 (v ▸ w)
          · have w' : ph' = 0 := w
            omega
        · exact okb f q
      · have := kk'.2.2.2
        cases b with
        | nil => exact this
        | cons c e => exact this
      · rw [f42, c1, nSl]
        have : nS ((ka, pa, ph', bga, opa) :: b) = nS ((ka, pa, pha, bga, opa) :: b) := rfl
        rw [this]
        simp only [List.length_cons]
        omega
      · rw [f41, I 44 rfl]
        have := d1.2.2
        omega
      · simp only [List.head?_cons, Option.some.injEq] at hf
        rw [← hf]
        exact bga0
    have e243 := GC 243 (by decide)
    rcases h3 with q | ⟨x, x1, x2⟩
    · exact key pha (by rw [e243, q]; exact t3) (fun i _ _ => by rw [e243, q]) (Or.inl rfl)
    · have x1' : x.toInt = (gi m 221 41).toInt - 1 - 1 := by omega
      have le : 2 ≤ (gi m 221 41).toInt := by
        have e := rg.1
        simp only [List.length_cons] at e
        omega
      exact key 2 (by rw [e243, x2, gn_set x1' (by omega) (by omega) (by omega), if_pos rfl]; rfl) (fun i i0 i1 => by rw [e243, x2, gn_set x1' (by omega) (by omega) i0, if_neg (by omega)]) (Or.inr rfl)
