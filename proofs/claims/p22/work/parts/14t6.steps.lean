/-! what an operand does to the frames -/
theorem tOK_fr {ks is : List Nat} {m m' : zM} (F : fr ks is m m') (h2 : is.contains 2 = false) (h3 : is.contains 3 = false) (h4 : is.contains 4 = false) (h5 : is.contains 5 = false) (h8 : 0 ≤ fk m') (h : tOK m) : tOK m' := by
  refine ⟨?_, h8⟩
  unfold tkO
  rw [fr_gi F h2, fr_gi F h3, fr_gi F h4, fr_gi F h5]
  exact h.1
theorem PI_pp {mr m : zM} {fm op : Int} {l : List Fm} (hm : aTm aT0 m) (h : PI mr m fm l op) : (1 ≤ (gi m 221 41).toInt ∧ (gi m 221 41).toInt ≤ 8) ∧ (0 ≤ (gi m 221 44).toInt ∧ (gi m 221 44).toInt ≤ 60) ∧ (0 ≤ (gi m 221 33).toInt ∧ (gi m 221 33).toInt ≤ 1599) ∧ (0 ≤ (gi m 221 42).toInt ∧ (gi m 221 42).toInt ≤ 7) ∧ (gi m 221 5).toInt ≤ (gi m 221 2).toInt ∧ (gi m 221 8).toInt = 0 ∧ ((gi m 221 4).toInt ≤ (gi m 221 5).toInt ∧ ((gi m 221 3).toInt = 0 ∨ (gi m 221 4).toInt < (gi m 221 5).toInt)) := by
  have rg := PI_rg hm h
  have h8 : (gi m 221 8).toInt = 0 := h.1.2.2.1
  have t := h.1.2.1.1
  have c := h.2.2.1.2
  have e := h.2.2.2.1.1
  unfold tkO at t
  omega
/-- behind a step over a sign that is no end -/
theorem ah_gt {m C m' : zM} (Q : ahQ C m') (T : tOK m) (e5 : gi C 221 5 = gi m 221 5) (sg : ¬ (gi m 221 3).toInt = 0) : (gi m 221 4).toInt < (gi m' 221 4).toInt := by
  have q := Q.2.2
  have t := T.1
  unfold tkO at t
  rw [e5] at q
  omega
theorem PI_not {mr m C m' : zM} {fm : Int} {l : List Fm} {x x42 x44 : Int32} (hm : aTm aT0 m) (h : PI mr m fm l 0) (F : fr [247] [42, 44] m C) (Q : ahQ C m') (e42 : gi C 221 42 = x42) (e44 : gi C 221 44 = x44) (v42 : x42.toInt = (gi m 221 42).toInt + 1) (v44 : x44.toInt = (gi m 221 44).toInt + 1) (g : ga C 247 = (ga m 247).set x.toNatClampNeg 43) (hx : x.toInt = (gi m 221 44).toInt) (l42 : (gi m 221 42).toInt < 7) (sg : ¬ (gi m 221 3).toInt = 0) (bg : ¬ gn (ga m 244) ((gi m 221 41).toInt - 1) = 0) : ∃ l', PI mr m' fm l' 0 ∧ (gi m 221 4).toInt < (gi m' 221 4).toInt := by
  have pp := PI_pp hm h
  have gt := ah_gt Q h.1.2.1 (fr_gi F rfl) sg
  have gl := gl_247 hm
  cases l with
  | nil => exact h.2.1.2.2.elim
  | cons f r =>
    obtain ⟨k, p, ph, bgn, ops⟩ := f
    have FF : fr [247] [3, 4, 5, 6, 7, 12, 42, 44] m m' := fr_tr (fr_up F rfl rfl) (fr_up Q.1 rfl rfl)
    have G : ∀ k, ¬ k = 221 → [247].contains k = false → ga m' k = ga m k := fun k a b => fr_ga FF a b
    have I : ∀ i, [3, 4, 5, 6, 7, 12, 42, 44].contains i = false → gi m' 221 i = gi m 221 i := fun i a => fr_gi FF a
    have g' : ga m' 247 = (ga m 247).set x.toNatClampNeg 43 := (fr_ga Q.1 (by decide) rfl).trans g
    have f42 : (gi m' 221 42).toInt = (gi m 221 42).toInt + 1 := by rw [fr_gi Q.1 rfl, e42]; exact v42
    have f44 : (gi m' 221 44).toInt = (gi m 221 44).toInt + 1 := by rw [fr_gi Q.1 rfl, e44]; exact v44
    have h8 : fk m' = 0 := by show (gi m' 221 8).toInt = 0; rw [I 8 rfl]; exact h.1.2.2.1
    obtain ⟨⟨r1, r2, r3, r4, r5⟩, r6, r7⟩ := h.2.1.1
    have okf := h.2.1.2.1 _ List.mem_cons_self
    have hd := h.2.2.2.1
    have bg' : ¬ bgn = 0 := fun q => bg (r4.trans q)
    have nne : nn (43 :: ops) = 1 + nn ops := rfl
    have hSe : hS ((k, p, ph, bgn, 43 :: ops) :: r) = hS ((k, p, ph, bgn, ops) :: r) := by
      show (0 + nb ops) + arF (k, p, ph, bgn, ops) + hS r = nb ops + arF (k, p, ph, bgn, ops) + hS r
      omega
    refine ⟨(k, p, ph, bgn, 43 :: ops) :: r, PI_hd (f' := (k, p, ph, bgn, 43 :: ops)) hm h (fr_up FF rfl rfl) (kB_tr h.1.1 (kB_fr FF rfl rfl rfl rfl rfl rfl rfl rfl)) ⟨Q.2.1, by omega⟩ h8 (fun k hk i _ _ => by rw [G k (by omega) (by rcases hk with rfl | rfl | rfl | rfl <;> rfl)]) (fun i i0 i1 => ?_) (by rw [G 242 (by decide) rfl]; exact r1) (by rw [G 245 (by decide) rfl]; exact r2) (by rw [G 243 (by decide) rfl]; exact r3) (by rw [G 244 (by decide) rfl]; exact r4) (fun i hi => ?_) ?_ ?_ (by omega) ⟨?_, ?_, ?_, ?_⟩ ?_ (fun q => by omega) (by rw [I 33 rfl]; omega) ?_ ?_, gt⟩
    · rw [g', gn_set hx (by omega) (by omega) i0, if_neg (by simp only at i1; omega)]
    · rw [g', f44]
      cases i with
      | zero =>
        rw [gn_set hx (by omega) (by omega) (by omega), if_pos (by omega)]
        rfl
      | succ j =>
        have lj : j < ops.length := by simp only [List.length_cons] at hi; omega
        have rj := r6 j lj
        have nj : (ops.length : Int) ≤ (gi m 221 44).toInt := by
          have := rp_D r7 (fun g hg => h.2.1.2.1 g (List.mem_cons_of_mem _ hg))
          have e := this.2.1
          simp only at e
          omega
        rw [gn_set hx (by omega) (by omega) (by omega), if_neg (by omega), show (gi m 221 44).toInt + 1 - 1 - ((j + 1 : Nat) : Int) = (gi m 221 44).toInt - 1 - (j : Int) by omega]
        exact rj
    · rw [f44]; simp only [List.length_cons]; omega
    · rw [f42, nne]; simp only; omega
    · cases ops with
      | nil => trivial
      | cons b t =>
        refine ⟨?_, okf.1⟩
        have rb := okf.2.2.2 bg' b List.mem_cons_self
        by_cases q : rkI b = 3
        · exact Or.inr ⟨rfl, rk_3 q⟩
        · exact Or.inl (by show rkI b < 3; omega)
    · intro z hz
      rcases List.mem_cons.1 hz with q | q
      · rw [q]; exact Or.inr (by omega)
      · exact okf.2.1 z q
    · intro w z hz
      rcases List.mem_cons.1 hz with q | q
      · rw [q]; decide
      · exact okf.2.2.1 w z q
    · intro w z hz
      rcases List.mem_cons.1 hz with q | q
      · rw [q]; decide
      · exact okf.2.2.2 w z q
    · have := h.2.1.2.2
      cases r with
      | nil => exact this
      | cons a b => exact this
    · rw [f44, I 33 rfl]; omega
    · rw [G 238 (by decide) rfl, I 33 rfl, hSe]; exact hd.2
theorem PI_bg {mr m m' : zM} {fm : Int} {l : List Fm} {x : Int32} (hm : aTm aT0 m) (h : PI mr m fm l 0) (F : fr [244] [] m m') (g : ga m' 244 = (ga m 244).set x.toNatClampNeg 0) (hx : x.toInt = (gi m 221 41).toInt - 1) : ∃ l', PI mr m' fm l' 0 ∧ ∀ f, l'.head? = some f → f.2.2.2.1 = 0 := by
  have pp := PI_pp hm h
  have gl := gl_244 hm
  cases l with
  | nil => exact h.2.1.2.2.elim
  | cons f r =>
    obtain ⟨k, p, ph, bgn, ops⟩ := f
    have G : ∀ k, ¬ k = 221 → [244].contains k = false → ga m' k = ga m k := fun k a b => fr_ga F a b
    have I : ∀ i, gi m' 221 i = gi m 221 i := fun i => fr_gi F rfl
    have h8 : fk m' = 0 := by show (gi m' 221 8).toInt = 0; rw [I 8]; exact h.1.2.2.1
    obtain ⟨⟨r1, r2, r3, r4, r5⟩, r6, r7⟩ := h.2.1.1
    have okf := h.2.1.2.1 _ List.mem_cons_self
    have hd := h.2.2.2.1
    refine ⟨(k, p, ph, 0, ops) :: r, PI_hd (f' := (k, p, ph, 0, ops)) hm h (fr_up F rfl rfl) (kB_tr h.1.1 (kB_fr F rfl rfl rfl rfl rfl rfl rfl rfl)) (tOK_fr F rfl rfl rfl rfl (by omega) h.1.2.1) h8 (fun k hk i i0 i1 => ?_) (fun i i0 i1 => by rw [G 247 (by decide) rfl]) (by rw [G 242 (by decide) rfl]; exact r1) (by rw [G 245 (by decide) rfl]; exact r2) (by rw [G 243 (by decide) rfl]; exact r3) ?_ (fun i hi => by rw [G 247 (by decide) rfl, I 44]; exact r6 i hi) ?_ ?_ (by rw [I 42]; omega) ⟨okf.1, okf.2.1, okf.2.2.1, fun q => absurd rfl q⟩ ?_ (fun q => by omega) (by rw [I 33]; omega) ?_ ?_, fun f hf => ?_⟩
    · by_cases q : k = 244
      · rw [q, g, gn_set hx (by omega) (by omega) i0, if_neg (by omega)]
      · rw [G k (by omega) (by rcases hk with rfl | rfl | rfl | rfl <;> first | rfl | exact absurd rfl q)]
    · rw [g, gn_set hx (by omega) (by omega) (by omega), if_pos rfl]; rfl
    · rw [I 44]; simp only; omega
    · rw [I 42]; simp only; omega
    · have := h.2.1.2.2
      cases r with
      | nil => exact this
      | cons a b => exact this
    · rw [I 33, I 44, I 4]; omega
    · rw [G 238 (by decide) rfl, I 33]; exact hd.2
    · simp only [List.head?_cons, Option.some.injEq] at hf
      rw [← hf]
theorem PI_add {mr m C m' : zM} {fm : Int} {l : List Fm} {x y x33 : Int32} (hm : aTm aT0 m) (h : PI mr m fm l 0) (hb : ∀ f, l.head? = some f → f.2.2.2.1 = 0) (F : fr [238, 239, 243] [33] m C) (Q : ahQ C m') (e33 : gi C 221 33 = x33) (v33 : x33.toInt = (gi m 221 33).toInt + 1) (g : ga C 238 = (ga m 238).set x.toNatClampNeg y) (hx : x.toInt = 1600 * (gi m 221 34).toInt + (gi m 221 33).toInt) (g9 : ∃ x9 z9 : Int32, x9.toInt = 1600 * (gi m 221 34).toInt + (gi m 221 33).toInt ∧ ga C 239 = (ga m 239).set x9.toNatClampNeg z9) (hy : (0 ≤ y.toInt ∧ y.toInt ≤ 6) ∨ y.toInt = 30) (g3 : ga C 243 = ga m 243 ∨ ∃ z : Int32, z.toInt = (gi m 221 41).toInt - 1 ∧ ga C 243 = (ga m 243).set z.toNatClampNeg 2) (sg : ¬ (gi m 221 3).toInt = 0) : ∃ l', PI mr m' fm l' 1 ∧ (gi m 221 4).toInt < (gi m' 221 4).toInt := by
  have pp := PI_pp hm h
  have rg := PI_rg hm h
  have gt := ah_gt Q h.1.2.1 (fr_gi F rfl) sg
  have gl := gl_243 hm
  cases l with
  | nil => exact h.2.1.2.2.elim
  | cons f r =>
    obtain ⟨k, p, ph, bgn, ops⟩ := f
    have FF : fr [238, 239, 243] [3, 4, 5, 6, 7, 12, 33] m m' := fr_tr (fr_up F rfl rfl) (fr_up Q.1 rfl rfl)
    have G : ∀ k, ¬ k = 221 → [238, 239, 243].contains k = false → ga m' k = ga m k := fun k a b => fr_ga FF a b
    have I : ∀ i, [3, 4, 5, 6, 7, 12, 33].contains i = false → gi m' 221 i = gi m 221 i := fun i a => fr_gi FF a
    have g' : ga m' 238 = (ga m 238).set x.toNatClampNeg y := (fr_ga Q.1 (by decide) rfl).trans g
    have e243 : ga m' 243 = ga C 243 := fr_ga Q.1 (by decide) rfl
    have f33 : (gi m' 221 33).toInt = (gi m 221 33).toInt + 1 := by rw [fr_gi Q.1 rfl, e33]; exact v33
    have h8 : fk m' = 0 := by show (gi m' 221 8).toInt = 0; rw [I 8 rfl]; exact h.1.2.2.1
    have bg0 : bgn = 0 := hb _ rfl
    have hst1 : hst y (hS ((k, p, ph, bgn, ops) :: r) + 0).toNat = some (hS ((k, p, ph, bgn, ops) :: r) + 1).toNat := by
      unfold hst
      rw [if_pos (by omega)]
      first
        | (congr 1; omega)
        | (rw [if_pos (by omega)]; congr 1; omega)
    obtain ⟨x9, z9, hx9, e9⟩ := g9
    have cd := cd_add hm h (fr_up FF rfl rfl) f33 hx g' hx9 ((fr_ga Q.1 (by decide) rfl).trans e9) hst1
    obtain ⟨⟨r1, r2, r3, r4, r5⟩, r6, r7⟩ := h.2.1.1
    have okf := h.2.1.2.1 _ List.mem_cons_self
    have key : ∀ ph' : Int, gn (ga m' 243) ((gi m 221 41).toInt - 1) = ph' → (∀ i, 0 ≤ i → i < (gi m 221 41).toInt - 1 → gn (ga m' 243) i = gn (ga m 243) i) → (ph' = ph ∨ ph' = 2) → ∃ l', PI mr m' fm l' 1 ∧ (gi m 221 4).toInt < (gi m' 221 4).toInt := by
      intro ph' u1 u2 u3
      refine ⟨(k, p, ph', bgn, ops) :: r, PI_hd (f' := (k, p, ph', bgn, ops)) hm h (fr_up FF rfl rfl) cd.1 ⟨Q.2.1, by omega⟩ h8 (fun k hk i i0 i1 => ?_) (fun i i0 i1 => by rw [G 247 (by decide) rfl]) (by rw [G 242 (by decide) rfl]; exact r1) (by rw [G 245 (by decide) rfl]; exact r2) u1 (by rw [G 244 (by decide) rfl]; exact r4) (fun i hi => by rw [G 247 (by decide) rfl, I 44 rfl]; exact r6 i hi) ?_ ?_ (by rw [I 42 rfl]; omega) ⟨okf.1, okf.2.1, ?_, okf.2.2.2⟩ ?_ (fun _ => bg0) (by omega) ?_ ?_, gt⟩
      · by_cases q : k = 243
        · rw [q]; exact u2 i i0 i1
        · rw [G k (by omega) (by rcases hk with rfl | rfl | rfl | rfl <;> first | rfl | exact absurd rfl q)]
      · rw [I 44 rfl]; simp only; omega
      · rw [I 42 rfl]; simp only; omega
      · intro w
        rcases u3 with q | q
        · exact okf.2.2.1 (q ▸ w)
        · have w' : ph' = 0 := w
          omega
      · have := h.2.1.2.2
        cases r with
        | nil => exact this
        | cons a b => exact this
      · rw [I 44 rfl]
        have := h.2.2.2.1.1.2.2
        omega
      · exact cd.2
    rcases g3 with q | ⟨z, z1, z2⟩
    · exact key ph (by rw [e243, q]; exact r3) (fun i _ _ => by rw [e243, q]) (Or.inl rfl)
    · exact key 2 (by rw [e243, z2, gn_set z1 (by omega) (by omega) (by omega), if_pos rfl]; rfl) (fun i i0 i1 => by rw [e243, z2, gn_set z1 (by omega) (by omega) i0, if_neg (by omega)]) (Or.inr rfl)
theorem PI_opn {mr mem m m5 m' : zM} {fm K : Int} {l : List Fm} (hm : aTm aT0 mem) (h : PI mr mem fm l 0) (hb : ∀ f, l.head? = some f → f.2.2.2.1 = 0) (F : fr [] [3, 4, 5, 6, 7, 8, 9, 12] mem m) (Q : opQ K m m5) (h8 : fk m5 = 0) (F2 : fr [245] [] m5 m') (gA : ∀ i, 0 ≤ i → i < (gi mem 221 41).toInt → gn (ga m' 245) i = gn (ga m5 245) i) (hK : 2 ≤ K ∧ K ≤ 6) (hp : K = 3 ∨ K = 4 → gn (ga m' 245) (gi mem 221 41).toInt = 36 ∨ gn (ga m' 245) (gi mem 221 41).toInt = 37 ∨ gn (ga m' 245) (gi mem 221 41).toInt = 44) (h6 : K = 6 → gn (ga m' 245) (gi mem 221 41).toInt = 44) (ha : arF (K, gn (ga m' 245) (gi mem 221 41).toInt, 0, 1, []) = 0) (hs : (gi mem 221 4).toInt < (gi m5 221 4).toInt) : PI mr m' fm ((K, gn (ga m' 245) (gi mem 221 41).toInt, 0, 1, []) :: l) 0 := by
  have I : ∀ i, gi m' 221 i = gi m5 221 i := fun i => fr_gi F2 rfl
  have G : ∀ k, ¬ k = 221 → [245].contains k = false → ga m' k = ga m5 k := fun k a b => fr_ga F2 a b
  have E41 : gi m 221 41 = gi mem 221 41 := fr_gi F rfl
  have E42 : gi m 221 42 = gi mem 221 42 := fr_gi F rfl
  have E44 : gi m 221 44 = gi mem 221 44 := fr_gi F rfl
  have Ga : ∀ k, ¬ k = 221 → ga m k = ga mem k := fun k a => fr_ga F a rfl
  obtain ⟨q1, q2, q3, q4⟩ := Q
  obtain ⟨-, -, ⟨w1, w2, w3⟩, wA, v1, v3, v4, v5⟩ := q4 h8
  rw [E41] at w1 wA v1 v3 v4 v5
  rw [E42] at w2
  rw [E44] at v5
  have g5 : ga m5 245 = ga mem 245 := (fr_ga q1 (by decide) rfl).trans (Ga 245 (by decide))
  have f8 : fk m' = 0 := by show (gi m' 221 8).toInt = 0; rw [I 8]; exact h8
  refine PI_push hm h hb (fr_tr (fr_up F rfl rfl) (fr_tr (fr_up q1 rfl rfl) (fr_up F2 rfl rfl))) (tOK_fr F2 rfl rfl rfl rfl (by omega) q2) f8 (fun k hk i i0 i1 => ?_) (by rw [G 242 (by decide) rfl]; exact v1) rfl (by rw [G 243 (by decide) rfl]; exact v3) (by rw [G 244 (by decide) rfl]; exact v4) (by rw [G 246 (by decide) rfl]; exact v5) (by rw [I 41]; exact w1) (by rw [I 42]; exact w2) (by rw [I 42]; exact w3) hK hp h6 ha (by rw [I 4]; exact hs)
  rcases hk with rfl | rfl | rfl | rfl | rfl
  · rw [G 242 (by decide) rfl, wA 242 (by decide) i i0 i1, Ga 242 (by decide)]
  · rw [G 243 (by decide) rfl, wA 243 (by decide) i i0 i1, Ga 243 (by decide)]
  · rw [G 244 (by decide) rfl, wA 244 (by decide) i i0 i1, Ga 244 (by decide)]
  · rw [gA i i0 i1, g5]
  · rw [G 246 (by decide) rfl, wA 246 (by decide) i i0 i1, Ga 246 (by decide)]
