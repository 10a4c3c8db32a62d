/-! steps of the frames, by what they do to the machine's; the code that the model has printed -/
def prI (f : Fm) : List Int := if f.1 = 3 ∨ f.1 = 4 ∨ f.1 = 6 then [cpO f.2.1] else []
def abF (f : Fm) : Fr := (f.1, f.2.2.1, f.2.2.2.1, f.2.2.2.2.map clO ++ prI f)
def abL (l : List Fm) : List Fr := l.map abF
def notA : List Fr → List Fr
  | [] => []
  | f :: r => (f.1, f.2.1, f.2.2.1, 22 :: f.2.2.2) :: r
def bgA : List Fr → List Fr
  | [] => []
  | f :: r => (f.1, f.2.1, 0, f.2.2.2) :: r
theorem clO_22 {o : Int} : clO o = 22 ↔ o = 43 := by
  unfold clO
  (repeat' split) <;> omega
theorem cpO_r (p : Int) : rkC (cpO p) = 0 ∧ ¬ cpO p = 22 := by
  unfold cpO
  split
  · exact ⟨rfl, by decide⟩
  · split
    · exact ⟨rfl, by decide⟩
    · exact ⟨rfl, by decide⟩
theorem rk_cl {o : Int} (h : opI o) : rkC (clO o) = rkI o := by
  have k : o = 31 ∨ o = 32 ∨ o = 33 ∨ o = 34 ∨ o = 35 ∨ o = 38 ∨ o = 39 ∨ o = 40 ∨ o = 41 ∨ o = 42 ∨ o = 43 := by
    unfold opI at h
    omega
  rcases k with rfl | rfl | rfl | rfl | rfl | rfl | rfl | rfl | rfl | rfl | rfl <;> rfl
theorem cd_op {o v : Int} (h : opI o) : cdI o v = 10000 + clO o := by
  unfold opI at h
  unfold cdI
  rw [if_neg (by omega), if_neg (by omega), if_neg (by omega), if_neg (by omega), if_neg (by omega), if_neg (by omega), if_neg (by omega), if_neg (by omega), if_neg (by omega)]
theorem cd_pr {o v : Int} (h : o = 36 ∨ o = 37 ∨ o = 44) : cdI o v = 10000 + cpO o := by
  unfold cdI
  rw [if_neg (by omega), if_neg (by omega), if_neg (by omega), if_neg (by omega), if_neg (by omega), if_neg (by omega), if_neg (by omega), if_neg (by omega), if_pos h]
theorem nnC_map : ∀ s : List Int, nnC (s.map clO) = nn s
  | [] => rfl
  | q :: t => by
    show (if clO q = 22 then 1 else 0) + nnC (t.map clO) = (if q = 43 then 1 else 0) + nn t
    rw [nnC_map t]
    by_cases w : q = 43
    · rw [if_pos (clO_22.2 w), if_pos w]
    · rw [if_neg (fun z => w (clO_22.1 z)), if_neg w]
theorem prI_1 {k p ph bg : Int} {s : List Int} (h : k = 3 ∨ k = 4 ∨ k = 6) : prI (k, p, ph, bg, s) = [cpO p] := if_pos h
theorem prI_0 {k p ph bg : Int} {s : List Int} (h : ¬ (k = 3 ∨ k = 4 ∨ k = 6)) : prI (k, p, ph, bg, s) = [] := if_neg h
theorem nn_pr (f : Fm) : nnC (prI f) = 0 := by
  obtain ⟨k, p, ph, bg, s⟩ := f
  by_cases h : k = 3 ∨ k = 4 ∨ k = 6
  · rw [prI_1 h]
    show (if cpO p = 22 then (1 : Int) else 0) + 0 = 0
    rw [if_neg (cpO_r p).2]
    rfl
  · rw [prI_0 h]
    rfl
theorem pr_jn (f : Fm) {L : Int} (hL : 1 ≤ L) : jnE L (prI f) = [] ∧ jnR L (prI f) = prI f := by
  refine jn_lo (fun q hq => ?_)
  obtain ⟨k, p, ph, bg, s⟩ := f
  by_cases h : k = 3 ∨ k = 4 ∨ k = 6
  · rw [prI_1 h] at hq
    cases hq
    have := (cpO_r p).1
    omega
  · rw [prI_0 h] at hq
    cases hq
theorem nts_ab : ∀ l : List Fm, nts (abL l) = nS l
  | [] => rfl
  | f :: r => by
    show nnC (f.2.2.2.2.map clO ++ prI f) + nts (abL r) = nn f.2.2.2.2 + nS r
    rw [nts_ab r, nnC_app, nnC_map, nn_pr]
    omega
theorem opn_ab (l : List Fm) : opn (abL l) = (l.length : Int) - 1 + nS l := by
  unfold opn
  rw [nts_ab, show (abL l).length = l.length from List.length_map _]
theorem abL_not {k p ph bg : Int} {ops : List Int} {r : List Fm} : abL ((k, p, ph, bg, 43 :: ops) :: r) = notA (abL ((k, p, ph, bg, ops) :: r)) := by
  show (k, ph, bg, clO 43 :: (ops.map clO ++ prI (k, p, ph, bg, 43 :: ops))) :: abL r = (k, ph, bg, 22 :: (ops.map clO ++ prI (k, p, ph, bg, ops))) :: abL r
  rw [show clO 43 = 22 from rfl]
  rfl
theorem nn_cons {q : Int} {t : List Int} (h : ¬ q = 43) : nn (q :: t) = nn t := by
  show (if q = 43 then 1 else 0) + nn t = nn t
  rw [if_neg h]
  omega
theorem nn_low : ∀ {s : List Int}, chn s → (∀ q, s.head? = some q → rkI q < 3) → nn s = 0
  | [], _, _ => rfl
  | q :: t, hc, hh => by
    have hq := hh q rfl
    have ne : ¬ q = 43 := fun e => by
      rw [e, show rkI 43 = 3 from rfl] at hq
      omega
    rw [nn_cons ne]
    refine nn_low (chn_t hc) (fun z hz => ?_)
    cases t with
    | nil => cases hz
    | cons a b =>
      cases hz
      have := chn_le hc z List.mem_cons_self
      omega
/-- what has been printed into the bank that is read -/
def mC (m : zM) : List Int := (List.range (gi m 221 33).toInt.toNat).map fun (i : Nat) => cdAt (inI m) (i : Int) m
section MC
variable {m C m' : zM} {x y x9 z : Int32} {ks is : List Nat}
theorem mC_eq (e33 : gi m' 221 33 = gi m 221 33) (e34 : gi m' 221 34 = gi m 221 34) (a : ga m' 238 = ga m 238) (b : ga m' 239 = ga m 239) : mC m' = mC m := by
  unfold mC cdAt inI
  rw [e33, e34, a, b]
theorem mC_fm (F : fr ks is m m') (a : (ks.contains 238 || ks.contains 239) = false) (b : (is.contains 33 || is.contains 34) = false) : mC m' = mC m := mC_eq (fr_gi F (Bool.or_eq_false_iff.mp b).1) (fr_gi F (Bool.or_eq_false_iff.mp b).2) (fr_ga F (by decide) (Bool.or_eq_false_iff.mp a).1) (fr_ga F (by decide) (Bool.or_eq_false_iff.mp a).2)
theorem mC_add (hm : aTm aT0 m) (r33 : 0 ≤ (gi m 221 33).toInt ∧ (gi m 221 33).toInt < 1600) (e33 : (gi m' 221 33).toInt = (gi m 221 33).toInt + 1) (e34 : gi m' 221 34 = gi m 221 34) (hx : x.toInt = 1600 * (gi m 221 34).toInt + (gi m 221 33).toInt) (g : ga m' 238 = (ga m 238).set x.toNatClampNeg y) (hx9 : x9.toInt = 1600 * (gi m 221 34).toInt + (gi m 221 33).toInt) (g9 : ga m' 239 = (ga m 239).set x9.toNatClampNeg z) : mC m' = mC m ++ [cdI y.toInt z.toInt] := by
  have gl := gl_238 hm
  have gl9 := gl_239 hm
  have i0 := mO_r34 hm
  have hc : (gi m' 221 33).toInt.toNat = (gi m 221 33).toInt.toNat + 1 := by omega
  have ei : inI m' = inI m := by
    show (gi m' 221 34).toInt = (gi m 221 34).toInt
    rw [e34]
  have key : ∀ i : Int, 0 ≤ i → i ≤ (gi m 221 33).toInt → cdAt (inI m) i m' = if i = (gi m 221 33).toInt then cdI y.toInt z.toInt else cdAt (inI m) i m := fun i a b => by
    have i1 : inI m = (gi m 221 34).toInt := rfl
    unfold cdAt
    rw [g, g9, gn_set hx (by omega) (by omega) (by omega), gn_set hx9 (by omega) (by omega) (by omega)]
    by_cases q : i = (gi m 221 33).toInt
    · rw [if_pos (by omega), if_pos (by omega), if_pos q]
    · rw [if_neg (by omega), if_neg (by omega), if_neg q]
  unfold mC
  rw [hc, List.range_succ, List.map_append, ei]
  refine congr (congrArg _ (List.map_congr_left fun i hi => ?_)) ?_
  · have hi := List.mem_range.1 hi
    rw [key _ (by omega) (by omega), if_neg (by omega)]
  · show [cdAt (inI m) (((gi m 221 33).toInt.toNat : Nat) : Int) m'] = _
    rw [key _ (by omega) (by omega), if_pos (by omega)]
/-- one code more, and a step over signs -/
theorem mC_adQ {x33 : Int32} (hm : aTm aT0 m) (r33 : 0 ≤ (gi m 221 33).toInt ∧ (gi m 221 33).toInt < 1600) (F : fr ks is m C) (b : is.contains 34 = false) (e33 : gi C 221 33 = x33) (v33 : x33.toInt = (gi m 221 33).toInt + 1) (g : ga C 238 = (ga m 238).set x.toNatClampNeg y) (hx : x.toInt = 1600 * (gi m 221 34).toInt + (gi m 221 33).toInt) (g9 : ga C 239 = (ga m 239).set x9.toNatClampNeg z) (hx9 : x9.toInt = 1600 * (gi m 221 34).toInt + (gi m 221 33).toInt) (Q : ahQ C m') : mC m' = mC m ++ [cdI y.toInt z.toInt] := (mC_fm Q.1 rfl rfl).trans (mC_add hm r33 (by rw [e33]; exact v33) (fr_gi F b) hx g hx9 g9)
theorem mC_fQ (F : fr ks is m C) (a : (ks.contains 238 || ks.contains 239) = false) (b : (is.contains 33 || is.contains 34) = false) (Q : ahQ C m') : mC m' = mC m := (mC_fm Q.1 rfl rfl).trans (mC_fm F a b)
end MC
theorem PI_notF {mr m C m' : zM} {fm : Int} {l : List Fm} {x x42 x44 : Int32} (hm : aTm aT0 m) (h : PI mr m fm l 0) (F : fr [247] [42, 44] m C) (Q : ahQ C m') (e42 : gi C 221 42 = x42) (e44 : gi C 221 44 = x44) (v42 : x42.toInt = (gi m 221 42).toInt + 1) (v44 : x44.toInt = (gi m 221 44).toInt + 1) (g : ga C 247 = (ga m 247).set x.toNatClampNeg 43) (hx : x.toInt = (gi m 221 44).toInt) (l42 : (gi m 221 42).toInt < 7) (sg : ¬ (gi m 221 3).toInt = 0) (bg : ¬ gn (ga m 244) ((gi m 221 41).toInt - 1) = 0) : ∃ l', PI mr m' fm l' 0 ∧ abL l' = notA (abL l) := by
  have pp := PI_pp hm h
  have gt := ah_gt Q h.1.2.1 (fr_gi F rfl) sg
  have gl := gl_247 hm
  cases l with
  | nil => exact h.2.1.2.2.elim
  | cons f r =>
    obtain ⟨k, p, ph, bgn, ops⟩ := f
    have FF : fr [247] [3, 4, 5, 6, 7, 12, 42, 44] m m' := fr_tr (fr_up F rfl rfl) (fr_up Q.1 rfl rfl)
    have G : ∀ k, ¬ k = 221 → [247].contains k = false → ga m' k = ga m k := fun k a b => fr_ga FF a b
    have I : ∀ i, [3, 4, 5, 6, 7, 12, 42, 44].contains i = false → gi m' 221 i = gi m 221 i := fun i a => fr_gi FF a
    have g' : ga m' 247 = (ga m 247).set x.toNatClampNeg 43 := (fr_ga Q.1 (by decide) rfl).trans g
    have f42 : (gi m' 221 42).toInt = (gi m 221 42).toInt + 1 := by rw [fr_gi Q.1 rfl, e42]; exact v42
    have f44 : (gi m' 221 44).toInt = (gi m 221 44).toInt + 1 := by rw [fr_gi Q.1 rfl, e44]; exact v44
    have h8 : fk m' = 0 := by show (gi m' 221 8).toInt = 0; rw [I 8 rfl]; exact h.1.2.2.1
    obtain ⟨⟨r1, r2, r3, r4, r5⟩, r6, r7⟩ := h.2.1.1
    have okf := h.2.1.2.1 _ List.mem_cons_self
    have hd := h.2.2.2.1
    have bg' : ¬ bgn = 0 := fun q => bg (r4.trans q)
    have nne : nn (43 :: ops) = 1 + nn ops := rfl
    have hSe : hS ((k, p, ph, bgn, 43 :: ops) :: r) = hS ((k, p, ph, bgn, ops) :: r) := by
      show (0 + nb ops) + arF (k, p, ph, bgn, ops) + hS r = nb ops + arF (k, p, ph, bgn, ops) + hS r
      omega
    refine ⟨(k, p, ph, bgn, 43 :: ops) :: r, PI_hd (f' := (k, p, ph, bgn, 43 :: ops)) hm h (fr_up FF rfl rfl) (kB_tr h.1.1 (kB_fr FF rfl rfl rfl rfl rfl rfl rfl rfl)) ⟨Q.2.1, by omega⟩ h8 (fun k hk i _ _ => by rw [G k (by omega) (by rcases hk with rfl | rfl | rfl | rfl <;> rfl)]) (fun i i0 i1 => ?_) (by rw [G 242 (by decide) rfl]; exact r1) (by rw [G 245 (by decide) rfl]; exact r2) (by rw [G 243 (by decide) rfl]; exact r3) (by rw [G 244 (by decide) rfl]; exact r4) (fun i hi => ?_) ?_ ?_ (by omega) ⟨?_, ?_, ?_, ?_⟩ ?_ (fun q => by omega) (by rw [I 33 rfl]; omega) ?_ ?_, abL_not⟩
    · rw [g', gn_set hx (by omega) (by omega) i0, if_neg (by simp only at i1; omega)]
    · rw [g', f44]
      cases i with
      | zero =>
        rw [gn_set hx (by omega) (by omega) (by omega), if_pos (by omega)]
        rfl
      | succ j =>
        have lj : j < ops.length := by simp only [List.length_cons] at hi; omega
        have rj := r6 j lj
        have nj : (ops.length : Int) ≤ (gi m 221 44).toInt := by
          have := rp_D r7 (fun g hg => h.2.1.2.1 g (List.mem_cons_of_mem _ hg))
          have e := this.2.1
          simp only at e
          omega
        rw [gn_set hx (by omega) (by omega) (by omega), if_neg (by omega), show (gi m 221 44).toInt + 1 - 1 - ((j + 1 : Nat) : Int) = (gi m 221 44).toInt - 1 - (j : Int) by omega]
        exact rj
    · rw [f44]; simp only [List.length_cons]; omega
    · rw [f42, nne]; simp only; omega
    · cases ops with
      | nil => trivial
      | cons b t =>
        refine ⟨?_, okf.1⟩
        have rb := okf.2.2.2 bg' b List.mem_cons_self
        by_cases q : rkI b = 3
        · exact Or.inr ⟨rfl, rk_3 q⟩
        · exact Or.inl (by show rkI b < 3; omega)
    · intro z hz
      rcases List.mem_cons.1 hz with q | q
      · rw [q]; exact Or.inr (by omega)
      · exact okf.2.1 z q
    · intro w z hz
      rcases List.mem_cons.1 hz with q | q
      · rw [q]; decide
      · exact okf.2.2.1 w z q
    · intro w z hz
      rcases List.mem_cons.1 hz with q | q
      · rw [q]; decide
      · exact okf.2.2.2 w z q
    · have := h.2.1.2.2
      cases r with
      | nil => exact this
      | cons a b => exact this
    · rw [f44, I 33 rfl]; omega
    · rw [G 238 (by decide) rfl, I 33 rfl, hSe]; exact hd.2
theorem PI_bgF {mr m m' : zM} {fm : Int} {l : List Fm} {x : Int32} (hm : aTm aT0 m) (h : PI mr m fm l 0) (F : fr [244] [] m m') (g : ga m' 244 = (ga m 244).set x.toNatClampNeg 0) (hx : x.toInt = (gi m 221 41).toInt - 1) : ∃ l', PI mr m' fm l' 0 ∧ abL l' = bgA (abL l) ∧ ∀ f, l'.head? = some f → f.2.2.2.1 = 0 := by
  have pp := PI_pp hm h
  have gl := gl_244 hm
  cases l with
  | nil => exact h.2.1.2.2.elim
  | cons f r =>
    obtain ⟨k, p, ph, bgn, ops⟩ := f
    have G : ∀ k, ¬ k = 221 → [244].contains k = false → ga m' k = ga m k := fun k a b => fr_ga F a b
    have I : ∀ i, gi m' 221 i = gi m 221 i := fun i => fr_gi F rfl
    have h8 : fk m' = 0 := by show (gi m' 221 8).toInt = 0; rw [I 8]; exact h.1.2.2.1
    obtain ⟨⟨r1, r2, r3, r4, r5⟩, r6, r7⟩ := h.2.1.1
    have okf := h.2.1.2.1 _ List.mem_cons_self
    have hd := h.2.2.2.1
    refine ⟨(k, p, ph, 0, ops) :: r, PI_hd (f' := (k, p, ph, 0, ops)) hm h (fr_up F rfl rfl) (kB_tr h.1.1 (kB_fr F rfl rfl rfl rfl rfl rfl rfl rfl)) (tOK_fr F rfl rfl rfl rfl (by omega) h.1.2.1) h8 (fun k hk i i0 i1 => ?_) (fun i i0 i1 => by rw [G 247 (by decide) rfl]) (by rw [G 242 (by decide) rfl]; exact r1) (by rw [G 245 (by decide) rfl]; exact r2) (by rw [G 243 (by decide) rfl]; exact r3) ?_ (fun i hi => by rw [G 247 (by decide) rfl, I 44]; exact r6 i hi) ?_ ?_ (by rw [I 42]; omega) ⟨okf.1, okf.2.1, okf.2.2.1, fun q => absurd rfl q⟩ ?_ (fun q => by omega) (by rw [I 33]; omega) ?_ ?_, rfl, fun f hf => ?_⟩
    · by_cases q : k = 244
      · rw [q, g, gn_set hx (by omega) (by omega) i0, if_neg (by omega)]
      · rw [G k (by omega) (by rcases hk with rfl | rfl | rfl | rfl <;> first | rfl | exact absurd rfl q)]
    · rw [g, gn_set hx (by omega) (by omega) (by omega), if_pos rfl]; rfl
    · rw [I 44]; simp only; omega
    · rw [I 42]; simp only; omega
    · have := h.2.1.2.2
      cases r with
      | nil => exact this
      | cons a b => exact this
    · rw [I 33, I 44, I 4]; omega
    · rw [G 238 (by decide) rfl, I 33]; exact hd.2
    · simp only [List.head?_cons, Option.some.injEq] at hf
      rw [← hf]
theorem PI_addF {mr m C m' : zM} {fm : Int} {l : List Fm} {x y x33 : Int32} (hm : aTm aT0 m) (h : PI mr m fm l 0) (hb : ∀ f, l.head? = some f → f.2.2.2.1 = 0) (F : fr [238, 239, 243] [33] m C) (Q : ahQ C m') (e33 : gi C 221 33 = x33) (v33 : x33.toInt = (gi m 221 33).toInt + 1) (g : ga C 238 = (ga m 238).set x.toNatClampNeg y) (hx : x.toInt = 1600 * (gi m 221 34).toInt + (gi m 221 33).toInt) (g9 : ∃ x9 z9 : Int32, x9.toInt = 1600 * (gi m 221 34).toInt + (gi m 221 33).toInt ∧ ga C 239 = (ga m 239).set x9.toNatClampNeg z9) (hy : (0 ≤ y.toInt ∧ y.toInt ≤ 6) ∨ y.toInt = 30) (q : ga C 243 = ga m 243) (sg : ¬ (gi m 221 3).toInt = 0) : ∃ l', PI mr m' fm l' 1 ∧ abL l' = abL l := by
  have pp := PI_pp hm h
  have rg := PI_rg hm h
  have gt := ah_gt Q h.1.2.1 (fr_gi F rfl) sg
  have gl := gl_243 hm
  cases l with
  | nil => exact h.2.1.2.2.elim
  | cons f r =>
    obtain ⟨k, p, ph, bgn, ops⟩ := f
    have FF : fr [238, 239, 243] [3, 4, 5, 6, 7, 12, 33] m m' := fr_tr (fr_up F rfl rfl) (fr_up Q.1 rfl rfl)
    have G : ∀ k, ¬ k = 221 → [238, 239, 243].contains k = false → ga m' k = ga m k := fun k a b => fr_ga FF a b
    have I : ∀ i, [3, 4, 5, 6, 7, 12, 33].contains i = false → gi m' 221 i = gi m 221 i := fun i a => fr_gi FF a
    have g' : ga m' 238 = (ga m 238).set x.toNatClampNeg y := (fr_ga Q.1 (by decide) rfl).trans g
    have e243 : ga m' 243 = ga C 243 := fr_ga Q.1 (by decide) rfl
    have f33 : (gi m' 221 33).toInt = (gi m 221 33).toInt + 1 := by rw [fr_gi Q.1 rfl, e33]; exact v33
    have h8 : fk m' = 0 := by show (gi m' 221 8).toInt = 0; rw [I 8 rfl]; exact h.1.2.2.1
    have bg0 : bgn = 0 := hb _ rfl
    have hst1 : hst y (hS ((k, p, ph, bgn, ops) :: r) + 0).toNat = some (hS ((k, p, ph, bgn, ops) :: r) + 1).toNat := by
      unfold hst
      rw [if_pos (by omega)]
      first
        | (congr 1; omega)
        | (rw [if_pos (by omega)]; congr 1; omega)
    obtain ⟨x9, z9, hx9, e9⟩ := g9
    have cd := cd_add hm h (fr_up FF rfl rfl) f33 hx g' hx9 ((fr_ga Q.1 (by decide) rfl).trans e9) hst1
    obtain ⟨⟨r1, r2, r3, r4, r5⟩, r6, r7⟩ := h.2.1.1
    have okf := h.2.1.2.1 _ List.mem_cons_self
    have key : ∀ ph' : Int, gn (ga m' 243) ((gi m 221 41).toInt - 1) = ph' → (∀ i, 0 ≤ i → i < (gi m 221 41).toInt - 1 → gn (ga m' 243) i = gn (ga m 243) i) → (ph' = ph ∨ ph' = 2) → ∃ l', PI mr m' fm l' 1 ∧ abL l' = (k, ph', bgn, ops.map clO ++ prI (k, p, ph, bgn, ops)) :: abL r := by
      intro ph' u1 u2 u3
      refine ⟨(k, p, ph', bgn, ops) :: r, PI_hd (f' := (k, p, ph', bgn, ops)) hm h (fr_up FF rfl rfl) cd.1 ⟨Q.2.1, by omega⟩ h8 (fun k hk i i0 i1 => ?_) (fun i i0 i1 => by rw [G 247 (by decide) rfl]) (by rw [G 242 (by decide) rfl]; exact r1) (by rw [G 245 (by decide) rfl]; exact r2) u1 (by rw [G 244 (by decide) rfl]; exact r4) (fun i hi => by rw [G 247 (by decide) rfl, I 44 rfl]; exact r6 i hi) ?_ ?_ (by rw [I 42 rfl]; omega) ⟨okf.1, okf.2.1, ?_, okf.2.2.2⟩ ?_ (fun _ => bg0) (by omega) ?_ ?_, rfl⟩
      · by_cases q : k = 243
        · rw [q]; exact u2 i i0 i1
        · rw [G k (by omega) (by rcases hk with rfl | rfl | rfl | rfl <;> first | rfl | exact absurd rfl q)]
      · rw [I 44 rfl]; simp only; omega
      · rw [I 42 rfl]; simp only; omega
      · intro w
        rcases u3 with q | q
        · exact okf.2.2.1 (q ▸ w)
        · have w' : ph' = 0 := w
          omega
      · have := h.2.1.2.2
        cases r with
        | nil => exact this
        | cons a b => exact this
      · rw [I 44 rfl]
        have := h.2.2.2.1.1.2.2
        omega
      · exact cd.2
    exact key ph (by rw [e243, q]; exact r3) (fun i _ _ => by rw [e243, q]) (Or.inl rfl)
theorem PI_addF2 {mr m C m' : zM} {fm : Int} {l : List Fm} {x y x33 : Int32} (hm : aTm aT0 m) (h : PI mr m fm l 0) (hb : ∀ f, l.head? = some f → f.2.2.2.1 = 0) (F : fr [238, 239, 243] [33] m C) (Q : ahQ C m') (e33 : gi C 221 33 = x33) (v33 : x33.toInt = (gi m 221 33).toInt + 1) (g : ga C 238 = (ga m 238).set x.toNatClampNeg y) (hx : x.toInt = 1600 * (gi m 221 34).toInt + (gi m 221 33).toInt) (g9 : ∃ x9 z9 : Int32, x9.toInt = 1600 * (gi m 221 34).toInt + (gi m 221 33).toInt ∧ ga C 239 = (ga m 239).set x9.toNatClampNeg z9) (hy : (0 ≤ y.toInt ∧ y.toInt ≤ 6) ∨ y.toInt = 30) {z : Int32} (z1 : z.toInt = (gi m 221 41).toInt - 1) (z2 : ga C 243 = (ga m 243).set z.toNatClampNeg 2) (sg : ¬ (gi m 221 3).toInt = 0) : ∃ l', PI mr m' fm l' 1 ∧ abL l' = ph2 (abL l) := by
  have pp := PI_pp hm h
  have rg := PI_rg hm h
  have gt := ah_gt Q h.1.2.1 (fr_gi F rfl) sg
  have gl := gl_243 hm
  cases l with
  | nil => exact h.2.1.2.2.elim
  | cons f r =>
    obtain ⟨k, p, ph, bgn, ops⟩ := f
    have FF : fr [238, 239, 243] [3, 4, 5, 6, 7, 12, 33] m m' := fr_tr (fr_up F rfl rfl) (fr_up Q.1 rfl rfl)
    have G : ∀ k, ¬ k = 221 → [238, 239, 243].contains k = false → ga m' k = ga m k := fun k a b => fr_ga FF a b
    have I : ∀ i, [3, 4, 5, 6, 7, 12, 33].contains i = false → gi m' 221 i = gi m 221 i := fun i a => fr_gi FF a
    have g' : ga m' 238 = (ga m 238).set x.toNatClampNeg y := (fr_ga Q.1 (by decide) rfl).trans g
    have e243 : ga m' 243 = ga C 243 := fr_ga Q.1 (by decide) rfl
    have f33 : (gi m' 221 33).toInt = (gi m 221 33).toInt + 1 := by rw [fr_gi Q.1 rfl, e33]; exact v33
    have h8 : fk m' = 0 := by show (gi m' 221 8).toInt = 0; rw [I 8 rfl]; exact h.1.2.2.1
    have bg0 : bgn = 0 := hb _ rfl
    have hst1 : hst y (hS ((k, p, ph, bgn, ops) :: r) + 0).toNat = some (hS ((k, p, ph, bgn, ops) :: r) + 1).toNat := by
      unfold hst
      rw [if_pos (by omega)]
      first
        | (congr 1; omega)
        | (rw [if_pos (by omega)]; congr 1; omega)
    obtain ⟨x9, z9, hx9, e9⟩ := g9
    have cd := cd_add hm h (fr_up FF rfl rfl) f33 hx g' hx9 ((fr_ga Q.1 (by decide) rfl).trans e9) hst1
    obtain ⟨⟨r1, r2, r3, r4, r5⟩, r6, r7⟩ := h.2.1.1
    have okf := h.2.1.2.1 _ List.mem_cons_self
    have key : ∀ ph' : Int, gn (ga m' 243) ((gi m 221 41).toInt - 1) = ph' → (∀ i, 0 ≤ i → i < (gi m 221 41).toInt - 1 → gn (ga m' 243) i = gn (ga m 243) i) → (ph' = ph ∨ ph' = 2) → ∃ l', PI mr m' fm l' 1 ∧ abL l' = (k, ph', bgn, ops.map clO ++ prI (k, p, ph, bgn, ops)) :: abL r := by
      intro ph' u1 u2 u3
      refine ⟨(k, p, ph', bgn, ops) :: r, PI_hd (f' := (k, p, ph', bgn, ops)) hm h (fr_up FF rfl rfl) cd.1 ⟨Q.2.1, by omega⟩ h8 (fun k hk i i0 i1 => ?_) (fun i i0 i1 => by rw [G 247 (by decide) rfl]) (by rw [G 242 (by decide) rfl]; exact r1) (by rw [G 245 (by decide) rfl]; exact r2) u1 (by rw [G 244 (by decide) rfl]; exact r4) (fun i hi => by rw [G 247 (by decide) rfl, I 44 rfl]; exact r6 i hi) ?_ ?_ (by rw [I 42 rfl]; omega) ⟨okf.1, okf.2.1, ?_, okf.2.2.2⟩ ?_ (fun _ => bg0) (by omega) ?_ ?_, rfl⟩
      · by_cases q : k = 243
        · rw [q]; exact u2 i i0 i1
        · rw [G k (by omega) (by rcases hk with rfl | rfl | rfl | rfl <;> first | rfl | exact absurd rfl q)]
      · rw [I 44 rfl]; simp only; omega
      · rw [I 42 rfl]; simp only; omega
      · intro w
        rcases u3 with q | q
        · exact okf.2.2.1 (q ▸ w)
        · have w' : ph' = 0 := w
          omega
      · have := h.2.1.2.2
        cases r with
        | nil => exact this
        | cons a b => exact this
      · rw [I 44 rfl]
        have := h.2.2.2.1.1.2.2
        omega
      · exact cd.2
    exact key 2 (by rw [e243, z2, gn_set z1 (by omega) (by omega) (by omega), if_pos rfl]; rfl) (fun i i0 i1 => by rw [e243, z2, gn_set z1 (by omega) (by omega) i0, if_neg (by omega)]) (Or.inr rfl)
theorem PI_holdF {mr m C m1 m' : zM} {fm k p ph bg ph' bg' : Int} {s : List Int} {r : List Fm} {x y x44 : Int32} (hm : aTm aT0 m) (h : PI mr m fm ((k, p, ph, bg, s) :: r) 1) (F : fr [243, 244, 247] [44] m C) (Q : ahQ C m1) (F2 : fr [] [45] m1 m') (e44 : gi C 221 44 = x44) (v44 : x44.toInt = (gi m 221 44).toInt + 1) (g : ga C 247 = (ga m 247).set x.toNatClampNeg y) (hx : x.toInt = (gi m 221 44).toInt)
    (g3 : gn (ga C 243) ((gi m 221 41).toInt - 1) = ph' ∧ ∀ i, 0 ≤ i → i < (gi m 221 41).toInt - 1 → gn (ga C 243) i = gn (ga m 243) i) (g4 : gn (ga C 244) ((gi m 221 41).toInt - 1) = bg' ∧ ∀ i, 0 ≤ i → i < (gi m 221 41).toInt - 1 → gn (ga C 244) i = gn (ga m 244) i)
    (ho : opI y.toInt) (hn : ¬ y.toInt = 43) (hr : ∀ q, s.head? = some q → rkI q < rkI y.toInt) (k3 : ph' = 0 → ¬ rkI y.toInt = 4 ∧ (ph = 0 ∨ rkI y.toInt ≤ 3)) (k4 : ¬ bg' = 0 → rkI y.toInt ≤ 3) (sg : ¬ (gi m 221 3).toInt = 0) : ∃ l', PI mr m' fm l' 0 ∧ abL l' = (k, ph', bg', clO y.toInt :: (s.map clO ++ prI (k, p, ph, bg, s))) :: abL r := by
  have pp := PI_pp hm h
  have rg := PI_rg hm h
  have gt := ah_gt Q h.1.2.1 (fr_gi F rfl) sg
  have gl := gl_247 hm
  have FF : fr [243, 244, 247] [3, 4, 5, 6, 7, 12, 44, 45] m m' := fr_tr (fr_up F rfl rfl) (fr_tr (fr_up Q.1 rfl rfl) (fr_up F2 rfl rfl))
  have G : ∀ k, ¬ k = 221 → [243, 244, 247].contains k = false → ga m' k = ga m k := fun k a b => fr_ga FF a b
  have GC : ∀ k, ¬ k = 221 → ga m' k = ga C k := fun k a => (fr_ga F2 a rfl).trans (fr_ga Q.1 a rfl)
  have I : ∀ i, [3, 4, 5, 6, 7, 12, 44, 45].contains i = false → gi m' 221 i = gi m 221 i := fun i a => fr_gi FF a
  have f44 : (gi m' 221 44).toInt = (gi m 221 44).toInt + 1 := by rw [fr_gi F2 rfl, fr_gi Q.1 rfl, e44]; exact v44
  have f4 : gi m' 221 4 = gi m1 221 4 := fr_gi F2 rfl
  have h8 : fk m' = 0 := by show (gi m' 221 8).toInt = 0; rw [I 8 rfl]; exact h.1.2.2.1
  have g' : ga m' 247 = (ga m 247).set x.toNatClampNeg y := (GC 247 (by decide)).trans g
  obtain ⟨⟨r1, r2, r3, r4, r5⟩, r6, r7⟩ := h.2.1.1
  have okf := h.2.1.2.1 _ List.mem_cons_self
  have hd := h.2.2.2.1
  have nj : (s.length : Int) ≤ (gi m 221 44).toInt := by
    have e := (rp_D r7 (fun g hg => h.2.1.2.1 g (List.mem_cons_of_mem _ hg))).2.1
    simp only at e
    omega
  have nne : nn (y.toInt :: s) = nn s := by
    show (if y.toInt = 43 then 1 else 0) + nn s = nn s
    rw [if_neg hn]; omega
  have nbe : nb (y.toInt :: s) = 1 + nb s := by
    show (if y.toInt = 43 then 0 else 1) + nb s = _
    rw [if_neg hn]
  have hSe : hS ((k, p, ph', bg', y.toInt :: s) :: r) + 0 = hS ((k, p, ph, bg, s) :: r) + 1 := by
    show nb (y.toInt :: s) + arF (k, p, ph, bg, s) + hS r + 0 = nb s + arF (k, p, ph, bg, s) + hS r + 1
    rw [nbe]; omega
  have ch : chn (y.toInt :: s) := by
    cases s with
    | nil => trivial
    | cons b t => exact ⟨Or.inl (hr b rfl), okf.1⟩
  refine ⟨(k, p, ph', bg', y.toInt :: s) :: r, PI_hd (f' := (k, p, ph', bg', y.toInt :: s)) hm h (fr_up FF rfl rfl) (kB_tr h.1.1 (kB_fr FF rfl rfl rfl rfl rfl rfl rfl rfl)) (tOK_fr F2 rfl rfl rfl rfl (by omega) ⟨Q.2.1, by rw [show fk m1 = fk m' from by show (gi m1 221 8).toInt = (gi m' 221 8).toInt; rw [fr_gi F2 rfl]]; omega⟩) h8 (fun k hk i i0 i1 => ?_) (fun i i0 i1 => ?_) (by rw [G 242 (by decide) rfl]; exact r1) (by rw [G 245 (by decide) rfl]; exact r2) (by rw [GC 243 (by decide)]; exact g3.1) (by rw [GC 244 (by decide)]; exact g4.1) (fun i hi => ?_) ?_ ?_ (by rw [I 42 rfl]; omega) ⟨ch, ?_, ?_, ?_⟩ ?_ (fun q => by omega) (by rw [I 33 rfl]; omega) ?_ ?_, rfl⟩
  · rcases hk with rfl | rfl | rfl | rfl
    · rw [G 242 (by decide) rfl]
    · rw [GC 243 (by decide)]; exact g3.2 i i0 i1
    · rw [GC 244 (by decide)]; exact g4.2 i i0 i1
    · rw [G 245 (by decide) rfl]
  · rw [g', gn_set hx (by omega) (by omega) i0, if_neg (by simp only at i1; omega)]
  · rw [g', f44]
    cases i with
    | zero =>
      rw [gn_set hx (by omega) (by omega) (by omega), if_pos (by omega)]
      rfl
    | succ j =>
      have lj : j < s.length := by simp only [List.length_cons] at hi; omega
      rw [gn_set hx (by omega) (by omega) (by omega), if_neg (by omega), show (gi m 221 44).toInt + 1 - 1 - ((j + 1 : Nat) : Int) = (gi m 221 44).toInt - 1 - (j : Int) by omega]
      exact r6 j lj
  · rw [f44]; simp only [List.length_cons]; omega
  · rw [I 42 rfl, nne]; simp only; omega
  · intro z hz
    rcases List.mem_cons.1 hz with q | q
    · rw [q]; exact ho
    · exact okf.2.1 z q
  · intro w z hz
    have k := k3 w
    rcases List.mem_cons.1 hz with q | q
    · rw [q]; exact k.1
    · rcases k.2 with u | u
      · exact okf.2.2.1 u z q
      · have := chn_le ch z q
        omega
  · intro w z hz
    have k := k4 w
    rcases List.mem_cons.1 hz with q | q
    · rw [q]; exact k
    · have := chn_le ch z q
      omega
  · have := h.2.1.2.2
    cases r with
    | nil => exact this
    | cons a b => exact this
  · rw [f44, I 33 rfl, f4]
    have := hd.1.2.2
    omega
  · rw [G 238 (by decide) rfl, I 33 rfl, hSe]; exact hd.2
theorem PI_comF {mr m C m1 m' : zM} {fm k p ph bg k' : Int} {r : List Fm} {x v z : Int32} (hm : aTm aT0 m) (h : PI mr m fm ((k, p, ph, bg, []) :: r) 1) (F : fr [242, 243] [] m C) (Q : ahQ C m1) (F2 : fr [] [45] m1 m') (g2 : ga C 242 = (ga m 242).set x.toNatClampNeg v) (g3 : ga C 243 = (ga m 243).set x.toNatClampNeg z) (hz : z.toInt = 0) (hv : v.toInt = k') (hx : x.toInt = (gi m 221 41).toInt - 1) (hk : (k = 3 ∧ k' = 4) ∨ (k = 6 ∧ k' = 3)) (sg : ¬ (gi m 221 3).toInt = 0) : ∃ l', PI mr m' fm l' 0 ∧ abL l' = (k', 0, bg, prI (k', p, 0, bg, [])) :: abL r := by
  have pp := PI_pp hm h
  have gt := ah_gt Q h.1.2.1 (fr_gi F rfl) sg
  have gl2 := gl_242 hm
  have gl3 := gl_243 hm
  have FF : fr [242, 243] [3, 4, 5, 6, 7, 12, 45] m m' := fr_tr (fr_up F rfl rfl) (fr_tr (fr_up Q.1 rfl rfl) (fr_up F2 rfl rfl))
  have G : ∀ k, ¬ k = 221 → [242, 243].contains k = false → ga m' k = ga m k := fun k a b => fr_ga FF a b
  have GC : ∀ k, ¬ k = 221 → ga m' k = ga C k := fun k a => (fr_ga F2 a rfl).trans (fr_ga Q.1 a rfl)
  have I : ∀ i, [3, 4, 5, 6, 7, 12, 45].contains i = false → gi m' 221 i = gi m 221 i := fun i a => fr_gi FF a
  have f4 : gi m' 221 4 = gi m1 221 4 := fr_gi F2 rfl
  have h8 : fk m' = 0 := by show (gi m' 221 8).toInt = 0; rw [I 8 rfl]; exact h.1.2.2.1
  obtain ⟨⟨r1, r2, r3, r4, r5⟩, r6, r7⟩ := h.2.1.1
  have okf := h.2.1.2.1 _ List.mem_cons_self
  have hd := h.2.2.2.1
  have kk := h.2.1.2.2
  have bg0 : bg = 0 := h.2.2.2.2.2 rfl _ rfl
  cases r with
  | nil =>
    have : 0 ≤ k ∧ k ≤ 1 := kk
    omega
  | cons a b =>
    have kk' : (2 ≤ k ∧ k ≤ 6) ∧ (k = 3 ∨ k = 4 → p = 36 ∨ p = 37 ∨ p = 44) ∧ (k = 6 → p = 44) ∧ kd (a :: b) := kk
    have ar : arF (k', p, 0, bg, []) = arF (k, p, ph, bg, []) + 1 := by
      show (if k' = 4 then (if p = 44 then (2 : Int) else 1) else if k' = 3 then (if p = 44 then 1 else 0) else 0) = (if k = 4 then (if p = 44 then (2 : Int) else 1) else if k = 3 then (if p = 44 then 1 else 0) else 0) + 1
      rcases hk with ⟨e1, e2⟩ | ⟨e1, e2⟩
      · rw [e1, e2]
        by_cases q : p = 44
        · rw [q]; decide
        · simp [q]
      · rw [e1, e2, kk'.2.2.1 e1]; decide
    have hSe : hS ((k', p, 0, bg, []) :: a :: b) + 0 = hS ((k, p, ph, bg, []) :: a :: b) + 1 := by
      show nb [] + arF (k', p, 0, bg, []) + hS (a :: b) + 0 = nb [] + arF (k, p, ph, bg, []) + hS (a :: b) + 1
      rw [ar]; omega
    refine ⟨(k', p, 0, bg, []) :: a :: b, PI_hd (f' := (k', p, 0, bg, [])) hm h (fr_up FF rfl rfl) (kB_tr h.1.1 (kB_fr FF rfl rfl rfl rfl rfl rfl rfl rfl)) (tOK_fr F2 rfl rfl rfl rfl (by omega) ⟨Q.2.1, by rw [show fk m1 = fk m' from by show (gi m1 221 8).toInt = (gi m' 221 8).toInt; rw [fr_gi F2 rfl]]; omega⟩) h8 (fun k hk i i0 i1 => ?_) (fun i i0 i1 => by rw [G 247 (by decide) rfl]) (by rw [GC 242 (by decide), g2, gn_set hx (by omega) (by omega) (by omega), if_pos rfl]; exact hv) (by rw [G 245 (by decide) rfl]; exact r2) (by rw [GC 243 (by decide), g3, gn_set hx (by omega) (by omega) (by omega), if_pos rfl]; exact hz) (by rw [G 244 (by decide) rfl]; exact r4) (fun i hi => absurd hi (Nat.not_lt_zero _)) ?_ ?_ (by rw [I 42 rfl]; omega) ⟨trivial, fun o ho => absurd ho List.not_mem_nil, fun _ o ho => absurd ho List.not_mem_nil, fun _ o ho => absurd ho List.not_mem_nil⟩ ⟨?_, ?_, ?_, kk'.2.2.2⟩ (fun q => by omega) (by rw [I 33 rfl]; omega) ?_ ?_, rfl⟩
    · rcases hk with rfl | rfl | rfl | rfl
      · rw [GC 242 (by decide), g2, gn_set hx (by omega) (by omega) i0, if_neg (by omega)]
      · rw [GC 243 (by decide), g3, gn_set hx (by omega) (by omega) i0, if_neg (by omega)]
      · rw [G 244 (by decide) rfl]
      · rw [G 245 (by decide) rfl]
    · rw [I 44 rfl]; simp only; omega
    · rw [I 42 rfl]; simp only; omega
    · show 2 ≤ k' ∧ k' ≤ 6
      omega
    · intro _
      show p = 36 ∨ p = 37 ∨ p = 44
      rcases hk with ⟨e1, -⟩ | ⟨e1, -⟩
      · exact kk'.2.1 (Or.inl e1)
      · exact Or.inr (Or.inr (kk'.2.2.1 e1))
    · intro w
      have w' : k' = 6 := w
      omega
    · rw [I 44 rfl, I 33 rfl, f4]
      have := hd.1.2.2
      omega
    · rw [G 238 (by decide) rfl, I 33 rfl, hSe]; exact hd.2
theorem PI_clsF {mr m C m' : zM} {fm k p ph bg : Int} {r : List Fm} (hm : aTm aT0 m) (h : PI mr m fm ((k, p, ph, bg, []) :: r) 1) (F : fr [238, 239, 243] [33, 41, 42] m C) (Q : ahQ C m') (e41 : (gi C 221 41).toInt = (gi m 221 41).toInt - 1) (e42 : (gi C 221 42).toInt = (gi m 221 42).toInt - 1) (hk : k = 2 ∨ k = 4 ∨ k = 5)
    (hc : (¬ k = 4 ∧ gi C 221 33 = gi m 221 33 ∧ ga C 238 = ga m 238 ∧ ga C 239 = ga m 239) ∨ (k = 4 ∧ (gi C 221 33).toInt = (gi m 221 33).toInt + 1 ∧ ∃ x y x9 z9 : Int32, x.toInt = 1600 * (gi m 221 34).toInt + (gi m 221 33).toInt ∧ y.toInt = gn (ga m 245) ((gi m 221 41).toInt - 1) ∧ ga C 238 = (ga m 238).set x.toNatClampNeg y ∧ x9.toInt = 1600 * (gi m 221 34).toInt + (gi m 221 33).toInt ∧ ga C 239 = (ga m 239).set x9.toNatClampNeg z9))
    (q : ga C 243 = ga m 243) (sg : ¬ (gi m 221 3).toInt = 0) : ∃ l', PI mr m' fm l' 1 ∧ abL l' = abL r := by
  have pp := PI_pp hm h
  have rg := PI_rg hm h
  have gt := ah_gt Q h.1.2.1 (fr_gi F rfl) sg
  have gl3 := gl_243 hm
  have FF : fr [238, 239, 243] [3, 4, 5, 6, 7, 12, 33, 41, 42] m m' := fr_tr (fr_up F rfl rfl) (fr_up Q.1 rfl rfl)
  have G : ∀ k, ¬ k = 221 → [238, 239, 243].contains k = false → ga m' k = ga m k := fun k a b => fr_ga FF a b
  have GC : ∀ k, ¬ k = 221 → ga m' k = ga C k := fun k a => fr_ga Q.1 a rfl
  have I : ∀ i, [3, 4, 5, 6, 7, 12, 33, 41, 42].contains i = false → gi m' 221 i = gi m 221 i := fun i a => fr_gi FF a
  have f41 : (gi m' 221 41).toInt = (gi m 221 41).toInt - 1 := by rw [fr_gi Q.1 rfl]; exact e41
  have f42 : (gi m' 221 42).toInt = (gi m 221 42).toInt - 1 := by rw [fr_gi Q.1 rfl]; exact e42
  have f33 : gi m' 221 33 = gi C 221 33 := fr_gi Q.1 rfl
  have h8 : fk m' = 0 := by show (gi m' 221 8).toInt = 0; rw [I 8 rfl]; exact h.1.2.2.1
  have hh := h
  obtain ⟨⟨a1, a2, a3, a4⟩, ⟨b1, b2, b3⟩, ⟨c1, c2⟩, ⟨d1, d2⟩, u1, u2⟩ := h
  obtain ⟨⟨r1, r2, r3, r4, r5⟩, r6, r7⟩ := b1
  cases r with
  | nil =>
    have : 0 ≤ k ∧ k ≤ 1 := b3
    omega
  | cons a b =>
    obtain ⟨ka, pa, pha, bga, opa⟩ := a
    have kk' : (2 ≤ k ∧ k ≤ 6) ∧ (k = 3 ∨ k = 4 → p = 36 ∨ p = 37 ∨ p = 44) ∧ (k = 6 → p = 44) ∧ kd ((ka, pa, pha, bga, opa) :: b) := b3
    have okr : okL ((ka, pa, pha, bga, opa) :: b) := fun g hg => b2 g (List.mem_cons_of_mem _ hg)
    have okb : okL b := fun g hg => okr g (List.mem_cons_of_mem _ hg)
    have oka := okr _ List.mem_cons_self
    have i34 : gi m' 221 34 = gi m 221 34 := I 34 rfl
    have i13 : gi m' 221 13 = gi m 221 13 := I 13 rfl
    have hi : inI m' = inI m := by show (gi m' 221 34).toInt = _; rw [i34]
    have hSl : hS ((k, p, ph, bg, []) :: (ka, pa, pha, bga, opa) :: b) = arF (k, p, ph, bg, []) + hS ((ka, pa, pha, bga, opa) :: b) := by
      show 0 + arF (k, p, ph, bg, []) + hS ((ka, pa, pha, bga, opa) :: b) = _
      omega
    have hSb := hS_b okr
    have are : arF (k, p, ph, bg, []) = (if k = 4 then (if p = 44 then (2 : Int) else 1) else if k = 3 then (if p = 44 then 1 else 0) else 0) := rfl
    have KH : kB mr m' ∧ ((gi m 221 33).toInt ≤ (gi m' 221 33).toInt ∧ (gi m' 221 33).toInt ≤ (gi m 221 33).toInt + 1) ∧ hgt (ga m' 238) (1600 * inI m + fm).toNat ((gi m' 221 33).toInt - fm).toNat = some (hS ((ka, pa, pha, bga, opa) :: b) + 1).toNat := by
      rcases hc with ⟨n4, q33, q238, q239⟩ | ⟨k4, q33, x, y, x9, z9, hx, hy, q238, hx9, q239⟩
      · have z : arF (k, p, ph, bg, []) = 0 := by rw [are, if_neg n4, if_neg (by omega)]
        have G238 : ga m' 238 = ga m 238 := (GC 238 (by decide)).trans q238
        have G239 : ga m' 239 = ga m 239 := (GC 239 (by decide)).trans q239
        refine ⟨⟨fr_tr a1.1 (fr_up FF rfl rfl), fun k hk => ?_, fun k hk w _ _ => ?_, fun i z1 z2 => ?_, by rw [f33, q33]; exact a1.2.2.2.2.1, fun i z1 z2 => ?_, fun i z1 z2 => ?_, fun i z1 z2 => ?_⟩, by rw [f33, q33]; omega, ?_⟩
        · rw [G k (by omega) (by rcases hk with rfl | rfl <;> decide)]; exact a1.2.1 k hk
        · rw [G k (by omega) (by rcases hk with rfl | rfl <;> decide)]; exact a1.2.2.1 k hk w (by assumption) (by assumption)
        · rw [G238]; exact a1.2.2.2.1 i z1 z2
        · rw [G238]; exact a1.2.2.2.2.2.1 i z1 z2
        · rw [G239]; exact a1.2.2.2.2.2.2.1 i z1 z2
        · rw [G239]; exact a1.2.2.2.2.2.2.2 i z1 z2
        · rw [G238, f33, q33]
          rw [hSl, z, show 0 + hS ((ka, pa, pha, bga, opa) :: b) + 1 = hS ((ka, pa, pha, bga, opa) :: b) + 1 by omega] at d2
          exact d2
      · have pv := kk'.2.1 (Or.inr k4)
        have yp : y.toInt = p := hy.trans r2
        have q33' : (gi m' 221 33).toInt = (gi m 221 33).toInt + 1 := by rw [f33]; exact q33
        have arv : arF (k, p, ph, bg, []) = (if p = 44 then (2 : Int) else 1) := by rw [are, if_pos k4]
        have hst1 : hst y (hS ((k, p, ph, bg, []) :: (ka, pa, pha, bga, opa) :: b) + 1).toNat = some (hS ((ka, pa, pha, bga, opa) :: b) + 1).toNat := by
          rw [hSl, arv]
          unfold hst
          rw [if_neg (by omega), if_neg (by omega)]
          by_cases q : p = 44
          · rw [if_pos (by omega), if_pos q, if_pos (by omega)]
            congr 1
            omega
          · rw [if_neg (by omega), if_neg q, if_pos (by omega)]
            congr 1
            omega
        have cd := cd_add hm hh (fr_up FF rfl rfl) q33' hx ((GC 238 (by decide)).trans q238) hx9 ((GC 239 (by decide)).trans q239) hst1
        exact ⟨cd.1, by omega, cd.2⟩
    obtain ⟨kb, l33, hgt'⟩ := KH
    have n0 : (gi m 221 44).toInt - (((k, p, ph, bg, []) : Fm).2.2.2.2.length : Int) = (gi m 221 44).toInt := by
      show _ - ((0 : Nat) : Int) = _
      omega
    rw [n0] at r7
    obtain ⟨⟨t1, t2, t3, t4, t5⟩, t6, t7⟩ := r7
    have nSl : nS ((k, p, ph, bg, []) :: (ka, pa, pha, bga, opa) :: b) = nS ((ka, pa, pha, bga, opa) :: b) := by
      show 0 + nS ((ka, pa, pha, bga, opa) :: b) = _
      omega
    have bga0 : bga = 0 := u1 (ka, pa, pha, bga, opa) List.mem_cons_self
    have key : ∀ ph' : Int, gn (ga m' 243) ((gi m 221 41).toInt - 1 - 1) = ph' → (∀ i, 0 ≤ i → i < (gi m 221 41).toInt - 1 - 1 → gn (ga m' 243) i = gn (ga m 243) i) → (ph' = pha ∨ ph' = 2) → ∃ l', PI mr m' fm l' 1 ∧ abL l' = (ka, ph', bga, opa.map clO ++ prI (ka, pa, pha, bga, opa)) :: abL b := by
      intro ph' z1 z2 z3
      refine ⟨(ka, pa, ph', bga, opa) :: b, ⟨⟨kb, ⟨Q.2.1, by omega⟩, h8, ?_⟩, ⟨⟨⟨by rw [f41, G 242 (by decide) rfl]; exact t1, by rw [f41, G 245 (by decide) rfl]; exact t2, by rw [f41]; exact z1, by rw [f41, G 244 (by decide) rfl]; exact t4, by rw [f41, G 246 (by decide) rfl, I 44 rfl]; exact t5⟩, fun i hi => by rw [G 247 (by decide) rfl, I 44 rfl]; exact t6 i hi, ?_⟩, ?_, ?_⟩, ⟨?_, by omega⟩, ⟨⟨d1.1, by omega, ?_⟩, by rw [hi]; exact hgt'⟩, fun f hf => u1 f (List.mem_cons_of_mem _ hf), fun _ f hf => ?_⟩, rfl⟩
      · show (gi m' 221 34).toInt = 1 - (gi m' 221 13).toInt
        rw [i34, i13]; exact a4
      · rw [f41, I 44 rfl]
        exact rp_eq t7 okb (fun k q i i0 i1 => by
          by_cases w : k = 243
          · rw [w]; exact z2 i i0 i1
          · rw [G k (by omega) (by rcases q with rfl | rfl | rfl | rfl | rfl <;> first | rfl | exact absurd rfl w)]) (fun i _ _ => by rw [G 247 (by decide) rfl])
      · intro f hf
        rcases List.mem_cons.1 hf with q | q
        · rw [q]
          refine ⟨oka.1, oka.2.1, fun w => ?_, oka.2.2.2⟩
          rcases z3 with v | v
          · exact oka.2.2.1 (v ▸ w)
          · have w' : ph' = 0 := w
            omega
        · exact okb f q
      · have := kk'.2.2.2
        cases b with
        | nil => exact this
        | cons c e => exact this
      · rw [f42, c1, nSl]
        have : nS ((ka, pa, ph', bga, opa) :: b) = nS ((ka, pa, pha, bga, opa) :: b) := rfl
        rw [this]
        simp only [List.length_cons]
        omega
      · rw [f41, I 44 rfl]
        have := d1.2.2
        omega
      · simp only [List.head?_cons, Option.some.injEq] at hf
        rw [← hf]
        exact bga0
    have e243 := GC 243 (by decide)
    exact key pha (by rw [e243, q]; exact t3) (fun i _ _ => by rw [e243, q]) (Or.inl rfl)
theorem PI_clsF2 {mr m C m' : zM} {fm k p ph bg : Int} {r : List Fm} (hm : aTm aT0 m) (h : PI mr m fm ((k, p, ph, bg, []) :: r) 1) (F : fr [238, 239, 243] [33, 41, 42] m C) (Q : ahQ C m') (e41 : (gi C 221 41).toInt = (gi m 221 41).toInt - 1) (e42 : (gi C 221 42).toInt = (gi m 221 42).toInt - 1) (hk : k = 2 ∨ k = 4 ∨ k = 5)
    (hc : (¬ k = 4 ∧ gi C 221 33 = gi m 221 33 ∧ ga C 238 = ga m 238 ∧ ga C 239 = ga m 239) ∨ (k = 4 ∧ (gi C 221 33).toInt = (gi m 221 33).toInt + 1 ∧ ∃ x y x9 z9 : Int32, x.toInt = 1600 * (gi m 221 34).toInt + (gi m 221 33).toInt ∧ y.toInt = gn (ga m 245) ((gi m 221 41).toInt - 1) ∧ ga C 238 = (ga m 238).set x.toNatClampNeg y ∧ x9.toInt = 1600 * (gi m 221 34).toInt + (gi m 221 33).toInt ∧ ga C 239 = (ga m 239).set x9.toNatClampNeg z9))
    {x : Int32} (x1 : x.toInt = (gi m 221 41).toInt - 2) (x2 : ga C 243 = (ga m 243).set x.toNatClampNeg 2) (sg : ¬ (gi m 221 3).toInt = 0) : ∃ l', PI mr m' fm l' 1 ∧ abL l' = ph2 (abL r) := by
  have pp := PI_pp hm h
  have rg := PI_rg hm h
  have gt := ah_gt Q h.1.2.1 (fr_gi F rfl) sg
  have gl3 := gl_243 hm
  have FF : fr [238, 239, 243] [3, 4, 5, 6, 7, 12, 33, 41, 42] m m' := fr_tr (fr_up F rfl rfl) (fr_up Q.1 rfl rfl)
  have G : ∀ k, ¬ k = 221 → [238, 239, 243].contains k = false → ga m' k = ga m k := fun k a b => fr_ga FF a b
  have GC : ∀ k, ¬ k = 221 → ga m' k = ga C k := fun k a => fr_ga Q.1 a rfl
  have I : ∀ i, [3, 4, 5, 6, 7, 12, 33, 41, 42].contains i = false → gi m' 221 i = gi m 221 i := fun i a => fr_gi FF a
  have f41 : (gi m' 221 41).toInt = (gi m 221 41).toInt - 1 := by rw [fr_gi Q.1 rfl]; exact e41
  have f42 : (gi m' 221 42).toInt = (gi m 221 42).toInt - 1 := by rw [fr_gi Q.1 rfl]; exact e42
  have f33 : gi m' 221 33 = gi C 221 33 := fr_gi Q.1 rfl
  have h8 : fk m' = 0 := by show (gi m' 221 8).toInt = 0; rw [I 8 rfl]; exact h.1.2.2.1
  have hh := h
  obtain ⟨⟨a1, a2, a3, a4⟩, ⟨b1, b2, b3⟩, ⟨c1, c2⟩, ⟨d1, d2⟩, u1, u2⟩ := h
  obtain ⟨⟨r1, r2, r3, r4, r5⟩, r6, r7⟩ := b1
  cases r with
  | nil =>
    have : 0 ≤ k ∧ k ≤ 1 := b3
    omega
  | cons a b =>
    obtain ⟨ka, pa, pha, bga, opa⟩ := a
    have kk' : (2 ≤ k ∧ k ≤ 6) ∧ (k = 3 ∨ k = 4 → p = 36 ∨ p = 37 ∨ p = 44) ∧ (k = 6 → p = 44) ∧ kd ((ka, pa, pha, bga, opa) :: b) := b3
    have okr : okL ((ka, pa, pha, bga, opa) :: b) := fun g hg => b2 g (List.mem_cons_of_mem _ hg)
    have okb : okL b := fun g hg => okr g (List.mem_cons_of_mem _ hg)
    have oka := okr _ List.mem_cons_self
    have i34 : gi m' 221 34 = gi m 221 34 := I 34 rfl
    have i13 : gi m' 221 13 = gi m 221 13 := I 13 rfl
    have hi : inI m' = inI m := by show (gi m' 221 34).toInt = _; rw [i34]
    have hSl : hS ((k, p, ph, bg, []) :: (ka, pa, pha, bga, opa) :: b) = arF (k, p, ph, bg, []) + hS ((ka, pa, pha, bga, opa) :: b) := by
      show 0 + arF (k, p, ph, bg, []) + hS ((ka, pa, pha, bga, opa) :: b) = _
      omega
    have hSb := hS_b okr
    have are : arF (k, p, ph, bg, []) = (if k = 4 then (if p = 44 then (2 : Int) else 1) else if k = 3 then (if p = 44 then 1 else 0) else 0) := rfl
    have KH : kB mr m' ∧ ((gi m 221 33).toInt ≤ (gi m' 221 33).toInt ∧ (gi m' 221 33).toInt ≤ (gi m 221 33).toInt + 1) ∧ hgt (ga m' 238) (1600 * inI m + fm).toNat ((gi m' 221 33).toInt - fm).toNat = some (hS ((ka, pa, pha, bga, opa) :: b) + 1).toNat := by
      rcases hc with ⟨n4, q33, q238, q239⟩ | ⟨k4, q33, x, y, x9, z9, hx, hy, q238, hx9, q239⟩
      · have z : arF (k, p, ph, bg, []) = 0 := by rw [are, if_neg n4, if_neg (by omega)]
        have G238 : ga m' 238 = ga m 238 := (GC 238 (by decide)).trans q238
        have G239 : ga m' 239 = ga m 239 := (GC 239 (by decide)).trans q239
        refine ⟨⟨fr_tr a1.1 (fr_up FF rfl rfl), fun k hk => ?_, fun k hk w _ _ => ?_, fun i z1 z2 => ?_, by rw [f33, q33]; exact a1.2.2.2.2.1, fun i z1 z2 => ?_, fun i z1 z2 => ?_, fun i z1 z2 => ?_⟩, by rw [f33, q33]; omega, ?_⟩
        · rw [G k (by omega) (by rcases hk with rfl | rfl <;> decide)]; exact a1.2.1 k hk
        · rw [G k (by omega) (by rcases hk with rfl | rfl <;> decide)]; exact a1.2.2.1 k hk w (by assumption) (by assumption)
        · rw [G238]; exact a1.2.2.2.1 i z1 z2
        · rw [G238]; exact a1.2.2.2.2.2.1 i z1 z2
        · rw [G239]; exact a1.2.2.2.2.2.2.1 i z1 z2
        · rw [G239]; exact a1.2.2.2.2.2.2.2 i z1 z2
        · rw [G238, f33, q33]
          rw [hSl, z, show 0 + hS ((ka, pa, pha, bga, opa) :: b) + 1 = hS ((ka, pa, pha, bga, opa) :: b) + 1 by omega] at d2
          exact d2
      · have pv := kk'.2.1 (Or.inr k4)
        have yp : y.toInt = p := hy.trans r2
        have q33' : (gi m' 221 33).toInt = (gi m 221 33).toInt + 1 := by rw [f33]; exact q33
        have arv : arF (k, p, ph, bg, []) = (if p = 44 then (2 : Int) else 1) := by rw [are, if_pos k4]
        have hst1 : hst y (hS ((k, p, ph, bg, []) :: (ka, pa, pha, bga, opa) :: b) + 1).toNat = some (hS ((ka, pa, pha, bga, opa) :: b) + 1).toNat := by
          rw [hSl, arv]
          unfold hst
          rw [if_neg (by omega), if_neg (by omega)]
          by_cases q : p = 44
          · rw [if_pos (by omega), if_pos q, if_pos (by omega)]
            congr 1
            omega
          · rw [if_neg (by omega), if_neg q, if_pos (by omega)]
            congr 1
            omega
        have cd := cd_add hm hh (fr_up FF rfl rfl) q33' hx ((GC 238 (by decide)).trans q238) hx9 ((GC 239 (by decide)).trans q239) hst1
        exact ⟨cd.1, by omega, cd.2⟩
    obtain ⟨kb, l33, hgt'⟩ := KH
    have n0 : (gi m 221 44).toInt - (((k, p, ph, bg, []) : Fm).2.2.2.2.length : Int) = (gi m 221 44).toInt := by
      show _ - ((0 : Nat) : Int) = _
      omega
    rw [n0] at r7
    obtain ⟨⟨t1, t2, t3, t4, t5⟩, t6, t7⟩ := r7
    have nSl : nS ((k, p, ph, bg, []) :: (ka, pa, pha, bga, opa) :: b) = nS ((ka, pa, pha, bga, opa) :: b) := by
      show 0 + nS ((ka, pa, pha, bga, opa) :: b) = _
      omega
    have bga0 : bga = 0 := u1 (ka, pa, pha, bga, opa) List.mem_cons_self
    have key : ∀ ph' : Int, gn (ga m' 243) ((gi m 221 41).toInt - 1 - 1) = ph' → (∀ i, 0 ≤ i → i < (gi m 221 41).toInt - 1 - 1 → gn (ga m' 243) i = gn (ga m 243) i) → (ph' = pha ∨ ph' = 2) → ∃ l', PI mr m' fm l' 1 ∧ abL l' = (ka, ph', bga, opa.map clO ++ prI (ka, pa, pha, bga, opa)) :: abL b := by
      intro ph' z1 z2 z3
      refine ⟨(ka, pa, ph', bga, opa) :: b, ⟨⟨kb, ⟨Q.2.1, by omega⟩, h8, ?_⟩, ⟨⟨⟨by rw [f41, G 242 (by decide) rfl]; exact t1, by rw [f41, G 245 (by decide) rfl]; exact t2, by rw [f41]; exact z1, by rw [f41, G 244 (by decide) rfl]; exact t4, by rw [f41, G 246 (by decide) rfl, I 44 rfl]; exact t5⟩, fun i hi => by rw [G 247 (by decide) rfl, I 44 rfl]; exact t6 i hi, ?_⟩, ?_, ?_⟩, ⟨?_, by omega⟩, ⟨⟨d1.1, by omega, ?_⟩, by rw [hi]; exact hgt'⟩, fun f hf => u1 f (List.mem_cons_of_mem _ hf), fun _ f hf => ?_⟩, rfl⟩
      · show (gi m' 221 34).toInt = 1 - (gi m' 221 13).toInt
        rw [i34, i13]; exact a4
      · rw [f41, I 44 rfl]
        exact rp_eq t7 okb (fun k q i i0 i1 => by
          by_cases w : k = 243
          · rw [w]; exact z2 i i0 i1
          · rw [G k (by omega) (by rcases q with rfl | rfl | rfl | rfl | rfl <;> first | rfl | exact absurd rfl w)]) (fun i _ _ => by rw [G 247 (by decide) rfl])
      · intro f hf
        rcases List.mem_cons.1 hf with q | q
        · rw [q]
          refine ⟨oka.1, oka.2.1, fun w => ?_, oka.2.2.2⟩
          rcases z3 with v | v
          · exact oka.2.2.1 (v ▸ w)
          · have w' : ph' = 0 := w
            omega
        · exact okb f q
      · have := kk'.2.2.2
        cases b with
        | nil => exact this
        | cons c e => exact this
      · rw [f42, c1, nSl]
        have : nS ((ka, pa, ph', bga, opa) :: b) = nS ((ka, pa, pha, bga, opa) :: b) := rfl
        rw [this]
        simp only [List.length_cons]
        omega
      · rw [f41, I 44 rfl]
        have := d1.2.2
        omega
      · simp only [List.head?_cons, Option.some.injEq] at hf
        rw [← hf]
        exact bga0
    have e243 := GC 243 (by decide)
    have x1' : x.toInt = (gi m 221 41).toInt - 1 - 1 := by omega
    have le : 2 ≤ (gi m 221 41).toInt := by
      have e := rg.1
      simp only [List.length_cons] at e
      omega
    exact key 2 (by rw [e243, x2, gn_set x1' (by omega) (by omega) (by omega), if_pos rfl]; rfl) (fun i i0 i1 => by rw [e243, x2, gn_set x1' (by omega) (by omega) i0, if_neg (by omega)]) (Or.inr rfl)
/-- what joins leaves, with what it prints -/
def jnF (mem m : zM) (mr : zM) (fm : Int) (f : Fm) (r : List Fm) (least : Int) : Prop := fr [238, 239] [33, 42, 44] mem m ∧ ∃ s : List Int, s.map clO ++ prI f = jnR least (abF f).2.2.2 ∧ (∀ q, s.head? = some q → rkI q < least) ∧ PI mr m fm ((f.1, f.2.1, f.2.2.1, f.2.2.2.1, s) :: r) 1 ∧ mC m = mC mem ++ jnE least (abF f).2.2.2
section JI
variable {m0 mem m : zM} {f : Fm} {s0 s t : List Int} {q L : Int}
def jnV (m0 mem : zM) (f : Fm) (s0 s : List Int) (L : Int) : Prop := jnR L (s0.map clO ++ prI f) = jnR L (s.map clO ++ prI f) ∧ mC m0 ++ jnE L (s0.map clO ++ prI f) = mC mem ++ jnE L (s.map clO ++ prI f)
theorem jz_1 (hL : 1 ≤ L) (h : jnV m0 mem f s0 [] L) : ([] : List Int).map clO ++ prI f = jnR L (s0.map clO ++ prI f) := ((pr_jn f hL).2).symm.trans h.1.symm
theorem jz_2 (hL : 1 ≤ L) (h : jnV m0 mem f s0 [] L) : mC mem = mC m0 ++ jnE L (s0.map clO ++ prI f) := by
  have e := h.2
  rw [show jnE L (([] : List Int).map clO ++ prI f) = [] from (pr_jn f hL).1, List.append_nil] at e
  exact e.symm
theorem jc_k (oq : opI q) (k : rkI q < L) : jnE L ((q :: t).map clO ++ prI f) = [] ∧ jnR L ((q :: t).map clO ++ prI f) = (q :: t).map clO ++ prI f := jn_lo (fun z hz => by
  have e : clO q = z := Option.some.inj hz
  rw [← e, rk_cl oq]
  exact k)
theorem jc_1 (oq : opI q) (k : rkI q < L) (h : jnV m0 mem f s0 (q :: t) L) : (q :: t).map clO ++ prI f = jnR L (s0.map clO ++ prI f) := (jc_k oq k).2.symm.trans h.1.symm
theorem jc_2 (oq : opI q) (k : rkI q < L) (h : jnV m0 mem f s0 (q :: t) L) : mC mem = mC m0 ++ jnE L (s0.map clO ++ prI f) := by
  have e := h.2
  rw [(jc_k oq k).1, List.append_nil] at e
  exact e.symm
theorem jp_1 {v : Int} (oq : opI q) (k : L ≤ rkI q) (h : jnV m0 mem f s0 (q :: t) L) (e : mC m = mC mem ++ [cdI q v]) : jnV m0 m f s0 t L := by
  have j := jn_hi (L := L) (q := clO q) (t := t.map clO ++ prI f) (by rw [rk_cl oq]; exact k)
  refine ⟨h.1.trans j.2, h.2.trans ?_⟩
  rw [e, cd_op oq, List.append_assoc]
  show mC mem ++ jnE L (clO q :: (t.map clO ++ prI f)) = _
  rw [j.1]
  rfl
end JI
theorem jn_loopF {mr m0 : zM} {d : Nat} {fm k p ph bg : Int} {s0 : List Int} {r : List Fm} {ls : Int32} (hls : 1 ≤ ls.toInt) : ∀ (s : List Int) (mem : zM), aTm aT0 mem → fr [238, 239] [33, 42, 44] m0 mem → jnV m0 mem (k, p, ph, bg, s0) s0 s ls.toInt → PI mr mem fm ((k, p, ph, bg, s) :: r) 1 → yR zpg tX12_joins (d + 2) (0, [(0, .ref 221), (1, .int ls)], [], mem) (fun r' m => r' = none ∧ aTm aT0 m ∧ jnF m0 m mr fm (k, p, ph, bg, s0) r ls.toInt) := by
  intro s
  induction s with
  | nil =>
    intro mem hm hf hs hP
    have rg := PI_rg hm hP
    have b5 : gn (ga mem 246) ((gi mem 221 41).toInt - 1) = (gi mem 221 44).toInt - 0 := hP.2.1.1.1.2.2.2.2
    have d0 := hP.2.2.2.1.1
    have c7 := hP.2.2.1.2
    exact w_joins hm (by omega) (by omega) (by omega) (by omega) (by omega)
        (fun x1 e2 y3 e4 q5 hm2 => ⟨rfl, hm2, hf, [], jz_1 hls hs, fun _ h => by simp at h, hP, jz_2 hls hs⟩)
        (fun x1 e2 y3 e4 q5 x6 e7 y8 e9 v10 k11 q12 hm2 => ⟨rfl, hm2, hf, [], jz_1 hls hs, fun _ h => by simp at h, hP, jz_2 hls hs⟩)
        (fun x1 e2 y3 e4 q5 x6 e7 y8 e9 v10 k11 q12 x13 e14 y15 e16 x17 e18 x19 e20 x21 e22 x23 e24 x25 e26 y27 e28 q29 hm2 => by exfalso; omega)
        (fun x1 e2 y3 e4 q5 x6 e7 y8 e9 v10 k11 q12 x13 e14 y15 e16 x17 e18 x19 e20 x21 e22 x23 e24 x25 e26 y27 e28 q29 x30 e31 hm2 => by exfalso; omega)
  | cons q t ih =>
    intro mem hm hf hs hP
    have rg := PI_rg hm hP
    have b5 : gn (ga mem 246) ((gi mem 221 41).toInt - 1) = (gi mem 221 44).toInt - (((q :: t).length : Nat) : Int) := hP.2.1.1.1.2.2.2.2
    have rn := (rp_D hP.2.1.1.2.2 (fun f hf => hP.2.1.2.1 f (List.mem_cons_of_mem _ hf))).2.1
    have rn : 0 ≤ (gi mem 221 44).toInt - (((q :: t).length : Nat) : Int) := rn
    have len : (((q :: t : List Int).length : Nat) : Int) = (t.length : Int) + 1 := by simp
    have oq : opI q := (hP.2.1.2.1 _ List.mem_cons_self).2.1 q List.mem_cons_self
    have b6 := hP.2.1.1.2.1 0 (by show 0 < (q :: t).length; simp)
    have b6 : gn (ga mem 247) ((gi mem 221 44).toInt - 1 - ((0 : Nat) : Int)) = q := b6
    have b6 : gn (ga mem 247) ((gi mem 221 44).toInt - 1) = q := by rw [show (gi mem 221 44).toInt - 1 = (gi mem 221 44).toInt - 1 - ((0 : Nat) : Int) by omega]; exact b6
    have d0 := hP.2.2.2.1.1
    have c7 := hP.2.2.1.2
    have ip := hP.1.2.2.2
    have ip : (gi mem 221 34).toInt = 1 - (gi mem 221 13).toInt := ip
    have nq : 0 ≤ nn (q :: t) ∧ q = 43 → 1 ≤ nn (q :: t) := fun w => by
      have := nb_nn t
      simp only [nn, if_pos w.2]
      omega
    exact w_joins hm (by omega) (by omega) (by omega) (by omega) (by omega)
        (fun x1 e2 y3 e4 q5 hm2 => by exfalso; omega)
        (fun x1 e2 y3 e4 q5 x6 e7 y8 e9 v10 k11 q12 hm2 => by
          have R := k11
          rw [e9, b6] at R
          exact ⟨rfl, hm2, hf, q :: t, jc_1 oq (by omega) hs, fun z h => by
            simp only [List.head?_cons, Option.some.injEq] at h
            rw [← h]
            omega, hP, jc_2 oq (by omega) hs⟩)
        (fun x1 e2 y3 e4 q5 x6 e7 y8 e9 v10 k11 q12 x13 e14 y15 e16 x17 e18 x19 e20 x21 e22 x23 e24 x25 e26 y27 e28 q29 hm2 => by
          have E44 : gi (si (sx (sx (si mem 221 44 x13) 238 x19 y15) 239 x23 0) 221 33 x25) 221 44 = x13 := ((gi_sv_ne (by decide)).trans ((gi_sa).trans ((gi_sa).trans (gi_eqO (isO_of hm) (by decide)))))
          have E33 : gi (si (sx (sx (si mem 221 44 x13) 238 x19 y15) 239 x23 0) 221 33 x25) 221 33 = x25 := (gi_eqO (isO_sa (by decide) (isO_sa (by decide) (isO_sv (isO_of hm)))) (by decide))
          have E42 : gi (si (sx (sx (si mem 221 44 x13) 238 x19 y15) 239 x23 0) 221 33 x25) 221 42 = (gi mem 221 42) := ((gi_sv_ne (by decide)).trans ((gi_sa).trans ((gi_sa).trans (gi_sv_ne (by decide)))))
          have G : ga (si (sx (sx (si mem 221 44 x13) 238 x19 y15) 239 x23 0) 221 33 x25) 238 = ((ga mem 238).set x19.toNatClampNeg y15) := ((ga_sv).trans ((ga_sa_ne (by decide)).trans (ga_sa_eq.trans (congrArg (fun l => List.set l x19.toNatClampNeg y15) (ga_sv)))))
          have G9 : ga (si (sx (sx (si mem 221 44 x13) 238 x19 y15) 239 x23 0) 221 33 x25) 239 = ((ga mem 239).set x23.toNatClampNeg 0) := ((ga_sv).trans (ga_sa_eq.trans (congrArg (fun l => List.set l x23.toNatClampNeg 0) ((ga_sa_ne (by decide)).trans (ga_sv)))))
          have F2 : fr [238, 239] [33, 42, 44] mem (si (sx (sx (si mem 221 44 x13) 238 x19 y15) 239 x23 0) 221 33 x25) := fr_sv rfl (fr_sa rfl (fr_sa rfl (fr_sv rfl (fr_rf))))
          have R := k11
          rw [e9, b6] at R
          have ey : Int32.toInt y15 = q := by omega
          have K := mC_add hm (by omega) (by rw [E33]; omega) (fr_gi F2 rfl) (by omega) G (by omega) G9
          rw [ey] at K
          exact ih _ hm2 (fr_tr hf F2) (jp_1 oq (by omega) hs K) (PI_pop (x := x19) (y := y15) (x9 := x23) (z9 := 0) hm hP F2 (by rw [E44]; omega) (by rw [E33]; omega) (by rw [E42, if_neg (show ¬ q = 43 by omega)]; omega) (by omega) (by omega) G (by omega) G9))
        (fun x1 e2 y3 e4 q5 x6 e7 y8 e9 v10 k11 q12 x13 e14 y15 e16 x17 e18 x19 e20 x21 e22 x23 e24 x25 e26 y27 e28 q29 x30 e31 hm2 => by
          have E44 : gi (si (si (sx (sx (si mem 221 44 x13) 238 x19 y15) 239 x23 0) 221 33 x25) 221 42 x30) 221 44 = x13 := ((gi_sv_ne (by decide)).trans ((gi_sv_ne (by decide)).trans ((gi_sa).trans ((gi_sa).trans (gi_eqO (isO_of hm) (by decide))))))
          have E33 : gi (si (si (sx (sx (si mem 221 44 x13) 238 x19 y15) 239 x23 0) 221 33 x25) 221 42 x30) 221 33 = x25 := ((gi_sv_ne (by decide)).trans (gi_eqO (isO_sa (by decide) (isO_sa (by decide) (isO_sv (isO_of hm)))) (by decide)))
          have E42 : gi (si (si (sx (sx (si mem 221 44 x13) 238 x19 y15) 239 x23 0) 221 33 x25) 221 42 x30) 221 42 = x30 := (gi_eqO (isO_sv (isO_sa (by decide) (isO_sa (by decide) (isO_sv (isO_of hm))))) (by decide))
          have G : ga (si (si (sx (sx (si mem 221 44 x13) 238 x19 y15) 239 x23 0) 221 33 x25) 221 42 x30) 238 = ((ga mem 238).set x19.toNatClampNeg y15) := ((ga_sv).trans ((ga_sv).trans ((ga_sa_ne (by decide)).trans (ga_sa_eq.trans (congrArg (fun l => List.set l x19.toNatClampNeg y15) (ga_sv))))))
          have G9 : ga (si (si (sx (sx (si mem 221 44 x13) 238 x19 y15) 239 x23 0) 221 33 x25) 221 42 x30) 239 = ((ga mem 239).set x23.toNatClampNeg 0) := ((ga_sv).trans ((ga_sv).trans (ga_sa_eq.trans (congrArg (fun l => List.set l x23.toNatClampNeg 0) ((ga_sa_ne (by decide)).trans (ga_sv))))))
          have F2 : fr [238, 239] [33, 42, 44] mem (si (si (sx (sx (si mem 221 44 x13) 238 x19 y15) 239 x23 0) 221 33 x25) 221 42 x30) := fr_sv rfl (fr_sv rfl (fr_sa rfl (fr_sa rfl (fr_sv rfl (fr_rf)))))
          have R := k11
          rw [e9, b6] at R
          have ey : Int32.toInt y15 = q := by omega
          have K := mC_add hm (by omega) (by rw [E33]; omega) (fr_gi F2 rfl) (by omega) G (by omega) G9
          rw [ey] at K
          exact ih _ hm2 (fr_tr hf F2) (jp_1 oq (by omega) hs K) (PI_pop (x := x19) (y := y15) (x9 := x23) (z9 := 0) hm hP F2 (by rw [E44]; omega) (by rw [E33]; omega) (by rw [E42, if_pos (show q = 43 by omega)]; omega) (by omega) (by omega) G (by omega) G9))
theorem h_joinsF {mr mem : zM} {d : Nat} (hd : 3 ≤ d) {fm : Int} {f : Fm} {r : List Fm} {ls : Int32} (hls : 1 ≤ ls.toInt) (hm : aTm aT0 mem) (hP : PI mr mem fm (f :: r) 1) : yC zpg d 183 [.ref 221, .int ls] mem (fun r' m => r' = none ∧ aTm aT0 m ∧ jnF mem m mr fm f r ls.toInt) := by
  obtain ⟨d, rfl⟩ : ∃ q, d = q + 3 := ⟨d - 3, by omega⟩
  obtain ⟨k, p, ph, bg, s⟩ := f
  refine yC_of (t := tX12_joins) rfl rfl ?_
  exact jn_loopF (s0 := s) hls s mem hm fr_rf ⟨rfl, rfl⟩ hP
