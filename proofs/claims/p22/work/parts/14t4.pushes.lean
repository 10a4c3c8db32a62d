/-! steps of a sum's frames -/
theorem PI_hd {mr m m' : zM} {fm op op' : Int} {f f' : Fm} {r : List Fm} (hm : aTm aT0 m) (h : PI mr m fm (f :: r) op) (hf : fr [238, 239, 242, 243, 244, 245, 247] [3, 4, 5, 6, 7, 8, 9, 12, 33, 42, 44, 45] m m') (kb : kB mr m') (hT : tOK m') (h8 : fk m' = 0)
    (hA : ∀ k, k = 242 ∨ k = 243 ∨ k = 244 ∨ k = 245 → ∀ i, 0 ≤ i → i < (gi m 221 41).toInt - 1 → gn (ga m' k) i = gn (ga m k) i) (hO : ∀ i, 0 ≤ i → i < (gi m 221 44).toInt - (f.2.2.2.2.length : Int) → gn (ga m' 247) i = gn (ga m 247) i)
    (v1 : gn (ga m' 242) ((gi m 221 41).toInt - 1) = f'.1) (v2 : gn (ga m' 245) ((gi m 221 41).toInt - 1) = f'.2.1) (v3 : gn (ga m' 243) ((gi m 221 41).toInt - 1) = f'.2.2.1) (v4 : gn (ga m' 244) ((gi m 221 41).toInt - 1) = f'.2.2.2.1)
    (vO : ∀ i : Nat, i < f'.2.2.2.2.length → gn (ga m' 247) ((gi m' 221 44).toInt - 1 - (i : Int)) = f'.2.2.2.2.getD i 0) (e44 : (gi m' 221 44).toInt = (gi m 221 44).toInt - (f.2.2.2.2.length : Int) + (f'.2.2.2.2.length : Int)) (e42 : (gi m' 221 42).toInt = (gi m 221 42).toInt + nn f'.2.2.2.2 - nn f.2.2.2.2) (l42 : (gi m' 221 42).toInt ≤ 7)
    (ok : okF f') (hk : kd (f' :: r)) (hb : op' = 1 → f'.2.2.2.1 = 0) (h33 : (gi m 221 33).toInt ≤ (gi m' 221 33).toInt) (hs : (gi m' 221 33).toInt + (gi m' 221 44).toInt + (gi m 221 41).toInt ≤ (gi m' 221 4).toInt) (hh : hgt (ga m' 238) (1600 * inI m + fm).toNat ((gi m' 221 33).toInt - fm).toNat = some (hS (f' :: r) + op').toNat) : PI mr m' fm (f' :: r) op' := by
  obtain ⟨⟨a1, a2, a3, a4⟩, ⟨b1, b2, b3⟩, ⟨c1, c2⟩, ⟨d1, d2⟩, e1, e2⟩ := h
  obtain ⟨⟨r1, r2, r3, r4, r5⟩, r6, r7⟩ := b1
  have okr : okL r := fun g hg => b2 g (List.mem_cons_of_mem _ hg)
  have D41 : gi m' 221 41 = gi m 221 41 := fr_gi hf rfl
  have i34 : gi m' 221 34 = gi m 221 34 := fr_gi hf rfl
  have i13 : gi m' 221 13 = gi m 221 13 := fr_gi hf rfl
  have g246 : ga m' 246 = ga m 246 := fr_ga hf (by decide) rfl
  have rpr : rp m' r ((gi m 221 41).toInt - 1) ((gi m 221 44).toInt - (f.2.2.2.2.length : Int)) := rp_eq r7 okr (fun k q i i0 i1 => by
    rcases q with q | q | q | q | q
    · exact hA k (by omega) i i0 i1
    · exact hA k (by omega) i i0 i1
    · exact hA k (by omega) i i0 i1
    · exact hA k (by omega) i i0 i1
    · rw [q, g246]) hO
  have nse : nS (f :: r) = nn f.2.2.2.2 + nS r := rfl
  have nse' : nS (f' :: r) = nn f'.2.2.2.2 + nS r := rfl
  have hi : inI m' = inI m := by show (gi m' 221 34).toInt = _; rw [i34]
  have en : (gi m' 221 44).toInt - (f'.2.2.2.2.length : Int) = (gi m 221 44).toInt - (f.2.2.2.2.length : Int) := by omega
  simp only [List.length_cons] at c1
  refine ⟨⟨kb, hT, h8, ?_⟩, ⟨⟨⟨by rw [D41]; exact v1, by rw [D41]; exact v2, by rw [D41]; exact v3, by rw [D41]; exact v4, by rw [D41, g246, r5]; omega⟩, vO, by rw [D41, en]; exact rpr⟩, ?_, hk⟩, ⟨?_, l42⟩, ⟨⟨d1.1, by omega, by rw [D41]; exact hs⟩, by rw [hi]; exact hh⟩, e1, ?_⟩
  · show (gi m' 221 34).toInt = 1 - (gi m' 221 13).toInt
    rw [i34, i13]; exact a4
  · intro g hg
    rcases List.mem_cons.1 hg with q | q
    · rw [q]; exact ok
    · exact okr g q
  · rw [e42, nse']
    simp only [List.length_cons]
    omega
  · intro q g hg
    simp only [List.head?_cons, Option.some.injEq] at hg
    rw [← hg]; exact hb q
/-- a step over signs in which the sums' state stays -/
theorem PI_fr {mr m m' : zM} {fm op : Int} {l : List Fm} (h : PI mr m fm l op) (hf : fr [] [3, 4, 5, 6, 7, 8, 9, 12, 45] m m') (hT : tOK m') (h8 : fk m' = 0) (hs : (gi m 221 4).toInt ≤ (gi m' 221 4).toInt) : PI mr m' fm l op := by
  obtain ⟨⟨a1, a2, a3, a4⟩, ⟨b1, b2, b3⟩, ⟨c1, c2⟩, ⟨d1, d2⟩, e1, e2⟩ := h
  have D41 : gi m' 221 41 = gi m 221 41 := fr_gi hf rfl
  have D42 : gi m' 221 42 = gi m 221 42 := fr_gi hf rfl
  have D44 : gi m' 221 44 = gi m 221 44 := fr_gi hf rfl
  have D33 : gi m' 221 33 = gi m 221 33 := fr_gi hf rfl
  have i34 : gi m' 221 34 = gi m 221 34 := fr_gi hf rfl
  have i13 : gi m' 221 13 = gi m 221 13 := fr_gi hf rfl
  have g : ∀ k, ¬ k = 221 → ga m' k = ga m k := fun k q => fr_ga hf q rfl
  have hi : inI m' = inI m := by show (gi m' 221 34).toInt = _; rw [i34]
  refine ⟨⟨kB_tr a1 (kB_fr hf rfl rfl rfl rfl rfl rfl rfl rfl), hT, h8, ?_⟩, ⟨?_, b2, b3⟩, ⟨by rw [D42]; exact c1, by rw [D42]; exact c2⟩, ⟨⟨d1.1, by rw [D33]; exact d1.2.1, by rw [D33, D44, D41]; omega⟩, by rw [hi, D33, g 238 (by decide)]; exact d2⟩, e1, e2⟩
  · show (gi m' 221 34).toInt = 1 - (gi m' 221 13).toInt
    rw [i34, i13]; exact a4
  · rw [D41, D44]
    exact rp_eq b1 b2 (fun k q i _ _ => by rw [g k (by omega)]) (fun i _ _ => by rw [g 247 (by decide)])
theorem PI_push {mr m m' : zM} {fm K p : Int} {l : List Fm} (hm : aTm aT0 m) (h : PI mr m fm l 0) (hb : ∀ f, l.head? = some f → f.2.2.2.1 = 0) (hf : fr [242, 243, 244, 245, 246] [3, 4, 5, 6, 7, 8, 9, 12, 41, 42] m m') (hT : tOK m') (h8 : fk m' = 0)
    (hA : ∀ k, k = 242 ∨ k = 243 ∨ k = 244 ∨ k = 245 ∨ k = 246 → ∀ i, 0 ≤ i → i < (gi m 221 41).toInt → gn (ga m' k) i = gn (ga m k) i)
    (v1 : gn (ga m' 242) (gi m 221 41).toInt = K) (v2 : gn (ga m' 245) (gi m 221 41).toInt = p) (v3 : gn (ga m' 243) (gi m 221 41).toInt = 0) (v4 : gn (ga m' 244) (gi m 221 41).toInt = 1) (v5 : gn (ga m' 246) (gi m 221 41).toInt = (gi m 221 44).toInt)
    (e41 : (gi m' 221 41).toInt = (gi m 221 41).toInt + 1) (e42 : (gi m' 221 42).toInt = (gi m 221 42).toInt + 1) (l42 : (gi m' 221 42).toInt ≤ 7) (hK : 2 ≤ K ∧ K ≤ 6) (hp : K = 3 ∨ K = 4 → p = 36 ∨ p = 37 ∨ p = 44) (h6 : K = 6 → p = 44) (ha : arF (K, p, 0, 1, []) = 0) (hs : (gi m 221 4).toInt < (gi m' 221 4).toInt) : PI mr m' fm ((K, p, 0, 1, []) :: l) 0 := by
  obtain ⟨⟨a1, a2, a3, a4⟩, ⟨b1, b2, b3⟩, ⟨c1, c2⟩, ⟨d1, d2⟩, e1, e2⟩ := h
  have D44 : gi m' 221 44 = gi m 221 44 := fr_gi hf rfl
  have D33 : gi m' 221 33 = gi m 221 33 := fr_gi hf rfl
  have i34 : gi m' 221 34 = gi m 221 34 := fr_gi hf rfl
  have i13 : gi m' 221 13 = gi m 221 13 := fr_gi hf rfl
  have g238 : ga m' 238 = ga m 238 := fr_ga hf (by decide) rfl
  have g247 : ga m' 247 = ga m 247 := fr_ga hf (by decide) rfl
  have hi : inI m' = inI m := by show (gi m' 221 34).toInt = _; rw [i34]
  have ed : (gi m' 221 41).toInt - 1 = (gi m 221 41).toInt := by omega
  have hSe : hS ((K, p, 0, 1, []) :: l) = hS l := by
    have e : hS ((K, p, 0, 1, []) :: l) = nb [] + arF (K, p, 0, 1, []) + hS l := rfl
    rw [e, ha]
    show 0 + 0 + hS l = hS l
    omega
  have nSe : nS ((K, p, 0, 1, []) :: l) = nS l := by
    show 0 + nS l = nS l
    omega
  refine ⟨⟨kB_tr a1 (kB_fr hf rfl rfl rfl rfl rfl rfl rfl rfl), hT, h8, ?_⟩, ⟨⟨⟨by rw [ed]; exact v1, by rw [ed]; exact v2, by rw [ed]; exact v3, by rw [ed]; exact v4, by rw [ed, v5, D44]; show _ = _ - ((0 : Nat) : Int); omega⟩, fun i hi => absurd hi (Nat.not_lt_zero _), ?_⟩, ?_, ?_⟩, ⟨?_, l42⟩, ⟨⟨d1.1, by rw [D33]; exact d1.2.1, by rw [D33, D44]; omega⟩, by rw [hi, D33, g238, hSe]; exact d2⟩, ?_, fun q => by omega⟩
  · show (gi m' 221 34).toInt = 1 - (gi m' 221 13).toInt
    rw [i34, i13]; exact a4
  · have e0 : (gi m' 221 44).toInt - (((K, p, 0, 1, []) : Fm).2.2.2.2.length : Int) = (gi m 221 44).toInt := by
      rw [D44]
      show _ - ((0 : Nat) : Int) = _
      omega
    rw [ed, e0]
    exact rp_eq b1 b2 hA (fun i _ _ => by rw [g247])
  · intro f hf
    rcases List.mem_cons.1 hf with q | q
    · rw [q]
      exact ⟨trivial, fun o ho => absurd ho List.not_mem_nil, fun _ o ho => absurd ho List.not_mem_nil, fun _ o ho => absurd ho List.not_mem_nil⟩
    · exact b2 f q
  · cases l with
    | nil => exact b3.elim
    | cons g r => exact ⟨hK, hp, h6, b3⟩
  · rw [e42, nSe]
    simp only [List.length_cons]
    omega
  · intro f hf
    cases l with
    | nil => exact b3.elim
    | cons g r =>
      rcases List.mem_cons.1 hf with q | q
      · rw [q]; exact hb g rfl
      · exact e1 f q
/-- one code more -/
theorem cd_add {mr m m' : zM} {fm op : Int} {l : List Fm} {x y x9 z9 : Int32} {h' : Nat} (hm : aTm aT0 m) (h : PI mr m fm l op) (hf : fr [238, 239, 242, 243, 244, 245, 246, 247] [3, 4, 5, 6, 7, 8, 9, 12, 33, 41, 42, 44, 45] m m') (e33 : (gi m' 221 33).toInt = (gi m 221 33).toInt + 1) (hx : x.toInt = 1600 * inI m + (gi m 221 33).toInt) (e238 : ga m' 238 = (ga m 238).set x.toNatClampNeg y) (hx9 : x9.toInt = 1600 * inI m + (gi m 221 33).toInt) (e239 : ga m' 239 = (ga m 239).set x9.toNatClampNeg z9) (hy : hst y (hS l + op).toNat = some h') : kB mr m' ∧ hgt (ga m' 238) (1600 * inI m + fm).toNat ((gi m' 221 33).toInt - fm).toNat = some h' := by
  have rg := PI_rg hm h
  obtain ⟨⟨a1, a2, a3, a4⟩, ⟨b1, b2, b3⟩, ⟨c1, c2⟩, ⟨d1, d2⟩, e1, e2⟩ := h
  have gl := gl_238 hm
  have gl9 := gl_239 hm
  have hc := kB_b a1
  have ga' : ∀ k, ¬ k = 221 → [238, 239, 242, 243, 244, 245, 246, 247].contains k = false → ga m' k = ga m k := fun k h1 h2 => fr_ga hf h1 h2
  refine ⟨⟨fr_tr a1.1 (fr_up hf rfl rfl), fun k hk => ?_, fun k hk w z1 z2 => ?_, fun i z1 z2 => ?_, by have q33 := a1.2.2.2.2.1; omega, fun i z1 z2 => ?_, fun i z1 z2 => ?_, fun i z1 z2 => ?_⟩, ?_⟩
  · rw [ga' k (by omega) (by rcases hk with rfl | rfl <;> decide)]; exact a1.2.1 k hk
  · rw [ga' k (by omega) (by rcases hk with rfl | rfl <;> decide)]; exact a1.2.2.1 k hk w z1 z2
  · rw [e238, gn_set hx (by omega) (by omega) (by omega), if_neg (by omega)]
    exact a1.2.2.2.1 i z1 z2
  · have q33 := a1.2.2.2.2.1
    have qi := kB_i a1
    rw [e238, gn_set hx (by omega) (by omega) (by omega), if_neg (by omega)]
    exact a1.2.2.2.2.2.1 i z1 z2
  · rw [e239, gn_set hx9 (by omega) (by omega) (by omega), if_neg (by omega)]
    exact a1.2.2.2.2.2.2.1 i z1 z2
  · have q33 := a1.2.2.2.2.1
    have qi := kB_i a1
    rw [e239, gn_set hx9 (by omega) (by omega) (by omega), if_neg (by omega)]
    exact a1.2.2.2.2.2.2.2 i z1 z2
  · have ex : x.toNatClampNeg = (1600 * inI m + fm).toNat + ((gi m 221 33).toInt - fm).toNat := by
      rw [show x.toNatClampNeg = x.toInt.toNat from rfl]
      omega
    have en : ((gi m' 221 33).toInt - fm).toNat = ((gi m 221 33).toInt - fm).toNat + 1 := by omega
    rw [en, e238, ex]
    exact hgt_add d2 (by omega) hy
