/-! the class's sums: products, sums, both, tests -/
theorem mX5 {T : List Int32} {n p : Int} {m : zM} (hR : cRd T n p m) (h : (gi m 27 4).toInt = 4) : (tkf T n p).1.2.1 = (gi m 27 5).toInt := ((cX_S hR (c := (gi m 27 5).toInt)).1 ⟨h, rfl⟩).2
section CF
variable {d : Nat} {R A : Nat} {mr mem m m' : zM} {T : List Int32} {n p q e ru v p0 : Int} {f : Fr} {r : List Fr}
section LPX
variable {w w1 w2 w3 w0 : List Int}
theorem am_6 (v : sIM T n p) : rkC (tkf T n p).1.2.1 = 6 ∧ ¬ (tkf T n p).1.2.1 = 22 := by
  rcases v with v | v | v <;> (rw [v.2]; exact ⟨rfl, by decide⟩)
theorem am_5 (v : sIA T n p) : rkC (tkf T n p).1.2.1 = 5 ∧ ¬ (tkf T n p).1.2.1 = 22 := by
  rcases v with v | v <;> (rw [v.2]; exact ⟨rfl, by decide⟩)
/-- one factor more -/
theorem lpP_1 (hp : 0 ≤ p ∧ p ≤ n) (hq : 0 ≤ q ∧ q ≤ n) (hb : bS6 T n f p0) (h : pPart T n ru w0 f r p0 w p) (v : sIM T n p) (e1 : w1 = w) (k : pPart T n ru w1 (f.1, f.2.1, 0, (tkf T n p).1.2.1 :: f.2.2.2) r (tkf T n p).2 w2 q) (e2 : w3 = w2 ++ [10000 + (tkf T n p).1.2.1]) : pPart T n ru w0 f r p0 w3 q := by
  have c := am_6 v
  subst e1
  exact h.trans ((M_am (f := (f.1, f.2.1, 0, f.2.2.2)) hp hb.1 (Or.inr v) (by rw [c.1]; exact hb.2.2)).trans (k.trans (M_fl hq (by omega) (by omega) (by omega) (by omega) e2)))
theorem lpP_0 (hp : 0 ≤ p ∧ p ≤ n) (hb : bS6 T n f p0) (h : pPart T n ru w0 f r p0 w p) (v : sIM T n p) (e1 : w1 = w) (k : Mch T n ru w1 ((f.1, f.2.1, 0, (tkf T n p).1.2.1 :: f.2.2.2) :: r) 0 (tkf T n p).2 = none) : Mch T n ru w0 (f :: r) 0 p0 = none := by
  have c := am_6 v
  subst e1
  exact h.trans ((M_am (f := (f.1, f.2.1, 0, f.2.2.2)) hp hb.1 (Or.inr v) (by rw [c.1]; exact hb.2.2)).trans k)
/-- one product more -/
theorem lpS_1 (hp : 0 ≤ p ∧ p ≤ n) (hq : 0 ≤ q ∧ q ≤ n) (hb : bS5 T n f p0) (h : pProd T n ru w0 f r p0 w p) (v : sIA T n p) (e1 : w1 = w) (k : pProd T n ru w1 (f.1, f.2.1, 0, (tkf T n p).1.2.1 :: f.2.2.2) r (tkf T n p).2 w2 q) (e2 : w3 = w2 ++ [10000 + (tkf T n p).1.2.1]) : pProd T n ru w0 f r p0 w3 q := by
  have c := am_5 v
  subst e1
  exact ⟨h.1.trans ((M_am (f := (f.1, f.2.1, 0, f.2.2.2)) hp hb.1 (Or.inl v) (by rw [c.1]; exact hb.2.2)).trans (k.1.trans (M_fl hq (by omega) (fun _ _ => k.2) (by omega) (by omega) e2))), k.2⟩
theorem lpS_0 (hp : 0 ≤ p ∧ p ≤ n) (hb : bS5 T n f p0) (h : pProd T n ru w0 f r p0 w p) (v : sIA T n p) (e1 : w1 = w) (k : Mch T n ru w1 ((f.1, f.2.1, 0, (tkf T n p).1.2.1 :: f.2.2.2) :: r) 0 (tkf T n p).2 = none) : Mch T n ru w0 (f :: r) 0 p0 = none := by
  have c := am_5 v
  subst e1
  exact h.1.trans ((M_am (f := (f.1, f.2.1, 0, f.2.2.2)) hp hb.1 (Or.inl v) (by rw [c.1]; exact hb.2.2)).trans k)
/-- and, or behind a fact -/
theorem fa_1 {o : Int} (ho : 0 ≤ o ∧ o < 26) (h1 : 1 ≤ rkC o) (h4 : rkC o < 4) (h2 : rkC o < 2 → ¬ sIO T n 21 q) (hp : 0 ≤ p ∧ p ≤ n) (hq : 0 ≤ q ∧ q ≤ n) (ht : sIT f.1) (hd : hdk (rkC o) f) (h : pFact T n ru w0 f r p0 w p) (v : sIO T n 21 p ∨ sIO T n 20 p) (vo : sIO T n o p) (e1 : w1 = w) (k : pFact T n ru w1 (f.1, 0, 1, o :: f.2.2.2) r (tkf T n p).2 w2 q) (e2 : w3 = w2 ++ [10000 + o]) : pFact T n ru w0 f r p0 w3 q := by
  have c := wIx_O ho.1 ho.2 vo
  subst e1
  obtain ⟨g, g1, g2, g3, g5, g4⟩ := h
  obtain ⟨g', h1', h2', h3', h5', h4'⟩ := k
  have e := M_ao (ru := ru) (r := r) (w := w1) (f := g) hp (by rw [g1]; exact ht) g2 v (by rw [g5, c]; exact hd)
  rw [g1, c, g5] at e
  have F := M_fl (ru := ru) (r := r) (k := g'.1) (ph := g'.2.1) (bg := g'.2.2.1) (O := f.2.2.2) hq h1 (fun _ z => fun y => h3' z (Or.inr y)) (fun _ => ⟨fun z => fun y => h3' z (Or.inl y), fun z => h2' z.1.2⟩) (fun z _ => h2 z) e2
  have x : Mch T n ru w2 (g' :: r) 1 q = Mch T n ru w3 ((g'.1, g'.2.1, g'.2.2.1, f.2.2.2) :: r) 1 q := by
    rw [← F]
    have h5' : g'.2.2.2 = o :: f.2.2.2 := h5'
    rw [← h5']
  exact ⟨(g'.1, g'.2.1, g'.2.2.1, f.2.2.2), h1', h2', h3', rfl, g4.trans (e.trans (h4'.trans x))⟩
theorem fa_0 {o : Int} (ho : 0 ≤ o ∧ o < 26) (hp : 0 ≤ p ∧ p ≤ n) (ht : sIT f.1) (hd : hdk (rkC o) f) (h : pFact T n ru w0 f r p0 w p) (v : sIO T n 21 p ∨ sIO T n 20 p) (vo : sIO T n o p) (e1 : w1 = w) (k : Mch T n ru w1 ((f.1, 0, 1, o :: f.2.2.2) :: r) 0 (tkf T n p).2 = none) : Mch T n ru w0 (f :: r) 0 p0 = none := by
  have c := wIx_O ho.1 ho.2 vo
  subst e1
  obtain ⟨g, g1, g2, g3, g5, g4⟩ := h
  have e := M_ao (ru := ru) (r := r) (w := w1) (f := g) hp (by rw [g1]; exact ht) g2 v (by rw [g5, c]; exact hd)
  rw [g1, c, g5] at e
  exact g4.trans (e.trans k)
theorem lpB_1 (hp : 0 ≤ p ∧ p ≤ n) (hq : 0 ≤ q ∧ q ≤ n) (hb : bT2 f p0) (h : pFact T n ru w0 f r p0 w p) (v : sIO T n 21 p) (e1 : w1 = w) (k : pFact T n ru w1 (f.1, 0, 1, 21 :: f.2.2.2) r (tkf T n p).2 w2 q) (e2 : w3 = w2 ++ [10000 + 21]) : pFact T n ru w0 f r p0 w3 q := fa_1 (o := 21) (by decide) (by decide) (by decide) (fun z => absurd z (by decide)) hp hq hb.1 hb.2.2.2 h (Or.inl v) v e1 k e2
theorem lpB_0 (hp : 0 ≤ p ∧ p ≤ n) (hb : bT2 f p0) (h : pFact T n ru w0 f r p0 w p) (v : sIO T n 21 p) (e1 : w1 = w) (k : Mch T n ru w1 ((f.1, 0, 1, 21 :: f.2.2.2) :: r) 0 (tkf T n p).2 = none) : Mch T n ru w0 (f :: r) 0 p0 = none := fa_0 (o := 21) (by decide) hp hb.1 hb.2.2.2 h (Or.inl v) v e1 k
theorem lpT_1 (hp : 0 ≤ p ∧ p ≤ n) (hq : 0 ≤ q ∧ q ≤ n) (hb : bT f p0) (h : pBoth T n ru w0 f r p0 w p) (v : sIO T n 20 p) (e1 : w1 = w) (k : pBoth T n ru w1 (f.1, 0, 1, 20 :: f.2.2.2) r (tkf T n p).2 w2 q) (e2 : w3 = w2 ++ [10000 + 20]) : pBoth T n ru w0 f r p0 w3 q := ⟨fa_1 (o := 20) (by decide) (by decide) (by decide) (fun _ => k.2) hp hq hb.1 hb.2.2.2 h.1 (Or.inr v) v e1 k.1 e2, k.2⟩
theorem lpT_0 (hp : 0 ≤ p ∧ p ≤ n) (hb : bT f p0) (h : pBoth T n ru w0 f r p0 w p) (v : sIO T n 20 p) (e1 : w1 = w) (k : Mch T n ru w1 ((f.1, 0, 1, 20 :: f.2.2.2) :: r) 0 (tkf T n p).2 = none) : Mch T n ru w0 (f :: r) 0 p0 = none := fa_0 (o := 20) (by decide) hp hb.1 hb.2.2.2 h.1 (Or.inr v) v e1 k
end LPX
set_option maxRecDepth 100000 in
theorem w_pd8 {d : Nat} {mem : zM} {P : Option Value → zM → Prop} {R A : Nat} {T : List Int32} {n ru p o : Int} {D : Nat} {f : Fr} {r : List Fr} {fs : List (Bool × aTy)} {x g k : Int32} {p0 : Int} {lo : List (Nat × Value)} (hm : aTm aT0 mem) (l_0 : zlg lo 0 = some (.ref 30)) (l_1 : zlg lo 1 = some (.int x)) (l_2 : zlg lo 2 = some (.int g)) (l_3 : zlg lo 3 = some (.int k)) (hDd : D ≤ d + 2) (hD3 : 4 ≤ D) (hA : hRA R A) (hRo_e : aat aT0 R = some (.inr (7, fs))) (hr : zfl mem 30 1 = some (.ref R)) (hR : ¬ g.toInt = 0 → cRd T n p mem) (hB : ¬ g.toInt = 0 → tB R A T n ru p mem) (hg : 0 ≤ g.toInt ∧ g.toInt ≤ 1) (k0 : 0 ≤ k.toInt) (hQ : tC R A T n ru 107 o D (bS T n) (pPart T n ru)) (hx : x.toInt = o) (hO : opn (f :: r) = o) (hb : bS6 T n f p0) (h1 : 1600 ≤ (k).toInt → aTm aT0 mem → P (some (.int g)) mem) (h2 : (k).toInt < 1600 → (g).toInt = 0 → aTm aT0 mem → P (some (.int g)) mem) (h3 : (k).toInt < 1600 → ¬ (g).toInt = 0 → ¬ (gi mem 27 4).toInt = 4 → aTm aT0 mem → P (some (.int g)) mem) (h4 : (k).toInt < 1600 → ¬ (g).toInt = 0 → (gi mem 27 4).toInt = 4 → ¬ (gi mem 27 5).toInt = 42 → ¬ (gi mem 27 5).toInt = 47 → ¬ (gi mem 27 5).toInt = 37 → aTm aT0 mem → P (some (.int g)) mem) (s1 : (k).toInt < 1600 → ¬ (g).toInt = 0 → (gi mem 27 4).toInt = 4 → ¬ (gi mem 27 5).toInt = 42 → ¬ (gi mem 27 5).toInt = 47 → (gi mem 27 5).toInt = 37 → ¬ (tkf T n p).1.1 = 4) (s2 : (k).toInt < 1600 → ¬ (g).toInt = 0 → (gi mem 27 4).toInt = 4 → ¬ (gi mem 27 5).toInt = 42 → ¬ (gi mem 27 5).toInt = 47 → (gi mem 27 5).toInt = 37 → ∀ (m10 : zM), aTm aT0 m10 → (fo 27 [] avF mem m10 ∧ cRd T n (tkf T n p).2 m10) → (gi m10 R 3).toInt ≤ (tkf T n p).2) (s3 : (k).toInt < 1600 → ¬ (g).toInt = 0 → (gi mem 27 4).toInt = 4 → ¬ (gi mem 27 5).toInt = 42 → ¬ (gi mem 27 5).toInt = 47 → (gi mem 27 5).toInt = 37 → ∀ (m10 : zM), aTm aT0 m10 → (fo 27 [] avF mem m10 ∧ cRd T n (tkf T n p).2 m10) → ¬ (tkf T n p).1.2.1 = 22) (h5 : (k).toInt < 1600 → ¬ (g).toInt = 0 → (gi mem 27 4).toInt = 4 → ¬ (gi mem 27 5).toInt = 42 → ¬ (gi mem 27 5).toInt = 47 → (gi mem 27 5).toInt = 37 → ∀ (m10 : zM), aTm aT0 m10 → (fo 27 [] avF mem m10 ∧ cRd T n (tkf T n p).2 m10) → ∀ (v14 : Int32) (q15 : Int) (m12 : zM), aTm aT0 m12 → tH R A T n (tkf T n p).2 (pPart T n ru (cC R A m10) (f.1, f.2.1, 0, (tkf T n p).1.2.1 :: f.2.2.2) r (tkf T n p).2) (Mch T n ru (cC R A m10) ((f.1, f.2.1, 0, (tkf T n p).1.2.1 :: f.2.2.2) :: r) 0 (tkf T n p).2 = none) m10 v14.toInt q15 m12 → (v14).toInt = 0 → ∀ (x20 : Int32), x20.toInt = ((k).toInt + 1) → ∀ lo, zlg lo 0 = some (.ref 30) → zlg lo 1 = some (.int x) → zlg lo 2 = some (.int 0) → zlg lo 3 = some (.int x20) → aTm aT0 m12 → yR zpg tX10_takesProduct (d + 2) (8, lo, [], m12) P) (h6 : (k).toInt < 1600 → ¬ (g).toInt = 0 → (gi mem 27 4).toInt = 4 → ¬ (gi mem 27 5).toInt = 42 → ¬ (gi mem 27 5).toInt = 47 → (gi mem 27 5).toInt = 37 → ∀ (m10 : zM), aTm aT0 m10 → (fo 27 [] avF mem m10 ∧ cRd T n (tkf T n p).2 m10) → ∀ (v14 : Int32) (q15 : Int) (m12 : zM), aTm aT0 m12 → tH R A T n (tkf T n p).2 (pPart T n ru (cC R A m10) (f.1, f.2.1, 0, (tkf T n p).1.2.1 :: f.2.2.2) r (tkf T n p).2) (Mch T n ru (cC R A m10) ((f.1, f.2.1, 0, (tkf T n p).1.2.1 :: f.2.2.2) :: r) 0 (tkf T n p).2 = none) m10 v14.toInt q15 m12 → ¬ (v14).toInt = 0 → ∀ (v27 : Int32) (m25 : zM), aTm aT0 m25 → (puQ R A (10000 + (gi mem 27 5)).toInt m12 m25 ∧ v27.toInt = 1) → (v27).toInt = 0 → ∀ (x32 : Int32), x32.toInt = ((k).toInt + 1) → ∀ lo, zlg lo 0 = some (.ref 30) → zlg lo 1 = some (.int x) → zlg lo 2 = some (.int 0) → zlg lo 3 = some (.int x32) → aTm aT0 m25 → yR zpg tX10_takesProduct (d + 2) (8, lo, [], m25) P) (h7 : (k).toInt < 1600 → ¬ (g).toInt = 0 → (gi mem 27 4).toInt = 4 → ¬ (gi mem 27 5).toInt = 42 → ¬ (gi mem 27 5).toInt = 47 → (gi mem 27 5).toInt = 37 → ∀ (m10 : zM), aTm aT0 m10 → (fo 27 [] avF mem m10 ∧ cRd T n (tkf T n p).2 m10) → ∀ (v14 : Int32) (q15 : Int) (m12 : zM), aTm aT0 m12 → tH R A T n (tkf T n p).2 (pPart T n ru (cC R A m10) (f.1, f.2.1, 0, (tkf T n p).1.2.1 :: f.2.2.2) r (tkf T n p).2) (Mch T n ru (cC R A m10) ((f.1, f.2.1, 0, (tkf T n p).1.2.1 :: f.2.2.2) :: r) 0 (tkf T n p).2 = none) m10 v14.toInt q15 m12 → ¬ (v14).toInt = 0 → ∀ (v27 : Int32) (m25 : zM), aTm aT0 m25 → (puQ R A (10000 + (gi mem 27 5)).toInt m12 m25 ∧ v27.toInt = 1) → ¬ (v27).toInt = 0 → ∀ (x40 : Int32), x40.toInt = ((k).toInt + 1) → ∀ lo, zlg lo 0 = some (.ref 30) → zlg lo 1 = some (.int x) → zlg lo 2 = some (.int 1) → zlg lo 3 = some (.int x40) → aTm aT0 m25 → yR zpg tX10_takesProduct (d + 2) (8, lo, [], m25) P) (s4 : (k).toInt < 1600 → ¬ (g).toInt = 0 → (gi mem 27 4).toInt = 4 → ¬ (gi mem 27 5).toInt = 42 → (gi mem 27 5).toInt = 47 → ¬ (tkf T n p).1.1 = 4) (s5 : (k).toInt < 1600 → ¬ (g).toInt = 0 → (gi mem 27 4).toInt = 4 → ¬ (gi mem 27 5).toInt = 42 → (gi mem 27 5).toInt = 47 → ∀ (m48 : zM), aTm aT0 m48 → (fo 27 [] avF mem m48 ∧ cRd T n (tkf T n p).2 m48) → (gi m48 R 3).toInt ≤ (tkf T n p).2) (s6 : (k).toInt < 1600 → ¬ (g).toInt = 0 → (gi mem 27 4).toInt = 4 → ¬ (gi mem 27 5).toInt = 42 → (gi mem 27 5).toInt = 47 → ∀ (m48 : zM), aTm aT0 m48 → (fo 27 [] avF mem m48 ∧ cRd T n (tkf T n p).2 m48) → ¬ (tkf T n p).1.2.1 = 22) (h8 : (k).toInt < 1600 → ¬ (g).toInt = 0 → (gi mem 27 4).toInt = 4 → ¬ (gi mem 27 5).toInt = 42 → (gi mem 27 5).toInt = 47 → ∀ (m48 : zM), aTm aT0 m48 → (fo 27 [] avF mem m48 ∧ cRd T n (tkf T n p).2 m48) → ∀ (v52 : Int32) (q53 : Int) (m50 : zM), aTm aT0 m50 → tH R A T n (tkf T n p).2 (pPart T n ru (cC R A m48) (f.1, f.2.1, 0, (tkf T n p).1.2.1 :: f.2.2.2) r (tkf T n p).2) (Mch T n ru (cC R A m48) ((f.1, f.2.1, 0, (tkf T n p).1.2.1 :: f.2.2.2) :: r) 0 (tkf T n p).2 = none) m48 v52.toInt q53 m50 → (v52).toInt = 0 → ∀ (x58 : Int32), x58.toInt = ((k).toInt + 1) → ∀ lo, zlg lo 0 = some (.ref 30) → zlg lo 1 = some (.int x) → zlg lo 2 = some (.int 0) → zlg lo 3 = some (.int x58) → aTm aT0 m50 → yR zpg tX10_takesProduct (d + 2) (8, lo, [], m50) P) (h9 : (k).toInt < 1600 → ¬ (g).toInt = 0 → (gi mem 27 4).toInt = 4 → ¬ (gi mem 27 5).toInt = 42 → (gi mem 27 5).toInt = 47 → ∀ (m48 : zM), aTm aT0 m48 → (fo 27 [] avF mem m48 ∧ cRd T n (tkf T n p).2 m48) → ∀ (v52 : Int32) (q53 : Int) (m50 : zM), aTm aT0 m50 → tH R A T n (tkf T n p).2 (pPart T n ru (cC R A m48) (f.1, f.2.1, 0, (tkf T n p).1.2.1 :: f.2.2.2) r (tkf T n p).2) (Mch T n ru (cC R A m48) ((f.1, f.2.1, 0, (tkf T n p).1.2.1 :: f.2.2.2) :: r) 0 (tkf T n p).2 = none) m48 v52.toInt q53 m50 → ¬ (v52).toInt = 0 → ∀ (v65 : Int32) (m63 : zM), aTm aT0 m63 → (puQ R A (10000 + (gi mem 27 5)).toInt m50 m63 ∧ v65.toInt = 1) → (v65).toInt = 0 → ∀ (x70 : Int32), x70.toInt = ((k).toInt + 1) → ∀ lo, zlg lo 0 = some (.ref 30) → zlg lo 1 = some (.int x) → zlg lo 2 = some (.int 0) → zlg lo 3 = some (.int x70) → aTm aT0 m63 → yR zpg tX10_takesProduct (d + 2) (8, lo, [], m63) P) (h10 : (k).toInt < 1600 → ¬ (g).toInt = 0 → (gi mem 27 4).toInt = 4 → ¬ (gi mem 27 5).toInt = 42 → (gi mem 27 5).toInt = 47 → ∀ (m48 : zM), aTm aT0 m48 → (fo 27 [] avF mem m48 ∧ cRd T n (tkf T n p).2 m48) → ∀ (v52 : Int32) (q53 : Int) (m50 : zM), aTm aT0 m50 → tH R A T n (tkf T n p).2 (pPart T n ru (cC R A m48) (f.1, f.2.1, 0, (tkf T n p).1.2.1 :: f.2.2.2) r (tkf T n p).2) (Mch T n ru (cC R A m48) ((f.1, f.2.1, 0, (tkf T n p).1.2.1 :: f.2.2.2) :: r) 0 (tkf T n p).2 = none) m48 v52.toInt q53 m50 → ¬ (v52).toInt = 0 → ∀ (v65 : Int32) (m63 : zM), aTm aT0 m63 → (puQ R A (10000 + (gi mem 27 5)).toInt m50 m63 ∧ v65.toInt = 1) → ¬ (v65).toInt = 0 → ∀ (x78 : Int32), x78.toInt = ((k).toInt + 1) → ∀ lo, zlg lo 0 = some (.ref 30) → zlg lo 1 = some (.int x) → zlg lo 2 = some (.int 1) → zlg lo 3 = some (.int x78) → aTm aT0 m63 → yR zpg tX10_takesProduct (d + 2) (8, lo, [], m63) P) (s7 : (k).toInt < 1600 → ¬ (g).toInt = 0 → (gi mem 27 4).toInt = 4 → (gi mem 27 5).toInt = 42 → ¬ (tkf T n p).1.1 = 4) (s8 : (k).toInt < 1600 → ¬ (g).toInt = 0 → (gi mem 27 4).toInt = 4 → (gi mem 27 5).toInt = 42 → ∀ (m86 : zM), aTm aT0 m86 → (fo 27 [] avF mem m86 ∧ cRd T n (tkf T n p).2 m86) → (gi m86 R 3).toInt ≤ (tkf T n p).2) (s9 : (k).toInt < 1600 → ¬ (g).toInt = 0 → (gi mem 27 4).toInt = 4 → (gi mem 27 5).toInt = 42 → ∀ (m86 : zM), aTm aT0 m86 → (fo 27 [] avF mem m86 ∧ cRd T n (tkf T n p).2 m86) → ¬ (tkf T n p).1.2.1 = 22) (h11 : (k).toInt < 1600 → ¬ (g).toInt = 0 → (gi mem 27 4).toInt = 4 → (gi mem 27 5).toInt = 42 → ∀ (m86 : zM), aTm aT0 m86 → (fo 27 [] avF mem m86 ∧ cRd T n (tkf T n p).2 m86) → ∀ (v90 : Int32) (q91 : Int) (m88 : zM), aTm aT0 m88 → tH R A T n (tkf T n p).2 (pPart T n ru (cC R A m86) (f.1, f.2.1, 0, (tkf T n p).1.2.1 :: f.2.2.2) r (tkf T n p).2) (Mch T n ru (cC R A m86) ((f.1, f.2.1, 0, (tkf T n p).1.2.1 :: f.2.2.2) :: r) 0 (tkf T n p).2 = none) m86 v90.toInt q91 m88 → (v90).toInt = 0 → ∀ (x96 : Int32), x96.toInt = ((k).toInt + 1) → ∀ lo, zlg lo 0 = some (.ref 30) → zlg lo 1 = some (.int x) → zlg lo 2 = some (.int 0) → zlg lo 3 = some (.int x96) → aTm aT0 m88 → yR zpg tX10_takesProduct (d + 2) (8, lo, [], m88) P) (h12 : (k).toInt < 1600 → ¬ (g).toInt = 0 → (gi mem 27 4).toInt = 4 → (gi mem 27 5).toInt = 42 → ∀ (m86 : zM), aTm aT0 m86 → (fo 27 [] avF mem m86 ∧ cRd T n (tkf T n p).2 m86) → ∀ (v90 : Int32) (q91 : Int) (m88 : zM), aTm aT0 m88 → tH R A T n (tkf T n p).2 (pPart T n ru (cC R A m86) (f.1, f.2.1, 0, (tkf T n p).1.2.1 :: f.2.2.2) r (tkf T n p).2) (Mch T n ru (cC R A m86) ((f.1, f.2.1, 0, (tkf T n p).1.2.1 :: f.2.2.2) :: r) 0 (tkf T n p).2 = none) m86 v90.toInt q91 m88 → ¬ (v90).toInt = 0 → ∀ (v103 : Int32) (m101 : zM), aTm aT0 m101 → (puQ R A (10000 + (gi mem 27 5)).toInt m88 m101 ∧ v103.toInt = 1) → (v103).toInt = 0 → ∀ (x108 : Int32), x108.toInt = ((k).toInt + 1) → ∀ lo, zlg lo 0 = some (.ref 30) → zlg lo 1 = some (.int x) → zlg lo 2 = some (.int 0) → zlg lo 3 = some (.int x108) → aTm aT0 m101 → yR zpg tX10_takesProduct (d + 2) (8, lo, [], m101) P) (h13 : (k).toInt < 1600 → ¬ (g).toInt = 0 → (gi mem 27 4).toInt = 4 → (gi mem 27 5).toInt = 42 → ∀ (m86 : zM), aTm aT0 m86 → (fo 27 [] avF mem m86 ∧ cRd T n (tkf T n p).2 m86) → ∀ (v90 : Int32) (q91 : Int) (m88 : zM), aTm aT0 m88 → tH R A T n (tkf T n p).2 (pPart T n ru (cC R A m86) (f.1, f.2.1, 0, (tkf T n p).1.2.1 :: f.2.2.2) r (tkf T n p).2) (Mch T n ru (cC R A m86) ((f.1, f.2.1, 0, (tkf T n p).1.2.1 :: f.2.2.2) :: r) 0 (tkf T n p).2 = none) m86 v90.toInt q91 m88 → ¬ (v90).toInt = 0 → ∀ (v103 : Int32) (m101 : zM), aTm aT0 m101 → (puQ R A (10000 + (gi mem 27 5)).toInt m88 m101 ∧ v103.toInt = 1) → ¬ (v103).toInt = 0 → ∀ (x116 : Int32), x116.toInt = ((k).toInt + 1) → ∀ lo, zlg lo 0 = some (.ref 30) → zlg lo 1 = some (.int x) → zlg lo 2 = some (.int 1) → zlg lo 3 = some (.int x116) → aTm aT0 m101 → yR zpg tX10_takesProduct (d + 2) (8, lo, [], m101) P) : yR zpg tX10_takesProduct (d + 2) (8, lo, [], mem) P := by
  refine wR_li rfl l_3 ?_
  refine yR_m 1 (fun _ _ _ _ => rfl) ?_
  refine wR_ic_ge rfl (a := (k).toInt) (c := 1600) rfl rfl (fun q1 => ?_) (fun q1 => ?_)
  ·
    refine wR_li rfl l_2 ?_
    exact yR_rz rfl (by omega) (h1 q1 hm)
  ·
    refine wR_li rfl l_2 ?_
    refine wR_if_eq rfl (a := (g).toInt) rfl (fun q2 => ?_) (fun q2 => ?_)
    ·
      refine wR_li rfl l_2 ?_
      exact yR_rz rfl (by omega) (h2 q1 q2 hm)
    ·
      refine wR_la rfl l_0 ?_
      refine wR_iv rfl rfl sO_e hm rfl rfl rfl rfl ?_
      show yR zpg tX10_isFactorSign (d + 1) (0, [(0, .ref 30)], [], mem) _
      refine yR_m 1 (fun _ _ _ _ => rfl) ?_
      refine wR_gr rfl sO_e sO_0 hm ?_
      refine yR_m 1 (fun _ _ _ _ => rfl) ?_
      refine wR_iv rfl rfl rO_e hm rfl rfl rfl rfl ?_
      show yR zpg tX5_isSign d (0, [(0, .ref 27), (1, .int 42)], [], mem) _
      refine yR_m 1 (fun _ _ _ _ => rfl) ?_
      refine wR_gi rfl rO_e rO_4 hm rfl ?_
      refine yR_m 1 (fun _ _ _ _ => rfl) ?_
      refine wR_ic_ne rfl (a := (gi mem 27 4).toInt) (c := 4) rfl rfl (fun q3 => ?_) (fun q3 => ?_)
      ·
        refine yR_m 1 (fun _ _ _ _ => rfl) ?_
        refine yR_rz rfl ⟨by decide, by decide⟩ ?_
        show yR zpg tX10_isFactorSign (d + 1) (9, [(0, .ref 30)], [.int 0], mem) _
        refine wR_if_ne rfl (a := 0) rfl (fun q => by exfalso; omega) (fun _ => ?_)
        refine yR_m 1 (fun _ _ _ _ => rfl) ?_
        refine wR_gr rfl sO_e sO_0 hm ?_
        refine yR_m 1 (fun _ _ _ _ => rfl) ?_
        refine wR_iv rfl rfl rO_e hm rfl rfl rfl rfl ?_
        show yR zpg tX5_isSign d (0, [(0, .ref 27), (1, .int 47)], [], mem) _
        refine yR_m 1 (fun _ _ _ _ => rfl) ?_
        refine wR_gi rfl rO_e rO_4 hm rfl ?_
        refine yR_m 1 (fun _ _ _ _ => rfl) ?_
        refine wR_ic_ne rfl (a := (gi mem 27 4).toInt) (c := 4) rfl rfl (fun _ => ?_) (fun q => by exfalso; omega)
        refine yR_m 1 (fun _ _ _ _ => rfl) ?_
        refine yR_rz rfl ⟨by decide, by decide⟩ ?_
        show yR zpg tX10_isFactorSign (d + 1) (21, [(0, .ref 30)], [.int 0], mem) _
        refine wR_if_ne rfl (a := 0) rfl (fun q => by exfalso; omega) (fun _ => ?_)
        refine yR_m 1 (fun _ _ _ _ => rfl) ?_
        refine wR_gr rfl sO_e sO_0 hm ?_
        refine yR_m 1 (fun _ _ _ _ => rfl) ?_
        refine wR_iv rfl rfl rO_e hm rfl rfl rfl rfl ?_
        show yR zpg tX5_isSign d (0, [(0, .ref 27), (1, .int 37)], [], mem) _
        refine yR_m 1 (fun _ _ _ _ => rfl) ?_
        refine wR_gi rfl rO_e rO_4 hm rfl ?_
        refine yR_m 1 (fun _ _ _ _ => rfl) ?_
        refine wR_ic_ne rfl (a := (gi mem 27 4).toInt) (c := 4) rfl rfl (fun _ => ?_) (fun q => by exfalso; omega)
        refine yR_m 1 (fun _ _ _ _ => rfl) ?_
        refine yR_rz rfl ⟨by decide, by decide⟩ ?_
        show yR zpg tX10_isFactorSign (d + 1) (33, [(0, .ref 30)], [.int 0], mem) _
        refine wR_if_eq rfl (a := 0) rfl (fun _ => ?_) (fun q => by exfalso; omega)
        refine yR_m 1 (fun _ _ _ _ => rfl) ?_
        refine yR_rz rfl ⟨by decide, by decide⟩ ?_
        show yR zpg tX10_takesProduct (d + 2) (23, lo, [.int 0], mem) _
        refine wR_if_eq rfl (a := 0) rfl (fun _ => ?_) (fun q => by exfalso; omega)
        refine wR_li rfl l_2 ?_
        exact yR_rz rfl (by omega) (h3 q1 q2 q3 hm)
      ·
        refine yR_m 1 (fun _ _ _ _ => rfl) ?_
        refine wR_gi rfl rO_e rO_5 hm rfl ?_
        refine yR_m 1 (fun _ _ _ _ => rfl) ?_
        refine wR_ic_ne rfl (a := (gi mem 27 5).toInt) (c := 42) rfl rfl (fun q4 => ?_) (fun q4 => ?_)
        ·
          refine yR_m 1 (fun _ _ _ _ => rfl) ?_
          refine yR_rz rfl ⟨by decide, by decide⟩ ?_
          show yR zpg tX10_isFactorSign (d + 1) (9, [(0, .ref 30)], [.int 0], mem) _
          refine wR_if_ne rfl (a := 0) rfl (fun q => by exfalso; omega) (fun _ => ?_)
          refine yR_m 1 (fun _ _ _ _ => rfl) ?_
          refine wR_gr rfl sO_e sO_0 hm ?_
          refine yR_m 1 (fun _ _ _ _ => rfl) ?_
          refine wR_iv rfl rfl rO_e hm rfl rfl rfl rfl ?_
          show yR zpg tX5_isSign d (0, [(0, .ref 27), (1, .int 47)], [], mem) _
          refine yR_m 1 (fun _ _ _ _ => rfl) ?_
          refine wR_gi rfl rO_e rO_4 hm rfl ?_
          refine yR_m 1 (fun _ _ _ _ => rfl) ?_
          refine wR_ic_ne rfl (a := (gi mem 27 4).toInt) (c := 4) rfl rfl (fun q => by exfalso; omega) (fun _ => ?_)
          refine yR_m 1 (fun _ _ _ _ => rfl) ?_
          refine wR_gi rfl rO_e rO_5 hm rfl ?_
          refine yR_m 1 (fun _ _ _ _ => rfl) ?_
          refine wR_ic_ne rfl (a := (gi mem 27 5).toInt) (c := 47) rfl rfl (fun q5 => ?_) (fun q5 => ?_)
          ·
            refine yR_m 1 (fun _ _ _ _ => rfl) ?_
            refine yR_rz rfl ⟨by decide, by decide⟩ ?_
            show yR zpg tX10_isFactorSign (d + 1) (21, [(0, .ref 30)], [.int 0], mem) _
            refine wR_if_ne rfl (a := 0) rfl (fun q => by exfalso; omega) (fun _ => ?_)
            refine yR_m 1 (fun _ _ _ _ => rfl) ?_
            refine wR_gr rfl sO_e sO_0 hm ?_
            refine yR_m 1 (fun _ _ _ _ => rfl) ?_
            refine wR_iv rfl rfl rO_e hm rfl rfl rfl rfl ?_
            show yR zpg tX5_isSign d (0, [(0, .ref 27), (1, .int 37)], [], mem) _
            refine yR_m 1 (fun _ _ _ _ => rfl) ?_
            refine wR_gi rfl rO_e rO_4 hm rfl ?_
            refine yR_m 1 (fun _ _ _ _ => rfl) ?_
            refine wR_ic_ne rfl (a := (gi mem 27 4).toInt) (c := 4) rfl rfl (fun q => by exfalso; omega) (fun _ => ?_)
            refine yR_m 1 (fun _ _ _ _ => rfl) ?_
            refine wR_gi rfl rO_e rO_5 hm rfl ?_
            refine yR_m 1 (fun _ _ _ _ => rfl) ?_
            refine wR_ic_ne rfl (a := (gi mem 27 5).toInt) (c := 37) rfl rfl (fun q6 => ?_) (fun q6 => ?_)
            ·
              refine yR_m 1 (fun _ _ _ _ => rfl) ?_
              refine yR_rz rfl ⟨by decide, by decide⟩ ?_
              show yR zpg tX10_isFactorSign (d + 1) (33, [(0, .ref 30)], [.int 0], mem) _
              refine wR_if_eq rfl (a := 0) rfl (fun _ => ?_) (fun q => by exfalso; omega)
              refine yR_m 1 (fun _ _ _ _ => rfl) ?_
              refine yR_rz rfl ⟨by decide, by decide⟩ ?_
              show yR zpg tX10_takesProduct (d + 2) (23, lo, [.int 0], mem) _
              refine wR_if_eq rfl (a := 0) rfl (fun _ => ?_) (fun q => by exfalso; omega)
              refine wR_li rfl l_2 ?_
              exact yR_rz rfl (by omega) (h4 q1 q2 q3 q4 q5 q6 hm)
            ·
              refine yR_m 2 (fun _ _ _ _ => rfl) ?_
              refine yR_rz rfl ⟨by decide, by decide⟩ ?_
              show yR zpg tX10_isFactorSign (d + 1) (33, [(0, .ref 30)], [.int 1], mem) _
              refine wR_if_eq rfl (a := 1) rfl (fun q => by exfalso; omega) (fun _ => ?_)
              refine yR_m 2 (fun _ _ _ _ => rfl) ?_
              refine yR_rz rfl ⟨by decide, by decide⟩ ?_
              show yR zpg tX10_takesProduct (d + 2) (23, lo, [.int 1], mem) _
              refine wR_if_eq rfl (a := 1) rfl (fun q => by exfalso; omega) (fun _ => ?_)
              refine wR_la rfl l_0 ?_
              refine wR_gr rfl sO_e sO_0 hm ?_
              refine wR_gi rfl rO_e rO_5 hm rfl ?_
              refine wR_si rfl rfl (fun lo7 e8 f9 => ?_)
              have lo7_0 := f9 0 _ (by decide) (Or.inl rfl) l_0
              have lo7_1 := f9 1 _ (by decide) (Or.inl rfl) l_1
              have lo7_2 := f9 2 _ (by decide) (Or.inl rfl) l_2
              have lo7_3 := f9 3 _ (by decide) (Or.inl rfl) l_3
              refine wR_la rfl lo7_0 ?_
              refine wR_gr rfl sO_e sO_0 hm ?_
              refine wR_cv rfl rfl rO_e hm rfl (h_avC (T := T) (n := n) (p := p) hm (cRd_t (hR (by omega))) (s1 q1 q2 q3 q4 q5 q6) (by omega)) ?_
              rintro _ m10 ⟨rfl, hI10, k11⟩
              show yR zpg tX10_takesProduct (d + 2) (42, lo7, [], m10) _
              refine wR_la rfl lo7_0 ?_
              refine wR_li rfl lo7_1 ?_
              refine wR_cv rfl rfl sO_e hI10 rfl (hQ _ _ _ (tkf T n p).2 (f.1, f.2.1, 0, (tkf T n p).1.2.1 :: f.2.2.2) r (by omega) hx hI10 (tB_c2 (hB (by omega)) (c2_tr c2_rf (c2_fo hA k11.1 rfl)) (k11.2) (s2 q1 q2 q3 q4 q5 q6 m10 hI10 k11)) ((opn_k (f := (f.1, f.2.1, 0, (tkf T n p).1.2.1 :: f.2.2.2)) (g := f) (nnC_c (s3 q1 q2 q3 q4 q5 q6 m10 hI10 k11))).trans hO) ⟨hb.1, fun w => absurd rfl w.2⟩) ?_
              rintro _ m12 ⟨v14, q15, rfl, hm12, k13⟩
              show yR zpg tX10_takesProduct (d + 2) (47, lo7, [.int v14], m12) _
              refine wR_if_eq rfl (a := (v14).toInt) rfl (fun q16 => ?_) (fun q16 => ?_)
              ·
                refine yR_m 1 (fun _ _ _ _ => rfl) ?_
                refine wR_si rfl rfl (fun lo17 e18 f19 => ?_)
                have lo17_4 := f19 4 _ (by decide) (Or.inl rfl) e8
                have lo17_0 := f19 0 _ (by decide) (Or.inl rfl) lo7_0
                have lo17_1 := f19 1 _ (by decide) (Or.inl rfl) lo7_1
                have lo17_3 := f19 3 _ (by decide) (Or.inl rfl) lo7_3
                refine wN_in (a := (k).toInt) (b := 1) rfl rfl lo17_3 rfl rfl (by omega) (fun x20 e21 => fun lo22 e23 f24 => ?_)
                have lo22_2 := f24 2 _ (by decide) (Or.inl rfl) e18
                have lo22_4 := f24 4 _ (by decide) (Or.inl rfl) lo17_4
                have lo22_0 := f24 0 _ (by decide) (Or.inl rfl) lo17_0
                have lo22_1 := f24 1 _ (by decide) (Or.inl rfl) lo17_1
                exact yR_m 1 (fun _ _ _ _ => rfl) (h5 q1 q2 q3 q4 q5 q6 m10 hI10 k11 v14 q15 m12 hm12 k13 q16 x20 e21 lo22 lo22_0 lo22_1 lo22_2 e23 hm12)
              ·
                refine wR_la rfl lo7_0 ?_
                refine wR_gq rfl sO_e hm12 ((c2_30 hA (c2_tr (c2_tr c2_rf (c2_fo hA k11.1 rfl)) k13.1)).trans hr) ?_
                refine yR_m 1 (fun _ _ _ _ => rfl) ?_
                refine wR_li rfl e8 ?_
                refine yR_m 1 (fun _ _ _ _ => rfl) ?_
                refine wR_cv rfl rfl hRo_e hm12 rfl (h_putC hA hm12 (by omega)) ?_
                rintro _ m25 ⟨v27, rfl, hm25, k26⟩
                show yR zpg tX10_takesProduct (d + 2) (63, lo7, [.int v27], m25) _
                refine wR_if_eq rfl (a := (v27).toInt) rfl (fun q28 => ?_) (fun q28 => ?_)
                ·
                  refine yR_m 1 (fun _ _ _ _ => rfl) ?_
                  refine wR_si rfl rfl (fun lo29 e30 f31 => ?_)
                  have lo29_4 := f31 4 _ (by decide) (Or.inl rfl) e8
                  have lo29_0 := f31 0 _ (by decide) (Or.inl rfl) lo7_0
                  have lo29_1 := f31 1 _ (by decide) (Or.inl rfl) lo7_1
                  have lo29_3 := f31 3 _ (by decide) (Or.inl rfl) lo7_3
                  refine wN_in (a := (k).toInt) (b := 1) rfl rfl lo29_3 rfl rfl (by omega) (fun x32 e33 => fun lo34 e35 f36 => ?_)
                  have lo34_2 := f36 2 _ (by decide) (Or.inl rfl) e30
                  have lo34_4 := f36 4 _ (by decide) (Or.inl rfl) lo29_4
                  have lo34_0 := f36 0 _ (by decide) (Or.inl rfl) lo29_0
                  have lo34_1 := f36 1 _ (by decide) (Or.inl rfl) lo29_1
                  exact yR_m 1 (fun _ _ _ _ => rfl) (h6 q1 q2 q3 q4 q5 q6 m10 hI10 k11 v14 q15 m12 hm12 k13 q16 v27 m25 hm25 k26 q28 x32 e33 lo34 lo34_0 lo34_1 lo34_2 e35 hm25)
                ·
                  refine yR_m 2 (fun _ _ _ _ => rfl) ?_
                  refine wR_si rfl rfl (fun lo37 e38 f39 => ?_)
                  have lo37_4 := f39 4 _ (by decide) (Or.inl rfl) e8
                  have lo37_0 := f39 0 _ (by decide) (Or.inl rfl) lo7_0
                  have lo37_1 := f39 1 _ (by decide) (Or.inl rfl) lo7_1
                  have lo37_3 := f39 3 _ (by decide) (Or.inl rfl) lo7_3
                  refine wN_in (a := (k).toInt) (b := 1) rfl rfl lo37_3 rfl rfl (by omega) (fun x40 e41 => fun lo42 e43 f44 => ?_)
                  have lo42_2 := f44 2 _ (by decide) (Or.inl rfl) e38
                  have lo42_4 := f44 4 _ (by decide) (Or.inl rfl) lo37_4
                  have lo42_0 := f44 0 _ (by decide) (Or.inl rfl) lo37_0
                  have lo42_1 := f44 1 _ (by decide) (Or.inl rfl) lo37_1
                  exact yR_m 1 (fun _ _ _ _ => rfl) (h7 q1 q2 q3 q4 q5 q6 m10 hI10 k11 v14 q15 m12 hm12 k13 q16 v27 m25 hm25 k26 q28 x40 e41 lo42 lo42_0 lo42_1 lo42_2 e43 hm25)
          ·
            refine yR_m 2 (fun _ _ _ _ => rfl) ?_
            refine yR_rz rfl ⟨by decide, by decide⟩ ?_
            show yR zpg tX10_isFactorSign (d + 1) (21, [(0, .ref 30)], [.int 1], mem) _
            refine wR_if_ne rfl (a := 1) rfl (fun _ => ?_) (fun q => by exfalso; omega)
            refine yR_m 2 (fun _ _ _ _ => rfl) ?_
            refine yR_rz rfl ⟨by decide, by decide⟩ ?_
            show yR zpg tX10_takesProduct (d + 2) (23, lo, [.int 1], mem) _
            refine wR_if_eq rfl (a := 1) rfl (fun q => by exfalso; omega) (fun _ => ?_)
            refine wR_la rfl l_0 ?_
            refine wR_gr rfl sO_e sO_0 hm ?_
            refine wR_gi rfl rO_e rO_5 hm rfl ?_
            refine wR_si rfl rfl (fun lo45 e46 f47 => ?_)
            have lo45_0 := f47 0 _ (by decide) (Or.inl rfl) l_0
            have lo45_1 := f47 1 _ (by decide) (Or.inl rfl) l_1
            have lo45_2 := f47 2 _ (by decide) (Or.inl rfl) l_2
            have lo45_3 := f47 3 _ (by decide) (Or.inl rfl) l_3
            refine wR_la rfl lo45_0 ?_
            refine wR_gr rfl sO_e sO_0 hm ?_
            refine wR_cv rfl rfl rO_e hm rfl (h_avC (T := T) (n := n) (p := p) hm (cRd_t (hR (by omega))) (s4 q1 q2 q3 q4 q5) (by omega)) ?_
            rintro _ m48 ⟨rfl, hI48, k49⟩
            show yR zpg tX10_takesProduct (d + 2) (42, lo45, [], m48) _
            refine wR_la rfl lo45_0 ?_
            refine wR_li rfl lo45_1 ?_
            refine wR_cv rfl rfl sO_e hI48 rfl (hQ _ _ _ (tkf T n p).2 (f.1, f.2.1, 0, (tkf T n p).1.2.1 :: f.2.2.2) r (by omega) hx hI48 (tB_c2 (hB (by omega)) (c2_tr c2_rf (c2_fo hA k49.1 rfl)) (k49.2) (s5 q1 q2 q3 q4 q5 m48 hI48 k49)) ((opn_k (f := (f.1, f.2.1, 0, (tkf T n p).1.2.1 :: f.2.2.2)) (g := f) (nnC_c (s6 q1 q2 q3 q4 q5 m48 hI48 k49))).trans hO) ⟨hb.1, fun w => absurd rfl w.2⟩) ?_
            rintro _ m50 ⟨v52, q53, rfl, hm50, k51⟩
            show yR zpg tX10_takesProduct (d + 2) (47, lo45, [.int v52], m50) _
            refine wR_if_eq rfl (a := (v52).toInt) rfl (fun q54 => ?_) (fun q54 => ?_)
            ·
              refine yR_m 1 (fun _ _ _ _ => rfl) ?_
              refine wR_si rfl rfl (fun lo55 e56 f57 => ?_)
              have lo55_4 := f57 4 _ (by decide) (Or.inl rfl) e46
              have lo55_0 := f57 0 _ (by decide) (Or.inl rfl) lo45_0
              have lo55_1 := f57 1 _ (by decide) (Or.inl rfl) lo45_1
              have lo55_3 := f57 3 _ (by decide) (Or.inl rfl) lo45_3
              refine wN_in (a := (k).toInt) (b := 1) rfl rfl lo55_3 rfl rfl (by omega) (fun x58 e59 => fun lo60 e61 f62 => ?_)
              have lo60_2 := f62 2 _ (by decide) (Or.inl rfl) e56
              have lo60_4 := f62 4 _ (by decide) (Or.inl rfl) lo55_4
              have lo60_0 := f62 0 _ (by decide) (Or.inl rfl) lo55_0
              have lo60_1 := f62 1 _ (by decide) (Or.inl rfl) lo55_1
              exact yR_m 1 (fun _ _ _ _ => rfl) (h8 q1 q2 q3 q4 q5 m48 hI48 k49 v52 q53 m50 hm50 k51 q54 x58 e59 lo60 lo60_0 lo60_1 lo60_2 e61 hm50)
            ·
              refine wR_la rfl lo45_0 ?_
              refine wR_gq rfl sO_e hm50 ((c2_30 hA (c2_tr (c2_tr c2_rf (c2_fo hA k49.1 rfl)) k51.1)).trans hr) ?_
              refine yR_m 1 (fun _ _ _ _ => rfl) ?_
              refine wR_li rfl e46 ?_
              refine yR_m 1 (fun _ _ _ _ => rfl) ?_
              refine wR_cv rfl rfl hRo_e hm50 rfl (h_putC hA hm50 (by omega)) ?_
              rintro _ m63 ⟨v65, rfl, hm63, k64⟩
              show yR zpg tX10_takesProduct (d + 2) (63, lo45, [.int v65], m63) _
              refine wR_if_eq rfl (a := (v65).toInt) rfl (fun q66 => ?_) (fun q66 => ?_)
              ·
                refine yR_m 1 (fun _ _ _ _ => rfl) ?_
                refine wR_si rfl rfl (fun lo67 e68 f69 => ?_)
                have lo67_4 := f69 4 _ (by decide) (Or.inl rfl) e46
                have lo67_0 := f69 0 _ (by decide) (Or.inl rfl) lo45_0
                have lo67_1 := f69 1 _ (by decide) (Or.inl rfl) lo45_1
                have lo67_3 := f69 3 _ (by decide) (Or.inl rfl) lo45_3
                refine wN_in (a := (k).toInt) (b := 1) rfl rfl lo67_3 rfl rfl (by omega) (fun x70 e71 => fun lo72 e73 f74 => ?_)
                have lo72_2 := f74 2 _ (by decide) (Or.inl rfl) e68
                have lo72_4 := f74 4 _ (by decide) (Or.inl rfl) lo67_4
                have lo72_0 := f74 0 _ (by decide) (Or.inl rfl) lo67_0
                have lo72_1 := f74 1 _ (by decide) (Or.inl rfl) lo67_1
                exact yR_m 1 (fun _ _ _ _ => rfl) (h9 q1 q2 q3 q4 q5 m48 hI48 k49 v52 q53 m50 hm50 k51 q54 v65 m63 hm63 k64 q66 x70 e71 lo72 lo72_0 lo72_1 lo72_2 e73 hm63)
              ·
                refine yR_m 2 (fun _ _ _ _ => rfl) ?_
                refine wR_si rfl rfl (fun lo75 e76 f77 => ?_)
                have lo75_4 := f77 4 _ (by decide) (Or.inl rfl) e46
                have lo75_0 := f77 0 _ (by decide) (Or.inl rfl) lo45_0
                have lo75_1 := f77 1 _ (by decide) (Or.inl rfl) lo45_1
                have lo75_3 := f77 3 _ (by decide) (Or.inl rfl) lo45_3
                refine wN_in (a := (k).toInt) (b := 1) rfl rfl lo75_3 rfl rfl (by omega) (fun x78 e79 => fun lo80 e81 f82 => ?_)
                have lo80_2 := f82 2 _ (by decide) (Or.inl rfl) e76
                have lo80_4 := f82 4 _ (by decide) (Or.inl rfl) lo75_4
                have lo80_0 := f82 0 _ (by decide) (Or.inl rfl) lo75_0
                have lo80_1 := f82 1 _ (by decide) (Or.inl rfl) lo75_1
                exact yR_m 1 (fun _ _ _ _ => rfl) (h10 q1 q2 q3 q4 q5 m48 hI48 k49 v52 q53 m50 hm50 k51 q54 v65 m63 hm63 k64 q66 x78 e79 lo80 lo80_0 lo80_1 lo80_2 e81 hm63)
        ·
          refine yR_m 2 (fun _ _ _ _ => rfl) ?_
          refine yR_rz rfl ⟨by decide, by decide⟩ ?_
          show yR zpg tX10_isFactorSign (d + 1) (9, [(0, .ref 30)], [.int 1], mem) _
          refine wR_if_ne rfl (a := 1) rfl (fun _ => ?_) (fun q => by exfalso; omega)
          refine yR_m 2 (fun _ _ _ _ => rfl) ?_
          refine yR_rz rfl ⟨by decide, by decide⟩ ?_
          show yR zpg tX10_takesProduct (d + 2) (23, lo, [.int 1], mem) _
          refine wR_if_eq rfl (a := 1) rfl (fun q => by exfalso; omega) (fun _ => ?_)
          refine wR_la rfl l_0 ?_
          refine wR_gr rfl sO_e sO_0 hm ?_
          refine wR_gi rfl rO_e rO_5 hm rfl ?_
          refine wR_si rfl rfl (fun lo83 e84 f85 => ?_)
          have lo83_0 := f85 0 _ (by decide) (Or.inl rfl) l_0
          have lo83_1 := f85 1 _ (by decide) (Or.inl rfl) l_1
          have lo83_2 := f85 2 _ (by decide) (Or.inl rfl) l_2
          have lo83_3 := f85 3 _ (by decide) (Or.inl rfl) l_3
          refine wR_la rfl lo83_0 ?_
          refine wR_gr rfl sO_e sO_0 hm ?_
          refine wR_cv rfl rfl rO_e hm rfl (h_avC (T := T) (n := n) (p := p) hm (cRd_t (hR (by omega))) (s7 q1 q2 q3 q4) (by omega)) ?_
          rintro _ m86 ⟨rfl, hI86, k87⟩
          show yR zpg tX10_takesProduct (d + 2) (42, lo83, [], m86) _
          refine wR_la rfl lo83_0 ?_
          refine wR_li rfl lo83_1 ?_
          refine wR_cv rfl rfl sO_e hI86 rfl (hQ _ _ _ (tkf T n p).2 (f.1, f.2.1, 0, (tkf T n p).1.2.1 :: f.2.2.2) r (by omega) hx hI86 (tB_c2 (hB (by omega)) (c2_tr c2_rf (c2_fo hA k87.1 rfl)) (k87.2) (s8 q1 q2 q3 q4 m86 hI86 k87)) ((opn_k (f := (f.1, f.2.1, 0, (tkf T n p).1.2.1 :: f.2.2.2)) (g := f) (nnC_c (s9 q1 q2 q3 q4 m86 hI86 k87))).trans hO) ⟨hb.1, fun w => absurd rfl w.2⟩) ?_
          rintro _ m88 ⟨v90, q91, rfl, hm88, k89⟩
          show yR zpg tX10_takesProduct (d + 2) (47, lo83, [.int v90], m88) _
          refine wR_if_eq rfl (a := (v90).toInt) rfl (fun q92 => ?_) (fun q92 => ?_)
          ·
            refine yR_m 1 (fun _ _ _ _ => rfl) ?_
            refine wR_si rfl rfl (fun lo93 e94 f95 => ?_)
            have lo93_4 := f95 4 _ (by decide) (Or.inl rfl) e84
            have lo93_0 := f95 0 _ (by decide) (Or.inl rfl) lo83_0
            have lo93_1 := f95 1 _ (by decide) (Or.inl rfl) lo83_1
            have lo93_3 := f95 3 _ (by decide) (Or.inl rfl) lo83_3
            refine wN_in (a := (k).toInt) (b := 1) rfl rfl lo93_3 rfl rfl (by omega) (fun x96 e97 => fun lo98 e99 f100 => ?_)
            have lo98_2 := f100 2 _ (by decide) (Or.inl rfl) e94
            have lo98_4 := f100 4 _ (by decide) (Or.inl rfl) lo93_4
            have lo98_0 := f100 0 _ (by decide) (Or.inl rfl) lo93_0
            have lo98_1 := f100 1 _ (by decide) (Or.inl rfl) lo93_1
            exact yR_m 1 (fun _ _ _ _ => rfl) (h11 q1 q2 q3 q4 m86 hI86 k87 v90 q91 m88 hm88 k89 q92 x96 e97 lo98 lo98_0 lo98_1 lo98_2 e99 hm88)
          ·
            refine wR_la rfl lo83_0 ?_
            refine wR_gq rfl sO_e hm88 ((c2_30 hA (c2_tr (c2_tr c2_rf (c2_fo hA k87.1 rfl)) k89.1)).trans hr) ?_
            refine yR_m 1 (fun _ _ _ _ => rfl) ?_
            refine wR_li rfl e84 ?_
            refine yR_m 1 (fun _ _ _ _ => rfl) ?_
            refine wR_cv rfl rfl hRo_e hm88 rfl (h_putC hA hm88 (by omega)) ?_
            rintro _ m101 ⟨v103, rfl, hm101, k102⟩
            show yR zpg tX10_takesProduct (d + 2) (63, lo83, [.int v103], m101) _
            refine wR_if_eq rfl (a := (v103).toInt) rfl (fun q104 => ?_) (fun q104 => ?_)
            ·
              refine yR_m 1 (fun _ _ _ _ => rfl) ?_
              refine wR_si rfl rfl (fun lo105 e106 f107 => ?_)
              have lo105_4 := f107 4 _ (by decide) (Or.inl rfl) e84
              have lo105_0 := f107 0 _ (by decide) (Or.inl rfl) lo83_0
              have lo105_1 := f107 1 _ (by decide) (Or.inl rfl) lo83_1
              have lo105_3 := f107 3 _ (by decide) (Or.inl rfl) lo83_3
              refine wN_in (a := (k).toInt) (b := 1) rfl rfl lo105_3 rfl rfl (by omega) (fun x108 e109 => fun lo110 e111 f112 => ?_)
              have lo110_2 := f112 2 _ (by decide) (Or.inl rfl) e106
              have lo110_4 := f112 4 _ (by decide) (Or.inl rfl) lo105_4
              have lo110_0 := f112 0 _ (by decide) (Or.inl rfl) lo105_0
              have lo110_1 := f112 1 _ (by decide) (Or.inl rfl) lo105_1
              exact yR_m 1 (fun _ _ _ _ => rfl) (h12 q1 q2 q3 q4 m86 hI86 k87 v90 q91 m88 hm88 k89 q92 v103 m101 hm101 k102 q104 x108 e109 lo110 lo110_0 lo110_1 lo110_2 e111 hm101)
            ·
              refine yR_m 2 (fun _ _ _ _ => rfl) ?_
              refine wR_si rfl rfl (fun lo113 e114 f115 => ?_)
              have lo113_4 := f115 4 _ (by decide) (Or.inl rfl) e84
              have lo113_0 := f115 0 _ (by decide) (Or.inl rfl) lo83_0
              have lo113_1 := f115 1 _ (by decide) (Or.inl rfl) lo83_1
              have lo113_3 := f115 3 _ (by decide) (Or.inl rfl) lo83_3
              refine wN_in (a := (k).toInt) (b := 1) rfl rfl lo113_3 rfl rfl (by omega) (fun x116 e117 => fun lo118 e119 f120 => ?_)
              have lo118_2 := f120 2 _ (by decide) (Or.inl rfl) e114
              have lo118_4 := f120 4 _ (by decide) (Or.inl rfl) lo113_4
              have lo118_0 := f120 0 _ (by decide) (Or.inl rfl) lo113_0
              have lo118_1 := f120 1 _ (by decide) (Or.inl rfl) lo113_1
              exact yR_m 1 (fun _ _ _ _ => rfl) (h13 q1 q2 q3 q4 m86 hI86 k87 v90 q91 m88 hm88 k89 q92 v103 m101 hm101 k102 q104 x116 e117 lo118 lo118_0 lo118_1 lo118_2 e119 hm101)

theorem pd_8 {o : Int} {D : Nat} {p0 : Int} (hA : hRA R A) (hD : 4 ≤ D) (hDd : D ≤ d + 2) (hQ : tC R A T n ru 107 o D (bS T n) (pPart T n ru)) (hb : bS6 T n f p0) (hO : opn (f :: r) = o) (hBr : tB R A T n ru p0 mr) : ∀ (N : Nat) (mem : zM) (x g k : Int32) (p : Int) (lo : List (Nat × Value)), 1600 - k.toInt < (N : Int) → x.toInt = o → 0 ≤ k.toInt → k.toInt ≤ 1600 → (¬ g.toInt = 0 → 2 * k.toInt ≤ p) → aTm aT0 mem → tH R A T n p0 (pPart T n ru (cC R A mr) f r p0) (Mch T n ru (cC R A mr) (f :: r) 0 p0 = none) mr g.toInt p mem → zlg lo 0 = some (.ref 30) → zlg lo 1 = some (.int x) → zlg lo 2 = some (.int g) → zlg lo 3 = some (.int k) → yR zpg tX10_takesProduct (d + 2) (8, lo, [], mem) (fun a m => ∃ (v : Int32) (q : Int), a = some (.int v) ∧ aTm aT0 m ∧ tH R A T n p0 (pProd T n ru (cC R A mr) f r p0) (Mch T n ru (cC R A mr) (f :: r) 0 p0 = none) mr v.toInt q m) := by
  intro N
  induction N with
  | zero =>
    intro mem x g k p lo hN hx k0 k2
    exfalso
    omega
  | succ N ih =>
    intro mem x g k p lo hN hx k0 k2 k1 hm h a0 a1 a2 a3
    have hR : ¬ g.toInt = 0 → cRd T n p mem := fun w => (tH_1 h w).2.2.1
    have hB : ¬ g.toInt = 0 → tB R A T n ru p mem := fun w => tB_c2 hBr h.1 (hR w) (by have q9 := (tH_1 h w).2; have q8 := hBr.2.2.2.2.1; omega)
    have hr : zfl mem 30 1 = some (.ref R) := by rw [c2_30 hA h.1]; exact hBr.2.1
    have hg : 0 ≤ g.toInt ∧ g.toInt ≤ 1 := by
      rcases h.2 with w | w
      · have w1 := w.1
        omega
      · have w1 := w.1
        omega
    have h16 := hBr.2.2.2.2.2
    obtain ⟨fs, hRo_e⟩ := rl_of hA
    exact w_pd8 (R := R) (A := A) (T := T) (n := n) (ru := ru) (p := p) (o := o) (D := D) (f := f) (r := r) (p0 := p0) hm a0 a1 a2 a3 hDd hD hA hRo_e hr hR hB hg k0 hQ hx hO hb
        (fun q1 hm2 => by
          rcases h.2 with w | w
          · exfalso
            have q9 := (cRd_p w.2.2.2.1).2
            have q8 := k1 (by omega)
            omega
          · exact ⟨_, p, rfl, hm2, h.1, Or.inr w⟩)
        (fun q1 q2 hm2 => ⟨_, p, rfl, hm2, h.1, Or.inr ⟨by omega, tH_0 h (by omega)⟩⟩)
        (fun q1 q2 q3 hm2 => by
          have t := tH_1 h (by omega)
          exact ⟨_, p, rfl, hm2, h.1, Or.inl ⟨by omega, ⟨t.1, (fun w => by rcases w with w | w | w <;> (have q9 := (cX_S (hR (by omega))).2 w; omega))⟩, t.2⟩⟩)
        (fun q1 q2 q3 q4 q5 q6 hm2 => by
          have t := tH_1 h (by omega)
          exact ⟨_, p, rfl, hm2, h.1, Or.inl ⟨by omega, ⟨t.1, (fun w => by rcases w with w | w | w <;> (have q9 := (cX_S (hR (by omega))).2 w; omega))⟩, t.2⟩⟩)
        (fun q1 q2 q3 q4 q5 q6 => cX_4 (hR (by omega)) (by omega))
        (fun q1 q2 q3 q4 q5 q6 m10 hI10 k11 => by
          have hs3 := (hB (by omega)).2.2.2.2.1
          have z0 := congrArg Int32.toInt (c2_R3 hA (fo_up k11.1 rfl rfl))
          have y0 := tk_le ((hR (by omega)))
          omega)
        (fun q1 q2 q3 q4 q5 q6 m10 hI10 k11 => (am_6 (Or.inr (Or.inr ((cX_S (hR (by omega))).1 ⟨by omega, by omega⟩)))).2)
        (fun q1 q2 q3 q4 q5 q6 m10 hI10 k11 v14 q15 m12 hm12 k13 q16 x20 e21 lo a0 a1 a2 a3 hm2 => by
          have t := tH_1 h (by omega)
          have hs3 := (hB (by omega)).2.2.2.2.1
          have hp := cRd_p (hR (by omega))
          have ep := cX_e (hR (by omega)) (by omega) (by omega)
          have kz := k1 (by omega)
          have z0 := congrArg Int32.toInt (c2_R3 hA (fo_up k11.1 rfl rfl))
          have y0 := tk_le ((hR (by omega)))
          exact ih _ x 0 x20 p lo (by omega) hx (by omega) (by omega) (fun w => absurd rfl w) hm2 ⟨(c2_tr h.1 (c2_tr (c2_tr c2_rf (c2_fo hA k11.1 rfl)) k13.1)), Or.inr ⟨rfl, lpP_0 hp hb t.1 (Or.inr (Or.inr ((cX_S (hR (by omega))).1 ⟨by omega, by omega⟩))) (cC_fo hA k11.1) (tH_0 k13 (by omega))⟩⟩ a0 a1 a2 a3)
        (fun q1 q2 q3 q4 q5 q6 m10 hI10 k11 v14 q15 m12 hm12 k13 q16 v27 m25 hm25 k26 q28 x32 e33 lo a0 a1 a2 a3 hm2 => by exfalso; omega)
        (fun q1 q2 q3 q4 q5 q6 m10 hI10 k11 v14 q15 m12 hm12 k13 q16 v27 m25 hm25 k26 q28 x40 e41 lo a0 a1 a2 a3 hm2 => by
          have t := tH_1 h (by omega)
          have hs3 := (hB (by omega)).2.2.2.2.1
          have hp := cRd_p (hR (by omega))
          have ep := cX_e (hR (by omega)) (by omega) (by omega)
          have kz := k1 (by omega)
          have z0 := congrArg Int32.toInt (c2_R3 hA (fo_up k11.1 rfl rfl))
          have y0 := tk_le ((hR (by omega)))
          have z1 := (tH_1 k13 (by omega)).2
          have y1 := (cRd_p (tH_1 k13 (by omega)).2.2.1).2
          have z2 := k26.1.2.1
          exact ih _ x 1 x40 _ lo (by omega) hx (by omega) (by omega) (fun w => by omega) hm2 ⟨(c2_tr h.1 (c2_tr (c2_tr (c2_tr c2_rf (c2_fo hA k11.1 rfl)) k13.1) (c2_pF hA k26.1.1))), Or.inl ⟨rfl, lpP_1 hp (cRd_p (tH_1 k13 (by omega)).2.2.1) hb t.1 (Or.inr (Or.inr ((cX_S (hR (by omega))).1 ⟨by omega, by omega⟩))) (cC_fo hA k11.1) (tH_1 k13 (by omega)).1 (vp_2 (k26.1.2.2 (by omega)) (by have q9 := mX5 (hR (by omega)) (by omega); have q8 := ad_u (x := gi mem 27 5) (by omega) (by omega); omega)), by omega, ⟨_, _, cR_pF hA k26.1.1 (cRd_t (tH_1 k13 (by omega)).2.2.1)⟩, by omega, by omega⟩⟩ a0 a1 a2 a3)
        (fun q1 q2 q3 q4 q5 => cX_4 (hR (by omega)) (by omega))
        (fun q1 q2 q3 q4 q5 m48 hI48 k49 => by
          have hs3 := (hB (by omega)).2.2.2.2.1
          have z0 := congrArg Int32.toInt (c2_R3 hA (fo_up k49.1 rfl rfl))
          have y0 := tk_le ((hR (by omega)))
          omega)
        (fun q1 q2 q3 q4 q5 m48 hI48 k49 => (am_6 (Or.inr (Or.inl ((cX_S (hR (by omega))).1 ⟨by omega, by omega⟩)))).2)
        (fun q1 q2 q3 q4 q5 m48 hI48 k49 v52 q53 m50 hm50 k51 q54 x58 e59 lo a0 a1 a2 a3 hm2 => by
          have t := tH_1 h (by omega)
          have hs3 := (hB (by omega)).2.2.2.2.1
          have hp := cRd_p (hR (by omega))
          have ep := cX_e (hR (by omega)) (by omega) (by omega)
          have kz := k1 (by omega)
          have z0 := congrArg Int32.toInt (c2_R3 hA (fo_up k49.1 rfl rfl))
          have y0 := tk_le ((hR (by omega)))
          exact ih _ x 0 x58 p lo (by omega) hx (by omega) (by omega) (fun w => absurd rfl w) hm2 ⟨(c2_tr h.1 (c2_tr (c2_tr c2_rf (c2_fo hA k49.1 rfl)) k51.1)), Or.inr ⟨rfl, lpP_0 hp hb t.1 (Or.inr (Or.inl ((cX_S (hR (by omega))).1 ⟨by omega, by omega⟩))) (cC_fo hA k49.1) (tH_0 k51 (by omega))⟩⟩ a0 a1 a2 a3)
        (fun q1 q2 q3 q4 q5 m48 hI48 k49 v52 q53 m50 hm50 k51 q54 v65 m63 hm63 k64 q66 x70 e71 lo a0 a1 a2 a3 hm2 => by exfalso; omega)
        (fun q1 q2 q3 q4 q5 m48 hI48 k49 v52 q53 m50 hm50 k51 q54 v65 m63 hm63 k64 q66 x78 e79 lo a0 a1 a2 a3 hm2 => by
          have t := tH_1 h (by omega)
          have hs3 := (hB (by omega)).2.2.2.2.1
          have hp := cRd_p (hR (by omega))
          have ep := cX_e (hR (by omega)) (by omega) (by omega)
          have kz := k1 (by omega)
          have z0 := congrArg Int32.toInt (c2_R3 hA (fo_up k49.1 rfl rfl))
          have y0 := tk_le ((hR (by omega)))
          have z1 := (tH_1 k51 (by omega)).2
          have y1 := (cRd_p (tH_1 k51 (by omega)).2.2.1).2
          have z2 := k64.1.2.1
          exact ih _ x 1 x78 _ lo (by omega) hx (by omega) (by omega) (fun w => by omega) hm2 ⟨(c2_tr h.1 (c2_tr (c2_tr (c2_tr c2_rf (c2_fo hA k49.1 rfl)) k51.1) (c2_pF hA k64.1.1))), Or.inl ⟨rfl, lpP_1 hp (cRd_p (tH_1 k51 (by omega)).2.2.1) hb t.1 (Or.inr (Or.inl ((cX_S (hR (by omega))).1 ⟨by omega, by omega⟩))) (cC_fo hA k49.1) (tH_1 k51 (by omega)).1 (vp_2 (k64.1.2.2 (by omega)) (by have q9 := mX5 (hR (by omega)) (by omega); have q8 := ad_u (x := gi mem 27 5) (by omega) (by omega); omega)), by omega, ⟨_, _, cR_pF hA k64.1.1 (cRd_t (tH_1 k51 (by omega)).2.2.1)⟩, by omega, by omega⟩⟩ a0 a1 a2 a3)
        (fun q1 q2 q3 q4 => cX_4 (hR (by omega)) (by omega))
        (fun q1 q2 q3 q4 m86 hI86 k87 => by
          have hs3 := (hB (by omega)).2.2.2.2.1
          have z0 := congrArg Int32.toInt (c2_R3 hA (fo_up k87.1 rfl rfl))
          have y0 := tk_le ((hR (by omega)))
          omega)
        (fun q1 q2 q3 q4 m86 hI86 k87 => (am_6 (Or.inl ((cX_S (hR (by omega))).1 ⟨by omega, by omega⟩))).2)
        (fun q1 q2 q3 q4 m86 hI86 k87 v90 q91 m88 hm88 k89 q92 x96 e97 lo a0 a1 a2 a3 hm2 => by
          have t := tH_1 h (by omega)
          have hs3 := (hB (by omega)).2.2.2.2.1
          have hp := cRd_p (hR (by omega))
          have ep := cX_e (hR (by omega)) (by omega) (by omega)
          have kz := k1 (by omega)
          have z0 := congrArg Int32.toInt (c2_R3 hA (fo_up k87.1 rfl rfl))
          have y0 := tk_le ((hR (by omega)))
          exact ih _ x 0 x96 p lo (by omega) hx (by omega) (by omega) (fun w => absurd rfl w) hm2 ⟨(c2_tr h.1 (c2_tr (c2_tr c2_rf (c2_fo hA k87.1 rfl)) k89.1)), Or.inr ⟨rfl, lpP_0 hp hb t.1 (Or.inl ((cX_S (hR (by omega))).1 ⟨by omega, by omega⟩)) (cC_fo hA k87.1) (tH_0 k89 (by omega))⟩⟩ a0 a1 a2 a3)
        (fun q1 q2 q3 q4 m86 hI86 k87 v90 q91 m88 hm88 k89 q92 v103 m101 hm101 k102 q104 x108 e109 lo a0 a1 a2 a3 hm2 => by exfalso; omega)
        (fun q1 q2 q3 q4 m86 hI86 k87 v90 q91 m88 hm88 k89 q92 v103 m101 hm101 k102 q104 x116 e117 lo a0 a1 a2 a3 hm2 => by
          have t := tH_1 h (by omega)
          have hs3 := (hB (by omega)).2.2.2.2.1
          have hp := cRd_p (hR (by omega))
          have ep := cX_e (hR (by omega)) (by omega) (by omega)
          have kz := k1 (by omega)
          have z0 := congrArg Int32.toInt (c2_R3 hA (fo_up k87.1 rfl rfl))
          have y0 := tk_le ((hR (by omega)))
          have z1 := (tH_1 k89 (by omega)).2
          have y1 := (cRd_p (tH_1 k89 (by omega)).2.2.1).2
          have z2 := k102.1.2.1
          exact ih _ x 1 x116 _ lo (by omega) hx (by omega) (by omega) (fun w => by omega) hm2 ⟨(c2_tr h.1 (c2_tr (c2_tr (c2_tr c2_rf (c2_fo hA k87.1 rfl)) k89.1) (c2_pF hA k102.1.1))), Or.inl ⟨rfl, lpP_1 hp (cRd_p (tH_1 k89 (by omega)).2.2.1) hb t.1 (Or.inl ((cX_S (hR (by omega))).1 ⟨by omega, by omega⟩)) (cC_fo hA k87.1) (tH_1 k89 (by omega)).1 (vp_2 (k102.1.2.2 (by omega)) (by have q9 := mX5 (hR (by omega)) (by omega); have q8 := ad_u (x := gi mem 27 5) (by omega) (by omega); omega)), by omega, ⟨_, _, cR_pF hA k102.1.1 (cRd_t (tH_1 k89 (by omega)).2.2.1)⟩, by omega, by omega⟩⟩ a0 a1 a2 a3)
set_option maxRecDepth 100000 in
theorem w_pd0 {d : Nat} {mem : zM} {P : Option Value → zM → Prop} {R A : Nat} {T : List Int32} {n ru p o : Int} {D : Nat} {f : Fr} {r : List Fr} {x : Int32} {lo : List (Nat × Value)} (hm : aTm aT0 mem) (l_0 : zlg lo 0 = some (.ref 30)) (l_1 : zlg lo 1 = some (.int x)) (hDd : D ≤ d + 2) (hD3 : 4 ≤ D) (hA : hRA R A) (hB : tB R A T n ru p mem) (hQ : tC R A T n ru 107 o D (bS T n) (pPart T n ru)) (hx : x.toInt = o) (hO : opn (f :: r) = o) (hb : bS6 T n f p) (h1 : ∀ (v3 : Int32) (q4 : Int) (m1 : zM), aTm aT0 m1 → tH R A T n p (pPart T n ru (cC R A mem) f r p) (Mch T n ru (cC R A mem) (f :: r) 0 p = none) mem v3.toInt q4 m1 → ∀ lo, zlg lo 0 = some (.ref 30) → zlg lo 1 = some (.int x) → zlg lo 2 = some (.int v3) → zlg lo 3 = some (.int 0) → aTm aT0 m1 → yR zpg tX10_takesProduct (d + 2) (8, lo, [], m1) P) : yR zpg tX10_takesProduct (d + 2) (0, lo, [], mem) P := by
  refine wR_la rfl l_0 ?_
  refine wR_li rfl l_1 ?_
  refine wR_cv rfl rfl sO_e hm rfl (hQ _ _ _ p f r (by omega) hx hm hB hO ⟨hb.1, hb.2.1⟩) ?_
  rintro _ m1 ⟨v3, q4, rfl, hm1, k2⟩
  show yR zpg tX10_takesProduct (d + 2) (5, lo, [.int v3], m1) _
  refine wR_si rfl rfl (fun lo5 e6 f7 => ?_)
  have lo5_0 := f7 0 _ (by decide) (Or.inl rfl) l_0
  have lo5_1 := f7 1 _ (by decide) (Or.inl rfl) l_1
  refine yR_m 1 (fun _ _ _ _ => rfl) ?_
  refine wR_si rfl rfl (fun lo8 e9 f10 => ?_)
  have lo8_2 := f10 2 _ (by decide) (Or.inl rfl) e6
  have lo8_0 := f10 0 _ (by decide) (Or.inl rfl) lo5_0
  have lo8_1 := f10 1 _ (by decide) (Or.inl rfl) lo5_1
  exact h1 v3 q4 m1 hm1 k2 lo8 lo8_0 lo8_1 lo8_2 e9 hm1

theorem c_pd {o : Int} {D : Nat} (hA : hRA R A) (hD : 4 ≤ D) (hQ : tC R A T n ru 107 o D (bS T n) (pPart T n ru)) : tC R A T n ru 105 o (D + 1) (bS6 T n) (pProd T n ru) := by
  intro d mem x p f r hd hx hm hB hO hb
  obtain ⟨d, rfl⟩ : ∃ q, d = q + 3 := ⟨d - 3, by omega⟩
  refine yC_of (t := tX10_takesProduct) rfl rfl ?_
  exact w_pd0 (R := R) (A := A) (T := T) (n := n) (ru := ru) (p := p) (o := o) (D := D) (f := f) (r := r) hm rfl rfl (by omega) hD hA hB hQ hx hO hb
        (fun v3 q4 m1 hm1 k2 lo a0 a1 a2 a3 hm2 => pd_8 hA hD (by omega) hQ hb hO hB 1601 _ x _ 0 _ lo (by decide) hx (by decide) (by decide) (fun w => by have q9 := tH_1 k2 w; have q8 := hB.2.2.2.1; have q7 := (cRd_p q8).1; show 2 * (0 : Int) ≤ _; omega) hm2 k2 a0 a1 a2 a3)
set_option maxRecDepth 100000 in
theorem w_su8 {d : Nat} {mem : zM} {P : Option Value → zM → Prop} {R A : Nat} {T : List Int32} {n ru p o : Int} {D : Nat} {f : Fr} {r : List Fr} {fs : List (Bool × aTy)} {x g k : Int32} {p0 : Int} {lo : List (Nat × Value)} (hm : aTm aT0 mem) (l_0 : zlg lo 0 = some (.ref 30)) (l_1 : zlg lo 1 = some (.int x)) (l_2 : zlg lo 2 = some (.int g)) (l_3 : zlg lo 3 = some (.int k)) (hDd : D ≤ d + 1) (hD3 : 4 ≤ D) (hA : hRA R A) (hRo_e : aat aT0 R = some (.inr (7, fs))) (hr : zfl mem 30 1 = some (.ref R)) (hR : ¬ g.toInt = 0 → cRd T n p mem) (hB : ¬ g.toInt = 0 → tB R A T n ru p mem) (hg : 0 ≤ g.toInt ∧ g.toInt ≤ 1) (k0 : 0 ≤ k.toInt) (hQ : tC R A T n ru 105 o D (bS6 T n) (pProd T n ru)) (hx : x.toInt = o) (hO : opn (f :: r) = o) (hb : bS5 T n f p0) (h1 : 1600 ≤ (k).toInt → aTm aT0 mem → P (some (.int g)) mem) (h2 : (k).toInt < 1600 → (g).toInt = 0 → aTm aT0 mem → P (some (.int g)) mem) (h3 : (k).toInt < 1600 → ¬ (g).toInt = 0 → ¬ (gi mem 27 4).toInt = 4 → aTm aT0 mem → P (some (.int g)) mem) (h4 : (k).toInt < 1600 → ¬ (g).toInt = 0 → (gi mem 27 4).toInt = 4 → ¬ (gi mem 27 5).toInt = 43 → ¬ (gi mem 27 5).toInt = 45 → aTm aT0 mem → P (some (.int g)) mem) (s1 : (k).toInt < 1600 → ¬ (g).toInt = 0 → (gi mem 27 4).toInt = 4 → ¬ (gi mem 27 5).toInt = 43 → (gi mem 27 5).toInt = 45 → ¬ (tkf T n p).1.1 = 4) (s2 : (k).toInt < 1600 → ¬ (g).toInt = 0 → (gi mem 27 4).toInt = 4 → ¬ (gi mem 27 5).toInt = 43 → (gi mem 27 5).toInt = 45 → ∀ (m9 : zM), aTm aT0 m9 → (fo 27 [] avF mem m9 ∧ cRd T n (tkf T n p).2 m9) → (gi m9 R 3).toInt ≤ (tkf T n p).2) (s3 : (k).toInt < 1600 → ¬ (g).toInt = 0 → (gi mem 27 4).toInt = 4 → ¬ (gi mem 27 5).toInt = 43 → (gi mem 27 5).toInt = 45 → ∀ (m9 : zM), aTm aT0 m9 → (fo 27 [] avF mem m9 ∧ cRd T n (tkf T n p).2 m9) → ¬ (tkf T n p).1.2.1 = 22) (s4 : (k).toInt < 1600 → ¬ (g).toInt = 0 → (gi mem 27 4).toInt = 4 → ¬ (gi mem 27 5).toInt = 43 → (gi mem 27 5).toInt = 45 → ∀ (m9 : zM), aTm aT0 m9 → (fo 27 [] avF mem m9 ∧ cRd T n (tkf T n p).2 m9) → rkC (tkf T n p).1.2.1 = 5) (h5 : (k).toInt < 1600 → ¬ (g).toInt = 0 → (gi mem 27 4).toInt = 4 → ¬ (gi mem 27 5).toInt = 43 → (gi mem 27 5).toInt = 45 → ∀ (m9 : zM), aTm aT0 m9 → (fo 27 [] avF mem m9 ∧ cRd T n (tkf T n p).2 m9) → ∀ (v13 : Int32) (q14 : Int) (m11 : zM), aTm aT0 m11 → tH R A T n (tkf T n p).2 (pProd T n ru (cC R A m9) (f.1, f.2.1, 0, (tkf T n p).1.2.1 :: f.2.2.2) r (tkf T n p).2) (Mch T n ru (cC R A m9) ((f.1, f.2.1, 0, (tkf T n p).1.2.1 :: f.2.2.2) :: r) 0 (tkf T n p).2 = none) m9 v13.toInt q14 m11 → (v13).toInt = 0 → ∀ (x19 : Int32), x19.toInt = ((k).toInt + 1) → ∀ lo, zlg lo 0 = some (.ref 30) → zlg lo 1 = some (.int x) → zlg lo 2 = some (.int 0) → zlg lo 3 = some (.int x19) → aTm aT0 m11 → yR zpg tX10_takesSum (d + 1) (8, lo, [], m11) P) (h6 : (k).toInt < 1600 → ¬ (g).toInt = 0 → (gi mem 27 4).toInt = 4 → ¬ (gi mem 27 5).toInt = 43 → (gi mem 27 5).toInt = 45 → ∀ (m9 : zM), aTm aT0 m9 → (fo 27 [] avF mem m9 ∧ cRd T n (tkf T n p).2 m9) → ∀ (v13 : Int32) (q14 : Int) (m11 : zM), aTm aT0 m11 → tH R A T n (tkf T n p).2 (pProd T n ru (cC R A m9) (f.1, f.2.1, 0, (tkf T n p).1.2.1 :: f.2.2.2) r (tkf T n p).2) (Mch T n ru (cC R A m9) ((f.1, f.2.1, 0, (tkf T n p).1.2.1 :: f.2.2.2) :: r) 0 (tkf T n p).2 = none) m9 v13.toInt q14 m11 → ¬ (v13).toInt = 0 → ∀ (v26 : Int32) (m24 : zM), aTm aT0 m24 → (puQ R A (10000 + (gi mem 27 5)).toInt m11 m24 ∧ v26.toInt = 1) → (v26).toInt = 0 → ∀ (x31 : Int32), x31.toInt = ((k).toInt + 1) → ∀ lo, zlg lo 0 = some (.ref 30) → zlg lo 1 = some (.int x) → zlg lo 2 = some (.int 0) → zlg lo 3 = some (.int x31) → aTm aT0 m24 → yR zpg tX10_takesSum (d + 1) (8, lo, [], m24) P) (h7 : (k).toInt < 1600 → ¬ (g).toInt = 0 → (gi mem 27 4).toInt = 4 → ¬ (gi mem 27 5).toInt = 43 → (gi mem 27 5).toInt = 45 → ∀ (m9 : zM), aTm aT0 m9 → (fo 27 [] avF mem m9 ∧ cRd T n (tkf T n p).2 m9) → ∀ (v13 : Int32) (q14 : Int) (m11 : zM), aTm aT0 m11 → tH R A T n (tkf T n p).2 (pProd T n ru (cC R A m9) (f.1, f.2.1, 0, (tkf T n p).1.2.1 :: f.2.2.2) r (tkf T n p).2) (Mch T n ru (cC R A m9) ((f.1, f.2.1, 0, (tkf T n p).1.2.1 :: f.2.2.2) :: r) 0 (tkf T n p).2 = none) m9 v13.toInt q14 m11 → ¬ (v13).toInt = 0 → ∀ (v26 : Int32) (m24 : zM), aTm aT0 m24 → (puQ R A (10000 + (gi mem 27 5)).toInt m11 m24 ∧ v26.toInt = 1) → ¬ (v26).toInt = 0 → ∀ (x39 : Int32), x39.toInt = ((k).toInt + 1) → ∀ lo, zlg lo 0 = some (.ref 30) → zlg lo 1 = some (.int x) → zlg lo 2 = some (.int 1) → zlg lo 3 = some (.int x39) → aTm aT0 m24 → yR zpg tX10_takesSum (d + 1) (8, lo, [], m24) P) (s5 : (k).toInt < 1600 → ¬ (g).toInt = 0 → (gi mem 27 4).toInt = 4 → (gi mem 27 5).toInt = 43 → ¬ (tkf T n p).1.1 = 4) (s6 : (k).toInt < 1600 → ¬ (g).toInt = 0 → (gi mem 27 4).toInt = 4 → (gi mem 27 5).toInt = 43 → ∀ (m47 : zM), aTm aT0 m47 → (fo 27 [] avF mem m47 ∧ cRd T n (tkf T n p).2 m47) → (gi m47 R 3).toInt ≤ (tkf T n p).2) (s7 : (k).toInt < 1600 → ¬ (g).toInt = 0 → (gi mem 27 4).toInt = 4 → (gi mem 27 5).toInt = 43 → ∀ (m47 : zM), aTm aT0 m47 → (fo 27 [] avF mem m47 ∧ cRd T n (tkf T n p).2 m47) → ¬ (tkf T n p).1.2.1 = 22) (s8 : (k).toInt < 1600 → ¬ (g).toInt = 0 → (gi mem 27 4).toInt = 4 → (gi mem 27 5).toInt = 43 → ∀ (m47 : zM), aTm aT0 m47 → (fo 27 [] avF mem m47 ∧ cRd T n (tkf T n p).2 m47) → rkC (tkf T n p).1.2.1 = 5) (h8 : (k).toInt < 1600 → ¬ (g).toInt = 0 → (gi mem 27 4).toInt = 4 → (gi mem 27 5).toInt = 43 → ∀ (m47 : zM), aTm aT0 m47 → (fo 27 [] avF mem m47 ∧ cRd T n (tkf T n p).2 m47) → ∀ (v51 : Int32) (q52 : Int) (m49 : zM), aTm aT0 m49 → tH R A T n (tkf T n p).2 (pProd T n ru (cC R A m47) (f.1, f.2.1, 0, (tkf T n p).1.2.1 :: f.2.2.2) r (tkf T n p).2) (Mch T n ru (cC R A m47) ((f.1, f.2.1, 0, (tkf T n p).1.2.1 :: f.2.2.2) :: r) 0 (tkf T n p).2 = none) m47 v51.toInt q52 m49 → (v51).toInt = 0 → ∀ (x57 : Int32), x57.toInt = ((k).toInt + 1) → ∀ lo, zlg lo 0 = some (.ref 30) → zlg lo 1 = some (.int x) → zlg lo 2 = some (.int 0) → zlg lo 3 = some (.int x57) → aTm aT0 m49 → yR zpg tX10_takesSum (d + 1) (8, lo, [], m49) P) (h9 : (k).toInt < 1600 → ¬ (g).toInt = 0 → (gi mem 27 4).toInt = 4 → (gi mem 27 5).toInt = 43 → ∀ (m47 : zM), aTm aT0 m47 → (fo 27 [] avF mem m47 ∧ cRd T n (tkf T n p).2 m47) → ∀ (v51 : Int32) (q52 : Int) (m49 : zM), aTm aT0 m49 → tH R A T n (tkf T n p).2 (pProd T n ru (cC R A m47) (f.1, f.2.1, 0, (tkf T n p).1.2.1 :: f.2.2.2) r (tkf T n p).2) (Mch T n ru (cC R A m47) ((f.1, f.2.1, 0, (tkf T n p).1.2.1 :: f.2.2.2) :: r) 0 (tkf T n p).2 = none) m47 v51.toInt q52 m49 → ¬ (v51).toInt = 0 → ∀ (v64 : Int32) (m62 : zM), aTm aT0 m62 → (puQ R A (10000 + (gi mem 27 5)).toInt m49 m62 ∧ v64.toInt = 1) → (v64).toInt = 0 → ∀ (x69 : Int32), x69.toInt = ((k).toInt + 1) → ∀ lo, zlg lo 0 = some (.ref 30) → zlg lo 1 = some (.int x) → zlg lo 2 = some (.int 0) → zlg lo 3 = some (.int x69) → aTm aT0 m62 → yR zpg tX10_takesSum (d + 1) (8, lo, [], m62) P) (h10 : (k).toInt < 1600 → ¬ (g).toInt = 0 → (gi mem 27 4).toInt = 4 → (gi mem 27 5).toInt = 43 → ∀ (m47 : zM), aTm aT0 m47 → (fo 27 [] avF mem m47 ∧ cRd T n (tkf T n p).2 m47) → ∀ (v51 : Int32) (q52 : Int) (m49 : zM), aTm aT0 m49 → tH R A T n (tkf T n p).2 (pProd T n ru (cC R A m47) (f.1, f.2.1, 0, (tkf T n p).1.2.1 :: f.2.2.2) r (tkf T n p).2) (Mch T n ru (cC R A m47) ((f.1, f.2.1, 0, (tkf T n p).1.2.1 :: f.2.2.2) :: r) 0 (tkf T n p).2 = none) m47 v51.toInt q52 m49 → ¬ (v51).toInt = 0 → ∀ (v64 : Int32) (m62 : zM), aTm aT0 m62 → (puQ R A (10000 + (gi mem 27 5)).toInt m49 m62 ∧ v64.toInt = 1) → ¬ (v64).toInt = 0 → ∀ (x77 : Int32), x77.toInt = ((k).toInt + 1) → ∀ lo, zlg lo 0 = some (.ref 30) → zlg lo 1 = some (.int x) → zlg lo 2 = some (.int 1) → zlg lo 3 = some (.int x77) → aTm aT0 m62 → yR zpg tX10_takesSum (d + 1) (8, lo, [], m62) P) : yR zpg tX10_takesSum (d + 1) (8, lo, [], mem) P := by
  refine wR_li rfl l_3 ?_
  refine yR_m 1 (fun _ _ _ _ => rfl) ?_
  refine wR_ic_ge rfl (a := (k).toInt) (c := 1600) rfl rfl (fun q1 => ?_) (fun q1 => ?_)
  ·
    refine wR_li rfl l_2 ?_
    exact yR_rz rfl (by omega) (h1 q1 hm)
  ·
    refine wR_li rfl l_2 ?_
    refine wR_if_eq rfl (a := (g).toInt) rfl (fun q2 => ?_) (fun q2 => ?_)
    ·
      refine wR_li rfl l_2 ?_
      exact yR_rz rfl (by omega) (h2 q1 q2 hm)
    ·
      refine wR_la rfl l_0 ?_
      refine wR_gr rfl sO_e sO_0 hm ?_
      refine yR_m 1 (fun _ _ _ _ => rfl) ?_
      refine wR_iv rfl rfl rO_e hm rfl rfl rfl rfl ?_
      show yR zpg tX5_isSign d (0, [(0, .ref 27), (1, .int 43)], [], mem) _
      refine yR_m 1 (fun _ _ _ _ => rfl) ?_
      refine wR_gi rfl rO_e rO_4 hm rfl ?_
      refine yR_m 1 (fun _ _ _ _ => rfl) ?_
      refine wR_ic_ne rfl (a := (gi mem 27 4).toInt) (c := 4) rfl rfl (fun q3 => ?_) (fun q3 => ?_)
      ·
        refine yR_m 1 (fun _ _ _ _ => rfl) ?_
        refine yR_rz rfl ⟨by decide, by decide⟩ ?_
        show yR zpg tX10_takesSum (d + 1) (28, lo, [.int 0], mem) _
        refine wR_if_ne rfl (a := 0) rfl (fun q => by exfalso; omega) (fun _ => ?_)
        refine wR_la rfl l_0 ?_
        refine wR_gr rfl sO_e sO_0 hm ?_
        refine yR_m 1 (fun _ _ _ _ => rfl) ?_
        refine wR_iv rfl rfl rO_e hm rfl rfl rfl rfl ?_
        show yR zpg tX5_isSign d (0, [(0, .ref 27), (1, .int 45)], [], mem) _
        refine yR_m 1 (fun _ _ _ _ => rfl) ?_
        refine wR_gi rfl rO_e rO_4 hm rfl ?_
        refine yR_m 1 (fun _ _ _ _ => rfl) ?_
        refine wR_ic_ne rfl (a := (gi mem 27 4).toInt) (c := 4) rfl rfl (fun _ => ?_) (fun q => by exfalso; omega)
        refine yR_m 1 (fun _ _ _ _ => rfl) ?_
        refine yR_rz rfl ⟨by decide, by decide⟩ ?_
        show yR zpg tX10_takesSum (d + 1) (40, lo, [.int 0], mem) _
        refine wR_if_eq rfl (a := 0) rfl (fun _ => ?_) (fun q => by exfalso; omega)
        refine wR_li rfl l_2 ?_
        exact yR_rz rfl (by omega) (h3 q1 q2 q3 hm)
      ·
        refine yR_m 1 (fun _ _ _ _ => rfl) ?_
        refine wR_gi rfl rO_e rO_5 hm rfl ?_
        refine yR_m 1 (fun _ _ _ _ => rfl) ?_
        refine wR_ic_ne rfl (a := (gi mem 27 5).toInt) (c := 43) rfl rfl (fun q4 => ?_) (fun q4 => ?_)
        ·
          refine yR_m 1 (fun _ _ _ _ => rfl) ?_
          refine yR_rz rfl ⟨by decide, by decide⟩ ?_
          show yR zpg tX10_takesSum (d + 1) (28, lo, [.int 0], mem) _
          refine wR_if_ne rfl (a := 0) rfl (fun q => by exfalso; omega) (fun _ => ?_)
          refine wR_la rfl l_0 ?_
          refine wR_gr rfl sO_e sO_0 hm ?_
          refine yR_m 1 (fun _ _ _ _ => rfl) ?_
          refine wR_iv rfl rfl rO_e hm rfl rfl rfl rfl ?_
          show yR zpg tX5_isSign d (0, [(0, .ref 27), (1, .int 45)], [], mem) _
          refine yR_m 1 (fun _ _ _ _ => rfl) ?_
          refine wR_gi rfl rO_e rO_4 hm rfl ?_
          refine yR_m 1 (fun _ _ _ _ => rfl) ?_
          refine wR_ic_ne rfl (a := (gi mem 27 4).toInt) (c := 4) rfl rfl (fun q => by exfalso; omega) (fun _ => ?_)
          refine yR_m 1 (fun _ _ _ _ => rfl) ?_
          refine wR_gi rfl rO_e rO_5 hm rfl ?_
          refine yR_m 1 (fun _ _ _ _ => rfl) ?_
          refine wR_ic_ne rfl (a := (gi mem 27 5).toInt) (c := 45) rfl rfl (fun q5 => ?_) (fun q5 => ?_)
          ·
            refine yR_m 1 (fun _ _ _ _ => rfl) ?_
            refine yR_rz rfl ⟨by decide, by decide⟩ ?_
            show yR zpg tX10_takesSum (d + 1) (40, lo, [.int 0], mem) _
            refine wR_if_eq rfl (a := 0) rfl (fun _ => ?_) (fun q => by exfalso; omega)
            refine wR_li rfl l_2 ?_
            exact yR_rz rfl (by omega) (h4 q1 q2 q3 q4 q5 hm)
          ·
            refine yR_m 2 (fun _ _ _ _ => rfl) ?_
            refine yR_rz rfl ⟨by decide, by decide⟩ ?_
            show yR zpg tX10_takesSum (d + 1) (40, lo, [.int 1], mem) _
            refine wR_if_eq rfl (a := 1) rfl (fun q => by exfalso; omega) (fun _ => ?_)
            refine wR_la rfl l_0 ?_
            refine wR_gr rfl sO_e sO_0 hm ?_
            refine wR_gi rfl rO_e rO_5 hm rfl ?_
            refine wR_si rfl rfl (fun lo6 e7 f8 => ?_)
            have lo6_0 := f8 0 _ (by decide) (Or.inl rfl) l_0
            have lo6_1 := f8 1 _ (by decide) (Or.inl rfl) l_1
            have lo6_2 := f8 2 _ (by decide) (Or.inl rfl) l_2
            have lo6_3 := f8 3 _ (by decide) (Or.inl rfl) l_3
            refine wR_la rfl lo6_0 ?_
            refine wR_gr rfl sO_e sO_0 hm ?_
            refine wR_cv rfl rfl rO_e hm rfl (h_avC (T := T) (n := n) (p := p) hm (cRd_t (hR (by omega))) (s1 q1 q2 q3 q4 q5) (by omega)) ?_
            rintro _ m9 ⟨rfl, hI9, k10⟩
            show yR zpg tX10_takesSum (d + 1) (59, lo6, [], m9) _
            refine wR_la rfl lo6_0 ?_
            refine wR_li rfl lo6_1 ?_
            refine wR_cv rfl rfl sO_e hI9 rfl (hQ _ _ _ (tkf T n p).2 (f.1, f.2.1, 0, (tkf T n p).1.2.1 :: f.2.2.2) r (by omega) hx hI9 (tB_c2 (hB (by omega)) (c2_tr c2_rf (c2_fo hA k10.1 rfl)) (k10.2) (s2 q1 q2 q3 q4 q5 m9 hI9 k10)) ((opn_k (f := (f.1, f.2.1, 0, (tkf T n p).1.2.1 :: f.2.2.2)) (g := f) (nnC_c (s3 q1 q2 q3 q4 q5 m9 hI9 k10))).trans hO) ⟨hb.1, fun w => absurd rfl w.2, hdk_1 (by rw [(s4 q1 q2 q3 q4 q5 m9 hI9 k10)]; decide)⟩) ?_
            rintro _ m11 ⟨v13, q14, rfl, hm11, k12⟩
            show yR zpg tX10_takesSum (d + 1) (64, lo6, [.int v13], m11) _
            refine wR_if_eq rfl (a := (v13).toInt) rfl (fun q15 => ?_) (fun q15 => ?_)
            ·
              refine yR_m 1 (fun _ _ _ _ => rfl) ?_
              refine wR_si rfl rfl (fun lo16 e17 f18 => ?_)
              have lo16_4 := f18 4 _ (by decide) (Or.inl rfl) e7
              have lo16_0 := f18 0 _ (by decide) (Or.inl rfl) lo6_0
              have lo16_1 := f18 1 _ (by decide) (Or.inl rfl) lo6_1
              have lo16_3 := f18 3 _ (by decide) (Or.inl rfl) lo6_3
              refine wN_in (a := (k).toInt) (b := 1) rfl rfl lo16_3 rfl rfl (by omega) (fun x19 e20 => fun lo21 e22 f23 => ?_)
              have lo21_2 := f23 2 _ (by decide) (Or.inl rfl) e17
              have lo21_4 := f23 4 _ (by decide) (Or.inl rfl) lo16_4
              have lo21_0 := f23 0 _ (by decide) (Or.inl rfl) lo16_0
              have lo21_1 := f23 1 _ (by decide) (Or.inl rfl) lo16_1
              exact yR_m 1 (fun _ _ _ _ => rfl) (h5 q1 q2 q3 q4 q5 m9 hI9 k10 v13 q14 m11 hm11 k12 q15 x19 e20 lo21 lo21_0 lo21_1 lo21_2 e22 hm11)
            ·
              refine wR_la rfl lo6_0 ?_
              refine wR_gq rfl sO_e hm11 ((c2_30 hA (c2_tr (c2_tr c2_rf (c2_fo hA k10.1 rfl)) k12.1)).trans hr) ?_
              refine yR_m 1 (fun _ _ _ _ => rfl) ?_
              refine wR_li rfl e7 ?_
              refine yR_m 1 (fun _ _ _ _ => rfl) ?_
              refine wR_cv rfl rfl hRo_e hm11 rfl (h_putC hA hm11 (by omega)) ?_
              rintro _ m24 ⟨v26, rfl, hm24, k25⟩
              show yR zpg tX10_takesSum (d + 1) (80, lo6, [.int v26], m24) _
              refine wR_if_eq rfl (a := (v26).toInt) rfl (fun q27 => ?_) (fun q27 => ?_)
              ·
                refine yR_m 1 (fun _ _ _ _ => rfl) ?_
                refine wR_si rfl rfl (fun lo28 e29 f30 => ?_)
                have lo28_4 := f30 4 _ (by decide) (Or.inl rfl) e7
                have lo28_0 := f30 0 _ (by decide) (Or.inl rfl) lo6_0
                have lo28_1 := f30 1 _ (by decide) (Or.inl rfl) lo6_1
                have lo28_3 := f30 3 _ (by decide) (Or.inl rfl) lo6_3
                refine wN_in (a := (k).toInt) (b := 1) rfl rfl lo28_3 rfl rfl (by omega) (fun x31 e32 => fun lo33 e34 f35 => ?_)
                have lo33_2 := f35 2 _ (by decide) (Or.inl rfl) e29
                have lo33_4 := f35 4 _ (by decide) (Or.inl rfl) lo28_4
                have lo33_0 := f35 0 _ (by decide) (Or.inl rfl) lo28_0
                have lo33_1 := f35 1 _ (by decide) (Or.inl rfl) lo28_1
                exact yR_m 1 (fun _ _ _ _ => rfl) (h6 q1 q2 q3 q4 q5 m9 hI9 k10 v13 q14 m11 hm11 k12 q15 v26 m24 hm24 k25 q27 x31 e32 lo33 lo33_0 lo33_1 lo33_2 e34 hm24)
              ·
                refine yR_m 2 (fun _ _ _ _ => rfl) ?_
                refine wR_si rfl rfl (fun lo36 e37 f38 => ?_)
                have lo36_4 := f38 4 _ (by decide) (Or.inl rfl) e7
                have lo36_0 := f38 0 _ (by decide) (Or.inl rfl) lo6_0
                have lo36_1 := f38 1 _ (by decide) (Or.inl rfl) lo6_1
                have lo36_3 := f38 3 _ (by decide) (Or.inl rfl) lo6_3
                refine wN_in (a := (k).toInt) (b := 1) rfl rfl lo36_3 rfl rfl (by omega) (fun x39 e40 => fun lo41 e42 f43 => ?_)
                have lo41_2 := f43 2 _ (by decide) (Or.inl rfl) e37
                have lo41_4 := f43 4 _ (by decide) (Or.inl rfl) lo36_4
                have lo41_0 := f43 0 _ (by decide) (Or.inl rfl) lo36_0
                have lo41_1 := f43 1 _ (by decide) (Or.inl rfl) lo36_1
                exact yR_m 1 (fun _ _ _ _ => rfl) (h7 q1 q2 q3 q4 q5 m9 hI9 k10 v13 q14 m11 hm11 k12 q15 v26 m24 hm24 k25 q27 x39 e40 lo41 lo41_0 lo41_1 lo41_2 e42 hm24)
        ·
          refine yR_m 2 (fun _ _ _ _ => rfl) ?_
          refine yR_rz rfl ⟨by decide, by decide⟩ ?_
          show yR zpg tX10_takesSum (d + 1) (28, lo, [.int 1], mem) _
          refine wR_if_ne rfl (a := 1) rfl (fun _ => ?_) (fun q => by exfalso; omega)
          refine wR_la rfl l_0 ?_
          refine wR_gr rfl sO_e sO_0 hm ?_
          refine wR_gi rfl rO_e rO_5 hm rfl ?_
          refine wR_si rfl rfl (fun lo44 e45 f46 => ?_)
          have lo44_0 := f46 0 _ (by decide) (Or.inl rfl) l_0
          have lo44_1 := f46 1 _ (by decide) (Or.inl rfl) l_1
          have lo44_2 := f46 2 _ (by decide) (Or.inl rfl) l_2
          have lo44_3 := f46 3 _ (by decide) (Or.inl rfl) l_3
          refine wR_la rfl lo44_0 ?_
          refine wR_gr rfl sO_e sO_0 hm ?_
          refine wR_cv rfl rfl rO_e hm rfl (h_avC (T := T) (n := n) (p := p) hm (cRd_t (hR (by omega))) (s5 q1 q2 q3 q4) (by omega)) ?_
          rintro _ m47 ⟨rfl, hI47, k48⟩
          show yR zpg tX10_takesSum (d + 1) (59, lo44, [], m47) _
          refine wR_la rfl lo44_0 ?_
          refine wR_li rfl lo44_1 ?_
          refine wR_cv rfl rfl sO_e hI47 rfl (hQ _ _ _ (tkf T n p).2 (f.1, f.2.1, 0, (tkf T n p).1.2.1 :: f.2.2.2) r (by omega) hx hI47 (tB_c2 (hB (by omega)) (c2_tr c2_rf (c2_fo hA k48.1 rfl)) (k48.2) (s6 q1 q2 q3 q4 m47 hI47 k48)) ((opn_k (f := (f.1, f.2.1, 0, (tkf T n p).1.2.1 :: f.2.2.2)) (g := f) (nnC_c (s7 q1 q2 q3 q4 m47 hI47 k48))).trans hO) ⟨hb.1, fun w => absurd rfl w.2, hdk_1 (by rw [(s8 q1 q2 q3 q4 m47 hI47 k48)]; decide)⟩) ?_
          rintro _ m49 ⟨v51, q52, rfl, hm49, k50⟩
          show yR zpg tX10_takesSum (d + 1) (64, lo44, [.int v51], m49) _
          refine wR_if_eq rfl (a := (v51).toInt) rfl (fun q53 => ?_) (fun q53 => ?_)
          ·
            refine yR_m 1 (fun _ _ _ _ => rfl) ?_
            refine wR_si rfl rfl (fun lo54 e55 f56 => ?_)
            have lo54_4 := f56 4 _ (by decide) (Or.inl rfl) e45
            have lo54_0 := f56 0 _ (by decide) (Or.inl rfl) lo44_0
            have lo54_1 := f56 1 _ (by decide) (Or.inl rfl) lo44_1
            have lo54_3 := f56 3 _ (by decide) (Or.inl rfl) lo44_3
            refine wN_in (a := (k).toInt) (b := 1) rfl rfl lo54_3 rfl rfl (by omega) (fun x57 e58 => fun lo59 e60 f61 => ?_)
            have lo59_2 := f61 2 _ (by decide) (Or.inl rfl) e55
            have lo59_4 := f61 4 _ (by decide) (Or.inl rfl) lo54_4
            have lo59_0 := f61 0 _ (by decide) (Or.inl rfl) lo54_0
            have lo59_1 := f61 1 _ (by decide) (Or.inl rfl) lo54_1
            exact yR_m 1 (fun _ _ _ _ => rfl) (h8 q1 q2 q3 q4 m47 hI47 k48 v51 q52 m49 hm49 k50 q53 x57 e58 lo59 lo59_0 lo59_1 lo59_2 e60 hm49)
          ·
            refine wR_la rfl lo44_0 ?_
            refine wR_gq rfl sO_e hm49 ((c2_30 hA (c2_tr (c2_tr c2_rf (c2_fo hA k48.1 rfl)) k50.1)).trans hr) ?_
            refine yR_m 1 (fun _ _ _ _ => rfl) ?_
            refine wR_li rfl e45 ?_
            refine yR_m 1 (fun _ _ _ _ => rfl) ?_
            refine wR_cv rfl rfl hRo_e hm49 rfl (h_putC hA hm49 (by omega)) ?_
            rintro _ m62 ⟨v64, rfl, hm62, k63⟩
            show yR zpg tX10_takesSum (d + 1) (80, lo44, [.int v64], m62) _
            refine wR_if_eq rfl (a := (v64).toInt) rfl (fun q65 => ?_) (fun q65 => ?_)
            ·
              refine yR_m 1 (fun _ _ _ _ => rfl) ?_
              refine wR_si rfl rfl (fun lo66 e67 f68 => ?_)
              have lo66_4 := f68 4 _ (by decide) (Or.inl rfl) e45
              have lo66_0 := f68 0 _ (by decide) (Or.inl rfl) lo44_0
              have lo66_1 := f68 1 _ (by decide) (Or.inl rfl) lo44_1
              have lo66_3 := f68 3 _ (by decide) (Or.inl rfl) lo44_3
              refine wN_in (a := (k).toInt) (b := 1) rfl rfl lo66_3 rfl rfl (by omega) (fun x69 e70 => fun lo71 e72 f73 => ?_)
              have lo71_2 := f73 2 _ (by decide) (Or.inl rfl) e67
              have lo71_4 := f73 4 _ (by decide) (Or.inl rfl) lo66_4
              have lo71_0 := f73 0 _ (by decide) (Or.inl rfl) lo66_0
              have lo71_1 := f73 1 _ (by decide) (Or.inl rfl) lo66_1
              exact yR_m 1 (fun _ _ _ _ => rfl) (h9 q1 q2 q3 q4 m47 hI47 k48 v51 q52 m49 hm49 k50 q53 v64 m62 hm62 k63 q65 x69 e70 lo71 lo71_0 lo71_1 lo71_2 e72 hm62)
            ·
              refine yR_m 2 (fun _ _ _ _ => rfl) ?_
              refine wR_si rfl rfl (fun lo74 e75 f76 => ?_)
              have lo74_4 := f76 4 _ (by decide) (Or.inl rfl) e45
              have lo74_0 := f76 0 _ (by decide) (Or.inl rfl) lo44_0
              have lo74_1 := f76 1 _ (by decide) (Or.inl rfl) lo44_1
              have lo74_3 := f76 3 _ (by decide) (Or.inl rfl) lo44_3
              refine wN_in (a := (k).toInt) (b := 1) rfl rfl lo74_3 rfl rfl (by omega) (fun x77 e78 => fun lo79 e80 f81 => ?_)
              have lo79_2 := f81 2 _ (by decide) (Or.inl rfl) e75
              have lo79_4 := f81 4 _ (by decide) (Or.inl rfl) lo74_4
              have lo79_0 := f81 0 _ (by decide) (Or.inl rfl) lo74_0
              have lo79_1 := f81 1 _ (by decide) (Or.inl rfl) lo74_1
              exact yR_m 1 (fun _ _ _ _ => rfl) (h10 q1 q2 q3 q4 m47 hI47 k48 v51 q52 m49 hm49 k50 q53 v64 m62 hm62 k63 q65 x77 e78 lo79 lo79_0 lo79_1 lo79_2 e80 hm62)

theorem su_8 {o : Int} {D : Nat} {p0 : Int} (hA : hRA R A) (hD : 4 ≤ D) (hDd : D ≤ d + 1) (hQ : tC R A T n ru 105 o D (bS6 T n) (pProd T n ru)) (hb : bS5 T n f p0) (hO : opn (f :: r) = o) (hBr : tB R A T n ru p0 mr) : ∀ (N : Nat) (mem : zM) (x g k : Int32) (p : Int) (lo : List (Nat × Value)), 1600 - k.toInt < (N : Int) → x.toInt = o → 0 ≤ k.toInt → k.toInt ≤ 1600 → (¬ g.toInt = 0 → 2 * k.toInt ≤ p) → aTm aT0 mem → tH R A T n p0 (pProd T n ru (cC R A mr) f r p0) (Mch T n ru (cC R A mr) (f :: r) 0 p0 = none) mr g.toInt p mem → zlg lo 0 = some (.ref 30) → zlg lo 1 = some (.int x) → zlg lo 2 = some (.int g) → zlg lo 3 = some (.int k) → yR zpg tX10_takesSum (d + 1) (8, lo, [], mem) (fun a m => ∃ (v : Int32) (q : Int), a = some (.int v) ∧ aTm aT0 m ∧ tH R A T n p0 (pSum T n ru (cC R A mr) f r p0) (Mch T n ru (cC R A mr) (f :: r) 0 p0 = none) mr v.toInt q m) := by
  intro N
  induction N with
  | zero =>
    intro mem x g k p lo hN hx k0 k2
    exfalso
    omega
  | succ N ih =>
    intro mem x g k p lo hN hx k0 k2 k1 hm h a0 a1 a2 a3
    have hR : ¬ g.toInt = 0 → cRd T n p mem := fun w => (tH_1 h w).2.2.1
    have hB : ¬ g.toInt = 0 → tB R A T n ru p mem := fun w => tB_c2 hBr h.1 (hR w) (by have q9 := (tH_1 h w).2; have q8 := hBr.2.2.2.2.1; omega)
    have hr : zfl mem 30 1 = some (.ref R) := by rw [c2_30 hA h.1]; exact hBr.2.1
    have hg : 0 ≤ g.toInt ∧ g.toInt ≤ 1 := by
      rcases h.2 with w | w
      · have w1 := w.1
        omega
      · have w1 := w.1
        omega
    have h16 := hBr.2.2.2.2.2
    obtain ⟨fs, hRo_e⟩ := rl_of hA
    exact w_su8 (R := R) (A := A) (T := T) (n := n) (ru := ru) (p := p) (o := o) (D := D) (f := f) (r := r) (p0 := p0) hm a0 a1 a2 a3 hDd hD hA hRo_e hr hR hB hg k0 hQ hx hO hb
        (fun q1 hm2 => by
          rcases h.2 with w | w
          · exfalso
            have q9 := (cRd_p w.2.2.2.1).2
            have q8 := k1 (by omega)
            omega
          · exact ⟨_, p, rfl, hm2, h.1, Or.inr w⟩)
        (fun q1 q2 hm2 => ⟨_, p, rfl, hm2, h.1, Or.inr ⟨by omega, tH_0 h (by omega)⟩⟩)
        (fun q1 q2 q3 hm2 => by
          have t := tH_1 h (by omega)
          exact ⟨_, p, rfl, hm2, h.1, Or.inl ⟨by omega, ⟨t.1.1, fun w => w.elim (fun w => by rcases w with w | w <;> (have q9 := (cX_S (hR (by omega))).2 w; omega)) t.1.2⟩, t.2⟩⟩)
        (fun q1 q2 q3 q4 q5 hm2 => by
          have t := tH_1 h (by omega)
          exact ⟨_, p, rfl, hm2, h.1, Or.inl ⟨by omega, ⟨t.1.1, fun w => w.elim (fun w => by rcases w with w | w <;> (have q9 := (cX_S (hR (by omega))).2 w; omega)) t.1.2⟩, t.2⟩⟩)
        (fun q1 q2 q3 q4 q5 => cX_4 (hR (by omega)) (by omega))
        (fun q1 q2 q3 q4 q5 m9 hI9 k10 => by
          have hs3 := (hB (by omega)).2.2.2.2.1
          have z0 := congrArg Int32.toInt (c2_R3 hA (fo_up k10.1 rfl rfl))
          have y0 := tk_le ((hR (by omega)))
          omega)
        (fun q1 q2 q3 q4 q5 m9 hI9 k10 => (am_5 (Or.inr ((cX_S (hR (by omega))).1 ⟨by omega, by omega⟩))).2)
        (fun q1 q2 q3 q4 q5 m9 hI9 k10 => (am_5 (Or.inr ((cX_S (hR (by omega))).1 ⟨by omega, by omega⟩))).1)
        (fun q1 q2 q3 q4 q5 m9 hI9 k10 v13 q14 m11 hm11 k12 q15 x19 e20 lo a0 a1 a2 a3 hm2 => by
          have t := tH_1 h (by omega)
          have hs3 := (hB (by omega)).2.2.2.2.1
          have hp := cRd_p (hR (by omega))
          have ep := cX_e (hR (by omega)) (by omega) (by omega)
          have kz := k1 (by omega)
          have z0 := congrArg Int32.toInt (c2_R3 hA (fo_up k10.1 rfl rfl))
          have y0 := tk_le ((hR (by omega)))
          exact ih _ x 0 x19 p lo (by omega) hx (by omega) (by omega) (fun w => absurd rfl w) hm2 ⟨(c2_tr h.1 (c2_tr (c2_tr c2_rf (c2_fo hA k10.1 rfl)) k12.1)), Or.inr ⟨rfl, lpS_0 hp hb t.1 (Or.inr ((cX_S (hR (by omega))).1 ⟨by omega, by omega⟩)) (cC_fo hA k10.1) (tH_0 k12 (by omega))⟩⟩ a0 a1 a2 a3)
        (fun q1 q2 q3 q4 q5 m9 hI9 k10 v13 q14 m11 hm11 k12 q15 v26 m24 hm24 k25 q27 x31 e32 lo a0 a1 a2 a3 hm2 => by exfalso; omega)
        (fun q1 q2 q3 q4 q5 m9 hI9 k10 v13 q14 m11 hm11 k12 q15 v26 m24 hm24 k25 q27 x39 e40 lo a0 a1 a2 a3 hm2 => by
          have t := tH_1 h (by omega)
          have hs3 := (hB (by omega)).2.2.2.2.1
          have hp := cRd_p (hR (by omega))
          have ep := cX_e (hR (by omega)) (by omega) (by omega)
          have kz := k1 (by omega)
          have z0 := congrArg Int32.toInt (c2_R3 hA (fo_up k10.1 rfl rfl))
          have y0 := tk_le ((hR (by omega)))
          have z1 := (tH_1 k12 (by omega)).2
          have y1 := (cRd_p (tH_1 k12 (by omega)).2.2.1).2
          have z2 := k25.1.2.1
          exact ih _ x 1 x39 _ lo (by omega) hx (by omega) (by omega) (fun w => by omega) hm2 ⟨(c2_tr h.1 (c2_tr (c2_tr (c2_tr c2_rf (c2_fo hA k10.1 rfl)) k12.1) (c2_pF hA k25.1.1))), Or.inl ⟨rfl, lpS_1 hp (cRd_p (tH_1 k12 (by omega)).2.2.1) hb t.1 (Or.inr ((cX_S (hR (by omega))).1 ⟨by omega, by omega⟩)) (cC_fo hA k10.1) (tH_1 k12 (by omega)).1 (vp_2 (k25.1.2.2 (by omega)) (by have q9 := mX5 (hR (by omega)) (by omega); have q8 := ad_u (x := gi mem 27 5) (by omega) (by omega); omega)), by omega, ⟨_, _, cR_pF hA k25.1.1 (cRd_t (tH_1 k12 (by omega)).2.2.1)⟩, by omega, by omega⟩⟩ a0 a1 a2 a3)
        (fun q1 q2 q3 q4 => cX_4 (hR (by omega)) (by omega))
        (fun q1 q2 q3 q4 m47 hI47 k48 => by
          have hs3 := (hB (by omega)).2.2.2.2.1
          have z0 := congrArg Int32.toInt (c2_R3 hA (fo_up k48.1 rfl rfl))
          have y0 := tk_le ((hR (by omega)))
          omega)
        (fun q1 q2 q3 q4 m47 hI47 k48 => (am_5 (Or.inl ((cX_S (hR (by omega))).1 ⟨by omega, by omega⟩))).2)
        (fun q1 q2 q3 q4 m47 hI47 k48 => (am_5 (Or.inl ((cX_S (hR (by omega))).1 ⟨by omega, by omega⟩))).1)
        (fun q1 q2 q3 q4 m47 hI47 k48 v51 q52 m49 hm49 k50 q53 x57 e58 lo a0 a1 a2 a3 hm2 => by
          have t := tH_1 h (by omega)
          have hs3 := (hB (by omega)).2.2.2.2.1
          have hp := cRd_p (hR (by omega))
          have ep := cX_e (hR (by omega)) (by omega) (by omega)
          have kz := k1 (by omega)
          have z0 := congrArg Int32.toInt (c2_R3 hA (fo_up k48.1 rfl rfl))
          have y0 := tk_le ((hR (by omega)))
          exact ih _ x 0 x57 p lo (by omega) hx (by omega) (by omega) (fun w => absurd rfl w) hm2 ⟨(c2_tr h.1 (c2_tr (c2_tr c2_rf (c2_fo hA k48.1 rfl)) k50.1)), Or.inr ⟨rfl, lpS_0 hp hb t.1 (Or.inl ((cX_S (hR (by omega))).1 ⟨by omega, by omega⟩)) (cC_fo hA k48.1) (tH_0 k50 (by omega))⟩⟩ a0 a1 a2 a3)
        (fun q1 q2 q3 q4 m47 hI47 k48 v51 q52 m49 hm49 k50 q53 v64 m62 hm62 k63 q65 x69 e70 lo a0 a1 a2 a3 hm2 => by exfalso; omega)
        (fun q1 q2 q3 q4 m47 hI47 k48 v51 q52 m49 hm49 k50 q53 v64 m62 hm62 k63 q65 x77 e78 lo a0 a1 a2 a3 hm2 => by
          have t := tH_1 h (by omega)
          have hs3 := (hB (by omega)).2.2.2.2.1
          have hp := cRd_p (hR (by omega))
          have ep := cX_e (hR (by omega)) (by omega) (by omega)
          have kz := k1 (by omega)
          have z0 := congrArg Int32.toInt (c2_R3 hA (fo_up k48.1 rfl rfl))
          have y0 := tk_le ((hR (by omega)))
          have z1 := (tH_1 k50 (by omega)).2
          have y1 := (cRd_p (tH_1 k50 (by omega)).2.2.1).2
          have z2 := k63.1.2.1
          exact ih _ x 1 x77 _ lo (by omega) hx (by omega) (by omega) (fun w => by omega) hm2 ⟨(c2_tr h.1 (c2_tr (c2_tr (c2_tr c2_rf (c2_fo hA k48.1 rfl)) k50.1) (c2_pF hA k63.1.1))), Or.inl ⟨rfl, lpS_1 hp (cRd_p (tH_1 k50 (by omega)).2.2.1) hb t.1 (Or.inl ((cX_S (hR (by omega))).1 ⟨by omega, by omega⟩)) (cC_fo hA k48.1) (tH_1 k50 (by omega)).1 (vp_2 (k63.1.2.2 (by omega)) (by have q9 := mX5 (hR (by omega)) (by omega); have q8 := ad_u (x := gi mem 27 5) (by omega) (by omega); omega)), by omega, ⟨_, _, cR_pF hA k63.1.1 (cRd_t (tH_1 k50 (by omega)).2.2.1)⟩, by omega, by omega⟩⟩ a0 a1 a2 a3)
set_option maxRecDepth 100000 in
theorem w_su0 {d : Nat} {mem : zM} {P : Option Value → zM → Prop} {R A : Nat} {T : List Int32} {n ru p o : Int} {D : Nat} {f : Fr} {r : List Fr} {x : Int32} {lo : List (Nat × Value)} (hm : aTm aT0 mem) (l_0 : zlg lo 0 = some (.ref 30)) (l_1 : zlg lo 1 = some (.int x)) (hDd : D ≤ d + 1) (hD3 : 4 ≤ D) (hA : hRA R A) (hB : tB R A T n ru p mem) (hQ : tC R A T n ru 105 o D (bS6 T n) (pProd T n ru)) (hx : x.toInt = o) (hO : opn (f :: r) = o) (hb : bS5 T n f p) (h1 : ∀ (v3 : Int32) (q4 : Int) (m1 : zM), aTm aT0 m1 → tH R A T n p (pProd T n ru (cC R A mem) f r p) (Mch T n ru (cC R A mem) (f :: r) 0 p = none) mem v3.toInt q4 m1 → ∀ lo, zlg lo 0 = some (.ref 30) → zlg lo 1 = some (.int x) → zlg lo 2 = some (.int v3) → zlg lo 3 = some (.int 0) → aTm aT0 m1 → yR zpg tX10_takesSum (d + 1) (8, lo, [], m1) P) : yR zpg tX10_takesSum (d + 1) (0, lo, [], mem) P := by
  refine wR_la rfl l_0 ?_
  refine wR_li rfl l_1 ?_
  refine wR_cv rfl rfl sO_e hm rfl (hQ _ _ _ p f r (by omega) hx hm hB hO ⟨hb.1, hb.2.1, hdk_m hb.2.2 (by decide)⟩) ?_
  rintro _ m1 ⟨v3, q4, rfl, hm1, k2⟩
  show yR zpg tX10_takesSum (d + 1) (5, lo, [.int v3], m1) _
  refine wR_si rfl rfl (fun lo5 e6 f7 => ?_)
  have lo5_0 := f7 0 _ (by decide) (Or.inl rfl) l_0
  have lo5_1 := f7 1 _ (by decide) (Or.inl rfl) l_1
  refine yR_m 1 (fun _ _ _ _ => rfl) ?_
  refine wR_si rfl rfl (fun lo8 e9 f10 => ?_)
  have lo8_2 := f10 2 _ (by decide) (Or.inl rfl) e6
  have lo8_0 := f10 0 _ (by decide) (Or.inl rfl) lo5_0
  have lo8_1 := f10 1 _ (by decide) (Or.inl rfl) lo5_1
  exact h1 v3 q4 m1 hm1 k2 lo8 lo8_0 lo8_1 lo8_2 e9 hm1

theorem c_su {o : Int} {D : Nat} (hA : hRA R A) (hD : 4 ≤ D) (hQ : tC R A T n ru 105 o D (bS6 T n) (pProd T n ru)) : tC R A T n ru 104 o (D + 1) (bS5 T n) (pSum T n ru) := by
  intro d mem x p f r hd hx hm hB hO hb
  obtain ⟨d, rfl⟩ : ∃ q, d = q + 2 := ⟨d - 2, by omega⟩
  refine yC_of (t := tX10_takesSum) rfl rfl ?_
  exact w_su0 (R := R) (A := A) (T := T) (n := n) (ru := ru) (p := p) (o := o) (D := D) (f := f) (r := r) hm rfl rfl (by omega) hD hA hB hQ hx hO hb
        (fun v3 q4 m1 hm1 k2 lo a0 a1 a2 a3 hm2 => su_8 hA hD (by omega) hQ hb hO hB 1601 _ x _ 0 _ lo (by decide) hx (by decide) (by decide) (fun w => by have q9 := tH_1 k2 w; have q8 := hB.2.2.2.1; have q7 := (cRd_p q8).1; show 2 * (0 : Int) ≤ _; omega) hm2 k2 a0 a1 a2 a3)
set_option maxRecDepth 100000 in
theorem w_bo8 {d : Nat} {mem : zM} {P : Option Value → zM → Prop} {R A : Nat} {T : List Int32} {n ru p o : Int} {D : Nat} {f : Fr} {r : List Fr} {fs : List (Bool × aTy)} {x g k : Int32} {p0 : Int} {lo : List (Nat × Value)} (hm : aTm aT0 mem) (l_0 : zlg lo 0 = some (.ref 30)) (l_1 : zlg lo 1 = some (.int x)) (l_2 : zlg lo 2 = some (.int g)) (l_3 : zlg lo 3 = some (.int k)) (hDd : D ≤ d + 1) (hD3 : 4 ≤ D) (hA : hRA R A) (hRo_e : aat aT0 R = some (.inr (7, fs))) (hr : zfl mem 30 1 = some (.ref R)) (hR : ¬ g.toInt = 0 → cRd T n p mem) (hB : ¬ g.toInt = 0 → tB R A T n ru p mem) (hg : 0 ≤ g.toInt ∧ g.toInt ≤ 1) (k0 : 0 ≤ k.toInt) (hQ : tC R A T n ru 102 o D (bF) (pFact T n ru)) (hx : x.toInt = o) (hO : opn (f :: r) = o) (hb : bT2 f p0) (h1 : 1600 ≤ (k).toInt → aTm aT0 mem → P (some (.int g)) mem) (h2 : (k).toInt < 1600 → (g).toInt = 0 → aTm aT0 mem → P (some (.int g)) mem) (h3 : (k).toInt < 1600 → ¬ (g).toInt = 0 → ¬ (gi mem 27 4).toInt = 2 → aTm aT0 mem → P (some (.int g)) mem) (h4 : (k).toInt < 1600 → ¬ (g).toInt = 0 → (gi mem 27 4).toInt = 2 → ¬ (gi mem 27 5).toInt = 21 → aTm aT0 mem → P (some (.int g)) mem) (s1 : (k).toInt < 1600 → ¬ (g).toInt = 0 → (gi mem 27 4).toInt = 2 → (gi mem 27 5).toInt = 21 → ¬ (tkf T n p).1.1 = 4) (s2 : (k).toInt < 1600 → ¬ (g).toInt = 0 → (gi mem 27 4).toInt = 2 → (gi mem 27 5).toInt = 21 → ∀ (m5 : zM), aTm aT0 m5 → (fo 27 [] avF mem m5 ∧ cRd T n (tkf T n p).2 m5) → (gi m5 R 3).toInt ≤ (tkf T n p).2) (h5 : (k).toInt < 1600 → ¬ (g).toInt = 0 → (gi mem 27 4).toInt = 2 → (gi mem 27 5).toInt = 21 → ∀ (m5 : zM), aTm aT0 m5 → (fo 27 [] avF mem m5 ∧ cRd T n (tkf T n p).2 m5) → ∀ (v9 : Int32) (q10 : Int) (m7 : zM), aTm aT0 m7 → tH R A T n (tkf T n p).2 (pFact T n ru (cC R A m5) (f.1, 0, 1, 21 :: f.2.2.2) r (tkf T n p).2) (Mch T n ru (cC R A m5) ((f.1, 0, 1, 21 :: f.2.2.2) :: r) 0 (tkf T n p).2 = none) m5 v9.toInt q10 m7 → (v9).toInt = 0 → ∀ (x15 : Int32), x15.toInt = ((k).toInt + 1) → ∀ lo, zlg lo 0 = some (.ref 30) → zlg lo 1 = some (.int x) → zlg lo 2 = some (.int 0) → zlg lo 3 = some (.int x15) → aTm aT0 m7 → yR zpg tX10_takesBoth (d + 1) (8, lo, [], m7) P) (h6 : (k).toInt < 1600 → ¬ (g).toInt = 0 → (gi mem 27 4).toInt = 2 → (gi mem 27 5).toInt = 21 → ∀ (m5 : zM), aTm aT0 m5 → (fo 27 [] avF mem m5 ∧ cRd T n (tkf T n p).2 m5) → ∀ (v9 : Int32) (q10 : Int) (m7 : zM), aTm aT0 m7 → tH R A T n (tkf T n p).2 (pFact T n ru (cC R A m5) (f.1, 0, 1, 21 :: f.2.2.2) r (tkf T n p).2) (Mch T n ru (cC R A m5) ((f.1, 0, 1, 21 :: f.2.2.2) :: r) 0 (tkf T n p).2 = none) m5 v9.toInt q10 m7 → ¬ (v9).toInt = 0 → ∀ (v22 : Int32) (m20 : zM), aTm aT0 m20 → (puQ R A (10021 : Int) m7 m20 ∧ v22.toInt = 1) → (v22).toInt = 0 → ∀ (x27 : Int32), x27.toInt = ((k).toInt + 1) → ∀ lo, zlg lo 0 = some (.ref 30) → zlg lo 1 = some (.int x) → zlg lo 2 = some (.int 0) → zlg lo 3 = some (.int x27) → aTm aT0 m20 → yR zpg tX10_takesBoth (d + 1) (8, lo, [], m20) P) (h7 : (k).toInt < 1600 → ¬ (g).toInt = 0 → (gi mem 27 4).toInt = 2 → (gi mem 27 5).toInt = 21 → ∀ (m5 : zM), aTm aT0 m5 → (fo 27 [] avF mem m5 ∧ cRd T n (tkf T n p).2 m5) → ∀ (v9 : Int32) (q10 : Int) (m7 : zM), aTm aT0 m7 → tH R A T n (tkf T n p).2 (pFact T n ru (cC R A m5) (f.1, 0, 1, 21 :: f.2.2.2) r (tkf T n p).2) (Mch T n ru (cC R A m5) ((f.1, 0, 1, 21 :: f.2.2.2) :: r) 0 (tkf T n p).2 = none) m5 v9.toInt q10 m7 → ¬ (v9).toInt = 0 → ∀ (v22 : Int32) (m20 : zM), aTm aT0 m20 → (puQ R A (10021 : Int) m7 m20 ∧ v22.toInt = 1) → ¬ (v22).toInt = 0 → ∀ (x35 : Int32), x35.toInt = ((k).toInt + 1) → ∀ lo, zlg lo 0 = some (.ref 30) → zlg lo 1 = some (.int x) → zlg lo 2 = some (.int 1) → zlg lo 3 = some (.int x35) → aTm aT0 m20 → yR zpg tX10_takesBoth (d + 1) (8, lo, [], m20) P) : yR zpg tX10_takesBoth (d + 1) (8, lo, [], mem) P := by
  refine wR_li rfl l_3 ?_
  refine yR_m 1 (fun _ _ _ _ => rfl) ?_
  refine wR_ic_ge rfl (a := (k).toInt) (c := 1600) rfl rfl (fun q1 => ?_) (fun q1 => ?_)
  ·
    refine wR_li rfl l_2 ?_
    exact yR_rz rfl (by omega) (h1 q1 hm)
  ·
    refine wR_li rfl l_2 ?_
    refine wR_if_eq rfl (a := (g).toInt) rfl (fun q2 => ?_) (fun q2 => ?_)
    ·
      refine wR_li rfl l_2 ?_
      exact yR_rz rfl (by omega) (h2 q1 q2 hm)
    ·
      refine wR_la rfl l_0 ?_
      refine wR_gr rfl sO_e sO_0 hm ?_
      refine yR_m 1 (fun _ _ _ _ => rfl) ?_
      refine wR_iv rfl rfl rO_e hm rfl rfl rfl rfl ?_
      show yR zpg tX5_isOwn d (0, [(0, .ref 27), (1, .int 21)], [], mem) _
      refine yR_m 1 (fun _ _ _ _ => rfl) ?_
      refine wR_gi rfl rO_e rO_4 hm rfl ?_
      refine yR_m 1 (fun _ _ _ _ => rfl) ?_
      refine wR_ic_ne rfl (a := (gi mem 27 4).toInt) (c := 2) rfl rfl (fun q3 => ?_) (fun q3 => ?_)
      ·
        refine yR_m 1 (fun _ _ _ _ => rfl) ?_
        refine yR_rz rfl ⟨by decide, by decide⟩ ?_
        show yR zpg tX10_takesBoth (d + 1) (28, lo, [.int 0], mem) _
        refine wR_if_eq rfl (a := 0) rfl (fun _ => ?_) (fun q => by exfalso; omega)
        refine wR_li rfl l_2 ?_
        exact yR_rz rfl (by omega) (h3 q1 q2 q3 hm)
      ·
        refine yR_m 1 (fun _ _ _ _ => rfl) ?_
        refine wR_gi rfl rO_e rO_5 hm rfl ?_
        refine yR_m 1 (fun _ _ _ _ => rfl) ?_
        refine wR_ic_ne rfl (a := (gi mem 27 5).toInt) (c := 21) rfl rfl (fun q4 => ?_) (fun q4 => ?_)
        ·
          refine yR_m 1 (fun _ _ _ _ => rfl) ?_
          refine yR_rz rfl ⟨by decide, by decide⟩ ?_
          show yR zpg tX10_takesBoth (d + 1) (28, lo, [.int 0], mem) _
          refine wR_if_eq rfl (a := 0) rfl (fun _ => ?_) (fun q => by exfalso; omega)
          refine wR_li rfl l_2 ?_
          exact yR_rz rfl (by omega) (h4 q1 q2 q3 q4 hm)
        ·
          refine yR_m 2 (fun _ _ _ _ => rfl) ?_
          refine yR_rz rfl ⟨by decide, by decide⟩ ?_
          show yR zpg tX10_takesBoth (d + 1) (28, lo, [.int 1], mem) _
          refine wR_if_eq rfl (a := 1) rfl (fun q => by exfalso; omega) (fun _ => ?_)
          refine wR_la rfl l_0 ?_
          refine wR_gr rfl sO_e sO_0 hm ?_
          refine wR_cv rfl rfl rO_e hm rfl (h_avC (T := T) (n := n) (p := p) hm (cRd_t (hR (by omega))) (s1 q1 q2 q3 q4) (by omega)) ?_
          rintro _ m5 ⟨rfl, hI5, k6⟩
          show yR zpg tX10_takesBoth (d + 1) (38, lo, [], m5) _
          refine wR_la rfl l_0 ?_
          refine wR_li rfl l_1 ?_
          refine wR_cv rfl rfl sO_e hI5 rfl (hQ _ _ _ (tkf T n p).2 (f.1, 0, 1, 21 :: f.2.2.2) r (by omega) hx hI5 (tB_c2 (hB (by omega)) (c2_tr c2_rf (c2_fo hA k6.1 rfl)) (k6.2) (s2 q1 q2 q3 q4 m5 hI5 k6)) ((opn_k (f := (f.1, 0, 1, 21 :: f.2.2.2)) (g := f) (nnC_c (by decide))).trans hO) ⟨hb.1, rfl, fun w => absurd (show (1 : Int) = 0 from w) (by decide), hdk_1 (by decide)⟩) ?_
          rintro _ m7 ⟨v9, q10, rfl, hm7, k8⟩
          show yR zpg tX10_takesBoth (d + 1) (43, lo, [.int v9], m7) _
          refine wR_if_eq rfl (a := (v9).toInt) rfl (fun q11 => ?_) (fun q11 => ?_)
          ·
            refine yR_m 1 (fun _ _ _ _ => rfl) ?_
            refine wR_si rfl rfl (fun lo12 e13 f14 => ?_)
            have lo12_0 := f14 0 _ (by decide) (Or.inl rfl) l_0
            have lo12_1 := f14 1 _ (by decide) (Or.inl rfl) l_1
            have lo12_3 := f14 3 _ (by decide) (Or.inl rfl) l_3
            refine wN_in (a := (k).toInt) (b := 1) rfl rfl lo12_3 rfl rfl (by omega) (fun x15 e16 => fun lo17 e18 f19 => ?_)
            have lo17_2 := f19 2 _ (by decide) (Or.inl rfl) e13
            have lo17_0 := f19 0 _ (by decide) (Or.inl rfl) lo12_0
            have lo17_1 := f19 1 _ (by decide) (Or.inl rfl) lo12_1
            exact yR_m 1 (fun _ _ _ _ => rfl) (h5 q1 q2 q3 q4 m5 hI5 k6 v9 q10 m7 hm7 k8 q11 x15 e16 lo17 lo17_0 lo17_1 lo17_2 e18 hm7)
          ·
            refine wR_la rfl l_0 ?_
            refine wR_gq rfl sO_e hm7 ((c2_30 hA (c2_tr (c2_tr c2_rf (c2_fo hA k6.1 rfl)) k8.1)).trans hr) ?_
            refine yR_m 1 (fun _ _ _ _ => rfl) ?_
            refine wR_cv rfl rfl hRo_e hm7 rfl (h_putC hA hm7 (by omega)) ?_
            rintro _ m20 ⟨v22, rfl, hm20, k21⟩
            show yR zpg tX10_takesBoth (d + 1) (56, lo, [.int v22], m20) _
            refine wR_if_eq rfl (a := (v22).toInt) rfl (fun q23 => ?_) (fun q23 => ?_)
            ·
              refine yR_m 1 (fun _ _ _ _ => rfl) ?_
              refine wR_si rfl rfl (fun lo24 e25 f26 => ?_)
              have lo24_0 := f26 0 _ (by decide) (Or.inl rfl) l_0
              have lo24_1 := f26 1 _ (by decide) (Or.inl rfl) l_1
              have lo24_3 := f26 3 _ (by decide) (Or.inl rfl) l_3
              refine wN_in (a := (k).toInt) (b := 1) rfl rfl lo24_3 rfl rfl (by omega) (fun x27 e28 => fun lo29 e30 f31 => ?_)
              have lo29_2 := f31 2 _ (by decide) (Or.inl rfl) e25
              have lo29_0 := f31 0 _ (by decide) (Or.inl rfl) lo24_0
              have lo29_1 := f31 1 _ (by decide) (Or.inl rfl) lo24_1
              exact yR_m 1 (fun _ _ _ _ => rfl) (h6 q1 q2 q3 q4 m5 hI5 k6 v9 q10 m7 hm7 k8 q11 v22 m20 hm20 k21 q23 x27 e28 lo29 lo29_0 lo29_1 lo29_2 e30 hm20)
            ·
              refine yR_m 2 (fun _ _ _ _ => rfl) ?_
              refine wR_si rfl rfl (fun lo32 e33 f34 => ?_)
              have lo32_0 := f34 0 _ (by decide) (Or.inl rfl) l_0
              have lo32_1 := f34 1 _ (by decide) (Or.inl rfl) l_1
              have lo32_3 := f34 3 _ (by decide) (Or.inl rfl) l_3
              refine wN_in (a := (k).toInt) (b := 1) rfl rfl lo32_3 rfl rfl (by omega) (fun x35 e36 => fun lo37 e38 f39 => ?_)
              have lo37_2 := f39 2 _ (by decide) (Or.inl rfl) e33
              have lo37_0 := f39 0 _ (by decide) (Or.inl rfl) lo32_0
              have lo37_1 := f39 1 _ (by decide) (Or.inl rfl) lo32_1
              exact yR_m 1 (fun _ _ _ _ => rfl) (h7 q1 q2 q3 q4 m5 hI5 k6 v9 q10 m7 hm7 k8 q11 v22 m20 hm20 k21 q23 x35 e36 lo37 lo37_0 lo37_1 lo37_2 e38 hm20)

theorem bo_8 {o : Int} {D : Nat} {p0 : Int} (hA : hRA R A) (hD : 4 ≤ D) (hDd : D ≤ d + 1) (hQ : tC R A T n ru 102 o D (bF) (pFact T n ru)) (hb : bT2 f p0) (hO : opn (f :: r) = o) (hBr : tB R A T n ru p0 mr) : ∀ (N : Nat) (mem : zM) (x g k : Int32) (p : Int) (lo : List (Nat × Value)), 1600 - k.toInt < (N : Int) → x.toInt = o → 0 ≤ k.toInt → k.toInt ≤ 1600 → (¬ g.toInt = 0 → 2 * k.toInt ≤ p) → aTm aT0 mem → tH R A T n p0 (pFact T n ru (cC R A mr) f r p0) (Mch T n ru (cC R A mr) (f :: r) 0 p0 = none) mr g.toInt p mem → zlg lo 0 = some (.ref 30) → zlg lo 1 = some (.int x) → zlg lo 2 = some (.int g) → zlg lo 3 = some (.int k) → yR zpg tX10_takesBoth (d + 1) (8, lo, [], mem) (fun a m => ∃ (v : Int32) (q : Int), a = some (.int v) ∧ aTm aT0 m ∧ tH R A T n p0 (pBoth T n ru (cC R A mr) f r p0) (Mch T n ru (cC R A mr) (f :: r) 0 p0 = none) mr v.toInt q m) := by
  intro N
  induction N with
  | zero =>
    intro mem x g k p lo hN hx k0 k2
    exfalso
    omega
  | succ N ih =>
    intro mem x g k p lo hN hx k0 k2 k1 hm h a0 a1 a2 a3
    have hR : ¬ g.toInt = 0 → cRd T n p mem := fun w => (tH_1 h w).2.2.1
    have hB : ¬ g.toInt = 0 → tB R A T n ru p mem := fun w => tB_c2 hBr h.1 (hR w) (by have q9 := (tH_1 h w).2; have q8 := hBr.2.2.2.2.1; omega)
    have hr : zfl mem 30 1 = some (.ref R) := by rw [c2_30 hA h.1]; exact hBr.2.1
    have hg : 0 ≤ g.toInt ∧ g.toInt ≤ 1 := by
      rcases h.2 with w | w
      · have w1 := w.1
        omega
      · have w1 := w.1
        omega
    have h16 := hBr.2.2.2.2.2
    obtain ⟨fs, hRo_e⟩ := rl_of hA
    exact w_bo8 (R := R) (A := A) (T := T) (n := n) (ru := ru) (p := p) (o := o) (D := D) (f := f) (r := r) (p0 := p0) hm a0 a1 a2 a3 hDd hD hA hRo_e hr hR hB hg k0 hQ hx hO hb
        (fun q1 hm2 => by
          rcases h.2 with w | w
          · exfalso
            have q9 := (cRd_p w.2.2.2.1).2
            have q8 := k1 (by omega)
            omega
          · exact ⟨_, p, rfl, hm2, h.1, Or.inr w⟩)
        (fun q1 q2 hm2 => ⟨_, p, rfl, hm2, h.1, Or.inr ⟨by omega, tH_0 h (by omega)⟩⟩)
        (fun q1 q2 q3 hm2 => by
          have t := tH_1 h (by omega)
          exact ⟨_, p, rfl, hm2, h.1, Or.inl ⟨by omega, ⟨t.1, (fun w => by have q9 := (cX_O (by decide) (by decide) (hR (by omega))).2 w; omega)⟩, t.2⟩⟩)
        (fun q1 q2 q3 q4 hm2 => by
          have t := tH_1 h (by omega)
          exact ⟨_, p, rfl, hm2, h.1, Or.inl ⟨by omega, ⟨t.1, (fun w => by have q9 := (cX_O (by decide) (by decide) (hR (by omega))).2 w; omega)⟩, t.2⟩⟩)
        (fun q1 q2 q3 q4 => cX_4 (hR (by omega)) (by omega))
        (fun q1 q2 q3 q4 m5 hI5 k6 => by
          have hs3 := (hB (by omega)).2.2.2.2.1
          have z0 := congrArg Int32.toInt (c2_R3 hA (fo_up k6.1 rfl rfl))
          have y0 := tk_le ((hR (by omega)))
          omega)
        (fun q1 q2 q3 q4 m5 hI5 k6 v9 q10 m7 hm7 k8 q11 x15 e16 lo a0 a1 a2 a3 hm2 => by
          have t := tH_1 h (by omega)
          have hs3 := (hB (by omega)).2.2.2.2.1
          have hp := cRd_p (hR (by omega))
          have ep := cX_e (hR (by omega)) (by omega) (by omega)
          have kz := k1 (by omega)
          have z0 := congrArg Int32.toInt (c2_R3 hA (fo_up k6.1 rfl rfl))
          have y0 := tk_le ((hR (by omega)))
          exact ih _ x 0 x15 p lo (by omega) hx (by omega) (by omega) (fun w => absurd rfl w) hm2 ⟨(c2_tr h.1 (c2_tr (c2_tr c2_rf (c2_fo hA k6.1 rfl)) k8.1)), Or.inr ⟨rfl, lpB_0 hp hb t.1 ((cX_O (by decide) (by decide) (hR (by omega))).1 ⟨by omega, by omega⟩) (cC_fo hA k6.1) (tH_0 k8 (by omega))⟩⟩ a0 a1 a2 a3)
        (fun q1 q2 q3 q4 m5 hI5 k6 v9 q10 m7 hm7 k8 q11 v22 m20 hm20 k21 q23 x27 e28 lo a0 a1 a2 a3 hm2 => by exfalso; omega)
        (fun q1 q2 q3 q4 m5 hI5 k6 v9 q10 m7 hm7 k8 q11 v22 m20 hm20 k21 q23 x35 e36 lo a0 a1 a2 a3 hm2 => by
          have t := tH_1 h (by omega)
          have hs3 := (hB (by omega)).2.2.2.2.1
          have hp := cRd_p (hR (by omega))
          have ep := cX_e (hR (by omega)) (by omega) (by omega)
          have kz := k1 (by omega)
          have z0 := congrArg Int32.toInt (c2_R3 hA (fo_up k6.1 rfl rfl))
          have y0 := tk_le ((hR (by omega)))
          have z1 := (tH_1 k8 (by omega)).2
          have y1 := (cRd_p (tH_1 k8 (by omega)).2.2.1).2
          have z2 := k21.1.2.1
          exact ih _ x 1 x35 _ lo (by omega) hx (by omega) (by omega) (fun w => by omega) hm2 ⟨(c2_tr h.1 (c2_tr (c2_tr (c2_tr c2_rf (c2_fo hA k6.1 rfl)) k8.1) (c2_pF hA k21.1.1))), Or.inl ⟨rfl, lpB_1 hp (cRd_p (tH_1 k8 (by omega)).2.2.1) hb t.1 ((cX_O (by decide) (by decide) (hR (by omega))).1 ⟨by omega, by omega⟩) (cC_fo hA k6.1) (tH_1 k8 (by omega)).1 (vp_2 (k21.1.2.2 (by omega)) (by omega)), by omega, ⟨_, _, cR_pF hA k21.1.1 (cRd_t (tH_1 k8 (by omega)).2.2.1)⟩, by omega, by omega⟩⟩ a0 a1 a2 a3)
set_option maxRecDepth 100000 in
theorem w_bo0 {d : Nat} {mem : zM} {P : Option Value → zM → Prop} {R A : Nat} {T : List Int32} {n ru p o : Int} {D : Nat} {f : Fr} {r : List Fr} {x : Int32} {lo : List (Nat × Value)} (hm : aTm aT0 mem) (l_0 : zlg lo 0 = some (.ref 30)) (l_1 : zlg lo 1 = some (.int x)) (hDd : D ≤ d + 1) (hD3 : 4 ≤ D) (hA : hRA R A) (hB : tB R A T n ru p mem) (hQ : tC R A T n ru 102 o D (bF) (pFact T n ru)) (hx : x.toInt = o) (hO : opn (f :: r) = o) (hb : bT2 f p) (h1 : ∀ (v3 : Int32) (q4 : Int) (m1 : zM), aTm aT0 m1 → tH R A T n p (pFact T n ru (cC R A mem) f r p) (Mch T n ru (cC R A mem) (f :: r) 0 p = none) mem v3.toInt q4 m1 → ∀ lo, zlg lo 0 = some (.ref 30) → zlg lo 1 = some (.int x) → zlg lo 2 = some (.int v3) → zlg lo 3 = some (.int 0) → aTm aT0 m1 → yR zpg tX10_takesBoth (d + 1) (8, lo, [], m1) P) : yR zpg tX10_takesBoth (d + 1) (0, lo, [], mem) P := by
  refine wR_la rfl l_0 ?_
  refine wR_li rfl l_1 ?_
  refine wR_cv rfl rfl sO_e hm rfl (hQ _ _ _ p f r (by omega) hx hm hB hO ⟨hb.1, hb.2.1, by have q9 := hb.2.2.1; omega, hdk_m hb.2.2.2 (by decide)⟩) ?_
  rintro _ m1 ⟨v3, q4, rfl, hm1, k2⟩
  show yR zpg tX10_takesBoth (d + 1) (5, lo, [.int v3], m1) _
  refine wR_si rfl rfl (fun lo5 e6 f7 => ?_)
  have lo5_0 := f7 0 _ (by decide) (Or.inl rfl) l_0
  have lo5_1 := f7 1 _ (by decide) (Or.inl rfl) l_1
  refine yR_m 1 (fun _ _ _ _ => rfl) ?_
  refine wR_si rfl rfl (fun lo8 e9 f10 => ?_)
  have lo8_2 := f10 2 _ (by decide) (Or.inl rfl) e6
  have lo8_0 := f10 0 _ (by decide) (Or.inl rfl) lo5_0
  have lo8_1 := f10 1 _ (by decide) (Or.inl rfl) lo5_1
  exact h1 v3 q4 m1 hm1 k2 lo8 lo8_0 lo8_1 lo8_2 e9 hm1

theorem c_bo {o : Int} {D : Nat} (hA : hRA R A) (hD : 4 ≤ D) (hQ : tC R A T n ru 102 o D (bF) (pFact T n ru)) : tC R A T n ru 101 o (D + 1) (bT2) (pBoth T n ru) := by
  intro d mem x p f r hd hx hm hB hO hb
  obtain ⟨d, rfl⟩ : ∃ q, d = q + 2 := ⟨d - 2, by omega⟩
  refine yC_of (t := tX10_takesBoth) rfl rfl ?_
  exact w_bo0 (R := R) (A := A) (T := T) (n := n) (ru := ru) (p := p) (o := o) (D := D) (f := f) (r := r) hm rfl rfl (by omega) hD hA hB hQ hx hO hb
        (fun v3 q4 m1 hm1 k2 lo a0 a1 a2 a3 hm2 => bo_8 hA hD (by omega) hQ hb hO hB 1601 _ x _ 0 _ lo (by decide) hx (by decide) (by decide) (fun w => by have q9 := tH_1 k2 w; have q8 := hB.2.2.2.1; have q7 := (cRd_p q8).1; show 2 * (0 : Int) ≤ _; omega) hm2 k2 a0 a1 a2 a3)
set_option maxRecDepth 100000 in
theorem w_te8 {d : Nat} {mem : zM} {P : Option Value → zM → Prop} {R A : Nat} {T : List Int32} {n ru p o : Int} {D : Nat} {f : Fr} {r : List Fr} {fs : List (Bool × aTy)} {x g k : Int32} {p0 : Int} {lo : List (Nat × Value)} (hm : aTm aT0 mem) (l_0 : zlg lo 0 = some (.ref 30)) (l_1 : zlg lo 1 = some (.int x)) (l_2 : zlg lo 2 = some (.int g)) (l_3 : zlg lo 3 = some (.int k)) (hDd : D ≤ d + 1) (hD3 : 4 ≤ D) (hA : hRA R A) (hRo_e : aat aT0 R = some (.inr (7, fs))) (hr : zfl mem 30 1 = some (.ref R)) (hR : ¬ g.toInt = 0 → cRd T n p mem) (hB : ¬ g.toInt = 0 → tB R A T n ru p mem) (hg : 0 ≤ g.toInt ∧ g.toInt ≤ 1) (k0 : 0 ≤ k.toInt) (hQ : tC R A T n ru 101 o D (bT2) (pBoth T n ru)) (hx : x.toInt = o) (hO : opn (f :: r) = o) (hb : bT f p0) (h1 : 1600 ≤ (k).toInt → aTm aT0 mem → P (some (.int g)) mem) (h2 : (k).toInt < 1600 → (g).toInt = 0 → aTm aT0 mem → P (some (.int g)) mem) (h3 : (k).toInt < 1600 → ¬ (g).toInt = 0 → ¬ (gi mem 27 4).toInt = 2 → aTm aT0 mem → P (some (.int g)) mem) (h4 : (k).toInt < 1600 → ¬ (g).toInt = 0 → (gi mem 27 4).toInt = 2 → ¬ (gi mem 27 5).toInt = 20 → aTm aT0 mem → P (some (.int g)) mem) (s1 : (k).toInt < 1600 → ¬ (g).toInt = 0 → (gi mem 27 4).toInt = 2 → (gi mem 27 5).toInt = 20 → ¬ (tkf T n p).1.1 = 4) (s2 : (k).toInt < 1600 → ¬ (g).toInt = 0 → (gi mem 27 4).toInt = 2 → (gi mem 27 5).toInt = 20 → ∀ (m5 : zM), aTm aT0 m5 → (fo 27 [] avF mem m5 ∧ cRd T n (tkf T n p).2 m5) → (gi m5 R 3).toInt ≤ (tkf T n p).2) (h5 : (k).toInt < 1600 → ¬ (g).toInt = 0 → (gi mem 27 4).toInt = 2 → (gi mem 27 5).toInt = 20 → ∀ (m5 : zM), aTm aT0 m5 → (fo 27 [] avF mem m5 ∧ cRd T n (tkf T n p).2 m5) → ∀ (v9 : Int32) (q10 : Int) (m7 : zM), aTm aT0 m7 → tH R A T n (tkf T n p).2 (pBoth T n ru (cC R A m5) (f.1, 0, 1, 20 :: f.2.2.2) r (tkf T n p).2) (Mch T n ru (cC R A m5) ((f.1, 0, 1, 20 :: f.2.2.2) :: r) 0 (tkf T n p).2 = none) m5 v9.toInt q10 m7 → (v9).toInt = 0 → ∀ (x15 : Int32), x15.toInt = ((k).toInt + 1) → ∀ lo, zlg lo 0 = some (.ref 30) → zlg lo 1 = some (.int x) → zlg lo 2 = some (.int 0) → zlg lo 3 = some (.int x15) → aTm aT0 m7 → yR zpg tX10_takesTest (d + 1) (8, lo, [], m7) P) (h6 : (k).toInt < 1600 → ¬ (g).toInt = 0 → (gi mem 27 4).toInt = 2 → (gi mem 27 5).toInt = 20 → ∀ (m5 : zM), aTm aT0 m5 → (fo 27 [] avF mem m5 ∧ cRd T n (tkf T n p).2 m5) → ∀ (v9 : Int32) (q10 : Int) (m7 : zM), aTm aT0 m7 → tH R A T n (tkf T n p).2 (pBoth T n ru (cC R A m5) (f.1, 0, 1, 20 :: f.2.2.2) r (tkf T n p).2) (Mch T n ru (cC R A m5) ((f.1, 0, 1, 20 :: f.2.2.2) :: r) 0 (tkf T n p).2 = none) m5 v9.toInt q10 m7 → ¬ (v9).toInt = 0 → ∀ (v22 : Int32) (m20 : zM), aTm aT0 m20 → (puQ R A (10020 : Int) m7 m20 ∧ v22.toInt = 1) → (v22).toInt = 0 → ∀ (x27 : Int32), x27.toInt = ((k).toInt + 1) → ∀ lo, zlg lo 0 = some (.ref 30) → zlg lo 1 = some (.int x) → zlg lo 2 = some (.int 0) → zlg lo 3 = some (.int x27) → aTm aT0 m20 → yR zpg tX10_takesTest (d + 1) (8, lo, [], m20) P) (h7 : (k).toInt < 1600 → ¬ (g).toInt = 0 → (gi mem 27 4).toInt = 2 → (gi mem 27 5).toInt = 20 → ∀ (m5 : zM), aTm aT0 m5 → (fo 27 [] avF mem m5 ∧ cRd T n (tkf T n p).2 m5) → ∀ (v9 : Int32) (q10 : Int) (m7 : zM), aTm aT0 m7 → tH R A T n (tkf T n p).2 (pBoth T n ru (cC R A m5) (f.1, 0, 1, 20 :: f.2.2.2) r (tkf T n p).2) (Mch T n ru (cC R A m5) ((f.1, 0, 1, 20 :: f.2.2.2) :: r) 0 (tkf T n p).2 = none) m5 v9.toInt q10 m7 → ¬ (v9).toInt = 0 → ∀ (v22 : Int32) (m20 : zM), aTm aT0 m20 → (puQ R A (10020 : Int) m7 m20 ∧ v22.toInt = 1) → ¬ (v22).toInt = 0 → ∀ (x35 : Int32), x35.toInt = ((k).toInt + 1) → ∀ lo, zlg lo 0 = some (.ref 30) → zlg lo 1 = some (.int x) → zlg lo 2 = some (.int 1) → zlg lo 3 = some (.int x35) → aTm aT0 m20 → yR zpg tX10_takesTest (d + 1) (8, lo, [], m20) P) : yR zpg tX10_takesTest (d + 1) (8, lo, [], mem) P := by
  refine wR_li rfl l_3 ?_
  refine yR_m 1 (fun _ _ _ _ => rfl) ?_
  refine wR_ic_ge rfl (a := (k).toInt) (c := 1600) rfl rfl (fun q1 => ?_) (fun q1 => ?_)
  ·
    refine wR_li rfl l_2 ?_
    exact yR_rz rfl (by omega) (h1 q1 hm)
  ·
    refine wR_li rfl l_2 ?_
    refine wR_if_eq rfl (a := (g).toInt) rfl (fun q2 => ?_) (fun q2 => ?_)
    ·
      refine wR_li rfl l_2 ?_
      exact yR_rz rfl (by omega) (h2 q1 q2 hm)
    ·
      refine wR_la rfl l_0 ?_
      refine wR_gr rfl sO_e sO_0 hm ?_
      refine yR_m 1 (fun _ _ _ _ => rfl) ?_
      refine wR_iv rfl rfl rO_e hm rfl rfl rfl rfl ?_
      show yR zpg tX5_isOwn d (0, [(0, .ref 27), (1, .int 20)], [], mem) _
      refine yR_m 1 (fun _ _ _ _ => rfl) ?_
      refine wR_gi rfl rO_e rO_4 hm rfl ?_
      refine yR_m 1 (fun _ _ _ _ => rfl) ?_
      refine wR_ic_ne rfl (a := (gi mem 27 4).toInt) (c := 2) rfl rfl (fun q3 => ?_) (fun q3 => ?_)
      ·
        refine yR_m 1 (fun _ _ _ _ => rfl) ?_
        refine yR_rz rfl ⟨by decide, by decide⟩ ?_
        show yR zpg tX10_takesTest (d + 1) (28, lo, [.int 0], mem) _
        refine wR_if_eq rfl (a := 0) rfl (fun _ => ?_) (fun q => by exfalso; omega)
        refine wR_li rfl l_2 ?_
        exact yR_rz rfl (by omega) (h3 q1 q2 q3 hm)
      ·
        refine yR_m 1 (fun _ _ _ _ => rfl) ?_
        refine wR_gi rfl rO_e rO_5 hm rfl ?_
        refine yR_m 1 (fun _ _ _ _ => rfl) ?_
        refine wR_ic_ne rfl (a := (gi mem 27 5).toInt) (c := 20) rfl rfl (fun q4 => ?_) (fun q4 => ?_)
        ·
          refine yR_m 1 (fun _ _ _ _ => rfl) ?_
          refine yR_rz rfl ⟨by decide, by decide⟩ ?_
          show yR zpg tX10_takesTest (d + 1) (28, lo, [.int 0], mem) _
          refine wR_if_eq rfl (a := 0) rfl (fun _ => ?_) (fun q => by exfalso; omega)
          refine wR_li rfl l_2 ?_
          exact yR_rz rfl (by omega) (h4 q1 q2 q3 q4 hm)
        ·
          refine yR_m 2 (fun _ _ _ _ => rfl) ?_
          refine yR_rz rfl ⟨by decide, by decide⟩ ?_
          show yR zpg tX10_takesTest (d + 1) (28, lo, [.int 1], mem) _
          refine wR_if_eq rfl (a := 1) rfl (fun q => by exfalso; omega) (fun _ => ?_)
          refine wR_la rfl l_0 ?_
          refine wR_gr rfl sO_e sO_0 hm ?_
          refine wR_cv rfl rfl rO_e hm rfl (h_avC (T := T) (n := n) (p := p) hm (cRd_t (hR (by omega))) (s1 q1 q2 q3 q4) (by omega)) ?_
          rintro _ m5 ⟨rfl, hI5, k6⟩
          show yR zpg tX10_takesTest (d + 1) (38, lo, [], m5) _
          refine wR_la rfl l_0 ?_
          refine wR_li rfl l_1 ?_
          refine wR_cv rfl rfl sO_e hI5 rfl (hQ _ _ _ (tkf T n p).2 (f.1, 0, 1, 20 :: f.2.2.2) r (by omega) hx hI5 (tB_c2 (hB (by omega)) (c2_tr c2_rf (c2_fo hA k6.1 rfl)) (k6.2) (s2 q1 q2 q3 q4 m5 hI5 k6)) ((opn_k (f := (f.1, 0, 1, 20 :: f.2.2.2)) (g := f) (nnC_c (by decide))).trans hO) ⟨hb.1, rfl, rfl, hdk_1 (by decide)⟩) ?_
          rintro _ m7 ⟨v9, q10, rfl, hm7, k8⟩
          show yR zpg tX10_takesTest (d + 1) (43, lo, [.int v9], m7) _
          refine wR_if_eq rfl (a := (v9).toInt) rfl (fun q11 => ?_) (fun q11 => ?_)
          ·
            refine yR_m 1 (fun _ _ _ _ => rfl) ?_
            refine wR_si rfl rfl (fun lo12 e13 f14 => ?_)
            have lo12_0 := f14 0 _ (by decide) (Or.inl rfl) l_0
            have lo12_1 := f14 1 _ (by decide) (Or.inl rfl) l_1
            have lo12_3 := f14 3 _ (by decide) (Or.inl rfl) l_3
            refine wN_in (a := (k).toInt) (b := 1) rfl rfl lo12_3 rfl rfl (by omega) (fun x15 e16 => fun lo17 e18 f19 => ?_)
            have lo17_2 := f19 2 _ (by decide) (Or.inl rfl) e13
            have lo17_0 := f19 0 _ (by decide) (Or.inl rfl) lo12_0
            have lo17_1 := f19 1 _ (by decide) (Or.inl rfl) lo12_1
            exact yR_m 1 (fun _ _ _ _ => rfl) (h5 q1 q2 q3 q4 m5 hI5 k6 v9 q10 m7 hm7 k8 q11 x15 e16 lo17 lo17_0 lo17_1 lo17_2 e18 hm7)
          ·
            refine wR_la rfl l_0 ?_
            refine wR_gq rfl sO_e hm7 ((c2_30 hA (c2_tr (c2_tr c2_rf (c2_fo hA k6.1 rfl)) k8.1)).trans hr) ?_
            refine yR_m 1 (fun _ _ _ _ => rfl) ?_
            refine wR_cv rfl rfl hRo_e hm7 rfl (h_putC hA hm7 (by omega)) ?_
            rintro _ m20 ⟨v22, rfl, hm20, k21⟩
            show yR zpg tX10_takesTest (d + 1) (56, lo, [.int v22], m20) _
            refine wR_if_eq rfl (a := (v22).toInt) rfl (fun q23 => ?_) (fun q23 => ?_)
            ·
              refine yR_m 1 (fun _ _ _ _ => rfl) ?_
              refine wR_si rfl rfl (fun lo24 e25 f26 => ?_)
              have lo24_0 := f26 0 _ (by decide) (Or.inl rfl) l_0
              have lo24_1 := f26 1 _ (by decide) (Or.inl rfl) l_1
              have lo24_3 := f26 3 _ (by decide) (Or.inl rfl) l_3
              refine wN_in (a := (k).toInt) (b := 1) rfl rfl lo24_3 rfl rfl (by omega) (fun x27 e28 => fun lo29 e30 f31 => ?_)
              have lo29_2 := f31 2 _ (by decide) (Or.inl rfl) e25
              have lo29_0 := f31 0 _ (by decide) (Or.inl rfl) lo24_0
              have lo29_1 := f31 1 _ (by decide) (Or.inl rfl) lo24_1
              exact yR_m 1 (fun _ _ _ _ => rfl) (h6 q1 q2 q3 q4 m5 hI5 k6 v9 q10 m7 hm7 k8 q11 v22 m20 hm20 k21 q23 x27 e28 lo29 lo29_0 lo29_1 lo29_2 e30 hm20)
            ·
              refine yR_m 2 (fun _ _ _ _ => rfl) ?_
              refine wR_si rfl rfl (fun lo32 e33 f34 => ?_)
              have lo32_0 := f34 0 _ (by decide) (Or.inl rfl) l_0
              have lo32_1 := f34 1 _ (by decide) (Or.inl rfl) l_1
              have lo32_3 := f34 3 _ (by decide) (Or.inl rfl) l_3
              refine wN_in (a := (k).toInt) (b := 1) rfl rfl lo32_3 rfl rfl (by omega) (fun x35 e36 => fun lo37 e38 f39 => ?_)
              have lo37_2 := f39 2 _ (by decide) (Or.inl rfl) e33
              have lo37_0 := f39 0 _ (by decide) (Or.inl rfl) lo32_0
              have lo37_1 := f39 1 _ (by decide) (Or.inl rfl) lo32_1
              exact yR_m 1 (fun _ _ _ _ => rfl) (h7 q1 q2 q3 q4 m5 hI5 k6 v9 q10 m7 hm7 k8 q11 v22 m20 hm20 k21 q23 x35 e36 lo37 lo37_0 lo37_1 lo37_2 e38 hm20)

theorem te_8 {o : Int} {D : Nat} {p0 : Int} (hA : hRA R A) (hD : 4 ≤ D) (hDd : D ≤ d + 1) (hQ : tC R A T n ru 101 o D (bT2) (pBoth T n ru)) (hb : bT f p0) (hO : opn (f :: r) = o) (hBr : tB R A T n ru p0 mr) : ∀ (N : Nat) (mem : zM) (x g k : Int32) (p : Int) (lo : List (Nat × Value)), 1600 - k.toInt < (N : Int) → x.toInt = o → 0 ≤ k.toInt → k.toInt ≤ 1600 → (¬ g.toInt = 0 → 2 * k.toInt ≤ p) → aTm aT0 mem → tH R A T n p0 (pBoth T n ru (cC R A mr) f r p0) (Mch T n ru (cC R A mr) (f :: r) 0 p0 = none) mr g.toInt p mem → zlg lo 0 = some (.ref 30) → zlg lo 1 = some (.int x) → zlg lo 2 = some (.int g) → zlg lo 3 = some (.int k) → yR zpg tX10_takesTest (d + 1) (8, lo, [], mem) (fun a m => ∃ (v : Int32) (q : Int), a = some (.int v) ∧ aTm aT0 m ∧ tH R A T n p0 (pTest T n ru (cC R A mr) f r p0) (Mch T n ru (cC R A mr) (f :: r) 0 p0 = none) mr v.toInt q m) := by
  intro N
  induction N with
  | zero =>
    intro mem x g k p lo hN hx k0 k2
    exfalso
    omega
  | succ N ih =>
    intro mem x g k p lo hN hx k0 k2 k1 hm h a0 a1 a2 a3
    have hR : ¬ g.toInt = 0 → cRd T n p mem := fun w => (tH_1 h w).2.2.1
    have hB : ¬ g.toInt = 0 → tB R A T n ru p mem := fun w => tB_c2 hBr h.1 (hR w) (by have q9 := (tH_1 h w).2; have q8 := hBr.2.2.2.2.1; omega)
    have hr : zfl mem 30 1 = some (.ref R) := by rw [c2_30 hA h.1]; exact hBr.2.1
    have hg : 0 ≤ g.toInt ∧ g.toInt ≤ 1 := by
      rcases h.2 with w | w
      · have w1 := w.1
        omega
      · have w1 := w.1
        omega
    have h16 := hBr.2.2.2.2.2
    obtain ⟨fs, hRo_e⟩ := rl_of hA
    exact w_te8 (R := R) (A := A) (T := T) (n := n) (ru := ru) (p := p) (o := o) (D := D) (f := f) (r := r) (p0 := p0) hm a0 a1 a2 a3 hDd hD hA hRo_e hr hR hB hg k0 hQ hx hO hb
        (fun q1 hm2 => by
          rcases h.2 with w | w
          · exfalso
            have q9 := (cRd_p w.2.2.2.1).2
            have q8 := k1 (by omega)
            omega
          · exact ⟨_, p, rfl, hm2, h.1, Or.inr w⟩)
        (fun q1 q2 hm2 => ⟨_, p, rfl, hm2, h.1, Or.inr ⟨by omega, tH_0 h (by omega)⟩⟩)
        (fun q1 q2 q3 hm2 => by
          have t := tH_1 h (by omega)
          exact ⟨_, p, rfl, hm2, h.1, Or.inl ⟨by omega, ⟨t.1.1, fun w => w.elim t.1.2 (fun w => by have q9 := (cX_O (by decide) (by decide) (hR (by omega))).2 w; omega)⟩, t.2⟩⟩)
        (fun q1 q2 q3 q4 hm2 => by
          have t := tH_1 h (by omega)
          exact ⟨_, p, rfl, hm2, h.1, Or.inl ⟨by omega, ⟨t.1.1, fun w => w.elim t.1.2 (fun w => by have q9 := (cX_O (by decide) (by decide) (hR (by omega))).2 w; omega)⟩, t.2⟩⟩)
        (fun q1 q2 q3 q4 => cX_4 (hR (by omega)) (by omega))
        (fun q1 q2 q3 q4 m5 hI5 k6 => by
          have hs3 := (hB (by omega)).2.2.2.2.1
          have z0 := congrArg Int32.toInt (c2_R3 hA (fo_up k6.1 rfl rfl))
          have y0 := tk_le ((hR (by omega)))
          omega)
        (fun q1 q2 q3 q4 m5 hI5 k6 v9 q10 m7 hm7 k8 q11 x15 e16 lo a0 a1 a2 a3 hm2 => by
          have t := tH_1 h (by omega)
          have hs3 := (hB (by omega)).2.2.2.2.1
          have hp := cRd_p (hR (by omega))
          have ep := cX_e (hR (by omega)) (by omega) (by omega)
          have kz := k1 (by omega)
          have z0 := congrArg Int32.toInt (c2_R3 hA (fo_up k6.1 rfl rfl))
          have y0 := tk_le ((hR (by omega)))
          exact ih _ x 0 x15 p lo (by omega) hx (by omega) (by omega) (fun w => absurd rfl w) hm2 ⟨(c2_tr h.1 (c2_tr (c2_tr c2_rf (c2_fo hA k6.1 rfl)) k8.1)), Or.inr ⟨rfl, lpT_0 hp hb t.1 ((cX_O (by decide) (by decide) (hR (by omega))).1 ⟨by omega, by omega⟩) (cC_fo hA k6.1) (tH_0 k8 (by omega))⟩⟩ a0 a1 a2 a3)
        (fun q1 q2 q3 q4 m5 hI5 k6 v9 q10 m7 hm7 k8 q11 v22 m20 hm20 k21 q23 x27 e28 lo a0 a1 a2 a3 hm2 => by exfalso; omega)
        (fun q1 q2 q3 q4 m5 hI5 k6 v9 q10 m7 hm7 k8 q11 v22 m20 hm20 k21 q23 x35 e36 lo a0 a1 a2 a3 hm2 => by
          have t := tH_1 h (by omega)
          have hs3 := (hB (by omega)).2.2.2.2.1
          have hp := cRd_p (hR (by omega))
          have ep := cX_e (hR (by omega)) (by omega) (by omega)
          have kz := k1 (by omega)
          have z0 := congrArg Int32.toInt (c2_R3 hA (fo_up k6.1 rfl rfl))
          have y0 := tk_le ((hR (by omega)))
          have z1 := (tH_1 k8 (by omega)).2
          have y1 := (cRd_p (tH_1 k8 (by omega)).2.2.1).2
          have z2 := k21.1.2.1
          exact ih _ x 1 x35 _ lo (by omega) hx (by omega) (by omega) (fun w => by omega) hm2 ⟨(c2_tr h.1 (c2_tr (c2_tr (c2_tr c2_rf (c2_fo hA k6.1 rfl)) k8.1) (c2_pF hA k21.1.1))), Or.inl ⟨rfl, lpT_1 hp (cRd_p (tH_1 k8 (by omega)).2.2.1) hb t.1 ((cX_O (by decide) (by decide) (hR (by omega))).1 ⟨by omega, by omega⟩) (cC_fo hA k6.1) (tH_1 k8 (by omega)).1 (vp_2 (k21.1.2.2 (by omega)) (by omega)), by omega, ⟨_, _, cR_pF hA k21.1.1 (cRd_t (tH_1 k8 (by omega)).2.2.1)⟩, by omega, by omega⟩⟩ a0 a1 a2 a3)
set_option maxRecDepth 100000 in
theorem w_te0 {d : Nat} {mem : zM} {P : Option Value → zM → Prop} {R A : Nat} {T : List Int32} {n ru p o : Int} {D : Nat} {f : Fr} {r : List Fr} {x : Int32} {lo : List (Nat × Value)} (hm : aTm aT0 mem) (l_0 : zlg lo 0 = some (.ref 30)) (l_1 : zlg lo 1 = some (.int x)) (hDd : D ≤ d + 1) (hD3 : 4 ≤ D) (hA : hRA R A) (hB : tB R A T n ru p mem) (hQ : tC R A T n ru 101 o D (bT2) (pBoth T n ru)) (hx : x.toInt = o) (hO : opn (f :: r) = o) (hb : bT f p) (h1 : ∀ (v3 : Int32) (q4 : Int) (m1 : zM), aTm aT0 m1 → tH R A T n p (pBoth T n ru (cC R A mem) f r p) (Mch T n ru (cC R A mem) (f :: r) 0 p = none) mem v3.toInt q4 m1 → ∀ lo, zlg lo 0 = some (.ref 30) → zlg lo 1 = some (.int x) → zlg lo 2 = some (.int v3) → zlg lo 3 = some (.int 0) → aTm aT0 m1 → yR zpg tX10_takesTest (d + 1) (8, lo, [], m1) P) : yR zpg tX10_takesTest (d + 1) (0, lo, [], mem) P := by
  refine wR_la rfl l_0 ?_
  refine wR_li rfl l_1 ?_
  refine wR_cv rfl rfl sO_e hm rfl (hQ _ _ _ p f r (by omega) hx hm hB hO ⟨hb.1, hb.2.1, hb.2.2.1, hdk_m hb.2.2.2 (by decide)⟩) ?_
  rintro _ m1 ⟨v3, q4, rfl, hm1, k2⟩
  show yR zpg tX10_takesTest (d + 1) (5, lo, [.int v3], m1) _
  refine wR_si rfl rfl (fun lo5 e6 f7 => ?_)
  have lo5_0 := f7 0 _ (by decide) (Or.inl rfl) l_0
  have lo5_1 := f7 1 _ (by decide) (Or.inl rfl) l_1
  refine yR_m 1 (fun _ _ _ _ => rfl) ?_
  refine wR_si rfl rfl (fun lo8 e9 f10 => ?_)
  have lo8_2 := f10 2 _ (by decide) (Or.inl rfl) e6
  have lo8_0 := f10 0 _ (by decide) (Or.inl rfl) lo5_0
  have lo8_1 := f10 1 _ (by decide) (Or.inl rfl) lo5_1
  exact h1 v3 q4 m1 hm1 k2 lo8 lo8_0 lo8_1 lo8_2 e9 hm1

theorem c_te {o : Int} {D : Nat} (hA : hRA R A) (hD : 4 ≤ D) (hQ : tC R A T n ru 101 o D (bT2) (pBoth T n ru)) : tC R A T n ru 100 o (D + 1) (bT) (pTest T n ru) := by
  intro d mem x p f r hd hx hm hB hO hb
  obtain ⟨d, rfl⟩ : ∃ q, d = q + 2 := ⟨d - 2, by omega⟩
  refine yC_of (t := tX10_takesTest) rfl rfl ?_
  exact w_te0 (R := R) (A := A) (T := T) (n := n) (ru := ru) (p := p) (o := o) (D := D) (f := f) (r := r) hm rfl rfl (by omega) hD hA hB hQ hx hO hb
        (fun v3 q4 m1 hm1 k2 lo a0 a1 a2 a3 hm2 => te_8 hA hD (by omega) hQ hb hO hB 1601 _ x _ 0 _ lo (by decide) hx (by decide) (by decide) (fun w => by have q9 := tH_1 k2 w; have q8 := hB.2.2.2.1; have q7 := (cRd_p q8).1; show 2 * (0 : Int) ≤ _; omega) hm2 k2 a0 a1 a2 a3)
end CF
