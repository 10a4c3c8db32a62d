/-! the class's quay as it is told: the relation, cells, names -/
section CR
variable {d : Nat} {mr mem m : zM} {T : List Int32} {n p q v a b : Int} {Q : Qd} {is : List Nat}
/-- only the reader and the place read have changed -/
def k6 (mr m : zM) : Prop := (∀ k, ¬ k = 27 → ¬ k = 26 → zat m k = zat mr k) ∧ (∀ i, rdF2.contains i = false → zfl m 27 i = zfl mr 27 i) ∧ ∀ i, ¬ i = 3 → zfl m 26 i = zfl mr 26 i
theorem k6_rf : k6 m m := ⟨fun _ _ _ => rfl, fun _ _ => rfl, fun _ _ => rfl⟩
theorem k6_tr {a b c : zM} (h : k6 a b) (k : k6 b c) : k6 a c := ⟨fun q h1 h2 => (k.1 q h1 h2).trans (h.1 q h1 h2), fun i h1 => (k.2.1 i h1).trans (h.2.1 i h1), fun i h1 => (k.2.2 i h1).trans (h.2.2 i h1)⟩
theorem k6_fo (h : fo 27 [] is mr m) (hi : is.all (fun k => rdF2.contains k) = true) : k6 mr m := ⟨fun k h1 _ => h.1 k h1 rfl, fun i h1 => h.2 i (ct_up hi h1), fun i _ => zfl_ea (h.1 26 (by decide) rfl)⟩
theorem k6_gi {k i : Nat} (hk : ¬ k = 27 ∧ ¬ k = 26) (F : k6 mr m) : gi m k i = gi mr k i := by
  unfold gi
  rw [zfl_ea (F.1 k hk.1 hk.2)]
theorem k6_gL {k i : Nat} (hk : ¬ k = 27 ∧ ¬ k = 26) (F : k6 mr m) : gL m k i = gL mr k i := by
  unfold gL
  rw [zfl_ea (F.1 k hk.1 hk.2)]
theorem k6_ga {k : Nat} (hk : ¬ k = 27 ∧ ¬ k = 26) (F : k6 mr m) : ga m k = ga mr k := by
  unfold ga
  rw [F.1 k hk.1 hk.2]
theorem k6_26 {i : Nat} (F : k6 mr m) (hi : ¬ i = 3) : zfl m 26 i = zfl mr 26 i := F.2.2 i hi
theorem k6_s26 {x : Int32} (F : k6 mr m) : k6 mr (si m 26 3 x) := ⟨fun k h1 h2 => (zat_sv_ne (Ne.symm h2)).trans (F.1 k h1 h2), fun i h1 => (zfl_sv_ne (fun q => absurd q.1 (by decide))).trans (F.2.1 i h1), fun i h1 => (zfl_sv_ne (fun q => h1 q.2.symm)).trans (F.2.2 i h1)⟩
theorem k6_s27 {x : Int32} {i : Nat} (hi : rdF2.contains i = true) (F : k6 mr m) : k6 mr (si m 27 i x) := ⟨fun k h1 h2 => (zat_sv_ne (Ne.symm h1)).trans (F.1 k h1 h2), fun j h1 => (zfl_sv_ne (fun q => by rw [q.2] at hi; rw [hi] at h1; cases h1)).trans (F.2.1 j h1), fun j h1 => (zfl_sv_ne (fun q => absurd q.1 (by decide))).trans (F.2.2 j h1)⟩
theorem cRd_z (h27 : zat m 27 = zat mr 27) (h28 : zat m 28 = zat mr 28) (h1 : zat m 1 = zat mr 1) (h : cRd T n p mr) : cRd T n p m := by
  obtain ⟨t, e, ⟨c1, c2, c3, c4, c5⟩, hT, hE, hA⟩ := h
  have g : ∀ i, gi m 27 i = gi mr 27 i := fun i => by
    unfold gi
    rw [zfl_ea h27]
  have a28 : ga m 28 = ga mr 28 := by
    unfold ga
    rw [h28]
  have a1 : ga m 1 = ga mr 1 := by
    unfold ga
    rw [h1]
  exact ⟨t, e, ⟨(zfl_ea h27).trans c1, a28.trans c2, a1.trans c3, by rw [g]; exact c4, c5⟩, hT, by rw [g, g]; exact hE, by rw [g]; exact hA⟩
theorem cRd_sv {k i : Nat} {x : Value} (hk : ¬ k = 27 ∧ ¬ k = 28 ∧ ¬ k = 1) (h : cRd T n p m) : cRd T n p (sv m k i x) := cRd_z (zat_sv_ne hk.1) (zat_sv_ne hk.2.1) (zat_sv_ne hk.2.2) h
theorem cRd_sa {k j : Nat} {x : Int32} (hk : ¬ k = 27 ∧ ¬ k = 28) (h1 : ¬ k = 1) (h : cRd T n p m) : cRd T n p (sa m k j x) := cRd_z (zat_sa_ne hk.1) (zat_sa_ne hk.2) (zat_sa_ne h1) h
/-- numbers, own words, names, told like the others -/
abbrev nuH (T : List Int32) (n a b p : Int) (mr : zM) (v q : Int) (m : zM) : Prop := fo 27 [] rdF2 mr m ∧ ((v = 1 ∧ (sNum T n a b p = some ((gi m 27 8).toInt, q) ∧ a ≤ (gi m 27 8).toInt ∧ (gi m 27 8).toInt ≤ b) ∧ cRd T n q m) ∨ (v = 0 ∧ sNum T n a b p = none))
abbrev owH (T : List Int32) (n w p : Int) (mr : zM) (v q : Int) (m : zM) : Prop := fo 27 [] rdF2 mr m ∧ ((v = 1 ∧ sOwn T n w p = some q ∧ cRd T n q m) ∨ (v = 0 ∧ sOwn T n w p = none))
abbrev naH (T : List Int32) (n p : Int) (mr : zM) (v q : Int) (m : zM) : Prop := fo 27 [] rdF2 mr m ∧ ((v = 1 ∧ (∃ l, sNam T n p = some (l, q) ∧ (gi m 27 8).toInt = cnl l ∧ ∀ c ∈ l, ltr c) ∧ cRd T n q m) ∨ (v = 0 ∧ sNam T n p = none))
theorem or_1 {P Z : Prop} (h : (v = 1 ∧ P) ∨ (v = 0 ∧ Z)) (w : ¬ v = 0) : P := by
  rcases h with h | h
  · exact h.2
  · exact absurd h.1 w
theorem or_0 {P Z : Prop} (h : (v = 1 ∧ P) ∨ (v = 0 ∧ Z)) (w : v = 0) : Z := by
  rcases h with h | h
  · exfalso
    have := h.1
    omega
  · exact h.2
theorem nu_1 (h : nuH T n a b p mr v q m) (w : ¬ v = 0) : (sNum T n a b p = some ((gi m 27 8).toInt, q) ∧ a ≤ (gi m 27 8).toInt ∧ (gi m 27 8).toInt ≤ b) ∧ cRd T n q m := or_1 h.2 w
theorem nu_0 (h : nuH T n a b p mr v q m) (w : v = 0) : sNum T n a b p = none := or_0 h.2 w
theorem ow_1 (h : owH T n a p mr v q m) (w : ¬ v = 0) : sOwn T n a p = some q ∧ cRd T n q m := or_1 h.2 w
theorem ow_0 (h : owH T n a p mr v q m) (w : v = 0) : sOwn T n a p = none := or_0 h.2 w
theorem na_1 (h : naH T n p mr v q m) (w : ¬ v = 0) : (∃ l, sNam T n p = some (l, q) ∧ (gi m 27 8).toInt = cnl l ∧ ∀ c ∈ l, ltr c) ∧ cRd T n q m := or_1 h.2 w
theorem na_0 (h : naH T n p mr v q m) (w : v = 0) : sNam T n p = none := or_0 h.2 w
theorem h_nuC {x y : Int32} (hm : aTm aT0 mem) (hR : cRd T n p mem) (hd : 3 ≤ d) : yC zpg d 67 [.ref 27, .int x, .int y] mem (fun a m => ∃ (v : Int32) (q : Int), a = some (.int v) ∧ aTm aT0 m ∧ nuH T n x.toInt y.toInt p mem v.toInt q m) := by
  refine yC_mono (fun a m h => ?_) (h_takesNumber hm (cRd_t hR) hd)
  obtain ⟨h1, h2, h3⟩ := h
  rcases h3 with ⟨w, q, e, r, k, g⟩ | ⟨e, r⟩
  · have z := oif_s e
    have z2 := Option.some.inj z.2
    have z3 : (tkf T n p).1.2.1 = w := congrArg Prod.fst z2
    exact ⟨1, q, r, h1, h2, Or.inl ⟨rfl, ⟨by rw [g]; exact e, by rw [g, ← z3]; exact z.1.2.1, by rw [g, ← z3]; exact z.1.2.2⟩, k⟩⟩
  · exact ⟨0, p, r, h1, h2, Or.inr ⟨rfl, e⟩⟩
theorem h_owC {x : Int32} (w0 : 0 ≤ x.toInt ∧ x.toInt < 26) (hm : aTm aT0 mem) (hR : cRd T n p mem) (hd : 3 ≤ d) : yC zpg d 64 [.ref 27, .int x] mem (fun a m => ∃ (v : Int32) (q : Int), a = some (.int v) ∧ aTm aT0 m ∧ owH T n x.toInt p mem v.toInt q m) := by
  refine yC_mono (fun a m h => ?_) (h_takesOwn w0 hm (cRd_t hR) hd)
  obtain ⟨h1, h2, h3⟩ := h
  rcases h3 with ⟨q, e, r, k⟩ | ⟨e, r⟩
  · exact ⟨1, q, r, h1, h2, Or.inl ⟨rfl, e, k⟩⟩
  · exact ⟨0, p, r, h1, h2, Or.inr ⟨rfl, e⟩⟩
theorem h_naC (hm : aTm aT0 mem) (hR : cRd T n p mem) (hd : 3 ≤ d) : yC zpg d 66 [.ref 27] mem (fun a m => ∃ (v : Int32) (q : Int), a = some (.int v) ∧ aTm aT0 m ∧ naH T n p mem v.toInt q m) := by
  refine yC_mono (fun a m h => ?_) (h_takesName hm (cRd_t hR) hd)
  obtain ⟨h1, h2, h3⟩ := h
  rcases h3 with ⟨l, q, e, r, k, g⟩ | ⟨e, r⟩
  · have z := oif_s e
    have z2 := Option.some.inj z.2
    have z3 : (tkf T n p).1.2.2 = l := congrArg Prod.fst z2
    exact ⟨1, q, r, h1, h2, Or.inl ⟨rfl, ⟨l, e, g, by rw [← z3]; exact Tok_let (cRd_t hR).2.1 z.1.1⟩, k⟩⟩
  · exact ⟨0, p, r, h1, h2, Or.inr ⟨rfl, e⟩⟩
/-- the class's quay and what is told of it -/
def cQw (q : Nat) (W : List Int) (m : zM) : Prop := ∀ c, 0 ≤ c → c < 64 → (bL (gL m q 6) c ↔ c ∈ W)
def cQt (q nm pl : Nat) (L : List (List Int × Int)) (m : zM) : Prop := (gi m q 7).toInt = (L.length : Int) ∧ ∀ (i : Nat) x, L[i]? = some x → gn (ga m nm) (i : Int) = cnl x.1 ∧ (∀ c ∈ x.1, ltr c) ∧ gn (ga m pl) (i : Int) = x.2 ∧ 0 ≤ x.2 ∧ x.2 < 64
def cQh (q : Nat) (N : Int) (H : List Int) (m : zM) : Prop := (∀ i, 0 ≤ i → i < 9 → (bt (gi m q 12) i ↔ (i < N ∧ ¬ i ∈ H))) ∧ ∀ i ∈ H, i < N
def cQf (q fn st ho : Nat) (L : List (List Int × Int × Int)) (m : zM) : Prop := (gi m q 13).toInt = (L.length : Int) ∧ ∀ (i : Nat) x, L[i]? = some x → gn (ga m fn) (i : Int) = cnl x.1 ∧ (∀ c ∈ x.1, ltr c) ∧ (gn (ga m st) (i : Int) = x.2.1 ∧ 0 ≤ x.2.1 ∧ x.2.1 < 64) ∧ gn (ga m ho) (i : Int) = x.2.2 ∧ 0 ≤ x.2.2 ∧ x.2.2 < 64
def cQu (fi en : Nat) (U : List Int) (m : zM) : Prop := ∀ w, 0 ≤ w → w < 3 → (gn (ga m fi) w < gn (ga m en) w ↔ w ∈ U)
/-- the ground: the bits of all cells, row by row -/
def grdW (w : Int32) : Nat → Int64
  | 0 => 0
  | k + 1 => grdW w k ||| (((1 <<< (w.toInt64 &&& 63)) - 1) <<< ((Int32.ofInt (8 * (k : Int))).toInt64 &&& 63))
/-- hues and highs, pace, gale, ground, the rules' code -/
def cQx (q : Nat) (Q : Qd) (m : zM) : Prop := ((Qg Q).length = (Qt Q).length ∧ ∀ (i : Nat) x, (Qg Q)[i]? = some x → gn (ga m (q + 3)) (i : Int) = x.1 ∧ gn (ga m (q + 4)) (i : Int) = x.2) ∧ ((gi m q 3).toInt = Qp Q ∧ (gi m q 4).toInt = Qa Q ∧ gL m q 5 = grdW (Int32.ofInt (Qc Q)) (Qr Q).toNat) ∧ ∀ w, 0 ≤ w → w < 3 → ∀ c, (Qk Q).lookup w = some c → 0 ≤ gn (ga m (q + 10)) w ∧ gn (ga m (q + 11)) w = gn (ga m (q + 10)) w + (c.length : Int) ∧ gn (ga m (q + 11)) w ≤ (gi m (q + 8) 3).toInt ∧ ∀ i : Nat, i < c.length → gn (ga m (q + 9)) (gn (ga m (q + 10)) w + (i : Int)) = c.getD i 0
theorem cQx_eq {q : Nat} {Q : Qd} {m m' : zM} (e3 : gi m' q 3 = gi m q 3) (e4 : gi m' q 4 = gi m q 4) (e5 : gL m' q 5 = gL m q 5) (a3 : ga m' (q + 3) = ga m (q + 3)) (a4 : ga m' (q + 4) = ga m (q + 4)) (a9 : ga m' (q + 9) = ga m (q + 9)) (a10 : ga m' (q + 10) = ga m (q + 10)) (a11 : ga m' (q + 11) = ga m (q + 11)) (s8 : gi m' (q + 8) 3 = gi m (q + 8) 3) (h : cQx q Q m) : cQx q Q m' := by
  unfold cQx at h ⊢
  rw [e3, e4, e5, a3, a4, a9, a10, a11, s8]
  exact h
def cQ (q nm pl fn st ho fi en : Nat) (Q : Qd) (m : zM) : Prop := ((gi m q 1).toInt = Qc Q ∧ (gi m q 2).toInt = Qr Q) ∧ cQw q (Qw Q) m ∧ cQt q nm pl (Qt Q) m ∧ cQh q ((Qt Q).length : Int) (Qh Q) m ∧ cQf q fn st ho (Qf Q) m ∧ cQu fi en (Qu Q) m ∧ cQx q Q m
theorem iq_iff {q nm pl fn st ho : Nat} {w v : Int} {l : List Int} (ht : cQt q nm pl (Qt Q) m) (hf : cQf q fn st ho (Qf Q) m) (hw : w = cnl l) (hl : ∀ c ∈ l, ltr c) (h : iqC q nm fn m w v) : (v = 1 ∧ nmd Q l) ∨ (v = 0 ∧ ¬ nmd Q l) := by
  rcases h with ⟨h1, h2, h3⟩ | ⟨h1, h2⟩
  · refine Or.inr ⟨h1, ?_⟩
    rintro (⟨x, hx, e⟩ | ⟨x, hx, e⟩)
    · obtain ⟨i, hi, ei⟩ := List.mem_iff_getElem.1 hx
      have k := ht.2 i x (by rw [List.getElem?_eq_getElem hi, ei])
      exact h2 (i : Int) (by omega) (by rw [ht.1]; omega) (by rw [k.1, hw, e])
    · obtain ⟨i, hi, ei⟩ := List.mem_iff_getElem.1 hx
      have k := hf.2 i x (by rw [List.getElem?_eq_getElem hi, ei])
      exact h3 (i : Int) (by omega) (by rw [hf.1]; omega) (by rw [k.1, hw, e])
  · refine Or.inl ⟨h1, ?_⟩
    rcases h2 with ⟨i, i0, i1, e⟩ | ⟨i, i0, i1, e⟩
    · rw [ht.1] at i1
      have hi : i.toNat < (Qt Q).length := by omega
      have k := ht.2 i.toNat _ (List.getElem?_eq_getElem hi)
      rw [show ((i.toNat : Nat) : Int) = i by omega, e, hw] at k
      exact Or.inl ⟨_, List.getElem_mem hi, (cnl_inj _ _ hl k.2.1 k.1).symm⟩
    · rw [hf.1] at i1
      have hi : i.toNat < (Qf Q).length := by omega
      have k := hf.2 i.toNat _ (List.getElem?_eq_getElem hi)
      rw [show ((i.toNat : Nat) : Int) = i by omega, e, hw] at k
      exact Or.inr ⟨_, List.getElem_mem hi, (cnl_inj _ _ hl k.2.1 k.1).symm⟩
theorem cel_n1 {wl : Prop} (h : sNum T n 0 (Qc Q - 1) p = none) : sCel T n wl Q p = none := by
  unfold sCel
  rw [h]
  rfl
theorem cel_n2 {wl : Prop} {x p1 : Int} (h1 : sNum T n 0 (Qc Q - 1) p = some (x, p1)) (h : sNum T n 0 (Qr Q - 1) p1 = none) : sCel T n wl Q p = none := by
  unfold sCel
  rw [h1]
  show (sNum T n 0 (Qr Q - 1) p1).bind _ = none
  rw [h]
  rfl
theorem sFre_0 (h : sNam T n p = none) : sFre T n Q p = none := by
  unfold sFre
  rw [h]
  rfl
theorem sFre_1 {l : List Int} (h : sNam T n p = some (l, q)) (k : ¬ nmd Q l) : sFre T n Q p = some (l, q) := by
  unfold sFre
  rw [h]
  exact oif_t k
theorem sFre_2 {l : List Int} (h : sNam T n p = some (l, q)) (k : nmd Q l) : sFre T n Q p = none := by
  unfold sFre
  rw [h]
  exact oif_f (fun w => w k)
/-- a cell taken, or not; a new name taken, or not -/
abbrev ceH (T : List Int32) (n : Int) (wl : Prop) (Q : Qd) (p : Int) (mr : zM) (v q : Int) (m : zM) : Prop := k6 mr m ∧ ((v = 1 ∧ (sCel T n wl Q p = some ((gi m 26 3).toInt, q) ∧ 0 ≤ (gi m 26 3).toInt ∧ (gi m 26 3).toInt < 64) ∧ cRd T n q m) ∨ (v = 0 ∧ sCel T n wl Q p = none))
abbrev nnH (T : List Int32) (n : Int) (Q : Qd) (p : Int) (mr : zM) (v q : Int) (m : zM) : Prop := k6 mr m ∧ ((v = 1 ∧ (∃ l, sFre T n Q p = some (l, q) ∧ (gi m 27 8).toInt = cnl l ∧ ∀ c ∈ l, ltr c) ∧ cRd T n q m) ∨ (v = 0 ∧ sFre T n Q p = none))
theorem cQ_k6A (F : k6 mem m) (h : cQ 2 3 4 7 8 9 12 13 Q mem) : cQ 2 3 4 7 8 9 12 13 Q m := by
  have X : cQx 2 Q m := cQx_eq (k6_gi (k := 2) (i := 3) (by decide) F) (k6_gi (k := 2) (i := 4) (by decide) F) (k6_gL (k := 2) (i := 5) (by decide) F) (k6_ga (k := 5) (by decide) F) (k6_ga (k := 6) (by decide) F) (k6_ga (k := 11) (by decide) F) (k6_ga (k := 12) (by decide) F) (k6_ga (k := 13) (by decide) F) (k6_gi (k := 10) (i := 3) (by decide) F) h.2.2.2.2.2.2
  unfold cQ cQw cQt cQh cQf cQu at h ⊢
  rw [k6_gi (k := 2) (i := 1) (by decide) F, k6_gi (k := 2) (i := 2) (by decide) F, k6_gi (k := 2) (i := 7) (by decide) F, k6_gi (k := 2) (i := 12) (by decide) F, k6_gi (k := 2) (i := 13) (by decide) F, k6_gL (k := 2) (i := 6) (by decide) F, k6_ga (k := 3) (by decide) F, k6_ga (k := 4) (by decide) F, k6_ga (k := 7) (by decide) F, k6_ga (k := 8) (by decide) F, k6_ga (k := 9) (by decide) F, k6_ga (k := 12) (by decide) F, k6_ga (k := 13) (by decide) F]
  exact ⟨h.1, h.2.1, h.2.2.1, h.2.2.2.1, h.2.2.2.2.1, h.2.2.2.2.2.1, X⟩
set_option maxRecDepth 100000 in
theorem w_ceA {d : Nat} {mem : zM} {P : Option Value → zM → Prop} {T : List Int32} {n p : Int} {Q : Qd} {y : Int64} (hm : aTm aT0 mem) (ht : zfl mem 26 2 = some (.ref 2)) (hR : cRd T n p mem) (hq : (3 ≤ Qc Q ∧ Qc Q ≤ 7) ∧ 3 ≤ Qr Q ∧ Qr Q ≤ 7) (hc : (gi mem 2 1).toInt = Qc Q) (hr : (gi mem 2 2).toInt = Qr Q) (er : ∀ m, k6 mem m → (gi m 2 2).toInt = Qr Q) (s1 : ∀ (x1 : Int32), x1.toInt = ((gi mem 2 1).toInt - 1) → ∀ (v5 : Int32) (q6 : Int) (m3 : zM), aTm aT0 m3 → nuH T n (0 : Int) x1.toInt p mem v5.toInt q6 m3 → ¬ (v5).toInt = 0 → (-2147483648 : Int) ≤ ((gi m3 2 2).toInt - 1) ∧ ((gi m3 2 2).toInt - 1) ≤ 2147483647) (s2 : ∀ (x1 : Int32), x1.toInt = ((gi mem 2 1).toInt - 1) → ∀ (v5 : Int32) (q6 : Int) (m3 : zM), aTm aT0 m3 → nuH T n (0 : Int) x1.toInt p mem v5.toInt q6 m3 → ¬ (v5).toInt = 0 → ∀ (x8 : Int32), x8.toInt = ((gi m3 2 2).toInt - 1) → ∀ (v12 : Int32) (q13 : Int) (m10 : zM), aTm aT0 m10 → nuH T n (0 : Int) x8.toInt q6 m3 v12.toInt q13 m10 → ¬ (v12).toInt = 0 → (-2147483648 : Int) ≤ ((gi m10 27 8).toInt * 8) ∧ ((gi m10 27 8).toInt * 8) ≤ 2147483647) (s3 : ∀ (x1 : Int32), x1.toInt = ((gi mem 2 1).toInt - 1) → ∀ (v5 : Int32) (q6 : Int) (m3 : zM), aTm aT0 m3 → nuH T n (0 : Int) x1.toInt p mem v5.toInt q6 m3 → ¬ (v5).toInt = 0 → ∀ (x8 : Int32), x8.toInt = ((gi m3 2 2).toInt - 1) → ∀ (v12 : Int32) (q13 : Int) (m10 : zM), aTm aT0 m10 → nuH T n (0 : Int) x8.toInt q6 m3 v12.toInt q13 m10 → ¬ (v12).toInt = 0 → ∀ (x15 : Int32), x15.toInt = ((gi m10 27 8).toInt * 8) → (-2147483648 : Int) ≤ (((gi m10 27 8).toInt * 8) + (gi m3 27 8).toInt) ∧ (((gi m10 27 8).toInt * 8) + (gi m3 27 8).toInt) ≤ 2147483647) (h1 : ∀ (x1 : Int32), x1.toInt = ((gi mem 2 1).toInt - 1) → ∀ (v5 : Int32) (q6 : Int) (m3 : zM), aTm aT0 m3 → nuH T n (0 : Int) x1.toInt p mem v5.toInt q6 m3 → ¬ (v5).toInt = 0 → ∀ (x8 : Int32), x8.toInt = ((gi m3 2 2).toInt - 1) → ∀ (v12 : Int32) (q13 : Int) (m10 : zM), aTm aT0 m10 → nuH T n (0 : Int) x8.toInt q6 m3 v12.toInt q13 m10 → ¬ (v12).toInt = 0 → ∀ (x15 : Int32), x15.toInt = ((gi m10 27 8).toInt * 8) → ∀ (x17 : Int32), x17.toInt = (((gi m10 27 8).toInt * 8) + (gi m3 27 8).toInt) → (y &&& (1 <<< ((x17 : Int32).toInt64 &&& 63))) = 0 → aTm aT0 (si m10 26 3 x17) → P (some (.int 1)) (si m10 26 3 x17)) (h2 : ∀ (x1 : Int32), x1.toInt = ((gi mem 2 1).toInt - 1) → ∀ (v5 : Int32) (q6 : Int) (m3 : zM), aTm aT0 m3 → nuH T n (0 : Int) x1.toInt p mem v5.toInt q6 m3 → ¬ (v5).toInt = 0 → ∀ (x8 : Int32), x8.toInt = ((gi m3 2 2).toInt - 1) → ∀ (v12 : Int32) (q13 : Int) (m10 : zM), aTm aT0 m10 → nuH T n (0 : Int) x8.toInt q6 m3 v12.toInt q13 m10 → ¬ (v12).toInt = 0 → ∀ (x15 : Int32), x15.toInt = ((gi m10 27 8).toInt * 8) → ∀ (x17 : Int32), x17.toInt = (((gi m10 27 8).toInt * 8) + (gi m3 27 8).toInt) → ¬ (y &&& (1 <<< ((x17 : Int32).toInt64 &&& 63))) = 0 → aTm aT0 (si (si (si m10 26 3 x17) 27 10 4) 27 11 (gi m10 27 9)) → P (some (.int 0)) (si (si (si m10 26 3 x17) 27 10 4) 27 11 (gi m10 27 9))) (h3 : ∀ (x1 : Int32), x1.toInt = ((gi mem 2 1).toInt - 1) → ∀ (v5 : Int32) (q6 : Int) (m3 : zM), aTm aT0 m3 → nuH T n (0 : Int) x1.toInt p mem v5.toInt q6 m3 → ¬ (v5).toInt = 0 → ∀ (x8 : Int32), x8.toInt = ((gi m3 2 2).toInt - 1) → ∀ (v12 : Int32) (q13 : Int) (m10 : zM), aTm aT0 m10 → nuH T n (0 : Int) x8.toInt q6 m3 v12.toInt q13 m10 → (v12).toInt = 0 → aTm aT0 m10 → P (some (.int 0)) m10) (h4 : ∀ (x1 : Int32), x1.toInt = ((gi mem 2 1).toInt - 1) → ∀ (v5 : Int32) (q6 : Int) (m3 : zM), aTm aT0 m3 → nuH T n (0 : Int) x1.toInt p mem v5.toInt q6 m3 → (v5).toInt = 0 → aTm aT0 m3 → P (some (.int 0)) m3) : yR zpg tX9_takesCell (d + 3) (0, [(0, .ref 26), (1, .long y)], [], mem) P := by
  refine yR_m 1 (fun _ _ _ _ => rfl) ?_
  refine wR_gr rfl tO_e tO_0 hm ?_
  refine yR_m 2 (fun _ _ _ _ => rfl) ?_
  refine wR_gq rfl tO_e hm ht ?_
  refine wR_gi rfl quA_e quA_1 hm rfl ?_
  refine yR_m 1 (fun _ _ _ _ => rfl) ?_
  refine wN_sub (a := (gi mem 2 1).toInt) (b := 1) rfl rfl rfl (by omega) (fun x1 e2 => ?_)
  refine wR_cv rfl rfl rO_e hm rfl (h_nuC (T := T) (n := n) (p := p) hm hR (by omega)) ?_
  rintro _ m3 ⟨v5, q6, rfl, hm3, k4⟩
  show yR zpg tX9_takesCell (d + 3) (17, [(0, .ref 26), (1, .long y)], [.int v5], m3) _
  refine wR_if_ne rfl (a := (v5).toInt) rfl (fun q7 => ?_) (fun q7 => ?_)
  ·
    refine yR_m 1 (fun _ _ _ _ => rfl) ?_
    refine wR_gr rfl tO_e tO_0 hm3 ?_
    refine wR_gi rfl rO_e rO_8 hm3 rfl ?_
    refine yR_m 2 (fun _ _ _ _ => rfl) ?_
    refine wR_gr rfl tO_e tO_0 hm3 ?_
    refine yR_m 2 (fun _ _ _ _ => rfl) ?_
    refine wR_gq rfl tO_e hm3 ((k6_26 (k6_fo k4.1 rfl) (by decide)).trans ht) ?_
    refine wR_gi rfl quA_e quA_2 hm3 rfl ?_
    refine yR_m 1 (fun _ _ _ _ => rfl) ?_
    refine wN_sub (a := (gi m3 2 2).toInt) (b := 1) rfl rfl rfl (s1 x1 e2 v5 q6 m3 hm3 k4 q7) (fun x8 e9 => ?_)
    refine wR_cv rfl rfl rO_e hm3 rfl (h_nuC (T := T) (n := n) (p := q6) hm3 (nu_1 k4 (by omega)).2 (by omega)) ?_
    rintro _ m10 ⟨v12, q13, rfl, hm10, k11⟩
    show yR zpg tX9_takesCell (d + 3) (47, [(3, .int (gi m3 27 8)), (0, .ref 26), (1, .long y)], [.int v12], m10) _
    refine wR_if_ne rfl (a := (v12).toInt) rfl (fun q14 => ?_) (fun q14 => ?_)
    ·
      refine yR_m 3 (fun _ _ _ _ => rfl) ?_
      refine wR_gr rfl tO_e tO_0 hm10 ?_
      refine wR_gi rfl rO_e rO_8 hm10 rfl ?_
      refine wR_is rfl rfl rfl rfl rfl rfl ?_
      show yR zpg tX11_placeOf (d + 2) (0, [(0, .int (gi m3 27 8)), (1, .int (gi m10 27 8))], [], m10) _
      refine yR_m 2 (fun _ _ _ _ => rfl) ?_
      refine wN_mul (a := (gi m10 27 8).toInt) (b := 8) rfl rfl rfl (s2 x1 e2 v5 q6 m3 hm3 k4 q7 x8 e9 v12 q13 m10 hm10 k11 q14) (fun x15 e16 => ?_)
      refine yR_m 1 (fun _ _ _ _ => rfl) ?_
      refine wN_add (a := ((gi m10 27 8).toInt * 8)) (b := (gi m3 27 8).toInt) rfl e16 rfl (s3 x1 e2 v5 q6 m3 hm3 k4 q7 x8 e9 v12 q13 m10 hm10 k11 q14 x15 e16) (fun x17 e18 => ?_)
      refine yR_ri rfl ?_
      show yR zpg tX9_takesCell (d + 3) (64, [(3, .int (gi m3 27 8)), (0, .ref 26), (1, .long y)], [.int x17, .ref 26], m10) _
      refine wR_pi rfl tO_e tO_3 hm10 rfl ?_
      have hm_1 : aTm aT0 (si m10 26 3 x17) := tm_si tO_e tO_3 hm10 (i32_b _)
      refine yR_m 2 (fun _ _ _ _ => rfl) ?_
      refine wR_gi rfl tO_e tO_3 hm_1 (gi_si_eq tO_e tO_3 hm10) ?_
      refine wR_is rfl rfl rfl rfl rfl rfl ?_
      show yR zpg tX11_bitOf (d + 2) (0, [(0, .int x17)], [], (si m10 26 3 x17)) _
      refine yR_m 3 (fun _ _ _ _ => rfl) ?_
      refine yR_rl rfl ?_
      show yR zpg tX9_takesCell (d + 3) (75, [(3, .int (gi m3 27 8)), (0, .ref 26), (1, .long y)], [.long (1 <<< ((x17 : Int32).toInt64 &&& 63)), .long y], (si m10 26 3 x17)) _
      refine yR_m 3 (fun _ _ _ _ => rfl) ?_
      refine wR_lf_eq rfl (fun q19 => ?_) (fun q19 => ?_)
      ·
        refine yR_m 2 (fun _ _ _ _ => rfl) ?_
        exact yR_rz rfl ⟨by decide, by decide⟩ (h1 x1 e2 v5 q6 m3 hm3 k4 q7 x8 e9 v12 q13 m10 hm10 k11 q14 x15 e16 x17 e18 q19 hm_1)
      ·
        refine yR_m 1 (fun _ _ _ _ => rfl) ?_
        refine wR_gr rfl tO_e tO_0 hm_1 ?_
        refine yR_m 2 (fun _ _ _ _ => rfl) ?_
        refine wR_gr rfl tO_e tO_0 hm_1 ?_
        refine wR_gi rfl rO_e rO_9 hm_1 (gi_sv_ne (by decide)) ?_
        refine wR_iv rfl rfl rO_e hm_1 rfl rfl rfl rfl ?_
        show yR zpg tX5_faults (d + 2) (0, [(0, .ref 27), (1, .int 4), (2, .int (gi m10 27 9))], [], (si m10 26 3 x17)) _
        refine yR_m 2 (fun _ _ _ _ => rfl) ?_
        refine wR_pi rfl rO_e rO_10 hm_1 rfl ?_
        have hm_2 : aTm aT0 (si (si m10 26 3 x17) 27 10 4) := tm_si rO_e rO_10 hm_1 (i32_b _)
        refine yR_m 2 (fun _ _ _ _ => rfl) ?_
        refine wR_pi rfl rO_e rO_11 hm_2 rfl ?_
        have hm_3 : aTm aT0 (si (si (si m10 26 3 x17) 27 10 4) 27 11 (gi m10 27 9)) := tm_si rO_e rO_11 hm_2 (i32_b _)
        refine yR_m 1 (fun _ _ _ _ => rfl) ?_
        refine yR_rz rfl ⟨by decide, by decide⟩ ?_
        show yR zpg tX9_takesCell (d + 3) (96, [(3, .int (gi m3 27 8)), (0, .ref 26), (1, .long y)], [.int 0], (si (si (si m10 26 3 x17) 27 10 4) 27 11 (gi m10 27 9))) _
        refine wR_if_eq rfl (a := 0) rfl (fun _ => ?_) (fun q => by exfalso; omega)
        refine yR_m 1 (fun _ _ _ _ => rfl) ?_
        exact yR_rz rfl ⟨by decide, by decide⟩ (h2 x1 e2 v5 q6 m3 hm3 k4 q7 x8 e9 v12 q13 m10 hm10 k11 q14 x15 e16 x17 e18 q19 hm_3)
    ·
      refine yR_m 1 (fun _ _ _ _ => rfl) ?_
      exact yR_rz rfl ⟨by decide, by decide⟩ (h3 x1 e2 v5 q6 m3 hm3 k4 q7 x8 e9 v12 q13 m10 hm10 k11 q14 hm10)
  ·
    refine yR_m 1 (fun _ _ _ _ => rfl) ?_
    exact yR_rz rfl ⟨by decide, by decide⟩ (h4 x1 e2 v5 q6 m3 hm3 k4 q7 hm3)

theorem h_ceCA {wl : Prop} {y : Int64} (hy : ∀ c, 0 ≤ c → c < 64 → (bL y c ↔ (c ∈ Qw Q ∨ (wl ∧ inw Q c)))) (hm : aTm aT0 mem) (ht : zfl mem 26 2 = some (.ref 2)) (hR : cRd T n p mem) (hq : hqQ Q) (hc : (gi mem 2 1).toInt = Qc Q) (hr : (gi mem 2 2).toInt = Qr Q) (hd : 4 ≤ d) : yC zpg d 97 [.ref 26, .long y] mem (fun a m => ∃ (v : Int32) (q : Int), a = some (.int v) ∧ aTm aT0 m ∧ ceH T n wl Q p mem v.toInt q m) := by
  obtain ⟨d, rfl⟩ : ∃ q, d = q + 4 := ⟨d - 4, by omega⟩
  have hq : (3 ≤ Qc Q ∧ Qc Q ≤ 7) ∧ 3 ≤ Qr Q ∧ Qr Q ≤ 7 := hq
  have er : ∀ m, k6 mem m → (gi m 2 2).toInt = Qr Q := fun m F => by
    rw [k6_gi (by decide) F]
    exact hr
  refine yC_of (t := tX9_takesCell) rfl rfl ?_
  exact w_ceA (T := T) (n := n) (p := p) (Q := Q) (y := y) hm ht hR hq hc hr er
        (fun x1 e2 v5 q6 m3 hm3 k4 q7 => by
          have e2 := er _ (k6_fo k4.1 rfl)
          have u1 := nu_1 k4 (by omega)
          omega)
        (fun x1 e2 v5 q6 m3 hm3 k4 q7 x8 e9 v12 q13 m10 hm10 k11 q14 => by
          have e2 := er _ (k6_fo k4.1 rfl)
          have u1 := nu_1 k4 (by omega)
          have u2 := nu_1 k11 (by omega)
          omega)
        (fun x1 e2 v5 q6 m3 hm3 k4 q7 x8 e9 v12 q13 m10 hm10 k11 q14 x15 e16 => by
          have e2 := er _ (k6_fo k4.1 rfl)
          have u1 := nu_1 k4 (by omega)
          have u2 := nu_1 k11 (by omega)
          omega)
        (fun x1 e2 v5 q6 m3 hm3 k4 q7 x8 e9 v12 q13 m10 hm10 k11 q14 x15 e16 x17 e18 q19 hm2 => by
          have e2 := er _ (k6_fo k4.1 rfl)
          have u1 := nu_1 k4 (by omega)
          have u2 := nu_1 k11 (by omega)
          have s1 := u1.1.1
          rw [show x1.toInt = Qc Q - 1 by omega] at s1
          have s2 := u2.1.1
          rw [show x8.toInt = Qr Q - 1 by omega] at s2
          have Y := cel_yes (wl := wl) (Q := Q) s1 s2
          have x0 : 0 ≤ x17.toInt ∧ x17.toInt < 64 := by omega
          rw [show 8 * (gi m10 27 8).toInt + (gi m3 27 8).toInt = x17.toInt by omega] at Y
          have B := bL_and (y := y) x0.1 x0.2
          have hy9 := hy x17.toInt x0.1 x0.2
          have nb := B.1 q19
          have g3 : gi _ 26 3 = x17 := (gi_si_eq tO_e tO_3 hm10)
          exact ⟨_, _, rfl, hm2, (k6_s26 (k6_tr (k6_tr k6_rf (k6_fo k4.1 rfl)) (k6_fo k11.1 rfl))), Or.inl ⟨rfl, ⟨by rw [g3, Y]; exact oif_t ⟨fun w => nb (hy9.2 (Or.inl w)), fun w1 w2 => nb (hy9.2 (Or.inr ⟨w1, w2⟩))⟩, by rw [g3]; exact x0⟩, (cRd_sv (by decide) (nu_1 k11 (by omega)).2)⟩⟩)
        (fun x1 e2 v5 q6 m3 hm3 k4 q7 x8 e9 v12 q13 m10 hm10 k11 q14 x15 e16 x17 e18 q19 hm2 => by
          have e2 := er _ (k6_fo k4.1 rfl)
          have u1 := nu_1 k4 (by omega)
          have u2 := nu_1 k11 (by omega)
          have s1 := u1.1.1
          rw [show x1.toInt = Qc Q - 1 by omega] at s1
          have s2 := u2.1.1
          rw [show x8.toInt = Qr Q - 1 by omega] at s2
          have Y := cel_yes (wl := wl) (Q := Q) s1 s2
          have x0 : 0 ≤ x17.toInt ∧ x17.toInt < 64 := by omega
          rw [show 8 * (gi m10 27 8).toInt + (gi m3 27 8).toInt = x17.toInt by omega] at Y
          have B := bL_and (y := y) x0.1 x0.2
          have hy9 := hy x17.toInt x0.1 x0.2
          have bb : bL y x17.toInt := Classical.byContradiction (fun z => q19 (B.2 z))
          exact ⟨_, p, rfl, hm2, (k6_s27 rfl (k6_s27 rfl (k6_s26 (k6_tr (k6_tr k6_rf (k6_fo k4.1 rfl)) (k6_fo k11.1 rfl))))), Or.inr ⟨rfl, Y.trans (oif_f (fun w => (hy9.1 bb).elim w.1 (fun z => w.2 z.1 z.2)))⟩⟩)
        (fun x1 e2 v5 q6 m3 hm3 k4 q7 x8 e9 v12 q13 m10 hm10 k11 q14 hm2 => by
          have e2 := er _ (k6_fo k4.1 rfl)
          have u1 := (nu_1 k4 (by omega)).1.1
          have z := nu_0 k11 (by omega)
          rw [show x1.toInt = Qc Q - 1 by omega] at u1
          rw [show x8.toInt = Qr Q - 1 by omega] at z
          exact ⟨_, p, rfl, hm2, (k6_tr (k6_tr k6_rf (k6_fo k4.1 rfl)) (k6_fo k11.1 rfl)), Or.inr ⟨rfl, cel_n2 u1 z⟩⟩)
        (fun x1 e2 v5 q6 m3 hm3 k4 q7 hm2 => by
          have z := nu_0 k4 (by omega)
          rw [show x1.toInt = Qc Q - 1 by omega] at z
          exact ⟨_, p, rfl, hm2, (k6_tr k6_rf (k6_fo k4.1 rfl)), Or.inr ⟨rfl, cel_n1 z⟩⟩)
set_option maxRecDepth 100000 in
theorem w_nnA {d : Nat} {mem : zM} {P : Option Value → zM → Prop} {T : List Int32} {n p : Int} {Q : Qd} (hm : aTm aT0 mem) (ht : zfl mem 26 2 = some (.ref 2)) (hR : cRd T n p mem) (h1 : ∀ (v3 : Int32) (q4 : Int) (m1 : zM), aTm aT0 m1 → naH T n p mem v3.toInt q4 m1 → ¬ (v3).toInt = 0 → ∀ (v6 : Int32), iqC 2 3 7 m1 (gi m1 27 8).toInt v6.toInt → (v6).toInt = 0 → aTm aT0 m1 → P (some (.int 1)) m1) (h2 : ∀ (v3 : Int32) (q4 : Int) (m1 : zM), aTm aT0 m1 → naH T n p mem v3.toInt q4 m1 → ¬ (v3).toInt = 0 → ∀ (v6 : Int32), iqC 2 3 7 m1 (gi m1 27 8).toInt v6.toInt → ¬ (v6).toInt = 0 → aTm aT0 (si (si m1 27 10 2) 27 11 (gi m1 27 9)) → P (some (.int 0)) (si (si m1 27 10 2) 27 11 (gi m1 27 9))) (h3 : ∀ (v3 : Int32) (q4 : Int) (m1 : zM), aTm aT0 m1 → naH T n p mem v3.toInt q4 m1 → (v3).toInt = 0 → aTm aT0 m1 → P (some (.int 0)) m1) : yR zpg tX9_takesNewName (d + 3) (0, [(0, .ref 26)], [], mem) P := by
  refine yR_m 1 (fun _ _ _ _ => rfl) ?_
  refine wR_gr rfl tO_e tO_0 hm ?_
  refine wR_cv rfl rfl rO_e hm rfl (h_naC (T := T) (n := n) (p := p) hm hR (by omega)) ?_
  rintro _ m1 ⟨v3, q4, rfl, hm1, k2⟩
  show yR zpg tX9_takesNewName (d + 3) (7, [(0, .ref 26)], [.int v3], m1) _
  refine wR_if_ne rfl (a := (v3).toInt) rfl (fun q5 => ?_) (fun q5 => ?_)
  ·
    refine yR_m 1 (fun _ _ _ _ => rfl) ?_
    refine wR_gq rfl tO_e hm1 ((k6_26 (k6_fo k2.1 rfl) (by decide)).trans ht) ?_
    refine yR_m 1 (fun _ _ _ _ => rfl) ?_
    refine wR_gr rfl tO_e tO_0 hm1 ?_
    refine wR_gi rfl rO_e rO_8 hm1 rfl ?_
    refine wR_cv rfl rfl quA_e hm1 rfl (h_inCA hm1 (by omega)) ?_
    rintro _ _ ⟨v6, rfl, rfl, k7⟩
    show yR zpg tX9_takesNewName (d + 3) (26, [(0, .ref 26)], [.int v6], m1) _
    refine wR_if_eq rfl (a := (v6).toInt) rfl (fun q8 => ?_) (fun q8 => ?_)
    ·
      refine yR_m 2 (fun _ _ _ _ => rfl) ?_
      exact yR_rz rfl ⟨by decide, by decide⟩ (h1 v3 q4 m1 hm1 k2 q5 v6 k7 q8 hm1)
    ·
      refine yR_m 1 (fun _ _ _ _ => rfl) ?_
      refine wR_gr rfl tO_e tO_0 hm1 ?_
      refine yR_m 2 (fun _ _ _ _ => rfl) ?_
      refine wR_gr rfl tO_e tO_0 hm1 ?_
      refine wR_gi rfl rO_e rO_9 hm1 rfl ?_
      refine wR_iv rfl rfl rO_e hm1 rfl rfl rfl rfl ?_
      show yR zpg tX5_faults (d + 2) (0, [(0, .ref 27), (1, .int 2), (2, .int (gi m1 27 9))], [], m1) _
      refine yR_m 2 (fun _ _ _ _ => rfl) ?_
      refine wR_pi rfl rO_e rO_10 hm1 rfl ?_
      have hm_1 : aTm aT0 (si m1 27 10 2) := tm_si rO_e rO_10 hm1 (i32_b _)
      refine yR_m 2 (fun _ _ _ _ => rfl) ?_
      refine wR_pi rfl rO_e rO_11 hm_1 rfl ?_
      have hm_2 : aTm aT0 (si (si m1 27 10 2) 27 11 (gi m1 27 9)) := tm_si rO_e rO_11 hm_1 (i32_b _)
      refine yR_m 1 (fun _ _ _ _ => rfl) ?_
      refine yR_rz rfl ⟨by decide, by decide⟩ ?_
      show yR zpg tX9_takesNewName (d + 3) (44, [(0, .ref 26)], [.int 0], (si (si m1 27 10 2) 27 11 (gi m1 27 9))) _
      refine wR_if_eq rfl (a := 0) rfl (fun _ => ?_) (fun q => by exfalso; omega)
      refine yR_m 1 (fun _ _ _ _ => rfl) ?_
      exact yR_rz rfl ⟨by decide, by decide⟩ (h2 v3 q4 m1 hm1 k2 q5 v6 k7 q8 hm_2)
  ·
    refine yR_m 1 (fun _ _ _ _ => rfl) ?_
    exact yR_rz rfl ⟨by decide, by decide⟩ (h3 v3 q4 m1 hm1 k2 q5 hm1)

theorem h_nnCA (hm : aTm aT0 mem) (ht : zfl mem 26 2 = some (.ref 2)) (hR : cRd T n p mem) (hQ : cQ 2 3 4 7 8 9 12 13 Q mem) (hd : 4 ≤ d) : yC zpg d 96 [.ref 26] mem (fun a m => ∃ (v : Int32) (q : Int), a = some (.int v) ∧ aTm aT0 m ∧ nnH T n Q p mem v.toInt q m) := by
  obtain ⟨d, rfl⟩ : ∃ q, d = q + 4 := ⟨d - 4, by omega⟩
  refine yC_of (t := tX9_takesNewName) rfl rfl ?_
  exact w_nnA (T := T) (n := n) (p := p) (Q := Q) hm ht hR
        (fun v3 q4 m1 hm1 k2 q5 v6 k7 q8 hm2 => by
          obtain ⟨⟨l, n1, n2, n3⟩, hc⟩ := na_1 k2 (by omega)
          have hQ1 := cQ_k6A (k6_fo k2.1 rfl) hQ
          have I := iq_iff (Q := Q) hQ1.2.2.1 hQ1.2.2.2.2.1 n2 n3 k7
          rcases I with ⟨i1, -⟩ | ⟨-, i2⟩
          · exfalso; omega
          · exact ⟨_, _, rfl, hm2, (k6_tr k6_rf (k6_fo k2.1 rfl)), Or.inl ⟨rfl, ⟨l, sFre_1 n1 i2, n2, n3⟩, hc⟩⟩)
        (fun v3 q4 m1 hm1 k2 q5 v6 k7 q8 hm2 => by
          obtain ⟨⟨l, n1, n2, n3⟩, hc⟩ := na_1 k2 (by omega)
          have hQ1 := cQ_k6A (k6_fo k2.1 rfl) hQ
          have I := iq_iff (Q := Q) hQ1.2.2.1 hQ1.2.2.2.2.1 n2 n3 k7
          rcases I with ⟨-, i2⟩ | ⟨i1, -⟩
          · exact ⟨_, p, rfl, hm2, (k6_s27 rfl (k6_s27 rfl (k6_tr k6_rf (k6_fo k2.1 rfl)))), Or.inr ⟨rfl, sFre_2 n1 i2⟩⟩
          · exfalso; omega)
        (fun v3 q4 m1 hm1 k2 q5 hm2 => ⟨_, p, rfl, hm2, (k6_tr k6_rf (k6_fo k2.1 rfl)), Or.inr ⟨rfl, sFre_0 (na_0 k2 (by omega))⟩⟩)
theorem cQ_k6B (F : k6 mem m) (h : cQ 14 15 16 19 20 21 24 25 Q mem) : cQ 14 15 16 19 20 21 24 25 Q m := by
  have X : cQx 14 Q m := cQx_eq (k6_gi (k := 14) (i := 3) (by decide) F) (k6_gi (k := 14) (i := 4) (by decide) F) (k6_gL (k := 14) (i := 5) (by decide) F) (k6_ga (k := 17) (by decide) F) (k6_ga (k := 18) (by decide) F) (k6_ga (k := 23) (by decide) F) (k6_ga (k := 24) (by decide) F) (k6_ga (k := 25) (by decide) F) (k6_gi (k := 22) (i := 3) (by decide) F) h.2.2.2.2.2.2
  unfold cQ cQw cQt cQh cQf cQu at h ⊢
  rw [k6_gi (k := 14) (i := 1) (by decide) F, k6_gi (k := 14) (i := 2) (by decide) F, k6_gi (k := 14) (i := 7) (by decide) F, k6_gi (k := 14) (i := 12) (by decide) F, k6_gi (k := 14) (i := 13) (by decide) F, k6_gL (k := 14) (i := 6) (by decide) F, k6_ga (k := 15) (by decide) F, k6_ga (k := 16) (by decide) F, k6_ga (k := 19) (by decide) F, k6_ga (k := 20) (by decide) F, k6_ga (k := 21) (by decide) F, k6_ga (k := 24) (by decide) F, k6_ga (k := 25) (by decide) F]
  exact ⟨h.1, h.2.1, h.2.2.1, h.2.2.2.1, h.2.2.2.2.1, h.2.2.2.2.2.1, X⟩
set_option maxRecDepth 100000 in
theorem w_ceB {d : Nat} {mem : zM} {P : Option Value → zM → Prop} {T : List Int32} {n p : Int} {Q : Qd} {y : Int64} (hm : aTm aT0 mem) (ht : zfl mem 26 2 = some (.ref 14)) (hR : cRd T n p mem) (hq : (3 ≤ Qc Q ∧ Qc Q ≤ 7) ∧ 3 ≤ Qr Q ∧ Qr Q ≤ 7) (hc : (gi mem 14 1).toInt = Qc Q) (hr : (gi mem 14 2).toInt = Qr Q) (er : ∀ m, k6 mem m → (gi m 14 2).toInt = Qr Q) (s1 : ∀ (x1 : Int32), x1.toInt = ((gi mem 14 1).toInt - 1) → ∀ (v5 : Int32) (q6 : Int) (m3 : zM), aTm aT0 m3 → nuH T n (0 : Int) x1.toInt p mem v5.toInt q6 m3 → ¬ (v5).toInt = 0 → (-2147483648 : Int) ≤ ((gi m3 14 2).toInt - 1) ∧ ((gi m3 14 2).toInt - 1) ≤ 2147483647) (s2 : ∀ (x1 : Int32), x1.toInt = ((gi mem 14 1).toInt - 1) → ∀ (v5 : Int32) (q6 : Int) (m3 : zM), aTm aT0 m3 → nuH T n (0 : Int) x1.toInt p mem v5.toInt q6 m3 → ¬ (v5).toInt = 0 → ∀ (x8 : Int32), x8.toInt = ((gi m3 14 2).toInt - 1) → ∀ (v12 : Int32) (q13 : Int) (m10 : zM), aTm aT0 m10 → nuH T n (0 : Int) x8.toInt q6 m3 v12.toInt q13 m10 → ¬ (v12).toInt = 0 → (-2147483648 : Int) ≤ ((gi m10 27 8).toInt * 8) ∧ ((gi m10 27 8).toInt * 8) ≤ 2147483647) (s3 : ∀ (x1 : Int32), x1.toInt = ((gi mem 14 1).toInt - 1) → ∀ (v5 : Int32) (q6 : Int) (m3 : zM), aTm aT0 m3 → nuH T n (0 : Int) x1.toInt p mem v5.toInt q6 m3 → ¬ (v5).toInt = 0 → ∀ (x8 : Int32), x8.toInt = ((gi m3 14 2).toInt - 1) → ∀ (v12 : Int32) (q13 : Int) (m10 : zM), aTm aT0 m10 → nuH T n (0 : Int) x8.toInt q6 m3 v12.toInt q13 m10 → ¬ (v12).toInt = 0 → ∀ (x15 : Int32), x15.toInt = ((gi m10 27 8).toInt * 8) → (-2147483648 : Int) ≤ (((gi m10 27 8).toInt * 8) + (gi m3 27 8).toInt) ∧ (((gi m10 27 8).toInt * 8) + (gi m3 27 8).toInt) ≤ 2147483647) (h1 : ∀ (x1 : Int32), x1.toInt = ((gi mem 14 1).toInt - 1) → ∀ (v5 : Int32) (q6 : Int) (m3 : zM), aTm aT0 m3 → nuH T n (0 : Int) x1.toInt p mem v5.toInt q6 m3 → ¬ (v5).toInt = 0 → ∀ (x8 : Int32), x8.toInt = ((gi m3 14 2).toInt - 1) → ∀ (v12 : Int32) (q13 : Int) (m10 : zM), aTm aT0 m10 → nuH T n (0 : Int) x8.toInt q6 m3 v12.toInt q13 m10 → ¬ (v12).toInt = 0 → ∀ (x15 : Int32), x15.toInt = ((gi m10 27 8).toInt * 8) → ∀ (x17 : Int32), x17.toInt = (((gi m10 27 8).toInt * 8) + (gi m3 27 8).toInt) → (y &&& (1 <<< ((x17 : Int32).toInt64 &&& 63))) = 0 → aTm aT0 (si m10 26 3 x17) → P (some (.int 1)) (si m10 26 3 x17)) (h2 : ∀ (x1 : Int32), x1.toInt = ((gi mem 14 1).toInt - 1) → ∀ (v5 : Int32) (q6 : Int) (m3 : zM), aTm aT0 m3 → nuH T n (0 : Int) x1.toInt p mem v5.toInt q6 m3 → ¬ (v5).toInt = 0 → ∀ (x8 : Int32), x8.toInt = ((gi m3 14 2).toInt - 1) → ∀ (v12 : Int32) (q13 : Int) (m10 : zM), aTm aT0 m10 → nuH T n (0 : Int) x8.toInt q6 m3 v12.toInt q13 m10 → ¬ (v12).toInt = 0 → ∀ (x15 : Int32), x15.toInt = ((gi m10 27 8).toInt * 8) → ∀ (x17 : Int32), x17.toInt = (((gi m10 27 8).toInt * 8) + (gi m3 27 8).toInt) → ¬ (y &&& (1 <<< ((x17 : Int32).toInt64 &&& 63))) = 0 → aTm aT0 (si (si (si m10 26 3 x17) 27 10 4) 27 11 (gi m10 27 9)) → P (some (.int 0)) (si (si (si m10 26 3 x17) 27 10 4) 27 11 (gi m10 27 9))) (h3 : ∀ (x1 : Int32), x1.toInt = ((gi mem 14 1).toInt - 1) → ∀ (v5 : Int32) (q6 : Int) (m3 : zM), aTm aT0 m3 → nuH T n (0 : Int) x1.toInt p mem v5.toInt q6 m3 → ¬ (v5).toInt = 0 → ∀ (x8 : Int32), x8.toInt = ((gi m3 14 2).toInt - 1) → ∀ (v12 : Int32) (q13 : Int) (m10 : zM), aTm aT0 m10 → nuH T n (0 : Int) x8.toInt q6 m3 v12.toInt q13 m10 → (v12).toInt = 0 → aTm aT0 m10 → P (some (.int 0)) m10) (h4 : ∀ (x1 : Int32), x1.toInt = ((gi mem 14 1).toInt - 1) → ∀ (v5 : Int32) (q6 : Int) (m3 : zM), aTm aT0 m3 → nuH T n (0 : Int) x1.toInt p mem v5.toInt q6 m3 → (v5).toInt = 0 → aTm aT0 m3 → P (some (.int 0)) m3) : yR zpg tX9_takesCell (d + 3) (0, [(0, .ref 26), (1, .long y)], [], mem) P := by
  refine yR_m 1 (fun _ _ _ _ => rfl) ?_
  refine wR_gr rfl tO_e tO_0 hm ?_
  refine yR_m 2 (fun _ _ _ _ => rfl) ?_
  refine wR_gq rfl tO_e hm ht ?_
  refine wR_gi rfl quB_e quB_1 hm rfl ?_
  refine yR_m 1 (fun _ _ _ _ => rfl) ?_
  refine wN_sub (a := (gi mem 14 1).toInt) (b := 1) rfl rfl rfl (by omega) (fun x1 e2 => ?_)
  refine wR_cv rfl rfl rO_e hm rfl (h_nuC (T := T) (n := n) (p := p) hm hR (by omega)) ?_
  rintro _ m3 ⟨v5, q6, rfl, hm3, k4⟩
  show yR zpg tX9_takesCell (d + 3) (17, [(0, .ref 26), (1, .long y)], [.int v5], m3) _
  refine wR_if_ne rfl (a := (v5).toInt) rfl (fun q7 => ?_) (fun q7 => ?_)
  ·
    refine yR_m 1 (fun _ _ _ _ => rfl) ?_
    refine wR_gr rfl tO_e tO_0 hm3 ?_
    refine wR_gi rfl rO_e rO_8 hm3 rfl ?_
    refine yR_m 2 (fun _ _ _ _ => rfl) ?_
    refine wR_gr rfl tO_e tO_0 hm3 ?_
    refine yR_m 2 (fun _ _ _ _ => rfl) ?_
    refine wR_gq rfl tO_e hm3 ((k6_26 (k6_fo k4.1 rfl) (by decide)).trans ht) ?_
    refine wR_gi rfl quB_e quB_2 hm3 rfl ?_
    refine yR_m 1 (fun _ _ _ _ => rfl) ?_
    refine wN_sub (a := (gi m3 14 2).toInt) (b := 1) rfl rfl rfl (s1 x1 e2 v5 q6 m3 hm3 k4 q7) (fun x8 e9 => ?_)
    refine wR_cv rfl rfl rO_e hm3 rfl (h_nuC (T := T) (n := n) (p := q6) hm3 (nu_1 k4 (by omega)).2 (by omega)) ?_
    rintro _ m10 ⟨v12, q13, rfl, hm10, k11⟩
    show yR zpg tX9_takesCell (d + 3) (47, [(3, .int (gi m3 27 8)), (0, .ref 26), (1, .long y)], [.int v12], m10) _
    refine wR_if_ne rfl (a := (v12).toInt) rfl (fun q14 => ?_) (fun q14 => ?_)
    ·
      refine yR_m 3 (fun _ _ _ _ => rfl) ?_
      refine wR_gr rfl tO_e tO_0 hm10 ?_
      refine wR_gi rfl rO_e rO_8 hm10 rfl ?_
      refine wR_is rfl rfl rfl rfl rfl rfl ?_
      show yR zpg tX11_placeOf (d + 2) (0, [(0, .int (gi m3 27 8)), (1, .int (gi m10 27 8))], [], m10) _
      refine yR_m 2 (fun _ _ _ _ => rfl) ?_
      refine wN_mul (a := (gi m10 27 8).toInt) (b := 8) rfl rfl rfl (s2 x1 e2 v5 q6 m3 hm3 k4 q7 x8 e9 v12 q13 m10 hm10 k11 q14) (fun x15 e16 => ?_)
      refine yR_m 1 (fun _ _ _ _ => rfl) ?_
      refine wN_add (a := ((gi m10 27 8).toInt * 8)) (b := (gi m3 27 8).toInt) rfl e16 rfl (s3 x1 e2 v5 q6 m3 hm3 k4 q7 x8 e9 v12 q13 m10 hm10 k11 q14 x15 e16) (fun x17 e18 => ?_)
      refine yR_ri rfl ?_
      show yR zpg tX9_takesCell (d + 3) (64, [(3, .int (gi m3 27 8)), (0, .ref 26), (1, .long y)], [.int x17, .ref 26], m10) _
      refine wR_pi rfl tO_e tO_3 hm10 rfl ?_
      have hm_1 : aTm aT0 (si m10 26 3 x17) := tm_si tO_e tO_3 hm10 (i32_b _)
      refine yR_m 2 (fun _ _ _ _ => rfl) ?_
      refine wR_gi rfl tO_e tO_3 hm_1 (gi_si_eq tO_e tO_3 hm10) ?_
      refine wR_is rfl rfl rfl rfl rfl rfl ?_
      show yR zpg tX11_bitOf (d + 2) (0, [(0, .int x17)], [], (si m10 26 3 x17)) _
      refine yR_m 3 (fun _ _ _ _ => rfl) ?_
      refine yR_rl rfl ?_
      show yR zpg tX9_takesCell (d + 3) (75, [(3, .int (gi m3 27 8)), (0, .ref 26), (1, .long y)], [.long (1 <<< ((x17 : Int32).toInt64 &&& 63)), .long y], (si m10 26 3 x17)) _
      refine yR_m 3 (fun _ _ _ _ => rfl) ?_
      refine wR_lf_eq rfl (fun q19 => ?_) (fun q19 => ?_)
      ·
        refine yR_m 2 (fun _ _ _ _ => rfl) ?_
        exact yR_rz rfl ⟨by decide, by decide⟩ (h1 x1 e2 v5 q6 m3 hm3 k4 q7 x8 e9 v12 q13 m10 hm10 k11 q14 x15 e16 x17 e18 q19 hm_1)
      ·
        refine yR_m 1 (fun _ _ _ _ => rfl) ?_
        refine wR_gr rfl tO_e tO_0 hm_1 ?_
        refine yR_m 2 (fun _ _ _ _ => rfl) ?_
        refine wR_gr rfl tO_e tO_0 hm_1 ?_
        refine wR_gi rfl rO_e rO_9 hm_1 (gi_sv_ne (by decide)) ?_
        refine wR_iv rfl rfl rO_e hm_1 rfl rfl rfl rfl ?_
        show yR zpg tX5_faults (d + 2) (0, [(0, .ref 27), (1, .int 4), (2, .int (gi m10 27 9))], [], (si m10 26 3 x17)) _
        refine yR_m 2 (fun _ _ _ _ => rfl) ?_
        refine wR_pi rfl rO_e rO_10 hm_1 rfl ?_
        have hm_2 : aTm aT0 (si (si m10 26 3 x17) 27 10 4) := tm_si rO_e rO_10 hm_1 (i32_b _)
        refine yR_m 2 (fun _ _ _ _ => rfl) ?_
        refine wR_pi rfl rO_e rO_11 hm_2 rfl ?_
        have hm_3 : aTm aT0 (si (si (si m10 26 3 x17) 27 10 4) 27 11 (gi m10 27 9)) := tm_si rO_e rO_11 hm_2 (i32_b _)
        refine yR_m 1 (fun _ _ _ _ => rfl) ?_
        refine yR_rz rfl ⟨by decide, by decide⟩ ?_
        show yR zpg tX9_takesCell (d + 3) (96, [(3, .int (gi m3 27 8)), (0, .ref 26), (1, .long y)], [.int 0], (si (si (si m10 26 3 x17) 27 10 4) 27 11 (gi m10 27 9))) _
        refine wR_if_eq rfl (a := 0) rfl (fun _ => ?_) (fun q => by exfalso; omega)
        refine yR_m 1 (fun _ _ _ _ => rfl) ?_
        exact yR_rz rfl ⟨by decide, by decide⟩ (h2 x1 e2 v5 q6 m3 hm3 k4 q7 x8 e9 v12 q13 m10 hm10 k11 q14 x15 e16 x17 e18 q19 hm_3)
    ·
      refine yR_m 1 (fun _ _ _ _ => rfl) ?_
      exact yR_rz rfl ⟨by decide, by decide⟩ (h3 x1 e2 v5 q6 m3 hm3 k4 q7 x8 e9 v12 q13 m10 hm10 k11 q14 hm10)
  ·
    refine yR_m 1 (fun _ _ _ _ => rfl) ?_
    exact yR_rz rfl ⟨by decide, by decide⟩ (h4 x1 e2 v5 q6 m3 hm3 k4 q7 hm3)

theorem h_ceCB {wl : Prop} {y : Int64} (hy : ∀ c, 0 ≤ c → c < 64 → (bL y c ↔ (c ∈ Qw Q ∨ (wl ∧ inw Q c)))) (hm : aTm aT0 mem) (ht : zfl mem 26 2 = some (.ref 14)) (hR : cRd T n p mem) (hq : hqQ Q) (hc : (gi mem 14 1).toInt = Qc Q) (hr : (gi mem 14 2).toInt = Qr Q) (hd : 4 ≤ d) : yC zpg d 97 [.ref 26, .long y] mem (fun a m => ∃ (v : Int32) (q : Int), a = some (.int v) ∧ aTm aT0 m ∧ ceH T n wl Q p mem v.toInt q m) := by
  obtain ⟨d, rfl⟩ : ∃ q, d = q + 4 := ⟨d - 4, by omega⟩
  have hq : (3 ≤ Qc Q ∧ Qc Q ≤ 7) ∧ 3 ≤ Qr Q ∧ Qr Q ≤ 7 := hq
  have er : ∀ m, k6 mem m → (gi m 14 2).toInt = Qr Q := fun m F => by
    rw [k6_gi (by decide) F]
    exact hr
  refine yC_of (t := tX9_takesCell) rfl rfl ?_
  exact w_ceB (T := T) (n := n) (p := p) (Q := Q) (y := y) hm ht hR hq hc hr er
        (fun x1 e2 v5 q6 m3 hm3 k4 q7 => by
          have e2 := er _ (k6_fo k4.1 rfl)
          have u1 := nu_1 k4 (by omega)
          omega)
        (fun x1 e2 v5 q6 m3 hm3 k4 q7 x8 e9 v12 q13 m10 hm10 k11 q14 => by
          have e2 := er _ (k6_fo k4.1 rfl)
          have u1 := nu_1 k4 (by omega)
          have u2 := nu_1 k11 (by omega)
          omega)
        (fun x1 e2 v5 q6 m3 hm3 k4 q7 x8 e9 v12 q13 m10 hm10 k11 q14 x15 e16 => by
          have e2 := er _ (k6_fo k4.1 rfl)
          have u1 := nu_1 k4 (by omega)
          have u2 := nu_1 k11 (by omega)
          omega)
        (fun x1 e2 v5 q6 m3 hm3 k4 q7 x8 e9 v12 q13 m10 hm10 k11 q14 x15 e16 x17 e18 q19 hm2 => by
          have e2 := er _ (k6_fo k4.1 rfl)
          have u1 := nu_1 k4 (by omega)
          have u2 := nu_1 k11 (by omega)
          have s1 := u1.1.1
          rw [show x1.toInt = Qc Q - 1 by omega] at s1
          have s2 := u2.1.1
          rw [show x8.toInt = Qr Q - 1 by omega] at s2
          have Y := cel_yes (wl := wl) (Q := Q) s1 s2
          have x0 : 0 ≤ x17.toInt ∧ x17.toInt < 64 := by omega
          rw [show 8 * (gi m10 27 8).toInt + (gi m3 27 8).toInt = x17.toInt by omega] at Y
          have B := bL_and (y := y) x0.1 x0.2
          have hy9 := hy x17.toInt x0.1 x0.2
          have nb := B.1 q19
          have g3 : gi _ 26 3 = x17 := (gi_si_eq tO_e tO_3 hm10)
          exact ⟨_, _, rfl, hm2, (k6_s26 (k6_tr (k6_tr k6_rf (k6_fo k4.1 rfl)) (k6_fo k11.1 rfl))), Or.inl ⟨rfl, ⟨by rw [g3, Y]; exact oif_t ⟨fun w => nb (hy9.2 (Or.inl w)), fun w1 w2 => nb (hy9.2 (Or.inr ⟨w1, w2⟩))⟩, by rw [g3]; exact x0⟩, (cRd_sv (by decide) (nu_1 k11 (by omega)).2)⟩⟩)
        (fun x1 e2 v5 q6 m3 hm3 k4 q7 x8 e9 v12 q13 m10 hm10 k11 q14 x15 e16 x17 e18 q19 hm2 => by
          have e2 := er _ (k6_fo k4.1 rfl)
          have u1 := nu_1 k4 (by omega)
          have u2 := nu_1 k11 (by omega)
          have s1 := u1.1.1
          rw [show x1.toInt = Qc Q - 1 by omega] at s1
          have s2 := u2.1.1
          rw [show x8.toInt = Qr Q - 1 by omega] at s2
          have Y := cel_yes (wl := wl) (Q := Q) s1 s2
          have x0 : 0 ≤ x17.toInt ∧ x17.toInt < 64 := by omega
          rw [show 8 * (gi m10 27 8).toInt + (gi m3 27 8).toInt = x17.toInt by omega] at Y
          have B := bL_and (y := y) x0.1 x0.2
          have hy9 := hy x17.toInt x0.1 x0.2
          have bb : bL y x17.toInt := Classical.byContradiction (fun z => q19 (B.2 z))
          exact ⟨_, p, rfl, hm2, (k6_s27 rfl (k6_s27 rfl (k6_s26 (k6_tr (k6_tr k6_rf (k6_fo k4.1 rfl)) (k6_fo k11.1 rfl))))), Or.inr ⟨rfl, Y.trans (oif_f (fun w => (hy9.1 bb).elim w.1 (fun z => w.2 z.1 z.2)))⟩⟩)
        (fun x1 e2 v5 q6 m3 hm3 k4 q7 x8 e9 v12 q13 m10 hm10 k11 q14 hm2 => by
          have e2 := er _ (k6_fo k4.1 rfl)
          have u1 := (nu_1 k4 (by omega)).1.1
          have z := nu_0 k11 (by omega)
          rw [show x1.toInt = Qc Q - 1 by omega] at u1
          rw [show x8.toInt = Qr Q - 1 by omega] at z
          exact ⟨_, p, rfl, hm2, (k6_tr (k6_tr k6_rf (k6_fo k4.1 rfl)) (k6_fo k11.1 rfl)), Or.inr ⟨rfl, cel_n2 u1 z⟩⟩)
        (fun x1 e2 v5 q6 m3 hm3 k4 q7 hm2 => by
          have z := nu_0 k4 (by omega)
          rw [show x1.toInt = Qc Q - 1 by omega] at z
          exact ⟨_, p, rfl, hm2, (k6_tr k6_rf (k6_fo k4.1 rfl)), Or.inr ⟨rfl, cel_n1 z⟩⟩)
set_option maxRecDepth 100000 in
theorem w_nnB {d : Nat} {mem : zM} {P : Option Value → zM → Prop} {T : List Int32} {n p : Int} {Q : Qd} (hm : aTm aT0 mem) (ht : zfl mem 26 2 = some (.ref 14)) (hR : cRd T n p mem) (h1 : ∀ (v3 : Int32) (q4 : Int) (m1 : zM), aTm aT0 m1 → naH T n p mem v3.toInt q4 m1 → ¬ (v3).toInt = 0 → ∀ (v6 : Int32), iqC 14 15 19 m1 (gi m1 27 8).toInt v6.toInt → (v6).toInt = 0 → aTm aT0 m1 → P (some (.int 1)) m1) (h2 : ∀ (v3 : Int32) (q4 : Int) (m1 : zM), aTm aT0 m1 → naH T n p mem v3.toInt q4 m1 → ¬ (v3).toInt = 0 → ∀ (v6 : Int32), iqC 14 15 19 m1 (gi m1 27 8).toInt v6.toInt → ¬ (v6).toInt = 0 → aTm aT0 (si (si m1 27 10 2) 27 11 (gi m1 27 9)) → P (some (.int 0)) (si (si m1 27 10 2) 27 11 (gi m1 27 9))) (h3 : ∀ (v3 : Int32) (q4 : Int) (m1 : zM), aTm aT0 m1 → naH T n p mem v3.toInt q4 m1 → (v3).toInt = 0 → aTm aT0 m1 → P (some (.int 0)) m1) : yR zpg tX9_takesNewName (d + 3) (0, [(0, .ref 26)], [], mem) P := by
  refine yR_m 1 (fun _ _ _ _ => rfl) ?_
  refine wR_gr rfl tO_e tO_0 hm ?_
  refine wR_cv rfl rfl rO_e hm rfl (h_naC (T := T) (n := n) (p := p) hm hR (by omega)) ?_
  rintro _ m1 ⟨v3, q4, rfl, hm1, k2⟩
  show yR zpg tX9_takesNewName (d + 3) (7, [(0, .ref 26)], [.int v3], m1) _
  refine wR_if_ne rfl (a := (v3).toInt) rfl (fun q5 => ?_) (fun q5 => ?_)
  ·
    refine yR_m 1 (fun _ _ _ _ => rfl) ?_
    refine wR_gq rfl tO_e hm1 ((k6_26 (k6_fo k2.1 rfl) (by decide)).trans ht) ?_
    refine yR_m 1 (fun _ _ _ _ => rfl) ?_
    refine wR_gr rfl tO_e tO_0 hm1 ?_
    refine wR_gi rfl rO_e rO_8 hm1 rfl ?_
    refine wR_cv rfl rfl quB_e hm1 rfl (h_inCB hm1 (by omega)) ?_
    rintro _ _ ⟨v6, rfl, rfl, k7⟩
    show yR zpg tX9_takesNewName (d + 3) (26, [(0, .ref 26)], [.int v6], m1) _
    refine wR_if_eq rfl (a := (v6).toInt) rfl (fun q8 => ?_) (fun q8 => ?_)
    ·
      refine yR_m 2 (fun _ _ _ _ => rfl) ?_
      exact yR_rz rfl ⟨by decide, by decide⟩ (h1 v3 q4 m1 hm1 k2 q5 v6 k7 q8 hm1)
    ·
      refine yR_m 1 (fun _ _ _ _ => rfl) ?_
      refine wR_gr rfl tO_e tO_0 hm1 ?_
      refine yR_m 2 (fun _ _ _ _ => rfl) ?_
      refine wR_gr rfl tO_e tO_0 hm1 ?_
      refine wR_gi rfl rO_e rO_9 hm1 rfl ?_
      refine wR_iv rfl rfl rO_e hm1 rfl rfl rfl rfl ?_
      show yR zpg tX5_faults (d + 2) (0, [(0, .ref 27), (1, .int 2), (2, .int (gi m1 27 9))], [], m1) _
      refine yR_m 2 (fun _ _ _ _ => rfl) ?_
      refine wR_pi rfl rO_e rO_10 hm1 rfl ?_
      have hm_1 : aTm aT0 (si m1 27 10 2) := tm_si rO_e rO_10 hm1 (i32_b _)
      refine yR_m 2 (fun _ _ _ _ => rfl) ?_
      refine wR_pi rfl rO_e rO_11 hm_1 rfl ?_
      have hm_2 : aTm aT0 (si (si m1 27 10 2) 27 11 (gi m1 27 9)) := tm_si rO_e rO_11 hm_1 (i32_b _)
      refine yR_m 1 (fun _ _ _ _ => rfl) ?_
      refine yR_rz rfl ⟨by decide, by decide⟩ ?_
      show yR zpg tX9_takesNewName (d + 3) (44, [(0, .ref 26)], [.int 0], (si (si m1 27 10 2) 27 11 (gi m1 27 9))) _
      refine wR_if_eq rfl (a := 0) rfl (fun _ => ?_) (fun q => by exfalso; omega)
      refine yR_m 1 (fun _ _ _ _ => rfl) ?_
      exact yR_rz rfl ⟨by decide, by decide⟩ (h2 v3 q4 m1 hm1 k2 q5 v6 k7 q8 hm_2)
  ·
    refine yR_m 1 (fun _ _ _ _ => rfl) ?_
    exact yR_rz rfl ⟨by decide, by decide⟩ (h3 v3 q4 m1 hm1 k2 q5 hm1)

theorem h_nnCB (hm : aTm aT0 mem) (ht : zfl mem 26 2 = some (.ref 14)) (hR : cRd T n p mem) (hQ : cQ 14 15 16 19 20 21 24 25 Q mem) (hd : 4 ≤ d) : yC zpg d 96 [.ref 26] mem (fun a m => ∃ (v : Int32) (q : Int), a = some (.int v) ∧ aTm aT0 m ∧ nnH T n Q p mem v.toInt q m) := by
  obtain ⟨d, rfl⟩ : ∃ q, d = q + 4 := ⟨d - 4, by omega⟩
  refine yC_of (t := tX9_takesNewName) rfl rfl ?_
  exact w_nnB (T := T) (n := n) (p := p) (Q := Q) hm ht hR
        (fun v3 q4 m1 hm1 k2 q5 v6 k7 q8 hm2 => by
          obtain ⟨⟨l, n1, n2, n3⟩, hc⟩ := na_1 k2 (by omega)
          have hQ1 := cQ_k6B (k6_fo k2.1 rfl) hQ
          have I := iq_iff (Q := Q) hQ1.2.2.1 hQ1.2.2.2.2.1 n2 n3 k7
          rcases I with ⟨i1, -⟩ | ⟨-, i2⟩
          · exfalso; omega
          · exact ⟨_, _, rfl, hm2, (k6_tr k6_rf (k6_fo k2.1 rfl)), Or.inl ⟨rfl, ⟨l, sFre_1 n1 i2, n2, n3⟩, hc⟩⟩)
        (fun v3 q4 m1 hm1 k2 q5 v6 k7 q8 hm2 => by
          obtain ⟨⟨l, n1, n2, n3⟩, hc⟩ := na_1 k2 (by omega)
          have hQ1 := cQ_k6B (k6_fo k2.1 rfl) hQ
          have I := iq_iff (Q := Q) hQ1.2.2.1 hQ1.2.2.2.2.1 n2 n3 k7
          rcases I with ⟨-, i2⟩ | ⟨i1, -⟩
          · exact ⟨_, p, rfl, hm2, (k6_s27 rfl (k6_s27 rfl (k6_tr k6_rf (k6_fo k2.1 rfl)))), Or.inr ⟨rfl, sFre_2 n1 i2⟩⟩
          · exfalso; omega)
        (fun v3 q4 m1 hm1 k2 q5 hm2 => ⟨_, p, rfl, hm2, (k6_tr k6_rf (k6_fo k2.1 rfl)), Or.inr ⟨rfl, sFre_0 (na_0 k2 (by omega))⟩⟩)
end CR
