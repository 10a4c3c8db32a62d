/-! cells that reading into the quay a leaves alone -/
abbrev zoC (a k : Nat) : Prop := (a ≤ k ∧ k ≤ a + 11) ∨ k = 26 ∨ k = 27 ∨ k = 30
def zo (a : Nat) (m : zM) : Nat → Option zE := fun k => if zoC a k then none else zat m k
theorem zo_all {a : Nat} {m mr : zM} (h : ∀ k, ¬ zoC a k → zat m k = zat mr k) : zo a m = zo a mr := by
  funext k
  unfold zo
  by_cases c : zoC a k
  · rw [if_pos c, if_pos c]
  · rw [if_neg c, if_neg c, h k c]
theorem zo_at {a k : Nat} {m mr : zM} (h : zo a m = zo a mr) (c : ¬ zoC a k) : zat m k = zat mr k := by
  have e := congrFun h k
  unfold zo at e
  rw [if_neg c, if_neg c] at e
  exact e
theorem zo_sv {a k i : Nat} {m : zM} {v : Value} (h : zoC a k) : zo a (sv m k i v) = zo a m := zo_all (fun q c => zat_sv_ne (fun e => c (e ▸ h)))
theorem zo_sa {a k j : Nat} {m : zM} {x : Int32} (h : zoC a k) : zo a (sa m k j x) = zo a m := zo_all (fun q c => zat_sa_ne (fun e => c (e ▸ h)))
theorem zo_k6 {a : Nat} {m mr : zM} (h : k6 mr m) : zo a m = zo a mr := zo_all (fun q c => h.1 q (fun e => c (Or.inr (Or.inr (Or.inl e)))) (fun e => c (Or.inr (Or.inl e))))
theorem zo_c2 {a R A : Nat} {m mr : zM} (hR : zoC a R) (hA : zoC a A) (h : c2 R A mr m) : zo a m = zo a mr := zo_all (fun q c => h.1 q (fun e => c (Or.inr (Or.inr (Or.inl e)))) (fun e => c (e.symm ▸ hR)) (fun e => c (e.symm ▸ hA)))
theorem zo_cz {a w x y z : Nat} {m mr : zM} (hw : zoC a w) (hx : zoC a x) (hy : zoC a y) (hz : zoC a z) (h : ∀ k, ¬ k = w → ¬ k = x → ¬ k = y → ¬ k = z → zat m k = zat mr k) : zo a m = zo a mr := zo_all (fun q c => h q (fun e => c (e.symm ▸ hw)) (fun e => c (e.symm ▸ hx)) (fun e => c (e.symm ▸ hy)) (fun e => c (e.symm ▸ hz)))
theorem zo_bz {a : Nat} {m mr : zM} (h : ∀ k, ¬ k = 27 → zat m k = zat mr k) : zo a m = zo a mr := zo_all (fun q c => h q (fun e => c (Or.inr (Or.inr (Or.inl e)))))
theorem zo_fo {a o : Nat} {is : List Nat} {m mr : zM} (ho : zoC a o) (h : fo o [] is mr m) : zo a m = zo a mr := zo_all (fun q c => h.1 q (fun e => c (e.symm ▸ ho)) rfl)
/-! the class's statements: pace, gale, wall -/
section CS
variable {d : Nat} {mr mem m : zM} {T : List Int32} {n p q v a b : Int} {Q : Qd}
theorem ob_1 {α β : Type} {x : Option α} {f : α → Option β} {y : α} (h : x = some y) : x.bind f = f y := by
  rw [h]
  rfl
theorem ob_0 {α β : Type} {x : Option α} {f : α → Option β} (h : x = none) : x.bind f = none := by
  rw [h]
  rfl
theorem om_1 {α β : Type} {x : Option α} {f : α → β} {y : α} (h : x = some y) : x.map f = some (f y) := by
  rw [h]
  rfl
theorem om_0 {α β : Type} {x : Option α} {f : α → β} (h : x = none) : x.map f = none := by
  rw [h]
  rfl
theorem p_nuH (hR : cRd T n p mr) (h : nuH T n a b p mr v q m) (w : ¬ v = 0) : p < q := by
  have z := oif_s (nu_1 h w).1.1
  have e : (tkf T n p).2 = q := congrArg Prod.snd (Option.some.inj z.2)
  have k := tk_ok (T := T) (cRd_p hR).1 (cRd_p hR).2
  have k2 := k.2.2.2 (by rw [z.1.1]; decide)
  omega
theorem p_owH (hR : cRd T n p mr) (h : owH T n a p mr v q m) (w : ¬ v = 0) : p < q := by
  have z := oif_s (ow_1 h w).1
  have e : (tkf T n p).2 = q := Option.some.inj z.2
  have k := tk_ok (T := T) (cRd_p hR).1 (cRd_p hR).2
  have k2 := k.2.2.2 (by rw [z.1.1]; decide)
  omega
theorem p_naH (hR : cRd T n p mr) (h : naH T n p mr v q m) (w : ¬ v = 0) : p < q := by
  obtain ⟨l, hl, -⟩ := (na_1 h w).1
  have z := oif_s hl
  have e : (tkf T n p).2 = q := congrArg Prod.snd (Option.some.inj z.2)
  have k := tk_ok (T := T) (cRd_p hR).1 (cRd_p hR).2
  have k2 := k.2.2.2 (by rw [z.1.1]; decide)
  omega
theorem sNum_p {x : Int} (h0 : 0 ≤ p ∧ p ≤ n) (h : sNum T n a b p = some (x, q)) : p < q ∧ q ≤ n := by
  have z := oif_s h
  have e : (tkf T n p).2 = q := congrArg Prod.snd (Option.some.inj z.2)
  have k := tk_ok (T := T) h0.1 h0.2
  have k2 := k.2.2.2 (by rw [z.1.1]; decide)
  have k3 := k.2.2.1
  omega
theorem p_ceH {wl : Prop} (hR : cRd T n p mr) (h : ceH T n wl Q p mr v q m) (w : ¬ v = 0) : p < q := by
  have z := (or_1 h.2 w).1.1
  obtain ⟨x, hx, z⟩ := ob_s z
  obtain ⟨y, hy, z⟩ := ob_s z
  have e := (oif_s z).2
  have e2 : y.2 = q := congrArg Prod.snd (Option.some.inj e)
  have k := sNum_p (cRd_p hR) (x := x.1) (q := x.2) hx
  have c := cRd_p hR
  have k2 := sNum_p (p := x.2) ⟨by omega, k.2⟩ (x := y.1) (q := y.2) hy
  omega
theorem p_nnH (hR : cRd T n p mr) (h : nnH T n Q p mr v q m) (w : ¬ v = 0) : p < q := by
  obtain ⟨l, hl, -⟩ := (or_1 h.2 w).1
  obtain ⟨x, hx, z⟩ := ob_s hl
  have e := (oif_s z).2
  have z := oif_s hx
  have e1 : (tkf T n p).2 = x.2 := congrArg Prod.snd (Option.some.inj z.2)
  have e2 : x.2 = q := congrArg Prod.snd (Option.some.inj e)
  have k := tk_ok (T := T) (cRd_p hR).1 (cRd_p hR).2
  have k2 := k.2.2.2 (by rw [z.1.1]; decide)
  omega
section PP
variable {q nm pl fn st ho fi en : Nat}
theorem cQ_P1 {L : List (List Int × Int)} (h : cQt q nm pl L m) : ∀ i, 0 ≤ i → i < (gi m q 7).toInt → 0 ≤ gn (ga m pl) i ∧ gn (ga m pl) i < 64 := fun i i0 i1 => by
  rw [h.1] at i1
  have hi : i.toNat < L.length := by omega
  have k := h.2 i.toNat _ (List.getElem?_eq_getElem hi)
  rw [show ((i.toNat : Nat) : Int) = i by omega] at k
  rw [k.2.2.1]
  exact k.2.2.2
theorem cQ_P2 {L : List (List Int × Int × Int)} (h : cQf q fn st ho L m) : ∀ i, 0 ≤ i → i < (gi m q 13).toInt → (0 ≤ gn (ga m st) i ∧ gn (ga m st) i < 64) ∧ 0 ≤ gn (ga m ho) i ∧ gn (ga m ho) i < 64 := fun i i0 i1 => by
  rw [h.1] at i1
  have hi : i.toNat < L.length := by omega
  have k := h.2 i.toNat _ (List.getElem?_eq_getElem hi)
  rw [show ((i.toNat : Nat) : Int) = i by omega] at k
  rw [k.2.2.1.1, k.2.2.2.1]
  exact ⟨k.2.2.1.2, k.2.2.2.2⟩
/-- what is barred for a wall -/
theorem cQ_hy {y : Int64} (h : cQ q nm pl fn st ho fi en Q m) (k : tkD q pl st ho (gi m q 7).toInt (gi m q 13).toInt m y) : ∀ c, 0 ≤ c → c < 64 → (bL y c ↔ (c ∈ Qw Q ∨ (True ∧ inw Q c))) := fun c c0 c1 => by
  obtain ⟨-, hw, ht, -, hf, -, -⟩ := h
  rw [k c c0 c1, hw c c0 c1]
  constructor
  · rintro (w | ⟨i, i0, i1, e⟩ | ⟨i, i0, i1, e⟩)
    · exact Or.inl w
    · rw [ht.1] at i1
      have hi : i.toNat < (Qt Q).length := by omega
      have k := ht.2 i.toNat _ (List.getElem?_eq_getElem hi)
      rw [show ((i.toNat : Nat) : Int) = i by omega] at k
      exact Or.inr ⟨trivial, Or.inl ⟨_, List.getElem_mem hi, by rw [← k.2.2.1]; exact e⟩⟩
    · rw [hf.1] at i1
      have hi : i.toNat < (Qf Q).length := by omega
      have k := hf.2 i.toNat _ (List.getElem?_eq_getElem hi)
      rw [show ((i.toNat : Nat) : Int) = i by omega] at k
      refine Or.inr ⟨trivial, Or.inr ⟨_, List.getElem_mem hi, ?_⟩⟩
      rcases e with e | e
      · exact Or.inl (by rw [← k.2.2.1.1]; exact e)
      · exact Or.inr (by rw [← k.2.2.2.1]; exact e)
  · rintro (w | ⟨-, ⟨x, hx, e⟩ | ⟨x, hx, e⟩⟩)
    · exact Or.inl w
    · obtain ⟨i, hi, ei⟩ := List.mem_iff_getElem.1 hx
      have k := ht.2 i x (by rw [List.getElem?_eq_getElem hi, ei])
      exact Or.inr (Or.inl ⟨(i : Int), by omega, by rw [ht.1]; omega, by rw [k.2.2.1, e]⟩)
    · obtain ⟨i, hi, ei⟩ := List.mem_iff_getElem.1 hx
      have k := hf.2 i x (by rw [List.getElem?_eq_getElem hi, ei])
      refine Or.inr (Or.inr ⟨(i : Int), by omega, by rw [hf.1]; omega, ?_⟩)
      rcases e with e | e
      · exact Or.inl (by rw [k.2.2.1.1, e])
      · exact Or.inr (by rw [k.2.2.2.1, e])
end PP
abbrev stCA (T : List Int32) (n : Int) (mr : zM) (S : Option (Qd × Int)) (v q : Int) (m : zM) : Prop := (zfl m 26 2 = some (.ref 2) ∧ gi m 2 0 = gi mr 2 0 ∧ zo 2 m = zo 2 mr) ∧ ((v = 1 ∧ (∃ Q', S = some (Q', q) ∧ cQ 2 3 4 7 8 9 12 13 Q' m) ∧ cRd T n q m ∧ (gi m 10 3).toInt ≤ q) ∨ (v = 0 ∧ S = none) ∨ (v = 1 ∧ S = none ∧ (tkf T n q).1.1 = 4 ∧ cRd T n q m))
theorem cQ_svA {i : Nat} {x : Value} (hi : i = 0) (h : cQ 2 3 4 7 8 9 12 13 Q m) : cQ 2 3 4 7 8 9 12 13 Q (sv m 2 i x) := by
  subst hi
  have X : cQx 2 Q (sv m 2 0 x) := cQx_eq (gi_sv_ne (by decide)) (gi_sv_ne (by decide)) (gL_sv_ne (by decide)) ga_sv ga_sv ga_sv ga_sv ga_sv (gi_sv_ne (by decide)) h.2.2.2.2.2.2
  unfold cQ cQw cQt cQh cQf cQu at h ⊢
  rw [gi_sv_ne (by decide), gi_sv_ne (by decide), gi_sv_ne (by decide), gi_sv_ne (by decide), gi_sv_ne (by decide), gL_sv_ne (by decide), ga_sv, ga_sv, ga_sv, ga_sv, ga_sv, ga_sv, ga_sv]
  exact ⟨h.1, h.2.1, h.2.2.1, h.2.2.2.1, h.2.2.2.2.1, h.2.2.2.2.2.1, X⟩
theorem cQ_pacA {x : Int32} (hm : aTm aT0 m) (h : cQ 2 3 4 7 8 9 12 13 Q m) : cQ 2 3 4 7 8 9 12 13 (setT 2 x.toInt Q) (si m 2 3 x) := by
  have hx := h.2.2.2.2.2.2
  have X : cQx 2 (setT 2 x.toInt Q) (si m 2 3 x) := by
    refine ⟨⟨hx.1.1, fun i y hy => by rw [ga_sv, ga_sv]; exact hx.1.2 i y hy⟩, ⟨by rw [gi_eqQ (isQ_of quA_e hm) quA_3]; rfl, by rw [gi_sv_ne (by decide)]; exact hx.2.1.2.1, by rw [gL_sv_ne (by decide)]; exact hx.2.1.2.2⟩, fun w w0 w1 c hc => by rw [ga_sv, ga_sv, ga_sv, gi_sv_ne (by decide)]; exact hx.2.2 w w0 w1 c hc⟩
  unfold cQ cQw cQt cQh cQf cQu at h ⊢
  rw [gi_sv_ne (by decide), gi_sv_ne (by decide), gi_sv_ne (by decide), gi_sv_ne (by decide), gi_sv_ne (by decide), gL_sv_ne (by decide), ga_sv, ga_sv, ga_sv, ga_sv, ga_sv, ga_sv, ga_sv]
  exact ⟨h.1, h.2.1, h.2.2.1, h.2.2.2.1, h.2.2.2.2.1, h.2.2.2.2.2.1, X⟩
theorem cQ_galA {x : Int32} (hm : aTm aT0 m) (h : cQ 2 3 4 7 8 9 12 13 Q m) : cQ 2 3 4 7 8 9 12 13 (setT 3 x.toInt Q) (si m 2 4 x) := by
  have hx := h.2.2.2.2.2.2
  have X : cQx 2 (setT 3 x.toInt Q) (si m 2 4 x) := by
    refine ⟨⟨hx.1.1, fun i y hy => by rw [ga_sv, ga_sv]; exact hx.1.2 i y hy⟩, ⟨by rw [gi_sv_ne (by decide)]; exact hx.2.1.1, by rw [gi_eqQ (isQ_of quA_e hm) quA_4]; rfl, by rw [gL_sv_ne (by decide)]; exact hx.2.1.2.2⟩, fun w w0 w1 c hc => by rw [ga_sv, ga_sv, ga_sv, gi_sv_ne (by decide)]; exact hx.2.2 w w0 w1 c hc⟩
  unfold cQ cQw cQt cQh cQf cQu at h ⊢
  rw [gi_sv_ne (by decide), gi_sv_ne (by decide), gi_sv_ne (by decide), gi_sv_ne (by decide), gi_sv_ne (by decide), gL_sv_ne (by decide), ga_sv, ga_sv, ga_sv, ga_sv, ga_sv, ga_sv, ga_sv]
  exact ⟨h.1, h.2.1, h.2.2.1, h.2.2.2.1, h.2.2.2.2.1, h.2.2.2.2.2.1, X⟩
theorem cQ_walA {x : Int32} (hm : aTm aT0 m) (h : cQ 2 3 4 7 8 9 12 13 Q m) (x0 : 0 ≤ x.toInt) (x1 : x.toInt < 64) : cQ 2 3 4 7 8 9 12 13 (Qc Q, Qr Q, x.toInt :: Qw Q, Qt Q, Qh Q, Qf Q, Qu Q, Qx Q) (sL m 2 6 ((gL m 2 6) ||| ((1 : Int64) <<< (x.toInt64 &&& 63)))) := by
  have g : gL (sL m 2 6 ((gL m 2 6) ||| ((1 : Int64) <<< (x.toInt64 &&& 63)))) 2 6 = (gL m 2 6) ||| ((1 : Int64) <<< (x.toInt64 &&& 63)) := gL_sL_eq quA_e quA_6 hm
  have X := cQx_eq (q := 2) (Q := Q) (m' := sL m 2 6 ((gL m 2 6) ||| ((1 : Int64) <<< (x.toInt64 &&& 63)))) (gi_sv_ne (by decide)) (gi_sv_ne (by decide)) (gL_sv_ne (by decide)) ga_sv ga_sv ga_sv ga_sv ga_sv (gi_sv_ne (by decide)) h.2.2.2.2.2.2
  unfold cQ cQw cQt cQh cQf cQu at h ⊢
  rw [g, gi_sv_ne (by decide), gi_sv_ne (by decide), gi_sv_ne (by decide), gi_sv_ne (by decide), gi_sv_ne (by decide), ga_sv, ga_sv, ga_sv, ga_sv, ga_sv, ga_sv, ga_sv]
  refine ⟨h.1, fun c c0 c1 => ?_, h.2.2.1, h.2.2.2.1, h.2.2.2.2.1, h.2.2.2.2.2.1, X⟩
  rw [bL_o, bL_1 x0 x1 c0 c1, h.2.1 c c0 c1]
  show _ ↔ c ∈ x.toInt :: Qw Q
  rw [List.mem_cons]
  exact ⟨fun w => w.symm, fun w => w.symm⟩
set_option maxRecDepth 100000 in
theorem w_paA {d : Nat} {mem : zM} {P : Option Value → zM → Prop} {T : List Int32} {n p : Int} {Q : Qd} (hm : aTm aT0 mem) (ht : zfl mem 26 2 = some (.ref 2)) (hR : cRd T n p mem) (hk4 : ¬ (tkf T n p).1.1 = 4) (hq : hqQ Q) (hQ : cQ 2 3 4 7 8 9 12 13 Q mem) (h1 : ∀ (m1 : zM), aTm aT0 m1 → (fo 27 [] avF mem m1 ∧ cRd T n (tkf T n p).2 m1) → ∀ (v5 : Int32) (q6 : Int) (m3 : zM), aTm aT0 m3 → nuH T n (1 : Int) 9 (tkf T n p).2 m1 v5.toInt q6 m3 → ¬ (v5).toInt = 0 → aTm aT0 (si m3 2 3 (gi m3 27 8)) → P (some (.int 1)) (si m3 2 3 (gi m3 27 8))) (h2 : ∀ (m1 : zM), aTm aT0 m1 → (fo 27 [] avF mem m1 ∧ cRd T n (tkf T n p).2 m1) → ∀ (v5 : Int32) (q6 : Int) (m3 : zM), aTm aT0 m3 → nuH T n (1 : Int) 9 (tkf T n p).2 m1 v5.toInt q6 m3 → (v5).toInt = 0 → aTm aT0 m3 → P (some (.int 0)) m3) : yR zpg tX9_takesPace (d + 4) (0, [(0, .ref 26)], [], mem) P := by
  refine yR_m 1 (fun _ _ _ _ => rfl) ?_
  refine wR_gr rfl tO_e tO_0 hm ?_
  refine wR_cv rfl rfl rO_e hm rfl (h_avC (T := T) (n := n) (p := p) hm (cRd_t hR) hk4 (by omega)) ?_
  rintro _ m1 ⟨rfl, hI1, k2⟩
  show yR zpg tX9_takesPace (d + 4) (7, [(0, .ref 26)], [], m1) _
  refine yR_m 1 (fun _ _ _ _ => rfl) ?_
  refine wR_gr rfl tO_e tO_0 hI1 ?_
  refine yR_m 2 (fun _ _ _ _ => rfl) ?_
  refine wR_cv rfl rfl rO_e hI1 rfl (h_nuC (T := T) (n := n) (p := (tkf T n p).2) hI1 k2.2 (by omega)) ?_
  rintro _ m3 ⟨v5, q6, rfl, hm3, k4⟩
  show yR zpg tX9_takesPace (d + 4) (17, [(0, .ref 26)], [.int v5], m3) _
  refine wR_if_ne rfl (a := (v5).toInt) rfl (fun q7 => ?_) (fun q7 => ?_)
  ·
    refine yR_m 1 (fun _ _ _ _ => rfl) ?_
    refine wR_gq rfl tO_e hm3 ((k6_26 (k6_fo k4.1 rfl) (by decide)).trans ((k6_26 (k6_fo k2.1 rfl) (by decide)).trans ht)) ?_
    refine yR_m 1 (fun _ _ _ _ => rfl) ?_
    refine wR_gr rfl tO_e tO_0 hm3 ?_
    refine wR_gi rfl rO_e rO_8 hm3 rfl ?_
    refine wR_pi rfl quA_e quA_3 hm3 rfl ?_
    have hm_1 : aTm aT0 (si m3 2 3 (gi m3 27 8)) := tm_si quA_e quA_3 hm3 (i32_b _)
    refine yR_m 1 (fun _ _ _ _ => rfl) ?_
    exact yR_rz rfl ⟨by decide, by decide⟩ (h1 m1 hI1 k2 v5 q6 m3 hm3 k4 q7 hm_1)
  ·
    refine yR_m 1 (fun _ _ _ _ => rfl) ?_
    exact yR_rz rfl ⟨by decide, by decide⟩ (h2 m1 hI1 k2 v5 q6 m3 hm3 k4 q7 hm3)

set_option maxRecDepth 100000 in
theorem w_gaA {d : Nat} {mem : zM} {P : Option Value → zM → Prop} {T : List Int32} {n p : Int} {Q : Qd} (hm : aTm aT0 mem) (ht : zfl mem 26 2 = some (.ref 2)) (hR : cRd T n p mem) (hk4 : ¬ (tkf T n p).1.1 = 4) (hq : hqQ Q) (hQ : cQ 2 3 4 7 8 9 12 13 Q mem) (h1 : ∀ (m1 : zM), aTm aT0 m1 → (fo 27 [] avF mem m1 ∧ cRd T n (tkf T n p).2 m1) → ∀ (v5 : Int32) (q6 : Int) (m3 : zM), aTm aT0 m3 → nuH T n (0 : Int) 100 (tkf T n p).2 m1 v5.toInt q6 m3 → ¬ (v5).toInt = 0 → aTm aT0 (si m3 2 4 (gi m3 27 8)) → P (some (.int 1)) (si m3 2 4 (gi m3 27 8))) (h2 : ∀ (m1 : zM), aTm aT0 m1 → (fo 27 [] avF mem m1 ∧ cRd T n (tkf T n p).2 m1) → ∀ (v5 : Int32) (q6 : Int) (m3 : zM), aTm aT0 m3 → nuH T n (0 : Int) 100 (tkf T n p).2 m1 v5.toInt q6 m3 → (v5).toInt = 0 → aTm aT0 m3 → P (some (.int 0)) m3) : yR zpg tX9_takesGale (d + 4) (0, [(0, .ref 26)], [], mem) P := by
  refine yR_m 1 (fun _ _ _ _ => rfl) ?_
  refine wR_gr rfl tO_e tO_0 hm ?_
  refine wR_cv rfl rfl rO_e hm rfl (h_avC (T := T) (n := n) (p := p) hm (cRd_t hR) hk4 (by omega)) ?_
  rintro _ m1 ⟨rfl, hI1, k2⟩
  show yR zpg tX9_takesGale (d + 4) (7, [(0, .ref 26)], [], m1) _
  refine yR_m 1 (fun _ _ _ _ => rfl) ?_
  refine wR_gr rfl tO_e tO_0 hI1 ?_
  refine yR_m 2 (fun _ _ _ _ => rfl) ?_
  refine wR_cv rfl rfl rO_e hI1 rfl (h_nuC (T := T) (n := n) (p := (tkf T n p).2) hI1 k2.2 (by omega)) ?_
  rintro _ m3 ⟨v5, q6, rfl, hm3, k4⟩
  show yR zpg tX9_takesGale (d + 4) (17, [(0, .ref 26)], [.int v5], m3) _
  refine wR_if_ne rfl (a := (v5).toInt) rfl (fun q7 => ?_) (fun q7 => ?_)
  ·
    refine yR_m 1 (fun _ _ _ _ => rfl) ?_
    refine wR_gq rfl tO_e hm3 ((k6_26 (k6_fo k4.1 rfl) (by decide)).trans ((k6_26 (k6_fo k2.1 rfl) (by decide)).trans ht)) ?_
    refine yR_m 1 (fun _ _ _ _ => rfl) ?_
    refine wR_gr rfl tO_e tO_0 hm3 ?_
    refine wR_gi rfl rO_e rO_8 hm3 rfl ?_
    refine wR_pi rfl quA_e quA_4 hm3 rfl ?_
    have hm_1 : aTm aT0 (si m3 2 4 (gi m3 27 8)) := tm_si quA_e quA_4 hm3 (i32_b _)
    refine yR_m 1 (fun _ _ _ _ => rfl) ?_
    exact yR_rz rfl ⟨by decide, by decide⟩ (h1 m1 hI1 k2 v5 q6 m3 hm3 k4 q7 hm_1)
  ·
    refine yR_m 1 (fun _ _ _ _ => rfl) ?_
    exact yR_rz rfl ⟨by decide, by decide⟩ (h2 m1 hI1 k2 v5 q6 m3 hm3 k4 q7 hm3)

set_option maxRecDepth 100000 in
theorem w_waA {d : Nat} {mem : zM} {P : Option Value → zM → Prop} {T : List Int32} {n p : Int} {Q : Qd} (hm : aTm aT0 mem) (ht : zfl mem 26 2 = some (.ref 2)) (hR : cRd T n p mem) (hk4 : ¬ (tkf T n p).1.1 = 4) (hq : hqQ Q) (hQ : cQ 2 3 4 7 8 9 12 13 Q mem) (h1 : ∀ (m1 : zM), aTm aT0 m1 → (fo 27 [] avF mem m1 ∧ cRd T n (tkf T n p).2 m1) → ∀ (v3 : Int64), tkD 2 4 8 9 (gi m1 2 7).toInt (gi m1 2 13).toInt m1 v3 → ∀ (v7 : Int32) (q8 : Int) (m5 : zM), aTm aT0 m5 → ceH T n True Q (tkf T n p).2 m1 v7.toInt q8 m5 → ¬ (v7).toInt = 0 → aTm aT0 (sL m5 2 6 ((gL m5 2 6) ||| (1 <<< (((gi m5 26 3) : Int32).toInt64 &&& 63)))) → P (some (.int 1)) (sL m5 2 6 ((gL m5 2 6) ||| (1 <<< (((gi m5 26 3) : Int32).toInt64 &&& 63))))) (h2 : ∀ (m1 : zM), aTm aT0 m1 → (fo 27 [] avF mem m1 ∧ cRd T n (tkf T n p).2 m1) → ∀ (v3 : Int64), tkD 2 4 8 9 (gi m1 2 7).toInt (gi m1 2 13).toInt m1 v3 → ∀ (v7 : Int32) (q8 : Int) (m5 : zM), aTm aT0 m5 → ceH T n True Q (tkf T n p).2 m1 v7.toInt q8 m5 → (v7).toInt = 0 → aTm aT0 m5 → P (some (.int 0)) m5) : yR zpg tX9_takesWall (d + 4) (0, [(0, .ref 26)], [], mem) P := by
  refine yR_m 1 (fun _ _ _ _ => rfl) ?_
  refine wR_gr rfl tO_e tO_0 hm ?_
  refine wR_cv rfl rfl rO_e hm rfl (h_avC (T := T) (n := n) (p := p) hm (cRd_t hR) hk4 (by omega)) ?_
  rintro _ m1 ⟨rfl, hI1, k2⟩
  show yR zpg tX9_takesWall (d + 4) (7, [(0, .ref 26)], [], m1) _
  refine yR_m 2 (fun _ _ _ _ => rfl) ?_
  refine wR_gq rfl tO_e hI1 ((k6_26 (k6_fo k2.1 rfl) (by decide)).trans ht) ?_
  refine wR_cv rfl rfl quA_e hI1 rfl (h_tkCA hI1 (cQ_P1 (cQ_k6A (k6_tr k6_rf (k6_fo k2.1 rfl)) hQ).2.2.1) (cQ_P2 (cQ_k6A (k6_tr k6_rf (k6_fo k2.1 rfl)) hQ).2.2.2.2.1) (by omega)) ?_
  rintro _ _ ⟨v3, rfl, rfl, k4⟩
  show yR zpg tX9_takesWall (d + 4) (15, [(0, .ref 26)], [.long v3, .ref 26], m1) _
  refine wR_cv rfl rfl tO_e hI1 rfl (h_ceCA (wl := True) (T := T) (n := n) (p := (tkf T n p).2) (Q := Q) (cQ_hy (cQ_k6A (k6_tr k6_rf (k6_fo k2.1 rfl)) hQ) k4) hI1 ((k6_26 (k6_fo k2.1 rfl) (by decide)).trans ht) k2.2 hq (by rw [(k6_gi (by decide) (k6_fo k2.1 rfl))]; exact hQ.1.1) (by rw [(k6_gi (by decide) (k6_fo k2.1 rfl))]; exact hQ.1.2) (by omega)) ?_
  rintro _ m5 ⟨v7, q8, rfl, hm5, k6⟩
  show yR zpg tX9_takesWall (d + 4) (18, [(0, .ref 26)], [.int v7], m5) _
  refine wR_if_ne rfl (a := (v7).toInt) rfl (fun q9 => ?_) (fun q9 => ?_)
  ·
    refine yR_m 1 (fun _ _ _ _ => rfl) ?_
    refine wR_gq rfl tO_e hm5 ((k6_26 k6.1 (by decide)).trans ((k6_26 (k6_fo k2.1 rfl) (by decide)).trans ht)) ?_
    refine yR_m 1 (fun _ _ _ _ => rfl) ?_
    refine wR_gL rfl quA_e quA_6 hm5 rfl ?_
    refine yR_m 1 (fun _ _ _ _ => rfl) ?_
    refine wR_gi rfl tO_e tO_3 hm5 rfl ?_
    refine wR_is rfl rfl rfl rfl rfl rfl ?_
    show yR zpg tX11_bitOf (d + 3) (0, [(0, .int (gi m5 26 3))], [], m5) _
    refine yR_m 3 (fun _ _ _ _ => rfl) ?_
    refine yR_rl rfl ?_
    show yR zpg tX9_takesWall (d + 4) (38, [(0, .ref 26)], [.long (1 <<< (((gi m5 26 3) : Int32).toInt64 &&& 63)), .long (gL m5 2 6), .ref 2], m5) _
    refine yR_m 1 (fun _ _ _ _ => rfl) ?_
    refine wR_pL rfl quA_e quA_6 hm5 ?_
    have hm_1 : aTm aT0 (sL m5 2 6 ((gL m5 2 6) ||| (1 <<< (((gi m5 26 3) : Int32).toInt64 &&& 63)))) := tm_sL quA_e quA_6 hm5
    refine yR_m 1 (fun _ _ _ _ => rfl) ?_
    exact yR_rz rfl ⟨by decide, by decide⟩ (h1 m1 hI1 k2 v3 k4 v7 q8 m5 hm5 k6 q9 hm_1)
  ·
    refine yR_m 1 (fun _ _ _ _ => rfl) ?_
    exact yR_rz rfl ⟨by decide, by decide⟩ (h2 m1 hI1 k2 v3 k4 v7 q8 m5 hm5 k6 q9 hm5)

theorem h_paCA (hm : aTm aT0 mem) (ht : zfl mem 26 2 = some (.ref 2)) (hR : cRd T n p mem) (h4 : ¬ (tkf T n p).1.1 = 4) (hq : hqQ Q) (hQ : cQ 2 3 4 7 8 9 12 13 Q mem) (hs : (gi mem 10 3).toInt ≤ p) (hd : 5 ≤ d) : yC zpg d 89 [.ref 26] mem (fun a m => ∃ (v : Int32) (q : Int), a = some (.int v) ∧ aTm aT0 m ∧ stCA T n mem (sTel T n 2 1 9 Q (tkf T n p).2) v.toInt q m) := by
  obtain ⟨d, rfl⟩ : ∃ q, d = q + 5 := ⟨d - 5, by omega⟩
  refine yC_of (t := tX9_takesPace) rfl rfl ?_
  exact w_paA (T := T) (n := n) (p := p) (Q := Q) hm ht hR h4 hq hQ
        (fun m1 hI1 k2 v5 q6 m3 hm3 k4 q7 hm2 => by
          have y0 := (tk_le hR).1
          have z1 := p_nuH k2.2 k4 (by omega)
          exact ⟨_, _, rfl, hm2, ⟨((zfl_sv_ne (by decide)).trans ((k6_26 (k6_fo k4.1 rfl) (by decide)).trans ((k6_26 (k6_fo k2.1 rfl) (by decide)).trans ht))), ((gi_sv_ne (by decide)).trans ((k6_gi (by decide) (k6_fo k4.1 rfl)).trans (k6_gi (by decide) (k6_fo k2.1 rfl)))), ((zo_sv (by decide)).trans ((zo_k6 (k6_fo k4.1 rfl)).trans (zo_k6 (k6_fo k2.1 rfl))))⟩, Or.inl ⟨rfl, ⟨_, om_1 (nu_1 k4 (by omega)).1.1, cQ_pacA hm3 (cQ_k6A (k6_tr (k6_tr k6_rf (k6_fo k2.1 rfl)) (k6_fo k4.1 rfl)) hQ)⟩, (cRd_sv (by decide) (nu_1 k4 (by omega)).2), by rw [((gi_sv_ne (by decide)).trans ((k6_gi (by decide) (k6_fo k4.1 rfl)).trans (k6_gi (by decide) (k6_fo k2.1 rfl))))]; omega⟩⟩)
        (fun m1 hI1 k2 v5 q6 m3 hm3 k4 q7 hm2 => by
          exact ⟨_, p, rfl, hm2, ⟨((k6_26 (k6_fo k4.1 rfl) (by decide)).trans ((k6_26 (k6_fo k2.1 rfl) (by decide)).trans ht)), ((k6_gi (by decide) (k6_fo k4.1 rfl)).trans (k6_gi (by decide) (k6_fo k2.1 rfl))), ((zo_k6 (k6_fo k4.1 rfl)).trans (zo_k6 (k6_fo k2.1 rfl)))⟩, Or.inr (Or.inl ⟨rfl, om_0 (nu_0 k4 (by omega))⟩)⟩)
theorem h_gaCA (hm : aTm aT0 mem) (ht : zfl mem 26 2 = some (.ref 2)) (hR : cRd T n p mem) (h4 : ¬ (tkf T n p).1.1 = 4) (hq : hqQ Q) (hQ : cQ 2 3 4 7 8 9 12 13 Q mem) (hs : (gi mem 10 3).toInt ≤ p) (hd : 5 ≤ d) : yC zpg d 90 [.ref 26] mem (fun a m => ∃ (v : Int32) (q : Int), a = some (.int v) ∧ aTm aT0 m ∧ stCA T n mem (sTel T n 3 0 100 Q (tkf T n p).2) v.toInt q m) := by
  obtain ⟨d, rfl⟩ : ∃ q, d = q + 5 := ⟨d - 5, by omega⟩
  refine yC_of (t := tX9_takesGale) rfl rfl ?_
  exact w_gaA (T := T) (n := n) (p := p) (Q := Q) hm ht hR h4 hq hQ
        (fun m1 hI1 k2 v5 q6 m3 hm3 k4 q7 hm2 => by
          have y0 := (tk_le hR).1
          have z1 := p_nuH k2.2 k4 (by omega)
          exact ⟨_, _, rfl, hm2, ⟨((zfl_sv_ne (by decide)).trans ((k6_26 (k6_fo k4.1 rfl) (by decide)).trans ((k6_26 (k6_fo k2.1 rfl) (by decide)).trans ht))), ((gi_sv_ne (by decide)).trans ((k6_gi (by decide) (k6_fo k4.1 rfl)).trans (k6_gi (by decide) (k6_fo k2.1 rfl)))), ((zo_sv (by decide)).trans ((zo_k6 (k6_fo k4.1 rfl)).trans (zo_k6 (k6_fo k2.1 rfl))))⟩, Or.inl ⟨rfl, ⟨_, om_1 (nu_1 k4 (by omega)).1.1, cQ_galA hm3 (cQ_k6A (k6_tr (k6_tr k6_rf (k6_fo k2.1 rfl)) (k6_fo k4.1 rfl)) hQ)⟩, (cRd_sv (by decide) (nu_1 k4 (by omega)).2), by rw [((gi_sv_ne (by decide)).trans ((k6_gi (by decide) (k6_fo k4.1 rfl)).trans (k6_gi (by decide) (k6_fo k2.1 rfl))))]; omega⟩⟩)
        (fun m1 hI1 k2 v5 q6 m3 hm3 k4 q7 hm2 => by
          exact ⟨_, p, rfl, hm2, ⟨((k6_26 (k6_fo k4.1 rfl) (by decide)).trans ((k6_26 (k6_fo k2.1 rfl) (by decide)).trans ht)), ((k6_gi (by decide) (k6_fo k4.1 rfl)).trans (k6_gi (by decide) (k6_fo k2.1 rfl))), ((zo_k6 (k6_fo k4.1 rfl)).trans (zo_k6 (k6_fo k2.1 rfl)))⟩, Or.inr (Or.inl ⟨rfl, om_0 (nu_0 k4 (by omega))⟩)⟩)
theorem h_waCA (hm : aTm aT0 mem) (ht : zfl mem 26 2 = some (.ref 2)) (hR : cRd T n p mem) (h4 : ¬ (tkf T n p).1.1 = 4) (hq : hqQ Q) (hQ : cQ 2 3 4 7 8 9 12 13 Q mem) (hs : (gi mem 10 3).toInt ≤ p) (hd : 5 ≤ d) : yC zpg d 91 [.ref 26] mem (fun a m => ∃ (v : Int32) (q : Int), a = some (.int v) ∧ aTm aT0 m ∧ stCA T n mem (sWal T n Q (tkf T n p).2) v.toInt q m) := by
  obtain ⟨d, rfl⟩ : ∃ q, d = q + 5 := ⟨d - 5, by omega⟩
  refine yC_of (t := tX9_takesWall) rfl rfl ?_
  exact w_waA (T := T) (n := n) (p := p) (Q := Q) hm ht hR h4 hq hQ
        (fun m1 hI1 k2 v3 k4 v7 q8 m5 hm5 k6 q9 hm2 => by
          have y0 := (tk_le hR).1
          have z1 := p_ceH k2.2 k6 (by omega)
          have cc := (or_1 k6.2 (by omega)).1
          exact ⟨_, _, rfl, hm2, ⟨((zfl_sv_ne (by decide)).trans ((k6_26 k6.1 (by decide)).trans ((k6_26 (k6_fo k2.1 rfl) (by decide)).trans ht))), ((gi_sv_ne (by decide)).trans ((k6_gi (by decide) k6.1).trans (k6_gi (by decide) (k6_fo k2.1 rfl)))), ((zo_sv (by decide)).trans ((zo_k6 k6.1).trans (zo_k6 (k6_fo k2.1 rfl))))⟩, Or.inl ⟨rfl, ⟨_, om_1 cc.1, cQ_walA hm5 (cQ_k6A (k6_tr (k6_tr k6_rf (k6_fo k2.1 rfl)) k6.1) hQ) cc.2.1 cc.2.2⟩, (cRd_sv (by decide) (or_1 k6.2 (by omega)).2), by rw [((gi_sv_ne (by decide)).trans ((k6_gi (by decide) k6.1).trans (k6_gi (by decide) (k6_fo k2.1 rfl))))]; omega⟩⟩)
        (fun m1 hI1 k2 v3 k4 v7 q8 m5 hm5 k6 q9 hm2 => by
          exact ⟨_, p, rfl, hm2, ⟨((k6_26 k6.1 (by decide)).trans ((k6_26 (k6_fo k2.1 rfl) (by decide)).trans ht)), ((k6_gi (by decide) k6.1).trans (k6_gi (by decide) (k6_fo k2.1 rfl))), ((zo_k6 k6.1).trans (zo_k6 (k6_fo k2.1 rfl)))⟩, Or.inr (Or.inl ⟨rfl, om_0 (or_0 k6.2 (by omega))⟩)⟩)
abbrev stCB (T : List Int32) (n : Int) (mr : zM) (S : Option (Qd × Int)) (v q : Int) (m : zM) : Prop := (zfl m 26 2 = some (.ref 14) ∧ gi m 14 0 = gi mr 14 0 ∧ zo 14 m = zo 14 mr) ∧ ((v = 1 ∧ (∃ Q', S = some (Q', q) ∧ cQ 14 15 16 19 20 21 24 25 Q' m) ∧ cRd T n q m ∧ (gi m 22 3).toInt ≤ q) ∨ (v = 0 ∧ S = none) ∨ (v = 1 ∧ S = none ∧ (tkf T n q).1.1 = 4 ∧ cRd T n q m))
theorem cQ_svB {i : Nat} {x : Value} (hi : i = 0) (h : cQ 14 15 16 19 20 21 24 25 Q m) : cQ 14 15 16 19 20 21 24 25 Q (sv m 14 i x) := by
  subst hi
  have X : cQx 14 Q (sv m 14 0 x) := cQx_eq (gi_sv_ne (by decide)) (gi_sv_ne (by decide)) (gL_sv_ne (by decide)) ga_sv ga_sv ga_sv ga_sv ga_sv (gi_sv_ne (by decide)) h.2.2.2.2.2.2
  unfold cQ cQw cQt cQh cQf cQu at h ⊢
  rw [gi_sv_ne (by decide), gi_sv_ne (by decide), gi_sv_ne (by decide), gi_sv_ne (by decide), gi_sv_ne (by decide), gL_sv_ne (by decide), ga_sv, ga_sv, ga_sv, ga_sv, ga_sv, ga_sv, ga_sv]
  exact ⟨h.1, h.2.1, h.2.2.1, h.2.2.2.1, h.2.2.2.2.1, h.2.2.2.2.2.1, X⟩
theorem cQ_pacB {x : Int32} (hm : aTm aT0 m) (h : cQ 14 15 16 19 20 21 24 25 Q m) : cQ 14 15 16 19 20 21 24 25 (setT 2 x.toInt Q) (si m 14 3 x) := by
  have hx := h.2.2.2.2.2.2
  have X : cQx 14 (setT 2 x.toInt Q) (si m 14 3 x) := by
    refine ⟨⟨hx.1.1, fun i y hy => by rw [ga_sv, ga_sv]; exact hx.1.2 i y hy⟩, ⟨by rw [gi_eqQ (isQ_of quB_e hm) quB_3]; rfl, by rw [gi_sv_ne (by decide)]; exact hx.2.1.2.1, by rw [gL_sv_ne (by decide)]; exact hx.2.1.2.2⟩, fun w w0 w1 c hc => by rw [ga_sv, ga_sv, ga_sv, gi_sv_ne (by decide)]; exact hx.2.2 w w0 w1 c hc⟩
  unfold cQ cQw cQt cQh cQf cQu at h ⊢
  rw [gi_sv_ne (by decide), gi_sv_ne (by decide), gi_sv_ne (by decide), gi_sv_ne (by decide), gi_sv_ne (by decide), gL_sv_ne (by decide), ga_sv, ga_sv, ga_sv, ga_sv, ga_sv, ga_sv, ga_sv]
  exact ⟨h.1, h.2.1, h.2.2.1, h.2.2.2.1, h.2.2.2.2.1, h.2.2.2.2.2.1, X⟩
theorem cQ_galB {x : Int32} (hm : aTm aT0 m) (h : cQ 14 15 16 19 20 21 24 25 Q m) : cQ 14 15 16 19 20 21 24 25 (setT 3 x.toInt Q) (si m 14 4 x) := by
  have hx := h.2.2.2.2.2.2
  have X : cQx 14 (setT 3 x.toInt Q) (si m 14 4 x) := by
    refine ⟨⟨hx.1.1, fun i y hy => by rw [ga_sv, ga_sv]; exact hx.1.2 i y hy⟩, ⟨by rw [gi_sv_ne (by decide)]; exact hx.2.1.1, by rw [gi_eqQ (isQ_of quB_e hm) quB_4]; rfl, by rw [gL_sv_ne (by decide)]; exact hx.2.1.2.2⟩, fun w w0 w1 c hc => by rw [ga_sv, ga_sv, ga_sv, gi_sv_ne (by decide)]; exact hx.2.2 w w0 w1 c hc⟩
  unfold cQ cQw cQt cQh cQf cQu at h ⊢
  rw [gi_sv_ne (by decide), gi_sv_ne (by decide), gi_sv_ne (by decide), gi_sv_ne (by decide), gi_sv_ne (by decide), gL_sv_ne (by decide), ga_sv, ga_sv, ga_sv, ga_sv, ga_sv, ga_sv, ga_sv]
  exact ⟨h.1, h.2.1, h.2.2.1, h.2.2.2.1, h.2.2.2.2.1, h.2.2.2.2.2.1, X⟩
theorem cQ_walB {x : Int32} (hm : aTm aT0 m) (h : cQ 14 15 16 19 20 21 24 25 Q m) (x0 : 0 ≤ x.toInt) (x1 : x.toInt < 64) : cQ 14 15 16 19 20 21 24 25 (Qc Q, Qr Q, x.toInt :: Qw Q, Qt Q, Qh Q, Qf Q, Qu Q, Qx Q) (sL m 14 6 ((gL m 14 6) ||| ((1 : Int64) <<< (x.toInt64 &&& 63)))) := by
  have g : gL (sL m 14 6 ((gL m 14 6) ||| ((1 : Int64) <<< (x.toInt64 &&& 63)))) 14 6 = (gL m 14 6) ||| ((1 : Int64) <<< (x.toInt64 &&& 63)) := gL_sL_eq quB_e quB_6 hm
  have X := cQx_eq (q := 14) (Q := Q) (m' := sL m 14 6 ((gL m 14 6) ||| ((1 : Int64) <<< (x.toInt64 &&& 63)))) (gi_sv_ne (by decide)) (gi_sv_ne (by decide)) (gL_sv_ne (by decide)) ga_sv ga_sv ga_sv ga_sv ga_sv (gi_sv_ne (by decide)) h.2.2.2.2.2.2
  unfold cQ cQw cQt cQh cQf cQu at h ⊢
  rw [g, gi_sv_ne (by decide), gi_sv_ne (by decide), gi_sv_ne (by decide), gi_sv_ne (by decide), gi_sv_ne (by decide), ga_sv, ga_sv, ga_sv, ga_sv, ga_sv, ga_sv, ga_sv]
  refine ⟨h.1, fun c c0 c1 => ?_, h.2.2.1, h.2.2.2.1, h.2.2.2.2.1, h.2.2.2.2.2.1, X⟩
  rw [bL_o, bL_1 x0 x1 c0 c1, h.2.1 c c0 c1]
  show _ ↔ c ∈ x.toInt :: Qw Q
  rw [List.mem_cons]
  exact ⟨fun w => w.symm, fun w => w.symm⟩
set_option maxRecDepth 100000 in
theorem w_paB {d : Nat} {mem : zM} {P : Option Value → zM → Prop} {T : List Int32} {n p : Int} {Q : Qd} (hm : aTm aT0 mem) (ht : zfl mem 26 2 = some (.ref 14)) (hR : cRd T n p mem) (hk4 : ¬ (tkf T n p).1.1 = 4) (hq : hqQ Q) (hQ : cQ 14 15 16 19 20 21 24 25 Q mem) (h1 : ∀ (m1 : zM), aTm aT0 m1 → (fo 27 [] avF mem m1 ∧ cRd T n (tkf T n p).2 m1) → ∀ (v5 : Int32) (q6 : Int) (m3 : zM), aTm aT0 m3 → nuH T n (1 : Int) 9 (tkf T n p).2 m1 v5.toInt q6 m3 → ¬ (v5).toInt = 0 → aTm aT0 (si m3 14 3 (gi m3 27 8)) → P (some (.int 1)) (si m3 14 3 (gi m3 27 8))) (h2 : ∀ (m1 : zM), aTm aT0 m1 → (fo 27 [] avF mem m1 ∧ cRd T n (tkf T n p).2 m1) → ∀ (v5 : Int32) (q6 : Int) (m3 : zM), aTm aT0 m3 → nuH T n (1 : Int) 9 (tkf T n p).2 m1 v5.toInt q6 m3 → (v5).toInt = 0 → aTm aT0 m3 → P (some (.int 0)) m3) : yR zpg tX9_takesPace (d + 4) (0, [(0, .ref 26)], [], mem) P := by
  refine yR_m 1 (fun _ _ _ _ => rfl) ?_
  refine wR_gr rfl tO_e tO_0 hm ?_
  refine wR_cv rfl rfl rO_e hm rfl (h_avC (T := T) (n := n) (p := p) hm (cRd_t hR) hk4 (by omega)) ?_
  rintro _ m1 ⟨rfl, hI1, k2⟩
  show yR zpg tX9_takesPace (d + 4) (7, [(0, .ref 26)], [], m1) _
  refine yR_m 1 (fun _ _ _ _ => rfl) ?_
  refine wR_gr rfl tO_e tO_0 hI1 ?_
  refine yR_m 2 (fun _ _ _ _ => rfl) ?_
  refine wR_cv rfl rfl rO_e hI1 rfl (h_nuC (T := T) (n := n) (p := (tkf T n p).2) hI1 k2.2 (by omega)) ?_
  rintro _ m3 ⟨v5, q6, rfl, hm3, k4⟩
  show yR zpg tX9_takesPace (d + 4) (17, [(0, .ref 26)], [.int v5], m3) _
  refine wR_if_ne rfl (a := (v5).toInt) rfl (fun q7 => ?_) (fun q7 => ?_)
  ·
    refine yR_m 1 (fun _ _ _ _ => rfl) ?_
    refine wR_gq rfl tO_e hm3 ((k6_26 (k6_fo k4.1 rfl) (by decide)).trans ((k6_26 (k6_fo k2.1 rfl) (by decide)).trans ht)) ?_
    refine yR_m 1 (fun _ _ _ _ => rfl) ?_
    refine wR_gr rfl tO_e tO_0 hm3 ?_
    refine wR_gi rfl rO_e rO_8 hm3 rfl ?_
    refine wR_pi rfl quB_e quB_3 hm3 rfl ?_
    have hm_1 : aTm aT0 (si m3 14 3 (gi m3 27 8)) := tm_si quB_e quB_3 hm3 (i32_b _)
    refine yR_m 1 (fun _ _ _ _ => rfl) ?_
    exact yR_rz rfl ⟨by decide, by decide⟩ (h1 m1 hI1 k2 v5 q6 m3 hm3 k4 q7 hm_1)
  ·
    refine yR_m 1 (fun _ _ _ _ => rfl) ?_
    exact yR_rz rfl ⟨by decide, by decide⟩ (h2 m1 hI1 k2 v5 q6 m3 hm3 k4 q7 hm3)

set_option maxRecDepth 100000 in
theorem w_gaB {d : Nat} {mem : zM} {P : Option Value → zM → Prop} {T : List Int32} {n p : Int} {Q : Qd} (hm : aTm aT0 mem) (ht : zfl mem 26 2 = some (.ref 14)) (hR : cRd T n p mem) (hk4 : ¬ (tkf T n p).1.1 = 4) (hq : hqQ Q) (hQ : cQ 14 15 16 19 20 21 24 25 Q mem) (h1 : ∀ (m1 : zM), aTm aT0 m1 → (fo 27 [] avF mem m1 ∧ cRd T n (tkf T n p).2 m1) → ∀ (v5 : Int32) (q6 : Int) (m3 : zM), aTm aT0 m3 → nuH T n (0 : Int) 100 (tkf T n p).2 m1 v5.toInt q6 m3 → ¬ (v5).toInt = 0 → aTm aT0 (si m3 14 4 (gi m3 27 8)) → P (some (.int 1)) (si m3 14 4 (gi m3 27 8))) (h2 : ∀ (m1 : zM), aTm aT0 m1 → (fo 27 [] avF mem m1 ∧ cRd T n (tkf T n p).2 m1) → ∀ (v5 : Int32) (q6 : Int) (m3 : zM), aTm aT0 m3 → nuH T n (0 : Int) 100 (tkf T n p).2 m1 v5.toInt q6 m3 → (v5).toInt = 0 → aTm aT0 m3 → P (some (.int 0)) m3) : yR zpg tX9_takesGale (d + 4) (0, [(0, .ref 26)], [], mem) P := by
  refine yR_m 1 (fun _ _ _ _ => rfl) ?_
  refine wR_gr rfl tO_e tO_0 hm ?_
  refine wR_cv rfl rfl rO_e hm rfl (h_avC (T := T) (n := n) (p := p) hm (cRd_t hR) hk4 (by omega)) ?_
  rintro _ m1 ⟨rfl, hI1, k2⟩
  show yR zpg tX9_takesGale (d + 4) (7, [(0, .ref 26)], [], m1) _
  refine yR_m 1 (fun _ _ _ _ => rfl) ?_
  refine wR_gr rfl tO_e tO_0 hI1 ?_
  refine yR_m 2 (fun _ _ _ _ => rfl) ?_
  refine wR_cv rfl rfl rO_e hI1 rfl (h_nuC (T := T) (n := n) (p := (tkf T n p).2) hI1 k2.2 (by omega)) ?_
  rintro _ m3 ⟨v5, q6, rfl, hm3, k4⟩
  show yR zpg tX9_takesGale (d + 4) (17, [(0, .ref 26)], [.int v5], m3) _
  refine wR_if_ne rfl (a := (v5).toInt) rfl (fun q7 => ?_) (fun q7 => ?_)
  ·
    refine yR_m 1 (fun _ _ _ _ => rfl) ?_
    refine wR_gq rfl tO_e hm3 ((k6_26 (k6_fo k4.1 rfl) (by decide)).trans ((k6_26 (k6_fo k2.1 rfl) (by decide)).trans ht)) ?_
    refine yR_m 1 (fun _ _ _ _ => rfl) ?_
    refine wR_gr rfl tO_e tO_0 hm3 ?_
    refine wR_gi rfl rO_e rO_8 hm3 rfl ?_
    refine wR_pi rfl quB_e quB_4 hm3 rfl ?_
    have hm_1 : aTm aT0 (si m3 14 4 (gi m3 27 8)) := tm_si quB_e quB_4 hm3 (i32_b _)
    refine yR_m 1 (fun _ _ _ _ => rfl) ?_
    exact yR_rz rfl ⟨by decide, by decide⟩ (h1 m1 hI1 k2 v5 q6 m3 hm3 k4 q7 hm_1)
  ·
    refine yR_m 1 (fun _ _ _ _ => rfl) ?_
    exact yR_rz rfl ⟨by decide, by decide⟩ (h2 m1 hI1 k2 v5 q6 m3 hm3 k4 q7 hm3)

set_option maxRecDepth 100000 in
theorem w_waB {d : Nat} {mem : zM} {P : Option Value → zM → Prop} {T : List Int32} {n p : Int} {Q : Qd} (hm : aTm aT0 mem) (ht : zfl mem 26 2 = some (.ref 14)) (hR : cRd T n p mem) (hk4 : ¬ (tkf T n p).1.1 = 4) (hq : hqQ Q) (hQ : cQ 14 15 16 19 20 21 24 25 Q mem) (h1 : ∀ (m1 : zM), aTm aT0 m1 → (fo 27 [] avF mem m1 ∧ cRd T n (tkf T n p).2 m1) → ∀ (v3 : Int64), tkD 14 16 20 21 (gi m1 14 7).toInt (gi m1 14 13).toInt m1 v3 → ∀ (v7 : Int32) (q8 : Int) (m5 : zM), aTm aT0 m5 → ceH T n True Q (tkf T n p).2 m1 v7.toInt q8 m5 → ¬ (v7).toInt = 0 → aTm aT0 (sL m5 14 6 ((gL m5 14 6) ||| (1 <<< (((gi m5 26 3) : Int32).toInt64 &&& 63)))) → P (some (.int 1)) (sL m5 14 6 ((gL m5 14 6) ||| (1 <<< (((gi m5 26 3) : Int32).toInt64 &&& 63))))) (h2 : ∀ (m1 : zM), aTm aT0 m1 → (fo 27 [] avF mem m1 ∧ cRd T n (tkf T n p).2 m1) → ∀ (v3 : Int64), tkD 14 16 20 21 (gi m1 14 7).toInt (gi m1 14 13).toInt m1 v3 → ∀ (v7 : Int32) (q8 : Int) (m5 : zM), aTm aT0 m5 → ceH T n True Q (tkf T n p).2 m1 v7.toInt q8 m5 → (v7).toInt = 0 → aTm aT0 m5 → P (some (.int 0)) m5) : yR zpg tX9_takesWall (d + 4) (0, [(0, .ref 26)], [], mem) P := by
  refine yR_m 1 (fun _ _ _ _ => rfl) ?_
  refine wR_gr rfl tO_e tO_0 hm ?_
  refine wR_cv rfl rfl rO_e hm rfl (h_avC (T := T) (n := n) (p := p) hm (cRd_t hR) hk4 (by omega)) ?_
  rintro _ m1 ⟨rfl, hI1, k2⟩
  show yR zpg tX9_takesWall (d + 4) (7, [(0, .ref 26)], [], m1) _
  refine yR_m 2 (fun _ _ _ _ => rfl) ?_
  refine wR_gq rfl tO_e hI1 ((k6_26 (k6_fo k2.1 rfl) (by decide)).trans ht) ?_
  refine wR_cv rfl rfl quB_e hI1 rfl (h_tkCB hI1 (cQ_P1 (cQ_k6B (k6_tr k6_rf (k6_fo k2.1 rfl)) hQ).2.2.1) (cQ_P2 (cQ_k6B (k6_tr k6_rf (k6_fo k2.1 rfl)) hQ).2.2.2.2.1) (by omega)) ?_
  rintro _ _ ⟨v3, rfl, rfl, k4⟩
  show yR zpg tX9_takesWall (d + 4) (15, [(0, .ref 26)], [.long v3, .ref 26], m1) _
  refine wR_cv rfl rfl tO_e hI1 rfl (h_ceCB (wl := True) (T := T) (n := n) (p := (tkf T n p).2) (Q := Q) (cQ_hy (cQ_k6B (k6_tr k6_rf (k6_fo k2.1 rfl)) hQ) k4) hI1 ((k6_26 (k6_fo k2.1 rfl) (by decide)).trans ht) k2.2 hq (by rw [(k6_gi (by decide) (k6_fo k2.1 rfl))]; exact hQ.1.1) (by rw [(k6_gi (by decide) (k6_fo k2.1 rfl))]; exact hQ.1.2) (by omega)) ?_
  rintro _ m5 ⟨v7, q8, rfl, hm5, k6⟩
  show yR zpg tX9_takesWall (d + 4) (18, [(0, .ref 26)], [.int v7], m5) _
  refine wR_if_ne rfl (a := (v7).toInt) rfl (fun q9 => ?_) (fun q9 => ?_)
  ·
    refine yR_m 1 (fun _ _ _ _ => rfl) ?_
    refine wR_gq rfl tO_e hm5 ((k6_26 k6.1 (by decide)).trans ((k6_26 (k6_fo k2.1 rfl) (by decide)).trans ht)) ?_
    refine yR_m 1 (fun _ _ _ _ => rfl) ?_
    refine wR_gL rfl quB_e quB_6 hm5 rfl ?_
    refine yR_m 1 (fun _ _ _ _ => rfl) ?_
    refine wR_gi rfl tO_e tO_3 hm5 rfl ?_
    refine wR_is rfl rfl rfl rfl rfl rfl ?_
    show yR zpg tX11_bitOf (d + 3) (0, [(0, .int (gi m5 26 3))], [], m5) _
    refine yR_m 3 (fun _ _ _ _ => rfl) ?_
    refine yR_rl rfl ?_
    show yR zpg tX9_takesWall (d + 4) (38, [(0, .ref 26)], [.long (1 <<< (((gi m5 26 3) : Int32).toInt64 &&& 63)), .long (gL m5 14 6), .ref 14], m5) _
    refine yR_m 1 (fun _ _ _ _ => rfl) ?_
    refine wR_pL rfl quB_e quB_6 hm5 ?_
    have hm_1 : aTm aT0 (sL m5 14 6 ((gL m5 14 6) ||| (1 <<< (((gi m5 26 3) : Int32).toInt64 &&& 63)))) := tm_sL quB_e quB_6 hm5
    refine yR_m 1 (fun _ _ _ _ => rfl) ?_
    exact yR_rz rfl ⟨by decide, by decide⟩ (h1 m1 hI1 k2 v3 k4 v7 q8 m5 hm5 k6 q9 hm_1)
  ·
    refine yR_m 1 (fun _ _ _ _ => rfl) ?_
    exact yR_rz rfl ⟨by decide, by decide⟩ (h2 m1 hI1 k2 v3 k4 v7 q8 m5 hm5 k6 q9 hm5)

theorem h_paCB (hm : aTm aT0 mem) (ht : zfl mem 26 2 = some (.ref 14)) (hR : cRd T n p mem) (h4 : ¬ (tkf T n p).1.1 = 4) (hq : hqQ Q) (hQ : cQ 14 15 16 19 20 21 24 25 Q mem) (hs : (gi mem 22 3).toInt ≤ p) (hd : 5 ≤ d) : yC zpg d 89 [.ref 26] mem (fun a m => ∃ (v : Int32) (q : Int), a = some (.int v) ∧ aTm aT0 m ∧ stCB T n mem (sTel T n 2 1 9 Q (tkf T n p).2) v.toInt q m) := by
  obtain ⟨d, rfl⟩ : ∃ q, d = q + 5 := ⟨d - 5, by omega⟩
  refine yC_of (t := tX9_takesPace) rfl rfl ?_
  exact w_paB (T := T) (n := n) (p := p) (Q := Q) hm ht hR h4 hq hQ
        (fun m1 hI1 k2 v5 q6 m3 hm3 k4 q7 hm2 => by
          have y0 := (tk_le hR).1
          have z1 := p_nuH k2.2 k4 (by omega)
          exact ⟨_, _, rfl, hm2, ⟨((zfl_sv_ne (by decide)).trans ((k6_26 (k6_fo k4.1 rfl) (by decide)).trans ((k6_26 (k6_fo k2.1 rfl) (by decide)).trans ht))), ((gi_sv_ne (by decide)).trans ((k6_gi (by decide) (k6_fo k4.1 rfl)).trans (k6_gi (by decide) (k6_fo k2.1 rfl)))), ((zo_sv (by decide)).trans ((zo_k6 (k6_fo k4.1 rfl)).trans (zo_k6 (k6_fo k2.1 rfl))))⟩, Or.inl ⟨rfl, ⟨_, om_1 (nu_1 k4 (by omega)).1.1, cQ_pacB hm3 (cQ_k6B (k6_tr (k6_tr k6_rf (k6_fo k2.1 rfl)) (k6_fo k4.1 rfl)) hQ)⟩, (cRd_sv (by decide) (nu_1 k4 (by omega)).2), by rw [((gi_sv_ne (by decide)).trans ((k6_gi (by decide) (k6_fo k4.1 rfl)).trans (k6_gi (by decide) (k6_fo k2.1 rfl))))]; omega⟩⟩)
        (fun m1 hI1 k2 v5 q6 m3 hm3 k4 q7 hm2 => by
          exact ⟨_, p, rfl, hm2, ⟨((k6_26 (k6_fo k4.1 rfl) (by decide)).trans ((k6_26 (k6_fo k2.1 rfl) (by decide)).trans ht)), ((k6_gi (by decide) (k6_fo k4.1 rfl)).trans (k6_gi (by decide) (k6_fo k2.1 rfl))), ((zo_k6 (k6_fo k4.1 rfl)).trans (zo_k6 (k6_fo k2.1 rfl)))⟩, Or.inr (Or.inl ⟨rfl, om_0 (nu_0 k4 (by omega))⟩)⟩)
theorem h_gaCB (hm : aTm aT0 mem) (ht : zfl mem 26 2 = some (.ref 14)) (hR : cRd T n p mem) (h4 : ¬ (tkf T n p).1.1 = 4) (hq : hqQ Q) (hQ : cQ 14 15 16 19 20 21 24 25 Q mem) (hs : (gi mem 22 3).toInt ≤ p) (hd : 5 ≤ d) : yC zpg d 90 [.ref 26] mem (fun a m => ∃ (v : Int32) (q : Int), a = some (.int v) ∧ aTm aT0 m ∧ stCB T n mem (sTel T n 3 0 100 Q (tkf T n p).2) v.toInt q m) := by
  obtain ⟨d, rfl⟩ : ∃ q, d = q + 5 := ⟨d - 5, by omega⟩
  refine yC_of (t := tX9_takesGale) rfl rfl ?_
  exact w_gaB (T := T) (n := n) (p := p) (Q := Q) hm ht hR h4 hq hQ
        (fun m1 hI1 k2 v5 q6 m3 hm3 k4 q7 hm2 => by
          have y0 := (tk_le hR).1
          have z1 := p_nuH k2.2 k4 (by omega)
          exact ⟨_, _, rfl, hm2, ⟨((zfl_sv_ne (by decide)).trans ((k6_26 (k6_fo k4.1 rfl) (by decide)).trans ((k6_26 (k6_fo k2.1 rfl) (by decide)).trans ht))), ((gi_sv_ne (by decide)).trans ((k6_gi (by decide) (k6_fo k4.1 rfl)).trans (k6_gi (by decide) (k6_fo k2.1 rfl)))), ((zo_sv (by decide)).trans ((zo_k6 (k6_fo k4.1 rfl)).trans (zo_k6 (k6_fo k2.1 rfl))))⟩, Or.inl ⟨rfl, ⟨_, om_1 (nu_1 k4 (by omega)).1.1, cQ_galB hm3 (cQ_k6B (k6_tr (k6_tr k6_rf (k6_fo k2.1 rfl)) (k6_fo k4.1 rfl)) hQ)⟩, (cRd_sv (by decide) (nu_1 k4 (by omega)).2), by rw [((gi_sv_ne (by decide)).trans ((k6_gi (by decide) (k6_fo k4.1 rfl)).trans (k6_gi (by decide) (k6_fo k2.1 rfl))))]; omega⟩⟩)
        (fun m1 hI1 k2 v5 q6 m3 hm3 k4 q7 hm2 => by
          exact ⟨_, p, rfl, hm2, ⟨((k6_26 (k6_fo k4.1 rfl) (by decide)).trans ((k6_26 (k6_fo k2.1 rfl) (by decide)).trans ht)), ((k6_gi (by decide) (k6_fo k4.1 rfl)).trans (k6_gi (by decide) (k6_fo k2.1 rfl))), ((zo_k6 (k6_fo k4.1 rfl)).trans (zo_k6 (k6_fo k2.1 rfl)))⟩, Or.inr (Or.inl ⟨rfl, om_0 (nu_0 k4 (by omega))⟩)⟩)
theorem h_waCB (hm : aTm aT0 mem) (ht : zfl mem 26 2 = some (.ref 14)) (hR : cRd T n p mem) (h4 : ¬ (tkf T n p).1.1 = 4) (hq : hqQ Q) (hQ : cQ 14 15 16 19 20 21 24 25 Q mem) (hs : (gi mem 22 3).toInt ≤ p) (hd : 5 ≤ d) : yC zpg d 91 [.ref 26] mem (fun a m => ∃ (v : Int32) (q : Int), a = some (.int v) ∧ aTm aT0 m ∧ stCB T n mem (sWal T n Q (tkf T n p).2) v.toInt q m) := by
  obtain ⟨d, rfl⟩ : ∃ q, d = q + 5 := ⟨d - 5, by omega⟩
  refine yC_of (t := tX9_takesWall) rfl rfl ?_
  exact w_waB (T := T) (n := n) (p := p) (Q := Q) hm ht hR h4 hq hQ
        (fun m1 hI1 k2 v3 k4 v7 q8 m5 hm5 k6 q9 hm2 => by
          have y0 := (tk_le hR).1
          have z1 := p_ceH k2.2 k6 (by omega)
          have cc := (or_1 k6.2 (by omega)).1
          exact ⟨_, _, rfl, hm2, ⟨((zfl_sv_ne (by decide)).trans ((k6_26 k6.1 (by decide)).trans ((k6_26 (k6_fo k2.1 rfl) (by decide)).trans ht))), ((gi_sv_ne (by decide)).trans ((k6_gi (by decide) k6.1).trans (k6_gi (by decide) (k6_fo k2.1 rfl)))), ((zo_sv (by decide)).trans ((zo_k6 k6.1).trans (zo_k6 (k6_fo k2.1 rfl))))⟩, Or.inl ⟨rfl, ⟨_, om_1 cc.1, cQ_walB hm5 (cQ_k6B (k6_tr (k6_tr k6_rf (k6_fo k2.1 rfl)) k6.1) hQ) cc.2.1 cc.2.2⟩, (cRd_sv (by decide) (or_1 k6.2 (by omega)).2), by rw [((gi_sv_ne (by decide)).trans ((k6_gi (by decide) k6.1).trans (k6_gi (by decide) (k6_fo k2.1 rfl))))]; omega⟩⟩)
        (fun m1 hI1 k2 v3 k4 v7 q8 m5 hm5 k6 q9 hm2 => by
          exact ⟨_, p, rfl, hm2, ⟨((k6_26 k6.1 (by decide)).trans ((k6_26 (k6_fo k2.1 rfl) (by decide)).trans ht)), ((k6_gi (by decide) k6.1).trans (k6_gi (by decide) (k6_fo k2.1 rfl))), ((zo_k6 k6.1).trans (zo_k6 (k6_fo k2.1 rfl)))⟩, Or.inr (Or.inl ⟨rfl, om_0 (or_0 k6.2 (by omega))⟩)⟩)
end CS
