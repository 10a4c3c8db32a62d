/-! the class's sums: contracts; a pair -/
section CC
/-- a reader of sums has gone on to q (v is 1), or refused (v is 0) -/
def tH (R A : Nat) (T : List Int32) (n p : Int) (P : List Int → Int → Prop) (Z : Prop) (mr : zM) (v q : Int) (m : zM) : Prop := c2 R A mr m ∧ ((v = 1 ∧ P (cC R A m) q ∧ p < q ∧ cRd T n q m ∧ (gi mr R 3).toInt < (gi m R 3).toInt ∧ (gi m R 3).toInt - (gi mr R 3).toInt ≤ q - p) ∨ (v = 0 ∧ Z))
/-- where a reader of sums begins -/
def tB (R A : Nat) (T : List Int32) (n ru p : Int) (mem : zM) : Prop := hRA R A ∧ zfl mem 30 1 = some (.ref R) ∧ (gi mem 30 2).toInt = ru ∧ cRd T n p mem ∧ (gi mem R 3).toInt ≤ p ∧ n ≤ 1600
def tC (R A : Nat) (T : List Int32) (n ru : Int) (k : Nat) (o : Int) (D : Nat) (B : Fr → Int → Prop) (P : List Int → Fr → List Fr → Int → List Int → Int → Prop) : Prop := ∀ (d : Nat) (mem : zM) (x : Int32) (p : Int) (f : Fr) (r : List Fr), D ≤ d → x.toInt = o → aTm aT0 mem → tB R A T n ru p mem → opn (f :: r) = o → B f p → yC zpg d k [.ref 30, .int x] mem (fun a m => ∃ (v : Int32) (q : Int), a = some (.int v) ∧ aTm aT0 m ∧ tH R A T n p (P (cC R A mem) f r p) (Mch T n ru (cC R A mem) (f :: r) 0 p = none) mem v.toInt q m)
variable (R A : Nat) (T : List Int32) (n ru : Int)
/-- what is held back last has a rank below k -/
def hdk (k : Int) (f : Fr) : Prop := ∀ q, f.2.2.2.head? = some q → rkC q < k
def bS (f : Fr) (p : Int) : Prop := f.2.1 < 2 ∧ N3 T n f p
def bS6 (f : Fr) (p : Int) : Prop := f.2.1 < 2 ∧ N3 T n f p ∧ hdk 6 f
def bS5 (f : Fr) (p : Int) : Prop := f.2.1 < 2 ∧ N3 T n f p ∧ hdk 5 f
def pPart (w : List Int) (f : Fr) (r : List Fr) (p : Int) (w' : List Int) (q : Int) : Prop := Mch T n ru w (f :: r) 0 p = Mch T n ru w' (bgA (f :: r)) 1 q
def pProd (w : List Int) (f : Fr) (r : List Fr) (p : Int) (w' : List Int) (q : Int) : Prop := pPart T n ru w f r p w' q ∧ ¬ sIM T n q
def pSum (w : List Int) (f : Fr) (r : List Fr) (p : Int) (w' : List Int) (q : Int) : Prop := pPart T n ru w f r p w' q ∧ ¬ (sIA T n q ∨ sIM T n q)
def bP (f : Fr) (_ : Int) : Prop := f.1 = 3 ∧ f.2.1 = 0 ∧ ∃ z, f.2.2.2 = [z] ∧ rkC z = 0
def pPair (w : List Int) (f : Fr) (r : List Fr) (p : Int) (w' : List Int) (q : Int) : Prop := Mch T n ru w (f :: r) 0 p = Mch T n ru (w' ++ opE f.2.2.2) r 1 q
def bF (f : Fr) (_ : Int) : Prop := sIT f.1 ∧ f.2.1 = 0 ∧ ¬ f.2.2.1 = 0 ∧ hdk 4 f
def pFact (w : List Int) (f : Fr) (r : List Fr) (p : Int) (w' : List Int) (q : Int) : Prop := ∃ g : Fr, g.1 = f.1 ∧ ¬ g.2.1 = 0 ∧ (g.2.1 < 2 → ¬ (sIA T n q ∨ sIM T n q)) ∧ g.2.2.2 = f.2.2.2 ∧ Mch T n ru w (f :: r) 0 p = Mch T n ru w' (g :: r) 1 q
def bT2 (f : Fr) (_ : Int) : Prop := sIT f.1 ∧ f.2.1 = 0 ∧ f.2.2.1 = 1 ∧ hdk 2 f
def bT (f : Fr) (_ : Int) : Prop := sIT f.1 ∧ f.2.1 = 0 ∧ f.2.2.1 = 1 ∧ hdk 1 f
def pBoth (w : List Int) (f : Fr) (r : List Fr) (p : Int) (w' : List Int) (q : Int) : Prop := pFact T n ru w f r p w' q ∧ ¬ sIO T n 21 q
def pTest (w : List Int) (f : Fr) (r : List Fr) (p : Int) (w' : List Int) (q : Int) : Prop := pFact T n ru w f r p w' q ∧ ¬ (sIO T n 21 q ∨ sIO T n 20 q)
end CC
section CD
variable {d : Nat} {R A : Nat} {mr mem m m' : zM} {T : List Int32} {n p q e ru v : Int} {t : Tk} {P : List Int → Int → Prop} {Z : Prop} {w w' w0 w1 w2 w3 : List Int}
theorem tH_1 (h : tH R A T n p P Z mr v q m) (wv : ¬ v = 0) : P (cC R A m) q ∧ p < q ∧ cRd T n q m ∧ (gi mr R 3).toInt < (gi m R 3).toInt ∧ (gi m R 3).toInt - (gi mr R 3).toInt ≤ q - p := by
  rcases h.2 with h | h
  · exact h.2
  · exact absurd h.1 wv
theorem tH_0 (h : tH R A T n p P Z mr v q m) (wv : v = 0) : Z := by
  rcases h.2 with h | h
  · omega
  · exact h.2
theorem tB_c2 (h : tB R A T n ru p mem) (F : c2 R A mem m) (k : cRd T n q m) (hs : (gi m R 3).toInt ≤ q) : tB R A T n ru q m := ⟨h.1, by rw [c2_30 h.1 F]; exact h.2.1, by rw [c2_g30 h.1 F]; exact h.2.2.1, k, hs, h.2.2.2.2.2⟩
theorem c2_R3 (hA : hRA R A) (F : fo 27 [] rdF2 mr m) : gi m R 3 = gi mr R 3 := by
  have N := hRA_n hA
  unfold gi
  rw [zfl_ea (F.1 R (by omega) rfl)]
/-- a sign taken or not, told like the others -/
theorem h_sgC {w : Int32} (hA : hRA R A) (hm : aTm aT0 mem) (hR : cRd T n p mem) (hd : 3 ≤ d) : yC zpg d 65 [.ref 27, .int w] mem (fun a m => ∃ (v : Int32) (q : Int), a = some (.int v) ∧ aTm aT0 m ∧ (fo 27 [] rdF2 mem m ∧ ((v.toInt = 1 ∧ sSgn T n w.toInt p = some q ∧ cRd T n q m) ∨ (v.toInt = 0 ∧ sSgn T n w.toInt p = none)))) := by
  refine yC_mono (fun a m h => ?_) (h_takesSign hm (cRd_t hR) hd)
  obtain ⟨h1, h2, h3⟩ := h
  rcases h3 with ⟨q, e, r, k⟩ | ⟨e, r⟩
  · exact ⟨1, q, r, h1, h2, Or.inl ⟨rfl, e, k⟩⟩
  · exact ⟨0, p, r, h1, h2, Or.inr ⟨rfl, e⟩⟩
theorem sS_1 {c : Int} (h : sSgn T n c p = some q) : sIS T n c p ∧ q = (tkf T n p).2 := by
  obtain ⟨a, b⟩ := oif_s h
  exact ⟨a, (Option.some.inj b).symm⟩
theorem sS_0 {c : Int} (h : sSgn T n c p = none) : ¬ sIS T n c p := fun w => by
  have e : sSgn T n c p = some (tkf T n p).2 := oif_t w
  rw [e] at h
  cases h
theorem sg_1 {c : Int} (h : fo 27 [] rdF2 mr m ∧ ((v = 1 ∧ sSgn T n c p = some q ∧ cRd T n q m) ∨ (v = 0 ∧ sSgn T n c p = none))) (w : ¬ v = 0) : sSgn T n c p = some q ∧ cRd T n q m := by
  rcases h.2 with h | h
  · exact h.2
  · exact absurd h.1 w
theorem sg_0 {c : Int} (h : fo 27 [] rdF2 mr m ∧ ((v = 1 ∧ sSgn T n c p = some q ∧ cRd T n q m) ∨ (v = 0 ∧ sSgn T n c p = none))) (w : v = 0) : sSgn T n c p = none := by
  rcases h.2 with h | h
  · omega
  · exact h.2
theorem opn_k {f g : Fr} {r : List Fr} (h : nnC f.2.2.2 = nnC g.2.2.2) : opn (f :: r) = opn (g :: r) := by
  show ((r.length + 1 : Nat) : Int) - 1 + (nnC f.2.2.2 + nts r) = ((r.length + 1 : Nat) : Int) - 1 + (nnC g.2.2.2 + nts r)
  rw [h]
theorem opn_c {f g : Fr} {r : List Fr} (h : f.2.2.2 = g.2.2.2) : opn (f :: r) = opn (g :: r) := opn_k (by rw [h])
theorem nnC_c {c : Int} {l : List Int} (h : ¬ c = 22) : nnC (c :: l) = nnC l := by
  show (if c = 22 then (1 : Int) else 0) + nnC l = nnC l
  rw [if_neg h]
  omega
theorem hdk_0 {k : Int} {a b c : Int} : hdk k (a, b, c, []) := fun q hq => by cases hq
theorem hdk_1 {k a b c z : Int} {l : List Int} (h : rkC z < k) : hdk k (a, b, c, z :: l) := fun q hq => by
  cases hq
  exact h
theorem hdk_m {j k : Int} {f : Fr} (h : hdk j f) (jk : j ≤ k) : hdk k f := fun q hq => by
  have := h q hq
  omega
theorem Mw {l : List Fr} {h p : Int} (e : w = w') : Mch T n ru w l h p = Mch T n ru w' l h p := by rw [e]
theorem n3_k {f : Fr} (h : ¬ sIT f.1) : N3 T n f p := fun w => absurd w.1 h
theorem sit_3 {k : Int} (h : k = 0 ∨ k = 2 ∨ k = 3 ∨ k = 4) : ¬ sIT k := by
  unfold sIT
  omega
section PR
variable {f : Fr} {r : List Fr} {q0 q1 q2 q3 : Int}
theorem gd_S {g : Fr} (hk : ¬ sIT g.1) (h : ¬ (sIA T n p ∨ sIM T n p)) : gDn T n g p := ⟨fun _ => h, fun w => absurd w hk⟩
/-- a comma behind the first of a pair -/
theorem pr_c (hq : 0 ≤ q0 ∧ q0 ≤ n) (hb : bP f p) (h : pSum T n ru w f r p w' q0) (s : sSgn T n 44 q0 = some q1) : Mch T n ru w (f :: r) 0 p = Mch T n ru w' ((4, 0, 0, f.2.2.2) :: r) 0 q1 := by
  obtain ⟨a, b⟩ := sS_1 s
  obtain ⟨b1, b2, z, b3, b4⟩ := hb
  have e := M_cm (T := T) (n := n) (ru := ru) (r := r) (w := w') (f := (f.1, f.2.1, 0, f.2.2.2)) hq (gd_S (sit_3 (Or.inr (Or.inr (Or.inl b1)))) h.2) (Or.inl b1) a (by show ∀ q, f.2.2.2.head? = some q → _; rw [b3]; intro q hq; cases hq; omega)
  have k : f.1 * 2 - 2 - (f.1 - 3) / 3 * 7 = 4 := by omega
  refine h.1.trans (e.trans ?_)
  show Mch T n ru w' ((f.1 * 2 - 2 - (f.1 - 3) / 3 * 7, 0, 0, f.2.2.2) :: r) 0 _ = _
  rw [k, b]
theorem pr_n (hq : 0 ≤ q0 ∧ q0 ≤ n) (hb : bP f p) (h : pSum T n ru w f r p w' q0) (s : sSgn T n 44 q0 = none) : Mch T n ru w (f :: r) 0 p = none := h.1.trans (M_cmn (f := (f.1, f.2.1, 0, f.2.2.2)) hq (gd_S (sit_3 (Or.inr (Or.inr (Or.inl hb.1)))) h.2) (Or.inl hb.1) (sS_0 s))
theorem pr_e (hq : 0 ≤ q2 ∧ q2 ≤ n) (hb : bP f p) (h : pSum T n ru w (4, 0, 0, f.2.2.2) r q1 w' q2) (s : sSgn T n 41 q2 = some q3) : Mch T n ru w ((4, 0, 0, f.2.2.2) :: r) 0 q1 = Mch T n ru (w' ++ opE f.2.2.2) r 1 q3 := by
  obtain ⟨a, b⟩ := sS_1 s
  obtain ⟨b1, b2, z, b3, b4⟩ := hb
  rw [b]
  exact h.1.trans (M_cl (f := (4, 0, 0, f.2.2.2)) hq (gd_S (sit_3 (Or.inr (Or.inr (Or.inr rfl)))) h.2) (Or.inr rfl) a (by show ∀ q, f.2.2.2.head? = some q → _; rw [b3]; intro q hq; cases hq; omega) rfl)
theorem pr_m (hq : 0 ≤ q2 ∧ q2 ≤ n) (h : pSum T n ru w (4, 0, 0, f.2.2.2) r q1 w' q2) (s : sSgn T n 41 q2 = none) : Mch T n ru w ((4, 0, 0, f.2.2.2) :: r) 0 q1 = none := h.1.trans (M_cln (f := (4, 0, 0, f.2.2.2)) hq (gd_S (sit_3 (Or.inr (Or.inr (Or.inr rfl)))) h.2) (Or.inr rfl) (sS_0 s))
end PR
theorem hdP {f : Fr} {p a b c : Int} (hb : bP f p) : hdk 5 (a, b, c, f.2.2.2) := by
  obtain ⟨-, -, z, b3, b4⟩ := hb
  rw [b3]
  exact hdk_1 (by omega)
/-- behind a sign that was taken -/
theorem tB_s {c : Int} {v2 q2 : Int} {m2 : zM} (hB : tB R A T n ru p mem) (k : tH R A T n p P Z mem v q m) (wv : ¬ v = 0) (s : fo 27 [] rdF2 m m2 ∧ ((v2 = 1 ∧ sSgn T n c q = some q2 ∧ cRd T n q2 m2) ∨ (v2 = 0 ∧ sSgn T n c q = none))) (w2 : ¬ v2 = 0) : tB R A T n ru q2 m2 ∧ c2 R A mem m2 ∧ q < q2 ∧ (gi m2 R 3).toInt = (gi m R 3).toInt := by
  have a := tH_1 k wv
  have b := sg_1 s w2
  have hq := cRd_p a.2.2.1
  have c := pos_S hq.1 hq.2 b.1
  have e : gi m2 R 3 = gi m R 3 := c2_R3 hB.1 s.1
  have h5 := hB.2.2.2.2.1
  have F := c2_tr k.1 (c2_fo hB.1 s.1 rfl)
  exact ⟨tB_c2 hB F b.2 (by rw [e]; omega), F, c.1, by rw [e]⟩
set_option maxRecDepth 100000 in
theorem w_paC {d : Nat} {mem : zM} {P : Option Value → zM → Prop} {R A : Nat} {T : List Int32} {n ru p o : Int} {D : Nat} {f : Fr} {r : List Fr} {x : Int32} (hm : aTm aT0 mem) (hDd : D ≤ d) (hD3 : 3 ≤ D) (hS : tC R A T n ru 104 o D (bS5 T n) (pSum T n ru)) (hx : x.toInt = o) (hB : tB R A T n ru p mem) (hA : hRA R A) (hO : opn (f :: r) = o) (hb : bP f p) (h1 : ∀ (v3 : Int32) (q4 : Int) (m1 : zM), aTm aT0 m1 → tH R A T n p (pSum T n ru (cC R A mem) f r p) (Mch T n ru (cC R A mem) (f :: r) 0 p = none) mem v3.toInt q4 m1 → (v3).toInt = 0 → aTm aT0 m1 → P (some (.int 0)) m1) (h2 : ∀ (v3 : Int32) (q4 : Int) (m1 : zM), aTm aT0 m1 → tH R A T n p (pSum T n ru (cC R A mem) f r p) (Mch T n ru (cC R A mem) (f :: r) 0 p = none) mem v3.toInt q4 m1 → ¬ (v3).toInt = 0 → ∀ (v8 : Int32) (q9 : Int) (m6 : zM), aTm aT0 m6 → (fo 27 [] rdF2 m1 m6 ∧ ((v8.toInt = 1 ∧ sSgn T n 44 q4 = some q9 ∧ cRd T n q9 m6) ∨ (v8.toInt = 0 ∧ sSgn T n 44 q4 = none))) → (v8).toInt = 0 → aTm aT0 m6 → P (some (.int 0)) m6) (h3 : ∀ (v3 : Int32) (q4 : Int) (m1 : zM), aTm aT0 m1 → tH R A T n p (pSum T n ru (cC R A mem) f r p) (Mch T n ru (cC R A mem) (f :: r) 0 p = none) mem v3.toInt q4 m1 → ¬ (v3).toInt = 0 → ∀ (v8 : Int32) (q9 : Int) (m6 : zM), aTm aT0 m6 → (fo 27 [] rdF2 m1 m6 ∧ ((v8.toInt = 1 ∧ sSgn T n 44 q4 = some q9 ∧ cRd T n q9 m6) ∨ (v8.toInt = 0 ∧ sSgn T n 44 q4 = none))) → ¬ (v8).toInt = 0 → ∀ (v13 : Int32) (q14 : Int) (m11 : zM), aTm aT0 m11 → tH R A T n q9 (pSum T n ru (cC R A m6) (4, 0, 0, f.2.2.2) r q9) (Mch T n ru (cC R A m6) ((4, 0, 0, f.2.2.2) :: r) 0 q9 = none) m6 v13.toInt q14 m11 → (v13).toInt = 0 → aTm aT0 m11 → P (some (.int 0)) m11) (h4 : ∀ (v3 : Int32) (q4 : Int) (m1 : zM), aTm aT0 m1 → tH R A T n p (pSum T n ru (cC R A mem) f r p) (Mch T n ru (cC R A mem) (f :: r) 0 p = none) mem v3.toInt q4 m1 → ¬ (v3).toInt = 0 → ∀ (v8 : Int32) (q9 : Int) (m6 : zM), aTm aT0 m6 → (fo 27 [] rdF2 m1 m6 ∧ ((v8.toInt = 1 ∧ sSgn T n 44 q4 = some q9 ∧ cRd T n q9 m6) ∨ (v8.toInt = 0 ∧ sSgn T n 44 q4 = none))) → ¬ (v8).toInt = 0 → ∀ (v13 : Int32) (q14 : Int) (m11 : zM), aTm aT0 m11 → tH R A T n q9 (pSum T n ru (cC R A m6) (4, 0, 0, f.2.2.2) r q9) (Mch T n ru (cC R A m6) ((4, 0, 0, f.2.2.2) :: r) 0 q9 = none) m6 v13.toInt q14 m11 → ¬ (v13).toInt = 0 → ∀ (v18 : Int32) (q19 : Int) (m16 : zM), aTm aT0 m16 → (fo 27 [] rdF2 m11 m16 ∧ ((v18.toInt = 1 ∧ sSgn T n 41 q14 = some q19 ∧ cRd T n q19 m16) ∨ (v18.toInt = 0 ∧ sSgn T n 41 q14 = none))) → (v18).toInt = 0 → aTm aT0 m16 → P (some (.int 0)) m16) (h5 : ∀ (v3 : Int32) (q4 : Int) (m1 : zM), aTm aT0 m1 → tH R A T n p (pSum T n ru (cC R A mem) f r p) (Mch T n ru (cC R A mem) (f :: r) 0 p = none) mem v3.toInt q4 m1 → ¬ (v3).toInt = 0 → ∀ (v8 : Int32) (q9 : Int) (m6 : zM), aTm aT0 m6 → (fo 27 [] rdF2 m1 m6 ∧ ((v8.toInt = 1 ∧ sSgn T n 44 q4 = some q9 ∧ cRd T n q9 m6) ∨ (v8.toInt = 0 ∧ sSgn T n 44 q4 = none))) → ¬ (v8).toInt = 0 → ∀ (v13 : Int32) (q14 : Int) (m11 : zM), aTm aT0 m11 → tH R A T n q9 (pSum T n ru (cC R A m6) (4, 0, 0, f.2.2.2) r q9) (Mch T n ru (cC R A m6) ((4, 0, 0, f.2.2.2) :: r) 0 q9 = none) m6 v13.toInt q14 m11 → ¬ (v13).toInt = 0 → ∀ (v18 : Int32) (q19 : Int) (m16 : zM), aTm aT0 m16 → (fo 27 [] rdF2 m11 m16 ∧ ((v18.toInt = 1 ∧ sSgn T n 41 q14 = some q19 ∧ cRd T n q19 m16) ∨ (v18.toInt = 0 ∧ sSgn T n 41 q14 = none))) → ¬ (v18).toInt = 0 → aTm aT0 m16 → P (some (.int 1)) m16) : yR zpg tX10_takesPair d (0, [(0, .ref 30), (1, .int x)], [], mem) P := by
  refine yR_m 2 (fun _ _ _ _ => rfl) ?_
  refine wR_cv rfl rfl sO_e hm rfl (hS _ _ _ p f r (by omega) hx hm hB hO ⟨by have := hb.2.1; omega, n3_k (sit_3 (Or.inr (Or.inr (Or.inl hb.1)))), hdP hb⟩) ?_
  rintro _ m1 ⟨v3, q4, rfl, hm1, k2⟩
  show yR zpg tX10_takesPair d (5, [(0, .ref 30), (1, .int x)], [.int v3], m1) _
  refine wR_if_eq rfl (a := (v3).toInt) rfl (fun q5 => ?_) (fun q5 => ?_)
  ·
    refine yR_m 1 (fun _ _ _ _ => rfl) ?_
    exact yR_rz rfl ⟨by decide, by decide⟩ (h1 v3 q4 m1 hm1 k2 q5 hm1)
  ·
    refine yR_m 1 (fun _ _ _ _ => rfl) ?_
    refine wR_gr rfl sO_e sO_0 hm1 ?_
    refine yR_m 1 (fun _ _ _ _ => rfl) ?_
    refine wR_cv rfl rfl rO_e hm1 rfl (h_sgC (R := R) (A := A) (T := T) (n := n) (p := q4) hA hm1 (tH_1 k2 (by omega)).2.2.1 (by omega)) ?_
    rintro _ m6 ⟨v8, q9, rfl, hm6, k7⟩
    show yR zpg tX10_takesPair d (17, [(0, .ref 30), (1, .int x)], [.int v8], m6) _
    refine wR_if_eq rfl (a := (v8).toInt) rfl (fun q10 => ?_) (fun q10 => ?_)
    ·
      refine yR_m 1 (fun _ _ _ _ => rfl) ?_
      exact yR_rz rfl ⟨by decide, by decide⟩ (h2 v3 q4 m1 hm1 k2 q5 v8 q9 m6 hm6 k7 q10 hm6)
    ·
      refine yR_m 2 (fun _ _ _ _ => rfl) ?_
      refine wR_cv rfl rfl sO_e hm6 rfl (hS _ _ _ q9 (4, 0, 0, f.2.2.2) r (by omega) hx hm6 (tB_s hB k2 (by omega) k7 (by omega)).1 ((opn_c (f := (4, 0, 0, f.2.2.2)) (g := f) rfl).trans hO) ⟨(by show (0 : Int) < 2; decide), n3_k (sit_3 (Or.inr (Or.inr (Or.inr rfl)))), hdP (f := f) hb⟩) ?_
      rintro _ m11 ⟨v13, q14, rfl, hm11, k12⟩
      show yR zpg tX10_takesPair d (25, [(0, .ref 30), (1, .int x)], [.int v13], m11) _
      refine wR_if_eq rfl (a := (v13).toInt) rfl (fun q15 => ?_) (fun q15 => ?_)
      ·
        refine yR_m 1 (fun _ _ _ _ => rfl) ?_
        exact yR_rz rfl ⟨by decide, by decide⟩ (h3 v3 q4 m1 hm1 k2 q5 v8 q9 m6 hm6 k7 q10 v13 q14 m11 hm11 k12 q15 hm11)
      ·
        refine yR_m 1 (fun _ _ _ _ => rfl) ?_
        refine wR_gr rfl sO_e sO_0 hm11 ?_
        refine yR_m 1 (fun _ _ _ _ => rfl) ?_
        refine wR_cv rfl rfl rO_e hm11 rfl (h_sgC (R := R) (A := A) (T := T) (n := n) (p := q14) hA hm11 (tH_1 k12 (by omega)).2.2.1 (by omega)) ?_
        rintro _ m16 ⟨v18, q19, rfl, hm16, k17⟩
        show yR zpg tX10_takesPair d (37, [(0, .ref 30), (1, .int x)], [.int v18], m16) _
        refine wR_if_eq rfl (a := (v18).toInt) rfl (fun q20 => ?_) (fun q20 => ?_)
        ·
          refine yR_m 1 (fun _ _ _ _ => rfl) ?_
          exact yR_rz rfl ⟨by decide, by decide⟩ (h4 v3 q4 m1 hm1 k2 q5 v8 q9 m6 hm6 k7 q10 v13 q14 m11 hm11 k12 q15 v18 q19 m16 hm16 k17 q20 hm16)
        ·
          refine yR_m 2 (fun _ _ _ _ => rfl) ?_
          exact yR_rz rfl ⟨by decide, by decide⟩ (h5 v3 q4 m1 hm1 k2 q5 v8 q9 m6 hm6 k7 q10 v13 q14 m11 hm11 k12 q15 v18 q19 m16 hm16 k17 q20 hm16)

theorem c_pair {o : Int} {D : Nat} (hD : 3 ≤ D) (hS : tC R A T n ru 104 o D (bS5 T n) (pSum T n ru)) : tC R A T n ru 109 o (D + 1) (bP) (pPair T n ru) := by
  intro d mem x p f r hd hx hm hB hO hb
  obtain ⟨d, rfl⟩ : ∃ q, d = q + 1 := ⟨d - 1, by omega⟩
  have hp := cRd_p hB.2.2.2.1
  have hA := hB.1
  refine yC_of (t := tX10_takesPair) rfl rfl ?_
  exact w_paC (R := R) (A := A) (T := T) (n := n) (ru := ru) (p := p) (o := o) (f := f) (r := r) hm (by omega) hD hS hx hB hA hO hb
        (fun v3 q4 m1 hm1 k2 q5 hm2 => ⟨_, p, rfl, hm2, k2.1, Or.inr ⟨rfl, tH_0 k2 (by omega)⟩⟩)
        (fun v3 q4 m1 hm1 k2 q5 v8 q9 m6 hm6 k7 q10 hm2 => ⟨_, p, rfl, hm2, c2_tr k2.1 (c2_fo hA k7.1 rfl), Or.inr ⟨rfl, pr_n (cRd_p (tH_1 k2 (by omega)).2.2.1) hb (tH_1 k2 (by omega)).1 (sg_0 k7 (by omega))⟩⟩)
        (fun v3 q4 m1 hm1 k2 q5 v8 q9 m6 hm6 k7 q10 v13 q14 m11 hm11 k12 q15 hm2 => ⟨_, p, rfl, hm2, c2_tr (tB_s hB k2 (by omega) k7 (by omega)).2.1 k12.1, Or.inr ⟨rfl, ((pr_c (cRd_p (tH_1 k2 (by omega)).2.2.1) hb (tH_1 k2 (by omega)).1 (sg_1 k7 (by omega)).1).trans (Mw (cC_fo hA k7.1).symm)).trans (tH_0 k12 (by omega))⟩⟩)
        (fun v3 q4 m1 hm1 k2 q5 v8 q9 m6 hm6 k7 q10 v13 q14 m11 hm11 k12 q15 v18 q19 m16 hm16 k17 q20 hm2 => ⟨_, p, rfl, hm2, c2_tr (tB_s hB k2 (by omega) k7 (by omega)).2.1 (c2_tr k12.1 (c2_fo hA k17.1 rfl)), Or.inr ⟨rfl, ((pr_c (cRd_p (tH_1 k2 (by omega)).2.2.1) hb (tH_1 k2 (by omega)).1 (sg_1 k7 (by omega)).1).trans (Mw (cC_fo hA k7.1).symm)).trans (pr_m (cRd_p (tH_1 k12 (by omega)).2.2.1) (tH_1 k12 (by omega)).1 (sg_0 k17 (by omega)))⟩⟩)
        (fun v3 q4 m1 hm1 k2 q5 v8 q9 m6 hm6 k7 q10 v13 q14 m11 hm11 k12 q15 v18 q19 m16 hm16 k17 q20 hm2 => by
          have t1 := tB_s hB k2 (by omega) k7 (by omega)
          have t2 := tB_s t1.1 k12 (by omega) k17 (by omega)
          have a0 := tH_1 k2 (by omega)
          have a1 := tH_1 k12 (by omega)
          have s2 := sg_1 k17 (by omega)
          exact ⟨_, _, rfl, hm2, c2_tr t1.2.1 t2.2.1, Or.inl ⟨rfl, (((pr_c (cRd_p (tH_1 k2 (by omega)).2.2.1) hb (tH_1 k2 (by omega)).1 (sg_1 k7 (by omega)).1).trans (Mw (cC_fo hA k7.1).symm)).trans (pr_e (cRd_p (tH_1 k12 (by omega)).2.2.1) hb a1.1 s2.1)).trans (Mw (by rw [cC_fo hA k17.1])), by omega, s2.2, by omega, by omega⟩⟩)
end CD
