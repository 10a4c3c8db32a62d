/-! the class's sums: a part -/
section CE
variable {d : Nat} {R A : Nat} {mr mem m m' : zM} {T : List Int32} {n p q e ru v : Int} {t : Tk} {f : Fr} {r : List Fr} {q0 q1 q2 q3 : Int} {w w' w0 w1 w2 w3 : List Int}
theorem rl_of (hA : hRA R A) : ∃ fs : List (Bool × aTy), aat aT0 R = some (.inr (7, fs)) := by
  rcases hA with ⟨rfl, -⟩ | ⟨rfl, -⟩
  · exact ⟨_, rlA_e⟩
  · exact ⟨_, rlB_e⟩
theorem cX_4 (h : cRd T n p m) (w : ¬ (gi m 27 4).toInt = 5) : ¬ (tkf T n p).1.1 = 4 := by
  rcases (cRd_t h).2.2.1 with ⟨a, b⟩ | ⟨a, b, c⟩ | ⟨a, b, c⟩ | ⟨a, b⟩ | ⟨a, b⟩
  · omega
  · omega
  · omega
  · exact absurd b w
  · omega
theorem cX_e (h : cRd T n p m) (w : ¬ (gi m 27 4).toInt = 5) (w0 : ¬ (gi m 27 4).toInt = 0) : p < (tkf T n p).2 ∧ (tkf T n p).2 ≤ n := by
  have hp := cRd_p h
  have k := tk_ok (T := T) hp.1 hp.2
  exact ⟨k.2.2.2 (fun z => w0 ((cX_0 h).2 z)), k.2.2.1⟩
theorem op_1 {o s : Int} (h : opH T n e o s mr v m) (wv : ¬ v = 0) : (¬ s = 0 ∧ o < 7) ∧ cRd T n e m := by
  rcases h.2 with h | h
  · exact h.2
  · exact absurd h.1 wv
theorem op_0 {o s : Int} (h : opH T n e o s mr v m) (wv : v = 0) : ¬ (¬ s = 0 ∧ o < 7) := by
  rcases h.2 with h | h
  · omega
  · exact h.2
theorem tk_le (h : cRd T n p m) : p ≤ (tkf T n p).2 ∧ (tkf T n p).2 ≤ n := by
  have hp := cRd_p h
  have k := tk_ok (T := T) hp.1 hp.2
  exact ⟨k.2.1, k.2.2.1⟩
theorem opn_p {k ph bg : Int} {l : List Int} (h : nnC l = 0) : opn ((k, ph, bg, l) :: bgA (f :: r)) = opn (f :: r) + 1 := by
  show (((r.length + 1) + 1 : Nat) : Int) - 1 + (nnC l + (nnC f.2.2.2 + nts r)) = ((r.length + 1 : Nat) : Int) - 1 + (nnC f.2.2.2 + nts r) + 1
  omega
theorem h_avC (hm : aTm aT0 mem) (h : cR T n p (tkf T n p).1 (tkf T n p).2 mem) (h4 : ¬ (tkf T n p).1.1 = 4) (hd : 2 ≤ d) : yC zpg d 58 [.ref 27] mem (fun a m => a = none ∧ aTm aT0 m ∧ (fo 27 [] avF mem m ∧ cRd T n (tkf T n p).2 m)) := h_adv hm h h4 hd
theorem mch_bg {k ph bg : Int} {l : List Int} (hp : 0 ≤ p ∧ p ≤ n) (hk : ¬ sIT k) : Mch T n ru w ((k, ph, bg, l) :: r) 0 p = Mch T n ru w ((k, ph, 1, l) :: r) 0 p := by
  rw [Mch_0 hp.1 hp.2, Mch_0 hp.1 hp.2, opd_C (f := (k, ph, bg, l)) (n3_k hk), opd_C (f := (k, ph, 1, l)) (n3_k hk)]
  rfl
/-- a bracket of a sum: closed, or not -/
theorem pt_c (hq : 0 ≤ q0 ∧ q0 ≤ n) (h : pSum T n ru w (2, 0, 1, []) r q1 w' q0) (s : sSgn T n 41 q0 = some q2) : Mch T n ru w ((2, 0, 1, []) :: r) 0 q1 = Mch T n ru w' r 1 q2 := by
  obtain ⟨a, b⟩ := sS_1 s
  rw [b]
  exact h.1.trans (M_cl (f := (2, 0, 0, [])) hq (gd_S (sit_3 (Or.inr (Or.inl rfl))) h.2) (Or.inl rfl) a hdk_0 (List.append_nil _).symm)
theorem pt_n (hq : 0 ≤ q0 ∧ q0 ≤ n) (h : pSum T n ru w (2, 0, 1, []) r q1 w' q0) (s : sSgn T n 41 q0 = none) : Mch T n ru w ((2, 0, 1, []) :: r) 0 q1 = none := h.1.trans (M_cln (f := (2, 0, 0, [])) hq (gd_S (sit_3 (Or.inr (Or.inl rfl))) h.2) (Or.inl rfl) (sS_0 s))
theorem gd_T {g : Fr} (h1 : ¬ g.2.1 = 0) (h2 : g.2.1 < 2 → ¬ (sIA T n p ∨ sIM T n p)) (h3 : ¬ (sIO T n 21 p ∨ sIO T n 20 p)) : gDn T n g p := ⟨h2, fun _ => ⟨h1, h3⟩⟩
/-- the comma behind the test of an if -/
theorem if_c {z : Int} (hz : rkC z = 0) (hq : 0 ≤ q0 ∧ q0 ≤ n) (h : pTest T n ru w (6, 0, 1, [z]) r q1 w' q0) (s : sSgn T n 44 q0 = some q2) : Mch T n ru w ((6, 0, 1, [z]) :: r) 0 q1 = Mch T n ru w' ((3, 0, 1, [z]) :: r) 0 q2 := by
  obtain ⟨a, b⟩ := sS_1 s
  obtain ⟨⟨g, g1, g2, g3, g5, g4⟩, h2⟩ := h
  have g5 : g.2.2.2 = [z] := g5
  have ps := pos_S hq.1 hq.2 s
  have e := M_cm (ru := ru) (r := r) (w := w') (f := g) hq (gd_T g2 g3 h2) (Or.inr g1) a (by rw [g5]; intro q hq; cases hq; omega)
  have k : g.1 * 2 - 2 - (g.1 - 3) / 3 * 7 = 3 := by
    have g1' : g.1 = 6 := g1
    omega
  rw [k, ← b, g5] at e
  exact g4.trans (e.trans (mch_bg (by omega) (sit_3 (Or.inr (Or.inr (Or.inl rfl))))))
theorem if_n {z : Int} (hq : 0 ≤ q0 ∧ q0 ≤ n) (h : pTest T n ru w (6, 0, 1, [z]) r q1 w' q0) (s : sSgn T n 44 q0 = none) : Mch T n ru w ((6, 0, 1, [z]) :: r) 0 q1 = none := by
  obtain ⟨⟨g, g1, g2, g3, g5, g4⟩, h2⟩ := h
  exact g4.trans (M_cmn (f := g) hq (gd_T g2 g3 h2) (Or.inr g1) (sS_0 s))
theorem mm_1 (hp : 0 ≤ p ∧ p ≤ n) (h : N3 T n f p) (k : sIO T n 24 p ∨ sIO T n 25 p) (s : sIS T n 40 (tkf T n p).2) (o : opn (f :: r) < 7) : Mch T n ru w (f :: r) 0 p = Mch T n ru w ((3, 0, 1, [wIx T n p]) :: bgA (f :: r)) 0 (tkf T n (tkf T n p).2).2 := M_o2 hp ((opd_C h).trans ((oD_m k).trans (oM_1 (oif_t s) o)))
theorem mm_0 (hp : 0 ≤ p ∧ p ≤ n) (h : N3 T n f p) (k : sIO T n 24 p ∨ sIO T n 25 p) (s : ¬ sIS T n 40 (tkf T n p).2 ∨ ¬ opn (f :: r) < 7) : Mch T n ru w (f :: r) 0 p = none := M_o0 hp ((opd_C h).trans ((oD_m k).trans (oM_0 (s.imp (fun z => oif_f z) id))))
theorem ii_1 (hp : 0 ≤ p ∧ p ≤ n) (h : N3 T n f p) (k : sIO T n 19 p) (s : sIS T n 40 (tkf T n p).2) (o : opn (f :: r) < 7) : Mch T n ru w (f :: r) 0 p = Mch T n ru w ((6, 0, 1, [wIx T n p]) :: bgA (f :: r)) 0 (tkf T n (tkf T n p).2).2 := M_o2 hp ((opd_C h).trans ((oD_i k).trans (oM_1 (oif_t s) o)))
theorem ii_0 (hp : 0 ≤ p ∧ p ≤ n) (h : N3 T n f p) (k : sIO T n 19 p) (s : ¬ sIS T n 40 (tkf T n p).2 ∨ ¬ opn (f :: r) < 7) : Mch T n ru w (f :: r) 0 p = none := M_o0 hp ((opd_C h).trans ((oD_i k).trans (oM_0 (s.imp (fun z => oif_f z) id))))
/-- what is printed for a value -/
theorem ad_t {x : Int32} (h0 : 0 ≤ x.toInt) (h1 : x.toInt < 26) : (10000 + x).toInt = 10000 + x.toInt := by
  have e : ((10000 : Int32)).toInt = 10000 := rfl
  rw [Int32.toInt_add, e]
  exact Int.bmod_eq_of_le (by omega) (by omega)
theorem ad_u {x : Int32} (h0 : 0 ≤ x.toInt) (h1 : x.toInt < 2000000000) : (10000 + x).toInt = 10000 + x.toInt := by
  have e : ((10000 : Int32)).toInt = 10000 := rfl
  rw [Int32.toInt_add, e]
  exact Int.bmod_eq_of_le (by omega) (by omega)
theorem wIx_X (hR : cRd T n p m) (h : (gi m 27 4).toInt = 2) : wIx T n p = (gi m 27 5).toInt := by
  have r := cX_r hR h
  exact wIx_O r.1 r.2 ((cX_O r.1 r.2 hR).1 ⟨h, rfl⟩)
theorem vIt_2 (hR : cRd T n p m) (h : (gi m 27 4).toInt = 3) : (gi m 27 5).toInt = vIt T n p := by
  have k := (cX_2 hR).1 h
  unfold vIt
  rw [if_pos k]
  rcases (cRd_t hR).2.2.1 with ⟨a, b⟩ | ⟨a, b, c⟩ | ⟨a, b, c⟩ | ⟨a, b⟩ | ⟨a, b⟩
  · omega
  · first
      | exact c
      | exact c.symm
      | omega
  · first
      | exact c
      | exact c.symm
      | omega
  · omega
  · omega
theorem vIt_O (hR : cRd T n p m) (h : (gi m 27 4).toInt = 2) : 10000 + (gi m 27 5).toInt = vIt T n p := by
  have k : ¬ (tkf T n p).1.1 = 2 := fun z => by
    have := (cX_2 hR).2 z
    omega
  unfold vIt
  rw [if_neg k, wIx_X hR h]
theorem vp_1 {x j : Int} {A0 A1 A2 A3 : List Int} (a : A3 = A2) (b : A2 = A1 ++ [x]) (c : A1 = A0) (e : x = j) : A3 = A0 ++ [j] := by rw [a, b, c, e]
theorem vp_2 {x j : Int} {A1 A2 : List Int} (b : A2 = A1 ++ [x]) (e : x = j) : A2 = A1 ++ [j] := by rw [b, e]
theorem w0r (hR : cRd T n p m) (h : (gi m 27 4).toInt = 2) (k : (gi m 27 5).toInt = 24 ∨ (gi m 27 5).toInt = 25 ∨ (gi m 27 5).toInt = 19) : rkC (wIx T n p) = 0 := by
  rw [wIx_X hR h]
  rcases k with k | k | k <;> (rw [k]; rfl)
theorem w0n (hR : cRd T n p m) (h : (gi m 27 4).toInt = 2) (k : (gi m 27 5).toInt = 24 ∨ (gi m 27 5).toInt = 25 ∨ (gi m 27 5).toInt = 19) : nnC [wIx T n p] = 0 := by
  rw [wIx_X hR h]
  rcases k with k | k | k <;> (rw [k]; rfl)
theorem pp_1 {z : Int} (k : Mch T n ru w ((3, 0, 1, [z]) :: bgA (f :: r)) 0 q0 = Mch T n ru (w' ++ opE [z]) (bgA (f :: r)) 1 q1) (e : w2 = w' ++ [10000 + z]) : Mch T n ru w ((3, 0, 1, [z]) :: bgA (f :: r)) 0 q0 = Mch T n ru w2 (bgA (f :: r)) 1 q1 := by
  rw [e]
  exact k
theorem iv_V {w : Int} (h : ivV ru w) (k : sIO T n w p) : sIV T n ru p := by
  rcases h with rfl | rfl | rfl | rfl | ⟨rfl, h⟩ | ⟨rfl, h⟩
  · exact Or.inr (Or.inr (Or.inl k))
  · exact Or.inr (Or.inr (Or.inr (Or.inl k)))
  · exact Or.inr (Or.inl k)
  · exact Or.inr (Or.inr (Or.inr (Or.inr (Or.inl k))))
  · exact Or.inr (Or.inr (Or.inr (Or.inr (Or.inr (Or.inl ⟨k, h⟩)))))
  · exact Or.inr (Or.inr (Or.inr (Or.inr (Or.inr (Or.inr ⟨k, h⟩)))))
/-- no value: neither number nor word of a value -/
theorem nv_V (hR : cRd T n p m) (h2 : ¬ (gi m 27 4).toInt = 3) (h : (gi m 27 4).toInt = 2 → ¬ ivV ru (gi m 27 5).toInt) : ¬ sIV T n ru p := fun w => by
  have key : ∀ {b : Int}, 0 ≤ b → b < 26 → sIO T n b p → (ivV ru b) → False := fun h0 h1 k z => by
    have c := (cX_O h0 h1 hR).2 k
    exact h c.1 (by rw [c.2]; exact z)
  rcases w with w | w | w | w | w | w | w
  · exact h2 ((cX_2 hR).2 w)
  · exact key (by decide) (by decide) w (Or.inr (Or.inr (Or.inl rfl)))
  · exact key (by decide) (by decide) w (Or.inl rfl)
  · exact key (by decide) (by decide) w (Or.inr (Or.inl rfl))
  · exact key (by decide) (by decide) w (Or.inr (Or.inr (Or.inr (Or.inl rfl))))
  · exact key (by decide) (by decide) w.1 (Or.inr (Or.inr (Or.inr (Or.inr (Or.inl ⟨rfl, w.2⟩)))))
  · exact key (by decide) (by decide) w.1 (Or.inr (Or.inr (Or.inr (Or.inr (Or.inr ⟨rfl, w.2⟩)))))
set_option maxRecDepth 100000 in
theorem w_ptC {d : Nat} {mem : zM} {P : Option Value → zM → Prop} {R A : Nat} {T : List Int32} {n ru p o : Int} {D : Nat} {f : Fr} {r : List Fr} {fs : List (Bool × aTy)} {x : Int32} (hm : aTm aT0 mem) (hDd : D ≤ d + 1) (hD3 : 4 ≤ D) (hA : hRA R A) (hRo_e : aat aT0 R = some (.inr (7, fs))) (hr : zfl mem 30 1 = some (.ref R)) (hru : (gi mem 30 2).toInt = ru) (hR : cRd T n p mem) (hS : o < 7 → tC R A T n ru 104 (o + 1) D (bS5 T n) (pSum T n ru)) (hP : o < 7 → tC R A T n ru 109 (o + 1) D (bP) (pPair T n ru)) (hT : o < 7 → tC R A T n ru 100 (o + 1) D (bT) (pTest T n ru)) (hx : x.toInt = o) (hB : tB R A T n ru p mem) (hO : opn (f :: r) = o) (hb : bS T n f p) (x1 : x.toInt < 7 → (x + 1).toInt = o + 1) (h1 : ¬ (gi mem 27 4).toInt = 3 → ¬ (gi mem 27 4).toInt = 4 → ¬ (gi mem 27 4).toInt = 2 → ∀ (v4 : Int32), ((v4.toInt = 0 ∧ ¬ ivV ru ((-1) : Int)) ∨ (v4.toInt = 1 ∧ ivV ru ((-1) : Int))) → (v4).toInt = 0 → aTm aT0 (si (si mem 27 10 1) 27 11 (gi mem 27 7)) → P (some (.int 0)) (si (si mem 27 10 1) 27 11 (gi mem 27 7))) (s1 : ¬ (gi mem 27 4).toInt = 3 → ¬ (gi mem 27 4).toInt = 4 → ¬ (gi mem 27 4).toInt = 2 → ∀ (v4 : Int32), ((v4.toInt = 0 ∧ ¬ ivV ru ((-1) : Int)) ∨ (v4.toInt = 1 ∧ ivV ru ((-1) : Int))) → ¬ (v4).toInt = 0 → ¬ (tkf T n p).1.1 = 4) (h2 : ¬ (gi mem 27 4).toInt = 3 → ¬ (gi mem 27 4).toInt = 4 → ¬ (gi mem 27 4).toInt = 2 → ∀ (v4 : Int32), ((v4.toInt = 0 ∧ ¬ ivV ru ((-1) : Int)) ∨ (v4.toInt = 1 ∧ ivV ru ((-1) : Int))) → ¬ (v4).toInt = 0 → ∀ (m7 : zM), aTm aT0 m7 → (fo 27 [] avF mem m7 ∧ cRd T n (tkf T n p).2 m7) → ∀ (v11 : Int32) (m9 : zM), aTm aT0 m9 → (puQ R A ((10000 + (-1) : Int32)).toInt m7 m9 ∧ v11.toInt = 1) → aTm aT0 m9 → P (some (.int v11)) m9) (s2 : ¬ (gi mem 27 4).toInt = 3 → ¬ (gi mem 27 4).toInt = 4 → (gi mem 27 4).toInt = 2 → ∀ (v12 : Int32), ((v12.toInt = 0 ∧ ¬ ivV ru (gi mem 27 5).toInt) ∨ (v12.toInt = 1 ∧ ivV ru (gi mem 27 5).toInt)) → (v12).toInt = 0 → (gi mem 27 5).toInt = 24 → ¬ (tkf T n p).1.1 = 4) (s3 : ¬ (gi mem 27 4).toInt = 3 → ¬ (gi mem 27 4).toInt = 4 → (gi mem 27 4).toInt = 2 → ∀ (v12 : Int32), ((v12.toInt = 0 ∧ ¬ ivV ru (gi mem 27 5).toInt) ∨ (v12.toInt = 1 ∧ ivV ru (gi mem 27 5).toInt)) → (v12).toInt = 0 → (gi mem 27 5).toInt = 24 → ∀ (m16 : zM), aTm aT0 m16 → (fo 27 [] avF mem m16 ∧ cRd T n (tkf T n p).2 m16) → ¬ (gi m16 27 4).toInt = 4 → ¬ (0 : Int) = 0 → ¬ (tkf T n (tkf T n p).2).1.1 = 4) (h3 : ¬ (gi mem 27 4).toInt = 3 → ¬ (gi mem 27 4).toInt = 4 → (gi mem 27 4).toInt = 2 → ∀ (v12 : Int32), ((v12.toInt = 0 ∧ ¬ ivV ru (gi mem 27 5).toInt) ∨ (v12.toInt = 1 ∧ ivV ru (gi mem 27 5).toInt)) → (v12).toInt = 0 → (gi mem 27 5).toInt = 24 → ∀ (m16 : zM), aTm aT0 m16 → (fo 27 [] avF mem m16 ∧ cRd T n (tkf T n p).2 m16) → ¬ (gi m16 27 4).toInt = 4 → ∀ (v21 : Int32) (m19 : zM), aTm aT0 m19 → opH T n (tkf T n (tkf T n p).2).2 x.toInt 0 m16 v21.toInt m19 → (v21).toInt = 0 → aTm aT0 m19 → P (some (.int 0)) m19) (s4 : ¬ (gi mem 27 4).toInt = 3 → ¬ (gi mem 27 4).toInt = 4 → (gi mem 27 4).toInt = 2 → ∀ (v12 : Int32), ((v12.toInt = 0 ∧ ¬ ivV ru (gi mem 27 5).toInt) ∨ (v12.toInt = 1 ∧ ivV ru (gi mem 27 5).toInt)) → (v12).toInt = 0 → (gi mem 27 5).toInt = 24 → ∀ (m16 : zM), aTm aT0 m16 → (fo 27 [] avF mem m16 ∧ cRd T n (tkf T n p).2 m16) → ¬ (gi m16 27 4).toInt = 4 → ∀ (v21 : Int32) (m19 : zM), aTm aT0 m19 → opH T n (tkf T n (tkf T n p).2).2 x.toInt 0 m16 v21.toInt m19 → ¬ (v21).toInt = 0 → (gi m19 R 3).toInt ≤ (tkf T n (tkf T n p).2).2) (h4 : ¬ (gi mem 27 4).toInt = 3 → ¬ (gi mem 27 4).toInt = 4 → (gi mem 27 4).toInt = 2 → ∀ (v12 : Int32), ((v12.toInt = 0 ∧ ¬ ivV ru (gi mem 27 5).toInt) ∨ (v12.toInt = 1 ∧ ivV ru (gi mem 27 5).toInt)) → (v12).toInt = 0 → (gi mem 27 5).toInt = 24 → ∀ (m16 : zM), aTm aT0 m16 → (fo 27 [] avF mem m16 ∧ cRd T n (tkf T n p).2 m16) → ¬ (gi m16 27 4).toInt = 4 → ∀ (v21 : Int32) (m19 : zM), aTm aT0 m19 → opH T n (tkf T n (tkf T n p).2).2 x.toInt 0 m16 v21.toInt m19 → ¬ (v21).toInt = 0 → ∀ (v25 : Int32) (q26 : Int) (m23 : zM), aTm aT0 m23 → tH R A T n (tkf T n (tkf T n p).2).2 (pPair T n ru (cC R A m19) (3, 0, 1, [wIx T n p]) (bgA (f :: r)) (tkf T n (tkf T n p).2).2) (Mch T n ru (cC R A m19) ((3, 0, 1, [wIx T n p]) :: bgA (f :: r)) 0 (tkf T n (tkf T n p).2).2 = none) m19 v25.toInt q26 m23 → (v25).toInt = 0 → aTm aT0 m23 → P (some (.int 0)) m23) (h5 : ¬ (gi mem 27 4).toInt = 3 → ¬ (gi mem 27 4).toInt = 4 → (gi mem 27 4).toInt = 2 → ∀ (v12 : Int32), ((v12.toInt = 0 ∧ ¬ ivV ru (gi mem 27 5).toInt) ∨ (v12.toInt = 1 ∧ ivV ru (gi mem 27 5).toInt)) → (v12).toInt = 0 → (gi mem 27 5).toInt = 24 → ∀ (m16 : zM), aTm aT0 m16 → (fo 27 [] avF mem m16 ∧ cRd T n (tkf T n p).2 m16) → ¬ (gi m16 27 4).toInt = 4 → ∀ (v21 : Int32) (m19 : zM), aTm aT0 m19 → opH T n (tkf T n (tkf T n p).2).2 x.toInt 0 m16 v21.toInt m19 → ¬ (v21).toInt = 0 → ∀ (v25 : Int32) (q26 : Int) (m23 : zM), aTm aT0 m23 → tH R A T n (tkf T n (tkf T n p).2).2 (pPair T n ru (cC R A m19) (3, 0, 1, [wIx T n p]) (bgA (f :: r)) (tkf T n (tkf T n p).2).2) (Mch T n ru (cC R A m19) ((3, 0, 1, [wIx T n p]) :: bgA (f :: r)) 0 (tkf T n (tkf T n p).2).2 = none) m19 v25.toInt q26 m23 → ¬ (v25).toInt = 0 → ∀ (v30 : Int32) (m28 : zM), aTm aT0 m28 → (puQ R A (10000 + (gi mem 27 5)).toInt m23 m28 ∧ v30.toInt = 1) → (v30).toInt = 0 → aTm aT0 m28 → P (some (.int 0)) m28) (h6 : ¬ (gi mem 27 4).toInt = 3 → ¬ (gi mem 27 4).toInt = 4 → (gi mem 27 4).toInt = 2 → ∀ (v12 : Int32), ((v12.toInt = 0 ∧ ¬ ivV ru (gi mem 27 5).toInt) ∨ (v12.toInt = 1 ∧ ivV ru (gi mem 27 5).toInt)) → (v12).toInt = 0 → (gi mem 27 5).toInt = 24 → ∀ (m16 : zM), aTm aT0 m16 → (fo 27 [] avF mem m16 ∧ cRd T n (tkf T n p).2 m16) → ¬ (gi m16 27 4).toInt = 4 → ∀ (v21 : Int32) (m19 : zM), aTm aT0 m19 → opH T n (tkf T n (tkf T n p).2).2 x.toInt 0 m16 v21.toInt m19 → ¬ (v21).toInt = 0 → ∀ (v25 : Int32) (q26 : Int) (m23 : zM), aTm aT0 m23 → tH R A T n (tkf T n (tkf T n p).2).2 (pPair T n ru (cC R A m19) (3, 0, 1, [wIx T n p]) (bgA (f :: r)) (tkf T n (tkf T n p).2).2) (Mch T n ru (cC R A m19) ((3, 0, 1, [wIx T n p]) :: bgA (f :: r)) 0 (tkf T n (tkf T n p).2).2 = none) m19 v25.toInt q26 m23 → ¬ (v25).toInt = 0 → ∀ (v30 : Int32) (m28 : zM), aTm aT0 m28 → (puQ R A (10000 + (gi mem 27 5)).toInt m23 m28 ∧ v30.toInt = 1) → ¬ (v30).toInt = 0 → aTm aT0 m28 → P (some (.int 1)) m28) (s5 : ¬ (gi mem 27 4).toInt = 3 → ¬ (gi mem 27 4).toInt = 4 → (gi mem 27 4).toInt = 2 → ∀ (v12 : Int32), ((v12.toInt = 0 ∧ ¬ ivV ru (gi mem 27 5).toInt) ∨ (v12.toInt = 1 ∧ ivV ru (gi mem 27 5).toInt)) → (v12).toInt = 0 → (gi mem 27 5).toInt = 24 → ∀ (m16 : zM), aTm aT0 m16 → (fo 27 [] avF mem m16 ∧ cRd T n (tkf T n p).2 m16) → (gi m16 27 4).toInt = 4 → ¬ (gi m16 27 5).toInt = 40 → ¬ (0 : Int) = 0 → ¬ (tkf T n (tkf T n p).2).1.1 = 4) (h7 : ¬ (gi mem 27 4).toInt = 3 → ¬ (gi mem 27 4).toInt = 4 → (gi mem 27 4).toInt = 2 → ∀ (v12 : Int32), ((v12.toInt = 0 ∧ ¬ ivV ru (gi mem 27 5).toInt) ∨ (v12.toInt = 1 ∧ ivV ru (gi mem 27 5).toInt)) → (v12).toInt = 0 → (gi mem 27 5).toInt = 24 → ∀ (m16 : zM), aTm aT0 m16 → (fo 27 [] avF mem m16 ∧ cRd T n (tkf T n p).2 m16) → (gi m16 27 4).toInt = 4 → ¬ (gi m16 27 5).toInt = 40 → ∀ (v35 : Int32) (m33 : zM), aTm aT0 m33 → opH T n (tkf T n (tkf T n p).2).2 x.toInt 0 m16 v35.toInt m33 → (v35).toInt = 0 → aTm aT0 m33 → P (some (.int 0)) m33) (s6 : ¬ (gi mem 27 4).toInt = 3 → ¬ (gi mem 27 4).toInt = 4 → (gi mem 27 4).toInt = 2 → ∀ (v12 : Int32), ((v12.toInt = 0 ∧ ¬ ivV ru (gi mem 27 5).toInt) ∨ (v12.toInt = 1 ∧ ivV ru (gi mem 27 5).toInt)) → (v12).toInt = 0 → (gi mem 27 5).toInt = 24 → ∀ (m16 : zM), aTm aT0 m16 → (fo 27 [] avF mem m16 ∧ cRd T n (tkf T n p).2 m16) → (gi m16 27 4).toInt = 4 → ¬ (gi m16 27 5).toInt = 40 → ∀ (v35 : Int32) (m33 : zM), aTm aT0 m33 → opH T n (tkf T n (tkf T n p).2).2 x.toInt 0 m16 v35.toInt m33 → ¬ (v35).toInt = 0 → (gi m33 R 3).toInt ≤ (tkf T n (tkf T n p).2).2) (h8 : ¬ (gi mem 27 4).toInt = 3 → ¬ (gi mem 27 4).toInt = 4 → (gi mem 27 4).toInt = 2 → ∀ (v12 : Int32), ((v12.toInt = 0 ∧ ¬ ivV ru (gi mem 27 5).toInt) ∨ (v12.toInt = 1 ∧ ivV ru (gi mem 27 5).toInt)) → (v12).toInt = 0 → (gi mem 27 5).toInt = 24 → ∀ (m16 : zM), aTm aT0 m16 → (fo 27 [] avF mem m16 ∧ cRd T n (tkf T n p).2 m16) → (gi m16 27 4).toInt = 4 → ¬ (gi m16 27 5).toInt = 40 → ∀ (v35 : Int32) (m33 : zM), aTm aT0 m33 → opH T n (tkf T n (tkf T n p).2).2 x.toInt 0 m16 v35.toInt m33 → ¬ (v35).toInt = 0 → ∀ (v39 : Int32) (q40 : Int) (m37 : zM), aTm aT0 m37 → tH R A T n (tkf T n (tkf T n p).2).2 (pPair T n ru (cC R A m33) (3, 0, 1, [wIx T n p]) (bgA (f :: r)) (tkf T n (tkf T n p).2).2) (Mch T n ru (cC R A m33) ((3, 0, 1, [wIx T n p]) :: bgA (f :: r)) 0 (tkf T n (tkf T n p).2).2 = none) m33 v39.toInt q40 m37 → (v39).toInt = 0 → aTm aT0 m37 → P (some (.int 0)) m37) (h9 : ¬ (gi mem 27 4).toInt = 3 → ¬ (gi mem 27 4).toInt = 4 → (gi mem 27 4).toInt = 2 → ∀ (v12 : Int32), ((v12.toInt = 0 ∧ ¬ ivV ru (gi mem 27 5).toInt) ∨ (v12.toInt = 1 ∧ ivV ru (gi mem 27 5).toInt)) → (v12).toInt = 0 → (gi mem 27 5).toInt = 24 → ∀ (m16 : zM), aTm aT0 m16 → (fo 27 [] avF mem m16 ∧ cRd T n (tkf T n p).2 m16) → (gi m16 27 4).toInt = 4 → ¬ (gi m16 27 5).toInt = 40 → ∀ (v35 : Int32) (m33 : zM), aTm aT0 m33 → opH T n (tkf T n (tkf T n p).2).2 x.toInt 0 m16 v35.toInt m33 → ¬ (v35).toInt = 0 → ∀ (v39 : Int32) (q40 : Int) (m37 : zM), aTm aT0 m37 → tH R A T n (tkf T n (tkf T n p).2).2 (pPair T n ru (cC R A m33) (3, 0, 1, [wIx T n p]) (bgA (f :: r)) (tkf T n (tkf T n p).2).2) (Mch T n ru (cC R A m33) ((3, 0, 1, [wIx T n p]) :: bgA (f :: r)) 0 (tkf T n (tkf T n p).2).2 = none) m33 v39.toInt q40 m37 → ¬ (v39).toInt = 0 → ∀ (v44 : Int32) (m42 : zM), aTm aT0 m42 → (puQ R A (10000 + (gi mem 27 5)).toInt m37 m42 ∧ v44.toInt = 1) → (v44).toInt = 0 → aTm aT0 m42 → P (some (.int 0)) m42) (h10 : ¬ (gi mem 27 4).toInt = 3 → ¬ (gi mem 27 4).toInt = 4 → (gi mem 27 4).toInt = 2 → ∀ (v12 : Int32), ((v12.toInt = 0 ∧ ¬ ivV ru (gi mem 27 5).toInt) ∨ (v12.toInt = 1 ∧ ivV ru (gi mem 27 5).toInt)) → (v12).toInt = 0 → (gi mem 27 5).toInt = 24 → ∀ (m16 : zM), aTm aT0 m16 → (fo 27 [] avF mem m16 ∧ cRd T n (tkf T n p).2 m16) → (gi m16 27 4).toInt = 4 → ¬ (gi m16 27 5).toInt = 40 → ∀ (v35 : Int32) (m33 : zM), aTm aT0 m33 → opH T n (tkf T n (tkf T n p).2).2 x.toInt 0 m16 v35.toInt m33 → ¬ (v35).toInt = 0 → ∀ (v39 : Int32) (q40 : Int) (m37 : zM), aTm aT0 m37 → tH R A T n (tkf T n (tkf T n p).2).2 (pPair T n ru (cC R A m33) (3, 0, 1, [wIx T n p]) (bgA (f :: r)) (tkf T n (tkf T n p).2).2) (Mch T n ru (cC R A m33) ((3, 0, 1, [wIx T n p]) :: bgA (f :: r)) 0 (tkf T n (tkf T n p).2).2 = none) m33 v39.toInt q40 m37 → ¬ (v39).toInt = 0 → ∀ (v44 : Int32) (m42 : zM), aTm aT0 m42 → (puQ R A (10000 + (gi mem 27 5)).toInt m37 m42 ∧ v44.toInt = 1) → ¬ (v44).toInt = 0 → aTm aT0 m42 → P (some (.int 1)) m42) (s7 : ¬ (gi mem 27 4).toInt = 3 → ¬ (gi mem 27 4).toInt = 4 → (gi mem 27 4).toInt = 2 → ∀ (v12 : Int32), ((v12.toInt = 0 ∧ ¬ ivV ru (gi mem 27 5).toInt) ∨ (v12.toInt = 1 ∧ ivV ru (gi mem 27 5).toInt)) → (v12).toInt = 0 → (gi mem 27 5).toInt = 24 → ∀ (m16 : zM), aTm aT0 m16 → (fo 27 [] avF mem m16 ∧ cRd T n (tkf T n p).2 m16) → (gi m16 27 4).toInt = 4 → (gi m16 27 5).toInt = 40 → ¬ (1 : Int) = 0 → ¬ (tkf T n (tkf T n p).2).1.1 = 4) (h11 : ¬ (gi mem 27 4).toInt = 3 → ¬ (gi mem 27 4).toInt = 4 → (gi mem 27 4).toInt = 2 → ∀ (v12 : Int32), ((v12.toInt = 0 ∧ ¬ ivV ru (gi mem 27 5).toInt) ∨ (v12.toInt = 1 ∧ ivV ru (gi mem 27 5).toInt)) → (v12).toInt = 0 → (gi mem 27 5).toInt = 24 → ∀ (m16 : zM), aTm aT0 m16 → (fo 27 [] avF mem m16 ∧ cRd T n (tkf T n p).2 m16) → (gi m16 27 4).toInt = 4 → (gi m16 27 5).toInt = 40 → ∀ (v48 : Int32) (m46 : zM), aTm aT0 m46 → opH T n (tkf T n (tkf T n p).2).2 x.toInt 1 m16 v48.toInt m46 → (v48).toInt = 0 → aTm aT0 m46 → P (some (.int 0)) m46) (s8 : ¬ (gi mem 27 4).toInt = 3 → ¬ (gi mem 27 4).toInt = 4 → (gi mem 27 4).toInt = 2 → ∀ (v12 : Int32), ((v12.toInt = 0 ∧ ¬ ivV ru (gi mem 27 5).toInt) ∨ (v12.toInt = 1 ∧ ivV ru (gi mem 27 5).toInt)) → (v12).toInt = 0 → (gi mem 27 5).toInt = 24 → ∀ (m16 : zM), aTm aT0 m16 → (fo 27 [] avF mem m16 ∧ cRd T n (tkf T n p).2 m16) → (gi m16 27 4).toInt = 4 → (gi m16 27 5).toInt = 40 → ∀ (v48 : Int32) (m46 : zM), aTm aT0 m46 → opH T n (tkf T n (tkf T n p).2).2 x.toInt 1 m16 v48.toInt m46 → ¬ (v48).toInt = 0 → (gi m46 R 3).toInt ≤ (tkf T n (tkf T n p).2).2) (h12 : ¬ (gi mem 27 4).toInt = 3 → ¬ (gi mem 27 4).toInt = 4 → (gi mem 27 4).toInt = 2 → ∀ (v12 : Int32), ((v12.toInt = 0 ∧ ¬ ivV ru (gi mem 27 5).toInt) ∨ (v12.toInt = 1 ∧ ivV ru (gi mem 27 5).toInt)) → (v12).toInt = 0 → (gi mem 27 5).toInt = 24 → ∀ (m16 : zM), aTm aT0 m16 → (fo 27 [] avF mem m16 ∧ cRd T n (tkf T n p).2 m16) → (gi m16 27 4).toInt = 4 → (gi m16 27 5).toInt = 40 → ∀ (v48 : Int32) (m46 : zM), aTm aT0 m46 → opH T n (tkf T n (tkf T n p).2).2 x.toInt 1 m16 v48.toInt m46 → ¬ (v48).toInt = 0 → ∀ (v52 : Int32) (q53 : Int) (m50 : zM), aTm aT0 m50 → tH R A T n (tkf T n (tkf T n p).2).2 (pPair T n ru (cC R A m46) (3, 0, 1, [wIx T n p]) (bgA (f :: r)) (tkf T n (tkf T n p).2).2) (Mch T n ru (cC R A m46) ((3, 0, 1, [wIx T n p]) :: bgA (f :: r)) 0 (tkf T n (tkf T n p).2).2 = none) m46 v52.toInt q53 m50 → (v52).toInt = 0 → aTm aT0 m50 → P (some (.int 0)) m50) (h13 : ¬ (gi mem 27 4).toInt = 3 → ¬ (gi mem 27 4).toInt = 4 → (gi mem 27 4).toInt = 2 → ∀ (v12 : Int32), ((v12.toInt = 0 ∧ ¬ ivV ru (gi mem 27 5).toInt) ∨ (v12.toInt = 1 ∧ ivV ru (gi mem 27 5).toInt)) → (v12).toInt = 0 → (gi mem 27 5).toInt = 24 → ∀ (m16 : zM), aTm aT0 m16 → (fo 27 [] avF mem m16 ∧ cRd T n (tkf T n p).2 m16) → (gi m16 27 4).toInt = 4 → (gi m16 27 5).toInt = 40 → ∀ (v48 : Int32) (m46 : zM), aTm aT0 m46 → opH T n (tkf T n (tkf T n p).2).2 x.toInt 1 m16 v48.toInt m46 → ¬ (v48).toInt = 0 → ∀ (v52 : Int32) (q53 : Int) (m50 : zM), aTm aT0 m50 → tH R A T n (tkf T n (tkf T n p).2).2 (pPair T n ru (cC R A m46) (3, 0, 1, [wIx T n p]) (bgA (f :: r)) (tkf T n (tkf T n p).2).2) (Mch T n ru (cC R A m46) ((3, 0, 1, [wIx T n p]) :: bgA (f :: r)) 0 (tkf T n (tkf T n p).2).2 = none) m46 v52.toInt q53 m50 → ¬ (v52).toInt = 0 → ∀ (v57 : Int32) (m55 : zM), aTm aT0 m55 → (puQ R A (10000 + (gi mem 27 5)).toInt m50 m55 ∧ v57.toInt = 1) → (v57).toInt = 0 → aTm aT0 m55 → P (some (.int 0)) m55) (h14 : ¬ (gi mem 27 4).toInt = 3 → ¬ (gi mem 27 4).toInt = 4 → (gi mem 27 4).toInt = 2 → ∀ (v12 : Int32), ((v12.toInt = 0 ∧ ¬ ivV ru (gi mem 27 5).toInt) ∨ (v12.toInt = 1 ∧ ivV ru (gi mem 27 5).toInt)) → (v12).toInt = 0 → (gi mem 27 5).toInt = 24 → ∀ (m16 : zM), aTm aT0 m16 → (fo 27 [] avF mem m16 ∧ cRd T n (tkf T n p).2 m16) → (gi m16 27 4).toInt = 4 → (gi m16 27 5).toInt = 40 → ∀ (v48 : Int32) (m46 : zM), aTm aT0 m46 → opH T n (tkf T n (tkf T n p).2).2 x.toInt 1 m16 v48.toInt m46 → ¬ (v48).toInt = 0 → ∀ (v52 : Int32) (q53 : Int) (m50 : zM), aTm aT0 m50 → tH R A T n (tkf T n (tkf T n p).2).2 (pPair T n ru (cC R A m46) (3, 0, 1, [wIx T n p]) (bgA (f :: r)) (tkf T n (tkf T n p).2).2) (Mch T n ru (cC R A m46) ((3, 0, 1, [wIx T n p]) :: bgA (f :: r)) 0 (tkf T n (tkf T n p).2).2 = none) m46 v52.toInt q53 m50 → ¬ (v52).toInt = 0 → ∀ (v57 : Int32) (m55 : zM), aTm aT0 m55 → (puQ R A (10000 + (gi mem 27 5)).toInt m50 m55 ∧ v57.toInt = 1) → ¬ (v57).toInt = 0 → aTm aT0 m55 → P (some (.int 1)) m55) (h15 : ¬ (gi mem 27 4).toInt = 3 → ¬ (gi mem 27 4).toInt = 4 → (gi mem 27 4).toInt = 2 → ∀ (v12 : Int32), ((v12.toInt = 0 ∧ ¬ ivV ru (gi mem 27 5).toInt) ∨ (v12.toInt = 1 ∧ ivV ru (gi mem 27 5).toInt)) → (v12).toInt = 0 → ¬ (gi mem 27 5).toInt = 24 → ¬ (gi mem 27 5).toInt = 25 → ¬ (gi mem 27 5).toInt = 19 → aTm aT0 (si (si mem 27 10 1) 27 11 (gi mem 27 7)) → P (some (.int 0)) (si (si mem 27 10 1) 27 11 (gi mem 27 7))) (s9 : ¬ (gi mem 27 4).toInt = 3 → ¬ (gi mem 27 4).toInt = 4 → (gi mem 27 4).toInt = 2 → ∀ (v12 : Int32), ((v12.toInt = 0 ∧ ¬ ivV ru (gi mem 27 5).toInt) ∨ (v12.toInt = 1 ∧ ivV ru (gi mem 27 5).toInt)) → (v12).toInt = 0 → ¬ (gi mem 27 5).toInt = 24 → ¬ (gi mem 27 5).toInt = 25 → (gi mem 27 5).toInt = 19 → ¬ (tkf T n p).1.1 = 4) (s10 : ¬ (gi mem 27 4).toInt = 3 → ¬ (gi mem 27 4).toInt = 4 → (gi mem 27 4).toInt = 2 → ∀ (v12 : Int32), ((v12.toInt = 0 ∧ ¬ ivV ru (gi mem 27 5).toInt) ∨ (v12.toInt = 1 ∧ ivV ru (gi mem 27 5).toInt)) → (v12).toInt = 0 → ¬ (gi mem 27 5).toInt = 24 → ¬ (gi mem 27 5).toInt = 25 → (gi mem 27 5).toInt = 19 → ∀ (m61 : zM), aTm aT0 m61 → (fo 27 [] avF mem m61 ∧ cRd T n (tkf T n p).2 m61) → ¬ (gi m61 27 4).toInt = 4 → ¬ (0 : Int) = 0 → ¬ (tkf T n (tkf T n p).2).1.1 = 4) (h16 : ¬ (gi mem 27 4).toInt = 3 → ¬ (gi mem 27 4).toInt = 4 → (gi mem 27 4).toInt = 2 → ∀ (v12 : Int32), ((v12.toInt = 0 ∧ ¬ ivV ru (gi mem 27 5).toInt) ∨ (v12.toInt = 1 ∧ ivV ru (gi mem 27 5).toInt)) → (v12).toInt = 0 → ¬ (gi mem 27 5).toInt = 24 → ¬ (gi mem 27 5).toInt = 25 → (gi mem 27 5).toInt = 19 → ∀ (m61 : zM), aTm aT0 m61 → (fo 27 [] avF mem m61 ∧ cRd T n (tkf T n p).2 m61) → ¬ (gi m61 27 4).toInt = 4 → ∀ (v66 : Int32) (m64 : zM), aTm aT0 m64 → opH T n (tkf T n (tkf T n p).2).2 x.toInt 0 m61 v66.toInt m64 → (v66).toInt = 0 → aTm aT0 m64 → P (some (.int 0)) m64) (s11 : ¬ (gi mem 27 4).toInt = 3 → ¬ (gi mem 27 4).toInt = 4 → (gi mem 27 4).toInt = 2 → ∀ (v12 : Int32), ((v12.toInt = 0 ∧ ¬ ivV ru (gi mem 27 5).toInt) ∨ (v12.toInt = 1 ∧ ivV ru (gi mem 27 5).toInt)) → (v12).toInt = 0 → ¬ (gi mem 27 5).toInt = 24 → ¬ (gi mem 27 5).toInt = 25 → (gi mem 27 5).toInt = 19 → ∀ (m61 : zM), aTm aT0 m61 → (fo 27 [] avF mem m61 ∧ cRd T n (tkf T n p).2 m61) → ¬ (gi m61 27 4).toInt = 4 → ∀ (v66 : Int32) (m64 : zM), aTm aT0 m64 → opH T n (tkf T n (tkf T n p).2).2 x.toInt 0 m61 v66.toInt m64 → ¬ (v66).toInt = 0 → (gi m64 R 3).toInt ≤ (tkf T n (tkf T n p).2).2) (h17 : ¬ (gi mem 27 4).toInt = 3 → ¬ (gi mem 27 4).toInt = 4 → (gi mem 27 4).toInt = 2 → ∀ (v12 : Int32), ((v12.toInt = 0 ∧ ¬ ivV ru (gi mem 27 5).toInt) ∨ (v12.toInt = 1 ∧ ivV ru (gi mem 27 5).toInt)) → (v12).toInt = 0 → ¬ (gi mem 27 5).toInt = 24 → ¬ (gi mem 27 5).toInt = 25 → (gi mem 27 5).toInt = 19 → ∀ (m61 : zM), aTm aT0 m61 → (fo 27 [] avF mem m61 ∧ cRd T n (tkf T n p).2 m61) → ¬ (gi m61 27 4).toInt = 4 → ∀ (v66 : Int32) (m64 : zM), aTm aT0 m64 → opH T n (tkf T n (tkf T n p).2).2 x.toInt 0 m61 v66.toInt m64 → ¬ (v66).toInt = 0 → ∀ (v70 : Int32) (q71 : Int) (m68 : zM), aTm aT0 m68 → tH R A T n (tkf T n (tkf T n p).2).2 (pTest T n ru (cC R A m64) (6, 0, 1, [wIx T n p]) (bgA (f :: r)) (tkf T n (tkf T n p).2).2) (Mch T n ru (cC R A m64) ((6, 0, 1, [wIx T n p]) :: bgA (f :: r)) 0 (tkf T n (tkf T n p).2).2 = none) m64 v70.toInt q71 m68 → (v70).toInt = 0 → aTm aT0 m68 → P (some (.int 0)) m68) (h18 : ¬ (gi mem 27 4).toInt = 3 → ¬ (gi mem 27 4).toInt = 4 → (gi mem 27 4).toInt = 2 → ∀ (v12 : Int32), ((v12.toInt = 0 ∧ ¬ ivV ru (gi mem 27 5).toInt) ∨ (v12.toInt = 1 ∧ ivV ru (gi mem 27 5).toInt)) → (v12).toInt = 0 → ¬ (gi mem 27 5).toInt = 24 → ¬ (gi mem 27 5).toInt = 25 → (gi mem 27 5).toInt = 19 → ∀ (m61 : zM), aTm aT0 m61 → (fo 27 [] avF mem m61 ∧ cRd T n (tkf T n p).2 m61) → ¬ (gi m61 27 4).toInt = 4 → ∀ (v66 : Int32) (m64 : zM), aTm aT0 m64 → opH T n (tkf T n (tkf T n p).2).2 x.toInt 0 m61 v66.toInt m64 → ¬ (v66).toInt = 0 → ∀ (v70 : Int32) (q71 : Int) (m68 : zM), aTm aT0 m68 → tH R A T n (tkf T n (tkf T n p).2).2 (pTest T n ru (cC R A m64) (6, 0, 1, [wIx T n p]) (bgA (f :: r)) (tkf T n (tkf T n p).2).2) (Mch T n ru (cC R A m64) ((6, 0, 1, [wIx T n p]) :: bgA (f :: r)) 0 (tkf T n (tkf T n p).2).2 = none) m64 v70.toInt q71 m68 → ¬ (v70).toInt = 0 → ∀ (v75 : Int32) (q76 : Int) (m73 : zM), aTm aT0 m73 → (fo 27 [] rdF2 m68 m73 ∧ ((v75.toInt = 1 ∧ sSgn T n 44 q71 = some q76 ∧ cRd T n q76 m73) ∨ (v75.toInt = 0 ∧ sSgn T n 44 q71 = none))) → (v75).toInt = 0 → aTm aT0 m73 → P (some (.int 0)) m73) (s12 : ¬ (gi mem 27 4).toInt = 3 → ¬ (gi mem 27 4).toInt = 4 → (gi mem 27 4).toInt = 2 → ∀ (v12 : Int32), ((v12.toInt = 0 ∧ ¬ ivV ru (gi mem 27 5).toInt) ∨ (v12.toInt = 1 ∧ ivV ru (gi mem 27 5).toInt)) → (v12).toInt = 0 → ¬ (gi mem 27 5).toInt = 24 → ¬ (gi mem 27 5).toInt = 25 → (gi mem 27 5).toInt = 19 → ∀ (m61 : zM), aTm aT0 m61 → (fo 27 [] avF mem m61 ∧ cRd T n (tkf T n p).2 m61) → ¬ (gi m61 27 4).toInt = 4 → ∀ (v66 : Int32) (m64 : zM), aTm aT0 m64 → opH T n (tkf T n (tkf T n p).2).2 x.toInt 0 m61 v66.toInt m64 → ¬ (v66).toInt = 0 → ∀ (v70 : Int32) (q71 : Int) (m68 : zM), aTm aT0 m68 → tH R A T n (tkf T n (tkf T n p).2).2 (pTest T n ru (cC R A m64) (6, 0, 1, [wIx T n p]) (bgA (f :: r)) (tkf T n (tkf T n p).2).2) (Mch T n ru (cC R A m64) ((6, 0, 1, [wIx T n p]) :: bgA (f :: r)) 0 (tkf T n (tkf T n p).2).2 = none) m64 v70.toInt q71 m68 → ¬ (v70).toInt = 0 → ∀ (v75 : Int32) (q76 : Int) (m73 : zM), aTm aT0 m73 → (fo 27 [] rdF2 m68 m73 ∧ ((v75.toInt = 1 ∧ sSgn T n 44 q71 = some q76 ∧ cRd T n q76 m73) ∨ (v75.toInt = 0 ∧ sSgn T n 44 q71 = none))) → ¬ (v75).toInt = 0 → (gi m73 R 3).toInt ≤ q76) (h19 : ¬ (gi mem 27 4).toInt = 3 → ¬ (gi mem 27 4).toInt = 4 → (gi mem 27 4).toInt = 2 → ∀ (v12 : Int32), ((v12.toInt = 0 ∧ ¬ ivV ru (gi mem 27 5).toInt) ∨ (v12.toInt = 1 ∧ ivV ru (gi mem 27 5).toInt)) → (v12).toInt = 0 → ¬ (gi mem 27 5).toInt = 24 → ¬ (gi mem 27 5).toInt = 25 → (gi mem 27 5).toInt = 19 → ∀ (m61 : zM), aTm aT0 m61 → (fo 27 [] avF mem m61 ∧ cRd T n (tkf T n p).2 m61) → ¬ (gi m61 27 4).toInt = 4 → ∀ (v66 : Int32) (m64 : zM), aTm aT0 m64 → opH T n (tkf T n (tkf T n p).2).2 x.toInt 0 m61 v66.toInt m64 → ¬ (v66).toInt = 0 → ∀ (v70 : Int32) (q71 : Int) (m68 : zM), aTm aT0 m68 → tH R A T n (tkf T n (tkf T n p).2).2 (pTest T n ru (cC R A m64) (6, 0, 1, [wIx T n p]) (bgA (f :: r)) (tkf T n (tkf T n p).2).2) (Mch T n ru (cC R A m64) ((6, 0, 1, [wIx T n p]) :: bgA (f :: r)) 0 (tkf T n (tkf T n p).2).2 = none) m64 v70.toInt q71 m68 → ¬ (v70).toInt = 0 → ∀ (v75 : Int32) (q76 : Int) (m73 : zM), aTm aT0 m73 → (fo 27 [] rdF2 m68 m73 ∧ ((v75.toInt = 1 ∧ sSgn T n 44 q71 = some q76 ∧ cRd T n q76 m73) ∨ (v75.toInt = 0 ∧ sSgn T n 44 q71 = none))) → ¬ (v75).toInt = 0 → ∀ (v80 : Int32) (q81 : Int) (m78 : zM), aTm aT0 m78 → tH R A T n q76 (pPair T n ru (cC R A m73) (3, 0, 1, [wIx T n p]) (bgA (f :: r)) q76) (Mch T n ru (cC R A m73) ((3, 0, 1, [wIx T n p]) :: bgA (f :: r)) 0 q76 = none) m73 v80.toInt q81 m78 → (v80).toInt = 0 → aTm aT0 m78 → P (some (.int 0)) m78) (h20 : ¬ (gi mem 27 4).toInt = 3 → ¬ (gi mem 27 4).toInt = 4 → (gi mem 27 4).toInt = 2 → ∀ (v12 : Int32), ((v12.toInt = 0 ∧ ¬ ivV ru (gi mem 27 5).toInt) ∨ (v12.toInt = 1 ∧ ivV ru (gi mem 27 5).toInt)) → (v12).toInt = 0 → ¬ (gi mem 27 5).toInt = 24 → ¬ (gi mem 27 5).toInt = 25 → (gi mem 27 5).toInt = 19 → ∀ (m61 : zM), aTm aT0 m61 → (fo 27 [] avF mem m61 ∧ cRd T n (tkf T n p).2 m61) → ¬ (gi m61 27 4).toInt = 4 → ∀ (v66 : Int32) (m64 : zM), aTm aT0 m64 → opH T n (tkf T n (tkf T n p).2).2 x.toInt 0 m61 v66.toInt m64 → ¬ (v66).toInt = 0 → ∀ (v70 : Int32) (q71 : Int) (m68 : zM), aTm aT0 m68 → tH R A T n (tkf T n (tkf T n p).2).2 (pTest T n ru (cC R A m64) (6, 0, 1, [wIx T n p]) (bgA (f :: r)) (tkf T n (tkf T n p).2).2) (Mch T n ru (cC R A m64) ((6, 0, 1, [wIx T n p]) :: bgA (f :: r)) 0 (tkf T n (tkf T n p).2).2 = none) m64 v70.toInt q71 m68 → ¬ (v70).toInt = 0 → ∀ (v75 : Int32) (q76 : Int) (m73 : zM), aTm aT0 m73 → (fo 27 [] rdF2 m68 m73 ∧ ((v75.toInt = 1 ∧ sSgn T n 44 q71 = some q76 ∧ cRd T n q76 m73) ∨ (v75.toInt = 0 ∧ sSgn T n 44 q71 = none))) → ¬ (v75).toInt = 0 → ∀ (v80 : Int32) (q81 : Int) (m78 : zM), aTm aT0 m78 → tH R A T n q76 (pPair T n ru (cC R A m73) (3, 0, 1, [wIx T n p]) (bgA (f :: r)) q76) (Mch T n ru (cC R A m73) ((3, 0, 1, [wIx T n p]) :: bgA (f :: r)) 0 q76 = none) m73 v80.toInt q81 m78 → ¬ (v80).toInt = 0 → ∀ (v85 : Int32) (m83 : zM), aTm aT0 m83 → (puQ R A (10000 + (gi mem 27 5)).toInt m78 m83 ∧ v85.toInt = 1) → (v85).toInt = 0 → aTm aT0 m83 → P (some (.int 0)) m83) (h21 : ¬ (gi mem 27 4).toInt = 3 → ¬ (gi mem 27 4).toInt = 4 → (gi mem 27 4).toInt = 2 → ∀ (v12 : Int32), ((v12.toInt = 0 ∧ ¬ ivV ru (gi mem 27 5).toInt) ∨ (v12.toInt = 1 ∧ ivV ru (gi mem 27 5).toInt)) → (v12).toInt = 0 → ¬ (gi mem 27 5).toInt = 24 → ¬ (gi mem 27 5).toInt = 25 → (gi mem 27 5).toInt = 19 → ∀ (m61 : zM), aTm aT0 m61 → (fo 27 [] avF mem m61 ∧ cRd T n (tkf T n p).2 m61) → ¬ (gi m61 27 4).toInt = 4 → ∀ (v66 : Int32) (m64 : zM), aTm aT0 m64 → opH T n (tkf T n (tkf T n p).2).2 x.toInt 0 m61 v66.toInt m64 → ¬ (v66).toInt = 0 → ∀ (v70 : Int32) (q71 : Int) (m68 : zM), aTm aT0 m68 → tH R A T n (tkf T n (tkf T n p).2).2 (pTest T n ru (cC R A m64) (6, 0, 1, [wIx T n p]) (bgA (f :: r)) (tkf T n (tkf T n p).2).2) (Mch T n ru (cC R A m64) ((6, 0, 1, [wIx T n p]) :: bgA (f :: r)) 0 (tkf T n (tkf T n p).2).2 = none) m64 v70.toInt q71 m68 → ¬ (v70).toInt = 0 → ∀ (v75 : Int32) (q76 : Int) (m73 : zM), aTm aT0 m73 → (fo 27 [] rdF2 m68 m73 ∧ ((v75.toInt = 1 ∧ sSgn T n 44 q71 = some q76 ∧ cRd T n q76 m73) ∨ (v75.toInt = 0 ∧ sSgn T n 44 q71 = none))) → ¬ (v75).toInt = 0 → ∀ (v80 : Int32) (q81 : Int) (m78 : zM), aTm aT0 m78 → tH R A T n q76 (pPair T n ru (cC R A m73) (3, 0, 1, [wIx T n p]) (bgA (f :: r)) q76) (Mch T n ru (cC R A m73) ((3, 0, 1, [wIx T n p]) :: bgA (f :: r)) 0 q76 = none) m73 v80.toInt q81 m78 → ¬ (v80).toInt = 0 → ∀ (v85 : Int32) (m83 : zM), aTm aT0 m83 → (puQ R A (10000 + (gi mem 27 5)).toInt m78 m83 ∧ v85.toInt = 1) → ¬ (v85).toInt = 0 → aTm aT0 m83 → P (some (.int 1)) m83) (s13 : ¬ (gi mem 27 4).toInt = 3 → ¬ (gi mem 27 4).toInt = 4 → (gi mem 27 4).toInt = 2 → ∀ (v12 : Int32), ((v12.toInt = 0 ∧ ¬ ivV ru (gi mem 27 5).toInt) ∨ (v12.toInt = 1 ∧ ivV ru (gi mem 27 5).toInt)) → (v12).toInt = 0 → ¬ (gi mem 27 5).toInt = 24 → ¬ (gi mem 27 5).toInt = 25 → (gi mem 27 5).toInt = 19 → ∀ (m61 : zM), aTm aT0 m61 → (fo 27 [] avF mem m61 ∧ cRd T n (tkf T n p).2 m61) → (gi m61 27 4).toInt = 4 → ¬ (gi m61 27 5).toInt = 40 → ¬ (0 : Int) = 0 → ¬ (tkf T n (tkf T n p).2).1.1 = 4) (h22 : ¬ (gi mem 27 4).toInt = 3 → ¬ (gi mem 27 4).toInt = 4 → (gi mem 27 4).toInt = 2 → ∀ (v12 : Int32), ((v12.toInt = 0 ∧ ¬ ivV ru (gi mem 27 5).toInt) ∨ (v12.toInt = 1 ∧ ivV ru (gi mem 27 5).toInt)) → (v12).toInt = 0 → ¬ (gi mem 27 5).toInt = 24 → ¬ (gi mem 27 5).toInt = 25 → (gi mem 27 5).toInt = 19 → ∀ (m61 : zM), aTm aT0 m61 → (fo 27 [] avF mem m61 ∧ cRd T n (tkf T n p).2 m61) → (gi m61 27 4).toInt = 4 → ¬ (gi m61 27 5).toInt = 40 → ∀ (v90 : Int32) (m88 : zM), aTm aT0 m88 → opH T n (tkf T n (tkf T n p).2).2 x.toInt 0 m61 v90.toInt m88 → (v90).toInt = 0 → aTm aT0 m88 → P (some (.int 0)) m88) (s14 : ¬ (gi mem 27 4).toInt = 3 → ¬ (gi mem 27 4).toInt = 4 → (gi mem 27 4).toInt = 2 → ∀ (v12 : Int32), ((v12.toInt = 0 ∧ ¬ ivV ru (gi mem 27 5).toInt) ∨ (v12.toInt = 1 ∧ ivV ru (gi mem 27 5).toInt)) → (v12).toInt = 0 → ¬ (gi mem 27 5).toInt = 24 → ¬ (gi mem 27 5).toInt = 25 → (gi mem 27 5).toInt = 19 → ∀ (m61 : zM), aTm aT0 m61 → (fo 27 [] avF mem m61 ∧ cRd T n (tkf T n p).2 m61) → (gi m61 27 4).toInt = 4 → ¬ (gi m61 27 5).toInt = 40 → ∀ (v90 : Int32) (m88 : zM), aTm aT0 m88 → opH T n (tkf T n (tkf T n p).2).2 x.toInt 0 m61 v90.toInt m88 → ¬ (v90).toInt = 0 → (gi m88 R 3).toInt ≤ (tkf T n (tkf T n p).2).2) (h23 : ¬ (gi mem 27 4).toInt = 3 → ¬ (gi mem 27 4).toInt = 4 → (gi mem 27 4).toInt = 2 → ∀ (v12 : Int32), ((v12.toInt = 0 ∧ ¬ ivV ru (gi mem 27 5).toInt) ∨ (v12.toInt = 1 ∧ ivV ru (gi mem 27 5).toInt)) → (v12).toInt = 0 → ¬ (gi mem 27 5).toInt = 24 → ¬ (gi mem 27 5).toInt = 25 → (gi mem 27 5).toInt = 19 → ∀ (m61 : zM), aTm aT0 m61 → (fo 27 [] avF mem m61 ∧ cRd T n (tkf T n p).2 m61) → (gi m61 27 4).toInt = 4 → ¬ (gi m61 27 5).toInt = 40 → ∀ (v90 : Int32) (m88 : zM), aTm aT0 m88 → opH T n (tkf T n (tkf T n p).2).2 x.toInt 0 m61 v90.toInt m88 → ¬ (v90).toInt = 0 → ∀ (v94 : Int32) (q95 : Int) (m92 : zM), aTm aT0 m92 → tH R A T n (tkf T n (tkf T n p).2).2 (pTest T n ru (cC R A m88) (6, 0, 1, [wIx T n p]) (bgA (f :: r)) (tkf T n (tkf T n p).2).2) (Mch T n ru (cC R A m88) ((6, 0, 1, [wIx T n p]) :: bgA (f :: r)) 0 (tkf T n (tkf T n p).2).2 = none) m88 v94.toInt q95 m92 → (v94).toInt = 0 → aTm aT0 m92 → P (some (.int 0)) m92) (h24 : ¬ (gi mem 27 4).toInt = 3 → ¬ (gi mem 27 4).toInt = 4 → (gi mem 27 4).toInt = 2 → ∀ (v12 : Int32), ((v12.toInt = 0 ∧ ¬ ivV ru (gi mem 27 5).toInt) ∨ (v12.toInt = 1 ∧ ivV ru (gi mem 27 5).toInt)) → (v12).toInt = 0 → ¬ (gi mem 27 5).toInt = 24 → ¬ (gi mem 27 5).toInt = 25 → (gi mem 27 5).toInt = 19 → ∀ (m61 : zM), aTm aT0 m61 → (fo 27 [] avF mem m61 ∧ cRd T n (tkf T n p).2 m61) → (gi m61 27 4).toInt = 4 → ¬ (gi m61 27 5).toInt = 40 → ∀ (v90 : Int32) (m88 : zM), aTm aT0 m88 → opH T n (tkf T n (tkf T n p).2).2 x.toInt 0 m61 v90.toInt m88 → ¬ (v90).toInt = 0 → ∀ (v94 : Int32) (q95 : Int) (m92 : zM), aTm aT0 m92 → tH R A T n (tkf T n (tkf T n p).2).2 (pTest T n ru (cC R A m88) (6, 0, 1, [wIx T n p]) (bgA (f :: r)) (tkf T n (tkf T n p).2).2) (Mch T n ru (cC R A m88) ((6, 0, 1, [wIx T n p]) :: bgA (f :: r)) 0 (tkf T n (tkf T n p).2).2 = none) m88 v94.toInt q95 m92 → ¬ (v94).toInt = 0 → ∀ (v99 : Int32) (q100 : Int) (m97 : zM), aTm aT0 m97 → (fo 27 [] rdF2 m92 m97 ∧ ((v99.toInt = 1 ∧ sSgn T n 44 q95 = some q100 ∧ cRd T n q100 m97) ∨ (v99.toInt = 0 ∧ sSgn T n 44 q95 = none))) → (v99).toInt = 0 → aTm aT0 m97 → P (some (.int 0)) m97) (s15 : ¬ (gi mem 27 4).toInt = 3 → ¬ (gi mem 27 4).toInt = 4 → (gi mem 27 4).toInt = 2 → ∀ (v12 : Int32), ((v12.toInt = 0 ∧ ¬ ivV ru (gi mem 27 5).toInt) ∨ (v12.toInt = 1 ∧ ivV ru (gi mem 27 5).toInt)) → (v12).toInt = 0 → ¬ (gi mem 27 5).toInt = 24 → ¬ (gi mem 27 5).toInt = 25 → (gi mem 27 5).toInt = 19 → ∀ (m61 : zM), aTm aT0 m61 → (fo 27 [] avF mem m61 ∧ cRd T n (tkf T n p).2 m61) → (gi m61 27 4).toInt = 4 → ¬ (gi m61 27 5).toInt = 40 → ∀ (v90 : Int32) (m88 : zM), aTm aT0 m88 → opH T n (tkf T n (tkf T n p).2).2 x.toInt 0 m61 v90.toInt m88 → ¬ (v90).toInt = 0 → ∀ (v94 : Int32) (q95 : Int) (m92 : zM), aTm aT0 m92 → tH R A T n (tkf T n (tkf T n p).2).2 (pTest T n ru (cC R A m88) (6, 0, 1, [wIx T n p]) (bgA (f :: r)) (tkf T n (tkf T n p).2).2) (Mch T n ru (cC R A m88) ((6, 0, 1, [wIx T n p]) :: bgA (f :: r)) 0 (tkf T n (tkf T n p).2).2 = none) m88 v94.toInt q95 m92 → ¬ (v94).toInt = 0 → ∀ (v99 : Int32) (q100 : Int) (m97 : zM), aTm aT0 m97 → (fo 27 [] rdF2 m92 m97 ∧ ((v99.toInt = 1 ∧ sSgn T n 44 q95 = some q100 ∧ cRd T n q100 m97) ∨ (v99.toInt = 0 ∧ sSgn T n 44 q95 = none))) → ¬ (v99).toInt = 0 → (gi m97 R 3).toInt ≤ q100) (h25 : ¬ (gi mem 27 4).toInt = 3 → ¬ (gi mem 27 4).toInt = 4 → (gi mem 27 4).toInt = 2 → ∀ (v12 : Int32), ((v12.toInt = 0 ∧ ¬ ivV ru (gi mem 27 5).toInt) ∨ (v12.toInt = 1 ∧ ivV ru (gi mem 27 5).toInt)) → (v12).toInt = 0 → ¬ (gi mem 27 5).toInt = 24 → ¬ (gi mem 27 5).toInt = 25 → (gi mem 27 5).toInt = 19 → ∀ (m61 : zM), aTm aT0 m61 → (fo 27 [] avF mem m61 ∧ cRd T n (tkf T n p).2 m61) → (gi m61 27 4).toInt = 4 → ¬ (gi m61 27 5).toInt = 40 → ∀ (v90 : Int32) (m88 : zM), aTm aT0 m88 → opH T n (tkf T n (tkf T n p).2).2 x.toInt 0 m61 v90.toInt m88 → ¬ (v90).toInt = 0 → ∀ (v94 : Int32) (q95 : Int) (m92 : zM), aTm aT0 m92 → tH R A T n (tkf T n (tkf T n p).2).2 (pTest T n ru (cC R A m88) (6, 0, 1, [wIx T n p]) (bgA (f :: r)) (tkf T n (tkf T n p).2).2) (Mch T n ru (cC R A m88) ((6, 0, 1, [wIx T n p]) :: bgA (f :: r)) 0 (tkf T n (tkf T n p).2).2 = none) m88 v94.toInt q95 m92 → ¬ (v94).toInt = 0 → ∀ (v99 : Int32) (q100 : Int) (m97 : zM), aTm aT0 m97 → (fo 27 [] rdF2 m92 m97 ∧ ((v99.toInt = 1 ∧ sSgn T n 44 q95 = some q100 ∧ cRd T n q100 m97) ∨ (v99.toInt = 0 ∧ sSgn T n 44 q95 = none))) → ¬ (v99).toInt = 0 → ∀ (v104 : Int32) (q105 : Int) (m102 : zM), aTm aT0 m102 → tH R A T n q100 (pPair T n ru (cC R A m97) (3, 0, 1, [wIx T n p]) (bgA (f :: r)) q100) (Mch T n ru (cC R A m97) ((3, 0, 1, [wIx T n p]) :: bgA (f :: r)) 0 q100 = none) m97 v104.toInt q105 m102 → (v104).toInt = 0 → aTm aT0 m102 → P (some (.int 0)) m102) (h26 : ¬ (gi mem 27 4).toInt = 3 → ¬ (gi mem 27 4).toInt = 4 → (gi mem 27 4).toInt = 2 → ∀ (v12 : Int32), ((v12.toInt = 0 ∧ ¬ ivV ru (gi mem 27 5).toInt) ∨ (v12.toInt = 1 ∧ ivV ru (gi mem 27 5).toInt)) → (v12).toInt = 0 → ¬ (gi mem 27 5).toInt = 24 → ¬ (gi mem 27 5).toInt = 25 → (gi mem 27 5).toInt = 19 → ∀ (m61 : zM), aTm aT0 m61 → (fo 27 [] avF mem m61 ∧ cRd T n (tkf T n p).2 m61) → (gi m61 27 4).toInt = 4 → ¬ (gi m61 27 5).toInt = 40 → ∀ (v90 : Int32) (m88 : zM), aTm aT0 m88 → opH T n (tkf T n (tkf T n p).2).2 x.toInt 0 m61 v90.toInt m88 → ¬ (v90).toInt = 0 → ∀ (v94 : Int32) (q95 : Int) (m92 : zM), aTm aT0 m92 → tH R A T n (tkf T n (tkf T n p).2).2 (pTest T n ru (cC R A m88) (6, 0, 1, [wIx T n p]) (bgA (f :: r)) (tkf T n (tkf T n p).2).2) (Mch T n ru (cC R A m88) ((6, 0, 1, [wIx T n p]) :: bgA (f :: r)) 0 (tkf T n (tkf T n p).2).2 = none) m88 v94.toInt q95 m92 → ¬ (v94).toInt = 0 → ∀ (v99 : Int32) (q100 : Int) (m97 : zM), aTm aT0 m97 → (fo 27 [] rdF2 m92 m97 ∧ ((v99.toInt = 1 ∧ sSgn T n 44 q95 = some q100 ∧ cRd T n q100 m97) ∨ (v99.toInt = 0 ∧ sSgn T n 44 q95 = none))) → ¬ (v99).toInt = 0 → ∀ (v104 : Int32) (q105 : Int) (m102 : zM), aTm aT0 m102 → tH R A T n q100 (pPair T n ru (cC R A m97) (3, 0, 1, [wIx T n p]) (bgA (f :: r)) q100) (Mch T n ru (cC R A m97) ((3, 0, 1, [wIx T n p]) :: bgA (f :: r)) 0 q100 = none) m97 v104.toInt q105 m102 → ¬ (v104).toInt = 0 → ∀ (v109 : Int32) (m107 : zM), aTm aT0 m107 → (puQ R A (10000 + (gi mem 27 5)).toInt m102 m107 ∧ v109.toInt = 1) → (v109).toInt = 0 → aTm aT0 m107 → P (some (.int 0)) m107) (h27 : ¬ (gi mem 27 4).toInt = 3 → ¬ (gi mem 27 4).toInt = 4 → (gi mem 27 4).toInt = 2 → ∀ (v12 : Int32), ((v12.toInt = 0 ∧ ¬ ivV ru (gi mem 27 5).toInt) ∨ (v12.toInt = 1 ∧ ivV ru (gi mem 27 5).toInt)) → (v12).toInt = 0 → ¬ (gi mem 27 5).toInt = 24 → ¬ (gi mem 27 5).toInt = 25 → (gi mem 27 5).toInt = 19 → ∀ (m61 : zM), aTm aT0 m61 → (fo 27 [] avF mem m61 ∧ cRd T n (tkf T n p).2 m61) → (gi m61 27 4).toInt = 4 → ¬ (gi m61 27 5).toInt = 40 → ∀ (v90 : Int32) (m88 : zM), aTm aT0 m88 → opH T n (tkf T n (tkf T n p).2).2 x.toInt 0 m61 v90.toInt m88 → ¬ (v90).toInt = 0 → ∀ (v94 : Int32) (q95 : Int) (m92 : zM), aTm aT0 m92 → tH R A T n (tkf T n (tkf T n p).2).2 (pTest T n ru (cC R A m88) (6, 0, 1, [wIx T n p]) (bgA (f :: r)) (tkf T n (tkf T n p).2).2) (Mch T n ru (cC R A m88) ((6, 0, 1, [wIx T n p]) :: bgA (f :: r)) 0 (tkf T n (tkf T n p).2).2 = none) m88 v94.toInt q95 m92 → ¬ (v94).toInt = 0 → ∀ (v99 : Int32) (q100 : Int) (m97 : zM), aTm aT0 m97 → (fo 27 [] rdF2 m92 m97 ∧ ((v99.toInt = 1 ∧ sSgn T n 44 q95 = some q100 ∧ cRd T n q100 m97) ∨ (v99.toInt = 0 ∧ sSgn T n 44 q95 = none))) → ¬ (v99).toInt = 0 → ∀ (v104 : Int32) (q105 : Int) (m102 : zM), aTm aT0 m102 → tH R A T n q100 (pPair T n ru (cC R A m97) (3, 0, 1, [wIx T n p]) (bgA (f :: r)) q100) (Mch T n ru (cC R A m97) ((3, 0, 1, [wIx T n p]) :: bgA (f :: r)) 0 q100 = none) m97 v104.toInt q105 m102 → ¬ (v104).toInt = 0 → ∀ (v109 : Int32) (m107 : zM), aTm aT0 m107 → (puQ R A (10000 + (gi mem 27 5)).toInt m102 m107 ∧ v109.toInt = 1) → ¬ (v109).toInt = 0 → aTm aT0 m107 → P (some (.int 1)) m107) (s16 : ¬ (gi mem 27 4).toInt = 3 → ¬ (gi mem 27 4).toInt = 4 → (gi mem 27 4).toInt = 2 → ∀ (v12 : Int32), ((v12.toInt = 0 ∧ ¬ ivV ru (gi mem 27 5).toInt) ∨ (v12.toInt = 1 ∧ ivV ru (gi mem 27 5).toInt)) → (v12).toInt = 0 → ¬ (gi mem 27 5).toInt = 24 → ¬ (gi mem 27 5).toInt = 25 → (gi mem 27 5).toInt = 19 → ∀ (m61 : zM), aTm aT0 m61 → (fo 27 [] avF mem m61 ∧ cRd T n (tkf T n p).2 m61) → (gi m61 27 4).toInt = 4 → (gi m61 27 5).toInt = 40 → ¬ (1 : Int) = 0 → ¬ (tkf T n (tkf T n p).2).1.1 = 4) (h28 : ¬ (gi mem 27 4).toInt = 3 → ¬ (gi mem 27 4).toInt = 4 → (gi mem 27 4).toInt = 2 → ∀ (v12 : Int32), ((v12.toInt = 0 ∧ ¬ ivV ru (gi mem 27 5).toInt) ∨ (v12.toInt = 1 ∧ ivV ru (gi mem 27 5).toInt)) → (v12).toInt = 0 → ¬ (gi mem 27 5).toInt = 24 → ¬ (gi mem 27 5).toInt = 25 → (gi mem 27 5).toInt = 19 → ∀ (m61 : zM), aTm aT0 m61 → (fo 27 [] avF mem m61 ∧ cRd T n (tkf T n p).2 m61) → (gi m61 27 4).toInt = 4 → (gi m61 27 5).toInt = 40 → ∀ (v113 : Int32) (m111 : zM), aTm aT0 m111 → opH T n (tkf T n (tkf T n p).2).2 x.toInt 1 m61 v113.toInt m111 → (v113).toInt = 0 → aTm aT0 m111 → P (some (.int 0)) m111) (s17 : ¬ (gi mem 27 4).toInt = 3 → ¬ (gi mem 27 4).toInt = 4 → (gi mem 27 4).toInt = 2 → ∀ (v12 : Int32), ((v12.toInt = 0 ∧ ¬ ivV ru (gi mem 27 5).toInt) ∨ (v12.toInt = 1 ∧ ivV ru (gi mem 27 5).toInt)) → (v12).toInt = 0 → ¬ (gi mem 27 5).toInt = 24 → ¬ (gi mem 27 5).toInt = 25 → (gi mem 27 5).toInt = 19 → ∀ (m61 : zM), aTm aT0 m61 → (fo 27 [] avF mem m61 ∧ cRd T n (tkf T n p).2 m61) → (gi m61 27 4).toInt = 4 → (gi m61 27 5).toInt = 40 → ∀ (v113 : Int32) (m111 : zM), aTm aT0 m111 → opH T n (tkf T n (tkf T n p).2).2 x.toInt 1 m61 v113.toInt m111 → ¬ (v113).toInt = 0 → (gi m111 R 3).toInt ≤ (tkf T n (tkf T n p).2).2) (h29 : ¬ (gi mem 27 4).toInt = 3 → ¬ (gi mem 27 4).toInt = 4 → (gi mem 27 4).toInt = 2 → ∀ (v12 : Int32), ((v12.toInt = 0 ∧ ¬ ivV ru (gi mem 27 5).toInt) ∨ (v12.toInt = 1 ∧ ivV ru (gi mem 27 5).toInt)) → (v12).toInt = 0 → ¬ (gi mem 27 5).toInt = 24 → ¬ (gi mem 27 5).toInt = 25 → (gi mem 27 5).toInt = 19 → ∀ (m61 : zM), aTm aT0 m61 → (fo 27 [] avF mem m61 ∧ cRd T n (tkf T n p).2 m61) → (gi m61 27 4).toInt = 4 → (gi m61 27 5).toInt = 40 → ∀ (v113 : Int32) (m111 : zM), aTm aT0 m111 → opH T n (tkf T n (tkf T n p).2).2 x.toInt 1 m61 v113.toInt m111 → ¬ (v113).toInt = 0 → ∀ (v117 : Int32) (q118 : Int) (m115 : zM), aTm aT0 m115 → tH R A T n (tkf T n (tkf T n p).2).2 (pTest T n ru (cC R A m111) (6, 0, 1, [wIx T n p]) (bgA (f :: r)) (tkf T n (tkf T n p).2).2) (Mch T n ru (cC R A m111) ((6, 0, 1, [wIx T n p]) :: bgA (f :: r)) 0 (tkf T n (tkf T n p).2).2 = none) m111 v117.toInt q118 m115 → (v117).toInt = 0 → aTm aT0 m115 → P (some (.int 0)) m115) (h30 : ¬ (gi mem 27 4).toInt = 3 → ¬ (gi mem 27 4).toInt = 4 → (gi mem 27 4).toInt = 2 → ∀ (v12 : Int32), ((v12.toInt = 0 ∧ ¬ ivV ru (gi mem 27 5).toInt) ∨ (v12.toInt = 1 ∧ ivV ru (gi mem 27 5).toInt)) → (v12).toInt = 0 → ¬ (gi mem 27 5).toInt = 24 → ¬ (gi mem 27 5).toInt = 25 → (gi mem 27 5).toInt = 19 → ∀ (m61 : zM), aTm aT0 m61 → (fo 27 [] avF mem m61 ∧ cRd T n (tkf T n p).2 m61) → (gi m61 27 4).toInt = 4 → (gi m61 27 5).toInt = 40 → ∀ (v113 : Int32) (m111 : zM), aTm aT0 m111 → opH T n (tkf T n (tkf T n p).2).2 x.toInt 1 m61 v113.toInt m111 → ¬ (v113).toInt = 0 → ∀ (v117 : Int32) (q118 : Int) (m115 : zM), aTm aT0 m115 → tH R A T n (tkf T n (tkf T n p).2).2 (pTest T n ru (cC R A m111) (6, 0, 1, [wIx T n p]) (bgA (f :: r)) (tkf T n (tkf T n p).2).2) (Mch T n ru (cC R A m111) ((6, 0, 1, [wIx T n p]) :: bgA (f :: r)) 0 (tkf T n (tkf T n p).2).2 = none) m111 v117.toInt q118 m115 → ¬ (v117).toInt = 0 → ∀ (v122 : Int32) (q123 : Int) (m120 : zM), aTm aT0 m120 → (fo 27 [] rdF2 m115 m120 ∧ ((v122.toInt = 1 ∧ sSgn T n 44 q118 = some q123 ∧ cRd T n q123 m120) ∨ (v122.toInt = 0 ∧ sSgn T n 44 q118 = none))) → (v122).toInt = 0 → aTm aT0 m120 → P (some (.int 0)) m120) (s18 : ¬ (gi mem 27 4).toInt = 3 → ¬ (gi mem 27 4).toInt = 4 → (gi mem 27 4).toInt = 2 → ∀ (v12 : Int32), ((v12.toInt = 0 ∧ ¬ ivV ru (gi mem 27 5).toInt) ∨ (v12.toInt = 1 ∧ ivV ru (gi mem 27 5).toInt)) → (v12).toInt = 0 → ¬ (gi mem 27 5).toInt = 24 → ¬ (gi mem 27 5).toInt = 25 → (gi mem 27 5).toInt = 19 → ∀ (m61 : zM), aTm aT0 m61 → (fo 27 [] avF mem m61 ∧ cRd T n (tkf T n p).2 m61) → (gi m61 27 4).toInt = 4 → (gi m61 27 5).toInt = 40 → ∀ (v113 : Int32) (m111 : zM), aTm aT0 m111 → opH T n (tkf T n (tkf T n p).2).2 x.toInt 1 m61 v113.toInt m111 → ¬ (v113).toInt = 0 → ∀ (v117 : Int32) (q118 : Int) (m115 : zM), aTm aT0 m115 → tH R A T n (tkf T n (tkf T n p).2).2 (pTest T n ru (cC R A m111) (6, 0, 1, [wIx T n p]) (bgA (f :: r)) (tkf T n (tkf T n p).2).2) (Mch T n ru (cC R A m111) ((6, 0, 1, [wIx T n p]) :: bgA (f :: r)) 0 (tkf T n (tkf T n p).2).2 = none) m111 v117.toInt q118 m115 → ¬ (v117).toInt = 0 → ∀ (v122 : Int32) (q123 : Int) (m120 : zM), aTm aT0 m120 → (fo 27 [] rdF2 m115 m120 ∧ ((v122.toInt = 1 ∧ sSgn T n 44 q118 = some q123 ∧ cRd T n q123 m120) ∨ (v122.toInt = 0 ∧ sSgn T n 44 q118 = none))) → ¬ (v122).toInt = 0 → (gi m120 R 3).toInt ≤ q123) (h31 : ¬ (gi mem 27 4).toInt = 3 → ¬ (gi mem 27 4).toInt = 4 → (gi mem 27 4).toInt = 2 → ∀ (v12 : Int32), ((v12.toInt = 0 ∧ ¬ ivV ru (gi mem 27 5).toInt) ∨ (v12.toInt = 1 ∧ ivV ru (gi mem 27 5).toInt)) → (v12).toInt = 0 → ¬ (gi mem 27 5).toInt = 24 → ¬ (gi mem 27 5).toInt = 25 → (gi mem 27 5).toInt = 19 → ∀ (m61 : zM), aTm aT0 m61 → (fo 27 [] avF mem m61 ∧ cRd T n (tkf T n p).2 m61) → (gi m61 27 4).toInt = 4 → (gi m61 27 5).toInt = 40 → ∀ (v113 : Int32) (m111 : zM), aTm aT0 m111 → opH T n (tkf T n (tkf T n p).2).2 x.toInt 1 m61 v113.toInt m111 → ¬ (v113).toInt = 0 → ∀ (v117 : Int32) (q118 : Int) (m115 : zM), aTm aT0 m115 → tH R A T n (tkf T n (tkf T n p).2).2 (pTest T n ru (cC R A m111) (6, 0, 1, [wIx T n p]) (bgA (f :: r)) (tkf T n (tkf T n p).2).2) (Mch T n ru (cC R A m111) ((6, 0, 1, [wIx T n p]) :: bgA (f :: r)) 0 (tkf T n (tkf T n p).2).2 = none) m111 v117.toInt q118 m115 → ¬ (v117).toInt = 0 → ∀ (v122 : Int32) (q123 : Int) (m120 : zM), aTm aT0 m120 → (fo 27 [] rdF2 m115 m120 ∧ ((v122.toInt = 1 ∧ sSgn T n 44 q118 = some q123 ∧ cRd T n q123 m120) ∨ (v122.toInt = 0 ∧ sSgn T n 44 q118 = none))) → ¬ (v122).toInt = 0 → ∀ (v127 : Int32) (q128 : Int) (m125 : zM), aTm aT0 m125 → tH R A T n q123 (pPair T n ru (cC R A m120) (3, 0, 1, [wIx T n p]) (bgA (f :: r)) q123) (Mch T n ru (cC R A m120) ((3, 0, 1, [wIx T n p]) :: bgA (f :: r)) 0 q123 = none) m120 v127.toInt q128 m125 → (v127).toInt = 0 → aTm aT0 m125 → P (some (.int 0)) m125) (h32 : ¬ (gi mem 27 4).toInt = 3 → ¬ (gi mem 27 4).toInt = 4 → (gi mem 27 4).toInt = 2 → ∀ (v12 : Int32), ((v12.toInt = 0 ∧ ¬ ivV ru (gi mem 27 5).toInt) ∨ (v12.toInt = 1 ∧ ivV ru (gi mem 27 5).toInt)) → (v12).toInt = 0 → ¬ (gi mem 27 5).toInt = 24 → ¬ (gi mem 27 5).toInt = 25 → (gi mem 27 5).toInt = 19 → ∀ (m61 : zM), aTm aT0 m61 → (fo 27 [] avF mem m61 ∧ cRd T n (tkf T n p).2 m61) → (gi m61 27 4).toInt = 4 → (gi m61 27 5).toInt = 40 → ∀ (v113 : Int32) (m111 : zM), aTm aT0 m111 → opH T n (tkf T n (tkf T n p).2).2 x.toInt 1 m61 v113.toInt m111 → ¬ (v113).toInt = 0 → ∀ (v117 : Int32) (q118 : Int) (m115 : zM), aTm aT0 m115 → tH R A T n (tkf T n (tkf T n p).2).2 (pTest T n ru (cC R A m111) (6, 0, 1, [wIx T n p]) (bgA (f :: r)) (tkf T n (tkf T n p).2).2) (Mch T n ru (cC R A m111) ((6, 0, 1, [wIx T n p]) :: bgA (f :: r)) 0 (tkf T n (tkf T n p).2).2 = none) m111 v117.toInt q118 m115 → ¬ (v117).toInt = 0 → ∀ (v122 : Int32) (q123 : Int) (m120 : zM), aTm aT0 m120 → (fo 27 [] rdF2 m115 m120 ∧ ((v122.toInt = 1 ∧ sSgn T n 44 q118 = some q123 ∧ cRd T n q123 m120) ∨ (v122.toInt = 0 ∧ sSgn T n 44 q118 = none))) → ¬ (v122).toInt = 0 → ∀ (v127 : Int32) (q128 : Int) (m125 : zM), aTm aT0 m125 → tH R A T n q123 (pPair T n ru (cC R A m120) (3, 0, 1, [wIx T n p]) (bgA (f :: r)) q123) (Mch T n ru (cC R A m120) ((3, 0, 1, [wIx T n p]) :: bgA (f :: r)) 0 q123 = none) m120 v127.toInt q128 m125 → ¬ (v127).toInt = 0 → ∀ (v132 : Int32) (m130 : zM), aTm aT0 m130 → (puQ R A (10000 + (gi mem 27 5)).toInt m125 m130 ∧ v132.toInt = 1) → (v132).toInt = 0 → aTm aT0 m130 → P (some (.int 0)) m130) (h33 : ¬ (gi mem 27 4).toInt = 3 → ¬ (gi mem 27 4).toInt = 4 → (gi mem 27 4).toInt = 2 → ∀ (v12 : Int32), ((v12.toInt = 0 ∧ ¬ ivV ru (gi mem 27 5).toInt) ∨ (v12.toInt = 1 ∧ ivV ru (gi mem 27 5).toInt)) → (v12).toInt = 0 → ¬ (gi mem 27 5).toInt = 24 → ¬ (gi mem 27 5).toInt = 25 → (gi mem 27 5).toInt = 19 → ∀ (m61 : zM), aTm aT0 m61 → (fo 27 [] avF mem m61 ∧ cRd T n (tkf T n p).2 m61) → (gi m61 27 4).toInt = 4 → (gi m61 27 5).toInt = 40 → ∀ (v113 : Int32) (m111 : zM), aTm aT0 m111 → opH T n (tkf T n (tkf T n p).2).2 x.toInt 1 m61 v113.toInt m111 → ¬ (v113).toInt = 0 → ∀ (v117 : Int32) (q118 : Int) (m115 : zM), aTm aT0 m115 → tH R A T n (tkf T n (tkf T n p).2).2 (pTest T n ru (cC R A m111) (6, 0, 1, [wIx T n p]) (bgA (f :: r)) (tkf T n (tkf T n p).2).2) (Mch T n ru (cC R A m111) ((6, 0, 1, [wIx T n p]) :: bgA (f :: r)) 0 (tkf T n (tkf T n p).2).2 = none) m111 v117.toInt q118 m115 → ¬ (v117).toInt = 0 → ∀ (v122 : Int32) (q123 : Int) (m120 : zM), aTm aT0 m120 → (fo 27 [] rdF2 m115 m120 ∧ ((v122.toInt = 1 ∧ sSgn T n 44 q118 = some q123 ∧ cRd T n q123 m120) ∨ (v122.toInt = 0 ∧ sSgn T n 44 q118 = none))) → ¬ (v122).toInt = 0 → ∀ (v127 : Int32) (q128 : Int) (m125 : zM), aTm aT0 m125 → tH R A T n q123 (pPair T n ru (cC R A m120) (3, 0, 1, [wIx T n p]) (bgA (f :: r)) q123) (Mch T n ru (cC R A m120) ((3, 0, 1, [wIx T n p]) :: bgA (f :: r)) 0 q123 = none) m120 v127.toInt q128 m125 → ¬ (v127).toInt = 0 → ∀ (v132 : Int32) (m130 : zM), aTm aT0 m130 → (puQ R A (10000 + (gi mem 27 5)).toInt m125 m130 ∧ v132.toInt = 1) → ¬ (v132).toInt = 0 → aTm aT0 m130 → P (some (.int 1)) m130) (s19 : ¬ (gi mem 27 4).toInt = 3 → ¬ (gi mem 27 4).toInt = 4 → (gi mem 27 4).toInt = 2 → ∀ (v12 : Int32), ((v12.toInt = 0 ∧ ¬ ivV ru (gi mem 27 5).toInt) ∨ (v12.toInt = 1 ∧ ivV ru (gi mem 27 5).toInt)) → (v12).toInt = 0 → ¬ (gi mem 27 5).toInt = 24 → (gi mem 27 5).toInt = 25 → ¬ (tkf T n p).1.1 = 4) (s20 : ¬ (gi mem 27 4).toInt = 3 → ¬ (gi mem 27 4).toInt = 4 → (gi mem 27 4).toInt = 2 → ∀ (v12 : Int32), ((v12.toInt = 0 ∧ ¬ ivV ru (gi mem 27 5).toInt) ∨ (v12.toInt = 1 ∧ ivV ru (gi mem 27 5).toInt)) → (v12).toInt = 0 → ¬ (gi mem 27 5).toInt = 24 → (gi mem 27 5).toInt = 25 → ∀ (m134 : zM), aTm aT0 m134 → (fo 27 [] avF mem m134 ∧ cRd T n (tkf T n p).2 m134) → ¬ (gi m134 27 4).toInt = 4 → ¬ (0 : Int) = 0 → ¬ (tkf T n (tkf T n p).2).1.1 = 4) (h34 : ¬ (gi mem 27 4).toInt = 3 → ¬ (gi mem 27 4).toInt = 4 → (gi mem 27 4).toInt = 2 → ∀ (v12 : Int32), ((v12.toInt = 0 ∧ ¬ ivV ru (gi mem 27 5).toInt) ∨ (v12.toInt = 1 ∧ ivV ru (gi mem 27 5).toInt)) → (v12).toInt = 0 → ¬ (gi mem 27 5).toInt = 24 → (gi mem 27 5).toInt = 25 → ∀ (m134 : zM), aTm aT0 m134 → (fo 27 [] avF mem m134 ∧ cRd T n (tkf T n p).2 m134) → ¬ (gi m134 27 4).toInt = 4 → ∀ (v139 : Int32) (m137 : zM), aTm aT0 m137 → opH T n (tkf T n (tkf T n p).2).2 x.toInt 0 m134 v139.toInt m137 → (v139).toInt = 0 → aTm aT0 m137 → P (some (.int 0)) m137) (s21 : ¬ (gi mem 27 4).toInt = 3 → ¬ (gi mem 27 4).toInt = 4 → (gi mem 27 4).toInt = 2 → ∀ (v12 : Int32), ((v12.toInt = 0 ∧ ¬ ivV ru (gi mem 27 5).toInt) ∨ (v12.toInt = 1 ∧ ivV ru (gi mem 27 5).toInt)) → (v12).toInt = 0 → ¬ (gi mem 27 5).toInt = 24 → (gi mem 27 5).toInt = 25 → ∀ (m134 : zM), aTm aT0 m134 → (fo 27 [] avF mem m134 ∧ cRd T n (tkf T n p).2 m134) → ¬ (gi m134 27 4).toInt = 4 → ∀ (v139 : Int32) (m137 : zM), aTm aT0 m137 → opH T n (tkf T n (tkf T n p).2).2 x.toInt 0 m134 v139.toInt m137 → ¬ (v139).toInt = 0 → (gi m137 R 3).toInt ≤ (tkf T n (tkf T n p).2).2) (h35 : ¬ (gi mem 27 4).toInt = 3 → ¬ (gi mem 27 4).toInt = 4 → (gi mem 27 4).toInt = 2 → ∀ (v12 : Int32), ((v12.toInt = 0 ∧ ¬ ivV ru (gi mem 27 5).toInt) ∨ (v12.toInt = 1 ∧ ivV ru (gi mem 27 5).toInt)) → (v12).toInt = 0 → ¬ (gi mem 27 5).toInt = 24 → (gi mem 27 5).toInt = 25 → ∀ (m134 : zM), aTm aT0 m134 → (fo 27 [] avF mem m134 ∧ cRd T n (tkf T n p).2 m134) → ¬ (gi m134 27 4).toInt = 4 → ∀ (v139 : Int32) (m137 : zM), aTm aT0 m137 → opH T n (tkf T n (tkf T n p).2).2 x.toInt 0 m134 v139.toInt m137 → ¬ (v139).toInt = 0 → ∀ (v143 : Int32) (q144 : Int) (m141 : zM), aTm aT0 m141 → tH R A T n (tkf T n (tkf T n p).2).2 (pPair T n ru (cC R A m137) (3, 0, 1, [wIx T n p]) (bgA (f :: r)) (tkf T n (tkf T n p).2).2) (Mch T n ru (cC R A m137) ((3, 0, 1, [wIx T n p]) :: bgA (f :: r)) 0 (tkf T n (tkf T n p).2).2 = none) m137 v143.toInt q144 m141 → (v143).toInt = 0 → aTm aT0 m141 → P (some (.int 0)) m141) (h36 : ¬ (gi mem 27 4).toInt = 3 → ¬ (gi mem 27 4).toInt = 4 → (gi mem 27 4).toInt = 2 → ∀ (v12 : Int32), ((v12.toInt = 0 ∧ ¬ ivV ru (gi mem 27 5).toInt) ∨ (v12.toInt = 1 ∧ ivV ru (gi mem 27 5).toInt)) → (v12).toInt = 0 → ¬ (gi mem 27 5).toInt = 24 → (gi mem 27 5).toInt = 25 → ∀ (m134 : zM), aTm aT0 m134 → (fo 27 [] avF mem m134 ∧ cRd T n (tkf T n p).2 m134) → ¬ (gi m134 27 4).toInt = 4 → ∀ (v139 : Int32) (m137 : zM), aTm aT0 m137 → opH T n (tkf T n (tkf T n p).2).2 x.toInt 0 m134 v139.toInt m137 → ¬ (v139).toInt = 0 → ∀ (v143 : Int32) (q144 : Int) (m141 : zM), aTm aT0 m141 → tH R A T n (tkf T n (tkf T n p).2).2 (pPair T n ru (cC R A m137) (3, 0, 1, [wIx T n p]) (bgA (f :: r)) (tkf T n (tkf T n p).2).2) (Mch T n ru (cC R A m137) ((3, 0, 1, [wIx T n p]) :: bgA (f :: r)) 0 (tkf T n (tkf T n p).2).2 = none) m137 v143.toInt q144 m141 → ¬ (v143).toInt = 0 → ∀ (v148 : Int32) (m146 : zM), aTm aT0 m146 → (puQ R A (10000 + (gi mem 27 5)).toInt m141 m146 ∧ v148.toInt = 1) → (v148).toInt = 0 → aTm aT0 m146 → P (some (.int 0)) m146) (h37 : ¬ (gi mem 27 4).toInt = 3 → ¬ (gi mem 27 4).toInt = 4 → (gi mem 27 4).toInt = 2 → ∀ (v12 : Int32), ((v12.toInt = 0 ∧ ¬ ivV ru (gi mem 27 5).toInt) ∨ (v12.toInt = 1 ∧ ivV ru (gi mem 27 5).toInt)) → (v12).toInt = 0 → ¬ (gi mem 27 5).toInt = 24 → (gi mem 27 5).toInt = 25 → ∀ (m134 : zM), aTm aT0 m134 → (fo 27 [] avF mem m134 ∧ cRd T n (tkf T n p).2 m134) → ¬ (gi m134 27 4).toInt = 4 → ∀ (v139 : Int32) (m137 : zM), aTm aT0 m137 → opH T n (tkf T n (tkf T n p).2).2 x.toInt 0 m134 v139.toInt m137 → ¬ (v139).toInt = 0 → ∀ (v143 : Int32) (q144 : Int) (m141 : zM), aTm aT0 m141 → tH R A T n (tkf T n (tkf T n p).2).2 (pPair T n ru (cC R A m137) (3, 0, 1, [wIx T n p]) (bgA (f :: r)) (tkf T n (tkf T n p).2).2) (Mch T n ru (cC R A m137) ((3, 0, 1, [wIx T n p]) :: bgA (f :: r)) 0 (tkf T n (tkf T n p).2).2 = none) m137 v143.toInt q144 m141 → ¬ (v143).toInt = 0 → ∀ (v148 : Int32) (m146 : zM), aTm aT0 m146 → (puQ R A (10000 + (gi mem 27 5)).toInt m141 m146 ∧ v148.toInt = 1) → ¬ (v148).toInt = 0 → aTm aT0 m146 → P (some (.int 1)) m146) (s22 : ¬ (gi mem 27 4).toInt = 3 → ¬ (gi mem 27 4).toInt = 4 → (gi mem 27 4).toInt = 2 → ∀ (v12 : Int32), ((v12.toInt = 0 ∧ ¬ ivV ru (gi mem 27 5).toInt) ∨ (v12.toInt = 1 ∧ ivV ru (gi mem 27 5).toInt)) → (v12).toInt = 0 → ¬ (gi mem 27 5).toInt = 24 → (gi mem 27 5).toInt = 25 → ∀ (m134 : zM), aTm aT0 m134 → (fo 27 [] avF mem m134 ∧ cRd T n (tkf T n p).2 m134) → (gi m134 27 4).toInt = 4 → ¬ (gi m134 27 5).toInt = 40 → ¬ (0 : Int) = 0 → ¬ (tkf T n (tkf T n p).2).1.1 = 4) (h38 : ¬ (gi mem 27 4).toInt = 3 → ¬ (gi mem 27 4).toInt = 4 → (gi mem 27 4).toInt = 2 → ∀ (v12 : Int32), ((v12.toInt = 0 ∧ ¬ ivV ru (gi mem 27 5).toInt) ∨ (v12.toInt = 1 ∧ ivV ru (gi mem 27 5).toInt)) → (v12).toInt = 0 → ¬ (gi mem 27 5).toInt = 24 → (gi mem 27 5).toInt = 25 → ∀ (m134 : zM), aTm aT0 m134 → (fo 27 [] avF mem m134 ∧ cRd T n (tkf T n p).2 m134) → (gi m134 27 4).toInt = 4 → ¬ (gi m134 27 5).toInt = 40 → ∀ (v153 : Int32) (m151 : zM), aTm aT0 m151 → opH T n (tkf T n (tkf T n p).2).2 x.toInt 0 m134 v153.toInt m151 → (v153).toInt = 0 → aTm aT0 m151 → P (some (.int 0)) m151) (s23 : ¬ (gi mem 27 4).toInt = 3 → ¬ (gi mem 27 4).toInt = 4 → (gi mem 27 4).toInt = 2 → ∀ (v12 : Int32), ((v12.toInt = 0 ∧ ¬ ivV ru (gi mem 27 5).toInt) ∨ (v12.toInt = 1 ∧ ivV ru (gi mem 27 5).toInt)) → (v12).toInt = 0 → ¬ (gi mem 27 5).toInt = 24 → (gi mem 27 5).toInt = 25 → ∀ (m134 : zM), aTm aT0 m134 → (fo 27 [] avF mem m134 ∧ cRd T n (tkf T n p).2 m134) → (gi m134 27 4).toInt = 4 → ¬ (gi m134 27 5).toInt = 40 → ∀ (v153 : Int32) (m151 : zM), aTm aT0 m151 → opH T n (tkf T n (tkf T n p).2).2 x.toInt 0 m134 v153.toInt m151 → ¬ (v153).toInt = 0 → (gi m151 R 3).toInt ≤ (tkf T n (tkf T n p).2).2) (h39 : ¬ (gi mem 27 4).toInt = 3 → ¬ (gi mem 27 4).toInt = 4 → (gi mem 27 4).toInt = 2 → ∀ (v12 : Int32), ((v12.toInt = 0 ∧ ¬ ivV ru (gi mem 27 5).toInt) ∨ (v12.toInt = 1 ∧ ivV ru (gi mem 27 5).toInt)) → (v12).toInt = 0 → ¬ (gi mem 27 5).toInt = 24 → (gi mem 27 5).toInt = 25 → ∀ (m134 : zM), aTm aT0 m134 → (fo 27 [] avF mem m134 ∧ cRd T n (tkf T n p).2 m134) → (gi m134 27 4).toInt = 4 → ¬ (gi m134 27 5).toInt = 40 → ∀ (v153 : Int32) (m151 : zM), aTm aT0 m151 → opH T n (tkf T n (tkf T n p).2).2 x.toInt 0 m134 v153.toInt m151 → ¬ (v153).toInt = 0 → ∀ (v157 : Int32) (q158 : Int) (m155 : zM), aTm aT0 m155 → tH R A T n (tkf T n (tkf T n p).2).2 (pPair T n ru (cC R A m151) (3, 0, 1, [wIx T n p]) (bgA (f :: r)) (tkf T n (tkf T n p).2).2) (Mch T n ru (cC R A m151) ((3, 0, 1, [wIx T n p]) :: bgA (f :: r)) 0 (tkf T n (tkf T n p).2).2 = none) m151 v157.toInt q158 m155 → (v157).toInt = 0 → aTm aT0 m155 → P (some (.int 0)) m155) (h40 : ¬ (gi mem 27 4).toInt = 3 → ¬ (gi mem 27 4).toInt = 4 → (gi mem 27 4).toInt = 2 → ∀ (v12 : Int32), ((v12.toInt = 0 ∧ ¬ ivV ru (gi mem 27 5).toInt) ∨ (v12.toInt = 1 ∧ ivV ru (gi mem 27 5).toInt)) → (v12).toInt = 0 → ¬ (gi mem 27 5).toInt = 24 → (gi mem 27 5).toInt = 25 → ∀ (m134 : zM), aTm aT0 m134 → (fo 27 [] avF mem m134 ∧ cRd T n (tkf T n p).2 m134) → (gi m134 27 4).toInt = 4 → ¬ (gi m134 27 5).toInt = 40 → ∀ (v153 : Int32) (m151 : zM), aTm aT0 m151 → opH T n (tkf T n (tkf T n p).2).2 x.toInt 0 m134 v153.toInt m151 → ¬ (v153).toInt = 0 → ∀ (v157 : Int32) (q158 : Int) (m155 : zM), aTm aT0 m155 → tH R A T n (tkf T n (tkf T n p).2).2 (pPair T n ru (cC R A m151) (3, 0, 1, [wIx T n p]) (bgA (f :: r)) (tkf T n (tkf T n p).2).2) (Mch T n ru (cC R A m151) ((3, 0, 1, [wIx T n p]) :: bgA (f :: r)) 0 (tkf T n (tkf T n p).2).2 = none) m151 v157.toInt q158 m155 → ¬ (v157).toInt = 0 → ∀ (v162 : Int32) (m160 : zM), aTm aT0 m160 → (puQ R A (10000 + (gi mem 27 5)).toInt m155 m160 ∧ v162.toInt = 1) → (v162).toInt = 0 → aTm aT0 m160 → P (some (.int 0)) m160) (h41 : ¬ (gi mem 27 4).toInt = 3 → ¬ (gi mem 27 4).toInt = 4 → (gi mem 27 4).toInt = 2 → ∀ (v12 : Int32), ((v12.toInt = 0 ∧ ¬ ivV ru (gi mem 27 5).toInt) ∨ (v12.toInt = 1 ∧ ivV ru (gi mem 27 5).toInt)) → (v12).toInt = 0 → ¬ (gi mem 27 5).toInt = 24 → (gi mem 27 5).toInt = 25 → ∀ (m134 : zM), aTm aT0 m134 → (fo 27 [] avF mem m134 ∧ cRd T n (tkf T n p).2 m134) → (gi m134 27 4).toInt = 4 → ¬ (gi m134 27 5).toInt = 40 → ∀ (v153 : Int32) (m151 : zM), aTm aT0 m151 → opH T n (tkf T n (tkf T n p).2).2 x.toInt 0 m134 v153.toInt m151 → ¬ (v153).toInt = 0 → ∀ (v157 : Int32) (q158 : Int) (m155 : zM), aTm aT0 m155 → tH R A T n (tkf T n (tkf T n p).2).2 (pPair T n ru (cC R A m151) (3, 0, 1, [wIx T n p]) (bgA (f :: r)) (tkf T n (tkf T n p).2).2) (Mch T n ru (cC R A m151) ((3, 0, 1, [wIx T n p]) :: bgA (f :: r)) 0 (tkf T n (tkf T n p).2).2 = none) m151 v157.toInt q158 m155 → ¬ (v157).toInt = 0 → ∀ (v162 : Int32) (m160 : zM), aTm aT0 m160 → (puQ R A (10000 + (gi mem 27 5)).toInt m155 m160 ∧ v162.toInt = 1) → ¬ (v162).toInt = 0 → aTm aT0 m160 → P (some (.int 1)) m160) (s24 : ¬ (gi mem 27 4).toInt = 3 → ¬ (gi mem 27 4).toInt = 4 → (gi mem 27 4).toInt = 2 → ∀ (v12 : Int32), ((v12.toInt = 0 ∧ ¬ ivV ru (gi mem 27 5).toInt) ∨ (v12.toInt = 1 ∧ ivV ru (gi mem 27 5).toInt)) → (v12).toInt = 0 → ¬ (gi mem 27 5).toInt = 24 → (gi mem 27 5).toInt = 25 → ∀ (m134 : zM), aTm aT0 m134 → (fo 27 [] avF mem m134 ∧ cRd T n (tkf T n p).2 m134) → (gi m134 27 4).toInt = 4 → (gi m134 27 5).toInt = 40 → ¬ (1 : Int) = 0 → ¬ (tkf T n (tkf T n p).2).1.1 = 4) (h42 : ¬ (gi mem 27 4).toInt = 3 → ¬ (gi mem 27 4).toInt = 4 → (gi mem 27 4).toInt = 2 → ∀ (v12 : Int32), ((v12.toInt = 0 ∧ ¬ ivV ru (gi mem 27 5).toInt) ∨ (v12.toInt = 1 ∧ ivV ru (gi mem 27 5).toInt)) → (v12).toInt = 0 → ¬ (gi mem 27 5).toInt = 24 → (gi mem 27 5).toInt = 25 → ∀ (m134 : zM), aTm aT0 m134 → (fo 27 [] avF mem m134 ∧ cRd T n (tkf T n p).2 m134) → (gi m134 27 4).toInt = 4 → (gi m134 27 5).toInt = 40 → ∀ (v166 : Int32) (m164 : zM), aTm aT0 m164 → opH T n (tkf T n (tkf T n p).2).2 x.toInt 1 m134 v166.toInt m164 → (v166).toInt = 0 → aTm aT0 m164 → P (some (.int 0)) m164) (s25 : ¬ (gi mem 27 4).toInt = 3 → ¬ (gi mem 27 4).toInt = 4 → (gi mem 27 4).toInt = 2 → ∀ (v12 : Int32), ((v12.toInt = 0 ∧ ¬ ivV ru (gi mem 27 5).toInt) ∨ (v12.toInt = 1 ∧ ivV ru (gi mem 27 5).toInt)) → (v12).toInt = 0 → ¬ (gi mem 27 5).toInt = 24 → (gi mem 27 5).toInt = 25 → ∀ (m134 : zM), aTm aT0 m134 → (fo 27 [] avF mem m134 ∧ cRd T n (tkf T n p).2 m134) → (gi m134 27 4).toInt = 4 → (gi m134 27 5).toInt = 40 → ∀ (v166 : Int32) (m164 : zM), aTm aT0 m164 → opH T n (tkf T n (tkf T n p).2).2 x.toInt 1 m134 v166.toInt m164 → ¬ (v166).toInt = 0 → (gi m164 R 3).toInt ≤ (tkf T n (tkf T n p).2).2) (h43 : ¬ (gi mem 27 4).toInt = 3 → ¬ (gi mem 27 4).toInt = 4 → (gi mem 27 4).toInt = 2 → ∀ (v12 : Int32), ((v12.toInt = 0 ∧ ¬ ivV ru (gi mem 27 5).toInt) ∨ (v12.toInt = 1 ∧ ivV ru (gi mem 27 5).toInt)) → (v12).toInt = 0 → ¬ (gi mem 27 5).toInt = 24 → (gi mem 27 5).toInt = 25 → ∀ (m134 : zM), aTm aT0 m134 → (fo 27 [] avF mem m134 ∧ cRd T n (tkf T n p).2 m134) → (gi m134 27 4).toInt = 4 → (gi m134 27 5).toInt = 40 → ∀ (v166 : Int32) (m164 : zM), aTm aT0 m164 → opH T n (tkf T n (tkf T n p).2).2 x.toInt 1 m134 v166.toInt m164 → ¬ (v166).toInt = 0 → ∀ (v170 : Int32) (q171 : Int) (m168 : zM), aTm aT0 m168 → tH R A T n (tkf T n (tkf T n p).2).2 (pPair T n ru (cC R A m164) (3, 0, 1, [wIx T n p]) (bgA (f :: r)) (tkf T n (tkf T n p).2).2) (Mch T n ru (cC R A m164) ((3, 0, 1, [wIx T n p]) :: bgA (f :: r)) 0 (tkf T n (tkf T n p).2).2 = none) m164 v170.toInt q171 m168 → (v170).toInt = 0 → aTm aT0 m168 → P (some (.int 0)) m168) (h44 : ¬ (gi mem 27 4).toInt = 3 → ¬ (gi mem 27 4).toInt = 4 → (gi mem 27 4).toInt = 2 → ∀ (v12 : Int32), ((v12.toInt = 0 ∧ ¬ ivV ru (gi mem 27 5).toInt) ∨ (v12.toInt = 1 ∧ ivV ru (gi mem 27 5).toInt)) → (v12).toInt = 0 → ¬ (gi mem 27 5).toInt = 24 → (gi mem 27 5).toInt = 25 → ∀ (m134 : zM), aTm aT0 m134 → (fo 27 [] avF mem m134 ∧ cRd T n (tkf T n p).2 m134) → (gi m134 27 4).toInt = 4 → (gi m134 27 5).toInt = 40 → ∀ (v166 : Int32) (m164 : zM), aTm aT0 m164 → opH T n (tkf T n (tkf T n p).2).2 x.toInt 1 m134 v166.toInt m164 → ¬ (v166).toInt = 0 → ∀ (v170 : Int32) (q171 : Int) (m168 : zM), aTm aT0 m168 → tH R A T n (tkf T n (tkf T n p).2).2 (pPair T n ru (cC R A m164) (3, 0, 1, [wIx T n p]) (bgA (f :: r)) (tkf T n (tkf T n p).2).2) (Mch T n ru (cC R A m164) ((3, 0, 1, [wIx T n p]) :: bgA (f :: r)) 0 (tkf T n (tkf T n p).2).2 = none) m164 v170.toInt q171 m168 → ¬ (v170).toInt = 0 → ∀ (v175 : Int32) (m173 : zM), aTm aT0 m173 → (puQ R A (10000 + (gi mem 27 5)).toInt m168 m173 ∧ v175.toInt = 1) → (v175).toInt = 0 → aTm aT0 m173 → P (some (.int 0)) m173) (h45 : ¬ (gi mem 27 4).toInt = 3 → ¬ (gi mem 27 4).toInt = 4 → (gi mem 27 4).toInt = 2 → ∀ (v12 : Int32), ((v12.toInt = 0 ∧ ¬ ivV ru (gi mem 27 5).toInt) ∨ (v12.toInt = 1 ∧ ivV ru (gi mem 27 5).toInt)) → (v12).toInt = 0 → ¬ (gi mem 27 5).toInt = 24 → (gi mem 27 5).toInt = 25 → ∀ (m134 : zM), aTm aT0 m134 → (fo 27 [] avF mem m134 ∧ cRd T n (tkf T n p).2 m134) → (gi m134 27 4).toInt = 4 → (gi m134 27 5).toInt = 40 → ∀ (v166 : Int32) (m164 : zM), aTm aT0 m164 → opH T n (tkf T n (tkf T n p).2).2 x.toInt 1 m134 v166.toInt m164 → ¬ (v166).toInt = 0 → ∀ (v170 : Int32) (q171 : Int) (m168 : zM), aTm aT0 m168 → tH R A T n (tkf T n (tkf T n p).2).2 (pPair T n ru (cC R A m164) (3, 0, 1, [wIx T n p]) (bgA (f :: r)) (tkf T n (tkf T n p).2).2) (Mch T n ru (cC R A m164) ((3, 0, 1, [wIx T n p]) :: bgA (f :: r)) 0 (tkf T n (tkf T n p).2).2 = none) m164 v170.toInt q171 m168 → ¬ (v170).toInt = 0 → ∀ (v175 : Int32) (m173 : zM), aTm aT0 m173 → (puQ R A (10000 + (gi mem 27 5)).toInt m168 m173 ∧ v175.toInt = 1) → ¬ (v175).toInt = 0 → aTm aT0 m173 → P (some (.int 1)) m173) (s26 : ¬ (gi mem 27 4).toInt = 3 → ¬ (gi mem 27 4).toInt = 4 → (gi mem 27 4).toInt = 2 → ∀ (v12 : Int32), ((v12.toInt = 0 ∧ ¬ ivV ru (gi mem 27 5).toInt) ∨ (v12.toInt = 1 ∧ ivV ru (gi mem 27 5).toInt)) → ¬ (v12).toInt = 0 → ¬ (tkf T n p).1.1 = 4) (h46 : ¬ (gi mem 27 4).toInt = 3 → ¬ (gi mem 27 4).toInt = 4 → (gi mem 27 4).toInt = 2 → ∀ (v12 : Int32), ((v12.toInt = 0 ∧ ¬ ivV ru (gi mem 27 5).toInt) ∨ (v12.toInt = 1 ∧ ivV ru (gi mem 27 5).toInt)) → ¬ (v12).toInt = 0 → ∀ (m177 : zM), aTm aT0 m177 → (fo 27 [] avF mem m177 ∧ cRd T n (tkf T n p).2 m177) → ∀ (v181 : Int32) (m179 : zM), aTm aT0 m179 → (puQ R A (10000 + (gi mem 27 5)).toInt m177 m179 ∧ v181.toInt = 1) → aTm aT0 m179 → P (some (.int v181)) m179) (h47 : ¬ (gi mem 27 4).toInt = 3 → (gi mem 27 4).toInt = 4 → ¬ (gi mem 27 5).toInt = 40 → ∀ (v183 : Int32), ((v183.toInt = 0 ∧ ¬ ivV ru ((-1) : Int)) ∨ (v183.toInt = 1 ∧ ivV ru ((-1) : Int))) → (v183).toInt = 0 → aTm aT0 (si (si mem 27 10 1) 27 11 (gi mem 27 7)) → P (some (.int 0)) (si (si mem 27 10 1) 27 11 (gi mem 27 7))) (s27 : ¬ (gi mem 27 4).toInt = 3 → (gi mem 27 4).toInt = 4 → ¬ (gi mem 27 5).toInt = 40 → ∀ (v183 : Int32), ((v183.toInt = 0 ∧ ¬ ivV ru ((-1) : Int)) ∨ (v183.toInt = 1 ∧ ivV ru ((-1) : Int))) → ¬ (v183).toInt = 0 → ¬ (tkf T n p).1.1 = 4) (h48 : ¬ (gi mem 27 4).toInt = 3 → (gi mem 27 4).toInt = 4 → ¬ (gi mem 27 5).toInt = 40 → ∀ (v183 : Int32), ((v183.toInt = 0 ∧ ¬ ivV ru ((-1) : Int)) ∨ (v183.toInt = 1 ∧ ivV ru ((-1) : Int))) → ¬ (v183).toInt = 0 → ∀ (m186 : zM), aTm aT0 m186 → (fo 27 [] avF mem m186 ∧ cRd T n (tkf T n p).2 m186) → ∀ (v190 : Int32) (m188 : zM), aTm aT0 m188 → (puQ R A ((10000 + (-1) : Int32)).toInt m186 m188 ∧ v190.toInt = 1) → aTm aT0 m188 → P (some (.int v190)) m188) (s28 : ¬ (gi mem 27 4).toInt = 3 → (gi mem 27 4).toInt = 4 → (gi mem 27 5).toInt = 40 → ¬ (1 : Int) = 0 → ¬ (tkf T n p).1.1 = 4) (h49 : ¬ (gi mem 27 4).toInt = 3 → (gi mem 27 4).toInt = 4 → (gi mem 27 5).toInt = 40 → ∀ (v193 : Int32) (m191 : zM), aTm aT0 m191 → opH T n (tkf T n p).2 x.toInt 1 mem v193.toInt m191 → (v193).toInt = 0 → aTm aT0 m191 → P (some (.int 0)) m191) (s29 : ¬ (gi mem 27 4).toInt = 3 → (gi mem 27 4).toInt = 4 → (gi mem 27 5).toInt = 40 → ∀ (v193 : Int32) (m191 : zM), aTm aT0 m191 → opH T n (tkf T n p).2 x.toInt 1 mem v193.toInt m191 → ¬ (v193).toInt = 0 → (gi m191 R 3).toInt ≤ (tkf T n p).2) (h50 : ¬ (gi mem 27 4).toInt = 3 → (gi mem 27 4).toInt = 4 → (gi mem 27 5).toInt = 40 → ∀ (v193 : Int32) (m191 : zM), aTm aT0 m191 → opH T n (tkf T n p).2 x.toInt 1 mem v193.toInt m191 → ¬ (v193).toInt = 0 → ∀ (v197 : Int32) (q198 : Int) (m195 : zM), aTm aT0 m195 → tH R A T n (tkf T n p).2 (pSum T n ru (cC R A m191) (2, 0, 1, []) (bgA (f :: r)) (tkf T n p).2) (Mch T n ru (cC R A m191) ((2, 0, 1, []) :: bgA (f :: r)) 0 (tkf T n p).2 = none) m191 v197.toInt q198 m195 → (v197).toInt = 0 → aTm aT0 m195 → P (some (.int 0)) m195) (h51 : ¬ (gi mem 27 4).toInt = 3 → (gi mem 27 4).toInt = 4 → (gi mem 27 5).toInt = 40 → ∀ (v193 : Int32) (m191 : zM), aTm aT0 m191 → opH T n (tkf T n p).2 x.toInt 1 mem v193.toInt m191 → ¬ (v193).toInt = 0 → ∀ (v197 : Int32) (q198 : Int) (m195 : zM), aTm aT0 m195 → tH R A T n (tkf T n p).2 (pSum T n ru (cC R A m191) (2, 0, 1, []) (bgA (f :: r)) (tkf T n p).2) (Mch T n ru (cC R A m191) ((2, 0, 1, []) :: bgA (f :: r)) 0 (tkf T n p).2 = none) m191 v197.toInt q198 m195 → ¬ (v197).toInt = 0 → ∀ (v202 : Int32) (q203 : Int) (m200 : zM), aTm aT0 m200 → (fo 27 [] rdF2 m195 m200 ∧ ((v202.toInt = 1 ∧ sSgn T n 41 q198 = some q203 ∧ cRd T n q203 m200) ∨ (v202.toInt = 0 ∧ sSgn T n 41 q198 = none))) → (v202).toInt = 0 → aTm aT0 m200 → P (some (.int 0)) m200) (h52 : ¬ (gi mem 27 4).toInt = 3 → (gi mem 27 4).toInt = 4 → (gi mem 27 5).toInt = 40 → ∀ (v193 : Int32) (m191 : zM), aTm aT0 m191 → opH T n (tkf T n p).2 x.toInt 1 mem v193.toInt m191 → ¬ (v193).toInt = 0 → ∀ (v197 : Int32) (q198 : Int) (m195 : zM), aTm aT0 m195 → tH R A T n (tkf T n p).2 (pSum T n ru (cC R A m191) (2, 0, 1, []) (bgA (f :: r)) (tkf T n p).2) (Mch T n ru (cC R A m191) ((2, 0, 1, []) :: bgA (f :: r)) 0 (tkf T n p).2 = none) m191 v197.toInt q198 m195 → ¬ (v197).toInt = 0 → ∀ (v202 : Int32) (q203 : Int) (m200 : zM), aTm aT0 m200 → (fo 27 [] rdF2 m195 m200 ∧ ((v202.toInt = 1 ∧ sSgn T n 41 q198 = some q203 ∧ cRd T n q203 m200) ∨ (v202.toInt = 0 ∧ sSgn T n 41 q198 = none))) → ¬ (v202).toInt = 0 → aTm aT0 m200 → P (some (.int 1)) m200) (s30 : (gi mem 27 4).toInt = 3 → ∀ (v207 : Int32) (m205 : zM), aTm aT0 m205 → (puQ R A (gi mem 27 5).toInt mem m205 ∧ v207.toInt = 1) → ¬ (tkf T n p).1.1 = 4) (h53 : (gi mem 27 4).toInt = 3 → ∀ (v207 : Int32) (m205 : zM), aTm aT0 m205 → (puQ R A (gi mem 27 5).toInt mem m205 ∧ v207.toInt = 1) → ∀ (m208 : zM), aTm aT0 m208 → (fo 27 [] avF m205 m208 ∧ cRd T n (tkf T n p).2 m208) → aTm aT0 m208 → P (some (.int 1)) m208) : yR zpg tX10_takesPart (d + 1) (0, [(0, .ref 30), (1, .int x)], [], mem) P := by
  refine yR_m 1 (fun _ _ _ _ => rfl) ?_
  refine wR_gr rfl sO_e sO_0 hm ?_
  refine wR_gi rfl rO_e rO_4 hm rfl ?_
  refine yR_m 1 (fun _ _ _ _ => rfl) ?_
  refine wR_ic_ne rfl (a := (gi mem 27 4).toInt) (c := 3) rfl rfl (fun q1 => ?_) (fun q1 => ?_)
  ·
    refine yR_m 1 (fun _ _ _ _ => rfl) ?_
    refine wR_gr rfl sO_e sO_0 hm ?_
    refine yR_m 1 (fun _ _ _ _ => rfl) ?_
    refine wR_iv rfl rfl rO_e hm rfl rfl rfl rfl ?_
    show yR zpg tX5_isSign d (0, [(0, .ref 27), (1, .int 40)], [], mem) _
    refine yR_m 1 (fun _ _ _ _ => rfl) ?_
    refine wR_gi rfl rO_e rO_4 hm rfl ?_
    refine yR_m 1 (fun _ _ _ _ => rfl) ?_
    refine wR_ic_ne rfl (a := (gi mem 27 4).toInt) (c := 4) rfl rfl (fun q2 => ?_) (fun q2 => ?_)
    ·
      refine yR_m 1 (fun _ _ _ _ => rfl) ?_
      refine yR_rz rfl ⟨by decide, by decide⟩ ?_
      show yR zpg tX10_takesPart (d + 1) (44, [(0, .ref 30), (1, .int x)], [.int 0], mem) _
      refine wR_if_eq rfl (a := 0) rfl (fun _ => ?_) (fun q => by exfalso; omega)
      refine yR_m 1 (fun _ _ _ _ => rfl) ?_
      refine wR_gr rfl sO_e sO_0 hm ?_
      refine wR_gi rfl rO_e rO_4 hm rfl ?_
      refine yR_m 1 (fun _ _ _ _ => rfl) ?_
      refine wR_ic_ne rfl (a := (gi mem 27 4).toInt) (c := 2) rfl rfl (fun q3 => ?_) (fun q3 => ?_)
      ·
        refine yR_m 4 (fun _ _ _ _ => rfl) ?_
        refine wR_cv rfl rfl sO_e hm rfl (h_ivC hm (hru) (by omega)) ?_
        rintro _ _ ⟨v4, rfl, rfl, k5⟩
        show yR zpg tX10_takesPart (d + 1) (112, [(2, .int (-1)), (0, .ref 30), (1, .int x)], [.int v4], mem) _
        refine wR_if_eq rfl (a := (v4).toInt) rfl (fun q6 => ?_) (fun q6 => ?_)
        ·
          refine yR_m 2 (fun _ _ _ _ => rfl) ?_
          refine wR_ic_eq rfl (a := (-1)) (c := 24) tm1 rfl (fun q => by exfalso; omega) (fun _ => ?_)
          refine yR_m 2 (fun _ _ _ _ => rfl) ?_
          refine wR_ic_ne rfl (a := (-1)) (c := 25) tm1 rfl (fun _ => ?_) (fun q => by exfalso; omega)
          refine yR_m 2 (fun _ _ _ _ => rfl) ?_
          refine wR_ic_ne rfl (a := (-1)) (c := 19) tm1 rfl (fun _ => ?_) (fun q => by exfalso; omega)
          refine yR_m 1 (fun _ _ _ _ => rfl) ?_
          refine wR_gr rfl sO_e sO_0 hm ?_
          refine yR_m 2 (fun _ _ _ _ => rfl) ?_
          refine wR_gr rfl sO_e sO_0 hm ?_
          refine wR_gi rfl rO_e rO_7 hm rfl ?_
          refine wR_iv rfl rfl rO_e hm rfl rfl rfl rfl ?_
          show yR zpg tX5_faults d (0, [(0, .ref 27), (1, .int 1), (2, .int (gi mem 27 7))], [], mem) _
          refine yR_m 2 (fun _ _ _ _ => rfl) ?_
          refine wR_pi rfl rO_e rO_10 hm rfl ?_
          have hm_1 : aTm aT0 (si mem 27 10 1) := tm_si rO_e rO_10 hm (i32_b _)
          refine yR_m 2 (fun _ _ _ _ => rfl) ?_
          refine wR_pi rfl rO_e rO_11 hm_1 rfl ?_
          have hm_2 : aTm aT0 (si (si mem 27 10 1) 27 11 (gi mem 27 7)) := tm_si rO_e rO_11 hm_1 (i32_b _)
          refine yR_m 1 (fun _ _ _ _ => rfl) ?_
          refine yR_rz rfl ⟨by decide, by decide⟩ ?_
          show yR zpg tX10_takesPart (d + 1) (300, [(2, .int (-1)), (0, .ref 30), (1, .int x)], [.int 0], (si (si mem 27 10 1) 27 11 (gi mem 27 7))) _
          exact yR_rz rfl ⟨by decide, by decide⟩ (h1 q1 q2 q3 v4 k5 q6 hm_2)
        ·
          refine yR_m 1 (fun _ _ _ _ => rfl) ?_
          refine wR_gr rfl sO_e sO_0 hm ?_
          refine wR_cv rfl rfl rO_e hm rfl (h_avC (T := T) (n := n) (p := p) hm (cRd_t hR) (s1 q1 q2 q3 v4 k5 q6) (by omega)) ?_
          rintro _ m7 ⟨rfl, hI7, k8⟩
          show yR zpg tX10_takesPart (d + 1) (122, [(2, .int (-1)), (0, .ref 30), (1, .int x)], [], m7) _
          refine yR_m 1 (fun _ _ _ _ => rfl) ?_
          refine wR_gq rfl sO_e hI7 ((c2_30 hA (c2_tr c2_rf (c2_fo hA k8.1 rfl))).trans hr) ?_
          refine yR_m 3 (fun _ _ _ _ => rfl) ?_
          refine wR_cv rfl rfl hRo_e hI7 rfl (h_putC hA hI7 (by omega)) ?_
          rintro _ m9 ⟨v11, rfl, hm9, k10⟩
          show yR zpg tX10_takesPart (d + 1) (134, [(2, .int (-1)), (0, .ref 30), (1, .int x)], [.int v11], m9) _
          exact yR_rz rfl (by omega) (h2 q1 q2 q3 v4 k5 q6 m7 hI7 k8 v11 m9 hm9 k10 hm9)
      ·
        refine yR_m 1 (fun _ _ _ _ => rfl) ?_
        refine wR_gr rfl sO_e sO_0 hm ?_
        refine wR_gi rfl rO_e rO_5 hm rfl ?_
        refine yR_m 4 (fun _ _ _ _ => rfl) ?_
        refine wR_cv rfl rfl sO_e hm rfl (h_ivC hm (hru) (by omega)) ?_
        rintro _ _ ⟨v12, rfl, rfl, k13⟩
        show yR zpg tX10_takesPart (d + 1) (112, [(2, .int (gi mem 27 5)), (0, .ref 30), (1, .int x)], [.int v12], mem) _
        refine wR_if_eq rfl (a := (v12).toInt) rfl (fun q14 => ?_) (fun q14 => ?_)
        ·
          refine yR_m 2 (fun _ _ _ _ => rfl) ?_
          refine wR_ic_eq rfl (a := (gi mem 27 5).toInt) (c := 24) rfl rfl (fun q15 => ?_) (fun q15 => ?_)
          ·
            refine yR_m 1 (fun _ _ _ _ => rfl) ?_
            refine wR_gr rfl sO_e sO_0 hm ?_
            refine wR_cv rfl rfl rO_e hm rfl (h_avC (T := T) (n := n) (p := p) hm (cRd_t hR) (s2 q1 q2 q3 v12 k13 q14 q15) (by omega)) ?_
            rintro _ m16 ⟨rfl, hI16, k17⟩
            show yR zpg tX10_takesPart (d + 1) (154, [(2, .int (gi mem 27 5)), (0, .ref 30), (1, .int x)], [], m16) _
            refine yR_m 3 (fun _ _ _ _ => rfl) ?_
            refine wR_gr rfl sO_e sO_0 hI16 ?_
            refine yR_m 1 (fun _ _ _ _ => rfl) ?_
            refine wR_iv rfl rfl rO_e hI16 rfl rfl rfl rfl ?_
            show yR zpg tX5_isSign d (0, [(0, .ref 27), (1, .int 40)], [], m16) _
            refine yR_m 1 (fun _ _ _ _ => rfl) ?_
            refine wR_gi rfl rO_e rO_4 hI16 rfl ?_
            refine yR_m 1 (fun _ _ _ _ => rfl) ?_
            refine wR_ic_ne rfl (a := (gi m16 27 4).toInt) (c := 4) rfl rfl (fun q18 => ?_) (fun q18 => ?_)
            ·
              refine yR_m 1 (fun _ _ _ _ => rfl) ?_
              refine yR_rz rfl ⟨by decide, by decide⟩ ?_
              show yR zpg tX10_takesPart (d + 1) (165, [(2, .int (gi mem 27 5)), (0, .ref 30), (1, .int x)], [.int 0, .int x, .ref 30], m16) _
              refine wR_cv rfl rfl sO_e hI16 rfl (h_opC (T := T) (n := n) (p := (tkf T n p).2) hI16 (cRd_t k17.2) (s3 q1 q2 q3 v12 k13 q14 q15 m16 hI16 k17 q18) (by omega)) ?_
              rintro _ m19 ⟨v21, rfl, hm19, k20⟩
              show yR zpg tX10_takesPart (d + 1) (168, [(2, .int (gi mem 27 5)), (0, .ref 30), (1, .int x)], [.int v21], m19) _
              refine wR_if_eq rfl (a := (v21).toInt) rfl (fun q22 => ?_) (fun q22 => ?_)
              ·
                refine yR_m 1 (fun _ _ _ _ => rfl) ?_
                exact yR_rz rfl ⟨by decide, by decide⟩ (h3 q1 q2 q3 v12 k13 q14 q15 m16 hI16 k17 q18 v21 m19 hm19 k20 q22 hm19)
              ·
                refine yR_m 4 (fun _ _ _ _ => rfl) ?_
                refine wR_cv rfl rfl sO_e hm19 rfl (hP (by have := (op_1 k20 (by omega)).1.2; omega) _ _ _ (tkf T n (tkf T n p).2).2 (3, 0, 1, [wIx T n p]) (bgA (f :: r)) (by omega) (x1 (by have := (op_1 k20 (by omega)).1.2; omega)) hm19 (tB_c2 hB (c2_tr (c2_tr c2_rf (c2_fo hA k17.1 rfl)) (c2_fo hA k20.1 rfl)) ((op_1 k20 (by omega)).2) (s4 q1 q2 q3 v12 k13 q14 q15 m16 hI16 k17 q18 v21 m19 hm19 k20 q22)) ((opn_p (w0n hR (by omega) (by omega))).trans (by rw [hO])) ⟨rfl, rfl, _, rfl, w0r hR (by omega) (by omega)⟩) ?_
                rintro _ m23 ⟨v25, q26, rfl, hm23, k24⟩
                show yR zpg tX10_takesPart (d + 1) (178, [(2, .int (gi mem 27 5)), (0, .ref 30), (1, .int x)], [.int v25], m23) _
                refine wR_if_eq rfl (a := (v25).toInt) rfl (fun q27 => ?_) (fun q27 => ?_)
                ·
                  refine yR_m 1 (fun _ _ _ _ => rfl) ?_
                  exact yR_rz rfl ⟨by decide, by decide⟩ (h4 q1 q2 q3 v12 k13 q14 q15 m16 hI16 k17 q18 v21 m19 hm19 k20 q22 v25 q26 m23 hm23 k24 q27 hm23)
                ·
                  refine yR_m 1 (fun _ _ _ _ => rfl) ?_
                  refine wR_gq rfl sO_e hm23 ((c2_30 hA (c2_tr (c2_tr (c2_tr c2_rf (c2_fo hA k17.1 rfl)) (c2_fo hA k20.1 rfl)) k24.1)).trans hr) ?_
                  refine yR_m 3 (fun _ _ _ _ => rfl) ?_
                  refine wR_cv rfl rfl hRo_e hm23 rfl (h_putC hA hm23 (by omega)) ?_
                  rintro _ m28 ⟨v30, rfl, hm28, k29⟩
                  show yR zpg tX10_takesPart (d + 1) (193, [(2, .int (gi mem 27 5)), (0, .ref 30), (1, .int x)], [.int v30], m28) _
                  refine wR_if_eq rfl (a := (v30).toInt) rfl (fun q31 => ?_) (fun q31 => ?_)
                  ·
                    refine yR_m 1 (fun _ _ _ _ => rfl) ?_
                    exact yR_rz rfl ⟨by decide, by decide⟩ (h5 q1 q2 q3 v12 k13 q14 q15 m16 hI16 k17 q18 v21 m19 hm19 k20 q22 v25 q26 m23 hm23 k24 q27 v30 m28 hm28 k29 q31 hm28)
                  ·
                    refine yR_m 2 (fun _ _ _ _ => rfl) ?_
                    exact yR_rz rfl ⟨by decide, by decide⟩ (h6 q1 q2 q3 v12 k13 q14 q15 m16 hI16 k17 q18 v21 m19 hm19 k20 q22 v25 q26 m23 hm23 k24 q27 v30 m28 hm28 k29 q31 hm28)
            ·
              refine yR_m 1 (fun _ _ _ _ => rfl) ?_
              refine wR_gi rfl rO_e rO_5 hI16 rfl ?_
              refine yR_m 1 (fun _ _ _ _ => rfl) ?_
              refine wR_ic_ne rfl (a := (gi m16 27 5).toInt) (c := 40) rfl rfl (fun q32 => ?_) (fun q32 => ?_)
              ·
                refine yR_m 1 (fun _ _ _ _ => rfl) ?_
                refine yR_rz rfl ⟨by decide, by decide⟩ ?_
                show yR zpg tX10_takesPart (d + 1) (165, [(2, .int (gi mem 27 5)), (0, .ref 30), (1, .int x)], [.int 0, .int x, .ref 30], m16) _
                refine wR_cv rfl rfl sO_e hI16 rfl (h_opC (T := T) (n := n) (p := (tkf T n p).2) hI16 (cRd_t k17.2) (s5 q1 q2 q3 v12 k13 q14 q15 m16 hI16 k17 q18 q32) (by omega)) ?_
                rintro _ m33 ⟨v35, rfl, hm33, k34⟩
                show yR zpg tX10_takesPart (d + 1) (168, [(2, .int (gi mem 27 5)), (0, .ref 30), (1, .int x)], [.int v35], m33) _
                refine wR_if_eq rfl (a := (v35).toInt) rfl (fun q36 => ?_) (fun q36 => ?_)
                ·
                  refine yR_m 1 (fun _ _ _ _ => rfl) ?_
                  exact yR_rz rfl ⟨by decide, by decide⟩ (h7 q1 q2 q3 v12 k13 q14 q15 m16 hI16 k17 q18 q32 v35 m33 hm33 k34 q36 hm33)
                ·
                  refine yR_m 4 (fun _ _ _ _ => rfl) ?_
                  refine wR_cv rfl rfl sO_e hm33 rfl (hP (by have := (op_1 k34 (by omega)).1.2; omega) _ _ _ (tkf T n (tkf T n p).2).2 (3, 0, 1, [wIx T n p]) (bgA (f :: r)) (by omega) (x1 (by have := (op_1 k34 (by omega)).1.2; omega)) hm33 (tB_c2 hB (c2_tr (c2_tr c2_rf (c2_fo hA k17.1 rfl)) (c2_fo hA k34.1 rfl)) ((op_1 k34 (by omega)).2) (s6 q1 q2 q3 v12 k13 q14 q15 m16 hI16 k17 q18 q32 v35 m33 hm33 k34 q36)) ((opn_p (w0n hR (by omega) (by omega))).trans (by rw [hO])) ⟨rfl, rfl, _, rfl, w0r hR (by omega) (by omega)⟩) ?_
                  rintro _ m37 ⟨v39, q40, rfl, hm37, k38⟩
                  show yR zpg tX10_takesPart (d + 1) (178, [(2, .int (gi mem 27 5)), (0, .ref 30), (1, .int x)], [.int v39], m37) _
                  refine wR_if_eq rfl (a := (v39).toInt) rfl (fun q41 => ?_) (fun q41 => ?_)
                  ·
                    refine yR_m 1 (fun _ _ _ _ => rfl) ?_
                    exact yR_rz rfl ⟨by decide, by decide⟩ (h8 q1 q2 q3 v12 k13 q14 q15 m16 hI16 k17 q18 q32 v35 m33 hm33 k34 q36 v39 q40 m37 hm37 k38 q41 hm37)
                  ·
                    refine yR_m 1 (fun _ _ _ _ => rfl) ?_
                    refine wR_gq rfl sO_e hm37 ((c2_30 hA (c2_tr (c2_tr (c2_tr c2_rf (c2_fo hA k17.1 rfl)) (c2_fo hA k34.1 rfl)) k38.1)).trans hr) ?_
                    refine yR_m 3 (fun _ _ _ _ => rfl) ?_
                    refine wR_cv rfl rfl hRo_e hm37 rfl (h_putC hA hm37 (by omega)) ?_
                    rintro _ m42 ⟨v44, rfl, hm42, k43⟩
                    show yR zpg tX10_takesPart (d + 1) (193, [(2, .int (gi mem 27 5)), (0, .ref 30), (1, .int x)], [.int v44], m42) _
                    refine wR_if_eq rfl (a := (v44).toInt) rfl (fun q45 => ?_) (fun q45 => ?_)
                    ·
                      refine yR_m 1 (fun _ _ _ _ => rfl) ?_
                      exact yR_rz rfl ⟨by decide, by decide⟩ (h9 q1 q2 q3 v12 k13 q14 q15 m16 hI16 k17 q18 q32 v35 m33 hm33 k34 q36 v39 q40 m37 hm37 k38 q41 v44 m42 hm42 k43 q45 hm42)
                    ·
                      refine yR_m 2 (fun _ _ _ _ => rfl) ?_
                      exact yR_rz rfl ⟨by decide, by decide⟩ (h10 q1 q2 q3 v12 k13 q14 q15 m16 hI16 k17 q18 q32 v35 m33 hm33 k34 q36 v39 q40 m37 hm37 k38 q41 v44 m42 hm42 k43 q45 hm42)
              ·
                refine yR_m 2 (fun _ _ _ _ => rfl) ?_
                refine yR_rz rfl ⟨by decide, by decide⟩ ?_
                show yR zpg tX10_takesPart (d + 1) (165, [(2, .int (gi mem 27 5)), (0, .ref 30), (1, .int x)], [.int 1, .int x, .ref 30], m16) _
                refine wR_cv rfl rfl sO_e hI16 rfl (h_opC (T := T) (n := n) (p := (tkf T n p).2) hI16 (cRd_t k17.2) (s7 q1 q2 q3 v12 k13 q14 q15 m16 hI16 k17 q18 q32) (by omega)) ?_
                rintro _ m46 ⟨v48, rfl, hm46, k47⟩
                show yR zpg tX10_takesPart (d + 1) (168, [(2, .int (gi mem 27 5)), (0, .ref 30), (1, .int x)], [.int v48], m46) _
                refine wR_if_eq rfl (a := (v48).toInt) rfl (fun q49 => ?_) (fun q49 => ?_)
                ·
                  refine yR_m 1 (fun _ _ _ _ => rfl) ?_
                  exact yR_rz rfl ⟨by decide, by decide⟩ (h11 q1 q2 q3 v12 k13 q14 q15 m16 hI16 k17 q18 q32 v48 m46 hm46 k47 q49 hm46)
                ·
                  refine yR_m 4 (fun _ _ _ _ => rfl) ?_
                  refine wR_cv rfl rfl sO_e hm46 rfl (hP (by have := (op_1 k47 (by omega)).1.2; omega) _ _ _ (tkf T n (tkf T n p).2).2 (3, 0, 1, [wIx T n p]) (bgA (f :: r)) (by omega) (x1 (by have := (op_1 k47 (by omega)).1.2; omega)) hm46 (tB_c2 hB (c2_tr (c2_tr c2_rf (c2_fo hA k17.1 rfl)) (c2_fo hA k47.1 rfl)) ((op_1 k47 (by omega)).2) (s8 q1 q2 q3 v12 k13 q14 q15 m16 hI16 k17 q18 q32 v48 m46 hm46 k47 q49)) ((opn_p (w0n hR (by omega) (by omega))).trans (by rw [hO])) ⟨rfl, rfl, _, rfl, w0r hR (by omega) (by omega)⟩) ?_
                  rintro _ m50 ⟨v52, q53, rfl, hm50, k51⟩
                  show yR zpg tX10_takesPart (d + 1) (178, [(2, .int (gi mem 27 5)), (0, .ref 30), (1, .int x)], [.int v52], m50) _
                  refine wR_if_eq rfl (a := (v52).toInt) rfl (fun q54 => ?_) (fun q54 => ?_)
                  ·
                    refine yR_m 1 (fun _ _ _ _ => rfl) ?_
                    exact yR_rz rfl ⟨by decide, by decide⟩ (h12 q1 q2 q3 v12 k13 q14 q15 m16 hI16 k17 q18 q32 v48 m46 hm46 k47 q49 v52 q53 m50 hm50 k51 q54 hm50)
                  ·
                    refine yR_m 1 (fun _ _ _ _ => rfl) ?_
                    refine wR_gq rfl sO_e hm50 ((c2_30 hA (c2_tr (c2_tr (c2_tr c2_rf (c2_fo hA k17.1 rfl)) (c2_fo hA k47.1 rfl)) k51.1)).trans hr) ?_
                    refine yR_m 3 (fun _ _ _ _ => rfl) ?_
                    refine wR_cv rfl rfl hRo_e hm50 rfl (h_putC hA hm50 (by omega)) ?_
                    rintro _ m55 ⟨v57, rfl, hm55, k56⟩
                    show yR zpg tX10_takesPart (d + 1) (193, [(2, .int (gi mem 27 5)), (0, .ref 30), (1, .int x)], [.int v57], m55) _
                    refine wR_if_eq rfl (a := (v57).toInt) rfl (fun q58 => ?_) (fun q58 => ?_)
                    ·
                      refine yR_m 1 (fun _ _ _ _ => rfl) ?_
                      exact yR_rz rfl ⟨by decide, by decide⟩ (h13 q1 q2 q3 v12 k13 q14 q15 m16 hI16 k17 q18 q32 v48 m46 hm46 k47 q49 v52 q53 m50 hm50 k51 q54 v57 m55 hm55 k56 q58 hm55)
                    ·
                      refine yR_m 2 (fun _ _ _ _ => rfl) ?_
                      exact yR_rz rfl ⟨by decide, by decide⟩ (h14 q1 q2 q3 v12 k13 q14 q15 m16 hI16 k17 q18 q32 v48 m46 hm46 k47 q49 v52 q53 m50 hm50 k51 q54 v57 m55 hm55 k56 q58 hm55)
          ·
            refine yR_m 2 (fun _ _ _ _ => rfl) ?_
            refine wR_ic_ne rfl (a := (gi mem 27 5).toInt) (c := 25) rfl rfl (fun q59 => ?_) (fun q59 => ?_)
            ·
              refine yR_m 2 (fun _ _ _ _ => rfl) ?_
              refine wR_ic_ne rfl (a := (gi mem 27 5).toInt) (c := 19) rfl rfl (fun q60 => ?_) (fun q60 => ?_)
              ·
                refine yR_m 1 (fun _ _ _ _ => rfl) ?_
                refine wR_gr rfl sO_e sO_0 hm ?_
                refine yR_m 2 (fun _ _ _ _ => rfl) ?_
                refine wR_gr rfl sO_e sO_0 hm ?_
                refine wR_gi rfl rO_e rO_7 hm rfl ?_
                refine wR_iv rfl rfl rO_e hm rfl rfl rfl rfl ?_
                show yR zpg tX5_faults d (0, [(0, .ref 27), (1, .int 1), (2, .int (gi mem 27 7))], [], mem) _
                refine yR_m 2 (fun _ _ _ _ => rfl) ?_
                refine wR_pi rfl rO_e rO_10 hm rfl ?_
                have hm_3 : aTm aT0 (si mem 27 10 1) := tm_si rO_e rO_10 hm (i32_b _)
                refine yR_m 2 (fun _ _ _ _ => rfl) ?_
                refine wR_pi rfl rO_e rO_11 hm_3 rfl ?_
                have hm_4 : aTm aT0 (si (si mem 27 10 1) 27 11 (gi mem 27 7)) := tm_si rO_e rO_11 hm_3 (i32_b _)
                refine yR_m 1 (fun _ _ _ _ => rfl) ?_
                refine yR_rz rfl ⟨by decide, by decide⟩ ?_
                show yR zpg tX10_takesPart (d + 1) (300, [(2, .int (gi mem 27 5)), (0, .ref 30), (1, .int x)], [.int 0], (si (si mem 27 10 1) 27 11 (gi mem 27 7))) _
                exact yR_rz rfl ⟨by decide, by decide⟩ (h15 q1 q2 q3 v12 k13 q14 q15 q59 q60 hm_4)
              ·
                refine yR_m 1 (fun _ _ _ _ => rfl) ?_
                refine wR_gr rfl sO_e sO_0 hm ?_
                refine wR_cv rfl rfl rO_e hm rfl (h_avC (T := T) (n := n) (p := p) hm (cRd_t hR) (s9 q1 q2 q3 v12 k13 q14 q15 q59 q60) (by omega)) ?_
                rintro _ m61 ⟨rfl, hI61, k62⟩
                show yR zpg tX10_takesPart (d + 1) (215, [(2, .int (gi mem 27 5)), (0, .ref 30), (1, .int x)], [], m61) _
                refine yR_m 3 (fun _ _ _ _ => rfl) ?_
                refine wR_gr rfl sO_e sO_0 hI61 ?_
                refine yR_m 1 (fun _ _ _ _ => rfl) ?_
                refine wR_iv rfl rfl rO_e hI61 rfl rfl rfl rfl ?_
                show yR zpg tX5_isSign d (0, [(0, .ref 27), (1, .int 40)], [], m61) _
                refine yR_m 1 (fun _ _ _ _ => rfl) ?_
                refine wR_gi rfl rO_e rO_4 hI61 rfl ?_
                refine yR_m 1 (fun _ _ _ _ => rfl) ?_
                refine wR_ic_ne rfl (a := (gi m61 27 4).toInt) (c := 4) rfl rfl (fun q63 => ?_) (fun q63 => ?_)
                ·
                  refine yR_m 1 (fun _ _ _ _ => rfl) ?_
                  refine yR_rz rfl ⟨by decide, by decide⟩ ?_
                  show yR zpg tX10_takesPart (d + 1) (226, [(2, .int (gi mem 27 5)), (0, .ref 30), (1, .int x)], [.int 0, .int x, .ref 30], m61) _
                  refine wR_cv rfl rfl sO_e hI61 rfl (h_opC (T := T) (n := n) (p := (tkf T n p).2) hI61 (cRd_t k62.2) (s10 q1 q2 q3 v12 k13 q14 q15 q59 q60 m61 hI61 k62 q63) (by omega)) ?_
                  rintro _ m64 ⟨v66, rfl, hm64, k65⟩
                  show yR zpg tX10_takesPart (d + 1) (229, [(2, .int (gi mem 27 5)), (0, .ref 30), (1, .int x)], [.int v66], m64) _
                  refine wR_if_eq rfl (a := (v66).toInt) rfl (fun q67 => ?_) (fun q67 => ?_)
                  ·
                    refine yR_m 1 (fun _ _ _ _ => rfl) ?_
                    exact yR_rz rfl ⟨by decide, by decide⟩ (h16 q1 q2 q3 v12 k13 q14 q15 q59 q60 m61 hI61 k62 q63 v66 m64 hm64 k65 q67 hm64)
                  ·
                    refine yR_m 4 (fun _ _ _ _ => rfl) ?_
                    refine wR_cv rfl rfl sO_e hm64 rfl (hT (by have := (op_1 k65 (by omega)).1.2; omega) _ _ _ (tkf T n (tkf T n p).2).2 (6, 0, 1, [wIx T n p]) (bgA (f :: r)) (by omega) (x1 (by have := (op_1 k65 (by omega)).1.2; omega)) hm64 (tB_c2 hB (c2_tr (c2_tr c2_rf (c2_fo hA k62.1 rfl)) (c2_fo hA k65.1 rfl)) ((op_1 k65 (by omega)).2) (s11 q1 q2 q3 v12 k13 q14 q15 q59 q60 m61 hI61 k62 q63 v66 m64 hm64 k65 q67)) ((opn_p (w0n hR (by omega) (by omega))).trans (by rw [hO])) ⟨Or.inr (Or.inr rfl), rfl, rfl, hdk_1 (by rw [w0r hR (by omega) (by omega)]; decide)⟩) ?_
                    rintro _ m68 ⟨v70, q71, rfl, hm68, k69⟩
                    show yR zpg tX10_takesPart (d + 1) (239, [(2, .int (gi mem 27 5)), (0, .ref 30), (1, .int x)], [.int v70], m68) _
                    refine wR_if_eq rfl (a := (v70).toInt) rfl (fun q72 => ?_) (fun q72 => ?_)
                    ·
                      refine yR_m 1 (fun _ _ _ _ => rfl) ?_
                      exact yR_rz rfl ⟨by decide, by decide⟩ (h17 q1 q2 q3 v12 k13 q14 q15 q59 q60 m61 hI61 k62 q63 v66 m64 hm64 k65 q67 v70 q71 m68 hm68 k69 q72 hm68)
                    ·
                      refine yR_m 1 (fun _ _ _ _ => rfl) ?_
                      refine wR_gr rfl sO_e sO_0 hm68 ?_
                      refine yR_m 1 (fun _ _ _ _ => rfl) ?_
                      refine wR_cv rfl rfl rO_e hm68 rfl (h_sgC (R := R) (A := A) (T := T) (n := n) (p := q71) hA hm68 ((tH_1 k69 (by omega)).2.2.1) (by omega)) ?_
                      rintro _ m73 ⟨v75, q76, rfl, hm73, k74⟩
                      show yR zpg tX10_takesPart (d + 1) (251, [(2, .int (gi mem 27 5)), (0, .ref 30), (1, .int x)], [.int v75], m73) _
                      refine wR_if_eq rfl (a := (v75).toInt) rfl (fun q77 => ?_) (fun q77 => ?_)
                      ·
                        refine yR_m 1 (fun _ _ _ _ => rfl) ?_
                        exact yR_rz rfl ⟨by decide, by decide⟩ (h18 q1 q2 q3 v12 k13 q14 q15 q59 q60 m61 hI61 k62 q63 v66 m64 hm64 k65 q67 v70 q71 m68 hm68 k69 q72 v75 q76 m73 hm73 k74 q77 hm73)
                      ·
                        refine yR_m 4 (fun _ _ _ _ => rfl) ?_
                        refine wR_cv rfl rfl sO_e hm73 rfl (hP (by have := (op_1 k65 (by omega)).1.2; omega) _ _ _ q76 (3, 0, 1, [wIx T n p]) (bgA (f :: r)) (by omega) (x1 (by have := (op_1 k65 (by omega)).1.2; omega)) hm73 (tB_c2 hB (c2_tr (c2_tr (c2_tr (c2_tr c2_rf (c2_fo hA k62.1 rfl)) (c2_fo hA k65.1 rfl)) k69.1) (c2_fo hA k74.1 rfl)) ((sg_1 k74 (by omega)).2) (s12 q1 q2 q3 v12 k13 q14 q15 q59 q60 m61 hI61 k62 q63 v66 m64 hm64 k65 q67 v70 q71 m68 hm68 k69 q72 v75 q76 m73 hm73 k74 q77)) ((opn_p (w0n hR (by omega) (by omega))).trans (by rw [hO])) ⟨rfl, rfl, _, rfl, w0r hR (by omega) (by omega)⟩) ?_
                        rintro _ m78 ⟨v80, q81, rfl, hm78, k79⟩
                        show yR zpg tX10_takesPart (d + 1) (261, [(2, .int (gi mem 27 5)), (0, .ref 30), (1, .int x)], [.int v80], m78) _
                        refine wR_if_eq rfl (a := (v80).toInt) rfl (fun q82 => ?_) (fun q82 => ?_)
                        ·
                          refine yR_m 1 (fun _ _ _ _ => rfl) ?_
                          exact yR_rz rfl ⟨by decide, by decide⟩ (h19 q1 q2 q3 v12 k13 q14 q15 q59 q60 m61 hI61 k62 q63 v66 m64 hm64 k65 q67 v70 q71 m68 hm68 k69 q72 v75 q76 m73 hm73 k74 q77 v80 q81 m78 hm78 k79 q82 hm78)
                        ·
                          refine yR_m 1 (fun _ _ _ _ => rfl) ?_
                          refine wR_gq rfl sO_e hm78 ((c2_30 hA (c2_tr (c2_tr (c2_tr (c2_tr (c2_tr c2_rf (c2_fo hA k62.1 rfl)) (c2_fo hA k65.1 rfl)) k69.1) (c2_fo hA k74.1 rfl)) k79.1)).trans hr) ?_
                          refine yR_m 3 (fun _ _ _ _ => rfl) ?_
                          refine wR_cv rfl rfl hRo_e hm78 rfl (h_putC hA hm78 (by omega)) ?_
                          rintro _ m83 ⟨v85, rfl, hm83, k84⟩
                          show yR zpg tX10_takesPart (d + 1) (276, [(2, .int (gi mem 27 5)), (0, .ref 30), (1, .int x)], [.int v85], m83) _
                          refine wR_if_eq rfl (a := (v85).toInt) rfl (fun q86 => ?_) (fun q86 => ?_)
                          ·
                            refine yR_m 1 (fun _ _ _ _ => rfl) ?_
                            exact yR_rz rfl ⟨by decide, by decide⟩ (h20 q1 q2 q3 v12 k13 q14 q15 q59 q60 m61 hI61 k62 q63 v66 m64 hm64 k65 q67 v70 q71 m68 hm68 k69 q72 v75 q76 m73 hm73 k74 q77 v80 q81 m78 hm78 k79 q82 v85 m83 hm83 k84 q86 hm83)
                          ·
                            refine yR_m 2 (fun _ _ _ _ => rfl) ?_
                            exact yR_rz rfl ⟨by decide, by decide⟩ (h21 q1 q2 q3 v12 k13 q14 q15 q59 q60 m61 hI61 k62 q63 v66 m64 hm64 k65 q67 v70 q71 m68 hm68 k69 q72 v75 q76 m73 hm73 k74 q77 v80 q81 m78 hm78 k79 q82 v85 m83 hm83 k84 q86 hm83)
                ·
                  refine yR_m 1 (fun _ _ _ _ => rfl) ?_
                  refine wR_gi rfl rO_e rO_5 hI61 rfl ?_
                  refine yR_m 1 (fun _ _ _ _ => rfl) ?_
                  refine wR_ic_ne rfl (a := (gi m61 27 5).toInt) (c := 40) rfl rfl (fun q87 => ?_) (fun q87 => ?_)
                  ·
                    refine yR_m 1 (fun _ _ _ _ => rfl) ?_
                    refine yR_rz rfl ⟨by decide, by decide⟩ ?_
                    show yR zpg tX10_takesPart (d + 1) (226, [(2, .int (gi mem 27 5)), (0, .ref 30), (1, .int x)], [.int 0, .int x, .ref 30], m61) _
                    refine wR_cv rfl rfl sO_e hI61 rfl (h_opC (T := T) (n := n) (p := (tkf T n p).2) hI61 (cRd_t k62.2) (s13 q1 q2 q3 v12 k13 q14 q15 q59 q60 m61 hI61 k62 q63 q87) (by omega)) ?_
                    rintro _ m88 ⟨v90, rfl, hm88, k89⟩
                    show yR zpg tX10_takesPart (d + 1) (229, [(2, .int (gi mem 27 5)), (0, .ref 30), (1, .int x)], [.int v90], m88) _
                    refine wR_if_eq rfl (a := (v90).toInt) rfl (fun q91 => ?_) (fun q91 => ?_)
                    ·
                      refine yR_m 1 (fun _ _ _ _ => rfl) ?_
                      exact yR_rz rfl ⟨by decide, by decide⟩ (h22 q1 q2 q3 v12 k13 q14 q15 q59 q60 m61 hI61 k62 q63 q87 v90 m88 hm88 k89 q91 hm88)
                    ·
                      refine yR_m 4 (fun _ _ _ _ => rfl) ?_
                      refine wR_cv rfl rfl sO_e hm88 rfl (hT (by have := (op_1 k89 (by omega)).1.2; omega) _ _ _ (tkf T n (tkf T n p).2).2 (6, 0, 1, [wIx T n p]) (bgA (f :: r)) (by omega) (x1 (by have := (op_1 k89 (by omega)).1.2; omega)) hm88 (tB_c2 hB (c2_tr (c2_tr c2_rf (c2_fo hA k62.1 rfl)) (c2_fo hA k89.1 rfl)) ((op_1 k89 (by omega)).2) (s14 q1 q2 q3 v12 k13 q14 q15 q59 q60 m61 hI61 k62 q63 q87 v90 m88 hm88 k89 q91)) ((opn_p (w0n hR (by omega) (by omega))).trans (by rw [hO])) ⟨Or.inr (Or.inr rfl), rfl, rfl, hdk_1 (by rw [w0r hR (by omega) (by omega)]; decide)⟩) ?_
                      rintro _ m92 ⟨v94, q95, rfl, hm92, k93⟩
                      show yR zpg tX10_takesPart (d + 1) (239, [(2, .int (gi mem 27 5)), (0, .ref 30), (1, .int x)], [.int v94], m92) _
                      refine wR_if_eq rfl (a := (v94).toInt) rfl (fun q96 => ?_) (fun q96 => ?_)
                      ·
                        refine yR_m 1 (fun _ _ _ _ => rfl) ?_
                        exact yR_rz rfl ⟨by decide, by decide⟩ (h23 q1 q2 q3 v12 k13 q14 q15 q59 q60 m61 hI61 k62 q63 q87 v90 m88 hm88 k89 q91 v94 q95 m92 hm92 k93 q96 hm92)
                      ·
                        refine yR_m 1 (fun _ _ _ _ => rfl) ?_
                        refine wR_gr rfl sO_e sO_0 hm92 ?_
                        refine yR_m 1 (fun _ _ _ _ => rfl) ?_
                        refine wR_cv rfl rfl rO_e hm92 rfl (h_sgC (R := R) (A := A) (T := T) (n := n) (p := q95) hA hm92 ((tH_1 k93 (by omega)).2.2.1) (by omega)) ?_
                        rintro _ m97 ⟨v99, q100, rfl, hm97, k98⟩
                        show yR zpg tX10_takesPart (d + 1) (251, [(2, .int (gi mem 27 5)), (0, .ref 30), (1, .int x)], [.int v99], m97) _
                        refine wR_if_eq rfl (a := (v99).toInt) rfl (fun q101 => ?_) (fun q101 => ?_)
                        ·
                          refine yR_m 1 (fun _ _ _ _ => rfl) ?_
                          exact yR_rz rfl ⟨by decide, by decide⟩ (h24 q1 q2 q3 v12 k13 q14 q15 q59 q60 m61 hI61 k62 q63 q87 v90 m88 hm88 k89 q91 v94 q95 m92 hm92 k93 q96 v99 q100 m97 hm97 k98 q101 hm97)
                        ·
                          refine yR_m 4 (fun _ _ _ _ => rfl) ?_
                          refine wR_cv rfl rfl sO_e hm97 rfl (hP (by have := (op_1 k89 (by omega)).1.2; omega) _ _ _ q100 (3, 0, 1, [wIx T n p]) (bgA (f :: r)) (by omega) (x1 (by have := (op_1 k89 (by omega)).1.2; omega)) hm97 (tB_c2 hB (c2_tr (c2_tr (c2_tr (c2_tr c2_rf (c2_fo hA k62.1 rfl)) (c2_fo hA k89.1 rfl)) k93.1) (c2_fo hA k98.1 rfl)) ((sg_1 k98 (by omega)).2) (s15 q1 q2 q3 v12 k13 q14 q15 q59 q60 m61 hI61 k62 q63 q87 v90 m88 hm88 k89 q91 v94 q95 m92 hm92 k93 q96 v99 q100 m97 hm97 k98 q101)) ((opn_p (w0n hR (by omega) (by omega))).trans (by rw [hO])) ⟨rfl, rfl, _, rfl, w0r hR (by omega) (by omega)⟩) ?_
                          rintro _ m102 ⟨v104, q105, rfl, hm102, k103⟩
                          show yR zpg tX10_takesPart (d + 1) (261, [(2, .int (gi mem 27 5)), (0, .ref 30), (1, .int x)], [.int v104], m102) _
                          refine wR_if_eq rfl (a := (v104).toInt) rfl (fun q106 => ?_) (fun q106 => ?_)
                          ·
                            refine yR_m 1 (fun _ _ _ _ => rfl) ?_
                            exact yR_rz rfl ⟨by decide, by decide⟩ (h25 q1 q2 q3 v12 k13 q14 q15 q59 q60 m61 hI61 k62 q63 q87 v90 m88 hm88 k89 q91 v94 q95 m92 hm92 k93 q96 v99 q100 m97 hm97 k98 q101 v104 q105 m102 hm102 k103 q106 hm102)
                          ·
                            refine yR_m 1 (fun _ _ _ _ => rfl) ?_
                            refine wR_gq rfl sO_e hm102 ((c2_30 hA (c2_tr (c2_tr (c2_tr (c2_tr (c2_tr c2_rf (c2_fo hA k62.1 rfl)) (c2_fo hA k89.1 rfl)) k93.1) (c2_fo hA k98.1 rfl)) k103.1)).trans hr) ?_
                            refine yR_m 3 (fun _ _ _ _ => rfl) ?_
                            refine wR_cv rfl rfl hRo_e hm102 rfl (h_putC hA hm102 (by omega)) ?_
                            rintro _ m107 ⟨v109, rfl, hm107, k108⟩
                            show yR zpg tX10_takesPart (d + 1) (276, [(2, .int (gi mem 27 5)), (0, .ref 30), (1, .int x)], [.int v109], m107) _
                            refine wR_if_eq rfl (a := (v109).toInt) rfl (fun q110 => ?_) (fun q110 => ?_)
                            ·
                              refine yR_m 1 (fun _ _ _ _ => rfl) ?_
                              exact yR_rz rfl ⟨by decide, by decide⟩ (h26 q1 q2 q3 v12 k13 q14 q15 q59 q60 m61 hI61 k62 q63 q87 v90 m88 hm88 k89 q91 v94 q95 m92 hm92 k93 q96 v99 q100 m97 hm97 k98 q101 v104 q105 m102 hm102 k103 q106 v109 m107 hm107 k108 q110 hm107)
                            ·
                              refine yR_m 2 (fun _ _ _ _ => rfl) ?_
                              exact yR_rz rfl ⟨by decide, by decide⟩ (h27 q1 q2 q3 v12 k13 q14 q15 q59 q60 m61 hI61 k62 q63 q87 v90 m88 hm88 k89 q91 v94 q95 m92 hm92 k93 q96 v99 q100 m97 hm97 k98 q101 v104 q105 m102 hm102 k103 q106 v109 m107 hm107 k108 q110 hm107)
                  ·
                    refine yR_m 2 (fun _ _ _ _ => rfl) ?_
                    refine yR_rz rfl ⟨by decide, by decide⟩ ?_
                    show yR zpg tX10_takesPart (d + 1) (226, [(2, .int (gi mem 27 5)), (0, .ref 30), (1, .int x)], [.int 1, .int x, .ref 30], m61) _
                    refine wR_cv rfl rfl sO_e hI61 rfl (h_opC (T := T) (n := n) (p := (tkf T n p).2) hI61 (cRd_t k62.2) (s16 q1 q2 q3 v12 k13 q14 q15 q59 q60 m61 hI61 k62 q63 q87) (by omega)) ?_
                    rintro _ m111 ⟨v113, rfl, hm111, k112⟩
                    show yR zpg tX10_takesPart (d + 1) (229, [(2, .int (gi mem 27 5)), (0, .ref 30), (1, .int x)], [.int v113], m111) _
                    refine wR_if_eq rfl (a := (v113).toInt) rfl (fun q114 => ?_) (fun q114 => ?_)
                    ·
                      refine yR_m 1 (fun _ _ _ _ => rfl) ?_
                      exact yR_rz rfl ⟨by decide, by decide⟩ (h28 q1 q2 q3 v12 k13 q14 q15 q59 q60 m61 hI61 k62 q63 q87 v113 m111 hm111 k112 q114 hm111)
                    ·
                      refine yR_m 4 (fun _ _ _ _ => rfl) ?_
                      refine wR_cv rfl rfl sO_e hm111 rfl (hT (by have := (op_1 k112 (by omega)).1.2; omega) _ _ _ (tkf T n (tkf T n p).2).2 (6, 0, 1, [wIx T n p]) (bgA (f :: r)) (by omega) (x1 (by have := (op_1 k112 (by omega)).1.2; omega)) hm111 (tB_c2 hB (c2_tr (c2_tr c2_rf (c2_fo hA k62.1 rfl)) (c2_fo hA k112.1 rfl)) ((op_1 k112 (by omega)).2) (s17 q1 q2 q3 v12 k13 q14 q15 q59 q60 m61 hI61 k62 q63 q87 v113 m111 hm111 k112 q114)) ((opn_p (w0n hR (by omega) (by omega))).trans (by rw [hO])) ⟨Or.inr (Or.inr rfl), rfl, rfl, hdk_1 (by rw [w0r hR (by omega) (by omega)]; decide)⟩) ?_
                      rintro _ m115 ⟨v117, q118, rfl, hm115, k116⟩
                      show yR zpg tX10_takesPart (d + 1) (239, [(2, .int (gi mem 27 5)), (0, .ref 30), (1, .int x)], [.int v117], m115) _
                      refine wR_if_eq rfl (a := (v117).toInt) rfl (fun q119 => ?_) (fun q119 => ?_)
                      ·
                        refine yR_m 1 (fun _ _ _ _ => rfl) ?_
                        exact yR_rz rfl ⟨by decide, by decide⟩ (h29 q1 q2 q3 v12 k13 q14 q15 q59 q60 m61 hI61 k62 q63 q87 v113 m111 hm111 k112 q114 v117 q118 m115 hm115 k116 q119 hm115)
                      ·
                        refine yR_m 1 (fun _ _ _ _ => rfl) ?_
                        refine wR_gr rfl sO_e sO_0 hm115 ?_
                        refine yR_m 1 (fun _ _ _ _ => rfl) ?_
                        refine wR_cv rfl rfl rO_e hm115 rfl (h_sgC (R := R) (A := A) (T := T) (n := n) (p := q118) hA hm115 ((tH_1 k116 (by omega)).2.2.1) (by omega)) ?_
                        rintro _ m120 ⟨v122, q123, rfl, hm120, k121⟩
                        show yR zpg tX10_takesPart (d + 1) (251, [(2, .int (gi mem 27 5)), (0, .ref 30), (1, .int x)], [.int v122], m120) _
                        refine wR_if_eq rfl (a := (v122).toInt) rfl (fun q124 => ?_) (fun q124 => ?_)
                        ·
                          refine yR_m 1 (fun _ _ _ _ => rfl) ?_
                          exact yR_rz rfl ⟨by decide, by decide⟩ (h30 q1 q2 q3 v12 k13 q14 q15 q59 q60 m61 hI61 k62 q63 q87 v113 m111 hm111 k112 q114 v117 q118 m115 hm115 k116 q119 v122 q123 m120 hm120 k121 q124 hm120)
                        ·
                          refine yR_m 4 (fun _ _ _ _ => rfl) ?_
                          refine wR_cv rfl rfl sO_e hm120 rfl (hP (by have := (op_1 k112 (by omega)).1.2; omega) _ _ _ q123 (3, 0, 1, [wIx T n p]) (bgA (f :: r)) (by omega) (x1 (by have := (op_1 k112 (by omega)).1.2; omega)) hm120 (tB_c2 hB (c2_tr (c2_tr (c2_tr (c2_tr c2_rf (c2_fo hA k62.1 rfl)) (c2_fo hA k112.1 rfl)) k116.1) (c2_fo hA k121.1 rfl)) ((sg_1 k121 (by omega)).2) (s18 q1 q2 q3 v12 k13 q14 q15 q59 q60 m61 hI61 k62 q63 q87 v113 m111 hm111 k112 q114 v117 q118 m115 hm115 k116 q119 v122 q123 m120 hm120 k121 q124)) ((opn_p (w0n hR (by omega) (by omega))).trans (by rw [hO])) ⟨rfl, rfl, _, rfl, w0r hR (by omega) (by omega)⟩) ?_
                          rintro _ m125 ⟨v127, q128, rfl, hm125, k126⟩
                          show yR zpg tX10_takesPart (d + 1) (261, [(2, .int (gi mem 27 5)), (0, .ref 30), (1, .int x)], [.int v127], m125) _
                          refine wR_if_eq rfl (a := (v127).toInt) rfl (fun q129 => ?_) (fun q129 => ?_)
                          ·
                            refine yR_m 1 (fun _ _ _ _ => rfl) ?_
                            exact yR_rz rfl ⟨by decide, by decide⟩ (h31 q1 q2 q3 v12 k13 q14 q15 q59 q60 m61 hI61 k62 q63 q87 v113 m111 hm111 k112 q114 v117 q118 m115 hm115 k116 q119 v122 q123 m120 hm120 k121 q124 v127 q128 m125 hm125 k126 q129 hm125)
                          ·
                            refine yR_m 1 (fun _ _ _ _ => rfl) ?_
                            refine wR_gq rfl sO_e hm125 ((c2_30 hA (c2_tr (c2_tr (c2_tr (c2_tr (c2_tr c2_rf (c2_fo hA k62.1 rfl)) (c2_fo hA k112.1 rfl)) k116.1) (c2_fo hA k121.1 rfl)) k126.1)).trans hr) ?_
                            refine yR_m 3 (fun _ _ _ _ => rfl) ?_
                            refine wR_cv rfl rfl hRo_e hm125 rfl (h_putC hA hm125 (by omega)) ?_
                            rintro _ m130 ⟨v132, rfl, hm130, k131⟩
                            show yR zpg tX10_takesPart (d + 1) (276, [(2, .int (gi mem 27 5)), (0, .ref 30), (1, .int x)], [.int v132], m130) _
                            refine wR_if_eq rfl (a := (v132).toInt) rfl (fun q133 => ?_) (fun q133 => ?_)
                            ·
                              refine yR_m 1 (fun _ _ _ _ => rfl) ?_
                              exact yR_rz rfl ⟨by decide, by decide⟩ (h32 q1 q2 q3 v12 k13 q14 q15 q59 q60 m61 hI61 k62 q63 q87 v113 m111 hm111 k112 q114 v117 q118 m115 hm115 k116 q119 v122 q123 m120 hm120 k121 q124 v127 q128 m125 hm125 k126 q129 v132 m130 hm130 k131 q133 hm130)
                            ·
                              refine yR_m 2 (fun _ _ _ _ => rfl) ?_
                              exact yR_rz rfl ⟨by decide, by decide⟩ (h33 q1 q2 q3 v12 k13 q14 q15 q59 q60 m61 hI61 k62 q63 q87 v113 m111 hm111 k112 q114 v117 q118 m115 hm115 k116 q119 v122 q123 m120 hm120 k121 q124 v127 q128 m125 hm125 k126 q129 v132 m130 hm130 k131 q133 hm130)
            ·
              refine yR_m 1 (fun _ _ _ _ => rfl) ?_
              refine wR_gr rfl sO_e sO_0 hm ?_
              refine wR_cv rfl rfl rO_e hm rfl (h_avC (T := T) (n := n) (p := p) hm (cRd_t hR) (s19 q1 q2 q3 v12 k13 q14 q15 q59) (by omega)) ?_
              rintro _ m134 ⟨rfl, hI134, k135⟩
              show yR zpg tX10_takesPart (d + 1) (154, [(2, .int (gi mem 27 5)), (0, .ref 30), (1, .int x)], [], m134) _
              refine yR_m 3 (fun _ _ _ _ => rfl) ?_
              refine wR_gr rfl sO_e sO_0 hI134 ?_
              refine yR_m 1 (fun _ _ _ _ => rfl) ?_
              refine wR_iv rfl rfl rO_e hI134 rfl rfl rfl rfl ?_
              show yR zpg tX5_isSign d (0, [(0, .ref 27), (1, .int 40)], [], m134) _
              refine yR_m 1 (fun _ _ _ _ => rfl) ?_
              refine wR_gi rfl rO_e rO_4 hI134 rfl ?_
              refine yR_m 1 (fun _ _ _ _ => rfl) ?_
              refine wR_ic_ne rfl (a := (gi m134 27 4).toInt) (c := 4) rfl rfl (fun q136 => ?_) (fun q136 => ?_)
              ·
                refine yR_m 1 (fun _ _ _ _ => rfl) ?_
                refine yR_rz rfl ⟨by decide, by decide⟩ ?_
                show yR zpg tX10_takesPart (d + 1) (165, [(2, .int (gi mem 27 5)), (0, .ref 30), (1, .int x)], [.int 0, .int x, .ref 30], m134) _
                refine wR_cv rfl rfl sO_e hI134 rfl (h_opC (T := T) (n := n) (p := (tkf T n p).2) hI134 (cRd_t k135.2) (s20 q1 q2 q3 v12 k13 q14 q15 q59 m134 hI134 k135 q136) (by omega)) ?_
                rintro _ m137 ⟨v139, rfl, hm137, k138⟩
                show yR zpg tX10_takesPart (d + 1) (168, [(2, .int (gi mem 27 5)), (0, .ref 30), (1, .int x)], [.int v139], m137) _
                refine wR_if_eq rfl (a := (v139).toInt) rfl (fun q140 => ?_) (fun q140 => ?_)
                ·
                  refine yR_m 1 (fun _ _ _ _ => rfl) ?_
                  exact yR_rz rfl ⟨by decide, by decide⟩ (h34 q1 q2 q3 v12 k13 q14 q15 q59 m134 hI134 k135 q136 v139 m137 hm137 k138 q140 hm137)
                ·
                  refine yR_m 4 (fun _ _ _ _ => rfl) ?_
                  refine wR_cv rfl rfl sO_e hm137 rfl (hP (by have := (op_1 k138 (by omega)).1.2; omega) _ _ _ (tkf T n (tkf T n p).2).2 (3, 0, 1, [wIx T n p]) (bgA (f :: r)) (by omega) (x1 (by have := (op_1 k138 (by omega)).1.2; omega)) hm137 (tB_c2 hB (c2_tr (c2_tr c2_rf (c2_fo hA k135.1 rfl)) (c2_fo hA k138.1 rfl)) ((op_1 k138 (by omega)).2) (s21 q1 q2 q3 v12 k13 q14 q15 q59 m134 hI134 k135 q136 v139 m137 hm137 k138 q140)) ((opn_p (w0n hR (by omega) (by omega))).trans (by rw [hO])) ⟨rfl, rfl, _, rfl, w0r hR (by omega) (by omega)⟩) ?_
                  rintro _ m141 ⟨v143, q144, rfl, hm141, k142⟩
                  show yR zpg tX10_takesPart (d + 1) (178, [(2, .int (gi mem 27 5)), (0, .ref 30), (1, .int x)], [.int v143], m141) _
                  refine wR_if_eq rfl (a := (v143).toInt) rfl (fun q145 => ?_) (fun q145 => ?_)
                  ·
                    refine yR_m 1 (fun _ _ _ _ => rfl) ?_
                    exact yR_rz rfl ⟨by decide, by decide⟩ (h35 q1 q2 q3 v12 k13 q14 q15 q59 m134 hI134 k135 q136 v139 m137 hm137 k138 q140 v143 q144 m141 hm141 k142 q145 hm141)
                  ·
                    refine yR_m 1 (fun _ _ _ _ => rfl) ?_
                    refine wR_gq rfl sO_e hm141 ((c2_30 hA (c2_tr (c2_tr (c2_tr c2_rf (c2_fo hA k135.1 rfl)) (c2_fo hA k138.1 rfl)) k142.1)).trans hr) ?_
                    refine yR_m 3 (fun _ _ _ _ => rfl) ?_
                    refine wR_cv rfl rfl hRo_e hm141 rfl (h_putC hA hm141 (by omega)) ?_
                    rintro _ m146 ⟨v148, rfl, hm146, k147⟩
                    show yR zpg tX10_takesPart (d + 1) (193, [(2, .int (gi mem 27 5)), (0, .ref 30), (1, .int x)], [.int v148], m146) _
                    refine wR_if_eq rfl (a := (v148).toInt) rfl (fun q149 => ?_) (fun q149 => ?_)
                    ·
                      refine yR_m 1 (fun _ _ _ _ => rfl) ?_
                      exact yR_rz rfl ⟨by decide, by decide⟩ (h36 q1 q2 q3 v12 k13 q14 q15 q59 m134 hI134 k135 q136 v139 m137 hm137 k138 q140 v143 q144 m141 hm141 k142 q145 v148 m146 hm146 k147 q149 hm146)
                    ·
                      refine yR_m 2 (fun _ _ _ _ => rfl) ?_
                      exact yR_rz rfl ⟨by decide, by decide⟩ (h37 q1 q2 q3 v12 k13 q14 q15 q59 m134 hI134 k135 q136 v139 m137 hm137 k138 q140 v143 q144 m141 hm141 k142 q145 v148 m146 hm146 k147 q149 hm146)
              ·
                refine yR_m 1 (fun _ _ _ _ => rfl) ?_
                refine wR_gi rfl rO_e rO_5 hI134 rfl ?_
                refine yR_m 1 (fun _ _ _ _ => rfl) ?_
                refine wR_ic_ne rfl (a := (gi m134 27 5).toInt) (c := 40) rfl rfl (fun q150 => ?_) (fun q150 => ?_)
                ·
                  refine yR_m 1 (fun _ _ _ _ => rfl) ?_
                  refine yR_rz rfl ⟨by decide, by decide⟩ ?_
                  show yR zpg tX10_takesPart (d + 1) (165, [(2, .int (gi mem 27 5)), (0, .ref 30), (1, .int x)], [.int 0, .int x, .ref 30], m134) _
                  refine wR_cv rfl rfl sO_e hI134 rfl (h_opC (T := T) (n := n) (p := (tkf T n p).2) hI134 (cRd_t k135.2) (s22 q1 q2 q3 v12 k13 q14 q15 q59 m134 hI134 k135 q136 q150) (by omega)) ?_
                  rintro _ m151 ⟨v153, rfl, hm151, k152⟩
                  show yR zpg tX10_takesPart (d + 1) (168, [(2, .int (gi mem 27 5)), (0, .ref 30), (1, .int x)], [.int v153], m151) _
                  refine wR_if_eq rfl (a := (v153).toInt) rfl (fun q154 => ?_) (fun q154 => ?_)
                  ·
                    refine yR_m 1 (fun _ _ _ _ => rfl) ?_
                    exact yR_rz rfl ⟨by decide, by decide⟩ (h38 q1 q2 q3 v12 k13 q14 q15 q59 m134 hI134 k135 q136 q150 v153 m151 hm151 k152 q154 hm151)
                  ·
                    refine yR_m 4 (fun _ _ _ _ => rfl) ?_
                    refine wR_cv rfl rfl sO_e hm151 rfl (hP (by have := (op_1 k152 (by omega)).1.2; omega) _ _ _ (tkf T n (tkf T n p).2).2 (3, 0, 1, [wIx T n p]) (bgA (f :: r)) (by omega) (x1 (by have := (op_1 k152 (by omega)).1.2; omega)) hm151 (tB_c2 hB (c2_tr (c2_tr c2_rf (c2_fo hA k135.1 rfl)) (c2_fo hA k152.1 rfl)) ((op_1 k152 (by omega)).2) (s23 q1 q2 q3 v12 k13 q14 q15 q59 m134 hI134 k135 q136 q150 v153 m151 hm151 k152 q154)) ((opn_p (w0n hR (by omega) (by omega))).trans (by rw [hO])) ⟨rfl, rfl, _, rfl, w0r hR (by omega) (by omega)⟩) ?_
                    rintro _ m155 ⟨v157, q158, rfl, hm155, k156⟩
                    show yR zpg tX10_takesPart (d + 1) (178, [(2, .int (gi mem 27 5)), (0, .ref 30), (1, .int x)], [.int v157], m155) _
                    refine wR_if_eq rfl (a := (v157).toInt) rfl (fun q159 => ?_) (fun q159 => ?_)
                    ·
                      refine yR_m 1 (fun _ _ _ _ => rfl) ?_
                      exact yR_rz rfl ⟨by decide, by decide⟩ (h39 q1 q2 q3 v12 k13 q14 q15 q59 m134 hI134 k135 q136 q150 v153 m151 hm151 k152 q154 v157 q158 m155 hm155 k156 q159 hm155)
                    ·
                      refine yR_m 1 (fun _ _ _ _ => rfl) ?_
                      refine wR_gq rfl sO_e hm155 ((c2_30 hA (c2_tr (c2_tr (c2_tr c2_rf (c2_fo hA k135.1 rfl)) (c2_fo hA k152.1 rfl)) k156.1)).trans hr) ?_
                      refine yR_m 3 (fun _ _ _ _ => rfl) ?_
                      refine wR_cv rfl rfl hRo_e hm155 rfl (h_putC hA hm155 (by omega)) ?_
                      rintro _ m160 ⟨v162, rfl, hm160, k161⟩
                      show yR zpg tX10_takesPart (d + 1) (193, [(2, .int (gi mem 27 5)), (0, .ref 30), (1, .int x)], [.int v162], m160) _
                      refine wR_if_eq rfl (a := (v162).toInt) rfl (fun q163 => ?_) (fun q163 => ?_)
                      ·
                        refine yR_m 1 (fun _ _ _ _ => rfl) ?_
                        exact yR_rz rfl ⟨by decide, by decide⟩ (h40 q1 q2 q3 v12 k13 q14 q15 q59 m134 hI134 k135 q136 q150 v153 m151 hm151 k152 q154 v157 q158 m155 hm155 k156 q159 v162 m160 hm160 k161 q163 hm160)
                      ·
                        refine yR_m 2 (fun _ _ _ _ => rfl) ?_
                        exact yR_rz rfl ⟨by decide, by decide⟩ (h41 q1 q2 q3 v12 k13 q14 q15 q59 m134 hI134 k135 q136 q150 v153 m151 hm151 k152 q154 v157 q158 m155 hm155 k156 q159 v162 m160 hm160 k161 q163 hm160)
                ·
                  refine yR_m 2 (fun _ _ _ _ => rfl) ?_
                  refine yR_rz rfl ⟨by decide, by decide⟩ ?_
                  show yR zpg tX10_takesPart (d + 1) (165, [(2, .int (gi mem 27 5)), (0, .ref 30), (1, .int x)], [.int 1, .int x, .ref 30], m134) _
                  refine wR_cv rfl rfl sO_e hI134 rfl (h_opC (T := T) (n := n) (p := (tkf T n p).2) hI134 (cRd_t k135.2) (s24 q1 q2 q3 v12 k13 q14 q15 q59 m134 hI134 k135 q136 q150) (by omega)) ?_
                  rintro _ m164 ⟨v166, rfl, hm164, k165⟩
                  show yR zpg tX10_takesPart (d + 1) (168, [(2, .int (gi mem 27 5)), (0, .ref 30), (1, .int x)], [.int v166], m164) _
                  refine wR_if_eq rfl (a := (v166).toInt) rfl (fun q167 => ?_) (fun q167 => ?_)
                  ·
                    refine yR_m 1 (fun _ _ _ _ => rfl) ?_
                    exact yR_rz rfl ⟨by decide, by decide⟩ (h42 q1 q2 q3 v12 k13 q14 q15 q59 m134 hI134 k135 q136 q150 v166 m164 hm164 k165 q167 hm164)
                  ·
                    refine yR_m 4 (fun _ _ _ _ => rfl) ?_
                    refine wR_cv rfl rfl sO_e hm164 rfl (hP (by have := (op_1 k165 (by omega)).1.2; omega) _ _ _ (tkf T n (tkf T n p).2).2 (3, 0, 1, [wIx T n p]) (bgA (f :: r)) (by omega) (x1 (by have := (op_1 k165 (by omega)).1.2; omega)) hm164 (tB_c2 hB (c2_tr (c2_tr c2_rf (c2_fo hA k135.1 rfl)) (c2_fo hA k165.1 rfl)) ((op_1 k165 (by omega)).2) (s25 q1 q2 q3 v12 k13 q14 q15 q59 m134 hI134 k135 q136 q150 v166 m164 hm164 k165 q167)) ((opn_p (w0n hR (by omega) (by omega))).trans (by rw [hO])) ⟨rfl, rfl, _, rfl, w0r hR (by omega) (by omega)⟩) ?_
                    rintro _ m168 ⟨v170, q171, rfl, hm168, k169⟩
                    show yR zpg tX10_takesPart (d + 1) (178, [(2, .int (gi mem 27 5)), (0, .ref 30), (1, .int x)], [.int v170], m168) _
                    refine wR_if_eq rfl (a := (v170).toInt) rfl (fun q172 => ?_) (fun q172 => ?_)
                    ·
                      refine yR_m 1 (fun _ _ _ _ => rfl) ?_
                      exact yR_rz rfl ⟨by decide, by decide⟩ (h43 q1 q2 q3 v12 k13 q14 q15 q59 m134 hI134 k135 q136 q150 v166 m164 hm164 k165 q167 v170 q171 m168 hm168 k169 q172 hm168)
                    ·
                      refine yR_m 1 (fun _ _ _ _ => rfl) ?_
                      refine wR_gq rfl sO_e hm168 ((c2_30 hA (c2_tr (c2_tr (c2_tr c2_rf (c2_fo hA k135.1 rfl)) (c2_fo hA k165.1 rfl)) k169.1)).trans hr) ?_
                      refine yR_m 3 (fun _ _ _ _ => rfl) ?_
                      refine wR_cv rfl rfl hRo_e hm168 rfl (h_putC hA hm168 (by omega)) ?_
                      rintro _ m173 ⟨v175, rfl, hm173, k174⟩
                      show yR zpg tX10_takesPart (d + 1) (193, [(2, .int (gi mem 27 5)), (0, .ref 30), (1, .int x)], [.int v175], m173) _
                      refine wR_if_eq rfl (a := (v175).toInt) rfl (fun q176 => ?_) (fun q176 => ?_)
                      ·
                        refine yR_m 1 (fun _ _ _ _ => rfl) ?_
                        exact yR_rz rfl ⟨by decide, by decide⟩ (h44 q1 q2 q3 v12 k13 q14 q15 q59 m134 hI134 k135 q136 q150 v166 m164 hm164 k165 q167 v170 q171 m168 hm168 k169 q172 v175 m173 hm173 k174 q176 hm173)
                      ·
                        refine yR_m 2 (fun _ _ _ _ => rfl) ?_
                        exact yR_rz rfl ⟨by decide, by decide⟩ (h45 q1 q2 q3 v12 k13 q14 q15 q59 m134 hI134 k135 q136 q150 v166 m164 hm164 k165 q167 v170 q171 m168 hm168 k169 q172 v175 m173 hm173 k174 q176 hm173)
        ·
          refine yR_m 1 (fun _ _ _ _ => rfl) ?_
          refine wR_gr rfl sO_e sO_0 hm ?_
          refine wR_cv rfl rfl rO_e hm rfl (h_avC (T := T) (n := n) (p := p) hm (cRd_t hR) (s26 q1 q2 q3 v12 k13 q14) (by omega)) ?_
          rintro _ m177 ⟨rfl, hI177, k178⟩
          show yR zpg tX10_takesPart (d + 1) (122, [(2, .int (gi mem 27 5)), (0, .ref 30), (1, .int x)], [], m177) _
          refine yR_m 1 (fun _ _ _ _ => rfl) ?_
          refine wR_gq rfl sO_e hI177 ((c2_30 hA (c2_tr c2_rf (c2_fo hA k178.1 rfl))).trans hr) ?_
          refine yR_m 3 (fun _ _ _ _ => rfl) ?_
          refine wR_cv rfl rfl hRo_e hI177 rfl (h_putC hA hI177 (by omega)) ?_
          rintro _ m179 ⟨v181, rfl, hm179, k180⟩
          show yR zpg tX10_takesPart (d + 1) (134, [(2, .int (gi mem 27 5)), (0, .ref 30), (1, .int x)], [.int v181], m179) _
          exact yR_rz rfl (by omega) (h46 q1 q2 q3 v12 k13 q14 m177 hI177 k178 v181 m179 hm179 k180 hm179)
    ·
      refine yR_m 1 (fun _ _ _ _ => rfl) ?_
      refine wR_gi rfl rO_e rO_5 hm rfl ?_
      refine yR_m 1 (fun _ _ _ _ => rfl) ?_
      refine wR_ic_ne rfl (a := (gi mem 27 5).toInt) (c := 40) rfl rfl (fun q182 => ?_) (fun q182 => ?_)
      ·
        refine yR_m 1 (fun _ _ _ _ => rfl) ?_
        refine yR_rz rfl ⟨by decide, by decide⟩ ?_
        show yR zpg tX10_takesPart (d + 1) (44, [(0, .ref 30), (1, .int x)], [.int 0], mem) _
        refine wR_if_eq rfl (a := 0) rfl (fun _ => ?_) (fun q => by exfalso; omega)
        refine yR_m 1 (fun _ _ _ _ => rfl) ?_
        refine wR_gr rfl sO_e sO_0 hm ?_
        refine wR_gi rfl rO_e rO_4 hm rfl ?_
        refine yR_m 1 (fun _ _ _ _ => rfl) ?_
        refine wR_ic_ne rfl (a := (gi mem 27 4).toInt) (c := 2) rfl rfl (fun _ => ?_) (fun q => by exfalso; omega)
        refine yR_m 4 (fun _ _ _ _ => rfl) ?_
        refine wR_cv rfl rfl sO_e hm rfl (h_ivC hm (hru) (by omega)) ?_
        rintro _ _ ⟨v183, rfl, rfl, k184⟩
        show yR zpg tX10_takesPart (d + 1) (112, [(2, .int (-1)), (0, .ref 30), (1, .int x)], [.int v183], mem) _
        refine wR_if_eq rfl (a := (v183).toInt) rfl (fun q185 => ?_) (fun q185 => ?_)
        ·
          refine yR_m 2 (fun _ _ _ _ => rfl) ?_
          refine wR_ic_eq rfl (a := (-1)) (c := 24) tm1 rfl (fun q => by exfalso; omega) (fun _ => ?_)
          refine yR_m 2 (fun _ _ _ _ => rfl) ?_
          refine wR_ic_ne rfl (a := (-1)) (c := 25) tm1 rfl (fun _ => ?_) (fun q => by exfalso; omega)
          refine yR_m 2 (fun _ _ _ _ => rfl) ?_
          refine wR_ic_ne rfl (a := (-1)) (c := 19) tm1 rfl (fun _ => ?_) (fun q => by exfalso; omega)
          refine yR_m 1 (fun _ _ _ _ => rfl) ?_
          refine wR_gr rfl sO_e sO_0 hm ?_
          refine yR_m 2 (fun _ _ _ _ => rfl) ?_
          refine wR_gr rfl sO_e sO_0 hm ?_
          refine wR_gi rfl rO_e rO_7 hm rfl ?_
          refine wR_iv rfl rfl rO_e hm rfl rfl rfl rfl ?_
          show yR zpg tX5_faults d (0, [(0, .ref 27), (1, .int 1), (2, .int (gi mem 27 7))], [], mem) _
          refine yR_m 2 (fun _ _ _ _ => rfl) ?_
          refine wR_pi rfl rO_e rO_10 hm rfl ?_
          have hm_5 : aTm aT0 (si mem 27 10 1) := tm_si rO_e rO_10 hm (i32_b _)
          refine yR_m 2 (fun _ _ _ _ => rfl) ?_
          refine wR_pi rfl rO_e rO_11 hm_5 rfl ?_
          have hm_6 : aTm aT0 (si (si mem 27 10 1) 27 11 (gi mem 27 7)) := tm_si rO_e rO_11 hm_5 (i32_b _)
          refine yR_m 1 (fun _ _ _ _ => rfl) ?_
          refine yR_rz rfl ⟨by decide, by decide⟩ ?_
          show yR zpg tX10_takesPart (d + 1) (300, [(2, .int (-1)), (0, .ref 30), (1, .int x)], [.int 0], (si (si mem 27 10 1) 27 11 (gi mem 27 7))) _
          exact yR_rz rfl ⟨by decide, by decide⟩ (h47 q1 q2 q182 v183 k184 q185 hm_6)
        ·
          refine yR_m 1 (fun _ _ _ _ => rfl) ?_
          refine wR_gr rfl sO_e sO_0 hm ?_
          refine wR_cv rfl rfl rO_e hm rfl (h_avC (T := T) (n := n) (p := p) hm (cRd_t hR) (s27 q1 q2 q182 v183 k184 q185) (by omega)) ?_
          rintro _ m186 ⟨rfl, hI186, k187⟩
          show yR zpg tX10_takesPart (d + 1) (122, [(2, .int (-1)), (0, .ref 30), (1, .int x)], [], m186) _
          refine yR_m 1 (fun _ _ _ _ => rfl) ?_
          refine wR_gq rfl sO_e hI186 ((c2_30 hA (c2_tr c2_rf (c2_fo hA k187.1 rfl))).trans hr) ?_
          refine yR_m 3 (fun _ _ _ _ => rfl) ?_
          refine wR_cv rfl rfl hRo_e hI186 rfl (h_putC hA hI186 (by omega)) ?_
          rintro _ m188 ⟨v190, rfl, hm188, k189⟩
          show yR zpg tX10_takesPart (d + 1) (134, [(2, .int (-1)), (0, .ref 30), (1, .int x)], [.int v190], m188) _
          exact yR_rz rfl (by omega) (h48 q1 q2 q182 v183 k184 q185 m186 hI186 k187 v190 m188 hm188 k189 hm188)
      ·
        refine yR_m 2 (fun _ _ _ _ => rfl) ?_
        refine yR_rz rfl ⟨by decide, by decide⟩ ?_
        show yR zpg tX10_takesPart (d + 1) (44, [(0, .ref 30), (1, .int x)], [.int 1], mem) _
        refine wR_if_eq rfl (a := 1) rfl (fun q => by exfalso; omega) (fun _ => ?_)
        refine yR_m 3 (fun _ _ _ _ => rfl) ?_
        refine wR_cv rfl rfl sO_e hm rfl (h_opC (T := T) (n := n) (p := p) hm (cRd_t hR) (s28 q1 q2 q182) (by omega)) ?_
        rintro _ m191 ⟨v193, rfl, hm191, k192⟩
        show yR zpg tX10_takesPart (d + 1) (53, [(0, .ref 30), (1, .int x)], [.int v193], m191) _
        refine wR_if_eq rfl (a := (v193).toInt) rfl (fun q194 => ?_) (fun q194 => ?_)
        ·
          refine yR_m 1 (fun _ _ _ _ => rfl) ?_
          exact yR_rz rfl ⟨by decide, by decide⟩ (h49 q1 q2 q182 v193 m191 hm191 k192 q194 hm191)
        ·
          refine yR_m 4 (fun _ _ _ _ => rfl) ?_
          refine wR_cv rfl rfl sO_e hm191 rfl (hS (by have := (op_1 k192 (by omega)).1.2; omega) _ _ _ (tkf T n p).2 (2, 0, 1, []) (bgA (f :: r)) (by omega) (x1 (by have := (op_1 k192 (by omega)).1.2; omega)) hm191 (tB_c2 hB (c2_tr c2_rf (c2_fo hA k192.1 rfl)) ((op_1 k192 (by omega)).2) (s29 q1 q2 q182 v193 m191 hm191 k192 q194)) ((opn_p rfl).trans (by rw [hO])) ⟨by decide, n3_k (sit_3 (Or.inr (Or.inl rfl))), hdk_0⟩) ?_
          rintro _ m195 ⟨v197, q198, rfl, hm195, k196⟩
          show yR zpg tX10_takesPart (d + 1) (63, [(0, .ref 30), (1, .int x)], [.int v197], m195) _
          refine wR_if_eq rfl (a := (v197).toInt) rfl (fun q199 => ?_) (fun q199 => ?_)
          ·
            refine yR_m 1 (fun _ _ _ _ => rfl) ?_
            exact yR_rz rfl ⟨by decide, by decide⟩ (h50 q1 q2 q182 v193 m191 hm191 k192 q194 v197 q198 m195 hm195 k196 q199 hm195)
          ·
            refine yR_m 1 (fun _ _ _ _ => rfl) ?_
            refine wR_gr rfl sO_e sO_0 hm195 ?_
            refine yR_m 1 (fun _ _ _ _ => rfl) ?_
            refine wR_cv rfl rfl rO_e hm195 rfl (h_sgC (R := R) (A := A) (T := T) (n := n) (p := q198) hA hm195 ((tH_1 k196 (by omega)).2.2.1) (by omega)) ?_
            rintro _ m200 ⟨v202, q203, rfl, hm200, k201⟩
            show yR zpg tX10_takesPart (d + 1) (75, [(0, .ref 30), (1, .int x)], [.int v202], m200) _
            refine wR_if_eq rfl (a := (v202).toInt) rfl (fun q204 => ?_) (fun q204 => ?_)
            ·
              refine yR_m 1 (fun _ _ _ _ => rfl) ?_
              exact yR_rz rfl ⟨by decide, by decide⟩ (h51 q1 q2 q182 v193 m191 hm191 k192 q194 v197 q198 m195 hm195 k196 q199 v202 q203 m200 hm200 k201 q204 hm200)
            ·
              refine yR_m 2 (fun _ _ _ _ => rfl) ?_
              exact yR_rz rfl ⟨by decide, by decide⟩ (h52 q1 q2 q182 v193 m191 hm191 k192 q194 v197 q198 m195 hm195 k196 q199 v202 q203 m200 hm200 k201 q204 hm200)
  ·
    refine yR_m 1 (fun _ _ _ _ => rfl) ?_
    refine wR_gq rfl sO_e hm hr ?_
    refine yR_m 1 (fun _ _ _ _ => rfl) ?_
    refine wR_gr rfl sO_e sO_0 hm ?_
    refine wR_gi rfl rO_e rO_5 hm rfl ?_
    refine wR_cv rfl rfl hRo_e hm rfl (h_putC hA hm (by omega)) ?_
    rintro _ m205 ⟨v207, rfl, hm205, k206⟩
    show yR zpg tX10_takesPart (d + 1) (25, [(0, .ref 30), (1, .int x)], [.int v207], m205) _
    refine yR_m 2 (fun _ _ _ _ => rfl) ?_
    refine wR_gr rfl sO_e sO_0 hm205 ?_
    refine wR_cv rfl rfl rO_e hm205 rfl (h_avC (T := T) (n := n) (p := p) hm205 (cRd_t ⟨_, _, cR_pF hA k206.1.1 (cRd_t hR)⟩) (s30 q1 v207 m205 hm205 k206) (by omega)) ?_
    rintro _ m208 ⟨rfl, hI208, k209⟩
    show yR zpg tX10_takesPart (d + 1) (33, [(0, .ref 30), (1, .int x)], [], m208) _
    refine yR_m 1 (fun _ _ _ _ => rfl) ?_
    exact yR_rz rfl ⟨by decide, by decide⟩ (h53 q1 v207 m205 hm205 k206 m208 hI208 k209 hI208)

theorem c_part {o : Int} {D : Nat} (hA : hRA R A) (hD : 4 ≤ D) (h7 : o ≤ 7) (hS : o < 7 → tC R A T n ru 104 (o + 1) D (bS5 T n) (pSum T n ru)) (hP : o < 7 → tC R A T n ru 109 (o + 1) D (bP) (pPair T n ru)) (hT : o < 7 → tC R A T n ru 100 (o + 1) D (bT) (pTest T n ru)) : tC R A T n ru 107 o (D + 1) (bS T n) (pPart T n ru) := by
  intro d mem x p f r hd hx hm hB hO hb
  obtain ⟨d, rfl⟩ : ∃ q, d = q + 2 := ⟨d - 2, by omega⟩
  have hR := hB.2.2.2.1
  have hp := cRd_p hR
  have hr := hB.2.1
  have hru := hB.2.2.1
  have hs3 := hB.2.2.2.2.1
  have h16 := hB.2.2.2.2.2
  have x1 : x.toInt < 7 → (x + 1).toInt = o + 1 := fun w => by
    have b := (i32_b x).1
    have e := i32_addc (k := x) (c := 1) (z := 1) rfl (by omega) (by omega)
    omega
  obtain ⟨fs, hRo_e⟩ := rl_of hA
  refine yC_of (t := tX10_takesPart) rfl rfl ?_
  exact w_ptC (R := R) (A := A) (T := T) (n := n) (ru := ru) (p := p) (o := o) (D := D) (f := f) (r := r) hm (by omega) hD hA hRo_e hr hru hR hS hP hT hx hB hO hb x1
        (fun q1 q2 q3 v4 k5 q6 hm2 => by
          exact ⟨_, p, rfl, hm2, (c2_tr c2_rf (c2_fo hA (fo_sv rfl (fo_sv rfl ((fo_rf (ks := []) (is := rdF2))))) rfl)), Or.inr ⟨rfl, M_x hp hb.2 (fun w => by have q9 := (cX_S hR).2 w; omega) (fun w => w.elim (fun z => by have q9 := (cX_O (by decide) (by decide) hR).2 z; omega) (fun z => by have q9 := (cX_O (by decide) (by decide) hR).2 z; omega)) (fun w => by have q9 := (cX_O (by decide) (by decide) hR).2 w; omega) (nv_V hR (by omega) (fun z => by omega))⟩⟩)
        (fun q1 q2 q3 v4 k5 q6 => by
          exfalso
          have q9 := dj_1 k5 (by omega)
          unfold ivV at q9
          omega)
        (fun q1 q2 q3 v4 k5 q6 m7 hI7 k8 v11 m9 hm9 k10 hm2 => by
          exfalso
          have q9 := dj_1 k5 (by omega)
          unfold ivV at q9
          omega)
        (fun q1 q2 q3 v12 k13 q14 q15 => cX_4 hR (by omega))
        (fun q1 q2 q3 v12 k13 q14 q15 m16 hI16 k17 q18 => fun w => absurd rfl w)
        (fun q1 q2 q3 v12 k13 q14 q15 m16 hI16 k17 q18 v21 m19 hm19 k20 q22 hm2 => by
          have ep := cX_e hR (by omega) (by omega)
          have z0 := congrArg Int32.toInt (c2_R3 hA (fo_up k17.1 rfl rfl))
          have y0 := tk_le (hR)
          have z1 := congrArg Int32.toInt (c2_R3 hA k20.1)
          have y1 := tk_le (k17.2)
          exact ⟨_, p, rfl, hm2, (c2_tr (c2_tr c2_rf (c2_fo hA k17.1 rfl)) (c2_fo hA k20.1 rfl)), Or.inr ⟨rfl, mm_0 hp hb.2 (Or.inl ((cX_O (by decide) (by decide) hR).1 ⟨by omega, by omega⟩)) (Or.inl (fun w => by have q9 := (cX_S k17.2).2 w; omega))⟩⟩)
        (fun q1 q2 q3 v12 k13 q14 q15 m16 hI16 k17 q18 v21 m19 hm19 k20 q22 => by
          exfalso
          exact absurd rfl (op_1 k20 (by omega)).1.1)
        (fun q1 q2 q3 v12 k13 q14 q15 m16 hI16 k17 q18 v21 m19 hm19 k20 q22 v25 q26 m23 hm23 k24 q27 hm2 => by
          exfalso
          exact absurd rfl (op_1 k20 (by omega)).1.1)
        (fun q1 q2 q3 v12 k13 q14 q15 m16 hI16 k17 q18 v21 m19 hm19 k20 q22 v25 q26 m23 hm23 k24 q27 v30 m28 hm28 k29 q31 hm2 => by
          exfalso
          omega)
        (fun q1 q2 q3 v12 k13 q14 q15 m16 hI16 k17 q18 v21 m19 hm19 k20 q22 v25 q26 m23 hm23 k24 q27 v30 m28 hm28 k29 q31 hm2 => by
          exfalso
          exact absurd rfl (op_1 k20 (by omega)).1.1)
        (fun q1 q2 q3 v12 k13 q14 q15 m16 hI16 k17 q18 q32 => fun w => absurd rfl w)
        (fun q1 q2 q3 v12 k13 q14 q15 m16 hI16 k17 q18 q32 v35 m33 hm33 k34 q36 hm2 => by
          have ep := cX_e hR (by omega) (by omega)
          have z0 := congrArg Int32.toInt (c2_R3 hA (fo_up k17.1 rfl rfl))
          have y0 := tk_le (hR)
          have z1 := congrArg Int32.toInt (c2_R3 hA k34.1)
          have y1 := tk_le (k17.2)
          exact ⟨_, p, rfl, hm2, (c2_tr (c2_tr c2_rf (c2_fo hA k17.1 rfl)) (c2_fo hA k34.1 rfl)), Or.inr ⟨rfl, mm_0 hp hb.2 (Or.inl ((cX_O (by decide) (by decide) hR).1 ⟨by omega, by omega⟩)) (Or.inl (fun w => by have q9 := (cX_S k17.2).2 w; omega))⟩⟩)
        (fun q1 q2 q3 v12 k13 q14 q15 m16 hI16 k17 q18 q32 v35 m33 hm33 k34 q36 => by
          exfalso
          exact absurd rfl (op_1 k34 (by omega)).1.1)
        (fun q1 q2 q3 v12 k13 q14 q15 m16 hI16 k17 q18 q32 v35 m33 hm33 k34 q36 v39 q40 m37 hm37 k38 q41 hm2 => by
          exfalso
          exact absurd rfl (op_1 k34 (by omega)).1.1)
        (fun q1 q2 q3 v12 k13 q14 q15 m16 hI16 k17 q18 q32 v35 m33 hm33 k34 q36 v39 q40 m37 hm37 k38 q41 v44 m42 hm42 k43 q45 hm2 => by
          exfalso
          omega)
        (fun q1 q2 q3 v12 k13 q14 q15 m16 hI16 k17 q18 q32 v35 m33 hm33 k34 q36 v39 q40 m37 hm37 k38 q41 v44 m42 hm42 k43 q45 hm2 => by
          exfalso
          exact absurd rfl (op_1 k34 (by omega)).1.1)
        (fun q1 q2 q3 v12 k13 q14 q15 m16 hI16 k17 q18 q32 => fun _ => cX_4 k17.2 (by omega))
        (fun q1 q2 q3 v12 k13 q14 q15 m16 hI16 k17 q18 q32 v48 m46 hm46 k47 q49 hm2 => by
          have ep := cX_e hR (by omega) (by omega)
          have z0 := congrArg Int32.toInt (c2_R3 hA (fo_up k17.1 rfl rfl))
          have y0 := tk_le (hR)
          have z1 := congrArg Int32.toInt (c2_R3 hA k47.1)
          have y1 := tk_le (k17.2)
          exact ⟨_, p, rfl, hm2, (c2_tr (c2_tr c2_rf (c2_fo hA k17.1 rfl)) (c2_fo hA k47.1 rfl)), Or.inr ⟨rfl, mm_0 hp hb.2 (Or.inl ((cX_O (by decide) (by decide) hR).1 ⟨by omega, by omega⟩)) (Or.inr (fun w => op_0 k47 (by omega) ⟨by decide, by omega⟩))⟩⟩)
        (fun q1 q2 q3 v12 k13 q14 q15 m16 hI16 k17 q18 q32 v48 m46 hm46 k47 q49 => by
          have z0 := congrArg Int32.toInt (c2_R3 hA (fo_up k17.1 rfl rfl))
          have y0 := tk_le (hR)
          have z1 := congrArg Int32.toInt (c2_R3 hA k47.1)
          have y1 := tk_le (k17.2)
          have x1 := (op_1 k47 (by omega)).1.2
          omega)
        (fun q1 q2 q3 v12 k13 q14 q15 m16 hI16 k17 q18 q32 v48 m46 hm46 k47 q49 v52 q53 m50 hm50 k51 q54 hm2 => by
          have ep := cX_e hR (by omega) (by omega)
          have z0 := congrArg Int32.toInt (c2_R3 hA (fo_up k17.1 rfl rfl))
          have y0 := tk_le (hR)
          have z1 := congrArg Int32.toInt (c2_R3 hA k47.1)
          have y1 := tk_le (k17.2)
          have x1 := (op_1 k47 (by omega)).1.2
          exact ⟨_, p, rfl, hm2, (c2_tr (c2_tr (c2_tr c2_rf (c2_fo hA k17.1 rfl)) (c2_fo hA k47.1 rfl)) k51.1), Or.inr ⟨rfl, ((mm_1 hp hb.2 (Or.inl ((cX_O (by decide) (by decide) hR).1 ⟨by omega, by omega⟩)) ((cX_S k17.2).1 ⟨by omega, by omega⟩) (by omega)).trans (Mw ((cC_fo hA k47.1).trans (cC_fo hA k17.1)).symm)).trans (tH_0 k51 (by omega))⟩⟩)
        (fun q1 q2 q3 v12 k13 q14 q15 m16 hI16 k17 q18 q32 v48 m46 hm46 k47 q49 v52 q53 m50 hm50 k51 q54 v57 m55 hm55 k56 q58 hm2 => by
          exfalso
          omega)
        (fun q1 q2 q3 v12 k13 q14 q15 m16 hI16 k17 q18 q32 v48 m46 hm46 k47 q49 v52 q53 m50 hm50 k51 q54 v57 m55 hm55 k56 q58 hm2 => by
          have ep := cX_e hR (by omega) (by omega)
          have z0 := congrArg Int32.toInt (c2_R3 hA (fo_up k17.1 rfl rfl))
          have y0 := tk_le (hR)
          have z1 := congrArg Int32.toInt (c2_R3 hA k47.1)
          have y1 := tk_le (k17.2)
          have x1 := (op_1 k47 (by omega)).1.2
          have z2 := (tH_1 k51 (by omega)).2
          have y2 := (cRd_p (tH_1 k51 (by omega)).2.2.1).2
          have z3 := k56.1.2.1
          exact ⟨_, q53, rfl, hm2, (c2_tr (c2_tr (c2_tr (c2_tr c2_rf (c2_fo hA k17.1 rfl)) (c2_fo hA k47.1 rfl)) k51.1) (c2_pF hA k56.1.1)), Or.inl ⟨by first | rfl | omega, ((mm_1 hp hb.2 (Or.inl ((cX_O (by decide) (by decide) hR).1 ⟨by omega, by omega⟩)) ((cX_S k17.2).1 ⟨by omega, by omega⟩) (by omega)).trans (Mw ((cC_fo hA k47.1).trans (cC_fo hA k17.1)).symm)).trans (pp_1 (tH_1 k51 (by omega)).1 (vp_2 (k56.1.2.2 (by omega)) (by have q9 := wIx_X hR (by omega); have q8 := ad_t (cX_r hR (by omega)).1 (cX_r hR (by omega)).2; omega))), by omega, ⟨_, _, cR_pF hA k56.1.1 (cRd_t (tH_1 k51 (by omega)).2.2.1)⟩, by omega, by omega⟩⟩)
        (fun q1 q2 q3 v12 k13 q14 q15 q59 q60 hm2 => by
          have ep := cX_e hR (by omega) (by omega)
          exact ⟨_, p, rfl, hm2, (c2_tr c2_rf (c2_fo hA (fo_sv rfl (fo_sv rfl ((fo_rf (ks := []) (is := rdF2))))) rfl)), Or.inr ⟨rfl, M_x hp hb.2 (fun w => by have q9 := (cX_S hR).2 w; omega) (fun w => w.elim (fun z => by have q9 := (cX_O (by decide) (by decide) hR).2 z; omega) (fun z => by have q9 := (cX_O (by decide) (by decide) hR).2 z; omega)) (fun w => by have q9 := (cX_O (by decide) (by decide) hR).2 w; omega) (nv_V hR (by omega) (fun z => dj_0 k13 (by omega)))⟩⟩)
        (fun q1 q2 q3 v12 k13 q14 q15 q59 q60 => cX_4 hR (by omega))
        (fun q1 q2 q3 v12 k13 q14 q15 q59 q60 m61 hI61 k62 q63 => fun w => absurd rfl w)
        (fun q1 q2 q3 v12 k13 q14 q15 q59 q60 m61 hI61 k62 q63 v66 m64 hm64 k65 q67 hm2 => by
          have ep := cX_e hR (by omega) (by omega)
          have z0 := congrArg Int32.toInt (c2_R3 hA (fo_up k62.1 rfl rfl))
          have y0 := tk_le (hR)
          have z1 := congrArg Int32.toInt (c2_R3 hA k65.1)
          have y1 := tk_le (k62.2)
          exact ⟨_, p, rfl, hm2, (c2_tr (c2_tr c2_rf (c2_fo hA k62.1 rfl)) (c2_fo hA k65.1 rfl)), Or.inr ⟨rfl, ii_0 hp hb.2 ((cX_O (by decide) (by decide) hR).1 ⟨by omega, by omega⟩) (Or.inl (fun w => by have q9 := (cX_S k62.2).2 w; omega))⟩⟩)
        (fun q1 q2 q3 v12 k13 q14 q15 q59 q60 m61 hI61 k62 q63 v66 m64 hm64 k65 q67 => by
          exfalso
          exact absurd rfl (op_1 k65 (by omega)).1.1)
        (fun q1 q2 q3 v12 k13 q14 q15 q59 q60 m61 hI61 k62 q63 v66 m64 hm64 k65 q67 v70 q71 m68 hm68 k69 q72 hm2 => by
          exfalso
          exact absurd rfl (op_1 k65 (by omega)).1.1)
        (fun q1 q2 q3 v12 k13 q14 q15 q59 q60 m61 hI61 k62 q63 v66 m64 hm64 k65 q67 v70 q71 m68 hm68 k69 q72 v75 q76 m73 hm73 k74 q77 hm2 => by
          exfalso
          exact absurd rfl (op_1 k65 (by omega)).1.1)
        (fun q1 q2 q3 v12 k13 q14 q15 q59 q60 m61 hI61 k62 q63 v66 m64 hm64 k65 q67 v70 q71 m68 hm68 k69 q72 v75 q76 m73 hm73 k74 q77 => by
          exfalso
          exact absurd rfl (op_1 k65 (by omega)).1.1)
        (fun q1 q2 q3 v12 k13 q14 q15 q59 q60 m61 hI61 k62 q63 v66 m64 hm64 k65 q67 v70 q71 m68 hm68 k69 q72 v75 q76 m73 hm73 k74 q77 v80 q81 m78 hm78 k79 q82 hm2 => by
          exfalso
          exact absurd rfl (op_1 k65 (by omega)).1.1)
        (fun q1 q2 q3 v12 k13 q14 q15 q59 q60 m61 hI61 k62 q63 v66 m64 hm64 k65 q67 v70 q71 m68 hm68 k69 q72 v75 q76 m73 hm73 k74 q77 v80 q81 m78 hm78 k79 q82 v85 m83 hm83 k84 q86 hm2 => by
          exfalso
          omega)
        (fun q1 q2 q3 v12 k13 q14 q15 q59 q60 m61 hI61 k62 q63 v66 m64 hm64 k65 q67 v70 q71 m68 hm68 k69 q72 v75 q76 m73 hm73 k74 q77 v80 q81 m78 hm78 k79 q82 v85 m83 hm83 k84 q86 hm2 => by
          exfalso
          exact absurd rfl (op_1 k65 (by omega)).1.1)
        (fun q1 q2 q3 v12 k13 q14 q15 q59 q60 m61 hI61 k62 q63 q87 => fun w => absurd rfl w)
        (fun q1 q2 q3 v12 k13 q14 q15 q59 q60 m61 hI61 k62 q63 q87 v90 m88 hm88 k89 q91 hm2 => by
          have ep := cX_e hR (by omega) (by omega)
          have z0 := congrArg Int32.toInt (c2_R3 hA (fo_up k62.1 rfl rfl))
          have y0 := tk_le (hR)
          have z1 := congrArg Int32.toInt (c2_R3 hA k89.1)
          have y1 := tk_le (k62.2)
          exact ⟨_, p, rfl, hm2, (c2_tr (c2_tr c2_rf (c2_fo hA k62.1 rfl)) (c2_fo hA k89.1 rfl)), Or.inr ⟨rfl, ii_0 hp hb.2 ((cX_O (by decide) (by decide) hR).1 ⟨by omega, by omega⟩) (Or.inl (fun w => by have q9 := (cX_S k62.2).2 w; omega))⟩⟩)
        (fun q1 q2 q3 v12 k13 q14 q15 q59 q60 m61 hI61 k62 q63 q87 v90 m88 hm88 k89 q91 => by
          exfalso
          exact absurd rfl (op_1 k89 (by omega)).1.1)
        (fun q1 q2 q3 v12 k13 q14 q15 q59 q60 m61 hI61 k62 q63 q87 v90 m88 hm88 k89 q91 v94 q95 m92 hm92 k93 q96 hm2 => by
          exfalso
          exact absurd rfl (op_1 k89 (by omega)).1.1)
        (fun q1 q2 q3 v12 k13 q14 q15 q59 q60 m61 hI61 k62 q63 q87 v90 m88 hm88 k89 q91 v94 q95 m92 hm92 k93 q96 v99 q100 m97 hm97 k98 q101 hm2 => by
          exfalso
          exact absurd rfl (op_1 k89 (by omega)).1.1)
        (fun q1 q2 q3 v12 k13 q14 q15 q59 q60 m61 hI61 k62 q63 q87 v90 m88 hm88 k89 q91 v94 q95 m92 hm92 k93 q96 v99 q100 m97 hm97 k98 q101 => by
          exfalso
          exact absurd rfl (op_1 k89 (by omega)).1.1)
        (fun q1 q2 q3 v12 k13 q14 q15 q59 q60 m61 hI61 k62 q63 q87 v90 m88 hm88 k89 q91 v94 q95 m92 hm92 k93 q96 v99 q100 m97 hm97 k98 q101 v104 q105 m102 hm102 k103 q106 hm2 => by
          exfalso
          exact absurd rfl (op_1 k89 (by omega)).1.1)
        (fun q1 q2 q3 v12 k13 q14 q15 q59 q60 m61 hI61 k62 q63 q87 v90 m88 hm88 k89 q91 v94 q95 m92 hm92 k93 q96 v99 q100 m97 hm97 k98 q101 v104 q105 m102 hm102 k103 q106 v109 m107 hm107 k108 q110 hm2 => by
          exfalso
          omega)
        (fun q1 q2 q3 v12 k13 q14 q15 q59 q60 m61 hI61 k62 q63 q87 v90 m88 hm88 k89 q91 v94 q95 m92 hm92 k93 q96 v99 q100 m97 hm97 k98 q101 v104 q105 m102 hm102 k103 q106 v109 m107 hm107 k108 q110 hm2 => by
          exfalso
          exact absurd rfl (op_1 k89 (by omega)).1.1)
        (fun q1 q2 q3 v12 k13 q14 q15 q59 q60 m61 hI61 k62 q63 q87 => fun _ => cX_4 k62.2 (by omega))
        (fun q1 q2 q3 v12 k13 q14 q15 q59 q60 m61 hI61 k62 q63 q87 v113 m111 hm111 k112 q114 hm2 => by
          have ep := cX_e hR (by omega) (by omega)
          have z0 := congrArg Int32.toInt (c2_R3 hA (fo_up k62.1 rfl rfl))
          have y0 := tk_le (hR)
          have z1 := congrArg Int32.toInt (c2_R3 hA k112.1)
          have y1 := tk_le (k62.2)
          exact ⟨_, p, rfl, hm2, (c2_tr (c2_tr c2_rf (c2_fo hA k62.1 rfl)) (c2_fo hA k112.1 rfl)), Or.inr ⟨rfl, ii_0 hp hb.2 ((cX_O (by decide) (by decide) hR).1 ⟨by omega, by omega⟩) (Or.inr (fun w => op_0 k112 (by omega) ⟨by decide, by omega⟩))⟩⟩)
        (fun q1 q2 q3 v12 k13 q14 q15 q59 q60 m61 hI61 k62 q63 q87 v113 m111 hm111 k112 q114 => by
          have z0 := congrArg Int32.toInt (c2_R3 hA (fo_up k62.1 rfl rfl))
          have y0 := tk_le (hR)
          have z1 := congrArg Int32.toInt (c2_R3 hA k112.1)
          have y1 := tk_le (k62.2)
          have x1 := (op_1 k112 (by omega)).1.2
          omega)
        (fun q1 q2 q3 v12 k13 q14 q15 q59 q60 m61 hI61 k62 q63 q87 v113 m111 hm111 k112 q114 v117 q118 m115 hm115 k116 q119 hm2 => by
          have ep := cX_e hR (by omega) (by omega)
          have z0 := congrArg Int32.toInt (c2_R3 hA (fo_up k62.1 rfl rfl))
          have y0 := tk_le (hR)
          have z1 := congrArg Int32.toInt (c2_R3 hA k112.1)
          have y1 := tk_le (k62.2)
          have x1 := (op_1 k112 (by omega)).1.2
          exact ⟨_, p, rfl, hm2, (c2_tr (c2_tr (c2_tr c2_rf (c2_fo hA k62.1 rfl)) (c2_fo hA k112.1 rfl)) k116.1), Or.inr ⟨rfl, ((ii_1 hp hb.2 ((cX_O (by decide) (by decide) hR).1 ⟨by omega, by omega⟩) ((cX_S k62.2).1 ⟨by omega, by omega⟩) (by omega)).trans (Mw ((cC_fo hA k112.1).trans (cC_fo hA k62.1)).symm)).trans (tH_0 k116 (by omega))⟩⟩)
        (fun q1 q2 q3 v12 k13 q14 q15 q59 q60 m61 hI61 k62 q63 q87 v113 m111 hm111 k112 q114 v117 q118 m115 hm115 k116 q119 v122 q123 m120 hm120 k121 q124 hm2 => by
          have ep := cX_e hR (by omega) (by omega)
          have z0 := congrArg Int32.toInt (c2_R3 hA (fo_up k62.1 rfl rfl))
          have y0 := tk_le (hR)
          have z1 := congrArg Int32.toInt (c2_R3 hA k112.1)
          have y1 := tk_le (k62.2)
          have x1 := (op_1 k112 (by omega)).1.2
          have z2 := (tH_1 k116 (by omega)).2
          have y2 := (cRd_p (tH_1 k116 (by omega)).2.2.1).2
          have z3 := congrArg Int32.toInt (c2_R3 hA k121.1)
          exact ⟨_, p, rfl, hm2, (c2_tr (c2_tr (c2_tr (c2_tr c2_rf (c2_fo hA k62.1 rfl)) (c2_fo hA k112.1 rfl)) k116.1) (c2_fo hA k121.1 rfl)), Or.inr ⟨rfl, ((ii_1 hp hb.2 ((cX_O (by decide) (by decide) hR).1 ⟨by omega, by omega⟩) ((cX_S k62.2).1 ⟨by omega, by omega⟩) (by omega)).trans (Mw ((cC_fo hA k112.1).trans (cC_fo hA k62.1)).symm)).trans (if_n (cRd_p (tH_1 k116 (by omega)).2.2.1) (tH_1 k116 (by omega)).1 (sg_0 k121 (by omega)))⟩⟩)
        (fun q1 q2 q3 v12 k13 q14 q15 q59 q60 m61 hI61 k62 q63 q87 v113 m111 hm111 k112 q114 v117 q118 m115 hm115 k116 q119 v122 q123 m120 hm120 k121 q124 => by
          have z0 := congrArg Int32.toInt (c2_R3 hA (fo_up k62.1 rfl rfl))
          have y0 := tk_le (hR)
          have z1 := congrArg Int32.toInt (c2_R3 hA k112.1)
          have y1 := tk_le (k62.2)
          have x1 := (op_1 k112 (by omega)).1.2
          have z2 := (tH_1 k116 (by omega)).2
          have y2 := (cRd_p (tH_1 k116 (by omega)).2.2.1).2
          have z3 := congrArg Int32.toInt (c2_R3 hA k121.1)
          have y3 := pos_S (cRd_p ((tH_1 k116 (by omega)).2.2.1)).1 (cRd_p ((tH_1 k116 (by omega)).2.2.1)).2 (sg_1 k121 (by omega)).1
          omega)
        (fun q1 q2 q3 v12 k13 q14 q15 q59 q60 m61 hI61 k62 q63 q87 v113 m111 hm111 k112 q114 v117 q118 m115 hm115 k116 q119 v122 q123 m120 hm120 k121 q124 v127 q128 m125 hm125 k126 q129 hm2 => by
          have ep := cX_e hR (by omega) (by omega)
          have z0 := congrArg Int32.toInt (c2_R3 hA (fo_up k62.1 rfl rfl))
          have y0 := tk_le (hR)
          have z1 := congrArg Int32.toInt (c2_R3 hA k112.1)
          have y1 := tk_le (k62.2)
          have x1 := (op_1 k112 (by omega)).1.2
          have z2 := (tH_1 k116 (by omega)).2
          have y2 := (cRd_p (tH_1 k116 (by omega)).2.2.1).2
          have z3 := congrArg Int32.toInt (c2_R3 hA k121.1)
          have y3 := pos_S (cRd_p ((tH_1 k116 (by omega)).2.2.1)).1 (cRd_p ((tH_1 k116 (by omega)).2.2.1)).2 (sg_1 k121 (by omega)).1
          exact ⟨_, p, rfl, hm2, (c2_tr (c2_tr (c2_tr (c2_tr (c2_tr c2_rf (c2_fo hA k62.1 rfl)) (c2_fo hA k112.1 rfl)) k116.1) (c2_fo hA k121.1 rfl)) k126.1), Or.inr ⟨rfl, (((ii_1 hp hb.2 ((cX_O (by decide) (by decide) hR).1 ⟨by omega, by omega⟩) ((cX_S k62.2).1 ⟨by omega, by omega⟩) (by omega)).trans (Mw ((cC_fo hA k112.1).trans (cC_fo hA k62.1)).symm)).trans ((if_c (w0r hR (by omega) (by omega)) (cRd_p (tH_1 k116 (by omega)).2.2.1) (tH_1 k116 (by omega)).1 (sg_1 k121 (by omega)).1).trans (Mw (cC_fo hA k121.1).symm))).trans (tH_0 k126 (by omega))⟩⟩)
        (fun q1 q2 q3 v12 k13 q14 q15 q59 q60 m61 hI61 k62 q63 q87 v113 m111 hm111 k112 q114 v117 q118 m115 hm115 k116 q119 v122 q123 m120 hm120 k121 q124 v127 q128 m125 hm125 k126 q129 v132 m130 hm130 k131 q133 hm2 => by
          exfalso
          omega)
        (fun q1 q2 q3 v12 k13 q14 q15 q59 q60 m61 hI61 k62 q63 q87 v113 m111 hm111 k112 q114 v117 q118 m115 hm115 k116 q119 v122 q123 m120 hm120 k121 q124 v127 q128 m125 hm125 k126 q129 v132 m130 hm130 k131 q133 hm2 => by
          have ep := cX_e hR (by omega) (by omega)
          have z0 := congrArg Int32.toInt (c2_R3 hA (fo_up k62.1 rfl rfl))
          have y0 := tk_le (hR)
          have z1 := congrArg Int32.toInt (c2_R3 hA k112.1)
          have y1 := tk_le (k62.2)
          have x1 := (op_1 k112 (by omega)).1.2
          have z2 := (tH_1 k116 (by omega)).2
          have y2 := (cRd_p (tH_1 k116 (by omega)).2.2.1).2
          have z3 := congrArg Int32.toInt (c2_R3 hA k121.1)
          have y3 := pos_S (cRd_p ((tH_1 k116 (by omega)).2.2.1)).1 (cRd_p ((tH_1 k116 (by omega)).2.2.1)).2 (sg_1 k121 (by omega)).1
          have z4 := (tH_1 k126 (by omega)).2
          have y4 := (cRd_p (tH_1 k126 (by omega)).2.2.1).2
          have z5 := k131.1.2.1
          exact ⟨_, q128, rfl, hm2, (c2_tr (c2_tr (c2_tr (c2_tr (c2_tr (c2_tr c2_rf (c2_fo hA k62.1 rfl)) (c2_fo hA k112.1 rfl)) k116.1) (c2_fo hA k121.1 rfl)) k126.1) (c2_pF hA k131.1.1)), Or.inl ⟨by first | rfl | omega, (((ii_1 hp hb.2 ((cX_O (by decide) (by decide) hR).1 ⟨by omega, by omega⟩) ((cX_S k62.2).1 ⟨by omega, by omega⟩) (by omega)).trans (Mw ((cC_fo hA k112.1).trans (cC_fo hA k62.1)).symm)).trans ((if_c (w0r hR (by omega) (by omega)) (cRd_p (tH_1 k116 (by omega)).2.2.1) (tH_1 k116 (by omega)).1 (sg_1 k121 (by omega)).1).trans (Mw (cC_fo hA k121.1).symm))).trans (pp_1 (tH_1 k126 (by omega)).1 (vp_2 (k131.1.2.2 (by omega)) (by have q9 := wIx_X hR (by omega); have q8 := ad_t (cX_r hR (by omega)).1 (cX_r hR (by omega)).2; omega))), by omega, ⟨_, _, cR_pF hA k131.1.1 (cRd_t (tH_1 k126 (by omega)).2.2.1)⟩, by omega, by omega⟩⟩)
        (fun q1 q2 q3 v12 k13 q14 q15 q59 => cX_4 hR (by omega))
        (fun q1 q2 q3 v12 k13 q14 q15 q59 m134 hI134 k135 q136 => fun w => absurd rfl w)
        (fun q1 q2 q3 v12 k13 q14 q15 q59 m134 hI134 k135 q136 v139 m137 hm137 k138 q140 hm2 => by
          have ep := cX_e hR (by omega) (by omega)
          have z0 := congrArg Int32.toInt (c2_R3 hA (fo_up k135.1 rfl rfl))
          have y0 := tk_le (hR)
          have z1 := congrArg Int32.toInt (c2_R3 hA k138.1)
          have y1 := tk_le (k135.2)
          exact ⟨_, p, rfl, hm2, (c2_tr (c2_tr c2_rf (c2_fo hA k135.1 rfl)) (c2_fo hA k138.1 rfl)), Or.inr ⟨rfl, mm_0 hp hb.2 (Or.inr ((cX_O (by decide) (by decide) hR).1 ⟨by omega, by omega⟩)) (Or.inl (fun w => by have q9 := (cX_S k135.2).2 w; omega))⟩⟩)
        (fun q1 q2 q3 v12 k13 q14 q15 q59 m134 hI134 k135 q136 v139 m137 hm137 k138 q140 => by
          exfalso
          exact absurd rfl (op_1 k138 (by omega)).1.1)
        (fun q1 q2 q3 v12 k13 q14 q15 q59 m134 hI134 k135 q136 v139 m137 hm137 k138 q140 v143 q144 m141 hm141 k142 q145 hm2 => by
          exfalso
          exact absurd rfl (op_1 k138 (by omega)).1.1)
        (fun q1 q2 q3 v12 k13 q14 q15 q59 m134 hI134 k135 q136 v139 m137 hm137 k138 q140 v143 q144 m141 hm141 k142 q145 v148 m146 hm146 k147 q149 hm2 => by
          exfalso
          omega)
        (fun q1 q2 q3 v12 k13 q14 q15 q59 m134 hI134 k135 q136 v139 m137 hm137 k138 q140 v143 q144 m141 hm141 k142 q145 v148 m146 hm146 k147 q149 hm2 => by
          exfalso
          exact absurd rfl (op_1 k138 (by omega)).1.1)
        (fun q1 q2 q3 v12 k13 q14 q15 q59 m134 hI134 k135 q136 q150 => fun w => absurd rfl w)
        (fun q1 q2 q3 v12 k13 q14 q15 q59 m134 hI134 k135 q136 q150 v153 m151 hm151 k152 q154 hm2 => by
          have ep := cX_e hR (by omega) (by omega)
          have z0 := congrArg Int32.toInt (c2_R3 hA (fo_up k135.1 rfl rfl))
          have y0 := tk_le (hR)
          have z1 := congrArg Int32.toInt (c2_R3 hA k152.1)
          have y1 := tk_le (k135.2)
          exact ⟨_, p, rfl, hm2, (c2_tr (c2_tr c2_rf (c2_fo hA k135.1 rfl)) (c2_fo hA k152.1 rfl)), Or.inr ⟨rfl, mm_0 hp hb.2 (Or.inr ((cX_O (by decide) (by decide) hR).1 ⟨by omega, by omega⟩)) (Or.inl (fun w => by have q9 := (cX_S k135.2).2 w; omega))⟩⟩)
        (fun q1 q2 q3 v12 k13 q14 q15 q59 m134 hI134 k135 q136 q150 v153 m151 hm151 k152 q154 => by
          exfalso
          exact absurd rfl (op_1 k152 (by omega)).1.1)
        (fun q1 q2 q3 v12 k13 q14 q15 q59 m134 hI134 k135 q136 q150 v153 m151 hm151 k152 q154 v157 q158 m155 hm155 k156 q159 hm2 => by
          exfalso
          exact absurd rfl (op_1 k152 (by omega)).1.1)
        (fun q1 q2 q3 v12 k13 q14 q15 q59 m134 hI134 k135 q136 q150 v153 m151 hm151 k152 q154 v157 q158 m155 hm155 k156 q159 v162 m160 hm160 k161 q163 hm2 => by
          exfalso
          omega)
        (fun q1 q2 q3 v12 k13 q14 q15 q59 m134 hI134 k135 q136 q150 v153 m151 hm151 k152 q154 v157 q158 m155 hm155 k156 q159 v162 m160 hm160 k161 q163 hm2 => by
          exfalso
          exact absurd rfl (op_1 k152 (by omega)).1.1)
        (fun q1 q2 q3 v12 k13 q14 q15 q59 m134 hI134 k135 q136 q150 => fun _ => cX_4 k135.2 (by omega))
        (fun q1 q2 q3 v12 k13 q14 q15 q59 m134 hI134 k135 q136 q150 v166 m164 hm164 k165 q167 hm2 => by
          have ep := cX_e hR (by omega) (by omega)
          have z0 := congrArg Int32.toInt (c2_R3 hA (fo_up k135.1 rfl rfl))
          have y0 := tk_le (hR)
          have z1 := congrArg Int32.toInt (c2_R3 hA k165.1)
          have y1 := tk_le (k135.2)
          exact ⟨_, p, rfl, hm2, (c2_tr (c2_tr c2_rf (c2_fo hA k135.1 rfl)) (c2_fo hA k165.1 rfl)), Or.inr ⟨rfl, mm_0 hp hb.2 (Or.inr ((cX_O (by decide) (by decide) hR).1 ⟨by omega, by omega⟩)) (Or.inr (fun w => op_0 k165 (by omega) ⟨by decide, by omega⟩))⟩⟩)
        (fun q1 q2 q3 v12 k13 q14 q15 q59 m134 hI134 k135 q136 q150 v166 m164 hm164 k165 q167 => by
          have z0 := congrArg Int32.toInt (c2_R3 hA (fo_up k135.1 rfl rfl))
          have y0 := tk_le (hR)
          have z1 := congrArg Int32.toInt (c2_R3 hA k165.1)
          have y1 := tk_le (k135.2)
          have x1 := (op_1 k165 (by omega)).1.2
          omega)
        (fun q1 q2 q3 v12 k13 q14 q15 q59 m134 hI134 k135 q136 q150 v166 m164 hm164 k165 q167 v170 q171 m168 hm168 k169 q172 hm2 => by
          have ep := cX_e hR (by omega) (by omega)
          have z0 := congrArg Int32.toInt (c2_R3 hA (fo_up k135.1 rfl rfl))
          have y0 := tk_le (hR)
          have z1 := congrArg Int32.toInt (c2_R3 hA k165.1)
          have y1 := tk_le (k135.2)
          have x1 := (op_1 k165 (by omega)).1.2
          exact ⟨_, p, rfl, hm2, (c2_tr (c2_tr (c2_tr c2_rf (c2_fo hA k135.1 rfl)) (c2_fo hA k165.1 rfl)) k169.1), Or.inr ⟨rfl, ((mm_1 hp hb.2 (Or.inr ((cX_O (by decide) (by decide) hR).1 ⟨by omega, by omega⟩)) ((cX_S k135.2).1 ⟨by omega, by omega⟩) (by omega)).trans (Mw ((cC_fo hA k165.1).trans (cC_fo hA k135.1)).symm)).trans (tH_0 k169 (by omega))⟩⟩)
        (fun q1 q2 q3 v12 k13 q14 q15 q59 m134 hI134 k135 q136 q150 v166 m164 hm164 k165 q167 v170 q171 m168 hm168 k169 q172 v175 m173 hm173 k174 q176 hm2 => by
          exfalso
          omega)
        (fun q1 q2 q3 v12 k13 q14 q15 q59 m134 hI134 k135 q136 q150 v166 m164 hm164 k165 q167 v170 q171 m168 hm168 k169 q172 v175 m173 hm173 k174 q176 hm2 => by
          have ep := cX_e hR (by omega) (by omega)
          have z0 := congrArg Int32.toInt (c2_R3 hA (fo_up k135.1 rfl rfl))
          have y0 := tk_le (hR)
          have z1 := congrArg Int32.toInt (c2_R3 hA k165.1)
          have y1 := tk_le (k135.2)
          have x1 := (op_1 k165 (by omega)).1.2
          have z2 := (tH_1 k169 (by omega)).2
          have y2 := (cRd_p (tH_1 k169 (by omega)).2.2.1).2
          have z3 := k174.1.2.1
          exact ⟨_, q171, rfl, hm2, (c2_tr (c2_tr (c2_tr (c2_tr c2_rf (c2_fo hA k135.1 rfl)) (c2_fo hA k165.1 rfl)) k169.1) (c2_pF hA k174.1.1)), Or.inl ⟨by first | rfl | omega, ((mm_1 hp hb.2 (Or.inr ((cX_O (by decide) (by decide) hR).1 ⟨by omega, by omega⟩)) ((cX_S k135.2).1 ⟨by omega, by omega⟩) (by omega)).trans (Mw ((cC_fo hA k165.1).trans (cC_fo hA k135.1)).symm)).trans (pp_1 (tH_1 k169 (by omega)).1 (vp_2 (k174.1.2.2 (by omega)) (by have q9 := wIx_X hR (by omega); have q8 := ad_t (cX_r hR (by omega)).1 (cX_r hR (by omega)).2; omega))), by omega, ⟨_, _, cR_pF hA k174.1.1 (cRd_t (tH_1 k169 (by omega)).2.2.1)⟩, by omega, by omega⟩⟩)
        (fun q1 q2 q3 v12 k13 q14 => cX_4 hR (by omega))
        (fun q1 q2 q3 v12 k13 q14 m177 hI177 k178 v181 m179 hm179 k180 hm2 => by
          have ep := cX_e hR (by omega) (by omega)
          have z0 := congrArg Int32.toInt (c2_R3 hA (fo_up k178.1 rfl rfl))
          have y0 := tk_le (hR)
          have z1 := k180.1.2.1
          exact ⟨_, _, rfl, hm2, (c2_tr (c2_tr c2_rf (c2_fo hA k178.1 rfl)) (c2_pF hA k180.1.1)), Or.inl ⟨by first | rfl | omega, M_V hp hb.2 (iv_V (dj_1 k13 (by omega)) ((cX_O (cX_r hR (by omega)).1 (cX_r hR (by omega)).2 hR).1 ⟨by omega, rfl⟩)) (vp_1 rfl (k180.1.2.2 (by omega)) (cC_fo hA k178.1) (by have q9 := vIt_O hR (by omega); have q8 := ad_t (cX_r hR (by omega)).1 (cX_r hR (by omega)).2; omega)), by omega, ⟨_, _, cR_pF hA k180.1.1 (cRd_t k178.2)⟩, by omega, by omega⟩⟩)
        (fun q1 q2 q182 v183 k184 q185 hm2 => by
          exact ⟨_, p, rfl, hm2, (c2_tr c2_rf (c2_fo hA (fo_sv rfl (fo_sv rfl ((fo_rf (ks := []) (is := rdF2))))) rfl)), Or.inr ⟨rfl, M_x hp hb.2 (fun w => by have q9 := (cX_S hR).2 w; omega) (fun w => w.elim (fun z => by have q9 := (cX_O (by decide) (by decide) hR).2 z; omega) (fun z => by have q9 := (cX_O (by decide) (by decide) hR).2 z; omega)) (fun w => by have q9 := (cX_O (by decide) (by decide) hR).2 w; omega) (nv_V hR (by omega) (fun z => by omega))⟩⟩)
        (fun q1 q2 q182 v183 k184 q185 => by
          exfalso
          have q9 := dj_1 k184 (by omega)
          unfold ivV at q9
          omega)
        (fun q1 q2 q182 v183 k184 q185 m186 hI186 k187 v190 m188 hm188 k189 hm2 => by
          exfalso
          have q9 := dj_1 k184 (by omega)
          unfold ivV at q9
          omega)
        (fun q1 q2 q182 => fun _ => cX_4 hR (by omega))
        (fun q1 q2 q182 v193 m191 hm191 k192 q194 hm2 => by
          have ep := cX_e hR (by omega) (by omega)
          have z0 := congrArg Int32.toInt (c2_R3 hA k192.1)
          have y0 := tk_le (hR)
          exact ⟨_, p, rfl, hm2, (c2_tr c2_rf (c2_fo hA k192.1 rfl)), Or.inr ⟨rfl, M_40n hp hb.2 ((cX_S hR).1 ⟨by omega, by omega⟩) (fun w => op_0 k192 (by omega) ⟨by decide, by omega⟩)⟩⟩)
        (fun q1 q2 q182 v193 m191 hm191 k192 q194 => by
          have z0 := congrArg Int32.toInt (c2_R3 hA k192.1)
          have y0 := tk_le (hR)
          have x0 := (op_1 k192 (by omega)).1.2
          omega)
        (fun q1 q2 q182 v193 m191 hm191 k192 q194 v197 q198 m195 hm195 k196 q199 hm2 => by
          have ep := cX_e hR (by omega) (by omega)
          have z0 := congrArg Int32.toInt (c2_R3 hA k192.1)
          have y0 := tk_le (hR)
          have x0 := (op_1 k192 (by omega)).1.2
          exact ⟨_, p, rfl, hm2, (c2_tr (c2_tr c2_rf (c2_fo hA k192.1 rfl)) k196.1), Or.inr ⟨rfl, ((M_40 hp hb.2 ((cX_S hR).1 ⟨by omega, by omega⟩) (by omega)).trans (Mw (cC_fo hA k192.1).symm)).trans (tH_0 k196 (by omega))⟩⟩)
        (fun q1 q2 q182 v193 m191 hm191 k192 q194 v197 q198 m195 hm195 k196 q199 v202 q203 m200 hm200 k201 q204 hm2 => by
          have ep := cX_e hR (by omega) (by omega)
          have z0 := congrArg Int32.toInt (c2_R3 hA k192.1)
          have y0 := tk_le (hR)
          have x0 := (op_1 k192 (by omega)).1.2
          have z1 := (tH_1 k196 (by omega)).2
          have y1 := (cRd_p (tH_1 k196 (by omega)).2.2.1).2
          have z2 := congrArg Int32.toInt (c2_R3 hA k201.1)
          exact ⟨_, p, rfl, hm2, (c2_tr (c2_tr (c2_tr c2_rf (c2_fo hA k192.1 rfl)) k196.1) (c2_fo hA k201.1 rfl)), Or.inr ⟨rfl, ((M_40 hp hb.2 ((cX_S hR).1 ⟨by omega, by omega⟩) (by omega)).trans (Mw (cC_fo hA k192.1).symm)).trans (pt_n (cRd_p (tH_1 k196 (by omega)).2.2.1) (tH_1 k196 (by omega)).1 (sg_0 k201 (by omega)))⟩⟩)
        (fun q1 q2 q182 v193 m191 hm191 k192 q194 v197 q198 m195 hm195 k196 q199 v202 q203 m200 hm200 k201 q204 hm2 => by
          have ep := cX_e hR (by omega) (by omega)
          have z0 := congrArg Int32.toInt (c2_R3 hA k192.1)
          have y0 := tk_le (hR)
          have x0 := (op_1 k192 (by omega)).1.2
          have z1 := (tH_1 k196 (by omega)).2
          have y1 := (cRd_p (tH_1 k196 (by omega)).2.2.1).2
          have z2 := congrArg Int32.toInt (c2_R3 hA k201.1)
          have y2 := pos_S (cRd_p ((tH_1 k196 (by omega)).2.2.1)).1 (cRd_p ((tH_1 k196 (by omega)).2.2.1)).2 (sg_1 k201 (by omega)).1
          exact ⟨_, _, rfl, hm2, (c2_tr (c2_tr (c2_tr c2_rf (c2_fo hA k192.1 rfl)) k196.1) (c2_fo hA k201.1 rfl)), Or.inl ⟨by first | rfl | omega, ((M_40 hp hb.2 ((cX_S hR).1 ⟨by omega, by omega⟩) (by omega)).trans (Mw (cC_fo hA k192.1).symm)).trans ((pt_c (cRd_p (tH_1 k196 (by omega)).2.2.1) (tH_1 k196 (by omega)).1 (sg_1 k201 (by omega)).1).trans (Mw (cC_fo hA k201.1).symm)), by omega, (sg_1 k201 (by omega)).2, by omega, by omega⟩⟩)
        (fun q1 v207 m205 hm205 k206 => cX_4 hR (by omega))
        (fun q1 v207 m205 hm205 k206 m208 hI208 k209 hm2 => by
          have ep := cX_e hR (by omega) (by omega)
          have z0 := k206.1.2.1
          have z1 := congrArg Int32.toInt (c2_R3 hA (fo_up k209.1 rfl rfl))
          have y1 := tk_le (⟨_, _, cR_pF hA k206.1.1 (cRd_t hR)⟩)
          exact ⟨_, _, rfl, hm2, (c2_tr (c2_tr c2_rf (c2_pF hA k206.1.1)) (c2_fo hA k209.1 rfl)), Or.inl ⟨by first | rfl | omega, M_V hp hb.2 (Or.inl ((cX_2 hR).1 (by omega))) (vp_1 (cC_fo hA k209.1) (k206.1.2.2 (by omega)) rfl (by have q9 := vIt_2 hR (by omega); omega)), by omega, k209.2, by omega, by omega⟩⟩)
end CE
