/-! the machine's steps, one by one -/
section MS
variable {T : List Int32} {n ru p : Int} {k ph bg : Int} {r : List Fr} {w w' : List Int}
/-- no test's word stands where a test begins -/
def N3 (T : List Int32) (n : Int) (f : Fr) (p : Int) : Prop := (sIT f.1 ∧ ¬ f.2.2.1 = 0) → ¬ sIO T n 22 p ∧ ¬ sIS T n 91 p ∧ ¬ sIO T n 23 p
theorem sSO {a b : Int} (h : sIS T n a p) (w : sIO T n b p) : False := by
  have a := h.1
  have b := w.1
  omega
theorem sSS {a b : Int} (h : sIS T n a p) (w : sIS T n b p) : a = b := h.2.symm.trans w.2
theorem opd_C {f : Fr} (h : N3 T n f p) : sOpd T n ru (f :: r) p = oC T n ru (opn (f :: r)) (bgA (f :: r)) p := by
  rw [sOpd_e]
  exact (pif_f (fun w => (h w.1).1 w.2)).trans ((pif_f (fun w => (h w.1).2.1 w.2)).trans (pif_f (fun w => (h w.1).2.2 w.2)))
theorem V_no (h : sIV T n ru p) : ¬ sIS T n 40 p ∧ ¬ (sIO T n 24 p ∨ sIO T n 25 p) ∧ ¬ sIO T n 19 p := by
  have a : ∀ {b : Int}, (b = 15 ∨ b = 7 ∨ b = 8 ∨ b = 16 ∨ b = 17 ∨ b = 18) → sIO T n b p → ¬ sIS T n 40 p ∧ ¬ (sIO T n 24 p ∨ sIO T n 25 p) ∧ ¬ sIO T n 19 p := fun hb w => by
    refine ⟨fun q => sSO q w, fun q => ?_, fun q => ?_⟩
    · rcases q with q | q
      · have := sIO_u (by omega) (by decide) w q
        omega
      · have := sIO_u (by omega) (by decide) w q
        omega
    · have := sIO_u (by omega) (by decide) w q
      omega
  rcases h with w | w | w | w | w | w | w
  · refine ⟨fun q => ?_, fun q => ?_, fun q => ?_⟩
    · have := q.1
      omega
    · rcases q with q | q
      · have := q.1
        omega
      · have := q.1
        omega
    · have := q.1
      omega
  · exact a (by decide) w
  · exact a (by decide) w
  · exact a (by decide) w
  · exact a (by decide) w
  · exact a (by decide) w.1
  · exact a (by decide) w.1
theorem M_V {f : Fr} (hp : 0 ≤ p ∧ p ≤ n) (h : N3 T n f p) (v : sIV T n ru p) (hw : w' = w ++ [vIt T n p]) : Mch T n ru w (f :: r) 0 p = Mch T n ru w' (bgA (f :: r)) 1 (tkf T n p).2 := by
  have V := V_no v
  rw [hw]
  exact M_o1 hp ((opd_C h).trans ((pif_f V.1).trans ((pif_f V.2.1).trans ((pif_f V.2.2).trans (oif_t v)))))
theorem M_40 {f : Fr} (hp : 0 ≤ p ∧ p ≤ n) (h : N3 T n f p) (v : sIS T n 40 p) (o : opn (f :: r) < 7) : Mch T n ru w (f :: r) 0 p = Mch T n ru w ((2, 0, 1, []) :: bgA (f :: r)) 0 (tkf T n p).2 := M_o2 hp ((opd_C h).trans ((pif_t v).trans (oif_t o)))
theorem M_40n {f : Fr} (hp : 0 ≤ p ∧ p ≤ n) (h : N3 T n f p) (v : sIS T n 40 p) (o : ¬ opn (f :: r) < 7) : Mch T n ru w (f :: r) 0 p = none := M_o0 hp ((opd_C h).trans ((pif_t v).trans (oif_f o)))
theorem oD_m {O : Int} {L : List Fr} (v : sIO T n 24 p ∨ sIO T n 25 p) : oC T n ru O L p = oM T n 3 (wIx T n p) O L (tkf T n p).2 := (pif_f (fun w => v.elim (sSO w) (sSO w))).trans (pif_t v)
theorem oD_i {O : Int} {L : List Fr} (v : sIO T n 19 p) : oC T n ru O L p = oM T n 6 (wIx T n p) O L (tkf T n p).2 := by
  refine (pif_f (fun w => sSO w v)).trans ((pif_f (fun w => ?_)).trans (pif_t v))
  rcases w with w | w
  · have := sIO_u (by decide) (by decide) v w
    omega
  · have := sIO_u (by decide) (by decide) v w
    omega
theorem oM_1 {K z O e : Int} {L : List Fr} {q : Int} (s : sSgn T n 40 q = some e) (o : O < 7) : oM T n K z O L q = some ([], (((K, 0, 1, [z]) :: L, 0), e)) := by
  unfold oM
  rw [s]
  exact oif_t o
theorem oM_0 {K z O : Int} {L : List Fr} {q : Int} (s : sSgn T n 40 q = none ∨ ¬ O < 7) : oM T n K z O L q = none := by
  unfold oM
  rcases s with s | s
  · rw [s]
    rfl
  · cases sSgn T n 40 q with
    | none => rfl
    | some e => exact oif_f s
theorem M_x {f : Fr} (hp : 0 ≤ p ∧ p ≤ n) (h : N3 T n f p) (a : ¬ sIS T n 40 p) (b : ¬ (sIO T n 24 p ∨ sIO T n 25 p)) (c : ¬ sIO T n 19 p) (v : ¬ sIV T n ru p) : Mch T n ru w (f :: r) 0 p = none := M_o0 hp ((opd_C h).trans ((pif_f a).trans ((pif_f b).trans ((pif_f c).trans (oif_f v)))))
/-- signs of sums and of comparisons, words of tests -/
theorem AM_4 (h : sIA T n p ∨ sIM T n p) : (tkf T n p).1.1 = 3 := by
  rcases h with (h | h) | h | h | h <;> exact h.1
theorem M_am {f : Fr} (hp : 0 ≤ p ∧ p ≤ n) (h : f.2.1 < 2) (v : sIA T n p ∨ sIM T n p) (hd : ∀ q, f.2.2.2.head? = some q → rkC q < rkC (tkf T n p).1.2.1) : Mch T n ru w (f :: r) 1 p = Mch T n ru w ((f.1, f.2.1, f.2.2.1, (tkf T n p).1.2.1 :: f.2.2.2) :: r) 0 (tkf T n p).2 := by
  have a := AM_4 v
  have j := jn_lo hd
  have e := M_g1 (w := w) (ru := ru) (L := f :: r) hp ((sGon_e T n f r p).trans ((pif_f (by omega)).trans (pif_t ⟨h, v⟩)))
  rw [j.1, j.2, List.append_nil] at e
  exact e
theorem gon_B {f : Fr} (h4 : ¬ (tkf T n p).1.1 = 4) (v : ¬ (f.2.1 < 2 ∧ (sIA T n p ∨ sIM T n p))) : sGon T n (f :: r) p = gB T n f r p := (sGon_e T n f r p).trans ((pif_f h4).trans (pif_f v))
theorem AM_S {c : Int} (h : sIS T n c p) (hc : ¬ c = 43 ∧ ¬ c = 45 ∧ ¬ c = 42 ∧ ¬ c = 47 ∧ ¬ c = 37) : ¬ (sIA T n p ∨ sIM T n p) := fun w => by
  rcases w with (w | w) | w | w | w
  · have := sSS h w; omega
  · have := sSS h w; omega
  · have := sSS h w; omega
  · have := sSS h w; omega
  · have := sSS h w; omega
theorem AM_O {c : Int} (h : sIO T n c p) : ¬ (sIA T n p ∨ sIM T n p) := fun w => by
  have a := AM_4 w
  have b := h.1
  omega
theorem C_S {c : Int} (h : sIS T n c p) (hc : ¬ c = 60 ∧ ¬ c = 62 ∧ ¬ c = 61) : ¬ sIC T n p := fun w => by
  rcases w with w | w | w
  · have := sSS h w; omega
  · have := sSS h w; omega
  · have := sSS h w; omega
theorem C_O {c : Int} (h : sIO T n c p) : ¬ sIC T n p := fun w => by
  rcases w with w | w | w
  · exact sSO w h
  · exact sSO w h
  · exact sSO w h
theorem C_AM (h : sIC T n p) : ¬ (sIA T n p ∨ sIM T n p) := by
  rcases h with h | h | h
  · exact AM_S h (by decide)
  · exact AM_S h (by decide)
  · exact AM_S h (by decide)
theorem M_cmp {f : Fr} (hp : 0 ≤ p ∧ p ≤ n) (ht : sIT f.1) (h0 : f.2.1 = 0) (v : sIC T n p) (hd : ∀ q, f.2.2.2.head? = some q → rkC q < 5) : Mch T n ru w (f :: r) 1 p = Mch T n ru w ((f.1, 1, f.2.2.1, (tkf T n p).1.2.1 :: f.2.2.2) :: r) 0 (tkf T n p).2 := by
  have h4 : ¬ (tkf T n p).1.1 = 4 := by
    rcases v with v | v | v <;> (have := v.1; omega)
  have j := jn_lo hd
  have e := M_g1 (w := w) (ru := ru) (L := f :: r) hp ((gon_B h4 (fun w => C_AM v w.2)).trans (pif_t ⟨⟨ht, h0⟩, v⟩))
  rw [j.1, j.2, List.append_nil] at e
  exact e
theorem M_ao {f : Fr} (hp : 0 ≤ p ∧ p ≤ n) (ht : sIT f.1) (h0 : ¬ f.2.1 = 0) (v : sIO T n 21 p ∨ sIO T n 20 p) (hd : ∀ q, f.2.2.2.head? = some q → rkC q < rkC (wIx T n p)) : Mch T n ru w (f :: r) 1 p = Mch T n ru w ((f.1, 0, 1, wIx T n p :: f.2.2.2) :: r) 0 (tkf T n p).2 := by
  have h4 : ¬ (tkf T n p).1.1 = 4 := by
    rcases v with v | v <;> (have := v.1; omega)
  have na : ¬ (sIA T n p ∨ sIM T n p) := v.elim AM_O AM_O
  have j := jn_lo hd
  have e := M_g1 (w := w) (ru := ru) (L := f :: r) hp ((gon_B h4 (fun w => na w.2)).trans ((pif_f (fun w => h0 w.1.2)).trans ((pif_t ⟨ht, v⟩).trans (oif_t h0))))
  rw [j.1, j.2, List.append_nil] at e
  exact e
/-- a test without a comparison -/
theorem M_t0 {f : Fr} (hp : 0 ≤ p ∧ p ≤ n) (ht : sIT f.1) (h0 : f.2.1 = 0) (a : ¬ (sIA T n p ∨ sIM T n p)) (c : ¬ sIC T n p) : Mch T n ru w (f :: r) 1 p = none := by
  by_cases h4 : (tkf T n p).1.1 = 4
  · exact M_g0 hp ((sGon_e T n f r p).trans (pif_t h4))
  · refine M_g0 hp ((gon_B h4 (fun w => a w.2)).trans ((pif_f (fun w => c w.2)).trans ?_))
    by_cases v : sIO T n 21 p ∨ sIO T n 20 p
    · exact (pif_t ⟨ht, v⟩).trans (oif_f (fun w => w h0))
    · exact (pif_f (fun w => v w.2)).trans (pif_t ⟨ht, h0⟩)
/-- what stands when a frame is done: nothing of it goes on -/
def gDn (T : List Int32) (n : Int) (f : Fr) (p : Int) : Prop := (f.2.1 < 2 → ¬ (sIA T n p ∨ sIM T n p)) ∧ (sIT f.1 → ¬ f.2.1 = 0 ∧ ¬ (sIO T n 21 p ∨ sIO T n 20 p))
theorem gon_E {f : Fr} (h4 : ¬ (tkf T n p).1.1 = 4) (h : gDn T n f p) : sGon T n (f :: r) p = gE T n f r p := (gon_B h4 (fun w => h.1 w.1 w.2)).trans ((pif_f (fun w => (h.2 w.1.1).1 w.1.2)).trans ((pif_f (fun w => (h.2 w.1).2 w.2)).trans (pif_f (fun w => (h.2 w.1).1 w.2))))
theorem S_4 {c : Int} (h : sIS T n c p) : ¬ (tkf T n p).1.1 = 4 := by
  have := h.1
  omega
theorem M_en {f : Fr} (hp : 0 ≤ p ∧ p ≤ n) (h : gDn T n f p) (h2 : f.1 < 2) (h4 : ¬ (tkf T n p).1.1 = 4) : Mch T n ru w (f :: r) 1 p = some (p, w ++ jnE 1 f.2.2.2) := M_ge hp ((gon_E h4 h).trans (pif_t h2))
theorem M_4 {L : List Fr} (hp : 0 ≤ p ∧ p ≤ n) (h4 : (tkf T n p).1.1 = 4) : Mch T n ru w L 1 p = none := by
  cases L with
  | nil => exact M_g0 hp rfl
  | cons f r => exact M_g0 hp ((sGon_e T n f r p).trans (pif_t h4))
theorem M_cm {f : Fr} (hp : 0 ≤ p ∧ p ≤ n) (h : gDn T n f p) (h3 : f.1 = 3 ∨ f.1 = 6) (v : sIS T n 44 p) (hd : ∀ q, f.2.2.2.head? = some q → rkC q < 1) : Mch T n ru w (f :: r) 1 p = Mch T n ru w ((f.1 * 2 - 2 - (f.1 - 3) / 3 * 7, 0, f.2.2.1, f.2.2.2) :: r) 0 (tkf T n p).2 := by
  have j := jn_lo hd
  have e := M_g1 (w := w) (ru := ru) (L := f :: r) hp ((gon_E (S_4 v) h).trans ((pif_f (by omega)).trans ((pif_t h3).trans (oif_t v))))
  rw [j.1, j.2, List.append_nil] at e
  exact e
theorem M_cmn {f : Fr} (hp : 0 ≤ p ∧ p ≤ n) (h : gDn T n f p) (h3 : f.1 = 3 ∨ f.1 = 6) (v : ¬ sIS T n 44 p) : Mch T n ru w (f :: r) 1 p = none := by
  by_cases h4 : (tkf T n p).1.1 = 4
  · exact M_4 hp h4
  · exact M_g0 hp ((gon_E h4 h).trans ((pif_f (by omega)).trans ((pif_t h3).trans (oif_f v))))
theorem M_cl {f : Fr} (hp : 0 ≤ p ∧ p ≤ n) (h : gDn T n f p) (h3 : f.1 = 2 ∨ f.1 = 4) (v : sIS T n 41 p) (hd : ∀ q, f.2.2.2.head? = some q → rkC q < 1) (hw : w' = w ++ opE f.2.2.2) : Mch T n ru w (f :: r) 1 p = Mch T n ru w' r 1 (tkf T n p).2 := by
  have j := jn_lo hd
  have e := M_g1 (w := w) (ru := ru) (L := f :: r) hp ((gon_E (S_4 v) h).trans ((pif_f (by omega)).trans ((pif_f (by omega)).trans ((pif_f (by omega)).trans (oif_t v)))))
  rw [j.1, j.2] at e
  rw [hw]
  exact e
theorem M_cln {f : Fr} (hp : 0 ≤ p ∧ p ≤ n) (h : gDn T n f p) (h3 : f.1 = 2 ∨ f.1 = 4) (v : ¬ sIS T n 41 p) : Mch T n ru w (f :: r) 1 p = none := by
  by_cases h4 : (tkf T n p).1.1 = 4
  · exact M_4 hp h4
  · exact M_g0 hp ((gon_E h4 h).trans ((pif_f (by omega)).trans ((pif_f (by omega)).trans ((pif_f (by omega)).trans (oif_f v)))))
theorem M_c5 {f : Fr} (hp : 0 ≤ p ∧ p ≤ n) (h : gDn T n f p) (h3 : f.1 = 5) (v : sIS T n 93 p) (hd : ∀ q, f.2.2.2.head? = some q → rkC q < 1) : Mch T n ru w (f :: r) 1 p = Mch T n ru w (ph2 r) 1 (tkf T n p).2 := by
  have j := jn_lo hd
  have e := M_g1 (w := w) (ru := ru) (L := f :: r) hp ((gon_E (S_4 v) h).trans ((pif_f (by omega)).trans ((pif_f (by omega)).trans ((pif_t h3).trans (oif_t v)))))
  rw [j.1, List.append_nil] at e
  exact e
theorem M_c5n {f : Fr} (hp : 0 ≤ p ∧ p ≤ n) (h : gDn T n f p) (h3 : f.1 = 5) (v : ¬ sIS T n 93 p) : Mch T n ru w (f :: r) 1 p = none := by
  by_cases h4 : (tkf T n p).1.1 = 4
  · exact M_4 hp h4
  · exact M_g0 hp ((gon_E h4 h).trans ((pif_f (by omega)).trans ((pif_f (by omega)).trans ((pif_t h3).trans (oif_f v)))))
end MS
/-! what is held back last may be printed at once, where nothing goes on at its level -/
section MF
variable {T : List Int32} {n ru p : Int} {k ph bg o : Int} {O : List Int} {r : List Fr} {w w' : List Int} {α β : Type}
theorem pif_mp {c : Prop} {x y : Option α} {x' y' : Option β} {g : α → β} (h1 : c → x' = x.map g) (h2 : ¬ c → y' = y.map g) : pif c x' y' = (pif c x y).map g := by
  by_cases v : c
  · rw [pif_t v, pif_t v]
    exact h1 v
  · rw [pif_f v, pif_f v]
    exact h2 v
theorem oif_mp {c : Prop} {x : Option α} {x' : Option β} {g : α → β} (h1 : c → x' = x.map g) : oif c x' = (oif c x).map g := by
  by_cases v : c
  · rw [oif_t v, oif_t v]
    exact h1 v
  · rw [oif_f v, oif_f v]
    rfl
theorem gon_u (k ph bg : Int) (O : List Int) : sGon T n ((k, ph, bg, O) :: r) p = pif ((tkf T n p).1.1 = 4) none
    (pif (ph < 2 ∧ (sIA T n p ∨ sIM T n p)) (some (jnE (rkC (tkf T n p).1.2.1) O, some (((k, ph, bg, (tkf T n p).1.2.1 :: jnR (rkC (tkf T n p).1.2.1) O) :: r, 0), (tkf T n p).2)))
    (pif ((sIT k ∧ ph = 0) ∧ sIC T n p) (some (jnE 5 O, some (((k, 1, bg, (tkf T n p).1.2.1 :: jnR 5 O) :: r, 0), (tkf T n p).2)))
    (pif (sIT k ∧ (sIO T n 21 p ∨ sIO T n 20 p)) (oif (¬ ph = 0) (some (jnE (rkC (wIx T n p)) O, some (((k, 0, 1, wIx T n p :: jnR (rkC (wIx T n p)) O) :: r, 0), (tkf T n p).2))))
    (pif (sIT k ∧ ph = 0) none
    (pif (k < 2) (some (jnE 1 O, none))
    (pif (k = 3 ∨ k = 6) (oif (sIS T n 44 p) (some (jnE 1 O, some (((k * 2 - 2 - (k - 3) / 3 * 7, 0, bg, jnR 1 O) :: r, 0), (tkf T n p).2))))
    (pif (k = 5) (oif (sIS T n 93 p) (some (jnE 1 O, some ((ph2 r, 1), (tkf T n p).2))))
    (oif (sIS T n 41 p) (some (jnE 1 O ++ opE (jnR 1 O), some ((r, 1), (tkf T n p).2))))))))))) := rfl
theorem M_fl (hp : 0 ≤ p ∧ p ≤ n) (h1 : 1 ≤ rkC o) (h6 : rkC o < 6 → ph < 2 → ¬ sIM T n p) (h5 : rkC o < 5 → (ph < 2 → ¬ sIA T n p) ∧ ¬ ((sIT k ∧ ph = 0) ∧ sIC T n p)) (h2 : rkC o < 2 → sIT k → ¬ sIO T n 21 p) (hw : w' = w ++ [10000 + o]) : Mch T n ru w ((k, ph, bg, o :: O) :: r) 1 p = Mch T n ru w' ((k, ph, bg, O) :: r) 1 p := by
  have key : sGon T n ((k, ph, bg, o :: O) :: r) p = (sGon T n ((k, ph, bg, O) :: r) p).map (fun y => ((10000 + o) :: y.1, y.2)) := by
    rw [gon_u, gon_u]
    have J : ∀ L, L ≤ rkC o → jnE L (o :: O) = (10000 + o) :: jnE L O ∧ jnR L (o :: O) = jnR L O := fun L hL => jn_hi hL
    refine pif_mp (fun _ => rfl) (fun _ => pif_mp (fun c => ?_) (fun c2 => pif_mp (fun c => ?_) (fun _ => pif_mp (fun c => oif_mp (fun _ => ?_)) (fun _ => pif_mp (fun _ => rfl) (fun _ => pif_mp (fun _ => ?_) (fun _ => pif_mp (fun _ => oif_mp (fun _ => ?_)) (fun _ => pif_mp (fun _ => oif_mp (fun _ => ?_)) (fun _ => oif_mp (fun _ => ?_)))))))))
    · have j := J (rkC (tkf T n p).1.2.1) (by
        rcases c.2 with (v | v) | v | v | v
        · rw [v.2]
          by_cases q : rkC o < 5
          · exact absurd (Or.inl v) ((h5 q).1 c.1)
          · show 5 ≤ _
            omega
        · rw [v.2]
          by_cases q : rkC o < 5
          · exact absurd (Or.inr v) ((h5 q).1 c.1)
          · show 5 ≤ _
            omega
        · rw [v.2]
          by_cases q : rkC o < 6
          · exact absurd (Or.inl v) (h6 q c.1)
          · show 6 ≤ _
            omega
        · rw [v.2]
          by_cases q : rkC o < 6
          · exact absurd (Or.inr (Or.inl v)) (h6 q c.1)
          · show 6 ≤ _
            omega
        · rw [v.2]
          by_cases q : rkC o < 6
          · exact absurd (Or.inr (Or.inr v)) (h6 q c.1)
          · show 6 ≤ _
            omega)
      rw [j.1, j.2]
      rfl
    · have j := J 5 (by
        by_cases q : rkC o < 5
        · exact absurd c (h5 q).2
        · omega)
      rw [j.1, j.2]
      rfl
    · have j := J (rkC (wIx T n p)) (by
        rcases c.2 with v | v
        · rw [wIx_O (by decide) (by decide) v]
          by_cases q : rkC o < 2
          · exact absurd v (h2 q c.1)
          · show 2 ≤ _
            omega
        · rw [wIx_O (by decide) (by decide) v]
          exact h1)
      rw [j.1, j.2]
      rfl
    · rw [(J 1 h1).1]
      rfl
    · rw [(J 1 h1).1, (J 1 h1).2]
      rfl
    · rw [(J 1 h1).1]
      rfl
    · rw [(J 1 h1).1, (J 1 h1).2]
      rfl
  rw [Mch_1 hp.1 hp.2, Mch_1 hp.1 hp.2, key, hw]
  cases sGon T n ((k, ph, bg, O) :: r) p with
  | none => rfl
  | some y =>
    obtain ⟨c, y⟩ := y
    cases y with
    | none =>
      show some (p, w ++ ((10000 + o) :: c)) = some (p, (w ++ [10000 + o]) ++ c)
      rw [List.append_assoc]
      rfl
    | some x =>
      show Mch T n ru (w ++ ((10000 + o) :: c)) _ _ _ = Mch T n ru ((w ++ [10000 + o]) ++ c) _ _ _
      rw [List.append_assoc]
      rfl
end MF
