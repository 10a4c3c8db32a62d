/-! what quay reads is the tape below its count -/
section CG
variable {T U : List Int32} {n p b e : Int} {t : Tk}
theorem lts_c (H : ∀ i, i < n → gn T i = gn U i) : ∀ k : Nat, b + (k : Int) ≤ n → lts T b k = lts U b k
  | 0, _ => rfl
  | k + 1, h => by
    show lts T b k ++ [gn T (b + (k : Int))] = lts U b k ++ [gn U (b + (k : Int))]
    rw [lts_c H k (by omega), H (b + (k : Int)) (by omega)]
theorem dgv_c (H : ∀ i, i < n → gn T i = gn U i) : ∀ k : Nat, b + (k : Int) ≤ n → dgv T b k = dgv U b k
  | 0, _ => rfl
  | k + 1, h => by
    show 10 * dgv T b k + gn T (b + (k : Int)) - 48 = 10 * dgv U b k + gn U (b + (k : Int)) - 48
    rw [dgv_c H k (by omega), H (b + (k : Int)) (by omega)]
theorem Skp_c (H : ∀ i, i < n → gn T i = gn U i) (h : Skp T n p b) : Skp U n p b := ⟨h.1, h.2.1, fun i h1 h2 => by
  have w := h.2.1
  rw [← H i (by omega)]
  exact h.2.2.1 i h1 h2, fun h1 => by
  rw [← H b h1]
  exact h.2.2.2 h1⟩
theorem Rn_c {ok : Int → Prop} (H : ∀ i, i < n → gn T i = gn U i) (h : Rn ok T n b e) : Rn ok U n b e := ⟨h.1, h.2.1, fun i h1 h2 => by
  have w := h.2.1
  rw [← H i (by omega)]
  exact h.2.2.1 i h1 h2, fun h1 => by
  rw [← H e h1]
  exact h.2.2.2 h1⟩
theorem tch_c (H : ∀ i, i < n → gn T i = gn U i) (hb : b ≤ n) (h : tch T p b) : tch U p b := ⟨h.1, h.2.1, by
  have w := h.1
  rw [← H (p - 1) (by omega)]
  exact h.2.2⟩
theorem Tok_c (H : ∀ i, i < n → gn T i = gn U i) : Tok T n p t e → Tok U n p t e := by
  rintro ⟨b, hs, h⟩
  have H' : ∀ i, i < n → gn U i = gn T i := fun i hi => (H i hi).symm
  have hb := hs.2.1
  refine ⟨b, Skp_c H hs, ?_⟩
  rcases h with h | ⟨h1, h2, h3, h4, h5⟩ | ⟨h1, h2, q, hr, he, h3⟩ | ⟨h1, h2, q, hr, he, h3⟩
  · exact Or.inl h
  · exact Or.inr (Or.inl ⟨h1, by rw [← H b h1]; exact h2, by rw [← H b h1]; exact h3, by rw [← H b h1]; exact h4, h5⟩)
  · refine Or.inr (Or.inr (Or.inl ⟨h1, by rw [← H b h1]; exact h2, q, Rn_c H hr, he, ?_⟩))
    have r1 := hr.1
    have r2 := hr.2.1
    rcases h3 with ⟨h3, h4⟩ | ⟨h3, h4, h5⟩
    · exact Or.inl ⟨h3.imp (tch_c H hb) id, h4⟩
    · exact Or.inr ⟨fun w => h3 (tch_c H' hb w), h4, by rw [← lts_c H (q - b).toNat (by omega)]; exact h5⟩
  · refine Or.inr (Or.inr (Or.inr ⟨h1, by rw [← H b h1]; exact h2, q, Rn_c H hr, he, ?_⟩))
    have r1 := hr.1
    have r2 := hr.2.1
    rcases h3 with ⟨h3, h4⟩ | ⟨h3, h4, h5⟩
    · exact Or.inl ⟨h3.imp (tch_c H hb) id, h4⟩
    · exact Or.inr ⟨fun w => h3 (tch_c H' hb w), h4, by rw [← dgv_c H (q - b).toNat (by omega)]; exact h5⟩
theorem tkf_c (H : ∀ i, i < n → gn T i = gn U i) : tkf T n = tkf U n := by
  funext p
  have H' : ∀ i, i < n → gn U i = gn T i := fun i hi => (H i hi).symm
  have k : Tok T n p = Tok U n p := by
    funext t e
    exact propext ⟨Tok_c H, Tok_c H'⟩
  unfold tkf
  rw [k]
end CG
section CH
variable {T U : List Int32} {n wh : Int}
theorem c_sOwn (e : tkf T n = tkf U n) : sOwn T n = sOwn U n := by
  funext w p
  unfold sOwn
  rw [e]
theorem c_sNum (e : tkf T n = tkf U n) : sNum T n = sNum U n := by
  funext a b p
  unfold sNum
  rw [e]
theorem c_sSgn (e : tkf T n = tkf U n) : sSgn T n = sSgn U n := by
  funext a p
  unfold sSgn
  rw [e]
theorem c_sNam (e : tkf T n = tkf U n) : sNam T n = sNam U n := by
  funext p
  unfold sNam
  rw [e]
theorem c_sIO (e : tkf T n = tkf U n) : sIO T n = sIO U n := by
  funext a p
  unfold sIO
  rw [e]
theorem c_sIS (e : tkf T n = tkf U n) : sIS T n = sIS U n := by
  funext a p
  unfold sIS
  rw [e]
theorem c_sIA (e : tkf T n = tkf U n) : sIA T n = sIA U n := by
  funext p
  unfold sIA
  rw [c_sIS e]
theorem c_sIM (e : tkf T n = tkf U n) : sIM T n = sIM U n := by
  funext p
  unfold sIM
  rw [c_sIS e]
theorem c_sIC (e : tkf T n = tkf U n) : sIC T n = sIC U n := by
  funext p
  unfold sIC
  rw [c_sIS e]
theorem c_sIV (e : tkf T n = tkf U n) : sIV T n wh = sIV U n wh := by
  funext p
  unfold sIV
  rw [e, c_sIO e]
theorem c_wIx (e : tkf T n = tkf U n) : wIx T n = wIx U n := by
  funext p
  unfold wIx
  rw [e]
theorem c_vIt (e : tkf T n = tkf U n) : vIt T n = vIt U n := by
  funext p
  unfold vIt
  rw [e, c_wIx e]
theorem c_sOpd (e : tkf T n = tkf U n) : sOpd T n wh = sOpd U n wh := by
  funext l p
  cases l with
  | nil => rfl
  | cons f r => simp only [sOpd, e, c_sIO e, c_sIS e, c_sIV e, c_sSgn e, c_wIx e, c_vIt e]
theorem c_sGon (e : tkf T n = tkf U n) : sGon T n = sGon U n := by
  funext l p
  cases l with
  | nil => rfl
  | cons f r => simp only [sGon, e, c_sIO e, c_sIS e, c_sIA e, c_sIM e, c_sIC e, c_wIx e]
theorem c_mrn (e : tkf T n = tkf U n) : ∀ f : Nat, mrn T n wh f = mrn U n wh f
  | 0 => by
    funext w l h p
    simp only [mrn]
  | f + 1 => by
    have ih := c_mrn e f
    funext w l h p
    simp only [mrn, c_sOpd e, c_sGon e, ih]
theorem c_Mch (e : tkf T n = tkf U n) : Mch T n wh = Mch U n wh := by
  funext w l h p
  unfold Mch
  rw [c_mrn e]
theorem c_sRea (e : tkf T n = tkf U n) : sRea T n = sRea U n := by
  funext w Q p
  unfold sRea
  rw [c_Mch e]
theorem c_sTel (e : tkf T n = tkf U n) : sTel T n = sTel U n := by
  funext k a b Q p
  unfold sTel
  rw [c_sNum e]
theorem c_sCel (e : tkf T n = tkf U n) : sCel T n = sCel U n := by
  funext w Q p
  unfold sCel
  rw [c_sNum e]
theorem c_sWal (e : tkf T n = tkf U n) : sWal T n = sWal U n := by
  funext Q p
  unfold sWal
  rw [c_sCel e]
theorem c_sFre (e : tkf T n = tkf U n) : sFre T n = sFre U n := by
  funext Q p
  unfold sFre
  rw [c_sNam e]
theorem c_sLac (e : tkf T n = tkf U n) : sLac T n = sLac U n := by
  funext Q p
  unfold sLac
  rw [c_sFre e, c_sOwn e, c_sCel e, c_sNum e]
theorem c_sHav (e : tkf T n = tkf U n) : sHav T n = sHav U n := by
  funext Q p
  unfold sHav
  rw [c_sNam e]
theorem c_sFol (e : tkf T n = tkf U n) : sFol T n = sFol U n := by
  funext Q p
  unfold sFol
  rw [c_sFre e, c_sOwn e, c_sCel e]
theorem c_sZ174 (e : tkf T n = tkf U n) : sZ174 T n = sZ174 U n := by
  funext Q p
  unfold sZ174
  rw [e, c_sIO e, c_sRea e]
theorem c_sZ156 (e : tkf T n = tkf U n) : sZ156 T n = sZ156 U n := by
  funext Q p
  unfold sZ156
  rw [e, c_sIO e, c_sRea e, c_sZ174 e]
theorem c_sZ138 (e : tkf T n = tkf U n) : sZ138 T n = sZ138 U n := by
  funext Q p
  unfold sZ138
  rw [e, c_sIO e, c_sRea e, c_sZ156 e]
theorem c_sZ121 (e : tkf T n = tkf U n) : sZ121 T n = sZ121 U n := by
  funext Q p
  unfold sZ121
  rw [e, c_sIO e, c_sFol e, c_sZ138 e]
theorem c_sZ104 (e : tkf T n = tkf U n) : sZ104 T n = sZ104 U n := by
  funext Q p
  unfold sZ104
  rw [e, c_sIO e, c_sHav e, c_sZ121 e]
theorem c_sZ87 (e : tkf T n = tkf U n) : sZ87 T n = sZ87 U n := by
  funext Q p
  unfold sZ87
  rw [e, c_sIO e, c_sLac e, c_sZ104 e]
theorem c_sZ70 (e : tkf T n = tkf U n) : sZ70 T n = sZ70 U n := by
  funext Q p
  unfold sZ70
  rw [e, c_sIO e, c_sWal e, c_sZ87 e]
theorem c_sZ41 (e : tkf T n = tkf U n) : sZ41 T n = sZ41 U n := by
  funext Q p
  unfold sZ41
  rw [e, c_sIO e, c_sTel e, c_sZ70 e]
theorem c_sZ12 (e : tkf T n = tkf U n) : sZ12 T n = sZ12 U n := by
  funext Q p
  unfold sZ12
  rw [e, c_sIO e, c_sTel e, c_sZ41 e]
theorem c_sSta (e : tkf T n = tkf U n) : sSta T n = sSta U n := by
  funext Q p
  unfold sSta
  rw [c_sZ12 e]
theorem c_sFin (e : tkf T n = tkf U n) : sFin T n = sFin U n := by
  funext k p
  unfold sFin
  rw [c_sSgn e, e]
theorem c_sSiz (e : tkf T n = tkf U n) : sSiz T n = sSiz U n := by
  funext p
  unfold sSiz
  rw [c_sOwn e, c_sNum e]
theorem c_sQL (e : tkf T n = tkf U n) : ∀ f : Nat, sQL T n f = sQL U n f
  | 0 => by
    funext k Q p
    simp only [sQL]
  | f + 1 => by
    have ih := c_sQL e f
    funext k Q p
    simp only [sQL, e, c_sSta e, c_sFin e, ih]
theorem sQua_c (H : ∀ i, i < n → gn T i = gn U i) : sQua T n = sQua U n := by
  have e := tkf_c H
  unfold sQua
  rw [c_sSiz e, c_sFin e, c_sQL e]
end CH
