/-! the state of a quay that is read -/
abbrev qK : List Nat := [223, 224, 225, 226, 227, 228, 229, 230, 231, 232, 233, 234, 235, 236, 237, 238, 239, 240, 241, 242, 243, 244, 245, 246, 247]
abbrev qF : List Nat := [2, 3, 4, 5, 6, 7, 8, 9, 10, 11, 12, 33, 35, 41, 42, 44, 45]
def kO (mr m : zM) : Prop := fr qK qF mr m ∧ (∀ k, k = 223 ∨ k = 224 → gn (ga m k) (bI mr) = gn (ga mr k) (bI mr)) ∧ (∀ k, k = 236 ∨ k = 237 → ∀ w, 0 ≤ w → w < 3 → gn (ga m k) (3 * bI mr + w) = gn (ga mr k) (3 * bI mr + w)) ∧ ∀ i, 0 ≤ i → i < 1600 → gn (ga m 238) (1600 * bI mr + i) = gn (ga mr 238) (1600 * bI mr + i)
def cdN (m : zM) : Prop := ∀ w, 0 ≤ w → w < 3 → ¬ gn (ga m 236) (3 * inI m + w) = -1 → (0 ≤ gn (ga m 236) (3 * inI m + w) ∧ gn (ga m 236) (3 * inI m + w) ≤ gn (ga m 237) (3 * inI m + w) ∧ gn (ga m 237) (3 * inI m + w) ≤ (gi m 221 33).toInt) ∧ hgt (ga m 238) (1600 * inI m + gn (ga m 236) (3 * inI m + w)).toNat (gn (ga m 237) (3 * inI m + w) - gn (ga m 236) (3 * inI m + w)).toNat = some 1
def szI (m : zM) : Prop := (3 ≤ gn (ga m 223) (gi m 221 34).toInt ∧ gn (ga m 223) (gi m 221 34).toInt ≤ 7) ∧ 3 ≤ gn (ga m 224) (gi m 221 34).toInt ∧ gn (ga m 224) (gi m 221 34).toInt ≤ 7
def SI (mr m : zM) : Prop := kO mr m ∧ tOK m ∧ inI m = 1 - bI m ∧ (fk m = 0 → szI m ∧ (0 ≤ (gi m 221 33).toInt ∧ (gi m 221 33).toInt ≤ (gi m 221 4).toInt) ∧ cdN m)
theorem kO_st {ks is : List Nat} {mr m m' : zM} (h : kO mr m) (F : fr ks is m m') (h1 : ks.all (fun k => qK.contains k) = true) (h2 : is.all (fun k => qF.contains k) = true) (a : ks.contains 223 = false) (b : ks.contains 224 = false) (c : ks.contains 236 = false) (e : ks.contains 237 = false) (f : ks.contains 238 = false) : kO mr m' := by
  obtain ⟨k1, k2, k3, k4⟩ := h
  refine ⟨fr_tr k1 (fr_up F h1 h2), fun k hk => ?_, fun k hk w z1 z2 => ?_, fun i z1 z2 => ?_⟩
  · rw [fr_ga F (by omega) (by rcases hk with rfl | rfl <;> assumption)]; exact k2 k hk
  · rw [fr_ga F (by omega) (by rcases hk with rfl | rfl <;> assumption)]; exact k3 k hk w z1 z2
  · rw [fr_ga F (by decide) f]; exact k4 i z1 z2
theorem SI_st {mr m m' : zM} (h : SI mr m) (q : stQ stK m m') : SI mr m' := by
  obtain ⟨h1, h2, h3, h4⟩ := h
  obtain ⟨F, T, s1, s2⟩ := q
  have i34 : gi m' 221 34 = gi m 221 34 := fr_gi F rfl
  have i13 : gi m' 221 13 = gi m 221 13 := fr_gi F rfl
  have i33 : gi m' 221 33 = gi m 221 33 := fr_gi F rfl
  have hi : inI m' = inI m := by show (gi m' 221 34).toInt = _; rw [i34]
  have g3 : ga m' 223 = ga m 223 := fr_ga F (by decide) rfl
  have g4 : ga m' 224 = ga m 224 := fr_ga F (by decide) rfl
  have g6 : ga m' 236 = ga m 236 := fr_ga F (by decide) rfl
  have g7 : ga m' 237 = ga m 237 := fr_ga F (by decide) rfl
  have g8 : ga m' 238 = ga m 238 := fr_ga F (by decide) rfl
  refine ⟨kO_st h1 F rfl rfl rfl rfl rfl rfl rfl, T, ?_, fun z => ?_⟩
  · show (gi m' 221 34).toInt = 1 - (gi m' 221 13).toInt
    rw [i34, i13]; exact h3
  · have u := s2 z
    obtain ⟨v1, v2, v3⟩ := h4 u.1
    refine ⟨?_, ⟨by rw [i33]; exact v2.1, by rw [i33]; omega⟩, fun w w0 w1 => ?_⟩
    · unfold szI
      rw [g3, g4, i34]
      exact v1
    · rw [hi, g6, g7, g8, i33]
      exact v3 w w0 w1
theorem SI_t {mr m m' : zM} (h : SI mr m) (q : tQ m m') : SI mr m' := SI_st h (stQ_t q)
/-- a bank's end: the new bank's rules and edges are right -/
theorem SI_Em {mr m m' : zM} (h : SI mr m) (h0 : fk m = 0) (hc : (gi m 221 33).toInt ≤ 1600) (b : gi m' 221 13 = gi m 221 34) (g3 : ga m' 223 = ga m 223) (g4 : ga m' 224 = ga m 224) (g6 : ga m' 236 = ga m 236) (g7 : ga m' 237 = ga m 237) (g8 : ga m' 238 = ga m 238) (hb : 0 ≤ inI m ∧ inI m ≤ 1) : cdOK m' := by
  obtain ⟨h1, h2, h3, h4⟩ := h
  obtain ⟨v1, v2, v3⟩ := h4 h0
  intro w hw hn
  have eb : (gi m' 221 13).toInt = inI m := by rw [b]
  have hw' := v3 (w : Int) (by omega) (by omega)
  have en : (3 * (gi m' 221 13).toInt.toNat + w) = (3 * inI m + (w : Int)).toNat := by rw [eb]; omega
  have e6 : ((ga m' 236).getD (3 * (gi m' 221 13).toInt.toNat + w) 0).toInt = gn (ga m 236) (3 * inI m + (w : Int)) := by rw [en, g6]; rfl
  have e7 : ((ga m' 237).getD (3 * (gi m' 221 13).toInt.toNat + w) 0).toInt = gn (ga m 237) (3 * inI m + (w : Int)) := by rw [en, g7]; rfl
  rw [e6] at hn
  obtain ⟨⟨u1, u2, u3⟩, u4⟩ := hw' hn
  refine ⟨(gn (ga m 236) (3 * inI m + (w : Int))).toNat, (gn (ga m 237) (3 * inI m + (w : Int))).toNat, by rw [e6]; omega, by rw [e7]; omega, by omega, by omega, 1, ?_⟩
  rw [g8, show 1600 * (gi m' 221 13).toInt.toNat + (gn (ga m 236) (3 * inI m + (w : Int))).toNat = (1600 * inI m + gn (ga m 236) (3 * inI m + (w : Int))).toNat by rw [eb]; omega, show (gn (ga m 237) (3 * inI m + (w : Int))).toNat - (gn (ga m 236) (3 * inI m + (w : Int))).toNat = (gn (ga m 237) (3 * inI m + (w : Int)) - gn (ga m 236) (3 * inI m + (w : Int))).toNat by omega]
  first
    | exact u4
    | exact ⟨u4, by omega⟩
    | exact ⟨u4, by decide⟩
