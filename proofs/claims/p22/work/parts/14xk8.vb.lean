/-! what the bank b tells -/
section VB
variable {d : Nat} {mr mem m : zM} {b : Int}
def sBk (k : Nat) : Int := if k = 227 then 64 else if k = 229 ∨ k = 230 ∨ k = 231 ∨ k = 240 then 9 else if k = 234 ∨ k = 235 ∨ k = 241 then 6 else if k = 236 ∨ k = 237 then 3 else if k = 238 ∨ k = 239 then 1600 else if (223 ≤ k ∧ k ≤ 226) ∨ k = 228 ∨ k = 232 ∨ k = 233 then 1 else 0
def vB (b : Int) (m : zM) : Nat → Int → Int := fun k i => if 0 ≤ i ∧ i < sBk k then (if k < 240 then gn (ga m k) (sBk k * b + i) else (gl (gA m k) (sBk k * b + i)).toInt) else 0
theorem vB_ga (h : ∀ k, ¬ sBk k = 0 → ga m k = ga mr k ∧ gA m k = gA mr k) : vB b m = vB b mr := by
  funext k i
  unfold vB
  by_cases c : 0 ≤ i ∧ i < sBk k
  · rw [if_pos c, if_pos c, (h k (by omega)).1, (h k (by omega)).2]
  · rw [if_neg c, if_neg c]
theorem sBk_r {k : Nat} (h : ¬ sBk k = 0) : 223 ≤ k ∧ k ≤ 241 := by
  by_cases c : 223 ≤ k ∧ k ≤ 241
  · exact c
  · exfalso
    apply h
    unfold sBk
    rw [if_neg (by omega), if_neg (by omega), if_neg (by omega), if_neg (by omega), if_neg (by omega), if_neg (by omega)]
theorem vB_fr {ks is : List Nat} (F : fr ks is mr m) (h : ks.all (fun k => decide (sBk k = 0)) = true) : vB b m = vB b mr := vB_ga fun k hk => by
  have r := sBk_r hk
  have z : zat m k = zat mr k := F.1 k (by omega) (by
    cases hc : ks.contains k with
    | false => rfl
    | true => exact absurd (of_decide_eq_true (List.all_eq_true.1 h k (List.contains_iff_mem.1 hc))) hk)
  unfold ga gA
  rw [z]
  exact ⟨rfl, rfl⟩
theorem vB_kB (h : kB mr m) (hb : b = (gi mr 221 13).toInt) : vB b m = vB b mr := by
  funext k i
  unfold vB
  by_cases c : 0 ≤ i ∧ i < sBk k
  · rw [if_pos c, if_pos c]
    by_cases e8 : k = 238
    · subst e8
      have c2 : i < 1600 := c.2
      rw [if_pos (by decide), if_pos (by decide), hb]
      exact h.2.2.2.1 i c.1 c2
    · by_cases e9 : k = 239
      · subst e9
        have c2 : i < 1600 := c.2
        rw [if_pos (by decide), if_pos (by decide), hb]
        exact h.2.2.2.2.2.2.1 i c.1 c2
      · have r := sBk_r (k := k) (by omega)
        have z : zat m k = zat mr k := h.1.1 k (by omega) (by
          cases hc : rdK.contains k with
          | false => rfl
          | true =>
            have t := List.contains_iff_mem.1 hc
            simp at t
            omega)
        unfold ga gA
        rw [z]
  · rw [if_neg c, if_neg c]
theorem vB_sv {k i : Nat} {v : Value} : vB b (sv m k i v) = vB b m := vB_ga fun _ _ => ⟨ga_sv, gA_sv⟩
theorem vB_o {k j : Nat} {x : Int32} (h : sBk k = 0) : vB b (sa m k j x) = vB b m := vB_ga fun q hq => ⟨ga_sa_ne (fun e => hq (e ▸ h)), gA_sa⟩
theorem vB_sa {k : Nat} {x v : Int32} {s : Int} (hs : sBk k = s) (hk : k < 240) (x0 : 0 ≤ x.toInt) (hne : ∀ i, 0 ≤ i → i < s → ¬ s * b + i = x.toInt) (h0 : 0 ≤ s * b) : vB b (sx m k x v) = vB b m := by
  funext q i
  unfold vB
  by_cases c : 0 ≤ i ∧ i < sBk q
  · rw [if_pos c, if_pos c]
    by_cases e : k = q
    · subst e
      rw [if_pos hk, if_pos hk, ga_sa_eq]
      rw [hs] at c ⊢
      by_cases l : x.toInt < (ga m k).length
      · rw [gn_set (a := x.toInt) rfl x0 l (by omega), if_neg (hne i c.1 c.2)]
      · have t := zclamp x0
        rw [List.set_eq_of_length_le (by omega)]
    · rw [ga_sa_ne e, gA_sa]
  · rw [if_neg c, if_neg c]
theorem vB_sA {k : Nat} {x : Int32} {v : Int64} {s : Int} (hs : sBk k = s) (hk : ¬ k < 240) (x0 : 0 ≤ x.toInt) (hne : ∀ i, 0 ≤ i → i < s → ¬ s * b + i = x.toInt) (h0 : 0 ≤ s * b) : vB b (sX m k x v) = vB b m := by
  funext q i
  unfold vB
  by_cases c : 0 ≤ i ∧ i < sBk q
  · rw [if_pos c, if_pos c]
    by_cases e : k = q
    · subst e
      rw [if_neg hk, if_neg hk, gA_sA_eq]
      rw [hs] at c ⊢
      by_cases l : x.toInt < (gA m k).length
      · rw [gl_set (a := x.toInt) rfl x0 l (by omega), if_neg (hne i c.1 c.2)]
      · have t := zclamp x0
        rw [List.set_eq_of_length_le (by omega)]
    · rw [gA_sA_ne e, ga_sA]
  · rw [if_neg c, if_neg c]
end VB
