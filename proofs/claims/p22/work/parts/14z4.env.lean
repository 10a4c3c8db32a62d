/-! cells that are not in a list -/
theorem nin_l {l : List Nat} {k : Nat} (h : ∀ x ∈ l, ¬ x = k) : l.contains k = false := by
  cases hc : l.contains k with
  | false => rfl
  | true => exact absurd rfl (h k (List.contains_iff_mem.1 hc))
theorem nin_m {k : Nat} (h : 223 ≤ k) : [191, 185].contains k = false := nin_l (fun x hx => by
  simp at hx
  omega)
theorem nin_x {k : Nat} (h : k ≤ 25 ∨ k = 181) : [191, 185].contains k = false := nin_l (fun x hx => by
  simp at hx
  omega)
theorem nin_4 {k : Nat} (h : k ≤ 241 ∧ ¬ k = 221) : [221, 248, 264, 265, 266].contains k = false := nin_l (fun x hx => by
  simp at hx
  omega)
/-! what holds between the calls: counts and contents of the tapes, what the quays tell -/
section EV4
variable {a b : Int32} {t u : List Int32} {Y Z : Qd}
/-- what the model's bank tells -/
def mB (Z : Qd) (m : zM) : Prop := mQ (gi m 221 13).toInt Z m ∧ (((gi m 221 46).toInt = 1 ∧ hqQ Z) ∨ ((gi m 221 46).toInt = 0 ∧ Qc Z = 0))
theorem mQ_A {b : Int} {Q : Qd} {mem m : zM} (A : ∀ k, 223 ≤ k → k ≤ 241 → ga m k = ga mem k ∧ gA m k = gA mem k) (h : mQ b Q mem) : mQ b Q m := by
  have X : mQx b Q m := mQx_eq (fun k hk => (A k (by have := List.contains_iff_mem.1 hk; simp at this; omega) (by have := List.contains_iff_mem.1 hk; simp at this; omega)).1) h.2.2.2.2.2.2
  unfold mQ mQw mQt mQh mQf mQu
  rw [(A 223 (by decide) (by decide)).1, (A 224 (by decide) (by decide)).1, (A 227 (by decide) (by decide)).1, (A 228 (by decide) (by decide)).1, (A 229 (by decide) (by decide)).1, (A 232 (by decide) (by decide)).1, (A 233 (by decide) (by decide)).1, (A 234 (by decide) (by decide)).1, (A 235 (by decide) (by decide)).1, (A 236 (by decide) (by decide)).1, (A 240 (by decide) (by decide)).2, (A 241 (by decide) (by decide)).2]
  exact ⟨h.1, h.2.1, h.2.2.1, h.2.2.2.1, h.2.2.2.2.1, h.2.2.2.2.2.1, X⟩
theorem mB_ga {m m' : zM} (e : gi m' 221 13 = gi m 221 13) (e6 : gi m' 221 46 = gi m 221 46) (A : ∀ k, 223 ≤ k → k ≤ 241 → ga m' k = ga m k ∧ gA m' k = gA m k) (h : mB Z m) : mB Z m' := by
  unfold mB at h ⊢
  rw [e, e6]
  exact ⟨mQ_A A h.1, h.2⟩
theorem mB_zat {m m' : zM} (e : gi m' 221 13 = gi m 221 13) (e6 : gi m' 221 46 = gi m 221 46) (A : ∀ k, 223 ≤ k → k ≤ 241 → zat m' k = zat m k) (h : mB Z m) : mB Z m' := mB_ga e e6 (fun k h1 h2 => by
  unfold ga gA
  rw [A k h1 h2]
  exact ⟨rfl, rfl⟩) h
theorem mB_fr {ks is : List Nat} {m m' : zM} (F : fr ks is m m') (h1 : is.contains 13 = false) (h6 : is.contains 46 = false) (h2 : ks.all (fun k => decide (k < 223 ∨ 241 < k)) = true) (h : mB Z m) : mB Z m' := mB_zat (fr_gi F h1) (fr_gi F h6) (fun k a1 a2 => F.1 k (by omega) (by
    cases hc : ks.contains k with
    | false => rfl
    | true =>
      have t := of_decide_eq_true (List.all_eq_true.1 h2 k (List.contains_iff_mem.1 hc))
      omega)) h
theorem mB_pr {T : List aCe} {m m' : zM} (F : aPr T m m') (e : aKf T 221 13 = true) (e6 : aKf T 221 46 = true) (c3 : aKa T 223 = true) (c4 : aKa T 224 = true) (c7 : aKa T 227 = true) (c8 : aKa T 228 = true) (c9 : aKa T 229 = true) (d2 : aKa T 232 = true) (d3 : aKa T 233 = true) (d4 : aKa T 234 = true) (d5 : aKa T 235 = true) (d6 : aKa T 236 = true) (d7 : aKa T 240 = true) (d8 : aKa T 241 = true) (y1 : aKa T 225 = true) (y2 : aKa T 226 = true) (y3 : aKa T 230 = true) (y4 : aKa T 231 = true) (y5 : aKa T 237 = true) (y6 : aKa T 238 = true) (y7 : aKa T 239 = true) (h : mB Z m) : mB Z m' := by
  have X : mQx (gi m 221 13).toInt Z m' := by
    have x := h.1.2.2.2.2.2.2
    unfold mQx mQg mQk cdAt at x ⊢
    rw [pr_ga F y1, pr_ga F y2, pr_ga F y3, pr_ga F y4, pr_ga F d6, pr_ga F y5, pr_ga F y6, pr_ga F y7]
    exact x
  unfold mB mQ mQw mQt mQh mQf mQu at h ⊢
  rw [pr_gi F e, pr_gi F e6, pr_ga F c3, pr_ga F c4, pr_ga F c7, pr_ga F c8, pr_ga F c9, pr_ga F d2, pr_ga F d3, pr_ga F d4, pr_ga F d5, pr_ga F d6, show gA m' 240 = gA m 240 by unfold gA; rw [F.1 240 d7], show gA m' 241 = gA m 241 by unfold gA; rw [F.1 241 d8]]
  exact ⟨⟨h.1.1, h.1.2.1, h.1.2.2.1, h.1.2.2.2.1, h.1.2.2.2.2.1, h.1.2.2.2.2.2.1, X⟩, h.2⟩
theorem pQ_za {m m' : zM} (F : ∀ k, k ≤ 25 ∨ k = 181 → zat m' k = zat m k) (h : pQ Y m) : pQ Y m' := by
  rcases h with ⟨h1, h2, h3, h4⟩ | ⟨h1, h2, h3, h4⟩
  · exact Or.inl ⟨(zfl_ea (F 0 (by decide))).trans h1, (zfl_ea (F 0 (by decide))).trans h2, (zfl_ea (F 181 (by decide))).trans h3, cQ_zaA (fun k a1 a2 => F k (by omega)) h4⟩
  · exact Or.inr ⟨(zfl_ea (F 0 (by decide))).trans h1, (zfl_ea (F 0 (by decide))).trans h2, (zfl_ea (F 181 (by decide))).trans h3, cQ_zaB (fun k a1 a2 => F k (by omega)) h4⟩
theorem pQ_zf {m m' : zM} (f4 : zfl m' 0 4 = zfl m 0 4) (f5 : zfl m' 0 5 = zfl m 0 5) (F : ∀ k, (2 ≤ k ∧ k ≤ 25) ∨ k = 181 → zat m' k = zat m k) (h : pQ Y m) : pQ Y m' := by
  rcases h with ⟨h1, h2, h3, h4⟩ | ⟨h1, h2, h3, h4⟩
  · exact Or.inl ⟨f4.trans h1, f5.trans h2, (zfl_ea (F 181 (by decide))).trans h3, cQ_zaA (fun k a1 a2 => F k (by omega)) h4⟩
  · exact Or.inr ⟨f4.trans h1, f5.trans h2, (zfl_ea (F 181 (by decide))).trans h3, cQ_zaB (fun k a1 a2 => F k (by omega)) h4⟩
theorem pQ_0 {m m' : zM} (F : aPr aT0 m m') (h : pQ Y m) : pQ Y m' := by
  rcases h with ⟨h1, h2, h3, h4⟩ | ⟨h1, h2, h3, h4⟩
  · exact Or.inl ⟨(F.2 0 4 rfl).trans h1, (F.2 0 5 rfl).trans h2, (F.2 181 0 rfl).trans h3, cQ_prA F rfl rfl rfl rfl rfl rfl rfl rfl rfl rfl rfl rfl rfl rfl rfl rfl rfl rfl rfl rfl h4⟩
  · exact Or.inr ⟨(F.2 0 4 rfl).trans h1, (F.2 0 5 rfl).trans h2, (F.2 181 0 rfl).trans h3, cQ_prB F rfl rfl rfl rfl rfl rfl rfl rfl rfl rfl rfl rfl rfl rfl rfl rfl rfl rfl rfl rfl h4⟩
theorem pQ_4 {m m' : zM} (F : aPr aT4 m m') (h : pQ Y m) : pQ Y m' := by
  rcases h with ⟨h1, h2, h3, h4⟩ | ⟨h1, h2, h3, h4⟩
  · exact Or.inl ⟨(F.2 0 4 rfl).trans h1, (F.2 0 5 rfl).trans h2, (F.2 181 0 rfl).trans h3, cQ_prA F rfl rfl rfl rfl rfl rfl rfl rfl rfl rfl rfl rfl rfl rfl rfl rfl rfl rfl rfl rfl h4⟩
  · exact Or.inr ⟨(F.2 0 4 rfl).trans h1, (F.2 0 5 rfl).trans h2, (F.2 181 0 rfl).trans h3, cQ_prB F rfl rfl rfl rfl rfl rfl rfl rfl rfl rfl rfl rfl rfl rfl rfl rfl rfl rfl rfl rfl h4⟩
theorem pQ_7 {m m' : zM} (F : aPr aT7 m m') (h : pQ Y m) : pQ Y m' := by
  rcases h with ⟨h1, h2, h3, h4⟩ | ⟨h1, h2, h3, h4⟩
  · exact Or.inl ⟨(F.2 0 4 rfl).trans h1, (F.2 0 5 rfl).trans h2, (F.2 181 0 rfl).trans h3, cQ_prA F rfl rfl rfl rfl rfl rfl rfl rfl rfl rfl rfl rfl rfl rfl rfl rfl rfl rfl rfl rfl h4⟩
  · exact Or.inr ⟨(F.2 0 4 rfl).trans h1, (F.2 0 5 rfl).trans h2, (F.2 181 0 rfl).trans h3, cQ_prB F rfl rfl rfl rfl rfl rfl rfl rfl rfl rfl rfl rfl rfl rfl rfl rfl rfl rfl rfl rfl h4⟩
/-- kept in all tables -/
def EC4 (a b : Int32) (t u : List Int32) (Z : Qd) (m : zM) : Prop := (EM m ∧ mB Z m) ∧ (gi m 0 1 = a ∧ gi m 221 1 = b) ∧ ga m 28 = ownC ∧ ga m 1 = t ∧ ga m 222 = u
/-- kept but by quay -/
def EC5 (a b : Int32) (t u : List Int32) (Y Z : Qd) (m : zM) : Prop := EC4 a b t u Z m ∧ pQ Y m
abbrev E4 (a b : Int32) (t u : List Int32) (Z : Qd) : zM → Prop := aEm (EC4 a b t u Z)
abbrev E5 (a b : Int32) (t u : List Int32) (Y Z : Qd) : zM → Prop := aEm (EC5 a b t u Y Z)
theorem E5_4 {m : zM} (h : E5 a b t u Y Z m) : E4 a b t u Z m := ⟨h.1.1, h.2⟩
theorem E4_5 {m : zM} (h : E4 a b t u Z m) (k : pQ Y m) : E5 a b t u Y Z m := ⟨⟨h.1, k⟩, h.2⟩
theorem E4_mk {m m' : zM} {a b a' b' : Int32} {t u t' u' : List Int32} {Z Z' : Qd} (e : EM m') (z : mB Z' m') (x : gi m' 0 1 = a') (y : gi m' 221 1 = b') (c : ga m' 28 = ownC) (p : ga m' 1 = t') (q : ga m' 222 = u') (h : zat m' 191 = zat m 191) (k : E4 a b t u Z m) : E4 a' b' t' u' Z' m' := ⟨⟨⟨e, z⟩, ⟨x, y⟩, c, p, q⟩, fun l hl => k.2 l (by rw [← h]; exact hl)⟩
theorem E4_s {T : List aCe} (q : aKa T 191 = true) (p : aKf T 221 13 = true) (c3 : aKa T 223 = true) (c4 : aKa T 224 = true) (c6 : aKa T 236 = true) (c7 : aKa T 237 = true) (c8 : aKa T 238 = true) (k0 : aKf T 0 1 = true) (k1 : aKf T 221 1 = true) (d1 : aKa T 28 = true) (d2 : aKa T 1 = true) (d3 : aKa T 222 = true) (e1 : aKa T 227 = true) (e2 : aKa T 228 = true) (e3 : aKa T 229 = true) (e4 : aKa T 232 = true) (e5 : aKa T 233 = true) (e6 : aKa T 234 = true) (e7 : aKa T 235 = true) (e8 : aKa T 240 = true) (e9 : aKa T 241 = true) (f6 : aKf T 221 46 = true) (y1 : aKa T 225 = true) (y2 : aKa T 226 = true) (y3 : aKa T 230 = true) (y4 : aKa T 231 = true) (y7 : aKa T 239 = true) : aEs (T, E4 a b t u Z, zpg) := fun m m' hp _ h => E4_mk (EM_of (pr_gi hp p) (pr_ga hp c3) (pr_ga hp c4) (pr_ga hp c6) (pr_ga hp c7) (pr_ga hp c8) h.1.1.1) (mB_pr hp p f6 c3 c4 e1 e2 e3 e4 e5 e6 e7 c6 e8 e9 y1 y2 y3 y4 c7 c8 y7 h.1.1.2) ((pr_gi hp k0).trans h.1.2.1.1) ((pr_gi hp k1).trans h.1.2.1.2) ((pr_ga hp d1).trans h.1.2.2.1) ((pr_ga hp d2).trans h.1.2.2.2.1) ((pr_ga hp d3).trans h.1.2.2.2.2) (hp.1 191 q) h
theorem hE4_0 : aEs (aΘ0 (E4 a b t u Z)) := E4_s (by decide +kernel) (by decide +kernel) (by decide +kernel) (by decide +kernel) (by decide +kernel) (by decide +kernel) (by decide +kernel) (by decide +kernel) (by decide +kernel) (by decide +kernel) (by decide +kernel) (by decide +kernel) (by decide +kernel) (by decide +kernel) (by decide +kernel) (by decide +kernel) (by decide +kernel) (by decide +kernel) (by decide +kernel) (by decide +kernel) (by decide +kernel) (by decide +kernel) (by decide +kernel) (by decide +kernel) (by decide +kernel) (by decide +kernel) (by decide +kernel)
theorem hE4_1 : aEs (aΘ1 (E4 a b t u Z)) := E4_s (by decide +kernel) (by decide +kernel) (by decide +kernel) (by decide +kernel) (by decide +kernel) (by decide +kernel) (by decide +kernel) (by decide +kernel) (by decide +kernel) (by decide +kernel) (by decide +kernel) (by decide +kernel) (by decide +kernel) (by decide +kernel) (by decide +kernel) (by decide +kernel) (by decide +kernel) (by decide +kernel) (by decide +kernel) (by decide +kernel) (by decide +kernel) (by decide +kernel) (by decide +kernel) (by decide +kernel) (by decide +kernel) (by decide +kernel) (by decide +kernel)
theorem hE4_4 : aEs (aΘ4 (E4 a b t u Z)) := E4_s (by decide +kernel) (by decide +kernel) (by decide +kernel) (by decide +kernel) (by decide +kernel) (by decide +kernel) (by decide +kernel) (by decide +kernel) (by decide +kernel) (by decide +kernel) (by decide +kernel) (by decide +kernel) (by decide +kernel) (by decide +kernel) (by decide +kernel) (by decide +kernel) (by decide +kernel) (by decide +kernel) (by decide +kernel) (by decide +kernel) (by decide +kernel) (by decide +kernel) (by decide +kernel) (by decide +kernel) (by decide +kernel) (by decide +kernel) (by decide +kernel)
theorem hE4_6 : aEs (aΘ6 (E4 a b t u Z)) := E4_s (by decide +kernel) (by decide +kernel) (by decide +kernel) (by decide +kernel) (by decide +kernel) (by decide +kernel) (by decide +kernel) (by decide +kernel) (by decide +kernel) (by decide +kernel) (by decide +kernel) (by decide +kernel) (by decide +kernel) (by decide +kernel) (by decide +kernel) (by decide +kernel) (by decide +kernel) (by decide +kernel) (by decide +kernel) (by decide +kernel) (by decide +kernel) (by decide +kernel) (by decide +kernel) (by decide +kernel) (by decide +kernel) (by decide +kernel) (by decide +kernel)
theorem hE4_7 : aEs (aΘ7 (E4 a b t u Z)) := E4_s (by decide +kernel) (by decide +kernel) (by decide +kernel) (by decide +kernel) (by decide +kernel) (by decide +kernel) (by decide +kernel) (by decide +kernel) (by decide +kernel) (by decide +kernel) (by decide +kernel) (by decide +kernel) (by decide +kernel) (by decide +kernel) (by decide +kernel) (by decide +kernel) (by decide +kernel) (by decide +kernel) (by decide +kernel) (by decide +kernel) (by decide +kernel) (by decide +kernel) (by decide +kernel) (by decide +kernel) (by decide +kernel) (by decide +kernel) (by decide +kernel)
theorem hE5_0 : aEs (aΘ0 (E5 a b t u Y Z)) := fun m m' hp ht h => E4_5 (hE4_0 m m' hp ht (E5_4 h)) (pQ_0 hp h.1.2)
theorem hE5_4 : aEs (aΘ4 (E5 a b t u Y Z)) := fun m m' hp ht h => E4_5 (hE4_4 m m' hp ht (E5_4 h)) (pQ_4 hp h.1.2)
theorem hE5_7 : aEs (aΘ7 (E5 a b t u Y Z)) := fun m m' hp ht h => E4_5 (hE4_7 m m' hp ht (E5_4 h)) (pQ_7 hp h.1.2)
theorem uH1 : aH1 (E4 a b t u Z) := ⟨hE4_1, trivial⟩
theorem uH6 : aH6 (E4 a b t u Z) := ⟨hE4_6, trivial⟩
theorem uH3 : aH3 (E5 a b t u Y Z) := ⟨hE5_0, met_q⟩
theorem uH0 : aH0 (E5 a b t u Y Z) := ⟨hE5_0, k3_X3_fitsMet uH3⟩
theorem uH4 : aH4 (E5 a b t u Y Z) := ⟨hE5_4, trivial⟩
theorem uH5 : aH5 (E5 a b t u Y Z) := ⟨hE5_0, uH4⟩
theorem uH7 : aH7 (E5 a b t u Y Z) := ⟨hE5_7, trivial⟩
theorem uQ : ∀ mem, aJ (aΘ0 (E5 a b t u Y Z)) mem → cdOK mem := fun _ h => h.2.1.1.1.1.1
theorem uZ : ∀ mem, aJ (aΘ0 (E5 a b t u Y Z)) mem → szOK mem := fun _ h => h.2.1.1.1.1.2
theorem uH9 : aH9 (E5 a b t u Y Z) := H9 hE5_0 uH5 uQ uZ
theorem uNo : aNo (EC5 a b t u Y Z) [191, 185] := fun m m' h e => ⟨⟨⟨EM_zq (fun k hk => h k (by rcases hk with rfl | rfl | rfl | rfl | rfl | rfl <;> rfl)) e.1.1.1, mB_zat (gi_zq (h 221 rfl)) (gi_zq (h 221 rfl)) (fun k h1 h2 => h k (nin_m h1)) e.1.1.2⟩, ⟨(gi_zq (h 0 rfl)).trans e.1.2.1.1, (gi_zq (h 221 rfl)).trans e.1.2.1.2⟩, (ga_zq (h 28 rfl)).trans e.1.2.2.1, (ga_zq (h 1 rfl)).trans e.1.2.2.2.1, (ga_zq (h 222 rfl)).trans e.1.2.2.2.2⟩, pQ_za (fun k hk => h k (nin_x hk)) e.2⟩
end EV4
/-- the state between the calls -/
def J5 (a b : Int32) (t u : List Int32) (Y Z : Qd) (m : zM) : Prop := aJ (aΘ0 (E5 a b t u Y Z)) m
def pbU (a b : Int32) (t u : List Int32) (Y Z : Qd) (r : Option Value) (m : zM) : Prop := J5 a b t u Y Z m ∧ ∃ v : Int32, r = some (.int v)
theorem pb5 {a b : Int32} {t u : List Int32} {Y Z : Qd} {D : Nat} {c : aCt} {q : Int × Int} (h : aCv (aΘ0 (E5 a b t u Y Z)) D c) (hr : c.2.2 = some (.inl q)) {d : Nat} {mem : zM} {av : List Value} (hd : D ≤ d) (hJ : J5 a b t u Y Z mem) (ha : aTvs c.2.1 av) : yC zpg d c.1 av mem (pbU a b t u Y Z) := yC_mono (fun r m k => by
  obtain ⟨k1, -, k3⟩ := k
  rw [hr] at k3
  obtain ⟨x, e, -⟩ := aTr_i k3
  exact ⟨k1, x, e⟩) (h d mem av hd hJ ha)
theorem frX_E5 {a b a' : Int32} {t u : List Int32} {Y Z : Qd} {m m' : zM} (h : frX m m') (x : gi m' 0 1 = a') (k : E5 a b t u Y Z m) : E5 a' b t u Y Z m' := E4_5 (E4_mk (EM_zq (fun q hq => h.1 q (by omega)) k.1.1.1.1) (mB_zat (gi_zq (h.1 221 (by decide))) (gi_zq (h.1 221 (by decide))) (fun q h1 h2 => h.1 q (by omega)) k.1.1.1.2) x ((gi_zq (h.1 221 (by decide))).trans k.1.1.2.1.2) ((ga_zq (h.1 28 (by decide))).trans k.1.1.2.2.1) ((ga_zq (h.1 1 (by decide))).trans k.1.1.2.2.2.1) ((ga_zq (h.1 222 (by decide))).trans k.1.1.2.2.2.2) (h.1 191 (by decide)) (E5_4 k)) (pQ_zf (h.2 4 (by decide) (by decide)) (h.2 5 (by decide) (by decide)) (fun q hq => h.1 q (by omega)) k.1.2)
theorem fr_E5 {ks is : List Nat} {a b b' : Int32} {t u : List Int32} {Y Z : Qd} {m m' : zM} (F : fr ks is m m') (h1 : is.contains 13 = false) (h6 : is.contains 46 = false) (h2 : ks.all (fun k => decide (221 < k ∧ ¬ k = 222 ∧ (k < 223 ∨ 241 < k))) = true) (y : gi m' 221 1 = b') (k : E5 a b t u Y Z m) : E5 a b' t u Y Z m' := by
  have W : ∀ q, (q < 221 ∨ (222 ≤ q ∧ q ≤ 241)) → zat m' q = zat m q := fun q hq => F.1 q (by omega) (by
    cases hc : ks.contains q with
    | false => rfl
    | true =>
      have t := of_decide_eq_true (List.all_eq_true.1 h2 q (List.contains_iff_mem.1 hc))
      omega)
  exact E4_5 (E4_mk (EM_of (fr_gi F h1) (ga_zq (W 223 (by decide))) (ga_zq (W 224 (by decide))) (ga_zq (W 236 (by decide))) (ga_zq (W 237 (by decide))) (ga_zq (W 238 (by decide))) k.1.1.1.1) (mB_zat (fr_gi F h1) (fr_gi F h6) (fun q a1 a2 => W q (by omega)) k.1.1.1.2) ((gi_zq (W 0 (by decide))).trans k.1.1.2.1.1) y ((ga_zq (W 28 (by decide))).trans k.1.1.2.2.1) ((ga_zq (W 1 (by decide))).trans k.1.1.2.2.2.1) ((ga_zq (W 222 (by decide))).trans k.1.1.2.2.2.2) (W 191 (by decide)) (E5_4 k)) (pQ_za (fun q hq => W q (by omega)) k.1.2)
theorem J5_tk {a b : Int32} {t u : List Int32} {Y Z : Qd} {m : zM} (h : J5 a b t u Y Z m) : J5 0 b t u Y Z (tk0 m) := by
  rw [tk0_si h.1]
  refine ⟨tm_si cO_e cO_1 h.1 (by decide), frX_E5 (m := m) ?_ (gi_si_eq cO_e cO_1 h.1) h.2⟩
  exact frX_sv (by decide) frX_rf
theorem J5_tm {a b : Int32} {t u : List Int32} {Y Z : Qd} {m : zM} (h : J5 a b t u Y Z m) : E5 a 0 t u Y Z (si m 221 1 0) := fr_E5 (fr_sv (is := [1]) (ks := []) rfl fr_rf) rfl rfl rfl (gi_si_eq mO_e mO_1 h.1) h.2
