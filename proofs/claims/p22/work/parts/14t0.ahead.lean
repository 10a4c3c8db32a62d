/-! frames of the reading: cells ks and fields is of the model's object may change -/
def fr (ks is : List Nat) (mr m : zM) : Prop := (∀ k, ¬ k = 221 → ks.contains k = false → zat m k = zat mr k) ∧ ∀ i, is.contains i = false → zfl m 221 i = zfl mr 221 i
theorem fr_rf {ks is : List Nat} {m : zM} : fr ks is m m := ⟨fun _ _ _ => rfl, fun _ _ => rfl⟩
theorem fr_tr {ks is : List Nat} {a b c : zM} (h : fr ks is a b) (k : fr ks is b c) : fr ks is a c := ⟨fun q h1 h2 => (k.1 q h1 h2).trans (h.1 q h1 h2), fun i h1 => (k.2 i h1).trans (h.2 i h1)⟩
theorem ct_up {ks qs : List Nat} (hs : ks.all (fun k => qs.contains k) = true) {q : Nat} (hq : qs.contains q = false) : ks.contains q = false := by
  cases hc : ks.contains q with
  | false => rfl
  | true =>
    have := List.all_eq_true.mp hs q (by simpa using hc)
    rw [hq] at this
    cases this
theorem fr_up {ks is qs js : List Nat} {a b : zM} (h : fr ks is a b) (h1 : ks.all (fun k => qs.contains k) = true) (h2 : is.all (fun k => js.contains k) = true) : fr qs js a b := ⟨fun k e1 e2 => h.1 k e1 (ct_up h1 e2), fun i e => h.2 i (ct_up h2 e)⟩
theorem fr_sv {ks is : List Nat} {mr m : zM} {i : Nat} {v : Value} (hi : is.contains i = true) (h : fr ks is mr m) : fr ks is mr (sv m 221 i v) := ⟨fun k e1 e2 => by rw [zat_sv_ne (Ne.symm e1)]; exact h.1 k e1 e2, fun j e => by rw [zfl_sv_ne (fun q => onl_ne hi e q.2)]; exact h.2 j e⟩
theorem fr_sa {ks is : List Nat} {mr m : zM} {k j : Nat} {x : Int32} (hk : ks.contains k = true) (h : fr ks is mr m) : fr ks is mr (sa m k j x) := ⟨fun q e1 e2 => by rw [zat_sa_ne (onl_ne hk e2)]; exact h.1 q e1 e2, fun i e => by rw [zfl_sa]; exact h.2 i e⟩
theorem fr_sA {ks is : List Nat} {mr m : zM} {k j : Nat} {x : Int64} (hk : ks.contains k = true) (h : fr ks is mr m) : fr ks is mr (sA m k j x) := ⟨fun q e1 e2 => by rw [zat_sA_ne (onl_ne hk e2)]; exact h.1 q e1 e2, fun i e => by rw [zfl_sA]; exact h.2 i e⟩
theorem fr_gi {ks is : List Nat} {mr m : zM} {i : Nat} (h : fr ks is mr m) (hi : is.contains i = false) : gi m 221 i = gi mr 221 i := by
  unfold gi
  rw [h.2 i hi]
theorem fr_gL {ks is : List Nat} {mr m : zM} {i : Nat} (h : fr ks is mr m) (hi : is.contains i = false) : gL m 221 i = gL mr 221 i := by
  unfold gL
  rw [h.2 i hi]
theorem fr_ga {ks is : List Nat} {mr m : zM} {k : Nat} (h : fr ks is mr m) (hn : ¬ k = 221) (hk : ks.contains k = false) : ga m k = ga mr k := by
  unfold ga
  rw [h.1 k hn hk]
def isO (m : zM) : Prop := ∃ fs : List Value, zat m 221 = some (.inr (12, fs)) ∧ fs.length = 73
theorem aTf_len : ∀ {τs : List (Bool × aTy)} {fs : List Value}, aTf τs fs → fs.length = τs.length
  | [], [], _ => rfl
  | [], _ :: _, h => h.elim
  | _ :: _, [], h => h.elim
  | _ :: _, _ :: _, h => congrArg (· + 1) (aTf_len h.2)
set_option maxRecDepth 100000 in
theorem mO_len : mO.length = 73 := rfl
theorem isO_of {m : zM} (hm : aTm aT0 m) : isO m := by
  obtain ⟨fs, h1, h2⟩ := aTm_o hm mO_e
  exact ⟨fs, h1, (aTf_len h2).trans mO_len⟩
theorem isO_sv {m : zM} {i : Nat} {v : Value} (h : isO m) : isO (sv m 221 i v) := by
  obtain ⟨fs, h1, h2⟩ := h
  rw [sv_at h1]
  exact ⟨_, zat_eq_set h1, by rw [List.length_set]; exact h2⟩
theorem isO_sa {m : zM} {k j : Nat} {x : Int32} (hk : ¬ k = 221) (h : isO m) : isO (sa m k j x) := by
  obtain ⟨fs, h1, h2⟩ := h
  exact ⟨fs, (zat_sa_ne hk).trans h1, h2⟩
theorem isO_sA {m : zM} {k j : Nat} {x : Int64} (hk : ¬ k = 221) (h : isO m) : isO (sA m k j x) := by
  obtain ⟨fs, h1, h2⟩ := h
  exact ⟨fs, (zat_sA_ne hk).trans h1, h2⟩
theorem gi_eqO {m : zM} {i : Nat} {x : Int32} (h : isO m) (hi : i < 73) : gi (si m 221 i x) 221 i = x := by
  obtain ⟨fs, h1, h2⟩ := h
  show gi (sv m 221 i (.int x)) 221 i = x
  rw [sv_at h1]
  exact gi_at (zat_eq_set h1) (List.getElem?_set_self (by omega))
/-- the sign that is ahead -/
def tkO (m : zM) : Prop := (0 ≤ (gi m 221 4).toInt ∧ (gi m 221 4).toInt ≤ (gi m 221 5).toInt ∧ (gi m 221 5).toInt ≤ (gi m 221 2).toInt) ∧ ((gi m 221 3).toInt = 0 ∨ ((1 ≤ (gi m 221 3).toInt ∧ (gi m 221 3).toInt ≤ 3) ∧ (gi m 221 4).toInt < (gi m 221 5).toInt))
/-- what ahead leaves -/
def ahQ (mem m : zM) : Prop := fr [] [3, 4, 5, 6, 7, 12] mem m ∧ tkO m ∧ (gi mem 221 5).toInt ≤ (gi m 221 4).toInt
set_option maxRecDepth 100000 in
theorem w_ah_0 {d : Nat} {mem : zM} {P : Option Value → zM → Prop} {lo : List (Nat × Value)} (hm : aTm aT0 mem) (l_0 : zlg lo 0 = some (.ref 221)) (h1 : ∀ lo, zlg lo 0 = some (.ref 221) → zlg lo 1 = some (.int (gi mem 221 5)) → aTm aT0 mem → yR zpg tX12_ahead (d + 1) (5, lo, [], mem) P) : yR zpg tX12_ahead (d + 1) (0, lo, [], mem) P := by
  refine wR_la rfl l_0 ?_
  refine wR_gi rfl mO_e mO_5 hm rfl ?_
  refine wR_si rfl rfl (fun lo1 e2 f3 => ?_)
  have lo1_0 := f3 0 _ (by decide) (Or.inl rfl) l_0
  exact h1 lo1 lo1_0 e2 hm

set_option maxRecDepth 100000 in
theorem w_ah_5 {d : Nat} {mem : zM} {P : Option Value → zM → Prop} {a : Int32} {lo : List (Nat × Value)} (hm : aTm aT0 mem) (l_0 : zlg lo 0 = some (.ref 221)) (l_1 : zlg lo 1 = some (.int a)) (ha : 0 ≤ a.toInt ∧ a.toInt ≤ 1600) (h1 : (gi mem 221 2).toInt ≤ (a).toInt → ∀ lo, zlg lo 0 = some (.ref 221) → zlg lo 1 = some (.int a) → aTm aT0 mem → yR zpg tX12_ahead (d + 1) (41, lo, [], mem) P) (h2 : (a).toInt < (gi mem 221 2).toInt → ∀ (y2 : Int32), y2.toInt = (gn (ga mem 222) (a).toInt) → (gn (ga mem 222) (a).toInt) = 32 → ∀ (x5 : Int32), x5.toInt = ((a).toInt + 1) → ∀ lo, zlg lo 0 = some (.ref 221) → zlg lo 1 = some (.int x5) → aTm aT0 mem → yR zpg tX12_ahead (d + 1) (5, lo, [], mem) P) (h3 : (a).toInt < (gi mem 221 2).toInt → ∀ (y2 : Int32), y2.toInt = (gn (ga mem 222) (a).toInt) → ¬ (gn (ga mem 222) (a).toInt) = 32 → ∀ (y10 : Int32), y10.toInt = (gn (ga mem 222) (a).toInt) → ¬ (gn (ga mem 222) (a).toInt) = 10 → ∀ lo, zlg lo 0 = some (.ref 221) → zlg lo 1 = some (.int a) → aTm aT0 mem → yR zpg tX12_ahead (d + 1) (41, lo, [], mem) P) (h4 : (a).toInt < (gi mem 221 2).toInt → ∀ (y2 : Int32), y2.toInt = (gn (ga mem 222) (a).toInt) → ¬ (gn (ga mem 222) (a).toInt) = 32 → ∀ (y10 : Int32), y10.toInt = (gn (ga mem 222) (a).toInt) → (gn (ga mem 222) (a).toInt) = 10 → ∀ (x13 : Int32), x13.toInt = ((a).toInt + 1) → ∀ lo, zlg lo 0 = some (.ref 221) → zlg lo 1 = some (.int x13) → aTm aT0 mem → yR zpg tX12_ahead (d + 1) (5, lo, [], mem) P) : yR zpg tX12_ahead (d + 1) (5, lo, [], mem) P := by
  have sz := mO_r2 hm
  refine wR_li rfl l_1 ?_
  refine wR_la rfl l_0 ?_
  refine wR_gi rfl mO_e mO_2 hm rfl ?_
  refine wR_ic_ge rfl (a := (a).toInt) (c := (gi mem 221 2).toInt) rfl rfl (fun q1 => ?_) (fun q1 => ?_)
  ·
    exact h1 q1 lo l_0 l_1 hm
  ·
    refine wR_la rfl l_0 ?_
    refine wR_gr rfl mO_e mO_0 hm ?_
    refine wR_li rfl l_1 ?_
    refine wN_al (a := (a).toInt) rfl aR_222 hm rfl rfl (by omega) (fun y2 e3 => ?_)
    refine yR_m 1 (fun _ _ _ _ => rfl) ?_
    refine wR_ic_eq rfl (a := (gn (ga mem 222) (a).toInt)) (c := 32) e3 rfl (fun q4 => ?_) (fun q4 => ?_)
    ·
      refine wN_in (a := (a).toInt) (b := 1) rfl rfl l_1 rfl rfl (by omega) (fun x5 e6 => fun lo7 e8 f9 => ?_)
      have lo7_0 := f9 0 _ (by decide) (Or.inl rfl) l_0
      exact yR_m 1 (fun _ _ _ _ => rfl) (h2 q1 y2 e3 q4 x5 e6 lo7 lo7_0 e8 hm)
    ·
      refine wR_la rfl l_0 ?_
      refine wR_gr rfl mO_e mO_0 hm ?_
      refine wR_li rfl l_1 ?_
      refine wN_al (a := (a).toInt) rfl aR_222 hm rfl rfl (by omega) (fun y10 e11 => ?_)
      refine yR_m 1 (fun _ _ _ _ => rfl) ?_
      refine wR_ic_ne rfl (a := (gn (ga mem 222) (a).toInt)) (c := 10) e11 rfl (fun q12 => ?_) (fun q12 => ?_)
      ·
        exact h3 q1 y2 e3 q4 y10 e11 q12 lo l_0 l_1 hm
      ·
        refine wN_in (a := (a).toInt) (b := 1) rfl rfl l_1 rfl rfl (by omega) (fun x13 e14 => fun lo15 e16 f17 => ?_)
        have lo15_0 := f17 0 _ (by decide) (Or.inl rfl) l_0
        exact yR_m 1 (fun _ _ _ _ => rfl) (h4 q1 y2 e3 q4 y10 e11 q12 x13 e14 lo15 lo15_0 e16 hm)

set_option maxRecDepth 100000 in
theorem w_ah_41 {d : Nat} {mem : zM} {P : Option Value → zM → Prop} {a : Int32} {lo : List (Nat × Value)} (hm : aTm aT0 mem) (l_0 : zlg lo 0 = some (.ref 221)) (l_1 : zlg lo 1 = some (.int a)) (ha : 0 ≤ a.toInt ∧ a.toInt ≤ 1600) (h1 : (a).toInt < (gi mem 221 2).toInt → ∀ (y2 : Int32), y2.toInt = (gn (ga mem 222) (a).toInt) → (gn (ga mem 222) (a).toInt) < 97 → ∀ (y8 : Int32), y8.toInt = (gn (ga mem 222) (a).toInt) → (gn (ga mem 222) (a).toInt) < 48 → ∀ lo, zlg lo 0 = some (.ref 221) → zlg lo 1 = some (.int a) → zlg lo 2 = some (.int 0) → zlg lo 3 = some (.int 0) → aTm aT0 (si (si (si (si mem 221 4 a) 221 5 a) 221 3 0) 221 12 (-1)) → yR zpg tX12_ahead (d + 1) (135, lo, [], (si (si (si (si mem 221 4 a) 221 5 a) 221 3 0) 221 12 (-1))) P) (h2 : (a).toInt < (gi mem 221 2).toInt → ∀ (y2 : Int32), y2.toInt = (gn (ga mem 222) (a).toInt) → (gn (ga mem 222) (a).toInt) < 97 → ∀ (y8 : Int32), y8.toInt = (gn (ga mem 222) (a).toInt) → 48 ≤ (gn (ga mem 222) (a).toInt) → 57 < (gn (ga mem 222) (a).toInt) → ∀ lo, zlg lo 0 = some (.ref 221) → zlg lo 1 = some (.int a) → zlg lo 2 = some (.int 0) → zlg lo 3 = some (.int 0) → aTm aT0 (si (si (si (si mem 221 4 a) 221 5 a) 221 3 0) 221 12 (-1)) → yR zpg tX12_ahead (d + 1) (135, lo, [], (si (si (si (si mem 221 4 a) 221 5 a) 221 3 0) 221 12 (-1))) P) (h3 : (a).toInt < (gi mem 221 2).toInt → ∀ (y2 : Int32), y2.toInt = (gn (ga mem 222) (a).toInt) → (gn (ga mem 222) (a).toInt) < 97 → ∀ (y8 : Int32), y8.toInt = (gn (ga mem 222) (a).toInt) → 48 ≤ (gn (ga mem 222) (a).toInt) → (gn (ga mem 222) (a).toInt) ≤ 57 → (a).toInt ≤ 0 → ∀ lo, zlg lo 0 = some (.ref 221) → zlg lo 1 = some (.int a) → zlg lo 2 = some (.int 0) → zlg lo 3 = some (.int 1) → aTm aT0 (si (si (si (si mem 221 4 a) 221 5 a) 221 3 0) 221 12 (-1)) → yR zpg tX12_ahead (d + 1) (135, lo, [], (si (si (si (si mem 221 4 a) 221 5 a) 221 3 0) 221 12 (-1))) P) (h4 : (a).toInt < (gi mem 221 2).toInt → ∀ (y2 : Int32), y2.toInt = (gn (ga mem 222) (a).toInt) → (gn (ga mem 222) (a).toInt) < 97 → ∀ (y8 : Int32), y8.toInt = (gn (ga mem 222) (a).toInt) → 48 ≤ (gn (ga mem 222) (a).toInt) → (gn (ga mem 222) (a).toInt) ≤ 57 → 0 < (a).toInt → ∀ (x22 : Int32), x22.toInt = ((a).toInt - 1) → ∀ (y24 : Int32), y24.toInt = (gn (ga mem 222) ((a).toInt - 1)) → (gn (ga mem 222) ((a).toInt - 1)) < 97 → ∀ (x27 : Int32), x27.toInt = ((a).toInt - 1) → ∀ (y29 : Int32), y29.toInt = (gn (ga mem 222) ((a).toInt - 1)) → (gn (ga mem 222) ((a).toInt - 1)) < 48 → ∀ lo, zlg lo 0 = some (.ref 221) → zlg lo 1 = some (.int a) → zlg lo 2 = some (.int 0) → zlg lo 3 = some (.int 1) → aTm aT0 (si (si (si (si mem 221 4 a) 221 5 a) 221 3 0) 221 12 (-1)) → yR zpg tX12_ahead (d + 1) (135, lo, [], (si (si (si (si mem 221 4 a) 221 5 a) 221 3 0) 221 12 (-1))) P) (h5 : (a).toInt < (gi mem 221 2).toInt → ∀ (y2 : Int32), y2.toInt = (gn (ga mem 222) (a).toInt) → (gn (ga mem 222) (a).toInt) < 97 → ∀ (y8 : Int32), y8.toInt = (gn (ga mem 222) (a).toInt) → 48 ≤ (gn (ga mem 222) (a).toInt) → (gn (ga mem 222) (a).toInt) ≤ 57 → 0 < (a).toInt → ∀ (x22 : Int32), x22.toInt = ((a).toInt - 1) → ∀ (y24 : Int32), y24.toInt = (gn (ga mem 222) ((a).toInt - 1)) → (gn (ga mem 222) ((a).toInt - 1)) < 97 → ∀ (x27 : Int32), x27.toInt = ((a).toInt - 1) → ∀ (y29 : Int32), y29.toInt = (gn (ga mem 222) ((a).toInt - 1)) → 48 ≤ (gn (ga mem 222) ((a).toInt - 1)) → 57 < (gn (ga mem 222) ((a).toInt - 1)) → ∀ lo, zlg lo 0 = some (.ref 221) → zlg lo 1 = some (.int a) → zlg lo 2 = some (.int 0) → zlg lo 3 = some (.int 1) → aTm aT0 (si (si (si (si mem 221 4 a) 221 5 a) 221 3 0) 221 12 (-1)) → yR zpg tX12_ahead (d + 1) (135, lo, [], (si (si (si (si mem 221 4 a) 221 5 a) 221 3 0) 221 12 (-1))) P) (h6 : (a).toInt < (gi mem 221 2).toInt → ∀ (y2 : Int32), y2.toInt = (gn (ga mem 222) (a).toInt) → (gn (ga mem 222) (a).toInt) < 97 → ∀ (y8 : Int32), y8.toInt = (gn (ga mem 222) (a).toInt) → 48 ≤ (gn (ga mem 222) (a).toInt) → (gn (ga mem 222) (a).toInt) ≤ 57 → 0 < (a).toInt → ∀ (x22 : Int32), x22.toInt = ((a).toInt - 1) → ∀ (y24 : Int32), y24.toInt = (gn (ga mem 222) ((a).toInt - 1)) → (gn (ga mem 222) ((a).toInt - 1)) < 97 → ∀ (x27 : Int32), x27.toInt = ((a).toInt - 1) → ∀ (y29 : Int32), y29.toInt = (gn (ga mem 222) ((a).toInt - 1)) → 48 ≤ (gn (ga mem 222) ((a).toInt - 1)) → (gn (ga mem 222) ((a).toInt - 1)) ≤ 57 → ∀ lo, zlg lo 0 = some (.ref 221) → zlg lo 1 = some (.int a) → zlg lo 2 = some (.int 0) → zlg lo 3 = some (.int 1) → aTm aT0 (si (si (si (si (si mem 221 4 a) 221 5 a) 221 3 0) 221 12 (-1)) 221 12 a) → yR zpg tX12_ahead (d + 1) (135, lo, [], (si (si (si (si (si mem 221 4 a) 221 5 a) 221 3 0) 221 12 (-1)) 221 12 a)) P) (h7 : (a).toInt < (gi mem 221 2).toInt → ∀ (y2 : Int32), y2.toInt = (gn (ga mem 222) (a).toInt) → (gn (ga mem 222) (a).toInt) < 97 → ∀ (y8 : Int32), y8.toInt = (gn (ga mem 222) (a).toInt) → 48 ≤ (gn (ga mem 222) (a).toInt) → (gn (ga mem 222) (a).toInt) ≤ 57 → 0 < (a).toInt → ∀ (x22 : Int32), x22.toInt = ((a).toInt - 1) → ∀ (y24 : Int32), y24.toInt = (gn (ga mem 222) ((a).toInt - 1)) → 97 ≤ (gn (ga mem 222) ((a).toInt - 1)) → 122 < (gn (ga mem 222) ((a).toInt - 1)) → ∀ (x34 : Int32), x34.toInt = ((a).toInt - 1) → ∀ (y36 : Int32), y36.toInt = (gn (ga mem 222) ((a).toInt - 1)) → ∀ lo, zlg lo 0 = some (.ref 221) → zlg lo 1 = some (.int a) → zlg lo 2 = some (.int 0) → zlg lo 3 = some (.int 1) → aTm aT0 (si (si (si (si mem 221 4 a) 221 5 a) 221 3 0) 221 12 (-1)) → yR zpg tX12_ahead (d + 1) (135, lo, [], (si (si (si (si mem 221 4 a) 221 5 a) 221 3 0) 221 12 (-1))) P) (h8 : (a).toInt < (gi mem 221 2).toInt → ∀ (y2 : Int32), y2.toInt = (gn (ga mem 222) (a).toInt) → (gn (ga mem 222) (a).toInt) < 97 → ∀ (y8 : Int32), y8.toInt = (gn (ga mem 222) (a).toInt) → 48 ≤ (gn (ga mem 222) (a).toInt) → (gn (ga mem 222) (a).toInt) ≤ 57 → 0 < (a).toInt → ∀ (x22 : Int32), x22.toInt = ((a).toInt - 1) → ∀ (y24 : Int32), y24.toInt = (gn (ga mem 222) ((a).toInt - 1)) → 97 ≤ (gn (ga mem 222) ((a).toInt - 1)) → (gn (ga mem 222) ((a).toInt - 1)) ≤ 122 → ∀ lo, zlg lo 0 = some (.ref 221) → zlg lo 1 = some (.int a) → zlg lo 2 = some (.int 0) → zlg lo 3 = some (.int 1) → aTm aT0 (si (si (si (si (si mem 221 4 a) 221 5 a) 221 3 0) 221 12 (-1)) 221 12 a) → yR zpg tX12_ahead (d + 1) (135, lo, [], (si (si (si (si (si mem 221 4 a) 221 5 a) 221 3 0) 221 12 (-1)) 221 12 a)) P) (h9 : (a).toInt < (gi mem 221 2).toInt → ∀ (y2 : Int32), y2.toInt = (gn (ga mem 222) (a).toInt) → 97 ≤ (gn (ga mem 222) (a).toInt) → 122 < (gn (ga mem 222) (a).toInt) → ∀ (y42 : Int32), y42.toInt = (gn (ga mem 222) (a).toInt) → ∀ lo, zlg lo 0 = some (.ref 221) → zlg lo 1 = some (.int a) → zlg lo 2 = some (.int 0) → zlg lo 3 = some (.int 0) → aTm aT0 (si (si (si (si mem 221 4 a) 221 5 a) 221 3 0) 221 12 (-1)) → yR zpg tX12_ahead (d + 1) (135, lo, [], (si (si (si (si mem 221 4 a) 221 5 a) 221 3 0) 221 12 (-1))) P) (h10 : (a).toInt < (gi mem 221 2).toInt → ∀ (y2 : Int32), y2.toInt = (gn (ga mem 222) (a).toInt) → 97 ≤ (gn (ga mem 222) (a).toInt) → (gn (ga mem 222) (a).toInt) ≤ 122 → ∀ (y50 : Int32), y50.toInt = (gn (ga mem 222) (a).toInt) → (a).toInt ≤ 0 → ∀ lo, zlg lo 0 = some (.ref 221) → zlg lo 1 = some (.int a) → zlg lo 2 = some (.int 1) → zlg lo 3 = some (.int 0) → aTm aT0 (si (si (si (si mem 221 4 a) 221 5 a) 221 3 0) 221 12 (-1)) → yR zpg tX12_ahead (d + 1) (135, lo, [], (si (si (si (si mem 221 4 a) 221 5 a) 221 3 0) 221 12 (-1))) P) (h11 : (a).toInt < (gi mem 221 2).toInt → ∀ (y2 : Int32), y2.toInt = (gn (ga mem 222) (a).toInt) → 97 ≤ (gn (ga mem 222) (a).toInt) → (gn (ga mem 222) (a).toInt) ≤ 122 → ∀ (y50 : Int32), y50.toInt = (gn (ga mem 222) (a).toInt) → 0 < (a).toInt → ∀ (x56 : Int32), x56.toInt = ((a).toInt - 1) → ∀ (y58 : Int32), y58.toInt = (gn (ga mem 222) ((a).toInt - 1)) → (gn (ga mem 222) ((a).toInt - 1)) < 97 → ∀ (x61 : Int32), x61.toInt = ((a).toInt - 1) → ∀ (y63 : Int32), y63.toInt = (gn (ga mem 222) ((a).toInt - 1)) → (gn (ga mem 222) ((a).toInt - 1)) < 48 → ∀ lo, zlg lo 0 = some (.ref 221) → zlg lo 1 = some (.int a) → zlg lo 2 = some (.int 1) → zlg lo 3 = some (.int 0) → aTm aT0 (si (si (si (si mem 221 4 a) 221 5 a) 221 3 0) 221 12 (-1)) → yR zpg tX12_ahead (d + 1) (135, lo, [], (si (si (si (si mem 221 4 a) 221 5 a) 221 3 0) 221 12 (-1))) P) (h12 : (a).toInt < (gi mem 221 2).toInt → ∀ (y2 : Int32), y2.toInt = (gn (ga mem 222) (a).toInt) → 97 ≤ (gn (ga mem 222) (a).toInt) → (gn (ga mem 222) (a).toInt) ≤ 122 → ∀ (y50 : Int32), y50.toInt = (gn (ga mem 222) (a).toInt) → 0 < (a).toInt → ∀ (x56 : Int32), x56.toInt = ((a).toInt - 1) → ∀ (y58 : Int32), y58.toInt = (gn (ga mem 222) ((a).toInt - 1)) → (gn (ga mem 222) ((a).toInt - 1)) < 97 → ∀ (x61 : Int32), x61.toInt = ((a).toInt - 1) → ∀ (y63 : Int32), y63.toInt = (gn (ga mem 222) ((a).toInt - 1)) → 48 ≤ (gn (ga mem 222) ((a).toInt - 1)) → 57 < (gn (ga mem 222) ((a).toInt - 1)) → ∀ lo, zlg lo 0 = some (.ref 221) → zlg lo 1 = some (.int a) → zlg lo 2 = some (.int 1) → zlg lo 3 = some (.int 0) → aTm aT0 (si (si (si (si mem 221 4 a) 221 5 a) 221 3 0) 221 12 (-1)) → yR zpg tX12_ahead (d + 1) (135, lo, [], (si (si (si (si mem 221 4 a) 221 5 a) 221 3 0) 221 12 (-1))) P) (h13 : (a).toInt < (gi mem 221 2).toInt → ∀ (y2 : Int32), y2.toInt = (gn (ga mem 222) (a).toInt) → 97 ≤ (gn (ga mem 222) (a).toInt) → (gn (ga mem 222) (a).toInt) ≤ 122 → ∀ (y50 : Int32), y50.toInt = (gn (ga mem 222) (a).toInt) → 0 < (a).toInt → ∀ (x56 : Int32), x56.toInt = ((a).toInt - 1) → ∀ (y58 : Int32), y58.toInt = (gn (ga mem 222) ((a).toInt - 1)) → (gn (ga mem 222) ((a).toInt - 1)) < 97 → ∀ (x61 : Int32), x61.toInt = ((a).toInt - 1) → ∀ (y63 : Int32), y63.toInt = (gn (ga mem 222) ((a).toInt - 1)) → 48 ≤ (gn (ga mem 222) ((a).toInt - 1)) → (gn (ga mem 222) ((a).toInt - 1)) ≤ 57 → ∀ lo, zlg lo 0 = some (.ref 221) → zlg lo 1 = some (.int a) → zlg lo 2 = some (.int 1) → zlg lo 3 = some (.int 0) → aTm aT0 (si (si (si (si (si mem 221 4 a) 221 5 a) 221 3 0) 221 12 (-1)) 221 12 a) → yR zpg tX12_ahead (d + 1) (135, lo, [], (si (si (si (si (si mem 221 4 a) 221 5 a) 221 3 0) 221 12 (-1)) 221 12 a)) P) (h14 : (a).toInt < (gi mem 221 2).toInt → ∀ (y2 : Int32), y2.toInt = (gn (ga mem 222) (a).toInt) → 97 ≤ (gn (ga mem 222) (a).toInt) → (gn (ga mem 222) (a).toInt) ≤ 122 → ∀ (y50 : Int32), y50.toInt = (gn (ga mem 222) (a).toInt) → 0 < (a).toInt → ∀ (x56 : Int32), x56.toInt = ((a).toInt - 1) → ∀ (y58 : Int32), y58.toInt = (gn (ga mem 222) ((a).toInt - 1)) → 97 ≤ (gn (ga mem 222) ((a).toInt - 1)) → 122 < (gn (ga mem 222) ((a).toInt - 1)) → ∀ (x68 : Int32), x68.toInt = ((a).toInt - 1) → ∀ (y70 : Int32), y70.toInt = (gn (ga mem 222) ((a).toInt - 1)) → ∀ lo, zlg lo 0 = some (.ref 221) → zlg lo 1 = some (.int a) → zlg lo 2 = some (.int 1) → zlg lo 3 = some (.int 0) → aTm aT0 (si (si (si (si mem 221 4 a) 221 5 a) 221 3 0) 221 12 (-1)) → yR zpg tX12_ahead (d + 1) (135, lo, [], (si (si (si (si mem 221 4 a) 221 5 a) 221 3 0) 221 12 (-1))) P) (h15 : (a).toInt < (gi mem 221 2).toInt → ∀ (y2 : Int32), y2.toInt = (gn (ga mem 222) (a).toInt) → 97 ≤ (gn (ga mem 222) (a).toInt) → (gn (ga mem 222) (a).toInt) ≤ 122 → ∀ (y50 : Int32), y50.toInt = (gn (ga mem 222) (a).toInt) → 0 < (a).toInt → ∀ (x56 : Int32), x56.toInt = ((a).toInt - 1) → ∀ (y58 : Int32), y58.toInt = (gn (ga mem 222) ((a).toInt - 1)) → 97 ≤ (gn (ga mem 222) ((a).toInt - 1)) → (gn (ga mem 222) ((a).toInt - 1)) ≤ 122 → ∀ lo, zlg lo 0 = some (.ref 221) → zlg lo 1 = some (.int a) → zlg lo 2 = some (.int 1) → zlg lo 3 = some (.int 0) → aTm aT0 (si (si (si (si (si mem 221 4 a) 221 5 a) 221 3 0) 221 12 (-1)) 221 12 a) → yR zpg tX12_ahead (d + 1) (135, lo, [], (si (si (si (si (si mem 221 4 a) 221 5 a) 221 3 0) 221 12 (-1)) 221 12 a)) P) (h16 : (gi mem 221 2).toInt ≤ (a).toInt → aTm aT0 (si (si (si (si mem 221 4 a) 221 5 a) 221 3 0) 221 12 (-1)) → P none (si (si (si (si mem 221 4 a) 221 5 a) 221 3 0) 221 12 (-1))) : yR zpg tX12_ahead (d + 1) (41, lo, [], mem) P := by
  have sz := mO_r2 hm
  refine wR_la rfl l_0 ?_
  refine wR_li rfl l_1 ?_
  refine wR_pi rfl mO_e mO_4 hm rfl ?_
  have hm_1 : aTm aT0 (si mem 221 4 a) := tm_si mO_e mO_4 hm (by omega)
  refine wR_la rfl l_0 ?_
  refine wR_li rfl l_1 ?_
  refine wR_pi rfl mO_e mO_5 hm_1 rfl ?_
  have hm_2 : aTm aT0 (si (si mem 221 4 a) 221 5 a) := tm_si mO_e mO_5 hm_1 (by omega)
  refine wR_la rfl l_0 ?_
  refine yR_m 1 (fun _ _ _ _ => rfl) ?_
  refine wR_pi rfl mO_e mO_3 hm_2 rfl ?_
  have hm_3 : aTm aT0 (si (si (si mem 221 4 a) 221 5 a) 221 3 0) := tm_si mO_e mO_3 hm_2 (i32_b _)
  refine wR_la rfl l_0 ?_
  refine yR_m 1 (fun _ _ _ _ => rfl) ?_
  refine wR_pi rfl mO_e mO_12 hm_3 rfl ?_
  have hm_4 : aTm aT0 (si (si (si (si mem 221 4 a) 221 5 a) 221 3 0) 221 12 (-1)) := tm_si mO_e mO_12 hm_3 (i32_b _)
  refine wR_li rfl l_1 ?_
  refine wR_la rfl l_0 ?_
  refine wR_gi rfl mO_e mO_2 hm_4 ((gi_sv_ne (by decide)).trans ((gi_sv_ne (by decide)).trans ((gi_sv_ne (by decide)).trans (gi_sv_ne (by decide))))) ?_
  refine wR_ic_lt rfl (a := (a).toInt) (c := (gi mem 221 2).toInt) rfl rfl (fun q1 => ?_) (fun q1 => ?_)
  ·
    refine wR_la rfl l_0 ?_
    refine wR_gr rfl mO_e mO_0 hm_4 ?_
    refine wR_li rfl l_1 ?_
    refine wN_al (a := (a).toInt) rfl aR_222 hm_4 ((ga_sv).trans ((ga_sv).trans ((ga_sv).trans (ga_sv)))) rfl (by omega) (fun y2 e3 => ?_)
    refine wR_is rfl rfl rfl rfl rfl rfl ?_
    show yR zpg tX12_isLetter d (0, [(0, .int y2)], [], (si (si (si (si mem 221 4 a) 221 5 a) 221 3 0) 221 12 (-1))) _
    refine yR_m 2 (fun _ _ _ _ => rfl) ?_
    refine wR_ic_lt rfl (a := (gn (ga mem 222) (a).toInt)) (c := 97) e3 rfl (fun q4 => ?_) (fun q4 => ?_)
    ·
      refine yR_m 1 (fun _ _ _ _ => rfl) ?_
      refine yR_rz rfl ⟨by decide, by decide⟩ ?_
      show yR zpg tX12_ahead (d + 1) (79, lo, [.int 0], (si (si (si (si mem 221 4 a) 221 5 a) 221 3 0) 221 12 (-1))) _
      refine wR_si rfl rfl (fun lo5 e6 f7 => ?_)
      have lo5_0 := f7 0 _ (by decide) (Or.inl rfl) l_0
      have lo5_1 := f7 1 _ (by decide) (Or.inl rfl) l_1
      refine wR_la rfl lo5_0 ?_
      refine wR_gr rfl mO_e mO_0 hm_4 ?_
      refine wR_li rfl lo5_1 ?_
      refine wN_al (a := (a).toInt) rfl aR_222 hm_4 ((ga_sv).trans ((ga_sv).trans ((ga_sv).trans (ga_sv)))) rfl (by omega) (fun y8 e9 => ?_)
      refine wR_is rfl rfl rfl rfl rfl rfl ?_
      show yR zpg tX12_isDigit d (0, [(0, .int y8)], [], (si (si (si (si mem 221 4 a) 221 5 a) 221 3 0) 221 12 (-1))) _
      refine yR_m 2 (fun _ _ _ _ => rfl) ?_
      refine wR_ic_lt rfl (a := (gn (ga mem 222) (a).toInt)) (c := 48) e9 rfl (fun q10 => ?_) (fun q10 => ?_)
      ·
        refine yR_m 1 (fun _ _ _ _ => rfl) ?_
        refine yR_rz rfl ⟨by decide, by decide⟩ ?_
        show yR zpg tX12_ahead (d + 1) (89, lo5, [.int 0], (si (si (si (si mem 221 4 a) 221 5 a) 221 3 0) 221 12 (-1))) _
        refine wR_si rfl rfl (fun lo11 e12 f13 => ?_)
        have lo11_2 := f13 2 _ (by decide) (Or.inl rfl) e6
        have lo11_0 := f13 0 _ (by decide) (Or.inl rfl) lo5_0
        have lo11_1 := f13 1 _ (by decide) (Or.inl rfl) lo5_1
        refine wR_li rfl lo11_2 ?_
        refine wR_if_ne rfl (a := 0) rfl (fun q => by exfalso; omega) (fun _ => ?_)
        refine wR_li rfl e12 ?_
        refine wR_if_eq rfl (a := 0) rfl (fun _ => ?_) (fun q => by exfalso; omega)
        exact h1 q1 y2 e3 q4 y8 e9 q10 lo11 lo11_0 lo11_1 lo11_2 e12 hm_4
      ·
        refine yR_m 2 (fun _ _ _ _ => rfl) ?_
        refine wR_ic_gt rfl (a := (gn (ga mem 222) (a).toInt)) (c := 57) e9 rfl (fun q14 => ?_) (fun q14 => ?_)
        ·
          refine yR_m 1 (fun _ _ _ _ => rfl) ?_
          refine yR_rz rfl ⟨by decide, by decide⟩ ?_
          show yR zpg tX12_ahead (d + 1) (89, lo5, [.int 0], (si (si (si (si mem 221 4 a) 221 5 a) 221 3 0) 221 12 (-1))) _
          refine wR_si rfl rfl (fun lo15 e16 f17 => ?_)
          have lo15_2 := f17 2 _ (by decide) (Or.inl rfl) e6
          have lo15_0 := f17 0 _ (by decide) (Or.inl rfl) lo5_0
          have lo15_1 := f17 1 _ (by decide) (Or.inl rfl) lo5_1
          refine wR_li rfl lo15_2 ?_
          refine wR_if_ne rfl (a := 0) rfl (fun q => by exfalso; omega) (fun _ => ?_)
          refine wR_li rfl e16 ?_
          refine wR_if_eq rfl (a := 0) rfl (fun _ => ?_) (fun q => by exfalso; omega)
          exact h2 q1 y2 e3 q4 y8 e9 q10 q14 lo15 lo15_0 lo15_1 lo15_2 e16 hm_4
        ·
          refine yR_m 2 (fun _ _ _ _ => rfl) ?_
          refine yR_rz rfl ⟨by decide, by decide⟩ ?_
          show yR zpg tX12_ahead (d + 1) (89, lo5, [.int 1], (si (si (si (si mem 221 4 a) 221 5 a) 221 3 0) 221 12 (-1))) _
          refine wR_si rfl rfl (fun lo18 e19 f20 => ?_)
          have lo18_2 := f20 2 _ (by decide) (Or.inl rfl) e6
          have lo18_0 := f20 0 _ (by decide) (Or.inl rfl) lo5_0
          have lo18_1 := f20 1 _ (by decide) (Or.inl rfl) lo5_1
          refine wR_li rfl lo18_2 ?_
          refine wR_if_ne rfl (a := 0) rfl (fun q => by exfalso; omega) (fun _ => ?_)
          refine wR_li rfl e19 ?_
          refine wR_if_eq rfl (a := 1) rfl (fun q => by exfalso; omega) (fun _ => ?_)
          refine wR_li rfl lo18_1 ?_
          refine wR_if_le rfl (a := (a).toInt) rfl (fun q21 => ?_) (fun q21 => ?_)
          ·
            exact h3 q1 y2 e3 q4 y8 e9 q10 q14 q21 lo18 lo18_0 lo18_1 lo18_2 e19 hm_4
          ·
            refine wR_la rfl lo18_0 ?_
            refine wR_gr rfl mO_e mO_0 hm_4 ?_
            refine wR_li rfl lo18_1 ?_
            refine yR_m 1 (fun _ _ _ _ => rfl) ?_
            refine wN_sub (a := (a).toInt) (b := 1) rfl rfl rfl (by omega) (fun x22 e23 => ?_)
            refine wN_al (a := ((a).toInt - 1)) rfl aR_222 hm_4 ((ga_sv).trans ((ga_sv).trans ((ga_sv).trans (ga_sv)))) e23 (by omega) (fun y24 e25 => ?_)
            refine wR_is rfl rfl rfl rfl rfl rfl ?_
            show yR zpg tX12_isLetter d (0, [(0, .int y24)], [], (si (si (si (si mem 221 4 a) 221 5 a) 221 3 0) 221 12 (-1))) _
            refine yR_m 2 (fun _ _ _ _ => rfl) ?_
            refine wR_ic_lt rfl (a := (gn (ga mem 222) ((a).toInt - 1))) (c := 97) e25 rfl (fun q26 => ?_) (fun q26 => ?_)
            ·
              refine yR_m 1 (fun _ _ _ _ => rfl) ?_
              refine yR_rz rfl ⟨by decide, by decide⟩ ?_
              show yR zpg tX12_ahead (d + 1) (113, lo18, [.int 0], (si (si (si (si mem 221 4 a) 221 5 a) 221 3 0) 221 12 (-1))) _
              refine wR_if_ne rfl (a := 0) rfl (fun q => by exfalso; omega) (fun _ => ?_)
              refine wR_la rfl lo18_0 ?_
              refine wR_gr rfl mO_e mO_0 hm_4 ?_
              refine wR_li rfl lo18_1 ?_
              refine yR_m 1 (fun _ _ _ _ => rfl) ?_
              refine wN_sub (a := (a).toInt) (b := 1) rfl rfl rfl (by omega) (fun x27 e28 => ?_)
              refine wN_al (a := ((a).toInt - 1)) rfl aR_222 hm_4 ((ga_sv).trans ((ga_sv).trans ((ga_sv).trans (ga_sv)))) e28 (by omega) (fun y29 e30 => ?_)
              refine wR_is rfl rfl rfl rfl rfl rfl ?_
              show yR zpg tX12_isDigit d (0, [(0, .int y29)], [], (si (si (si (si mem 221 4 a) 221 5 a) 221 3 0) 221 12 (-1))) _
              refine yR_m 2 (fun _ _ _ _ => rfl) ?_
              refine wR_ic_lt rfl (a := (gn (ga mem 222) ((a).toInt - 1))) (c := 48) e30 rfl (fun q31 => ?_) (fun q31 => ?_)
              ·
                refine yR_m 1 (fun _ _ _ _ => rfl) ?_
                refine yR_rz rfl ⟨by decide, by decide⟩ ?_
                show yR zpg tX12_ahead (d + 1) (127, lo18, [.int 0], (si (si (si (si mem 221 4 a) 221 5 a) 221 3 0) 221 12 (-1))) _
                refine wR_if_eq rfl (a := 0) rfl (fun _ => ?_) (fun q => by exfalso; omega)
                exact h4 q1 y2 e3 q4 y8 e9 q10 q14 q21 x22 e23 y24 e25 q26 x27 e28 y29 e30 q31 lo18 lo18_0 lo18_1 lo18_2 e19 hm_4
              ·
                refine yR_m 2 (fun _ _ _ _ => rfl) ?_
                refine wR_ic_gt rfl (a := (gn (ga mem 222) ((a).toInt - 1))) (c := 57) e30 rfl (fun q32 => ?_) (fun q32 => ?_)
                ·
                  refine yR_m 1 (fun _ _ _ _ => rfl) ?_
                  refine yR_rz rfl ⟨by decide, by decide⟩ ?_
                  show yR zpg tX12_ahead (d + 1) (127, lo18, [.int 0], (si (si (si (si mem 221 4 a) 221 5 a) 221 3 0) 221 12 (-1))) _
                  refine wR_if_eq rfl (a := 0) rfl (fun _ => ?_) (fun q => by exfalso; omega)
                  exact h5 q1 y2 e3 q4 y8 e9 q10 q14 q21 x22 e23 y24 e25 q26 x27 e28 y29 e30 q31 q32 lo18 lo18_0 lo18_1 lo18_2 e19 hm_4
                ·
                  refine yR_m 2 (fun _ _ _ _ => rfl) ?_
                  refine yR_rz rfl ⟨by decide, by decide⟩ ?_
                  show yR zpg tX12_ahead (d + 1) (127, lo18, [.int 1], (si (si (si (si mem 221 4 a) 221 5 a) 221 3 0) 221 12 (-1))) _
                  refine wR_if_eq rfl (a := 1) rfl (fun q => by exfalso; omega) (fun _ => ?_)
                  refine wR_la rfl lo18_0 ?_
                  refine wR_li rfl lo18_1 ?_
                  refine wR_pi rfl mO_e mO_12 hm_4 rfl ?_
                  have hm_5 : aTm aT0 (si (si (si (si (si mem 221 4 a) 221 5 a) 221 3 0) 221 12 (-1)) 221 12 a) := tm_si mO_e mO_12 hm_4 (i32_b _)
                  exact h6 q1 y2 e3 q4 y8 e9 q10 q14 q21 x22 e23 y24 e25 q26 x27 e28 y29 e30 q31 q32 lo18 lo18_0 lo18_1 lo18_2 e19 hm_5
            ·
              refine yR_m 2 (fun _ _ _ _ => rfl) ?_
              refine wR_ic_gt rfl (a := (gn (ga mem 222) ((a).toInt - 1))) (c := 122) e25 rfl (fun q33 => ?_) (fun q33 => ?_)
              ·
                refine yR_m 1 (fun _ _ _ _ => rfl) ?_
                refine yR_rz rfl ⟨by decide, by decide⟩ ?_
                show yR zpg tX12_ahead (d + 1) (113, lo18, [.int 0], (si (si (si (si mem 221 4 a) 221 5 a) 221 3 0) 221 12 (-1))) _
                refine wR_if_ne rfl (a := 0) rfl (fun q => by exfalso; omega) (fun _ => ?_)
                refine wR_la rfl lo18_0 ?_
                refine wR_gr rfl mO_e mO_0 hm_4 ?_
                refine wR_li rfl lo18_1 ?_
                refine yR_m 1 (fun _ _ _ _ => rfl) ?_
                refine wN_sub (a := (a).toInt) (b := 1) rfl rfl rfl (by omega) (fun x34 e35 => ?_)
                refine wN_al (a := ((a).toInt - 1)) rfl aR_222 hm_4 ((ga_sv).trans ((ga_sv).trans ((ga_sv).trans (ga_sv)))) e35 (by omega) (fun y36 e37 => ?_)
                refine wR_is rfl rfl rfl rfl rfl rfl ?_
                show yR zpg tX12_isDigit d (0, [(0, .int y36)], [], (si (si (si (si mem 221 4 a) 221 5 a) 221 3 0) 221 12 (-1))) _
                refine yR_m 2 (fun _ _ _ _ => rfl) ?_
                refine wR_ic_lt rfl (a := (gn (ga mem 222) ((a).toInt - 1))) (c := 48) e37 rfl (fun q => by exfalso; omega) (fun _ => ?_)
                refine yR_m 2 (fun _ _ _ _ => rfl) ?_
                refine wR_ic_gt rfl (a := (gn (ga mem 222) ((a).toInt - 1))) (c := 57) e37 rfl (fun _ => ?_) (fun q => by exfalso; omega)
                refine yR_m 1 (fun _ _ _ _ => rfl) ?_
                refine yR_rz rfl ⟨by decide, by decide⟩ ?_
                show yR zpg tX12_ahead (d + 1) (127, lo18, [.int 0], (si (si (si (si mem 221 4 a) 221 5 a) 221 3 0) 221 12 (-1))) _
                refine wR_if_eq rfl (a := 0) rfl (fun _ => ?_) (fun q => by exfalso; omega)
                exact h7 q1 y2 e3 q4 y8 e9 q10 q14 q21 x22 e23 y24 e25 q26 q33 x34 e35 y36 e37 lo18 lo18_0 lo18_1 lo18_2 e19 hm_4
              ·
                refine yR_m 2 (fun _ _ _ _ => rfl) ?_
                refine yR_rz rfl ⟨by decide, by decide⟩ ?_
                show yR zpg tX12_ahead (d + 1) (113, lo18, [.int 1], (si (si (si (si mem 221 4 a) 221 5 a) 221 3 0) 221 12 (-1))) _
                refine wR_if_ne rfl (a := 1) rfl (fun _ => ?_) (fun q => by exfalso; omega)
                refine wR_la rfl lo18_0 ?_
                refine wR_li rfl lo18_1 ?_
                refine wR_pi rfl mO_e mO_12 hm_4 rfl ?_
                have hm_6 : aTm aT0 (si (si (si (si (si mem 221 4 a) 221 5 a) 221 3 0) 221 12 (-1)) 221 12 a) := tm_si mO_e mO_12 hm_4 (i32_b _)
                exact h8 q1 y2 e3 q4 y8 e9 q10 q14 q21 x22 e23 y24 e25 q26 q33 lo18 lo18_0 lo18_1 lo18_2 e19 hm_6
    ·
      refine yR_m 2 (fun _ _ _ _ => rfl) ?_
      refine wR_ic_gt rfl (a := (gn (ga mem 222) (a).toInt)) (c := 122) e3 rfl (fun q38 => ?_) (fun q38 => ?_)
      ·
        refine yR_m 1 (fun _ _ _ _ => rfl) ?_
        refine yR_rz rfl ⟨by decide, by decide⟩ ?_
        show yR zpg tX12_ahead (d + 1) (79, lo, [.int 0], (si (si (si (si mem 221 4 a) 221 5 a) 221 3 0) 221 12 (-1))) _
        refine wR_si rfl rfl (fun lo39 e40 f41 => ?_)
        have lo39_0 := f41 0 _ (by decide) (Or.inl rfl) l_0
        have lo39_1 := f41 1 _ (by decide) (Or.inl rfl) l_1
        refine wR_la rfl lo39_0 ?_
        refine wR_gr rfl mO_e mO_0 hm_4 ?_
        refine wR_li rfl lo39_1 ?_
        refine wN_al (a := (a).toInt) rfl aR_222 hm_4 ((ga_sv).trans ((ga_sv).trans ((ga_sv).trans (ga_sv)))) rfl (by omega) (fun y42 e43 => ?_)
        refine wR_is rfl rfl rfl rfl rfl rfl ?_
        show yR zpg tX12_isDigit d (0, [(0, .int y42)], [], (si (si (si (si mem 221 4 a) 221 5 a) 221 3 0) 221 12 (-1))) _
        refine yR_m 2 (fun _ _ _ _ => rfl) ?_
        refine wR_ic_lt rfl (a := (gn (ga mem 222) (a).toInt)) (c := 48) e43 rfl (fun q => by exfalso; omega) (fun _ => ?_)
        refine yR_m 2 (fun _ _ _ _ => rfl) ?_
        refine wR_ic_gt rfl (a := (gn (ga mem 222) (a).toInt)) (c := 57) e43 rfl (fun _ => ?_) (fun q => by exfalso; omega)
        refine yR_m 1 (fun _ _ _ _ => rfl) ?_
        refine yR_rz rfl ⟨by decide, by decide⟩ ?_
        show yR zpg tX12_ahead (d + 1) (89, lo39, [.int 0], (si (si (si (si mem 221 4 a) 221 5 a) 221 3 0) 221 12 (-1))) _
        refine wR_si rfl rfl (fun lo44 e45 f46 => ?_)
        have lo44_2 := f46 2 _ (by decide) (Or.inl rfl) e40
        have lo44_0 := f46 0 _ (by decide) (Or.inl rfl) lo39_0
        have lo44_1 := f46 1 _ (by decide) (Or.inl rfl) lo39_1
        refine wR_li rfl lo44_2 ?_
        refine wR_if_ne rfl (a := 0) rfl (fun q => by exfalso; omega) (fun _ => ?_)
        refine wR_li rfl e45 ?_
        refine wR_if_eq rfl (a := 0) rfl (fun _ => ?_) (fun q => by exfalso; omega)
        exact h9 q1 y2 e3 q4 q38 y42 e43 lo44 lo44_0 lo44_1 lo44_2 e45 hm_4
      ·
        refine yR_m 2 (fun _ _ _ _ => rfl) ?_
        refine yR_rz rfl ⟨by decide, by decide⟩ ?_
        show yR zpg tX12_ahead (d + 1) (79, lo, [.int 1], (si (si (si (si mem 221 4 a) 221 5 a) 221 3 0) 221 12 (-1))) _
        refine wR_si rfl rfl (fun lo47 e48 f49 => ?_)
        have lo47_0 := f49 0 _ (by decide) (Or.inl rfl) l_0
        have lo47_1 := f49 1 _ (by decide) (Or.inl rfl) l_1
        refine wR_la rfl lo47_0 ?_
        refine wR_gr rfl mO_e mO_0 hm_4 ?_
        refine wR_li rfl lo47_1 ?_
        refine wN_al (a := (a).toInt) rfl aR_222 hm_4 ((ga_sv).trans ((ga_sv).trans ((ga_sv).trans (ga_sv)))) rfl (by omega) (fun y50 e51 => ?_)
        refine wR_is rfl rfl rfl rfl rfl rfl ?_
        show yR zpg tX12_isDigit d (0, [(0, .int y50)], [], (si (si (si (si mem 221 4 a) 221 5 a) 221 3 0) 221 12 (-1))) _
        refine yR_m 2 (fun _ _ _ _ => rfl) ?_
        refine wR_ic_lt rfl (a := (gn (ga mem 222) (a).toInt)) (c := 48) e51 rfl (fun q => by exfalso; omega) (fun _ => ?_)
        refine yR_m 2 (fun _ _ _ _ => rfl) ?_
        refine wR_ic_gt rfl (a := (gn (ga mem 222) (a).toInt)) (c := 57) e51 rfl (fun _ => ?_) (fun q => by exfalso; omega)
        refine yR_m 1 (fun _ _ _ _ => rfl) ?_
        refine yR_rz rfl ⟨by decide, by decide⟩ ?_
        show yR zpg tX12_ahead (d + 1) (89, lo47, [.int 0], (si (si (si (si mem 221 4 a) 221 5 a) 221 3 0) 221 12 (-1))) _
        refine wR_si rfl rfl (fun lo52 e53 f54 => ?_)
        have lo52_2 := f54 2 _ (by decide) (Or.inl rfl) e48
        have lo52_0 := f54 0 _ (by decide) (Or.inl rfl) lo47_0
        have lo52_1 := f54 1 _ (by decide) (Or.inl rfl) lo47_1
        refine wR_li rfl lo52_2 ?_
        refine wR_if_ne rfl (a := 1) rfl (fun _ => ?_) (fun q => by exfalso; omega)
        refine wR_li rfl lo52_1 ?_
        refine wR_if_le rfl (a := (a).toInt) rfl (fun q55 => ?_) (fun q55 => ?_)
        ·
          exact h10 q1 y2 e3 q4 q38 y50 e51 q55 lo52 lo52_0 lo52_1 lo52_2 e53 hm_4
        ·
          refine wR_la rfl lo52_0 ?_
          refine wR_gr rfl mO_e mO_0 hm_4 ?_
          refine wR_li rfl lo52_1 ?_
          refine yR_m 1 (fun _ _ _ _ => rfl) ?_
          refine wN_sub (a := (a).toInt) (b := 1) rfl rfl rfl (by omega) (fun x56 e57 => ?_)
          refine wN_al (a := ((a).toInt - 1)) rfl aR_222 hm_4 ((ga_sv).trans ((ga_sv).trans ((ga_sv).trans (ga_sv)))) e57 (by omega) (fun y58 e59 => ?_)
          refine wR_is rfl rfl rfl rfl rfl rfl ?_
          show yR zpg tX12_isLetter d (0, [(0, .int y58)], [], (si (si (si (si mem 221 4 a) 221 5 a) 221 3 0) 221 12 (-1))) _
          refine yR_m 2 (fun _ _ _ _ => rfl) ?_
          refine wR_ic_lt rfl (a := (gn (ga mem 222) ((a).toInt - 1))) (c := 97) e59 rfl (fun q60 => ?_) (fun q60 => ?_)
          ·
            refine yR_m 1 (fun _ _ _ _ => rfl) ?_
            refine yR_rz rfl ⟨by decide, by decide⟩ ?_
            show yR zpg tX12_ahead (d + 1) (113, lo52, [.int 0], (si (si (si (si mem 221 4 a) 221 5 a) 221 3 0) 221 12 (-1))) _
            refine wR_if_ne rfl (a := 0) rfl (fun q => by exfalso; omega) (fun _ => ?_)
            refine wR_la rfl lo52_0 ?_
            refine wR_gr rfl mO_e mO_0 hm_4 ?_
            refine wR_li rfl lo52_1 ?_
            refine yR_m 1 (fun _ _ _ _ => rfl) ?_
            refine wN_sub (a := (a).toInt) (b := 1) rfl rfl rfl (by omega) (fun x61 e62 => ?_)
            refine wN_al (a := ((a).toInt - 1)) rfl aR_222 hm_4 ((ga_sv).trans ((ga_sv).trans ((ga_sv).trans (ga_sv)))) e62 (by omega) (fun y63 e64 => ?_)
            refine wR_is rfl rfl rfl rfl rfl rfl ?_
            show yR zpg tX12_isDigit d (0, [(0, .int y63)], [], (si (si (si (si mem 221 4 a) 221 5 a) 221 3 0) 221 12 (-1))) _
            refine yR_m 2 (fun _ _ _ _ => rfl) ?_
            refine wR_ic_lt rfl (a := (gn (ga mem 222) ((a).toInt - 1))) (c := 48) e64 rfl (fun q65 => ?_) (fun q65 => ?_)
            ·
              refine yR_m 1 (fun _ _ _ _ => rfl) ?_
              refine yR_rz rfl ⟨by decide, by decide⟩ ?_
              show yR zpg tX12_ahead (d + 1) (127, lo52, [.int 0], (si (si (si (si mem 221 4 a) 221 5 a) 221 3 0) 221 12 (-1))) _
              refine wR_if_eq rfl (a := 0) rfl (fun _ => ?_) (fun q => by exfalso; omega)
              exact h11 q1 y2 e3 q4 q38 y50 e51 q55 x56 e57 y58 e59 q60 x61 e62 y63 e64 q65 lo52 lo52_0 lo52_1 lo52_2 e53 hm_4
            ·
              refine yR_m 2 (fun _ _ _ _ => rfl) ?_
              refine wR_ic_gt rfl (a := (gn (ga mem 222) ((a).toInt - 1))) (c := 57) e64 rfl (fun q66 => ?_) (fun q66 => ?_)
              ·
                refine yR_m 1 (fun _ _ _ _ => rfl) ?_
                refine yR_rz rfl ⟨by decide, by decide⟩ ?_
                show yR zpg tX12_ahead (d + 1) (127, lo52, [.int 0], (si (si (si (si mem 221 4 a) 221 5 a) 221 3 0) 221 12 (-1))) _
                refine wR_if_eq rfl (a := 0) rfl (fun _ => ?_) (fun q => by exfalso; omega)
                exact h12 q1 y2 e3 q4 q38 y50 e51 q55 x56 e57 y58 e59 q60 x61 e62 y63 e64 q65 q66 lo52 lo52_0 lo52_1 lo52_2 e53 hm_4
              ·
                refine yR_m 2 (fun _ _ _ _ => rfl) ?_
                refine yR_rz rfl ⟨by decide, by decide⟩ ?_
                show yR zpg tX12_ahead (d + 1) (127, lo52, [.int 1], (si (si (si (si mem 221 4 a) 221 5 a) 221 3 0) 221 12 (-1))) _
                refine wR_if_eq rfl (a := 1) rfl (fun q => by exfalso; omega) (fun _ => ?_)
                refine wR_la rfl lo52_0 ?_
                refine wR_li rfl lo52_1 ?_
                refine wR_pi rfl mO_e mO_12 hm_4 rfl ?_
                have hm_7 : aTm aT0 (si (si (si (si (si mem 221 4 a) 221 5 a) 221 3 0) 221 12 (-1)) 221 12 a) := tm_si mO_e mO_12 hm_4 (i32_b _)
                exact h13 q1 y2 e3 q4 q38 y50 e51 q55 x56 e57 y58 e59 q60 x61 e62 y63 e64 q65 q66 lo52 lo52_0 lo52_1 lo52_2 e53 hm_7
          ·
            refine yR_m 2 (fun _ _ _ _ => rfl) ?_
            refine wR_ic_gt rfl (a := (gn (ga mem 222) ((a).toInt - 1))) (c := 122) e59 rfl (fun q67 => ?_) (fun q67 => ?_)
            ·
              refine yR_m 1 (fun _ _ _ _ => rfl) ?_
              refine yR_rz rfl ⟨by decide, by decide⟩ ?_
              show yR zpg tX12_ahead (d + 1) (113, lo52, [.int 0], (si (si (si (si mem 221 4 a) 221 5 a) 221 3 0) 221 12 (-1))) _
              refine wR_if_ne rfl (a := 0) rfl (fun q => by exfalso; omega) (fun _ => ?_)
              refine wR_la rfl lo52_0 ?_
              refine wR_gr rfl mO_e mO_0 hm_4 ?_
              refine wR_li rfl lo52_1 ?_
              refine yR_m 1 (fun _ _ _ _ => rfl) ?_
              refine wN_sub (a := (a).toInt) (b := 1) rfl rfl rfl (by omega) (fun x68 e69 => ?_)
              refine wN_al (a := ((a).toInt - 1)) rfl aR_222 hm_4 ((ga_sv).trans ((ga_sv).trans ((ga_sv).trans (ga_sv)))) e69 (by omega) (fun y70 e71 => ?_)
              refine wR_is rfl rfl rfl rfl rfl rfl ?_
              show yR zpg tX12_isDigit d (0, [(0, .int y70)], [], (si (si (si (si mem 221 4 a) 221 5 a) 221 3 0) 221 12 (-1))) _
              refine yR_m 2 (fun _ _ _ _ => rfl) ?_
              refine wR_ic_lt rfl (a := (gn (ga mem 222) ((a).toInt - 1))) (c := 48) e71 rfl (fun q => by exfalso; omega) (fun _ => ?_)
              refine yR_m 2 (fun _ _ _ _ => rfl) ?_
              refine wR_ic_gt rfl (a := (gn (ga mem 222) ((a).toInt - 1))) (c := 57) e71 rfl (fun _ => ?_) (fun q => by exfalso; omega)
              refine yR_m 1 (fun _ _ _ _ => rfl) ?_
              refine yR_rz rfl ⟨by decide, by decide⟩ ?_
              show yR zpg tX12_ahead (d + 1) (127, lo52, [.int 0], (si (si (si (si mem 221 4 a) 221 5 a) 221 3 0) 221 12 (-1))) _
              refine wR_if_eq rfl (a := 0) rfl (fun _ => ?_) (fun q => by exfalso; omega)
              exact h14 q1 y2 e3 q4 q38 y50 e51 q55 x56 e57 y58 e59 q60 q67 x68 e69 y70 e71 lo52 lo52_0 lo52_1 lo52_2 e53 hm_4
            ·
              refine yR_m 2 (fun _ _ _ _ => rfl) ?_
              refine yR_rz rfl ⟨by decide, by decide⟩ ?_
              show yR zpg tX12_ahead (d + 1) (113, lo52, [.int 1], (si (si (si (si mem 221 4 a) 221 5 a) 221 3 0) 221 12 (-1))) _
              refine wR_if_ne rfl (a := 1) rfl (fun _ => ?_) (fun q => by exfalso; omega)
              refine wR_la rfl lo52_0 ?_
              refine wR_li rfl lo52_1 ?_
              refine wR_pi rfl mO_e mO_12 hm_4 rfl ?_
              have hm_8 : aTm aT0 (si (si (si (si (si mem 221 4 a) 221 5 a) 221 3 0) 221 12 (-1)) 221 12 a) := tm_si mO_e mO_12 hm_4 (i32_b _)
              exact h15 q1 y2 e3 q4 q38 y50 e51 q55 x56 e57 y58 e59 q60 q67 lo52 lo52_0 lo52_1 lo52_2 e53 hm_8
  ·
    exact yR_rv rfl (h16 q1 hm_4)

set_option maxRecDepth 100000 in
theorem w_ah_135 {d : Nat} {mem : zM} {P : Option Value → zM → Prop} {a l g : Int32} {lo : List (Nat × Value)} (hm : aTm aT0 mem) (l_0 : zlg lo 0 = some (.ref 221)) (l_1 : zlg lo 1 = some (.int a)) (l_2 : zlg lo 2 = some (.int l)) (l_3 : zlg lo 3 = some (.int g)) (ha : 0 ≤ a.toInt ∧ a.toInt < 1600) (h1 : ∀ (x1 : Int32), x1.toInt = ((a).toInt + 1) → ¬ (l).toInt = 0 → ∀ lo, zlg lo 0 = some (.ref 221) → zlg lo 1 = some (.int a) → zlg lo 2 = some (.int l) → zlg lo 3 = some (.int g) → zlg lo 4 = some (.int 6) → zlg lo 5 = some (.int 0) → aTm aT0 (si (si (si (sL (si mem 221 6 0) 221 7 0) 221 3 3) 221 5 x1) 221 3 1) → yR zpg tX12_ahead (d + 1) (204, lo, [], (si (si (si (sL (si mem 221 6 0) 221 7 0) 221 3 3) 221 5 x1) 221 3 1)) P) (h2 : ∀ (x1 : Int32), x1.toInt = ((a).toInt + 1) → (l).toInt = 0 → ¬ (g).toInt = 0 → ∀ lo, zlg lo 0 = some (.ref 221) → zlg lo 1 = some (.int a) → zlg lo 2 = some (.int l) → zlg lo 3 = some (.int g) → zlg lo 4 = some (.int 4) → zlg lo 5 = some (.int 0) → aTm aT0 (si (si (si (sL (si mem 221 6 0) 221 7 0) 221 3 3) 221 5 x1) 221 3 2) → yR zpg tX12_ahead (d + 1) (204, lo, [], (si (si (si (sL (si mem 221 6 0) 221 7 0) 221 3 3) 221 5 x1) 221 3 2)) P) (h3 : ∀ (x1 : Int32), x1.toInt = ((a).toInt + 1) → (l).toInt = 0 → (g).toInt = 0 → ∀ (y17 : Int32), y17.toInt = (gn (ga mem 222) (a).toInt) → aTm aT0 (si (si (si (sL (si mem 221 6 0) 221 7 0) 221 3 3) 221 5 x1) 221 6 y17) → P none (si (si (si (sL (si mem 221 6 0) 221 7 0) 221 3 3) 221 5 x1) 221 6 y17)) : yR zpg tX12_ahead (d + 1) (135, lo, [], mem) P := by
  refine wR_la rfl l_0 ?_
  refine yR_m 1 (fun _ _ _ _ => rfl) ?_
  refine wR_pi rfl mO_e mO_6 hm rfl ?_
  have hm_1 : aTm aT0 (si mem 221 6 0) := tm_si mO_e mO_6 hm (i32_b _)
  refine wR_la rfl l_0 ?_
  refine yR_m 1 (fun _ _ _ _ => rfl) ?_
  refine wR_pL rfl mO_e mO_7 hm_1 ?_
  have hm_2 : aTm aT0 (sL (si mem 221 6 0) 221 7 0) := tm_sL mO_e mO_7 hm_1
  refine wR_la rfl l_0 ?_
  refine yR_m 1 (fun _ _ _ _ => rfl) ?_
  refine wR_pi rfl mO_e mO_3 hm_2 rfl ?_
  have hm_3 : aTm aT0 (si (sL (si mem 221 6 0) 221 7 0) 221 3 3) := tm_si mO_e mO_3 hm_2 (i32_b _)
  refine wR_la rfl l_0 ?_
  refine wR_li rfl l_1 ?_
  refine yR_m 1 (fun _ _ _ _ => rfl) ?_
  refine wN_add (a := (a).toInt) (b := 1) rfl rfl rfl (by omega) (fun x1 e2 => ?_)
  refine wR_pi rfl mO_e mO_5 hm_3 rfl ?_
  have hm_4 : aTm aT0 (si (si (sL (si mem 221 6 0) 221 7 0) 221 3 3) 221 5 x1) := tm_si mO_e mO_5 hm_3 (by rw [e2]; exact (by omega))
  refine wR_li rfl l_2 ?_
  refine wR_if_ne rfl (a := (l).toInt) rfl (fun q3 => ?_) (fun q3 => ?_)
  ·
    refine wR_la rfl l_0 ?_
    refine wR_li rfl l_2 ?_
    refine wR_if_eq rfl (a := (l).toInt) rfl (fun q => by exfalso; omega) (fun _ => ?_)
    refine yR_m 2 (fun _ _ _ _ => rfl) ?_
    refine wR_pi rfl mO_e mO_3 hm_4 rfl ?_
    have hm_5 : aTm aT0 (si (si (si (sL (si mem 221 6 0) 221 7 0) 221 3 3) 221 5 x1) 221 3 1) := tm_si mO_e mO_3 hm_4 (i32_b _)
    refine wR_li rfl l_2 ?_
    refine wR_if_eq rfl (a := (l).toInt) rfl (fun q => by exfalso; omega) (fun _ => ?_)
    refine yR_m 2 (fun _ _ _ _ => rfl) ?_
    refine wR_si rfl rfl (fun lo4 e5 f6 => ?_)
    have lo4_0 := f6 0 _ (by decide) (Or.inl rfl) l_0
    have lo4_1 := f6 1 _ (by decide) (Or.inl rfl) l_1
    have lo4_2 := f6 2 _ (by decide) (Or.inl rfl) l_2
    have lo4_3 := f6 3 _ (by decide) (Or.inl rfl) l_3
    refine yR_m 1 (fun _ _ _ _ => rfl) ?_
    refine wR_si rfl rfl (fun lo7 e8 f9 => ?_)
    have lo7_4 := f9 4 _ (by decide) (Or.inl rfl) e5
    have lo7_0 := f9 0 _ (by decide) (Or.inl rfl) lo4_0
    have lo7_1 := f9 1 _ (by decide) (Or.inl rfl) lo4_1
    have lo7_2 := f9 2 _ (by decide) (Or.inl rfl) lo4_2
    have lo7_3 := f9 3 _ (by decide) (Or.inl rfl) lo4_3
    exact h1 x1 e2 q3 lo7 lo7_0 lo7_1 lo7_2 lo7_3 lo7_4 e8 hm_5
  ·
    refine wR_li rfl l_3 ?_
    refine wR_if_ne rfl (a := (g).toInt) rfl (fun q10 => ?_) (fun q10 => ?_)
    ·
      refine wR_la rfl l_0 ?_
      refine wR_li rfl l_2 ?_
      refine wR_if_eq rfl (a := (l).toInt) rfl (fun _ => ?_) (fun q => by exfalso; omega)
      refine yR_m 1 (fun _ _ _ _ => rfl) ?_
      refine wR_pi rfl mO_e mO_3 hm_4 rfl ?_
      have hm_6 : aTm aT0 (si (si (si (sL (si mem 221 6 0) 221 7 0) 221 3 3) 221 5 x1) 221 3 2) := tm_si mO_e mO_3 hm_4 (i32_b _)
      refine wR_li rfl l_2 ?_
      refine wR_if_eq rfl (a := (l).toInt) rfl (fun _ => ?_) (fun q => by exfalso; omega)
      refine yR_m 1 (fun _ _ _ _ => rfl) ?_
      refine wR_si rfl rfl (fun lo11 e12 f13 => ?_)
      have lo11_0 := f13 0 _ (by decide) (Or.inl rfl) l_0
      have lo11_1 := f13 1 _ (by decide) (Or.inl rfl) l_1
      have lo11_2 := f13 2 _ (by decide) (Or.inl rfl) l_2
      have lo11_3 := f13 3 _ (by decide) (Or.inl rfl) l_3
      refine yR_m 1 (fun _ _ _ _ => rfl) ?_
      refine wR_si rfl rfl (fun lo14 e15 f16 => ?_)
      have lo14_4 := f16 4 _ (by decide) (Or.inl rfl) e12
      have lo14_0 := f16 0 _ (by decide) (Or.inl rfl) lo11_0
      have lo14_1 := f16 1 _ (by decide) (Or.inl rfl) lo11_1
      have lo14_2 := f16 2 _ (by decide) (Or.inl rfl) lo11_2
      have lo14_3 := f16 3 _ (by decide) (Or.inl rfl) lo11_3
      exact h2 x1 e2 q3 q10 lo14 lo14_0 lo14_1 lo14_2 lo14_3 lo14_4 e15 hm_6
    ·
      refine wR_la rfl l_0 ?_
      refine wR_la rfl l_0 ?_
      refine wR_gr rfl mO_e mO_0 hm_4 ?_
      refine wR_li rfl l_1 ?_
      refine wN_al (a := (a).toInt) rfl aR_222 hm_4 ((ga_sv).trans ((ga_sv).trans ((ga_sv).trans (ga_sv)))) rfl (by omega) (fun y17 e18 => ?_)
      refine wR_pi rfl mO_e mO_6 hm_4 rfl ?_
      have hm_7 : aTm aT0 (si (si (si (sL (si mem 221 6 0) 221 7 0) 221 3 3) 221 5 x1) 221 6 y17) := tm_si mO_e mO_6 hm_4 (i32_b _)
      exact yR_rv rfl (h3 x1 e2 q3 q10 y17 e18 hm_7)

set_option maxRecDepth 100000 in
theorem w_ah_204 {d : Nat} {mem : zM} {P : Option Value → zM → Prop} {a l g mo n : Int32} {lo : List (Nat × Value)} (hm : aTm aT0 mem) (l_0 : zlg lo 0 = some (.ref 221)) (l_1 : zlg lo 1 = some (.int a)) (l_2 : zlg lo 2 = some (.int l)) (l_3 : zlg lo 3 = some (.int g)) (l_4 : zlg lo 4 = some (.int mo)) (l_5 : zlg lo 5 = some (.int n)) (ha : 0 ≤ a.toInt ∧ a.toInt ≤ 1600) (h1 : (gi mem 221 2).toInt ≤ (a).toInt → ∀ lo, zlg lo 0 = some (.ref 221) → zlg lo 1 = some (.int a) → aTm aT0 mem → yR zpg tX12_ahead (d + 1) (334, lo, [], mem) P) (h2 : (a).toInt < (gi mem 221 2).toInt → (l).toInt = 0 → ∀ (y3 : Int32), y3.toInt = (gn (ga mem 222) (a).toInt) → (gn (ga mem 222) (a).toInt) < 48 → ∀ lo, zlg lo 0 = some (.ref 221) → zlg lo 1 = some (.int a) → aTm aT0 mem → yR zpg tX12_ahead (d + 1) (334, lo, [], mem) P) (h3 : (a).toInt < (gi mem 221 2).toInt → (l).toInt = 0 → ∀ (y3 : Int32), y3.toInt = (gn (ga mem 222) (a).toInt) → 48 ≤ (gn (ga mem 222) (a).toInt) → 57 < (gn (ga mem 222) (a).toInt) → ∀ lo, zlg lo 0 = some (.ref 221) → zlg lo 1 = some (.int a) → aTm aT0 mem → yR zpg tX12_ahead (d + 1) (334, lo, [], mem) P) (h4 : (a).toInt < (gi mem 221 2).toInt → (l).toInt = 0 → ∀ (y3 : Int32), y3.toInt = (gn (ga mem 222) (a).toInt) → 48 ≤ (gn (ga mem 222) (a).toInt) → (gn (ga mem 222) (a).toInt) ≤ 57 → ∀ lo, zlg lo 0 = some (.ref 221) → zlg lo 1 = some (.int a) → zlg lo 2 = some (.int l) → zlg lo 3 = some (.int g) → zlg lo 4 = some (.int mo) → zlg lo 5 = some (.int n) → aTm aT0 mem → yR zpg tX12_ahead (d + 1) (243, lo, [], mem) P) (h5 : (a).toInt < (gi mem 221 2).toInt → ¬ (l).toInt = 0 → ∀ (y7 : Int32), y7.toInt = (gn (ga mem 222) (a).toInt) → (gn (ga mem 222) (a).toInt) < 97 → ∀ lo, zlg lo 0 = some (.ref 221) → zlg lo 1 = some (.int a) → aTm aT0 mem → yR zpg tX12_ahead (d + 1) (334, lo, [], mem) P) (h6 : (a).toInt < (gi mem 221 2).toInt → ¬ (l).toInt = 0 → ∀ (y7 : Int32), y7.toInt = (gn (ga mem 222) (a).toInt) → 97 ≤ (gn (ga mem 222) (a).toInt) → 122 < (gn (ga mem 222) (a).toInt) → ∀ lo, zlg lo 0 = some (.ref 221) → zlg lo 1 = some (.int a) → aTm aT0 mem → yR zpg tX12_ahead (d + 1) (334, lo, [], mem) P) (h7 : (a).toInt < (gi mem 221 2).toInt → ¬ (l).toInt = 0 → ∀ (y7 : Int32), y7.toInt = (gn (ga mem 222) (a).toInt) → 97 ≤ (gn (ga mem 222) (a).toInt) → (gn (ga mem 222) (a).toInt) ≤ 122 → ∀ lo, zlg lo 0 = some (.ref 221) → zlg lo 1 = some (.int a) → zlg lo 2 = some (.int l) → zlg lo 3 = some (.int g) → zlg lo 4 = some (.int mo) → zlg lo 5 = some (.int n) → aTm aT0 mem → yR zpg tX12_ahead (d + 1) (243, lo, [], mem) P) : yR zpg tX12_ahead (d + 1) (204, lo, [], mem) P := by
  have sz := mO_r2 hm
  refine wR_li rfl l_1 ?_
  refine wR_la rfl l_0 ?_
  refine wR_gi rfl mO_e mO_2 hm rfl ?_
  refine wR_ic_ge rfl (a := (a).toInt) (c := (gi mem 221 2).toInt) rfl rfl (fun q1 => ?_) (fun q1 => ?_)
  ·
    exact h1 q1 lo l_0 l_1 hm
  ·
    refine wR_li rfl l_2 ?_
    refine wR_if_eq rfl (a := (l).toInt) rfl (fun q2 => ?_) (fun q2 => ?_)
    ·
      refine wR_la rfl l_0 ?_
      refine wR_gr rfl mO_e mO_0 hm ?_
      refine wR_li rfl l_1 ?_
      refine wN_al (a := (a).toInt) rfl aR_222 hm rfl rfl (by omega) (fun y3 e4 => ?_)
      refine wR_is rfl rfl rfl rfl rfl rfl ?_
      show yR zpg tX12_isDigit d (0, [(0, .int y3)], [], mem) _
      refine yR_m 2 (fun _ _ _ _ => rfl) ?_
      refine wR_ic_lt rfl (a := (gn (ga mem 222) (a).toInt)) (c := 48) e4 rfl (fun q5 => ?_) (fun q5 => ?_)
      ·
        refine yR_m 1 (fun _ _ _ _ => rfl) ?_
        refine yR_rz rfl ⟨by decide, by decide⟩ ?_
        show yR zpg tX12_ahead (d + 1) (240, lo, [.int 0], mem) _
        refine wR_if_eq rfl (a := 0) rfl (fun _ => ?_) (fun q => by exfalso; omega)
        exact h2 q1 q2 y3 e4 q5 lo l_0 l_1 hm
      ·
        refine yR_m 2 (fun _ _ _ _ => rfl) ?_
        refine wR_ic_gt rfl (a := (gn (ga mem 222) (a).toInt)) (c := 57) e4 rfl (fun q6 => ?_) (fun q6 => ?_)
        ·
          refine yR_m 1 (fun _ _ _ _ => rfl) ?_
          refine yR_rz rfl ⟨by decide, by decide⟩ ?_
          show yR zpg tX12_ahead (d + 1) (240, lo, [.int 0], mem) _
          refine wR_if_eq rfl (a := 0) rfl (fun _ => ?_) (fun q => by exfalso; omega)
          exact h3 q1 q2 y3 e4 q5 q6 lo l_0 l_1 hm
        ·
          refine yR_m 2 (fun _ _ _ _ => rfl) ?_
          refine yR_rz rfl ⟨by decide, by decide⟩ ?_
          show yR zpg tX12_ahead (d + 1) (240, lo, [.int 1], mem) _
          refine wR_if_eq rfl (a := 1) rfl (fun q => by exfalso; omega) (fun _ => ?_)
          exact h4 q1 q2 y3 e4 q5 q6 lo l_0 l_1 l_2 l_3 l_4 l_5 hm
    ·
      refine wR_la rfl l_0 ?_
      refine wR_gr rfl mO_e mO_0 hm ?_
      refine wR_li rfl l_1 ?_
      refine wN_al (a := (a).toInt) rfl aR_222 hm rfl rfl (by omega) (fun y7 e8 => ?_)
      refine wR_is rfl rfl rfl rfl rfl rfl ?_
      show yR zpg tX12_isLetter d (0, [(0, .int y7)], [], mem) _
      refine yR_m 2 (fun _ _ _ _ => rfl) ?_
      refine wR_ic_lt rfl (a := (gn (ga mem 222) (a).toInt)) (c := 97) e8 rfl (fun q9 => ?_) (fun q9 => ?_)
      ·
        refine yR_m 1 (fun _ _ _ _ => rfl) ?_
        refine yR_rz rfl ⟨by decide, by decide⟩ ?_
        show yR zpg tX12_ahead (d + 1) (225, lo, [.int 0], mem) _
        refine wR_if_eq rfl (a := 0) rfl (fun _ => ?_) (fun q => by exfalso; omega)
        exact h5 q1 q2 y7 e8 q9 lo l_0 l_1 hm
      ·
        refine yR_m 2 (fun _ _ _ _ => rfl) ?_
        refine wR_ic_gt rfl (a := (gn (ga mem 222) (a).toInt)) (c := 122) e8 rfl (fun q10 => ?_) (fun q10 => ?_)
        ·
          refine yR_m 1 (fun _ _ _ _ => rfl) ?_
          refine yR_rz rfl ⟨by decide, by decide⟩ ?_
          show yR zpg tX12_ahead (d + 1) (225, lo, [.int 0], mem) _
          refine wR_if_eq rfl (a := 0) rfl (fun _ => ?_) (fun q => by exfalso; omega)
          exact h6 q1 q2 y7 e8 q9 q10 lo l_0 l_1 hm
        ·
          refine yR_m 2 (fun _ _ _ _ => rfl) ?_
          refine yR_rz rfl ⟨by decide, by decide⟩ ?_
          show yR zpg tX12_ahead (d + 1) (225, lo, [.int 1], mem) _
          refine wR_if_eq rfl (a := 1) rfl (fun q => by exfalso; omega) (fun _ => ?_)
          exact yR_m 1 (fun _ _ _ _ => rfl) (h7 q1 q2 y7 e8 q9 q10 lo l_0 l_1 l_2 l_3 l_4 l_5 hm)

set_option maxRecDepth 100000 in
theorem w_ah_243 {d : Nat} {mem : zM} {P : Option Value → zM → Prop} {a l g mo n : Int32} {lo : List (Nat × Value)} (hm : aTm aT0 mem) (l_0 : zlg lo 0 = some (.ref 221)) (l_1 : zlg lo 1 = some (.int a)) (l_2 : zlg lo 2 = some (.int l)) (l_3 : zlg lo 3 = some (.int g)) (l_4 : zlg lo 4 = some (.int mo)) (l_5 : zlg lo 5 = some (.int n)) (h1 : ¬ (n).toInt = (mo).toInt → ∀ lo, zlg lo 0 = some (.ref 221) → zlg lo 1 = some (.int a) → zlg lo 2 = some (.int l) → zlg lo 3 = some (.int g) → zlg lo 4 = some (.int mo) → zlg lo 5 = some (.int n) → aTm aT0 mem → yR zpg tX12_ahead (d + 1) (263, lo, [], mem) P) (h2 : (n).toInt = (mo).toInt → ¬ (gi mem 221 12).toInt = (-1) → ∀ lo, zlg lo 0 = some (.ref 221) → zlg lo 1 = some (.int a) → zlg lo 2 = some (.int l) → zlg lo 3 = some (.int g) → zlg lo 4 = some (.int mo) → zlg lo 5 = some (.int n) → aTm aT0 mem → yR zpg tX12_ahead (d + 1) (263, lo, [], mem) P) (h3 : (n).toInt = (mo).toInt → (gi mem 221 12).toInt = (-1) → ∀ lo, zlg lo 0 = some (.ref 221) → zlg lo 1 = some (.int a) → zlg lo 2 = some (.int l) → zlg lo 3 = some (.int g) → zlg lo 4 = some (.int mo) → zlg lo 5 = some (.int n) → aTm aT0 (si mem 221 12 a) → yR zpg tX12_ahead (d + 1) (263, lo, [], (si mem 221 12 a)) P) : yR zpg tX12_ahead (d + 1) (243, lo, [], mem) P := by
  refine wR_li rfl l_5 ?_
  refine wR_li rfl l_4 ?_
  refine wR_ic_ne rfl (a := (n).toInt) (c := (mo).toInt) rfl rfl (fun q1 => ?_) (fun q1 => ?_)
  ·
    exact h1 q1 lo l_0 l_1 l_2 l_3 l_4 l_5 hm
  ·
    refine wR_la rfl l_0 ?_
    refine wR_gi rfl mO_e mO_12 hm rfl ?_
    refine yR_m 1 (fun _ _ _ _ => rfl) ?_
    refine wR_ic_ne rfl (a := (gi mem 221 12).toInt) (c := (-1)) rfl tm1 (fun q2 => ?_) (fun q2 => ?_)
    ·
      exact h2 q1 q2 lo l_0 l_1 l_2 l_3 l_4 l_5 hm
    ·
      refine wR_la rfl l_0 ?_
      refine wR_li rfl l_1 ?_
      refine wR_pi rfl mO_e mO_12 hm rfl ?_
      have hm_1 : aTm aT0 (si mem 221 12 a) := tm_si mO_e mO_12 hm (i32_b _)
      exact h3 q1 q2 lo l_0 l_1 l_2 l_3 l_4 l_5 hm_1

set_option maxRecDepth 100000 in
theorem w_ah_263 {d : Nat} {mem : zM} {P : Option Value → zM → Prop} {a l g mo n : Int32} {lo : List (Nat × Value)} (hm : aTm aT0 mem) (l_0 : zlg lo 0 = some (.ref 221)) (l_1 : zlg lo 1 = some (.int a)) (l_2 : zlg lo 2 = some (.int l)) (l_3 : zlg lo 3 = some (.int g)) (l_4 : zlg lo 4 = some (.int mo)) (l_5 : zlg lo 5 = some (.int n)) (ha : 0 ≤ a.toInt ∧ a.toInt < 1600) (h1 : (mo).toInt ≤ (n).toInt → ∀ lo, zlg lo 0 = some (.ref 221) → zlg lo 1 = some (.int a) → zlg lo 2 = some (.int l) → zlg lo 3 = some (.int g) → zlg lo 4 = some (.int mo) → zlg lo 5 = some (.int n) → aTm aT0 mem → yR zpg tX12_ahead (d + 1) (293, lo, [], mem) P) (h2 : (n).toInt < (mo).toInt → (l).toInt = 0 → ∀ lo, zlg lo 0 = some (.ref 221) → zlg lo 1 = some (.int a) → zlg lo 2 = some (.int l) → zlg lo 3 = some (.int g) → zlg lo 4 = some (.int mo) → zlg lo 5 = some (.int n) → aTm aT0 mem → yR zpg tX12_ahead (d + 1) (293, lo, [], mem) P) (h3 : (n).toInt < (mo).toInt → ¬ (l).toInt = 0 → ∀ (y3 : Int32), y3.toInt = (gn (ga mem 222) (a).toInt) → ∀ lo, zlg lo 0 = some (.ref 221) → zlg lo 1 = some (.int a) → zlg lo 2 = some (.int l) → zlg lo 3 = some (.int g) → zlg lo 4 = some (.int mo) → zlg lo 5 = some (.int n) → aTm aT0 (sL mem 221 7 (((gL mem 221 7) <<< ((8 : Int32).toInt64 &&& 63)) ||| (y3 : Int32).toInt64)) → yR zpg tX12_ahead (d + 1) (293, lo, [], (sL mem 221 7 (((gL mem 221 7) <<< ((8 : Int32).toInt64 &&& 63)) ||| (y3 : Int32).toInt64))) P) : yR zpg tX12_ahead (d + 1) (263, lo, [], mem) P := by
  refine wR_li rfl l_5 ?_
  refine wR_li rfl l_4 ?_
  refine wR_ic_ge rfl (a := (n).toInt) (c := (mo).toInt) rfl rfl (fun q1 => ?_) (fun q1 => ?_)
  ·
    exact h1 q1 lo l_0 l_1 l_2 l_3 l_4 l_5 hm
  ·
    refine wR_li rfl l_2 ?_
    refine wR_if_eq rfl (a := (l).toInt) rfl (fun q2 => ?_) (fun q2 => ?_)
    ·
      exact h2 q1 q2 lo l_0 l_1 l_2 l_3 l_4 l_5 hm
    ·
      refine wR_la rfl l_0 ?_
      refine wR_la rfl l_0 ?_
      refine wR_gL rfl mO_e mO_7 hm rfl ?_
      refine yR_m 2 (fun _ _ _ _ => rfl) ?_
      refine wR_la rfl l_0 ?_
      refine wR_gr rfl mO_e mO_0 hm ?_
      refine wR_li rfl l_1 ?_
      refine wN_al (a := (a).toInt) rfl aR_222 hm rfl rfl (by omega) (fun y3 e4 => ?_)
      refine yR_m 2 (fun _ _ _ _ => rfl) ?_
      refine wR_pL rfl mO_e mO_7 hm ?_
      have hm_1 : aTm aT0 (sL mem 221 7 (((gL mem 221 7) <<< ((8 : Int32).toInt64 &&& 63)) ||| (y3 : Int32).toInt64)) := tm_sL mO_e mO_7 hm
      exact h3 q1 q2 y3 e4 lo l_0 l_1 l_2 l_3 l_4 l_5 hm_1

set_option maxRecDepth 100000 in
theorem w_ah_293 {d : Nat} {mem : zM} {P : Option Value → zM → Prop} {a l g mo n : Int32} {lo : List (Nat × Value)} (hm : aTm aT0 mem) (l_0 : zlg lo 0 = some (.ref 221)) (l_1 : zlg lo 1 = some (.int a)) (l_2 : zlg lo 2 = some (.int l)) (l_3 : zlg lo 3 = some (.int g)) (l_4 : zlg lo 4 = some (.int mo)) (l_5 : zlg lo 5 = some (.int n)) (ha : 0 ≤ a.toInt ∧ a.toInt < 1600) (h1 : (mo).toInt ≤ (n).toInt → ∀ lo, zlg lo 0 = some (.ref 221) → zlg lo 1 = some (.int a) → zlg lo 2 = some (.int l) → zlg lo 3 = some (.int g) → zlg lo 4 = some (.int mo) → zlg lo 5 = some (.int n) → aTm aT0 mem → yR zpg tX12_ahead (d + 1) (325, lo, [], mem) P) (h2 : (n).toInt < (mo).toInt → (g).toInt = 0 → ∀ lo, zlg lo 0 = some (.ref 221) → zlg lo 1 = some (.int a) → zlg lo 2 = some (.int l) → zlg lo 3 = some (.int g) → zlg lo 4 = some (.int mo) → zlg lo 5 = some (.int n) → aTm aT0 mem → yR zpg tX12_ahead (d + 1) (325, lo, [], mem) P) (h3 : (n).toInt < (mo).toInt → ¬ (g).toInt = 0 → ∀ (y3 : Int32), y3.toInt = (gn (ga mem 222) (a).toInt) → ∀ lo, zlg lo 0 = some (.ref 221) → zlg lo 1 = some (.int a) → zlg lo 2 = some (.int l) → zlg lo 3 = some (.int g) → zlg lo 4 = some (.int mo) → zlg lo 5 = some (.int n) → aTm aT0 (si mem 221 6 (((10 * (gi mem 221 6)) + y3) - 48)) → yR zpg tX12_ahead (d + 1) (325, lo, [], (si mem 221 6 (((10 * (gi mem 221 6)) + y3) - 48))) P) : yR zpg tX12_ahead (d + 1) (293, lo, [], mem) P := by
  refine wR_li rfl l_5 ?_
  refine wR_li rfl l_4 ?_
  refine wR_ic_ge rfl (a := (n).toInt) (c := (mo).toInt) rfl rfl (fun q1 => ?_) (fun q1 => ?_)
  ·
    exact h1 q1 lo l_0 l_1 l_2 l_3 l_4 l_5 hm
  ·
    refine wR_li rfl l_3 ?_
    refine wR_if_eq rfl (a := (g).toInt) rfl (fun q2 => ?_) (fun q2 => ?_)
    ·
      exact h2 q1 q2 lo l_0 l_1 l_2 l_3 l_4 l_5 hm
    ·
      refine wR_la rfl l_0 ?_
      refine yR_m 1 (fun _ _ _ _ => rfl) ?_
      refine wR_la rfl l_0 ?_
      refine wR_gi rfl mO_e mO_6 hm rfl ?_
      refine yR_m 1 (fun _ _ _ _ => rfl) ?_
      refine wR_la rfl l_0 ?_
      refine wR_gr rfl mO_e mO_0 hm ?_
      refine wR_li rfl l_1 ?_
      refine wN_al (a := (a).toInt) rfl aR_222 hm rfl rfl (by omega) (fun y3 e4 => ?_)
      refine yR_m 3 (fun _ _ _ _ => rfl) ?_
      refine wR_pi rfl mO_e mO_6 hm rfl ?_
      have hm_1 : aTm aT0 (si mem 221 6 (((10 * (gi mem 221 6)) + y3) - 48)) := tm_si mO_e mO_6 hm (i32_b _)
      exact h3 q1 q2 y3 e4 lo l_0 l_1 l_2 l_3 l_4 l_5 hm_1

set_option maxRecDepth 100000 in
theorem w_ah_325 {d : Nat} {mem : zM} {P : Option Value → zM → Prop} {a l g mo n : Int32} {lo : List (Nat × Value)} (hm : aTm aT0 mem) (l_0 : zlg lo 0 = some (.ref 221)) (l_1 : zlg lo 1 = some (.int a)) (l_2 : zlg lo 2 = some (.int l)) (l_3 : zlg lo 3 = some (.int g)) (l_4 : zlg lo 4 = some (.int mo)) (l_5 : zlg lo 5 = some (.int n)) (ha : 0 ≤ a.toInt ∧ a.toInt < 1600) (hn : 0 ≤ n.toInt ∧ n.toInt ≤ 1600) (h1 : ∀ (x1 : Int32), x1.toInt = ((n).toInt + 1) → ∀ (x6 : Int32), x6.toInt = ((a).toInt + 1) → ∀ lo, zlg lo 0 = some (.ref 221) → zlg lo 1 = some (.int x6) → zlg lo 2 = some (.int l) → zlg lo 3 = some (.int g) → zlg lo 4 = some (.int mo) → zlg lo 5 = some (.int x1) → aTm aT0 mem → yR zpg tX12_ahead (d + 1) (204, lo, [], mem) P) : yR zpg tX12_ahead (d + 1) (325, lo, [], mem) P := by
  refine wN_in (a := (n).toInt) (b := 1) rfl rfl l_5 rfl rfl (by omega) (fun x1 e2 => fun lo3 e4 f5 => ?_)
  have lo3_0 := f5 0 _ (by decide) (Or.inl rfl) l_0
  have lo3_1 := f5 1 _ (by decide) (Or.inl rfl) l_1
  have lo3_2 := f5 2 _ (by decide) (Or.inl rfl) l_2
  have lo3_3 := f5 3 _ (by decide) (Or.inl rfl) l_3
  have lo3_4 := f5 4 _ (by decide) (Or.inl rfl) l_4
  refine wN_in (a := (a).toInt) (b := 1) rfl rfl lo3_1 rfl rfl (by omega) (fun x6 e7 => fun lo8 e9 f10 => ?_)
  have lo8_5 := f10 5 _ (by decide) (Or.inl rfl) e4
  have lo8_0 := f10 0 _ (by decide) (Or.inl rfl) lo3_0
  have lo8_2 := f10 2 _ (by decide) (Or.inl rfl) lo3_2
  have lo8_3 := f10 3 _ (by decide) (Or.inl rfl) lo3_3
  have lo8_4 := f10 4 _ (by decide) (Or.inl rfl) lo3_4
  exact yR_m 1 (fun _ _ _ _ => rfl) (h1 x1 e2 x6 e7 lo8 lo8_0 e9 lo8_2 lo8_3 lo8_4 lo8_5 hm)

set_option maxRecDepth 100000 in
theorem w_ah_334 {d : Nat} {mem : zM} {P : Option Value → zM → Prop} {a : Int32} {lo : List (Nat × Value)} (hm : aTm aT0 mem) (l_0 : zlg lo 0 = some (.ref 221)) (l_1 : zlg lo 1 = some (.int a)) (ha : 0 ≤ a.toInt ∧ a.toInt ≤ 1600) (h1 : aTm aT0 (si mem 221 5 a) → P none (si mem 221 5 a)) : yR zpg tX12_ahead (d + 1) (334, lo, [], mem) P := by
  refine wR_la rfl l_0 ?_
  refine wR_li rfl l_1 ?_
  refine wR_pi rfl mO_e mO_5 hm rfl ?_
  have hm_1 : aTm aT0 (si mem 221 5 a) := tm_si mO_e mO_5 hm (by omega)
  exact yR_rv rfl (h1 hm_1)

section AH
variable {mr : zM} {d : Nat}
def ahP (mr : zM) (r : Option Value) (m : zM) : Prop := r = none ∧ aTm aT0 m ∧ ahQ mr m
/-- in the second loop: a word or a number from a0 on, read up to at -/
def ahI (mr m : zM) (l g a : Int) : Prop := fr [] [3, 4, 5, 6, 7, 12] mr m ∧ (gi mr 221 5).toInt ≤ (gi m 221 4).toInt ∧ (1 ≤ (gi m 221 3).toInt ∧ (gi m 221 3).toInt ≤ 2) ∧ (0 ≤ (gi m 221 4).toInt ∧ (gi m 221 4).toInt ≤ a ∧ a ≤ (gi m 221 2).toInt) ∧ (a = (gi m 221 4).toInt → a < (gi m 221 2).toInt ∧ (¬ l = 0 → 97 ≤ gn (ga m 222) a ∧ gn (ga m 222) a ≤ 122) ∧ (l = 0 → 48 ≤ gn (ga m 222) a ∧ gn (ga m 222) a ≤ 57))
theorem ahI_sv {mr m : zM} {l g a : Int} {i : Nat} {v : Value} (hi : i = 6 ∨ i = 7 ∨ i = 12) (h : ahI mr m l g a) : ahI mr (sv m 221 i v) l g a := by
  obtain ⟨h1, h2, h3, h4, h5⟩ := h
  have e : ∀ j, ¬ i = j → gi (sv m 221 i v) 221 j = gi m 221 j := fun j hj => gi_sv_ne (fun q => hj q.2)
  have hn : ¬ i = 2 ∧ ¬ i = 3 ∧ ¬ i = 4 := by omega
  refine ⟨fr_sv (by rcases hi with rfl | rfl | rfl <;> decide) h1, ?_, ?_, ?_, ?_⟩
  · rw [e 4 hn.2.2]; exact h2
  · rw [e 3 hn.2.1]; exact h3
  · rw [e 4 hn.2.2, e 2 hn.1]; exact h4
  · rw [e 4 hn.2.2, e 2 hn.1, ga_sv]; exact h5
theorem ahI_up {mr m : zM} {l g a a' : Int} (h : ahI mr m l g a) (h1 : a' = a + 1) (h2 : a < (gi m 221 2).toInt) : ahI mr m l g a' := by
  obtain ⟨g1, g2, g3, g4, -⟩ := h
  exact ⟨g1, g2, g3, ⟨g4.1, by omega, by omega⟩, fun q => by omega⟩
theorem ah_end {m : zM} {l g a : Int32} {lo : List (Nat × Value)} (hm : aTm aT0 m) (h : ahI mr m l.toInt g.toInt a.toInt) (hs : ¬ a.toInt = (gi m 221 4).toInt) (l0 : zlg lo 0 = some (.ref 221)) (l1 : zlg lo 1 = some (.int a)) : yR zpg tX12_ahead (d + 1) (334, lo, [], m) (ahP mr) := by
  obtain ⟨h1, h2, h3, h4, -⟩ := h
  have sz := mO_r2 hm
  have e : ∀ j, ¬ 5 = j → gi (si m 221 5 a) 221 j = gi m 221 j := fun j hj => gi_sv_ne (fun q => hj q.2)
  exact w_ah_334 hm l0 l1 (by omega)
        (fun hm2 => by
          have e5 : gi (si m 221 5 a) 221 5 = a := gi_eqO (isO_of hm) (by decide)
          refine ⟨rfl, hm2, fr_sv rfl h1, ⟨⟨?_, ?_, ?_⟩, Or.inr ⟨⟨?_, ?_⟩, ?_⟩⟩, ?_⟩
          all_goals first | rw [e 4 (by decide)] | skip
          all_goals first | rw [e 3 (by decide)] | skip
          all_goals first | rw [e 2 (by decide)] | skip
          all_goals first | rw [e5] | skip
          all_goals omega)
theorem ah_word {l g mo : Int32} : ∀ (f : Nat) (a n : Int32) (m : zM) (lo : List (Nat × Value)), (gi m 221 2).toInt < a.toInt + (f : Int) → 0 ≤ n.toInt → n.toInt ≤ a.toInt → aTm aT0 m → ahI mr m l.toInt g.toInt a.toInt → zlg lo 0 = some (.ref 221) → zlg lo 1 = some (.int a) → zlg lo 2 = some (.int l) → zlg lo 3 = some (.int g) → zlg lo 4 = some (.int mo) → zlg lo 5 = some (.int n) → yR zpg tX12_ahead (d + 1) (204, lo, [], m) (ahP mr) := by
  intro f
  induction f with
  | zero =>
    intro a n m lo hf n0 n1 hm h
    have := h.2.2.2.1
    omega
  | succ f ih =>
    intro a n m lo hf n0 n1 hm h l0 l1 l2 l3 l4 l5
    have sz := mO_r2 hm
    have a0 := h.2.2.2.1
    have hI := h.2.2.2.2
    have S325 : ∀ (m : zM) (lo : List (Nat × Value)), (gi m 221 2).toInt ≤ a.toInt + (f : Int) → a.toInt < (gi m 221 2).toInt → aTm aT0 m → ahI mr m l.toInt g.toInt a.toInt → zlg lo 0 = some (.ref 221) → zlg lo 1 = some (.int a) → zlg lo 2 = some (.int l) → zlg lo 3 = some (.int g) → zlg lo 4 = some (.int mo) → zlg lo 5 = some (.int n) → yR zpg tX12_ahead (d + 1) (325, lo, [], m) (ahP mr) := fun m lo e1 e2 hm h b0 b1 b2 b3 b4 b5 => by
      have sz := mO_r2 hm
      have a0 := h.2.2.2.1
      exact w_ah_325 hm b0 b1 b2 b3 b4 b5 (by omega) (by omega)
        (fun x1 e2 x6 e7 lo a0 a1 a2 a3 a4 a5 hm => ih _ _ m lo (by omega) (by omega) (by omega) hm (ahI_up h (by omega) (by omega)) a0 a1 a2 a3 a4 a5)
    have S293 : ∀ (m : zM) (lo : List (Nat × Value)), (gi m 221 2).toInt ≤ a.toInt + (f : Int) → a.toInt < (gi m 221 2).toInt → aTm aT0 m → ahI mr m l.toInt g.toInt a.toInt → zlg lo 0 = some (.ref 221) → zlg lo 1 = some (.int a) → zlg lo 2 = some (.int l) → zlg lo 3 = some (.int g) → zlg lo 4 = some (.int mo) → zlg lo 5 = some (.int n) → yR zpg tX12_ahead (d + 1) (293, lo, [], m) (ahP mr) := fun m lo e1 e2 hm h b0 b1 b2 b3 b4 b5 => by
      have sz := mO_r2 hm
      have a0 := h.2.2.2.1
      exact w_ah_293 hm b0 b1 b2 b3 b4 b5 (by omega)
        (fun q1 lo a0 a1 a2 a3 a4 a5 hm => S325 m lo e1 e2 hm h a0 a1 a2 a3 a4 a5)
        (fun q1 q2 lo a0 a1 a2 a3 a4 a5 hm => S325 m lo e1 e2 hm h a0 a1 a2 a3 a4 a5)
        (fun q1 q2 y3 e4 lo a0 a1 a2 a3 a4 a5 hm => S325 _ lo (by rw [gi_sv_ne (by decide)]; exact e1) (by rw [gi_sv_ne (by decide)]; exact e2) hm (ahI_sv (by decide) h) a0 a1 a2 a3 a4 a5)
    have S263 : ∀ (m : zM) (lo : List (Nat × Value)), (gi m 221 2).toInt ≤ a.toInt + (f : Int) → a.toInt < (gi m 221 2).toInt → aTm aT0 m → ahI mr m l.toInt g.toInt a.toInt → zlg lo 0 = some (.ref 221) → zlg lo 1 = some (.int a) → zlg lo 2 = some (.int l) → zlg lo 3 = some (.int g) → zlg lo 4 = some (.int mo) → zlg lo 5 = some (.int n) → yR zpg tX12_ahead (d + 1) (263, lo, [], m) (ahP mr) := fun m lo e1 e2 hm h b0 b1 b2 b3 b4 b5 => by
      have sz := mO_r2 hm
      have a0 := h.2.2.2.1
      exact w_ah_263 hm b0 b1 b2 b3 b4 b5 (by omega)
        (fun q1 lo a0 a1 a2 a3 a4 a5 hm => S293 m lo e1 e2 hm h a0 a1 a2 a3 a4 a5)
        (fun q1 q2 lo a0 a1 a2 a3 a4 a5 hm => S293 m lo e1 e2 hm h a0 a1 a2 a3 a4 a5)
        (fun q1 q2 y3 e4 lo a0 a1 a2 a3 a4 a5 hm => S293 _ lo (by rw [gi_sv_ne (by decide)]; exact e1) (by rw [gi_sv_ne (by decide)]; exact e2) hm (ahI_sv (by decide) h) a0 a1 a2 a3 a4 a5)
    have S243 : ∀ (m : zM) (lo : List (Nat × Value)), (gi m 221 2).toInt ≤ a.toInt + (f : Int) → a.toInt < (gi m 221 2).toInt → aTm aT0 m → ahI mr m l.toInt g.toInt a.toInt → zlg lo 0 = some (.ref 221) → zlg lo 1 = some (.int a) → zlg lo 2 = some (.int l) → zlg lo 3 = some (.int g) → zlg lo 4 = some (.int mo) → zlg lo 5 = some (.int n) → yR zpg tX12_ahead (d + 1) (243, lo, [], m) (ahP mr) := fun m lo e1 e2 hm h b0 b1 b2 b3 b4 b5 => by
      have sz := mO_r2 hm
      have a0 := h.2.2.2.1
      exact w_ah_243 hm b0 b1 b2 b3 b4 b5
        (fun q1 lo a0 a1 a2 a3 a4 a5 hm => S263 m lo e1 e2 hm h a0 a1 a2 a3 a4 a5)
        (fun q1 q2 lo a0 a1 a2 a3 a4 a5 hm => S263 m lo e1 e2 hm h a0 a1 a2 a3 a4 a5)
        (fun q1 q2 lo a0 a1 a2 a3 a4 a5 hm => S263 _ lo (by rw [gi_sv_ne (by decide)]; exact e1) (by rw [gi_sv_ne (by decide)]; exact e2) hm (ahI_sv (by decide) h) a0 a1 a2 a3 a4 a5)
    exact w_ah_204 hm l0 l1 l2 l3 l4 l5 (by omega)
        (fun q1 lo a0 a1 hm => ah_end hm h (fun q => by have W := hI q; omega) a0 a1)
        (fun q1 q2 y3 e4 q5 lo a0 a1 hm => ah_end hm h (fun q => by have W := hI q; omega) a0 a1)
        (fun q1 q2 y3 e4 q5 q6 lo a0 a1 hm => ah_end hm h (fun q => by have W := hI q; omega) a0 a1)
        (fun q1 q2 y3 e4 q5 q6 lo a0 a1 a2 a3 a4 a5 hm => S243 m lo (by omega) (by omega) hm h a0 a1 a2 a3 a4 a5)
        (fun q1 q2 y7 e8 q9 lo a0 a1 hm => ah_end hm h (fun q => by have W := hI q; omega) a0 a1)
        (fun q1 q2 y7 e8 q9 q10 lo a0 a1 hm => ah_end hm h (fun q => by have W := hI q; omega) a0 a1)
        (fun q1 q2 y7 e8 q9 q10 lo a0 a1 a2 a3 a4 a5 hm => S243 m lo (by omega) (by omega) hm h a0 a1 a2 a3 a4 a5)
theorem ah_135 {m : zM} {a l g : Int32} {lo : List (Nat × Value)} (hm : aTm aT0 m) (hf : fr [] [3, 4, 5, 6, 7, 12] mr m) (h4 : (gi m 221 4).toInt = a.toInt) (h5 : (gi mr 221 5).toInt ≤ a.toInt) (h0 : 0 ≤ a.toInt) (hs : a.toInt < (gi m 221 2).toInt) (hl : ¬ l.toInt = 0 → 97 ≤ gn (ga m 222) a.toInt ∧ gn (ga m 222) a.toInt ≤ 122) (hg : l.toInt = 0 → ¬ g.toInt = 0 → 48 ≤ gn (ga m 222) a.toInt ∧ gn (ga m 222) a.toInt ≤ 57) (l0 : zlg lo 0 = some (.ref 221)) (l1 : zlg lo 1 = some (.int a)) (l2 : zlg lo 2 = some (.int l)) (l3 : zlg lo 3 = some (.int g)) : yR zpg tX12_ahead (d + 1) (135, lo, [], m) (ahP mr) := by
  have sz := mO_r2 hm
  exact w_ah_135 hm l0 l1 l2 l3 (by omega)
        (fun x1 e2 q3 lo a0 a1 a2 a3 a4 a5 hm2 => by
          have e92 : gi (si (si (si (sL (si m 221 6 0) 221 7 0) 221 3 3) 221 5 x1) 221 3 1) 221 2 = (gi m 221 2) := ((gi_sv_ne (by decide)).trans ((gi_sv_ne (by decide)).trans ((gi_sv_ne (by decide)).trans ((gi_sv_ne (by decide)).trans (gi_sv_ne (by decide))))))
          have e93 : gi (si (si (si (sL (si m 221 6 0) 221 7 0) 221 3 3) 221 5 x1) 221 3 1) 221 3 = 1 := (gi_eqO (isO_sv (isO_sv (isO_sv (isO_sv (isO_of hm))))) (by decide))
          have e94 : gi (si (si (si (sL (si m 221 6 0) 221 7 0) 221 3 3) 221 5 x1) 221 3 1) 221 4 = (gi m 221 4) := ((gi_sv_ne (by decide)).trans ((gi_sv_ne (by decide)).trans ((gi_sv_ne (by decide)).trans ((gi_sv_ne (by decide)).trans (gi_sv_ne (by decide))))))
          have e95 : gi (si (si (si (sL (si m 221 6 0) 221 7 0) 221 3 3) 221 5 x1) 221 3 1) 221 5 = x1 := ((gi_sv_ne (by decide)).trans (gi_eqO (isO_sv (isO_sv (isO_sv (isO_of hm)))) (by decide)))
          have g2 : ga (si (si (si (sL (si m 221 6 0) 221 7 0) 221 3 3) 221 5 x1) 221 3 1) 222 = ga m 222 := ((ga_sv).trans ((ga_sv).trans ((ga_sv).trans ((ga_sv).trans (ga_sv)))))
          refine ah_word (l := l) (g := g) 1601 a 0 _ lo (by rw [e92]; omega) (by decide) (by show (0 : Int) ≤ _; omega) hm2 ⟨fr_sv rfl (fr_sv rfl (fr_sv rfl (fr_sv rfl (fr_sv rfl (hf))))), ?_, ?_, ?_, fun q => ?_⟩ a0 a1 a2 a3 a4 a5
          · rw [e94]; omega
          · rw [e93]; decide
          · rw [e94, e92]; omega
          · rw [e94] at q; rw [e92, g2]; exact ⟨hs, hl, fun w => hg w (by omega)⟩)
        (fun x1 e2 q3 q10 lo a0 a1 a2 a3 a4 a5 hm2 => by
          have e92 : gi (si (si (si (sL (si m 221 6 0) 221 7 0) 221 3 3) 221 5 x1) 221 3 2) 221 2 = (gi m 221 2) := ((gi_sv_ne (by decide)).trans ((gi_sv_ne (by decide)).trans ((gi_sv_ne (by decide)).trans ((gi_sv_ne (by decide)).trans (gi_sv_ne (by decide))))))
          have e93 : gi (si (si (si (sL (si m 221 6 0) 221 7 0) 221 3 3) 221 5 x1) 221 3 2) 221 3 = 2 := (gi_eqO (isO_sv (isO_sv (isO_sv (isO_sv (isO_of hm))))) (by decide))
          have e94 : gi (si (si (si (sL (si m 221 6 0) 221 7 0) 221 3 3) 221 5 x1) 221 3 2) 221 4 = (gi m 221 4) := ((gi_sv_ne (by decide)).trans ((gi_sv_ne (by decide)).trans ((gi_sv_ne (by decide)).trans ((gi_sv_ne (by decide)).trans (gi_sv_ne (by decide))))))
          have e95 : gi (si (si (si (sL (si m 221 6 0) 221 7 0) 221 3 3) 221 5 x1) 221 3 2) 221 5 = x1 := ((gi_sv_ne (by decide)).trans (gi_eqO (isO_sv (isO_sv (isO_sv (isO_of hm)))) (by decide)))
          have g2 : ga (si (si (si (sL (si m 221 6 0) 221 7 0) 221 3 3) 221 5 x1) 221 3 2) 222 = ga m 222 := ((ga_sv).trans ((ga_sv).trans ((ga_sv).trans ((ga_sv).trans (ga_sv)))))
          refine ah_word (l := l) (g := g) 1601 a 0 _ lo (by rw [e92]; omega) (by decide) (by show (0 : Int) ≤ _; omega) hm2 ⟨fr_sv rfl (fr_sv rfl (fr_sv rfl (fr_sv rfl (fr_sv rfl (hf))))), ?_, ?_, ?_, fun q => ?_⟩ a0 a1 a2 a3 a4 a5
          · rw [e94]; omega
          · rw [e93]; decide
          · rw [e94, e92]; omega
          · rw [e94] at q; rw [e92, g2]; exact ⟨hs, hl, fun w => hg w (by omega)⟩)
        (fun x1 e2 q3 q10 y17 e18 hm2 => by
          have e92 : gi (si (si (si (sL (si m 221 6 0) 221 7 0) 221 3 3) 221 5 x1) 221 6 y17) 221 2 = (gi m 221 2) := ((gi_sv_ne (by decide)).trans ((gi_sv_ne (by decide)).trans ((gi_sv_ne (by decide)).trans ((gi_sv_ne (by decide)).trans (gi_sv_ne (by decide))))))
          have e93 : gi (si (si (si (sL (si m 221 6 0) 221 7 0) 221 3 3) 221 5 x1) 221 6 y17) 221 3 = 3 := ((gi_sv_ne (by decide)).trans ((gi_sv_ne (by decide)).trans (gi_eqO (isO_sv (isO_sv (isO_of hm))) (by decide))))
          have e94 : gi (si (si (si (sL (si m 221 6 0) 221 7 0) 221 3 3) 221 5 x1) 221 6 y17) 221 4 = (gi m 221 4) := ((gi_sv_ne (by decide)).trans ((gi_sv_ne (by decide)).trans ((gi_sv_ne (by decide)).trans ((gi_sv_ne (by decide)).trans (gi_sv_ne (by decide))))))
          have e95 : gi (si (si (si (sL (si m 221 6 0) 221 7 0) 221 3 3) 221 5 x1) 221 6 y17) 221 5 = x1 := ((gi_sv_ne (by decide)).trans (gi_eqO (isO_sv (isO_sv (isO_sv (isO_of hm)))) (by decide)))
          have g2 : ga (si (si (si (sL (si m 221 6 0) 221 7 0) 221 3 3) 221 5 x1) 221 6 y17) 222 = ga m 222 := ((ga_sv).trans ((ga_sv).trans ((ga_sv).trans ((ga_sv).trans (ga_sv)))))
          exact ⟨rfl, hm2, fr_sv rfl (fr_sv rfl (fr_sv rfl (fr_sv rfl (fr_sv rfl (hf))))), ⟨⟨by rw [e94]; omega, by rw [e94, e95]; omega, by rw [e95, e92]; omega⟩, Or.inr ⟨by rw [e93]; decide, by rw [e94, e95]; omega⟩⟩, by rw [e94]; omega⟩)
theorem ah_41 {m : zM} {a : Int32} {lo : List (Nat × Value)} (hm : aTm aT0 m) (hf : fr [] [3, 4, 5, 6, 7, 12] mr m) (h5 : (gi mr 221 5).toInt ≤ a.toInt) (h0 : 0 ≤ a.toInt) (hs : a.toInt ≤ (gi m 221 2).toInt) (l0 : zlg lo 0 = some (.ref 221)) (l1 : zlg lo 1 = some (.int a)) : yR zpg tX12_ahead (d + 1) (41, lo, [], m) (ahP mr) := by
  have sz := mO_r2 hm
  exact w_ah_41 hm l0 l1 (by omega)
        (fun q1 y2 e3 q4 y8 e9 q10 lo a0 a1 a2 a3 hm2 => by
          have e92 : gi (si (si (si (si m 221 4 a) 221 5 a) 221 3 0) 221 12 (-1)) 221 2 = (gi m 221 2) := ((gi_sv_ne (by decide)).trans ((gi_sv_ne (by decide)).trans ((gi_sv_ne (by decide)).trans (gi_sv_ne (by decide)))))
          have e93 : gi (si (si (si (si m 221 4 a) 221 5 a) 221 3 0) 221 12 (-1)) 221 3 = 0 := ((gi_sv_ne (by decide)).trans (gi_eqO (isO_sv (isO_sv (isO_of hm))) (by decide)))
          have e94 : gi (si (si (si (si m 221 4 a) 221 5 a) 221 3 0) 221 12 (-1)) 221 4 = a := ((gi_sv_ne (by decide)).trans ((gi_sv_ne (by decide)).trans ((gi_sv_ne (by decide)).trans (gi_eqO (isO_of hm) (by decide)))))
          have e95 : gi (si (si (si (si m 221 4 a) 221 5 a) 221 3 0) 221 12 (-1)) 221 5 = a := ((gi_sv_ne (by decide)).trans ((gi_sv_ne (by decide)).trans (gi_eqO (isO_sv (isO_of hm)) (by decide))))
          have g2 : ga (si (si (si (si m 221 4 a) 221 5 a) 221 3 0) 221 12 (-1)) 222 = ga m 222 := ((ga_sv).trans ((ga_sv).trans ((ga_sv).trans (ga_sv))))
          exact ah_135 hm2 (fr_sv rfl (fr_sv rfl (fr_sv rfl (fr_sv rfl (hf))))) (by rw [e94]) h5 h0 (by rw [e92]; omega) (fun q => absurd rfl q) (fun _ q => absurd rfl q) a0 a1 a2 a3)
        (fun q1 y2 e3 q4 y8 e9 q10 q14 lo a0 a1 a2 a3 hm2 => by
          have e92 : gi (si (si (si (si m 221 4 a) 221 5 a) 221 3 0) 221 12 (-1)) 221 2 = (gi m 221 2) := ((gi_sv_ne (by decide)).trans ((gi_sv_ne (by decide)).trans ((gi_sv_ne (by decide)).trans (gi_sv_ne (by decide)))))
          have e93 : gi (si (si (si (si m 221 4 a) 221 5 a) 221 3 0) 221 12 (-1)) 221 3 = 0 := ((gi_sv_ne (by decide)).trans (gi_eqO (isO_sv (isO_sv (isO_of hm))) (by decide)))
          have e94 : gi (si (si (si (si m 221 4 a) 221 5 a) 221 3 0) 221 12 (-1)) 221 4 = a := ((gi_sv_ne (by decide)).trans ((gi_sv_ne (by decide)).trans ((gi_sv_ne (by decide)).trans (gi_eqO (isO_of hm) (by decide)))))
          have e95 : gi (si (si (si (si m 221 4 a) 221 5 a) 221 3 0) 221 12 (-1)) 221 5 = a := ((gi_sv_ne (by decide)).trans ((gi_sv_ne (by decide)).trans (gi_eqO (isO_sv (isO_of hm)) (by decide))))
          have g2 : ga (si (si (si (si m 221 4 a) 221 5 a) 221 3 0) 221 12 (-1)) 222 = ga m 222 := ((ga_sv).trans ((ga_sv).trans ((ga_sv).trans (ga_sv))))
          exact ah_135 hm2 (fr_sv rfl (fr_sv rfl (fr_sv rfl (fr_sv rfl (hf))))) (by rw [e94]) h5 h0 (by rw [e92]; omega) (fun q => absurd rfl q) (fun _ q => absurd rfl q) a0 a1 a2 a3)
        (fun q1 y2 e3 q4 y8 e9 q10 q14 q21 lo a0 a1 a2 a3 hm2 => by
          have e92 : gi (si (si (si (si m 221 4 a) 221 5 a) 221 3 0) 221 12 (-1)) 221 2 = (gi m 221 2) := ((gi_sv_ne (by decide)).trans ((gi_sv_ne (by decide)).trans ((gi_sv_ne (by decide)).trans (gi_sv_ne (by decide)))))
          have e93 : gi (si (si (si (si m 221 4 a) 221 5 a) 221 3 0) 221 12 (-1)) 221 3 = 0 := ((gi_sv_ne (by decide)).trans (gi_eqO (isO_sv (isO_sv (isO_of hm))) (by decide)))
          have e94 : gi (si (si (si (si m 221 4 a) 221 5 a) 221 3 0) 221 12 (-1)) 221 4 = a := ((gi_sv_ne (by decide)).trans ((gi_sv_ne (by decide)).trans ((gi_sv_ne (by decide)).trans (gi_eqO (isO_of hm) (by decide)))))
          have e95 : gi (si (si (si (si m 221 4 a) 221 5 a) 221 3 0) 221 12 (-1)) 221 5 = a := ((gi_sv_ne (by decide)).trans ((gi_sv_ne (by decide)).trans (gi_eqO (isO_sv (isO_of hm)) (by decide))))
          have g2 : ga (si (si (si (si m 221 4 a) 221 5 a) 221 3 0) 221 12 (-1)) 222 = ga m 222 := ((ga_sv).trans ((ga_sv).trans ((ga_sv).trans (ga_sv))))
          exact ah_135 hm2 (fr_sv rfl (fr_sv rfl (fr_sv rfl (fr_sv rfl (hf))))) (by rw [e94]) h5 h0 (by rw [e92]; omega) (fun q => absurd rfl q) (fun _ _ => by rw [g2]; omega) a0 a1 a2 a3)
        (fun q1 y2 e3 q4 y8 e9 q10 q14 q21 x22 e23 y24 e25 q26 x27 e28 y29 e30 q31 lo a0 a1 a2 a3 hm2 => by
          have e92 : gi (si (si (si (si m 221 4 a) 221 5 a) 221 3 0) 221 12 (-1)) 221 2 = (gi m 221 2) := ((gi_sv_ne (by decide)).trans ((gi_sv_ne (by decide)).trans ((gi_sv_ne (by decide)).trans (gi_sv_ne (by decide)))))
          have e93 : gi (si (si (si (si m 221 4 a) 221 5 a) 221 3 0) 221 12 (-1)) 221 3 = 0 := ((gi_sv_ne (by decide)).trans (gi_eqO (isO_sv (isO_sv (isO_of hm))) (by decide)))
          have e94 : gi (si (si (si (si m 221 4 a) 221 5 a) 221 3 0) 221 12 (-1)) 221 4 = a := ((gi_sv_ne (by decide)).trans ((gi_sv_ne (by decide)).trans ((gi_sv_ne (by decide)).trans (gi_eqO (isO_of hm) (by decide)))))
          have e95 : gi (si (si (si (si m 221 4 a) 221 5 a) 221 3 0) 221 12 (-1)) 221 5 = a := ((gi_sv_ne (by decide)).trans ((gi_sv_ne (by decide)).trans (gi_eqO (isO_sv (isO_of hm)) (by decide))))
          have g2 : ga (si (si (si (si m 221 4 a) 221 5 a) 221 3 0) 221 12 (-1)) 222 = ga m 222 := ((ga_sv).trans ((ga_sv).trans ((ga_sv).trans (ga_sv))))
          exact ah_135 hm2 (fr_sv rfl (fr_sv rfl (fr_sv rfl (fr_sv rfl (hf))))) (by rw [e94]) h5 h0 (by rw [e92]; omega) (fun q => absurd rfl q) (fun _ _ => by rw [g2]; omega) a0 a1 a2 a3)
        (fun q1 y2 e3 q4 y8 e9 q10 q14 q21 x22 e23 y24 e25 q26 x27 e28 y29 e30 q31 q32 lo a0 a1 a2 a3 hm2 => by
          have e92 : gi (si (si (si (si m 221 4 a) 221 5 a) 221 3 0) 221 12 (-1)) 221 2 = (gi m 221 2) := ((gi_sv_ne (by decide)).trans ((gi_sv_ne (by decide)).trans ((gi_sv_ne (by decide)).trans (gi_sv_ne (by decide)))))
          have e93 : gi (si (si (si (si m 221 4 a) 221 5 a) 221 3 0) 221 12 (-1)) 221 3 = 0 := ((gi_sv_ne (by decide)).trans (gi_eqO (isO_sv (isO_sv (isO_of hm))) (by decide)))
          have e94 : gi (si (si (si (si m 221 4 a) 221 5 a) 221 3 0) 221 12 (-1)) 221 4 = a := ((gi_sv_ne (by decide)).trans ((gi_sv_ne (by decide)).trans ((gi_sv_ne (by decide)).trans (gi_eqO (isO_of hm) (by decide)))))
          have e95 : gi (si (si (si (si m 221 4 a) 221 5 a) 221 3 0) 221 12 (-1)) 221 5 = a := ((gi_sv_ne (by decide)).trans ((gi_sv_ne (by decide)).trans (gi_eqO (isO_sv (isO_of hm)) (by decide))))
          have g2 : ga (si (si (si (si m 221 4 a) 221 5 a) 221 3 0) 221 12 (-1)) 222 = ga m 222 := ((ga_sv).trans ((ga_sv).trans ((ga_sv).trans (ga_sv))))
          exact ah_135 hm2 (fr_sv rfl (fr_sv rfl (fr_sv rfl (fr_sv rfl (hf))))) (by rw [e94]) h5 h0 (by rw [e92]; omega) (fun q => absurd rfl q) (fun _ _ => by rw [g2]; omega) a0 a1 a2 a3)
        (fun q1 y2 e3 q4 y8 e9 q10 q14 q21 x22 e23 y24 e25 q26 x27 e28 y29 e30 q31 q32 lo a0 a1 a2 a3 hm2 => by
          have e92 : gi (si (si (si (si (si m 221 4 a) 221 5 a) 221 3 0) 221 12 (-1)) 221 12 a) 221 2 = (gi m 221 2) := ((gi_sv_ne (by decide)).trans ((gi_sv_ne (by decide)).trans ((gi_sv_ne (by decide)).trans ((gi_sv_ne (by decide)).trans (gi_sv_ne (by decide))))))
          have e93 : gi (si (si (si (si (si m 221 4 a) 221 5 a) 221 3 0) 221 12 (-1)) 221 12 a) 221 3 = 0 := ((gi_sv_ne (by decide)).trans ((gi_sv_ne (by decide)).trans (gi_eqO (isO_sv (isO_sv (isO_of hm))) (by decide))))
          have e94 : gi (si (si (si (si (si m 221 4 a) 221 5 a) 221 3 0) 221 12 (-1)) 221 12 a) 221 4 = a := ((gi_sv_ne (by decide)).trans ((gi_sv_ne (by decide)).trans ((gi_sv_ne (by decide)).trans ((gi_sv_ne (by decide)).trans (gi_eqO (isO_of hm) (by decide))))))
          have e95 : gi (si (si (si (si (si m 221 4 a) 221 5 a) 221 3 0) 221 12 (-1)) 221 12 a) 221 5 = a := ((gi_sv_ne (by decide)).trans ((gi_sv_ne (by decide)).trans ((gi_sv_ne (by decide)).trans (gi_eqO (isO_sv (isO_of hm)) (by decide)))))
          have g2 : ga (si (si (si (si (si m 221 4 a) 221 5 a) 221 3 0) 221 12 (-1)) 221 12 a) 222 = ga m 222 := ((ga_sv).trans ((ga_sv).trans ((ga_sv).trans ((ga_sv).trans (ga_sv)))))
          exact ah_135 hm2 (fr_sv rfl (fr_sv rfl (fr_sv rfl (fr_sv rfl (fr_sv rfl (hf)))))) (by rw [e94]) h5 h0 (by rw [e92]; omega) (fun q => absurd rfl q) (fun _ _ => by rw [g2]; omega) a0 a1 a2 a3)
        (fun q1 y2 e3 q4 y8 e9 q10 q14 q21 x22 e23 y24 e25 q26 q33 x34 e35 y36 e37 lo a0 a1 a2 a3 hm2 => by
          have e92 : gi (si (si (si (si m 221 4 a) 221 5 a) 221 3 0) 221 12 (-1)) 221 2 = (gi m 221 2) := ((gi_sv_ne (by decide)).trans ((gi_sv_ne (by decide)).trans ((gi_sv_ne (by decide)).trans (gi_sv_ne (by decide)))))
          have e93 : gi (si (si (si (si m 221 4 a) 221 5 a) 221 3 0) 221 12 (-1)) 221 3 = 0 := ((gi_sv_ne (by decide)).trans (gi_eqO (isO_sv (isO_sv (isO_of hm))) (by decide)))
          have e94 : gi (si (si (si (si m 221 4 a) 221 5 a) 221 3 0) 221 12 (-1)) 221 4 = a := ((gi_sv_ne (by decide)).trans ((gi_sv_ne (by decide)).trans ((gi_sv_ne (by decide)).trans (gi_eqO (isO_of hm) (by decide)))))
          have e95 : gi (si (si (si (si m 221 4 a) 221 5 a) 221 3 0) 221 12 (-1)) 221 5 = a := ((gi_sv_ne (by decide)).trans ((gi_sv_ne (by decide)).trans (gi_eqO (isO_sv (isO_of hm)) (by decide))))
          have g2 : ga (si (si (si (si m 221 4 a) 221 5 a) 221 3 0) 221 12 (-1)) 222 = ga m 222 := ((ga_sv).trans ((ga_sv).trans ((ga_sv).trans (ga_sv))))
          exact ah_135 hm2 (fr_sv rfl (fr_sv rfl (fr_sv rfl (fr_sv rfl (hf))))) (by rw [e94]) h5 h0 (by rw [e92]; omega) (fun q => absurd rfl q) (fun _ _ => by rw [g2]; omega) a0 a1 a2 a3)
        (fun q1 y2 e3 q4 y8 e9 q10 q14 q21 x22 e23 y24 e25 q26 q33 lo a0 a1 a2 a3 hm2 => by
          have e92 : gi (si (si (si (si (si m 221 4 a) 221 5 a) 221 3 0) 221 12 (-1)) 221 12 a) 221 2 = (gi m 221 2) := ((gi_sv_ne (by decide)).trans ((gi_sv_ne (by decide)).trans ((gi_sv_ne (by decide)).trans ((gi_sv_ne (by decide)).trans (gi_sv_ne (by decide))))))
          have e93 : gi (si (si (si (si (si m 221 4 a) 221 5 a) 221 3 0) 221 12 (-1)) 221 12 a) 221 3 = 0 := ((gi_sv_ne (by decide)).trans ((gi_sv_ne (by decide)).trans (gi_eqO (isO_sv (isO_sv (isO_of hm))) (by decide))))
          have e94 : gi (si (si (si (si (si m 221 4 a) 221 5 a) 221 3 0) 221 12 (-1)) 221 12 a) 221 4 = a := ((gi_sv_ne (by decide)).trans ((gi_sv_ne (by decide)).trans ((gi_sv_ne (by decide)).trans ((gi_sv_ne (by decide)).trans (gi_eqO (isO_of hm) (by decide))))))
          have e95 : gi (si (si (si (si (si m 221 4 a) 221 5 a) 221 3 0) 221 12 (-1)) 221 12 a) 221 5 = a := ((gi_sv_ne (by decide)).trans ((gi_sv_ne (by decide)).trans ((gi_sv_ne (by decide)).trans (gi_eqO (isO_sv (isO_of hm)) (by decide)))))
          have g2 : ga (si (si (si (si (si m 221 4 a) 221 5 a) 221 3 0) 221 12 (-1)) 221 12 a) 222 = ga m 222 := ((ga_sv).trans ((ga_sv).trans ((ga_sv).trans ((ga_sv).trans (ga_sv)))))
          exact ah_135 hm2 (fr_sv rfl (fr_sv rfl (fr_sv rfl (fr_sv rfl (fr_sv rfl (hf)))))) (by rw [e94]) h5 h0 (by rw [e92]; omega) (fun q => absurd rfl q) (fun _ _ => by rw [g2]; omega) a0 a1 a2 a3)
        (fun q1 y2 e3 q4 q38 y42 e43 lo a0 a1 a2 a3 hm2 => by
          have e92 : gi (si (si (si (si m 221 4 a) 221 5 a) 221 3 0) 221 12 (-1)) 221 2 = (gi m 221 2) := ((gi_sv_ne (by decide)).trans ((gi_sv_ne (by decide)).trans ((gi_sv_ne (by decide)).trans (gi_sv_ne (by decide)))))
          have e93 : gi (si (si (si (si m 221 4 a) 221 5 a) 221 3 0) 221 12 (-1)) 221 3 = 0 := ((gi_sv_ne (by decide)).trans (gi_eqO (isO_sv (isO_sv (isO_of hm))) (by decide)))
          have e94 : gi (si (si (si (si m 221 4 a) 221 5 a) 221 3 0) 221 12 (-1)) 221 4 = a := ((gi_sv_ne (by decide)).trans ((gi_sv_ne (by decide)).trans ((gi_sv_ne (by decide)).trans (gi_eqO (isO_of hm) (by decide)))))
          have e95 : gi (si (si (si (si m 221 4 a) 221 5 a) 221 3 0) 221 12 (-1)) 221 5 = a := ((gi_sv_ne (by decide)).trans ((gi_sv_ne (by decide)).trans (gi_eqO (isO_sv (isO_of hm)) (by decide))))
          have g2 : ga (si (si (si (si m 221 4 a) 221 5 a) 221 3 0) 221 12 (-1)) 222 = ga m 222 := ((ga_sv).trans ((ga_sv).trans ((ga_sv).trans (ga_sv))))
          exact ah_135 hm2 (fr_sv rfl (fr_sv rfl (fr_sv rfl (fr_sv rfl (hf))))) (by rw [e94]) h5 h0 (by rw [e92]; omega) (fun q => absurd rfl q) (fun _ q => absurd rfl q) a0 a1 a2 a3)
        (fun q1 y2 e3 q4 q38 y50 e51 q55 lo a0 a1 a2 a3 hm2 => by
          have e92 : gi (si (si (si (si m 221 4 a) 221 5 a) 221 3 0) 221 12 (-1)) 221 2 = (gi m 221 2) := ((gi_sv_ne (by decide)).trans ((gi_sv_ne (by decide)).trans ((gi_sv_ne (by decide)).trans (gi_sv_ne (by decide)))))
          have e93 : gi (si (si (si (si m 221 4 a) 221 5 a) 221 3 0) 221 12 (-1)) 221 3 = 0 := ((gi_sv_ne (by decide)).trans (gi_eqO (isO_sv (isO_sv (isO_of hm))) (by decide)))
          have e94 : gi (si (si (si (si m 221 4 a) 221 5 a) 221 3 0) 221 12 (-1)) 221 4 = a := ((gi_sv_ne (by decide)).trans ((gi_sv_ne (by decide)).trans ((gi_sv_ne (by decide)).trans (gi_eqO (isO_of hm) (by decide)))))
          have e95 : gi (si (si (si (si m 221 4 a) 221 5 a) 221 3 0) 221 12 (-1)) 221 5 = a := ((gi_sv_ne (by decide)).trans ((gi_sv_ne (by decide)).trans (gi_eqO (isO_sv (isO_of hm)) (by decide))))
          have g2 : ga (si (si (si (si m 221 4 a) 221 5 a) 221 3 0) 221 12 (-1)) 222 = ga m 222 := ((ga_sv).trans ((ga_sv).trans ((ga_sv).trans (ga_sv))))
          exact ah_135 hm2 (fr_sv rfl (fr_sv rfl (fr_sv rfl (fr_sv rfl (hf))))) (by rw [e94]) h5 h0 (by rw [e92]; omega) (fun _ => by rw [g2]; omega) (fun q => absurd q (by decide)) a0 a1 a2 a3)
        (fun q1 y2 e3 q4 q38 y50 e51 q55 x56 e57 y58 e59 q60 x61 e62 y63 e64 q65 lo a0 a1 a2 a3 hm2 => by
          have e92 : gi (si (si (si (si m 221 4 a) 221 5 a) 221 3 0) 221 12 (-1)) 221 2 = (gi m 221 2) := ((gi_sv_ne (by decide)).trans ((gi_sv_ne (by decide)).trans ((gi_sv_ne (by decide)).trans (gi_sv_ne (by decide)))))
          have e93 : gi (si (si (si (si m 221 4 a) 221 5 a) 221 3 0) 221 12 (-1)) 221 3 = 0 := ((gi_sv_ne (by decide)).trans (gi_eqO (isO_sv (isO_sv (isO_of hm))) (by decide)))
          have e94 : gi (si (si (si (si m 221 4 a) 221 5 a) 221 3 0) 221 12 (-1)) 221 4 = a := ((gi_sv_ne (by decide)).trans ((gi_sv_ne (by decide)).trans ((gi_sv_ne (by decide)).trans (gi_eqO (isO_of hm) (by decide)))))
          have e95 : gi (si (si (si (si m 221 4 a) 221 5 a) 221 3 0) 221 12 (-1)) 221 5 = a := ((gi_sv_ne (by decide)).trans ((gi_sv_ne (by decide)).trans (gi_eqO (isO_sv (isO_of hm)) (by decide))))
          have g2 : ga (si (si (si (si m 221 4 a) 221 5 a) 221 3 0) 221 12 (-1)) 222 = ga m 222 := ((ga_sv).trans ((ga_sv).trans ((ga_sv).trans (ga_sv))))
          exact ah_135 hm2 (fr_sv rfl (fr_sv rfl (fr_sv rfl (fr_sv rfl (hf))))) (by rw [e94]) h5 h0 (by rw [e92]; omega) (fun _ => by rw [g2]; omega) (fun q => absurd q (by decide)) a0 a1 a2 a3)
        (fun q1 y2 e3 q4 q38 y50 e51 q55 x56 e57 y58 e59 q60 x61 e62 y63 e64 q65 q66 lo a0 a1 a2 a3 hm2 => by
          have e92 : gi (si (si (si (si m 221 4 a) 221 5 a) 221 3 0) 221 12 (-1)) 221 2 = (gi m 221 2) := ((gi_sv_ne (by decide)).trans ((gi_sv_ne (by decide)).trans ((gi_sv_ne (by decide)).trans (gi_sv_ne (by decide)))))
          have e93 : gi (si (si (si (si m 221 4 a) 221 5 a) 221 3 0) 221 12 (-1)) 221 3 = 0 := ((gi_sv_ne (by decide)).trans (gi_eqO (isO_sv (isO_sv (isO_of hm))) (by decide)))
          have e94 : gi (si (si (si (si m 221 4 a) 221 5 a) 221 3 0) 221 12 (-1)) 221 4 = a := ((gi_sv_ne (by decide)).trans ((gi_sv_ne (by decide)).trans ((gi_sv_ne (by decide)).trans (gi_eqO (isO_of hm) (by decide)))))
          have e95 : gi (si (si (si (si m 221 4 a) 221 5 a) 221 3 0) 221 12 (-1)) 221 5 = a := ((gi_sv_ne (by decide)).trans ((gi_sv_ne (by decide)).trans (gi_eqO (isO_sv (isO_of hm)) (by decide))))
          have g2 : ga (si (si (si (si m 221 4 a) 221 5 a) 221 3 0) 221 12 (-1)) 222 = ga m 222 := ((ga_sv).trans ((ga_sv).trans ((ga_sv).trans (ga_sv))))
          exact ah_135 hm2 (fr_sv rfl (fr_sv rfl (fr_sv rfl (fr_sv rfl (hf))))) (by rw [e94]) h5 h0 (by rw [e92]; omega) (fun _ => by rw [g2]; omega) (fun q => absurd q (by decide)) a0 a1 a2 a3)
        (fun q1 y2 e3 q4 q38 y50 e51 q55 x56 e57 y58 e59 q60 x61 e62 y63 e64 q65 q66 lo a0 a1 a2 a3 hm2 => by
          have e92 : gi (si (si (si (si (si m 221 4 a) 221 5 a) 221 3 0) 221 12 (-1)) 221 12 a) 221 2 = (gi m 221 2) := ((gi_sv_ne (by decide)).trans ((gi_sv_ne (by decide)).trans ((gi_sv_ne (by decide)).trans ((gi_sv_ne (by decide)).trans (gi_sv_ne (by decide))))))
          have e93 : gi (si (si (si (si (si m 221 4 a) 221 5 a) 221 3 0) 221 12 (-1)) 221 12 a) 221 3 = 0 := ((gi_sv_ne (by decide)).trans ((gi_sv_ne (by decide)).trans (gi_eqO (isO_sv (isO_sv (isO_of hm))) (by decide))))
          have e94 : gi (si (si (si (si (si m 221 4 a) 221 5 a) 221 3 0) 221 12 (-1)) 221 12 a) 221 4 = a := ((gi_sv_ne (by decide)).trans ((gi_sv_ne (by decide)).trans ((gi_sv_ne (by decide)).trans ((gi_sv_ne (by decide)).trans (gi_eqO (isO_of hm) (by decide))))))
          have e95 : gi (si (si (si (si (si m 221 4 a) 221 5 a) 221 3 0) 221 12 (-1)) 221 12 a) 221 5 = a := ((gi_sv_ne (by decide)).trans ((gi_sv_ne (by decide)).trans ((gi_sv_ne (by decide)).trans (gi_eqO (isO_sv (isO_of hm)) (by decide)))))
          have g2 : ga (si (si (si (si (si m 221 4 a) 221 5 a) 221 3 0) 221 12 (-1)) 221 12 a) 222 = ga m 222 := ((ga_sv).trans ((ga_sv).trans ((ga_sv).trans ((ga_sv).trans (ga_sv)))))
          exact ah_135 hm2 (fr_sv rfl (fr_sv rfl (fr_sv rfl (fr_sv rfl (fr_sv rfl (hf)))))) (by rw [e94]) h5 h0 (by rw [e92]; omega) (fun _ => by rw [g2]; omega) (fun q => absurd q (by decide)) a0 a1 a2 a3)
        (fun q1 y2 e3 q4 q38 y50 e51 q55 x56 e57 y58 e59 q60 q67 x68 e69 y70 e71 lo a0 a1 a2 a3 hm2 => by
          have e92 : gi (si (si (si (si m 221 4 a) 221 5 a) 221 3 0) 221 12 (-1)) 221 2 = (gi m 221 2) := ((gi_sv_ne (by decide)).trans ((gi_sv_ne (by decide)).trans ((gi_sv_ne (by decide)).trans (gi_sv_ne (by decide)))))
          have e93 : gi (si (si (si (si m 221 4 a) 221 5 a) 221 3 0) 221 12 (-1)) 221 3 = 0 := ((gi_sv_ne (by decide)).trans (gi_eqO (isO_sv (isO_sv (isO_of hm))) (by decide)))
          have e94 : gi (si (si (si (si m 221 4 a) 221 5 a) 221 3 0) 221 12 (-1)) 221 4 = a := ((gi_sv_ne (by decide)).trans ((gi_sv_ne (by decide)).trans ((gi_sv_ne (by decide)).trans (gi_eqO (isO_of hm) (by decide)))))
          have e95 : gi (si (si (si (si m 221 4 a) 221 5 a) 221 3 0) 221 12 (-1)) 221 5 = a := ((gi_sv_ne (by decide)).trans ((gi_sv_ne (by decide)).trans (gi_eqO (isO_sv (isO_of hm)) (by decide))))
          have g2 : ga (si (si (si (si m 221 4 a) 221 5 a) 221 3 0) 221 12 (-1)) 222 = ga m 222 := ((ga_sv).trans ((ga_sv).trans ((ga_sv).trans (ga_sv))))
          exact ah_135 hm2 (fr_sv rfl (fr_sv rfl (fr_sv rfl (fr_sv rfl (hf))))) (by rw [e94]) h5 h0 (by rw [e92]; omega) (fun _ => by rw [g2]; omega) (fun q => absurd q (by decide)) a0 a1 a2 a3)
        (fun q1 y2 e3 q4 q38 y50 e51 q55 x56 e57 y58 e59 q60 q67 lo a0 a1 a2 a3 hm2 => by
          have e92 : gi (si (si (si (si (si m 221 4 a) 221 5 a) 221 3 0) 221 12 (-1)) 221 12 a) 221 2 = (gi m 221 2) := ((gi_sv_ne (by decide)).trans ((gi_sv_ne (by decide)).trans ((gi_sv_ne (by decide)).trans ((gi_sv_ne (by decide)).trans (gi_sv_ne (by decide))))))
          have e93 : gi (si (si (si (si (si m 221 4 a) 221 5 a) 221 3 0) 221 12 (-1)) 221 12 a) 221 3 = 0 := ((gi_sv_ne (by decide)).trans ((gi_sv_ne (by decide)).trans (gi_eqO (isO_sv (isO_sv (isO_of hm))) (by decide))))
          have e94 : gi (si (si (si (si (si m 221 4 a) 221 5 a) 221 3 0) 221 12 (-1)) 221 12 a) 221 4 = a := ((gi_sv_ne (by decide)).trans ((gi_sv_ne (by decide)).trans ((gi_sv_ne (by decide)).trans ((gi_sv_ne (by decide)).trans (gi_eqO (isO_of hm) (by decide))))))
          have e95 : gi (si (si (si (si (si m 221 4 a) 221 5 a) 221 3 0) 221 12 (-1)) 221 12 a) 221 5 = a := ((gi_sv_ne (by decide)).trans ((gi_sv_ne (by decide)).trans ((gi_sv_ne (by decide)).trans (gi_eqO (isO_sv (isO_of hm)) (by decide)))))
          have g2 : ga (si (si (si (si (si m 221 4 a) 221 5 a) 221 3 0) 221 12 (-1)) 221 12 a) 222 = ga m 222 := ((ga_sv).trans ((ga_sv).trans ((ga_sv).trans ((ga_sv).trans (ga_sv)))))
          exact ah_135 hm2 (fr_sv rfl (fr_sv rfl (fr_sv rfl (fr_sv rfl (fr_sv rfl (hf)))))) (by rw [e94]) h5 h0 (by rw [e92]; omega) (fun _ => by rw [g2]; omega) (fun q => absurd q (by decide)) a0 a1 a2 a3)
        (fun q1 hm2 => by
          have e92 : gi (si (si (si (si m 221 4 a) 221 5 a) 221 3 0) 221 12 (-1)) 221 2 = (gi m 221 2) := ((gi_sv_ne (by decide)).trans ((gi_sv_ne (by decide)).trans ((gi_sv_ne (by decide)).trans (gi_sv_ne (by decide)))))
          have e93 : gi (si (si (si (si m 221 4 a) 221 5 a) 221 3 0) 221 12 (-1)) 221 3 = 0 := ((gi_sv_ne (by decide)).trans (gi_eqO (isO_sv (isO_sv (isO_of hm))) (by decide)))
          have e94 : gi (si (si (si (si m 221 4 a) 221 5 a) 221 3 0) 221 12 (-1)) 221 4 = a := ((gi_sv_ne (by decide)).trans ((gi_sv_ne (by decide)).trans ((gi_sv_ne (by decide)).trans (gi_eqO (isO_of hm) (by decide)))))
          have e95 : gi (si (si (si (si m 221 4 a) 221 5 a) 221 3 0) 221 12 (-1)) 221 5 = a := ((gi_sv_ne (by decide)).trans ((gi_sv_ne (by decide)).trans (gi_eqO (isO_sv (isO_of hm)) (by decide))))
          have g2 : ga (si (si (si (si m 221 4 a) 221 5 a) 221 3 0) 221 12 (-1)) 222 = ga m 222 := ((ga_sv).trans ((ga_sv).trans ((ga_sv).trans (ga_sv))))
          exact ⟨rfl, hm2, fr_sv rfl (fr_sv rfl (fr_sv rfl (fr_sv rfl (hf)))), ⟨⟨by rw [e94]; omega, by rw [e94, e95]; omega, by rw [e95, e92]; omega⟩, Or.inl (by rw [e93]; decide)⟩, by rw [e94]; omega⟩)
theorem ah_5 : ∀ (f : Nat) (a : Int32) (m : zM) (lo : List (Nat × Value)), (gi m 221 2).toInt ≤ a.toInt + (f : Int) → aTm aT0 m → fr [] [3, 4, 5, 6, 7, 12] mr m → (gi mr 221 5).toInt ≤ a.toInt → 0 ≤ a.toInt → a.toInt ≤ (gi m 221 2).toInt → zlg lo 0 = some (.ref 221) → zlg lo 1 = some (.int a) → yR zpg tX12_ahead (d + 1) (5, lo, [], m) (ahP mr) := by
  intro f
  induction f with
  | zero =>
    intro a m lo hn hm hf h5 h0 hs l0 l1
    have sz := mO_r2 hm
    exact w_ah_5 hm l0 l1 (by omega)
        (fun q1 lo a0 a1 hm => ah_41 hm hf h5 h0 hs a0 a1)
        (fun q1 y2 e3 q4 x5 e6 lo a0 a1 hm => by exfalso; omega)
        (fun q1 y2 e3 q4 y10 e11 q12 lo a0 a1 hm => ah_41 hm hf h5 h0 hs a0 a1)
        (fun q1 y2 e3 q4 y10 e11 q12 x13 e14 lo a0 a1 hm => by exfalso; omega)
  | succ f ih =>
    intro a m lo hn hm hf h5 h0 hs l0 l1
    have sz := mO_r2 hm
    exact w_ah_5 hm l0 l1 (by omega)
        (fun q1 lo a0 a1 hm => ah_41 hm hf h5 h0 hs a0 a1)
        (fun q1 y2 e3 q4 x5 e6 lo a0 a1 hm => ih _ m lo (by omega) hm hf (by omega) (by omega) (by omega) a0 a1)
        (fun q1 y2 e3 q4 y10 e11 q12 lo a0 a1 hm => ah_41 hm hf h5 h0 hs a0 a1)
        (fun q1 y2 e3 q4 y10 e11 q12 x13 e14 lo a0 a1 hm => ih _ m lo (by omega) hm hf (by omega) (by omega) (by omega) a0 a1)
theorem h_ahead {mem : zM} (hd : 2 ≤ d) (hm : aTm aT0 mem) (hs : (gi mem 221 5).toInt ≤ (gi mem 221 2).toInt) : yC zpg d 173 [.ref 221] mem (ahP mem) := by
  obtain ⟨d, rfl⟩ : ∃ q, d = q + 2 := ⟨d - 2, by omega⟩
  have se := mO_r5 hm
  have sz := mO_r2 hm
  refine yC_of (t := tX12_ahead) rfl rfl ?_
  exact w_ah_0 hm rfl
        (fun lo a0 a1 hm => ah_5 1600 _ mem lo (by omega) hm fr_rf (by omega) (by omega) hs a0 a1)
end AH
