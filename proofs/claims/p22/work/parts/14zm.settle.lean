/-! what a night settles: the class -/
section SEA
variable {Q : Qd} {S : Sd} {hu : Int → Int} {P : Int → Prop}
/-- the bits below n for which P holds -/
def bSt (P : Int → Prop) (n : Int) (x : Int32) : Prop := ∀ i, 0 ≤ i → i < 31 → (bt x i ↔ (i < n ∧ P i))
theorem bSt_y {n n' : Int} {x t : Int32} (hn : t.toInt = n) (e' : n' = n + 1) (n0 : 0 ≤ n) (n9 : n < 31) (hp : P n) (hh : bSt P n x) : bSt P n' (x ||| ((1 : Int32) <<< (t &&& 31))) := by
  subst e'
  intro i i0 i1
  rw [bt_or (by omega) (by omega) i0 i1, hh i i0 i1, hn]
  constructor
  · rintro (⟨a, b⟩ | a)
    · exact ⟨by omega, b⟩
    · rw [a]
      exact ⟨by omega, hp⟩
  · rintro ⟨a, b⟩
    by_cases v : i = n
    · exact Or.inr v
    · exact Or.inl ⟨by omega, b⟩
theorem bSt_n {n n' : Int} {x : Int32} (e' : n' = n + 1) (hp : ¬ P n) (hh : bSt P n x) : bSt P n' x := by
  subst e'
  intro i i0 i1
  rw [hh i i0 i1]
  constructor
  · rintro ⟨a, b⟩
    exact ⟨by omega, b⟩
  · rintro ⟨a, b⟩
    refine ⟨?_, b⟩
    by_cases v : i = n
    · rw [v] at b
      exact absurd b hp
    · omega
theorem bSt_o {n : Int} {x : Int32} (hh : bSt P n x) : bSt P n (x ||| 0) := by
  intro i i0 i1
  rw [bt_oo, hh i i0 i1]
  exact ⟨fun z => z.elim id (fun z => absurd z bt_0), Or.inl⟩
theorem bSt_z : bSt P 0 0 := fun i i0 i1 => ⟨fun z => absurd z bt_0, fun z => by omega⟩
def fP (Q : Qd) (hu : Int → Int) (S : Sd) (i : Int) : Prop := bt (Sm S) i ∧ fdC Q hu S i
def lP (Q : Qd) (hu : Int → Int) (S : Sd) (i : Int) : Prop := ¬ bt (Sm S) i ∧ lsC Q hu S i
theorem bSt_tn {x y : Int32} (hW : WQ Q) (x9 : 0 ≤ x.toInt ∧ x.toInt ≤ 511) (y9 : 0 ≤ y.toInt ∧ y.toInt ≤ 511) (hx : bSt (fP Q hu S) (thN Q) x) (hy : bSt (lP Q hu S) (thN Q) y) : (x ||| y) = tnF (tnP Q hu S) (Qt Q).length := by
  have a := i9_or x9 y9
  have b := tnF_9 (P := tnP Q hu S) _ hW.2.1.1
  refine bt_ex a.1 b.1 (fun i i0 i1 => ?_)
  rw [bt_oo, hx i i0 i1, hy i i0 i1, tnF_b _ hW.2.1.1 i i0 i1]
  constructor
  · rintro (⟨c, e⟩ | ⟨c, e⟩)
    · exact ⟨c, Or.inl e⟩
    · exact ⟨c, Or.inr e⟩
  · rintro ⟨c, e | e⟩
    · exact Or.inl ⟨c, e⟩
    · exact Or.inr ⟨c, e⟩
/-- what is so behind a night, folk having gone on -/
noncomputable def stS (Q : Qd) (hu : Int → Int) (S : Sd) : Sd := (Sn S + 1, Sm S ^^^ tnF (tnP Q hu S) (Qt Q).length, fun t => if cdB (tnP Q hu S t) = true then 0 else min 99 (Sa S t + 1), Sp S)
/-- but for a state and the harbour nothing changed -/
def frS (s : Nat) (m0 m : zM) : Prop := ∀ k, ¬ k = s → ¬ k = s + 1 → ¬ k = s + 2 → ¬ (181 ≤ k ∧ k ≤ 184) → zat m k = zat m0 k
theorem frS_rf {s : Nat} {m : zM} : frS s m m := fun _ _ _ _ _ => rfl
theorem frS_tr {s : Nat} {a b c : zM} (h1 : frS s a b) (h2 : frS s b c) : frS s a c := fun k k1 k2 k3 k4 => (h2 k k1 k2 k3 k4).trans (h1 k k1 k2 k3 k4)
theorem nck {ks : List Nat} {q : Nat} (hk : ks.all (fun k => decide (181 ≤ k ∧ k ≤ 184)) = true) (hq : ¬ (181 ≤ q ∧ q ≤ 184)) : ks.contains q = false := by
  cases hc : ks.contains q with
  | false => rfl
  | true => exact absurd (of_decide_eq_true (List.all_eq_true.1 hk q (List.contains_iff_mem.1 hc))) hq
theorem frS_o {s : Nat} {ks : List Nat} {a b : zM} (hk : ks.all (fun k => decide (181 ≤ k ∧ k ≤ 184)) = true) (hh : onl ks a b) : frS s a b := fun k _ _ _ k4 => hh k (by
  cases hc : ks.contains k with
  | false => rfl
  | true =>
    have z := of_decide_eq_true (List.all_eq_true.1 hk k (List.contains_iff_mem.1 hc))
    exact absurd z k4)
theorem frS_sv {s k i : Nat} {a b : zM} {v : Value} (hk : k = s ∨ k = s + 1 ∨ k = s + 2 ∨ (181 ≤ k ∧ k ≤ 184)) (hh : frS s a b) : frS s a (sv b k i v) := fun q q1 q2 q3 q4 => by
  rw [zat_sv_ne (fun ee => by omega)]
  exact hh q q1 q2 q3 q4
theorem frS_sa {s k j : Nat} {a b : zM} {v : Int32} (hk : k = s ∨ k = s + 1 ∨ k = s + 2 ∨ (181 ≤ k ∧ k ≤ 184)) (hh : frS s a b) : frS s a (sa b k j v) := fun q q1 q2 q3 q4 => by
  rw [zat_sa_ne (fun ee => by omega)]
  exact hh q q1 q2 q3 q4
/-- but for one array nothing changed -/
def frA (s : Nat) (m0 m : zM) : Prop := ∀ k, ¬ k = s → zat m k = zat m0 k
theorem frA_gi {s k i : Nat} {m0 m : zM} (hh : frA s m0 m) (hk : ¬ k = s) : gi m k i = gi m0 k i := by
  unfold gi zfl
  rw [hh k hk]
theorem frA_zf {s k i : Nat} {m0 m : zM} (hh : frA s m0 m) (hk : ¬ k = s) : zfl m k i = zfl m0 k i := by
  unfold zfl
  rw [hh k hk]
theorem frA_ga {s k : Nat} {m0 m : zM} (hh : frA s m0 m) (hk : ¬ k = s) : ga m k = ga m0 k := by
  unfold ga
  rw [hh k hk]
theorem frA_sa {s j : Nat} {a b : zM} {v : Int32} (hh : frA s a b) : frA s a (sa b s j v) := fun q q1 => by
  rw [zat_sa_ne (fun ee => q1 ee.symm)]
  exact hh q q1
end SEA
section SEA
variable {d : Nat} {mem : zM} {Q : Qd} {S : Sd} {hu : Int → Int}
set_option maxRecDepth 100000 in
theorem w_se0A {d : Nat} {mem : zM} {P : Option Value → zM → Prop} {s : Nat} {lo : List (Nat × Value)} (hm : aTm aT0 mem) (l_0 : zlg lo 0 = some (.ref 181)) (l_1 : zlg lo 1 = some (.ref s)) (h1 : ∀ lo, zlg lo 0 = some (.ref 181) → zlg lo 1 = some (.ref s) → zlg lo 2 = some (.int 0) → aTm aT0 (si (si mem 181 3 0) 181 4 0) → yR zpg tX0_settle (d + 8) (12, lo, [], (si (si mem 181 3 0) 181 4 0)) P) : yR zpg tX0_settle (d + 8) (0, lo, [], mem) P := by
  refine wR_la rfl l_0 ?_
  refine yR_m 1 (fun _ _ _ _ => rfl) ?_
  refine wR_pi rfl hrO_e hrO_3 hm rfl ?_
  have hm_1 : aTm aT0 (si mem 181 3 0) := tm_si hrO_e hrO_3 hm (by decide)
  refine wR_la rfl l_0 ?_
  refine yR_m 1 (fun _ _ _ _ => rfl) ?_
  refine wR_pi rfl hrO_e hrO_4 hm_1 rfl ?_
  have hm_2 : aTm aT0 (si (si mem 181 3 0) 181 4 0) := tm_si hrO_e hrO_4 hm_1 (by decide)
  refine yR_m 1 (fun _ _ _ _ => rfl) ?_
  refine wR_si rfl rfl (fun lo1 e2 f3 => ?_)
  have lo1_0 := f3 0 _ (by decide) (Or.inl rfl) l_0
  have lo1_1 := f3 1 _ (by decide) (Or.inl rfl) l_1
  exact h1 lo1 lo1_0 lo1_1 e2 hm_2

set_option maxRecDepth 100000 in
theorem w_se12A {d : Nat} {mem : zM} {P : Option Value → zM → Prop} {s : Nat} {t : Int32} {lo : List (Nat × Value)} (hm : aTm aT0 mem) (l_0 : zlg lo 0 = some (.ref 181)) (l_1 : zlg lo 1 = some (.ref s)) (l_2 : zlg lo 2 = some (.int t)) (sVO_e : aat aT0 s = some (.inr (8, sVO s))) (aR_s1 : aat aT0 (s + 1) = some (.inl (false, 0, 9, .inl (-2147483648, 2147483647)))) (aR_s2 : aat aT0 (s + 2) = some (.inl (false, 0, 6, .inl (-2147483648, 2147483647)))) (hs : (31 ≤ s ∧ s ≤ 216) ∧ (s < 38 ∨ 192 ≤ s)) {Q : Qd} {S : Sd} {hu : Int → Int} (hp : zfl mem 181 0 = some (.ref 2)) (hC : cQ 2 3 4 7 8 9 12 13 Q mem) (hW : WQ Q) (hS : tS s Q hu S mem) (hv : wS Q S) (hH : wH Q hu) (cn : (gi mem 2 7).toInt = thN Q) (ht : 0 ≤ t.toInt ∧ t.toInt ≤ 9) (r3 : 0 ≤ (gi mem 181 3).toInt ∧ (gi mem 181 3).toInt ≤ 511) (r4 : 0 ≤ (gi mem 181 4).toInt ∧ (gi mem 181 4).toInt ≤ 511) (h1 : (gi mem 2 7).toInt ≤ (t).toInt → ∀ lo, zlg lo 0 = some (.ref 181) → zlg lo 1 = some (.ref s) → zlg lo 2 = some (.int ((gi mem 181 3) ||| (gi mem 181 4))) → zlg lo 3 = some (.int 0) → aTm aT0 mem → yR zpg tX0_settle (d + 8) (98, lo, [], mem) P) (s1 : (t).toInt < (gi mem 2 7).toInt → (((gi mem s 1) >>> (t &&& 31)) &&& 1).toInt = 0 → ∀ (v11 : Int32) (m9 : zM), aTm aT0 m9 → (onl [182, 183] mem m9 ∧ is1 v11 (lsC Q hu S (t).toInt)) → (v11).toInt = 0 → (0 : Int) ≤ ((gi mem 181 4) ||| 0).toInt ∧ ((gi mem 181 4) ||| 0).toInt ≤ 511) (h2 : (t).toInt < (gi mem 2 7).toInt → (((gi mem s 1) >>> (t &&& 31)) &&& 1).toInt = 0 → ∀ (v11 : Int32) (m9 : zM), aTm aT0 m9 → (onl [182, 183] mem m9 ∧ is1 v11 (lsC Q hu S (t).toInt)) → (v11).toInt = 0 → ∀ (x13 : Int32), x13.toInt = ((t).toInt + 1) → ∀ lo, zlg lo 0 = some (.ref 181) → zlg lo 1 = some (.ref s) → zlg lo 2 = some (.int x13) → aTm aT0 (si m9 181 4 ((gi mem 181 4) ||| 0)) → yR zpg tX0_settle (d + 8) (12, lo, [], (si m9 181 4 ((gi mem 181 4) ||| 0))) P) (s2 : (t).toInt < (gi mem 2 7).toInt → (((gi mem s 1) >>> (t &&& 31)) &&& 1).toInt = 0 → ∀ (v11 : Int32) (m9 : zM), aTm aT0 m9 → (onl [182, 183] mem m9 ∧ is1 v11 (lsC Q hu S (t).toInt)) → ¬ (v11).toInt = 0 → (0 : Int) ≤ ((gi mem 181 4) ||| (1 <<< (t &&& 31))).toInt ∧ ((gi mem 181 4) ||| (1 <<< (t &&& 31))).toInt ≤ 511) (h3 : (t).toInt < (gi mem 2 7).toInt → (((gi mem s 1) >>> (t &&& 31)) &&& 1).toInt = 0 → ∀ (v11 : Int32) (m9 : zM), aTm aT0 m9 → (onl [182, 183] mem m9 ∧ is1 v11 (lsC Q hu S (t).toInt)) → ¬ (v11).toInt = 0 → ∀ (x18 : Int32), x18.toInt = ((t).toInt + 1) → ∀ lo, zlg lo 0 = some (.ref 181) → zlg lo 1 = some (.ref s) → zlg lo 2 = some (.int x18) → aTm aT0 (si m9 181 4 ((gi mem 181 4) ||| (1 <<< (t &&& 31)))) → yR zpg tX0_settle (d + 8) (12, lo, [], (si m9 181 4 ((gi mem 181 4) ||| (1 <<< (t &&& 31))))) P) (h4 : (t).toInt < (gi mem 2 7).toInt → ¬ (((gi mem s 1) >>> (t &&& 31)) &&& 1).toInt = 0 → ∀ (v25 : Int32) (m23 : zM), aTm aT0 m23 → (onl [182, 183] mem m23 ∧ is1 v25 (fdC Q hu S (t).toInt)) → (v25).toInt = 0 → ∀ (x27 : Int32), x27.toInt = ((t).toInt + 1) → ∀ lo, zlg lo 0 = some (.ref 181) → zlg lo 1 = some (.ref s) → zlg lo 2 = some (.int x27) → aTm aT0 m23 → yR zpg tX0_settle (d + 8) (12, lo, [], m23) P) (s3 : (t).toInt < (gi mem 2 7).toInt → ¬ (((gi mem s 1) >>> (t &&& 31)) &&& 1).toInt = 0 → ∀ (v25 : Int32) (m23 : zM), aTm aT0 m23 → (onl [182, 183] mem m23 ∧ is1 v25 (fdC Q hu S (t).toInt)) → ¬ (v25).toInt = 0 → (0 : Int) ≤ ((gi m23 181 3) ||| (1 <<< (t &&& 31))).toInt ∧ ((gi m23 181 3) ||| (1 <<< (t &&& 31))).toInt ≤ 511) (h5 : (t).toInt < (gi mem 2 7).toInt → ¬ (((gi mem s 1) >>> (t &&& 31)) &&& 1).toInt = 0 → ∀ (v25 : Int32) (m23 : zM), aTm aT0 m23 → (onl [182, 183] mem m23 ∧ is1 v25 (fdC Q hu S (t).toInt)) → ¬ (v25).toInt = 0 → ∀ (x32 : Int32), x32.toInt = ((t).toInt + 1) → ∀ lo, zlg lo 0 = some (.ref 181) → zlg lo 1 = some (.ref s) → zlg lo 2 = some (.int x32) → aTm aT0 (si m23 181 3 ((gi m23 181 3) ||| (1 <<< (t &&& 31)))) → yR zpg tX0_settle (d + 8) (12, lo, [], (si m23 181 3 ((gi m23 181 3) ||| (1 <<< (t &&& 31))))) P) : yR zpg tX0_settle (d + 8) (12, lo, [], mem) P := by
  refine wR_li rfl l_2 ?_
  refine wR_la rfl l_0 ?_
  refine wR_gq rfl hrO_e hm hp ?_
  refine wR_gi rfl quA_e quA_7 hm rfl ?_
  refine wR_ic_ge rfl (a := (t).toInt) (c := (gi mem 2 7).toInt) rfl rfl (fun q1 => ?_) (fun q1 => ?_)
  ·
    refine wR_la rfl l_0 ?_
    refine wR_gi rfl hrO_e hrO_3 hm rfl ?_
    refine wR_la rfl l_0 ?_
    refine wR_gi rfl hrO_e hrO_4 hm rfl ?_
    refine yR_m 1 (fun _ _ _ _ => rfl) ?_
    refine wR_si rfl rfl (fun lo2 e3 f4 => ?_)
    have lo2_0 := f4 0 _ (by decide) (Or.inl rfl) l_0
    have lo2_1 := f4 1 _ (by decide) (Or.inl rfl) l_1
    refine yR_m 1 (fun _ _ _ _ => rfl) ?_
    refine wR_si rfl rfl (fun lo5 e6 f7 => ?_)
    have lo5_2 := f7 2 _ (by decide) (Or.inl rfl) e3
    have lo5_0 := f7 0 _ (by decide) (Or.inl rfl) lo2_0
    have lo5_1 := f7 1 _ (by decide) (Or.inl rfl) lo2_1
    exact h1 q1 lo5 lo5_0 lo5_1 lo5_2 e6 hm
  ·
    refine wR_la rfl l_1 ?_
    refine wR_li rfl l_2 ?_
    refine wR_iv rfl rfl sVO_e hm rfl rfl rfl rfl ?_
    show yR zpg tX8_isMissing (d + 7) (0, [(0, .ref s), (1, .int t)], [], mem) _
    refine yR_m 1 (fun _ _ _ _ => rfl) ?_
    refine wR_gi rfl sVO_e sVO_1 hm rfl ?_
    refine yR_m 4 (fun _ _ _ _ => rfl) ?_
    refine wR_if_eq rfl (a := (((gi mem s 1) >>> (t &&& 31)) &&& 1).toInt) rfl (fun q8 => ?_) (fun q8 => ?_)
    ·
      refine yR_m 1 (fun _ _ _ _ => rfl) ?_
      refine yR_rz rfl ⟨by decide, by decide⟩ ?_
      show yR zpg tX0_settle (d + 8) (28, lo, [.int 0], mem) _
      refine wR_if_ne rfl (a := 0) rfl (fun q => by exfalso; omega) (fun _ => ?_)
      refine wR_la rfl l_0 ?_
      refine yR_m 1 (fun _ _ _ _ => rfl) ?_
      refine wR_gi rfl hrO_e hrO_4 hm rfl ?_
      refine wR_la rfl l_0 ?_
      refine wR_la rfl l_1 ?_
      refine wR_li rfl l_2 ?_
      refine wR_cv rfl rfl hrO_e hm rfl (h_lsA (Q := Q) (S := S) (hu := hu) hm hp hC hW ⟨sVO_e, aR_s1, aR_s2, hs⟩ hS hv hH (by omega) (by omega) (by omega)) ?_
      rintro _ m9 ⟨v11, rfl, hm9, k10⟩
      show yR zpg tX0_settle (d + 8) (42, lo, [.int v11, .int (gi mem 181 4), .ref 181], m9) _
      refine wR_if_eq rfl (a := (v11).toInt) rfl (fun q12 => ?_) (fun q12 => ?_)
      ·
        refine yR_m 2 (fun _ _ _ _ => rfl) ?_
        refine wR_pi rfl hrO_e hrO_4 hm9 rfl ?_
        have hm_1 : aTm aT0 (si m9 181 4 ((gi mem 181 4) ||| 0)) := tm_si hrO_e hrO_4 hm9 (s1 q1 q8 v11 m9 hm9 k10 q12)
        refine yR_m 1 (fun _ _ _ _ => rfl) ?_
        refine wN_in (a := (t).toInt) (b := 1) rfl rfl l_2 rfl rfl (by omega) (fun x13 e14 => fun lo15 e16 f17 => ?_)
        have lo15_0 := f17 0 _ (by decide) (Or.inl rfl) l_0
        have lo15_1 := f17 1 _ (by decide) (Or.inl rfl) l_1
        exact yR_m 1 (fun _ _ _ _ => rfl) (h2 q1 q8 v11 m9 hm9 k10 q12 x13 e14 lo15 lo15_0 lo15_1 e16 hm_1)
      ·
        refine yR_m 1 (fun _ _ _ _ => rfl) ?_
        refine wR_li rfl l_2 ?_
        refine yR_m 3 (fun _ _ _ _ => rfl) ?_
        refine wR_pi rfl hrO_e hrO_4 hm9 rfl ?_
        have hm_2 : aTm aT0 (si m9 181 4 ((gi mem 181 4) ||| (1 <<< (t &&& 31)))) := tm_si hrO_e hrO_4 hm9 (s2 q1 q8 v11 m9 hm9 k10 q12)
        refine yR_m 1 (fun _ _ _ _ => rfl) ?_
        refine wN_in (a := (t).toInt) (b := 1) rfl rfl l_2 rfl rfl (by omega) (fun x18 e19 => fun lo20 e21 f22 => ?_)
        have lo20_0 := f22 0 _ (by decide) (Or.inl rfl) l_0
        have lo20_1 := f22 1 _ (by decide) (Or.inl rfl) l_1
        exact yR_m 1 (fun _ _ _ _ => rfl) (h3 q1 q8 v11 m9 hm9 k10 q12 x18 e19 lo20 lo20_0 lo20_1 e21 hm_2)
    ·
      refine yR_m 2 (fun _ _ _ _ => rfl) ?_
      refine yR_rz rfl ⟨by decide, by decide⟩ ?_
      show yR zpg tX0_settle (d + 8) (28, lo, [.int 1], mem) _
      refine wR_if_ne rfl (a := 1) rfl (fun _ => ?_) (fun q => by exfalso; omega)
      refine wR_la rfl l_0 ?_
      refine wR_la rfl l_1 ?_
      refine wR_li rfl l_2 ?_
      refine wR_cv rfl rfl hrO_e hm rfl (h_fdA (Q := Q) (S := S) (hu := hu) hm hp hC hW ⟨sVO_e, aR_s1, aR_s2, hs⟩ hS hv hH (by omega) (by omega) (by omega)) ?_
      rintro _ m23 ⟨v25, rfl, hm23, k24⟩
      show yR zpg tX0_settle (d + 8) (65, lo, [.int v25], m23) _
      refine wR_if_eq rfl (a := (v25).toInt) rfl (fun q26 => ?_) (fun q26 => ?_)
      ·
        refine wN_in (a := (t).toInt) (b := 1) rfl rfl l_2 rfl rfl (by omega) (fun x27 e28 => fun lo29 e30 f31 => ?_)
        have lo29_0 := f31 0 _ (by decide) (Or.inl rfl) l_0
        have lo29_1 := f31 1 _ (by decide) (Or.inl rfl) l_1
        exact yR_m 1 (fun _ _ _ _ => rfl) (h4 q1 q8 v25 m23 hm23 k24 q26 x27 e28 lo29 lo29_0 lo29_1 e30 hm23)
      ·
        refine wR_la rfl l_0 ?_
        refine yR_m 1 (fun _ _ _ _ => rfl) ?_
        refine wR_gi rfl hrO_e hrO_3 hm23 rfl ?_
        refine yR_m 1 (fun _ _ _ _ => rfl) ?_
        refine wR_li rfl l_2 ?_
        refine yR_m 2 (fun _ _ _ _ => rfl) ?_
        refine wR_pi rfl hrO_e hrO_3 hm23 rfl ?_
        have hm_3 : aTm aT0 (si m23 181 3 ((gi m23 181 3) ||| (1 <<< (t &&& 31)))) := tm_si hrO_e hrO_3 hm23 (s3 q1 q8 v25 m23 hm23 k24 q26)
        refine wN_in (a := (t).toInt) (b := 1) rfl rfl l_2 rfl rfl (by omega) (fun x32 e33 => fun lo34 e35 f36 => ?_)
        have lo34_0 := f36 0 _ (by decide) (Or.inl rfl) l_0
        have lo34_1 := f36 1 _ (by decide) (Or.inl rfl) l_1
        exact yR_m 1 (fun _ _ _ _ => rfl) (h5 q1 q8 v25 m23 hm23 k24 q26 x32 e33 lo34 lo34_0 lo34_1 e35 hm_3)

set_option maxRecDepth 100000 in
theorem w_se98A {d : Nat} {mem : zM} {P : Option Value → zM → Prop} {s : Nat} {tu t : Int32} {lo : List (Nat × Value)} (hm : aTm aT0 mem) (l_0 : zlg lo 0 = some (.ref 181)) (l_1 : zlg lo 1 = some (.ref s)) (l_2 : zlg lo 2 = some (.int tu)) (l_3 : zlg lo 3 = some (.int t)) (sVO_e : aat aT0 s = some (.inr (8, sVO s))) (aR_s1 : aat aT0 (s + 1) = some (.inl (false, 0, 9, .inl (-2147483648, 2147483647)))) (aR_s2 : aat aT0 (s + 2) = some (.inl (false, 0, 6, .inl (-2147483648, 2147483647)))) (hs : (31 ≤ s ∧ s ≤ 216) ∧ (s < 38 ∨ 192 ≤ s)) (hp : zfl mem 181 0 = some (.ref 2)) (ht : 0 ≤ t.toInt ∧ t.toInt ≤ 9) (hA : (t).toInt < (gi mem 2 7).toInt → 0 ≤ gn (ga mem (s + 1)) t.toInt ∧ gn (ga mem (s + 1)) t.toInt ≤ 99) (h9 : 0 ≤ (gi mem s 0).toInt ∧ (gi mem s 0).toInt ≤ 999) (r1 : 0 ≤ (gi mem s 1).toInt ∧ (gi mem s 1).toInt ≤ 511) (tu9 : 0 ≤ tu.toInt ∧ tu.toInt ≤ 511) (s1 : (gi mem 2 7).toInt ≤ (t).toInt → (0 : Int) ≤ ((gi mem s 1) ^^^ tu).toInt ∧ ((gi mem s 1) ^^^ tu).toInt ≤ 511) (h1 : (gi mem 2 7).toInt ≤ (t).toInt → ∀ (x2 : Int32), x2.toInt = ((gi mem s 0).toInt + 1) → ∀ (x4 : Int32), x4.toInt = (min 999 ((gi mem s 0).toInt + 1)) → aTm aT0 (si (si mem s 1 ((gi mem s 1) ^^^ tu)) s 0 x4) → P none (si (si mem s 1 ((gi mem s 1) ^^^ tu)) s 0 x4)) (h2 : (t).toInt < (gi mem 2 7).toInt → ((tu >>> (t &&& 31)) &&& 1).toInt = 0 → ∀ (y7 : Int32), y7.toInt = (gn (ga mem (s + 1)) (t).toInt) → ∀ (x9 : Int32), x9.toInt = ((gn (ga mem (s + 1)) (t).toInt) + 1) → ∀ (x11 : Int32), x11.toInt = (min 99 ((gn (ga mem (s + 1)) (t).toInt) + 1)) → ∀ (x13 : Int32), x13.toInt = ((t).toInt + 1) → ∀ lo, zlg lo 0 = some (.ref 181) → zlg lo 1 = some (.ref s) → zlg lo 2 = some (.int tu) → zlg lo 3 = some (.int x13) → aTm aT0 (sx mem (s + 1) t x11) → yR zpg tX0_settle (d + 8) (98, lo, [], (sx mem (s + 1) t x11)) P) (h3 : (t).toInt < (gi mem 2 7).toInt → ¬ ((tu >>> (t &&& 31)) &&& 1).toInt = 0 → ∀ (x18 : Int32), x18.toInt = ((t).toInt + 1) → ∀ lo, zlg lo 0 = some (.ref 181) → zlg lo 1 = some (.ref s) → zlg lo 2 = some (.int tu) → zlg lo 3 = some (.int x18) → aTm aT0 (sx mem (s + 1) t 0) → yR zpg tX0_settle (d + 8) (98, lo, [], (sx mem (s + 1) t 0)) P) : yR zpg tX0_settle (d + 8) (98, lo, [], mem) P := by
  have r7 := quA_r7 hm
  refine wR_li rfl l_3 ?_
  refine wR_la rfl l_0 ?_
  refine wR_gq rfl hrO_e hm hp ?_
  refine wR_gi rfl quA_e quA_7 hm rfl ?_
  refine wR_ic_ge rfl (a := (t).toInt) (c := (gi mem 2 7).toInt) rfl rfl (fun q1 => ?_) (fun q1 => ?_)
  ·
    refine wR_la rfl l_1 ?_
    refine yR_m 1 (fun _ _ _ _ => rfl) ?_
    refine wR_gi rfl sVO_e sVO_1 hm rfl ?_
    refine wR_li rfl l_2 ?_
    refine yR_m 1 (fun _ _ _ _ => rfl) ?_
    refine wR_pi rfl sVO_e sVO_1 hm rfl ?_
    have hm_1 : aTm aT0 (si mem s 1 ((gi mem s 1) ^^^ tu)) := tm_si sVO_e sVO_1 hm (s1 q1)
    refine wR_la rfl l_1 ?_
    refine yR_m 1 (fun _ _ _ _ => rfl) ?_
    refine wR_la rfl l_1 ?_
    refine wR_gi rfl sVO_e sVO_0 hm_1 (gi_sv_ne (by first | decide | omega)) ?_
    refine yR_m 1 (fun _ _ _ _ => rfl) ?_
    refine wN_add (a := (gi mem s 0).toInt) (b := 1) rfl rfl rfl (by omega) (fun x2 e3 => ?_)
    refine wN_mi (a := 999) (b := ((gi mem s 0).toInt + 1)) rfl rfl e3 rfl (fun x4 e5 => ?_)
    refine wR_pi rfl sVO_e sVO_0 hm_1 rfl ?_
    have hm_2 : aTm aT0 (si (si mem s 1 ((gi mem s 1) ^^^ tu)) s 0 x4) := tm_si sVO_e sVO_0 hm_1 (i32_b _)
    exact yR_rv rfl (h1 q1 x2 e3 x4 e5 hm_2)
  ·
    refine wR_la rfl l_1 ?_
    refine wR_gr rfl sVO_e sVO_2 hm ?_
    refine wR_li rfl l_3 ?_
    refine wR_li rfl l_2 ?_
    refine wR_li rfl l_3 ?_
    refine yR_m 3 (fun _ _ _ _ => rfl) ?_
    refine wR_if_eq rfl (a := ((tu >>> (t &&& 31)) &&& 1).toInt) rfl (fun q6 => ?_) (fun q6 => ?_)
    ·
      refine yR_m 1 (fun _ _ _ _ => rfl) ?_
      refine wR_la rfl l_1 ?_
      refine wR_gr rfl sVO_e sVO_2 hm ?_
      refine wR_li rfl l_3 ?_
      refine wN_al (a := (t).toInt) rfl aR_s1 hm rfl rfl (by omega) (fun y7 e8 => ?_)
      refine yR_m 1 (fun _ _ _ _ => rfl) ?_
      refine wN_add (a := (gn (ga mem (s + 1)) (t).toInt)) (b := 1) rfl e8 rfl (by omega) (fun x9 e10 => ?_)
      refine wN_mi (a := 99) (b := ((gn (ga mem (s + 1)) (t).toInt) + 1)) rfl rfl e10 rfl (fun x11 e12 => ?_)
      refine wN_as (a := (t).toInt) rfl aR_s1 hm rfl (by omega) ?_
      have hm_3 : aTm aT0 (sx mem (s + 1) t x11) := tm_sa aR_s1 hm (i32_b _)
      refine wN_in (a := (t).toInt) (b := 1) rfl rfl l_3 rfl rfl (by omega) (fun x13 e14 => fun lo15 e16 f17 => ?_)
      have lo15_0 := f17 0 _ (by decide) (Or.inl rfl) l_0
      have lo15_1 := f17 1 _ (by decide) (Or.inl rfl) l_1
      have lo15_2 := f17 2 _ (by decide) (Or.inl rfl) l_2
      exact yR_m 1 (fun _ _ _ _ => rfl) (h2 q1 q6 y7 e8 x9 e10 x11 e12 x13 e14 lo15 lo15_0 lo15_1 lo15_2 e16 hm_3)
    ·
      refine yR_m 2 (fun _ _ _ _ => rfl) ?_
      refine wN_as (a := (t).toInt) rfl aR_s1 hm rfl (by omega) ?_
      have hm_4 : aTm aT0 (sx mem (s + 1) t 0) := tm_sa aR_s1 hm (i32_b _)
      refine wN_in (a := (t).toInt) (b := 1) rfl rfl l_3 rfl rfl (by omega) (fun x18 e19 => fun lo20 e21 f22 => ?_)
      have lo20_0 := f22 0 _ (by decide) (Or.inl rfl) l_0
      have lo20_1 := f22 1 _ (by decide) (Or.inl rfl) l_1
      have lo20_2 := f22 2 _ (by decide) (Or.inl rfl) l_2
      exact yR_m 1 (fun _ _ _ _ => rfl) (h3 q1 q6 x18 e19 lo20 lo20_0 lo20_1 lo20_2 e21 hm_4)

theorem se_oneA {s : Nat} {mr : zM} {P : Option Value → zM → Prop} (hpr : zfl mr 181 0 = some (.ref 2)) (hCr : cQ 2 3 4 7 8 9 12 13 Q mr) (hW : WQ Q) (hi : isS s) (hSr : tS s Q hu S mr) (hv : wS Q S) (hH : wH Q hu) (out : ∀ (lo : List (Nat × Value)) (m : zM) (tu : Int32), aTm aT0 m → onl [181, 182, 183] mr m → zfl m 181 0 = some (.ref 2) → bSt (fP Q hu S) (thN Q) (gi m 181 3) → bSt (lP Q hu S) (thN Q) (gi m 181 4) → tu = tnF (tnP Q hu S) (Qt Q).length → zlg lo 0 = some (.ref 181) → zlg lo 1 = some (.ref s) → zlg lo 2 = some (.int tu) → zlg lo 3 = some (.int 0) → yR zpg tX0_settle (d + 8) (98, lo, [], m) P) : ∀ (f : Nat) (t : Int32) (mem : zM) (lo : List (Nat × Value)), t.toInt + (f : Int) = thN Q → 0 ≤ t.toInt → bSt (fP Q hu S) t.toInt (gi mem 181 3) → bSt (lP Q hu S) t.toInt (gi mem 181 4) → aTm aT0 mem → onl [181, 182, 183] mr mem → zfl mem 181 0 = some (.ref 2) → zlg lo 0 = some (.ref 181) → zlg lo 1 = some (.ref s) → zlg lo 2 = some (.int t) → yR zpg tX0_settle (d + 8) (12, lo, [], mem) P := by
  intro f
  have n9 : thN Q ≤ 9 := by
    have := hW.2.1.1
    unfold thN
    omega
  induction f with
  | zero =>
    intro t mem lo ht t0 hf hl hm ho hp l0 l1 l2
    have hC := cQ_qA rfl ho hCr
    have hS := tS_q hi rfl ho hSr
    have cn := (cq_nA hC).1
    have tn : t.toInt = thN Q := by omega
    rw [tn] at hf hl
    have r3 := hrO_r3 hm
    have r4 := hrO_r4 hm
    have eq9 := bSt_tn hW r3 r4 hf hl
    exact w_se12A hm l0 l1 l2 hi.1 hi.2.1 hi.2.2.1 hi.2.2.2 hp hC hW hS hv hH cn ⟨t0, by omega⟩ r3 r4 
        (fun q1 lo a0 a1 a2 a3 hm2 => out lo mem _ hm ho hp hf hl eq9 a0 a1 a2 a3)
        (fun q1 q8 v11 m9 hm9 k10 q12 => by exfalso; omega)
        (fun q1 q8 v11 m9 hm9 k10 q12 x13 e14 lo a0 a1 a2 hm2 => by exfalso; omega)
        (fun q1 q8 v11 m9 hm9 k10 q12 => by exfalso; omega)
        (fun q1 q8 v11 m9 hm9 k10 q12 x18 e19 lo a0 a1 a2 hm2 => by exfalso; omega)
        (fun q1 q8 v25 m23 hm23 k24 q26 x27 e28 lo a0 a1 a2 hm2 => by exfalso; omega)
        (fun q1 q8 v25 m23 hm23 k24 q26 => by exfalso; omega)
        (fun q1 q8 v25 m23 hm23 k24 q26 x32 e33 lo a0 a1 a2 hm2 => by exfalso; omega)
  | succ f ih =>
    intro t mem lo ht t0 hf hl hm ho hp l0 l1 l2
    have hC := cQ_qA rfl ho hCr
    have hS := tS_q hi rfl ho hSr
    have cn := (cq_nA hC).1
    have s1 : gi mem s 1 = Sm S := hS.1.2
    have r3 := hrO_r3 hm
    have r4 := hrO_r4 hm
    exact w_se12A hm l0 l1 l2 hi.1 hi.2.1 hi.2.2.1 hi.2.2.2 hp hC hW hS hv hH cn ⟨t0, by omega⟩ r3 r4 
        (fun q1 lo a0 a1 a2 a3 hm2 => by exfalso; omega)
        (fun q1 q8 v11 m9 hm9 k10 q12 => i9_or r4 (by decide))
        (fun q1 q8 v11 m9 hm9 k10 q12 x13 e14 lo a0 a1 a2 hm2 => by
          have hs9 := mi_0 t0 (by omega) q8
          rw [s1] at hs9
          exact ih x13 _ lo (by omega) (by omega) (by rw [(gi_sv_ne (by decide)).trans (onl_gi k10.1 rfl)]; exact bSt_n e14 (fun z => hs9 z.1) hf) (by rw [gi_eqQ (isQ_of hrO_e hm9) hrO_4]; exact bSt_n e14 (fun z => (k10.2.elim (fun w => by exfalso; have w1 := w.1; omega) (fun w => w.2)) z.2) (bSt_o hl)) hm2 (onl_sv rfl (onl_tr ho (onl_up k10.1 rfl))) ((zfl_sv_ne (by decide)).trans ((onl_zf k10.1 rfl).trans hp)) a0 a1 a2)
        (fun q1 q8 v11 m9 hm9 k10 q12 => i9_or r4 (i9_sh t0 (by omega)))
        (fun q1 q8 v11 m9 hm9 k10 q12 x18 e19 lo a0 a1 a2 hm2 => by
          have hs9 := mi_0 t0 (by omega) q8
          rw [s1] at hs9
          exact ih x18 _ lo (by omega) (by omega) (by rw [(gi_sv_ne (by decide)).trans (onl_gi k10.1 rfl)]; exact bSt_n e19 (fun z => hs9 z.1) hf) (by rw [gi_eqQ (isQ_of hrO_e hm9) hrO_4]; exact bSt_y rfl e19 t0 (by omega) ⟨hs9, (k10.2.elim (fun w => w.2) (fun w => by exfalso; have w1 := w.1; omega))⟩ hl) hm2 (onl_sv rfl (onl_tr ho (onl_up k10.1 rfl))) ((zfl_sv_ne (by decide)).trans ((onl_zf k10.1 rfl).trans hp)) a0 a1 a2)
        (fun q1 q8 v25 m23 hm23 k24 q26 x27 e28 lo a0 a1 a2 hm2 => by
          have hs9 := mi_1 t0 (by omega) q8
          rw [s1] at hs9
          exact ih x27 _ lo (by omega) (by omega) (by rw [onl_gi k24.1 rfl]; exact bSt_n e28 (fun z => (k24.2.elim (fun w => by exfalso; have w1 := w.1; omega) (fun w => w.2)) z.2) hf) (by rw [onl_gi k24.1 rfl]; exact bSt_n e28 (fun z => z.1 hs9) hl) hm2 (onl_tr ho (onl_up k24.1 rfl)) ((onl_zf k24.1 rfl).trans hp) a0 a1 a2)
        (fun q1 q8 v25 m23 hm23 k24 q26 => i9_or (hrO_r3 hm23) (i9_sh t0 (by omega)))
        (fun q1 q8 v25 m23 hm23 k24 q26 x32 e33 lo a0 a1 a2 hm2 => by
          have hs9 := mi_1 t0 (by omega) q8
          rw [s1] at hs9
          exact ih x32 _ lo (by omega) (by omega) (by rw [gi_eqQ (isQ_of hrO_e hm23) hrO_3, onl_gi k24.1 rfl]; exact bSt_y rfl e33 t0 (by omega) ⟨hs9, (k24.2.elim (fun w => w.2) (fun w => by exfalso; have w1 := w.1; omega))⟩ hf) (by rw [(gi_sv_ne (by decide)).trans (onl_gi k24.1 rfl)]; exact bSt_n e33 (fun z => z.1 hs9) hl) hm2 (onl_sv rfl (onl_tr ho (onl_up k24.1 rfl))) ((zfl_sv_ne (by decide)).trans ((onl_zf k24.1 rfl).trans hp)) a0 a1 a2)
theorem se_twoA {s : Nat} {mr : zM} {tu : Int32} (hW : WQ Q) (hi : isS s) (hSr : tS s Q hu S mr) (hv : wS Q S) (hn : Sn S < 999) (hpr : zfl mr 181 0 = some (.ref 2)) (cnr : (gi mr 2 7).toInt = thN Q) (etu : tu = tnF (tnP Q hu S) (Qt Q).length) : ∀ (f : Nat) (t : Int32) (mem : zM) (lo : List (Nat × Value)), t.toInt + (f : Int) = thN Q → 0 ≤ t.toInt → (∀ u, 0 ≤ u → u < thN Q → gn (ga mem (s + 1)) u = if u < t.toInt then (if cdB (tnP Q hu S u) = true then 0 else min 99 (Sa S u + 1)) else Sa S u) → aTm aT0 mem → frA (s + 1) mr mem → zlg lo 0 = some (.ref 181) → zlg lo 1 = some (.ref s) → zlg lo 2 = some (.int tu) → zlg lo 3 = some (.int t) → yR zpg tX0_settle (d + 8) (98, lo, [], mem) (fun r m => r = none ∧ aTm aT0 m ∧ (frS s mr m ∧ zfl m 181 0 = some (.ref 2) ∧ tS s Q hu (stS Q hu S) m ∧ gi m 181 3 = gi mr 181 3 ∧ gi m 181 4 = gi mr 181 4)) := by
  intro f
  have n9 : thN Q ≤ 9 := by
    have := hW.2.1.1
    unfold thN
    omega
  have t9 := tnF_9 (P := tnP Q hu S) _ hW.2.1.1
  obtain ⟨j1, j2, j3, j4⟩ := id hi
  have hq : ∀ i, 0 ≤ i → i < thN Q → (bt tu i ↔ tnP Q hu S i) := fun i i0 i1 => by
    rw [etu, tnF_b _ hW.2.1.1 i i0 (by omega)]
    exact ⟨fun z => z.2, fun z => ⟨i1, z⟩⟩
  induction f with
  | zero =>
    intro t mem lo ht t0 hA hm hF l0 l1 l2 l3
    have hp : zfl mem 181 0 = some (.ref 2) := (frA_zf hF (by omega)).trans hpr
    have cn : (gi mem 2 7).toInt = thN Q := by rw [frA_gi hF (by omega)]; exact cnr
    have e0 : (gi mem s 0).toInt = Sn S := by rw [frA_gi hF (by omega)]; exact hSr.1.1
    have e1 : gi mem s 1 = Sm S := by rw [frA_gi hF (by omega)]; exact hSr.1.2
    have r1 := hv.2.1.1
    rw [← e1] at r1
    rw [← etu] at t9
    have n0 := hv.1
    exact w_se98A hm l0 l1 l2 l3 hi.1 hi.2.1 hi.2.2.1 hi.2.2.2 hp ⟨t0, by omega⟩ (fun z => by exfalso; omega) (by omega) r1 t9 
        (fun q1 => i9_xr r1 t9)
        (fun q1 x2 e3 x4 e5 hm2 => by
          have g0 : gi (si (si mem s 1 ((gi mem s 1) ^^^ tu)) s 0 x4) s 0 = x4 := gi_eqQ (isQ_sv (isQ_of j1 hm)) sVO_0
          have g1 : gi (si (si mem s 1 ((gi mem s 1) ^^^ tu)) s 0 x4) s 1 = (gi mem s 1) ^^^ tu := (gi_sv_ne (by omega)).trans (gi_eqQ (isQ_of j1 hm) sVO_1)
          have g4 : gi (si (si mem s 1 ((gi mem s 1) ^^^ tu)) s 0 x4) s 4 = gi mr s 4 := (gi_sv_ne (by omega)).trans ((gi_sv_ne (by omega)).trans (frA_gi hF (by omega)))
          have g5 : gi (si (si mem s 1 ((gi mem s 1) ^^^ tu)) s 0 x4) s 5 = gi mr s 5 := (gi_sv_ne (by omega)).trans ((gi_sv_ne (by omega)).trans (frA_gi hF (by omega)))
          refine ⟨rfl, hm2, frS_sv (Or.inl rfl) (frS_sv (Or.inl rfl) (fun k _ k2 _ _ => hF k k2)), (zfl_sv_ne (by omega)).trans ((zfl_sv_ne (by omega)).trans hp), ⟨⟨?_, ?_⟩, ?_, ?_, ?_⟩, (gi_sv_ne (by omega)).trans ((gi_sv_ne (by omega)).trans (frA_gi hF (by omega))), (gi_sv_ne (by omega)).trans ((gi_sv_ne (by omega)).trans (frA_gi hF (by omega)))⟩
          · rw [g0]
            show x4.toInt = Sn S + 1
            omega
          · rw [g1, e1, etu]
            rfl
          · intro u u0 u1
            rw [ga_sv, ga_sv, hA u u0 u1, if_pos (by omega)]
            rfl
          · intro u u0 u1
            rw [ga_sv, ga_sv, frA_ga hF (by omega)]
            exact hSr.2.2.1 u u0 u1
          · rw [g4, g5]
            exact hSr.2.2.2)
        (fun q1 q6 y7 e8 x9 e10 x11 e12 x13 e14 lo a0 a1 a2 a3 hm2 => by exfalso; omega)
        (fun q1 q6 x18 e19 lo a0 a1 a2 a3 hm2 => by exfalso; omega)
  | succ f ih =>
    intro t mem lo ht t0 hA hm hF l0 l1 l2 l3
    have hp : zfl mem 181 0 = some (.ref 2) := (frA_zf hF (by omega)).trans hpr
    have cn : (gi mem 2 7).toInt = thN Q := by rw [frA_gi hF (by omega)]; exact cnr
    have e0 : (gi mem s 0).toInt = Sn S := by rw [frA_gi hF (by omega)]; exact hSr.1.1
    have e1 : gi mem s 1 = Sm S := by rw [frA_gi hF (by omega)]; exact hSr.1.2
    have r1 := hv.2.1.1
    rw [← e1] at r1
    rw [← etu] at t9
    have n0 := hv.1
    have a0 := hA t.toInt t0 (by omega)
    rw [if_neg (by omega)] at a0
    have b0 := hv.2.2.1 t.toInt t0 (by omega)
    exact w_se98A hm l0 l1 l2 l3 hi.1 hi.2.1 hi.2.2.1 hi.2.2.2 hp ⟨t0, by omega⟩ (fun z => by omega) (by omega) r1 t9 
        (fun q1 => i9_xr r1 t9)
        (fun q1 x2 e3 x4 e5 hm2 => by exfalso; omega)
        (fun q1 q6 y7 e8 x9 e10 x11 e12 x13 e14 lo a0' a1 a2 a3 hm2 => by
          refine ih x13 _ lo (by omega) (by omega) (fun u u0 u1 => ?_) hm2 (frA_sa hF) a0' a1 a2 a3
          rw [ga_sa_eq, gn_set rfl t0 (by rw [(ga_ty j2 hm).2.1]; omega) u0]
          by_cases v : u = t.toInt
          · rw [if_pos v, if_pos (show u < x13.toInt by omega), v]
            rw [if_neg (by rw [cdB_f (fun z => mi_0 t0 (by omega) q6 ((hq t.toInt t0 (by omega)).2 z))]; decide), e12, a0]
          · rw [if_neg v, hA u u0 u1]
            by_cases w : u < t.toInt
            · rw [if_pos w, if_pos (show u < x13.toInt by omega)]
            · rw [if_neg w, if_neg (show ¬ u < x13.toInt by omega)])
        (fun q1 q6 x18 e19 lo a0' a1 a2 a3 hm2 => by
          refine ih x18 _ lo (by omega) (by omega) (fun u u0 u1 => ?_) hm2 (frA_sa hF) a0' a1 a2 a3
          rw [ga_sa_eq, gn_set rfl t0 (by rw [(ga_ty j2 hm).2.1]; omega) u0]
          by_cases v : u = t.toInt
          · rw [if_pos v, if_pos (show u < x18.toInt by omega), v]
            rw [if_pos (cdB_t ((hq t.toInt t0 (by omega)).1 (mi_1 t0 (by omega) q6)))]
            rfl
          · rw [if_neg v, hA u u0 u1]
            by_cases w : u < t.toInt
            · rw [if_pos w, if_pos (show u < x18.toInt by omega)]
            · rw [if_neg w, if_neg (show ¬ u < x18.toInt by omega)])
theorem h_seA {s : Nat} (hm : aTm aT0 mem) (hp : zfl mem 181 0 = some (.ref 2)) (hC : cQ 2 3 4 7 8 9 12 13 Q mem) (hW : WQ Q) (hi : isS s) (hS : tS s Q hu S mem) (hv : wS Q S) (hH : wH Q hu) (hn : Sn S < 999) (hd : 9 ≤ d) : yC zpg d 11 [.ref 181, .ref s] mem (fun r m => r = none ∧ aTm aT0 m ∧ (frS s mem m ∧ zfl m 181 0 = some (.ref 2) ∧ tS s Q hu (stS Q hu S) m ∧ bSt (fP Q hu S) (thN Q) (gi m 181 3) ∧ bSt (lP Q hu S) (thN Q) (gi m 181 4))) := by
  obtain ⟨d, rfl⟩ : ∃ q, d = q + 9 := ⟨d - 9, by omega⟩
  refine yC_of (t := tX0_settle) rfl rfl ?_
  refine w_se0A hm rfl rfl ?_
  intro lo a0 a1 a2 hm2
  have ho : onl [181, 182, 183] mem (si (si mem 181 3 0) 181 4 0) := onl_sv rfl (onl_sv rfl onl_rf)
  have hp2 : zfl (si (si mem 181 3 0) 181 4 0) 181 0 = some (.ref 2) := (zfl_sv_ne (by decide)).trans ((zfl_sv_ne (by decide)).trans hp)
  have g3 : gi (si (si mem 181 3 0) 181 4 0) 181 3 = 0 := (gi_sv_ne (by decide)).trans (gi_si_eq hrO_e hrO_3 hm)
  have g4 : gi (si (si mem 181 3 0) 181 4 0) 181 4 = 0 := gi_eqQ (isQ_sv (isQ_of hrO_e hm)) hrO_4
  refine se_oneA hp hC hW hi hS hv hH (fun lo m tu b0 b1 b2 b3 b4 b5 c0 c1 c2 c3 => ?_) (Qt Q).length 0 _ lo (by show (0 : Int) + _ = _; unfold thN; omega) (by decide) (by rw [g3]; exact bSt_z) (by rw [g4]; exact bSt_z) hm2 ho hp2 a0 a1 a2
  have S1 := tS_q hi rfl b1 hS
  have C1 := cQ_qA rfl b1 hC
  refine yR_mono (fun r m' q => ?_) (se_twoA hW hi S1 hv hn b2 (cq_nA C1).1 b5 (Qt Q).length 0 m lo (by show (0 : Int) + _ = _; unfold thN; omega) (by decide) (fun u u0 u1 => by
    rw [if_neg (show ¬ u < (0 : Int32).toInt by have z : (0 : Int32).toInt = 0 := rfl; omega)]
    exact S1.2.1 u u0 u1) b0 (fun _ _ => rfl) c0 c1 c2 c3)
  obtain ⟨q1, q2, q3, q4, q5, q6, q7⟩ := q
  exact ⟨q1, q2, frS_tr (frS_o rfl b1) q3, q4, q5, by rw [q6]; exact b3, by rw [q7]; exact b4⟩
end SEA
section SEB
variable {d : Nat} {mem : zM} {Q : Qd} {S : Sd} {hu : Int → Int}
set_option maxRecDepth 100000 in
theorem w_se0B {d : Nat} {mem : zM} {P : Option Value → zM → Prop} {s : Nat} {lo : List (Nat × Value)} (hm : aTm aT0 mem) (l_0 : zlg lo 0 = some (.ref 181)) (l_1 : zlg lo 1 = some (.ref s)) (h1 : ∀ lo, zlg lo 0 = some (.ref 181) → zlg lo 1 = some (.ref s) → zlg lo 2 = some (.int 0) → aTm aT0 (si (si mem 181 3 0) 181 4 0) → yR zpg tX0_settle (d + 8) (12, lo, [], (si (si mem 181 3 0) 181 4 0)) P) : yR zpg tX0_settle (d + 8) (0, lo, [], mem) P := by
  refine wR_la rfl l_0 ?_
  refine yR_m 1 (fun _ _ _ _ => rfl) ?_
  refine wR_pi rfl hrO_e hrO_3 hm rfl ?_
  have hm_1 : aTm aT0 (si mem 181 3 0) := tm_si hrO_e hrO_3 hm (by decide)
  refine wR_la rfl l_0 ?_
  refine yR_m 1 (fun _ _ _ _ => rfl) ?_
  refine wR_pi rfl hrO_e hrO_4 hm_1 rfl ?_
  have hm_2 : aTm aT0 (si (si mem 181 3 0) 181 4 0) := tm_si hrO_e hrO_4 hm_1 (by decide)
  refine yR_m 1 (fun _ _ _ _ => rfl) ?_
  refine wR_si rfl rfl (fun lo1 e2 f3 => ?_)
  have lo1_0 := f3 0 _ (by decide) (Or.inl rfl) l_0
  have lo1_1 := f3 1 _ (by decide) (Or.inl rfl) l_1
  exact h1 lo1 lo1_0 lo1_1 e2 hm_2

set_option maxRecDepth 100000 in
theorem w_se12B {d : Nat} {mem : zM} {P : Option Value → zM → Prop} {s : Nat} {t : Int32} {lo : List (Nat × Value)} (hm : aTm aT0 mem) (l_0 : zlg lo 0 = some (.ref 181)) (l_1 : zlg lo 1 = some (.ref s)) (l_2 : zlg lo 2 = some (.int t)) (sVO_e : aat aT0 s = some (.inr (8, sVO s))) (aR_s1 : aat aT0 (s + 1) = some (.inl (false, 0, 9, .inl (-2147483648, 2147483647)))) (aR_s2 : aat aT0 (s + 2) = some (.inl (false, 0, 6, .inl (-2147483648, 2147483647)))) (hs : (31 ≤ s ∧ s ≤ 216) ∧ (s < 38 ∨ 192 ≤ s)) {Q : Qd} {S : Sd} {hu : Int → Int} (hp : zfl mem 181 0 = some (.ref 14)) (hC : cQ 14 15 16 19 20 21 24 25 Q mem) (hW : WQ Q) (hS : tS s Q hu S mem) (hv : wS Q S) (hH : wH Q hu) (cn : (gi mem 14 7).toInt = thN Q) (ht : 0 ≤ t.toInt ∧ t.toInt ≤ 9) (r3 : 0 ≤ (gi mem 181 3).toInt ∧ (gi mem 181 3).toInt ≤ 511) (r4 : 0 ≤ (gi mem 181 4).toInt ∧ (gi mem 181 4).toInt ≤ 511) (h1 : (gi mem 14 7).toInt ≤ (t).toInt → ∀ lo, zlg lo 0 = some (.ref 181) → zlg lo 1 = some (.ref s) → zlg lo 2 = some (.int ((gi mem 181 3) ||| (gi mem 181 4))) → zlg lo 3 = some (.int 0) → aTm aT0 mem → yR zpg tX0_settle (d + 8) (98, lo, [], mem) P) (s1 : (t).toInt < (gi mem 14 7).toInt → (((gi mem s 1) >>> (t &&& 31)) &&& 1).toInt = 0 → ∀ (v11 : Int32) (m9 : zM), aTm aT0 m9 → (onl [182, 183] mem m9 ∧ is1 v11 (lsC Q hu S (t).toInt)) → (v11).toInt = 0 → (0 : Int) ≤ ((gi mem 181 4) ||| 0).toInt ∧ ((gi mem 181 4) ||| 0).toInt ≤ 511) (h2 : (t).toInt < (gi mem 14 7).toInt → (((gi mem s 1) >>> (t &&& 31)) &&& 1).toInt = 0 → ∀ (v11 : Int32) (m9 : zM), aTm aT0 m9 → (onl [182, 183] mem m9 ∧ is1 v11 (lsC Q hu S (t).toInt)) → (v11).toInt = 0 → ∀ (x13 : Int32), x13.toInt = ((t).toInt + 1) → ∀ lo, zlg lo 0 = some (.ref 181) → zlg lo 1 = some (.ref s) → zlg lo 2 = some (.int x13) → aTm aT0 (si m9 181 4 ((gi mem 181 4) ||| 0)) → yR zpg tX0_settle (d + 8) (12, lo, [], (si m9 181 4 ((gi mem 181 4) ||| 0))) P) (s2 : (t).toInt < (gi mem 14 7).toInt → (((gi mem s 1) >>> (t &&& 31)) &&& 1).toInt = 0 → ∀ (v11 : Int32) (m9 : zM), aTm aT0 m9 → (onl [182, 183] mem m9 ∧ is1 v11 (lsC Q hu S (t).toInt)) → ¬ (v11).toInt = 0 → (0 : Int) ≤ ((gi mem 181 4) ||| (1 <<< (t &&& 31))).toInt ∧ ((gi mem 181 4) ||| (1 <<< (t &&& 31))).toInt ≤ 511) (h3 : (t).toInt < (gi mem 14 7).toInt → (((gi mem s 1) >>> (t &&& 31)) &&& 1).toInt = 0 → ∀ (v11 : Int32) (m9 : zM), aTm aT0 m9 → (onl [182, 183] mem m9 ∧ is1 v11 (lsC Q hu S (t).toInt)) → ¬ (v11).toInt = 0 → ∀ (x18 : Int32), x18.toInt = ((t).toInt + 1) → ∀ lo, zlg lo 0 = some (.ref 181) → zlg lo 1 = some (.ref s) → zlg lo 2 = some (.int x18) → aTm aT0 (si m9 181 4 ((gi mem 181 4) ||| (1 <<< (t &&& 31)))) → yR zpg tX0_settle (d + 8) (12, lo, [], (si m9 181 4 ((gi mem 181 4) ||| (1 <<< (t &&& 31))))) P) (h4 : (t).toInt < (gi mem 14 7).toInt → ¬ (((gi mem s 1) >>> (t &&& 31)) &&& 1).toInt = 0 → ∀ (v25 : Int32) (m23 : zM), aTm aT0 m23 → (onl [182, 183] mem m23 ∧ is1 v25 (fdC Q hu S (t).toInt)) → (v25).toInt = 0 → ∀ (x27 : Int32), x27.toInt = ((t).toInt + 1) → ∀ lo, zlg lo 0 = some (.ref 181) → zlg lo 1 = some (.ref s) → zlg lo 2 = some (.int x27) → aTm aT0 m23 → yR zpg tX0_settle (d + 8) (12, lo, [], m23) P) (s3 : (t).toInt < (gi mem 14 7).toInt → ¬ (((gi mem s 1) >>> (t &&& 31)) &&& 1).toInt = 0 → ∀ (v25 : Int32) (m23 : zM), aTm aT0 m23 → (onl [182, 183] mem m23 ∧ is1 v25 (fdC Q hu S (t).toInt)) → ¬ (v25).toInt = 0 → (0 : Int) ≤ ((gi m23 181 3) ||| (1 <<< (t &&& 31))).toInt ∧ ((gi m23 181 3) ||| (1 <<< (t &&& 31))).toInt ≤ 511) (h5 : (t).toInt < (gi mem 14 7).toInt → ¬ (((gi mem s 1) >>> (t &&& 31)) &&& 1).toInt = 0 → ∀ (v25 : Int32) (m23 : zM), aTm aT0 m23 → (onl [182, 183] mem m23 ∧ is1 v25 (fdC Q hu S (t).toInt)) → ¬ (v25).toInt = 0 → ∀ (x32 : Int32), x32.toInt = ((t).toInt + 1) → ∀ lo, zlg lo 0 = some (.ref 181) → zlg lo 1 = some (.ref s) → zlg lo 2 = some (.int x32) → aTm aT0 (si m23 181 3 ((gi m23 181 3) ||| (1 <<< (t &&& 31)))) → yR zpg tX0_settle (d + 8) (12, lo, [], (si m23 181 3 ((gi m23 181 3) ||| (1 <<< (t &&& 31))))) P) : yR zpg tX0_settle (d + 8) (12, lo, [], mem) P := by
  refine wR_li rfl l_2 ?_
  refine wR_la rfl l_0 ?_
  refine wR_gq rfl hrO_e hm hp ?_
  refine wR_gi rfl quB_e quB_7 hm rfl ?_
  refine wR_ic_ge rfl (a := (t).toInt) (c := (gi mem 14 7).toInt) rfl rfl (fun q1 => ?_) (fun q1 => ?_)
  ·
    refine wR_la rfl l_0 ?_
    refine wR_gi rfl hrO_e hrO_3 hm rfl ?_
    refine wR_la rfl l_0 ?_
    refine wR_gi rfl hrO_e hrO_4 hm rfl ?_
    refine yR_m 1 (fun _ _ _ _ => rfl) ?_
    refine wR_si rfl rfl (fun lo2 e3 f4 => ?_)
    have lo2_0 := f4 0 _ (by decide) (Or.inl rfl) l_0
    have lo2_1 := f4 1 _ (by decide) (Or.inl rfl) l_1
    refine yR_m 1 (fun _ _ _ _ => rfl) ?_
    refine wR_si rfl rfl (fun lo5 e6 f7 => ?_)
    have lo5_2 := f7 2 _ (by decide) (Or.inl rfl) e3
    have lo5_0 := f7 0 _ (by decide) (Or.inl rfl) lo2_0
    have lo5_1 := f7 1 _ (by decide) (Or.inl rfl) lo2_1
    exact h1 q1 lo5 lo5_0 lo5_1 lo5_2 e6 hm
  ·
    refine wR_la rfl l_1 ?_
    refine wR_li rfl l_2 ?_
    refine wR_iv rfl rfl sVO_e hm rfl rfl rfl rfl ?_
    show yR zpg tX8_isMissing (d + 7) (0, [(0, .ref s), (1, .int t)], [], mem) _
    refine yR_m 1 (fun _ _ _ _ => rfl) ?_
    refine wR_gi rfl sVO_e sVO_1 hm rfl ?_
    refine yR_m 4 (fun _ _ _ _ => rfl) ?_
    refine wR_if_eq rfl (a := (((gi mem s 1) >>> (t &&& 31)) &&& 1).toInt) rfl (fun q8 => ?_) (fun q8 => ?_)
    ·
      refine yR_m 1 (fun _ _ _ _ => rfl) ?_
      refine yR_rz rfl ⟨by decide, by decide⟩ ?_
      show yR zpg tX0_settle (d + 8) (28, lo, [.int 0], mem) _
      refine wR_if_ne rfl (a := 0) rfl (fun q => by exfalso; omega) (fun _ => ?_)
      refine wR_la rfl l_0 ?_
      refine yR_m 1 (fun _ _ _ _ => rfl) ?_
      refine wR_gi rfl hrO_e hrO_4 hm rfl ?_
      refine wR_la rfl l_0 ?_
      refine wR_la rfl l_1 ?_
      refine wR_li rfl l_2 ?_
      refine wR_cv rfl rfl hrO_e hm rfl (h_lsB (Q := Q) (S := S) (hu := hu) hm hp hC hW ⟨sVO_e, aR_s1, aR_s2, hs⟩ hS hv hH (by omega) (by omega) (by omega)) ?_
      rintro _ m9 ⟨v11, rfl, hm9, k10⟩
      show yR zpg tX0_settle (d + 8) (42, lo, [.int v11, .int (gi mem 181 4), .ref 181], m9) _
      refine wR_if_eq rfl (a := (v11).toInt) rfl (fun q12 => ?_) (fun q12 => ?_)
      ·
        refine yR_m 2 (fun _ _ _ _ => rfl) ?_
        refine wR_pi rfl hrO_e hrO_4 hm9 rfl ?_
        have hm_1 : aTm aT0 (si m9 181 4 ((gi mem 181 4) ||| 0)) := tm_si hrO_e hrO_4 hm9 (s1 q1 q8 v11 m9 hm9 k10 q12)
        refine yR_m 1 (fun _ _ _ _ => rfl) ?_
        refine wN_in (a := (t).toInt) (b := 1) rfl rfl l_2 rfl rfl (by omega) (fun x13 e14 => fun lo15 e16 f17 => ?_)
        have lo15_0 := f17 0 _ (by decide) (Or.inl rfl) l_0
        have lo15_1 := f17 1 _ (by decide) (Or.inl rfl) l_1
        exact yR_m 1 (fun _ _ _ _ => rfl) (h2 q1 q8 v11 m9 hm9 k10 q12 x13 e14 lo15 lo15_0 lo15_1 e16 hm_1)
      ·
        refine yR_m 1 (fun _ _ _ _ => rfl) ?_
        refine wR_li rfl l_2 ?_
        refine yR_m 3 (fun _ _ _ _ => rfl) ?_
        refine wR_pi rfl hrO_e hrO_4 hm9 rfl ?_
        have hm_2 : aTm aT0 (si m9 181 4 ((gi mem 181 4) ||| (1 <<< (t &&& 31)))) := tm_si hrO_e hrO_4 hm9 (s2 q1 q8 v11 m9 hm9 k10 q12)
        refine yR_m 1 (fun _ _ _ _ => rfl) ?_
        refine wN_in (a := (t).toInt) (b := 1) rfl rfl l_2 rfl rfl (by omega) (fun x18 e19 => fun lo20 e21 f22 => ?_)
        have lo20_0 := f22 0 _ (by decide) (Or.inl rfl) l_0
        have lo20_1 := f22 1 _ (by decide) (Or.inl rfl) l_1
        exact yR_m 1 (fun _ _ _ _ => rfl) (h3 q1 q8 v11 m9 hm9 k10 q12 x18 e19 lo20 lo20_0 lo20_1 e21 hm_2)
    ·
      refine yR_m 2 (fun _ _ _ _ => rfl) ?_
      refine yR_rz rfl ⟨by decide, by decide⟩ ?_
      show yR zpg tX0_settle (d + 8) (28, lo, [.int 1], mem) _
      refine wR_if_ne rfl (a := 1) rfl (fun _ => ?_) (fun q => by exfalso; omega)
      refine wR_la rfl l_0 ?_
      refine wR_la rfl l_1 ?_
      refine wR_li rfl l_2 ?_
      refine wR_cv rfl rfl hrO_e hm rfl (h_fdB (Q := Q) (S := S) (hu := hu) hm hp hC hW ⟨sVO_e, aR_s1, aR_s2, hs⟩ hS hv hH (by omega) (by omega) (by omega)) ?_
      rintro _ m23 ⟨v25, rfl, hm23, k24⟩
      show yR zpg tX0_settle (d + 8) (65, lo, [.int v25], m23) _
      refine wR_if_eq rfl (a := (v25).toInt) rfl (fun q26 => ?_) (fun q26 => ?_)
      ·
        refine wN_in (a := (t).toInt) (b := 1) rfl rfl l_2 rfl rfl (by omega) (fun x27 e28 => fun lo29 e30 f31 => ?_)
        have lo29_0 := f31 0 _ (by decide) (Or.inl rfl) l_0
        have lo29_1 := f31 1 _ (by decide) (Or.inl rfl) l_1
        exact yR_m 1 (fun _ _ _ _ => rfl) (h4 q1 q8 v25 m23 hm23 k24 q26 x27 e28 lo29 lo29_0 lo29_1 e30 hm23)
      ·
        refine wR_la rfl l_0 ?_
        refine yR_m 1 (fun _ _ _ _ => rfl) ?_
        refine wR_gi rfl hrO_e hrO_3 hm23 rfl ?_
        refine yR_m 1 (fun _ _ _ _ => rfl) ?_
        refine wR_li rfl l_2 ?_
        refine yR_m 2 (fun _ _ _ _ => rfl) ?_
        refine wR_pi rfl hrO_e hrO_3 hm23 rfl ?_
        have hm_3 : aTm aT0 (si m23 181 3 ((gi m23 181 3) ||| (1 <<< (t &&& 31)))) := tm_si hrO_e hrO_3 hm23 (s3 q1 q8 v25 m23 hm23 k24 q26)
        refine wN_in (a := (t).toInt) (b := 1) rfl rfl l_2 rfl rfl (by omega) (fun x32 e33 => fun lo34 e35 f36 => ?_)
        have lo34_0 := f36 0 _ (by decide) (Or.inl rfl) l_0
        have lo34_1 := f36 1 _ (by decide) (Or.inl rfl) l_1
        exact yR_m 1 (fun _ _ _ _ => rfl) (h5 q1 q8 v25 m23 hm23 k24 q26 x32 e33 lo34 lo34_0 lo34_1 e35 hm_3)

set_option maxRecDepth 100000 in
theorem w_se98B {d : Nat} {mem : zM} {P : Option Value → zM → Prop} {s : Nat} {tu t : Int32} {lo : List (Nat × Value)} (hm : aTm aT0 mem) (l_0 : zlg lo 0 = some (.ref 181)) (l_1 : zlg lo 1 = some (.ref s)) (l_2 : zlg lo 2 = some (.int tu)) (l_3 : zlg lo 3 = some (.int t)) (sVO_e : aat aT0 s = some (.inr (8, sVO s))) (aR_s1 : aat aT0 (s + 1) = some (.inl (false, 0, 9, .inl (-2147483648, 2147483647)))) (aR_s2 : aat aT0 (s + 2) = some (.inl (false, 0, 6, .inl (-2147483648, 2147483647)))) (hs : (31 ≤ s ∧ s ≤ 216) ∧ (s < 38 ∨ 192 ≤ s)) (hp : zfl mem 181 0 = some (.ref 14)) (ht : 0 ≤ t.toInt ∧ t.toInt ≤ 9) (hA : (t).toInt < (gi mem 14 7).toInt → 0 ≤ gn (ga mem (s + 1)) t.toInt ∧ gn (ga mem (s + 1)) t.toInt ≤ 99) (h9 : 0 ≤ (gi mem s 0).toInt ∧ (gi mem s 0).toInt ≤ 999) (r1 : 0 ≤ (gi mem s 1).toInt ∧ (gi mem s 1).toInt ≤ 511) (tu9 : 0 ≤ tu.toInt ∧ tu.toInt ≤ 511) (s1 : (gi mem 14 7).toInt ≤ (t).toInt → (0 : Int) ≤ ((gi mem s 1) ^^^ tu).toInt ∧ ((gi mem s 1) ^^^ tu).toInt ≤ 511) (h1 : (gi mem 14 7).toInt ≤ (t).toInt → ∀ (x2 : Int32), x2.toInt = ((gi mem s 0).toInt + 1) → ∀ (x4 : Int32), x4.toInt = (min 999 ((gi mem s 0).toInt + 1)) → aTm aT0 (si (si mem s 1 ((gi mem s 1) ^^^ tu)) s 0 x4) → P none (si (si mem s 1 ((gi mem s 1) ^^^ tu)) s 0 x4)) (h2 : (t).toInt < (gi mem 14 7).toInt → ((tu >>> (t &&& 31)) &&& 1).toInt = 0 → ∀ (y7 : Int32), y7.toInt = (gn (ga mem (s + 1)) (t).toInt) → ∀ (x9 : Int32), x9.toInt = ((gn (ga mem (s + 1)) (t).toInt) + 1) → ∀ (x11 : Int32), x11.toInt = (min 99 ((gn (ga mem (s + 1)) (t).toInt) + 1)) → ∀ (x13 : Int32), x13.toInt = ((t).toInt + 1) → ∀ lo, zlg lo 0 = some (.ref 181) → zlg lo 1 = some (.ref s) → zlg lo 2 = some (.int tu) → zlg lo 3 = some (.int x13) → aTm aT0 (sx mem (s + 1) t x11) → yR zpg tX0_settle (d + 8) (98, lo, [], (sx mem (s + 1) t x11)) P) (h3 : (t).toInt < (gi mem 14 7).toInt → ¬ ((tu >>> (t &&& 31)) &&& 1).toInt = 0 → ∀ (x18 : Int32), x18.toInt = ((t).toInt + 1) → ∀ lo, zlg lo 0 = some (.ref 181) → zlg lo 1 = some (.ref s) → zlg lo 2 = some (.int tu) → zlg lo 3 = some (.int x18) → aTm aT0 (sx mem (s + 1) t 0) → yR zpg tX0_settle (d + 8) (98, lo, [], (sx mem (s + 1) t 0)) P) : yR zpg tX0_settle (d + 8) (98, lo, [], mem) P := by
  have r7 := quB_r7 hm
  refine wR_li rfl l_3 ?_
  refine wR_la rfl l_0 ?_
  refine wR_gq rfl hrO_e hm hp ?_
  refine wR_gi rfl quB_e quB_7 hm rfl ?_
  refine wR_ic_ge rfl (a := (t).toInt) (c := (gi mem 14 7).toInt) rfl rfl (fun q1 => ?_) (fun q1 => ?_)
  ·
    refine wR_la rfl l_1 ?_
    refine yR_m 1 (fun _ _ _ _ => rfl) ?_
    refine wR_gi rfl sVO_e sVO_1 hm rfl ?_
    refine wR_li rfl l_2 ?_
    refine yR_m 1 (fun _ _ _ _ => rfl) ?_
    refine wR_pi rfl sVO_e sVO_1 hm rfl ?_
    have hm_1 : aTm aT0 (si mem s 1 ((gi mem s 1) ^^^ tu)) := tm_si sVO_e sVO_1 hm (s1 q1)
    refine wR_la rfl l_1 ?_
    refine yR_m 1 (fun _ _ _ _ => rfl) ?_
    refine wR_la rfl l_1 ?_
    refine wR_gi rfl sVO_e sVO_0 hm_1 (gi_sv_ne (by first | decide | omega)) ?_
    refine yR_m 1 (fun _ _ _ _ => rfl) ?_
    refine wN_add (a := (gi mem s 0).toInt) (b := 1) rfl rfl rfl (by omega) (fun x2 e3 => ?_)
    refine wN_mi (a := 999) (b := ((gi mem s 0).toInt + 1)) rfl rfl e3 rfl (fun x4 e5 => ?_)
    refine wR_pi rfl sVO_e sVO_0 hm_1 rfl ?_
    have hm_2 : aTm aT0 (si (si mem s 1 ((gi mem s 1) ^^^ tu)) s 0 x4) := tm_si sVO_e sVO_0 hm_1 (i32_b _)
    exact yR_rv rfl (h1 q1 x2 e3 x4 e5 hm_2)
  ·
    refine wR_la rfl l_1 ?_
    refine wR_gr rfl sVO_e sVO_2 hm ?_
    refine wR_li rfl l_3 ?_
    refine wR_li rfl l_2 ?_
    refine wR_li rfl l_3 ?_
    refine yR_m 3 (fun _ _ _ _ => rfl) ?_
    refine wR_if_eq rfl (a := ((tu >>> (t &&& 31)) &&& 1).toInt) rfl (fun q6 => ?_) (fun q6 => ?_)
    ·
      refine yR_m 1 (fun _ _ _ _ => rfl) ?_
      refine wR_la rfl l_1 ?_
      refine wR_gr rfl sVO_e sVO_2 hm ?_
      refine wR_li rfl l_3 ?_
      refine wN_al (a := (t).toInt) rfl aR_s1 hm rfl rfl (by omega) (fun y7 e8 => ?_)
      refine yR_m 1 (fun _ _ _ _ => rfl) ?_
      refine wN_add (a := (gn (ga mem (s + 1)) (t).toInt)) (b := 1) rfl e8 rfl (by omega) (fun x9 e10 => ?_)
      refine wN_mi (a := 99) (b := ((gn (ga mem (s + 1)) (t).toInt) + 1)) rfl rfl e10 rfl (fun x11 e12 => ?_)
      refine wN_as (a := (t).toInt) rfl aR_s1 hm rfl (by omega) ?_
      have hm_3 : aTm aT0 (sx mem (s + 1) t x11) := tm_sa aR_s1 hm (i32_b _)
      refine wN_in (a := (t).toInt) (b := 1) rfl rfl l_3 rfl rfl (by omega) (fun x13 e14 => fun lo15 e16 f17 => ?_)
      have lo15_0 := f17 0 _ (by decide) (Or.inl rfl) l_0
      have lo15_1 := f17 1 _ (by decide) (Or.inl rfl) l_1
      have lo15_2 := f17 2 _ (by decide) (Or.inl rfl) l_2
      exact yR_m 1 (fun _ _ _ _ => rfl) (h2 q1 q6 y7 e8 x9 e10 x11 e12 x13 e14 lo15 lo15_0 lo15_1 lo15_2 e16 hm_3)
    ·
      refine yR_m 2 (fun _ _ _ _ => rfl) ?_
      refine wN_as (a := (t).toInt) rfl aR_s1 hm rfl (by omega) ?_
      have hm_4 : aTm aT0 (sx mem (s + 1) t 0) := tm_sa aR_s1 hm (i32_b _)
      refine wN_in (a := (t).toInt) (b := 1) rfl rfl l_3 rfl rfl (by omega) (fun x18 e19 => fun lo20 e21 f22 => ?_)
      have lo20_0 := f22 0 _ (by decide) (Or.inl rfl) l_0
      have lo20_1 := f22 1 _ (by decide) (Or.inl rfl) l_1
      have lo20_2 := f22 2 _ (by decide) (Or.inl rfl) l_2
      exact yR_m 1 (fun _ _ _ _ => rfl) (h3 q1 q6 x18 e19 lo20 lo20_0 lo20_1 lo20_2 e21 hm_4)

theorem se_oneB {s : Nat} {mr : zM} {P : Option Value → zM → Prop} (hpr : zfl mr 181 0 = some (.ref 14)) (hCr : cQ 14 15 16 19 20 21 24 25 Q mr) (hW : WQ Q) (hi : isS s) (hSr : tS s Q hu S mr) (hv : wS Q S) (hH : wH Q hu) (out : ∀ (lo : List (Nat × Value)) (m : zM) (tu : Int32), aTm aT0 m → onl [181, 182, 183] mr m → zfl m 181 0 = some (.ref 14) → bSt (fP Q hu S) (thN Q) (gi m 181 3) → bSt (lP Q hu S) (thN Q) (gi m 181 4) → tu = tnF (tnP Q hu S) (Qt Q).length → zlg lo 0 = some (.ref 181) → zlg lo 1 = some (.ref s) → zlg lo 2 = some (.int tu) → zlg lo 3 = some (.int 0) → yR zpg tX0_settle (d + 8) (98, lo, [], m) P) : ∀ (f : Nat) (t : Int32) (mem : zM) (lo : List (Nat × Value)), t.toInt + (f : Int) = thN Q → 0 ≤ t.toInt → bSt (fP Q hu S) t.toInt (gi mem 181 3) → bSt (lP Q hu S) t.toInt (gi mem 181 4) → aTm aT0 mem → onl [181, 182, 183] mr mem → zfl mem 181 0 = some (.ref 14) → zlg lo 0 = some (.ref 181) → zlg lo 1 = some (.ref s) → zlg lo 2 = some (.int t) → yR zpg tX0_settle (d + 8) (12, lo, [], mem) P := by
  intro f
  have n9 : thN Q ≤ 9 := by
    have := hW.2.1.1
    unfold thN
    omega
  induction f with
  | zero =>
    intro t mem lo ht t0 hf hl hm ho hp l0 l1 l2
    have hC := cQ_qB rfl ho hCr
    have hS := tS_q hi rfl ho hSr
    have cn := (cq_nB hC).1
    have tn : t.toInt = thN Q := by omega
    rw [tn] at hf hl
    have r3 := hrO_r3 hm
    have r4 := hrO_r4 hm
    have eq9 := bSt_tn hW r3 r4 hf hl
    exact w_se12B hm l0 l1 l2 hi.1 hi.2.1 hi.2.2.1 hi.2.2.2 hp hC hW hS hv hH cn ⟨t0, by omega⟩ r3 r4 
        (fun q1 lo a0 a1 a2 a3 hm2 => out lo mem _ hm ho hp hf hl eq9 a0 a1 a2 a3)
        (fun q1 q8 v11 m9 hm9 k10 q12 => by exfalso; omega)
        (fun q1 q8 v11 m9 hm9 k10 q12 x13 e14 lo a0 a1 a2 hm2 => by exfalso; omega)
        (fun q1 q8 v11 m9 hm9 k10 q12 => by exfalso; omega)
        (fun q1 q8 v11 m9 hm9 k10 q12 x18 e19 lo a0 a1 a2 hm2 => by exfalso; omega)
        (fun q1 q8 v25 m23 hm23 k24 q26 x27 e28 lo a0 a1 a2 hm2 => by exfalso; omega)
        (fun q1 q8 v25 m23 hm23 k24 q26 => by exfalso; omega)
        (fun q1 q8 v25 m23 hm23 k24 q26 x32 e33 lo a0 a1 a2 hm2 => by exfalso; omega)
  | succ f ih =>
    intro t mem lo ht t0 hf hl hm ho hp l0 l1 l2
    have hC := cQ_qB rfl ho hCr
    have hS := tS_q hi rfl ho hSr
    have cn := (cq_nB hC).1
    have s1 : gi mem s 1 = Sm S := hS.1.2
    have r3 := hrO_r3 hm
    have r4 := hrO_r4 hm
    exact w_se12B hm l0 l1 l2 hi.1 hi.2.1 hi.2.2.1 hi.2.2.2 hp hC hW hS hv hH cn ⟨t0, by omega⟩ r3 r4 
        (fun q1 lo a0 a1 a2 a3 hm2 => by exfalso; omega)
        (fun q1 q8 v11 m9 hm9 k10 q12 => i9_or r4 (by decide))
        (fun q1 q8 v11 m9 hm9 k10 q12 x13 e14 lo a0 a1 a2 hm2 => by
          have hs9 := mi_0 t0 (by omega) q8
          rw [s1] at hs9
          exact ih x13 _ lo (by omega) (by omega) (by rw [(gi_sv_ne (by decide)).trans (onl_gi k10.1 rfl)]; exact bSt_n e14 (fun z => hs9 z.1) hf) (by rw [gi_eqQ (isQ_of hrO_e hm9) hrO_4]; exact bSt_n e14 (fun z => (k10.2.elim (fun w => by exfalso; have w1 := w.1; omega) (fun w => w.2)) z.2) (bSt_o hl)) hm2 (onl_sv rfl (onl_tr ho (onl_up k10.1 rfl))) ((zfl_sv_ne (by decide)).trans ((onl_zf k10.1 rfl).trans hp)) a0 a1 a2)
        (fun q1 q8 v11 m9 hm9 k10 q12 => i9_or r4 (i9_sh t0 (by omega)))
        (fun q1 q8 v11 m9 hm9 k10 q12 x18 e19 lo a0 a1 a2 hm2 => by
          have hs9 := mi_0 t0 (by omega) q8
          rw [s1] at hs9
          exact ih x18 _ lo (by omega) (by omega) (by rw [(gi_sv_ne (by decide)).trans (onl_gi k10.1 rfl)]; exact bSt_n e19 (fun z => hs9 z.1) hf) (by rw [gi_eqQ (isQ_of hrO_e hm9) hrO_4]; exact bSt_y rfl e19 t0 (by omega) ⟨hs9, (k10.2.elim (fun w => w.2) (fun w => by exfalso; have w1 := w.1; omega))⟩ hl) hm2 (onl_sv rfl (onl_tr ho (onl_up k10.1 rfl))) ((zfl_sv_ne (by decide)).trans ((onl_zf k10.1 rfl).trans hp)) a0 a1 a2)
        (fun q1 q8 v25 m23 hm23 k24 q26 x27 e28 lo a0 a1 a2 hm2 => by
          have hs9 := mi_1 t0 (by omega) q8
          rw [s1] at hs9
          exact ih x27 _ lo (by omega) (by omega) (by rw [onl_gi k24.1 rfl]; exact bSt_n e28 (fun z => (k24.2.elim (fun w => by exfalso; have w1 := w.1; omega) (fun w => w.2)) z.2) hf) (by rw [onl_gi k24.1 rfl]; exact bSt_n e28 (fun z => z.1 hs9) hl) hm2 (onl_tr ho (onl_up k24.1 rfl)) ((onl_zf k24.1 rfl).trans hp) a0 a1 a2)
        (fun q1 q8 v25 m23 hm23 k24 q26 => i9_or (hrO_r3 hm23) (i9_sh t0 (by omega)))
        (fun q1 q8 v25 m23 hm23 k24 q26 x32 e33 lo a0 a1 a2 hm2 => by
          have hs9 := mi_1 t0 (by omega) q8
          rw [s1] at hs9
          exact ih x32 _ lo (by omega) (by omega) (by rw [gi_eqQ (isQ_of hrO_e hm23) hrO_3, onl_gi k24.1 rfl]; exact bSt_y rfl e33 t0 (by omega) ⟨hs9, (k24.2.elim (fun w => w.2) (fun w => by exfalso; have w1 := w.1; omega))⟩ hf) (by rw [(gi_sv_ne (by decide)).trans (onl_gi k24.1 rfl)]; exact bSt_n e33 (fun z => z.1 hs9) hl) hm2 (onl_sv rfl (onl_tr ho (onl_up k24.1 rfl))) ((zfl_sv_ne (by decide)).trans ((onl_zf k24.1 rfl).trans hp)) a0 a1 a2)
theorem se_twoB {s : Nat} {mr : zM} {tu : Int32} (hW : WQ Q) (hi : isS s) (hSr : tS s Q hu S mr) (hv : wS Q S) (hn : Sn S < 999) (hpr : zfl mr 181 0 = some (.ref 14)) (cnr : (gi mr 14 7).toInt = thN Q) (etu : tu = tnF (tnP Q hu S) (Qt Q).length) : ∀ (f : Nat) (t : Int32) (mem : zM) (lo : List (Nat × Value)), t.toInt + (f : Int) = thN Q → 0 ≤ t.toInt → (∀ u, 0 ≤ u → u < thN Q → gn (ga mem (s + 1)) u = if u < t.toInt then (if cdB (tnP Q hu S u) = true then 0 else min 99 (Sa S u + 1)) else Sa S u) → aTm aT0 mem → frA (s + 1) mr mem → zlg lo 0 = some (.ref 181) → zlg lo 1 = some (.ref s) → zlg lo 2 = some (.int tu) → zlg lo 3 = some (.int t) → yR zpg tX0_settle (d + 8) (98, lo, [], mem) (fun r m => r = none ∧ aTm aT0 m ∧ (frS s mr m ∧ zfl m 181 0 = some (.ref 14) ∧ tS s Q hu (stS Q hu S) m ∧ gi m 181 3 = gi mr 181 3 ∧ gi m 181 4 = gi mr 181 4)) := by
  intro f
  have n9 : thN Q ≤ 9 := by
    have := hW.2.1.1
    unfold thN
    omega
  have t9 := tnF_9 (P := tnP Q hu S) _ hW.2.1.1
  obtain ⟨j1, j2, j3, j4⟩ := id hi
  have hq : ∀ i, 0 ≤ i → i < thN Q → (bt tu i ↔ tnP Q hu S i) := fun i i0 i1 => by
    rw [etu, tnF_b _ hW.2.1.1 i i0 (by omega)]
    exact ⟨fun z => z.2, fun z => ⟨i1, z⟩⟩
  induction f with
  | zero =>
    intro t mem lo ht t0 hA hm hF l0 l1 l2 l3
    have hp : zfl mem 181 0 = some (.ref 14) := (frA_zf hF (by omega)).trans hpr
    have cn : (gi mem 14 7).toInt = thN Q := by rw [frA_gi hF (by omega)]; exact cnr
    have e0 : (gi mem s 0).toInt = Sn S := by rw [frA_gi hF (by omega)]; exact hSr.1.1
    have e1 : gi mem s 1 = Sm S := by rw [frA_gi hF (by omega)]; exact hSr.1.2
    have r1 := hv.2.1.1
    rw [← e1] at r1
    rw [← etu] at t9
    have n0 := hv.1
    exact w_se98B hm l0 l1 l2 l3 hi.1 hi.2.1 hi.2.2.1 hi.2.2.2 hp ⟨t0, by omega⟩ (fun z => by exfalso; omega) (by omega) r1 t9 
        (fun q1 => i9_xr r1 t9)
        (fun q1 x2 e3 x4 e5 hm2 => by
          have g0 : gi (si (si mem s 1 ((gi mem s 1) ^^^ tu)) s 0 x4) s 0 = x4 := gi_eqQ (isQ_sv (isQ_of j1 hm)) sVO_0
          have g1 : gi (si (si mem s 1 ((gi mem s 1) ^^^ tu)) s 0 x4) s 1 = (gi mem s 1) ^^^ tu := (gi_sv_ne (by omega)).trans (gi_eqQ (isQ_of j1 hm) sVO_1)
          have g4 : gi (si (si mem s 1 ((gi mem s 1) ^^^ tu)) s 0 x4) s 4 = gi mr s 4 := (gi_sv_ne (by omega)).trans ((gi_sv_ne (by omega)).trans (frA_gi hF (by omega)))
          have g5 : gi (si (si mem s 1 ((gi mem s 1) ^^^ tu)) s 0 x4) s 5 = gi mr s 5 := (gi_sv_ne (by omega)).trans ((gi_sv_ne (by omega)).trans (frA_gi hF (by omega)))
          refine ⟨rfl, hm2, frS_sv (Or.inl rfl) (frS_sv (Or.inl rfl) (fun k _ k2 _ _ => hF k k2)), (zfl_sv_ne (by omega)).trans ((zfl_sv_ne (by omega)).trans hp), ⟨⟨?_, ?_⟩, ?_, ?_, ?_⟩, (gi_sv_ne (by omega)).trans ((gi_sv_ne (by omega)).trans (frA_gi hF (by omega))), (gi_sv_ne (by omega)).trans ((gi_sv_ne (by omega)).trans (frA_gi hF (by omega)))⟩
          · rw [g0]
            show x4.toInt = Sn S + 1
            omega
          · rw [g1, e1, etu]
            rfl
          · intro u u0 u1
            rw [ga_sv, ga_sv, hA u u0 u1, if_pos (by omega)]
            rfl
          · intro u u0 u1
            rw [ga_sv, ga_sv, frA_ga hF (by omega)]
            exact hSr.2.2.1 u u0 u1
          · rw [g4, g5]
            exact hSr.2.2.2)
        (fun q1 q6 y7 e8 x9 e10 x11 e12 x13 e14 lo a0 a1 a2 a3 hm2 => by exfalso; omega)
        (fun q1 q6 x18 e19 lo a0 a1 a2 a3 hm2 => by exfalso; omega)
  | succ f ih =>
    intro t mem lo ht t0 hA hm hF l0 l1 l2 l3
    have hp : zfl mem 181 0 = some (.ref 14) := (frA_zf hF (by omega)).trans hpr
    have cn : (gi mem 14 7).toInt = thN Q := by rw [frA_gi hF (by omega)]; exact cnr
    have e0 : (gi mem s 0).toInt = Sn S := by rw [frA_gi hF (by omega)]; exact hSr.1.1
    have e1 : gi mem s 1 = Sm S := by rw [frA_gi hF (by omega)]; exact hSr.1.2
    have r1 := hv.2.1.1
    rw [← e1] at r1
    rw [← etu] at t9
    have n0 := hv.1
    have a0 := hA t.toInt t0 (by omega)
    rw [if_neg (by omega)] at a0
    have b0 := hv.2.2.1 t.toInt t0 (by omega)
    exact w_se98B hm l0 l1 l2 l3 hi.1 hi.2.1 hi.2.2.1 hi.2.2.2 hp ⟨t0, by omega⟩ (fun z => by omega) (by omega) r1 t9 
        (fun q1 => i9_xr r1 t9)
        (fun q1 x2 e3 x4 e5 hm2 => by exfalso; omega)
        (fun q1 q6 y7 e8 x9 e10 x11 e12 x13 e14 lo a0' a1 a2 a3 hm2 => by
          refine ih x13 _ lo (by omega) (by omega) (fun u u0 u1 => ?_) hm2 (frA_sa hF) a0' a1 a2 a3
          rw [ga_sa_eq, gn_set rfl t0 (by rw [(ga_ty j2 hm).2.1]; omega) u0]
          by_cases v : u = t.toInt
          · rw [if_pos v, if_pos (show u < x13.toInt by omega), v]
            rw [if_neg (by rw [cdB_f (fun z => mi_0 t0 (by omega) q6 ((hq t.toInt t0 (by omega)).2 z))]; decide), e12, a0]
          · rw [if_neg v, hA u u0 u1]
            by_cases w : u < t.toInt
            · rw [if_pos w, if_pos (show u < x13.toInt by omega)]
            · rw [if_neg w, if_neg (show ¬ u < x13.toInt by omega)])
        (fun q1 q6 x18 e19 lo a0' a1 a2 a3 hm2 => by
          refine ih x18 _ lo (by omega) (by omega) (fun u u0 u1 => ?_) hm2 (frA_sa hF) a0' a1 a2 a3
          rw [ga_sa_eq, gn_set rfl t0 (by rw [(ga_ty j2 hm).2.1]; omega) u0]
          by_cases v : u = t.toInt
          · rw [if_pos v, if_pos (show u < x18.toInt by omega), v]
            rw [if_pos (cdB_t ((hq t.toInt t0 (by omega)).1 (mi_1 t0 (by omega) q6)))]
            rfl
          · rw [if_neg v, hA u u0 u1]
            by_cases w : u < t.toInt
            · rw [if_pos w, if_pos (show u < x18.toInt by omega)]
            · rw [if_neg w, if_neg (show ¬ u < x18.toInt by omega)])
theorem h_seB {s : Nat} (hm : aTm aT0 mem) (hp : zfl mem 181 0 = some (.ref 14)) (hC : cQ 14 15 16 19 20 21 24 25 Q mem) (hW : WQ Q) (hi : isS s) (hS : tS s Q hu S mem) (hv : wS Q S) (hH : wH Q hu) (hn : Sn S < 999) (hd : 9 ≤ d) : yC zpg d 11 [.ref 181, .ref s] mem (fun r m => r = none ∧ aTm aT0 m ∧ (frS s mem m ∧ zfl m 181 0 = some (.ref 14) ∧ tS s Q hu (stS Q hu S) m ∧ bSt (fP Q hu S) (thN Q) (gi m 181 3) ∧ bSt (lP Q hu S) (thN Q) (gi m 181 4))) := by
  obtain ⟨d, rfl⟩ : ∃ q, d = q + 9 := ⟨d - 9, by omega⟩
  refine yC_of (t := tX0_settle) rfl rfl ?_
  refine w_se0B hm rfl rfl ?_
  intro lo a0 a1 a2 hm2
  have ho : onl [181, 182, 183] mem (si (si mem 181 3 0) 181 4 0) := onl_sv rfl (onl_sv rfl onl_rf)
  have hp2 : zfl (si (si mem 181 3 0) 181 4 0) 181 0 = some (.ref 14) := (zfl_sv_ne (by decide)).trans ((zfl_sv_ne (by decide)).trans hp)
  have g3 : gi (si (si mem 181 3 0) 181 4 0) 181 3 = 0 := (gi_sv_ne (by decide)).trans (gi_si_eq hrO_e hrO_3 hm)
  have g4 : gi (si (si mem 181 3 0) 181 4 0) 181 4 = 0 := gi_eqQ (isQ_sv (isQ_of hrO_e hm)) hrO_4
  refine se_oneB hp hC hW hi hS hv hH (fun lo m tu b0 b1 b2 b3 b4 b5 c0 c1 c2 c3 => ?_) (Qt Q).length 0 _ lo (by show (0 : Int) + _ = _; unfold thN; omega) (by decide) (by rw [g3]; exact bSt_z) (by rw [g4]; exact bSt_z) hm2 ho hp2 a0 a1 a2
  have S1 := tS_q hi rfl b1 hS
  have C1 := cQ_qB rfl b1 hC
  refine yR_mono (fun r m' q => ?_) (se_twoB hW hi S1 hv hn b2 (cq_nB C1).1 b5 (Qt Q).length 0 m lo (by show (0 : Int) + _ = _; unfold thN; omega) (by decide) (fun u u0 u1 => by
    rw [if_neg (show ¬ u < (0 : Int32).toInt by have z : (0 : Int32).toInt = 0 := rfl; omega)]
    exact S1.2.1 u u0 u1) b0 (fun _ _ => rfl) c0 c1 c2 c3)
  obtain ⟨q1, q2, q3, q4, q5, q6, q7⟩ := q
  exact ⟨q1, q2, frS_tr (frS_o rfl b1) q3, q4, q5, by rw [q6]; exact b3, by rw [q7]; exact b4⟩
end SEB
