/-! who is near, what is found, what is lost: the class -/
section NEA
variable {Q : Qd} {S : Sd} {hu : Int → Int}
def is1 (v : Int32) (p : Prop) : Prop := (v.toInt = 1 ∧ p) ∨ (v.toInt = 0 ∧ ¬ p)
end NEA
section NEA
variable {d : Nat} {mem : zM} {Q : Qd} {S : Sd} {hu : Int → Int}
set_option maxRecDepth 100000 in
theorem w_nr0A {d : Nat} {mem : zM} {P : Option Value → zM → Prop} {s : Nat} {t : Int32} {lo : List (Nat × Value)} (hm : aTm aT0 mem) (l_0 : zlg lo 0 = some (.ref 181)) (l_1 : zlg lo 1 = some (.ref s)) (l_2 : zlg lo 2 = some (.int t)) (h1 : ∀ lo, zlg lo 0 = some (.ref 181) → zlg lo 1 = some (.ref s) → zlg lo 2 = some (.int t) → zlg lo 3 = some (.int 0) → zlg lo 4 = some (.int 0) → aTm aT0 mem → yR zpg tX0_near d (5, lo, [], mem) P) : yR zpg tX0_near d (0, lo, [], mem) P := by
  refine yR_m 1 (fun _ _ _ _ => rfl) ?_
  refine wR_si rfl rfl (fun lo1 e2 f3 => ?_)
  have lo1_0 := f3 0 _ (by decide) (Or.inl rfl) l_0
  have lo1_1 := f3 1 _ (by decide) (Or.inl rfl) l_1
  have lo1_2 := f3 2 _ (by decide) (Or.inl rfl) l_2
  refine yR_m 1 (fun _ _ _ _ => rfl) ?_
  refine wR_si rfl rfl (fun lo4 e5 f6 => ?_)
  have lo4_3 := f6 3 _ (by decide) (Or.inl rfl) e2
  have lo4_0 := f6 0 _ (by decide) (Or.inl rfl) lo1_0
  have lo4_1 := f6 1 _ (by decide) (Or.inl rfl) lo1_1
  have lo4_2 := f6 2 _ (by decide) (Or.inl rfl) lo1_2
  exact h1 lo4 lo4_0 lo4_1 lo4_2 lo4_3 e5 hm

set_option maxRecDepth 100000 in
theorem w_nr5A {d : Nat} {mem : zM} {P : Option Value → zM → Prop} {t n k : Int32} {s : Nat} {lo : List (Nat × Value)} (hm : aTm aT0 mem) (l_0 : zlg lo 0 = some (.ref 181)) (l_1 : zlg lo 1 = some (.ref s)) (l_2 : zlg lo 2 = some (.int t)) (l_3 : zlg lo 3 = some (.int n)) (l_4 : zlg lo 4 = some (.int k)) (sVO_e : aat aT0 s = some (.inr (8, sVO s))) (aR_s1 : aat aT0 (s + 1) = some (.inl (false, 0, 9, .inl (-2147483648, 2147483647)))) (aR_s2 : aat aT0 (s + 2) = some (.inl (false, 0, 6, .inl (-2147483648, 2147483647)))) (hs : (31 ≤ s ∧ s ≤ 216) ∧ (s < 38 ∨ 192 ≤ s)) (hp : zfl mem 181 0 = some (.ref 2)) (ht : 0 ≤ t.toInt ∧ t.toInt ≤ 8) (hn : 0 ≤ n.toInt ∧ n.toInt ≤ 6) (hk : 0 ≤ k.toInt ∧ k.toInt ≤ 6) (h1 : (gi mem 2 13).toInt ≤ (k).toInt → aTm aT0 mem → P (some (.int n)) mem) (h2 : (k).toInt < (gi mem 2 13).toInt → ∀ (y2 : Int32), y2.toInt = (gn (ga mem (s + 2)) (k).toInt) → ∀ (y4 : Int32), y4.toInt = (gn (ga mem 4) (t).toInt) → ¬ (gn (ga mem (s + 2)) (k).toInt) = (gn (ga mem 4) (t).toInt) → ∀ (x7 : Int32), x7.toInt = ((k).toInt + 1) → ∀ lo, zlg lo 0 = some (.ref 181) → zlg lo 1 = some (.ref s) → zlg lo 2 = some (.int t) → zlg lo 3 = some (.int n) → zlg lo 4 = some (.int x7) → aTm aT0 mem → yR zpg tX0_near d (5, lo, [], mem) P) (h3 : (k).toInt < (gi mem 2 13).toInt → ∀ (y2 : Int32), y2.toInt = (gn (ga mem (s + 2)) (k).toInt) → ∀ (y4 : Int32), y4.toInt = (gn (ga mem 4) (t).toInt) → (gn (ga mem (s + 2)) (k).toInt) = (gn (ga mem 4) (t).toInt) → ∀ (x12 : Int32), x12.toInt = ((n).toInt + 1) → ∀ (x17 : Int32), x17.toInt = ((k).toInt + 1) → ∀ lo, zlg lo 0 = some (.ref 181) → zlg lo 1 = some (.ref s) → zlg lo 2 = some (.int t) → zlg lo 3 = some (.int x12) → zlg lo 4 = some (.int x17) → aTm aT0 mem → yR zpg tX0_near d (5, lo, [], mem) P) : yR zpg tX0_near d (5, lo, [], mem) P := by
  have r13 := quA_r13 hm
  refine wR_li rfl l_4 ?_
  refine wR_la rfl l_0 ?_
  refine wR_gq rfl hrO_e hm hp ?_
  refine wR_gi rfl quA_e quA_13 hm rfl ?_
  refine wR_ic_ge rfl (a := (k).toInt) (c := (gi mem 2 13).toInt) rfl rfl (fun q1 => ?_) (fun q1 => ?_)
  ·
    refine wR_li rfl l_3 ?_
    exact yR_ri rfl (h1 q1 hm)
  ·
    refine wR_la rfl l_1 ?_
    refine wR_gr rfl sVO_e sVO_3 hm ?_
    refine wR_li rfl l_4 ?_
    refine wN_al (a := (k).toInt) rfl aR_s2 hm rfl rfl (by omega) (fun y2 e3 => ?_)
    refine wR_la rfl l_0 ?_
    refine wR_gq rfl hrO_e hm hp ?_
    refine wR_gr rfl quA_e quA_9 hm ?_
    refine wR_li rfl l_2 ?_
    refine wN_al (a := (t).toInt) rfl aR_4 hm rfl rfl (by omega) (fun y4 e5 => ?_)
    refine wR_ic_ne rfl (a := (gn (ga mem (s + 2)) (k).toInt)) (c := (gn (ga mem 4) (t).toInt)) e3 e5 (fun q6 => ?_) (fun q6 => ?_)
    ·
      refine wN_in (a := (k).toInt) (b := 1) rfl rfl l_4 rfl rfl (by omega) (fun x7 e8 => fun lo9 e10 f11 => ?_)
      have lo9_0 := f11 0 _ (by decide) (Or.inl rfl) l_0
      have lo9_1 := f11 1 _ (by decide) (Or.inl rfl) l_1
      have lo9_2 := f11 2 _ (by decide) (Or.inl rfl) l_2
      have lo9_3 := f11 3 _ (by decide) (Or.inl rfl) l_3
      exact yR_m 1 (fun _ _ _ _ => rfl) (h2 q1 y2 e3 y4 e5 q6 x7 e8 lo9 lo9_0 lo9_1 lo9_2 lo9_3 e10 hm)
    ·
      refine wN_in (a := (n).toInt) (b := 1) rfl rfl l_3 rfl rfl (by omega) (fun x12 e13 => fun lo14 e15 f16 => ?_)
      have lo14_0 := f16 0 _ (by decide) (Or.inl rfl) l_0
      have lo14_1 := f16 1 _ (by decide) (Or.inl rfl) l_1
      have lo14_2 := f16 2 _ (by decide) (Or.inl rfl) l_2
      have lo14_4 := f16 4 _ (by decide) (Or.inl rfl) l_4
      refine wN_in (a := (k).toInt) (b := 1) rfl rfl lo14_4 rfl rfl (by omega) (fun x17 e18 => fun lo19 e20 f21 => ?_)
      have lo19_3 := f21 3 _ (by decide) (Or.inl rfl) e15
      have lo19_0 := f21 0 _ (by decide) (Or.inl rfl) lo14_0
      have lo19_1 := f21 1 _ (by decide) (Or.inl rfl) lo14_1
      have lo19_2 := f21 2 _ (by decide) (Or.inl rfl) lo14_2
      exact yR_m 1 (fun _ _ _ _ => rfl) (h3 q1 y2 e3 y4 e5 q6 x12 e13 x17 e18 lo19 lo19_0 lo19_1 lo19_2 lo19_3 e20 hm)

theorem nr_loopA {s : Nat} {t : Int32} (hm : aTm aT0 mem) (hp : zfl mem 181 0 = some (.ref 2)) (hC : cQ 2 3 4 7 8 9 12 13 Q mem) (hi : isS s) (hS : tS s Q hu S mem) (t0 : 0 ≤ t.toInt) (t1 : t.toInt < thN Q) (t8 : t.toInt ≤ 8) (f6 : (Qf Q).length ≤ 6) : ∀ (g : Nat) (n k : Int32) (lo : List (Nat × Value)), k.toInt + (g : Int) = foN Q → 0 ≤ k.toInt → n.toInt = nrK Q S t.toInt k.toInt.toNat → zlg lo 0 = some (.ref 181) → zlg lo 1 = some (.ref s) → zlg lo 2 = some (.int t) → zlg lo 3 = some (.int n) → zlg lo 4 = some (.int k) → yR zpg tX0_near d (5, lo, [], mem) (fun r m => ∃ v : Int32, r = some (.int v) ∧ mem = m ∧ v.toInt = nrC Q S t.toInt) := by
  intro g
  have cn := (cq_nA hC).2
  have f7 : foN Q ≤ 6 := by
    unfold foN
    omega
  induction g with
  | zero =>
    intro n k lo hk k0 hn l0 l1 l2 l3 l4
    have nb := nrK_b (Q := Q) (S := S) (t := t.toInt) k.toInt.toNat
    exact w_nr5A hm l0 l1 l2 l3 l4 hi.1 hi.2.1 hi.2.2.1 hi.2.2.2 hp ⟨t0, t8⟩ (by omega) (by omega) 
        (fun q1 hm2 => ⟨_, rfl, rfl, by
          have fq : foN Q = ((Qf Q).length : Int) := rfl
          rw [hn, show k.toInt.toNat = (Qf Q).length by omega]
          rfl⟩)
        (fun q1 y2 e3 y4 e5 q6 x7 e8 lo a0 a1 a2 a3 a4 hm2 => by exfalso; omega)
        (fun q1 y2 e3 y4 e5 q6 x12 e13 x17 e18 lo a0 a1 a2 a3 a4 hm2 => by exfalso; omega)
  | succ g ih =>
    intro n k lo hk k0 hn l0 l1 l2 l3 l4
    have nb := nrK_b (Q := Q) (S := S) (t := t.toInt) k.toInt.toNat
    have ks : nrK Q S t.toInt (k.toInt.toNat + 1) = nrK Q S t.toInt k.toInt.toNat + (if Sp S ((k.toInt.toNat : Nat) : Int) = thA Q t.toInt then 1 else 0) := rfl
    rw [show ((k.toInt.toNat : Nat) : Int) = k.toInt by omega] at ks
    have es := hS.2.2.1 k.toInt k0 (by omega)
    have et := cq_tA hC t0 t1
    exact w_nr5A hm l0 l1 l2 l3 l4 hi.1 hi.2.1 hi.2.2.1 hi.2.2.2 hp ⟨t0, t8⟩ (by omega) (by omega) 
        (fun q1 hm2 => by exfalso; omega)
        (fun q1 y2 e3 y4 e5 q6 x7 e8 lo a0 a1 a2 a3 a4 hm2 => ih _ _ lo (by omega) (by omega) (by
          rw [show x7.toInt.toNat = k.toInt.toNat + 1 by omega, ks, if_neg (by rw [← es, ← et]; exact q6)]
          omega) a0 a1 a2 a3 a4)
        (fun q1 y2 e3 y4 e5 q6 x12 e13 x17 e18 lo a0 a1 a2 a3 a4 hm2 => ih _ _ lo (by omega) (by omega) (by
          rw [show x17.toInt.toNat = k.toInt.toNat + 1 by omega, ks, if_pos (by rw [← es, ← et]; exact q6)]
          omega) a0 a1 a2 a3 a4)
theorem h_nrA {s : Nat} {t : Int32} (hm : aTm aT0 mem) (hp : zfl mem 181 0 = some (.ref 2)) (hC : cQ 2 3 4 7 8 9 12 13 Q mem) (hW : WQ Q) (hi : isS s) (hS : tS s Q hu S mem) (t0 : 0 ≤ t.toInt) (t1 : t.toInt < thN Q) (hd : 1 ≤ d) : yC zpg d 16 [.ref 181, .ref s, .int t] mem (fun r m => ∃ v : Int32, r = some (.int v) ∧ mem = m ∧ v.toInt = nrC Q S t.toInt) := by
  obtain ⟨d, rfl⟩ : ∃ q, d = q + 1 := ⟨d - 1, by omega⟩
  have t8 : t.toInt ≤ 8 := by
    have := hW.2.1.1
    unfold thN at t1
    omega
  refine yC_of (t := tX0_near) rfl rfl ?_
  refine w_nr0A hm rfl rfl rfl ?_
  intro lo a0 a1 a2 a3 a4 hm
  exact nr_loopA hm hp hC hi hS t0 t1 t8 hW.2.1.2.1 (Qf Q).length 0 0 lo (by show (0 : Int) + _ = _; unfold foN; omega) (by decide) rfl a0 a1 a2 a3 a4
set_option maxRecDepth 100000 in
theorem w_fdA {d : Nat} {mem : zM} {P : Option Value → zM → Prop} {t : Int32} {Q : Qd} {S : Sd} {hu : Int → Int} (hm : aTm aT0 mem) {s : Nat} (sVO_e : aat aT0 s = some (.inr (8, sVO s))) (aR_s1 : aat aT0 (s + 1) = some (.inl (false, 0, 9, .inl (-2147483648, 2147483647)))) (aR_s2 : aat aT0 (s + 2) = some (.inl (false, 0, 6, .inl (-2147483648, 2147483647)))) (hs : (31 ≤ s ∧ s ≤ 216) ∧ (s < 38 ∨ 192 ≤ s)) {env : Int → Int} {c : List Int} {b : Bool} (hp : zfl mem 181 0 = some (.ref 2)) (he : ∀ w, -1000000 ≤ env w ∧ env w ≤ 1000000) (hT : gn (ga mem 12) 1 < gn (ga mem 13) 1 → rlT 11 12 13 1 c b mem) (t0 : 0 ≤ t.toInt ∧ t.toInt ≤ 8) (r1 : 0 ≤ (gi mem s 1).toInt ∧ (gi mem s 1).toInt ≤ 511) (hC : cQ 2 3 4 7 8 9 12 13 Q mem) (hW : WQ Q) (hS : tS s Q hu S mem) (t1 : t.toInt < thN Q) (h1 : ∀ (y1 : Int32), y1.toInt = (gn (ga mem 13) 1) → ∀ (y3 : Int32), y3.toInt = (gn (ga mem 12) 1) → (gn (ga mem 13) 1) ≤ (gn (ga mem 12) 1) → ∀ (v6 : Int32), v6.toInt = nrC Q S (t).toInt → (v6).toInt ≤ 0 → aTm aT0 mem → P (some (.int 0)) mem) (h2 : ∀ (y1 : Int32), y1.toInt = (gn (ga mem 13) 1) → ∀ (y3 : Int32), y3.toInt = (gn (ga mem 12) 1) → (gn (ga mem 13) 1) ≤ (gn (ga mem 12) 1) → ∀ (v6 : Int32), v6.toInt = nrC Q S (t).toInt → 0 < (v6).toInt → aTm aT0 mem → P (some (.int 1)) mem) (s1 : ∀ (y1 : Int32), y1.toInt = (gn (ga mem 13) 1) → ∀ (y3 : Int32), y3.toInt = (gn (ga mem 12) 1) → (gn (ga mem 12) 1) < (gn (ga mem 13) 1) → ¬ (t).toInt = (gi mem s 4).toInt → ∀ (y10 : Int32), y10.toInt = (gn (ga mem 5) (t).toInt) → ∀ (y12 : Int32), y12.toInt = (gn (ga mem 6) (t).toInt) → ∀ (y14 : Int32), y14.toInt = (gn (ga mem (s + 1)) (t).toInt) → ∀ (v16 : Int32), v16.toInt = pop (gi mem s 1) → ∀ (v18 : Int32), v18.toInt = nrC Q S (t).toInt → ∀ w, isE (10000 + w) → 10000 + w ∈ c → naC (si (si (si (si (si (si mem 182 1 (gi mem s 0)) 182 2 y10) 182 3 y12) 182 4 y14) 182 5 v16) 182 6 v18) w = env w) (h3 : ∀ (y1 : Int32), y1.toInt = (gn (ga mem 13) 1) → ∀ (y3 : Int32), y3.toInt = (gn (ga mem 12) 1) → (gn (ga mem 12) 1) < (gn (ga mem 13) 1) → ¬ (t).toInt = (gi mem s 4).toInt → ∀ (y10 : Int32), y10.toInt = (gn (ga mem 5) (t).toInt) → ∀ (y12 : Int32), y12.toInt = (gn (ga mem 6) (t).toInt) → ∀ (y14 : Int32), y14.toInt = (gn (ga mem (s + 1)) (t).toInt) → ∀ (v16 : Int32), v16.toInt = pop (gi mem s 1) → ∀ (v18 : Int32), v18.toInt = nrC Q S (t).toInt → ∀ (v22 : Int32) (m20 : zM), aTm aT0 m20 → (onl [183] (si (si (si (si (si (si mem 182 1 (gi mem s 0)) 182 2 y10) 182 3 y12) 182 4 y14) 182 5 v16) 182 6 v18) m20 ∧ v22.toInt = rvV env c) → (v22).toInt = 0 → aTm aT0 m20 → P (some (.int 0)) m20) (h4 : ∀ (y1 : Int32), y1.toInt = (gn (ga mem 13) 1) → ∀ (y3 : Int32), y3.toInt = (gn (ga mem 12) 1) → (gn (ga mem 12) 1) < (gn (ga mem 13) 1) → ¬ (t).toInt = (gi mem s 4).toInt → ∀ (y10 : Int32), y10.toInt = (gn (ga mem 5) (t).toInt) → ∀ (y12 : Int32), y12.toInt = (gn (ga mem 6) (t).toInt) → ∀ (y14 : Int32), y14.toInt = (gn (ga mem (s + 1)) (t).toInt) → ∀ (v16 : Int32), v16.toInt = pop (gi mem s 1) → ∀ (v18 : Int32), v18.toInt = nrC Q S (t).toInt → ∀ (v22 : Int32) (m20 : zM), aTm aT0 m20 → (onl [183] (si (si (si (si (si (si mem 182 1 (gi mem s 0)) 182 2 y10) 182 3 y12) 182 4 y14) 182 5 v16) 182 6 v18) m20 ∧ v22.toInt = rvV env c) → ¬ (v22).toInt = 0 → aTm aT0 m20 → P (some (.int 1)) m20) (s2 : ∀ (y1 : Int32), y1.toInt = (gn (ga mem 13) 1) → ∀ (y3 : Int32), y3.toInt = (gn (ga mem 12) 1) → (gn (ga mem 12) 1) < (gn (ga mem 13) 1) → (t).toInt = (gi mem s 4).toInt → ∀ (y24 : Int32), y24.toInt = (gn (ga mem 6) (t).toInt) → ∀ (y26 : Int32), y26.toInt = (gn (ga mem (s + 1)) (t).toInt) → ∀ (v28 : Int32), v28.toInt = pop (gi mem s 1) → ∀ (v30 : Int32), v30.toInt = nrC Q S (t).toInt → ∀ w, isE (10000 + w) → 10000 + w ∈ c → naC (si (si (si (si (si (si mem 182 1 (gi mem s 0)) 182 2 (gi mem s 5)) 182 3 y24) 182 4 y26) 182 5 v28) 182 6 v30) w = env w) (h5 : ∀ (y1 : Int32), y1.toInt = (gn (ga mem 13) 1) → ∀ (y3 : Int32), y3.toInt = (gn (ga mem 12) 1) → (gn (ga mem 12) 1) < (gn (ga mem 13) 1) → (t).toInt = (gi mem s 4).toInt → ∀ (y24 : Int32), y24.toInt = (gn (ga mem 6) (t).toInt) → ∀ (y26 : Int32), y26.toInt = (gn (ga mem (s + 1)) (t).toInt) → ∀ (v28 : Int32), v28.toInt = pop (gi mem s 1) → ∀ (v30 : Int32), v30.toInt = nrC Q S (t).toInt → ∀ (v34 : Int32) (m32 : zM), aTm aT0 m32 → (onl [183] (si (si (si (si (si (si mem 182 1 (gi mem s 0)) 182 2 (gi mem s 5)) 182 3 y24) 182 4 y26) 182 5 v28) 182 6 v30) m32 ∧ v34.toInt = rvV env c) → (v34).toInt = 0 → aTm aT0 m32 → P (some (.int 0)) m32) (h6 : ∀ (y1 : Int32), y1.toInt = (gn (ga mem 13) 1) → ∀ (y3 : Int32), y3.toInt = (gn (ga mem 12) 1) → (gn (ga mem 12) 1) < (gn (ga mem 13) 1) → (t).toInt = (gi mem s 4).toInt → ∀ (y24 : Int32), y24.toInt = (gn (ga mem 6) (t).toInt) → ∀ (y26 : Int32), y26.toInt = (gn (ga mem (s + 1)) (t).toInt) → ∀ (v28 : Int32), v28.toInt = pop (gi mem s 1) → ∀ (v30 : Int32), v30.toInt = nrC Q S (t).toInt → ∀ (v34 : Int32) (m32 : zM), aTm aT0 m32 → (onl [183] (si (si (si (si (si (si mem 182 1 (gi mem s 0)) 182 2 (gi mem s 5)) 182 3 y24) 182 4 y26) 182 5 v28) 182 6 v30) m32 ∧ v34.toInt = rvV env c) → ¬ (v34).toInt = 0 → aTm aT0 m32 → P (some (.int 1)) m32) : yR zpg tX0_isFound (d + 6) (0, [(0, .ref 181), (1, .ref s), (2, .int t)], [], mem) P := by
  refine yR_m 1 (fun _ _ _ _ => rfl) ?_
  refine wR_gq rfl hrO_e hm hp ?_
  refine wR_gr rfl quA_e quA_17 hm ?_
  refine yR_m 1 (fun _ _ _ _ => rfl) ?_
  refine wR_iv rfl rfl rlA_e hm rfl rfl rfl rfl ?_
  show yR zpg tX7_isTold (d + 5) (0, [(0, .ref 10), (1, .int 1)], [], mem) _
  refine yR_m 1 (fun _ _ _ _ => rfl) ?_
  refine wR_gr rfl rlA_e rlA_2 hm ?_
  refine yR_m 1 (fun _ _ _ _ => rfl) ?_
  refine wN_al (a := 1) rfl aR_13 hm rfl rfl (by decide) (fun y1 e2 => ?_)
  refine yR_m 1 (fun _ _ _ _ => rfl) ?_
  refine wR_gr rfl rlA_e rlA_1 hm ?_
  refine yR_m 1 (fun _ _ _ _ => rfl) ?_
  refine wN_al (a := 1) rfl aR_12 hm rfl rfl (by decide) (fun y3 e4 => ?_)
  refine wR_ic_le rfl (a := (gn (ga mem 13) 1)) (c := (gn (ga mem 12) 1)) e2 e4 (fun q5 => ?_) (fun q5 => ?_)
  ·
    refine yR_m 1 (fun _ _ _ _ => rfl) ?_
    refine yR_rz rfl ⟨by decide, by decide⟩ ?_
    show yR zpg tX0_isFound (d + 6) (11, [(0, .ref 181), (1, .ref s), (2, .int t)], [.int 0], mem) _
    refine wR_if_ne rfl (a := 0) rfl (fun q => by exfalso; omega) (fun _ => ?_)
    refine yR_m 3 (fun _ _ _ _ => rfl) ?_
    refine wR_cv rfl rfl hrO_e hm rfl (h_nrA (Q := Q) (S := S) (hu := hu) hm hp hC hW ⟨sVO_e, aR_s1, aR_s2, hs⟩ hS (by omega) t1 (by omega)) ?_
    rintro _ _ ⟨v6, rfl, rfl, k7⟩
    show yR zpg tX0_isFound (d + 6) (20, [(0, .ref 181), (1, .ref s), (2, .int t)], [.int v6], mem) _
    refine wR_if_le rfl (a := (v6).toInt) rfl (fun q8 => ?_) (fun q8 => ?_)
    ·
      refine yR_m 1 (fun _ _ _ _ => rfl) ?_
      exact yR_rz rfl ⟨by decide, by decide⟩ (h1 y1 e2 y3 e4 q5 v6 k7 q8 hm)
    ·
      refine yR_m 2 (fun _ _ _ _ => rfl) ?_
      exact yR_rz rfl ⟨by decide, by decide⟩ (h2 y1 e2 y3 e4 q5 v6 k7 q8 hm)
  ·
    refine yR_m 2 (fun _ _ _ _ => rfl) ?_
    refine yR_rz rfl ⟨by decide, by decide⟩ ?_
    show yR zpg tX0_isFound (d + 6) (11, [(0, .ref 181), (1, .ref s), (2, .int t)], [.int 1], mem) _
    refine wR_if_ne rfl (a := 1) rfl (fun _ => ?_) (fun q => by exfalso; omega)
    refine yR_m 3 (fun _ _ _ _ => rfl) ?_
    refine wR_iv rfl rfl hrO_e hm rfl rfl rfl rfl ?_
    show yR zpg tX0_setOut (d + 5) (0, [(0, .ref 181), (1, .ref s), (2, .int t)], [], mem) _
    refine yR_m 1 (fun _ _ _ _ => rfl) ?_
    refine wR_gr rfl hrO_e hrO_1 hm ?_
    refine yR_m 1 (fun _ _ _ _ => rfl) ?_
    refine wR_gi rfl sVO_e sVO_0 hm rfl ?_
    refine wR_pi rfl rkO_e rkO_1 hm rfl ?_
    have hm_1 : aTm aT0 (si mem 182 1 (gi mem s 0)) := tm_si rkO_e rkO_1 hm (i32_b _)
    refine yR_m 1 (fun _ _ _ _ => rfl) ?_
    refine wR_gr rfl hrO_e hrO_1 hm_1 ?_
    refine yR_m 3 (fun _ _ _ _ => rfl) ?_
    refine wR_iv rfl rfl hrO_e hm_1 rfl rfl rfl rfl ?_
    show yR zpg tX0_hueOf (d + 4) (0, [(0, .ref 181), (1, .ref s), (2, .int t)], [], (si mem 182 1 (gi mem s 0))) _
    refine yR_m 2 (fun _ _ _ _ => rfl) ?_
    refine wR_gi rfl sVO_e sVO_4 hm_1 (gi_sv_ne (by first | decide | omega)) ?_
    refine wR_ic_ne rfl (a := (t).toInt) (c := (gi mem s 4).toInt) rfl rfl (fun q9 => ?_) (fun q9 => ?_)
    ·
      refine yR_m 1 (fun _ _ _ _ => rfl) ?_
      refine wR_gq rfl hrO_e hm_1 ((zfl_sv_ne (by first | decide | omega)).trans hp) ?_
      refine wR_gr rfl quA_e quA_10 hm_1 ?_
      refine yR_m 1 (fun _ _ _ _ => rfl) ?_
      refine wN_al (a := (t).toInt) rfl aR_5 hm_1 (ga_sv) rfl (by omega) (fun y10 e11 => ?_)
      refine yR_ri rfl ?_
      show yR zpg tX0_setOut (d + 5) (21, [(0, .ref 181), (1, .ref s), (2, .int t)], [.int y10, .ref 182], (si mem 182 1 (gi mem s 0))) _
      refine wR_pi rfl rkO_e rkO_2 hm_1 rfl ?_
      have hm_2 : aTm aT0 (si (si mem 182 1 (gi mem s 0)) 182 2 y10) := tm_si rkO_e rkO_2 hm_1 (i32_b _)
      refine yR_m 1 (fun _ _ _ _ => rfl) ?_
      refine wR_gr rfl hrO_e hrO_1 hm_2 ?_
      refine yR_m 1 (fun _ _ _ _ => rfl) ?_
      refine wR_gq rfl hrO_e hm_2 ((zfl_sv_ne (by first | decide | omega)).trans ((zfl_sv_ne (by first | decide | omega)).trans hp)) ?_
      refine wR_gr rfl quA_e quA_11 hm_2 ?_
      refine yR_m 1 (fun _ _ _ _ => rfl) ?_
      refine wN_al (a := (t).toInt) rfl aR_6 hm_2 ((ga_sv).trans (ga_sv)) rfl (by omega) (fun y12 e13 => ?_)
      refine wR_pi rfl rkO_e rkO_3 hm_2 rfl ?_
      have hm_3 : aTm aT0 (si (si (si mem 182 1 (gi mem s 0)) 182 2 y10) 182 3 y12) := tm_si rkO_e rkO_3 hm_2 (i32_b _)
      refine yR_m 1 (fun _ _ _ _ => rfl) ?_
      refine wR_gr rfl hrO_e hrO_1 hm_3 ?_
      refine yR_m 1 (fun _ _ _ _ => rfl) ?_
      refine wR_gr rfl sVO_e sVO_2 hm_3 ?_
      refine yR_m 1 (fun _ _ _ _ => rfl) ?_
      refine wN_al (a := (t).toInt) rfl aR_s1 hm_3 ((ga_sv).trans ((ga_sv).trans (ga_sv))) rfl (by omega) (fun y14 e15 => ?_)
      refine wR_pi rfl rkO_e rkO_4 hm_3 rfl ?_
      have hm_4 : aTm aT0 (si (si (si (si mem 182 1 (gi mem s 0)) 182 2 y10) 182 3 y12) 182 4 y14) := tm_si rkO_e rkO_4 hm_3 (i32_b _)
      refine yR_m 1 (fun _ _ _ _ => rfl) ?_
      refine wR_gr rfl hrO_e hrO_1 hm_4 ?_
      refine yR_m 1 (fun _ _ _ _ => rfl) ?_
      refine wR_gi rfl sVO_e sVO_1 hm_4 ((gi_sv_ne (by first | decide | omega)).trans ((gi_sv_ne (by first | decide | omega)).trans ((gi_sv_ne (by first | decide | omega)).trans (gi_sv_ne (by first | decide | omega))))) ?_
      refine yR_cs rfl rfl rfl (h_bc hm_4 (by omega) (by omega)) ?_
      rintro _ _ ⟨v16, rfl, rfl, k17⟩
      show yR zpg tX0_setOut (d + 5) (64, [(0, .ref 181), (1, .ref s), (2, .int t)], [.int v16, .ref 182], (si (si (si (si mem 182 1 (gi mem s 0)) 182 2 y10) 182 3 y12) 182 4 y14)) _
      refine wR_pi rfl rkO_e rkO_5 hm_4 rfl ?_
      have hm_5 : aTm aT0 (si (si (si (si (si mem 182 1 (gi mem s 0)) 182 2 y10) 182 3 y12) 182 4 y14) 182 5 v16) := tm_si rkO_e rkO_5 hm_4 (i32_b _)
      refine yR_rv rfl ?_
      show yR zpg tX0_isFound (d + 6) (35, [(0, .ref 181), (1, .ref s), (2, .int t)], [], (si (si (si (si (si mem 182 1 (gi mem s 0)) 182 2 y10) 182 3 y12) 182 4 y14) 182 5 v16)) _
      refine yR_m 1 (fun _ _ _ _ => rfl) ?_
      refine wR_gr rfl hrO_e hrO_1 hm_5 ?_
      refine yR_m 3 (fun _ _ _ _ => rfl) ?_
      refine wR_cv rfl rfl hrO_e hm_5 rfl (h_nrA (Q := Q) (S := S) (hu := hu) hm_5 ((zfl_sv_ne (by first | decide | omega)).trans ((zfl_sv_ne (by first | decide | omega)).trans ((zfl_sv_ne (by first | decide | omega)).trans ((zfl_sv_ne (by first | decide | omega)).trans ((zfl_sv_ne (by first | decide | omega)).trans hp))))) (cQ_qA (ks := [182]) rfl (onl_sv rfl (onl_sv rfl (onl_sv rfl (onl_sv rfl (onl_sv rfl onl_rf))))) hC) hW ⟨sVO_e, aR_s1, aR_s2, hs⟩ (tS_q (ks := [182]) ⟨sVO_e, aR_s1, aR_s2, hs⟩ rfl (onl_sv rfl (onl_sv rfl (onl_sv rfl (onl_sv rfl (onl_sv rfl onl_rf))))) hS) (by omega) t1 (by omega)) ?_
      rintro _ _ ⟨v18, rfl, rfl, k19⟩
      show yR zpg tX0_isFound (d + 6) (45, [(0, .ref 181), (1, .ref s), (2, .int t)], [.int v18, .ref 182], (si (si (si (si (si mem 182 1 (gi mem s 0)) 182 2 y10) 182 3 y12) 182 4 y14) 182 5 v16)) _
      refine wR_pi rfl rkO_e rkO_6 hm_5 rfl ?_
      have hm_6 : aTm aT0 (si (si (si (si (si (si mem 182 1 (gi mem s 0)) 182 2 y10) 182 3 y12) 182 4 y14) 182 5 v16) 182 6 v18) := tm_si rkO_e rkO_6 hm_5 (i32_b _)
      refine yR_m 1 (fun _ _ _ _ => rfl) ?_
      refine wR_gr rfl hrO_e hrO_1 hm_6 ?_
      refine yR_m 1 (fun _ _ _ _ => rfl) ?_
      refine wR_gq rfl hrO_e hm_6 ((zfl_sv_ne (by first | decide | omega)).trans ((zfl_sv_ne (by first | decide | omega)).trans ((zfl_sv_ne (by first | decide | omega)).trans ((zfl_sv_ne (by first | decide | omega)).trans ((zfl_sv_ne (by first | decide | omega)).trans ((zfl_sv_ne (by first | decide | omega)).trans hp)))))) ?_
      refine wR_gr rfl quA_e quA_17 hm_6 ?_
      refine yR_m 1 (fun _ _ _ _ => rfl) ?_
      refine wR_cv rfl rfl rkO_e hm_6 rfl (h_vrA (env := env) (c := c) (b := b) (w := 1) hm_6 rfl (by decide) he (s1 y1 e2 y3 e4 q5 q9 y10 e11 y12 e13 y14 e15 v16 k17 v18 k19) (rlT_q ((ga_sv).trans ((ga_sv).trans ((ga_sv).trans ((ga_sv).trans ((ga_sv).trans (ga_sv)))))) ((ga_sv).trans ((ga_sv).trans ((ga_sv).trans ((ga_sv).trans ((ga_sv).trans (ga_sv)))))) ((ga_sv).trans ((ga_sv).trans ((ga_sv).trans ((ga_sv).trans ((ga_sv).trans (ga_sv)))))) (hT q5)) (by omega)) ?_
      rintro _ m20 ⟨v22, rfl, hm20, k21⟩
      show yR zpg tX0_isFound (d + 6) (63, [(0, .ref 181), (1, .ref s), (2, .int t)], [.int v22], m20) _
      refine wR_if_eq rfl (a := (v22).toInt) rfl (fun q23 => ?_) (fun q23 => ?_)
      ·
        refine yR_m 1 (fun _ _ _ _ => rfl) ?_
        exact yR_rz rfl ⟨by decide, by decide⟩ (h3 y1 e2 y3 e4 q5 q9 y10 e11 y12 e13 y14 e15 v16 k17 v18 k19 v22 m20 hm20 k21 q23 hm20)
      ·
        refine yR_m 2 (fun _ _ _ _ => rfl) ?_
        exact yR_rz rfl ⟨by decide, by decide⟩ (h4 y1 e2 y3 e4 q5 q9 y10 e11 y12 e13 y14 e15 v16 k17 v18 k19 v22 m20 hm20 k21 q23 hm20)
    ·
      refine yR_m 1 (fun _ _ _ _ => rfl) ?_
      refine wR_gi rfl sVO_e sVO_5 hm_1 (gi_sv_ne (by first | decide | omega)) ?_
      refine yR_m 1 (fun _ _ _ _ => rfl) ?_
      refine yR_ri rfl ?_
      show yR zpg tX0_setOut (d + 5) (21, [(0, .ref 181), (1, .ref s), (2, .int t)], [.int (gi mem s 5), .ref 182], (si mem 182 1 (gi mem s 0))) _
      refine wR_pi rfl rkO_e rkO_2 hm_1 rfl ?_
      have hm_7 : aTm aT0 (si (si mem 182 1 (gi mem s 0)) 182 2 (gi mem s 5)) := tm_si rkO_e rkO_2 hm_1 (i32_b _)
      refine yR_m 1 (fun _ _ _ _ => rfl) ?_
      refine wR_gr rfl hrO_e hrO_1 hm_7 ?_
      refine yR_m 1 (fun _ _ _ _ => rfl) ?_
      refine wR_gq rfl hrO_e hm_7 ((zfl_sv_ne (by first | decide | omega)).trans ((zfl_sv_ne (by first | decide | omega)).trans hp)) ?_
      refine wR_gr rfl quA_e quA_11 hm_7 ?_
      refine yR_m 1 (fun _ _ _ _ => rfl) ?_
      refine wN_al (a := (t).toInt) rfl aR_6 hm_7 ((ga_sv).trans (ga_sv)) rfl (by omega) (fun y24 e25 => ?_)
      refine wR_pi rfl rkO_e rkO_3 hm_7 rfl ?_
      have hm_8 : aTm aT0 (si (si (si mem 182 1 (gi mem s 0)) 182 2 (gi mem s 5)) 182 3 y24) := tm_si rkO_e rkO_3 hm_7 (i32_b _)
      refine yR_m 1 (fun _ _ _ _ => rfl) ?_
      refine wR_gr rfl hrO_e hrO_1 hm_8 ?_
      refine yR_m 1 (fun _ _ _ _ => rfl) ?_
      refine wR_gr rfl sVO_e sVO_2 hm_8 ?_
      refine yR_m 1 (fun _ _ _ _ => rfl) ?_
      refine wN_al (a := (t).toInt) rfl aR_s1 hm_8 ((ga_sv).trans ((ga_sv).trans (ga_sv))) rfl (by omega) (fun y26 e27 => ?_)
      refine wR_pi rfl rkO_e rkO_4 hm_8 rfl ?_
      have hm_9 : aTm aT0 (si (si (si (si mem 182 1 (gi mem s 0)) 182 2 (gi mem s 5)) 182 3 y24) 182 4 y26) := tm_si rkO_e rkO_4 hm_8 (i32_b _)
      refine yR_m 1 (fun _ _ _ _ => rfl) ?_
      refine wR_gr rfl hrO_e hrO_1 hm_9 ?_
      refine yR_m 1 (fun _ _ _ _ => rfl) ?_
      refine wR_gi rfl sVO_e sVO_1 hm_9 ((gi_sv_ne (by first | decide | omega)).trans ((gi_sv_ne (by first | decide | omega)).trans ((gi_sv_ne (by first | decide | omega)).trans (gi_sv_ne (by first | decide | omega))))) ?_
      refine yR_cs rfl rfl rfl (h_bc hm_9 (by omega) (by omega)) ?_
      rintro _ _ ⟨v28, rfl, rfl, k29⟩
      show yR zpg tX0_setOut (d + 5) (64, [(0, .ref 181), (1, .ref s), (2, .int t)], [.int v28, .ref 182], (si (si (si (si mem 182 1 (gi mem s 0)) 182 2 (gi mem s 5)) 182 3 y24) 182 4 y26)) _
      refine wR_pi rfl rkO_e rkO_5 hm_9 rfl ?_
      have hm_10 : aTm aT0 (si (si (si (si (si mem 182 1 (gi mem s 0)) 182 2 (gi mem s 5)) 182 3 y24) 182 4 y26) 182 5 v28) := tm_si rkO_e rkO_5 hm_9 (i32_b _)
      refine yR_rv rfl ?_
      show yR zpg tX0_isFound (d + 6) (35, [(0, .ref 181), (1, .ref s), (2, .int t)], [], (si (si (si (si (si mem 182 1 (gi mem s 0)) 182 2 (gi mem s 5)) 182 3 y24) 182 4 y26) 182 5 v28)) _
      refine yR_m 1 (fun _ _ _ _ => rfl) ?_
      refine wR_gr rfl hrO_e hrO_1 hm_10 ?_
      refine yR_m 3 (fun _ _ _ _ => rfl) ?_
      refine wR_cv rfl rfl hrO_e hm_10 rfl (h_nrA (Q := Q) (S := S) (hu := hu) hm_10 ((zfl_sv_ne (by first | decide | omega)).trans ((zfl_sv_ne (by first | decide | omega)).trans ((zfl_sv_ne (by first | decide | omega)).trans ((zfl_sv_ne (by first | decide | omega)).trans ((zfl_sv_ne (by first | decide | omega)).trans hp))))) (cQ_qA (ks := [182]) rfl (onl_sv rfl (onl_sv rfl (onl_sv rfl (onl_sv rfl (onl_sv rfl onl_rf))))) hC) hW ⟨sVO_e, aR_s1, aR_s2, hs⟩ (tS_q (ks := [182]) ⟨sVO_e, aR_s1, aR_s2, hs⟩ rfl (onl_sv rfl (onl_sv rfl (onl_sv rfl (onl_sv rfl (onl_sv rfl onl_rf))))) hS) (by omega) t1 (by omega)) ?_
      rintro _ _ ⟨v30, rfl, rfl, k31⟩
      show yR zpg tX0_isFound (d + 6) (45, [(0, .ref 181), (1, .ref s), (2, .int t)], [.int v30, .ref 182], (si (si (si (si (si mem 182 1 (gi mem s 0)) 182 2 (gi mem s 5)) 182 3 y24) 182 4 y26) 182 5 v28)) _
      refine wR_pi rfl rkO_e rkO_6 hm_10 rfl ?_
      have hm_11 : aTm aT0 (si (si (si (si (si (si mem 182 1 (gi mem s 0)) 182 2 (gi mem s 5)) 182 3 y24) 182 4 y26) 182 5 v28) 182 6 v30) := tm_si rkO_e rkO_6 hm_10 (i32_b _)
      refine yR_m 1 (fun _ _ _ _ => rfl) ?_
      refine wR_gr rfl hrO_e hrO_1 hm_11 ?_
      refine yR_m 1 (fun _ _ _ _ => rfl) ?_
      refine wR_gq rfl hrO_e hm_11 ((zfl_sv_ne (by first | decide | omega)).trans ((zfl_sv_ne (by first | decide | omega)).trans ((zfl_sv_ne (by first | decide | omega)).trans ((zfl_sv_ne (by first | decide | omega)).trans ((zfl_sv_ne (by first | decide | omega)).trans ((zfl_sv_ne (by first | decide | omega)).trans hp)))))) ?_
      refine wR_gr rfl quA_e quA_17 hm_11 ?_
      refine yR_m 1 (fun _ _ _ _ => rfl) ?_
      refine wR_cv rfl rfl rkO_e hm_11 rfl (h_vrA (env := env) (c := c) (b := b) (w := 1) hm_11 rfl (by decide) he (s2 y1 e2 y3 e4 q5 q9 y24 e25 y26 e27 v28 k29 v30 k31) (rlT_q ((ga_sv).trans ((ga_sv).trans ((ga_sv).trans ((ga_sv).trans ((ga_sv).trans (ga_sv)))))) ((ga_sv).trans ((ga_sv).trans ((ga_sv).trans ((ga_sv).trans ((ga_sv).trans (ga_sv)))))) ((ga_sv).trans ((ga_sv).trans ((ga_sv).trans ((ga_sv).trans ((ga_sv).trans (ga_sv)))))) (hT q5)) (by omega)) ?_
      rintro _ m32 ⟨v34, rfl, hm32, k33⟩
      show yR zpg tX0_isFound (d + 6) (63, [(0, .ref 181), (1, .ref s), (2, .int t)], [.int v34], m32) _
      refine wR_if_eq rfl (a := (v34).toInt) rfl (fun q35 => ?_) (fun q35 => ?_)
      ·
        refine yR_m 1 (fun _ _ _ _ => rfl) ?_
        exact yR_rz rfl ⟨by decide, by decide⟩ (h5 y1 e2 y3 e4 q5 q9 y24 e25 y26 e27 v28 k29 v30 k31 v34 m32 hm32 k33 q35 hm32)
      ·
        refine yR_m 2 (fun _ _ _ _ => rfl) ?_
        exact yR_rz rfl ⟨by decide, by decide⟩ (h6 y1 e2 y3 e4 q5 q9 y24 e25 y26 e27 v28 k29 v30 k31 v34 m32 hm32 k33 q35 hm32)

theorem h_fdA {s : Nat} {t : Int32} (hm : aTm aT0 mem) (hp : zfl mem 181 0 = some (.ref 2)) (hC : cQ 2 3 4 7 8 9 12 13 Q mem) (hW : WQ Q) (hi : isS s) (hS : tS s Q hu S mem) (hv : wS Q S) (hH : wH Q hu) (t0 : 0 ≤ t.toInt) (t1 : t.toInt < thN Q) (hd : 7 ≤ d) : yC zpg d 12 [.ref 181, .ref s, .int t] mem (fun r m => ∃ v : Int32, r = some (.int v) ∧ aTm aT0 m ∧ (onl [182, 183] mem m ∧ is1 v (fdC Q hu S t.toInt))) := by
  obtain ⟨d, rfl⟩ : ∃ q, d = q + 7 := ⟨d - 7, by omega⟩
  have hi0 := hi
  have hS0 := hS
  obtain ⟨i1, i2, i3, i4⟩ := hi
  obtain ⟨⟨s0, s1⟩, s2, s3, s4⟩ := hS
  have t8 : t.toInt ≤ 8 := by
    have := hW.2.1.1
    unfold thN at t1
    omega
  have hg := cq_gA hC t0 t1
  obtain ⟨rT, rN⟩ := cq_rA hm hW hC (w := 1) (by decide) (by decide)
  have nb := nrK_b (Q := Q) (S := S) (t := t.toInt) (Qf Q).length
  have n6 : (Qf Q).length ≤ 6 := hW.2.1.2.1
  have hb := enV_b hW hv hH t0 t1 (nr := nrC Q S t.toInt) nb.1 (by unfold nrC; omega)
  have r1 := hv.2.1.1
  rw [← s1] at r1
  refine yC_of (t := tX0_isFound) rfl rfl ?_
  cases hk : (Qk Q).lookup 1 with
  | none =>
    have rN := rN hk
    exact w_fdA (env := enV Q hu S t.toInt (nrC Q S t.toInt)) (c := []) (b := true) hm i1 i2 i3 i4 hp hb (fun z => absurd z rN) ⟨t0, t8⟩ r1 hC hW hS0 t1 
        (fun y1 e2 y3 e4 q5 v6 k7 q8 hm2 => ⟨0, rfl, hm2, onl_rf, Or.inr ⟨rfl, fun z => by have z1 := (fdC_0 hk).1 z; omega⟩⟩)
        (fun y1 e2 y3 e4 q5 v6 k7 q8 hm2 => ⟨1, rfl, hm2, onl_rf, Or.inl ⟨rfl, (fdC_0 hk).2 (by omega)⟩⟩)
        (fun y1 e2 y3 e4 q5 q9 y10 e11 y12 e13 y14 e15 v16 k17 v18 k19 => absurd q5 rN)
        (fun y1 e2 y3 e4 q5 q9 y10 e11 y12 e13 y14 e15 v16 k17 v18 k19 v22 m20 hm20 k21 q23 hm2 => absurd q5 rN)
        (fun y1 e2 y3 e4 q5 q9 y10 e11 y12 e13 y14 e15 v16 k17 v18 k19 v22 m20 hm20 k21 q23 hm2 => absurd q5 rN)
        (fun y1 e2 y3 e4 q5 q9 y24 e25 y26 e27 v28 k29 v30 k31 => absurd q5 rN)
        (fun y1 e2 y3 e4 q5 q9 y24 e25 y26 e27 v28 k29 v30 k31 v34 m32 hm32 k33 q35 hm2 => absurd q5 rN)
        (fun y1 e2 y3 e4 q5 q9 y24 e25 y26 e27 v28 k29 v30 k31 v34 m32 hm32 k33 q35 hm2 => absurd q5 rN)
  | some c =>
    have rT := rT c hk
    have ok := rvV_ok hb rT.2.1
    exact w_fdA (env := enV Q hu S t.toInt (nrC Q S t.toInt)) (c := c) (b := true) hm i1 i2 i3 i4 hp hb (fun _ => rT.2) ⟨t0, t8⟩ r1 hC hW hS0 t1 
        (fun y1 e2 y3 e4 q5 v6 k7 q8 hm2 => by exfalso; have := rT.1; omega)
        (fun y1 e2 y3 e4 q5 v6 k7 q8 hm2 => by exfalso; have := rT.1; omega)
        (fun y1 e2 y3 e4 q5 q9 y10 e11 y12 e13 y14 e15 v16 k17 v18 k19 => naC_V (by rw [((gi_sv_ne (by decide)).trans ((gi_sv_ne (by decide)).trans ((gi_sv_ne (by decide)).trans ((gi_sv_ne (by decide)).trans ((gi_sv_ne (by decide)).trans (gi_eqQ (isQ_of rkO_e hm) rkO_1))))))]; exact s0) (by rw [((gi_sv_ne (by decide)).trans ((gi_sv_ne (by decide)).trans ((gi_sv_ne (by decide)).trans ((gi_sv_ne (by decide)).trans (gi_eqQ (isQ_sv (isQ_of rkO_e hm)) rkO_2)))))]; exact (by rw [e11, hg.1]; exact (s4 _ t0 t1).2 q9)) (by rw [((gi_sv_ne (by decide)).trans ((gi_sv_ne (by decide)).trans ((gi_sv_ne (by decide)).trans (gi_eqQ (isQ_sv (isQ_sv (isQ_of rkO_e hm))) rkO_3)))), e13]; exact hg.2) (by rw [((gi_sv_ne (by decide)).trans ((gi_sv_ne (by decide)).trans (gi_eqQ (isQ_sv (isQ_sv (isQ_sv (isQ_of rkO_e hm)))) rkO_4))), e15]; exact s2 _ t0 t1) (by rw [((gi_sv_ne (by decide)).trans (gi_eqQ (isQ_sv (isQ_sv (isQ_sv (isQ_sv (isQ_of rkO_e hm))))) rkO_5)), k17, s1]) (fun _ => by rw [(gi_eqQ (isQ_sv (isQ_sv (isQ_sv (isQ_sv (isQ_sv (isQ_of rkO_e hm)))))) rkO_6)]; exact k19))
        (fun y1 e2 y3 e4 q5 q9 y10 e11 y12 e13 y14 e15 v16 k17 v18 k19 v22 m20 hm20 k21 q23 hm2 => ⟨0, rfl, hm2, onl_tr (onl_sv rfl (onl_sv rfl (onl_sv rfl (onl_sv rfl (onl_sv rfl (onl_sv rfl onl_rf)))))) (onl_up k21.1 rfl), Or.inr ⟨rfl, fun z => by have z1 := (fdC_1 hk).1 z; have z2 := k21.2; omega⟩⟩)
        (fun y1 e2 y3 e4 q5 q9 y10 e11 y12 e13 y14 e15 v16 k17 v18 k19 v22 m20 hm20 k21 q23 hm2 => ⟨1, rfl, hm2, onl_tr (onl_sv rfl (onl_sv rfl (onl_sv rfl (onl_sv rfl (onl_sv rfl (onl_sv rfl onl_rf)))))) (onl_up k21.1 rfl), Or.inl ⟨rfl, (fdC_1 hk).2 (by have z2 := k21.2; have z3 := ok.2.2 rfl; omega)⟩⟩)
        (fun y1 e2 y3 e4 q5 q9 y24 e25 y26 e27 v28 k29 v30 k31 => naC_V (by rw [((gi_sv_ne (by decide)).trans ((gi_sv_ne (by decide)).trans ((gi_sv_ne (by decide)).trans ((gi_sv_ne (by decide)).trans ((gi_sv_ne (by decide)).trans (gi_eqQ (isQ_of rkO_e hm) rkO_1))))))]; exact s0) (by rw [((gi_sv_ne (by decide)).trans ((gi_sv_ne (by decide)).trans ((gi_sv_ne (by decide)).trans ((gi_sv_ne (by decide)).trans (gi_eqQ (isQ_sv (isQ_of rkO_e hm)) rkO_2)))))]; exact (s4 _ t0 t1).1 q9) (by rw [((gi_sv_ne (by decide)).trans ((gi_sv_ne (by decide)).trans ((gi_sv_ne (by decide)).trans (gi_eqQ (isQ_sv (isQ_sv (isQ_of rkO_e hm))) rkO_3)))), e25]; exact hg.2) (by rw [((gi_sv_ne (by decide)).trans ((gi_sv_ne (by decide)).trans (gi_eqQ (isQ_sv (isQ_sv (isQ_sv (isQ_of rkO_e hm)))) rkO_4))), e27]; exact s2 _ t0 t1) (by rw [((gi_sv_ne (by decide)).trans (gi_eqQ (isQ_sv (isQ_sv (isQ_sv (isQ_sv (isQ_of rkO_e hm))))) rkO_5)), k29, s1]) (fun _ => by rw [(gi_eqQ (isQ_sv (isQ_sv (isQ_sv (isQ_sv (isQ_sv (isQ_of rkO_e hm)))))) rkO_6)]; exact k31))
        (fun y1 e2 y3 e4 q5 q9 y24 e25 y26 e27 v28 k29 v30 k31 v34 m32 hm32 k33 q35 hm2 => ⟨0, rfl, hm2, onl_tr (onl_sv rfl (onl_sv rfl (onl_sv rfl (onl_sv rfl (onl_sv rfl (onl_sv rfl onl_rf)))))) (onl_up k33.1 rfl), Or.inr ⟨rfl, fun z => by have z1 := (fdC_1 hk).1 z; have z2 := k33.2; omega⟩⟩)
        (fun y1 e2 y3 e4 q5 q9 y24 e25 y26 e27 v28 k29 v30 k31 v34 m32 hm32 k33 q35 hm2 => ⟨1, rfl, hm2, onl_tr (onl_sv rfl (onl_sv rfl (onl_sv rfl (onl_sv rfl (onl_sv rfl (onl_sv rfl onl_rf)))))) (onl_up k33.1 rfl), Or.inl ⟨rfl, (fdC_1 hk).2 (by have z2 := k33.2; have z3 := ok.2.2 rfl; omega)⟩⟩)
set_option maxRecDepth 100000 in
theorem w_lsA {d : Nat} {mem : zM} {P : Option Value → zM → Prop} {t : Int32} (hm : aTm aT0 mem) {s : Nat} (sVO_e : aat aT0 s = some (.inr (8, sVO s))) (aR_s1 : aat aT0 (s + 1) = some (.inl (false, 0, 9, .inl (-2147483648, 2147483647)))) (aR_s2 : aat aT0 (s + 2) = some (.inl (false, 0, 6, .inl (-2147483648, 2147483647)))) (hs : (31 ≤ s ∧ s ≤ 216) ∧ (s < 38 ∨ 192 ≤ s)) {env : Int → Int} {c : List Int} {b : Bool} (hp : zfl mem 181 0 = some (.ref 2)) (he : ∀ w, -1000000 ≤ env w ∧ env w ≤ 1000000) (hT : gn (ga mem 12) 2 < gn (ga mem 13) 2 → rlT 11 12 13 2 c b mem) (t0 : 0 ≤ t.toInt ∧ t.toInt ≤ 8) (r1 : 0 ≤ (gi mem s 1).toInt ∧ (gi mem s 1).toInt ≤ 511) (h1 : ∀ (y1 : Int32), y1.toInt = (gn (ga mem 13) 2) → ∀ (y3 : Int32), y3.toInt = (gn (ga mem 12) 2) → (gn (ga mem 13) 2) ≤ (gn (ga mem 12) 2) → aTm aT0 mem → P (some (.int 0)) mem) (s1 : ∀ (y1 : Int32), y1.toInt = (gn (ga mem 13) 2) → ∀ (y3 : Int32), y3.toInt = (gn (ga mem 12) 2) → (gn (ga mem 12) 2) < (gn (ga mem 13) 2) → ¬ (t).toInt = (gi mem s 4).toInt → ∀ (y7 : Int32), y7.toInt = (gn (ga mem 5) (t).toInt) → ∀ (y9 : Int32), y9.toInt = (gn (ga mem 6) (t).toInt) → ∀ (y11 : Int32), y11.toInt = (gn (ga mem (s + 1)) (t).toInt) → ∀ (v13 : Int32), v13.toInt = pop (gi mem s 1) → ∀ w, isE (10000 + w) → 10000 + w ∈ c → naC (si (si (si (si (si mem 182 1 (gi mem s 0)) 182 2 y7) 182 3 y9) 182 4 y11) 182 5 v13) w = env w) (h2 : ∀ (y1 : Int32), y1.toInt = (gn (ga mem 13) 2) → ∀ (y3 : Int32), y3.toInt = (gn (ga mem 12) 2) → (gn (ga mem 12) 2) < (gn (ga mem 13) 2) → ¬ (t).toInt = (gi mem s 4).toInt → ∀ (y7 : Int32), y7.toInt = (gn (ga mem 5) (t).toInt) → ∀ (y9 : Int32), y9.toInt = (gn (ga mem 6) (t).toInt) → ∀ (y11 : Int32), y11.toInt = (gn (ga mem (s + 1)) (t).toInt) → ∀ (v13 : Int32), v13.toInt = pop (gi mem s 1) → ∀ (v17 : Int32) (m15 : zM), aTm aT0 m15 → (onl [183] (si (si (si (si (si mem 182 1 (gi mem s 0)) 182 2 y7) 182 3 y9) 182 4 y11) 182 5 v13) m15 ∧ v17.toInt = rvV env c) → (v17).toInt = 0 → aTm aT0 m15 → P (some (.int 0)) m15) (h3 : ∀ (y1 : Int32), y1.toInt = (gn (ga mem 13) 2) → ∀ (y3 : Int32), y3.toInt = (gn (ga mem 12) 2) → (gn (ga mem 12) 2) < (gn (ga mem 13) 2) → ¬ (t).toInt = (gi mem s 4).toInt → ∀ (y7 : Int32), y7.toInt = (gn (ga mem 5) (t).toInt) → ∀ (y9 : Int32), y9.toInt = (gn (ga mem 6) (t).toInt) → ∀ (y11 : Int32), y11.toInt = (gn (ga mem (s + 1)) (t).toInt) → ∀ (v13 : Int32), v13.toInt = pop (gi mem s 1) → ∀ (v17 : Int32) (m15 : zM), aTm aT0 m15 → (onl [183] (si (si (si (si (si mem 182 1 (gi mem s 0)) 182 2 y7) 182 3 y9) 182 4 y11) 182 5 v13) m15 ∧ v17.toInt = rvV env c) → ¬ (v17).toInt = 0 → aTm aT0 m15 → P (some (.int 1)) m15) (s2 : ∀ (y1 : Int32), y1.toInt = (gn (ga mem 13) 2) → ∀ (y3 : Int32), y3.toInt = (gn (ga mem 12) 2) → (gn (ga mem 12) 2) < (gn (ga mem 13) 2) → (t).toInt = (gi mem s 4).toInt → ∀ (y19 : Int32), y19.toInt = (gn (ga mem 6) (t).toInt) → ∀ (y21 : Int32), y21.toInt = (gn (ga mem (s + 1)) (t).toInt) → ∀ (v23 : Int32), v23.toInt = pop (gi mem s 1) → ∀ w, isE (10000 + w) → 10000 + w ∈ c → naC (si (si (si (si (si mem 182 1 (gi mem s 0)) 182 2 (gi mem s 5)) 182 3 y19) 182 4 y21) 182 5 v23) w = env w) (h4 : ∀ (y1 : Int32), y1.toInt = (gn (ga mem 13) 2) → ∀ (y3 : Int32), y3.toInt = (gn (ga mem 12) 2) → (gn (ga mem 12) 2) < (gn (ga mem 13) 2) → (t).toInt = (gi mem s 4).toInt → ∀ (y19 : Int32), y19.toInt = (gn (ga mem 6) (t).toInt) → ∀ (y21 : Int32), y21.toInt = (gn (ga mem (s + 1)) (t).toInt) → ∀ (v23 : Int32), v23.toInt = pop (gi mem s 1) → ∀ (v27 : Int32) (m25 : zM), aTm aT0 m25 → (onl [183] (si (si (si (si (si mem 182 1 (gi mem s 0)) 182 2 (gi mem s 5)) 182 3 y19) 182 4 y21) 182 5 v23) m25 ∧ v27.toInt = rvV env c) → (v27).toInt = 0 → aTm aT0 m25 → P (some (.int 0)) m25) (h5 : ∀ (y1 : Int32), y1.toInt = (gn (ga mem 13) 2) → ∀ (y3 : Int32), y3.toInt = (gn (ga mem 12) 2) → (gn (ga mem 12) 2) < (gn (ga mem 13) 2) → (t).toInt = (gi mem s 4).toInt → ∀ (y19 : Int32), y19.toInt = (gn (ga mem 6) (t).toInt) → ∀ (y21 : Int32), y21.toInt = (gn (ga mem (s + 1)) (t).toInt) → ∀ (v23 : Int32), v23.toInt = pop (gi mem s 1) → ∀ (v27 : Int32) (m25 : zM), aTm aT0 m25 → (onl [183] (si (si (si (si (si mem 182 1 (gi mem s 0)) 182 2 (gi mem s 5)) 182 3 y19) 182 4 y21) 182 5 v23) m25 ∧ v27.toInt = rvV env c) → ¬ (v27).toInt = 0 → aTm aT0 m25 → P (some (.int 1)) m25) : yR zpg tX0_isLost (d + 6) (0, [(0, .ref 181), (1, .ref s), (2, .int t)], [], mem) P := by
  refine yR_m 1 (fun _ _ _ _ => rfl) ?_
  refine wR_gq rfl hrO_e hm hp ?_
  refine wR_gr rfl quA_e quA_17 hm ?_
  refine yR_m 1 (fun _ _ _ _ => rfl) ?_
  refine wR_iv rfl rfl rlA_e hm rfl rfl rfl rfl ?_
  show yR zpg tX7_isTold (d + 5) (0, [(0, .ref 10), (1, .int 2)], [], mem) _
  refine yR_m 1 (fun _ _ _ _ => rfl) ?_
  refine wR_gr rfl rlA_e rlA_2 hm ?_
  refine yR_m 1 (fun _ _ _ _ => rfl) ?_
  refine wN_al (a := 2) rfl aR_13 hm rfl rfl (by decide) (fun y1 e2 => ?_)
  refine yR_m 1 (fun _ _ _ _ => rfl) ?_
  refine wR_gr rfl rlA_e rlA_1 hm ?_
  refine yR_m 1 (fun _ _ _ _ => rfl) ?_
  refine wN_al (a := 2) rfl aR_12 hm rfl rfl (by decide) (fun y3 e4 => ?_)
  refine wR_ic_le rfl (a := (gn (ga mem 13) 2)) (c := (gn (ga mem 12) 2)) e2 e4 (fun q5 => ?_) (fun q5 => ?_)
  ·
    refine yR_m 1 (fun _ _ _ _ => rfl) ?_
    refine yR_rz rfl ⟨by decide, by decide⟩ ?_
    show yR zpg tX0_isLost (d + 6) (11, [(0, .ref 181), (1, .ref s), (2, .int t)], [.int 0], mem) _
    refine wR_if_ne rfl (a := 0) rfl (fun q => by exfalso; omega) (fun _ => ?_)
    refine yR_m 1 (fun _ _ _ _ => rfl) ?_
    exact yR_rz rfl ⟨by decide, by decide⟩ (h1 y1 e2 y3 e4 q5 hm)
  ·
    refine yR_m 2 (fun _ _ _ _ => rfl) ?_
    refine yR_rz rfl ⟨by decide, by decide⟩ ?_
    show yR zpg tX0_isLost (d + 6) (11, [(0, .ref 181), (1, .ref s), (2, .int t)], [.int 1], mem) _
    refine wR_if_ne rfl (a := 1) rfl (fun _ => ?_) (fun q => by exfalso; omega)
    refine yR_m 3 (fun _ _ _ _ => rfl) ?_
    refine wR_iv rfl rfl hrO_e hm rfl rfl rfl rfl ?_
    show yR zpg tX0_setOut (d + 5) (0, [(0, .ref 181), (1, .ref s), (2, .int t)], [], mem) _
    refine yR_m 1 (fun _ _ _ _ => rfl) ?_
    refine wR_gr rfl hrO_e hrO_1 hm ?_
    refine yR_m 1 (fun _ _ _ _ => rfl) ?_
    refine wR_gi rfl sVO_e sVO_0 hm rfl ?_
    refine wR_pi rfl rkO_e rkO_1 hm rfl ?_
    have hm_1 : aTm aT0 (si mem 182 1 (gi mem s 0)) := tm_si rkO_e rkO_1 hm (i32_b _)
    refine yR_m 1 (fun _ _ _ _ => rfl) ?_
    refine wR_gr rfl hrO_e hrO_1 hm_1 ?_
    refine yR_m 3 (fun _ _ _ _ => rfl) ?_
    refine wR_iv rfl rfl hrO_e hm_1 rfl rfl rfl rfl ?_
    show yR zpg tX0_hueOf (d + 4) (0, [(0, .ref 181), (1, .ref s), (2, .int t)], [], (si mem 182 1 (gi mem s 0))) _
    refine yR_m 2 (fun _ _ _ _ => rfl) ?_
    refine wR_gi rfl sVO_e sVO_4 hm_1 (gi_sv_ne (by first | decide | omega)) ?_
    refine wR_ic_ne rfl (a := (t).toInt) (c := (gi mem s 4).toInt) rfl rfl (fun q6 => ?_) (fun q6 => ?_)
    ·
      refine yR_m 1 (fun _ _ _ _ => rfl) ?_
      refine wR_gq rfl hrO_e hm_1 ((zfl_sv_ne (by first | decide | omega)).trans hp) ?_
      refine wR_gr rfl quA_e quA_10 hm_1 ?_
      refine yR_m 1 (fun _ _ _ _ => rfl) ?_
      refine wN_al (a := (t).toInt) rfl aR_5 hm_1 (ga_sv) rfl (by omega) (fun y7 e8 => ?_)
      refine yR_ri rfl ?_
      show yR zpg tX0_setOut (d + 5) (21, [(0, .ref 181), (1, .ref s), (2, .int t)], [.int y7, .ref 182], (si mem 182 1 (gi mem s 0))) _
      refine wR_pi rfl rkO_e rkO_2 hm_1 rfl ?_
      have hm_2 : aTm aT0 (si (si mem 182 1 (gi mem s 0)) 182 2 y7) := tm_si rkO_e rkO_2 hm_1 (i32_b _)
      refine yR_m 1 (fun _ _ _ _ => rfl) ?_
      refine wR_gr rfl hrO_e hrO_1 hm_2 ?_
      refine yR_m 1 (fun _ _ _ _ => rfl) ?_
      refine wR_gq rfl hrO_e hm_2 ((zfl_sv_ne (by first | decide | omega)).trans ((zfl_sv_ne (by first | decide | omega)).trans hp)) ?_
      refine wR_gr rfl quA_e quA_11 hm_2 ?_
      refine yR_m 1 (fun _ _ _ _ => rfl) ?_
      refine wN_al (a := (t).toInt) rfl aR_6 hm_2 ((ga_sv).trans (ga_sv)) rfl (by omega) (fun y9 e10 => ?_)
      refine wR_pi rfl rkO_e rkO_3 hm_2 rfl ?_
      have hm_3 : aTm aT0 (si (si (si mem 182 1 (gi mem s 0)) 182 2 y7) 182 3 y9) := tm_si rkO_e rkO_3 hm_2 (i32_b _)
      refine yR_m 1 (fun _ _ _ _ => rfl) ?_
      refine wR_gr rfl hrO_e hrO_1 hm_3 ?_
      refine yR_m 1 (fun _ _ _ _ => rfl) ?_
      refine wR_gr rfl sVO_e sVO_2 hm_3 ?_
      refine yR_m 1 (fun _ _ _ _ => rfl) ?_
      refine wN_al (a := (t).toInt) rfl aR_s1 hm_3 ((ga_sv).trans ((ga_sv).trans (ga_sv))) rfl (by omega) (fun y11 e12 => ?_)
      refine wR_pi rfl rkO_e rkO_4 hm_3 rfl ?_
      have hm_4 : aTm aT0 (si (si (si (si mem 182 1 (gi mem s 0)) 182 2 y7) 182 3 y9) 182 4 y11) := tm_si rkO_e rkO_4 hm_3 (i32_b _)
      refine yR_m 1 (fun _ _ _ _ => rfl) ?_
      refine wR_gr rfl hrO_e hrO_1 hm_4 ?_
      refine yR_m 1 (fun _ _ _ _ => rfl) ?_
      refine wR_gi rfl sVO_e sVO_1 hm_4 ((gi_sv_ne (by first | decide | omega)).trans ((gi_sv_ne (by first | decide | omega)).trans ((gi_sv_ne (by first | decide | omega)).trans (gi_sv_ne (by first | decide | omega))))) ?_
      refine yR_cs rfl rfl rfl (h_bc hm_4 (by omega) (by omega)) ?_
      rintro _ _ ⟨v13, rfl, rfl, k14⟩
      show yR zpg tX0_setOut (d + 5) (64, [(0, .ref 181), (1, .ref s), (2, .int t)], [.int v13, .ref 182], (si (si (si (si mem 182 1 (gi mem s 0)) 182 2 y7) 182 3 y9) 182 4 y11)) _
      refine wR_pi rfl rkO_e rkO_5 hm_4 rfl ?_
      have hm_5 : aTm aT0 (si (si (si (si (si mem 182 1 (gi mem s 0)) 182 2 y7) 182 3 y9) 182 4 y11) 182 5 v13) := tm_si rkO_e rkO_5 hm_4 (i32_b _)
      refine yR_rv rfl ?_
      show yR zpg tX0_isLost (d + 6) (22, [(0, .ref 181), (1, .ref s), (2, .int t)], [], (si (si (si (si (si mem 182 1 (gi mem s 0)) 182 2 y7) 182 3 y9) 182 4 y11) 182 5 v13)) _
      refine yR_m 1 (fun _ _ _ _ => rfl) ?_
      refine wR_gr rfl hrO_e hrO_1 hm_5 ?_
      refine yR_m 1 (fun _ _ _ _ => rfl) ?_
      refine wR_gq rfl hrO_e hm_5 ((zfl_sv_ne (by first | decide | omega)).trans ((zfl_sv_ne (by first | decide | omega)).trans ((zfl_sv_ne (by first | decide | omega)).trans ((zfl_sv_ne (by first | decide | omega)).trans ((zfl_sv_ne (by first | decide | omega)).trans hp))))) ?_
      refine wR_gr rfl quA_e quA_17 hm_5 ?_
      refine yR_m 1 (fun _ _ _ _ => rfl) ?_
      refine wR_cv rfl rfl rkO_e hm_5 rfl (h_vrA (env := env) (c := c) (b := b) (w := 2) hm_5 rfl (by decide) he (s1 y1 e2 y3 e4 q5 q6 y7 e8 y9 e10 y11 e12 v13 k14) (rlT_q ((ga_sv).trans ((ga_sv).trans ((ga_sv).trans ((ga_sv).trans (ga_sv))))) ((ga_sv).trans ((ga_sv).trans ((ga_sv).trans ((ga_sv).trans (ga_sv))))) ((ga_sv).trans ((ga_sv).trans ((ga_sv).trans ((ga_sv).trans (ga_sv))))) (hT q5)) (by omega)) ?_
      rintro _ m15 ⟨v17, rfl, hm15, k16⟩
      show yR zpg tX0_isLost (d + 6) (37, [(0, .ref 181), (1, .ref s), (2, .int t)], [.int v17], m15) _
      refine wR_if_eq rfl (a := (v17).toInt) rfl (fun q18 => ?_) (fun q18 => ?_)
      ·
        refine yR_m 1 (fun _ _ _ _ => rfl) ?_
        exact yR_rz rfl ⟨by decide, by decide⟩ (h2 y1 e2 y3 e4 q5 q6 y7 e8 y9 e10 y11 e12 v13 k14 v17 m15 hm15 k16 q18 hm15)
      ·
        refine yR_m 2 (fun _ _ _ _ => rfl) ?_
        exact yR_rz rfl ⟨by decide, by decide⟩ (h3 y1 e2 y3 e4 q5 q6 y7 e8 y9 e10 y11 e12 v13 k14 v17 m15 hm15 k16 q18 hm15)
    ·
      refine yR_m 1 (fun _ _ _ _ => rfl) ?_
      refine wR_gi rfl sVO_e sVO_5 hm_1 (gi_sv_ne (by first | decide | omega)) ?_
      refine yR_m 1 (fun _ _ _ _ => rfl) ?_
      refine yR_ri rfl ?_
      show yR zpg tX0_setOut (d + 5) (21, [(0, .ref 181), (1, .ref s), (2, .int t)], [.int (gi mem s 5), .ref 182], (si mem 182 1 (gi mem s 0))) _
      refine wR_pi rfl rkO_e rkO_2 hm_1 rfl ?_
      have hm_6 : aTm aT0 (si (si mem 182 1 (gi mem s 0)) 182 2 (gi mem s 5)) := tm_si rkO_e rkO_2 hm_1 (i32_b _)
      refine yR_m 1 (fun _ _ _ _ => rfl) ?_
      refine wR_gr rfl hrO_e hrO_1 hm_6 ?_
      refine yR_m 1 (fun _ _ _ _ => rfl) ?_
      refine wR_gq rfl hrO_e hm_6 ((zfl_sv_ne (by first | decide | omega)).trans ((zfl_sv_ne (by first | decide | omega)).trans hp)) ?_
      refine wR_gr rfl quA_e quA_11 hm_6 ?_
      refine yR_m 1 (fun _ _ _ _ => rfl) ?_
      refine wN_al (a := (t).toInt) rfl aR_6 hm_6 ((ga_sv).trans (ga_sv)) rfl (by omega) (fun y19 e20 => ?_)
      refine wR_pi rfl rkO_e rkO_3 hm_6 rfl ?_
      have hm_7 : aTm aT0 (si (si (si mem 182 1 (gi mem s 0)) 182 2 (gi mem s 5)) 182 3 y19) := tm_si rkO_e rkO_3 hm_6 (i32_b _)
      refine yR_m 1 (fun _ _ _ _ => rfl) ?_
      refine wR_gr rfl hrO_e hrO_1 hm_7 ?_
      refine yR_m 1 (fun _ _ _ _ => rfl) ?_
      refine wR_gr rfl sVO_e sVO_2 hm_7 ?_
      refine yR_m 1 (fun _ _ _ _ => rfl) ?_
      refine wN_al (a := (t).toInt) rfl aR_s1 hm_7 ((ga_sv).trans ((ga_sv).trans (ga_sv))) rfl (by omega) (fun y21 e22 => ?_)
      refine wR_pi rfl rkO_e rkO_4 hm_7 rfl ?_
      have hm_8 : aTm aT0 (si (si (si (si mem 182 1 (gi mem s 0)) 182 2 (gi mem s 5)) 182 3 y19) 182 4 y21) := tm_si rkO_e rkO_4 hm_7 (i32_b _)
      refine yR_m 1 (fun _ _ _ _ => rfl) ?_
      refine wR_gr rfl hrO_e hrO_1 hm_8 ?_
      refine yR_m 1 (fun _ _ _ _ => rfl) ?_
      refine wR_gi rfl sVO_e sVO_1 hm_8 ((gi_sv_ne (by first | decide | omega)).trans ((gi_sv_ne (by first | decide | omega)).trans ((gi_sv_ne (by first | decide | omega)).trans (gi_sv_ne (by first | decide | omega))))) ?_
      refine yR_cs rfl rfl rfl (h_bc hm_8 (by omega) (by omega)) ?_
      rintro _ _ ⟨v23, rfl, rfl, k24⟩
      show yR zpg tX0_setOut (d + 5) (64, [(0, .ref 181), (1, .ref s), (2, .int t)], [.int v23, .ref 182], (si (si (si (si mem 182 1 (gi mem s 0)) 182 2 (gi mem s 5)) 182 3 y19) 182 4 y21)) _
      refine wR_pi rfl rkO_e rkO_5 hm_8 rfl ?_
      have hm_9 : aTm aT0 (si (si (si (si (si mem 182 1 (gi mem s 0)) 182 2 (gi mem s 5)) 182 3 y19) 182 4 y21) 182 5 v23) := tm_si rkO_e rkO_5 hm_8 (i32_b _)
      refine yR_rv rfl ?_
      show yR zpg tX0_isLost (d + 6) (22, [(0, .ref 181), (1, .ref s), (2, .int t)], [], (si (si (si (si (si mem 182 1 (gi mem s 0)) 182 2 (gi mem s 5)) 182 3 y19) 182 4 y21) 182 5 v23)) _
      refine yR_m 1 (fun _ _ _ _ => rfl) ?_
      refine wR_gr rfl hrO_e hrO_1 hm_9 ?_
      refine yR_m 1 (fun _ _ _ _ => rfl) ?_
      refine wR_gq rfl hrO_e hm_9 ((zfl_sv_ne (by first | decide | omega)).trans ((zfl_sv_ne (by first | decide | omega)).trans ((zfl_sv_ne (by first | decide | omega)).trans ((zfl_sv_ne (by first | decide | omega)).trans ((zfl_sv_ne (by first | decide | omega)).trans hp))))) ?_
      refine wR_gr rfl quA_e quA_17 hm_9 ?_
      refine yR_m 1 (fun _ _ _ _ => rfl) ?_
      refine wR_cv rfl rfl rkO_e hm_9 rfl (h_vrA (env := env) (c := c) (b := b) (w := 2) hm_9 rfl (by decide) he (s2 y1 e2 y3 e4 q5 q6 y19 e20 y21 e22 v23 k24) (rlT_q ((ga_sv).trans ((ga_sv).trans ((ga_sv).trans ((ga_sv).trans (ga_sv))))) ((ga_sv).trans ((ga_sv).trans ((ga_sv).trans ((ga_sv).trans (ga_sv))))) ((ga_sv).trans ((ga_sv).trans ((ga_sv).trans ((ga_sv).trans (ga_sv))))) (hT q5)) (by omega)) ?_
      rintro _ m25 ⟨v27, rfl, hm25, k26⟩
      show yR zpg tX0_isLost (d + 6) (37, [(0, .ref 181), (1, .ref s), (2, .int t)], [.int v27], m25) _
      refine wR_if_eq rfl (a := (v27).toInt) rfl (fun q28 => ?_) (fun q28 => ?_)
      ·
        refine yR_m 1 (fun _ _ _ _ => rfl) ?_
        exact yR_rz rfl ⟨by decide, by decide⟩ (h4 y1 e2 y3 e4 q5 q6 y19 e20 y21 e22 v23 k24 v27 m25 hm25 k26 q28 hm25)
      ·
        refine yR_m 2 (fun _ _ _ _ => rfl) ?_
        exact yR_rz rfl ⟨by decide, by decide⟩ (h5 y1 e2 y3 e4 q5 q6 y19 e20 y21 e22 v23 k24 v27 m25 hm25 k26 q28 hm25)

theorem h_lsA {s : Nat} {t : Int32} (hm : aTm aT0 mem) (hp : zfl mem 181 0 = some (.ref 2)) (hC : cQ 2 3 4 7 8 9 12 13 Q mem) (hW : WQ Q) (hi : isS s) (hS : tS s Q hu S mem) (hv : wS Q S) (hH : wH Q hu) (t0 : 0 ≤ t.toInt) (t1 : t.toInt < thN Q) (hd : 7 ≤ d) : yC zpg d 13 [.ref 181, .ref s, .int t] mem (fun r m => ∃ v : Int32, r = some (.int v) ∧ aTm aT0 m ∧ (onl [182, 183] mem m ∧ is1 v (lsC Q hu S t.toInt))) := by
  obtain ⟨d, rfl⟩ : ∃ q, d = q + 7 := ⟨d - 7, by omega⟩
  obtain ⟨i1, i2, i3, i4⟩ := hi
  obtain ⟨⟨s0, s1⟩, s2, s3, s4⟩ := hS
  have t8 : t.toInt ≤ 8 := by
    have := hW.2.1.1
    unfold thN at t1
    omega
  have hg := cq_gA hC t0 t1
  obtain ⟨rT, rN⟩ := cq_rA hm hW hC (w := 2) (by decide) (by decide)
  have hb := enV_b hW hv hH t0 t1 (nr := 0) (by decide) (by decide)
  have r1 := hv.2.1.1
  rw [← s1] at r1
  refine yC_of (t := tX0_isLost) rfl rfl ?_
  cases hk : (Qk Q).lookup 2 with
  | none =>
    have rN := rN hk
    exact w_lsA (env := enV Q hu S t.toInt 0) (c := []) (b := true) hm i1 i2 i3 i4 hp hb (fun z => absurd z rN) ⟨t0, t8⟩ r1 
        (fun y1 e2 y3 e4 q5 hm2 => ⟨0, rfl, hm2, onl_rf, Or.inr ⟨rfl, lsC_0 hk⟩⟩)
        (fun y1 e2 y3 e4 q5 q6 y7 e8 y9 e10 y11 e12 v13 k14 => absurd q5 rN)
        (fun y1 e2 y3 e4 q5 q6 y7 e8 y9 e10 y11 e12 v13 k14 v17 m15 hm15 k16 q18 hm2 => absurd q5 rN)
        (fun y1 e2 y3 e4 q5 q6 y7 e8 y9 e10 y11 e12 v13 k14 v17 m15 hm15 k16 q18 hm2 => absurd q5 rN)
        (fun y1 e2 y3 e4 q5 q6 y19 e20 y21 e22 v23 k24 => absurd q5 rN)
        (fun y1 e2 y3 e4 q5 q6 y19 e20 y21 e22 v23 k24 v27 m25 hm25 k26 q28 hm2 => absurd q5 rN)
        (fun y1 e2 y3 e4 q5 q6 y19 e20 y21 e22 v23 k24 v27 m25 hm25 k26 q28 hm2 => absurd q5 rN)
  | some c =>
    have rT := rT c hk
    have ok := rvV_ok hb rT.2.1
    have nc := (hW.2.2.2.2.1 2 c hk).2.2 (by decide)
    exact w_lsA (env := enV Q hu S t.toInt 0) (c := c) (b := true) hm i1 i2 i3 i4 hp hb (fun _ => rT.2) ⟨t0, t8⟩ r1 
        (fun y1 e2 y3 e4 q5 hm2 => by exfalso; have := rT.1; omega)
        (fun y1 e2 y3 e4 q5 q6 y7 e8 y9 e10 y11 e12 v13 k14 => naC_V (by rw [((gi_sv_ne (by decide)).trans ((gi_sv_ne (by decide)).trans ((gi_sv_ne (by decide)).trans ((gi_sv_ne (by decide)).trans (gi_eqQ (isQ_of rkO_e hm) rkO_1)))))]; exact s0) (by rw [((gi_sv_ne (by decide)).trans ((gi_sv_ne (by decide)).trans ((gi_sv_ne (by decide)).trans (gi_eqQ (isQ_sv (isQ_of rkO_e hm)) rkO_2))))]; exact (by rw [e8, hg.1]; exact (s4 _ t0 t1).2 q6)) (by rw [((gi_sv_ne (by decide)).trans ((gi_sv_ne (by decide)).trans (gi_eqQ (isQ_sv (isQ_sv (isQ_of rkO_e hm))) rkO_3))), e10]; exact hg.2) (by rw [((gi_sv_ne (by decide)).trans (gi_eqQ (isQ_sv (isQ_sv (isQ_sv (isQ_of rkO_e hm)))) rkO_4)), e12]; exact s2 _ t0 t1) (by rw [(gi_eqQ (isQ_sv (isQ_sv (isQ_sv (isQ_sv (isQ_of rkO_e hm))))) rkO_5), k14, s1]) (fun z => absurd z nc))
        (fun y1 e2 y3 e4 q5 q6 y7 e8 y9 e10 y11 e12 v13 k14 v17 m15 hm15 k16 q18 hm2 => ⟨0, rfl, hm2, onl_tr (onl_sv rfl (onl_sv rfl (onl_sv rfl (onl_sv rfl (onl_sv rfl onl_rf))))) (onl_up k16.1 rfl), Or.inr ⟨rfl, fun z => by have z1 := (lsC_1 hk).1 z; have z2 := k16.2; omega⟩⟩)
        (fun y1 e2 y3 e4 q5 q6 y7 e8 y9 e10 y11 e12 v13 k14 v17 m15 hm15 k16 q18 hm2 => ⟨1, rfl, hm2, onl_tr (onl_sv rfl (onl_sv rfl (onl_sv rfl (onl_sv rfl (onl_sv rfl onl_rf))))) (onl_up k16.1 rfl), Or.inl ⟨rfl, (lsC_1 hk).2 (by have z2 := k16.2; have z3 := ok.2.2 rfl; omega)⟩⟩)
        (fun y1 e2 y3 e4 q5 q6 y19 e20 y21 e22 v23 k24 => naC_V (by rw [((gi_sv_ne (by decide)).trans ((gi_sv_ne (by decide)).trans ((gi_sv_ne (by decide)).trans ((gi_sv_ne (by decide)).trans (gi_eqQ (isQ_of rkO_e hm) rkO_1)))))]; exact s0) (by rw [((gi_sv_ne (by decide)).trans ((gi_sv_ne (by decide)).trans ((gi_sv_ne (by decide)).trans (gi_eqQ (isQ_sv (isQ_of rkO_e hm)) rkO_2))))]; exact (s4 _ t0 t1).1 q6) (by rw [((gi_sv_ne (by decide)).trans ((gi_sv_ne (by decide)).trans (gi_eqQ (isQ_sv (isQ_sv (isQ_of rkO_e hm))) rkO_3))), e20]; exact hg.2) (by rw [((gi_sv_ne (by decide)).trans (gi_eqQ (isQ_sv (isQ_sv (isQ_sv (isQ_of rkO_e hm)))) rkO_4)), e22]; exact s2 _ t0 t1) (by rw [(gi_eqQ (isQ_sv (isQ_sv (isQ_sv (isQ_sv (isQ_of rkO_e hm))))) rkO_5), k24, s1]) (fun z => absurd z nc))
        (fun y1 e2 y3 e4 q5 q6 y19 e20 y21 e22 v23 k24 v27 m25 hm25 k26 q28 hm2 => ⟨0, rfl, hm2, onl_tr (onl_sv rfl (onl_sv rfl (onl_sv rfl (onl_sv rfl (onl_sv rfl onl_rf))))) (onl_up k26.1 rfl), Or.inr ⟨rfl, fun z => by have z1 := (lsC_1 hk).1 z; have z2 := k26.2; omega⟩⟩)
        (fun y1 e2 y3 e4 q5 q6 y19 e20 y21 e22 v23 k24 v27 m25 hm25 k26 q28 hm2 => ⟨1, rfl, hm2, onl_tr (onl_sv rfl (onl_sv rfl (onl_sv rfl (onl_sv rfl (onl_sv rfl onl_rf))))) (onl_up k26.1 rfl), Or.inl ⟨rfl, (lsC_1 hk).2 (by have z2 := k26.2; have z3 := ok.2.2 rfl; omega)⟩⟩)
end NEA
section NEB
variable {d : Nat} {mem : zM} {Q : Qd} {S : Sd} {hu : Int → Int}
set_option maxRecDepth 100000 in
theorem w_nr0B {d : Nat} {mem : zM} {P : Option Value → zM → Prop} {s : Nat} {t : Int32} {lo : List (Nat × Value)} (hm : aTm aT0 mem) (l_0 : zlg lo 0 = some (.ref 181)) (l_1 : zlg lo 1 = some (.ref s)) (l_2 : zlg lo 2 = some (.int t)) (h1 : ∀ lo, zlg lo 0 = some (.ref 181) → zlg lo 1 = some (.ref s) → zlg lo 2 = some (.int t) → zlg lo 3 = some (.int 0) → zlg lo 4 = some (.int 0) → aTm aT0 mem → yR zpg tX0_near d (5, lo, [], mem) P) : yR zpg tX0_near d (0, lo, [], mem) P := by
  refine yR_m 1 (fun _ _ _ _ => rfl) ?_
  refine wR_si rfl rfl (fun lo1 e2 f3 => ?_)
  have lo1_0 := f3 0 _ (by decide) (Or.inl rfl) l_0
  have lo1_1 := f3 1 _ (by decide) (Or.inl rfl) l_1
  have lo1_2 := f3 2 _ (by decide) (Or.inl rfl) l_2
  refine yR_m 1 (fun _ _ _ _ => rfl) ?_
  refine wR_si rfl rfl (fun lo4 e5 f6 => ?_)
  have lo4_3 := f6 3 _ (by decide) (Or.inl rfl) e2
  have lo4_0 := f6 0 _ (by decide) (Or.inl rfl) lo1_0
  have lo4_1 := f6 1 _ (by decide) (Or.inl rfl) lo1_1
  have lo4_2 := f6 2 _ (by decide) (Or.inl rfl) lo1_2
  exact h1 lo4 lo4_0 lo4_1 lo4_2 lo4_3 e5 hm

set_option maxRecDepth 100000 in
theorem w_nr5B {d : Nat} {mem : zM} {P : Option Value → zM → Prop} {t n k : Int32} {s : Nat} {lo : List (Nat × Value)} (hm : aTm aT0 mem) (l_0 : zlg lo 0 = some (.ref 181)) (l_1 : zlg lo 1 = some (.ref s)) (l_2 : zlg lo 2 = some (.int t)) (l_3 : zlg lo 3 = some (.int n)) (l_4 : zlg lo 4 = some (.int k)) (sVO_e : aat aT0 s = some (.inr (8, sVO s))) (aR_s1 : aat aT0 (s + 1) = some (.inl (false, 0, 9, .inl (-2147483648, 2147483647)))) (aR_s2 : aat aT0 (s + 2) = some (.inl (false, 0, 6, .inl (-2147483648, 2147483647)))) (hs : (31 ≤ s ∧ s ≤ 216) ∧ (s < 38 ∨ 192 ≤ s)) (hp : zfl mem 181 0 = some (.ref 14)) (ht : 0 ≤ t.toInt ∧ t.toInt ≤ 8) (hn : 0 ≤ n.toInt ∧ n.toInt ≤ 6) (hk : 0 ≤ k.toInt ∧ k.toInt ≤ 6) (h1 : (gi mem 14 13).toInt ≤ (k).toInt → aTm aT0 mem → P (some (.int n)) mem) (h2 : (k).toInt < (gi mem 14 13).toInt → ∀ (y2 : Int32), y2.toInt = (gn (ga mem (s + 2)) (k).toInt) → ∀ (y4 : Int32), y4.toInt = (gn (ga mem 16) (t).toInt) → ¬ (gn (ga mem (s + 2)) (k).toInt) = (gn (ga mem 16) (t).toInt) → ∀ (x7 : Int32), x7.toInt = ((k).toInt + 1) → ∀ lo, zlg lo 0 = some (.ref 181) → zlg lo 1 = some (.ref s) → zlg lo 2 = some (.int t) → zlg lo 3 = some (.int n) → zlg lo 4 = some (.int x7) → aTm aT0 mem → yR zpg tX0_near d (5, lo, [], mem) P) (h3 : (k).toInt < (gi mem 14 13).toInt → ∀ (y2 : Int32), y2.toInt = (gn (ga mem (s + 2)) (k).toInt) → ∀ (y4 : Int32), y4.toInt = (gn (ga mem 16) (t).toInt) → (gn (ga mem (s + 2)) (k).toInt) = (gn (ga mem 16) (t).toInt) → ∀ (x12 : Int32), x12.toInt = ((n).toInt + 1) → ∀ (x17 : Int32), x17.toInt = ((k).toInt + 1) → ∀ lo, zlg lo 0 = some (.ref 181) → zlg lo 1 = some (.ref s) → zlg lo 2 = some (.int t) → zlg lo 3 = some (.int x12) → zlg lo 4 = some (.int x17) → aTm aT0 mem → yR zpg tX0_near d (5, lo, [], mem) P) : yR zpg tX0_near d (5, lo, [], mem) P := by
  have r13 := quB_r13 hm
  refine wR_li rfl l_4 ?_
  refine wR_la rfl l_0 ?_
  refine wR_gq rfl hrO_e hm hp ?_
  refine wR_gi rfl quB_e quB_13 hm rfl ?_
  refine wR_ic_ge rfl (a := (k).toInt) (c := (gi mem 14 13).toInt) rfl rfl (fun q1 => ?_) (fun q1 => ?_)
  ·
    refine wR_li rfl l_3 ?_
    exact yR_ri rfl (h1 q1 hm)
  ·
    refine wR_la rfl l_1 ?_
    refine wR_gr rfl sVO_e sVO_3 hm ?_
    refine wR_li rfl l_4 ?_
    refine wN_al (a := (k).toInt) rfl aR_s2 hm rfl rfl (by omega) (fun y2 e3 => ?_)
    refine wR_la rfl l_0 ?_
    refine wR_gq rfl hrO_e hm hp ?_
    refine wR_gr rfl quB_e quB_9 hm ?_
    refine wR_li rfl l_2 ?_
    refine wN_al (a := (t).toInt) rfl aR_16 hm rfl rfl (by omega) (fun y4 e5 => ?_)
    refine wR_ic_ne rfl (a := (gn (ga mem (s + 2)) (k).toInt)) (c := (gn (ga mem 16) (t).toInt)) e3 e5 (fun q6 => ?_) (fun q6 => ?_)
    ·
      refine wN_in (a := (k).toInt) (b := 1) rfl rfl l_4 rfl rfl (by omega) (fun x7 e8 => fun lo9 e10 f11 => ?_)
      have lo9_0 := f11 0 _ (by decide) (Or.inl rfl) l_0
      have lo9_1 := f11 1 _ (by decide) (Or.inl rfl) l_1
      have lo9_2 := f11 2 _ (by decide) (Or.inl rfl) l_2
      have lo9_3 := f11 3 _ (by decide) (Or.inl rfl) l_3
      exact yR_m 1 (fun _ _ _ _ => rfl) (h2 q1 y2 e3 y4 e5 q6 x7 e8 lo9 lo9_0 lo9_1 lo9_2 lo9_3 e10 hm)
    ·
      refine wN_in (a := (n).toInt) (b := 1) rfl rfl l_3 rfl rfl (by omega) (fun x12 e13 => fun lo14 e15 f16 => ?_)
      have lo14_0 := f16 0 _ (by decide) (Or.inl rfl) l_0
      have lo14_1 := f16 1 _ (by decide) (Or.inl rfl) l_1
      have lo14_2 := f16 2 _ (by decide) (Or.inl rfl) l_2
      have lo14_4 := f16 4 _ (by decide) (Or.inl rfl) l_4
      refine wN_in (a := (k).toInt) (b := 1) rfl rfl lo14_4 rfl rfl (by omega) (fun x17 e18 => fun lo19 e20 f21 => ?_)
      have lo19_3 := f21 3 _ (by decide) (Or.inl rfl) e15
      have lo19_0 := f21 0 _ (by decide) (Or.inl rfl) lo14_0
      have lo19_1 := f21 1 _ (by decide) (Or.inl rfl) lo14_1
      have lo19_2 := f21 2 _ (by decide) (Or.inl rfl) lo14_2
      exact yR_m 1 (fun _ _ _ _ => rfl) (h3 q1 y2 e3 y4 e5 q6 x12 e13 x17 e18 lo19 lo19_0 lo19_1 lo19_2 lo19_3 e20 hm)

theorem nr_loopB {s : Nat} {t : Int32} (hm : aTm aT0 mem) (hp : zfl mem 181 0 = some (.ref 14)) (hC : cQ 14 15 16 19 20 21 24 25 Q mem) (hi : isS s) (hS : tS s Q hu S mem) (t0 : 0 ≤ t.toInt) (t1 : t.toInt < thN Q) (t8 : t.toInt ≤ 8) (f6 : (Qf Q).length ≤ 6) : ∀ (g : Nat) (n k : Int32) (lo : List (Nat × Value)), k.toInt + (g : Int) = foN Q → 0 ≤ k.toInt → n.toInt = nrK Q S t.toInt k.toInt.toNat → zlg lo 0 = some (.ref 181) → zlg lo 1 = some (.ref s) → zlg lo 2 = some (.int t) → zlg lo 3 = some (.int n) → zlg lo 4 = some (.int k) → yR zpg tX0_near d (5, lo, [], mem) (fun r m => ∃ v : Int32, r = some (.int v) ∧ mem = m ∧ v.toInt = nrC Q S t.toInt) := by
  intro g
  have cn := (cq_nB hC).2
  have f7 : foN Q ≤ 6 := by
    unfold foN
    omega
  induction g with
  | zero =>
    intro n k lo hk k0 hn l0 l1 l2 l3 l4
    have nb := nrK_b (Q := Q) (S := S) (t := t.toInt) k.toInt.toNat
    exact w_nr5B hm l0 l1 l2 l3 l4 hi.1 hi.2.1 hi.2.2.1 hi.2.2.2 hp ⟨t0, t8⟩ (by omega) (by omega) 
        (fun q1 hm2 => ⟨_, rfl, rfl, by
          have fq : foN Q = ((Qf Q).length : Int) := rfl
          rw [hn, show k.toInt.toNat = (Qf Q).length by omega]
          rfl⟩)
        (fun q1 y2 e3 y4 e5 q6 x7 e8 lo a0 a1 a2 a3 a4 hm2 => by exfalso; omega)
        (fun q1 y2 e3 y4 e5 q6 x12 e13 x17 e18 lo a0 a1 a2 a3 a4 hm2 => by exfalso; omega)
  | succ g ih =>
    intro n k lo hk k0 hn l0 l1 l2 l3 l4
    have nb := nrK_b (Q := Q) (S := S) (t := t.toInt) k.toInt.toNat
    have ks : nrK Q S t.toInt (k.toInt.toNat + 1) = nrK Q S t.toInt k.toInt.toNat + (if Sp S ((k.toInt.toNat : Nat) : Int) = thA Q t.toInt then 1 else 0) := rfl
    rw [show ((k.toInt.toNat : Nat) : Int) = k.toInt by omega] at ks
    have es := hS.2.2.1 k.toInt k0 (by omega)
    have et := cq_tB hC t0 t1
    exact w_nr5B hm l0 l1 l2 l3 l4 hi.1 hi.2.1 hi.2.2.1 hi.2.2.2 hp ⟨t0, t8⟩ (by omega) (by omega) 
        (fun q1 hm2 => by exfalso; omega)
        (fun q1 y2 e3 y4 e5 q6 x7 e8 lo a0 a1 a2 a3 a4 hm2 => ih _ _ lo (by omega) (by omega) (by
          rw [show x7.toInt.toNat = k.toInt.toNat + 1 by omega, ks, if_neg (by rw [← es, ← et]; exact q6)]
          omega) a0 a1 a2 a3 a4)
        (fun q1 y2 e3 y4 e5 q6 x12 e13 x17 e18 lo a0 a1 a2 a3 a4 hm2 => ih _ _ lo (by omega) (by omega) (by
          rw [show x17.toInt.toNat = k.toInt.toNat + 1 by omega, ks, if_pos (by rw [← es, ← et]; exact q6)]
          omega) a0 a1 a2 a3 a4)
theorem h_nrB {s : Nat} {t : Int32} (hm : aTm aT0 mem) (hp : zfl mem 181 0 = some (.ref 14)) (hC : cQ 14 15 16 19 20 21 24 25 Q mem) (hW : WQ Q) (hi : isS s) (hS : tS s Q hu S mem) (t0 : 0 ≤ t.toInt) (t1 : t.toInt < thN Q) (hd : 1 ≤ d) : yC zpg d 16 [.ref 181, .ref s, .int t] mem (fun r m => ∃ v : Int32, r = some (.int v) ∧ mem = m ∧ v.toInt = nrC Q S t.toInt) := by
  obtain ⟨d, rfl⟩ : ∃ q, d = q + 1 := ⟨d - 1, by omega⟩
  have t8 : t.toInt ≤ 8 := by
    have := hW.2.1.1
    unfold thN at t1
    omega
  refine yC_of (t := tX0_near) rfl rfl ?_
  refine w_nr0B hm rfl rfl rfl ?_
  intro lo a0 a1 a2 a3 a4 hm
  exact nr_loopB hm hp hC hi hS t0 t1 t8 hW.2.1.2.1 (Qf Q).length 0 0 lo (by show (0 : Int) + _ = _; unfold foN; omega) (by decide) rfl a0 a1 a2 a3 a4
set_option maxRecDepth 100000 in
theorem w_fdB {d : Nat} {mem : zM} {P : Option Value → zM → Prop} {t : Int32} {Q : Qd} {S : Sd} {hu : Int → Int} (hm : aTm aT0 mem) {s : Nat} (sVO_e : aat aT0 s = some (.inr (8, sVO s))) (aR_s1 : aat aT0 (s + 1) = some (.inl (false, 0, 9, .inl (-2147483648, 2147483647)))) (aR_s2 : aat aT0 (s + 2) = some (.inl (false, 0, 6, .inl (-2147483648, 2147483647)))) (hs : (31 ≤ s ∧ s ≤ 216) ∧ (s < 38 ∨ 192 ≤ s)) {env : Int → Int} {c : List Int} {b : Bool} (hp : zfl mem 181 0 = some (.ref 14)) (he : ∀ w, -1000000 ≤ env w ∧ env w ≤ 1000000) (hT : gn (ga mem 24) 1 < gn (ga mem 25) 1 → rlT 23 24 25 1 c b mem) (t0 : 0 ≤ t.toInt ∧ t.toInt ≤ 8) (r1 : 0 ≤ (gi mem s 1).toInt ∧ (gi mem s 1).toInt ≤ 511) (hC : cQ 14 15 16 19 20 21 24 25 Q mem) (hW : WQ Q) (hS : tS s Q hu S mem) (t1 : t.toInt < thN Q) (h1 : ∀ (y1 : Int32), y1.toInt = (gn (ga mem 25) 1) → ∀ (y3 : Int32), y3.toInt = (gn (ga mem 24) 1) → (gn (ga mem 25) 1) ≤ (gn (ga mem 24) 1) → ∀ (v6 : Int32), v6.toInt = nrC Q S (t).toInt → (v6).toInt ≤ 0 → aTm aT0 mem → P (some (.int 0)) mem) (h2 : ∀ (y1 : Int32), y1.toInt = (gn (ga mem 25) 1) → ∀ (y3 : Int32), y3.toInt = (gn (ga mem 24) 1) → (gn (ga mem 25) 1) ≤ (gn (ga mem 24) 1) → ∀ (v6 : Int32), v6.toInt = nrC Q S (t).toInt → 0 < (v6).toInt → aTm aT0 mem → P (some (.int 1)) mem) (s1 : ∀ (y1 : Int32), y1.toInt = (gn (ga mem 25) 1) → ∀ (y3 : Int32), y3.toInt = (gn (ga mem 24) 1) → (gn (ga mem 24) 1) < (gn (ga mem 25) 1) → ¬ (t).toInt = (gi mem s 4).toInt → ∀ (y10 : Int32), y10.toInt = (gn (ga mem 17) (t).toInt) → ∀ (y12 : Int32), y12.toInt = (gn (ga mem 18) (t).toInt) → ∀ (y14 : Int32), y14.toInt = (gn (ga mem (s + 1)) (t).toInt) → ∀ (v16 : Int32), v16.toInt = pop (gi mem s 1) → ∀ (v18 : Int32), v18.toInt = nrC Q S (t).toInt → ∀ w, isE (10000 + w) → 10000 + w ∈ c → naC (si (si (si (si (si (si mem 182 1 (gi mem s 0)) 182 2 y10) 182 3 y12) 182 4 y14) 182 5 v16) 182 6 v18) w = env w) (h3 : ∀ (y1 : Int32), y1.toInt = (gn (ga mem 25) 1) → ∀ (y3 : Int32), y3.toInt = (gn (ga mem 24) 1) → (gn (ga mem 24) 1) < (gn (ga mem 25) 1) → ¬ (t).toInt = (gi mem s 4).toInt → ∀ (y10 : Int32), y10.toInt = (gn (ga mem 17) (t).toInt) → ∀ (y12 : Int32), y12.toInt = (gn (ga mem 18) (t).toInt) → ∀ (y14 : Int32), y14.toInt = (gn (ga mem (s + 1)) (t).toInt) → ∀ (v16 : Int32), v16.toInt = pop (gi mem s 1) → ∀ (v18 : Int32), v18.toInt = nrC Q S (t).toInt → ∀ (v22 : Int32) (m20 : zM), aTm aT0 m20 → (onl [183] (si (si (si (si (si (si mem 182 1 (gi mem s 0)) 182 2 y10) 182 3 y12) 182 4 y14) 182 5 v16) 182 6 v18) m20 ∧ v22.toInt = rvV env c) → (v22).toInt = 0 → aTm aT0 m20 → P (some (.int 0)) m20) (h4 : ∀ (y1 : Int32), y1.toInt = (gn (ga mem 25) 1) → ∀ (y3 : Int32), y3.toInt = (gn (ga mem 24) 1) → (gn (ga mem 24) 1) < (gn (ga mem 25) 1) → ¬ (t).toInt = (gi mem s 4).toInt → ∀ (y10 : Int32), y10.toInt = (gn (ga mem 17) (t).toInt) → ∀ (y12 : Int32), y12.toInt = (gn (ga mem 18) (t).toInt) → ∀ (y14 : Int32), y14.toInt = (gn (ga mem (s + 1)) (t).toInt) → ∀ (v16 : Int32), v16.toInt = pop (gi mem s 1) → ∀ (v18 : Int32), v18.toInt = nrC Q S (t).toInt → ∀ (v22 : Int32) (m20 : zM), aTm aT0 m20 → (onl [183] (si (si (si (si (si (si mem 182 1 (gi mem s 0)) 182 2 y10) 182 3 y12) 182 4 y14) 182 5 v16) 182 6 v18) m20 ∧ v22.toInt = rvV env c) → ¬ (v22).toInt = 0 → aTm aT0 m20 → P (some (.int 1)) m20) (s2 : ∀ (y1 : Int32), y1.toInt = (gn (ga mem 25) 1) → ∀ (y3 : Int32), y3.toInt = (gn (ga mem 24) 1) → (gn (ga mem 24) 1) < (gn (ga mem 25) 1) → (t).toInt = (gi mem s 4).toInt → ∀ (y24 : Int32), y24.toInt = (gn (ga mem 18) (t).toInt) → ∀ (y26 : Int32), y26.toInt = (gn (ga mem (s + 1)) (t).toInt) → ∀ (v28 : Int32), v28.toInt = pop (gi mem s 1) → ∀ (v30 : Int32), v30.toInt = nrC Q S (t).toInt → ∀ w, isE (10000 + w) → 10000 + w ∈ c → naC (si (si (si (si (si (si mem 182 1 (gi mem s 0)) 182 2 (gi mem s 5)) 182 3 y24) 182 4 y26) 182 5 v28) 182 6 v30) w = env w) (h5 : ∀ (y1 : Int32), y1.toInt = (gn (ga mem 25) 1) → ∀ (y3 : Int32), y3.toInt = (gn (ga mem 24) 1) → (gn (ga mem 24) 1) < (gn (ga mem 25) 1) → (t).toInt = (gi mem s 4).toInt → ∀ (y24 : Int32), y24.toInt = (gn (ga mem 18) (t).toInt) → ∀ (y26 : Int32), y26.toInt = (gn (ga mem (s + 1)) (t).toInt) → ∀ (v28 : Int32), v28.toInt = pop (gi mem s 1) → ∀ (v30 : Int32), v30.toInt = nrC Q S (t).toInt → ∀ (v34 : Int32) (m32 : zM), aTm aT0 m32 → (onl [183] (si (si (si (si (si (si mem 182 1 (gi mem s 0)) 182 2 (gi mem s 5)) 182 3 y24) 182 4 y26) 182 5 v28) 182 6 v30) m32 ∧ v34.toInt = rvV env c) → (v34).toInt = 0 → aTm aT0 m32 → P (some (.int 0)) m32) (h6 : ∀ (y1 : Int32), y1.toInt = (gn (ga mem 25) 1) → ∀ (y3 : Int32), y3.toInt = (gn (ga mem 24) 1) → (gn (ga mem 24) 1) < (gn (ga mem 25) 1) → (t).toInt = (gi mem s 4).toInt → ∀ (y24 : Int32), y24.toInt = (gn (ga mem 18) (t).toInt) → ∀ (y26 : Int32), y26.toInt = (gn (ga mem (s + 1)) (t).toInt) → ∀ (v28 : Int32), v28.toInt = pop (gi mem s 1) → ∀ (v30 : Int32), v30.toInt = nrC Q S (t).toInt → ∀ (v34 : Int32) (m32 : zM), aTm aT0 m32 → (onl [183] (si (si (si (si (si (si mem 182 1 (gi mem s 0)) 182 2 (gi mem s 5)) 182 3 y24) 182 4 y26) 182 5 v28) 182 6 v30) m32 ∧ v34.toInt = rvV env c) → ¬ (v34).toInt = 0 → aTm aT0 m32 → P (some (.int 1)) m32) : yR zpg tX0_isFound (d + 6) (0, [(0, .ref 181), (1, .ref s), (2, .int t)], [], mem) P := by
  refine yR_m 1 (fun _ _ _ _ => rfl) ?_
  refine wR_gq rfl hrO_e hm hp ?_
  refine wR_gr rfl quB_e quB_17 hm ?_
  refine yR_m 1 (fun _ _ _ _ => rfl) ?_
  refine wR_iv rfl rfl rlB_e hm rfl rfl rfl rfl ?_
  show yR zpg tX7_isTold (d + 5) (0, [(0, .ref 22), (1, .int 1)], [], mem) _
  refine yR_m 1 (fun _ _ _ _ => rfl) ?_
  refine wR_gr rfl rlB_e rlB_2 hm ?_
  refine yR_m 1 (fun _ _ _ _ => rfl) ?_
  refine wN_al (a := 1) rfl aR_25 hm rfl rfl (by decide) (fun y1 e2 => ?_)
  refine yR_m 1 (fun _ _ _ _ => rfl) ?_
  refine wR_gr rfl rlB_e rlB_1 hm ?_
  refine yR_m 1 (fun _ _ _ _ => rfl) ?_
  refine wN_al (a := 1) rfl aR_24 hm rfl rfl (by decide) (fun y3 e4 => ?_)
  refine wR_ic_le rfl (a := (gn (ga mem 25) 1)) (c := (gn (ga mem 24) 1)) e2 e4 (fun q5 => ?_) (fun q5 => ?_)
  ·
    refine yR_m 1 (fun _ _ _ _ => rfl) ?_
    refine yR_rz rfl ⟨by decide, by decide⟩ ?_
    show yR zpg tX0_isFound (d + 6) (11, [(0, .ref 181), (1, .ref s), (2, .int t)], [.int 0], mem) _
    refine wR_if_ne rfl (a := 0) rfl (fun q => by exfalso; omega) (fun _ => ?_)
    refine yR_m 3 (fun _ _ _ _ => rfl) ?_
    refine wR_cv rfl rfl hrO_e hm rfl (h_nrB (Q := Q) (S := S) (hu := hu) hm hp hC hW ⟨sVO_e, aR_s1, aR_s2, hs⟩ hS (by omega) t1 (by omega)) ?_
    rintro _ _ ⟨v6, rfl, rfl, k7⟩
    show yR zpg tX0_isFound (d + 6) (20, [(0, .ref 181), (1, .ref s), (2, .int t)], [.int v6], mem) _
    refine wR_if_le rfl (a := (v6).toInt) rfl (fun q8 => ?_) (fun q8 => ?_)
    ·
      refine yR_m 1 (fun _ _ _ _ => rfl) ?_
      exact yR_rz rfl ⟨by decide, by decide⟩ (h1 y1 e2 y3 e4 q5 v6 k7 q8 hm)
    ·
      refine yR_m 2 (fun _ _ _ _ => rfl) ?_
      exact yR_rz rfl ⟨by decide, by decide⟩ (h2 y1 e2 y3 e4 q5 v6 k7 q8 hm)
  ·
    refine yR_m 2 (fun _ _ _ _ => rfl) ?_
    refine yR_rz rfl ⟨by decide, by decide⟩ ?_
    show yR zpg tX0_isFound (d + 6) (11, [(0, .ref 181), (1, .ref s), (2, .int t)], [.int 1], mem) _
    refine wR_if_ne rfl (a := 1) rfl (fun _ => ?_) (fun q => by exfalso; omega)
    refine yR_m 3 (fun _ _ _ _ => rfl) ?_
    refine wR_iv rfl rfl hrO_e hm rfl rfl rfl rfl ?_
    show yR zpg tX0_setOut (d + 5) (0, [(0, .ref 181), (1, .ref s), (2, .int t)], [], mem) _
    refine yR_m 1 (fun _ _ _ _ => rfl) ?_
    refine wR_gr rfl hrO_e hrO_1 hm ?_
    refine yR_m 1 (fun _ _ _ _ => rfl) ?_
    refine wR_gi rfl sVO_e sVO_0 hm rfl ?_
    refine wR_pi rfl rkO_e rkO_1 hm rfl ?_
    have hm_1 : aTm aT0 (si mem 182 1 (gi mem s 0)) := tm_si rkO_e rkO_1 hm (i32_b _)
    refine yR_m 1 (fun _ _ _ _ => rfl) ?_
    refine wR_gr rfl hrO_e hrO_1 hm_1 ?_
    refine yR_m 3 (fun _ _ _ _ => rfl) ?_
    refine wR_iv rfl rfl hrO_e hm_1 rfl rfl rfl rfl ?_
    show yR zpg tX0_hueOf (d + 4) (0, [(0, .ref 181), (1, .ref s), (2, .int t)], [], (si mem 182 1 (gi mem s 0))) _
    refine yR_m 2 (fun _ _ _ _ => rfl) ?_
    refine wR_gi rfl sVO_e sVO_4 hm_1 (gi_sv_ne (by first | decide | omega)) ?_
    refine wR_ic_ne rfl (a := (t).toInt) (c := (gi mem s 4).toInt) rfl rfl (fun q9 => ?_) (fun q9 => ?_)
    ·
      refine yR_m 1 (fun _ _ _ _ => rfl) ?_
      refine wR_gq rfl hrO_e hm_1 ((zfl_sv_ne (by first | decide | omega)).trans hp) ?_
      refine wR_gr rfl quB_e quB_10 hm_1 ?_
      refine yR_m 1 (fun _ _ _ _ => rfl) ?_
      refine wN_al (a := (t).toInt) rfl aR_17 hm_1 (ga_sv) rfl (by omega) (fun y10 e11 => ?_)
      refine yR_ri rfl ?_
      show yR zpg tX0_setOut (d + 5) (21, [(0, .ref 181), (1, .ref s), (2, .int t)], [.int y10, .ref 182], (si mem 182 1 (gi mem s 0))) _
      refine wR_pi rfl rkO_e rkO_2 hm_1 rfl ?_
      have hm_2 : aTm aT0 (si (si mem 182 1 (gi mem s 0)) 182 2 y10) := tm_si rkO_e rkO_2 hm_1 (i32_b _)
      refine yR_m 1 (fun _ _ _ _ => rfl) ?_
      refine wR_gr rfl hrO_e hrO_1 hm_2 ?_
      refine yR_m 1 (fun _ _ _ _ => rfl) ?_
      refine wR_gq rfl hrO_e hm_2 ((zfl_sv_ne (by first | decide | omega)).trans ((zfl_sv_ne (by first | decide | omega)).trans hp)) ?_
      refine wR_gr rfl quB_e quB_11 hm_2 ?_
      refine yR_m 1 (fun _ _ _ _ => rfl) ?_
      refine wN_al (a := (t).toInt) rfl aR_18 hm_2 ((ga_sv).trans (ga_sv)) rfl (by omega) (fun y12 e13 => ?_)
      refine wR_pi rfl rkO_e rkO_3 hm_2 rfl ?_
      have hm_3 : aTm aT0 (si (si (si mem 182 1 (gi mem s 0)) 182 2 y10) 182 3 y12) := tm_si rkO_e rkO_3 hm_2 (i32_b _)
      refine yR_m 1 (fun _ _ _ _ => rfl) ?_
      refine wR_gr rfl hrO_e hrO_1 hm_3 ?_
      refine yR_m 1 (fun _ _ _ _ => rfl) ?_
      refine wR_gr rfl sVO_e sVO_2 hm_3 ?_
      refine yR_m 1 (fun _ _ _ _ => rfl) ?_
      refine wN_al (a := (t).toInt) rfl aR_s1 hm_3 ((ga_sv).trans ((ga_sv).trans (ga_sv))) rfl (by omega) (fun y14 e15 => ?_)
      refine wR_pi rfl rkO_e rkO_4 hm_3 rfl ?_
      have hm_4 : aTm aT0 (si (si (si (si mem 182 1 (gi mem s 0)) 182 2 y10) 182 3 y12) 182 4 y14) := tm_si rkO_e rkO_4 hm_3 (i32_b _)
      refine yR_m 1 (fun _ _ _ _ => rfl) ?_
      refine wR_gr rfl hrO_e hrO_1 hm_4 ?_
      refine yR_m 1 (fun _ _ _ _ => rfl) ?_
      refine wR_gi rfl sVO_e sVO_1 hm_4 ((gi_sv_ne (by first | decide | omega)).trans ((gi_sv_ne (by first | decide | omega)).trans ((gi_sv_ne (by first | decide | omega)).trans (gi_sv_ne (by first | decide | omega))))) ?_
      refine yR_cs rfl rfl rfl (h_bc hm_4 (by omega) (by omega)) ?_
      rintro _ _ ⟨v16, rfl, rfl, k17⟩
      show yR zpg tX0_setOut (d + 5) (64, [(0, .ref 181), (1, .ref s), (2, .int t)], [.int v16, .ref 182], (si (si (si (si mem 182 1 (gi mem s 0)) 182 2 y10) 182 3 y12) 182 4 y14)) _
      refine wR_pi rfl rkO_e rkO_5 hm_4 rfl ?_
      have hm_5 : aTm aT0 (si (si (si (si (si mem 182 1 (gi mem s 0)) 182 2 y10) 182 3 y12) 182 4 y14) 182 5 v16) := tm_si rkO_e rkO_5 hm_4 (i32_b _)
      refine yR_rv rfl ?_
      show yR zpg tX0_isFound (d + 6) (35, [(0, .ref 181), (1, .ref s), (2, .int t)], [], (si (si (si (si (si mem 182 1 (gi mem s 0)) 182 2 y10) 182 3 y12) 182 4 y14) 182 5 v16)) _
      refine yR_m 1 (fun _ _ _ _ => rfl) ?_
      refine wR_gr rfl hrO_e hrO_1 hm_5 ?_
      refine yR_m 3 (fun _ _ _ _ => rfl) ?_
      refine wR_cv rfl rfl hrO_e hm_5 rfl (h_nrB (Q := Q) (S := S) (hu := hu) hm_5 ((zfl_sv_ne (by first | decide | omega)).trans ((zfl_sv_ne (by first | decide | omega)).trans ((zfl_sv_ne (by first | decide | omega)).trans ((zfl_sv_ne (by first | decide | omega)).trans ((zfl_sv_ne (by first | decide | omega)).trans hp))))) (cQ_qB (ks := [182]) rfl (onl_sv rfl (onl_sv rfl (onl_sv rfl (onl_sv rfl (onl_sv rfl onl_rf))))) hC) hW ⟨sVO_e, aR_s1, aR_s2, hs⟩ (tS_q (ks := [182]) ⟨sVO_e, aR_s1, aR_s2, hs⟩ rfl (onl_sv rfl (onl_sv rfl (onl_sv rfl (onl_sv rfl (onl_sv rfl onl_rf))))) hS) (by omega) t1 (by omega)) ?_
      rintro _ _ ⟨v18, rfl, rfl, k19⟩
      show yR zpg tX0_isFound (d + 6) (45, [(0, .ref 181), (1, .ref s), (2, .int t)], [.int v18, .ref 182], (si (si (si (si (si mem 182 1 (gi mem s 0)) 182 2 y10) 182 3 y12) 182 4 y14) 182 5 v16)) _
      refine wR_pi rfl rkO_e rkO_6 hm_5 rfl ?_
      have hm_6 : aTm aT0 (si (si (si (si (si (si mem 182 1 (gi mem s 0)) 182 2 y10) 182 3 y12) 182 4 y14) 182 5 v16) 182 6 v18) := tm_si rkO_e rkO_6 hm_5 (i32_b _)
      refine yR_m 1 (fun _ _ _ _ => rfl) ?_
      refine wR_gr rfl hrO_e hrO_1 hm_6 ?_
      refine yR_m 1 (fun _ _ _ _ => rfl) ?_
      refine wR_gq rfl hrO_e hm_6 ((zfl_sv_ne (by first | decide | omega)).trans ((zfl_sv_ne (by first | decide | omega)).trans ((zfl_sv_ne (by first | decide | omega)).trans ((zfl_sv_ne (by first | decide | omega)).trans ((zfl_sv_ne (by first | decide | omega)).trans ((zfl_sv_ne (by first | decide | omega)).trans hp)))))) ?_
      refine wR_gr rfl quB_e quB_17 hm_6 ?_
      refine yR_m 1 (fun _ _ _ _ => rfl) ?_
      refine wR_cv rfl rfl rkO_e hm_6 rfl (h_vrB (env := env) (c := c) (b := b) (w := 1) hm_6 rfl (by decide) he (s1 y1 e2 y3 e4 q5 q9 y10 e11 y12 e13 y14 e15 v16 k17 v18 k19) (rlT_q ((ga_sv).trans ((ga_sv).trans ((ga_sv).trans ((ga_sv).trans ((ga_sv).trans (ga_sv)))))) ((ga_sv).trans ((ga_sv).trans ((ga_sv).trans ((ga_sv).trans ((ga_sv).trans (ga_sv)))))) ((ga_sv).trans ((ga_sv).trans ((ga_sv).trans ((ga_sv).trans ((ga_sv).trans (ga_sv)))))) (hT q5)) (by omega)) ?_
      rintro _ m20 ⟨v22, rfl, hm20, k21⟩
      show yR zpg tX0_isFound (d + 6) (63, [(0, .ref 181), (1, .ref s), (2, .int t)], [.int v22], m20) _
      refine wR_if_eq rfl (a := (v22).toInt) rfl (fun q23 => ?_) (fun q23 => ?_)
      ·
        refine yR_m 1 (fun _ _ _ _ => rfl) ?_
        exact yR_rz rfl ⟨by decide, by decide⟩ (h3 y1 e2 y3 e4 q5 q9 y10 e11 y12 e13 y14 e15 v16 k17 v18 k19 v22 m20 hm20 k21 q23 hm20)
      ·
        refine yR_m 2 (fun _ _ _ _ => rfl) ?_
        exact yR_rz rfl ⟨by decide, by decide⟩ (h4 y1 e2 y3 e4 q5 q9 y10 e11 y12 e13 y14 e15 v16 k17 v18 k19 v22 m20 hm20 k21 q23 hm20)
    ·
      refine yR_m 1 (fun _ _ _ _ => rfl) ?_
      refine wR_gi rfl sVO_e sVO_5 hm_1 (gi_sv_ne (by first | decide | omega)) ?_
      refine yR_m 1 (fun _ _ _ _ => rfl) ?_
      refine yR_ri rfl ?_
      show yR zpg tX0_setOut (d + 5) (21, [(0, .ref 181), (1, .ref s), (2, .int t)], [.int (gi mem s 5), .ref 182], (si mem 182 1 (gi mem s 0))) _
      refine wR_pi rfl rkO_e rkO_2 hm_1 rfl ?_
      have hm_7 : aTm aT0 (si (si mem 182 1 (gi mem s 0)) 182 2 (gi mem s 5)) := tm_si rkO_e rkO_2 hm_1 (i32_b _)
      refine yR_m 1 (fun _ _ _ _ => rfl) ?_
      refine wR_gr rfl hrO_e hrO_1 hm_7 ?_
      refine yR_m 1 (fun _ _ _ _ => rfl) ?_
      refine wR_gq rfl hrO_e hm_7 ((zfl_sv_ne (by first | decide | omega)).trans ((zfl_sv_ne (by first | decide | omega)).trans hp)) ?_
      refine wR_gr rfl quB_e quB_11 hm_7 ?_
      refine yR_m 1 (fun _ _ _ _ => rfl) ?_
      refine wN_al (a := (t).toInt) rfl aR_18 hm_7 ((ga_sv).trans (ga_sv)) rfl (by omega) (fun y24 e25 => ?_)
      refine wR_pi rfl rkO_e rkO_3 hm_7 rfl ?_
      have hm_8 : aTm aT0 (si (si (si mem 182 1 (gi mem s 0)) 182 2 (gi mem s 5)) 182 3 y24) := tm_si rkO_e rkO_3 hm_7 (i32_b _)
      refine yR_m 1 (fun _ _ _ _ => rfl) ?_
      refine wR_gr rfl hrO_e hrO_1 hm_8 ?_
      refine yR_m 1 (fun _ _ _ _ => rfl) ?_
      refine wR_gr rfl sVO_e sVO_2 hm_8 ?_
      refine yR_m 1 (fun _ _ _ _ => rfl) ?_
      refine wN_al (a := (t).toInt) rfl aR_s1 hm_8 ((ga_sv).trans ((ga_sv).trans (ga_sv))) rfl (by omega) (fun y26 e27 => ?_)
      refine wR_pi rfl rkO_e rkO_4 hm_8 rfl ?_
      have hm_9 : aTm aT0 (si (si (si (si mem 182 1 (gi mem s 0)) 182 2 (gi mem s 5)) 182 3 y24) 182 4 y26) := tm_si rkO_e rkO_4 hm_8 (i32_b _)
      refine yR_m 1 (fun _ _ _ _ => rfl) ?_
      refine wR_gr rfl hrO_e hrO_1 hm_9 ?_
      refine yR_m 1 (fun _ _ _ _ => rfl) ?_
      refine wR_gi rfl sVO_e sVO_1 hm_9 ((gi_sv_ne (by first | decide | omega)).trans ((gi_sv_ne (by first | decide | omega)).trans ((gi_sv_ne (by first | decide | omega)).trans (gi_sv_ne (by first | decide | omega))))) ?_
      refine yR_cs rfl rfl rfl (h_bc hm_9 (by omega) (by omega)) ?_
      rintro _ _ ⟨v28, rfl, rfl, k29⟩
      show yR zpg tX0_setOut (d + 5) (64, [(0, .ref 181), (1, .ref s), (2, .int t)], [.int v28, .ref 182], (si (si (si (si mem 182 1 (gi mem s 0)) 182 2 (gi mem s 5)) 182 3 y24) 182 4 y26)) _
      refine wR_pi rfl rkO_e rkO_5 hm_9 rfl ?_
      have hm_10 : aTm aT0 (si (si (si (si (si mem 182 1 (gi mem s 0)) 182 2 (gi mem s 5)) 182 3 y24) 182 4 y26) 182 5 v28) := tm_si rkO_e rkO_5 hm_9 (i32_b _)
      refine yR_rv rfl ?_
      show yR zpg tX0_isFound (d + 6) (35, [(0, .ref 181), (1, .ref s), (2, .int t)], [], (si (si (si (si (si mem 182 1 (gi mem s 0)) 182 2 (gi mem s 5)) 182 3 y24) 182 4 y26) 182 5 v28)) _
      refine yR_m 1 (fun _ _ _ _ => rfl) ?_
      refine wR_gr rfl hrO_e hrO_1 hm_10 ?_
      refine yR_m 3 (fun _ _ _ _ => rfl) ?_
      refine wR_cv rfl rfl hrO_e hm_10 rfl (h_nrB (Q := Q) (S := S) (hu := hu) hm_10 ((zfl_sv_ne (by first | decide | omega)).trans ((zfl_sv_ne (by first | decide | omega)).trans ((zfl_sv_ne (by first | decide | omega)).trans ((zfl_sv_ne (by first | decide | omega)).trans ((zfl_sv_ne (by first | decide | omega)).trans hp))))) (cQ_qB (ks := [182]) rfl (onl_sv rfl (onl_sv rfl (onl_sv rfl (onl_sv rfl (onl_sv rfl onl_rf))))) hC) hW ⟨sVO_e, aR_s1, aR_s2, hs⟩ (tS_q (ks := [182]) ⟨sVO_e, aR_s1, aR_s2, hs⟩ rfl (onl_sv rfl (onl_sv rfl (onl_sv rfl (onl_sv rfl (onl_sv rfl onl_rf))))) hS) (by omega) t1 (by omega)) ?_
      rintro _ _ ⟨v30, rfl, rfl, k31⟩
      show yR zpg tX0_isFound (d + 6) (45, [(0, .ref 181), (1, .ref s), (2, .int t)], [.int v30, .ref 182], (si (si (si (si (si mem 182 1 (gi mem s 0)) 182 2 (gi mem s 5)) 182 3 y24) 182 4 y26) 182 5 v28)) _
      refine wR_pi rfl rkO_e rkO_6 hm_10 rfl ?_
      have hm_11 : aTm aT0 (si (si (si (si (si (si mem 182 1 (gi mem s 0)) 182 2 (gi mem s 5)) 182 3 y24) 182 4 y26) 182 5 v28) 182 6 v30) := tm_si rkO_e rkO_6 hm_10 (i32_b _)
      refine yR_m 1 (fun _ _ _ _ => rfl) ?_
      refine wR_gr rfl hrO_e hrO_1 hm_11 ?_
      refine yR_m 1 (fun _ _ _ _ => rfl) ?_
      refine wR_gq rfl hrO_e hm_11 ((zfl_sv_ne (by first | decide | omega)).trans ((zfl_sv_ne (by first | decide | omega)).trans ((zfl_sv_ne (by first | decide | omega)).trans ((zfl_sv_ne (by first | decide | omega)).trans ((zfl_sv_ne (by first | decide | omega)).trans ((zfl_sv_ne (by first | decide | omega)).trans hp)))))) ?_
      refine wR_gr rfl quB_e quB_17 hm_11 ?_
      refine yR_m 1 (fun _ _ _ _ => rfl) ?_
      refine wR_cv rfl rfl rkO_e hm_11 rfl (h_vrB (env := env) (c := c) (b := b) (w := 1) hm_11 rfl (by decide) he (s2 y1 e2 y3 e4 q5 q9 y24 e25 y26 e27 v28 k29 v30 k31) (rlT_q ((ga_sv).trans ((ga_sv).trans ((ga_sv).trans ((ga_sv).trans ((ga_sv).trans (ga_sv)))))) ((ga_sv).trans ((ga_sv).trans ((ga_sv).trans ((ga_sv).trans ((ga_sv).trans (ga_sv)))))) ((ga_sv).trans ((ga_sv).trans ((ga_sv).trans ((ga_sv).trans ((ga_sv).trans (ga_sv)))))) (hT q5)) (by omega)) ?_
      rintro _ m32 ⟨v34, rfl, hm32, k33⟩
      show yR zpg tX0_isFound (d + 6) (63, [(0, .ref 181), (1, .ref s), (2, .int t)], [.int v34], m32) _
      refine wR_if_eq rfl (a := (v34).toInt) rfl (fun q35 => ?_) (fun q35 => ?_)
      ·
        refine yR_m 1 (fun _ _ _ _ => rfl) ?_
        exact yR_rz rfl ⟨by decide, by decide⟩ (h5 y1 e2 y3 e4 q5 q9 y24 e25 y26 e27 v28 k29 v30 k31 v34 m32 hm32 k33 q35 hm32)
      ·
        refine yR_m 2 (fun _ _ _ _ => rfl) ?_
        exact yR_rz rfl ⟨by decide, by decide⟩ (h6 y1 e2 y3 e4 q5 q9 y24 e25 y26 e27 v28 k29 v30 k31 v34 m32 hm32 k33 q35 hm32)

theorem h_fdB {s : Nat} {t : Int32} (hm : aTm aT0 mem) (hp : zfl mem 181 0 = some (.ref 14)) (hC : cQ 14 15 16 19 20 21 24 25 Q mem) (hW : WQ Q) (hi : isS s) (hS : tS s Q hu S mem) (hv : wS Q S) (hH : wH Q hu) (t0 : 0 ≤ t.toInt) (t1 : t.toInt < thN Q) (hd : 7 ≤ d) : yC zpg d 12 [.ref 181, .ref s, .int t] mem (fun r m => ∃ v : Int32, r = some (.int v) ∧ aTm aT0 m ∧ (onl [182, 183] mem m ∧ is1 v (fdC Q hu S t.toInt))) := by
  obtain ⟨d, rfl⟩ : ∃ q, d = q + 7 := ⟨d - 7, by omega⟩
  have hi0 := hi
  have hS0 := hS
  obtain ⟨i1, i2, i3, i4⟩ := hi
  obtain ⟨⟨s0, s1⟩, s2, s3, s4⟩ := hS
  have t8 : t.toInt ≤ 8 := by
    have := hW.2.1.1
    unfold thN at t1
    omega
  have hg := cq_gB hC t0 t1
  obtain ⟨rT, rN⟩ := cq_rB hm hW hC (w := 1) (by decide) (by decide)
  have nb := nrK_b (Q := Q) (S := S) (t := t.toInt) (Qf Q).length
  have n6 : (Qf Q).length ≤ 6 := hW.2.1.2.1
  have hb := enV_b hW hv hH t0 t1 (nr := nrC Q S t.toInt) nb.1 (by unfold nrC; omega)
  have r1 := hv.2.1.1
  rw [← s1] at r1
  refine yC_of (t := tX0_isFound) rfl rfl ?_
  cases hk : (Qk Q).lookup 1 with
  | none =>
    have rN := rN hk
    exact w_fdB (env := enV Q hu S t.toInt (nrC Q S t.toInt)) (c := []) (b := true) hm i1 i2 i3 i4 hp hb (fun z => absurd z rN) ⟨t0, t8⟩ r1 hC hW hS0 t1 
        (fun y1 e2 y3 e4 q5 v6 k7 q8 hm2 => ⟨0, rfl, hm2, onl_rf, Or.inr ⟨rfl, fun z => by have z1 := (fdC_0 hk).1 z; omega⟩⟩)
        (fun y1 e2 y3 e4 q5 v6 k7 q8 hm2 => ⟨1, rfl, hm2, onl_rf, Or.inl ⟨rfl, (fdC_0 hk).2 (by omega)⟩⟩)
        (fun y1 e2 y3 e4 q5 q9 y10 e11 y12 e13 y14 e15 v16 k17 v18 k19 => absurd q5 rN)
        (fun y1 e2 y3 e4 q5 q9 y10 e11 y12 e13 y14 e15 v16 k17 v18 k19 v22 m20 hm20 k21 q23 hm2 => absurd q5 rN)
        (fun y1 e2 y3 e4 q5 q9 y10 e11 y12 e13 y14 e15 v16 k17 v18 k19 v22 m20 hm20 k21 q23 hm2 => absurd q5 rN)
        (fun y1 e2 y3 e4 q5 q9 y24 e25 y26 e27 v28 k29 v30 k31 => absurd q5 rN)
        (fun y1 e2 y3 e4 q5 q9 y24 e25 y26 e27 v28 k29 v30 k31 v34 m32 hm32 k33 q35 hm2 => absurd q5 rN)
        (fun y1 e2 y3 e4 q5 q9 y24 e25 y26 e27 v28 k29 v30 k31 v34 m32 hm32 k33 q35 hm2 => absurd q5 rN)
  | some c =>
    have rT := rT c hk
    have ok := rvV_ok hb rT.2.1
    exact w_fdB (env := enV Q hu S t.toInt (nrC Q S t.toInt)) (c := c) (b := true) hm i1 i2 i3 i4 hp hb (fun _ => rT.2) ⟨t0, t8⟩ r1 hC hW hS0 t1 
        (fun y1 e2 y3 e4 q5 v6 k7 q8 hm2 => by exfalso; have := rT.1; omega)
        (fun y1 e2 y3 e4 q5 v6 k7 q8 hm2 => by exfalso; have := rT.1; omega)
        (fun y1 e2 y3 e4 q5 q9 y10 e11 y12 e13 y14 e15 v16 k17 v18 k19 => naC_V (by rw [((gi_sv_ne (by decide)).trans ((gi_sv_ne (by decide)).trans ((gi_sv_ne (by decide)).trans ((gi_sv_ne (by decide)).trans ((gi_sv_ne (by decide)).trans (gi_eqQ (isQ_of rkO_e hm) rkO_1))))))]; exact s0) (by rw [((gi_sv_ne (by decide)).trans ((gi_sv_ne (by decide)).trans ((gi_sv_ne (by decide)).trans ((gi_sv_ne (by decide)).trans (gi_eqQ (isQ_sv (isQ_of rkO_e hm)) rkO_2)))))]; exact (by rw [e11, hg.1]; exact (s4 _ t0 t1).2 q9)) (by rw [((gi_sv_ne (by decide)).trans ((gi_sv_ne (by decide)).trans ((gi_sv_ne (by decide)).trans (gi_eqQ (isQ_sv (isQ_sv (isQ_of rkO_e hm))) rkO_3)))), e13]; exact hg.2) (by rw [((gi_sv_ne (by decide)).trans ((gi_sv_ne (by decide)).trans (gi_eqQ (isQ_sv (isQ_sv (isQ_sv (isQ_of rkO_e hm)))) rkO_4))), e15]; exact s2 _ t0 t1) (by rw [((gi_sv_ne (by decide)).trans (gi_eqQ (isQ_sv (isQ_sv (isQ_sv (isQ_sv (isQ_of rkO_e hm))))) rkO_5)), k17, s1]) (fun _ => by rw [(gi_eqQ (isQ_sv (isQ_sv (isQ_sv (isQ_sv (isQ_sv (isQ_of rkO_e hm)))))) rkO_6)]; exact k19))
        (fun y1 e2 y3 e4 q5 q9 y10 e11 y12 e13 y14 e15 v16 k17 v18 k19 v22 m20 hm20 k21 q23 hm2 => ⟨0, rfl, hm2, onl_tr (onl_sv rfl (onl_sv rfl (onl_sv rfl (onl_sv rfl (onl_sv rfl (onl_sv rfl onl_rf)))))) (onl_up k21.1 rfl), Or.inr ⟨rfl, fun z => by have z1 := (fdC_1 hk).1 z; have z2 := k21.2; omega⟩⟩)
        (fun y1 e2 y3 e4 q5 q9 y10 e11 y12 e13 y14 e15 v16 k17 v18 k19 v22 m20 hm20 k21 q23 hm2 => ⟨1, rfl, hm2, onl_tr (onl_sv rfl (onl_sv rfl (onl_sv rfl (onl_sv rfl (onl_sv rfl (onl_sv rfl onl_rf)))))) (onl_up k21.1 rfl), Or.inl ⟨rfl, (fdC_1 hk).2 (by have z2 := k21.2; have z3 := ok.2.2 rfl; omega)⟩⟩)
        (fun y1 e2 y3 e4 q5 q9 y24 e25 y26 e27 v28 k29 v30 k31 => naC_V (by rw [((gi_sv_ne (by decide)).trans ((gi_sv_ne (by decide)).trans ((gi_sv_ne (by decide)).trans ((gi_sv_ne (by decide)).trans ((gi_sv_ne (by decide)).trans (gi_eqQ (isQ_of rkO_e hm) rkO_1))))))]; exact s0) (by rw [((gi_sv_ne (by decide)).trans ((gi_sv_ne (by decide)).trans ((gi_sv_ne (by decide)).trans ((gi_sv_ne (by decide)).trans (gi_eqQ (isQ_sv (isQ_of rkO_e hm)) rkO_2)))))]; exact (s4 _ t0 t1).1 q9) (by rw [((gi_sv_ne (by decide)).trans ((gi_sv_ne (by decide)).trans ((gi_sv_ne (by decide)).trans (gi_eqQ (isQ_sv (isQ_sv (isQ_of rkO_e hm))) rkO_3)))), e25]; exact hg.2) (by rw [((gi_sv_ne (by decide)).trans ((gi_sv_ne (by decide)).trans (gi_eqQ (isQ_sv (isQ_sv (isQ_sv (isQ_of rkO_e hm)))) rkO_4))), e27]; exact s2 _ t0 t1) (by rw [((gi_sv_ne (by decide)).trans (gi_eqQ (isQ_sv (isQ_sv (isQ_sv (isQ_sv (isQ_of rkO_e hm))))) rkO_5)), k29, s1]) (fun _ => by rw [(gi_eqQ (isQ_sv (isQ_sv (isQ_sv (isQ_sv (isQ_sv (isQ_of rkO_e hm)))))) rkO_6)]; exact k31))
        (fun y1 e2 y3 e4 q5 q9 y24 e25 y26 e27 v28 k29 v30 k31 v34 m32 hm32 k33 q35 hm2 => ⟨0, rfl, hm2, onl_tr (onl_sv rfl (onl_sv rfl (onl_sv rfl (onl_sv rfl (onl_sv rfl (onl_sv rfl onl_rf)))))) (onl_up k33.1 rfl), Or.inr ⟨rfl, fun z => by have z1 := (fdC_1 hk).1 z; have z2 := k33.2; omega⟩⟩)
        (fun y1 e2 y3 e4 q5 q9 y24 e25 y26 e27 v28 k29 v30 k31 v34 m32 hm32 k33 q35 hm2 => ⟨1, rfl, hm2, onl_tr (onl_sv rfl (onl_sv rfl (onl_sv rfl (onl_sv rfl (onl_sv rfl (onl_sv rfl onl_rf)))))) (onl_up k33.1 rfl), Or.inl ⟨rfl, (fdC_1 hk).2 (by have z2 := k33.2; have z3 := ok.2.2 rfl; omega)⟩⟩)
set_option maxRecDepth 100000 in
theorem w_lsB {d : Nat} {mem : zM} {P : Option Value → zM → Prop} {t : Int32} (hm : aTm aT0 mem) {s : Nat} (sVO_e : aat aT0 s = some (.inr (8, sVO s))) (aR_s1 : aat aT0 (s + 1) = some (.inl (false, 0, 9, .inl (-2147483648, 2147483647)))) (aR_s2 : aat aT0 (s + 2) = some (.inl (false, 0, 6, .inl (-2147483648, 2147483647)))) (hs : (31 ≤ s ∧ s ≤ 216) ∧ (s < 38 ∨ 192 ≤ s)) {env : Int → Int} {c : List Int} {b : Bool} (hp : zfl mem 181 0 = some (.ref 14)) (he : ∀ w, -1000000 ≤ env w ∧ env w ≤ 1000000) (hT : gn (ga mem 24) 2 < gn (ga mem 25) 2 → rlT 23 24 25 2 c b mem) (t0 : 0 ≤ t.toInt ∧ t.toInt ≤ 8) (r1 : 0 ≤ (gi mem s 1).toInt ∧ (gi mem s 1).toInt ≤ 511) (h1 : ∀ (y1 : Int32), y1.toInt = (gn (ga mem 25) 2) → ∀ (y3 : Int32), y3.toInt = (gn (ga mem 24) 2) → (gn (ga mem 25) 2) ≤ (gn (ga mem 24) 2) → aTm aT0 mem → P (some (.int 0)) mem) (s1 : ∀ (y1 : Int32), y1.toInt = (gn (ga mem 25) 2) → ∀ (y3 : Int32), y3.toInt = (gn (ga mem 24) 2) → (gn (ga mem 24) 2) < (gn (ga mem 25) 2) → ¬ (t).toInt = (gi mem s 4).toInt → ∀ (y7 : Int32), y7.toInt = (gn (ga mem 17) (t).toInt) → ∀ (y9 : Int32), y9.toInt = (gn (ga mem 18) (t).toInt) → ∀ (y11 : Int32), y11.toInt = (gn (ga mem (s + 1)) (t).toInt) → ∀ (v13 : Int32), v13.toInt = pop (gi mem s 1) → ∀ w, isE (10000 + w) → 10000 + w ∈ c → naC (si (si (si (si (si mem 182 1 (gi mem s 0)) 182 2 y7) 182 3 y9) 182 4 y11) 182 5 v13) w = env w) (h2 : ∀ (y1 : Int32), y1.toInt = (gn (ga mem 25) 2) → ∀ (y3 : Int32), y3.toInt = (gn (ga mem 24) 2) → (gn (ga mem 24) 2) < (gn (ga mem 25) 2) → ¬ (t).toInt = (gi mem s 4).toInt → ∀ (y7 : Int32), y7.toInt = (gn (ga mem 17) (t).toInt) → ∀ (y9 : Int32), y9.toInt = (gn (ga mem 18) (t).toInt) → ∀ (y11 : Int32), y11.toInt = (gn (ga mem (s + 1)) (t).toInt) → ∀ (v13 : Int32), v13.toInt = pop (gi mem s 1) → ∀ (v17 : Int32) (m15 : zM), aTm aT0 m15 → (onl [183] (si (si (si (si (si mem 182 1 (gi mem s 0)) 182 2 y7) 182 3 y9) 182 4 y11) 182 5 v13) m15 ∧ v17.toInt = rvV env c) → (v17).toInt = 0 → aTm aT0 m15 → P (some (.int 0)) m15) (h3 : ∀ (y1 : Int32), y1.toInt = (gn (ga mem 25) 2) → ∀ (y3 : Int32), y3.toInt = (gn (ga mem 24) 2) → (gn (ga mem 24) 2) < (gn (ga mem 25) 2) → ¬ (t).toInt = (gi mem s 4).toInt → ∀ (y7 : Int32), y7.toInt = (gn (ga mem 17) (t).toInt) → ∀ (y9 : Int32), y9.toInt = (gn (ga mem 18) (t).toInt) → ∀ (y11 : Int32), y11.toInt = (gn (ga mem (s + 1)) (t).toInt) → ∀ (v13 : Int32), v13.toInt = pop (gi mem s 1) → ∀ (v17 : Int32) (m15 : zM), aTm aT0 m15 → (onl [183] (si (si (si (si (si mem 182 1 (gi mem s 0)) 182 2 y7) 182 3 y9) 182 4 y11) 182 5 v13) m15 ∧ v17.toInt = rvV env c) → ¬ (v17).toInt = 0 → aTm aT0 m15 → P (some (.int 1)) m15) (s2 : ∀ (y1 : Int32), y1.toInt = (gn (ga mem 25) 2) → ∀ (y3 : Int32), y3.toInt = (gn (ga mem 24) 2) → (gn (ga mem 24) 2) < (gn (ga mem 25) 2) → (t).toInt = (gi mem s 4).toInt → ∀ (y19 : Int32), y19.toInt = (gn (ga mem 18) (t).toInt) → ∀ (y21 : Int32), y21.toInt = (gn (ga mem (s + 1)) (t).toInt) → ∀ (v23 : Int32), v23.toInt = pop (gi mem s 1) → ∀ w, isE (10000 + w) → 10000 + w ∈ c → naC (si (si (si (si (si mem 182 1 (gi mem s 0)) 182 2 (gi mem s 5)) 182 3 y19) 182 4 y21) 182 5 v23) w = env w) (h4 : ∀ (y1 : Int32), y1.toInt = (gn (ga mem 25) 2) → ∀ (y3 : Int32), y3.toInt = (gn (ga mem 24) 2) → (gn (ga mem 24) 2) < (gn (ga mem 25) 2) → (t).toInt = (gi mem s 4).toInt → ∀ (y19 : Int32), y19.toInt = (gn (ga mem 18) (t).toInt) → ∀ (y21 : Int32), y21.toInt = (gn (ga mem (s + 1)) (t).toInt) → ∀ (v23 : Int32), v23.toInt = pop (gi mem s 1) → ∀ (v27 : Int32) (m25 : zM), aTm aT0 m25 → (onl [183] (si (si (si (si (si mem 182 1 (gi mem s 0)) 182 2 (gi mem s 5)) 182 3 y19) 182 4 y21) 182 5 v23) m25 ∧ v27.toInt = rvV env c) → (v27).toInt = 0 → aTm aT0 m25 → P (some (.int 0)) m25) (h5 : ∀ (y1 : Int32), y1.toInt = (gn (ga mem 25) 2) → ∀ (y3 : Int32), y3.toInt = (gn (ga mem 24) 2) → (gn (ga mem 24) 2) < (gn (ga mem 25) 2) → (t).toInt = (gi mem s 4).toInt → ∀ (y19 : Int32), y19.toInt = (gn (ga mem 18) (t).toInt) → ∀ (y21 : Int32), y21.toInt = (gn (ga mem (s + 1)) (t).toInt) → ∀ (v23 : Int32), v23.toInt = pop (gi mem s 1) → ∀ (v27 : Int32) (m25 : zM), aTm aT0 m25 → (onl [183] (si (si (si (si (si mem 182 1 (gi mem s 0)) 182 2 (gi mem s 5)) 182 3 y19) 182 4 y21) 182 5 v23) m25 ∧ v27.toInt = rvV env c) → ¬ (v27).toInt = 0 → aTm aT0 m25 → P (some (.int 1)) m25) : yR zpg tX0_isLost (d + 6) (0, [(0, .ref 181), (1, .ref s), (2, .int t)], [], mem) P := by
  refine yR_m 1 (fun _ _ _ _ => rfl) ?_
  refine wR_gq rfl hrO_e hm hp ?_
  refine wR_gr rfl quB_e quB_17 hm ?_
  refine yR_m 1 (fun _ _ _ _ => rfl) ?_
  refine wR_iv rfl rfl rlB_e hm rfl rfl rfl rfl ?_
  show yR zpg tX7_isTold (d + 5) (0, [(0, .ref 22), (1, .int 2)], [], mem) _
  refine yR_m 1 (fun _ _ _ _ => rfl) ?_
  refine wR_gr rfl rlB_e rlB_2 hm ?_
  refine yR_m 1 (fun _ _ _ _ => rfl) ?_
  refine wN_al (a := 2) rfl aR_25 hm rfl rfl (by decide) (fun y1 e2 => ?_)
  refine yR_m 1 (fun _ _ _ _ => rfl) ?_
  refine wR_gr rfl rlB_e rlB_1 hm ?_
  refine yR_m 1 (fun _ _ _ _ => rfl) ?_
  refine wN_al (a := 2) rfl aR_24 hm rfl rfl (by decide) (fun y3 e4 => ?_)
  refine wR_ic_le rfl (a := (gn (ga mem 25) 2)) (c := (gn (ga mem 24) 2)) e2 e4 (fun q5 => ?_) (fun q5 => ?_)
  ·
    refine yR_m 1 (fun _ _ _ _ => rfl) ?_
    refine yR_rz rfl ⟨by decide, by decide⟩ ?_
    show yR zpg tX0_isLost (d + 6) (11, [(0, .ref 181), (1, .ref s), (2, .int t)], [.int 0], mem) _
    refine wR_if_ne rfl (a := 0) rfl (fun q => by exfalso; omega) (fun _ => ?_)
    refine yR_m 1 (fun _ _ _ _ => rfl) ?_
    exact yR_rz rfl ⟨by decide, by decide⟩ (h1 y1 e2 y3 e4 q5 hm)
  ·
    refine yR_m 2 (fun _ _ _ _ => rfl) ?_
    refine yR_rz rfl ⟨by decide, by decide⟩ ?_
    show yR zpg tX0_isLost (d + 6) (11, [(0, .ref 181), (1, .ref s), (2, .int t)], [.int 1], mem) _
    refine wR_if_ne rfl (a := 1) rfl (fun _ => ?_) (fun q => by exfalso; omega)
    refine yR_m 3 (fun _ _ _ _ => rfl) ?_
    refine wR_iv rfl rfl hrO_e hm rfl rfl rfl rfl ?_
    show yR zpg tX0_setOut (d + 5) (0, [(0, .ref 181), (1, .ref s), (2, .int t)], [], mem) _
    refine yR_m 1 (fun _ _ _ _ => rfl) ?_
    refine wR_gr rfl hrO_e hrO_1 hm ?_
    refine yR_m 1 (fun _ _ _ _ => rfl) ?_
    refine wR_gi rfl sVO_e sVO_0 hm rfl ?_
    refine wR_pi rfl rkO_e rkO_1 hm rfl ?_
    have hm_1 : aTm aT0 (si mem 182 1 (gi mem s 0)) := tm_si rkO_e rkO_1 hm (i32_b _)
    refine yR_m 1 (fun _ _ _ _ => rfl) ?_
    refine wR_gr rfl hrO_e hrO_1 hm_1 ?_
    refine yR_m 3 (fun _ _ _ _ => rfl) ?_
    refine wR_iv rfl rfl hrO_e hm_1 rfl rfl rfl rfl ?_
    show yR zpg tX0_hueOf (d + 4) (0, [(0, .ref 181), (1, .ref s), (2, .int t)], [], (si mem 182 1 (gi mem s 0))) _
    refine yR_m 2 (fun _ _ _ _ => rfl) ?_
    refine wR_gi rfl sVO_e sVO_4 hm_1 (gi_sv_ne (by first | decide | omega)) ?_
    refine wR_ic_ne rfl (a := (t).toInt) (c := (gi mem s 4).toInt) rfl rfl (fun q6 => ?_) (fun q6 => ?_)
    ·
      refine yR_m 1 (fun _ _ _ _ => rfl) ?_
      refine wR_gq rfl hrO_e hm_1 ((zfl_sv_ne (by first | decide | omega)).trans hp) ?_
      refine wR_gr rfl quB_e quB_10 hm_1 ?_
      refine yR_m 1 (fun _ _ _ _ => rfl) ?_
      refine wN_al (a := (t).toInt) rfl aR_17 hm_1 (ga_sv) rfl (by omega) (fun y7 e8 => ?_)
      refine yR_ri rfl ?_
      show yR zpg tX0_setOut (d + 5) (21, [(0, .ref 181), (1, .ref s), (2, .int t)], [.int y7, .ref 182], (si mem 182 1 (gi mem s 0))) _
      refine wR_pi rfl rkO_e rkO_2 hm_1 rfl ?_
      have hm_2 : aTm aT0 (si (si mem 182 1 (gi mem s 0)) 182 2 y7) := tm_si rkO_e rkO_2 hm_1 (i32_b _)
      refine yR_m 1 (fun _ _ _ _ => rfl) ?_
      refine wR_gr rfl hrO_e hrO_1 hm_2 ?_
      refine yR_m 1 (fun _ _ _ _ => rfl) ?_
      refine wR_gq rfl hrO_e hm_2 ((zfl_sv_ne (by first | decide | omega)).trans ((zfl_sv_ne (by first | decide | omega)).trans hp)) ?_
      refine wR_gr rfl quB_e quB_11 hm_2 ?_
      refine yR_m 1 (fun _ _ _ _ => rfl) ?_
      refine wN_al (a := (t).toInt) rfl aR_18 hm_2 ((ga_sv).trans (ga_sv)) rfl (by omega) (fun y9 e10 => ?_)
      refine wR_pi rfl rkO_e rkO_3 hm_2 rfl ?_
      have hm_3 : aTm aT0 (si (si (si mem 182 1 (gi mem s 0)) 182 2 y7) 182 3 y9) := tm_si rkO_e rkO_3 hm_2 (i32_b _)
      refine yR_m 1 (fun _ _ _ _ => rfl) ?_
      refine wR_gr rfl hrO_e hrO_1 hm_3 ?_
      refine yR_m 1 (fun _ _ _ _ => rfl) ?_
      refine wR_gr rfl sVO_e sVO_2 hm_3 ?_
      refine yR_m 1 (fun _ _ _ _ => rfl) ?_
      refine wN_al (a := (t).toInt) rfl aR_s1 hm_3 ((ga_sv).trans ((ga_sv).trans (ga_sv))) rfl (by omega) (fun y11 e12 => ?_)
      refine wR_pi rfl rkO_e rkO_4 hm_3 rfl ?_
      have hm_4 : aTm aT0 (si (si (si (si mem 182 1 (gi mem s 0)) 182 2 y7) 182 3 y9) 182 4 y11) := tm_si rkO_e rkO_4 hm_3 (i32_b _)
      refine yR_m 1 (fun _ _ _ _ => rfl) ?_
      refine wR_gr rfl hrO_e hrO_1 hm_4 ?_
      refine yR_m 1 (fun _ _ _ _ => rfl) ?_
      refine wR_gi rfl sVO_e sVO_1 hm_4 ((gi_sv_ne (by first | decide | omega)).trans ((gi_sv_ne (by first | decide | omega)).trans ((gi_sv_ne (by first | decide | omega)).trans (gi_sv_ne (by first | decide | omega))))) ?_
      refine yR_cs rfl rfl rfl (h_bc hm_4 (by omega) (by omega)) ?_
      rintro _ _ ⟨v13, rfl, rfl, k14⟩
      show yR zpg tX0_setOut (d + 5) (64, [(0, .ref 181), (1, .ref s), (2, .int t)], [.int v13, .ref 182], (si (si (si (si mem 182 1 (gi mem s 0)) 182 2 y7) 182 3 y9) 182 4 y11)) _
      refine wR_pi rfl rkO_e rkO_5 hm_4 rfl ?_
      have hm_5 : aTm aT0 (si (si (si (si (si mem 182 1 (gi mem s 0)) 182 2 y7) 182 3 y9) 182 4 y11) 182 5 v13) := tm_si rkO_e rkO_5 hm_4 (i32_b _)
      refine yR_rv rfl ?_
      show yR zpg tX0_isLost (d + 6) (22, [(0, .ref 181), (1, .ref s), (2, .int t)], [], (si (si (si (si (si mem 182 1 (gi mem s 0)) 182 2 y7) 182 3 y9) 182 4 y11) 182 5 v13)) _
      refine yR_m 1 (fun _ _ _ _ => rfl) ?_
      refine wR_gr rfl hrO_e hrO_1 hm_5 ?_
      refine yR_m 1 (fun _ _ _ _ => rfl) ?_
      refine wR_gq rfl hrO_e hm_5 ((zfl_sv_ne (by first | decide | omega)).trans ((zfl_sv_ne (by first | decide | omega)).trans ((zfl_sv_ne (by first | decide | omega)).trans ((zfl_sv_ne (by first | decide | omega)).trans ((zfl_sv_ne (by first | decide | omega)).trans hp))))) ?_
      refine wR_gr rfl quB_e quB_17 hm_5 ?_
      refine yR_m 1 (fun _ _ _ _ => rfl) ?_
      refine wR_cv rfl rfl rkO_e hm_5 rfl (h_vrB (env := env) (c := c) (b := b) (w := 2) hm_5 rfl (by decide) he (s1 y1 e2 y3 e4 q5 q6 y7 e8 y9 e10 y11 e12 v13 k14) (rlT_q ((ga_sv).trans ((ga_sv).trans ((ga_sv).trans ((ga_sv).trans (ga_sv))))) ((ga_sv).trans ((ga_sv).trans ((ga_sv).trans ((ga_sv).trans (ga_sv))))) ((ga_sv).trans ((ga_sv).trans ((ga_sv).trans ((ga_sv).trans (ga_sv))))) (hT q5)) (by omega)) ?_
      rintro _ m15 ⟨v17, rfl, hm15, k16⟩
      show yR zpg tX0_isLost (d + 6) (37, [(0, .ref 181), (1, .ref s), (2, .int t)], [.int v17], m15) _
      refine wR_if_eq rfl (a := (v17).toInt) rfl (fun q18 => ?_) (fun q18 => ?_)
      ·
        refine yR_m 1 (fun _ _ _ _ => rfl) ?_
        exact yR_rz rfl ⟨by decide, by decide⟩ (h2 y1 e2 y3 e4 q5 q6 y7 e8 y9 e10 y11 e12 v13 k14 v17 m15 hm15 k16 q18 hm15)
      ·
        refine yR_m 2 (fun _ _ _ _ => rfl) ?_
        exact yR_rz rfl ⟨by decide, by decide⟩ (h3 y1 e2 y3 e4 q5 q6 y7 e8 y9 e10 y11 e12 v13 k14 v17 m15 hm15 k16 q18 hm15)
    ·
      refine yR_m 1 (fun _ _ _ _ => rfl) ?_
      refine wR_gi rfl sVO_e sVO_5 hm_1 (gi_sv_ne (by first | decide | omega)) ?_
      refine yR_m 1 (fun _ _ _ _ => rfl) ?_
      refine yR_ri rfl ?_
      show yR zpg tX0_setOut (d + 5) (21, [(0, .ref 181), (1, .ref s), (2, .int t)], [.int (gi mem s 5), .ref 182], (si mem 182 1 (gi mem s 0))) _
      refine wR_pi rfl rkO_e rkO_2 hm_1 rfl ?_
      have hm_6 : aTm aT0 (si (si mem 182 1 (gi mem s 0)) 182 2 (gi mem s 5)) := tm_si rkO_e rkO_2 hm_1 (i32_b _)
      refine yR_m 1 (fun _ _ _ _ => rfl) ?_
      refine wR_gr rfl hrO_e hrO_1 hm_6 ?_
      refine yR_m 1 (fun _ _ _ _ => rfl) ?_
      refine wR_gq rfl hrO_e hm_6 ((zfl_sv_ne (by first | decide | omega)).trans ((zfl_sv_ne (by first | decide | omega)).trans hp)) ?_
      refine wR_gr rfl quB_e quB_11 hm_6 ?_
      refine yR_m 1 (fun _ _ _ _ => rfl) ?_
      refine wN_al (a := (t).toInt) rfl aR_18 hm_6 ((ga_sv).trans (ga_sv)) rfl (by omega) (fun y19 e20 => ?_)
      refine wR_pi rfl rkO_e rkO_3 hm_6 rfl ?_
      have hm_7 : aTm aT0 (si (si (si mem 182 1 (gi mem s 0)) 182 2 (gi mem s 5)) 182 3 y19) := tm_si rkO_e rkO_3 hm_6 (i32_b _)
      refine yR_m 1 (fun _ _ _ _ => rfl) ?_
      refine wR_gr rfl hrO_e hrO_1 hm_7 ?_
      refine yR_m 1 (fun _ _ _ _ => rfl) ?_
      refine wR_gr rfl sVO_e sVO_2 hm_7 ?_
      refine yR_m 1 (fun _ _ _ _ => rfl) ?_
      refine wN_al (a := (t).toInt) rfl aR_s1 hm_7 ((ga_sv).trans ((ga_sv).trans (ga_sv))) rfl (by omega) (fun y21 e22 => ?_)
      refine wR_pi rfl rkO_e rkO_4 hm_7 rfl ?_
      have hm_8 : aTm aT0 (si (si (si (si mem 182 1 (gi mem s 0)) 182 2 (gi mem s 5)) 182 3 y19) 182 4 y21) := tm_si rkO_e rkO_4 hm_7 (i32_b _)
      refine yR_m 1 (fun _ _ _ _ => rfl) ?_
      refine wR_gr rfl hrO_e hrO_1 hm_8 ?_
      refine yR_m 1 (fun _ _ _ _ => rfl) ?_
      refine wR_gi rfl sVO_e sVO_1 hm_8 ((gi_sv_ne (by first | decide | omega)).trans ((gi_sv_ne (by first | decide | omega)).trans ((gi_sv_ne (by first | decide | omega)).trans (gi_sv_ne (by first | decide | omega))))) ?_
      refine yR_cs rfl rfl rfl (h_bc hm_8 (by omega) (by omega)) ?_
      rintro _ _ ⟨v23, rfl, rfl, k24⟩
      show yR zpg tX0_setOut (d + 5) (64, [(0, .ref 181), (1, .ref s), (2, .int t)], [.int v23, .ref 182], (si (si (si (si mem 182 1 (gi mem s 0)) 182 2 (gi mem s 5)) 182 3 y19) 182 4 y21)) _
      refine wR_pi rfl rkO_e rkO_5 hm_8 rfl ?_
      have hm_9 : aTm aT0 (si (si (si (si (si mem 182 1 (gi mem s 0)) 182 2 (gi mem s 5)) 182 3 y19) 182 4 y21) 182 5 v23) := tm_si rkO_e rkO_5 hm_8 (i32_b _)
      refine yR_rv rfl ?_
      show yR zpg tX0_isLost (d + 6) (22, [(0, .ref 181), (1, .ref s), (2, .int t)], [], (si (si (si (si (si mem 182 1 (gi mem s 0)) 182 2 (gi mem s 5)) 182 3 y19) 182 4 y21) 182 5 v23)) _
      refine yR_m 1 (fun _ _ _ _ => rfl) ?_
      refine wR_gr rfl hrO_e hrO_1 hm_9 ?_
      refine yR_m 1 (fun _ _ _ _ => rfl) ?_
      refine wR_gq rfl hrO_e hm_9 ((zfl_sv_ne (by first | decide | omega)).trans ((zfl_sv_ne (by first | decide | omega)).trans ((zfl_sv_ne (by first | decide | omega)).trans ((zfl_sv_ne (by first | decide | omega)).trans ((zfl_sv_ne (by first | decide | omega)).trans hp))))) ?_
      refine wR_gr rfl quB_e quB_17 hm_9 ?_
      refine yR_m 1 (fun _ _ _ _ => rfl) ?_
      refine wR_cv rfl rfl rkO_e hm_9 rfl (h_vrB (env := env) (c := c) (b := b) (w := 2) hm_9 rfl (by decide) he (s2 y1 e2 y3 e4 q5 q6 y19 e20 y21 e22 v23 k24) (rlT_q ((ga_sv).trans ((ga_sv).trans ((ga_sv).trans ((ga_sv).trans (ga_sv))))) ((ga_sv).trans ((ga_sv).trans ((ga_sv).trans ((ga_sv).trans (ga_sv))))) ((ga_sv).trans ((ga_sv).trans ((ga_sv).trans ((ga_sv).trans (ga_sv))))) (hT q5)) (by omega)) ?_
      rintro _ m25 ⟨v27, rfl, hm25, k26⟩
      show yR zpg tX0_isLost (d + 6) (37, [(0, .ref 181), (1, .ref s), (2, .int t)], [.int v27], m25) _
      refine wR_if_eq rfl (a := (v27).toInt) rfl (fun q28 => ?_) (fun q28 => ?_)
      ·
        refine yR_m 1 (fun _ _ _ _ => rfl) ?_
        exact yR_rz rfl ⟨by decide, by decide⟩ (h4 y1 e2 y3 e4 q5 q6 y19 e20 y21 e22 v23 k24 v27 m25 hm25 k26 q28 hm25)
      ·
        refine yR_m 2 (fun _ _ _ _ => rfl) ?_
        exact yR_rz rfl ⟨by decide, by decide⟩ (h5 y1 e2 y3 e4 q5 q6 y19 e20 y21 e22 v23 k24 v27 m25 hm25 k26 q28 hm25)

theorem h_lsB {s : Nat} {t : Int32} (hm : aTm aT0 mem) (hp : zfl mem 181 0 = some (.ref 14)) (hC : cQ 14 15 16 19 20 21 24 25 Q mem) (hW : WQ Q) (hi : isS s) (hS : tS s Q hu S mem) (hv : wS Q S) (hH : wH Q hu) (t0 : 0 ≤ t.toInt) (t1 : t.toInt < thN Q) (hd : 7 ≤ d) : yC zpg d 13 [.ref 181, .ref s, .int t] mem (fun r m => ∃ v : Int32, r = some (.int v) ∧ aTm aT0 m ∧ (onl [182, 183] mem m ∧ is1 v (lsC Q hu S t.toInt))) := by
  obtain ⟨d, rfl⟩ : ∃ q, d = q + 7 := ⟨d - 7, by omega⟩
  obtain ⟨i1, i2, i3, i4⟩ := hi
  obtain ⟨⟨s0, s1⟩, s2, s3, s4⟩ := hS
  have t8 : t.toInt ≤ 8 := by
    have := hW.2.1.1
    unfold thN at t1
    omega
  have hg := cq_gB hC t0 t1
  obtain ⟨rT, rN⟩ := cq_rB hm hW hC (w := 2) (by decide) (by decide)
  have hb := enV_b hW hv hH t0 t1 (nr := 0) (by decide) (by decide)
  have r1 := hv.2.1.1
  rw [← s1] at r1
  refine yC_of (t := tX0_isLost) rfl rfl ?_
  cases hk : (Qk Q).lookup 2 with
  | none =>
    have rN := rN hk
    exact w_lsB (env := enV Q hu S t.toInt 0) (c := []) (b := true) hm i1 i2 i3 i4 hp hb (fun z => absurd z rN) ⟨t0, t8⟩ r1 
        (fun y1 e2 y3 e4 q5 hm2 => ⟨0, rfl, hm2, onl_rf, Or.inr ⟨rfl, lsC_0 hk⟩⟩)
        (fun y1 e2 y3 e4 q5 q6 y7 e8 y9 e10 y11 e12 v13 k14 => absurd q5 rN)
        (fun y1 e2 y3 e4 q5 q6 y7 e8 y9 e10 y11 e12 v13 k14 v17 m15 hm15 k16 q18 hm2 => absurd q5 rN)
        (fun y1 e2 y3 e4 q5 q6 y7 e8 y9 e10 y11 e12 v13 k14 v17 m15 hm15 k16 q18 hm2 => absurd q5 rN)
        (fun y1 e2 y3 e4 q5 q6 y19 e20 y21 e22 v23 k24 => absurd q5 rN)
        (fun y1 e2 y3 e4 q5 q6 y19 e20 y21 e22 v23 k24 v27 m25 hm25 k26 q28 hm2 => absurd q5 rN)
        (fun y1 e2 y3 e4 q5 q6 y19 e20 y21 e22 v23 k24 v27 m25 hm25 k26 q28 hm2 => absurd q5 rN)
  | some c =>
    have rT := rT c hk
    have ok := rvV_ok hb rT.2.1
    have nc := (hW.2.2.2.2.1 2 c hk).2.2 (by decide)
    exact w_lsB (env := enV Q hu S t.toInt 0) (c := c) (b := true) hm i1 i2 i3 i4 hp hb (fun _ => rT.2) ⟨t0, t8⟩ r1 
        (fun y1 e2 y3 e4 q5 hm2 => by exfalso; have := rT.1; omega)
        (fun y1 e2 y3 e4 q5 q6 y7 e8 y9 e10 y11 e12 v13 k14 => naC_V (by rw [((gi_sv_ne (by decide)).trans ((gi_sv_ne (by decide)).trans ((gi_sv_ne (by decide)).trans ((gi_sv_ne (by decide)).trans (gi_eqQ (isQ_of rkO_e hm) rkO_1)))))]; exact s0) (by rw [((gi_sv_ne (by decide)).trans ((gi_sv_ne (by decide)).trans ((gi_sv_ne (by decide)).trans (gi_eqQ (isQ_sv (isQ_of rkO_e hm)) rkO_2))))]; exact (by rw [e8, hg.1]; exact (s4 _ t0 t1).2 q6)) (by rw [((gi_sv_ne (by decide)).trans ((gi_sv_ne (by decide)).trans (gi_eqQ (isQ_sv (isQ_sv (isQ_of rkO_e hm))) rkO_3))), e10]; exact hg.2) (by rw [((gi_sv_ne (by decide)).trans (gi_eqQ (isQ_sv (isQ_sv (isQ_sv (isQ_of rkO_e hm)))) rkO_4)), e12]; exact s2 _ t0 t1) (by rw [(gi_eqQ (isQ_sv (isQ_sv (isQ_sv (isQ_sv (isQ_of rkO_e hm))))) rkO_5), k14, s1]) (fun z => absurd z nc))
        (fun y1 e2 y3 e4 q5 q6 y7 e8 y9 e10 y11 e12 v13 k14 v17 m15 hm15 k16 q18 hm2 => ⟨0, rfl, hm2, onl_tr (onl_sv rfl (onl_sv rfl (onl_sv rfl (onl_sv rfl (onl_sv rfl onl_rf))))) (onl_up k16.1 rfl), Or.inr ⟨rfl, fun z => by have z1 := (lsC_1 hk).1 z; have z2 := k16.2; omega⟩⟩)
        (fun y1 e2 y3 e4 q5 q6 y7 e8 y9 e10 y11 e12 v13 k14 v17 m15 hm15 k16 q18 hm2 => ⟨1, rfl, hm2, onl_tr (onl_sv rfl (onl_sv rfl (onl_sv rfl (onl_sv rfl (onl_sv rfl onl_rf))))) (onl_up k16.1 rfl), Or.inl ⟨rfl, (lsC_1 hk).2 (by have z2 := k16.2; have z3 := ok.2.2 rfl; omega)⟩⟩)
        (fun y1 e2 y3 e4 q5 q6 y19 e20 y21 e22 v23 k24 => naC_V (by rw [((gi_sv_ne (by decide)).trans ((gi_sv_ne (by decide)).trans ((gi_sv_ne (by decide)).trans ((gi_sv_ne (by decide)).trans (gi_eqQ (isQ_of rkO_e hm) rkO_1)))))]; exact s0) (by rw [((gi_sv_ne (by decide)).trans ((gi_sv_ne (by decide)).trans ((gi_sv_ne (by decide)).trans (gi_eqQ (isQ_sv (isQ_of rkO_e hm)) rkO_2))))]; exact (s4 _ t0 t1).1 q6) (by rw [((gi_sv_ne (by decide)).trans ((gi_sv_ne (by decide)).trans (gi_eqQ (isQ_sv (isQ_sv (isQ_of rkO_e hm))) rkO_3))), e20]; exact hg.2) (by rw [((gi_sv_ne (by decide)).trans (gi_eqQ (isQ_sv (isQ_sv (isQ_sv (isQ_of rkO_e hm)))) rkO_4)), e22]; exact s2 _ t0 t1) (by rw [(gi_eqQ (isQ_sv (isQ_sv (isQ_sv (isQ_sv (isQ_of rkO_e hm))))) rkO_5), k24, s1]) (fun z => absurd z nc))
        (fun y1 e2 y3 e4 q5 q6 y19 e20 y21 e22 v23 k24 v27 m25 hm25 k26 q28 hm2 => ⟨0, rfl, hm2, onl_tr (onl_sv rfl (onl_sv rfl (onl_sv rfl (onl_sv rfl (onl_sv rfl onl_rf))))) (onl_up k26.1 rfl), Or.inr ⟨rfl, fun z => by have z1 := (lsC_1 hk).1 z; have z2 := k26.2; omega⟩⟩)
        (fun y1 e2 y3 e4 q5 q6 y19 e20 y21 e22 v23 k24 v27 m25 hm25 k26 q28 hm2 => ⟨1, rfl, hm2, onl_tr (onl_sv rfl (onl_sv rfl (onl_sv rfl (onl_sv rfl (onl_sv rfl onl_rf))))) (onl_up k26.1 rfl), Or.inl ⟨rfl, (lsC_1 hk).2 (by have z2 := k26.2; have z3 := ok.2.2 rfl; omega)⟩⟩)
end NEB
