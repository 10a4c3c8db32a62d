/-! where it is lit: the class -/
section LTA
variable {Q : Qd} {S : Sd} {hu : Int → Int}
theorem onl_zf {ks : List Nat} {m0 m : zM} {k i : Nat} (hh : onl ks m0 m) (hk : ks.contains k = false) : zfl m k i = zfl m0 k i := by
  unfold zfl
  rw [hh k hk]
theorem onl_gL {ks : List Nat} {m0 m : zM} {k i : Nat} (hh : onl ks m0 m) (hk : ks.contains k = false) : gL m k i = gL m0 k i := by
  unfold gL
  rw [onl_zf hh hk]
/-- only cells of the second list changed, and none of the first -/
def liU (Q : Qd) (hu : Int → Int) (S : Sd) (but n c : Int) : Prop := ∃ t, (0 ≤ t ∧ t < n) ∧ ¬ t = but ∧ bt (Sm S) t ∧ liP Q (thA Q t) (glP Q hu S t) c
theorem liU_n {but n n' c : Int} (n0 : 0 ≤ n) (hn : n' = n + 1) (hh : n = but ∨ ¬ bt (Sm S) n) : liU Q hu S but n' c ↔ liU Q hu S but n c := by
  subst hn
  constructor
  · rintro ⟨t, a, b, c1, e⟩
    refine ⟨t, ⟨a.1, ?_⟩, b, c1, e⟩
    by_cases z : t = n
    · rw [z] at b c1
      rcases hh with q | q
      · exact absurd q b
      · exact absurd c1 q
    · omega
  · rintro ⟨t, a, b⟩
    exact ⟨t, ⟨a.1, by omega⟩, b⟩
theorem liU_y {but n n' c : Int} (n0 : 0 ≤ n) (hn : n' = n + 1) (h1 : ¬ n = but) (h2 : bt (Sm S) n) : liU Q hu S but n' c ↔ (liU Q hu S but n c ∨ liP Q (thA Q n) (glP Q hu S n) c) := by
  subst hn
  constructor
  · rintro ⟨t, a, b, c1, e⟩
    by_cases z : t = n
    · rw [z] at e
      exact Or.inr e
    · exact Or.inl ⟨t, ⟨a.1, by omega⟩, b, c1, e⟩
  · rintro (⟨t, a, b⟩ | e)
    · exact ⟨t, ⟨a.1, by omega⟩, b⟩
    · exact ⟨n, ⟨n0, by omega⟩, h1, h2, e⟩
theorem liU_0 {but c : Int} : ¬ liU Q hu S but 0 c := by
  rintro ⟨t, a, -⟩
  omega
theorem mi_1 {x : Int32} {t : Int32} (t0 : 0 ≤ t.toInt) (t1 : t.toInt < 31) (hh : ¬ ((x >>> (t &&& 31)) &&& 1).toInt = 0) : bt x t.toInt := Classical.byContradiction (fun z => hh ((bt_sh0 t0 t1).2 z))
theorem mi_0 {x : Int32} {t : Int32} (t0 : 0 ≤ t.toInt) (t1 : t.toInt < 31) (hh : ((x >>> (t &&& 31)) &&& 1).toInt = 0) : ¬ bt x t.toInt := (bt_sh0 t0 t1).1 hh
theorem isS_c {s : Nat} (hi : isS s) {ks : List Nat} (hk : ks.all (fun k => decide (181 ≤ k ∧ k ≤ 184)) = true) : ks.contains s = false ∧ ks.contains (s + 1) = false ∧ ks.contains (s + 2) = false := by
  have far : ∀ q, (q < 181 ∨ 184 < q) → ks.contains q = false := fun q hq => by
    cases hc : ks.contains q with
    | false => rfl
    | true =>
      have z := List.all_eq_true.1 hk q (List.contains_iff_mem.1 hc)
      have z := of_decide_eq_true z
      omega
  obtain ⟨-, -, -, a, b⟩ := hi
  exact ⟨far s (by omega), far (s + 1) (by omega), far (s + 2) (by omega)⟩
theorem tS_q {s : Nat} {ks : List Nat} {m m' : zM} (hi : isS s) (hk : ks.all (fun k => decide (181 ≤ k ∧ k ≤ 184)) = true) (ho : onl ks m m') (hS : tS s Q hu S m) : tS s Q hu S m' := by
  obtain ⟨a, b, c⟩ := isS_c hi hk
  unfold tS at hS ⊢
  rw [onl_gi ho a, onl_gi ho a, onl_gi ho a, onl_gi ho a, onl_ga ho b, onl_ga ho c]
  exact hS
end LTA
section LTA
variable {d : Nat} {mem : zM} {Q : Qd} {S : Sd} {hu : Int → Int}
theorem cQ_qA {ks : List Nat} {m m' : zM} (hk : ks.all (fun k => decide (26 ≤ k)) = true) (ho : onl ks m m') (hC : cQ 2 3 4 7 8 9 12 13 Q m) : cQ 2 3 4 7 8 9 12 13 Q m' := by
  have far : ∀ q, q < 26 → ks.contains q = false := fun q hq => by
    cases hc : ks.contains q with
    | false => rfl
    | true =>
      have z := List.all_eq_true.1 hk q (List.contains_iff_mem.1 hc)
      have z := of_decide_eq_true z
      omega
  have A : ∀ q, q < 26 → ga m' q = ga m q := fun q hq => onl_ga ho (far q hq)
  have I : ∀ i, gi m' 2 i = gi m 2 i := fun i => onl_gi ho (far _ (by decide))
  have X : cQx 2 Q m' := cQx_eq (I 3) (I 4) (onl_gL ho (far _ (by decide))) (A _ (by decide)) (A _ (by decide)) (A _ (by decide)) (A _ (by decide)) (A _ (by decide)) (onl_gi ho (far _ (by decide))) hC.2.2.2.2.2.2
  obtain ⟨h1, h2, h3, h4, h5, h6, -⟩ := hC
  refine ⟨?_, ?_, ?_, ?_, ?_, ?_, X⟩
  · rw [I 1, I 2]
    exact h1
  · unfold cQw at h2 ⊢
    rw [onl_gL ho (far _ (by decide))]
    exact h2
  · unfold cQt at h3 ⊢
    rw [I 7, A _ (by decide), A _ (by decide)]
    exact h3
  · unfold cQh at h4 ⊢
    rw [I 12]
    exact h4
  · unfold cQf at h5 ⊢
    rw [I 13, A _ (by decide), A _ (by decide), A _ (by decide)]
    exact h5
  · unfold cQu at h6 ⊢
    rw [A _ (by decide), A _ (by decide)]
    exact h6
set_option maxRecDepth 100000 in
theorem w_lt0A {d : Nat} {mem : zM} {P : Option Value → zM → Prop} {s : Nat} {but : Int32} {lo : List (Nat × Value)} (hm : aTm aT0 mem) (l_0 : zlg lo 0 = some (.ref 181)) (l_1 : zlg lo 1 = some (.ref s)) (l_2 : zlg lo 2 = some (.int but)) (h1 : ∀ lo, zlg lo 0 = some (.ref 181) → zlg lo 1 = some (.ref s) → zlg lo 2 = some (.int but) → zlg lo 3 = some (.long 0) → zlg lo 5 = some (.int 0) → aTm aT0 mem → yR zpg tX0_lit (d + 8) (5, lo, [], mem) P) : yR zpg tX0_lit (d + 8) (0, lo, [], mem) P := by
  refine yR_m 1 (fun _ _ _ _ => rfl) ?_
  refine wR_sl rfl rfl (fun lo1 e2 f3 => ?_)
  have lo1_0 := f3 0 _ (by decide) (Or.inl rfl) l_0
  have lo1_1 := f3 1 _ (by decide) (Or.inl rfl) l_1
  have lo1_2 := f3 2 _ (by decide) (Or.inl rfl) l_2
  refine yR_m 1 (fun _ _ _ _ => rfl) ?_
  refine wR_si rfl rfl (fun lo4 e5 f6 => ?_)
  have lo4_3 := f6 3 _ (by decide) (Or.inr (by decide)) e2
  have lo4_0 := f6 0 _ (by decide) (Or.inl rfl) lo1_0
  have lo4_1 := f6 1 _ (by decide) (Or.inl rfl) lo1_1
  have lo4_2 := f6 2 _ (by decide) (Or.inl rfl) lo1_2
  exact h1 lo4 lo4_0 lo4_1 lo4_2 lo4_3 e5 hm

set_option maxRecDepth 100000 in
theorem w_lt5A {d : Nat} {mem : zM} {P : Option Value → zM → Prop} {t but : Int32} {al : Int64} {s : Nat} {lo : List (Nat × Value)} (hm : aTm aT0 mem) (l_0 : zlg lo 0 = some (.ref 181)) (l_1 : zlg lo 1 = some (.ref s)) (l_2 : zlg lo 2 = some (.int but)) (l_3 : zlg lo 3 = some (.long al)) (l_5 : zlg lo 5 = some (.int t)) (sVO_e : aat aT0 s = some (.inr (8, sVO s))) (aR_s1 : aat aT0 (s + 1) = some (.inl (false, 0, 9, .inl (-2147483648, 2147483647)))) (aR_s2 : aat aT0 (s + 2) = some (.inl (false, 0, 6, .inl (-2147483648, 2147483647)))) (hs : (31 ≤ s ∧ s ≤ 216) ∧ (s < 38 ∨ 192 ≤ s)) {Q : Qd} {S : Sd} {hu : Int → Int} (hp : zfl mem 181 0 = some (.ref 2)) (hC : cQ 2 3 4 7 8 9 12 13 Q mem) (hW : WQ Q) (hS : tS s Q hu S mem) (hv : wS Q S) (hH : wH Q hu) (cn : (gi mem 2 7).toInt = thN Q) (ht : 0 ≤ t.toInt ∧ t.toInt ≤ 9) (h1 : (gi mem 2 7).toInt ≤ (t).toInt → aTm aT0 mem → P (some (.long al)) mem) (h2 : (t).toInt < (gi mem 2 7).toInt → (t).toInt = (but).toInt → ∀ (x3 : Int32), x3.toInt = ((t).toInt + 1) → ∀ lo, zlg lo 0 = some (.ref 181) → zlg lo 1 = some (.ref s) → zlg lo 2 = some (.int but) → zlg lo 3 = some (.long al) → zlg lo 5 = some (.int x3) → aTm aT0 mem → yR zpg tX0_lit (d + 8) (5, lo, [], mem) P) (h3 : (t).toInt < (gi mem 2 7).toInt → ¬ (t).toInt = (but).toInt → (((gi mem s 1) >>> (t &&& 31)) &&& 1).toInt = 0 → ∀ (x9 : Int32), x9.toInt = ((t).toInt + 1) → ∀ lo, zlg lo 0 = some (.ref 181) → zlg lo 1 = some (.ref s) → zlg lo 2 = some (.int but) → zlg lo 3 = some (.long al) → zlg lo 5 = some (.int x9) → aTm aT0 mem → yR zpg tX0_lit (d + 8) (5, lo, [], mem) P) (h4 : (t).toInt < (gi mem 2 7).toInt → ¬ (t).toInt = (but).toInt → ¬ (((gi mem s 1) >>> (t &&& 31)) &&& 1).toInt = 0 → ∀ (y14 : Int32), y14.toInt = (gn (ga mem 4) (t).toInt) → ∀ (v18 : Int32) (m16 : zM), aTm aT0 m16 → (onl [182, 183] mem m16 ∧ v18.toInt = glP Q hu S (t).toInt) → ∀ (v19 : Int64), (∀ c, 0 ≤ c → c < 64 → (bL v19 c ↔ liP Q (y14).toInt (v18).toInt c)) → ∀ (x24 : Int32), x24.toInt = ((t).toInt + 1) → ∀ lo, zlg lo 0 = some (.ref 181) → zlg lo 1 = some (.ref s) → zlg lo 2 = some (.int but) → zlg lo 3 = some (.long (al ||| v19)) → zlg lo 5 = some (.int x24) → aTm aT0 m16 → yR zpg tX0_lit (d + 8) (5, lo, [], m16) P) : yR zpg tX0_lit (d + 8) (5, lo, [], mem) P := by
  have r7 := quA_r7 hm
  refine wR_li rfl l_5 ?_
  refine wR_la rfl l_0 ?_
  refine wR_gq rfl hrO_e hm hp ?_
  refine wR_gi rfl quA_e quA_7 hm rfl ?_
  refine wR_ic_ge rfl (a := (t).toInt) (c := (gi mem 2 7).toInt) rfl rfl (fun q1 => ?_) (fun q1 => ?_)
  ·
    refine wR_ll4 rfl l_3 ?_
    exact yR_rl rfl (h1 q1 hm)
  ·
    refine wR_li rfl l_5 ?_
    refine wR_li rfl l_2 ?_
    refine wR_ic_eq rfl (a := (t).toInt) (c := (but).toInt) rfl rfl (fun q2 => ?_) (fun q2 => ?_)
    ·
      refine wN_in (a := (t).toInt) (b := 1) rfl rfl l_5 rfl rfl (by omega) (fun x3 e4 => fun lo5 e6 f7 => ?_)
      have lo5_0 := f7 0 _ (by decide) (Or.inl rfl) l_0
      have lo5_1 := f7 1 _ (by decide) (Or.inl rfl) l_1
      have lo5_2 := f7 2 _ (by decide) (Or.inl rfl) l_2
      have lo5_3 := f7 3 _ (by decide) (Or.inr (by decide)) l_3
      exact yR_m 1 (fun _ _ _ _ => rfl) (h2 q1 q2 x3 e4 lo5 lo5_0 lo5_1 lo5_2 lo5_3 e6 hm)
    ·
      refine wR_la rfl l_1 ?_
      refine wR_li rfl l_5 ?_
      refine wR_iv rfl rfl sVO_e hm rfl rfl rfl rfl ?_
      show yR zpg tX8_isMissing (d + 7) (0, [(0, .ref s), (1, .int t)], [], mem) _
      refine yR_m 1 (fun _ _ _ _ => rfl) ?_
      refine wR_gi rfl sVO_e sVO_1 hm rfl ?_
      refine yR_m 4 (fun _ _ _ _ => rfl) ?_
      refine wR_if_eq rfl (a := (((gi mem s 1) >>> (t &&& 31)) &&& 1).toInt) rfl (fun q8 => ?_) (fun q8 => ?_)
      ·
        refine yR_m 1 (fun _ _ _ _ => rfl) ?_
        refine yR_rz rfl ⟨by decide, by decide⟩ ?_
        show yR zpg tX0_lit (d + 8) (29, lo, [.int 0], mem) _
        refine wR_if_eq rfl (a := 0) rfl (fun _ => ?_) (fun q => by exfalso; omega)
        refine wN_in (a := (t).toInt) (b := 1) rfl rfl l_5 rfl rfl (by omega) (fun x9 e10 => fun lo11 e12 f13 => ?_)
        have lo11_0 := f13 0 _ (by decide) (Or.inl rfl) l_0
        have lo11_1 := f13 1 _ (by decide) (Or.inl rfl) l_1
        have lo11_2 := f13 2 _ (by decide) (Or.inl rfl) l_2
        have lo11_3 := f13 3 _ (by decide) (Or.inr (by decide)) l_3
        exact yR_m 1 (fun _ _ _ _ => rfl) (h3 q1 q2 q8 x9 e10 lo11 lo11_0 lo11_1 lo11_2 lo11_3 e12 hm)
      ·
        refine yR_m 2 (fun _ _ _ _ => rfl) ?_
        refine yR_rz rfl ⟨by decide, by decide⟩ ?_
        show yR zpg tX0_lit (d + 8) (29, lo, [.int 1], mem) _
        refine wR_if_eq rfl (a := 1) rfl (fun q => by exfalso; omega) (fun _ => ?_)
        refine wR_ll4 rfl l_3 ?_
        refine wR_la rfl l_0 ?_
        refine wR_la rfl l_0 ?_
        refine wR_gq rfl hrO_e hm hp ?_
        refine wR_gr rfl quA_e quA_9 hm ?_
        refine wR_li rfl l_5 ?_
        refine wN_al (a := (t).toInt) rfl aR_4 hm rfl rfl (by omega) (fun y14 e15 => ?_)
        refine wR_la rfl l_0 ?_
        refine wR_la rfl l_1 ?_
        refine wR_li rfl l_5 ?_
        refine wR_cv rfl rfl hrO_e hm rfl (h_glA (Q := Q) (S := S) (hu := hu) hm hp hC hW ⟨sVO_e, aR_s1, aR_s2, hs⟩ hS hv hH (by omega) (by omega) (by omega)) ?_
        rintro _ m16 ⟨v18, rfl, hm16, k17⟩
        show yR zpg tX0_lit (d + 8) (51, lo, [.int v18, .int y14, .ref 181, .long al], m16) _
        refine wR_cv rfl rfl hrO_e hm16 rfl (h_liA (Q := Q) hm16 ((onl_zf k17.1 rfl).trans hp) hW.1 ((onl_gL k17.1 rfl).trans (cq_pA hC).2.2) (cQ_qA rfl k17.1 hC).2.1 (by rw [e15, cq_tA hC (by omega) (by omega)]; exact (wq_t hW (by omega) (by omega)).1) (by rw [k17.2]; exact (glP_b hH (by omega) (by omega)).1) (by rw [k17.2]; exact (glP_b hH (by omega) (by omega)).2) (by omega)) ?_
        rintro _ _ ⟨v19, rfl, rfl, k20⟩
        show yR zpg tX0_lit (d + 8) (54, lo, [.long v19, .long al], m16) _
        refine yR_m 1 (fun _ _ _ _ => rfl) ?_
        refine wR_sl rfl rfl (fun lo21 e22 f23 => ?_)
        have lo21_0 := f23 0 _ (by decide) (Or.inl rfl) l_0
        have lo21_1 := f23 1 _ (by decide) (Or.inl rfl) l_1
        have lo21_2 := f23 2 _ (by decide) (Or.inl rfl) l_2
        have lo21_5 := f23 5 _ (by decide) (Or.inl rfl) l_5
        refine wN_in (a := (t).toInt) (b := 1) rfl rfl lo21_5 rfl rfl (by omega) (fun x24 e25 => fun lo26 e27 f28 => ?_)
        have lo26_3 := f28 3 _ (by decide) (Or.inr (by decide)) e22
        have lo26_0 := f28 0 _ (by decide) (Or.inl rfl) lo21_0
        have lo26_1 := f28 1 _ (by decide) (Or.inl rfl) lo21_1
        have lo26_2 := f28 2 _ (by decide) (Or.inl rfl) lo21_2
        exact yR_m 1 (fun _ _ _ _ => rfl) (h4 q1 q2 q8 y14 e15 v18 m16 hm16 k17 v19 k20 x24 e25 lo26 lo26_0 lo26_1 lo26_2 lo26_3 e27 hm16)

theorem lt_loopA {s : Nat} {but : Int32} {mr : zM} (hpr : zfl mr 181 0 = some (.ref 2)) (hCr : cQ 2 3 4 7 8 9 12 13 Q mr) (hW : WQ Q) (hi : isS s) (hSr : tS s Q hu S mr) (hv : wS Q S) (hH : wH Q hu) : ∀ (f : Nat) (t : Int32) (al : Int64) (mem : zM) (lo : List (Nat × Value)), t.toInt + (f : Int) = thN Q → 0 ≤ t.toInt → (∀ c, 0 ≤ c → c < 64 → (bL al c ↔ liU Q hu S but.toInt t.toInt c)) → aTm aT0 mem → onl [182, 183] mr mem → zlg lo 0 = some (.ref 181) → zlg lo 1 = some (.ref s) → zlg lo 2 = some (.int but) → zlg lo 3 = some (.long al) → zlg lo 5 = some (.int t) → yR zpg tX0_lit (d + 8) (5, lo, [], mem) (fun r m => ∃ v : Int64, r = some (.long v) ∧ aTm aT0 m ∧ (onl [182, 183] mr m ∧ ∀ c, 0 ≤ c → c < 64 → (bL v c ↔ liT Q hu S but.toInt c))) := by
  intro f
  have n9 : thN Q ≤ 9 := by
    have := hW.2.1.1
    unfold thN
    omega
  induction f with
  | zero =>
    intro t al mem lo ht t0 hal hm ho l0 l1 l2 l3 l5
    have hp : zfl mem 181 0 = some (.ref 2) := (onl_zf ho rfl).trans hpr
    have hC := cQ_qA rfl ho hCr
    have hS := tS_q hi rfl ho hSr
    have cn := (cq_nA hC).1
    exact w_lt5A hm l0 l1 l2 l3 l5 hi.1 hi.2.1 hi.2.2.1 hi.2.2.2 hp hC hW hS hv hH cn ⟨t0, by omega⟩ 
        (fun q1 hm2 => ⟨_, rfl, hm2, ho, fun c c0 c1 => by rw [hal c c0 c1, show t.toInt = thN Q by omega]; exact Iff.rfl⟩)
        (fun q1 q2 x3 e4 lo a0 a1 a2 a3 a5 hm2 => by exfalso; omega)
        (fun q1 q2 q8 x9 e10 lo a0 a1 a2 a3 a5 hm2 => by exfalso; omega)
        (fun q1 q2 q8 y14 e15 v18 m16 hm16 k17 v19 k20 x24 e25 lo a0 a1 a2 a3 a5 hm2 => by exfalso; omega)
  | succ f ih =>
    intro t al mem lo ht t0 hal hm ho l0 l1 l2 l3 l5
    have hp : zfl mem 181 0 = some (.ref 2) := (onl_zf ho rfl).trans hpr
    have hC := cQ_qA rfl ho hCr
    have hS := tS_q hi rfl ho hSr
    have cn := (cq_nA hC).1
    have s1 : gi mem s 1 = Sm S := hS.1.2
    exact w_lt5A hm l0 l1 l2 l3 l5 hi.1 hi.2.1 hi.2.2.1 hi.2.2.2 hp hC hW hS hv hH cn ⟨t0, by omega⟩ 
        (fun q1 hm2 => by exfalso; omega)
        (fun q1 q2 x3 e4 lo a0 a1 a2 a3 a5 hm2 => ih _ _ _ lo (by omega) (by omega) (fun c c0 c1 => (hal c c0 c1).trans (liU_n t0 e4 (Or.inl q2)).symm) hm2 ho a0 a1 a2 a3 a5)
        (fun q1 q2 q8 x9 e10 lo a0 a1 a2 a3 a5 hm2 => ih _ _ _ lo (by omega) (by omega) (fun c c0 c1 => (hal c c0 c1).trans (liU_n t0 e10 (Or.inr (by have z := mi_0 t0 (by omega) q8; rw [s1] at z; exact z))).symm) hm2 ho a0 a1 a2 a3 a5)
        (fun q1 q2 q8 y14 e15 v18 m16 hm16 k17 v19 k20 x24 e25 lo a0 a1 a2 a3 a5 hm2 => ih _ _ _ lo (by omega) (by omega) (fun c c0 c1 => by
          have z := mi_1 t0 (by omega) q8
          rw [s1] at z
          rw [bL_o, hal c c0 c1, k20 c c0 c1, e15, cq_tA hC t0 (by omega), k17.2]
          exact (liU_y t0 e25 q2 z).symm) hm2 (onl_tr ho k17.1) a0 a1 a2 a3 a5)
theorem h_ltA {s : Nat} {but : Int32} (hm : aTm aT0 mem) (hp : zfl mem 181 0 = some (.ref 2)) (hC : cQ 2 3 4 7 8 9 12 13 Q mem) (hW : WQ Q) (hi : isS s) (hS : tS s Q hu S mem) (hv : wS Q S) (hH : wH Q hu) (hd : 9 ≤ d) : yC zpg d 3 [.ref 181, .ref s, .int but] mem (fun r m => ∃ v : Int64, r = some (.long v) ∧ aTm aT0 m ∧ (onl [182, 183] mem m ∧ ∀ c, 0 ≤ c → c < 64 → (bL v c ↔ liT Q hu S but.toInt c))) := by
  obtain ⟨d, rfl⟩ : ∃ q, d = q + 9 := ⟨d - 9, by omega⟩
  refine yC_of (t := tX0_lit) rfl rfl ?_
  refine w_lt0A hm rfl rfl rfl ?_
  intro lo a0 a1 a2 a3 a5 hm
  exact lt_loopA hp hC hW hi hS hv hH (Qt Q).length 0 0 mem lo (by show (0 : Int) + _ = _; unfold thN; omega) (by decide) (fun c c0 c1 => ⟨fun z => absurd z bL_0, fun z => absurd z liU_0⟩) hm onl_rf a0 a1 a2 a3 a5
end LTA
section LTB
variable {d : Nat} {mem : zM} {Q : Qd} {S : Sd} {hu : Int → Int}
theorem cQ_qB {ks : List Nat} {m m' : zM} (hk : ks.all (fun k => decide (26 ≤ k)) = true) (ho : onl ks m m') (hC : cQ 14 15 16 19 20 21 24 25 Q m) : cQ 14 15 16 19 20 21 24 25 Q m' := by
  have far : ∀ q, q < 26 → ks.contains q = false := fun q hq => by
    cases hc : ks.contains q with
    | false => rfl
    | true =>
      have z := List.all_eq_true.1 hk q (List.contains_iff_mem.1 hc)
      have z := of_decide_eq_true z
      omega
  have A : ∀ q, q < 26 → ga m' q = ga m q := fun q hq => onl_ga ho (far q hq)
  have I : ∀ i, gi m' 14 i = gi m 14 i := fun i => onl_gi ho (far _ (by decide))
  have X : cQx 14 Q m' := cQx_eq (I 3) (I 4) (onl_gL ho (far _ (by decide))) (A _ (by decide)) (A _ (by decide)) (A _ (by decide)) (A _ (by decide)) (A _ (by decide)) (onl_gi ho (far _ (by decide))) hC.2.2.2.2.2.2
  obtain ⟨h1, h2, h3, h4, h5, h6, -⟩ := hC
  refine ⟨?_, ?_, ?_, ?_, ?_, ?_, X⟩
  · rw [I 1, I 2]
    exact h1
  · unfold cQw at h2 ⊢
    rw [onl_gL ho (far _ (by decide))]
    exact h2
  · unfold cQt at h3 ⊢
    rw [I 7, A _ (by decide), A _ (by decide)]
    exact h3
  · unfold cQh at h4 ⊢
    rw [I 12]
    exact h4
  · unfold cQf at h5 ⊢
    rw [I 13, A _ (by decide), A _ (by decide), A _ (by decide)]
    exact h5
  · unfold cQu at h6 ⊢
    rw [A _ (by decide), A _ (by decide)]
    exact h6
set_option maxRecDepth 100000 in
theorem w_lt0B {d : Nat} {mem : zM} {P : Option Value → zM → Prop} {s : Nat} {but : Int32} {lo : List (Nat × Value)} (hm : aTm aT0 mem) (l_0 : zlg lo 0 = some (.ref 181)) (l_1 : zlg lo 1 = some (.ref s)) (l_2 : zlg lo 2 = some (.int but)) (h1 : ∀ lo, zlg lo 0 = some (.ref 181) → zlg lo 1 = some (.ref s) → zlg lo 2 = some (.int but) → zlg lo 3 = some (.long 0) → zlg lo 5 = some (.int 0) → aTm aT0 mem → yR zpg tX0_lit (d + 8) (5, lo, [], mem) P) : yR zpg tX0_lit (d + 8) (0, lo, [], mem) P := by
  refine yR_m 1 (fun _ _ _ _ => rfl) ?_
  refine wR_sl rfl rfl (fun lo1 e2 f3 => ?_)
  have lo1_0 := f3 0 _ (by decide) (Or.inl rfl) l_0
  have lo1_1 := f3 1 _ (by decide) (Or.inl rfl) l_1
  have lo1_2 := f3 2 _ (by decide) (Or.inl rfl) l_2
  refine yR_m 1 (fun _ _ _ _ => rfl) ?_
  refine wR_si rfl rfl (fun lo4 e5 f6 => ?_)
  have lo4_3 := f6 3 _ (by decide) (Or.inr (by decide)) e2
  have lo4_0 := f6 0 _ (by decide) (Or.inl rfl) lo1_0
  have lo4_1 := f6 1 _ (by decide) (Or.inl rfl) lo1_1
  have lo4_2 := f6 2 _ (by decide) (Or.inl rfl) lo1_2
  exact h1 lo4 lo4_0 lo4_1 lo4_2 lo4_3 e5 hm

set_option maxRecDepth 100000 in
theorem w_lt5B {d : Nat} {mem : zM} {P : Option Value → zM → Prop} {t but : Int32} {al : Int64} {s : Nat} {lo : List (Nat × Value)} (hm : aTm aT0 mem) (l_0 : zlg lo 0 = some (.ref 181)) (l_1 : zlg lo 1 = some (.ref s)) (l_2 : zlg lo 2 = some (.int but)) (l_3 : zlg lo 3 = some (.long al)) (l_5 : zlg lo 5 = some (.int t)) (sVO_e : aat aT0 s = some (.inr (8, sVO s))) (aR_s1 : aat aT0 (s + 1) = some (.inl (false, 0, 9, .inl (-2147483648, 2147483647)))) (aR_s2 : aat aT0 (s + 2) = some (.inl (false, 0, 6, .inl (-2147483648, 2147483647)))) (hs : (31 ≤ s ∧ s ≤ 216) ∧ (s < 38 ∨ 192 ≤ s)) {Q : Qd} {S : Sd} {hu : Int → Int} (hp : zfl mem 181 0 = some (.ref 14)) (hC : cQ 14 15 16 19 20 21 24 25 Q mem) (hW : WQ Q) (hS : tS s Q hu S mem) (hv : wS Q S) (hH : wH Q hu) (cn : (gi mem 14 7).toInt = thN Q) (ht : 0 ≤ t.toInt ∧ t.toInt ≤ 9) (h1 : (gi mem 14 7).toInt ≤ (t).toInt → aTm aT0 mem → P (some (.long al)) mem) (h2 : (t).toInt < (gi mem 14 7).toInt → (t).toInt = (but).toInt → ∀ (x3 : Int32), x3.toInt = ((t).toInt + 1) → ∀ lo, zlg lo 0 = some (.ref 181) → zlg lo 1 = some (.ref s) → zlg lo 2 = some (.int but) → zlg lo 3 = some (.long al) → zlg lo 5 = some (.int x3) → aTm aT0 mem → yR zpg tX0_lit (d + 8) (5, lo, [], mem) P) (h3 : (t).toInt < (gi mem 14 7).toInt → ¬ (t).toInt = (but).toInt → (((gi mem s 1) >>> (t &&& 31)) &&& 1).toInt = 0 → ∀ (x9 : Int32), x9.toInt = ((t).toInt + 1) → ∀ lo, zlg lo 0 = some (.ref 181) → zlg lo 1 = some (.ref s) → zlg lo 2 = some (.int but) → zlg lo 3 = some (.long al) → zlg lo 5 = some (.int x9) → aTm aT0 mem → yR zpg tX0_lit (d + 8) (5, lo, [], mem) P) (h4 : (t).toInt < (gi mem 14 7).toInt → ¬ (t).toInt = (but).toInt → ¬ (((gi mem s 1) >>> (t &&& 31)) &&& 1).toInt = 0 → ∀ (y14 : Int32), y14.toInt = (gn (ga mem 16) (t).toInt) → ∀ (v18 : Int32) (m16 : zM), aTm aT0 m16 → (onl [182, 183] mem m16 ∧ v18.toInt = glP Q hu S (t).toInt) → ∀ (v19 : Int64), (∀ c, 0 ≤ c → c < 64 → (bL v19 c ↔ liP Q (y14).toInt (v18).toInt c)) → ∀ (x24 : Int32), x24.toInt = ((t).toInt + 1) → ∀ lo, zlg lo 0 = some (.ref 181) → zlg lo 1 = some (.ref s) → zlg lo 2 = some (.int but) → zlg lo 3 = some (.long (al ||| v19)) → zlg lo 5 = some (.int x24) → aTm aT0 m16 → yR zpg tX0_lit (d + 8) (5, lo, [], m16) P) : yR zpg tX0_lit (d + 8) (5, lo, [], mem) P := by
  have r7 := quB_r7 hm
  refine wR_li rfl l_5 ?_
  refine wR_la rfl l_0 ?_
  refine wR_gq rfl hrO_e hm hp ?_
  refine wR_gi rfl quB_e quB_7 hm rfl ?_
  refine wR_ic_ge rfl (a := (t).toInt) (c := (gi mem 14 7).toInt) rfl rfl (fun q1 => ?_) (fun q1 => ?_)
  ·
    refine wR_ll4 rfl l_3 ?_
    exact yR_rl rfl (h1 q1 hm)
  ·
    refine wR_li rfl l_5 ?_
    refine wR_li rfl l_2 ?_
    refine wR_ic_eq rfl (a := (t).toInt) (c := (but).toInt) rfl rfl (fun q2 => ?_) (fun q2 => ?_)
    ·
      refine wN_in (a := (t).toInt) (b := 1) rfl rfl l_5 rfl rfl (by omega) (fun x3 e4 => fun lo5 e6 f7 => ?_)
      have lo5_0 := f7 0 _ (by decide) (Or.inl rfl) l_0
      have lo5_1 := f7 1 _ (by decide) (Or.inl rfl) l_1
      have lo5_2 := f7 2 _ (by decide) (Or.inl rfl) l_2
      have lo5_3 := f7 3 _ (by decide) (Or.inr (by decide)) l_3
      exact yR_m 1 (fun _ _ _ _ => rfl) (h2 q1 q2 x3 e4 lo5 lo5_0 lo5_1 lo5_2 lo5_3 e6 hm)
    ·
      refine wR_la rfl l_1 ?_
      refine wR_li rfl l_5 ?_
      refine wR_iv rfl rfl sVO_e hm rfl rfl rfl rfl ?_
      show yR zpg tX8_isMissing (d + 7) (0, [(0, .ref s), (1, .int t)], [], mem) _
      refine yR_m 1 (fun _ _ _ _ => rfl) ?_
      refine wR_gi rfl sVO_e sVO_1 hm rfl ?_
      refine yR_m 4 (fun _ _ _ _ => rfl) ?_
      refine wR_if_eq rfl (a := (((gi mem s 1) >>> (t &&& 31)) &&& 1).toInt) rfl (fun q8 => ?_) (fun q8 => ?_)
      ·
        refine yR_m 1 (fun _ _ _ _ => rfl) ?_
        refine yR_rz rfl ⟨by decide, by decide⟩ ?_
        show yR zpg tX0_lit (d + 8) (29, lo, [.int 0], mem) _
        refine wR_if_eq rfl (a := 0) rfl (fun _ => ?_) (fun q => by exfalso; omega)
        refine wN_in (a := (t).toInt) (b := 1) rfl rfl l_5 rfl rfl (by omega) (fun x9 e10 => fun lo11 e12 f13 => ?_)
        have lo11_0 := f13 0 _ (by decide) (Or.inl rfl) l_0
        have lo11_1 := f13 1 _ (by decide) (Or.inl rfl) l_1
        have lo11_2 := f13 2 _ (by decide) (Or.inl rfl) l_2
        have lo11_3 := f13 3 _ (by decide) (Or.inr (by decide)) l_3
        exact yR_m 1 (fun _ _ _ _ => rfl) (h3 q1 q2 q8 x9 e10 lo11 lo11_0 lo11_1 lo11_2 lo11_3 e12 hm)
      ·
        refine yR_m 2 (fun _ _ _ _ => rfl) ?_
        refine yR_rz rfl ⟨by decide, by decide⟩ ?_
        show yR zpg tX0_lit (d + 8) (29, lo, [.int 1], mem) _
        refine wR_if_eq rfl (a := 1) rfl (fun q => by exfalso; omega) (fun _ => ?_)
        refine wR_ll4 rfl l_3 ?_
        refine wR_la rfl l_0 ?_
        refine wR_la rfl l_0 ?_
        refine wR_gq rfl hrO_e hm hp ?_
        refine wR_gr rfl quB_e quB_9 hm ?_
        refine wR_li rfl l_5 ?_
        refine wN_al (a := (t).toInt) rfl aR_16 hm rfl rfl (by omega) (fun y14 e15 => ?_)
        refine wR_la rfl l_0 ?_
        refine wR_la rfl l_1 ?_
        refine wR_li rfl l_5 ?_
        refine wR_cv rfl rfl hrO_e hm rfl (h_glB (Q := Q) (S := S) (hu := hu) hm hp hC hW ⟨sVO_e, aR_s1, aR_s2, hs⟩ hS hv hH (by omega) (by omega) (by omega)) ?_
        rintro _ m16 ⟨v18, rfl, hm16, k17⟩
        show yR zpg tX0_lit (d + 8) (51, lo, [.int v18, .int y14, .ref 181, .long al], m16) _
        refine wR_cv rfl rfl hrO_e hm16 rfl (h_liB (Q := Q) hm16 ((onl_zf k17.1 rfl).trans hp) hW.1 ((onl_gL k17.1 rfl).trans (cq_pB hC).2.2) (cQ_qB rfl k17.1 hC).2.1 (by rw [e15, cq_tB hC (by omega) (by omega)]; exact (wq_t hW (by omega) (by omega)).1) (by rw [k17.2]; exact (glP_b hH (by omega) (by omega)).1) (by rw [k17.2]; exact (glP_b hH (by omega) (by omega)).2) (by omega)) ?_
        rintro _ _ ⟨v19, rfl, rfl, k20⟩
        show yR zpg tX0_lit (d + 8) (54, lo, [.long v19, .long al], m16) _
        refine yR_m 1 (fun _ _ _ _ => rfl) ?_
        refine wR_sl rfl rfl (fun lo21 e22 f23 => ?_)
        have lo21_0 := f23 0 _ (by decide) (Or.inl rfl) l_0
        have lo21_1 := f23 1 _ (by decide) (Or.inl rfl) l_1
        have lo21_2 := f23 2 _ (by decide) (Or.inl rfl) l_2
        have lo21_5 := f23 5 _ (by decide) (Or.inl rfl) l_5
        refine wN_in (a := (t).toInt) (b := 1) rfl rfl lo21_5 rfl rfl (by omega) (fun x24 e25 => fun lo26 e27 f28 => ?_)
        have lo26_3 := f28 3 _ (by decide) (Or.inr (by decide)) e22
        have lo26_0 := f28 0 _ (by decide) (Or.inl rfl) lo21_0
        have lo26_1 := f28 1 _ (by decide) (Or.inl rfl) lo21_1
        have lo26_2 := f28 2 _ (by decide) (Or.inl rfl) lo21_2
        exact yR_m 1 (fun _ _ _ _ => rfl) (h4 q1 q2 q8 y14 e15 v18 m16 hm16 k17 v19 k20 x24 e25 lo26 lo26_0 lo26_1 lo26_2 lo26_3 e27 hm16)

theorem lt_loopB {s : Nat} {but : Int32} {mr : zM} (hpr : zfl mr 181 0 = some (.ref 14)) (hCr : cQ 14 15 16 19 20 21 24 25 Q mr) (hW : WQ Q) (hi : isS s) (hSr : tS s Q hu S mr) (hv : wS Q S) (hH : wH Q hu) : ∀ (f : Nat) (t : Int32) (al : Int64) (mem : zM) (lo : List (Nat × Value)), t.toInt + (f : Int) = thN Q → 0 ≤ t.toInt → (∀ c, 0 ≤ c → c < 64 → (bL al c ↔ liU Q hu S but.toInt t.toInt c)) → aTm aT0 mem → onl [182, 183] mr mem → zlg lo 0 = some (.ref 181) → zlg lo 1 = some (.ref s) → zlg lo 2 = some (.int but) → zlg lo 3 = some (.long al) → zlg lo 5 = some (.int t) → yR zpg tX0_lit (d + 8) (5, lo, [], mem) (fun r m => ∃ v : Int64, r = some (.long v) ∧ aTm aT0 m ∧ (onl [182, 183] mr m ∧ ∀ c, 0 ≤ c → c < 64 → (bL v c ↔ liT Q hu S but.toInt c))) := by
  intro f
  have n9 : thN Q ≤ 9 := by
    have := hW.2.1.1
    unfold thN
    omega
  induction f with
  | zero =>
    intro t al mem lo ht t0 hal hm ho l0 l1 l2 l3 l5
    have hp : zfl mem 181 0 = some (.ref 14) := (onl_zf ho rfl).trans hpr
    have hC := cQ_qB rfl ho hCr
    have hS := tS_q hi rfl ho hSr
    have cn := (cq_nB hC).1
    exact w_lt5B hm l0 l1 l2 l3 l5 hi.1 hi.2.1 hi.2.2.1 hi.2.2.2 hp hC hW hS hv hH cn ⟨t0, by omega⟩ 
        (fun q1 hm2 => ⟨_, rfl, hm2, ho, fun c c0 c1 => by rw [hal c c0 c1, show t.toInt = thN Q by omega]; exact Iff.rfl⟩)
        (fun q1 q2 x3 e4 lo a0 a1 a2 a3 a5 hm2 => by exfalso; omega)
        (fun q1 q2 q8 x9 e10 lo a0 a1 a2 a3 a5 hm2 => by exfalso; omega)
        (fun q1 q2 q8 y14 e15 v18 m16 hm16 k17 v19 k20 x24 e25 lo a0 a1 a2 a3 a5 hm2 => by exfalso; omega)
  | succ f ih =>
    intro t al mem lo ht t0 hal hm ho l0 l1 l2 l3 l5
    have hp : zfl mem 181 0 = some (.ref 14) := (onl_zf ho rfl).trans hpr
    have hC := cQ_qB rfl ho hCr
    have hS := tS_q hi rfl ho hSr
    have cn := (cq_nB hC).1
    have s1 : gi mem s 1 = Sm S := hS.1.2
    exact w_lt5B hm l0 l1 l2 l3 l5 hi.1 hi.2.1 hi.2.2.1 hi.2.2.2 hp hC hW hS hv hH cn ⟨t0, by omega⟩ 
        (fun q1 hm2 => by exfalso; omega)
        (fun q1 q2 x3 e4 lo a0 a1 a2 a3 a5 hm2 => ih _ _ _ lo (by omega) (by omega) (fun c c0 c1 => (hal c c0 c1).trans (liU_n t0 e4 (Or.inl q2)).symm) hm2 ho a0 a1 a2 a3 a5)
        (fun q1 q2 q8 x9 e10 lo a0 a1 a2 a3 a5 hm2 => ih _ _ _ lo (by omega) (by omega) (fun c c0 c1 => (hal c c0 c1).trans (liU_n t0 e10 (Or.inr (by have z := mi_0 t0 (by omega) q8; rw [s1] at z; exact z))).symm) hm2 ho a0 a1 a2 a3 a5)
        (fun q1 q2 q8 y14 e15 v18 m16 hm16 k17 v19 k20 x24 e25 lo a0 a1 a2 a3 a5 hm2 => ih _ _ _ lo (by omega) (by omega) (fun c c0 c1 => by
          have z := mi_1 t0 (by omega) q8
          rw [s1] at z
          rw [bL_o, hal c c0 c1, k20 c c0 c1, e15, cq_tB hC t0 (by omega), k17.2]
          exact (liU_y t0 e25 q2 z).symm) hm2 (onl_tr ho k17.1) a0 a1 a2 a3 a5)
theorem h_ltB {s : Nat} {but : Int32} (hm : aTm aT0 mem) (hp : zfl mem 181 0 = some (.ref 14)) (hC : cQ 14 15 16 19 20 21 24 25 Q mem) (hW : WQ Q) (hi : isS s) (hS : tS s Q hu S mem) (hv : wS Q S) (hH : wH Q hu) (hd : 9 ≤ d) : yC zpg d 3 [.ref 181, .ref s, .int but] mem (fun r m => ∃ v : Int64, r = some (.long v) ∧ aTm aT0 m ∧ (onl [182, 183] mem m ∧ ∀ c, 0 ≤ c → c < 64 → (bL v c ↔ liT Q hu S but.toInt c))) := by
  obtain ⟨d, rfl⟩ : ∃ q, d = q + 9 := ⟨d - 9, by omega⟩
  refine yC_of (t := tX0_lit) rfl rfl ?_
  refine w_lt0B hm rfl rfl rfl ?_
  intro lo a0 a1 a2 a3 a5 hm
  exact lt_loopB hp hC hW hi hS hv hH (Qt Q).length 0 0 mem lo (by show (0 : Int) + _ = _; unfold thN; omega) (by decide) (fun c c0 c1 => ⟨fun z => absurd z bL_0, fun z => absurd z liU_0⟩) hm onl_rf a0 a1 a2 a3 a5
end LTB
