/-! nights go by: the class -/
section PAA
variable {Q : Qd} {S : Sd} {hu : Int → Int}
noncomputable def itS (Q : Qd) (hu : Int → Int) (but : Int) : Nat → Sd → Sd
  | 0, S => S
  | n + 1, S => tkS Q hu but (itS Q hu but n S)
theorem itS_n {but : Int} : ∀ n : Nat, Sn (itS Q hu but n S) = Sn S + (n : Int)
  | 0 => by
    show Sn S = Sn S + 0
    omega
  | n + 1 => by
    have k := itS_n (but := but) n
    show Sn (itS Q hu but n S) + 1 = _
    omega
theorem itS_w {but : Int} (hW : WQ Q) (hv : wS Q S) : ∀ n : Nat, Sn S + (n : Int) ≤ 999 → wS Q (itS Q hu but n S)
  | 0, _ => hv
  | n + 1, hn => tkS_w hW (itS_w hW hv n (by omega)) (by
    rw [itS_n]
    omega)
theorem frS_ca {s : Nat} {m0 m : zM} (hi : isS s) (hh : frS s m0 m) : ∀ k, k < 31 → zat m k = zat m0 k := fun k hk => by
  obtain ⟨-, -, -, a, b⟩ := hi
  exact hh k (by omega) (by omega) (by omega) (by omega)
theorem frS_gi {s k i : Nat} {m0 m : zM} (hh : frS s m0 m) (hk : ¬ k = s ∧ ¬ k = s + 1 ∧ ¬ k = s + 2 ∧ ¬ (181 ≤ k ∧ k ≤ 184)) : gi m k i = gi m0 k i := by
  unfold gi zfl
  rw [hh k hk.1 hk.2.1 hk.2.2.1 hk.2.2.2]
theorem frS_ga {s k : Nat} {m0 m : zM} (hh : frS s m0 m) (hk : ¬ k = s ∧ ¬ k = s + 1 ∧ ¬ k = s + 2 ∧ ¬ (181 ≤ k ∧ k ≤ 184)) : ga m k = ga m0 k := by
  unfold ga
  rw [hh k hk.1 hk.2.1 hk.2.2.1 hk.2.2.2]
/-- the bits of what was found, of what was lost -/
def fnd (Q : Qd) (hu : Int → Int) (but : Int) (S : Sd) (m : zM) : Prop := bSt (fP Q hu (mvS Q hu but S)) (thN Q) (gi m 181 3) ∧ bSt (lP Q hu (mvS Q hu but S)) (thN Q) (gi m 181 4)
end PAA
section PAA
variable {d : Nat} {mem : zM} {Q : Qd} {S : Sd} {hu : Int → Int}
theorem cQ_kA {m m' : zM} (hh : ∀ k, k < 31 → zat m' k = zat m k) (hC : cQ 2 3 4 7 8 9 12 13 Q m) : cQ 2 3 4 7 8 9 12 13 Q m' := by
  have A : ∀ k, k < 31 → ga m' k = ga m k := fun k hk => by
    unfold ga
    rw [hh k hk]
  have I : ∀ i, gi m' 2 i = gi m 2 i := fun i => by
    unfold gi zfl
    rw [hh 2 (by decide)]
  have L : ∀ i, gL m' 2 i = gL m 2 i := fun i => by
    unfold gL zfl
    rw [hh 2 (by decide)]
  have R : gi m' 10 3 = gi m 10 3 := by
    unfold gi zfl
    rw [hh 10 (by decide)]
  have X : cQx 2 Q m' := cQx_eq (I 3) (I 4) (L 5) (A _ (by decide)) (A _ (by decide)) (A _ (by decide)) (A _ (by decide)) (A _ (by decide)) R hC.2.2.2.2.2.2
  obtain ⟨h1, h2, h3, h4, h5, h6, -⟩ := hC
  refine ⟨?_, ?_, ?_, ?_, ?_, ?_, X⟩
  · rw [I 1, I 2]
    exact h1
  · unfold cQw at h2 ⊢
    rw [L 6]
    exact h2
  · unfold cQt at h3 ⊢
    rw [I 7, A _ (by decide), A _ (by decide)]
    exact h3
  · unfold cQh at h4 ⊢
    rw [I 12]
    exact h4
  · unfold cQf at h5 ⊢
    rw [I 13, A _ (by decide), A _ (by decide), A _ (by decide)]
    exact h5
  · unfold cQu at h6 ⊢
    rw [A _ (by decide), A _ (by decide)]
    exact h6
set_option maxRecDepth 100000 in
theorem w_pa0A {d : Nat} {mem : zM} {P : Option Value → zM → Prop} {s : Nat} {nn but : Int32} {lo : List (Nat × Value)} (hm : aTm aT0 mem) (l_0 : zlg lo 0 = some (.ref 181)) (l_1 : zlg lo 1 = some (.ref s)) (l_2 : zlg lo 2 = some (.int nn)) (l_3 : zlg lo 3 = some (.int but)) (h1 : ∀ lo, zlg lo 0 = some (.ref 181) → zlg lo 1 = some (.ref s) → zlg lo 2 = some (.int nn) → zlg lo 3 = some (.int but) → zlg lo 4 = some (.int 0) → aTm aT0 mem → yR zpg tX0_pass (d + 10) (3, lo, [], mem) P) : yR zpg tX0_pass (d + 10) (0, lo, [], mem) P := by
  refine yR_m 1 (fun _ _ _ _ => rfl) ?_
  refine wR_si rfl rfl (fun lo1 e2 f3 => ?_)
  have lo1_0 := f3 0 _ (by decide) (Or.inl rfl) l_0
  have lo1_1 := f3 1 _ (by decide) (Or.inl rfl) l_1
  have lo1_2 := f3 2 _ (by decide) (Or.inl rfl) l_2
  have lo1_3 := f3 3 _ (by decide) (Or.inl rfl) l_3
  exact h1 lo1 lo1_0 lo1_1 lo1_2 lo1_3 e2 hm

set_option maxRecDepth 100000 in
theorem w_pa3A {d : Nat} {mem : zM} {P : Option Value → zM → Prop} {s : Nat} {nn but k : Int32} {lo : List (Nat × Value)} (hm : aTm aT0 mem) (l_0 : zlg lo 0 = some (.ref 181)) (l_1 : zlg lo 1 = some (.ref s)) (l_2 : zlg lo 2 = some (.int nn)) (l_3 : zlg lo 3 = some (.int but)) (l_4 : zlg lo 4 = some (.int k)) (sVO_e : aat aT0 s = some (.inr (8, sVO s))) (aR_s1 : aat aT0 (s + 1) = some (.inl (false, 0, 9, .inl (-2147483648, 2147483647)))) (aR_s2 : aat aT0 (s + 2) = some (.inl (false, 0, 6, .inl (-2147483648, 2147483647)))) (hs : (31 ≤ s ∧ s ≤ 216) ∧ (s < 38 ∨ 192 ≤ s)) {Q : Qd} {S : Sd} {hu : Int → Int} (hp : zfl mem 181 0 = some (.ref 2)) (hC : cQ 2 3 4 7 8 9 12 13 Q mem) (hW : WQ Q) (hS : tS s Q hu S mem) (hv : wS Q S) (hH : wH Q hu) (h1 : (nn).toInt ≤ (k).toInt → aTm aT0 mem → P none mem) (h2 : (k).toInt < (nn).toInt → ∀ (v4 : Int64) (m2 : zM), aTm aT0 m2 → (onl [182, 183] mem m2 ∧ ∀ c, 0 ≤ c → c < 64 → (bL v4 c ↔ liT Q hu S (but).toInt c)) → ∀ lo, zlg lo 0 = some (.ref 181) → zlg lo 1 = some (.ref s) → zlg lo 2 = some (.int nn) → zlg lo 3 = some (.int but) → zlg lo 4 = some (.int k) → zlg lo 5 = some (.long v4) → zlg lo 7 = some (.int 0) → aTm aT0 m2 → yR zpg tX0_pass (d + 10) (20, lo, [], m2) P) : yR zpg tX0_pass (d + 10) (3, lo, [], mem) P := by
  refine wR_li rfl l_4 ?_
  refine wR_li rfl l_2 ?_
  refine wR_ic_ge rfl (a := (k).toInt) (c := (nn).toInt) rfl rfl (fun q1 => ?_) (fun q1 => ?_)
  ·
    exact yR_rv rfl (h1 q1 hm)
  ·
    refine wR_la rfl l_0 ?_
    refine wR_la rfl l_1 ?_
    refine wR_li rfl l_3 ?_
    refine wR_cv rfl rfl hrO_e hm rfl (h_ltA (Q := Q) (S := S) (hu := hu) hm hp hC hW ⟨sVO_e, aR_s1, aR_s2, hs⟩ hS hv hH (by omega)) ?_
    rintro _ m2 ⟨v4, rfl, hm2, k3⟩
    show yR zpg tX0_pass (d + 10) (15, lo, [.long v4], m2) _
    refine wR_sl rfl rfl (fun lo5 e6 f7 => ?_)
    have lo5_0 := f7 0 _ (by decide) (Or.inl rfl) l_0
    have lo5_1 := f7 1 _ (by decide) (Or.inl rfl) l_1
    have lo5_2 := f7 2 _ (by decide) (Or.inl rfl) l_2
    have lo5_3 := f7 3 _ (by decide) (Or.inl rfl) l_3
    have lo5_4 := f7 4 _ (by decide) (Or.inl rfl) l_4
    refine yR_m 1 (fun _ _ _ _ => rfl) ?_
    refine wR_si rfl rfl (fun lo8 e9 f10 => ?_)
    have lo8_5 := f10 5 _ (by decide) (Or.inr (by decide)) e6
    have lo8_0 := f10 0 _ (by decide) (Or.inl rfl) lo5_0
    have lo8_1 := f10 1 _ (by decide) (Or.inl rfl) lo5_1
    have lo8_2 := f10 2 _ (by decide) (Or.inl rfl) lo5_2
    have lo8_3 := f10 3 _ (by decide) (Or.inl rfl) lo5_3
    have lo8_4 := f10 4 _ (by decide) (Or.inl rfl) lo5_4
    exact h2 q1 v4 m2 hm2 k3 lo8 lo8_0 lo8_1 lo8_2 lo8_3 lo8_4 lo8_5 e9 hm2

set_option maxRecDepth 100000 in
theorem w_pa20A {d : Nat} {mem : zM} {P : Option Value → zM → Prop} {s : Nat} {nn but k f : Int32} {al : Int64} {lo : List (Nat × Value)} (hm : aTm aT0 mem) (l_0 : zlg lo 0 = some (.ref 181)) (l_1 : zlg lo 1 = some (.ref s)) (l_2 : zlg lo 2 = some (.int nn)) (l_3 : zlg lo 3 = some (.int but)) (l_4 : zlg lo 4 = some (.int k)) (l_5 : zlg lo 5 = some (.long al)) (l_7 : zlg lo 7 = some (.int f)) (sVO_e : aat aT0 s = some (.inr (8, sVO s))) (aR_s1 : aat aT0 (s + 1) = some (.inl (false, 0, 9, .inl (-2147483648, 2147483647)))) (aR_s2 : aat aT0 (s + 2) = some (.inl (false, 0, 6, .inl (-2147483648, 2147483647)))) (hs : (31 ≤ s ∧ s ≤ 216) ∧ (s < 38 ∨ 192 ≤ s)) {Q : Qd} {S0 S1 : Sd} {hu : Int → Int} (hp : zfl mem 181 0 = some (.ref 2)) (hC : cQ 2 3 4 7 8 9 12 13 Q mem) (hW : WQ Q) (hH : wH Q hu) (hv1 : wS Q S1) (hn1 : Sn S1 < 999) (hS1 : (gi mem 2 13).toInt ≤ (f).toInt → tS s Q hu S1 mem) (hL : ∀ c, liT Q hu S0 but.toInt c → inG Q c) (hal : ∀ c, 0 ≤ c → c < 64 → (bL al c ↔ liT Q hu S0 but.toInt c)) (hIn : (f).toInt < (gi mem 2 13).toInt → inG Q (gn (ga mem (s + 2)) f.toInt) ∧ inG Q (gn (ga mem 9) f.toInt)) (hf : 0 ≤ f.toInt ∧ f.toInt ≤ 6) (hk : 0 ≤ k.toInt ∧ k.toInt ≤ 1000) (h1 : (gi mem 2 13).toInt ≤ (f).toInt → ∀ (m2 : zM), aTm aT0 m2 → (frS s mem m2 ∧ zfl m2 181 0 = some (.ref 2) ∧ tS s Q hu (stS Q hu S1) m2 ∧ bSt (fP Q hu S1) (thN Q) (gi m2 181 3) ∧ bSt (lP Q hu S1) (thN Q) (gi m2 181 4)) → ∀ (x4 : Int32), x4.toInt = ((k).toInt + 1) → ∀ lo, zlg lo 0 = some (.ref 181) → zlg lo 1 = some (.ref s) → zlg lo 2 = some (.int nn) → zlg lo 3 = some (.int but) → zlg lo 4 = some (.int x4) → aTm aT0 m2 → yR zpg tX0_pass (d + 10) (3, lo, [], m2) P) (h2 : (f).toInt < (gi mem 2 13).toInt → ∀ (y9 : Int32), y9.toInt = (gn (ga mem (s + 2)) (f).toInt) → ∀ (y11 : Int32), y11.toInt = (gn (ga mem 9) (f).toInt) → ∀ (v15 : Int32) (m13 : zM), aTm aT0 m13 → (onl [184] mem m13 ∧ v15.toInt = wkF (liT Q hu S0 (but).toInt) (gn (ga mem 9) (f).toInt) (Qp Q).toNat (gn (ga mem (s + 2)) (f).toInt)) → ∀ (x16 : Int32), x16.toInt = ((f).toInt + 1) → ∀ lo, zlg lo 0 = some (.ref 181) → zlg lo 1 = some (.ref s) → zlg lo 2 = some (.int nn) → zlg lo 3 = some (.int but) → zlg lo 4 = some (.int k) → zlg lo 5 = some (.long al) → zlg lo 7 = some (.int x16) → aTm aT0 (sx m13 (s + 2) f v15) → yR zpg tX0_pass (d + 10) (20, lo, [], (sx m13 (s + 2) f v15)) P) : yR zpg tX0_pass (d + 10) (20, lo, [], mem) P := by
  have r13 := quA_r13 hm
  refine wR_li rfl l_7 ?_
  refine wR_la rfl l_0 ?_
  refine wR_gq rfl hrO_e hm hp ?_
  refine wR_gi rfl quA_e quA_13 hm rfl ?_
  refine wR_ic_ge rfl (a := (f).toInt) (c := (gi mem 2 13).toInt) rfl rfl (fun q1 => ?_) (fun q1 => ?_)
  ·
    refine wR_la rfl l_0 ?_
    refine wR_la rfl l_1 ?_
    refine wR_cv rfl rfl hrO_e hm rfl (h_seA (Q := Q) (S := S1) (hu := hu) hm hp hC hW ⟨sVO_e, aR_s1, aR_s2, hs⟩ (hS1 q1) hv1 hH hn1 (by omega)) ?_
    rintro _ m2 ⟨rfl, hm2, k3⟩
    show yR zpg tX0_pass (d + 10) (73, lo, [], m2) _
    refine wN_in (a := (k).toInt) (b := 1) rfl rfl l_4 rfl rfl (by omega) (fun x4 e5 => fun lo6 e7 f8 => ?_)
    have lo6_0 := f8 0 _ (by decide) (Or.inl rfl) l_0
    have lo6_1 := f8 1 _ (by decide) (Or.inl rfl) l_1
    have lo6_2 := f8 2 _ (by decide) (Or.inl rfl) l_2
    have lo6_3 := f8 3 _ (by decide) (Or.inl rfl) l_3
    have lo6_5 := f8 5 _ (by decide) (Or.inr (by decide)) l_5
    have lo6_7 := f8 7 _ (by decide) (Or.inl rfl) l_7
    exact yR_m 1 (fun _ _ _ _ => rfl) (h1 q1 m2 hm2 k3 x4 e5 lo6 lo6_0 lo6_1 lo6_2 lo6_3 e7 hm2)
  ·
    refine wR_la rfl l_1 ?_
    refine wR_gr rfl sVO_e sVO_3 hm ?_
    refine wR_li rfl l_7 ?_
    refine wR_la rfl l_0 ?_
    refine wR_la rfl l_1 ?_
    refine wR_gr rfl sVO_e sVO_3 hm ?_
    refine wR_li rfl l_7 ?_
    refine wN_al (a := (f).toInt) rfl aR_s2 hm rfl rfl (by omega) (fun y9 e10 => ?_)
    refine wR_la rfl l_0 ?_
    refine wR_gq rfl hrO_e hm hp ?_
    refine wR_gr rfl quA_e quA_16 hm ?_
    refine wR_li rfl l_7 ?_
    refine wN_al (a := (f).toInt) rfl aR_9 hm rfl rfl (by omega) (fun y11 e12 => ?_)
    refine wR_ll4 rfl l_5 ?_
    refine wR_cv rfl rfl hrO_e hm rfl (h_waA (L := liT Q hu S0 (but).toInt) (Q := Q) e12 e10 hm hp hC hW hL hal (hIn q1).1 (hIn q1).2 (by omega)) ?_
    rintro _ m13 ⟨v15, rfl, hm13, k14⟩
    show yR zpg tX0_pass (d + 10) (61, lo, [.int v15, .int f, .ref (s + 2)], m13) _
    refine wN_as (a := (f).toInt) rfl aR_s2 hm13 rfl (by omega) ?_
    have hm_1 : aTm aT0 (sx m13 (s + 2) f v15) := tm_sa aR_s2 hm13 (i32_b _)
    refine wN_in (a := (f).toInt) (b := 1) rfl rfl l_7 rfl rfl (by omega) (fun x16 e17 => fun lo18 e19 f20 => ?_)
    have lo18_0 := f20 0 _ (by decide) (Or.inl rfl) l_0
    have lo18_1 := f20 1 _ (by decide) (Or.inl rfl) l_1
    have lo18_2 := f20 2 _ (by decide) (Or.inl rfl) l_2
    have lo18_3 := f20 3 _ (by decide) (Or.inl rfl) l_3
    have lo18_4 := f20 4 _ (by decide) (Or.inl rfl) l_4
    have lo18_5 := f20 5 _ (by decide) (Or.inr (by decide)) l_5
    exact yR_m 1 (fun _ _ _ _ => rfl) (h2 q1 y9 e10 y11 e12 v15 m13 hm13 k14 x16 e17 lo18 lo18_0 lo18_1 lo18_2 lo18_3 lo18_4 lo18_5 e19 hm_1)

theorem pa_inA {s : Nat} {nn but k : Int32} {al : Int64} {mr : zM} {P : Option Value → zM → Prop} (hCr : cQ 2 3 4 7 8 9 12 13 Q mr) (hW : WQ Q) (hi : isS s) (hSr : tS s Q hu S mr) (hv : wS Q S) (hH : wH Q hu) (hn : Sn S < 999) (hk : 0 ≤ k.toInt ∧ k.toInt ≤ 1000) (hal : ∀ c, 0 ≤ c → c < 64 → (bL al c ↔ liT Q hu S but.toInt c)) (out : ∀ (lo : List (Nat × Value)) (m : zM) (k' : Int32), k'.toInt = k.toInt + 1 → aTm aT0 m → frS s mr m → zfl m 181 0 = some (.ref 2) → tS s Q hu (tkS Q hu but.toInt S) m → fnd Q hu but.toInt S m → zlg lo 0 = some (.ref 181) → zlg lo 1 = some (.ref s) → zlg lo 2 = some (.int nn) → zlg lo 3 = some (.int but) → zlg lo 4 = some (.int k') → yR zpg tX0_pass (d + 10) (3, lo, [], m) P) : ∀ (g : Nat) (f : Int32) (mem : zM) (lo : List (Nat × Value)), f.toInt + (g : Int) = foN Q → 0 ≤ f.toInt → (∀ u, 0 ≤ u → u < foN Q → gn (ga mem (s + 2)) u = if u < f.toInt then waP Q hu S but.toInt u else Sp S u) → (∀ q, ¬ q = s + 2 → ¬ (181 ≤ q ∧ q ≤ 184) → zat mem q = zat mr q) → zfl mem 181 0 = some (.ref 2) → aTm aT0 mem → zlg lo 0 = some (.ref 181) → zlg lo 1 = some (.ref s) → zlg lo 2 = some (.int nn) → zlg lo 3 = some (.int but) → zlg lo 4 = some (.int k) → zlg lo 5 = some (.long al) → zlg lo 7 = some (.int f) → yR zpg tX0_pass (d + 10) (20, lo, [], mem) P := by
  intro g
  have f6 : foN Q ≤ 6 := by
    have := hW.2.1.2.1
    unfold foN
    omega
  obtain ⟨j1, j2, j3, j4, j5⟩ := id hi
  have hL : ∀ c, liT Q hu S but.toInt c → inG Q c := fun c hc => (liT_f hc).1
  induction g with
  | zero =>
    intro f mem lo hf f0 hA hF hp hm l0 l1 l2 l3 l4 l5 l7
    have hC := cQ_kA (fun q hq => hF q (by omega) (by omega)) hCr
    have cn := (cq_nA hC).2
    have gs : ∀ i, gi mem s i = gi mr s i := fun i => by
      unfold gi zfl
      rw [hF s (by omega) (by omega)]
    have gg : ga mem (s + 1) = ga mr (s + 1) := by
      unfold ga
      rw [hF (s + 1) (by omega) (by omega)]
    have hS1 : tS s Q hu (mvS Q hu but.toInt S) mem := by
      refine ⟨⟨by rw [gs]; exact hSr.1.1, by rw [gs]; exact hSr.1.2⟩, fun u u0 u1 => by rw [gg]; exact hSr.2.1 u u0 u1, fun u u0 u1 => ?_, by rw [gs, gs]; exact hSr.2.2.2⟩
      rw [hA u u0 u1, if_pos (by omega)]
      rfl
    have hv1 := mvS_w (but := but.toInt) (hu := hu) hv
    exact w_pa20A (S0 := S) (S1 := mvS Q hu but.toInt S) hm l0 l1 l2 l3 l4 l5 l7 hi.1 hi.2.1 hi.2.2.1 hi.2.2.2 hp hC hW hH hv1 hn (fun _ => hS1) hL hal (fun z => by exfalso; omega) ⟨f0, by omega⟩ hk 
        (fun q1 m2 hm2 k3 x4 e5 lo a0 a1 a2 a3 a4 hm2 => out lo _ x4 e5 hm2 (frS_tr (fun k k1 k2 k3 k4 => hF k k3 k4) k3.1) k3.2.1 k3.2.2.1 ⟨k3.2.2.2.1, k3.2.2.2.2⟩ a0 a1 a2 a3 a4)
        (fun q1 y9 e10 y11 e12 v15 m13 hm13 k14 x16 e17 lo b0' b1' b2' b3' b4' b5' b7' hm2 => by exfalso; omega)
  | succ g ih =>
    intro f mem lo hf f0 hA hF hp hm l0 l1 l2 l3 l4 l5 l7
    have hC := cQ_kA (fun q hq => hF q (by omega) (by omega)) hCr
    have cn := (cq_nA hC).2
    have a0 := hA f.toInt f0 (by omega)
    rw [if_neg (by omega)] at a0
    have h0 := (cq_fA hC f0 (by omega)).2
    have w0 := wq_f hW f0 (show f.toInt < foN Q by omega)
    have p0 := hv.2.2.2 f.toInt f0 (by omega)
    have hv1 := mvS_w (but := but.toInt) (hu := hu) hv
    exact w_pa20A (S0 := S) (S1 := mvS Q hu but.toInt S) hm l0 l1 l2 l3 l4 l5 l7 hi.1 hi.2.1 hi.2.2.1 hi.2.2.2 hp hC hW hH hv1 hn (fun z => by exfalso; omega) hL hal (fun _ => by rw [a0, h0]; exact ⟨p0.1, w0.2.1⟩) ⟨f0, by omega⟩ hk 
        (fun q1 m2 hm2 k3 x4 e5 lo a0 a1 a2 a3 a4 hm2 => by exfalso; omega)
        (fun q1 y9 e10 y11 e12 v15 m13 hm13 k14 x16 e17 lo b0' b1' b2' b3' b4' b5' b7' hm2 => by
          refine ih x16 _ lo (by omega) (by omega) (fun u u0 u1 => ?_) (fun q q1 q2 => ?_) (zfl_sa.trans ((onl_zf k14.1 rfl).trans hp)) hm2 b0' b1' b2' b3' b4' b5' b7'
          · rw [ga_sa_eq, gn_set rfl f0 (by rw [(ga_ty j3 hm13).2.1]; omega) u0]
            by_cases v : u = f.toInt
            · rw [if_pos v, if_pos (show u < x16.toInt by omega), v, k14.2, a0, h0]
              rfl
            · rw [if_neg v, onl_ga k14.1 (isS_c hi rfl).2.2, hA u u0 u1]
              by_cases w : u < f.toInt
              · rw [if_pos w, if_pos (show u < x16.toInt by omega)]
              · rw [if_neg w, if_neg (show ¬ u < x16.toInt by omega)]
          · rw [zat_sa_ne (fun w => q1 w.symm)]
            exact (k14.1 q (nck rfl q2)).trans (hF q q1 q2))
theorem pa_outA {s : Nat} {nn but : Int32} {N : Nat} {mr : zM} (hN : nn.toInt = (N : Int)) (N9 : N ≤ 999) (hCr : cQ 2 3 4 7 8 9 12 13 Q mr) (hW : WQ Q) (hi : isS s) (hv : wS Q S) (hH : wH Q hu) (hn : Sn S + (N : Int) ≤ 999) : ∀ (g j : Nat) (k : Int32) (mem : zM) (lo : List (Nat × Value)), j + g = N → k.toInt = (j : Int) → tS s Q hu (itS Q hu but.toInt j S) mem → (∀ j', j = j' + 1 → fnd Q hu but.toInt (itS Q hu but.toInt j' S) mem) → frS s mr mem → zfl mem 181 0 = some (.ref 2) → aTm aT0 mem → zlg lo 0 = some (.ref 181) → zlg lo 1 = some (.ref s) → zlg lo 2 = some (.int nn) → zlg lo 3 = some (.int but) → zlg lo 4 = some (.int k) → yR zpg tX0_pass (d + 10) (3, lo, [], mem) (fun r m => r = none ∧ aTm aT0 m ∧ (frS s mr m ∧ zfl m 181 0 = some (.ref 2) ∧ tS s Q hu (itS Q hu but.toInt N S) m ∧ ∀ j', N = j' + 1 → fnd Q hu but.toInt (itS Q hu but.toInt j' S) m)) := by
  intro g
  induction g with
  | zero =>
    intro j k mem lo hj hk hS hB hF hp hm l0 l1 l2 l3 l4
    have jn : j = N := by omega
    have hC := cQ_kA (frS_ca hi hF) hCr
    have hw := itS_w (but := but.toInt) (hu := hu) hW hv j (by omega)
    rw [jn] at hS hB
    exact w_pa3A (S := itS Q hu but.toInt j S) hm l0 l1 l2 l3 l4 hi.1 hi.2.1 hi.2.2.1 hi.2.2.2 hp hC hW (by rw [jn]; exact hS) hw hH 
        (fun q1 hm2 => ⟨rfl, hm2, hF, hp, hS, hB⟩)
        (fun q1 v4 m2 hm2 k3 lo a0 a1 a2 a3 a4 a5 a7 hm2 => by exfalso; omega)
  | succ g ih =>
    intro j k mem lo hj hk hS hB hF hp hm l0 l1 l2 l3 l4
    have hC := cQ_kA (frS_ca hi hF) hCr
    have hw := itS_w (but := but.toInt) (hu := hu) hW hv j (by omega)
    have hn1 : Sn (itS Q hu but.toInt j S) < 999 := by
      rw [itS_n]
      omega
    exact w_pa3A (S := itS Q hu but.toInt j S) hm l0 l1 l2 l3 l4 hi.1 hi.2.1 hi.2.2.1 hi.2.2.2 hp hC hW hS hw hH 
        (fun q1 hm2 => by exfalso; omega)
        (fun q1 v4 m2 hm2 k3 lo a0 a1 a2 a3 a4 a5 a7 hm2 => pa_inA (nn := nn) (k := k) hC hW hi hS hw hH hn1 ⟨by omega, by omega⟩ k3.2 (fun lo m k' e b0 b1 b2 b3 b4 c0 c1 c2 c3 c4 => ih (j + 1) k' m lo (by omega) (by omega) b3 (fun j' z => by
            have jj : j' = j := by omega
            rw [jj]
            exact b4) (frS_tr hF b1) b2 b0 c0 c1 c2 c3 c4) (Qf Q).length 0 _ lo (by show (0 : Int) + _ = _; unfold foN; omega) (by decide) (fun u u0 u1 => by
            rw [if_neg (show ¬ u < (0 : Int32).toInt by have z : (0 : Int32).toInt = 0 := rfl; omega), onl_ga k3.1 (isS_c hi rfl).2.2]
            exact hS.2.2.1 u u0 u1) (fun q q1 q2 => k3.1 q (nck rfl q2)) ((onl_zf k3.1 rfl).trans hp) hm2 a0 a1 a2 a3 a4 a5 a7)
theorem h_paA {s : Nat} {nn but : Int32} {N : Nat} (hN : nn.toInt = (N : Int)) (hm : aTm aT0 mem) (hp : zfl mem 181 0 = some (.ref 2)) (hC : cQ 2 3 4 7 8 9 12 13 Q mem) (hW : WQ Q) (hi : isS s) (hS : tS s Q hu S mem) (hv : wS Q S) (hH : wH Q hu) (hn : Sn S + (N : Int) ≤ 999) (hd : 11 ≤ d) : yC zpg d 2 [.ref 181, .ref s, .int nn, .int but] mem (fun r m => r = none ∧ aTm aT0 m ∧ (frS s mem m ∧ zfl m 181 0 = some (.ref 2) ∧ tS s Q hu (itS Q hu but.toInt N S) m ∧ ∀ j', N = j' + 1 → fnd Q hu but.toInt (itS Q hu but.toInt j' S) m)) := by
  obtain ⟨d, rfl⟩ : ∃ q, d = q + 11 := ⟨d - 11, by omega⟩
  have n0 := hv.1.1
  refine yC_of (t := tX0_pass) rfl rfl ?_
  refine w_pa0A hm rfl rfl rfl rfl ?_
  intro lo a0 a1 a2 a3 a4 hm2
  exact pa_outA hN (by omega) hC hW hi hv hH hn N 0 0 mem lo (by omega) rfl hS (fun j' z => by exfalso; omega) frS_rf hp hm2 a0 a1 a2 a3 a4
end PAA
section PAB
variable {d : Nat} {mem : zM} {Q : Qd} {S : Sd} {hu : Int → Int}
theorem cQ_kB {m m' : zM} (hh : ∀ k, k < 31 → zat m' k = zat m k) (hC : cQ 14 15 16 19 20 21 24 25 Q m) : cQ 14 15 16 19 20 21 24 25 Q m' := by
  have A : ∀ k, k < 31 → ga m' k = ga m k := fun k hk => by
    unfold ga
    rw [hh k hk]
  have I : ∀ i, gi m' 14 i = gi m 14 i := fun i => by
    unfold gi zfl
    rw [hh 14 (by decide)]
  have L : ∀ i, gL m' 14 i = gL m 14 i := fun i => by
    unfold gL zfl
    rw [hh 14 (by decide)]
  have R : gi m' 22 3 = gi m 22 3 := by
    unfold gi zfl
    rw [hh 22 (by decide)]
  have X : cQx 14 Q m' := cQx_eq (I 3) (I 4) (L 5) (A _ (by decide)) (A _ (by decide)) (A _ (by decide)) (A _ (by decide)) (A _ (by decide)) R hC.2.2.2.2.2.2
  obtain ⟨h1, h2, h3, h4, h5, h6, -⟩ := hC
  refine ⟨?_, ?_, ?_, ?_, ?_, ?_, X⟩
  · rw [I 1, I 2]
    exact h1
  · unfold cQw at h2 ⊢
    rw [L 6]
    exact h2
  · unfold cQt at h3 ⊢
    rw [I 7, A _ (by decide), A _ (by decide)]
    exact h3
  · unfold cQh at h4 ⊢
    rw [I 12]
    exact h4
  · unfold cQf at h5 ⊢
    rw [I 13, A _ (by decide), A _ (by decide), A _ (by decide)]
    exact h5
  · unfold cQu at h6 ⊢
    rw [A _ (by decide), A _ (by decide)]
    exact h6
set_option maxRecDepth 100000 in
theorem w_pa0B {d : Nat} {mem : zM} {P : Option Value → zM → Prop} {s : Nat} {nn but : Int32} {lo : List (Nat × Value)} (hm : aTm aT0 mem) (l_0 : zlg lo 0 = some (.ref 181)) (l_1 : zlg lo 1 = some (.ref s)) (l_2 : zlg lo 2 = some (.int nn)) (l_3 : zlg lo 3 = some (.int but)) (h1 : ∀ lo, zlg lo 0 = some (.ref 181) → zlg lo 1 = some (.ref s) → zlg lo 2 = some (.int nn) → zlg lo 3 = some (.int but) → zlg lo 4 = some (.int 0) → aTm aT0 mem → yR zpg tX0_pass (d + 10) (3, lo, [], mem) P) : yR zpg tX0_pass (d + 10) (0, lo, [], mem) P := by
  refine yR_m 1 (fun _ _ _ _ => rfl) ?_
  refine wR_si rfl rfl (fun lo1 e2 f3 => ?_)
  have lo1_0 := f3 0 _ (by decide) (Or.inl rfl) l_0
  have lo1_1 := f3 1 _ (by decide) (Or.inl rfl) l_1
  have lo1_2 := f3 2 _ (by decide) (Or.inl rfl) l_2
  have lo1_3 := f3 3 _ (by decide) (Or.inl rfl) l_3
  exact h1 lo1 lo1_0 lo1_1 lo1_2 lo1_3 e2 hm

set_option maxRecDepth 100000 in
theorem w_pa3B {d : Nat} {mem : zM} {P : Option Value → zM → Prop} {s : Nat} {nn but k : Int32} {lo : List (Nat × Value)} (hm : aTm aT0 mem) (l_0 : zlg lo 0 = some (.ref 181)) (l_1 : zlg lo 1 = some (.ref s)) (l_2 : zlg lo 2 = some (.int nn)) (l_3 : zlg lo 3 = some (.int but)) (l_4 : zlg lo 4 = some (.int k)) (sVO_e : aat aT0 s = some (.inr (8, sVO s))) (aR_s1 : aat aT0 (s + 1) = some (.inl (false, 0, 9, .inl (-2147483648, 2147483647)))) (aR_s2 : aat aT0 (s + 2) = some (.inl (false, 0, 6, .inl (-2147483648, 2147483647)))) (hs : (31 ≤ s ∧ s ≤ 216) ∧ (s < 38 ∨ 192 ≤ s)) {Q : Qd} {S : Sd} {hu : Int → Int} (hp : zfl mem 181 0 = some (.ref 14)) (hC : cQ 14 15 16 19 20 21 24 25 Q mem) (hW : WQ Q) (hS : tS s Q hu S mem) (hv : wS Q S) (hH : wH Q hu) (h1 : (nn).toInt ≤ (k).toInt → aTm aT0 mem → P none mem) (h2 : (k).toInt < (nn).toInt → ∀ (v4 : Int64) (m2 : zM), aTm aT0 m2 → (onl [182, 183] mem m2 ∧ ∀ c, 0 ≤ c → c < 64 → (bL v4 c ↔ liT Q hu S (but).toInt c)) → ∀ lo, zlg lo 0 = some (.ref 181) → zlg lo 1 = some (.ref s) → zlg lo 2 = some (.int nn) → zlg lo 3 = some (.int but) → zlg lo 4 = some (.int k) → zlg lo 5 = some (.long v4) → zlg lo 7 = some (.int 0) → aTm aT0 m2 → yR zpg tX0_pass (d + 10) (20, lo, [], m2) P) : yR zpg tX0_pass (d + 10) (3, lo, [], mem) P := by
  refine wR_li rfl l_4 ?_
  refine wR_li rfl l_2 ?_
  refine wR_ic_ge rfl (a := (k).toInt) (c := (nn).toInt) rfl rfl (fun q1 => ?_) (fun q1 => ?_)
  ·
    exact yR_rv rfl (h1 q1 hm)
  ·
    refine wR_la rfl l_0 ?_
    refine wR_la rfl l_1 ?_
    refine wR_li rfl l_3 ?_
    refine wR_cv rfl rfl hrO_e hm rfl (h_ltB (Q := Q) (S := S) (hu := hu) hm hp hC hW ⟨sVO_e, aR_s1, aR_s2, hs⟩ hS hv hH (by omega)) ?_
    rintro _ m2 ⟨v4, rfl, hm2, k3⟩
    show yR zpg tX0_pass (d + 10) (15, lo, [.long v4], m2) _
    refine wR_sl rfl rfl (fun lo5 e6 f7 => ?_)
    have lo5_0 := f7 0 _ (by decide) (Or.inl rfl) l_0
    have lo5_1 := f7 1 _ (by decide) (Or.inl rfl) l_1
    have lo5_2 := f7 2 _ (by decide) (Or.inl rfl) l_2
    have lo5_3 := f7 3 _ (by decide) (Or.inl rfl) l_3
    have lo5_4 := f7 4 _ (by decide) (Or.inl rfl) l_4
    refine yR_m 1 (fun _ _ _ _ => rfl) ?_
    refine wR_si rfl rfl (fun lo8 e9 f10 => ?_)
    have lo8_5 := f10 5 _ (by decide) (Or.inr (by decide)) e6
    have lo8_0 := f10 0 _ (by decide) (Or.inl rfl) lo5_0
    have lo8_1 := f10 1 _ (by decide) (Or.inl rfl) lo5_1
    have lo8_2 := f10 2 _ (by decide) (Or.inl rfl) lo5_2
    have lo8_3 := f10 3 _ (by decide) (Or.inl rfl) lo5_3
    have lo8_4 := f10 4 _ (by decide) (Or.inl rfl) lo5_4
    exact h2 q1 v4 m2 hm2 k3 lo8 lo8_0 lo8_1 lo8_2 lo8_3 lo8_4 lo8_5 e9 hm2

set_option maxRecDepth 100000 in
theorem w_pa20B {d : Nat} {mem : zM} {P : Option Value → zM → Prop} {s : Nat} {nn but k f : Int32} {al : Int64} {lo : List (Nat × Value)} (hm : aTm aT0 mem) (l_0 : zlg lo 0 = some (.ref 181)) (l_1 : zlg lo 1 = some (.ref s)) (l_2 : zlg lo 2 = some (.int nn)) (l_3 : zlg lo 3 = some (.int but)) (l_4 : zlg lo 4 = some (.int k)) (l_5 : zlg lo 5 = some (.long al)) (l_7 : zlg lo 7 = some (.int f)) (sVO_e : aat aT0 s = some (.inr (8, sVO s))) (aR_s1 : aat aT0 (s + 1) = some (.inl (false, 0, 9, .inl (-2147483648, 2147483647)))) (aR_s2 : aat aT0 (s + 2) = some (.inl (false, 0, 6, .inl (-2147483648, 2147483647)))) (hs : (31 ≤ s ∧ s ≤ 216) ∧ (s < 38 ∨ 192 ≤ s)) {Q : Qd} {S0 S1 : Sd} {hu : Int → Int} (hp : zfl mem 181 0 = some (.ref 14)) (hC : cQ 14 15 16 19 20 21 24 25 Q mem) (hW : WQ Q) (hH : wH Q hu) (hv1 : wS Q S1) (hn1 : Sn S1 < 999) (hS1 : (gi mem 14 13).toInt ≤ (f).toInt → tS s Q hu S1 mem) (hL : ∀ c, liT Q hu S0 but.toInt c → inG Q c) (hal : ∀ c, 0 ≤ c → c < 64 → (bL al c ↔ liT Q hu S0 but.toInt c)) (hIn : (f).toInt < (gi mem 14 13).toInt → inG Q (gn (ga mem (s + 2)) f.toInt) ∧ inG Q (gn (ga mem 21) f.toInt)) (hf : 0 ≤ f.toInt ∧ f.toInt ≤ 6) (hk : 0 ≤ k.toInt ∧ k.toInt ≤ 1000) (h1 : (gi mem 14 13).toInt ≤ (f).toInt → ∀ (m2 : zM), aTm aT0 m2 → (frS s mem m2 ∧ zfl m2 181 0 = some (.ref 14) ∧ tS s Q hu (stS Q hu S1) m2 ∧ bSt (fP Q hu S1) (thN Q) (gi m2 181 3) ∧ bSt (lP Q hu S1) (thN Q) (gi m2 181 4)) → ∀ (x4 : Int32), x4.toInt = ((k).toInt + 1) → ∀ lo, zlg lo 0 = some (.ref 181) → zlg lo 1 = some (.ref s) → zlg lo 2 = some (.int nn) → zlg lo 3 = some (.int but) → zlg lo 4 = some (.int x4) → aTm aT0 m2 → yR zpg tX0_pass (d + 10) (3, lo, [], m2) P) (h2 : (f).toInt < (gi mem 14 13).toInt → ∀ (y9 : Int32), y9.toInt = (gn (ga mem (s + 2)) (f).toInt) → ∀ (y11 : Int32), y11.toInt = (gn (ga mem 21) (f).toInt) → ∀ (v15 : Int32) (m13 : zM), aTm aT0 m13 → (onl [184] mem m13 ∧ v15.toInt = wkF (liT Q hu S0 (but).toInt) (gn (ga mem 21) (f).toInt) (Qp Q).toNat (gn (ga mem (s + 2)) (f).toInt)) → ∀ (x16 : Int32), x16.toInt = ((f).toInt + 1) → ∀ lo, zlg lo 0 = some (.ref 181) → zlg lo 1 = some (.ref s) → zlg lo 2 = some (.int nn) → zlg lo 3 = some (.int but) → zlg lo 4 = some (.int k) → zlg lo 5 = some (.long al) → zlg lo 7 = some (.int x16) → aTm aT0 (sx m13 (s + 2) f v15) → yR zpg tX0_pass (d + 10) (20, lo, [], (sx m13 (s + 2) f v15)) P) : yR zpg tX0_pass (d + 10) (20, lo, [], mem) P := by
  have r13 := quB_r13 hm
  refine wR_li rfl l_7 ?_
  refine wR_la rfl l_0 ?_
  refine wR_gq rfl hrO_e hm hp ?_
  refine wR_gi rfl quB_e quB_13 hm rfl ?_
  refine wR_ic_ge rfl (a := (f).toInt) (c := (gi mem 14 13).toInt) rfl rfl (fun q1 => ?_) (fun q1 => ?_)
  ·
    refine wR_la rfl l_0 ?_
    refine wR_la rfl l_1 ?_
    refine wR_cv rfl rfl hrO_e hm rfl (h_seB (Q := Q) (S := S1) (hu := hu) hm hp hC hW ⟨sVO_e, aR_s1, aR_s2, hs⟩ (hS1 q1) hv1 hH hn1 (by omega)) ?_
    rintro _ m2 ⟨rfl, hm2, k3⟩
    show yR zpg tX0_pass (d + 10) (73, lo, [], m2) _
    refine wN_in (a := (k).toInt) (b := 1) rfl rfl l_4 rfl rfl (by omega) (fun x4 e5 => fun lo6 e7 f8 => ?_)
    have lo6_0 := f8 0 _ (by decide) (Or.inl rfl) l_0
    have lo6_1 := f8 1 _ (by decide) (Or.inl rfl) l_1
    have lo6_2 := f8 2 _ (by decide) (Or.inl rfl) l_2
    have lo6_3 := f8 3 _ (by decide) (Or.inl rfl) l_3
    have lo6_5 := f8 5 _ (by decide) (Or.inr (by decide)) l_5
    have lo6_7 := f8 7 _ (by decide) (Or.inl rfl) l_7
    exact yR_m 1 (fun _ _ _ _ => rfl) (h1 q1 m2 hm2 k3 x4 e5 lo6 lo6_0 lo6_1 lo6_2 lo6_3 e7 hm2)
  ·
    refine wR_la rfl l_1 ?_
    refine wR_gr rfl sVO_e sVO_3 hm ?_
    refine wR_li rfl l_7 ?_
    refine wR_la rfl l_0 ?_
    refine wR_la rfl l_1 ?_
    refine wR_gr rfl sVO_e sVO_3 hm ?_
    refine wR_li rfl l_7 ?_
    refine wN_al (a := (f).toInt) rfl aR_s2 hm rfl rfl (by omega) (fun y9 e10 => ?_)
    refine wR_la rfl l_0 ?_
    refine wR_gq rfl hrO_e hm hp ?_
    refine wR_gr rfl quB_e quB_16 hm ?_
    refine wR_li rfl l_7 ?_
    refine wN_al (a := (f).toInt) rfl aR_21 hm rfl rfl (by omega) (fun y11 e12 => ?_)
    refine wR_ll4 rfl l_5 ?_
    refine wR_cv rfl rfl hrO_e hm rfl (h_waB (L := liT Q hu S0 (but).toInt) (Q := Q) e12 e10 hm hp hC hW hL hal (hIn q1).1 (hIn q1).2 (by omega)) ?_
    rintro _ m13 ⟨v15, rfl, hm13, k14⟩
    show yR zpg tX0_pass (d + 10) (61, lo, [.int v15, .int f, .ref (s + 2)], m13) _
    refine wN_as (a := (f).toInt) rfl aR_s2 hm13 rfl (by omega) ?_
    have hm_1 : aTm aT0 (sx m13 (s + 2) f v15) := tm_sa aR_s2 hm13 (i32_b _)
    refine wN_in (a := (f).toInt) (b := 1) rfl rfl l_7 rfl rfl (by omega) (fun x16 e17 => fun lo18 e19 f20 => ?_)
    have lo18_0 := f20 0 _ (by decide) (Or.inl rfl) l_0
    have lo18_1 := f20 1 _ (by decide) (Or.inl rfl) l_1
    have lo18_2 := f20 2 _ (by decide) (Or.inl rfl) l_2
    have lo18_3 := f20 3 _ (by decide) (Or.inl rfl) l_3
    have lo18_4 := f20 4 _ (by decide) (Or.inl rfl) l_4
    have lo18_5 := f20 5 _ (by decide) (Or.inr (by decide)) l_5
    exact yR_m 1 (fun _ _ _ _ => rfl) (h2 q1 y9 e10 y11 e12 v15 m13 hm13 k14 x16 e17 lo18 lo18_0 lo18_1 lo18_2 lo18_3 lo18_4 lo18_5 e19 hm_1)

theorem pa_inB {s : Nat} {nn but k : Int32} {al : Int64} {mr : zM} {P : Option Value → zM → Prop} (hCr : cQ 14 15 16 19 20 21 24 25 Q mr) (hW : WQ Q) (hi : isS s) (hSr : tS s Q hu S mr) (hv : wS Q S) (hH : wH Q hu) (hn : Sn S < 999) (hk : 0 ≤ k.toInt ∧ k.toInt ≤ 1000) (hal : ∀ c, 0 ≤ c → c < 64 → (bL al c ↔ liT Q hu S but.toInt c)) (out : ∀ (lo : List (Nat × Value)) (m : zM) (k' : Int32), k'.toInt = k.toInt + 1 → aTm aT0 m → frS s mr m → zfl m 181 0 = some (.ref 14) → tS s Q hu (tkS Q hu but.toInt S) m → fnd Q hu but.toInt S m → zlg lo 0 = some (.ref 181) → zlg lo 1 = some (.ref s) → zlg lo 2 = some (.int nn) → zlg lo 3 = some (.int but) → zlg lo 4 = some (.int k') → yR zpg tX0_pass (d + 10) (3, lo, [], m) P) : ∀ (g : Nat) (f : Int32) (mem : zM) (lo : List (Nat × Value)), f.toInt + (g : Int) = foN Q → 0 ≤ f.toInt → (∀ u, 0 ≤ u → u < foN Q → gn (ga mem (s + 2)) u = if u < f.toInt then waP Q hu S but.toInt u else Sp S u) → (∀ q, ¬ q = s + 2 → ¬ (181 ≤ q ∧ q ≤ 184) → zat mem q = zat mr q) → zfl mem 181 0 = some (.ref 14) → aTm aT0 mem → zlg lo 0 = some (.ref 181) → zlg lo 1 = some (.ref s) → zlg lo 2 = some (.int nn) → zlg lo 3 = some (.int but) → zlg lo 4 = some (.int k) → zlg lo 5 = some (.long al) → zlg lo 7 = some (.int f) → yR zpg tX0_pass (d + 10) (20, lo, [], mem) P := by
  intro g
  have f6 : foN Q ≤ 6 := by
    have := hW.2.1.2.1
    unfold foN
    omega
  obtain ⟨j1, j2, j3, j4, j5⟩ := id hi
  have hL : ∀ c, liT Q hu S but.toInt c → inG Q c := fun c hc => (liT_f hc).1
  induction g with
  | zero =>
    intro f mem lo hf f0 hA hF hp hm l0 l1 l2 l3 l4 l5 l7
    have hC := cQ_kB (fun q hq => hF q (by omega) (by omega)) hCr
    have cn := (cq_nB hC).2
    have gs : ∀ i, gi mem s i = gi mr s i := fun i => by
      unfold gi zfl
      rw [hF s (by omega) (by omega)]
    have gg : ga mem (s + 1) = ga mr (s + 1) := by
      unfold ga
      rw [hF (s + 1) (by omega) (by omega)]
    have hS1 : tS s Q hu (mvS Q hu but.toInt S) mem := by
      refine ⟨⟨by rw [gs]; exact hSr.1.1, by rw [gs]; exact hSr.1.2⟩, fun u u0 u1 => by rw [gg]; exact hSr.2.1 u u0 u1, fun u u0 u1 => ?_, by rw [gs, gs]; exact hSr.2.2.2⟩
      rw [hA u u0 u1, if_pos (by omega)]
      rfl
    have hv1 := mvS_w (but := but.toInt) (hu := hu) hv
    exact w_pa20B (S0 := S) (S1 := mvS Q hu but.toInt S) hm l0 l1 l2 l3 l4 l5 l7 hi.1 hi.2.1 hi.2.2.1 hi.2.2.2 hp hC hW hH hv1 hn (fun _ => hS1) hL hal (fun z => by exfalso; omega) ⟨f0, by omega⟩ hk 
        (fun q1 m2 hm2 k3 x4 e5 lo a0 a1 a2 a3 a4 hm2 => out lo _ x4 e5 hm2 (frS_tr (fun k k1 k2 k3 k4 => hF k k3 k4) k3.1) k3.2.1 k3.2.2.1 ⟨k3.2.2.2.1, k3.2.2.2.2⟩ a0 a1 a2 a3 a4)
        (fun q1 y9 e10 y11 e12 v15 m13 hm13 k14 x16 e17 lo b0' b1' b2' b3' b4' b5' b7' hm2 => by exfalso; omega)
  | succ g ih =>
    intro f mem lo hf f0 hA hF hp hm l0 l1 l2 l3 l4 l5 l7
    have hC := cQ_kB (fun q hq => hF q (by omega) (by omega)) hCr
    have cn := (cq_nB hC).2
    have a0 := hA f.toInt f0 (by omega)
    rw [if_neg (by omega)] at a0
    have h0 := (cq_fB hC f0 (by omega)).2
    have w0 := wq_f hW f0 (show f.toInt < foN Q by omega)
    have p0 := hv.2.2.2 f.toInt f0 (by omega)
    have hv1 := mvS_w (but := but.toInt) (hu := hu) hv
    exact w_pa20B (S0 := S) (S1 := mvS Q hu but.toInt S) hm l0 l1 l2 l3 l4 l5 l7 hi.1 hi.2.1 hi.2.2.1 hi.2.2.2 hp hC hW hH hv1 hn (fun z => by exfalso; omega) hL hal (fun _ => by rw [a0, h0]; exact ⟨p0.1, w0.2.1⟩) ⟨f0, by omega⟩ hk 
        (fun q1 m2 hm2 k3 x4 e5 lo a0 a1 a2 a3 a4 hm2 => by exfalso; omega)
        (fun q1 y9 e10 y11 e12 v15 m13 hm13 k14 x16 e17 lo b0' b1' b2' b3' b4' b5' b7' hm2 => by
          refine ih x16 _ lo (by omega) (by omega) (fun u u0 u1 => ?_) (fun q q1 q2 => ?_) (zfl_sa.trans ((onl_zf k14.1 rfl).trans hp)) hm2 b0' b1' b2' b3' b4' b5' b7'
          · rw [ga_sa_eq, gn_set rfl f0 (by rw [(ga_ty j3 hm13).2.1]; omega) u0]
            by_cases v : u = f.toInt
            · rw [if_pos v, if_pos (show u < x16.toInt by omega), v, k14.2, a0, h0]
              rfl
            · rw [if_neg v, onl_ga k14.1 (isS_c hi rfl).2.2, hA u u0 u1]
              by_cases w : u < f.toInt
              · rw [if_pos w, if_pos (show u < x16.toInt by omega)]
              · rw [if_neg w, if_neg (show ¬ u < x16.toInt by omega)]
          · rw [zat_sa_ne (fun w => q1 w.symm)]
            exact (k14.1 q (nck rfl q2)).trans (hF q q1 q2))
theorem pa_outB {s : Nat} {nn but : Int32} {N : Nat} {mr : zM} (hN : nn.toInt = (N : Int)) (N9 : N ≤ 999) (hCr : cQ 14 15 16 19 20 21 24 25 Q mr) (hW : WQ Q) (hi : isS s) (hv : wS Q S) (hH : wH Q hu) (hn : Sn S + (N : Int) ≤ 999) : ∀ (g j : Nat) (k : Int32) (mem : zM) (lo : List (Nat × Value)), j + g = N → k.toInt = (j : Int) → tS s Q hu (itS Q hu but.toInt j S) mem → (∀ j', j = j' + 1 → fnd Q hu but.toInt (itS Q hu but.toInt j' S) mem) → frS s mr mem → zfl mem 181 0 = some (.ref 14) → aTm aT0 mem → zlg lo 0 = some (.ref 181) → zlg lo 1 = some (.ref s) → zlg lo 2 = some (.int nn) → zlg lo 3 = some (.int but) → zlg lo 4 = some (.int k) → yR zpg tX0_pass (d + 10) (3, lo, [], mem) (fun r m => r = none ∧ aTm aT0 m ∧ (frS s mr m ∧ zfl m 181 0 = some (.ref 14) ∧ tS s Q hu (itS Q hu but.toInt N S) m ∧ ∀ j', N = j' + 1 → fnd Q hu but.toInt (itS Q hu but.toInt j' S) m)) := by
  intro g
  induction g with
  | zero =>
    intro j k mem lo hj hk hS hB hF hp hm l0 l1 l2 l3 l4
    have jn : j = N := by omega
    have hC := cQ_kB (frS_ca hi hF) hCr
    have hw := itS_w (but := but.toInt) (hu := hu) hW hv j (by omega)
    rw [jn] at hS hB
    exact w_pa3B (S := itS Q hu but.toInt j S) hm l0 l1 l2 l3 l4 hi.1 hi.2.1 hi.2.2.1 hi.2.2.2 hp hC hW (by rw [jn]; exact hS) hw hH 
        (fun q1 hm2 => ⟨rfl, hm2, hF, hp, hS, hB⟩)
        (fun q1 v4 m2 hm2 k3 lo a0 a1 a2 a3 a4 a5 a7 hm2 => by exfalso; omega)
  | succ g ih =>
    intro j k mem lo hj hk hS hB hF hp hm l0 l1 l2 l3 l4
    have hC := cQ_kB (frS_ca hi hF) hCr
    have hw := itS_w (but := but.toInt) (hu := hu) hW hv j (by omega)
    have hn1 : Sn (itS Q hu but.toInt j S) < 999 := by
      rw [itS_n]
      omega
    exact w_pa3B (S := itS Q hu but.toInt j S) hm l0 l1 l2 l3 l4 hi.1 hi.2.1 hi.2.2.1 hi.2.2.2 hp hC hW hS hw hH 
        (fun q1 hm2 => by exfalso; omega)
        (fun q1 v4 m2 hm2 k3 lo a0 a1 a2 a3 a4 a5 a7 hm2 => pa_inB (nn := nn) (k := k) hC hW hi hS hw hH hn1 ⟨by omega, by omega⟩ k3.2 (fun lo m k' e b0 b1 b2 b3 b4 c0 c1 c2 c3 c4 => ih (j + 1) k' m lo (by omega) (by omega) b3 (fun j' z => by
            have jj : j' = j := by omega
            rw [jj]
            exact b4) (frS_tr hF b1) b2 b0 c0 c1 c2 c3 c4) (Qf Q).length 0 _ lo (by show (0 : Int) + _ = _; unfold foN; omega) (by decide) (fun u u0 u1 => by
            rw [if_neg (show ¬ u < (0 : Int32).toInt by have z : (0 : Int32).toInt = 0 := rfl; omega), onl_ga k3.1 (isS_c hi rfl).2.2]
            exact hS.2.2.1 u u0 u1) (fun q q1 q2 => k3.1 q (nck rfl q2)) ((onl_zf k3.1 rfl).trans hp) hm2 a0 a1 a2 a3 a4 a5 a7)
theorem h_paB {s : Nat} {nn but : Int32} {N : Nat} (hN : nn.toInt = (N : Int)) (hm : aTm aT0 mem) (hp : zfl mem 181 0 = some (.ref 14)) (hC : cQ 14 15 16 19 20 21 24 25 Q mem) (hW : WQ Q) (hi : isS s) (hS : tS s Q hu S mem) (hv : wS Q S) (hH : wH Q hu) (hn : Sn S + (N : Int) ≤ 999) (hd : 11 ≤ d) : yC zpg d 2 [.ref 181, .ref s, .int nn, .int but] mem (fun r m => r = none ∧ aTm aT0 m ∧ (frS s mem m ∧ zfl m 181 0 = some (.ref 14) ∧ tS s Q hu (itS Q hu but.toInt N S) m ∧ ∀ j', N = j' + 1 → fnd Q hu but.toInt (itS Q hu but.toInt j' S) m)) := by
  obtain ⟨d, rfl⟩ : ∃ q, d = q + 11 := ⟨d - 11, by omega⟩
  have n0 := hv.1.1
  refine yC_of (t := tX0_pass) rfl rfl ?_
  refine w_pa0B hm rfl rfl rfl rfl ?_
  intro lo a0 a1 a2 a3 a4 hm2
  exact pa_outB hN (by omega) hC hW hi hv hH hn N 0 0 mem lo (by omega) rfl hS (fun j' z => by exfalso; omega) frS_rf hp hm2 a0 a1 a2 a3 a4
end PAB
