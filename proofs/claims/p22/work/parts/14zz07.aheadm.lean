/-! nights ahead: the model -/
section AHM
variable {d : Nat} {mem m a b c : zM} {Q : Qd} {S : Sd} {K : Kd} {P0 : Pd} {hu : Int → Int}
/-- the layer 1 alone changed, and cells that hold nothing -/
def F1 (a b : zM) : Prop := (∀ k, k ≤ 248 → zat b k = zat a k) ∧ oLl 1 a b ∧ ga b 255 = ga a 255
def X1 (Q : Qd) (hu : Int → Int) (S : Sd) (m : zM) : Prop := tM 1 Q hu S m ∧ ∃ K, kM 1 K m
theorem F1_rf : F1 a a := ⟨fun _ _ => rfl, oLl_q rfl rfl rfl rfl rfl rfl, rfl⟩
theorem F1_tr (h1 : F1 a b) (h2 : F1 b c) : F1 a c := ⟨fun k hk => (h2.1 k hk).trans (h1.1 k hk), oLl_tr h1.2.1 h2.2.1, h2.2.2.trans h1.2.2⟩
theorem F1_B (h : F1 a b) (hM : mB Q a) : mB Q b := mB_zat (gi_zq (h.1 221 (by decide))) (gi_zq (h.1 221 (by decide))) (fun k h1 h2 => h.1 k (by omega)) hM
theorem F1_0 (hW : WQ Q) (h : F1 a b) (hS : tM 0 Q hu S a) : tM 0 Q hu S b := tM_l hW (by decide) (by decide) h.2.1 h.2.2 hS
theorem F1_k (h : F1 a b) (hK : kM 0 K a) : kM 0 K b := kM_l (by decide) (by decide) (by decide) h.2.1 hK
theorem F1_r (hW : WQ Q) (h : F1 a b) (hP : rgM Q hu P0 a) : rgM Q hu P0 b := by
  have e54 : gi b 221 54 = gi a 221 54 := gi_zq (h.1 221 (by decide))
  have e55 : gi b 221 55 = gi a 221 55 := gi_zq (h.1 221 (by decide))
  unfold rgM at hP ⊢
  rw [e54, e55]
  refine ⟨hP.1, hP.2.1, fun k k0 k1 => ?_⟩
  obtain ⟨a1, a2⟩ := hP.2.2 k k0 k1
  exact ⟨tM_l hW (by omega) (by omega) h.2.1 h.2.2 a1, kM_l (by omega) (by omega) (by omega) h.2.1 a2⟩
/-- some answer, the layer 1 alone changed -/
def WF (mr : zM) (r : Option Value) (m : zM) : Prop := ∃ v : Int32, r = some (.int v) ∧ aTm aT0 m ∧ F1 mr m
theorem h_c1 (hm : aTm aT0 mem) (hW : WQ Q) (hS : tM 0 Q hu S mem) (hK : kM 0 K mem) (hd : 1 ≤ d) : yC zpg d 210 [.ref 221, .int 1, .int 0] mem (fun r m => r = none ∧ aTm aT0 m ∧ (F1 mem m ∧ X1 Q hu S m)) := by
  have k40 : 0 ≤ gn (ga mem 253) 0 ∧ gn (ga mem 253) 0 ≤ 40 := by
    rw [hK.2.1]
    exact hK.1
  refine yC_mono (fun r m q => ?_) (h_cp (to := 1) (fr := 0) hm (by decide) (by decide) (by decide) k40 hd)
  obtain ⟨q1, q2, q3, q4⟩ := q
  have e5 : ga m 255 = ga mem 255 := onl_ga q3 rfl
  exact ⟨q1, q2, ⟨fun k hk => onl_lt (b := 249) rfl q3 k (by omega), oLl_cp k40.2 q4, e5⟩, tM_cp hW (by decide) q4 e5 hS, K, kM_cp (by decide) q4 hK⟩
theorem h_t1 {bu : Int32} (hm : aTm aT0 mem) (hM : mB Q mem) (hW : WQ Q) (hX : X1 Q hu S mem) (hs : wS Q S) (hH : wH Q hu) (hd : 11 ≤ d) : yC zpg d 235 [.ref 221, .int 1, .int bu] mem (fun r m => ∃ fo : Int32, r = some (.int fo) ∧ aTm aT0 m ∧ (F1 mem m ∧ X1 Q hu (tkS Q hu bu.toInt S) m)) := by
  obtain ⟨hS, K, hK⟩ := hX
  refine yC_mono (fun r m q => ?_) (h_tk (v := 1) (K := K) hm hM hW hS hs hH hK (by decide) hd)
  obtain ⟨fo, q1, q2, q3, q4, q5, q6, -⟩ := q
  exact ⟨fo, q1, q2, ⟨fun k hk => onl_lt (b := 249) rfl q3 k (by omega), q6, onl_ga q3 rfl⟩, q4, _, q5⟩
theorem h_v1 {t : Int32} (hm : aTm aT0 mem) (hW : WQ Q) (hX : X1 Q hu S mem) (ht : 0 ≤ t.toInt ∧ t.toInt ≤ 8) (hd : 3 ≤ d) : yC zpg d 233 [.ref 221, .int 1, .int t] mem (fun r m => r = none ∧ aTm aT0 m ∧ (F1 mem m ∧ X1 Q hu (tnS S t) m)) := by
  obtain ⟨⟨⟨a1, a2⟩, a3, a4, a5⟩, K, hK⟩ := hX
  refine yC_mono (fun r m q => ?_) (h_tov (v := 1) (x := Sm S) (K := K) (N := Sn S) hm (by decide) ht a1 hK a2 hd)
  obtain ⟨q1, q2, o2, g0, g1, K2, L2⟩ := q
  have z1 : (1 : Int32).toInt = 1 := rfl
  rw [z1] at g0 g1 K2 L2
  have e5 : ga m 255 = ga mem 255 := onl_ga o2 rfl
  have e2 : ga m 252 = ga mem 252 := onl_ga o2 rfl
  have e9 : ga m 249 = ga mem 249 := onl_ga o2 rfl
  refine ⟨q1, q2, ⟨fun k hk => onl_lt (b := 249) rfl o2 k (by omega), ⟨fun u u0 uv => ⟨by rw [e9], by rw [g0 u u0, if_neg uv]⟩, fun j j0 jv => by rw [g1 j j0, if_neg (by omega)], fun j _ _ => by rw [e2], L2⟩, e5⟩, ⟨⟨by rw [e9]; exact a1, by rw [g0 1 (by decide), if_pos rfl]; rfl⟩, fun u u0 u1 => ?_, fun u u0 u1 => by rw [e2]; exact a4 u u0 u1, fun u u0 u1 => by rw [e5]; exact a5 u u0 u1⟩, _, K2⟩
  rw [g1 _ (by omega)]
  show _ = if u = t.toInt then 0 else Sa S u
  by_cases w : u = t.toInt
  · rw [if_pos w, if_pos (by omega)]
  · rw [if_neg w, if_neg (by omega)]
    exact a3 u u0 u1
theorem tnS_w {t : Int32} (hW : WQ Q) (hs : wS Q S) (t0 : 0 ≤ t.toInt) (t1 : t.toInt < thN Q) : wS Q (tnS S t) := by
  have t9 : thN Q ≤ 9 := by
    have := hW.2.1.1
    unfold thN
    omega
  refine ⟨hs.1, ⟨i9_xr hs.2.1.1 (i9_sh t0 (by omega)), fun i i0 i1 hi => ?_⟩, fun u u0 u1 => ?_, hs.2.2.2⟩
  · rcases (bt_xr t0 (by omega) i0 i1).1 hi with w | w
    · exact hs.2.1.2 i i0 i1 w.1
    · omega
  · show 0 ≤ (if u = t.toInt then 0 else Sa S u) ∧ (if u = t.toInt then 0 else Sa S u) ≤ 99
    split
    · exact ⟨by decide, by decide⟩
    · exact hs.2.2.1 u u0 u1
set_option maxRecDepth 100000 in
theorem w_ro0 {d : Nat} {mem : zM} {P : Option Value → zM → Prop} {n : Int32} {lo : List (Nat × Value)} (hm : aTm aT0 mem) (l_0 : zlg lo 0 = some (.ref 221)) (l_1 : zlg lo 1 = some (.int n)) (h1 : ∀ lo, zlg lo 0 = some (.ref 221) → zlg lo 1 = some (.int n) → zlg lo 2 = some (.int 0) → aTm aT0 mem → yR zpg tX12_runsOn (d + 12) (2, lo, [], mem) P) : yR zpg tX12_runsOn (d + 12) (0, lo, [], mem) P := by
  refine yR_m 1 (fun _ _ _ _ => rfl) ?_
  refine wR_si rfl rfl (fun lo1 e2 f3 => ?_)
  have lo1_0 := f3 0 _ (by decide) (Or.inl rfl) l_0
  have lo1_1 := f3 1 _ (by decide) (Or.inl rfl) l_1
  exact h1 lo1 lo1_0 lo1_1 e2 hm

set_option maxRecDepth 100000 in
theorem w_ro2 {d : Nat} {mem : zM} {P : Option Value → zM → Prop} {n k : Int32} {lo : List (Nat × Value)} (hm : aTm aT0 mem) (l_0 : zlg lo 0 = some (.ref 221)) (l_1 : zlg lo 1 = some (.int n)) (l_2 : zlg lo 2 = some (.int k)) {Q : Qd} {S : Sd} {hu : Int → Int} (hM : mB Q mem) (hW : WQ Q) (hX : X1 Q hu S mem) (hs : (k).toInt < (n).toInt → wS Q S) (hH : wH Q hu) (hk : 0 ≤ k.toInt ∧ k.toInt ≤ 40) (n40 : n.toInt ≤ 40) (h1 : (n).toInt ≤ (k).toInt → aTm aT0 mem → P none mem) (h2 : (k).toInt < (n).toInt → ∀ (v4 : Int32) (m2 : zM), aTm aT0 m2 → (F1 mem m2 ∧ X1 Q hu (tkS Q hu ((-1) : Int32).toInt S) m2) → ∀ (x5 : Int32), x5.toInt = ((k).toInt + 1) → ∀ lo, zlg lo 0 = some (.ref 221) → zlg lo 1 = some (.int n) → zlg lo 2 = some (.int x5) → aTm aT0 m2 → yR zpg tX12_runsOn (d + 12) (2, lo, [], m2) P) : yR zpg tX12_runsOn (d + 12) (2, lo, [], mem) P := by
  refine wR_li rfl l_2 ?_
  refine wR_li rfl l_1 ?_
  refine wR_ic_ge rfl (a := (k).toInt) (c := (n).toInt) rfl rfl (fun q1 => ?_) (fun q1 => ?_)
  ·
    exact yR_rv rfl (h1 q1 hm)
  ·
    refine wR_la rfl l_0 ?_
    refine yR_m 2 (fun _ _ _ _ => rfl) ?_
    refine wR_cv rfl rfl mO_e hm rfl (h_t1 (Q := Q) (S := S) (hu := hu) hm hM hW hX (hs q1) hH (by omega)) ?_
    rintro _ m2 ⟨v4, rfl, hm2, k3⟩
    show yR zpg tX12_runsOn (d + 12) (13, lo, [.int v4], m2) _
    refine yR_m 1 (fun _ _ _ _ => rfl) ?_
    refine wN_in (a := (k).toInt) (b := 1) rfl rfl l_2 rfl rfl (by omega) (fun x5 e6 => fun lo7 e8 f9 => ?_)
    have lo7_0 := f9 0 _ (by decide) (Or.inl rfl) l_0
    have lo7_1 := f9 1 _ (by decide) (Or.inl rfl) l_1
    exact yR_m 1 (fun _ _ _ _ => rfl) (h2 q1 v4 m2 hm2 k3 x5 e6 lo7 lo7_0 lo7_1 e8 hm2)

theorem ro_lp {n : Int32} {N : Nat} {mr : zM} (hN : n.toInt = (N : Int)) (N40 : N ≤ 40) (hMr : mB Q mr) (hW : WQ Q) (hs : wS Q S) (hH : wH Q hu) (h9 : Sn S + (N : Int) ≤ 999) : ∀ (g j : Nat) (k : Int32) (mem : zM) (lo : List (Nat × Value)), j + g = N → k.toInt = (j : Int) → X1 Q hu (itS Q hu (-1) j S) mem → F1 mr mem → aTm aT0 mem → zlg lo 0 = some (.ref 221) → zlg lo 1 = some (.int n) → zlg lo 2 = some (.int k) → yR zpg tX12_runsOn (d + 12) (2, lo, [], mem) (fun r m => r = none ∧ aTm aT0 m ∧ (F1 mr m ∧ X1 Q hu (itS Q hu (-1) N S) m)) := by
  intro g
  induction g with
  | zero =>
    intro j k mem lo hj ek hX hF hm l0 l1 l2
    have jn : j = N := by omega
    exact w_ro2 (S := itS Q hu (-1) j S) hm l0 l1 l2 (F1_B hF hMr) hW hX (fun z => by exfalso; omega) hH ⟨by omega, by omega⟩ (by omega) 
        (fun q1 hm2 => by
        rw [jn] at hX
        exact ⟨rfl, hm2, hF, hX⟩)
        (fun q1 v4 m2 hm2 k3 x5 e6 lo a0 a1 a2 hm2 => by exfalso; omega)
  | succ g ih =>
    intro j k mem lo hj ek hX hF hm l0 l1 l2
    have hw := itS_w (but := -1) (hu := hu) hW hs j (by omega)
    exact w_ro2 (S := itS Q hu (-1) j S) hm l0 l1 l2 (F1_B hF hMr) hW hX (fun z => hw) hH ⟨by omega, by omega⟩ (by omega) 
        (fun q1 hm2 => by exfalso; omega)
        (fun q1 v4 m2 hm2 k3 x5 e6 lo a0 a1 a2 hm2 => by
        have z := k3
        rw [tm1] at z
        exact ih (j + 1) _ _ lo (by omega) (by rw [e6, ek]; rfl) z.2 (F1_tr hF z.1) hm2 a0 a1 a2)
theorem h_ro {n : Int32} (hm : aTm aT0 mem) (hM : mB Q mem) (hW : WQ Q) (hX : X1 Q hu S mem) (hs : wS Q S) (hH : wH Q hu) (hn : 0 ≤ n.toInt ∧ n.toInt ≤ 40) (h9 : Sn S + n.toInt ≤ 999) (hd : 13 ≤ d) : yC zpg d 246 [.ref 221, .int n] mem (fun r m => r = none ∧ aTm aT0 m ∧ (F1 mem m ∧ X1 Q hu (itS Q hu (-1) n.toInt.toNat S) m)) := by
  obtain ⟨d, rfl⟩ : ∃ q, d = q + 13 := ⟨d - 13, by omega⟩
  refine yC_of (t := tX12_runsOn) rfl rfl ?_
  exact w_ro0 hm rfl rfl (fun lo a0 a1 a2 hm2 => ro_lp (N := n.toInt.toNat) (by omega) (by omega) hM hW hs hH (by omega) n.toInt.toNat 0 0 _ lo (by omega) rfl hX F1_rf hm2 a0 a1 a2)
/-- the one of the folk, the number of nights, what: that there are such -/
def ahN (Q : Qd) (S : Sd) (n k : Int) : Prop := (0 ≤ n ∧ n ≤ k) ∧ 0 < Qc Q ∧ Sn S + n ≤ 999
def laA (Q : Qd) (hu : Int → Int) (S : Sd) (f n w v : Int) : Prop := (((0 ≤ f ∧ f < foN Q) ∧ ahN Q S n 40 ∧ 0 ≤ w ∧ w ≤ 1) ∧ v = if w = 0 then Sp (itS Q hu (-1) n.toNat S) f % 8 else Sp (itS Q hu (-1) n.toNat S) f / 8) ∨ (¬ ((0 ≤ f ∧ f < foN Q) ∧ ahN Q S n 40 ∧ 0 ≤ w ∧ w ≤ 1) ∧ v = -1)
def miA (Q : Qd) (hu : Int → Int) (S : Sd) (t n v : Int) : Prop := (((0 ≤ t ∧ t < thN Q) ∧ ahN Q S n 40) ∧ ((bt (Sm (itS Q hu (-1) n.toNat S)) t ∧ v = 1) ∨ (¬ bt (Sm (itS Q hu (-1) n.toNat S)) t ∧ v = 0))) ∨ (¬ ((0 ≤ t ∧ t < thN Q) ∧ ahN Q S n 40) ∧ v = -1)
set_option maxRecDepth 100000 in
theorem w_la {d : Nat} {mem : zM} {P : Option Value → zM → Prop} {f n wh : Int32} (hm : aTm aT0 mem) {Q : Qd} {S : Sd} {K : Kd} {hu : Int → Int} (hM : mB Q mem) (hW : WQ Q) (hS : tM 0 Q hu S mem) (hs : wS Q S) (hH : wH Q hu) (hK : kM 0 K mem) (h1 : (f).toInt < 0 → aTm aT0 mem → P (some (.int (-1))) mem) (h2 : 0 ≤ (f).toInt → ∀ (y2 : Int32), y2.toInt = (gn (ga mem 233) (gi mem 221 13).toInt) → (gn (ga mem 233) (gi mem 221 13).toInt) ≤ (f).toInt → aTm aT0 mem → P (some (.int (-1))) mem) (h3 : 0 ≤ (f).toInt → ∀ (y2 : Int32), y2.toInt = (gn (ga mem 233) (gi mem 221 13).toInt) → (f).toInt < (gn (ga mem 233) (gi mem 221 13).toInt) → (gi mem 221 46).toInt = 0 → aTm aT0 mem → P (some (.int (-1))) mem) (h4 : 0 ≤ (f).toInt → ∀ (y2 : Int32), y2.toInt = (gn (ga mem 233) (gi mem 221 13).toInt) → (f).toInt < (gn (ga mem 233) (gi mem 221 13).toInt) → ¬ (gi mem 221 46).toInt = 0 → (n).toInt < 0 → aTm aT0 mem → P (some (.int (-1))) mem) (h5 : 0 ≤ (f).toInt → ∀ (y2 : Int32), y2.toInt = (gn (ga mem 233) (gi mem 221 13).toInt) → (f).toInt < (gn (ga mem 233) (gi mem 221 13).toInt) → ¬ (gi mem 221 46).toInt = 0 → 0 ≤ (n).toInt → 40 < (n).toInt → aTm aT0 mem → P (some (.int (-1))) mem) (h6 : 0 ≤ (f).toInt → ∀ (y2 : Int32), y2.toInt = (gn (ga mem 233) (gi mem 221 13).toInt) → (f).toInt < (gn (ga mem 233) (gi mem 221 13).toInt) → ¬ (gi mem 221 46).toInt = 0 → 0 ≤ (n).toInt → (n).toInt ≤ 40 → ∀ (y8 : Int32), y8.toInt = (gn (ga mem 249) 0) → ∀ (x10 : Int32), x10.toInt = (999 - (n).toInt) → (999 - (n).toInt) < (gn (ga mem 249) 0) → aTm aT0 mem → P (some (.int (-1))) mem) (h7 : 0 ≤ (f).toInt → ∀ (y2 : Int32), y2.toInt = (gn (ga mem 233) (gi mem 221 13).toInt) → (f).toInt < (gn (ga mem 233) (gi mem 221 13).toInt) → ¬ (gi mem 221 46).toInt = 0 → 0 ≤ (n).toInt → (n).toInt ≤ 40 → ∀ (y8 : Int32), y8.toInt = (gn (ga mem 249) 0) → ∀ (x10 : Int32), x10.toInt = (999 - (n).toInt) → (gn (ga mem 249) 0) ≤ (999 - (n).toInt) → (wh).toInt < 0 → aTm aT0 mem → P (some (.int (-1))) mem) (h8 : 0 ≤ (f).toInt → ∀ (y2 : Int32), y2.toInt = (gn (ga mem 233) (gi mem 221 13).toInt) → (f).toInt < (gn (ga mem 233) (gi mem 221 13).toInt) → ¬ (gi mem 221 46).toInt = 0 → 0 ≤ (n).toInt → (n).toInt ≤ 40 → ∀ (y8 : Int32), y8.toInt = (gn (ga mem 249) 0) → ∀ (x10 : Int32), x10.toInt = (999 - (n).toInt) → (gn (ga mem 249) 0) ≤ (999 - (n).toInt) → 0 ≤ (wh).toInt → 1 < (wh).toInt → aTm aT0 mem → P (some (.int (-1))) mem) (s1 : 0 ≤ (f).toInt → ∀ (y2 : Int32), y2.toInt = (gn (ga mem 233) (gi mem 221 13).toInt) → (f).toInt < (gn (ga mem 233) (gi mem 221 13).toInt) → ¬ (gi mem 221 46).toInt = 0 → 0 ≤ (n).toInt → (n).toInt ≤ 40 → ∀ (y8 : Int32), y8.toInt = (gn (ga mem 249) 0) → ∀ (x10 : Int32), x10.toInt = (999 - (n).toInt) → (gn (ga mem 249) 0) ≤ (999 - (n).toInt) → 0 ≤ (wh).toInt → (wh).toInt ≤ 1 → ∀ (m15 : zM), aTm aT0 m15 → (F1 mem m15 ∧ X1 Q hu S m15) → ∀ (m17 : zM), aTm aT0 m17 → (F1 m15 m17 ∧ X1 Q hu (itS Q hu (-1) (n).toInt.toNat S) m17) → ∀ (x19 : Int32), x19.toInt = (6 + (f).toInt) → ∀ (y21 : Int32), y21.toInt = (gn (ga m17 252) (6 + (f).toInt)) → ¬ (wh).toInt = 0 → (0 : Int) ≤ (gn (ga m17 252) (6 + (f).toInt))) (h9 : 0 ≤ (f).toInt → ∀ (y2 : Int32), y2.toInt = (gn (ga mem 233) (gi mem 221 13).toInt) → (f).toInt < (gn (ga mem 233) (gi mem 221 13).toInt) → ¬ (gi mem 221 46).toInt = 0 → 0 ≤ (n).toInt → (n).toInt ≤ 40 → ∀ (y8 : Int32), y8.toInt = (gn (ga mem 249) 0) → ∀ (x10 : Int32), x10.toInt = (999 - (n).toInt) → (gn (ga mem 249) 0) ≤ (999 - (n).toInt) → 0 ≤ (wh).toInt → (wh).toInt ≤ 1 → ∀ (m15 : zM), aTm aT0 m15 → (F1 mem m15 ∧ X1 Q hu S m15) → ∀ (m17 : zM), aTm aT0 m17 → (F1 m15 m17 ∧ X1 Q hu (itS Q hu (-1) (n).toInt.toNat S) m17) → ∀ (x19 : Int32), x19.toInt = (6 + (f).toInt) → ∀ (y21 : Int32), y21.toInt = (gn (ga m17 252) (6 + (f).toInt)) → ¬ (wh).toInt = 0 → ∀ (x24 : Int32), x24.toInt = ((gn (ga m17 252) (6 + (f).toInt)) / 8) → aTm aT0 m17 → P (some (.int x24)) m17) (s2 : 0 ≤ (f).toInt → ∀ (y2 : Int32), y2.toInt = (gn (ga mem 233) (gi mem 221 13).toInt) → (f).toInt < (gn (ga mem 233) (gi mem 221 13).toInt) → ¬ (gi mem 221 46).toInt = 0 → 0 ≤ (n).toInt → (n).toInt ≤ 40 → ∀ (y8 : Int32), y8.toInt = (gn (ga mem 249) 0) → ∀ (x10 : Int32), x10.toInt = (999 - (n).toInt) → (gn (ga mem 249) 0) ≤ (999 - (n).toInt) → 0 ≤ (wh).toInt → (wh).toInt ≤ 1 → ∀ (m15 : zM), aTm aT0 m15 → (F1 mem m15 ∧ X1 Q hu S m15) → ∀ (m17 : zM), aTm aT0 m17 → (F1 m15 m17 ∧ X1 Q hu (itS Q hu (-1) (n).toInt.toNat S) m17) → ∀ (x19 : Int32), x19.toInt = (6 + (f).toInt) → ∀ (y21 : Int32), y21.toInt = (gn (ga m17 252) (6 + (f).toInt)) → (wh).toInt = 0 → (0 : Int) ≤ (gn (ga m17 252) (6 + (f).toInt))) (h10 : 0 ≤ (f).toInt → ∀ (y2 : Int32), y2.toInt = (gn (ga mem 233) (gi mem 221 13).toInt) → (f).toInt < (gn (ga mem 233) (gi mem 221 13).toInt) → ¬ (gi mem 221 46).toInt = 0 → 0 ≤ (n).toInt → (n).toInt ≤ 40 → ∀ (y8 : Int32), y8.toInt = (gn (ga mem 249) 0) → ∀ (x10 : Int32), x10.toInt = (999 - (n).toInt) → (gn (ga mem 249) 0) ≤ (999 - (n).toInt) → 0 ≤ (wh).toInt → (wh).toInt ≤ 1 → ∀ (m15 : zM), aTm aT0 m15 → (F1 mem m15 ∧ X1 Q hu S m15) → ∀ (m17 : zM), aTm aT0 m17 → (F1 m15 m17 ∧ X1 Q hu (itS Q hu (-1) (n).toInt.toNat S) m17) → ∀ (x19 : Int32), x19.toInt = (6 + (f).toInt) → ∀ (y21 : Int32), y21.toInt = (gn (ga m17 252) (6 + (f).toInt)) → (wh).toInt = 0 → ∀ (x26 : Int32), x26.toInt = ((gn (ga m17 252) (6 + (f).toInt)) % 8) → aTm aT0 m17 → P (some (.int x26)) m17) : yR zpg tX12_later (d + 14) (0, [(0, .ref 221), (1, .int f), (2, .int n), (3, .int wh)], [], mem) P := by
  have s0 := hS.1.1
  have s9 := hs.1
  have rb := mO_r13 hm
  have mt := hM.1.2.2.1.1
  have t9 := hW.2.1.1
  have e9 : thN Q = ((Qt Q).length : Int) := rfl
  have mf := hM.1.2.2.2.2.1.1
  have f9 := hW.2.1.2.1
  have ef9 : foN Q = ((Qf Q).length : Int) := rfl
  refine yR_m 2 (fun _ _ _ _ => rfl) ?_
  refine wR_iv rfl rfl mO_e hm rfl rfl rfl rfl ?_
  show yR zpg tX12_isFolk (d + 13) (0, [(0, .ref 221), (1, .int f)], [], mem) _
  refine yR_m 1 (fun _ _ _ _ => rfl) ?_
  refine wR_if_lt rfl (a := (f).toInt) rfl (fun q1 => ?_) (fun q1 => ?_)
  ·
    refine yR_m 1 (fun _ _ _ _ => rfl) ?_
    refine yR_rz rfl ⟨by decide, by decide⟩ ?_
    show yR zpg tX12_later (d + 14) (5, [(0, .ref 221), (1, .int f), (2, .int n), (3, .int wh)], [.int 0], mem) _
    refine wR_if_eq rfl (a := 0) rfl (fun _ => ?_) (fun q => by exfalso; omega)
    refine yR_m 1 (fun _ _ _ _ => rfl) ?_
    exact yR_ri rfl (h1 q1 hm)
  ·
    refine yR_m 2 (fun _ _ _ _ => rfl) ?_
    refine wR_gr rfl mO_e mO_24 hm ?_
    refine yR_m 1 (fun _ _ _ _ => rfl) ?_
    refine wR_gi rfl mO_e mO_13 hm rfl ?_
    refine wN_al (a := (gi mem 221 13).toInt) rfl aR_233 hm rfl rfl (by omega) (fun y2 e3 => ?_)
    refine wR_ic_ge rfl (a := (f).toInt) (c := (gn (ga mem 233) (gi mem 221 13).toInt)) rfl e3 (fun q4 => ?_) (fun q4 => ?_)
    ·
      refine yR_m 1 (fun _ _ _ _ => rfl) ?_
      refine yR_rz rfl ⟨by decide, by decide⟩ ?_
      show yR zpg tX12_later (d + 14) (5, [(0, .ref 221), (1, .int f), (2, .int n), (3, .int wh)], [.int 0], mem) _
      refine wR_if_eq rfl (a := 0) rfl (fun _ => ?_) (fun q => by exfalso; omega)
      refine yR_m 1 (fun _ _ _ _ => rfl) ?_
      exact yR_ri rfl (h2 q1 y2 e3 q4 hm)
    ·
      refine yR_m 2 (fun _ _ _ _ => rfl) ?_
      refine yR_rz rfl ⟨by decide, by decide⟩ ?_
      show yR zpg tX12_later (d + 14) (5, [(0, .ref 221), (1, .int f), (2, .int n), (3, .int wh)], [.int 1], mem) _
      refine wR_if_eq rfl (a := 1) rfl (fun q => by exfalso; omega) (fun _ => ?_)
      refine yR_m 4 (fun _ _ _ _ => rfl) ?_
      refine wR_iv rfl rfl mO_e hm rfl rfl rfl rfl ?_
      show yR zpg tX12_isAhead (d + 13) (0, [(0, .ref 221), (1, .int n), (2, .int 0), (3, .int 40)], [], mem) _
      refine yR_m 1 (fun _ _ _ _ => rfl) ?_
      refine wR_gi rfl mO_e mO_46 hm rfl ?_
      refine wR_if_eq rfl (a := (gi mem 221 46).toInt) rfl (fun q5 => ?_) (fun q5 => ?_)
      ·
        refine yR_m 1 (fun _ _ _ _ => rfl) ?_
        refine yR_rz rfl ⟨by decide, by decide⟩ ?_
        show yR zpg tX12_later (d + 14) (16, [(0, .ref 221), (1, .int f), (2, .int n), (3, .int wh)], [.int 0], mem) _
        refine wR_if_eq rfl (a := 0) rfl (fun _ => ?_) (fun q => by exfalso; omega)
        refine yR_m 1 (fun _ _ _ _ => rfl) ?_
        exact yR_ri rfl (h3 q1 y2 e3 q4 q5 hm)
      ·
        refine yR_m 3 (fun _ _ _ _ => rfl) ?_
        refine wR_is rfl rfl rfl rfl rfl rfl ?_
        show yR zpg tX12_is (d + 12) (0, [(0, .int n), (1, .int 0), (2, .int 40)], [], mem) _
        refine yR_m 2 (fun _ _ _ _ => rfl) ?_
        refine wR_ic_lt rfl (a := (n).toInt) (c := 0) rfl rfl (fun q6 => ?_) (fun q6 => ?_)
        ·
          refine yR_m 1 (fun _ _ _ _ => rfl) ?_
          refine yR_rz rfl ⟨by decide, by decide⟩ ?_
          show yR zpg tX12_isAhead (d + 13) (13, [(0, .ref 221), (1, .int n), (2, .int 0), (3, .int 40)], [.int 0], mem) _
          refine wR_if_eq rfl (a := 0) rfl (fun _ => ?_) (fun q => by exfalso; omega)
          refine yR_m 1 (fun _ _ _ _ => rfl) ?_
          refine yR_rz rfl ⟨by decide, by decide⟩ ?_
          show yR zpg tX12_later (d + 14) (16, [(0, .ref 221), (1, .int f), (2, .int n), (3, .int wh)], [.int 0], mem) _
          refine wR_if_eq rfl (a := 0) rfl (fun _ => ?_) (fun q => by exfalso; omega)
          refine yR_m 1 (fun _ _ _ _ => rfl) ?_
          exact yR_ri rfl (h4 q1 y2 e3 q4 q5 q6 hm)
        ·
          refine yR_m 2 (fun _ _ _ _ => rfl) ?_
          refine wR_ic_gt rfl (a := (n).toInt) (c := 40) rfl rfl (fun q7 => ?_) (fun q7 => ?_)
          ·
            refine yR_m 1 (fun _ _ _ _ => rfl) ?_
            refine yR_rz rfl ⟨by decide, by decide⟩ ?_
            show yR zpg tX12_isAhead (d + 13) (13, [(0, .ref 221), (1, .int n), (2, .int 0), (3, .int 40)], [.int 0], mem) _
            refine wR_if_eq rfl (a := 0) rfl (fun _ => ?_) (fun q => by exfalso; omega)
            refine yR_m 1 (fun _ _ _ _ => rfl) ?_
            refine yR_rz rfl ⟨by decide, by decide⟩ ?_
            show yR zpg tX12_later (d + 14) (16, [(0, .ref 221), (1, .int f), (2, .int n), (3, .int wh)], [.int 0], mem) _
            refine wR_if_eq rfl (a := 0) rfl (fun _ => ?_) (fun q => by exfalso; omega)
            refine yR_m 1 (fun _ _ _ _ => rfl) ?_
            exact yR_ri rfl (h5 q1 y2 e3 q4 q5 q6 q7 hm)
          ·
            refine yR_m 2 (fun _ _ _ _ => rfl) ?_
            refine yR_rz rfl ⟨by decide, by decide⟩ ?_
            show yR zpg tX12_isAhead (d + 13) (13, [(0, .ref 221), (1, .int n), (2, .int 0), (3, .int 40)], [.int 1], mem) _
            refine wR_if_eq rfl (a := 1) rfl (fun q => by exfalso; omega) (fun _ => ?_)
            refine yR_m 1 (fun _ _ _ _ => rfl) ?_
            refine wR_gr rfl mO_e mO_48 hm ?_
            refine yR_m 1 (fun _ _ _ _ => rfl) ?_
            refine wN_al (a := 0) rfl aR_249 hm rfl rfl (by decide) (fun y8 e9 => ?_)
            refine yR_m 2 (fun _ _ _ _ => rfl) ?_
            refine wN_sub (a := 999) (b := (n).toInt) rfl rfl rfl (by omega) (fun x10 e11 => ?_)
            refine wR_ic_gt rfl (a := (gn (ga mem 249) 0)) (c := (999 - (n).toInt)) e9 e11 (fun q12 => ?_) (fun q12 => ?_)
            ·
              refine yR_m 1 (fun _ _ _ _ => rfl) ?_
              refine yR_rz rfl ⟨by decide, by decide⟩ ?_
              show yR zpg tX12_later (d + 14) (16, [(0, .ref 221), (1, .int f), (2, .int n), (3, .int wh)], [.int 0], mem) _
              refine wR_if_eq rfl (a := 0) rfl (fun _ => ?_) (fun q => by exfalso; omega)
              refine yR_m 1 (fun _ _ _ _ => rfl) ?_
              exact yR_ri rfl (h6 q1 y2 e3 q4 q5 q6 q7 y8 e9 x10 e11 q12 hm)
            ·
              refine yR_m 2 (fun _ _ _ _ => rfl) ?_
              refine yR_rz rfl ⟨by decide, by decide⟩ ?_
              show yR zpg tX12_later (d + 14) (16, [(0, .ref 221), (1, .int f), (2, .int n), (3, .int wh)], [.int 1], mem) _
              refine wR_if_eq rfl (a := 1) rfl (fun q => by exfalso; omega) (fun _ => ?_)
              refine yR_m 3 (fun _ _ _ _ => rfl) ?_
              refine wR_is rfl rfl rfl rfl rfl rfl ?_
              show yR zpg tX12_is (d + 13) (0, [(0, .int wh), (1, .int 0), (2, .int 1)], [], mem) _
              refine yR_m 2 (fun _ _ _ _ => rfl) ?_
              refine wR_ic_lt rfl (a := (wh).toInt) (c := 0) rfl rfl (fun q13 => ?_) (fun q13 => ?_)
              ·
                refine yR_m 1 (fun _ _ _ _ => rfl) ?_
                refine yR_rz rfl ⟨by decide, by decide⟩ ?_
                show yR zpg tX12_later (d + 14) (25, [(0, .ref 221), (1, .int f), (2, .int n), (3, .int wh)], [.int 0], mem) _
                refine wR_if_ne rfl (a := 0) rfl (fun q => by exfalso; omega) (fun _ => ?_)
                refine yR_m 1 (fun _ _ _ _ => rfl) ?_
                exact yR_ri rfl (h7 q1 y2 e3 q4 q5 q6 q7 y8 e9 x10 e11 q12 q13 hm)
              ·
                refine yR_m 2 (fun _ _ _ _ => rfl) ?_
                refine wR_ic_gt rfl (a := (wh).toInt) (c := 1) rfl rfl (fun q14 => ?_) (fun q14 => ?_)
                ·
                  refine yR_m 1 (fun _ _ _ _ => rfl) ?_
                  refine yR_rz rfl ⟨by decide, by decide⟩ ?_
                  show yR zpg tX12_later (d + 14) (25, [(0, .ref 221), (1, .int f), (2, .int n), (3, .int wh)], [.int 0], mem) _
                  refine wR_if_ne rfl (a := 0) rfl (fun q => by exfalso; omega) (fun _ => ?_)
                  refine yR_m 1 (fun _ _ _ _ => rfl) ?_
                  exact yR_ri rfl (h8 q1 y2 e3 q4 q5 q6 q7 y8 e9 x10 e11 q12 q13 q14 hm)
                ·
                  refine yR_m 2 (fun _ _ _ _ => rfl) ?_
                  refine yR_rz rfl ⟨by decide, by decide⟩ ?_
                  show yR zpg tX12_later (d + 14) (25, [(0, .ref 221), (1, .int f), (2, .int n), (3, .int wh)], [.int 1], mem) _
                  refine wR_if_ne rfl (a := 1) rfl (fun _ => ?_) (fun q => by exfalso; omega)
                  refine yR_m 3 (fun _ _ _ _ => rfl) ?_
                  refine wR_cv rfl rfl mO_e hm rfl (h_c1 (Q := Q) (S := S) (K := K) (hu := hu) hm hW hS hK (by omega)) ?_
                  rintro _ m15 ⟨rfl, hm15, k16⟩
                  show yR zpg tX12_later (d + 14) (36, [(0, .ref 221), (1, .int f), (2, .int n), (3, .int wh)], [], m15) _
                  have rb_m15 := mO_r13 hm15
                  refine yR_m 2 (fun _ _ _ _ => rfl) ?_
                  refine wR_cv rfl rfl mO_e hm15 rfl (h_ro (Q := Q) (S := S) (hu := hu) hm15 (F1_B k16.1 hM) hW k16.2 hs hH (by omega) (by omega) (by omega)) ?_
                  rintro _ m17 ⟨rfl, hm17, k18⟩
                  show yR zpg tX12_later (d + 14) (41, [(0, .ref 221), (1, .int f), (2, .int n), (3, .int wh)], [], m17) _
                  have rb_m17 := mO_r13 hm17
                  refine yR_m 1 (fun _ _ _ _ => rfl) ?_
                  refine wR_gr rfl mO_e mO_51 hm17 ?_
                  refine yR_m 2 (fun _ _ _ _ => rfl) ?_
                  refine wN_add (a := 6) (b := (f).toInt) rfl rfl rfl (by omega) (fun x19 e20 => ?_)
                  refine wN_al (a := (6 + (f).toInt)) rfl aR_252 hm17 rfl e20 (by omega) (fun y21 e22 => ?_)
                  refine yR_m 1 (fun _ _ _ _ => rfl) ?_
                  refine wR_is rfl rfl rfl rfl rfl rfl ?_
                  show yR zpg tX12_partOf (d + 13) (0, [(0, .int y21), (1, .int wh)], [], m17) _
                  refine yR_m 1 (fun _ _ _ _ => rfl) ?_
                  refine wR_if_ne rfl (a := (wh).toInt) rfl (fun q23 => ?_) (fun q23 => ?_)
                  ·
                    refine yR_m 2 (fun _ _ _ _ => rfl) ?_
                    refine wN_div (a := (gn (ga m17 252) (6 + (f).toInt))) (b := 8) rfl e22 rfl (by decide) (s1 q1 y2 e3 q4 q5 q6 q7 y8 e9 x10 e11 q12 q13 q14 m15 hm15 k16 m17 hm17 k18 x19 e20 y21 e22 q23) (fun x24 e25 => ?_)
                    refine yR_ri rfl ?_
                    show yR zpg tX12_later (d + 14) (54, [(0, .ref 221), (1, .int f), (2, .int n), (3, .int wh)], [.int x24], m17) _
                    exact yR_ri rfl (h9 q1 y2 e3 q4 q5 q6 q7 y8 e9 x10 e11 q12 q13 q14 m15 hm15 k16 m17 hm17 k18 x19 e20 y21 e22 q23 x24 e25 hm17)
                  ·
                    refine yR_m 2 (fun _ _ _ _ => rfl) ?_
                    refine wN_rem (a := (gn (ga m17 252) (6 + (f).toInt))) (b := 8) rfl e22 rfl (by decide) (s2 q1 y2 e3 q4 q5 q6 q7 y8 e9 x10 e11 q12 q13 q14 m15 hm15 k16 m17 hm17 k18 x19 e20 y21 e22 q23) (fun x26 e27 => ?_)
                    refine yR_m 1 (fun _ _ _ _ => rfl) ?_
                    refine yR_ri rfl ?_
                    show yR zpg tX12_later (d + 14) (54, [(0, .ref 221), (1, .int f), (2, .int n), (3, .int wh)], [.int x26], m17) _
                    exact yR_ri rfl (h10 q1 y2 e3 q4 q5 q6 q7 y8 e9 x10 e11 q12 q13 q14 m15 hm15 k16 m17 hm17 k18 x19 e20 y21 e22 q23 x26 e27 hm17)

set_option maxRecDepth 100000 in
theorem w_mi {d : Nat} {mem : zM} {P : Option Value → zM → Prop} {t n : Int32} (hm : aTm aT0 mem) {Q : Qd} {S : Sd} {K : Kd} {hu : Int → Int} (hM : mB Q mem) (hW : WQ Q) (hS : tM 0 Q hu S mem) (hs : wS Q S) (hH : wH Q hu) (hK : kM 0 K mem) (h1 : (t).toInt < 0 → aTm aT0 mem → P (some (.int (-1))) mem) (h2 : 0 ≤ (t).toInt → ∀ (y2 : Int32), y2.toInt = (gn (ga mem 228) (gi mem 221 13).toInt) → (gn (ga mem 228) (gi mem 221 13).toInt) ≤ (t).toInt → aTm aT0 mem → P (some (.int (-1))) mem) (h3 : 0 ≤ (t).toInt → ∀ (y2 : Int32), y2.toInt = (gn (ga mem 228) (gi mem 221 13).toInt) → (t).toInt < (gn (ga mem 228) (gi mem 221 13).toInt) → (gi mem 221 46).toInt = 0 → aTm aT0 mem → P (some (.int (-1))) mem) (h4 : 0 ≤ (t).toInt → ∀ (y2 : Int32), y2.toInt = (gn (ga mem 228) (gi mem 221 13).toInt) → (t).toInt < (gn (ga mem 228) (gi mem 221 13).toInt) → ¬ (gi mem 221 46).toInt = 0 → (n).toInt < 0 → aTm aT0 mem → P (some (.int (-1))) mem) (h5 : 0 ≤ (t).toInt → ∀ (y2 : Int32), y2.toInt = (gn (ga mem 228) (gi mem 221 13).toInt) → (t).toInt < (gn (ga mem 228) (gi mem 221 13).toInt) → ¬ (gi mem 221 46).toInt = 0 → 0 ≤ (n).toInt → 40 < (n).toInt → aTm aT0 mem → P (some (.int (-1))) mem) (h6 : 0 ≤ (t).toInt → ∀ (y2 : Int32), y2.toInt = (gn (ga mem 228) (gi mem 221 13).toInt) → (t).toInt < (gn (ga mem 228) (gi mem 221 13).toInt) → ¬ (gi mem 221 46).toInt = 0 → 0 ≤ (n).toInt → (n).toInt ≤ 40 → ∀ (y8 : Int32), y8.toInt = (gn (ga mem 249) 0) → ∀ (x10 : Int32), x10.toInt = (999 - (n).toInt) → (999 - (n).toInt) < (gn (ga mem 249) 0) → aTm aT0 mem → P (some (.int (-1))) mem) (h7 : 0 ≤ (t).toInt → ∀ (y2 : Int32), y2.toInt = (gn (ga mem 228) (gi mem 221 13).toInt) → (t).toInt < (gn (ga mem 228) (gi mem 221 13).toInt) → ¬ (gi mem 221 46).toInt = 0 → 0 ≤ (n).toInt → (n).toInt ≤ 40 → ∀ (y8 : Int32), y8.toInt = (gn (ga mem 249) 0) → ∀ (x10 : Int32), x10.toInt = (999 - (n).toInt) → (gn (ga mem 249) 0) ≤ (999 - (n).toInt) → ∀ (m13 : zM), aTm aT0 m13 → (F1 mem m13 ∧ X1 Q hu S m13) → ∀ (m15 : zM), aTm aT0 m15 → (F1 m13 m15 ∧ X1 Q hu (itS Q hu (-1) (n).toInt.toNat S) m15) → ∀ (y17 : Int32), y17.toInt = (gn (ga m15 250) 1) → ¬ ((y17 >>> (t &&& 31)) &&& 1).toInt = 1 → aTm aT0 m15 → P (some (.int 0)) m15) (h8 : 0 ≤ (t).toInt → ∀ (y2 : Int32), y2.toInt = (gn (ga mem 228) (gi mem 221 13).toInt) → (t).toInt < (gn (ga mem 228) (gi mem 221 13).toInt) → ¬ (gi mem 221 46).toInt = 0 → 0 ≤ (n).toInt → (n).toInt ≤ 40 → ∀ (y8 : Int32), y8.toInt = (gn (ga mem 249) 0) → ∀ (x10 : Int32), x10.toInt = (999 - (n).toInt) → (gn (ga mem 249) 0) ≤ (999 - (n).toInt) → ∀ (m13 : zM), aTm aT0 m13 → (F1 mem m13 ∧ X1 Q hu S m13) → ∀ (m15 : zM), aTm aT0 m15 → (F1 m13 m15 ∧ X1 Q hu (itS Q hu (-1) (n).toInt.toNat S) m15) → ∀ (y17 : Int32), y17.toInt = (gn (ga m15 250) 1) → ((y17 >>> (t &&& 31)) &&& 1).toInt = 1 → aTm aT0 m15 → P (some (.int 1)) m15) : yR zpg tX12_missing (d + 14) (0, [(0, .ref 221), (1, .int t), (2, .int n)], [], mem) P := by
  have s0 := hS.1.1
  have s9 := hs.1
  have rb := mO_r13 hm
  have mt := hM.1.2.2.1.1
  have t9 := hW.2.1.1
  have e9 : thN Q = ((Qt Q).length : Int) := rfl
  have mf := hM.1.2.2.2.2.1.1
  have f9 := hW.2.1.2.1
  have ef9 : foN Q = ((Qf Q).length : Int) := rfl
  refine yR_m 2 (fun _ _ _ _ => rfl) ?_
  refine wR_iv rfl rfl mO_e hm rfl rfl rfl rfl ?_
  show yR zpg tX12_isThing (d + 13) (0, [(0, .ref 221), (1, .int t)], [], mem) _
  refine yR_m 1 (fun _ _ _ _ => rfl) ?_
  refine wR_if_lt rfl (a := (t).toInt) rfl (fun q1 => ?_) (fun q1 => ?_)
  ·
    refine yR_m 1 (fun _ _ _ _ => rfl) ?_
    refine yR_rz rfl ⟨by decide, by decide⟩ ?_
    show yR zpg tX12_missing (d + 14) (5, [(0, .ref 221), (1, .int t), (2, .int n)], [.int 0], mem) _
    refine wR_if_eq rfl (a := 0) rfl (fun _ => ?_) (fun q => by exfalso; omega)
    refine yR_m 1 (fun _ _ _ _ => rfl) ?_
    exact yR_ri rfl (h1 q1 hm)
  ·
    refine yR_m 2 (fun _ _ _ _ => rfl) ?_
    refine wR_gr rfl mO_e mO_19 hm ?_
    refine yR_m 1 (fun _ _ _ _ => rfl) ?_
    refine wR_gi rfl mO_e mO_13 hm rfl ?_
    refine wN_al (a := (gi mem 221 13).toInt) rfl aR_228 hm rfl rfl (by omega) (fun y2 e3 => ?_)
    refine wR_ic_ge rfl (a := (t).toInt) (c := (gn (ga mem 228) (gi mem 221 13).toInt)) rfl e3 (fun q4 => ?_) (fun q4 => ?_)
    ·
      refine yR_m 1 (fun _ _ _ _ => rfl) ?_
      refine yR_rz rfl ⟨by decide, by decide⟩ ?_
      show yR zpg tX12_missing (d + 14) (5, [(0, .ref 221), (1, .int t), (2, .int n)], [.int 0], mem) _
      refine wR_if_eq rfl (a := 0) rfl (fun _ => ?_) (fun q => by exfalso; omega)
      refine yR_m 1 (fun _ _ _ _ => rfl) ?_
      exact yR_ri rfl (h2 q1 y2 e3 q4 hm)
    ·
      refine yR_m 2 (fun _ _ _ _ => rfl) ?_
      refine yR_rz rfl ⟨by decide, by decide⟩ ?_
      show yR zpg tX12_missing (d + 14) (5, [(0, .ref 221), (1, .int t), (2, .int n)], [.int 1], mem) _
      refine wR_if_eq rfl (a := 1) rfl (fun q => by exfalso; omega) (fun _ => ?_)
      refine yR_m 4 (fun _ _ _ _ => rfl) ?_
      refine wR_iv rfl rfl mO_e hm rfl rfl rfl rfl ?_
      show yR zpg tX12_isAhead (d + 13) (0, [(0, .ref 221), (1, .int n), (2, .int 0), (3, .int 40)], [], mem) _
      refine yR_m 1 (fun _ _ _ _ => rfl) ?_
      refine wR_gi rfl mO_e mO_46 hm rfl ?_
      refine wR_if_eq rfl (a := (gi mem 221 46).toInt) rfl (fun q5 => ?_) (fun q5 => ?_)
      ·
        refine yR_m 1 (fun _ _ _ _ => rfl) ?_
        refine yR_rz rfl ⟨by decide, by decide⟩ ?_
        show yR zpg tX12_missing (d + 14) (16, [(0, .ref 221), (1, .int t), (2, .int n)], [.int 0], mem) _
        refine wR_if_ne rfl (a := 0) rfl (fun q => by exfalso; omega) (fun _ => ?_)
        refine yR_m 1 (fun _ _ _ _ => rfl) ?_
        exact yR_ri rfl (h3 q1 y2 e3 q4 q5 hm)
      ·
        refine yR_m 3 (fun _ _ _ _ => rfl) ?_
        refine wR_is rfl rfl rfl rfl rfl rfl ?_
        show yR zpg tX12_is (d + 12) (0, [(0, .int n), (1, .int 0), (2, .int 40)], [], mem) _
        refine yR_m 2 (fun _ _ _ _ => rfl) ?_
        refine wR_ic_lt rfl (a := (n).toInt) (c := 0) rfl rfl (fun q6 => ?_) (fun q6 => ?_)
        ·
          refine yR_m 1 (fun _ _ _ _ => rfl) ?_
          refine yR_rz rfl ⟨by decide, by decide⟩ ?_
          show yR zpg tX12_isAhead (d + 13) (13, [(0, .ref 221), (1, .int n), (2, .int 0), (3, .int 40)], [.int 0], mem) _
          refine wR_if_eq rfl (a := 0) rfl (fun _ => ?_) (fun q => by exfalso; omega)
          refine yR_m 1 (fun _ _ _ _ => rfl) ?_
          refine yR_rz rfl ⟨by decide, by decide⟩ ?_
          show yR zpg tX12_missing (d + 14) (16, [(0, .ref 221), (1, .int t), (2, .int n)], [.int 0], mem) _
          refine wR_if_ne rfl (a := 0) rfl (fun q => by exfalso; omega) (fun _ => ?_)
          refine yR_m 1 (fun _ _ _ _ => rfl) ?_
          exact yR_ri rfl (h4 q1 y2 e3 q4 q5 q6 hm)
        ·
          refine yR_m 2 (fun _ _ _ _ => rfl) ?_
          refine wR_ic_gt rfl (a := (n).toInt) (c := 40) rfl rfl (fun q7 => ?_) (fun q7 => ?_)
          ·
            refine yR_m 1 (fun _ _ _ _ => rfl) ?_
            refine yR_rz rfl ⟨by decide, by decide⟩ ?_
            show yR zpg tX12_isAhead (d + 13) (13, [(0, .ref 221), (1, .int n), (2, .int 0), (3, .int 40)], [.int 0], mem) _
            refine wR_if_eq rfl (a := 0) rfl (fun _ => ?_) (fun q => by exfalso; omega)
            refine yR_m 1 (fun _ _ _ _ => rfl) ?_
            refine yR_rz rfl ⟨by decide, by decide⟩ ?_
            show yR zpg tX12_missing (d + 14) (16, [(0, .ref 221), (1, .int t), (2, .int n)], [.int 0], mem) _
            refine wR_if_ne rfl (a := 0) rfl (fun q => by exfalso; omega) (fun _ => ?_)
            refine yR_m 1 (fun _ _ _ _ => rfl) ?_
            exact yR_ri rfl (h5 q1 y2 e3 q4 q5 q6 q7 hm)
          ·
            refine yR_m 2 (fun _ _ _ _ => rfl) ?_
            refine yR_rz rfl ⟨by decide, by decide⟩ ?_
            show yR zpg tX12_isAhead (d + 13) (13, [(0, .ref 221), (1, .int n), (2, .int 0), (3, .int 40)], [.int 1], mem) _
            refine wR_if_eq rfl (a := 1) rfl (fun q => by exfalso; omega) (fun _ => ?_)
            refine yR_m 1 (fun _ _ _ _ => rfl) ?_
            refine wR_gr rfl mO_e mO_48 hm ?_
            refine yR_m 1 (fun _ _ _ _ => rfl) ?_
            refine wN_al (a := 0) rfl aR_249 hm rfl rfl (by decide) (fun y8 e9 => ?_)
            refine yR_m 2 (fun _ _ _ _ => rfl) ?_
            refine wN_sub (a := 999) (b := (n).toInt) rfl rfl rfl (by omega) (fun x10 e11 => ?_)
            refine wR_ic_gt rfl (a := (gn (ga mem 249) 0)) (c := (999 - (n).toInt)) e9 e11 (fun q12 => ?_) (fun q12 => ?_)
            ·
              refine yR_m 1 (fun _ _ _ _ => rfl) ?_
              refine yR_rz rfl ⟨by decide, by decide⟩ ?_
              show yR zpg tX12_missing (d + 14) (16, [(0, .ref 221), (1, .int t), (2, .int n)], [.int 0], mem) _
              refine wR_if_ne rfl (a := 0) rfl (fun q => by exfalso; omega) (fun _ => ?_)
              refine yR_m 1 (fun _ _ _ _ => rfl) ?_
              exact yR_ri rfl (h6 q1 y2 e3 q4 q5 q6 q7 y8 e9 x10 e11 q12 hm)
            ·
              refine yR_m 2 (fun _ _ _ _ => rfl) ?_
              refine yR_rz rfl ⟨by decide, by decide⟩ ?_
              show yR zpg tX12_missing (d + 14) (16, [(0, .ref 221), (1, .int t), (2, .int n)], [.int 1], mem) _
              refine wR_if_ne rfl (a := 1) rfl (fun _ => ?_) (fun q => by exfalso; omega)
              refine yR_m 3 (fun _ _ _ _ => rfl) ?_
              refine wR_cv rfl rfl mO_e hm rfl (h_c1 (Q := Q) (S := S) (K := K) (hu := hu) hm hW hS hK (by omega)) ?_
              rintro _ m13 ⟨rfl, hm13, k14⟩
              show yR zpg tX12_missing (d + 14) (27, [(0, .ref 221), (1, .int t), (2, .int n)], [], m13) _
              have rb_m13 := mO_r13 hm13
              refine yR_m 2 (fun _ _ _ _ => rfl) ?_
              refine wR_cv rfl rfl mO_e hm13 rfl (h_ro (Q := Q) (S := S) (hu := hu) hm13 (F1_B k14.1 hM) hW k14.2 hs hH (by omega) (by omega) (by omega)) ?_
              rintro _ m15 ⟨rfl, hm15, k16⟩
              show yR zpg tX12_missing (d + 14) (32, [(0, .ref 221), (1, .int t), (2, .int n)], [], m15) _
              have rb_m15 := mO_r13 hm15
              refine yR_m 1 (fun _ _ _ _ => rfl) ?_
              refine wR_gr rfl mO_e mO_49 hm15 ?_
              refine yR_m 1 (fun _ _ _ _ => rfl) ?_
              refine wN_al (a := 1) rfl aR_250 hm15 rfl rfl (by decide) (fun y17 e18 => ?_)
              refine yR_m 1 (fun _ _ _ _ => rfl) ?_
              refine wR_is rfl rfl rfl rfl rfl rfl ?_
              show yR zpg tX12_has2 (d + 13) (0, [(0, .int y17), (1, .int t)], [], m15) _
              refine yR_m 6 (fun _ _ _ _ => rfl) ?_
              refine wR_ic_ne rfl (a := ((y17 >>> (t &&& 31)) &&& 1).toInt) (c := 1) rfl rfl (fun q19 => ?_) (fun q19 => ?_)
              ·
                refine yR_m 1 (fun _ _ _ _ => rfl) ?_
                refine yR_rz rfl ⟨by decide, by decide⟩ ?_
                show yR zpg tX12_missing (d + 14) (42, [(0, .ref 221), (1, .int t), (2, .int n)], [.int 0], m15) _
                refine wR_if_eq rfl (a := 0) rfl (fun _ => ?_) (fun q => by exfalso; omega)
                refine yR_m 1 (fun _ _ _ _ => rfl) ?_
                exact yR_ri rfl (h7 q1 y2 e3 q4 q5 q6 q7 y8 e9 x10 e11 q12 m13 hm13 k14 m15 hm15 k16 y17 e18 q19 hm15)
              ·
                refine yR_m 2 (fun _ _ _ _ => rfl) ?_
                refine yR_rz rfl ⟨by decide, by decide⟩ ?_
                show yR zpg tX12_missing (d + 14) (42, [(0, .ref 221), (1, .int t), (2, .int n)], [.int 1], m15) _
                refine wR_if_eq rfl (a := 1) rfl (fun q => by exfalso; omega) (fun _ => ?_)
                refine yR_m 2 (fun _ _ _ _ => rfl) ?_
                exact yR_ri rfl (h8 q1 y2 e3 q4 q5 q6 q7 y8 e9 x10 e11 q12 m13 hm13 k14 m15 hm15 k16 y17 e18 q19 hm15)

theorem h_la {f n wh : Int32} (hm : aTm aT0 mem) (hM : mB Q mem) (hW : WQ Q) (hS : tM 0 Q hu S mem) (hs : wS Q S) (hH : wH Q hu) (hK : kM 0 K mem) (hd : 15 ≤ d) : yC zpg d 247 [.ref 221, .int f, .int n, .int wh] mem (fun r m => ∃ v : Int32, r = some (.int v) ∧ aTm aT0 m ∧ (F1 mem m ∧ laA Q hu S f.toInt n.toInt wh.toInt v.toInt)) := by
  obtain ⟨d, rfl⟩ : ∃ q, d = q + 15 := ⟨d - 15, by omega⟩
  have c46 := q46 hM
  have mf := hM.1.2.2.2.2.1.1
  have ef9 : foN Q = ((Qf Q).length : Int) := rfl
  have f9 := hW.2.1.2.1
  have s0 := hS.1.1
  refine yC_of (t := tX12_later) rfl rfl ?_
  exact w_la (S := S) (K := K) (hu := hu) hm hM hW hS hs hH hK 
        (fun q1 hm2 => ⟨_, rfl, hm2, F1_rf, Or.inr ⟨fun w => by have w1 := w.1; have w2 := w.2.1.1; have w3 := w.2.1.2; have w4 := w.2.2; omega, rfl⟩⟩)
        (fun q1 y2 e3 q4 hm2 => ⟨_, rfl, hm2, F1_rf, Or.inr ⟨fun w => by have w1 := w.1; have w2 := w.2.1.1; have w3 := w.2.1.2; have w4 := w.2.2; omega, rfl⟩⟩)
        (fun q1 y2 e3 q4 q5 hm2 => ⟨_, rfl, hm2, F1_rf, Or.inr ⟨fun w => by have w1 := w.1; have w2 := w.2.1.1; have w3 := w.2.1.2; have w4 := w.2.2; omega, rfl⟩⟩)
        (fun q1 y2 e3 q4 q5 q6 hm2 => ⟨_, rfl, hm2, F1_rf, Or.inr ⟨fun w => by have w1 := w.1; have w2 := w.2.1.1; have w3 := w.2.1.2; have w4 := w.2.2; omega, rfl⟩⟩)
        (fun q1 y2 e3 q4 q5 q6 q7 hm2 => ⟨_, rfl, hm2, F1_rf, Or.inr ⟨fun w => by have w1 := w.1; have w2 := w.2.1.1; have w3 := w.2.1.2; have w4 := w.2.2; omega, rfl⟩⟩)
        (fun q1 y2 e3 q4 q5 q6 q7 y8 e9 x10 e11 q12 hm2 => ⟨_, rfl, hm2, F1_rf, Or.inr ⟨fun w => by have w1 := w.1; have w2 := w.2.1.1; have w3 := w.2.1.2; have w4 := w.2.2; omega, rfl⟩⟩)
        (fun q1 y2 e3 q4 q5 q6 q7 y8 e9 x10 e11 q12 q13 hm2 => ⟨_, rfl, hm2, F1_rf, Or.inr ⟨fun w => by have w1 := w.1; have w2 := w.2.1.1; have w3 := w.2.1.2; have w4 := w.2.2; omega, rfl⟩⟩)
        (fun q1 y2 e3 q4 q5 q6 q7 y8 e9 x10 e11 q12 q13 q14 hm2 => ⟨_, rfl, hm2, F1_rf, Or.inr ⟨fun w => by have w1 := w.1; have w2 := w.2.1.1; have w3 := w.2.1.2; have w4 := w.2.2; omega, rfl⟩⟩)
        (fun q1 y2 e3 q4 q5 q6 q7 y8 e9 x10 e11 q12 q13 q14 m15 hm15 k16 m17 hm17 k18 x19 e20 y21 e22 q23 => by
      have g := k18.2.1.2.2.1 f.toInt (by omega) (by omega)
      rw [show (6 * (1 : Int) + f.toInt) = 6 + f.toInt by omega] at g
      have iw := itS_w (but := -1) (hu := hu) hW hs n.toInt.toNat (by omega)
      have p0 := (iw.2.2.2 f.toInt (by omega) (by omega)).1
      have p1 := p0.1
      omega)
        (fun q1 y2 e3 q4 q5 q6 q7 y8 e9 x10 e11 q12 q13 q14 m15 hm15 k16 m17 hm17 k18 x19 e20 y21 e22 q23 x24 e25 hm2 => by
      have g := k18.2.1.2.2.1 f.toInt (by omega) (by omega)
      rw [show (6 * (1 : Int) + f.toInt) = 6 + f.toInt by omega] at g
      have iw := itS_w (but := -1) (hu := hu) hW hs n.toInt.toNat (by omega)
      have p0 := (iw.2.2.2 f.toInt (by omega) (by omega)).1
      have p1 := p0.1
      exact ⟨_, rfl, hm2, F1_tr k16.1 k18.1, Or.inl ⟨⟨⟨by omega, by omega⟩, ⟨⟨by omega, by omega⟩, by omega, by omega⟩, by omega, by omega⟩, by rw [if_neg q23, e25, g]⟩⟩)
        (fun q1 y2 e3 q4 q5 q6 q7 y8 e9 x10 e11 q12 q13 q14 m15 hm15 k16 m17 hm17 k18 x19 e20 y21 e22 q23 => by
      have g := k18.2.1.2.2.1 f.toInt (by omega) (by omega)
      rw [show (6 * (1 : Int) + f.toInt) = 6 + f.toInt by omega] at g
      have iw := itS_w (but := -1) (hu := hu) hW hs n.toInt.toNat (by omega)
      have p0 := (iw.2.2.2 f.toInt (by omega) (by omega)).1
      have p1 := p0.1
      omega)
        (fun q1 y2 e3 q4 q5 q6 q7 y8 e9 x10 e11 q12 q13 q14 m15 hm15 k16 m17 hm17 k18 x19 e20 y21 e22 q23 x26 e27 hm2 => by
      have g := k18.2.1.2.2.1 f.toInt (by omega) (by omega)
      rw [show (6 * (1 : Int) + f.toInt) = 6 + f.toInt by omega] at g
      have iw := itS_w (but := -1) (hu := hu) hW hs n.toInt.toNat (by omega)
      have p0 := (iw.2.2.2 f.toInt (by omega) (by omega)).1
      have p1 := p0.1
      exact ⟨_, rfl, hm2, F1_tr k16.1 k18.1, Or.inl ⟨⟨⟨by omega, by omega⟩, ⟨⟨by omega, by omega⟩, by omega, by omega⟩, by omega, by omega⟩, by rw [if_pos q23, e27, g]⟩⟩)
theorem h_mi {t n : Int32} (hm : aTm aT0 mem) (hM : mB Q mem) (hW : WQ Q) (hS : tM 0 Q hu S mem) (hs : wS Q S) (hH : wH Q hu) (hK : kM 0 K mem) (hd : 15 ≤ d) : yC zpg d 249 [.ref 221, .int t, .int n] mem (fun r m => ∃ v : Int32, r = some (.int v) ∧ aTm aT0 m ∧ (F1 mem m ∧ miA Q hu S t.toInt n.toInt v.toInt)) := by
  obtain ⟨d, rfl⟩ : ∃ q, d = q + 15 := ⟨d - 15, by omega⟩
  have c46 := q46 hM
  have mt := hM.1.2.2.1.1
  have e9 : thN Q = ((Qt Q).length : Int) := rfl
  have t9 := hW.2.1.1
  have s0 := hS.1.1
  refine yC_of (t := tX12_missing) rfl rfl ?_
  exact w_mi (S := S) (K := K) (hu := hu) hm hM hW hS hs hH hK 
        (fun q1 hm2 => ⟨_, rfl, hm2, F1_rf, Or.inr ⟨fun w => by have w1 := w.1; have w2 := w.2.1; have w3 := w.2.2; omega, rfl⟩⟩)
        (fun q1 y2 e3 q4 hm2 => ⟨_, rfl, hm2, F1_rf, Or.inr ⟨fun w => by have w1 := w.1; have w2 := w.2.1; have w3 := w.2.2; omega, rfl⟩⟩)
        (fun q1 y2 e3 q4 q5 hm2 => ⟨_, rfl, hm2, F1_rf, Or.inr ⟨fun w => by have w1 := w.1; have w2 := w.2.1; have w3 := w.2.2; omega, rfl⟩⟩)
        (fun q1 y2 e3 q4 q5 q6 hm2 => ⟨_, rfl, hm2, F1_rf, Or.inr ⟨fun w => by have w1 := w.1; have w2 := w.2.1; have w3 := w.2.2; omega, rfl⟩⟩)
        (fun q1 y2 e3 q4 q5 q6 q7 hm2 => ⟨_, rfl, hm2, F1_rf, Or.inr ⟨fun w => by have w1 := w.1; have w2 := w.2.1; have w3 := w.2.2; omega, rfl⟩⟩)
        (fun q1 y2 e3 q4 q5 q6 q7 y8 e9 x10 e11 q12 hm2 => ⟨_, rfl, hm2, F1_rf, Or.inr ⟨fun w => by have w1 := w.1; have w2 := w.2.1; have w3 := w.2.2; omega, rfl⟩⟩)
        (fun q1 y2 e3 q4 q5 q6 q7 y8 e9 x10 e11 q12 m13 hm13 k14 m15 hm15 k16 y17 e18 q19 hm2 => by
      have g := k16.2.1.1.2
      have ye : y17 = _ := Int32.toInt_inj.1 (e18.trans g)
      rw [ye, bt_shr (by omega) (by omega)] at q19
      exact ⟨_, rfl, hm2, F1_tr k14.1 k16.1, Or.inl ⟨⟨⟨by omega, by omega⟩, ⟨by omega, by omega⟩, by omega, by omega⟩, Or.inr ⟨q19, rfl⟩⟩⟩)
        (fun q1 y2 e3 q4 q5 q6 q7 y8 e9 x10 e11 q12 m13 hm13 k14 m15 hm15 k16 y17 e18 q19 hm2 => by
      have g := k16.2.1.1.2
      have ye : y17 = _ := Int32.toInt_inj.1 (e18.trans g)
      rw [ye, bt_shr (by omega) (by omega)] at q19
      exact ⟨_, rfl, hm2, F1_tr k14.1 k16.1, Or.inl ⟨⟨⟨by omega, by omega⟩, ⟨by omega, by omega⟩, by omega, by omega⟩, Or.inl ⟨q19, rfl⟩⟩⟩)
/-- behind how many nights one of the folk is at home -/
def hmA (Q : Qd) (hu : Int → Int) (S : Sd) (f v : Int) : Prop := (v = -1 ∧ ((0 ≤ f ∧ f < foN Q) → ∀ j : Nat, ahN Q S (j : Int) 40 → ¬ Sp (itS Q hu (-1) j S) f = hoA Q f)) ∨ ((0 ≤ f ∧ f < foN Q) ∧ ∃ n : Nat, v = (n : Int) ∧ ahN Q S (n : Int) 40 ∧ Sp (itS Q hu (-1) n S) f = hoA Q f ∧ ∀ j : Nat, j < n → ¬ Sp (itS Q hu (-1) j S) f = hoA Q f)
set_option maxRecDepth 100000 in
theorem w_hm0 {d : Nat} {mem : zM} {P : Option Value → zM → Prop} {f : Int32} {lo : List (Nat × Value)} (hm : aTm aT0 mem) (l_0 : zlg lo 0 = some (.ref 221)) (l_1 : zlg lo 1 = some (.int f)) {Q : Qd} {S : Sd} {K : Kd} {hu : Int → Int} (hM : mB Q mem) (hW : WQ Q) (hS : tM 0 Q hu S mem) (hs : wS Q S) (hH : wH Q hu) (hK : kM 0 K mem) (h1 : (f).toInt < 0 → aTm aT0 mem → P (some (.int (-1))) mem) (h2 : 0 ≤ (f).toInt → ∀ (y2 : Int32), y2.toInt = (gn (ga mem 233) (gi mem 221 13).toInt) → (gn (ga mem 233) (gi mem 221 13).toInt) ≤ (f).toInt → aTm aT0 mem → P (some (.int (-1))) mem) (h3 : 0 ≤ (f).toInt → ∀ (y2 : Int32), y2.toInt = (gn (ga mem 233) (gi mem 221 13).toInt) → (f).toInt < (gn (ga mem 233) (gi mem 221 13).toInt) → ∀ (m5 : zM), aTm aT0 m5 → (F1 mem m5 ∧ X1 Q hu S m5) → ∀ lo, zlg lo 0 = some (.ref 221) → zlg lo 1 = some (.int f) → zlg lo 2 = some (.int 0) → aTm aT0 m5 → yR zpg tX12_home (d + 14) (18, lo, [], m5) P) : yR zpg tX12_home (d + 14) (0, lo, [], mem) P := by
  have s0 := hS.1.1
  have s9 := hs.1
  have rb := mO_r13 hm
  have mt := hM.1.2.2.1.1
  have t9 := hW.2.1.1
  have e9 : thN Q = ((Qt Q).length : Int) := rfl
  have mf := hM.1.2.2.2.2.1.1
  have f9 := hW.2.1.2.1
  have ef9 : foN Q = ((Qf Q).length : Int) := rfl
  refine wR_la rfl l_0 ?_
  refine wR_li rfl l_1 ?_
  refine wR_iv rfl rfl mO_e hm rfl rfl rfl rfl ?_
  show yR zpg tX12_isFolk (d + 13) (0, [(0, .ref 221), (1, .int f)], [], mem) _
  refine yR_m 1 (fun _ _ _ _ => rfl) ?_
  refine wR_if_lt rfl (a := (f).toInt) rfl (fun q1 => ?_) (fun q1 => ?_)
  ·
    refine yR_m 1 (fun _ _ _ _ => rfl) ?_
    refine yR_rz rfl ⟨by decide, by decide⟩ ?_
    show yR zpg tX12_home (d + 14) (5, lo, [.int 0], mem) _
    refine wR_if_ne rfl (a := 0) rfl (fun q => by exfalso; omega) (fun _ => ?_)
    refine yR_m 1 (fun _ _ _ _ => rfl) ?_
    exact yR_ri rfl (h1 q1 hm)
  ·
    refine yR_m 2 (fun _ _ _ _ => rfl) ?_
    refine wR_gr rfl mO_e mO_24 hm ?_
    refine yR_m 1 (fun _ _ _ _ => rfl) ?_
    refine wR_gi rfl mO_e mO_13 hm rfl ?_
    refine wN_al (a := (gi mem 221 13).toInt) rfl aR_233 hm rfl rfl (by omega) (fun y2 e3 => ?_)
    refine wR_ic_ge rfl (a := (f).toInt) (c := (gn (ga mem 233) (gi mem 221 13).toInt)) rfl e3 (fun q4 => ?_) (fun q4 => ?_)
    ·
      refine yR_m 1 (fun _ _ _ _ => rfl) ?_
      refine yR_rz rfl ⟨by decide, by decide⟩ ?_
      show yR zpg tX12_home (d + 14) (5, lo, [.int 0], mem) _
      refine wR_if_ne rfl (a := 0) rfl (fun q => by exfalso; omega) (fun _ => ?_)
      refine yR_m 1 (fun _ _ _ _ => rfl) ?_
      exact yR_ri rfl (h2 q1 y2 e3 q4 hm)
    ·
      refine yR_m 2 (fun _ _ _ _ => rfl) ?_
      refine yR_rz rfl ⟨by decide, by decide⟩ ?_
      show yR zpg tX12_home (d + 14) (5, lo, [.int 1], mem) _
      refine wR_if_ne rfl (a := 1) rfl (fun _ => ?_) (fun q => by exfalso; omega)
      refine wR_la rfl l_0 ?_
      refine yR_m 2 (fun _ _ _ _ => rfl) ?_
      refine wR_cv rfl rfl mO_e hm rfl (h_c1 (Q := Q) (S := S) (K := K) (hu := hu) hm hW hS hK (by omega)) ?_
      rintro _ m5 ⟨rfl, hm5, k6⟩
      show yR zpg tX12_home (d + 14) (16, lo, [], m5) _
      refine yR_m 1 (fun _ _ _ _ => rfl) ?_
      refine wR_si rfl rfl (fun lo7 e8 f9 => ?_)
      have lo7_0 := f9 0 _ (by decide) (Or.inl rfl) l_0
      have lo7_1 := f9 1 _ (by decide) (Or.inl rfl) l_1
      exact h3 q1 y2 e3 q4 m5 hm5 k6 lo7 lo7_0 lo7_1 e8 hm5

set_option maxRecDepth 100000 in
theorem w_hm18 {d : Nat} {mem : zM} {P : Option Value → zM → Prop} {f n : Int32} {lo : List (Nat × Value)} (hm : aTm aT0 mem) (l_0 : zlg lo 0 = some (.ref 221)) (l_1 : zlg lo 1 = some (.int f)) (l_2 : zlg lo 2 = some (.int n)) {Q : Qd} {S1 : Sd} {hu : Int → Int} (hM : mB Q mem) (hW : WQ Q) (hX : X1 Q hu S1 mem) (hs1 : (gn (ga mem 249) 0) ≤ (999 - (n).toInt) → wS Q S1) (hH : wH Q hu) (hn : 0 ≤ n.toInt ∧ n.toInt ≤ 41) (hf : 0 ≤ f.toInt ∧ f.toInt ≤ 5) (h1 : (gi mem 221 46).toInt = 0 → aTm aT0 mem → P (some (.int (-1))) mem) (h2 : ¬ (gi mem 221 46).toInt = 0 → (n).toInt < 0 → aTm aT0 mem → P (some (.int (-1))) mem) (h3 : ¬ (gi mem 221 46).toInt = 0 → 0 ≤ (n).toInt → 40 < (n).toInt → aTm aT0 mem → P (some (.int (-1))) mem) (h4 : ¬ (gi mem 221 46).toInt = 0 → 0 ≤ (n).toInt → (n).toInt ≤ 40 → ∀ (y4 : Int32), y4.toInt = (gn (ga mem 249) 0) → ∀ (x6 : Int32), x6.toInt = (999 - (n).toInt) → (999 - (n).toInt) < (gn (ga mem 249) 0) → aTm aT0 mem → P (some (.int (-1))) mem) (h5 : ¬ (gi mem 221 46).toInt = 0 → 0 ≤ (n).toInt → (n).toInt ≤ 40 → ∀ (y4 : Int32), y4.toInt = (gn (ga mem 249) 0) → ∀ (x6 : Int32), x6.toInt = (999 - (n).toInt) → (gn (ga mem 249) 0) ≤ (999 - (n).toInt) → ∀ (x9 : Int32), x9.toInt = ((6 * 1) : Int) → ∀ (x11 : Int32), x11.toInt = (((6 * 1) : Int) + (f).toInt) → ∀ (y13 : Int32), y13.toInt = (gn (ga mem 252) (((6 * 1) : Int) + (f).toInt)) → ∀ (x15 : Int32), x15.toInt = (6 * (gi mem 221 13).toInt) → ∀ (x17 : Int32), x17.toInt = ((6 * (gi mem 221 13).toInt) + (f).toInt) → ∀ (y19 : Int32), y19.toInt = (gn (ga mem 235) ((6 * (gi mem 221 13).toInt) + (f).toInt)) → ¬ (gn (ga mem 252) (((6 * 1) : Int) + (f).toInt)) = (gn (ga mem 235) ((6 * (gi mem 221 13).toInt) + (f).toInt)) → ∀ (v24 : Int32) (m22 : zM), aTm aT0 m22 → (F1 mem m22 ∧ X1 Q hu (tkS Q hu ((-1) : Int32).toInt S1) m22) → ∀ (x25 : Int32), x25.toInt = ((n).toInt + 1) → ∀ lo, zlg lo 0 = some (.ref 221) → zlg lo 1 = some (.int f) → zlg lo 2 = some (.int x25) → aTm aT0 m22 → yR zpg tX12_home (d + 14) (18, lo, [], m22) P) (h6 : ¬ (gi mem 221 46).toInt = 0 → 0 ≤ (n).toInt → (n).toInt ≤ 40 → ∀ (y4 : Int32), y4.toInt = (gn (ga mem 249) 0) → ∀ (x6 : Int32), x6.toInt = (999 - (n).toInt) → (gn (ga mem 249) 0) ≤ (999 - (n).toInt) → ∀ (x9 : Int32), x9.toInt = ((6 * 1) : Int) → ∀ (x11 : Int32), x11.toInt = (((6 * 1) : Int) + (f).toInt) → ∀ (y13 : Int32), y13.toInt = (gn (ga mem 252) (((6 * 1) : Int) + (f).toInt)) → ∀ (x15 : Int32), x15.toInt = (6 * (gi mem 221 13).toInt) → ∀ (x17 : Int32), x17.toInt = ((6 * (gi mem 221 13).toInt) + (f).toInt) → ∀ (y19 : Int32), y19.toInt = (gn (ga mem 235) ((6 * (gi mem 221 13).toInt) + (f).toInt)) → (gn (ga mem 252) (((6 * 1) : Int) + (f).toInt)) = (gn (ga mem 235) ((6 * (gi mem 221 13).toInt) + (f).toInt)) → aTm aT0 mem → P (some (.int n)) mem) : yR zpg tX12_home (d + 14) (18, lo, [], mem) P := by
  have rb := mO_r13 hm
  refine wR_la rfl l_0 ?_
  refine wR_li rfl l_2 ?_
  refine yR_m 2 (fun _ _ _ _ => rfl) ?_
  refine wR_iv rfl rfl mO_e hm rfl rfl rfl rfl ?_
  show yR zpg tX12_isAhead (d + 13) (0, [(0, .ref 221), (1, .int n), (2, .int 0), (3, .int 40)], [], mem) _
  refine yR_m 1 (fun _ _ _ _ => rfl) ?_
  refine wR_gi rfl mO_e mO_46 hm rfl ?_
  refine wR_if_eq rfl (a := (gi mem 221 46).toInt) rfl (fun q1 => ?_) (fun q1 => ?_)
  ·
    refine yR_m 1 (fun _ _ _ _ => rfl) ?_
    refine yR_rz rfl ⟨by decide, by decide⟩ ?_
    show yR zpg tX12_home (d + 14) (26, lo, [.int 0], mem) _
    refine wR_if_eq rfl (a := 0) rfl (fun _ => ?_) (fun q => by exfalso; omega)
    refine yR_m 1 (fun _ _ _ _ => rfl) ?_
    exact yR_ri rfl (h1 q1 hm)
  ·
    refine yR_m 3 (fun _ _ _ _ => rfl) ?_
    refine wR_is rfl rfl rfl rfl rfl rfl ?_
    show yR zpg tX12_is (d + 12) (0, [(0, .int n), (1, .int 0), (2, .int 40)], [], mem) _
    refine yR_m 2 (fun _ _ _ _ => rfl) ?_
    refine wR_ic_lt rfl (a := (n).toInt) (c := 0) rfl rfl (fun q2 => ?_) (fun q2 => ?_)
    ·
      refine yR_m 1 (fun _ _ _ _ => rfl) ?_
      refine yR_rz rfl ⟨by decide, by decide⟩ ?_
      show yR zpg tX12_isAhead (d + 13) (13, [(0, .ref 221), (1, .int n), (2, .int 0), (3, .int 40)], [.int 0], mem) _
      refine wR_if_eq rfl (a := 0) rfl (fun _ => ?_) (fun q => by exfalso; omega)
      refine yR_m 1 (fun _ _ _ _ => rfl) ?_
      refine yR_rz rfl ⟨by decide, by decide⟩ ?_
      show yR zpg tX12_home (d + 14) (26, lo, [.int 0], mem) _
      refine wR_if_eq rfl (a := 0) rfl (fun _ => ?_) (fun q => by exfalso; omega)
      refine yR_m 1 (fun _ _ _ _ => rfl) ?_
      exact yR_ri rfl (h2 q1 q2 hm)
    ·
      refine yR_m 2 (fun _ _ _ _ => rfl) ?_
      refine wR_ic_gt rfl (a := (n).toInt) (c := 40) rfl rfl (fun q3 => ?_) (fun q3 => ?_)
      ·
        refine yR_m 1 (fun _ _ _ _ => rfl) ?_
        refine yR_rz rfl ⟨by decide, by decide⟩ ?_
        show yR zpg tX12_isAhead (d + 13) (13, [(0, .ref 221), (1, .int n), (2, .int 0), (3, .int 40)], [.int 0], mem) _
        refine wR_if_eq rfl (a := 0) rfl (fun _ => ?_) (fun q => by exfalso; omega)
        refine yR_m 1 (fun _ _ _ _ => rfl) ?_
        refine yR_rz rfl ⟨by decide, by decide⟩ ?_
        show yR zpg tX12_home (d + 14) (26, lo, [.int 0], mem) _
        refine wR_if_eq rfl (a := 0) rfl (fun _ => ?_) (fun q => by exfalso; omega)
        refine yR_m 1 (fun _ _ _ _ => rfl) ?_
        exact yR_ri rfl (h3 q1 q2 q3 hm)
      ·
        refine yR_m 2 (fun _ _ _ _ => rfl) ?_
        refine yR_rz rfl ⟨by decide, by decide⟩ ?_
        show yR zpg tX12_isAhead (d + 13) (13, [(0, .ref 221), (1, .int n), (2, .int 0), (3, .int 40)], [.int 1], mem) _
        refine wR_if_eq rfl (a := 1) rfl (fun q => by exfalso; omega) (fun _ => ?_)
        refine yR_m 1 (fun _ _ _ _ => rfl) ?_
        refine wR_gr rfl mO_e mO_48 hm ?_
        refine yR_m 1 (fun _ _ _ _ => rfl) ?_
        refine wN_al (a := 0) rfl aR_249 hm rfl rfl (by decide) (fun y4 e5 => ?_)
        refine yR_m 2 (fun _ _ _ _ => rfl) ?_
        refine wN_sub (a := 999) (b := (n).toInt) rfl rfl rfl (by omega) (fun x6 e7 => ?_)
        refine wR_ic_gt rfl (a := (gn (ga mem 249) 0)) (c := (999 - (n).toInt)) e5 e7 (fun q8 => ?_) (fun q8 => ?_)
        ·
          refine yR_m 1 (fun _ _ _ _ => rfl) ?_
          refine yR_rz rfl ⟨by decide, by decide⟩ ?_
          show yR zpg tX12_home (d + 14) (26, lo, [.int 0], mem) _
          refine wR_if_eq rfl (a := 0) rfl (fun _ => ?_) (fun q => by exfalso; omega)
          refine yR_m 1 (fun _ _ _ _ => rfl) ?_
          exact yR_ri rfl (h4 q1 q2 q3 y4 e5 x6 e7 q8 hm)
        ·
          refine yR_m 2 (fun _ _ _ _ => rfl) ?_
          refine yR_rz rfl ⟨by decide, by decide⟩ ?_
          show yR zpg tX12_home (d + 14) (26, lo, [.int 1], mem) _
          refine wR_if_eq rfl (a := 1) rfl (fun q => by exfalso; omega) (fun _ => ?_)
          refine wR_la rfl l_0 ?_
          refine yR_m 1 (fun _ _ _ _ => rfl) ?_
          refine wR_li rfl l_1 ?_
          refine wR_iv rfl rfl mO_e hm rfl rfl rfl rfl ?_
          show yR zpg tX12_isHome (d + 13) (0, [(0, .ref 221), (1, .int 1), (2, .int f)], [], mem) _
          refine yR_m 1 (fun _ _ _ _ => rfl) ?_
          refine wR_gr rfl mO_e mO_51 hm ?_
          refine yR_m 2 (fun _ _ _ _ => rfl) ?_
          refine wN_mul (a := 6) (b := 1) rfl rfl rfl (by omega) (fun x9 e10 => ?_)
          refine yR_m 1 (fun _ _ _ _ => rfl) ?_
          refine wN_add (a := ((6 * 1) : Int)) (b := (f).toInt) rfl e10 rfl (by omega) (fun x11 e12 => ?_)
          refine wN_al (a := (((6 * 1) : Int) + (f).toInt)) rfl aR_252 hm rfl e12 (by omega) (fun y13 e14 => ?_)
          refine yR_m 1 (fun _ _ _ _ => rfl) ?_
          refine wR_gr rfl mO_e mO_26 hm ?_
          refine yR_m 2 (fun _ _ _ _ => rfl) ?_
          refine wR_gi rfl mO_e mO_13 hm rfl ?_
          refine wN_mul (a := 6) (b := (gi mem 221 13).toInt) rfl rfl rfl (by omega) (fun x15 e16 => ?_)
          refine yR_m 1 (fun _ _ _ _ => rfl) ?_
          refine wN_add (a := (6 * (gi mem 221 13).toInt)) (b := (f).toInt) rfl e16 rfl (by omega) (fun x17 e18 => ?_)
          refine wN_al (a := ((6 * (gi mem 221 13).toInt) + (f).toInt)) rfl aR_235 hm rfl e18 (by omega) (fun y19 e20 => ?_)
          refine wR_ic_ne rfl (a := (gn (ga mem 252) (((6 * 1) : Int) + (f).toInt))) (c := (gn (ga mem 235) ((6 * (gi mem 221 13).toInt) + (f).toInt))) e14 e20 (fun q21 => ?_) (fun q21 => ?_)
          ·
            refine yR_m 1 (fun _ _ _ _ => rfl) ?_
            refine yR_rz rfl ⟨by decide, by decide⟩ ?_
            show yR zpg tX12_home (d + 14) (35, lo, [.int 0], mem) _
            refine wR_if_eq rfl (a := 0) rfl (fun _ => ?_) (fun q => by exfalso; omega)
            refine wR_la rfl l_0 ?_
            refine yR_m 2 (fun _ _ _ _ => rfl) ?_
            refine wR_cv rfl rfl mO_e hm rfl (h_t1 (Q := Q) (S := S1) (hu := hu) hm hM hW hX (hs1 q8) hH (by omega)) ?_
            rintro _ m22 ⟨v24, rfl, hm22, k23⟩
            show yR zpg tX12_home (d + 14) (46, lo, [.int v24], m22) _
            have rb_m22 := mO_r13 hm22
            refine yR_m 1 (fun _ _ _ _ => rfl) ?_
            refine wN_in (a := (n).toInt) (b := 1) rfl rfl l_2 rfl rfl (by omega) (fun x25 e26 => fun lo27 e28 f29 => ?_)
            have lo27_0 := f29 0 _ (by decide) (Or.inl rfl) l_0
            have lo27_1 := f29 1 _ (by decide) (Or.inl rfl) l_1
            exact yR_m 1 (fun _ _ _ _ => rfl) (h5 q1 q2 q3 y4 e5 x6 e7 q8 x9 e10 x11 e12 y13 e14 x15 e16 x17 e18 y19 e20 q21 v24 m22 hm22 k23 x25 e26 lo27 lo27_0 lo27_1 e28 hm22)
          ·
            refine yR_m 2 (fun _ _ _ _ => rfl) ?_
            refine yR_rz rfl ⟨by decide, by decide⟩ ?_
            show yR zpg tX12_home (d + 14) (35, lo, [.int 1], mem) _
            refine wR_if_eq rfl (a := 1) rfl (fun q => by exfalso; omega) (fun _ => ?_)
            refine wR_li rfl l_2 ?_
            exact yR_ri rfl (h6 q1 q2 q3 y4 e5 x6 e7 q8 x9 e10 x11 e12 y13 e14 x15 e16 x17 e18 y19 e20 q21 hm)

theorem hm_lp {f : Int32} {mr : zM} (hMr : mB Q mr) (hW : WQ Q) (hSr : tM 0 Q hu S mr) (hs : wS Q S) (hH : wH Q hu) (hf : 0 ≤ f.toInt ∧ f.toInt < foN Q) : ∀ (g j : Nat) (n : Int32) (mem : zM) (lo : List (Nat × Value)), j + g = 42 → n.toInt = (j : Int) → j ≤ 41 → X1 Q hu (itS Q hu (-1) j S) mem → (∀ i : Nat, i < j → ¬ Sp (itS Q hu (-1) i S) f.toInt = hoA Q f.toInt) → F1 mr mem → aTm aT0 mem → zlg lo 0 = some (.ref 221) → zlg lo 1 = some (.int f) → zlg lo 2 = some (.int n) → yR zpg tX12_home (d + 14) (18, lo, [], mem) (fun r m => ∃ v : Int32, r = some (.int v) ∧ aTm aT0 m ∧ (F1 mr m ∧ hmA Q hu S f.toInt v.toInt)) := by
  intro g
  induction g with
  | zero =>
    intro j n mem lo hj ek j41
    omega
  | succ g ih =>
    intro j n mem lo hj ek j41 hX hI hF hm l0 l1 l2
    have ef9 : foN Q = ((Qf Q).length : Int) := rfl
    have f9 := hW.2.1.2.1
    have hM := F1_B hF hMr
    have S0 := F1_0 hW hF hSr
    have s0 := S0.1.1
    have c46 := q46 hM
    have a4 : gn (ga mem 252) (6 * 1 + f.toInt) = Sp (itS Q hu (-1) j S) f.toInt := hX.1.2.2.1 f.toInt hf.1 hf.2
    have h5 := (mq_f hM.1 hf.1 hf.2).2
    exact w_hm18 (S1 := itS Q hu (-1) j S) hm l0 l1 l2 hM hW hX (fun z => itS_w (but := -1) (hu := hu) hW hs j (by omega)) hH ⟨by omega, by omega⟩ ⟨hf.1, by omega⟩ 
        (fun q1 hm2 => ⟨_, rfl, hm2, hF, Or.inl ⟨rfl, fun _ i hi => hI i (by have w1 := hi.1; have w2 := hi.2; omega)⟩⟩)
        (fun q1 q2 hm2 => ⟨_, rfl, hm2, hF, Or.inl ⟨rfl, fun _ i hi => hI i (by have w1 := hi.1; have w2 := hi.2; omega)⟩⟩)
        (fun q1 q2 q3 hm2 => ⟨_, rfl, hm2, hF, Or.inl ⟨rfl, fun _ i hi => hI i (by have w1 := hi.1; have w2 := hi.2; omega)⟩⟩)
        (fun q1 q2 q3 y4 e5 x6 e7 q8 hm2 => ⟨_, rfl, hm2, hF, Or.inl ⟨rfl, fun _ i hi => hI i (by have w1 := hi.1; have w2 := hi.2; omega)⟩⟩)
        (fun q1 q2 q3 y4 e5 x6 e7 q8 x9 e10 x11 e12 y13 e14 x15 e16 x17 e18 y19 e20 q21 v24 m22 hm22 k23 x25 e26 lo a0 a1 a2 hm2 => by
        have z := k23
        rw [tm1] at z
        refine ih (j + 1) _ _ lo (by omega) (by rw [e26, ek]; rfl) (by omega) z.2 (fun i hi => ?_) (F1_tr hF z.1) hm2 a0 a1 a2
        by_cases w : i = j
        · rw [w, ← a4, ← h5]
          exact q21
        · exact hI i (by omega))
        (fun q1 q2 q3 y4 e5 x6 e7 q8 x9 e10 x11 e12 y13 e14 x15 e16 x17 e18 y19 e20 q21 hm2 => ⟨_, rfl, hm2, hF, Or.inr ⟨hf, j, ek, ⟨⟨by omega, by omega⟩, by omega, by omega⟩, by rw [← a4, ← h5]; exact q21, hI⟩⟩)
theorem h_hm {f : Int32} (hm : aTm aT0 mem) (hM : mB Q mem) (hW : WQ Q) (hS : tM 0 Q hu S mem) (hs : wS Q S) (hH : wH Q hu) (hK : kM 0 K mem) (hd : 15 ≤ d) : yC zpg d 248 [.ref 221, .int f] mem (fun r m => ∃ v : Int32, r = some (.int v) ∧ aTm aT0 m ∧ (F1 mem m ∧ hmA Q hu S f.toInt v.toInt)) := by
  obtain ⟨d, rfl⟩ : ∃ q, d = q + 15 := ⟨d - 15, by omega⟩
  have mf := hM.1.2.2.2.2.1.1
  have ef9 : foN Q = ((Qf Q).length : Int) := rfl
  refine yC_of (t := tX12_home) rfl rfl ?_
  exact w_hm0 (S := S) (K := K) (hu := hu) hm rfl rfl hM hW hS hs hH hK 
        (fun q1 hm2 => ⟨_, rfl, hm2, F1_rf, Or.inl ⟨rfl, fun w => by exfalso; omega⟩⟩)
        (fun q1 y2 e3 q4 hm2 => ⟨_, rfl, hm2, F1_rf, Or.inl ⟨rfl, fun w => by exfalso; omega⟩⟩)
        (fun q1 y2 e3 q4 m5 hm5 k6 lo a0 a1 a2 hm2 => hm_lp (S := S) (F1_B F1_rf hM) hW hS hs hH ⟨by omega, by omega⟩ 42 0 0 _ lo rfl rfl (by decide) k6.2 (fun i hi => absurd hi (Nat.not_lt_zero i)) k6.1 hm2 a0 a1 a2)
set_option maxRecDepth 100000 in
theorem w_ta0 {d : Nat} {mem : zM} {P : Option Value → zM → Prop} {se : Int32} {lo : List (Nat × Value)} (hm : aTm aT0 mem) (l_0 : zlg lo 0 = some (.ref 221)) (l_1 : zlg lo 1 = some (.int se)) (h1 : ∀ lo, zlg lo 0 = some (.ref 221) → zlg lo 1 = some (.int se) → zlg lo 2 = some (.int 0) → aTm aT0 mem → yR zpg tX12_turnsAll (d + 5) (2, lo, [], mem) P) : yR zpg tX12_turnsAll (d + 5) (0, lo, [], mem) P := by
  refine yR_m 1 (fun _ _ _ _ => rfl) ?_
  refine wR_si rfl rfl (fun lo1 e2 f3 => ?_)
  have lo1_0 := f3 0 _ (by decide) (Or.inl rfl) l_0
  have lo1_1 := f3 1 _ (by decide) (Or.inl rfl) l_1
  exact h1 lo1 lo1_0 lo1_1 e2 hm

set_option maxRecDepth 100000 in
theorem w_ta2 {d : Nat} {mem : zM} {P : Option Value → zM → Prop} {se k : Int32} {lo : List (Nat × Value)} (hm : aTm aT0 mem) (l_0 : zlg lo 0 = some (.ref 221)) (l_1 : zlg lo 1 = some (.int se)) (l_2 : zlg lo 2 = some (.int k)) {Q : Qd} {S : Sd} {hu : Int → Int} (hM : mB Q mem) (hW : WQ Q) (hX : X1 Q hu S mem) (hk : 0 ≤ k.toInt ∧ k.toInt ≤ 9) (h1 : ∀ (y1 : Int32), y1.toInt = (gn (ga mem 228) (gi mem 221 13).toInt) → (gn (ga mem 228) (gi mem 221 13).toInt) ≤ (k).toInt → aTm aT0 mem → P none mem) (h2 : ∀ (y1 : Int32), y1.toInt = (gn (ga mem 228) (gi mem 221 13).toInt) → (k).toInt < (gn (ga mem 228) (gi mem 221 13).toInt) → ¬ ((se >>> (k &&& 31)) &&& 1).toInt = 1 → ∀ (x5 : Int32), x5.toInt = ((k).toInt + 1) → ∀ lo, zlg lo 0 = some (.ref 221) → zlg lo 1 = some (.int se) → zlg lo 2 = some (.int x5) → aTm aT0 mem → yR zpg tX12_turnsAll (d + 5) (2, lo, [], mem) P) (h3 : ∀ (y1 : Int32), y1.toInt = (gn (ga mem 228) (gi mem 221 13).toInt) → (k).toInt < (gn (ga mem 228) (gi mem 221 13).toInt) → ((se >>> (k &&& 31)) &&& 1).toInt = 1 → ∀ (m10 : zM), aTm aT0 m10 → (F1 mem m10 ∧ X1 Q hu (tnS S k) m10) → ∀ (x12 : Int32), x12.toInt = ((k).toInt + 1) → ∀ lo, zlg lo 0 = some (.ref 221) → zlg lo 1 = some (.int se) → zlg lo 2 = some (.int x12) → aTm aT0 m10 → yR zpg tX12_turnsAll (d + 5) (2, lo, [], m10) P) : yR zpg tX12_turnsAll (d + 5) (2, lo, [], mem) P := by
  have rb := mO_r13 hm
  have mt := hM.1.2.2.1.1
  have t9 := hW.2.1.1
  refine wR_li rfl l_2 ?_
  refine wR_la rfl l_0 ?_
  refine wR_gr rfl mO_e mO_19 hm ?_
  refine wR_la rfl l_0 ?_
  refine wR_gi rfl mO_e mO_13 hm rfl ?_
  refine wN_al (a := (gi mem 221 13).toInt) rfl aR_228 hm rfl rfl (by omega) (fun y1 e2 => ?_)
  refine wR_ic_ge rfl (a := (k).toInt) (c := (gn (ga mem 228) (gi mem 221 13).toInt)) rfl e2 (fun q3 => ?_) (fun q3 => ?_)
  ·
    exact yR_rv rfl (h1 y1 e2 q3 hm)
  ·
    refine wR_li rfl l_1 ?_
    refine wR_li rfl l_2 ?_
    refine wR_is rfl rfl rfl rfl rfl rfl ?_
    show yR zpg tX12_has2 (d + 4) (0, [(0, .int se), (1, .int k)], [], mem) _
    refine yR_m 6 (fun _ _ _ _ => rfl) ?_
    refine wR_ic_ne rfl (a := ((se >>> (k &&& 31)) &&& 1).toInt) (c := 1) rfl rfl (fun q4 => ?_) (fun q4 => ?_)
    ·
      refine yR_m 1 (fun _ _ _ _ => rfl) ?_
      refine yR_rz rfl ⟨by decide, by decide⟩ ?_
      show yR zpg tX12_turnsAll (d + 5) (20, lo, [.int 0], mem) _
      refine wR_if_eq rfl (a := 0) rfl (fun _ => ?_) (fun q => by exfalso; omega)
      refine wN_in (a := (k).toInt) (b := 1) rfl rfl l_2 rfl rfl (by omega) (fun x5 e6 => fun lo7 e8 f9 => ?_)
      have lo7_0 := f9 0 _ (by decide) (Or.inl rfl) l_0
      have lo7_1 := f9 1 _ (by decide) (Or.inl rfl) l_1
      exact yR_m 1 (fun _ _ _ _ => rfl) (h2 y1 e2 q3 q4 x5 e6 lo7 lo7_0 lo7_1 e8 hm)
    ·
      refine yR_m 2 (fun _ _ _ _ => rfl) ?_
      refine yR_rz rfl ⟨by decide, by decide⟩ ?_
      show yR zpg tX12_turnsAll (d + 5) (20, lo, [.int 1], mem) _
      refine wR_if_eq rfl (a := 1) rfl (fun q => by exfalso; omega) (fun _ => ?_)
      refine wR_la rfl l_0 ?_
      refine yR_m 1 (fun _ _ _ _ => rfl) ?_
      refine wR_li rfl l_2 ?_
      refine wR_cv rfl rfl mO_e hm rfl (h_v1 (Q := Q) (S := S) (hu := hu) hm hW hX (by omega) (by omega)) ?_
      rintro _ m10 ⟨rfl, hm10, k11⟩
      show yR zpg tX12_turnsAll (d + 5) (29, lo, [], m10) _
      have rb_m10 := mO_r13 hm10
      refine wN_in (a := (k).toInt) (b := 1) rfl rfl l_2 rfl rfl (by omega) (fun x12 e13 => fun lo14 e15 f16 => ?_)
      have lo14_0 := f16 0 _ (by decide) (Or.inl rfl) l_0
      have lo14_1 := f16 1 _ (by decide) (Or.inl rfl) l_1
      exact yR_m 1 (fun _ _ _ _ => rfl) (h3 y1 e2 q3 q4 m10 hm10 k11 x12 e13 lo14 lo14_0 lo14_1 e15 hm10)

theorem ta_lp {se : Int32} {mr : zM} (hMr : mB Q mr) (hW : WQ Q) : ∀ (g : Nat) (k : Int32) (S : Sd) (mem : zM) (lo : List (Nat × Value)), k.toInt + (g : Int) = 10 → 0 ≤ k.toInt → k.toInt ≤ 9 → X1 Q hu S mem → wS Q S → F1 mr mem → aTm aT0 mem → zlg lo 0 = some (.ref 221) → zlg lo 1 = some (.int se) → zlg lo 2 = some (.int k) → yR zpg tX12_turnsAll (d + 5) (2, lo, [], mem) (fun r m => r = none ∧ aTm aT0 m ∧ (F1 mr m ∧ ∃ S1, X1 Q hu S1 m ∧ wS Q S1 ∧ Sn S1 = Sn S)) := by
  intro g
  induction g with
  | zero =>
    intro k S mem lo hg k0 k9
    omega
  | succ g ih =>
    intro k S mem lo hg k0 k9 hX hs hF hm l0 l1 l2
    have hM := F1_B hF hMr
    have mt := hM.1.2.2.1.1
    have e9 : thN Q = ((Qt Q).length : Int) := rfl
    have t9 := hW.2.1.1
    exact w_ta2 (S := S) hm l0 l1 l2 hM hW hX ⟨k0, k9⟩ 
        (fun y1 e2 q3 hm2 => ⟨rfl, hm2, hF, S, hX, hs, rfl⟩)
        (fun y1 e2 q3 q4 x5 e6 lo a0 a1 a2 hm2 => ih _ S _ lo (by omega) (by omega) (by omega) hX hs hF hm2 a0 a1 a2)
        (fun y1 e2 q3 q4 m10 hm10 k11 x12 e13 lo a0 a1 a2 hm2 => ih _ (tnS S k) _ lo (by omega) (by omega) (by omega) k11.2 (tnS_w hW hs k0 (by omega)) (F1_tr hF k11.1) hm2 a0 a1 a2)
theorem h_ta {se : Int32} (hm : aTm aT0 mem) (hM : mB Q mem) (hW : WQ Q) (hX : X1 Q hu S mem) (hs : wS Q S) (hd : 6 ≤ d) : yC zpg d 250 [.ref 221, .int se] mem (fun r m => r = none ∧ aTm aT0 m ∧ (F1 mem m ∧ ∃ S1, X1 Q hu S1 m ∧ wS Q S1 ∧ Sn S1 = Sn S)) := by
  obtain ⟨d, rfl⟩ : ∃ q, d = q + 6 := ⟨d - 6, by omega⟩
  refine yC_of (t := tX12_turnsAll) rfl rfl ?_
  exact w_ta0 hm rfl rfl (fun lo a0 a1 a2 hm2 => ta_lp hM hW 10 0 S _ lo rfl (by decide) (by decide) hX hs F1_rf hm2 a0 a1 a2)
theorem h_rw {n : Int32} (hm : aTm aT0 mem) (hM : mB Q mem) (hW : WQ Q) (hX : ∃ S1, X1 Q hu S1 mem ∧ wS Q S1 ∧ Sn S1 = Sn S) (hH : wH Q hu) (hn : 0 ≤ n.toInt ∧ n.toInt ≤ 40) (h9 : Sn S + n.toInt ≤ 999) (hd : 13 ≤ d) : yC zpg d 246 [.ref 221, .int n] mem (fun r m => r = none ∧ aTm aT0 m ∧ (F1 mem m ∧ ∃ S1, X1 Q hu S1 m)) := by
  obtain ⟨S1, h1, h2, h3⟩ := hX
  refine yC_mono (fun r m q => ?_) (h_ro hm hM hW h1 h2 hH hn (by omega) hd)
  exact ⟨q.1, q.2.1, q.2.2.1, _, q.2.2.2⟩
set_option maxRecDepth 100000 in
theorem w_ho0 {d : Nat} {mem : zM} {P : Option Value → zM → Prop} {v : Int32} {lo : List (Nat × Value)} (hm : aTm aT0 mem) (l_0 : zlg lo 0 = some (.ref 221)) (l_1 : zlg lo 1 = some (.int v)) (h1 : ∀ lo, zlg lo 0 = some (.ref 221) → zlg lo 1 = some (.int v) → zlg lo 2 = some (.int 0) → zlg lo 3 = some (.int 0) → aTm aT0 mem → yR zpg tX12_homes (d + 2) (4, lo, [], mem) P) : yR zpg tX12_homes (d + 2) (0, lo, [], mem) P := by
  refine yR_m 1 (fun _ _ _ _ => rfl) ?_
  refine wR_si rfl rfl (fun lo1 e2 f3 => ?_)
  have lo1_0 := f3 0 _ (by decide) (Or.inl rfl) l_0
  have lo1_1 := f3 1 _ (by decide) (Or.inl rfl) l_1
  refine yR_m 1 (fun _ _ _ _ => rfl) ?_
  refine wR_si rfl rfl (fun lo4 e5 f6 => ?_)
  have lo4_2 := f6 2 _ (by decide) (Or.inl rfl) e2
  have lo4_0 := f6 0 _ (by decide) (Or.inl rfl) lo1_0
  have lo4_1 := f6 1 _ (by decide) (Or.inl rfl) lo1_1
  exact h1 lo4 lo4_0 lo4_1 lo4_2 e5 hm

set_option maxRecDepth 100000 in
theorem w_ho4 {d : Nat} {mem : zM} {P : Option Value → zM → Prop} {v n k : Int32} {lo : List (Nat × Value)} (hm : aTm aT0 mem) (l_0 : zlg lo 0 = some (.ref 221)) (l_1 : zlg lo 1 = some (.int v)) (l_2 : zlg lo 2 = some (.int n)) (l_3 : zlg lo 3 = some (.int k)) (hv : 0 ≤ v.toInt ∧ v.toInt ≤ 21) (hk : 0 ≤ k.toInt ∧ k.toInt ≤ 6) (hn : 0 ≤ n.toInt ∧ n.toInt ≤ k.toInt) (f6 : gn (ga mem 233) (gi mem 221 13).toInt ≤ 6) (h1 : ∀ (y1 : Int32), y1.toInt = (gn (ga mem 233) (gi mem 221 13).toInt) → (gn (ga mem 233) (gi mem 221 13).toInt) ≤ (k).toInt → aTm aT0 mem → P (some (.int n)) mem) (h2 : ∀ (y1 : Int32), y1.toInt = (gn (ga mem 233) (gi mem 221 13).toInt) → (k).toInt < (gn (ga mem 233) (gi mem 221 13).toInt) → ∀ (x4 : Int32), x4.toInt = (6 * (v).toInt) → ∀ (x6 : Int32), x6.toInt = ((6 * (v).toInt) + (k).toInt) → ∀ (y8 : Int32), y8.toInt = (gn (ga mem 252) ((6 * (v).toInt) + (k).toInt)) → ∀ (x10 : Int32), x10.toInt = (6 * (gi mem 221 13).toInt) → ∀ (x12 : Int32), x12.toInt = ((6 * (gi mem 221 13).toInt) + (k).toInt) → ∀ (y14 : Int32), y14.toInt = (gn (ga mem 235) ((6 * (gi mem 221 13).toInt) + (k).toInt)) → ¬ (gn (ga mem 252) ((6 * (v).toInt) + (k).toInt)) = (gn (ga mem 235) ((6 * (gi mem 221 13).toInt) + (k).toInt)) → ∀ (x17 : Int32), x17.toInt = ((n).toInt + 0) → ∀ (x22 : Int32), x22.toInt = ((k).toInt + 1) → ∀ lo, zlg lo 0 = some (.ref 221) → zlg lo 1 = some (.int v) → zlg lo 2 = some (.int x17) → zlg lo 3 = some (.int x22) → aTm aT0 mem → yR zpg tX12_homes (d + 2) (4, lo, [], mem) P) (h3 : ∀ (y1 : Int32), y1.toInt = (gn (ga mem 233) (gi mem 221 13).toInt) → (k).toInt < (gn (ga mem 233) (gi mem 221 13).toInt) → ∀ (x4 : Int32), x4.toInt = (6 * (v).toInt) → ∀ (x6 : Int32), x6.toInt = ((6 * (v).toInt) + (k).toInt) → ∀ (y8 : Int32), y8.toInt = (gn (ga mem 252) ((6 * (v).toInt) + (k).toInt)) → ∀ (x10 : Int32), x10.toInt = (6 * (gi mem 221 13).toInt) → ∀ (x12 : Int32), x12.toInt = ((6 * (gi mem 221 13).toInt) + (k).toInt) → ∀ (y14 : Int32), y14.toInt = (gn (ga mem 235) ((6 * (gi mem 221 13).toInt) + (k).toInt)) → (gn (ga mem 252) ((6 * (v).toInt) + (k).toInt)) = (gn (ga mem 235) ((6 * (gi mem 221 13).toInt) + (k).toInt)) → ∀ (x27 : Int32), x27.toInt = ((n).toInt + 1) → ∀ (x32 : Int32), x32.toInt = ((k).toInt + 1) → ∀ lo, zlg lo 0 = some (.ref 221) → zlg lo 1 = some (.int v) → zlg lo 2 = some (.int x27) → zlg lo 3 = some (.int x32) → aTm aT0 mem → yR zpg tX12_homes (d + 2) (4, lo, [], mem) P) : yR zpg tX12_homes (d + 2) (4, lo, [], mem) P := by
  have rb := mO_r13 hm
  refine wR_li rfl l_3 ?_
  refine wR_la rfl l_0 ?_
  refine wR_gr rfl mO_e mO_24 hm ?_
  refine wR_la rfl l_0 ?_
  refine wR_gi rfl mO_e mO_13 hm rfl ?_
  refine wN_al (a := (gi mem 221 13).toInt) rfl aR_233 hm rfl rfl (by omega) (fun y1 e2 => ?_)
  refine wR_ic_ge rfl (a := (k).toInt) (c := (gn (ga mem 233) (gi mem 221 13).toInt)) rfl e2 (fun q3 => ?_) (fun q3 => ?_)
  ·
    refine wR_li rfl l_2 ?_
    exact yR_ri rfl (h1 y1 e2 q3 hm)
  ·
    refine wR_li rfl l_2 ?_
    refine wR_la rfl l_0 ?_
    refine wR_li rfl l_1 ?_
    refine wR_li rfl l_3 ?_
    refine wR_iv rfl rfl mO_e hm rfl rfl rfl rfl ?_
    show yR zpg tX12_isHome (d + 1) (0, [(0, .ref 221), (1, .int v), (2, .int k)], [], mem) _
    refine yR_m 1 (fun _ _ _ _ => rfl) ?_
    refine wR_gr rfl mO_e mO_51 hm ?_
    refine yR_m 2 (fun _ _ _ _ => rfl) ?_
    refine wN_mul (a := 6) (b := (v).toInt) rfl rfl rfl (by omega) (fun x4 e5 => ?_)
    refine yR_m 1 (fun _ _ _ _ => rfl) ?_
    refine wN_add (a := (6 * (v).toInt)) (b := (k).toInt) rfl e5 rfl (by omega) (fun x6 e7 => ?_)
    refine wN_al (a := ((6 * (v).toInt) + (k).toInt)) rfl aR_252 hm rfl e7 (by omega) (fun y8 e9 => ?_)
    refine yR_m 1 (fun _ _ _ _ => rfl) ?_
    refine wR_gr rfl mO_e mO_26 hm ?_
    refine yR_m 2 (fun _ _ _ _ => rfl) ?_
    refine wR_gi rfl mO_e mO_13 hm rfl ?_
    refine wN_mul (a := 6) (b := (gi mem 221 13).toInt) rfl rfl rfl (by omega) (fun x10 e11 => ?_)
    refine yR_m 1 (fun _ _ _ _ => rfl) ?_
    refine wN_add (a := (6 * (gi mem 221 13).toInt)) (b := (k).toInt) rfl e11 rfl (by omega) (fun x12 e13 => ?_)
    refine wN_al (a := ((6 * (gi mem 221 13).toInt) + (k).toInt)) rfl aR_235 hm rfl e13 (by omega) (fun y14 e15 => ?_)
    refine wR_ic_ne rfl (a := (gn (ga mem 252) ((6 * (v).toInt) + (k).toInt))) (c := (gn (ga mem 235) ((6 * (gi mem 221 13).toInt) + (k).toInt))) e9 e15 (fun q16 => ?_) (fun q16 => ?_)
    ·
      refine yR_m 1 (fun _ _ _ _ => rfl) ?_
      refine yR_rz rfl ⟨by decide, by decide⟩ ?_
      show yR zpg tX12_homes (d + 2) (24, lo, [.int 0, .int n], mem) _
      refine wR_if_eq rfl (a := 0) rfl (fun _ => ?_) (fun q => by exfalso; omega)
      refine yR_m 1 (fun _ _ _ _ => rfl) ?_
      refine wN_add (a := (n).toInt) (b := 0) rfl rfl rfl (by omega) (fun x17 e18 => ?_)
      refine wR_si rfl rfl (fun lo19 e20 f21 => ?_)
      have lo19_0 := f21 0 _ (by decide) (Or.inl rfl) l_0
      have lo19_1 := f21 1 _ (by decide) (Or.inl rfl) l_1
      have lo19_3 := f21 3 _ (by decide) (Or.inl rfl) l_3
      refine wN_in (a := (k).toInt) (b := 1) rfl rfl lo19_3 rfl rfl (by omega) (fun x22 e23 => fun lo24 e25 f26 => ?_)
      have lo24_2 := f26 2 _ (by decide) (Or.inl rfl) e20
      have lo24_0 := f26 0 _ (by decide) (Or.inl rfl) lo19_0
      have lo24_1 := f26 1 _ (by decide) (Or.inl rfl) lo19_1
      exact yR_m 1 (fun _ _ _ _ => rfl) (h2 y1 e2 q3 x4 e5 x6 e7 y8 e9 x10 e11 x12 e13 y14 e15 q16 x17 e18 x22 e23 lo24 lo24_0 lo24_1 lo24_2 e25 hm)
    ·
      refine yR_m 2 (fun _ _ _ _ => rfl) ?_
      refine yR_rz rfl ⟨by decide, by decide⟩ ?_
      show yR zpg tX12_homes (d + 2) (24, lo, [.int 1, .int n], mem) _
      refine wR_if_eq rfl (a := 1) rfl (fun q => by exfalso; omega) (fun _ => ?_)
      refine yR_m 2 (fun _ _ _ _ => rfl) ?_
      refine wN_add (a := (n).toInt) (b := 1) rfl rfl rfl (by omega) (fun x27 e28 => ?_)
      refine wR_si rfl rfl (fun lo29 e30 f31 => ?_)
      have lo29_0 := f31 0 _ (by decide) (Or.inl rfl) l_0
      have lo29_1 := f31 1 _ (by decide) (Or.inl rfl) l_1
      have lo29_3 := f31 3 _ (by decide) (Or.inl rfl) l_3
      refine wN_in (a := (k).toInt) (b := 1) rfl rfl lo29_3 rfl rfl (by omega) (fun x32 e33 => fun lo34 e35 f36 => ?_)
      have lo34_2 := f36 2 _ (by decide) (Or.inl rfl) e30
      have lo34_0 := f36 0 _ (by decide) (Or.inl rfl) lo29_0
      have lo34_1 := f36 1 _ (by decide) (Or.inl rfl) lo29_1
      exact yR_m 1 (fun _ _ _ _ => rfl) (h3 y1 e2 q3 x4 e5 x6 e7 y8 e9 x10 e11 x12 e13 y14 e15 q16 x27 e28 x32 e33 lo34 lo34_0 lo34_1 lo34_2 e35 hm)

theorem ho_lp {v : Int32} (hm : aTm aT0 mem) (hv : 0 ≤ v.toInt ∧ v.toInt ≤ 21) (f6 : gn (ga mem 233) (gi mem 221 13).toInt ≤ 6) : ∀ (g : Nat) (n k : Int32) (lo : List (Nat × Value)), k.toInt + (g : Int) = 7 → 0 ≤ k.toInt → k.toInt ≤ 6 → 0 ≤ n.toInt → n.toInt ≤ k.toInt → zlg lo 0 = some (.ref 221) → zlg lo 1 = some (.int v) → zlg lo 2 = some (.int n) → zlg lo 3 = some (.int k) → yR zpg tX12_homes (d + 2) (4, lo, [], mem) (fun r m => ∃ w : Int32, r = some (.int w) ∧ mem = m ∧ (0 ≤ w.toInt ∧ w.toInt ≤ 6)) := by
  intro g
  induction g with
  | zero =>
    intro n k lo hg k0 k6
    omega
  | succ g ih =>
    intro n k lo hg k0 k6 n0 n1 l0 l1 l2 l3
    exact w_ho4 hm l0 l1 l2 l3 hv ⟨k0, k6⟩ ⟨n0, n1⟩ f6 
        (fun y1 e2 q3 hm2 => ⟨_, rfl, rfl, by omega, by omega⟩)
        (fun y1 e2 q3 x4 e5 x6 e7 y8 e9 x10 e11 x12 e13 y14 e15 q16 x17 e18 x22 e23 lo a0 a1 a2 a3 hm2 => ih _ _ lo (by omega) (by omega) (by omega) (by omega) (by omega) a0 a1 a2 a3)
        (fun y1 e2 q3 x4 e5 x6 e7 y8 e9 x10 e11 x12 e13 y14 e15 q16 x27 e28 x32 e33 lo a0 a1 a2 a3 hm2 => ih _ _ lo (by omega) (by omega) (by omega) (by omega) (by omega) a0 a1 a2 a3)
theorem h_ho {v : Int32} (hm : aTm aT0 mem) (hv : 0 ≤ v.toInt ∧ v.toInt ≤ 21) (hd : 3 ≤ d) : yC zpg d 238 [.ref 221, .int v] mem (fun r m => ∃ w : Int32, r = some (.int w) ∧ mem = m ∧ (0 ≤ w.toInt ∧ w.toInt ≤ 6)) := by
  obtain ⟨d, rfl⟩ : ∃ q, d = q + 3 := ⟨d - 3, by omega⟩
  have rb := mO_r13 hm
  have f6 := gR_233 hm (i := (gi mem 221 13).toInt) rb.1 (by omega)
  refine yC_of (t := tX12_homes) rfl rfl ?_
  exact w_ho0 hm rfl rfl (fun lo a0 a1 a2 a3 hm2 => ho_lp hm hv f6.2 7 0 0 lo rfl (by decide) (by decide) (by decide) (by decide) a0 a1 a2 a3)
theorem sh_512 {y : Int32} (y0 : 0 ≤ y.toInt ∧ y.toInt ≤ 9) : ((1 : Int32) <<< (y &&& 31)).toInt ≤ 512 := by
  have z : ∀ N : Fin 10, ((1 : Int32) <<< (Int32.ofNat N.val &&& 31)).toInt ≤ 512 := by decide
  have e := i32_of y0.1
  have q := z ⟨y.toInt.toNat, by omega⟩
  rw [← e] at q
  exact q
set_option maxRecDepth 100000 in
theorem w_ls0 {d : Nat} {mem : zM} {P : Option Value → zM → Prop} {f n : Int32} {lo : List (Nat × Value)} (hm : aTm aT0 mem) (l_0 : zlg lo 0 = some (.ref 221)) (l_1 : zlg lo 1 = some (.int f)) (l_2 : zlg lo 2 = some (.int n)) {Q : Qd} {S : Sd} {K : Kd} {hu : Int → Int} (hM : mB Q mem) (hW : WQ Q) (hS : tM 0 Q hu S mem) (hs : wS Q S) (hH : wH Q hu) (hK : kM 0 K mem) (h1 : (f).toInt < 0 → aTm aT0 mem → P (some (.int (-1))) mem) (h2 : 0 ≤ (f).toInt → ∀ (y2 : Int32), y2.toInt = (gn (ga mem 233) (gi mem 221 13).toInt) → (gn (ga mem 233) (gi mem 221 13).toInt) ≤ (f).toInt → aTm aT0 mem → P (some (.int (-1))) mem) (h3 : 0 ≤ (f).toInt → ∀ (y2 : Int32), y2.toInt = (gn (ga mem 233) (gi mem 221 13).toInt) → (f).toInt < (gn (ga mem 233) (gi mem 221 13).toInt) → (gi mem 221 46).toInt = 0 → aTm aT0 mem → P (some (.int (-1))) mem) (h4 : 0 ≤ (f).toInt → ∀ (y2 : Int32), y2.toInt = (gn (ga mem 233) (gi mem 221 13).toInt) → (f).toInt < (gn (ga mem 233) (gi mem 221 13).toInt) → ¬ (gi mem 221 46).toInt = 0 → (n).toInt < 0 → aTm aT0 mem → P (some (.int (-1))) mem) (h5 : 0 ≤ (f).toInt → ∀ (y2 : Int32), y2.toInt = (gn (ga mem 233) (gi mem 221 13).toInt) → (f).toInt < (gn (ga mem 233) (gi mem 221 13).toInt) → ¬ (gi mem 221 46).toInt = 0 → 0 ≤ (n).toInt → 20 < (n).toInt → aTm aT0 mem → P (some (.int (-1))) mem) (h6 : 0 ≤ (f).toInt → ∀ (y2 : Int32), y2.toInt = (gn (ga mem 233) (gi mem 221 13).toInt) → (f).toInt < (gn (ga mem 233) (gi mem 221 13).toInt) → ¬ (gi mem 221 46).toInt = 0 → 0 ≤ (n).toInt → (n).toInt ≤ 20 → ∀ (y8 : Int32), y8.toInt = (gn (ga mem 249) 0) → ∀ (x10 : Int32), x10.toInt = (999 - (n).toInt) → (999 - (n).toInt) < (gn (ga mem 249) 0) → aTm aT0 mem → P (some (.int (-1))) mem) (h7 : 0 ≤ (f).toInt → ∀ (y2 : Int32), y2.toInt = (gn (ga mem 233) (gi mem 221 13).toInt) → (f).toInt < (gn (ga mem 233) (gi mem 221 13).toInt) → ¬ (gi mem 221 46).toInt = 0 → 0 ≤ (n).toInt → (n).toInt ≤ 20 → ∀ (y8 : Int32), y8.toInt = (gn (ga mem 249) 0) → ∀ (x10 : Int32), x10.toInt = (999 - (n).toInt) → (gn (ga mem 249) 0) ≤ (999 - (n).toInt) → ∀ lo, zlg lo 0 = some (.ref 221) → zlg lo 1 = some (.int f) → zlg lo 2 = some (.int n) → zlg lo 3 = some (.int (-1)) → zlg lo 4 = some (.int 0) → aTm aT0 mem → yR zpg tX12_losses (d + 15) (26, lo, [], mem) P) : yR zpg tX12_losses (d + 15) (0, lo, [], mem) P := by
  have s0 := hS.1.1
  have s9 := hs.1
  have rb := mO_r13 hm
  have mt := hM.1.2.2.1.1
  have t9 := hW.2.1.1
  have e9 : thN Q = ((Qt Q).length : Int) := rfl
  have mf := hM.1.2.2.2.2.1.1
  have f9 := hW.2.1.2.1
  have ef9 : foN Q = ((Qf Q).length : Int) := rfl
  refine wR_la rfl l_0 ?_
  refine wR_li rfl l_1 ?_
  refine wR_iv rfl rfl mO_e hm rfl rfl rfl rfl ?_
  show yR zpg tX12_isFolk (d + 14) (0, [(0, .ref 221), (1, .int f)], [], mem) _
  refine yR_m 1 (fun _ _ _ _ => rfl) ?_
  refine wR_if_lt rfl (a := (f).toInt) rfl (fun q1 => ?_) (fun q1 => ?_)
  ·
    refine yR_m 1 (fun _ _ _ _ => rfl) ?_
    refine yR_rz rfl ⟨by decide, by decide⟩ ?_
    show yR zpg tX12_losses (d + 15) (5, lo, [.int 0], mem) _
    refine wR_if_eq rfl (a := 0) rfl (fun _ => ?_) (fun q => by exfalso; omega)
    refine yR_m 1 (fun _ _ _ _ => rfl) ?_
    exact yR_ri rfl (h1 q1 hm)
  ·
    refine yR_m 2 (fun _ _ _ _ => rfl) ?_
    refine wR_gr rfl mO_e mO_24 hm ?_
    refine yR_m 1 (fun _ _ _ _ => rfl) ?_
    refine wR_gi rfl mO_e mO_13 hm rfl ?_
    refine wN_al (a := (gi mem 221 13).toInt) rfl aR_233 hm rfl rfl (by omega) (fun y2 e3 => ?_)
    refine wR_ic_ge rfl (a := (f).toInt) (c := (gn (ga mem 233) (gi mem 221 13).toInt)) rfl e3 (fun q4 => ?_) (fun q4 => ?_)
    ·
      refine yR_m 1 (fun _ _ _ _ => rfl) ?_
      refine yR_rz rfl ⟨by decide, by decide⟩ ?_
      show yR zpg tX12_losses (d + 15) (5, lo, [.int 0], mem) _
      refine wR_if_eq rfl (a := 0) rfl (fun _ => ?_) (fun q => by exfalso; omega)
      refine yR_m 1 (fun _ _ _ _ => rfl) ?_
      exact yR_ri rfl (h2 q1 y2 e3 q4 hm)
    ·
      refine yR_m 2 (fun _ _ _ _ => rfl) ?_
      refine yR_rz rfl ⟨by decide, by decide⟩ ?_
      show yR zpg tX12_losses (d + 15) (5, lo, [.int 1], mem) _
      refine wR_if_eq rfl (a := 1) rfl (fun q => by exfalso; omega) (fun _ => ?_)
      refine wR_la rfl l_0 ?_
      refine wR_li rfl l_2 ?_
      refine yR_m 2 (fun _ _ _ _ => rfl) ?_
      refine wR_iv rfl rfl mO_e hm rfl rfl rfl rfl ?_
      show yR zpg tX12_isAhead (d + 14) (0, [(0, .ref 221), (1, .int n), (2, .int 0), (3, .int 20)], [], mem) _
      refine yR_m 1 (fun _ _ _ _ => rfl) ?_
      refine wR_gi rfl mO_e mO_46 hm rfl ?_
      refine wR_if_eq rfl (a := (gi mem 221 46).toInt) rfl (fun q5 => ?_) (fun q5 => ?_)
      ·
        refine yR_m 1 (fun _ _ _ _ => rfl) ?_
        refine yR_rz rfl ⟨by decide, by decide⟩ ?_
        show yR zpg tX12_losses (d + 15) (16, lo, [.int 0], mem) _
        refine wR_if_ne rfl (a := 0) rfl (fun q => by exfalso; omega) (fun _ => ?_)
        refine yR_m 1 (fun _ _ _ _ => rfl) ?_
        exact yR_ri rfl (h3 q1 y2 e3 q4 q5 hm)
      ·
        refine yR_m 3 (fun _ _ _ _ => rfl) ?_
        refine wR_is rfl rfl rfl rfl rfl rfl ?_
        show yR zpg tX12_is (d + 13) (0, [(0, .int n), (1, .int 0), (2, .int 20)], [], mem) _
        refine yR_m 2 (fun _ _ _ _ => rfl) ?_
        refine wR_ic_lt rfl (a := (n).toInt) (c := 0) rfl rfl (fun q6 => ?_) (fun q6 => ?_)
        ·
          refine yR_m 1 (fun _ _ _ _ => rfl) ?_
          refine yR_rz rfl ⟨by decide, by decide⟩ ?_
          show yR zpg tX12_isAhead (d + 14) (13, [(0, .ref 221), (1, .int n), (2, .int 0), (3, .int 20)], [.int 0], mem) _
          refine wR_if_eq rfl (a := 0) rfl (fun _ => ?_) (fun q => by exfalso; omega)
          refine yR_m 1 (fun _ _ _ _ => rfl) ?_
          refine yR_rz rfl ⟨by decide, by decide⟩ ?_
          show yR zpg tX12_losses (d + 15) (16, lo, [.int 0], mem) _
          refine wR_if_ne rfl (a := 0) rfl (fun q => by exfalso; omega) (fun _ => ?_)
          refine yR_m 1 (fun _ _ _ _ => rfl) ?_
          exact yR_ri rfl (h4 q1 y2 e3 q4 q5 q6 hm)
        ·
          refine yR_m 2 (fun _ _ _ _ => rfl) ?_
          refine wR_ic_gt rfl (a := (n).toInt) (c := 20) rfl rfl (fun q7 => ?_) (fun q7 => ?_)
          ·
            refine yR_m 1 (fun _ _ _ _ => rfl) ?_
            refine yR_rz rfl ⟨by decide, by decide⟩ ?_
            show yR zpg tX12_isAhead (d + 14) (13, [(0, .ref 221), (1, .int n), (2, .int 0), (3, .int 20)], [.int 0], mem) _
            refine wR_if_eq rfl (a := 0) rfl (fun _ => ?_) (fun q => by exfalso; omega)
            refine yR_m 1 (fun _ _ _ _ => rfl) ?_
            refine yR_rz rfl ⟨by decide, by decide⟩ ?_
            show yR zpg tX12_losses (d + 15) (16, lo, [.int 0], mem) _
            refine wR_if_ne rfl (a := 0) rfl (fun q => by exfalso; omega) (fun _ => ?_)
            refine yR_m 1 (fun _ _ _ _ => rfl) ?_
            exact yR_ri rfl (h5 q1 y2 e3 q4 q5 q6 q7 hm)
          ·
            refine yR_m 2 (fun _ _ _ _ => rfl) ?_
            refine yR_rz rfl ⟨by decide, by decide⟩ ?_
            show yR zpg tX12_isAhead (d + 14) (13, [(0, .ref 221), (1, .int n), (2, .int 0), (3, .int 20)], [.int 1], mem) _
            refine wR_if_eq rfl (a := 1) rfl (fun q => by exfalso; omega) (fun _ => ?_)
            refine yR_m 1 (fun _ _ _ _ => rfl) ?_
            refine wR_gr rfl mO_e mO_48 hm ?_
            refine yR_m 1 (fun _ _ _ _ => rfl) ?_
            refine wN_al (a := 0) rfl aR_249 hm rfl rfl (by decide) (fun y8 e9 => ?_)
            refine yR_m 2 (fun _ _ _ _ => rfl) ?_
            refine wN_sub (a := 999) (b := (n).toInt) rfl rfl rfl (by omega) (fun x10 e11 => ?_)
            refine wR_ic_gt rfl (a := (gn (ga mem 249) 0)) (c := (999 - (n).toInt)) e9 e11 (fun q12 => ?_) (fun q12 => ?_)
            ·
              refine yR_m 1 (fun _ _ _ _ => rfl) ?_
              refine yR_rz rfl ⟨by decide, by decide⟩ ?_
              show yR zpg tX12_losses (d + 15) (16, lo, [.int 0], mem) _
              refine wR_if_ne rfl (a := 0) rfl (fun q => by exfalso; omega) (fun _ => ?_)
              refine yR_m 1 (fun _ _ _ _ => rfl) ?_
              exact yR_ri rfl (h6 q1 y2 e3 q4 q5 q6 q7 y8 e9 x10 e11 q12 hm)
            ·
              refine yR_m 2 (fun _ _ _ _ => rfl) ?_
              refine yR_rz rfl ⟨by decide, by decide⟩ ?_
              show yR zpg tX12_losses (d + 15) (16, lo, [.int 1], mem) _
              refine wR_if_ne rfl (a := 1) rfl (fun _ => ?_) (fun q => by exfalso; omega)
              refine yR_m 1 (fun _ _ _ _ => rfl) ?_
              refine wR_si rfl rfl (fun lo13 e14 f15 => ?_)
              have lo13_0 := f15 0 _ (by decide) (Or.inl rfl) l_0
              have lo13_1 := f15 1 _ (by decide) (Or.inl rfl) l_1
              have lo13_2 := f15 2 _ (by decide) (Or.inl rfl) l_2
              refine yR_m 1 (fun _ _ _ _ => rfl) ?_
              refine wR_si rfl rfl (fun lo16 e17 f18 => ?_)
              have lo16_3 := f18 3 _ (by decide) (Or.inl rfl) e14
              have lo16_0 := f18 0 _ (by decide) (Or.inl rfl) lo13_0
              have lo16_1 := f18 1 _ (by decide) (Or.inl rfl) lo13_1
              have lo16_2 := f18 2 _ (by decide) (Or.inl rfl) lo13_2
              exact h7 q1 y2 e3 q4 q5 q6 q7 y8 e9 x10 e11 q12 lo16 lo16_0 lo16_1 lo16_2 lo16_3 e17 hm

set_option maxRecDepth 100000 in
theorem w_ls26 {d : Nat} {mem : zM} {P : Option Value → zM → Prop} {f n be k : Int32} {lo : List (Nat × Value)} (hm : aTm aT0 mem) (l_0 : zlg lo 0 = some (.ref 221)) (l_1 : zlg lo 1 = some (.int f)) (l_2 : zlg lo 2 = some (.int n)) (l_3 : zlg lo 3 = some (.int be)) (l_4 : zlg lo 4 = some (.int k)) {Q : Qd} {S : Sd} {K : Kd} {hu : Int → Int} (hM : mB Q mem) (hW : WQ Q) (hS : tM 0 Q hu S mem) (hs : wS Q S) (hH : wH Q hu) (hK : kM 0 K mem) (hf : 0 ≤ f.toInt ∧ f.toInt ≤ 5) (hn : 0 ≤ n.toInt ∧ n.toInt ≤ 40) (h9 : Sn S + n.toInt ≤ 999) (hk : 0 ≤ k.toInt ∧ k.toInt ≤ 512) (h1 : ∀ (y1 : Int32), y1.toInt = (gn (ga mem 228) (gi mem 221 13).toInt) → (1 <<< (y1 &&& 31)).toInt ≤ (k).toInt → aTm aT0 mem → P (some (.int be)) mem) (h2 : ∀ (y1 : Int32), y1.toInt = (gn (ga mem 228) (gi mem 221 13).toInt) → (k).toInt < (1 <<< (y1 &&& 31)).toInt → ∀ (y4 : Int32), y4.toInt = (gn (ga mem 250) 0) → ¬ (k &&& y4).toInt = 0 → ∀ (x7 : Int32), x7.toInt = ((k).toInt + 1) → ∀ lo, zlg lo 0 = some (.ref 221) → zlg lo 1 = some (.int f) → zlg lo 2 = some (.int n) → zlg lo 3 = some (.int be) → zlg lo 4 = some (.int x7) → aTm aT0 mem → yR zpg tX12_losses (d + 15) (26, lo, [], mem) P) (h3 : ∀ (y1 : Int32), y1.toInt = (gn (ga mem 228) (gi mem 221 13).toInt) → (k).toInt < (1 <<< (y1 &&& 31)).toInt → ∀ (y4 : Int32), y4.toInt = (gn (ga mem 250) 0) → (k &&& y4).toInt = 0 → (be).toInt = (-1) → ∀ (m13 : zM), aTm aT0 m13 → (F1 mem m13 ∧ X1 Q hu S m13) → ∀ (m15 : zM), aTm aT0 m15 → (F1 m13 m15 ∧ ∃ S1, X1 Q hu S1 m15 ∧ wS Q S1 ∧ Sn S1 = Sn S) → ∀ (m17 : zM), aTm aT0 m17 → (F1 m15 m17 ∧ ∃ S1, X1 Q hu S1 m17) → ∀ (x19 : Int32), x19.toInt = ((6 * 1) : Int) → ∀ (x21 : Int32), x21.toInt = (((6 * 1) : Int) + (f).toInt) → ∀ (y23 : Int32), y23.toInt = (gn (ga m17 252) (((6 * 1) : Int) + (f).toInt)) → ∀ (x25 : Int32), x25.toInt = (6 * (gi m17 221 13).toInt) → ∀ (x27 : Int32), x27.toInt = ((6 * (gi m17 221 13).toInt) + (f).toInt) → ∀ (y29 : Int32), y29.toInt = (gn (ga m17 235) ((6 * (gi m17 221 13).toInt) + (f).toInt)) → ¬ (gn (ga m17 252) (((6 * 1) : Int) + (f).toInt)) = (gn (ga m17 235) ((6 * (gi m17 221 13).toInt) + (f).toInt)) → ∀ (x32 : Int32), x32.toInt = ((k).toInt + 1) → ∀ lo, zlg lo 0 = some (.ref 221) → zlg lo 1 = some (.int f) → zlg lo 2 = some (.int n) → zlg lo 3 = some (.int be) → zlg lo 4 = some (.int x32) → aTm aT0 m17 → yR zpg tX12_losses (d + 15) (26, lo, [], m17) P) (h4 : ∀ (y1 : Int32), y1.toInt = (gn (ga mem 228) (gi mem 221 13).toInt) → (k).toInt < (1 <<< (y1 &&& 31)).toInt → ∀ (y4 : Int32), y4.toInt = (gn (ga mem 250) 0) → (k &&& y4).toInt = 0 → (be).toInt = (-1) → ∀ (m13 : zM), aTm aT0 m13 → (F1 mem m13 ∧ X1 Q hu S m13) → ∀ (m15 : zM), aTm aT0 m15 → (F1 m13 m15 ∧ ∃ S1, X1 Q hu S1 m15 ∧ wS Q S1 ∧ Sn S1 = Sn S) → ∀ (m17 : zM), aTm aT0 m17 → (F1 m15 m17 ∧ ∃ S1, X1 Q hu S1 m17) → ∀ (x19 : Int32), x19.toInt = ((6 * 1) : Int) → ∀ (x21 : Int32), x21.toInt = (((6 * 1) : Int) + (f).toInt) → ∀ (y23 : Int32), y23.toInt = (gn (ga m17 252) (((6 * 1) : Int) + (f).toInt)) → ∀ (x25 : Int32), x25.toInt = (6 * (gi m17 221 13).toInt) → ∀ (x27 : Int32), x27.toInt = ((6 * (gi m17 221 13).toInt) + (f).toInt) → ∀ (y29 : Int32), y29.toInt = (gn (ga m17 235) ((6 * (gi m17 221 13).toInt) + (f).toInt)) → (gn (ga m17 252) (((6 * 1) : Int) + (f).toInt)) = (gn (ga m17 235) ((6 * (gi m17 221 13).toInt) + (f).toInt)) → ∀ (x40 : Int32), x40.toInt = ((k).toInt + 1) → ∀ lo, zlg lo 0 = some (.ref 221) → zlg lo 1 = some (.int f) → zlg lo 2 = some (.int n) → zlg lo 3 = some (.int k) → zlg lo 4 = some (.int x40) → aTm aT0 m17 → yR zpg tX12_losses (d + 15) (26, lo, [], m17) P) (h5 : ∀ (y1 : Int32), y1.toInt = (gn (ga mem 228) (gi mem 221 13).toInt) → (k).toInt < (1 <<< (y1 &&& 31)).toInt → ∀ (y4 : Int32), y4.toInt = (gn (ga mem 250) 0) → (k &&& y4).toInt = 0 → ¬ (be).toInt = (-1) → ∀ (v45 : Int32), True → ∀ (v47 : Int32), True → (v45).toInt < (v47).toInt → ∀ (m50 : zM), aTm aT0 m50 → (F1 mem m50 ∧ X1 Q hu S m50) → ∀ (m52 : zM), aTm aT0 m52 → (F1 m50 m52 ∧ ∃ S1, X1 Q hu S1 m52 ∧ wS Q S1 ∧ Sn S1 = Sn S) → ∀ (m54 : zM), aTm aT0 m54 → (F1 m52 m54 ∧ ∃ S1, X1 Q hu S1 m54) → ∀ (x56 : Int32), x56.toInt = ((6 * 1) : Int) → ∀ (x58 : Int32), x58.toInt = (((6 * 1) : Int) + (f).toInt) → ∀ (y60 : Int32), y60.toInt = (gn (ga m54 252) (((6 * 1) : Int) + (f).toInt)) → ∀ (x62 : Int32), x62.toInt = (6 * (gi m54 221 13).toInt) → ∀ (x64 : Int32), x64.toInt = ((6 * (gi m54 221 13).toInt) + (f).toInt) → ∀ (y66 : Int32), y66.toInt = (gn (ga m54 235) ((6 * (gi m54 221 13).toInt) + (f).toInt)) → ¬ (gn (ga m54 252) (((6 * 1) : Int) + (f).toInt)) = (gn (ga m54 235) ((6 * (gi m54 221 13).toInt) + (f).toInt)) → ∀ (x69 : Int32), x69.toInt = ((k).toInt + 1) → ∀ lo, zlg lo 0 = some (.ref 221) → zlg lo 1 = some (.int f) → zlg lo 2 = some (.int n) → zlg lo 3 = some (.int be) → zlg lo 4 = some (.int x69) → aTm aT0 m54 → yR zpg tX12_losses (d + 15) (26, lo, [], m54) P) (h6 : ∀ (y1 : Int32), y1.toInt = (gn (ga mem 228) (gi mem 221 13).toInt) → (k).toInt < (1 <<< (y1 &&& 31)).toInt → ∀ (y4 : Int32), y4.toInt = (gn (ga mem 250) 0) → (k &&& y4).toInt = 0 → ¬ (be).toInt = (-1) → ∀ (v45 : Int32), True → ∀ (v47 : Int32), True → (v45).toInt < (v47).toInt → ∀ (m50 : zM), aTm aT0 m50 → (F1 mem m50 ∧ X1 Q hu S m50) → ∀ (m52 : zM), aTm aT0 m52 → (F1 m50 m52 ∧ ∃ S1, X1 Q hu S1 m52 ∧ wS Q S1 ∧ Sn S1 = Sn S) → ∀ (m54 : zM), aTm aT0 m54 → (F1 m52 m54 ∧ ∃ S1, X1 Q hu S1 m54) → ∀ (x56 : Int32), x56.toInt = ((6 * 1) : Int) → ∀ (x58 : Int32), x58.toInt = (((6 * 1) : Int) + (f).toInt) → ∀ (y60 : Int32), y60.toInt = (gn (ga m54 252) (((6 * 1) : Int) + (f).toInt)) → ∀ (x62 : Int32), x62.toInt = (6 * (gi m54 221 13).toInt) → ∀ (x64 : Int32), x64.toInt = ((6 * (gi m54 221 13).toInt) + (f).toInt) → ∀ (y66 : Int32), y66.toInt = (gn (ga m54 235) ((6 * (gi m54 221 13).toInt) + (f).toInt)) → (gn (ga m54 252) (((6 * 1) : Int) + (f).toInt)) = (gn (ga m54 235) ((6 * (gi m54 221 13).toInt) + (f).toInt)) → ∀ (x77 : Int32), x77.toInt = ((k).toInt + 1) → ∀ lo, zlg lo 0 = some (.ref 221) → zlg lo 1 = some (.int f) → zlg lo 2 = some (.int n) → zlg lo 3 = some (.int k) → zlg lo 4 = some (.int x77) → aTm aT0 m54 → yR zpg tX12_losses (d + 15) (26, lo, [], m54) P) (h7 : ∀ (y1 : Int32), y1.toInt = (gn (ga mem 228) (gi mem 221 13).toInt) → (k).toInt < (1 <<< (y1 &&& 31)).toInt → ∀ (y4 : Int32), y4.toInt = (gn (ga mem 250) 0) → (k &&& y4).toInt = 0 → ¬ (be).toInt = (-1) → ∀ (v45 : Int32), True → ∀ (v47 : Int32), True → (v47).toInt ≤ (v45).toInt → ∀ (x82 : Int32), x82.toInt = ((k).toInt + 1) → ∀ lo, zlg lo 0 = some (.ref 221) → zlg lo 1 = some (.int f) → zlg lo 2 = some (.int n) → zlg lo 3 = some (.int be) → zlg lo 4 = some (.int x82) → aTm aT0 mem → yR zpg tX12_losses (d + 15) (26, lo, [], mem) P) : yR zpg tX12_losses (d + 15) (26, lo, [], mem) P := by
  have rb := mO_r13 hm
  refine wR_li rfl l_4 ?_
  refine yR_m 1 (fun _ _ _ _ => rfl) ?_
  refine wR_la rfl l_0 ?_
  refine wR_gr rfl mO_e mO_19 hm ?_
  refine wR_la rfl l_0 ?_
  refine wR_gi rfl mO_e mO_13 hm rfl ?_
  refine wN_al (a := (gi mem 221 13).toInt) rfl aR_228 hm rfl rfl (by omega) (fun y1 e2 => ?_)
  refine yR_m 1 (fun _ _ _ _ => rfl) ?_
  refine wR_ic_ge rfl (a := (k).toInt) (c := (1 <<< (y1 &&& 31)).toInt) rfl rfl (fun q3 => ?_) (fun q3 => ?_)
  ·
    refine wR_li rfl l_3 ?_
    exact yR_ri rfl (h1 y1 e2 q3 hm)
  ·
    refine wR_li rfl l_4 ?_
    refine wR_la rfl l_0 ?_
    refine wR_gr rfl mO_e mO_49 hm ?_
    refine yR_m 1 (fun _ _ _ _ => rfl) ?_
    refine wN_al (a := 0) rfl aR_250 hm rfl rfl (by decide) (fun y4 e5 => ?_)
    refine yR_m 1 (fun _ _ _ _ => rfl) ?_
    refine wR_if_ne rfl (a := (k &&& y4).toInt) rfl (fun q6 => ?_) (fun q6 => ?_)
    ·
      refine wN_in (a := (k).toInt) (b := 1) rfl rfl l_4 rfl rfl (by omega) (fun x7 e8 => fun lo9 e10 f11 => ?_)
      have lo9_0 := f11 0 _ (by decide) (Or.inl rfl) l_0
      have lo9_1 := f11 1 _ (by decide) (Or.inl rfl) l_1
      have lo9_2 := f11 2 _ (by decide) (Or.inl rfl) l_2
      have lo9_3 := f11 3 _ (by decide) (Or.inl rfl) l_3
      exact yR_m 1 (fun _ _ _ _ => rfl) (h2 y1 e2 q3 y4 e5 q6 x7 e8 lo9 lo9_0 lo9_1 lo9_2 lo9_3 e10 hm)
    ·
      refine wR_li rfl l_3 ?_
      refine yR_m 1 (fun _ _ _ _ => rfl) ?_
      refine wR_ic_eq rfl (a := (be).toInt) (c := (-1)) rfl tm1 (fun q12 => ?_) (fun q12 => ?_)
      ·
        refine wR_la rfl l_0 ?_
        refine yR_m 2 (fun _ _ _ _ => rfl) ?_
        refine wR_cv rfl rfl mO_e hm rfl (h_c1 (Q := Q) (S := S) (K := K) (hu := hu) hm hW hS hK (by omega)) ?_
        rintro _ m13 ⟨rfl, hm13, k14⟩
        show yR zpg tX12_losses (d + 15) (80, lo, [], m13) _
        have rb_m13 := mO_r13 hm13
        refine wR_la rfl l_0 ?_
        refine wR_li rfl l_4 ?_
        refine wR_cv rfl rfl mO_e hm13 rfl (h_ta (Q := Q) (S := S) (hu := hu) hm13 (F1_B k14.1 hM) hW k14.2 hs (by omega)) ?_
        rintro _ m15 ⟨rfl, hm15, k16⟩
        show yR zpg tX12_losses (d + 15) (86, lo, [], m15) _
        have rb_m15 := mO_r13 hm15
        refine wR_la rfl l_0 ?_
        refine wR_li rfl l_2 ?_
        refine wR_cv rfl rfl mO_e hm15 rfl (h_rw (Q := Q) (S := S) (hu := hu) hm15 (F1_B (F1_tr k14.1 k16.1) hM) hW k16.2 hH (by omega) (by omega) (by omega)) ?_
        rintro _ m17 ⟨rfl, hm17, k18⟩
        show yR zpg tX12_losses (d + 15) (91, lo, [], m17) _
        have rb_m17 := mO_r13 hm17
        refine wR_la rfl l_0 ?_
        refine yR_m 1 (fun _ _ _ _ => rfl) ?_
        refine wR_li rfl l_1 ?_
        refine wR_iv rfl rfl mO_e hm17 rfl rfl rfl rfl ?_
        show yR zpg tX12_isHome (d + 14) (0, [(0, .ref 221), (1, .int 1), (2, .int f)], [], m17) _
        refine yR_m 1 (fun _ _ _ _ => rfl) ?_
        refine wR_gr rfl mO_e mO_51 hm17 ?_
        refine yR_m 2 (fun _ _ _ _ => rfl) ?_
        refine wN_mul (a := 6) (b := 1) rfl rfl rfl (by omega) (fun x19 e20 => ?_)
        refine yR_m 1 (fun _ _ _ _ => rfl) ?_
        refine wN_add (a := ((6 * 1) : Int)) (b := (f).toInt) rfl e20 rfl (by omega) (fun x21 e22 => ?_)
        refine wN_al (a := (((6 * 1) : Int) + (f).toInt)) rfl aR_252 hm17 rfl e22 (by omega) (fun y23 e24 => ?_)
        refine yR_m 1 (fun _ _ _ _ => rfl) ?_
        refine wR_gr rfl mO_e mO_26 hm17 ?_
        refine yR_m 2 (fun _ _ _ _ => rfl) ?_
        refine wR_gi rfl mO_e mO_13 hm17 rfl ?_
        refine wN_mul (a := 6) (b := (gi m17 221 13).toInt) rfl rfl rfl (by omega) (fun x25 e26 => ?_)
        refine yR_m 1 (fun _ _ _ _ => rfl) ?_
        refine wN_add (a := (6 * (gi m17 221 13).toInt)) (b := (f).toInt) rfl e26 rfl (by omega) (fun x27 e28 => ?_)
        refine wN_al (a := ((6 * (gi m17 221 13).toInt) + (f).toInt)) rfl aR_235 hm17 rfl e28 (by omega) (fun y29 e30 => ?_)
        refine wR_ic_ne rfl (a := (gn (ga m17 252) (((6 * 1) : Int) + (f).toInt))) (c := (gn (ga m17 235) ((6 * (gi m17 221 13).toInt) + (f).toInt))) e24 e30 (fun q31 => ?_) (fun q31 => ?_)
        ·
          refine yR_m 1 (fun _ _ _ _ => rfl) ?_
          refine yR_rz rfl ⟨by decide, by decide⟩ ?_
          show yR zpg tX12_losses (d + 15) (97, lo, [.int 0], m17) _
          refine wR_if_eq rfl (a := 0) rfl (fun _ => ?_) (fun q => by exfalso; omega)
          refine wN_in (a := (k).toInt) (b := 1) rfl rfl l_4 rfl rfl (by omega) (fun x32 e33 => fun lo34 e35 f36 => ?_)
          have lo34_0 := f36 0 _ (by decide) (Or.inl rfl) l_0
          have lo34_1 := f36 1 _ (by decide) (Or.inl rfl) l_1
          have lo34_2 := f36 2 _ (by decide) (Or.inl rfl) l_2
          have lo34_3 := f36 3 _ (by decide) (Or.inl rfl) l_3
          exact yR_m 1 (fun _ _ _ _ => rfl) (h3 y1 e2 q3 y4 e5 q6 q12 m13 hm13 k14 m15 hm15 k16 m17 hm17 k18 x19 e20 x21 e22 y23 e24 x25 e26 x27 e28 y29 e30 q31 x32 e33 lo34 lo34_0 lo34_1 lo34_2 lo34_3 e35 hm17)
        ·
          refine yR_m 2 (fun _ _ _ _ => rfl) ?_
          refine yR_rz rfl ⟨by decide, by decide⟩ ?_
          show yR zpg tX12_losses (d + 15) (97, lo, [.int 1], m17) _
          refine wR_if_eq rfl (a := 1) rfl (fun q => by exfalso; omega) (fun _ => ?_)
          refine wR_li rfl l_4 ?_
          refine wR_si rfl rfl (fun lo37 e38 f39 => ?_)
          have lo37_0 := f39 0 _ (by decide) (Or.inl rfl) l_0
          have lo37_1 := f39 1 _ (by decide) (Or.inl rfl) l_1
          have lo37_2 := f39 2 _ (by decide) (Or.inl rfl) l_2
          have lo37_4 := f39 4 _ (by decide) (Or.inl rfl) l_4
          refine wN_in (a := (k).toInt) (b := 1) rfl rfl lo37_4 rfl rfl (by omega) (fun x40 e41 => fun lo42 e43 f44 => ?_)
          have lo42_3 := f44 3 _ (by decide) (Or.inl rfl) e38
          have lo42_0 := f44 0 _ (by decide) (Or.inl rfl) lo37_0
          have lo42_1 := f44 1 _ (by decide) (Or.inl rfl) lo37_1
          have lo42_2 := f44 2 _ (by decide) (Or.inl rfl) lo37_2
          exact yR_m 1 (fun _ _ _ _ => rfl) (h4 y1 e2 q3 y4 e5 q6 q12 m13 hm13 k14 m15 hm15 k16 m17 hm17 k18 x19 e20 x21 e22 y23 e24 x25 e26 x27 e28 y29 e30 q31 x40 e41 lo42 lo42_0 lo42_1 lo42_2 lo42_3 e43 hm17)
      ·
        refine wR_li rfl l_4 ?_
        refine yR_cs rfl rfl rfl (c_bits (by omega)) ?_
        rintro _ _ ⟨v45, rfl, rfl, k46⟩
        show yR zpg tX12_losses (d + 15) (64, lo, [.int v45], mem) _
        refine wR_li rfl l_3 ?_
        refine yR_cs rfl rfl rfl (c_bits (by omega)) ?_
        rintro _ _ ⟨v47, rfl, rfl, k48⟩
        show yR zpg tX12_losses (d + 15) (68, lo, [.int v47, .int v45], mem) _
        refine wR_ic_lt rfl (a := (v45).toInt) (c := (v47).toInt) rfl rfl (fun q49 => ?_) (fun q49 => ?_)
        ·
          refine wR_la rfl l_0 ?_
          refine yR_m 2 (fun _ _ _ _ => rfl) ?_
          refine wR_cv rfl rfl mO_e hm rfl (h_c1 (Q := Q) (S := S) (K := K) (hu := hu) hm hW hS hK (by omega)) ?_
          rintro _ m50 ⟨rfl, hm50, k51⟩
          show yR zpg tX12_losses (d + 15) (80, lo, [], m50) _
          have rb_m50 := mO_r13 hm50
          refine wR_la rfl l_0 ?_
          refine wR_li rfl l_4 ?_
          refine wR_cv rfl rfl mO_e hm50 rfl (h_ta (Q := Q) (S := S) (hu := hu) hm50 (F1_B k51.1 hM) hW k51.2 hs (by omega)) ?_
          rintro _ m52 ⟨rfl, hm52, k53⟩
          show yR zpg tX12_losses (d + 15) (86, lo, [], m52) _
          have rb_m52 := mO_r13 hm52
          refine wR_la rfl l_0 ?_
          refine wR_li rfl l_2 ?_
          refine wR_cv rfl rfl mO_e hm52 rfl (h_rw (Q := Q) (S := S) (hu := hu) hm52 (F1_B (F1_tr k51.1 k53.1) hM) hW k53.2 hH (by omega) (by omega) (by omega)) ?_
          rintro _ m54 ⟨rfl, hm54, k55⟩
          show yR zpg tX12_losses (d + 15) (91, lo, [], m54) _
          have rb_m54 := mO_r13 hm54
          refine wR_la rfl l_0 ?_
          refine yR_m 1 (fun _ _ _ _ => rfl) ?_
          refine wR_li rfl l_1 ?_
          refine wR_iv rfl rfl mO_e hm54 rfl rfl rfl rfl ?_
          show yR zpg tX12_isHome (d + 14) (0, [(0, .ref 221), (1, .int 1), (2, .int f)], [], m54) _
          refine yR_m 1 (fun _ _ _ _ => rfl) ?_
          refine wR_gr rfl mO_e mO_51 hm54 ?_
          refine yR_m 2 (fun _ _ _ _ => rfl) ?_
          refine wN_mul (a := 6) (b := 1) rfl rfl rfl (by omega) (fun x56 e57 => ?_)
          refine yR_m 1 (fun _ _ _ _ => rfl) ?_
          refine wN_add (a := ((6 * 1) : Int)) (b := (f).toInt) rfl e57 rfl (by omega) (fun x58 e59 => ?_)
          refine wN_al (a := (((6 * 1) : Int) + (f).toInt)) rfl aR_252 hm54 rfl e59 (by omega) (fun y60 e61 => ?_)
          refine yR_m 1 (fun _ _ _ _ => rfl) ?_
          refine wR_gr rfl mO_e mO_26 hm54 ?_
          refine yR_m 2 (fun _ _ _ _ => rfl) ?_
          refine wR_gi rfl mO_e mO_13 hm54 rfl ?_
          refine wN_mul (a := 6) (b := (gi m54 221 13).toInt) rfl rfl rfl (by omega) (fun x62 e63 => ?_)
          refine yR_m 1 (fun _ _ _ _ => rfl) ?_
          refine wN_add (a := (6 * (gi m54 221 13).toInt)) (b := (f).toInt) rfl e63 rfl (by omega) (fun x64 e65 => ?_)
          refine wN_al (a := ((6 * (gi m54 221 13).toInt) + (f).toInt)) rfl aR_235 hm54 rfl e65 (by omega) (fun y66 e67 => ?_)
          refine wR_ic_ne rfl (a := (gn (ga m54 252) (((6 * 1) : Int) + (f).toInt))) (c := (gn (ga m54 235) ((6 * (gi m54 221 13).toInt) + (f).toInt))) e61 e67 (fun q68 => ?_) (fun q68 => ?_)
          ·
            refine yR_m 1 (fun _ _ _ _ => rfl) ?_
            refine yR_rz rfl ⟨by decide, by decide⟩ ?_
            show yR zpg tX12_losses (d + 15) (97, lo, [.int 0], m54) _
            refine wR_if_eq rfl (a := 0) rfl (fun _ => ?_) (fun q => by exfalso; omega)
            refine wN_in (a := (k).toInt) (b := 1) rfl rfl l_4 rfl rfl (by omega) (fun x69 e70 => fun lo71 e72 f73 => ?_)
            have lo71_0 := f73 0 _ (by decide) (Or.inl rfl) l_0
            have lo71_1 := f73 1 _ (by decide) (Or.inl rfl) l_1
            have lo71_2 := f73 2 _ (by decide) (Or.inl rfl) l_2
            have lo71_3 := f73 3 _ (by decide) (Or.inl rfl) l_3
            exact yR_m 1 (fun _ _ _ _ => rfl) (h5 y1 e2 q3 y4 e5 q6 q12 v45 k46 v47 k48 q49 m50 hm50 k51 m52 hm52 k53 m54 hm54 k55 x56 e57 x58 e59 y60 e61 x62 e63 x64 e65 y66 e67 q68 x69 e70 lo71 lo71_0 lo71_1 lo71_2 lo71_3 e72 hm54)
          ·
            refine yR_m 2 (fun _ _ _ _ => rfl) ?_
            refine yR_rz rfl ⟨by decide, by decide⟩ ?_
            show yR zpg tX12_losses (d + 15) (97, lo, [.int 1], m54) _
            refine wR_if_eq rfl (a := 1) rfl (fun q => by exfalso; omega) (fun _ => ?_)
            refine wR_li rfl l_4 ?_
            refine wR_si rfl rfl (fun lo74 e75 f76 => ?_)
            have lo74_0 := f76 0 _ (by decide) (Or.inl rfl) l_0
            have lo74_1 := f76 1 _ (by decide) (Or.inl rfl) l_1
            have lo74_2 := f76 2 _ (by decide) (Or.inl rfl) l_2
            have lo74_4 := f76 4 _ (by decide) (Or.inl rfl) l_4
            refine wN_in (a := (k).toInt) (b := 1) rfl rfl lo74_4 rfl rfl (by omega) (fun x77 e78 => fun lo79 e80 f81 => ?_)
            have lo79_3 := f81 3 _ (by decide) (Or.inl rfl) e75
            have lo79_0 := f81 0 _ (by decide) (Or.inl rfl) lo74_0
            have lo79_1 := f81 1 _ (by decide) (Or.inl rfl) lo74_1
            have lo79_2 := f81 2 _ (by decide) (Or.inl rfl) lo74_2
            exact yR_m 1 (fun _ _ _ _ => rfl) (h6 y1 e2 q3 y4 e5 q6 q12 v45 k46 v47 k48 q49 m50 hm50 k51 m52 hm52 k53 m54 hm54 k55 x56 e57 x58 e59 y60 e61 x62 e63 x64 e65 y66 e67 q68 x77 e78 lo79 lo79_0 lo79_1 lo79_2 lo79_3 e80 hm54)
        ·
          refine yR_m 1 (fun _ _ _ _ => rfl) ?_
          refine wN_in (a := (k).toInt) (b := 1) rfl rfl l_4 rfl rfl (by omega) (fun x82 e83 => fun lo84 e85 f86 => ?_)
          have lo84_0 := f86 0 _ (by decide) (Or.inl rfl) l_0
          have lo84_1 := f86 1 _ (by decide) (Or.inl rfl) l_1
          have lo84_2 := f86 2 _ (by decide) (Or.inl rfl) l_2
          have lo84_3 := f86 3 _ (by decide) (Or.inl rfl) l_3
          exact yR_m 1 (fun _ _ _ _ => rfl) (h7 y1 e2 q3 y4 e5 q6 q12 v45 k46 v47 k48 q49 x82 e83 lo84 lo84_0 lo84_1 lo84_2 lo84_3 e85 hm)

theorem ls_lp {f n : Int32} {mr : zM} (hMr : mB Q mr) (hW : WQ Q) (hSr : tM 0 Q hu S mr) (hs : wS Q S) (hH : wH Q hu) (hKr : kM 0 K mr) (hf : 0 ≤ f.toInt ∧ f.toInt ≤ 5) (hn : 0 ≤ n.toInt ∧ n.toInt ≤ 40) (h9 : Sn S + n.toInt ≤ 999) : ∀ (g : Nat) (be k : Int32) (mem : zM) (lo : List (Nat × Value)), k.toInt + (g : Int) = 513 → 0 ≤ k.toInt → k.toInt ≤ 512 → F1 mr mem → aTm aT0 mem → zlg lo 0 = some (.ref 221) → zlg lo 1 = some (.int f) → zlg lo 2 = some (.int n) → zlg lo 3 = some (.int be) → zlg lo 4 = some (.int k) → yR zpg tX12_losses (d + 15) (26, lo, [], mem) (WF mr) := by
  intro g
  induction g with
  | zero =>
    intro be k mem lo hg k0 k9
    omega
  | succ g ih =>
    intro be k mem lo hg k0 k9 hF hm l0 l1 l2 l3 l4
    have hM := F1_B hF hMr
    have mt := hM.1.2.2.1.1
    have t9 := hW.2.1.1
    exact w_ls26 (S := S) (K := K) hm l0 l1 l2 l3 l4 hM hW (F1_0 hW hF hSr) hs hH (F1_k hF hKr) hf hn h9 ⟨k0, k9⟩ 
        (fun y1 e2 q3 hm2 => ⟨_, rfl, hm2, hF⟩)
        (fun y1 e2 q3 y4 e5 q6 x7 e8 lo a0 a1 a2 a3 a4 hm2 => by
        have z5 := sh_512 (y := y1) (by omega)
        exact ih _ _ _ lo (by omega) (by omega) (by omega) hF hm2 a0 a1 a2 a3 a4)
        (fun y1 e2 q3 y4 e5 q6 q12 m13 hm13 k14 m15 hm15 k16 m17 hm17 k18 x19 e20 x21 e22 y23 e24 x25 e26 x27 e28 y29 e30 q31 x32 e33 lo a0 a1 a2 a3 a4 hm2 => by
        have z5 := sh_512 (y := y1) (by omega)
        exact ih _ _ _ lo (by omega) (by omega) (by omega) (F1_tr (F1_tr (F1_tr hF k14.1) k16.1) k18.1) hm2 a0 a1 a2 a3 a4)
        (fun y1 e2 q3 y4 e5 q6 q12 m13 hm13 k14 m15 hm15 k16 m17 hm17 k18 x19 e20 x21 e22 y23 e24 x25 e26 x27 e28 y29 e30 q31 x40 e41 lo a0 a1 a2 a3 a4 hm2 => by
        have z5 := sh_512 (y := y1) (by omega)
        exact ih _ _ _ lo (by omega) (by omega) (by omega) (F1_tr (F1_tr (F1_tr hF k14.1) k16.1) k18.1) hm2 a0 a1 a2 a3 a4)
        (fun y1 e2 q3 y4 e5 q6 q12 v45 k46 v47 k48 q49 m50 hm50 k51 m52 hm52 k53 m54 hm54 k55 x56 e57 x58 e59 y60 e61 x62 e63 x64 e65 y66 e67 q68 x69 e70 lo a0 a1 a2 a3 a4 hm2 => by
        have z5 := sh_512 (y := y1) (by omega)
        exact ih _ _ _ lo (by omega) (by omega) (by omega) (F1_tr (F1_tr (F1_tr hF k51.1) k53.1) k55.1) hm2 a0 a1 a2 a3 a4)
        (fun y1 e2 q3 y4 e5 q6 q12 v45 k46 v47 k48 q49 m50 hm50 k51 m52 hm52 k53 m54 hm54 k55 x56 e57 x58 e59 y60 e61 x62 e63 x64 e65 y66 e67 q68 x77 e78 lo a0 a1 a2 a3 a4 hm2 => by
        have z5 := sh_512 (y := y1) (by omega)
        exact ih _ _ _ lo (by omega) (by omega) (by omega) (F1_tr (F1_tr (F1_tr hF k51.1) k53.1) k55.1) hm2 a0 a1 a2 a3 a4)
        (fun y1 e2 q3 y4 e5 q6 q12 v45 k46 v47 k48 q49 x82 e83 lo a0 a1 a2 a3 a4 hm2 => by
        have z5 := sh_512 (y := y1) (by omega)
        exact ih _ _ _ lo (by omega) (by omega) (by omega) hF hm2 a0 a1 a2 a3 a4)
theorem h_ls {f n : Int32} (hm : aTm aT0 mem) (hM : mB Q mem) (hW : WQ Q) (hS : tM 0 Q hu S mem) (hs : wS Q S) (hH : wH Q hu) (hK : kM 0 K mem) (hd : 16 ≤ d) : yC zpg d 251 [.ref 221, .int f, .int n] mem (WF mem) := by
  obtain ⟨d, rfl⟩ : ∃ q, d = q + 16 := ⟨d - 16, by omega⟩
  have mf := hM.1.2.2.2.2.1.1
  have f9 := hW.2.1.2.1
  have s0 := hS.1.1
  refine yC_of (t := tX12_losses) rfl rfl ?_
  exact w_ls0 (S := S) (K := K) (hu := hu) hm rfl rfl rfl hM hW hS hs hH hK 
        (fun q1 hm2 => ⟨_, rfl, hm2, F1_rf⟩)
        (fun q1 y2 e3 q4 hm2 => ⟨_, rfl, hm2, F1_rf⟩)
        (fun q1 y2 e3 q4 q5 hm2 => ⟨_, rfl, hm2, F1_rf⟩)
        (fun q1 y2 e3 q4 q5 q6 hm2 => ⟨_, rfl, hm2, F1_rf⟩)
        (fun q1 y2 e3 q4 q5 q6 q7 hm2 => ⟨_, rfl, hm2, F1_rf⟩)
        (fun q1 y2 e3 q4 q5 q6 q7 y8 e9 x10 e11 q12 hm2 => ⟨_, rfl, hm2, F1_rf⟩)
        (fun q1 y2 e3 q4 q5 q6 q7 y8 e9 x10 e11 q12 lo a0 a1 a2 a3 a4 hm2 => ls_lp (S := S) (K := K) hM hW hS hs hH hK ⟨by omega, by omega⟩ ⟨by omega, by omega⟩ (by omega) 513 _ _ _ lo rfl (by decide) (by decide) F1_rf hm2 a0 a1 a2 a3 a4)
set_option maxRecDepth 100000 in
theorem w_wo0 {d : Nat} {mem : zM} {P : Option Value → zM → Prop} {n wh : Int32} {lo : List (Nat × Value)} (hm : aTm aT0 mem) (l_0 : zlg lo 0 = some (.ref 221)) (l_1 : zlg lo 1 = some (.int n)) (l_2 : zlg lo 2 = some (.int wh)) {Q : Qd} {S : Sd} {K : Kd} {hu : Int → Int} (hM : mB Q mem) (hW : WQ Q) (hS : tM 0 Q hu S mem) (hs : wS Q S) (hH : wH Q hu) (hK : kM 0 K mem) (h1 : (gi mem 221 46).toInt = 0 → aTm aT0 mem → P (some (.int (-1))) mem) (h2 : ¬ (gi mem 221 46).toInt = 0 → (n).toInt < 1 → aTm aT0 mem → P (some (.int (-1))) mem) (h3 : ¬ (gi mem 221 46).toInt = 0 → 1 ≤ (n).toInt → 20 < (n).toInt → aTm aT0 mem → P (some (.int (-1))) mem) (h4 : ¬ (gi mem 221 46).toInt = 0 → 1 ≤ (n).toInt → (n).toInt ≤ 20 → ∀ (y4 : Int32), y4.toInt = (gn (ga mem 249) 0) → ∀ (x6 : Int32), x6.toInt = (999 - (n).toInt) → (999 - (n).toInt) < (gn (ga mem 249) 0) → aTm aT0 mem → P (some (.int (-1))) mem) (h5 : ¬ (gi mem 221 46).toInt = 0 → 1 ≤ (n).toInt → (n).toInt ≤ 20 → ∀ (y4 : Int32), y4.toInt = (gn (ga mem 249) 0) → ∀ (x6 : Int32), x6.toInt = (999 - (n).toInt) → (gn (ga mem 249) 0) ≤ (999 - (n).toInt) → (wh).toInt < 0 → aTm aT0 mem → P (some (.int (-1))) mem) (h6 : ¬ (gi mem 221 46).toInt = 0 → 1 ≤ (n).toInt → (n).toInt ≤ 20 → ∀ (y4 : Int32), y4.toInt = (gn (ga mem 249) 0) → ∀ (x6 : Int32), x6.toInt = (999 - (n).toInt) → (gn (ga mem 249) 0) ≤ (999 - (n).toInt) → 0 ≤ (wh).toInt → 1 < (wh).toInt → aTm aT0 mem → P (some (.int (-1))) mem) (h7 : ¬ (gi mem 221 46).toInt = 0 → 1 ≤ (n).toInt → (n).toInt ≤ 20 → ∀ (y4 : Int32), y4.toInt = (gn (ga mem 249) 0) → ∀ (x6 : Int32), x6.toInt = (999 - (n).toInt) → (gn (ga mem 249) 0) ≤ (999 - (n).toInt) → 0 ≤ (wh).toInt → (wh).toInt ≤ 1 → ∀ lo, zlg lo 0 = some (.ref 221) → zlg lo 1 = some (.int n) → zlg lo 2 = some (.int wh) → zlg lo 3 = some (.int (-1)) → zlg lo 4 = some (.int 100000000) → zlg lo 5 = some (.int 0) → aTm aT0 mem → yR zpg tX12_worst (d + 15) (32, lo, [], mem) P) : yR zpg tX12_worst (d + 15) (0, lo, [], mem) P := by
  have s0 := hS.1.1
  have s9 := hs.1
  have rb := mO_r13 hm
  have mt := hM.1.2.2.1.1
  have t9 := hW.2.1.1
  have e9 : thN Q = ((Qt Q).length : Int) := rfl
  have mf := hM.1.2.2.2.2.1.1
  have f9 := hW.2.1.2.1
  have ef9 : foN Q = ((Qf Q).length : Int) := rfl
  refine wR_la rfl l_0 ?_
  refine wR_li rfl l_1 ?_
  refine yR_m 2 (fun _ _ _ _ => rfl) ?_
  refine wR_iv rfl rfl mO_e hm rfl rfl rfl rfl ?_
  show yR zpg tX12_isAhead (d + 14) (0, [(0, .ref 221), (1, .int n), (2, .int 1), (3, .int 20)], [], mem) _
  refine yR_m 1 (fun _ _ _ _ => rfl) ?_
  refine wR_gi rfl mO_e mO_46 hm rfl ?_
  refine wR_if_eq rfl (a := (gi mem 221 46).toInt) rfl (fun q1 => ?_) (fun q1 => ?_)
  ·
    refine yR_m 1 (fun _ _ _ _ => rfl) ?_
    refine yR_rz rfl ⟨by decide, by decide⟩ ?_
    show yR zpg tX12_worst (d + 15) (8, lo, [.int 0], mem) _
    refine wR_if_eq rfl (a := 0) rfl (fun _ => ?_) (fun q => by exfalso; omega)
    refine yR_m 1 (fun _ _ _ _ => rfl) ?_
    exact yR_ri rfl (h1 q1 hm)
  ·
    refine yR_m 3 (fun _ _ _ _ => rfl) ?_
    refine wR_is rfl rfl rfl rfl rfl rfl ?_
    show yR zpg tX12_is (d + 13) (0, [(0, .int n), (1, .int 1), (2, .int 20)], [], mem) _
    refine yR_m 2 (fun _ _ _ _ => rfl) ?_
    refine wR_ic_lt rfl (a := (n).toInt) (c := 1) rfl rfl (fun q2 => ?_) (fun q2 => ?_)
    ·
      refine yR_m 1 (fun _ _ _ _ => rfl) ?_
      refine yR_rz rfl ⟨by decide, by decide⟩ ?_
      show yR zpg tX12_isAhead (d + 14) (13, [(0, .ref 221), (1, .int n), (2, .int 1), (3, .int 20)], [.int 0], mem) _
      refine wR_if_eq rfl (a := 0) rfl (fun _ => ?_) (fun q => by exfalso; omega)
      refine yR_m 1 (fun _ _ _ _ => rfl) ?_
      refine yR_rz rfl ⟨by decide, by decide⟩ ?_
      show yR zpg tX12_worst (d + 15) (8, lo, [.int 0], mem) _
      refine wR_if_eq rfl (a := 0) rfl (fun _ => ?_) (fun q => by exfalso; omega)
      refine yR_m 1 (fun _ _ _ _ => rfl) ?_
      exact yR_ri rfl (h2 q1 q2 hm)
    ·
      refine yR_m 2 (fun _ _ _ _ => rfl) ?_
      refine wR_ic_gt rfl (a := (n).toInt) (c := 20) rfl rfl (fun q3 => ?_) (fun q3 => ?_)
      ·
        refine yR_m 1 (fun _ _ _ _ => rfl) ?_
        refine yR_rz rfl ⟨by decide, by decide⟩ ?_
        show yR zpg tX12_isAhead (d + 14) (13, [(0, .ref 221), (1, .int n), (2, .int 1), (3, .int 20)], [.int 0], mem) _
        refine wR_if_eq rfl (a := 0) rfl (fun _ => ?_) (fun q => by exfalso; omega)
        refine yR_m 1 (fun _ _ _ _ => rfl) ?_
        refine yR_rz rfl ⟨by decide, by decide⟩ ?_
        show yR zpg tX12_worst (d + 15) (8, lo, [.int 0], mem) _
        refine wR_if_eq rfl (a := 0) rfl (fun _ => ?_) (fun q => by exfalso; omega)
        refine yR_m 1 (fun _ _ _ _ => rfl) ?_
        exact yR_ri rfl (h3 q1 q2 q3 hm)
      ·
        refine yR_m 2 (fun _ _ _ _ => rfl) ?_
        refine yR_rz rfl ⟨by decide, by decide⟩ ?_
        show yR zpg tX12_isAhead (d + 14) (13, [(0, .ref 221), (1, .int n), (2, .int 1), (3, .int 20)], [.int 1], mem) _
        refine wR_if_eq rfl (a := 1) rfl (fun q => by exfalso; omega) (fun _ => ?_)
        refine yR_m 1 (fun _ _ _ _ => rfl) ?_
        refine wR_gr rfl mO_e mO_48 hm ?_
        refine yR_m 1 (fun _ _ _ _ => rfl) ?_
        refine wN_al (a := 0) rfl aR_249 hm rfl rfl (by decide) (fun y4 e5 => ?_)
        refine yR_m 2 (fun _ _ _ _ => rfl) ?_
        refine wN_sub (a := 999) (b := (n).toInt) rfl rfl rfl (by omega) (fun x6 e7 => ?_)
        refine wR_ic_gt rfl (a := (gn (ga mem 249) 0)) (c := (999 - (n).toInt)) e5 e7 (fun q8 => ?_) (fun q8 => ?_)
        ·
          refine yR_m 1 (fun _ _ _ _ => rfl) ?_
          refine yR_rz rfl ⟨by decide, by decide⟩ ?_
          show yR zpg tX12_worst (d + 15) (8, lo, [.int 0], mem) _
          refine wR_if_eq rfl (a := 0) rfl (fun _ => ?_) (fun q => by exfalso; omega)
          refine yR_m 1 (fun _ _ _ _ => rfl) ?_
          exact yR_ri rfl (h4 q1 q2 q3 y4 e5 x6 e7 q8 hm)
        ·
          refine yR_m 2 (fun _ _ _ _ => rfl) ?_
          refine yR_rz rfl ⟨by decide, by decide⟩ ?_
          show yR zpg tX12_worst (d + 15) (8, lo, [.int 1], mem) _
          refine wR_if_eq rfl (a := 1) rfl (fun q => by exfalso; omega) (fun _ => ?_)
          refine wR_li rfl l_2 ?_
          refine yR_m 2 (fun _ _ _ _ => rfl) ?_
          refine wR_is rfl rfl rfl rfl rfl rfl ?_
          show yR zpg tX12_is (d + 14) (0, [(0, .int wh), (1, .int 0), (2, .int 1)], [], mem) _
          refine yR_m 2 (fun _ _ _ _ => rfl) ?_
          refine wR_ic_lt rfl (a := (wh).toInt) (c := 0) rfl rfl (fun q9 => ?_) (fun q9 => ?_)
          ·
            refine yR_m 1 (fun _ _ _ _ => rfl) ?_
            refine yR_rz rfl ⟨by decide, by decide⟩ ?_
            show yR zpg tX12_worst (d + 15) (17, lo, [.int 0], mem) _
            refine wR_if_ne rfl (a := 0) rfl (fun q => by exfalso; omega) (fun _ => ?_)
            refine yR_m 1 (fun _ _ _ _ => rfl) ?_
            exact yR_ri rfl (h5 q1 q2 q3 y4 e5 x6 e7 q8 q9 hm)
          ·
            refine yR_m 2 (fun _ _ _ _ => rfl) ?_
            refine wR_ic_gt rfl (a := (wh).toInt) (c := 1) rfl rfl (fun q10 => ?_) (fun q10 => ?_)
            ·
              refine yR_m 1 (fun _ _ _ _ => rfl) ?_
              refine yR_rz rfl ⟨by decide, by decide⟩ ?_
              show yR zpg tX12_worst (d + 15) (17, lo, [.int 0], mem) _
              refine wR_if_ne rfl (a := 0) rfl (fun q => by exfalso; omega) (fun _ => ?_)
              refine yR_m 1 (fun _ _ _ _ => rfl) ?_
              exact yR_ri rfl (h6 q1 q2 q3 y4 e5 x6 e7 q8 q9 q10 hm)
            ·
              refine yR_m 2 (fun _ _ _ _ => rfl) ?_
              refine yR_rz rfl ⟨by decide, by decide⟩ ?_
              show yR zpg tX12_worst (d + 15) (17, lo, [.int 1], mem) _
              refine wR_if_ne rfl (a := 1) rfl (fun _ => ?_) (fun q => by exfalso; omega)
              refine yR_m 1 (fun _ _ _ _ => rfl) ?_
              refine wR_si rfl rfl (fun lo11 e12 f13 => ?_)
              have lo11_0 := f13 0 _ (by decide) (Or.inl rfl) l_0
              have lo11_1 := f13 1 _ (by decide) (Or.inl rfl) l_1
              have lo11_2 := f13 2 _ (by decide) (Or.inl rfl) l_2
              refine yR_m 1 (fun _ _ _ _ => rfl) ?_
              refine wR_si rfl rfl (fun lo14 e15 f16 => ?_)
              have lo14_3 := f16 3 _ (by decide) (Or.inl rfl) e12
              have lo14_0 := f16 0 _ (by decide) (Or.inl rfl) lo11_0
              have lo14_1 := f16 1 _ (by decide) (Or.inl rfl) lo11_1
              have lo14_2 := f16 2 _ (by decide) (Or.inl rfl) lo11_2
              refine yR_m 1 (fun _ _ _ _ => rfl) ?_
              refine wR_si rfl rfl (fun lo17 e18 f19 => ?_)
              have lo17_4 := f19 4 _ (by decide) (Or.inl rfl) e15
              have lo17_3 := f19 3 _ (by decide) (Or.inl rfl) lo14_3
              have lo17_0 := f19 0 _ (by decide) (Or.inl rfl) lo14_0
              have lo17_1 := f19 1 _ (by decide) (Or.inl rfl) lo14_1
              have lo17_2 := f19 2 _ (by decide) (Or.inl rfl) lo14_2
              exact h7 q1 q2 q3 y4 e5 x6 e7 q8 q9 q10 lo17 lo17_0 lo17_1 lo17_2 lo17_3 lo17_4 e18 hm

set_option maxRecDepth 100000 in
theorem w_wo32 {d : Nat} {mem : zM} {P : Option Value → zM → Prop} {n wh be le k : Int32} {lo : List (Nat × Value)} (hm : aTm aT0 mem) (l_0 : zlg lo 0 = some (.ref 221)) (l_1 : zlg lo 1 = some (.int n)) (l_2 : zlg lo 2 = some (.int wh)) (l_3 : zlg lo 3 = some (.int be)) (l_4 : zlg lo 4 = some (.int le)) (l_5 : zlg lo 5 = some (.int k)) {Q : Qd} {S : Sd} {K : Kd} {hu : Int → Int} (hM : mB Q mem) (hW : WQ Q) (hS : tM 0 Q hu S mem) (hs : wS Q S) (hH : wH Q hu) (hK : kM 0 K mem) (hn : 0 ≤ n.toInt ∧ n.toInt ≤ 40) (h9 : Sn S + n.toInt ≤ 999) (hk : 0 ≤ k.toInt ∧ k.toInt ≤ 9) (h1 : ∀ (y1 : Int32), y1.toInt = (gn (ga mem 228) (gi mem 221 13).toInt) → (gn (ga mem 228) (gi mem 221 13).toInt) ≤ (k).toInt → (be).toInt = (-1) → aTm aT0 mem → P (some (.int be)) mem) (h2 : ∀ (y1 : Int32), y1.toInt = (gn (ga mem 228) (gi mem 221 13).toInt) → (gn (ga mem 228) (gi mem 221 13).toInt) ≤ (k).toInt → ¬ (be).toInt = (-1) → ¬ (wh).toInt = 0 → aTm aT0 mem → P (some (.int le)) mem) (h3 : ∀ (y1 : Int32), y1.toInt = (gn (ga mem 228) (gi mem 221 13).toInt) → (gn (ga mem 228) (gi mem 221 13).toInt) ≤ (k).toInt → ¬ (be).toInt = (-1) → (wh).toInt = 0 → aTm aT0 mem → P (some (.int be)) mem) (h4 : ∀ (y1 : Int32), y1.toInt = (gn (ga mem 228) (gi mem 221 13).toInt) → (k).toInt < (gn (ga mem 228) (gi mem 221 13).toInt) → ∀ (y6 : Int32), y6.toInt = (gn (ga mem 250) 0) → ¬ ((y6 >>> (k &&& 31)) &&& 1).toInt = 1 → ∀ (x9 : Int32), x9.toInt = ((k).toInt + 1) → ∀ lo, zlg lo 0 = some (.ref 221) → zlg lo 1 = some (.int n) → zlg lo 2 = some (.int wh) → zlg lo 3 = some (.int be) → zlg lo 4 = some (.int le) → zlg lo 5 = some (.int x9) → aTm aT0 mem → yR zpg tX12_worst (d + 15) (32, lo, [], mem) P) (h5 : ∀ (y1 : Int32), y1.toInt = (gn (ga mem 228) (gi mem 221 13).toInt) → (k).toInt < (gn (ga mem 228) (gi mem 221 13).toInt) → ∀ (y6 : Int32), y6.toInt = (gn (ga mem 250) 0) → ((y6 >>> (k &&& 31)) &&& 1).toInt = 1 → ∀ (m14 : zM), aTm aT0 m14 → (F1 mem m14 ∧ X1 Q hu S m14) → ∀ (m16 : zM), aTm aT0 m16 → (F1 m14 m16 ∧ ∃ S1, X1 Q hu S1 m16 ∧ wS Q S1 ∧ Sn S1 = Sn S) → ∀ (m18 : zM), aTm aT0 m18 → (F1 m16 m18 ∧ ∃ S1, X1 Q hu S1 m18) → ∀ (v20 : Int32), 0 ≤ v20.toInt ∧ v20.toInt ≤ 6 → (v20).toInt < (le).toInt → ∀ (v23 : Int32), 0 ≤ v23.toInt ∧ v23.toInt ≤ 6 → ∀ (x31 : Int32), x31.toInt = ((k).toInt + 1) → ∀ lo, zlg lo 0 = some (.ref 221) → zlg lo 1 = some (.int n) → zlg lo 2 = some (.int wh) → zlg lo 3 = some (.int k) → zlg lo 4 = some (.int v23) → zlg lo 5 = some (.int x31) → aTm aT0 m18 → yR zpg tX12_worst (d + 15) (32, lo, [], m18) P) (h6 : ∀ (y1 : Int32), y1.toInt = (gn (ga mem 228) (gi mem 221 13).toInt) → (k).toInt < (gn (ga mem 228) (gi mem 221 13).toInt) → ∀ (y6 : Int32), y6.toInt = (gn (ga mem 250) 0) → ((y6 >>> (k &&& 31)) &&& 1).toInt = 1 → ∀ (m14 : zM), aTm aT0 m14 → (F1 mem m14 ∧ X1 Q hu S m14) → ∀ (m16 : zM), aTm aT0 m16 → (F1 m14 m16 ∧ ∃ S1, X1 Q hu S1 m16 ∧ wS Q S1 ∧ Sn S1 = Sn S) → ∀ (m18 : zM), aTm aT0 m18 → (F1 m16 m18 ∧ ∃ S1, X1 Q hu S1 m18) → ∀ (v20 : Int32), 0 ≤ v20.toInt ∧ v20.toInt ≤ 6 → (le).toInt ≤ (v20).toInt → ∀ (x36 : Int32), x36.toInt = ((k).toInt + 1) → ∀ lo, zlg lo 0 = some (.ref 221) → zlg lo 1 = some (.int n) → zlg lo 2 = some (.int wh) → zlg lo 3 = some (.int be) → zlg lo 4 = some (.int le) → zlg lo 5 = some (.int x36) → aTm aT0 m18 → yR zpg tX12_worst (d + 15) (32, lo, [], m18) P) : yR zpg tX12_worst (d + 15) (32, lo, [], mem) P := by
  have rb := mO_r13 hm
  have mt := hM.1.2.2.1.1
  have t9 := hW.2.1.1
  refine wR_li rfl l_5 ?_
  refine wR_la rfl l_0 ?_
  refine wR_gr rfl mO_e mO_19 hm ?_
  refine wR_la rfl l_0 ?_
  refine wR_gi rfl mO_e mO_13 hm rfl ?_
  refine wN_al (a := (gi mem 221 13).toInt) rfl aR_228 hm rfl rfl (by omega) (fun y1 e2 => ?_)
  refine wR_ic_ge rfl (a := (k).toInt) (c := (gn (ga mem 228) (gi mem 221 13).toInt)) rfl e2 (fun q3 => ?_) (fun q3 => ?_)
  ·
    refine wR_li rfl l_3 ?_
    refine yR_m 1 (fun _ _ _ _ => rfl) ?_
    refine wR_ic_eq rfl (a := (be).toInt) (c := (-1)) rfl tm1 (fun q4 => ?_) (fun q4 => ?_)
    ·
      refine wR_li rfl l_3 ?_
      refine yR_m 1 (fun _ _ _ _ => rfl) ?_
      exact yR_ri rfl (h1 y1 e2 q3 q4 hm)
    ·
      refine wR_li rfl l_2 ?_
      refine wR_if_ne rfl (a := (wh).toInt) rfl (fun q5 => ?_) (fun q5 => ?_)
      ·
        refine wR_li rfl l_4 ?_
        exact yR_ri rfl (h2 y1 e2 q3 q4 q5 hm)
      ·
        refine wR_li rfl l_3 ?_
        refine yR_m 1 (fun _ _ _ _ => rfl) ?_
        exact yR_ri rfl (h3 y1 e2 q3 q4 q5 hm)
  ·
    refine wR_la rfl l_0 ?_
    refine wR_gr rfl mO_e mO_49 hm ?_
    refine yR_m 1 (fun _ _ _ _ => rfl) ?_
    refine wN_al (a := 0) rfl aR_250 hm rfl rfl (by decide) (fun y6 e7 => ?_)
    refine wR_li rfl l_5 ?_
    refine wR_is rfl rfl rfl rfl rfl rfl ?_
    show yR zpg tX12_has2 (d + 14) (0, [(0, .int y6), (1, .int k)], [], mem) _
    refine yR_m 6 (fun _ _ _ _ => rfl) ?_
    refine wR_ic_ne rfl (a := ((y6 >>> (k &&& 31)) &&& 1).toInt) (c := 1) rfl rfl (fun q8 => ?_) (fun q8 => ?_)
    ·
      refine yR_m 1 (fun _ _ _ _ => rfl) ?_
      refine yR_rz rfl ⟨by decide, by decide⟩ ?_
      show yR zpg tX12_worst (d + 15) (57, lo, [.int 0], mem) _
      refine wR_if_ne rfl (a := 0) rfl (fun q => by exfalso; omega) (fun _ => ?_)
      refine yR_m 1 (fun _ _ _ _ => rfl) ?_
      refine wN_in (a := (k).toInt) (b := 1) rfl rfl l_5 rfl rfl (by omega) (fun x9 e10 => fun lo11 e12 f13 => ?_)
      have lo11_0 := f13 0 _ (by decide) (Or.inl rfl) l_0
      have lo11_1 := f13 1 _ (by decide) (Or.inl rfl) l_1
      have lo11_2 := f13 2 _ (by decide) (Or.inl rfl) l_2
      have lo11_3 := f13 3 _ (by decide) (Or.inl rfl) l_3
      have lo11_4 := f13 4 _ (by decide) (Or.inl rfl) l_4
      exact yR_m 1 (fun _ _ _ _ => rfl) (h4 y1 e2 q3 y6 e7 q8 x9 e10 lo11 lo11_0 lo11_1 lo11_2 lo11_3 lo11_4 e12 hm)
    ·
      refine yR_m 2 (fun _ _ _ _ => rfl) ?_
      refine yR_rz rfl ⟨by decide, by decide⟩ ?_
      show yR zpg tX12_worst (d + 15) (57, lo, [.int 1], mem) _
      refine wR_if_ne rfl (a := 1) rfl (fun _ => ?_) (fun q => by exfalso; omega)
      refine wR_la rfl l_0 ?_
      refine yR_m 2 (fun _ _ _ _ => rfl) ?_
      refine wR_cv rfl rfl mO_e hm rfl (h_c1 (Q := Q) (S := S) (K := K) (hu := hu) hm hW hS hK (by omega)) ?_
      rintro _ m14 ⟨rfl, hm14, k15⟩
      show yR zpg tX12_worst (d + 15) (69, lo, [], m14) _
      have rb_m14 := mO_r13 hm14
      refine wR_la rfl l_0 ?_
      refine yR_m 1 (fun _ _ _ _ => rfl) ?_
      refine wR_li rfl l_5 ?_
      refine yR_m 1 (fun _ _ _ _ => rfl) ?_
      refine wR_cv rfl rfl mO_e hm14 rfl (h_ta (Q := Q) (S := S) (hu := hu) hm14 (F1_B k15.1 hM) hW k15.2 hs (by omega)) ?_
      rintro _ m16 ⟨rfl, hm16, k17⟩
      show yR zpg tX12_worst (d + 15) (77, lo, [], m16) _
      have rb_m16 := mO_r13 hm16
      refine wR_la rfl l_0 ?_
      refine wR_li rfl l_1 ?_
      refine wR_cv rfl rfl mO_e hm16 rfl (h_rw (Q := Q) (S := S) (hu := hu) hm16 (F1_B (F1_tr k15.1 k17.1) hM) hW k17.2 hH (by omega) (by omega) (by omega)) ?_
      rintro _ m18 ⟨rfl, hm18, k19⟩
      show yR zpg tX12_worst (d + 15) (82, lo, [], m18) _
      have rb_m18 := mO_r13 hm18
      refine wR_la rfl l_0 ?_
      refine yR_m 1 (fun _ _ _ _ => rfl) ?_
      refine wR_cv rfl rfl mO_e hm18 rfl (h_ho hm18 (by decide) (by omega)) ?_
      rintro _ _ ⟨v20, rfl, rfl, k21⟩
      show yR zpg tX12_worst (d + 15) (87, lo, [.int v20], m18) _
      refine wR_li rfl l_4 ?_
      refine wR_ic_lt rfl (a := (v20).toInt) (c := (le).toInt) rfl rfl (fun q22 => ?_) (fun q22 => ?_)
      ·
        refine wR_la rfl l_0 ?_
        refine yR_m 1 (fun _ _ _ _ => rfl) ?_
        refine wR_cv rfl rfl mO_e hm18 rfl (h_ho hm18 (by decide) (by omega)) ?_
        rintro _ _ ⟨v23, rfl, rfl, k24⟩
        show yR zpg tX12_worst (d + 15) (100, lo, [.int v23], m18) _
        refine wR_si rfl rfl (fun lo25 e26 f27 => ?_)
        have lo25_0 := f27 0 _ (by decide) (Or.inl rfl) l_0
        have lo25_1 := f27 1 _ (by decide) (Or.inl rfl) l_1
        have lo25_2 := f27 2 _ (by decide) (Or.inl rfl) l_2
        have lo25_3 := f27 3 _ (by decide) (Or.inl rfl) l_3
        have lo25_5 := f27 5 _ (by decide) (Or.inl rfl) l_5
        refine wR_li rfl lo25_5 ?_
        refine wR_si rfl rfl (fun lo28 e29 f30 => ?_)
        have lo28_4 := f30 4 _ (by decide) (Or.inl rfl) e26
        have lo28_0 := f30 0 _ (by decide) (Or.inl rfl) lo25_0
        have lo28_1 := f30 1 _ (by decide) (Or.inl rfl) lo25_1
        have lo28_2 := f30 2 _ (by decide) (Or.inl rfl) lo25_2
        have lo28_5 := f30 5 _ (by decide) (Or.inl rfl) lo25_5
        refine wN_in (a := (k).toInt) (b := 1) rfl rfl lo28_5 rfl rfl (by omega) (fun x31 e32 => fun lo33 e34 f35 => ?_)
        have lo33_3 := f35 3 _ (by decide) (Or.inl rfl) e29
        have lo33_4 := f35 4 _ (by decide) (Or.inl rfl) lo28_4
        have lo33_0 := f35 0 _ (by decide) (Or.inl rfl) lo28_0
        have lo33_1 := f35 1 _ (by decide) (Or.inl rfl) lo28_1
        have lo33_2 := f35 2 _ (by decide) (Or.inl rfl) lo28_2
        exact yR_m 1 (fun _ _ _ _ => rfl) (h5 y1 e2 q3 y6 e7 q8 m14 hm14 k15 m16 hm16 k17 m18 hm18 k19 v20 k21 q22 v23 k24 x31 e32 lo33 lo33_0 lo33_1 lo33_2 lo33_3 lo33_4 e34 hm18)
      ·
        refine yR_m 1 (fun _ _ _ _ => rfl) ?_
        refine wN_in (a := (k).toInt) (b := 1) rfl rfl l_5 rfl rfl (by omega) (fun x36 e37 => fun lo38 e39 f40 => ?_)
        have lo38_0 := f40 0 _ (by decide) (Or.inl rfl) l_0
        have lo38_1 := f40 1 _ (by decide) (Or.inl rfl) l_1
        have lo38_2 := f40 2 _ (by decide) (Or.inl rfl) l_2
        have lo38_3 := f40 3 _ (by decide) (Or.inl rfl) l_3
        have lo38_4 := f40 4 _ (by decide) (Or.inl rfl) l_4
        exact yR_m 1 (fun _ _ _ _ => rfl) (h6 y1 e2 q3 y6 e7 q8 m14 hm14 k15 m16 hm16 k17 m18 hm18 k19 v20 k21 q22 x36 e37 lo38 lo38_0 lo38_1 lo38_2 lo38_3 lo38_4 e39 hm18)

theorem wo_lp {n wh : Int32} {mr : zM} (hMr : mB Q mr) (hW : WQ Q) (hSr : tM 0 Q hu S mr) (hs : wS Q S) (hH : wH Q hu) (hKr : kM 0 K mr) (hn : 0 ≤ n.toInt ∧ n.toInt ≤ 40) (h9 : Sn S + n.toInt ≤ 999) : ∀ (g : Nat) (be le k : Int32) (mem : zM) (lo : List (Nat × Value)), k.toInt + (g : Int) = 10 → 0 ≤ k.toInt → k.toInt ≤ 9 → F1 mr mem → aTm aT0 mem → zlg lo 0 = some (.ref 221) → zlg lo 1 = some (.int n) → zlg lo 2 = some (.int wh) → zlg lo 3 = some (.int be) → zlg lo 4 = some (.int le) → zlg lo 5 = some (.int k) → yR zpg tX12_worst (d + 15) (32, lo, [], mem) (WF mr) := by
  intro g
  induction g with
  | zero =>
    intro be le k mem lo hg k0 k9
    omega
  | succ g ih =>
    intro be le k mem lo hg k0 k9 hF hm l0 l1 l2 l3 l4 l5
    have hM := F1_B hF hMr
    have mt := hM.1.2.2.1.1
    have t9 := hW.2.1.1
    exact w_wo32 (S := S) (K := K) hm l0 l1 l2 l3 l4 l5 hM hW (F1_0 hW hF hSr) hs hH (F1_k hF hKr) hn h9 ⟨k0, k9⟩ 
        (fun y1 e2 q3 q4 hm2 => ⟨_, rfl, hm2, hF⟩)
        (fun y1 e2 q3 q4 q5 hm2 => ⟨_, rfl, hm2, hF⟩)
        (fun y1 e2 q3 q4 q5 hm2 => ⟨_, rfl, hm2, hF⟩)
        (fun y1 e2 q3 y6 e7 q8 x9 e10 lo a0 a1 a2 a3 a4 a5 hm2 => by
        exact ih _ _ _ _ lo (by omega) (by omega) (by omega) hF hm2 a0 a1 a2 a3 a4 a5)
        (fun y1 e2 q3 y6 e7 q8 m14 hm14 k15 m16 hm16 k17 m18 hm18 k19 v20 k21 q22 v23 k24 x31 e32 lo a0 a1 a2 a3 a4 a5 hm2 => by
        exact ih _ _ _ _ lo (by omega) (by omega) (by omega) (F1_tr (F1_tr (F1_tr hF k15.1) k17.1) k19.1) hm2 a0 a1 a2 a3 a4 a5)
        (fun y1 e2 q3 y6 e7 q8 m14 hm14 k15 m16 hm16 k17 m18 hm18 k19 v20 k21 q22 x36 e37 lo a0 a1 a2 a3 a4 a5 hm2 => by
        exact ih _ _ _ _ lo (by omega) (by omega) (by omega) (F1_tr (F1_tr (F1_tr hF k15.1) k17.1) k19.1) hm2 a0 a1 a2 a3 a4 a5)
theorem h_wo {n wh : Int32} (hm : aTm aT0 mem) (hM : mB Q mem) (hW : WQ Q) (hS : tM 0 Q hu S mem) (hs : wS Q S) (hH : wH Q hu) (hK : kM 0 K mem) (hd : 16 ≤ d) : yC zpg d 252 [.ref 221, .int n, .int wh] mem (WF mem) := by
  obtain ⟨d, rfl⟩ : ∃ q, d = q + 16 := ⟨d - 16, by omega⟩
  have s0 := hS.1.1
  refine yC_of (t := tX12_worst) rfl rfl ?_
  exact w_wo0 (S := S) (K := K) (hu := hu) hm rfl rfl rfl hM hW hS hs hH hK 
        (fun q1 hm2 => ⟨_, rfl, hm2, F1_rf⟩)
        (fun q1 q2 hm2 => ⟨_, rfl, hm2, F1_rf⟩)
        (fun q1 q2 q3 hm2 => ⟨_, rfl, hm2, F1_rf⟩)
        (fun q1 q2 q3 y4 e5 x6 e7 q8 hm2 => ⟨_, rfl, hm2, F1_rf⟩)
        (fun q1 q2 q3 y4 e5 x6 e7 q8 q9 hm2 => ⟨_, rfl, hm2, F1_rf⟩)
        (fun q1 q2 q3 y4 e5 x6 e7 q8 q9 q10 hm2 => ⟨_, rfl, hm2, F1_rf⟩)
        (fun q1 q2 q3 y4 e5 x6 e7 q8 q9 q10 lo a0 a1 a2 a3 a4 a5 hm2 => wo_lp (S := S) (K := K) hM hW hS hs hH hK ⟨by omega, by omega⟩ (by omega) 10 _ _ _ _ lo rfl (by decide) (by decide) F1_rf hm2 a0 a1 a2 a3 a4 a5)
set_option maxRecDepth 100000 in
theorem w_od0 {d : Nat} {mem : zM} {P : Option Value → zM → Prop} {f : Int32} {lo : List (Nat × Value)} (hm : aTm aT0 mem) (l_0 : zlg lo 0 = some (.ref 221)) (l_1 : zlg lo 1 = some (.int f)) {Q : Qd} {S : Sd} {K : Kd} {hu : Int → Int} (hM : mB Q mem) (hW : WQ Q) (hS : tM 0 Q hu S mem) (hs : wS Q S) (hH : wH Q hu) (hK : kM 0 K mem) (h1 : (f).toInt = (-1) → ∀ (y2 : Int32), y2.toInt = (gn (ga mem 228) (gi mem 221 13).toInt) → (gn (ga mem 228) (gi mem 221 13).toInt) = 0 → aTm aT0 mem → P (some (.int (-1))) mem) (h2 : (f).toInt = (-1) → ∀ (y2 : Int32), y2.toInt = (gn (ga mem 228) (gi mem 221 13).toInt) → ¬ (gn (ga mem 228) (gi mem 221 13).toInt) = 0 → (gi mem 221 46).toInt = 0 → aTm aT0 mem → P (some (.int (-1))) mem) (h3 : (f).toInt = (-1) → ∀ (y2 : Int32), y2.toInt = (gn (ga mem 228) (gi mem 221 13).toInt) → ¬ (gn (ga mem 228) (gi mem 221 13).toInt) = 0 → ¬ (gi mem 221 46).toInt = 0 → ∀ (y6 : Int32), y6.toInt = (gn (ga mem 249) 0) → ∀ (x8 : Int32), x8.toInt = ((999 - 1) : Int) → ((999 - 1) : Int) < (gn (ga mem 249) 0) → aTm aT0 mem → P (some (.int (-1))) mem) (h4 : (f).toInt = (-1) → ∀ (y2 : Int32), y2.toInt = (gn (ga mem 228) (gi mem 221 13).toInt) → ¬ (gn (ga mem 228) (gi mem 221 13).toInt) = 0 → ¬ (gi mem 221 46).toInt = 0 → ∀ (y6 : Int32), y6.toInt = (gn (ga mem 249) 0) → ∀ (x8 : Int32), x8.toInt = ((999 - 1) : Int) → (gn (ga mem 249) 0) ≤ ((999 - 1) : Int) → ∀ (y11 : Int32), y11.toInt = (gn (ga mem 228) (gi mem 221 13).toInt) → aTm aT0 mem → P (some (.int (100 * y11))) mem) (h5 : ¬ (f).toInt = (-1) → (f).toInt < 0 → aTm aT0 mem → P (some (.int (-1))) mem) (h6 : ¬ (f).toInt = (-1) → 0 ≤ (f).toInt → ∀ (y14 : Int32), y14.toInt = (gn (ga mem 233) (gi mem 221 13).toInt) → (gn (ga mem 233) (gi mem 221 13).toInt) ≤ (f).toInt → aTm aT0 mem → P (some (.int (-1))) mem) (h7 : ¬ (f).toInt = (-1) → 0 ≤ (f).toInt → ∀ (y14 : Int32), y14.toInt = (gn (ga mem 233) (gi mem 221 13).toInt) → (f).toInt < (gn (ga mem 233) (gi mem 221 13).toInt) → ∀ (y17 : Int32), y17.toInt = (gn (ga mem 228) (gi mem 221 13).toInt) → (gn (ga mem 228) (gi mem 221 13).toInt) = 0 → aTm aT0 mem → P (some (.int (-1))) mem) (h8 : ¬ (f).toInt = (-1) → 0 ≤ (f).toInt → ∀ (y14 : Int32), y14.toInt = (gn (ga mem 233) (gi mem 221 13).toInt) → (f).toInt < (gn (ga mem 233) (gi mem 221 13).toInt) → ∀ (y17 : Int32), y17.toInt = (gn (ga mem 228) (gi mem 221 13).toInt) → ¬ (gn (ga mem 228) (gi mem 221 13).toInt) = 0 → (gi mem 221 46).toInt = 0 → aTm aT0 mem → P (some (.int (-1))) mem) (h9 : ¬ (f).toInt = (-1) → 0 ≤ (f).toInt → ∀ (y14 : Int32), y14.toInt = (gn (ga mem 233) (gi mem 221 13).toInt) → (f).toInt < (gn (ga mem 233) (gi mem 221 13).toInt) → ∀ (y17 : Int32), y17.toInt = (gn (ga mem 228) (gi mem 221 13).toInt) → ¬ (gn (ga mem 228) (gi mem 221 13).toInt) = 0 → ¬ (gi mem 221 46).toInt = 0 → ∀ (y21 : Int32), y21.toInt = (gn (ga mem 249) 0) → ∀ (x23 : Int32), x23.toInt = ((999 - 1) : Int) → ((999 - 1) : Int) < (gn (ga mem 249) 0) → aTm aT0 mem → P (some (.int (-1))) mem) (h10 : ¬ (f).toInt = (-1) → 0 ≤ (f).toInt → ∀ (y14 : Int32), y14.toInt = (gn (ga mem 233) (gi mem 221 13).toInt) → (f).toInt < (gn (ga mem 233) (gi mem 221 13).toInt) → ∀ (y17 : Int32), y17.toInt = (gn (ga mem 228) (gi mem 221 13).toInt) → ¬ (gn (ga mem 228) (gi mem 221 13).toInt) = 0 → ¬ (gi mem 221 46).toInt = 0 → ∀ (y21 : Int32), y21.toInt = (gn (ga mem 249) 0) → ∀ (x23 : Int32), x23.toInt = ((999 - 1) : Int) → (gn (ga mem 249) 0) ≤ ((999 - 1) : Int) → ∀ lo, zlg lo 0 = some (.ref 221) → zlg lo 1 = some (.int f) → zlg lo 2 = some (.int 0) → zlg lo 3 = some (.int (-1)) → aTm aT0 mem → yR zpg tX12_odds (d + 15) (59, lo, [], mem) P) : yR zpg tX12_odds (d + 15) (0, lo, [], mem) P := by
  have s0 := hS.1.1
  have s9 := hs.1
  have rb := mO_r13 hm
  have mt := hM.1.2.2.1.1
  have t9 := hW.2.1.1
  have e9 : thN Q = ((Qt Q).length : Int) := rfl
  have mf := hM.1.2.2.2.2.1.1
  have f9 := hW.2.1.2.1
  have ef9 : foN Q = ((Qf Q).length : Int) := rfl
  refine wR_li rfl l_1 ?_
  refine yR_m 1 (fun _ _ _ _ => rfl) ?_
  refine wR_ic_eq rfl (a := (f).toInt) (c := (-1)) rfl tm1 (fun q1 => ?_) (fun q1 => ?_)
  ·
    refine wR_la rfl l_0 ?_
    refine wR_gr rfl mO_e mO_19 hm ?_
    refine wR_la rfl l_0 ?_
    refine wR_gi rfl mO_e mO_13 hm rfl ?_
    refine wN_al (a := (gi mem 221 13).toInt) rfl aR_228 hm rfl rfl (by omega) (fun y2 e3 => ?_)
    refine wR_if_eq rfl (a := (gn (ga mem 228) (gi mem 221 13).toInt)) e3 (fun q4 => ?_) (fun q4 => ?_)
    ·
      refine yR_m 1 (fun _ _ _ _ => rfl) ?_
      exact yR_ri rfl (h1 q1 y2 e3 q4 hm)
    ·
      refine wR_la rfl l_0 ?_
      refine yR_m 3 (fun _ _ _ _ => rfl) ?_
      refine wR_iv rfl rfl mO_e hm rfl rfl rfl rfl ?_
      show yR zpg tX12_isAhead (d + 14) (0, [(0, .ref 221), (1, .int 1), (2, .int 1), (3, .int 1)], [], mem) _
      refine yR_m 1 (fun _ _ _ _ => rfl) ?_
      refine wR_gi rfl mO_e mO_46 hm rfl ?_
      refine wR_if_eq rfl (a := (gi mem 221 46).toInt) rfl (fun q5 => ?_) (fun q5 => ?_)
      ·
        refine yR_m 1 (fun _ _ _ _ => rfl) ?_
        refine yR_rz rfl ⟨by decide, by decide⟩ ?_
        show yR zpg tX12_odds (d + 15) (32, lo, [.int 0], mem) _
        refine wR_if_ne rfl (a := 0) rfl (fun q => by exfalso; omega) (fun _ => ?_)
        refine yR_m 1 (fun _ _ _ _ => rfl) ?_
        exact yR_ri rfl (h2 q1 y2 e3 q4 q5 hm)
      ·
        refine yR_m 3 (fun _ _ _ _ => rfl) ?_
        refine wR_is rfl rfl rfl rfl rfl rfl ?_
        show yR zpg tX12_is (d + 13) (0, [(0, .int 1), (1, .int 1), (2, .int 1)], [], mem) _
        refine yR_m 2 (fun _ _ _ _ => rfl) ?_
        refine wR_ic_lt rfl (a := 1) (c := 1) rfl rfl (fun q => by exfalso; omega) (fun _ => ?_)
        refine yR_m 2 (fun _ _ _ _ => rfl) ?_
        refine wR_ic_gt rfl (a := 1) (c := 1) rfl rfl (fun q => by exfalso; omega) (fun _ => ?_)
        refine yR_m 2 (fun _ _ _ _ => rfl) ?_
        refine yR_rz rfl ⟨by decide, by decide⟩ ?_
        show yR zpg tX12_isAhead (d + 14) (13, [(0, .ref 221), (1, .int 1), (2, .int 1), (3, .int 1)], [.int 1], mem) _
        refine wR_if_eq rfl (a := 1) rfl (fun q => by exfalso; omega) (fun _ => ?_)
        refine yR_m 1 (fun _ _ _ _ => rfl) ?_
        refine wR_gr rfl mO_e mO_48 hm ?_
        refine yR_m 1 (fun _ _ _ _ => rfl) ?_
        refine wN_al (a := 0) rfl aR_249 hm rfl rfl (by decide) (fun y6 e7 => ?_)
        refine yR_m 2 (fun _ _ _ _ => rfl) ?_
        refine wN_sub (a := 999) (b := 1) rfl rfl rfl (by omega) (fun x8 e9 => ?_)
        refine wR_ic_gt rfl (a := (gn (ga mem 249) 0)) (c := ((999 - 1) : Int)) e7 e9 (fun q10 => ?_) (fun q10 => ?_)
        ·
          refine yR_m 1 (fun _ _ _ _ => rfl) ?_
          refine yR_rz rfl ⟨by decide, by decide⟩ ?_
          show yR zpg tX12_odds (d + 15) (32, lo, [.int 0], mem) _
          refine wR_if_ne rfl (a := 0) rfl (fun q => by exfalso; omega) (fun _ => ?_)
          refine yR_m 1 (fun _ _ _ _ => rfl) ?_
          exact yR_ri rfl (h3 q1 y2 e3 q4 q5 y6 e7 x8 e9 q10 hm)
        ·
          refine yR_m 2 (fun _ _ _ _ => rfl) ?_
          refine yR_rz rfl ⟨by decide, by decide⟩ ?_
          show yR zpg tX12_odds (d + 15) (32, lo, [.int 1], mem) _
          refine wR_if_ne rfl (a := 1) rfl (fun _ => ?_) (fun q => by exfalso; omega)
          refine wR_li rfl l_1 ?_
          refine yR_m 1 (fun _ _ _ _ => rfl) ?_
          refine wR_ic_ne rfl (a := (f).toInt) (c := (-1)) rfl tm1 (fun q => by exfalso; omega) (fun _ => ?_)
          refine yR_m 1 (fun _ _ _ _ => rfl) ?_
          refine wR_la rfl l_0 ?_
          refine wR_gr rfl mO_e mO_19 hm ?_
          refine wR_la rfl l_0 ?_
          refine wR_gi rfl mO_e mO_13 hm rfl ?_
          refine wN_al (a := (gi mem 221 13).toInt) rfl aR_228 hm rfl rfl (by omega) (fun y11 e12 => ?_)
          refine yR_m 1 (fun _ _ _ _ => rfl) ?_
          exact yR_ri rfl (h4 q1 y2 e3 q4 q5 y6 e7 x8 e9 q10 y11 e12 hm)
  ·
    refine wR_la rfl l_0 ?_
    refine wR_li rfl l_1 ?_
    refine wR_iv rfl rfl mO_e hm rfl rfl rfl rfl ?_
    show yR zpg tX12_isFolk (d + 14) (0, [(0, .ref 221), (1, .int f)], [], mem) _
    refine yR_m 1 (fun _ _ _ _ => rfl) ?_
    refine wR_if_lt rfl (a := (f).toInt) rfl (fun q13 => ?_) (fun q13 => ?_)
    ·
      refine yR_m 1 (fun _ _ _ _ => rfl) ?_
      refine yR_rz rfl ⟨by decide, by decide⟩ ?_
      show yR zpg tX12_odds (d + 15) (10, lo, [.int 0], mem) _
      refine wR_if_eq rfl (a := 0) rfl (fun _ => ?_) (fun q => by exfalso; omega)
      refine yR_m 1 (fun _ _ _ _ => rfl) ?_
      exact yR_ri rfl (h5 q1 q13 hm)
    ·
      refine yR_m 2 (fun _ _ _ _ => rfl) ?_
      refine wR_gr rfl mO_e mO_24 hm ?_
      refine yR_m 1 (fun _ _ _ _ => rfl) ?_
      refine wR_gi rfl mO_e mO_13 hm rfl ?_
      refine wN_al (a := (gi mem 221 13).toInt) rfl aR_233 hm rfl rfl (by omega) (fun y14 e15 => ?_)
      refine wR_ic_ge rfl (a := (f).toInt) (c := (gn (ga mem 233) (gi mem 221 13).toInt)) rfl e15 (fun q16 => ?_) (fun q16 => ?_)
      ·
        refine yR_m 1 (fun _ _ _ _ => rfl) ?_
        refine yR_rz rfl ⟨by decide, by decide⟩ ?_
        show yR zpg tX12_odds (d + 15) (10, lo, [.int 0], mem) _
        refine wR_if_eq rfl (a := 0) rfl (fun _ => ?_) (fun q => by exfalso; omega)
        refine yR_m 1 (fun _ _ _ _ => rfl) ?_
        exact yR_ri rfl (h6 q1 q13 y14 e15 q16 hm)
      ·
        refine yR_m 2 (fun _ _ _ _ => rfl) ?_
        refine yR_rz rfl ⟨by decide, by decide⟩ ?_
        show yR zpg tX12_odds (d + 15) (10, lo, [.int 1], mem) _
        refine wR_if_eq rfl (a := 1) rfl (fun q => by exfalso; omega) (fun _ => ?_)
        refine wR_la rfl l_0 ?_
        refine wR_gr rfl mO_e mO_19 hm ?_
        refine wR_la rfl l_0 ?_
        refine wR_gi rfl mO_e mO_13 hm rfl ?_
        refine wN_al (a := (gi mem 221 13).toInt) rfl aR_228 hm rfl rfl (by omega) (fun y17 e18 => ?_)
        refine wR_if_eq rfl (a := (gn (ga mem 228) (gi mem 221 13).toInt)) e18 (fun q19 => ?_) (fun q19 => ?_)
        ·
          refine yR_m 1 (fun _ _ _ _ => rfl) ?_
          exact yR_ri rfl (h7 q1 q13 y14 e15 q16 y17 e18 q19 hm)
        ·
          refine wR_la rfl l_0 ?_
          refine yR_m 3 (fun _ _ _ _ => rfl) ?_
          refine wR_iv rfl rfl mO_e hm rfl rfl rfl rfl ?_
          show yR zpg tX12_isAhead (d + 14) (0, [(0, .ref 221), (1, .int 1), (2, .int 1), (3, .int 1)], [], mem) _
          refine yR_m 1 (fun _ _ _ _ => rfl) ?_
          refine wR_gi rfl mO_e mO_46 hm rfl ?_
          refine wR_if_eq rfl (a := (gi mem 221 46).toInt) rfl (fun q20 => ?_) (fun q20 => ?_)
          ·
            refine yR_m 1 (fun _ _ _ _ => rfl) ?_
            refine yR_rz rfl ⟨by decide, by decide⟩ ?_
            show yR zpg tX12_odds (d + 15) (32, lo, [.int 0], mem) _
            refine wR_if_ne rfl (a := 0) rfl (fun q => by exfalso; omega) (fun _ => ?_)
            refine yR_m 1 (fun _ _ _ _ => rfl) ?_
            exact yR_ri rfl (h8 q1 q13 y14 e15 q16 y17 e18 q19 q20 hm)
          ·
            refine yR_m 3 (fun _ _ _ _ => rfl) ?_
            refine wR_is rfl rfl rfl rfl rfl rfl ?_
            show yR zpg tX12_is (d + 13) (0, [(0, .int 1), (1, .int 1), (2, .int 1)], [], mem) _
            refine yR_m 2 (fun _ _ _ _ => rfl) ?_
            refine wR_ic_lt rfl (a := 1) (c := 1) rfl rfl (fun q => by exfalso; omega) (fun _ => ?_)
            refine yR_m 2 (fun _ _ _ _ => rfl) ?_
            refine wR_ic_gt rfl (a := 1) (c := 1) rfl rfl (fun q => by exfalso; omega) (fun _ => ?_)
            refine yR_m 2 (fun _ _ _ _ => rfl) ?_
            refine yR_rz rfl ⟨by decide, by decide⟩ ?_
            show yR zpg tX12_isAhead (d + 14) (13, [(0, .ref 221), (1, .int 1), (2, .int 1), (3, .int 1)], [.int 1], mem) _
            refine wR_if_eq rfl (a := 1) rfl (fun q => by exfalso; omega) (fun _ => ?_)
            refine yR_m 1 (fun _ _ _ _ => rfl) ?_
            refine wR_gr rfl mO_e mO_48 hm ?_
            refine yR_m 1 (fun _ _ _ _ => rfl) ?_
            refine wN_al (a := 0) rfl aR_249 hm rfl rfl (by decide) (fun y21 e22 => ?_)
            refine yR_m 2 (fun _ _ _ _ => rfl) ?_
            refine wN_sub (a := 999) (b := 1) rfl rfl rfl (by omega) (fun x23 e24 => ?_)
            refine wR_ic_gt rfl (a := (gn (ga mem 249) 0)) (c := ((999 - 1) : Int)) e22 e24 (fun q25 => ?_) (fun q25 => ?_)
            ·
              refine yR_m 1 (fun _ _ _ _ => rfl) ?_
              refine yR_rz rfl ⟨by decide, by decide⟩ ?_
              show yR zpg tX12_odds (d + 15) (32, lo, [.int 0], mem) _
              refine wR_if_ne rfl (a := 0) rfl (fun q => by exfalso; omega) (fun _ => ?_)
              refine yR_m 1 (fun _ _ _ _ => rfl) ?_
              exact yR_ri rfl (h9 q1 q13 y14 e15 q16 y17 e18 q19 q20 y21 e22 x23 e24 q25 hm)
            ·
              refine yR_m 2 (fun _ _ _ _ => rfl) ?_
              refine yR_rz rfl ⟨by decide, by decide⟩ ?_
              show yR zpg tX12_odds (d + 15) (32, lo, [.int 1], mem) _
              refine wR_if_ne rfl (a := 1) rfl (fun _ => ?_) (fun q => by exfalso; omega)
              refine wR_li rfl l_1 ?_
              refine yR_m 1 (fun _ _ _ _ => rfl) ?_
              refine wR_ic_ne rfl (a := (f).toInt) (c := (-1)) rfl tm1 (fun _ => ?_) (fun q => by exfalso; omega)
              refine yR_m 1 (fun _ _ _ _ => rfl) ?_
              refine wR_si rfl rfl (fun lo26 e27 f28 => ?_)
              have lo26_0 := f28 0 _ (by decide) (Or.inl rfl) l_0
              have lo26_1 := f28 1 _ (by decide) (Or.inl rfl) l_1
              refine yR_m 1 (fun _ _ _ _ => rfl) ?_
              refine wR_si rfl rfl (fun lo29 e30 f31 => ?_)
              have lo29_2 := f31 2 _ (by decide) (Or.inl rfl) e27
              have lo29_0 := f31 0 _ (by decide) (Or.inl rfl) lo26_0
              have lo29_1 := f31 1 _ (by decide) (Or.inl rfl) lo26_1
              exact h10 q1 q13 y14 e15 q16 y17 e18 q19 q20 y21 e22 x23 e24 q25 lo29 lo29_0 lo29_1 lo29_2 e30 hm

set_option maxRecDepth 100000 in
theorem w_od59 {d : Nat} {mem : zM} {P : Option Value → zM → Prop} {f n k : Int32} {lo : List (Nat × Value)} (hm : aTm aT0 mem) (l_0 : zlg lo 0 = some (.ref 221)) (l_1 : zlg lo 1 = some (.int f)) (l_2 : zlg lo 2 = some (.int n)) (l_3 : zlg lo 3 = some (.int k)) {Q : Qd} {S : Sd} {K : Kd} {hu : Int → Int} (hM : mB Q mem) (hW : WQ Q) (hS : tM 0 Q hu S mem) (hs : wS Q S) (hH : wH Q hu) (hK : kM 0 K mem) (hf : 0 ≤ f.toInt ∧ f.toInt ≤ 5) (hk : -1 ≤ k.toInt ∧ k.toInt ≤ 9) (h1 : ∀ (y1 : Int32), y1.toInt = (gn (ga mem 228) (gi mem 221 13).toInt) → (gn (ga mem 228) (gi mem 221 13).toInt) ≤ (k).toInt → aTm aT0 mem → P (some (.int n)) mem) (h2 : ∀ (y1 : Int32), y1.toInt = (gn (ga mem 228) (gi mem 221 13).toInt) → (k).toInt < (gn (ga mem 228) (gi mem 221 13).toInt) → ∀ (m4 : zM), aTm aT0 m4 → (F1 mem m4 ∧ X1 Q hu S m4) → ∀ (v8 : Int32) (m6 : zM), aTm aT0 m6 → (F1 m4 m6 ∧ X1 Q hu (tkS Q hu (k : Int32).toInt S) m6) → ¬ (k).toInt = (-1) → ∀ (y10 : Int32), y10.toInt = (gn (ga m6 226) (gi m6 221 13).toInt) → ∀ (x15 : Int32), x15.toInt = ((6 * 1) : Int) → ∀ (x17 : Int32), x17.toInt = (((6 * 1) : Int) + (f).toInt) → ∀ (y19 : Int32), y19.toInt = (gn (ga m6 252) (((6 * 1) : Int) + (f).toInt)) → ∀ (x21 : Int32), x21.toInt = (6 * (gi m6 221 13).toInt) → ∀ (x23 : Int32), x23.toInt = ((6 * (gi m6 221 13).toInt) + (f).toInt) → ∀ (y25 : Int32), y25.toInt = (gn (ga m6 235) ((6 * (gi m6 221 13).toInt) + (f).toInt)) → ¬ (gn (ga m6 252) (((6 * 1) : Int) + (f).toInt)) = (gn (ga m6 235) ((6 * (gi m6 221 13).toInt) + (f).toInt)) → ∀ (x31 : Int32), x31.toInt = ((k).toInt + 1) → ∀ lo, zlg lo 0 = some (.ref 221) → zlg lo 1 = some (.int f) → zlg lo 2 = some (.int (n + 0)) → zlg lo 3 = some (.int x31) → aTm aT0 m6 → yR zpg tX12_odds (d + 15) (59, lo, [], m6) P) (h3 : ∀ (y1 : Int32), y1.toInt = (gn (ga mem 228) (gi mem 221 13).toInt) → (k).toInt < (gn (ga mem 228) (gi mem 221 13).toInt) → ∀ (m4 : zM), aTm aT0 m4 → (F1 mem m4 ∧ X1 Q hu S m4) → ∀ (v8 : Int32) (m6 : zM), aTm aT0 m6 → (F1 m4 m6 ∧ X1 Q hu (tkS Q hu (k : Int32).toInt S) m6) → ¬ (k).toInt = (-1) → ∀ (y10 : Int32), y10.toInt = (gn (ga m6 226) (gi m6 221 13).toInt) → ∀ (x15 : Int32), x15.toInt = ((6 * 1) : Int) → ∀ (x17 : Int32), x17.toInt = (((6 * 1) : Int) + (f).toInt) → ∀ (y19 : Int32), y19.toInt = (gn (ga m6 252) (((6 * 1) : Int) + (f).toInt)) → ∀ (x21 : Int32), x21.toInt = (6 * (gi m6 221 13).toInt) → ∀ (x23 : Int32), x23.toInt = ((6 * (gi m6 221 13).toInt) + (f).toInt) → ∀ (y25 : Int32), y25.toInt = (gn (ga m6 235) ((6 * (gi m6 221 13).toInt) + (f).toInt)) → (gn (ga m6 252) (((6 * 1) : Int) + (f).toInt)) = (gn (ga m6 235) ((6 * (gi m6 221 13).toInt) + (f).toInt)) → ∀ (x39 : Int32), x39.toInt = ((k).toInt + 1) → ∀ lo, zlg lo 0 = some (.ref 221) → zlg lo 1 = some (.int f) → zlg lo 2 = some (.int (n + y10)) → zlg lo 3 = some (.int x39) → aTm aT0 m6 → yR zpg tX12_odds (d + 15) (59, lo, [], m6) P) (h4 : ∀ (y1 : Int32), y1.toInt = (gn (ga mem 228) (gi mem 221 13).toInt) → (k).toInt < (gn (ga mem 228) (gi mem 221 13).toInt) → ∀ (m4 : zM), aTm aT0 m4 → (F1 mem m4 ∧ X1 Q hu S m4) → ∀ (v8 : Int32) (m6 : zM), aTm aT0 m6 → (F1 m4 m6 ∧ X1 Q hu (tkS Q hu (k : Int32).toInt S) m6) → (k).toInt = (-1) → ∀ (y44 : Int32), y44.toInt = (gn (ga m6 226) (gi m6 221 13).toInt) → ∀ (y46 : Int32), y46.toInt = (gn (ga m6 228) (gi m6 221 13).toInt) → ∀ (x51 : Int32), x51.toInt = ((6 * 1) : Int) → ∀ (x53 : Int32), x53.toInt = (((6 * 1) : Int) + (f).toInt) → ∀ (y55 : Int32), y55.toInt = (gn (ga m6 252) (((6 * 1) : Int) + (f).toInt)) → ∀ (x57 : Int32), x57.toInt = (6 * (gi m6 221 13).toInt) → ∀ (x59 : Int32), x59.toInt = ((6 * (gi m6 221 13).toInt) + (f).toInt) → ∀ (y61 : Int32), y61.toInt = (gn (ga m6 235) ((6 * (gi m6 221 13).toInt) + (f).toInt)) → ¬ (gn (ga m6 252) (((6 * 1) : Int) + (f).toInt)) = (gn (ga m6 235) ((6 * (gi m6 221 13).toInt) + (f).toInt)) → ∀ (x67 : Int32), x67.toInt = ((k).toInt + 1) → ∀ lo, zlg lo 0 = some (.ref 221) → zlg lo 1 = some (.int f) → zlg lo 2 = some (.int (n + 0)) → zlg lo 3 = some (.int x67) → aTm aT0 m6 → yR zpg tX12_odds (d + 15) (59, lo, [], m6) P) (h5 : ∀ (y1 : Int32), y1.toInt = (gn (ga mem 228) (gi mem 221 13).toInt) → (k).toInt < (gn (ga mem 228) (gi mem 221 13).toInt) → ∀ (m4 : zM), aTm aT0 m4 → (F1 mem m4 ∧ X1 Q hu S m4) → ∀ (v8 : Int32) (m6 : zM), aTm aT0 m6 → (F1 m4 m6 ∧ X1 Q hu (tkS Q hu (k : Int32).toInt S) m6) → (k).toInt = (-1) → ∀ (y44 : Int32), y44.toInt = (gn (ga m6 226) (gi m6 221 13).toInt) → ∀ (y46 : Int32), y46.toInt = (gn (ga m6 228) (gi m6 221 13).toInt) → ∀ (x51 : Int32), x51.toInt = ((6 * 1) : Int) → ∀ (x53 : Int32), x53.toInt = (((6 * 1) : Int) + (f).toInt) → ∀ (y55 : Int32), y55.toInt = (gn (ga m6 252) (((6 * 1) : Int) + (f).toInt)) → ∀ (x57 : Int32), x57.toInt = (6 * (gi m6 221 13).toInt) → ∀ (x59 : Int32), x59.toInt = ((6 * (gi m6 221 13).toInt) + (f).toInt) → ∀ (y61 : Int32), y61.toInt = (gn (ga m6 235) ((6 * (gi m6 221 13).toInt) + (f).toInt)) → (gn (ga m6 252) (((6 * 1) : Int) + (f).toInt)) = (gn (ga m6 235) ((6 * (gi m6 221 13).toInt) + (f).toInt)) → ∀ (x75 : Int32), x75.toInt = ((k).toInt + 1) → ∀ lo, zlg lo 0 = some (.ref 221) → zlg lo 1 = some (.int f) → zlg lo 2 = some (.int (n + ((100 - y44) * y46))) → zlg lo 3 = some (.int x75) → aTm aT0 m6 → yR zpg tX12_odds (d + 15) (59, lo, [], m6) P) : yR zpg tX12_odds (d + 15) (59, lo, [], mem) P := by
  have rb := mO_r13 hm
  refine wR_li rfl l_3 ?_
  refine wR_la rfl l_0 ?_
  refine wR_gr rfl mO_e mO_19 hm ?_
  refine wR_la rfl l_0 ?_
  refine wR_gi rfl mO_e mO_13 hm rfl ?_
  refine wN_al (a := (gi mem 221 13).toInt) rfl aR_228 hm rfl rfl (by omega) (fun y1 e2 => ?_)
  refine wR_ic_ge rfl (a := (k).toInt) (c := (gn (ga mem 228) (gi mem 221 13).toInt)) rfl e2 (fun q3 => ?_) (fun q3 => ?_)
  ·
    refine wR_li rfl l_2 ?_
    exact yR_ri rfl (h1 y1 e2 q3 hm)
  ·
    refine wR_la rfl l_0 ?_
    refine yR_m 2 (fun _ _ _ _ => rfl) ?_
    refine wR_cv rfl rfl mO_e hm rfl (h_c1 (Q := Q) (S := S) (K := K) (hu := hu) hm hW hS hK (by omega)) ?_
    rintro _ m4 ⟨rfl, hm4, k5⟩
    show yR zpg tX12_odds (d + 15) (78, lo, [], m4) _
    have rb_m4 := mO_r13 hm4
    refine wR_la rfl l_0 ?_
    refine yR_m 1 (fun _ _ _ _ => rfl) ?_
    refine wR_li rfl l_3 ?_
    refine wR_cv rfl rfl mO_e hm4 rfl (h_t1 (Q := Q) (S := S) (hu := hu) hm4 (F1_B k5.1 hM) hW k5.2 hs hH (by omega)) ?_
    rintro _ m6 ⟨v8, rfl, hm6, k7⟩
    show yR zpg tX12_odds (d + 15) (84, lo, [.int v8], m6) _
    have rb_m6 := mO_r13 hm6
    refine yR_m 1 (fun _ _ _ _ => rfl) ?_
    refine wR_li rfl l_3 ?_
    refine yR_m 1 (fun _ _ _ _ => rfl) ?_
    refine wR_ic_ne rfl (a := (k).toInt) (c := (-1)) rfl tm1 (fun q9 => ?_) (fun q9 => ?_)
    ·
      refine wR_la rfl l_0 ?_
      refine wR_gr rfl mO_e mO_17 hm6 ?_
      refine wR_la rfl l_0 ?_
      refine wR_gi rfl mO_e mO_13 hm6 rfl ?_
      refine wN_al (a := (gi m6 221 13).toInt) rfl aR_226 hm6 rfl rfl (by omega) (fun y10 e11 => ?_)
      refine wR_si rfl rfl (fun lo12 e13 f14 => ?_)
      have lo12_0 := f14 0 _ (by decide) (Or.inl rfl) l_0
      have lo12_1 := f14 1 _ (by decide) (Or.inl rfl) l_1
      have lo12_2 := f14 2 _ (by decide) (Or.inl rfl) l_2
      have lo12_3 := f14 3 _ (by decide) (Or.inl rfl) l_3
      refine wR_li rfl lo12_2 ?_
      refine wR_la rfl lo12_0 ?_
      refine yR_m 1 (fun _ _ _ _ => rfl) ?_
      refine wR_li rfl lo12_1 ?_
      refine wR_iv rfl rfl mO_e hm6 rfl rfl rfl rfl ?_
      show yR zpg tX12_isHome (d + 14) (0, [(0, .ref 221), (1, .int 1), (2, .int f)], [], m6) _
      refine yR_m 1 (fun _ _ _ _ => rfl) ?_
      refine wR_gr rfl mO_e mO_51 hm6 ?_
      refine yR_m 2 (fun _ _ _ _ => rfl) ?_
      refine wN_mul (a := 6) (b := 1) rfl rfl rfl (by omega) (fun x15 e16 => ?_)
      refine yR_m 1 (fun _ _ _ _ => rfl) ?_
      refine wN_add (a := ((6 * 1) : Int)) (b := (f).toInt) rfl e16 rfl (by omega) (fun x17 e18 => ?_)
      refine wN_al (a := (((6 * 1) : Int) + (f).toInt)) rfl aR_252 hm6 rfl e18 (by omega) (fun y19 e20 => ?_)
      refine yR_m 1 (fun _ _ _ _ => rfl) ?_
      refine wR_gr rfl mO_e mO_26 hm6 ?_
      refine yR_m 2 (fun _ _ _ _ => rfl) ?_
      refine wR_gi rfl mO_e mO_13 hm6 rfl ?_
      refine wN_mul (a := 6) (b := (gi m6 221 13).toInt) rfl rfl rfl (by omega) (fun x21 e22 => ?_)
      refine yR_m 1 (fun _ _ _ _ => rfl) ?_
      refine wN_add (a := (6 * (gi m6 221 13).toInt)) (b := (f).toInt) rfl e22 rfl (by omega) (fun x23 e24 => ?_)
      refine wN_al (a := ((6 * (gi m6 221 13).toInt) + (f).toInt)) rfl aR_235 hm6 rfl e24 (by omega) (fun y25 e26 => ?_)
      refine wR_ic_ne rfl (a := (gn (ga m6 252) (((6 * 1) : Int) + (f).toInt))) (c := (gn (ga m6 235) ((6 * (gi m6 221 13).toInt) + (f).toInt))) e20 e26 (fun q27 => ?_) (fun q27 => ?_)
      ·
        refine yR_m 1 (fun _ _ _ _ => rfl) ?_
        refine yR_rz rfl ⟨by decide, by decide⟩ ?_
        show yR zpg tX12_odds (d + 15) (133, lo12, [.int 0, .int n], m6) _
        refine wR_if_eq rfl (a := 0) rfl (fun _ => ?_) (fun q => by exfalso; omega)
        refine yR_m 2 (fun _ _ _ _ => rfl) ?_
        refine wR_si rfl rfl (fun lo28 e29 f30 => ?_)
        have lo28_4 := f30 4 _ (by decide) (Or.inl rfl) e13
        have lo28_0 := f30 0 _ (by decide) (Or.inl rfl) lo12_0
        have lo28_1 := f30 1 _ (by decide) (Or.inl rfl) lo12_1
        have lo28_3 := f30 3 _ (by decide) (Or.inl rfl) lo12_3
        refine wN_in (a := (k).toInt) (b := 1) rfl rfl lo28_3 rfl rfl (by omega) (fun x31 e32 => fun lo33 e34 f35 => ?_)
        have lo33_2 := f35 2 _ (by decide) (Or.inl rfl) e29
        have lo33_4 := f35 4 _ (by decide) (Or.inl rfl) lo28_4
        have lo33_0 := f35 0 _ (by decide) (Or.inl rfl) lo28_0
        have lo33_1 := f35 1 _ (by decide) (Or.inl rfl) lo28_1
        exact yR_m 1 (fun _ _ _ _ => rfl) (h2 y1 e2 q3 m4 hm4 k5 v8 m6 hm6 k7 q9 y10 e11 x15 e16 x17 e18 y19 e20 x21 e22 x23 e24 y25 e26 q27 x31 e32 lo33 lo33_0 lo33_1 lo33_2 e34 hm6)
      ·
        refine yR_m 2 (fun _ _ _ _ => rfl) ?_
        refine yR_rz rfl ⟨by decide, by decide⟩ ?_
        show yR zpg tX12_odds (d + 15) (133, lo12, [.int 1, .int n], m6) _
        refine wR_if_eq rfl (a := 1) rfl (fun q => by exfalso; omega) (fun _ => ?_)
        refine wR_li rfl e13 ?_
        refine yR_m 2 (fun _ _ _ _ => rfl) ?_
        refine wR_si rfl rfl (fun lo36 e37 f38 => ?_)
        have lo36_4 := f38 4 _ (by decide) (Or.inl rfl) e13
        have lo36_0 := f38 0 _ (by decide) (Or.inl rfl) lo12_0
        have lo36_1 := f38 1 _ (by decide) (Or.inl rfl) lo12_1
        have lo36_3 := f38 3 _ (by decide) (Or.inl rfl) lo12_3
        refine wN_in (a := (k).toInt) (b := 1) rfl rfl lo36_3 rfl rfl (by omega) (fun x39 e40 => fun lo41 e42 f43 => ?_)
        have lo41_2 := f43 2 _ (by decide) (Or.inl rfl) e37
        have lo41_4 := f43 4 _ (by decide) (Or.inl rfl) lo36_4
        have lo41_0 := f43 0 _ (by decide) (Or.inl rfl) lo36_0
        have lo41_1 := f43 1 _ (by decide) (Or.inl rfl) lo36_1
        exact yR_m 1 (fun _ _ _ _ => rfl) (h3 y1 e2 q3 m4 hm4 k5 v8 m6 hm6 k7 q9 y10 e11 x15 e16 x17 e18 y19 e20 x21 e22 x23 e24 y25 e26 q27 x39 e40 lo41 lo41_0 lo41_1 lo41_2 e42 hm6)
    ·
      refine yR_m 1 (fun _ _ _ _ => rfl) ?_
      refine wR_la rfl l_0 ?_
      refine wR_gr rfl mO_e mO_17 hm6 ?_
      refine wR_la rfl l_0 ?_
      refine wR_gi rfl mO_e mO_13 hm6 rfl ?_
      refine wN_al (a := (gi m6 221 13).toInt) rfl aR_226 hm6 rfl rfl (by omega) (fun y44 e45 => ?_)
      refine yR_m 1 (fun _ _ _ _ => rfl) ?_
      refine wR_la rfl l_0 ?_
      refine wR_gr rfl mO_e mO_19 hm6 ?_
      refine wR_la rfl l_0 ?_
      refine wR_gi rfl mO_e mO_13 hm6 rfl ?_
      refine wN_al (a := (gi m6 221 13).toInt) rfl aR_228 hm6 rfl rfl (by omega) (fun y46 e47 => ?_)
      refine yR_m 2 (fun _ _ _ _ => rfl) ?_
      refine wR_si rfl rfl (fun lo48 e49 f50 => ?_)
      have lo48_0 := f50 0 _ (by decide) (Or.inl rfl) l_0
      have lo48_1 := f50 1 _ (by decide) (Or.inl rfl) l_1
      have lo48_2 := f50 2 _ (by decide) (Or.inl rfl) l_2
      have lo48_3 := f50 3 _ (by decide) (Or.inl rfl) l_3
      refine wR_li rfl lo48_2 ?_
      refine wR_la rfl lo48_0 ?_
      refine yR_m 1 (fun _ _ _ _ => rfl) ?_
      refine wR_li rfl lo48_1 ?_
      refine wR_iv rfl rfl mO_e hm6 rfl rfl rfl rfl ?_
      show yR zpg tX12_isHome (d + 14) (0, [(0, .ref 221), (1, .int 1), (2, .int f)], [], m6) _
      refine yR_m 1 (fun _ _ _ _ => rfl) ?_
      refine wR_gr rfl mO_e mO_51 hm6 ?_
      refine yR_m 2 (fun _ _ _ _ => rfl) ?_
      refine wN_mul (a := 6) (b := 1) rfl rfl rfl (by omega) (fun x51 e52 => ?_)
      refine yR_m 1 (fun _ _ _ _ => rfl) ?_
      refine wN_add (a := ((6 * 1) : Int)) (b := (f).toInt) rfl e52 rfl (by omega) (fun x53 e54 => ?_)
      refine wN_al (a := (((6 * 1) : Int) + (f).toInt)) rfl aR_252 hm6 rfl e54 (by omega) (fun y55 e56 => ?_)
      refine yR_m 1 (fun _ _ _ _ => rfl) ?_
      refine wR_gr rfl mO_e mO_26 hm6 ?_
      refine yR_m 2 (fun _ _ _ _ => rfl) ?_
      refine wR_gi rfl mO_e mO_13 hm6 rfl ?_
      refine wN_mul (a := 6) (b := (gi m6 221 13).toInt) rfl rfl rfl (by omega) (fun x57 e58 => ?_)
      refine yR_m 1 (fun _ _ _ _ => rfl) ?_
      refine wN_add (a := (6 * (gi m6 221 13).toInt)) (b := (f).toInt) rfl e58 rfl (by omega) (fun x59 e60 => ?_)
      refine wN_al (a := ((6 * (gi m6 221 13).toInt) + (f).toInt)) rfl aR_235 hm6 rfl e60 (by omega) (fun y61 e62 => ?_)
      refine wR_ic_ne rfl (a := (gn (ga m6 252) (((6 * 1) : Int) + (f).toInt))) (c := (gn (ga m6 235) ((6 * (gi m6 221 13).toInt) + (f).toInt))) e56 e62 (fun q63 => ?_) (fun q63 => ?_)
      ·
        refine yR_m 1 (fun _ _ _ _ => rfl) ?_
        refine yR_rz rfl ⟨by decide, by decide⟩ ?_
        show yR zpg tX12_odds (d + 15) (133, lo48, [.int 0, .int n], m6) _
        refine wR_if_eq rfl (a := 0) rfl (fun _ => ?_) (fun q => by exfalso; omega)
        refine yR_m 2 (fun _ _ _ _ => rfl) ?_
        refine wR_si rfl rfl (fun lo64 e65 f66 => ?_)
        have lo64_4 := f66 4 _ (by decide) (Or.inl rfl) e49
        have lo64_0 := f66 0 _ (by decide) (Or.inl rfl) lo48_0
        have lo64_1 := f66 1 _ (by decide) (Or.inl rfl) lo48_1
        have lo64_3 := f66 3 _ (by decide) (Or.inl rfl) lo48_3
        refine wN_in (a := (k).toInt) (b := 1) rfl rfl lo64_3 rfl rfl (by omega) (fun x67 e68 => fun lo69 e70 f71 => ?_)
        have lo69_2 := f71 2 _ (by decide) (Or.inl rfl) e65
        have lo69_4 := f71 4 _ (by decide) (Or.inl rfl) lo64_4
        have lo69_0 := f71 0 _ (by decide) (Or.inl rfl) lo64_0
        have lo69_1 := f71 1 _ (by decide) (Or.inl rfl) lo64_1
        exact yR_m 1 (fun _ _ _ _ => rfl) (h4 y1 e2 q3 m4 hm4 k5 v8 m6 hm6 k7 q9 y44 e45 y46 e47 x51 e52 x53 e54 y55 e56 x57 e58 x59 e60 y61 e62 q63 x67 e68 lo69 lo69_0 lo69_1 lo69_2 e70 hm6)
      ·
        refine yR_m 2 (fun _ _ _ _ => rfl) ?_
        refine yR_rz rfl ⟨by decide, by decide⟩ ?_
        show yR zpg tX12_odds (d + 15) (133, lo48, [.int 1, .int n], m6) _
        refine wR_if_eq rfl (a := 1) rfl (fun q => by exfalso; omega) (fun _ => ?_)
        refine wR_li rfl e49 ?_
        refine yR_m 2 (fun _ _ _ _ => rfl) ?_
        refine wR_si rfl rfl (fun lo72 e73 f74 => ?_)
        have lo72_4 := f74 4 _ (by decide) (Or.inl rfl) e49
        have lo72_0 := f74 0 _ (by decide) (Or.inl rfl) lo48_0
        have lo72_1 := f74 1 _ (by decide) (Or.inl rfl) lo48_1
        have lo72_3 := f74 3 _ (by decide) (Or.inl rfl) lo48_3
        refine wN_in (a := (k).toInt) (b := 1) rfl rfl lo72_3 rfl rfl (by omega) (fun x75 e76 => fun lo77 e78 f79 => ?_)
        have lo77_2 := f79 2 _ (by decide) (Or.inl rfl) e73
        have lo77_4 := f79 4 _ (by decide) (Or.inl rfl) lo72_4
        have lo77_0 := f79 0 _ (by decide) (Or.inl rfl) lo72_0
        have lo77_1 := f79 1 _ (by decide) (Or.inl rfl) lo72_1
        exact yR_m 1 (fun _ _ _ _ => rfl) (h5 y1 e2 q3 m4 hm4 k5 v8 m6 hm6 k7 q9 y44 e45 y46 e47 x51 e52 x53 e54 y55 e56 x57 e58 x59 e60 y61 e62 q63 x75 e76 lo77 lo77_0 lo77_1 lo77_2 e78 hm6)

theorem od_lp {f : Int32} {mr : zM} (hMr : mB Q mr) (hW : WQ Q) (hSr : tM 0 Q hu S mr) (hs : wS Q S) (hH : wH Q hu) (hKr : kM 0 K mr) (hf : 0 ≤ f.toInt ∧ f.toInt ≤ 5) : ∀ (g : Nat) (n k : Int32) (mem : zM) (lo : List (Nat × Value)), k.toInt + (g : Int) = 10 → -1 ≤ k.toInt → k.toInt ≤ 9 → F1 mr mem → aTm aT0 mem → zlg lo 0 = some (.ref 221) → zlg lo 1 = some (.int f) → zlg lo 2 = some (.int n) → zlg lo 3 = some (.int k) → yR zpg tX12_odds (d + 15) (59, lo, [], mem) (WF mr) := by
  intro g
  induction g with
  | zero =>
    intro n k mem lo hg k0 k9
    omega
  | succ g ih =>
    intro n k mem lo hg k0 k9 hF hm l0 l1 l2 l3
    have hM := F1_B hF hMr
    have mt := hM.1.2.2.1.1
    have t9 := hW.2.1.1
    exact w_od59 (S := S) (K := K) hm l0 l1 l2 l3 hM hW (F1_0 hW hF hSr) hs hH (F1_k hF hKr) hf ⟨k0, k9⟩ 
        (fun y1 e2 q3 hm2 => ⟨_, rfl, hm2, hF⟩)
        (fun y1 e2 q3 m4 hm4 k5 v8 m6 hm6 k7 q9 y10 e11 x15 e16 x17 e18 y19 e20 x21 e22 x23 e24 y25 e26 q27 x31 e32 lo a0 a1 a2 a3 hm2 => by
        exact ih _ _ _ lo (by omega) (by omega) (by omega) (F1_tr (F1_tr hF k5.1) k7.1) hm2 a0 a1 a2 a3)
        (fun y1 e2 q3 m4 hm4 k5 v8 m6 hm6 k7 q9 y10 e11 x15 e16 x17 e18 y19 e20 x21 e22 x23 e24 y25 e26 q27 x39 e40 lo a0 a1 a2 a3 hm2 => by
        exact ih _ _ _ lo (by omega) (by omega) (by omega) (F1_tr (F1_tr hF k5.1) k7.1) hm2 a0 a1 a2 a3)
        (fun y1 e2 q3 m4 hm4 k5 v8 m6 hm6 k7 q9 y44 e45 y46 e47 x51 e52 x53 e54 y55 e56 x57 e58 x59 e60 y61 e62 q63 x67 e68 lo a0 a1 a2 a3 hm2 => by
        exact ih _ _ _ lo (by omega) (by omega) (by omega) (F1_tr (F1_tr hF k5.1) k7.1) hm2 a0 a1 a2 a3)
        (fun y1 e2 q3 m4 hm4 k5 v8 m6 hm6 k7 q9 y44 e45 y46 e47 x51 e52 x53 e54 y55 e56 x57 e58 x59 e60 y61 e62 q63 x75 e76 lo a0 a1 a2 a3 hm2 => by
        exact ih _ _ _ lo (by omega) (by omega) (by omega) (F1_tr (F1_tr hF k5.1) k7.1) hm2 a0 a1 a2 a3)
theorem h_od {f : Int32} (hm : aTm aT0 mem) (hM : mB Q mem) (hW : WQ Q) (hS : tM 0 Q hu S mem) (hs : wS Q S) (hH : wH Q hu) (hK : kM 0 K mem) (hd : 16 ≤ d) : yC zpg d 258 [.ref 221, .int f] mem (WF mem) := by
  obtain ⟨d, rfl⟩ : ∃ q, d = q + 16 := ⟨d - 16, by omega⟩
  have mf := hM.1.2.2.2.2.1.1
  have f9 := hW.2.1.2.1
  refine yC_of (t := tX12_odds) rfl rfl ?_
  exact w_od0 (S := S) (K := K) (hu := hu) hm rfl rfl hM hW hS hs hH hK 
        (fun q1 y2 e3 q4 hm2 => ⟨_, rfl, hm2, F1_rf⟩)
        (fun q1 y2 e3 q4 q5 hm2 => ⟨_, rfl, hm2, F1_rf⟩)
        (fun q1 y2 e3 q4 q5 y6 e7 x8 e9 q10 hm2 => ⟨_, rfl, hm2, F1_rf⟩)
        (fun q1 y2 e3 q4 q5 y6 e7 x8 e9 q10 y11 e12 hm2 => ⟨_, rfl, hm2, F1_rf⟩)
        (fun q1 q13 hm2 => ⟨_, rfl, hm2, F1_rf⟩)
        (fun q1 q13 y14 e15 q16 hm2 => ⟨_, rfl, hm2, F1_rf⟩)
        (fun q1 q13 y14 e15 q16 y17 e18 q19 hm2 => ⟨_, rfl, hm2, F1_rf⟩)
        (fun q1 q13 y14 e15 q16 y17 e18 q19 q20 hm2 => ⟨_, rfl, hm2, F1_rf⟩)
        (fun q1 q13 y14 e15 q16 y17 e18 q19 q20 y21 e22 x23 e24 q25 hm2 => ⟨_, rfl, hm2, F1_rf⟩)
        (fun q1 q13 y14 e15 q16 y17 e18 q19 q20 y21 e22 x23 e24 q25 lo a0 a1 a2 a3 hm2 => od_lp (S := S) (K := K) hM hW hS hs hH hK ⟨by omega, by omega⟩ 11 _ _ _ lo rfl (by decide) (by decide) F1_rf hm2 a0 a1 a2 a3)
end AHM
