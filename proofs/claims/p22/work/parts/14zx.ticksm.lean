/-! a night: the model, all of it -/
section TKB
variable {d : Nat} {mem : zM} {Q : Qd} {S : Sd} {hu : Int → Int}
set_option maxRecDepth 100000 in
theorem w_tk0 {d : Nat} {mem : zM} {P : Option Value → zM → Prop} {v bu : Int32} {Q : Qd} {S : Sd} {hu : Int → Int} {lo : List (Nat × Value)} (hm : aTm aT0 mem) (l_0 : zlg lo 0 = some (.ref 221)) (l_1 : zlg lo 1 = some (.int v)) (l_2 : zlg lo 2 = some (.int bu)) (hM : mB Q mem) (hW : WQ Q) (hS : tM v.toInt Q hu S mem) (hs : wS Q S) (hH : wH Q hu) (v0 : 0 ≤ v.toInt ∧ v.toInt ≤ 21) (h1 : ∀ (m1 : zM), aTm aT0 m1 → (onl [256, 257, 258] mem m1 ∧ ∀ j, 0 ≤ j → j < 64 → gn (ga m1 258) j = ltK Q hu S (bu).toInt j (Qt Q).length) → ∀ lo, zlg lo 0 = some (.ref 221) → zlg lo 1 = some (.int v) → zlg lo 2 = some (.int bu) → zlg lo 3 = some (.int 0) → aTm aT0 m1 → yR zpg tX12_ticks (d + 10) (8, lo, [], m1) P) : yR zpg tX12_ticks (d + 10) (0, lo, [], mem) P := by
  refine wR_la rfl l_0 ?_
  refine wR_li rfl l_1 ?_
  refine wR_li rfl l_2 ?_
  refine wR_cv rfl rfl mO_e hm rfl (h_lm (Q := Q) (S := S) (hu := hu) hm hM hW hS hs hH v0 (by omega)) ?_
  rintro _ m1 ⟨rfl, hm1, k2⟩
  show yR zpg tX12_ticks (d + 10) (6, lo, [], m1) _
  refine yR_m 1 (fun _ _ _ _ => rfl) ?_
  refine wR_si rfl rfl (fun lo3 e4 f5 => ?_)
  have lo3_0 := f5 0 _ (by decide) (Or.inl rfl) l_0
  have lo3_1 := f5 1 _ (by decide) (Or.inl rfl) l_1
  have lo3_2 := f5 2 _ (by decide) (Or.inl rfl) l_2
  exact h1 m1 hm1 k2 lo3 lo3_0 lo3_1 lo3_2 e4 hm1

set_option maxRecDepth 100000 in
theorem w_tk8 {d : Nat} {mem : zM} {P : Option Value → zM → Prop} {v bu k : Int32} {Q : Qd} {L : Int → Prop} {lo : List (Nat × Value)} (hm : aTm aT0 mem) (l_0 : zlg lo 0 = some (.ref 221)) (l_1 : zlg lo 1 = some (.int v)) (l_2 : zlg lo 2 = some (.int bu)) (l_3 : zlg lo 3 = some (.int k)) (hM : mB Q mem) (hW : WQ Q) (hL : ∀ c, L c ↔ (frP Q c ∧ (¬ (1 : Int32).toInt = 0 → ¬ gn (ga mem 258) c = 0))) (h58 : ∀ j, 0 ≤ j → j < 64 → 0 ≤ gn (ga mem 258) j) (v0 : 0 ≤ v.toInt ∧ v.toInt ≤ 21) (hk : 0 ≤ k.toInt ∧ k.toInt ≤ 6) (f6 : gn (ga mem 233) (gi mem 221 13).toInt ≤ 6) (h1 : ∀ (y1 : Int32), y1.toInt = (gn (ga mem 233) (gi mem 221 13).toInt) → (gn (ga mem 233) (gi mem 221 13).toInt) ≤ (k).toInt → ∀ lo, zlg lo 0 = some (.ref 221) → zlg lo 1 = some (.int v) → zlg lo 2 = some (.int bu) → zlg lo 3 = some (.int 0) → zlg lo 4 = some (.int 0) → aTm aT0 mem → yR zpg tX12_ticks (d + 10) (38, lo, [], mem) P) (s1 : ∀ (y1 : Int32), y1.toInt = (gn (ga mem 233) (gi mem 221 13).toInt) → (k).toInt < (gn (ga mem 233) (gi mem 221 13).toInt) → (k).toInt < foN Q) (s2 : ∀ (y1 : Int32), y1.toInt = (gn (ga mem 233) (gi mem 221 13).toInt) → (k).toInt < (gn (ga mem 233) (gi mem 221 13).toInt) → frP Q (gn (ga mem 252) (6 * (v).toInt + (k).toInt))) (h2 : ∀ (y1 : Int32), y1.toInt = (gn (ga mem 233) (gi mem 221 13).toInt) → (k).toInt < (gn (ga mem 233) (gi mem 221 13).toInt) → ∀ (m10 : zM), aTm aT0 m10 → (onl [252, 259, 260] mem m10 ∧ ∀ j, 0 ≤ j → gn (ga m10 252) j = if j = 6 * (v).toInt + (k).toInt then wkF L (hoA Q (k).toInt) (Qp Q).toNat (gn (ga mem 252) (6 * (v).toInt + (k).toInt)) else gn (ga mem 252) j) → ∀ (x12 : Int32), x12.toInt = ((k).toInt + 1) → ∀ lo, zlg lo 0 = some (.ref 221) → zlg lo 1 = some (.int v) → zlg lo 2 = some (.int bu) → zlg lo 3 = some (.int x12) → aTm aT0 m10 → yR zpg tX12_ticks (d + 10) (8, lo, [], m10) P) : yR zpg tX12_ticks (d + 10) (8, lo, [], mem) P := by
  obtain ⟨b0, b1⟩ := mO_r13 hm
  refine wR_li rfl l_3 ?_
  refine wR_la rfl l_0 ?_
  refine wR_gr rfl mO_e mO_24 hm ?_
  refine wR_la rfl l_0 ?_
  refine wR_gi rfl mO_e mO_13 hm rfl ?_
  refine wN_al (a := (gi mem 221 13).toInt) rfl aR_233 hm rfl rfl (by omega) (fun y1 e2 => ?_)
  refine wR_ic_ge rfl (a := (k).toInt) (c := (gn (ga mem 233) (gi mem 221 13).toInt)) rfl e2 (fun q3 => ?_) (fun q3 => ?_)
  ·
    refine yR_m 1 (fun _ _ _ _ => rfl) ?_
    refine wR_si rfl rfl (fun lo4 e5 f6 => ?_)
    have lo4_0 := f6 0 _ (by decide) (Or.inl rfl) l_0
    have lo4_1 := f6 1 _ (by decide) (Or.inl rfl) l_1
    have lo4_2 := f6 2 _ (by decide) (Or.inl rfl) l_2
    refine yR_m 1 (fun _ _ _ _ => rfl) ?_
    refine wR_si rfl rfl (fun lo7 e8 f9 => ?_)
    have lo7_3 := f9 3 _ (by decide) (Or.inl rfl) e5
    have lo7_0 := f9 0 _ (by decide) (Or.inl rfl) lo4_0
    have lo7_1 := f9 1 _ (by decide) (Or.inl rfl) lo4_1
    have lo7_2 := f9 2 _ (by decide) (Or.inl rfl) lo4_2
    exact h1 y1 e2 q3 lo7 lo7_0 lo7_1 lo7_2 lo7_3 e8 hm
  ·
    refine wR_la rfl l_0 ?_
    refine wR_li rfl l_1 ?_
    refine wR_li rfl l_3 ?_
    refine wR_cv rfl rfl mO_e hm rfl (h_wm (Q := Q) (L := L) hm hM hW hL h58 v0 hk.1 (s1 y1 e2 q3) (s2 y1 e2 q3) (by omega)) ?_
    rintro _ m10 ⟨rfl, hm10, k11⟩
    show yR zpg tX12_ticks (d + 10) (27, lo, [], m10) _
    refine wN_in (a := (k).toInt) (b := 1) rfl rfl l_3 rfl rfl (by omega) (fun x12 e13 => fun lo14 e15 f16 => ?_)
    have lo14_0 := f16 0 _ (by decide) (Or.inl rfl) l_0
    have lo14_1 := f16 1 _ (by decide) (Or.inl rfl) l_1
    have lo14_2 := f16 2 _ (by decide) (Or.inl rfl) l_2
    exact yR_m 1 (fun _ _ _ _ => rfl) (h2 y1 e2 q3 m10 hm10 k11 x12 e13 lo14 lo14_0 lo14_1 lo14_2 e15 hm10)

set_option maxRecDepth 100000 in
theorem w_tk38 {d : Nat} {mem : zM} {P : Option Value → zM → Prop} {v bu tu k : Int32} {Q : Qd} {S : Sd} {hu : Int → Int} {lo : List (Nat × Value)} (hm : aTm aT0 mem) (l_0 : zlg lo 0 = some (.ref 221)) (l_1 : zlg lo 1 = some (.int v)) (l_2 : zlg lo 2 = some (.int bu)) (l_3 : zlg lo 3 = some (.int tu)) (l_4 : zlg lo 4 = some (.int k)) (hM : mB Q mem) (hW : WQ Q) (hS : tM v.toInt Q hu S mem) (hs : wS Q S) (hH : wH Q hu) (v0 : 0 ≤ v.toInt ∧ v.toInt ≤ 21) (hk : 0 ≤ k.toInt ∧ k.toInt ≤ 9) (n9 : gn (ga mem 228) (gi mem 221 13).toInt ≤ 9) (s1 : ∀ (y1 : Int32), y1.toInt = (gn (ga mem 228) (gi mem 221 13).toInt) → (gn (ga mem 228) (gi mem 221 13).toInt) ≤ (k).toInt → ∀ (y4 : Int32), y4.toInt = (gn (ga mem 250) (v).toInt) → 0 ≤ (tu &&& y4).toInt ∧ (tu &&& y4).toInt ≤ 511) (h1 : ∀ (y1 : Int32), y1.toInt = (gn (ga mem 228) (gi mem 221 13).toInt) → (gn (ga mem 228) (gi mem 221 13).toInt) ≤ (k).toInt → ∀ (y4 : Int32), y4.toInt = (gn (ga mem 250) (v).toInt) → ∀ (v6 : Int32), v6.toInt = pop (tu &&& y4) → ∀ lo, zlg lo 0 = some (.ref 221) → zlg lo 1 = some (.int v) → zlg lo 2 = some (.int bu) → zlg lo 3 = some (.int tu) → zlg lo 4 = some (.int v6) → zlg lo 5 = some (.int 0) → aTm aT0 mem → yR zpg tX12_ticks (d + 10) (95, lo, [], mem) P) (s2 : ∀ (y1 : Int32), y1.toInt = (gn (ga mem 228) (gi mem 221 13).toInt) → (k).toInt < (gn (ga mem 228) (gi mem 221 13).toInt) → (k).toInt < thN Q) (h2 : ∀ (y1 : Int32), y1.toInt = (gn (ga mem 228) (gi mem 221 13).toInt) → (k).toInt < (gn (ga mem 228) (gi mem 221 13).toInt) → ∀ (v16 : Int32) (m14 : zM), aTm aT0 m14 → (onl [256, 257] mem m14 ∧ is1 v16 (tnP Q hu S (k).toInt)) → (v16).toInt = 0 → ∀ (x21 : Int32), x21.toInt = ((k).toInt + 1) → ∀ lo, zlg lo 0 = some (.ref 221) → zlg lo 1 = some (.int v) → zlg lo 2 = some (.int bu) → zlg lo 3 = some (.int (tu ||| 0)) → zlg lo 4 = some (.int x21) → aTm aT0 m14 → yR zpg tX12_ticks (d + 10) (38, lo, [], m14) P) (h3 : ∀ (y1 : Int32), y1.toInt = (gn (ga mem 228) (gi mem 221 13).toInt) → (k).toInt < (gn (ga mem 228) (gi mem 221 13).toInt) → ∀ (v16 : Int32) (m14 : zM), aTm aT0 m14 → (onl [256, 257] mem m14 ∧ is1 v16 (tnP Q hu S (k).toInt)) → ¬ (v16).toInt = 0 → ∀ (x29 : Int32), x29.toInt = ((k).toInt + 1) → ∀ lo, zlg lo 0 = some (.ref 221) → zlg lo 1 = some (.int v) → zlg lo 2 = some (.int bu) → zlg lo 3 = some (.int (tu ||| (1 <<< (k &&& 31)))) → zlg lo 4 = some (.int x29) → aTm aT0 m14 → yR zpg tX12_ticks (d + 10) (38, lo, [], m14) P) : yR zpg tX12_ticks (d + 10) (38, lo, [], mem) P := by
  obtain ⟨b0, b1⟩ := mO_r13 hm
  refine wR_li rfl l_4 ?_
  refine wR_la rfl l_0 ?_
  refine wR_gr rfl mO_e mO_19 hm ?_
  refine wR_la rfl l_0 ?_
  refine wR_gi rfl mO_e mO_13 hm rfl ?_
  refine wN_al (a := (gi mem 221 13).toInt) rfl aR_228 hm rfl rfl (by omega) (fun y1 e2 => ?_)
  refine wR_ic_ge rfl (a := (k).toInt) (c := (gn (ga mem 228) (gi mem 221 13).toInt)) rfl e2 (fun q3 => ?_) (fun q3 => ?_)
  ·
    refine wR_li rfl l_3 ?_
    refine wR_la rfl l_0 ?_
    refine wR_gr rfl mO_e mO_49 hm ?_
    refine wR_li rfl l_1 ?_
    refine wN_al (a := (v).toInt) rfl aR_250 hm rfl rfl (by omega) (fun y4 e5 => ?_)
    refine yR_m 1 (fun _ _ _ _ => rfl) ?_
    refine yR_cs rfl rfl rfl (h_bm rfl (s1 y1 e2 q3 y4 e5) (by omega)) ?_
    rintro _ _ ⟨v6, rfl, rfl, k7⟩
    show yR zpg tX12_ticks (d + 10) (90, lo, [.int v6], mem) _
    refine wR_si rfl rfl (fun lo8 e9 f10 => ?_)
    have lo8_0 := f10 0 _ (by decide) (Or.inl rfl) l_0
    have lo8_1 := f10 1 _ (by decide) (Or.inl rfl) l_1
    have lo8_2 := f10 2 _ (by decide) (Or.inl rfl) l_2
    have lo8_3 := f10 3 _ (by decide) (Or.inl rfl) l_3
    refine yR_m 1 (fun _ _ _ _ => rfl) ?_
    refine wR_si rfl rfl (fun lo11 e12 f13 => ?_)
    have lo11_4 := f13 4 _ (by decide) (Or.inl rfl) e9
    have lo11_0 := f13 0 _ (by decide) (Or.inl rfl) lo8_0
    have lo11_1 := f13 1 _ (by decide) (Or.inl rfl) lo8_1
    have lo11_2 := f13 2 _ (by decide) (Or.inl rfl) lo8_2
    have lo11_3 := f13 3 _ (by decide) (Or.inl rfl) lo8_3
    exact h1 y1 e2 q3 y4 e5 v6 k7 lo11 lo11_0 lo11_1 lo11_2 lo11_3 lo11_4 e12 hm
  ·
    refine wR_li rfl l_3 ?_
    refine wR_la rfl l_0 ?_
    refine wR_li rfl l_1 ?_
    refine wR_li rfl l_4 ?_
    refine wR_cv rfl rfl mO_e hm rfl (h_tnm (Q := Q) (S := S) (hu := hu) hm hM hW hS hs hH v0 (by omega) (s2 y1 e2 q3) (by omega)) ?_
    rintro _ m14 ⟨v16, rfl, hm14, k15⟩
    show yR zpg tX12_ticks (d + 10) (60, lo, [.int v16, .int tu], m14) _
    refine wR_if_eq rfl (a := (v16).toInt) rfl (fun q17 => ?_) (fun q17 => ?_)
    ·
      refine yR_m 2 (fun _ _ _ _ => rfl) ?_
      refine wR_si rfl rfl (fun lo18 e19 f20 => ?_)
      have lo18_0 := f20 0 _ (by decide) (Or.inl rfl) l_0
      have lo18_1 := f20 1 _ (by decide) (Or.inl rfl) l_1
      have lo18_2 := f20 2 _ (by decide) (Or.inl rfl) l_2
      have lo18_4 := f20 4 _ (by decide) (Or.inl rfl) l_4
      refine wN_in (a := (k).toInt) (b := 1) rfl rfl lo18_4 rfl rfl (by omega) (fun x21 e22 => fun lo23 e24 f25 => ?_)
      have lo23_3 := f25 3 _ (by decide) (Or.inl rfl) e19
      have lo23_0 := f25 0 _ (by decide) (Or.inl rfl) lo18_0
      have lo23_1 := f25 1 _ (by decide) (Or.inl rfl) lo18_1
      have lo23_2 := f25 2 _ (by decide) (Or.inl rfl) lo18_2
      exact yR_m 1 (fun _ _ _ _ => rfl) (h2 y1 e2 q3 v16 m14 hm14 k15 q17 x21 e22 lo23 lo23_0 lo23_1 lo23_2 lo23_3 e24 hm14)
    ·
      refine yR_m 1 (fun _ _ _ _ => rfl) ?_
      refine wR_li rfl l_4 ?_
      refine yR_m 3 (fun _ _ _ _ => rfl) ?_
      refine wR_si rfl rfl (fun lo26 e27 f28 => ?_)
      have lo26_0 := f28 0 _ (by decide) (Or.inl rfl) l_0
      have lo26_1 := f28 1 _ (by decide) (Or.inl rfl) l_1
      have lo26_2 := f28 2 _ (by decide) (Or.inl rfl) l_2
      have lo26_4 := f28 4 _ (by decide) (Or.inl rfl) l_4
      refine wN_in (a := (k).toInt) (b := 1) rfl rfl lo26_4 rfl rfl (by omega) (fun x29 e30 => fun lo31 e32 f33 => ?_)
      have lo31_3 := f33 3 _ (by decide) (Or.inl rfl) e27
      have lo31_0 := f33 0 _ (by decide) (Or.inl rfl) lo26_0
      have lo31_1 := f33 1 _ (by decide) (Or.inl rfl) lo26_1
      have lo31_2 := f33 2 _ (by decide) (Or.inl rfl) lo26_2
      exact yR_m 1 (fun _ _ _ _ => rfl) (h3 y1 e2 q3 v16 m14 hm14 k15 q17 x29 e30 lo31 lo31_0 lo31_1 lo31_2 lo31_3 e32 hm14)

/-- a night's end -/
noncomputable def enS (Q : Qd) (hu : Int → Int) (S : Sd) : Sd := (Sn S + 1, Sm S ^^^ tnF (tnP Q hu S) (Qt Q).length, fun t => if cdB (tnP Q hu S t) = true then 0 else min 99 (Sa S t + 1), Sp S)
theorem enS_tk {but : Int} : enS Q hu (mvS Q hu but S) = tkS Q hu but S := rfl
noncomputable def enK (Q : Qd) (hu : Int → Int) (S : Sd) (K : Kd) : Kd := kpR (tnP Q hu S) (Sm S) (Sn S) K (Qt Q).length
noncomputable def tkK (Q : Qd) (hu : Int → Int) (but : Int) (S : Sd) (K : Kd) : Kd := enK Q hu (mvS Q hu but S) K
def tkE (ks : List Nat) (Q : Qd) (hu : Int → Int) (S : Sd) (K : Kd) (v : Int) (mr : zM) (r : Option Value) (m : zM) : Prop := ∃ fo : Int32, r = some (.int fo) ∧ aTm aT0 m ∧ (onl ks mr m ∧ tM v Q hu (enS Q hu S) m ∧ kM v (enK Q hu S K) m ∧ oLl v mr m ∧ fo.toInt = pop (tnF (tnP Q hu S) (Qt Q).length &&& Sm S))
theorem bSt_tnF {P : Int → Prop} {x : Int32} (hW : WQ Q) (x9 : 0 ≤ x.toInt ∧ x.toInt ≤ 511) (hx : bSt P (thN Q) x) : x = tnF P (Qt Q).length := by
  have b := tnF_9 (P := P) _ hW.2.1.1
  refine bt_ex x9.1 b.1 (fun i i0 i1 => ?_)
  rw [hx i i0 i1, tnF_b _ hW.2.1.1 i i0 i1]
  rfl
theorem tk_turn {v bu : Int32} {K : Kd} {mr : zM} (hM : mB Q mr) (hW : WQ Q) (hS : tM v.toInt Q hu S mr) (hs : wS Q S) (hH : wH Q hu) (v0 : 0 ≤ v.toInt ∧ v.toInt ≤ 21) (hK : kM v.toInt K mr) : ∀ (f : Nat) (k tu : Int32) (mem : zM) (lo : List (Nat × Value)), k.toInt + (f : Int) = thN Q → 0 ≤ k.toInt → onl [256, 257] mr mem → bSt (tnP Q hu S) k.toInt tu → (0 ≤ tu.toInt ∧ tu.toInt ≤ 511) → zlg lo 0 = some (.ref 221) → zlg lo 1 = some (.int v) → zlg lo 2 = some (.int bu) → zlg lo 3 = some (.int tu) → zlg lo 4 = some (.int k) → aTm aT0 mem → yR zpg tX12_ticks (d + 10) (38, lo, [], mem) (tkE [249, 250, 251, 253, 254, 256, 257] Q hu S K v.toInt mr) := by
  intro f
  have n9 : thN Q ≤ 9 := by
    have := hW.2.1.1
    unfold thN
    omega
  induction f with
  | zero =>
    intro k tu mem lo hf k0 ho hB r9 l0 l1 l2 l3 l4 hm
    have M1 := mB_o rfl ho hM
    have S1 := tM_o ho hS
    have cn := (mq_n M1.1).1
    have kn : k.toInt = thN Q := by omega
    exact w_tk38 (S := S) (hu := hu) hm l0 l1 l2 l3 l4 M1 hW S1 hs hH v0 ⟨k0, by omega⟩ (by omega) 
        (fun y1 e2 q3 y4 e5 => by
          have ye : y4 = Sm S := Int32.toInt_inj.1 (e5.trans S1.1.2)
          rw [ye]
          exact i9_an hs.2.1.1)
        (fun y1 e2 q3 y4 e5 v6 k7 lo a0 a1 a2 a3 a4 a5 hm2 => by
          have ye : y4 = Sm S := Int32.toInt_inj.1 (e5.trans S1.1.2)
          have et := bSt_tnF hW r9 (by rw [← kn]; exact hB)
          have tb := tnF_b (P := tnP Q hu S) _ hW.2.1.1
          have T9 := tnF_9 (P := tnP Q hu S) _ hW.2.1.1
          have tl : (thN Q).toNat = (Qt Q).length := by
            unfold thN
            omega
          refine yR_mono ?_ (tk_age (T := tnP Q hu S) (A := Sa S) (x0 := Sm S) (N := Sn S) (K0 := K) M1 hW v0 (by rw [et]; exact tb) S1.1.1 hs.1 hs.2.2.1 (thN Q).toNat 0 (Sm S) mem lo (by show (0 : Int) + _ = _; unfold thN; omega) (by decide) onl_rf (tkX_z hs.2.1.1) S1.1.2 (fun t t0 t1 => by rw [S1.2.1 t t0 t1, if_neg (by show ¬ t < 0; omega)]) (kM_q (onl_ga ho rfl) (onl_ga ho rfl) hK) (oLl_q rfl rfl rfl rfl rfl rfl) a0 a1 a2 a3 a4 a5 hm2)
          rintro r m ⟨r1, r2, B1, B2, ⟨x, B3, B4⟩, B5, B6, B7⟩
          rw [tl] at B6
          refine ⟨_, r1, r2, onl_tr (onl_up ho rfl) (onl_up B1 rfl), ⟨⟨B2, B4.trans (congrArg Int32.toInt (tkX_e T9 hs.2.1.1 tb B3))⟩, fun t t0 t1 => ?_, fun g g0 g1 => ?_, fun t t0 t1 => ?_⟩, B6, oLl_tr (oLl_q (onl_ga ho rfl) (onl_ga ho rfl) (onl_ga ho rfl) (onl_ga ho rfl) (onl_ga ho rfl) (onl_ga ho rfl)) B7, ?_⟩
          · rw [B5 t t0 t1, if_pos t1]
            rfl
          · rw [onl_ga B1 rfl]
            exact S1.2.2.1 g g0 g1
          · rw [onl_ga B1 rfl]
            exact S1.2.2.2 t t0 t1
          · rw [k7, ye, ← et])
        (fun y1 e2 q3 => by omega)
        (fun y1 e2 q3 v16 m14 hm14 k15 q17 x21 e22 lo a0 a1 a2 a3 a4 hm2 => by exfalso; omega)
        (fun y1 e2 q3 v16 m14 hm14 k15 q17 x29 e30 lo a0 a1 a2 a3 a4 hm2 => by exfalso; omega)
  | succ f ih =>
    intro k tu mem lo hf k0 ho hB r9 l0 l1 l2 l3 l4 hm
    have M1 := mB_o rfl ho hM
    have S1 := tM_o ho hS
    have cn := (mq_n M1.1).1
    exact w_tk38 (S := S) (hu := hu) hm l0 l1 l2 l3 l4 M1 hW S1 hs hH v0 ⟨k0, by omega⟩ (by omega) 
        (fun y1 e2 q3 y4 e5 => by exfalso; omega)
        (fun y1 e2 q3 y4 e5 v6 k7 lo a0 a1 a2 a3 a4 a5 hm2 => by exfalso; omega)
        (fun y1 e2 q3 => by omega)
        (fun y1 e2 q3 v16 m14 hm14 k15 q17 x21 e22 lo a0 a1 a2 a3 a4 hm2 => by
          obtain ⟨K1, K2⟩ := k15
          have np : ¬ tnP Q hu S k.toInt := by
            rcases K2 with ⟨q, -⟩ | ⟨-, q⟩
            · exfalso
              omega
            · exact q
          exact ih _ _ _ lo (by omega) (by omega) (onl_tr ho K1) (bSt_o (bSt_n e22 np hB)) (i9_or r9 ⟨by decide, by decide⟩) a0 a1 a2 a3 a4 hm2)
        (fun y1 e2 q3 v16 m14 hm14 k15 q17 x29 e30 lo a0 a1 a2 a3 a4 hm2 => by
          obtain ⟨K1, K2⟩ := k15
          have yp : tnP Q hu S k.toInt := by
            rcases K2 with ⟨-, q⟩ | ⟨q, -⟩
            · exact q
            · exfalso
              omega
          exact ih _ _ _ lo (by omega) (by omega) (onl_tr ho K1) (bSt_y rfl e30 k0 (by omega) yp hB) (i9_or r9 (i9_sh k0 (by omega))) a0 a1 a2 a3 a4 hm2)
theorem tk_walk {v bu : Int32} {K : Kd} {mr : zM} (hM : mB Q mr) (hW : WQ Q) (hS : tM v.toInt Q hu S mr) (hs : wS Q S) (hH : wH Q hu) (v0 : 0 ≤ v.toInt ∧ v.toInt ≤ 21) (hK : kM v.toInt K mr) (h58 : ∀ j, 0 ≤ j → j < 64 → gn (ga mr 258) j = ltK Q hu S bu.toInt j (Qt Q).length) : ∀ (f : Nat) (k : Int32) (mem : zM) (lo : List (Nat × Value)), k.toInt + (f : Int) = foN Q → 0 ≤ k.toInt → onl [252, 259, 260] mr mem → (∀ g, 0 ≤ g → g < foN Q → gn (ga mem 252) (6 * v.toInt + g) = if g < k.toInt then waP Q hu S bu.toInt g else Sp S g) → (∀ j, 0 ≤ j → ¬ (6 * v.toInt ≤ j ∧ j < 6 * v.toInt + 6) → gn (ga mem 252) j = gn (ga mr 252) j) → zlg lo 0 = some (.ref 221) → zlg lo 1 = some (.int v) → zlg lo 2 = some (.int bu) → zlg lo 3 = some (.int k) → aTm aT0 mem → yR zpg tX12_ticks (d + 10) (8, lo, [], mem) (tkE [249, 250, 251, 252, 253, 254, 256, 257, 259, 260] Q hu (mvS Q hu bu.toInt S) K v.toInt mr) := by
  intro f
  have n6 : foN Q ≤ 6 := by
    have := hW.2.1.2.1
    unfold foN
    omega
  have hF : ∀ c, frP Q c → 0 ≤ c ∧ c < 64 := fun c hc => by
    have z := hc.1
    have q := hW.1
    unfold inG at z
    omega
  have hL : ∀ c, liT Q hu S bu.toInt c ↔ (frP Q c ∧ (¬ (1 : Int32).toInt = 0 → ¬ gn (ga mr 258) c = 0)) := fun c => by
    constructor
    · intro h
      have fc := liT_f h
      have g := hF c fc
      refine ⟨fc, fun _ z => ?_⟩
      rw [h58 c g.1 g.2] at z
      have p := (ltK_p (Q := Q) (hu := hu) (S := S) (but := bu.toInt) (c := c) (Qt Q).length).2 h
      omega
    · rintro ⟨fc, h⟩
      have g := hF c fc
      have h2 := h (by decide)
      rw [h58 c g.1 g.2] at h2
      have b := ltK_b (Q := Q) (hu := hu) (S := S) (but := bu.toInt) (c := c) (Qt Q).length
      exact (ltK_p (Q := Q) (hu := hu) (S := S) (but := bu.toInt) (c := c) (Qt Q).length).1 (by omega)
  have hl0 : ∀ j, 0 ≤ j → j < 64 → 0 ≤ gn (ga mr 258) j := fun j j0 j1 => by
    rw [h58 j j0 j1]
    exact (ltK_b _).1
  induction f with
  | zero =>
    intro k mem lo hf k0 ho hp hq l0 l1 l2 l3 hm
    have M1 := mB_o rfl ho hM
    have cn := (mq_n M1.1).2
    have e58 : ga mem 258 = ga mr 258 := onl_ga ho rfl
    have kn : k.toInt = foN Q := by omega
    exact w_tk8 (L := liT Q hu S bu.toInt) hm l0 l1 l2 l3 M1 hW (by rw [e58]; exact hL) (by rw [e58]; exact hl0) v0 ⟨k0, by omega⟩ (by omega) 
        (fun y1 e2 q3 lo a0 a1 a2 a3 a4 hm2 => by
          have S1 : tM v.toInt Q hu (mvS Q hu bu.toInt S) mem := by
            refine ⟨⟨?_, ?_⟩, fun t t0 t1 => ?_, fun g g0 g1 => ?_, fun t t0 t1 => ?_⟩
            · rw [onl_ga ho rfl]
              exact hS.1.1
            · rw [onl_ga ho rfl]
              exact hS.1.2
            · rw [onl_ga ho rfl]
              exact hS.2.1 t t0 t1
            · rw [hp g g0 g1, if_pos (by omega)]
              rfl
            · rw [onl_ga ho rfl]
              exact hS.2.2.2 t t0 t1
          refine yR_mono ?_ (tk_turn (S := mvS Q hu bu.toInt S) (K := K) M1 hW S1 (mvS_w hs) hH v0 (kM_q (onl_ga ho rfl) (onl_ga ho rfl) hK) (Qt Q).length 0 0 mem lo (by show (0 : Int) + _ = _; unfold thN; omega) (by decide) onl_rf bSt_z ⟨by decide, by decide⟩ a0 a1 a2 a3 a4 hm2)
          rintro r m ⟨fo, r1, r2, B1, B2, B3, B4, B5⟩
          exact ⟨fo, r1, r2, onl_tr (onl_up ho rfl) (onl_up B1 rfl), B2, B3, oLl_tr ⟨fun u _ _ => ⟨by rw [onl_ga ho rfl], by rw [onl_ga ho rfl]⟩, fun j _ _ => by rw [onl_ga ho rfl], hq, oKl_q (onl_ga ho rfl) (onl_ga ho rfl)⟩ B4, B5⟩)
        (fun y1 e2 q3 => by exfalso; omega)
        (fun y1 e2 q3 => by exfalso; omega)
        (fun y1 e2 q3 m10 hm10 k11 x12 e13 lo a0 a1 a2 a3 hm2 => by exfalso; omega)
  | succ f ih =>
    intro k mem lo hf k0 ho hp hq l0 l1 l2 l3 hm
    have M1 := mB_o rfl ho hM
    have cn := (mq_n M1.1).2
    have e58 : ga mem 258 = ga mr 258 := onl_ga ho rfl
    have pk := hp k.toInt k0 (by omega)
    rw [if_neg (by omega)] at pk
    exact w_tk8 (L := liT Q hu S bu.toInt) hm l0 l1 l2 l3 M1 hW (by rw [e58]; exact hL) (by rw [e58]; exact hl0) v0 ⟨k0, by omega⟩ (by omega) 
        (fun y1 e2 q3 lo a0 a1 a2 a3 a4 hm2 => by exfalso; omega)
        (fun y1 e2 q3 => by omega)
        (fun y1 e2 q3 => by rw [pk]; exact hs.2.2.2 k.toInt k0 (by omega))
        (fun y1 e2 q3 m10 hm10 k11 x12 e13 lo a0 a1 a2 a3 hm2 => by
          obtain ⟨K1, K2⟩ := k11
          refine ih x12 _ lo (by omega) (by omega) (onl_tr ho K1) (fun g g0 g1 => ?_) (fun j j0 jv => ?_) a0 a1 a2 a3 hm2
          · rw [K2 _ (by omega)]
            by_cases w : g = k.toInt
            · rw [if_pos (by omega), if_pos (by omega), pk, w]
              rfl
            · rw [if_neg (by omega), hp g g0 g1]
              by_cases w2 : g < k.toInt
              · rw [if_pos w2, if_pos (by omega)]
              · rw [if_neg w2, if_neg (by omega)]
          · rw [K2 j j0, if_neg (by omega)]
            exact hq j j0 jv)
theorem h_tk {v bu : Int32} {K : Kd} (hm : aTm aT0 mem) (hM : mB Q mem) (hW : WQ Q) (hS : tM v.toInt Q hu S mem) (hs : wS Q S) (hH : wH Q hu) (hK : kM v.toInt K mem) (v0 : 0 ≤ v.toInt ∧ v.toInt ≤ 21) (hd : 11 ≤ d) : yC zpg d 235 [.ref 221, .int v, .int bu] mem (fun r m => ∃ fo : Int32, r = some (.int fo) ∧ aTm aT0 m ∧ (onl [249, 250, 251, 252, 253, 254, 256, 257, 258, 259, 260] mem m ∧ tM v.toInt Q hu (tkS Q hu bu.toInt S) m ∧ kM v.toInt (tkK Q hu bu.toInt S K) m ∧ oLl v.toInt mem m ∧ fo.toInt = fdN Q hu bu.toInt S)) := by
  obtain ⟨d, rfl⟩ : ∃ q, d = q + 11 := ⟨d - 11, by omega⟩
  refine yC_of (t := tX12_ticks) rfl rfl ?_
  exact w_tk0 (S := S) (hu := hu) hm rfl rfl rfl hM hW hS hs hH v0 
        (fun m1 hm1 k2 lo a0 a1 a2 a3 hm2 => by
      obtain ⟨K1, K2⟩ := k2
      have S1 := tM_o K1 hS
      refine yR_mono ?_ (tk_walk (S := S) (K := K) (mB_o rfl K1 hM) hW S1 hs hH v0 (kM_q (onl_ga K1 rfl) (onl_ga K1 rfl) hK) K2 (Qf Q).length 0 _ lo (by show (0 : Int) + _ = _; unfold foN; omega) (by decide) onl_rf (fun g g0 g1 => by rw [S1.2.2.1 g g0 g1, if_neg (by show ¬ g < 0; omega)]) (fun _ _ _ => rfl) a0 a1 a2 a3 hm2)
      rintro r m ⟨fo, r1, r2, B1, B2, B3, B4, B5⟩
      exact ⟨fo, r1, r2, onl_tr (onl_up K1 rfl) (onl_up B1 rfl), B2, B3, oLl_tr (oLl_q (onl_ga K1 rfl) (onl_ga K1 rfl) (onl_ga K1 rfl) (onl_ga K1 rfl) (onl_ga K1 rfl) (onl_ga K1 rfl)) B4, B5⟩)
end TKB
