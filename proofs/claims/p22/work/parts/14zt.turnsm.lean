/-! what turns: the model -/
section TMA
variable {d : Nat} {mem : zM} {Q : Qd} {S : Sd} {hu : Int → Int}
theorem tn_1 {t : Int} (hb : bt (Sm S) t) : tnP Q hu S t ↔ fdC Q hu S t := by
  unfold tnP
  constructor
  · rintro (⟨-, h⟩ | ⟨h, -⟩)
    · exact h
    · exact absurd hb h
  · exact fun h => Or.inl ⟨hb, h⟩
theorem tn_0 {t : Int} (hb : ¬ bt (Sm S) t) : tnP Q hu S t ↔ lsC Q hu S t := by
  unfold tnP
  constructor
  · rintro (⟨h, -⟩ | ⟨-, h⟩)
    · exact absurd h hb
    · exact h
  · exact fun h => Or.inr ⟨hb, h⟩
theorem mq_c {B w : Int} (hW : WQ Q) (k : mQ B Q mem) (w0 : 0 ≤ w) (w3 : w < 3) (wn : ¬ w = 0) : ∃ c, (¬ gn (ga mem 236) (3 * B + w) = -1 → rlM w B c true mem ∧ (Qk Q).lookup w = some c) ∧ (gn (ga mem 236) (3 * B + w) = -1 → (Qk Q).lookup w = none) := by
  obtain ⟨rT, rN⟩ := mq_r hW k w0 w3
  rw [decide_eq_true wn] at rT
  cases hk : (Qk Q).lookup w with
  | none => exact ⟨[], fun z => absurd (rN hk) z, fun _ => rfl⟩
  | some c => exact ⟨c, fun _ => ⟨(rT c hk).2, rfl⟩, fun z => absurd z (rT c hk).1⟩
theorem ag_n {l : List Int32} {y : Int32} {j : Int} (hl : 7 ≤ l.length) (j0 : 0 ≤ j) (j6 : ¬ j = 6) : gn (l.set (6 : Int32).toNatClampNeg y) j = gn l j := by
  rw [gn_set (show (6 : Int32).toInt = 6 from rfl) (by decide) (by omega) j0, if_neg j6]
theorem ag_e {l : List Int32} {y : Int32} (hl : 7 ≤ l.length) : gn (l.set (6 : Int32).toNatClampNeg y) 6 = y.toInt := by
  rw [gn_set (show (6 : Int32).toInt = 6 from rfl) (by decide) (by omega) (by decide), if_pos rfl]
theorem ag_6 {m : zM} {y1 y2 y3 y4 y5 y6 : Int32} (hm : aTm aT0 m) (l : List Int32) (hl : l = (((((ga m 257).set (1 : Int32).toNatClampNeg y1).set (2 : Int32).toNatClampNeg y2).set (3 : Int32).toNatClampNeg y3).set (4 : Int32).toNatClampNeg y4).set (5 : Int32).toNatClampNeg y5) : (gn (l.set (6 : Int32).toNatClampNeg y6) 1 = y1.toInt ∧ gn (l.set (6 : Int32).toNatClampNeg y6) 2 = y2.toInt ∧ gn (l.set (6 : Int32).toNatClampNeg y6) 3 = y3.toInt ∧ gn (l.set (6 : Int32).toNatClampNeg y6) 4 = y4.toInt ∧ gn (l.set (6 : Int32).toNatClampNeg y6) 5 = y5.toInt) ∧ gn (l.set (6 : Int32).toNatClampNeg y6) 6 = y6.toInt := by
  have l7 := gl_257 hm
  have h7 : 7 ≤ l.length := by
    rw [hl]
    simp only [List.length_set]
    omega
  obtain ⟨g1, g2, g3, g4, g5⟩ := ag_5 (m := m) (y1 := y1) (y2 := y2) (y3 := y3) (y4 := y4) (y5 := y5) hm
  rw [← hl] at g1 g2 g3 g4 g5
  exact ⟨⟨(ag_n h7 (by decide) (by decide)).trans g1, (ag_n h7 (by decide) (by decide)).trans g2, (ag_n h7 (by decide) (by decide)).trans g3, (ag_n h7 (by decide) (by decide)).trans g4, (ag_n h7 (by decide) (by decide)).trans g5⟩, ag_e h7⟩
set_option maxRecDepth 100000 in
theorem w_tm0 {d : Nat} {mem : zM} {P : Option Value → zM → Prop} {v t : Int32} {lo : List (Nat × Value)} (hm : aTm aT0 mem) (l_0 : zlg lo 0 = some (.ref 221)) (l_1 : zlg lo 1 = some (.int v)) (l_2 : zlg lo 2 = some (.int t)) (v0 : 0 ≤ v.toInt ∧ v.toInt ≤ 21) (t0 : 0 ≤ t.toInt ∧ t.toInt ≤ 8) (h1 : ∀ (y1 : Int32), y1.toInt = (gn (ga mem 250) (v).toInt) → ¬ ((y1 >>> (t &&& 31)) &&& 1).toInt = 1 → ∀ lo, zlg lo 0 = some (.ref 221) → zlg lo 1 = some (.int v) → zlg lo 2 = some (.int t) → zlg lo 3 = some (.int 0) → zlg lo 4 = some (.int 0) → zlg lo 5 = some (.int 0) → aTm aT0 mem → yR zpg tX12_isTurned (d + 5) (17, lo, [], mem) P) (h2 : ∀ (y1 : Int32), y1.toInt = (gn (ga mem 250) (v).toInt) → ((y1 >>> (t &&& 31)) &&& 1).toInt = 1 → ∀ lo, zlg lo 0 = some (.ref 221) → zlg lo 1 = some (.int v) → zlg lo 2 = some (.int t) → zlg lo 3 = some (.int 1) → zlg lo 4 = some (.int 0) → zlg lo 5 = some (.int 0) → aTm aT0 mem → yR zpg tX12_isTurned (d + 5) (17, lo, [], mem) P) : yR zpg tX12_isTurned (d + 5) (0, lo, [], mem) P := by
  refine wR_la rfl l_0 ?_
  refine wR_gr rfl mO_e mO_49 hm ?_
  refine wR_li rfl l_1 ?_
  refine wN_al (a := (v).toInt) rfl aR_250 hm rfl rfl (by omega) (fun y1 e2 => ?_)
  refine wR_li rfl l_2 ?_
  refine wR_is rfl rfl rfl rfl rfl rfl ?_
  show yR zpg tX12_has2 (d + 4) (0, [(0, .int y1), (1, .int t)], [], mem) _
  refine yR_m 6 (fun _ _ _ _ => rfl) ?_
  refine wR_ic_ne rfl (a := ((y1 >>> (t &&& 31)) &&& 1).toInt) (c := 1) rfl rfl (fun q3 => ?_) (fun q3 => ?_)
  ·
    refine yR_m 1 (fun _ _ _ _ => rfl) ?_
    refine yR_rz rfl ⟨by decide, by decide⟩ ?_
    show yR zpg tX12_isTurned (d + 5) (10, lo, [.int 0], mem) _
    refine wR_si rfl rfl (fun lo4 e5 f6 => ?_)
    have lo4_0 := f6 0 _ (by decide) (Or.inl rfl) l_0
    have lo4_1 := f6 1 _ (by decide) (Or.inl rfl) l_1
    have lo4_2 := f6 2 _ (by decide) (Or.inl rfl) l_2
    refine yR_m 1 (fun _ _ _ _ => rfl) ?_
    refine wR_si rfl rfl (fun lo7 e8 f9 => ?_)
    have lo7_3 := f9 3 _ (by decide) (Or.inl rfl) e5
    have lo7_0 := f9 0 _ (by decide) (Or.inl rfl) lo4_0
    have lo7_1 := f9 1 _ (by decide) (Or.inl rfl) lo4_1
    have lo7_2 := f9 2 _ (by decide) (Or.inl rfl) lo4_2
    refine yR_m 1 (fun _ _ _ _ => rfl) ?_
    refine wR_si rfl rfl (fun lo10 e11 f12 => ?_)
    have lo10_4 := f12 4 _ (by decide) (Or.inl rfl) e8
    have lo10_3 := f12 3 _ (by decide) (Or.inl rfl) lo7_3
    have lo10_0 := f12 0 _ (by decide) (Or.inl rfl) lo7_0
    have lo10_1 := f12 1 _ (by decide) (Or.inl rfl) lo7_1
    have lo10_2 := f12 2 _ (by decide) (Or.inl rfl) lo7_2
    exact h1 y1 e2 q3 lo10 lo10_0 lo10_1 lo10_2 lo10_3 lo10_4 e11 hm
  ·
    refine yR_m 2 (fun _ _ _ _ => rfl) ?_
    refine yR_rz rfl ⟨by decide, by decide⟩ ?_
    show yR zpg tX12_isTurned (d + 5) (10, lo, [.int 1], mem) _
    refine wR_si rfl rfl (fun lo13 e14 f15 => ?_)
    have lo13_0 := f15 0 _ (by decide) (Or.inl rfl) l_0
    have lo13_1 := f15 1 _ (by decide) (Or.inl rfl) l_1
    have lo13_2 := f15 2 _ (by decide) (Or.inl rfl) l_2
    refine yR_m 1 (fun _ _ _ _ => rfl) ?_
    refine wR_si rfl rfl (fun lo16 e17 f18 => ?_)
    have lo16_3 := f18 3 _ (by decide) (Or.inl rfl) e14
    have lo16_0 := f18 0 _ (by decide) (Or.inl rfl) lo13_0
    have lo16_1 := f18 1 _ (by decide) (Or.inl rfl) lo13_1
    have lo16_2 := f18 2 _ (by decide) (Or.inl rfl) lo13_2
    refine yR_m 1 (fun _ _ _ _ => rfl) ?_
    refine wR_si rfl rfl (fun lo19 e20 f21 => ?_)
    have lo19_4 := f21 4 _ (by decide) (Or.inl rfl) e17
    have lo19_3 := f21 3 _ (by decide) (Or.inl rfl) lo16_3
    have lo19_0 := f21 0 _ (by decide) (Or.inl rfl) lo16_0
    have lo19_1 := f21 1 _ (by decide) (Or.inl rfl) lo16_1
    have lo19_2 := f21 2 _ (by decide) (Or.inl rfl) lo16_2
    exact h2 y1 e2 q3 lo19 lo19_0 lo19_1 lo19_2 lo19_3 lo19_4 e20 hm

set_option maxRecDepth 100000 in
theorem w_tm17 {d : Nat} {mem : zM} {P : Option Value → zM → Prop} {v t il n k : Int32} {env : Int → Int} {c1 c2 : List Int} {lo : List (Nat × Value)} (hm : aTm aT0 mem) (l_0 : zlg lo 0 = some (.ref 221)) (l_1 : zlg lo 1 = some (.int v)) (l_2 : zlg lo 2 = some (.int t)) (l_3 : zlg lo 3 = some (.int il)) (l_4 : zlg lo 4 = some (.int n)) (l_5 : zlg lo 5 = some (.int k)) (v0 : 0 ≤ v.toInt ∧ v.toInt ≤ 21) (t0 : 0 ≤ t.toInt ∧ t.toInt ≤ 8) (he : ∀ z, -1000000 ≤ env z ∧ env z ≤ 1000000) (hT1 : ¬ gn (ga mem 236) (3 * (gi mem 221 13).toInt + 1) = -1 → rlM 1 (gi mem 221 13).toInt c1 true mem) (hT2 : ¬ gn (ga mem 236) (3 * (gi mem 221 13).toInt + 2) = -1 → rlM 2 (gi mem 221 13).toInt c2 true mem) (r1 : 0 ≤ gn (ga mem 250) v.toInt ∧ gn (ga mem 250) v.toInt ≤ 511) (fk : gn (ga mem 233) (gi mem 221 13).toInt ≤ 6) (hk : 0 ≤ k.toInt ∧ k.toInt ≤ 6) (hn : 0 ≤ n.toInt ∧ n.toInt ≤ 6) (h1 : ∀ (y1 : Int32), y1.toInt = (gn (ga mem 233) (gi mem 221 13).toInt) → (gn (ga mem 233) (gi mem 221 13).toInt) ≤ (k).toInt → (il).toInt = 0 → ∀ (x5 : Int32), x5.toInt = (3 * (gi mem 221 13).toInt) → ∀ (x7 : Int32), x7.toInt = ((3 * (gi mem 221 13).toInt) + 2) → ∀ (y9 : Int32), y9.toInt = (gn (ga mem 236) ((3 * (gi mem 221 13).toInt) + 2)) → (gn (ga mem 236) ((3 * (gi mem 221 13).toInt) + 2)) = (-1) → aTm aT0 mem → P (some (.int 0)) mem) (s1 : ∀ (y1 : Int32), y1.toInt = (gn (ga mem 233) (gi mem 221 13).toInt) → (gn (ga mem 233) (gi mem 221 13).toInt) ≤ (k).toInt → (il).toInt = 0 → ∀ (x5 : Int32), x5.toInt = (3 * (gi mem 221 13).toInt) → ∀ (x7 : Int32), x7.toInt = ((3 * (gi mem 221 13).toInt) + 2) → ∀ (y9 : Int32), y9.toInt = (gn (ga mem 236) ((3 * (gi mem 221 13).toInt) + 2)) → ¬ (gn (ga mem 236) ((3 * (gi mem 221 13).toInt) + 2)) = (-1) → ∀ (y12 : Int32), y12.toInt = (gn (ga mem 249) (v).toInt) → ∀ (y14 : Int32), y14.toInt = (gn (ga mem 255) (t).toInt) → ∀ (x16 : Int32), x16.toInt = (9 * (gi mem 221 13).toInt) → ∀ (x18 : Int32), x18.toInt = ((9 * (gi mem 221 13).toInt) + (t).toInt) → ∀ (y20 : Int32), y20.toInt = (gn (ga mem 231) ((9 * (gi mem 221 13).toInt) + (t).toInt)) → ∀ (x22 : Int32), x22.toInt = (9 * (v).toInt) → ∀ (x24 : Int32), x24.toInt = ((9 * (v).toInt) + (t).toInt) → ∀ (y26 : Int32), y26.toInt = (gn (ga mem 251) ((9 * (v).toInt) + (t).toInt)) → ∀ (y28 : Int32), y28.toInt = (gn (ga mem 250) (v).toInt) → ∀ (v30 : Int32), v30.toInt = pop y28 → gn (ga (sx (sx (sx (sx (sx (sx mem 257 1 y12) 257 2 y14) 257 3 y20) 257 4 y26) 257 5 v30) 257 6 n) 257) 1 = env 15 ∧ gn (ga (sx (sx (sx (sx (sx (sx mem 257 1 y12) 257 2 y14) 257 3 y20) 257 4 y26) 257 5 v30) 257 6 n) 257) 2 = env 7 ∧ gn (ga (sx (sx (sx (sx (sx (sx mem 257 1 y12) 257 2 y14) 257 3 y20) 257 4 y26) 257 5 v30) 257 6 n) 257) 3 = env 8 ∧ gn (ga (sx (sx (sx (sx (sx (sx mem 257 1 y12) 257 2 y14) 257 3 y20) 257 4 y26) 257 5 v30) 257 6 n) 257) 4 = env 16 ∧ gn (ga (sx (sx (sx (sx (sx (sx mem 257 1 y12) 257 2 y14) 257 3 y20) 257 4 y26) 257 5 v30) 257 6 n) 257) 5 = env 17) (s2 : ∀ (y1 : Int32), y1.toInt = (gn (ga mem 233) (gi mem 221 13).toInt) → (gn (ga mem 233) (gi mem 221 13).toInt) ≤ (k).toInt → (il).toInt = 0 → ∀ (x5 : Int32), x5.toInt = (3 * (gi mem 221 13).toInt) → ∀ (x7 : Int32), x7.toInt = ((3 * (gi mem 221 13).toInt) + 2) → ∀ (y9 : Int32), y9.toInt = (gn (ga mem 236) ((3 * (gi mem 221 13).toInt) + 2)) → ¬ (gn (ga mem 236) ((3 * (gi mem 221 13).toInt) + 2)) = (-1) → ∀ (y12 : Int32), y12.toInt = (gn (ga mem 249) (v).toInt) → ∀ (y14 : Int32), y14.toInt = (gn (ga mem 255) (t).toInt) → ∀ (x16 : Int32), x16.toInt = (9 * (gi mem 221 13).toInt) → ∀ (x18 : Int32), x18.toInt = ((9 * (gi mem 221 13).toInt) + (t).toInt) → ∀ (y20 : Int32), y20.toInt = (gn (ga mem 231) ((9 * (gi mem 221 13).toInt) + (t).toInt)) → ∀ (x22 : Int32), x22.toInt = (9 * (v).toInt) → ∀ (x24 : Int32), x24.toInt = ((9 * (v).toInt) + (t).toInt) → ∀ (y26 : Int32), y26.toInt = (gn (ga mem 251) ((9 * (v).toInt) + (t).toInt)) → ∀ (y28 : Int32), y28.toInt = (gn (ga mem 250) (v).toInt) → ∀ (v30 : Int32), v30.toInt = pop y28 → ((10018 : Int) ∈ c2 → gn (ga (sx (sx (sx (sx (sx (sx mem 257 1 y12) 257 2 y14) 257 3 y20) 257 4 y26) 257 5 v30) 257 6 n) 257) 6 = env 18)) (h2 : ∀ (y1 : Int32), y1.toInt = (gn (ga mem 233) (gi mem 221 13).toInt) → (gn (ga mem 233) (gi mem 221 13).toInt) ≤ (k).toInt → (il).toInt = 0 → ∀ (x5 : Int32), x5.toInt = (3 * (gi mem 221 13).toInt) → ∀ (x7 : Int32), x7.toInt = ((3 * (gi mem 221 13).toInt) + 2) → ∀ (y9 : Int32), y9.toInt = (gn (ga mem 236) ((3 * (gi mem 221 13).toInt) + 2)) → ¬ (gn (ga mem 236) ((3 * (gi mem 221 13).toInt) + 2)) = (-1) → ∀ (y12 : Int32), y12.toInt = (gn (ga mem 249) (v).toInt) → ∀ (y14 : Int32), y14.toInt = (gn (ga mem 255) (t).toInt) → ∀ (x16 : Int32), x16.toInt = (9 * (gi mem 221 13).toInt) → ∀ (x18 : Int32), x18.toInt = ((9 * (gi mem 221 13).toInt) + (t).toInt) → ∀ (y20 : Int32), y20.toInt = (gn (ga mem 231) ((9 * (gi mem 221 13).toInt) + (t).toInt)) → ∀ (x22 : Int32), x22.toInt = (9 * (v).toInt) → ∀ (x24 : Int32), x24.toInt = ((9 * (v).toInt) + (t).toInt) → ∀ (y26 : Int32), y26.toInt = (gn (ga mem 251) ((9 * (v).toInt) + (t).toInt)) → ∀ (y28 : Int32), y28.toInt = (gn (ga mem 250) (v).toInt) → ∀ (v30 : Int32), v30.toInt = pop y28 → ∀ (v34 : Int64) (m32 : zM), aTm aT0 m32 → (onl [256] (sx (sx (sx (sx (sx (sx mem 257 1 y12) 257 2 y14) 257 3 y20) 257 4 y26) 257 5 v30) 257 6 n) m32 ∧ v34.toInt = rvV env c2) → ¬ v34 = 1 → aTm aT0 m32 → P (some (.int 0)) m32) (h3 : ∀ (y1 : Int32), y1.toInt = (gn (ga mem 233) (gi mem 221 13).toInt) → (gn (ga mem 233) (gi mem 221 13).toInt) ≤ (k).toInt → (il).toInt = 0 → ∀ (x5 : Int32), x5.toInt = (3 * (gi mem 221 13).toInt) → ∀ (x7 : Int32), x7.toInt = ((3 * (gi mem 221 13).toInt) + 2) → ∀ (y9 : Int32), y9.toInt = (gn (ga mem 236) ((3 * (gi mem 221 13).toInt) + 2)) → ¬ (gn (ga mem 236) ((3 * (gi mem 221 13).toInt) + 2)) = (-1) → ∀ (y12 : Int32), y12.toInt = (gn (ga mem 249) (v).toInt) → ∀ (y14 : Int32), y14.toInt = (gn (ga mem 255) (t).toInt) → ∀ (x16 : Int32), x16.toInt = (9 * (gi mem 221 13).toInt) → ∀ (x18 : Int32), x18.toInt = ((9 * (gi mem 221 13).toInt) + (t).toInt) → ∀ (y20 : Int32), y20.toInt = (gn (ga mem 231) ((9 * (gi mem 221 13).toInt) + (t).toInt)) → ∀ (x22 : Int32), x22.toInt = (9 * (v).toInt) → ∀ (x24 : Int32), x24.toInt = ((9 * (v).toInt) + (t).toInt) → ∀ (y26 : Int32), y26.toInt = (gn (ga mem 251) ((9 * (v).toInt) + (t).toInt)) → ∀ (y28 : Int32), y28.toInt = (gn (ga mem 250) (v).toInt) → ∀ (v30 : Int32), v30.toInt = pop y28 → ∀ (v34 : Int64) (m32 : zM), aTm aT0 m32 → (onl [256] (sx (sx (sx (sx (sx (sx mem 257 1 y12) 257 2 y14) 257 3 y20) 257 4 y26) 257 5 v30) 257 6 n) m32 ∧ v34.toInt = rvV env c2) → v34 = 1 → aTm aT0 m32 → P (some (.int 1)) m32) (h4 : ∀ (y1 : Int32), y1.toInt = (gn (ga mem 233) (gi mem 221 13).toInt) → (gn (ga mem 233) (gi mem 221 13).toInt) ≤ (k).toInt → ¬ (il).toInt = 0 → ∀ (x36 : Int32), x36.toInt = (3 * (gi mem 221 13).toInt) → ∀ (x38 : Int32), x38.toInt = ((3 * (gi mem 221 13).toInt) + 1) → ∀ (y40 : Int32), y40.toInt = (gn (ga mem 236) ((3 * (gi mem 221 13).toInt) + 1)) → (gn (ga mem 236) ((3 * (gi mem 221 13).toInt) + 1)) = (-1) → (n).toInt ≤ 0 → aTm aT0 mem → P (some (.int 0)) mem) (h5 : ∀ (y1 : Int32), y1.toInt = (gn (ga mem 233) (gi mem 221 13).toInt) → (gn (ga mem 233) (gi mem 221 13).toInt) ≤ (k).toInt → ¬ (il).toInt = 0 → ∀ (x36 : Int32), x36.toInt = (3 * (gi mem 221 13).toInt) → ∀ (x38 : Int32), x38.toInt = ((3 * (gi mem 221 13).toInt) + 1) → ∀ (y40 : Int32), y40.toInt = (gn (ga mem 236) ((3 * (gi mem 221 13).toInt) + 1)) → (gn (ga mem 236) ((3 * (gi mem 221 13).toInt) + 1)) = (-1) → 0 < (n).toInt → aTm aT0 mem → P (some (.int 1)) mem) (s3 : ∀ (y1 : Int32), y1.toInt = (gn (ga mem 233) (gi mem 221 13).toInt) → (gn (ga mem 233) (gi mem 221 13).toInt) ≤ (k).toInt → ¬ (il).toInt = 0 → ∀ (x36 : Int32), x36.toInt = (3 * (gi mem 221 13).toInt) → ∀ (x38 : Int32), x38.toInt = ((3 * (gi mem 221 13).toInt) + 1) → ∀ (y40 : Int32), y40.toInt = (gn (ga mem 236) ((3 * (gi mem 221 13).toInt) + 1)) → ¬ (gn (ga mem 236) ((3 * (gi mem 221 13).toInt) + 1)) = (-1) → ∀ (y44 : Int32), y44.toInt = (gn (ga mem 249) (v).toInt) → ∀ (y46 : Int32), y46.toInt = (gn (ga mem 255) (t).toInt) → ∀ (x48 : Int32), x48.toInt = (9 * (gi mem 221 13).toInt) → ∀ (x50 : Int32), x50.toInt = ((9 * (gi mem 221 13).toInt) + (t).toInt) → ∀ (y52 : Int32), y52.toInt = (gn (ga mem 231) ((9 * (gi mem 221 13).toInt) + (t).toInt)) → ∀ (x54 : Int32), x54.toInt = (9 * (v).toInt) → ∀ (x56 : Int32), x56.toInt = ((9 * (v).toInt) + (t).toInt) → ∀ (y58 : Int32), y58.toInt = (gn (ga mem 251) ((9 * (v).toInt) + (t).toInt)) → ∀ (y60 : Int32), y60.toInt = (gn (ga mem 250) (v).toInt) → ∀ (v62 : Int32), v62.toInt = pop y60 → gn (ga (sx (sx (sx (sx (sx (sx mem 257 1 y44) 257 2 y46) 257 3 y52) 257 4 y58) 257 5 v62) 257 6 n) 257) 1 = env 15 ∧ gn (ga (sx (sx (sx (sx (sx (sx mem 257 1 y44) 257 2 y46) 257 3 y52) 257 4 y58) 257 5 v62) 257 6 n) 257) 2 = env 7 ∧ gn (ga (sx (sx (sx (sx (sx (sx mem 257 1 y44) 257 2 y46) 257 3 y52) 257 4 y58) 257 5 v62) 257 6 n) 257) 3 = env 8 ∧ gn (ga (sx (sx (sx (sx (sx (sx mem 257 1 y44) 257 2 y46) 257 3 y52) 257 4 y58) 257 5 v62) 257 6 n) 257) 4 = env 16 ∧ gn (ga (sx (sx (sx (sx (sx (sx mem 257 1 y44) 257 2 y46) 257 3 y52) 257 4 y58) 257 5 v62) 257 6 n) 257) 5 = env 17) (s4 : ∀ (y1 : Int32), y1.toInt = (gn (ga mem 233) (gi mem 221 13).toInt) → (gn (ga mem 233) (gi mem 221 13).toInt) ≤ (k).toInt → ¬ (il).toInt = 0 → ∀ (x36 : Int32), x36.toInt = (3 * (gi mem 221 13).toInt) → ∀ (x38 : Int32), x38.toInt = ((3 * (gi mem 221 13).toInt) + 1) → ∀ (y40 : Int32), y40.toInt = (gn (ga mem 236) ((3 * (gi mem 221 13).toInt) + 1)) → ¬ (gn (ga mem 236) ((3 * (gi mem 221 13).toInt) + 1)) = (-1) → ∀ (y44 : Int32), y44.toInt = (gn (ga mem 249) (v).toInt) → ∀ (y46 : Int32), y46.toInt = (gn (ga mem 255) (t).toInt) → ∀ (x48 : Int32), x48.toInt = (9 * (gi mem 221 13).toInt) → ∀ (x50 : Int32), x50.toInt = ((9 * (gi mem 221 13).toInt) + (t).toInt) → ∀ (y52 : Int32), y52.toInt = (gn (ga mem 231) ((9 * (gi mem 221 13).toInt) + (t).toInt)) → ∀ (x54 : Int32), x54.toInt = (9 * (v).toInt) → ∀ (x56 : Int32), x56.toInt = ((9 * (v).toInt) + (t).toInt) → ∀ (y58 : Int32), y58.toInt = (gn (ga mem 251) ((9 * (v).toInt) + (t).toInt)) → ∀ (y60 : Int32), y60.toInt = (gn (ga mem 250) (v).toInt) → ∀ (v62 : Int32), v62.toInt = pop y60 → ((10018 : Int) ∈ c1 → gn (ga (sx (sx (sx (sx (sx (sx mem 257 1 y44) 257 2 y46) 257 3 y52) 257 4 y58) 257 5 v62) 257 6 n) 257) 6 = env 18)) (h6 : ∀ (y1 : Int32), y1.toInt = (gn (ga mem 233) (gi mem 221 13).toInt) → (gn (ga mem 233) (gi mem 221 13).toInt) ≤ (k).toInt → ¬ (il).toInt = 0 → ∀ (x36 : Int32), x36.toInt = (3 * (gi mem 221 13).toInt) → ∀ (x38 : Int32), x38.toInt = ((3 * (gi mem 221 13).toInt) + 1) → ∀ (y40 : Int32), y40.toInt = (gn (ga mem 236) ((3 * (gi mem 221 13).toInt) + 1)) → ¬ (gn (ga mem 236) ((3 * (gi mem 221 13).toInt) + 1)) = (-1) → ∀ (y44 : Int32), y44.toInt = (gn (ga mem 249) (v).toInt) → ∀ (y46 : Int32), y46.toInt = (gn (ga mem 255) (t).toInt) → ∀ (x48 : Int32), x48.toInt = (9 * (gi mem 221 13).toInt) → ∀ (x50 : Int32), x50.toInt = ((9 * (gi mem 221 13).toInt) + (t).toInt) → ∀ (y52 : Int32), y52.toInt = (gn (ga mem 231) ((9 * (gi mem 221 13).toInt) + (t).toInt)) → ∀ (x54 : Int32), x54.toInt = (9 * (v).toInt) → ∀ (x56 : Int32), x56.toInt = ((9 * (v).toInt) + (t).toInt) → ∀ (y58 : Int32), y58.toInt = (gn (ga mem 251) ((9 * (v).toInt) + (t).toInt)) → ∀ (y60 : Int32), y60.toInt = (gn (ga mem 250) (v).toInt) → ∀ (v62 : Int32), v62.toInt = pop y60 → ∀ (v66 : Int64) (m64 : zM), aTm aT0 m64 → (onl [256] (sx (sx (sx (sx (sx (sx mem 257 1 y44) 257 2 y46) 257 3 y52) 257 4 y58) 257 5 v62) 257 6 n) m64 ∧ v66.toInt = rvV env c1) → ¬ v66 = 1 → aTm aT0 m64 → P (some (.int 0)) m64) (h7 : ∀ (y1 : Int32), y1.toInt = (gn (ga mem 233) (gi mem 221 13).toInt) → (gn (ga mem 233) (gi mem 221 13).toInt) ≤ (k).toInt → ¬ (il).toInt = 0 → ∀ (x36 : Int32), x36.toInt = (3 * (gi mem 221 13).toInt) → ∀ (x38 : Int32), x38.toInt = ((3 * (gi mem 221 13).toInt) + 1) → ∀ (y40 : Int32), y40.toInt = (gn (ga mem 236) ((3 * (gi mem 221 13).toInt) + 1)) → ¬ (gn (ga mem 236) ((3 * (gi mem 221 13).toInt) + 1)) = (-1) → ∀ (y44 : Int32), y44.toInt = (gn (ga mem 249) (v).toInt) → ∀ (y46 : Int32), y46.toInt = (gn (ga mem 255) (t).toInt) → ∀ (x48 : Int32), x48.toInt = (9 * (gi mem 221 13).toInt) → ∀ (x50 : Int32), x50.toInt = ((9 * (gi mem 221 13).toInt) + (t).toInt) → ∀ (y52 : Int32), y52.toInt = (gn (ga mem 231) ((9 * (gi mem 221 13).toInt) + (t).toInt)) → ∀ (x54 : Int32), x54.toInt = (9 * (v).toInt) → ∀ (x56 : Int32), x56.toInt = ((9 * (v).toInt) + (t).toInt) → ∀ (y58 : Int32), y58.toInt = (gn (ga mem 251) ((9 * (v).toInt) + (t).toInt)) → ∀ (y60 : Int32), y60.toInt = (gn (ga mem 250) (v).toInt) → ∀ (v62 : Int32), v62.toInt = pop y60 → ∀ (v66 : Int64) (m64 : zM), aTm aT0 m64 → (onl [256] (sx (sx (sx (sx (sx (sx mem 257 1 y44) 257 2 y46) 257 3 y52) 257 4 y58) 257 5 v62) 257 6 n) m64 ∧ v66.toInt = rvV env c1) → v66 = 1 → aTm aT0 m64 → P (some (.int 1)) m64) (h8 : ∀ (y1 : Int32), y1.toInt = (gn (ga mem 233) (gi mem 221 13).toInt) → (k).toInt < (gn (ga mem 233) (gi mem 221 13).toInt) → ∀ (x68 : Int32), x68.toInt = (6 * (v).toInt) → ∀ (x70 : Int32), x70.toInt = ((6 * (v).toInt) + (k).toInt) → ∀ (y72 : Int32), y72.toInt = (gn (ga mem 252) ((6 * (v).toInt) + (k).toInt)) → ∀ (x74 : Int32), x74.toInt = (9 * (gi mem 221 13).toInt) → ∀ (x76 : Int32), x76.toInt = ((9 * (gi mem 221 13).toInt) + (t).toInt) → ∀ (y78 : Int32), y78.toInt = (gn (ga mem 229) ((9 * (gi mem 221 13).toInt) + (t).toInt)) → ¬ (gn (ga mem 252) ((6 * (v).toInt) + (k).toInt)) = (gn (ga mem 229) ((9 * (gi mem 221 13).toInt) + (t).toInt)) → ∀ (x81 : Int32), x81.toInt = ((n).toInt + 0) → ∀ (x86 : Int32), x86.toInt = ((k).toInt + 1) → ∀ lo, zlg lo 0 = some (.ref 221) → zlg lo 1 = some (.int v) → zlg lo 2 = some (.int t) → zlg lo 3 = some (.int il) → zlg lo 4 = some (.int x81) → zlg lo 5 = some (.int x86) → aTm aT0 mem → yR zpg tX12_isTurned (d + 5) (17, lo, [], mem) P) (h9 : ∀ (y1 : Int32), y1.toInt = (gn (ga mem 233) (gi mem 221 13).toInt) → (k).toInt < (gn (ga mem 233) (gi mem 221 13).toInt) → ∀ (x68 : Int32), x68.toInt = (6 * (v).toInt) → ∀ (x70 : Int32), x70.toInt = ((6 * (v).toInt) + (k).toInt) → ∀ (y72 : Int32), y72.toInt = (gn (ga mem 252) ((6 * (v).toInt) + (k).toInt)) → ∀ (x74 : Int32), x74.toInt = (9 * (gi mem 221 13).toInt) → ∀ (x76 : Int32), x76.toInt = ((9 * (gi mem 221 13).toInt) + (t).toInt) → ∀ (y78 : Int32), y78.toInt = (gn (ga mem 229) ((9 * (gi mem 221 13).toInt) + (t).toInt)) → (gn (ga mem 252) ((6 * (v).toInt) + (k).toInt)) = (gn (ga mem 229) ((9 * (gi mem 221 13).toInt) + (t).toInt)) → ∀ (x91 : Int32), x91.toInt = ((n).toInt + 1) → ∀ (x96 : Int32), x96.toInt = ((k).toInt + 1) → ∀ lo, zlg lo 0 = some (.ref 221) → zlg lo 1 = some (.int v) → zlg lo 2 = some (.int t) → zlg lo 3 = some (.int il) → zlg lo 4 = some (.int x91) → zlg lo 5 = some (.int x96) → aTm aT0 mem → yR zpg tX12_isTurned (d + 5) (17, lo, [], mem) P) : yR zpg tX12_isTurned (d + 5) (17, lo, [], mem) P := by
  have rb := mO_r13 hm
  refine wR_li rfl l_5 ?_
  refine wR_la rfl l_0 ?_
  refine wR_gr rfl mO_e mO_24 hm ?_
  refine wR_la rfl l_0 ?_
  refine wR_gi rfl mO_e mO_13 hm rfl ?_
  refine wN_al (a := (gi mem 221 13).toInt) rfl aR_233 hm rfl rfl (by omega) (fun y1 e2 => ?_)
  refine wR_ic_ge rfl (a := (k).toInt) (c := (gn (ga mem 233) (gi mem 221 13).toInt)) rfl e2 (fun q3 => ?_) (fun q3 => ?_)
  ·
    refine wR_la rfl l_0 ?_
    refine wR_li rfl l_3 ?_
    refine wR_if_eq rfl (a := (il).toInt) rfl (fun q4 => ?_) (fun q4 => ?_)
    ·
      refine yR_m 1 (fun _ _ _ _ => rfl) ?_
      refine wR_iv rfl rfl mO_e hm rfl rfl rfl rfl ?_
      show yR zpg tX12_isTold (d + 4) (0, [(0, .ref 221), (1, .int 2)], [], mem) _
      refine yR_m 1 (fun _ _ _ _ => rfl) ?_
      refine wR_gr rfl mO_e mO_27 hm ?_
      refine yR_m 2 (fun _ _ _ _ => rfl) ?_
      refine wR_gi rfl mO_e mO_13 hm rfl ?_
      refine wN_mul (a := 3) (b := (gi mem 221 13).toInt) rfl rfl rfl (by omega) (fun x5 e6 => ?_)
      refine yR_m 1 (fun _ _ _ _ => rfl) ?_
      refine wN_add (a := (3 * (gi mem 221 13).toInt)) (b := 2) rfl e6 rfl (by omega) (fun x7 e8 => ?_)
      refine wN_al (a := ((3 * (gi mem 221 13).toInt) + 2)) rfl aR_236 hm rfl e8 (by omega) (fun y9 e10 => ?_)
      refine yR_m 1 (fun _ _ _ _ => rfl) ?_
      refine wR_ic_eq rfl (a := (gn (ga mem 236) ((3 * (gi mem 221 13).toInt) + 2))) (c := (-1)) e10 tm1 (fun q11 => ?_) (fun q11 => ?_)
      ·
        refine yR_m 1 (fun _ _ _ _ => rfl) ?_
        refine yR_rz rfl ⟨by decide, by decide⟩ ?_
        show yR zpg tX12_isTurned (d + 5) (89, lo, [.int 0], mem) _
        refine wR_if_ne rfl (a := 0) rfl (fun q => by exfalso; omega) (fun _ => ?_)
        refine wR_li rfl l_3 ?_
        refine wR_if_eq rfl (a := (il).toInt) rfl (fun _ => ?_) (fun q => by exfalso; omega)
        refine yR_m 1 (fun _ _ _ _ => rfl) ?_
        exact yR_rz rfl ⟨by decide, by decide⟩ (h1 y1 e2 q3 q4 x5 e6 x7 e8 y9 e10 q11 hm)
      ·
        refine yR_m 2 (fun _ _ _ _ => rfl) ?_
        refine yR_rz rfl ⟨by decide, by decide⟩ ?_
        show yR zpg tX12_isTurned (d + 5) (89, lo, [.int 1], mem) _
        refine wR_if_ne rfl (a := 1) rfl (fun _ => ?_) (fun q => by exfalso; omega)
        refine wR_la rfl l_0 ?_
        refine wR_li rfl l_1 ?_
        refine wR_li rfl l_2 ?_
        refine wR_iv rfl rfl mO_e hm rfl rfl rfl rfl ?_
        show yR zpg tX12_lays (d + 4) (0, [(0, .ref 221), (1, .int v), (2, .int t)], [], mem) _
        refine yR_m 1 (fun _ _ _ _ => rfl) ?_
        refine wR_gr rfl mO_e mO_59 hm ?_
        refine yR_m 2 (fun _ _ _ _ => rfl) ?_
        refine wR_gr rfl mO_e mO_48 hm ?_
        refine yR_m 1 (fun _ _ _ _ => rfl) ?_
        refine wN_al (a := (v).toInt) rfl aR_249 hm rfl rfl (by omega) (fun y12 e13 => ?_)
        refine wN_as (a := 1) rfl aR_257 hm rfl (by decide) ?_
        have hm_1 : aTm aT0 (sx mem 257 1 y12) := tm_sa aR_257 hm (i32_b _)
        refine yR_m 1 (fun _ _ _ _ => rfl) ?_
        refine wR_gr rfl mO_e mO_59 hm_1 ?_
        refine yR_m 2 (fun _ _ _ _ => rfl) ?_
        refine wR_gr rfl mO_e mO_57 hm_1 ?_
        refine yR_m 1 (fun _ _ _ _ => rfl) ?_
        refine wN_al (a := (t).toInt) rfl aR_255 hm_1 (ga_sa_ne (by first | decide | omega)) rfl (by omega) (fun y14 e15 => ?_)
        refine wN_as (a := 2) rfl aR_257 hm_1 rfl (by decide) ?_
        have hm_2 : aTm aT0 (sx (sx mem 257 1 y12) 257 2 y14) := tm_sa aR_257 hm_1 (i32_b _)
        refine yR_m 1 (fun _ _ _ _ => rfl) ?_
        refine wR_gr rfl mO_e mO_59 hm_2 ?_
        refine yR_m 2 (fun _ _ _ _ => rfl) ?_
        refine wR_gr rfl mO_e mO_22 hm_2 ?_
        refine yR_m 2 (fun _ _ _ _ => rfl) ?_
        refine wR_gi rfl mO_e mO_13 hm_2 ((gi_sa).trans (gi_sa)) ?_
        refine wN_mul (a := 9) (b := (gi mem 221 13).toInt) rfl rfl rfl (by omega) (fun x16 e17 => ?_)
        refine yR_m 1 (fun _ _ _ _ => rfl) ?_
        refine wN_add (a := (9 * (gi mem 221 13).toInt)) (b := (t).toInt) rfl e17 rfl (by omega) (fun x18 e19 => ?_)
        refine wN_al (a := ((9 * (gi mem 221 13).toInt) + (t).toInt)) rfl aR_231 hm_2 ((ga_sa_ne (by first | decide | omega)).trans (ga_sa_ne (by first | decide | omega))) e19 (by omega) (fun y20 e21 => ?_)
        refine wN_as (a := 3) rfl aR_257 hm_2 rfl (by decide) ?_
        have hm_3 : aTm aT0 (sx (sx (sx mem 257 1 y12) 257 2 y14) 257 3 y20) := tm_sa aR_257 hm_2 (i32_b _)
        refine yR_m 1 (fun _ _ _ _ => rfl) ?_
        refine wR_gr rfl mO_e mO_59 hm_3 ?_
        refine yR_m 2 (fun _ _ _ _ => rfl) ?_
        refine wR_gr rfl mO_e mO_50 hm_3 ?_
        refine yR_m 2 (fun _ _ _ _ => rfl) ?_
        refine wN_mul (a := 9) (b := (v).toInt) rfl rfl rfl (by omega) (fun x22 e23 => ?_)
        refine yR_m 1 (fun _ _ _ _ => rfl) ?_
        refine wN_add (a := (9 * (v).toInt)) (b := (t).toInt) rfl e23 rfl (by omega) (fun x24 e25 => ?_)
        refine wN_al (a := ((9 * (v).toInt) + (t).toInt)) rfl aR_251 hm_3 ((ga_sa_ne (by first | decide | omega)).trans ((ga_sa_ne (by first | decide | omega)).trans (ga_sa_ne (by first | decide | omega)))) e25 (by omega) (fun y26 e27 => ?_)
        refine wN_as (a := 4) rfl aR_257 hm_3 rfl (by decide) ?_
        have hm_4 : aTm aT0 (sx (sx (sx (sx mem 257 1 y12) 257 2 y14) 257 3 y20) 257 4 y26) := tm_sa aR_257 hm_3 (i32_b _)
        refine yR_m 1 (fun _ _ _ _ => rfl) ?_
        refine wR_gr rfl mO_e mO_59 hm_4 ?_
        refine yR_m 2 (fun _ _ _ _ => rfl) ?_
        refine wR_gr rfl mO_e mO_49 hm_4 ?_
        refine yR_m 1 (fun _ _ _ _ => rfl) ?_
        refine wN_al (a := (v).toInt) rfl aR_250 hm_4 ((ga_sa_ne (by first | decide | omega)).trans ((ga_sa_ne (by first | decide | omega)).trans ((ga_sa_ne (by first | decide | omega)).trans (ga_sa_ne (by first | decide | omega))))) rfl (by omega) (fun y28 e29 => ?_)
        refine yR_cs rfl rfl rfl (h_bm e29 (by omega) (by omega)) ?_
        rintro _ _ ⟨v30, rfl, rfl, k31⟩
        show yR zpg tX12_lays (d + 4) (75, [(0, .ref 221), (1, .int v), (2, .int t)], [.int v30, .int 5, .ref 257], (sx (sx (sx (sx mem 257 1 y12) 257 2 y14) 257 3 y20) 257 4 y26)) _
        refine wN_as (a := 5) rfl aR_257 hm_4 rfl (by decide) ?_
        have hm_5 : aTm aT0 (sx (sx (sx (sx (sx mem 257 1 y12) 257 2 y14) 257 3 y20) 257 4 y26) 257 5 v30) := tm_sa aR_257 hm_4 (i32_b _)
        refine yR_rv rfl ?_
        show yR zpg tX12_isTurned (d + 5) (113, lo, [], (sx (sx (sx (sx (sx mem 257 1 y12) 257 2 y14) 257 3 y20) 257 4 y26) 257 5 v30)) _
        refine wR_la rfl l_0 ?_
        refine wR_gr rfl mO_e mO_59 hm_5 ?_
        refine yR_m 1 (fun _ _ _ _ => rfl) ?_
        refine wR_li rfl l_4 ?_
        refine wN_as (a := 6) rfl aR_257 hm_5 rfl (by decide) ?_
        have hm_6 : aTm aT0 (sx (sx (sx (sx (sx (sx mem 257 1 y12) 257 2 y14) 257 3 y20) 257 4 y26) 257 5 v30) 257 6 n) := tm_sa aR_257 hm_5 (i32_b _)
        refine wR_la rfl l_0 ?_
        refine wR_li rfl l_3 ?_
        refine wR_if_eq rfl (a := (il).toInt) rfl (fun _ => ?_) (fun q => by exfalso; omega)
        refine yR_m 1 (fun _ _ _ _ => rfl) ?_
        refine wR_cv rfl rfl mO_e hm_6 rfl (h_rkT (env := env) (c := c2) (b := true) (W := 2) (B := (gi mem 221 13).toInt) hm_6 rfl (by decide) he (s1 y1 e2 q3 q4 x5 e6 x7 e8 y9 e10 q11 y12 e13 y14 e15 x16 e17 x18 e19 y20 e21 x22 e23 x24 e25 y26 e27 y28 e29 v30 k31) (s2 y1 e2 q3 q4 x5 e6 x7 e8 y9 e10 q11 y12 e13 y14 e15 x16 e17 x18 e19 y20 e21 x22 e23 x24 e25 y26 e27 y28 e29 v30 k31) (congrArg Int32.toInt ((gi_sa).trans ((gi_sa).trans ((gi_sa).trans ((gi_sa).trans ((gi_sa).trans (gi_sa))))))) (rlM_q ((ga_sa_ne (by first | decide | omega)).trans ((ga_sa_ne (by first | decide | omega)).trans ((ga_sa_ne (by first | decide | omega)).trans ((ga_sa_ne (by first | decide | omega)).trans ((ga_sa_ne (by first | decide | omega)).trans (ga_sa_ne (by first | decide | omega))))))) ((ga_sa_ne (by first | decide | omega)).trans ((ga_sa_ne (by first | decide | omega)).trans ((ga_sa_ne (by first | decide | omega)).trans ((ga_sa_ne (by first | decide | omega)).trans ((ga_sa_ne (by first | decide | omega)).trans (ga_sa_ne (by first | decide | omega))))))) ((ga_sa_ne (by first | decide | omega)).trans ((ga_sa_ne (by first | decide | omega)).trans ((ga_sa_ne (by first | decide | omega)).trans ((ga_sa_ne (by first | decide | omega)).trans ((ga_sa_ne (by first | decide | omega)).trans (ga_sa_ne (by first | decide | omega))))))) ((ga_sa_ne (by first | decide | omega)).trans ((ga_sa_ne (by first | decide | omega)).trans ((ga_sa_ne (by first | decide | omega)).trans ((ga_sa_ne (by first | decide | omega)).trans ((ga_sa_ne (by first | decide | omega)).trans (ga_sa_ne (by first | decide | omega))))))) (hT2 q11)) (by omega)) ?_
        rintro _ m32 ⟨v34, rfl, hm32, k33⟩
        show yR zpg tX12_isTurned (d + 5) (135, lo, [.long v34], m32) _
        refine yR_m 2 (fun _ _ _ _ => rfl) ?_
        refine wR_lf_ne rfl (fun q35 => ?_) (fun q35 => ?_)
        ·
          refine yR_m 1 (fun _ _ _ _ => rfl) ?_
          exact yR_rz rfl ⟨by decide, by decide⟩ (h2 y1 e2 q3 q4 x5 e6 x7 e8 y9 e10 q11 y12 e13 y14 e15 x16 e17 x18 e19 y20 e21 x22 e23 x24 e25 y26 e27 y28 e29 v30 k31 v34 m32 hm32 k33 q35 hm32)
        ·
          refine yR_m 2 (fun _ _ _ _ => rfl) ?_
          exact yR_rz rfl ⟨by decide, by decide⟩ (h3 y1 e2 q3 q4 x5 e6 x7 e8 y9 e10 q11 y12 e13 y14 e15 x16 e17 x18 e19 y20 e21 x22 e23 x24 e25 y26 e27 y28 e29 v30 k31 v34 m32 hm32 k33 q35 hm32)
    ·
      refine yR_m 2 (fun _ _ _ _ => rfl) ?_
      refine wR_iv rfl rfl mO_e hm rfl rfl rfl rfl ?_
      show yR zpg tX12_isTold (d + 4) (0, [(0, .ref 221), (1, .int 1)], [], mem) _
      refine yR_m 1 (fun _ _ _ _ => rfl) ?_
      refine wR_gr rfl mO_e mO_27 hm ?_
      refine yR_m 2 (fun _ _ _ _ => rfl) ?_
      refine wR_gi rfl mO_e mO_13 hm rfl ?_
      refine wN_mul (a := 3) (b := (gi mem 221 13).toInt) rfl rfl rfl (by omega) (fun x36 e37 => ?_)
      refine yR_m 1 (fun _ _ _ _ => rfl) ?_
      refine wN_add (a := (3 * (gi mem 221 13).toInt)) (b := 1) rfl e37 rfl (by omega) (fun x38 e39 => ?_)
      refine wN_al (a := ((3 * (gi mem 221 13).toInt) + 1)) rfl aR_236 hm rfl e39 (by omega) (fun y40 e41 => ?_)
      refine yR_m 1 (fun _ _ _ _ => rfl) ?_
      refine wR_ic_eq rfl (a := (gn (ga mem 236) ((3 * (gi mem 221 13).toInt) + 1))) (c := (-1)) e41 tm1 (fun q42 => ?_) (fun q42 => ?_)
      ·
        refine yR_m 1 (fun _ _ _ _ => rfl) ?_
        refine yR_rz rfl ⟨by decide, by decide⟩ ?_
        show yR zpg tX12_isTurned (d + 5) (89, lo, [.int 0], mem) _
        refine wR_if_ne rfl (a := 0) rfl (fun q => by exfalso; omega) (fun _ => ?_)
        refine wR_li rfl l_3 ?_
        refine wR_if_eq rfl (a := (il).toInt) rfl (fun q => by exfalso; omega) (fun _ => ?_)
        refine wR_li rfl l_4 ?_
        refine wR_if_le rfl (a := (n).toInt) rfl (fun q43 => ?_) (fun q43 => ?_)
        ·
          refine yR_m 1 (fun _ _ _ _ => rfl) ?_
          exact yR_rz rfl ⟨by decide, by decide⟩ (h4 y1 e2 q3 q4 x36 e37 x38 e39 y40 e41 q42 q43 hm)
        ·
          refine yR_m 2 (fun _ _ _ _ => rfl) ?_
          exact yR_rz rfl ⟨by decide, by decide⟩ (h5 y1 e2 q3 q4 x36 e37 x38 e39 y40 e41 q42 q43 hm)
      ·
        refine yR_m 2 (fun _ _ _ _ => rfl) ?_
        refine yR_rz rfl ⟨by decide, by decide⟩ ?_
        show yR zpg tX12_isTurned (d + 5) (89, lo, [.int 1], mem) _
        refine wR_if_ne rfl (a := 1) rfl (fun _ => ?_) (fun q => by exfalso; omega)
        refine wR_la rfl l_0 ?_
        refine wR_li rfl l_1 ?_
        refine wR_li rfl l_2 ?_
        refine wR_iv rfl rfl mO_e hm rfl rfl rfl rfl ?_
        show yR zpg tX12_lays (d + 4) (0, [(0, .ref 221), (1, .int v), (2, .int t)], [], mem) _
        refine yR_m 1 (fun _ _ _ _ => rfl) ?_
        refine wR_gr rfl mO_e mO_59 hm ?_
        refine yR_m 2 (fun _ _ _ _ => rfl) ?_
        refine wR_gr rfl mO_e mO_48 hm ?_
        refine yR_m 1 (fun _ _ _ _ => rfl) ?_
        refine wN_al (a := (v).toInt) rfl aR_249 hm rfl rfl (by omega) (fun y44 e45 => ?_)
        refine wN_as (a := 1) rfl aR_257 hm rfl (by decide) ?_
        have hm_7 : aTm aT0 (sx mem 257 1 y44) := tm_sa aR_257 hm (i32_b _)
        refine yR_m 1 (fun _ _ _ _ => rfl) ?_
        refine wR_gr rfl mO_e mO_59 hm_7 ?_
        refine yR_m 2 (fun _ _ _ _ => rfl) ?_
        refine wR_gr rfl mO_e mO_57 hm_7 ?_
        refine yR_m 1 (fun _ _ _ _ => rfl) ?_
        refine wN_al (a := (t).toInt) rfl aR_255 hm_7 (ga_sa_ne (by first | decide | omega)) rfl (by omega) (fun y46 e47 => ?_)
        refine wN_as (a := 2) rfl aR_257 hm_7 rfl (by decide) ?_
        have hm_8 : aTm aT0 (sx (sx mem 257 1 y44) 257 2 y46) := tm_sa aR_257 hm_7 (i32_b _)
        refine yR_m 1 (fun _ _ _ _ => rfl) ?_
        refine wR_gr rfl mO_e mO_59 hm_8 ?_
        refine yR_m 2 (fun _ _ _ _ => rfl) ?_
        refine wR_gr rfl mO_e mO_22 hm_8 ?_
        refine yR_m 2 (fun _ _ _ _ => rfl) ?_
        refine wR_gi rfl mO_e mO_13 hm_8 ((gi_sa).trans (gi_sa)) ?_
        refine wN_mul (a := 9) (b := (gi mem 221 13).toInt) rfl rfl rfl (by omega) (fun x48 e49 => ?_)
        refine yR_m 1 (fun _ _ _ _ => rfl) ?_
        refine wN_add (a := (9 * (gi mem 221 13).toInt)) (b := (t).toInt) rfl e49 rfl (by omega) (fun x50 e51 => ?_)
        refine wN_al (a := ((9 * (gi mem 221 13).toInt) + (t).toInt)) rfl aR_231 hm_8 ((ga_sa_ne (by first | decide | omega)).trans (ga_sa_ne (by first | decide | omega))) e51 (by omega) (fun y52 e53 => ?_)
        refine wN_as (a := 3) rfl aR_257 hm_8 rfl (by decide) ?_
        have hm_9 : aTm aT0 (sx (sx (sx mem 257 1 y44) 257 2 y46) 257 3 y52) := tm_sa aR_257 hm_8 (i32_b _)
        refine yR_m 1 (fun _ _ _ _ => rfl) ?_
        refine wR_gr rfl mO_e mO_59 hm_9 ?_
        refine yR_m 2 (fun _ _ _ _ => rfl) ?_
        refine wR_gr rfl mO_e mO_50 hm_9 ?_
        refine yR_m 2 (fun _ _ _ _ => rfl) ?_
        refine wN_mul (a := 9) (b := (v).toInt) rfl rfl rfl (by omega) (fun x54 e55 => ?_)
        refine yR_m 1 (fun _ _ _ _ => rfl) ?_
        refine wN_add (a := (9 * (v).toInt)) (b := (t).toInt) rfl e55 rfl (by omega) (fun x56 e57 => ?_)
        refine wN_al (a := ((9 * (v).toInt) + (t).toInt)) rfl aR_251 hm_9 ((ga_sa_ne (by first | decide | omega)).trans ((ga_sa_ne (by first | decide | omega)).trans (ga_sa_ne (by first | decide | omega)))) e57 (by omega) (fun y58 e59 => ?_)
        refine wN_as (a := 4) rfl aR_257 hm_9 rfl (by decide) ?_
        have hm_10 : aTm aT0 (sx (sx (sx (sx mem 257 1 y44) 257 2 y46) 257 3 y52) 257 4 y58) := tm_sa aR_257 hm_9 (i32_b _)
        refine yR_m 1 (fun _ _ _ _ => rfl) ?_
        refine wR_gr rfl mO_e mO_59 hm_10 ?_
        refine yR_m 2 (fun _ _ _ _ => rfl) ?_
        refine wR_gr rfl mO_e mO_49 hm_10 ?_
        refine yR_m 1 (fun _ _ _ _ => rfl) ?_
        refine wN_al (a := (v).toInt) rfl aR_250 hm_10 ((ga_sa_ne (by first | decide | omega)).trans ((ga_sa_ne (by first | decide | omega)).trans ((ga_sa_ne (by first | decide | omega)).trans (ga_sa_ne (by first | decide | omega))))) rfl (by omega) (fun y60 e61 => ?_)
        refine yR_cs rfl rfl rfl (h_bm e61 (by omega) (by omega)) ?_
        rintro _ _ ⟨v62, rfl, rfl, k63⟩
        show yR zpg tX12_lays (d + 4) (75, [(0, .ref 221), (1, .int v), (2, .int t)], [.int v62, .int 5, .ref 257], (sx (sx (sx (sx mem 257 1 y44) 257 2 y46) 257 3 y52) 257 4 y58)) _
        refine wN_as (a := 5) rfl aR_257 hm_10 rfl (by decide) ?_
        have hm_11 : aTm aT0 (sx (sx (sx (sx (sx mem 257 1 y44) 257 2 y46) 257 3 y52) 257 4 y58) 257 5 v62) := tm_sa aR_257 hm_10 (i32_b _)
        refine yR_rv rfl ?_
        show yR zpg tX12_isTurned (d + 5) (113, lo, [], (sx (sx (sx (sx (sx mem 257 1 y44) 257 2 y46) 257 3 y52) 257 4 y58) 257 5 v62)) _
        refine wR_la rfl l_0 ?_
        refine wR_gr rfl mO_e mO_59 hm_11 ?_
        refine yR_m 1 (fun _ _ _ _ => rfl) ?_
        refine wR_li rfl l_4 ?_
        refine wN_as (a := 6) rfl aR_257 hm_11 rfl (by decide) ?_
        have hm_12 : aTm aT0 (sx (sx (sx (sx (sx (sx mem 257 1 y44) 257 2 y46) 257 3 y52) 257 4 y58) 257 5 v62) 257 6 n) := tm_sa aR_257 hm_11 (i32_b _)
        refine wR_la rfl l_0 ?_
        refine wR_li rfl l_3 ?_
        refine wR_if_eq rfl (a := (il).toInt) rfl (fun q => by exfalso; omega) (fun _ => ?_)
        refine yR_m 2 (fun _ _ _ _ => rfl) ?_
        refine wR_cv rfl rfl mO_e hm_12 rfl (h_rkT (env := env) (c := c1) (b := true) (W := 1) (B := (gi mem 221 13).toInt) hm_12 rfl (by decide) he (s3 y1 e2 q3 q4 x36 e37 x38 e39 y40 e41 q42 y44 e45 y46 e47 x48 e49 x50 e51 y52 e53 x54 e55 x56 e57 y58 e59 y60 e61 v62 k63) (s4 y1 e2 q3 q4 x36 e37 x38 e39 y40 e41 q42 y44 e45 y46 e47 x48 e49 x50 e51 y52 e53 x54 e55 x56 e57 y58 e59 y60 e61 v62 k63) (congrArg Int32.toInt ((gi_sa).trans ((gi_sa).trans ((gi_sa).trans ((gi_sa).trans ((gi_sa).trans (gi_sa))))))) (rlM_q ((ga_sa_ne (by first | decide | omega)).trans ((ga_sa_ne (by first | decide | omega)).trans ((ga_sa_ne (by first | decide | omega)).trans ((ga_sa_ne (by first | decide | omega)).trans ((ga_sa_ne (by first | decide | omega)).trans (ga_sa_ne (by first | decide | omega))))))) ((ga_sa_ne (by first | decide | omega)).trans ((ga_sa_ne (by first | decide | omega)).trans ((ga_sa_ne (by first | decide | omega)).trans ((ga_sa_ne (by first | decide | omega)).trans ((ga_sa_ne (by first | decide | omega)).trans (ga_sa_ne (by first | decide | omega))))))) ((ga_sa_ne (by first | decide | omega)).trans ((ga_sa_ne (by first | decide | omega)).trans ((ga_sa_ne (by first | decide | omega)).trans ((ga_sa_ne (by first | decide | omega)).trans ((ga_sa_ne (by first | decide | omega)).trans (ga_sa_ne (by first | decide | omega))))))) ((ga_sa_ne (by first | decide | omega)).trans ((ga_sa_ne (by first | decide | omega)).trans ((ga_sa_ne (by first | decide | omega)).trans ((ga_sa_ne (by first | decide | omega)).trans ((ga_sa_ne (by first | decide | omega)).trans (ga_sa_ne (by first | decide | omega))))))) (hT1 q42)) (by omega)) ?_
        rintro _ m64 ⟨v66, rfl, hm64, k65⟩
        show yR zpg tX12_isTurned (d + 5) (135, lo, [.long v66], m64) _
        refine yR_m 2 (fun _ _ _ _ => rfl) ?_
        refine wR_lf_ne rfl (fun q67 => ?_) (fun q67 => ?_)
        ·
          refine yR_m 1 (fun _ _ _ _ => rfl) ?_
          exact yR_rz rfl ⟨by decide, by decide⟩ (h6 y1 e2 q3 q4 x36 e37 x38 e39 y40 e41 q42 y44 e45 y46 e47 x48 e49 x50 e51 y52 e53 x54 e55 x56 e57 y58 e59 y60 e61 v62 k63 v66 m64 hm64 k65 q67 hm64)
        ·
          refine yR_m 2 (fun _ _ _ _ => rfl) ?_
          exact yR_rz rfl ⟨by decide, by decide⟩ (h7 y1 e2 q3 q4 x36 e37 x38 e39 y40 e41 q42 y44 e45 y46 e47 x48 e49 x50 e51 y52 e53 x54 e55 x56 e57 y58 e59 y60 e61 v62 k63 v66 m64 hm64 k65 q67 hm64)
  ·
    refine wR_li rfl l_4 ?_
    refine wR_la rfl l_0 ?_
    refine wR_gr rfl mO_e mO_51 hm ?_
    refine yR_m 1 (fun _ _ _ _ => rfl) ?_
    refine wR_li rfl l_1 ?_
    refine wN_mul (a := 6) (b := (v).toInt) rfl rfl rfl (by omega) (fun x68 e69 => ?_)
    refine wR_li rfl l_5 ?_
    refine wN_add (a := (6 * (v).toInt)) (b := (k).toInt) rfl e69 rfl (by omega) (fun x70 e71 => ?_)
    refine wN_al (a := ((6 * (v).toInt) + (k).toInt)) rfl aR_252 hm rfl e71 (by omega) (fun y72 e73 => ?_)
    refine wR_la rfl l_0 ?_
    refine wR_gr rfl mO_e mO_20 hm ?_
    refine yR_m 1 (fun _ _ _ _ => rfl) ?_
    refine wR_la rfl l_0 ?_
    refine wR_gi rfl mO_e mO_13 hm rfl ?_
    refine wN_mul (a := 9) (b := (gi mem 221 13).toInt) rfl rfl rfl (by omega) (fun x74 e75 => ?_)
    refine wR_li rfl l_2 ?_
    refine wN_add (a := (9 * (gi mem 221 13).toInt)) (b := (t).toInt) rfl e75 rfl (by omega) (fun x76 e77 => ?_)
    refine wN_al (a := ((9 * (gi mem 221 13).toInt) + (t).toInt)) rfl aR_229 hm rfl e77 (by omega) (fun y78 e79 => ?_)
    refine wR_ic_ne rfl (a := (gn (ga mem 252) ((6 * (v).toInt) + (k).toInt))) (c := (gn (ga mem 229) ((9 * (gi mem 221 13).toInt) + (t).toInt))) e73 e79 (fun q80 => ?_) (fun q80 => ?_)
    ·
      refine yR_m 1 (fun _ _ _ _ => rfl) ?_
      refine wN_add (a := (n).toInt) (b := 0) rfl rfl rfl (by omega) (fun x81 e82 => ?_)
      refine wR_si rfl rfl (fun lo83 e84 f85 => ?_)
      have lo83_0 := f85 0 _ (by decide) (Or.inl rfl) l_0
      have lo83_1 := f85 1 _ (by decide) (Or.inl rfl) l_1
      have lo83_2 := f85 2 _ (by decide) (Or.inl rfl) l_2
      have lo83_3 := f85 3 _ (by decide) (Or.inl rfl) l_3
      have lo83_5 := f85 5 _ (by decide) (Or.inl rfl) l_5
      refine wN_in (a := (k).toInt) (b := 1) rfl rfl lo83_5 rfl rfl (by omega) (fun x86 e87 => fun lo88 e89 f90 => ?_)
      have lo88_4 := f90 4 _ (by decide) (Or.inl rfl) e84
      have lo88_0 := f90 0 _ (by decide) (Or.inl rfl) lo83_0
      have lo88_1 := f90 1 _ (by decide) (Or.inl rfl) lo83_1
      have lo88_2 := f90 2 _ (by decide) (Or.inl rfl) lo83_2
      have lo88_3 := f90 3 _ (by decide) (Or.inl rfl) lo83_3
      exact yR_m 1 (fun _ _ _ _ => rfl) (h8 y1 e2 q3 x68 e69 x70 e71 y72 e73 x74 e75 x76 e77 y78 e79 q80 x81 e82 x86 e87 lo88 lo88_0 lo88_1 lo88_2 lo88_3 lo88_4 e89 hm)
    ·
      refine yR_m 2 (fun _ _ _ _ => rfl) ?_
      refine wN_add (a := (n).toInt) (b := 1) rfl rfl rfl (by omega) (fun x91 e92 => ?_)
      refine wR_si rfl rfl (fun lo93 e94 f95 => ?_)
      have lo93_0 := f95 0 _ (by decide) (Or.inl rfl) l_0
      have lo93_1 := f95 1 _ (by decide) (Or.inl rfl) l_1
      have lo93_2 := f95 2 _ (by decide) (Or.inl rfl) l_2
      have lo93_3 := f95 3 _ (by decide) (Or.inl rfl) l_3
      have lo93_5 := f95 5 _ (by decide) (Or.inl rfl) l_5
      refine wN_in (a := (k).toInt) (b := 1) rfl rfl lo93_5 rfl rfl (by omega) (fun x96 e97 => fun lo98 e99 f100 => ?_)
      have lo98_4 := f100 4 _ (by decide) (Or.inl rfl) e94
      have lo98_0 := f100 0 _ (by decide) (Or.inl rfl) lo93_0
      have lo98_1 := f100 1 _ (by decide) (Or.inl rfl) lo93_1
      have lo98_2 := f100 2 _ (by decide) (Or.inl rfl) lo93_2
      have lo98_3 := f100 3 _ (by decide) (Or.inl rfl) lo93_3
      exact yR_m 1 (fun _ _ _ _ => rfl) (h9 y1 e2 q3 x68 e69 x70 e71 y72 e73 x74 e75 x76 e77 y78 e79 q80 x91 e92 x96 e97 lo98 lo98_0 lo98_1 lo98_2 lo98_3 lo98_4 e99 hm)

theorem tm_loop {v t il : Int32} (hm : aTm aT0 mem) (hM : mB Q mem) (hW : WQ Q) (hS : tM v.toInt Q hu S mem) (hv : wS Q S) (hH : wH Q hu) (v0 : 0 ≤ v.toInt ∧ v.toInt ≤ 21) (t0 : 0 ≤ t.toInt) (t1 : t.toInt < thN Q) (t8 : t.toInt ≤ 8) (hil : (il.toInt = 1 ∧ bt (Sm S) t.toInt) ∨ (il.toInt = 0 ∧ ¬ bt (Sm S) t.toInt)) : ∀ (g : Nat) (n k : Int32) (lo : List (Nat × Value)), k.toInt + (g : Int) = foN Q → 0 ≤ k.toInt → n.toInt = nrK Q S t.toInt k.toInt.toNat → zlg lo 0 = some (.ref 221) → zlg lo 1 = some (.int v) → zlg lo 2 = some (.int t) → zlg lo 3 = some (.int il) → zlg lo 4 = some (.int n) → zlg lo 5 = some (.int k) → yR zpg tX12_isTurned (d + 5) (17, lo, [], mem) (fun r m => ∃ x : Int32, r = some (.int x) ∧ aTm aT0 m ∧ (onl [256, 257] mem m ∧ is1 x (tnP Q hu S t.toInt))) := by
  intro g
  have n6 : foN Q ≤ 6 := by
    have := hW.2.1.2.1
    unfold foN
    omega
  have cn := (mq_n hM.1).2
  obtain ⟨⟨s0, s1⟩, s2, s3, s4⟩ := hS
  have hg := mq_g hM.1 t0 t1
  have ea := mq_t hM.1 t0 t1
  have r1 := hv.2.1.1
  rw [← s1] at r1
  have e7 := s4 t.toInt t0 t1
  have q2 := s2 t.toInt t0 t1
  obtain ⟨c1, p1, p2⟩ := mq_c hW hM.1 (w := 1) (by decide) (by decide) (by decide)
  obtain ⟨c2, u1, u2⟩ := mq_c hW hM.1 (w := 2) (by decide) (by decide) (by decide)
  induction g with
  | zero =>
    intro n k lo hk k0 hn l0 l1 l2 l3 l4 l5
    have nb := nrK_b (Q := Q) (S := S) (t := t.toInt) k.toInt.toNat
    have en : n.toInt = nrC Q S t.toInt := by
      rw [hn, show k.toInt.toNat = (Qf Q).length by unfold foN at hk; omega]
      rfl
    have nb2 := nb
    rw [← hn] at nb2
    rcases hil with ⟨i1, hb⟩ | ⟨i1, hb⟩
    · have he := enV_b hW hv hH t0 t1 (nr := nrC Q S t.toInt) (by omega) (by omega)
      exact w_tm17 (env := enV Q hu S t.toInt (nrC Q S t.toInt)) (c1 := c1) (c2 := c2) hm l0 l1 l2 l3 l4 l5 v0 ⟨t0, t8⟩ he (fun z => (p1 z).1) (fun z => (u1 z).1) r1 (by omega) ⟨k0, by omega⟩ ⟨by omega, by omega⟩ 
        (fun y1 e2 q3 q4 x5 e6 x7 e8 y9 e10 q11 hm2 => by exfalso; omega)
        (fun y1 e2 q3 q4 x5 e6 x7 e8 y9 e10 q11 y12 e13 y14 e15 x16 e17 x18 e19 y20 e21 x22 e23 x24 e25 y26 e27 y28 e29 v30 k31 => by exfalso; omega)
        (fun y1 e2 q3 q4 x5 e6 x7 e8 y9 e10 q11 y12 e13 y14 e15 x16 e17 x18 e19 y20 e21 x22 e23 x24 e25 y26 e27 y28 e29 v30 k31 => by exfalso; omega)
        (fun y1 e2 q3 q4 x5 e6 x7 e8 y9 e10 q11 y12 e13 y14 e15 x16 e17 x18 e19 y20 e21 x22 e23 x24 e25 y26 e27 y28 e29 v30 k31 v34 m32 hm32 k33 q35 hm2 => by exfalso; omega)
        (fun y1 e2 q3 q4 x5 e6 x7 e8 y9 e10 q11 y12 e13 y14 e15 x16 e17 x18 e19 y20 e21 x22 e23 x24 e25 y26 e27 y28 e29 v30 k31 v34 m32 hm32 k33 q35 hm2 => by exfalso; omega)
        (fun y1 e2 q3 q4 x36 e37 x38 e39 y40 e41 q42 q43 hm2 => ⟨0, rfl, hm2, onl_rf, Or.inr ⟨rfl, fun z => by have z1 := (fdC_0 (p2 q42)).1 ((tn_1 hb).1 z); omega⟩⟩)
        (fun y1 e2 q3 q4 x36 e37 x38 e39 y40 e41 q42 q43 hm2 => ⟨1, rfl, hm2, onl_rf, Or.inl ⟨rfl, (tn_1 hb).2 ((fdC_0 (p2 q42)).2 (by omega))⟩⟩)
        (fun y1 e2 q3 q4 x36 e37 x38 e39 y40 e41 q42 y44 e45 y46 e47 x48 e49 x50 e51 y52 e53 x54 e55 x56 e57 y58 e59 y60 e61 v62 k63 => by
          rw [(ga_sa_eq.trans (congrArg (fun l => List.set l (6 : Int32).toNatClampNeg n) (ga_sa_eq.trans (congrArg (fun l => List.set l (5 : Int32).toNatClampNeg v62) (ga_sa_eq.trans (congrArg (fun l => List.set l (4 : Int32).toNatClampNeg y58) (ga_sa_eq.trans (congrArg (fun l => List.set l (3 : Int32).toNatClampNeg y52) (ga_sa_eq.trans (congrArg (fun l => List.set l (2 : Int32).toNatClampNeg y46) ga_sa_eq))))))))))]
          have A := ag_6 (m := mem) (y1 := y44) (y2 := y46) (y3 := y52) (y4 := y58) (y5 := v62) (y6 := n) hm _ rfl
          obtain ⟨⟨g1, g2, g3, g4, g5⟩, -⟩ := A
          exact ⟨by rw [g1, e45]; exact s0, by rw [g2, e47]; exact e7, by rw [g3, e53]; exact hg.2, by rw [g4, e59]; exact q2, by rw [g5, k63]; exact congrArg pop (Int32.toInt_inj.1 (e61.trans s1))⟩)
        (fun y1 e2 q3 q4 x36 e37 x38 e39 y40 e41 q42 y44 e45 y46 e47 x48 e49 x50 e51 y52 e53 x54 e55 x56 e57 y58 e59 y60 e61 v62 k63 _ => by
          rw [(ga_sa_eq.trans (congrArg (fun l => List.set l (6 : Int32).toNatClampNeg n) (ga_sa_eq.trans (congrArg (fun l => List.set l (5 : Int32).toNatClampNeg v62) (ga_sa_eq.trans (congrArg (fun l => List.set l (4 : Int32).toNatClampNeg y58) (ga_sa_eq.trans (congrArg (fun l => List.set l (3 : Int32).toNatClampNeg y52) (ga_sa_eq.trans (congrArg (fun l => List.set l (2 : Int32).toNatClampNeg y46) ga_sa_eq))))))))))]
          have A := ag_6 (m := mem) (y1 := y44) (y2 := y46) (y3 := y52) (y4 := y58) (y5 := v62) (y6 := n) hm _ rfl
          exact A.2.trans en)
        (fun y1 e2 q3 q4 x36 e37 x38 e39 y40 e41 q42 y44 e45 y46 e47 x48 e49 x50 e51 y52 e53 x54 e55 x56 e57 y58 e59 y60 e61 v62 k63 v66 m64 hm64 k65 q67 hm2 => ⟨0, rfl, hm2, onl_tr (onl_sa rfl (onl_sa rfl (onl_sa rfl (onl_sa rfl (onl_sa rfl (onl_sa rfl onl_rf)))))) (onl_up k65.1 rfl), Or.inr ⟨rfl, fun z => q67 (Int64.toInt_inj.1 (k65.2.trans ((fdC_1 (p1 q42).2).1 ((tn_1 hb).1 z))))⟩⟩)
        (fun y1 e2 q3 q4 x36 e37 x38 e39 y40 e41 q42 y44 e45 y46 e47 x48 e49 x50 e51 y52 e53 x54 e55 x56 e57 y58 e59 y60 e61 v62 k63 v66 m64 hm64 k65 q67 hm2 => ⟨1, rfl, hm2, onl_tr (onl_sa rfl (onl_sa rfl (onl_sa rfl (onl_sa rfl (onl_sa rfl (onl_sa rfl onl_rf)))))) (onl_up k65.1 rfl), Or.inl ⟨rfl, (tn_1 hb).2 ((fdC_1 (p1 q42).2).2 (by rw [← k65.2, q67]; rfl))⟩⟩)
        (fun y1 e2 q3 x68 e69 x70 e71 y72 e73 x74 e75 x76 e77 y78 e79 q80 x81 e82 x86 e87 lo a0 a1 a2 a3 a4 a5 hm2 => by exfalso; omega)
        (fun y1 e2 q3 x68 e69 x70 e71 y72 e73 x74 e75 x76 e77 y78 e79 q80 x91 e92 x96 e97 lo a0 a1 a2 a3 a4 a5 hm2 => by exfalso; omega)
    · have he := enV_b hW hv hH t0 t1 (nr := 0) (by decide) (by decide)
      exact w_tm17 (env := enV Q hu S t.toInt 0) (c1 := c1) (c2 := c2) hm l0 l1 l2 l3 l4 l5 v0 ⟨t0, t8⟩ he (fun z => (p1 z).1) (fun z => (u1 z).1) r1 (by omega) ⟨k0, by omega⟩ ⟨by omega, by omega⟩ 
        (fun y1 e2 q3 q4 x5 e6 x7 e8 y9 e10 q11 hm2 => ⟨0, rfl, hm2, onl_rf, Or.inr ⟨rfl, fun z => lsC_0 (u2 q11) ((tn_0 hb).1 z)⟩⟩)
        (fun y1 e2 q3 q4 x5 e6 x7 e8 y9 e10 q11 y12 e13 y14 e15 x16 e17 x18 e19 y20 e21 x22 e23 x24 e25 y26 e27 y28 e29 v30 k31 => by
          rw [(ga_sa_eq.trans (congrArg (fun l => List.set l (6 : Int32).toNatClampNeg n) (ga_sa_eq.trans (congrArg (fun l => List.set l (5 : Int32).toNatClampNeg v30) (ga_sa_eq.trans (congrArg (fun l => List.set l (4 : Int32).toNatClampNeg y26) (ga_sa_eq.trans (congrArg (fun l => List.set l (3 : Int32).toNatClampNeg y20) (ga_sa_eq.trans (congrArg (fun l => List.set l (2 : Int32).toNatClampNeg y14) ga_sa_eq))))))))))]
          have A := ag_6 (m := mem) (y1 := y12) (y2 := y14) (y3 := y20) (y4 := y26) (y5 := v30) (y6 := n) hm _ rfl
          obtain ⟨⟨g1, g2, g3, g4, g5⟩, -⟩ := A
          exact ⟨by rw [g1, e13]; exact s0, by rw [g2, e15]; exact e7, by rw [g3, e21]; exact hg.2, by rw [g4, e27]; exact q2, by rw [g5, k31]; exact congrArg pop (Int32.toInt_inj.1 (e29.trans s1))⟩)
        (fun y1 e2 q3 q4 x5 e6 x7 e8 y9 e10 q11 y12 e13 y14 e15 x16 e17 x18 e19 y20 e21 x22 e23 x24 e25 y26 e27 y28 e29 v30 k31 z => absurd z ((hW.2.2.2.2.1 2 c2 (u1 q11).2).2.2 (by decide)))
        (fun y1 e2 q3 q4 x5 e6 x7 e8 y9 e10 q11 y12 e13 y14 e15 x16 e17 x18 e19 y20 e21 x22 e23 x24 e25 y26 e27 y28 e29 v30 k31 v34 m32 hm32 k33 q35 hm2 => ⟨0, rfl, hm2, onl_tr (onl_sa rfl (onl_sa rfl (onl_sa rfl (onl_sa rfl (onl_sa rfl (onl_sa rfl onl_rf)))))) (onl_up k33.1 rfl), Or.inr ⟨rfl, fun z => q35 (Int64.toInt_inj.1 (k33.2.trans ((lsC_1 (u1 q11).2).1 ((tn_0 hb).1 z))))⟩⟩)
        (fun y1 e2 q3 q4 x5 e6 x7 e8 y9 e10 q11 y12 e13 y14 e15 x16 e17 x18 e19 y20 e21 x22 e23 x24 e25 y26 e27 y28 e29 v30 k31 v34 m32 hm32 k33 q35 hm2 => ⟨1, rfl, hm2, onl_tr (onl_sa rfl (onl_sa rfl (onl_sa rfl (onl_sa rfl (onl_sa rfl (onl_sa rfl onl_rf)))))) (onl_up k33.1 rfl), Or.inl ⟨rfl, (tn_0 hb).2 ((lsC_1 (u1 q11).2).2 (by rw [← k33.2, q35]; rfl))⟩⟩)
        (fun y1 e2 q3 q4 x36 e37 x38 e39 y40 e41 q42 q43 hm2 => by exfalso; omega)
        (fun y1 e2 q3 q4 x36 e37 x38 e39 y40 e41 q42 q43 hm2 => by exfalso; omega)
        (fun y1 e2 q3 q4 x36 e37 x38 e39 y40 e41 q42 y44 e45 y46 e47 x48 e49 x50 e51 y52 e53 x54 e55 x56 e57 y58 e59 y60 e61 v62 k63 => by exfalso; omega)
        (fun y1 e2 q3 q4 x36 e37 x38 e39 y40 e41 q42 y44 e45 y46 e47 x48 e49 x50 e51 y52 e53 x54 e55 x56 e57 y58 e59 y60 e61 v62 k63 => by exfalso; omega)
        (fun y1 e2 q3 q4 x36 e37 x38 e39 y40 e41 q42 y44 e45 y46 e47 x48 e49 x50 e51 y52 e53 x54 e55 x56 e57 y58 e59 y60 e61 v62 k63 v66 m64 hm64 k65 q67 hm2 => by exfalso; omega)
        (fun y1 e2 q3 q4 x36 e37 x38 e39 y40 e41 q42 y44 e45 y46 e47 x48 e49 x50 e51 y52 e53 x54 e55 x56 e57 y58 e59 y60 e61 v62 k63 v66 m64 hm64 k65 q67 hm2 => by exfalso; omega)
        (fun y1 e2 q3 x68 e69 x70 e71 y72 e73 x74 e75 x76 e77 y78 e79 q80 x81 e82 x86 e87 lo a0 a1 a2 a3 a4 a5 hm2 => by exfalso; omega)
        (fun y1 e2 q3 x68 e69 x70 e71 y72 e73 x74 e75 x76 e77 y78 e79 q80 x91 e92 x96 e97 lo a0 a1 a2 a3 a4 a5 hm2 => by exfalso; omega)
  | succ g ih =>
    intro n k lo hk k0 hn l0 l1 l2 l3 l4 l5
    have nb := nrK_b (Q := Q) (S := S) (t := t.toInt) k.toInt.toNat
    rw [← hn] at nb
    have he := enV_b hW hv hH t0 t1 (nr := 0) (by decide) (by decide)
    have fo := s3 k.toInt k0 (by omega)
    have ks : nrK Q S t.toInt (k.toInt.toNat + 1) = nrK Q S t.toInt k.toInt.toNat + if Sp S k.toInt = thA Q t.toInt then 1 else 0 := by
      show _ + _ = _
      rw [show ((k.toInt.toNat : Nat) : Int) = k.toInt by omega]
    exact w_tm17 (env := enV Q hu S t.toInt 0) (c1 := c1) (c2 := c2) hm l0 l1 l2 l3 l4 l5 v0 ⟨t0, t8⟩ he (fun z => (p1 z).1) (fun z => (u1 z).1) r1 (by omega) ⟨k0, by omega⟩ ⟨by omega, by omega⟩ 
        (fun y1 e2 q3 q4 x5 e6 x7 e8 y9 e10 q11 hm2 => by exfalso; omega)
        (fun y1 e2 q3 q4 x5 e6 x7 e8 y9 e10 q11 y12 e13 y14 e15 x16 e17 x18 e19 y20 e21 x22 e23 x24 e25 y26 e27 y28 e29 v30 k31 => by exfalso; omega)
        (fun y1 e2 q3 q4 x5 e6 x7 e8 y9 e10 q11 y12 e13 y14 e15 x16 e17 x18 e19 y20 e21 x22 e23 x24 e25 y26 e27 y28 e29 v30 k31 => by exfalso; omega)
        (fun y1 e2 q3 q4 x5 e6 x7 e8 y9 e10 q11 y12 e13 y14 e15 x16 e17 x18 e19 y20 e21 x22 e23 x24 e25 y26 e27 y28 e29 v30 k31 v34 m32 hm32 k33 q35 hm2 => by exfalso; omega)
        (fun y1 e2 q3 q4 x5 e6 x7 e8 y9 e10 q11 y12 e13 y14 e15 x16 e17 x18 e19 y20 e21 x22 e23 x24 e25 y26 e27 y28 e29 v30 k31 v34 m32 hm32 k33 q35 hm2 => by exfalso; omega)
        (fun y1 e2 q3 q4 x36 e37 x38 e39 y40 e41 q42 q43 hm2 => by exfalso; omega)
        (fun y1 e2 q3 q4 x36 e37 x38 e39 y40 e41 q42 q43 hm2 => by exfalso; omega)
        (fun y1 e2 q3 q4 x36 e37 x38 e39 y40 e41 q42 y44 e45 y46 e47 x48 e49 x50 e51 y52 e53 x54 e55 x56 e57 y58 e59 y60 e61 v62 k63 => by exfalso; omega)
        (fun y1 e2 q3 q4 x36 e37 x38 e39 y40 e41 q42 y44 e45 y46 e47 x48 e49 x50 e51 y52 e53 x54 e55 x56 e57 y58 e59 y60 e61 v62 k63 => by exfalso; omega)
        (fun y1 e2 q3 q4 x36 e37 x38 e39 y40 e41 q42 y44 e45 y46 e47 x48 e49 x50 e51 y52 e53 x54 e55 x56 e57 y58 e59 y60 e61 v62 k63 v66 m64 hm64 k65 q67 hm2 => by exfalso; omega)
        (fun y1 e2 q3 q4 x36 e37 x38 e39 y40 e41 q42 y44 e45 y46 e47 x48 e49 x50 e51 y52 e53 x54 e55 x56 e57 y58 e59 y60 e61 v62 k63 v66 m64 hm64 k65 q67 hm2 => by exfalso; omega)
        (fun y1 e2 q3 x68 e69 x70 e71 y72 e73 x74 e75 x76 e77 y78 e79 q80 x81 e82 x86 e87 lo a0 a1 a2 a3 a4 a5 hm2 => ih _ _ lo (by omega) (by omega) (by
          rw [show x86.toInt.toNat = k.toInt.toNat + 1 by omega, ks, if_neg (by rw [← fo, ← ea]; exact q80)]
          omega) a0 a1 a2 a3 a4 a5)
        (fun y1 e2 q3 x68 e69 x70 e71 y72 e73 x74 e75 x76 e77 y78 e79 q80 x91 e92 x96 e97 lo a0 a1 a2 a3 a4 a5 hm2 => ih _ _ lo (by omega) (by omega) (by
          rw [show x96.toInt.toNat = k.toInt.toNat + 1 by omega, ks, if_pos (by rw [← fo, ← ea]; exact q80)]
          omega) a0 a1 a2 a3 a4 a5)
theorem h_tnm {v t : Int32} (hm : aTm aT0 mem) (hM : mB Q mem) (hW : WQ Q) (hS : tM v.toInt Q hu S mem) (hv : wS Q S) (hH : wH Q hu) (v0 : 0 ≤ v.toInt ∧ v.toInt ≤ 21) (t0 : 0 ≤ t.toInt) (t1 : t.toInt < thN Q) (hd : 6 ≤ d) : yC zpg d 234 [.ref 221, .int v, .int t] mem (fun r m => ∃ x : Int32, r = some (.int x) ∧ aTm aT0 m ∧ (onl [256, 257] mem m ∧ is1 x (tnP Q hu S t.toInt))) := by
  obtain ⟨d, rfl⟩ : ∃ q, d = q + 6 := ⟨d - 6, by omega⟩
  have t8 : t.toInt ≤ 8 := by
    have := hW.2.1.1
    unfold thN at t1
    omega
  have s1 := hS.1.2
  refine yC_of (t := tX12_isTurned) rfl rfl ?_
  exact w_tm0 hm rfl rfl rfl v0 ⟨t0, t8⟩ 
        (fun y1 e2 q3 lo a0 a1 a2 a3 a4 a5 hm2 => by
      have ye : y1 = Sm S := Int32.toInt_inj.1 (e2.trans s1)
      have qq := q3
      rw [ye] at qq
      exact tm_loop hm hM hW hS hv hH v0 t0 t1 t8 (Or.inr ⟨rfl, fun z => qq ((bt_shr t0 (by omega)).2 z)⟩) (Qf Q).length 0 0 lo (by show (0 : Int) + _ = _; unfold foN; omega) (by decide) rfl a0 a1 a2 a3 a4 a5)
        (fun y1 e2 q3 lo a0 a1 a2 a3 a4 a5 hm2 => by
      have ye : y1 = Sm S := Int32.toInt_inj.1 (e2.trans s1)
      have qq := q3
      rw [ye] at qq
      exact tm_loop hm hM hW hS hv hH v0 t0 t1 t8 (Or.inl ⟨rfl, (bt_shr t0 (by omega)).1 qq⟩) (Qf Q).length 0 0 lo (by show (0 : Int) + _ = _; unfold foN; omega) (by decide) rfl a0 a1 a2 a3 a4 a5)
end TMA
