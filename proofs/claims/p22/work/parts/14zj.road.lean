/-! roads: the class -/
section RDC
variable {d : Nat} {mem : zM} {L : Int → Prop} {e p : Int}
set_option maxRecDepth 100000 in
theorem aR_184 : aat aT0 184 = some (.inl (false, 1, 49, .inr none)) := rfl
theorem bL_e0 {x : Int64} : x = 0 ↔ ∀ c, 0 ≤ c → c < 64 → ¬ bL x c := by
  constructor
  · intro hx c _ _
    rw [hx]
    exact bL_0
  · intro hh
    apply Int64.toBitVec_inj.1
    refine BitVec.eq_of_getLsbD_eq (fun i hi => ?_)
    have q := hh (i : Int) (by omega) (by omega)
    unfold bL at q
    rw [show ((i : Int)).toNat = i by omega] at q
    have r := bL_0 (c := (i : Int))
    unfold bL at r
    rw [show ((i : Int)).toNat = i by omega] at r
    rw [Bool.not_eq_true] at q r
    rw [q, r]
theorem bL_m {x g : Int64} (p0 : 0 ≤ p) (p1 : p < 64) (hg : ∀ c, 0 ≤ c → c < 64 → (bL g c ↔ c = p)) : (x &&& g) = 0 ↔ ¬ bL x p := by
  rw [bL_e0]
  constructor
  · intro hh z
    exact hh p p0 p1 (bL_a.2 ⟨z, (hg p p0 p1).2 rfl⟩)
  · intro hh c c0 c1 z
    obtain ⟨z1, z2⟩ := bL_a.1 z
    rw [(hg c c0 c1).1 z2] at z1
    exact hh z1
theorem gd_set {l : List Int64} {i j : Nat} {v : Int64} (hi : i < l.length) : (l.set i v).getD j 0 = if j = i then v else l.getD j 0 := by
  rw [List.getD_eq_getElem?_getD, List.getElem?_set, List.getD_eq_getElem?_getD]
  by_cases z : i = j
  · rw [if_pos z, if_pos hi, if_pos z.symm]
    rfl
  · rw [if_neg z, if_neg (fun q => z q.symm)]
theorem rch_s {n : Nat} {c : Int} : rch L e (n + 1) c ↔ (rch L e n c ∨ dsP L e (n + 1) c) := by
  constructor
  · intro hh
    by_cases z : rch L e n c
    · exact Or.inl z
    · exact Or.inr ⟨hh, fun k hk q => z (rch_le (by omega) q)⟩
  · rintro (z | z)
    · exact Or.inl z
    · exact z.1
/-- the next ring -/
theorem rd_st {x l : Int64} {k : Nat} (hG : ∀ c, L c → 0 ≤ c ∧ c < 64) (hx : ∀ c, 0 ≤ c → c < 64 → (bL x c ↔ ((L c ∨ c = p) ∧ dsP L e k c))) (hl : ∀ c, 0 ≤ c → c < 64 → (bL l c ↔ ((L c ∨ c = p) ∧ ¬ rch L e k c))) (hp : ¬ rch L e k p) : ∀ c, 0 ≤ c → c < 64 → (bL (nxt x &&& l) c ↔ ((L c ∨ c = p) ∧ dsP L e (k + 1) c)) := by
  intro c c0 c1
  have up : ∀ y, 0 ≤ y → y < 64 → bL x y → L y ∧ rch L e k y := fun y y0 y1 hy => by
    have z := (hx y y0 y1).1 hy
    refine ⟨?_, z.2.1⟩
    rcases z.1 with q | q
    · exact q
    · rw [q] at z
      exact absurd z.2.1 hp
  have far : ∀ y, 0 ≤ y → bL x y → y < 64 := fun y y0 hy => by
    rcases Int.lt_or_le y 64 with w | w
    · exact w
    · exact absurd hy (bL_h w)
  rw [bL_a, hl c c0 c1, nxt_b c0 c1]
  constructor
  · rintro ⟨nx, lc, nr⟩
    refine ⟨lc, Or.inr ?_, fun j hj q => nr (rch_le (by omega) q)⟩
    rcases nx with ⟨b0, b⟩ | b | ⟨b0, b⟩ | b
    · exact ⟨3, by decide, up (c - 1) (by omega) (by omega) b⟩
    · exact ⟨1, by decide, up (c + 1) (by omega) (far _ (by omega) b) b⟩
    · exact ⟨0, by decide, up (c - 8) (by omega) (by omega) b⟩
    · exact ⟨2, by decide, up (c + 8) (by omega) (far _ (by omega) b) b⟩
  · rintro ⟨lc, dk⟩
    obtain ⟨w, hw, lw, dw⟩ := ds_st dk
    have g := hG _ lw
    have b := (hx (nbr c w) g.1 g.2).2 ⟨Or.inl lw, dw⟩
    refine ⟨?_, lc, dk.2 k (Nat.lt_succ_self k)⟩
    have w4 : w = 0 ∨ w = 1 ∨ w = 2 ∨ w = 3 := by omega
    rcases w4 with r | r | r | r
    · rw [r] at b g
      have g8 : 0 ≤ c - 8 := g.1
      exact Or.inr (Or.inr (Or.inl ⟨by omega, b⟩))
    · rw [r] at b
      exact Or.inr (Or.inl b)
    · rw [r] at b
      exact Or.inr (Or.inr (Or.inr b))
    · rw [r] at b g
      have g8 : 0 ≤ c - 1 := g.1
      exact Or.inl ⟨by omega, b⟩
theorem rd_lf {y l : Int64} {k : Nat} (hl : ∀ c, 0 ≤ c → c < 64 → (bL l c ↔ ((L c ∨ c = p) ∧ ¬ rch L e k c))) (hy : ∀ c, 0 ≤ c → c < 64 → (bL y c ↔ ((L c ∨ c = p) ∧ dsP L e (k + 1) c))) : ∀ c, 0 ≤ c → c < 64 → (bL (l &&& (y ^^^ (-1))) c ↔ ((L c ∨ c = p) ∧ ¬ rch L e (k + 1) c)) := by
  intro c c0 c1
  rw [bL_a, bL_n c0 c1, hl c c0 c1, hy c c0 c1, rch_s]
  constructor
  · rintro ⟨⟨a, b⟩, z⟩
    exact ⟨a, fun q => q.elim b (fun q => z ⟨a, q⟩)⟩
  · rintro ⟨a, b⟩
    exact ⟨⟨a, fun q => b (Or.inl q)⟩, fun z => b (Or.inr z.2)⟩
theorem ds_dL : ∀ (n : Nat) (c : Int), dsP L e n c → ∀ k, k < n → ∃ x, L x ∧ dsP L e k x
  | 0, _, _, k, hk => absurd hk (Nat.not_lt_zero k)
  | n + 1, c, hd, k, hk => by
    obtain ⟨w, -, lw, dw⟩ := ds_st hd
    by_cases z : k = n
    · exact ⟨_, lw, by rw [z]; exact dw⟩
    · exact ds_dL n _ dw k (by omega)
/-- no road, where a ring is empty -/
theorem rd_no {k : Nat} (hG : ∀ c, L c → 0 ≤ c ∧ c < 64) (p0 : 0 ≤ p ∧ p < 64) (hn : ∀ c, 0 ≤ c → c < 64 → ¬ ((L c ∨ c = p) ∧ dsP L e (k + 1) c)) (hp : ¬ rch L e k p) : ∀ n, ¬ rch L e n p := by
  intro n hh
  obtain ⟨m, -, dm⟩ := ds_ex n hh
  have mk : k < m := by
    rcases Nat.lt_or_ge k m with z | z
    · exact z
    · exact absurd (rch_le z dm.1) hp
  by_cases z : m = k + 1
  · rw [z] at dm
    exact hn p p0.1 p0.2 ⟨Or.inr rfl, dm⟩
  · obtain ⟨x, lx, dx⟩ := ds_dL m p dm (k + 1) (by omega)
    have g := hG x lx
    exact hn x g.1 g.2 ⟨Or.inl lx, dx⟩
/-- 49 rings and one more place are too many -/
theorem ds_49 {Q : Qd} {x : Int} (c7 : Qc Q ≤ 7) (r7 : Qr Q ≤ 7) (hL : ∀ c, L c → inG Q c) (hx : inG Q x) (hd : dsP L e 48 x) (hp : inG Q p) (hn : ¬ rch L e 48 p) : False := by
  have a := ds_cn c7 r7 hL hx hd 48 (Nat.le_refl 48)
  have pe : ((p.toNat : Nat) : Int) = p := by
    unfold inG at hp
    omega
  have g : in7 p.toNat = true := decide_eq_true (by unfold inG at hp; omega)
  have b := cp_lt (p := in7) (q := fun t => in7 t && cdB (rch L e 48 (t : Int))) (s := p.toNat) g (by
    show ¬ (in7 p.toNat && cdB (rch L e 48 ((p.toNat : Nat) : Int))) = true
    rw [pe, g, cdB_f hn]
    decide) (List.range 64) (List.mem_range.2 (by unfold inG at hp; omega)) (fun t _ ht => by
    have ht : (in7 t && cdB (rch L e 48 (t : Int))) = true := ht
    rw [Bool.and_eq_true] at ht
    exact ht.1)
  rw [in7_n] at b
  omega
theorem eo_1 {B op : Int64} (e64 : 0 ≤ e ∧ e < 64) (hB : ∀ c, 0 ≤ c → c < 64 → (bL B c ↔ c = e)) (hop : ∀ c, 0 ≤ c → c < 64 → (bL op c ↔ L c)) : (B &&& op) = 0 ↔ ¬ L e := by
  rw [bL_e0]
  constructor
  · intro hh z
    exact hh e e64.1 e64.2 (bL_a.2 ⟨(hB e e64.1 e64.2).2 rfl, (hop e e64.1 e64.2).2 z⟩)
  · intro hh c c0 c1 z
    obtain ⟨z1, z2⟩ := bL_a.1 z
    have ce := (hB c c0 c1).1 z1
    rw [ce] at z2
    exact hh ((hop e e64.1 e64.2).1 z2)
theorem rd_n0 (hl : ¬ L e) (hp : ¬ p = e) : ∀ n, ¬ rch L e n p := by
  intro n hh
  obtain ⟨m, -, dm⟩ := ds_ex n hh
  by_cases z : m = 0
  · rw [z] at dm
    exact hp dm.1
  · obtain ⟨x, lx, dx⟩ := ds_dL m p dm 0 (by omega)
    have xe : x = e := dx.1
    rw [xe] at lx
    exact hl lx
/-- the rings that road leaves -/
def rgs (L : Int → Prop) (e p : Int) (n : Nat) (m : zM) : Prop := ∀ j, j ≤ n → ∀ c, 0 ≤ c → c < 64 → (bL ((gA m 184).getD j 0) c ↔ ((L c ∨ c = p) ∧ dsP L e j c))
theorem rgs_st {n : Nat} {k : Int32} {y : Int64} (hm : aTm aT0 mem) (hk : k.toInt = (n : Int) + 1) (h48 : n < 48) (hr : rgs L e p n mem) (hy : ∀ c, 0 ≤ c → c < 64 → (bL y c ↔ ((L c ∨ c = p) ∧ dsP L e (n + 1) c))) : rgs L e p (n + 1) (sX mem 184 k y) := by
  intro j hj c c0 c1
  have l := (gA_ty aR_184 hm).2
  have z := zclamp (x := k) (by omega)
  rw [gA_sA_eq, gd_set (by rw [l]; omega)]
  by_cases v : j = k.toNatClampNeg
  · rw [if_pos v, hy c c0 c1, show j = n + 1 by omega]
  · rw [if_neg v]
    exact hr j (by omega) c c0 c1
theorem rgs_0 {B : Int64} (hm : aTm aT0 mem) (hl : L e) (hB : ∀ c, 0 ≤ c → c < 64 → (bL B c ↔ c = e)) : rgs L e p 0 (sX mem 184 0 B) := by
  intro j hj c c0 c1
  have l := (gA_ty aR_184 hm).2
  have j0 : j = 0 := by omega
  subst j0
  rw [gA_sA_eq, gd_set (by rw [l]; decide), if_pos (show (0 : Nat) = (0 : Int32).toNatClampNeg from rfl), hB c c0 c1]
  constructor
  · intro z
    rw [z]
    exact ⟨Or.inl hl, ds_0⟩
  · intro z
    exact z.2.1
def rdR (L : Int → Prop) (e p : Int) (m : zM) (v : Int) : Prop := rdV L e p v ∧ ∀ j : Nat, (j : Int) < v → ∀ c, 0 ≤ c → c < 64 → (bL ((gA m 184).getD j 0) c ↔ ((L c ∨ c = p) ∧ dsP L e j c))
set_option maxRecDepth 100000 in
theorem w_rd0 {d : Nat} {mem : zM} {P : Option Value → zM → Prop} {pl en : Int32} {op : Int64} {lo : List (Nat × Value)} (hm : aTm aT0 mem) (l_0 : zlg lo 0 = some (.ref 181)) (l_1 : zlg lo 1 = some (.int pl)) (l_2 : zlg lo 2 = some (.int en)) (l_3 : zlg lo 3 = some (.long op)) (h1 : ¬ (pl).toInt = (en).toInt → ¬ ((((gA mem 184).set (0 : Int32).toNatClampNeg ((1 : Int64) <<< ((en : Int32).toInt64 &&& 63))).getD (0 : Int).toNat 0) &&& op) = 0 → ∀ lo, zlg lo 0 = some (.ref 181) → zlg lo 1 = some (.int pl) → zlg lo 2 = some (.int en) → zlg lo 3 = some (.long op) → zlg lo 5 = some (.long ((1 : Int64) <<< ((pl : Int32).toInt64 &&& 63))) → zlg lo 7 = some (.long ((op ||| ((1 : Int64) <<< ((pl : Int32).toInt64 &&& 63))) &&& ((((gA mem 184).set (0 : Int32).toNatClampNeg ((1 : Int64) <<< ((en : Int32).toInt64 &&& 63))).getD (0 : Int).toNat 0) ^^^ (-1)))) → zlg lo 9 = some (.int 1) → aTm aT0 (sX mem 184 0 ((1 : Int64) <<< ((en : Int32).toInt64 &&& 63))) → yR zpg tX0_road (d + 2) (58, lo, [], (sX mem 184 0 ((1 : Int64) <<< ((en : Int32).toInt64 &&& 63)))) P) (h2 : ¬ (pl).toInt = (en).toInt → ((((gA mem 184).set (0 : Int32).toNatClampNeg ((1 : Int64) <<< ((en : Int32).toInt64 &&& 63))).getD (0 : Int).toNat 0) &&& op) = 0 → aTm aT0 (sX mem 184 0 ((1 : Int64) <<< ((en : Int32).toInt64 &&& 63))) → P (some (.int (-1))) (sX mem 184 0 ((1 : Int64) <<< ((en : Int32).toInt64 &&& 63)))) (h3 : (pl).toInt = (en).toInt → aTm aT0 (sX mem 184 0 ((1 : Int64) <<< ((en : Int32).toInt64 &&& 63))) → P (some (.int 0)) (sX mem 184 0 ((1 : Int64) <<< ((en : Int32).toInt64 &&& 63)))) : yR zpg tX0_road (d + 2) (0, lo, [], mem) P := by
  refine wR_li rfl l_1 ?_
  refine wR_is rfl rfl rfl rfl rfl rfl ?_
  show yR zpg tX11_bitOf (d + 1) (0, [(0, .int pl)], [], mem) _
  refine yR_m 3 (fun _ _ _ _ => rfl) ?_
  refine yR_rl rfl ?_
  show yR zpg tX0_road (d + 2) (4, lo, [.long ((1 : Int64) <<< ((pl : Int32).toInt64 &&& 63))], mem) _
  refine wR_sl rfl rfl (fun lo1 e2 f3 => ?_)
  have lo1_0 := f3 0 _ (by decide) (Or.inl rfl) l_0
  have lo1_1 := f3 1 _ (by decide) (Or.inl rfl) l_1
  have lo1_2 := f3 2 _ (by decide) (Or.inl rfl) l_2
  have lo1_3 := f3 3 _ (by decide) (Or.inr (by decide)) l_3
  refine wR_la rfl lo1_0 ?_
  refine wR_gr rfl hrO_e hrO_2 hm ?_
  refine yR_m 1 (fun _ _ _ _ => rfl) ?_
  refine wR_li rfl lo1_2 ?_
  refine wR_is rfl rfl rfl rfl rfl rfl ?_
  show yR zpg tX11_bitOf (d + 1) (0, [(0, .int en)], [], mem) _
  refine yR_m 3 (fun _ _ _ _ => rfl) ?_
  refine yR_rl rfl ?_
  show yR zpg tX0_road (d + 2) (15, lo1, [.long ((1 : Int64) <<< ((en : Int32).toInt64 &&& 63)), .int 0, .ref 184], mem) _
  refine wN_las (a := 0) rfl aR_184 hm rfl (by decide) ?_
  have hm_1 : aTm aT0 (sX mem 184 0 ((1 : Int64) <<< ((en : Int32).toInt64 &&& 63))) := tm_sA aR_184 hm
  refine wR_li rfl lo1_1 ?_
  refine wR_li rfl lo1_2 ?_
  refine wR_ic_ne rfl (a := (pl).toInt) (c := (en).toInt) rfl rfl (fun q4 => ?_) (fun q4 => ?_)
  ·
    refine wR_la rfl lo1_0 ?_
    refine wR_gr rfl hrO_e hrO_2 hm_1 ?_
    refine yR_m 1 (fun _ _ _ _ => rfl) ?_
    refine wN_ll (a := 0) rfl aR_184 hm_1 gA_sA_eq rfl (by decide) ?_
    refine wR_ll4 rfl lo1_3 ?_
    refine yR_m 3 (fun _ _ _ _ => rfl) ?_
    refine wR_lf_ne rfl (fun q5 => ?_) (fun q5 => ?_)
    ·
      refine wR_ll4 rfl lo1_3 ?_
      refine wR_ll4 rfl e2 ?_
      refine yR_m 1 (fun _ _ _ _ => rfl) ?_
      refine wR_la rfl lo1_0 ?_
      refine wR_gr rfl hrO_e hrO_2 hm_1 ?_
      refine yR_m 1 (fun _ _ _ _ => rfl) ?_
      refine wN_ll (a := 0) rfl aR_184 hm_1 gA_sA_eq rfl (by decide) ?_
      refine yR_m 3 (fun _ _ _ _ => rfl) ?_
      refine wR_sl rfl rfl (fun lo6 e7 f8 => ?_)
      have lo6_5 := f8 5 _ (by decide) (Or.inr (by decide)) e2
      have lo6_0 := f8 0 _ (by decide) (Or.inl rfl) lo1_0
      have lo6_1 := f8 1 _ (by decide) (Or.inl rfl) lo1_1
      have lo6_2 := f8 2 _ (by decide) (Or.inl rfl) lo1_2
      have lo6_3 := f8 3 _ (by decide) (Or.inr (by decide)) lo1_3
      refine yR_m 1 (fun _ _ _ _ => rfl) ?_
      refine wR_si rfl rfl (fun lo9 e10 f11 => ?_)
      have lo9_7 := f11 7 _ (by decide) (Or.inr (by decide)) e7
      have lo9_5 := f11 5 _ (by decide) (Or.inr (by decide)) lo6_5
      have lo9_0 := f11 0 _ (by decide) (Or.inl rfl) lo6_0
      have lo9_1 := f11 1 _ (by decide) (Or.inl rfl) lo6_1
      have lo9_2 := f11 2 _ (by decide) (Or.inl rfl) lo6_2
      have lo9_3 := f11 3 _ (by decide) (Or.inr (by decide)) lo6_3
      exact h1 q4 q5 lo9 lo9_0 lo9_1 lo9_2 lo9_3 lo9_5 lo9_7 e10 hm_1
    ·
      refine yR_m 1 (fun _ _ _ _ => rfl) ?_
      exact yR_ri rfl (h2 q4 q5 hm_1)
  ·
    refine yR_m 1 (fun _ _ _ _ => rfl) ?_
    exact yR_ri rfl (h3 q4 hm_1)

set_option maxRecDepth 100000 in
theorem w_rd58 {d : Nat} {mem : zM} {P : Option Value → zM → Prop} {pl en k : Int32} {op go lf : Int64} {lo : List (Nat × Value)} (hm : aTm aT0 mem) (l_0 : zlg lo 0 = some (.ref 181)) (l_1 : zlg lo 1 = some (.int pl)) (l_2 : zlg lo 2 = some (.int en)) (l_3 : zlg lo 3 = some (.long op)) (l_5 : zlg lo 5 = some (.long go)) (l_7 : zlg lo 7 = some (.long lf)) (l_9 : zlg lo 9 = some (.int k)) (hk : 1 ≤ k.toInt ∧ k.toInt ≤ 49) (h1 : 49 ≤ (k).toInt → aTm aT0 mem → P (some (.int (-1))) mem) (h2 : (k).toInt < 49 → ∀ (x2 : Int32), x2.toInt = ((k).toInt - 1) → ((((((((gA mem 184).getD (((k).toInt - 1) : Int).toNat 0) <<< ((1 : Int32).toInt64 &&& 63)) ||| (((((gA mem 184).getD (((k).toInt - 1) : Int).toNat 0)).toUInt64 >>> ((1 : Int32).toInt64.toUInt64 &&& Int64.toUInt64 63)).toInt64)) ||| (((gA mem 184).getD (((k).toInt - 1) : Int).toNat 0) <<< ((8 : Int32).toInt64 &&& 63))) ||| (((((gA mem 184).getD (((k).toInt - 1) : Int).toNat 0)).toUInt64 >>> ((8 : Int32).toInt64.toUInt64 &&& Int64.toUInt64 63)).toInt64)) &&& lf) &&& go) = 0 → ¬ (((((((gA mem 184).getD (((k).toInt - 1) : Int).toNat 0) <<< ((1 : Int32).toInt64 &&& 63)) ||| (((((gA mem 184).getD (((k).toInt - 1) : Int).toNat 0)).toUInt64 >>> ((1 : Int32).toInt64.toUInt64 &&& Int64.toUInt64 63)).toInt64)) ||| (((gA mem 184).getD (((k).toInt - 1) : Int).toNat 0) <<< ((8 : Int32).toInt64 &&& 63))) ||| (((((gA mem 184).getD (((k).toInt - 1) : Int).toNat 0)).toUInt64 >>> ((8 : Int32).toInt64.toUInt64 &&& Int64.toUInt64 63)).toInt64)) &&& lf) = 0 → ∀ (x12 : Int32), x12.toInt = ((k).toInt + 1) → ∀ lo, zlg lo 0 = some (.ref 181) → zlg lo 1 = some (.int pl) → zlg lo 2 = some (.int en) → zlg lo 3 = some (.long op) → zlg lo 5 = some (.long go) → zlg lo 7 = some (.long (lf &&& ((((((((gA mem 184).getD (((k).toInt - 1) : Int).toNat 0) <<< ((1 : Int32).toInt64 &&& 63)) ||| (((((gA mem 184).getD (((k).toInt - 1) : Int).toNat 0)).toUInt64 >>> ((1 : Int32).toInt64.toUInt64 &&& Int64.toUInt64 63)).toInt64)) ||| (((gA mem 184).getD (((k).toInt - 1) : Int).toNat 0) <<< ((8 : Int32).toInt64 &&& 63))) ||| (((((gA mem 184).getD (((k).toInt - 1) : Int).toNat 0)).toUInt64 >>> ((8 : Int32).toInt64.toUInt64 &&& Int64.toUInt64 63)).toInt64)) &&& lf) ^^^ (-1)))) → zlg lo 9 = some (.int x12) → aTm aT0 (sX mem 184 k (((((((gA mem 184).getD (((k).toInt - 1) : Int).toNat 0) <<< ((1 : Int32).toInt64 &&& 63)) ||| (((((gA mem 184).getD (((k).toInt - 1) : Int).toNat 0)).toUInt64 >>> ((1 : Int32).toInt64.toUInt64 &&& Int64.toUInt64 63)).toInt64)) ||| (((gA mem 184).getD (((k).toInt - 1) : Int).toNat 0) <<< ((8 : Int32).toInt64 &&& 63))) ||| (((((gA mem 184).getD (((k).toInt - 1) : Int).toNat 0)).toUInt64 >>> ((8 : Int32).toInt64.toUInt64 &&& Int64.toUInt64 63)).toInt64)) &&& lf)) → yR zpg tX0_road (d + 2) (58, lo, [], (sX mem 184 k (((((((gA mem 184).getD (((k).toInt - 1) : Int).toNat 0) <<< ((1 : Int32).toInt64 &&& 63)) ||| (((((gA mem 184).getD (((k).toInt - 1) : Int).toNat 0)).toUInt64 >>> ((1 : Int32).toInt64.toUInt64 &&& Int64.toUInt64 63)).toInt64)) ||| (((gA mem 184).getD (((k).toInt - 1) : Int).toNat 0) <<< ((8 : Int32).toInt64 &&& 63))) ||| (((((gA mem 184).getD (((k).toInt - 1) : Int).toNat 0)).toUInt64 >>> ((8 : Int32).toInt64.toUInt64 &&& Int64.toUInt64 63)).toInt64)) &&& lf))) P) (h3 : (k).toInt < 49 → ∀ (x2 : Int32), x2.toInt = ((k).toInt - 1) → ((((((((gA mem 184).getD (((k).toInt - 1) : Int).toNat 0) <<< ((1 : Int32).toInt64 &&& 63)) ||| (((((gA mem 184).getD (((k).toInt - 1) : Int).toNat 0)).toUInt64 >>> ((1 : Int32).toInt64.toUInt64 &&& Int64.toUInt64 63)).toInt64)) ||| (((gA mem 184).getD (((k).toInt - 1) : Int).toNat 0) <<< ((8 : Int32).toInt64 &&& 63))) ||| (((((gA mem 184).getD (((k).toInt - 1) : Int).toNat 0)).toUInt64 >>> ((8 : Int32).toInt64.toUInt64 &&& Int64.toUInt64 63)).toInt64)) &&& lf) &&& go) = 0 → (((((((gA mem 184).getD (((k).toInt - 1) : Int).toNat 0) <<< ((1 : Int32).toInt64 &&& 63)) ||| (((((gA mem 184).getD (((k).toInt - 1) : Int).toNat 0)).toUInt64 >>> ((1 : Int32).toInt64.toUInt64 &&& Int64.toUInt64 63)).toInt64)) ||| (((gA mem 184).getD (((k).toInt - 1) : Int).toNat 0) <<< ((8 : Int32).toInt64 &&& 63))) ||| (((((gA mem 184).getD (((k).toInt - 1) : Int).toNat 0)).toUInt64 >>> ((8 : Int32).toInt64.toUInt64 &&& Int64.toUInt64 63)).toInt64)) &&& lf) = 0 → aTm aT0 mem → P (some (.int (-1))) mem) (h4 : (k).toInt < 49 → ∀ (x2 : Int32), x2.toInt = ((k).toInt - 1) → ¬ ((((((((gA mem 184).getD (((k).toInt - 1) : Int).toNat 0) <<< ((1 : Int32).toInt64 &&& 63)) ||| (((((gA mem 184).getD (((k).toInt - 1) : Int).toNat 0)).toUInt64 >>> ((1 : Int32).toInt64.toUInt64 &&& Int64.toUInt64 63)).toInt64)) ||| (((gA mem 184).getD (((k).toInt - 1) : Int).toNat 0) <<< ((8 : Int32).toInt64 &&& 63))) ||| (((((gA mem 184).getD (((k).toInt - 1) : Int).toNat 0)).toUInt64 >>> ((8 : Int32).toInt64.toUInt64 &&& Int64.toUInt64 63)).toInt64)) &&& lf) &&& go) = 0 → aTm aT0 mem → P (some (.int k)) mem) : yR zpg tX0_road (d + 2) (58, lo, [], mem) P := by
  refine wR_li rfl l_9 ?_
  refine yR_m 1 (fun _ _ _ _ => rfl) ?_
  refine wR_ic_ge rfl (a := (k).toInt) (c := 49) rfl rfl (fun q1 => ?_) (fun q1 => ?_)
  ·
    refine yR_m 1 (fun _ _ _ _ => rfl) ?_
    exact yR_ri rfl (h1 q1 hm)
  ·
    refine wR_la rfl l_0 ?_
    refine wR_gr rfl hrO_e hrO_2 hm ?_
    refine wR_li rfl l_9 ?_
    refine yR_m 1 (fun _ _ _ _ => rfl) ?_
    refine wN_sub (a := (k).toInt) (b := 1) rfl rfl rfl (by omega) (fun x2 e3 => ?_)
    refine wN_ll (a := ((k).toInt - 1)) rfl aR_184 hm rfl e3 (by omega) ?_
    refine wR_is rfl rfl rfl rfl rfl rfl ?_
    show yR zpg tX0_nextTo (d + 1) (0, [(0, .long ((gA mem 184).getD (((k).toInt - 1) : Int).toNat 0))], [], mem) _
    refine yR_m 15 (fun _ _ _ _ => rfl) ?_
    refine yR_rl rfl ?_
    show yR zpg tX0_road (d + 2) (77, lo, [.long ((((((gA mem 184).getD (((k).toInt - 1) : Int).toNat 0) <<< ((1 : Int32).toInt64 &&& 63)) ||| (((((gA mem 184).getD (((k).toInt - 1) : Int).toNat 0)).toUInt64 >>> ((1 : Int32).toInt64.toUInt64 &&& Int64.toUInt64 63)).toInt64)) ||| (((gA mem 184).getD (((k).toInt - 1) : Int).toNat 0) <<< ((8 : Int32).toInt64 &&& 63))) ||| (((((gA mem 184).getD (((k).toInt - 1) : Int).toNat 0)).toUInt64 >>> ((8 : Int32).toInt64.toUInt64 &&& Int64.toUInt64 63)).toInt64))], mem) _
    refine wR_ll4 rfl l_7 ?_
    refine yR_m 1 (fun _ _ _ _ => rfl) ?_
    refine wR_sl rfl rfl (fun lo4 e5 f6 => ?_)
    have lo4_0 := f6 0 _ (by decide) (Or.inl rfl) l_0
    have lo4_1 := f6 1 _ (by decide) (Or.inl rfl) l_1
    have lo4_2 := f6 2 _ (by decide) (Or.inl rfl) l_2
    have lo4_3 := f6 3 _ (by decide) (Or.inr (by decide)) l_3
    have lo4_5 := f6 5 _ (by decide) (Or.inr (by decide)) l_5
    have lo4_7 := f6 7 _ (by decide) (Or.inr (by decide)) l_7
    have lo4_9 := f6 9 _ (by decide) (Or.inl rfl) l_9
    refine wR_ll4 rfl e5 ?_
    refine wR_ll4 rfl lo4_5 ?_
    refine yR_m 3 (fun _ _ _ _ => rfl) ?_
    refine wR_lf_eq rfl (fun q7 => ?_) (fun q7 => ?_)
    ·
      refine wR_ll4 rfl e5 ?_
      refine yR_m 2 (fun _ _ _ _ => rfl) ?_
      refine wR_lf_ne rfl (fun q8 => ?_) (fun q8 => ?_)
      ·
        refine wR_la rfl lo4_0 ?_
        refine wR_gr rfl hrO_e hrO_2 hm ?_
        refine wR_li rfl lo4_9 ?_
        refine wR_ll4 rfl e5 ?_
        refine wN_las (a := (k).toInt) rfl aR_184 hm rfl (by omega) ?_
        have hm_1 : aTm aT0 (sX mem 184 k (((((((gA mem 184).getD (((k).toInt - 1) : Int).toNat 0) <<< ((1 : Int32).toInt64 &&& 63)) ||| (((((gA mem 184).getD (((k).toInt - 1) : Int).toNat 0)).toUInt64 >>> ((1 : Int32).toInt64.toUInt64 &&& Int64.toUInt64 63)).toInt64)) ||| (((gA mem 184).getD (((k).toInt - 1) : Int).toNat 0) <<< ((8 : Int32).toInt64 &&& 63))) ||| (((((gA mem 184).getD (((k).toInt - 1) : Int).toNat 0)).toUInt64 >>> ((8 : Int32).toInt64.toUInt64 &&& Int64.toUInt64 63)).toInt64)) &&& lf)) := tm_sA aR_184 hm
        refine wR_ll4 rfl lo4_7 ?_
        refine wR_ll4 rfl e5 ?_
        refine yR_m 3 (fun _ _ _ _ => rfl) ?_
        refine wR_sl rfl rfl (fun lo9 e10 f11 => ?_)
        have lo9_10 := f11 10 _ (by decide) (Or.inr (by decide)) e5
        have lo9_0 := f11 0 _ (by decide) (Or.inl rfl) lo4_0
        have lo9_1 := f11 1 _ (by decide) (Or.inl rfl) lo4_1
        have lo9_2 := f11 2 _ (by decide) (Or.inl rfl) lo4_2
        have lo9_3 := f11 3 _ (by decide) (Or.inr (by decide)) lo4_3
        have lo9_5 := f11 5 _ (by decide) (Or.inr (by decide)) lo4_5
        have lo9_9 := f11 9 _ (by decide) (Or.inl rfl) lo4_9
        refine wN_in (a := (k).toInt) (b := 1) rfl rfl lo9_9 rfl rfl (by omega) (fun x12 e13 => fun lo14 e15 f16 => ?_)
        have lo14_7 := f16 7 _ (by decide) (Or.inr (by decide)) e10
        have lo14_10 := f16 10 _ (by decide) (Or.inr (by decide)) lo9_10
        have lo14_0 := f16 0 _ (by decide) (Or.inl rfl) lo9_0
        have lo14_1 := f16 1 _ (by decide) (Or.inl rfl) lo9_1
        have lo14_2 := f16 2 _ (by decide) (Or.inl rfl) lo9_2
        have lo14_3 := f16 3 _ (by decide) (Or.inr (by decide)) lo9_3
        have lo14_5 := f16 5 _ (by decide) (Or.inr (by decide)) lo9_5
        exact yR_m 1 (fun _ _ _ _ => rfl) (h2 q1 x2 e3 q7 q8 x12 e13 lo14 lo14_0 lo14_1 lo14_2 lo14_3 lo14_5 lo14_7 e15 hm_1)
      ·
        refine yR_m 1 (fun _ _ _ _ => rfl) ?_
        exact yR_ri rfl (h3 q1 x2 e3 q7 q8 hm)
    ·
      refine wR_li rfl lo4_9 ?_
      exact yR_ri rfl (h4 q1 x2 e3 q7 hm)

theorem rq_loop {Q : Qd} {pl en : Int32} {op go : Int64} {mr : zM} (b : (0 ≤ Qc Q ∧ Qc Q ≤ 7) ∧ 0 ≤ Qr Q ∧ Qr Q ≤ 7) (hL : ∀ c, L c → inG Q c) (hi : inG Q pl.toInt) (hgo : ∀ c, 0 ≤ c → c < 64 → (bL go c ↔ c = pl.toInt)) : ∀ (f n : Nat) (k : Int32) (lf : Int64) (mem : zM) (lo : List (Nat × Value)), n + f = 48 → k.toInt = (n : Int) + 1 → rgs L e pl.toInt n mem → (∀ c, 0 ≤ c → c < 64 → (bL lf c ↔ ((L c ∨ c = pl.toInt) ∧ ¬ rch L e n c))) → ¬ rch L e n pl.toInt → (∃ x, inG Q x ∧ dsP L e n x) → aTm aT0 mem → onl [184] mr mem → zlg lo 0 = some (.ref 181) → zlg lo 1 = some (.int pl) → zlg lo 2 = some (.int en) → zlg lo 3 = some (.long op) → zlg lo 5 = some (.long go) → zlg lo 7 = some (.long lf) → zlg lo 9 = some (.int k) → yR zpg tX0_road (d + 2) (58, lo, [], mem) (fun r m => ∃ v : Int32, r = some (.int v) ∧ aTm aT0 m ∧ (onl [184] mr m ∧ rdR L e pl.toInt m v.toInt)) := by
  intro f
  have hG : ∀ c, L c → 0 ≤ c ∧ c < 64 := fun c hc => by
    have z := hL c hc
    unfold inG at z
    omega
  have p64 : 0 ≤ pl.toInt ∧ pl.toInt < 64 := by
    unfold inG at hi
    omega
  induction f with
  | zero =>
    intro n k lf mem lo hn hk hr hl hp hx hm ho l0 l1 l2 l3 l5 l7 l9
    obtain ⟨x, x1, x2⟩ := hx
    have n48 : n = 48 := by omega
    rw [n48] at hp x2
    exact (ds_49 b.1.2 b.2.2 hL x1 x2 hi hp).elim
  | succ f ih =>
    intro n k lf mem lo hn hk hr hl hp hx hm ho l0 l1 l2 l3 l5 l7 l9
    have hq : ∀ c, 0 ≤ c → c < 64 → (bL ((gA mem 184).getD (k.toInt - 1).toNat 0) c ↔ ((L c ∨ c = pl.toInt) ∧ dsP L e n c)) := by
      rw [show (k.toInt - 1).toNat = n by omega]
      exact hr n (Nat.le_refl n)
    have hR := rd_st hG hq hl hp
    have hS9 : ∀ c, (L c ∨ c = pl.toInt) → inG Q c := fun c z => z.elim (hL c) (fun z => by rw [z]; exact hi)
    exact w_rd58 hm l0 l1 l2 l3 l5 l7 l9 (by omega) 
        (fun q1 hm2 => by exfalso; omega)
        (fun q1 x2 e3 q7 q8 x12 e13 lo a0 a1 a2 a3 a5 a7 a9 hm2 => ih (n + 1) x12 _ _ lo (by omega) (by omega) (rgs_st hm hk (by omega) hr hR) (rd_lf hl hR) (fun z => (rch_s.1 z).elim hp (fun z => (bL_m p64.1 p64.2 hgo).1 q7 ((hR _ p64.1 p64.2).2 ⟨Or.inr rfl, z⟩))) (Classical.byContradiction (fun z => q8 (bL_e0.2 (fun c c0 c1 hc => z ⟨c, hS9 c ((hR c c0 c1).1 hc).1, ((hR c c0 c1).1 hc).2⟩)))) hm2 (onl_sA rfl ho) a0 a1 a2 a3 a5 a7 a9)
        (fun q1 x2 e3 q7 q8 hm2 => ⟨_, rfl, hm2, ho, Or.inl ⟨rfl, rd_no hG p64 (fun c c0 c1 z => (bL_e0.1 q8 c c0 c1) ((hR c c0 c1).2 z)) hp⟩, (fun j hj => by exfalso; have z : ((-1) : Int32).toInt = -1 := rfl; omega)⟩)
        (fun q1 x2 e3 q7 hm2 => ⟨_, rfl, hm2, ho, Or.inr ⟨n + 1, by omega, Classical.byContradiction (fun z => q7 ((bL_m p64.1 p64.2 hgo).2 (fun hb => z ((hR _ p64.1 p64.2).1 hb).2)))⟩, fun j hj => hr j (by omega)⟩)
theorem h_rd {Q : Qd} {pl en : Int32} {op : Int64} {ee pp : Int} (he : en.toInt = ee) (hpp : pl.toInt = pp) (hm : aTm aT0 mem) (b : (0 ≤ Qc Q ∧ Qc Q ≤ 7) ∧ 0 ≤ Qr Q ∧ Qr Q ≤ 7) (hL : ∀ c, L c → inG Q c) (hop : ∀ c, 0 ≤ c → c < 64 → (bL op c ↔ L c)) (hi : inG Q pp) (hj : inG Q ee) (hd : 3 ≤ d) : yC zpg d 8 [.ref 181, .int pl, .int en, .long op] mem (fun r m => ∃ v : Int32, r = some (.int v) ∧ aTm aT0 m ∧ (onl [184] mem m ∧ rdR L ee pp m v.toInt)) := by
  obtain ⟨d, rfl⟩ : ∃ q, d = q + 3 := ⟨d - 3, by omega⟩
  subst he
  subst hpp
  have p64 : 0 ≤ pl.toInt ∧ pl.toInt < 64 := by
    unfold inG at hi
    omega
  have e64 : 0 ≤ en.toInt ∧ en.toInt < 64 := by
    unfold inG at hj
    omega
  have hgo : ∀ c, 0 ≤ c → c < 64 → (bL ((1 : Int64) <<< (pl.toInt64 &&& 63)) c ↔ c = pl.toInt) := fun c c0 c1 => bL_1 p64.1 p64.2 c0 c1
  have hge : ∀ c, 0 ≤ c → c < 64 → (bL ((1 : Int64) <<< (en.toInt64 &&& 63)) c ↔ c = en.toInt) := fun c c0 c1 => bL_1 e64.1 e64.2 c0 c1
  have r0 : (((gA mem 184).set (0 : Int32).toNatClampNeg ((1 : Int64) <<< (en.toInt64 &&& 63))).getD (0 : Int).toNat 0) = (1 : Int64) <<< (en.toInt64 &&& 63) := by
    rw [gd_set (by rw [(gA_ty aR_184 hm).2]; decide)]
    exact if_pos (show (0 : Int).toNat = (0 : Int32).toNatClampNeg from rfl)
  refine yC_of (t := tX0_road) rfl rfl ?_
  exact w_rd0 hm rfl rfl rfl rfl 
        (fun q4 q5 lo a0 a1 a2 a3 a5 a7 a9 hm2 => by
          have hLe : L en.toInt := Classical.byContradiction (fun z => q5 (by rw [r0]; exact (eo_1 e64 hge hop).2 z))
          exact rq_loop b hL hi hgo 48 0 1 _ _ lo rfl rfl (rgs_0 hm hLe hge) (fun c c0 c1 => by rw [bL_a, bL_n c0 c1, bL_o, hop c c0 c1, hgo c c0 c1, r0, hge c c0 c1]; exact Iff.rfl) (fun z => q4 z) ⟨en.toInt, hj, ds_0⟩ hm2 (onl_sA rfl onl_rf) a0 a1 a2 a3 a5 a7 a9)
        (fun q4 q5 hm2 => ⟨_, rfl, hm2, onl_sA rfl onl_rf, Or.inl ⟨rfl, rd_n0 ((eo_1 e64 hge hop).1 (by rw [r0] at q5; exact q5)) q4⟩, (fun j hj => by exfalso; have z : ((-1) : Int32).toInt = -1 := rfl; omega)⟩)
        (fun q4 hm2 => ⟨_, rfl, hm2, onl_sA rfl onl_rf, Or.inr ⟨0, rfl, q4, fun k hk => absurd hk (Nat.not_lt_zero k)⟩, fun j hj => by exfalso; have z : (0 : Int32).toInt = 0 := rfl; omega⟩)
end RDC
