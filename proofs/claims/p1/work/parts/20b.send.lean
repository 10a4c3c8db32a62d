def zSame (ks : List Nat) (mem : zM) : Prop := mem.length = 269 ∧ ∀ k, ks.contains k = false → zat mem k = zat zfm k
theorem zSame_set {ks : List Nat} {mem : zM} {a : Nat} {c : zE} (h : zSame ks mem) (ha : ks.contains a = true) : zSame ks (mem.set a c) := by
  refine ⟨by rw [List.length_set]; exact h.1, fun k hk => ?_⟩
  rw [zat_ne_set (fun q => by rw [q, hk] at ha; cases ha)]
  exact h.2 k hk
set_option maxRecDepth 100000 in
theorem zfm_185 : zat zfm 185 = some (.inr (3, [.ref 181, .ref 186, .ref 187, .ref 188, .ref 189, .ref 190, .int 0, .int 0, .ref 191, .int 0, .int 0, .int 0, .int 0])) := rfl
set_option maxRecDepth 100000 in
theorem zfm_181 : zat zfm 181 = some (.inr (0, [.ref 2, .ref 182, .ref 184, .int 0, .int 0])) := rfl
set_option maxRecDepth 100000 in
theorem zfm_2 : zat zfm 2 = some (.inr (4, [.int 0, .int 0, .int 0, .int 0, .int 0, .long 0, .long 0, .int 0, .ref 3, .ref 4, .ref 5, .ref 6, .int 0, .int 0, .ref 7, .ref 8, .ref 9, .ref 10])) := rfl
set_option maxRecDepth 100000 in
theorem zfm_31 : zat zfm 31 = some (.inr (8, [.int 0, .int 0, .ref 32, .ref 33, .int (-1), .int 0])) := rfl
set_option maxRecDepth 100000 in
theorem zfm_189 : zat zfm 189 = some (.inl (0, .inl (List.replicate 3584 0))) := rfl
set_option maxRecDepth 100000 in
theorem zfm_263 : zat zfm 263 = some (.inl (0, .inl (List.replicate 3584 0))) := rfl
set_option maxRecDepth 100000 in
theorem zfm_o : ∃ fs, zat zfm 0 = some (.inr (11, fs)) ∧ fs[4]? = some (.ref 2) ∧ fs[7]? = some (.ref 31) ∧ fs[11]? = some (.ref 185) := ⟨_, rfl, rfl, rfl, rfl⟩
set_option maxRecDepth 100000 in
theorem zfm_p : ∃ fs, zat zfm 221 = some (.inr (12, fs)) ∧ fs[13]? = some (.int 0) ∧ fs[19]? = some (.ref 228) ∧ fs[24]? = some (.ref 233) ∧ fs[65]? = some (.ref 263) := ⟨_, rfl, rfl, rfl, rfl, rfl⟩
set_option maxRecDepth 100000 in
theorem zfm_233 : zat zfm 233 = some (.inl (0, .inl (List.replicate 2 0))) := rfl
set_option maxRecDepth 100000 in
theorem zfm_228 : zat zfm 228 = some (.inl (0, .inl (List.replicate 2 0))) := rfl
theorem z512_f {i : Int32} (h : i.toInt < 512) : decide ((512 : Int32) ≤ i) = false := decide_eq_false (by rw [Int32.le_iff_toInt_le]; show ¬ (512 : Int) ≤ i.toInt; omega)
theorem z512_t {i : Int32} (h : 512 ≤ i.toInt) : decide ((512 : Int32) ≤ i) = true := decide_eq_true (by rw [Int32.le_iff_toInt_le]; show (512 : Int) ≤ i.toInt; omega)
theorem zrep_set {n k : Nat} : (List.replicate n (0 : Int32)).set k 0 = List.replicate n 0 := by simp
set_option maxRecDepth 100000 in
theorem zweigh_loop {F d : Nat} {P : Option Value → zM → Prop} (h : ∀ (i : Int32) (mem : zM), zSame [189] mem → yG F tX3_weigh d 10 (39, [(3, .int i), (2, .int 0), (0, .ref 185), (1, .int 0)], [], mem) P) : ∀ (k : Nat) (i : Int32) (T : List Int32) (mem : zM), 0 ≤ i.toInt → i.toInt + k = 512 → zSame [189] mem → zat mem 189 = some (.inl (0, .inl T)) → T.length = 3584 → yG F tX3_weigh d (13 + 14 * k) (13, [(3, .int i), (2, .int 0), (0, .ref 185), (1, .int 0)], [], mem) P := by
  intro k
  induction k with
  | zero =>
    intro i T mem h0 h1 hm hz hT
    refine yG_m (N := 11) 2 (fun _ _ _ => rfl) ?_
    refine yG_ic (N := 10) rfl (fun _ => h i mem hm) (fun q => absurd ((z512_t (by omega)).symm.trans q) (by decide))
  | succ k ih =>
    intro i T mem h0 h1 hm hz hT
    have e : (0 : Int32) * 512 + i = i := by simp
    refine yG_up (N := (13 + 14 * k) + 2 + 1 + 6 + 1 + 1 + 1 + 2) (by omega) ?_
    refine yG_m 2 (fun _ _ _ => rfl) ?_
    refine yG_ic rfl (fun q => absurd ((z512_f (by omega)).symm.trans q) (by decide)) (fun _ => ?_)
    refine yG_m 1 (fun _ _ _ => rfl) ?_
    refine yG_gf rfl ((hm.2 185 rfl).trans zfm_185) rfl ?_
    refine yG_m 6 (fun _ _ _ => rfl) ?_
    refine yG_as (x := 0 * 512 + i) (v := 0) rfl hz (by rw [e]; exact h0) (by rw [e, hT]; omega) ?_
    refine yG_m 2 (fun _ _ _ => rfl) ?_
    exact ih (i + 1) _ _ (by rw [zadd_i (by show _ ≤ i.toInt + 1; omega) (by show i.toInt + 1 ≤ _; omega)]; show 0 ≤ i.toInt + 1; omega) (by rw [zadd_i (by show _ ≤ i.toInt + 1; omega) (by show i.toInt + 1 ≤ _; omega)]; show i.toInt + 1 + _ = 512; omega) (zSame_set hm rfl) (zat_eq_set hz) (by simpa using hT)
set_option maxRecDepth 100000 in
theorem zweigh {F d : Nat} (hF : 8000 ≤ F) : yK F (d + 1) 35 [.ref 185, .int 0] zfm (fun r m' => r = none ∧ zSame [189] m') := by
  refine yK_of (t := tX3_weigh) (N := 13 + 14 * 512 + 3 + 1 + 1 + 1 + 1) rfl rfl (by omega) ?_
  refine yG_m 1 (fun _ _ _ => rfl) ?_
  refine yG_gf rfl zfm_185 rfl ?_
  refine yG_gf rfl zfm_181 rfl ?_
  refine yG_gf rfl zfm_2 rfl ?_
  refine yG_m 3 (fun _ _ _ => rfl) ?_
  refine zweigh_loop (fun i mem hm => ?_) 512 0 _ zfm (by decide) (by decide) ⟨zfm_269, fun _ _ => rfl⟩ zfm_189 (by rw [List.length_replicate])
  refine yG_m 5 (fun _ _ _ => rfl) ?_
  refine yG_if rfl (fun _ => ?_) (fun q => absurd q (by decide))
  exact yG_rv rfl ⟨rfl, hm⟩
set_option maxRecDepth 100000 in
theorem zmeasure {F d : Nat} (hF : 100 ≤ F) : yK F (d + 1) 34 [.ref 185, .ref 31] zfm (fun r m' => r = none ∧ m' = zfm) := by
  refine yK_of (t := tX3_measure) (N := 100) rfl rfl hF ?_
  refine yG_m 1 (fun _ _ _ => rfl) ?_
  refine yG_gf rfl zfm_185 rfl ?_
  refine yG_gf rfl zfm_181 rfl ?_
  refine yG_gf rfl zfm_2 rfl ?_
  refine yG_m 1 (fun _ _ _ => rfl) ?_
  refine yG_gf rfl zfm_185 rfl ?_
  refine yG_gf rfl zfm_181 rfl ?_
  refine yG_gf rfl zfm_2 rfl ?_
  refine yG_m 8 (fun _ _ _ => rfl) ?_
  refine yG_gf rfl zfm_185 rfl ?_
  refine yG_gf rfl zfm_181 rfl ?_
  refine yG_gf rfl zfm_2 rfl ?_
  refine yG_ic rfl (fun _ => ?_) (fun q => absurd q (by decide))
  exact yG_rv rfl ⟨rfl, rfl⟩
set_option maxRecDepth 100000 in
theorem zarrange {F d : Nat} (hF : 8000 ≤ F) : yK F (d + 2) 33 [.ref 185, .ref 31] zfm (fun r m' => r = none ∧ zSame [189, 185] m' ∧ ∃ fs, zat m' 185 = some (.inr (3, fs)) ∧ fs[6]? = some (.int 0) ∧ fs[7]? = some (.int 0)) := by
  refine yK_of (t := tX3_arrange) (N := 100) rfl rfl (by omega) ?_
  refine yG_m 2 (fun _ _ _ => rfl) ?_
  refine yG_cv rfl rfl zfm_185 rfl (zmeasure (by omega)) ?_
  rintro _ _ ⟨rfl, rfl⟩
  refine yG_m 2 (fun _ _ _ => rfl) ?_
  refine yG_gf rfl zfm_31 rfl ?_
  refine yG_cv rfl rfl zfm_185 rfl (zweigh hF) ?_
  rintro _ m1 ⟨rfl, hm⟩
  have g0 := (hm.2 185 rfl).trans zfm_185
  refine yG_m 2 (fun _ _ _ => rfl) ?_
  refine yG_pf rfl g0 (by decide) rfl ?_
  have g1 := zat_eq_set (c' := .inr (3, [.ref 181, .ref 186, .ref 187, .ref 188, .ref 189, .ref 190, .int 0, .int 0, .ref 191, .int 0, .int 0, .int 0, .int 0])) g0
  refine yG_m 2 (fun _ _ _ => rfl) ?_
  refine yG_pf rfl g1 (by decide) rfl ?_
  have g2 := zat_eq_set (c' := .inr (3, [.ref 181, .ref 186, .ref 187, .ref 188, .ref 189, .ref 190, .int 0, .int 0, .ref 191, .int 0, .int 0, .int 0, .int 0])) g1
  have hs : zSame [189, 185] m1 := ⟨hm.1, fun k hk => hm.2 k (by simp only [List.contains_cons, List.contains_nil, Bool.or_false, Bool.or_eq_false_iff] at hk ⊢; exact hk.1)⟩
  refine yG_m 6 (fun _ _ _ => rfl) ?_
  refine yG_gf rfl g2 rfl ?_
  refine yG_gf rfl (((zSame_set (zSame_set hs rfl) rfl).2 181 rfl).trans zfm_181) rfl ?_
  refine yG_gf rfl (((zSame_set (zSame_set hs rfl) rfl).2 2 rfl).trans zfm_2) rfl ?_
  refine yG_ic rfl (fun _ => ?_) (fun q => absurd q (by decide))
  exact yG_rv rfl ⟨rfl, zSame_set (zSame_set hs rfl) rfl, _, g2, rfl, rfl⟩
set_option maxRecDepth 100000 in
theorem zsend_x0 {F d : Nat} (hF : 8000 ≤ F) : yK F (d + 3) 127 [.ref 0, .int 0] zfm (fun r m' => r = some (.int 0) ∧ zSame [189, 185] m') := by
  obtain ⟨fs, h0, f4, f7, f11⟩ := zfm_o
  refine yK_of (t := tX11_send) (N := 100) rfl rfl (by omega) ?_
  refine yG_m 1 (fun _ _ _ => rfl) ?_
  refine yG_if rfl (fun q => absurd q (by decide)) (fun _ => ?_)
  refine yG_m 3 (fun _ _ _ => rfl) ?_
  refine yG_gf rfl h0 f4 ?_
  refine yG_gf rfl zfm_2 rfl ?_
  refine yG_m 1 (fun _ _ _ => rfl) ?_
  refine yG_ic rfl (fun _ => ?_) (fun q => absurd q (by decide))
  refine yG_m 1 (fun _ _ _ => rfl) ?_
  refine yG_gf rfl h0 f11 ?_
  refine yG_m 1 (fun _ _ _ => rfl) ?_
  refine yG_gf rfl h0 f7 ?_
  refine yG_cv rfl rfl zfm_185 rfl (zarrange hF) ?_
  rintro _ m1 ⟨rfl, hm, gs, g0, g6, g7⟩
  have h1 := (hm.2 0 rfl).trans h0
  refine yG_m 1 (fun _ _ _ => rfl) ?_
  refine yG_if rfl (fun q => absurd q (by decide)) (fun _ => ?_)
  refine yG_m 1 (fun _ _ _ => rfl) ?_
  refine yG_gf rfl h1 f11 ?_
  refine yG_gf rfl g0 g6 ?_
  exact yG_ri rfl ⟨rfl, hm⟩
set_option maxRecDepth 100000 in
theorem zsend_x1 {F d : Nat} (hF : 8000 ≤ F) : yK F (d + 3) 127 [.ref 0, .int 1] zfm (fun r m' => r = some (.int 0) ∧ zSame [189, 185] m') := by
  obtain ⟨fs, h0, f4, f7, f11⟩ := zfm_o
  refine yK_of (t := tX11_send) (N := 100) rfl rfl (by omega) ?_
  refine yG_m 1 (fun _ _ _ => rfl) ?_
  refine yG_if rfl (fun q => absurd q (by decide)) (fun _ => ?_)
  refine yG_m 3 (fun _ _ _ => rfl) ?_
  refine yG_gf rfl h0 f4 ?_
  refine yG_gf rfl zfm_2 rfl ?_
  refine yG_m 1 (fun _ _ _ => rfl) ?_
  refine yG_ic rfl (fun _ => ?_) (fun q => absurd q (by decide))
  refine yG_m 1 (fun _ _ _ => rfl) ?_
  refine yG_gf rfl h0 f11 ?_
  refine yG_m 1 (fun _ _ _ => rfl) ?_
  refine yG_gf rfl h0 f7 ?_
  refine yG_cv rfl rfl zfm_185 rfl (zarrange hF) ?_
  rintro _ m1 ⟨rfl, hm, gs, g0, g6, g7⟩
  have h1 := (hm.2 0 rfl).trans h0
  refine yG_m 1 (fun _ _ _ => rfl) ?_
  refine yG_if rfl (fun _ => ?_) (fun q => absurd q (by decide))
  refine yG_m 2 (fun _ _ _ => rfl) ?_
  refine yG_ic rfl (fun q => absurd q (by decide)) (fun _ => ?_)
  refine yG_m 1 (fun _ _ _ => rfl) ?_
  refine yG_gf rfl h1 f11 ?_
  refine yG_gf rfl g0 g7 ?_
  refine yG_m 1 (fun _ _ _ => rfl) ?_
  exact yG_ri rfl ⟨rfl, hm⟩
set_option maxRecDepth 100000 in
theorem zfrom {F d : Nat} {i : Int32} {mem : zM} (hF : 10 ≤ F) : yK F (d + 1) 254 [.int 0, .int i] mem (fun r m' => r = some (.int (512 * 0 + i)) ∧ m' = mem) := by
  refine yK_of (t := tX12_from) (N := 10) rfl rfl hF ?_
  refine yG_m 5 (fun _ _ _ => rfl) ?_
  exact yG_ri rfl ⟨rfl, rfl⟩
set_option maxRecDepth 100000 in
theorem zsends_loop {F d : Nat} (hF : 10 ≤ F) {P : Option Value → zM → Prop} (h : ∀ (i : Int32) (mem : zM), zSame [189, 185, 263] mem → zat mem 263 = some (.inl (0, .inl (List.replicate 3584 0))) → yG F tX12_sends (d + 1) 20 (117, [(1, .int i), (0, .ref 221)], [], mem) P) : ∀ (k : Nat) (i : Int32) (mem : zM), 0 ≤ i.toInt → i.toInt + k = 512 → zSame [189, 185, 263] mem → zat mem 263 = some (.inl (0, .inl (List.replicate 3584 0))) → yG F tX12_sends (d + 1) (23 + 17 * k) (85, [(1, .int i), (0, .ref 221)], [], mem) P := by
  intro k
  obtain ⟨fs, h0, f13, f19, f24, f65⟩ := zfm_p
  induction k with
  | zero =>
    intro i mem i0 i1 hm hz
    refine yG_m (N := 21) 2 (fun _ _ _ => rfl) ?_
    refine yG_ic (N := 20) rfl (fun _ => h i mem hm hz) (fun q => absurd ((z512_t (by omega)).symm.trans q) (by decide))
  | succ k ih =>
    intro i mem i0 i1 hm hz
    have e : (512 : Int32) * 0 + i = i := by simp
    have g0 := (hm.2 221 rfl).trans h0
    refine yG_up (N := (23 + 17 * k) + 2 + 1 + 1 + 1 + 1 + 1 + 1 + 1 + 1 + 1 + 1 + 1 + 1 + 2) (by omega) ?_
    refine yG_m 2 (fun _ _ _ => rfl) ?_
    refine yG_ic rfl (fun q => absurd ((z512_f (by omega)).symm.trans q) (by decide)) (fun _ => ?_)
    refine yG_m 1 (fun _ _ _ => rfl) ?_
    refine yG_gf rfl g0 f65 ?_
    refine yG_m 1 (fun _ _ _ => rfl) ?_
    refine yG_gf rfl g0 f24 ?_
    refine yG_m 1 (fun _ _ _ => rfl) ?_
    refine yG_gf rfl g0 f13 ?_
    refine yG_al rfl ((hm.2 233 rfl).trans zfm_233) (by decide) (by decide) ?_
    refine yG_m 1 (fun _ _ _ => rfl) ?_
    refine yG_cs rfl rfl rfl (zfrom hF) ?_
    rintro _ _ ⟨rfl, rfl⟩
    refine yG_m 1 (fun _ _ _ => rfl) ?_
    refine yG_as (x := 512 * 0 + i) (v := 0) rfl hz (by rw [e]; exact i0) (by rw [e, List.length_replicate]; omega) ?_
    refine yG_m 2 (fun _ _ _ => rfl) ?_
    refine ih (i + 1) _ (by rw [zadd_i (by show _ ≤ i.toInt + 1; omega) (by show i.toInt + 1 ≤ _; omega)]; show 0 ≤ i.toInt + 1; omega) (by rw [zadd_i (by show _ ≤ i.toInt + 1; omega) (by show i.toInt + 1 ≤ _; omega)]; show i.toInt + 1 + _ = 512; omega) (zSame_set hm rfl) ?_
    rw [zrep_set]
    exact zat_eq_set hz
set_option maxRecDepth 100000 in
theorem zsends {F d : Nat} (hF : 10000 ≤ F) {mem : zM} (hm : zSame [189, 185, 263] mem) (hz : zat mem 263 = some (.inl (0, .inl (List.replicate 3584 0)))) : yK F (d + 2) 256 [.ref 221] mem (fun r m' => r = none ∧ zSame [189, 185, 263] m' ∧ zat m' 263 = some (.inl (0, .inl (List.replicate 3584 0)))) := by
  obtain ⟨fs, h0, f13, f19, f24, f65⟩ := zfm_p
  have g0 := (hm.2 221 rfl).trans h0
  refine yK_of (t := tX12_sends) (N := 23 + 17 * 512 + 2 + 1 + 1 + 1 + 1 + 1 + 4) rfl rfl (by omega) ?_
  refine yG_m 4 (fun _ _ _ => rfl) ?_
  refine yG_gf rfl g0 f19 ?_
  refine yG_m 1 (fun _ _ _ => rfl) ?_
  refine yG_gf rfl g0 f13 ?_
  refine yG_al (N := 23 + 17 * 512 + 2 + 1) rfl ((hm.2 228 rfl).trans zfm_228) (by decide) (by decide) ?_
  refine yG_ic rfl (fun _ => ?_) (fun q => absurd q (by decide))
  refine yG_m 2 (fun _ _ _ => rfl) ?_
  refine zsends_loop (by omega) (fun i mem hm hz => ?_) 512 0 mem (by decide) (by decide) hm hz
  have g0 := (hm.2 221 rfl).trans h0
  refine yG_m 1 (fun _ _ _ => rfl) ?_
  refine yG_gf rfl g0 f24 ?_
  refine yG_m 1 (fun _ _ _ => rfl) ?_
  refine yG_gf rfl g0 f13 ?_
  refine yG_al rfl ((hm.2 233 rfl).trans zfm_233) (by decide) (by decide) ?_
  refine yG_m 4 (fun _ _ _ => rfl) ?_
  refine yG_if rfl (fun _ => ?_) (fun q => absurd q (by decide))
  exact yG_rv rfl ⟨rfl, hm, hz⟩
set_option maxRecDepth 100000 in
theorem zis_0 {F d : Nat} {mem : zM} (hF : 100 ≤ F) : yK F (d + 1) 165 [.int 0, .int 0, .int (1 + (List.replicate 2 (0 : Int32)).getD (Int32.toNatClampNeg 0) 0)] mem (fun r m' => r = some (.int 1) ∧ m' = mem) := ⟨_, _, ⟨rfl, rfl⟩, fun _ _ => by
  obtain ⟨k, rfl⟩ : ∃ k, F = k + 100 := ⟨F - 100, by omega⟩
  rfl⟩
set_option maxRecDepth 100000 in
theorem zsend_m0 {F d : Nat} (hF : 10000 ≤ F) {mem : zM} (hm : zSame [189, 185] mem) : yK F (d + 3) 257 [.ref 221, .int 0] mem (fun r m' => r = some (.int 0) ∧ m'.length = 269) := by
  obtain ⟨fs, h0, f13, f19, f24, f65⟩ := zfm_p
  have g0 := (hm.2 221 rfl).trans h0
  have hs : zSame [189, 185, 263] mem := ⟨hm.1, fun k hk => hm.2 k (by simp only [List.contains_cons, List.contains_nil, Bool.or_false, Bool.or_eq_false_iff] at hk ⊢; exact ⟨hk.1, hk.2.1⟩)⟩
  refine yK_of (t := tX12_send) (N := 100) rfl rfl (by omega) ?_
  refine yG_m 4 (fun _ _ _ => rfl) ?_
  refine yG_gf rfl g0 f24 ?_
  refine yG_m 1 (fun _ _ _ => rfl) ?_
  refine yG_gf rfl g0 f13 ?_
  refine yG_al rfl ((hm.2 233 rfl).trans zfm_233) (by decide) (by decide) ?_
  refine yG_m 1 (fun _ _ _ => rfl) ?_
  refine yG_cs rfl rfl rfl (zis_0 (by omega)) ?_
  rintro _ _ ⟨rfl, rfl⟩
  refine yG_if rfl (fun _ => ?_) (fun q => absurd q (by decide))
  refine yG_m 1 (fun _ _ _ => rfl) ?_
  refine yG_cv rfl rfl g0 rfl (zsends hF hs ((hm.2 263 rfl).trans zfm_263)) ?_
  rintro _ m1 ⟨rfl, k1, k2⟩
  have g1 := (k1.2 221 rfl).trans h0
  refine yG_m 1 (fun _ _ _ => rfl) ?_
  refine yG_gf rfl g1 f65 ?_
  refine yG_m 1 (fun _ _ _ => rfl) ?_
  refine yG_al rfl k2 (by decide) (by rw [List.length_replicate]; decide) ?_
  refine yG_m 3 (fun _ _ _ => rfl) ?_
  refine yG_ic rfl (fun q => absurd q (by decide)) (fun _ => ?_)
  refine yG_m 1 (fun _ _ _ => rfl) ?_
  refine yG_if rfl (fun q => absurd q (by decide)) (fun _ => ?_)
  refine yG_m 1 (fun _ _ _ => rfl) ?_
  refine yG_gf rfl g1 f24 ?_
  refine yG_m 1 (fun _ _ _ => rfl) ?_
  refine yG_gf rfl g1 f13 ?_
  refine yG_al rfl ((k1.2 233 rfl).trans zfm_233) (by decide) (by decide) ?_
  refine yG_m 5 (fun _ _ _ => rfl) ?_
  exact yG_ri rfl ⟨rfl, k1.1⟩
theorem zk15_0 : zRes (zboth 127 257 [.int 0]) := by
  obtain ⟨fs, h0, -⟩ := zfm_p
  refine zres_K (yK_mono ?_ (zsend_x0 (d := 9) (by decide)))
  rintro _ m1 ⟨rfl, hm⟩
  exact ⟨0, rfl, ⟨fs, (hm.2 221 rfl).trans h0⟩, zsend_m0 (d := 9) (by decide) hm⟩
set_option maxRecDepth 100000 in
theorem zis_1 {F d : Nat} {mem : zM} (hF : 100 ≤ F) : yK F (d + 1) 165 [.int 1, .int 0, .int (1 + (List.replicate 2 (0 : Int32)).getD (Int32.toNatClampNeg 0) 0)] mem (fun r m' => r = some (.int 1) ∧ m' = mem) := ⟨_, _, ⟨rfl, rfl⟩, fun _ _ => by
  obtain ⟨k, rfl⟩ : ∃ k, F = k + 100 := ⟨F - 100, by omega⟩
  rfl⟩
set_option maxRecDepth 100000 in
theorem zsend_m1 {F d : Nat} (hF : 10000 ≤ F) {mem : zM} (hm : zSame [189, 185] mem) : yK F (d + 3) 257 [.ref 221, .int 1] mem (fun r m' => r = some (.int 0) ∧ m'.length = 269) := by
  obtain ⟨fs, h0, f13, f19, f24, f65⟩ := zfm_p
  have g0 := (hm.2 221 rfl).trans h0
  have hs : zSame [189, 185, 263] mem := ⟨hm.1, fun k hk => hm.2 k (by simp only [List.contains_cons, List.contains_nil, Bool.or_false, Bool.or_eq_false_iff] at hk ⊢; exact ⟨hk.1, hk.2.1⟩)⟩
  refine yK_of (t := tX12_send) (N := 100) rfl rfl (by omega) ?_
  refine yG_m 4 (fun _ _ _ => rfl) ?_
  refine yG_gf rfl g0 f24 ?_
  refine yG_m 1 (fun _ _ _ => rfl) ?_
  refine yG_gf rfl g0 f13 ?_
  refine yG_al rfl ((hm.2 233 rfl).trans zfm_233) (by decide) (by decide) ?_
  refine yG_m 1 (fun _ _ _ => rfl) ?_
  refine yG_cs rfl rfl rfl (zis_1 (by omega)) ?_
  rintro _ _ ⟨rfl, rfl⟩
  refine yG_if rfl (fun _ => ?_) (fun q => absurd q (by decide))
  refine yG_m 1 (fun _ _ _ => rfl) ?_
  refine yG_cv rfl rfl g0 rfl (zsends hF hs ((hm.2 263 rfl).trans zfm_263)) ?_
  rintro _ m1 ⟨rfl, k1, k2⟩
  have g1 := (k1.2 221 rfl).trans h0
  refine yG_m 1 (fun _ _ _ => rfl) ?_
  refine yG_gf rfl g1 f65 ?_
  refine yG_m 1 (fun _ _ _ => rfl) ?_
  refine yG_al rfl k2 (by decide) (by rw [List.length_replicate]; decide) ?_
  refine yG_m 3 (fun _ _ _ => rfl) ?_
  refine yG_ic rfl (fun q => absurd q (by decide)) (fun _ => ?_)
  refine yG_m 1 (fun _ _ _ => rfl) ?_
  refine yG_if rfl (fun _ => ?_) (fun q => absurd q (by decide))
  refine yG_m 3 (fun _ _ _ => rfl) ?_
  exact yG_ri rfl ⟨rfl, k1.1⟩
theorem zk15_1 : zRes (zboth 127 257 [.int 1]) := by
  obtain ⟨fs, h0, -⟩ := zfm_p
  refine zres_K (yK_mono ?_ (zsend_x1 (d := 9) (by decide)))
  rintro _ m1 ⟨rfl, hm⟩
  exact ⟨0, rfl, ⟨fs, (hm.2 221 rfl).trans h0⟩, zsend_m1 (d := 9) (by decide) hm⟩
set_option maxHeartbeats 8000000 in
set_option maxRecDepth 1000000 in
theorem zk_15 (a : Int32) : zRes (zboth 127 257 [.int a]) := by
  by_cases e0 : a = 0
  · subst e0
    exact zk15_0
  have e0 : ¬ a.toInt = 0 := fun q => e0 (Int32.toInt_inj.mp q)
  by_cases e1 : a = 1
  · subst e1
    exact zk15_1
  have e1 : ¬ a.toInt = 1 := fun q => e1 (Int32.toInt_inj.mp q)
  unfold zboth
  repeat' (first
    | (exfalso; omega)
    | (refine z_b2 (fun h => ?_) (fun h => ?_) <;> (first
        | (have h := q_lt_t (w := a) (0) (n := 0) rfl h)
        | (have h := q_lt_f (w := a) (0) (n := 0) rfl h)
        | (have h := q_ge_t (w := a) (0) (n := 0) rfl h)
        | (have h := q_ge_f (w := a) (0) (n := 0) rfl h)
        | (have h := q_gt_t (w := a) (0) (n := 0) rfl h)
        | (have h := q_gt_f (w := a) (0) (n := 0) rfl h)
        | (have h := q_le_t (w := a) (0) (n := 0) rfl h)
        | (have h := q_le_f (w := a) (0) (n := 0) rfl h)
        | (have h := q_eq_t (w := a) (0) (n := 0) rfl h)
        | (have h := q_eq_f (w := a) (0) (n := 0) rfl h)
        | (have h := q_ne_t (w := a) (0) (n := 0) rfl h)
        | (have h := q_ne_f (w := a) (0) (n := 0) rfl h)
        | (have h := q_lt_t (w := a) (1) (n := 1) rfl h)
        | (have h := q_lt_f (w := a) (1) (n := 1) rfl h)
        | (have h := q_ge_t (w := a) (1) (n := 1) rfl h)
        | (have h := q_ge_f (w := a) (1) (n := 1) rfl h)
        | (have h := q_gt_t (w := a) (1) (n := 1) rfl h)
        | (have h := q_gt_f (w := a) (1) (n := 1) rfl h)
        | (have h := q_le_t (w := a) (1) (n := 1) rfl h)
        | (have h := q_le_f (w := a) (1) (n := 1) rfl h)
        | (have h := q_eq_t (w := a) (1) (n := 1) rfl h)
        | (have h := q_eq_f (w := a) (1) (n := 1) rfl h)
        | (have h := q_ne_t (w := a) (1) (n := 1) rfl h)
        | (have h := q_ne_f (w := a) (1) (n := 1) rfl h)
        | (have h := q_lt_t (w := a) (2) (n := 2) rfl h)
        | (have h := q_lt_f (w := a) (2) (n := 2) rfl h)
        | (have h := q_ge_t (w := a) (2) (n := 2) rfl h)
        | (have h := q_ge_f (w := a) (2) (n := 2) rfl h)
        | (have h := q_gt_t (w := a) (2) (n := 2) rfl h)
        | (have h := q_gt_f (w := a) (2) (n := 2) rfl h)
        | (have h := q_le_t (w := a) (2) (n := 2) rfl h)
        | (have h := q_le_f (w := a) (2) (n := 2) rfl h)
        | (have h := q_eq_t (w := a) (2) (n := 2) rfl h)
        | (have h := q_eq_f (w := a) (2) (n := 2) rfl h)
        | (have h := q_ne_t (w := a) (2) (n := 2) rfl h)
        | (have h := q_ne_f (w := a) (2) (n := 2) rfl h)
        ))
    | exact z_leaf rfl)
