/-! telling, quaying, finishes of the model, by what they mean -/
theorem Skp_ex {T : List Int32} {n : Int} : ∀ (f : Nat) (p : Int), p + (f : Int) = n → ∃ b, Skp T n p b := by
  intro f p h
  obtain ⟨q, q1, q2, q3, q4⟩ := Rn_ex (ok := blk) (T := T) (n := n) f p h
  exact ⟨q, q1, q2, q3, q4⟩
theorem Tok_ex {T : List Int32} {n p : Int} (h : p ≤ n) : ∃ t e, Tok T n p t e := by
  obtain ⟨b, S⟩ := Skp_ex (T := T) (n := n) (n - p).toNat p (by omega)
  have s2 := S.2.1
  by_cases e1 : b = n
  · exact ⟨_, _, b, S, Or.inl ⟨e1, rfl, rfl⟩⟩
  · by_cases l : ltr (gn T b)
    · obtain ⟨q, hq⟩ := Rn_ex (ok := ltr) (T := T) (n := n) (n - b).toNat b (by omega)
      by_cases w : tch T p b ∨ 6 < q - b
      · exact ⟨_, _, b, S, Or.inr (Or.inr (Or.inl ⟨by omega, l, q, hq, rfl, Or.inl ⟨w, rfl⟩⟩))⟩
      · exact ⟨_, _, b, S, Or.inr (Or.inr (Or.inl ⟨by omega, l, q, hq, rfl, Or.inr ⟨fun z => w (Or.inl z), by rcases Int.lt_or_le 6 (q - b) with z | z; exact absurd (Or.inr z) w; exact z, rfl⟩⟩))⟩
    · by_cases g : dgt (gn T b)
      · obtain ⟨q, hq⟩ := Rn_ex (ok := dgt) (T := T) (n := n) (n - b).toNat b (by omega)
        by_cases w : tch T p b ∨ 4 < q - b
        · exact ⟨_, _, b, S, Or.inr (Or.inr (Or.inr ⟨by omega, g, q, hq, rfl, Or.inl ⟨w, rfl⟩⟩))⟩
        · exact ⟨_, _, b, S, Or.inr (Or.inr (Or.inr ⟨by omega, g, q, hq, rfl, Or.inr ⟨fun z => w (Or.inl z), by rcases Int.lt_or_le 4 (q - b) with z | z; exact absurd (Or.inr z) w; exact z, rfl⟩⟩))⟩
      · exact ⟨_, _, b, S, Or.inr (Or.inl ⟨by omega, l, g, rfl, rfl⟩)⟩
theorem fin_iff {T : List Int32} {n p b : Int} (h : p ≤ n) (S : Skp T n p b) : (tkf T n p).1.1 = 0 ↔ b = n := by
  obtain ⟨t, e, hT⟩ := Tok_ex (T := T) h
  rw [tkf_e hT]
  obtain ⟨c, S', h⟩ := hT
  have e1 := Skp_u S' S
  subst e1
  show t.1 = 0 ↔ _
  rcases h with ⟨h1, rfl, -⟩ | ⟨h1, -, -, rfl, -⟩ | ⟨h1, -, q, -, -, h⟩ | ⟨h1, -, q, -, -, h⟩
  · exact ⟨fun _ => h1, fun _ => rfl⟩
  · exact ⟨fun w => absurd w (by show ¬ (3 : Int) = 0; decide), fun w => by exfalso; omega⟩
  · rcases h with ⟨-, rfl⟩ | ⟨-, -, rfl⟩
    · exact ⟨fun w => absurd w (by show ¬ (4 : Int) = 0; decide), fun w => by exfalso; omega⟩
    · exact ⟨fun w => absurd w (by show ¬ (1 : Int) = 0; decide), fun w => by exfalso; omega⟩
  · rcases h with ⟨-, rfl⟩ | ⟨-, -, rfl⟩
    · exact ⟨fun w => absurd w (by show ¬ (4 : Int) = 0; decide), fun w => by exfalso; omega⟩
    · exact ⟨fun w => absurd w (by show ¬ (2 : Int) = 0; decide), fun w => by exfalso; omega⟩
section SF
variable (T : List Int32) (n : Int)
/-- the size of a quay -/
noncomputable def sSiz (p : Int) : Option ((Int × Int) × Int) := (sOwn T n 0 p).bind fun p1 => (sNum T n 3 7 p1).bind fun x => (sOwn T n 1 x.2).bind fun p3 => (sNum T n 3 7 p3).map fun y => ((x.1, y.1), y.2)
/-- what ends statement k -/
noncomputable def sFin (k p : Int) : Option Int := (sSgn T n 59 p).bind fun e => oif (¬ (k = 80 ∧ ¬ (tkf T n e).1.1 = 0)) (some e)
end SF
section MW
variable {d : Nat} {mr mem m : zM} {T : List Int32} {n p e : Int} {t : Tk} {s : Option Int} {b : Int} {Q : Qd}
theorem sSiz_pos (p : Int) : (sSiz T n p).map Prod.snd = nuP T n 3 7 ((nuP T n 3 7 ((some p).bind (sOwn T n 0))).bind (sOwn T n 1)) := by
  unfold sSiz nuP
  show _ = (((sOwn T n 0 p).bind _).bind (sOwn T n 1)).bind _
  cases sOwn T n 0 p with
  | none => rfl
  | some p1 =>
    show ((sNum T n 3 7 p1).bind _).map Prod.snd = (((sNum T n 3 7 p1).map Prod.snd).bind (sOwn T n 1)).bind _
    cases sNum T n 3 7 p1 with
    | none => rfl
    | some x =>
      show ((sOwn T n 1 x.2).bind _).map Prod.snd = (sOwn T n 1 x.2).bind _
      cases sOwn T n 1 x.2 with
      | none => rfl
      | some p3 =>
        show ((sNum T n 3 7 p3).map _).map Prod.snd = (sNum T n 3 7 p3).map Prod.snd
        cases sNum T n 3 7 p3 with
        | none => rfl
        | some y => rfl
theorem sSiz_ex {x : (Int × Int) × Int} (h : sSiz T n p = some x) : ∃ p1 a p3, sOwn T n 0 p = some p1 ∧ sNum T n 3 7 p1 = some a ∧ sOwn T n 1 a.2 = some p3 ∧ sNum T n 3 7 p3 = some (x.1.2, x.2) ∧ x.1.1 = a.1 := by
  obtain ⟨p1, h1, R1⟩ := ob_s h
  obtain ⟨a, h2, R2⟩ := ob_s R1
  obtain ⟨p3, h3, R3⟩ := ob_s R2
  obtain ⟨y, h4, R4⟩ := om_s R3
  subst R4
  exact ⟨p1, a, p3, h1, h2, h3, h4, rfl⟩
theorem sFin_no {k : Int} (h : sSgn T n 59 p = none) : sFin T n k p = none := by
  unfold sFin
  rw [h]
  rfl
theorem sFin_ok {k : Int} (h : sSgn T n 59 p = some e) (c : ¬ (k = 80 ∧ ¬ (tkf T n e).1.1 = 0)) : sFin T n k p = sSgn T n 59 p := by
  unfold sFin
  rw [h]
  exact oif_t c
theorem sFin_bad {k : Int} (h : sSgn T n 59 p = some e) (c : k = 80 ∧ ¬ (tkf T n e).1.1 = 0) : sFin T n k p = none := by
  unfold sFin
  rw [h]
  exact oif_f (fun w => w c)
theorem blk_ext {q a x : Int} (hb : ∀ i, q ≤ i → i < a → blk (gn T i)) (h : blk (gn T a)) (hx : x = a + 1) : ∀ i, q ≤ i → i < x → blk (gn T i) := by
  intro i i0 i1
  by_cases w : i = a
  · rw [w]
    exact h
  · exact hb i i0 (by omega)
set_option maxRecDepth 100000 in
theorem w_tellF {d : Nat} {mem : zM} {P : Option Value → zM → Prop} {T : List Int32} {n : Int} {s : Option Int} {lw hg : Int32} (hm : aTm aT0 mem) (hT : tOK mem) (sg : ¬ (gi mem 221 3).toInt = 0) (hS : mS T n s mem) (h1 : ∀ (v3 : Int32) (m1 : zM), aTm aT0 m1 → ((tQ mem m1 ∧ (mS T n (s.bind (cnP T n ((0 : Int) = 0))) m1 ∧ ((v3.toInt = 0 ∧ 1 ≤ (gi m1 221 8).toInt) ∨ (¬ v3.toInt = 0 ∧ (gi m1 221 8).toInt = 0 ∧ (0 : Int) = 0)))) ∧ ((¬ (gi m1 221 8).toInt = 0 ∨ (gi mem 221 8).toInt = 0) ∧ 0 ≤ (gi m1 221 8).toInt ∧ (gi m1 221 34).toInt = (gi mem 221 34).toInt ∧ gn (ga m1 223) (gi m1 221 34).toInt = gn (ga mem 223) (gi mem 221 34).toInt ∧ gn (ga m1 224) (gi m1 221 34).toInt = gn (ga mem 224) (gi mem 221 34).toInt ∧ gn (ga m1 228) (gi m1 221 34).toInt = gn (ga mem 228) (gi mem 221 34).toInt ∧ gn (ga m1 233) (gi m1 221 34).toInt = gn (ga mem 233) (gi mem 221 34).toInt)) → ¬ (v3).toInt = 0 → ∀ (v7 : Int32) (m5 : zM), aTm aT0 m5 → ((tQ m1 m5 ∧ ((¬ (gi m5 221 8).toInt = 0 ∨ (lw.toInt ≤ v7.toInt ∧ v7.toInt ≤ hg.toInt)) ∧ mS T n (nuP T n lw.toInt hg.toInt (s.bind (cnP T n ((0 : Int) = 0)))) m5 ∧ nuV T n lw.toInt hg.toInt (s.bind (cnP T n ((0 : Int) = 0))) v7.toInt)) ∧ ((¬ (gi m5 221 8).toInt = 0 ∨ (gi m1 221 8).toInt = 0) ∧ 0 ≤ (gi m5 221 8).toInt ∧ (gi m5 221 34).toInt = (gi m1 221 34).toInt ∧ gn (ga m5 223) (gi m5 221 34).toInt = gn (ga m1 223) (gi m1 221 34).toInt ∧ gn (ga m5 224) (gi m5 221 34).toInt = gn (ga m1 224) (gi m1 221 34).toInt ∧ gn (ga m5 228) (gi m5 221 34).toInt = gn (ga m1 228) (gi m1 221 34).toInt ∧ gn (ga m5 233) (gi m5 221 34).toInt = gn (ga m1 233) (gi m1 221 34).toInt)) → aTm aT0 m5 → P (some (.int v7)) m5) (h2 : ∀ (v3 : Int32) (m1 : zM), aTm aT0 m1 → ((tQ mem m1 ∧ (mS T n (s.bind (cnP T n ((0 : Int) = 0))) m1 ∧ ((v3.toInt = 0 ∧ 1 ≤ (gi m1 221 8).toInt) ∨ (¬ v3.toInt = 0 ∧ (gi m1 221 8).toInt = 0 ∧ (0 : Int) = 0)))) ∧ ((¬ (gi m1 221 8).toInt = 0 ∨ (gi mem 221 8).toInt = 0) ∧ 0 ≤ (gi m1 221 8).toInt ∧ (gi m1 221 34).toInt = (gi mem 221 34).toInt ∧ gn (ga m1 223) (gi m1 221 34).toInt = gn (ga mem 223) (gi mem 221 34).toInt ∧ gn (ga m1 224) (gi m1 221 34).toInt = gn (ga mem 224) (gi mem 221 34).toInt ∧ gn (ga m1 228) (gi m1 221 34).toInt = gn (ga mem 228) (gi mem 221 34).toInt ∧ gn (ga m1 233) (gi m1 221 34).toInt = gn (ga mem 233) (gi mem 221 34).toInt)) → (v3).toInt = 0 → aTm aT0 m1 → P (some (.int 0)) m1) : yR zpg tX12_telling (d + 4) (0, [(0, .ref 221), (1, .int lw), (2, .int hg)], [], mem) P := by
  refine yR_m 2 (fun _ _ _ _ => rfl) ?_
  refine wR_cv rfl rfl mO_e hm rfl (pk_i (h_cy (b8 := (gi mem 221 8).toInt) rfl rfl rfl rfl rfl rfl rfl (fun _ _ q => by obtain ⟨_, _, _, q⟩ := q; exact q.1) (h_cnS (T := T) (n := n) (ci := (0 : Int)) rfl hm hT sg hS (by omega)))) ?_
  rintro _ m1 ⟨v3, rfl, hm1, k2⟩
  show yR zpg tX12_telling (d + 4) (5, [(0, .ref 221), (1, .int lw), (2, .int hg)], [.int v3], m1) _
  refine wR_if_ne rfl (a := (v3).toInt) rfl (fun q4 => ?_) (fun q4 => ?_)
  ·
    refine yR_m 3 (fun _ _ _ _ => rfl) ?_
    refine wR_cv rfl rfl mO_e hm1 rfl (pk_i (h_cy (b8 := (gi m1 221 8).toInt) rfl rfl rfl rfl rfl rfl rfl (fun _ _ q => by obtain ⟨_, _, _, q⟩ := q; exact q.1) (h_numS5 (T := T) (n := n) (ai := lw.toInt) (bi := hg.toInt) rfl rfl hm1 k2.1.1.2.1 k2.1.2.1 (by omega)))) ?_
    rintro _ m5 ⟨v7, rfl, hm5, k6⟩
    show yR zpg tX12_telling (d + 4) (16, [(0, .ref 221), (1, .int lw), (2, .int hg)], [.int v7], m5) _
    exact yR_ri rfl (h1 v3 m1 hm1 k2 q4 v7 m5 hm5 k6 hm5)
  ·
    refine yR_m 1 (fun _ _ _ _ => rfl) ?_
    exact yR_ri rfl (h2 v3 m1 hm1 k2 q4 hm1)

theorem h_telF {lw hg : Int32} (hm : aTm aT0 mem) (hT : tOK mem) (sg : ¬ (gi mem 221 3).toInt = 0) (hS : mS T n s mem) (hs : s = some p) (hd : 5 ≤ d) : yC zpg d 198 [.ref 221, .int lw, .int hg] mem (fun r m => ∃ v : Int32, r = some (.int v) ∧ (mS T n (nuP T n lw.toInt hg.toInt (some (tkf T n p).2)) m ∧ nuV T n lw.toInt hg.toInt (some (tkf T n p).2) v.toInt)) := by
  obtain ⟨d, rfl⟩ : ∃ q, d = q + 5 := ⟨d - 5, by omega⟩
  have E1 := cn_s (T := T) (n := n) (c := ((0 : Int) = 0)) hs rfl
  refine yC_of (t := tX12_telling) rfl rfl ?_
  exact w_tellF (T := T) (n := n) (s := s) hm hT sg hS
        (fun v3 m1 hm1 k2 q4 v7 m5 hm5 k6 hm2 => by
          have K := k6.1.2.2.1
          have V := k6.1.2.2.2
          rw [E1] at K V
          exact ⟨_, rfl, K, V⟩)
        (fun v3 m1 hm1 k2 q4 hm2 => by
          have K1 := k2.1.2.1
          rw [E1] at K1
          exfalso
          rcases K1 with ⟨q, -, w, -⟩ | ⟨w, -⟩
          · have w2 : (gi m1 221 8).toInt = 0 := w
            omega
          · cases w)
set_option maxRecDepth 100000 in
theorem w_quayF {d : Nat} {mem : zM} {P : Option Value → zM → Prop} {T : List Int32} {n : Int} {s : Option Int} (hm : aTm aT0 mem) (hT : tOK mem) (hS : mS T n s mem) (h1 : ∀ (m1 : zM), aTm aT0 m1 → ((tQ mem m1 ∧ mS T n (s.bind (sOwn T n 0)) m1) ∧ ((¬ (gi m1 221 8).toInt = 0 ∨ (gi mem 221 8).toInt = 0) ∧ 0 ≤ (gi m1 221 8).toInt ∧ (gi m1 221 34).toInt = (gi mem 221 34).toInt ∧ gn (ga m1 223) (gi m1 221 34).toInt = gn (ga mem 223) (gi mem 221 34).toInt ∧ gn (ga m1 224) (gi m1 221 34).toInt = gn (ga mem 224) (gi mem 221 34).toInt ∧ gn (ga m1 228) (gi m1 221 34).toInt = gn (ga mem 228) (gi mem 221 34).toInt ∧ gn (ga m1 233) (gi m1 221 34).toInt = gn (ga mem 233) (gi mem 221 34).toInt)) → ∀ (v5 : Int32) (m3 : zM), aTm aT0 m3 → ((tQ m1 m3 ∧ ((¬ (gi m3 221 8).toInt = 0 ∨ ((3 : Int) ≤ v5.toInt ∧ v5.toInt ≤ 7)) ∧ mS T n (nuP T n (3 : Int) 7 (s.bind (sOwn T n 0))) m3 ∧ nuV T n (3 : Int) 7 (s.bind (sOwn T n 0)) v5.toInt)) ∧ ((¬ (gi m3 221 8).toInt = 0 ∨ (gi m1 221 8).toInt = 0) ∧ 0 ≤ (gi m3 221 8).toInt ∧ (gi m3 221 34).toInt = (gi m1 221 34).toInt ∧ gn (ga m3 223) (gi m3 221 34).toInt = gn (ga m1 223) (gi m1 221 34).toInt ∧ gn (ga m3 224) (gi m3 221 34).toInt = gn (ga m1 224) (gi m1 221 34).toInt ∧ gn (ga m3 228) (gi m3 221 34).toInt = gn (ga m1 228) (gi m1 221 34).toInt ∧ gn (ga m3 233) (gi m3 221 34).toInt = gn (ga m1 233) (gi m1 221 34).toInt)) → ∀ (m6 : zM), aTm aT0 m6 → ((tQ (sx m3 223 (gi m1 221 34) v5) m6 ∧ mS T n ((nuP T n (3 : Int) 7 (s.bind (sOwn T n 0))).bind (sOwn T n 1)) m6) ∧ ((¬ (gi m6 221 8).toInt = 0 ∨ (gi m3 221 8).toInt = 0) ∧ 0 ≤ (gi m6 221 8).toInt ∧ (gi m6 221 34).toInt = (gi m3 221 34).toInt ∧ gn (ga m6 223) (gi m6 221 34).toInt = gn ((ga m3 223).set (gi m1 221 34).toNatClampNeg v5) (gi m3 221 34).toInt ∧ gn (ga m6 224) (gi m6 221 34).toInt = gn (ga m3 224) (gi m3 221 34).toInt ∧ gn (ga m6 228) (gi m6 221 34).toInt = gn (ga m3 228) (gi m3 221 34).toInt ∧ gn (ga m6 233) (gi m6 221 34).toInt = gn (ga m3 233) (gi m3 221 34).toInt)) → ∀ (v10 : Int32) (m8 : zM), aTm aT0 m8 → ((tQ m6 m8 ∧ ((¬ (gi m8 221 8).toInt = 0 ∨ ((3 : Int) ≤ v10.toInt ∧ v10.toInt ≤ 7)) ∧ mS T n (nuP T n (3 : Int) 7 ((nuP T n (3 : Int) 7 (s.bind (sOwn T n 0))).bind (sOwn T n 1))) m8 ∧ nuV T n (3 : Int) 7 ((nuP T n (3 : Int) 7 (s.bind (sOwn T n 0))).bind (sOwn T n 1)) v10.toInt)) ∧ ((¬ (gi m8 221 8).toInt = 0 ∨ (gi m6 221 8).toInt = 0) ∧ 0 ≤ (gi m8 221 8).toInt ∧ (gi m8 221 34).toInt = (gi m6 221 34).toInt ∧ gn (ga m8 223) (gi m8 221 34).toInt = gn (ga m6 223) (gi m6 221 34).toInt ∧ gn (ga m8 224) (gi m8 221 34).toInt = gn (ga m6 224) (gi m6 221 34).toInt ∧ gn (ga m8 228) (gi m8 221 34).toInt = gn (ga m6 228) (gi m6 221 34).toInt ∧ gn (ga m8 233) (gi m8 221 34).toInt = gn (ga m6 233) (gi m6 221 34).toInt)) → aTm aT0 (sx m8 224 (gi m6 221 34) v10) → P none (sx m8 224 (gi m6 221 34) v10)) : yR zpg tX12_quaying (d + 4) (0, [(0, .ref 221)], [], mem) P := by
  obtain ⟨i0, i1⟩ := mO_r34 hm
  refine yR_m 2 (fun _ _ _ _ => rfl) ?_
  refine wR_cv rfl rfl mO_e hm rfl (pk_v (h_cy (b8 := (gi mem 221 8).toInt) rfl rfl rfl rfl rfl rfl rfl (fun _ _ q => q.2.2.1) (h_mustWS (T := T) (n := n) (k := 0) (by decide) (by decide) hm hT hS (by omega)))) ?_
  rintro _ m1 ⟨rfl, hI1, k2⟩
  show yR zpg tX12_quaying (d + 4) (7, [(0, .ref 221)], [], m1) _
  refine yR_m 1 (fun _ _ _ _ => rfl) ?_
  refine wR_gr rfl mO_e mO_14 hI1 ?_
  refine yR_m 1 (fun _ _ _ _ => rfl) ?_
  refine wR_gi rfl mO_e mO_34 hI1 rfl ?_
  refine yR_m 3 (fun _ _ _ _ => rfl) ?_
  refine wR_cv rfl rfl mO_e hI1 rfl (pk_i (h_cy (b8 := (gi m1 221 8).toInt) rfl rfl rfl rfl rfl rfl rfl (fun _ _ q => by obtain ⟨_, _, _, q⟩ := q; exact q.1) (h_numS5 (T := T) (n := n) (ai := (3 : Int)) (bi := 7) rfl rfl hI1 k2.1.1.2.1 k2.1.2 (by omega)))) ?_
  rintro _ m3 ⟨v5, rfl, hm3, k4⟩
  show yR zpg tX12_quaying (d + 4) (22, [(0, .ref 221)], [.int v5, .int (gi m1 221 34), .ref 223], m3) _
  refine wN_as (a := (gi m1 221 34).toInt) rfl aR_223 hm3 rfl (by omega) ?_
  have hm_1 : aTm aT0 (sx m3 223 (gi m1 221 34) v5) := tm_sa aR_223 hm3 (i32_b _)
  refine yR_m 2 (fun _ _ _ _ => rfl) ?_
  refine wR_cv rfl rfl mO_e hm_1 rfl (pk_v (h_cy (b8 := (gi m3 221 8).toInt) rfl (gi_sa) (gi_sa) (ga_sa_eq) ((ga_sa_ne (by decide))) ((ga_sa_ne (by decide))) ((ga_sa_ne (by decide))) (fun _ _ q => q.2.2.1) (h_mustWS (T := T) (n := n) (k := 1) (by decide) (by decide) hm_1 (tOK_fr (ks := [223, 224, 225, 226, 227, 228, 229, 230, 231, 232, 233, 234, 235, 236, 237, 240, 241]) (is := [8, 9]) (fr_sa rfl (fr_rf)) rfl rfl rfl rfl (by show 0 ≤ (gi (sx m3 223 (gi m1 221 34) v5) 221 8).toInt; rw [(gi_sa)]; exact k4.1.1.2.1.2) k4.1.1.2.1) (mS_sa (by decide) k4.1.2.2.1) (by omega)))) ?_
  rintro _ m6 ⟨rfl, hI6, k7⟩
  show yR zpg tX12_quaying (d + 4) (30, [(0, .ref 221)], [], m6) _
  refine yR_m 1 (fun _ _ _ _ => rfl) ?_
  refine wR_gr rfl mO_e mO_15 hI6 ?_
  refine yR_m 1 (fun _ _ _ _ => rfl) ?_
  refine wR_gi rfl mO_e mO_34 hI6 rfl ?_
  refine yR_m 3 (fun _ _ _ _ => rfl) ?_
  refine wR_cv rfl rfl mO_e hI6 rfl (pk_i (h_cy (b8 := (gi m6 221 8).toInt) rfl rfl rfl rfl rfl rfl rfl (fun _ _ q => by obtain ⟨_, _, _, q⟩ := q; exact q.1) (h_numS5 (T := T) (n := n) (ai := (3 : Int)) (bi := 7) rfl rfl hI6 k7.1.1.2.1 k7.1.2 (by omega)))) ?_
  rintro _ m8 ⟨v10, rfl, hm8, k9⟩
  show yR zpg tX12_quaying (d + 4) (45, [(0, .ref 221)], [.int v10, .int (gi m6 221 34), .ref 224], m8) _
  refine wN_as (a := (gi m6 221 34).toInt) rfl aR_224 hm8 rfl (by omega) ?_
  have hm_2 : aTm aT0 (sx m8 224 (gi m6 221 34) v10) := tm_sa aR_224 hm8 (i32_b _)
  exact yR_rv rfl (h1 m1 hI1 k2 v5 m3 hm3 k4 m6 hI6 k7 v10 m8 hm8 k9 hm_2)

theorem h_quaF (hm : aTm aT0 mem) (hT : tOK mem) (hS : mS T n (some p) mem) (hb : (gi mem 221 34).toInt = b) (hd : 5 ≤ d) : yC zpg d 197 [.ref 221] mem (fun r m => (∃ x, sSiz T n p = some x ∧ fk m = 0 ∧ mRd T n x.2 m ∧ gn (ga m 223) b = x.1.1 ∧ gn (ga m 224) b = x.1.2) ∨ (sSiz T n p = none ∧ 1 ≤ fk m)) := by
  obtain ⟨d, rfl⟩ : ∃ q, d = q + 5 := ⟨d - 5, by omega⟩
  obtain ⟨i0, i1⟩ := mO_r34 hm
  refine yC_of (t := tX12_quaying) rfl rfl ?_
  exact w_quayF (T := T) (n := n) (s := some p) hm hT hS
        (fun m1 hI1 k2 v5 m3 hm3 k4 m6 hI6 k7 v10 m8 hm8 k9 hm2 => by
          have K8 := k9.1.2.2.1
          rw [← sSiz_pos] at K8
          rcases K8 with ⟨q, hq, f0, r0⟩ | ⟨hq, f1⟩
          · obtain ⟨x, hx, ex⟩ := om_s hq
            obtain ⟨p1, a, p3, h1, h2, h3, h4, h5⟩ := sSiz_ex hx
            have V1 := k4.1.2.2.2 p1 a h1 h2
            have e3 : (nuP T n (3 : Int) 7 ((some p).bind (sOwn T n 0))).bind (sOwn T n 1) = some p3 := by
              unfold nuP
              show ((sOwn T n 0 p).bind _).bind _ = _
              rw [h1]
              show ((sNum T n 3 7 p1).map Prod.snd).bind _ = _
              rw [h2]
              exact h3
            have V2 := k9.1.2.2.2 p3 _ e3 h4
            have G1 : ga (sx m8 224 (gi m6 221 34) v10) 223 = (ga m3 223).set (gi m1 221 34).toNatClampNeg v5 := (ga_sa_ne (by decide)).trans ((fr_ga k9.1.1.1 (by decide) rfl).trans ((fr_ga k7.1.1.1 (by decide) rfl).trans ga_sa_eq))
            have G2 : ga (sx m8 224 (gi m6 221 34) v10) 224 = (ga m8 224).set (gi m6 221 34).toNatClampNeg v10 := ga_sa_eq
            have l1 := gl_223 hm3
            have l2 := gl_224 hm8
            refine Or.inl ⟨x, hx, by show (gi _ 221 8).toInt = 0; rw [gi_sa]; exact f0, mRd_sa (by decide) (by rw [ex]; exact r0), ?_, ?_⟩
            · rw [G1, gn_set (a := b) (by omega) (by omega) (by omega) (by omega), if_pos rfl]
              omega
            · rw [G2, gn_set (a := b) (by omega) (by omega) (by omega) (by omega), if_pos rfl]
              exact V2
          · exact Or.inr ⟨mp_none hq, by show 1 ≤ (gi _ 221 8).toInt; rw [gi_sa]; exact f1⟩)
set_option maxRecDepth 100000 in
theorem w_fiF_53 {d : Nat} {mem : zM} {P : Option Value → zM → Prop} {T : List Int32} {n : Int} {s : Option Int} {k a : Int32} {lo : List (Nat × Value)} (hm : aTm aT0 mem) (l_0 : zlg lo 0 = some (.ref 221)) (l_1 : zlg lo 1 = some (.int k)) (l_2 : zlg lo 2 = some (.int a)) (hT : tOK mem) (hS : mS T n s mem) (h1 : ∀ (v1 : Int32), ((v1.toInt = 0 ∧ ¬ ((gi mem 221 3).toInt = 3 ∧ (gi mem 221 6).toInt = 59)) ∨ (v1.toInt = 1 ∧ (gi mem 221 3).toInt = 3 ∧ (gi mem 221 6).toInt = 59)) → (v1).toInt = 0 → ∀ (m4 : zM), aTm aT0 m4 → ((tQ mem m4 ∧ mS T n (s.bind (sSgn T n 59)) m4) ∧ ((¬ (gi m4 221 8).toInt = 0 ∨ (gi mem 221 8).toInt = 0) ∧ 0 ≤ (gi m4 221 8).toInt ∧ (gi m4 221 34).toInt = (gi mem 221 34).toInt ∧ gn (ga m4 223) (gi m4 221 34).toInt = gn (ga mem 223) (gi mem 221 34).toInt ∧ gn (ga m4 224) (gi m4 221 34).toInt = gn (ga mem 224) (gi mem 221 34).toInt ∧ gn (ga m4 228) (gi m4 221 34).toInt = gn (ga mem 228) (gi mem 221 34).toInt ∧ gn (ga m4 233) (gi m4 221 34).toInt = gn (ga mem 233) (gi mem 221 34).toInt)) → aTm aT0 m4 → P none m4) (h2 : ∀ (v1 : Int32), ((v1.toInt = 0 ∧ ¬ ((gi mem 221 3).toInt = 3 ∧ (gi mem 221 6).toInt = 59)) ∨ (v1.toInt = 1 ∧ (gi mem 221 3).toInt = 3 ∧ (gi mem 221 6).toInt = 59)) → ¬ (v1).toInt = 0 → ¬ (k).toInt = 80 → ∀ (m7 : zM), aTm aT0 m7 → ((tQ mem m7 ∧ mS T n (s.bind (sSgn T n 59)) m7) ∧ ((¬ (gi m7 221 8).toInt = 0 ∨ (gi mem 221 8).toInt = 0) ∧ 0 ≤ (gi m7 221 8).toInt ∧ (gi m7 221 34).toInt = (gi mem 221 34).toInt ∧ gn (ga m7 223) (gi m7 221 34).toInt = gn (ga mem 223) (gi mem 221 34).toInt ∧ gn (ga m7 224) (gi m7 221 34).toInt = gn (ga mem 224) (gi mem 221 34).toInt ∧ gn (ga m7 228) (gi m7 221 34).toInt = gn (ga mem 228) (gi mem 221 34).toInt ∧ gn (ga m7 233) (gi m7 221 34).toInt = gn (ga mem 233) (gi mem 221 34).toInt)) → aTm aT0 m7 → P none m7) (h3 : ∀ (v1 : Int32), ((v1.toInt = 0 ∧ ¬ ((gi mem 221 3).toInt = 3 ∧ (gi mem 221 6).toInt = 59)) ∨ (v1.toInt = 1 ∧ (gi mem 221 3).toInt = 3 ∧ (gi mem 221 6).toInt = 59)) → ¬ (v1).toInt = 0 → (k).toInt = 80 → (gi mem 221 2).toInt ≤ (a).toInt → ∀ (m10 : zM), aTm aT0 m10 → ((tQ mem m10 ∧ mS T n (s.bind (sSgn T n 59)) m10) ∧ ((¬ (gi m10 221 8).toInt = 0 ∨ (gi mem 221 8).toInt = 0) ∧ 0 ≤ (gi m10 221 8).toInt ∧ (gi m10 221 34).toInt = (gi mem 221 34).toInt ∧ gn (ga m10 223) (gi m10 221 34).toInt = gn (ga mem 223) (gi mem 221 34).toInt ∧ gn (ga m10 224) (gi m10 221 34).toInt = gn (ga mem 224) (gi mem 221 34).toInt ∧ gn (ga m10 228) (gi m10 221 34).toInt = gn (ga mem 228) (gi mem 221 34).toInt ∧ gn (ga m10 233) (gi m10 221 34).toInt = gn (ga mem 233) (gi mem 221 34).toInt)) → aTm aT0 m10 → P none m10) (h4 : ∀ (v1 : Int32), ((v1.toInt = 0 ∧ ¬ ((gi mem 221 3).toInt = 3 ∧ (gi mem 221 6).toInt = 59)) ∨ (v1.toInt = 1 ∧ (gi mem 221 3).toInt = 3 ∧ (gi mem 221 6).toInt = 59)) → ¬ (v1).toInt = 0 → (k).toInt = 80 → (a).toInt < (gi mem 221 2).toInt → (gi mem 221 8).toInt ≤ 0 → ∀ (m13 : zM), aTm aT0 m13 → ((tQ (si (si mem 221 8 6) 221 9 a) m13 ∧ mS T n ((none : Option Int).bind (sSgn T n 59)) m13) ∧ ((¬ (gi m13 221 8).toInt = 0 ∨ (6 : Int) = 0) ∧ 0 ≤ (gi m13 221 8).toInt ∧ (gi m13 221 34).toInt = (gi mem 221 34).toInt ∧ gn (ga m13 223) (gi m13 221 34).toInt = gn (ga mem 223) (gi mem 221 34).toInt ∧ gn (ga m13 224) (gi m13 221 34).toInt = gn (ga mem 224) (gi mem 221 34).toInt ∧ gn (ga m13 228) (gi m13 221 34).toInt = gn (ga mem 228) (gi mem 221 34).toInt ∧ gn (ga m13 233) (gi m13 221 34).toInt = gn (ga mem 233) (gi mem 221 34).toInt)) → aTm aT0 m13 → P none m13) (h5 : ∀ (v1 : Int32), ((v1.toInt = 0 ∧ ¬ ((gi mem 221 3).toInt = 3 ∧ (gi mem 221 6).toInt = 59)) ∨ (v1.toInt = 1 ∧ (gi mem 221 3).toInt = 3 ∧ (gi mem 221 6).toInt = 59)) → ¬ (v1).toInt = 0 → (k).toInt = 80 → (a).toInt < (gi mem 221 2).toInt → 0 < (gi mem 221 8).toInt → ∀ (m15 : zM), aTm aT0 m15 → ((tQ mem m15 ∧ mS T n (s.bind (sSgn T n 59)) m15) ∧ ((¬ (gi m15 221 8).toInt = 0 ∨ (gi mem 221 8).toInt = 0) ∧ 0 ≤ (gi m15 221 8).toInt ∧ (gi m15 221 34).toInt = (gi mem 221 34).toInt ∧ gn (ga m15 223) (gi m15 221 34).toInt = gn (ga mem 223) (gi mem 221 34).toInt ∧ gn (ga m15 224) (gi m15 221 34).toInt = gn (ga mem 224) (gi mem 221 34).toInt ∧ gn (ga m15 228) (gi m15 221 34).toInt = gn (ga mem 228) (gi mem 221 34).toInt ∧ gn (ga m15 233) (gi m15 221 34).toInt = gn (ga mem 233) (gi mem 221 34).toInt)) → aTm aT0 m15 → P none m15) : yR zpg tX12_finishes (d + 5) (53, lo, [], mem) P := by
  refine wR_la rfl l_0 ?_
  refine yR_m 1 (fun _ _ _ _ => rfl) ?_
  refine wR_cv rfl rfl mO_e hm rfl (c_isSign2 hm rfl rfl (by omega)) ?_
  rintro _ _ ⟨v1, rfl, rfl, k2⟩
  show yR zpg tX12_finishes (d + 5) (59, lo, [.int v1], mem) _
  refine wR_if_eq rfl (a := (v1).toInt) rfl (fun q3 => ?_) (fun q3 => ?_)
  ·
    refine wR_la rfl l_0 ?_
    refine yR_m 1 (fun _ _ _ _ => rfl) ?_
    refine wR_cv rfl rfl mO_e hm rfl (pk_v (h_cy (b8 := (gi mem 221 8).toInt) rfl rfl rfl rfl rfl rfl rfl (fun _ _ q => q.2.2.1) (h_mustS (T := T) (n := n) (s := s) hm hT hS (by omega)))) ?_
    rintro _ m4 ⟨rfl, hI4, k5⟩
    show yR zpg tX12_finishes (d + 5) (89, lo, [], m4) _
    exact yR_rv rfl (h1 v1 k2 q3 m4 hI4 k5 hI4)
  ·
    refine wR_li rfl l_1 ?_
    refine yR_m 1 (fun _ _ _ _ => rfl) ?_
    refine wR_ic_ne rfl (a := (k).toInt) (c := 80) rfl rfl (fun q6 => ?_) (fun q6 => ?_)
    ·
      refine wR_la rfl l_0 ?_
      refine yR_m 1 (fun _ _ _ _ => rfl) ?_
      refine wR_cv rfl rfl mO_e hm rfl (pk_v (h_cy (b8 := (gi mem 221 8).toInt) rfl rfl rfl rfl rfl rfl rfl (fun _ _ q => q.2.2.1) (h_mustS (T := T) (n := n) (s := s) hm hT hS (by omega)))) ?_
      rintro _ m7 ⟨rfl, hI7, k8⟩
      show yR zpg tX12_finishes (d + 5) (89, lo, [], m7) _
      exact yR_rv rfl (h2 v1 k2 q3 q6 m7 hI7 k8 hI7)
    ·
      refine wR_li rfl l_2 ?_
      refine wR_la rfl l_0 ?_
      refine wR_gi rfl mO_e mO_2 hm rfl ?_
      refine wR_ic_ge rfl (a := (a).toInt) (c := (gi mem 221 2).toInt) rfl rfl (fun q9 => ?_) (fun q9 => ?_)
      ·
        refine wR_la rfl l_0 ?_
        refine yR_m 1 (fun _ _ _ _ => rfl) ?_
        refine wR_cv rfl rfl mO_e hm rfl (pk_v (h_cy (b8 := (gi mem 221 8).toInt) rfl rfl rfl rfl rfl rfl rfl (fun _ _ q => q.2.2.1) (h_mustS (T := T) (n := n) (s := s) hm hT hS (by omega)))) ?_
        rintro _ m10 ⟨rfl, hI10, k11⟩
        show yR zpg tX12_finishes (d + 5) (89, lo, [], m10) _
        exact yR_rv rfl (h3 v1 k2 q3 q6 q9 m10 hI10 k11 hI10)
      ·
        refine wR_la rfl l_0 ?_
        refine yR_m 1 (fun _ _ _ _ => rfl) ?_
        refine wR_li rfl l_2 ?_
        refine wR_iv rfl rfl mO_e hm rfl rfl rfl rfl ?_
        show yR zpg tX12_blame (d + 4) (0, [(0, .ref 221), (1, .int 6), (2, .int a)], [], mem) _
        refine yR_m 1 (fun _ _ _ _ => rfl) ?_
        refine wR_gi rfl mO_e mO_8 hm rfl ?_
        refine wR_if_le rfl (a := (gi mem 221 8).toInt) rfl (fun q12 => ?_) (fun q12 => ?_)
        ·
          refine yR_m 2 (fun _ _ _ _ => rfl) ?_
          refine wR_pi rfl mO_e mO_8 hm rfl ?_
          have hm_1 : aTm aT0 (si mem 221 8 6) := tm_si mO_e mO_8 hm (i32_b _)
          refine yR_m 2 (fun _ _ _ _ => rfl) ?_
          refine wR_pi rfl mO_e mO_9 hm_1 rfl ?_
          have hm_2 : aTm aT0 (si (si mem 221 8 6) 221 9 a) := tm_si mO_e mO_9 hm_1 (i32_b _)
          refine yR_rv rfl ?_
          show yR zpg tX12_finishes (d + 5) (83, lo, [], (si (si mem 221 8 6) 221 9 a)) _
          refine wR_la rfl l_0 ?_
          refine yR_m 1 (fun _ _ _ _ => rfl) ?_
          refine wR_cv rfl rfl mO_e hm_2 rfl (pk_v (h_cy (b8 := (6 : Int)) rfl ((gi_sv_ne (by decide)).trans (gi_sv_ne (by decide))) ((gi_sv_ne (by decide)).trans (gi_si_eq mO_e mO_8 hm)) (((ga_sv).trans (ga_sv))) (((ga_sv).trans (ga_sv))) (((ga_sv).trans (ga_sv))) (((ga_sv).trans (ga_sv))) (fun _ _ q => q.2.2.1) (h_mustS (T := T) (n := n) (s := none) hm_2 (tOK_fr (ks := [223, 224, 225, 226, 227, 228, 229, 230, 231, 232, 233, 234, 235, 236, 237, 240, 241]) (is := [8, 9]) (fr_sv rfl (fr_sv rfl (fr_rf))) rfl rfl rfl rfl (by show 0 ≤ (gi (si (si mem 221 8 6) 221 9 a) 221 8).toInt; rw [((gi_sv_ne (by decide)).trans (gi_eqO (isO_of hm) (by decide)))]; decide) hT) (mS_no (by show 1 ≤ (gi _ 221 8).toInt; rw [((gi_sv_ne (by decide)).trans (gi_eqO (isO_of hm) (by decide)))]; decide) rfl) (by omega)))) ?_
          rintro _ m13 ⟨rfl, hI13, k14⟩
          show yR zpg tX12_finishes (d + 5) (89, lo, [], m13) _
          exact yR_rv rfl (h4 v1 k2 q3 q6 q9 q12 m13 hI13 k14 hI13)
        ·
          refine yR_rv rfl ?_
          show yR zpg tX12_finishes (d + 5) (83, lo, [], mem) _
          refine wR_la rfl l_0 ?_
          refine yR_m 1 (fun _ _ _ _ => rfl) ?_
          refine wR_cv rfl rfl mO_e hm rfl (pk_v (h_cy (b8 := (gi mem 221 8).toInt) rfl rfl rfl rfl rfl rfl rfl (fun _ _ q => q.2.2.1) (h_mustS (T := T) (n := n) (s := s) hm hT hS (by omega)))) ?_
          rintro _ m15 ⟨rfl, hI15, k16⟩
          show yR zpg tX12_finishes (d + 5) (89, lo, [], m15) _
          exact yR_rv rfl (h5 v1 k2 q3 q6 q9 q12 m15 hI15 k16 hI15)

theorem fiF_53 {k a : Int32} {lo : List (Nat × Value)} (hm : aTm aT0 mem) (hT : tOK mem) (hS : mS T n (some p) mem) (hx : (gi mem 221 12).toInt = -1) (h8 : (gi mem 221 8).toInt = 0) (hN : (gi mem 221 2).toInt = n) (S : Skp T n (gi mem 221 5).toInt a.toInt) (a0 : zlg lo 0 = some (.ref 221)) (a1 : zlg lo 1 = some (.int k)) (a2 : zlg lo 2 = some (.int a)) : yR zpg tX12_finishes (d + 5) (53, lo, [], mem) (fun r m => mS T n (sFin T n k.toInt p) m) := by
  have hS0 := hS
  obtain ⟨t, e, hR⟩ : ∃ t e, mR T n p t e mem := by
    rcases hS with ⟨q, eq, -, h⟩ | ⟨h, -⟩
    · cases eq
      exact h
    · cases h
  have L := Tok_last hR.2.1 hR.1.2.2
  have I := msg_iff (c := 59) hR.2.2.2 hx
  have ss : sSgn T n 59 p = oif (t.1 = 3 ∧ t.2.1 = 59) (some e) := by
    unfold sSgn
    rw [tkf_e hR.2.1]
  have fi := fin_iff (T := T) (n := n) (by rw [hR.2.2.1]; exact L.2.2.2.2) S
  rw [hR.2.2.1] at fi
  have s2 := S.2.1
  exact w_fiF_53 (T := T) (n := n) (s := some p) hm a0 a1 a2 hT hS0
        (fun v1 k2 q3 m4 hI4 k5 hm2 => by
          have Z : sSgn T n 59 p = none := by
            rw [ss]
            refine oif_f (fun w => ?_)
            have := I.2 w
            omega
          have K := k5.1.2
          rw [show (some p).bind (sSgn T n 59) = none from Z] at K
          show mS T n (sFin T n k.toInt p) _
          rw [sFin_no Z]
          exact K)
        (fun v1 k2 q3 q6 m7 hI7 k8 hm2 => by
          have Z : sSgn T n 59 p = some e := by
            rw [ss]
            refine oif_t (I.1 ?_)
            omega
          have K := k8.1.2
          show mS T n (sFin T n k.toInt p) _
          rw [sFin_ok Z (fun w => absurd w.1 (by assumption))]
          exact K)
        (fun v1 k2 q3 q6 q9 m10 hI10 k11 hm2 => by
          have Z : sSgn T n 59 p = some e := by
            rw [ss]
            refine oif_t (I.1 ?_)
            omega
          have K := k11.1.2
          show mS T n (sFin T n k.toInt p) _
          rw [sFin_ok Z (fun w => w.2 (fi.2 (by omega)))]
          exact K)
        (fun v1 k2 q3 q6 q9 q12 m13 hI13 k14 hm2 => by
          have Z : sSgn T n 59 p = some e := by
            rw [ss]
            refine oif_t (I.1 ?_)
            omega
          have K := k14.1.2
          show mS T n (sFin T n k.toInt p) _
          rw [sFin_bad Z ⟨by assumption, fun w => by have := fi.1 w; omega⟩]
          exact K)
        (fun v1 k2 q3 q6 q9 q12 m15 hI15 k16 hm2 => by exfalso; omega)
theorem fiF_17 {k : Int32} (hm : aTm aT0 mem) (hT : tOK mem) (hS : mS T n (some p) mem) (hx : (gi mem 221 12).toInt = -1) (h8 : (gi mem 221 8).toInt = 0) (hN : (gi mem 221 2).toInt = n) (hG : ga mem 222 = T) : ∀ (f : Nat) (a : Int32) (lo : List (Nat × Value)), n ≤ a.toInt + (f : Int) → (gi mem 221 5).toInt ≤ a.toInt → 0 ≤ a.toInt → a.toInt ≤ n → (∀ i, (gi mem 221 5).toInt ≤ i → i < a.toInt → blk (gn T i)) → zlg lo 0 = some (.ref 221) → zlg lo 1 = some (.int k) → zlg lo 2 = some (.int a) → yR zpg tX12_finishes (d + 5) (17, lo, [], mem) (fun r m => mS T n (sFin T n k.toInt p) m) := by
  have sz := mO_r2 hm
  intro f
  induction f with
  | zero =>
    intro a lo hf h5 h0 h1 hb a0 a1 a2
    exact w_fi_17 hm a0 a1 a2 ⟨h0, by omega⟩
        (fun q1 lo a0 a1 a2 hm2 => fiF_53 hm hT hS hx h8 hN ⟨h5, h1, hb, fun w => by omega⟩ a0 a1 a2)
        (fun q1 y2 e3 q4 x5 e6 lo a0 a1 a2 hm2 => by exfalso; omega)
        (fun q1 y2 e3 q4 y10 e11 q12 lo a0 a1 a2 hm2 => fiF_53 hm hT hS hx h8 hN ⟨h5, h1, hb, fun _ w => by unfold blk at w; rw [← hG] at w; omega⟩ a0 a1 a2)
        (fun q1 y2 e3 q4 y10 e11 q12 x13 e14 lo a0 a1 a2 hm2 => by exfalso; omega)
  | succ f ih =>
    intro a lo hf h5 h0 h1 hb a0 a1 a2
    exact w_fi_17 hm a0 a1 a2 ⟨h0, by omega⟩
        (fun q1 lo a0 a1 a2 hm2 => fiF_53 hm hT hS hx h8 hN ⟨h5, h1, hb, fun w => by omega⟩ a0 a1 a2)
        (fun q1 y2 e3 q4 x5 e6 lo a0 a1 a2 hm2 => ih _ lo (by omega) (by omega) (by omega) (by omega) (blk_ext hb (by unfold blk; rw [← hG]; omega) (by assumption)) a0 a1 a2)
        (fun q1 y2 e3 q4 y10 e11 q12 lo a0 a1 a2 hm2 => fiF_53 hm hT hS hx h8 hN ⟨h5, h1, hb, fun _ w => by unfold blk at w; rw [← hG] at w; omega⟩ a0 a1 a2)
        (fun q1 y2 e3 q4 y10 e11 q12 x13 e14 lo a0 a1 a2 hm2 => ih _ lo (by omega) (by omega) (by omega) (by omega) (blk_ext hb (by unfold blk; rw [← hG]; omega) (by assumption)) a0 a1 a2)
theorem h_finF {k : Int32} (hm : aTm aT0 mem) (hT : tOK mem) (hS : mS T n s mem) (hd : 6 ≤ d) : yC zpg d 205 [.ref 221, .int k] mem (fun r m => mS T n (s.bind (sFin T n k.toInt)) m) := by
  obtain ⟨d, rfl⟩ : ∃ q, d = q + 6 := ⟨d - 6, by omega⟩
  have hT0 := hT.1.1
  have hT8 : 0 ≤ (gi mem 221 8).toInt := hT.2
  refine yC_of (t := tX12_finishes) rfl rfl ?_
  exact w_fi_0 hm rfl rfl
        (fun q1 q2 lo a0 a1 a2 hm2 => by
          rcases hS with ⟨p, rfl, f0, r0⟩ | ⟨-, f⟩
          · have r1 := r0
            obtain ⟨t, e, hR⟩ := r1
            have L := Tok_last hR.2.1 hR.1.2.2
            have e5 := hR.2.2.1
            have sz := mO_r2 hm
            exact fiF_17 (p := p) hm hT (Or.inl ⟨p, rfl, f0, r0⟩) (by omega) f0 hR.1.1 hR.1.2.1 1601 _ lo (by have := hR.1.1; omega) (by omega) (by omega) (by omega) (fun i i0 i1 => by exfalso; omega) a0 a1 a2
          · exfalso
            have f1 : 1 ≤ (gi mem 221 8).toInt := f
            omega)
        (fun q1 q2 hm2 => by
          rcases hS with ⟨p, -, f0, -⟩ | ⟨e, f⟩
          · exfalso
            have f1 : (gi mem 221 8).toInt = 0 := f0
            omega
          · rw [e]
            exact mS_no f rfl)
        (fun q1 q6 hm2 => by
          rcases hS with ⟨p, rfl, f0, t, e, hR⟩ | ⟨-, f⟩
          · have X := mx_iff hR.2.2.2
            have Z : sSgn T n 59 p = none := by
              unfold sSgn
              rw [tkf_e hR.2.1]
              refine oif_f (fun w => ?_)
              have w1 : t.1 = 3 := w.1
              have := X.2 (by omega)
              omega
            exact mS_no (by show 1 ≤ (gi _ 221 8).toInt; rw [((gi_sv_ne (by decide)).trans (gi_eqO (isO_of hm) (by decide)))]; decide) (sFin_no Z)
          · exfalso
            have f1 : 1 ≤ (gi mem 221 8).toInt := f
            omega)
        (fun q1 q6 hm2 => by
          rcases hS with ⟨p, -, f0, -⟩ | ⟨e, f⟩
          · exfalso
            have f1 : (gi mem 221 8).toInt = 0 := f0
            omega
          · rw [e]
            exact mS_no f rfl)
end MW
