/-! fresh names, cells told -/
section CE
variable {d : Nat} {mem : zM}
theorem cy_ {k : Nat} {a m : zM} {x34 : Int32} {l : List Int32} (h : tQ a m) (hk : ¬ k = 221) (e34 : gi a 221 34 = x34) (e : ga a k = l) : gn (ga m k) (gi m 221 34).toInt = gn l x34.toInt := by rw [fr_ga h.1 hk rfl, fr_gi h.1 rfl, e34, e]
theorem tQ_8 {a m : zM} {x8 : Int32} (h : tQ a m) (e8 : gi a 221 8 = x8) : ¬ (gi m 221 8).toInt = 0 ∨ x8.toInt = 0 := by
  by_cases w : (gi m 221 8).toInt = 0
  · have := (h.2.2.2 w).1
    rw [← e8]
    exact Or.inr this
  · exact Or.inl w
theorem tQ_s {a m : zM} (h : stQ [] a m) : tQ a m := h
theorem stQ_b {ks : List Nat} {a b c : zM} (h : stQ ks a b) (F : fr [] [8, 9] b c) (h8 : 1 ≤ fk c) : stQ ks a c := stQ_tr h (stQ_t (tQ_f F h.2.1 h8))
/-- what a call carries on: faults, the bank, columns, rows, things, folk of it -/
theorem h_cy {P : Option Value → zM → Prop} {j : Nat} {av : List Value} {x34 x8 : Int32} {b8 : Int} {l3 l4 l8 l9 : List Int32} (v8 : x8.toInt = b8) (e34 : gi mem 221 34 = x34) (e8 : gi mem 221 8 = x8) (e3 : ga mem 223 = l3) (e4 : ga mem 224 = l4) (e5 : ga mem 228 = l8) (e6 : ga mem 233 = l9) (hP : ∀ r m, P r m → tQ mem m) (h : yC zpg d j av mem P) : yC zpg d j av mem (fun r m => P r m ∧ ((¬ (gi m 221 8).toInt = 0 ∨ b8 = 0) ∧ 0 ≤ (gi m 221 8).toInt ∧ (gi m 221 34).toInt = x34.toInt ∧ gn (ga m 223) (gi m 221 34).toInt = gn l3 x34.toInt ∧ gn (ga m 224) (gi m 221 34).toInt = gn l4 x34.toInt ∧ gn (ga m 228) (gi m 221 34).toInt = gn l8 x34.toInt ∧ gn (ga m 233) (gi m 221 34).toInt = gn l9 x34.toInt)) :=
  yC_mono (fun r m q => by
    have t := hP r m q
    exact ⟨q, v8 ▸ tQ_8 t e8, t.2.1.2, by rw [fr_gi t.1 rfl, e34], cy_ t (by decide) e34 e3, cy_ t (by decide) e34 e4, cy_ t (by decide) e34 e5, cy_ t (by decide) e34 e6⟩) h
theorem pk_i {P : Int32 → zM → Prop} {R : zM → Prop} {j : Nat} {av : List Value} (h : yC zpg d j av mem (fun r m => (∃ v : Int32, r = some (.int v) ∧ aTm aT0 m ∧ P v m) ∧ R m)) : yC zpg d j av mem (fun r m => ∃ v : Int32, r = some (.int v) ∧ aTm aT0 m ∧ (P v m ∧ R m)) :=
  yC_mono (fun r m q => by
    obtain ⟨⟨v, q1, q2, q3⟩, q4⟩ := q
    exact ⟨v, q1, q2, q3, q4⟩) h
theorem pk_l {P : Int64 → zM → Prop} {R : zM → Prop} {j : Nat} {av : List Value} (h : yC zpg d j av mem (fun r m => (∃ v : Int64, r = some (.long v) ∧ aTm aT0 m ∧ P v m) ∧ R m)) : yC zpg d j av mem (fun r m => ∃ v : Int64, r = some (.long v) ∧ aTm aT0 m ∧ (P v m ∧ R m)) :=
  yC_mono (fun r m q => by
    obtain ⟨⟨v, q1, q2, q3⟩, q4⟩ := q
    exact ⟨v, q1, q2, q3, q4⟩) h
theorem pk_v {P : zM → Prop} {R : zM → Prop} {j : Nat} {av : List Value} (h : yC zpg d j av mem (fun r m => (r = none ∧ aTm aT0 m ∧ P m) ∧ R m)) : yC zpg d j av mem (fun r m => r = none ∧ aTm aT0 m ∧ (P m ∧ R m)) :=
  yC_mono (fun r m q => ⟨q.1.1, q.1.2.1, q.1.2.2, q.2⟩) h
theorem h_number5 {lw hg : Int32} {a b : Int} (hl : lw.toInt = a) (hh : hg.toInt = b) (hm : aTm aT0 mem) (hT : tOK mem) (hd : 4 ≤ d) : yC zpg d 180 [.ref 221, .int lw, .int hg] mem (fun r m => ∃ v : Int32, r = some (.int v) ∧ aTm aT0 m ∧ (tQ mem m ∧ (¬ (gi m 221 8).toInt = 0 ∨ (a ≤ v.toInt ∧ v.toInt ≤ b)))) := by
  subst hl hh
  refine yC_mono (fun r m q => ?_) (h_number2 hm hT hd rfl)
  obtain ⟨v, q1, q2, q3, q4, -⟩ := q
  exact ⟨v, q1, q2, q3, q4⟩
set_option maxRecDepth 100000 in
theorem w_fresh {d : Nat} {mem : zM} {P : Option Value → zM → Prop} (hm : aTm aT0 mem) (hse : (gi mem 221 5).toInt ≤ (gi mem 221 2).toInt) (h1 : (gi mem 221 12).toInt = (-1) → (gi mem 221 8).toInt ≤ 0 → ¬ (gi mem 221 3).toInt = 1 → aTm aT0 (si (si mem 221 8 1) 221 9 (gi mem 221 4)) → P (some (.long (gL mem 221 7))) (si (si mem 221 8 1) 221 9 (gi mem 221 4))) (h2 : (gi mem 221 12).toInt = (-1) → (gi mem 221 8).toInt ≤ 0 → (gi mem 221 3).toInt = 1 → ∀ (v4 : Int32), True → (v4).toInt = 0 → ¬ (gi mem 221 8).toInt = 0 → aTm aT0 mem → P (some (.long (gL mem 221 7))) mem) (h3 : (gi mem 221 12).toInt = (-1) → (gi mem 221 8).toInt ≤ 0 → (gi mem 221 3).toInt = 1 → ∀ (v4 : Int32), True → (v4).toInt = 0 → (gi mem 221 8).toInt = 0 → ∀ (v8 : Int32), True → (v8).toInt = 0 → ∀ (m11 : zM), aTm aT0 m11 → ahQ mem m11 → aTm aT0 m11 → P (some (.long (gL mem 221 7))) m11) (h4 : (gi mem 221 12).toInt = (-1) → (gi mem 221 8).toInt ≤ 0 → (gi mem 221 3).toInt = 1 → ∀ (v4 : Int32), True → (v4).toInt = 0 → (gi mem 221 8).toInt = 0 → ∀ (v8 : Int32), True → ¬ (v8).toInt = 0 → aTm aT0 (si (si mem 221 8 2) 221 9 (gi mem 221 4)) → P (some (.long (gL mem 221 7))) (si (si mem 221 8 2) 221 9 (gi mem 221 4))) (h5 : (gi mem 221 12).toInt = (-1) → (gi mem 221 8).toInt ≤ 0 → (gi mem 221 3).toInt = 1 → ∀ (v4 : Int32), True → ¬ (v4).toInt = 0 → aTm aT0 (si (si mem 221 8 1) 221 9 (gi mem 221 4)) → P (some (.long (gL mem 221 7))) (si (si mem 221 8 1) 221 9 (gi mem 221 4))) (h6 : (gi mem 221 12).toInt = (-1) → 0 < (gi mem 221 8).toInt → aTm aT0 mem → P (some (.long 0)) mem) (h7 : ¬ (gi mem 221 12).toInt = (-1) → (gi mem 221 8).toInt ≤ 0 → aTm aT0 (si (si mem 221 8 1) 221 9 (gi mem 221 12)) → P (some (.long 0)) (si (si mem 221 8 1) 221 9 (gi mem 221 12))) (h8 : ¬ (gi mem 221 12).toInt = (-1) → 0 < (gi mem 221 8).toInt → aTm aT0 mem → P (some (.long 0)) mem) : yR zpg tX12_fresh (d + 3) (0, [(0, .ref 221)], [], mem) P := by
  refine yR_m 1 (fun _ _ _ _ => rfl) ?_
  refine wR_iv rfl rfl mO_e hm rfl rfl rfl rfl ?_
  show yR zpg tX12_lex (d + 2) (0, [(0, .ref 221)], [], mem) _
  refine yR_m 1 (fun _ _ _ _ => rfl) ?_
  refine wR_gi rfl mO_e mO_12 hm rfl ?_
  refine yR_m 1 (fun _ _ _ _ => rfl) ?_
  refine wR_ic_eq rfl (a := (gi mem 221 12).toInt) (c := (-1)) rfl tm1 (fun q1 => ?_) (fun q1 => ?_)
  ·
    refine yR_rv rfl ?_
    show yR zpg tX12_fresh (d + 3) (4, [(0, .ref 221)], [], mem) _
    refine yR_m 1 (fun _ _ _ _ => rfl) ?_
    refine wR_gi rfl mO_e mO_8 hm rfl ?_
    refine wR_if_le rfl (a := (gi mem 221 8).toInt) rfl (fun q2 => ?_) (fun q2 => ?_)
    ·
      refine yR_m 1 (fun _ _ _ _ => rfl) ?_
      refine wR_gi rfl mO_e mO_3 hm rfl ?_
      refine yR_m 1 (fun _ _ _ _ => rfl) ?_
      refine wR_ic_ne rfl (a := (gi mem 221 3).toInt) (c := 1) rfl rfl (fun q3 => ?_) (fun q3 => ?_)
      ·
        refine yR_m 3 (fun _ _ _ _ => rfl) ?_
        refine wR_gi rfl mO_e mO_4 hm rfl ?_
        refine wR_iv rfl rfl mO_e hm rfl rfl rfl rfl ?_
        show yR zpg tX12_blame (d + 2) (0, [(0, .ref 221), (1, .int 1), (2, .int (gi mem 221 4))], [], mem) _
        refine yR_m 1 (fun _ _ _ _ => rfl) ?_
        refine wR_gi rfl mO_e mO_8 hm rfl ?_
        refine wR_if_le rfl (a := (gi mem 221 8).toInt) rfl (fun _ => ?_) (fun q => by exfalso; omega)
        refine yR_m 2 (fun _ _ _ _ => rfl) ?_
        refine wR_pi rfl mO_e mO_8 hm rfl ?_
        have hm_1 : aTm aT0 (si mem 221 8 1) := tm_si mO_e mO_8 hm (i32_b _)
        refine yR_m 2 (fun _ _ _ _ => rfl) ?_
        refine wR_pi rfl mO_e mO_9 hm_1 rfl ?_
        have hm_2 : aTm aT0 (si (si mem 221 8 1) 221 9 (gi mem 221 4)) := tm_si mO_e mO_9 hm_1 (i32_b _)
        refine yR_rv rfl ?_
        show yR zpg tX12_fresh (d + 3) (41, [(0, .ref 221)], [], (si (si mem 221 8 1) 221 9 (gi mem 221 4))) _
        refine yR_m 1 (fun _ _ _ _ => rfl) ?_
        refine wR_gi rfl mO_e mO_8 hm_2 ((gi_sv_ne (by decide)).trans (gi_si_eq mO_e mO_8 hm)) ?_
        refine wR_if_ne rfl (a := 1) rfl (fun _ => ?_) (fun q => by exfalso; omega)
        refine yR_m 1 (fun _ _ _ _ => rfl) ?_
        refine wR_gL rfl mO_e mO_7 hm_2 ((gL_sv_ne (by decide)).trans (gL_sv_ne (by decide))) ?_
        refine yR_m 2 (fun _ _ _ _ => rfl) ?_
        refine wR_gi rfl mO_e mO_8 hm_2 ((gi_sv_ne (by decide)).trans (gi_si_eq mO_e mO_8 hm)) ?_
        refine wR_if_ne rfl (a := 1) rfl (fun _ => ?_) (fun q => by exfalso; omega)
        refine yR_m 1 (fun _ _ _ _ => rfl) ?_
        exact yR_rl rfl (h1 q1 q2 q3 hm_2)
      ·
        refine yR_m 2 (fun _ _ _ _ => rfl) ?_
        refine wR_gL rfl mO_e mO_7 hm rfl ?_
        refine wR_cv rfl rfl mO_e hm rfl (c_isOwn hm (by omega)) ?_
        rintro _ _ ⟨v4, rfl, rfl, k5⟩
        show yR zpg tX12_fresh (d + 3) (29, [(0, .ref 221)], [.int v4], mem) _
        refine wR_if_eq rfl (a := (v4).toInt) rfl (fun q6 => ?_) (fun q6 => ?_)
        ·
          refine yR_m 1 (fun _ _ _ _ => rfl) ?_
          refine wR_gi rfl mO_e mO_8 hm rfl ?_
          refine wR_if_ne rfl (a := (gi mem 221 8).toInt) rfl (fun q7 => ?_) (fun q7 => ?_)
          ·
            refine yR_m 1 (fun _ _ _ _ => rfl) ?_
            refine wR_gL rfl mO_e mO_7 hm rfl ?_
            refine yR_m 2 (fun _ _ _ _ => rfl) ?_
            refine wR_gi rfl mO_e mO_8 hm rfl ?_
            refine wR_if_ne rfl (a := (gi mem 221 8).toInt) rfl (fun _ => ?_) (fun q => by exfalso; omega)
            refine yR_m 1 (fun _ _ _ _ => rfl) ?_
            exact yR_rl rfl (h2 q1 q2 q3 v4 k5 q6 q7 hm)
          ·
            refine yR_m 2 (fun _ _ _ _ => rfl) ?_
            refine wR_gL rfl mO_e mO_7 hm rfl ?_
            refine wR_cv rfl rfl mO_e hm rfl (c_isNamed hm (by omega)) ?_
            rintro _ _ ⟨v8, rfl, rfl, k9⟩
            show yR zpg tX12_fresh (d + 3) (56, [(0, .ref 221)], [.int v8], mem) _
            refine wR_if_eq rfl (a := (v8).toInt) rfl (fun q10 => ?_) (fun q10 => ?_)
            ·
              refine yR_m 1 (fun _ _ _ _ => rfl) ?_
              refine wR_gL rfl mO_e mO_7 hm rfl ?_
              refine yR_m 2 (fun _ _ _ _ => rfl) ?_
              refine wR_gi rfl mO_e mO_8 hm rfl ?_
              refine wR_if_ne rfl (a := (gi mem 221 8).toInt) rfl (fun q => by exfalso; omega) (fun _ => ?_)
              refine yR_m 1 (fun _ _ _ _ => rfl) ?_
              refine wR_cv rfl rfl mO_e hm rfl (h_ahead2 (by omega) hm rfl rfl (by omega)) ?_
              rintro _ m11 ⟨rfl, hI11, k12⟩
              show yR zpg tX12_fresh (d + 3) (84, [(1, .long (gL mem 221 7)), (0, .ref 221)], [], m11) _
              refine yR_m 1 (fun _ _ _ _ => rfl) ?_
              exact yR_rl rfl (h3 q1 q2 q3 v4 k5 q6 q7 v8 k9 q10 m11 hI11 k12 hI11)
            ·
              refine yR_m 3 (fun _ _ _ _ => rfl) ?_
              refine wR_gi rfl mO_e mO_4 hm rfl ?_
              refine wR_iv rfl rfl mO_e hm rfl rfl rfl rfl ?_
              show yR zpg tX12_blame (d + 2) (0, [(0, .ref 221), (1, .int 2), (2, .int (gi mem 221 4))], [], mem) _
              refine yR_m 1 (fun _ _ _ _ => rfl) ?_
              refine wR_gi rfl mO_e mO_8 hm rfl ?_
              refine wR_if_le rfl (a := (gi mem 221 8).toInt) rfl (fun _ => ?_) (fun q => by exfalso; omega)
              refine yR_m 2 (fun _ _ _ _ => rfl) ?_
              refine wR_pi rfl mO_e mO_8 hm rfl ?_
              have hm_3 : aTm aT0 (si mem 221 8 2) := tm_si mO_e mO_8 hm (i32_b _)
              refine yR_m 2 (fun _ _ _ _ => rfl) ?_
              refine wR_pi rfl mO_e mO_9 hm_3 rfl ?_
              have hm_4 : aTm aT0 (si (si mem 221 8 2) 221 9 (gi mem 221 4)) := tm_si mO_e mO_9 hm_3 (i32_b _)
              refine yR_rv rfl ?_
              show yR zpg tX12_fresh (d + 3) (68, [(0, .ref 221)], [], (si (si mem 221 8 2) 221 9 (gi mem 221 4))) _
              refine yR_m 1 (fun _ _ _ _ => rfl) ?_
              refine wR_gL rfl mO_e mO_7 hm_4 ((gL_sv_ne (by decide)).trans (gL_sv_ne (by decide))) ?_
              refine yR_m 2 (fun _ _ _ _ => rfl) ?_
              refine wR_gi rfl mO_e mO_8 hm_4 ((gi_sv_ne (by decide)).trans (gi_si_eq mO_e mO_8 hm)) ?_
              refine wR_if_ne rfl (a := 2) rfl (fun _ => ?_) (fun q => by exfalso; omega)
              refine yR_m 1 (fun _ _ _ _ => rfl) ?_
              exact yR_rl rfl (h4 q1 q2 q3 v4 k5 q6 q7 v8 k9 q10 hm_4)
        ·
          refine yR_m 3 (fun _ _ _ _ => rfl) ?_
          refine wR_gi rfl mO_e mO_4 hm rfl ?_
          refine wR_iv rfl rfl mO_e hm rfl rfl rfl rfl ?_
          show yR zpg tX12_blame (d + 2) (0, [(0, .ref 221), (1, .int 1), (2, .int (gi mem 221 4))], [], mem) _
          refine yR_m 1 (fun _ _ _ _ => rfl) ?_
          refine wR_gi rfl mO_e mO_8 hm rfl ?_
          refine wR_if_le rfl (a := (gi mem 221 8).toInt) rfl (fun _ => ?_) (fun q => by exfalso; omega)
          refine yR_m 2 (fun _ _ _ _ => rfl) ?_
          refine wR_pi rfl mO_e mO_8 hm rfl ?_
          have hm_5 : aTm aT0 (si mem 221 8 1) := tm_si mO_e mO_8 hm (i32_b _)
          refine yR_m 2 (fun _ _ _ _ => rfl) ?_
          refine wR_pi rfl mO_e mO_9 hm_5 rfl ?_
          have hm_6 : aTm aT0 (si (si mem 221 8 1) 221 9 (gi mem 221 4)) := tm_si mO_e mO_9 hm_5 (i32_b _)
          refine yR_rv rfl ?_
          show yR zpg tX12_fresh (d + 3) (41, [(0, .ref 221)], [], (si (si mem 221 8 1) 221 9 (gi mem 221 4))) _
          refine yR_m 1 (fun _ _ _ _ => rfl) ?_
          refine wR_gi rfl mO_e mO_8 hm_6 ((gi_sv_ne (by decide)).trans (gi_si_eq mO_e mO_8 hm)) ?_
          refine wR_if_ne rfl (a := 1) rfl (fun _ => ?_) (fun q => by exfalso; omega)
          refine yR_m 1 (fun _ _ _ _ => rfl) ?_
          refine wR_gL rfl mO_e mO_7 hm_6 ((gL_sv_ne (by decide)).trans (gL_sv_ne (by decide))) ?_
          refine yR_m 2 (fun _ _ _ _ => rfl) ?_
          refine wR_gi rfl mO_e mO_8 hm_6 ((gi_sv_ne (by decide)).trans (gi_si_eq mO_e mO_8 hm)) ?_
          refine wR_if_ne rfl (a := 1) rfl (fun _ => ?_) (fun q => by exfalso; omega)
          refine yR_m 1 (fun _ _ _ _ => rfl) ?_
          exact yR_rl rfl (h5 q1 q2 q3 v4 k5 q6 hm_6)
    ·
      refine yR_m 1 (fun _ _ _ _ => rfl) ?_
      exact yR_rl rfl (h6 q1 q2 hm)
  ·
    refine yR_m 3 (fun _ _ _ _ => rfl) ?_
    refine wR_gi rfl mO_e mO_12 hm rfl ?_
    refine wR_iv rfl rfl mO_e hm rfl rfl rfl rfl ?_
    show yR zpg tX12_blame (d + 1) (0, [(0, .ref 221), (1, .int 1), (2, .int (gi mem 221 12))], [], mem) _
    refine yR_m 1 (fun _ _ _ _ => rfl) ?_
    refine wR_gi rfl mO_e mO_8 hm rfl ?_
    refine wR_if_le rfl (a := (gi mem 221 8).toInt) rfl (fun q13 => ?_) (fun q13 => ?_)
    ·
      refine yR_m 2 (fun _ _ _ _ => rfl) ?_
      refine wR_pi rfl mO_e mO_8 hm rfl ?_
      have hm_7 : aTm aT0 (si mem 221 8 1) := tm_si mO_e mO_8 hm (i32_b _)
      refine yR_m 2 (fun _ _ _ _ => rfl) ?_
      refine wR_pi rfl mO_e mO_9 hm_7 rfl ?_
      have hm_8 : aTm aT0 (si (si mem 221 8 1) 221 9 (gi mem 221 12)) := tm_si mO_e mO_9 hm_7 (i32_b _)
      refine yR_rv rfl ?_
      show yR zpg tX12_lex (d + 2) (17, [(0, .ref 221)], [], (si (si mem 221 8 1) 221 9 (gi mem 221 12))) _
      refine yR_rv rfl ?_
      show yR zpg tX12_fresh (d + 3) (4, [(0, .ref 221)], [], (si (si mem 221 8 1) 221 9 (gi mem 221 12))) _
      refine yR_m 1 (fun _ _ _ _ => rfl) ?_
      refine wR_gi rfl mO_e mO_8 hm_8 ((gi_sv_ne (by decide)).trans (gi_si_eq mO_e mO_8 hm)) ?_
      refine wR_if_le rfl (a := 1) rfl (fun q => by exfalso; omega) (fun _ => ?_)
      refine yR_m 1 (fun _ _ _ _ => rfl) ?_
      exact yR_rl rfl (h7 q1 q13 hm_8)
    ·
      refine yR_rv rfl ?_
      show yR zpg tX12_lex (d + 2) (17, [(0, .ref 221)], [], mem) _
      refine yR_rv rfl ?_
      show yR zpg tX12_fresh (d + 3) (4, [(0, .ref 221)], [], mem) _
      refine yR_m 1 (fun _ _ _ _ => rfl) ?_
      refine wR_gi rfl mO_e mO_8 hm rfl ?_
      refine wR_if_le rfl (a := (gi mem 221 8).toInt) rfl (fun q => by exfalso; omega) (fun _ => ?_)
      refine yR_m 1 (fun _ _ _ _ => rfl) ?_
      exact yR_rl rfl (h8 q1 q13 hm)

theorem h_fresh (hm : aTm aT0 mem) (hT : tOK mem) (hd : 4 ≤ d) : yC zpg d 194 [.ref 221] mem (fun r m => ∃ v : Int64, r = some (.long v) ∧ aTm aT0 m ∧ tQ mem m) := by
  obtain ⟨d, rfl⟩ : ∃ q, d = q + 4 := ⟨d - 4, by omega⟩
  have hT0 := hT.1.1
  have hT8 : 0 ≤ (gi mem 221 8).toInt := hT.2
  refine yC_of (t := tX12_fresh) rfl rfl ?_
  exact w_fresh hm (by omega)
        (fun q1 q2 q3 hm2 => ⟨_, rfl, hm2, tQ_f (fr_sv rfl (fr_sv rfl (fr_rf))) hT (by show 1 ≤ (gi (si (si mem 221 8 1) 221 9 (gi mem 221 4)) 221 8).toInt; rw [((gi_sv_ne (by decide)).trans (gi_eqO (isO_of hm) (by decide)))]; decide)⟩)
        (fun q1 q2 q3 v4 k5 q6 q7 hm2 => ⟨_, rfl, hm2, tQ_f fr_rf hT (by show 1 ≤ (gi mem 221 8).toInt; omega)⟩)
        (fun q1 q2 q3 v4 k5 q6 q7 v8 k9 q10 m11 hI11 k12 hm2 => ⟨_, rfl, hm2, tQ_a fr_rf hT hT.2 id (fun _ => by omega) k12⟩)
        (fun q1 q2 q3 v4 k5 q6 q7 v8 k9 q10 hm2 => ⟨_, rfl, hm2, tQ_f (fr_sv rfl (fr_sv rfl (fr_rf))) hT (by show 1 ≤ (gi (si (si mem 221 8 2) 221 9 (gi mem 221 4)) 221 8).toInt; rw [((gi_sv_ne (by decide)).trans (gi_eqO (isO_of hm) (by decide)))]; decide)⟩)
        (fun q1 q2 q3 v4 k5 q6 hm2 => ⟨_, rfl, hm2, tQ_f (fr_sv rfl (fr_sv rfl (fr_rf))) hT (by show 1 ≤ (gi (si (si mem 221 8 1) 221 9 (gi mem 221 4)) 221 8).toInt; rw [((gi_sv_ne (by decide)).trans (gi_eqO (isO_of hm) (by decide)))]; decide)⟩)
        (fun q1 q2 hm2 => ⟨_, rfl, hm2, tQ_f fr_rf hT (by show 1 ≤ (gi mem 221 8).toInt; omega)⟩)
        (fun q1 q13 hm2 => ⟨_, rfl, hm2, tQ_f (fr_sv rfl (fr_sv rfl (fr_rf))) hT (by show 1 ≤ (gi (si (si mem 221 8 1) 221 9 (gi mem 221 12)) 221 8).toInt; rw [((gi_sv_ne (by decide)).trans (gi_eqO (isO_of hm) (by decide)))]; decide)⟩)
        (fun q1 q13 hm2 => ⟨_, rfl, hm2, tQ_f fr_rf hT (by show 1 ≤ (gi mem 221 8).toInt; omega)⟩)
set_option maxRecDepth 100000 in
theorem w_cellTold {d : Nat} {mem : zM} {P : Option Value → zM → Prop} {iw : Int32} (hm : aTm aT0 mem) (hT : tOK mem) (hc : 3 ≤ gn (ga mem 223) (gi mem 221 34).toInt ∧ gn (ga mem 223) (gi mem 221 34).toInt ≤ 7) (hr : 3 ≤ gn (ga mem 224) (gi mem 221 34).toInt ∧ gn (ga mem 224) (gi mem 221 34).toInt ≤ 7) (h1 : ∀ (y1 : Int32), y1.toInt = (gn (ga mem 223) (gi mem 221 34).toInt) → ∀ (x3 : Int32), x3.toInt = ((gn (ga mem 223) (gi mem 221 34).toInt) - 1) → ∀ (v7 : Int32) (m5 : zM), aTm aT0 m5 → ((tQ mem m5 ∧ (¬ (gi m5 221 8).toInt = 0 ∨ (0 ≤ v7.toInt ∧ v7.toInt ≤ x3.toInt))) ∧ ((¬ (gi m5 221 8).toInt = 0 ∨ (gi mem 221 8).toInt = 0) ∧ 0 ≤ (gi m5 221 8).toInt ∧ (gi m5 221 34).toInt = (gi mem 221 34).toInt ∧ gn (ga m5 223) (gi m5 221 34).toInt = gn (ga mem 223) (gi mem 221 34).toInt ∧ gn (ga m5 224) (gi m5 221 34).toInt = gn (ga mem 224) (gi mem 221 34).toInt ∧ gn (ga m5 228) (gi m5 221 34).toInt = gn (ga mem 228) (gi mem 221 34).toInt ∧ gn (ga m5 233) (gi m5 221 34).toInt = gn (ga mem 233) (gi mem 221 34).toInt)) → (gi m5 221 12).toInt = (-1) → ∀ (y9 : Int32), y9.toInt = (gn (ga m5 224) (gi m5 221 34).toInt) → ∀ (x11 : Int32), x11.toInt = ((gn (ga m5 224) (gi m5 221 34).toInt) - 1) → ∀ (v15 : Int32) (m13 : zM), aTm aT0 m13 → ((tQ m5 m13 ∧ (¬ (gi m13 221 8).toInt = 0 ∨ (0 ≤ v15.toInt ∧ v15.toInt ≤ x11.toInt))) ∧ ((¬ (gi m13 221 8).toInt = 0 ∨ (gi m5 221 8).toInt = 0) ∧ 0 ≤ (gi m13 221 8).toInt ∧ (gi m13 221 34).toInt = (gi m5 221 34).toInt ∧ gn (ga m13 223) (gi m13 221 34).toInt = gn (ga m5 223) (gi m5 221 34).toInt ∧ gn (ga m13 224) (gi m13 221 34).toInt = gn (ga m5 224) (gi m5 221 34).toInt ∧ gn (ga m13 228) (gi m13 221 34).toInt = gn (ga m5 228) (gi m5 221 34).toInt ∧ gn (ga m13 233) (gi m13 221 34).toInt = gn (ga m5 233) (gi m5 221 34).toInt)) → (gi m13 221 8).toInt ≤ 0 → ∀ (x17 : Int32), x17.toInt = (8 * (v15).toInt) → ∀ (x19 : Int32), x19.toInt = ((8 * (v15).toInt) + (v7).toInt) → ∀ (x21 : Int32), x21.toInt = (64 * (gi m13 221 34).toInt) → ∀ (x23 : Int32), x23.toInt = ((64 * (gi m13 221 34).toInt) + ((8 * (v15).toInt) + (v7).toInt)) → ∀ (y25 : Int32), y25.toInt = (gn (ga m13 227) ((64 * (gi m13 221 34).toInt) + ((8 * (v15).toInt) + (v7).toInt))) → (gn (ga m13 227) ((64 * (gi m13 221 34).toInt) + ((8 * (v15).toInt) + (v7).toInt))) = 1 → aTm aT0 (si (si m13 221 8 4) 221 9 (gi m5 221 4)) → P (some (.int x19)) (si (si m13 221 8 4) 221 9 (gi m5 221 4))) (h2 : ∀ (y1 : Int32), y1.toInt = (gn (ga mem 223) (gi mem 221 34).toInt) → ∀ (x3 : Int32), x3.toInt = ((gn (ga mem 223) (gi mem 221 34).toInt) - 1) → ∀ (v7 : Int32) (m5 : zM), aTm aT0 m5 → ((tQ mem m5 ∧ (¬ (gi m5 221 8).toInt = 0 ∨ (0 ≤ v7.toInt ∧ v7.toInt ≤ x3.toInt))) ∧ ((¬ (gi m5 221 8).toInt = 0 ∨ (gi mem 221 8).toInt = 0) ∧ 0 ≤ (gi m5 221 8).toInt ∧ (gi m5 221 34).toInt = (gi mem 221 34).toInt ∧ gn (ga m5 223) (gi m5 221 34).toInt = gn (ga mem 223) (gi mem 221 34).toInt ∧ gn (ga m5 224) (gi m5 221 34).toInt = gn (ga mem 224) (gi mem 221 34).toInt ∧ gn (ga m5 228) (gi m5 221 34).toInt = gn (ga mem 228) (gi mem 221 34).toInt ∧ gn (ga m5 233) (gi m5 221 34).toInt = gn (ga mem 233) (gi mem 221 34).toInt)) → (gi m5 221 12).toInt = (-1) → ∀ (y9 : Int32), y9.toInt = (gn (ga m5 224) (gi m5 221 34).toInt) → ∀ (x11 : Int32), x11.toInt = ((gn (ga m5 224) (gi m5 221 34).toInt) - 1) → ∀ (v15 : Int32) (m13 : zM), aTm aT0 m13 → ((tQ m5 m13 ∧ (¬ (gi m13 221 8).toInt = 0 ∨ (0 ≤ v15.toInt ∧ v15.toInt ≤ x11.toInt))) ∧ ((¬ (gi m13 221 8).toInt = 0 ∨ (gi m5 221 8).toInt = 0) ∧ 0 ≤ (gi m13 221 8).toInt ∧ (gi m13 221 34).toInt = (gi m5 221 34).toInt ∧ gn (ga m13 223) (gi m13 221 34).toInt = gn (ga m5 223) (gi m5 221 34).toInt ∧ gn (ga m13 224) (gi m13 221 34).toInt = gn (ga m5 224) (gi m5 221 34).toInt ∧ gn (ga m13 228) (gi m13 221 34).toInt = gn (ga m5 228) (gi m5 221 34).toInt ∧ gn (ga m13 233) (gi m13 221 34).toInt = gn (ga m5 233) (gi m5 221 34).toInt)) → (gi m13 221 8).toInt ≤ 0 → ∀ (x17 : Int32), x17.toInt = (8 * (v15).toInt) → ∀ (x19 : Int32), x19.toInt = ((8 * (v15).toInt) + (v7).toInt) → ∀ (x21 : Int32), x21.toInt = (64 * (gi m13 221 34).toInt) → ∀ (x23 : Int32), x23.toInt = ((64 * (gi m13 221 34).toInt) + ((8 * (v15).toInt) + (v7).toInt)) → ∀ (y25 : Int32), y25.toInt = (gn (ga m13 227) ((64 * (gi m13 221 34).toInt) + ((8 * (v15).toInt) + (v7).toInt))) → ¬ (gn (ga m13 227) ((64 * (gi m13 221 34).toInt) + ((8 * (v15).toInt) + (v7).toInt))) = 1 → (iw).toInt = 0 → aTm aT0 m13 → P (some (.int x19)) m13) (h3 : ∀ (y1 : Int32), y1.toInt = (gn (ga mem 223) (gi mem 221 34).toInt) → ∀ (x3 : Int32), x3.toInt = ((gn (ga mem 223) (gi mem 221 34).toInt) - 1) → ∀ (v7 : Int32) (m5 : zM), aTm aT0 m5 → ((tQ mem m5 ∧ (¬ (gi m5 221 8).toInt = 0 ∨ (0 ≤ v7.toInt ∧ v7.toInt ≤ x3.toInt))) ∧ ((¬ (gi m5 221 8).toInt = 0 ∨ (gi mem 221 8).toInt = 0) ∧ 0 ≤ (gi m5 221 8).toInt ∧ (gi m5 221 34).toInt = (gi mem 221 34).toInt ∧ gn (ga m5 223) (gi m5 221 34).toInt = gn (ga mem 223) (gi mem 221 34).toInt ∧ gn (ga m5 224) (gi m5 221 34).toInt = gn (ga mem 224) (gi mem 221 34).toInt ∧ gn (ga m5 228) (gi m5 221 34).toInt = gn (ga mem 228) (gi mem 221 34).toInt ∧ gn (ga m5 233) (gi m5 221 34).toInt = gn (ga mem 233) (gi mem 221 34).toInt)) → (gi m5 221 12).toInt = (-1) → ∀ (y9 : Int32), y9.toInt = (gn (ga m5 224) (gi m5 221 34).toInt) → ∀ (x11 : Int32), x11.toInt = ((gn (ga m5 224) (gi m5 221 34).toInt) - 1) → ∀ (v15 : Int32) (m13 : zM), aTm aT0 m13 → ((tQ m5 m13 ∧ (¬ (gi m13 221 8).toInt = 0 ∨ (0 ≤ v15.toInt ∧ v15.toInt ≤ x11.toInt))) ∧ ((¬ (gi m13 221 8).toInt = 0 ∨ (gi m5 221 8).toInt = 0) ∧ 0 ≤ (gi m13 221 8).toInt ∧ (gi m13 221 34).toInt = (gi m5 221 34).toInt ∧ gn (ga m13 223) (gi m13 221 34).toInt = gn (ga m5 223) (gi m5 221 34).toInt ∧ gn (ga m13 224) (gi m13 221 34).toInt = gn (ga m5 224) (gi m5 221 34).toInt ∧ gn (ga m13 228) (gi m13 221 34).toInt = gn (ga m5 228) (gi m5 221 34).toInt ∧ gn (ga m13 233) (gi m13 221 34).toInt = gn (ga m5 233) (gi m5 221 34).toInt)) → (gi m13 221 8).toInt ≤ 0 → ∀ (x17 : Int32), x17.toInt = (8 * (v15).toInt) → ∀ (x19 : Int32), x19.toInt = ((8 * (v15).toInt) + (v7).toInt) → ∀ (x21 : Int32), x21.toInt = (64 * (gi m13 221 34).toInt) → ∀ (x23 : Int32), x23.toInt = ((64 * (gi m13 221 34).toInt) + ((8 * (v15).toInt) + (v7).toInt)) → ∀ (y25 : Int32), y25.toInt = (gn (ga m13 227) ((64 * (gi m13 221 34).toInt) + ((8 * (v15).toInt) + (v7).toInt))) → ¬ (gn (ga m13 227) ((64 * (gi m13 221 34).toInt) + ((8 * (v15).toInt) + (v7).toInt))) = 1 → ¬ (iw).toInt = 0 → ∀ (v29 : Int32), True → (v29).toInt = 0 → aTm aT0 m13 → P (some (.int x19)) m13) (h4 : ∀ (y1 : Int32), y1.toInt = (gn (ga mem 223) (gi mem 221 34).toInt) → ∀ (x3 : Int32), x3.toInt = ((gn (ga mem 223) (gi mem 221 34).toInt) - 1) → ∀ (v7 : Int32) (m5 : zM), aTm aT0 m5 → ((tQ mem m5 ∧ (¬ (gi m5 221 8).toInt = 0 ∨ (0 ≤ v7.toInt ∧ v7.toInt ≤ x3.toInt))) ∧ ((¬ (gi m5 221 8).toInt = 0 ∨ (gi mem 221 8).toInt = 0) ∧ 0 ≤ (gi m5 221 8).toInt ∧ (gi m5 221 34).toInt = (gi mem 221 34).toInt ∧ gn (ga m5 223) (gi m5 221 34).toInt = gn (ga mem 223) (gi mem 221 34).toInt ∧ gn (ga m5 224) (gi m5 221 34).toInt = gn (ga mem 224) (gi mem 221 34).toInt ∧ gn (ga m5 228) (gi m5 221 34).toInt = gn (ga mem 228) (gi mem 221 34).toInt ∧ gn (ga m5 233) (gi m5 221 34).toInt = gn (ga mem 233) (gi mem 221 34).toInt)) → (gi m5 221 12).toInt = (-1) → ∀ (y9 : Int32), y9.toInt = (gn (ga m5 224) (gi m5 221 34).toInt) → ∀ (x11 : Int32), x11.toInt = ((gn (ga m5 224) (gi m5 221 34).toInt) - 1) → ∀ (v15 : Int32) (m13 : zM), aTm aT0 m13 → ((tQ m5 m13 ∧ (¬ (gi m13 221 8).toInt = 0 ∨ (0 ≤ v15.toInt ∧ v15.toInt ≤ x11.toInt))) ∧ ((¬ (gi m13 221 8).toInt = 0 ∨ (gi m5 221 8).toInt = 0) ∧ 0 ≤ (gi m13 221 8).toInt ∧ (gi m13 221 34).toInt = (gi m5 221 34).toInt ∧ gn (ga m13 223) (gi m13 221 34).toInt = gn (ga m5 223) (gi m5 221 34).toInt ∧ gn (ga m13 224) (gi m13 221 34).toInt = gn (ga m5 224) (gi m5 221 34).toInt ∧ gn (ga m13 228) (gi m13 221 34).toInt = gn (ga m5 228) (gi m5 221 34).toInt ∧ gn (ga m13 233) (gi m13 221 34).toInt = gn (ga m5 233) (gi m5 221 34).toInt)) → (gi m13 221 8).toInt ≤ 0 → ∀ (x17 : Int32), x17.toInt = (8 * (v15).toInt) → ∀ (x19 : Int32), x19.toInt = ((8 * (v15).toInt) + (v7).toInt) → ∀ (x21 : Int32), x21.toInt = (64 * (gi m13 221 34).toInt) → ∀ (x23 : Int32), x23.toInt = ((64 * (gi m13 221 34).toInt) + ((8 * (v15).toInt) + (v7).toInt)) → ∀ (y25 : Int32), y25.toInt = (gn (ga m13 227) ((64 * (gi m13 221 34).toInt) + ((8 * (v15).toInt) + (v7).toInt))) → ¬ (gn (ga m13 227) ((64 * (gi m13 221 34).toInt) + ((8 * (v15).toInt) + (v7).toInt))) = 1 → ¬ (iw).toInt = 0 → ∀ (v29 : Int32), True → ¬ (v29).toInt = 0 → aTm aT0 (si (si m13 221 8 4) 221 9 (gi m5 221 4)) → P (some (.int x19)) (si (si m13 221 8 4) 221 9 (gi m5 221 4))) (h5 : ∀ (y1 : Int32), y1.toInt = (gn (ga mem 223) (gi mem 221 34).toInt) → ∀ (x3 : Int32), x3.toInt = ((gn (ga mem 223) (gi mem 221 34).toInt) - 1) → ∀ (v7 : Int32) (m5 : zM), aTm aT0 m5 → ((tQ mem m5 ∧ (¬ (gi m5 221 8).toInt = 0 ∨ (0 ≤ v7.toInt ∧ v7.toInt ≤ x3.toInt))) ∧ ((¬ (gi m5 221 8).toInt = 0 ∨ (gi mem 221 8).toInt = 0) ∧ 0 ≤ (gi m5 221 8).toInt ∧ (gi m5 221 34).toInt = (gi mem 221 34).toInt ∧ gn (ga m5 223) (gi m5 221 34).toInt = gn (ga mem 223) (gi mem 221 34).toInt ∧ gn (ga m5 224) (gi m5 221 34).toInt = gn (ga mem 224) (gi mem 221 34).toInt ∧ gn (ga m5 228) (gi m5 221 34).toInt = gn (ga mem 228) (gi mem 221 34).toInt ∧ gn (ga m5 233) (gi m5 221 34).toInt = gn (ga mem 233) (gi mem 221 34).toInt)) → (gi m5 221 12).toInt = (-1) → ∀ (y9 : Int32), y9.toInt = (gn (ga m5 224) (gi m5 221 34).toInt) → ∀ (x11 : Int32), x11.toInt = ((gn (ga m5 224) (gi m5 221 34).toInt) - 1) → ∀ (v15 : Int32) (m13 : zM), aTm aT0 m13 → ((tQ m5 m13 ∧ (¬ (gi m13 221 8).toInt = 0 ∨ (0 ≤ v15.toInt ∧ v15.toInt ≤ x11.toInt))) ∧ ((¬ (gi m13 221 8).toInt = 0 ∨ (gi m5 221 8).toInt = 0) ∧ 0 ≤ (gi m13 221 8).toInt ∧ (gi m13 221 34).toInt = (gi m5 221 34).toInt ∧ gn (ga m13 223) (gi m13 221 34).toInt = gn (ga m5 223) (gi m5 221 34).toInt ∧ gn (ga m13 224) (gi m13 221 34).toInt = gn (ga m5 224) (gi m5 221 34).toInt ∧ gn (ga m13 228) (gi m13 221 34).toInt = gn (ga m5 228) (gi m5 221 34).toInt ∧ gn (ga m13 233) (gi m13 221 34).toInt = gn (ga m5 233) (gi m5 221 34).toInt)) → 0 < (gi m13 221 8).toInt → aTm aT0 m13 → P (some (.int 0)) m13) (h6 : ∀ (y1 : Int32), y1.toInt = (gn (ga mem 223) (gi mem 221 34).toInt) → ∀ (x3 : Int32), x3.toInt = ((gn (ga mem 223) (gi mem 221 34).toInt) - 1) → ∀ (v7 : Int32) (m5 : zM), aTm aT0 m5 → ((tQ mem m5 ∧ (¬ (gi m5 221 8).toInt = 0 ∨ (0 ≤ v7.toInt ∧ v7.toInt ≤ x3.toInt))) ∧ ((¬ (gi m5 221 8).toInt = 0 ∨ (gi mem 221 8).toInt = 0) ∧ 0 ≤ (gi m5 221 8).toInt ∧ (gi m5 221 34).toInt = (gi mem 221 34).toInt ∧ gn (ga m5 223) (gi m5 221 34).toInt = gn (ga mem 223) (gi mem 221 34).toInt ∧ gn (ga m5 224) (gi m5 221 34).toInt = gn (ga mem 224) (gi mem 221 34).toInt ∧ gn (ga m5 228) (gi m5 221 34).toInt = gn (ga mem 228) (gi mem 221 34).toInt ∧ gn (ga m5 233) (gi m5 221 34).toInt = gn (ga mem 233) (gi mem 221 34).toInt)) → ¬ (gi m5 221 12).toInt = (-1) → (gi m5 221 8).toInt ≤ 0 → ∀ (y33 : Int32), y33.toInt = (gn (ga m5 224) (gi m5 221 34).toInt) → ∀ (x35 : Int32), x35.toInt = ((gn (ga m5 224) (gi m5 221 34).toInt) - 1) → ∀ (v39 : Int32) (m37 : zM), aTm aT0 m37 → ((tQ (si (si m5 221 8 1) 221 9 (gi m5 221 12)) m37 ∧ (¬ (gi m37 221 8).toInt = 0 ∨ (0 ≤ v39.toInt ∧ v39.toInt ≤ x35.toInt))) ∧ ((¬ (gi m37 221 8).toInt = 0 ∨ (1 : Int) = 0) ∧ 0 ≤ (gi m37 221 8).toInt ∧ (gi m37 221 34).toInt = (gi m5 221 34).toInt ∧ gn (ga m37 223) (gi m37 221 34).toInt = gn (ga m5 223) (gi m5 221 34).toInt ∧ gn (ga m37 224) (gi m37 221 34).toInt = gn (ga m5 224) (gi m5 221 34).toInt ∧ gn (ga m37 228) (gi m37 221 34).toInt = gn (ga m5 228) (gi m5 221 34).toInt ∧ gn (ga m37 233) (gi m37 221 34).toInt = gn (ga m5 233) (gi m5 221 34).toInt)) → (gi m37 221 8).toInt ≤ 0 → ∀ (x41 : Int32), x41.toInt = (8 * (v39).toInt) → ∀ (x43 : Int32), x43.toInt = ((8 * (v39).toInt) + (v7).toInt) → ∀ (x45 : Int32), x45.toInt = (64 * (gi m37 221 34).toInt) → ∀ (x47 : Int32), x47.toInt = ((64 * (gi m37 221 34).toInt) + ((8 * (v39).toInt) + (v7).toInt)) → ∀ (y49 : Int32), y49.toInt = (gn (ga m37 227) ((64 * (gi m37 221 34).toInt) + ((8 * (v39).toInt) + (v7).toInt))) → (gn (ga m37 227) ((64 * (gi m37 221 34).toInt) + ((8 * (v39).toInt) + (v7).toInt))) = 1 → aTm aT0 (si (si m37 221 8 4) 221 9 (gi m5 221 4)) → P (some (.int x43)) (si (si m37 221 8 4) 221 9 (gi m5 221 4))) (h7 : ∀ (y1 : Int32), y1.toInt = (gn (ga mem 223) (gi mem 221 34).toInt) → ∀ (x3 : Int32), x3.toInt = ((gn (ga mem 223) (gi mem 221 34).toInt) - 1) → ∀ (v7 : Int32) (m5 : zM), aTm aT0 m5 → ((tQ mem m5 ∧ (¬ (gi m5 221 8).toInt = 0 ∨ (0 ≤ v7.toInt ∧ v7.toInt ≤ x3.toInt))) ∧ ((¬ (gi m5 221 8).toInt = 0 ∨ (gi mem 221 8).toInt = 0) ∧ 0 ≤ (gi m5 221 8).toInt ∧ (gi m5 221 34).toInt = (gi mem 221 34).toInt ∧ gn (ga m5 223) (gi m5 221 34).toInt = gn (ga mem 223) (gi mem 221 34).toInt ∧ gn (ga m5 224) (gi m5 221 34).toInt = gn (ga mem 224) (gi mem 221 34).toInt ∧ gn (ga m5 228) (gi m5 221 34).toInt = gn (ga mem 228) (gi mem 221 34).toInt ∧ gn (ga m5 233) (gi m5 221 34).toInt = gn (ga mem 233) (gi mem 221 34).toInt)) → ¬ (gi m5 221 12).toInt = (-1) → (gi m5 221 8).toInt ≤ 0 → ∀ (y33 : Int32), y33.toInt = (gn (ga m5 224) (gi m5 221 34).toInt) → ∀ (x35 : Int32), x35.toInt = ((gn (ga m5 224) (gi m5 221 34).toInt) - 1) → ∀ (v39 : Int32) (m37 : zM), aTm aT0 m37 → ((tQ (si (si m5 221 8 1) 221 9 (gi m5 221 12)) m37 ∧ (¬ (gi m37 221 8).toInt = 0 ∨ (0 ≤ v39.toInt ∧ v39.toInt ≤ x35.toInt))) ∧ ((¬ (gi m37 221 8).toInt = 0 ∨ (1 : Int) = 0) ∧ 0 ≤ (gi m37 221 8).toInt ∧ (gi m37 221 34).toInt = (gi m5 221 34).toInt ∧ gn (ga m37 223) (gi m37 221 34).toInt = gn (ga m5 223) (gi m5 221 34).toInt ∧ gn (ga m37 224) (gi m37 221 34).toInt = gn (ga m5 224) (gi m5 221 34).toInt ∧ gn (ga m37 228) (gi m37 221 34).toInt = gn (ga m5 228) (gi m5 221 34).toInt ∧ gn (ga m37 233) (gi m37 221 34).toInt = gn (ga m5 233) (gi m5 221 34).toInt)) → (gi m37 221 8).toInt ≤ 0 → ∀ (x41 : Int32), x41.toInt = (8 * (v39).toInt) → ∀ (x43 : Int32), x43.toInt = ((8 * (v39).toInt) + (v7).toInt) → ∀ (x45 : Int32), x45.toInt = (64 * (gi m37 221 34).toInt) → ∀ (x47 : Int32), x47.toInt = ((64 * (gi m37 221 34).toInt) + ((8 * (v39).toInt) + (v7).toInt)) → ∀ (y49 : Int32), y49.toInt = (gn (ga m37 227) ((64 * (gi m37 221 34).toInt) + ((8 * (v39).toInt) + (v7).toInt))) → ¬ (gn (ga m37 227) ((64 * (gi m37 221 34).toInt) + ((8 * (v39).toInt) + (v7).toInt))) = 1 → (iw).toInt = 0 → aTm aT0 m37 → P (some (.int x43)) m37) (h8 : ∀ (y1 : Int32), y1.toInt = (gn (ga mem 223) (gi mem 221 34).toInt) → ∀ (x3 : Int32), x3.toInt = ((gn (ga mem 223) (gi mem 221 34).toInt) - 1) → ∀ (v7 : Int32) (m5 : zM), aTm aT0 m5 → ((tQ mem m5 ∧ (¬ (gi m5 221 8).toInt = 0 ∨ (0 ≤ v7.toInt ∧ v7.toInt ≤ x3.toInt))) ∧ ((¬ (gi m5 221 8).toInt = 0 ∨ (gi mem 221 8).toInt = 0) ∧ 0 ≤ (gi m5 221 8).toInt ∧ (gi m5 221 34).toInt = (gi mem 221 34).toInt ∧ gn (ga m5 223) (gi m5 221 34).toInt = gn (ga mem 223) (gi mem 221 34).toInt ∧ gn (ga m5 224) (gi m5 221 34).toInt = gn (ga mem 224) (gi mem 221 34).toInt ∧ gn (ga m5 228) (gi m5 221 34).toInt = gn (ga mem 228) (gi mem 221 34).toInt ∧ gn (ga m5 233) (gi m5 221 34).toInt = gn (ga mem 233) (gi mem 221 34).toInt)) → ¬ (gi m5 221 12).toInt = (-1) → (gi m5 221 8).toInt ≤ 0 → ∀ (y33 : Int32), y33.toInt = (gn (ga m5 224) (gi m5 221 34).toInt) → ∀ (x35 : Int32), x35.toInt = ((gn (ga m5 224) (gi m5 221 34).toInt) - 1) → ∀ (v39 : Int32) (m37 : zM), aTm aT0 m37 → ((tQ (si (si m5 221 8 1) 221 9 (gi m5 221 12)) m37 ∧ (¬ (gi m37 221 8).toInt = 0 ∨ (0 ≤ v39.toInt ∧ v39.toInt ≤ x35.toInt))) ∧ ((¬ (gi m37 221 8).toInt = 0 ∨ (1 : Int) = 0) ∧ 0 ≤ (gi m37 221 8).toInt ∧ (gi m37 221 34).toInt = (gi m5 221 34).toInt ∧ gn (ga m37 223) (gi m37 221 34).toInt = gn (ga m5 223) (gi m5 221 34).toInt ∧ gn (ga m37 224) (gi m37 221 34).toInt = gn (ga m5 224) (gi m5 221 34).toInt ∧ gn (ga m37 228) (gi m37 221 34).toInt = gn (ga m5 228) (gi m5 221 34).toInt ∧ gn (ga m37 233) (gi m37 221 34).toInt = gn (ga m5 233) (gi m5 221 34).toInt)) → (gi m37 221 8).toInt ≤ 0 → ∀ (x41 : Int32), x41.toInt = (8 * (v39).toInt) → ∀ (x43 : Int32), x43.toInt = ((8 * (v39).toInt) + (v7).toInt) → ∀ (x45 : Int32), x45.toInt = (64 * (gi m37 221 34).toInt) → ∀ (x47 : Int32), x47.toInt = ((64 * (gi m37 221 34).toInt) + ((8 * (v39).toInt) + (v7).toInt)) → ∀ (y49 : Int32), y49.toInt = (gn (ga m37 227) ((64 * (gi m37 221 34).toInt) + ((8 * (v39).toInt) + (v7).toInt))) → ¬ (gn (ga m37 227) ((64 * (gi m37 221 34).toInt) + ((8 * (v39).toInt) + (v7).toInt))) = 1 → ¬ (iw).toInt = 0 → ∀ (v53 : Int32), True → (v53).toInt = 0 → aTm aT0 m37 → P (some (.int x43)) m37) (h9 : ∀ (y1 : Int32), y1.toInt = (gn (ga mem 223) (gi mem 221 34).toInt) → ∀ (x3 : Int32), x3.toInt = ((gn (ga mem 223) (gi mem 221 34).toInt) - 1) → ∀ (v7 : Int32) (m5 : zM), aTm aT0 m5 → ((tQ mem m5 ∧ (¬ (gi m5 221 8).toInt = 0 ∨ (0 ≤ v7.toInt ∧ v7.toInt ≤ x3.toInt))) ∧ ((¬ (gi m5 221 8).toInt = 0 ∨ (gi mem 221 8).toInt = 0) ∧ 0 ≤ (gi m5 221 8).toInt ∧ (gi m5 221 34).toInt = (gi mem 221 34).toInt ∧ gn (ga m5 223) (gi m5 221 34).toInt = gn (ga mem 223) (gi mem 221 34).toInt ∧ gn (ga m5 224) (gi m5 221 34).toInt = gn (ga mem 224) (gi mem 221 34).toInt ∧ gn (ga m5 228) (gi m5 221 34).toInt = gn (ga mem 228) (gi mem 221 34).toInt ∧ gn (ga m5 233) (gi m5 221 34).toInt = gn (ga mem 233) (gi mem 221 34).toInt)) → ¬ (gi m5 221 12).toInt = (-1) → (gi m5 221 8).toInt ≤ 0 → ∀ (y33 : Int32), y33.toInt = (gn (ga m5 224) (gi m5 221 34).toInt) → ∀ (x35 : Int32), x35.toInt = ((gn (ga m5 224) (gi m5 221 34).toInt) - 1) → ∀ (v39 : Int32) (m37 : zM), aTm aT0 m37 → ((tQ (si (si m5 221 8 1) 221 9 (gi m5 221 12)) m37 ∧ (¬ (gi m37 221 8).toInt = 0 ∨ (0 ≤ v39.toInt ∧ v39.toInt ≤ x35.toInt))) ∧ ((¬ (gi m37 221 8).toInt = 0 ∨ (1 : Int) = 0) ∧ 0 ≤ (gi m37 221 8).toInt ∧ (gi m37 221 34).toInt = (gi m5 221 34).toInt ∧ gn (ga m37 223) (gi m37 221 34).toInt = gn (ga m5 223) (gi m5 221 34).toInt ∧ gn (ga m37 224) (gi m37 221 34).toInt = gn (ga m5 224) (gi m5 221 34).toInt ∧ gn (ga m37 228) (gi m37 221 34).toInt = gn (ga m5 228) (gi m5 221 34).toInt ∧ gn (ga m37 233) (gi m37 221 34).toInt = gn (ga m5 233) (gi m5 221 34).toInt)) → (gi m37 221 8).toInt ≤ 0 → ∀ (x41 : Int32), x41.toInt = (8 * (v39).toInt) → ∀ (x43 : Int32), x43.toInt = ((8 * (v39).toInt) + (v7).toInt) → ∀ (x45 : Int32), x45.toInt = (64 * (gi m37 221 34).toInt) → ∀ (x47 : Int32), x47.toInt = ((64 * (gi m37 221 34).toInt) + ((8 * (v39).toInt) + (v7).toInt)) → ∀ (y49 : Int32), y49.toInt = (gn (ga m37 227) ((64 * (gi m37 221 34).toInt) + ((8 * (v39).toInt) + (v7).toInt))) → ¬ (gn (ga m37 227) ((64 * (gi m37 221 34).toInt) + ((8 * (v39).toInt) + (v7).toInt))) = 1 → ¬ (iw).toInt = 0 → ∀ (v53 : Int32), True → ¬ (v53).toInt = 0 → aTm aT0 (si (si m37 221 8 4) 221 9 (gi m5 221 4)) → P (some (.int x43)) (si (si m37 221 8 4) 221 9 (gi m5 221 4))) (h10 : ∀ (y1 : Int32), y1.toInt = (gn (ga mem 223) (gi mem 221 34).toInt) → ∀ (x3 : Int32), x3.toInt = ((gn (ga mem 223) (gi mem 221 34).toInt) - 1) → ∀ (v7 : Int32) (m5 : zM), aTm aT0 m5 → ((tQ mem m5 ∧ (¬ (gi m5 221 8).toInt = 0 ∨ (0 ≤ v7.toInt ∧ v7.toInt ≤ x3.toInt))) ∧ ((¬ (gi m5 221 8).toInt = 0 ∨ (gi mem 221 8).toInt = 0) ∧ 0 ≤ (gi m5 221 8).toInt ∧ (gi m5 221 34).toInt = (gi mem 221 34).toInt ∧ gn (ga m5 223) (gi m5 221 34).toInt = gn (ga mem 223) (gi mem 221 34).toInt ∧ gn (ga m5 224) (gi m5 221 34).toInt = gn (ga mem 224) (gi mem 221 34).toInt ∧ gn (ga m5 228) (gi m5 221 34).toInt = gn (ga mem 228) (gi mem 221 34).toInt ∧ gn (ga m5 233) (gi m5 221 34).toInt = gn (ga mem 233) (gi mem 221 34).toInt)) → ¬ (gi m5 221 12).toInt = (-1) → (gi m5 221 8).toInt ≤ 0 → ∀ (y33 : Int32), y33.toInt = (gn (ga m5 224) (gi m5 221 34).toInt) → ∀ (x35 : Int32), x35.toInt = ((gn (ga m5 224) (gi m5 221 34).toInt) - 1) → ∀ (v39 : Int32) (m37 : zM), aTm aT0 m37 → ((tQ (si (si m5 221 8 1) 221 9 (gi m5 221 12)) m37 ∧ (¬ (gi m37 221 8).toInt = 0 ∨ (0 ≤ v39.toInt ∧ v39.toInt ≤ x35.toInt))) ∧ ((¬ (gi m37 221 8).toInt = 0 ∨ (1 : Int) = 0) ∧ 0 ≤ (gi m37 221 8).toInt ∧ (gi m37 221 34).toInt = (gi m5 221 34).toInt ∧ gn (ga m37 223) (gi m37 221 34).toInt = gn (ga m5 223) (gi m5 221 34).toInt ∧ gn (ga m37 224) (gi m37 221 34).toInt = gn (ga m5 224) (gi m5 221 34).toInt ∧ gn (ga m37 228) (gi m37 221 34).toInt = gn (ga m5 228) (gi m5 221 34).toInt ∧ gn (ga m37 233) (gi m37 221 34).toInt = gn (ga m5 233) (gi m5 221 34).toInt)) → 0 < (gi m37 221 8).toInt → aTm aT0 m37 → P (some (.int 0)) m37) (h11 : ∀ (y1 : Int32), y1.toInt = (gn (ga mem 223) (gi mem 221 34).toInt) → ∀ (x3 : Int32), x3.toInt = ((gn (ga mem 223) (gi mem 221 34).toInt) - 1) → ∀ (v7 : Int32) (m5 : zM), aTm aT0 m5 → ((tQ mem m5 ∧ (¬ (gi m5 221 8).toInt = 0 ∨ (0 ≤ v7.toInt ∧ v7.toInt ≤ x3.toInt))) ∧ ((¬ (gi m5 221 8).toInt = 0 ∨ (gi mem 221 8).toInt = 0) ∧ 0 ≤ (gi m5 221 8).toInt ∧ (gi m5 221 34).toInt = (gi mem 221 34).toInt ∧ gn (ga m5 223) (gi m5 221 34).toInt = gn (ga mem 223) (gi mem 221 34).toInt ∧ gn (ga m5 224) (gi m5 221 34).toInt = gn (ga mem 224) (gi mem 221 34).toInt ∧ gn (ga m5 228) (gi m5 221 34).toInt = gn (ga mem 228) (gi mem 221 34).toInt ∧ gn (ga m5 233) (gi m5 221 34).toInt = gn (ga mem 233) (gi mem 221 34).toInt)) → ¬ (gi m5 221 12).toInt = (-1) → 0 < (gi m5 221 8).toInt → ∀ (y56 : Int32), y56.toInt = (gn (ga m5 224) (gi m5 221 34).toInt) → ∀ (x58 : Int32), x58.toInt = ((gn (ga m5 224) (gi m5 221 34).toInt) - 1) → ∀ (v62 : Int32) (m60 : zM), aTm aT0 m60 → ((tQ m5 m60 ∧ (¬ (gi m60 221 8).toInt = 0 ∨ (0 ≤ v62.toInt ∧ v62.toInt ≤ x58.toInt))) ∧ ((¬ (gi m60 221 8).toInt = 0 ∨ (gi m5 221 8).toInt = 0) ∧ 0 ≤ (gi m60 221 8).toInt ∧ (gi m60 221 34).toInt = (gi m5 221 34).toInt ∧ gn (ga m60 223) (gi m60 221 34).toInt = gn (ga m5 223) (gi m5 221 34).toInt ∧ gn (ga m60 224) (gi m60 221 34).toInt = gn (ga m5 224) (gi m5 221 34).toInt ∧ gn (ga m60 228) (gi m60 221 34).toInt = gn (ga m5 228) (gi m5 221 34).toInt ∧ gn (ga m60 233) (gi m60 221 34).toInt = gn (ga m5 233) (gi m5 221 34).toInt)) → (gi m60 221 8).toInt ≤ 0 → ∀ (x64 : Int32), x64.toInt = (8 * (v62).toInt) → ∀ (x66 : Int32), x66.toInt = ((8 * (v62).toInt) + (v7).toInt) → ∀ (x68 : Int32), x68.toInt = (64 * (gi m60 221 34).toInt) → ∀ (x70 : Int32), x70.toInt = ((64 * (gi m60 221 34).toInt) + ((8 * (v62).toInt) + (v7).toInt)) → ∀ (y72 : Int32), y72.toInt = (gn (ga m60 227) ((64 * (gi m60 221 34).toInt) + ((8 * (v62).toInt) + (v7).toInt))) → (gn (ga m60 227) ((64 * (gi m60 221 34).toInt) + ((8 * (v62).toInt) + (v7).toInt))) = 1 → aTm aT0 (si (si m60 221 8 4) 221 9 (gi m5 221 4)) → P (some (.int x66)) (si (si m60 221 8 4) 221 9 (gi m5 221 4))) (h12 : ∀ (y1 : Int32), y1.toInt = (gn (ga mem 223) (gi mem 221 34).toInt) → ∀ (x3 : Int32), x3.toInt = ((gn (ga mem 223) (gi mem 221 34).toInt) - 1) → ∀ (v7 : Int32) (m5 : zM), aTm aT0 m5 → ((tQ mem m5 ∧ (¬ (gi m5 221 8).toInt = 0 ∨ (0 ≤ v7.toInt ∧ v7.toInt ≤ x3.toInt))) ∧ ((¬ (gi m5 221 8).toInt = 0 ∨ (gi mem 221 8).toInt = 0) ∧ 0 ≤ (gi m5 221 8).toInt ∧ (gi m5 221 34).toInt = (gi mem 221 34).toInt ∧ gn (ga m5 223) (gi m5 221 34).toInt = gn (ga mem 223) (gi mem 221 34).toInt ∧ gn (ga m5 224) (gi m5 221 34).toInt = gn (ga mem 224) (gi mem 221 34).toInt ∧ gn (ga m5 228) (gi m5 221 34).toInt = gn (ga mem 228) (gi mem 221 34).toInt ∧ gn (ga m5 233) (gi m5 221 34).toInt = gn (ga mem 233) (gi mem 221 34).toInt)) → ¬ (gi m5 221 12).toInt = (-1) → 0 < (gi m5 221 8).toInt → ∀ (y56 : Int32), y56.toInt = (gn (ga m5 224) (gi m5 221 34).toInt) → ∀ (x58 : Int32), x58.toInt = ((gn (ga m5 224) (gi m5 221 34).toInt) - 1) → ∀ (v62 : Int32) (m60 : zM), aTm aT0 m60 → ((tQ m5 m60 ∧ (¬ (gi m60 221 8).toInt = 0 ∨ (0 ≤ v62.toInt ∧ v62.toInt ≤ x58.toInt))) ∧ ((¬ (gi m60 221 8).toInt = 0 ∨ (gi m5 221 8).toInt = 0) ∧ 0 ≤ (gi m60 221 8).toInt ∧ (gi m60 221 34).toInt = (gi m5 221 34).toInt ∧ gn (ga m60 223) (gi m60 221 34).toInt = gn (ga m5 223) (gi m5 221 34).toInt ∧ gn (ga m60 224) (gi m60 221 34).toInt = gn (ga m5 224) (gi m5 221 34).toInt ∧ gn (ga m60 228) (gi m60 221 34).toInt = gn (ga m5 228) (gi m5 221 34).toInt ∧ gn (ga m60 233) (gi m60 221 34).toInt = gn (ga m5 233) (gi m5 221 34).toInt)) → (gi m60 221 8).toInt ≤ 0 → ∀ (x64 : Int32), x64.toInt = (8 * (v62).toInt) → ∀ (x66 : Int32), x66.toInt = ((8 * (v62).toInt) + (v7).toInt) → ∀ (x68 : Int32), x68.toInt = (64 * (gi m60 221 34).toInt) → ∀ (x70 : Int32), x70.toInt = ((64 * (gi m60 221 34).toInt) + ((8 * (v62).toInt) + (v7).toInt)) → ∀ (y72 : Int32), y72.toInt = (gn (ga m60 227) ((64 * (gi m60 221 34).toInt) + ((8 * (v62).toInt) + (v7).toInt))) → ¬ (gn (ga m60 227) ((64 * (gi m60 221 34).toInt) + ((8 * (v62).toInt) + (v7).toInt))) = 1 → (iw).toInt = 0 → aTm aT0 m60 → P (some (.int x66)) m60) (h13 : ∀ (y1 : Int32), y1.toInt = (gn (ga mem 223) (gi mem 221 34).toInt) → ∀ (x3 : Int32), x3.toInt = ((gn (ga mem 223) (gi mem 221 34).toInt) - 1) → ∀ (v7 : Int32) (m5 : zM), aTm aT0 m5 → ((tQ mem m5 ∧ (¬ (gi m5 221 8).toInt = 0 ∨ (0 ≤ v7.toInt ∧ v7.toInt ≤ x3.toInt))) ∧ ((¬ (gi m5 221 8).toInt = 0 ∨ (gi mem 221 8).toInt = 0) ∧ 0 ≤ (gi m5 221 8).toInt ∧ (gi m5 221 34).toInt = (gi mem 221 34).toInt ∧ gn (ga m5 223) (gi m5 221 34).toInt = gn (ga mem 223) (gi mem 221 34).toInt ∧ gn (ga m5 224) (gi m5 221 34).toInt = gn (ga mem 224) (gi mem 221 34).toInt ∧ gn (ga m5 228) (gi m5 221 34).toInt = gn (ga mem 228) (gi mem 221 34).toInt ∧ gn (ga m5 233) (gi m5 221 34).toInt = gn (ga mem 233) (gi mem 221 34).toInt)) → ¬ (gi m5 221 12).toInt = (-1) → 0 < (gi m5 221 8).toInt → ∀ (y56 : Int32), y56.toInt = (gn (ga m5 224) (gi m5 221 34).toInt) → ∀ (x58 : Int32), x58.toInt = ((gn (ga m5 224) (gi m5 221 34).toInt) - 1) → ∀ (v62 : Int32) (m60 : zM), aTm aT0 m60 → ((tQ m5 m60 ∧ (¬ (gi m60 221 8).toInt = 0 ∨ (0 ≤ v62.toInt ∧ v62.toInt ≤ x58.toInt))) ∧ ((¬ (gi m60 221 8).toInt = 0 ∨ (gi m5 221 8).toInt = 0) ∧ 0 ≤ (gi m60 221 8).toInt ∧ (gi m60 221 34).toInt = (gi m5 221 34).toInt ∧ gn (ga m60 223) (gi m60 221 34).toInt = gn (ga m5 223) (gi m5 221 34).toInt ∧ gn (ga m60 224) (gi m60 221 34).toInt = gn (ga m5 224) (gi m5 221 34).toInt ∧ gn (ga m60 228) (gi m60 221 34).toInt = gn (ga m5 228) (gi m5 221 34).toInt ∧ gn (ga m60 233) (gi m60 221 34).toInt = gn (ga m5 233) (gi m5 221 34).toInt)) → (gi m60 221 8).toInt ≤ 0 → ∀ (x64 : Int32), x64.toInt = (8 * (v62).toInt) → ∀ (x66 : Int32), x66.toInt = ((8 * (v62).toInt) + (v7).toInt) → ∀ (x68 : Int32), x68.toInt = (64 * (gi m60 221 34).toInt) → ∀ (x70 : Int32), x70.toInt = ((64 * (gi m60 221 34).toInt) + ((8 * (v62).toInt) + (v7).toInt)) → ∀ (y72 : Int32), y72.toInt = (gn (ga m60 227) ((64 * (gi m60 221 34).toInt) + ((8 * (v62).toInt) + (v7).toInt))) → ¬ (gn (ga m60 227) ((64 * (gi m60 221 34).toInt) + ((8 * (v62).toInt) + (v7).toInt))) = 1 → ¬ (iw).toInt = 0 → ∀ (v76 : Int32), True → (v76).toInt = 0 → aTm aT0 m60 → P (some (.int x66)) m60) (h14 : ∀ (y1 : Int32), y1.toInt = (gn (ga mem 223) (gi mem 221 34).toInt) → ∀ (x3 : Int32), x3.toInt = ((gn (ga mem 223) (gi mem 221 34).toInt) - 1) → ∀ (v7 : Int32) (m5 : zM), aTm aT0 m5 → ((tQ mem m5 ∧ (¬ (gi m5 221 8).toInt = 0 ∨ (0 ≤ v7.toInt ∧ v7.toInt ≤ x3.toInt))) ∧ ((¬ (gi m5 221 8).toInt = 0 ∨ (gi mem 221 8).toInt = 0) ∧ 0 ≤ (gi m5 221 8).toInt ∧ (gi m5 221 34).toInt = (gi mem 221 34).toInt ∧ gn (ga m5 223) (gi m5 221 34).toInt = gn (ga mem 223) (gi mem 221 34).toInt ∧ gn (ga m5 224) (gi m5 221 34).toInt = gn (ga mem 224) (gi mem 221 34).toInt ∧ gn (ga m5 228) (gi m5 221 34).toInt = gn (ga mem 228) (gi mem 221 34).toInt ∧ gn (ga m5 233) (gi m5 221 34).toInt = gn (ga mem 233) (gi mem 221 34).toInt)) → ¬ (gi m5 221 12).toInt = (-1) → 0 < (gi m5 221 8).toInt → ∀ (y56 : Int32), y56.toInt = (gn (ga m5 224) (gi m5 221 34).toInt) → ∀ (x58 : Int32), x58.toInt = ((gn (ga m5 224) (gi m5 221 34).toInt) - 1) → ∀ (v62 : Int32) (m60 : zM), aTm aT0 m60 → ((tQ m5 m60 ∧ (¬ (gi m60 221 8).toInt = 0 ∨ (0 ≤ v62.toInt ∧ v62.toInt ≤ x58.toInt))) ∧ ((¬ (gi m60 221 8).toInt = 0 ∨ (gi m5 221 8).toInt = 0) ∧ 0 ≤ (gi m60 221 8).toInt ∧ (gi m60 221 34).toInt = (gi m5 221 34).toInt ∧ gn (ga m60 223) (gi m60 221 34).toInt = gn (ga m5 223) (gi m5 221 34).toInt ∧ gn (ga m60 224) (gi m60 221 34).toInt = gn (ga m5 224) (gi m5 221 34).toInt ∧ gn (ga m60 228) (gi m60 221 34).toInt = gn (ga m5 228) (gi m5 221 34).toInt ∧ gn (ga m60 233) (gi m60 221 34).toInt = gn (ga m5 233) (gi m5 221 34).toInt)) → (gi m60 221 8).toInt ≤ 0 → ∀ (x64 : Int32), x64.toInt = (8 * (v62).toInt) → ∀ (x66 : Int32), x66.toInt = ((8 * (v62).toInt) + (v7).toInt) → ∀ (x68 : Int32), x68.toInt = (64 * (gi m60 221 34).toInt) → ∀ (x70 : Int32), x70.toInt = ((64 * (gi m60 221 34).toInt) + ((8 * (v62).toInt) + (v7).toInt)) → ∀ (y72 : Int32), y72.toInt = (gn (ga m60 227) ((64 * (gi m60 221 34).toInt) + ((8 * (v62).toInt) + (v7).toInt))) → ¬ (gn (ga m60 227) ((64 * (gi m60 221 34).toInt) + ((8 * (v62).toInt) + (v7).toInt))) = 1 → ¬ (iw).toInt = 0 → ∀ (v76 : Int32), True → ¬ (v76).toInt = 0 → aTm aT0 (si (si m60 221 8 4) 221 9 (gi m5 221 4)) → P (some (.int x66)) (si (si m60 221 8 4) 221 9 (gi m5 221 4))) (h15 : ∀ (y1 : Int32), y1.toInt = (gn (ga mem 223) (gi mem 221 34).toInt) → ∀ (x3 : Int32), x3.toInt = ((gn (ga mem 223) (gi mem 221 34).toInt) - 1) → ∀ (v7 : Int32) (m5 : zM), aTm aT0 m5 → ((tQ mem m5 ∧ (¬ (gi m5 221 8).toInt = 0 ∨ (0 ≤ v7.toInt ∧ v7.toInt ≤ x3.toInt))) ∧ ((¬ (gi m5 221 8).toInt = 0 ∨ (gi mem 221 8).toInt = 0) ∧ 0 ≤ (gi m5 221 8).toInt ∧ (gi m5 221 34).toInt = (gi mem 221 34).toInt ∧ gn (ga m5 223) (gi m5 221 34).toInt = gn (ga mem 223) (gi mem 221 34).toInt ∧ gn (ga m5 224) (gi m5 221 34).toInt = gn (ga mem 224) (gi mem 221 34).toInt ∧ gn (ga m5 228) (gi m5 221 34).toInt = gn (ga mem 228) (gi mem 221 34).toInt ∧ gn (ga m5 233) (gi m5 221 34).toInt = gn (ga mem 233) (gi mem 221 34).toInt)) → ¬ (gi m5 221 12).toInt = (-1) → 0 < (gi m5 221 8).toInt → ∀ (y56 : Int32), y56.toInt = (gn (ga m5 224) (gi m5 221 34).toInt) → ∀ (x58 : Int32), x58.toInt = ((gn (ga m5 224) (gi m5 221 34).toInt) - 1) → ∀ (v62 : Int32) (m60 : zM), aTm aT0 m60 → ((tQ m5 m60 ∧ (¬ (gi m60 221 8).toInt = 0 ∨ (0 ≤ v62.toInt ∧ v62.toInt ≤ x58.toInt))) ∧ ((¬ (gi m60 221 8).toInt = 0 ∨ (gi m5 221 8).toInt = 0) ∧ 0 ≤ (gi m60 221 8).toInt ∧ (gi m60 221 34).toInt = (gi m5 221 34).toInt ∧ gn (ga m60 223) (gi m60 221 34).toInt = gn (ga m5 223) (gi m5 221 34).toInt ∧ gn (ga m60 224) (gi m60 221 34).toInt = gn (ga m5 224) (gi m5 221 34).toInt ∧ gn (ga m60 228) (gi m60 221 34).toInt = gn (ga m5 228) (gi m5 221 34).toInt ∧ gn (ga m60 233) (gi m60 221 34).toInt = gn (ga m5 233) (gi m5 221 34).toInt)) → 0 < (gi m60 221 8).toInt → aTm aT0 m60 → P (some (.int 0)) m60) : yR zpg tX12_cellTold (d + 4) (0, [(0, .ref 221), (1, .int iw)], [], mem) P := by
  obtain ⟨i0, i1⟩ := mO_r34 hm
  refine yR_m 3 (fun _ _ _ _ => rfl) ?_
  refine wR_gr rfl mO_e mO_14 hm ?_
  refine yR_m 1 (fun _ _ _ _ => rfl) ?_
  refine wR_gi rfl mO_e mO_34 hm rfl ?_
  refine wN_al (a := (gi mem 221 34).toInt) rfl aR_223 hm rfl rfl (by omega) (fun y1 e2 => ?_)
  refine yR_m 1 (fun _ _ _ _ => rfl) ?_
  refine wN_sub (a := (gn (ga mem 223) (gi mem 221 34).toInt)) (b := 1) rfl e2 rfl (by omega) (fun x3 e4 => ?_)
  refine wR_cv rfl rfl mO_e hm rfl (pk_i (h_cy (b8 := (gi mem 221 8).toInt) rfl rfl rfl rfl rfl rfl rfl (fun _ _ q => by obtain ⟨_, _, _, q⟩ := q; exact q.1) (h_number5 (a := 0) (b := x3.toInt) rfl rfl hm hT (by omega)))) ?_
  rintro _ m5 ⟨v7, rfl, hm5, k6⟩
  show yR zpg tX12_cellTold (d + 4) (16, [(0, .ref 221), (1, .int iw)], [.int v7], m5) _
  refine yR_m 2 (fun _ _ _ _ => rfl) ?_
  refine wR_iv rfl rfl mO_e hm5 rfl rfl rfl rfl ?_
  show yR zpg tX12_lex (d + 3) (0, [(0, .ref 221)], [], m5) _
  refine yR_m 1 (fun _ _ _ _ => rfl) ?_
  refine wR_gi rfl mO_e mO_12 hm5 rfl ?_
  refine yR_m 1 (fun _ _ _ _ => rfl) ?_
  refine wR_ic_eq rfl (a := (gi m5 221 12).toInt) (c := (-1)) rfl tm1 (fun q8 => ?_) (fun q8 => ?_)
  ·
    refine yR_rv rfl ?_
    show yR zpg tX12_cellTold (d + 4) (21, [(2, .int v7), (0, .ref 221), (1, .int iw)], [], m5) _
    refine yR_m 1 (fun _ _ _ _ => rfl) ?_
    refine wR_gi rfl mO_e mO_4 hm5 rfl ?_
    refine yR_m 4 (fun _ _ _ _ => rfl) ?_
    refine wR_gr rfl mO_e mO_15 hm5 ?_
    refine yR_m 1 (fun _ _ _ _ => rfl) ?_
    refine wR_gi rfl mO_e mO_34 hm5 rfl ?_
    refine wN_al (a := (gi m5 221 34).toInt) rfl aR_224 hm5 rfl rfl (by omega) (fun y9 e10 => ?_)
    refine yR_m 1 (fun _ _ _ _ => rfl) ?_
    refine wN_sub (a := (gn (ga m5 224) (gi m5 221 34).toInt)) (b := 1) rfl e10 rfl (by omega) (fun x11 e12 => ?_)
    refine wR_cv rfl rfl mO_e hm5 rfl (pk_i (h_cy (b8 := (gi m5 221 8).toInt) rfl rfl rfl rfl rfl rfl rfl (fun _ _ q => by obtain ⟨_, _, _, q⟩ := q; exact q.1) (h_number5 (a := 0) (b := x11.toInt) rfl rfl hm5 k6.1.1.2.1 (by omega)))) ?_
    rintro _ m13 ⟨v15, rfl, hm13, k14⟩
    show yR zpg tX12_cellTold (d + 4) (42, [(3, .int (gi m5 221 4)), (2, .int v7), (0, .ref 221), (1, .int iw)], [.int v15], m13) _
    refine yR_m 2 (fun _ _ _ _ => rfl) ?_
    refine wR_gi rfl mO_e mO_8 hm13 rfl ?_
    refine wR_if_le rfl (a := (gi m13 221 8).toInt) rfl (fun q16 => ?_) (fun q16 => ?_)
    ·
      refine yR_m 2 (fun _ _ _ _ => rfl) ?_
      refine wN_mul (a := 8) (b := (v15).toInt) rfl rfl rfl (by omega) (fun x17 e18 => ?_)
      refine yR_m 1 (fun _ _ _ _ => rfl) ?_
      refine wN_add (a := (8 * (v15).toInt)) (b := (v7).toInt) rfl e18 rfl (by omega) (fun x19 e20 => ?_)
      refine yR_m 2 (fun _ _ _ _ => rfl) ?_
      refine wR_gr rfl mO_e mO_18 hm13 ?_
      refine yR_m 2 (fun _ _ _ _ => rfl) ?_
      refine wR_gi rfl mO_e mO_34 hm13 rfl ?_
      refine wN_mul (a := 64) (b := (gi m13 221 34).toInt) rfl rfl rfl (by omega) (fun x21 e22 => ?_)
      refine yR_m 1 (fun _ _ _ _ => rfl) ?_
      refine wN_add (a := (64 * (gi m13 221 34).toInt)) (b := ((8 * (v15).toInt) + (v7).toInt)) rfl e22 e20 (by omega) (fun x23 e24 => ?_)
      refine wN_al (a := ((64 * (gi m13 221 34).toInt) + ((8 * (v15).toInt) + (v7).toInt))) rfl aR_227 hm13 rfl e24 (by omega) (fun y25 e26 => ?_)
      refine yR_m 1 (fun _ _ _ _ => rfl) ?_
      refine wR_ic_eq rfl (a := (gn (ga m13 227) ((64 * (gi m13 221 34).toInt) + ((8 * (v15).toInt) + (v7).toInt)))) (c := 1) e26 rfl (fun q27 => ?_) (fun q27 => ?_)
      ·
        refine yR_m 3 (fun _ _ _ _ => rfl) ?_
        refine wR_iv rfl rfl mO_e hm13 rfl rfl rfl rfl ?_
        show yR zpg tX12_blame (d + 3) (0, [(0, .ref 221), (1, .int 4), (2, .int (gi m5 221 4))], [], m13) _
        refine yR_m 1 (fun _ _ _ _ => rfl) ?_
        refine wR_gi rfl mO_e mO_8 hm13 rfl ?_
        refine wR_if_le rfl (a := (gi m13 221 8).toInt) rfl (fun _ => ?_) (fun q => by exfalso; omega)
        refine yR_m 2 (fun _ _ _ _ => rfl) ?_
        refine wR_pi rfl mO_e mO_8 hm13 rfl ?_
        have hm_1 : aTm aT0 (si m13 221 8 4) := tm_si mO_e mO_8 hm13 (i32_b _)
        refine yR_m 2 (fun _ _ _ _ => rfl) ?_
        refine wR_pi rfl mO_e mO_9 hm_1 rfl ?_
        have hm_2 : aTm aT0 (si (si m13 221 8 4) 221 9 (gi m5 221 4)) := tm_si mO_e mO_9 hm_1 (i32_b _)
        refine yR_rv rfl ?_
        show yR zpg tX12_cellTold (d + 4) (100, [(5, .int x19), (4, .int v15), (3, .int (gi m5 221 4)), (2, .int v7), (0, .ref 221), (1, .int iw)], [], (si (si m13 221 8 4) 221 9 (gi m5 221 4))) _
        refine yR_m 1 (fun _ _ _ _ => rfl) ?_
        exact yR_ri rfl (h1 y1 e2 x3 e4 v7 m5 hm5 k6 q8 y9 e10 x11 e12 v15 m13 hm13 k14 q16 x17 e18 x19 e20 x21 e22 x23 e24 y25 e26 q27 hm_2)
      ·
        refine yR_m 1 (fun _ _ _ _ => rfl) ?_
        refine wR_if_eq rfl (a := (iw).toInt) rfl (fun q28 => ?_) (fun q28 => ?_)
        ·
          refine yR_m 1 (fun _ _ _ _ => rfl) ?_
          exact yR_ri rfl (h2 y1 e2 x3 e4 v7 m5 hm5 k6 q8 y9 e10 x11 e12 v15 m13 hm13 k14 q16 x17 e18 x19 e20 x21 e22 x23 e24 y25 e26 q27 q28 hm13)
        ·
          refine yR_m 2 (fun _ _ _ _ => rfl) ?_
          refine wR_cv rfl rfl mO_e hm13 rfl (c_isInTheWay hm13 (by omega)) ?_
          rintro _ _ ⟨v29, rfl, rfl, k30⟩
          show yR zpg tX12_cellTold (d + 4) (91, [(5, .int x19), (4, .int v15), (3, .int (gi m5 221 4)), (2, .int v7), (0, .ref 221), (1, .int iw)], [.int v29], m13) _
          refine wR_if_eq rfl (a := (v29).toInt) rfl (fun q31 => ?_) (fun q31 => ?_)
          ·
            refine yR_m 1 (fun _ _ _ _ => rfl) ?_
            exact yR_ri rfl (h3 y1 e2 x3 e4 v7 m5 hm5 k6 q8 y9 e10 x11 e12 v15 m13 hm13 k14 q16 x17 e18 x19 e20 x21 e22 x23 e24 y25 e26 q27 q28 v29 k30 q31 hm13)
          ·
            refine yR_m 3 (fun _ _ _ _ => rfl) ?_
            refine wR_iv rfl rfl mO_e hm13 rfl rfl rfl rfl ?_
            show yR zpg tX12_blame (d + 3) (0, [(0, .ref 221), (1, .int 4), (2, .int (gi m5 221 4))], [], m13) _
            refine yR_m 1 (fun _ _ _ _ => rfl) ?_
            refine wR_gi rfl mO_e mO_8 hm13 rfl ?_
            refine wR_if_le rfl (a := (gi m13 221 8).toInt) rfl (fun _ => ?_) (fun q => by exfalso; omega)
            refine yR_m 2 (fun _ _ _ _ => rfl) ?_
            refine wR_pi rfl mO_e mO_8 hm13 rfl ?_
            have hm_3 : aTm aT0 (si m13 221 8 4) := tm_si mO_e mO_8 hm13 (i32_b _)
            refine yR_m 2 (fun _ _ _ _ => rfl) ?_
            refine wR_pi rfl mO_e mO_9 hm_3 rfl ?_
            have hm_4 : aTm aT0 (si (si m13 221 8 4) 221 9 (gi m5 221 4)) := tm_si mO_e mO_9 hm_3 (i32_b _)
            refine yR_rv rfl ?_
            show yR zpg tX12_cellTold (d + 4) (100, [(5, .int x19), (4, .int v15), (3, .int (gi m5 221 4)), (2, .int v7), (0, .ref 221), (1, .int iw)], [], (si (si m13 221 8 4) 221 9 (gi m5 221 4))) _
            refine yR_m 1 (fun _ _ _ _ => rfl) ?_
            exact yR_ri rfl (h4 y1 e2 x3 e4 v7 m5 hm5 k6 q8 y9 e10 x11 e12 v15 m13 hm13 k14 q16 x17 e18 x19 e20 x21 e22 x23 e24 y25 e26 q27 q28 v29 k30 q31 hm_4)
    ·
      refine yR_m 1 (fun _ _ _ _ => rfl) ?_
      exact yR_ri rfl (h5 y1 e2 x3 e4 v7 m5 hm5 k6 q8 y9 e10 x11 e12 v15 m13 hm13 k14 q16 hm13)
  ·
    refine yR_m 3 (fun _ _ _ _ => rfl) ?_
    refine wR_gi rfl mO_e mO_12 hm5 rfl ?_
    refine wR_iv rfl rfl mO_e hm5 rfl rfl rfl rfl ?_
    show yR zpg tX12_blame (d + 2) (0, [(0, .ref 221), (1, .int 1), (2, .int (gi m5 221 12))], [], m5) _
    refine yR_m 1 (fun _ _ _ _ => rfl) ?_
    refine wR_gi rfl mO_e mO_8 hm5 rfl ?_
    refine wR_if_le rfl (a := (gi m5 221 8).toInt) rfl (fun q32 => ?_) (fun q32 => ?_)
    ·
      refine yR_m 2 (fun _ _ _ _ => rfl) ?_
      refine wR_pi rfl mO_e mO_8 hm5 rfl ?_
      have hm_5 : aTm aT0 (si m5 221 8 1) := tm_si mO_e mO_8 hm5 (i32_b _)
      refine yR_m 2 (fun _ _ _ _ => rfl) ?_
      refine wR_pi rfl mO_e mO_9 hm_5 rfl ?_
      have hm_6 : aTm aT0 (si (si m5 221 8 1) 221 9 (gi m5 221 12)) := tm_si mO_e mO_9 hm_5 (i32_b _)
      refine yR_rv rfl ?_
      show yR zpg tX12_lex (d + 3) (17, [(0, .ref 221)], [], (si (si m5 221 8 1) 221 9 (gi m5 221 12))) _
      refine yR_rv rfl ?_
      show yR zpg tX12_cellTold (d + 4) (21, [(2, .int v7), (0, .ref 221), (1, .int iw)], [], (si (si m5 221 8 1) 221 9 (gi m5 221 12))) _
      refine yR_m 1 (fun _ _ _ _ => rfl) ?_
      refine wR_gi rfl mO_e mO_4 hm_6 ((gi_sv_ne (by decide)).trans (gi_sv_ne (by decide))) ?_
      refine yR_m 4 (fun _ _ _ _ => rfl) ?_
      refine wR_gr rfl mO_e mO_15 hm_6 ?_
      refine yR_m 1 (fun _ _ _ _ => rfl) ?_
      refine wR_gi rfl mO_e mO_34 hm_6 ((gi_sv_ne (by decide)).trans (gi_sv_ne (by decide))) ?_
      refine wN_al (a := (gi m5 221 34).toInt) rfl aR_224 hm_6 ((ga_sv).trans (ga_sv)) rfl (by omega) (fun y33 e34 => ?_)
      refine yR_m 1 (fun _ _ _ _ => rfl) ?_
      refine wN_sub (a := (gn (ga m5 224) (gi m5 221 34).toInt)) (b := 1) rfl e34 rfl (by omega) (fun x35 e36 => ?_)
      refine wR_cv rfl rfl mO_e hm_6 rfl (pk_i (h_cy (b8 := (1 : Int)) rfl ((gi_sv_ne (by decide)).trans (gi_sv_ne (by decide))) ((gi_sv_ne (by decide)).trans (gi_si_eq mO_e mO_8 hm5)) (((ga_sv).trans (ga_sv))) (((ga_sv).trans (ga_sv))) (((ga_sv).trans (ga_sv))) (((ga_sv).trans (ga_sv))) (fun _ _ q => by obtain ⟨_, _, _, q⟩ := q; exact q.1) (h_number5 (a := 0) (b := x35.toInt) rfl rfl hm_6 (tOK_fr (ks := [223, 224, 225, 226, 227, 228, 229, 230, 231, 232, 233, 234, 235, 236, 237, 240, 241]) (is := [8, 9]) (fr_sv rfl (fr_sv rfl (fr_rf))) rfl rfl rfl rfl (by show 0 ≤ (gi (si (si m5 221 8 1) 221 9 (gi m5 221 12)) 221 8).toInt; rw [((gi_sv_ne (by decide)).trans (gi_eqO (isO_of hm5) (by decide)))]; decide) k6.1.1.2.1) (by omega)))) ?_
      rintro _ m37 ⟨v39, rfl, hm37, k38⟩
      show yR zpg tX12_cellTold (d + 4) (42, [(3, .int (gi m5 221 4)), (2, .int v7), (0, .ref 221), (1, .int iw)], [.int v39], m37) _
      refine yR_m 2 (fun _ _ _ _ => rfl) ?_
      refine wR_gi rfl mO_e mO_8 hm37 rfl ?_
      refine wR_if_le rfl (a := (gi m37 221 8).toInt) rfl (fun q40 => ?_) (fun q40 => ?_)
      ·
        refine yR_m 2 (fun _ _ _ _ => rfl) ?_
        refine wN_mul (a := 8) (b := (v39).toInt) rfl rfl rfl (by omega) (fun x41 e42 => ?_)
        refine yR_m 1 (fun _ _ _ _ => rfl) ?_
        refine wN_add (a := (8 * (v39).toInt)) (b := (v7).toInt) rfl e42 rfl (by omega) (fun x43 e44 => ?_)
        refine yR_m 2 (fun _ _ _ _ => rfl) ?_
        refine wR_gr rfl mO_e mO_18 hm37 ?_
        refine yR_m 2 (fun _ _ _ _ => rfl) ?_
        refine wR_gi rfl mO_e mO_34 hm37 rfl ?_
        refine wN_mul (a := 64) (b := (gi m37 221 34).toInt) rfl rfl rfl (by omega) (fun x45 e46 => ?_)
        refine yR_m 1 (fun _ _ _ _ => rfl) ?_
        refine wN_add (a := (64 * (gi m37 221 34).toInt)) (b := ((8 * (v39).toInt) + (v7).toInt)) rfl e46 e44 (by omega) (fun x47 e48 => ?_)
        refine wN_al (a := ((64 * (gi m37 221 34).toInt) + ((8 * (v39).toInt) + (v7).toInt))) rfl aR_227 hm37 rfl e48 (by omega) (fun y49 e50 => ?_)
        refine yR_m 1 (fun _ _ _ _ => rfl) ?_
        refine wR_ic_eq rfl (a := (gn (ga m37 227) ((64 * (gi m37 221 34).toInt) + ((8 * (v39).toInt) + (v7).toInt)))) (c := 1) e50 rfl (fun q51 => ?_) (fun q51 => ?_)
        ·
          refine yR_m 3 (fun _ _ _ _ => rfl) ?_
          refine wR_iv rfl rfl mO_e hm37 rfl rfl rfl rfl ?_
          show yR zpg tX12_blame (d + 3) (0, [(0, .ref 221), (1, .int 4), (2, .int (gi m5 221 4))], [], m37) _
          refine yR_m 1 (fun _ _ _ _ => rfl) ?_
          refine wR_gi rfl mO_e mO_8 hm37 rfl ?_
          refine wR_if_le rfl (a := (gi m37 221 8).toInt) rfl (fun _ => ?_) (fun q => by exfalso; omega)
          refine yR_m 2 (fun _ _ _ _ => rfl) ?_
          refine wR_pi rfl mO_e mO_8 hm37 rfl ?_
          have hm_7 : aTm aT0 (si m37 221 8 4) := tm_si mO_e mO_8 hm37 (i32_b _)
          refine yR_m 2 (fun _ _ _ _ => rfl) ?_
          refine wR_pi rfl mO_e mO_9 hm_7 rfl ?_
          have hm_8 : aTm aT0 (si (si m37 221 8 4) 221 9 (gi m5 221 4)) := tm_si mO_e mO_9 hm_7 (i32_b _)
          refine yR_rv rfl ?_
          show yR zpg tX12_cellTold (d + 4) (100, [(5, .int x43), (4, .int v39), (3, .int (gi m5 221 4)), (2, .int v7), (0, .ref 221), (1, .int iw)], [], (si (si m37 221 8 4) 221 9 (gi m5 221 4))) _
          refine yR_m 1 (fun _ _ _ _ => rfl) ?_
          exact yR_ri rfl (h6 y1 e2 x3 e4 v7 m5 hm5 k6 q8 q32 y33 e34 x35 e36 v39 m37 hm37 k38 q40 x41 e42 x43 e44 x45 e46 x47 e48 y49 e50 q51 hm_8)
        ·
          refine yR_m 1 (fun _ _ _ _ => rfl) ?_
          refine wR_if_eq rfl (a := (iw).toInt) rfl (fun q52 => ?_) (fun q52 => ?_)
          ·
            refine yR_m 1 (fun _ _ _ _ => rfl) ?_
            exact yR_ri rfl (h7 y1 e2 x3 e4 v7 m5 hm5 k6 q8 q32 y33 e34 x35 e36 v39 m37 hm37 k38 q40 x41 e42 x43 e44 x45 e46 x47 e48 y49 e50 q51 q52 hm37)
          ·
            refine yR_m 2 (fun _ _ _ _ => rfl) ?_
            refine wR_cv rfl rfl mO_e hm37 rfl (c_isInTheWay hm37 (by omega)) ?_
            rintro _ _ ⟨v53, rfl, rfl, k54⟩
            show yR zpg tX12_cellTold (d + 4) (91, [(5, .int x43), (4, .int v39), (3, .int (gi m5 221 4)), (2, .int v7), (0, .ref 221), (1, .int iw)], [.int v53], m37) _
            refine wR_if_eq rfl (a := (v53).toInt) rfl (fun q55 => ?_) (fun q55 => ?_)
            ·
              refine yR_m 1 (fun _ _ _ _ => rfl) ?_
              exact yR_ri rfl (h8 y1 e2 x3 e4 v7 m5 hm5 k6 q8 q32 y33 e34 x35 e36 v39 m37 hm37 k38 q40 x41 e42 x43 e44 x45 e46 x47 e48 y49 e50 q51 q52 v53 k54 q55 hm37)
            ·
              refine yR_m 3 (fun _ _ _ _ => rfl) ?_
              refine wR_iv rfl rfl mO_e hm37 rfl rfl rfl rfl ?_
              show yR zpg tX12_blame (d + 3) (0, [(0, .ref 221), (1, .int 4), (2, .int (gi m5 221 4))], [], m37) _
              refine yR_m 1 (fun _ _ _ _ => rfl) ?_
              refine wR_gi rfl mO_e mO_8 hm37 rfl ?_
              refine wR_if_le rfl (a := (gi m37 221 8).toInt) rfl (fun _ => ?_) (fun q => by exfalso; omega)
              refine yR_m 2 (fun _ _ _ _ => rfl) ?_
              refine wR_pi rfl mO_e mO_8 hm37 rfl ?_
              have hm_9 : aTm aT0 (si m37 221 8 4) := tm_si mO_e mO_8 hm37 (i32_b _)
              refine yR_m 2 (fun _ _ _ _ => rfl) ?_
              refine wR_pi rfl mO_e mO_9 hm_9 rfl ?_
              have hm_10 : aTm aT0 (si (si m37 221 8 4) 221 9 (gi m5 221 4)) := tm_si mO_e mO_9 hm_9 (i32_b _)
              refine yR_rv rfl ?_
              show yR zpg tX12_cellTold (d + 4) (100, [(5, .int x43), (4, .int v39), (3, .int (gi m5 221 4)), (2, .int v7), (0, .ref 221), (1, .int iw)], [], (si (si m37 221 8 4) 221 9 (gi m5 221 4))) _
              refine yR_m 1 (fun _ _ _ _ => rfl) ?_
              exact yR_ri rfl (h9 y1 e2 x3 e4 v7 m5 hm5 k6 q8 q32 y33 e34 x35 e36 v39 m37 hm37 k38 q40 x41 e42 x43 e44 x45 e46 x47 e48 y49 e50 q51 q52 v53 k54 q55 hm_10)
      ·
        refine yR_m 1 (fun _ _ _ _ => rfl) ?_
        exact yR_ri rfl (h10 y1 e2 x3 e4 v7 m5 hm5 k6 q8 q32 y33 e34 x35 e36 v39 m37 hm37 k38 q40 hm37)
    ·
      refine yR_rv rfl ?_
      show yR zpg tX12_lex (d + 3) (17, [(0, .ref 221)], [], m5) _
      refine yR_rv rfl ?_
      show yR zpg tX12_cellTold (d + 4) (21, [(2, .int v7), (0, .ref 221), (1, .int iw)], [], m5) _
      refine yR_m 1 (fun _ _ _ _ => rfl) ?_
      refine wR_gi rfl mO_e mO_4 hm5 rfl ?_
      refine yR_m 4 (fun _ _ _ _ => rfl) ?_
      refine wR_gr rfl mO_e mO_15 hm5 ?_
      refine yR_m 1 (fun _ _ _ _ => rfl) ?_
      refine wR_gi rfl mO_e mO_34 hm5 rfl ?_
      refine wN_al (a := (gi m5 221 34).toInt) rfl aR_224 hm5 rfl rfl (by omega) (fun y56 e57 => ?_)
      refine yR_m 1 (fun _ _ _ _ => rfl) ?_
      refine wN_sub (a := (gn (ga m5 224) (gi m5 221 34).toInt)) (b := 1) rfl e57 rfl (by omega) (fun x58 e59 => ?_)
      refine wR_cv rfl rfl mO_e hm5 rfl (pk_i (h_cy (b8 := (gi m5 221 8).toInt) rfl rfl rfl rfl rfl rfl rfl (fun _ _ q => by obtain ⟨_, _, _, q⟩ := q; exact q.1) (h_number5 (a := 0) (b := x58.toInt) rfl rfl hm5 k6.1.1.2.1 (by omega)))) ?_
      rintro _ m60 ⟨v62, rfl, hm60, k61⟩
      show yR zpg tX12_cellTold (d + 4) (42, [(3, .int (gi m5 221 4)), (2, .int v7), (0, .ref 221), (1, .int iw)], [.int v62], m60) _
      refine yR_m 2 (fun _ _ _ _ => rfl) ?_
      refine wR_gi rfl mO_e mO_8 hm60 rfl ?_
      refine wR_if_le rfl (a := (gi m60 221 8).toInt) rfl (fun q63 => ?_) (fun q63 => ?_)
      ·
        refine yR_m 2 (fun _ _ _ _ => rfl) ?_
        refine wN_mul (a := 8) (b := (v62).toInt) rfl rfl rfl (by omega) (fun x64 e65 => ?_)
        refine yR_m 1 (fun _ _ _ _ => rfl) ?_
        refine wN_add (a := (8 * (v62).toInt)) (b := (v7).toInt) rfl e65 rfl (by omega) (fun x66 e67 => ?_)
        refine yR_m 2 (fun _ _ _ _ => rfl) ?_
        refine wR_gr rfl mO_e mO_18 hm60 ?_
        refine yR_m 2 (fun _ _ _ _ => rfl) ?_
        refine wR_gi rfl mO_e mO_34 hm60 rfl ?_
        refine wN_mul (a := 64) (b := (gi m60 221 34).toInt) rfl rfl rfl (by omega) (fun x68 e69 => ?_)
        refine yR_m 1 (fun _ _ _ _ => rfl) ?_
        refine wN_add (a := (64 * (gi m60 221 34).toInt)) (b := ((8 * (v62).toInt) + (v7).toInt)) rfl e69 e67 (by omega) (fun x70 e71 => ?_)
        refine wN_al (a := ((64 * (gi m60 221 34).toInt) + ((8 * (v62).toInt) + (v7).toInt))) rfl aR_227 hm60 rfl e71 (by omega) (fun y72 e73 => ?_)
        refine yR_m 1 (fun _ _ _ _ => rfl) ?_
        refine wR_ic_eq rfl (a := (gn (ga m60 227) ((64 * (gi m60 221 34).toInt) + ((8 * (v62).toInt) + (v7).toInt)))) (c := 1) e73 rfl (fun q74 => ?_) (fun q74 => ?_)
        ·
          refine yR_m 3 (fun _ _ _ _ => rfl) ?_
          refine wR_iv rfl rfl mO_e hm60 rfl rfl rfl rfl ?_
          show yR zpg tX12_blame (d + 3) (0, [(0, .ref 221), (1, .int 4), (2, .int (gi m5 221 4))], [], m60) _
          refine yR_m 1 (fun _ _ _ _ => rfl) ?_
          refine wR_gi rfl mO_e mO_8 hm60 rfl ?_
          refine wR_if_le rfl (a := (gi m60 221 8).toInt) rfl (fun _ => ?_) (fun q => by exfalso; omega)
          refine yR_m 2 (fun _ _ _ _ => rfl) ?_
          refine wR_pi rfl mO_e mO_8 hm60 rfl ?_
          have hm_11 : aTm aT0 (si m60 221 8 4) := tm_si mO_e mO_8 hm60 (i32_b _)
          refine yR_m 2 (fun _ _ _ _ => rfl) ?_
          refine wR_pi rfl mO_e mO_9 hm_11 rfl ?_
          have hm_12 : aTm aT0 (si (si m60 221 8 4) 221 9 (gi m5 221 4)) := tm_si mO_e mO_9 hm_11 (i32_b _)
          refine yR_rv rfl ?_
          show yR zpg tX12_cellTold (d + 4) (100, [(5, .int x66), (4, .int v62), (3, .int (gi m5 221 4)), (2, .int v7), (0, .ref 221), (1, .int iw)], [], (si (si m60 221 8 4) 221 9 (gi m5 221 4))) _
          refine yR_m 1 (fun _ _ _ _ => rfl) ?_
          exact yR_ri rfl (h11 y1 e2 x3 e4 v7 m5 hm5 k6 q8 q32 y56 e57 x58 e59 v62 m60 hm60 k61 q63 x64 e65 x66 e67 x68 e69 x70 e71 y72 e73 q74 hm_12)
        ·
          refine yR_m 1 (fun _ _ _ _ => rfl) ?_
          refine wR_if_eq rfl (a := (iw).toInt) rfl (fun q75 => ?_) (fun q75 => ?_)
          ·
            refine yR_m 1 (fun _ _ _ _ => rfl) ?_
            exact yR_ri rfl (h12 y1 e2 x3 e4 v7 m5 hm5 k6 q8 q32 y56 e57 x58 e59 v62 m60 hm60 k61 q63 x64 e65 x66 e67 x68 e69 x70 e71 y72 e73 q74 q75 hm60)
          ·
            refine yR_m 2 (fun _ _ _ _ => rfl) ?_
            refine wR_cv rfl rfl mO_e hm60 rfl (c_isInTheWay hm60 (by omega)) ?_
            rintro _ _ ⟨v76, rfl, rfl, k77⟩
            show yR zpg tX12_cellTold (d + 4) (91, [(5, .int x66), (4, .int v62), (3, .int (gi m5 221 4)), (2, .int v7), (0, .ref 221), (1, .int iw)], [.int v76], m60) _
            refine wR_if_eq rfl (a := (v76).toInt) rfl (fun q78 => ?_) (fun q78 => ?_)
            ·
              refine yR_m 1 (fun _ _ _ _ => rfl) ?_
              exact yR_ri rfl (h13 y1 e2 x3 e4 v7 m5 hm5 k6 q8 q32 y56 e57 x58 e59 v62 m60 hm60 k61 q63 x64 e65 x66 e67 x68 e69 x70 e71 y72 e73 q74 q75 v76 k77 q78 hm60)
            ·
              refine yR_m 3 (fun _ _ _ _ => rfl) ?_
              refine wR_iv rfl rfl mO_e hm60 rfl rfl rfl rfl ?_
              show yR zpg tX12_blame (d + 3) (0, [(0, .ref 221), (1, .int 4), (2, .int (gi m5 221 4))], [], m60) _
              refine yR_m 1 (fun _ _ _ _ => rfl) ?_
              refine wR_gi rfl mO_e mO_8 hm60 rfl ?_
              refine wR_if_le rfl (a := (gi m60 221 8).toInt) rfl (fun _ => ?_) (fun q => by exfalso; omega)
              refine yR_m 2 (fun _ _ _ _ => rfl) ?_
              refine wR_pi rfl mO_e mO_8 hm60 rfl ?_
              have hm_13 : aTm aT0 (si m60 221 8 4) := tm_si mO_e mO_8 hm60 (i32_b _)
              refine yR_m 2 (fun _ _ _ _ => rfl) ?_
              refine wR_pi rfl mO_e mO_9 hm_13 rfl ?_
              have hm_14 : aTm aT0 (si (si m60 221 8 4) 221 9 (gi m5 221 4)) := tm_si mO_e mO_9 hm_13 (i32_b _)
              refine yR_rv rfl ?_
              show yR zpg tX12_cellTold (d + 4) (100, [(5, .int x66), (4, .int v62), (3, .int (gi m5 221 4)), (2, .int v7), (0, .ref 221), (1, .int iw)], [], (si (si m60 221 8 4) 221 9 (gi m5 221 4))) _
              refine yR_m 1 (fun _ _ _ _ => rfl) ?_
              exact yR_ri rfl (h14 y1 e2 x3 e4 v7 m5 hm5 k6 q8 q32 y56 e57 x58 e59 v62 m60 hm60 k61 q63 x64 e65 x66 e67 x68 e69 x70 e71 y72 e73 q74 q75 v76 k77 q78 hm_14)
      ·
        refine yR_m 1 (fun _ _ _ _ => rfl) ?_
        exact yR_ri rfl (h15 y1 e2 x3 e4 v7 m5 hm5 k6 q8 q32 y56 e57 x58 e59 v62 m60 hm60 k61 q63 hm60)

theorem h_cellTold {iw : Int32} (hm : aTm aT0 mem) (hT : tOK mem) (hc : 3 ≤ gn (ga mem 223) (gi mem 221 34).toInt ∧ gn (ga mem 223) (gi mem 221 34).toInt ≤ 7) (hr : 3 ≤ gn (ga mem 224) (gi mem 221 34).toInt ∧ gn (ga mem 224) (gi mem 221 34).toInt ≤ 7) (hd : 5 ≤ d) : yC zpg d 196 [.ref 221, .int iw] mem (fun r m => ∃ v : Int32, r = some (.int v) ∧ aTm aT0 m ∧ (tQ mem m ∧ 0 ≤ v.toInt ∧ v.toInt ≤ 63)) := by
  obtain ⟨d, rfl⟩ : ∃ q, d = q + 5 := ⟨d - 5, by omega⟩
  have hT8 : 0 ≤ (gi mem 221 8).toInt := hT.2
  refine yC_of (t := tX12_cellTold) rfl rfl ?_
  exact w_cellTold hm hT hc hr
        (fun y1 e2 x3 e4 v7 m5 hm5 k6 q8 y9 e10 x11 e12 v15 m13 hm13 k14 q16 x17 e18 x19 e20 x21 e22 x23 e24 y25 e26 q27 hm2 => ⟨_, rfl, hm2, tQ_s (stQ_b (stQ_tr (stQ_t k6.1.1) (stQ_t k14.1.1)) (fr_sv rfl (fr_sv rfl fr_rf)) (by show 1 ≤ (gi (si (si m13 221 8 4) 221 9 (gi m5 221 4)) 221 8).toInt; rw [((gi_sv_ne (by decide)).trans (gi_eqO (isO_of hm13) (by decide)))]; decide)), by first | decide | omega, by first | decide | omega⟩)
        (fun y1 e2 x3 e4 v7 m5 hm5 k6 q8 y9 e10 x11 e12 v15 m13 hm13 k14 q16 x17 e18 x19 e20 x21 e22 x23 e24 y25 e26 q27 q28 hm2 => ⟨_, rfl, hm2, tQ_s (stQ_tr (stQ_t k6.1.1) (stQ_t k14.1.1)), by first | decide | omega, by first | decide | omega⟩)
        (fun y1 e2 x3 e4 v7 m5 hm5 k6 q8 y9 e10 x11 e12 v15 m13 hm13 k14 q16 x17 e18 x19 e20 x21 e22 x23 e24 y25 e26 q27 q28 v29 k30 q31 hm2 => ⟨_, rfl, hm2, tQ_s (stQ_tr (stQ_t k6.1.1) (stQ_t k14.1.1)), by first | decide | omega, by first | decide | omega⟩)
        (fun y1 e2 x3 e4 v7 m5 hm5 k6 q8 y9 e10 x11 e12 v15 m13 hm13 k14 q16 x17 e18 x19 e20 x21 e22 x23 e24 y25 e26 q27 q28 v29 k30 q31 hm2 => ⟨_, rfl, hm2, tQ_s (stQ_b (stQ_tr (stQ_t k6.1.1) (stQ_t k14.1.1)) (fr_sv rfl (fr_sv rfl fr_rf)) (by show 1 ≤ (gi (si (si m13 221 8 4) 221 9 (gi m5 221 4)) 221 8).toInt; rw [((gi_sv_ne (by decide)).trans (gi_eqO (isO_of hm13) (by decide)))]; decide)), by first | decide | omega, by first | decide | omega⟩)
        (fun y1 e2 x3 e4 v7 m5 hm5 k6 q8 y9 e10 x11 e12 v15 m13 hm13 k14 q16 hm2 => ⟨_, rfl, hm2, tQ_s (stQ_tr (stQ_t k6.1.1) (stQ_t k14.1.1)), by first | decide | omega, by first | decide | omega⟩)
        (fun y1 e2 x3 e4 v7 m5 hm5 k6 q8 q32 y33 e34 x35 e36 v39 m37 hm37 k38 q40 x41 e42 x43 e44 x45 e46 x47 e48 y49 e50 q51 hm2 => ⟨_, rfl, hm2, tQ_s (stQ_b (stQ_tr (stQ_b (stQ_t k6.1.1) (fr_sv rfl (fr_sv rfl fr_rf)) (by show 1 ≤ (gi (si (si m5 221 8 1) 221 9 (gi m5 221 12)) 221 8).toInt; rw [((gi_sv_ne (by decide)).trans (gi_eqO (isO_of hm5) (by decide)))]; decide)) (stQ_t k38.1.1)) (fr_sv rfl (fr_sv rfl fr_rf)) (by show 1 ≤ (gi (si (si m37 221 8 4) 221 9 (gi m5 221 4)) 221 8).toInt; rw [((gi_sv_ne (by decide)).trans (gi_eqO (isO_of hm37) (by decide)))]; decide)), by first | decide | omega, by first | decide | omega⟩)
        (fun y1 e2 x3 e4 v7 m5 hm5 k6 q8 q32 y33 e34 x35 e36 v39 m37 hm37 k38 q40 x41 e42 x43 e44 x45 e46 x47 e48 y49 e50 q51 q52 hm2 => ⟨_, rfl, hm2, tQ_s (stQ_tr (stQ_b (stQ_t k6.1.1) (fr_sv rfl (fr_sv rfl fr_rf)) (by show 1 ≤ (gi (si (si m5 221 8 1) 221 9 (gi m5 221 12)) 221 8).toInt; rw [((gi_sv_ne (by decide)).trans (gi_eqO (isO_of hm5) (by decide)))]; decide)) (stQ_t k38.1.1)), by first | decide | omega, by first | decide | omega⟩)
        (fun y1 e2 x3 e4 v7 m5 hm5 k6 q8 q32 y33 e34 x35 e36 v39 m37 hm37 k38 q40 x41 e42 x43 e44 x45 e46 x47 e48 y49 e50 q51 q52 v53 k54 q55 hm2 => ⟨_, rfl, hm2, tQ_s (stQ_tr (stQ_b (stQ_t k6.1.1) (fr_sv rfl (fr_sv rfl fr_rf)) (by show 1 ≤ (gi (si (si m5 221 8 1) 221 9 (gi m5 221 12)) 221 8).toInt; rw [((gi_sv_ne (by decide)).trans (gi_eqO (isO_of hm5) (by decide)))]; decide)) (stQ_t k38.1.1)), by first | decide | omega, by first | decide | omega⟩)
        (fun y1 e2 x3 e4 v7 m5 hm5 k6 q8 q32 y33 e34 x35 e36 v39 m37 hm37 k38 q40 x41 e42 x43 e44 x45 e46 x47 e48 y49 e50 q51 q52 v53 k54 q55 hm2 => ⟨_, rfl, hm2, tQ_s (stQ_b (stQ_tr (stQ_b (stQ_t k6.1.1) (fr_sv rfl (fr_sv rfl fr_rf)) (by show 1 ≤ (gi (si (si m5 221 8 1) 221 9 (gi m5 221 12)) 221 8).toInt; rw [((gi_sv_ne (by decide)).trans (gi_eqO (isO_of hm5) (by decide)))]; decide)) (stQ_t k38.1.1)) (fr_sv rfl (fr_sv rfl fr_rf)) (by show 1 ≤ (gi (si (si m37 221 8 4) 221 9 (gi m5 221 4)) 221 8).toInt; rw [((gi_sv_ne (by decide)).trans (gi_eqO (isO_of hm37) (by decide)))]; decide)), by first | decide | omega, by first | decide | omega⟩)
        (fun y1 e2 x3 e4 v7 m5 hm5 k6 q8 q32 y33 e34 x35 e36 v39 m37 hm37 k38 q40 hm2 => ⟨_, rfl, hm2, tQ_s (stQ_tr (stQ_b (stQ_t k6.1.1) (fr_sv rfl (fr_sv rfl fr_rf)) (by show 1 ≤ (gi (si (si m5 221 8 1) 221 9 (gi m5 221 12)) 221 8).toInt; rw [((gi_sv_ne (by decide)).trans (gi_eqO (isO_of hm5) (by decide)))]; decide)) (stQ_t k38.1.1)), by first | decide | omega, by first | decide | omega⟩)
        (fun y1 e2 x3 e4 v7 m5 hm5 k6 q8 q32 y56 e57 x58 e59 v62 m60 hm60 k61 q63 x64 e65 x66 e67 x68 e69 x70 e71 y72 e73 q74 hm2 => ⟨_, rfl, hm2, tQ_s (stQ_b (stQ_tr (stQ_t k6.1.1) (stQ_t k61.1.1)) (fr_sv rfl (fr_sv rfl fr_rf)) (by show 1 ≤ (gi (si (si m60 221 8 4) 221 9 (gi m5 221 4)) 221 8).toInt; rw [((gi_sv_ne (by decide)).trans (gi_eqO (isO_of hm60) (by decide)))]; decide)), by first | decide | omega, by first | decide | omega⟩)
        (fun y1 e2 x3 e4 v7 m5 hm5 k6 q8 q32 y56 e57 x58 e59 v62 m60 hm60 k61 q63 x64 e65 x66 e67 x68 e69 x70 e71 y72 e73 q74 q75 hm2 => ⟨_, rfl, hm2, tQ_s (stQ_tr (stQ_t k6.1.1) (stQ_t k61.1.1)), by first | decide | omega, by first | decide | omega⟩)
        (fun y1 e2 x3 e4 v7 m5 hm5 k6 q8 q32 y56 e57 x58 e59 v62 m60 hm60 k61 q63 x64 e65 x66 e67 x68 e69 x70 e71 y72 e73 q74 q75 v76 k77 q78 hm2 => ⟨_, rfl, hm2, tQ_s (stQ_tr (stQ_t k6.1.1) (stQ_t k61.1.1)), by first | decide | omega, by first | decide | omega⟩)
        (fun y1 e2 x3 e4 v7 m5 hm5 k6 q8 q32 y56 e57 x58 e59 v62 m60 hm60 k61 q63 x64 e65 x66 e67 x68 e69 x70 e71 y72 e73 q74 q75 v76 k77 q78 hm2 => ⟨_, rfl, hm2, tQ_s (stQ_b (stQ_tr (stQ_t k6.1.1) (stQ_t k61.1.1)) (fr_sv rfl (fr_sv rfl fr_rf)) (by show 1 ≤ (gi (si (si m60 221 8 4) 221 9 (gi m5 221 4)) 221 8).toInt; rw [((gi_sv_ne (by decide)).trans (gi_eqO (isO_of hm60) (by decide)))]; decide)), by first | decide | omega, by first | decide | omega⟩)
        (fun y1 e2 x3 e4 v7 m5 hm5 k6 q8 q32 y56 e57 x58 e59 v62 m60 hm60 k61 q63 hm2 => ⟨_, rfl, hm2, tQ_s (stQ_tr (stQ_t k6.1.1) (stQ_t k61.1.1)), by first | decide | omega, by first | decide | omega⟩)
end CE
