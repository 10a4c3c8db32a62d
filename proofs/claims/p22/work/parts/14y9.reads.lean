/-! the class reads a quay -/
section DB
variable {d : Nat} {mr mem m : zM} {T : List Int32} {n p q v a b : Int} {Q : Qd}
theorem ga_zz {k : Nat} (h : zat m k = zat mr k) : ga m k = ga mr k := by
  unfold ga
  rw [h]
theorem bz_26 {i : Nat} (F : ∀ k, ¬ k = 27 → zat m k = zat mr k) (h : ¬ 26 = 27) : zfl m 26 i = zfl mr 26 i := zfl_ea (F 26 h)
theorem cz_26 {i a b c e : Nat} (F : ∀ k, ¬ k = a → ¬ k = b → ¬ k = c → ¬ k = e → zat m k = zat mr k) (h : ¬ 26 = a ∧ ¬ 26 = b ∧ ¬ 26 = c ∧ ¬ 26 = e) : zfl m 26 i = zfl mr 26 i := zfl_ea (F 26 h.1 h.2.1 h.2.2.1 h.2.2.2)
theorem h_bgT {x : Int32} (hm : aTm aT0 mem) (hC : ga mem 28 = ownC) (hT : ga mem 1 = T) (x0 : 0 ≤ x.toInt ∧ x.toInt ≤ 1600) (hd : 3 ≤ d) : yC zpg d 57 [.ref 27, .ref 1, .int x] mem (fun a m => a = none ∧ aTm aT0 m ∧ ((∀ k, ¬ k = 27 → zat m k = zat mem k) ∧ cRd T x.toInt 0 m)) := by
  subst hT
  exact h_bgR hm hC x0 hd
theorem fin_b {α : Type} {k e : Int} {g : Int → Option α} (h : sSgn T n 59 p = some e) : (sFin T n k p).bind g = oif (¬ (k = 80 ∧ ¬ (tkf T n e).1.1 = 0)) (g e) := by
  unfold sFin
  rw [h]
  show (oif (¬ (k = 80 ∧ ¬ (tkf T n e).1.1 = 0)) (some e)).bind g = _
  by_cases w : ¬ (k = 80 ∧ ¬ (tkf T n e).1.1 = 0)
  · rw [oif_t w, oif_t w]
    rfl
  · rw [oif_f w, oif_f w]
    rfl
abbrev tzHA (T : List Int32) (n : Int) (mr : zM) (p v q : Int) (m : zM) : Prop := (zfl m 26 2 = some (.ref 2) ∧ zo 2 m = zo 2 mr) ∧ ((v = 1 ∧ (∃ x, sSiz T n p = some (x, q) ∧ ((3 ≤ x.1 ∧ x.1 ≤ 7) ∧ 3 ≤ x.2 ∧ x.2 ≤ 7) ∧ cQ 2 3 4 7 8 9 12 13 (x.1, x.2, [], [], [], [], [], [], 3, 0, []) m) ∧ cRd T n q m ∧ (gi m 10 3).toInt ≤ q) ∨ (v = 0 ∧ sSiz T n p = none))
theorem st_1A {S : Option (Qd × Int)} (h : stCA T n mr S v q m) (w : ¬ v = 0) : cRd T n q m := by
  rcases h.2 with h | h | h
  · exact h.2.2.1
  · exact absurd h.1 w
  · exact h.2.2.2
theorem cQ_zzA (F : ∀ k, ¬ k = 27 → zat m k = zat mem k) (h : cQ 2 3 4 7 8 9 12 13 Q mem) : cQ 2 3 4 7 8 9 12 13 Q m := by
  have X : cQx 2 Q m := cQx_eq (gi_zq (k := 2) (i := 3) (F 2 (by decide))) (gi_zq (k := 2) (i := 4) (F 2 (by decide))) (gL_zq (k := 2) (i := 5) (F 2 (by decide))) (ga_zz (F 5 (by decide))) (ga_zz (F 6 (by decide))) (ga_zz (F 11 (by decide))) (ga_zz (F 12 (by decide))) (ga_zz (F 13 (by decide))) (gi_zq (k := 10) (i := 3) (F 10 (by decide))) h.2.2.2.2.2.2
  unfold cQ cQw cQt cQh cQf cQu at h ⊢
  rw [gi_zq (k := 2) (i := 1) (F 2 (by decide)), gi_zq (k := 2) (i := 2) (F 2 (by decide)), gi_zq (k := 2) (i := 7) (F 2 (by decide)), gi_zq (k := 2) (i := 12) (F 2 (by decide)), gi_zq (k := 2) (i := 13) (F 2 (by decide)), gL_zq (k := 2) (i := 6) (F 2 (by decide)), ga_zz (F 3 (by decide)), ga_zz (F 4 (by decide)), ga_zz (F 7 (by decide)), ga_zz (F 8 (by decide)), ga_zz (F 9 (by decide)), ga_zz (F 12 (by decide)), ga_zz (F 13 (by decide))]
  exact ⟨h.1, h.2.1, h.2.2.1, h.2.2.2.1, h.2.2.2.2.1, h.2.2.2.2.2.1, X⟩
def reIA (T : List Int32) (n : Int) (V : Option (Int × Qd)) (g k : Int) (m : zM) : Prop := (g = 1 ∧ k ≤ 80 ∧ ∃ (Q : Qd) (p : Int) (f : Nat), hqQ Q ∧ cQ 2 3 4 7 8 9 12 13 Q m ∧ cRd T n p m ∧ (gi m 10 3).toInt ≤ p ∧ 82 ≤ k + (f : Int) ∧ V = oif (¬ (k = 80 ∧ ¬ (tkf T n p).1.1 = 0)) (sQL T n f k Q p)) ∨ (g = 0 ∧ V = none)
set_option maxRecDepth 100000 in
theorem w_re58A {d : Nat} {mem : zM} {P : Option Value → zM → Prop} {T : List Int32} {n p : Int} {Q : Qd} {g k : Int32} {lo : List (Nat × Value)} (hm : aTm aT0 mem) (l_0 : zlg lo 0 = some (.ref 26)) (l_4 : zlg lo 4 = some (.int g)) (l_5 : zlg lo 5 = some (.int k)) (ht : zfl mem 26 2 = some (.ref 2)) (hA : hRA 10 11) (hg : 0 ≤ g.toInt ∧ g.toInt ≤ 1) (hk : 1 ≤ k.toInt ∧ k.toInt ≤ 81) (hR : ¬ g.toInt = 0 → cRd T n p mem) (hq : ¬ g.toInt = 0 → hqQ Q) (hQ : ¬ g.toInt = 0 → cQ 2 3 4 7 8 9 12 13 Q mem) (hs : ¬ g.toInt = 0 → (gi mem 10 3).toInt ≤ p) (hn : n ≤ 1600) (h1 : 80 < (k).toInt → aTm aT0 mem → P (some (.int g)) mem) (h2 : (k).toInt ≤ 80 → (g).toInt = 0 → aTm aT0 mem → P (some (.int g)) mem) (h3 : (k).toInt ≤ 80 → ¬ (g).toInt = 0 → (gi mem 27 4).toInt = 0 → aTm aT0 mem → P (some (.int g)) mem) (s1 : (k).toInt ≤ 80 → ¬ (g).toInt = 0 → ¬ (gi mem 27 4).toInt = 0 → 80 ≤ (k).toInt → (-2147483648 : Int) ≤ ((gi mem 2 0).toInt + 1) ∧ ((gi mem 2 0).toInt + 1) ≤ 2147483647) (h4 : (k).toInt ≤ 80 → ¬ (g).toInt = 0 → ¬ (gi mem 27 4).toInt = 0 → 80 ≤ (k).toInt → ∀ (x8 : Int32), x8.toInt = ((gi mem 2 0).toInt + 1) → ∀ (x10 : Int32), x10.toInt = ((k).toInt + 1) → ∀ lo, zlg lo 0 = some (.ref 26) → zlg lo 4 = some (.int 0) → zlg lo 5 = some (.int x10) → aTm aT0 (si (si (si mem 27 10 6) 27 11 (gi mem 27 6)) 2 0 x8) → yR zpg tX9_reads (d + 62) (58, lo, [], (si (si (si mem 27 10 6) 27 11 (gi mem 27 6)) 2 0 x8)) P) (s2 : (k).toInt ≤ 80 → ¬ (g).toInt = 0 → ¬ (gi mem 27 4).toInt = 0 → (k).toInt < 80 → ∀ (v17 : Int32) (q18 : Int) (m15 : zM), aTm aT0 m15 → stCA T n mem (sSta T n Q p) v17.toInt q18 m15 → (v17).toInt = 0 → (-2147483648 : Int) ≤ ((gi m15 2 0).toInt + 1) ∧ ((gi m15 2 0).toInt + 1) ≤ 2147483647) (h5 : (k).toInt ≤ 80 → ¬ (g).toInt = 0 → ¬ (gi mem 27 4).toInt = 0 → (k).toInt < 80 → ∀ (v17 : Int32) (q18 : Int) (m15 : zM), aTm aT0 m15 → stCA T n mem (sSta T n Q p) v17.toInt q18 m15 → (v17).toInt = 0 → ∀ (x23 : Int32), x23.toInt = ((gi m15 2 0).toInt + 1) → ∀ (x25 : Int32), x25.toInt = ((k).toInt + 1) → ∀ lo, zlg lo 0 = some (.ref 26) → zlg lo 4 = some (.int 0) → zlg lo 5 = some (.int x25) → aTm aT0 (si m15 2 0 x23) → yR zpg tX9_reads (d + 62) (58, lo, [], (si m15 2 0 x23)) P) (s3 : (k).toInt ≤ 80 → ¬ (g).toInt = 0 → ¬ (gi mem 27 4).toInt = 0 → (k).toInt < 80 → ∀ (v17 : Int32) (q18 : Int) (m15 : zM), aTm aT0 m15 → stCA T n mem (sSta T n Q p) v17.toInt q18 m15 → ¬ (v17).toInt = 0 → ∀ (v32 : Int32) (q33 : Int) (m30 : zM), aTm aT0 m30 → (fo 27 [] rdF2 m15 m30 ∧ ((v32.toInt = 1 ∧ sSgn T n 59 q18 = some q33 ∧ cRd T n q33 m30) ∨ (v32.toInt = 0 ∧ sSgn T n 59 q18 = none))) → (v32).toInt = 0 → (-2147483648 : Int) ≤ ((gi m30 2 0).toInt + 1) ∧ ((gi m30 2 0).toInt + 1) ≤ 2147483647) (h6 : (k).toInt ≤ 80 → ¬ (g).toInt = 0 → ¬ (gi mem 27 4).toInt = 0 → (k).toInt < 80 → ∀ (v17 : Int32) (q18 : Int) (m15 : zM), aTm aT0 m15 → stCA T n mem (sSta T n Q p) v17.toInt q18 m15 → ¬ (v17).toInt = 0 → ∀ (v32 : Int32) (q33 : Int) (m30 : zM), aTm aT0 m30 → (fo 27 [] rdF2 m15 m30 ∧ ((v32.toInt = 1 ∧ sSgn T n 59 q18 = some q33 ∧ cRd T n q33 m30) ∨ (v32.toInt = 0 ∧ sSgn T n 59 q18 = none))) → (v32).toInt = 0 → ∀ (x38 : Int32), x38.toInt = ((gi m30 2 0).toInt + 1) → ∀ (x40 : Int32), x40.toInt = ((k).toInt + 1) → ∀ lo, zlg lo 0 = some (.ref 26) → zlg lo 4 = some (.int 0) → zlg lo 5 = some (.int x40) → aTm aT0 (si m30 2 0 x38) → yR zpg tX9_reads (d + 62) (58, lo, [], (si m30 2 0 x38)) P) (s4 : (k).toInt ≤ 80 → ¬ (g).toInt = 0 → ¬ (gi mem 27 4).toInt = 0 → (k).toInt < 80 → ∀ (v17 : Int32) (q18 : Int) (m15 : zM), aTm aT0 m15 → stCA T n mem (sSta T n Q p) v17.toInt q18 m15 → ¬ (v17).toInt = 0 → ∀ (v32 : Int32) (q33 : Int) (m30 : zM), aTm aT0 m30 → (fo 27 [] rdF2 m15 m30 ∧ ((v32.toInt = 1 ∧ sSgn T n 59 q18 = some q33 ∧ cRd T n q33 m30) ∨ (v32.toInt = 0 ∧ sSgn T n 59 q18 = none))) → ¬ (v32).toInt = 0 → (-2147483648 : Int) ≤ ((gi m30 2 0).toInt + 1) ∧ ((gi m30 2 0).toInt + 1) ≤ 2147483647) (h7 : (k).toInt ≤ 80 → ¬ (g).toInt = 0 → ¬ (gi mem 27 4).toInt = 0 → (k).toInt < 80 → ∀ (v17 : Int32) (q18 : Int) (m15 : zM), aTm aT0 m15 → stCA T n mem (sSta T n Q p) v17.toInt q18 m15 → ¬ (v17).toInt = 0 → ∀ (v32 : Int32) (q33 : Int) (m30 : zM), aTm aT0 m30 → (fo 27 [] rdF2 m15 m30 ∧ ((v32.toInt = 1 ∧ sSgn T n 59 q18 = some q33 ∧ cRd T n q33 m30) ∨ (v32.toInt = 0 ∧ sSgn T n 59 q18 = none))) → ¬ (v32).toInt = 0 → ∀ (x48 : Int32), x48.toInt = ((gi m30 2 0).toInt + 1) → ∀ (x50 : Int32), x50.toInt = ((k).toInt + 1) → ∀ lo, zlg lo 0 = some (.ref 26) → zlg lo 4 = some (.int 1) → zlg lo 5 = some (.int x50) → aTm aT0 (si m30 2 0 x48) → yR zpg tX9_reads (d + 62) (58, lo, [], (si m30 2 0 x48)) P) : yR zpg tX9_reads (d + 62) (58, lo, [], mem) P := by
  refine wR_li rfl l_5 ?_
  refine yR_m 1 (fun _ _ _ _ => rfl) ?_
  refine wR_ic_gt rfl (a := (k).toInt) (c := 80) rfl rfl (fun q1 => ?_) (fun q1 => ?_)
  ·
    refine wR_li rfl l_4 ?_
    exact yR_rz rfl (by omega) (h1 q1 hm)
  ·
    refine wR_li rfl l_4 ?_
    refine wR_if_eq rfl (a := (g).toInt) rfl (fun q2 => ?_) (fun q2 => ?_)
    ·
      refine wR_li rfl l_4 ?_
      exact yR_rz rfl (by omega) (h2 q1 q2 hm)
    ·
      refine wR_la rfl l_0 ?_
      refine wR_gr rfl tO_e tO_0 hm ?_
      refine wR_gi rfl rO_e rO_4 hm rfl ?_
      refine wR_if_eq rfl (a := (gi mem 27 4).toInt) rfl (fun q3 => ?_) (fun q3 => ?_)
      ·
        refine wR_li rfl l_4 ?_
        exact yR_rz rfl (by omega) (h3 q1 q2 q3 hm)
      ·
        refine wR_li rfl l_5 ?_
        refine yR_m 1 (fun _ _ _ _ => rfl) ?_
        refine wR_ic_ge rfl (a := (k).toInt) (c := 80) rfl rfl (fun q4 => ?_) (fun q4 => ?_)
        ·
          refine wR_la rfl l_0 ?_
          refine wR_gr rfl tO_e tO_0 hm ?_
          refine yR_m 1 (fun _ _ _ _ => rfl) ?_
          refine wR_la rfl l_0 ?_
          refine wR_gr rfl tO_e tO_0 hm ?_
          refine wR_gi rfl rO_e rO_6 hm rfl ?_
          refine wR_iv rfl rfl rO_e hm rfl rfl rfl rfl ?_
          show yR zpg tX5_faults (d + 61) (0, [(0, .ref 27), (1, .int 6), (2, .int (gi mem 27 6))], [], mem) _
          refine yR_m 2 (fun _ _ _ _ => rfl) ?_
          refine wR_pi rfl rO_e rO_10 hm rfl ?_
          have hm_1 : aTm aT0 (si mem 27 10 6) := tm_si rO_e rO_10 hm (i32_b _)
          refine yR_m 2 (fun _ _ _ _ => rfl) ?_
          refine wR_pi rfl rO_e rO_11 hm_1 rfl ?_
          have hm_2 : aTm aT0 (si (si mem 27 10 6) 27 11 (gi mem 27 6)) := tm_si rO_e rO_11 hm_1 (i32_b _)
          refine yR_m 1 (fun _ _ _ _ => rfl) ?_
          refine yR_rz rfl ⟨by decide, by decide⟩ ?_
          show yR zpg tX9_reads (d + 62) (130, lo, [.int 0], (si (si mem 27 10 6) 27 11 (gi mem 27 6))) _
          refine wR_si rfl rfl (fun lo5 e6 f7 => ?_)
          have lo5_0 := f7 0 _ (by decide) (Or.inl rfl) l_0
          have lo5_5 := f7 5 _ (by decide) (Or.inl rfl) l_5
          refine wR_la rfl lo5_0 ?_
          refine wR_gq rfl tO_e hm_2 ((zfl_sv_ne (by decide)).trans ((zfl_sv_ne (by decide)).trans ht)) ?_
          refine yR_m 1 (fun _ _ _ _ => rfl) ?_
          refine wR_gi rfl quA_e quA_0 hm_2 ((gi_sv_ne (by decide)).trans (gi_sv_ne (by decide))) ?_
          refine yR_m 1 (fun _ _ _ _ => rfl) ?_
          refine wN_add (a := (gi mem 2 0).toInt) (b := 1) rfl rfl rfl (s1 q1 q2 q3 q4) (fun x8 e9 => ?_)
          refine wR_pi rfl quA_e quA_0 hm_2 rfl ?_
          have hm_3 : aTm aT0 (si (si (si mem 27 10 6) 27 11 (gi mem 27 6)) 2 0 x8) := tm_si quA_e quA_0 hm_2 (i32_b _)
          refine wN_in (a := (k).toInt) (b := 1) rfl rfl lo5_5 rfl rfl (by omega) (fun x10 e11 => fun lo12 e13 f14 => ?_)
          have lo12_4 := f14 4 _ (by decide) (Or.inl rfl) e6
          have lo12_0 := f14 0 _ (by decide) (Or.inl rfl) lo5_0
          exact yR_m 1 (fun _ _ _ _ => rfl) (h4 q1 q2 q3 q4 x8 e9 x10 e11 lo12 lo12_0 lo12_4 e13 hm_3)
        ·
          refine wR_la rfl l_0 ?_
          refine wR_cv rfl rfl tO_e hm rfl (h_tsCA (T := T) (n := n) (p := p) (Q := Q) hm ht (hR (by omega)) (hq (by omega)) (hQ (by omega)) (hs (by omega)) hn (by omega)) ?_
          rintro _ m15 ⟨v17, q18, rfl, hm15, k16⟩
          show yR zpg tX9_reads (d + 62) (91, lo, [.int v17], m15) _
          refine wR_if_eq rfl (a := (v17).toInt) rfl (fun q19 => ?_) (fun q19 => ?_)
          ·
            refine yR_m 2 (fun _ _ _ _ => rfl) ?_
            refine wR_si rfl rfl (fun lo20 e21 f22 => ?_)
            have lo20_0 := f22 0 _ (by decide) (Or.inl rfl) l_0
            have lo20_5 := f22 5 _ (by decide) (Or.inl rfl) l_5
            refine wR_la rfl lo20_0 ?_
            refine wR_gq rfl tO_e hm15 k16.1.1 ?_
            refine yR_m 1 (fun _ _ _ _ => rfl) ?_
            refine wR_gi rfl quA_e quA_0 hm15 rfl ?_
            refine yR_m 1 (fun _ _ _ _ => rfl) ?_
            refine wN_add (a := (gi m15 2 0).toInt) (b := 1) rfl rfl rfl (s2 q1 q2 q3 q4 v17 q18 m15 hm15 k16 q19) (fun x23 e24 => ?_)
            refine wR_pi rfl quA_e quA_0 hm15 rfl ?_
            have hm_4 : aTm aT0 (si m15 2 0 x23) := tm_si quA_e quA_0 hm15 (i32_b _)
            refine wN_in (a := (k).toInt) (b := 1) rfl rfl lo20_5 rfl rfl (by omega) (fun x25 e26 => fun lo27 e28 f29 => ?_)
            have lo27_4 := f29 4 _ (by decide) (Or.inl rfl) e21
            have lo27_0 := f29 0 _ (by decide) (Or.inl rfl) lo20_0
            exact yR_m 1 (fun _ _ _ _ => rfl) (h5 q1 q2 q3 q4 v17 q18 m15 hm15 k16 q19 x23 e24 x25 e26 lo27 lo27_0 lo27_4 e28 hm_4)
          ·
            refine wR_la rfl l_0 ?_
            refine wR_gr rfl tO_e tO_0 hm15 ?_
            refine yR_m 1 (fun _ _ _ _ => rfl) ?_
            refine wR_cv rfl rfl rO_e hm15 rfl (h_sgC (R := 10) (A := 11) (T := T) (n := n) (p := q18) hA hm15 (st_1A k16 (by omega)) (by omega)) ?_
            rintro _ m30 ⟨v32, q33, rfl, hm30, k31⟩
            show yR zpg tX9_reads (d + 62) (103, lo, [.int v32], m30) _
            refine wR_if_eq rfl (a := (v32).toInt) rfl (fun q34 => ?_) (fun q34 => ?_)
            ·
              refine yR_m 2 (fun _ _ _ _ => rfl) ?_
              refine wR_si rfl rfl (fun lo35 e36 f37 => ?_)
              have lo35_0 := f37 0 _ (by decide) (Or.inl rfl) l_0
              have lo35_5 := f37 5 _ (by decide) (Or.inl rfl) l_5
              refine wR_la rfl lo35_0 ?_
              refine wR_gq rfl tO_e hm30 ((k6_26 (k6_fo k31.1 rfl) (by decide)).trans k16.1.1) ?_
              refine yR_m 1 (fun _ _ _ _ => rfl) ?_
              refine wR_gi rfl quA_e quA_0 hm30 rfl ?_
              refine yR_m 1 (fun _ _ _ _ => rfl) ?_
              refine wN_add (a := (gi m30 2 0).toInt) (b := 1) rfl rfl rfl (s3 q1 q2 q3 q4 v17 q18 m15 hm15 k16 q19 v32 q33 m30 hm30 k31 q34) (fun x38 e39 => ?_)
              refine wR_pi rfl quA_e quA_0 hm30 rfl ?_
              have hm_5 : aTm aT0 (si m30 2 0 x38) := tm_si quA_e quA_0 hm30 (i32_b _)
              refine wN_in (a := (k).toInt) (b := 1) rfl rfl lo35_5 rfl rfl (by omega) (fun x40 e41 => fun lo42 e43 f44 => ?_)
              have lo42_4 := f44 4 _ (by decide) (Or.inl rfl) e36
              have lo42_0 := f44 0 _ (by decide) (Or.inl rfl) lo35_0
              exact yR_m 1 (fun _ _ _ _ => rfl) (h6 q1 q2 q3 q4 v17 q18 m15 hm15 k16 q19 v32 q33 m30 hm30 k31 q34 x38 e39 x40 e41 lo42 lo42_0 lo42_4 e43 hm_5)
            ·
              refine yR_m 2 (fun _ _ _ _ => rfl) ?_
              refine wR_si rfl rfl (fun lo45 e46 f47 => ?_)
              have lo45_0 := f47 0 _ (by decide) (Or.inl rfl) l_0
              have lo45_5 := f47 5 _ (by decide) (Or.inl rfl) l_5
              refine wR_la rfl lo45_0 ?_
              refine wR_gq rfl tO_e hm30 ((k6_26 (k6_fo k31.1 rfl) (by decide)).trans k16.1.1) ?_
              refine yR_m 1 (fun _ _ _ _ => rfl) ?_
              refine wR_gi rfl quA_e quA_0 hm30 rfl ?_
              refine yR_m 1 (fun _ _ _ _ => rfl) ?_
              refine wN_add (a := (gi m30 2 0).toInt) (b := 1) rfl rfl rfl (s4 q1 q2 q3 q4 v17 q18 m15 hm15 k16 q19 v32 q33 m30 hm30 k31 q34) (fun x48 e49 => ?_)
              refine wR_pi rfl quA_e quA_0 hm30 rfl ?_
              have hm_6 : aTm aT0 (si m30 2 0 x48) := tm_si quA_e quA_0 hm30 (i32_b _)
              refine wN_in (a := (k).toInt) (b := 1) rfl rfl lo45_5 rfl rfl (by omega) (fun x50 e51 => fun lo52 e53 f54 => ?_)
              have lo52_4 := f54 4 _ (by decide) (Or.inl rfl) e46
              have lo52_0 := f54 0 _ (by decide) (Or.inl rfl) lo45_0
              exact yR_m 1 (fun _ _ _ _ => rfl) (h7 q1 q2 q3 q4 v17 q18 m15 hm15 k16 q19 v32 q33 m30 hm30 k31 q34 x48 e49 x50 e51 lo52 lo52_0 lo52_4 e53 hm_6)

theorem re58_A {V : Option (Int × Qd)} {m0 : zM} (hA : hRA 10 11) (hn : n ≤ 1600) : ∀ (F : Nat) (mem : zM) (g k : Int32) (lo : List (Nat × Value)), (81 : Int) - k.toInt < (F : Int) → 1 ≤ k.toInt → k.toInt ≤ 81 → aTm aT0 mem → zfl mem 26 2 = some (.ref 2) → (gi mem 2 0).toInt = k.toInt → zo 2 mem = zo 2 m0 → reIA T n V g.toInt k.toInt mem → zlg lo 0 = some (.ref 26) → zlg lo 4 = some (.int g) → zlg lo 5 = some (.int k) → yR zpg tX9_reads (d + 62) (58, lo, [], mem) (fun a m => ∃ v : Int32, a = some (.int v) ∧ aTm aT0 m ∧ zo 2 m = zo 2 m0 ∧ ((v.toInt = 1 ∧ ∃ Q, V = some ((gi m 2 0).toInt, Q) ∧ hqQ Q ∧ cQ 2 3 4 7 8 9 12 13 Q m) ∨ (v.toInt = 0 ∧ V = none))) := by
  intro F
  induction F with
  | zero =>
    intro mem g k lo hF k1 k2
    exfalso
    omega
  | succ F ih =>
    intro mem g k lo hF k1 k2 hm ht h0 hz hI a0 a4 a5
    rcases hI with ⟨hg, k8, Q, p, f, hq, hQ, hR, hs, hf, hV⟩ | ⟨hg, hV⟩
    · obtain ⟨f, rfl⟩ : ∃ w, f = w + 1 := ⟨f - 1, by omega⟩
      exact w_re58A (T := T) (n := n) (p := p) (Q := Q) hm a0 a4 a5 ht hA (by omega) ⟨k1, k2⟩ (fun _ => hR) (fun _ => hq) (fun _ => hQ) (fun _ => hs) hn
        (fun q1 hm2 => by exfalso; omega)
        (fun q1 q2 hm2 => by exfalso; omega)
        (fun q1 q2 q3 hm2 => by
          have E0 := (cX_0 hR).1 q3
          exact ⟨g, rfl, hm2, hz, Or.inl ⟨by omega, Q, by rw [h0]; exact hV.trans ((oif_t (fun w => w.2 E0)).trans (pif_t E0)), hq, hQ⟩⟩)
        (fun q1 q2 q3 q4 => by
          omega)
        (fun q1 q2 q3 q4 x8 e9 x10 e11 lo a0 a4 a5 hm2 => by
          have NE : ¬ (tkf T n p).1.1 = 0 := fun w => q3 ((cX_0 hR).2 w)
          exact ih _ 0 x10 lo (by omega) (by omega) (by omega) hm2 ((zfl_sv_ne (by decide)).trans ((zfl_sv_ne (by decide)).trans ((zfl_sv_ne (by decide)).trans ht))) (by rw [(gi_eqQ (isQ_sv (isQ_sv (isQ_of quA_e hm))) quA_0)]; omega) (((zo_sv (by decide)).trans ((zo_sv (by decide)).trans (zo_sv (by decide)))).trans hz) (Or.inr ⟨rfl, hV.trans (oif_f (fun w => w ⟨by omega, NE⟩))⟩) a0 a4 a5)
        (fun q1 q2 q3 q4 v17 q18 m15 hm15 k16 q19 => by
          have e1 := congrArg Int32.toInt k16.1.2.1
          omega)
        (fun q1 q2 q3 q4 v17 q18 m15 hm15 k16 q19 x23 e24 x25 e26 lo a0 a4 a5 hm2 => by
          have NE : ¬ (tkf T n p).1.1 = 0 := fun w => q3 ((cX_0 hR).2 w)
          have e1 := congrArg Int32.toInt k16.1.2.1
          rcases k16.2 with w | w | w
          · exfalso; have w1 := w.1; omega
          · exact ih _ 0 x25 lo (by omega) (by omega) (by omega) hm2 ((zfl_sv_ne (by decide)).trans k16.1.1) (by rw [(gi_eqQ (isQ_of quA_e hm15) quA_0)]; omega) (((zo_sv (by decide)).trans k16.1.2.2).trans hz) (Or.inr ⟨rfl, hV.trans ((oif_t (fun w => by omega)).trans ((pif_f NE).trans (ob_0 w.2)))⟩) a0 a4 a5
          · exfalso; have w1 := w.1; omega)
        (fun q1 q2 q3 q4 v17 q18 m15 hm15 k16 q19 v32 q33 m30 hm30 k31 q34 => by
          have e1 := congrArg Int32.toInt k16.1.2.1
          have e2 := congrArg Int32.toInt (k6_gi (k := 2) (i := 0) (by decide) (k6_fo k31.1 rfl))
          omega)
        (fun q1 q2 q3 q4 v17 q18 m15 hm15 k16 q19 v32 q33 m30 hm30 k31 q34 x38 e39 x40 e41 lo a0 a4 a5 hm2 => by
          have NE : ¬ (tkf T n p).1.1 = 0 := fun w => q3 ((cX_0 hR).2 w)
          have e1 := congrArg Int32.toInt k16.1.2.1
          have e2 := congrArg Int32.toInt (k6_gi (k := 2) (i := 0) (by decide) (k6_fo k31.1 rfl))
          rcases k16.2 with ⟨-, ⟨Q2, S, -⟩, -⟩ | w | w
          · exact ih _ 0 x40 lo (by omega) (by omega) (by omega) hm2 ((zfl_sv_ne (by decide)).trans ((k6_26 (k6_fo k31.1 rfl) (by decide)).trans k16.1.1)) (by rw [(gi_eqQ (isQ_of quA_e hm30) quA_0)]; omega) (((zo_sv (by decide)).trans ((zo_k6 (k6_fo k31.1 rfl)).trans k16.1.2.2)).trans hz) (Or.inr ⟨rfl, hV.trans ((oif_t (fun w => by omega)).trans ((pif_f NE).trans ((ob_1 S).trans (ob_0 (ob_0 (sg_0 k31 (by omega)))))))⟩) a0 a4 a5
          · exfalso; have w1 := w.1; omega
          · exact ih _ 0 x40 lo (by omega) (by omega) (by omega) hm2 ((zfl_sv_ne (by decide)).trans ((k6_26 (k6_fo k31.1 rfl) (by decide)).trans k16.1.1)) (by rw [(gi_eqQ (isQ_of quA_e hm30) quA_0)]; omega) (((zo_sv (by decide)).trans ((zo_k6 (k6_fo k31.1 rfl)).trans k16.1.2.2)).trans hz) (Or.inr ⟨rfl, hV.trans ((oif_t (fun w => by omega)).trans ((pif_f NE).trans (ob_0 w.2.1)))⟩) a0 a4 a5)
        (fun q1 q2 q3 q4 v17 q18 m15 hm15 k16 q19 v32 q33 m30 hm30 k31 q34 => by
          have e1 := congrArg Int32.toInt k16.1.2.1
          have e2 := congrArg Int32.toInt (k6_gi (k := 2) (i := 0) (by decide) (k6_fo k31.1 rfl))
          omega)
        (fun q1 q2 q3 q4 v17 q18 m15 hm15 k16 q19 v32 q33 m30 hm30 k31 q34 x48 e49 x50 e51 lo a0 a4 a5 hm2 => by
          have NE : ¬ (tkf T n p).1.1 = 0 := fun w => q3 ((cX_0 hR).2 w)
          have e1 := congrArg Int32.toInt k16.1.2.1
          have e2 := congrArg Int32.toInt (k6_gi (k := 2) (i := 0) (by decide) (k6_fo k31.1 rfl))
          rcases k16.2 with ⟨-, ⟨Q2, S, hQ2⟩, c2, hs2⟩ | w | w
          · have z := sSta_sz S
            have ps := pos_S (cRd_p c2).1 (cRd_p c2).2 (sg_1 k31 (by omega)).1
            have e3 := congrArg Int32.toInt (k6_gi (k := 10) (i := 3) (by decide) (k6_fo k31.1 rfl))
            have kx : x50.toInt = k.toInt + 1 := by omega
            refine ih _ 1 x50 lo (by omega) (by omega) (by omega) hm2 ((zfl_sv_ne (by decide)).trans ((k6_26 (k6_fo k31.1 rfl) (by decide)).trans k16.1.1)) (by rw [(gi_eqQ (isQ_of quA_e hm30) quA_0)]; omega) (((zo_sv (by decide)).trans ((zo_k6 (k6_fo k31.1 rfl)).trans k16.1.2.2)).trans hz) (Or.inl ⟨rfl, by omega, Q2, _, f, ?_, cQ_svA (by decide) (cQ_k6A (k6_fo k31.1 rfl) hQ2), cRd_sv (by decide) (sg_1 k31 (by omega)).2, by rw [gi_sv_ne (by decide)]; omega, by omega, ?_⟩) a0 a4 a5
            · unfold hqQ
              rw [z.1, z.2]
              exact hq
            · rw [kx]
              exact hV.trans ((oif_t (fun w => by omega)).trans ((pif_f NE).trans ((ob_1 S).trans (fin_b (sg_1 k31 (by omega)).1))))
          · exfalso; have w1 := w.1; omega
          · exfalso; have w1 := (sS_1 (sg_1 k31 (by omega)).1).1.1; have w2 := w.2.2.1; omega)
    · exact w_re58A (T := T) (n := n) (p := 0) (Q := (0, 0, [], [], [], [], [], [], 3, 0, [])) hm a0 a4 a5 ht hA (by omega) ⟨k1, k2⟩ (fun w => absurd hg w) (fun w => absurd hg w) (fun w => absurd hg w) (fun w => absurd hg w) hn
        (fun q1 hm2 => ⟨g, rfl, hm2, hz, Or.inr ⟨by omega, hV⟩⟩)
        (fun q1 q2 hm2 => ⟨g, rfl, hm2, hz, Or.inr ⟨by omega, hV⟩⟩)
        (fun q1 q2 q3 hm2 => ⟨g, rfl, hm2, hz, Or.inr ⟨by omega, hV⟩⟩)
        (fun q1 q2 q3 q4 => by exfalso; omega)
        (fun q1 q2 q3 q4 x8 e9 x10 e11 lo a0 a4 a5 hm2 => by exfalso; omega)
        (fun q1 q2 q3 q4 v17 q18 m15 hm15 k16 q19 => by exfalso; omega)
        (fun q1 q2 q3 q4 v17 q18 m15 hm15 k16 q19 x23 e24 x25 e26 lo a0 a4 a5 hm2 => by exfalso; omega)
        (fun q1 q2 q3 q4 v17 q18 m15 hm15 k16 q19 v32 q33 m30 hm30 k31 q34 => by exfalso; omega)
        (fun q1 q2 q3 q4 v17 q18 m15 hm15 k16 q19 v32 q33 m30 hm30 k31 q34 x38 e39 x40 e41 lo a0 a4 a5 hm2 => by exfalso; omega)
        (fun q1 q2 q3 q4 v17 q18 m15 hm15 k16 q19 v32 q33 m30 hm30 k31 q34 => by exfalso; omega)
        (fun q1 q2 q3 q4 v17 q18 m15 hm15 k16 q19 v32 q33 m30 hm30 k31 q34 x48 e49 x50 e51 lo a0 a4 a5 hm2 => by exfalso; omega)
set_option maxRecDepth 100000 in
theorem w_re5A {d : Nat} {mem : zM} {P : Option Value → zM → Prop} {T : List Int32} {x : Int32} {lo : List (Nat × Value)} (hm : aTm aT0 mem) (l_0 : zlg lo 0 = some (.ref 26)) (l_1 : zlg lo 1 = some (.ref 1)) (l_2 : zlg lo 2 = some (.int x)) (l_3 : zlg lo 3 = some (.ref 2)) (ht : zfl mem 26 2 = some (.ref 2)) (hA : hRA 10 11) (hC : ga mem 28 = ownC) (hT : ga mem 1 = T) (hx : 0 ≤ x.toInt ∧ x.toInt ≤ 1600) (h1 : ∀ (m1 : zM), aTm aT0 m1 → ((∀ k, ¬ k = 2 → ¬ k = 10 → ¬ k = 12 → ¬ k = 13 → zat m1 k = zat mem k) ∧ cQ 2 3 4 7 8 9 12 13 (0, 0, [], [], [], [], [], [], 3, 0, []) m1 ∧ (gi m1 10 3).toInt = 0) → ∀ (m3 : zM), aTm aT0 m3 → ((∀ k, ¬ k = 27 → zat m3 k = zat m1 k) ∧ cRd T x.toInt 0 m3) → ∀ (v7 : Int32) (q8 : Int) (m5 : zM), aTm aT0 m5 → tzHA T x.toInt m3 0 v7.toInt q8 m5 → (v7).toInt = 0 → ∀ lo, zlg lo 0 = some (.ref 26) → zlg lo 4 = some (.int 0) → zlg lo 5 = some (.int 1) → aTm aT0 (si m5 2 0 1) → yR zpg tX9_reads (d + 62) (58, lo, [], (si m5 2 0 1)) P) (h2 : ∀ (m1 : zM), aTm aT0 m1 → ((∀ k, ¬ k = 2 → ¬ k = 10 → ¬ k = 12 → ¬ k = 13 → zat m1 k = zat mem k) ∧ cQ 2 3 4 7 8 9 12 13 (0, 0, [], [], [], [], [], [], 3, 0, []) m1 ∧ (gi m1 10 3).toInt = 0) → ∀ (m3 : zM), aTm aT0 m3 → ((∀ k, ¬ k = 27 → zat m3 k = zat m1 k) ∧ cRd T x.toInt 0 m3) → ∀ (v7 : Int32) (q8 : Int) (m5 : zM), aTm aT0 m5 → tzHA T x.toInt m3 0 v7.toInt q8 m5 → ¬ (v7).toInt = 0 → ∀ (v18 : Int32) (q19 : Int) (m16 : zM), aTm aT0 m16 → (fo 27 [] rdF2 m5 m16 ∧ ((v18.toInt = 1 ∧ sSgn T x.toInt 59 q8 = some q19 ∧ cRd T x.toInt q19 m16) ∨ (v18.toInt = 0 ∧ sSgn T x.toInt 59 q8 = none))) → (v18).toInt = 0 → ∀ lo, zlg lo 0 = some (.ref 26) → zlg lo 4 = some (.int 0) → zlg lo 5 = some (.int 1) → aTm aT0 (si m16 2 0 1) → yR zpg tX9_reads (d + 62) (58, lo, [], (si m16 2 0 1)) P) (h3 : ∀ (m1 : zM), aTm aT0 m1 → ((∀ k, ¬ k = 2 → ¬ k = 10 → ¬ k = 12 → ¬ k = 13 → zat m1 k = zat mem k) ∧ cQ 2 3 4 7 8 9 12 13 (0, 0, [], [], [], [], [], [], 3, 0, []) m1 ∧ (gi m1 10 3).toInt = 0) → ∀ (m3 : zM), aTm aT0 m3 → ((∀ k, ¬ k = 27 → zat m3 k = zat m1 k) ∧ cRd T x.toInt 0 m3) → ∀ (v7 : Int32) (q8 : Int) (m5 : zM), aTm aT0 m5 → tzHA T x.toInt m3 0 v7.toInt q8 m5 → ¬ (v7).toInt = 0 → ∀ (v18 : Int32) (q19 : Int) (m16 : zM), aTm aT0 m16 → (fo 27 [] rdF2 m5 m16 ∧ ((v18.toInt = 1 ∧ sSgn T x.toInt 59 q8 = some q19 ∧ cRd T x.toInt q19 m16) ∨ (v18.toInt = 0 ∧ sSgn T x.toInt 59 q8 = none))) → ¬ (v18).toInt = 0 → ∀ lo, zlg lo 0 = some (.ref 26) → zlg lo 4 = some (.int 1) → zlg lo 5 = some (.int 1) → aTm aT0 (si m16 2 0 1) → yR zpg tX9_reads (d + 62) (58, lo, [], (si m16 2 0 1)) P) : yR zpg tX9_reads (d + 62) (5, lo, [], mem) P := by
  refine wR_la rfl l_0 ?_
  refine wR_gq rfl tO_e hm ht ?_
  refine wR_cv rfl rfl quA_e hm rfl (h_clCA hm (by omega)) ?_
  rintro _ m1 ⟨rfl, hI1, k2⟩
  show yR zpg tX9_reads (d + 62) (12, lo, [], m1) _
  refine wR_la rfl l_0 ?_
  refine wR_gr rfl tO_e tO_0 hI1 ?_
  refine wR_la rfl l_1 ?_
  refine wR_li rfl l_2 ?_
  refine wR_cv rfl rfl rO_e hI1 rfl (h_bgT (T := T) (x := x) hI1 ((ga_zz (k2.1 28 (by decide) (by decide) (by decide) (by decide))).trans hC) ((ga_zz (k2.1 1 (by decide) (by decide) (by decide) (by decide))).trans hT) hx (by omega)) ?_
  rintro _ m3 ⟨rfl, hI3, k4⟩
  show yR zpg tX9_reads (d + 62) (21, lo, [], m3) _
  refine wR_la rfl l_0 ?_
  refine wR_cv rfl rfl tO_e hI3 rfl (h_tzCA (T := T) (n := x.toInt) (p := 0) hI3 ((bz_26 k4.1 (by decide)).trans ((cz_26 k2.1 (by decide)).trans ht)) k4.2 (cQ_zzA k4.1 k2.2.1) (by rw [gi_zq (k4.1 10 (by decide))]; have q9 := k2.2.2; omega) (by omega)) ?_
  rintro _ m5 ⟨v7, q8, rfl, hm5, k6⟩
  show yR zpg tX9_reads (d + 62) (25, lo, [.int v7], m5) _
  refine wR_if_eq rfl (a := (v7).toInt) rfl (fun q9 => ?_) (fun q9 => ?_)
  ·
    refine yR_m 1 (fun _ _ _ _ => rfl) ?_
    refine wR_si rfl rfl (fun lo10 e11 f12 => ?_)
    have lo10_0 := f12 0 _ (by decide) (Or.inl rfl) l_0
    have lo10_1 := f12 1 _ (by decide) (Or.inl rfl) l_1
    have lo10_2 := f12 2 _ (by decide) (Or.inl rfl) l_2
    have lo10_3 := f12 3 _ (by decide) (Or.inl rfl) l_3
    refine wR_la rfl lo10_0 ?_
    refine wR_gq rfl tO_e hm5 k6.1.1 ?_
    refine yR_m 1 (fun _ _ _ _ => rfl) ?_
    refine wR_pi rfl quA_e quA_0 hm5 rfl ?_
    have hm_1 : aTm aT0 (si m5 2 0 1) := tm_si quA_e quA_0 hm5 (i32_b _)
    refine yR_m 1 (fun _ _ _ _ => rfl) ?_
    refine wR_si rfl rfl (fun lo13 e14 f15 => ?_)
    have lo13_4 := f15 4 _ (by decide) (Or.inl rfl) e11
    have lo13_0 := f15 0 _ (by decide) (Or.inl rfl) lo10_0
    have lo13_1 := f15 1 _ (by decide) (Or.inl rfl) lo10_1
    have lo13_2 := f15 2 _ (by decide) (Or.inl rfl) lo10_2
    have lo13_3 := f15 3 _ (by decide) (Or.inl rfl) lo10_3
    exact h1 m1 hI1 k2 m3 hI3 k4 v7 q8 m5 hm5 k6 q9 lo13 lo13_0 lo13_4 e14 hm_1
  ·
    refine wR_la rfl l_0 ?_
    refine wR_gr rfl tO_e tO_0 hm5 ?_
    refine yR_m 1 (fun _ _ _ _ => rfl) ?_
    refine wR_cv rfl rfl rO_e hm5 rfl (h_sgC (R := 10) (A := 11) (T := T) (n := x.toInt) (p := q8) hA hm5 (or_1 k6.2 (by omega)).2.1 (by omega)) ?_
    rintro _ m16 ⟨v18, q19, rfl, hm16, k17⟩
    show yR zpg tX9_reads (d + 62) (37, lo, [.int v18], m16) _
    refine wR_if_eq rfl (a := (v18).toInt) rfl (fun q20 => ?_) (fun q20 => ?_)
    ·
      refine yR_m 1 (fun _ _ _ _ => rfl) ?_
      refine wR_si rfl rfl (fun lo21 e22 f23 => ?_)
      have lo21_0 := f23 0 _ (by decide) (Or.inl rfl) l_0
      have lo21_1 := f23 1 _ (by decide) (Or.inl rfl) l_1
      have lo21_2 := f23 2 _ (by decide) (Or.inl rfl) l_2
      have lo21_3 := f23 3 _ (by decide) (Or.inl rfl) l_3
      refine wR_la rfl lo21_0 ?_
      refine wR_gq rfl tO_e hm16 ((k6_26 (k6_fo k17.1 rfl) (by decide)).trans k6.1.1) ?_
      refine yR_m 1 (fun _ _ _ _ => rfl) ?_
      refine wR_pi rfl quA_e quA_0 hm16 rfl ?_
      have hm_2 : aTm aT0 (si m16 2 0 1) := tm_si quA_e quA_0 hm16 (i32_b _)
      refine yR_m 1 (fun _ _ _ _ => rfl) ?_
      refine wR_si rfl rfl (fun lo24 e25 f26 => ?_)
      have lo24_4 := f26 4 _ (by decide) (Or.inl rfl) e22
      have lo24_0 := f26 0 _ (by decide) (Or.inl rfl) lo21_0
      have lo24_1 := f26 1 _ (by decide) (Or.inl rfl) lo21_1
      have lo24_2 := f26 2 _ (by decide) (Or.inl rfl) lo21_2
      have lo24_3 := f26 3 _ (by decide) (Or.inl rfl) lo21_3
      exact h2 m1 hI1 k2 m3 hI3 k4 v7 q8 m5 hm5 k6 q9 v18 q19 m16 hm16 k17 q20 lo24 lo24_0 lo24_4 e25 hm_2
    ·
      refine yR_m 2 (fun _ _ _ _ => rfl) ?_
      refine wR_si rfl rfl (fun lo27 e28 f29 => ?_)
      have lo27_0 := f29 0 _ (by decide) (Or.inl rfl) l_0
      have lo27_1 := f29 1 _ (by decide) (Or.inl rfl) l_1
      have lo27_2 := f29 2 _ (by decide) (Or.inl rfl) l_2
      have lo27_3 := f29 3 _ (by decide) (Or.inl rfl) l_3
      refine wR_la rfl lo27_0 ?_
      refine wR_gq rfl tO_e hm16 ((k6_26 (k6_fo k17.1 rfl) (by decide)).trans k6.1.1) ?_
      refine yR_m 1 (fun _ _ _ _ => rfl) ?_
      refine wR_pi rfl quA_e quA_0 hm16 rfl ?_
      have hm_3 : aTm aT0 (si m16 2 0 1) := tm_si quA_e quA_0 hm16 (i32_b _)
      refine yR_m 1 (fun _ _ _ _ => rfl) ?_
      refine wR_si rfl rfl (fun lo30 e31 f32 => ?_)
      have lo30_4 := f32 4 _ (by decide) (Or.inl rfl) e28
      have lo30_0 := f32 0 _ (by decide) (Or.inl rfl) lo27_0
      have lo30_1 := f32 1 _ (by decide) (Or.inl rfl) lo27_1
      have lo30_2 := f32 2 _ (by decide) (Or.inl rfl) lo27_2
      have lo30_3 := f32 3 _ (by decide) (Or.inl rfl) lo27_3
      exact h3 m1 hI1 k2 m3 hI3 k4 v7 q8 m5 hm5 k6 q9 v18 q19 m16 hm16 k17 q20 lo30 lo30_0 lo30_4 e31 hm_3

theorem h_reCA {x : Int32} (hm : aTm aT0 mem) (hC : ga mem 28 = ownC) (hT : ga mem 1 = T) (hx : 0 ≤ x.toInt ∧ x.toInt ≤ 1600) (hd : 63 ≤ d) : yC zpg d 86 [.ref 26, .ref 1, .int x, .ref 2] mem (fun a m => ∃ v : Int32, a = some (.int v) ∧ aTm aT0 m ∧ zo 2 m = zo 2 mem ∧ ((v.toInt = 1 ∧ ∃ Q, sQua T x.toInt = some ((gi m 2 0).toInt, Q) ∧ hqQ Q ∧ cQ 2 3 4 7 8 9 12 13 Q m) ∨ (v.toInt = 0 ∧ sQua T x.toInt = none))) := by
  obtain ⟨d, rfl⟩ : ∃ q, d = q + 63 := ⟨d - 63, by omega⟩
  have hA : hRA 10 11 := by
    unfold hRA
    decide
  refine yC_of (t := tX9_reads) rfl rfl ?_
  refine yR_m 2 (fun _ _ _ _ => rfl) ?_
  refine wR_pr rfl tO_e tO_2 hm rfl ?_
  have h1 : aTm aT0 (sR mem 26 2 2) := tm_sR tO_e tO_2 hm (by decide)
  exact w_re5A (d := d) (T := T) (x := x) h1 rfl rfl rfl rfl (zfl_sR tO_e tO_2 hm) hA (ga_sv.trans hC) (ga_sv.trans hT) hx
        (fun m1 hI1 k2 m3 hI3 k4 v7 q8 m5 hm5 k6 q9 lo a0 a4 a5 hm2 => by
          exact re58_A (m0 := mem) (T := T) (n := x.toInt) (V := sQua T x.toInt) hA hx.2 82 _ 0 1 lo (by decide) (by decide) (by decide) hm2 ((zfl_sv_ne (by decide)).trans k6.1.1) (by rw [(gi_eqQ (isQ_of quA_e hm5) quA_0)]) (((zo_sv (by decide)).trans (k6.1.2.trans ((zo_bz k4.1).trans (zo_cz (by decide) (by decide) (by decide) (by decide) k2.1)))).trans (zo_sv (by decide))) (Or.inr ⟨rfl, ob_0 (or_0 k6.2 (by omega))⟩) a0 a4 a5)
        (fun m1 hI1 k2 m3 hI3 k4 v7 q8 m5 hm5 k6 q9 v18 q19 m16 hm16 k17 q20 lo a0 a4 a5 hm2 => by
          obtain ⟨⟨y, S, hy, hQ2⟩, c2, hs2⟩ := or_1 k6.2 (by omega)
          exact re58_A (m0 := mem) (T := T) (n := x.toInt) (V := sQua T x.toInt) hA hx.2 82 _ 0 1 lo (by decide) (by decide) (by decide) hm2 ((zfl_sv_ne (by decide)).trans ((k6_26 (k6_fo k17.1 rfl) (by decide)).trans k6.1.1)) (by rw [(gi_eqQ (isQ_of quA_e hm16) quA_0)]) (((zo_sv (by decide)).trans ((zo_k6 (k6_fo k17.1 rfl)).trans (k6.1.2.trans ((zo_bz k4.1).trans (zo_cz (by decide) (by decide) (by decide) (by decide) k2.1))))).trans (zo_sv (by decide))) (Or.inr ⟨rfl, (ob_1 S).trans (ob_0 (ob_0 (sg_0 k17 (by omega))))⟩) a0 a4 a5)
        (fun m1 hI1 k2 m3 hI3 k4 v7 q8 m5 hm5 k6 q9 v18 q19 m16 hm16 k17 q20 lo a0 a4 a5 hm2 => by
          obtain ⟨⟨y, S, hy, hQ2⟩, c2, hs2⟩ := or_1 k6.2 (by omega)
          have ps := pos_S (cRd_p c2).1 (cRd_p c2).2 (sg_1 k17 (by omega)).1
          have e3 := congrArg Int32.toInt (k6_gi (k := 10) (i := 3) (by decide) (k6_fo k17.1 rfl))
          exact re58_A (m0 := mem) (T := T) (n := x.toInt) (V := sQua T x.toInt) hA hx.2 82 _ 1 1 lo (by decide) (by decide) (by decide) hm2 ((zfl_sv_ne (by decide)).trans ((k6_26 (k6_fo k17.1 rfl) (by decide)).trans k6.1.1)) (by rw [(gi_eqQ (isQ_of quA_e hm16) quA_0)]) (((zo_sv (by decide)).trans ((zo_k6 (k6_fo k17.1 rfl)).trans (k6.1.2.trans ((zo_bz k4.1).trans (zo_cz (by decide) (by decide) (by decide) (by decide) k2.1))))).trans (zo_sv (by decide))) (Or.inl ⟨rfl, by decide, (y.1, y.2, [], [], [], [], [], [], 3, 0, []), _, 1601, hy, cQ_svA (by decide) (cQ_k6A (k6_fo k17.1 rfl) hQ2), cRd_sv (by decide) (sg_1 k17 (by omega)).2, by rw [gi_sv_ne (by decide)]; omega, by decide, (ob_1 S).trans (fin_b (sg_1 k17 (by omega)).1)⟩) a0 a4 a5)
abbrev tzHB (T : List Int32) (n : Int) (mr : zM) (p v q : Int) (m : zM) : Prop := (zfl m 26 2 = some (.ref 14) ∧ zo 14 m = zo 14 mr) ∧ ((v = 1 ∧ (∃ x, sSiz T n p = some (x, q) ∧ ((3 ≤ x.1 ∧ x.1 ≤ 7) ∧ 3 ≤ x.2 ∧ x.2 ≤ 7) ∧ cQ 14 15 16 19 20 21 24 25 (x.1, x.2, [], [], [], [], [], [], 3, 0, []) m) ∧ cRd T n q m ∧ (gi m 22 3).toInt ≤ q) ∨ (v = 0 ∧ sSiz T n p = none))
theorem st_1B {S : Option (Qd × Int)} (h : stCB T n mr S v q m) (w : ¬ v = 0) : cRd T n q m := by
  rcases h.2 with h | h | h
  · exact h.2.2.1
  · exact absurd h.1 w
  · exact h.2.2.2
theorem cQ_zzB (F : ∀ k, ¬ k = 27 → zat m k = zat mem k) (h : cQ 14 15 16 19 20 21 24 25 Q mem) : cQ 14 15 16 19 20 21 24 25 Q m := by
  have X : cQx 14 Q m := cQx_eq (gi_zq (k := 14) (i := 3) (F 14 (by decide))) (gi_zq (k := 14) (i := 4) (F 14 (by decide))) (gL_zq (k := 14) (i := 5) (F 14 (by decide))) (ga_zz (F 17 (by decide))) (ga_zz (F 18 (by decide))) (ga_zz (F 23 (by decide))) (ga_zz (F 24 (by decide))) (ga_zz (F 25 (by decide))) (gi_zq (k := 22) (i := 3) (F 22 (by decide))) h.2.2.2.2.2.2
  unfold cQ cQw cQt cQh cQf cQu at h ⊢
  rw [gi_zq (k := 14) (i := 1) (F 14 (by decide)), gi_zq (k := 14) (i := 2) (F 14 (by decide)), gi_zq (k := 14) (i := 7) (F 14 (by decide)), gi_zq (k := 14) (i := 12) (F 14 (by decide)), gi_zq (k := 14) (i := 13) (F 14 (by decide)), gL_zq (k := 14) (i := 6) (F 14 (by decide)), ga_zz (F 15 (by decide)), ga_zz (F 16 (by decide)), ga_zz (F 19 (by decide)), ga_zz (F 20 (by decide)), ga_zz (F 21 (by decide)), ga_zz (F 24 (by decide)), ga_zz (F 25 (by decide))]
  exact ⟨h.1, h.2.1, h.2.2.1, h.2.2.2.1, h.2.2.2.2.1, h.2.2.2.2.2.1, X⟩
def reIB (T : List Int32) (n : Int) (V : Option (Int × Qd)) (g k : Int) (m : zM) : Prop := (g = 1 ∧ k ≤ 80 ∧ ∃ (Q : Qd) (p : Int) (f : Nat), hqQ Q ∧ cQ 14 15 16 19 20 21 24 25 Q m ∧ cRd T n p m ∧ (gi m 22 3).toInt ≤ p ∧ 82 ≤ k + (f : Int) ∧ V = oif (¬ (k = 80 ∧ ¬ (tkf T n p).1.1 = 0)) (sQL T n f k Q p)) ∨ (g = 0 ∧ V = none)
set_option maxRecDepth 100000 in
theorem w_re58B {d : Nat} {mem : zM} {P : Option Value → zM → Prop} {T : List Int32} {n p : Int} {Q : Qd} {g k : Int32} {lo : List (Nat × Value)} (hm : aTm aT0 mem) (l_0 : zlg lo 0 = some (.ref 26)) (l_4 : zlg lo 4 = some (.int g)) (l_5 : zlg lo 5 = some (.int k)) (ht : zfl mem 26 2 = some (.ref 14)) (hA : hRA 22 23) (hg : 0 ≤ g.toInt ∧ g.toInt ≤ 1) (hk : 1 ≤ k.toInt ∧ k.toInt ≤ 81) (hR : ¬ g.toInt = 0 → cRd T n p mem) (hq : ¬ g.toInt = 0 → hqQ Q) (hQ : ¬ g.toInt = 0 → cQ 14 15 16 19 20 21 24 25 Q mem) (hs : ¬ g.toInt = 0 → (gi mem 22 3).toInt ≤ p) (hn : n ≤ 1600) (h1 : 80 < (k).toInt → aTm aT0 mem → P (some (.int g)) mem) (h2 : (k).toInt ≤ 80 → (g).toInt = 0 → aTm aT0 mem → P (some (.int g)) mem) (h3 : (k).toInt ≤ 80 → ¬ (g).toInt = 0 → (gi mem 27 4).toInt = 0 → aTm aT0 mem → P (some (.int g)) mem) (s1 : (k).toInt ≤ 80 → ¬ (g).toInt = 0 → ¬ (gi mem 27 4).toInt = 0 → 80 ≤ (k).toInt → (-2147483648 : Int) ≤ ((gi mem 14 0).toInt + 1) ∧ ((gi mem 14 0).toInt + 1) ≤ 2147483647) (h4 : (k).toInt ≤ 80 → ¬ (g).toInt = 0 → ¬ (gi mem 27 4).toInt = 0 → 80 ≤ (k).toInt → ∀ (x8 : Int32), x8.toInt = ((gi mem 14 0).toInt + 1) → ∀ (x10 : Int32), x10.toInt = ((k).toInt + 1) → ∀ lo, zlg lo 0 = some (.ref 26) → zlg lo 4 = some (.int 0) → zlg lo 5 = some (.int x10) → aTm aT0 (si (si (si mem 27 10 6) 27 11 (gi mem 27 6)) 14 0 x8) → yR zpg tX9_reads (d + 62) (58, lo, [], (si (si (si mem 27 10 6) 27 11 (gi mem 27 6)) 14 0 x8)) P) (s2 : (k).toInt ≤ 80 → ¬ (g).toInt = 0 → ¬ (gi mem 27 4).toInt = 0 → (k).toInt < 80 → ∀ (v17 : Int32) (q18 : Int) (m15 : zM), aTm aT0 m15 → stCB T n mem (sSta T n Q p) v17.toInt q18 m15 → (v17).toInt = 0 → (-2147483648 : Int) ≤ ((gi m15 14 0).toInt + 1) ∧ ((gi m15 14 0).toInt + 1) ≤ 2147483647) (h5 : (k).toInt ≤ 80 → ¬ (g).toInt = 0 → ¬ (gi mem 27 4).toInt = 0 → (k).toInt < 80 → ∀ (v17 : Int32) (q18 : Int) (m15 : zM), aTm aT0 m15 → stCB T n mem (sSta T n Q p) v17.toInt q18 m15 → (v17).toInt = 0 → ∀ (x23 : Int32), x23.toInt = ((gi m15 14 0).toInt + 1) → ∀ (x25 : Int32), x25.toInt = ((k).toInt + 1) → ∀ lo, zlg lo 0 = some (.ref 26) → zlg lo 4 = some (.int 0) → zlg lo 5 = some (.int x25) → aTm aT0 (si m15 14 0 x23) → yR zpg tX9_reads (d + 62) (58, lo, [], (si m15 14 0 x23)) P) (s3 : (k).toInt ≤ 80 → ¬ (g).toInt = 0 → ¬ (gi mem 27 4).toInt = 0 → (k).toInt < 80 → ∀ (v17 : Int32) (q18 : Int) (m15 : zM), aTm aT0 m15 → stCB T n mem (sSta T n Q p) v17.toInt q18 m15 → ¬ (v17).toInt = 0 → ∀ (v32 : Int32) (q33 : Int) (m30 : zM), aTm aT0 m30 → (fo 27 [] rdF2 m15 m30 ∧ ((v32.toInt = 1 ∧ sSgn T n 59 q18 = some q33 ∧ cRd T n q33 m30) ∨ (v32.toInt = 0 ∧ sSgn T n 59 q18 = none))) → (v32).toInt = 0 → (-2147483648 : Int) ≤ ((gi m30 14 0).toInt + 1) ∧ ((gi m30 14 0).toInt + 1) ≤ 2147483647) (h6 : (k).toInt ≤ 80 → ¬ (g).toInt = 0 → ¬ (gi mem 27 4).toInt = 0 → (k).toInt < 80 → ∀ (v17 : Int32) (q18 : Int) (m15 : zM), aTm aT0 m15 → stCB T n mem (sSta T n Q p) v17.toInt q18 m15 → ¬ (v17).toInt = 0 → ∀ (v32 : Int32) (q33 : Int) (m30 : zM), aTm aT0 m30 → (fo 27 [] rdF2 m15 m30 ∧ ((v32.toInt = 1 ∧ sSgn T n 59 q18 = some q33 ∧ cRd T n q33 m30) ∨ (v32.toInt = 0 ∧ sSgn T n 59 q18 = none))) → (v32).toInt = 0 → ∀ (x38 : Int32), x38.toInt = ((gi m30 14 0).toInt + 1) → ∀ (x40 : Int32), x40.toInt = ((k).toInt + 1) → ∀ lo, zlg lo 0 = some (.ref 26) → zlg lo 4 = some (.int 0) → zlg lo 5 = some (.int x40) → aTm aT0 (si m30 14 0 x38) → yR zpg tX9_reads (d + 62) (58, lo, [], (si m30 14 0 x38)) P) (s4 : (k).toInt ≤ 80 → ¬ (g).toInt = 0 → ¬ (gi mem 27 4).toInt = 0 → (k).toInt < 80 → ∀ (v17 : Int32) (q18 : Int) (m15 : zM), aTm aT0 m15 → stCB T n mem (sSta T n Q p) v17.toInt q18 m15 → ¬ (v17).toInt = 0 → ∀ (v32 : Int32) (q33 : Int) (m30 : zM), aTm aT0 m30 → (fo 27 [] rdF2 m15 m30 ∧ ((v32.toInt = 1 ∧ sSgn T n 59 q18 = some q33 ∧ cRd T n q33 m30) ∨ (v32.toInt = 0 ∧ sSgn T n 59 q18 = none))) → ¬ (v32).toInt = 0 → (-2147483648 : Int) ≤ ((gi m30 14 0).toInt + 1) ∧ ((gi m30 14 0).toInt + 1) ≤ 2147483647) (h7 : (k).toInt ≤ 80 → ¬ (g).toInt = 0 → ¬ (gi mem 27 4).toInt = 0 → (k).toInt < 80 → ∀ (v17 : Int32) (q18 : Int) (m15 : zM), aTm aT0 m15 → stCB T n mem (sSta T n Q p) v17.toInt q18 m15 → ¬ (v17).toInt = 0 → ∀ (v32 : Int32) (q33 : Int) (m30 : zM), aTm aT0 m30 → (fo 27 [] rdF2 m15 m30 ∧ ((v32.toInt = 1 ∧ sSgn T n 59 q18 = some q33 ∧ cRd T n q33 m30) ∨ (v32.toInt = 0 ∧ sSgn T n 59 q18 = none))) → ¬ (v32).toInt = 0 → ∀ (x48 : Int32), x48.toInt = ((gi m30 14 0).toInt + 1) → ∀ (x50 : Int32), x50.toInt = ((k).toInt + 1) → ∀ lo, zlg lo 0 = some (.ref 26) → zlg lo 4 = some (.int 1) → zlg lo 5 = some (.int x50) → aTm aT0 (si m30 14 0 x48) → yR zpg tX9_reads (d + 62) (58, lo, [], (si m30 14 0 x48)) P) : yR zpg tX9_reads (d + 62) (58, lo, [], mem) P := by
  refine wR_li rfl l_5 ?_
  refine yR_m 1 (fun _ _ _ _ => rfl) ?_
  refine wR_ic_gt rfl (a := (k).toInt) (c := 80) rfl rfl (fun q1 => ?_) (fun q1 => ?_)
  ·
    refine wR_li rfl l_4 ?_
    exact yR_rz rfl (by omega) (h1 q1 hm)
  ·
    refine wR_li rfl l_4 ?_
    refine wR_if_eq rfl (a := (g).toInt) rfl (fun q2 => ?_) (fun q2 => ?_)
    ·
      refine wR_li rfl l_4 ?_
      exact yR_rz rfl (by omega) (h2 q1 q2 hm)
    ·
      refine wR_la rfl l_0 ?_
      refine wR_gr rfl tO_e tO_0 hm ?_
      refine wR_gi rfl rO_e rO_4 hm rfl ?_
      refine wR_if_eq rfl (a := (gi mem 27 4).toInt) rfl (fun q3 => ?_) (fun q3 => ?_)
      ·
        refine wR_li rfl l_4 ?_
        exact yR_rz rfl (by omega) (h3 q1 q2 q3 hm)
      ·
        refine wR_li rfl l_5 ?_
        refine yR_m 1 (fun _ _ _ _ => rfl) ?_
        refine wR_ic_ge rfl (a := (k).toInt) (c := 80) rfl rfl (fun q4 => ?_) (fun q4 => ?_)
        ·
          refine wR_la rfl l_0 ?_
          refine wR_gr rfl tO_e tO_0 hm ?_
          refine yR_m 1 (fun _ _ _ _ => rfl) ?_
          refine wR_la rfl l_0 ?_
          refine wR_gr rfl tO_e tO_0 hm ?_
          refine wR_gi rfl rO_e rO_6 hm rfl ?_
          refine wR_iv rfl rfl rO_e hm rfl rfl rfl rfl ?_
          show yR zpg tX5_faults (d + 61) (0, [(0, .ref 27), (1, .int 6), (2, .int (gi mem 27 6))], [], mem) _
          refine yR_m 2 (fun _ _ _ _ => rfl) ?_
          refine wR_pi rfl rO_e rO_10 hm rfl ?_
          have hm_1 : aTm aT0 (si mem 27 10 6) := tm_si rO_e rO_10 hm (i32_b _)
          refine yR_m 2 (fun _ _ _ _ => rfl) ?_
          refine wR_pi rfl rO_e rO_11 hm_1 rfl ?_
          have hm_2 : aTm aT0 (si (si mem 27 10 6) 27 11 (gi mem 27 6)) := tm_si rO_e rO_11 hm_1 (i32_b _)
          refine yR_m 1 (fun _ _ _ _ => rfl) ?_
          refine yR_rz rfl ⟨by decide, by decide⟩ ?_
          show yR zpg tX9_reads (d + 62) (130, lo, [.int 0], (si (si mem 27 10 6) 27 11 (gi mem 27 6))) _
          refine wR_si rfl rfl (fun lo5 e6 f7 => ?_)
          have lo5_0 := f7 0 _ (by decide) (Or.inl rfl) l_0
          have lo5_5 := f7 5 _ (by decide) (Or.inl rfl) l_5
          refine wR_la rfl lo5_0 ?_
          refine wR_gq rfl tO_e hm_2 ((zfl_sv_ne (by decide)).trans ((zfl_sv_ne (by decide)).trans ht)) ?_
          refine yR_m 1 (fun _ _ _ _ => rfl) ?_
          refine wR_gi rfl quB_e quB_0 hm_2 ((gi_sv_ne (by decide)).trans (gi_sv_ne (by decide))) ?_
          refine yR_m 1 (fun _ _ _ _ => rfl) ?_
          refine wN_add (a := (gi mem 14 0).toInt) (b := 1) rfl rfl rfl (s1 q1 q2 q3 q4) (fun x8 e9 => ?_)
          refine wR_pi rfl quB_e quB_0 hm_2 rfl ?_
          have hm_3 : aTm aT0 (si (si (si mem 27 10 6) 27 11 (gi mem 27 6)) 14 0 x8) := tm_si quB_e quB_0 hm_2 (i32_b _)
          refine wN_in (a := (k).toInt) (b := 1) rfl rfl lo5_5 rfl rfl (by omega) (fun x10 e11 => fun lo12 e13 f14 => ?_)
          have lo12_4 := f14 4 _ (by decide) (Or.inl rfl) e6
          have lo12_0 := f14 0 _ (by decide) (Or.inl rfl) lo5_0
          exact yR_m 1 (fun _ _ _ _ => rfl) (h4 q1 q2 q3 q4 x8 e9 x10 e11 lo12 lo12_0 lo12_4 e13 hm_3)
        ·
          refine wR_la rfl l_0 ?_
          refine wR_cv rfl rfl tO_e hm rfl (h_tsCB (T := T) (n := n) (p := p) (Q := Q) hm ht (hR (by omega)) (hq (by omega)) (hQ (by omega)) (hs (by omega)) hn (by omega)) ?_
          rintro _ m15 ⟨v17, q18, rfl, hm15, k16⟩
          show yR zpg tX9_reads (d + 62) (91, lo, [.int v17], m15) _
          refine wR_if_eq rfl (a := (v17).toInt) rfl (fun q19 => ?_) (fun q19 => ?_)
          ·
            refine yR_m 2 (fun _ _ _ _ => rfl) ?_
            refine wR_si rfl rfl (fun lo20 e21 f22 => ?_)
            have lo20_0 := f22 0 _ (by decide) (Or.inl rfl) l_0
            have lo20_5 := f22 5 _ (by decide) (Or.inl rfl) l_5
            refine wR_la rfl lo20_0 ?_
            refine wR_gq rfl tO_e hm15 k16.1.1 ?_
            refine yR_m 1 (fun _ _ _ _ => rfl) ?_
            refine wR_gi rfl quB_e quB_0 hm15 rfl ?_
            refine yR_m 1 (fun _ _ _ _ => rfl) ?_
            refine wN_add (a := (gi m15 14 0).toInt) (b := 1) rfl rfl rfl (s2 q1 q2 q3 q4 v17 q18 m15 hm15 k16 q19) (fun x23 e24 => ?_)
            refine wR_pi rfl quB_e quB_0 hm15 rfl ?_
            have hm_4 : aTm aT0 (si m15 14 0 x23) := tm_si quB_e quB_0 hm15 (i32_b _)
            refine wN_in (a := (k).toInt) (b := 1) rfl rfl lo20_5 rfl rfl (by omega) (fun x25 e26 => fun lo27 e28 f29 => ?_)
            have lo27_4 := f29 4 _ (by decide) (Or.inl rfl) e21
            have lo27_0 := f29 0 _ (by decide) (Or.inl rfl) lo20_0
            exact yR_m 1 (fun _ _ _ _ => rfl) (h5 q1 q2 q3 q4 v17 q18 m15 hm15 k16 q19 x23 e24 x25 e26 lo27 lo27_0 lo27_4 e28 hm_4)
          ·
            refine wR_la rfl l_0 ?_
            refine wR_gr rfl tO_e tO_0 hm15 ?_
            refine yR_m 1 (fun _ _ _ _ => rfl) ?_
            refine wR_cv rfl rfl rO_e hm15 rfl (h_sgC (R := 22) (A := 23) (T := T) (n := n) (p := q18) hA hm15 (st_1B k16 (by omega)) (by omega)) ?_
            rintro _ m30 ⟨v32, q33, rfl, hm30, k31⟩
            show yR zpg tX9_reads (d + 62) (103, lo, [.int v32], m30) _
            refine wR_if_eq rfl (a := (v32).toInt) rfl (fun q34 => ?_) (fun q34 => ?_)
            ·
              refine yR_m 2 (fun _ _ _ _ => rfl) ?_
              refine wR_si rfl rfl (fun lo35 e36 f37 => ?_)
              have lo35_0 := f37 0 _ (by decide) (Or.inl rfl) l_0
              have lo35_5 := f37 5 _ (by decide) (Or.inl rfl) l_5
              refine wR_la rfl lo35_0 ?_
              refine wR_gq rfl tO_e hm30 ((k6_26 (k6_fo k31.1 rfl) (by decide)).trans k16.1.1) ?_
              refine yR_m 1 (fun _ _ _ _ => rfl) ?_
              refine wR_gi rfl quB_e quB_0 hm30 rfl ?_
              refine yR_m 1 (fun _ _ _ _ => rfl) ?_
              refine wN_add (a := (gi m30 14 0).toInt) (b := 1) rfl rfl rfl (s3 q1 q2 q3 q4 v17 q18 m15 hm15 k16 q19 v32 q33 m30 hm30 k31 q34) (fun x38 e39 => ?_)
              refine wR_pi rfl quB_e quB_0 hm30 rfl ?_
              have hm_5 : aTm aT0 (si m30 14 0 x38) := tm_si quB_e quB_0 hm30 (i32_b _)
              refine wN_in (a := (k).toInt) (b := 1) rfl rfl lo35_5 rfl rfl (by omega) (fun x40 e41 => fun lo42 e43 f44 => ?_)
              have lo42_4 := f44 4 _ (by decide) (Or.inl rfl) e36
              have lo42_0 := f44 0 _ (by decide) (Or.inl rfl) lo35_0
              exact yR_m 1 (fun _ _ _ _ => rfl) (h6 q1 q2 q3 q4 v17 q18 m15 hm15 k16 q19 v32 q33 m30 hm30 k31 q34 x38 e39 x40 e41 lo42 lo42_0 lo42_4 e43 hm_5)
            ·
              refine yR_m 2 (fun _ _ _ _ => rfl) ?_
              refine wR_si rfl rfl (fun lo45 e46 f47 => ?_)
              have lo45_0 := f47 0 _ (by decide) (Or.inl rfl) l_0
              have lo45_5 := f47 5 _ (by decide) (Or.inl rfl) l_5
              refine wR_la rfl lo45_0 ?_
              refine wR_gq rfl tO_e hm30 ((k6_26 (k6_fo k31.1 rfl) (by decide)).trans k16.1.1) ?_
              refine yR_m 1 (fun _ _ _ _ => rfl) ?_
              refine wR_gi rfl quB_e quB_0 hm30 rfl ?_
              refine yR_m 1 (fun _ _ _ _ => rfl) ?_
              refine wN_add (a := (gi m30 14 0).toInt) (b := 1) rfl rfl rfl (s4 q1 q2 q3 q4 v17 q18 m15 hm15 k16 q19 v32 q33 m30 hm30 k31 q34) (fun x48 e49 => ?_)
              refine wR_pi rfl quB_e quB_0 hm30 rfl ?_
              have hm_6 : aTm aT0 (si m30 14 0 x48) := tm_si quB_e quB_0 hm30 (i32_b _)
              refine wN_in (a := (k).toInt) (b := 1) rfl rfl lo45_5 rfl rfl (by omega) (fun x50 e51 => fun lo52 e53 f54 => ?_)
              have lo52_4 := f54 4 _ (by decide) (Or.inl rfl) e46
              have lo52_0 := f54 0 _ (by decide) (Or.inl rfl) lo45_0
              exact yR_m 1 (fun _ _ _ _ => rfl) (h7 q1 q2 q3 q4 v17 q18 m15 hm15 k16 q19 v32 q33 m30 hm30 k31 q34 x48 e49 x50 e51 lo52 lo52_0 lo52_4 e53 hm_6)

theorem re58_B {V : Option (Int × Qd)} {m0 : zM} (hA : hRA 22 23) (hn : n ≤ 1600) : ∀ (F : Nat) (mem : zM) (g k : Int32) (lo : List (Nat × Value)), (81 : Int) - k.toInt < (F : Int) → 1 ≤ k.toInt → k.toInt ≤ 81 → aTm aT0 mem → zfl mem 26 2 = some (.ref 14) → (gi mem 14 0).toInt = k.toInt → zo 14 mem = zo 14 m0 → reIB T n V g.toInt k.toInt mem → zlg lo 0 = some (.ref 26) → zlg lo 4 = some (.int g) → zlg lo 5 = some (.int k) → yR zpg tX9_reads (d + 62) (58, lo, [], mem) (fun a m => ∃ v : Int32, a = some (.int v) ∧ aTm aT0 m ∧ zo 14 m = zo 14 m0 ∧ ((v.toInt = 1 ∧ ∃ Q, V = some ((gi m 14 0).toInt, Q) ∧ hqQ Q ∧ cQ 14 15 16 19 20 21 24 25 Q m) ∨ (v.toInt = 0 ∧ V = none))) := by
  intro F
  induction F with
  | zero =>
    intro mem g k lo hF k1 k2
    exfalso
    omega
  | succ F ih =>
    intro mem g k lo hF k1 k2 hm ht h0 hz hI a0 a4 a5
    rcases hI with ⟨hg, k8, Q, p, f, hq, hQ, hR, hs, hf, hV⟩ | ⟨hg, hV⟩
    · obtain ⟨f, rfl⟩ : ∃ w, f = w + 1 := ⟨f - 1, by omega⟩
      exact w_re58B (T := T) (n := n) (p := p) (Q := Q) hm a0 a4 a5 ht hA (by omega) ⟨k1, k2⟩ (fun _ => hR) (fun _ => hq) (fun _ => hQ) (fun _ => hs) hn
        (fun q1 hm2 => by exfalso; omega)
        (fun q1 q2 hm2 => by exfalso; omega)
        (fun q1 q2 q3 hm2 => by
          have E0 := (cX_0 hR).1 q3
          exact ⟨g, rfl, hm2, hz, Or.inl ⟨by omega, Q, by rw [h0]; exact hV.trans ((oif_t (fun w => w.2 E0)).trans (pif_t E0)), hq, hQ⟩⟩)
        (fun q1 q2 q3 q4 => by
          omega)
        (fun q1 q2 q3 q4 x8 e9 x10 e11 lo a0 a4 a5 hm2 => by
          have NE : ¬ (tkf T n p).1.1 = 0 := fun w => q3 ((cX_0 hR).2 w)
          exact ih _ 0 x10 lo (by omega) (by omega) (by omega) hm2 ((zfl_sv_ne (by decide)).trans ((zfl_sv_ne (by decide)).trans ((zfl_sv_ne (by decide)).trans ht))) (by rw [(gi_eqQ (isQ_sv (isQ_sv (isQ_of quB_e hm))) quB_0)]; omega) (((zo_sv (by decide)).trans ((zo_sv (by decide)).trans (zo_sv (by decide)))).trans hz) (Or.inr ⟨rfl, hV.trans (oif_f (fun w => w ⟨by omega, NE⟩))⟩) a0 a4 a5)
        (fun q1 q2 q3 q4 v17 q18 m15 hm15 k16 q19 => by
          have e1 := congrArg Int32.toInt k16.1.2.1
          omega)
        (fun q1 q2 q3 q4 v17 q18 m15 hm15 k16 q19 x23 e24 x25 e26 lo a0 a4 a5 hm2 => by
          have NE : ¬ (tkf T n p).1.1 = 0 := fun w => q3 ((cX_0 hR).2 w)
          have e1 := congrArg Int32.toInt k16.1.2.1
          rcases k16.2 with w | w | w
          · exfalso; have w1 := w.1; omega
          · exact ih _ 0 x25 lo (by omega) (by omega) (by omega) hm2 ((zfl_sv_ne (by decide)).trans k16.1.1) (by rw [(gi_eqQ (isQ_of quB_e hm15) quB_0)]; omega) (((zo_sv (by decide)).trans k16.1.2.2).trans hz) (Or.inr ⟨rfl, hV.trans ((oif_t (fun w => by omega)).trans ((pif_f NE).trans (ob_0 w.2)))⟩) a0 a4 a5
          · exfalso; have w1 := w.1; omega)
        (fun q1 q2 q3 q4 v17 q18 m15 hm15 k16 q19 v32 q33 m30 hm30 k31 q34 => by
          have e1 := congrArg Int32.toInt k16.1.2.1
          have e2 := congrArg Int32.toInt (k6_gi (k := 14) (i := 0) (by decide) (k6_fo k31.1 rfl))
          omega)
        (fun q1 q2 q3 q4 v17 q18 m15 hm15 k16 q19 v32 q33 m30 hm30 k31 q34 x38 e39 x40 e41 lo a0 a4 a5 hm2 => by
          have NE : ¬ (tkf T n p).1.1 = 0 := fun w => q3 ((cX_0 hR).2 w)
          have e1 := congrArg Int32.toInt k16.1.2.1
          have e2 := congrArg Int32.toInt (k6_gi (k := 14) (i := 0) (by decide) (k6_fo k31.1 rfl))
          rcases k16.2 with ⟨-, ⟨Q2, S, -⟩, -⟩ | w | w
          · exact ih _ 0 x40 lo (by omega) (by omega) (by omega) hm2 ((zfl_sv_ne (by decide)).trans ((k6_26 (k6_fo k31.1 rfl) (by decide)).trans k16.1.1)) (by rw [(gi_eqQ (isQ_of quB_e hm30) quB_0)]; omega) (((zo_sv (by decide)).trans ((zo_k6 (k6_fo k31.1 rfl)).trans k16.1.2.2)).trans hz) (Or.inr ⟨rfl, hV.trans ((oif_t (fun w => by omega)).trans ((pif_f NE).trans ((ob_1 S).trans (ob_0 (ob_0 (sg_0 k31 (by omega)))))))⟩) a0 a4 a5
          · exfalso; have w1 := w.1; omega
          · exact ih _ 0 x40 lo (by omega) (by omega) (by omega) hm2 ((zfl_sv_ne (by decide)).trans ((k6_26 (k6_fo k31.1 rfl) (by decide)).trans k16.1.1)) (by rw [(gi_eqQ (isQ_of quB_e hm30) quB_0)]; omega) (((zo_sv (by decide)).trans ((zo_k6 (k6_fo k31.1 rfl)).trans k16.1.2.2)).trans hz) (Or.inr ⟨rfl, hV.trans ((oif_t (fun w => by omega)).trans ((pif_f NE).trans (ob_0 w.2.1)))⟩) a0 a4 a5)
        (fun q1 q2 q3 q4 v17 q18 m15 hm15 k16 q19 v32 q33 m30 hm30 k31 q34 => by
          have e1 := congrArg Int32.toInt k16.1.2.1
          have e2 := congrArg Int32.toInt (k6_gi (k := 14) (i := 0) (by decide) (k6_fo k31.1 rfl))
          omega)
        (fun q1 q2 q3 q4 v17 q18 m15 hm15 k16 q19 v32 q33 m30 hm30 k31 q34 x48 e49 x50 e51 lo a0 a4 a5 hm2 => by
          have NE : ¬ (tkf T n p).1.1 = 0 := fun w => q3 ((cX_0 hR).2 w)
          have e1 := congrArg Int32.toInt k16.1.2.1
          have e2 := congrArg Int32.toInt (k6_gi (k := 14) (i := 0) (by decide) (k6_fo k31.1 rfl))
          rcases k16.2 with ⟨-, ⟨Q2, S, hQ2⟩, c2, hs2⟩ | w | w
          · have z := sSta_sz S
            have ps := pos_S (cRd_p c2).1 (cRd_p c2).2 (sg_1 k31 (by omega)).1
            have e3 := congrArg Int32.toInt (k6_gi (k := 22) (i := 3) (by decide) (k6_fo k31.1 rfl))
            have kx : x50.toInt = k.toInt + 1 := by omega
            refine ih _ 1 x50 lo (by omega) (by omega) (by omega) hm2 ((zfl_sv_ne (by decide)).trans ((k6_26 (k6_fo k31.1 rfl) (by decide)).trans k16.1.1)) (by rw [(gi_eqQ (isQ_of quB_e hm30) quB_0)]; omega) (((zo_sv (by decide)).trans ((zo_k6 (k6_fo k31.1 rfl)).trans k16.1.2.2)).trans hz) (Or.inl ⟨rfl, by omega, Q2, _, f, ?_, cQ_svB (by decide) (cQ_k6B (k6_fo k31.1 rfl) hQ2), cRd_sv (by decide) (sg_1 k31 (by omega)).2, by rw [gi_sv_ne (by decide)]; omega, by omega, ?_⟩) a0 a4 a5
            · unfold hqQ
              rw [z.1, z.2]
              exact hq
            · rw [kx]
              exact hV.trans ((oif_t (fun w => by omega)).trans ((pif_f NE).trans ((ob_1 S).trans (fin_b (sg_1 k31 (by omega)).1))))
          · exfalso; have w1 := w.1; omega
          · exfalso; have w1 := (sS_1 (sg_1 k31 (by omega)).1).1.1; have w2 := w.2.2.1; omega)
    · exact w_re58B (T := T) (n := n) (p := 0) (Q := (0, 0, [], [], [], [], [], [], 3, 0, [])) hm a0 a4 a5 ht hA (by omega) ⟨k1, k2⟩ (fun w => absurd hg w) (fun w => absurd hg w) (fun w => absurd hg w) (fun w => absurd hg w) hn
        (fun q1 hm2 => ⟨g, rfl, hm2, hz, Or.inr ⟨by omega, hV⟩⟩)
        (fun q1 q2 hm2 => ⟨g, rfl, hm2, hz, Or.inr ⟨by omega, hV⟩⟩)
        (fun q1 q2 q3 hm2 => ⟨g, rfl, hm2, hz, Or.inr ⟨by omega, hV⟩⟩)
        (fun q1 q2 q3 q4 => by exfalso; omega)
        (fun q1 q2 q3 q4 x8 e9 x10 e11 lo a0 a4 a5 hm2 => by exfalso; omega)
        (fun q1 q2 q3 q4 v17 q18 m15 hm15 k16 q19 => by exfalso; omega)
        (fun q1 q2 q3 q4 v17 q18 m15 hm15 k16 q19 x23 e24 x25 e26 lo a0 a4 a5 hm2 => by exfalso; omega)
        (fun q1 q2 q3 q4 v17 q18 m15 hm15 k16 q19 v32 q33 m30 hm30 k31 q34 => by exfalso; omega)
        (fun q1 q2 q3 q4 v17 q18 m15 hm15 k16 q19 v32 q33 m30 hm30 k31 q34 x38 e39 x40 e41 lo a0 a4 a5 hm2 => by exfalso; omega)
        (fun q1 q2 q3 q4 v17 q18 m15 hm15 k16 q19 v32 q33 m30 hm30 k31 q34 => by exfalso; omega)
        (fun q1 q2 q3 q4 v17 q18 m15 hm15 k16 q19 v32 q33 m30 hm30 k31 q34 x48 e49 x50 e51 lo a0 a4 a5 hm2 => by exfalso; omega)
set_option maxRecDepth 100000 in
theorem w_re5B {d : Nat} {mem : zM} {P : Option Value → zM → Prop} {T : List Int32} {x : Int32} {lo : List (Nat × Value)} (hm : aTm aT0 mem) (l_0 : zlg lo 0 = some (.ref 26)) (l_1 : zlg lo 1 = some (.ref 1)) (l_2 : zlg lo 2 = some (.int x)) (l_3 : zlg lo 3 = some (.ref 14)) (ht : zfl mem 26 2 = some (.ref 14)) (hA : hRA 22 23) (hC : ga mem 28 = ownC) (hT : ga mem 1 = T) (hx : 0 ≤ x.toInt ∧ x.toInt ≤ 1600) (h1 : ∀ (m1 : zM), aTm aT0 m1 → ((∀ k, ¬ k = 14 → ¬ k = 22 → ¬ k = 24 → ¬ k = 25 → zat m1 k = zat mem k) ∧ cQ 14 15 16 19 20 21 24 25 (0, 0, [], [], [], [], [], [], 3, 0, []) m1 ∧ (gi m1 22 3).toInt = 0) → ∀ (m3 : zM), aTm aT0 m3 → ((∀ k, ¬ k = 27 → zat m3 k = zat m1 k) ∧ cRd T x.toInt 0 m3) → ∀ (v7 : Int32) (q8 : Int) (m5 : zM), aTm aT0 m5 → tzHB T x.toInt m3 0 v7.toInt q8 m5 → (v7).toInt = 0 → ∀ lo, zlg lo 0 = some (.ref 26) → zlg lo 4 = some (.int 0) → zlg lo 5 = some (.int 1) → aTm aT0 (si m5 14 0 1) → yR zpg tX9_reads (d + 62) (58, lo, [], (si m5 14 0 1)) P) (h2 : ∀ (m1 : zM), aTm aT0 m1 → ((∀ k, ¬ k = 14 → ¬ k = 22 → ¬ k = 24 → ¬ k = 25 → zat m1 k = zat mem k) ∧ cQ 14 15 16 19 20 21 24 25 (0, 0, [], [], [], [], [], [], 3, 0, []) m1 ∧ (gi m1 22 3).toInt = 0) → ∀ (m3 : zM), aTm aT0 m3 → ((∀ k, ¬ k = 27 → zat m3 k = zat m1 k) ∧ cRd T x.toInt 0 m3) → ∀ (v7 : Int32) (q8 : Int) (m5 : zM), aTm aT0 m5 → tzHB T x.toInt m3 0 v7.toInt q8 m5 → ¬ (v7).toInt = 0 → ∀ (v18 : Int32) (q19 : Int) (m16 : zM), aTm aT0 m16 → (fo 27 [] rdF2 m5 m16 ∧ ((v18.toInt = 1 ∧ sSgn T x.toInt 59 q8 = some q19 ∧ cRd T x.toInt q19 m16) ∨ (v18.toInt = 0 ∧ sSgn T x.toInt 59 q8 = none))) → (v18).toInt = 0 → ∀ lo, zlg lo 0 = some (.ref 26) → zlg lo 4 = some (.int 0) → zlg lo 5 = some (.int 1) → aTm aT0 (si m16 14 0 1) → yR zpg tX9_reads (d + 62) (58, lo, [], (si m16 14 0 1)) P) (h3 : ∀ (m1 : zM), aTm aT0 m1 → ((∀ k, ¬ k = 14 → ¬ k = 22 → ¬ k = 24 → ¬ k = 25 → zat m1 k = zat mem k) ∧ cQ 14 15 16 19 20 21 24 25 (0, 0, [], [], [], [], [], [], 3, 0, []) m1 ∧ (gi m1 22 3).toInt = 0) → ∀ (m3 : zM), aTm aT0 m3 → ((∀ k, ¬ k = 27 → zat m3 k = zat m1 k) ∧ cRd T x.toInt 0 m3) → ∀ (v7 : Int32) (q8 : Int) (m5 : zM), aTm aT0 m5 → tzHB T x.toInt m3 0 v7.toInt q8 m5 → ¬ (v7).toInt = 0 → ∀ (v18 : Int32) (q19 : Int) (m16 : zM), aTm aT0 m16 → (fo 27 [] rdF2 m5 m16 ∧ ((v18.toInt = 1 ∧ sSgn T x.toInt 59 q8 = some q19 ∧ cRd T x.toInt q19 m16) ∨ (v18.toInt = 0 ∧ sSgn T x.toInt 59 q8 = none))) → ¬ (v18).toInt = 0 → ∀ lo, zlg lo 0 = some (.ref 26) → zlg lo 4 = some (.int 1) → zlg lo 5 = some (.int 1) → aTm aT0 (si m16 14 0 1) → yR zpg tX9_reads (d + 62) (58, lo, [], (si m16 14 0 1)) P) : yR zpg tX9_reads (d + 62) (5, lo, [], mem) P := by
  refine wR_la rfl l_0 ?_
  refine wR_gq rfl tO_e hm ht ?_
  refine wR_cv rfl rfl quB_e hm rfl (h_clCB hm (by omega)) ?_
  rintro _ m1 ⟨rfl, hI1, k2⟩
  show yR zpg tX9_reads (d + 62) (12, lo, [], m1) _
  refine wR_la rfl l_0 ?_
  refine wR_gr rfl tO_e tO_0 hI1 ?_
  refine wR_la rfl l_1 ?_
  refine wR_li rfl l_2 ?_
  refine wR_cv rfl rfl rO_e hI1 rfl (h_bgT (T := T) (x := x) hI1 ((ga_zz (k2.1 28 (by decide) (by decide) (by decide) (by decide))).trans hC) ((ga_zz (k2.1 1 (by decide) (by decide) (by decide) (by decide))).trans hT) hx (by omega)) ?_
  rintro _ m3 ⟨rfl, hI3, k4⟩
  show yR zpg tX9_reads (d + 62) (21, lo, [], m3) _
  refine wR_la rfl l_0 ?_
  refine wR_cv rfl rfl tO_e hI3 rfl (h_tzCB (T := T) (n := x.toInt) (p := 0) hI3 ((bz_26 k4.1 (by decide)).trans ((cz_26 k2.1 (by decide)).trans ht)) k4.2 (cQ_zzB k4.1 k2.2.1) (by rw [gi_zq (k4.1 22 (by decide))]; have q9 := k2.2.2; omega) (by omega)) ?_
  rintro _ m5 ⟨v7, q8, rfl, hm5, k6⟩
  show yR zpg tX9_reads (d + 62) (25, lo, [.int v7], m5) _
  refine wR_if_eq rfl (a := (v7).toInt) rfl (fun q9 => ?_) (fun q9 => ?_)
  ·
    refine yR_m 1 (fun _ _ _ _ => rfl) ?_
    refine wR_si rfl rfl (fun lo10 e11 f12 => ?_)
    have lo10_0 := f12 0 _ (by decide) (Or.inl rfl) l_0
    have lo10_1 := f12 1 _ (by decide) (Or.inl rfl) l_1
    have lo10_2 := f12 2 _ (by decide) (Or.inl rfl) l_2
    have lo10_3 := f12 3 _ (by decide) (Or.inl rfl) l_3
    refine wR_la rfl lo10_0 ?_
    refine wR_gq rfl tO_e hm5 k6.1.1 ?_
    refine yR_m 1 (fun _ _ _ _ => rfl) ?_
    refine wR_pi rfl quB_e quB_0 hm5 rfl ?_
    have hm_1 : aTm aT0 (si m5 14 0 1) := tm_si quB_e quB_0 hm5 (i32_b _)
    refine yR_m 1 (fun _ _ _ _ => rfl) ?_
    refine wR_si rfl rfl (fun lo13 e14 f15 => ?_)
    have lo13_4 := f15 4 _ (by decide) (Or.inl rfl) e11
    have lo13_0 := f15 0 _ (by decide) (Or.inl rfl) lo10_0
    have lo13_1 := f15 1 _ (by decide) (Or.inl rfl) lo10_1
    have lo13_2 := f15 2 _ (by decide) (Or.inl rfl) lo10_2
    have lo13_3 := f15 3 _ (by decide) (Or.inl rfl) lo10_3
    exact h1 m1 hI1 k2 m3 hI3 k4 v7 q8 m5 hm5 k6 q9 lo13 lo13_0 lo13_4 e14 hm_1
  ·
    refine wR_la rfl l_0 ?_
    refine wR_gr rfl tO_e tO_0 hm5 ?_
    refine yR_m 1 (fun _ _ _ _ => rfl) ?_
    refine wR_cv rfl rfl rO_e hm5 rfl (h_sgC (R := 22) (A := 23) (T := T) (n := x.toInt) (p := q8) hA hm5 (or_1 k6.2 (by omega)).2.1 (by omega)) ?_
    rintro _ m16 ⟨v18, q19, rfl, hm16, k17⟩
    show yR zpg tX9_reads (d + 62) (37, lo, [.int v18], m16) _
    refine wR_if_eq rfl (a := (v18).toInt) rfl (fun q20 => ?_) (fun q20 => ?_)
    ·
      refine yR_m 1 (fun _ _ _ _ => rfl) ?_
      refine wR_si rfl rfl (fun lo21 e22 f23 => ?_)
      have lo21_0 := f23 0 _ (by decide) (Or.inl rfl) l_0
      have lo21_1 := f23 1 _ (by decide) (Or.inl rfl) l_1
      have lo21_2 := f23 2 _ (by decide) (Or.inl rfl) l_2
      have lo21_3 := f23 3 _ (by decide) (Or.inl rfl) l_3
      refine wR_la rfl lo21_0 ?_
      refine wR_gq rfl tO_e hm16 ((k6_26 (k6_fo k17.1 rfl) (by decide)).trans k6.1.1) ?_
      refine yR_m 1 (fun _ _ _ _ => rfl) ?_
      refine wR_pi rfl quB_e quB_0 hm16 rfl ?_
      have hm_2 : aTm aT0 (si m16 14 0 1) := tm_si quB_e quB_0 hm16 (i32_b _)
      refine yR_m 1 (fun _ _ _ _ => rfl) ?_
      refine wR_si rfl rfl (fun lo24 e25 f26 => ?_)
      have lo24_4 := f26 4 _ (by decide) (Or.inl rfl) e22
      have lo24_0 := f26 0 _ (by decide) (Or.inl rfl) lo21_0
      have lo24_1 := f26 1 _ (by decide) (Or.inl rfl) lo21_1
      have lo24_2 := f26 2 _ (by decide) (Or.inl rfl) lo21_2
      have lo24_3 := f26 3 _ (by decide) (Or.inl rfl) lo21_3
      exact h2 m1 hI1 k2 m3 hI3 k4 v7 q8 m5 hm5 k6 q9 v18 q19 m16 hm16 k17 q20 lo24 lo24_0 lo24_4 e25 hm_2
    ·
      refine yR_m 2 (fun _ _ _ _ => rfl) ?_
      refine wR_si rfl rfl (fun lo27 e28 f29 => ?_)
      have lo27_0 := f29 0 _ (by decide) (Or.inl rfl) l_0
      have lo27_1 := f29 1 _ (by decide) (Or.inl rfl) l_1
      have lo27_2 := f29 2 _ (by decide) (Or.inl rfl) l_2
      have lo27_3 := f29 3 _ (by decide) (Or.inl rfl) l_3
      refine wR_la rfl lo27_0 ?_
      refine wR_gq rfl tO_e hm16 ((k6_26 (k6_fo k17.1 rfl) (by decide)).trans k6.1.1) ?_
      refine yR_m 1 (fun _ _ _ _ => rfl) ?_
      refine wR_pi rfl quB_e quB_0 hm16 rfl ?_
      have hm_3 : aTm aT0 (si m16 14 0 1) := tm_si quB_e quB_0 hm16 (i32_b _)
      refine yR_m 1 (fun _ _ _ _ => rfl) ?_
      refine wR_si rfl rfl (fun lo30 e31 f32 => ?_)
      have lo30_4 := f32 4 _ (by decide) (Or.inl rfl) e28
      have lo30_0 := f32 0 _ (by decide) (Or.inl rfl) lo27_0
      have lo30_1 := f32 1 _ (by decide) (Or.inl rfl) lo27_1
      have lo30_2 := f32 2 _ (by decide) (Or.inl rfl) lo27_2
      have lo30_3 := f32 3 _ (by decide) (Or.inl rfl) lo27_3
      exact h3 m1 hI1 k2 m3 hI3 k4 v7 q8 m5 hm5 k6 q9 v18 q19 m16 hm16 k17 q20 lo30 lo30_0 lo30_4 e31 hm_3

theorem h_reCB {x : Int32} (hm : aTm aT0 mem) (hC : ga mem 28 = ownC) (hT : ga mem 1 = T) (hx : 0 ≤ x.toInt ∧ x.toInt ≤ 1600) (hd : 63 ≤ d) : yC zpg d 86 [.ref 26, .ref 1, .int x, .ref 14] mem (fun a m => ∃ v : Int32, a = some (.int v) ∧ aTm aT0 m ∧ zo 14 m = zo 14 mem ∧ ((v.toInt = 1 ∧ ∃ Q, sQua T x.toInt = some ((gi m 14 0).toInt, Q) ∧ hqQ Q ∧ cQ 14 15 16 19 20 21 24 25 Q m) ∨ (v.toInt = 0 ∧ sQua T x.toInt = none))) := by
  obtain ⟨d, rfl⟩ : ∃ q, d = q + 63 := ⟨d - 63, by omega⟩
  have hA : hRA 22 23 := by
    unfold hRA
    decide
  refine yC_of (t := tX9_reads) rfl rfl ?_
  refine yR_m 2 (fun _ _ _ _ => rfl) ?_
  refine wR_pr rfl tO_e tO_2 hm rfl ?_
  have h1 : aTm aT0 (sR mem 26 2 14) := tm_sR tO_e tO_2 hm (by decide)
  exact w_re5B (d := d) (T := T) (x := x) h1 rfl rfl rfl rfl (zfl_sR tO_e tO_2 hm) hA (ga_sv.trans hC) (ga_sv.trans hT) hx
        (fun m1 hI1 k2 m3 hI3 k4 v7 q8 m5 hm5 k6 q9 lo a0 a4 a5 hm2 => by
          exact re58_B (m0 := mem) (T := T) (n := x.toInt) (V := sQua T x.toInt) hA hx.2 82 _ 0 1 lo (by decide) (by decide) (by decide) hm2 ((zfl_sv_ne (by decide)).trans k6.1.1) (by rw [(gi_eqQ (isQ_of quB_e hm5) quB_0)]) (((zo_sv (by decide)).trans (k6.1.2.trans ((zo_bz k4.1).trans (zo_cz (by decide) (by decide) (by decide) (by decide) k2.1)))).trans (zo_sv (by decide))) (Or.inr ⟨rfl, ob_0 (or_0 k6.2 (by omega))⟩) a0 a4 a5)
        (fun m1 hI1 k2 m3 hI3 k4 v7 q8 m5 hm5 k6 q9 v18 q19 m16 hm16 k17 q20 lo a0 a4 a5 hm2 => by
          obtain ⟨⟨y, S, hy, hQ2⟩, c2, hs2⟩ := or_1 k6.2 (by omega)
          exact re58_B (m0 := mem) (T := T) (n := x.toInt) (V := sQua T x.toInt) hA hx.2 82 _ 0 1 lo (by decide) (by decide) (by decide) hm2 ((zfl_sv_ne (by decide)).trans ((k6_26 (k6_fo k17.1 rfl) (by decide)).trans k6.1.1)) (by rw [(gi_eqQ (isQ_of quB_e hm16) quB_0)]) (((zo_sv (by decide)).trans ((zo_k6 (k6_fo k17.1 rfl)).trans (k6.1.2.trans ((zo_bz k4.1).trans (zo_cz (by decide) (by decide) (by decide) (by decide) k2.1))))).trans (zo_sv (by decide))) (Or.inr ⟨rfl, (ob_1 S).trans (ob_0 (ob_0 (sg_0 k17 (by omega))))⟩) a0 a4 a5)
        (fun m1 hI1 k2 m3 hI3 k4 v7 q8 m5 hm5 k6 q9 v18 q19 m16 hm16 k17 q20 lo a0 a4 a5 hm2 => by
          obtain ⟨⟨y, S, hy, hQ2⟩, c2, hs2⟩ := or_1 k6.2 (by omega)
          have ps := pos_S (cRd_p c2).1 (cRd_p c2).2 (sg_1 k17 (by omega)).1
          have e3 := congrArg Int32.toInt (k6_gi (k := 22) (i := 3) (by decide) (k6_fo k17.1 rfl))
          exact re58_B (m0 := mem) (T := T) (n := x.toInt) (V := sQua T x.toInt) hA hx.2 82 _ 1 1 lo (by decide) (by decide) (by decide) hm2 ((zfl_sv_ne (by decide)).trans ((k6_26 (k6_fo k17.1 rfl) (by decide)).trans k6.1.1)) (by rw [(gi_eqQ (isQ_of quB_e hm16) quB_0)]) (((zo_sv (by decide)).trans ((zo_k6 (k6_fo k17.1 rfl)).trans (k6.1.2.trans ((zo_bz k4.1).trans (zo_cz (by decide) (by decide) (by decide) (by decide) k2.1))))).trans (zo_sv (by decide))) (Or.inl ⟨rfl, by decide, (y.1, y.2, [], [], [], [], [], [], 3, 0, []), _, 1601, hy, cQ_svB (by decide) (cQ_k6B (k6_fo k17.1 rfl) hQ2), cRd_sv (by decide) (sg_1 k17 (by omega)).2, by rw [gi_sv_ne (by decide)]; omega, by decide, (ob_1 S).trans (fin_b (sg_1 k17 (by omega)).1)⟩) a0 a4 a5)
end DB
