/-! the class's statements: all of them -/
section CY
variable {d : Nat} {mr mem m : zM} {T : List Int32} {n p q v a b : Int} {Q : Qd}
set_option maxRecDepth 100000 in
theorem w_tS0 {d : Nat} {mem : zM} {P : Option Value → zM → Prop} (hm : aTm aT0 mem) (h1 : ¬ (gi mem 27 4).toInt = 2 → aTm aT0 mem → yR zpg tX9_takesStatement (d + 61) (22, [(0, .ref 26)], [.int (-1)], mem) P) (h2 : (gi mem 27 4).toInt = 2 → aTm aT0 mem → yR zpg tX9_takesStatement (d + 61) (22, [(0, .ref 26)], [.int (gi mem 27 5)], mem) P) : yR zpg tX9_takesStatement (d + 61) (0, [(0, .ref 26)], [], mem) P := by
  refine yR_m 1 (fun _ _ _ _ => rfl) ?_
  refine wR_gr rfl tO_e tO_0 hm ?_
  refine wR_gi rfl rO_e rO_4 hm rfl ?_
  refine yR_m 1 (fun _ _ _ _ => rfl) ?_
  refine wR_ic_ne rfl (a := (gi mem 27 4).toInt) (c := 2) rfl rfl (fun q1 => ?_) (fun q1 => ?_)
  ·
    exact yR_m 1 (fun _ _ _ _ => rfl) (h1 q1 hm)
  ·
    refine yR_m 1 (fun _ _ _ _ => rfl) ?_
    refine wR_gr rfl tO_e tO_0 hm ?_
    refine wR_gi rfl rO_e rO_5 hm rfl ?_
    exact yR_m 1 (fun _ _ _ _ => rfl) (h2 q1 hm)

set_option maxRecDepth 100000 in
theorem w_tSA {d : Nat} {mem : zM} {P : Option Value → zM → Prop} {T : List Int32} {n p : Int} {Q : Qd} {w : Int32} (hm : aTm aT0 mem) (ht : zfl mem 26 2 = some (.ref 2)) (hR : cRd T n p mem) (hk4 : ¬ w.toInt = -1 → ¬ (tkf T n p).1.1 = 4) (hq : hqQ Q) (hQ : cQ 2 3 4 7 8 9 12 13 Q mem) (hs : (gi mem 10 3).toInt ≤ p) (hn : n ≤ 1600) (s1 : (w).toInt = 2 → ∀ (v16 : Int32) (q17 : Int) (m14 : zM), aTm aT0 m14 → stCA T n mem (sTel T n 2 1 9 Q (tkf T n p).2) v16.toInt q17 m14 → (0 : Int) ≤ (v16).toInt ∧ (v16).toInt ≤ 1) (h1 : (w).toInt = 2 → ∀ (v16 : Int32) (q17 : Int) (m14 : zM), aTm aT0 m14 → stCA T n mem (sTel T n 2 1 9 Q (tkf T n p).2) v16.toInt q17 m14 → aTm aT0 m14 → P (some (.int v16)) m14) (s2 : ¬ (w).toInt = 2 → (w).toInt = 3 → ∀ (v20 : Int32) (q21 : Int) (m18 : zM), aTm aT0 m18 → stCA T n mem (sTel T n 3 0 100 Q (tkf T n p).2) v20.toInt q21 m18 → (0 : Int) ≤ (v20).toInt ∧ (v20).toInt ≤ 1) (h2 : ¬ (w).toInt = 2 → (w).toInt = 3 → ∀ (v20 : Int32) (q21 : Int) (m18 : zM), aTm aT0 m18 → stCA T n mem (sTel T n 3 0 100 Q (tkf T n p).2) v20.toInt q21 m18 → aTm aT0 m18 → P (some (.int v20)) m18) (s3 : ¬ (w).toInt = 2 → ¬ (w).toInt = 3 → (w).toInt = 4 → ∀ (v24 : Int32) (q25 : Int) (m22 : zM), aTm aT0 m22 → stCA T n mem (sWal T n Q (tkf T n p).2) v24.toInt q25 m22 → (0 : Int) ≤ (v24).toInt ∧ (v24).toInt ≤ 1) (h3 : ¬ (w).toInt = 2 → ¬ (w).toInt = 3 → (w).toInt = 4 → ∀ (v24 : Int32) (q25 : Int) (m22 : zM), aTm aT0 m22 → stCA T n mem (sWal T n Q (tkf T n p).2) v24.toInt q25 m22 → aTm aT0 m22 → P (some (.int v24)) m22) (s4 : ¬ (w).toInt = 2 → ¬ (w).toInt = 3 → ¬ (w).toInt = 4 → (w).toInt = 5 → ∀ (v28 : Int32) (q29 : Int) (m26 : zM), aTm aT0 m26 → stCA T n mem (oif ((Qt Q).length < 9) (sLac T n Q (tkf T n p).2)) v28.toInt q29 m26 → (0 : Int) ≤ (v28).toInt ∧ (v28).toInt ≤ 1) (h4 : ¬ (w).toInt = 2 → ¬ (w).toInt = 3 → ¬ (w).toInt = 4 → (w).toInt = 5 → ∀ (v28 : Int32) (q29 : Int) (m26 : zM), aTm aT0 m26 → stCA T n mem (oif ((Qt Q).length < 9) (sLac T n Q (tkf T n p).2)) v28.toInt q29 m26 → aTm aT0 m26 → P (some (.int v28)) m26) (h5 : ¬ (w).toInt = 2 → ¬ (w).toInt = 3 → ¬ (w).toInt = 4 → ¬ (w).toInt = 5 → (w).toInt = 6 → aTm aT0 (si (si mem 27 10 1) 27 11 (gi mem 27 7)) → P (some (.int 0)) (si (si mem 27 10 1) 27 11 (gi mem 27 7))) (h6 : ¬ (w).toInt = 2 → ¬ (w).toInt = 3 → ¬ (w).toInt = 4 → ¬ (w).toInt = 5 → ¬ (w).toInt = 6 → (w).toInt = 7 → aTm aT0 (si (si mem 27 10 1) 27 11 (gi mem 27 7)) → P (some (.int 0)) (si (si mem 27 10 1) 27 11 (gi mem 27 7))) (h7 : ¬ (w).toInt = 2 → ¬ (w).toInt = 3 → ¬ (w).toInt = 4 → ¬ (w).toInt = 5 → ¬ (w).toInt = 6 → ¬ (w).toInt = 7 → (w).toInt = 8 → aTm aT0 (si (si mem 27 10 1) 27 11 (gi mem 27 7)) → P (some (.int 0)) (si (si mem 27 10 1) 27 11 (gi mem 27 7))) (s5 : ¬ (w).toInt = 2 → ¬ (w).toInt = 3 → ¬ (w).toInt = 4 → ¬ (w).toInt = 5 → ¬ (w).toInt = 6 → ¬ (w).toInt = 7 → ¬ (w).toInt = 8 → (w).toInt = 9 → ∀ (v32 : Int32) (q33 : Int) (m30 : zM), aTm aT0 m30 → stCA T n mem (sHav T n Q (tkf T n p).2) v32.toInt q33 m30 → (0 : Int) ≤ (v32).toInt ∧ (v32).toInt ≤ 1) (h8 : ¬ (w).toInt = 2 → ¬ (w).toInt = 3 → ¬ (w).toInt = 4 → ¬ (w).toInt = 5 → ¬ (w).toInt = 6 → ¬ (w).toInt = 7 → ¬ (w).toInt = 8 → (w).toInt = 9 → ∀ (v32 : Int32) (q33 : Int) (m30 : zM), aTm aT0 m30 → stCA T n mem (sHav T n Q (tkf T n p).2) v32.toInt q33 m30 → aTm aT0 m30 → P (some (.int v32)) m30) (s6 : ¬ (w).toInt = 2 → ¬ (w).toInt = 3 → ¬ (w).toInt = 4 → ¬ (w).toInt = 5 → ¬ (w).toInt = 6 → ¬ (w).toInt = 7 → ¬ (w).toInt = 8 → ¬ (w).toInt = 9 → (w).toInt = 10 → ∀ (v36 : Int32) (q37 : Int) (m34 : zM), aTm aT0 m34 → stCA T n mem (oif ((Qf Q).length < 6) (sFol T n Q (tkf T n p).2)) v36.toInt q37 m34 → (0 : Int) ≤ (v36).toInt ∧ (v36).toInt ≤ 1) (h9 : ¬ (w).toInt = 2 → ¬ (w).toInt = 3 → ¬ (w).toInt = 4 → ¬ (w).toInt = 5 → ¬ (w).toInt = 6 → ¬ (w).toInt = 7 → ¬ (w).toInt = 8 → ¬ (w).toInt = 9 → (w).toInt = 10 → ∀ (v36 : Int32) (q37 : Int) (m34 : zM), aTm aT0 m34 → stCA T n mem (oif ((Qf Q).length < 6) (sFol T n Q (tkf T n p).2)) v36.toInt q37 m34 → aTm aT0 m34 → P (some (.int v36)) m34) (h10 : ¬ (w).toInt = 2 → ¬ (w).toInt = 3 → ¬ (w).toInt = 4 → ¬ (w).toInt = 5 → ¬ (w).toInt = 6 → ¬ (w).toInt = 7 → ¬ (w).toInt = 8 → ¬ (w).toInt = 9 → ¬ (w).toInt = 10 → (w).toInt = 11 → aTm aT0 (si (si mem 27 10 1) 27 11 (gi mem 27 7)) → P (some (.int 0)) (si (si mem 27 10 1) 27 11 (gi mem 27 7))) (s7 : ¬ (w).toInt = 2 → ¬ (w).toInt = 3 → ¬ (w).toInt = 4 → ¬ (w).toInt = 5 → ¬ (w).toInt = 6 → ¬ (w).toInt = 7 → ¬ (w).toInt = 8 → ¬ (w).toInt = 9 → ¬ (w).toInt = 10 → ¬ (w).toInt = 11 → (w).toInt = 12 → ∀ (v40 : Int32) (q41 : Int) (m38 : zM), aTm aT0 m38 → stCA T n mem (sRea T n 0 Q (tkf T n p).2) v40.toInt q41 m38 → (0 : Int) ≤ (v40).toInt ∧ (v40).toInt ≤ 1) (h11 : ¬ (w).toInt = 2 → ¬ (w).toInt = 3 → ¬ (w).toInt = 4 → ¬ (w).toInt = 5 → ¬ (w).toInt = 6 → ¬ (w).toInt = 7 → ¬ (w).toInt = 8 → ¬ (w).toInt = 9 → ¬ (w).toInt = 10 → ¬ (w).toInt = 11 → (w).toInt = 12 → ∀ (v40 : Int32) (q41 : Int) (m38 : zM), aTm aT0 m38 → stCA T n mem (sRea T n 0 Q (tkf T n p).2) v40.toInt q41 m38 → aTm aT0 m38 → P (some (.int v40)) m38) (s8 : ¬ (w).toInt = 2 → ¬ (w).toInt = 3 → ¬ (w).toInt = 4 → ¬ (w).toInt = 5 → ¬ (w).toInt = 6 → ¬ (w).toInt = 7 → ¬ (w).toInt = 8 → ¬ (w).toInt = 9 → ¬ (w).toInt = 10 → ¬ (w).toInt = 11 → ¬ (w).toInt = 12 → (w).toInt = 13 → ∀ (v44 : Int32) (q45 : Int) (m42 : zM), aTm aT0 m42 → stCA T n mem (sRea T n 1 Q (tkf T n p).2) v44.toInt q45 m42 → (0 : Int) ≤ (v44).toInt ∧ (v44).toInt ≤ 1) (h12 : ¬ (w).toInt = 2 → ¬ (w).toInt = 3 → ¬ (w).toInt = 4 → ¬ (w).toInt = 5 → ¬ (w).toInt = 6 → ¬ (w).toInt = 7 → ¬ (w).toInt = 8 → ¬ (w).toInt = 9 → ¬ (w).toInt = 10 → ¬ (w).toInt = 11 → ¬ (w).toInt = 12 → (w).toInt = 13 → ∀ (v44 : Int32) (q45 : Int) (m42 : zM), aTm aT0 m42 → stCA T n mem (sRea T n 1 Q (tkf T n p).2) v44.toInt q45 m42 → aTm aT0 m42 → P (some (.int v44)) m42) (s9 : ¬ (w).toInt = 2 → ¬ (w).toInt = 3 → ¬ (w).toInt = 4 → ¬ (w).toInt = 5 → ¬ (w).toInt = 6 → ¬ (w).toInt = 7 → ¬ (w).toInt = 8 → ¬ (w).toInt = 9 → ¬ (w).toInt = 10 → ¬ (w).toInt = 11 → ¬ (w).toInt = 12 → ¬ (w).toInt = 13 → (w).toInt = 14 → ∀ (v48 : Int32) (q49 : Int) (m46 : zM), aTm aT0 m46 → stCA T n mem (sRea T n 2 Q (tkf T n p).2) v48.toInt q49 m46 → (0 : Int) ≤ (v48).toInt ∧ (v48).toInt ≤ 1) (h13 : ¬ (w).toInt = 2 → ¬ (w).toInt = 3 → ¬ (w).toInt = 4 → ¬ (w).toInt = 5 → ¬ (w).toInt = 6 → ¬ (w).toInt = 7 → ¬ (w).toInt = 8 → ¬ (w).toInt = 9 → ¬ (w).toInt = 10 → ¬ (w).toInt = 11 → ¬ (w).toInt = 12 → ¬ (w).toInt = 13 → (w).toInt = 14 → ∀ (v48 : Int32) (q49 : Int) (m46 : zM), aTm aT0 m46 → stCA T n mem (sRea T n 2 Q (tkf T n p).2) v48.toInt q49 m46 → aTm aT0 m46 → P (some (.int v48)) m46) (h14 : ¬ (w).toInt = 2 → ¬ (w).toInt = 3 → ¬ (w).toInt = 4 → ¬ (w).toInt = 5 → ¬ (w).toInt = 6 → ¬ (w).toInt = 7 → ¬ (w).toInt = 8 → ¬ (w).toInt = 9 → ¬ (w).toInt = 10 → ¬ (w).toInt = 11 → ¬ (w).toInt = 12 → ¬ (w).toInt = 13 → ¬ (w).toInt = 14 → aTm aT0 (si (si mem 27 10 1) 27 11 (gi mem 27 7)) → P (some (.int 0)) (si (si mem 27 10 1) 27 11 (gi mem 27 7))) : yR zpg tX9_takesStatement (d + 61) (22, [(0, .ref 26)], [.int w], mem) P := by
  refine yR_m 2 (fun _ _ _ _ => rfl) ?_
  refine wR_ts rfl rfl ⟨fun q1 => ?_, fun q1 => ⟨fun q2 => ?_, fun q2 => ⟨fun q3 => ?_, fun q3 => ⟨fun q4 => ?_, fun q4 => ⟨fun q5 => ?_, fun q5 => ⟨fun q6 => ?_, fun q6 => ⟨fun q7 => ?_, fun q7 => ⟨fun q8 => ?_, fun q8 => ⟨fun q9 => ?_, fun q9 => ⟨fun q10 => ?_, fun q10 => ⟨fun q11 => ?_, fun q11 => ⟨fun q12 => ?_, fun q12 => ⟨fun q13 => ?_, fun q13 => ?_⟩⟩⟩⟩⟩⟩⟩⟩⟩⟩⟩⟩⟩
  ·
    have q1 : (w).toInt = 2 := q1
    refine yR_m 1 (fun _ _ _ _ => rfl) ?_
    refine wR_cv rfl rfl tO_e hm rfl (h_paCA (T := T) (n := n) (p := p) (Q := Q) hm ht hR (hk4 (by omega)) hq hQ hs (by omega)) ?_
    rintro _ m14 ⟨v16, q17, rfl, hm14, k15⟩
    show yR zpg tX9_takesStatement (d + 61) (96, [(1, .int w), (0, .ref 26)], [.int v16], m14) _
    exact yR_rz rfl (s1 q1 v16 q17 m14 hm14 k15) (h1 q1 v16 q17 m14 hm14 k15 hm14)
  ·
    have q1 : ¬ (w).toInt = 2 := q1
    have q2 : (w).toInt = 3 := q2
    refine yR_m 1 (fun _ _ _ _ => rfl) ?_
    refine wR_cv rfl rfl tO_e hm rfl (h_gaCA (T := T) (n := n) (p := p) (Q := Q) hm ht hR (hk4 (by omega)) hq hQ hs (by omega)) ?_
    rintro _ m18 ⟨v20, q21, rfl, hm18, k19⟩
    show yR zpg tX9_takesStatement (d + 61) (101, [(1, .int w), (0, .ref 26)], [.int v20], m18) _
    exact yR_rz rfl (s2 q1 q2 v20 q21 m18 hm18 k19) (h2 q1 q2 v20 q21 m18 hm18 k19 hm18)
  ·
    have q1 : ¬ (w).toInt = 2 := q1
    have q2 : ¬ (w).toInt = 3 := q2
    have q3 : (w).toInt = 4 := q3
    refine yR_m 1 (fun _ _ _ _ => rfl) ?_
    refine wR_cv rfl rfl tO_e hm rfl (h_waCA (T := T) (n := n) (p := p) (Q := Q) hm ht hR (hk4 (by omega)) hq hQ hs (by omega)) ?_
    rintro _ m22 ⟨v24, q25, rfl, hm22, k23⟩
    show yR zpg tX9_takesStatement (d + 61) (106, [(1, .int w), (0, .ref 26)], [.int v24], m22) _
    exact yR_rz rfl (s3 q1 q2 q3 v24 q25 m22 hm22 k23) (h3 q1 q2 q3 v24 q25 m22 hm22 k23 hm22)
  ·
    have q1 : ¬ (w).toInt = 2 := q1
    have q2 : ¬ (w).toInt = 3 := q2
    have q3 : ¬ (w).toInt = 4 := q3
    have q4 : (w).toInt = 5 := q4
    refine yR_m 1 (fun _ _ _ _ => rfl) ?_
    refine wR_cv rfl rfl tO_e hm rfl (h_laCA (T := T) (n := n) (p := p) (Q := Q) hm ht hR (hk4 (by omega)) hq hQ hs (by omega)) ?_
    rintro _ m26 ⟨v28, q29, rfl, hm26, k27⟩
    show yR zpg tX9_takesStatement (d + 61) (111, [(1, .int w), (0, .ref 26)], [.int v28], m26) _
    exact yR_rz rfl (s4 q1 q2 q3 q4 v28 q29 m26 hm26 k27) (h4 q1 q2 q3 q4 v28 q29 m26 hm26 k27 hm26)
  ·
    have q1 : ¬ (w).toInt = 2 := q1
    have q2 : ¬ (w).toInt = 3 := q2
    have q3 : ¬ (w).toInt = 4 := q3
    have q4 : ¬ (w).toInt = 5 := q4
    have q5 : (w).toInt = 6 := q5
    refine yR_m 1 (fun _ _ _ _ => rfl) ?_
    refine wR_gr rfl tO_e tO_0 hm ?_
    refine yR_m 2 (fun _ _ _ _ => rfl) ?_
    refine wR_gr rfl tO_e tO_0 hm ?_
    refine wR_gi rfl rO_e rO_7 hm rfl ?_
    refine wR_iv rfl rfl rO_e hm rfl rfl rfl rfl ?_
    show yR zpg tX5_faults (d + 60) (0, [(0, .ref 27), (1, .int 1), (2, .int (gi mem 27 7))], [], mem) _
    refine yR_m 2 (fun _ _ _ _ => rfl) ?_
    refine wR_pi rfl rO_e rO_10 hm rfl ?_
    have hm_1 : aTm aT0 (si mem 27 10 1) := tm_si rO_e rO_10 hm (i32_b _)
    refine yR_m 2 (fun _ _ _ _ => rfl) ?_
    refine wR_pi rfl rO_e rO_11 hm_1 rfl ?_
    have hm_2 : aTm aT0 (si (si mem 27 10 1) 27 11 (gi mem 27 7)) := tm_si rO_e rO_11 hm_1 (i32_b _)
    refine yR_m 1 (fun _ _ _ _ => rfl) ?_
    refine yR_rz rfl ⟨by decide, by decide⟩ ?_
    show yR zpg tX9_takesStatement (d + 61) (155, [(1, .int w), (0, .ref 26)], [.int 0], (si (si mem 27 10 1) 27 11 (gi mem 27 7))) _
    exact yR_rz rfl ⟨by decide, by decide⟩ (h5 q1 q2 q3 q4 q5 hm_2)
  ·
    have q1 : ¬ (w).toInt = 2 := q1
    have q2 : ¬ (w).toInt = 3 := q2
    have q3 : ¬ (w).toInt = 4 := q3
    have q4 : ¬ (w).toInt = 5 := q4
    have q5 : ¬ (w).toInt = 6 := q5
    have q6 : (w).toInt = 7 := q6
    refine yR_m 1 (fun _ _ _ _ => rfl) ?_
    refine wR_gr rfl tO_e tO_0 hm ?_
    refine yR_m 2 (fun _ _ _ _ => rfl) ?_
    refine wR_gr rfl tO_e tO_0 hm ?_
    refine wR_gi rfl rO_e rO_7 hm rfl ?_
    refine wR_iv rfl rfl rO_e hm rfl rfl rfl rfl ?_
    show yR zpg tX5_faults (d + 60) (0, [(0, .ref 27), (1, .int 1), (2, .int (gi mem 27 7))], [], mem) _
    refine yR_m 2 (fun _ _ _ _ => rfl) ?_
    refine wR_pi rfl rO_e rO_10 hm rfl ?_
    have hm_3 : aTm aT0 (si mem 27 10 1) := tm_si rO_e rO_10 hm (i32_b _)
    refine yR_m 2 (fun _ _ _ _ => rfl) ?_
    refine wR_pi rfl rO_e rO_11 hm_3 rfl ?_
    have hm_4 : aTm aT0 (si (si mem 27 10 1) 27 11 (gi mem 27 7)) := tm_si rO_e rO_11 hm_3 (i32_b _)
    refine yR_m 1 (fun _ _ _ _ => rfl) ?_
    refine yR_rz rfl ⟨by decide, by decide⟩ ?_
    show yR zpg tX9_takesStatement (d + 61) (155, [(1, .int w), (0, .ref 26)], [.int 0], (si (si mem 27 10 1) 27 11 (gi mem 27 7))) _
    exact yR_rz rfl ⟨by decide, by decide⟩ (h6 q1 q2 q3 q4 q5 q6 hm_4)
  ·
    have q1 : ¬ (w).toInt = 2 := q1
    have q2 : ¬ (w).toInt = 3 := q2
    have q3 : ¬ (w).toInt = 4 := q3
    have q4 : ¬ (w).toInt = 5 := q4
    have q5 : ¬ (w).toInt = 6 := q5
    have q6 : ¬ (w).toInt = 7 := q6
    have q7 : (w).toInt = 8 := q7
    refine yR_m 1 (fun _ _ _ _ => rfl) ?_
    refine wR_gr rfl tO_e tO_0 hm ?_
    refine yR_m 2 (fun _ _ _ _ => rfl) ?_
    refine wR_gr rfl tO_e tO_0 hm ?_
    refine wR_gi rfl rO_e rO_7 hm rfl ?_
    refine wR_iv rfl rfl rO_e hm rfl rfl rfl rfl ?_
    show yR zpg tX5_faults (d + 60) (0, [(0, .ref 27), (1, .int 1), (2, .int (gi mem 27 7))], [], mem) _
    refine yR_m 2 (fun _ _ _ _ => rfl) ?_
    refine wR_pi rfl rO_e rO_10 hm rfl ?_
    have hm_5 : aTm aT0 (si mem 27 10 1) := tm_si rO_e rO_10 hm (i32_b _)
    refine yR_m 2 (fun _ _ _ _ => rfl) ?_
    refine wR_pi rfl rO_e rO_11 hm_5 rfl ?_
    have hm_6 : aTm aT0 (si (si mem 27 10 1) 27 11 (gi mem 27 7)) := tm_si rO_e rO_11 hm_5 (i32_b _)
    refine yR_m 1 (fun _ _ _ _ => rfl) ?_
    refine yR_rz rfl ⟨by decide, by decide⟩ ?_
    show yR zpg tX9_takesStatement (d + 61) (155, [(1, .int w), (0, .ref 26)], [.int 0], (si (si mem 27 10 1) 27 11 (gi mem 27 7))) _
    exact yR_rz rfl ⟨by decide, by decide⟩ (h7 q1 q2 q3 q4 q5 q6 q7 hm_6)
  ·
    have q1 : ¬ (w).toInt = 2 := q1
    have q2 : ¬ (w).toInt = 3 := q2
    have q3 : ¬ (w).toInt = 4 := q3
    have q4 : ¬ (w).toInt = 5 := q4
    have q5 : ¬ (w).toInt = 6 := q5
    have q6 : ¬ (w).toInt = 7 := q6
    have q7 : ¬ (w).toInt = 8 := q7
    have q8 : (w).toInt = 9 := q8
    refine yR_m 1 (fun _ _ _ _ => rfl) ?_
    refine wR_cv rfl rfl tO_e hm rfl (h_haCA (T := T) (n := n) (p := p) (Q := Q) hm ht hR (hk4 (by omega)) hq hQ hs (by omega)) ?_
    rintro _ m30 ⟨v32, q33, rfl, hm30, k31⟩
    show yR zpg tX9_takesStatement (d + 61) (116, [(1, .int w), (0, .ref 26)], [.int v32], m30) _
    exact yR_rz rfl (s5 q1 q2 q3 q4 q5 q6 q7 q8 v32 q33 m30 hm30 k31) (h8 q1 q2 q3 q4 q5 q6 q7 q8 v32 q33 m30 hm30 k31 hm30)
  ·
    have q1 : ¬ (w).toInt = 2 := q1
    have q2 : ¬ (w).toInt = 3 := q2
    have q3 : ¬ (w).toInt = 4 := q3
    have q4 : ¬ (w).toInt = 5 := q4
    have q5 : ¬ (w).toInt = 6 := q5
    have q6 : ¬ (w).toInt = 7 := q6
    have q7 : ¬ (w).toInt = 8 := q7
    have q8 : ¬ (w).toInt = 9 := q8
    have q9 : (w).toInt = 10 := q9
    refine yR_m 1 (fun _ _ _ _ => rfl) ?_
    refine wR_cv rfl rfl tO_e hm rfl (h_foCA (T := T) (n := n) (p := p) (Q := Q) hm ht hR (hk4 (by omega)) hq hQ hs (by omega)) ?_
    rintro _ m34 ⟨v36, q37, rfl, hm34, k35⟩
    show yR zpg tX9_takesStatement (d + 61) (121, [(1, .int w), (0, .ref 26)], [.int v36], m34) _
    exact yR_rz rfl (s6 q1 q2 q3 q4 q5 q6 q7 q8 q9 v36 q37 m34 hm34 k35) (h9 q1 q2 q3 q4 q5 q6 q7 q8 q9 v36 q37 m34 hm34 k35 hm34)
  ·
    have q1 : ¬ (w).toInt = 2 := q1
    have q2 : ¬ (w).toInt = 3 := q2
    have q3 : ¬ (w).toInt = 4 := q3
    have q4 : ¬ (w).toInt = 5 := q4
    have q5 : ¬ (w).toInt = 6 := q5
    have q6 : ¬ (w).toInt = 7 := q6
    have q7 : ¬ (w).toInt = 8 := q7
    have q8 : ¬ (w).toInt = 9 := q8
    have q9 : ¬ (w).toInt = 10 := q9
    have q10 : (w).toInt = 11 := q10
    refine yR_m 1 (fun _ _ _ _ => rfl) ?_
    refine wR_gr rfl tO_e tO_0 hm ?_
    refine yR_m 2 (fun _ _ _ _ => rfl) ?_
    refine wR_gr rfl tO_e tO_0 hm ?_
    refine wR_gi rfl rO_e rO_7 hm rfl ?_
    refine wR_iv rfl rfl rO_e hm rfl rfl rfl rfl ?_
    show yR zpg tX5_faults (d + 60) (0, [(0, .ref 27), (1, .int 1), (2, .int (gi mem 27 7))], [], mem) _
    refine yR_m 2 (fun _ _ _ _ => rfl) ?_
    refine wR_pi rfl rO_e rO_10 hm rfl ?_
    have hm_7 : aTm aT0 (si mem 27 10 1) := tm_si rO_e rO_10 hm (i32_b _)
    refine yR_m 2 (fun _ _ _ _ => rfl) ?_
    refine wR_pi rfl rO_e rO_11 hm_7 rfl ?_
    have hm_8 : aTm aT0 (si (si mem 27 10 1) 27 11 (gi mem 27 7)) := tm_si rO_e rO_11 hm_7 (i32_b _)
    refine yR_m 1 (fun _ _ _ _ => rfl) ?_
    refine yR_rz rfl ⟨by decide, by decide⟩ ?_
    show yR zpg tX9_takesStatement (d + 61) (155, [(1, .int w), (0, .ref 26)], [.int 0], (si (si mem 27 10 1) 27 11 (gi mem 27 7))) _
    exact yR_rz rfl ⟨by decide, by decide⟩ (h10 q1 q2 q3 q4 q5 q6 q7 q8 q9 q10 hm_8)
  ·
    have q1 : ¬ (w).toInt = 2 := q1
    have q2 : ¬ (w).toInt = 3 := q2
    have q3 : ¬ (w).toInt = 4 := q3
    have q4 : ¬ (w).toInt = 5 := q4
    have q5 : ¬ (w).toInt = 6 := q5
    have q6 : ¬ (w).toInt = 7 := q6
    have q7 : ¬ (w).toInt = 8 := q7
    have q8 : ¬ (w).toInt = 9 := q8
    have q9 : ¬ (w).toInt = 10 := q9
    have q10 : ¬ (w).toInt = 11 := q10
    have q11 : (w).toInt = 12 := q11
    refine yR_m 2 (fun _ _ _ _ => rfl) ?_
    refine wR_cv rfl rfl tO_e hm rfl (h_ruCA (T := T) (n := n) (p := p) (Q := Q) (by decide) hm ht hR (hk4 (by omega)) hq hQ hs hn (by omega)) ?_
    rintro _ m38 ⟨v40, q41, rfl, hm38, k39⟩
    show yR zpg tX9_takesStatement (d + 61) (127, [(1, .int w), (0, .ref 26)], [.int v40], m38) _
    exact yR_rz rfl (s7 q1 q2 q3 q4 q5 q6 q7 q8 q9 q10 q11 v40 q41 m38 hm38 k39) (h11 q1 q2 q3 q4 q5 q6 q7 q8 q9 q10 q11 v40 q41 m38 hm38 k39 hm38)
  ·
    have q1 : ¬ (w).toInt = 2 := q1
    have q2 : ¬ (w).toInt = 3 := q2
    have q3 : ¬ (w).toInt = 4 := q3
    have q4 : ¬ (w).toInt = 5 := q4
    have q5 : ¬ (w).toInt = 6 := q5
    have q6 : ¬ (w).toInt = 7 := q6
    have q7 : ¬ (w).toInt = 8 := q7
    have q8 : ¬ (w).toInt = 9 := q8
    have q9 : ¬ (w).toInt = 10 := q9
    have q10 : ¬ (w).toInt = 11 := q10
    have q11 : ¬ (w).toInt = 12 := q11
    have q12 : (w).toInt = 13 := q12
    refine yR_m 2 (fun _ _ _ _ => rfl) ?_
    refine wR_cv rfl rfl tO_e hm rfl (h_ruCA (T := T) (n := n) (p := p) (Q := Q) (by decide) hm ht hR (hk4 (by omega)) hq hQ hs hn (by omega)) ?_
    rintro _ m42 ⟨v44, q45, rfl, hm42, k43⟩
    show yR zpg tX9_takesStatement (d + 61) (133, [(1, .int w), (0, .ref 26)], [.int v44], m42) _
    exact yR_rz rfl (s8 q1 q2 q3 q4 q5 q6 q7 q8 q9 q10 q11 q12 v44 q45 m42 hm42 k43) (h12 q1 q2 q3 q4 q5 q6 q7 q8 q9 q10 q11 q12 v44 q45 m42 hm42 k43 hm42)
  ·
    have q1 : ¬ (w).toInt = 2 := q1
    have q2 : ¬ (w).toInt = 3 := q2
    have q3 : ¬ (w).toInt = 4 := q3
    have q4 : ¬ (w).toInt = 5 := q4
    have q5 : ¬ (w).toInt = 6 := q5
    have q6 : ¬ (w).toInt = 7 := q6
    have q7 : ¬ (w).toInt = 8 := q7
    have q8 : ¬ (w).toInt = 9 := q8
    have q9 : ¬ (w).toInt = 10 := q9
    have q10 : ¬ (w).toInt = 11 := q10
    have q11 : ¬ (w).toInt = 12 := q11
    have q12 : ¬ (w).toInt = 13 := q12
    have q13 : (w).toInt = 14 := q13
    refine yR_m 2 (fun _ _ _ _ => rfl) ?_
    refine wR_cv rfl rfl tO_e hm rfl (h_ruCA (T := T) (n := n) (p := p) (Q := Q) (by decide) hm ht hR (hk4 (by omega)) hq hQ hs hn (by omega)) ?_
    rintro _ m46 ⟨v48, q49, rfl, hm46, k47⟩
    show yR zpg tX9_takesStatement (d + 61) (139, [(1, .int w), (0, .ref 26)], [.int v48], m46) _
    exact yR_rz rfl (s9 q1 q2 q3 q4 q5 q6 q7 q8 q9 q10 q11 q12 q13 v48 q49 m46 hm46 k47) (h13 q1 q2 q3 q4 q5 q6 q7 q8 q9 q10 q11 q12 q13 v48 q49 m46 hm46 k47 hm46)
  ·
    have q1 : ¬ (w).toInt = 2 := q1
    have q2 : ¬ (w).toInt = 3 := q2
    have q3 : ¬ (w).toInt = 4 := q3
    have q4 : ¬ (w).toInt = 5 := q4
    have q5 : ¬ (w).toInt = 6 := q5
    have q6 : ¬ (w).toInt = 7 := q6
    have q7 : ¬ (w).toInt = 8 := q7
    have q8 : ¬ (w).toInt = 9 := q8
    have q9 : ¬ (w).toInt = 10 := q9
    have q10 : ¬ (w).toInt = 11 := q10
    have q11 : ¬ (w).toInt = 12 := q11
    have q12 : ¬ (w).toInt = 13 := q12
    have q13 : ¬ (w).toInt = 14 := q13
    refine yR_m 1 (fun _ _ _ _ => rfl) ?_
    refine wR_gr rfl tO_e tO_0 hm ?_
    refine yR_m 2 (fun _ _ _ _ => rfl) ?_
    refine wR_gr rfl tO_e tO_0 hm ?_
    refine wR_gi rfl rO_e rO_7 hm rfl ?_
    refine wR_iv rfl rfl rO_e hm rfl rfl rfl rfl ?_
    show yR zpg tX5_faults (d + 60) (0, [(0, .ref 27), (1, .int 1), (2, .int (gi mem 27 7))], [], mem) _
    refine yR_m 2 (fun _ _ _ _ => rfl) ?_
    refine wR_pi rfl rO_e rO_10 hm rfl ?_
    have hm_9 : aTm aT0 (si mem 27 10 1) := tm_si rO_e rO_10 hm (i32_b _)
    refine yR_m 2 (fun _ _ _ _ => rfl) ?_
    refine wR_pi rfl rO_e rO_11 hm_9 rfl ?_
    have hm_10 : aTm aT0 (si (si mem 27 10 1) 27 11 (gi mem 27 7)) := tm_si rO_e rO_11 hm_9 (i32_b _)
    refine yR_m 1 (fun _ _ _ _ => rfl) ?_
    refine yR_rz rfl ⟨by decide, by decide⟩ ?_
    show yR zpg tX9_takesStatement (d + 61) (155, [(1, .int w), (0, .ref 26)], [.int 0], (si (si mem 27 10 1) 27 11 (gi mem 27 7))) _
    exact yR_rz rfl ⟨by decide, by decide⟩ (h14 q1 q2 q3 q4 q5 q6 q7 q8 q9 q10 q11 q12 q13 hm_10)

theorem tS_A {w : Int32} (hm : aTm aT0 mem) (ht : zfl mem 26 2 = some (.ref 2)) (hR : cRd T n p mem) (hk4 : ¬ w.toInt = -1 → ¬ (tkf T n p).1.1 = 4) (hW : (w.toInt = -1 ∧ ¬ (gi mem 27 4).toInt = 2) ∨ ((gi mem 27 4).toInt = 2 ∧ w.toInt = (gi mem 27 5).toInt)) (hq : hqQ Q) (hQ : cQ 2 3 4 7 8 9 12 13 Q mem) (hs : (gi mem 10 3).toInt ≤ p) (hn : n ≤ 1600) : yR zpg tX9_takesStatement (d + 61) (22, [(0, .ref 26)], [.int w], mem) (fun a m => ∃ (v : Int32) (q : Int), a = some (.int v) ∧ aTm aT0 m ∧ stCA T n mem (sSta T n Q p) v.toInt q m) := by
  exact w_tSA (T := T) (n := n) (p := p) (Q := Q) hm ht hR hk4 hq hQ hs hn
        (fun q1 v16 q17 m14 hm14 k15 => by
          rcases k15.2 with w | w | w <;> (have w1 := w.1; omega))
        (fun q1 v16 q17 m14 hm14 k15 hm2 => by
          have E : sSta T n Q p = sTel T n 2 1 9 Q (tkf T n p).2 := (pif_t ((cX_O (by decide) (by decide) hR).1 ⟨by omega, by omega⟩))
          rw [E]
          exact ⟨_, _, rfl, hm2, k15⟩)
        (fun q1 q2 v20 q21 m18 hm18 k19 => by
          rcases k19.2 with w | w | w <;> (have w1 := w.1; omega))
        (fun q1 q2 v20 q21 m18 hm18 k19 hm2 => by
          have E : sSta T n Q p = sTel T n 3 0 100 Q (tkf T n p).2 := ((pif_f (fun z => by have q9 := (cX_O (by decide) (by decide) hR).2 z; omega)).trans (pif_t ((cX_O (by decide) (by decide) hR).1 ⟨by omega, by omega⟩)))
          rw [E]
          exact ⟨_, _, rfl, hm2, k19⟩)
        (fun q1 q2 q3 v24 q25 m22 hm22 k23 => by
          rcases k23.2 with w | w | w <;> (have w1 := w.1; omega))
        (fun q1 q2 q3 v24 q25 m22 hm22 k23 hm2 => by
          have E : sSta T n Q p = sWal T n Q (tkf T n p).2 := ((pif_f (fun z => by have q9 := (cX_O (by decide) (by decide) hR).2 z; omega)).trans ((pif_f (fun z => by have q9 := (cX_O (by decide) (by decide) hR).2 z; omega)).trans (pif_t ((cX_O (by decide) (by decide) hR).1 ⟨by omega, by omega⟩))))
          rw [E]
          exact ⟨_, _, rfl, hm2, k23⟩)
        (fun q1 q2 q3 q4 v28 q29 m26 hm26 k27 => by
          rcases k27.2 with w | w | w <;> (have w1 := w.1; omega))
        (fun q1 q2 q3 q4 v28 q29 m26 hm26 k27 hm2 => by
          have E : sSta T n Q p = oif ((Qt Q).length < 9) (sLac T n Q (tkf T n p).2) := ((pif_f (fun z => by have q9 := (cX_O (by decide) (by decide) hR).2 z; omega)).trans ((pif_f (fun z => by have q9 := (cX_O (by decide) (by decide) hR).2 z; omega)).trans ((pif_f (fun z => by have q9 := (cX_O (by decide) (by decide) hR).2 z; omega)).trans (pif_t ((cX_O (by decide) (by decide) hR).1 ⟨by omega, by omega⟩)))))
          rw [E]
          exact ⟨_, _, rfl, hm2, k27⟩)
        (fun q1 q2 q3 q4 q5 hm2 => ⟨_, p, rfl, hm2, ⟨((zfl_sv_ne (by decide)).trans ((zfl_sv_ne (by decide)).trans ht)), ((gi_sv_ne (by decide)).trans (gi_sv_ne (by decide))), ((zo_sv (by decide)).trans (zo_sv (by decide)))⟩, Or.inr (Or.inl ⟨rfl, ((pif_f (fun z => by have q9 := (cX_O (by decide) (by decide) hR).2 z; omega)).trans ((pif_f (fun z => by have q9 := (cX_O (by decide) (by decide) hR).2 z; omega)).trans ((pif_f (fun z => by have q9 := (cX_O (by decide) (by decide) hR).2 z; omega)).trans ((pif_f (fun z => by have q9 := (cX_O (by decide) (by decide) hR).2 z; omega)).trans ((pif_f (fun z => by have q9 := (cX_O (by decide) (by decide) hR).2 z; omega)).trans ((pif_f (fun z => by have q9 := (cX_O (by decide) (by decide) hR).2 z; omega)).trans ((pif_f (fun z => by have q9 := (cX_O (by decide) (by decide) hR).2 z; omega)).trans ((pif_f (fun z => by have q9 := (cX_O (by decide) (by decide) hR).2 z; omega)).trans ((pif_f (fun z => by have q9 := (cX_O (by decide) (by decide) hR).2 z; omega)).trans rfl)))))))))⟩)⟩)
        (fun q1 q2 q3 q4 q5 q6 hm2 => ⟨_, p, rfl, hm2, ⟨((zfl_sv_ne (by decide)).trans ((zfl_sv_ne (by decide)).trans ht)), ((gi_sv_ne (by decide)).trans (gi_sv_ne (by decide))), ((zo_sv (by decide)).trans (zo_sv (by decide)))⟩, Or.inr (Or.inl ⟨rfl, ((pif_f (fun z => by have q9 := (cX_O (by decide) (by decide) hR).2 z; omega)).trans ((pif_f (fun z => by have q9 := (cX_O (by decide) (by decide) hR).2 z; omega)).trans ((pif_f (fun z => by have q9 := (cX_O (by decide) (by decide) hR).2 z; omega)).trans ((pif_f (fun z => by have q9 := (cX_O (by decide) (by decide) hR).2 z; omega)).trans ((pif_f (fun z => by have q9 := (cX_O (by decide) (by decide) hR).2 z; omega)).trans ((pif_f (fun z => by have q9 := (cX_O (by decide) (by decide) hR).2 z; omega)).trans ((pif_f (fun z => by have q9 := (cX_O (by decide) (by decide) hR).2 z; omega)).trans ((pif_f (fun z => by have q9 := (cX_O (by decide) (by decide) hR).2 z; omega)).trans ((pif_f (fun z => by have q9 := (cX_O (by decide) (by decide) hR).2 z; omega)).trans rfl)))))))))⟩)⟩)
        (fun q1 q2 q3 q4 q5 q6 q7 hm2 => ⟨_, p, rfl, hm2, ⟨((zfl_sv_ne (by decide)).trans ((zfl_sv_ne (by decide)).trans ht)), ((gi_sv_ne (by decide)).trans (gi_sv_ne (by decide))), ((zo_sv (by decide)).trans (zo_sv (by decide)))⟩, Or.inr (Or.inl ⟨rfl, ((pif_f (fun z => by have q9 := (cX_O (by decide) (by decide) hR).2 z; omega)).trans ((pif_f (fun z => by have q9 := (cX_O (by decide) (by decide) hR).2 z; omega)).trans ((pif_f (fun z => by have q9 := (cX_O (by decide) (by decide) hR).2 z; omega)).trans ((pif_f (fun z => by have q9 := (cX_O (by decide) (by decide) hR).2 z; omega)).trans ((pif_f (fun z => by have q9 := (cX_O (by decide) (by decide) hR).2 z; omega)).trans ((pif_f (fun z => by have q9 := (cX_O (by decide) (by decide) hR).2 z; omega)).trans ((pif_f (fun z => by have q9 := (cX_O (by decide) (by decide) hR).2 z; omega)).trans ((pif_f (fun z => by have q9 := (cX_O (by decide) (by decide) hR).2 z; omega)).trans ((pif_f (fun z => by have q9 := (cX_O (by decide) (by decide) hR).2 z; omega)).trans rfl)))))))))⟩)⟩)
        (fun q1 q2 q3 q4 q5 q6 q7 q8 v32 q33 m30 hm30 k31 => by
          rcases k31.2 with w | w | w <;> (have w1 := w.1; omega))
        (fun q1 q2 q3 q4 q5 q6 q7 q8 v32 q33 m30 hm30 k31 hm2 => by
          have E : sSta T n Q p = sHav T n Q (tkf T n p).2 := ((pif_f (fun z => by have q9 := (cX_O (by decide) (by decide) hR).2 z; omega)).trans ((pif_f (fun z => by have q9 := (cX_O (by decide) (by decide) hR).2 z; omega)).trans ((pif_f (fun z => by have q9 := (cX_O (by decide) (by decide) hR).2 z; omega)).trans ((pif_f (fun z => by have q9 := (cX_O (by decide) (by decide) hR).2 z; omega)).trans (pif_t ((cX_O (by decide) (by decide) hR).1 ⟨by omega, by omega⟩))))))
          rw [E]
          exact ⟨_, _, rfl, hm2, k31⟩)
        (fun q1 q2 q3 q4 q5 q6 q7 q8 q9 v36 q37 m34 hm34 k35 => by
          rcases k35.2 with w | w | w <;> (have w1 := w.1; omega))
        (fun q1 q2 q3 q4 q5 q6 q7 q8 q9 v36 q37 m34 hm34 k35 hm2 => by
          have E : sSta T n Q p = oif ((Qf Q).length < 6) (sFol T n Q (tkf T n p).2) := ((pif_f (fun z => by have q9 := (cX_O (by decide) (by decide) hR).2 z; omega)).trans ((pif_f (fun z => by have q9 := (cX_O (by decide) (by decide) hR).2 z; omega)).trans ((pif_f (fun z => by have q9 := (cX_O (by decide) (by decide) hR).2 z; omega)).trans ((pif_f (fun z => by have q9 := (cX_O (by decide) (by decide) hR).2 z; omega)).trans ((pif_f (fun z => by have q9 := (cX_O (by decide) (by decide) hR).2 z; omega)).trans (pif_t ((cX_O (by decide) (by decide) hR).1 ⟨by omega, by omega⟩)))))))
          rw [E]
          exact ⟨_, _, rfl, hm2, k35⟩)
        (fun q1 q2 q3 q4 q5 q6 q7 q8 q9 q10 hm2 => ⟨_, p, rfl, hm2, ⟨((zfl_sv_ne (by decide)).trans ((zfl_sv_ne (by decide)).trans ht)), ((gi_sv_ne (by decide)).trans (gi_sv_ne (by decide))), ((zo_sv (by decide)).trans (zo_sv (by decide)))⟩, Or.inr (Or.inl ⟨rfl, ((pif_f (fun z => by have q9 := (cX_O (by decide) (by decide) hR).2 z; omega)).trans ((pif_f (fun z => by have q9 := (cX_O (by decide) (by decide) hR).2 z; omega)).trans ((pif_f (fun z => by have q9 := (cX_O (by decide) (by decide) hR).2 z; omega)).trans ((pif_f (fun z => by have q9 := (cX_O (by decide) (by decide) hR).2 z; omega)).trans ((pif_f (fun z => by have q9 := (cX_O (by decide) (by decide) hR).2 z; omega)).trans ((pif_f (fun z => by have q9 := (cX_O (by decide) (by decide) hR).2 z; omega)).trans ((pif_f (fun z => by have q9 := (cX_O (by decide) (by decide) hR).2 z; omega)).trans ((pif_f (fun z => by have q9 := (cX_O (by decide) (by decide) hR).2 z; omega)).trans ((pif_f (fun z => by have q9 := (cX_O (by decide) (by decide) hR).2 z; omega)).trans rfl)))))))))⟩)⟩)
        (fun q1 q2 q3 q4 q5 q6 q7 q8 q9 q10 q11 v40 q41 m38 hm38 k39 => by
          rcases k39.2 with w | w | w <;> (have w1 := w.1; omega))
        (fun q1 q2 q3 q4 q5 q6 q7 q8 q9 q10 q11 v40 q41 m38 hm38 k39 hm2 => by
          have E : sSta T n Q p = sRea T n 0 Q (tkf T n p).2 := ((pif_f (fun z => by have q9 := (cX_O (by decide) (by decide) hR).2 z; omega)).trans ((pif_f (fun z => by have q9 := (cX_O (by decide) (by decide) hR).2 z; omega)).trans ((pif_f (fun z => by have q9 := (cX_O (by decide) (by decide) hR).2 z; omega)).trans ((pif_f (fun z => by have q9 := (cX_O (by decide) (by decide) hR).2 z; omega)).trans ((pif_f (fun z => by have q9 := (cX_O (by decide) (by decide) hR).2 z; omega)).trans ((pif_f (fun z => by have q9 := (cX_O (by decide) (by decide) hR).2 z; omega)).trans (pif_t ((cX_O (by decide) (by decide) hR).1 ⟨by omega, by omega⟩))))))))
          rw [E]
          exact ⟨_, _, rfl, hm2, k39⟩)
        (fun q1 q2 q3 q4 q5 q6 q7 q8 q9 q10 q11 q12 v44 q45 m42 hm42 k43 => by
          rcases k43.2 with w | w | w <;> (have w1 := w.1; omega))
        (fun q1 q2 q3 q4 q5 q6 q7 q8 q9 q10 q11 q12 v44 q45 m42 hm42 k43 hm2 => by
          have E : sSta T n Q p = sRea T n 1 Q (tkf T n p).2 := ((pif_f (fun z => by have q9 := (cX_O (by decide) (by decide) hR).2 z; omega)).trans ((pif_f (fun z => by have q9 := (cX_O (by decide) (by decide) hR).2 z; omega)).trans ((pif_f (fun z => by have q9 := (cX_O (by decide) (by decide) hR).2 z; omega)).trans ((pif_f (fun z => by have q9 := (cX_O (by decide) (by decide) hR).2 z; omega)).trans ((pif_f (fun z => by have q9 := (cX_O (by decide) (by decide) hR).2 z; omega)).trans ((pif_f (fun z => by have q9 := (cX_O (by decide) (by decide) hR).2 z; omega)).trans ((pif_f (fun z => by have q9 := (cX_O (by decide) (by decide) hR).2 z; omega)).trans (pif_t ((cX_O (by decide) (by decide) hR).1 ⟨by omega, by omega⟩)))))))))
          rw [E]
          exact ⟨_, _, rfl, hm2, k43⟩)
        (fun q1 q2 q3 q4 q5 q6 q7 q8 q9 q10 q11 q12 q13 v48 q49 m46 hm46 k47 => by
          rcases k47.2 with w | w | w <;> (have w1 := w.1; omega))
        (fun q1 q2 q3 q4 q5 q6 q7 q8 q9 q10 q11 q12 q13 v48 q49 m46 hm46 k47 hm2 => by
          have E : sSta T n Q p = sRea T n 2 Q (tkf T n p).2 := ((pif_f (fun z => by have q9 := (cX_O (by decide) (by decide) hR).2 z; omega)).trans ((pif_f (fun z => by have q9 := (cX_O (by decide) (by decide) hR).2 z; omega)).trans ((pif_f (fun z => by have q9 := (cX_O (by decide) (by decide) hR).2 z; omega)).trans ((pif_f (fun z => by have q9 := (cX_O (by decide) (by decide) hR).2 z; omega)).trans ((pif_f (fun z => by have q9 := (cX_O (by decide) (by decide) hR).2 z; omega)).trans ((pif_f (fun z => by have q9 := (cX_O (by decide) (by decide) hR).2 z; omega)).trans ((pif_f (fun z => by have q9 := (cX_O (by decide) (by decide) hR).2 z; omega)).trans ((pif_f (fun z => by have q9 := (cX_O (by decide) (by decide) hR).2 z; omega)).trans (pif_t ((cX_O (by decide) (by decide) hR).1 ⟨by omega, by omega⟩))))))))))
          rw [E]
          exact ⟨_, _, rfl, hm2, k47⟩)
        (fun q1 q2 q3 q4 q5 q6 q7 q8 q9 q10 q11 q12 q13 hm2 => ⟨_, p, rfl, hm2, ⟨((zfl_sv_ne (by decide)).trans ((zfl_sv_ne (by decide)).trans ht)), ((gi_sv_ne (by decide)).trans (gi_sv_ne (by decide))), ((zo_sv (by decide)).trans (zo_sv (by decide)))⟩, Or.inr (Or.inl ⟨rfl, ((pif_f (fun z => by have q9 := (cX_O (by decide) (by decide) hR).2 z; omega)).trans ((pif_f (fun z => by have q9 := (cX_O (by decide) (by decide) hR).2 z; omega)).trans ((pif_f (fun z => by have q9 := (cX_O (by decide) (by decide) hR).2 z; omega)).trans ((pif_f (fun z => by have q9 := (cX_O (by decide) (by decide) hR).2 z; omega)).trans ((pif_f (fun z => by have q9 := (cX_O (by decide) (by decide) hR).2 z; omega)).trans ((pif_f (fun z => by have q9 := (cX_O (by decide) (by decide) hR).2 z; omega)).trans ((pif_f (fun z => by have q9 := (cX_O (by decide) (by decide) hR).2 z; omega)).trans ((pif_f (fun z => by have q9 := (cX_O (by decide) (by decide) hR).2 z; omega)).trans ((pif_f (fun z => by have q9 := (cX_O (by decide) (by decide) hR).2 z; omega)).trans rfl)))))))))⟩)⟩)
theorem h_tsCA (hm : aTm aT0 mem) (ht : zfl mem 26 2 = some (.ref 2)) (hR : cRd T n p mem) (hq : hqQ Q) (hQ : cQ 2 3 4 7 8 9 12 13 Q mem) (hs : (gi mem 10 3).toInt ≤ p) (hn : n ≤ 1600) (hd : 62 ≤ d) : yC zpg d 88 [.ref 26] mem (fun a m => ∃ (v : Int32) (q : Int), a = some (.int v) ∧ aTm aT0 m ∧ stCA T n mem (sSta T n Q p) v.toInt q m) := by
  obtain ⟨d, rfl⟩ : ∃ q, d = q + 62 := ⟨d - 62, by omega⟩
  refine yC_of (t := tX9_takesStatement) rfl rfl ?_
  exact w_tS0 hm
        (fun q1 hm2 => tS_A hm2 ht hR (fun z => absurd rfl z) (Or.inl ⟨rfl, by omega⟩) hq hQ hs hn)
        (fun q1 hm2 => tS_A hm2 ht hR (fun _ => cX_4 hR (by omega)) (Or.inr ⟨by omega, rfl⟩) hq hQ hs hn)
set_option maxRecDepth 100000 in
theorem w_tSB {d : Nat} {mem : zM} {P : Option Value → zM → Prop} {T : List Int32} {n p : Int} {Q : Qd} {w : Int32} (hm : aTm aT0 mem) (ht : zfl mem 26 2 = some (.ref 14)) (hR : cRd T n p mem) (hk4 : ¬ w.toInt = -1 → ¬ (tkf T n p).1.1 = 4) (hq : hqQ Q) (hQ : cQ 14 15 16 19 20 21 24 25 Q mem) (hs : (gi mem 22 3).toInt ≤ p) (hn : n ≤ 1600) (s1 : (w).toInt = 2 → ∀ (v16 : Int32) (q17 : Int) (m14 : zM), aTm aT0 m14 → stCB T n mem (sTel T n 2 1 9 Q (tkf T n p).2) v16.toInt q17 m14 → (0 : Int) ≤ (v16).toInt ∧ (v16).toInt ≤ 1) (h1 : (w).toInt = 2 → ∀ (v16 : Int32) (q17 : Int) (m14 : zM), aTm aT0 m14 → stCB T n mem (sTel T n 2 1 9 Q (tkf T n p).2) v16.toInt q17 m14 → aTm aT0 m14 → P (some (.int v16)) m14) (s2 : ¬ (w).toInt = 2 → (w).toInt = 3 → ∀ (v20 : Int32) (q21 : Int) (m18 : zM), aTm aT0 m18 → stCB T n mem (sTel T n 3 0 100 Q (tkf T n p).2) v20.toInt q21 m18 → (0 : Int) ≤ (v20).toInt ∧ (v20).toInt ≤ 1) (h2 : ¬ (w).toInt = 2 → (w).toInt = 3 → ∀ (v20 : Int32) (q21 : Int) (m18 : zM), aTm aT0 m18 → stCB T n mem (sTel T n 3 0 100 Q (tkf T n p).2) v20.toInt q21 m18 → aTm aT0 m18 → P (some (.int v20)) m18) (s3 : ¬ (w).toInt = 2 → ¬ (w).toInt = 3 → (w).toInt = 4 → ∀ (v24 : Int32) (q25 : Int) (m22 : zM), aTm aT0 m22 → stCB T n mem (sWal T n Q (tkf T n p).2) v24.toInt q25 m22 → (0 : Int) ≤ (v24).toInt ∧ (v24).toInt ≤ 1) (h3 : ¬ (w).toInt = 2 → ¬ (w).toInt = 3 → (w).toInt = 4 → ∀ (v24 : Int32) (q25 : Int) (m22 : zM), aTm aT0 m22 → stCB T n mem (sWal T n Q (tkf T n p).2) v24.toInt q25 m22 → aTm aT0 m22 → P (some (.int v24)) m22) (s4 : ¬ (w).toInt = 2 → ¬ (w).toInt = 3 → ¬ (w).toInt = 4 → (w).toInt = 5 → ∀ (v28 : Int32) (q29 : Int) (m26 : zM), aTm aT0 m26 → stCB T n mem (oif ((Qt Q).length < 9) (sLac T n Q (tkf T n p).2)) v28.toInt q29 m26 → (0 : Int) ≤ (v28).toInt ∧ (v28).toInt ≤ 1) (h4 : ¬ (w).toInt = 2 → ¬ (w).toInt = 3 → ¬ (w).toInt = 4 → (w).toInt = 5 → ∀ (v28 : Int32) (q29 : Int) (m26 : zM), aTm aT0 m26 → stCB T n mem (oif ((Qt Q).length < 9) (sLac T n Q (tkf T n p).2)) v28.toInt q29 m26 → aTm aT0 m26 → P (some (.int v28)) m26) (h5 : ¬ (w).toInt = 2 → ¬ (w).toInt = 3 → ¬ (w).toInt = 4 → ¬ (w).toInt = 5 → (w).toInt = 6 → aTm aT0 (si (si mem 27 10 1) 27 11 (gi mem 27 7)) → P (some (.int 0)) (si (si mem 27 10 1) 27 11 (gi mem 27 7))) (h6 : ¬ (w).toInt = 2 → ¬ (w).toInt = 3 → ¬ (w).toInt = 4 → ¬ (w).toInt = 5 → ¬ (w).toInt = 6 → (w).toInt = 7 → aTm aT0 (si (si mem 27 10 1) 27 11 (gi mem 27 7)) → P (some (.int 0)) (si (si mem 27 10 1) 27 11 (gi mem 27 7))) (h7 : ¬ (w).toInt = 2 → ¬ (w).toInt = 3 → ¬ (w).toInt = 4 → ¬ (w).toInt = 5 → ¬ (w).toInt = 6 → ¬ (w).toInt = 7 → (w).toInt = 8 → aTm aT0 (si (si mem 27 10 1) 27 11 (gi mem 27 7)) → P (some (.int 0)) (si (si mem 27 10 1) 27 11 (gi mem 27 7))) (s5 : ¬ (w).toInt = 2 → ¬ (w).toInt = 3 → ¬ (w).toInt = 4 → ¬ (w).toInt = 5 → ¬ (w).toInt = 6 → ¬ (w).toInt = 7 → ¬ (w).toInt = 8 → (w).toInt = 9 → ∀ (v32 : Int32) (q33 : Int) (m30 : zM), aTm aT0 m30 → stCB T n mem (sHav T n Q (tkf T n p).2) v32.toInt q33 m30 → (0 : Int) ≤ (v32).toInt ∧ (v32).toInt ≤ 1) (h8 : ¬ (w).toInt = 2 → ¬ (w).toInt = 3 → ¬ (w).toInt = 4 → ¬ (w).toInt = 5 → ¬ (w).toInt = 6 → ¬ (w).toInt = 7 → ¬ (w).toInt = 8 → (w).toInt = 9 → ∀ (v32 : Int32) (q33 : Int) (m30 : zM), aTm aT0 m30 → stCB T n mem (sHav T n Q (tkf T n p).2) v32.toInt q33 m30 → aTm aT0 m30 → P (some (.int v32)) m30) (s6 : ¬ (w).toInt = 2 → ¬ (w).toInt = 3 → ¬ (w).toInt = 4 → ¬ (w).toInt = 5 → ¬ (w).toInt = 6 → ¬ (w).toInt = 7 → ¬ (w).toInt = 8 → ¬ (w).toInt = 9 → (w).toInt = 10 → ∀ (v36 : Int32) (q37 : Int) (m34 : zM), aTm aT0 m34 → stCB T n mem (oif ((Qf Q).length < 6) (sFol T n Q (tkf T n p).2)) v36.toInt q37 m34 → (0 : Int) ≤ (v36).toInt ∧ (v36).toInt ≤ 1) (h9 : ¬ (w).toInt = 2 → ¬ (w).toInt = 3 → ¬ (w).toInt = 4 → ¬ (w).toInt = 5 → ¬ (w).toInt = 6 → ¬ (w).toInt = 7 → ¬ (w).toInt = 8 → ¬ (w).toInt = 9 → (w).toInt = 10 → ∀ (v36 : Int32) (q37 : Int) (m34 : zM), aTm aT0 m34 → stCB T n mem (oif ((Qf Q).length < 6) (sFol T n Q (tkf T n p).2)) v36.toInt q37 m34 → aTm aT0 m34 → P (some (.int v36)) m34) (h10 : ¬ (w).toInt = 2 → ¬ (w).toInt = 3 → ¬ (w).toInt = 4 → ¬ (w).toInt = 5 → ¬ (w).toInt = 6 → ¬ (w).toInt = 7 → ¬ (w).toInt = 8 → ¬ (w).toInt = 9 → ¬ (w).toInt = 10 → (w).toInt = 11 → aTm aT0 (si (si mem 27 10 1) 27 11 (gi mem 27 7)) → P (some (.int 0)) (si (si mem 27 10 1) 27 11 (gi mem 27 7))) (s7 : ¬ (w).toInt = 2 → ¬ (w).toInt = 3 → ¬ (w).toInt = 4 → ¬ (w).toInt = 5 → ¬ (w).toInt = 6 → ¬ (w).toInt = 7 → ¬ (w).toInt = 8 → ¬ (w).toInt = 9 → ¬ (w).toInt = 10 → ¬ (w).toInt = 11 → (w).toInt = 12 → ∀ (v40 : Int32) (q41 : Int) (m38 : zM), aTm aT0 m38 → stCB T n mem (sRea T n 0 Q (tkf T n p).2) v40.toInt q41 m38 → (0 : Int) ≤ (v40).toInt ∧ (v40).toInt ≤ 1) (h11 : ¬ (w).toInt = 2 → ¬ (w).toInt = 3 → ¬ (w).toInt = 4 → ¬ (w).toInt = 5 → ¬ (w).toInt = 6 → ¬ (w).toInt = 7 → ¬ (w).toInt = 8 → ¬ (w).toInt = 9 → ¬ (w).toInt = 10 → ¬ (w).toInt = 11 → (w).toInt = 12 → ∀ (v40 : Int32) (q41 : Int) (m38 : zM), aTm aT0 m38 → stCB T n mem (sRea T n 0 Q (tkf T n p).2) v40.toInt q41 m38 → aTm aT0 m38 → P (some (.int v40)) m38) (s8 : ¬ (w).toInt = 2 → ¬ (w).toInt = 3 → ¬ (w).toInt = 4 → ¬ (w).toInt = 5 → ¬ (w).toInt = 6 → ¬ (w).toInt = 7 → ¬ (w).toInt = 8 → ¬ (w).toInt = 9 → ¬ (w).toInt = 10 → ¬ (w).toInt = 11 → ¬ (w).toInt = 12 → (w).toInt = 13 → ∀ (v44 : Int32) (q45 : Int) (m42 : zM), aTm aT0 m42 → stCB T n mem (sRea T n 1 Q (tkf T n p).2) v44.toInt q45 m42 → (0 : Int) ≤ (v44).toInt ∧ (v44).toInt ≤ 1) (h12 : ¬ (w).toInt = 2 → ¬ (w).toInt = 3 → ¬ (w).toInt = 4 → ¬ (w).toInt = 5 → ¬ (w).toInt = 6 → ¬ (w).toInt = 7 → ¬ (w).toInt = 8 → ¬ (w).toInt = 9 → ¬ (w).toInt = 10 → ¬ (w).toInt = 11 → ¬ (w).toInt = 12 → (w).toInt = 13 → ∀ (v44 : Int32) (q45 : Int) (m42 : zM), aTm aT0 m42 → stCB T n mem (sRea T n 1 Q (tkf T n p).2) v44.toInt q45 m42 → aTm aT0 m42 → P (some (.int v44)) m42) (s9 : ¬ (w).toInt = 2 → ¬ (w).toInt = 3 → ¬ (w).toInt = 4 → ¬ (w).toInt = 5 → ¬ (w).toInt = 6 → ¬ (w).toInt = 7 → ¬ (w).toInt = 8 → ¬ (w).toInt = 9 → ¬ (w).toInt = 10 → ¬ (w).toInt = 11 → ¬ (w).toInt = 12 → ¬ (w).toInt = 13 → (w).toInt = 14 → ∀ (v48 : Int32) (q49 : Int) (m46 : zM), aTm aT0 m46 → stCB T n mem (sRea T n 2 Q (tkf T n p).2) v48.toInt q49 m46 → (0 : Int) ≤ (v48).toInt ∧ (v48).toInt ≤ 1) (h13 : ¬ (w).toInt = 2 → ¬ (w).toInt = 3 → ¬ (w).toInt = 4 → ¬ (w).toInt = 5 → ¬ (w).toInt = 6 → ¬ (w).toInt = 7 → ¬ (w).toInt = 8 → ¬ (w).toInt = 9 → ¬ (w).toInt = 10 → ¬ (w).toInt = 11 → ¬ (w).toInt = 12 → ¬ (w).toInt = 13 → (w).toInt = 14 → ∀ (v48 : Int32) (q49 : Int) (m46 : zM), aTm aT0 m46 → stCB T n mem (sRea T n 2 Q (tkf T n p).2) v48.toInt q49 m46 → aTm aT0 m46 → P (some (.int v48)) m46) (h14 : ¬ (w).toInt = 2 → ¬ (w).toInt = 3 → ¬ (w).toInt = 4 → ¬ (w).toInt = 5 → ¬ (w).toInt = 6 → ¬ (w).toInt = 7 → ¬ (w).toInt = 8 → ¬ (w).toInt = 9 → ¬ (w).toInt = 10 → ¬ (w).toInt = 11 → ¬ (w).toInt = 12 → ¬ (w).toInt = 13 → ¬ (w).toInt = 14 → aTm aT0 (si (si mem 27 10 1) 27 11 (gi mem 27 7)) → P (some (.int 0)) (si (si mem 27 10 1) 27 11 (gi mem 27 7))) : yR zpg tX9_takesStatement (d + 61) (22, [(0, .ref 26)], [.int w], mem) P := by
  refine yR_m 2 (fun _ _ _ _ => rfl) ?_
  refine wR_ts rfl rfl ⟨fun q1 => ?_, fun q1 => ⟨fun q2 => ?_, fun q2 => ⟨fun q3 => ?_, fun q3 => ⟨fun q4 => ?_, fun q4 => ⟨fun q5 => ?_, fun q5 => ⟨fun q6 => ?_, fun q6 => ⟨fun q7 => ?_, fun q7 => ⟨fun q8 => ?_, fun q8 => ⟨fun q9 => ?_, fun q9 => ⟨fun q10 => ?_, fun q10 => ⟨fun q11 => ?_, fun q11 => ⟨fun q12 => ?_, fun q12 => ⟨fun q13 => ?_, fun q13 => ?_⟩⟩⟩⟩⟩⟩⟩⟩⟩⟩⟩⟩⟩
  ·
    have q1 : (w).toInt = 2 := q1
    refine yR_m 1 (fun _ _ _ _ => rfl) ?_
    refine wR_cv rfl rfl tO_e hm rfl (h_paCB (T := T) (n := n) (p := p) (Q := Q) hm ht hR (hk4 (by omega)) hq hQ hs (by omega)) ?_
    rintro _ m14 ⟨v16, q17, rfl, hm14, k15⟩
    show yR zpg tX9_takesStatement (d + 61) (96, [(1, .int w), (0, .ref 26)], [.int v16], m14) _
    exact yR_rz rfl (s1 q1 v16 q17 m14 hm14 k15) (h1 q1 v16 q17 m14 hm14 k15 hm14)
  ·
    have q1 : ¬ (w).toInt = 2 := q1
    have q2 : (w).toInt = 3 := q2
    refine yR_m 1 (fun _ _ _ _ => rfl) ?_
    refine wR_cv rfl rfl tO_e hm rfl (h_gaCB (T := T) (n := n) (p := p) (Q := Q) hm ht hR (hk4 (by omega)) hq hQ hs (by omega)) ?_
    rintro _ m18 ⟨v20, q21, rfl, hm18, k19⟩
    show yR zpg tX9_takesStatement (d + 61) (101, [(1, .int w), (0, .ref 26)], [.int v20], m18) _
    exact yR_rz rfl (s2 q1 q2 v20 q21 m18 hm18 k19) (h2 q1 q2 v20 q21 m18 hm18 k19 hm18)
  ·
    have q1 : ¬ (w).toInt = 2 := q1
    have q2 : ¬ (w).toInt = 3 := q2
    have q3 : (w).toInt = 4 := q3
    refine yR_m 1 (fun _ _ _ _ => rfl) ?_
    refine wR_cv rfl rfl tO_e hm rfl (h_waCB (T := T) (n := n) (p := p) (Q := Q) hm ht hR (hk4 (by omega)) hq hQ hs (by omega)) ?_
    rintro _ m22 ⟨v24, q25, rfl, hm22, k23⟩
    show yR zpg tX9_takesStatement (d + 61) (106, [(1, .int w), (0, .ref 26)], [.int v24], m22) _
    exact yR_rz rfl (s3 q1 q2 q3 v24 q25 m22 hm22 k23) (h3 q1 q2 q3 v24 q25 m22 hm22 k23 hm22)
  ·
    have q1 : ¬ (w).toInt = 2 := q1
    have q2 : ¬ (w).toInt = 3 := q2
    have q3 : ¬ (w).toInt = 4 := q3
    have q4 : (w).toInt = 5 := q4
    refine yR_m 1 (fun _ _ _ _ => rfl) ?_
    refine wR_cv rfl rfl tO_e hm rfl (h_laCB (T := T) (n := n) (p := p) (Q := Q) hm ht hR (hk4 (by omega)) hq hQ hs (by omega)) ?_
    rintro _ m26 ⟨v28, q29, rfl, hm26, k27⟩
    show yR zpg tX9_takesStatement (d + 61) (111, [(1, .int w), (0, .ref 26)], [.int v28], m26) _
    exact yR_rz rfl (s4 q1 q2 q3 q4 v28 q29 m26 hm26 k27) (h4 q1 q2 q3 q4 v28 q29 m26 hm26 k27 hm26)
  ·
    have q1 : ¬ (w).toInt = 2 := q1
    have q2 : ¬ (w).toInt = 3 := q2
    have q3 : ¬ (w).toInt = 4 := q3
    have q4 : ¬ (w).toInt = 5 := q4
    have q5 : (w).toInt = 6 := q5
    refine yR_m 1 (fun _ _ _ _ => rfl) ?_
    refine wR_gr rfl tO_e tO_0 hm ?_
    refine yR_m 2 (fun _ _ _ _ => rfl) ?_
    refine wR_gr rfl tO_e tO_0 hm ?_
    refine wR_gi rfl rO_e rO_7 hm rfl ?_
    refine wR_iv rfl rfl rO_e hm rfl rfl rfl rfl ?_
    show yR zpg tX5_faults (d + 60) (0, [(0, .ref 27), (1, .int 1), (2, .int (gi mem 27 7))], [], mem) _
    refine yR_m 2 (fun _ _ _ _ => rfl) ?_
    refine wR_pi rfl rO_e rO_10 hm rfl ?_
    have hm_1 : aTm aT0 (si mem 27 10 1) := tm_si rO_e rO_10 hm (i32_b _)
    refine yR_m 2 (fun _ _ _ _ => rfl) ?_
    refine wR_pi rfl rO_e rO_11 hm_1 rfl ?_
    have hm_2 : aTm aT0 (si (si mem 27 10 1) 27 11 (gi mem 27 7)) := tm_si rO_e rO_11 hm_1 (i32_b _)
    refine yR_m 1 (fun _ _ _ _ => rfl) ?_
    refine yR_rz rfl ⟨by decide, by decide⟩ ?_
    show yR zpg tX9_takesStatement (d + 61) (155, [(1, .int w), (0, .ref 26)], [.int 0], (si (si mem 27 10 1) 27 11 (gi mem 27 7))) _
    exact yR_rz rfl ⟨by decide, by decide⟩ (h5 q1 q2 q3 q4 q5 hm_2)
  ·
    have q1 : ¬ (w).toInt = 2 := q1
    have q2 : ¬ (w).toInt = 3 := q2
    have q3 : ¬ (w).toInt = 4 := q3
    have q4 : ¬ (w).toInt = 5 := q4
    have q5 : ¬ (w).toInt = 6 := q5
    have q6 : (w).toInt = 7 := q6
    refine yR_m 1 (fun _ _ _ _ => rfl) ?_
    refine wR_gr rfl tO_e tO_0 hm ?_
    refine yR_m 2 (fun _ _ _ _ => rfl) ?_
    refine wR_gr rfl tO_e tO_0 hm ?_
    refine wR_gi rfl rO_e rO_7 hm rfl ?_
    refine wR_iv rfl rfl rO_e hm rfl rfl rfl rfl ?_
    show yR zpg tX5_faults (d + 60) (0, [(0, .ref 27), (1, .int 1), (2, .int (gi mem 27 7))], [], mem) _
    refine yR_m 2 (fun _ _ _ _ => rfl) ?_
    refine wR_pi rfl rO_e rO_10 hm rfl ?_
    have hm_3 : aTm aT0 (si mem 27 10 1) := tm_si rO_e rO_10 hm (i32_b _)
    refine yR_m 2 (fun _ _ _ _ => rfl) ?_
    refine wR_pi rfl rO_e rO_11 hm_3 rfl ?_
    have hm_4 : aTm aT0 (si (si mem 27 10 1) 27 11 (gi mem 27 7)) := tm_si rO_e rO_11 hm_3 (i32_b _)
    refine yR_m 1 (fun _ _ _ _ => rfl) ?_
    refine yR_rz rfl ⟨by decide, by decide⟩ ?_
    show yR zpg tX9_takesStatement (d + 61) (155, [(1, .int w), (0, .ref 26)], [.int 0], (si (si mem 27 10 1) 27 11 (gi mem 27 7))) _
    exact yR_rz rfl ⟨by decide, by decide⟩ (h6 q1 q2 q3 q4 q5 q6 hm_4)
  ·
    have q1 : ¬ (w).toInt = 2 := q1
    have q2 : ¬ (w).toInt = 3 := q2
    have q3 : ¬ (w).toInt = 4 := q3
    have q4 : ¬ (w).toInt = 5 := q4
    have q5 : ¬ (w).toInt = 6 := q5
    have q6 : ¬ (w).toInt = 7 := q6
    have q7 : (w).toInt = 8 := q7
    refine yR_m 1 (fun _ _ _ _ => rfl) ?_
    refine wR_gr rfl tO_e tO_0 hm ?_
    refine yR_m 2 (fun _ _ _ _ => rfl) ?_
    refine wR_gr rfl tO_e tO_0 hm ?_
    refine wR_gi rfl rO_e rO_7 hm rfl ?_
    refine wR_iv rfl rfl rO_e hm rfl rfl rfl rfl ?_
    show yR zpg tX5_faults (d + 60) (0, [(0, .ref 27), (1, .int 1), (2, .int (gi mem 27 7))], [], mem) _
    refine yR_m 2 (fun _ _ _ _ => rfl) ?_
    refine wR_pi rfl rO_e rO_10 hm rfl ?_
    have hm_5 : aTm aT0 (si mem 27 10 1) := tm_si rO_e rO_10 hm (i32_b _)
    refine yR_m 2 (fun _ _ _ _ => rfl) ?_
    refine wR_pi rfl rO_e rO_11 hm_5 rfl ?_
    have hm_6 : aTm aT0 (si (si mem 27 10 1) 27 11 (gi mem 27 7)) := tm_si rO_e rO_11 hm_5 (i32_b _)
    refine yR_m 1 (fun _ _ _ _ => rfl) ?_
    refine yR_rz rfl ⟨by decide, by decide⟩ ?_
    show yR zpg tX9_takesStatement (d + 61) (155, [(1, .int w), (0, .ref 26)], [.int 0], (si (si mem 27 10 1) 27 11 (gi mem 27 7))) _
    exact yR_rz rfl ⟨by decide, by decide⟩ (h7 q1 q2 q3 q4 q5 q6 q7 hm_6)
  ·
    have q1 : ¬ (w).toInt = 2 := q1
    have q2 : ¬ (w).toInt = 3 := q2
    have q3 : ¬ (w).toInt = 4 := q3
    have q4 : ¬ (w).toInt = 5 := q4
    have q5 : ¬ (w).toInt = 6 := q5
    have q6 : ¬ (w).toInt = 7 := q6
    have q7 : ¬ (w).toInt = 8 := q7
    have q8 : (w).toInt = 9 := q8
    refine yR_m 1 (fun _ _ _ _ => rfl) ?_
    refine wR_cv rfl rfl tO_e hm rfl (h_haCB (T := T) (n := n) (p := p) (Q := Q) hm ht hR (hk4 (by omega)) hq hQ hs (by omega)) ?_
    rintro _ m30 ⟨v32, q33, rfl, hm30, k31⟩
    show yR zpg tX9_takesStatement (d + 61) (116, [(1, .int w), (0, .ref 26)], [.int v32], m30) _
    exact yR_rz rfl (s5 q1 q2 q3 q4 q5 q6 q7 q8 v32 q33 m30 hm30 k31) (h8 q1 q2 q3 q4 q5 q6 q7 q8 v32 q33 m30 hm30 k31 hm30)
  ·
    have q1 : ¬ (w).toInt = 2 := q1
    have q2 : ¬ (w).toInt = 3 := q2
    have q3 : ¬ (w).toInt = 4 := q3
    have q4 : ¬ (w).toInt = 5 := q4
    have q5 : ¬ (w).toInt = 6 := q5
    have q6 : ¬ (w).toInt = 7 := q6
    have q7 : ¬ (w).toInt = 8 := q7
    have q8 : ¬ (w).toInt = 9 := q8
    have q9 : (w).toInt = 10 := q9
    refine yR_m 1 (fun _ _ _ _ => rfl) ?_
    refine wR_cv rfl rfl tO_e hm rfl (h_foCB (T := T) (n := n) (p := p) (Q := Q) hm ht hR (hk4 (by omega)) hq hQ hs (by omega)) ?_
    rintro _ m34 ⟨v36, q37, rfl, hm34, k35⟩
    show yR zpg tX9_takesStatement (d + 61) (121, [(1, .int w), (0, .ref 26)], [.int v36], m34) _
    exact yR_rz rfl (s6 q1 q2 q3 q4 q5 q6 q7 q8 q9 v36 q37 m34 hm34 k35) (h9 q1 q2 q3 q4 q5 q6 q7 q8 q9 v36 q37 m34 hm34 k35 hm34)
  ·
    have q1 : ¬ (w).toInt = 2 := q1
    have q2 : ¬ (w).toInt = 3 := q2
    have q3 : ¬ (w).toInt = 4 := q3
    have q4 : ¬ (w).toInt = 5 := q4
    have q5 : ¬ (w).toInt = 6 := q5
    have q6 : ¬ (w).toInt = 7 := q6
    have q7 : ¬ (w).toInt = 8 := q7
    have q8 : ¬ (w).toInt = 9 := q8
    have q9 : ¬ (w).toInt = 10 := q9
    have q10 : (w).toInt = 11 := q10
    refine yR_m 1 (fun _ _ _ _ => rfl) ?_
    refine wR_gr rfl tO_e tO_0 hm ?_
    refine yR_m 2 (fun _ _ _ _ => rfl) ?_
    refine wR_gr rfl tO_e tO_0 hm ?_
    refine wR_gi rfl rO_e rO_7 hm rfl ?_
    refine wR_iv rfl rfl rO_e hm rfl rfl rfl rfl ?_
    show yR zpg tX5_faults (d + 60) (0, [(0, .ref 27), (1, .int 1), (2, .int (gi mem 27 7))], [], mem) _
    refine yR_m 2 (fun _ _ _ _ => rfl) ?_
    refine wR_pi rfl rO_e rO_10 hm rfl ?_
    have hm_7 : aTm aT0 (si mem 27 10 1) := tm_si rO_e rO_10 hm (i32_b _)
    refine yR_m 2 (fun _ _ _ _ => rfl) ?_
    refine wR_pi rfl rO_e rO_11 hm_7 rfl ?_
    have hm_8 : aTm aT0 (si (si mem 27 10 1) 27 11 (gi mem 27 7)) := tm_si rO_e rO_11 hm_7 (i32_b _)
    refine yR_m 1 (fun _ _ _ _ => rfl) ?_
    refine yR_rz rfl ⟨by decide, by decide⟩ ?_
    show yR zpg tX9_takesStatement (d + 61) (155, [(1, .int w), (0, .ref 26)], [.int 0], (si (si mem 27 10 1) 27 11 (gi mem 27 7))) _
    exact yR_rz rfl ⟨by decide, by decide⟩ (h10 q1 q2 q3 q4 q5 q6 q7 q8 q9 q10 hm_8)
  ·
    have q1 : ¬ (w).toInt = 2 := q1
    have q2 : ¬ (w).toInt = 3 := q2
    have q3 : ¬ (w).toInt = 4 := q3
    have q4 : ¬ (w).toInt = 5 := q4
    have q5 : ¬ (w).toInt = 6 := q5
    have q6 : ¬ (w).toInt = 7 := q6
    have q7 : ¬ (w).toInt = 8 := q7
    have q8 : ¬ (w).toInt = 9 := q8
    have q9 : ¬ (w).toInt = 10 := q9
    have q10 : ¬ (w).toInt = 11 := q10
    have q11 : (w).toInt = 12 := q11
    refine yR_m 2 (fun _ _ _ _ => rfl) ?_
    refine wR_cv rfl rfl tO_e hm rfl (h_ruCB (T := T) (n := n) (p := p) (Q := Q) (by decide) hm ht hR (hk4 (by omega)) hq hQ hs hn (by omega)) ?_
    rintro _ m38 ⟨v40, q41, rfl, hm38, k39⟩
    show yR zpg tX9_takesStatement (d + 61) (127, [(1, .int w), (0, .ref 26)], [.int v40], m38) _
    exact yR_rz rfl (s7 q1 q2 q3 q4 q5 q6 q7 q8 q9 q10 q11 v40 q41 m38 hm38 k39) (h11 q1 q2 q3 q4 q5 q6 q7 q8 q9 q10 q11 v40 q41 m38 hm38 k39 hm38)
  ·
    have q1 : ¬ (w).toInt = 2 := q1
    have q2 : ¬ (w).toInt = 3 := q2
    have q3 : ¬ (w).toInt = 4 := q3
    have q4 : ¬ (w).toInt = 5 := q4
    have q5 : ¬ (w).toInt = 6 := q5
    have q6 : ¬ (w).toInt = 7 := q6
    have q7 : ¬ (w).toInt = 8 := q7
    have q8 : ¬ (w).toInt = 9 := q8
    have q9 : ¬ (w).toInt = 10 := q9
    have q10 : ¬ (w).toInt = 11 := q10
    have q11 : ¬ (w).toInt = 12 := q11
    have q12 : (w).toInt = 13 := q12
    refine yR_m 2 (fun _ _ _ _ => rfl) ?_
    refine wR_cv rfl rfl tO_e hm rfl (h_ruCB (T := T) (n := n) (p := p) (Q := Q) (by decide) hm ht hR (hk4 (by omega)) hq hQ hs hn (by omega)) ?_
    rintro _ m42 ⟨v44, q45, rfl, hm42, k43⟩
    show yR zpg tX9_takesStatement (d + 61) (133, [(1, .int w), (0, .ref 26)], [.int v44], m42) _
    exact yR_rz rfl (s8 q1 q2 q3 q4 q5 q6 q7 q8 q9 q10 q11 q12 v44 q45 m42 hm42 k43) (h12 q1 q2 q3 q4 q5 q6 q7 q8 q9 q10 q11 q12 v44 q45 m42 hm42 k43 hm42)
  ·
    have q1 : ¬ (w).toInt = 2 := q1
    have q2 : ¬ (w).toInt = 3 := q2
    have q3 : ¬ (w).toInt = 4 := q3
    have q4 : ¬ (w).toInt = 5 := q4
    have q5 : ¬ (w).toInt = 6 := q5
    have q6 : ¬ (w).toInt = 7 := q6
    have q7 : ¬ (w).toInt = 8 := q7
    have q8 : ¬ (w).toInt = 9 := q8
    have q9 : ¬ (w).toInt = 10 := q9
    have q10 : ¬ (w).toInt = 11 := q10
    have q11 : ¬ (w).toInt = 12 := q11
    have q12 : ¬ (w).toInt = 13 := q12
    have q13 : (w).toInt = 14 := q13
    refine yR_m 2 (fun _ _ _ _ => rfl) ?_
    refine wR_cv rfl rfl tO_e hm rfl (h_ruCB (T := T) (n := n) (p := p) (Q := Q) (by decide) hm ht hR (hk4 (by omega)) hq hQ hs hn (by omega)) ?_
    rintro _ m46 ⟨v48, q49, rfl, hm46, k47⟩
    show yR zpg tX9_takesStatement (d + 61) (139, [(1, .int w), (0, .ref 26)], [.int v48], m46) _
    exact yR_rz rfl (s9 q1 q2 q3 q4 q5 q6 q7 q8 q9 q10 q11 q12 q13 v48 q49 m46 hm46 k47) (h13 q1 q2 q3 q4 q5 q6 q7 q8 q9 q10 q11 q12 q13 v48 q49 m46 hm46 k47 hm46)
  ·
    have q1 : ¬ (w).toInt = 2 := q1
    have q2 : ¬ (w).toInt = 3 := q2
    have q3 : ¬ (w).toInt = 4 := q3
    have q4 : ¬ (w).toInt = 5 := q4
    have q5 : ¬ (w).toInt = 6 := q5
    have q6 : ¬ (w).toInt = 7 := q6
    have q7 : ¬ (w).toInt = 8 := q7
    have q8 : ¬ (w).toInt = 9 := q8
    have q9 : ¬ (w).toInt = 10 := q9
    have q10 : ¬ (w).toInt = 11 := q10
    have q11 : ¬ (w).toInt = 12 := q11
    have q12 : ¬ (w).toInt = 13 := q12
    have q13 : ¬ (w).toInt = 14 := q13
    refine yR_m 1 (fun _ _ _ _ => rfl) ?_
    refine wR_gr rfl tO_e tO_0 hm ?_
    refine yR_m 2 (fun _ _ _ _ => rfl) ?_
    refine wR_gr rfl tO_e tO_0 hm ?_
    refine wR_gi rfl rO_e rO_7 hm rfl ?_
    refine wR_iv rfl rfl rO_e hm rfl rfl rfl rfl ?_
    show yR zpg tX5_faults (d + 60) (0, [(0, .ref 27), (1, .int 1), (2, .int (gi mem 27 7))], [], mem) _
    refine yR_m 2 (fun _ _ _ _ => rfl) ?_
    refine wR_pi rfl rO_e rO_10 hm rfl ?_
    have hm_9 : aTm aT0 (si mem 27 10 1) := tm_si rO_e rO_10 hm (i32_b _)
    refine yR_m 2 (fun _ _ _ _ => rfl) ?_
    refine wR_pi rfl rO_e rO_11 hm_9 rfl ?_
    have hm_10 : aTm aT0 (si (si mem 27 10 1) 27 11 (gi mem 27 7)) := tm_si rO_e rO_11 hm_9 (i32_b _)
    refine yR_m 1 (fun _ _ _ _ => rfl) ?_
    refine yR_rz rfl ⟨by decide, by decide⟩ ?_
    show yR zpg tX9_takesStatement (d + 61) (155, [(1, .int w), (0, .ref 26)], [.int 0], (si (si mem 27 10 1) 27 11 (gi mem 27 7))) _
    exact yR_rz rfl ⟨by decide, by decide⟩ (h14 q1 q2 q3 q4 q5 q6 q7 q8 q9 q10 q11 q12 q13 hm_10)

theorem tS_B {w : Int32} (hm : aTm aT0 mem) (ht : zfl mem 26 2 = some (.ref 14)) (hR : cRd T n p mem) (hk4 : ¬ w.toInt = -1 → ¬ (tkf T n p).1.1 = 4) (hW : (w.toInt = -1 ∧ ¬ (gi mem 27 4).toInt = 2) ∨ ((gi mem 27 4).toInt = 2 ∧ w.toInt = (gi mem 27 5).toInt)) (hq : hqQ Q) (hQ : cQ 14 15 16 19 20 21 24 25 Q mem) (hs : (gi mem 22 3).toInt ≤ p) (hn : n ≤ 1600) : yR zpg tX9_takesStatement (d + 61) (22, [(0, .ref 26)], [.int w], mem) (fun a m => ∃ (v : Int32) (q : Int), a = some (.int v) ∧ aTm aT0 m ∧ stCB T n mem (sSta T n Q p) v.toInt q m) := by
  exact w_tSB (T := T) (n := n) (p := p) (Q := Q) hm ht hR hk4 hq hQ hs hn
        (fun q1 v16 q17 m14 hm14 k15 => by
          rcases k15.2 with w | w | w <;> (have w1 := w.1; omega))
        (fun q1 v16 q17 m14 hm14 k15 hm2 => by
          have E : sSta T n Q p = sTel T n 2 1 9 Q (tkf T n p).2 := (pif_t ((cX_O (by decide) (by decide) hR).1 ⟨by omega, by omega⟩))
          rw [E]
          exact ⟨_, _, rfl, hm2, k15⟩)
        (fun q1 q2 v20 q21 m18 hm18 k19 => by
          rcases k19.2 with w | w | w <;> (have w1 := w.1; omega))
        (fun q1 q2 v20 q21 m18 hm18 k19 hm2 => by
          have E : sSta T n Q p = sTel T n 3 0 100 Q (tkf T n p).2 := ((pif_f (fun z => by have q9 := (cX_O (by decide) (by decide) hR).2 z; omega)).trans (pif_t ((cX_O (by decide) (by decide) hR).1 ⟨by omega, by omega⟩)))
          rw [E]
          exact ⟨_, _, rfl, hm2, k19⟩)
        (fun q1 q2 q3 v24 q25 m22 hm22 k23 => by
          rcases k23.2 with w | w | w <;> (have w1 := w.1; omega))
        (fun q1 q2 q3 v24 q25 m22 hm22 k23 hm2 => by
          have E : sSta T n Q p = sWal T n Q (tkf T n p).2 := ((pif_f (fun z => by have q9 := (cX_O (by decide) (by decide) hR).2 z; omega)).trans ((pif_f (fun z => by have q9 := (cX_O (by decide) (by decide) hR).2 z; omega)).trans (pif_t ((cX_O (by decide) (by decide) hR).1 ⟨by omega, by omega⟩))))
          rw [E]
          exact ⟨_, _, rfl, hm2, k23⟩)
        (fun q1 q2 q3 q4 v28 q29 m26 hm26 k27 => by
          rcases k27.2 with w | w | w <;> (have w1 := w.1; omega))
        (fun q1 q2 q3 q4 v28 q29 m26 hm26 k27 hm2 => by
          have E : sSta T n Q p = oif ((Qt Q).length < 9) (sLac T n Q (tkf T n p).2) := ((pif_f (fun z => by have q9 := (cX_O (by decide) (by decide) hR).2 z; omega)).trans ((pif_f (fun z => by have q9 := (cX_O (by decide) (by decide) hR).2 z; omega)).trans ((pif_f (fun z => by have q9 := (cX_O (by decide) (by decide) hR).2 z; omega)).trans (pif_t ((cX_O (by decide) (by decide) hR).1 ⟨by omega, by omega⟩)))))
          rw [E]
          exact ⟨_, _, rfl, hm2, k27⟩)
        (fun q1 q2 q3 q4 q5 hm2 => ⟨_, p, rfl, hm2, ⟨((zfl_sv_ne (by decide)).trans ((zfl_sv_ne (by decide)).trans ht)), ((gi_sv_ne (by decide)).trans (gi_sv_ne (by decide))), ((zo_sv (by decide)).trans (zo_sv (by decide)))⟩, Or.inr (Or.inl ⟨rfl, ((pif_f (fun z => by have q9 := (cX_O (by decide) (by decide) hR).2 z; omega)).trans ((pif_f (fun z => by have q9 := (cX_O (by decide) (by decide) hR).2 z; omega)).trans ((pif_f (fun z => by have q9 := (cX_O (by decide) (by decide) hR).2 z; omega)).trans ((pif_f (fun z => by have q9 := (cX_O (by decide) (by decide) hR).2 z; omega)).trans ((pif_f (fun z => by have q9 := (cX_O (by decide) (by decide) hR).2 z; omega)).trans ((pif_f (fun z => by have q9 := (cX_O (by decide) (by decide) hR).2 z; omega)).trans ((pif_f (fun z => by have q9 := (cX_O (by decide) (by decide) hR).2 z; omega)).trans ((pif_f (fun z => by have q9 := (cX_O (by decide) (by decide) hR).2 z; omega)).trans ((pif_f (fun z => by have q9 := (cX_O (by decide) (by decide) hR).2 z; omega)).trans rfl)))))))))⟩)⟩)
        (fun q1 q2 q3 q4 q5 q6 hm2 => ⟨_, p, rfl, hm2, ⟨((zfl_sv_ne (by decide)).trans ((zfl_sv_ne (by decide)).trans ht)), ((gi_sv_ne (by decide)).trans (gi_sv_ne (by decide))), ((zo_sv (by decide)).trans (zo_sv (by decide)))⟩, Or.inr (Or.inl ⟨rfl, ((pif_f (fun z => by have q9 := (cX_O (by decide) (by decide) hR).2 z; omega)).trans ((pif_f (fun z => by have q9 := (cX_O (by decide) (by decide) hR).2 z; omega)).trans ((pif_f (fun z => by have q9 := (cX_O (by decide) (by decide) hR).2 z; omega)).trans ((pif_f (fun z => by have q9 := (cX_O (by decide) (by decide) hR).2 z; omega)).trans ((pif_f (fun z => by have q9 := (cX_O (by decide) (by decide) hR).2 z; omega)).trans ((pif_f (fun z => by have q9 := (cX_O (by decide) (by decide) hR).2 z; omega)).trans ((pif_f (fun z => by have q9 := (cX_O (by decide) (by decide) hR).2 z; omega)).trans ((pif_f (fun z => by have q9 := (cX_O (by decide) (by decide) hR).2 z; omega)).trans ((pif_f (fun z => by have q9 := (cX_O (by decide) (by decide) hR).2 z; omega)).trans rfl)))))))))⟩)⟩)
        (fun q1 q2 q3 q4 q5 q6 q7 hm2 => ⟨_, p, rfl, hm2, ⟨((zfl_sv_ne (by decide)).trans ((zfl_sv_ne (by decide)).trans ht)), ((gi_sv_ne (by decide)).trans (gi_sv_ne (by decide))), ((zo_sv (by decide)).trans (zo_sv (by decide)))⟩, Or.inr (Or.inl ⟨rfl, ((pif_f (fun z => by have q9 := (cX_O (by decide) (by decide) hR).2 z; omega)).trans ((pif_f (fun z => by have q9 := (cX_O (by decide) (by decide) hR).2 z; omega)).trans ((pif_f (fun z => by have q9 := (cX_O (by decide) (by decide) hR).2 z; omega)).trans ((pif_f (fun z => by have q9 := (cX_O (by decide) (by decide) hR).2 z; omega)).trans ((pif_f (fun z => by have q9 := (cX_O (by decide) (by decide) hR).2 z; omega)).trans ((pif_f (fun z => by have q9 := (cX_O (by decide) (by decide) hR).2 z; omega)).trans ((pif_f (fun z => by have q9 := (cX_O (by decide) (by decide) hR).2 z; omega)).trans ((pif_f (fun z => by have q9 := (cX_O (by decide) (by decide) hR).2 z; omega)).trans ((pif_f (fun z => by have q9 := (cX_O (by decide) (by decide) hR).2 z; omega)).trans rfl)))))))))⟩)⟩)
        (fun q1 q2 q3 q4 q5 q6 q7 q8 v32 q33 m30 hm30 k31 => by
          rcases k31.2 with w | w | w <;> (have w1 := w.1; omega))
        (fun q1 q2 q3 q4 q5 q6 q7 q8 v32 q33 m30 hm30 k31 hm2 => by
          have E : sSta T n Q p = sHav T n Q (tkf T n p).2 := ((pif_f (fun z => by have q9 := (cX_O (by decide) (by decide) hR).2 z; omega)).trans ((pif_f (fun z => by have q9 := (cX_O (by decide) (by decide) hR).2 z; omega)).trans ((pif_f (fun z => by have q9 := (cX_O (by decide) (by decide) hR).2 z; omega)).trans ((pif_f (fun z => by have q9 := (cX_O (by decide) (by decide) hR).2 z; omega)).trans (pif_t ((cX_O (by decide) (by decide) hR).1 ⟨by omega, by omega⟩))))))
          rw [E]
          exact ⟨_, _, rfl, hm2, k31⟩)
        (fun q1 q2 q3 q4 q5 q6 q7 q8 q9 v36 q37 m34 hm34 k35 => by
          rcases k35.2 with w | w | w <;> (have w1 := w.1; omega))
        (fun q1 q2 q3 q4 q5 q6 q7 q8 q9 v36 q37 m34 hm34 k35 hm2 => by
          have E : sSta T n Q p = oif ((Qf Q).length < 6) (sFol T n Q (tkf T n p).2) := ((pif_f (fun z => by have q9 := (cX_O (by decide) (by decide) hR).2 z; omega)).trans ((pif_f (fun z => by have q9 := (cX_O (by decide) (by decide) hR).2 z; omega)).trans ((pif_f (fun z => by have q9 := (cX_O (by decide) (by decide) hR).2 z; omega)).trans ((pif_f (fun z => by have q9 := (cX_O (by decide) (by decide) hR).2 z; omega)).trans ((pif_f (fun z => by have q9 := (cX_O (by decide) (by decide) hR).2 z; omega)).trans (pif_t ((cX_O (by decide) (by decide) hR).1 ⟨by omega, by omega⟩)))))))
          rw [E]
          exact ⟨_, _, rfl, hm2, k35⟩)
        (fun q1 q2 q3 q4 q5 q6 q7 q8 q9 q10 hm2 => ⟨_, p, rfl, hm2, ⟨((zfl_sv_ne (by decide)).trans ((zfl_sv_ne (by decide)).trans ht)), ((gi_sv_ne (by decide)).trans (gi_sv_ne (by decide))), ((zo_sv (by decide)).trans (zo_sv (by decide)))⟩, Or.inr (Or.inl ⟨rfl, ((pif_f (fun z => by have q9 := (cX_O (by decide) (by decide) hR).2 z; omega)).trans ((pif_f (fun z => by have q9 := (cX_O (by decide) (by decide) hR).2 z; omega)).trans ((pif_f (fun z => by have q9 := (cX_O (by decide) (by decide) hR).2 z; omega)).trans ((pif_f (fun z => by have q9 := (cX_O (by decide) (by decide) hR).2 z; omega)).trans ((pif_f (fun z => by have q9 := (cX_O (by decide) (by decide) hR).2 z; omega)).trans ((pif_f (fun z => by have q9 := (cX_O (by decide) (by decide) hR).2 z; omega)).trans ((pif_f (fun z => by have q9 := (cX_O (by decide) (by decide) hR).2 z; omega)).trans ((pif_f (fun z => by have q9 := (cX_O (by decide) (by decide) hR).2 z; omega)).trans ((pif_f (fun z => by have q9 := (cX_O (by decide) (by decide) hR).2 z; omega)).trans rfl)))))))))⟩)⟩)
        (fun q1 q2 q3 q4 q5 q6 q7 q8 q9 q10 q11 v40 q41 m38 hm38 k39 => by
          rcases k39.2 with w | w | w <;> (have w1 := w.1; omega))
        (fun q1 q2 q3 q4 q5 q6 q7 q8 q9 q10 q11 v40 q41 m38 hm38 k39 hm2 => by
          have E : sSta T n Q p = sRea T n 0 Q (tkf T n p).2 := ((pif_f (fun z => by have q9 := (cX_O (by decide) (by decide) hR).2 z; omega)).trans ((pif_f (fun z => by have q9 := (cX_O (by decide) (by decide) hR).2 z; omega)).trans ((pif_f (fun z => by have q9 := (cX_O (by decide) (by decide) hR).2 z; omega)).trans ((pif_f (fun z => by have q9 := (cX_O (by decide) (by decide) hR).2 z; omega)).trans ((pif_f (fun z => by have q9 := (cX_O (by decide) (by decide) hR).2 z; omega)).trans ((pif_f (fun z => by have q9 := (cX_O (by decide) (by decide) hR).2 z; omega)).trans (pif_t ((cX_O (by decide) (by decide) hR).1 ⟨by omega, by omega⟩))))))))
          rw [E]
          exact ⟨_, _, rfl, hm2, k39⟩)
        (fun q1 q2 q3 q4 q5 q6 q7 q8 q9 q10 q11 q12 v44 q45 m42 hm42 k43 => by
          rcases k43.2 with w | w | w <;> (have w1 := w.1; omega))
        (fun q1 q2 q3 q4 q5 q6 q7 q8 q9 q10 q11 q12 v44 q45 m42 hm42 k43 hm2 => by
          have E : sSta T n Q p = sRea T n 1 Q (tkf T n p).2 := ((pif_f (fun z => by have q9 := (cX_O (by decide) (by decide) hR).2 z; omega)).trans ((pif_f (fun z => by have q9 := (cX_O (by decide) (by decide) hR).2 z; omega)).trans ((pif_f (fun z => by have q9 := (cX_O (by decide) (by decide) hR).2 z; omega)).trans ((pif_f (fun z => by have q9 := (cX_O (by decide) (by decide) hR).2 z; omega)).trans ((pif_f (fun z => by have q9 := (cX_O (by decide) (by decide) hR).2 z; omega)).trans ((pif_f (fun z => by have q9 := (cX_O (by decide) (by decide) hR).2 z; omega)).trans ((pif_f (fun z => by have q9 := (cX_O (by decide) (by decide) hR).2 z; omega)).trans (pif_t ((cX_O (by decide) (by decide) hR).1 ⟨by omega, by omega⟩)))))))))
          rw [E]
          exact ⟨_, _, rfl, hm2, k43⟩)
        (fun q1 q2 q3 q4 q5 q6 q7 q8 q9 q10 q11 q12 q13 v48 q49 m46 hm46 k47 => by
          rcases k47.2 with w | w | w <;> (have w1 := w.1; omega))
        (fun q1 q2 q3 q4 q5 q6 q7 q8 q9 q10 q11 q12 q13 v48 q49 m46 hm46 k47 hm2 => by
          have E : sSta T n Q p = sRea T n 2 Q (tkf T n p).2 := ((pif_f (fun z => by have q9 := (cX_O (by decide) (by decide) hR).2 z; omega)).trans ((pif_f (fun z => by have q9 := (cX_O (by decide) (by decide) hR).2 z; omega)).trans ((pif_f (fun z => by have q9 := (cX_O (by decide) (by decide) hR).2 z; omega)).trans ((pif_f (fun z => by have q9 := (cX_O (by decide) (by decide) hR).2 z; omega)).trans ((pif_f (fun z => by have q9 := (cX_O (by decide) (by decide) hR).2 z; omega)).trans ((pif_f (fun z => by have q9 := (cX_O (by decide) (by decide) hR).2 z; omega)).trans ((pif_f (fun z => by have q9 := (cX_O (by decide) (by decide) hR).2 z; omega)).trans ((pif_f (fun z => by have q9 := (cX_O (by decide) (by decide) hR).2 z; omega)).trans (pif_t ((cX_O (by decide) (by decide) hR).1 ⟨by omega, by omega⟩))))))))))
          rw [E]
          exact ⟨_, _, rfl, hm2, k47⟩)
        (fun q1 q2 q3 q4 q5 q6 q7 q8 q9 q10 q11 q12 q13 hm2 => ⟨_, p, rfl, hm2, ⟨((zfl_sv_ne (by decide)).trans ((zfl_sv_ne (by decide)).trans ht)), ((gi_sv_ne (by decide)).trans (gi_sv_ne (by decide))), ((zo_sv (by decide)).trans (zo_sv (by decide)))⟩, Or.inr (Or.inl ⟨rfl, ((pif_f (fun z => by have q9 := (cX_O (by decide) (by decide) hR).2 z; omega)).trans ((pif_f (fun z => by have q9 := (cX_O (by decide) (by decide) hR).2 z; omega)).trans ((pif_f (fun z => by have q9 := (cX_O (by decide) (by decide) hR).2 z; omega)).trans ((pif_f (fun z => by have q9 := (cX_O (by decide) (by decide) hR).2 z; omega)).trans ((pif_f (fun z => by have q9 := (cX_O (by decide) (by decide) hR).2 z; omega)).trans ((pif_f (fun z => by have q9 := (cX_O (by decide) (by decide) hR).2 z; omega)).trans ((pif_f (fun z => by have q9 := (cX_O (by decide) (by decide) hR).2 z; omega)).trans ((pif_f (fun z => by have q9 := (cX_O (by decide) (by decide) hR).2 z; omega)).trans ((pif_f (fun z => by have q9 := (cX_O (by decide) (by decide) hR).2 z; omega)).trans rfl)))))))))⟩)⟩)
theorem h_tsCB (hm : aTm aT0 mem) (ht : zfl mem 26 2 = some (.ref 14)) (hR : cRd T n p mem) (hq : hqQ Q) (hQ : cQ 14 15 16 19 20 21 24 25 Q mem) (hs : (gi mem 22 3).toInt ≤ p) (hn : n ≤ 1600) (hd : 62 ≤ d) : yC zpg d 88 [.ref 26] mem (fun a m => ∃ (v : Int32) (q : Int), a = some (.int v) ∧ aTm aT0 m ∧ stCB T n mem (sSta T n Q p) v.toInt q m) := by
  obtain ⟨d, rfl⟩ : ∃ q, d = q + 62 := ⟨d - 62, by omega⟩
  refine yC_of (t := tX9_takesStatement) rfl rfl ?_
  exact w_tS0 hm
        (fun q1 hm2 => tS_B hm2 ht hR (fun z => absurd rfl z) (Or.inl ⟨rfl, by omega⟩) hq hQ hs hn)
        (fun q1 hm2 => tS_B hm2 ht hR (fun _ => cX_4 hR (by omega)) (Or.inr ⟨by omega, rfl⟩) hq hQ hs hn)
end CY
