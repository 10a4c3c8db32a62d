/-! the class's reader begins -/
section DA
variable {d : Nat} {mr mem m : zM} {T : List Int32} {n p q v a b : Int} {Q : Qd}
set_option maxRecDepth 100000 in
theorem w_bg12 {d : Nat} {mem : zM} {P : Option Value → zM → Prop} {x : Int32} (hm : aTm aT0 mem) (hx : 0 ≤ x.toInt ∧ x.toInt ≤ 1600) (h1 : aTm aT0 (si (si (si (si (si mem 27 2 x) 27 3 0) 27 4 0) 27 10 0) 27 11 (-1)) → yR zpg tX5_begin (d + 2) (36, [(0, .ref 27), (1, .ref 1), (2, .int x)], [.ref 27], (si (si (si (si (si mem 27 2 x) 27 3 0) 27 4 0) 27 10 0) 27 11 (-1))) P) : yR zpg tX5_begin (d + 2) (12, [(0, .ref 27), (1, .ref 1), (2, .int x)], [.int x, .ref 27], mem) P := by
  refine wR_pi rfl rO_e rO_2 hm rfl ?_
  have hm_1 : aTm aT0 (si mem 27 2 x) := tm_si rO_e rO_2 hm (by omega)
  refine yR_m 2 (fun _ _ _ _ => rfl) ?_
  refine wR_pi rfl rO_e rO_3 hm_1 rfl ?_
  have hm_2 : aTm aT0 (si (si mem 27 2 x) 27 3 0) := tm_si rO_e rO_3 hm_1 (by decide)
  refine yR_m 2 (fun _ _ _ _ => rfl) ?_
  refine wR_pi rfl rO_e rO_4 hm_2 rfl ?_
  have hm_3 : aTm aT0 (si (si (si mem 27 2 x) 27 3 0) 27 4 0) := tm_si rO_e rO_4 hm_2 (i32_b _)
  refine yR_m 2 (fun _ _ _ _ => rfl) ?_
  refine wR_pi rfl rO_e rO_10 hm_3 rfl ?_
  have hm_4 : aTm aT0 (si (si (si (si mem 27 2 x) 27 3 0) 27 4 0) 27 10 0) := tm_si rO_e rO_10 hm_3 (i32_b _)
  refine yR_m 2 (fun _ _ _ _ => rfl) ?_
  refine wR_pi rfl rO_e rO_11 hm_4 rfl ?_
  have hm_5 : aTm aT0 (si (si (si (si (si mem 27 2 x) 27 3 0) 27 4 0) 27 10 0) 27 11 (-1)) := tm_si rO_e rO_11 hm_4 (i32_b _)
  refine yR_m 1 (fun _ _ _ _ => rfl) ?_
  exact h1 hm_5

theorem h_bgR {x : Int32} (hm : aTm aT0 mem) (hC : ga mem 28 = ownC) (x0 : 0 ≤ x.toInt ∧ x.toInt ≤ 1600) (hd : 3 ≤ d) : yC zpg d 57 [.ref 27, .ref 1, .int x] mem (fun a m => a = none ∧ aTm aT0 m ∧ (∀ k, ¬ k = 27 → zat m k = zat mem k) ∧ cRd (ga mem 1) x.toInt 0 m) := by
  obtain ⟨d, rfl⟩ : ∃ q, d = q + 3 := ⟨d - 3, by omega⟩
  refine yC_of (t := tX5_begin) rfl rfl ?_
  refine yR_m 2 (fun _ _ _ _ => rfl) ?_
  refine wR_pr rfl rO_e rO_1 hm rfl ?_
  have h1 : aTm aT0 (sR mem 27 1 1) := tm_sR rO_e rO_1 hm (by decide)
  refine yR_m 3 (fun _ _ _ _ => rfl) ?_
  refine wR_le (x := 1600) rfl aR_1 h1 rfl ?_
  refine yR_m 1 (fun _ _ _ _ => rfl) ?_
  have e0 : (if (1600 : Int32) < x then (1600 : Int32) else x) = x := if_neg (fun w => by
    have w1 := Int32.lt_iff_toInt_lt.1 w
    have w2 : (1600 : Int32).toInt = 1600 := rfl
    omega)
  rw [e0]
  exact w_bg12 (d := d) (x := x) h1 x0
        (fun  hm2 => by
          have e2 : gi (si (si (si (si (si (sR mem 27 1 1) 27 2 x) 27 3 0) 27 4 0) 27 10 0) 27 11 (-1)) 27 2 = x := ((gi_sv_ne (by decide)).trans ((gi_sv_ne (by decide)).trans ((gi_sv_ne (by decide)).trans ((gi_sv_ne (by decide)).trans (gi_eqQ (isQ_of rO_e h1) rO_2)))))
          have e3 : gi (si (si (si (si (si (sR mem 27 1 1) 27 2 x) 27 3 0) 27 4 0) 27 10 0) 27 11 (-1)) 27 3 = 0 := ((gi_sv_ne (by decide)).trans ((gi_sv_ne (by decide)).trans ((gi_sv_ne (by decide)).trans (gi_eqQ (isQ_sv (isQ_of rO_e h1)) rO_3))))
          have e4 : gi (si (si (si (si (si (sR mem 27 1 1) 27 2 x) 27 3 0) 27 4 0) 27 10 0) 27 11 (-1)) 27 4 = 0 := ((gi_sv_ne (by decide)).trans ((gi_sv_ne (by decide)).trans (gi_eqQ (isQ_sv (isQ_sv (isQ_of rO_e h1))) rO_4)))
          have K := h_advance (d := d + 2) (T := ga mem 1) (n := x.toInt) (p := 0) hm2 ((zfl_sv_ne (by decide)).trans ((zfl_sv_ne (by decide)).trans ((zfl_sv_ne (by decide)).trans ((zfl_sv_ne (by decide)).trans ((zfl_sv_ne (by decide)).trans (zfl_sR rO_e rO_1 hm)))))) ((((ga_sv).trans ((ga_sv).trans ((ga_sv).trans ((ga_sv).trans (ga_sv))))).trans ga_sv).trans hC) (((ga_sv).trans ((ga_sv).trans ((ga_sv).trans ((ga_sv).trans (ga_sv))))).trans ga_sv).symm (by rw [e2]) (by rw [e3]; rfl) x0.1 (fun _ => ⟨fun w => by rw [e4] at w; exact absurd w (by decide), fun w => by exfalso; omega⟩) (by omega)
          refine wR_cv rfl rfl rO_e hm2 rfl K ?_
          rintro _ m ⟨rfl, q2, q3, t, e, q4, q5, q6⟩
          refine yR_rv rfl ⟨rfl, q2, fun k hk => (q3.1 k hk rfl).trans ((fun k hk => (zat_sv_ne (Ne.symm hk)).trans ((zat_sv_ne (Ne.symm hk)).trans ((zat_sv_ne (Ne.symm hk)).trans ((zat_sv_ne (Ne.symm hk)).trans ((zat_sv_ne (Ne.symm hk)).trans (zat_sv_ne (Ne.symm hk))))))) k hk), t, e, ⟨(q3.2 1 rfl).trans ((zfl_sv_ne (by decide)).trans ((zfl_sv_ne (by decide)).trans ((zfl_sv_ne (by decide)).trans ((zfl_sv_ne (by decide)).trans ((zfl_sv_ne (by decide)).trans (zfl_sR rO_e rO_1 hm)))))), (fo_ga q3 (by decide) rfl).trans ((((ga_sv).trans ((ga_sv).trans ((ga_sv).trans ((ga_sv).trans (ga_sv))))).trans ga_sv).trans hC), (fo_ga q3 (by decide) rfl).trans (((ga_sv).trans ((ga_sv).trans ((ga_sv).trans ((ga_sv).trans (ga_sv))))).trans ga_sv), by rw [fo_gi q3 rfl, e2], by decide⟩, q4, q5, q6⟩)
end DA
