/-! the model's statements leave the other bank alone -/
section VB
variable {d : Nat} {mr mem m : zM} {b : Int}
theorem h_wallingB (hm : aTm aT0 mem) (hT : tOK mem) (sg : ¬ (gi mem 221 3).toInt = 0) (hc : 3 ≤ gn (ga mem 223) (gi mem 221 34).toInt ∧ gn (ga mem 223) (gi mem 221 34).toInt ≤ 7) (hr : 3 ≤ gn (ga mem 224) (gi mem 221 34).toInt ∧ gn (ga mem 224) (gi mem 221 34).toInt ≤ 7) (hd : 6 ≤ d) : yC zpg d 199 [.ref 221] mem (fun _ m => vB (1 - (gi mem 221 34).toInt) m = vB (1 - (gi mem 221 34).toInt) mem) := by
  obtain ⟨d, rfl⟩ : ∃ q, d = q + 6 := ⟨d - 6, by omega⟩
  obtain ⟨j0, j1⟩ := mO_r34 hm
  refine yC_of (t := tX12_walling) rfl rfl ?_
  exact w_walling hm hT sg hc hr
        (fun v3 m1 hm1 k2 q4 v7 m5 hm5 k6 q8 hm2 => (Eq.trans (vB_fr k6.1.1.1 rfl) (vB_fr k2.1.1.1 rfl)))
        (fun v3 m1 hm1 k2 q4 v7 m5 hm5 k6 q8 x9 e10 x11 e12 hm2 => (Eq.trans (vB_sa (s := 64) rfl (by decide) (by omega) (fun i i0 i1 => by omega) (by omega)) (Eq.trans (vB_fr k6.1.1.1 rfl) (vB_fr k2.1.1.1 rfl))))
        (fun v3 m1 hm1 k2 q4 hm2 => (vB_fr k2.1.1.1 rfl))
theorem h_lackingB (hm : aTm aT0 mem) (hT : tOK mem) (sg : ¬ (gi mem 221 3).toInt = 0) (hc : 3 ≤ gn (ga mem 223) (gi mem 221 34).toInt ∧ gn (ga mem 223) (gi mem 221 34).toInt ≤ 7) (hr : 3 ≤ gn (ga mem 224) (gi mem 221 34).toInt ∧ gn (ga mem 224) (gi mem 221 34).toInt ≤ 7) (hd : 6 ≤ d) : yC zpg d 200 [.ref 221] mem (fun _ m => vB (1 - (gi mem 221 34).toInt) m = vB (1 - (gi mem 221 34).toInt) mem) := by
  obtain ⟨d, rfl⟩ : ∃ q, d = q + 6 := ⟨d - 6, by omega⟩
  obtain ⟨j0, j1⟩ := mO_r34 hm
  have th := gR_228 hm (i := (gi mem 221 34).toInt) j0 (by omega)
  refine yC_of (t := tX12_lacking) rfl rfl ?_
  exact w_lacking hm hT sg hc hr
        (fun y1 e2 q3 v6 m4 hm4 k5 q7 x8 e9 y10 e11 x12 e13 v16 m14 hm14 k15 m17 hI17 k18 v21 m19 hm19 k20 m22 hI22 k23 v26 m24 hm24 k25 m27 hI27 k28 v31 m29 hm29 k30 q32 hm2 => (Eq.trans (vB_sa (s := 9) rfl (by decide) (by omega) (fun i i0 i1 => by omega) (by omega)) (Eq.trans (vB_fr k30.1.1.1 rfl) (Eq.trans (vB_fr k28.1.1.1 rfl) (Eq.trans (vB_sa (s := 9) rfl (by decide) (by omega) (fun i i0 i1 => by omega) (by omega)) (Eq.trans (vB_fr k25.1.1.1 rfl) (Eq.trans (vB_fr k23.1.1.1 rfl) (Eq.trans (vB_sa (s := 9) rfl (by decide) (by omega) (fun i i0 i1 => by omega) (by omega)) (Eq.trans (vB_fr k20.1.1.1 rfl) (Eq.trans (vB_fr k18.1.1.1 rfl) (Eq.trans (vB_sA (s := 9) rfl (by decide) (by omega) (fun i i0 i1 => by omega) (by omega)) (Eq.trans (vB_fr k15.1.1.1 rfl) (vB_fr k5.1.1.1 rfl)))))))))))))
        (fun y1 e2 q3 v6 m4 hm4 k5 q7 x8 e9 y10 e11 x12 e13 v16 m14 hm14 k15 m17 hI17 k18 v21 m19 hm19 k20 m22 hI22 k23 v26 m24 hm24 k25 m27 hI27 k28 v31 m29 hm29 k30 q32 y33 e34 x35 e36 hm2 => (Eq.trans (vB_sa (s := 1) rfl (by decide) (by omega) (fun i i0 i1 => by omega) (by omega)) (Eq.trans (vB_sa (s := 9) rfl (by decide) (by omega) (fun i i0 i1 => by omega) (by omega)) (Eq.trans (vB_fr k30.1.1.1 rfl) (Eq.trans (vB_fr k28.1.1.1 rfl) (Eq.trans (vB_sa (s := 9) rfl (by decide) (by omega) (fun i i0 i1 => by omega) (by omega)) (Eq.trans (vB_fr k25.1.1.1 rfl) (Eq.trans (vB_fr k23.1.1.1 rfl) (Eq.trans (vB_sa (s := 9) rfl (by decide) (by omega) (fun i i0 i1 => by omega) (by omega)) (Eq.trans (vB_fr k20.1.1.1 rfl) (Eq.trans (vB_fr k18.1.1.1 rfl) (Eq.trans (vB_sA (s := 9) rfl (by decide) (by omega) (fun i i0 i1 => by omega) (by omega)) (Eq.trans (vB_fr k15.1.1.1 rfl) (vB_fr k5.1.1.1 rfl))))))))))))))
        (fun y1 e2 q3 v6 m4 hm4 k5 q7 hm2 => (vB_fr k5.1.1.1 rfl))
        (fun y1 e2 q3 v39 m37 hm37 k38 q40 x41 e42 y43 e44 x45 e46 v49 m47 hm47 k48 m50 hI50 k51 v54 m52 hm52 k53 m55 hI55 k56 v59 m57 hm57 k58 m60 hI60 k61 v64 m62 hm62 k63 q65 hm2 => (Eq.trans (vB_sa (s := 9) rfl (by decide) (by omega) (fun i i0 i1 => by omega) (by omega)) (Eq.trans (vB_fr k63.1.1.1 rfl) (Eq.trans (vB_fr k61.1.1.1 rfl) (Eq.trans (vB_sa (s := 9) rfl (by decide) (by omega) (fun i i0 i1 => by omega) (by omega)) (Eq.trans (vB_fr k58.1.1.1 rfl) (Eq.trans (vB_fr k56.1.1.1 rfl) (Eq.trans (vB_sa (s := 9) rfl (by decide) (by omega) (fun i i0 i1 => by omega) (by omega)) (Eq.trans (vB_fr k53.1.1.1 rfl) (Eq.trans (vB_fr k51.1.1.1 rfl) (Eq.trans (vB_sA (s := 9) rfl (by decide) (by omega) (fun i i0 i1 => by omega) (by omega)) (Eq.trans (vB_fr k48.1.1.1 rfl) (vB_fr k38.1.1.1 rfl)))))))))))))
        (fun y1 e2 q3 v39 m37 hm37 k38 q40 x41 e42 y43 e44 x45 e46 v49 m47 hm47 k48 m50 hI50 k51 v54 m52 hm52 k53 m55 hI55 k56 v59 m57 hm57 k58 m60 hI60 k61 v64 m62 hm62 k63 q65 y66 e67 x68 e69 hm2 => (Eq.trans (vB_sa (s := 1) rfl (by decide) (by omega) (fun i i0 i1 => by omega) (by omega)) (Eq.trans (vB_sa (s := 9) rfl (by decide) (by omega) (fun i i0 i1 => by omega) (by omega)) (Eq.trans (vB_fr k63.1.1.1 rfl) (Eq.trans (vB_fr k61.1.1.1 rfl) (Eq.trans (vB_sa (s := 9) rfl (by decide) (by omega) (fun i i0 i1 => by omega) (by omega)) (Eq.trans (vB_fr k58.1.1.1 rfl) (Eq.trans (vB_fr k56.1.1.1 rfl) (Eq.trans (vB_sa (s := 9) rfl (by decide) (by omega) (fun i i0 i1 => by omega) (by omega)) (Eq.trans (vB_fr k53.1.1.1 rfl) (Eq.trans (vB_fr k51.1.1.1 rfl) (Eq.trans (vB_sA (s := 9) rfl (by decide) (by omega) (fun i i0 i1 => by omega) (by omega)) (Eq.trans (vB_fr k48.1.1.1 rfl) (vB_fr k38.1.1.1 rfl))))))))))))))
        (fun y1 e2 q3 v39 m37 hm37 k38 q40 hm2 => (vB_fr k38.1.1.1 rfl))
theorem h_folkingB (hm : aTm aT0 mem) (hT : tOK mem) (sg : ¬ (gi mem 221 3).toInt = 0) (hc : 3 ≤ gn (ga mem 223) (gi mem 221 34).toInt ∧ gn (ga mem 223) (gi mem 221 34).toInt ≤ 7) (hr : 3 ≤ gn (ga mem 224) (gi mem 221 34).toInt ∧ gn (ga mem 224) (gi mem 221 34).toInt ≤ 7) (hd : 6 ≤ d) : yC zpg d 202 [.ref 221] mem (fun _ m => vB (1 - (gi mem 221 34).toInt) m = vB (1 - (gi mem 221 34).toInt) mem) := by
  obtain ⟨d, rfl⟩ : ∃ q, d = q + 6 := ⟨d - 6, by omega⟩
  obtain ⟨j0, j1⟩ := mO_r34 hm
  have fki := gR_233 hm (i := (gi mem 221 34).toInt) j0 (by omega)
  refine yC_of (t := tX12_folking) rfl rfl ?_
  exact w_folking hm hT sg hc hr
        (fun y1 e2 q3 v6 m4 hm4 k5 q7 x8 e9 y10 e11 x12 e13 v16 m14 hm14 k15 m17 hI17 k18 v21 m19 hm19 k20 m22 hI22 k23 v26 m24 hm24 k25 q27 hm2 => (Eq.trans (vB_sa (s := 6) rfl (by decide) (by omega) (fun i i0 i1 => by omega) (by omega)) (Eq.trans (vB_fr k25.1.1.1 rfl) (Eq.trans (vB_fr k23.1.1.1 rfl) (Eq.trans (vB_sa (s := 6) rfl (by decide) (by omega) (fun i i0 i1 => by omega) (by omega)) (Eq.trans (vB_fr k20.1.1.1 rfl) (Eq.trans (vB_fr k18.1.1.1 rfl) (Eq.trans (vB_sA (s := 6) rfl (by decide) (by omega) (fun i i0 i1 => by omega) (by omega)) (Eq.trans (vB_fr k15.1.1.1 rfl) (vB_fr k5.1.1.1 rfl))))))))))
        (fun y1 e2 q3 v6 m4 hm4 k5 q7 x8 e9 y10 e11 x12 e13 v16 m14 hm14 k15 m17 hI17 k18 v21 m19 hm19 k20 m22 hI22 k23 v26 m24 hm24 k25 q27 y28 e29 x30 e31 hm2 => (Eq.trans (vB_sa (s := 1) rfl (by decide) (by omega) (fun i i0 i1 => by omega) (by omega)) (Eq.trans (vB_sa (s := 6) rfl (by decide) (by omega) (fun i i0 i1 => by omega) (by omega)) (Eq.trans (vB_fr k25.1.1.1 rfl) (Eq.trans (vB_fr k23.1.1.1 rfl) (Eq.trans (vB_sa (s := 6) rfl (by decide) (by omega) (fun i i0 i1 => by omega) (by omega)) (Eq.trans (vB_fr k20.1.1.1 rfl) (Eq.trans (vB_fr k18.1.1.1 rfl) (Eq.trans (vB_sA (s := 6) rfl (by decide) (by omega) (fun i i0 i1 => by omega) (by omega)) (Eq.trans (vB_fr k15.1.1.1 rfl) (vB_fr k5.1.1.1 rfl)))))))))))
        (fun y1 e2 q3 v6 m4 hm4 k5 q7 hm2 => (vB_fr k5.1.1.1 rfl))
        (fun y1 e2 q3 v34 m32 hm32 k33 q35 x36 e37 y38 e39 x40 e41 v44 m42 hm42 k43 m45 hI45 k46 v49 m47 hm47 k48 m50 hI50 k51 v54 m52 hm52 k53 q55 hm2 => (Eq.trans (vB_sa (s := 6) rfl (by decide) (by omega) (fun i i0 i1 => by omega) (by omega)) (Eq.trans (vB_fr k53.1.1.1 rfl) (Eq.trans (vB_fr k51.1.1.1 rfl) (Eq.trans (vB_sa (s := 6) rfl (by decide) (by omega) (fun i i0 i1 => by omega) (by omega)) (Eq.trans (vB_fr k48.1.1.1 rfl) (Eq.trans (vB_fr k46.1.1.1 rfl) (Eq.trans (vB_sA (s := 6) rfl (by decide) (by omega) (fun i i0 i1 => by omega) (by omega)) (Eq.trans (vB_fr k43.1.1.1 rfl) (vB_fr k33.1.1.1 rfl))))))))))
        (fun y1 e2 q3 v34 m32 hm32 k33 q35 x36 e37 y38 e39 x40 e41 v44 m42 hm42 k43 m45 hI45 k46 v49 m47 hm47 k48 m50 hI50 k51 v54 m52 hm52 k53 q55 y56 e57 x58 e59 hm2 => (Eq.trans (vB_sa (s := 1) rfl (by decide) (by omega) (fun i i0 i1 => by omega) (by omega)) (Eq.trans (vB_sa (s := 6) rfl (by decide) (by omega) (fun i i0 i1 => by omega) (by omega)) (Eq.trans (vB_fr k53.1.1.1 rfl) (Eq.trans (vB_fr k51.1.1.1 rfl) (Eq.trans (vB_sa (s := 6) rfl (by decide) (by omega) (fun i i0 i1 => by omega) (by omega)) (Eq.trans (vB_fr k48.1.1.1 rfl) (Eq.trans (vB_fr k46.1.1.1 rfl) (Eq.trans (vB_sA (s := 6) rfl (by decide) (by omega) (fun i i0 i1 => by omega) (by omega)) (Eq.trans (vB_fr k43.1.1.1 rfl) (vB_fr k33.1.1.1 rfl)))))))))))
        (fun y1 e2 q3 v34 m32 hm32 k33 q35 hm2 => (vB_fr k33.1.1.1 rfl))
theorem h_havingB (hm : aTm aT0 mem) (hT : tOK mem) (sg : ¬ (gi mem 221 3).toInt = 0) (hd : 6 ≤ d) : yC zpg d 201 [.ref 221] mem (fun _ m => vB (1 - (gi mem 221 34).toInt) m = vB (1 - (gi mem 221 34).toInt) mem) := by
  obtain ⟨d, rfl⟩ : ∃ q, d = q + 6 := ⟨d - 6, by omega⟩
  obtain ⟨j0, j1⟩ := mO_r34 hm
  refine yC_of (t := tX12_having) rfl rfl ?_
  exact w_having hm hT sg
        (fun v3 m1 hm1 k2 q4 q5 q6 q7 hm2 => (Eq.trans vB_sv (Eq.trans vB_sv (vB_fr k2.1.1.1 rfl))))
        (fun v3 m1 hm1 k2 q4 q5 q6 q7 v8 k9 q10 v11 k12 q13 => k2.1.1.2.1.1.1.2.2)
        (fun v3 m1 hm1 k2 q4 q5 q6 q7 v8 k9 q10 v11 k12 q13 m14 hI14 k15 y16 e17 => by
          have r0 := mO_r34 hI14
          have r := gR_232 hI14 (i := (gi m14 221 34).toInt) r0.1 (by omega)
          first
            | exact or_rg (by omega) (by omega) (by decide) (by decide) (by omega) (by omega)
            | (exfalso; omega))
        (fun v3 m1 hm1 k2 q4 q5 q6 q7 v8 k9 q10 v11 k12 q13 m14 hI14 k15 y16 e17 hm2 => by
          have e34 : (gi m14 221 34).toInt = (gi m1 221 34).toInt := by rw [fr_gi k15.1.1 rfl]
          exact Eq.trans (vB_sa (s := 1) rfl (by decide) (by omega) (fun i i0 i1 => by omega) (by omega)) (Eq.trans (vB_fr k15.1.1 rfl) (vB_fr k2.1.1.1 rfl)))
        (fun v3 m1 hm1 k2 q4 q5 q6 q7 v8 k9 q10 v11 k12 q13 q18 hm2 => (Eq.trans vB_sv (Eq.trans vB_sv (vB_fr k2.1.1.1 rfl))))
        (fun v3 m1 hm1 k2 q4 q5 q6 q7 v8 k9 q10 v11 k12 q13 q18 y19 e20 q21 => k2.1.1.2.1.1.1.2.2)
        (fun v3 m1 hm1 k2 q4 q5 q6 q7 v8 k9 q10 v11 k12 q13 q18 y19 e20 q21 m22 hI22 k23 y24 e25 => by
          have r0 := mO_r34 hI22
          have r := gR_232 hI22 (i := (gi m22 221 34).toInt) r0.1 (by omega)
          first
            | exact or_rg (by omega) (by omega) (by decide) (by decide) (by omega) (by omega)
            | (exfalso; omega))
        (fun v3 m1 hm1 k2 q4 q5 q6 q7 v8 k9 q10 v11 k12 q13 q18 y19 e20 q21 m22 hI22 k23 y24 e25 hm2 => by
          have e34 : (gi m22 221 34).toInt = (gi m1 221 34).toInt := by rw [fr_gi k23.1.1 rfl]
          exact Eq.trans (vB_sa (s := 1) rfl (by decide) (by omega) (fun i i0 i1 => by omega) (by omega)) (Eq.trans (vB_fr k23.1.1 rfl) (vB_fr k2.1.1.1 rfl)))
        (fun v3 m1 hm1 k2 q4 q5 q6 q7 v8 k9 q10 v11 k12 q13 q18 y19 e20 q21 hm2 => (Eq.trans vB_sv (Eq.trans vB_sv (vB_fr k2.1.1.1 rfl))))
        (fun v3 m1 hm1 k2 q4 q5 q6 q7 v8 k9 q10 hm2 => (Eq.trans vB_sv (Eq.trans vB_sv (vB_fr k2.1.1.1 rfl))))
        (fun v3 m1 hm1 k2 q4 q5 q6 hm2 => (vB_fr k2.1.1.1 rfl))
        (fun v3 m1 hm1 k2 q4 q5 q26 hm2 => (Eq.trans vB_sv (Eq.trans vB_sv (vB_fr k2.1.1.1 rfl))))
        (fun v3 m1 hm1 k2 q4 q5 q26 hm2 => (vB_fr k2.1.1.1 rfl))
        (fun v3 m1 hm1 k2 q4 hm2 => (vB_fr k2.1.1.1 rfl))
theorem h_quayingB (hm : aTm aT0 mem) (hT : tOK mem) (hd : 5 ≤ d) : yC zpg d 197 [.ref 221] mem (fun _ m => vB (1 - (gi mem 221 34).toInt) m = vB (1 - (gi mem 221 34).toInt) mem) := by
  obtain ⟨d, rfl⟩ : ∃ q, d = q + 5 := ⟨d - 5, by omega⟩
  obtain ⟨j0, j1⟩ := mO_r34 hm
  refine yC_of (t := tX12_quaying) rfl rfl ?_
  exact w_quaying hm hT
        (fun m1 hI1 k2 v5 m3 hm3 k4 m6 hI6 k7 v10 m8 hm8 k9 hm2 => (Eq.trans (vB_sa (s := 1) rfl (by decide) (by omega) (fun i i0 i1 => by omega) (by omega)) (Eq.trans (vB_fr k9.1.1 rfl) (Eq.trans (vB_fr k7.1.1 rfl) (Eq.trans (vB_sa (s := 1) rfl (by decide) (by omega) (fun i i0 i1 => by omega) (by omega)) (Eq.trans (vB_fr k4.1.1 rfl) (vB_fr k2.1.1 rfl)))))))
theorem h_readingB {wh : Int32} (hm : aTm aT0 mem) (h : SI mr mem) (h8 : (gi mem 221 8).toInt = 0) (sg : ¬ (gi mem 221 3).toInt = 0) (hw : 0 ≤ wh.toInt ∧ wh.toInt ≤ 2) (hd : 10 ≤ d) : yC zpg d 203 [.ref 221, .int wh] mem (fun _ m => vB (1 - (gi mem 221 34).toInt) m = vB (1 - (gi mem 221 34).toInt) mem) := by
  obtain ⟨d, rfl⟩ : ∃ q, d = q + 10 := ⟨d - 10, by omega⟩
  have hT := h.2.1
  have h4 := (h.2.2.2 h8).2.1
  obtain ⟨j0, j1⟩ := mO_r34 hm
  refine yC_of (t := tX12_reading) rfl rfl ?_
  exact w_reading hm hT sg hw
        (fun x1 e2 x3 e4 y5 e6 q7 v10 m8 hm8 k9 q11 q12 => by
          have S1 := SI_t h k9.1.1
          have gt := k9.1.1.2.2.2
          have F : fr [236] [35] m8 (sx (si m8 221 35 wh) 236 x3 (gi m8 221 33)) := fr_sa rfl (fr_sv rfl fr_rf)
          refine ⟨tOK_fr F rfl rfl rfl rfl (by show 0 ≤ (gi _ 221 8).toInt; rw [fr_gi F rfl]; omega) S1.2.1, ?_, fun z => ?_⟩
          · show (gi _ 221 34).toInt = 1 - (gi _ 221 13).toInt
            rw [fr_gi F (i := 34) rfl, fr_gi F (i := 13) rfl]; exact S1.2.2.1
          · rw [fr_gi F (i := 8) rfl] at z
            have g2 := (gt z).2
            have c1 : gi m8 221 33 = gi mem 221 33 := fr_gi k9.1.1.1 rfl
            rw [fr_gi F (i := 33) rfl, fr_gi F (i := 4) rfl, c1]
            omega)
        (fun x1 e2 x3 e4 y5 e6 q7 v10 m8 hm8 k9 q11 q12 m13 hI13 k14 hm2 => (Eq.trans (vB_sa (s := 3) rfl (by decide) (by omega) (fun i i0 i1 => by omega) (by omega)) (Eq.trans (vB_kB k14.2.2.1.1 (by
                                have q9 : (gi (sx (si m8 221 35 wh) 236 x3 (gi m8 221 33)) 221 13).toInt = (gi mem 221 13).toInt := by rw [show gi (sx (si m8 221 35 wh) 236 x3 (gi m8 221 33)) 221 13 = gi m8 221 13 from ((gi_sa).trans (gi_sv_ne (by decide))), fr_gi k9.1.1.1 rfl]
                                have q8 : inI mem = 1 - bI mem := h.2.2.1
                                show 1 - inI mem = _
                                rw [q9, q8]
                                show 1 - (1 - (gi mem 221 13).toInt) = _
                                omega)) (Eq.trans (vB_sa (s := 3) rfl (by decide) (by omega) (fun i i0 i1 => by omega) (by omega)) (Eq.trans vB_sv (vB_fr k9.1.1.1 rfl))))))
        (fun x1 e2 x3 e4 y5 e6 q7 v10 m8 hm8 k9 q11 q12 => by
          have S1 := SI_t h k9.1.1
          have gt := k9.1.1.2.2.2
          have F : fr [236] [35] m8 (sx (si m8 221 35 wh) 236 x3 (gi m8 221 33)) := fr_sa rfl (fr_sv rfl fr_rf)
          refine ⟨tOK_fr F rfl rfl rfl rfl (by show 0 ≤ (gi _ 221 8).toInt; rw [fr_gi F rfl]; omega) S1.2.1, ?_, fun z => ?_⟩
          · show (gi _ 221 34).toInt = 1 - (gi _ 221 13).toInt
            rw [fr_gi F (i := 34) rfl, fr_gi F (i := 13) rfl]; exact S1.2.2.1
          · rw [fr_gi F (i := 8) rfl] at z
            have g2 := (gt z).2
            have c1 : gi m8 221 33 = gi mem 221 33 := fr_gi k9.1.1.1 rfl
            rw [fr_gi F (i := 33) rfl, fr_gi F (i := 4) rfl, c1]
            omega)
        (fun x1 e2 x3 e4 y5 e6 q7 v10 m8 hm8 k9 q11 q12 m15 hI15 k16 hm2 => (Eq.trans (vB_sa (s := 3) rfl (by decide) (by omega) (fun i i0 i1 => by omega) (by omega)) (Eq.trans (vB_kB k16.2.2.1.1 (by
                                have q9 : (gi (sx (si m8 221 35 wh) 236 x3 (gi m8 221 33)) 221 13).toInt = (gi mem 221 13).toInt := by rw [show gi (sx (si m8 221 35 wh) 236 x3 (gi m8 221 33)) 221 13 = gi m8 221 13 from ((gi_sa).trans (gi_sv_ne (by decide))), fr_gi k9.1.1.1 rfl]
                                have q8 : inI mem = 1 - bI mem := h.2.2.1
                                show 1 - inI mem = _
                                rw [q9, q8]
                                show 1 - (1 - (gi mem 221 13).toInt) = _
                                omega)) (Eq.trans (vB_sa (s := 3) rfl (by decide) (by omega) (fun i i0 i1 => by omega) (by omega)) (Eq.trans vB_sv (vB_fr k9.1.1.1 rfl))))))
        (fun x1 e2 x3 e4 y5 e6 q7 v10 m8 hm8 k9 q11 hm2 => (vB_fr k9.1.1.1 rfl))
        (fun x1 e2 x3 e4 y5 e6 q7 v19 m17 hm17 k18 q20 q21 => by
          have S1 := SI_t h k18.1.1
          have gt := k18.1.1.2.2.2
          have F : fr [236] [35] m17 (sx (si m17 221 35 wh) 236 x3 (gi m17 221 33)) := fr_sa rfl (fr_sv rfl fr_rf)
          refine ⟨tOK_fr F rfl rfl rfl rfl (by show 0 ≤ (gi _ 221 8).toInt; rw [fr_gi F rfl]; omega) S1.2.1, ?_, fun z => ?_⟩
          · show (gi _ 221 34).toInt = 1 - (gi _ 221 13).toInt
            rw [fr_gi F (i := 34) rfl, fr_gi F (i := 13) rfl]; exact S1.2.2.1
          · rw [fr_gi F (i := 8) rfl] at z
            have g2 := (gt z).2
            have c1 : gi m17 221 33 = gi mem 221 33 := fr_gi k18.1.1.1 rfl
            rw [fr_gi F (i := 33) rfl, fr_gi F (i := 4) rfl, c1]
            omega)
        (fun x1 e2 x3 e4 y5 e6 q7 v19 m17 hm17 k18 q20 q21 m22 hI22 k23 hm2 => (Eq.trans (vB_sa (s := 3) rfl (by decide) (by omega) (fun i i0 i1 => by omega) (by omega)) (Eq.trans (vB_kB k23.2.2.1.1 (by
                                have q9 : (gi (sx (si m17 221 35 wh) 236 x3 (gi m17 221 33)) 221 13).toInt = (gi mem 221 13).toInt := by rw [show gi (sx (si m17 221 35 wh) 236 x3 (gi m17 221 33)) 221 13 = gi m17 221 13 from ((gi_sa).trans (gi_sv_ne (by decide))), fr_gi k18.1.1.1 rfl]
                                have q8 : inI mem = 1 - bI mem := h.2.2.1
                                show 1 - inI mem = _
                                rw [q9, q8]
                                show 1 - (1 - (gi mem 221 13).toInt) = _
                                omega)) (Eq.trans (vB_sa (s := 3) rfl (by decide) (by omega) (fun i i0 i1 => by omega) (by omega)) (Eq.trans vB_sv (vB_fr k18.1.1.1 rfl))))))
        (fun x1 e2 x3 e4 y5 e6 q7 v19 m17 hm17 k18 q20 q21 => by
          have S1 := SI_t h k18.1.1
          have gt := k18.1.1.2.2.2
          have F : fr [236] [35] m17 (sx (si m17 221 35 wh) 236 x3 (gi m17 221 33)) := fr_sa rfl (fr_sv rfl fr_rf)
          refine ⟨tOK_fr F rfl rfl rfl rfl (by show 0 ≤ (gi _ 221 8).toInt; rw [fr_gi F rfl]; omega) S1.2.1, ?_, fun z => ?_⟩
          · show (gi _ 221 34).toInt = 1 - (gi _ 221 13).toInt
            rw [fr_gi F (i := 34) rfl, fr_gi F (i := 13) rfl]; exact S1.2.2.1
          · rw [fr_gi F (i := 8) rfl] at z
            have g2 := (gt z).2
            have c1 : gi m17 221 33 = gi mem 221 33 := fr_gi k18.1.1.1 rfl
            rw [fr_gi F (i := 33) rfl, fr_gi F (i := 4) rfl, c1]
            omega)
        (fun x1 e2 x3 e4 y5 e6 q7 v19 m17 hm17 k18 q20 q21 m24 hI24 k25 hm2 => (Eq.trans (vB_sa (s := 3) rfl (by decide) (by omega) (fun i i0 i1 => by omega) (by omega)) (Eq.trans (vB_kB k25.2.2.1.1 (by
                                have q9 : (gi (sx (si m17 221 35 wh) 236 x3 (gi m17 221 33)) 221 13).toInt = (gi mem 221 13).toInt := by rw [show gi (sx (si m17 221 35 wh) 236 x3 (gi m17 221 33)) 221 13 = gi m17 221 13 from ((gi_sa).trans (gi_sv_ne (by decide))), fr_gi k18.1.1.1 rfl]
                                have q8 : inI mem = 1 - bI mem := h.2.2.1
                                show 1 - inI mem = _
                                rw [q9, q8]
                                show 1 - (1 - (gi mem 221 13).toInt) = _
                                omega)) (Eq.trans (vB_sa (s := 3) rfl (by decide) (by omega) (fun i i0 i1 => by omega) (by omega)) (Eq.trans vB_sv (vB_fr k18.1.1.1 rfl))))))
        (fun x1 e2 x3 e4 y5 e6 q7 v19 m17 hm17 k18 q20 hm2 => (vB_fr k18.1.1.1 rfl))
set_option maxRecDepth 100000 in
theorem w_sv_192 {d : Nat} {mem : zM} {P : Option Value → zM → Prop} {mr : zM} {lo : List (Nat × Value)} (hm : aTm aT0 mem) (l_0 : zlg lo 0 = some (.ref 221)) (h : SI mr mem) (h8 : (gi mem 221 8).toInt = 0) (sg : ¬ (gi mem 221 3).toInt = 0) (h1 : (gi mem 221 8).toInt ≤ 0 → aTm aT0 (si (si mem 221 8 1) 221 9 (gi mem 221 4)) → P none (si (si mem 221 8 1) 221 9 (gi mem 221 4))) (h2 : 0 < (gi mem 221 8).toInt → aTm aT0 mem → P none mem) : yR zpg tX12_statement (d + 10) (192, lo, [], mem) P := by
  obtain ⟨i0, i1⟩ := mO_r34 hm
  refine wR_la rfl l_0 ?_
  refine yR_m 1 (fun _ _ _ _ => rfl) ?_
  refine wR_la rfl l_0 ?_
  refine wR_gi rfl mO_e mO_4 hm rfl ?_
  refine wR_iv rfl rfl mO_e hm rfl rfl rfl rfl ?_
  show yR zpg tX12_blame (d + 9) (0, [(0, .ref 221), (1, .int 1), (2, .int (gi mem 221 4))], [], mem) _
  refine yR_m 1 (fun _ _ _ _ => rfl) ?_
  refine wR_gi rfl mO_e mO_8 hm rfl ?_
  refine wR_if_le rfl (a := (gi mem 221 8).toInt) rfl (fun q1 => ?_) (fun q1 => ?_)
  ·
    refine yR_m 2 (fun _ _ _ _ => rfl) ?_
    refine wR_pi rfl mO_e mO_8 hm rfl ?_
    have hm_1 : aTm aT0 (si mem 221 8 1) := tm_si mO_e mO_8 hm (i32_b _)
    refine yR_m 2 (fun _ _ _ _ => rfl) ?_
    refine wR_pi rfl mO_e mO_9 hm_1 rfl ?_
    have hm_2 : aTm aT0 (si (si mem 221 8 1) 221 9 (gi mem 221 4)) := tm_si mO_e mO_9 hm_1 (i32_b _)
    refine yR_rv rfl ?_
    show yR zpg tX12_statement (d + 10) (201, lo, [], (si (si mem 221 8 1) 221 9 (gi mem 221 4))) _
    exact yR_rv rfl (h1 q1 hm_2)
  ·
    refine yR_rv rfl ?_
    show yR zpg tX12_statement (d + 10) (201, lo, [], mem) _
    exact yR_rv rfl (h2 q1 hm)

theorem sv_192 {lo : List (Nat × Value)} (hm : aTm aT0 mem) (h : SI mr mem) (h8 : (gi mem 221 8).toInt = 0) (sg : ¬ (gi mem 221 3).toInt = 0) (a0 : zlg lo 0 = some (.ref 221)) : yR zpg tX12_statement (d + 10) (192, lo, [], mem) (fun _ m => vB (1 - (gi mem 221 34).toInt) m = vB (1 - (gi mem 221 34).toInt) mem) := by
  obtain ⟨j0, j1⟩ := mO_r34 hm
  exact w_sv_192 (mr := mr) hm a0 h h8 sg
        (fun q1 hm2 => Eq.trans vB_sv vB_sv)
        (fun q1 hm2 => rfl)
set_option maxRecDepth 100000 in
theorem w_sv_174 {d : Nat} {mem : zM} {P : Option Value → zM → Prop} {mr : zM} {lo : List (Nat × Value)} (hm : aTm aT0 mem) (l_0 : zlg lo 0 = some (.ref 221)) (h : SI mr mem) (h8 : (gi mem 221 8).toInt = 0) (sg : ¬ (gi mem 221 3).toInt = 0) (h1 : ∀ (v1 : Int32), (v1.toInt = 0 ∨ (v1.toInt = 1 ∧ ¬ (gi mem 221 3).toInt = 0)) → (v1).toInt = 0 → ∀ lo, zlg lo 0 = some (.ref 221) → aTm aT0 mem → yR zpg tX12_statement (d + 10) (192, lo, [], mem) P) (h2 : ∀ (v1 : Int32), (v1.toInt = 0 ∨ (v1.toInt = 1 ∧ ¬ (gi mem 221 3).toInt = 0)) → ¬ (v1).toInt = 0 → ∀ (m4 : zM), aTm aT0 m4 → vB (1 - (gi mem 221 34).toInt) m4 = vB (1 - (gi mem 221 34).toInt) mem → aTm aT0 m4 → P none m4) : yR zpg tX12_statement (d + 10) (174, lo, [], mem) P := by
  obtain ⟨i0, i1⟩ := mO_r34 hm
  refine wR_la rfl l_0 ?_
  refine yR_m 1 (fun _ _ _ _ => rfl) ?_
  refine wR_cv rfl rfl mO_e hm rfl (c_isWord hm rfl (by omega)) ?_
  rintro _ _ ⟨v1, rfl, rfl, k2⟩
  show yR zpg tX12_statement (d + 10) (181, lo, [.int v1], mem) _
  refine wR_if_eq rfl (a := (v1).toInt) rfl (fun q3 => ?_) (fun q3 => ?_)
  ·
    exact h1 v1 k2 q3 lo l_0 hm
  ·
    refine wR_la rfl l_0 ?_
    refine yR_m 1 (fun _ _ _ _ => rfl) ?_
    refine wR_cv rfl rfl mO_e hm rfl (yC_an (h_readin5 hm h h8 sg (by decide) (by omega)) (h_readingB hm h h8 sg (by decide) (by omega))) ?_
    rintro _ m4 ⟨rfl, hI4, k5⟩
    show yR zpg tX12_statement (d + 10) (189, lo, [], m4) _
    refine yR_m 1 (fun _ _ _ _ => rfl) ?_
    exact yR_rv rfl (h2 v1 k2 q3 m4 hI4 k5 hI4)

theorem sv_174 {lo : List (Nat × Value)} (hm : aTm aT0 mem) (h : SI mr mem) (h8 : (gi mem 221 8).toInt = 0) (sg : ¬ (gi mem 221 3).toInt = 0) (a0 : zlg lo 0 = some (.ref 221)) : yR zpg tX12_statement (d + 10) (174, lo, [], mem) (fun _ m => vB (1 - (gi mem 221 34).toInt) m = vB (1 - (gi mem 221 34).toInt) mem) := by
  obtain ⟨j0, j1⟩ := mO_r34 hm
  exact w_sv_174 (mr := mr) hm a0 h h8 sg
        (fun v1 k2 q3 lo a0 hm2 => sv_192 hm h h8 sg a0)
        (fun v1 k2 q3 m4 hI4 k5 hm2 => k5)
set_option maxRecDepth 100000 in
theorem w_sv_156 {d : Nat} {mem : zM} {P : Option Value → zM → Prop} {mr : zM} {lo : List (Nat × Value)} (hm : aTm aT0 mem) (l_0 : zlg lo 0 = some (.ref 221)) (h : SI mr mem) (h8 : (gi mem 221 8).toInt = 0) (sg : ¬ (gi mem 221 3).toInt = 0) (h1 : ∀ (v1 : Int32), (v1.toInt = 0 ∨ (v1.toInt = 1 ∧ ¬ (gi mem 221 3).toInt = 0)) → (v1).toInt = 0 → ∀ lo, zlg lo 0 = some (.ref 221) → aTm aT0 mem → yR zpg tX12_statement (d + 10) (174, lo, [], mem) P) (h2 : ∀ (v1 : Int32), (v1.toInt = 0 ∨ (v1.toInt = 1 ∧ ¬ (gi mem 221 3).toInt = 0)) → ¬ (v1).toInt = 0 → ∀ (m4 : zM), aTm aT0 m4 → vB (1 - (gi mem 221 34).toInt) m4 = vB (1 - (gi mem 221 34).toInt) mem → aTm aT0 m4 → P none m4) : yR zpg tX12_statement (d + 10) (156, lo, [], mem) P := by
  obtain ⟨i0, i1⟩ := mO_r34 hm
  refine wR_la rfl l_0 ?_
  refine yR_m 1 (fun _ _ _ _ => rfl) ?_
  refine wR_cv rfl rfl mO_e hm rfl (c_isWord hm rfl (by omega)) ?_
  rintro _ _ ⟨v1, rfl, rfl, k2⟩
  show yR zpg tX12_statement (d + 10) (163, lo, [.int v1], mem) _
  refine wR_if_eq rfl (a := (v1).toInt) rfl (fun q3 => ?_) (fun q3 => ?_)
  ·
    exact h1 v1 k2 q3 lo l_0 hm
  ·
    refine wR_la rfl l_0 ?_
    refine yR_m 1 (fun _ _ _ _ => rfl) ?_
    refine wR_cv rfl rfl mO_e hm rfl (yC_an (h_readin5 hm h h8 sg (by decide) (by omega)) (h_readingB hm h h8 sg (by decide) (by omega))) ?_
    rintro _ m4 ⟨rfl, hI4, k5⟩
    show yR zpg tX12_statement (d + 10) (171, lo, [], m4) _
    refine yR_m 1 (fun _ _ _ _ => rfl) ?_
    exact yR_rv rfl (h2 v1 k2 q3 m4 hI4 k5 hI4)

theorem sv_156 {lo : List (Nat × Value)} (hm : aTm aT0 mem) (h : SI mr mem) (h8 : (gi mem 221 8).toInt = 0) (sg : ¬ (gi mem 221 3).toInt = 0) (a0 : zlg lo 0 = some (.ref 221)) : yR zpg tX12_statement (d + 10) (156, lo, [], mem) (fun _ m => vB (1 - (gi mem 221 34).toInt) m = vB (1 - (gi mem 221 34).toInt) mem) := by
  obtain ⟨j0, j1⟩ := mO_r34 hm
  exact w_sv_156 (mr := mr) hm a0 h h8 sg
        (fun v1 k2 q3 lo a0 hm2 => sv_174 hm h h8 sg a0)
        (fun v1 k2 q3 m4 hI4 k5 hm2 => k5)
set_option maxRecDepth 100000 in
theorem w_sv_138 {d : Nat} {mem : zM} {P : Option Value → zM → Prop} {mr : zM} {lo : List (Nat × Value)} (hm : aTm aT0 mem) (l_0 : zlg lo 0 = some (.ref 221)) (h : SI mr mem) (h8 : (gi mem 221 8).toInt = 0) (sg : ¬ (gi mem 221 3).toInt = 0) (h1 : ∀ (v1 : Int32), (v1.toInt = 0 ∨ (v1.toInt = 1 ∧ ¬ (gi mem 221 3).toInt = 0)) → (v1).toInt = 0 → ∀ lo, zlg lo 0 = some (.ref 221) → aTm aT0 mem → yR zpg tX12_statement (d + 10) (156, lo, [], mem) P) (h2 : ∀ (v1 : Int32), (v1.toInt = 0 ∨ (v1.toInt = 1 ∧ ¬ (gi mem 221 3).toInt = 0)) → ¬ (v1).toInt = 0 → ∀ (m4 : zM), aTm aT0 m4 → vB (1 - (gi mem 221 34).toInt) m4 = vB (1 - (gi mem 221 34).toInt) mem → aTm aT0 m4 → P none m4) : yR zpg tX12_statement (d + 10) (138, lo, [], mem) P := by
  obtain ⟨i0, i1⟩ := mO_r34 hm
  refine wR_la rfl l_0 ?_
  refine yR_m 1 (fun _ _ _ _ => rfl) ?_
  refine wR_cv rfl rfl mO_e hm rfl (c_isWord hm rfl (by omega)) ?_
  rintro _ _ ⟨v1, rfl, rfl, k2⟩
  show yR zpg tX12_statement (d + 10) (145, lo, [.int v1], mem) _
  refine wR_if_eq rfl (a := (v1).toInt) rfl (fun q3 => ?_) (fun q3 => ?_)
  ·
    exact h1 v1 k2 q3 lo l_0 hm
  ·
    refine wR_la rfl l_0 ?_
    refine yR_m 1 (fun _ _ _ _ => rfl) ?_
    refine wR_cv rfl rfl mO_e hm rfl (yC_an (h_readin5 hm h h8 sg (by decide) (by omega)) (h_readingB hm h h8 sg (by decide) (by omega))) ?_
    rintro _ m4 ⟨rfl, hI4, k5⟩
    show yR zpg tX12_statement (d + 10) (153, lo, [], m4) _
    refine yR_m 1 (fun _ _ _ _ => rfl) ?_
    exact yR_rv rfl (h2 v1 k2 q3 m4 hI4 k5 hI4)

theorem sv_138 {lo : List (Nat × Value)} (hm : aTm aT0 mem) (h : SI mr mem) (h8 : (gi mem 221 8).toInt = 0) (sg : ¬ (gi mem 221 3).toInt = 0) (a0 : zlg lo 0 = some (.ref 221)) : yR zpg tX12_statement (d + 10) (138, lo, [], mem) (fun _ m => vB (1 - (gi mem 221 34).toInt) m = vB (1 - (gi mem 221 34).toInt) mem) := by
  obtain ⟨j0, j1⟩ := mO_r34 hm
  exact w_sv_138 (mr := mr) hm a0 h h8 sg
        (fun v1 k2 q3 lo a0 hm2 => sv_156 hm h h8 sg a0)
        (fun v1 k2 q3 m4 hI4 k5 hm2 => k5)
set_option maxRecDepth 100000 in
theorem w_sv_121 {d : Nat} {mem : zM} {P : Option Value → zM → Prop} {mr : zM} {lo : List (Nat × Value)} (hm : aTm aT0 mem) (l_0 : zlg lo 0 = some (.ref 221)) (h : SI mr mem) (h8 : (gi mem 221 8).toInt = 0) (sg : ¬ (gi mem 221 3).toInt = 0) (h1 : ∀ (v1 : Int32), (v1.toInt = 0 ∨ (v1.toInt = 1 ∧ ¬ (gi mem 221 3).toInt = 0)) → (v1).toInt = 0 → ∀ lo, zlg lo 0 = some (.ref 221) → aTm aT0 mem → yR zpg tX12_statement (d + 10) (138, lo, [], mem) P) (h2 : ∀ (v1 : Int32), (v1.toInt = 0 ∨ (v1.toInt = 1 ∧ ¬ (gi mem 221 3).toInt = 0)) → ¬ (v1).toInt = 0 → ∀ (m4 : zM), aTm aT0 m4 → vB (1 - (gi mem 221 34).toInt) m4 = vB (1 - (gi mem 221 34).toInt) mem → aTm aT0 m4 → P none m4) : yR zpg tX12_statement (d + 10) (121, lo, [], mem) P := by
  obtain ⟨i0, i1⟩ := mO_r34 hm
  refine wR_la rfl l_0 ?_
  refine yR_m 1 (fun _ _ _ _ => rfl) ?_
  refine wR_cv rfl rfl mO_e hm rfl (c_isWord hm rfl (by omega)) ?_
  rintro _ _ ⟨v1, rfl, rfl, k2⟩
  show yR zpg tX12_statement (d + 10) (128, lo, [.int v1], mem) _
  refine wR_if_eq rfl (a := (v1).toInt) rfl (fun q3 => ?_) (fun q3 => ?_)
  ·
    exact h1 v1 k2 q3 lo l_0 hm
  ·
    refine wR_la rfl l_0 ?_
    refine wR_cv rfl rfl mO_e hm rfl (yC_an (h_folking hm h.2.1 sg (h.2.2.2 h8).1.1 (h.2.2.2 h8).1.2 (by omega)) (h_folkingB hm h.2.1 sg (h.2.2.2 h8).1.1 (h.2.2.2 h8).1.2 (by omega))) ?_
    rintro _ m4 ⟨rfl, hI4, k5⟩
    show yR zpg tX12_statement (d + 10) (135, lo, [], m4) _
    refine yR_m 1 (fun _ _ _ _ => rfl) ?_
    exact yR_rv rfl (h2 v1 k2 q3 m4 hI4 k5 hI4)

theorem sv_121 {lo : List (Nat × Value)} (hm : aTm aT0 mem) (h : SI mr mem) (h8 : (gi mem 221 8).toInt = 0) (sg : ¬ (gi mem 221 3).toInt = 0) (a0 : zlg lo 0 = some (.ref 221)) : yR zpg tX12_statement (d + 10) (121, lo, [], mem) (fun _ m => vB (1 - (gi mem 221 34).toInt) m = vB (1 - (gi mem 221 34).toInt) mem) := by
  obtain ⟨j0, j1⟩ := mO_r34 hm
  exact w_sv_121 (mr := mr) hm a0 h h8 sg
        (fun v1 k2 q3 lo a0 hm2 => sv_138 hm h h8 sg a0)
        (fun v1 k2 q3 m4 hI4 k5 hm2 => k5)
set_option maxRecDepth 100000 in
theorem w_sv_104 {d : Nat} {mem : zM} {P : Option Value → zM → Prop} {mr : zM} {lo : List (Nat × Value)} (hm : aTm aT0 mem) (l_0 : zlg lo 0 = some (.ref 221)) (h : SI mr mem) (h8 : (gi mem 221 8).toInt = 0) (sg : ¬ (gi mem 221 3).toInt = 0) (h1 : ∀ (v1 : Int32), (v1.toInt = 0 ∨ (v1.toInt = 1 ∧ ¬ (gi mem 221 3).toInt = 0)) → (v1).toInt = 0 → ∀ lo, zlg lo 0 = some (.ref 221) → aTm aT0 mem → yR zpg tX12_statement (d + 10) (121, lo, [], mem) P) (h2 : ∀ (v1 : Int32), (v1.toInt = 0 ∨ (v1.toInt = 1 ∧ ¬ (gi mem 221 3).toInt = 0)) → ¬ (v1).toInt = 0 → ∀ (m4 : zM), aTm aT0 m4 → vB (1 - (gi mem 221 34).toInt) m4 = vB (1 - (gi mem 221 34).toInt) mem → aTm aT0 m4 → P none m4) : yR zpg tX12_statement (d + 10) (104, lo, [], mem) P := by
  obtain ⟨i0, i1⟩ := mO_r34 hm
  refine wR_la rfl l_0 ?_
  refine yR_m 1 (fun _ _ _ _ => rfl) ?_
  refine wR_cv rfl rfl mO_e hm rfl (c_isWord hm rfl (by omega)) ?_
  rintro _ _ ⟨v1, rfl, rfl, k2⟩
  show yR zpg tX12_statement (d + 10) (111, lo, [.int v1], mem) _
  refine wR_if_eq rfl (a := (v1).toInt) rfl (fun q3 => ?_) (fun q3 => ?_)
  ·
    exact h1 v1 k2 q3 lo l_0 hm
  ·
    refine wR_la rfl l_0 ?_
    refine wR_cv rfl rfl mO_e hm rfl (yC_an (h_having hm h.2.1 sg (by omega)) (h_havingB hm h.2.1 sg (by omega))) ?_
    rintro _ m4 ⟨rfl, hI4, k5⟩
    show yR zpg tX12_statement (d + 10) (118, lo, [], m4) _
    refine yR_m 1 (fun _ _ _ _ => rfl) ?_
    exact yR_rv rfl (h2 v1 k2 q3 m4 hI4 k5 hI4)

theorem sv_104 {lo : List (Nat × Value)} (hm : aTm aT0 mem) (h : SI mr mem) (h8 : (gi mem 221 8).toInt = 0) (sg : ¬ (gi mem 221 3).toInt = 0) (a0 : zlg lo 0 = some (.ref 221)) : yR zpg tX12_statement (d + 10) (104, lo, [], mem) (fun _ m => vB (1 - (gi mem 221 34).toInt) m = vB (1 - (gi mem 221 34).toInt) mem) := by
  obtain ⟨j0, j1⟩ := mO_r34 hm
  exact w_sv_104 (mr := mr) hm a0 h h8 sg
        (fun v1 k2 q3 lo a0 hm2 => sv_121 hm h h8 sg a0)
        (fun v1 k2 q3 m4 hI4 k5 hm2 => k5)
set_option maxRecDepth 100000 in
theorem w_sv_87 {d : Nat} {mem : zM} {P : Option Value → zM → Prop} {mr : zM} {lo : List (Nat × Value)} (hm : aTm aT0 mem) (l_0 : zlg lo 0 = some (.ref 221)) (h : SI mr mem) (h8 : (gi mem 221 8).toInt = 0) (sg : ¬ (gi mem 221 3).toInt = 0) (h1 : ∀ (v1 : Int32), (v1.toInt = 0 ∨ (v1.toInt = 1 ∧ ¬ (gi mem 221 3).toInt = 0)) → (v1).toInt = 0 → ∀ lo, zlg lo 0 = some (.ref 221) → aTm aT0 mem → yR zpg tX12_statement (d + 10) (104, lo, [], mem) P) (h2 : ∀ (v1 : Int32), (v1.toInt = 0 ∨ (v1.toInt = 1 ∧ ¬ (gi mem 221 3).toInt = 0)) → ¬ (v1).toInt = 0 → ∀ (m4 : zM), aTm aT0 m4 → vB (1 - (gi mem 221 34).toInt) m4 = vB (1 - (gi mem 221 34).toInt) mem → aTm aT0 m4 → P none m4) : yR zpg tX12_statement (d + 10) (87, lo, [], mem) P := by
  obtain ⟨i0, i1⟩ := mO_r34 hm
  refine wR_la rfl l_0 ?_
  refine yR_m 1 (fun _ _ _ _ => rfl) ?_
  refine wR_cv rfl rfl mO_e hm rfl (c_isWord hm rfl (by omega)) ?_
  rintro _ _ ⟨v1, rfl, rfl, k2⟩
  show yR zpg tX12_statement (d + 10) (94, lo, [.int v1], mem) _
  refine wR_if_eq rfl (a := (v1).toInt) rfl (fun q3 => ?_) (fun q3 => ?_)
  ·
    exact h1 v1 k2 q3 lo l_0 hm
  ·
    refine wR_la rfl l_0 ?_
    refine wR_cv rfl rfl mO_e hm rfl (yC_an (h_lacking hm h.2.1 sg (h.2.2.2 h8).1.1 (h.2.2.2 h8).1.2 (by omega)) (h_lackingB hm h.2.1 sg (h.2.2.2 h8).1.1 (h.2.2.2 h8).1.2 (by omega))) ?_
    rintro _ m4 ⟨rfl, hI4, k5⟩
    show yR zpg tX12_statement (d + 10) (101, lo, [], m4) _
    refine yR_m 1 (fun _ _ _ _ => rfl) ?_
    exact yR_rv rfl (h2 v1 k2 q3 m4 hI4 k5 hI4)

theorem sv_87 {lo : List (Nat × Value)} (hm : aTm aT0 mem) (h : SI mr mem) (h8 : (gi mem 221 8).toInt = 0) (sg : ¬ (gi mem 221 3).toInt = 0) (a0 : zlg lo 0 = some (.ref 221)) : yR zpg tX12_statement (d + 10) (87, lo, [], mem) (fun _ m => vB (1 - (gi mem 221 34).toInt) m = vB (1 - (gi mem 221 34).toInt) mem) := by
  obtain ⟨j0, j1⟩ := mO_r34 hm
  exact w_sv_87 (mr := mr) hm a0 h h8 sg
        (fun v1 k2 q3 lo a0 hm2 => sv_104 hm h h8 sg a0)
        (fun v1 k2 q3 m4 hI4 k5 hm2 => k5)
set_option maxRecDepth 100000 in
theorem w_sv_70 {d : Nat} {mem : zM} {P : Option Value → zM → Prop} {mr : zM} {lo : List (Nat × Value)} (hm : aTm aT0 mem) (l_0 : zlg lo 0 = some (.ref 221)) (h : SI mr mem) (h8 : (gi mem 221 8).toInt = 0) (sg : ¬ (gi mem 221 3).toInt = 0) (h1 : ∀ (v1 : Int32), (v1.toInt = 0 ∨ (v1.toInt = 1 ∧ ¬ (gi mem 221 3).toInt = 0)) → (v1).toInt = 0 → ∀ lo, zlg lo 0 = some (.ref 221) → aTm aT0 mem → yR zpg tX12_statement (d + 10) (87, lo, [], mem) P) (h2 : ∀ (v1 : Int32), (v1.toInt = 0 ∨ (v1.toInt = 1 ∧ ¬ (gi mem 221 3).toInt = 0)) → ¬ (v1).toInt = 0 → ∀ (m4 : zM), aTm aT0 m4 → vB (1 - (gi mem 221 34).toInt) m4 = vB (1 - (gi mem 221 34).toInt) mem → aTm aT0 m4 → P none m4) : yR zpg tX12_statement (d + 10) (70, lo, [], mem) P := by
  obtain ⟨i0, i1⟩ := mO_r34 hm
  refine wR_la rfl l_0 ?_
  refine yR_m 1 (fun _ _ _ _ => rfl) ?_
  refine wR_cv rfl rfl mO_e hm rfl (c_isWord hm rfl (by omega)) ?_
  rintro _ _ ⟨v1, rfl, rfl, k2⟩
  show yR zpg tX12_statement (d + 10) (77, lo, [.int v1], mem) _
  refine wR_if_eq rfl (a := (v1).toInt) rfl (fun q3 => ?_) (fun q3 => ?_)
  ·
    exact h1 v1 k2 q3 lo l_0 hm
  ·
    refine wR_la rfl l_0 ?_
    refine wR_cv rfl rfl mO_e hm rfl (yC_an (h_walling hm h.2.1 sg (h.2.2.2 h8).1.1 (h.2.2.2 h8).1.2 (by omega)) (h_wallingB hm h.2.1 sg (h.2.2.2 h8).1.1 (h.2.2.2 h8).1.2 (by omega))) ?_
    rintro _ m4 ⟨rfl, hI4, k5⟩
    show yR zpg tX12_statement (d + 10) (84, lo, [], m4) _
    refine yR_m 1 (fun _ _ _ _ => rfl) ?_
    exact yR_rv rfl (h2 v1 k2 q3 m4 hI4 k5 hI4)

theorem sv_70 {lo : List (Nat × Value)} (hm : aTm aT0 mem) (h : SI mr mem) (h8 : (gi mem 221 8).toInt = 0) (sg : ¬ (gi mem 221 3).toInt = 0) (a0 : zlg lo 0 = some (.ref 221)) : yR zpg tX12_statement (d + 10) (70, lo, [], mem) (fun _ m => vB (1 - (gi mem 221 34).toInt) m = vB (1 - (gi mem 221 34).toInt) mem) := by
  obtain ⟨j0, j1⟩ := mO_r34 hm
  exact w_sv_70 (mr := mr) hm a0 h h8 sg
        (fun v1 k2 q3 lo a0 hm2 => sv_87 hm h h8 sg a0)
        (fun v1 k2 q3 m4 hI4 k5 hm2 => k5)
set_option maxRecDepth 100000 in
theorem w_sv_41 {d : Nat} {mem : zM} {P : Option Value → zM → Prop} {mr : zM} {lo : List (Nat × Value)} (hm : aTm aT0 mem) (l_0 : zlg lo 0 = some (.ref 221)) (h : SI mr mem) (h8 : (gi mem 221 8).toInt = 0) (sg : ¬ (gi mem 221 3).toInt = 0) (h1 : ∀ (v1 : Int32), (v1.toInt = 0 ∨ (v1.toInt = 1 ∧ ¬ (gi mem 221 3).toInt = 0)) → (v1).toInt = 0 → ∀ lo, zlg lo 0 = some (.ref 221) → aTm aT0 mem → yR zpg tX12_statement (d + 10) (70, lo, [], mem) P) (h2 : ∀ (v1 : Int32), (v1.toInt = 0 ∨ (v1.toInt = 1 ∧ ¬ (gi mem 221 3).toInt = 0)) → ¬ (v1).toInt = 0 → ∀ (v6 : Int32) (m4 : zM), aTm aT0 m4 → stQ [] mem m4 → aTm aT0 (sx m4 226 (gi mem 221 34) v6) → P none (sx m4 226 (gi mem 221 34) v6)) : yR zpg tX12_statement (d + 10) (41, lo, [], mem) P := by
  obtain ⟨i0, i1⟩ := mO_r34 hm
  refine wR_la rfl l_0 ?_
  refine yR_m 1 (fun _ _ _ _ => rfl) ?_
  refine wR_cv rfl rfl mO_e hm rfl (c_isWord hm rfl (by omega)) ?_
  rintro _ _ ⟨v1, rfl, rfl, k2⟩
  show yR zpg tX12_statement (d + 10) (48, lo, [.int v1], mem) _
  refine wR_if_eq rfl (a := (v1).toInt) rfl (fun q3 => ?_) (fun q3 => ?_)
  ·
    exact h1 v1 k2 q3 lo l_0 hm
  ·
    refine wR_la rfl l_0 ?_
    refine wR_gr rfl mO_e mO_17 hm ?_
    refine wR_la rfl l_0 ?_
    refine wR_gi rfl mO_e mO_34 hm rfl ?_
    refine wR_la rfl l_0 ?_
    refine yR_m 2 (fun _ _ _ _ => rfl) ?_
    refine wR_cv rfl rfl mO_e hm rfl (h_telling hm h.2.1 sg (by omega)) ?_
    rintro _ m4 ⟨v6, rfl, hm4, k5⟩
    show yR zpg tX12_statement (d + 10) (66, lo, [.int v6, .int (gi mem 221 34), .ref 226], m4) _
    refine wN_as (a := (gi mem 221 34).toInt) rfl aR_226 hm4 rfl (by omega) ?_
    have hm_1 : aTm aT0 (sx m4 226 (gi mem 221 34) v6) := tm_sa aR_226 hm4 (i32_b _)
    refine yR_m 1 (fun _ _ _ _ => rfl) ?_
    exact yR_rv rfl (h2 v1 k2 q3 v6 m4 hm4 k5 hm_1)

theorem sv_41 {lo : List (Nat × Value)} (hm : aTm aT0 mem) (h : SI mr mem) (h8 : (gi mem 221 8).toInt = 0) (sg : ¬ (gi mem 221 3).toInt = 0) (a0 : zlg lo 0 = some (.ref 221)) : yR zpg tX12_statement (d + 10) (41, lo, [], mem) (fun _ m => vB (1 - (gi mem 221 34).toInt) m = vB (1 - (gi mem 221 34).toInt) mem) := by
  obtain ⟨j0, j1⟩ := mO_r34 hm
  exact w_sv_41 (mr := mr) hm a0 h h8 sg
        (fun v1 k2 q3 lo a0 hm2 => sv_70 hm h h8 sg a0)
        (fun v1 k2 q3 v6 m4 hm4 k5 hm2 => by
          have e34 : (gi m4 221 34).toInt = (gi mem 221 34).toInt := by rw [fr_gi k5.1 rfl]
          exact Eq.trans (vB_sa (s := 1) rfl (by decide) (by omega) (fun i i0 i1 => by omega) (by omega)) (vB_fr k5.1 rfl))
set_option maxRecDepth 100000 in
theorem w_sv_12 {d : Nat} {mem : zM} {P : Option Value → zM → Prop} {mr : zM} {lo : List (Nat × Value)} (hm : aTm aT0 mem) (l_0 : zlg lo 0 = some (.ref 221)) (h : SI mr mem) (h8 : (gi mem 221 8).toInt = 0) (sg : ¬ (gi mem 221 3).toInt = 0) (h1 : ∀ (v1 : Int32), (v1.toInt = 0 ∨ (v1.toInt = 1 ∧ ¬ (gi mem 221 3).toInt = 0)) → (v1).toInt = 0 → ∀ lo, zlg lo 0 = some (.ref 221) → aTm aT0 mem → yR zpg tX12_statement (d + 10) (41, lo, [], mem) P) (h2 : ∀ (v1 : Int32), (v1.toInt = 0 ∨ (v1.toInt = 1 ∧ ¬ (gi mem 221 3).toInt = 0)) → ¬ (v1).toInt = 0 → ∀ (v6 : Int32) (m4 : zM), aTm aT0 m4 → stQ [] mem m4 → aTm aT0 (sx m4 225 (gi mem 221 34) v6) → P none (sx m4 225 (gi mem 221 34) v6)) : yR zpg tX12_statement (d + 10) (12, lo, [], mem) P := by
  obtain ⟨i0, i1⟩ := mO_r34 hm
  refine wR_la rfl l_0 ?_
  refine yR_m 1 (fun _ _ _ _ => rfl) ?_
  refine wR_cv rfl rfl mO_e hm rfl (c_isWord hm rfl (by omega)) ?_
  rintro _ _ ⟨v1, rfl, rfl, k2⟩
  show yR zpg tX12_statement (d + 10) (19, lo, [.int v1], mem) _
  refine wR_if_eq rfl (a := (v1).toInt) rfl (fun q3 => ?_) (fun q3 => ?_)
  ·
    exact h1 v1 k2 q3 lo l_0 hm
  ·
    refine wR_la rfl l_0 ?_
    refine wR_gr rfl mO_e mO_16 hm ?_
    refine wR_la rfl l_0 ?_
    refine wR_gi rfl mO_e mO_34 hm rfl ?_
    refine wR_la rfl l_0 ?_
    refine yR_m 2 (fun _ _ _ _ => rfl) ?_
    refine wR_cv rfl rfl mO_e hm rfl (h_telling hm h.2.1 sg (by omega)) ?_
    rintro _ m4 ⟨v6, rfl, hm4, k5⟩
    show yR zpg tX12_statement (d + 10) (37, lo, [.int v6, .int (gi mem 221 34), .ref 225], m4) _
    refine wN_as (a := (gi mem 221 34).toInt) rfl aR_225 hm4 rfl (by omega) ?_
    have hm_1 : aTm aT0 (sx m4 225 (gi mem 221 34) v6) := tm_sa aR_225 hm4 (i32_b _)
    refine yR_m 1 (fun _ _ _ _ => rfl) ?_
    exact yR_rv rfl (h2 v1 k2 q3 v6 m4 hm4 k5 hm_1)

theorem sv_12 {lo : List (Nat × Value)} (hm : aTm aT0 mem) (h : SI mr mem) (h8 : (gi mem 221 8).toInt = 0) (sg : ¬ (gi mem 221 3).toInt = 0) (a0 : zlg lo 0 = some (.ref 221)) : yR zpg tX12_statement (d + 10) (12, lo, [], mem) (fun _ m => vB (1 - (gi mem 221 34).toInt) m = vB (1 - (gi mem 221 34).toInt) mem) := by
  obtain ⟨j0, j1⟩ := mO_r34 hm
  exact w_sv_12 (mr := mr) hm a0 h h8 sg
        (fun v1 k2 q3 lo a0 hm2 => sv_41 hm h h8 sg a0)
        (fun v1 k2 q3 v6 m4 hm4 k5 hm2 => by
          have e34 : (gi m4 221 34).toInt = (gi mem 221 34).toInt := by rw [fr_gi k5.1 rfl]
          exact Eq.trans (vB_sa (s := 1) rfl (by decide) (by omega) (fun i i0 i1 => by omega) (by omega)) (vB_fr k5.1 rfl))
set_option maxRecDepth 100000 in
theorem w_sv_0 {d : Nat} {mem : zM} {P : Option Value → zM → Prop} {mr : zM} {lo : List (Nat × Value)} (hm : aTm aT0 mem) (l_0 : zlg lo 0 = some (.ref 221)) (h : SI mr mem) (h8 : (gi mem 221 8).toInt = 0) (sg : ¬ (gi mem 221 3).toInt = 0) (h1 : (gi mem 221 12).toInt = (-1) → (gi mem 221 8).toInt ≤ 0 → ∀ lo, zlg lo 0 = some (.ref 221) → aTm aT0 mem → yR zpg tX12_statement (d + 10) (12, lo, [], mem) P) (h2 : (gi mem 221 12).toInt = (-1) → 0 < (gi mem 221 8).toInt → aTm aT0 mem → P none mem) (h3 : ¬ (gi mem 221 12).toInt = (-1) → (gi mem 221 8).toInt ≤ 0 → aTm aT0 (si (si mem 221 8 1) 221 9 (gi mem 221 12)) → P none (si (si mem 221 8 1) 221 9 (gi mem 221 12))) (h4 : ¬ (gi mem 221 12).toInt = (-1) → 0 < (gi mem 221 8).toInt → aTm aT0 mem → P none mem) : yR zpg tX12_statement (d + 10) (0, lo, [], mem) P := by
  obtain ⟨i0, i1⟩ := mO_r34 hm
  refine wR_la rfl l_0 ?_
  refine wR_iv rfl rfl mO_e hm rfl rfl rfl rfl ?_
  show yR zpg tX12_lex (d + 9) (0, [(0, .ref 221)], [], mem) _
  refine yR_m 1 (fun _ _ _ _ => rfl) ?_
  refine wR_gi rfl mO_e mO_12 hm rfl ?_
  refine yR_m 1 (fun _ _ _ _ => rfl) ?_
  refine wR_ic_eq rfl (a := (gi mem 221 12).toInt) (c := (-1)) rfl tm1 (fun q1 => ?_) (fun q1 => ?_)
  ·
    refine yR_rv rfl ?_
    show yR zpg tX12_statement (d + 10) (4, lo, [], mem) _
    refine wR_la rfl l_0 ?_
    refine wR_gi rfl mO_e mO_8 hm rfl ?_
    refine wR_if_le rfl (a := (gi mem 221 8).toInt) rfl (fun q2 => ?_) (fun q2 => ?_)
    ·
      exact h1 q1 q2 lo l_0 hm
    ·
      exact yR_rv rfl (h2 q1 q2 hm)
  ·
    refine yR_m 3 (fun _ _ _ _ => rfl) ?_
    refine wR_gi rfl mO_e mO_12 hm rfl ?_
    refine wR_iv rfl rfl mO_e hm rfl rfl rfl rfl ?_
    show yR zpg tX12_blame (d + 8) (0, [(0, .ref 221), (1, .int 1), (2, .int (gi mem 221 12))], [], mem) _
    refine yR_m 1 (fun _ _ _ _ => rfl) ?_
    refine wR_gi rfl mO_e mO_8 hm rfl ?_
    refine wR_if_le rfl (a := (gi mem 221 8).toInt) rfl (fun q3 => ?_) (fun q3 => ?_)
    ·
      refine yR_m 2 (fun _ _ _ _ => rfl) ?_
      refine wR_pi rfl mO_e mO_8 hm rfl ?_
      have hm_1 : aTm aT0 (si mem 221 8 1) := tm_si mO_e mO_8 hm (i32_b _)
      refine yR_m 2 (fun _ _ _ _ => rfl) ?_
      refine wR_pi rfl mO_e mO_9 hm_1 rfl ?_
      have hm_2 : aTm aT0 (si (si mem 221 8 1) 221 9 (gi mem 221 12)) := tm_si mO_e mO_9 hm_1 (i32_b _)
      refine yR_rv rfl ?_
      show yR zpg tX12_lex (d + 9) (17, [(0, .ref 221)], [], (si (si mem 221 8 1) 221 9 (gi mem 221 12))) _
      refine yR_rv rfl ?_
      show yR zpg tX12_statement (d + 10) (4, lo, [], (si (si mem 221 8 1) 221 9 (gi mem 221 12))) _
      refine wR_la rfl l_0 ?_
      refine wR_gi rfl mO_e mO_8 hm_2 ((gi_sv_ne (by decide)).trans (gi_si_eq mO_e mO_8 hm)) ?_
      refine wR_if_le rfl (a := 1) rfl (fun q => by exfalso; omega) (fun _ => ?_)
      exact yR_rv rfl (h3 q1 q3 hm_2)
    ·
      refine yR_rv rfl ?_
      show yR zpg tX12_lex (d + 9) (17, [(0, .ref 221)], [], mem) _
      refine yR_rv rfl ?_
      show yR zpg tX12_statement (d + 10) (4, lo, [], mem) _
      refine wR_la rfl l_0 ?_
      refine wR_gi rfl mO_e mO_8 hm rfl ?_
      refine wR_if_le rfl (a := (gi mem 221 8).toInt) rfl (fun q => by exfalso; omega) (fun _ => ?_)
      exact yR_rv rfl (h4 q1 q3 hm)

theorem sv_0 {lo : List (Nat × Value)} (hm : aTm aT0 mem) (h : SI mr mem) (h8 : (gi mem 221 8).toInt = 0) (sg : ¬ (gi mem 221 3).toInt = 0) (a0 : zlg lo 0 = some (.ref 221)) : yR zpg tX12_statement (d + 10) (0, lo, [], mem) (fun _ m => vB (1 - (gi mem 221 34).toInt) m = vB (1 - (gi mem 221 34).toInt) mem) := by
  obtain ⟨j0, j1⟩ := mO_r34 hm
  exact w_sv_0 (mr := mr) hm a0 h h8 sg
        (fun q1 q2 lo a0 hm2 => sv_12 hm h h8 sg a0)
        (fun q1 q2 hm2 => rfl)
        (fun q1 q3 hm2 => Eq.trans vB_sv vB_sv)
        (fun q1 q3 hm2 => rfl)
theorem h_staB (hm : aTm aT0 mem) (h : SI mr mem) (h8 : (gi mem 221 8).toInt = 0) (sg : ¬ (gi mem 221 3).toInt = 0) (hd : 11 ≤ d) : yC zpg d 204 [.ref 221] mem (fun _ m => vB (1 - (gi mem 221 34).toInt) m = vB (1 - (gi mem 221 34).toInt) mem) := by
  obtain ⟨d, rfl⟩ : ∃ q, d = q + 11 := ⟨d - 11, by omega⟩
  refine yC_of (t := tX12_statement) rfl rfl ?_
  exact sv_0 hm h h8 sg rfl
end VB
