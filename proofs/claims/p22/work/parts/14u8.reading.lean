/-! reading -/
section RG
variable {d : Nat} {mr mem : zM}
def rdc (m : zM) : Prop := tOK m ∧ inI m = 1 - bI m ∧ ((gi m 221 8).toInt = 0 → 0 ≤ (gi m 221 33).toInt ∧ (gi m 221 33).toInt < (gi m 221 4).toInt)
theorem h_reads5 {ts : Int32} (hm : aTm aT0 mem) (h : rdc mem) (hd : 8 ≤ d) : yC zpg d 190 [.ref 221, .int ts] mem (fun r m => r = none ∧ aTm aT0 m ∧ rdP mem (gi mem 221 33).toInt (gi mem 221 4).toInt none m) :=
  yC_mono (fun r m q => ⟨q.1, q.2.1, rfl, q.2⟩) (h_reads_m hm h.1 h.2.1 h.2.2 hd)
set_option maxRecDepth 100000 in
theorem w_reading {d : Nat} {mem : zM} {P : Option Value → zM → Prop} {wh : Int32} (hm : aTm aT0 mem) (hT : tOK mem) (sg : ¬ (gi mem 221 3).toInt = 0) (hw : 0 ≤ wh.toInt ∧ wh.toInt ≤ 2) (s1 : ∀ (x1 : Int32), x1.toInt = (3 * (gi mem 221 34).toInt) → ∀ (x3 : Int32), x3.toInt = ((3 * (gi mem 221 34).toInt) + (wh).toInt) → ∀ (y5 : Int32), y5.toInt = (gn (ga mem 236) ((3 * (gi mem 221 34).toInt) + (wh).toInt)) → (gn (ga mem 236) ((3 * (gi mem 221 34).toInt) + (wh).toInt)) = (-1) → ∀ (v10 : Int32) (m8 : zM), aTm aT0 m8 → ((tQ mem m8 ∧ ((v10.toInt = 0 ∧ 1 ≤ (gi m8 221 8).toInt) ∨ (¬ v10.toInt = 0 ∧ (gi m8 221 8).toInt = 0 ∧ (0 : Int) = 0))) ∧ ((¬ (gi m8 221 8).toInt = 0 ∨ (gi mem 221 8).toInt = 0) ∧ 0 ≤ (gi m8 221 8).toInt ∧ (gi m8 221 34).toInt = (gi mem 221 34).toInt ∧ gn (ga m8 223) (gi m8 221 34).toInt = gn (ga mem 223) (gi mem 221 34).toInt ∧ gn (ga m8 224) (gi m8 221 34).toInt = gn (ga mem 224) (gi mem 221 34).toInt ∧ gn (ga m8 228) (gi m8 221 34).toInt = gn (ga mem 228) (gi mem 221 34).toInt ∧ gn (ga m8 233) (gi m8 221 34).toInt = gn (ga mem 233) (gi mem 221 34).toInt)) → ¬ (v10).toInt = 0 → (wh).toInt = 0 → rdc (sx (si m8 221 35 wh) 236 x3 (gi m8 221 33))) (h1 : ∀ (x1 : Int32), x1.toInt = (3 * (gi mem 221 34).toInt) → ∀ (x3 : Int32), x3.toInt = ((3 * (gi mem 221 34).toInt) + (wh).toInt) → ∀ (y5 : Int32), y5.toInt = (gn (ga mem 236) ((3 * (gi mem 221 34).toInt) + (wh).toInt)) → (gn (ga mem 236) ((3 * (gi mem 221 34).toInt) + (wh).toInt)) = (-1) → ∀ (v10 : Int32) (m8 : zM), aTm aT0 m8 → ((tQ mem m8 ∧ ((v10.toInt = 0 ∧ 1 ≤ (gi m8 221 8).toInt) ∨ (¬ v10.toInt = 0 ∧ (gi m8 221 8).toInt = 0 ∧ (0 : Int) = 0))) ∧ ((¬ (gi m8 221 8).toInt = 0 ∨ (gi mem 221 8).toInt = 0) ∧ 0 ≤ (gi m8 221 8).toInt ∧ (gi m8 221 34).toInt = (gi mem 221 34).toInt ∧ gn (ga m8 223) (gi m8 221 34).toInt = gn (ga mem 223) (gi mem 221 34).toInt ∧ gn (ga m8 224) (gi m8 221 34).toInt = gn (ga mem 224) (gi mem 221 34).toInt ∧ gn (ga m8 228) (gi m8 221 34).toInt = gn (ga mem 228) (gi mem 221 34).toInt ∧ gn (ga m8 233) (gi m8 221 34).toInt = gn (ga mem 233) (gi mem 221 34).toInt)) → ¬ (v10).toInt = 0 → (wh).toInt = 0 → ∀ (m13 : zM), aTm aT0 m13 → rdP (sx (si m8 221 35 wh) 236 x3 (gi m8 221 33)) (gi (sx (si m8 221 35 wh) 236 x3 (gi m8 221 33)) 221 33).toInt (gi (sx (si m8 221 35 wh) 236 x3 (gi m8 221 33)) 221 4).toInt none m13 → aTm aT0 (sx m13 237 x3 (gi m13 221 33)) → P none (sx m13 237 x3 (gi m13 221 33))) (s2 : ∀ (x1 : Int32), x1.toInt = (3 * (gi mem 221 34).toInt) → ∀ (x3 : Int32), x3.toInt = ((3 * (gi mem 221 34).toInt) + (wh).toInt) → ∀ (y5 : Int32), y5.toInt = (gn (ga mem 236) ((3 * (gi mem 221 34).toInt) + (wh).toInt)) → (gn (ga mem 236) ((3 * (gi mem 221 34).toInt) + (wh).toInt)) = (-1) → ∀ (v10 : Int32) (m8 : zM), aTm aT0 m8 → ((tQ mem m8 ∧ ((v10.toInt = 0 ∧ 1 ≤ (gi m8 221 8).toInt) ∨ (¬ v10.toInt = 0 ∧ (gi m8 221 8).toInt = 0 ∧ (0 : Int) = 0))) ∧ ((¬ (gi m8 221 8).toInt = 0 ∨ (gi mem 221 8).toInt = 0) ∧ 0 ≤ (gi m8 221 8).toInt ∧ (gi m8 221 34).toInt = (gi mem 221 34).toInt ∧ gn (ga m8 223) (gi m8 221 34).toInt = gn (ga mem 223) (gi mem 221 34).toInt ∧ gn (ga m8 224) (gi m8 221 34).toInt = gn (ga mem 224) (gi mem 221 34).toInt ∧ gn (ga m8 228) (gi m8 221 34).toInt = gn (ga mem 228) (gi mem 221 34).toInt ∧ gn (ga m8 233) (gi m8 221 34).toInt = gn (ga mem 233) (gi mem 221 34).toInt)) → ¬ (v10).toInt = 0 → ¬ (wh).toInt = 0 → rdc (sx (si m8 221 35 wh) 236 x3 (gi m8 221 33))) (h2 : ∀ (x1 : Int32), x1.toInt = (3 * (gi mem 221 34).toInt) → ∀ (x3 : Int32), x3.toInt = ((3 * (gi mem 221 34).toInt) + (wh).toInt) → ∀ (y5 : Int32), y5.toInt = (gn (ga mem 236) ((3 * (gi mem 221 34).toInt) + (wh).toInt)) → (gn (ga mem 236) ((3 * (gi mem 221 34).toInt) + (wh).toInt)) = (-1) → ∀ (v10 : Int32) (m8 : zM), aTm aT0 m8 → ((tQ mem m8 ∧ ((v10.toInt = 0 ∧ 1 ≤ (gi m8 221 8).toInt) ∨ (¬ v10.toInt = 0 ∧ (gi m8 221 8).toInt = 0 ∧ (0 : Int) = 0))) ∧ ((¬ (gi m8 221 8).toInt = 0 ∨ (gi mem 221 8).toInt = 0) ∧ 0 ≤ (gi m8 221 8).toInt ∧ (gi m8 221 34).toInt = (gi mem 221 34).toInt ∧ gn (ga m8 223) (gi m8 221 34).toInt = gn (ga mem 223) (gi mem 221 34).toInt ∧ gn (ga m8 224) (gi m8 221 34).toInt = gn (ga mem 224) (gi mem 221 34).toInt ∧ gn (ga m8 228) (gi m8 221 34).toInt = gn (ga mem 228) (gi mem 221 34).toInt ∧ gn (ga m8 233) (gi m8 221 34).toInt = gn (ga mem 233) (gi mem 221 34).toInt)) → ¬ (v10).toInt = 0 → ¬ (wh).toInt = 0 → ∀ (m15 : zM), aTm aT0 m15 → rdP (sx (si m8 221 35 wh) 236 x3 (gi m8 221 33)) (gi (sx (si m8 221 35 wh) 236 x3 (gi m8 221 33)) 221 33).toInt (gi (sx (si m8 221 35 wh) 236 x3 (gi m8 221 33)) 221 4).toInt none m15 → aTm aT0 (sx m15 237 x3 (gi m15 221 33)) → P none (sx m15 237 x3 (gi m15 221 33))) (h3 : ∀ (x1 : Int32), x1.toInt = (3 * (gi mem 221 34).toInt) → ∀ (x3 : Int32), x3.toInt = ((3 * (gi mem 221 34).toInt) + (wh).toInt) → ∀ (y5 : Int32), y5.toInt = (gn (ga mem 236) ((3 * (gi mem 221 34).toInt) + (wh).toInt)) → (gn (ga mem 236) ((3 * (gi mem 221 34).toInt) + (wh).toInt)) = (-1) → ∀ (v10 : Int32) (m8 : zM), aTm aT0 m8 → ((tQ mem m8 ∧ ((v10.toInt = 0 ∧ 1 ≤ (gi m8 221 8).toInt) ∨ (¬ v10.toInt = 0 ∧ (gi m8 221 8).toInt = 0 ∧ (0 : Int) = 0))) ∧ ((¬ (gi m8 221 8).toInt = 0 ∨ (gi mem 221 8).toInt = 0) ∧ 0 ≤ (gi m8 221 8).toInt ∧ (gi m8 221 34).toInt = (gi mem 221 34).toInt ∧ gn (ga m8 223) (gi m8 221 34).toInt = gn (ga mem 223) (gi mem 221 34).toInt ∧ gn (ga m8 224) (gi m8 221 34).toInt = gn (ga mem 224) (gi mem 221 34).toInt ∧ gn (ga m8 228) (gi m8 221 34).toInt = gn (ga mem 228) (gi mem 221 34).toInt ∧ gn (ga m8 233) (gi m8 221 34).toInt = gn (ga mem 233) (gi mem 221 34).toInt)) → (v10).toInt = 0 → aTm aT0 m8 → P none m8) (s3 : ∀ (x1 : Int32), x1.toInt = (3 * (gi mem 221 34).toInt) → ∀ (x3 : Int32), x3.toInt = ((3 * (gi mem 221 34).toInt) + (wh).toInt) → ∀ (y5 : Int32), y5.toInt = (gn (ga mem 236) ((3 * (gi mem 221 34).toInt) + (wh).toInt)) → ¬ (gn (ga mem 236) ((3 * (gi mem 221 34).toInt) + (wh).toInt)) = (-1) → ∀ (v19 : Int32) (m17 : zM), aTm aT0 m17 → ((tQ mem m17 ∧ ((v19.toInt = 0 ∧ 1 ≤ (gi m17 221 8).toInt) ∨ (¬ v19.toInt = 0 ∧ (gi m17 221 8).toInt = 0 ∧ (1 : Int) = 0))) ∧ ((¬ (gi m17 221 8).toInt = 0 ∨ (gi mem 221 8).toInt = 0) ∧ 0 ≤ (gi m17 221 8).toInt ∧ (gi m17 221 34).toInt = (gi mem 221 34).toInt ∧ gn (ga m17 223) (gi m17 221 34).toInt = gn (ga mem 223) (gi mem 221 34).toInt ∧ gn (ga m17 224) (gi m17 221 34).toInt = gn (ga mem 224) (gi mem 221 34).toInt ∧ gn (ga m17 228) (gi m17 221 34).toInt = gn (ga mem 228) (gi mem 221 34).toInt ∧ gn (ga m17 233) (gi m17 221 34).toInt = gn (ga mem 233) (gi mem 221 34).toInt)) → ¬ (v19).toInt = 0 → (wh).toInt = 0 → rdc (sx (si m17 221 35 wh) 236 x3 (gi m17 221 33))) (h4 : ∀ (x1 : Int32), x1.toInt = (3 * (gi mem 221 34).toInt) → ∀ (x3 : Int32), x3.toInt = ((3 * (gi mem 221 34).toInt) + (wh).toInt) → ∀ (y5 : Int32), y5.toInt = (gn (ga mem 236) ((3 * (gi mem 221 34).toInt) + (wh).toInt)) → ¬ (gn (ga mem 236) ((3 * (gi mem 221 34).toInt) + (wh).toInt)) = (-1) → ∀ (v19 : Int32) (m17 : zM), aTm aT0 m17 → ((tQ mem m17 ∧ ((v19.toInt = 0 ∧ 1 ≤ (gi m17 221 8).toInt) ∨ (¬ v19.toInt = 0 ∧ (gi m17 221 8).toInt = 0 ∧ (1 : Int) = 0))) ∧ ((¬ (gi m17 221 8).toInt = 0 ∨ (gi mem 221 8).toInt = 0) ∧ 0 ≤ (gi m17 221 8).toInt ∧ (gi m17 221 34).toInt = (gi mem 221 34).toInt ∧ gn (ga m17 223) (gi m17 221 34).toInt = gn (ga mem 223) (gi mem 221 34).toInt ∧ gn (ga m17 224) (gi m17 221 34).toInt = gn (ga mem 224) (gi mem 221 34).toInt ∧ gn (ga m17 228) (gi m17 221 34).toInt = gn (ga mem 228) (gi mem 221 34).toInt ∧ gn (ga m17 233) (gi m17 221 34).toInt = gn (ga mem 233) (gi mem 221 34).toInt)) → ¬ (v19).toInt = 0 → (wh).toInt = 0 → ∀ (m22 : zM), aTm aT0 m22 → rdP (sx (si m17 221 35 wh) 236 x3 (gi m17 221 33)) (gi (sx (si m17 221 35 wh) 236 x3 (gi m17 221 33)) 221 33).toInt (gi (sx (si m17 221 35 wh) 236 x3 (gi m17 221 33)) 221 4).toInt none m22 → aTm aT0 (sx m22 237 x3 (gi m22 221 33)) → P none (sx m22 237 x3 (gi m22 221 33))) (s4 : ∀ (x1 : Int32), x1.toInt = (3 * (gi mem 221 34).toInt) → ∀ (x3 : Int32), x3.toInt = ((3 * (gi mem 221 34).toInt) + (wh).toInt) → ∀ (y5 : Int32), y5.toInt = (gn (ga mem 236) ((3 * (gi mem 221 34).toInt) + (wh).toInt)) → ¬ (gn (ga mem 236) ((3 * (gi mem 221 34).toInt) + (wh).toInt)) = (-1) → ∀ (v19 : Int32) (m17 : zM), aTm aT0 m17 → ((tQ mem m17 ∧ ((v19.toInt = 0 ∧ 1 ≤ (gi m17 221 8).toInt) ∨ (¬ v19.toInt = 0 ∧ (gi m17 221 8).toInt = 0 ∧ (1 : Int) = 0))) ∧ ((¬ (gi m17 221 8).toInt = 0 ∨ (gi mem 221 8).toInt = 0) ∧ 0 ≤ (gi m17 221 8).toInt ∧ (gi m17 221 34).toInt = (gi mem 221 34).toInt ∧ gn (ga m17 223) (gi m17 221 34).toInt = gn (ga mem 223) (gi mem 221 34).toInt ∧ gn (ga m17 224) (gi m17 221 34).toInt = gn (ga mem 224) (gi mem 221 34).toInt ∧ gn (ga m17 228) (gi m17 221 34).toInt = gn (ga mem 228) (gi mem 221 34).toInt ∧ gn (ga m17 233) (gi m17 221 34).toInt = gn (ga mem 233) (gi mem 221 34).toInt)) → ¬ (v19).toInt = 0 → ¬ (wh).toInt = 0 → rdc (sx (si m17 221 35 wh) 236 x3 (gi m17 221 33))) (h5 : ∀ (x1 : Int32), x1.toInt = (3 * (gi mem 221 34).toInt) → ∀ (x3 : Int32), x3.toInt = ((3 * (gi mem 221 34).toInt) + (wh).toInt) → ∀ (y5 : Int32), y5.toInt = (gn (ga mem 236) ((3 * (gi mem 221 34).toInt) + (wh).toInt)) → ¬ (gn (ga mem 236) ((3 * (gi mem 221 34).toInt) + (wh).toInt)) = (-1) → ∀ (v19 : Int32) (m17 : zM), aTm aT0 m17 → ((tQ mem m17 ∧ ((v19.toInt = 0 ∧ 1 ≤ (gi m17 221 8).toInt) ∨ (¬ v19.toInt = 0 ∧ (gi m17 221 8).toInt = 0 ∧ (1 : Int) = 0))) ∧ ((¬ (gi m17 221 8).toInt = 0 ∨ (gi mem 221 8).toInt = 0) ∧ 0 ≤ (gi m17 221 8).toInt ∧ (gi m17 221 34).toInt = (gi mem 221 34).toInt ∧ gn (ga m17 223) (gi m17 221 34).toInt = gn (ga mem 223) (gi mem 221 34).toInt ∧ gn (ga m17 224) (gi m17 221 34).toInt = gn (ga mem 224) (gi mem 221 34).toInt ∧ gn (ga m17 228) (gi m17 221 34).toInt = gn (ga mem 228) (gi mem 221 34).toInt ∧ gn (ga m17 233) (gi m17 221 34).toInt = gn (ga mem 233) (gi mem 221 34).toInt)) → ¬ (v19).toInt = 0 → ¬ (wh).toInt = 0 → ∀ (m24 : zM), aTm aT0 m24 → rdP (sx (si m17 221 35 wh) 236 x3 (gi m17 221 33)) (gi (sx (si m17 221 35 wh) 236 x3 (gi m17 221 33)) 221 33).toInt (gi (sx (si m17 221 35 wh) 236 x3 (gi m17 221 33)) 221 4).toInt none m24 → aTm aT0 (sx m24 237 x3 (gi m24 221 33)) → P none (sx m24 237 x3 (gi m24 221 33))) (h6 : ∀ (x1 : Int32), x1.toInt = (3 * (gi mem 221 34).toInt) → ∀ (x3 : Int32), x3.toInt = ((3 * (gi mem 221 34).toInt) + (wh).toInt) → ∀ (y5 : Int32), y5.toInt = (gn (ga mem 236) ((3 * (gi mem 221 34).toInt) + (wh).toInt)) → ¬ (gn (ga mem 236) ((3 * (gi mem 221 34).toInt) + (wh).toInt)) = (-1) → ∀ (v19 : Int32) (m17 : zM), aTm aT0 m17 → ((tQ mem m17 ∧ ((v19.toInt = 0 ∧ 1 ≤ (gi m17 221 8).toInt) ∨ (¬ v19.toInt = 0 ∧ (gi m17 221 8).toInt = 0 ∧ (1 : Int) = 0))) ∧ ((¬ (gi m17 221 8).toInt = 0 ∨ (gi mem 221 8).toInt = 0) ∧ 0 ≤ (gi m17 221 8).toInt ∧ (gi m17 221 34).toInt = (gi mem 221 34).toInt ∧ gn (ga m17 223) (gi m17 221 34).toInt = gn (ga mem 223) (gi mem 221 34).toInt ∧ gn (ga m17 224) (gi m17 221 34).toInt = gn (ga mem 224) (gi mem 221 34).toInt ∧ gn (ga m17 228) (gi m17 221 34).toInt = gn (ga mem 228) (gi mem 221 34).toInt ∧ gn (ga m17 233) (gi m17 221 34).toInt = gn (ga mem 233) (gi mem 221 34).toInt)) → (v19).toInt = 0 → aTm aT0 m17 → P none m17) : yR zpg tX12_reading (d + 9) (0, [(0, .ref 221), (1, .int wh)], [], mem) P := by
  obtain ⟨i0, i1⟩ := mO_r34 hm
  have th := gR_228 hm (i := (gi mem 221 34).toInt) i0 (by omega)
  have fki := gR_233 hm (i := (gi mem 221 34).toInt) i0 (by omega)
  refine yR_m 2 (fun _ _ _ _ => rfl) ?_
  refine wR_gi rfl mO_e mO_34 hm rfl ?_
  refine wN_mul (a := 3) (b := (gi mem 221 34).toInt) rfl rfl rfl (by omega) (fun x1 e2 => ?_)
  refine yR_m 1 (fun _ _ _ _ => rfl) ?_
  refine wN_add (a := (3 * (gi mem 221 34).toInt)) (b := (wh).toInt) rfl e2 rfl (by omega) (fun x3 e4 => ?_)
  refine yR_m 3 (fun _ _ _ _ => rfl) ?_
  refine wR_gr rfl mO_e mO_27 hm ?_
  refine yR_m 1 (fun _ _ _ _ => rfl) ?_
  refine wN_al (a := ((3 * (gi mem 221 34).toInt) + (wh).toInt)) rfl aR_236 hm rfl e4 (by omega) (fun y5 e6 => ?_)
  refine yR_m 1 (fun _ _ _ _ => rfl) ?_
  refine wR_ic_eq rfl (a := (gn (ga mem 236) ((3 * (gi mem 221 34).toInt) + (wh).toInt))) (c := (-1)) e6 tm1 (fun q7 => ?_) (fun q7 => ?_)
  ·
    refine yR_m 1 (fun _ _ _ _ => rfl) ?_
    refine wR_cv rfl rfl mO_e hm rfl (pk_i (h_cy (b8 := (gi mem 221 8).toInt) rfl rfl rfl rfl rfl rfl rfl (fun _ _ q => by obtain ⟨_, _, _, q⟩ := q; exact q.1) (h_isCounted5 (b := (0 : Int)) rfl hm hT sg (by omega)))) ?_
    rintro _ m8 ⟨v10, rfl, hm8, k9⟩
    show yR zpg tX12_reading (d + 9) (28, [(2, .int x3), (0, .ref 221), (1, .int wh)], [.int v10], m8) _
    refine wR_if_ne rfl (a := (v10).toInt) rfl (fun q11 => ?_) (fun q11 => ?_)
    ·
      refine yR_m 2 (fun _ _ _ _ => rfl) ?_
      refine wR_pi rfl mO_e mO_35 hm8 rfl ?_
      have hm_1 : aTm aT0 (si m8 221 35 wh) := tm_si mO_e mO_35 hm8 (i32_b _)
      refine yR_m 1 (fun _ _ _ _ => rfl) ?_
      refine wR_gr rfl mO_e mO_27 hm_1 ?_
      refine yR_m 2 (fun _ _ _ _ => rfl) ?_
      refine wR_gi rfl mO_e mO_33 hm_1 (gi_sv_ne (by decide)) ?_
      refine wN_as (a := ((3 * (gi mem 221 34).toInt) + (wh).toInt)) rfl aR_236 hm_1 e4 (by omega) ?_
      have hm_2 : aTm aT0 (sx (si m8 221 35 wh) 236 x3 (gi m8 221 33)) := tm_sa aR_236 hm_1 (i32_b _)
      refine yR_m 2 (fun _ _ _ _ => rfl) ?_
      refine wR_if_eq rfl (a := (wh).toInt) rfl (fun q12 => ?_) (fun q12 => ?_)
      ·
        refine yR_m 1 (fun _ _ _ _ => rfl) ?_
        refine wR_cv rfl rfl mO_e hm_2 rfl (h_reads5 hm_2 (s1 x1 e2 x3 e4 y5 e6 q7 v10 m8 hm8 k9 q11 q12) (by omega)) ?_
        rintro _ m13 ⟨rfl, hI13, k14⟩
        show yR zpg tX12_reading (d + 9) (60, [(2, .int x3), (0, .ref 221), (1, .int wh)], [], m13) _
        refine yR_m 1 (fun _ _ _ _ => rfl) ?_
        refine wR_gr rfl mO_e mO_28 hI13 ?_
        refine yR_m 2 (fun _ _ _ _ => rfl) ?_
        refine wR_gi rfl mO_e mO_33 hI13 rfl ?_
        refine wN_as (a := ((3 * (gi mem 221 34).toInt) + (wh).toInt)) rfl aR_237 hI13 e4 (by omega) ?_
        have hm_3 : aTm aT0 (sx m13 237 x3 (gi m13 221 33)) := tm_sa aR_237 hI13 (i32_b _)
        exact yR_rv rfl (h1 x1 e2 x3 e4 y5 e6 q7 v10 m8 hm8 k9 q11 q12 m13 hI13 k14 hm_3)
      ·
        refine yR_m 2 (fun _ _ _ _ => rfl) ?_
        refine wR_cv rfl rfl mO_e hm_2 rfl (h_reads5 hm_2 (s2 x1 e2 x3 e4 y5 e6 q7 v10 m8 hm8 k9 q11 q12) (by omega)) ?_
        rintro _ m15 ⟨rfl, hI15, k16⟩
        show yR zpg tX12_reading (d + 9) (60, [(2, .int x3), (0, .ref 221), (1, .int wh)], [], m15) _
        refine yR_m 1 (fun _ _ _ _ => rfl) ?_
        refine wR_gr rfl mO_e mO_28 hI15 ?_
        refine yR_m 2 (fun _ _ _ _ => rfl) ?_
        refine wR_gi rfl mO_e mO_33 hI15 rfl ?_
        refine wN_as (a := ((3 * (gi mem 221 34).toInt) + (wh).toInt)) rfl aR_237 hI15 e4 (by omega) ?_
        have hm_4 : aTm aT0 (sx m15 237 x3 (gi m15 221 33)) := tm_sa aR_237 hI15 (i32_b _)
        exact yR_rv rfl (h2 x1 e2 x3 e4 y5 e6 q7 v10 m8 hm8 k9 q11 q12 m15 hI15 k16 hm_4)
    ·
      exact yR_rv rfl (h3 x1 e2 x3 e4 y5 e6 q7 v10 m8 hm8 k9 q11 hm8)
  ·
    refine yR_m 2 (fun _ _ _ _ => rfl) ?_
    refine wR_cv rfl rfl mO_e hm rfl (pk_i (h_cy (b8 := (gi mem 221 8).toInt) rfl rfl rfl rfl rfl rfl rfl (fun _ _ q => by obtain ⟨_, _, _, q⟩ := q; exact q.1) (h_isCounted5 (b := (1 : Int)) rfl hm hT sg (by omega)))) ?_
    rintro _ m17 ⟨v19, rfl, hm17, k18⟩
    show yR zpg tX12_reading (d + 9) (28, [(2, .int x3), (0, .ref 221), (1, .int wh)], [.int v19], m17) _
    refine wR_if_ne rfl (a := (v19).toInt) rfl (fun q20 => ?_) (fun q20 => ?_)
    ·
      refine yR_m 2 (fun _ _ _ _ => rfl) ?_
      refine wR_pi rfl mO_e mO_35 hm17 rfl ?_
      have hm_5 : aTm aT0 (si m17 221 35 wh) := tm_si mO_e mO_35 hm17 (i32_b _)
      refine yR_m 1 (fun _ _ _ _ => rfl) ?_
      refine wR_gr rfl mO_e mO_27 hm_5 ?_
      refine yR_m 2 (fun _ _ _ _ => rfl) ?_
      refine wR_gi rfl mO_e mO_33 hm_5 (gi_sv_ne (by decide)) ?_
      refine wN_as (a := ((3 * (gi mem 221 34).toInt) + (wh).toInt)) rfl aR_236 hm_5 e4 (by omega) ?_
      have hm_6 : aTm aT0 (sx (si m17 221 35 wh) 236 x3 (gi m17 221 33)) := tm_sa aR_236 hm_5 (i32_b _)
      refine yR_m 2 (fun _ _ _ _ => rfl) ?_
      refine wR_if_eq rfl (a := (wh).toInt) rfl (fun q21 => ?_) (fun q21 => ?_)
      ·
        refine yR_m 1 (fun _ _ _ _ => rfl) ?_
        refine wR_cv rfl rfl mO_e hm_6 rfl (h_reads5 hm_6 (s3 x1 e2 x3 e4 y5 e6 q7 v19 m17 hm17 k18 q20 q21) (by omega)) ?_
        rintro _ m22 ⟨rfl, hI22, k23⟩
        show yR zpg tX12_reading (d + 9) (60, [(2, .int x3), (0, .ref 221), (1, .int wh)], [], m22) _
        refine yR_m 1 (fun _ _ _ _ => rfl) ?_
        refine wR_gr rfl mO_e mO_28 hI22 ?_
        refine yR_m 2 (fun _ _ _ _ => rfl) ?_
        refine wR_gi rfl mO_e mO_33 hI22 rfl ?_
        refine wN_as (a := ((3 * (gi mem 221 34).toInt) + (wh).toInt)) rfl aR_237 hI22 e4 (by omega) ?_
        have hm_7 : aTm aT0 (sx m22 237 x3 (gi m22 221 33)) := tm_sa aR_237 hI22 (i32_b _)
        exact yR_rv rfl (h4 x1 e2 x3 e4 y5 e6 q7 v19 m17 hm17 k18 q20 q21 m22 hI22 k23 hm_7)
      ·
        refine yR_m 2 (fun _ _ _ _ => rfl) ?_
        refine wR_cv rfl rfl mO_e hm_6 rfl (h_reads5 hm_6 (s4 x1 e2 x3 e4 y5 e6 q7 v19 m17 hm17 k18 q20 q21) (by omega)) ?_
        rintro _ m24 ⟨rfl, hI24, k25⟩
        show yR zpg tX12_reading (d + 9) (60, [(2, .int x3), (0, .ref 221), (1, .int wh)], [], m24) _
        refine yR_m 1 (fun _ _ _ _ => rfl) ?_
        refine wR_gr rfl mO_e mO_28 hI24 ?_
        refine yR_m 2 (fun _ _ _ _ => rfl) ?_
        refine wR_gi rfl mO_e mO_33 hI24 rfl ?_
        refine wN_as (a := ((3 * (gi mem 221 34).toInt) + (wh).toInt)) rfl aR_237 hI24 e4 (by omega) ?_
        have hm_8 : aTm aT0 (sx m24 237 x3 (gi m24 221 33)) := tm_sa aR_237 hI24 (i32_b _)
        exact yR_rv rfl (h5 x1 e2 x3 e4 y5 e6 q7 v19 m17 hm17 k18 q20 q21 m24 hI24 k25 hm_8)
    ·
      exact yR_rv rfl (h6 x1 e2 x3 e4 y5 e6 q7 v19 m17 hm17 k18 q20 hm17)

theorem h_reading {wh : Int32} (hm : aTm aT0 mem) (h : SI mr mem) (h8 : (gi mem 221 8).toInt = 0) (sg : ¬ (gi mem 221 3).toInt = 0) (hw : 0 ≤ wh.toInt ∧ wh.toInt ≤ 2) (hd : 10 ≤ d) : yC zpg d 203 [.ref 221, .int wh] mem (fun r m => r = none ∧ aTm aT0 m ∧ SI mr m ∧ ((gi m 221 8).toInt = 0 → (gi mem 221 4).toInt ≤ (gi m 221 4).toInt)) := by
  obtain ⟨d, rfl⟩ : ∃ q, d = q + 10 := ⟨d - 10, by omega⟩
  have hT := h.2.1
  have h4 := (h.2.2.2 h8).2.1
  refine yC_of (t := tX12_reading) rfl rfl ?_
  exact w_reading hm hT sg hw
        (fun x1 e2 x3 e4 y5 e6 q7 v10 m8 hm8 k9 q11 q12 => by
          have S1 := SI_t h k9.1.1
          have gt := k9.1.1.2.2.2
          have F : fr [236] [35] m8 (sx (si m8 221 35 wh) 236 x3 (gi m8 221 33)) := fr_sa rfl (fr_sv rfl fr_rf)
          refine ⟨tOK_fr F rfl rfl rfl rfl (by show 0 ≤ (gi _ 221 8).toInt; rw [fr_gi F rfl]; omega) S1.2.1, ?_, fun z => ?_⟩
          · show (gi _ 221 34).toInt = 1 - (gi _ 221 13).toInt
            rw [fr_gi F (i := 34) rfl, fr_gi F (i := 13) rfl]; exact S1.2.2.1
          · rw [fr_gi F (i := 8) rfl] at z
            have g2 := (gt z).2
            have c1 : gi m8 221 33 = gi mem 221 33 := fr_gi k9.1.1.1 rfl
            rw [fr_gi F (i := 33) rfl, fr_gi F (i := 4) rfl, c1]
            omega)
        (fun x1 e2 x3 e4 y5 e6 q7 v10 m8 hm8 k9 q11 q12 m13 hI13 k14 hm2 => by
          have S1 := SI_t h k9.1.1
          have z : (gi m8 221 8).toInt = 0 := by omega
          have g2 := (k9.1.1.2.2.2 z).2
          have c1 : gi m8 221 33 = gi mem 221 33 := fr_gi k9.1.1.1 rfl
          have F : fr [236] [35] m8 (sx (si m8 221 35 wh) 236 x3 (gi m8 221 33)) := fr_sa rfl (fr_sv rfl fr_rf)
          have R := k14
          rw [show gi (sx (si m8 221 35 wh) 236 x3 (gi m8 221 33)) 221 33 = gi m8 221 33 from fr_gi F rfl] at R
          exact ⟨rfl, hm2, SI_rd (k := x3) (w := wh.toInt) hm8 hI13 S1 z (by rw [c1]; omega) F ((ga_sa_eq.trans (congrArg (fun l => List.set l x3.toNatClampNeg (gi m8 221 33)) (ga_sv)))) (by show _ = 3 * (gi m8 221 34).toInt + _; omega) (by omega) R (fr_sa rfl fr_rf) (ga_sa_eq), fun z3 => by
            have e8 : gi (sx m13 237 x3 (gi m13 221 33)) 221 8 = gi m13 221 8 := gi_sa
            have e4 : gi (sx m13 237 x3 (gi m13 221 33)) 221 4 = gi m13 221 4 := gi_sa
            rw [e8] at z3
            have w3 := (R.2.2.2 z3).2.2
            have w4 : gi (sx (si m8 221 35 wh) 236 x3 (gi m8 221 33)) 221 4 = gi m8 221 4 := fr_gi F rfl
            have w5 := k9.1.1.2.2.1
            rw [e4]; rw [w4] at w3; omega⟩)
        (fun x1 e2 x3 e4 y5 e6 q7 v10 m8 hm8 k9 q11 q12 => by
          have S1 := SI_t h k9.1.1
          have gt := k9.1.1.2.2.2
          have F : fr [236] [35] m8 (sx (si m8 221 35 wh) 236 x3 (gi m8 221 33)) := fr_sa rfl (fr_sv rfl fr_rf)
          refine ⟨tOK_fr F rfl rfl rfl rfl (by show 0 ≤ (gi _ 221 8).toInt; rw [fr_gi F rfl]; omega) S1.2.1, ?_, fun z => ?_⟩
          · show (gi _ 221 34).toInt = 1 - (gi _ 221 13).toInt
            rw [fr_gi F (i := 34) rfl, fr_gi F (i := 13) rfl]; exact S1.2.2.1
          · rw [fr_gi F (i := 8) rfl] at z
            have g2 := (gt z).2
            have c1 : gi m8 221 33 = gi mem 221 33 := fr_gi k9.1.1.1 rfl
            rw [fr_gi F (i := 33) rfl, fr_gi F (i := 4) rfl, c1]
            omega)
        (fun x1 e2 x3 e4 y5 e6 q7 v10 m8 hm8 k9 q11 q12 m15 hI15 k16 hm2 => by
          have S1 := SI_t h k9.1.1
          have z : (gi m8 221 8).toInt = 0 := by omega
          have g2 := (k9.1.1.2.2.2 z).2
          have c1 : gi m8 221 33 = gi mem 221 33 := fr_gi k9.1.1.1 rfl
          have F : fr [236] [35] m8 (sx (si m8 221 35 wh) 236 x3 (gi m8 221 33)) := fr_sa rfl (fr_sv rfl fr_rf)
          have R := k16
          rw [show gi (sx (si m8 221 35 wh) 236 x3 (gi m8 221 33)) 221 33 = gi m8 221 33 from fr_gi F rfl] at R
          exact ⟨rfl, hm2, SI_rd (k := x3) (w := wh.toInt) hm8 hI15 S1 z (by rw [c1]; omega) F ((ga_sa_eq.trans (congrArg (fun l => List.set l x3.toNatClampNeg (gi m8 221 33)) (ga_sv)))) (by show _ = 3 * (gi m8 221 34).toInt + _; omega) (by omega) R (fr_sa rfl fr_rf) (ga_sa_eq), fun z3 => by
            have e8 : gi (sx m15 237 x3 (gi m15 221 33)) 221 8 = gi m15 221 8 := gi_sa
            have e4 : gi (sx m15 237 x3 (gi m15 221 33)) 221 4 = gi m15 221 4 := gi_sa
            rw [e8] at z3
            have w3 := (R.2.2.2 z3).2.2
            have w4 : gi (sx (si m8 221 35 wh) 236 x3 (gi m8 221 33)) 221 4 = gi m8 221 4 := fr_gi F rfl
            have w5 := k9.1.1.2.2.1
            rw [e4]; rw [w4] at w3; omega⟩)
        (fun x1 e2 x3 e4 y5 e6 q7 v10 m8 hm8 k9 q11 hm2 => ⟨rfl, hm2, SI_t h k9.1.1, fun _ => k9.1.1.2.2.1⟩)
        (fun x1 e2 x3 e4 y5 e6 q7 v19 m17 hm17 k18 q20 q21 => by
          have S1 := SI_t h k18.1.1
          have gt := k18.1.1.2.2.2
          have F : fr [236] [35] m17 (sx (si m17 221 35 wh) 236 x3 (gi m17 221 33)) := fr_sa rfl (fr_sv rfl fr_rf)
          refine ⟨tOK_fr F rfl rfl rfl rfl (by show 0 ≤ (gi _ 221 8).toInt; rw [fr_gi F rfl]; omega) S1.2.1, ?_, fun z => ?_⟩
          · show (gi _ 221 34).toInt = 1 - (gi _ 221 13).toInt
            rw [fr_gi F (i := 34) rfl, fr_gi F (i := 13) rfl]; exact S1.2.2.1
          · rw [fr_gi F (i := 8) rfl] at z
            have g2 := (gt z).2
            have c1 : gi m17 221 33 = gi mem 221 33 := fr_gi k18.1.1.1 rfl
            rw [fr_gi F (i := 33) rfl, fr_gi F (i := 4) rfl, c1]
            omega)
        (fun x1 e2 x3 e4 y5 e6 q7 v19 m17 hm17 k18 q20 q21 m22 hI22 k23 hm2 => by exfalso; omega)
        (fun x1 e2 x3 e4 y5 e6 q7 v19 m17 hm17 k18 q20 q21 => by
          have S1 := SI_t h k18.1.1
          have gt := k18.1.1.2.2.2
          have F : fr [236] [35] m17 (sx (si m17 221 35 wh) 236 x3 (gi m17 221 33)) := fr_sa rfl (fr_sv rfl fr_rf)
          refine ⟨tOK_fr F rfl rfl rfl rfl (by show 0 ≤ (gi _ 221 8).toInt; rw [fr_gi F rfl]; omega) S1.2.1, ?_, fun z => ?_⟩
          · show (gi _ 221 34).toInt = 1 - (gi _ 221 13).toInt
            rw [fr_gi F (i := 34) rfl, fr_gi F (i := 13) rfl]; exact S1.2.2.1
          · rw [fr_gi F (i := 8) rfl] at z
            have g2 := (gt z).2
            have c1 : gi m17 221 33 = gi mem 221 33 := fr_gi k18.1.1.1 rfl
            rw [fr_gi F (i := 33) rfl, fr_gi F (i := 4) rfl, c1]
            omega)
        (fun x1 e2 x3 e4 y5 e6 q7 v19 m17 hm17 k18 q20 q21 m24 hI24 k25 hm2 => by exfalso; omega)
        (fun x1 e2 x3 e4 y5 e6 q7 v19 m17 hm17 k18 q20 hm2 => ⟨rfl, hm2, SI_t h k18.1.1, fun _ => k18.1.1.2.2.1⟩)
end RG
