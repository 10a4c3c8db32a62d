/-! what the folk have -/
section HV
variable {d : Nat} {mem : zM}
theorem h_ahead6 {s5 s2 : Int32} (hd : 2 ≤ d) (hm : aTm aT0 mem) (e5 : gi mem 221 5 = s5) (e2 : gi mem 221 2 = s2) (hs : s5.toInt ≤ s2.toInt) : yC zpg d 173 [.ref 221] mem (fun r m => r = none ∧ aTm aT0 m ∧ (ahQ mem m ∧ 0 ≤ (gi m 221 34).toInt ∧ (gi m 221 34).toInt ≤ 1)) :=
  yC_mono (fun _ _ q => ⟨q.1, q.2.1, q.2.2, mO_r34 q.2.1⟩) (h_ahead2 hd hm e5 e2 hs)
set_option maxRecDepth 100000 in
theorem w_having {d : Nat} {mem : zM} {P : Option Value → zM → Prop} (hm : aTm aT0 mem) (hT : tOK mem) (sg : ¬ (gi mem 221 3).toInt = 0) (h1 : ∀ (v3 : Int32) (m1 : zM), aTm aT0 m1 → ((tQ mem m1 ∧ ((v3.toInt = 0 ∧ 1 ≤ (gi m1 221 8).toInt) ∨ (¬ v3.toInt = 0 ∧ (gi m1 221 8).toInt = 0 ∧ (0 : Int) = 0))) ∧ ((¬ (gi m1 221 8).toInt = 0 ∨ (gi mem 221 8).toInt = 0) ∧ 0 ≤ (gi m1 221 8).toInt ∧ (gi m1 221 34).toInt = (gi mem 221 34).toInt ∧ gn (ga m1 223) (gi m1 221 34).toInt = gn (ga mem 223) (gi mem 221 34).toInt ∧ gn (ga m1 224) (gi m1 221 34).toInt = gn (ga mem 224) (gi mem 221 34).toInt ∧ gn (ga m1 228) (gi m1 221 34).toInt = gn (ga mem 228) (gi mem 221 34).toInt ∧ gn (ga m1 233) (gi m1 221 34).toInt = gn (ga mem 233) (gi mem 221 34).toInt)) → ¬ (v3).toInt = 0 → (gi m1 221 12).toInt = (-1) → (gi m1 221 8).toInt ≤ 0 → ¬ (gi m1 221 3).toInt = 1 → aTm aT0 (si (si m1 221 8 1) 221 9 (gi m1 221 4)) → P none (si (si m1 221 8 1) 221 9 (gi m1 221 4))) (s1 : ∀ (v3 : Int32) (m1 : zM), aTm aT0 m1 → ((tQ mem m1 ∧ ((v3.toInt = 0 ∧ 1 ≤ (gi m1 221 8).toInt) ∨ (¬ v3.toInt = 0 ∧ (gi m1 221 8).toInt = 0 ∧ (0 : Int) = 0))) ∧ ((¬ (gi m1 221 8).toInt = 0 ∨ (gi mem 221 8).toInt = 0) ∧ 0 ≤ (gi m1 221 8).toInt ∧ (gi m1 221 34).toInt = (gi mem 221 34).toInt ∧ gn (ga m1 223) (gi m1 221 34).toInt = gn (ga mem 223) (gi mem 221 34).toInt ∧ gn (ga m1 224) (gi m1 221 34).toInt = gn (ga mem 224) (gi mem 221 34).toInt ∧ gn (ga m1 228) (gi m1 221 34).toInt = gn (ga mem 228) (gi mem 221 34).toInt ∧ gn (ga m1 233) (gi m1 221 34).toInt = gn (ga mem 233) (gi mem 221 34).toInt)) → ¬ (v3).toInt = 0 → (gi m1 221 12).toInt = (-1) → (gi m1 221 8).toInt ≤ 0 → (gi m1 221 3).toInt = 1 → ∀ (v8 : Int32), True → (v8).toInt = 0 → ∀ (v11 : Int32), (-1 ≤ v11.toInt ∧ v11.toInt ≤ 8) → ¬ (gi m1 221 8).toInt = 0 → (gi m1 221 5).toInt ≤ (gi m1 221 2).toInt) (s2 : ∀ (v3 : Int32) (m1 : zM), aTm aT0 m1 → ((tQ mem m1 ∧ ((v3.toInt = 0 ∧ 1 ≤ (gi m1 221 8).toInt) ∨ (¬ v3.toInt = 0 ∧ (gi m1 221 8).toInt = 0 ∧ (0 : Int) = 0))) ∧ ((¬ (gi m1 221 8).toInt = 0 ∨ (gi mem 221 8).toInt = 0) ∧ 0 ≤ (gi m1 221 8).toInt ∧ (gi m1 221 34).toInt = (gi mem 221 34).toInt ∧ gn (ga m1 223) (gi m1 221 34).toInt = gn (ga mem 223) (gi mem 221 34).toInt ∧ gn (ga m1 224) (gi m1 221 34).toInt = gn (ga mem 224) (gi mem 221 34).toInt ∧ gn (ga m1 228) (gi m1 221 34).toInt = gn (ga mem 228) (gi mem 221 34).toInt ∧ gn (ga m1 233) (gi m1 221 34).toInt = gn (ga mem 233) (gi mem 221 34).toInt)) → ¬ (v3).toInt = 0 → (gi m1 221 12).toInt = (-1) → (gi m1 221 8).toInt ≤ 0 → (gi m1 221 3).toInt = 1 → ∀ (v8 : Int32), True → (v8).toInt = 0 → ∀ (v11 : Int32), (-1 ≤ v11.toInt ∧ v11.toInt ≤ 8) → ¬ (gi m1 221 8).toInt = 0 → ∀ (m14 : zM), aTm aT0 m14 → (ahQ m1 m14 ∧ 0 ≤ (gi m14 221 34).toInt ∧ (gi m14 221 34).toInt ≤ 1) → ∀ (y16 : Int32), y16.toInt = (gn (ga m14 232) (gi m14 221 34).toInt) → (0 : Int) ≤ (y16 ||| (1 <<< (v11 &&& 31))).toInt ∧ (y16 ||| (1 <<< (v11 &&& 31))).toInt ≤ 511) (h2 : ∀ (v3 : Int32) (m1 : zM), aTm aT0 m1 → ((tQ mem m1 ∧ ((v3.toInt = 0 ∧ 1 ≤ (gi m1 221 8).toInt) ∨ (¬ v3.toInt = 0 ∧ (gi m1 221 8).toInt = 0 ∧ (0 : Int) = 0))) ∧ ((¬ (gi m1 221 8).toInt = 0 ∨ (gi mem 221 8).toInt = 0) ∧ 0 ≤ (gi m1 221 8).toInt ∧ (gi m1 221 34).toInt = (gi mem 221 34).toInt ∧ gn (ga m1 223) (gi m1 221 34).toInt = gn (ga mem 223) (gi mem 221 34).toInt ∧ gn (ga m1 224) (gi m1 221 34).toInt = gn (ga mem 224) (gi mem 221 34).toInt ∧ gn (ga m1 228) (gi m1 221 34).toInt = gn (ga mem 228) (gi mem 221 34).toInt ∧ gn (ga m1 233) (gi m1 221 34).toInt = gn (ga mem 233) (gi mem 221 34).toInt)) → ¬ (v3).toInt = 0 → (gi m1 221 12).toInt = (-1) → (gi m1 221 8).toInt ≤ 0 → (gi m1 221 3).toInt = 1 → ∀ (v8 : Int32), True → (v8).toInt = 0 → ∀ (v11 : Int32), (-1 ≤ v11.toInt ∧ v11.toInt ≤ 8) → ¬ (gi m1 221 8).toInt = 0 → ∀ (m14 : zM), aTm aT0 m14 → (ahQ m1 m14 ∧ 0 ≤ (gi m14 221 34).toInt ∧ (gi m14 221 34).toInt ≤ 1) → ∀ (y16 : Int32), y16.toInt = (gn (ga m14 232) (gi m14 221 34).toInt) → aTm aT0 (sx m14 232 (gi m14 221 34) (y16 ||| (1 <<< (v11 &&& 31)))) → P none (sx m14 232 (gi m14 221 34) (y16 ||| (1 <<< (v11 &&& 31))))) (h3 : ∀ (v3 : Int32) (m1 : zM), aTm aT0 m1 → ((tQ mem m1 ∧ ((v3.toInt = 0 ∧ 1 ≤ (gi m1 221 8).toInt) ∨ (¬ v3.toInt = 0 ∧ (gi m1 221 8).toInt = 0 ∧ (0 : Int) = 0))) ∧ ((¬ (gi m1 221 8).toInt = 0 ∨ (gi mem 221 8).toInt = 0) ∧ 0 ≤ (gi m1 221 8).toInt ∧ (gi m1 221 34).toInt = (gi mem 221 34).toInt ∧ gn (ga m1 223) (gi m1 221 34).toInt = gn (ga mem 223) (gi mem 221 34).toInt ∧ gn (ga m1 224) (gi m1 221 34).toInt = gn (ga mem 224) (gi mem 221 34).toInt ∧ gn (ga m1 228) (gi m1 221 34).toInt = gn (ga mem 228) (gi mem 221 34).toInt ∧ gn (ga m1 233) (gi m1 221 34).toInt = gn (ga mem 233) (gi mem 221 34).toInt)) → ¬ (v3).toInt = 0 → (gi m1 221 12).toInt = (-1) → (gi m1 221 8).toInt ≤ 0 → (gi m1 221 3).toInt = 1 → ∀ (v8 : Int32), True → (v8).toInt = 0 → ∀ (v11 : Int32), (-1 ≤ v11.toInt ∧ v11.toInt ≤ 8) → (gi m1 221 8).toInt = 0 → (v11).toInt = (-1) → aTm aT0 (si (si m1 221 8 3) 221 9 (gi m1 221 4)) → P none (si (si m1 221 8 3) 221 9 (gi m1 221 4))) (s3 : ∀ (v3 : Int32) (m1 : zM), aTm aT0 m1 → ((tQ mem m1 ∧ ((v3.toInt = 0 ∧ 1 ≤ (gi m1 221 8).toInt) ∨ (¬ v3.toInt = 0 ∧ (gi m1 221 8).toInt = 0 ∧ (0 : Int) = 0))) ∧ ((¬ (gi m1 221 8).toInt = 0 ∨ (gi mem 221 8).toInt = 0) ∧ 0 ≤ (gi m1 221 8).toInt ∧ (gi m1 221 34).toInt = (gi mem 221 34).toInt ∧ gn (ga m1 223) (gi m1 221 34).toInt = gn (ga mem 223) (gi mem 221 34).toInt ∧ gn (ga m1 224) (gi m1 221 34).toInt = gn (ga mem 224) (gi mem 221 34).toInt ∧ gn (ga m1 228) (gi m1 221 34).toInt = gn (ga mem 228) (gi mem 221 34).toInt ∧ gn (ga m1 233) (gi m1 221 34).toInt = gn (ga mem 233) (gi mem 221 34).toInt)) → ¬ (v3).toInt = 0 → (gi m1 221 12).toInt = (-1) → (gi m1 221 8).toInt ≤ 0 → (gi m1 221 3).toInt = 1 → ∀ (v8 : Int32), True → (v8).toInt = 0 → ∀ (v11 : Int32), (-1 ≤ v11.toInt ∧ v11.toInt ≤ 8) → (gi m1 221 8).toInt = 0 → ¬ (v11).toInt = (-1) → ∀ (y19 : Int32), y19.toInt = (gn (ga m1 232) (gi m1 221 34).toInt) → ¬ ((y19 >>> (v11 &&& 31)) &&& 1).toInt = 1 → (gi m1 221 5).toInt ≤ (gi m1 221 2).toInt) (s4 : ∀ (v3 : Int32) (m1 : zM), aTm aT0 m1 → ((tQ mem m1 ∧ ((v3.toInt = 0 ∧ 1 ≤ (gi m1 221 8).toInt) ∨ (¬ v3.toInt = 0 ∧ (gi m1 221 8).toInt = 0 ∧ (0 : Int) = 0))) ∧ ((¬ (gi m1 221 8).toInt = 0 ∨ (gi mem 221 8).toInt = 0) ∧ 0 ≤ (gi m1 221 8).toInt ∧ (gi m1 221 34).toInt = (gi mem 221 34).toInt ∧ gn (ga m1 223) (gi m1 221 34).toInt = gn (ga mem 223) (gi mem 221 34).toInt ∧ gn (ga m1 224) (gi m1 221 34).toInt = gn (ga mem 224) (gi mem 221 34).toInt ∧ gn (ga m1 228) (gi m1 221 34).toInt = gn (ga mem 228) (gi mem 221 34).toInt ∧ gn (ga m1 233) (gi m1 221 34).toInt = gn (ga mem 233) (gi mem 221 34).toInt)) → ¬ (v3).toInt = 0 → (gi m1 221 12).toInt = (-1) → (gi m1 221 8).toInt ≤ 0 → (gi m1 221 3).toInt = 1 → ∀ (v8 : Int32), True → (v8).toInt = 0 → ∀ (v11 : Int32), (-1 ≤ v11.toInt ∧ v11.toInt ≤ 8) → (gi m1 221 8).toInt = 0 → ¬ (v11).toInt = (-1) → ∀ (y19 : Int32), y19.toInt = (gn (ga m1 232) (gi m1 221 34).toInt) → ¬ ((y19 >>> (v11 &&& 31)) &&& 1).toInt = 1 → ∀ (m22 : zM), aTm aT0 m22 → (ahQ m1 m22 ∧ 0 ≤ (gi m22 221 34).toInt ∧ (gi m22 221 34).toInt ≤ 1) → ∀ (y24 : Int32), y24.toInt = (gn (ga m22 232) (gi m22 221 34).toInt) → (0 : Int) ≤ (y24 ||| (1 <<< (v11 &&& 31))).toInt ∧ (y24 ||| (1 <<< (v11 &&& 31))).toInt ≤ 511) (h4 : ∀ (v3 : Int32) (m1 : zM), aTm aT0 m1 → ((tQ mem m1 ∧ ((v3.toInt = 0 ∧ 1 ≤ (gi m1 221 8).toInt) ∨ (¬ v3.toInt = 0 ∧ (gi m1 221 8).toInt = 0 ∧ (0 : Int) = 0))) ∧ ((¬ (gi m1 221 8).toInt = 0 ∨ (gi mem 221 8).toInt = 0) ∧ 0 ≤ (gi m1 221 8).toInt ∧ (gi m1 221 34).toInt = (gi mem 221 34).toInt ∧ gn (ga m1 223) (gi m1 221 34).toInt = gn (ga mem 223) (gi mem 221 34).toInt ∧ gn (ga m1 224) (gi m1 221 34).toInt = gn (ga mem 224) (gi mem 221 34).toInt ∧ gn (ga m1 228) (gi m1 221 34).toInt = gn (ga mem 228) (gi mem 221 34).toInt ∧ gn (ga m1 233) (gi m1 221 34).toInt = gn (ga mem 233) (gi mem 221 34).toInt)) → ¬ (v3).toInt = 0 → (gi m1 221 12).toInt = (-1) → (gi m1 221 8).toInt ≤ 0 → (gi m1 221 3).toInt = 1 → ∀ (v8 : Int32), True → (v8).toInt = 0 → ∀ (v11 : Int32), (-1 ≤ v11.toInt ∧ v11.toInt ≤ 8) → (gi m1 221 8).toInt = 0 → ¬ (v11).toInt = (-1) → ∀ (y19 : Int32), y19.toInt = (gn (ga m1 232) (gi m1 221 34).toInt) → ¬ ((y19 >>> (v11 &&& 31)) &&& 1).toInt = 1 → ∀ (m22 : zM), aTm aT0 m22 → (ahQ m1 m22 ∧ 0 ≤ (gi m22 221 34).toInt ∧ (gi m22 221 34).toInt ≤ 1) → ∀ (y24 : Int32), y24.toInt = (gn (ga m22 232) (gi m22 221 34).toInt) → aTm aT0 (sx m22 232 (gi m22 221 34) (y24 ||| (1 <<< (v11 &&& 31)))) → P none (sx m22 232 (gi m22 221 34) (y24 ||| (1 <<< (v11 &&& 31))))) (h5 : ∀ (v3 : Int32) (m1 : zM), aTm aT0 m1 → ((tQ mem m1 ∧ ((v3.toInt = 0 ∧ 1 ≤ (gi m1 221 8).toInt) ∨ (¬ v3.toInt = 0 ∧ (gi m1 221 8).toInt = 0 ∧ (0 : Int) = 0))) ∧ ((¬ (gi m1 221 8).toInt = 0 ∨ (gi mem 221 8).toInt = 0) ∧ 0 ≤ (gi m1 221 8).toInt ∧ (gi m1 221 34).toInt = (gi mem 221 34).toInt ∧ gn (ga m1 223) (gi m1 221 34).toInt = gn (ga mem 223) (gi mem 221 34).toInt ∧ gn (ga m1 224) (gi m1 221 34).toInt = gn (ga mem 224) (gi mem 221 34).toInt ∧ gn (ga m1 228) (gi m1 221 34).toInt = gn (ga mem 228) (gi mem 221 34).toInt ∧ gn (ga m1 233) (gi m1 221 34).toInt = gn (ga mem 233) (gi mem 221 34).toInt)) → ¬ (v3).toInt = 0 → (gi m1 221 12).toInt = (-1) → (gi m1 221 8).toInt ≤ 0 → (gi m1 221 3).toInt = 1 → ∀ (v8 : Int32), True → (v8).toInt = 0 → ∀ (v11 : Int32), (-1 ≤ v11.toInt ∧ v11.toInt ≤ 8) → (gi m1 221 8).toInt = 0 → ¬ (v11).toInt = (-1) → ∀ (y19 : Int32), y19.toInt = (gn (ga m1 232) (gi m1 221 34).toInt) → ((y19 >>> (v11 &&& 31)) &&& 1).toInt = 1 → aTm aT0 (si (si m1 221 8 3) 221 9 (gi m1 221 4)) → P none (si (si m1 221 8 3) 221 9 (gi m1 221 4))) (h6 : ∀ (v3 : Int32) (m1 : zM), aTm aT0 m1 → ((tQ mem m1 ∧ ((v3.toInt = 0 ∧ 1 ≤ (gi m1 221 8).toInt) ∨ (¬ v3.toInt = 0 ∧ (gi m1 221 8).toInt = 0 ∧ (0 : Int) = 0))) ∧ ((¬ (gi m1 221 8).toInt = 0 ∨ (gi mem 221 8).toInt = 0) ∧ 0 ≤ (gi m1 221 8).toInt ∧ (gi m1 221 34).toInt = (gi mem 221 34).toInt ∧ gn (ga m1 223) (gi m1 221 34).toInt = gn (ga mem 223) (gi mem 221 34).toInt ∧ gn (ga m1 224) (gi m1 221 34).toInt = gn (ga mem 224) (gi mem 221 34).toInt ∧ gn (ga m1 228) (gi m1 221 34).toInt = gn (ga mem 228) (gi mem 221 34).toInt ∧ gn (ga m1 233) (gi m1 221 34).toInt = gn (ga mem 233) (gi mem 221 34).toInt)) → ¬ (v3).toInt = 0 → (gi m1 221 12).toInt = (-1) → (gi m1 221 8).toInt ≤ 0 → (gi m1 221 3).toInt = 1 → ∀ (v8 : Int32), True → ¬ (v8).toInt = 0 → aTm aT0 (si (si m1 221 8 1) 221 9 (gi m1 221 4)) → P none (si (si m1 221 8 1) 221 9 (gi m1 221 4))) (h7 : ∀ (v3 : Int32) (m1 : zM), aTm aT0 m1 → ((tQ mem m1 ∧ ((v3.toInt = 0 ∧ 1 ≤ (gi m1 221 8).toInt) ∨ (¬ v3.toInt = 0 ∧ (gi m1 221 8).toInt = 0 ∧ (0 : Int) = 0))) ∧ ((¬ (gi m1 221 8).toInt = 0 ∨ (gi mem 221 8).toInt = 0) ∧ 0 ≤ (gi m1 221 8).toInt ∧ (gi m1 221 34).toInt = (gi mem 221 34).toInt ∧ gn (ga m1 223) (gi m1 221 34).toInt = gn (ga mem 223) (gi mem 221 34).toInt ∧ gn (ga m1 224) (gi m1 221 34).toInt = gn (ga mem 224) (gi mem 221 34).toInt ∧ gn (ga m1 228) (gi m1 221 34).toInt = gn (ga mem 228) (gi mem 221 34).toInt ∧ gn (ga m1 233) (gi m1 221 34).toInt = gn (ga mem 233) (gi mem 221 34).toInt)) → ¬ (v3).toInt = 0 → (gi m1 221 12).toInt = (-1) → 0 < (gi m1 221 8).toInt → aTm aT0 m1 → P none m1) (h8 : ∀ (v3 : Int32) (m1 : zM), aTm aT0 m1 → ((tQ mem m1 ∧ ((v3.toInt = 0 ∧ 1 ≤ (gi m1 221 8).toInt) ∨ (¬ v3.toInt = 0 ∧ (gi m1 221 8).toInt = 0 ∧ (0 : Int) = 0))) ∧ ((¬ (gi m1 221 8).toInt = 0 ∨ (gi mem 221 8).toInt = 0) ∧ 0 ≤ (gi m1 221 8).toInt ∧ (gi m1 221 34).toInt = (gi mem 221 34).toInt ∧ gn (ga m1 223) (gi m1 221 34).toInt = gn (ga mem 223) (gi mem 221 34).toInt ∧ gn (ga m1 224) (gi m1 221 34).toInt = gn (ga mem 224) (gi mem 221 34).toInt ∧ gn (ga m1 228) (gi m1 221 34).toInt = gn (ga mem 228) (gi mem 221 34).toInt ∧ gn (ga m1 233) (gi m1 221 34).toInt = gn (ga mem 233) (gi mem 221 34).toInt)) → ¬ (v3).toInt = 0 → ¬ (gi m1 221 12).toInt = (-1) → (gi m1 221 8).toInt ≤ 0 → aTm aT0 (si (si m1 221 8 1) 221 9 (gi m1 221 12)) → P none (si (si m1 221 8 1) 221 9 (gi m1 221 12))) (h9 : ∀ (v3 : Int32) (m1 : zM), aTm aT0 m1 → ((tQ mem m1 ∧ ((v3.toInt = 0 ∧ 1 ≤ (gi m1 221 8).toInt) ∨ (¬ v3.toInt = 0 ∧ (gi m1 221 8).toInt = 0 ∧ (0 : Int) = 0))) ∧ ((¬ (gi m1 221 8).toInt = 0 ∨ (gi mem 221 8).toInt = 0) ∧ 0 ≤ (gi m1 221 8).toInt ∧ (gi m1 221 34).toInt = (gi mem 221 34).toInt ∧ gn (ga m1 223) (gi m1 221 34).toInt = gn (ga mem 223) (gi mem 221 34).toInt ∧ gn (ga m1 224) (gi m1 221 34).toInt = gn (ga mem 224) (gi mem 221 34).toInt ∧ gn (ga m1 228) (gi m1 221 34).toInt = gn (ga mem 228) (gi mem 221 34).toInt ∧ gn (ga m1 233) (gi m1 221 34).toInt = gn (ga mem 233) (gi mem 221 34).toInt)) → ¬ (v3).toInt = 0 → ¬ (gi m1 221 12).toInt = (-1) → 0 < (gi m1 221 8).toInt → aTm aT0 m1 → P none m1) (h10 : ∀ (v3 : Int32) (m1 : zM), aTm aT0 m1 → ((tQ mem m1 ∧ ((v3.toInt = 0 ∧ 1 ≤ (gi m1 221 8).toInt) ∨ (¬ v3.toInt = 0 ∧ (gi m1 221 8).toInt = 0 ∧ (0 : Int) = 0))) ∧ ((¬ (gi m1 221 8).toInt = 0 ∨ (gi mem 221 8).toInt = 0) ∧ 0 ≤ (gi m1 221 8).toInt ∧ (gi m1 221 34).toInt = (gi mem 221 34).toInt ∧ gn (ga m1 223) (gi m1 221 34).toInt = gn (ga mem 223) (gi mem 221 34).toInt ∧ gn (ga m1 224) (gi m1 221 34).toInt = gn (ga mem 224) (gi mem 221 34).toInt ∧ gn (ga m1 228) (gi m1 221 34).toInt = gn (ga mem 228) (gi mem 221 34).toInt ∧ gn (ga m1 233) (gi m1 221 34).toInt = gn (ga mem 233) (gi mem 221 34).toInt)) → (v3).toInt = 0 → aTm aT0 m1 → P none m1) : yR zpg tX12_having (d + 5) (0, [(0, .ref 221)], [], mem) P := by
  obtain ⟨i0, i1⟩ := mO_r34 hm
  have th := gR_228 hm (i := (gi mem 221 34).toInt) i0 (by omega)
  have fki := gR_233 hm (i := (gi mem 221 34).toInt) i0 (by omega)
  refine yR_m 2 (fun _ _ _ _ => rfl) ?_
  refine wR_cv rfl rfl mO_e hm rfl (pk_i (h_cy (b8 := (gi mem 221 8).toInt) rfl rfl rfl rfl rfl rfl rfl (fun _ _ q => by obtain ⟨_, _, _, q⟩ := q; exact q.1) (h_isCounted5 (b := (0 : Int)) rfl hm hT sg (by omega)))) ?_
  rintro _ m1 ⟨v3, rfl, hm1, k2⟩
  show yR zpg tX12_having (d + 5) (5, [(0, .ref 221)], [.int v3], m1) _
  refine wR_if_ne rfl (a := (v3).toInt) rfl (fun q4 => ?_) (fun q4 => ?_)
  ·
    refine yR_m 1 (fun _ _ _ _ => rfl) ?_
    refine wR_iv rfl rfl mO_e hm1 rfl rfl rfl rfl ?_
    show yR zpg tX12_lex (d + 4) (0, [(0, .ref 221)], [], m1) _
    refine yR_m 1 (fun _ _ _ _ => rfl) ?_
    refine wR_gi rfl mO_e mO_12 hm1 rfl ?_
    refine yR_m 1 (fun _ _ _ _ => rfl) ?_
    refine wR_ic_eq rfl (a := (gi m1 221 12).toInt) (c := (-1)) rfl tm1 (fun q5 => ?_) (fun q5 => ?_)
    ·
      refine yR_rv rfl ?_
      show yR zpg tX12_having (d + 5) (13, [(0, .ref 221)], [], m1) _
      refine yR_m 1 (fun _ _ _ _ => rfl) ?_
      refine wR_gi rfl mO_e mO_8 hm1 rfl ?_
      refine wR_if_le rfl (a := (gi m1 221 8).toInt) rfl (fun q6 => ?_) (fun q6 => ?_)
      ·
        refine yR_m 1 (fun _ _ _ _ => rfl) ?_
        refine wR_gi rfl mO_e mO_3 hm1 rfl ?_
        refine yR_m 1 (fun _ _ _ _ => rfl) ?_
        refine wR_ic_ne rfl (a := (gi m1 221 3).toInt) (c := 1) rfl rfl (fun q7 => ?_) (fun q7 => ?_)
        ·
          refine yR_m 3 (fun _ _ _ _ => rfl) ?_
          refine wR_gi rfl mO_e mO_4 hm1 rfl ?_
          refine wR_iv rfl rfl mO_e hm1 rfl rfl rfl rfl ?_
          show yR zpg tX12_blame (d + 4) (0, [(0, .ref 221), (1, .int 1), (2, .int (gi m1 221 4))], [], m1) _
          refine yR_m 1 (fun _ _ _ _ => rfl) ?_
          refine wR_gi rfl mO_e mO_8 hm1 rfl ?_
          refine wR_if_le rfl (a := (gi m1 221 8).toInt) rfl (fun _ => ?_) (fun q => by exfalso; omega)
          refine yR_m 2 (fun _ _ _ _ => rfl) ?_
          refine wR_pi rfl mO_e mO_8 hm1 rfl ?_
          have hm_1 : aTm aT0 (si m1 221 8 1) := tm_si mO_e mO_8 hm1 (i32_b _)
          refine yR_m 2 (fun _ _ _ _ => rfl) ?_
          refine wR_pi rfl mO_e mO_9 hm_1 rfl ?_
          have hm_2 : aTm aT0 (si (si m1 221 8 1) 221 9 (gi m1 221 4)) := tm_si mO_e mO_9 hm_1 (i32_b _)
          refine yR_rv rfl ?_
          show yR zpg tX12_having (d + 5) (49, [(0, .ref 221)], [], (si (si m1 221 8 1) 221 9 (gi m1 221 4))) _
          refine yR_m 1 (fun _ _ _ _ => rfl) ?_
          refine wR_gi rfl mO_e mO_8 hm_2 ((gi_sv_ne (by decide)).trans (gi_si_eq mO_e mO_8 hm1)) ?_
          refine wR_if_le rfl (a := 1) rfl (fun q => by exfalso; omega) (fun _ => ?_)
          refine yR_m 4 (fun _ _ _ _ => rfl) ?_
          refine wR_gi rfl mO_e mO_8 hm_2 ((gi_sv_ne (by decide)).trans (gi_si_eq mO_e mO_8 hm1)) ?_
          refine wR_if_ne rfl (a := 1) rfl (fun _ => ?_) (fun q => by exfalso; omega)
          refine yR_m 1 (fun _ _ _ _ => rfl) ?_
          refine wR_gi rfl mO_e mO_8 hm_2 ((gi_sv_ne (by decide)).trans (gi_si_eq mO_e mO_8 hm1)) ?_
          refine wR_if_le rfl (a := 1) rfl (fun q => by exfalso; omega) (fun _ => ?_)
          exact yR_rv rfl (h1 v3 m1 hm1 k2 q4 q5 q6 q7 hm_2)
        ·
          refine yR_m 2 (fun _ _ _ _ => rfl) ?_
          refine wR_gL rfl mO_e mO_7 hm1 rfl ?_
          refine wR_cv rfl rfl mO_e hm1 rfl (c_isOwn hm1 (by omega)) ?_
          rintro _ _ ⟨v8, rfl, rfl, k9⟩
          show yR zpg tX12_having (d + 5) (37, [(0, .ref 221)], [.int v8], m1) _
          refine wR_if_eq rfl (a := (v8).toInt) rfl (fun q10 => ?_) (fun q10 => ?_)
          ·
            refine yR_m 1 (fun _ _ _ _ => rfl) ?_
            refine wR_gi rfl mO_e mO_8 hm1 rfl ?_
            refine wR_if_le rfl (a := (gi m1 221 8).toInt) rfl (fun _ => ?_) (fun q => by exfalso; omega)
            refine yR_m 2 (fun _ _ _ _ => rfl) ?_
            refine wR_gL rfl mO_e mO_7 hm1 rfl ?_
            refine wR_cv rfl rfl mO_e hm1 rfl (c_thingNamed hm1 (by omega)) ?_
            rintro _ _ ⟨v11, rfl, rfl, k12⟩
            show yR zpg tX12_having (d + 5) (68, [(0, .ref 221)], [.int v11], m1) _
            refine yR_m 2 (fun _ _ _ _ => rfl) ?_
            refine wR_gi rfl mO_e mO_8 hm1 rfl ?_
            refine wR_if_ne rfl (a := (gi m1 221 8).toInt) rfl (fun q13 => ?_) (fun q13 => ?_)
            ·
              refine yR_m 1 (fun _ _ _ _ => rfl) ?_
              refine wR_gi rfl mO_e mO_8 hm1 rfl ?_
              refine wR_if_le rfl (a := (gi m1 221 8).toInt) rfl (fun _ => ?_) (fun q => by exfalso; omega)
              refine yR_m 1 (fun _ _ _ _ => rfl) ?_
              refine wR_cv rfl rfl mO_e hm1 rfl (h_ahead6 (by omega) hm1 rfl rfl (s1 v3 m1 hm1 k2 q4 q5 q6 q7 v8 k9 q10 v11 k12 q13)) ?_
              rintro _ m14 ⟨rfl, hI14, k15⟩
              show yR zpg tX12_having (d + 5) (118, [(1, .int v11), (0, .ref 221)], [], m14) _
              refine yR_m 1 (fun _ _ _ _ => rfl) ?_
              refine wR_gr rfl mO_e mO_23 hI14 ?_
              refine yR_m 1 (fun _ _ _ _ => rfl) ?_
              refine wR_gi rfl mO_e mO_34 hI14 rfl ?_
              refine yR_m 1 (fun _ _ _ _ => rfl) ?_
              refine wN_al (a := (gi m14 221 34).toInt) rfl aR_232 hI14 rfl rfl (by omega) (fun y16 e17 => ?_)
              refine yR_m 4 (fun _ _ _ _ => rfl) ?_
              refine wN_as (a := (gi m14 221 34).toInt) rfl aR_232 hI14 rfl (by omega) ?_
              have hm_3 : aTm aT0 (sx m14 232 (gi m14 221 34) (y16 ||| (1 <<< (v11 &&& 31)))) := tm_sa aR_232 hI14 (s2 v3 m1 hm1 k2 q4 q5 q6 q7 v8 k9 q10 v11 k12 q13 m14 hI14 k15 y16 e17)
              exact yR_rv rfl (h2 v3 m1 hm1 k2 q4 q5 q6 q7 v8 k9 q10 v11 k12 q13 m14 hI14 k15 y16 e17 hm_3)
            ·
              refine yR_m 2 (fun _ _ _ _ => rfl) ?_
              refine wR_ic_eq rfl (a := (v11).toInt) (c := (-1)) rfl tm1 (fun q18 => ?_) (fun q18 => ?_)
              ·
                refine yR_m 3 (fun _ _ _ _ => rfl) ?_
                refine wR_gi rfl mO_e mO_4 hm1 rfl ?_
                refine wR_iv rfl rfl mO_e hm1 rfl rfl rfl rfl ?_
                show yR zpg tX12_blame (d + 4) (0, [(0, .ref 221), (1, .int 3), (2, .int (gi m1 221 4))], [], m1) _
                refine yR_m 1 (fun _ _ _ _ => rfl) ?_
                refine wR_gi rfl mO_e mO_8 hm1 rfl ?_
                refine wR_if_le rfl (a := (gi m1 221 8).toInt) rfl (fun _ => ?_) (fun q => by exfalso; omega)
                refine yR_m 2 (fun _ _ _ _ => rfl) ?_
                refine wR_pi rfl mO_e mO_8 hm1 rfl ?_
                have hm_4 : aTm aT0 (si m1 221 8 3) := tm_si mO_e mO_8 hm1 (i32_b _)
                refine yR_m 2 (fun _ _ _ _ => rfl) ?_
                refine wR_pi rfl mO_e mO_9 hm_4 rfl ?_
                have hm_5 : aTm aT0 (si (si m1 221 8 3) 221 9 (gi m1 221 4)) := tm_si mO_e mO_9 hm_4 (i32_b _)
                refine yR_rv rfl ?_
                show yR zpg tX12_having (d + 5) (106, [(1, .int v11), (0, .ref 221)], [], (si (si m1 221 8 3) 221 9 (gi m1 221 4))) _
                refine yR_m 1 (fun _ _ _ _ => rfl) ?_
                refine wR_gi rfl mO_e mO_8 hm_5 ((gi_sv_ne (by decide)).trans (gi_si_eq mO_e mO_8 hm1)) ?_
                refine wR_if_le rfl (a := 3) rfl (fun q => by exfalso; omega) (fun _ => ?_)
                exact yR_rv rfl (h3 v3 m1 hm1 k2 q4 q5 q6 q7 v8 k9 q10 v11 k12 q13 q18 hm_5)
              ·
                refine yR_m 1 (fun _ _ _ _ => rfl) ?_
                refine wR_gr rfl mO_e mO_23 hm1 ?_
                refine yR_m 1 (fun _ _ _ _ => rfl) ?_
                refine wR_gi rfl mO_e mO_34 hm1 rfl ?_
                refine wN_al (a := (gi m1 221 34).toInt) rfl aR_232 hm1 rfl rfl (by omega) (fun y19 e20 => ?_)
                refine yR_m 1 (fun _ _ _ _ => rfl) ?_
                refine wR_is rfl rfl rfl rfl rfl rfl ?_
                show yR zpg tX12_has2 (d + 4) (0, [(0, .int y19), (1, .int v11)], [], m1) _
                refine yR_m 6 (fun _ _ _ _ => rfl) ?_
                refine wR_ic_ne rfl (a := ((y19 >>> (v11 &&& 31)) &&& 1).toInt) (c := 1) rfl rfl (fun q21 => ?_) (fun q21 => ?_)
                ·
                  refine yR_m 1 (fun _ _ _ _ => rfl) ?_
                  refine yR_rz rfl ⟨by decide, by decide⟩ ?_
                  show yR zpg tX12_having (d + 5) (94, [(1, .int v11), (0, .ref 221)], [.int 0], m1) _
                  refine wR_if_eq rfl (a := 0) rfl (fun _ => ?_) (fun q => by exfalso; omega)
                  refine yR_m 1 (fun _ _ _ _ => rfl) ?_
                  refine wR_gi rfl mO_e mO_8 hm1 rfl ?_
                  refine wR_if_le rfl (a := (gi m1 221 8).toInt) rfl (fun _ => ?_) (fun q => by exfalso; omega)
                  refine yR_m 1 (fun _ _ _ _ => rfl) ?_
                  refine wR_cv rfl rfl mO_e hm1 rfl (h_ahead6 (by omega) hm1 rfl rfl (s3 v3 m1 hm1 k2 q4 q5 q6 q7 v8 k9 q10 v11 k12 q13 q18 y19 e20 q21)) ?_
                  rintro _ m22 ⟨rfl, hI22, k23⟩
                  show yR zpg tX12_having (d + 5) (118, [(1, .int v11), (0, .ref 221)], [], m22) _
                  refine yR_m 1 (fun _ _ _ _ => rfl) ?_
                  refine wR_gr rfl mO_e mO_23 hI22 ?_
                  refine yR_m 1 (fun _ _ _ _ => rfl) ?_
                  refine wR_gi rfl mO_e mO_34 hI22 rfl ?_
                  refine yR_m 1 (fun _ _ _ _ => rfl) ?_
                  refine wN_al (a := (gi m22 221 34).toInt) rfl aR_232 hI22 rfl rfl (by omega) (fun y24 e25 => ?_)
                  refine yR_m 4 (fun _ _ _ _ => rfl) ?_
                  refine wN_as (a := (gi m22 221 34).toInt) rfl aR_232 hI22 rfl (by omega) ?_
                  have hm_6 : aTm aT0 (sx m22 232 (gi m22 221 34) (y24 ||| (1 <<< (v11 &&& 31)))) := tm_sa aR_232 hI22 (s4 v3 m1 hm1 k2 q4 q5 q6 q7 v8 k9 q10 v11 k12 q13 q18 y19 e20 q21 m22 hI22 k23 y24 e25)
                  exact yR_rv rfl (h4 v3 m1 hm1 k2 q4 q5 q6 q7 v8 k9 q10 v11 k12 q13 q18 y19 e20 q21 m22 hI22 k23 y24 e25 hm_6)
                ·
                  refine yR_m 2 (fun _ _ _ _ => rfl) ?_
                  refine yR_rz rfl ⟨by decide, by decide⟩ ?_
                  show yR zpg tX12_having (d + 5) (94, [(1, .int v11), (0, .ref 221)], [.int 1], m1) _
                  refine wR_if_eq rfl (a := 1) rfl (fun q => by exfalso; omega) (fun _ => ?_)
                  refine yR_m 3 (fun _ _ _ _ => rfl) ?_
                  refine wR_gi rfl mO_e mO_4 hm1 rfl ?_
                  refine wR_iv rfl rfl mO_e hm1 rfl rfl rfl rfl ?_
                  show yR zpg tX12_blame (d + 4) (0, [(0, .ref 221), (1, .int 3), (2, .int (gi m1 221 4))], [], m1) _
                  refine yR_m 1 (fun _ _ _ _ => rfl) ?_
                  refine wR_gi rfl mO_e mO_8 hm1 rfl ?_
                  refine wR_if_le rfl (a := (gi m1 221 8).toInt) rfl (fun _ => ?_) (fun q => by exfalso; omega)
                  refine yR_m 2 (fun _ _ _ _ => rfl) ?_
                  refine wR_pi rfl mO_e mO_8 hm1 rfl ?_
                  have hm_7 : aTm aT0 (si m1 221 8 3) := tm_si mO_e mO_8 hm1 (i32_b _)
                  refine yR_m 2 (fun _ _ _ _ => rfl) ?_
                  refine wR_pi rfl mO_e mO_9 hm_7 rfl ?_
                  have hm_8 : aTm aT0 (si (si m1 221 8 3) 221 9 (gi m1 221 4)) := tm_si mO_e mO_9 hm_7 (i32_b _)
                  refine yR_rv rfl ?_
                  show yR zpg tX12_having (d + 5) (106, [(1, .int v11), (0, .ref 221)], [], (si (si m1 221 8 3) 221 9 (gi m1 221 4))) _
                  refine yR_m 1 (fun _ _ _ _ => rfl) ?_
                  refine wR_gi rfl mO_e mO_8 hm_8 ((gi_sv_ne (by decide)).trans (gi_si_eq mO_e mO_8 hm1)) ?_
                  refine wR_if_le rfl (a := 3) rfl (fun q => by exfalso; omega) (fun _ => ?_)
                  exact yR_rv rfl (h5 v3 m1 hm1 k2 q4 q5 q6 q7 v8 k9 q10 v11 k12 q13 q18 y19 e20 q21 hm_8)
          ·
            refine yR_m 3 (fun _ _ _ _ => rfl) ?_
            refine wR_gi rfl mO_e mO_4 hm1 rfl ?_
            refine wR_iv rfl rfl mO_e hm1 rfl rfl rfl rfl ?_
            show yR zpg tX12_blame (d + 4) (0, [(0, .ref 221), (1, .int 1), (2, .int (gi m1 221 4))], [], m1) _
            refine yR_m 1 (fun _ _ _ _ => rfl) ?_
            refine wR_gi rfl mO_e mO_8 hm1 rfl ?_
            refine wR_if_le rfl (a := (gi m1 221 8).toInt) rfl (fun _ => ?_) (fun q => by exfalso; omega)
            refine yR_m 2 (fun _ _ _ _ => rfl) ?_
            refine wR_pi rfl mO_e mO_8 hm1 rfl ?_
            have hm_9 : aTm aT0 (si m1 221 8 1) := tm_si mO_e mO_8 hm1 (i32_b _)
            refine yR_m 2 (fun _ _ _ _ => rfl) ?_
            refine wR_pi rfl mO_e mO_9 hm_9 rfl ?_
            have hm_10 : aTm aT0 (si (si m1 221 8 1) 221 9 (gi m1 221 4)) := tm_si mO_e mO_9 hm_9 (i32_b _)
            refine yR_rv rfl ?_
            show yR zpg tX12_having (d + 5) (49, [(0, .ref 221)], [], (si (si m1 221 8 1) 221 9 (gi m1 221 4))) _
            refine yR_m 1 (fun _ _ _ _ => rfl) ?_
            refine wR_gi rfl mO_e mO_8 hm_10 ((gi_sv_ne (by decide)).trans (gi_si_eq mO_e mO_8 hm1)) ?_
            refine wR_if_le rfl (a := 1) rfl (fun q => by exfalso; omega) (fun _ => ?_)
            refine yR_m 4 (fun _ _ _ _ => rfl) ?_
            refine wR_gi rfl mO_e mO_8 hm_10 ((gi_sv_ne (by decide)).trans (gi_si_eq mO_e mO_8 hm1)) ?_
            refine wR_if_ne rfl (a := 1) rfl (fun _ => ?_) (fun q => by exfalso; omega)
            refine yR_m 1 (fun _ _ _ _ => rfl) ?_
            refine wR_gi rfl mO_e mO_8 hm_10 ((gi_sv_ne (by decide)).trans (gi_si_eq mO_e mO_8 hm1)) ?_
            refine wR_if_le rfl (a := 1) rfl (fun q => by exfalso; omega) (fun _ => ?_)
            exact yR_rv rfl (h6 v3 m1 hm1 k2 q4 q5 q6 q7 v8 k9 q10 hm_10)
      ·
        exact yR_rv rfl (h7 v3 m1 hm1 k2 q4 q5 q6 hm1)
    ·
      refine yR_m 3 (fun _ _ _ _ => rfl) ?_
      refine wR_gi rfl mO_e mO_12 hm1 rfl ?_
      refine wR_iv rfl rfl mO_e hm1 rfl rfl rfl rfl ?_
      show yR zpg tX12_blame (d + 3) (0, [(0, .ref 221), (1, .int 1), (2, .int (gi m1 221 12))], [], m1) _
      refine yR_m 1 (fun _ _ _ _ => rfl) ?_
      refine wR_gi rfl mO_e mO_8 hm1 rfl ?_
      refine wR_if_le rfl (a := (gi m1 221 8).toInt) rfl (fun q26 => ?_) (fun q26 => ?_)
      ·
        refine yR_m 2 (fun _ _ _ _ => rfl) ?_
        refine wR_pi rfl mO_e mO_8 hm1 rfl ?_
        have hm_11 : aTm aT0 (si m1 221 8 1) := tm_si mO_e mO_8 hm1 (i32_b _)
        refine yR_m 2 (fun _ _ _ _ => rfl) ?_
        refine wR_pi rfl mO_e mO_9 hm_11 rfl ?_
        have hm_12 : aTm aT0 (si (si m1 221 8 1) 221 9 (gi m1 221 12)) := tm_si mO_e mO_9 hm_11 (i32_b _)
        refine yR_rv rfl ?_
        show yR zpg tX12_lex (d + 4) (17, [(0, .ref 221)], [], (si (si m1 221 8 1) 221 9 (gi m1 221 12))) _
        refine yR_rv rfl ?_
        show yR zpg tX12_having (d + 5) (13, [(0, .ref 221)], [], (si (si m1 221 8 1) 221 9 (gi m1 221 12))) _
        refine yR_m 1 (fun _ _ _ _ => rfl) ?_
        refine wR_gi rfl mO_e mO_8 hm_12 ((gi_sv_ne (by decide)).trans (gi_si_eq mO_e mO_8 hm1)) ?_
        refine wR_if_le rfl (a := 1) rfl (fun q => by exfalso; omega) (fun _ => ?_)
        exact yR_rv rfl (h8 v3 m1 hm1 k2 q4 q5 q26 hm_12)
      ·
        refine yR_rv rfl ?_
        show yR zpg tX12_lex (d + 4) (17, [(0, .ref 221)], [], m1) _
        refine yR_rv rfl ?_
        show yR zpg tX12_having (d + 5) (13, [(0, .ref 221)], [], m1) _
        refine yR_m 1 (fun _ _ _ _ => rfl) ?_
        refine wR_gi rfl mO_e mO_8 hm1 rfl ?_
        refine wR_if_le rfl (a := (gi m1 221 8).toInt) rfl (fun q => by exfalso; omega) (fun _ => ?_)
        exact yR_rv rfl (h9 v3 m1 hm1 k2 q4 q5 q26 hm1)
  ·
    exact yR_rv rfl (h10 v3 m1 hm1 k2 q4 hm1)

theorem h_having (hm : aTm aT0 mem) (hT : tOK mem) (sg : ¬ (gi mem 221 3).toInt = 0) (hd : 6 ≤ d) : yC zpg d 201 [.ref 221] mem (fun r m => r = none ∧ aTm aT0 m ∧ stQ stK mem m) := by
  obtain ⟨d, rfl⟩ : ∃ q, d = q + 6 := ⟨d - 6, by omega⟩
  refine yC_of (t := tX12_having) rfl rfl ?_
  exact w_having hm hT sg
        (fun v3 m1 hm1 k2 q4 q5 q6 q7 hm2 => ⟨rfl, hm2, stQ_b (stQ_t k2.1.1) (fr_sv rfl (fr_sv rfl fr_rf)) (by show 1 ≤ (gi (si (si m1 221 8 1) 221 9 (gi m1 221 4)) 221 8).toInt; rw [((gi_sv_ne (by decide)).trans (gi_eqO (isO_of hm1) (by decide)))]; decide)⟩)
        (fun v3 m1 hm1 k2 q4 q5 q6 q7 v8 k9 q10 v11 k12 q13 => k2.1.1.2.1.1.1.2.2)
        (fun v3 m1 hm1 k2 q4 q5 q6 q7 v8 k9 q10 v11 k12 q13 m14 hI14 k15 y16 e17 => by
          have r0 := mO_r34 hI14
          have r := gR_232 hI14 (i := (gi m14 221 34).toInt) r0.1 (by omega)
          first
            | exact or_rg (by omega) (by omega) (by decide) (by decide) (by omega) (by omega)
            | (exfalso; omega))
        (fun v3 m1 hm1 k2 q4 q5 q6 q7 v8 k9 q10 v11 k12 q13 m14 hI14 k15 y16 e17 hm2 => ⟨rfl, hm2, stQ_sa rfl (stQ_tr (stQ_t k2.1.1) (stQ_t (tQ_a fr_rf k2.1.1.2.1 k2.1.1.2.1.2 id (fun _ => by omega) k15.1)))⟩)
        (fun v3 m1 hm1 k2 q4 q5 q6 q7 v8 k9 q10 v11 k12 q13 q18 hm2 => ⟨rfl, hm2, stQ_b (stQ_t k2.1.1) (fr_sv rfl (fr_sv rfl fr_rf)) (by show 1 ≤ (gi (si (si m1 221 8 3) 221 9 (gi m1 221 4)) 221 8).toInt; rw [((gi_sv_ne (by decide)).trans (gi_eqO (isO_of hm1) (by decide)))]; decide)⟩)
        (fun v3 m1 hm1 k2 q4 q5 q6 q7 v8 k9 q10 v11 k12 q13 q18 y19 e20 q21 => k2.1.1.2.1.1.1.2.2)
        (fun v3 m1 hm1 k2 q4 q5 q6 q7 v8 k9 q10 v11 k12 q13 q18 y19 e20 q21 m22 hI22 k23 y24 e25 => by
          have r0 := mO_r34 hI22
          have r := gR_232 hI22 (i := (gi m22 221 34).toInt) r0.1 (by omega)
          first
            | exact or_rg (by omega) (by omega) (by decide) (by decide) (by omega) (by omega)
            | (exfalso; omega))
        (fun v3 m1 hm1 k2 q4 q5 q6 q7 v8 k9 q10 v11 k12 q13 q18 y19 e20 q21 m22 hI22 k23 y24 e25 hm2 => ⟨rfl, hm2, stQ_sa rfl (stQ_tr (stQ_t k2.1.1) (stQ_t (tQ_a fr_rf k2.1.1.2.1 k2.1.1.2.1.2 id (fun _ => by omega) k23.1)))⟩)
        (fun v3 m1 hm1 k2 q4 q5 q6 q7 v8 k9 q10 v11 k12 q13 q18 y19 e20 q21 hm2 => ⟨rfl, hm2, stQ_b (stQ_t k2.1.1) (fr_sv rfl (fr_sv rfl fr_rf)) (by show 1 ≤ (gi (si (si m1 221 8 3) 221 9 (gi m1 221 4)) 221 8).toInt; rw [((gi_sv_ne (by decide)).trans (gi_eqO (isO_of hm1) (by decide)))]; decide)⟩)
        (fun v3 m1 hm1 k2 q4 q5 q6 q7 v8 k9 q10 hm2 => ⟨rfl, hm2, stQ_b (stQ_t k2.1.1) (fr_sv rfl (fr_sv rfl fr_rf)) (by show 1 ≤ (gi (si (si m1 221 8 1) 221 9 (gi m1 221 4)) 221 8).toInt; rw [((gi_sv_ne (by decide)).trans (gi_eqO (isO_of hm1) (by decide)))]; decide)⟩)
        (fun v3 m1 hm1 k2 q4 q5 q6 hm2 => ⟨rfl, hm2, stQ_t k2.1.1⟩)
        (fun v3 m1 hm1 k2 q4 q5 q26 hm2 => ⟨rfl, hm2, stQ_b (stQ_t k2.1.1) (fr_sv rfl (fr_sv rfl fr_rf)) (by show 1 ≤ (gi (si (si m1 221 8 1) 221 9 (gi m1 221 12)) 221 8).toInt; rw [((gi_sv_ne (by decide)).trans (gi_eqO (isO_of hm1) (by decide)))]; decide)⟩)
        (fun v3 m1 hm1 k2 q4 q5 q26 hm2 => ⟨rfl, hm2, stQ_t k2.1.1⟩)
        (fun v3 m1 hm1 k2 q4 hm2 => ⟨rfl, hm2, stQ_t k2.1.1⟩)
end HV
