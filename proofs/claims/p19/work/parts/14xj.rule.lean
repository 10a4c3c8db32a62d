/-! a rule told, in the model, by what it means -/
section RR
variable (T : List Int32) (n : Int)
def kS (w : Int) : Int := if w = 0 then 0 else 1
noncomputable def sRea (w : Int) (Q : Qd) (p : Int) : Option (Qd × Int) := oif (¬ w ∈ Qu Q) ((Mch T n w [(kS w, 0, 1, 0)] 0 p).map fun q => ((Qc Q, Qr Q, Qw Q, Qt Q, Qh Q, Qf Q, w :: Qu Q), q))
end RR
section RS
variable {d : Nat} {mr mem m : zM} {T : List Int32} {n p e b : Int} {s : Option Int} {Q : Qd}
theorem mS_fm {ks is : List Nat} {m' : zM} (F : fr ks is m m') (k1 : ks.contains 222 = false) (i2 : is.contains 2 = false) (i3 : is.contains 3 = false) (i5 : is.contains 5 = false) (i6 : is.contains 6 = false) (i7 : is.contains 7 = false) (i8 : is.contains 8 = false) (i12 : is.contains 12 = false) (h : mS T n s m) : mS T n s m' := by
  have e8 : fk m' = fk m := by
    show (gi m' 221 8).toInt = (gi m 221 8).toInt
    rw [fr_gi F i8]
  rcases h with ⟨p, h1, h2, h3⟩ | ⟨h1, h2⟩
  · exact Or.inl ⟨p, h1, by rw [e8]; exact h2, mRd_fm F k1 i2 i3 i5 i6 i7 i12 h3⟩
  · exact Or.inr ⟨h1, by rw [e8]; exact h2⟩
theorem mQ_rd (F : fr rdK rdF mem m) (h : mQ b Q mem) : mQ b Q m := by
  have A : ∀ k, ¬ k = 221 → rdK.contains k = false → ga m k = ga mem k := fun k hk hc => fr_ga F hk hc
  have B : ∀ k, ¬ k = 221 → rdK.contains k = false → gA m k = gA mem k := fun k hk hc => by
    unfold gA
    rw [F.1 k hk hc]
  unfold mQ mQw mQt mQh mQf mQu
  rw [A 223 (by decide) rfl, A 224 (by decide) rfl, A 227 (by decide) rfl, A 228 (by decide) rfl, A 229 (by decide) rfl, A 232 (by decide) rfl, A 233 (by decide) rfl, A 234 (by decide) rfl, A 235 (by decide) rfl, A 236 (by decide) rfl, B 240 (by decide) rfl, B 241 (by decide) rfl]
  exact h
theorem mQ_addU {x v : Int32} {w : Int} (gll : (ga m 236).length = 6) (hb : 0 ≤ b ∧ b ≤ 1) (hw : 0 ≤ w ∧ w ≤ 2) (hx : x.toInt = 3 * b + w) (hv : 0 ≤ v.toInt) (h : mQ b Q m) : mQ b (Qc Q, Qr Q, Qw Q, Qt Q, Qh Q, Qf Q, w :: Qu Q) (sx m 236 x v) := by
  have A : ∀ q, ¬ 236 = q → ga (sx m 236 x v) q = ga m q := fun q hq => ga_sa_ne hq
  have B : ∀ q, gA (sx m 236 x v) q = gA m q := fun q => gA_sa
  obtain ⟨k1, k2, k3, k4, k5, k6⟩ := h
  refine ⟨by rw [A _ (by decide), A _ (by decide)]; exact k1, by unfold mQw; rw [A _ (by decide)]; exact k2, by unfold mQt; rw [A _ (by decide), A _ (by decide), B]; exact k3, by unfold mQh; rw [A _ (by decide)]; exact k4, by unfold mQf; rw [A _ (by decide), A _ (by decide), A _ (by decide), B]; exact k5, fun j j0 j1 => ?_⟩
  show _ ↔ j ∈ w :: Qu Q
  rw [show ga (sx m 236 x v) 236 = (ga m 236).set x.toNatClampNeg v from ga_sa_eq, gn_set hx (by omega) (by omega) (by omega), List.mem_cons]
  by_cases c : j = w
  · rw [if_pos (by omega)]
    exact ⟨fun _ => Or.inl c, fun _ => by omega⟩
  · rw [if_neg (by omega), k6 j j0 j1]
    exact ⟨fun z => Or.inr z, fun z => z.elim (fun y => absurd y c) (fun y => y)⟩
theorem h_rds6 {ts : Int32} {K : Int} (hm : aTm aT0 mem) (h : rdc mem) (hS : mS T n s mem) (hts : (ts.toInt = 0 ∧ K = 0) ∨ (¬ ts.toInt = 0 ∧ K = 1)) (hd : 8 ≤ d) : yC zpg d 190 [.ref 221, .int ts] mem (fun r m => r = none ∧ aTm aT0 m ∧ (rdP mem (gi mem 221 33).toInt (gi mem 221 4).toInt none m ∧ mS T n (s.bind (Mch T n (gi mem 221 35).toInt [(K, 0, 1, 0)] 0)) m)) := by
  refine yC_mono (fun r m q => ?_) (yC_and (h_reads5 hm h hd) (h_rdsF hm h.1 h.2.1 h.2.2 hS hts hd))
  exact ⟨q.1.1, q.1.2.1, q.1.2.2, q.2⟩
set_option maxRecDepth 100000 in
theorem w_reaF {d : Nat} {mem : zM} {P : Option Value → zM → Prop} {T : List Int32} {n : Int} {s : Option Int} {wh : Int32} (hm : aTm aT0 mem) (hT : tOK mem) (sg : ¬ (gi mem 221 3).toInt = 0) (hS : mS T n s mem) (hw : 0 ≤ wh.toInt ∧ wh.toInt ≤ 2) (s1 : ∀ (x1 : Int32), x1.toInt = (3 * (gi mem 221 34).toInt) → ∀ (x3 : Int32), x3.toInt = ((3 * (gi mem 221 34).toInt) + (wh).toInt) → ∀ (y5 : Int32), y5.toInt = (gn (ga mem 236) ((3 * (gi mem 221 34).toInt) + (wh).toInt)) → (gn (ga mem 236) ((3 * (gi mem 221 34).toInt) + (wh).toInt)) = (-1) → ∀ (v10 : Int32) (m8 : zM), aTm aT0 m8 → ((tQ mem m8 ∧ (mS T n (s.bind (cnP T n ((0 : Int) = 0))) m8 ∧ ((v10.toInt = 0 ∧ 1 ≤ (gi m8 221 8).toInt) ∨ (¬ v10.toInt = 0 ∧ (gi m8 221 8).toInt = 0 ∧ (0 : Int) = 0)))) ∧ ((¬ (gi m8 221 8).toInt = 0 ∨ (gi mem 221 8).toInt = 0) ∧ 0 ≤ (gi m8 221 8).toInt ∧ (gi m8 221 34).toInt = (gi mem 221 34).toInt ∧ gn (ga m8 223) (gi m8 221 34).toInt = gn (ga mem 223) (gi mem 221 34).toInt ∧ gn (ga m8 224) (gi m8 221 34).toInt = gn (ga mem 224) (gi mem 221 34).toInt ∧ gn (ga m8 228) (gi m8 221 34).toInt = gn (ga mem 228) (gi mem 221 34).toInt ∧ gn (ga m8 233) (gi m8 221 34).toInt = gn (ga mem 233) (gi mem 221 34).toInt)) → ¬ (v10).toInt = 0 → (wh).toInt = 0 → rdc (sx (si m8 221 35 wh) 236 x3 (gi m8 221 33))) (h1 : ∀ (x1 : Int32), x1.toInt = (3 * (gi mem 221 34).toInt) → ∀ (x3 : Int32), x3.toInt = ((3 * (gi mem 221 34).toInt) + (wh).toInt) → ∀ (y5 : Int32), y5.toInt = (gn (ga mem 236) ((3 * (gi mem 221 34).toInt) + (wh).toInt)) → (gn (ga mem 236) ((3 * (gi mem 221 34).toInt) + (wh).toInt)) = (-1) → ∀ (v10 : Int32) (m8 : zM), aTm aT0 m8 → ((tQ mem m8 ∧ (mS T n (s.bind (cnP T n ((0 : Int) = 0))) m8 ∧ ((v10.toInt = 0 ∧ 1 ≤ (gi m8 221 8).toInt) ∨ (¬ v10.toInt = 0 ∧ (gi m8 221 8).toInt = 0 ∧ (0 : Int) = 0)))) ∧ ((¬ (gi m8 221 8).toInt = 0 ∨ (gi mem 221 8).toInt = 0) ∧ 0 ≤ (gi m8 221 8).toInt ∧ (gi m8 221 34).toInt = (gi mem 221 34).toInt ∧ gn (ga m8 223) (gi m8 221 34).toInt = gn (ga mem 223) (gi mem 221 34).toInt ∧ gn (ga m8 224) (gi m8 221 34).toInt = gn (ga mem 224) (gi mem 221 34).toInt ∧ gn (ga m8 228) (gi m8 221 34).toInt = gn (ga mem 228) (gi mem 221 34).toInt ∧ gn (ga m8 233) (gi m8 221 34).toInt = gn (ga mem 233) (gi mem 221 34).toInt)) → ¬ (v10).toInt = 0 → (wh).toInt = 0 → ∀ (m13 : zM), aTm aT0 m13 → (rdP (sx (si m8 221 35 wh) 236 x3 (gi m8 221 33)) (gi (sx (si m8 221 35 wh) 236 x3 (gi m8 221 33)) 221 33).toInt (gi (sx (si m8 221 35 wh) 236 x3 (gi m8 221 33)) 221 4).toInt none m13 ∧ mS T n ((s.bind (cnP T n ((0 : Int) = 0))).bind (Mch T n (gi (sx (si m8 221 35 wh) 236 x3 (gi m8 221 33)) 221 35).toInt [(0, 0, 1, 0)] 0)) m13) → aTm aT0 (sx m13 237 x3 (gi m13 221 33)) → P none (sx m13 237 x3 (gi m13 221 33))) (s2 : ∀ (x1 : Int32), x1.toInt = (3 * (gi mem 221 34).toInt) → ∀ (x3 : Int32), x3.toInt = ((3 * (gi mem 221 34).toInt) + (wh).toInt) → ∀ (y5 : Int32), y5.toInt = (gn (ga mem 236) ((3 * (gi mem 221 34).toInt) + (wh).toInt)) → (gn (ga mem 236) ((3 * (gi mem 221 34).toInt) + (wh).toInt)) = (-1) → ∀ (v10 : Int32) (m8 : zM), aTm aT0 m8 → ((tQ mem m8 ∧ (mS T n (s.bind (cnP T n ((0 : Int) = 0))) m8 ∧ ((v10.toInt = 0 ∧ 1 ≤ (gi m8 221 8).toInt) ∨ (¬ v10.toInt = 0 ∧ (gi m8 221 8).toInt = 0 ∧ (0 : Int) = 0)))) ∧ ((¬ (gi m8 221 8).toInt = 0 ∨ (gi mem 221 8).toInt = 0) ∧ 0 ≤ (gi m8 221 8).toInt ∧ (gi m8 221 34).toInt = (gi mem 221 34).toInt ∧ gn (ga m8 223) (gi m8 221 34).toInt = gn (ga mem 223) (gi mem 221 34).toInt ∧ gn (ga m8 224) (gi m8 221 34).toInt = gn (ga mem 224) (gi mem 221 34).toInt ∧ gn (ga m8 228) (gi m8 221 34).toInt = gn (ga mem 228) (gi mem 221 34).toInt ∧ gn (ga m8 233) (gi m8 221 34).toInt = gn (ga mem 233) (gi mem 221 34).toInt)) → ¬ (v10).toInt = 0 → ¬ (wh).toInt = 0 → rdc (sx (si m8 221 35 wh) 236 x3 (gi m8 221 33))) (h2 : ∀ (x1 : Int32), x1.toInt = (3 * (gi mem 221 34).toInt) → ∀ (x3 : Int32), x3.toInt = ((3 * (gi mem 221 34).toInt) + (wh).toInt) → ∀ (y5 : Int32), y5.toInt = (gn (ga mem 236) ((3 * (gi mem 221 34).toInt) + (wh).toInt)) → (gn (ga mem 236) ((3 * (gi mem 221 34).toInt) + (wh).toInt)) = (-1) → ∀ (v10 : Int32) (m8 : zM), aTm aT0 m8 → ((tQ mem m8 ∧ (mS T n (s.bind (cnP T n ((0 : Int) = 0))) m8 ∧ ((v10.toInt = 0 ∧ 1 ≤ (gi m8 221 8).toInt) ∨ (¬ v10.toInt = 0 ∧ (gi m8 221 8).toInt = 0 ∧ (0 : Int) = 0)))) ∧ ((¬ (gi m8 221 8).toInt = 0 ∨ (gi mem 221 8).toInt = 0) ∧ 0 ≤ (gi m8 221 8).toInt ∧ (gi m8 221 34).toInt = (gi mem 221 34).toInt ∧ gn (ga m8 223) (gi m8 221 34).toInt = gn (ga mem 223) (gi mem 221 34).toInt ∧ gn (ga m8 224) (gi m8 221 34).toInt = gn (ga mem 224) (gi mem 221 34).toInt ∧ gn (ga m8 228) (gi m8 221 34).toInt = gn (ga mem 228) (gi mem 221 34).toInt ∧ gn (ga m8 233) (gi m8 221 34).toInt = gn (ga mem 233) (gi mem 221 34).toInt)) → ¬ (v10).toInt = 0 → ¬ (wh).toInt = 0 → ∀ (m15 : zM), aTm aT0 m15 → (rdP (sx (si m8 221 35 wh) 236 x3 (gi m8 221 33)) (gi (sx (si m8 221 35 wh) 236 x3 (gi m8 221 33)) 221 33).toInt (gi (sx (si m8 221 35 wh) 236 x3 (gi m8 221 33)) 221 4).toInt none m15 ∧ mS T n ((s.bind (cnP T n ((0 : Int) = 0))).bind (Mch T n (gi (sx (si m8 221 35 wh) 236 x3 (gi m8 221 33)) 221 35).toInt [(1, 0, 1, 0)] 0)) m15) → aTm aT0 (sx m15 237 x3 (gi m15 221 33)) → P none (sx m15 237 x3 (gi m15 221 33))) (h3 : ∀ (x1 : Int32), x1.toInt = (3 * (gi mem 221 34).toInt) → ∀ (x3 : Int32), x3.toInt = ((3 * (gi mem 221 34).toInt) + (wh).toInt) → ∀ (y5 : Int32), y5.toInt = (gn (ga mem 236) ((3 * (gi mem 221 34).toInt) + (wh).toInt)) → (gn (ga mem 236) ((3 * (gi mem 221 34).toInt) + (wh).toInt)) = (-1) → ∀ (v10 : Int32) (m8 : zM), aTm aT0 m8 → ((tQ mem m8 ∧ (mS T n (s.bind (cnP T n ((0 : Int) = 0))) m8 ∧ ((v10.toInt = 0 ∧ 1 ≤ (gi m8 221 8).toInt) ∨ (¬ v10.toInt = 0 ∧ (gi m8 221 8).toInt = 0 ∧ (0 : Int) = 0)))) ∧ ((¬ (gi m8 221 8).toInt = 0 ∨ (gi mem 221 8).toInt = 0) ∧ 0 ≤ (gi m8 221 8).toInt ∧ (gi m8 221 34).toInt = (gi mem 221 34).toInt ∧ gn (ga m8 223) (gi m8 221 34).toInt = gn (ga mem 223) (gi mem 221 34).toInt ∧ gn (ga m8 224) (gi m8 221 34).toInt = gn (ga mem 224) (gi mem 221 34).toInt ∧ gn (ga m8 228) (gi m8 221 34).toInt = gn (ga mem 228) (gi mem 221 34).toInt ∧ gn (ga m8 233) (gi m8 221 34).toInt = gn (ga mem 233) (gi mem 221 34).toInt)) → (v10).toInt = 0 → aTm aT0 m8 → P none m8) (s3 : ∀ (x1 : Int32), x1.toInt = (3 * (gi mem 221 34).toInt) → ∀ (x3 : Int32), x3.toInt = ((3 * (gi mem 221 34).toInt) + (wh).toInt) → ∀ (y5 : Int32), y5.toInt = (gn (ga mem 236) ((3 * (gi mem 221 34).toInt) + (wh).toInt)) → ¬ (gn (ga mem 236) ((3 * (gi mem 221 34).toInt) + (wh).toInt)) = (-1) → ∀ (v19 : Int32) (m17 : zM), aTm aT0 m17 → ((tQ mem m17 ∧ (mS T n (s.bind (cnP T n ((1 : Int) = 0))) m17 ∧ ((v19.toInt = 0 ∧ 1 ≤ (gi m17 221 8).toInt) ∨ (¬ v19.toInt = 0 ∧ (gi m17 221 8).toInt = 0 ∧ (1 : Int) = 0)))) ∧ ((¬ (gi m17 221 8).toInt = 0 ∨ (gi mem 221 8).toInt = 0) ∧ 0 ≤ (gi m17 221 8).toInt ∧ (gi m17 221 34).toInt = (gi mem 221 34).toInt ∧ gn (ga m17 223) (gi m17 221 34).toInt = gn (ga mem 223) (gi mem 221 34).toInt ∧ gn (ga m17 224) (gi m17 221 34).toInt = gn (ga mem 224) (gi mem 221 34).toInt ∧ gn (ga m17 228) (gi m17 221 34).toInt = gn (ga mem 228) (gi mem 221 34).toInt ∧ gn (ga m17 233) (gi m17 221 34).toInt = gn (ga mem 233) (gi mem 221 34).toInt)) → ¬ (v19).toInt = 0 → (wh).toInt = 0 → rdc (sx (si m17 221 35 wh) 236 x3 (gi m17 221 33))) (h4 : ∀ (x1 : Int32), x1.toInt = (3 * (gi mem 221 34).toInt) → ∀ (x3 : Int32), x3.toInt = ((3 * (gi mem 221 34).toInt) + (wh).toInt) → ∀ (y5 : Int32), y5.toInt = (gn (ga mem 236) ((3 * (gi mem 221 34).toInt) + (wh).toInt)) → ¬ (gn (ga mem 236) ((3 * (gi mem 221 34).toInt) + (wh).toInt)) = (-1) → ∀ (v19 : Int32) (m17 : zM), aTm aT0 m17 → ((tQ mem m17 ∧ (mS T n (s.bind (cnP T n ((1 : Int) = 0))) m17 ∧ ((v19.toInt = 0 ∧ 1 ≤ (gi m17 221 8).toInt) ∨ (¬ v19.toInt = 0 ∧ (gi m17 221 8).toInt = 0 ∧ (1 : Int) = 0)))) ∧ ((¬ (gi m17 221 8).toInt = 0 ∨ (gi mem 221 8).toInt = 0) ∧ 0 ≤ (gi m17 221 8).toInt ∧ (gi m17 221 34).toInt = (gi mem 221 34).toInt ∧ gn (ga m17 223) (gi m17 221 34).toInt = gn (ga mem 223) (gi mem 221 34).toInt ∧ gn (ga m17 224) (gi m17 221 34).toInt = gn (ga mem 224) (gi mem 221 34).toInt ∧ gn (ga m17 228) (gi m17 221 34).toInt = gn (ga mem 228) (gi mem 221 34).toInt ∧ gn (ga m17 233) (gi m17 221 34).toInt = gn (ga mem 233) (gi mem 221 34).toInt)) → ¬ (v19).toInt = 0 → (wh).toInt = 0 → ∀ (m22 : zM), aTm aT0 m22 → (rdP (sx (si m17 221 35 wh) 236 x3 (gi m17 221 33)) (gi (sx (si m17 221 35 wh) 236 x3 (gi m17 221 33)) 221 33).toInt (gi (sx (si m17 221 35 wh) 236 x3 (gi m17 221 33)) 221 4).toInt none m22 ∧ mS T n ((s.bind (cnP T n ((1 : Int) = 0))).bind (Mch T n (gi (sx (si m17 221 35 wh) 236 x3 (gi m17 221 33)) 221 35).toInt [(0, 0, 1, 0)] 0)) m22) → aTm aT0 (sx m22 237 x3 (gi m22 221 33)) → P none (sx m22 237 x3 (gi m22 221 33))) (s4 : ∀ (x1 : Int32), x1.toInt = (3 * (gi mem 221 34).toInt) → ∀ (x3 : Int32), x3.toInt = ((3 * (gi mem 221 34).toInt) + (wh).toInt) → ∀ (y5 : Int32), y5.toInt = (gn (ga mem 236) ((3 * (gi mem 221 34).toInt) + (wh).toInt)) → ¬ (gn (ga mem 236) ((3 * (gi mem 221 34).toInt) + (wh).toInt)) = (-1) → ∀ (v19 : Int32) (m17 : zM), aTm aT0 m17 → ((tQ mem m17 ∧ (mS T n (s.bind (cnP T n ((1 : Int) = 0))) m17 ∧ ((v19.toInt = 0 ∧ 1 ≤ (gi m17 221 8).toInt) ∨ (¬ v19.toInt = 0 ∧ (gi m17 221 8).toInt = 0 ∧ (1 : Int) = 0)))) ∧ ((¬ (gi m17 221 8).toInt = 0 ∨ (gi mem 221 8).toInt = 0) ∧ 0 ≤ (gi m17 221 8).toInt ∧ (gi m17 221 34).toInt = (gi mem 221 34).toInt ∧ gn (ga m17 223) (gi m17 221 34).toInt = gn (ga mem 223) (gi mem 221 34).toInt ∧ gn (ga m17 224) (gi m17 221 34).toInt = gn (ga mem 224) (gi mem 221 34).toInt ∧ gn (ga m17 228) (gi m17 221 34).toInt = gn (ga mem 228) (gi mem 221 34).toInt ∧ gn (ga m17 233) (gi m17 221 34).toInt = gn (ga mem 233) (gi mem 221 34).toInt)) → ¬ (v19).toInt = 0 → ¬ (wh).toInt = 0 → rdc (sx (si m17 221 35 wh) 236 x3 (gi m17 221 33))) (h5 : ∀ (x1 : Int32), x1.toInt = (3 * (gi mem 221 34).toInt) → ∀ (x3 : Int32), x3.toInt = ((3 * (gi mem 221 34).toInt) + (wh).toInt) → ∀ (y5 : Int32), y5.toInt = (gn (ga mem 236) ((3 * (gi mem 221 34).toInt) + (wh).toInt)) → ¬ (gn (ga mem 236) ((3 * (gi mem 221 34).toInt) + (wh).toInt)) = (-1) → ∀ (v19 : Int32) (m17 : zM), aTm aT0 m17 → ((tQ mem m17 ∧ (mS T n (s.bind (cnP T n ((1 : Int) = 0))) m17 ∧ ((v19.toInt = 0 ∧ 1 ≤ (gi m17 221 8).toInt) ∨ (¬ v19.toInt = 0 ∧ (gi m17 221 8).toInt = 0 ∧ (1 : Int) = 0)))) ∧ ((¬ (gi m17 221 8).toInt = 0 ∨ (gi mem 221 8).toInt = 0) ∧ 0 ≤ (gi m17 221 8).toInt ∧ (gi m17 221 34).toInt = (gi mem 221 34).toInt ∧ gn (ga m17 223) (gi m17 221 34).toInt = gn (ga mem 223) (gi mem 221 34).toInt ∧ gn (ga m17 224) (gi m17 221 34).toInt = gn (ga mem 224) (gi mem 221 34).toInt ∧ gn (ga m17 228) (gi m17 221 34).toInt = gn (ga mem 228) (gi mem 221 34).toInt ∧ gn (ga m17 233) (gi m17 221 34).toInt = gn (ga mem 233) (gi mem 221 34).toInt)) → ¬ (v19).toInt = 0 → ¬ (wh).toInt = 0 → ∀ (m24 : zM), aTm aT0 m24 → (rdP (sx (si m17 221 35 wh) 236 x3 (gi m17 221 33)) (gi (sx (si m17 221 35 wh) 236 x3 (gi m17 221 33)) 221 33).toInt (gi (sx (si m17 221 35 wh) 236 x3 (gi m17 221 33)) 221 4).toInt none m24 ∧ mS T n ((s.bind (cnP T n ((1 : Int) = 0))).bind (Mch T n (gi (sx (si m17 221 35 wh) 236 x3 (gi m17 221 33)) 221 35).toInt [(1, 0, 1, 0)] 0)) m24) → aTm aT0 (sx m24 237 x3 (gi m24 221 33)) → P none (sx m24 237 x3 (gi m24 221 33))) (h6 : ∀ (x1 : Int32), x1.toInt = (3 * (gi mem 221 34).toInt) → ∀ (x3 : Int32), x3.toInt = ((3 * (gi mem 221 34).toInt) + (wh).toInt) → ∀ (y5 : Int32), y5.toInt = (gn (ga mem 236) ((3 * (gi mem 221 34).toInt) + (wh).toInt)) → ¬ (gn (ga mem 236) ((3 * (gi mem 221 34).toInt) + (wh).toInt)) = (-1) → ∀ (v19 : Int32) (m17 : zM), aTm aT0 m17 → ((tQ mem m17 ∧ (mS T n (s.bind (cnP T n ((1 : Int) = 0))) m17 ∧ ((v19.toInt = 0 ∧ 1 ≤ (gi m17 221 8).toInt) ∨ (¬ v19.toInt = 0 ∧ (gi m17 221 8).toInt = 0 ∧ (1 : Int) = 0)))) ∧ ((¬ (gi m17 221 8).toInt = 0 ∨ (gi mem 221 8).toInt = 0) ∧ 0 ≤ (gi m17 221 8).toInt ∧ (gi m17 221 34).toInt = (gi mem 221 34).toInt ∧ gn (ga m17 223) (gi m17 221 34).toInt = gn (ga mem 223) (gi mem 221 34).toInt ∧ gn (ga m17 224) (gi m17 221 34).toInt = gn (ga mem 224) (gi mem 221 34).toInt ∧ gn (ga m17 228) (gi m17 221 34).toInt = gn (ga mem 228) (gi mem 221 34).toInt ∧ gn (ga m17 233) (gi m17 221 34).toInt = gn (ga mem 233) (gi mem 221 34).toInt)) → (v19).toInt = 0 → aTm aT0 m17 → P none m17) : yR zpg tX12_reading (d + 9) (0, [(0, .ref 221), (1, .int wh)], [], mem) P := by
  obtain ⟨i0, i1⟩ := mO_r34 hm
  have th := gR_228 hm (i := (gi mem 221 34).toInt) i0 (by omega)
  have fki := gR_233 hm (i := (gi mem 221 34).toInt) i0 (by omega)
  refine yR_m 2 (fun _ _ _ _ => rfl) ?_
  refine wR_gi rfl mO_e mO_34 hm rfl ?_
  refine wN_mul (a := 3) (b := (gi mem 221 34).toInt) rfl rfl rfl (by omega) (fun x1 e2 => ?_)
  refine yR_m 1 (fun _ _ _ _ => rfl) ?_
  refine wN_add (a := (3 * (gi mem 221 34).toInt)) (b := (wh).toInt) rfl e2 rfl (by omega) (fun x3 e4 => ?_)
  refine yR_m 3 (fun _ _ _ _ => rfl) ?_
  refine wR_gr rfl mO_e mO_27 hm ?_
  refine yR_m 1 (fun _ _ _ _ => rfl) ?_
  refine wN_al (a := ((3 * (gi mem 221 34).toInt) + (wh).toInt)) rfl aR_236 hm rfl e4 (by omega) (fun y5 e6 => ?_)
  refine yR_m 1 (fun _ _ _ _ => rfl) ?_
  refine wR_ic_eq rfl (a := (gn (ga mem 236) ((3 * (gi mem 221 34).toInt) + (wh).toInt))) (c := (-1)) e6 tm1 (fun q7 => ?_) (fun q7 => ?_)
  ·
    refine yR_m 1 (fun _ _ _ _ => rfl) ?_
    refine wR_cv rfl rfl mO_e hm rfl (pk_i (h_cy (b8 := (gi mem 221 8).toInt) rfl rfl rfl rfl rfl rfl rfl (fun _ _ q => by obtain ⟨_, _, _, q⟩ := q; exact q.1) (h_cnS (T := T) (n := n) (ci := (0 : Int)) rfl hm hT sg hS (by omega)))) ?_
    rintro _ m8 ⟨v10, rfl, hm8, k9⟩
    show yR zpg tX12_reading (d + 9) (28, [(2, .int x3), (0, .ref 221), (1, .int wh)], [.int v10], m8) _
    refine wR_if_ne rfl (a := (v10).toInt) rfl (fun q11 => ?_) (fun q11 => ?_)
    ·
      refine yR_m 2 (fun _ _ _ _ => rfl) ?_
      refine wR_pi rfl mO_e mO_35 hm8 rfl ?_
      have hm_1 : aTm aT0 (si m8 221 35 wh) := tm_si mO_e mO_35 hm8 (i32_b _)
      refine yR_m 1 (fun _ _ _ _ => rfl) ?_
      refine wR_gr rfl mO_e mO_27 hm_1 ?_
      refine yR_m 2 (fun _ _ _ _ => rfl) ?_
      refine wR_gi rfl mO_e mO_33 hm_1 (gi_sv_ne (by decide)) ?_
      refine wN_as (a := ((3 * (gi mem 221 34).toInt) + (wh).toInt)) rfl aR_236 hm_1 e4 (by omega) ?_
      have hm_2 : aTm aT0 (sx (si m8 221 35 wh) 236 x3 (gi m8 221 33)) := tm_sa aR_236 hm_1 (i32_b _)
      refine yR_m 2 (fun _ _ _ _ => rfl) ?_
      refine wR_if_eq rfl (a := (wh).toInt) rfl (fun q12 => ?_) (fun q12 => ?_)
      ·
        refine yR_m 1 (fun _ _ _ _ => rfl) ?_
        refine wR_cv rfl rfl mO_e hm_2 rfl (h_rds6 (T := T) (n := n) (s := (s.bind (cnP T n ((0 : Int) = 0)))) (K := 0) hm_2 (s1 x1 e2 x3 e4 y5 e6 q7 v10 m8 hm8 k9 q11 q12) (mS_fm (ks := [236]) (is := [35]) (fr_sa rfl (fr_sv rfl (fr_rf))) rfl rfl rfl rfl rfl rfl rfl rfl k9.1.2.1) (by decide) (by omega)) ?_
        rintro _ m13 ⟨rfl, hI13, k14⟩
        show yR zpg tX12_reading (d + 9) (60, [(2, .int x3), (0, .ref 221), (1, .int wh)], [], m13) _
        refine yR_m 1 (fun _ _ _ _ => rfl) ?_
        refine wR_gr rfl mO_e mO_28 hI13 ?_
        refine yR_m 2 (fun _ _ _ _ => rfl) ?_
        refine wR_gi rfl mO_e mO_33 hI13 rfl ?_
        refine wN_as (a := ((3 * (gi mem 221 34).toInt) + (wh).toInt)) rfl aR_237 hI13 e4 (by omega) ?_
        have hm_3 : aTm aT0 (sx m13 237 x3 (gi m13 221 33)) := tm_sa aR_237 hI13 (i32_b _)
        exact yR_rv rfl (h1 x1 e2 x3 e4 y5 e6 q7 v10 m8 hm8 k9 q11 q12 m13 hI13 k14 hm_3)
      ·
        refine yR_m 2 (fun _ _ _ _ => rfl) ?_
        refine wR_cv rfl rfl mO_e hm_2 rfl (h_rds6 (T := T) (n := n) (s := (s.bind (cnP T n ((0 : Int) = 0)))) (K := 1) hm_2 (s2 x1 e2 x3 e4 y5 e6 q7 v10 m8 hm8 k9 q11 q12) (mS_fm (ks := [236]) (is := [35]) (fr_sa rfl (fr_sv rfl (fr_rf))) rfl rfl rfl rfl rfl rfl rfl rfl k9.1.2.1) (by decide) (by omega)) ?_
        rintro _ m15 ⟨rfl, hI15, k16⟩
        show yR zpg tX12_reading (d + 9) (60, [(2, .int x3), (0, .ref 221), (1, .int wh)], [], m15) _
        refine yR_m 1 (fun _ _ _ _ => rfl) ?_
        refine wR_gr rfl mO_e mO_28 hI15 ?_
        refine yR_m 2 (fun _ _ _ _ => rfl) ?_
        refine wR_gi rfl mO_e mO_33 hI15 rfl ?_
        refine wN_as (a := ((3 * (gi mem 221 34).toInt) + (wh).toInt)) rfl aR_237 hI15 e4 (by omega) ?_
        have hm_4 : aTm aT0 (sx m15 237 x3 (gi m15 221 33)) := tm_sa aR_237 hI15 (i32_b _)
        exact yR_rv rfl (h2 x1 e2 x3 e4 y5 e6 q7 v10 m8 hm8 k9 q11 q12 m15 hI15 k16 hm_4)
    ·
      exact yR_rv rfl (h3 x1 e2 x3 e4 y5 e6 q7 v10 m8 hm8 k9 q11 hm8)
  ·
    refine yR_m 2 (fun _ _ _ _ => rfl) ?_
    refine wR_cv rfl rfl mO_e hm rfl (pk_i (h_cy (b8 := (gi mem 221 8).toInt) rfl rfl rfl rfl rfl rfl rfl (fun _ _ q => by obtain ⟨_, _, _, q⟩ := q; exact q.1) (h_cnS (T := T) (n := n) (ci := (1 : Int)) rfl hm hT sg hS (by omega)))) ?_
    rintro _ m17 ⟨v19, rfl, hm17, k18⟩
    show yR zpg tX12_reading (d + 9) (28, [(2, .int x3), (0, .ref 221), (1, .int wh)], [.int v19], m17) _
    refine wR_if_ne rfl (a := (v19).toInt) rfl (fun q20 => ?_) (fun q20 => ?_)
    ·
      refine yR_m 2 (fun _ _ _ _ => rfl) ?_
      refine wR_pi rfl mO_e mO_35 hm17 rfl ?_
      have hm_5 : aTm aT0 (si m17 221 35 wh) := tm_si mO_e mO_35 hm17 (i32_b _)
      refine yR_m 1 (fun _ _ _ _ => rfl) ?_
      refine wR_gr rfl mO_e mO_27 hm_5 ?_
      refine yR_m 2 (fun _ _ _ _ => rfl) ?_
      refine wR_gi rfl mO_e mO_33 hm_5 (gi_sv_ne (by decide)) ?_
      refine wN_as (a := ((3 * (gi mem 221 34).toInt) + (wh).toInt)) rfl aR_236 hm_5 e4 (by omega) ?_
      have hm_6 : aTm aT0 (sx (si m17 221 35 wh) 236 x3 (gi m17 221 33)) := tm_sa aR_236 hm_5 (i32_b _)
      refine yR_m 2 (fun _ _ _ _ => rfl) ?_
      refine wR_if_eq rfl (a := (wh).toInt) rfl (fun q21 => ?_) (fun q21 => ?_)
      ·
        refine yR_m 1 (fun _ _ _ _ => rfl) ?_
        refine wR_cv rfl rfl mO_e hm_6 rfl (h_rds6 (T := T) (n := n) (s := (s.bind (cnP T n ((1 : Int) = 0)))) (K := 0) hm_6 (s3 x1 e2 x3 e4 y5 e6 q7 v19 m17 hm17 k18 q20 q21) (mS_fm (ks := [236]) (is := [35]) (fr_sa rfl (fr_sv rfl (fr_rf))) rfl rfl rfl rfl rfl rfl rfl rfl k18.1.2.1) (by decide) (by omega)) ?_
        rintro _ m22 ⟨rfl, hI22, k23⟩
        show yR zpg tX12_reading (d + 9) (60, [(2, .int x3), (0, .ref 221), (1, .int wh)], [], m22) _
        refine yR_m 1 (fun _ _ _ _ => rfl) ?_
        refine wR_gr rfl mO_e mO_28 hI22 ?_
        refine yR_m 2 (fun _ _ _ _ => rfl) ?_
        refine wR_gi rfl mO_e mO_33 hI22 rfl ?_
        refine wN_as (a := ((3 * (gi mem 221 34).toInt) + (wh).toInt)) rfl aR_237 hI22 e4 (by omega) ?_
        have hm_7 : aTm aT0 (sx m22 237 x3 (gi m22 221 33)) := tm_sa aR_237 hI22 (i32_b _)
        exact yR_rv rfl (h4 x1 e2 x3 e4 y5 e6 q7 v19 m17 hm17 k18 q20 q21 m22 hI22 k23 hm_7)
      ·
        refine yR_m 2 (fun _ _ _ _ => rfl) ?_
        refine wR_cv rfl rfl mO_e hm_6 rfl (h_rds6 (T := T) (n := n) (s := (s.bind (cnP T n ((1 : Int) = 0)))) (K := 1) hm_6 (s4 x1 e2 x3 e4 y5 e6 q7 v19 m17 hm17 k18 q20 q21) (mS_fm (ks := [236]) (is := [35]) (fr_sa rfl (fr_sv rfl (fr_rf))) rfl rfl rfl rfl rfl rfl rfl rfl k18.1.2.1) (by decide) (by omega)) ?_
        rintro _ m24 ⟨rfl, hI24, k25⟩
        show yR zpg tX12_reading (d + 9) (60, [(2, .int x3), (0, .ref 221), (1, .int wh)], [], m24) _
        refine yR_m 1 (fun _ _ _ _ => rfl) ?_
        refine wR_gr rfl mO_e mO_28 hI24 ?_
        refine yR_m 2 (fun _ _ _ _ => rfl) ?_
        refine wR_gi rfl mO_e mO_33 hI24 rfl ?_
        refine wN_as (a := ((3 * (gi mem 221 34).toInt) + (wh).toInt)) rfl aR_237 hI24 e4 (by omega) ?_
        have hm_8 : aTm aT0 (sx m24 237 x3 (gi m24 221 33)) := tm_sa aR_237 hI24 (i32_b _)
        exact yR_rv rfl (h5 x1 e2 x3 e4 y5 e6 q7 v19 m17 hm17 k18 q20 q21 m24 hI24 k25 hm_8)
    ·
      exact yR_rv rfl (h6 x1 e2 x3 e4 y5 e6 q7 v19 m17 hm17 k18 q20 hm17)

theorem h_reaF {p0 : Int} {wh : Int32} (hm : aTm aT0 mem) (h : SI mr mem) (h8 : (gi mem 221 8).toInt = 0) (sg : ¬ (gi mem 221 3).toInt = 0) (hw : 0 ≤ wh.toInt ∧ wh.toInt ≤ 2) (hS : mS T n s mem) (hs : s = some p0) (hb : (gi mem 221 34).toInt = b) (hQ : mQ b Q mem) (hd : 10 ≤ d) : yC zpg d 203 [.ref 221, .int wh] mem (fun r m => stR T n b (sRea T n wh.toInt Q (tkf T n p0).2) m) := by
  obtain ⟨d, rfl⟩ : ∃ q, d = q + 10 := ⟨d - 10, by omega⟩
  have hT := h.2.1
  have h4 := (h.2.2.2 h8).2.1
  have E1 := cn_s (T := T) (n := n) (c := ((0 : Int) = 0)) hs rfl
  obtain ⟨i0, i1⟩ := mO_r34 hm
  have hb01 : 0 ≤ b ∧ b ≤ 1 := by omega
  have hu : ¬ gn (ga mem 236) (3 * (gi mem 221 34).toInt + wh.toInt) = -1 ↔ wh.toInt ∈ Qu Q := by
    rw [hb]
    exact hQ.2.2.2.2.2 _ hw.1 (by omega)
  refine yC_of (t := tX12_reading) rfl rfl ?_
  exact w_reaF (T := T) (n := n) (s := s) hm hT sg hS hw
        (fun x1 e2 x3 e4 y5 e6 q7 v10 m8 hm8 k9 q11 q12 => by
          have S1 := SI_t h k9.1.1
          have gt := k9.1.1.2.2.2
          have F : fr [236] [35] m8 (sx (si m8 221 35 wh) 236 x3 (gi m8 221 33)) := fr_sa rfl (fr_sv rfl fr_rf)
          refine ⟨tOK_fr F rfl rfl rfl rfl (by show 0 ≤ (gi _ 221 8).toInt; rw [fr_gi F rfl]; omega) S1.2.1, ?_, fun z => ?_⟩
          · show (gi _ 221 34).toInt = 1 - (gi _ 221 13).toInt
            rw [fr_gi F (i := 34) rfl, fr_gi F (i := 13) rfl]; exact S1.2.2.1
          · rw [fr_gi F (i := 8) rfl] at z
            have g2 := (gt z).2
            have c1 : gi m8 221 33 = gi mem 221 33 := fr_gi k9.1.1.1 rfl
            rw [fr_gi F (i := 33) rfl, fr_gi F (i := 4) rfl, c1]
            omega)
        (fun x1 e2 x3 e4 y5 e6 q7 v10 m8 hm8 k9 q11 q12 m13 hI13 k14 hm2 => by
          have e35 : gi (sx (si m8 221 35 wh) 236 x3 (gi m8 221 33)) 221 35 = wh := ((gi_sa).trans (gi_si_eq mO_e mO_35 hm8))
          have K := k14.2
          rw [E1, e35] at K
          have nu : ¬ wh.toInt ∈ Qu Q := fun w => (hu.2 w) (by omega)
          have k1 : kS wh.toInt = 0 := by
            unfold kS
            first
              | exact if_pos (by omega)
              | exact if_neg (by omega)
          have r33 : 0 ≤ (gi m8 221 33).toInt := by
            have c1 : gi m8 221 33 = gi mem 221 33 := fr_gi k9.1.1.1 rfl
            rw [c1]
            omega
          rcases K with ⟨q, e, f0, r0⟩ | ⟨e, f1⟩
          · have e' : Mch T n wh.toInt [(0, 0, 1, 0)] 0 (tkf T n p0).2 = some q := e
            refine Or.inl ⟨_, q, by unfold sRea; rw [oif_t nu, k1, e']; rfl, by show (gi _ 221 8).toInt = 0; rw [gi_sa]; exact f0, mRd_sa (by decide) r0, ?_⟩
            refine mQ_o (by decide) (mQ_rd k14.1.2.2.1.1.1 (mQ_addU (by rw [show ga (si m8 221 35 wh) 236 = ga m8 236 from fr_ga (ks := []) (is := [35]) (fr_sv rfl fr_rf) (by decide) rfl]; exact gl_236 hm8) hb01 hw (by omega) (by omega) (mQ_fr (is := [35]) (fr_sv rfl fr_rf) (mQ_fr k9.1.1.1 hQ))))
          · have e' : Mch T n wh.toInt [(0, 0, 1, 0)] 0 (tkf T n p0).2 = none := e
            exact stR_no (by unfold sRea; rw [oif_t nu, k1, e']; rfl) (by show 1 ≤ (gi _ 221 8).toInt; rw [gi_sa]; exact f1))
        (fun x1 e2 x3 e4 y5 e6 q7 v10 m8 hm8 k9 q11 q12 => by
          have S1 := SI_t h k9.1.1
          have gt := k9.1.1.2.2.2
          have F : fr [236] [35] m8 (sx (si m8 221 35 wh) 236 x3 (gi m8 221 33)) := fr_sa rfl (fr_sv rfl fr_rf)
          refine ⟨tOK_fr F rfl rfl rfl rfl (by show 0 ≤ (gi _ 221 8).toInt; rw [fr_gi F rfl]; omega) S1.2.1, ?_, fun z => ?_⟩
          · show (gi _ 221 34).toInt = 1 - (gi _ 221 13).toInt
            rw [fr_gi F (i := 34) rfl, fr_gi F (i := 13) rfl]; exact S1.2.2.1
          · rw [fr_gi F (i := 8) rfl] at z
            have g2 := (gt z).2
            have c1 : gi m8 221 33 = gi mem 221 33 := fr_gi k9.1.1.1 rfl
            rw [fr_gi F (i := 33) rfl, fr_gi F (i := 4) rfl, c1]
            omega)
        (fun x1 e2 x3 e4 y5 e6 q7 v10 m8 hm8 k9 q11 q12 m15 hI15 k16 hm2 => by
          have e35 : gi (sx (si m8 221 35 wh) 236 x3 (gi m8 221 33)) 221 35 = wh := ((gi_sa).trans (gi_si_eq mO_e mO_35 hm8))
          have K := k16.2
          rw [E1, e35] at K
          have nu : ¬ wh.toInt ∈ Qu Q := fun w => (hu.2 w) (by omega)
          have k1 : kS wh.toInt = 1 := by
            unfold kS
            first
              | exact if_pos (by omega)
              | exact if_neg (by omega)
          have r33 : 0 ≤ (gi m8 221 33).toInt := by
            have c1 : gi m8 221 33 = gi mem 221 33 := fr_gi k9.1.1.1 rfl
            rw [c1]
            omega
          rcases K with ⟨q, e, f0, r0⟩ | ⟨e, f1⟩
          · have e' : Mch T n wh.toInt [(1, 0, 1, 0)] 0 (tkf T n p0).2 = some q := e
            refine Or.inl ⟨_, q, by unfold sRea; rw [oif_t nu, k1, e']; rfl, by show (gi _ 221 8).toInt = 0; rw [gi_sa]; exact f0, mRd_sa (by decide) r0, ?_⟩
            refine mQ_o (by decide) (mQ_rd k16.1.2.2.1.1.1 (mQ_addU (by rw [show ga (si m8 221 35 wh) 236 = ga m8 236 from fr_ga (ks := []) (is := [35]) (fr_sv rfl fr_rf) (by decide) rfl]; exact gl_236 hm8) hb01 hw (by omega) (by omega) (mQ_fr (is := [35]) (fr_sv rfl fr_rf) (mQ_fr k9.1.1.1 hQ))))
          · have e' : Mch T n wh.toInt [(1, 0, 1, 0)] 0 (tkf T n p0).2 = none := e
            exact stR_no (by unfold sRea; rw [oif_t nu, k1, e']; rfl) (by show 1 ≤ (gi _ 221 8).toInt; rw [gi_sa]; exact f1))
        (fun x1 e2 x3 e4 y5 e6 q7 v10 m8 hm8 k9 q11 hm2 => by
          have K1 := k9.1.2.1
          rw [E1] at K1
          exfalso
          rcases K1 with ⟨q, -, w, -⟩ | ⟨w, -⟩
          · have w2 : (gi m8 221 8).toInt = 0 := w
            omega
          · cases w)
        (fun x1 e2 x3 e4 y5 e6 q7 v19 m17 hm17 k18 q20 q21 => by
          have S1 := SI_t h k18.1.1
          have gt := k18.1.1.2.2.2
          have F : fr [236] [35] m17 (sx (si m17 221 35 wh) 236 x3 (gi m17 221 33)) := fr_sa rfl (fr_sv rfl fr_rf)
          refine ⟨tOK_fr F rfl rfl rfl rfl (by show 0 ≤ (gi _ 221 8).toInt; rw [fr_gi F rfl]; omega) S1.2.1, ?_, fun z => ?_⟩
          · show (gi _ 221 34).toInt = 1 - (gi _ 221 13).toInt
            rw [fr_gi F (i := 34) rfl, fr_gi F (i := 13) rfl]; exact S1.2.2.1
          · rw [fr_gi F (i := 8) rfl] at z
            have g2 := (gt z).2
            have c1 : gi m17 221 33 = gi mem 221 33 := fr_gi k18.1.1.1 rfl
            rw [fr_gi F (i := 33) rfl, fr_gi F (i := 4) rfl, c1]
            omega)
        (fun x1 e2 x3 e4 y5 e6 q7 v19 m17 hm17 k18 q20 q21 m22 hI22 k23 hm2 => by exfalso; omega)
        (fun x1 e2 x3 e4 y5 e6 q7 v19 m17 hm17 k18 q20 q21 => by
          have S1 := SI_t h k18.1.1
          have gt := k18.1.1.2.2.2
          have F : fr [236] [35] m17 (sx (si m17 221 35 wh) 236 x3 (gi m17 221 33)) := fr_sa rfl (fr_sv rfl fr_rf)
          refine ⟨tOK_fr F rfl rfl rfl rfl (by show 0 ≤ (gi _ 221 8).toInt; rw [fr_gi F rfl]; omega) S1.2.1, ?_, fun z => ?_⟩
          · show (gi _ 221 34).toInt = 1 - (gi _ 221 13).toInt
            rw [fr_gi F (i := 34) rfl, fr_gi F (i := 13) rfl]; exact S1.2.2.1
          · rw [fr_gi F (i := 8) rfl] at z
            have g2 := (gt z).2
            have c1 : gi m17 221 33 = gi mem 221 33 := fr_gi k18.1.1.1 rfl
            rw [fr_gi F (i := 33) rfl, fr_gi F (i := 4) rfl, c1]
            omega)
        (fun x1 e2 x3 e4 y5 e6 q7 v19 m17 hm17 k18 q20 q21 m24 hI24 k25 hm2 => by exfalso; omega)
        (fun x1 e2 x3 e4 y5 e6 q7 v19 m17 hm17 k18 q20 hm2 => stR_no (oif_f (fun w => w (hu.1 (by omega)))) (by show 1 ≤ (gi m17 221 8).toInt; omega))
end RS
