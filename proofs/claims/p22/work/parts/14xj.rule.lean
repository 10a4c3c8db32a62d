/-! a rule told, in the model, by what it means -/
section RR
variable (T : List Int32) (n : Int)
def kS (w : Int) : Int := if w = 0 then 0 else 1
noncomputable def sRea (w : Int) (Q : Qd) (p : Int) : Option (Qd × Int) := oif (¬ w ∈ Qu Q) ((Mch T n w [] [(kS w, 0, 1, [])] 0 p).map fun q => ((Qc Q, Qr Q, Qw Q, Qt Q, Qh Q, Qf Q, w :: Qu Q, Qg Q, Qp Q, Qa Q, (w, q.2) :: Qk Q), q.1))
end RR
section RS
variable {d : Nat} {mr mem m : zM} {T : List Int32} {n p e b : Int} {s : Option Int} {Q : Qd}
theorem mS_fm {ks is : List Nat} {m' : zM} (F : fr ks is m m') (k1 : ks.contains 222 = false) (i2 : is.contains 2 = false) (i3 : is.contains 3 = false) (i5 : is.contains 5 = false) (i6 : is.contains 6 = false) (i7 : is.contains 7 = false) (i8 : is.contains 8 = false) (i12 : is.contains 12 = false) (h : mS T n s m) : mS T n s m' := by
  have e8 : fk m' = fk m := by
    show (gi m' 221 8).toInt = (gi m 221 8).toInt
    rw [fr_gi F i8]
  rcases h with ⟨p, h1, h2, h3⟩ | ⟨h1, h2⟩
  · exact Or.inl ⟨p, h1, by rw [e8]; exact h2, mRd_fm F k1 i2 i3 i5 i6 i7 i12 h3⟩
  · exact Or.inr ⟨h1, by rw [e8]; exact h2⟩
/-- a rule more: its code stands from a on -/
theorem mQ_rea {w a : Int} {c : List Int} (hw : 0 ≤ w ∧ w ≤ 2) (nw : ¬ w ∈ Qu Q) (A : ∀ k, 223 ≤ k → k ≤ 235 → ga m k = ga mem k) (B : gA m 240 = gA mem 240 ∧ gA m 241 = gA mem 241) (h36 : ∀ v, 0 ≤ v → v < 3 → gn (ga m 236) (3 * b + v) = if v = w then a else gn (ga mem 236) (3 * b + v)) (h37 : ∀ v, 0 ≤ v → v < 3 → gn (ga m 237) (3 * b + v) = if v = w then a + (c.length : Int) else gn (ga mem 237) (3 * b + v)) (ha : 0 ≤ a ∧ a + (c.length : Int) ≤ 1600) (hb : 0 ≤ b)
    (old : ∀ v, 0 ≤ v → v < 3 → ¬ gn (ga mem 236) (3 * b + v) = -1 → gn (ga mem 237) (3 * b + v) ≤ a) (k38 : ∀ i, 0 ≤ i → i < a → gn (ga m 238) (1600 * b + i) = gn (ga mem 238) (1600 * b + i)) (k39 : ∀ i, 0 ≤ i → i < a → gn (ga m 239) (1600 * b + i) = gn (ga mem 239) (1600 * b + i)) (new : ∀ i : Nat, i < c.length → cdAt b (a + (i : Int)) m = c.getD i 0) (hh : hgt (ga m 238) (1600 * b + a).toNat c.length = some 1) (h : mQ b Q mem) : mQ b (Qc Q, Qr Q, Qw Q, Qt Q, Qh Q, Qf Q, w :: Qu Q, Qg Q, Qp Q, Qa Q, (w, c) :: Qk Q) m := by
  obtain ⟨k1, k2, k3, k4, k5, k6, k7, k8, k9⟩ := h
  have A' : ∀ k, 223 ≤ k ∧ k ≤ 235 → ga m k = ga mem k := fun k hk => A k hk.1 hk.2
  refine ⟨by rw [A' 223 (by decide), A' 224 (by decide)]; exact k1, by unfold mQw; rw [A' 227 (by decide)]; exact k2, by unfold mQt; rw [A' 228 (by decide), A' 229 (by decide), B.1]; exact k3, by unfold mQh; rw [A' 232 (by decide)]; exact k4, by unfold mQf; rw [A' 233 (by decide), A' 234 (by decide), A' 235 (by decide), B.2]; exact k5, fun j j0 j1 => ?_, by unfold mQg; rw [A' 230 (by decide), A' 231 (by decide)]; exact k7, by rw [A' 225 (by decide), A' 226 (by decide)]; exact k8, fun v v0 v1 => ?_⟩
  · show _ ↔ j ∈ w :: Qu Q
    rw [h36 j j0 j1, List.mem_cons]
    by_cases q : j = w
    · rw [if_pos q]
      exact ⟨fun _ => Or.inl q, fun _ => by omega⟩
    · rw [if_neg q, k6 j j0 j1]
      exact ⟨fun z => Or.inr z, fun z => z.elim (fun y => absurd y q) (fun y => y)⟩
  · show (∀ c', ((w, c) :: Qk Q).lookup v = some c' → _) ∧ (v ∈ w :: Qu Q ↔ (((w, c) :: Qk Q).lookup v).isSome = true)
    have K := k9 v v0 v1
    by_cases q : v = w
    · subst q
      have e : ((v, c) :: Qk Q).lookup v = some c := by
        rw [List.lookup_cons]
        simp
      rw [e, h36 v v0 v1, if_pos rfl, h37 v v0 v1, if_pos rfl]
      refine ⟨fun c' hc => ?_, ⟨fun _ => rfl, fun _ => List.mem_cons_self⟩⟩
      cases hc
      exact ⟨⟨ha.1, rfl, ha.2⟩, new, hh⟩
    · have e : ((w, c) :: Qk Q).lookup v = (Qk Q).lookup v := by
        rw [List.lookup_cons]
        have z : (v == w) = false := by
          rw [beq_eq_false_iff_ne]
          exact q
        rw [z]
      rw [e, h36 v v0 v1, if_neg q, h37 v v0 v1, if_neg q, List.mem_cons]
      refine ⟨fun c' hc => ?_, ⟨fun z => K.2.1 (z.elim (fun y => absurd y q) (fun y => y)), fun z => Or.inr (K.2.2 z)⟩⟩
      obtain ⟨⟨u1, u2, u3⟩, u4, u5⟩ := K.1 c' hc
      have u6 := old v v0 v1 (by omega)
      refine ⟨⟨u1, u2, u3⟩, fun i hi => ?_, ?_⟩
      · rw [← u4 i hi]
        unfold cdAt
        rw [k38 _ (by omega) (by omega), k39 _ (by omega) (by omega)]
      · rw [← u5]
        refine hgt_ex (fun i i0 i1 => ?_)
        have z := k38 ((i : Int) - 1600 * b) (by omega) (by omega)
        rw [show 1600 * b + ((i : Int) - 1600 * b) = (i : Int) by omega] at z
        unfold gn at z
        exact Int32.toInt_inj.1 z
/-- what has been printed between two places -/
theorem mC_cut {m0 : zM} {c : List Int} (h : mC m = mC m0 ++ c) (e34 : gi m 221 34 = gi m0 221 34) (h0 : 0 ≤ (gi m0 221 33).toInt) (h1 : 0 ≤ (gi m 221 33).toInt) : (gi m 221 33).toInt = (gi m0 221 33).toInt + (c.length : Int) ∧ ∀ i : Nat, i < c.length → cdAt (inI m0) ((gi m0 221 33).toInt + (i : Int)) m = c.getD i 0 := by
  have e : ∀ m : zM, (mC m).length = (gi m 221 33).toInt.toNat := fun m => by
    unfold mC
    rw [List.length_map, List.length_range]
  have l := congrArg List.length h
  rw [List.length_append, e, e] at l
  have ei : inI m = inI m0 := by
    show (gi m 221 34).toInt = (gi m0 221 34).toInt
    rw [e34]
  refine ⟨by omega, fun i hi => ?_⟩
  have g : (mC m)[(gi m0 221 33).toInt.toNat + i]? = some (cdAt (inI m0) ((gi m0 221 33).toInt + (i : Int)) m) := by
    unfold mC
    rw [List.getElem?_map, List.getElem?_range (by omega), ei]
    show some (cdAt (inI m0) (((gi m0 221 33).toInt.toNat + i : Nat) : Int) m) = _
    rw [show (((gi m0 221 33).toInt.toNat + i : Nat) : Int) = (gi m0 221 33).toInt + (i : Int) by omega]
  rw [h, List.getElem?_append_right (by rw [e]; omega), e, show (gi m0 221 33).toInt.toNat + i - (gi m0 221 33).toInt.toNat = i by omega] at g
  rw [List.getD_eq_getElem?_getD, g]
  rfl
theorem rea_fin {m1 m2 : zM} {is : List Nat} {wh x y v u : Int32} {s4 : Int} {c : List Int} (F1 : fr [] is mem m1) (i3 : is.contains 33 = false) (i4 : is.contains 34 = false) (hm1 : aTm aT0 m1) (hm2 : aTm aT0 m2) (hw : 0 ≤ wh.toInt ∧ wh.toInt ≤ 2) (nw : ¬ wh.toInt ∈ Qu Q) (hb : (gi mem 221 34).toInt = b) (hb01 : 0 ≤ b ∧ b ≤ 1) (hx : x.toInt = 3 * b + wh.toInt) (hy : y.toInt = 3 * b + wh.toInt) (hv : v.toInt = (gi mem 221 33).toInt) (hu : u.toInt = (gi m2 221 33).toInt) (r33 : 0 ≤ (gi mem 221 33).toInt) (cd : cdN mem) (R : rdP (sx (si m1 221 35 wh) 236 x v) (gi (sx (si m1 221 35 wh) 236 x v) 221 33).toInt s4 none m2) (f0 : fk m2 = 0) (kc : mC m2 = mC (sx (si m1 221 35 wh) 236 x v) ++ c) (hQ : mQ b Q mem) : mQ b (Qc Q, Qr Q, Qw Q, Qt Q, Qh Q, Qf Q, wh.toInt :: Qu Q, Qg Q, Qp Q, Qa Q, (wh.toInt, c) :: Qk Q) (sx m2 237 y u) := by
  have G : ∀ k, ¬ k = 221 → ¬ k = 236 → ga (sx (si m1 221 35 wh) 236 x v) k = ga mem k := fun k a c => (ga_sa_ne (Ne.symm c)).trans (ga_sv.trans (fr_ga F1 a rfl))
  have E33 : gi (sx (si m1 221 35 wh) 236 x v) 221 33 = gi mem 221 33 := gi_sa.trans ((gi_sv_ne (by decide)).trans (fr_gi F1 i3))
  have E34 : gi (sx (si m1 221 35 wh) 236 x v) 221 34 = gi mem 221 34 := gi_sa.trans ((gi_sv_ne (by decide)).trans (fr_gi F1 i4))
  have r4 := mO_r4 hm2
  obtain ⟨-, -, ⟨⟨b1, -, -, -, b5, b6, b7, b8⟩, -⟩, b9⟩ := R
  obtain ⟨⟨c1, c2⟩, c3, -⟩ := b9 f0
  have N : ∀ k, ¬ k = 221 → rdK.contains k = false → ga m2 k = ga (sx (si m1 221 35 wh) 236 x v) k := fun k a c => fr_ga b1 a c
  have e34 : gi m2 221 34 = gi (sx (si m1 221 35 wh) 236 x v) 221 34 := fr_gi b1 rfl
  rw [E33] at c1 b5 b6 b8 c3
  have iX : inI (sx (si m1 221 35 wh) 236 x v) = b := by
    show (gi (sx (si m1 221 35 wh) 236 x v) 221 34).toInt = b
    rw [E34]
    exact hb
  have i2 : inI m2 = b := by
    show (gi m2 221 34).toInt = b
    rw [e34, E34]
    exact hb
  rw [iX] at b6 b8
  rw [i2] at c3
  have K := mC_cut kc e34 (by rw [E33]; exact r33) (by omega)
  rw [E33, iX] at K
  have g6 := gl_236 hm1
  have g7 := gl_237 hm2
  have D : ∀ k, ¬ k = 237 → ga (sx m2 237 y u) k = ga m2 k := fun k a => ga_sa_ne (Ne.symm a)
  refine mQ_rea (a := (gi mem 221 33).toInt) hw nw (fun k k0 k1 => ?_) ⟨?_, ?_⟩ (fun z z0 z1 => ?_) (fun z z0 z1 => ?_) ⟨r33, by omega⟩ hb01.1 (fun z z0 z1 q => ?_) (fun i i0 i1 => ?_) (fun i i0 i1 => ?_) (fun i hi => ?_) ?_ hQ
  · refine (D k (by omega)).trans ((N k (by omega) ?_).trans (G k (by omega) (by omega)))
    cases hc : rdK.contains k with
    | false => rfl
    | true =>
      have t := List.contains_iff_mem.1 hc
      simp at t
      omega
  · have z : gA m2 240 = gA (sx (si m1 221 35 wh) 236 x v) 240 := by
      unfold gA
      rw [b1.1 240 (by decide) rfl]
    exact gA_sa.trans (z.trans (gA_sa.trans (gA_sv.trans (fr_gA2 F1 (by decide)))))
  · have z : gA m2 241 = gA (sx (si m1 221 35 wh) 236 x v) 241 := by
      unfold gA
      rw [b1.1 241 (by decide) rfl]
    exact gA_sa.trans (z.trans (gA_sa.trans (gA_sv.trans (fr_gA2 F1 (by decide)))))
  · rw [D 236 (by decide), N 236 (by decide) rfl, show ga (sx (si m1 221 35 wh) 236 x v) 236 = (ga m1 236).set x.toNatClampNeg v from ga_sa_eq.trans (by rw [ga_sv]), gn_set hx (by omega) (by omega) (by omega), fr_ga F1 (k := 236) (by decide) rfl]
    by_cases q : z = wh.toInt
    · rw [if_pos (by omega), if_pos q, hv]
    · rw [if_neg (by omega), if_neg q]
  · rw [show ga (sx m2 237 y u) 237 = (ga m2 237).set y.toNatClampNeg u from ga_sa_eq, gn_set hy (by omega) (by omega) (by omega), N 237 (by decide) rfl, G 237 (by decide) (by decide)]
    by_cases q : z = wh.toInt
    · rw [if_pos (by omega), if_pos q]
      omega
    · rw [if_neg (by omega), if_neg q]
  · have j : inI mem = b := hb
    have k := cd z z0 z1
    rw [j] at k
    exact (k q).1.2.2
  · rw [D 238 (by decide), b6 i i0 i1, G 238 (by decide) (by decide)]
  · rw [D 239 (by decide), b8 i i0 i1, G 239 (by decide) (by decide)]
  · rw [← K.2 i hi]
    unfold cdAt
    rw [D 238 (by decide), D 239 (by decide)]
  · rw [D 238 (by decide), ← c3]
    congr 1
    omega
theorem rea_M {ru K q : Int} {w cc : List Int} (h : Mch T n ru w [(K, 0, 1, [])] 0 p = some (q, cc)) : ∃ c, Mch T n ru [] [(K, 0, 1, [])] 0 p = some (q, c) ∧ cc = w ++ c := by
  rw [Mch_pre] at h
  obtain ⟨z, h1, h2⟩ := om_s h
  cases h2
  exact ⟨z.2, h1, rfl⟩
theorem rea_N {ru K : Int} {w : List Int} (h : Mch T n ru w [(K, 0, 1, [])] 0 p = none) : Mch T n ru [] [(K, 0, 1, [])] 0 p = none := by
  rw [Mch_pre] at h
  cases e : Mch T n ru [] [(K, 0, 1, [])] 0 p with
  | none => rfl
  | some z =>
    rw [e] at h
    cases h
theorem h_rds6 {ts : Int32} {K : Int} (hm : aTm aT0 mem) (h : rdc mem) (hS : mS T n s mem) (hts : (ts.toInt = 0 ∧ K = 0) ∨ (¬ ts.toInt = 0 ∧ K = 1)) (hd : 8 ≤ d) : yC zpg d 190 [.ref 221, .int ts] mem (fun r m => r = none ∧ aTm aT0 m ∧ (rdP mem (gi mem 221 33).toInt (gi mem 221 4).toInt none m ∧ mSc T n (s.bind (Mch T n (gi mem 221 35).toInt (mC mem) [(K, 0, 1, [])] 0)) m)) := by
  refine yC_mono (fun r m q => ?_) (yC_and (h_reads5 hm h hd) (h_rdsF hm h.1 h.2.1 h.2.2 hS hts hd))
  exact ⟨q.1.1, q.1.2.1, q.1.2.2, q.2⟩
set_option maxRecDepth 100000 in
theorem w_reaF {d : Nat} {mem : zM} {P : Option Value → zM → Prop} {T : List Int32} {n : Int} {s : Option Int} {wh : Int32} (hm : aTm aT0 mem) (hT : tOK mem) (sg : ¬ (gi mem 221 3).toInt = 0) (hS : mS T n s mem) (hw : 0 ≤ wh.toInt ∧ wh.toInt ≤ 2) (s1 : ∀ (x1 : Int32), x1.toInt = (3 * (gi mem 221 34).toInt) → ∀ (x3 : Int32), x3.toInt = ((3 * (gi mem 221 34).toInt) + (wh).toInt) → ∀ (y5 : Int32), y5.toInt = (gn (ga mem 236) ((3 * (gi mem 221 34).toInt) + (wh).toInt)) → (gn (ga mem 236) ((3 * (gi mem 221 34).toInt) + (wh).toInt)) = (-1) → ∀ (v10 : Int32) (m8 : zM), aTm aT0 m8 → ((tQ mem m8 ∧ (mS T n (s.bind (cnP T n ((0 : Int) = 0))) m8 ∧ ((v10.toInt = 0 ∧ 1 ≤ (gi m8 221 8).toInt) ∨ (¬ v10.toInt = 0 ∧ (gi m8 221 8).toInt = 0 ∧ (0 : Int) = 0)))) ∧ ((¬ (gi m8 221 8).toInt = 0 ∨ (gi mem 221 8).toInt = 0) ∧ 0 ≤ (gi m8 221 8).toInt ∧ (gi m8 221 34).toInt = (gi mem 221 34).toInt ∧ gn (ga m8 223) (gi m8 221 34).toInt = gn (ga mem 223) (gi mem 221 34).toInt ∧ gn (ga m8 224) (gi m8 221 34).toInt = gn (ga mem 224) (gi mem 221 34).toInt ∧ gn (ga m8 228) (gi m8 221 34).toInt = gn (ga mem 228) (gi mem 221 34).toInt ∧ gn (ga m8 233) (gi m8 221 34).toInt = gn (ga mem 233) (gi mem 221 34).toInt)) → ¬ (v10).toInt = 0 → (wh).toInt = 0 → rdc (sx (si m8 221 35 wh) 236 x3 (gi m8 221 33))) (h1 : ∀ (x1 : Int32), x1.toInt = (3 * (gi mem 221 34).toInt) → ∀ (x3 : Int32), x3.toInt = ((3 * (gi mem 221 34).toInt) + (wh).toInt) → ∀ (y5 : Int32), y5.toInt = (gn (ga mem 236) ((3 * (gi mem 221 34).toInt) + (wh).toInt)) → (gn (ga mem 236) ((3 * (gi mem 221 34).toInt) + (wh).toInt)) = (-1) → ∀ (v10 : Int32) (m8 : zM), aTm aT0 m8 → ((tQ mem m8 ∧ (mS T n (s.bind (cnP T n ((0 : Int) = 0))) m8 ∧ ((v10.toInt = 0 ∧ 1 ≤ (gi m8 221 8).toInt) ∨ (¬ v10.toInt = 0 ∧ (gi m8 221 8).toInt = 0 ∧ (0 : Int) = 0)))) ∧ ((¬ (gi m8 221 8).toInt = 0 ∨ (gi mem 221 8).toInt = 0) ∧ 0 ≤ (gi m8 221 8).toInt ∧ (gi m8 221 34).toInt = (gi mem 221 34).toInt ∧ gn (ga m8 223) (gi m8 221 34).toInt = gn (ga mem 223) (gi mem 221 34).toInt ∧ gn (ga m8 224) (gi m8 221 34).toInt = gn (ga mem 224) (gi mem 221 34).toInt ∧ gn (ga m8 228) (gi m8 221 34).toInt = gn (ga mem 228) (gi mem 221 34).toInt ∧ gn (ga m8 233) (gi m8 221 34).toInt = gn (ga mem 233) (gi mem 221 34).toInt)) → ¬ (v10).toInt = 0 → (wh).toInt = 0 → ∀ (m13 : zM), aTm aT0 m13 → (rdP (sx (si m8 221 35 wh) 236 x3 (gi m8 221 33)) (gi (sx (si m8 221 35 wh) 236 x3 (gi m8 221 33)) 221 33).toInt (gi (sx (si m8 221 35 wh) 236 x3 (gi m8 221 33)) 221 4).toInt none m13 ∧ mSc T n ((s.bind (cnP T n ((0 : Int) = 0))).bind (Mch T n (gi (sx (si m8 221 35 wh) 236 x3 (gi m8 221 33)) 221 35).toInt (mC (sx (si m8 221 35 wh) 236 x3 (gi m8 221 33))) [(0, 0, 1, [])] 0)) m13) → aTm aT0 (sx m13 237 x3 (gi m13 221 33)) → P none (sx m13 237 x3 (gi m13 221 33))) (s2 : ∀ (x1 : Int32), x1.toInt = (3 * (gi mem 221 34).toInt) → ∀ (x3 : Int32), x3.toInt = ((3 * (gi mem 221 34).toInt) + (wh).toInt) → ∀ (y5 : Int32), y5.toInt = (gn (ga mem 236) ((3 * (gi mem 221 34).toInt) + (wh).toInt)) → (gn (ga mem 236) ((3 * (gi mem 221 34).toInt) + (wh).toInt)) = (-1) → ∀ (v10 : Int32) (m8 : zM), aTm aT0 m8 → ((tQ mem m8 ∧ (mS T n (s.bind (cnP T n ((0 : Int) = 0))) m8 ∧ ((v10.toInt = 0 ∧ 1 ≤ (gi m8 221 8).toInt) ∨ (¬ v10.toInt = 0 ∧ (gi m8 221 8).toInt = 0 ∧ (0 : Int) = 0)))) ∧ ((¬ (gi m8 221 8).toInt = 0 ∨ (gi mem 221 8).toInt = 0) ∧ 0 ≤ (gi m8 221 8).toInt ∧ (gi m8 221 34).toInt = (gi mem 221 34).toInt ∧ gn (ga m8 223) (gi m8 221 34).toInt = gn (ga mem 223) (gi mem 221 34).toInt ∧ gn (ga m8 224) (gi m8 221 34).toInt = gn (ga mem 224) (gi mem 221 34).toInt ∧ gn (ga m8 228) (gi m8 221 34).toInt = gn (ga mem 228) (gi mem 221 34).toInt ∧ gn (ga m8 233) (gi m8 221 34).toInt = gn (ga mem 233) (gi mem 221 34).toInt)) → ¬ (v10).toInt = 0 → ¬ (wh).toInt = 0 → rdc (sx (si m8 221 35 wh) 236 x3 (gi m8 221 33))) (h2 : ∀ (x1 : Int32), x1.toInt = (3 * (gi mem 221 34).toInt) → ∀ (x3 : Int32), x3.toInt = ((3 * (gi mem 221 34).toInt) + (wh).toInt) → ∀ (y5 : Int32), y5.toInt = (gn (ga mem 236) ((3 * (gi mem 221 34).toInt) + (wh).toInt)) → (gn (ga mem 236) ((3 * (gi mem 221 34).toInt) + (wh).toInt)) = (-1) → ∀ (v10 : Int32) (m8 : zM), aTm aT0 m8 → ((tQ mem m8 ∧ (mS T n (s.bind (cnP T n ((0 : Int) = 0))) m8 ∧ ((v10.toInt = 0 ∧ 1 ≤ (gi m8 221 8).toInt) ∨ (¬ v10.toInt = 0 ∧ (gi m8 221 8).toInt = 0 ∧ (0 : Int) = 0)))) ∧ ((¬ (gi m8 221 8).toInt = 0 ∨ (gi mem 221 8).toInt = 0) ∧ 0 ≤ (gi m8 221 8).toInt ∧ (gi m8 221 34).toInt = (gi mem 221 34).toInt ∧ gn (ga m8 223) (gi m8 221 34).toInt = gn (ga mem 223) (gi mem 221 34).toInt ∧ gn (ga m8 224) (gi m8 221 34).toInt = gn (ga mem 224) (gi mem 221 34).toInt ∧ gn (ga m8 228) (gi m8 221 34).toInt = gn (ga mem 228) (gi mem 221 34).toInt ∧ gn (ga m8 233) (gi m8 221 34).toInt = gn (ga mem 233) (gi mem 221 34).toInt)) → ¬ (v10).toInt = 0 → ¬ (wh).toInt = 0 → ∀ (m15 : zM), aTm aT0 m15 → (rdP (sx (si m8 221 35 wh) 236 x3 (gi m8 221 33)) (gi (sx (si m8 221 35 wh) 236 x3 (gi m8 221 33)) 221 33).toInt (gi (sx (si m8 221 35 wh) 236 x3 (gi m8 221 33)) 221 4).toInt none m15 ∧ mSc T n ((s.bind (cnP T n ((0 : Int) = 0))).bind (Mch T n (gi (sx (si m8 221 35 wh) 236 x3 (gi m8 221 33)) 221 35).toInt (mC (sx (si m8 221 35 wh) 236 x3 (gi m8 221 33))) [(1, 0, 1, [])] 0)) m15) → aTm aT0 (sx m15 237 x3 (gi m15 221 33)) → P none (sx m15 237 x3 (gi m15 221 33))) (h3 : ∀ (x1 : Int32), x1.toInt = (3 * (gi mem 221 34).toInt) → ∀ (x3 : Int32), x3.toInt = ((3 * (gi mem 221 34).toInt) + (wh).toInt) → ∀ (y5 : Int32), y5.toInt = (gn (ga mem 236) ((3 * (gi mem 221 34).toInt) + (wh).toInt)) → (gn (ga mem 236) ((3 * (gi mem 221 34).toInt) + (wh).toInt)) = (-1) → ∀ (v10 : Int32) (m8 : zM), aTm aT0 m8 → ((tQ mem m8 ∧ (mS T n (s.bind (cnP T n ((0 : Int) = 0))) m8 ∧ ((v10.toInt = 0 ∧ 1 ≤ (gi m8 221 8).toInt) ∨ (¬ v10.toInt = 0 ∧ (gi m8 221 8).toInt = 0 ∧ (0 : Int) = 0)))) ∧ ((¬ (gi m8 221 8).toInt = 0 ∨ (gi mem 221 8).toInt = 0) ∧ 0 ≤ (gi m8 221 8).toInt ∧ (gi m8 221 34).toInt = (gi mem 221 34).toInt ∧ gn (ga m8 223) (gi m8 221 34).toInt = gn (ga mem 223) (gi mem 221 34).toInt ∧ gn (ga m8 224) (gi m8 221 34).toInt = gn (ga mem 224) (gi mem 221 34).toInt ∧ gn (ga m8 228) (gi m8 221 34).toInt = gn (ga mem 228) (gi mem 221 34).toInt ∧ gn (ga m8 233) (gi m8 221 34).toInt = gn (ga mem 233) (gi mem 221 34).toInt)) → (v10).toInt = 0 → aTm aT0 m8 → P none m8) (s3 : ∀ (x1 : Int32), x1.toInt = (3 * (gi mem 221 34).toInt) → ∀ (x3 : Int32), x3.toInt = ((3 * (gi mem 221 34).toInt) + (wh).toInt) → ∀ (y5 : Int32), y5.toInt = (gn (ga mem 236) ((3 * (gi mem 221 34).toInt) + (wh).toInt)) → ¬ (gn (ga mem 236) ((3 * (gi mem 221 34).toInt) + (wh).toInt)) = (-1) → ∀ (v19 : Int32) (m17 : zM), aTm aT0 m17 → ((tQ mem m17 ∧ (mS T n (s.bind (cnP T n ((1 : Int) = 0))) m17 ∧ ((v19.toInt = 0 ∧ 1 ≤ (gi m17 221 8).toInt) ∨ (¬ v19.toInt = 0 ∧ (gi m17 221 8).toInt = 0 ∧ (1 : Int) = 0)))) ∧ ((¬ (gi m17 221 8).toInt = 0 ∨ (gi mem 221 8).toInt = 0) ∧ 0 ≤ (gi m17 221 8).toInt ∧ (gi m17 221 34).toInt = (gi mem 221 34).toInt ∧ gn (ga m17 223) (gi m17 221 34).toInt = gn (ga mem 223) (gi mem 221 34).toInt ∧ gn (ga m17 224) (gi m17 221 34).toInt = gn (ga mem 224) (gi mem 221 34).toInt ∧ gn (ga m17 228) (gi m17 221 34).toInt = gn (ga mem 228) (gi mem 221 34).toInt ∧ gn (ga m17 233) (gi m17 221 34).toInt = gn (ga mem 233) (gi mem 221 34).toInt)) → ¬ (v19).toInt = 0 → (wh).toInt = 0 → rdc (sx (si m17 221 35 wh) 236 x3 (gi m17 221 33))) (h4 : ∀ (x1 : Int32), x1.toInt = (3 * (gi mem 221 34).toInt) → ∀ (x3 : Int32), x3.toInt = ((3 * (gi mem 221 34).toInt) + (wh).toInt) → ∀ (y5 : Int32), y5.toInt = (gn (ga mem 236) ((3 * (gi mem 221 34).toInt) + (wh).toInt)) → ¬ (gn (ga mem 236) ((3 * (gi mem 221 34).toInt) + (wh).toInt)) = (-1) → ∀ (v19 : Int32) (m17 : zM), aTm aT0 m17 → ((tQ mem m17 ∧ (mS T n (s.bind (cnP T n ((1 : Int) = 0))) m17 ∧ ((v19.toInt = 0 ∧ 1 ≤ (gi m17 221 8).toInt) ∨ (¬ v19.toInt = 0 ∧ (gi m17 221 8).toInt = 0 ∧ (1 : Int) = 0)))) ∧ ((¬ (gi m17 221 8).toInt = 0 ∨ (gi mem 221 8).toInt = 0) ∧ 0 ≤ (gi m17 221 8).toInt ∧ (gi m17 221 34).toInt = (gi mem 221 34).toInt ∧ gn (ga m17 223) (gi m17 221 34).toInt = gn (ga mem 223) (gi mem 221 34).toInt ∧ gn (ga m17 224) (gi m17 221 34).toInt = gn (ga mem 224) (gi mem 221 34).toInt ∧ gn (ga m17 228) (gi m17 221 34).toInt = gn (ga mem 228) (gi mem 221 34).toInt ∧ gn (ga m17 233) (gi m17 221 34).toInt = gn (ga mem 233) (gi mem 221 34).toInt)) → ¬ (v19).toInt = 0 → (wh).toInt = 0 → ∀ (m22 : zM), aTm aT0 m22 → (rdP (sx (si m17 221 35 wh) 236 x3 (gi m17 221 33)) (gi (sx (si m17 221 35 wh) 236 x3 (gi m17 221 33)) 221 33).toInt (gi (sx (si m17 221 35 wh) 236 x3 (gi m17 221 33)) 221 4).toInt none m22 ∧ mSc T n ((s.bind (cnP T n ((1 : Int) = 0))).bind (Mch T n (gi (sx (si m17 221 35 wh) 236 x3 (gi m17 221 33)) 221 35).toInt (mC (sx (si m17 221 35 wh) 236 x3 (gi m17 221 33))) [(0, 0, 1, [])] 0)) m22) → aTm aT0 (sx m22 237 x3 (gi m22 221 33)) → P none (sx m22 237 x3 (gi m22 221 33))) (s4 : ∀ (x1 : Int32), x1.toInt = (3 * (gi mem 221 34).toInt) → ∀ (x3 : Int32), x3.toInt = ((3 * (gi mem 221 34).toInt) + (wh).toInt) → ∀ (y5 : Int32), y5.toInt = (gn (ga mem 236) ((3 * (gi mem 221 34).toInt) + (wh).toInt)) → ¬ (gn (ga mem 236) ((3 * (gi mem 221 34).toInt) + (wh).toInt)) = (-1) → ∀ (v19 : Int32) (m17 : zM), aTm aT0 m17 → ((tQ mem m17 ∧ (mS T n (s.bind (cnP T n ((1 : Int) = 0))) m17 ∧ ((v19.toInt = 0 ∧ 1 ≤ (gi m17 221 8).toInt) ∨ (¬ v19.toInt = 0 ∧ (gi m17 221 8).toInt = 0 ∧ (1 : Int) = 0)))) ∧ ((¬ (gi m17 221 8).toInt = 0 ∨ (gi mem 221 8).toInt = 0) ∧ 0 ≤ (gi m17 221 8).toInt ∧ (gi m17 221 34).toInt = (gi mem 221 34).toInt ∧ gn (ga m17 223) (gi m17 221 34).toInt = gn (ga mem 223) (gi mem 221 34).toInt ∧ gn (ga m17 224) (gi m17 221 34).toInt = gn (ga mem 224) (gi mem 221 34).toInt ∧ gn (ga m17 228) (gi m17 221 34).toInt = gn (ga mem 228) (gi mem 221 34).toInt ∧ gn (ga m17 233) (gi m17 221 34).toInt = gn (ga mem 233) (gi mem 221 34).toInt)) → ¬ (v19).toInt = 0 → ¬ (wh).toInt = 0 → rdc (sx (si m17 221 35 wh) 236 x3 (gi m17 221 33))) (h5 : ∀ (x1 : Int32), x1.toInt = (3 * (gi mem 221 34).toInt) → ∀ (x3 : Int32), x3.toInt = ((3 * (gi mem 221 34).toInt) + (wh).toInt) → ∀ (y5 : Int32), y5.toInt = (gn (ga mem 236) ((3 * (gi mem 221 34).toInt) + (wh).toInt)) → ¬ (gn (ga mem 236) ((3 * (gi mem 221 34).toInt) + (wh).toInt)) = (-1) → ∀ (v19 : Int32) (m17 : zM), aTm aT0 m17 → ((tQ mem m17 ∧ (mS T n (s.bind (cnP T n ((1 : Int) = 0))) m17 ∧ ((v19.toInt = 0 ∧ 1 ≤ (gi m17 221 8).toInt) ∨ (¬ v19.toInt = 0 ∧ (gi m17 221 8).toInt = 0 ∧ (1 : Int) = 0)))) ∧ ((¬ (gi m17 221 8).toInt = 0 ∨ (gi mem 221 8).toInt = 0) ∧ 0 ≤ (gi m17 221 8).toInt ∧ (gi m17 221 34).toInt = (gi mem 221 34).toInt ∧ gn (ga m17 223) (gi m17 221 34).toInt = gn (ga mem 223) (gi mem 221 34).toInt ∧ gn (ga m17 224) (gi m17 221 34).toInt = gn (ga mem 224) (gi mem 221 34).toInt ∧ gn (ga m17 228) (gi m17 221 34).toInt = gn (ga mem 228) (gi mem 221 34).toInt ∧ gn (ga m17 233) (gi m17 221 34).toInt = gn (ga mem 233) (gi mem 221 34).toInt)) → ¬ (v19).toInt = 0 → ¬ (wh).toInt = 0 → ∀ (m24 : zM), aTm aT0 m24 → (rdP (sx (si m17 221 35 wh) 236 x3 (gi m17 221 33)) (gi (sx (si m17 221 35 wh) 236 x3 (gi m17 221 33)) 221 33).toInt (gi (sx (si m17 221 35 wh) 236 x3 (gi m17 221 33)) 221 4).toInt none m24 ∧ mSc T n ((s.bind (cnP T n ((1 : Int) = 0))).bind (Mch T n (gi (sx (si m17 221 35 wh) 236 x3 (gi m17 221 33)) 221 35).toInt (mC (sx (si m17 221 35 wh) 236 x3 (gi m17 221 33))) [(1, 0, 1, [])] 0)) m24) → aTm aT0 (sx m24 237 x3 (gi m24 221 33)) → P none (sx m24 237 x3 (gi m24 221 33))) (h6 : ∀ (x1 : Int32), x1.toInt = (3 * (gi mem 221 34).toInt) → ∀ (x3 : Int32), x3.toInt = ((3 * (gi mem 221 34).toInt) + (wh).toInt) → ∀ (y5 : Int32), y5.toInt = (gn (ga mem 236) ((3 * (gi mem 221 34).toInt) + (wh).toInt)) → ¬ (gn (ga mem 236) ((3 * (gi mem 221 34).toInt) + (wh).toInt)) = (-1) → ∀ (v19 : Int32) (m17 : zM), aTm aT0 m17 → ((tQ mem m17 ∧ (mS T n (s.bind (cnP T n ((1 : Int) = 0))) m17 ∧ ((v19.toInt = 0 ∧ 1 ≤ (gi m17 221 8).toInt) ∨ (¬ v19.toInt = 0 ∧ (gi m17 221 8).toInt = 0 ∧ (1 : Int) = 0)))) ∧ ((¬ (gi m17 221 8).toInt = 0 ∨ (gi mem 221 8).toInt = 0) ∧ 0 ≤ (gi m17 221 8).toInt ∧ (gi m17 221 34).toInt = (gi mem 221 34).toInt ∧ gn (ga m17 223) (gi m17 221 34).toInt = gn (ga mem 223) (gi mem 221 34).toInt ∧ gn (ga m17 224) (gi m17 221 34).toInt = gn (ga mem 224) (gi mem 221 34).toInt ∧ gn (ga m17 228) (gi m17 221 34).toInt = gn (ga mem 228) (gi mem 221 34).toInt ∧ gn (ga m17 233) (gi m17 221 34).toInt = gn (ga mem 233) (gi mem 221 34).toInt)) → (v19).toInt = 0 → aTm aT0 m17 → P none m17) : yR zpg tX12_reading (d + 9) (0, [(0, .ref 221), (1, .int wh)], [], mem) P := by
  obtain ⟨i0, i1⟩ := mO_r34 hm
  have th := gR_228 hm (i := (gi mem 221 34).toInt) i0 (by omega)
  have fki := gR_233 hm (i := (gi mem 221 34).toInt) i0 (by omega)
  refine yR_m 2 (fun _ _ _ _ => rfl) ?_
  refine wR_gi rfl mO_e mO_34 hm rfl ?_
  refine wN_mul (a := 3) (b := (gi mem 221 34).toInt) rfl rfl rfl (by omega) (fun x1 e2 => ?_)
  refine yR_m 1 (fun _ _ _ _ => rfl) ?_
  refine wN_add (a := (3 * (gi mem 221 34).toInt)) (b := (wh).toInt) rfl e2 rfl (by omega) (fun x3 e4 => ?_)
  refine yR_m 3 (fun _ _ _ _ => rfl) ?_
  refine wR_gr rfl mO_e mO_27 hm ?_
  refine yR_m 1 (fun _ _ _ _ => rfl) ?_
  refine wN_al (a := ((3 * (gi mem 221 34).toInt) + (wh).toInt)) rfl aR_236 hm rfl e4 (by omega) (fun y5 e6 => ?_)
  refine yR_m 1 (fun _ _ _ _ => rfl) ?_
  refine wR_ic_eq rfl (a := (gn (ga mem 236) ((3 * (gi mem 221 34).toInt) + (wh).toInt))) (c := (-1)) e6 tm1 (fun q7 => ?_) (fun q7 => ?_)
  ·
    refine yR_m 1 (fun _ _ _ _ => rfl) ?_
    refine wR_cv rfl rfl mO_e hm rfl (pk_i (h_cy (b8 := (gi mem 221 8).toInt) rfl rfl rfl rfl rfl rfl rfl (fun _ _ q => by obtain ⟨_, _, _, q⟩ := q; exact q.1) (h_cnS (T := T) (n := n) (ci := (0 : Int)) rfl hm hT sg hS (by omega)))) ?_
    rintro _ m8 ⟨v10, rfl, hm8, k9⟩
    show yR zpg tX12_reading (d + 9) (28, [(2, .int x3), (0, .ref 221), (1, .int wh)], [.int v10], m8) _
    refine wR_if_ne rfl (a := (v10).toInt) rfl (fun q11 => ?_) (fun q11 => ?_)
    ·
      refine yR_m 2 (fun _ _ _ _ => rfl) ?_
      refine wR_pi rfl mO_e mO_35 hm8 rfl ?_
      have hm_1 : aTm aT0 (si m8 221 35 wh) := tm_si mO_e mO_35 hm8 (i32_b _)
      refine yR_m 1 (fun _ _ _ _ => rfl) ?_
      refine wR_gr rfl mO_e mO_27 hm_1 ?_
      refine yR_m 2 (fun _ _ _ _ => rfl) ?_
      refine wR_gi rfl mO_e mO_33 hm_1 (gi_sv_ne (by decide)) ?_
      refine wN_as (a := ((3 * (gi mem 221 34).toInt) + (wh).toInt)) rfl aR_236 hm_1 e4 (by omega) ?_
      have hm_2 : aTm aT0 (sx (si m8 221 35 wh) 236 x3 (gi m8 221 33)) := tm_sa aR_236 hm_1 (i32_b _)
      refine yR_m 2 (fun _ _ _ _ => rfl) ?_
      refine wR_if_eq rfl (a := (wh).toInt) rfl (fun q12 => ?_) (fun q12 => ?_)
      ·
        refine yR_m 1 (fun _ _ _ _ => rfl) ?_
        refine wR_cv rfl rfl mO_e hm_2 rfl (h_rds6 (T := T) (n := n) (s := (s.bind (cnP T n ((0 : Int) = 0)))) (K := 0) hm_2 (s1 x1 e2 x3 e4 y5 e6 q7 v10 m8 hm8 k9 q11 q12) (mS_fm (ks := [236]) (is := [35]) (fr_sa rfl (fr_sv rfl (fr_rf))) rfl rfl rfl rfl rfl rfl rfl rfl k9.1.2.1) (by decide) (by omega)) ?_
        rintro _ m13 ⟨rfl, hI13, k14⟩
        show yR zpg tX12_reading (d + 9) (60, [(2, .int x3), (0, .ref 221), (1, .int wh)], [], m13) _
        refine yR_m 1 (fun _ _ _ _ => rfl) ?_
        refine wR_gr rfl mO_e mO_28 hI13 ?_
        refine yR_m 2 (fun _ _ _ _ => rfl) ?_
        refine wR_gi rfl mO_e mO_33 hI13 rfl ?_
        refine wN_as (a := ((3 * (gi mem 221 34).toInt) + (wh).toInt)) rfl aR_237 hI13 e4 (by omega) ?_
        have hm_3 : aTm aT0 (sx m13 237 x3 (gi m13 221 33)) := tm_sa aR_237 hI13 (i32_b _)
        exact yR_rv rfl (h1 x1 e2 x3 e4 y5 e6 q7 v10 m8 hm8 k9 q11 q12 m13 hI13 k14 hm_3)
      ·
        refine yR_m 2 (fun _ _ _ _ => rfl) ?_
        refine wR_cv rfl rfl mO_e hm_2 rfl (h_rds6 (T := T) (n := n) (s := (s.bind (cnP T n ((0 : Int) = 0)))) (K := 1) hm_2 (s2 x1 e2 x3 e4 y5 e6 q7 v10 m8 hm8 k9 q11 q12) (mS_fm (ks := [236]) (is := [35]) (fr_sa rfl (fr_sv rfl (fr_rf))) rfl rfl rfl rfl rfl rfl rfl rfl k9.1.2.1) (by decide) (by omega)) ?_
        rintro _ m15 ⟨rfl, hI15, k16⟩
        show yR zpg tX12_reading (d + 9) (60, [(2, .int x3), (0, .ref 221), (1, .int wh)], [], m15) _
        refine yR_m 1 (fun _ _ _ _ => rfl) ?_
        refine wR_gr rfl mO_e mO_28 hI15 ?_
        refine yR_m 2 (fun _ _ _ _ => rfl) ?_
        refine wR_gi rfl mO_e mO_33 hI15 rfl ?_
        refine wN_as (a := ((3 * (gi mem 221 34).toInt) + (wh).toInt)) rfl aR_237 hI15 e4 (by omega) ?_
        have hm_4 : aTm aT0 (sx m15 237 x3 (gi m15 221 33)) := tm_sa aR_237 hI15 (i32_b _)
        exact yR_rv rfl (h2 x1 e2 x3 e4 y5 e6 q7 v10 m8 hm8 k9 q11 q12 m15 hI15 k16 hm_4)
    ·
      exact yR_rv rfl (h3 x1 e2 x3 e4 y5 e6 q7 v10 m8 hm8 k9 q11 hm8)
  ·
    refine yR_m 2 (fun _ _ _ _ => rfl) ?_
    refine wR_cv rfl rfl mO_e hm rfl (pk_i (h_cy (b8 := (gi mem 221 8).toInt) rfl rfl rfl rfl rfl rfl rfl (fun _ _ q => by obtain ⟨_, _, _, q⟩ := q; exact q.1) (h_cnS (T := T) (n := n) (ci := (1 : Int)) rfl hm hT sg hS (by omega)))) ?_
    rintro _ m17 ⟨v19, rfl, hm17, k18⟩
    show yR zpg tX12_reading (d + 9) (28, [(2, .int x3), (0, .ref 221), (1, .int wh)], [.int v19], m17) _
    refine wR_if_ne rfl (a := (v19).toInt) rfl (fun q20 => ?_) (fun q20 => ?_)
    ·
      refine yR_m 2 (fun _ _ _ _ => rfl) ?_
      refine wR_pi rfl mO_e mO_35 hm17 rfl ?_
      have hm_5 : aTm aT0 (si m17 221 35 wh) := tm_si mO_e mO_35 hm17 (i32_b _)
      refine yR_m 1 (fun _ _ _ _ => rfl) ?_
      refine wR_gr rfl mO_e mO_27 hm_5 ?_
      refine yR_m 2 (fun _ _ _ _ => rfl) ?_
      refine wR_gi rfl mO_e mO_33 hm_5 (gi_sv_ne (by decide)) ?_
      refine wN_as (a := ((3 * (gi mem 221 34).toInt) + (wh).toInt)) rfl aR_236 hm_5 e4 (by omega) ?_
      have hm_6 : aTm aT0 (sx (si m17 221 35 wh) 236 x3 (gi m17 221 33)) := tm_sa aR_236 hm_5 (i32_b _)
      refine yR_m 2 (fun _ _ _ _ => rfl) ?_
      refine wR_if_eq rfl (a := (wh).toInt) rfl (fun q21 => ?_) (fun q21 => ?_)
      ·
        refine yR_m 1 (fun _ _ _ _ => rfl) ?_
        refine wR_cv rfl rfl mO_e hm_6 rfl (h_rds6 (T := T) (n := n) (s := (s.bind (cnP T n ((1 : Int) = 0)))) (K := 0) hm_6 (s3 x1 e2 x3 e4 y5 e6 q7 v19 m17 hm17 k18 q20 q21) (mS_fm (ks := [236]) (is := [35]) (fr_sa rfl (fr_sv rfl (fr_rf))) rfl rfl rfl rfl rfl rfl rfl rfl k18.1.2.1) (by decide) (by omega)) ?_
        rintro _ m22 ⟨rfl, hI22, k23⟩
        show yR zpg tX12_reading (d + 9) (60, [(2, .int x3), (0, .ref 221), (1, .int wh)], [], m22) _
        refine yR_m 1 (fun _ _ _ _ => rfl) ?_
        refine wR_gr rfl mO_e mO_28 hI22 ?_
        refine yR_m 2 (fun _ _ _ _ => rfl) ?_
        refine wR_gi rfl mO_e mO_33 hI22 rfl ?_
        refine wN_as (a := ((3 * (gi mem 221 34).toInt) + (wh).toInt)) rfl aR_237 hI22 e4 (by omega) ?_
        have hm_7 : aTm aT0 (sx m22 237 x3 (gi m22 221 33)) := tm_sa aR_237 hI22 (i32_b _)
        exact yR_rv rfl (h4 x1 e2 x3 e4 y5 e6 q7 v19 m17 hm17 k18 q20 q21 m22 hI22 k23 hm_7)
      ·
        refine yR_m 2 (fun _ _ _ _ => rfl) ?_
        refine wR_cv rfl rfl mO_e hm_6 rfl (h_rds6 (T := T) (n := n) (s := (s.bind (cnP T n ((1 : Int) = 0)))) (K := 1) hm_6 (s4 x1 e2 x3 e4 y5 e6 q7 v19 m17 hm17 k18 q20 q21) (mS_fm (ks := [236]) (is := [35]) (fr_sa rfl (fr_sv rfl (fr_rf))) rfl rfl rfl rfl rfl rfl rfl rfl k18.1.2.1) (by decide) (by omega)) ?_
        rintro _ m24 ⟨rfl, hI24, k25⟩
        show yR zpg tX12_reading (d + 9) (60, [(2, .int x3), (0, .ref 221), (1, .int wh)], [], m24) _
        refine yR_m 1 (fun _ _ _ _ => rfl) ?_
        refine wR_gr rfl mO_e mO_28 hI24 ?_
        refine yR_m 2 (fun _ _ _ _ => rfl) ?_
        refine wR_gi rfl mO_e mO_33 hI24 rfl ?_
        refine wN_as (a := ((3 * (gi mem 221 34).toInt) + (wh).toInt)) rfl aR_237 hI24 e4 (by omega) ?_
        have hm_8 : aTm aT0 (sx m24 237 x3 (gi m24 221 33)) := tm_sa aR_237 hI24 (i32_b _)
        exact yR_rv rfl (h5 x1 e2 x3 e4 y5 e6 q7 v19 m17 hm17 k18 q20 q21 m24 hI24 k25 hm_8)
    ·
      exact yR_rv rfl (h6 x1 e2 x3 e4 y5 e6 q7 v19 m17 hm17 k18 q20 hm17)

theorem h_reaF {p0 : Int} {wh : Int32} (hm : aTm aT0 mem) (h : SI mr mem) (h8 : (gi mem 221 8).toInt = 0) (sg : ¬ (gi mem 221 3).toInt = 0) (hw : 0 ≤ wh.toInt ∧ wh.toInt ≤ 2) (hS : mS T n s mem) (hs : s = some p0) (hb : (gi mem 221 34).toInt = b) (hQ : mQ b Q mem) (hd : 10 ≤ d) : yC zpg d 203 [.ref 221, .int wh] mem (fun r m => stR T n b (sRea T n wh.toInt Q (tkf T n p0).2) m) := by
  obtain ⟨d, rfl⟩ : ∃ q, d = q + 10 := ⟨d - 10, by omega⟩
  have hT := h.2.1
  have h4 := (h.2.2.2 h8).2.1
  have hcd := (h.2.2.2 h8).2.2
  have E1 := cn_s (T := T) (n := n) (c := ((0 : Int) = 0)) hs rfl
  obtain ⟨i0, i1⟩ := mO_r34 hm
  have hb01 : 0 ≤ b ∧ b ≤ 1 := by omega
  have hu : ¬ gn (ga mem 236) (3 * (gi mem 221 34).toInt + wh.toInt) = -1 ↔ wh.toInt ∈ Qu Q := by
    rw [hb]
    exact hQ.2.2.2.2.2.1 _ hw.1 (by omega)
  refine yC_of (t := tX12_reading) rfl rfl ?_
  exact w_reaF (T := T) (n := n) (s := s) hm hT sg hS hw
        (fun x1 e2 x3 e4 y5 e6 q7 v10 m8 hm8 k9 q11 q12 => by
          have S1 := SI_t h k9.1.1
          have gt := k9.1.1.2.2.2
          have F : fr [236] [35] m8 (sx (si m8 221 35 wh) 236 x3 (gi m8 221 33)) := fr_sa rfl (fr_sv rfl fr_rf)
          refine ⟨tOK_fr F rfl rfl rfl rfl (by show 0 ≤ (gi _ 221 8).toInt; rw [fr_gi F rfl]; omega) S1.2.1, ?_, fun z => ?_⟩
          · show (gi _ 221 34).toInt = 1 - (gi _ 221 13).toInt
            rw [fr_gi F (i := 34) rfl, fr_gi F (i := 13) rfl]; exact S1.2.2.1
          · rw [fr_gi F (i := 8) rfl] at z
            have g2 := (gt z).2
            have c1 : gi m8 221 33 = gi mem 221 33 := fr_gi k9.1.1.1 rfl
            rw [fr_gi F (i := 33) rfl, fr_gi F (i := 4) rfl, c1]
            omega)
        (fun x1 e2 x3 e4 y5 e6 q7 v10 m8 hm8 k9 q11 q12 m13 hI13 k14 hm2 => by
          have e35 : gi (sx (si m8 221 35 wh) 236 x3 (gi m8 221 33)) 221 35 = wh := ((gi_sa).trans (gi_si_eq mO_e mO_35 hm8))
          have K := k14.2
          rw [E1, e35] at K
          have nu : ¬ wh.toInt ∈ Qu Q := fun w => (hu.2 w) (by omega)
          have k1 : kS wh.toInt = 0 := by
            unfold kS
            first
              | exact if_pos (by omega)
              | exact if_neg (by omega)
          rcases K with ⟨q, cc, e, f0, r0, kc⟩ | ⟨e, f1⟩
          · have e' : Mch T n wh.toInt _ [(0, 0, 1, [])] 0 (tkf T n p0).2 = some (q, cc) := e
            obtain ⟨c, e2, e3⟩ := rea_M e'
            refine Or.inl ⟨_, q, by unfold sRea; rw [oif_t nu, k1, e2]; rfl, by show (gi _ 221 8).toInt = 0; rw [gi_sa]; exact f0, mRd_sa (by decide) r0, ?_⟩
            exact rea_fin (x := x3) (v := (gi m8 221 33)) (y := x3) (u := (gi m13 221 33)) k9.1.1.1 rfl rfl hm8 hI13 hw nu hb hb01 (by omega) (by omega) (by have e33 := congrArg Int32.toInt (fr_gi k9.1.1.1 (i := 33) rfl); omega) (by omega) h4.1 hcd k14.1 f0 (kc.trans e3) hQ
          · have e' : Mch T n wh.toInt _ [(0, 0, 1, [])] 0 (tkf T n p0).2 = none := e
            exact stR_no (by unfold sRea; rw [oif_t nu, k1, rea_N e']; rfl) (by show 1 ≤ (gi _ 221 8).toInt; rw [gi_sa]; exact f1))
        (fun x1 e2 x3 e4 y5 e6 q7 v10 m8 hm8 k9 q11 q12 => by
          have S1 := SI_t h k9.1.1
          have gt := k9.1.1.2.2.2
          have F : fr [236] [35] m8 (sx (si m8 221 35 wh) 236 x3 (gi m8 221 33)) := fr_sa rfl (fr_sv rfl fr_rf)
          refine ⟨tOK_fr F rfl rfl rfl rfl (by show 0 ≤ (gi _ 221 8).toInt; rw [fr_gi F rfl]; omega) S1.2.1, ?_, fun z => ?_⟩
          · show (gi _ 221 34).toInt = 1 - (gi _ 221 13).toInt
            rw [fr_gi F (i := 34) rfl, fr_gi F (i := 13) rfl]; exact S1.2.2.1
          · rw [fr_gi F (i := 8) rfl] at z
            have g2 := (gt z).2
            have c1 : gi m8 221 33 = gi mem 221 33 := fr_gi k9.1.1.1 rfl
            rw [fr_gi F (i := 33) rfl, fr_gi F (i := 4) rfl, c1]
            omega)
        (fun x1 e2 x3 e4 y5 e6 q7 v10 m8 hm8 k9 q11 q12 m15 hI15 k16 hm2 => by
          have e35 : gi (sx (si m8 221 35 wh) 236 x3 (gi m8 221 33)) 221 35 = wh := ((gi_sa).trans (gi_si_eq mO_e mO_35 hm8))
          have K := k16.2
          rw [E1, e35] at K
          have nu : ¬ wh.toInt ∈ Qu Q := fun w => (hu.2 w) (by omega)
          have k1 : kS wh.toInt = 1 := by
            unfold kS
            first
              | exact if_pos (by omega)
              | exact if_neg (by omega)
          rcases K with ⟨q, cc, e, f0, r0, kc⟩ | ⟨e, f1⟩
          · have e' : Mch T n wh.toInt _ [(1, 0, 1, [])] 0 (tkf T n p0).2 = some (q, cc) := e
            obtain ⟨c, e2, e3⟩ := rea_M e'
            refine Or.inl ⟨_, q, by unfold sRea; rw [oif_t nu, k1, e2]; rfl, by show (gi _ 221 8).toInt = 0; rw [gi_sa]; exact f0, mRd_sa (by decide) r0, ?_⟩
            exact rea_fin (x := x3) (v := (gi m8 221 33)) (y := x3) (u := (gi m15 221 33)) k9.1.1.1 rfl rfl hm8 hI15 hw nu hb hb01 (by omega) (by omega) (by have e33 := congrArg Int32.toInt (fr_gi k9.1.1.1 (i := 33) rfl); omega) (by omega) h4.1 hcd k16.1 f0 (kc.trans e3) hQ
          · have e' : Mch T n wh.toInt _ [(1, 0, 1, [])] 0 (tkf T n p0).2 = none := e
            exact stR_no (by unfold sRea; rw [oif_t nu, k1, rea_N e']; rfl) (by show 1 ≤ (gi _ 221 8).toInt; rw [gi_sa]; exact f1))
        (fun x1 e2 x3 e4 y5 e6 q7 v10 m8 hm8 k9 q11 hm2 => by
          have K1 := k9.1.2.1
          rw [E1] at K1
          exfalso
          rcases K1 with ⟨q, -, w, -⟩ | ⟨w, -⟩
          · have w2 : (gi m8 221 8).toInt = 0 := w
            omega
          · cases w)
        (fun x1 e2 x3 e4 y5 e6 q7 v19 m17 hm17 k18 q20 q21 => by
          have S1 := SI_t h k18.1.1
          have gt := k18.1.1.2.2.2
          have F : fr [236] [35] m17 (sx (si m17 221 35 wh) 236 x3 (gi m17 221 33)) := fr_sa rfl (fr_sv rfl fr_rf)
          refine ⟨tOK_fr F rfl rfl rfl rfl (by show 0 ≤ (gi _ 221 8).toInt; rw [fr_gi F rfl]; omega) S1.2.1, ?_, fun z => ?_⟩
          · show (gi _ 221 34).toInt = 1 - (gi _ 221 13).toInt
            rw [fr_gi F (i := 34) rfl, fr_gi F (i := 13) rfl]; exact S1.2.2.1
          · rw [fr_gi F (i := 8) rfl] at z
            have g2 := (gt z).2
            have c1 : gi m17 221 33 = gi mem 221 33 := fr_gi k18.1.1.1 rfl
            rw [fr_gi F (i := 33) rfl, fr_gi F (i := 4) rfl, c1]
            omega)
        (fun x1 e2 x3 e4 y5 e6 q7 v19 m17 hm17 k18 q20 q21 m22 hI22 k23 hm2 => by exfalso; omega)
        (fun x1 e2 x3 e4 y5 e6 q7 v19 m17 hm17 k18 q20 q21 => by
          have S1 := SI_t h k18.1.1
          have gt := k18.1.1.2.2.2
          have F : fr [236] [35] m17 (sx (si m17 221 35 wh) 236 x3 (gi m17 221 33)) := fr_sa rfl (fr_sv rfl fr_rf)
          refine ⟨tOK_fr F rfl rfl rfl rfl (by show 0 ≤ (gi _ 221 8).toInt; rw [fr_gi F rfl]; omega) S1.2.1, ?_, fun z => ?_⟩
          · show (gi _ 221 34).toInt = 1 - (gi _ 221 13).toInt
            rw [fr_gi F (i := 34) rfl, fr_gi F (i := 13) rfl]; exact S1.2.2.1
          · rw [fr_gi F (i := 8) rfl] at z
            have g2 := (gt z).2
            have c1 : gi m17 221 33 = gi mem 221 33 := fr_gi k18.1.1.1 rfl
            rw [fr_gi F (i := 33) rfl, fr_gi F (i := 4) rfl, c1]
            omega)
        (fun x1 e2 x3 e4 y5 e6 q7 v19 m17 hm17 k18 q20 q21 m24 hI24 k25 hm2 => by exfalso; omega)
        (fun x1 e2 x3 e4 y5 e6 q7 v19 m17 hm17 k18 q20 hm2 => stR_no (oif_f (fun w => w (hu.1 (by omega)))) (by show 1 ≤ (gi m17 221 8).toInt; omega))
end RS
