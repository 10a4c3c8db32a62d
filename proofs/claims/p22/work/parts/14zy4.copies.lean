/-! states are copied, rows are kept: the class -/
section CPJ
/-- n elements of f from B on come into g from A on -/
def cpJ (l f g : List Int32) (A B n : Int) : Prop := ∀ j, 0 ≤ j → gn l j = if A ≤ j ∧ j < A + n then gn f (j - A + B) else gn g j
theorem cpJ_z {f g : List Int32} {sp dp n : Nat} (h : dp + n ≤ g.length) : cpJ (zcpl f g sp dp n) f g (dp : Int) (sp : Int) (n : Int) := fun j j0 => by
  have e := congrFun (zcpl_s (f := f) (g := g) (sp := sp) (dp := dp) (n := n) h) j.toNat
  have e : (zcpl f g sp dp n).getD j.toNat 0 = va_cpy (fun j => f.getD j 0) (fun j => g.getD j 0) sp dp n j.toNat := e
  unfold gn
  rw [e]
  unfold va_cpy
  by_cases q : dp ≤ j.toNat ∧ j.toNat < dp + n
  · rw [if_pos q, if_pos (by omega)]
    show (f.getD (sp + (j.toNat - dp)) 0).toInt = _
    rw [show sp + (j.toNat - dp) = (j - (dp : Int) + (sp : Int)).toNat by omega]
  · rw [if_neg q, if_neg (by omega)]
variable {Z : zPg} {T : List aCe} {t : zT} {d pc k : Nat} {lo : List (Nat × Value)} {r : List Value} {mem : zM} {P : Option Value → zM → Prop}
theorem wN_cp {tt na nb kq : Nat} {sp dp n : Int32} {fa fb : List Int32} {a b c : Int} {ka kb : Bool} (hk : zlk t pc = some (pc, zcp tt)) (ha : aat T k = some (.inl (ka, tt, na, .inl (-2147483648, 2147483647)))) (hb : aat T kq = some (.inl (kb, tt, nb, .inl (-2147483648, 2147483647)))) (hm : aTm T mem) (hl : ga mem k = fa) (hl2 : ga mem kq = fb) (h1 : sp.toInt = a) (h2 : dp.toInt = b) (h3 : n.toInt = c) (hx : (0 ≤ a ∧ a + c ≤ na) ∧ (0 ≤ b ∧ b + c ≤ nb) ∧ 0 ≤ c) (hr : Nat.ble (zwd r) 8 = true) (h : ∀ m', aTm T m' → (∀ q', ¬ q' = kq → zat m' q' = zat mem q') → cpJ (ga m' kq) fa fb b a c → yR Z t d (pc + 3, lo, r, m') P) : yR Z t d (pc, lo, .int n :: .int dp :: .ref kq :: .int sp :: .ref k :: r, mem) P := by
  subst hl
  subst hl2
  subst h1
  subst h2
  subst h3
  obtain ⟨a1, a2, a3⟩ := ga_ty ha hm
  obtain ⟨b1, b2, b3⟩ := ga_ty hb hm
  obtain ⟨⟨x1, x2⟩, ⟨y1, y2⟩, n1⟩ := hx
  have z1 := zclamp n1
  have z2 := zclamp y1
  have z3 := zclamp x1
  have e : Bool.and (Bool.and (Nat.beq tt tt) (Nat.beq tt tt)) (Bool.and (Bool.and (!decide (sp < 0)) (Bool.and (!decide (dp < 0)) (!decide (n < 0)))) (Bool.and (Bool.and (Nat.ble (sp.toNatClampNeg + n.toNatClampNeg) (ga mem k).length) (Nat.ble (dp.toNatClampNeg + n.toNatClampNeg) (ga mem kq).length)) (Nat.ble (zwd r) 8))) = true := by
    rw [zbq, zneg_f n1, zneg_f y1, zneg_f x1, hr, Nat.ble_eq_true_of_le (by omega), Nat.ble_eq_true_of_le (by omega)]
    rfl
  refine yR_next (st' := (pc + 3, lo, r, mem.set kq (.inl (tt, .inl (zcpl (ga mem k) (ga mem kq) sp.toNatClampNeg dp.toNatClampNeg n.toNatClampNeg))))) hk (fun Y rec κ ρ => ?_) (h _ ?_ (fun q' hq => zat_ne_set (fun w => hq w.symm)) ?_)
  · simp only [zcp, a1, b1, e]
  · exact aTm_set hm hb b1 ⟨_, rfl, by rw [zcpl_len]; exact b2, fun z hz => i32_b z⟩
  · rw [ga_at (zat_eq_set b1), ← z1, ← z2, ← z3]
    exact cpJ_z (by omega)
/-- element x of an array of references -/
def rgE (tt : Nat) (m : zM) (k : Nat) (x : Int32) (u : Nat) : Prop := ∃ f, zat m k = some (.inl (tt, .inr (.inr f))) ∧ (0 ≤ x.toInt ∧ x.toInt < f.length) ∧ f.getD x.toNatClampNeg none = some u
theorem wR_aq {tt u : Nat} {x : Int32} (hk : zlk t pc = some (pc, zaq tt)) (h0 : rgE tt mem k x u) (h : yR Z t d (pc + 1, lo, .ref u :: r, mem) P) : yR Z t d (pc, lo, .int x :: .ref k :: r, mem) P := by
  obtain ⟨f, h1, h2, h3⟩ := h0
  refine yR_next hk (fun Y rec κ ρ => ?_) h
  have e : Bool.and (Nat.beq tt tt) (zixl x f) = true := by
    rw [zbq, zixl_t h2.1 h2.2]
    rfl
  simp only [zaq, h1, e, h3]
end CPJ
section CPK
variable {d : Nat} {mem : zM} {Q : Qd} {S : Sd} {hu : Int → Int}
theorem uVO_0 {s : Nat} : (sVO s)[0]? = some (false, .inl (-2147483648, 2147483647)) := rfl
theorem uVO_1 {s : Nat} : (sVO s)[1]? = some (false, .inl (0, 511)) := rfl
theorem uVO_2 {s : Nat} : (sVO s)[2]? = some (false, .inr (some [s + 1])) := rfl
theorem uVO_3 {s : Nat} : (sVO s)[3]? = some (false, .inr (some [s + 2])) := rfl
theorem uVO_4 {s : Nat} : (sVO s)[4]? = some (false, .inl (-2147483648, 2147483647)) := rfl
theorem uVO_5 {s : Nat} : (sVO s)[5]? = some (false, .inl (-2147483648, 2147483647)) := rfl
def rVO (s : Nat) : List (Bool × aTy) := [(false, .inr (some [s + 1])), (false, .inr (some [s + 2])), (false, .inr (some [s + 3])), (false, .inl (0, 40))]
theorem rVO_0 {s : Nat} : (rVO s)[0]? = some (false, .inr (some [s + 1])) := rfl
theorem rVO_1 {s : Nat} : (rVO s)[1]? = some (false, .inr (some [s + 2])) := rfl
theorem rVO_2 {s : Nat} : (rVO s)[2]? = some (false, .inr (some [s + 3])) := rfl
theorem rVO_3 {s : Nat} : (rVO s)[3]? = some (false, .inl (0, 40)) := rfl
theorem wVO_0 {s : Nat} : (rVO s)[0]? = some (false, .inr (some [s + 1])) := rfl
theorem wVO_1 {s : Nat} : (rVO s)[1]? = some (false, .inr (some [s + 2])) := rfl
theorem wVO_2 {s : Nat} : (rVO s)[2]? = some (false, .inr (some [s + 3])) := rfl
theorem wVO_3 {s : Nat} : (rVO s)[3]? = some (false, .inl (0, 40)) := rfl
/-- cells of a state, of kept rows -/
def isT (s : Nat) : Prop := aat aT0 s = some (.inr (8, sVO s)) ∧ aat aT0 (s + 1) = some (.inl (false, 0, 9, .inl (-2147483648, 2147483647))) ∧ aat aT0 (s + 2) = some (.inl (false, 0, 6, .inl (-2147483648, 2147483647)))
def isW (r : Nat) : Prop := aat aT0 r = some (.inr (1, rVO r)) ∧ aat aT0 (r + 1) = some (.inl (false, 0, 40, .inl (-2147483648, 2147483647))) ∧ aat aT0 (r + 2) = some (.inl (false, 0, 40, .inl (-2147483648, 2147483647))) ∧ aat aT0 (r + 3) = some (.inl (false, 0, 40, .inl (-2147483648, 2147483647)))
/-- but for a state (kept rows) nothing changed -/
def frT (s : Nat) (m0 m : zM) : Prop := ∀ k, ¬ k = s → ¬ k = s + 1 → ¬ k = s + 2 → zat m k = zat m0 k
def frW (r : Nat) (m0 m : zM) : Prop := ∀ k, ¬ k = r → ¬ k = r + 1 → ¬ k = r + 2 → ¬ k = r + 3 → zat m k = zat m0 k
/-- s is what u was -/
def cfS (s u : Nat) (m0 m : zM) : Prop := (gi m s 0 = gi m0 u 0 ∧ gi m s 1 = gi m0 u 1 ∧ gi m s 4 = gi m0 u 4 ∧ gi m s 5 = gi m0 u 5) ∧ (∀ t, 0 ≤ t → t < 9 → gn (ga m (s + 1)) t = gn (ga m0 (u + 1)) t) ∧ ∀ f, 0 ≤ f → f < 6 → gn (ga m (s + 2)) f = gn (ga m0 (u + 2)) f
theorem tS_cf {s u : Nat} {m0 m : zM} (hW : WQ Q) (hh : cfS s u m0 m) (hS : tS u Q hu S m0) : tS s Q hu S m := by
  obtain ⟨⟨a0, a1, a4, a5⟩, a6, a7⟩ := hh
  obtain ⟨⟨b0, b1⟩, b2, b3, b4⟩ := hS
  have l9 : thN Q ≤ 9 := by
    have := hW.2.1.1
    unfold thN
    omega
  have l6 : foN Q ≤ 6 := by
    have := hW.2.1.2.1
    unfold foN
    omega
  refine ⟨⟨by rw [a0]; exact b0, by rw [a1]; exact b1⟩, fun t t0 t1 => (a6 t t0 (by omega)).trans (b2 t t0 t1), fun f f0 f1 => (a7 f f0 (by omega)).trans (b3 f f0 f1), fun t t0 t1 => ?_⟩
  rw [a4, a5]
  exact b4 t t0 t1
theorem tS_zq {s : Nat} {m0 m : zM} (hh : zat m s = zat m0 s) (h1 : zat m (s + 1) = zat m0 (s + 1)) (h2 : zat m (s + 2) = zat m0 (s + 2)) (hS : tS s Q hu S m0) : tS s Q hu S m := by
  unfold tS at hS ⊢
  rw [gi_zq hh, gi_zq hh, gi_zq hh, gi_zq hh, ga_zq h1, ga_zq h2]
  exact hS
/-- kept rows in the class -/
def kC (r : Nat) (K : Kd) (m : zM) : Prop := (0 ≤ K.1 ∧ K.1 ≤ 40) ∧ (gi m r 3).toInt = K.1 ∧ ∀ i, 0 ≤ i → i < K.1 → gn (ga m (r + 1)) i = (K.2 i).1 ∧ gn (ga m (r + 2)) i = (K.2 i).2.1 ∧ gn (ga m (r + 3)) i = (K.2 i).2.2
theorem kC_zq {r : Nat} {K : Kd} {m0 m : zM} (hh : zat m r = zat m0 r) (h1 : zat m (r + 1) = zat m0 (r + 1)) (h2 : zat m (r + 2) = zat m0 (r + 2)) (h3 : zat m (r + 3) = zat m0 (r + 3)) (hK : kC r K m0) : kC r K m := by
  unfold kC at hK ⊢
  rw [gi_zq hh, ga_zq h1, ga_zq h2, ga_zq h3]
  exact hK
set_option maxRecDepth 100000 in
theorem w_cf {d : Nat} {mem : zM} {P : Option Value → zM → Prop} {s u : Nat} (hm : aTm aT0 mem) (sVO_e : aat aT0 s = some (.inr (8, sVO s))) (aR_s1 : aat aT0 (s + 1) = some (.inl (false, 0, 9, .inl (-2147483648, 2147483647)))) (aR_s2 : aat aT0 (s + 2) = some (.inl (false, 0, 6, .inl (-2147483648, 2147483647)))) (uVO_e : aat aT0 u = some (.inr (8, sVO u))) (aR_u1 : aat aT0 (u + 1) = some (.inl (false, 0, 9, .inl (-2147483648, 2147483647)))) (aR_u2 : aat aT0 (u + 2) = some (.inl (false, 0, 6, .inl (-2147483648, 2147483647)))) (hne : s + 2 < u ∨ u + 2 < s) (u1r : 0 ≤ (gi mem u 1).toInt ∧ (gi mem u 1).toInt ≤ 511) (h1 : ∀ (m1 : zM), aTm aT0 m1 → (∀ q, ¬ q = (s + 1) → zat m1 q = zat (si (si mem s 0 (gi mem u 0)) s 1 (gi mem u 1)) q) → cpJ (ga m1 (s + 1)) (ga mem (u + 1)) (ga mem (s + 1)) 0 0 9 → ∀ (m4 : zM), aTm aT0 m4 → (∀ q, ¬ q = (s + 2) → zat m4 q = zat m1 q) → cpJ (ga m4 (s + 2)) (ga m1 (u + 2)) (ga m1 (s + 2)) 0 0 6 → aTm aT0 (si (si m4 s 4 (gi m4 u 4)) s 5 (gi m4 u 5)) → P none (si (si m4 s 4 (gi m4 u 4)) s 5 (gi m4 u 5))) : yR zpg tX8_copyFrom d (0, [(0, .ref s), (1, .ref u)], [], mem) P := by
  refine yR_m 2 (fun _ _ _ _ => rfl) ?_
  refine wR_gi rfl uVO_e uVO_0 hm rfl ?_
  refine wR_pi rfl sVO_e sVO_0 hm rfl ?_
  have hm_1 : aTm aT0 (si mem s 0 (gi mem u 0)) := tm_si sVO_e sVO_0 hm (i32_b _)
  refine yR_m 2 (fun _ _ _ _ => rfl) ?_
  refine wR_gi rfl uVO_e uVO_1 hm_1 (gi_sv_ne (by first | decide | omega)) ?_
  refine wR_pi rfl sVO_e sVO_1 hm_1 rfl ?_
  have hm_2 : aTm aT0 (si (si mem s 0 (gi mem u 0)) s 1 (gi mem u 1)) := tm_si sVO_e sVO_1 hm_1 (by omega)
  refine yR_m 1 (fun _ _ _ _ => rfl) ?_
  refine wR_gr rfl uVO_e uVO_2 hm_2 ?_
  refine yR_m 2 (fun _ _ _ _ => rfl) ?_
  refine wR_gr rfl sVO_e sVO_2 hm_2 ?_
  refine yR_m 2 (fun _ _ _ _ => rfl) ?_
  refine wN_cp (a := 0) (b := 0) (c := 9) rfl aR_u1 aR_s1 hm_2 ((ga_sv).trans (ga_sv)) ((ga_sv).trans (ga_sv)) rfl rfl rfl (by omega) rfl (fun m1 hm1 k2 k3 => ?_)
  refine yR_m 1 (fun _ _ _ _ => rfl) ?_
  refine wR_gr rfl uVO_e uVO_3 hm1 ?_
  refine yR_m 2 (fun _ _ _ _ => rfl) ?_
  refine wR_gr rfl sVO_e sVO_3 hm1 ?_
  refine yR_m 2 (fun _ _ _ _ => rfl) ?_
  refine wN_cp (a := 0) (b := 0) (c := 6) rfl aR_u2 aR_s2 hm1 rfl rfl rfl rfl rfl (by omega) rfl (fun m4 hm4 k5 k6 => ?_)
  refine yR_m 2 (fun _ _ _ _ => rfl) ?_
  refine wR_gi rfl uVO_e uVO_4 hm4 rfl ?_
  refine wR_pi rfl sVO_e sVO_4 hm4 rfl ?_
  have hm_3 : aTm aT0 (si m4 s 4 (gi m4 u 4)) := tm_si sVO_e sVO_4 hm4 (i32_b _)
  refine yR_m 2 (fun _ _ _ _ => rfl) ?_
  refine wR_gi rfl uVO_e uVO_5 hm_3 (gi_sv_ne (by first | decide | omega)) ?_
  refine wR_pi rfl sVO_e sVO_5 hm_3 rfl ?_
  have hm_4 : aTm aT0 (si (si m4 s 4 (gi m4 u 4)) s 5 (gi m4 u 5)) := tm_si sVO_e sVO_5 hm_3 (i32_b _)
  exact yR_rv rfl (h1 m1 hm1 k2 k3 m4 hm4 k5 k6 hm_4)

set_option maxRecDepth 100000 in
theorem w_rc {d : Nat} {mem : zM} {P : Option Value → zM → Prop} {r w : Nat} (hm : aTm aT0 mem) (rVO_e : aat aT0 r = some (.inr (1, rVO r))) (aR_r1 : aat aT0 (r + 1) = some (.inl (false, 0, 40, .inl (-2147483648, 2147483647)))) (aR_r2 : aat aT0 (r + 2) = some (.inl (false, 0, 40, .inl (-2147483648, 2147483647)))) (aR_r3 : aat aT0 (r + 3) = some (.inl (false, 0, 40, .inl (-2147483648, 2147483647)))) (wVO_e : aat aT0 w = some (.inr (1, rVO w))) (aR_w1 : aat aT0 (w + 1) = some (.inl (false, 0, 40, .inl (-2147483648, 2147483647)))) (aR_w2 : aat aT0 (w + 2) = some (.inl (false, 0, 40, .inl (-2147483648, 2147483647)))) (aR_w3 : aat aT0 (w + 3) = some (.inl (false, 0, 40, .inl (-2147483648, 2147483647)))) (hne : r + 3 < w ∨ w + 3 < r) (w3r : 0 ≤ (gi mem w 3).toInt ∧ (gi mem w 3).toInt ≤ 40) (h1 : ∀ (m1 : zM), aTm aT0 m1 → (∀ q, ¬ q = (r + 1) → zat m1 q = zat (si mem r 3 (gi mem w 3)) q) → cpJ (ga m1 (r + 1)) (ga mem (w + 1)) (ga mem (r + 1)) 0 0 (gi mem w 3).toInt → ∀ (m4 : zM), aTm aT0 m4 → (∀ q, ¬ q = (r + 2) → zat m4 q = zat m1 q) → cpJ (ga m4 (r + 2)) (ga m1 (w + 2)) (ga m1 (r + 2)) 0 0 (gi m1 r 3).toInt → ∀ (m7 : zM), aTm aT0 m7 → (∀ q, ¬ q = (r + 3) → zat m7 q = zat m4 q) → cpJ (ga m7 (r + 3)) (ga m4 (w + 3)) (ga m4 (r + 3)) 0 0 (gi m4 r 3).toInt → aTm aT0 m7 → P none m7) : yR zpg tX1_copyFrom d (0, [(0, .ref r), (1, .ref w)], [], mem) P := by
  refine yR_m 2 (fun _ _ _ _ => rfl) ?_
  refine wR_gi rfl wVO_e wVO_3 hm rfl ?_
  refine wR_pi rfl rVO_e rVO_3 hm rfl ?_
  have hm_1 : aTm aT0 (si mem r 3 (gi mem w 3)) := tm_si rVO_e rVO_3 hm (by omega)
  refine yR_m 1 (fun _ _ _ _ => rfl) ?_
  refine wR_gr rfl wVO_e wVO_0 hm_1 ?_
  refine yR_m 2 (fun _ _ _ _ => rfl) ?_
  refine wR_gr rfl rVO_e rVO_0 hm_1 ?_
  refine yR_m 2 (fun _ _ _ _ => rfl) ?_
  refine wR_gi rfl rVO_e rVO_3 hm_1 (gi_si_eq rVO_e rVO_3 hm) ?_
  refine wN_cp (a := 0) (b := 0) (c := (gi mem w 3).toInt) rfl aR_w1 aR_r1 hm_1 (ga_sv) (ga_sv) rfl rfl rfl (by omega) rfl (fun m1 hm1 k2 k3 => ?_)
  have em1_r3 : (gi m1 r 3).toInt = (gi mem w 3).toInt := (congrArg Int32.toInt ((gi_zq (k2 r (by omega))).trans (gi_si_eq rVO_e rVO_3 hm))).trans rfl
  refine yR_m 1 (fun _ _ _ _ => rfl) ?_
  refine wR_gr rfl wVO_e wVO_1 hm1 ?_
  refine yR_m 2 (fun _ _ _ _ => rfl) ?_
  refine wR_gr rfl rVO_e rVO_1 hm1 ?_
  refine yR_m 2 (fun _ _ _ _ => rfl) ?_
  refine wR_gi rfl rVO_e rVO_3 hm1 rfl ?_
  refine wN_cp (a := 0) (b := 0) (c := (gi m1 r 3).toInt) rfl aR_w2 aR_r2 hm1 rfl rfl rfl rfl rfl (by omega) rfl (fun m4 hm4 k5 k6 => ?_)
  have em4_r3 : (gi m4 r 3).toInt = (gi m1 r 3).toInt := (congrArg Int32.toInt ((gi_zq (k5 r (by omega))).trans rfl)).trans rfl
  refine yR_m 1 (fun _ _ _ _ => rfl) ?_
  refine wR_gr rfl wVO_e wVO_2 hm4 ?_
  refine yR_m 2 (fun _ _ _ _ => rfl) ?_
  refine wR_gr rfl rVO_e rVO_2 hm4 ?_
  refine yR_m 2 (fun _ _ _ _ => rfl) ?_
  refine wR_gi rfl rVO_e rVO_3 hm4 rfl ?_
  refine wN_cp (a := 0) (b := 0) (c := (gi m4 r 3).toInt) rfl aR_w3 aR_r3 hm4 rfl rfl rfl rfl rfl (by omega) rfl (fun m7 hm7 k8 k9 => ?_)
  have em7_r3 : (gi m7 r 3).toInt = (gi m4 r 3).toInt := (congrArg Int32.toInt ((gi_zq (k8 r (by omega))).trans rfl)).trans rfl
  exact yR_rv rfl (h1 m1 hm1 k2 k3 m4 hm4 k5 k6 m7 hm7 k8 k9 hm7)

set_option maxRecDepth 100000 in
theorem w_ra {d : Nat} {mem : zM} {P : Option Value → zM → Prop} {r : Nat} {nn tt ff : Int32} (hm : aTm aT0 mem) (rVO_e : aat aT0 r = some (.inr (1, rVO r))) (aR_r1 : aat aT0 (r + 1) = some (.inl (false, 0, 40, .inl (-2147483648, 2147483647)))) (aR_r2 : aat aT0 (r + 2) = some (.inl (false, 0, 40, .inl (-2147483648, 2147483647)))) (aR_r3 : aat aT0 (r + 3) = some (.inl (false, 0, 40, .inl (-2147483648, 2147483647)))) (r3r : 0 ≤ (gi mem r 3).toInt ∧ (gi mem r 3).toInt ≤ 40) (h1 : (gi mem r 3).toInt < 40 → ∀ (x2 : Int32), x2.toInt = ((gi mem r 3).toInt + 1) → aTm aT0 (si (sx (sx (sx mem (r + 1) (gi mem r 3) nn) (r + 2) (gi mem r 3) tt) (r + 3) (gi mem r 3) ff) r 3 x2) → P none (si (sx (sx (sx mem (r + 1) (gi mem r 3) nn) (r + 2) (gi mem r 3) tt) (r + 3) (gi mem r 3) ff) r 3 x2)) (h2 : 40 ≤ (gi mem r 3).toInt → ∀ (m4 : zM), aTm aT0 m4 → (∀ q, ¬ q = (r + 1) → zat m4 q = zat (si mem r 3 39) q) → cpJ (ga m4 (r + 1)) (ga mem (r + 1)) (ga mem (r + 1)) 0 1 39 → ∀ (m7 : zM), aTm aT0 m7 → (∀ q, ¬ q = (r + 2) → zat m7 q = zat m4 q) → cpJ (ga m7 (r + 2)) (ga m4 (r + 2)) (ga m4 (r + 2)) 0 1 (gi m4 r 3).toInt → ∀ (m10 : zM), aTm aT0 m10 → (∀ q, ¬ q = (r + 3) → zat m10 q = zat m7 q) → cpJ (ga m10 (r + 3)) (ga m7 (r + 3)) (ga m7 (r + 3)) 0 1 (gi m7 r 3).toInt → ∀ (x13 : Int32), x13.toInt = ((gi m10 r 3).toInt + 1) → aTm aT0 (si (sx (sx (sx m10 (r + 1) (gi m10 r 3) nn) (r + 2) (gi m10 r 3) tt) (r + 3) (gi m10 r 3) ff) r 3 x13) → P none (si (sx (sx (sx m10 (r + 1) (gi m10 r 3) nn) (r + 2) (gi m10 r 3) tt) (r + 3) (gi m10 r 3) ff) r 3 x13)) : yR zpg tX1_add d (0, [(0, .ref r), (1, .int nn), (2, .int tt), (3, .int ff)], [], mem) P := by
  refine yR_m 1 (fun _ _ _ _ => rfl) ?_
  refine wR_gi rfl rVO_e rVO_3 hm rfl ?_
  refine yR_m 1 (fun _ _ _ _ => rfl) ?_
  refine wR_ic_lt rfl (a := (gi mem r 3).toInt) (c := 40) rfl rfl (fun q1 => ?_) (fun q1 => ?_)
  ·
    refine yR_m 1 (fun _ _ _ _ => rfl) ?_
    refine wR_gr rfl rVO_e rVO_0 hm ?_
    refine yR_m 1 (fun _ _ _ _ => rfl) ?_
    refine wR_gi rfl rVO_e rVO_3 hm rfl ?_
    refine yR_m 1 (fun _ _ _ _ => rfl) ?_
    refine wN_as (a := (gi mem r 3).toInt) rfl aR_r1 hm rfl (by omega) ?_
    have hm_1 : aTm aT0 (sx mem (r + 1) (gi mem r 3) nn) := tm_sa aR_r1 hm (i32_b _)
    refine yR_m 1 (fun _ _ _ _ => rfl) ?_
    refine wR_gr rfl rVO_e rVO_1 hm_1 ?_
    refine yR_m 1 (fun _ _ _ _ => rfl) ?_
    refine wR_gi rfl rVO_e rVO_3 hm_1 (gi_sa) ?_
    refine yR_m 1 (fun _ _ _ _ => rfl) ?_
    refine wN_as (a := (gi mem r 3).toInt) rfl aR_r2 hm_1 rfl (by omega) ?_
    have hm_2 : aTm aT0 (sx (sx mem (r + 1) (gi mem r 3) nn) (r + 2) (gi mem r 3) tt) := tm_sa aR_r2 hm_1 (i32_b _)
    refine yR_m 1 (fun _ _ _ _ => rfl) ?_
    refine wR_gr rfl rVO_e rVO_2 hm_2 ?_
    refine yR_m 1 (fun _ _ _ _ => rfl) ?_
    refine wR_gi rfl rVO_e rVO_3 hm_2 ((gi_sa).trans (gi_sa)) ?_
    refine yR_m 1 (fun _ _ _ _ => rfl) ?_
    refine wN_as (a := (gi mem r 3).toInt) rfl aR_r3 hm_2 rfl (by omega) ?_
    have hm_3 : aTm aT0 (sx (sx (sx mem (r + 1) (gi mem r 3) nn) (r + 2) (gi mem r 3) tt) (r + 3) (gi mem r 3) ff) := tm_sa aR_r3 hm_2 (i32_b _)
    refine yR_m 2 (fun _ _ _ _ => rfl) ?_
    refine wR_gi rfl rVO_e rVO_3 hm_3 ((gi_sa).trans ((gi_sa).trans (gi_sa))) ?_
    refine yR_m 1 (fun _ _ _ _ => rfl) ?_
    refine wN_add (a := (gi mem r 3).toInt) (b := 1) rfl rfl rfl (by omega) (fun x2 e3 => ?_)
    refine wR_pi rfl rVO_e rVO_3 hm_3 rfl ?_
    have hm_4 : aTm aT0 (si (sx (sx (sx mem (r + 1) (gi mem r 3) nn) (r + 2) (gi mem r 3) tt) (r + 3) (gi mem r 3) ff) r 3 x2) := tm_si rVO_e rVO_3 hm_3 (by rw [e3]; exact (by omega))
    exact yR_rv rfl (h1 q1 x2 e3 hm_4)
  ·
    refine yR_m 2 (fun _ _ _ _ => rfl) ?_
    refine wR_pi rfl rVO_e rVO_3 hm rfl ?_
    have hm_5 : aTm aT0 (si mem r 3 39) := tm_si rVO_e rVO_3 hm (by decide)
    refine yR_m 1 (fun _ _ _ _ => rfl) ?_
    refine wR_gr rfl rVO_e rVO_0 hm_5 ?_
    refine yR_m 2 (fun _ _ _ _ => rfl) ?_
    refine wR_gr rfl rVO_e rVO_0 hm_5 ?_
    refine yR_m 2 (fun _ _ _ _ => rfl) ?_
    refine wR_gi rfl rVO_e rVO_3 hm_5 (gi_si_eq rVO_e rVO_3 hm) ?_
    refine wN_cp (a := 1) (b := 0) (c := 39) rfl aR_r1 aR_r1 hm_5 (ga_sv) (ga_sv) rfl rfl rfl (by omega) rfl (fun m4 hm4 k5 k6 => ?_)
    have em4_r3 : (gi m4 r 3).toInt = 39 := (congrArg Int32.toInt ((gi_zq (k5 r (by omega))).trans (gi_si_eq rVO_e rVO_3 hm))).trans rfl
    refine yR_m 1 (fun _ _ _ _ => rfl) ?_
    refine wR_gr rfl rVO_e rVO_1 hm4 ?_
    refine yR_m 2 (fun _ _ _ _ => rfl) ?_
    refine wR_gr rfl rVO_e rVO_1 hm4 ?_
    refine yR_m 2 (fun _ _ _ _ => rfl) ?_
    refine wR_gi rfl rVO_e rVO_3 hm4 rfl ?_
    refine wN_cp (a := 1) (b := 0) (c := (gi m4 r 3).toInt) rfl aR_r2 aR_r2 hm4 rfl rfl rfl rfl rfl (by omega) rfl (fun m7 hm7 k8 k9 => ?_)
    have em7_r3 : (gi m7 r 3).toInt = (gi m4 r 3).toInt := (congrArg Int32.toInt ((gi_zq (k8 r (by omega))).trans rfl)).trans rfl
    refine yR_m 1 (fun _ _ _ _ => rfl) ?_
    refine wR_gr rfl rVO_e rVO_2 hm7 ?_
    refine yR_m 2 (fun _ _ _ _ => rfl) ?_
    refine wR_gr rfl rVO_e rVO_2 hm7 ?_
    refine yR_m 2 (fun _ _ _ _ => rfl) ?_
    refine wR_gi rfl rVO_e rVO_3 hm7 rfl ?_
    refine wN_cp (a := 1) (b := 0) (c := (gi m7 r 3).toInt) rfl aR_r3 aR_r3 hm7 rfl rfl rfl rfl rfl (by omega) rfl (fun m10 hm10 k11 k12 => ?_)
    have em10_r3 : (gi m10 r 3).toInt = (gi m7 r 3).toInt := (congrArg Int32.toInt ((gi_zq (k11 r (by omega))).trans rfl)).trans rfl
    refine yR_m 1 (fun _ _ _ _ => rfl) ?_
    refine wR_gr rfl rVO_e rVO_0 hm10 ?_
    refine yR_m 1 (fun _ _ _ _ => rfl) ?_
    refine wR_gi rfl rVO_e rVO_3 hm10 rfl ?_
    refine yR_m 1 (fun _ _ _ _ => rfl) ?_
    refine wN_as (a := (gi m10 r 3).toInt) rfl aR_r1 hm10 rfl (by omega) ?_
    have hm_6 : aTm aT0 (sx m10 (r + 1) (gi m10 r 3) nn) := tm_sa aR_r1 hm10 (i32_b _)
    refine yR_m 1 (fun _ _ _ _ => rfl) ?_
    refine wR_gr rfl rVO_e rVO_1 hm_6 ?_
    refine yR_m 1 (fun _ _ _ _ => rfl) ?_
    refine wR_gi rfl rVO_e rVO_3 hm_6 (gi_sa) ?_
    refine yR_m 1 (fun _ _ _ _ => rfl) ?_
    refine wN_as (a := (gi m10 r 3).toInt) rfl aR_r2 hm_6 rfl (by omega) ?_
    have hm_7 : aTm aT0 (sx (sx m10 (r + 1) (gi m10 r 3) nn) (r + 2) (gi m10 r 3) tt) := tm_sa aR_r2 hm_6 (i32_b _)
    refine yR_m 1 (fun _ _ _ _ => rfl) ?_
    refine wR_gr rfl rVO_e rVO_2 hm_7 ?_
    refine yR_m 1 (fun _ _ _ _ => rfl) ?_
    refine wR_gi rfl rVO_e rVO_3 hm_7 ((gi_sa).trans (gi_sa)) ?_
    refine yR_m 1 (fun _ _ _ _ => rfl) ?_
    refine wN_as (a := (gi m10 r 3).toInt) rfl aR_r3 hm_7 rfl (by omega) ?_
    have hm_8 : aTm aT0 (sx (sx (sx m10 (r + 1) (gi m10 r 3) nn) (r + 2) (gi m10 r 3) tt) (r + 3) (gi m10 r 3) ff) := tm_sa aR_r3 hm_7 (i32_b _)
    refine yR_m 2 (fun _ _ _ _ => rfl) ?_
    refine wR_gi rfl rVO_e rVO_3 hm_8 ((gi_sa).trans ((gi_sa).trans (gi_sa))) ?_
    refine yR_m 1 (fun _ _ _ _ => rfl) ?_
    refine wN_add (a := (gi m10 r 3).toInt) (b := 1) rfl rfl rfl (by omega) (fun x13 e14 => ?_)
    refine wR_pi rfl rVO_e rVO_3 hm_8 rfl ?_
    have hm_9 : aTm aT0 (si (sx (sx (sx m10 (r + 1) (gi m10 r 3) nn) (r + 2) (gi m10 r 3) tt) (r + 3) (gi m10 r 3) ff) r 3 x13) := tm_si rVO_e rVO_3 hm_8 (by rw [e14]; exact (by omega))
    exact yR_rv rfl (h2 q1 m4 hm4 k5 k6 m7 hm7 k8 k9 m10 hm10 k11 k12 x13 e14 hm_9)

theorem h_cf {s u : Nat} (hm : aTm aT0 mem) (iS : isT s) (iU : isT u) (hne : s + 2 < u ∨ u + 2 < s) (hd : 1 ≤ d) : yC zpg d 80 [.ref s, .ref u] mem (fun r m => r = none ∧ aTm aT0 m ∧ (frT s mem m ∧ cfS s u mem m)) := by
  obtain ⟨d, rfl⟩ : ∃ q, d = q + 1 := ⟨d - 1, by omega⟩
  obtain ⟨s0, s1, s2⟩ := iS
  obtain ⟨u0, u1, u2⟩ := iU
  refine yC_of (t := tX8_copyFrom) rfl rfl ?_
  exact w_cf hm s0 s1 s2 u0 u1 u2 hne (gi_rg u0 sVO_1 hm) (fun m1 hm1 k1 c1 m4 hm4 k4 c4 hm2 => by
    have hA := tm_si (x := gi mem u 0) s0 sVO_0 hm (i32_b _)
    have M0 : ∀ k, ¬ k = s → zat (si (si mem s 0 (gi mem u 0)) s 1 (gi mem u 1)) k = zat mem k := fun k hk => (zat_sv_ne (fun w => hk w.symm)).trans (zat_sv_ne (fun w => hk w.symm))
    have G4 : ∀ i, gi m4 s i = gi (si (si mem s 0 (gi mem u 0)) s 1 (gi mem u 1)) s i := fun i => (gi_zq (k4 s (by omega))).trans (gi_zq (k1 s (by omega)))
    have U4 : ∀ i, gi m4 u i = gi mem u i := fun i => (gi_zq (k4 u (by omega))).trans ((gi_zq (k1 u (by omega))).trans (gi_zq (M0 u (by omega))))
    refine ⟨rfl, hm2, fun k q0 q1 q2 => (zat_sv_ne (fun w => q0 w.symm)).trans ((zat_sv_ne (fun w => q0 w.symm)).trans ((k4 k q2).trans ((k1 k q1).trans (M0 k q0)))), ⟨?_, ?_, ?_, ?_⟩, fun t t0 t1 => ?_, fun f f0 f1 => ?_⟩
    · rw [gi_sv_ne (by omega), gi_sv_ne (by omega), G4, gi_sv_ne (by omega), gi_si_eq s0 sVO_0 hm]
    · rw [gi_sv_ne (by omega), gi_sv_ne (by omega), G4, gi_si_eq s0 sVO_1 hA]
    · rw [gi_sv_ne (by omega), gi_si_eq s0 sVO_4 hm4, U4]
    · rw [gi_si_eq s0 sVO_5 (tm_si s0 sVO_4 hm4 (i32_b _)), U4]
    · rw [ga_sv, ga_sv, ga_zq (k4 (s + 1) (by omega)), c1 t t0, if_pos (by omega), show t - 0 + 0 = t by omega]
    · have e : ga m1 (u + 2) = ga mem (u + 2) := ga_zq ((k1 (u + 2) (by omega)).trans (M0 (u + 2) (by omega)))
      rw [ga_sv, ga_sv, c4 f f0, if_pos (by omega), show f - 0 + 0 = f by omega, e])
theorem h_rc {r w : Nat} (hm : aTm aT0 mem) (iS : isW r) (iU : isW w) (hne : r + 3 < w ∨ w + 3 < r) (hd : 1 ≤ d) : yC zpg d 21 [.ref r, .ref w] mem (fun v m => v = none ∧ aTm aT0 m ∧ (frW r mem m ∧ ∀ K, kC w K mem → kC r K m)) := by
  obtain ⟨d, rfl⟩ : ∃ q, d = q + 1 := ⟨d - 1, by omega⟩
  obtain ⟨s0, s1, s2, s3⟩ := iS
  obtain ⟨u0, u1, u2, u3⟩ := iU
  refine yC_of (t := tX1_copyFrom) rfl rfl ?_
  exact w_rc hm s0 s1 s2 s3 u0 u1 u2 u3 hne (gi_rg u0 rVO_3 hm) (fun m1 hm1 k1 c1 m4 hm4 k4 c4 m7 hm7 k7 c7 hm2 => by
    have M0 : ∀ k, ¬ k = r → zat (si mem r 3 (gi mem w 3)) k = zat mem k := fun k hk => zat_sv_ne (fun w => hk w.symm)
    have g1 : gi m1 r 3 = gi mem w 3 := (gi_zq (k1 r (by omega))).trans (gi_si_eq s0 rVO_3 hm)
    have g4 : gi m4 r 3 = gi mem w 3 := (gi_zq (k4 r (by omega))).trans g1
    have g7 : gi m7 r 3 = gi mem w 3 := (gi_zq (k7 r (by omega))).trans g4
    refine ⟨rfl, hm2, fun k q0 q1 q2 q3 => (k7 k q3).trans ((k4 k q2).trans ((k1 k q1).trans (M0 k q0))), fun K hK => ?_⟩
    obtain ⟨j1, j2, j3⟩ := hK
    refine ⟨j1, by rw [g7]; exact j2, fun i i0 i1 => ?_⟩
    obtain ⟨l1, l2, l3⟩ := j3 i i0 i1
    rw [g1] at c4
    rw [g4] at c7
    refine ⟨?_, ?_, ?_⟩
    · rw [ga_zq (k7 (r + 1) (by omega)), ga_zq (k4 (r + 1) (by omega)), c1 i i0, if_pos (by omega), show i - 0 + 0 = i by omega, l1]
    · rw [ga_zq (k7 (r + 2) (by omega)), c4 i i0, if_pos (by omega), show i - 0 + 0 = i by omega, ga_zq ((k1 (w + 2) (by omega)).trans (M0 (w + 2) (by omega))), l2]
    · rw [c7 i i0, if_pos (by omega), show i - 0 + 0 = i by omega, ga_zq ((k4 (w + 3) (by omega)).trans ((k1 (w + 3) (by omega)).trans (M0 (w + 3) (by omega)))), l3])
theorem ra_f {r : Nat} {nn tt ff x2 : Int32} (iW : isW r) (hm : aTm aT0 mem) {K : Kd} (hK : kC r K mem) (k39 : K.1 ≤ 39) (e : x2.toInt = (gi mem r 3).toInt + 1) : kC r (kpA K (nn.toInt, tt.toInt, ff.toInt)) (si (sx (sx (sx mem (r + 1) (gi mem r 3) nn) (r + 2) (gi mem r 3) tt) (r + 3) (gi mem r 3) ff) r 3 x2) := by
  obtain ⟨s0, s1, s2, s3⟩ := iW
  obtain ⟨j1, j2, j3⟩ := hK
  have t1 := tm_sa (j := (gi mem r 3).toNatClampNeg) (x := nn) s1 hm (i32_b _)
  have t2 := tm_sa (j := (gi mem r 3).toNatClampNeg) (x := tt) s2 t1 (i32_b _)
  have t3 := tm_sa (j := (gi mem r 3).toNatClampNeg) (x := ff) s3 t2 (i32_b _)
  refine ⟨⟨by show 0 ≤ K.1 + 1; omega, by show K.1 + 1 ≤ 40; omega⟩, ?_, fun i i0 i1 => ?_⟩
  · rw [gi_si_eq s0 rVO_3 t3]
    show _ = K.1 + 1
    omega
  · have g1 : gn (ga (si (sx (sx (sx mem (r + 1) (gi mem r 3) nn) (r + 2) (gi mem r 3) tt) (r + 3) (gi mem r 3) ff) r 3 x2) (r + 1)) i = if i = K.1 then nn.toInt else gn (ga mem (r + 1)) i := by
      rw [ga_sv, ga_sa_ne (by omega), ga_sa_ne (by omega), ga_sa_eq]
      exact gn_set j2 j1.1 (by rw [(ga_ty s1 hm).2.1]; omega) i0
    have g2 : gn (ga (si (sx (sx (sx mem (r + 1) (gi mem r 3) nn) (r + 2) (gi mem r 3) tt) (r + 3) (gi mem r 3) ff) r 3 x2) (r + 2)) i = if i = K.1 then tt.toInt else gn (ga mem (r + 2)) i := by
      rw [ga_sv, ga_sa_ne (by omega), ga_sa_eq, gn_set j2 j1.1 (by rw [(ga_ty s2 t1).2.1]; omega) i0, ga_sa_ne (by omega)]
    have g3 : gn (ga (si (sx (sx (sx mem (r + 1) (gi mem r 3) nn) (r + 2) (gi mem r 3) tt) (r + 3) (gi mem r 3) ff) r 3 x2) (r + 3)) i = if i = K.1 then ff.toInt else gn (ga mem (r + 3)) i := by
      rw [ga_sv, ga_sa_eq, gn_set j2 j1.1 (by rw [(ga_ty s3 t2).2.1]; omega) i0, ga_sa_ne (by omega), ga_sa_ne (by omega)]
    rw [g1, g2, g3]
    by_cases v : i = K.1
    · have z : (kpA K (nn.toInt, tt.toInt, ff.toInt)).2 i = (nn.toInt, tt.toInt, ff.toInt) := if_pos v
      rw [z, if_pos v, if_pos v, if_pos v]
      exact ⟨rfl, rfl, rfl⟩
    · have z : (kpA K (nn.toInt, tt.toInt, ff.toInt)).2 i = K.2 i := if_neg v
      have i1 : i < K.1 + 1 := i1
      rw [z, if_neg v, if_neg v, if_neg v]
      exact j3 i i0 (by omega)
theorem h_ra {r : Nat} {nn tt ff : Int32} (hm : aTm aT0 mem) (iW : isW r) (hd : 1 ≤ d) : yC zpg d 20 [.ref r, .int nn, .int tt, .int ff] mem (fun v m => v = none ∧ aTm aT0 m ∧ (frW r mem m ∧ ∀ K, kC r K mem → kC r (kpP K (nn.toInt, tt.toInt, ff.toInt)) m)) := by
  obtain ⟨d, rfl⟩ : ∃ q, d = q + 1 := ⟨d - 1, by omega⟩
  obtain ⟨s0, s1, s2, s3⟩ := id iW
  refine yC_of (t := tX1_add) rfl rfl ?_
  exact w_ra hm s0 s1 s2 s3 (gi_rg s0 rVO_3 hm) (fun q1 x2 e2 hm2 => ⟨rfl, hm2, fun k a0 a1 a2 a3 => (zat_sv_ne (fun w => a0 w.symm)).trans ((zat_sa_ne (fun w => a3 w.symm)).trans ((zat_sa_ne (fun w => a2 w.symm)).trans (zat_sa_ne (fun w => a1 w.symm)))), fun K hK => by
      have j2 := hK.2.1
      unfold kpP
      rw [if_neg (by omega)]
      exact ra_f iW hm hK (by omega) e2⟩) (fun q1 m4 hm4 k4 c4 m7 hm7 k7 c7 m10 hm10 k10 c10 x13 e13 hm2 => by
    have M0 : ∀ k, ¬ k = r → zat (si mem r 3 39) k = zat mem k := fun k hk => zat_sv_ne (fun w => hk w.symm)
    have g4 : gi m4 r 3 = 39 := (gi_zq (k4 r (by omega))).trans (gi_si_eq s0 rVO_3 hm)
    have g7 : gi m7 r 3 = 39 := (gi_zq (k7 r (by omega))).trans g4
    have g10 : gi m10 r 3 = 39 := (gi_zq (k10 r (by omega))).trans g7
    have z39 : (39 : Int32).toInt = 39 := rfl
    refine ⟨rfl, hm2, fun k a0 a1 a2 a3 => (zat_sv_ne (fun w => a0 w.symm)).trans ((zat_sa_ne (fun w => a3 w.symm)).trans ((zat_sa_ne (fun w => a2 w.symm)).trans ((zat_sa_ne (fun w => a1 w.symm)).trans ((k10 k a3).trans ((k7 k a2).trans ((k4 k a1).trans (M0 k a0))))))), fun K hK => ?_⟩
    obtain ⟨j1, j2, j3⟩ := hK
    rw [g4, z39] at c7
    rw [g7, z39] at c10
    have kd : kC r (kpD K) m10 := by
      refine ⟨⟨by show 0 ≤ K.1 - 1; omega, by show K.1 - 1 ≤ 40; omega⟩, by rw [g10, z39]; show (39 : Int) = K.1 - 1; omega, fun i i0 i1 => ?_⟩
      have i1 : i < K.1 - 1 := i1
      obtain ⟨l1, l2, l3⟩ := j3 (i + 1) (by omega) (by omega)
      show gn _ i = (K.2 (i + 1)).1 ∧ gn _ i = (K.2 (i + 1)).2.1 ∧ gn _ i = (K.2 (i + 1)).2.2
      refine ⟨?_, ?_, ?_⟩
      · rw [ga_zq (k10 (r + 1) (by omega)), ga_zq (k7 (r + 1) (by omega)), c4 i i0, if_pos (by omega), show i - 0 + 1 = i + 1 by omega, l1]
      · rw [ga_zq (k10 (r + 2) (by omega)), c7 i i0, if_pos (by omega), show i - 0 + 1 = i + 1 by omega, ga_zq ((k4 (r + 2) (by omega)).trans (M0 (r + 2) (by omega))), l2]
      · rw [c10 i i0, if_pos (by omega), show i - 0 + 1 = i + 1 by omega, ga_zq ((k7 (r + 3) (by omega)).trans ((k4 (r + 3) (by omega)).trans (M0 (r + 3) (by omega)))), l3]
    unfold kpP
    rw [if_pos (by omega)]
    exact ra_f iW hm10 kd (by show K.1 - 1 ≤ 39; omega) e13)
end CPK
