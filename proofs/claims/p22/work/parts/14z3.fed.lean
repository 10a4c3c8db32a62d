/-! what feed leaves on the tape -/
section FE
def btx (s a : Int32) : Int32 := (a.toUInt32 >>> (s.toUInt32 &&& Int32.toUInt32 31)).toInt32 &&& 255
def btm (s a : Int32) : Int32 := (a >>> (s &&& 31)) &&& 255
theorem bv_sh (x : BitVec 32) (s : Nat) (hs : s ≤ 24) : (x.sshiftRight s) &&& 255#32 = (x >>> s) &&& 255#32 := by
  have K : ∀ i : Fin 32, ¬ i.1 < 8 → (255#32).getLsbD i.1 = false := by decide
  apply BitVec.eq_of_getLsbD_eq
  intro i hi
  rw [BitVec.getLsbD_and, BitVec.getLsbD_and]
  by_cases h : i < 8
  · rw [BitVec.getLsbD_sshiftRight, BitVec.getLsbD_ushiftRight, if_pos (by omega), decide_eq_false (show ¬ 32 ≤ i by omega)]
    rfl
  · rw [K ⟨i, hi⟩ h, Bool.and_false, Bool.and_false]
theorem btm_24 (a : Int32) : btm 24 a = btx 24 a := Int32.toBitVec_inj.1 (bv_sh a.toBitVec 24 (by decide))
theorem btm_16 (a : Int32) : btm 16 a = btx 16 a := Int32.toBitVec_inj.1 (bv_sh a.toBitVec 16 (by decide))
theorem btm_8 (a : Int32) : btm 8 a = btx 8 a := Int32.toBitVec_inj.1 (bv_sh a.toBitVec 8 (by decide))
theorem btm_0 (a : Int32) : btm 0 a = btx 0 a := Int32.toBitVec_inj.1 (bv_sh a.toBitVec 0 (by decide))
def pwT (T : List Int32) (n : Int) (a : Int32) : List Int32 := (((T.set n.toNat (btx 24 a)).set (n + 1).toNat (btx 16 a)).set (n + 1 + 1).toNat (btx 8 a)).set (n + 1 + 1 + 1).toNat (btx 0 a)
theorem pwT_l {T : List Int32} {n : Int} {a : Int32} : (pwT T n a).length = T.length := by
  unfold pwT
  simp only [List.length_set]
def fwT (T : List Int32) (n : Int) (a0 a1 a2 a3 a4 : Int32) : List Int32 := pwT (pwT (pwT (pwT (pwT T n a0) (n + 4) a1) (n + 4 + 4) a2) (n + 4 + 4 + 4) a3) (n + 4 + 4 + 4 + 4) a4
/-- the tapes are alike below 1600 -/
def smT (T U : List Int32) : Prop := ∀ i : Int, i < 1600 → gn T i = gn U i
theorem sm_set {T U : List Int32} {k : Nat} {x : Int32} (h : smT T U) (h1 : k < T.length) (h2 : k < U.length) : smT (T.set k x) (U.set k x) := by
  intro i hi
  have w := h i hi
  unfold gn at w ⊢
  rw [List.getD_eq_getElem?_getD, List.getD_eq_getElem?_getD] at w ⊢
  by_cases e : k = i.toNat
  · subst e
    rw [List.getElem?_set_self h1, List.getElem?_set_self h2]
  · rw [List.getElem?_set_ne e, List.getElem?_set_ne e]
    exact w
theorem sm_pw {T U : List Int32} {n : Int} {a : Int32} (h : smT T U) (n0 : 0 ≤ n) (n1 : n + 4 ≤ 1600) (h1 : 1600 ≤ T.length) (h2 : 1600 ≤ U.length) : smT (pwT T n a) (pwT U n a) := by
  unfold pwT
  refine sm_set (sm_set (sm_set (sm_set h ?_ ?_) ?_ ?_) ?_ ?_) ?_ ?_ <;> (try simp only [List.length_set]) <;> omega
theorem sm_fw {T U : List Int32} {n : Int} {a0 a1 a2 a3 a4 : Int32} (h : smT T U) (n0 : 0 ≤ n) (n1 : n ≤ 1580) (h1 : 1600 ≤ T.length) (h2 : 1600 ≤ U.length) : smT (fwT T n a0 a1 a2 a3 a4) (fwT U n a0 a1 a2 a3 a4) := by
  unfold fwT
  refine sm_pw (sm_pw (sm_pw (sm_pw (sm_pw h n0 ?_ h1 h2) ?_ ?_ ?_ ?_) ?_ ?_ ?_ ?_) ?_ ?_ ?_ ?_) ?_ ?_ ?_ ?_ <;> (try simp only [pwT_l]) <;> omega
theorem ga_fe {m : zM} {k c : Nat} {l : List Int32} (h : zat m k = some (.inl (c, .inl l))) : ga m k = l := by
  unfold ga
  rw [h]
def zFee (b ra ci : Nat) (fs : List Value) (T : List Int32) (n : Int) (mem m' : zM) : Prop := (∀ k, ¬ k = b → ¬ k = ra → zat m' k = zat mem k) ∧ ∃ (n' : Int32), zat m' b = some (.inr (ci, fs.set 1 (.int n'))) ∧ n'.toInt = n ∧ zat m' ra = some (.inl (0, .inl T))
set_option maxRecDepth 100000 in
theorem zfe_turn_x {d b ra : Nat} {s a n : Int32} {T : List Int32} {fs : List Value} {mem : zM} {P : Option Value → zM → Prop} (hne : ¬ ra = b) (h0 : zat mem b = some (.inr (11, fs))) (f0 : fs[0]? = some (.ref ra)) (f1 : fs[1]? = some (.int n)) (h1 : zat mem ra = some (.inl (0, .inl T))) (hn : 0 ≤ n.toInt) (hT : n.toInt < T.length) (hL : n.toInt < 2000) (hs : decide (s < 0) = false)
    (h : ∀ m', zFee b ra 11 fs (T.set n.toInt.toNat (btx s a)) (n.toInt + 1) mem m' → yR zpg tX11_putOnTape d (3, [(2, .int (s + -8)), (0, .ref b), (1, .int a)], [], m') P) : yR zpg tX11_putOnTape d (3, [(2, .int s), (0, .ref b), (1, .int a)], [], mem) P := by
  refine yR_m 1 (fun _ _ _ _ => rfl) ?_
  refine yR_if rfl (fun q => absurd (hs.symm.trans q) (by decide)) (fun _ => ?_)
  refine yR_m 1 (fun _ _ _ _ => rfl) ?_
  refine yR_gf rfl h0 f0 ?_
  refine yR_m 1 (fun _ _ _ _ => rfl) ?_
  refine yR_gf rfl h0 f1 ?_
  refine yR_m 5 (fun _ _ _ _ => rfl) ?_
  refine yR_as rfl h1 hn hT ?_
  have g0 : ∀ c', zat (mem.set ra c') b = some (.inr (11, fs)) := fun c' => (zat_ne_set hne).trans h0
  refine yR_m 2 (fun _ _ _ _ => rfl) ?_
  refine yR_gf rfl (g0 _) f1 ?_
  refine yR_m 2 (fun _ _ _ _ => rfl) ?_
  refine yR_pf rfl (g0 _) (List.getElem?_eq_some_iff.mp f1).1 rfl ?_
  refine yR_m 2 (fun _ _ _ _ => rfl) ?_
  refine h _ ⟨fun k k1 k2 => ?_, n + 1, zat_eq_set (g0 _), zadd_i (by show _ ≤ n.toInt + 1; omega) (by show n.toInt + 1 ≤ _; omega), (zat_ne_set (Ne.symm hne)).trans (zat_eq_set h1)⟩
  rw [zat_ne_set (Ne.symm k1), zat_ne_set (Ne.symm k2)]
set_option maxRecDepth 100000 in
theorem zfe_put_x {d b ra : Nat} {a n : Int32} {T : List Int32} {fs : List Value} {mem : zM} (hne : ¬ ra = b) (h0 : zat mem b = some (.inr (11, fs))) (f0 : fs[0]? = some (.ref ra)) (f1 : fs[1]? = some (.int n)) (h1 : zat mem ra = some (.inl (0, .inl T))) (hn : 0 ≤ n.toInt) (hT : n.toInt + 4 ≤ T.length) (hL : n.toInt < 1900) : yC zpg (d + 1) 146 [.ref b, .int a] mem (fun r m' => r = none ∧ zFee b ra 11 fs (pwT T n.toInt a) (n.toInt + 4) mem m') := by
  have f1l := (List.getElem?_eq_some_iff.mp f1).1
  have ff : ∀ v : Value, (fs.set 1 v)[0]? = some (.ref ra) := fun v => by rw [List.getElem?_set_ne (by omega)]; exact f0
  have fg : ∀ v : Value, (fs.set 1 v)[1]? = some v := fun v => by rw [List.getElem?_set_self f1l]
  refine yC_of (t := tX11_putOnTape) rfl rfl ?_
  refine yR_m 2 (fun _ _ _ _ => rfl) ?_
  refine zfe_turn_x hne h0 f0 f1 h1 hn (by omega) (by omega) rfl ?_
  rintro m1 ⟨u1, n1, a1, b1, c1⟩
  refine zfe_turn_x hne a1 (ff _) (fg _) c1 (by omega) (by rw [List.length_set]; omega) (by omega) rfl ?_
  rintro m2 ⟨u2, n2, a2, b2, c2⟩
  refine zfe_turn_x hne (by rw [a2, List.set_set]) (ff _) (fg _) c2 (by omega) (by rw [List.length_set, List.length_set]; omega) (by omega) rfl ?_
  rintro m3 ⟨u3, n3, a3, b3, c3⟩
  refine zfe_turn_x hne (by rw [a3, List.set_set]) (ff _) (fg _) c3 (by omega) (by rw [List.length_set, List.length_set, List.length_set]; omega) (by omega) rfl ?_
  rintro m4 ⟨u4, n4, a4, b4, c4⟩
  refine yR_m 1 (fun _ _ _ _ => rfl) ?_
  refine yR_if rfl (fun _ => ?_) (fun q => absurd q (by decide))
  have e16 : (24 + -8 : Int32) = 16 := by decide
  have e8 : (16 + -8 : Int32) = 8 := by decide
  have e0 : (8 + -8 : Int32) = 0 := by decide
  rw [e16, e8, e0, b3, b2, b1] at c4
  exact yR_rv rfl ⟨rfl, fun k k1 k2 => by rw [u4 k k1 k2, u3 k k1 k2, u2 k k1 k2, u1 k k1 k2], n4, by rw [a4, List.set_set], by omega, c4⟩
set_option maxRecDepth 100000 in
theorem zfe_feed_x {d b ra : Nat} {a0 a1 a2 a3 a4 n : Int32} {T : List Int32} {fs : List Value} {mem : zM} (hne : ¬ ra = b) (h0 : zat mem b = some (.inr (11, fs))) (f0 : fs[0]? = some (.ref ra)) (f1 : fs[1]? = some (.int n)) (h1 : zat mem ra = some (.inl (0, .inl T))) (hn : 0 ≤ n.toInt) (hT : n.toInt + 20 ≤ T.length) (hL : n.toInt ≤ 1580) : yC zpg (d + 2) 112 [.ref b, .int a0, .int a1, .int a2, .int a3, .int a4] mem (fun _ m' => zat m' ra = some (.inl (0, .inl (fwT T n.toInt a0 a1 a2 a3 a4)))) := by
  have f1l := (List.getElem?_eq_some_iff.mp f1).1
  have ff : ∀ v : Value, (fs.set 1 v)[0]? = some (.ref ra) := fun v => by rw [List.getElem?_set_ne (by omega)]; exact f0
  have fg : ∀ v : Value, (fs.set 1 v)[1]? = some v := fun v => by rw [List.getElem?_set_self f1l]
  refine yC_of (t := tX11_feed) rfl rfl ?_
  refine yR_m 1 (fun _ _ _ _ => rfl) ?_
  refine yR_gf rfl h0 f1 ?_
  refine yR_m 3 (fun _ _ _ _ => rfl) ?_
  refine yR_ic rfl (fun _ => ?_) (fun q => ?_)
  rotate_left
  · have q : decide (n + 20 ≤ 1600) = false := q
    have := of_decide_eq_false q
    rw [Int32.le_iff_toInt_le, zadd_i (by show _ ≤ n.toInt + 20; omega) (by show n.toInt + 20 ≤ _; omega)] at this
    exact absurd (show n.toInt + 20 ≤ 1600 by omega) this
  refine yR_m 2 (fun _ _ _ _ => rfl) ?_
  refine yR_cv rfl rfl h0 rfl (zfe_put_x (a := a0) hne h0 f0 f1 h1 hn (by omega) (by omega)) ?_
  rintro _ m1 ⟨rfl, u1, n1, p1, b1, c1⟩
  refine yR_m 2 (fun _ _ _ _ => rfl) ?_
  refine yR_cv rfl rfl p1 rfl (zfe_put_x (a := a1) hne p1 (ff _) (fg _) c1 (by omega) (by rw [pwT_l]; omega) (by omega)) ?_
  rintro _ m2 ⟨rfl, u2, n2, p2, b2, c2⟩
  rw [List.set_set] at p2
  refine yR_m 2 (fun _ _ _ _ => rfl) ?_
  refine yR_cv rfl rfl p2 rfl (zfe_put_x (a := a2) hne p2 (ff _) (fg _) c2 (by omega) (by rw [pwT_l, pwT_l]; omega) (by omega)) ?_
  rintro _ m3 ⟨rfl, u3, n3, p3, b3, c3⟩
  rw [List.set_set] at p3
  refine yR_m 2 (fun _ _ _ _ => rfl) ?_
  refine yR_cv rfl rfl p3 rfl (zfe_put_x (a := a3) hne p3 (ff _) (fg _) c3 (by omega) (by rw [pwT_l, pwT_l, pwT_l]; omega) (by omega)) ?_
  rintro _ m4 ⟨rfl, u4, n4, p4, b4, c4⟩
  rw [List.set_set] at p4
  refine yR_m 2 (fun _ _ _ _ => rfl) ?_
  refine yR_cv rfl rfl p4 rfl (zfe_put_x (a := a4) hne p4 (ff _) (fg _) c4 (by omega) (by rw [pwT_l, pwT_l, pwT_l, pwT_l]; omega) (by omega)) ?_
  rintro _ m5 ⟨rfl, u5, n5, p5, b5, c5⟩
  rw [List.set_set] at p5
  refine yR_m 1 (fun _ _ _ _ => rfl) ?_
  refine yR_gf rfl p5 (fg _) ?_
  rw [b4, b3, b2, b1] at c5
  exact yR_ri rfl c5
theorem h_fe_x {d : Nat} {mem : zM} {a1 a2 a3 a4 a5 : Int32} (hm : aTm aT0 mem) (hn : (gi mem 0 1).toInt ≤ 1580) (hd : 2 ≤ d) : yC zpg d 112 [.ref 0, .int a1, .int a2, .int a3, .int a4, .int a5] mem (fun _ m => ga m 1 = fwT (ga mem 1) (gi mem 0 1).toInt a1 a2 a3 a4 a5) := by
  obtain ⟨d, rfl⟩ : ∃ q, d = q + 2 := ⟨d - 2, by omega⟩
  have r1 := cO_r1 hm
  obtain ⟨fs, h0, f1, -, -⟩ := gi_ty cO_e cO_1 hm
  obtain ⟨fs2, h0', f0⟩ := gr_ty cO_e cO_0 hm
  rw [h0] at h0'
  cases h0'
  obtain ⟨t1, t2, -⟩ := ga_ty aR_1 hm
  refine yC_mono (fun r m q => ?_) (zfe_feed_x (by decide) h0 f0 f1 t1 r1.1 (by omega) hn)
  exact ga_fe q
set_option maxRecDepth 100000 in
theorem zfe_turn_m {d b ra : Nat} {s a n : Int32} {T : List Int32} {fs : List Value} {mem : zM} {P : Option Value → zM → Prop} (hne : ¬ ra = b) (h0 : zat mem b = some (.inr (12, fs))) (f0 : fs[0]? = some (.ref ra)) (f1 : fs[1]? = some (.int n)) (h1 : zat mem ra = some (.inl (0, .inl T))) (hn : 0 ≤ n.toInt) (hT : n.toInt < T.length) (hL : n.toInt < 2000) (hs : decide (s < 0) = false)
    (h : ∀ m', zFee b ra 12 fs (T.set n.toInt.toNat (btm s a)) (n.toInt + 1) mem m' → yR zpg tX12_put d (3, [(2, .int (s + -8)), (0, .ref b), (1, .int a)], [], m') P) : yR zpg tX12_put d (3, [(2, .int s), (0, .ref b), (1, .int a)], [], mem) P := by
  refine yR_m 1 (fun _ _ _ _ => rfl) ?_
  refine yR_if rfl (fun q => absurd (hs.symm.trans q) (by decide)) (fun _ => ?_)
  refine yR_m 1 (fun _ _ _ _ => rfl) ?_
  refine yR_gf rfl h0 f0 ?_
  refine yR_m 1 (fun _ _ _ _ => rfl) ?_
  refine yR_gf rfl h0 f1 ?_
  refine yR_m 5 (fun _ _ _ _ => rfl) ?_
  refine yR_as rfl h1 hn hT ?_
  have g0 : ∀ c', zat (mem.set ra c') b = some (.inr (12, fs)) := fun c' => (zat_ne_set hne).trans h0
  refine yR_m 2 (fun _ _ _ _ => rfl) ?_
  refine yR_gf rfl (g0 _) f1 ?_
  refine yR_m 2 (fun _ _ _ _ => rfl) ?_
  refine yR_pf rfl (g0 _) (List.getElem?_eq_some_iff.mp f1).1 rfl ?_
  refine yR_m 2 (fun _ _ _ _ => rfl) ?_
  refine h _ ⟨fun k k1 k2 => ?_, n + 1, zat_eq_set (g0 _), zadd_i (by show _ ≤ n.toInt + 1; omega) (by show n.toInt + 1 ≤ _; omega), (zat_ne_set (Ne.symm hne)).trans (zat_eq_set h1)⟩
  rw [zat_ne_set (Ne.symm k1), zat_ne_set (Ne.symm k2)]
set_option maxRecDepth 100000 in
theorem zfe_put_m {d b ra : Nat} {a n : Int32} {T : List Int32} {fs : List Value} {mem : zM} (hne : ¬ ra = b) (h0 : zat mem b = some (.inr (12, fs))) (f0 : fs[0]? = some (.ref ra)) (f1 : fs[1]? = some (.int n)) (h1 : zat mem ra = some (.inl (0, .inl T))) (hn : 0 ≤ n.toInt) (hT : n.toInt + 4 ≤ T.length) (hL : n.toInt < 1900) : yC zpg (d + 1) 166 [.ref b, .int a] mem (fun r m' => r = none ∧ zFee b ra 12 fs (pwT T n.toInt a) (n.toInt + 4) mem m') := by
  have f1l := (List.getElem?_eq_some_iff.mp f1).1
  have ff : ∀ v : Value, (fs.set 1 v)[0]? = some (.ref ra) := fun v => by rw [List.getElem?_set_ne (by omega)]; exact f0
  have fg : ∀ v : Value, (fs.set 1 v)[1]? = some v := fun v => by rw [List.getElem?_set_self f1l]
  refine yC_of (t := tX12_put) rfl rfl ?_
  refine yR_m 2 (fun _ _ _ _ => rfl) ?_
  refine zfe_turn_m hne h0 f0 f1 h1 hn (by omega) (by omega) rfl ?_
  rintro m1 ⟨u1, n1, a1, b1, c1⟩
  refine zfe_turn_m hne a1 (ff _) (fg _) c1 (by omega) (by rw [List.length_set]; omega) (by omega) rfl ?_
  rintro m2 ⟨u2, n2, a2, b2, c2⟩
  refine zfe_turn_m hne (by rw [a2, List.set_set]) (ff _) (fg _) c2 (by omega) (by rw [List.length_set, List.length_set]; omega) (by omega) rfl ?_
  rintro m3 ⟨u3, n3, a3, b3, c3⟩
  refine zfe_turn_m hne (by rw [a3, List.set_set]) (ff _) (fg _) c3 (by omega) (by rw [List.length_set, List.length_set, List.length_set]; omega) (by omega) rfl ?_
  rintro m4 ⟨u4, n4, a4, b4, c4⟩
  refine yR_m 1 (fun _ _ _ _ => rfl) ?_
  refine yR_if rfl (fun _ => ?_) (fun q => absurd q (by decide))
  have e16 : (24 + -8 : Int32) = 16 := by decide
  have e8 : (16 + -8 : Int32) = 8 := by decide
  have e0 : (8 + -8 : Int32) = 0 := by decide
  rw [e16, e8, e0, b3, b2, b1, btm_24, btm_16, btm_8, btm_0] at c4
  exact yR_rv rfl ⟨rfl, fun k k1 k2 => by rw [u4 k k1 k2, u3 k k1 k2, u2 k k1 k2, u1 k k1 k2], n4, by rw [a4, List.set_set], by omega, c4⟩
set_option maxRecDepth 100000 in
theorem zfe_feed_m {d b ra : Nat} {a0 a1 a2 a3 a4 n : Int32} {T : List Int32} {fs : List Value} {mem : zM} (hne : ¬ ra = b) (h0 : zat mem b = some (.inr (12, fs))) (f0 : fs[0]? = some (.ref ra)) (f1 : fs[1]? = some (.int n)) (h1 : zat mem ra = some (.inl (0, .inl T))) (hn : 0 ≤ n.toInt) (hT : n.toInt + 20 ≤ T.length) (hL : n.toInt ≤ 1580) : yC zpg (d + 2) 167 [.ref b, .int a0, .int a1, .int a2, .int a3, .int a4] mem (fun _ m' => zat m' ra = some (.inl (0, .inl (fwT T n.toInt a0 a1 a2 a3 a4)))) := by
  have f1l := (List.getElem?_eq_some_iff.mp f1).1
  have ff : ∀ v : Value, (fs.set 1 v)[0]? = some (.ref ra) := fun v => by rw [List.getElem?_set_ne (by omega)]; exact f0
  have fg : ∀ v : Value, (fs.set 1 v)[1]? = some v := fun v => by rw [List.getElem?_set_self f1l]
  refine yC_of (t := tX12_feed) rfl rfl ?_
  refine yR_m 1 (fun _ _ _ _ => rfl) ?_
  refine yR_gf rfl h0 f1 ?_
  refine yR_m 3 (fun _ _ _ _ => rfl) ?_
  refine yR_ic rfl (fun _ => ?_) (fun q => ?_)
  rotate_left
  · have q : decide (n + 20 ≤ 1600) = false := q
    have := of_decide_eq_false q
    rw [Int32.le_iff_toInt_le, zadd_i (by show _ ≤ n.toInt + 20; omega) (by show n.toInt + 20 ≤ _; omega)] at this
    exact absurd (show n.toInt + 20 ≤ 1600 by omega) this
  refine yR_m 2 (fun _ _ _ _ => rfl) ?_
  refine yR_cv rfl rfl h0 rfl (zfe_put_m (a := a0) hne h0 f0 f1 h1 hn (by omega) (by omega)) ?_
  rintro _ m1 ⟨rfl, u1, n1, p1, b1, c1⟩
  refine yR_m 2 (fun _ _ _ _ => rfl) ?_
  refine yR_cv rfl rfl p1 rfl (zfe_put_m (a := a1) hne p1 (ff _) (fg _) c1 (by omega) (by rw [pwT_l]; omega) (by omega)) ?_
  rintro _ m2 ⟨rfl, u2, n2, p2, b2, c2⟩
  rw [List.set_set] at p2
  refine yR_m 2 (fun _ _ _ _ => rfl) ?_
  refine yR_cv rfl rfl p2 rfl (zfe_put_m (a := a2) hne p2 (ff _) (fg _) c2 (by omega) (by rw [pwT_l, pwT_l]; omega) (by omega)) ?_
  rintro _ m3 ⟨rfl, u3, n3, p3, b3, c3⟩
  rw [List.set_set] at p3
  refine yR_m 2 (fun _ _ _ _ => rfl) ?_
  refine yR_cv rfl rfl p3 rfl (zfe_put_m (a := a3) hne p3 (ff _) (fg _) c3 (by omega) (by rw [pwT_l, pwT_l, pwT_l]; omega) (by omega)) ?_
  rintro _ m4 ⟨rfl, u4, n4, p4, b4, c4⟩
  rw [List.set_set] at p4
  refine yR_m 2 (fun _ _ _ _ => rfl) ?_
  refine yR_cv rfl rfl p4 rfl (zfe_put_m (a := a4) hne p4 (ff _) (fg _) c4 (by omega) (by rw [pwT_l, pwT_l, pwT_l, pwT_l]; omega) (by omega)) ?_
  rintro _ m5 ⟨rfl, u5, n5, p5, b5, c5⟩
  rw [List.set_set] at p5
  refine yR_m 1 (fun _ _ _ _ => rfl) ?_
  refine yR_gf rfl p5 (fg _) ?_
  rw [b4, b3, b2, b1] at c5
  exact yR_ri rfl c5
theorem h_fe_m {d : Nat} {mem : zM} {a1 a2 a3 a4 a5 : Int32} (hm : aTm aT0 mem) (hn : (gi mem 221 1).toInt ≤ 1580) (hd : 2 ≤ d) : yC zpg d 167 [.ref 221, .int a1, .int a2, .int a3, .int a4, .int a5] mem (fun _ m => ga m 222 = fwT (ga mem 222) (gi mem 221 1).toInt a1 a2 a3 a4 a5) := by
  obtain ⟨d, rfl⟩ : ∃ q, d = q + 2 := ⟨d - 2, by omega⟩
  have r1 := mO_r1 hm
  obtain ⟨fs, h0, f1, -, -⟩ := gi_ty mO_e mO_1 hm
  obtain ⟨fs2, h0', f0⟩ := gr_ty mO_e mO_0 hm
  rw [h0] at h0'
  cases h0'
  obtain ⟨t1, t2, -⟩ := ga_ty aR_222 hm
  refine yC_mono (fun r m q => ?_) (zfe_feed_m (by decide) h0 f0 f1 t1 r1.1 (by omega) hn)
  exact ga_fe q
end FE
