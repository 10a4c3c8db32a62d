theorem b255 (a : Int32) : 0 ≤ (a &&& 255).toInt ∧ (a &&& 255).toInt ≤ 255 := i32_and_r (y := 255) (by decide)
def zFed (b ra ci : Nat) (fs : List Value) (T : List Int32) (n : Int) (mem m' : zM) : Prop := m'.length = mem.length ∧ (∀ k, ¬ k = b → ¬ k = ra → zat m' k = zat mem k) ∧ ∃ (n' : Int32) (T' : List Int32), zat m' b = some (.inr (ci, fs.set 1 (.int n'))) ∧ n'.toInt = n ∧ zat m' ra = some (.inl (0, .inl T')) ∧ T'.length = T.length ∧ ∀ x ∈ T', x ∈ T ∨ (0 ≤ x.toInt ∧ x.toInt ≤ 255)
set_option maxRecDepth 100000 in
theorem zput_turn_x {d b ra : Nat} {s a n : Int32} {T : List Int32} {fs : List Value} {mem : zM} {P : Option Value → zM → Prop} (hne : ¬ ra = b) (h0 : zat mem b = some (.inr (11, fs))) (f0 : fs[0]? = some (.ref ra)) (f1 : fs[1]? = some (.int n)) (h1 : zat mem ra = some (.inl (0, .inl T))) (hn : 0 ≤ n.toInt) (hT : n.toInt < T.length) (hL : n.toInt < 2000) (hs : decide (s < 0) = false)
    (h : ∀ m', zFed b ra 11 fs T (n.toInt + 1) mem m' → yR zpg tX11_putOnTape d (3, [(2, .int (s + -8)), (0, .ref b), (1, .int a)], [], m') P) : yR zpg tX11_putOnTape d (3, [(2, .int s), (0, .ref b), (1, .int a)], [], mem) P := by
  refine yR_m 1 (fun _ _ _ _ => rfl) ?_
  refine yR_if rfl (fun q => absurd (hs.symm.trans q) (by decide)) (fun _ => ?_)
  refine yR_m 1 (fun _ _ _ _ => rfl) ?_
  refine yR_gf rfl h0 f0 ?_
  refine yR_m 1 (fun _ _ _ _ => rfl) ?_
  refine yR_gf rfl h0 f1 ?_
  refine yR_m 5 (fun _ _ _ _ => rfl) ?_
  refine yR_as rfl h1 hn hT ?_
  have g0 : ∀ c', zat (mem.set ra c') b = some (.inr (11, fs)) := fun c' => (zat_ne_set hne).trans h0
  refine yR_m 2 (fun _ _ _ _ => rfl) ?_
  refine yR_gf rfl (g0 _) f1 ?_
  refine yR_m 2 (fun _ _ _ _ => rfl) ?_
  refine yR_pf rfl (g0 _) (List.getElem?_eq_some_iff.mp f1).1 rfl ?_
  refine yR_m 2 (fun _ _ _ _ => rfl) ?_
  refine h _ ⟨by simp, fun k k1 k2 => ?_, n + 1, _, zat_eq_set (g0 _), zadd_i (by show _ ≤ n.toInt + 1; omega) (by show n.toInt + 1 ≤ _; omega), (zat_ne_set (Ne.symm hne)).trans (zat_eq_set h1), by simp, fun x hx => (List.mem_or_eq_of_mem_set hx).imp id (fun e => by rw [e]; exact b255 _)⟩
  rw [zat_ne_set (Ne.symm k1), zat_ne_set (Ne.symm k2)]
set_option maxRecDepth 100000 in
theorem zput_x {d b ra : Nat} {a n : Int32} {T : List Int32} {fs : List Value} {mem : zM} (hne : ¬ ra = b) (h0 : zat mem b = some (.inr (11, fs))) (f0 : fs[0]? = some (.ref ra)) (f1 : fs[1]? = some (.int n)) (h1 : zat mem ra = some (.inl (0, .inl T))) (hn : 0 ≤ n.toInt) (hT : n.toInt + 4 ≤ T.length) (hL : n.toInt < 1900) : yC zpg (d + 1) 146 [.ref b, .int a] mem (fun r m' => r = none ∧ zFed b ra 11 fs T (n.toInt + 4) mem m') := by
  have f1l := (List.getElem?_eq_some_iff.mp f1).1
  have ff : ∀ v : Value, (fs.set 1 v)[0]? = some (.ref ra) := fun v => by rw [List.getElem?_set_ne (by omega)]; exact f0
  have fg : ∀ v : Value, (fs.set 1 v)[1]? = some v := fun v => by rw [List.getElem?_set_self f1l]
  refine yC_of (t := tX11_putOnTape) rfl rfl ?_
  refine yR_m 2 (fun _ _ _ _ => rfl) ?_
  refine zput_turn_x hne h0 f0 f1 h1 hn (by omega) (by omega) rfl ?_
  rintro m1 ⟨l1, u1, n1, T1, a1, b1, c1, d1, e1⟩
  refine zput_turn_x hne a1 (ff _) (fg _) c1 (by omega) (by omega) (by omega) rfl ?_
  rintro m2 ⟨l2, u2, n2, T2, a2, b2, c2, d2, e2⟩
  refine zput_turn_x hne (by rw [a2, List.set_set]) (ff _) (fg _) c2 (by omega) (by omega) (by omega) rfl ?_
  rintro m3 ⟨l3, u3, n3, T3, a3, b3, c3, d3, e3⟩
  refine zput_turn_x hne (by rw [a3, List.set_set]) (ff _) (fg _) c3 (by omega) (by omega) (by omega) rfl ?_
  rintro m4 ⟨l4, u4, n4, T4, a4, b4, c4, d4, e4⟩
  refine yR_m 1 (fun _ _ _ _ => rfl) ?_
  refine yR_if rfl (fun _ => ?_) (fun q => absurd q (by decide))
  refine yR_rv rfl ⟨rfl, by omega, fun k k1 k2 => by rw [u4 k k1 k2, u3 k k1 k2, u2 k k1 k2, u1 k k1 k2], n4, T4, by rw [a4, List.set_set], by omega, c4, by omega, fun x hx => (e4 x hx).elim (fun hx => (e3 x hx).elim (fun hx => (e2 x hx).elim (fun hx => e1 x hx) Or.inr) Or.inr) Or.inr⟩
set_option maxRecDepth 100000 in
theorem zput_turn_m {d b ra : Nat} {s a n : Int32} {T : List Int32} {fs : List Value} {mem : zM} {P : Option Value → zM → Prop} (hne : ¬ ra = b) (h0 : zat mem b = some (.inr (12, fs))) (f0 : fs[0]? = some (.ref ra)) (f1 : fs[1]? = some (.int n)) (h1 : zat mem ra = some (.inl (0, .inl T))) (hn : 0 ≤ n.toInt) (hT : n.toInt < T.length) (hL : n.toInt < 2000) (hs : decide (s < 0) = false)
    (h : ∀ m', zFed b ra 12 fs T (n.toInt + 1) mem m' → yR zpg tX12_put d (3, [(2, .int (s + -8)), (0, .ref b), (1, .int a)], [], m') P) : yR zpg tX12_put d (3, [(2, .int s), (0, .ref b), (1, .int a)], [], mem) P := by
  refine yR_m 1 (fun _ _ _ _ => rfl) ?_
  refine yR_if rfl (fun q => absurd (hs.symm.trans q) (by decide)) (fun _ => ?_)
  refine yR_m 1 (fun _ _ _ _ => rfl) ?_
  refine yR_gf rfl h0 f0 ?_
  refine yR_m 1 (fun _ _ _ _ => rfl) ?_
  refine yR_gf rfl h0 f1 ?_
  refine yR_m 5 (fun _ _ _ _ => rfl) ?_
  refine yR_as rfl h1 hn hT ?_
  have g0 : ∀ c', zat (mem.set ra c') b = some (.inr (12, fs)) := fun c' => (zat_ne_set hne).trans h0
  refine yR_m 2 (fun _ _ _ _ => rfl) ?_
  refine yR_gf rfl (g0 _) f1 ?_
  refine yR_m 2 (fun _ _ _ _ => rfl) ?_
  refine yR_pf rfl (g0 _) (List.getElem?_eq_some_iff.mp f1).1 rfl ?_
  refine yR_m 2 (fun _ _ _ _ => rfl) ?_
  refine h _ ⟨by simp, fun k k1 k2 => ?_, n + 1, _, zat_eq_set (g0 _), zadd_i (by show _ ≤ n.toInt + 1; omega) (by show n.toInt + 1 ≤ _; omega), (zat_ne_set (Ne.symm hne)).trans (zat_eq_set h1), by simp, fun x hx => (List.mem_or_eq_of_mem_set hx).imp id (fun e => by rw [e]; exact b255 _)⟩
  rw [zat_ne_set (Ne.symm k1), zat_ne_set (Ne.symm k2)]
set_option maxRecDepth 100000 in
theorem zput_m {d b ra : Nat} {a n : Int32} {T : List Int32} {fs : List Value} {mem : zM} (hne : ¬ ra = b) (h0 : zat mem b = some (.inr (12, fs))) (f0 : fs[0]? = some (.ref ra)) (f1 : fs[1]? = some (.int n)) (h1 : zat mem ra = some (.inl (0, .inl T))) (hn : 0 ≤ n.toInt) (hT : n.toInt + 4 ≤ T.length) (hL : n.toInt < 1900) : yC zpg (d + 1) 166 [.ref b, .int a] mem (fun r m' => r = none ∧ zFed b ra 12 fs T (n.toInt + 4) mem m') := by
  have f1l := (List.getElem?_eq_some_iff.mp f1).1
  have ff : ∀ v : Value, (fs.set 1 v)[0]? = some (.ref ra) := fun v => by rw [List.getElem?_set_ne (by omega)]; exact f0
  have fg : ∀ v : Value, (fs.set 1 v)[1]? = some v := fun v => by rw [List.getElem?_set_self f1l]
  refine yC_of (t := tX12_put) rfl rfl ?_
  refine yR_m 2 (fun _ _ _ _ => rfl) ?_
  refine zput_turn_m hne h0 f0 f1 h1 hn (by omega) (by omega) rfl ?_
  rintro m1 ⟨l1, u1, n1, T1, a1, b1, c1, d1, e1⟩
  refine zput_turn_m hne a1 (ff _) (fg _) c1 (by omega) (by omega) (by omega) rfl ?_
  rintro m2 ⟨l2, u2, n2, T2, a2, b2, c2, d2, e2⟩
  refine zput_turn_m hne (by rw [a2, List.set_set]) (ff _) (fg _) c2 (by omega) (by omega) (by omega) rfl ?_
  rintro m3 ⟨l3, u3, n3, T3, a3, b3, c3, d3, e3⟩
  refine zput_turn_m hne (by rw [a3, List.set_set]) (ff _) (fg _) c3 (by omega) (by omega) (by omega) rfl ?_
  rintro m4 ⟨l4, u4, n4, T4, a4, b4, c4, d4, e4⟩
  refine yR_m 1 (fun _ _ _ _ => rfl) ?_
  refine yR_if rfl (fun _ => ?_) (fun q => absurd q (by decide))
  refine yR_rv rfl ⟨rfl, by omega, fun k k1 k2 => by rw [u4 k k1 k2, u3 k k1 k2, u2 k k1 k2, u1 k k1 k2], n4, T4, by rw [a4, List.set_set], by omega, c4, by omega, fun x hx => (e4 x hx).elim (fun hx => (e3 x hx).elim (fun hx => (e2 x hx).elim (fun hx => e1 x hx) Or.inr) Or.inr) Or.inr⟩
set_option maxRecDepth 100000 in
theorem zfeed_x {d b ra : Nat} {a0 a1 a2 a3 a4 n : Int32} {T : List Int32} {fs : List Value} {mem : zM} (hne : ¬ ra = b) (h0 : zat mem b = some (.inr (11, fs))) (f0 : fs[0]? = some (.ref ra)) (f1 : fs[1]? = some (.int n)) (h1 : zat mem ra = some (.inl (0, .inl T))) (hn : 0 ≤ n.toInt) (hT : n.toInt + 20 ≤ T.length) (hL : n.toInt ≤ 1580) : yC zpg (d + 2) 112 [.ref b, .int a0, .int a1, .int a2, .int a3, .int a4] mem (fun r m' => ∃ v : Int32, r = some (.int v) ∧ v.toInt = n.toInt + 20 ∧ zFed b ra 11 fs T (n.toInt + 20) mem m') := by
  have f1l := (List.getElem?_eq_some_iff.mp f1).1
  have ff : ∀ v : Value, (fs.set 1 v)[0]? = some (.ref ra) := fun v => by rw [List.getElem?_set_ne (by omega)]; exact f0
  have fg : ∀ v : Value, (fs.set 1 v)[1]? = some v := fun v => by rw [List.getElem?_set_self f1l]
  refine yC_of (t := tX11_feed) rfl rfl ?_
  refine yR_m 1 (fun _ _ _ _ => rfl) ?_
  refine yR_gf rfl h0 f1 ?_
  refine yR_m 3 (fun _ _ _ _ => rfl) ?_
  refine yR_ic rfl (fun _ => ?_) (fun q => ?_)
  rotate_left
  · have q : decide (n + 20 ≤ 1600) = false := q
    have := of_decide_eq_false q
    rw [Int32.le_iff_toInt_le, zadd_i (by show _ ≤ n.toInt + 20; omega) (by show n.toInt + 20 ≤ _; omega)] at this
    exact absurd (show n.toInt + 20 ≤ 1600 by omega) this
  refine yR_m 2 (fun _ _ _ _ => rfl) ?_
  refine yR_cv rfl rfl h0 rfl (zput_x (a := a0) hne h0 f0 f1 h1 hn (by omega) (by omega)) ?_
  rintro _ m1 ⟨rfl, l1, u1, n1, T1, p1, b1, c1, d1, e1⟩
  refine yR_m 2 (fun _ _ _ _ => rfl) ?_
  refine yR_cv rfl rfl p1 rfl (zput_x (a := a1) hne p1 (ff _) (fg _) c1 (by omega) (by omega) (by omega)) ?_
  rintro _ m2 ⟨rfl, l2, u2, n2, T2, p2, b2, c2, d2, e2⟩
  rw [List.set_set] at p2
  refine yR_m 2 (fun _ _ _ _ => rfl) ?_
  refine yR_cv rfl rfl p2 rfl (zput_x (a := a2) hne p2 (ff _) (fg _) c2 (by omega) (by omega) (by omega)) ?_
  rintro _ m3 ⟨rfl, l3, u3, n3, T3, p3, b3, c3, d3, e3⟩
  rw [List.set_set] at p3
  refine yR_m 2 (fun _ _ _ _ => rfl) ?_
  refine yR_cv rfl rfl p3 rfl (zput_x (a := a3) hne p3 (ff _) (fg _) c3 (by omega) (by omega) (by omega)) ?_
  rintro _ m4 ⟨rfl, l4, u4, n4, T4, p4, b4, c4, d4, e4⟩
  rw [List.set_set] at p4
  refine yR_m 2 (fun _ _ _ _ => rfl) ?_
  refine yR_cv rfl rfl p4 rfl (zput_x (a := a4) hne p4 (ff _) (fg _) c4 (by omega) (by omega) (by omega)) ?_
  rintro _ m5 ⟨rfl, l5, u5, n5, T5, p5, b5, c5, d5, e5⟩
  rw [List.set_set] at p5
  refine yR_m 1 (fun _ _ _ _ => rfl) ?_
  refine yR_gf rfl p5 (fg _) ?_
  refine yR_ri rfl ⟨n5, rfl, by omega, by omega, fun k k1 k2 => by rw [u5 k k1 k2, u4 k k1 k2, u3 k k1 k2, u2 k k1 k2, u1 k k1 k2], n5, T5, p5, by omega, c5, by omega, fun x hx => (e5 x hx).elim (fun hx => (e4 x hx).elim (fun hx => (e3 x hx).elim (fun hx => (e2 x hx).elim (fun hx => e1 x hx) Or.inr) Or.inr) Or.inr) Or.inr⟩
set_option maxRecDepth 100000 in
theorem zfeed_m {d b ra : Nat} {a0 a1 a2 a3 a4 n : Int32} {T : List Int32} {fs : List Value} {mem : zM} (hne : ¬ ra = b) (h0 : zat mem b = some (.inr (12, fs))) (f0 : fs[0]? = some (.ref ra)) (f1 : fs[1]? = some (.int n)) (h1 : zat mem ra = some (.inl (0, .inl T))) (hn : 0 ≤ n.toInt) (hT : n.toInt + 20 ≤ T.length) (hL : n.toInt ≤ 1580) : yC zpg (d + 2) 167 [.ref b, .int a0, .int a1, .int a2, .int a3, .int a4] mem (fun r m' => ∃ v : Int32, r = some (.int v) ∧ v.toInt = n.toInt + 20 ∧ zFed b ra 12 fs T (n.toInt + 20) mem m') := by
  have f1l := (List.getElem?_eq_some_iff.mp f1).1
  have ff : ∀ v : Value, (fs.set 1 v)[0]? = some (.ref ra) := fun v => by rw [List.getElem?_set_ne (by omega)]; exact f0
  have fg : ∀ v : Value, (fs.set 1 v)[1]? = some v := fun v => by rw [List.getElem?_set_self f1l]
  refine yC_of (t := tX12_feed) rfl rfl ?_
  refine yR_m 1 (fun _ _ _ _ => rfl) ?_
  refine yR_gf rfl h0 f1 ?_
  refine yR_m 3 (fun _ _ _ _ => rfl) ?_
  refine yR_ic rfl (fun _ => ?_) (fun q => ?_)
  rotate_left
  · have q : decide (n + 20 ≤ 1600) = false := q
    have := of_decide_eq_false q
    rw [Int32.le_iff_toInt_le, zadd_i (by show _ ≤ n.toInt + 20; omega) (by show n.toInt + 20 ≤ _; omega)] at this
    exact absurd (show n.toInt + 20 ≤ 1600 by omega) this
  refine yR_m 2 (fun _ _ _ _ => rfl) ?_
  refine yR_cv rfl rfl h0 rfl (zput_m (a := a0) hne h0 f0 f1 h1 hn (by omega) (by omega)) ?_
  rintro _ m1 ⟨rfl, l1, u1, n1, T1, p1, b1, c1, d1, e1⟩
  refine yR_m 2 (fun _ _ _ _ => rfl) ?_
  refine yR_cv rfl rfl p1 rfl (zput_m (a := a1) hne p1 (ff _) (fg _) c1 (by omega) (by omega) (by omega)) ?_
  rintro _ m2 ⟨rfl, l2, u2, n2, T2, p2, b2, c2, d2, e2⟩
  rw [List.set_set] at p2
  refine yR_m 2 (fun _ _ _ _ => rfl) ?_
  refine yR_cv rfl rfl p2 rfl (zput_m (a := a2) hne p2 (ff _) (fg _) c2 (by omega) (by omega) (by omega)) ?_
  rintro _ m3 ⟨rfl, l3, u3, n3, T3, p3, b3, c3, d3, e3⟩
  rw [List.set_set] at p3
  refine yR_m 2 (fun _ _ _ _ => rfl) ?_
  refine yR_cv rfl rfl p3 rfl (zput_m (a := a3) hne p3 (ff _) (fg _) c3 (by omega) (by omega) (by omega)) ?_
  rintro _ m4 ⟨rfl, l4, u4, n4, T4, p4, b4, c4, d4, e4⟩
  rw [List.set_set] at p4
  refine yR_m 2 (fun _ _ _ _ => rfl) ?_
  refine yR_cv rfl rfl p4 rfl (zput_m (a := a4) hne p4 (ff _) (fg _) c4 (by omega) (by omega) (by omega)) ?_
  rintro _ m5 ⟨rfl, l5, u5, n5, T5, p5, b5, c5, d5, e5⟩
  rw [List.set_set] at p5
  refine yR_m 1 (fun _ _ _ _ => rfl) ?_
  refine yR_gf rfl p5 (fg _) ?_
  refine yR_ri rfl ⟨n5, rfl, by omega, by omega, fun k k1 k2 => by rw [u5 k k1 k2, u4 k k1 k2, u3 k k1 k2, u2 k k1 k2, u1 k k1 k2], n5, T5, p5, by omega, c5, by omega, fun x hx => (e5 x hx).elim (fun hx => (e4 x hx).elim (fun hx => (e3 x hx).elim (fun hx => (e2 x hx).elim (fun hx => e1 x hx) Or.inr) Or.inr) Or.inr) Or.inr⟩
