/-! the memory behind the constructors has the types, and what holds between the calls -/
def bTv (τ : aTy) (v : Value) : Bool := match τ, v with
  | .inl q, .int x => Bool.and (decide (q.1 ≤ x.toInt)) (decide (x.toInt ≤ q.2))
  | .inr none, .long _ => true
  | .inr (some ks), .ref k => ks.contains k
  | _, _ => false
theorem bTv_s {τ : aTy} {v : Value} (h : bTv τ v = true) : aTv τ v := by
  unfold bTv at h
  split at h
  · obtain ⟨h1, h2⟩ := (Bool.and_eq_true _ _).mp h
    exact ⟨_, rfl, of_decide_eq_true h1, of_decide_eq_true h2⟩
  · exact ⟨_, rfl⟩
  · exact ⟨_, List.contains_iff_mem.1 h, rfl⟩
  · cases h
def bTf : List (Bool × aTy) → List Value → Bool
  | [], [] => true
  | τ :: r, x :: q => Bool.and (bTv τ.2 x) (bTf r q)
  | _, _ => false
theorem bTf_s : ∀ (l : List (Bool × aTy)) (f : List Value), bTf l f = true → aTf l f
  | [], [], _ => trivial
  | _ :: r, _ :: q, h => by
    obtain ⟨h1, h2⟩ := (Bool.and_eq_true _ _).mp h
    exact ⟨bTv_s h1, bTf_s r q h2⟩
  | [], _ :: _, h => by cases h
  | _ :: _, [], h => by cases h
def bTe (c : aCe) (e : zE) : Bool := match c, e with
  | .inl (_, tt, n, .inl q), .inl (t2, .inl l) => Bool.and (Nat.beq tt t2) (Bool.and (Nat.beq l.length n) (l.all (fun x => Bool.and (decide (q.1 ≤ x.toInt)) (decide (x.toInt ≤ q.2)))))
  | .inl (_, tt, n, .inr none), .inl (t2, .inr (.inl l)) => Bool.and (Nat.beq tt t2) (Nat.beq l.length n)
  | .inl (_, tt, n, .inr (some ks)), .inl (t2, .inr (.inr l)) => Bool.and (Nat.beq tt t2) (Bool.and (Nat.beq l.length n) (l.all (fun x => match x with
    | some k => ks.contains k
    | none => false)))
  | .inr (ci, τs), .inr (c2, fs) => Bool.and (Nat.beq ci c2) (bTf τs fs)
  | _, _ => false
theorem bTe_s {c : aCe} {e : zE} (h : bTe c e = true) : aTe c e := by
  unfold bTe at h
  split at h
  · obtain ⟨h1, h2⟩ := (Bool.and_eq_true _ _).mp h
    obtain ⟨h3, h4⟩ := (Bool.and_eq_true _ _).mp h2
    have h1 := Nat.eq_of_beq_eq_true h1
    subst h1
    refine ⟨_, rfl, Nat.eq_of_beq_eq_true h3, fun x hx => ?_⟩
    obtain ⟨a, b⟩ := (Bool.and_eq_true _ _).mp (List.all_eq_true.1 h4 x hx)
    exact ⟨of_decide_eq_true a, of_decide_eq_true b⟩
  · obtain ⟨h1, h2⟩ := (Bool.and_eq_true _ _).mp h
    have h1 := Nat.eq_of_beq_eq_true h1
    subst h1
    exact ⟨_, rfl, Nat.eq_of_beq_eq_true h2⟩
  · obtain ⟨h1, h2⟩ := (Bool.and_eq_true _ _).mp h
    obtain ⟨h3, h4⟩ := (Bool.and_eq_true _ _).mp h2
    have h1 := Nat.eq_of_beq_eq_true h1
    subst h1
    refine ⟨_, rfl, Nat.eq_of_beq_eq_true h3, fun x hx => ?_⟩
    have a := List.all_eq_true.1 h4 x hx
    cases x with
    | none => cases a
    | some k => exact ⟨k, List.contains_iff_mem.1 a, rfl⟩
  · obtain ⟨h1, h2⟩ := (Bool.and_eq_true _ _).mp h
    have h1 := Nat.eq_of_beq_eq_true h1
    subst h1
    exact ⟨_, rfl, bTf_s _ _ h2⟩
  · cases h
def bTm : List aCe → zM → Bool
  | [], _ => true
  | c :: r, e :: q => Bool.and (bTe c e) (bTm r q)
  | _, _ => false
theorem bTm_s : ∀ (T : List aCe) (m : zM), bTm T m = true → ∀ k c, aat T k = some c → ∃ e, zat m k = some e ∧ aTe c e
  | [], _, _, _, _, hc => by cases hc
  | c :: r, [], h, _, _, _ => by cases h
  | c :: r, e :: q, h, k, c', hc => by
    obtain ⟨h1, h2⟩ := (Bool.and_eq_true _ _).mp h
    cases k with
    | zero =>
      cases hc
      exact ⟨e, rfl, bTe_s h1⟩
    | succ k => exact bTm_s r q h2 k c' hc
theorem zfm_len : zfm.length = 269 := by decide +kernel
theorem zfm_sl : zsl zfm ≤ 100000 := by decide +kernel
theorem zfm_ty : aTm aT0 zfm := ⟨zfm_len, bTm_s aT0 zfm (by decide +kernel)⟩
theorem zfm_cd : cdOK zfm := fun w hw hn => by
  exfalso
  apply hn
  rcases (show w = 0 ∨ w = 1 ∨ w = 2 by omega) with rfl | rfl | rfl <;> decide +kernel
theorem zfm_sz : szOK zfm := by
  have a : colsI zfm = 0 := by decide +kernel
  have b : rowsI zfm = 0 := by decide +kernel
  unfold szOK
  rw [a, b]
  decide
theorem zfm_met : ∀ l, zat zfm 191 = some (.inl (0, .inl l)) → metOk l := by
  have e : zat zfm 191 = some (.inl (0, .inl (List.replicate 64 0))) := by rfl
  intro l hl
  rw [e] at hl
  cases hl
  intro j hj
  rw [List.getD_eq_getElem?_getD, List.getElem?_replicate]
  split <;> exact ⟨by decide, by decide⟩
theorem zfm_own : ga zfm 28 = ownC := by decide +kernel
theorem gn_rep {n : Nat} (i : Int) : gn (List.replicate n 0) i = 0 := by
  unfold gn
  rw [List.getD_eq_getElem?_getD, List.getElem?_replicate]
  split <;> rfl
theorem zfm_t : ga zfm 1 = List.replicate 1600 0 := by rfl
theorem zfm_u : ga zfm 222 = List.replicate 1800 0 := by rfl
abbrev Y0 : Qd := (0, 0, [], [], [], [], [], [], 0, 0, [])
theorem zfm_w : ga zfm 227 = List.replicate 128 0 := by rfl
theorem zfm_s : ga zfm 236 = List.replicate 6 (-1) := by rfl
theorem zfm_f : ga zfm 12 = List.replicate 3 0 := by rfl
theorem zfm_e : ga zfm 13 = List.replicate 3 0 := by rfl
theorem zfm_13 : gi zfm 221 13 = 0 := by decide +kernel
theorem zfm_Z : mB Y0 zfm := by
  unfold mB
  rw [zfm_13]
  refine ⟨?_, Or.inr ⟨by decide +kernel, rfl⟩⟩
  refine mQ_nw (by decide +kernel) (by decide +kernel) (by decide +kernel) (fun c c0 c1 => ?_) (fun w w0 w1 => ?_) (by decide +kernel) (by decide) (by decide +kernel) (by decide +kernel) (by decide +kernel)
  · rw [zfm_w, gn_rep]
  · rw [zfm_s]
    rcases (show w = 0 ∨ w = 1 ∨ w = 2 by omega) with rfl | rfl | rfl <;> rfl
theorem zfm_Y : pQ Y0 zfm := Or.inl ⟨by decide +kernel, by decide +kernel, by decide +kernel, cQ_clrA (by decide +kernel) (by decide +kernel) (by decide +kernel) (by decide +kernel) (by decide +kernel) (by decide +kernel) (fun j j0 j1 => by rw [zfm_f, zfm_e, gn_rep]; exact ⟨rfl, rfl⟩) (by decide +kernel) (by decide +kernel) (by decide +kernel)⟩
theorem zfm_J : J5 0 0 (List.replicate 1600 0) (List.replicate 1800 0) Y0 Y0 zfm := ⟨zfm_ty, ⟨⟨⟨⟨zfm_cd, zfm_sz⟩, zfm_Z⟩, ⟨by decide +kernel, by decide +kernel⟩, zfm_own, zfm_t, zfm_u⟩, zfm_Y⟩, zfm_met⟩
abbrev N0 : Nd := ((0, 0, fun _ => 0, fun _ => 0), K0, P00, 1)
theorem zfm_su : ∀ n, n < 20 → (gi zfm (41 + 7 * n) 4).toInt = -1 := fun n hn => by
  have z : ∀ k : Fin 20, (gi zfm (41 + 7 * k.val) 4).toInt = -1 := by decide +kernel
  exact z ⟨n, hn⟩
theorem zfm_c : cN Y0 N0 zfm := ⟨⟨⟨by decide +kernel, by decide +kernel⟩, fun k k0 k1 => by exfalso; have j : k < 0 := k1; omega, fun k k0 k1 => by exfalso; have j : k < 0 := k1; omega, fun k k0 k1 => by exfalso; have j : k < 0 := k1; omega⟩, ⟨⟨show (0 : Int) ≤ 0 by decide, show (0 : Int) ≤ 40 by decide⟩, by decide +kernel, fun k k0 k1 => by exfalso; have j : k < 0 := k1; omega⟩, ⟨⟨show (0 : Int) ≤ 0 by decide, show (0 : Int) ≤ 20 by decide⟩, ⟨by decide +kernel, by decide +kernel, by decide +kernel⟩, ⟨by rfl, by rfl⟩, fun k k0 k1 => by exfalso; have j : k < 0 := k1; omega⟩, by decide +kernel, by decide +kernel, zfm_su⟩
theorem zfm_m : mN Y0 N0 zfm := ⟨⟨⟨by decide +kernel, by decide +kernel⟩, fun k k0 k1 => by exfalso; have j : k < 0 := k1; omega, fun k k0 k1 => by exfalso; have j : k < 0 := k1; omega, fun k k0 k1 => by exfalso; have j : k < 0 := k1; omega⟩, ⟨⟨show (0 : Int) ≤ 0 by decide, show (0 : Int) ≤ 40 by decide⟩, by decide +kernel, fun k k0 k1 => by exfalso; have j : k < 0 := k1; omega⟩, ⟨⟨show (0 : Int) ≤ 0 by decide, show (0 : Int) ≤ 20 by decide⟩, ⟨by decide +kernel, by decide +kernel, by decide +kernel⟩, fun k k0 k1 => by exfalso; have j : k < 0 := k1; omega⟩, by decide +kernel⟩
theorem y0_W : WQ Y0 := ⟨⟨⟨by decide, by decide⟩, by decide, by decide⟩, ⟨by decide, by decide, rfl⟩, ⟨fun x hx => absurd hx List.not_mem_nil, fun x hx => absurd hx List.not_mem_nil, fun x hx => absurd hx List.not_mem_nil⟩, ⟨⟨by decide, by decide⟩, by decide, by decide⟩, (fun w c h => by cases h), fun w => ⟨fun h => absurd h List.not_mem_nil, (fun h => by cases h)⟩⟩
theorem btz_0 {i : Int} (i0 : 0 ≤ i) (i1 : i < 31) : ¬ bt (0 : Int32) i := fun h => by
  have z := (tnF_b (P := fun _ => False) 0 (by decide) i i0 i1).1 h
  exact z.2
theorem n0_ok : okN Y0 N0 := ⟨y0_W, ⟨⟨show (0 : Int) ≤ 0 by decide, show (0 : Int) ≤ 999 by decide⟩, ⟨⟨by decide, by decide⟩, fun i i0 i1 h => absurd h (btz_0 i0 i1)⟩, fun _ _ _ => ⟨show (0 : Int) ≤ 0 by decide, show (0 : Int) ≤ 99 by decide⟩, fun k k0 k1 => by exfalso; have j : k < 0 := k1; omega⟩, fun k k0 k1 => by exfalso; have j : k < 0 := k1; omega, show (0 : Int) ≤ 1 by decide, show (1 : Int) < 2147483648 by decide⟩
theorem zfm_J6 : J6 0 0 (List.replicate 1600 0) (List.replicate 1800 0) Y0 Y0 N0 N0 zfm := ⟨zfm_J, ⟨zfm_c, n0_ok⟩, zfm_m, n0_ok⟩
theorem imK_sm {T U : List Int32} {n : Int} {Y : Qd} (h : smT T U) (hn : n ≤ 1600) : imK U n Y = imK T n Y := propext ⟨fun k => Classical.byContradiction fun c => by
  have e := on_eq (v := 0) (v' := 1) h hn (Or.inr ⟨c, rfl⟩) (Or.inl ⟨k, rfl⟩)
  omega, fun k => Classical.byContradiction fun c => by
  have e := on_eq (v := 1) (v' := 0) h hn (Or.inl ⟨k, rfl⟩) (Or.inr ⟨c, rfl⟩)
  omega⟩
theorem zfm_sm : smT (List.replicate 1600 0) (List.replicate 1800 0) := fun i _ => by rw [gn_rep, gn_rep]
