/-! statements (pure): the quay behind each, and the place -/
section SS
variable (T : List Int32) (n : Int)
noncomputable def sTel (k lo hi : Int) (Q : Qd) (p : Int) : Option (Qd × Int) := (sNum T n lo hi p).map fun x => (setT k x.1 Q, x.2)
noncomputable def sWal (Q : Qd) (p : Int) : Option (Qd × Int) := (sCel T n True Q p).map fun x => ((Qc Q, Qr Q, x.1 :: Qw Q, Qt Q, Qh Q, Qf Q, Qu Q, Qx Q), x.2)
noncomputable def sLac (Q : Qd) (p : Int) : Option (Qd × Int) := (sFre T n Q p).bind fun a => (sOwn T n 6 a.2).bind fun p2 => (sCel T n False Q p2).bind fun c => (sOwn T n 7 c.2).bind fun p4 => (sNum T n 1 9 p4).bind fun h => (sOwn T n 8 h.2).bind fun p6 => (sNum T n 0 9 p6).map fun g => ((Qc Q, Qr Q, Qw Q, Qt Q ++ [(a.1, c.1)], Qh Q, Qf Q, Qu Q, Qg Q ++ [(h.1, g.1)], Qp Q, Qa Q, Qk Q), g.2)
noncomputable def sFol (Q : Qd) (p : Int) : Option (Qd × Int) := (sFre T n Q p).bind fun a => (sOwn T n 6 a.2).bind fun p2 => (sCel T n False Q p2).bind fun c => (sOwn T n 11 c.2).bind fun p4 => (sCel T n False Q p4).map fun h => ((Qc Q, Qr Q, Qw Q, Qt Q, Qh Q, Qf Q ++ [(a.1, c.1, h.1)], Qu Q, Qx Q), h.2)
def tIx (Q : Qd) (nm : List Int) : Option Nat := (Qt Q).findIdx? (fun x => x.1 == nm)
noncomputable def sHav (Q : Qd) (p : Int) : Option (Qd × Int) := (sNam T n p).bind fun a => (tIx Q a.1).bind fun i => oif (¬ (i : Int) ∈ Qh Q) (some ((Qc Q, Qr Q, Qw Q, Qt Q, (i : Int) :: Qh Q, Qf Q, Qu Q, Qx Q), a.2))
end SS
section SL
variable {T : List Int32} {n : Int} {Q : Qd}
theorem ob_s {α β : Type} {x : Option α} {f : α → Option β} {y : β} (h : x.bind f = some y) : ∃ a, x = some a ∧ f a = some y := by
  cases x with
  | none => cases h
  | some a => exact ⟨a, rfl, h⟩
theorem om_s {α β : Type} {x : Option α} {f : α → β} {y : β} (h : x.map f = some y) : ∃ a, x = some a ∧ f a = y := by
  cases x with
  | none => cases h
  | some a => exact ⟨a, rfl, Option.some.inj h⟩
/-- where a thing's statement ends, step by step -/
theorem sLac_pos (p : Int) : (sLac T n Q p).map Prod.snd = nuP T n 0 9 ((nuP T n 1 9 ((celP T n False Q ((freP T n Q (some p)).bind (sOwn T n 6))).bind (sOwn T n 7))).bind (sOwn T n 8)) := by
  unfold sLac freP celP nuP
  show _ = ((((((sFre T n Q p).map Prod.snd).bind (sOwn T n 6)).bind _).bind (sOwn T n 7)).bind _ |>.bind (sOwn T n 8)).bind _
  cases sFre T n Q p with
  | none => rfl
  | some a =>
    show ((sOwn T n 6 a.2).bind _).map Prod.snd = (((((sOwn T n 6 a.2).bind _).bind (sOwn T n 7)).bind _).bind (sOwn T n 8)).bind _
    cases sOwn T n 6 a.2 with
    | none => rfl
    | some p2 =>
      show ((sCel T n False Q p2).bind _).map Prod.snd = (((((sCel T n False Q p2).map Prod.snd).bind (sOwn T n 7)).bind _).bind (sOwn T n 8)).bind _
      cases sCel T n False Q p2 with
      | none => rfl
      | some c =>
        show ((sOwn T n 7 c.2).bind _).map Prod.snd = (((sOwn T n 7 c.2).bind _).bind (sOwn T n 8)).bind _
        cases sOwn T n 7 c.2 with
        | none => rfl
        | some p4 =>
          show ((sNum T n 1 9 p4).bind _).map Prod.snd = (((sNum T n 1 9 p4).map Prod.snd).bind (sOwn T n 8)).bind _
          cases sNum T n 1 9 p4 with
          | none => rfl
          | some h =>
            show ((sOwn T n 8 h.2).bind _).map Prod.snd = (sOwn T n 8 h.2).bind _
            cases sOwn T n 8 h.2 with
            | none => rfl
            | some p6 =>
              show ((sNum T n 0 9 p6).map _).map Prod.snd = (sNum T n 0 9 p6).map Prod.snd
              cases sNum T n 0 9 p6 with
              | none => rfl
              | some g => rfl
theorem sFol_pos (p : Int) : (sFol T n Q p).map Prod.snd = celP T n False Q ((celP T n False Q ((freP T n Q (some p)).bind (sOwn T n 6))).bind (sOwn T n 11)) := by
  unfold sFol freP celP
  show _ = (((((sFre T n Q p).map Prod.snd).bind (sOwn T n 6)).bind _).bind (sOwn T n 11)).bind _
  cases sFre T n Q p with
  | none => rfl
  | some a =>
    show ((sOwn T n 6 a.2).bind _).map Prod.snd = (((sOwn T n 6 a.2).bind _).bind (sOwn T n 11)).bind _
    cases sOwn T n 6 a.2 with
    | none => rfl
    | some p2 =>
      show ((sCel T n False Q p2).bind _).map Prod.snd = (((sCel T n False Q p2).map Prod.snd).bind (sOwn T n 11)).bind _
      cases sCel T n False Q p2 with
      | none => rfl
      | some c =>
        show ((sOwn T n 11 c.2).bind _).map Prod.snd = (sOwn T n 11 c.2).bind _
        cases sOwn T n 11 c.2 with
        | none => rfl
        | some p4 =>
          show ((sCel T n False Q p4).map _).map Prod.snd = (sCel T n False Q p4).map Prod.snd
          cases sCel T n False Q p4 with
          | none => rfl
          | some h => rfl
end SL
/-! the model's statements by what they mean -/
section MT
variable {d : Nat} {mr mem m : zM} {T : List Int32} {n p e : Int} {t : Tk} {s : Option Int} {b : Int} {Q : Qd}
/-- behind a statement -/
def stR (T : List Int32) (n b : Int) (R : Option (Qd × Int)) (m : zM) : Prop := (∃ Q' p', R = some (Q', p') ∧ fk m = 0 ∧ mRd T n p' m ∧ mQ b Q' m) ∨ (R = none ∧ 1 ≤ fk m)
theorem mRd_sa {k j : Nat} {x : Int32} (hk : ¬ k = 222) (h : mRd T n p m) : mRd T n p (sa m k j x) := by
  obtain ⟨t, e, ⟨h1, h2, h3⟩, h4, h5, h6⟩ := h
  exact ⟨t, e, ⟨by rw [gi_sa]; exact h1, (ga_sa_ne hk).trans h2, h3⟩, h4, by rw [gi_sa]; exact h5, by rw [gi_sa, gi_sa, gi_sa, gL_sa]; exact h6⟩
theorem mRd_sA {k j : Nat} {x : Int64} (h : mRd T n p m) : mRd T n p (sA m k j x) := by
  obtain ⟨t, e, ⟨h1, h2, h3⟩, h4, h5, h6⟩ := h
  exact ⟨t, e, ⟨by rw [gi_sA]; exact h1, ga_sA.trans h2, h3⟩, h4, by rw [gi_sA]; exact h5, by rw [gi_sA, gi_sA, gi_sA, gL_sA]; exact h6⟩
theorem mS_sa {k j : Nat} {x : Int32} (hk : ¬ k = 222) (h : mS T n s m) : mS T n s (sa m k j x) := by
  rcases h with ⟨p, h1, h2, h3⟩ | ⟨h1, h2⟩
  · exact Or.inl ⟨p, h1, by show (gi (sa m k j x) 221 8).toInt = 0; rw [gi_sa]; exact h2, mRd_sa hk h3⟩
  · exact Or.inr ⟨h1, by show 1 ≤ (gi (sa m k j x) 221 8).toInt; rw [gi_sa]; exact h2⟩
theorem mS_sA {k j : Nat} {x : Int64} (h : mS T n s m) : mS T n s (sA m k j x) := by
  rcases h with ⟨p, h1, h2, h3⟩ | ⟨h1, h2⟩
  · exact Or.inl ⟨p, h1, by show (gi (sA m k j x) 221 8).toInt = 0; rw [gi_sA]; exact h2, mRd_sA h3⟩
  · exact Or.inr ⟨h1, by show 1 ≤ (gi (sA m k j x) 221 8).toInt; rw [gi_sA]; exact h2⟩
theorem gl_set {l : List Int64} {x : Int32} {v : Int64} {a i : Int} (hx : x.toInt = a) (h0 : 0 ≤ a) (h1 : a < l.length) (hi : 0 ≤ i) : gl (l.set x.toNatClampNeg v) i = if i = a then v else gl l i := by
  have e : x.toNatClampNeg = a.toNat := by
    have := zclamp (x := x) (by omega)
    omega
  unfold gl
  rw [e, List.getD_eq_getElem?_getD, List.getD_eq_getElem?_getD, List.getElem?_set]
  by_cases w : i = a
  · subst w
    rw [if_pos rfl, if_pos (by omega), if_pos rfl]
    rfl
  · rw [if_neg (by omega), if_neg w]
theorem mQ_o {k j : Nat} {x : Int32} (hk : [223, 224, 225, 226, 227, 228, 229, 230, 231, 232, 233, 234, 235, 236, 237, 238, 239].contains k = false) (h : mQ b Q m) : mQ b Q (sa m k j x) := by
  have A : ∀ q, [223, 224, 225, 226, 227, 228, 229, 230, 231, 232, 233, 234, 235, 236, 237, 238, 239].contains q = true → ga (sa m k j x) q = ga m q := fun q hq => ga_sa_ne (fun e => by rw [e, hq] at hk; cases hk)
  have X : mQx b Q (sa m k j x) := mQx_eq (fun q hq => ga_sa_ne (fun e => by
    subst e
    rw [ct_up (ks := [225, 226, 230, 231, 236, 237, 238, 239]) rfl hk] at hq
    cases hq)) h.2.2.2.2.2.2
  unfold mQ mQw mQt mQh mQf mQu
  rw [A 223 rfl, A 224 rfl, A 227 rfl, A 228 rfl, A 229 rfl, A 232 rfl, A 233 rfl, A 234 rfl, A 235 rfl, A 236 rfl, gA_sa, gA_sa]
  exact ⟨h.1, h.2.1, h.2.2.1, h.2.2.2.1, h.2.2.2.2.1, h.2.2.2.2.2.1, X⟩
theorem mQ_240 {x : Int32} {v : Int64} (hm : aTm aT0 m) (hb : 0 ≤ b ∧ b ≤ 1) (hl : (Qt Q).length < 9) (hx : x.toInt = 9 * b + ((Qt Q).length : Int)) (h : mQ b Q m) : mQ b Q (sX m 240 x v) := by
  have gll : (gA m 240).length = 18 := (gA_ty aR_240 hm).2
  have A : ∀ q, ga (sX m 240 x v) q = ga m q := fun q => ga_sA
  have B : gA (sX m 240 x v) 241 = gA m 241 := gA_sA_ne (by decide)
  obtain ⟨h1, h2, h3, h4, h5, h6, h7⟩ := h
  refine ⟨by rw [A, A]; exact h1, by unfold mQw; rw [A]; exact h2, ⟨by rw [A]; exact h3.1, fun i y hy => ?_⟩, by unfold mQh; rw [A]; exact h4, by unfold mQf; rw [A, A, A, B]; exact h5, by unfold mQu; rw [A]; exact h6, mQx_eq (fun k _ => A k) h7⟩
  have hi := (List.getElem?_eq_some_iff.1 hy).1
  rw [A, show gA (sX m 240 x v) 240 = (gA m 240).set x.toNatClampNeg v from gA_sA_eq, gl_set hx (by omega) (by omega) (by omega), if_neg (by omega)]
  exact h3.2 i y hy
theorem mQ_229 {x v : Int32} (hm : aTm aT0 m) (hb : 0 ≤ b ∧ b ≤ 1) (hl : (Qt Q).length < 9) (hx : x.toInt = 9 * b + ((Qt Q).length : Int)) (h : mQ b Q m) : mQ b Q (sx m 229 x v) := by
  have gll := gl_229 hm
  have A : ∀ q, ¬ 229 = q → ga (sx m 229 x v) q = ga m q := fun q hq => ga_sa_ne hq
  have B : ∀ q, gA (sx m 229 x v) q = gA m q := fun q => gA_sa
  obtain ⟨h1, h2, h3, h4, h5, h6, h7⟩ := h
  refine ⟨by rw [A _ (by decide), A _ (by decide)]; exact h1, by unfold mQw; rw [A _ (by decide)]; exact h2, ⟨by rw [A _ (by decide)]; exact h3.1, fun i y hy => ?_⟩, by unfold mQh; rw [A _ (by decide)]; exact h4, by unfold mQf; rw [A _ (by decide), A _ (by decide), A _ (by decide), B]; exact h5, by unfold mQu; rw [A _ (by decide)]; exact h6, mQx_eq (fun k hk => A k (fun e => by subst e; exact absurd hk (by decide))) h7⟩
  have hi := (List.getElem?_eq_some_iff.1 hy).1
  rw [B, show ga (sx m 229 x v) 229 = (ga m 229).set x.toNatClampNeg v from ga_sa_eq, gn_set hx (by omega) (by omega) (by omega), if_neg (by omega)]
  exact h3.2 i y hy
theorem mQ_241 {x : Int32} {v : Int64} (hm : aTm aT0 m) (hb : 0 ≤ b ∧ b ≤ 1) (hl : (Qf Q).length < 6) (hx : x.toInt = 6 * b + ((Qf Q).length : Int)) (h : mQ b Q m) : mQ b Q (sX m 241 x v) := by
  have gll : (gA m 241).length = 12 := (gA_ty aR_241 hm).2
  have A : ∀ q, ga (sX m 241 x v) q = ga m q := fun q => ga_sA
  have B : gA (sX m 241 x v) 240 = gA m 240 := gA_sA_ne (by decide)
  obtain ⟨h1, h2, h3, h4, h5, h6, h7⟩ := h
  refine ⟨by rw [A, A]; exact h1, by unfold mQw; rw [A]; exact h2, by unfold mQt; rw [A, A, B]; exact h3, by unfold mQh; rw [A]; exact h4, ⟨by rw [A]; exact h5.1, fun i y hy => ?_⟩, by unfold mQu; rw [A]; exact h6, mQx_eq (fun k _ => A k) h7⟩
  have hi := (List.getElem?_eq_some_iff.1 hy).1
  rw [A, A, show gA (sX m 241 x v) 241 = (gA m 241).set x.toNatClampNeg v from gA_sA_eq, gl_set hx (by omega) (by omega) (by omega), if_neg (by omega)]
  exact h5.2 i y hy
theorem mQ_234 {x v : Int32} (hm : aTm aT0 m) (hb : 0 ≤ b ∧ b ≤ 1) (hl : (Qf Q).length < 6) (hx : x.toInt = 6 * b + ((Qf Q).length : Int)) (h : mQ b Q m) : mQ b Q (sx m 234 x v) := by
  have gll := gl_234 hm
  have A : ∀ q, ¬ 234 = q → ga (sx m 234 x v) q = ga m q := fun q hq => ga_sa_ne hq
  have B : ∀ q, gA (sx m 234 x v) q = gA m q := fun q => gA_sa
  obtain ⟨h1, h2, h3, h4, h5, h6, h7⟩ := h
  refine ⟨by rw [A _ (by decide), A _ (by decide)]; exact h1, by unfold mQw; rw [A _ (by decide)]; exact h2, by unfold mQt; rw [A _ (by decide), A _ (by decide), B]; exact h3, by unfold mQh; rw [A _ (by decide)]; exact h4, ⟨by rw [A _ (by decide)]; exact h5.1, fun i y hy => ?_⟩, by unfold mQu; rw [A _ (by decide)]; exact h6, mQx_eq (fun k hk => A k (fun e => by subst e; exact absurd hk (by decide))) h7⟩
  have hi := (List.getElem?_eq_some_iff.1 hy).1
  rw [A 235 (by decide), B, show ga (sx m 234 x v) 234 = (ga m 234).set x.toNatClampNeg v from ga_sa_eq, gn_set hx (by omega) (by omega) (by omega), if_neg (by omega)]
  exact h5.2 i y hy
theorem mQ_235 {x v : Int32} (hm : aTm aT0 m) (hb : 0 ≤ b ∧ b ≤ 1) (hl : (Qf Q).length < 6) (hx : x.toInt = 6 * b + ((Qf Q).length : Int)) (h : mQ b Q m) : mQ b Q (sx m 235 x v) := by
  have gll := gl_235 hm
  have A : ∀ q, ¬ 235 = q → ga (sx m 235 x v) q = ga m q := fun q hq => ga_sa_ne hq
  have B : ∀ q, gA (sx m 235 x v) q = gA m q := fun q => gA_sa
  obtain ⟨h1, h2, h3, h4, h5, h6, h7⟩ := h
  refine ⟨by rw [A _ (by decide), A _ (by decide)]; exact h1, by unfold mQw; rw [A _ (by decide)]; exact h2, by unfold mQt; rw [A _ (by decide), A _ (by decide), B]; exact h3, by unfold mQh; rw [A _ (by decide)]; exact h4, ⟨by rw [A _ (by decide)]; exact h5.1, fun i y hy => ?_⟩, by unfold mQu; rw [A _ (by decide)]; exact h6, mQx_eq (fun k hk => A k (fun e => by subst e; exact absurd hk (by decide))) h7⟩
  have hi := (List.getElem?_eq_some_iff.1 hy).1
  rw [A 234 (by decide), B, show ga (sx m 235 x v) 235 = (ga m 235).set x.toNatClampNeg v from ga_sa_eq, gn_set hx (by omega) (by omega) (by omega), if_neg (by omega)]
  exact h5.2 i y hy
theorem mQ_230 {x v : Int32} (hm : aTm aT0 m) (hb : 0 ≤ b ∧ b ≤ 1) (hl : (Qt Q).length < 9) (hx : x.toInt = 9 * b + ((Qt Q).length : Int)) (h : mQ b Q m) : mQ b Q (sx m 230 x v) := by
  have gll := gl_230 hm
  have A : ∀ q, ¬ 230 = q → ga (sx m 230 x v) q = ga m q := fun q hq => ga_sa_ne hq
  have B : ∀ q, gA (sx m 230 x v) q = gA m q := fun q => gA_sa
  obtain ⟨h1, h2, h3, h4, h5, h6, h7⟩ := h
  refine ⟨by rw [A _ (by decide), A _ (by decide)]; exact h1, by unfold mQw; rw [A _ (by decide)]; exact h2, by unfold mQt; rw [A _ (by decide), A _ (by decide), B]; exact h3, by unfold mQh; rw [A _ (by decide)]; exact h4, by unfold mQf; rw [A _ (by decide), A _ (by decide), A _ (by decide), B]; exact h5, by unfold mQu; rw [A _ (by decide)]; exact h6, ⟨h7.1.1, fun i y hy => ?_⟩, by rw [A _ (by decide), A _ (by decide)]; exact h7.2.1, by unfold mQk cdAt; rw [A _ (by decide), A _ (by decide), A _ (by decide), A _ (by decide)]; exact h7.2.2⟩
  have hi := (List.getElem?_eq_some_iff.1 hy).1
  have hn := h7.1.1
  rw [A 231 (by decide), show ga (sx m 230 x v) 230 = (ga m 230).set x.toNatClampNeg v from ga_sa_eq, gn_set hx (by omega) (by omega) (by omega), if_neg (by omega)]
  exact h7.1.2 i y hy
theorem mQ_231 {x v : Int32} (hm : aTm aT0 m) (hb : 0 ≤ b ∧ b ≤ 1) (hl : (Qt Q).length < 9) (hx : x.toInt = 9 * b + ((Qt Q).length : Int)) (h : mQ b Q m) : mQ b Q (sx m 231 x v) := by
  have gll := gl_231 hm
  have A : ∀ q, ¬ 231 = q → ga (sx m 231 x v) q = ga m q := fun q hq => ga_sa_ne hq
  have B : ∀ q, gA (sx m 231 x v) q = gA m q := fun q => gA_sa
  obtain ⟨h1, h2, h3, h4, h5, h6, h7⟩ := h
  refine ⟨by rw [A _ (by decide), A _ (by decide)]; exact h1, by unfold mQw; rw [A _ (by decide)]; exact h2, by unfold mQt; rw [A _ (by decide), A _ (by decide), B]; exact h3, by unfold mQh; rw [A _ (by decide)]; exact h4, by unfold mQf; rw [A _ (by decide), A _ (by decide), A _ (by decide), B]; exact h5, by unfold mQu; rw [A _ (by decide)]; exact h6, ⟨h7.1.1, fun i y hy => ?_⟩, by rw [A _ (by decide), A _ (by decide)]; exact h7.2.1, by unfold mQk cdAt; rw [A _ (by decide), A _ (by decide), A _ (by decide), A _ (by decide)]; exact h7.2.2⟩
  have hi := (List.getElem?_eq_some_iff.1 hy).1
  have hn := h7.1.1
  rw [A 230 (by decide), show ga (sx m 231 x v) 231 = (ga m 231).set x.toNatClampNeg v from ga_sa_eq, gn_set hx (by omega) (by omega) (by omega), if_neg (by omega)]
  exact h7.1.2 i y hy
/-- pace, gale -/
theorem mQ_225 {x v : Int32} (hm : aTm aT0 m) (hb : 0 ≤ b ∧ b ≤ 1) (hv : 0 ≤ v.toInt ∧ v.toInt ≤ 9) (hx : x.toInt = b) (h : mQ b Q m) : mQ b (setT 2 v.toInt Q) (sx m 225 x v) := by
  have gll := gl_225 hm
  have A : ∀ q, ¬ 225 = q → ga (sx m 225 x v) q = ga m q := fun q hq => ga_sa_ne hq
  have B : ∀ q, gA (sx m 225 x v) q = gA m q := fun q => gA_sa
  obtain ⟨h1, h2, h3, h4, h5, h6, h7⟩ := h
  exact ⟨by rw [A _ (by decide), A _ (by decide)]; exact h1, by unfold mQw; rw [A _ (by decide)]; exact h2, by unfold mQt; rw [A _ (by decide), A _ (by decide), B]; exact h3, by unfold mQh; rw [A _ (by decide)]; exact h4, by unfold mQf; rw [A _ (by decide), A _ (by decide), A _ (by decide), B]; exact h5, by unfold mQu; rw [A _ (by decide)]; exact h6, by unfold mQg; rw [A _ (by decide), A _ (by decide)]; exact h7.1, ⟨⟨by rw [show ga (sx m 225 x v) 225 = (ga m 225).set x.toNatClampNeg v from ga_sa_eq, gn_set hx (by omega) (by omega) (by omega), if_pos rfl]; rfl, hv⟩, by rw [A _ (by decide)]; exact h7.2.1.2⟩, by unfold mQk cdAt; rw [A _ (by decide), A _ (by decide), A _ (by decide), A _ (by decide)]; exact h7.2.2⟩
theorem mQ_226 {x v : Int32} (hm : aTm aT0 m) (hb : 0 ≤ b ∧ b ≤ 1) (hv : 0 ≤ v.toInt ∧ v.toInt ≤ 100) (hx : x.toInt = b) (h : mQ b Q m) : mQ b (setT 3 v.toInt Q) (sx m 226 x v) := by
  have gll := gl_226 hm
  have A : ∀ q, ¬ 226 = q → ga (sx m 226 x v) q = ga m q := fun q hq => ga_sa_ne hq
  have B : ∀ q, gA (sx m 226 x v) q = gA m q := fun q => gA_sa
  obtain ⟨h1, h2, h3, h4, h5, h6, h7⟩ := h
  exact ⟨by rw [A _ (by decide), A _ (by decide)]; exact h1, by unfold mQw; rw [A _ (by decide)]; exact h2, by unfold mQt; rw [A _ (by decide), A _ (by decide), B]; exact h3, by unfold mQh; rw [A _ (by decide)]; exact h4, by unfold mQf; rw [A _ (by decide), A _ (by decide), A _ (by decide), B]; exact h5, by unfold mQu; rw [A _ (by decide)]; exact h6, by unfold mQg; rw [A _ (by decide), A _ (by decide)]; exact h7.1, ⟨by rw [A _ (by decide)]; exact h7.2.1.1, by rw [show ga (sx m 226 x v) 226 = (ga m 226).set x.toNatClampNeg v from ga_sa_eq, gn_set hx (by omega) (by omega) (by omega), if_pos rfl]; rfl, hv⟩, by unfold mQk cdAt; rw [A _ (by decide), A _ (by decide), A _ (by decide), A _ (by decide)]; exact h7.2.2⟩
theorem nu_p {a c q : Int} {x : Int × Int} (h : sNum T n a c q = some x) : nuP T n a c (some q) = some x.2 := by
  unfold nuP
  show (sNum T n a c q).map Prod.snd = _
  rw [h]
  rfl
theorem oif_s {α : Type} {c : Prop} {x : Option α} {a : α} (h : oif c x = some a) : c ∧ x = some a := by
  by_cases w : c
  · rw [oif_t w] at h
    exact ⟨w, h⟩
  · rw [oif_f w] at h
    cases h
theorem sNum_b {a c q : Int} {x : Int × Int} (h : sNum T n a c q = some x) : a ≤ x.1 ∧ x.1 ≤ c := by
  obtain ⟨h1, h2⟩ := oif_s h
  cases h2
  exact h1.2
/-- a thing more -/
theorem mQ_addT {x v : Int32} {nm : List Int} {c : Int} (hm : aTm aT0 m) (hb : 0 ≤ b ∧ b ≤ 1) (hx : x.toInt = b) (hv : v.toInt = ((Qt Q).length : Int) + 1) (hl : ∀ a ∈ nm, ltr a) (h1 : (gl (gA m 240) (9 * b + ((Qt Q).length : Int))).toInt = wnl nm) (h2 : gn (ga m 229) (9 * b + ((Qt Q).length : Int)) = c) {hu hi : Int} (h3 : gn (ga m 230) (9 * b + ((Qt Q).length : Int)) = hu) (h4 : gn (ga m 231) (9 * b + ((Qt Q).length : Int)) = hi) (h5 : 1 ≤ hu ∧ hu ≤ 9) (h6 : 0 ≤ hi ∧ hi ≤ 9) (h : mQ b Q m) : mQ b (Qc Q, Qr Q, Qw Q, Qt Q ++ [(nm, c)], Qh Q, Qf Q, Qu Q, Qg Q ++ [(hu, hi)], Qp Q, Qa Q, Qk Q) (sx m 228 x v) := by
  have gll := gl_228 hm
  have A : ∀ q, ¬ 228 = q → ga (sx m 228 x v) q = ga m q := fun q hq => ga_sa_ne hq
  have B : ∀ q, gA (sx m 228 x v) q = gA m q := fun q => gA_sa
  obtain ⟨k1, k2, k3, k4, k5, k6, k7⟩ := h
  refine ⟨by rw [A _ (by decide), A _ (by decide)]; exact k1, by unfold mQw; rw [A _ (by decide)]; exact k2, ⟨?_, fun i y hy => ?_⟩, by unfold mQh; rw [A _ (by decide)]; exact k4, by unfold mQf; rw [A _ (by decide), A _ (by decide), A _ (by decide), B]; exact k5, by unfold mQu; rw [A _ (by decide)]; exact k6, ⟨?_, fun i y hy => ?_⟩, ?_⟩
  · rw [show ga (sx m 228 x v) 228 = (ga m 228).set x.toNatClampNeg v from ga_sa_eq, gn_set hx (by omega) (by omega) (by omega), if_pos rfl, hv]
    show _ = (((Qt Q ++ [(nm, c)]).length : Nat) : Int)
    rw [List.length_append]
    rfl
  · have hy : (Qt Q ++ [(nm, c)])[i]? = some y := hy
    rw [A _ (by decide), B]
    rw [List.getElem?_append] at hy
    split at hy
    · exact k3.2 i y hy
    · next w =>
      have hi := (List.getElem?_eq_some_iff.1 hy).1
      have e : i = (Qt Q).length := by
        simp at hi
        omega
      subst e
      rw [show (Qt Q).length - (Qt Q).length = 0 by omega] at hy
      cases hy
      exact ⟨h1, hl, h2⟩
  · show (Qg Q ++ [(hu, hi)]).length = (Qt Q ++ [(nm, c)]).length
    rw [List.length_append, List.length_append, k7.1.1]
    rfl
  · have hy : (Qg Q ++ [(hu, hi)])[i]? = some y := hy
    rw [A _ (by decide), A _ (by decide)]
    rw [List.getElem?_append] at hy
    split at hy
    · exact k7.1.2 i y hy
    · next w =>
      have hi' := (List.getElem?_eq_some_iff.1 hy).1
      have e : i = (Qt Q).length := by
        have := k7.1.1
        simp at hi'
        omega
      subst e
      rw [k7.1.1, show (Qt Q).length - (Qt Q).length = 0 by omega] at hy
      cases hy
      exact ⟨⟨h3, h5⟩, h4, h6⟩
  · have X := (mQx_eq (fun k hk => A k (fun e => by subst e; exact absurd hk (by decide))) k7 : mQx b Q (sx m 228 x v))
    exact X.2
/-- one of the folk more -/
theorem mQ_addF {x v : Int32} {nm : List Int} {c c2 : Int} (hm : aTm aT0 m) (hb : 0 ≤ b ∧ b ≤ 1) (hx : x.toInt = b) (hv : v.toInt = ((Qf Q).length : Int) + 1) (hl : ∀ a ∈ nm, ltr a) (h1 : (gl (gA m 241) (6 * b + ((Qf Q).length : Int))).toInt = wnl nm) (h2 : gn (ga m 234) (6 * b + ((Qf Q).length : Int)) = c) (h3 : gn (ga m 235) (6 * b + ((Qf Q).length : Int)) = c2) (h : mQ b Q m) : mQ b (Qc Q, Qr Q, Qw Q, Qt Q, Qh Q, Qf Q ++ [(nm, c, c2)], Qu Q, Qx Q) (sx m 233 x v) := by
  have gll := gl_233 hm
  have A : ∀ q, ¬ 233 = q → ga (sx m 233 x v) q = ga m q := fun q hq => ga_sa_ne hq
  have B : ∀ q, gA (sx m 233 x v) q = gA m q := fun q => gA_sa
  obtain ⟨k1, k2, k3, k4, k5, k6, k7⟩ := h
  refine ⟨by rw [A _ (by decide), A _ (by decide)]; exact k1, by unfold mQw; rw [A _ (by decide)]; exact k2, by unfold mQt; rw [A _ (by decide), A _ (by decide), B]; exact k3, by unfold mQh; rw [A _ (by decide)]; exact k4, ⟨?_, fun i y hy => ?_⟩, by unfold mQu; rw [A _ (by decide)]; exact k6, mQx_eq (fun k hk => A k (fun e => by subst e; exact absurd hk (by decide))) k7⟩
  · rw [show ga (sx m 233 x v) 233 = (ga m 233).set x.toNatClampNeg v from ga_sa_eq, gn_set hx (by omega) (by omega) (by omega), if_pos rfl, hv]
    show _ = (((Qf Q ++ [(nm, c, c2)]).length : Nat) : Int)
    rw [List.length_append]
    rfl
  · have hy : (Qf Q ++ [(nm, c, c2)])[i]? = some y := hy
    rw [A _ (by decide), A _ (by decide), B]
    rw [List.getElem?_append] at hy
    split at hy
    · exact k5.2 i y hy
    · next w =>
      have hi := (List.getElem?_eq_some_iff.1 hy).1
      have e : i = (Qf Q).length := by
        simp at hi
        omega
      subst e
      rw [show (Qf Q).length - (Qf Q).length = 0 by omega] at hy
      cases hy
      exact ⟨h1, hl, h2, h3⟩
/-- a wall more -/
theorem mQ_addW {x : Int32} {c : Int} (hm : aTm aT0 m) (hb : 0 ≤ b ∧ b ≤ 1) (hc : 0 ≤ c ∧ c < 64) (hx : x.toInt = 64 * b + c) (h : mQ b Q m) : mQ b (Qc Q, Qr Q, c :: Qw Q, Qt Q, Qh Q, Qf Q, Qu Q, Qx Q) (sx m 227 x 1) := by
  have gll := gl_227 hm
  have A : ∀ q, ¬ 227 = q → ga (sx m 227 x 1) q = ga m q := fun q hq => ga_sa_ne hq
  have B : ∀ q, gA (sx m 227 x 1) q = gA m q := fun q => gA_sa
  obtain ⟨k1, k2, k3, k4, k5, k6, k7⟩ := h
  refine ⟨by rw [A _ (by decide), A _ (by decide)]; exact k1, fun i i0 i1 => ?_, by unfold mQt; rw [A _ (by decide), A _ (by decide), B]; exact k3, by unfold mQh; rw [A _ (by decide)]; exact k4, by unfold mQf; rw [A _ (by decide), A _ (by decide), A _ (by decide), B]; exact k5, by unfold mQu; rw [A _ (by decide)]; exact k6, mQx_eq (fun k hk => A k (fun e => by subst e; exact absurd hk (by decide))) k7⟩
  show _ ↔ i ∈ c :: Qw Q
  rw [show ga (sx m 227 x 1) 227 = (ga m 227).set x.toNatClampNeg 1 from ga_sa_eq, gn_set hx (by omega) (by omega) (by omega), List.mem_cons]
  by_cases e : i = c
  · rw [if_pos (by omega)]
    exact ⟨fun _ => Or.inl e, fun _ => rfl⟩
  · rw [if_neg (by omega), k2 i i0 i1]
    exact ⟨Or.inr, fun w => w.resolve_left e⟩
theorem fr_gA2 {is : List Nat} {k : Nat} (h : fr [] is mr m) (hn : ¬ k = 221) : gA m k = gA mr k := by
  unfold gA
  rw [h.1 k hn rfl]
theorem h_ceS {iw : Int32} {wl : Prop} (hw : (¬ iw.toInt = 0) = wl) (hm : aTm aT0 mem) (hT : tOK mem) (hb : (gi mem 221 34).toInt = b) (hQ : mQ b Q mem) (hq : (3 ≤ Qc Q ∧ Qc Q ≤ 7) ∧ 3 ≤ Qr Q ∧ Qr Q ≤ 7) (hS : mS T n s mem) (hd : 5 ≤ d) : yC zpg d 196 [.ref 221, .int iw] mem (fun r m => ∃ v : Int32, r = some (.int v) ∧ aTm aT0 m ∧ (tQ mem m ∧ ((0 ≤ v.toInt ∧ v.toInt ≤ 63) ∧ mS T n (celP T n wl Q s) m ∧ celV T n wl Q s v.toInt))) := by
  subst hb
  subst hw
  refine yC_mono (fun r m q => ?_) (yC_and (h_cellTold (iw := iw) hm hT (by rw [hQ.1.1]; exact hq.1) (by rw [hQ.1.2]; exact hq.2) hd) (h_ceF (iw := iw) hm hT hQ hq hS hd))
  obtain ⟨⟨v, q1, q2, q3, q4⟩, w1, v', w2, w3⟩ := q
  rw [q1] at w2
  cases w2
  exact ⟨v, q1, q2, q3, q4, w1, w3⟩
theorem h_frS5 (hm : aTm aT0 mem) (hT : tOK mem) (hb : (gi mem 221 34).toInt = b) (hQ : mQ b Q mem) (h : mS T n s mem) (hd : 4 ≤ d) : yC zpg d 194 [.ref 221] mem (fun r m => ∃ v : Int64, r = some (.long v) ∧ aTm aT0 m ∧ (tQ mem m ∧ (mS T n (freP T n Q s) m ∧ freV T n Q s v.toInt))) := by
  subst hb
  exact h_frS hm hT hQ h hd
end MT
