/-! walls, things, folk told, by what they mean -/
section MU
variable {d : Nat} {mr mem m : zM} {T : List Int32} {n p e : Int} {t : Tk} {s : Option Int} {b : Int} {Q : Qd}
theorem cn_s {c : Prop} (hs : s = some p) (hc : c) : s.bind (cnP T n c) = some (tkf T n p).2 := by
  subst hs
  show cnP T n c p = _
  unfold cnP
  exact oif_t hc
theorem stR_no {R : Option (Qd × Int)} (h : R = none) (h8 : 1 ≤ fk m) : stR T n b R m := Or.inr ⟨h, h8⟩
theorem fre_p {p1 : Int} {a : List Int × Int} (h : sFre T n Q p1 = some a) : freP T n Q (some p1) = some a.2 := by
  show (sFre T n Q p1).map Prod.snd = _
  rw [h]
  rfl
theorem cel_p {wl : Prop} {p1 : Int} {a : Int × Int} (h : sCel T n wl Q p1 = some a) : celP T n wl Q (some p1) = some a.2 := by
  show (sCel T n wl Q p1).map Prod.snd = _
  rw [h]
  rfl
theorem mp_none {α β : Type} {x : Option α} {f : α → β} (h : x.map f = none) : x = none := by
  cases x with
  | none => rfl
  | some a => cases h
set_option maxRecDepth 100000 in
theorem w_wallingF {d : Nat} {mem : zM} {P : Option Value → zM → Prop} {T : List Int32} {n b : Int} {s : Option Int} {Q : Qd} (hm : aTm aT0 mem) (hT : tOK mem) (sg : ¬ (gi mem 221 3).toInt = 0) (hS : mS T n s mem) (hb : (gi mem 221 34).toInt = b) (hQ : mQ b Q mem) (hq : (3 ≤ Qc Q ∧ Qc Q ≤ 7) ∧ 3 ≤ Qr Q ∧ Qr Q ≤ 7) (h1 : ∀ (v3 : Int32) (m1 : zM), aTm aT0 m1 → ((tQ mem m1 ∧ (mS T n (s.bind (cnP T n ((0 : Int) = 0))) m1 ∧ ((v3.toInt = 0 ∧ 1 ≤ (gi m1 221 8).toInt) ∨ (¬ v3.toInt = 0 ∧ (gi m1 221 8).toInt = 0 ∧ (0 : Int) = 0)))) ∧ ((¬ (gi m1 221 8).toInt = 0 ∨ (gi mem 221 8).toInt = 0) ∧ 0 ≤ (gi m1 221 8).toInt ∧ (gi m1 221 34).toInt = (gi mem 221 34).toInt ∧ gn (ga m1 223) (gi m1 221 34).toInt = gn (ga mem 223) (gi mem 221 34).toInt ∧ gn (ga m1 224) (gi m1 221 34).toInt = gn (ga mem 224) (gi mem 221 34).toInt ∧ gn (ga m1 228) (gi m1 221 34).toInt = gn (ga mem 228) (gi mem 221 34).toInt ∧ gn (ga m1 233) (gi m1 221 34).toInt = gn (ga mem 233) (gi mem 221 34).toInt)) → ¬ (v3).toInt = 0 → ∀ (v7 : Int32) (m5 : zM), aTm aT0 m5 → ((tQ m1 m5 ∧ ((0 ≤ v7.toInt ∧ v7.toInt ≤ 63) ∧ mS T n (celP T n True Q (s.bind (cnP T n ((0 : Int) = 0)))) m5 ∧ celV T n True Q (s.bind (cnP T n ((0 : Int) = 0))) v7.toInt)) ∧ ((¬ (gi m5 221 8).toInt = 0 ∨ (gi m1 221 8).toInt = 0) ∧ 0 ≤ (gi m5 221 8).toInt ∧ (gi m5 221 34).toInt = (gi m1 221 34).toInt ∧ gn (ga m5 223) (gi m5 221 34).toInt = gn (ga m1 223) (gi m1 221 34).toInt ∧ gn (ga m5 224) (gi m5 221 34).toInt = gn (ga m1 224) (gi m1 221 34).toInt ∧ gn (ga m5 228) (gi m5 221 34).toInt = gn (ga m1 228) (gi m1 221 34).toInt ∧ gn (ga m5 233) (gi m5 221 34).toInt = gn (ga m1 233) (gi m1 221 34).toInt)) → ¬ (gi m5 221 8).toInt = 0 → aTm aT0 m5 → P none m5) (h2 : ∀ (v3 : Int32) (m1 : zM), aTm aT0 m1 → ((tQ mem m1 ∧ (mS T n (s.bind (cnP T n ((0 : Int) = 0))) m1 ∧ ((v3.toInt = 0 ∧ 1 ≤ (gi m1 221 8).toInt) ∨ (¬ v3.toInt = 0 ∧ (gi m1 221 8).toInt = 0 ∧ (0 : Int) = 0)))) ∧ ((¬ (gi m1 221 8).toInt = 0 ∨ (gi mem 221 8).toInt = 0) ∧ 0 ≤ (gi m1 221 8).toInt ∧ (gi m1 221 34).toInt = (gi mem 221 34).toInt ∧ gn (ga m1 223) (gi m1 221 34).toInt = gn (ga mem 223) (gi mem 221 34).toInt ∧ gn (ga m1 224) (gi m1 221 34).toInt = gn (ga mem 224) (gi mem 221 34).toInt ∧ gn (ga m1 228) (gi m1 221 34).toInt = gn (ga mem 228) (gi mem 221 34).toInt ∧ gn (ga m1 233) (gi m1 221 34).toInt = gn (ga mem 233) (gi mem 221 34).toInt)) → ¬ (v3).toInt = 0 → ∀ (v7 : Int32) (m5 : zM), aTm aT0 m5 → ((tQ m1 m5 ∧ ((0 ≤ v7.toInt ∧ v7.toInt ≤ 63) ∧ mS T n (celP T n True Q (s.bind (cnP T n ((0 : Int) = 0)))) m5 ∧ celV T n True Q (s.bind (cnP T n ((0 : Int) = 0))) v7.toInt)) ∧ ((¬ (gi m5 221 8).toInt = 0 ∨ (gi m1 221 8).toInt = 0) ∧ 0 ≤ (gi m5 221 8).toInt ∧ (gi m5 221 34).toInt = (gi m1 221 34).toInt ∧ gn (ga m5 223) (gi m5 221 34).toInt = gn (ga m1 223) (gi m1 221 34).toInt ∧ gn (ga m5 224) (gi m5 221 34).toInt = gn (ga m1 224) (gi m1 221 34).toInt ∧ gn (ga m5 228) (gi m5 221 34).toInt = gn (ga m1 228) (gi m1 221 34).toInt ∧ gn (ga m5 233) (gi m5 221 34).toInt = gn (ga m1 233) (gi m1 221 34).toInt)) → (gi m5 221 8).toInt = 0 → ∀ (x9 : Int32), x9.toInt = (64 * (gi m5 221 34).toInt) → ∀ (x11 : Int32), x11.toInt = ((64 * (gi m5 221 34).toInt) + (v7).toInt) → aTm aT0 (sx m5 227 x11 1) → P none (sx m5 227 x11 1)) (h3 : ∀ (v3 : Int32) (m1 : zM), aTm aT0 m1 → ((tQ mem m1 ∧ (mS T n (s.bind (cnP T n ((0 : Int) = 0))) m1 ∧ ((v3.toInt = 0 ∧ 1 ≤ (gi m1 221 8).toInt) ∨ (¬ v3.toInt = 0 ∧ (gi m1 221 8).toInt = 0 ∧ (0 : Int) = 0)))) ∧ ((¬ (gi m1 221 8).toInt = 0 ∨ (gi mem 221 8).toInt = 0) ∧ 0 ≤ (gi m1 221 8).toInt ∧ (gi m1 221 34).toInt = (gi mem 221 34).toInt ∧ gn (ga m1 223) (gi m1 221 34).toInt = gn (ga mem 223) (gi mem 221 34).toInt ∧ gn (ga m1 224) (gi m1 221 34).toInt = gn (ga mem 224) (gi mem 221 34).toInt ∧ gn (ga m1 228) (gi m1 221 34).toInt = gn (ga mem 228) (gi mem 221 34).toInt ∧ gn (ga m1 233) (gi m1 221 34).toInt = gn (ga mem 233) (gi mem 221 34).toInt)) → (v3).toInt = 0 → aTm aT0 m1 → P none m1) : yR zpg tX12_walling (d + 5) (0, [(0, .ref 221)], [], mem) P := by
  obtain ⟨i0, i1⟩ := mO_r34 hm
  have hb01 : 0 ≤ b ∧ b ≤ 1 := by omega
  have th := gR_228 hm (i := (gi mem 221 34).toInt) i0 (by omega)
  have fki := gR_233 hm (i := (gi mem 221 34).toInt) i0 (by omega)
  have tl : gn (ga mem 228) (gi mem 221 34).toInt = ((Qt Q).length : Int) := by rw [hb]; exact hQ.2.2.1.1
  have fl : gn (ga mem 233) (gi mem 221 34).toInt = ((Qf Q).length : Int) := by rw [hb]; exact hQ.2.2.2.2.1.1
  refine yR_m 2 (fun _ _ _ _ => rfl) ?_
  refine wR_cv rfl rfl mO_e hm rfl (pk_i (h_cy (b8 := (gi mem 221 8).toInt) rfl rfl rfl rfl rfl rfl rfl (fun _ _ q => by obtain ⟨_, _, _, q⟩ := q; exact q.1) (h_cnS (T := T) (n := n) (ci := (0 : Int)) rfl hm hT sg hS (by omega)))) ?_
  rintro _ m1 ⟨v3, rfl, hm1, k2⟩
  show yR zpg tX12_walling (d + 5) (5, [(0, .ref 221)], [.int v3], m1) _
  refine wR_if_ne rfl (a := (v3).toInt) rfl (fun q4 => ?_) (fun q4 => ?_)
  ·
    refine yR_m 2 (fun _ _ _ _ => rfl) ?_
    refine wR_cv rfl rfl mO_e hm1 rfl (pk_i (h_cy (b8 := (gi m1 221 8).toInt) rfl rfl rfl rfl rfl rfl rfl (fun _ _ q => by obtain ⟨_, _, _, q⟩ := q; exact q.1) (h_ceS (T := T) (n := n) (b := b) (Q := Q) (wl := True) (by simp) hm1 k2.1.1.2.1 (by omega) (mQ_fr k2.1.1.1 hQ) hq k2.1.2.1 (by omega)))) ?_
    rintro _ m5 ⟨v7, rfl, hm5, k6⟩
    show yR zpg tX12_walling (d + 5) (14, [(0, .ref 221)], [.int v7], m5) _
    refine yR_m 2 (fun _ _ _ _ => rfl) ?_
    refine wR_gi rfl mO_e mO_8 hm5 rfl ?_
    refine wR_if_ne rfl (a := (gi m5 221 8).toInt) rfl (fun q8 => ?_) (fun q8 => ?_)
    ·
      exact yR_rv rfl (h1 v3 m1 hm1 k2 q4 v7 m5 hm5 k6 q8 hm5)
    ·
      refine yR_m 1 (fun _ _ _ _ => rfl) ?_
      refine wR_gr rfl mO_e mO_18 hm5 ?_
      refine yR_m 2 (fun _ _ _ _ => rfl) ?_
      refine wR_gi rfl mO_e mO_34 hm5 rfl ?_
      refine wN_mul (a := 64) (b := (gi m5 221 34).toInt) rfl rfl rfl (by omega) (fun x9 e10 => ?_)
      refine yR_m 1 (fun _ _ _ _ => rfl) ?_
      refine wN_add (a := (64 * (gi m5 221 34).toInt)) (b := (v7).toInt) rfl e10 rfl (by omega) (fun x11 e12 => ?_)
      refine yR_m 1 (fun _ _ _ _ => rfl) ?_
      refine wN_as (a := ((64 * (gi m5 221 34).toInt) + (v7).toInt)) rfl aR_227 hm5 e12 (by omega) ?_
      have hm_1 : aTm aT0 (sx m5 227 x11 1) := tm_sa aR_227 hm5 (by decide)
      exact yR_rv rfl (h2 v3 m1 hm1 k2 q4 v7 m5 hm5 k6 q8 x9 e10 x11 e12 hm_1)
  ·
    exact yR_rv rfl (h3 v3 m1 hm1 k2 q4 hm1)

theorem h_walF (hm : aTm aT0 mem) (hT : tOK mem) (sg : ¬ (gi mem 221 3).toInt = 0) (hS : mS T n s mem) (hs : s = some p) (hb : (gi mem 221 34).toInt = b) (hQ : mQ b Q mem) (hq : (3 ≤ Qc Q ∧ Qc Q ≤ 7) ∧ 3 ≤ Qr Q ∧ Qr Q ≤ 7) (hd : 6 ≤ d) : yC zpg d 199 [.ref 221] mem (fun r m => stR T n b (sWal T n Q (tkf T n p).2) m) := by
  obtain ⟨d, rfl⟩ : ∃ q, d = q + 6 := ⟨d - 6, by omega⟩
  obtain ⟨i0, i1⟩ := mO_r34 hm
  have hb01 : 0 ≤ b ∧ b ≤ 1 := by omega
  refine yC_of (t := tX12_walling) rfl rfl ?_
  exact w_wallingF (T := T) (n := n) (b := b) (s := s) (Q := Q) hm hT sg hS hb hQ hq
        (fun v3 m1 hm1 k2 q4 v7 m5 hm5 k6 q8 hm2 => by
          have E1 := cn_s (T := T) (n := n) (c := ((0 : Int) = 0)) hs rfl
          have K5 := k6.1.2.2
          rw [E1] at K5
          rcases K5.1 with ⟨q, -, w, -⟩ | ⟨w, f⟩
          · exfalso
            have w2 : (gi m5 221 8).toInt = 0 := w
            omega
          · exact stR_no (by unfold sWal; rw [mp_none w]; rfl) f)
        (fun v3 m1 hm1 k2 q4 v7 m5 hm5 k6 q8 x9 e10 x11 e12 hm2 => by
          have E1 := cn_s (T := T) (n := n) (c := ((0 : Int) = 0)) hs rfl
          have K5 := k6.1.2.2
          rw [E1] at K5
          rcases K5.1 with ⟨p2, e2, f2, r2⟩ | ⟨-, f⟩
          · obtain ⟨x, hx, ex⟩ := om_s e2
            have vx := K5.2 _ x rfl hx
            subst ex
            refine Or.inl ⟨_, _, by unfold sWal; rw [hx]; rfl, by show (gi (sx m5 227 x11 1) 221 8).toInt = 0; rw [gi_sa]; exact f2, mRd_sa (by decide) r2, ?_⟩
            exact mQ_addW hm5 hb01 (by omega) (by omega) (mQ_fr k6.1.1.1 (mQ_fr k2.1.1.1 hQ))
          · exfalso
            have f' : 1 ≤ (gi m5 221 8).toInt := f
            omega)
        (fun v3 m1 hm1 k2 q4 hm2 => by
          have E1 := cn_s (T := T) (n := n) (c := ((0 : Int) = 0)) hs rfl
          have K1 := k2.1.2.1
          rw [E1] at K1
          exfalso
          rcases K1 with ⟨q, -, w, -⟩ | ⟨w, -⟩
          · have w2 : (gi m1 221 8).toInt = 0 := w
            omega
          · cases w)
set_option maxRecDepth 100000 in
theorem w_lackingF {d : Nat} {mem : zM} {P : Option Value → zM → Prop} {T : List Int32} {n b : Int} {s : Option Int} {Q : Qd} (hm : aTm aT0 mem) (hT : tOK mem) (sg : ¬ (gi mem 221 3).toInt = 0) (hS : mS T n s mem) (hb : (gi mem 221 34).toInt = b) (hQ : mQ b Q mem) (hq : (3 ≤ Qc Q ∧ Qc Q ≤ 7) ∧ 3 ≤ Qr Q ∧ Qr Q ≤ 7) (h1 : ∀ (y1 : Int32), y1.toInt = (gn (ga mem 228) (gi mem 221 34).toInt) → ¬ (gn (ga mem 228) (gi mem 221 34).toInt) = 9 → ∀ (v6 : Int32) (m4 : zM), aTm aT0 m4 → ((tQ mem m4 ∧ (mS T n (s.bind (cnP T n ((0 : Int) = 0))) m4 ∧ ((v6.toInt = 0 ∧ 1 ≤ (gi m4 221 8).toInt) ∨ (¬ v6.toInt = 0 ∧ (gi m4 221 8).toInt = 0 ∧ (0 : Int) = 0)))) ∧ ((¬ (gi m4 221 8).toInt = 0 ∨ (gi mem 221 8).toInt = 0) ∧ 0 ≤ (gi m4 221 8).toInt ∧ (gi m4 221 34).toInt = (gi mem 221 34).toInt ∧ gn (ga m4 223) (gi m4 221 34).toInt = gn (ga mem 223) (gi mem 221 34).toInt ∧ gn (ga m4 224) (gi m4 221 34).toInt = gn (ga mem 224) (gi mem 221 34).toInt ∧ gn (ga m4 228) (gi m4 221 34).toInt = gn (ga mem 228) (gi mem 221 34).toInt ∧ gn (ga m4 233) (gi m4 221 34).toInt = gn (ga mem 233) (gi mem 221 34).toInt)) → ¬ (v6).toInt = 0 → ∀ (x8 : Int32), x8.toInt = (9 * (gi m4 221 34).toInt) → ∀ (y10 : Int32), y10.toInt = (gn (ga m4 228) (gi m4 221 34).toInt) → ∀ (x12 : Int32), x12.toInt = ((9 * (gi m4 221 34).toInt) + (gn (ga m4 228) (gi m4 221 34).toInt)) → ∀ (v16 : Int64) (m14 : zM), aTm aT0 m14 → ((tQ m4 m14 ∧ (mS T n (freP T n Q (s.bind (cnP T n ((0 : Int) = 0)))) m14 ∧ freV T n Q (s.bind (cnP T n ((0 : Int) = 0))) v16.toInt)) ∧ ((¬ (gi m14 221 8).toInt = 0 ∨ (gi m4 221 8).toInt = 0) ∧ 0 ≤ (gi m14 221 8).toInt ∧ (gi m14 221 34).toInt = (gi m4 221 34).toInt ∧ gn (ga m14 223) (gi m14 221 34).toInt = gn (ga m4 223) (gi m4 221 34).toInt ∧ gn (ga m14 224) (gi m14 221 34).toInt = gn (ga m4 224) (gi m4 221 34).toInt ∧ gn (ga m14 228) (gi m14 221 34).toInt = gn (ga m4 228) (gi m4 221 34).toInt ∧ gn (ga m14 233) (gi m14 221 34).toInt = gn (ga m4 233) (gi m4 221 34).toInt)) → ∀ (m17 : zM), aTm aT0 m17 → ((tQ (sX m14 240 x12 v16) m17 ∧ mS T n ((freP T n Q (s.bind (cnP T n ((0 : Int) = 0)))).bind (sOwn T n 6)) m17) ∧ ((¬ (gi m17 221 8).toInt = 0 ∨ (gi m14 221 8).toInt = 0) ∧ 0 ≤ (gi m17 221 8).toInt ∧ (gi m17 221 34).toInt = (gi m14 221 34).toInt ∧ gn (ga m17 223) (gi m17 221 34).toInt = gn (ga m14 223) (gi m14 221 34).toInt ∧ gn (ga m17 224) (gi m17 221 34).toInt = gn (ga m14 224) (gi m14 221 34).toInt ∧ gn (ga m17 228) (gi m17 221 34).toInt = gn (ga m14 228) (gi m14 221 34).toInt ∧ gn (ga m17 233) (gi m17 221 34).toInt = gn (ga m14 233) (gi m14 221 34).toInt)) → ∀ (v21 : Int32) (m19 : zM), aTm aT0 m19 → ((tQ m17 m19 ∧ ((0 ≤ v21.toInt ∧ v21.toInt ≤ 63) ∧ mS T n (celP T n False Q ((freP T n Q (s.bind (cnP T n ((0 : Int) = 0)))).bind (sOwn T n 6))) m19 ∧ celV T n False Q ((freP T n Q (s.bind (cnP T n ((0 : Int) = 0)))).bind (sOwn T n 6)) v21.toInt)) ∧ ((¬ (gi m19 221 8).toInt = 0 ∨ (gi m17 221 8).toInt = 0) ∧ 0 ≤ (gi m19 221 8).toInt ∧ (gi m19 221 34).toInt = (gi m17 221 34).toInt ∧ gn (ga m19 223) (gi m19 221 34).toInt = gn (ga m17 223) (gi m17 221 34).toInt ∧ gn (ga m19 224) (gi m19 221 34).toInt = gn (ga m17 224) (gi m17 221 34).toInt ∧ gn (ga m19 228) (gi m19 221 34).toInt = gn (ga m17 228) (gi m17 221 34).toInt ∧ gn (ga m19 233) (gi m19 221 34).toInt = gn (ga m17 233) (gi m17 221 34).toInt)) → ∀ (m22 : zM), aTm aT0 m22 → ((tQ (sx m19 229 x12 v21) m22 ∧ mS T n ((celP T n False Q ((freP T n Q (s.bind (cnP T n ((0 : Int) = 0)))).bind (sOwn T n 6))).bind (sOwn T n 7)) m22) ∧ ((¬ (gi m22 221 8).toInt = 0 ∨ (gi m19 221 8).toInt = 0) ∧ 0 ≤ (gi m22 221 8).toInt ∧ (gi m22 221 34).toInt = (gi m19 221 34).toInt ∧ gn (ga m22 223) (gi m22 221 34).toInt = gn (ga m19 223) (gi m19 221 34).toInt ∧ gn (ga m22 224) (gi m22 221 34).toInt = gn (ga m19 224) (gi m19 221 34).toInt ∧ gn (ga m22 228) (gi m22 221 34).toInt = gn (ga m19 228) (gi m19 221 34).toInt ∧ gn (ga m22 233) (gi m22 221 34).toInt = gn (ga m19 233) (gi m19 221 34).toInt)) → ∀ (v26 : Int32) (m24 : zM), aTm aT0 m24 → ((tQ m22 m24 ∧ ((¬ (gi m24 221 8).toInt = 0 ∨ ((1 : Int) ≤ v26.toInt ∧ v26.toInt ≤ 9)) ∧ mS T n (nuP T n (1 : Int) 9 ((celP T n False Q ((freP T n Q (s.bind (cnP T n ((0 : Int) = 0)))).bind (sOwn T n 6))).bind (sOwn T n 7))) m24 ∧ nuV T n (1 : Int) 9 ((celP T n False Q ((freP T n Q (s.bind (cnP T n ((0 : Int) = 0)))).bind (sOwn T n 6))).bind (sOwn T n 7)) v26.toInt)) ∧ ((¬ (gi m24 221 8).toInt = 0 ∨ (gi m22 221 8).toInt = 0) ∧ 0 ≤ (gi m24 221 8).toInt ∧ (gi m24 221 34).toInt = (gi m22 221 34).toInt ∧ gn (ga m24 223) (gi m24 221 34).toInt = gn (ga m22 223) (gi m22 221 34).toInt ∧ gn (ga m24 224) (gi m24 221 34).toInt = gn (ga m22 224) (gi m22 221 34).toInt ∧ gn (ga m24 228) (gi m24 221 34).toInt = gn (ga m22 228) (gi m22 221 34).toInt ∧ gn (ga m24 233) (gi m24 221 34).toInt = gn (ga m22 233) (gi m22 221 34).toInt)) → ∀ (m27 : zM), aTm aT0 m27 → ((tQ (sx m24 230 x12 v26) m27 ∧ mS T n ((nuP T n (1 : Int) 9 ((celP T n False Q ((freP T n Q (s.bind (cnP T n ((0 : Int) = 0)))).bind (sOwn T n 6))).bind (sOwn T n 7))).bind (sOwn T n 8)) m27) ∧ ((¬ (gi m27 221 8).toInt = 0 ∨ (gi m24 221 8).toInt = 0) ∧ 0 ≤ (gi m27 221 8).toInt ∧ (gi m27 221 34).toInt = (gi m24 221 34).toInt ∧ gn (ga m27 223) (gi m27 221 34).toInt = gn (ga m24 223) (gi m24 221 34).toInt ∧ gn (ga m27 224) (gi m27 221 34).toInt = gn (ga m24 224) (gi m24 221 34).toInt ∧ gn (ga m27 228) (gi m27 221 34).toInt = gn (ga m24 228) (gi m24 221 34).toInt ∧ gn (ga m27 233) (gi m27 221 34).toInt = gn (ga m24 233) (gi m24 221 34).toInt)) → ∀ (v31 : Int32) (m29 : zM), aTm aT0 m29 → ((tQ m27 m29 ∧ ((¬ (gi m29 221 8).toInt = 0 ∨ ((0 : Int) ≤ v31.toInt ∧ v31.toInt ≤ 9)) ∧ mS T n (nuP T n (0 : Int) 9 ((nuP T n (1 : Int) 9 ((celP T n False Q ((freP T n Q (s.bind (cnP T n ((0 : Int) = 0)))).bind (sOwn T n 6))).bind (sOwn T n 7))).bind (sOwn T n 8))) m29 ∧ nuV T n (0 : Int) 9 ((nuP T n (1 : Int) 9 ((celP T n False Q ((freP T n Q (s.bind (cnP T n ((0 : Int) = 0)))).bind (sOwn T n 6))).bind (sOwn T n 7))).bind (sOwn T n 8)) v31.toInt)) ∧ ((¬ (gi m29 221 8).toInt = 0 ∨ (gi m27 221 8).toInt = 0) ∧ 0 ≤ (gi m29 221 8).toInt ∧ (gi m29 221 34).toInt = (gi m27 221 34).toInt ∧ gn (ga m29 223) (gi m29 221 34).toInt = gn (ga m27 223) (gi m27 221 34).toInt ∧ gn (ga m29 224) (gi m29 221 34).toInt = gn (ga m27 224) (gi m27 221 34).toInt ∧ gn (ga m29 228) (gi m29 221 34).toInt = gn (ga m27 228) (gi m27 221 34).toInt ∧ gn (ga m29 233) (gi m29 221 34).toInt = gn (ga m27 233) (gi m27 221 34).toInt)) → ¬ (gi m29 221 8).toInt = 0 → aTm aT0 (sx m29 231 x12 v31) → P none (sx m29 231 x12 v31)) (h2 : ∀ (y1 : Int32), y1.toInt = (gn (ga mem 228) (gi mem 221 34).toInt) → ¬ (gn (ga mem 228) (gi mem 221 34).toInt) = 9 → ∀ (v6 : Int32) (m4 : zM), aTm aT0 m4 → ((tQ mem m4 ∧ (mS T n (s.bind (cnP T n ((0 : Int) = 0))) m4 ∧ ((v6.toInt = 0 ∧ 1 ≤ (gi m4 221 8).toInt) ∨ (¬ v6.toInt = 0 ∧ (gi m4 221 8).toInt = 0 ∧ (0 : Int) = 0)))) ∧ ((¬ (gi m4 221 8).toInt = 0 ∨ (gi mem 221 8).toInt = 0) ∧ 0 ≤ (gi m4 221 8).toInt ∧ (gi m4 221 34).toInt = (gi mem 221 34).toInt ∧ gn (ga m4 223) (gi m4 221 34).toInt = gn (ga mem 223) (gi mem 221 34).toInt ∧ gn (ga m4 224) (gi m4 221 34).toInt = gn (ga mem 224) (gi mem 221 34).toInt ∧ gn (ga m4 228) (gi m4 221 34).toInt = gn (ga mem 228) (gi mem 221 34).toInt ∧ gn (ga m4 233) (gi m4 221 34).toInt = gn (ga mem 233) (gi mem 221 34).toInt)) → ¬ (v6).toInt = 0 → ∀ (x8 : Int32), x8.toInt = (9 * (gi m4 221 34).toInt) → ∀ (y10 : Int32), y10.toInt = (gn (ga m4 228) (gi m4 221 34).toInt) → ∀ (x12 : Int32), x12.toInt = ((9 * (gi m4 221 34).toInt) + (gn (ga m4 228) (gi m4 221 34).toInt)) → ∀ (v16 : Int64) (m14 : zM), aTm aT0 m14 → ((tQ m4 m14 ∧ (mS T n (freP T n Q (s.bind (cnP T n ((0 : Int) = 0)))) m14 ∧ freV T n Q (s.bind (cnP T n ((0 : Int) = 0))) v16.toInt)) ∧ ((¬ (gi m14 221 8).toInt = 0 ∨ (gi m4 221 8).toInt = 0) ∧ 0 ≤ (gi m14 221 8).toInt ∧ (gi m14 221 34).toInt = (gi m4 221 34).toInt ∧ gn (ga m14 223) (gi m14 221 34).toInt = gn (ga m4 223) (gi m4 221 34).toInt ∧ gn (ga m14 224) (gi m14 221 34).toInt = gn (ga m4 224) (gi m4 221 34).toInt ∧ gn (ga m14 228) (gi m14 221 34).toInt = gn (ga m4 228) (gi m4 221 34).toInt ∧ gn (ga m14 233) (gi m14 221 34).toInt = gn (ga m4 233) (gi m4 221 34).toInt)) → ∀ (m17 : zM), aTm aT0 m17 → ((tQ (sX m14 240 x12 v16) m17 ∧ mS T n ((freP T n Q (s.bind (cnP T n ((0 : Int) = 0)))).bind (sOwn T n 6)) m17) ∧ ((¬ (gi m17 221 8).toInt = 0 ∨ (gi m14 221 8).toInt = 0) ∧ 0 ≤ (gi m17 221 8).toInt ∧ (gi m17 221 34).toInt = (gi m14 221 34).toInt ∧ gn (ga m17 223) (gi m17 221 34).toInt = gn (ga m14 223) (gi m14 221 34).toInt ∧ gn (ga m17 224) (gi m17 221 34).toInt = gn (ga m14 224) (gi m14 221 34).toInt ∧ gn (ga m17 228) (gi m17 221 34).toInt = gn (ga m14 228) (gi m14 221 34).toInt ∧ gn (ga m17 233) (gi m17 221 34).toInt = gn (ga m14 233) (gi m14 221 34).toInt)) → ∀ (v21 : Int32) (m19 : zM), aTm aT0 m19 → ((tQ m17 m19 ∧ ((0 ≤ v21.toInt ∧ v21.toInt ≤ 63) ∧ mS T n (celP T n False Q ((freP T n Q (s.bind (cnP T n ((0 : Int) = 0)))).bind (sOwn T n 6))) m19 ∧ celV T n False Q ((freP T n Q (s.bind (cnP T n ((0 : Int) = 0)))).bind (sOwn T n 6)) v21.toInt)) ∧ ((¬ (gi m19 221 8).toInt = 0 ∨ (gi m17 221 8).toInt = 0) ∧ 0 ≤ (gi m19 221 8).toInt ∧ (gi m19 221 34).toInt = (gi m17 221 34).toInt ∧ gn (ga m19 223) (gi m19 221 34).toInt = gn (ga m17 223) (gi m17 221 34).toInt ∧ gn (ga m19 224) (gi m19 221 34).toInt = gn (ga m17 224) (gi m17 221 34).toInt ∧ gn (ga m19 228) (gi m19 221 34).toInt = gn (ga m17 228) (gi m17 221 34).toInt ∧ gn (ga m19 233) (gi m19 221 34).toInt = gn (ga m17 233) (gi m17 221 34).toInt)) → ∀ (m22 : zM), aTm aT0 m22 → ((tQ (sx m19 229 x12 v21) m22 ∧ mS T n ((celP T n False Q ((freP T n Q (s.bind (cnP T n ((0 : Int) = 0)))).bind (sOwn T n 6))).bind (sOwn T n 7)) m22) ∧ ((¬ (gi m22 221 8).toInt = 0 ∨ (gi m19 221 8).toInt = 0) ∧ 0 ≤ (gi m22 221 8).toInt ∧ (gi m22 221 34).toInt = (gi m19 221 34).toInt ∧ gn (ga m22 223) (gi m22 221 34).toInt = gn (ga m19 223) (gi m19 221 34).toInt ∧ gn (ga m22 224) (gi m22 221 34).toInt = gn (ga m19 224) (gi m19 221 34).toInt ∧ gn (ga m22 228) (gi m22 221 34).toInt = gn (ga m19 228) (gi m19 221 34).toInt ∧ gn (ga m22 233) (gi m22 221 34).toInt = gn (ga m19 233) (gi m19 221 34).toInt)) → ∀ (v26 : Int32) (m24 : zM), aTm aT0 m24 → ((tQ m22 m24 ∧ ((¬ (gi m24 221 8).toInt = 0 ∨ ((1 : Int) ≤ v26.toInt ∧ v26.toInt ≤ 9)) ∧ mS T n (nuP T n (1 : Int) 9 ((celP T n False Q ((freP T n Q (s.bind (cnP T n ((0 : Int) = 0)))).bind (sOwn T n 6))).bind (sOwn T n 7))) m24 ∧ nuV T n (1 : Int) 9 ((celP T n False Q ((freP T n Q (s.bind (cnP T n ((0 : Int) = 0)))).bind (sOwn T n 6))).bind (sOwn T n 7)) v26.toInt)) ∧ ((¬ (gi m24 221 8).toInt = 0 ∨ (gi m22 221 8).toInt = 0) ∧ 0 ≤ (gi m24 221 8).toInt ∧ (gi m24 221 34).toInt = (gi m22 221 34).toInt ∧ gn (ga m24 223) (gi m24 221 34).toInt = gn (ga m22 223) (gi m22 221 34).toInt ∧ gn (ga m24 224) (gi m24 221 34).toInt = gn (ga m22 224) (gi m22 221 34).toInt ∧ gn (ga m24 228) (gi m24 221 34).toInt = gn (ga m22 228) (gi m22 221 34).toInt ∧ gn (ga m24 233) (gi m24 221 34).toInt = gn (ga m22 233) (gi m22 221 34).toInt)) → ∀ (m27 : zM), aTm aT0 m27 → ((tQ (sx m24 230 x12 v26) m27 ∧ mS T n ((nuP T n (1 : Int) 9 ((celP T n False Q ((freP T n Q (s.bind (cnP T n ((0 : Int) = 0)))).bind (sOwn T n 6))).bind (sOwn T n 7))).bind (sOwn T n 8)) m27) ∧ ((¬ (gi m27 221 8).toInt = 0 ∨ (gi m24 221 8).toInt = 0) ∧ 0 ≤ (gi m27 221 8).toInt ∧ (gi m27 221 34).toInt = (gi m24 221 34).toInt ∧ gn (ga m27 223) (gi m27 221 34).toInt = gn (ga m24 223) (gi m24 221 34).toInt ∧ gn (ga m27 224) (gi m27 221 34).toInt = gn (ga m24 224) (gi m24 221 34).toInt ∧ gn (ga m27 228) (gi m27 221 34).toInt = gn (ga m24 228) (gi m24 221 34).toInt ∧ gn (ga m27 233) (gi m27 221 34).toInt = gn (ga m24 233) (gi m24 221 34).toInt)) → ∀ (v31 : Int32) (m29 : zM), aTm aT0 m29 → ((tQ m27 m29 ∧ ((¬ (gi m29 221 8).toInt = 0 ∨ ((0 : Int) ≤ v31.toInt ∧ v31.toInt ≤ 9)) ∧ mS T n (nuP T n (0 : Int) 9 ((nuP T n (1 : Int) 9 ((celP T n False Q ((freP T n Q (s.bind (cnP T n ((0 : Int) = 0)))).bind (sOwn T n 6))).bind (sOwn T n 7))).bind (sOwn T n 8))) m29 ∧ nuV T n (0 : Int) 9 ((nuP T n (1 : Int) 9 ((celP T n False Q ((freP T n Q (s.bind (cnP T n ((0 : Int) = 0)))).bind (sOwn T n 6))).bind (sOwn T n 7))).bind (sOwn T n 8)) v31.toInt)) ∧ ((¬ (gi m29 221 8).toInt = 0 ∨ (gi m27 221 8).toInt = 0) ∧ 0 ≤ (gi m29 221 8).toInt ∧ (gi m29 221 34).toInt = (gi m27 221 34).toInt ∧ gn (ga m29 223) (gi m29 221 34).toInt = gn (ga m27 223) (gi m27 221 34).toInt ∧ gn (ga m29 224) (gi m29 221 34).toInt = gn (ga m27 224) (gi m27 221 34).toInt ∧ gn (ga m29 228) (gi m29 221 34).toInt = gn (ga m27 228) (gi m27 221 34).toInt ∧ gn (ga m29 233) (gi m29 221 34).toInt = gn (ga m27 233) (gi m27 221 34).toInt)) → (gi m29 221 8).toInt = 0 → ∀ (y33 : Int32), y33.toInt = (gn (ga m29 228) (gi m29 221 34).toInt) → ∀ (x35 : Int32), x35.toInt = ((gn (ga m29 228) (gi m29 221 34).toInt) + 1) → aTm aT0 (sx (sx m29 231 x12 v31) 228 (gi m29 221 34) x35) → P none (sx (sx m29 231 x12 v31) 228 (gi m29 221 34) x35)) (h3 : ∀ (y1 : Int32), y1.toInt = (gn (ga mem 228) (gi mem 221 34).toInt) → ¬ (gn (ga mem 228) (gi mem 221 34).toInt) = 9 → ∀ (v6 : Int32) (m4 : zM), aTm aT0 m4 → ((tQ mem m4 ∧ (mS T n (s.bind (cnP T n ((0 : Int) = 0))) m4 ∧ ((v6.toInt = 0 ∧ 1 ≤ (gi m4 221 8).toInt) ∨ (¬ v6.toInt = 0 ∧ (gi m4 221 8).toInt = 0 ∧ (0 : Int) = 0)))) ∧ ((¬ (gi m4 221 8).toInt = 0 ∨ (gi mem 221 8).toInt = 0) ∧ 0 ≤ (gi m4 221 8).toInt ∧ (gi m4 221 34).toInt = (gi mem 221 34).toInt ∧ gn (ga m4 223) (gi m4 221 34).toInt = gn (ga mem 223) (gi mem 221 34).toInt ∧ gn (ga m4 224) (gi m4 221 34).toInt = gn (ga mem 224) (gi mem 221 34).toInt ∧ gn (ga m4 228) (gi m4 221 34).toInt = gn (ga mem 228) (gi mem 221 34).toInt ∧ gn (ga m4 233) (gi m4 221 34).toInt = gn (ga mem 233) (gi mem 221 34).toInt)) → (v6).toInt = 0 → aTm aT0 m4 → P none m4) (h4 : ∀ (y1 : Int32), y1.toInt = (gn (ga mem 228) (gi mem 221 34).toInt) → (gn (ga mem 228) (gi mem 221 34).toInt) = 9 → ∀ (v39 : Int32) (m37 : zM), aTm aT0 m37 → ((tQ mem m37 ∧ (mS T n (s.bind (cnP T n ((1 : Int) = 0))) m37 ∧ ((v39.toInt = 0 ∧ 1 ≤ (gi m37 221 8).toInt) ∨ (¬ v39.toInt = 0 ∧ (gi m37 221 8).toInt = 0 ∧ (1 : Int) = 0)))) ∧ ((¬ (gi m37 221 8).toInt = 0 ∨ (gi mem 221 8).toInt = 0) ∧ 0 ≤ (gi m37 221 8).toInt ∧ (gi m37 221 34).toInt = (gi mem 221 34).toInt ∧ gn (ga m37 223) (gi m37 221 34).toInt = gn (ga mem 223) (gi mem 221 34).toInt ∧ gn (ga m37 224) (gi m37 221 34).toInt = gn (ga mem 224) (gi mem 221 34).toInt ∧ gn (ga m37 228) (gi m37 221 34).toInt = gn (ga mem 228) (gi mem 221 34).toInt ∧ gn (ga m37 233) (gi m37 221 34).toInt = gn (ga mem 233) (gi mem 221 34).toInt)) → ¬ (v39).toInt = 0 → ∀ (x41 : Int32), x41.toInt = (9 * (gi m37 221 34).toInt) → ∀ (y43 : Int32), y43.toInt = (gn (ga m37 228) (gi m37 221 34).toInt) → ∀ (x45 : Int32), x45.toInt = ((9 * (gi m37 221 34).toInt) + (gn (ga m37 228) (gi m37 221 34).toInt)) → ∀ (v49 : Int64) (m47 : zM), aTm aT0 m47 → ((tQ m37 m47 ∧ (mS T n (freP T n Q (s.bind (cnP T n ((1 : Int) = 0)))) m47 ∧ freV T n Q (s.bind (cnP T n ((1 : Int) = 0))) v49.toInt)) ∧ ((¬ (gi m47 221 8).toInt = 0 ∨ (gi m37 221 8).toInt = 0) ∧ 0 ≤ (gi m47 221 8).toInt ∧ (gi m47 221 34).toInt = (gi m37 221 34).toInt ∧ gn (ga m47 223) (gi m47 221 34).toInt = gn (ga m37 223) (gi m37 221 34).toInt ∧ gn (ga m47 224) (gi m47 221 34).toInt = gn (ga m37 224) (gi m37 221 34).toInt ∧ gn (ga m47 228) (gi m47 221 34).toInt = gn (ga m37 228) (gi m37 221 34).toInt ∧ gn (ga m47 233) (gi m47 221 34).toInt = gn (ga m37 233) (gi m37 221 34).toInt)) → ∀ (m50 : zM), aTm aT0 m50 → ((tQ (sX m47 240 x45 v49) m50 ∧ mS T n ((freP T n Q (s.bind (cnP T n ((1 : Int) = 0)))).bind (sOwn T n 6)) m50) ∧ ((¬ (gi m50 221 8).toInt = 0 ∨ (gi m47 221 8).toInt = 0) ∧ 0 ≤ (gi m50 221 8).toInt ∧ (gi m50 221 34).toInt = (gi m47 221 34).toInt ∧ gn (ga m50 223) (gi m50 221 34).toInt = gn (ga m47 223) (gi m47 221 34).toInt ∧ gn (ga m50 224) (gi m50 221 34).toInt = gn (ga m47 224) (gi m47 221 34).toInt ∧ gn (ga m50 228) (gi m50 221 34).toInt = gn (ga m47 228) (gi m47 221 34).toInt ∧ gn (ga m50 233) (gi m50 221 34).toInt = gn (ga m47 233) (gi m47 221 34).toInt)) → ∀ (v54 : Int32) (m52 : zM), aTm aT0 m52 → ((tQ m50 m52 ∧ ((0 ≤ v54.toInt ∧ v54.toInt ≤ 63) ∧ mS T n (celP T n False Q ((freP T n Q (s.bind (cnP T n ((1 : Int) = 0)))).bind (sOwn T n 6))) m52 ∧ celV T n False Q ((freP T n Q (s.bind (cnP T n ((1 : Int) = 0)))).bind (sOwn T n 6)) v54.toInt)) ∧ ((¬ (gi m52 221 8).toInt = 0 ∨ (gi m50 221 8).toInt = 0) ∧ 0 ≤ (gi m52 221 8).toInt ∧ (gi m52 221 34).toInt = (gi m50 221 34).toInt ∧ gn (ga m52 223) (gi m52 221 34).toInt = gn (ga m50 223) (gi m50 221 34).toInt ∧ gn (ga m52 224) (gi m52 221 34).toInt = gn (ga m50 224) (gi m50 221 34).toInt ∧ gn (ga m52 228) (gi m52 221 34).toInt = gn (ga m50 228) (gi m50 221 34).toInt ∧ gn (ga m52 233) (gi m52 221 34).toInt = gn (ga m50 233) (gi m50 221 34).toInt)) → ∀ (m55 : zM), aTm aT0 m55 → ((tQ (sx m52 229 x45 v54) m55 ∧ mS T n ((celP T n False Q ((freP T n Q (s.bind (cnP T n ((1 : Int) = 0)))).bind (sOwn T n 6))).bind (sOwn T n 7)) m55) ∧ ((¬ (gi m55 221 8).toInt = 0 ∨ (gi m52 221 8).toInt = 0) ∧ 0 ≤ (gi m55 221 8).toInt ∧ (gi m55 221 34).toInt = (gi m52 221 34).toInt ∧ gn (ga m55 223) (gi m55 221 34).toInt = gn (ga m52 223) (gi m52 221 34).toInt ∧ gn (ga m55 224) (gi m55 221 34).toInt = gn (ga m52 224) (gi m52 221 34).toInt ∧ gn (ga m55 228) (gi m55 221 34).toInt = gn (ga m52 228) (gi m52 221 34).toInt ∧ gn (ga m55 233) (gi m55 221 34).toInt = gn (ga m52 233) (gi m52 221 34).toInt)) → ∀ (v59 : Int32) (m57 : zM), aTm aT0 m57 → ((tQ m55 m57 ∧ ((¬ (gi m57 221 8).toInt = 0 ∨ ((1 : Int) ≤ v59.toInt ∧ v59.toInt ≤ 9)) ∧ mS T n (nuP T n (1 : Int) 9 ((celP T n False Q ((freP T n Q (s.bind (cnP T n ((1 : Int) = 0)))).bind (sOwn T n 6))).bind (sOwn T n 7))) m57 ∧ nuV T n (1 : Int) 9 ((celP T n False Q ((freP T n Q (s.bind (cnP T n ((1 : Int) = 0)))).bind (sOwn T n 6))).bind (sOwn T n 7)) v59.toInt)) ∧ ((¬ (gi m57 221 8).toInt = 0 ∨ (gi m55 221 8).toInt = 0) ∧ 0 ≤ (gi m57 221 8).toInt ∧ (gi m57 221 34).toInt = (gi m55 221 34).toInt ∧ gn (ga m57 223) (gi m57 221 34).toInt = gn (ga m55 223) (gi m55 221 34).toInt ∧ gn (ga m57 224) (gi m57 221 34).toInt = gn (ga m55 224) (gi m55 221 34).toInt ∧ gn (ga m57 228) (gi m57 221 34).toInt = gn (ga m55 228) (gi m55 221 34).toInt ∧ gn (ga m57 233) (gi m57 221 34).toInt = gn (ga m55 233) (gi m55 221 34).toInt)) → ∀ (m60 : zM), aTm aT0 m60 → ((tQ (sx m57 230 x45 v59) m60 ∧ mS T n ((nuP T n (1 : Int) 9 ((celP T n False Q ((freP T n Q (s.bind (cnP T n ((1 : Int) = 0)))).bind (sOwn T n 6))).bind (sOwn T n 7))).bind (sOwn T n 8)) m60) ∧ ((¬ (gi m60 221 8).toInt = 0 ∨ (gi m57 221 8).toInt = 0) ∧ 0 ≤ (gi m60 221 8).toInt ∧ (gi m60 221 34).toInt = (gi m57 221 34).toInt ∧ gn (ga m60 223) (gi m60 221 34).toInt = gn (ga m57 223) (gi m57 221 34).toInt ∧ gn (ga m60 224) (gi m60 221 34).toInt = gn (ga m57 224) (gi m57 221 34).toInt ∧ gn (ga m60 228) (gi m60 221 34).toInt = gn (ga m57 228) (gi m57 221 34).toInt ∧ gn (ga m60 233) (gi m60 221 34).toInt = gn (ga m57 233) (gi m57 221 34).toInt)) → ∀ (v64 : Int32) (m62 : zM), aTm aT0 m62 → ((tQ m60 m62 ∧ ((¬ (gi m62 221 8).toInt = 0 ∨ ((0 : Int) ≤ v64.toInt ∧ v64.toInt ≤ 9)) ∧ mS T n (nuP T n (0 : Int) 9 ((nuP T n (1 : Int) 9 ((celP T n False Q ((freP T n Q (s.bind (cnP T n ((1 : Int) = 0)))).bind (sOwn T n 6))).bind (sOwn T n 7))).bind (sOwn T n 8))) m62 ∧ nuV T n (0 : Int) 9 ((nuP T n (1 : Int) 9 ((celP T n False Q ((freP T n Q (s.bind (cnP T n ((1 : Int) = 0)))).bind (sOwn T n 6))).bind (sOwn T n 7))).bind (sOwn T n 8)) v64.toInt)) ∧ ((¬ (gi m62 221 8).toInt = 0 ∨ (gi m60 221 8).toInt = 0) ∧ 0 ≤ (gi m62 221 8).toInt ∧ (gi m62 221 34).toInt = (gi m60 221 34).toInt ∧ gn (ga m62 223) (gi m62 221 34).toInt = gn (ga m60 223) (gi m60 221 34).toInt ∧ gn (ga m62 224) (gi m62 221 34).toInt = gn (ga m60 224) (gi m60 221 34).toInt ∧ gn (ga m62 228) (gi m62 221 34).toInt = gn (ga m60 228) (gi m60 221 34).toInt ∧ gn (ga m62 233) (gi m62 221 34).toInt = gn (ga m60 233) (gi m60 221 34).toInt)) → ¬ (gi m62 221 8).toInt = 0 → aTm aT0 (sx m62 231 x45 v64) → P none (sx m62 231 x45 v64)) (h5 : ∀ (y1 : Int32), y1.toInt = (gn (ga mem 228) (gi mem 221 34).toInt) → (gn (ga mem 228) (gi mem 221 34).toInt) = 9 → ∀ (v39 : Int32) (m37 : zM), aTm aT0 m37 → ((tQ mem m37 ∧ (mS T n (s.bind (cnP T n ((1 : Int) = 0))) m37 ∧ ((v39.toInt = 0 ∧ 1 ≤ (gi m37 221 8).toInt) ∨ (¬ v39.toInt = 0 ∧ (gi m37 221 8).toInt = 0 ∧ (1 : Int) = 0)))) ∧ ((¬ (gi m37 221 8).toInt = 0 ∨ (gi mem 221 8).toInt = 0) ∧ 0 ≤ (gi m37 221 8).toInt ∧ (gi m37 221 34).toInt = (gi mem 221 34).toInt ∧ gn (ga m37 223) (gi m37 221 34).toInt = gn (ga mem 223) (gi mem 221 34).toInt ∧ gn (ga m37 224) (gi m37 221 34).toInt = gn (ga mem 224) (gi mem 221 34).toInt ∧ gn (ga m37 228) (gi m37 221 34).toInt = gn (ga mem 228) (gi mem 221 34).toInt ∧ gn (ga m37 233) (gi m37 221 34).toInt = gn (ga mem 233) (gi mem 221 34).toInt)) → ¬ (v39).toInt = 0 → ∀ (x41 : Int32), x41.toInt = (9 * (gi m37 221 34).toInt) → ∀ (y43 : Int32), y43.toInt = (gn (ga m37 228) (gi m37 221 34).toInt) → ∀ (x45 : Int32), x45.toInt = ((9 * (gi m37 221 34).toInt) + (gn (ga m37 228) (gi m37 221 34).toInt)) → ∀ (v49 : Int64) (m47 : zM), aTm aT0 m47 → ((tQ m37 m47 ∧ (mS T n (freP T n Q (s.bind (cnP T n ((1 : Int) = 0)))) m47 ∧ freV T n Q (s.bind (cnP T n ((1 : Int) = 0))) v49.toInt)) ∧ ((¬ (gi m47 221 8).toInt = 0 ∨ (gi m37 221 8).toInt = 0) ∧ 0 ≤ (gi m47 221 8).toInt ∧ (gi m47 221 34).toInt = (gi m37 221 34).toInt ∧ gn (ga m47 223) (gi m47 221 34).toInt = gn (ga m37 223) (gi m37 221 34).toInt ∧ gn (ga m47 224) (gi m47 221 34).toInt = gn (ga m37 224) (gi m37 221 34).toInt ∧ gn (ga m47 228) (gi m47 221 34).toInt = gn (ga m37 228) (gi m37 221 34).toInt ∧ gn (ga m47 233) (gi m47 221 34).toInt = gn (ga m37 233) (gi m37 221 34).toInt)) → ∀ (m50 : zM), aTm aT0 m50 → ((tQ (sX m47 240 x45 v49) m50 ∧ mS T n ((freP T n Q (s.bind (cnP T n ((1 : Int) = 0)))).bind (sOwn T n 6)) m50) ∧ ((¬ (gi m50 221 8).toInt = 0 ∨ (gi m47 221 8).toInt = 0) ∧ 0 ≤ (gi m50 221 8).toInt ∧ (gi m50 221 34).toInt = (gi m47 221 34).toInt ∧ gn (ga m50 223) (gi m50 221 34).toInt = gn (ga m47 223) (gi m47 221 34).toInt ∧ gn (ga m50 224) (gi m50 221 34).toInt = gn (ga m47 224) (gi m47 221 34).toInt ∧ gn (ga m50 228) (gi m50 221 34).toInt = gn (ga m47 228) (gi m47 221 34).toInt ∧ gn (ga m50 233) (gi m50 221 34).toInt = gn (ga m47 233) (gi m47 221 34).toInt)) → ∀ (v54 : Int32) (m52 : zM), aTm aT0 m52 → ((tQ m50 m52 ∧ ((0 ≤ v54.toInt ∧ v54.toInt ≤ 63) ∧ mS T n (celP T n False Q ((freP T n Q (s.bind (cnP T n ((1 : Int) = 0)))).bind (sOwn T n 6))) m52 ∧ celV T n False Q ((freP T n Q (s.bind (cnP T n ((1 : Int) = 0)))).bind (sOwn T n 6)) v54.toInt)) ∧ ((¬ (gi m52 221 8).toInt = 0 ∨ (gi m50 221 8).toInt = 0) ∧ 0 ≤ (gi m52 221 8).toInt ∧ (gi m52 221 34).toInt = (gi m50 221 34).toInt ∧ gn (ga m52 223) (gi m52 221 34).toInt = gn (ga m50 223) (gi m50 221 34).toInt ∧ gn (ga m52 224) (gi m52 221 34).toInt = gn (ga m50 224) (gi m50 221 34).toInt ∧ gn (ga m52 228) (gi m52 221 34).toInt = gn (ga m50 228) (gi m50 221 34).toInt ∧ gn (ga m52 233) (gi m52 221 34).toInt = gn (ga m50 233) (gi m50 221 34).toInt)) → ∀ (m55 : zM), aTm aT0 m55 → ((tQ (sx m52 229 x45 v54) m55 ∧ mS T n ((celP T n False Q ((freP T n Q (s.bind (cnP T n ((1 : Int) = 0)))).bind (sOwn T n 6))).bind (sOwn T n 7)) m55) ∧ ((¬ (gi m55 221 8).toInt = 0 ∨ (gi m52 221 8).toInt = 0) ∧ 0 ≤ (gi m55 221 8).toInt ∧ (gi m55 221 34).toInt = (gi m52 221 34).toInt ∧ gn (ga m55 223) (gi m55 221 34).toInt = gn (ga m52 223) (gi m52 221 34).toInt ∧ gn (ga m55 224) (gi m55 221 34).toInt = gn (ga m52 224) (gi m52 221 34).toInt ∧ gn (ga m55 228) (gi m55 221 34).toInt = gn (ga m52 228) (gi m52 221 34).toInt ∧ gn (ga m55 233) (gi m55 221 34).toInt = gn (ga m52 233) (gi m52 221 34).toInt)) → ∀ (v59 : Int32) (m57 : zM), aTm aT0 m57 → ((tQ m55 m57 ∧ ((¬ (gi m57 221 8).toInt = 0 ∨ ((1 : Int) ≤ v59.toInt ∧ v59.toInt ≤ 9)) ∧ mS T n (nuP T n (1 : Int) 9 ((celP T n False Q ((freP T n Q (s.bind (cnP T n ((1 : Int) = 0)))).bind (sOwn T n 6))).bind (sOwn T n 7))) m57 ∧ nuV T n (1 : Int) 9 ((celP T n False Q ((freP T n Q (s.bind (cnP T n ((1 : Int) = 0)))).bind (sOwn T n 6))).bind (sOwn T n 7)) v59.toInt)) ∧ ((¬ (gi m57 221 8).toInt = 0 ∨ (gi m55 221 8).toInt = 0) ∧ 0 ≤ (gi m57 221 8).toInt ∧ (gi m57 221 34).toInt = (gi m55 221 34).toInt ∧ gn (ga m57 223) (gi m57 221 34).toInt = gn (ga m55 223) (gi m55 221 34).toInt ∧ gn (ga m57 224) (gi m57 221 34).toInt = gn (ga m55 224) (gi m55 221 34).toInt ∧ gn (ga m57 228) (gi m57 221 34).toInt = gn (ga m55 228) (gi m55 221 34).toInt ∧ gn (ga m57 233) (gi m57 221 34).toInt = gn (ga m55 233) (gi m55 221 34).toInt)) → ∀ (m60 : zM), aTm aT0 m60 → ((tQ (sx m57 230 x45 v59) m60 ∧ mS T n ((nuP T n (1 : Int) 9 ((celP T n False Q ((freP T n Q (s.bind (cnP T n ((1 : Int) = 0)))).bind (sOwn T n 6))).bind (sOwn T n 7))).bind (sOwn T n 8)) m60) ∧ ((¬ (gi m60 221 8).toInt = 0 ∨ (gi m57 221 8).toInt = 0) ∧ 0 ≤ (gi m60 221 8).toInt ∧ (gi m60 221 34).toInt = (gi m57 221 34).toInt ∧ gn (ga m60 223) (gi m60 221 34).toInt = gn (ga m57 223) (gi m57 221 34).toInt ∧ gn (ga m60 224) (gi m60 221 34).toInt = gn (ga m57 224) (gi m57 221 34).toInt ∧ gn (ga m60 228) (gi m60 221 34).toInt = gn (ga m57 228) (gi m57 221 34).toInt ∧ gn (ga m60 233) (gi m60 221 34).toInt = gn (ga m57 233) (gi m57 221 34).toInt)) → ∀ (v64 : Int32) (m62 : zM), aTm aT0 m62 → ((tQ m60 m62 ∧ ((¬ (gi m62 221 8).toInt = 0 ∨ ((0 : Int) ≤ v64.toInt ∧ v64.toInt ≤ 9)) ∧ mS T n (nuP T n (0 : Int) 9 ((nuP T n (1 : Int) 9 ((celP T n False Q ((freP T n Q (s.bind (cnP T n ((1 : Int) = 0)))).bind (sOwn T n 6))).bind (sOwn T n 7))).bind (sOwn T n 8))) m62 ∧ nuV T n (0 : Int) 9 ((nuP T n (1 : Int) 9 ((celP T n False Q ((freP T n Q (s.bind (cnP T n ((1 : Int) = 0)))).bind (sOwn T n 6))).bind (sOwn T n 7))).bind (sOwn T n 8)) v64.toInt)) ∧ ((¬ (gi m62 221 8).toInt = 0 ∨ (gi m60 221 8).toInt = 0) ∧ 0 ≤ (gi m62 221 8).toInt ∧ (gi m62 221 34).toInt = (gi m60 221 34).toInt ∧ gn (ga m62 223) (gi m62 221 34).toInt = gn (ga m60 223) (gi m60 221 34).toInt ∧ gn (ga m62 224) (gi m62 221 34).toInt = gn (ga m60 224) (gi m60 221 34).toInt ∧ gn (ga m62 228) (gi m62 221 34).toInt = gn (ga m60 228) (gi m60 221 34).toInt ∧ gn (ga m62 233) (gi m62 221 34).toInt = gn (ga m60 233) (gi m60 221 34).toInt)) → (gi m62 221 8).toInt = 0 → ∀ (y66 : Int32), y66.toInt = (gn (ga m62 228) (gi m62 221 34).toInt) → ∀ (x68 : Int32), x68.toInt = ((gn (ga m62 228) (gi m62 221 34).toInt) + 1) → aTm aT0 (sx (sx m62 231 x45 v64) 228 (gi m62 221 34) x68) → P none (sx (sx m62 231 x45 v64) 228 (gi m62 221 34) x68)) (h6 : ∀ (y1 : Int32), y1.toInt = (gn (ga mem 228) (gi mem 221 34).toInt) → (gn (ga mem 228) (gi mem 221 34).toInt) = 9 → ∀ (v39 : Int32) (m37 : zM), aTm aT0 m37 → ((tQ mem m37 ∧ (mS T n (s.bind (cnP T n ((1 : Int) = 0))) m37 ∧ ((v39.toInt = 0 ∧ 1 ≤ (gi m37 221 8).toInt) ∨ (¬ v39.toInt = 0 ∧ (gi m37 221 8).toInt = 0 ∧ (1 : Int) = 0)))) ∧ ((¬ (gi m37 221 8).toInt = 0 ∨ (gi mem 221 8).toInt = 0) ∧ 0 ≤ (gi m37 221 8).toInt ∧ (gi m37 221 34).toInt = (gi mem 221 34).toInt ∧ gn (ga m37 223) (gi m37 221 34).toInt = gn (ga mem 223) (gi mem 221 34).toInt ∧ gn (ga m37 224) (gi m37 221 34).toInt = gn (ga mem 224) (gi mem 221 34).toInt ∧ gn (ga m37 228) (gi m37 221 34).toInt = gn (ga mem 228) (gi mem 221 34).toInt ∧ gn (ga m37 233) (gi m37 221 34).toInt = gn (ga mem 233) (gi mem 221 34).toInt)) → (v39).toInt = 0 → aTm aT0 m37 → P none m37) : yR zpg tX12_lacking (d + 5) (0, [(0, .ref 221)], [], mem) P := by
  obtain ⟨i0, i1⟩ := mO_r34 hm
  have hb01 : 0 ≤ b ∧ b ≤ 1 := by omega
  have th := gR_228 hm (i := (gi mem 221 34).toInt) i0 (by omega)
  have fki := gR_233 hm (i := (gi mem 221 34).toInt) i0 (by omega)
  have tl : gn (ga mem 228) (gi mem 221 34).toInt = ((Qt Q).length : Int) := by rw [hb]; exact hQ.2.2.1.1
  have fl : gn (ga mem 233) (gi mem 221 34).toInt = ((Qf Q).length : Int) := by rw [hb]; exact hQ.2.2.2.2.1.1
  refine yR_m 2 (fun _ _ _ _ => rfl) ?_
  refine wR_gr rfl mO_e mO_19 hm ?_
  refine yR_m 1 (fun _ _ _ _ => rfl) ?_
  refine wR_gi rfl mO_e mO_34 hm rfl ?_
  refine wN_al (a := (gi mem 221 34).toInt) rfl aR_228 hm rfl rfl (by omega) (fun y1 e2 => ?_)
  refine yR_m 1 (fun _ _ _ _ => rfl) ?_
  refine wR_ic_ne rfl (a := (gn (ga mem 228) (gi mem 221 34).toInt)) (c := 9) e2 rfl (fun q3 => ?_) (fun q3 => ?_)
  ·
    refine yR_m 1 (fun _ _ _ _ => rfl) ?_
    refine wR_cv rfl rfl mO_e hm rfl (pk_i (h_cy (b8 := (gi mem 221 8).toInt) rfl rfl rfl rfl rfl rfl rfl (fun _ _ q => by obtain ⟨_, _, _, q⟩ := q; exact q.1) (h_cnS (T := T) (n := n) (ci := (0 : Int)) rfl hm hT sg hS (by omega)))) ?_
    rintro _ m4 ⟨v6, rfl, hm4, k5⟩
    show yR zpg tX12_lacking (d + 5) (23, [(0, .ref 221)], [.int v6], m4) _
    refine wR_if_ne rfl (a := (v6).toInt) rfl (fun q7 => ?_) (fun q7 => ?_)
    ·
      refine yR_m 2 (fun _ _ _ _ => rfl) ?_
      refine wR_gi rfl mO_e mO_34 hm4 rfl ?_
      refine wN_mul (a := 9) (b := (gi m4 221 34).toInt) rfl rfl rfl (by omega) (fun x8 e9 => ?_)
      refine yR_m 1 (fun _ _ _ _ => rfl) ?_
      refine wR_gr rfl mO_e mO_19 hm4 ?_
      refine yR_m 1 (fun _ _ _ _ => rfl) ?_
      refine wR_gi rfl mO_e mO_34 hm4 rfl ?_
      refine wN_al (a := (gi m4 221 34).toInt) rfl aR_228 hm4 rfl rfl (by omega) (fun y10 e11 => ?_)
      refine wN_add (a := (9 * (gi m4 221 34).toInt)) (b := (gn (ga m4 228) (gi m4 221 34).toInt)) rfl e9 e11 (by omega) (fun x12 e13 => ?_)
      refine yR_m 2 (fun _ _ _ _ => rfl) ?_
      refine wR_gr rfl mO_e mO_31 hm4 ?_
      refine yR_m 2 (fun _ _ _ _ => rfl) ?_
      refine wR_cv rfl rfl mO_e hm4 rfl (pk_l (h_cy (b8 := (gi m4 221 8).toInt) rfl rfl rfl rfl rfl rfl rfl (fun _ _ q => by obtain ⟨_, _, _, q⟩ := q; exact q.1) (h_frS5 (T := T) (n := n) (b := b) (Q := Q) hm4 k5.1.1.2.1 (by omega) (mQ_fr k5.1.1.1 hQ) k5.1.2.1 (by omega)))) ?_
      rintro _ m14 ⟨v16, rfl, hm14, k15⟩
      show yR zpg tX12_lacking (d + 5) (54, [(1, .int x12), (0, .ref 221)], [.long v16, .int x12, .ref 240], m14) _
      refine wN_las (a := ((9 * (gi m4 221 34).toInt) + (gn (ga m4 228) (gi m4 221 34).toInt))) rfl aR_240 hm14 e13 (by omega) ?_
      have hm_1 : aTm aT0 (sX m14 240 x12 v16) := tm_sA aR_240 hm14
      refine yR_m 2 (fun _ _ _ _ => rfl) ?_
      refine wR_cv rfl rfl mO_e hm_1 rfl (pk_v (h_cy (b8 := (gi m14 221 8).toInt) rfl (gi_sA) (gi_sA) ((ga_sA)) ((ga_sA)) ((ga_sA)) ((ga_sA)) (fun _ _ q => q.2.2.1) (h_mustWS (T := T) (n := n) (k := 6) (by decide) (by decide) hm_1 (tOK_fr (ks := [223, 224, 225, 226, 227, 228, 229, 230, 231, 232, 233, 234, 235, 236, 237, 240, 241]) (is := [8, 9]) (fr_sA rfl (fr_rf)) rfl rfl rfl rfl (by show 0 ≤ (gi (sX m14 240 x12 v16) 221 8).toInt; rw [(gi_sA)]; exact k15.1.1.2.1.2) k15.1.1.2.1) (mS_sA k15.1.2.1) (by omega)))) ?_
      rintro _ m17 ⟨rfl, hI17, k18⟩
      show yR zpg tX12_lacking (d + 5) (62, [(1, .int x12), (0, .ref 221)], [], m17) _
      refine yR_m 1 (fun _ _ _ _ => rfl) ?_
      refine wR_gr rfl mO_e mO_20 hI17 ?_
      refine yR_m 3 (fun _ _ _ _ => rfl) ?_
      refine wR_cv rfl rfl mO_e hI17 rfl (pk_i (h_cy (b8 := (gi m17 221 8).toInt) rfl rfl rfl rfl rfl rfl rfl (fun _ _ q => by obtain ⟨_, _, _, q⟩ := q; exact q.1) (h_ceS (T := T) (n := n) (b := b) (Q := Q) (wl := False) (by simp) hI17 k18.1.1.2.1 (by omega) (mQ_fr k18.1.1.1 (mQ_240 hm14 hb01 (by omega) (by omega) (mQ_fr k15.1.1.1 (mQ_fr k5.1.1.1 hQ)))) hq k18.1.2 (by omega)))) ?_
      rintro _ m19 ⟨v21, rfl, hm19, k20⟩
      show yR zpg tX12_lacking (d + 5) (72, [(1, .int x12), (0, .ref 221)], [.int v21, .int x12, .ref 229], m19) _
      refine wN_as (a := ((9 * (gi m4 221 34).toInt) + (gn (ga m4 228) (gi m4 221 34).toInt))) rfl aR_229 hm19 e13 (by omega) ?_
      have hm_2 : aTm aT0 (sx m19 229 x12 v21) := tm_sa aR_229 hm19 (by omega)
      refine yR_m 2 (fun _ _ _ _ => rfl) ?_
      refine wR_cv rfl rfl mO_e hm_2 rfl (pk_v (h_cy (b8 := (gi m19 221 8).toInt) rfl (gi_sa) (gi_sa) ((ga_sa_ne (by decide))) ((ga_sa_ne (by decide))) ((ga_sa_ne (by decide))) ((ga_sa_ne (by decide))) (fun _ _ q => q.2.2.1) (h_mustWS (T := T) (n := n) (k := 7) (by decide) (by decide) hm_2 (tOK_fr (ks := [223, 224, 225, 226, 227, 228, 229, 230, 231, 232, 233, 234, 235, 236, 237, 240, 241]) (is := [8, 9]) (fr_sa rfl (fr_rf)) rfl rfl rfl rfl (by show 0 ≤ (gi (sx m19 229 x12 v21) 221 8).toInt; rw [(gi_sa)]; exact k20.1.1.2.1.2) k20.1.1.2.1) (mS_sa (by decide) k20.1.2.2.1) (by omega)))) ?_
      rintro _ m22 ⟨rfl, hI22, k23⟩
      show yR zpg tX12_lacking (d + 5) (80, [(1, .int x12), (0, .ref 221)], [], m22) _
      refine yR_m 1 (fun _ _ _ _ => rfl) ?_
      refine wR_gr rfl mO_e mO_21 hI22 ?_
      refine yR_m 4 (fun _ _ _ _ => rfl) ?_
      refine wR_cv rfl rfl mO_e hI22 rfl (pk_i (h_cy (b8 := (gi m22 221 8).toInt) rfl rfl rfl rfl rfl rfl rfl (fun _ _ q => by obtain ⟨_, _, _, q⟩ := q; exact q.1) (h_numS5 (T := T) (n := n) (ai := (1 : Int)) (bi := 9) rfl rfl hI22 k23.1.1.2.1 k23.1.2 (by omega)))) ?_
      rintro _ m24 ⟨v26, rfl, hm24, k25⟩
      show yR zpg tX12_lacking (d + 5) (92, [(1, .int x12), (0, .ref 221)], [.int v26, .int x12, .ref 230], m24) _
      refine wN_as (a := ((9 * (gi m4 221 34).toInt) + (gn (ga m4 228) (gi m4 221 34).toInt))) rfl aR_230 hm24 e13 (by omega) ?_
      have hm_3 : aTm aT0 (sx m24 230 x12 v26) := tm_sa aR_230 hm24 (i32_b _)
      refine yR_m 2 (fun _ _ _ _ => rfl) ?_
      refine wR_cv rfl rfl mO_e hm_3 rfl (pk_v (h_cy (b8 := (gi m24 221 8).toInt) rfl (gi_sa) (gi_sa) ((ga_sa_ne (by decide))) ((ga_sa_ne (by decide))) ((ga_sa_ne (by decide))) ((ga_sa_ne (by decide))) (fun _ _ q => q.2.2.1) (h_mustWS (T := T) (n := n) (k := 8) (by decide) (by decide) hm_3 (tOK_fr (ks := [223, 224, 225, 226, 227, 228, 229, 230, 231, 232, 233, 234, 235, 236, 237, 240, 241]) (is := [8, 9]) (fr_sa rfl (fr_rf)) rfl rfl rfl rfl (by show 0 ≤ (gi (sx m24 230 x12 v26) 221 8).toInt; rw [(gi_sa)]; exact k25.1.1.2.1.2) k25.1.1.2.1) (mS_sa (by decide) k25.1.2.2.1) (by omega)))) ?_
      rintro _ m27 ⟨rfl, hI27, k28⟩
      show yR zpg tX12_lacking (d + 5) (100, [(1, .int x12), (0, .ref 221)], [], m27) _
      refine yR_m 1 (fun _ _ _ _ => rfl) ?_
      refine wR_gr rfl mO_e mO_22 hI27 ?_
      refine yR_m 4 (fun _ _ _ _ => rfl) ?_
      refine wR_cv rfl rfl mO_e hI27 rfl (pk_i (h_cy (b8 := (gi m27 221 8).toInt) rfl rfl rfl rfl rfl rfl rfl (fun _ _ q => by obtain ⟨_, _, _, q⟩ := q; exact q.1) (h_numS5 (T := T) (n := n) (ai := (0 : Int)) (bi := 9) rfl rfl hI27 k28.1.1.2.1 k28.1.2 (by omega)))) ?_
      rintro _ m29 ⟨v31, rfl, hm29, k30⟩
      show yR zpg tX12_lacking (d + 5) (112, [(1, .int x12), (0, .ref 221)], [.int v31, .int x12, .ref 231], m29) _
      refine wN_as (a := ((9 * (gi m4 221 34).toInt) + (gn (ga m4 228) (gi m4 221 34).toInt))) rfl aR_231 hm29 e13 (by omega) ?_
      have hm_4 : aTm aT0 (sx m29 231 x12 v31) := tm_sa aR_231 hm29 (i32_b _)
      refine yR_m 1 (fun _ _ _ _ => rfl) ?_
      refine wR_gi rfl mO_e mO_8 hm_4 (gi_sa) ?_
      refine wR_if_ne rfl (a := (gi m29 221 8).toInt) rfl (fun q32 => ?_) (fun q32 => ?_)
      ·
        exact yR_rv rfl (h1 y1 e2 q3 v6 m4 hm4 k5 q7 x8 e9 y10 e11 x12 e13 v16 m14 hm14 k15 m17 hI17 k18 v21 m19 hm19 k20 m22 hI22 k23 v26 m24 hm24 k25 m27 hI27 k28 v31 m29 hm29 k30 q32 hm_4)
      ·
        refine yR_m 1 (fun _ _ _ _ => rfl) ?_
        refine wR_gr rfl mO_e mO_19 hm_4 ?_
        refine yR_m 1 (fun _ _ _ _ => rfl) ?_
        refine wR_gi rfl mO_e mO_34 hm_4 (gi_sa) ?_
        refine yR_m 1 (fun _ _ _ _ => rfl) ?_
        refine wN_al (a := (gi m29 221 34).toInt) rfl aR_228 hm_4 (ga_sa_ne (by decide)) rfl (by omega) (fun y33 e34 => ?_)
        refine yR_m 1 (fun _ _ _ _ => rfl) ?_
        refine wN_add (a := (gn (ga m29 228) (gi m29 221 34).toInt)) (b := 1) rfl e34 rfl (by omega) (fun x35 e36 => ?_)
        refine wN_as (a := (gi m29 221 34).toInt) rfl aR_228 hm_4 rfl (by omega) ?_
        have hm_5 : aTm aT0 (sx (sx m29 231 x12 v31) 228 (gi m29 221 34) x35) := tm_sa aR_228 hm_4 (by rw [e36]; exact (by omega))
        exact yR_rv rfl (h2 y1 e2 q3 v6 m4 hm4 k5 q7 x8 e9 y10 e11 x12 e13 v16 m14 hm14 k15 m17 hI17 k18 v21 m19 hm19 k20 m22 hI22 k23 v26 m24 hm24 k25 m27 hI27 k28 v31 m29 hm29 k30 q32 y33 e34 x35 e36 hm_5)
    ·
      exact yR_rv rfl (h3 y1 e2 q3 v6 m4 hm4 k5 q7 hm4)
  ·
    refine yR_m 2 (fun _ _ _ _ => rfl) ?_
    refine wR_cv rfl rfl mO_e hm rfl (pk_i (h_cy (b8 := (gi mem 221 8).toInt) rfl rfl rfl rfl rfl rfl rfl (fun _ _ q => by obtain ⟨_, _, _, q⟩ := q; exact q.1) (h_cnS (T := T) (n := n) (ci := (1 : Int)) rfl hm hT sg hS (by omega)))) ?_
    rintro _ m37 ⟨v39, rfl, hm37, k38⟩
    show yR zpg tX12_lacking (d + 5) (23, [(0, .ref 221)], [.int v39], m37) _
    refine wR_if_ne rfl (a := (v39).toInt) rfl (fun q40 => ?_) (fun q40 => ?_)
    ·
      refine yR_m 2 (fun _ _ _ _ => rfl) ?_
      refine wR_gi rfl mO_e mO_34 hm37 rfl ?_
      refine wN_mul (a := 9) (b := (gi m37 221 34).toInt) rfl rfl rfl (by omega) (fun x41 e42 => ?_)
      refine yR_m 1 (fun _ _ _ _ => rfl) ?_
      refine wR_gr rfl mO_e mO_19 hm37 ?_
      refine yR_m 1 (fun _ _ _ _ => rfl) ?_
      refine wR_gi rfl mO_e mO_34 hm37 rfl ?_
      refine wN_al (a := (gi m37 221 34).toInt) rfl aR_228 hm37 rfl rfl (by omega) (fun y43 e44 => ?_)
      refine wN_add (a := (9 * (gi m37 221 34).toInt)) (b := (gn (ga m37 228) (gi m37 221 34).toInt)) rfl e42 e44 (by omega) (fun x45 e46 => ?_)
      refine yR_m 2 (fun _ _ _ _ => rfl) ?_
      refine wR_gr rfl mO_e mO_31 hm37 ?_
      refine yR_m 2 (fun _ _ _ _ => rfl) ?_
      refine wR_cv rfl rfl mO_e hm37 rfl (pk_l (h_cy (b8 := (gi m37 221 8).toInt) rfl rfl rfl rfl rfl rfl rfl (fun _ _ q => by obtain ⟨_, _, _, q⟩ := q; exact q.1) (h_frS5 (T := T) (n := n) (b := b) (Q := Q) hm37 k38.1.1.2.1 (by omega) (mQ_fr k38.1.1.1 hQ) k38.1.2.1 (by omega)))) ?_
      rintro _ m47 ⟨v49, rfl, hm47, k48⟩
      show yR zpg tX12_lacking (d + 5) (54, [(1, .int x45), (0, .ref 221)], [.long v49, .int x45, .ref 240], m47) _
      refine wN_las (a := ((9 * (gi m37 221 34).toInt) + (gn (ga m37 228) (gi m37 221 34).toInt))) rfl aR_240 hm47 e46 (by omega) ?_
      have hm_6 : aTm aT0 (sX m47 240 x45 v49) := tm_sA aR_240 hm47
      refine yR_m 2 (fun _ _ _ _ => rfl) ?_
      refine wR_cv rfl rfl mO_e hm_6 rfl (pk_v (h_cy (b8 := (gi m47 221 8).toInt) rfl (gi_sA) (gi_sA) ((ga_sA)) ((ga_sA)) ((ga_sA)) ((ga_sA)) (fun _ _ q => q.2.2.1) (h_mustWS (T := T) (n := n) (k := 6) (by decide) (by decide) hm_6 (tOK_fr (ks := [223, 224, 225, 226, 227, 228, 229, 230, 231, 232, 233, 234, 235, 236, 237, 240, 241]) (is := [8, 9]) (fr_sA rfl (fr_rf)) rfl rfl rfl rfl (by show 0 ≤ (gi (sX m47 240 x45 v49) 221 8).toInt; rw [(gi_sA)]; exact k48.1.1.2.1.2) k48.1.1.2.1) (mS_sA k48.1.2.1) (by omega)))) ?_
      rintro _ m50 ⟨rfl, hI50, k51⟩
      show yR zpg tX12_lacking (d + 5) (62, [(1, .int x45), (0, .ref 221)], [], m50) _
      refine yR_m 1 (fun _ _ _ _ => rfl) ?_
      refine wR_gr rfl mO_e mO_20 hI50 ?_
      refine yR_m 3 (fun _ _ _ _ => rfl) ?_
      refine wR_cv rfl rfl mO_e hI50 rfl (pk_i (h_cy (b8 := (gi m50 221 8).toInt) rfl rfl rfl rfl rfl rfl rfl (fun _ _ q => by obtain ⟨_, _, _, q⟩ := q; exact q.1) (h_ceS (T := T) (n := n) (b := b) (Q := Q) (wl := False) (by simp) hI50 k51.1.1.2.1 (by omega) (mQ_fr k51.1.1.1 (mQ_240 hm47 hb01 (by omega) (by omega) (mQ_fr k48.1.1.1 (mQ_fr k38.1.1.1 hQ)))) hq k51.1.2 (by omega)))) ?_
      rintro _ m52 ⟨v54, rfl, hm52, k53⟩
      show yR zpg tX12_lacking (d + 5) (72, [(1, .int x45), (0, .ref 221)], [.int v54, .int x45, .ref 229], m52) _
      refine wN_as (a := ((9 * (gi m37 221 34).toInt) + (gn (ga m37 228) (gi m37 221 34).toInt))) rfl aR_229 hm52 e46 (by omega) ?_
      have hm_7 : aTm aT0 (sx m52 229 x45 v54) := tm_sa aR_229 hm52 (by omega)
      refine yR_m 2 (fun _ _ _ _ => rfl) ?_
      refine wR_cv rfl rfl mO_e hm_7 rfl (pk_v (h_cy (b8 := (gi m52 221 8).toInt) rfl (gi_sa) (gi_sa) ((ga_sa_ne (by decide))) ((ga_sa_ne (by decide))) ((ga_sa_ne (by decide))) ((ga_sa_ne (by decide))) (fun _ _ q => q.2.2.1) (h_mustWS (T := T) (n := n) (k := 7) (by decide) (by decide) hm_7 (tOK_fr (ks := [223, 224, 225, 226, 227, 228, 229, 230, 231, 232, 233, 234, 235, 236, 237, 240, 241]) (is := [8, 9]) (fr_sa rfl (fr_rf)) rfl rfl rfl rfl (by show 0 ≤ (gi (sx m52 229 x45 v54) 221 8).toInt; rw [(gi_sa)]; exact k53.1.1.2.1.2) k53.1.1.2.1) (mS_sa (by decide) k53.1.2.2.1) (by omega)))) ?_
      rintro _ m55 ⟨rfl, hI55, k56⟩
      show yR zpg tX12_lacking (d + 5) (80, [(1, .int x45), (0, .ref 221)], [], m55) _
      refine yR_m 1 (fun _ _ _ _ => rfl) ?_
      refine wR_gr rfl mO_e mO_21 hI55 ?_
      refine yR_m 4 (fun _ _ _ _ => rfl) ?_
      refine wR_cv rfl rfl mO_e hI55 rfl (pk_i (h_cy (b8 := (gi m55 221 8).toInt) rfl rfl rfl rfl rfl rfl rfl (fun _ _ q => by obtain ⟨_, _, _, q⟩ := q; exact q.1) (h_numS5 (T := T) (n := n) (ai := (1 : Int)) (bi := 9) rfl rfl hI55 k56.1.1.2.1 k56.1.2 (by omega)))) ?_
      rintro _ m57 ⟨v59, rfl, hm57, k58⟩
      show yR zpg tX12_lacking (d + 5) (92, [(1, .int x45), (0, .ref 221)], [.int v59, .int x45, .ref 230], m57) _
      refine wN_as (a := ((9 * (gi m37 221 34).toInt) + (gn (ga m37 228) (gi m37 221 34).toInt))) rfl aR_230 hm57 e46 (by omega) ?_
      have hm_8 : aTm aT0 (sx m57 230 x45 v59) := tm_sa aR_230 hm57 (i32_b _)
      refine yR_m 2 (fun _ _ _ _ => rfl) ?_
      refine wR_cv rfl rfl mO_e hm_8 rfl (pk_v (h_cy (b8 := (gi m57 221 8).toInt) rfl (gi_sa) (gi_sa) ((ga_sa_ne (by decide))) ((ga_sa_ne (by decide))) ((ga_sa_ne (by decide))) ((ga_sa_ne (by decide))) (fun _ _ q => q.2.2.1) (h_mustWS (T := T) (n := n) (k := 8) (by decide) (by decide) hm_8 (tOK_fr (ks := [223, 224, 225, 226, 227, 228, 229, 230, 231, 232, 233, 234, 235, 236, 237, 240, 241]) (is := [8, 9]) (fr_sa rfl (fr_rf)) rfl rfl rfl rfl (by show 0 ≤ (gi (sx m57 230 x45 v59) 221 8).toInt; rw [(gi_sa)]; exact k58.1.1.2.1.2) k58.1.1.2.1) (mS_sa (by decide) k58.1.2.2.1) (by omega)))) ?_
      rintro _ m60 ⟨rfl, hI60, k61⟩
      show yR zpg tX12_lacking (d + 5) (100, [(1, .int x45), (0, .ref 221)], [], m60) _
      refine yR_m 1 (fun _ _ _ _ => rfl) ?_
      refine wR_gr rfl mO_e mO_22 hI60 ?_
      refine yR_m 4 (fun _ _ _ _ => rfl) ?_
      refine wR_cv rfl rfl mO_e hI60 rfl (pk_i (h_cy (b8 := (gi m60 221 8).toInt) rfl rfl rfl rfl rfl rfl rfl (fun _ _ q => by obtain ⟨_, _, _, q⟩ := q; exact q.1) (h_numS5 (T := T) (n := n) (ai := (0 : Int)) (bi := 9) rfl rfl hI60 k61.1.1.2.1 k61.1.2 (by omega)))) ?_
      rintro _ m62 ⟨v64, rfl, hm62, k63⟩
      show yR zpg tX12_lacking (d + 5) (112, [(1, .int x45), (0, .ref 221)], [.int v64, .int x45, .ref 231], m62) _
      refine wN_as (a := ((9 * (gi m37 221 34).toInt) + (gn (ga m37 228) (gi m37 221 34).toInt))) rfl aR_231 hm62 e46 (by omega) ?_
      have hm_9 : aTm aT0 (sx m62 231 x45 v64) := tm_sa aR_231 hm62 (i32_b _)
      refine yR_m 1 (fun _ _ _ _ => rfl) ?_
      refine wR_gi rfl mO_e mO_8 hm_9 (gi_sa) ?_
      refine wR_if_ne rfl (a := (gi m62 221 8).toInt) rfl (fun q65 => ?_) (fun q65 => ?_)
      ·
        exact yR_rv rfl (h4 y1 e2 q3 v39 m37 hm37 k38 q40 x41 e42 y43 e44 x45 e46 v49 m47 hm47 k48 m50 hI50 k51 v54 m52 hm52 k53 m55 hI55 k56 v59 m57 hm57 k58 m60 hI60 k61 v64 m62 hm62 k63 q65 hm_9)
      ·
        refine yR_m 1 (fun _ _ _ _ => rfl) ?_
        refine wR_gr rfl mO_e mO_19 hm_9 ?_
        refine yR_m 1 (fun _ _ _ _ => rfl) ?_
        refine wR_gi rfl mO_e mO_34 hm_9 (gi_sa) ?_
        refine yR_m 1 (fun _ _ _ _ => rfl) ?_
        refine wN_al (a := (gi m62 221 34).toInt) rfl aR_228 hm_9 (ga_sa_ne (by decide)) rfl (by omega) (fun y66 e67 => ?_)
        refine yR_m 1 (fun _ _ _ _ => rfl) ?_
        refine wN_add (a := (gn (ga m62 228) (gi m62 221 34).toInt)) (b := 1) rfl e67 rfl (by omega) (fun x68 e69 => ?_)
        refine wN_as (a := (gi m62 221 34).toInt) rfl aR_228 hm_9 rfl (by omega) ?_
        have hm_10 : aTm aT0 (sx (sx m62 231 x45 v64) 228 (gi m62 221 34) x68) := tm_sa aR_228 hm_9 (by rw [e69]; exact (by omega))
        exact yR_rv rfl (h5 y1 e2 q3 v39 m37 hm37 k38 q40 x41 e42 y43 e44 x45 e46 v49 m47 hm47 k48 m50 hI50 k51 v54 m52 hm52 k53 m55 hI55 k56 v59 m57 hm57 k58 m60 hI60 k61 v64 m62 hm62 k63 q65 y66 e67 x68 e69 hm_10)
    ·
      exact yR_rv rfl (h6 y1 e2 q3 v39 m37 hm37 k38 q40 hm37)

theorem h_lacF (hm : aTm aT0 mem) (hT : tOK mem) (sg : ¬ (gi mem 221 3).toInt = 0) (hS : mS T n s mem) (hs : s = some p) (hb : (gi mem 221 34).toInt = b) (hQ : mQ b Q mem) (hq : (3 ≤ Qc Q ∧ Qc Q ≤ 7) ∧ 3 ≤ Qr Q ∧ Qr Q ≤ 7) (hd : 6 ≤ d) : yC zpg d 200 [.ref 221] mem (fun r m => stR T n b (oif ((Qt Q).length < 9) (sLac T n Q (tkf T n p).2)) m) := by
  obtain ⟨d, rfl⟩ : ∃ q, d = q + 6 := ⟨d - 6, by omega⟩
  obtain ⟨i0, i1⟩ := mO_r34 hm
  have hb01 : 0 ≤ b ∧ b ≤ 1 := by omega
  have th := gR_228 hm (i := (gi mem 221 34).toInt) i0 (by omega)
  have tl : gn (ga mem 228) (gi mem 221 34).toInt = ((Qt Q).length : Int) := by rw [hb]; exact hQ.2.2.1.1
  refine yC_of (t := tX12_lacking) rfl rfl ?_
  exact w_lackingF (T := T) (n := n) (b := b) (s := s) (Q := Q) hm hT sg hS hb hQ hq
        (fun y1 e2 q3 v6 m4 hm4 k5 q7 x8 e9 y10 e11 x12 e13 v16 m14 hm14 k15 m17 hI17 k18 v21 m19 hm19 k20 m22 hI22 k23 v26 m24 hm24 k25 m27 hI27 k28 v31 m29 hm29 k30 q32 hm2 => by
          have E1 := cn_s (T := T) (n := n) (c := ((0 : Int) = 0)) hs rfl
          have KL := k30.1.2.2.1
          rw [E1, ← sLac_pos] at KL
          rcases KL with ⟨q, -, w, -⟩ | ⟨w, f⟩
          · exfalso
            have w2 : (gi m29 221 8).toInt = 0 := w
            omega
          · refine stR_no ?_ (by show 1 ≤ (gi (sx m29 231 x12 v31) 221 8).toInt; rw [(gi_sa)]; exact f)
            rw [mp_none w]
            unfold oif
            split <;> rfl)
        (fun y1 e2 q3 v6 m4 hm4 k5 q7 x8 e9 y10 e11 x12 e13 v16 m14 hm14 k15 m17 hI17 k18 v21 m19 hm19 k20 m22 hI22 k23 v26 m24 hm24 k25 m27 hI27 k28 v31 m29 hm29 k30 q32 y33 e34 x35 e36 hm2 => by
          have E1 := cn_s (T := T) (n := n) (c := ((0 : Int) = 0)) hs rfl
          have KL := k30.1.2.2.1
          rw [E1, ← sLac_pos] at KL
          rcases KL with ⟨p', e', f2, r2⟩ | ⟨-, f⟩
          · obtain ⟨x, hR, ex⟩ := om_s e'
            have hR0 := hR
            unfold sLac at hR
            obtain ⟨a, ha, R1⟩ := ob_s hR
            obtain ⟨p2, h2, R2⟩ := ob_s R1
            obtain ⟨cc, hc, R3⟩ := ob_s R2
            obtain ⟨p4, h4, R4⟩ := ob_s R3
            obtain ⟨hh, h5, R5⟩ := ob_s R4
            obtain ⟨p6, h6, R6⟩ := ob_s R5
            obtain ⟨gg, h7, R7⟩ := om_s R6
            have V1 := k15.1.2.2
            rw [E1] at V1
            have V1 := V1 _ a rfl ha
            have V2 := k20.1.2.2.2
            rw [E1, fre_p ha] at V2
            have V2 := V2 p2 cc h2 hc
            have G1 : gA (sx m29 231 x12 v31) 240 = ((gA m14 240).set x12.toNatClampNeg v16) := ((gA_sa).trans ((fr_gA2 k30.1.1.1 (by decide)).trans ((fr_gA2 k28.1.1.1 (by decide)).trans ((gA_sa).trans ((fr_gA2 k25.1.1.1 (by decide)).trans ((fr_gA2 k23.1.1.1 (by decide)).trans ((gA_sa).trans ((fr_gA2 k20.1.1.1 (by decide)).trans ((fr_gA2 k18.1.1.1 (by decide)).trans gA_sA_eq)))))))))
            have G2 : ga (sx m29 231 x12 v31) 229 = ((ga m19 229).set x12.toNatClampNeg v21) := ((ga_sa_ne (by decide)).trans ((fr_ga k30.1.1.1 (by decide) rfl).trans ((fr_ga k28.1.1.1 (by decide) rfl).trans ((ga_sa_ne (by decide)).trans ((fr_ga k25.1.1.1 (by decide) rfl).trans ((fr_ga k23.1.1.1 (by decide) rfl).trans ga_sa_eq))))))
            have V5 := k25.1.2.2.2
            rw [E1, fre_p ha, show (some a.2).bind (sOwn T n 6) = some p2 from h2, cel_p hc] at V5
            have V5 := V5 p4 hh h4 h5
            have V6 := k30.1.2.2.2
            rw [E1, fre_p ha, show (some a.2).bind (sOwn T n 6) = some p2 from h2, cel_p hc, show (some cc.2).bind (sOwn T n 7) = some p4 from h4, nu_p h5] at V6
            have V6 := V6 p6 gg h6 h7
            have G5 : ga (sx m29 231 x12 v31) 230 = ((ga m24 230).set x12.toNatClampNeg v26) := ((ga_sa_ne (by decide)).trans ((fr_ga k30.1.1.1 (by decide) rfl).trans ((fr_ga k28.1.1.1 (by decide) rfl).trans ga_sa_eq)))
            have G6 : ga (sx m29 231 x12 v31) 231 = ((ga m29 231).set x12.toNatClampNeg v31) := ga_sa_eq
            have gl5 := gl_230 hm24
            have gl6 := gl_231 hm29
            have gl1 : (gA m14 240).length = 18 := (gA_ty aR_240 hm14).2
            have gl2 := gl_229 hm19
            refine Or.inl ⟨x.1, x.2, by rw [oif_t (by omega), hR0], by show (gi (sx (sx m29 231 x12 v31) 228 (gi m29 221 34) x35) 221 8).toInt = 0; rw [((gi_sa).trans (gi_sa))]; exact f2, by rw [ex]; exact mRd_sa (by decide) (mRd_sa (by decide) r2), ?_⟩
            rw [← R7]
            refine mQ_addT (tm_sa aR_231 hm29 (i32_b _)) hb01 (by omega) (by omega) V1.2 ?_ ?_ ?_ ?_ (sNum_b h5) (sNum_b h7) (mQ_231 hm29 hb01 (by omega) (by omega) (mQ_fr k30.1.1.1 (mQ_fr k28.1.1.1 (mQ_230 hm24 hb01 (by omega) (by omega) (mQ_fr k25.1.1.1 (mQ_fr k23.1.1.1 (mQ_229 hm19 hb01 (by omega) (by omega) (mQ_fr k20.1.1.1 (mQ_fr k18.1.1.1 (mQ_240 hm14 hb01 (by omega) (by omega) (mQ_fr k15.1.1.1 (mQ_fr k5.1.1.1 hQ))))))))))))
            · rw [G1, gl_set (a := 9 * b + ((Qt Q).length : Int)) (by omega) (by omega) (by omega) (by omega), if_pos rfl]
              exact V1.1
            · rw [G2, gn_set (a := 9 * b + ((Qt Q).length : Int)) (by omega) (by omega) (by omega) (by omega), if_pos rfl]
              exact V2
            · rw [G5, gn_set (a := 9 * b + ((Qt Q).length : Int)) (by omega) (by omega) (by omega) (by omega), if_pos rfl]
              exact V5
            · rw [G6, gn_set (a := 9 * b + ((Qt Q).length : Int)) (by omega) (by omega) (by omega) (by omega), if_pos rfl]
              exact V6
          · exfalso
            have f' : 1 ≤ (gi m29 221 8).toInt := f
            omega)
        (fun y1 e2 q3 v6 m4 hm4 k5 q7 hm2 => by
          have E1 := cn_s (T := T) (n := n) (c := ((0 : Int) = 0)) hs rfl
          have K1 := k5.1.2.1
          rw [E1] at K1
          exfalso
          rcases K1 with ⟨q, -, w, -⟩ | ⟨w, -⟩
          · have w2 : (gi m4 221 8).toInt = 0 := w
            omega
          · cases w)
        (fun y1 e2 q3 v39 m37 hm37 k38 q40 x41 e42 y43 e44 x45 e46 v49 m47 hm47 k48 m50 hI50 k51 v54 m52 hm52 k53 m55 hI55 k56 v59 m57 hm57 k58 m60 hI60 k61 v64 m62 hm62 k63 q65 hm2 => by exfalso; omega)
        (fun y1 e2 q3 v39 m37 hm37 k38 q40 x41 e42 y43 e44 x45 e46 v49 m47 hm47 k48 m50 hI50 k51 v54 m52 hm52 k53 m55 hI55 k56 v59 m57 hm57 k58 m60 hI60 k61 v64 m62 hm62 k63 q65 y66 e67 x68 e69 hm2 => by exfalso; omega)
        (fun y1 e2 q3 v39 m37 hm37 k38 q40 hm2 => stR_no (oif_f (by omega)) (by show 1 ≤ (gi m37 221 8).toInt; omega))
set_option maxRecDepth 100000 in
theorem w_folkingF {d : Nat} {mem : zM} {P : Option Value → zM → Prop} {T : List Int32} {n b : Int} {s : Option Int} {Q : Qd} (hm : aTm aT0 mem) (hT : tOK mem) (sg : ¬ (gi mem 221 3).toInt = 0) (hS : mS T n s mem) (hb : (gi mem 221 34).toInt = b) (hQ : mQ b Q mem) (hq : (3 ≤ Qc Q ∧ Qc Q ≤ 7) ∧ 3 ≤ Qr Q ∧ Qr Q ≤ 7) (h1 : ∀ (y1 : Int32), y1.toInt = (gn (ga mem 233) (gi mem 221 34).toInt) → ¬ (gn (ga mem 233) (gi mem 221 34).toInt) = 6 → ∀ (v6 : Int32) (m4 : zM), aTm aT0 m4 → ((tQ mem m4 ∧ (mS T n (s.bind (cnP T n ((0 : Int) = 0))) m4 ∧ ((v6.toInt = 0 ∧ 1 ≤ (gi m4 221 8).toInt) ∨ (¬ v6.toInt = 0 ∧ (gi m4 221 8).toInt = 0 ∧ (0 : Int) = 0)))) ∧ ((¬ (gi m4 221 8).toInt = 0 ∨ (gi mem 221 8).toInt = 0) ∧ 0 ≤ (gi m4 221 8).toInt ∧ (gi m4 221 34).toInt = (gi mem 221 34).toInt ∧ gn (ga m4 223) (gi m4 221 34).toInt = gn (ga mem 223) (gi mem 221 34).toInt ∧ gn (ga m4 224) (gi m4 221 34).toInt = gn (ga mem 224) (gi mem 221 34).toInt ∧ gn (ga m4 228) (gi m4 221 34).toInt = gn (ga mem 228) (gi mem 221 34).toInt ∧ gn (ga m4 233) (gi m4 221 34).toInt = gn (ga mem 233) (gi mem 221 34).toInt)) → ¬ (v6).toInt = 0 → ∀ (x8 : Int32), x8.toInt = (6 * (gi m4 221 34).toInt) → ∀ (y10 : Int32), y10.toInt = (gn (ga m4 233) (gi m4 221 34).toInt) → ∀ (x12 : Int32), x12.toInt = ((6 * (gi m4 221 34).toInt) + (gn (ga m4 233) (gi m4 221 34).toInt)) → ∀ (v16 : Int64) (m14 : zM), aTm aT0 m14 → ((tQ m4 m14 ∧ (mS T n (freP T n Q (s.bind (cnP T n ((0 : Int) = 0)))) m14 ∧ freV T n Q (s.bind (cnP T n ((0 : Int) = 0))) v16.toInt)) ∧ ((¬ (gi m14 221 8).toInt = 0 ∨ (gi m4 221 8).toInt = 0) ∧ 0 ≤ (gi m14 221 8).toInt ∧ (gi m14 221 34).toInt = (gi m4 221 34).toInt ∧ gn (ga m14 223) (gi m14 221 34).toInt = gn (ga m4 223) (gi m4 221 34).toInt ∧ gn (ga m14 224) (gi m14 221 34).toInt = gn (ga m4 224) (gi m4 221 34).toInt ∧ gn (ga m14 228) (gi m14 221 34).toInt = gn (ga m4 228) (gi m4 221 34).toInt ∧ gn (ga m14 233) (gi m14 221 34).toInt = gn (ga m4 233) (gi m4 221 34).toInt)) → ∀ (m17 : zM), aTm aT0 m17 → ((tQ (sX m14 241 x12 v16) m17 ∧ mS T n ((freP T n Q (s.bind (cnP T n ((0 : Int) = 0)))).bind (sOwn T n 6)) m17) ∧ ((¬ (gi m17 221 8).toInt = 0 ∨ (gi m14 221 8).toInt = 0) ∧ 0 ≤ (gi m17 221 8).toInt ∧ (gi m17 221 34).toInt = (gi m14 221 34).toInt ∧ gn (ga m17 223) (gi m17 221 34).toInt = gn (ga m14 223) (gi m14 221 34).toInt ∧ gn (ga m17 224) (gi m17 221 34).toInt = gn (ga m14 224) (gi m14 221 34).toInt ∧ gn (ga m17 228) (gi m17 221 34).toInt = gn (ga m14 228) (gi m14 221 34).toInt ∧ gn (ga m17 233) (gi m17 221 34).toInt = gn (ga m14 233) (gi m14 221 34).toInt)) → ∀ (v21 : Int32) (m19 : zM), aTm aT0 m19 → ((tQ m17 m19 ∧ ((0 ≤ v21.toInt ∧ v21.toInt ≤ 63) ∧ mS T n (celP T n False Q ((freP T n Q (s.bind (cnP T n ((0 : Int) = 0)))).bind (sOwn T n 6))) m19 ∧ celV T n False Q ((freP T n Q (s.bind (cnP T n ((0 : Int) = 0)))).bind (sOwn T n 6)) v21.toInt)) ∧ ((¬ (gi m19 221 8).toInt = 0 ∨ (gi m17 221 8).toInt = 0) ∧ 0 ≤ (gi m19 221 8).toInt ∧ (gi m19 221 34).toInt = (gi m17 221 34).toInt ∧ gn (ga m19 223) (gi m19 221 34).toInt = gn (ga m17 223) (gi m17 221 34).toInt ∧ gn (ga m19 224) (gi m19 221 34).toInt = gn (ga m17 224) (gi m17 221 34).toInt ∧ gn (ga m19 228) (gi m19 221 34).toInt = gn (ga m17 228) (gi m17 221 34).toInt ∧ gn (ga m19 233) (gi m19 221 34).toInt = gn (ga m17 233) (gi m17 221 34).toInt)) → ∀ (m22 : zM), aTm aT0 m22 → ((tQ (sx m19 234 x12 v21) m22 ∧ mS T n ((celP T n False Q ((freP T n Q (s.bind (cnP T n ((0 : Int) = 0)))).bind (sOwn T n 6))).bind (sOwn T n 11)) m22) ∧ ((¬ (gi m22 221 8).toInt = 0 ∨ (gi m19 221 8).toInt = 0) ∧ 0 ≤ (gi m22 221 8).toInt ∧ (gi m22 221 34).toInt = (gi m19 221 34).toInt ∧ gn (ga m22 223) (gi m22 221 34).toInt = gn (ga m19 223) (gi m19 221 34).toInt ∧ gn (ga m22 224) (gi m22 221 34).toInt = gn (ga m19 224) (gi m19 221 34).toInt ∧ gn (ga m22 228) (gi m22 221 34).toInt = gn (ga m19 228) (gi m19 221 34).toInt ∧ gn (ga m22 233) (gi m22 221 34).toInt = gn (ga m19 233) (gi m19 221 34).toInt)) → ∀ (v26 : Int32) (m24 : zM), aTm aT0 m24 → ((tQ m22 m24 ∧ ((0 ≤ v26.toInt ∧ v26.toInt ≤ 63) ∧ mS T n (celP T n False Q ((celP T n False Q ((freP T n Q (s.bind (cnP T n ((0 : Int) = 0)))).bind (sOwn T n 6))).bind (sOwn T n 11))) m24 ∧ celV T n False Q ((celP T n False Q ((freP T n Q (s.bind (cnP T n ((0 : Int) = 0)))).bind (sOwn T n 6))).bind (sOwn T n 11)) v26.toInt)) ∧ ((¬ (gi m24 221 8).toInt = 0 ∨ (gi m22 221 8).toInt = 0) ∧ 0 ≤ (gi m24 221 8).toInt ∧ (gi m24 221 34).toInt = (gi m22 221 34).toInt ∧ gn (ga m24 223) (gi m24 221 34).toInt = gn (ga m22 223) (gi m22 221 34).toInt ∧ gn (ga m24 224) (gi m24 221 34).toInt = gn (ga m22 224) (gi m22 221 34).toInt ∧ gn (ga m24 228) (gi m24 221 34).toInt = gn (ga m22 228) (gi m22 221 34).toInt ∧ gn (ga m24 233) (gi m24 221 34).toInt = gn (ga m22 233) (gi m22 221 34).toInt)) → ¬ (gi m24 221 8).toInt = 0 → aTm aT0 (sx m24 235 x12 v26) → P none (sx m24 235 x12 v26)) (h2 : ∀ (y1 : Int32), y1.toInt = (gn (ga mem 233) (gi mem 221 34).toInt) → ¬ (gn (ga mem 233) (gi mem 221 34).toInt) = 6 → ∀ (v6 : Int32) (m4 : zM), aTm aT0 m4 → ((tQ mem m4 ∧ (mS T n (s.bind (cnP T n ((0 : Int) = 0))) m4 ∧ ((v6.toInt = 0 ∧ 1 ≤ (gi m4 221 8).toInt) ∨ (¬ v6.toInt = 0 ∧ (gi m4 221 8).toInt = 0 ∧ (0 : Int) = 0)))) ∧ ((¬ (gi m4 221 8).toInt = 0 ∨ (gi mem 221 8).toInt = 0) ∧ 0 ≤ (gi m4 221 8).toInt ∧ (gi m4 221 34).toInt = (gi mem 221 34).toInt ∧ gn (ga m4 223) (gi m4 221 34).toInt = gn (ga mem 223) (gi mem 221 34).toInt ∧ gn (ga m4 224) (gi m4 221 34).toInt = gn (ga mem 224) (gi mem 221 34).toInt ∧ gn (ga m4 228) (gi m4 221 34).toInt = gn (ga mem 228) (gi mem 221 34).toInt ∧ gn (ga m4 233) (gi m4 221 34).toInt = gn (ga mem 233) (gi mem 221 34).toInt)) → ¬ (v6).toInt = 0 → ∀ (x8 : Int32), x8.toInt = (6 * (gi m4 221 34).toInt) → ∀ (y10 : Int32), y10.toInt = (gn (ga m4 233) (gi m4 221 34).toInt) → ∀ (x12 : Int32), x12.toInt = ((6 * (gi m4 221 34).toInt) + (gn (ga m4 233) (gi m4 221 34).toInt)) → ∀ (v16 : Int64) (m14 : zM), aTm aT0 m14 → ((tQ m4 m14 ∧ (mS T n (freP T n Q (s.bind (cnP T n ((0 : Int) = 0)))) m14 ∧ freV T n Q (s.bind (cnP T n ((0 : Int) = 0))) v16.toInt)) ∧ ((¬ (gi m14 221 8).toInt = 0 ∨ (gi m4 221 8).toInt = 0) ∧ 0 ≤ (gi m14 221 8).toInt ∧ (gi m14 221 34).toInt = (gi m4 221 34).toInt ∧ gn (ga m14 223) (gi m14 221 34).toInt = gn (ga m4 223) (gi m4 221 34).toInt ∧ gn (ga m14 224) (gi m14 221 34).toInt = gn (ga m4 224) (gi m4 221 34).toInt ∧ gn (ga m14 228) (gi m14 221 34).toInt = gn (ga m4 228) (gi m4 221 34).toInt ∧ gn (ga m14 233) (gi m14 221 34).toInt = gn (ga m4 233) (gi m4 221 34).toInt)) → ∀ (m17 : zM), aTm aT0 m17 → ((tQ (sX m14 241 x12 v16) m17 ∧ mS T n ((freP T n Q (s.bind (cnP T n ((0 : Int) = 0)))).bind (sOwn T n 6)) m17) ∧ ((¬ (gi m17 221 8).toInt = 0 ∨ (gi m14 221 8).toInt = 0) ∧ 0 ≤ (gi m17 221 8).toInt ∧ (gi m17 221 34).toInt = (gi m14 221 34).toInt ∧ gn (ga m17 223) (gi m17 221 34).toInt = gn (ga m14 223) (gi m14 221 34).toInt ∧ gn (ga m17 224) (gi m17 221 34).toInt = gn (ga m14 224) (gi m14 221 34).toInt ∧ gn (ga m17 228) (gi m17 221 34).toInt = gn (ga m14 228) (gi m14 221 34).toInt ∧ gn (ga m17 233) (gi m17 221 34).toInt = gn (ga m14 233) (gi m14 221 34).toInt)) → ∀ (v21 : Int32) (m19 : zM), aTm aT0 m19 → ((tQ m17 m19 ∧ ((0 ≤ v21.toInt ∧ v21.toInt ≤ 63) ∧ mS T n (celP T n False Q ((freP T n Q (s.bind (cnP T n ((0 : Int) = 0)))).bind (sOwn T n 6))) m19 ∧ celV T n False Q ((freP T n Q (s.bind (cnP T n ((0 : Int) = 0)))).bind (sOwn T n 6)) v21.toInt)) ∧ ((¬ (gi m19 221 8).toInt = 0 ∨ (gi m17 221 8).toInt = 0) ∧ 0 ≤ (gi m19 221 8).toInt ∧ (gi m19 221 34).toInt = (gi m17 221 34).toInt ∧ gn (ga m19 223) (gi m19 221 34).toInt = gn (ga m17 223) (gi m17 221 34).toInt ∧ gn (ga m19 224) (gi m19 221 34).toInt = gn (ga m17 224) (gi m17 221 34).toInt ∧ gn (ga m19 228) (gi m19 221 34).toInt = gn (ga m17 228) (gi m17 221 34).toInt ∧ gn (ga m19 233) (gi m19 221 34).toInt = gn (ga m17 233) (gi m17 221 34).toInt)) → ∀ (m22 : zM), aTm aT0 m22 → ((tQ (sx m19 234 x12 v21) m22 ∧ mS T n ((celP T n False Q ((freP T n Q (s.bind (cnP T n ((0 : Int) = 0)))).bind (sOwn T n 6))).bind (sOwn T n 11)) m22) ∧ ((¬ (gi m22 221 8).toInt = 0 ∨ (gi m19 221 8).toInt = 0) ∧ 0 ≤ (gi m22 221 8).toInt ∧ (gi m22 221 34).toInt = (gi m19 221 34).toInt ∧ gn (ga m22 223) (gi m22 221 34).toInt = gn (ga m19 223) (gi m19 221 34).toInt ∧ gn (ga m22 224) (gi m22 221 34).toInt = gn (ga m19 224) (gi m19 221 34).toInt ∧ gn (ga m22 228) (gi m22 221 34).toInt = gn (ga m19 228) (gi m19 221 34).toInt ∧ gn (ga m22 233) (gi m22 221 34).toInt = gn (ga m19 233) (gi m19 221 34).toInt)) → ∀ (v26 : Int32) (m24 : zM), aTm aT0 m24 → ((tQ m22 m24 ∧ ((0 ≤ v26.toInt ∧ v26.toInt ≤ 63) ∧ mS T n (celP T n False Q ((celP T n False Q ((freP T n Q (s.bind (cnP T n ((0 : Int) = 0)))).bind (sOwn T n 6))).bind (sOwn T n 11))) m24 ∧ celV T n False Q ((celP T n False Q ((freP T n Q (s.bind (cnP T n ((0 : Int) = 0)))).bind (sOwn T n 6))).bind (sOwn T n 11)) v26.toInt)) ∧ ((¬ (gi m24 221 8).toInt = 0 ∨ (gi m22 221 8).toInt = 0) ∧ 0 ≤ (gi m24 221 8).toInt ∧ (gi m24 221 34).toInt = (gi m22 221 34).toInt ∧ gn (ga m24 223) (gi m24 221 34).toInt = gn (ga m22 223) (gi m22 221 34).toInt ∧ gn (ga m24 224) (gi m24 221 34).toInt = gn (ga m22 224) (gi m22 221 34).toInt ∧ gn (ga m24 228) (gi m24 221 34).toInt = gn (ga m22 228) (gi m22 221 34).toInt ∧ gn (ga m24 233) (gi m24 221 34).toInt = gn (ga m22 233) (gi m22 221 34).toInt)) → (gi m24 221 8).toInt = 0 → ∀ (y28 : Int32), y28.toInt = (gn (ga m24 233) (gi m24 221 34).toInt) → ∀ (x30 : Int32), x30.toInt = ((gn (ga m24 233) (gi m24 221 34).toInt) + 1) → aTm aT0 (sx (sx m24 235 x12 v26) 233 (gi m24 221 34) x30) → P none (sx (sx m24 235 x12 v26) 233 (gi m24 221 34) x30)) (h3 : ∀ (y1 : Int32), y1.toInt = (gn (ga mem 233) (gi mem 221 34).toInt) → ¬ (gn (ga mem 233) (gi mem 221 34).toInt) = 6 → ∀ (v6 : Int32) (m4 : zM), aTm aT0 m4 → ((tQ mem m4 ∧ (mS T n (s.bind (cnP T n ((0 : Int) = 0))) m4 ∧ ((v6.toInt = 0 ∧ 1 ≤ (gi m4 221 8).toInt) ∨ (¬ v6.toInt = 0 ∧ (gi m4 221 8).toInt = 0 ∧ (0 : Int) = 0)))) ∧ ((¬ (gi m4 221 8).toInt = 0 ∨ (gi mem 221 8).toInt = 0) ∧ 0 ≤ (gi m4 221 8).toInt ∧ (gi m4 221 34).toInt = (gi mem 221 34).toInt ∧ gn (ga m4 223) (gi m4 221 34).toInt = gn (ga mem 223) (gi mem 221 34).toInt ∧ gn (ga m4 224) (gi m4 221 34).toInt = gn (ga mem 224) (gi mem 221 34).toInt ∧ gn (ga m4 228) (gi m4 221 34).toInt = gn (ga mem 228) (gi mem 221 34).toInt ∧ gn (ga m4 233) (gi m4 221 34).toInt = gn (ga mem 233) (gi mem 221 34).toInt)) → (v6).toInt = 0 → aTm aT0 m4 → P none m4) (h4 : ∀ (y1 : Int32), y1.toInt = (gn (ga mem 233) (gi mem 221 34).toInt) → (gn (ga mem 233) (gi mem 221 34).toInt) = 6 → ∀ (v34 : Int32) (m32 : zM), aTm aT0 m32 → ((tQ mem m32 ∧ (mS T n (s.bind (cnP T n ((1 : Int) = 0))) m32 ∧ ((v34.toInt = 0 ∧ 1 ≤ (gi m32 221 8).toInt) ∨ (¬ v34.toInt = 0 ∧ (gi m32 221 8).toInt = 0 ∧ (1 : Int) = 0)))) ∧ ((¬ (gi m32 221 8).toInt = 0 ∨ (gi mem 221 8).toInt = 0) ∧ 0 ≤ (gi m32 221 8).toInt ∧ (gi m32 221 34).toInt = (gi mem 221 34).toInt ∧ gn (ga m32 223) (gi m32 221 34).toInt = gn (ga mem 223) (gi mem 221 34).toInt ∧ gn (ga m32 224) (gi m32 221 34).toInt = gn (ga mem 224) (gi mem 221 34).toInt ∧ gn (ga m32 228) (gi m32 221 34).toInt = gn (ga mem 228) (gi mem 221 34).toInt ∧ gn (ga m32 233) (gi m32 221 34).toInt = gn (ga mem 233) (gi mem 221 34).toInt)) → ¬ (v34).toInt = 0 → ∀ (x36 : Int32), x36.toInt = (6 * (gi m32 221 34).toInt) → ∀ (y38 : Int32), y38.toInt = (gn (ga m32 233) (gi m32 221 34).toInt) → ∀ (x40 : Int32), x40.toInt = ((6 * (gi m32 221 34).toInt) + (gn (ga m32 233) (gi m32 221 34).toInt)) → ∀ (v44 : Int64) (m42 : zM), aTm aT0 m42 → ((tQ m32 m42 ∧ (mS T n (freP T n Q (s.bind (cnP T n ((1 : Int) = 0)))) m42 ∧ freV T n Q (s.bind (cnP T n ((1 : Int) = 0))) v44.toInt)) ∧ ((¬ (gi m42 221 8).toInt = 0 ∨ (gi m32 221 8).toInt = 0) ∧ 0 ≤ (gi m42 221 8).toInt ∧ (gi m42 221 34).toInt = (gi m32 221 34).toInt ∧ gn (ga m42 223) (gi m42 221 34).toInt = gn (ga m32 223) (gi m32 221 34).toInt ∧ gn (ga m42 224) (gi m42 221 34).toInt = gn (ga m32 224) (gi m32 221 34).toInt ∧ gn (ga m42 228) (gi m42 221 34).toInt = gn (ga m32 228) (gi m32 221 34).toInt ∧ gn (ga m42 233) (gi m42 221 34).toInt = gn (ga m32 233) (gi m32 221 34).toInt)) → ∀ (m45 : zM), aTm aT0 m45 → ((tQ (sX m42 241 x40 v44) m45 ∧ mS T n ((freP T n Q (s.bind (cnP T n ((1 : Int) = 0)))).bind (sOwn T n 6)) m45) ∧ ((¬ (gi m45 221 8).toInt = 0 ∨ (gi m42 221 8).toInt = 0) ∧ 0 ≤ (gi m45 221 8).toInt ∧ (gi m45 221 34).toInt = (gi m42 221 34).toInt ∧ gn (ga m45 223) (gi m45 221 34).toInt = gn (ga m42 223) (gi m42 221 34).toInt ∧ gn (ga m45 224) (gi m45 221 34).toInt = gn (ga m42 224) (gi m42 221 34).toInt ∧ gn (ga m45 228) (gi m45 221 34).toInt = gn (ga m42 228) (gi m42 221 34).toInt ∧ gn (ga m45 233) (gi m45 221 34).toInt = gn (ga m42 233) (gi m42 221 34).toInt)) → ∀ (v49 : Int32) (m47 : zM), aTm aT0 m47 → ((tQ m45 m47 ∧ ((0 ≤ v49.toInt ∧ v49.toInt ≤ 63) ∧ mS T n (celP T n False Q ((freP T n Q (s.bind (cnP T n ((1 : Int) = 0)))).bind (sOwn T n 6))) m47 ∧ celV T n False Q ((freP T n Q (s.bind (cnP T n ((1 : Int) = 0)))).bind (sOwn T n 6)) v49.toInt)) ∧ ((¬ (gi m47 221 8).toInt = 0 ∨ (gi m45 221 8).toInt = 0) ∧ 0 ≤ (gi m47 221 8).toInt ∧ (gi m47 221 34).toInt = (gi m45 221 34).toInt ∧ gn (ga m47 223) (gi m47 221 34).toInt = gn (ga m45 223) (gi m45 221 34).toInt ∧ gn (ga m47 224) (gi m47 221 34).toInt = gn (ga m45 224) (gi m45 221 34).toInt ∧ gn (ga m47 228) (gi m47 221 34).toInt = gn (ga m45 228) (gi m45 221 34).toInt ∧ gn (ga m47 233) (gi m47 221 34).toInt = gn (ga m45 233) (gi m45 221 34).toInt)) → ∀ (m50 : zM), aTm aT0 m50 → ((tQ (sx m47 234 x40 v49) m50 ∧ mS T n ((celP T n False Q ((freP T n Q (s.bind (cnP T n ((1 : Int) = 0)))).bind (sOwn T n 6))).bind (sOwn T n 11)) m50) ∧ ((¬ (gi m50 221 8).toInt = 0 ∨ (gi m47 221 8).toInt = 0) ∧ 0 ≤ (gi m50 221 8).toInt ∧ (gi m50 221 34).toInt = (gi m47 221 34).toInt ∧ gn (ga m50 223) (gi m50 221 34).toInt = gn (ga m47 223) (gi m47 221 34).toInt ∧ gn (ga m50 224) (gi m50 221 34).toInt = gn (ga m47 224) (gi m47 221 34).toInt ∧ gn (ga m50 228) (gi m50 221 34).toInt = gn (ga m47 228) (gi m47 221 34).toInt ∧ gn (ga m50 233) (gi m50 221 34).toInt = gn (ga m47 233) (gi m47 221 34).toInt)) → ∀ (v54 : Int32) (m52 : zM), aTm aT0 m52 → ((tQ m50 m52 ∧ ((0 ≤ v54.toInt ∧ v54.toInt ≤ 63) ∧ mS T n (celP T n False Q ((celP T n False Q ((freP T n Q (s.bind (cnP T n ((1 : Int) = 0)))).bind (sOwn T n 6))).bind (sOwn T n 11))) m52 ∧ celV T n False Q ((celP T n False Q ((freP T n Q (s.bind (cnP T n ((1 : Int) = 0)))).bind (sOwn T n 6))).bind (sOwn T n 11)) v54.toInt)) ∧ ((¬ (gi m52 221 8).toInt = 0 ∨ (gi m50 221 8).toInt = 0) ∧ 0 ≤ (gi m52 221 8).toInt ∧ (gi m52 221 34).toInt = (gi m50 221 34).toInt ∧ gn (ga m52 223) (gi m52 221 34).toInt = gn (ga m50 223) (gi m50 221 34).toInt ∧ gn (ga m52 224) (gi m52 221 34).toInt = gn (ga m50 224) (gi m50 221 34).toInt ∧ gn (ga m52 228) (gi m52 221 34).toInt = gn (ga m50 228) (gi m50 221 34).toInt ∧ gn (ga m52 233) (gi m52 221 34).toInt = gn (ga m50 233) (gi m50 221 34).toInt)) → ¬ (gi m52 221 8).toInt = 0 → aTm aT0 (sx m52 235 x40 v54) → P none (sx m52 235 x40 v54)) (h5 : ∀ (y1 : Int32), y1.toInt = (gn (ga mem 233) (gi mem 221 34).toInt) → (gn (ga mem 233) (gi mem 221 34).toInt) = 6 → ∀ (v34 : Int32) (m32 : zM), aTm aT0 m32 → ((tQ mem m32 ∧ (mS T n (s.bind (cnP T n ((1 : Int) = 0))) m32 ∧ ((v34.toInt = 0 ∧ 1 ≤ (gi m32 221 8).toInt) ∨ (¬ v34.toInt = 0 ∧ (gi m32 221 8).toInt = 0 ∧ (1 : Int) = 0)))) ∧ ((¬ (gi m32 221 8).toInt = 0 ∨ (gi mem 221 8).toInt = 0) ∧ 0 ≤ (gi m32 221 8).toInt ∧ (gi m32 221 34).toInt = (gi mem 221 34).toInt ∧ gn (ga m32 223) (gi m32 221 34).toInt = gn (ga mem 223) (gi mem 221 34).toInt ∧ gn (ga m32 224) (gi m32 221 34).toInt = gn (ga mem 224) (gi mem 221 34).toInt ∧ gn (ga m32 228) (gi m32 221 34).toInt = gn (ga mem 228) (gi mem 221 34).toInt ∧ gn (ga m32 233) (gi m32 221 34).toInt = gn (ga mem 233) (gi mem 221 34).toInt)) → ¬ (v34).toInt = 0 → ∀ (x36 : Int32), x36.toInt = (6 * (gi m32 221 34).toInt) → ∀ (y38 : Int32), y38.toInt = (gn (ga m32 233) (gi m32 221 34).toInt) → ∀ (x40 : Int32), x40.toInt = ((6 * (gi m32 221 34).toInt) + (gn (ga m32 233) (gi m32 221 34).toInt)) → ∀ (v44 : Int64) (m42 : zM), aTm aT0 m42 → ((tQ m32 m42 ∧ (mS T n (freP T n Q (s.bind (cnP T n ((1 : Int) = 0)))) m42 ∧ freV T n Q (s.bind (cnP T n ((1 : Int) = 0))) v44.toInt)) ∧ ((¬ (gi m42 221 8).toInt = 0 ∨ (gi m32 221 8).toInt = 0) ∧ 0 ≤ (gi m42 221 8).toInt ∧ (gi m42 221 34).toInt = (gi m32 221 34).toInt ∧ gn (ga m42 223) (gi m42 221 34).toInt = gn (ga m32 223) (gi m32 221 34).toInt ∧ gn (ga m42 224) (gi m42 221 34).toInt = gn (ga m32 224) (gi m32 221 34).toInt ∧ gn (ga m42 228) (gi m42 221 34).toInt = gn (ga m32 228) (gi m32 221 34).toInt ∧ gn (ga m42 233) (gi m42 221 34).toInt = gn (ga m32 233) (gi m32 221 34).toInt)) → ∀ (m45 : zM), aTm aT0 m45 → ((tQ (sX m42 241 x40 v44) m45 ∧ mS T n ((freP T n Q (s.bind (cnP T n ((1 : Int) = 0)))).bind (sOwn T n 6)) m45) ∧ ((¬ (gi m45 221 8).toInt = 0 ∨ (gi m42 221 8).toInt = 0) ∧ 0 ≤ (gi m45 221 8).toInt ∧ (gi m45 221 34).toInt = (gi m42 221 34).toInt ∧ gn (ga m45 223) (gi m45 221 34).toInt = gn (ga m42 223) (gi m42 221 34).toInt ∧ gn (ga m45 224) (gi m45 221 34).toInt = gn (ga m42 224) (gi m42 221 34).toInt ∧ gn (ga m45 228) (gi m45 221 34).toInt = gn (ga m42 228) (gi m42 221 34).toInt ∧ gn (ga m45 233) (gi m45 221 34).toInt = gn (ga m42 233) (gi m42 221 34).toInt)) → ∀ (v49 : Int32) (m47 : zM), aTm aT0 m47 → ((tQ m45 m47 ∧ ((0 ≤ v49.toInt ∧ v49.toInt ≤ 63) ∧ mS T n (celP T n False Q ((freP T n Q (s.bind (cnP T n ((1 : Int) = 0)))).bind (sOwn T n 6))) m47 ∧ celV T n False Q ((freP T n Q (s.bind (cnP T n ((1 : Int) = 0)))).bind (sOwn T n 6)) v49.toInt)) ∧ ((¬ (gi m47 221 8).toInt = 0 ∨ (gi m45 221 8).toInt = 0) ∧ 0 ≤ (gi m47 221 8).toInt ∧ (gi m47 221 34).toInt = (gi m45 221 34).toInt ∧ gn (ga m47 223) (gi m47 221 34).toInt = gn (ga m45 223) (gi m45 221 34).toInt ∧ gn (ga m47 224) (gi m47 221 34).toInt = gn (ga m45 224) (gi m45 221 34).toInt ∧ gn (ga m47 228) (gi m47 221 34).toInt = gn (ga m45 228) (gi m45 221 34).toInt ∧ gn (ga m47 233) (gi m47 221 34).toInt = gn (ga m45 233) (gi m45 221 34).toInt)) → ∀ (m50 : zM), aTm aT0 m50 → ((tQ (sx m47 234 x40 v49) m50 ∧ mS T n ((celP T n False Q ((freP T n Q (s.bind (cnP T n ((1 : Int) = 0)))).bind (sOwn T n 6))).bind (sOwn T n 11)) m50) ∧ ((¬ (gi m50 221 8).toInt = 0 ∨ (gi m47 221 8).toInt = 0) ∧ 0 ≤ (gi m50 221 8).toInt ∧ (gi m50 221 34).toInt = (gi m47 221 34).toInt ∧ gn (ga m50 223) (gi m50 221 34).toInt = gn (ga m47 223) (gi m47 221 34).toInt ∧ gn (ga m50 224) (gi m50 221 34).toInt = gn (ga m47 224) (gi m47 221 34).toInt ∧ gn (ga m50 228) (gi m50 221 34).toInt = gn (ga m47 228) (gi m47 221 34).toInt ∧ gn (ga m50 233) (gi m50 221 34).toInt = gn (ga m47 233) (gi m47 221 34).toInt)) → ∀ (v54 : Int32) (m52 : zM), aTm aT0 m52 → ((tQ m50 m52 ∧ ((0 ≤ v54.toInt ∧ v54.toInt ≤ 63) ∧ mS T n (celP T n False Q ((celP T n False Q ((freP T n Q (s.bind (cnP T n ((1 : Int) = 0)))).bind (sOwn T n 6))).bind (sOwn T n 11))) m52 ∧ celV T n False Q ((celP T n False Q ((freP T n Q (s.bind (cnP T n ((1 : Int) = 0)))).bind (sOwn T n 6))).bind (sOwn T n 11)) v54.toInt)) ∧ ((¬ (gi m52 221 8).toInt = 0 ∨ (gi m50 221 8).toInt = 0) ∧ 0 ≤ (gi m52 221 8).toInt ∧ (gi m52 221 34).toInt = (gi m50 221 34).toInt ∧ gn (ga m52 223) (gi m52 221 34).toInt = gn (ga m50 223) (gi m50 221 34).toInt ∧ gn (ga m52 224) (gi m52 221 34).toInt = gn (ga m50 224) (gi m50 221 34).toInt ∧ gn (ga m52 228) (gi m52 221 34).toInt = gn (ga m50 228) (gi m50 221 34).toInt ∧ gn (ga m52 233) (gi m52 221 34).toInt = gn (ga m50 233) (gi m50 221 34).toInt)) → (gi m52 221 8).toInt = 0 → ∀ (y56 : Int32), y56.toInt = (gn (ga m52 233) (gi m52 221 34).toInt) → ∀ (x58 : Int32), x58.toInt = ((gn (ga m52 233) (gi m52 221 34).toInt) + 1) → aTm aT0 (sx (sx m52 235 x40 v54) 233 (gi m52 221 34) x58) → P none (sx (sx m52 235 x40 v54) 233 (gi m52 221 34) x58)) (h6 : ∀ (y1 : Int32), y1.toInt = (gn (ga mem 233) (gi mem 221 34).toInt) → (gn (ga mem 233) (gi mem 221 34).toInt) = 6 → ∀ (v34 : Int32) (m32 : zM), aTm aT0 m32 → ((tQ mem m32 ∧ (mS T n (s.bind (cnP T n ((1 : Int) = 0))) m32 ∧ ((v34.toInt = 0 ∧ 1 ≤ (gi m32 221 8).toInt) ∨ (¬ v34.toInt = 0 ∧ (gi m32 221 8).toInt = 0 ∧ (1 : Int) = 0)))) ∧ ((¬ (gi m32 221 8).toInt = 0 ∨ (gi mem 221 8).toInt = 0) ∧ 0 ≤ (gi m32 221 8).toInt ∧ (gi m32 221 34).toInt = (gi mem 221 34).toInt ∧ gn (ga m32 223) (gi m32 221 34).toInt = gn (ga mem 223) (gi mem 221 34).toInt ∧ gn (ga m32 224) (gi m32 221 34).toInt = gn (ga mem 224) (gi mem 221 34).toInt ∧ gn (ga m32 228) (gi m32 221 34).toInt = gn (ga mem 228) (gi mem 221 34).toInt ∧ gn (ga m32 233) (gi m32 221 34).toInt = gn (ga mem 233) (gi mem 221 34).toInt)) → (v34).toInt = 0 → aTm aT0 m32 → P none m32) : yR zpg tX12_folking (d + 5) (0, [(0, .ref 221)], [], mem) P := by
  obtain ⟨i0, i1⟩ := mO_r34 hm
  have hb01 : 0 ≤ b ∧ b ≤ 1 := by omega
  have th := gR_228 hm (i := (gi mem 221 34).toInt) i0 (by omega)
  have fki := gR_233 hm (i := (gi mem 221 34).toInt) i0 (by omega)
  have tl : gn (ga mem 228) (gi mem 221 34).toInt = ((Qt Q).length : Int) := by rw [hb]; exact hQ.2.2.1.1
  have fl : gn (ga mem 233) (gi mem 221 34).toInt = ((Qf Q).length : Int) := by rw [hb]; exact hQ.2.2.2.2.1.1
  refine yR_m 2 (fun _ _ _ _ => rfl) ?_
  refine wR_gr rfl mO_e mO_24 hm ?_
  refine yR_m 1 (fun _ _ _ _ => rfl) ?_
  refine wR_gi rfl mO_e mO_34 hm rfl ?_
  refine wN_al (a := (gi mem 221 34).toInt) rfl aR_233 hm rfl rfl (by omega) (fun y1 e2 => ?_)
  refine yR_m 1 (fun _ _ _ _ => rfl) ?_
  refine wR_ic_ne rfl (a := (gn (ga mem 233) (gi mem 221 34).toInt)) (c := 6) e2 rfl (fun q3 => ?_) (fun q3 => ?_)
  ·
    refine yR_m 1 (fun _ _ _ _ => rfl) ?_
    refine wR_cv rfl rfl mO_e hm rfl (pk_i (h_cy (b8 := (gi mem 221 8).toInt) rfl rfl rfl rfl rfl rfl rfl (fun _ _ q => by obtain ⟨_, _, _, q⟩ := q; exact q.1) (h_cnS (T := T) (n := n) (ci := (0 : Int)) rfl hm hT sg hS (by omega)))) ?_
    rintro _ m4 ⟨v6, rfl, hm4, k5⟩
    show yR zpg tX12_folking (d + 5) (23, [(0, .ref 221)], [.int v6], m4) _
    refine wR_if_ne rfl (a := (v6).toInt) rfl (fun q7 => ?_) (fun q7 => ?_)
    ·
      refine yR_m 2 (fun _ _ _ _ => rfl) ?_
      refine wR_gi rfl mO_e mO_34 hm4 rfl ?_
      refine wN_mul (a := 6) (b := (gi m4 221 34).toInt) rfl rfl rfl (by omega) (fun x8 e9 => ?_)
      refine yR_m 1 (fun _ _ _ _ => rfl) ?_
      refine wR_gr rfl mO_e mO_24 hm4 ?_
      refine yR_m 1 (fun _ _ _ _ => rfl) ?_
      refine wR_gi rfl mO_e mO_34 hm4 rfl ?_
      refine wN_al (a := (gi m4 221 34).toInt) rfl aR_233 hm4 rfl rfl (by omega) (fun y10 e11 => ?_)
      refine wN_add (a := (6 * (gi m4 221 34).toInt)) (b := (gn (ga m4 233) (gi m4 221 34).toInt)) rfl e9 e11 (by omega) (fun x12 e13 => ?_)
      refine yR_m 2 (fun _ _ _ _ => rfl) ?_
      refine wR_gr rfl mO_e mO_32 hm4 ?_
      refine yR_m 2 (fun _ _ _ _ => rfl) ?_
      refine wR_cv rfl rfl mO_e hm4 rfl (pk_l (h_cy (b8 := (gi m4 221 8).toInt) rfl rfl rfl rfl rfl rfl rfl (fun _ _ q => by obtain ⟨_, _, _, q⟩ := q; exact q.1) (h_frS5 (T := T) (n := n) (b := b) (Q := Q) hm4 k5.1.1.2.1 (by omega) (mQ_fr k5.1.1.1 hQ) k5.1.2.1 (by omega)))) ?_
      rintro _ m14 ⟨v16, rfl, hm14, k15⟩
      show yR zpg tX12_folking (d + 5) (54, [(1, .int x12), (0, .ref 221)], [.long v16, .int x12, .ref 241], m14) _
      refine wN_las (a := ((6 * (gi m4 221 34).toInt) + (gn (ga m4 233) (gi m4 221 34).toInt))) rfl aR_241 hm14 e13 (by omega) ?_
      have hm_1 : aTm aT0 (sX m14 241 x12 v16) := tm_sA aR_241 hm14
      refine yR_m 2 (fun _ _ _ _ => rfl) ?_
      refine wR_cv rfl rfl mO_e hm_1 rfl (pk_v (h_cy (b8 := (gi m14 221 8).toInt) rfl (gi_sA) (gi_sA) ((ga_sA)) ((ga_sA)) ((ga_sA)) ((ga_sA)) (fun _ _ q => q.2.2.1) (h_mustWS (T := T) (n := n) (k := 6) (by decide) (by decide) hm_1 (tOK_fr (ks := [223, 224, 225, 226, 227, 228, 229, 230, 231, 232, 233, 234, 235, 236, 237, 240, 241]) (is := [8, 9]) (fr_sA rfl (fr_rf)) rfl rfl rfl rfl (by show 0 ≤ (gi (sX m14 241 x12 v16) 221 8).toInt; rw [(gi_sA)]; exact k15.1.1.2.1.2) k15.1.1.2.1) (mS_sA k15.1.2.1) (by omega)))) ?_
      rintro _ m17 ⟨rfl, hI17, k18⟩
      show yR zpg tX12_folking (d + 5) (62, [(1, .int x12), (0, .ref 221)], [], m17) _
      refine yR_m 1 (fun _ _ _ _ => rfl) ?_
      refine wR_gr rfl mO_e mO_25 hI17 ?_
      refine yR_m 3 (fun _ _ _ _ => rfl) ?_
      refine wR_cv rfl rfl mO_e hI17 rfl (pk_i (h_cy (b8 := (gi m17 221 8).toInt) rfl rfl rfl rfl rfl rfl rfl (fun _ _ q => by obtain ⟨_, _, _, q⟩ := q; exact q.1) (h_ceS (T := T) (n := n) (b := b) (Q := Q) (wl := False) (by simp) hI17 k18.1.1.2.1 (by omega) (mQ_fr k18.1.1.1 (mQ_241 hm14 hb01 (by omega) (by omega) (mQ_fr k15.1.1.1 (mQ_fr k5.1.1.1 hQ)))) hq k18.1.2 (by omega)))) ?_
      rintro _ m19 ⟨v21, rfl, hm19, k20⟩
      show yR zpg tX12_folking (d + 5) (72, [(1, .int x12), (0, .ref 221)], [.int v21, .int x12, .ref 234], m19) _
      refine wN_as (a := ((6 * (gi m4 221 34).toInt) + (gn (ga m4 233) (gi m4 221 34).toInt))) rfl aR_234 hm19 e13 (by omega) ?_
      have hm_2 : aTm aT0 (sx m19 234 x12 v21) := tm_sa aR_234 hm19 (by omega)
      refine yR_m 2 (fun _ _ _ _ => rfl) ?_
      refine wR_cv rfl rfl mO_e hm_2 rfl (pk_v (h_cy (b8 := (gi m19 221 8).toInt) rfl (gi_sa) (gi_sa) ((ga_sa_ne (by decide))) ((ga_sa_ne (by decide))) ((ga_sa_ne (by decide))) ((ga_sa_ne (by decide))) (fun _ _ q => q.2.2.1) (h_mustWS (T := T) (n := n) (k := 11) (by decide) (by decide) hm_2 (tOK_fr (ks := [223, 224, 225, 226, 227, 228, 229, 230, 231, 232, 233, 234, 235, 236, 237, 240, 241]) (is := [8, 9]) (fr_sa rfl (fr_rf)) rfl rfl rfl rfl (by show 0 ≤ (gi (sx m19 234 x12 v21) 221 8).toInt; rw [(gi_sa)]; exact k20.1.1.2.1.2) k20.1.1.2.1) (mS_sa (by decide) k20.1.2.2.1) (by omega)))) ?_
      rintro _ m22 ⟨rfl, hI22, k23⟩
      show yR zpg tX12_folking (d + 5) (80, [(1, .int x12), (0, .ref 221)], [], m22) _
      refine yR_m 1 (fun _ _ _ _ => rfl) ?_
      refine wR_gr rfl mO_e mO_26 hI22 ?_
      refine yR_m 3 (fun _ _ _ _ => rfl) ?_
      refine wR_cv rfl rfl mO_e hI22 rfl (pk_i (h_cy (b8 := (gi m22 221 8).toInt) rfl rfl rfl rfl rfl rfl rfl (fun _ _ q => by obtain ⟨_, _, _, q⟩ := q; exact q.1) (h_ceS (T := T) (n := n) (b := b) (Q := Q) (wl := False) (by simp) hI22 k23.1.1.2.1 (by omega) (mQ_fr k23.1.1.1 (mQ_234 hm19 hb01 (by omega) (by omega) (mQ_fr k20.1.1.1 (mQ_fr k18.1.1.1 (mQ_241 hm14 hb01 (by omega) (by omega) (mQ_fr k15.1.1.1 (mQ_fr k5.1.1.1 hQ))))))) hq k23.1.2 (by omega)))) ?_
      rintro _ m24 ⟨v26, rfl, hm24, k25⟩
      show yR zpg tX12_folking (d + 5) (90, [(1, .int x12), (0, .ref 221)], [.int v26, .int x12, .ref 235], m24) _
      refine wN_as (a := ((6 * (gi m4 221 34).toInt) + (gn (ga m4 233) (gi m4 221 34).toInt))) rfl aR_235 hm24 e13 (by omega) ?_
      have hm_3 : aTm aT0 (sx m24 235 x12 v26) := tm_sa aR_235 hm24 (by omega)
      refine yR_m 1 (fun _ _ _ _ => rfl) ?_
      refine wR_gi rfl mO_e mO_8 hm_3 (gi_sa) ?_
      refine wR_if_ne rfl (a := (gi m24 221 8).toInt) rfl (fun q27 => ?_) (fun q27 => ?_)
      ·
        exact yR_rv rfl (h1 y1 e2 q3 v6 m4 hm4 k5 q7 x8 e9 y10 e11 x12 e13 v16 m14 hm14 k15 m17 hI17 k18 v21 m19 hm19 k20 m22 hI22 k23 v26 m24 hm24 k25 q27 hm_3)
      ·
        refine yR_m 1 (fun _ _ _ _ => rfl) ?_
        refine wR_gr rfl mO_e mO_24 hm_3 ?_
        refine yR_m 1 (fun _ _ _ _ => rfl) ?_
        refine wR_gi rfl mO_e mO_34 hm_3 (gi_sa) ?_
        refine yR_m 1 (fun _ _ _ _ => rfl) ?_
        refine wN_al (a := (gi m24 221 34).toInt) rfl aR_233 hm_3 (ga_sa_ne (by decide)) rfl (by omega) (fun y28 e29 => ?_)
        refine yR_m 1 (fun _ _ _ _ => rfl) ?_
        refine wN_add (a := (gn (ga m24 233) (gi m24 221 34).toInt)) (b := 1) rfl e29 rfl (by omega) (fun x30 e31 => ?_)
        refine wN_as (a := (gi m24 221 34).toInt) rfl aR_233 hm_3 rfl (by omega) ?_
        have hm_4 : aTm aT0 (sx (sx m24 235 x12 v26) 233 (gi m24 221 34) x30) := tm_sa aR_233 hm_3 (by rw [e31]; exact (by omega))
        exact yR_rv rfl (h2 y1 e2 q3 v6 m4 hm4 k5 q7 x8 e9 y10 e11 x12 e13 v16 m14 hm14 k15 m17 hI17 k18 v21 m19 hm19 k20 m22 hI22 k23 v26 m24 hm24 k25 q27 y28 e29 x30 e31 hm_4)
    ·
      exact yR_rv rfl (h3 y1 e2 q3 v6 m4 hm4 k5 q7 hm4)
  ·
    refine yR_m 2 (fun _ _ _ _ => rfl) ?_
    refine wR_cv rfl rfl mO_e hm rfl (pk_i (h_cy (b8 := (gi mem 221 8).toInt) rfl rfl rfl rfl rfl rfl rfl (fun _ _ q => by obtain ⟨_, _, _, q⟩ := q; exact q.1) (h_cnS (T := T) (n := n) (ci := (1 : Int)) rfl hm hT sg hS (by omega)))) ?_
    rintro _ m32 ⟨v34, rfl, hm32, k33⟩
    show yR zpg tX12_folking (d + 5) (23, [(0, .ref 221)], [.int v34], m32) _
    refine wR_if_ne rfl (a := (v34).toInt) rfl (fun q35 => ?_) (fun q35 => ?_)
    ·
      refine yR_m 2 (fun _ _ _ _ => rfl) ?_
      refine wR_gi rfl mO_e mO_34 hm32 rfl ?_
      refine wN_mul (a := 6) (b := (gi m32 221 34).toInt) rfl rfl rfl (by omega) (fun x36 e37 => ?_)
      refine yR_m 1 (fun _ _ _ _ => rfl) ?_
      refine wR_gr rfl mO_e mO_24 hm32 ?_
      refine yR_m 1 (fun _ _ _ _ => rfl) ?_
      refine wR_gi rfl mO_e mO_34 hm32 rfl ?_
      refine wN_al (a := (gi m32 221 34).toInt) rfl aR_233 hm32 rfl rfl (by omega) (fun y38 e39 => ?_)
      refine wN_add (a := (6 * (gi m32 221 34).toInt)) (b := (gn (ga m32 233) (gi m32 221 34).toInt)) rfl e37 e39 (by omega) (fun x40 e41 => ?_)
      refine yR_m 2 (fun _ _ _ _ => rfl) ?_
      refine wR_gr rfl mO_e mO_32 hm32 ?_
      refine yR_m 2 (fun _ _ _ _ => rfl) ?_
      refine wR_cv rfl rfl mO_e hm32 rfl (pk_l (h_cy (b8 := (gi m32 221 8).toInt) rfl rfl rfl rfl rfl rfl rfl (fun _ _ q => by obtain ⟨_, _, _, q⟩ := q; exact q.1) (h_frS5 (T := T) (n := n) (b := b) (Q := Q) hm32 k33.1.1.2.1 (by omega) (mQ_fr k33.1.1.1 hQ) k33.1.2.1 (by omega)))) ?_
      rintro _ m42 ⟨v44, rfl, hm42, k43⟩
      show yR zpg tX12_folking (d + 5) (54, [(1, .int x40), (0, .ref 221)], [.long v44, .int x40, .ref 241], m42) _
      refine wN_las (a := ((6 * (gi m32 221 34).toInt) + (gn (ga m32 233) (gi m32 221 34).toInt))) rfl aR_241 hm42 e41 (by omega) ?_
      have hm_5 : aTm aT0 (sX m42 241 x40 v44) := tm_sA aR_241 hm42
      refine yR_m 2 (fun _ _ _ _ => rfl) ?_
      refine wR_cv rfl rfl mO_e hm_5 rfl (pk_v (h_cy (b8 := (gi m42 221 8).toInt) rfl (gi_sA) (gi_sA) ((ga_sA)) ((ga_sA)) ((ga_sA)) ((ga_sA)) (fun _ _ q => q.2.2.1) (h_mustWS (T := T) (n := n) (k := 6) (by decide) (by decide) hm_5 (tOK_fr (ks := [223, 224, 225, 226, 227, 228, 229, 230, 231, 232, 233, 234, 235, 236, 237, 240, 241]) (is := [8, 9]) (fr_sA rfl (fr_rf)) rfl rfl rfl rfl (by show 0 ≤ (gi (sX m42 241 x40 v44) 221 8).toInt; rw [(gi_sA)]; exact k43.1.1.2.1.2) k43.1.1.2.1) (mS_sA k43.1.2.1) (by omega)))) ?_
      rintro _ m45 ⟨rfl, hI45, k46⟩
      show yR zpg tX12_folking (d + 5) (62, [(1, .int x40), (0, .ref 221)], [], m45) _
      refine yR_m 1 (fun _ _ _ _ => rfl) ?_
      refine wR_gr rfl mO_e mO_25 hI45 ?_
      refine yR_m 3 (fun _ _ _ _ => rfl) ?_
      refine wR_cv rfl rfl mO_e hI45 rfl (pk_i (h_cy (b8 := (gi m45 221 8).toInt) rfl rfl rfl rfl rfl rfl rfl (fun _ _ q => by obtain ⟨_, _, _, q⟩ := q; exact q.1) (h_ceS (T := T) (n := n) (b := b) (Q := Q) (wl := False) (by simp) hI45 k46.1.1.2.1 (by omega) (mQ_fr k46.1.1.1 (mQ_241 hm42 hb01 (by omega) (by omega) (mQ_fr k43.1.1.1 (mQ_fr k33.1.1.1 hQ)))) hq k46.1.2 (by omega)))) ?_
      rintro _ m47 ⟨v49, rfl, hm47, k48⟩
      show yR zpg tX12_folking (d + 5) (72, [(1, .int x40), (0, .ref 221)], [.int v49, .int x40, .ref 234], m47) _
      refine wN_as (a := ((6 * (gi m32 221 34).toInt) + (gn (ga m32 233) (gi m32 221 34).toInt))) rfl aR_234 hm47 e41 (by omega) ?_
      have hm_6 : aTm aT0 (sx m47 234 x40 v49) := tm_sa aR_234 hm47 (by omega)
      refine yR_m 2 (fun _ _ _ _ => rfl) ?_
      refine wR_cv rfl rfl mO_e hm_6 rfl (pk_v (h_cy (b8 := (gi m47 221 8).toInt) rfl (gi_sa) (gi_sa) ((ga_sa_ne (by decide))) ((ga_sa_ne (by decide))) ((ga_sa_ne (by decide))) ((ga_sa_ne (by decide))) (fun _ _ q => q.2.2.1) (h_mustWS (T := T) (n := n) (k := 11) (by decide) (by decide) hm_6 (tOK_fr (ks := [223, 224, 225, 226, 227, 228, 229, 230, 231, 232, 233, 234, 235, 236, 237, 240, 241]) (is := [8, 9]) (fr_sa rfl (fr_rf)) rfl rfl rfl rfl (by show 0 ≤ (gi (sx m47 234 x40 v49) 221 8).toInt; rw [(gi_sa)]; exact k48.1.1.2.1.2) k48.1.1.2.1) (mS_sa (by decide) k48.1.2.2.1) (by omega)))) ?_
      rintro _ m50 ⟨rfl, hI50, k51⟩
      show yR zpg tX12_folking (d + 5) (80, [(1, .int x40), (0, .ref 221)], [], m50) _
      refine yR_m 1 (fun _ _ _ _ => rfl) ?_
      refine wR_gr rfl mO_e mO_26 hI50 ?_
      refine yR_m 3 (fun _ _ _ _ => rfl) ?_
      refine wR_cv rfl rfl mO_e hI50 rfl (pk_i (h_cy (b8 := (gi m50 221 8).toInt) rfl rfl rfl rfl rfl rfl rfl (fun _ _ q => by obtain ⟨_, _, _, q⟩ := q; exact q.1) (h_ceS (T := T) (n := n) (b := b) (Q := Q) (wl := False) (by simp) hI50 k51.1.1.2.1 (by omega) (mQ_fr k51.1.1.1 (mQ_234 hm47 hb01 (by omega) (by omega) (mQ_fr k48.1.1.1 (mQ_fr k46.1.1.1 (mQ_241 hm42 hb01 (by omega) (by omega) (mQ_fr k43.1.1.1 (mQ_fr k33.1.1.1 hQ))))))) hq k51.1.2 (by omega)))) ?_
      rintro _ m52 ⟨v54, rfl, hm52, k53⟩
      show yR zpg tX12_folking (d + 5) (90, [(1, .int x40), (0, .ref 221)], [.int v54, .int x40, .ref 235], m52) _
      refine wN_as (a := ((6 * (gi m32 221 34).toInt) + (gn (ga m32 233) (gi m32 221 34).toInt))) rfl aR_235 hm52 e41 (by omega) ?_
      have hm_7 : aTm aT0 (sx m52 235 x40 v54) := tm_sa aR_235 hm52 (by omega)
      refine yR_m 1 (fun _ _ _ _ => rfl) ?_
      refine wR_gi rfl mO_e mO_8 hm_7 (gi_sa) ?_
      refine wR_if_ne rfl (a := (gi m52 221 8).toInt) rfl (fun q55 => ?_) (fun q55 => ?_)
      ·
        exact yR_rv rfl (h4 y1 e2 q3 v34 m32 hm32 k33 q35 x36 e37 y38 e39 x40 e41 v44 m42 hm42 k43 m45 hI45 k46 v49 m47 hm47 k48 m50 hI50 k51 v54 m52 hm52 k53 q55 hm_7)
      ·
        refine yR_m 1 (fun _ _ _ _ => rfl) ?_
        refine wR_gr rfl mO_e mO_24 hm_7 ?_
        refine yR_m 1 (fun _ _ _ _ => rfl) ?_
        refine wR_gi rfl mO_e mO_34 hm_7 (gi_sa) ?_
        refine yR_m 1 (fun _ _ _ _ => rfl) ?_
        refine wN_al (a := (gi m52 221 34).toInt) rfl aR_233 hm_7 (ga_sa_ne (by decide)) rfl (by omega) (fun y56 e57 => ?_)
        refine yR_m 1 (fun _ _ _ _ => rfl) ?_
        refine wN_add (a := (gn (ga m52 233) (gi m52 221 34).toInt)) (b := 1) rfl e57 rfl (by omega) (fun x58 e59 => ?_)
        refine wN_as (a := (gi m52 221 34).toInt) rfl aR_233 hm_7 rfl (by omega) ?_
        have hm_8 : aTm aT0 (sx (sx m52 235 x40 v54) 233 (gi m52 221 34) x58) := tm_sa aR_233 hm_7 (by rw [e59]; exact (by omega))
        exact yR_rv rfl (h5 y1 e2 q3 v34 m32 hm32 k33 q35 x36 e37 y38 e39 x40 e41 v44 m42 hm42 k43 m45 hI45 k46 v49 m47 hm47 k48 m50 hI50 k51 v54 m52 hm52 k53 q55 y56 e57 x58 e59 hm_8)
    ·
      exact yR_rv rfl (h6 y1 e2 q3 v34 m32 hm32 k33 q35 hm32)

theorem h_folF (hm : aTm aT0 mem) (hT : tOK mem) (sg : ¬ (gi mem 221 3).toInt = 0) (hS : mS T n s mem) (hs : s = some p) (hb : (gi mem 221 34).toInt = b) (hQ : mQ b Q mem) (hq : (3 ≤ Qc Q ∧ Qc Q ≤ 7) ∧ 3 ≤ Qr Q ∧ Qr Q ≤ 7) (hd : 6 ≤ d) : yC zpg d 202 [.ref 221] mem (fun r m => stR T n b (oif ((Qf Q).length < 6) (sFol T n Q (tkf T n p).2)) m) := by
  obtain ⟨d, rfl⟩ : ∃ q, d = q + 6 := ⟨d - 6, by omega⟩
  obtain ⟨i0, i1⟩ := mO_r34 hm
  have hb01 : 0 ≤ b ∧ b ≤ 1 := by omega
  have fki := gR_233 hm (i := (gi mem 221 34).toInt) i0 (by omega)
  have fl : gn (ga mem 233) (gi mem 221 34).toInt = ((Qf Q).length : Int) := by rw [hb]; exact hQ.2.2.2.2.1.1
  refine yC_of (t := tX12_folking) rfl rfl ?_
  exact w_folkingF (T := T) (n := n) (b := b) (s := s) (Q := Q) hm hT sg hS hb hQ hq
        (fun y1 e2 q3 v6 m4 hm4 k5 q7 x8 e9 y10 e11 x12 e13 v16 m14 hm14 k15 m17 hI17 k18 v21 m19 hm19 k20 m22 hI22 k23 v26 m24 hm24 k25 q27 hm2 => by
          have E1 := cn_s (T := T) (n := n) (c := ((0 : Int) = 0)) hs rfl
          have KL := k25.1.2.2.1
          rw [E1, ← sFol_pos] at KL
          rcases KL with ⟨q, -, w, -⟩ | ⟨w, f⟩
          · exfalso
            have w2 : (gi m24 221 8).toInt = 0 := w
            omega
          · refine stR_no ?_ (by show 1 ≤ (gi (sx m24 235 x12 v26) 221 8).toInt; rw [(gi_sa)]; exact f)
            rw [mp_none w]
            unfold oif
            split <;> rfl)
        (fun y1 e2 q3 v6 m4 hm4 k5 q7 x8 e9 y10 e11 x12 e13 v16 m14 hm14 k15 m17 hI17 k18 v21 m19 hm19 k20 m22 hI22 k23 v26 m24 hm24 k25 q27 y28 e29 x30 e31 hm2 => by
          have E1 := cn_s (T := T) (n := n) (c := ((0 : Int) = 0)) hs rfl
          have KL := k25.1.2.2.1
          rw [E1, ← sFol_pos] at KL
          rcases KL with ⟨p', e', f2, r2⟩ | ⟨-, f⟩
          · obtain ⟨x, hR, ex⟩ := om_s e'
            have hR0 := hR
            unfold sFol at hR
            obtain ⟨a, ha, R1⟩ := ob_s hR
            obtain ⟨p2, h2, R2⟩ := ob_s R1
            obtain ⟨cc, hc, R3⟩ := ob_s R2
            obtain ⟨p4, h4, R4⟩ := ob_s R3
            obtain ⟨hh, h5, R7⟩ := om_s R4
            have V1 := k15.1.2.2
            rw [E1] at V1
            have V1 := V1 _ a rfl ha
            have V2 := k20.1.2.2.2
            rw [E1, fre_p ha] at V2
            have V2 := V2 p2 cc h2 hc
            have V3 := k25.1.2.2.2
            rw [E1, fre_p ha, show (some a.2).bind (sOwn T n 6) = some p2 from h2, cel_p hc] at V3
            have V3 := V3 p4 hh h4 h5
            have G1 : gA (sx m24 235 x12 v26) 241 = ((gA m14 241).set x12.toNatClampNeg v16) := ((gA_sa).trans ((fr_gA2 k25.1.1.1 (by decide)).trans ((fr_gA2 k23.1.1.1 (by decide)).trans ((gA_sa).trans ((fr_gA2 k20.1.1.1 (by decide)).trans ((fr_gA2 k18.1.1.1 (by decide)).trans gA_sA_eq))))))
            have G2 : ga (sx m24 235 x12 v26) 234 = ((ga m19 234).set x12.toNatClampNeg v21) := ((ga_sa_ne (by decide)).trans ((fr_ga k25.1.1.1 (by decide) rfl).trans ((fr_ga k23.1.1.1 (by decide) rfl).trans ga_sa_eq)))
            have G3 : ga (sx m24 235 x12 v26) 235 = ((ga m24 235).set x12.toNatClampNeg v26) := ga_sa_eq
            have gl1 : (gA m14 241).length = 12 := (gA_ty aR_241 hm14).2
            have gl2 := gl_234 hm19
            have gl3 := gl_235 hm24
            refine Or.inl ⟨x.1, x.2, by rw [oif_t (by omega), hR0], by show (gi (sx (sx m24 235 x12 v26) 233 (gi m24 221 34) x30) 221 8).toInt = 0; rw [((gi_sa).trans (gi_sa))]; exact f2, by rw [ex]; exact mRd_sa (by decide) (mRd_sa (by decide) r2), ?_⟩
            rw [← R7]
            refine mQ_addF (tm_sa aR_235 hm24 (by show (0 : Int) ≤ _ ∧ _ ≤ (63 : Int); omega)) hb01 (by omega) (by omega) V1.2 ?_ ?_ ?_ (mQ_235 hm24 hb01 (by omega) (by omega) (mQ_fr k25.1.1.1 (mQ_fr k23.1.1.1 (mQ_234 hm19 hb01 (by omega) (by omega) (mQ_fr k20.1.1.1 (mQ_fr k18.1.1.1 (mQ_241 hm14 hb01 (by omega) (by omega) (mQ_fr k15.1.1.1 (mQ_fr k5.1.1.1 hQ)))))))))
            · rw [G1, gl_set (a := 6 * b + ((Qf Q).length : Int)) (by omega) (by omega) (by omega) (by omega), if_pos rfl]
              exact V1.1
            · rw [G2, gn_set (a := 6 * b + ((Qf Q).length : Int)) (by omega) (by omega) (by omega) (by omega), if_pos rfl]
              exact V2
            · rw [G3, gn_set (a := 6 * b + ((Qf Q).length : Int)) (by omega) (by omega) (by omega) (by omega), if_pos rfl]
              exact V3
          · exfalso
            have f' : 1 ≤ (gi m24 221 8).toInt := f
            omega)
        (fun y1 e2 q3 v6 m4 hm4 k5 q7 hm2 => by
          have E1 := cn_s (T := T) (n := n) (c := ((0 : Int) = 0)) hs rfl
          have K1 := k5.1.2.1
          rw [E1] at K1
          exfalso
          rcases K1 with ⟨q, -, w, -⟩ | ⟨w, -⟩
          · have w2 : (gi m4 221 8).toInt = 0 := w
            omega
          · cases w)
        (fun y1 e2 q3 v34 m32 hm32 k33 q35 x36 e37 y38 e39 x40 e41 v44 m42 hm42 k43 m45 hI45 k46 v49 m47 hm47 k48 m50 hI50 k51 v54 m52 hm52 k53 q55 hm2 => by exfalso; omega)
        (fun y1 e2 q3 v34 m32 hm32 k33 q35 x36 e37 y38 e39 x40 e41 v44 m42 hm42 k43 m45 hI45 k46 v49 m47 hm47 k48 m50 hI50 k51 v54 m52 hm52 k53 q55 y56 e57 x58 e59 hm2 => by exfalso; omega)
        (fun y1 e2 q3 v34 m32 hm32 k33 q35 hm2 => stR_no (oif_f (by omega)) (by show 1 ≤ (gi m32 221 8).toInt; omega))
end MU
