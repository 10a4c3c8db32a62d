def zFin (X : zX) (L : Nat) (xs : Nat → Int32) : Prop := ∃ (mE : zM) (n : Nat) (rec : zRec (Option Value × zM)), mE.length = 269 ∧ zsl mE ≤ 100000 ∧ zRecOk (zgL L xs) X 100 _ rec ∧ zgo (tL L xs) rec (fun r m => some (r, m)) n (0, [(0, .retAddr 3)], [], []) = some (some (.int 1), mE)
theorem aT0_len : aT0.length = 269 := by decide +kernel
theorem aTf_ln2 : ∀ (l : List (Bool × aTy)) (f : List Value), aTf l f → f.length = l.length
  | [], [], _ => rfl
  | _ :: r, _ :: q, h => by
    have e := aTf_ln2 r q h.2
    show q.length + 1 = r.length + 1
    rw [e]
  | [], _ :: _, h => h.elim
  | _ :: _, [], h => h.elim
theorem sz_ty {c : aCe} {e f : zE} (h : aTe c e) (k : aTe c f) : zsz e = zsz f := by
  unfold aTe at h k
  split at h
  · obtain ⟨l, rfl, h1, -⟩ := h
    obtain ⟨l', rfl, k1, -⟩ := k
    show l.length = l'.length
    rw [h1, k1]
  · obtain ⟨l, rfl, h1⟩ := h
    obtain ⟨l', rfl, k1⟩ := k
    show l.length = l'.length
    rw [h1, k1]
  · obtain ⟨l, rfl, h1, -⟩ := h
    obtain ⟨l', rfl, k1, -⟩ := k
    show l.length = l'.length
    rw [h1, k1]
  · obtain ⟨l, rfl, h1⟩ := h
    obtain ⟨l', rfl, k1⟩ := k
    show l.length = l'.length
    rw [aTf_ln2 _ _ h1, aTf_ln2 _ _ k1]
/-- the types say how many slots there are -/
theorem sl_ty : ∀ (T : List aCe) (a b : zM), a.length = T.length → b.length = T.length → (∀ k c, aat T k = some c → ∃ e, zat a k = some e ∧ aTe c e) → (∀ k c, aat T k = some c → ∃ e, zat b k = some e ∧ aTe c e) → zsl a = zsl b := by
  intro T
  induction T with
  | nil =>
    intro a b ha hb _ _
    rw [List.length_eq_zero_iff.1 ha, List.length_eq_zero_iff.1 hb]
  | cons c r ih =>
    intro a b ha hb h1 h2
    cases a with
    | nil => cases ha
    | cons e a =>
      cases b with
      | nil => cases hb
      | cons f b =>
        obtain ⟨e1, z1, t1⟩ := h1 0 c rfl
        obtain ⟨f1, z2, t2⟩ := h2 0 c rfl
        have z1 : e = e1 := Option.some.inj z1
        have z2 : f = f1 := Option.some.inj z2
        subst z1
        subst z2
        have hr := ih a b (Nat.succ.inj ha) (Nat.succ.inj hb) (fun k c h => h1 (k + 1) c h) (fun k c h => h2 (k + 1) c h)
        have hh : zsz e = zsz f := sz_ty t1 t2
        show zsz e + zsl a = zsz f + zsl b
        rw [hh, hr]
theorem zfin (X : zX) {L : Nat} (xs : Nat → Int32) (hL : L ≤ 3072) : zFin X L xs := by
  obtain ⟨F0, r, mE, ⟨rfl, hJ⟩, e⟩ := law_loop (xs := xs) (d := 100) hL (by decide) 3072 0 0 _ _ _ _ zfm (by show (L : Int) ≤ 0 + 3072; omega) (by decide) (by decide) zfm_J6 zfm_sm
  refine ⟨mE, F0 + 10, zor 111 [.ref 0] [.inr (11, zdfX11)] none zfx (zor 164 [.ref 221] zfy none zfm (zrun zpg F0 100 _)), hJ.1, ?_, zor_ok (z_ix X).1 (z_weak (z_ix X).2) (zor_ok (z_im X).1 (z_weak (z_im X).2) (fun j av m κ y hy => ?_)), ?_⟩
  · rw [sl_ty aT0 mE zfm (hJ.1.trans aT0_len.symm) (zfm_len.trans aT0_len.symm) hJ.2 zfm_ty.2]
    exact zfm_sl
  · obtain ⟨r1, m1, e1, l1, M1⟩ := z_sound (zex_ok X) zpok 100 _ _ _ _ _ _ hy
    exact ⟨r1, m1, e1, l1, z_weak M1⟩
  · rw [zlaw_pre zor_yes (fun κ => (zor_no (by decide)).trans (zor_yes κ))]
    exact e F0 F0 _ _ _ (Nat.le_refl _) (Nat.le_refl _) (fun j av m κ' h1 h2 => (zor_no h1).trans (zor_no h2))
theorem z_mono {p : Program} {l : Launch} {e : Env} {R : Room} {s : State} {m : MethodId} {args : Array Value} {below : List Frame} {meth : Method} {c : Code} {H : Heap} {locs : List Loc} {cells slots : Nat} {Q Q' : State → Prop} {f : JFrame} (h : ∀ t, Q t → Q' t) (k : W p l e R s m args below meth c H locs cells slots Q f) : W p l e R s m args below meth c H locs cells slots Q' f := fun T hT X => by
  obtain ⟨t, a, b⟩ := k T hT X
  exact ⟨t, a, h t b⟩

-- ===== YOUR PART BEGINS =====
theorem whole_start {p : Program} {e : Env} {s : State} {m : MethodId} {below : List Frame} {meth : Method} {c : Code} (l : Launch) (hflags : l.flags = flags0) {b L : Nat} {xs : Nat → Int32} (hL : L ≤ 3072) (C0 : lw_At p s m meth c b L xs) : W p l e room_1 s m #[Value.ref b] below meth c s.heap [] 0 0 (lw_Z below #[Value.ref b] s) (entryFrame m ([Value.ref b] : List Value).toArray 4) := by
  obtain ⟨hx, hb, hr, hml, hown, hts, hX, hbl, hlocks, hgv⟩ := id C0
  obtain ⟨X, rfl, hXh, hX3, hK, hE⟩ := z_start l hts hX hbl hgv
  obtain ⟨mE, nE, rec, hm1, hsz, hrec, hgo⟩ := zfin X xs hL
  obtain ⟨r, mem', k1, k2, k3⟩ := zgo_s (zexL_ok L xs X) (kL L xs) hrec nE _ hgo
  simp only [Option.some.injEq, Prod.mk.injEq] at k1
  obtain ⟨rfl, rfl⟩ := k1
  have hC : zC (zgL L xs) X iL_law 100 0 p room_1 s m #[Value.ref b] meth c := ⟨hx, hb, hml, hown, fun w hw => hts w (List.mem_filter.mp hw).1, hK, ⟨hE, b, hX3, by rw [hXh]; exact hbl, hX⟩, by rw [hXh]; rfl, hlocks, hr, fun q => absurd q (by decide), by decide, by decide⟩
  have hl := lv_entry ([.ref b]) (n := 4) (Nat.le_of_ble_eq_true rfl)
  rw [lg_entry_eq]
  generalize (lg_sl ([.ref b]) ++ List.replicate (4 - (lg_sl ([.ref b])).length) Slot.unset).toArray = ls at hl ⊢
  have hl : lv_has ls 4 (zlm (zH X) (zx X) [(0, .retAddr 3)]) := by
    have e1 : zlm (zH X) (zx X) [(0, .retAddr 3)] = [(0, .ref b)] := by
      show [(0, va_rf (zx X 3))] = _
      rw [hX3]
      rfl
    rw [e1]
    exact hl
  have := k3 0 0 p e room_1 s m #[Value.ref b] below meth c hC (by rw [hm1]; decide) (by show zsl mem' ≤ 0 + 7302250; omega) s.heap [] ls (Nat.le_refl _) (Nat.le_refl _) (fun k q h => by simp [zws] at h) va_S.rf hl
  refine z_mono ?_ this
  rintro t ⟨o, a1, a2, ⟨a3, -, -⟩, Lo, ⟨a4, a5, a6⟩, a7⟩
  refine ⟨o, a1, a2, a3, a4, a5, a6.weaken (fun y hy hlt => ?_) (by rw [hm1]; decide) (by omega)⟩
  have h9 : zH X ≤ y.base := a7 y hy
  rw [hXh] at h9
  exact absurd hlt (Nat.not_lt.mpr h9)
-- ===== YOUR PART ENDS =====
set_option maxHeartbeats 4000000 in
theorem lw_walk (l : Launch) (hflags : l.flags = flags0) (b : Addr) (xs : List Int32) : MetFree l x (headSpec (Jvm.Cond.code x code maxLocals ret :: tables_1) room_1) (lw_P b xs) (fun _ _ _ _ _ => True) lw_Q := by
  refine MetFree.of_bodyS (code := code) (maxLocals := maxLocals) (ret := ret) (by decide) ?_ ?_
  · intro args s m h hn
    obtain ⟨meth, c, h1, h2, h3, h4, h5, h6, -, -⟩ := Cond.code_spec hn (atoms_spec (ws := Jvm.Cond.code x code maxLocals ret :: tables_1) h _ List.mem_cons_self)
    exact ⟨meth, c, h1, h2, h3, h4, h5, h6⟩
  · intro p e s m args below meth c s₁ B hml0 hP _
    obtain ⟨rfl, hx, hbd, hgv⟩ := hP
    obtain ⟨scr, harrAt, hlist, hof, hsmall⟩ := hx
    obtain ⟨hcb, hkn, -, -⟩ := State.arrayAt?_spec harrAt
    have hown : s.vm.findClass R_law = some m.cls := findClass_of_methodNamed B.named
    have hts0 : ∀ c ∈ (Jvm.Cond.code x code maxLocals ret :: tables_1), c.before #[Value.ref b] s = true := atoms_spec (ws := Jvm.Cond.code x code maxLocals ret :: tables_1) B.pre
    have hts : ∀ w ∈ lw_tbl, w.before #[Value.ref b] s = true := k2_hts_sels lw_privs (fun w hw => hts0 w (List.mem_cons_of_mem _ hw)) lw_privs_ok
    have hml : c.maxLocals = 4 := B.maxLocals_eq (hts0 _ List.mem_cons_self)
    have X₀ : Stand p l e room_1 s m #[Value.ref b] below meth c s₁ [] 0 0 := Stand.of_body B
    have hh0 : s₁.heap = s.heap := by rw [B.state]; rfl
    have hsz : scr.slots.size = xs.length := by rw [← Array.length_toList, hlist, List.length_map]
    have hval : ∀ j : Nat, j < xs.length → scr.slots[j]? = some (.int (xs.getD j 0)) := fun j hj => by
      rw [← Array.getElem?_toList, hlist]
      simp [hj]
    have hbl : b < s.heap.size := (Array.getElem?_eq_some_iff.mp hcb).1
    have hX : va_X b xs.length (fun j => xs.getD j 0) s s.heap := ⟨scr, hcb, hof, hkn, hsz, hval⟩
    have K : W p l e room_1 s m #[Value.ref b] below meth c s₁.heap [] 0 0 (lw_Z below #[Value.ref b] s) (entryFrame m ([Value.ref b] : List Value).toArray 4) := by
      rw [hh0]
      exact whole_start l hflags hbd ⟨B.exec, B.bytes, B.returns, hml, hown, hts, hX, hbl, B.notSynchronized, hgv⟩
    obtain ⟨t, a1, o, b1, b2, b3⟩ := K s₁ rfl X₀
    exact ⟨t, o, a1, b1, b2, b3⟩
theorem lw_pre_spec {args : Array Value} {s : State} (h : (Jvm.Cond.and given_1 narrow_1).before args s = true) (hr : rest_1_c.before args s = true) : ∃ (b : Addr) (xs : List Int32), lw_P b xs args s := by
  have hs := flat_of_before _ h
  have hq := flat_of_before _ hr
  have hc : (Cond.count 1).before args s = true := hs _ (by decide +kernel)
  have harr : (Cond.arrayOf (.arg 0) .int).before args s = true := hs _ (by decide +kernel)
  have hle : (Cond.le (.length (.arg 0)) (.int 3072)).before args s = true := hs _ (by decide +kernel)
  have hlen : (Cond.isInt (.length (.arg 0))).before args s = true := hq _ (by decide +kernel)
  have hall : (Cond.all (.arg 0) (.isInt (.elem (.arg 0) (.index 0)))).before args s = true := hq _ (by decide +kernel)
  obtain ⟨b, xs, hb, hx⟩ := State.ints_of_pre rfl harr hlen hall
  have hsm : xs.length < 2 ^ 31 := hx.choose_spec.2.2.2
  have hev : (Term.length (.arg 0)).eval args s none [] s = some (.int xs.length.toInt32) := hx.length_eval hb
  have hv := Cond.le_ints hev (show (Term.int 3072).eval args s none [] s = some (.int 3072) from rfl)
  have hd : xs.length.toInt32 ≤ 3072 := by
    simpa [Cond.before, Cond.holds, hv] using hle
  have hN : xs.length ≤ 3072 := (Int32.ofNat_le_ofNat hsm (by decide)).mp (show Int32.ofNat xs.length ≤ Int32.ofNat 3072 from hd)
  exact ⟨b, xs, Cond.one_arg hc (show args[0]? = some (.ref b) from hb), hx, hN, h⟩
theorem lw_comes (l : Launch) (hflags : l.flags = flags0) : Comes l x (Jvm.Cond.code x code maxLocals ret :: tables_1) room_1 (fun tb e args s => Calls_1 tb e args s ∧ rest_1 tb e args s ∧ Pre_1 tb e args s)
    (fun _ _ args s o t => lw_Q args s o t) := by
  intro p e ha hc hk s m args below hf hfit hheap happ hpre
  obtain ⟨b, xs, hP⟩ := lw_pre_spec hpre.2.2 hpre.2.1
  obtain ⟨k, o, h1, h2, h3, hQ⟩ := lw_walk l hflags b xs p e ha hc hk s m args below hf ((Spec.applies_iff_loose hf).mp happ).1 hP trivial
  exact ⟨k, o, h1, h2, h3, hQ⟩
theorem lw_frame {s t : State} {o : Outcome} {args : Array Value} (h : Framed s o t [] 600000 7302250) :
    Framed s o t (fieldLocs frame_1_writes args s ++ arrayLocs frame_1_arrays args s ++ staticLocs frame_1_statics s) 600000 7302250 := h
theorem lw_limb (L : Cond) (hL : ∀ (args : Array Value) (s t : State), L.after args s (.returned (some (.int 1))) t = true) :
    ArmFor flags0 classFile x code maxLocals ret World_1 tables_1 room_1 Calls_1 rest_1 Pre_1
      (fun tb e a s o t => postC L tb e a s o t ∧ Framed s o t (fieldLocs frame_1_writes a s ++ arrayLocs frame_1_arrays a s ++ staticLocs frame_1_statics s) 600000 7302250) := by
  intro l hflags _ _ p e ha hc hk s m args below hf hfit hheap happ hpre
  obtain ⟨k, o, h1, h2, h3, rfl, hF⟩ := lw_comes l hflags p e ha hc hk s m args below hf hfit hheap happ hpre
  exact ⟨k, _, h1, h2, h3, hL args s _, lw_frame hF⟩
theorem i_vc : Claimed_1_1 ∧ Claimed_1_2 := ⟨lw_limb limb_1_1 (fun args s t => by simp [limb_1_1, Cond.after, Cond.holds, Cond.value]), lw_limb limb_1_2 (fun args s t => Cond.after_iff.mpr (by
  first | (rw [show limb_1_2 = Cond.eq .result (.int 1) from rfl, Cond.eq_ints (x := 1) (y := 1) rfl rfl]; simp; done) | (simp [limb_1_2, Cond.value, Term.eval]; done)))⟩
