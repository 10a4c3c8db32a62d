/-! the model's quay from its first sign on, by what it means -/
section QN
variable {d : Nat} {mr mem m : zM} {T : List Int32} {n p b : Int} {Q : Qd} {v : Option (Int × Qd)} {w : Nat → Int → Int}
def qH (mr : zM) : Prop := (gi mr 221 8).toInt = 0 ∧ (gi mr 221 5).toInt = 0 ∧ (gi mr 221 34).toInt = 1 - (gi mr 221 13).toInt ∧ 0 ≤ (gi mr 221 13).toInt ∧ (gi mr 221 13).toInt ≤ 1
/-- nothing told yet -/
def qC (b : Int) (m : zM) : Prop := (gn (ga m 228) b = 0 ∧ gn (ga m 233) b = 0 ∧ (ga m 232).getD b.toNat 0 = 0) ∧ (∀ c, 0 ≤ c → c < 64 → gn (ga m 227) (64 * b + c) = 0) ∧ (∀ w, 0 ≤ w → w < 3 → gn (ga m 236) (3 * b + w) = -1) ∧ gn (ga m 225) b = 3 ∧ gn (ga m 226) b = 0
theorem bt_0 {i : Int} : ¬ bt 0 i := by
  unfold bt
  simp
theorem mQ_nw {x y pc : Int} (h1 : gn (ga m 228) b = 0) (h2 : gn (ga m 233) b = 0) (h3 : (ga m 232).getD b.toNat 0 = 0) (h4 : ∀ c, 0 ≤ c → c < 64 → gn (ga m 227) (64 * b + c) = 0) (h5 : ∀ w, 0 ≤ w → w < 3 → gn (ga m 236) (3 * b + w) = -1) (h6 : gn (ga m 225) b = pc) (hp : 0 ≤ pc ∧ pc ≤ 9) (h7 : gn (ga m 226) b = 0) (hx : gn (ga m 223) b = x) (hy : gn (ga m 224) b = y) : mQ b (x, y, [], [], [], [], [], [], pc, 0, []) m := by
  refine ⟨⟨hx, hy⟩, fun c c0 c1 => ?_, ⟨h1, fun i z hz => by cases hz⟩, fun i i0 i1 => ?_, ⟨h2, fun i z hz => by cases hz⟩, fun w w0 w1 => ?_, ⟨rfl, fun i z hz => by cases hz⟩, ⟨⟨h6, hp⟩, h7, (by show (0 : Int) ≤ 0; decide), (by show (0 : Int) ≤ 100; decide)⟩, fun w w0 w1 => ⟨fun c hc => (by cases hc), ⟨fun q => absurd q List.not_mem_nil, fun q => (by cases q)⟩⟩⟩
  · rw [h4 c c0 c1]
    exact ⟨fun q => absurd q (by decide), fun q => absurd q List.not_mem_nil⟩
  · rw [h3]
    exact ⟨fun q => absurd q bt_0, fun q => absurd q List.not_mem_nil⟩
  · rw [h5 w w0 w1]
    exact ⟨fun q => absurd rfl q, fun q => absurd q List.not_mem_nil⟩
theorem mQ_new {x y : Int} (h : qC b m) (hx : gn (ga m 223) b = x) (hy : gn (ga m 224) b = y) : mQ b (x, y, [], [], [], [], [], [], 3, 0, []) m := mQ_nw h.1.1 h.1.2.1 h.1.2.2 h.2.1 h.2.2.1 h.2.2.2.1 (by decide) h.2.2.2.2 hx hy
theorem qC_fr {ks is : List Nat} (F : fr ks is mem m) (h1 : ks.contains 228 = false) (h2 : ks.contains 233 = false) (h3 : ks.contains 232 = false) (h4 : ks.contains 227 = false) (h5 : ks.contains 236 = false) (h6 : ks.contains 225 = false) (h7 : ks.contains 226 = false) (h : qC b mem) : qC b m := by
  unfold qC
  rw [fr_ga F (by decide) h1, fr_ga F (by decide) h2, fr_ga F (by decide) h3, fr_ga F (by decide) h4, fr_ga F (by decide) h5, fr_ga F (by decide) h6, fr_ga F (by decide) h7]
  exact h
theorem sQua_s {x : (Int × Int) × Int} {e : Int} (hx : sSiz T n 0 = some x) (he : sFin T n 1 x.2 = some e) : sQua T n = sQL T n 1601 1 (x.1.1, x.1.2, [], [], [], [], [], [], 3, 0, []) e := by
  unfold sQua
  generalize (1601 : Nat) = N
  rw [hx]
  show (sFin T n 1 x.2).bind _ = _
  rw [he]
  rfl
theorem sQua_n (h : ((sSiz T n 0).map Prod.snd).bind (sFin T n 1) = none) : sQua T n = none := by
  unfold sQua
  generalize (1601 : Nat) = N
  cases hx : sSiz T n 0 with
  | none => rfl
  | some x =>
    rw [hx] at h
    have h4 : sFin T n 1 x.2 = none := h
    show (sFin T n 1 x.2).bind _ = none
    rw [h4]
    rfl
theorem sSiz_b {x : (Int × Int) × Int} (h : sSiz T n p = some x) : (3 ≤ x.1.1 ∧ x.1.1 ≤ 7) ∧ 3 ≤ x.1.2 ∧ x.1.2 ≤ 7 := by
  obtain ⟨p1, a, p3, -, h2, -, h4, h5⟩ := sSiz_ex h
  obtain ⟨c1, e1⟩ := oif_s h2
  obtain ⟨c2, e2⟩ := oif_s h4
  have e1 := Option.some.inj e1
  have e2 := Option.some.inj e2
  have f1 : (tkf T n p1).1.2.1 = a.1 := congrArg Prod.fst e1
  have f2 : (tkf T n p3).1.2.1 = x.1.2 := congrArg Prod.fst e2
  omega
theorem qG_i {x : (Int × Int) × Int} {e : Int} {f : Nat} (h2 : fk m = 0) (hf : 1600 < (gi m 221 4).toInt + (f : Int)) (hb : (gi m 221 34).toInt = b) (h3 : mRd T n e m) (hQ : mQ b (x.1.1, x.1.2, [], [], [], [], [], [], 3, 0, []) m) (hx : sSiz T n 0 = some x) (hv : v = sQL T n f 1 (x.1.1, x.1.2, [], [], [], [], [], [], 3, 0, []) e) : qG T n b f 1 v m := Or.inl ⟨h2, hf, hb, e, _, h3, hQ, sSiz_b hx, hv⟩
theorem h_ah7 {s5 s2 : Int32} (e5 : gi mem 221 5 = s5) (e2 : gi mem 221 2 = s2) (z5 : s5.toInt = 0) (hN : s2.toInt = n) (hT : ga mem 222 = T) (hn : 0 ≤ n) (hm : aTm aT0 mem) (hd : 2 ≤ d) : yC zpg d 173 [.ref 221] mem (fun r m => r = none ∧ aTm aT0 m ∧ (ahQ mem m ∧ mRd T n 0 m)) := by
  refine yC_mono (fun r m q => ?_) (yC_and (h_ahead2 hd hm e5 e2 (by omega)) (h_aheadF (T := T) (n := n) (p := 0) hm (by rw [e5]; exact z5) (by rw [e2]; exact hN) hT hn hd))
  obtain ⟨⟨q1, q2, q3⟩, t, e, k1, k2, k3⟩ := q
  exact ⟨q1, q2, q3, t, e, ⟨⟨by rw [fr_gi q3.1 rfl, e2]; exact hN, by rw [fr_ga q3.1 (by decide) rfl]; exact hT, by decide⟩, k1, k2, k3⟩⟩
theorem h_qua7 (hm : aTm aT0 mem) (hT : tOK mem) (hR : mRd T n 0 mem) (h8 : (gi mem 221 8).toInt = 0) (hb : (gi mem 221 34).toInt = b) (hd : 5 ≤ d) : yC zpg d 197 [.ref 221] mem (fun r m => r = none ∧ aTm aT0 m ∧ ((stQ [223, 224] mem m ∧ quE mem m) ∧ ((∃ x, sSiz T n 0 = some x ∧ fk m = 0 ∧ mRd T n x.2 m ∧ gn (ga m 223) b = x.1.1 ∧ gn (ga m 224) b = x.1.2) ∨ (sSiz T n 0 = none ∧ 1 ≤ fk m)) ∧ vB (1 - b) m = vB (1 - b) mem)) := by
  subst hb
  refine yC_mono (fun r m q => ?_) (yC_and (yC_and (h_quaying5 hm hT hd) (h_quaF hm hT (Or.inl ⟨0, rfl, h8, hR⟩) rfl hd)) (h_quayingB hm hT hd))
  exact ⟨q.1.1.1, q.1.1.2.1, q.1.1.2.2, q.1.2, q.2⟩
theorem siz_mS (h : (∃ x, sSiz T n 0 = some x ∧ fk m = 0 ∧ mRd T n x.2 m ∧ gn (ga m 223) b = x.1.1 ∧ gn (ga m 224) b = x.1.2) ∨ (sSiz T n 0 = none ∧ 1 ≤ fk m)) : mS T n ((sSiz T n 0).map Prod.snd) m := by
  rcases h with ⟨x, h1, h2, h3, -⟩ | ⟨h1, h2⟩
  · rw [h1]
    exact Or.inl ⟨x.2, rfl, h2, h3⟩
  · rw [h1]
    exact Or.inr ⟨rfl, h2⟩
theorem quM_g {X : zM} (e1 : gi X 221 13 = gi mem 221 13) (e2 : gi X 221 46 = gi mem 221 46) : ∀ (r : Option Value) (m : zM), quM w v X r m → quM w v mem r m := by
  intro r m h
  unfold quM at h ⊢
  rw [e1, e2] at h
  exact h
set_option maxRecDepth 100000 in
theorem w_qF_149 {d : Nat} {mem : zM} {P : Option Value → zM → Prop} {T : List Int32} {n b : Int} {lo : List (Nat × Value)} (hm : aTm aT0 mem) (l_0 : zlg lo 0 = some (.ref 221)) (h5 : (gi mem 221 5).toInt ≤ (gi mem 221 2).toInt) (h05 : (gi mem 221 5).toInt = 0) (hN : (gi mem 221 2).toInt = n) (hT : ga mem 222 = T) (h08 : (gi mem 221 8).toInt = 0) (h034 : (gi mem 221 34).toInt = b) (s1 : ∀ (m4 : zM), aTm aT0 m4 → (ahQ (si mem 221 33 0) m4 ∧ mRd T n 0 m4) → (gi m4 221 8).toInt = 0) (s2 : ∀ (m4 : zM), aTm aT0 m4 → (ahQ (si mem 221 33 0) m4 ∧ mRd T n 0 m4) → (gi m4 221 34).toInt = b) (s3 : ∀ (m4 : zM), aTm aT0 m4 → (ahQ (si mem 221 33 0) m4 ∧ mRd T n 0 m4) → tOK m4) (s4 : ∀ (m4 : zM), aTm aT0 m4 → (ahQ (si mem 221 33 0) m4 ∧ mRd T n 0 m4) → ∀ (m6 : zM), aTm aT0 m6 → ((stQ [223, 224] m4 m6 ∧ quE m4 m6) ∧ ((∃ x, sSiz T n 0 = some x ∧ fk m6 = 0 ∧ mRd T n x.2 m6 ∧ gn (ga m6 223) b = x.1.1 ∧ gn (ga m6 224) b = x.1.2) ∨ (sSiz T n 0 = none ∧ 1 ≤ fk m6)) ∧ vB (1 - b) m6 = vB (1 - b) m4) → tOK m6) (h1 : ∀ (m4 : zM), aTm aT0 m4 → (ahQ (si mem 221 33 0) m4 ∧ mRd T n 0 m4) → ∀ (m6 : zM), aTm aT0 m6 → ((stQ [223, 224] m4 m6 ∧ quE m4 m6) ∧ ((∃ x, sSiz T n 0 = some x ∧ fk m6 = 0 ∧ mRd T n x.2 m6 ∧ gn (ga m6 223) b = x.1.1 ∧ gn (ga m6 224) b = x.1.2) ∨ (sSiz T n 0 = none ∧ 1 ≤ fk m6)) ∧ vB (1 - b) m6 = vB (1 - b) m4) → ∀ (m8 : zM), aTm aT0 m8 → (tQ m6 m8 ∧ mS T n (((sSiz T n 0).map Prod.snd).bind (sFin T n 1)) m8) → ∀ lo, zlg lo 0 = some (.ref 221) → zlg lo 1 = some (.int 1) → aTm aT0 m8 → yR zpg tX12_quay (d + 11) (169, lo, [], m8) P) : yR zpg tX12_quay (d + 11) (149, lo, [], mem) P := by
  refine wR_la rfl l_0 ?_
  refine yR_m 1 (fun _ _ _ _ => rfl) ?_
  refine wR_pi rfl mO_e mO_33 hm rfl ?_
  have hm_1 : aTm aT0 (si mem 221 33 0) := tm_si mO_e mO_33 hm (i32_b _)
  refine yR_m 1 (fun _ _ _ _ => rfl) ?_
  refine wR_si rfl rfl (fun lo1 e2 f3 => ?_)
  have lo1_0 := f3 0 _ (by decide) (Or.inl rfl) l_0
  refine wR_la rfl lo1_0 ?_
  refine wR_cv rfl rfl mO_e hm_1 rfl (h_ah7 (T := T) (n := n) (gi_sv_ne (by decide)) (gi_sv_ne (by decide)) h05 hN (by rw [(ga_sv)]; exact hT) (by omega) hm_1 (by omega)) ?_
  rintro _ m4 ⟨rfl, hI4, k5⟩
  show yR zpg tX12_quay (d + 11) (160, lo1, [], m4) _
  refine wR_la rfl lo1_0 ?_
  refine wR_cv rfl rfl mO_e hI4 rfl (h_qua7 (T := T) (n := n) (b := b) hI4 (s3 m4 hI4 k5) k5.2 (s1 m4 hI4 k5) (s2 m4 hI4 k5) (by omega)) ?_
  rintro _ m6 ⟨rfl, hI6, k7⟩
  show yR zpg tX12_quay (d + 11) (164, lo1, [], m6) _
  refine wR_la rfl lo1_0 ?_
  refine wR_li rfl e2 ?_
  refine wR_cv rfl rfl mO_e hI6 rfl (h_fin6 (T := T) (n := n) (s := (sSiz T n 0).map Prod.snd) hI6 (s4 m4 hI4 k5 m6 hI6 k7) (siz_mS k7.2.1) (by omega)) ?_
  rintro _ m8 ⟨rfl, hI8, k9⟩
  show yR zpg tX12_quay (d + 11) (169, lo1, [], m8) _
  exact h1 m4 hI4 k5 m6 hI6 k7 m8 hI8 k9 lo1 lo1_0 e2 hI8

theorem qF_149 {lo : List (Nat × Value)} (hm : aTm aT0 mem) (H : qH mr) (hf : fr [227, 236] [] mr mem) (k6 : ∀ w, 0 ≤ w → w < 3 → gn (ga mem 236) (3 * (gi mr 221 13).toInt + w) = gn (ga mr 236) (3 * (gi mr 221 13).toInt + w)) (n6 : ∀ w, 0 ≤ w → w < 3 → gn (ga mem 236) (3 * (gi mr 221 34).toInt + w) = -1) (hC : qC (gi mr 221 34).toInt mem) (hN : (gi mem 221 2).toInt = n) (hT : ga mem 222 = T) (hW : vB (gi mr 221 13).toInt mem = w) (a0 : zlg lo 0 = some (.ref 221)) : yR zpg tX12_quay (d + 11) (149, lo, [], mem) (quM w (sQua T n) mr) := by
  have h0 := H
  obtain ⟨h8, h5, hi, rb1, rb2⟩ := H
  have rb := And.intro rb1 rb2
  have m8 : (gi mem 221 8).toInt = 0 := by rw [fr_gi hf rfl]; exact h8
  have m5 : (gi mem 221 5).toInt = 0 := by rw [fr_gi hf rfl]; exact h5
  have e34 : (gi mem 221 34).toInt = (gi mr 221 34).toInt := by rw [fr_gi hf rfl]
  have eB : 1 - (gi mr 221 34).toInt = (gi mr 221 13).toInt := by omega
  have r2 := mO_r2 hm
  exact w_qF_149 (T := T) (n := n) (b := (gi mr 221 34).toInt) hm a0 (by omega) m5 hN hT m8 e34
        (fun m4 hI4 k5 => by rw [fr_gi k5.1.1 rfl, gi_sv_ne (by decide)]; omega)
        (fun m4 hI4 k5 => by rw [fr_gi k5.1.1 rfl, gi_sv_ne (by decide)]; omega)
        (fun m4 hI4 k5 => ⟨k5.1.2.1, by show 0 ≤ (gi m4 221 8).toInt; rw [fr_gi k5.1.1 rfl, gi_sv_ne (by decide)]; omega⟩)
        (fun m4 hI4 k5 m6 hI6 k7 => k7.1.1.2.1)
        (fun m4 hI4 k5 m6 hI6 k7 m8 hI8 k9 lo a0 a1 hm2 => by
          have F1 : fr [227, 236] [33] mr (si mem 221 33 0) := fr_sv rfl (fr_up hf rfl rfl)
          have r4 := mO_r4 hm2
          have e6 : ga (si mem 221 33 0) 236 = ga mem 236 := ga_sv
          have SI1 := SI_go F1 (by rw [gi_eqO (isO_of hm) (by decide)]; rfl) hi rb (by rw [e6]; exact k6) (by rw [e6]; exact n6) k5.1 k7.1.1 k7.1.2 k9.1 hI4
          have FA : fr [223, 224] [3, 4, 5, 6, 7, 8, 9, 12, 33] mem m6 := fr_tr (fr_up (fr_sv (i := 33) (ks := []) (is := [33]) rfl fr_rf) rfl rfl) (fr_tr (fr_up k5.1.1 rfl rfl) (fr_up k7.1.1.1 rfl rfl))
          refine qF_loop (T := T) (n := n) (b := (gi mr 221 34).toInt) 1601 _ 1 lo (by decide) hm2 SI1 (Eq.trans (vB_fr k9.1.1 rfl) (Eq.trans (eB ▸ k7.2.2) (Eq.trans (vB_fr k5.1.1 rfl) (Eq.trans vB_sv hW)))) ?_ a0 a1
          rcases k9.2 with ⟨e, h1, h2, h3⟩ | ⟨h1, h2⟩
          · obtain ⟨y, hy, he⟩ := ob_s h1
            obtain ⟨x, hx, ex⟩ := om_s hy
            subst ex
            rcases k7.2.1 with ⟨x', q1, -, -, q4, q5⟩ | ⟨q1, -⟩
            · rw [hx] at q1
              cases q1
              exact qG_i h2 (by omega) (by rw [SI34 SI1]) h3 (mQ_fr k9.1.1 (mQ_new (qC_fr FA rfl rfl rfl rfl rfl rfl rfl hC) q4 q5)) hx (sQua_s hx he)
            · rw [hx] at q1
              cases q1
          · exact Or.inr ⟨h2, sQua_n h1⟩)
theorem qF_124 (H : qH mr) : ∀ (f : Nat) (mem : zM) (k : Int32) (lo : List (Nat × Value)), k.toInt + (f : Int) = 3 * (gi mr 221 34).toInt + 3 → 3 * (gi mr 221 34).toInt ≤ k.toInt → aTm aT0 mem → fr [227, 236] [] mr mem → (∀ w, 0 ≤ w → w < 3 → gn (ga mem 236) (3 * (gi mr 221 13).toInt + w) = gn (ga mr 236) (3 * (gi mr 221 13).toInt + w)) → (∀ w, 0 ≤ w → 3 * (gi mr 221 34).toInt + w < k.toInt → gn (ga mem 236) (3 * (gi mr 221 34).toInt + w) = -1) → (∀ c, 0 ≤ c → c < 64 → gn (ga mem 227) (64 * (gi mr 221 34).toInt + c) = 0) → (gn (ga mr 228) (gi mr 221 34).toInt = 0 ∧ gn (ga mr 233) (gi mr 221 34).toInt = 0 ∧ (ga mr 232).getD (gi mr 221 34).toInt.toNat 0 = 0 ∧ gn (ga mr 225) (gi mr 221 34).toInt = 3 ∧ gn (ga mr 226) (gi mr 221 34).toInt = 0) → (gi mr 221 2).toInt = n → ga mr 222 = T → vB (gi mr 221 13).toInt mem = w → zlg lo 0 = some (.ref 221) → zlg lo 1 = some (.int k) → yR zpg tX12_quay (d + 11) (124, lo, [], mem) (quM w (sQua T n) mr) := by
  obtain ⟨-, -, hi, rb1, rb2⟩ := id H
  have rb := And.intro rb1 rb2
  intro f
  induction f with
  | zero =>
    intro mem k lo hk h0 hm hf k6 n6 c7 c8 hN hT hW a0 a1
    have e34 : gi mem 221 34 = gi mr 221 34 := fr_gi hf rfl
    have e34i : (gi mem 221 34).toInt = (gi mr 221 34).toInt := by rw [e34]
    exact w_qu_124 hm a0 a1 (by rw [e34]; omega)
        (fun x1 e2 x3 e4 q5 lo a0 hm => qF_149 hm H hf k6 (fun w w0 w1 => n6 w w0 (by omega)) ⟨by rw [fr_ga hf (by decide) rfl, fr_ga hf (k := 233) (by decide) rfl, fr_ga hf (k := 232) (by decide) rfl]; exact ⟨c8.1, c8.2.1, c8.2.2.1⟩, c7, fun w w0 w1 => n6 w w0 (by omega), by rw [fr_ga hf (k := 225) (by decide) rfl]; exact c8.2.2.2.1, by rw [fr_ga hf (k := 226) (by decide) rfl]; exact c8.2.2.2.2⟩ (by rw [fr_gi hf rfl]; exact hN) (by rw [fr_ga hf (by decide) rfl]; exact hT) hW a0)
        (fun x1 e2 x3 e4 q5 x6 e7 lo a0 a1 hm => by exfalso; omega)
  | succ f ih =>
    intro mem k lo hk h0 hm hf k6 n6 c7 c8 hN hT hW a0 a1
    have e34 : gi mem 221 34 = gi mr 221 34 := fr_gi hf rfl
    have e34i : (gi mem 221 34).toInt = (gi mr 221 34).toInt := by rw [e34]
    have gl6 := gl_236 hm
    exact w_qu_124 hm a0 a1 (by rw [e34]; omega)
        (fun x1 e2 x3 e4 q5 lo a0 hm => qF_149 hm H hf k6 (fun w w0 w1 => n6 w w0 (by omega)) ⟨by rw [fr_ga hf (by decide) rfl, fr_ga hf (k := 233) (by decide) rfl, fr_ga hf (k := 232) (by decide) rfl]; exact ⟨c8.1, c8.2.1, c8.2.2.1⟩, c7, fun w w0 w1 => n6 w w0 (by omega), by rw [fr_ga hf (k := 225) (by decide) rfl]; exact c8.2.2.2.1, by rw [fr_ga hf (k := 226) (by decide) rfl]; exact c8.2.2.2.2⟩ (by rw [fr_gi hf rfl]; exact hN) (by rw [fr_ga hf (by decide) rfl]; exact hT) hW a0)
        (fun x1 e2 x3 e4 q5 x6 e7 lo a0 a1 hm2 => ih _ _ lo (by omega) (by omega) hm2 (fr_sa rfl (hf)) (fun w w0 w1 => by rw [ga_sa_eq, gn_set (a := k.toInt) rfl (by omega) (by omega) (by omega), if_neg (by omega)]; exact k6 w w0 w1) (fun w w0 w1 => by
          rw [ga_sa_eq, gn_set (a := k.toInt) rfl (by omega) (by omega) (by omega)]
          by_cases q : 3 * (gi mr 221 34).toInt + w = k.toInt
          · rw [if_pos q]; rfl
          · rw [if_neg q]; exact n6 w w0 (by omega)) (fun c c0 c1 => by rw [ga_sa_ne (by decide)]; exact c7 c c0 c1) c8 hN hT (Eq.trans (vB_sa (s := 3) rfl (by decide) (by omega) (fun i i0 i1 => by omega) (by omega)) hW) a0 a1)
theorem qF_90 (H : qH mr) : ∀ (f : Nat) (mem : zM) (k : Int32) (lo : List (Nat × Value)), k.toInt + (f : Int) = 64 → 0 ≤ k.toInt → aTm aT0 mem → fr [227] [] mr mem → (∀ c, 0 ≤ c → c < k.toInt → gn (ga mem 227) (64 * (gi mr 221 34).toInt + c) = 0) → (gn (ga mr 228) (gi mr 221 34).toInt = 0 ∧ gn (ga mr 233) (gi mr 221 34).toInt = 0 ∧ (ga mr 232).getD (gi mr 221 34).toInt.toNat 0 = 0 ∧ gn (ga mr 225) (gi mr 221 34).toInt = 3 ∧ gn (ga mr 226) (gi mr 221 34).toInt = 0) → (gi mr 221 2).toInt = n → ga mr 222 = T → vB (gi mr 221 13).toInt mem = w → zlg lo 0 = some (.ref 221) → zlg lo 1 = some (.int k) → yR zpg tX12_quay (d + 11) (90, lo, [], mem) (quM w (sQua T n) mr) := by
  obtain ⟨-, -, hi, rb1, rb2⟩ := id H
  intro f
  induction f with
  | zero =>
    intro mem k lo hk h0 hm hf c7 c8 hN hT hW a0 a1
    have e34 : gi mem 221 34 = gi mr 221 34 := fr_gi hf rfl
    have e34i : (gi mem 221 34).toInt = (gi mr 221 34).toInt := by rw [e34]
    exact w_qu_90 hm a0 a1 ⟨h0, by omega⟩
        (fun q1 x2 e3 lo a0 a1 hm => qF_124 H 3 _ _ lo (by omega) (by omega) hm (fr_up hf rfl rfl) (fun w _ _ => by rw [fr_ga hf (by decide) rfl]) (fun w w0 w1 => by exfalso; omega) (fun c c0 c1 => c7 c c0 (by omega)) c8 hN hT hW a0 a1)
        (fun q1 x7 e8 x9 e10 x11 e12 lo a0 a1 hm => by exfalso; omega)
  | succ f ih =>
    intro mem k lo hk h0 hm hf c7 c8 hN hT hW a0 a1
    have e34 : gi mem 221 34 = gi mr 221 34 := fr_gi hf rfl
    have e34i : (gi mem 221 34).toInt = (gi mr 221 34).toInt := by rw [e34]
    have gl7 := gl_227 hm
    exact w_qu_90 hm a0 a1 ⟨h0, by omega⟩
        (fun q1 x2 e3 lo a0 a1 hm => qF_124 H 3 _ _ lo (by omega) (by omega) hm (fr_up hf rfl rfl) (fun w _ _ => by rw [fr_ga hf (by decide) rfl]) (fun w w0 w1 => by exfalso; omega) (fun c c0 c1 => c7 c c0 (by omega)) c8 hN hT hW a0 a1)
        (fun q1 x7 e8 x9 e10 x11 e12 lo a0 a1 hm2 => ih _ _ lo (by omega) (by omega) hm2 (fr_sa rfl (hf)) (fun c c0 c1 => by
          rw [ga_sa_eq, gn_set (a := 64 * (gi mr 221 34).toInt + k.toInt) (by omega) (by omega) (by omega) (by omega)]
          by_cases q : 64 * (gi mr 221 34).toInt + c = 64 * (gi mr 221 34).toInt + k.toInt
          · rw [if_pos q]; rfl
          · rw [if_neg q]; exact c7 c c0 (by omega)) c8 hN hT (Eq.trans (vB_sa (s := 64) rfl (by decide) (by omega) (fun i i0 i1 => by omega) (by omega)) hW) a0 a1)
theorem h_quaM (hm : aTm aT0 mem) (hd : 12 ≤ d) : yC zpg d 206 [.ref 221] mem (quM (vB (gi mem 221 13).toInt mem) (sQua (ga mem 222) (gi mem 221 1).toInt) mem) := by
  obtain ⟨d, rfl⟩ : ∃ q, d = q + 12 := ⟨d - 12, by omega⟩
  have rb := mO_r13 hm
  refine yC_of (t := tX12_quay) rfl rfl ?_
  exact w_qu_0 hm rfl
        (fun x1 e2 lo a0 a1 hm2 => by
          have FX : fr [225, 226, 228, 232, 233] [1, 2, 5, 8, 9, 34] mem (sx (sx (sx (sx (sx (si (si (si (si (si (si mem 221 2 (gi mem 221 1)) 221 1 0) 221 5 0) 221 8 0) 221 9 (-1)) 221 34 x1) 225 x1 3) 226 x1 0) 228 x1 0) 232 x1 0) 233 x1 0) := fr_sa rfl (fr_sa rfl (fr_sa rfl (fr_sa rfl (fr_sa rfl (fr_sv rfl (fr_sv rfl (fr_sv rfl (fr_sv rfl (fr_sv rfl (fr_sv rfl (fr_rf)))))))))))
          have g13 : gi (sx (sx (sx (sx (sx (si (si (si (si (si (si mem 221 2 (gi mem 221 1)) 221 1 0) 221 5 0) 221 8 0) 221 9 (-1)) 221 34 x1) 225 x1 3) 226 x1 0) 228 x1 0) 232 x1 0) 233 x1 0) 221 13 = gi mem 221 13 := fr_gi FX rfl
          have H : qH (sx (sx (sx (sx (sx (si (si (si (si (si (si mem 221 2 (gi mem 221 1)) 221 1 0) 221 5 0) 221 8 0) 221 9 (-1)) 221 34 x1) 225 x1 3) 226 x1 0) 228 x1 0) 232 x1 0) 233 x1 0) := ⟨by rw [((gi_sa).trans ((gi_sa).trans ((gi_sa).trans ((gi_sa).trans ((gi_sa).trans ((gi_sv_ne (by decide)).trans ((gi_sv_ne (by decide)).trans (gi_eqO (isO_sv (isO_sv (isO_sv (isO_of hm)))) (by decide)))))))))]; rfl, by rw [((gi_sa).trans ((gi_sa).trans ((gi_sa).trans ((gi_sa).trans ((gi_sa).trans ((gi_sv_ne (by decide)).trans ((gi_sv_ne (by decide)).trans ((gi_sv_ne (by decide)).trans (gi_eqO (isO_sv (isO_sv (isO_of hm))) (by decide))))))))))]; rfl, by rw [((gi_sa).trans ((gi_sa).trans ((gi_sa).trans ((gi_sa).trans ((gi_sa).trans (gi_eqO (isO_sv (isO_sv (isO_sv (isO_sv (isO_sv (isO_of hm)))))) (by decide))))))), g13]; omega, by rw [g13]; exact rb.1, by rw [g13]; exact rb.2⟩
          have g46 : gi (sx (sx (sx (sx (sx (si (si (si (si (si (si mem 221 2 (gi mem 221 1)) 221 1 0) 221 5 0) 221 8 0) 221 9 (-1)) 221 34 x1) 225 x1 3) 226 x1 0) 228 x1 0) 232 x1 0) 233 x1 0) 221 46 = gi mem 221 46 := fr_gi FX rfl
          refine yR_mono (quM_g g13 g46) (qF_90 H 64 _ 0 lo (by decide) (by decide) hm2 fr_rf (fun c c0 c1 => by exfalso; have c2 : c < 0 := c1; omega) ⟨(by rw [((gi_sa).trans ((gi_sa).trans ((gi_sa).trans ((gi_sa).trans ((gi_sa).trans (gi_eqO (isO_sv (isO_sv (isO_sv (isO_sv (isO_sv (isO_of hm)))))) (by decide))))))), ((ga_sa_ne (by decide)).trans ((ga_sa_ne (by decide)).trans (ga_sa_eq.trans (congrArg (fun l => List.set l x1.toNatClampNeg 0) ((ga_sa_ne (by decide)).trans ((ga_sa_ne (by decide)).trans ((ga_sv).trans ((ga_sv).trans ((ga_sv).trans ((ga_sv).trans ((ga_sv).trans (ga_sv)))))))))))), gn_set (a := (x1).toInt) rfl (by omega) (by rw [gl_228 hm]; omega) (by omega), if_pos rfl]; rfl), (by rw [((gi_sa).trans ((gi_sa).trans ((gi_sa).trans ((gi_sa).trans ((gi_sa).trans (gi_eqO (isO_sv (isO_sv (isO_sv (isO_sv (isO_sv (isO_of hm)))))) (by decide))))))), (ga_sa_eq.trans (congrArg (fun l => List.set l x1.toNatClampNeg 0) ((ga_sa_ne (by decide)).trans ((ga_sa_ne (by decide)).trans ((ga_sa_ne (by decide)).trans ((ga_sa_ne (by decide)).trans ((ga_sv).trans ((ga_sv).trans ((ga_sv).trans ((ga_sv).trans ((ga_sv).trans (ga_sv)))))))))))), gn_set (a := (x1).toInt) rfl (by omega) (by rw [gl_233 hm]; omega) (by omega), if_pos rfl]; rfl), ?_, (by rw [((gi_sa).trans ((gi_sa).trans ((gi_sa).trans ((gi_sa).trans ((gi_sa).trans (gi_eqO (isO_sv (isO_sv (isO_sv (isO_sv (isO_sv (isO_of hm)))))) (by decide))))))), ((ga_sa_ne (by decide)).trans ((ga_sa_ne (by decide)).trans ((ga_sa_ne (by decide)).trans ((ga_sa_ne (by decide)).trans (ga_sa_eq.trans (congrArg (fun l => List.set l x1.toNatClampNeg 3) ((ga_sv).trans ((ga_sv).trans ((ga_sv).trans ((ga_sv).trans ((ga_sv).trans (ga_sv)))))))))))), gn_set (a := (x1).toInt) rfl (by omega) (by rw [gl_225 hm]; omega) (by omega), if_pos rfl]; rfl), (by rw [((gi_sa).trans ((gi_sa).trans ((gi_sa).trans ((gi_sa).trans ((gi_sa).trans (gi_eqO (isO_sv (isO_sv (isO_sv (isO_sv (isO_sv (isO_of hm)))))) (by decide))))))), ((ga_sa_ne (by decide)).trans ((ga_sa_ne (by decide)).trans ((ga_sa_ne (by decide)).trans (ga_sa_eq.trans (congrArg (fun l => List.set l x1.toNatClampNeg 0) ((ga_sa_ne (by decide)).trans ((ga_sv).trans ((ga_sv).trans ((ga_sv).trans ((ga_sv).trans ((ga_sv).trans (ga_sv)))))))))))), gn_set (a := (x1).toInt) rfl (by omega) (by rw [gl_226 hm]; omega) (by omega), if_pos rfl]; rfl)⟩ (by rw [((gi_sa).trans ((gi_sa).trans ((gi_sa).trans ((gi_sa).trans ((gi_sa).trans ((gi_sv_ne (by decide)).trans ((gi_sv_ne (by decide)).trans ((gi_sv_ne (by decide)).trans ((gi_sv_ne (by decide)).trans ((gi_sv_ne (by decide)).trans (gi_eqO (isO_of hm) (by decide))))))))))))]) (fr_ga FX (by decide) rfl) (by rw [g13]; exact (Eq.trans (vB_sa (s := 1) rfl (by decide) (by omega) (fun i i0 i1 => by omega) (by omega)) (Eq.trans (vB_sa (s := 1) rfl (by decide) (by omega) (fun i i0 i1 => by omega) (by omega)) (Eq.trans (vB_sa (s := 1) rfl (by decide) (by omega) (fun i i0 i1 => by omega) (by omega)) (Eq.trans (vB_sa (s := 1) rfl (by decide) (by omega) (fun i i0 i1 => by omega) (by omega)) (Eq.trans (vB_sa (s := 1) rfl (by decide) (by omega) (fun i i0 i1 => by omega) (by omega)) (Eq.trans vB_sv (Eq.trans vB_sv (Eq.trans vB_sv (Eq.trans vB_sv (Eq.trans vB_sv vB_sv))))))))))) a0 a1)
          have l32 := gl_232 hm
          have cl : (x1).toNatClampNeg = (x1).toInt.toNat := by
            have := zclamp (x := x1) (by omega)
            omega
          rw [((gi_sa).trans ((gi_sa).trans ((gi_sa).trans ((gi_sa).trans ((gi_sa).trans (gi_eqO (isO_sv (isO_sv (isO_sv (isO_sv (isO_sv (isO_of hm)))))) (by decide))))))), ((ga_sa_ne (by decide)).trans (ga_sa_eq.trans (congrArg (fun l => List.set l x1.toNatClampNeg 0) ((ga_sa_ne (by decide)).trans ((ga_sa_ne (by decide)).trans ((ga_sa_ne (by decide)).trans ((ga_sv).trans ((ga_sv).trans ((ga_sv).trans ((ga_sv).trans ((ga_sv).trans (ga_sv)))))))))))), cl, List.getD_eq_getElem?_getD, List.getElem?_set_self (by omega)]
          rfl)
end QN
