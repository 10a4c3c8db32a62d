/-! the model's quay, by what it means -/
section QL
variable (T : List Int32) (n : Int)
/-- statements up to the end: how many there are, the quay told -/
noncomputable def sQL : Nat → Int → Qd → Int → Option (Int × Qd)
  | 0, _, _, _ => none
  | f + 1, k, Q, p => pif ((tkf T n p).1.1 = 0) (some (k, Q)) ((sSta T n Q p).bind fun x => (sFin T n (k + 1) x.2).bind fun e => sQL f (k + 1) x.1 e)
/-- what quay answers -/
noncomputable def sQua : Option (Int × Qd) := (sSiz T n 0).bind fun x => (sFin T n 1 x.2).bind fun e => sQL T n 1601 1 (x.1.1, x.1.2, [], [], [], [], [], [], 3, 0, []) e
end QL
section QM
variable {d : Nat} {mr mem m : zM} {T : List Int32} {n p b : Int} {Q : Qd} {v : Option (Int × Qd)} {w : Nat → Int → Int}
theorem mR_0 (h : mRd T n p m) : (gi m 221 3).toInt = 0 ↔ (tkf T n p).1.1 = 0 := by
  have h := mRd_t h
  rcases h.2.2.2 with ⟨h1, h2, h3⟩ | ⟨h1, h2⟩
  · exact ⟨fun w => absurd w h3, fun w => by exfalso; omega⟩
  · rcases h2 with ⟨a, b⟩ | ⟨a, b, e⟩ | ⟨a, b, e⟩ | ⟨a, b, e⟩ <;> omega
theorem SI34 (h : SI mr m) : gi m 221 34 = gi mr 221 34 := fr_gi h.1.1 rfl
theorem stR_mS {R : Option (Qd × Int)} (h : stR T n b R m) : mS T n (R.map Prod.snd) m := by
  rcases h with ⟨Q', p', h1, h2, h3, -⟩ | ⟨h1, h2⟩
  · rw [h1]
    exact Or.inl ⟨p', rfl, h2, h3⟩
  · rw [h1]
    exact Or.inr ⟨rfl, h2⟩
theorem sSta_sz {x : Qd × Int} (h : sSta T n Q p = some x) : Qc x.1 = Qc Q ∧ Qr x.1 = Qr Q := by
  have tl : ∀ {k a c q : Int} {x : Qd × Int}, sTel T n k a c Q q = some x → Qc x.1 = Qc Q ∧ Qr x.1 = Qr Q := fun h => by
    obtain ⟨z, -, e⟩ := om_s h
    subst e
    exact ⟨rfl, rfl⟩
  have rl : ∀ {w q : Int} {x : Qd × Int}, sRea T n w Q q = some x → Qc x.1 = Qc Q ∧ Qr x.1 = Qr Q := fun h => by
    obtain ⟨-, h⟩ := oif_s h
    obtain ⟨z, -, e⟩ := om_s h
    subst e
    exact ⟨rfl, rfl⟩
  rcases pif_s h with ⟨-, h⟩ | ⟨-, h⟩
  · exact tl h
  rcases pif_s h with ⟨-, h⟩ | ⟨-, h⟩
  · exact tl h
  rcases pif_s h with ⟨-, h⟩ | ⟨-, h⟩
  · obtain ⟨z, -, e⟩ := om_s h
    subst e
    exact ⟨rfl, rfl⟩
  rcases pif_s h with ⟨-, h⟩ | ⟨-, h⟩
  · obtain ⟨-, h⟩ := oif_s h
    obtain ⟨a, -, h⟩ := ob_s h
    obtain ⟨a, -, h⟩ := ob_s h
    obtain ⟨a, -, h⟩ := ob_s h
    obtain ⟨a, -, h⟩ := ob_s h
    obtain ⟨a, -, h⟩ := ob_s h
    obtain ⟨a, -, h⟩ := ob_s h
    obtain ⟨a, -, e⟩ := om_s h
    subst e
    exact ⟨rfl, rfl⟩
  rcases pif_s h with ⟨-, h⟩ | ⟨-, h⟩
  · obtain ⟨a, -, h⟩ := ob_s h
    obtain ⟨a, -, h⟩ := ob_s h
    obtain ⟨-, h⟩ := oif_s h
    cases h
    exact ⟨rfl, rfl⟩
  rcases pif_s h with ⟨-, h⟩ | ⟨-, h⟩
  · obtain ⟨-, h⟩ := oif_s h
    obtain ⟨a, -, h⟩ := ob_s h
    obtain ⟨a, -, h⟩ := ob_s h
    obtain ⟨a, -, h⟩ := ob_s h
    obtain ⟨a, -, h⟩ := ob_s h
    obtain ⟨a, -, e⟩ := om_s h
    subst e
    exact ⟨rfl, rfl⟩
  rcases pif_s h with ⟨-, h⟩ | ⟨-, h⟩
  · exact rl h
  rcases pif_s h with ⟨-, h⟩ | ⟨-, h⟩
  · exact rl h
  rcases pif_s h with ⟨-, h⟩ | ⟨-, h⟩
  · exact rl h
  cases h
theorem mQ_fk {ks is : List Nat} (F : fr ks is mem m) (h0 : ks.all (fun k => decide (k < 223 ∨ 241 < k)) = true) (h : mQ b Q mem) : mQ b Q m := by
  have Z : ∀ k, 223 ≤ k → k ≤ 241 → zat m k = zat mem k := fun k h1 h2 => F.1 k (by omega) (by
    cases hc : ks.contains k with
    | false => rfl
    | true =>
      have t := of_decide_eq_true (List.all_eq_true.1 h0 k (List.contains_iff_mem.1 hc))
      omega)
  have A : ∀ k, 223 ≤ k → k ≤ 241 → ga m k = ga mem k := fun k h1 h2 => by
    unfold ga
    rw [Z k h1 h2]
  have B : ∀ k, 223 ≤ k → k ≤ 241 → gA m k = gA mem k := fun k h1 h2 => by
    unfold gA
    rw [Z k h1 h2]
  have X : mQx b Q m := mQx_eq (fun k hk => A k (by have := List.contains_iff_mem.1 hk; simp at this; omega) (by have := List.contains_iff_mem.1 hk; simp at this; omega)) h.2.2.2.2.2.2
  unfold mQ mQw mQt mQh mQf mQu
  rw [A 223 (by decide) (by decide), A 224 (by decide) (by decide), A 227 (by decide) (by decide), A 228 (by decide) (by decide), A 229 (by decide) (by decide), A 232 (by decide) (by decide), A 233 (by decide) (by decide), A 234 (by decide) (by decide), A 235 (by decide) (by decide), A 236 (by decide) (by decide), B 240 (by decide) (by decide), B 241 (by decide) (by decide)]
  exact ⟨h.1, h.2.1, h.2.2.1, h.2.2.2.1, h.2.2.2.2.1, h.2.2.2.2.2.1, X⟩
def hqQ (Q : Qd) : Prop := (3 ≤ Qc Q ∧ Qc Q ≤ 7) ∧ 3 ≤ Qr Q ∧ Qr Q ≤ 7
/-- where the loop of statements stands: what quay will answer is v -/
def qG (T : List Int32) (n b : Int) (f : Nat) (k : Int) (v : Option (Int × Qd)) (m : zM) : Prop := (fk m = 0 ∧ 1600 < (gi m 221 4).toInt + (f : Int) ∧ (gi m 221 34).toInt = b ∧ ∃ p Q, mRd T n p m ∧ mQ b Q m ∧ hqQ Q ∧ v = sQL T n f k Q p) ∨ (1 ≤ fk m ∧ v = none)
/-- quay's answer r and what stands behind it (m), mr ahead; w: what the bank ahead told -/
def quM (w : Nat → Int → Int) (v : Option (Int × Qd)) (mr : zM) (r : Option Value) (m : zM) : Prop := (∃ (c : Int32) (Q : Qd), v = some (c.toInt, Q) ∧ r = some (.int c) ∧ hqQ Q ∧ mQ (gi m 221 13).toInt Q m ∧ gi m 221 46 = 1) ∨ (v = none ∧ r = some (.int (-1)) ∧ vB (gi mr 221 13).toInt m = w ∧ gi m 221 13 = gi mr 221 13 ∧ gi m 221 46 = gi mr 221 46)
theorem qF_198 {k : Int32} {lo : List (Nat × Value)} (hm : aTm aT0 mem) (h : SI mr mem) (hB : vB (gi mr 221 13).toInt mem = w) (hv : (fk mem = 0 ∧ (gi mem 221 34).toInt = b ∧ ∃ Q, v = some (k.toInt, Q) ∧ hqQ Q ∧ mQ b Q mem) ∨ (1 ≤ fk mem ∧ v = none)) (a0 : zlg lo 0 = some (.ref 221)) (a1 : zlg lo 1 = some (.int k)) : yR zpg tX12_quay (d + 11) (198, lo, [], mem) (quM w v mr) := by
  have T8 : 0 ≤ (gi mem 221 8).toInt := h.2.1.2
  have r4 := mO_r4 hm
  have hv : ((gi mem 221 8).toInt = 0 ∧ (gi mem 221 34).toInt = b ∧ ∃ Q, v = some (k.toInt, Q) ∧ hqQ Q ∧ mQ b Q mem) ∨ (1 ≤ (gi mem 221 8).toInt ∧ v = none) := hv
  exact w_qu_198 hm a0 a1
        (fun q1 m2 hI2 k3 hm2 => by
          rcases hv with ⟨-, eb, Q, e, hq, hQ⟩ | ⟨w, -⟩
          · refine Or.inl ⟨k, Q, e, rfl, hq, ?_, (fr_gi k3 rfl).trans (gi_eqO (isO_sv (isO_sv (isO_sv (isO_of hm)))) (by decide))⟩
            rw [(fr_gi k3 rfl).trans ((gi_sv_ne (by decide)).trans (gi_eqO (isO_sv (isO_sv (isO_of hm))) (by decide))), eb]
            exact mQ_fk k3 rfl (mQ_fk (ks := []) (is := [10, 11, 13, 46]) (fr_sv rfl (fr_sv rfl (fr_sv rfl (fr_sv rfl (fr_rf))))) rfl hQ)
          · exfalso; omega)
        (fun q1 y4 e5 hm2 => by
          rcases hv with ⟨w, -⟩ | ⟨-, e⟩
          · exfalso; omega
          · exact Or.inr ⟨e, rfl, Eq.trans (vB_o rfl) (Eq.trans vB_sv (Eq.trans vB_sv hB)), ((gi_sa).trans ((gi_sv_ne (by decide)).trans (gi_sv_ne (by decide)))).trans (fr_gi h.1.1 rfl), ((gi_sa).trans ((gi_sv_ne (by decide)).trans (gi_sv_ne (by decide)))).trans (fr_gi h.1.1 rfl)⟩)
theorem h_sta6 (hm : aTm aT0 mem) (h : SI mr mem) (h8 : (gi mem 221 8).toInt = 0) (sg : ¬ (gi mem 221 3).toInt = 0) (hR : mRd T n p mem) (hb : (gi mem 221 34).toInt = b) (hQ : mQ b Q mem) (hq : hqQ Q) (hd : 11 ≤ d) : yC zpg d 204 [.ref 221] mem (fun r m => r = none ∧ aTm aT0 m ∧ ((SI mr m ∧ ((gi m 221 8).toInt = 0 → (gi mem 221 4).toInt ≤ (gi m 221 4).toInt)) ∧ stR T n b (sSta T n Q p) m ∧ vB (1 - (gi mem 221 34).toInt) m = vB (1 - (gi mem 221 34).toInt) mem)) := by
  refine yC_mono (fun r m q => ?_) (yC_and (yC_and (h_statement5 hm h h8 sg hd) (h_staF hm h h8 sg (Or.inl ⟨p, rfl, h8, hR⟩) hb hQ hq hd)) (h_staB hm h h8 sg hd))
  exact ⟨q.1.1.1, q.1.1.2.1, q.1.1.2.2, q.1.2, q.2⟩
theorem h_fin6 {s : Option Int} {k : Int32} (hm : aTm aT0 mem) (hT : tOK mem) (hS : mS T n s mem) (hd : 6 ≤ d) : yC zpg d 205 [.ref 221, .int k] mem (fun r m => r = none ∧ aTm aT0 m ∧ (tQ mem m ∧ mS T n (s.bind (sFin T n k.toInt)) m)) := by
  refine yC_mono (fun r m q => ?_) (yC_and (h_finishes hm hT hd) (h_finF hm hT hS hd))
  exact ⟨q.1.1, q.1.2.1, q.1.2.2, q.2⟩
set_option maxRecDepth 100000 in
theorem w_qF_169 {d : Nat} {mem : zM} {P : Option Value → zM → Prop} {mr : zM} {T : List Int32} {n p b : Int} {Q : Qd} {k : Int32} {lo : List (Nat × Value)} (hm : aTm aT0 mem) (l_0 : zlg lo 0 = some (.ref 221)) (l_1 : zlg lo 1 = some (.int k)) (h : SI mr mem) (hR : mRd T n p mem) (hb : (gi mem 221 34).toInt = b) (hQ : mQ b Q mem) (hq : hqQ Q) (h1 : ¬ (gi mem 221 8).toInt = 0 → ∀ lo, zlg lo 0 = some (.ref 221) → zlg lo 1 = some (.int k) → aTm aT0 mem → yR zpg tX12_quay (d + 11) (198, lo, [], mem) P) (h2 : (gi mem 221 8).toInt = 0 → (gi mem 221 3).toInt = 0 → ∀ lo, zlg lo 0 = some (.ref 221) → zlg lo 1 = some (.int k) → aTm aT0 mem → yR zpg tX12_quay (d + 11) (198, lo, [], mem) P) (s1 : (gi mem 221 8).toInt = 0 → ¬ (gi mem 221 3).toInt = 0 → ∀ (m3 : zM), aTm aT0 m3 → ((SI mr m3 ∧ ((gi m3 221 8).toInt = 0 → (gi mem 221 4).toInt ≤ (gi m3 221 4).toInt)) ∧ stR T n b (sSta T n Q p) m3 ∧ vB (1 - (gi mem 221 34).toInt) m3 = vB (1 - (gi mem 221 34).toInt) mem) → tOK m3) (h3 : (gi mem 221 8).toInt = 0 → ¬ (gi mem 221 3).toInt = 0 → ∀ (m3 : zM), aTm aT0 m3 → ((SI mr m3 ∧ ((gi m3 221 8).toInt = 0 → (gi mem 221 4).toInt ≤ (gi m3 221 4).toInt)) ∧ stR T n b (sSta T n Q p) m3 ∧ vB (1 - (gi mem 221 34).toInt) m3 = vB (1 - (gi mem 221 34).toInt) mem) → ∀ (m8 : zM), aTm aT0 m8 → (tQ m3 m8 ∧ mS T n (((sSta T n Q p).map Prod.snd).bind (sFin T n (k + 1).toInt)) m8) → ∀ lo, zlg lo 0 = some (.ref 221) → zlg lo 1 = some (.int (k + 1)) → aTm aT0 m8 → yR zpg tX12_quay (d + 11) (169, lo, [], m8) P) : yR zpg tX12_quay (d + 11) (169, lo, [], mem) P := by
  refine wR_la rfl l_0 ?_
  refine wR_gi rfl mO_e mO_8 hm rfl ?_
  refine wR_if_ne rfl (a := (gi mem 221 8).toInt) rfl (fun q1 => ?_) (fun q1 => ?_)
  ·
    exact h1 q1 lo l_0 l_1 hm
  ·
    refine wR_la rfl l_0 ?_
    refine wR_gi rfl mO_e mO_3 hm rfl ?_
    refine wR_if_eq rfl (a := (gi mem 221 3).toInt) rfl (fun q2 => ?_) (fun q2 => ?_)
    ·
      exact h2 q1 q2 lo l_0 l_1 hm
    ·
      refine wR_la rfl l_0 ?_
      refine wR_cv rfl rfl mO_e hm rfl (h_sta6 (T := T) (n := n) (p := p) (b := b) (Q := Q) hm h (by omega) (by omega) hR hb hQ hq (by omega)) ?_
      rintro _ m3 ⟨rfl, hI3, k4⟩
      show yR zpg tX12_quay (d + 11) (187, lo, [], m3) _
      refine wR_in rfl rfl l_1 (fun lo5 e6 f7 => ?_)
      have lo5_0 := f7 0 _ (by decide) (Or.inl rfl) l_0
      refine wR_la rfl lo5_0 ?_
      refine wR_li rfl e6 ?_
      refine wR_cv rfl rfl mO_e hI3 rfl (h_fin6 (T := T) (n := n) (s := (sSta T n Q p).map Prod.snd) hI3 (s1 q1 q2 m3 hI3 k4) (stR_mS k4.2.1) (by omega)) ?_
      rintro _ m8 ⟨rfl, hI8, k9⟩
      show yR zpg tX12_quay (d + 11) (195, lo5, [], m8) _
      exact yR_m 1 (fun _ _ _ _ => rfl) (h3 q1 q2 m3 hI3 k4 m8 hI8 k9 lo5 lo5_0 e6 hI8)

theorem qF_loop : ∀ (f : Nat) (mem : zM) (k : Int32) (lo : List (Nat × Value)), k.toInt + (f : Int) = 1602 → aTm aT0 mem → SI mr mem → vB (gi mr 221 13).toInt mem = w → qG T n b f k.toInt v mem → zlg lo 0 = some (.ref 221) → zlg lo 1 = some (.int k) → yR zpg tX12_quay (d + 11) (169, lo, [], mem) (quM w v mr) := by
  intro f
  induction f with
  | zero =>
    intro mem k lo hk hm h hB G a0 a1
    have r4 := mO_r4 hm
    rcases G with ⟨-, g, -⟩ | ⟨g, gv⟩
    · exfalso
      omega
    · have g1 : 1 ≤ (gi mem 221 8).toInt := g
      exact w_qu_169 (mr := mr) hm a0 a1 h
        (fun q1 lo a0 a1 hm => qF_198 (b := b) hm h hB (Or.inr ⟨g, gv⟩) a0 a1)
        (fun q1 q2 lo a0 a1 hm => by exfalso; omega)
        (fun q1 q2 m3 hI3 k4 => by exfalso; omega)
        (fun q1 q2 m3 hI3 k4 m8 hI8 k9 lo a0 a1 hm => by exfalso; omega)
  | succ f ih =>
    intro mem k lo hk hm h hB G a0 a1
    rcases G with ⟨g0, g1, hb, p, Q, hR, hQ, hq, gv⟩ | ⟨g, gv⟩
    · have g8 : (gi mem 221 8).toInt = 0 := g0
      have kb := (i32_b k).1
      have k1 : (k + 1).toInt = k.toInt + 1 := i32_addc rfl (by omega) (by omega)
      have z0 := mR_0 hR
      have eB : 1 - (gi mem 221 34).toInt = (gi mr 221 13).toInt := by
        have u1 : (gi mem 221 34).toInt = 1 - (gi mem 221 13).toInt := h.2.2.1
        have u2 : gi mem 221 13 = gi mr 221 13 := fr_gi h.1.1 rfl
        rw [u2] at u1
        omega
      exact w_qF_169 (mr := mr) (T := T) (n := n) (p := p) (b := b) (Q := Q) hm a0 a1 h hR hb hQ hq
        (fun q1 lo a0 a1 hm => by exfalso; omega)
        (fun q1 q2 lo a0 a1 hm => qF_198 (b := b) hm h hB (Or.inl ⟨g0, hb, Q, gv.trans (pif_t (z0.1 (by omega))), hq, hQ⟩) a0 a1)
        (fun q1 q2 m3 hI3 k4 => k4.1.1.2.1)
        (fun q1 q2 m3 hI3 k4 m8 hI8 k9 lo a0 a1 hm2 => by
          have tq := k9.1
          have K := k9.2
          have gv2 : v = (sSta T n Q p).bind fun x => (sFin T n (k.toInt + 1) x.2).bind fun e => sQL T n f (k.toInt + 1) x.1 e := gv.trans (pif_f (fun w => absurd (z0.2 w) (by omega)))
          have vb := k4.2.2
          rw [eB] at vb
          refine ih m8 _ lo (by omega) hm2 (SI_t k4.1.1 tq) (Eq.trans (vB_fr tq.1 rfl) (Eq.trans vb hB)) ?_ a0 a1
          rw [k1] at K ⊢
          rcases K with ⟨e, h1, h2, h3⟩ | ⟨h1, h2⟩
          · obtain ⟨y, hy, he⟩ := ob_s h1
            obtain ⟨x, hx, ex⟩ := om_s hy
            subst ex
            have u := tq.2.2.2 h2
            have w := k4.1.2 u.1
            have z := sSta_sz hx
            rcases k4.2.1 with ⟨Q', p', e1, -, -, e4⟩ | ⟨e1, -⟩
            · rw [hx] at e1
              cases e1
              refine Or.inl ⟨h2, by omega, ?_, e, Q', h3, mQ_fr tq.1 e4, ?_, ?_⟩
              · rw [fr_gi tq.1 rfl, SI34 k4.1.1, ← SI34 h]
                exact hb
              · unfold hqQ
                rw [z.1, z.2]
                exact hq
              · rw [gv2, hx]
                show (sFin T n (k.toInt + 1) p').bind _ = _
                rw [he]
                rfl
            · rw [hx] at e1
              cases e1
          · refine Or.inr ⟨h2, ?_⟩
            rw [gv2]
            cases hx : sSta T n Q p with
            | none => rfl
            | some x =>
              rw [hx] at h1
              have h4 : sFin T n (k.toInt + 1) x.2 = none := h1
              show (sFin T n (k.toInt + 1) x.2).bind _ = none
              rw [h4]
              rfl)
    · have g1 : 1 ≤ (gi mem 221 8).toInt := g
      exact w_qu_169 (mr := mr) hm a0 a1 h
        (fun q1 lo a0 a1 hm => qF_198 (b := b) hm h hB (Or.inr ⟨g, gv⟩) a0 a1)
        (fun q1 q2 lo a0 a1 hm => by exfalso; omega)
        (fun q1 q2 m3 hI3 k4 => by exfalso; omega)
        (fun q1 q2 m3 hI3 k4 m8 hI8 k9 lo a0 a1 hm => by exfalso; omega)
end QM
