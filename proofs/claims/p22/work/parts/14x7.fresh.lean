/-! the model's quay as it is told so far -/
section MQ
variable {d : Nat} {mr mem : zM} {T : List Int32} {n p e : Int} {t : Tk} {s : Option Int} {b : Int} {Q : Qd}
def mQt (b : Int) (L : List (List Int × Int)) (m : zM) : Prop := gn (ga m 228) b = (L.length : Int) ∧ ∀ (i : Nat) x, L[i]? = some x → (gl (gA m 240) (9 * b + (i : Int))).toInt = wnl x.1 ∧ (∀ c ∈ x.1, ltr c) ∧ gn (ga m 229) (9 * b + (i : Int)) = x.2
def mQf (b : Int) (L : List (List Int × Int × Int)) (m : zM) : Prop := gn (ga m 233) b = (L.length : Int) ∧ ∀ (i : Nat) x, L[i]? = some x → (gl (gA m 241) (6 * b + (i : Int))).toInt = wnl x.1 ∧ (∀ c ∈ x.1, ltr c) ∧ gn (ga m 234) (6 * b + (i : Int)) = x.2.1 ∧ gn (ga m 235) (6 * b + (i : Int)) = x.2.2
def mQw (b : Int) (W : List Int) (m : zM) : Prop := ∀ c, 0 ≤ c → c < 64 → (gn (ga m 227) (64 * b + c) = 1 ↔ c ∈ W)
/-- the bit i of an int -/
def bt (x : Int32) (i : Int) : Prop := x.toBitVec.getLsbD i.toNat = true
def mQh (b : Int) (H : List Int) (m : zM) : Prop := ∀ i, 0 ≤ i → i < 9 → (bt ((ga m 232).getD b.toNat 0) i ↔ i ∈ H)
def mQu (b : Int) (U : List Int) (m : zM) : Prop := ∀ w, 0 ≤ w → w < 3 → (¬ gn (ga m 236) (3 * b + w) = -1 ↔ w ∈ U)
/-- an operation of the model in the class's words -/
def clO (o : Int) : Int := if o = 42 then 20 else if o = 41 then 21 else if o = 43 then 22 else if o = 38 then 60 else if o = 39 then 62 else if o = 40 then 61 else if o = 31 then 43 else if o = 32 then 45 else if o = 33 then 42 else if o = 34 then 47 else if o = 35 then 37 else 0
def cpO (p : Int) : Int := if p = 36 then 24 else if p = 37 then 25 else 19
/-- an item of the model's code in the class's words -/
def cdI (s v : Int) : Int := if s = 0 then (if 0 ≤ v ∧ v < 10000 then v else 10000) else if s = 1 then 10015 else if s = 2 then 10007 else if s = 3 then 10008 else if s = 4 then 10016 else if s = 5 then 10017 else if s = 6 then 10018 else if s = 30 then 10023 else if s = 36 ∨ s = 37 ∨ s = 44 then 10000 + cpO s else 10000 + clO s
/-- the code that stands in a bank at a place -/
def cdAt (b i : Int) (m : zM) : Int := cdI (gn (ga m 238) (1600 * b + i)) (gn (ga m 239) (1600 * b + i))
def mQg (b : Int) (G : List (Int × Int)) (N : Nat) (m : zM) : Prop := G.length = N ∧ ∀ (i : Nat) x, G[i]? = some x → (gn (ga m 230) (9 * b + (i : Int)) = x.1 ∧ 1 ≤ x.1 ∧ x.1 ≤ 9) ∧ gn (ga m 231) (9 * b + (i : Int)) = x.2 ∧ 0 ≤ x.2 ∧ x.2 ≤ 9
/-- the code of the rules told -/
def mQk (b : Int) (U : List Int) (K : List (Int × List Int)) (m : zM) : Prop := ∀ w, 0 ≤ w → w < 3 → (∀ c, K.lookup w = some c → (0 ≤ gn (ga m 236) (3 * b + w) ∧ gn (ga m 237) (3 * b + w) = gn (ga m 236) (3 * b + w) + (c.length : Int) ∧ gn (ga m 237) (3 * b + w) ≤ 1600) ∧ (∀ i : Nat, i < c.length → cdAt b (gn (ga m 236) (3 * b + w) + (i : Int)) m = c.getD i 0) ∧ hgt (ga m 238) (1600 * b + gn (ga m 236) (3 * b + w)).toNat c.length = some 1) ∧ (w ∈ U ↔ (K.lookup w).isSome = true)
def mQx (b : Int) (Q : Qd) (m : zM) : Prop := mQg b (Qg Q) (Qt Q).length m ∧ ((gn (ga m 225) b = Qp Q ∧ 0 ≤ Qp Q ∧ Qp Q ≤ 9) ∧ gn (ga m 226) b = Qa Q ∧ 0 ≤ Qa Q ∧ Qa Q ≤ 100) ∧ mQk b (Qu Q) (Qk Q) m
theorem mQx_eq {m m' : zM} (A : ∀ k, [225, 226, 230, 231, 236, 237, 238, 239].contains k = true → ga m' k = ga m k) (h : mQx b Q m) : mQx b Q m' := by
  unfold mQx mQg mQk cdAt at h ⊢
  rw [A 225 rfl, A 226 rfl, A 230 rfl, A 231 rfl, A 236 rfl, A 237 rfl, A 238 rfl, A 239 rfl]
  exact h
def mQ (b : Int) (Q : Qd) (m : zM) : Prop := (gn (ga m 223) b = Qc Q ∧ gn (ga m 224) b = Qr Q) ∧ mQw b (Qw Q) m ∧ mQt b (Qt Q) m ∧ mQh b (Qh Q) m ∧ mQf b (Qf Q) m ∧ mQu b (Qu Q) m ∧ mQx b Q m
theorem mQ_fr {is : List Nat} {m : zM} (F : fr [] is mem m) (h : mQ b Q mem) : mQ b Q m := by
  have A : ∀ k, ¬ k = 221 → ga m k = ga mem k := fun k hk => fr_ga F hk rfl
  have B : ∀ k, ¬ k = 221 → gA m k = gA mem k := fun k hk => by
    unfold gA
    rw [F.1 k hk rfl]
  have X : mQx b Q m := mQx_eq (fun k hk => A k (fun e => by subst e; exact absurd hk (by decide))) h.2.2.2.2.2.2
  unfold mQ mQw mQt mQh mQf mQu
  rw [A 223 (by decide), A 224 (by decide), A 227 (by decide), A 228 (by decide), A 229 (by decide), A 232 (by decide), A 233 (by decide), A 234 (by decide), A 235 (by decide), A 236 (by decide), B 240 (by decide), B 241 (by decide)]
  exact ⟨h.1, h.2.1, h.2.2.1, h.2.2.2.1, h.2.2.2.2.1, h.2.2.2.2.2.1, X⟩
theorem nm_iff {w : Int64} {v : Int} {nm : List Int} (ht : mQt (gi mem 221 34).toInt (Qt Q) mem) (hf : mQf (gi mem 221 34).toInt (Qf Q) mem) (hw : w.toInt = wnl nm) (hl : ∀ c ∈ nm, ltr c) (h : inQ mem w v) : (v = 1 ∧ nmd Q nm) ∨ (v = 0 ∧ ¬ nmd Q nm) := by
  rcases h with ⟨h1, h2, h3⟩ | ⟨h1, h2⟩
  · refine Or.inr ⟨h1, ?_⟩
    rintro (⟨x, hx, e⟩ | ⟨x, hx, e⟩)
    · obtain ⟨i, hi, ei⟩ := List.mem_iff_getElem.1 hx
      have k := ht.2 i x (by rw [List.getElem?_eq_getElem hi, ei])
      exact h3 (i : Int) (by omega) (by rw [ht.1]; omega) (Int64.toInt_inj.1 (by rw [k.1, hw, e]))
    · obtain ⟨i, hi, ei⟩ := List.mem_iff_getElem.1 hx
      have k := hf.2 i x (by rw [List.getElem?_eq_getElem hi, ei])
      exact h2 (i : Int) (by omega) (by rw [hf.1]; omega) (Int64.toInt_inj.1 (by rw [k.1, hw, e]))
  · refine Or.inl ⟨h1, ?_⟩
    rcases h2 with ⟨i, i0, i1, e⟩ | ⟨i, i0, i1, e⟩
    · rw [hf.1] at i1
      have hi : i.toNat < (Qf Q).length := by omega
      have k := hf.2 i.toNat _ (List.getElem?_eq_getElem hi)
      rw [show ((i.toNat : Nat) : Int) = i by omega, e, hw] at k
      exact Or.inr ⟨_, List.getElem_mem hi, (wnl_inj _ _ _ rfl hl k.2.1 k.1).symm⟩
    · rw [ht.1] at i1
      have hi : i.toNat < (Qt Q).length := by omega
      have k := ht.2 i.toNat _ (List.getElem?_eq_getElem hi)
      rw [show ((i.toNat : Nat) : Int) = i by omega, e, hw] at k
      exact Or.inl ⟨_, List.getElem_mem hi, (wnl_inj _ _ _ rfl hl k.2.1 k.1).symm⟩
theorem mwo_iff {t : Tk} {k v w x : Int} (h : mEnc t k v w x) (hx : x = -1) : (k = 1 ↔ t.1 = 1) ∧ (k = 1 → w = wnl t.2.2) := by
  rcases h with ⟨h1, h2⟩ | ⟨h1, h2⟩
  · exact absurd hx h1
  · rcases h2 with ⟨a, b⟩ | ⟨a, b, e⟩ | ⟨a, b, e⟩ | ⟨a, b, e⟩
    · exact ⟨⟨fun q => by exfalso; omega, fun q => by exfalso; omega⟩, fun q => by exfalso; omega⟩
    · exact ⟨⟨fun q => by exfalso; omega, fun q => by exfalso; omega⟩, fun q => by exfalso; omega⟩
    · exact ⟨⟨fun q => by exfalso; omega, fun q => by exfalso; omega⟩, fun q => by exfalso; omega⟩
    · exact ⟨⟨fun _ => b, fun _ => a⟩, fun _ => e⟩
theorem own_m {w : Int64} {v : Int} {nm : List Int} (hw : w.toInt = wnl nm) (hl : ∀ c ∈ nm, ltr c) (h : (v = 0 ∧ ∀ l ∈ ownW, ¬ w.toInt = wnl l) ∨ (v = 1 ∧ ∃ l, l ∈ ownW ∧ w.toInt = wnl l)) : (v = 0 ∧ ¬ nm ∈ ownW) ∨ (v = 1 ∧ nm ∈ ownW) := by
  rcases h with ⟨h1, h2⟩ | ⟨h1, l, h2, h3⟩
  · exact Or.inl ⟨h1, fun w2 => h2 nm w2 hw⟩
  · have e := wnl_inj _ nm l rfl hl (ownW_l l h2) (hw.symm.trans h3)
    exact Or.inr ⟨h1, by rw [e]; exact h2⟩
set_option maxRecDepth 100000 in
theorem w_frF {d : Nat} {mem : zM} {P : Option Value → zM → Prop} {T : List Int32} {n p e : Int} {t : Tk} (hm : aTm aT0 mem) (h1 : (gi mem 221 12).toInt = (-1) → (gi mem 221 8).toInt ≤ 0 → ¬ (gi mem 221 3).toInt = 1 → aTm aT0 (si (si mem 221 8 1) 221 9 (gi mem 221 4)) → P (some (.long (gL mem 221 7))) (si (si mem 221 8 1) 221 9 (gi mem 221 4))) (h2 : (gi mem 221 12).toInt = (-1) → (gi mem 221 8).toInt ≤ 0 → (gi mem 221 3).toInt = 1 → ∀ (v4 : Int32), ((v4.toInt = 0 ∧ ∀ l ∈ ownW, ¬ (gL mem 221 7).toInt = wnl l) ∨ (v4.toInt = 1 ∧ ∃ l, l ∈ ownW ∧ (gL mem 221 7).toInt = wnl l)) → (v4).toInt = 0 → ¬ (gi mem 221 8).toInt = 0 → aTm aT0 mem → P (some (.long (gL mem 221 7))) mem) (s1 : (gi mem 221 12).toInt = (-1) → (gi mem 221 8).toInt ≤ 0 → (gi mem 221 3).toInt = 1 → ∀ (v4 : Int32), ((v4.toInt = 0 ∧ ∀ l ∈ ownW, ¬ (gL mem 221 7).toInt = wnl l) ∨ (v4.toInt = 1 ∧ ∃ l, l ∈ ownW ∧ (gL mem 221 7).toInt = wnl l)) → (v4).toInt = 0 → (gi mem 221 8).toInt = 0 → ∀ (v8 : Int32), inQ mem (gL mem 221 7) v8.toInt → (v8).toInt = 0 → mR T n p t e mem) (h3 : (gi mem 221 12).toInt = (-1) → (gi mem 221 8).toInt ≤ 0 → (gi mem 221 3).toInt = 1 → ∀ (v4 : Int32), ((v4.toInt = 0 ∧ ∀ l ∈ ownW, ¬ (gL mem 221 7).toInt = wnl l) ∨ (v4.toInt = 1 ∧ ∃ l, l ∈ ownW ∧ (gL mem 221 7).toInt = wnl l)) → (v4).toInt = 0 → (gi mem 221 8).toInt = 0 → ∀ (v8 : Int32), inQ mem (gL mem 221 7) v8.toInt → (v8).toInt = 0 → ∀ (m11 : zM), aTm aT0 m11 → (ahQ mem m11 ∧ mRd T n e m11) → aTm aT0 m11 → P (some (.long (gL mem 221 7))) m11) (h4 : (gi mem 221 12).toInt = (-1) → (gi mem 221 8).toInt ≤ 0 → (gi mem 221 3).toInt = 1 → ∀ (v4 : Int32), ((v4.toInt = 0 ∧ ∀ l ∈ ownW, ¬ (gL mem 221 7).toInt = wnl l) ∨ (v4.toInt = 1 ∧ ∃ l, l ∈ ownW ∧ (gL mem 221 7).toInt = wnl l)) → (v4).toInt = 0 → (gi mem 221 8).toInt = 0 → ∀ (v8 : Int32), inQ mem (gL mem 221 7) v8.toInt → ¬ (v8).toInt = 0 → aTm aT0 (si (si mem 221 8 2) 221 9 (gi mem 221 4)) → P (some (.long (gL mem 221 7))) (si (si mem 221 8 2) 221 9 (gi mem 221 4))) (h5 : (gi mem 221 12).toInt = (-1) → (gi mem 221 8).toInt ≤ 0 → (gi mem 221 3).toInt = 1 → ∀ (v4 : Int32), ((v4.toInt = 0 ∧ ∀ l ∈ ownW, ¬ (gL mem 221 7).toInt = wnl l) ∨ (v4.toInt = 1 ∧ ∃ l, l ∈ ownW ∧ (gL mem 221 7).toInt = wnl l)) → ¬ (v4).toInt = 0 → aTm aT0 (si (si mem 221 8 1) 221 9 (gi mem 221 4)) → P (some (.long (gL mem 221 7))) (si (si mem 221 8 1) 221 9 (gi mem 221 4))) (h6 : (gi mem 221 12).toInt = (-1) → 0 < (gi mem 221 8).toInt → aTm aT0 mem → P (some (.long 0)) mem) (h7 : ¬ (gi mem 221 12).toInt = (-1) → (gi mem 221 8).toInt ≤ 0 → aTm aT0 (si (si mem 221 8 1) 221 9 (gi mem 221 12)) → P (some (.long 0)) (si (si mem 221 8 1) 221 9 (gi mem 221 12))) (h8 : ¬ (gi mem 221 12).toInt = (-1) → 0 < (gi mem 221 8).toInt → aTm aT0 mem → P (some (.long 0)) mem) : yR zpg tX12_fresh (d + 3) (0, [(0, .ref 221)], [], mem) P := by
  refine yR_m 1 (fun _ _ _ _ => rfl) ?_
  refine wR_iv rfl rfl mO_e hm rfl rfl rfl rfl ?_
  show yR zpg tX12_lex (d + 2) (0, [(0, .ref 221)], [], mem) _
  refine yR_m 1 (fun _ _ _ _ => rfl) ?_
  refine wR_gi rfl mO_e mO_12 hm rfl ?_
  refine yR_m 1 (fun _ _ _ _ => rfl) ?_
  refine wR_ic_eq rfl (a := (gi mem 221 12).toInt) (c := (-1)) rfl tm1 (fun q1 => ?_) (fun q1 => ?_)
  ·
    refine yR_rv rfl ?_
    show yR zpg tX12_fresh (d + 3) (4, [(0, .ref 221)], [], mem) _
    refine yR_m 1 (fun _ _ _ _ => rfl) ?_
    refine wR_gi rfl mO_e mO_8 hm rfl ?_
    refine wR_if_le rfl (a := (gi mem 221 8).toInt) rfl (fun q2 => ?_) (fun q2 => ?_)
    ·
      refine yR_m 1 (fun _ _ _ _ => rfl) ?_
      refine wR_gi rfl mO_e mO_3 hm rfl ?_
      refine yR_m 1 (fun _ _ _ _ => rfl) ?_
      refine wR_ic_ne rfl (a := (gi mem 221 3).toInt) (c := 1) rfl rfl (fun q3 => ?_) (fun q3 => ?_)
      ·
        refine yR_m 3 (fun _ _ _ _ => rfl) ?_
        refine wR_gi rfl mO_e mO_4 hm rfl ?_
        refine wR_iv rfl rfl mO_e hm rfl rfl rfl rfl ?_
        show yR zpg tX12_blame (d + 2) (0, [(0, .ref 221), (1, .int 1), (2, .int (gi mem 221 4))], [], mem) _
        refine yR_m 1 (fun _ _ _ _ => rfl) ?_
        refine wR_gi rfl mO_e mO_8 hm rfl ?_
        refine wR_if_le rfl (a := (gi mem 221 8).toInt) rfl (fun _ => ?_) (fun q => by exfalso; omega)
        refine yR_m 2 (fun _ _ _ _ => rfl) ?_
        refine wR_pi rfl mO_e mO_8 hm rfl ?_
        have hm_1 : aTm aT0 (si mem 221 8 1) := tm_si mO_e mO_8 hm (i32_b _)
        refine yR_m 2 (fun _ _ _ _ => rfl) ?_
        refine wR_pi rfl mO_e mO_9 hm_1 rfl ?_
        have hm_2 : aTm aT0 (si (si mem 221 8 1) 221 9 (gi mem 221 4)) := tm_si mO_e mO_9 hm_1 (i32_b _)
        refine yR_rv rfl ?_
        show yR zpg tX12_fresh (d + 3) (41, [(0, .ref 221)], [], (si (si mem 221 8 1) 221 9 (gi mem 221 4))) _
        refine yR_m 1 (fun _ _ _ _ => rfl) ?_
        refine wR_gi rfl mO_e mO_8 hm_2 ((gi_sv_ne (by decide)).trans (gi_si_eq mO_e mO_8 hm)) ?_
        refine wR_if_ne rfl (a := 1) rfl (fun _ => ?_) (fun q => by exfalso; omega)
        refine yR_m 1 (fun _ _ _ _ => rfl) ?_
        refine wR_gL rfl mO_e mO_7 hm_2 ((gL_sv_ne (by decide)).trans (gL_sv_ne (by decide))) ?_
        refine yR_m 2 (fun _ _ _ _ => rfl) ?_
        refine wR_gi rfl mO_e mO_8 hm_2 ((gi_sv_ne (by decide)).trans (gi_si_eq mO_e mO_8 hm)) ?_
        refine wR_if_ne rfl (a := 1) rfl (fun _ => ?_) (fun q => by exfalso; omega)
        refine yR_m 1 (fun _ _ _ _ => rfl) ?_
        exact yR_rl rfl (h1 q1 q2 q3 hm_2)
      ·
        refine yR_m 2 (fun _ _ _ _ => rfl) ?_
        refine wR_gL rfl mO_e mO_7 hm rfl ?_
        refine wR_cv rfl rfl mO_e hm rfl (h_isOwnF hm (by omega)) ?_
        rintro _ _ ⟨v4, rfl, rfl, k5⟩
        show yR zpg tX12_fresh (d + 3) (29, [(0, .ref 221)], [.int v4], mem) _
        refine wR_if_eq rfl (a := (v4).toInt) rfl (fun q6 => ?_) (fun q6 => ?_)
        ·
          refine yR_m 1 (fun _ _ _ _ => rfl) ?_
          refine wR_gi rfl mO_e mO_8 hm rfl ?_
          refine wR_if_ne rfl (a := (gi mem 221 8).toInt) rfl (fun q7 => ?_) (fun q7 => ?_)
          ·
            refine yR_m 1 (fun _ _ _ _ => rfl) ?_
            refine wR_gL rfl mO_e mO_7 hm rfl ?_
            refine yR_m 2 (fun _ _ _ _ => rfl) ?_
            refine wR_gi rfl mO_e mO_8 hm rfl ?_
            refine wR_if_ne rfl (a := (gi mem 221 8).toInt) rfl (fun _ => ?_) (fun q => by exfalso; omega)
            refine yR_m 1 (fun _ _ _ _ => rfl) ?_
            exact yR_rl rfl (h2 q1 q2 q3 v4 k5 q6 q7 hm)
          ·
            refine yR_m 2 (fun _ _ _ _ => rfl) ?_
            refine wR_gL rfl mO_e mO_7 hm rfl ?_
            refine wR_cv rfl rfl mO_e hm rfl (h_inF hm (by omega)) ?_
            rintro _ _ ⟨v8, rfl, rfl, k9⟩
            show yR zpg tX12_fresh (d + 3) (56, [(0, .ref 221)], [.int v8], mem) _
            refine wR_if_eq rfl (a := (v8).toInt) rfl (fun q10 => ?_) (fun q10 => ?_)
            ·
              refine yR_m 1 (fun _ _ _ _ => rfl) ?_
              refine wR_gL rfl mO_e mO_7 hm rfl ?_
              refine yR_m 2 (fun _ _ _ _ => rfl) ?_
              refine wR_gi rfl mO_e mO_8 hm rfl ?_
              refine wR_if_ne rfl (a := (gi mem 221 8).toInt) rfl (fun q => by exfalso; omega) (fun _ => ?_)
              refine yR_m 1 (fun _ _ _ _ => rfl) ?_
              refine wR_cv rfl rfl mO_e hm rfl (h_aheadM hm (s1 q1 q2 q3 v4 k5 q6 q7 v8 k9 q10) (by omega)) ?_
              rintro _ m11 ⟨rfl, hI11, k12⟩
              show yR zpg tX12_fresh (d + 3) (84, [(1, .long (gL mem 221 7)), (0, .ref 221)], [], m11) _
              refine yR_m 1 (fun _ _ _ _ => rfl) ?_
              exact yR_rl rfl (h3 q1 q2 q3 v4 k5 q6 q7 v8 k9 q10 m11 hI11 k12 hI11)
            ·
              refine yR_m 3 (fun _ _ _ _ => rfl) ?_
              refine wR_gi rfl mO_e mO_4 hm rfl ?_
              refine wR_iv rfl rfl mO_e hm rfl rfl rfl rfl ?_
              show yR zpg tX12_blame (d + 2) (0, [(0, .ref 221), (1, .int 2), (2, .int (gi mem 221 4))], [], mem) _
              refine yR_m 1 (fun _ _ _ _ => rfl) ?_
              refine wR_gi rfl mO_e mO_8 hm rfl ?_
              refine wR_if_le rfl (a := (gi mem 221 8).toInt) rfl (fun _ => ?_) (fun q => by exfalso; omega)
              refine yR_m 2 (fun _ _ _ _ => rfl) ?_
              refine wR_pi rfl mO_e mO_8 hm rfl ?_
              have hm_3 : aTm aT0 (si mem 221 8 2) := tm_si mO_e mO_8 hm (i32_b _)
              refine yR_m 2 (fun _ _ _ _ => rfl) ?_
              refine wR_pi rfl mO_e mO_9 hm_3 rfl ?_
              have hm_4 : aTm aT0 (si (si mem 221 8 2) 221 9 (gi mem 221 4)) := tm_si mO_e mO_9 hm_3 (i32_b _)
              refine yR_rv rfl ?_
              show yR zpg tX12_fresh (d + 3) (68, [(0, .ref 221)], [], (si (si mem 221 8 2) 221 9 (gi mem 221 4))) _
              refine yR_m 1 (fun _ _ _ _ => rfl) ?_
              refine wR_gL rfl mO_e mO_7 hm_4 ((gL_sv_ne (by decide)).trans (gL_sv_ne (by decide))) ?_
              refine yR_m 2 (fun _ _ _ _ => rfl) ?_
              refine wR_gi rfl mO_e mO_8 hm_4 ((gi_sv_ne (by decide)).trans (gi_si_eq mO_e mO_8 hm)) ?_
              refine wR_if_ne rfl (a := 2) rfl (fun _ => ?_) (fun q => by exfalso; omega)
              refine yR_m 1 (fun _ _ _ _ => rfl) ?_
              exact yR_rl rfl (h4 q1 q2 q3 v4 k5 q6 q7 v8 k9 q10 hm_4)
        ·
          refine yR_m 3 (fun _ _ _ _ => rfl) ?_
          refine wR_gi rfl mO_e mO_4 hm rfl ?_
          refine wR_iv rfl rfl mO_e hm rfl rfl rfl rfl ?_
          show yR zpg tX12_blame (d + 2) (0, [(0, .ref 221), (1, .int 1), (2, .int (gi mem 221 4))], [], mem) _
          refine yR_m 1 (fun _ _ _ _ => rfl) ?_
          refine wR_gi rfl mO_e mO_8 hm rfl ?_
          refine wR_if_le rfl (a := (gi mem 221 8).toInt) rfl (fun _ => ?_) (fun q => by exfalso; omega)
          refine yR_m 2 (fun _ _ _ _ => rfl) ?_
          refine wR_pi rfl mO_e mO_8 hm rfl ?_
          have hm_5 : aTm aT0 (si mem 221 8 1) := tm_si mO_e mO_8 hm (i32_b _)
          refine yR_m 2 (fun _ _ _ _ => rfl) ?_
          refine wR_pi rfl mO_e mO_9 hm_5 rfl ?_
          have hm_6 : aTm aT0 (si (si mem 221 8 1) 221 9 (gi mem 221 4)) := tm_si mO_e mO_9 hm_5 (i32_b _)
          refine yR_rv rfl ?_
          show yR zpg tX12_fresh (d + 3) (41, [(0, .ref 221)], [], (si (si mem 221 8 1) 221 9 (gi mem 221 4))) _
          refine yR_m 1 (fun _ _ _ _ => rfl) ?_
          refine wR_gi rfl mO_e mO_8 hm_6 ((gi_sv_ne (by decide)).trans (gi_si_eq mO_e mO_8 hm)) ?_
          refine wR_if_ne rfl (a := 1) rfl (fun _ => ?_) (fun q => by exfalso; omega)
          refine yR_m 1 (fun _ _ _ _ => rfl) ?_
          refine wR_gL rfl mO_e mO_7 hm_6 ((gL_sv_ne (by decide)).trans (gL_sv_ne (by decide))) ?_
          refine yR_m 2 (fun _ _ _ _ => rfl) ?_
          refine wR_gi rfl mO_e mO_8 hm_6 ((gi_sv_ne (by decide)).trans (gi_si_eq mO_e mO_8 hm)) ?_
          refine wR_if_ne rfl (a := 1) rfl (fun _ => ?_) (fun q => by exfalso; omega)
          refine yR_m 1 (fun _ _ _ _ => rfl) ?_
          exact yR_rl rfl (h5 q1 q2 q3 v4 k5 q6 hm_6)
    ·
      refine yR_m 1 (fun _ _ _ _ => rfl) ?_
      exact yR_rl rfl (h6 q1 q2 hm)
  ·
    refine yR_m 3 (fun _ _ _ _ => rfl) ?_
    refine wR_gi rfl mO_e mO_12 hm rfl ?_
    refine wR_iv rfl rfl mO_e hm rfl rfl rfl rfl ?_
    show yR zpg tX12_blame (d + 1) (0, [(0, .ref 221), (1, .int 1), (2, .int (gi mem 221 12))], [], mem) _
    refine yR_m 1 (fun _ _ _ _ => rfl) ?_
    refine wR_gi rfl mO_e mO_8 hm rfl ?_
    refine wR_if_le rfl (a := (gi mem 221 8).toInt) rfl (fun q13 => ?_) (fun q13 => ?_)
    ·
      refine yR_m 2 (fun _ _ _ _ => rfl) ?_
      refine wR_pi rfl mO_e mO_8 hm rfl ?_
      have hm_7 : aTm aT0 (si mem 221 8 1) := tm_si mO_e mO_8 hm (i32_b _)
      refine yR_m 2 (fun _ _ _ _ => rfl) ?_
      refine wR_pi rfl mO_e mO_9 hm_7 rfl ?_
      have hm_8 : aTm aT0 (si (si mem 221 8 1) 221 9 (gi mem 221 12)) := tm_si mO_e mO_9 hm_7 (i32_b _)
      refine yR_rv rfl ?_
      show yR zpg tX12_lex (d + 2) (17, [(0, .ref 221)], [], (si (si mem 221 8 1) 221 9 (gi mem 221 12))) _
      refine yR_rv rfl ?_
      show yR zpg tX12_fresh (d + 3) (4, [(0, .ref 221)], [], (si (si mem 221 8 1) 221 9 (gi mem 221 12))) _
      refine yR_m 1 (fun _ _ _ _ => rfl) ?_
      refine wR_gi rfl mO_e mO_8 hm_8 ((gi_sv_ne (by decide)).trans (gi_si_eq mO_e mO_8 hm)) ?_
      refine wR_if_le rfl (a := 1) rfl (fun q => by exfalso; omega) (fun _ => ?_)
      refine yR_m 1 (fun _ _ _ _ => rfl) ?_
      exact yR_rl rfl (h7 q1 q13 hm_8)
    ·
      refine yR_rv rfl ?_
      show yR zpg tX12_lex (d + 2) (17, [(0, .ref 221)], [], mem) _
      refine yR_rv rfl ?_
      show yR zpg tX12_fresh (d + 3) (4, [(0, .ref 221)], [], mem) _
      refine yR_m 1 (fun _ _ _ _ => rfl) ?_
      refine wR_gi rfl mO_e mO_8 hm rfl ?_
      refine wR_if_le rfl (a := (gi mem 221 8).toInt) rfl (fun q => by exfalso; omega) (fun _ => ?_)
      refine yR_m 1 (fun _ _ _ _ => rfl) ?_
      exact yR_rl rfl (h8 q1 q13 hm)

theorem h_frF (hm : aTm aT0 mem) (h8 : 0 ≤ (gi mem 221 8).toInt) (ht : mQt (gi mem 221 34).toInt (Qt Q) mem) (hf : mQf (gi mem 221 34).toInt (Qf Q) mem) (hR : (gi mem 221 8).toInt = 0 → mR T n p t e mem) (hd : 4 ≤ d) : yC zpg d 194 [.ref 221] mem (fun r m => stO T n e (t.1 = 1 ∧ ¬ t.2.2 ∈ ownW ∧ ¬ nmd Q t.2.2) mem m ∧ (fk m = 0 → ∃ v : Int64, r = some (.long v) ∧ v.toInt = wnl t.2.2)) := by
  obtain ⟨d, rfl⟩ : ∃ q, d = q + 4 := ⟨d - 4, by omega⟩
  refine yC_of (t := tX12_fresh) rfl rfl ?_
  exact w_frF (T := T) (n := n) (p := p) (e := e) (t := t) hm
        (fun q1 q2 q3 hm2 => by
          have Z := hR (by omega)
          have I := mwo_iff Z.2.2.2 q1
          exact ⟨Or.inr ⟨Or.inr (fun w => by have w1 := I.1.2 w.1; omega), by show 1 ≤ (gi _ 221 8).toInt; rw [((gi_sv_ne (by decide)).trans (gi_eqO (isO_of hm) (by decide)))]; decide⟩, fun w => by exfalso; have w2 : (gi (si (si mem 221 8 1) 221 9 (gi mem 221 4)) 221 8).toInt = 0 := w; rw [((gi_sv_ne (by decide)).trans (gi_eqO (isO_of hm) (by decide)))] at w2; exact absurd w2 (by decide)⟩)
        (fun q1 q2 q3 v4 k5 q6 q7 hm2 => ⟨Or.inr ⟨Or.inl (by show 1 ≤ (gi mem 221 8).toInt; omega), by show 1 ≤ (gi mem 221 8).toInt; omega⟩, fun w => by exfalso; have w2 : (gi mem 221 8).toInt = 0 := w; omega⟩)
        (fun q1 q2 q3 v4 k5 q6 q7 v8 k9 q10 => hR (by omega))
        (fun q1 q2 q3 v4 k5 q6 q7 v8 k9 q10 m11 hI11 k12 hm2 => by
          have Z := hR (by omega)
          have I := mwo_iff Z.2.2.2 q1
          have W1 := I.2 (by omega)
          have T1 := I.1.1 (by omega)
          have O := own_m W1 (Tok_let Z.2.1 T1) k5
          have NN := nm_iff (Q := Q) ht hf W1 (Tok_let Z.2.1 T1) k9
          rcases O with ⟨-, o2⟩ | ⟨o1, -⟩
          · rcases NN with ⟨n1, -⟩ | ⟨-, n2⟩
            · exfalso; omega
            · exact ⟨Or.inl ⟨⟨by show (gi mem 221 8).toInt = 0; omega, T1, o2, n2⟩, by show (gi _ 221 8).toInt = 0; rw [fr_gi k12.1.1 rfl]; omega, k12.2⟩, fun _ => ⟨_, rfl, W1⟩⟩
          · exfalso; omega)
        (fun q1 q2 q3 v4 k5 q6 q7 v8 k9 q10 hm2 => by
          have Z := hR (by omega)
          have I := mwo_iff Z.2.2.2 q1
          have W1 := I.2 (by omega)
          have T1 := I.1.1 (by omega)
          have O := own_m W1 (Tok_let Z.2.1 T1) k5
          have NN := nm_iff (Q := Q) ht hf W1 (Tok_let Z.2.1 T1) k9
          rcases NN with ⟨-, n2⟩ | ⟨n1, -⟩
          · exact ⟨Or.inr ⟨Or.inr (fun w => w.2.2 n2), by show 1 ≤ (gi _ 221 8).toInt; rw [((gi_sv_ne (by decide)).trans (gi_eqO (isO_of hm) (by decide)))]; decide⟩, fun w => by exfalso; have w2 : (gi (si (si mem 221 8 2) 221 9 (gi mem 221 4)) 221 8).toInt = 0 := w; rw [((gi_sv_ne (by decide)).trans (gi_eqO (isO_of hm) (by decide)))] at w2; exact absurd w2 (by decide)⟩
          · exfalso; omega)
        (fun q1 q2 q3 v4 k5 q6 hm2 => by
          have Z := hR (by omega)
          have I := mwo_iff Z.2.2.2 q1
          have W1 := I.2 (by omega)
          have T1 := I.1.1 (by omega)
          have O := own_m W1 (Tok_let Z.2.1 T1) k5
          rcases O with ⟨o1, -⟩ | ⟨-, o2⟩
          · exfalso; omega
          · exact ⟨Or.inr ⟨Or.inr (fun w => w.2.1 o2), by show 1 ≤ (gi _ 221 8).toInt; rw [((gi_sv_ne (by decide)).trans (gi_eqO (isO_of hm) (by decide)))]; decide⟩, fun w => by exfalso; have w2 : (gi (si (si mem 221 8 1) 221 9 (gi mem 221 4)) 221 8).toInt = 0 := w; rw [((gi_sv_ne (by decide)).trans (gi_eqO (isO_of hm) (by decide)))] at w2; exact absurd w2 (by decide)⟩)
        (fun q1 q2 hm2 => ⟨Or.inr ⟨Or.inl (by show 1 ≤ (gi mem 221 8).toInt; omega), by show 1 ≤ (gi mem 221 8).toInt; omega⟩, fun w => by exfalso; have w2 : (gi mem 221 8).toInt = 0 := w; omega⟩)
        (fun q1 q13 hm2 => by
          have Z := hR (by omega)
          have X := mx_iff Z.2.2.2
          exact ⟨Or.inr ⟨Or.inr (fun w => q1 (X.2 (by have w1 := w.1; omega))), by show 1 ≤ (gi _ 221 8).toInt; rw [((gi_sv_ne (by decide)).trans (gi_eqO (isO_of hm) (by decide)))]; decide⟩, fun w => by exfalso; have w2 : (gi (si (si mem 221 8 1) 221 9 (gi mem 221 12)) 221 8).toInt = 0 := w; rw [((gi_sv_ne (by decide)).trans (gi_eqO (isO_of hm) (by decide)))] at w2; exact absurd w2 (by decide)⟩)
        (fun q1 q13 hm2 => ⟨Or.inr ⟨Or.inl (by show 1 ≤ (gi mem 221 8).toInt; omega), by show 1 ≤ (gi mem 221 8).toInt; omega⟩, fun w => by exfalso; have w2 : (gi mem 221 8).toInt = 0 := w; omega⟩)
noncomputable def freP (T : List Int32) (n : Int) (Q : Qd) (s : Option Int) : Option Int := s.bind fun p => (sFre T n Q p).map Prod.snd
def freV (T : List Int32) (n : Int) (Q : Qd) (s : Option Int) (v : Int) : Prop := ∀ p x, s = some p → sFre T n Q p = some x → v = wnl x.1 ∧ ∀ c ∈ x.1, ltr c
theorem h_frS (hm : aTm aT0 mem) (hT : tOK mem) (hQ : mQ (gi mem 221 34).toInt Q mem) (h : mS T n s mem) (hd : 4 ≤ d) : yC zpg d 194 [.ref 221] mem (fun r m => ∃ v : Int64, r = some (.long v) ∧ aTm aT0 m ∧ (tQ mem m ∧ mS T n (freP T n Q s) m ∧ freV T n Q s v.toInt)) := by
  rcases h with ⟨p, rfl, h0, t, e, hR⟩ | ⟨rfl, h0⟩
  · refine yC_mono (fun r m q => ?_) (yC_and (h_fresh hm hT hd) (h_frF (Q := Q) hm hT.2 hQ.2.2.1 hQ.2.2.2.2.1 (fun _ => hR) hd))
    obtain ⟨⟨v, q1, q2, q3⟩, q5, q6⟩ := q
    have es : sFre T n Q p = oif (t.1 = 1 ∧ ¬ t.2.2 ∈ ownW ∧ ¬ nmd Q t.2.2) (some (t.2.2, e)) := by
      unfold sFre sNam
      rw [tkf_e hR.2.1]
      by_cases w : t.1 = 1 ∧ ¬ t.2.2 ∈ ownW
      · rw [oif_t (show t.1 = 1 ∧ ¬ t.2.2 ∈ ownW from w)]
        show oif (¬ nmd Q t.2.2) (some (t.2.2, e)) = _
        by_cases z : nmd Q t.2.2
        · rw [oif_f (fun w => w z), oif_f (fun w => w.2.2 z)]
        · rw [oif_t z, oif_t ⟨w.1, w.2, z⟩]
      · rw [oif_f (show ¬ (t.1 = 1 ∧ ¬ t.2.2 ∈ ownW) from w), oif_f (fun z => w ⟨z.1, z.2.1⟩)]
        rfl
    refine ⟨v, q1, q2, q3, stO_S (p := p) (t := t) q5 h0 ?_, fun p' x e1 e2 => ?_⟩
    · show (sFre T n Q p).map Prod.snd = _
      rw [es]
      by_cases w : t.1 = 1 ∧ ¬ t.2.2 ∈ ownW ∧ ¬ nmd Q t.2.2
      · rw [oif_t w, oif_t w]; rfl
      · rw [oif_f w, oif_f w]; rfl
    · cases e1
      rw [es] at e2
      by_cases w : t.1 = 1 ∧ ¬ t.2.2 ∈ ownW ∧ ¬ nmd Q t.2.2
      · rw [oif_t w] at e2
        cases e2
        rcases q5 with ⟨-, z, -⟩ | ⟨z, -⟩
        · obtain ⟨v', w1, w2⟩ := q6 z
          rw [q1] at w1
          cases w1
          exact ⟨w2, Tok_let hR.2.1 w.1⟩
        · rcases z with z | z
          · exfalso; omega
          · exact absurd w z
      · rw [oif_f w] at e2
        cases e2
  · refine yC_mono (fun r m q => ?_) (yC_and (h_fresh hm hT hd) (h_frF (T := T) (n := n) (p := 0) (e := 0) (t := (0, 0, [])) (Q := Q) hm hT.2 hQ.2.2.1 hQ.2.2.2.2.1 (fun w => by exfalso; have w2 : fk mem = 0 := w; omega) hd))
    obtain ⟨⟨v, q1, q2, q3⟩, q5, q6⟩ := q
    refine ⟨v, q1, q2, q3, ?_, fun p x e1 => by cases e1⟩
    rcases q5 with ⟨⟨w, -⟩, -⟩ | ⟨-, w⟩
    · exfalso; omega
    · exact Or.inr ⟨rfl, w⟩
end MQ
