/-! what calls leave as it is: cells -/
section FRZ
variable {m m' a b : zM} {d : Nat} {mem : zM}
def kpt (T : List aCe) (k : Nat) : Bool := match aat T k with
  | some (.inl q) => q.1
  | some (.inr o) => o.2.all (fun τ => τ.1)
  | none => false
theorem aTf_ln : ∀ {l : List (Bool × aTy)} {fs : List Value}, aTf l fs → fs.length = l.length
  | [], [], _ => rfl
  | [], _ :: _, h => h.elim
  | _ :: _, [], h => h.elim
  | _ :: r, _ :: q, h => by
    have z := aTf_ln (l := r) (fs := q) h.2
    simp [z]
theorem kpt_z {T : List aCe} {k : Nat} (hm : aTm T m) (hm' : aTm T m') (F : aPr T m m') (h : kpt T k = true) : zat m' k = zat m k := by
  unfold kpt at h
  cases hc : aat T k with
  | none => rw [hc] at h; cases h
  | some c =>
    rw [hc] at h
    cases c with
    | inl q => exact F.1 k (by unfold aKa; rw [hc]; exact h)
    | inr o =>
      obtain ⟨ci, τs⟩ := o
      obtain ⟨fs, f1, f2⟩ := aTm_o hm hc
      obtain ⟨gs, g1, g2⟩ := aTm_o hm' hc
      have e : gs = fs := by
        apply List.ext_getElem?
        intro i
        by_cases hi : i < τs.length
        · have z := F.2 k i (by
            unfold aKf
            rw [hc]
            show (match τs[i]? with
              | some τ => τ.1
              | none => false) = true
            rw [List.getElem?_eq_getElem hi]
            exact List.all_eq_true.1 h _ (List.getElem_mem hi))
          rw [zfl_at g1, zfl_at f1] at z
          exact z
        · rw [List.getElem?_eq_none (by rw [aTf_ln g2]; omega), List.getElem?_eq_none (by rw [aTf_ln f2]; omega)]
      rw [g1, f1, e]
theorem kpt_r {T : List aCe} {p : Nat → Bool} (h : (List.range 269).all (fun k => Bool.or (!p k) (kpt T k)) = true) {k : Nat} (hk : k < 269) (hp : p k = true) : kpt T k = true := by
  have z := List.all_eq_true.1 h k (List.mem_range.2 hk)
  rw [hp] at z
  exact z
theorem pr_onl {T : List aCe} {ks : List Nat} (h : ks.all (fun k => match aat T k with
    | some (.inl q) => !q.1
    | _ => false) = true) (O : onl ks m m') : aPr T m m' := by
  have nk : ∀ k, ks.contains k = true → ∃ q, aat T k = some (.inl q) ∧ q.1 = false := fun k hk => by
    have z := List.all_eq_true.1 h k (List.contains_iff_mem.1 hk)
    cases hc : aat T k with
    | none => rw [hc] at z; cases z
    | some c =>
      rw [hc] at z
      cases c with
      | inl q =>
        refine ⟨q, rfl, ?_⟩
        cases hq : q.1 with
        | false => rfl
        | true =>
          have z : (!q.1) = true := z
          rw [hq] at z
          cases z
      | inr o => cases z
  refine ⟨fun k hk => ?_, fun k i hk => ?_⟩
  · cases hc : ks.contains k with
    | false => exact O k hc
    | true =>
      obtain ⟨q, q1, q2⟩ := nk k hc
      unfold aKa at hk
      rw [q1] at hk
      have hk : q.1 = true := hk
      rw [q2] at hk
      cases hk
  · cases hc : ks.contains k with
    | false => exact zfl_ea (O k hc)
    | true =>
      obtain ⟨q, q1, q2⟩ := nk k hc
      unfold aKf at hk
      rw [q1] at hk
      cases hk
/-- the class's asks -/
def FX (m0 m : zM) : Prop := (∀ k, 31 ≤ k → k ≤ 180 → zat m k = zat m0 k) ∧ (∀ k, 220 ≤ k → k < 269 → zat m k = zat m0 k) ∧ zfl m 0 15 = zfl m0 0 15
theorem k8_l : (List.range 269).all (fun k => Bool.or (!(Bool.or (Bool.and (Nat.ble 31 k) (Nat.ble k 180)) (Nat.ble 220 k))) (kpt aT8 k)) = true := by decide +kernel
abbrev E8 : zM → Prop := aEm (fun _ => True)
theorem e8_s : aEs (aΘ8 E8) := fun m m' hp ht h => ⟨trivial, fun l hl => h.2 l (by rw [← hp.1 191 (by decide +kernel)]; exact hl)⟩
theorem met_q8 : aQc (aΘ8 E8) 191 met_f := by
  intro mem x l q hJ hz hf
  unfold met_f at hf
  cases hb : Bool.and (decide (0 ≤ x.toInt)) (decide (x.toInt % 4 = 1)) with
  | false => rw [hb] at hf; cases hf
  | true =>
    rw [hb] at hf
    cases hf
    obtain ⟨b1, b2⟩ := (Bool.and_eq_true _ _).mp hb
    have h0 := of_decide_eq_true b1
    have h1 := of_decide_eq_true b2
    have hm := hJ.2.2 l hz
    have hc := zclamp h0
    have hl : l.length = 64 := by
      obtain ⟨l2, w1, w2, -⟩ := aTm_a (k := 191) hJ.1 rfl
      rw [hz] at w1
      cases w1
      exact w2
    by_cases h2 : x.toInt < 64
    · have e : x.toNatClampNeg = 4 * (x.toNatClampNeg / 4) + 1 := by omega
      rw [e]
      exact hm _ (by omega)
    · rw [List.getD_eq_getElem?_getD, List.getElem?_eq_none (by omega)]
      exact ⟨by decide, by decide⟩
theorem u81 : aH81 E8 := ⟨e8_s, met_q8⟩
theorem u82 : aH82 E8 := ⟨e8_s, k81_X3_fitsMet u81⟩
theorem fx8 (hm : aTm aT8 m) (hm' : aTm aT8 m') (F : aPr aT8 m m') : FX m m' := ⟨fun k h1 h2 => kpt_z hm hm' F (kpt_r k8_l (by omega) (by rw [Nat.ble_eq_true_of_le h1, Nat.ble_eq_true_of_le h2]; rfl)), fun k h1 h2 => kpt_z hm hm' F (kpt_r k8_l h2 (by rw [Nat.ble_eq_true_of_le h1]; cases Bool.and (Nat.ble 31 k) (Nat.ble k 180) <;> rfl)), F.2 0 15 (by decide +kernel)⟩
theorem ask8 {D : Nat} {c : aCt} {av : List Value} (h : aCv (aΘ8 E8) D c) (hd : D ≤ d) (hm : aTm aT0 mem) (hE : ∀ l, zat mem 191 = some (.inl (0, .inl l)) → metOk l) (ha : aTvs c.2.1 av) : yC zpg d c.1 av mem (fun _ m => FX mem m) := by
  have hm8 := aLq_s aLq_08 hm
  exact yC_mono (fun r m q => fx8 hm8 q.1.1 q.2.1) (h d mem av hd ⟨hm8, trivial, hE⟩ ha)
/-- class's end and meet -/
def FY (m0 m : zM) : Prop := (∀ k, 31 ≤ k → k ≤ 180 → zat m k = zat m0 k) ∧ (∀ k, 221 ≤ k → k < 269 → zat m k = zat m0 k) ∧ zfl m 0 15 = zfl m0 0 15
theorem k10_l : (List.range 269).all (fun k => Bool.or (!(Bool.or (Bool.and (Nat.ble 31 k) (Nat.ble k 180)) (Nat.ble 221 k))) (kpt aT10 k)) = true := by decide +kernel
theorem u84 : aH84 (fun _ => True) := ⟨fun _ _ _ _ _ => trivial, trivial⟩
theorem ask10 {D : Nat} {c : aCt} {av : List Value} (h : aCv (aΘ10 (fun _ => True)) D c) (hd : D ≤ d) (hm : aTm aT0 mem) (ha : aTvs c.2.1 av) : yC zpg d c.1 av mem (fun _ m => FY mem m) := by
  have hm8 := aLw_s aLw_010 hm
  refine yC_mono (fun r m q => ?_) (h d mem av hd ⟨hm8, trivial⟩ ha)
  obtain ⟨⟨hm', -⟩, F, -⟩ := q
  exact ⟨fun k h1 h2 => kpt_z hm8 hm' F (kpt_r k10_l (by omega) (by rw [Nat.ble_eq_true_of_le h1, Nat.ble_eq_true_of_le h2]; rfl)), fun k h1 h2 => kpt_z hm8 hm' F (kpt_r k10_l h2 (by rw [Nat.ble_eq_true_of_le h1]; cases Bool.and (Nat.ble 31 k) (Nat.ble k 180) <;> rfl)), F.2 0 15 (by decide +kernel)⟩
/-- the model's asks that don't look ahead -/
def FM (m0 m : zM) : Prop := (∀ k, k ≤ 220 → zat m k = zat m0 k) ∧ (∀ k, 248 ≤ k → k ≤ 255 → zat m k = zat m0 k) ∧ zfl m 221 54 = zfl m0 221 54 ∧ zfl m 221 55 = zfl m0 221 55 ∧ zfl m 221 56 = zfl m0 221 56
theorem k9_l : (List.range 269).all (fun k => Bool.or (!(Bool.or (Nat.ble k 220) (Bool.and (Nat.ble 248 k) (Nat.ble k 255)))) (kpt aT9 k)) = true := by decide +kernel
theorem EMs0 : aEs (aΘ0 EM) := fun m m' hp ht h => EM_of (pr_gi hp (by decide +kernel)) (pr_ga hp (by decide +kernel)) (pr_ga hp (by decide +kernel)) (pr_ga hp (by decide +kernel)) (pr_ga hp (by decide +kernel)) (pr_ga hp (by decide +kernel)) h
theorem EMs9 : aEs (aΘ9 EM) := fun m m' hp ht h => EM_of (pr_gi hp (by decide +kernel)) (pr_ga hp (by decide +kernel)) (pr_ga hp (by decide +kernel)) (pr_ga hp (by decide +kernel)) (pr_ga hp (by decide +kernel)) (pr_ga hp (by decide +kernel)) h
theorem qe9 : aQe (aΘ9 EM) 223 221 13 (0, 7) ∧ aQe (aΘ9 EM) 224 221 13 (0, 7) := by
  refine ⟨fun mem x l hJ hx hl => ?_, fun mem x l hJ hx hl => ?_⟩
  · have h := hJ.2.2
    have e : colsI mem = (l.getD x.toNatClampNeg 0).toInt := by
      unfold colsI bkN
      rw [ga_at hl, show gi mem 221 13 = x by unfold gi; rw [hx]]
      rfl
    rw [← e]
    exact ⟨h.1, h.2.1⟩
  · have h := hJ.2.2
    have e : rowsI mem = (l.getD x.toNatClampNeg 0).toInt := by
      unfold rowsI bkN
      rw [ga_at hl, show gi mem 221 13 = x by unfold gi; rw [hx]]
      rfl
    rw [← e]
    exact ⟨h.2.2.1, h.2.2.2⟩
theorem u83 : aH83 EM := by
  refine ⟨EMs9, qe9.1, qe9.2, ?_, ?_, ?_⟩
  · intro d mem av hd hJ g0
    obtain ⟨_, _, rfl, a0, g1⟩ := aTv_c g0
    have a9 := aTv_r a0
    subst a9
    obtain ⟨_, _, rfl, ⟨v, rfl, v0, v1⟩, g2⟩ := aTv_c g1
    obtain ⟨_, _, rfl, ⟨t, rfl, t0, t1⟩, g3⟩ := aTv_c g2
    have e := aTv_n g3
    subst e
    refine yC_mono ?_ (h_glowOf EMs0 (fun _ h => h.2.1) hd ⟨v0, v1⟩ ⟨t0, t1⟩ (wI_rf ⟨aLq_s aLq_90 hJ.1, hJ.2⟩))
    rintro _ m ⟨x, rfl, hI, O⟩
    exact ⟨⟨aLq_s aLq_09 hI.1.1, hI.1.2⟩, pr_onl (by decide +kernel) O, x, rfl, (i32_b x).1, (i32_b x).2⟩
  · intro d mem av hd hJ g0
    obtain ⟨_, _, rfl, a0, g1⟩ := aTv_c g0
    have a9 := aTv_r a0
    subst a9
    obtain ⟨_, _, rfl, ⟨v, rfl, v0, v1⟩, g2⟩ := aTv_c g1
    obtain ⟨_, _, rfl, ⟨t, rfl, t0, t1⟩, g3⟩ := aTv_c g2
    have e := aTv_n g3
    subst e
    refine yC_mono ?_ (h_leads EMs0 hd ⟨v0, v1⟩ hJ.2.2 (wI_rf ⟨aLq_s aLq_90 hJ.1, hJ.2⟩))
    rintro _ m ⟨rfl, hI, O⟩
    exact ⟨⟨aLq_s aLq_09 hI.1.1, hI.1.2⟩, pr_onl (by decide +kernel) O.1, trivial⟩
  · intro d mem av hd hJ g0
    obtain ⟨_, _, rfl, ⟨v, rfl, -, -⟩, g2⟩ := aTv_c g0
    have e := aTv_n g2
    subst e
    refine yC_mono ?_ (c_bits (by omega))
    rintro _ m ⟨x, rfl, rfl, -⟩
    exact ⟨hJ, aPr_rf, x, rfl, (i32_b x).1, (i32_b x).2⟩
theorem ask9 {D : Nat} {c : aCt} {av : List Value} (h : aCv (aΘ9 EM) D c) (hd : D ≤ d) (hm : aTm aT0 mem) (hE : EM mem) (ha : aTvs c.2.1 av) : yC zpg d c.1 av mem (fun _ m => FM mem m) := by
  have hm8 := aLq_s aLq_09 hm
  refine yC_mono (fun r m q => ?_) (h d mem av hd ⟨hm8, hE⟩ ha)
  obtain ⟨⟨hm', -⟩, F, -⟩ := q
  exact ⟨fun k h1 => kpt_z hm8 hm' F (kpt_r k9_l (by omega) (by rw [Nat.ble_eq_true_of_le h1]; rfl)), fun k h1 h2 => kpt_z hm8 hm' F (kpt_r k9_l (by omega) (by rw [Nat.ble_eq_true_of_le h1, Nat.ble_eq_true_of_le h2]; cases Nat.ble k 220 <;> rfl)), F.2 221 54 (by decide +kernel), F.2 221 55 (by decide +kernel), F.2 221 56 (by decide +kernel)⟩
/-- no thing is supposed to have another hue, now or in the ring -/
def supp (m : zM) : Prop := (gi m 31 4).toInt = -1 ∧ ∀ n, n < 20 → (gi m (41 + 7 * n) 4).toInt = -1
def sVN (s : Nat) : List (Bool × aTy) := [(false, .inl (-2147483648, 2147483647)), (false, .inl (0, 511)), (false, .inr (some [s + 1])), (false, .inr (some [s + 2])), (false, .inl (-1, -1)), (false, .inl (-2147483648, 2147483647))]
set_option maxRecDepth 100000 in
theorem t12_31 : aat aT12 31 = some (.inr (8, sVN 31)) := rfl
set_option maxRecDepth 100000 in
theorem t12_r {n : Nat} (hn : n < 20) : aat aT12 (41 + 7 * n) = some (.inr (8, sVN (41 + 7 * n))) := by
  rcases (show n = 0 ∨ n = 1 ∨ n = 2 ∨ n = 3 ∨ n = 4 ∨ n = 5 ∨ n = 6 ∨ n = 7 ∨ n = 8 ∨ n = 9 ∨ n = 10 ∨ n = 11 ∨ n = 12 ∨ n = 13 ∨ n = 14 ∨ n = 15 ∨ n = 16 ∨ n = 17 ∨ n = 18 ∨ n = 19 by omega) with r | r | r | r | r | r | r | r | r | r | r | r | r | r | r | r | r | r | r | r <;> (subst r; rfl)
def spl (k : Nat) : Bool := Bool.or (Nat.beq k 31) ((List.range 20).any (fun n => Nat.beq k (41 + 7 * n)))
theorem t12_l : (List.range 269).all (fun k => Bool.or (spl k) (match aat aT0 k, aat aT12 k with
  | some c, some c' => aCw c c'
  | _, _ => false)) = true := by decide +kernel
theorem aat_lt : ∀ {T : List aCe} {k : Nat} {c : aCe}, aat T k = some c → k < T.length
  | [], _, _, h => by cases h
  | _ :: r, 0, _, _ => by simp
  | _ :: r, k + 1, c, h => by
    have z := aat_lt (T := r) (k := k) (c := c) h
    simp
    omega
theorem t12_len : aT12.length = 269 := by decide +kernel
theorem nar_e {s : Nat} (hm : aTm aT0 m) (ht : aat aT0 s = some (.inr (8, sVO s))) (h4 : (gi m s 4).toInt = -1) : ∃ e, zat m s = some e ∧ aTe (.inr (8, sVN s)) e := by
  obtain ⟨fs, f1, f2⟩ := aTm_o hm ht
  refine ⟨_, f1, ?_⟩
  match fs, f1, f2 with
  | [x0, x1, x2, x3, x4, x5], f1, ⟨h0, h1, h2, h3, ⟨y, e, _, _⟩, h5, _⟩ =>
    have ey : gi m s 4 = y := gi_at f1 (by rw [← e]; rfl)
    rw [ey] at h4
    exact ⟨_, rfl, h0, h1, h2, h3, ⟨y, e, by show (-1 : Int) ≤ y.toInt; omega, by show y.toInt ≤ -1; omega⟩, h5, trivial⟩
theorem t12 (hm : aTm aT0 m) (hs : supp m) : aTm aT12 m := by
  refine ⟨hm.1, fun k c' hc => ?_⟩
  have hk : k < 269 := by
    have z := aat_lt hc
    rw [t12_len] at z
    exact z
  have z := List.all_eq_true.1 t12_l k (List.mem_range.2 hk)
  cases hsp : spl k with
  | true =>
    unfold spl at hsp
    rcases (Bool.or_eq_true _ _).mp hsp with w | w
    · have w := Nat.eq_of_beq_eq_true w
      subst w
      rw [t12_31] at hc
      cases hc
      exact nar_e hm iT_31.1 hs.1
    · obtain ⟨n, n1, n2⟩ := List.any_eq_true.1 w
      have n1 := List.mem_range.1 n1
      have n2 := Nat.eq_of_beq_eq_true n2
      subst n2
      rw [t12_r n1] at hc
      cases hc
      exact nar_e hm (iT_r n1).1 (hs.2 n n1)
  | false =>
    rw [hsp, hc] at z
    cases h0 : aat aT0 k with
    | none => rw [h0] at z; cases z
    | some c =>
      rw [h0] at z
      obtain ⟨e, e1, e2⟩ := hm.2 k c h0
      exact ⟨e, e1, aCw_1 (show aCw c c' = true from z) e2⟩
theorem supp_12 (hm : aTm aT12 m) : supp m := by
  have q : ∀ {s : Nat}, aat aT12 s = some (.inr (8, sVN s)) → (gi m s 4).toInt = -1 := fun {s} hs => by
    have w := gi_rg (i := 4) (b := false) (q := (-1, -1)) hs rfl hm
    have w1 : -1 ≤ (gi m s 4).toInt := w.1
    have w2 : (gi m s 4).toInt ≤ -1 := w.2
    omega
  exact ⟨q t12_31, fun n hn => q (t12_r hn)⟩
theorem u86 : aH86 (fun _ => True) := ⟨fun _ _ _ _ _ => trivial, trivial⟩
theorem ask12 {D : Nat} {c : aCt} {av : List Value} (h : aCv (aΘ12 (fun _ => True)) D c) (hd : D ≤ d) (hm : aTm aT0 mem) (hs : supp mem) (ha : aTvs c.2.1 av) : yC zpg d c.1 av mem (fun _ m => supp m) := yC_mono (fun r m q => supp_12 q.1.1) (h d mem av hd ⟨t12 hm hs, trivial⟩ ha)
end FRZ
