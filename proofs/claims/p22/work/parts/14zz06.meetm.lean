/-! the model's meet: what it leaves as it is -/
def smn (ks : List Nat) (mr m : zM) : Prop := smo ks mr m ∧ ∀ i, ¬ i = 66 → zfl m 221 i = zfl mr 221 i
theorem smn_rf {ks : List Nat} {m : zM} : smn ks m m := ⟨smo_rf, fun _ _ => rfl⟩
theorem smn_sa {ks : List Nat} {mr m : zM} {k j : Nat} {x : Int32} (hk : (221 :: ks).contains k = true) (h : smn ks mr m) : smn ks mr (sa m k j x) := ⟨smo_sa hk h.1, fun i hi => zfl_sa.trans (h.2 i hi)⟩
theorem smn_sv {ks : List Nat} {mr m : zM} {v : Value} (h : smn ks mr m) : smn ks mr (sv m 221 66 v) := ⟨smo_sv (by decide) (by decide) (by decide) h.1, fun i hi => (zfl_sv_ne (fun w => hi w.2.symm)).trans (h.2 i hi)⟩
section MEN
variable {mr : zM} {d : Nat} {n : Int32}
def mePn (mr : zM) (r : Option Value) (m : zM) : Prop := (∃ x : Int32, r = some (.int x)) ∧ aTm aT0 m ∧ smn [248, 264, 265, 266] mr m
theorem mn_put (T : List Int32) (hT : ∀ j, 0 ≤ j → j < 16 → 4 * j < n.toInt → 0 ≤ gn T (4 * j + 1) ∧ gn T (4 * j + 1) ≤ 5) (hn : 0 ≤ n.toInt ∧ n.toInt ≤ 64) : ∀ (f : Nat) (k : Int32) (mem : zM) (lo : List (Nat × Value)), 17 ≤ k.toInt + (f : Int) → 0 ≤ k.toInt → k.toInt ≤ 16 → (gi mem 221 66).toInt * 4 ≤ n.toInt → ga mem 222 = T → smn [248, 264, 265, 266] mr mem → zlg lo 0 = some (.ref 221) → zlg lo 3 = some (.int k) → aTm aT0 mem → yR zpg tX12_meet (d + 3) (123, lo, [], mem) (mePn mr) := by
  intro f
  induction f with
  | zero => intro k mem lo hf k0 k1; omega
  | succ f ih =>
    intro k mem lo hf k0 k1 hmm hT2 hs l0 l3 hm
    have mm := mO_r66 hm
    have tt := hT k.toInt k0
    rw [← hT2] at tt
    exact w_me_123 hm l0 l3 ⟨k0, k1⟩
        (fun q1 hm => ⟨⟨_, rfl⟩, hm, hs⟩)
        (fun q1 x2 e3 y4 e5 => by have R0 := gR_222 hm (i := 4 * k.toInt) (by omega) (by omega); have R2 := gR_222 hm (i := 4 * k.toInt + 2) (by omega) (by omega); have R3 := gR_222 hm (i := 4 * k.toInt + 3) (by omega) (by omega); have T1 := tt (by omega) (by omega); omega)
        (fun q1 x2 e3 y4 e5 x6 e7 x8 e9 y10 e11 => by have R0 := gR_222 hm (i := 4 * k.toInt) (by omega) (by omega); have R2 := gR_222 hm (i := 4 * k.toInt + 2) (by omega) (by omega); have R3 := gR_222 hm (i := 4 * k.toInt + 3) (by omega) (by omega); have T1 := tt (by omega) (by omega); omega)
        (fun q1 x2 e3 y4 e5 x6 e7 x8 e9 y10 e11 x12 e13 x14 e15 y16 e17 => by have R0 := gR_222 hm (i := 4 * k.toInt) (by omega) (by omega); have R2 := gR_222 hm (i := 4 * k.toInt + 2) (by omega) (by omega); have R3 := gR_222 hm (i := 4 * k.toInt + 3) (by omega) (by omega); have T1 := tt (by omega) (by omega); omega)
        (fun q1 x2 e3 y4 e5 x6 e7 x8 e9 y10 e11 x12 e13 x14 e15 y16 e17 x18 e19 x20 e21 x22 e23 y24 e25 => by have R0 := gR_222 hm (i := 4 * k.toInt) (by omega) (by omega); have R2 := gR_222 hm (i := 4 * k.toInt + 2) (by omega) (by omega); have R3 := gR_222 hm (i := 4 * k.toInt + 3) (by omega) (by omega); have T1 := tt (by omega) (by omega); omega)
        (fun q1 x2 e3 y4 e5 x6 e7 x8 e9 y10 e11 x12 e13 x14 e15 y16 e17 x18 e19 x20 e21 x22 e23 y24 e25 x26 e27 x28 e29 lo a0 a3 hm => ih _ _ lo (by omega) (by omega) (by omega) (by rw [gi_sa, gi_sa, gi_sa]; exact hmm) (by rw [ga_sa_ne (by decide), ga_sa_ne (by decide), ga_sa_ne (by decide)]; exact hT2) (smn_sa rfl (smn_sa rfl (smn_sa rfl hs))) a0 a3 hm)
theorem mn_test (hz : szOK mr) (hn : 0 ≤ n.toInt ∧ n.toInt ≤ 1600) : ∀ (f : Nat) (k ca : Int32) (mem : zM) (lo : List (Nat × Value)), 1604 ≤ k.toInt + (f : Int) → 0 ≤ k.toInt → k.toInt ≤ 1603 → (∃ q : Int, k.toInt = 4 * q) → (¬ ca.toInt = 0 → n.toInt ≤ 64 ∧ ∀ j, 0 ≤ j → 4 * j < k.toInt → 0 ≤ gn (ga mem 222) (4 * j + 1) ∧ gn (ga mem 222) (4 * j + 1) ≤ 5) → smn [248, 264, 265, 266] mr mem → zlg lo 0 = some (.ref 221) → zlg lo 1 = some (.int n) → zlg lo 2 = some (.int ca) → zlg lo 3 = some (.int k) → aTm aT0 mem → yR zpg tX12_meet (d + 3) (34, lo, [], mem) (mePn mr) := by
  intro f
  induction f with
  | zero => intro k ca mem lo hf k0 k1; omega
  | succ f ih =>
    intro k ca mem lo hf k0 k1 hq hc hs l0 l1 l2 l3 hm
    obtain ⟨-, B2, -⟩ := bes_eq (m := mr) (m' := mem) hs.1.2.1 hs.1.2.2.1 (onl_ga hs.1.1 rfl) (onl_ga hs.1.1 rfl) (onl_ga hs.1.1 rfl)
    obtain ⟨b0, b1⟩ := mO_r13 hm
    have fk := gR_233 hm (i := (gi mem 221 13).toInt) b0 (by omega)
    obtain ⟨q, hq⟩ := hq
    have go : ∀ (lo : List (Nat × Value)), n.toInt ≤ k.toInt → ¬ ca.toInt = 0 → ∀ x : Int32, x.toInt = n.toInt / 4 → zlg lo 0 = some (.ref 221) → zlg lo 3 = some (.int 0) → aTm aT0 (si mem 221 66 x) → yR zpg tX12_meet (d + 3) (123, lo, [], (si mem 221 66 x)) (mePn mr) := fun lo h1 h2 x hx a0 a3 hm2 => by
      obtain ⟨c1, c2⟩ := hc h2
      refine mn_put (n := n) (ga mem 222) (fun j a b e => c2 j a (by omega)) ⟨hn.1, c1⟩ 17 0 _ lo (by decide) (by decide) (by decide) ?_ ga_sv (smn_sv hs) a0 a3 hm2
      rw [gi_si_eq mO_e mO_66 hm, hx]
      omega
    exact w_me_34 hm l0 l1 l2 l3 hn ⟨k0, k1⟩
        (fun q1 q2 x3 e4 => by have C := (hc q2).1; omega)
        (fun q1 q2 x3 e4 lo a0 a3 hm2 => go lo q1 q2 _ (by assumption) a0 a3 hm2)
        (fun q1 q2 y8 e9 hm => ⟨⟨_, rfl⟩, hm, smn_sa rfl hs⟩)
        (fun q1 q10 y11 e12 hm => ⟨⟨_, rfl⟩, hm, smn_sa rfl hs⟩)
        (fun q1 q10 y13 e14 q15 x19 e20 lo a0 a1 a2 a3 hm => ih _ _ mem lo (by omega) (by omega) (by omega) ⟨q + 1, by omega⟩ (fun h => absurd rfl h) hs a0 a1 a2 a3 hm)
        (fun q1 q10 y13 e14 q15 x24 e25 y26 e27 q28 x32 e33 lo a0 a1 a2 a3 hm => ih _ _ mem lo (by omega) (by omega) (by omega) ⟨q + 1, by omega⟩ (fun h => absurd rfl h) hs a0 a1 a2 a3 hm)
        (fun q1 q10 y13 e14 q15 x24 e25 y26 e27 q28 y37 e38 q39 x43 e44 lo a0 a1 a2 a3 hm => ih _ _ mem lo (by omega) (by omega) (by omega) ⟨q + 1, by omega⟩ (fun h => absurd rfl h) hs a0 a1 a2 a3 hm)
        (by rw [B2]; exact hz)
        (fun q1 q10 y13 e14 q15 x24 e25 y26 e27 q28 y37 e38 q39 x48 e49 y50 e51 x52 e53 y54 e55 v56 k57 q58 x62 e63 lo a0 a1 a2 a3 hm => ih _ _ mem lo (by omega) (by omega) (by omega) ⟨q + 1, by omega⟩ (fun h => absurd rfl h) hs a0 a1 a2 a3 hm)
        (fun q1 q10 y13 e14 q15 x24 e25 y26 e27 q28 y37 e38 q39 x48 e49 y50 e51 x52 e53 y54 e55 v56 k57 q58 x70 e71 lo a0 a1 a2 a3 hm => ih _ _ mem lo (by omega) (by omega) (by omega) ⟨q + 1, by omega⟩ (fun _ => ⟨(hc q10).1, fun j a b2 => by
          rcases Int.lt_or_le (4 * j) k.toInt with w | w
          · exact (hc q10).2 j a w
          · have e : 4 * j + 1 = k.toInt + 1 := by omega
            rw [e]
            omega⟩) hs a0 a1 a2 a3 hm)
theorem h_meet_n {mem : zM} (hm : aTm aT0 mem) (hz : szOK mem) (hd : 4 ≤ d) : yC zpg d 259 [.ref 221] mem (mePn (si mem 221 1 0)) := by
  obtain ⟨d, rfl⟩ : ∃ q, d = q + 4 := ⟨d - 4, by omega⟩
  have tp := mO_r1 hm
  have hz2 : szOK (si mem 221 1 0) := by
    unfold szOK colsI rowsI bkN
    rw [ga_sv, ga_sv, gi_sv_ne (by decide)]
    exact hz
  refine yC_of (t := tX12_meet) rfl rfl ?_
  exact w_me_0 hm rfl
        (fun q4 lo a0 a1 a2 a3 hm => mn_test (mr := si mem 221 1 0) hz2 (by omega) 1604 0 _ _ lo (by decide) (by decide) (by decide) ⟨0, by decide⟩ (fun h => absurd rfl h) smn_rf a0 a1 a2 a3 hm)
        (fun q4 x11 e12 q13 lo a0 a1 a2 a3 hm => mn_test (mr := si mem 221 1 0) hz2 (by omega) 1604 0 _ _ lo (by decide) (by decide) (by decide) ⟨0, by decide⟩ (fun h => absurd rfl h) smn_rf a0 a1 a2 a3 hm)
        (fun q4 x11 e12 q13 q20 lo a0 a1 a2 a3 hm => mn_test (mr := si mem 221 1 0) hz2 (by omega) 1604 0 _ _ lo (by decide) (by decide) (by decide) ⟨0, by decide⟩ (fun h => absurd rfl h) smn_rf a0 a1 a2 a3 hm)
        (fun q4 x11 e12 q13 q20 lo a0 a1 a2 a3 hm => mn_test (mr := si mem 221 1 0) hz2 (by omega) 1604 0 _ _ lo (by decide) (by decide) (by decide) ⟨0, by decide⟩ (fun _ => ⟨by omega, fun j a b => by have z0 : (0 : Int32).toInt = 0 := rfl; omega⟩) smn_rf a0 a1 a2 a3 hm)
end MEN
