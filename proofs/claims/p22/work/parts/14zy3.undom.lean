/-! an act is taken back: the model -/
section UNA
variable {d : Nat} {mem : zM} {Q : Qd} {hu : Int → Int}
set_option maxRecDepth 100000 in
theorem w_un0 {d : Nat} {mem : zM} {P : Option Value → zM → Prop} {lo : List (Nat × Value)} (hm : aTm aT0 mem) (l_0 : zlg lo 0 = some (.ref 221)) (h1 : ¬ (gi mem 221 55).toInt = 0 → ∀ lo, zlg lo 0 = some (.ref 221) → aTm aT0 mem → yR zpg tX12_undo (d + 3) (21, lo, [], mem) P) (h2 : (gi mem 221 55).toInt = 0 → ∀ lo, zlg lo 0 = some (.ref 221) → aTm aT0 mem → yR zpg tX12_undo (d + 3) (7, lo, [], mem) P) : yR zpg tX12_undo (d + 3) (0, lo, [], mem) P := by
  refine wR_la rfl l_0 ?_
  refine wR_gi rfl mO_e mO_55 hm rfl ?_
  refine wR_if_ne rfl (a := (gi mem 221 55).toInt) rfl (fun q1 => ?_) (fun q1 => ?_)
  ·
    exact h1 q1 lo l_0 hm
  ·
    exact h2 q1 lo l_0 hm

set_option maxRecDepth 100000 in
theorem w_un21 {d : Nat} {mem : zM} {P : Option Value → zM → Prop} {lo : List (Nat × Value)} (hm : aTm aT0 mem) (l_0 : zlg lo 0 = some (.ref 221)) (p1 : 1 ≤ (gi mem 221 55).toInt) (s1 : ∀ (x1 : Int32), x1.toInt = ((gi mem 221 55).toInt - 1) → ∀ (x3 : Int32), x3.toInt = ((gi mem 221 54).toInt + ((gi mem 221 55).toInt - 1)) → ∀ (x5 : Int32), x5.toInt = (((gi mem 221 54).toInt + ((gi mem 221 55).toInt - 1)) % 20) → ∀ (x7 : Int32), x7.toInt = (2 + (((gi mem 221 54).toInt + ((gi mem 221 55).toInt - 1)) % 20)) → 0 ≤ gn (ga (si mem 221 55 x1) 253) (x7 : Int32).toInt ∧ gn (ga (si mem 221 55 x1) 253) (x7 : Int32).toInt ≤ 40) (h1 : ∀ (x1 : Int32), x1.toInt = ((gi mem 221 55).toInt - 1) → ∀ (x3 : Int32), x3.toInt = ((gi mem 221 54).toInt + ((gi mem 221 55).toInt - 1)) → ∀ (x5 : Int32), x5.toInt = (((gi mem 221 54).toInt + ((gi mem 221 55).toInt - 1)) % 20) → ∀ (x7 : Int32), x7.toInt = (2 + (((gi mem 221 54).toInt + ((gi mem 221 55).toInt - 1)) % 20)) → ∀ (m9 : zM), aTm aT0 m9 → (onl [249, 250, 251, 252, 253, 254] (si mem 221 55 x1) m9 ∧ cpD (0 : Int32).toInt (x7 : Int32).toInt (si mem 221 55 x1) m9) → aTm aT0 m9 → P (some (.int 1)) m9) : yR zpg tX12_undo (d + 3) (21, lo, [], mem) P := by
  have r4 := mO_r54 hm
  have r5 := mO_r55 hm
  have z32 : (0 : Int32).toInt = 0 := rfl
  refine wR_la rfl l_0 ?_
  refine yR_m 1 (fun _ _ _ _ => rfl) ?_
  refine wR_gi rfl mO_e mO_55 hm rfl ?_
  refine yR_m 1 (fun _ _ _ _ => rfl) ?_
  refine wN_sub (a := (gi mem 221 55).toInt) (b := 1) rfl rfl rfl (by omega) (fun x1 e2 => ?_)
  refine wR_pi rfl mO_e mO_55 hm rfl ?_
  have hm_1 : aTm aT0 (si mem 221 55 x1) := tm_si mO_e mO_55 hm (by rw [e2]; exact (by omega))
  refine wR_la rfl l_0 ?_
  refine yR_m 1 (fun _ _ _ _ => rfl) ?_
  refine wR_la rfl l_0 ?_
  refine wR_la rfl l_0 ?_
  refine wR_gi rfl mO_e mO_55 hm_1 (gi_si_eq mO_e mO_55 hm) ?_
  refine wR_iv rfl rfl mO_e hm_1 rfl rfl rfl rfl ?_
  show yR zpg tX12_slot (d + 2) (0, [(0, .ref 221), (1, .int x1)], [], (si mem 221 55 x1)) _
  refine yR_m 2 (fun _ _ _ _ => rfl) ?_
  refine wR_gi rfl mO_e mO_54 hm_1 (gi_sv_ne (by first | decide | omega)) ?_
  refine yR_m 1 (fun _ _ _ _ => rfl) ?_
  refine wN_add (a := (gi mem 221 54).toInt) (b := ((gi mem 221 55).toInt - 1)) rfl rfl e2 (by omega) (fun x3 e4 => ?_)
  refine yR_m 1 (fun _ _ _ _ => rfl) ?_
  refine wN_rem (a := ((gi mem 221 54).toInt + ((gi mem 221 55).toInt - 1))) (b := 20) rfl e4 rfl (by decide) (by omega) (fun x5 e6 => ?_)
  refine wN_add (a := 2) (b := (((gi mem 221 54).toInt + ((gi mem 221 55).toInt - 1)) % 20)) rfl rfl e6 (by omega) (fun x7 e8 => ?_)
  refine yR_ri rfl ?_
  show yR zpg tX12_undo (d + 3) (41, lo, [.int x7, .int 0, .ref 221], (si mem 221 55 x1)) _
  refine wR_cv rfl rfl mO_e hm_1 rfl (h_cp hm_1 (by omega) (by omega) (by omega) (s1 x1 e2 x3 e4 x5 e6 x7 e8) (by omega)) ?_
  rintro _ m9 ⟨rfl, hm9, k10⟩
  show yR zpg tX12_undo (d + 3) (44, lo, [], m9) _
  refine yR_m 1 (fun _ _ _ _ => rfl) ?_
  exact yR_rz rfl ⟨by decide, by decide⟩ (h1 x1 e2 x3 e4 x5 e6 x7 e8 m9 hm9 k10 hm9)

theorem h_un {P : Pd} (hm : aTm aT0 mem) (hW : WQ Q) (hP : rgM Q hu P mem) (p1 : 1 ≤ P.1) (hd : 4 ≤ d) : yC zpg d 214 [.ref 221] mem (fun r m => r = some (.int 1) ∧ aTm aT0 m ∧ (onl [221, 249, 250, 251, 252, 253, 254] mem m ∧ (∀ i, ¬ i = 55 → zfl m 221 i = zfl mem 221 i) ∧ tM 0 Q hu (P.2 (P.1 - 1)).1 m ∧ kM 0 (P.2 (P.1 - 1)).2 m ∧ rgM Q hu (P.1 - 1, P.2) m)) := by
  obtain ⟨d, rfl⟩ : ∃ q, d = q + 4 := ⟨d - 4, by omega⟩
  obtain ⟨p0, ⟨p2, p3, p5⟩, p4⟩ := hP
  have pl := p4 (P.1 - 1) (by omega) (by omega)
  refine yC_of (t := tX12_undo) rfl rfl ?_
  exact w_un0 hm rfl 
        (fun q1 lo a0 hm2 => w_un21 hm a0 (by omega)
        (fun x1 e2 x3 e4 x5 e6 x7 e8 => by
        have a5 : (gi (si mem 221 55 x1) 221 55).toInt = P.1 - 1 := by
          rw [gi_si_eq mO_e mO_55 hm]
          omega
        have a4 : gi (si mem 221 55 x1) 221 54 = gi mem 221 54 := gi_sv_ne (by decide)
        have hg0 : ∀ q, ga (si mem 221 55 x1) q = ga mem q := fun q => ga_sv
        have es : x7.toInt = 2 + ((gi mem 221 54).toInt + (P.1 - 1)) % 20 := by
          have z := e8
          omega
        have SA := tM_g hg0 pl.1
        have KA := kM_q (hg0 253) (hg0 254) pl.2
        rw [← es] at SA KA
        have k40 : 0 ≤ gn (ga (si mem 221 55 x1) 253) x7.toInt ∧ gn (ga (si mem 221 55 x1) 253) x7.toInt ≤ 40 := by
          rw [KA.2.1]
          exact KA.1
        first | (have z := e8; rw [z] at k40; exact k40) | exact k40 | omega)
        (fun x1 e2 x3 e4 x5 e6 x7 e8 m9 hm9 k10 hm2 => by
        have a5 : (gi (si mem 221 55 x1) 221 55).toInt = P.1 - 1 := by
          rw [gi_si_eq mO_e mO_55 hm]
          omega
        have a4 : gi (si mem 221 55 x1) 221 54 = gi mem 221 54 := gi_sv_ne (by decide)
        have hg0 : ∀ q, ga (si mem 221 55 x1) q = ga mem q := fun q => ga_sv
        have es : x7.toInt = 2 + ((gi mem 221 54).toInt + (P.1 - 1)) % 20 := by
          have z := e8
          omega
        have SA := tM_g hg0 pl.1
        have KA := kM_q (hg0 253) (hg0 254) pl.2
        rw [← es] at SA KA
        have k40 : 0 ≤ gn (ga (si mem 221 55 x1) 253) x7.toInt ∧ gn (ga (si mem 221 55 x1) 253) x7.toInt ≤ 40 := by
          rw [KA.2.1]
          exact KA.1
        obtain ⟨K1, K2⟩ := k10
        have e5 : ga m9 255 = ga (si mem 221 55 x1) 255 := onl_ga K1 rfl
        have O := oLl_cp k40.2 K2
        have m4 : gi m9 221 54 = gi mem 221 54 := (onl_gi K1 rfl).trans a4
        have m5 : (gi m9 221 55).toInt = P.1 - 1 := (congrArg Int32.toInt (onl_gi K1 rfl)).trans a5
        refine ⟨rfl, hm2, onl_tr (onl_sv rfl onl_rf) (onl_up K1 rfl), fun i i5 => (onl_zf K1 rfl).trans (zfl_sv_ne (fun w => i5 w.2.symm)), tM_cp hW (by decide) K2 e5 SA, kM_cp (by decide) K2 KA, ⟨by show 0 ≤ P.1 - 1; omega, by show P.1 - 1 ≤ 20; omega⟩, ⟨m5, by rw [m4]; exact p3, by rw [m4]; exact p5⟩, fun k k0 k1 => ?_⟩
        have k2 : k < P.1 - 1 := k1
        have q := p4 k k0 (by omega)
        rw [m4]
        exact ⟨tM_l hW (by omega) (by show ¬ _ = (0 : Int); omega) O e5 (tM_g hg0 q.1), kM_l (by omega) (by omega) (by show ¬ _ = (0 : Int); omega) O (kM_q (hg0 253) (hg0 254) q.2)⟩))
        (fun q1 lo a0 hm2 => by exfalso; omega)
end UNA
