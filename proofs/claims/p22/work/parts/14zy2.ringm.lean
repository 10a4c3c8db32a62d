/-! the ring of what was: the model -/
section RGA
variable {d : Nat} {mem : zM} {Q : Qd} {S : Sd} {hu : Int → Int}
/-- how all was ahead of each act: how many, and each -/
abbrev Pd : Type := Int × (Int → Sd × Kd)
def pdA (P : Pd) (x : Sd × Kd) : Pd := (P.1 + 1, fun i => if i = P.1 then x else P.2 i)
def pdD (P : Pd) : Pd := (P.1 - 1, fun i => P.2 (i + 1))
def pdN (P : Pd) (x : Sd × Kd) : Pd := pdA (if P.1 = 20 then pdD P else P) x
/-- the model's ring tells them -/
def rgM (Q : Qd) (hu : Int → Int) (P : Pd) (m : zM) : Prop := (0 ≤ P.1 ∧ P.1 ≤ 20) ∧ ((gi m 221 55).toInt = P.1 ∧ 0 ≤ (gi m 221 54).toInt ∧ (gi m 221 54).toInt < 20) ∧ ∀ k, 0 ≤ k → k < P.1 → tM (2 + ((gi m 221 54).toInt + k) % 20) Q hu (P.2 k).1 m ∧ kM (2 + ((gi m 221 54).toInt + k) % 20) (P.2 k).2 m
theorem tM_g {v : Int} {a b : zM} (hg : ∀ q, ga b q = ga a q) (hh : tM v Q hu S a) : tM v Q hu S b := by
  unfold tM at hh ⊢
  rw [hg, hg, hg, hg, hg]
  exact hh
theorem rg_app {P : Pd} {K : Kd} {a m m' : zM} {uf v : Int} (hW : WQ Q) (hP : rgM Q hu P a) (p19 : P.1 ≤ 19) (hS : tM 0 Q hu S a) (hK : kM 0 K a) (eu : (gi a 221 54).toInt = uf) (ev : v = 2 + (uf + P.1) % 20) (hc : cpD v 0 a m) (e5 : ga m 255 = ga a 255) (hg : ∀ q, ga m' q = ga m q) (u54 : (gi m' 221 54).toInt = uf) (u55 : (gi m' 221 55).toInt = P.1 + 1) : rgM Q hu (pdA P (S, K)) m' := by
  obtain ⟨p0, ⟨p1, p2, p3⟩, p4⟩ := hP
  have k40 : gn (ga a 253) 0 ≤ 40 := by
    rw [hK.2.1]
    exact hK.1.2
  refine ⟨⟨by show 0 ≤ P.1 + 1; omega, by show P.1 + 1 ≤ 20; omega⟩, ⟨u55, by omega, by omega⟩, fun k k0 k1 => ?_⟩
  have k2 : k < P.1 + 1 := k1
  show tM (2 + ((gi m' 221 54).toInt + k) % 20) Q hu (if k = P.1 then ((S, K) : Sd × Kd) else P.2 k).1 m' ∧ kM (2 + ((gi m' 221 54).toInt + k) % 20) (if k = P.1 then ((S, K) : Sd × Kd) else P.2 k).2 m'
  rw [u54]
  by_cases z : k = P.1
  · rw [if_pos z, z, ← ev]
    exact ⟨tM_g hg (tM_cp hW (by omega) hc e5 hS), kM_q (hg 253) (hg 254) (kM_cp (by omega) hc hK)⟩
  · rw [if_neg z]
    have q := p4 k k0 (by omega)
    rw [eu] at q
    have ne : ¬ 2 + (uf + k) % 20 = v := by omega
    exact ⟨tM_g hg (tM_l hW (by omega) ne (oLl_cp k40 hc) e5 q.1), kM_q (hg 253) (hg 254) (kM_l (by omega) (by omega) ne (oLl_cp k40 hc) q.2)⟩
theorem rg_drp {P : Pd} {a m : zM} {uf : Int} (hP : rgM Q hu P a) (p20 : P.1 = 20) (eu : (gi a 221 54).toInt = uf) (hg : ∀ q, ga m q = ga a q) (u54 : (gi m 221 54).toInt = (uf + 1) % 20) (u55 : (gi m 221 55).toInt = P.1 - 1) : rgM Q hu (pdD P) m := by
  obtain ⟨p0, ⟨p1, p2, p3⟩, p4⟩ := hP
  refine ⟨⟨by show 0 ≤ P.1 - 1; omega, by show P.1 - 1 ≤ 20; omega⟩, ⟨u55, by omega, by omega⟩, fun k k0 k1 => ?_⟩
  have k2 : k < P.1 - 1 := k1
  have q := p4 (k + 1) (by omega) (by omega)
  rw [eu] at q
  show tM (2 + ((gi m 221 54).toInt + k) % 20) Q hu (P.2 (k + 1)).1 m ∧ kM (2 + ((gi m 221 54).toInt + k) % 20) (P.2 (k + 1)).2 m
  rw [u54, show 2 + ((uf + 1) % 20 + k) % 20 = 2 + (uf + (k + 1)) % 20 by omega]
  exact ⟨tM_g hg q.1, kM_q (hg 253) (hg 254) q.2⟩
set_option maxRecDepth 100000 in
theorem w_kp {d : Nat} {mem : zM} {P : Option Value → zM → Prop} (hm : aTm aT0 mem) (s1 : ¬ (gi mem 221 55).toInt = 20 → ∀ (x2 : Int32), x2.toInt = ((gi mem 221 54).toInt + (gi mem 221 55).toInt) → ∀ (x4 : Int32), x4.toInt = (((gi mem 221 54).toInt + (gi mem 221 55).toInt) % 20) → ∀ (x6 : Int32), x6.toInt = (2 + (((gi mem 221 54).toInt + (gi mem 221 55).toInt) % 20)) → 0 ≤ gn (ga mem 253) 0 ∧ gn (ga mem 253) 0 ≤ 40) (s2 : ¬ (gi mem 221 55).toInt = 20 → ∀ (x2 : Int32), x2.toInt = ((gi mem 221 54).toInt + (gi mem 221 55).toInt) → ∀ (x4 : Int32), x4.toInt = (((gi mem 221 54).toInt + (gi mem 221 55).toInt) % 20) → ∀ (x6 : Int32), x6.toInt = (2 + (((gi mem 221 54).toInt + (gi mem 221 55).toInt) % 20)) → ∀ (m8 : zM), aTm aT0 m8 → (onl [249, 250, 251, 252, 253, 254] mem m8 ∧ cpD (x6 : Int32).toInt (0 : Int32).toInt mem m8) → (-2147483648 : Int) ≤ ((gi m8 221 55).toInt + 1) ∧ ((gi m8 221 55).toInt + 1) ≤ 2147483647) (s3 : ¬ (gi mem 221 55).toInt = 20 → ∀ (x2 : Int32), x2.toInt = ((gi mem 221 54).toInt + (gi mem 221 55).toInt) → ∀ (x4 : Int32), x4.toInt = (((gi mem 221 54).toInt + (gi mem 221 55).toInt) % 20) → ∀ (x6 : Int32), x6.toInt = (2 + (((gi mem 221 54).toInt + (gi mem 221 55).toInt) % 20)) → ∀ (m8 : zM), aTm aT0 m8 → (onl [249, 250, 251, 252, 253, 254] mem m8 ∧ cpD (x6 : Int32).toInt (0 : Int32).toInt mem m8) → ∀ (x10 : Int32), x10.toInt = ((gi m8 221 55).toInt + 1) → (0 : Int) ≤ ((gi m8 221 55).toInt + 1) ∧ ((gi m8 221 55).toInt + 1) ≤ 20) (h1 : ¬ (gi mem 221 55).toInt = 20 → ∀ (x2 : Int32), x2.toInt = ((gi mem 221 54).toInt + (gi mem 221 55).toInt) → ∀ (x4 : Int32), x4.toInt = (((gi mem 221 54).toInt + (gi mem 221 55).toInt) % 20) → ∀ (x6 : Int32), x6.toInt = (2 + (((gi mem 221 54).toInt + (gi mem 221 55).toInt) % 20)) → ∀ (m8 : zM), aTm aT0 m8 → (onl [249, 250, 251, 252, 253, 254] mem m8 ∧ cpD (x6 : Int32).toInt (0 : Int32).toInt mem m8) → ∀ (x10 : Int32), x10.toInt = ((gi m8 221 55).toInt + 1) → aTm aT0 (si m8 221 55 x10) → P none (si m8 221 55 x10)) (s4 : (gi mem 221 55).toInt = 20 → ∀ (x12 : Int32), x12.toInt = ((gi mem 221 54).toInt + 1) → ∀ (x14 : Int32), x14.toInt = (((gi mem 221 54).toInt + 1) % 20) → ∀ (x16 : Int32), x16.toInt = ((gi mem 221 55).toInt - 1) → ∀ (x18 : Int32), x18.toInt = ((((gi mem 221 54).toInt + 1) % 20) + ((gi mem 221 55).toInt - 1)) → ∀ (x20 : Int32), x20.toInt = (((((gi mem 221 54).toInt + 1) % 20) + ((gi mem 221 55).toInt - 1)) % 20) → ∀ (x22 : Int32), x22.toInt = (2 + (((((gi mem 221 54).toInt + 1) % 20) + ((gi mem 221 55).toInt - 1)) % 20)) → 0 ≤ gn (ga (si (si mem 221 54 x14) 221 55 x16) 253) 0 ∧ gn (ga (si (si mem 221 54 x14) 221 55 x16) 253) 0 ≤ 40) (s5 : (gi mem 221 55).toInt = 20 → ∀ (x12 : Int32), x12.toInt = ((gi mem 221 54).toInt + 1) → ∀ (x14 : Int32), x14.toInt = (((gi mem 221 54).toInt + 1) % 20) → ∀ (x16 : Int32), x16.toInt = ((gi mem 221 55).toInt - 1) → ∀ (x18 : Int32), x18.toInt = ((((gi mem 221 54).toInt + 1) % 20) + ((gi mem 221 55).toInt - 1)) → ∀ (x20 : Int32), x20.toInt = (((((gi mem 221 54).toInt + 1) % 20) + ((gi mem 221 55).toInt - 1)) % 20) → ∀ (x22 : Int32), x22.toInt = (2 + (((((gi mem 221 54).toInt + 1) % 20) + ((gi mem 221 55).toInt - 1)) % 20)) → ∀ (m24 : zM), aTm aT0 m24 → (onl [249, 250, 251, 252, 253, 254] (si (si mem 221 54 x14) 221 55 x16) m24 ∧ cpD (x22 : Int32).toInt (0 : Int32).toInt (si (si mem 221 54 x14) 221 55 x16) m24) → (-2147483648 : Int) ≤ ((gi m24 221 55).toInt + 1) ∧ ((gi m24 221 55).toInt + 1) ≤ 2147483647) (s6 : (gi mem 221 55).toInt = 20 → ∀ (x12 : Int32), x12.toInt = ((gi mem 221 54).toInt + 1) → ∀ (x14 : Int32), x14.toInt = (((gi mem 221 54).toInt + 1) % 20) → ∀ (x16 : Int32), x16.toInt = ((gi mem 221 55).toInt - 1) → ∀ (x18 : Int32), x18.toInt = ((((gi mem 221 54).toInt + 1) % 20) + ((gi mem 221 55).toInt - 1)) → ∀ (x20 : Int32), x20.toInt = (((((gi mem 221 54).toInt + 1) % 20) + ((gi mem 221 55).toInt - 1)) % 20) → ∀ (x22 : Int32), x22.toInt = (2 + (((((gi mem 221 54).toInt + 1) % 20) + ((gi mem 221 55).toInt - 1)) % 20)) → ∀ (m24 : zM), aTm aT0 m24 → (onl [249, 250, 251, 252, 253, 254] (si (si mem 221 54 x14) 221 55 x16) m24 ∧ cpD (x22 : Int32).toInt (0 : Int32).toInt (si (si mem 221 54 x14) 221 55 x16) m24) → ∀ (x26 : Int32), x26.toInt = ((gi m24 221 55).toInt + 1) → (0 : Int) ≤ ((gi m24 221 55).toInt + 1) ∧ ((gi m24 221 55).toInt + 1) ≤ 20) (h2 : (gi mem 221 55).toInt = 20 → ∀ (x12 : Int32), x12.toInt = ((gi mem 221 54).toInt + 1) → ∀ (x14 : Int32), x14.toInt = (((gi mem 221 54).toInt + 1) % 20) → ∀ (x16 : Int32), x16.toInt = ((gi mem 221 55).toInt - 1) → ∀ (x18 : Int32), x18.toInt = ((((gi mem 221 54).toInt + 1) % 20) + ((gi mem 221 55).toInt - 1)) → ∀ (x20 : Int32), x20.toInt = (((((gi mem 221 54).toInt + 1) % 20) + ((gi mem 221 55).toInt - 1)) % 20) → ∀ (x22 : Int32), x22.toInt = (2 + (((((gi mem 221 54).toInt + 1) % 20) + ((gi mem 221 55).toInt - 1)) % 20)) → ∀ (m24 : zM), aTm aT0 m24 → (onl [249, 250, 251, 252, 253, 254] (si (si mem 221 54 x14) 221 55 x16) m24 ∧ cpD (x22 : Int32).toInt (0 : Int32).toInt (si (si mem 221 54 x14) 221 55 x16) m24) → ∀ (x26 : Int32), x26.toInt = ((gi m24 221 55).toInt + 1) → aTm aT0 (si m24 221 55 x26) → P none (si m24 221 55 x26)) : yR zpg tX12_keeps (d + 3) (0, [(0, .ref 221)], [], mem) P := by
  have r4 := mO_r54 hm
  have r5 := mO_r55 hm
  have z32 : (0 : Int32).toInt = 0 := rfl
  refine yR_m 1 (fun _ _ _ _ => rfl) ?_
  refine wR_gi rfl mO_e mO_55 hm rfl ?_
  refine yR_m 1 (fun _ _ _ _ => rfl) ?_
  refine wR_ic_ne rfl (a := (gi mem 221 55).toInt) (c := 20) rfl rfl (fun q1 => ?_) (fun q1 => ?_)
  ·
    refine yR_m 3 (fun _ _ _ _ => rfl) ?_
    refine wR_gi rfl mO_e mO_55 hm rfl ?_
    refine wR_iv rfl rfl mO_e hm rfl rfl rfl rfl ?_
    show yR zpg tX12_slot (d + 2) (0, [(0, .ref 221), (1, .int (gi mem 221 55))], [], mem) _
    refine yR_m 2 (fun _ _ _ _ => rfl) ?_
    refine wR_gi rfl mO_e mO_54 hm rfl ?_
    refine yR_m 1 (fun _ _ _ _ => rfl) ?_
    refine wN_add (a := (gi mem 221 54).toInt) (b := (gi mem 221 55).toInt) rfl rfl rfl (by omega) (fun x2 e3 => ?_)
    refine yR_m 1 (fun _ _ _ _ => rfl) ?_
    refine wN_rem (a := ((gi mem 221 54).toInt + (gi mem 221 55).toInt)) (b := 20) rfl e3 rfl (by decide) (by omega) (fun x4 e5 => ?_)
    refine wN_add (a := 2) (b := (((gi mem 221 54).toInt + (gi mem 221 55).toInt) % 20)) rfl rfl e5 (by omega) (fun x6 e7 => ?_)
    refine yR_ri rfl ?_
    show yR zpg tX12_keeps (d + 3) (41, [(0, .ref 221)], [.int x6, .ref 221], mem) _
    refine yR_m 1 (fun _ _ _ _ => rfl) ?_
    refine wR_cv rfl rfl mO_e hm rfl (h_cp hm (by omega) (by omega) (by omega) (s1 q1 x2 e3 x4 e5 x6 e7) (by omega)) ?_
    rintro _ m8 ⟨rfl, hm8, k9⟩
    show yR zpg tX12_keeps (d + 3) (45, [(0, .ref 221)], [], m8) _
    have r5_m8 := mO_r55 hm8
    refine yR_m 2 (fun _ _ _ _ => rfl) ?_
    refine wR_gi rfl mO_e mO_55 hm8 rfl ?_
    refine yR_m 1 (fun _ _ _ _ => rfl) ?_
    refine wN_add (a := (gi m8 221 55).toInt) (b := 1) rfl rfl rfl (s2 q1 x2 e3 x4 e5 x6 e7 m8 hm8 k9) (fun x10 e11 => ?_)
    refine wR_pi rfl mO_e mO_55 hm8 rfl ?_
    have hm_1 : aTm aT0 (si m8 221 55 x10) := tm_si mO_e mO_55 hm8 (by rw [e11]; exact (s3 q1 x2 e3 x4 e5 x6 e7 m8 hm8 k9 x10 e11))
    exact yR_rv rfl (h1 q1 x2 e3 x4 e5 x6 e7 m8 hm8 k9 x10 e11 hm_1)
  ·
    refine yR_m 2 (fun _ _ _ _ => rfl) ?_
    refine wR_gi rfl mO_e mO_54 hm rfl ?_
    refine yR_m 1 (fun _ _ _ _ => rfl) ?_
    refine wN_add (a := (gi mem 221 54).toInt) (b := 1) rfl rfl rfl (by omega) (fun x12 e13 => ?_)
    refine yR_m 1 (fun _ _ _ _ => rfl) ?_
    refine wN_rem (a := ((gi mem 221 54).toInt + 1)) (b := 20) rfl e13 rfl (by decide) (by omega) (fun x14 e15 => ?_)
    refine wR_pi rfl mO_e mO_54 hm rfl ?_
    have hm_2 : aTm aT0 (si mem 221 54 x14) := tm_si mO_e mO_54 hm (by rw [e15]; exact (by omega))
    refine yR_m 2 (fun _ _ _ _ => rfl) ?_
    refine wR_gi rfl mO_e mO_55 hm_2 (gi_sv_ne (by first | decide | omega)) ?_
    refine yR_m 1 (fun _ _ _ _ => rfl) ?_
    refine wN_sub (a := (gi mem 221 55).toInt) (b := 1) rfl rfl rfl (by omega) (fun x16 e17 => ?_)
    refine wR_pi rfl mO_e mO_55 hm_2 rfl ?_
    have hm_3 : aTm aT0 (si (si mem 221 54 x14) 221 55 x16) := tm_si mO_e mO_55 hm_2 (by rw [e17]; exact (by omega))
    refine yR_m 3 (fun _ _ _ _ => rfl) ?_
    refine wR_gi rfl mO_e mO_55 hm_3 (gi_si_eq mO_e mO_55 hm_2) ?_
    refine wR_iv rfl rfl mO_e hm_3 rfl rfl rfl rfl ?_
    show yR zpg tX12_slot (d + 2) (0, [(0, .ref 221), (1, .int x16)], [], (si (si mem 221 54 x14) 221 55 x16)) _
    refine yR_m 2 (fun _ _ _ _ => rfl) ?_
    refine wR_gi rfl mO_e mO_54 hm_3 ((gi_sv_ne (by first | decide | omega)).trans (gi_si_eq mO_e mO_54 hm)) ?_
    refine yR_m 1 (fun _ _ _ _ => rfl) ?_
    refine wN_add (a := (((gi mem 221 54).toInt + 1) % 20)) (b := ((gi mem 221 55).toInt - 1)) rfl e15 e17 (by omega) (fun x18 e19 => ?_)
    refine yR_m 1 (fun _ _ _ _ => rfl) ?_
    refine wN_rem (a := ((((gi mem 221 54).toInt + 1) % 20) + ((gi mem 221 55).toInt - 1))) (b := 20) rfl e19 rfl (by decide) (by omega) (fun x20 e21 => ?_)
    refine wN_add (a := 2) (b := (((((gi mem 221 54).toInt + 1) % 20) + ((gi mem 221 55).toInt - 1)) % 20)) rfl rfl e21 (by omega) (fun x22 e23 => ?_)
    refine yR_ri rfl ?_
    show yR zpg tX12_keeps (d + 3) (41, [(0, .ref 221)], [.int x22, .ref 221], (si (si mem 221 54 x14) 221 55 x16)) _
    refine yR_m 1 (fun _ _ _ _ => rfl) ?_
    refine wR_cv rfl rfl mO_e hm_3 rfl (h_cp hm_3 (by omega) (by omega) (by omega) (s4 q1 x12 e13 x14 e15 x16 e17 x18 e19 x20 e21 x22 e23) (by omega)) ?_
    rintro _ m24 ⟨rfl, hm24, k25⟩
    show yR zpg tX12_keeps (d + 3) (45, [(0, .ref 221)], [], m24) _
    have r5_m24 := mO_r55 hm24
    refine yR_m 2 (fun _ _ _ _ => rfl) ?_
    refine wR_gi rfl mO_e mO_55 hm24 rfl ?_
    refine yR_m 1 (fun _ _ _ _ => rfl) ?_
    refine wN_add (a := (gi m24 221 55).toInt) (b := 1) rfl rfl rfl (s5 q1 x12 e13 x14 e15 x16 e17 x18 e19 x20 e21 x22 e23 m24 hm24 k25) (fun x26 e27 => ?_)
    refine wR_pi rfl mO_e mO_55 hm24 rfl ?_
    have hm_4 : aTm aT0 (si m24 221 55 x26) := tm_si mO_e mO_55 hm24 (by rw [e27]; exact (s6 q1 x12 e13 x14 e15 x16 e17 x18 e19 x20 e21 x22 e23 m24 hm24 k25 x26 e27))
    exact yR_rv rfl (h2 q1 x12 e13 x14 e15 x16 e17 x18 e19 x20 e21 x22 e23 m24 hm24 k25 x26 e27 hm_4)

theorem h_kp {K : Kd} {P : Pd} (hm : aTm aT0 mem) (hW : WQ Q) (hS : tM 0 Q hu S mem) (hK : kM 0 K mem) (hP : rgM Q hu P mem) (hd : 4 ≤ d) : yC zpg d 213 [.ref 221] mem (fun r m => r = none ∧ aTm aT0 m ∧ (onl [221, 249, 250, 251, 252, 253, 254] mem m ∧ (∀ i, ¬ i = 54 → ¬ i = 55 → zfl m 221 i = zfl mem 221 i) ∧ tM 0 Q hu S m ∧ kM 0 K m ∧ rgM Q hu (pdN P (S, K)) m)) := by
  obtain ⟨d, rfl⟩ : ∃ q, d = q + 4 := ⟨d - 4, by omega⟩
  have p0 := hP.1
  have p5 := hP.2.1
  have k40 : 0 ≤ gn (ga mem 253) 0 ∧ gn (ga mem 253) 0 ≤ 40 := by
    rw [hK.2.1]
    exact hK.1
  refine yC_of (t := tX12_keeps) rfl rfl ?_
  exact w_kp hm 
        (fun q1 x2 e3 x4 e5 x6 e7 => by
      (try rw [ga_sv, ga_sv])
      exact k40)
        (fun q1 x2 e3 x4 e5 x6 e7 m8 hm8 k9 => by
      have g : (gi m8 221 55).toInt = (gi mem 221 55).toInt := congrArg Int32.toInt (onl_gi k9.1 rfl)
      omega)
        (fun q1 x2 e3 x4 e5 x6 e7 m8 hm8 k9 x10 e11 => by
      have g : (gi m8 221 55).toInt = (gi mem 221 55).toInt := congrArg Int32.toInt (onl_gi k9.1 rfl)
      omega)
        (fun q1 x2 e3 x4 e5 x6 e7 m8 hm8 k9 x10 e11 hm2 => by
      have a5 : (gi mem 221 55).toInt = P.1 := p5.1
      have a4 : (gi mem 221 54).toInt = (gi mem 221 54).toInt := rfl
      have hg0 : ∀ q, ga mem q = ga mem q := fun _ => rfl
      have P1 : rgM Q hu P mem := hP
      have z0 : ∀ i, ¬ i = 54 → ¬ i = 55 → zfl mem 221 i = zfl mem 221 i := fun _ _ _ => rfl
      have o0 : onl [221, 249, 250, 251, 252, 253, 254] mem mem := onl_rf
      have kz : pdN P (S, K) = pdA P (S, K) := by
        unfold pdN
        rw [if_neg (by omega)]
      obtain ⟨K1, K2⟩ := k9
      have m4 : (gi m8 221 54).toInt = (gi mem 221 54).toInt := congrArg Int32.toInt (onl_gi K1 rfl)
      have m5 : (gi m8 221 55).toInt = (gi mem 221 55).toInt := congrArg Int32.toInt (onl_gi K1 rfl)
      have hgm : ∀ q, ga (si m8 221 55 x10) q = ga m8 q := fun q => ga_sv
      have f4 : (gi (si m8 221 55 x10) 221 54).toInt = ((gi mem 221 54).toInt) := by
        rw [gi_sv_ne (by decide), m4, a4]
      have f5 : (gi (si m8 221 55 x10) 221 55).toInt = P.1 + 1 := by
        rw [gi_si_eq mO_e mO_55 hm8]
        omega
      have SA := tM_g hg0 hS
      have KA := kM_q (hg0 253) (hg0 254) hK
      have kA : gn (ga mem 253) 0 ≤ 40 := by
        rw [hg0]
        exact k40.2
      have e5 : ga m8 255 = ga mem 255 := onl_ga K1 rfl
      have R := rg_app (v := _) hW P1 (by omega) SA KA a4 (by omega) K2 e5 hgm f4 f5
      have O := oLl_cp kA K2
      rw [kz]
      refine ⟨rfl, hm2, onl_sv rfl (onl_tr o0 (onl_up K1 rfl)), fun i i4 i5 => (zfl_sv_ne (fun w => i5 w.2.symm)).trans ((onl_zf K1 rfl).trans (z0 i i4 i5)), tM_g hgm (tM_l hW (by decide) (by omega) O e5 SA), kM_q (hgm 253) (hgm 254) (kM_l (by decide) (by decide) (by omega) O KA), R⟩)
        (fun q1 x12 e13 x14 e15 x16 e17 x18 e19 x20 e21 x22 e23 => by
      (try rw [ga_sv, ga_sv])
      exact k40)
        (fun q1 x12 e13 x14 e15 x16 e17 x18 e19 x20 e21 x22 e23 m24 hm24 k25 => by
      have g : (gi m24 221 55).toInt = (gi (si (si mem 221 54 x14) 221 55 x16) 221 55).toInt := congrArg Int32.toInt (onl_gi k25.1 rfl)
      rw [gi_si_eq mO_e mO_55 (tm_si mO_e mO_54 hm (by omega))] at g
      omega)
        (fun q1 x12 e13 x14 e15 x16 e17 x18 e19 x20 e21 x22 e23 m24 hm24 k25 x26 e27 => by
      have g : (gi m24 221 55).toInt = (gi (si (si mem 221 54 x14) 221 55 x16) 221 55).toInt := congrArg Int32.toInt (onl_gi k25.1 rfl)
      rw [gi_si_eq mO_e mO_55 (tm_si mO_e mO_54 hm (by omega))] at g
      omega)
        (fun q1 x12 e13 x14 e15 x16 e17 x18 e19 x20 e21 x22 e23 m24 hm24 k25 x26 e27 hm2 => by
      have hA : aTm aT0 (si mem 221 54 x14) := tm_si mO_e mO_54 hm (by omega)
      have a5 : (gi (si (si mem 221 54 x14) 221 55 x16) 221 55).toInt = P.1 - 1 := by
        rw [gi_si_eq mO_e mO_55 hA]
        omega
      have a4 : (gi (si (si mem 221 54 x14) 221 55 x16) 221 54).toInt = ((gi mem 221 54).toInt + 1) % 20 := by
        rw [gi_sv_ne (by decide), gi_si_eq mO_e mO_54 hm]
        exact e15
      have hg0 : ∀ q, ga (si (si mem 221 54 x14) 221 55 x16) q = ga mem q := fun q => ga_sv.trans ga_sv
      have P1 : rgM Q hu (pdD P) (si (si mem 221 54 x14) 221 55 x16) := rg_drp hP (by omega) rfl hg0 a4 a5
      have z0 : ∀ i, ¬ i = 54 → ¬ i = 55 → zfl (si (si mem 221 54 x14) 221 55 x16) 221 i = zfl mem 221 i := fun i i4 i5 => (zfl_sv_ne (fun w => i5 w.2.symm)).trans (zfl_sv_ne (fun w => i4 w.2.symm))
      have o0 : onl [221, 249, 250, 251, 252, 253, 254] mem (si (si mem 221 54 x14) 221 55 x16) := onl_sv rfl (onl_sv rfl onl_rf)
      have kz : pdN P (S, K) = pdA (pdD P) (S, K) := by
        unfold pdN
        rw [if_pos (by omega)]
      have q19 : (pdD P).1 = P.1 - 1 := rfl
      obtain ⟨K1, K2⟩ := k25
      have m4 : (gi m24 221 54).toInt = (gi (si (si mem 221 54 x14) 221 55 x16) 221 54).toInt := congrArg Int32.toInt (onl_gi K1 rfl)
      have m5 : (gi m24 221 55).toInt = (gi (si (si mem 221 54 x14) 221 55 x16) 221 55).toInt := congrArg Int32.toInt (onl_gi K1 rfl)
      have hgm : ∀ q, ga (si m24 221 55 x26) q = ga m24 q := fun q => ga_sv
      have f4 : (gi (si m24 221 55 x26) 221 54).toInt = (((gi mem 221 54).toInt + 1) % 20) := by
        rw [gi_sv_ne (by decide), m4, a4]
      have f5 : (gi (si m24 221 55 x26) 221 55).toInt = (pdD P).1 + 1 := by
        rw [gi_si_eq mO_e mO_55 hm24]
        omega
      have SA := tM_g hg0 hS
      have KA := kM_q (hg0 253) (hg0 254) hK
      have kA : gn (ga (si (si mem 221 54 x14) 221 55 x16) 253) 0 ≤ 40 := by
        rw [hg0]
        exact k40.2
      have e5 : ga m24 255 = ga (si (si mem 221 54 x14) 221 55 x16) 255 := onl_ga K1 rfl
      have R := rg_app (v := _) hW P1 (by omega) SA KA a4 (by omega) K2 e5 hgm f4 f5
      have O := oLl_cp kA K2
      rw [kz]
      refine ⟨rfl, hm2, onl_sv rfl (onl_tr o0 (onl_up K1 rfl)), fun i i4 i5 => (zfl_sv_ne (fun w => i5 w.2.symm)).trans ((onl_zf K1 rfl).trans (z0 i i4 i5)), tM_g hgm (tM_l hW (by decide) (by omega) O e5 SA), kM_q (hgm 253) (hgm 254) (kM_l (by decide) (by decide) (by omega) O KA), R⟩)
end RGA
