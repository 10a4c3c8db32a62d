/-! steps over signs -/
abbrev fk (m : zM) : Int := (gi m 221 8).toInt
def tOK (m : zM) : Prop := tkO m ∧ 0 ≤ fk m
/-- a step over signs: only what is read of the text changes; a fault stays; without one a sign was passed -/
def tQ (mem m : zM) : Prop := fr [] [3, 4, 5, 6, 7, 8, 9, 12] mem m ∧ tOK m ∧ (gi mem 221 4).toInt ≤ (gi m 221 4).toInt ∧ (fk m = 0 → fk mem = 0 ∧ (gi mem 221 4).toInt < (gi m 221 4).toInt)
theorem h_ahead2 {d : Nat} {mem : zM} {s5 s2 : Int32} (hd : 2 ≤ d) (hm : aTm aT0 mem) (e5 : gi mem 221 5 = s5) (e2 : gi mem 221 2 = s2) (hs : s5.toInt ≤ s2.toInt) : yC zpg d 173 [.ref 221] mem (ahP mem) := h_ahead hd hm (by rw [e5, e2]; exact hs)
theorem tQ_f {mem M : zM} (hf : fr [] [8, 9] mem M) (hT : tOK mem) (h8 : 1 ≤ fk M) : tQ mem M := by
  have e : ∀ i, [8, 9].contains i = false → gi M 221 i = gi mem 221 i := fun i hi => fr_gi hf hi
  obtain ⟨⟨t1, t2⟩, t3⟩ := hT
  refine ⟨fr_up hf rfl rfl, ⟨⟨?_, ?_⟩, by omega⟩, by rw [e 4 rfl]; omega, fun q => by omega⟩
  · rw [e 4 rfl, e 5 rfl, e 2 rfl]; exact t1
  · rw [e 3 rfl, e 4 rfl, e 5 rfl]; exact t2
theorem tQ_a {mem M m : zM} (hf : fr [] [8, 9] mem M) (hT : tOK mem) (h8 : 0 ≤ fk M) (hk : fk M = 0 → fk mem = 0) (hs : fk M = 0 → ¬ (gi mem 221 3).toInt = 0) (hq : ahQ M m) : tQ mem m := by
  have e : ∀ i, [8, 9].contains i = false → gi M 221 i = gi mem 221 i := fun i hi => fr_gi hf hi
  obtain ⟨⟨t1, t2⟩, t3⟩ := hT
  obtain ⟨q1, q2, q3⟩ := hq
  have e8 : gi m 221 8 = gi M 221 8 := fr_gi q1 rfl
  rw [e 5 rfl] at q3
  have e9 : fk m = fk M := by show (gi m 221 8).toInt = _; rw [e8]
  refine ⟨fr_tr (fr_up hf rfl rfl) (fr_up q1 rfl rfl), ⟨q2, by rw [e9]; exact h8⟩, by omega, fun q => ?_⟩
  rw [e9] at q
  refine ⟨hk q, ?_⟩
  have := hs q
  omega
theorem tQ_tr {a b c : zM} (h : tQ a b) (k : tQ b c) : tQ a c := ⟨fr_tr h.1 k.1, k.2.1, Int.le_trans h.2.2.1 k.2.2.1, fun q => by
  have k1 := k.2.2.2 q
  have h1 := h.2.2.2 k1.1
  exact ⟨h1.1, by omega⟩⟩
set_option maxRecDepth 100000 in
theorem w_must {d : Nat} {mem : zM} {P : Option Value → zM → Prop} {c : Int32} (hm : aTm aT0 mem) (hse : (gi mem 221 5).toInt ≤ (gi mem 221 2).toInt) (h1 : (gi mem 221 12).toInt = (-1) → ¬ (gi mem 221 3).toInt = 3 → (gi mem 221 8).toInt ≤ 0 → aTm aT0 (si (si mem 221 8 1) 221 9 (gi mem 221 4)) → P none (si (si mem 221 8 1) 221 9 (gi mem 221 4))) (h2 : (gi mem 221 12).toInt = (-1) → ¬ (gi mem 221 3).toInt = 3 → 0 < (gi mem 221 8).toInt → aTm aT0 mem → P none mem) (h3 : (gi mem 221 12).toInt = (-1) → (gi mem 221 3).toInt = 3 → ¬ (gi mem 221 6).toInt = (c).toInt → (gi mem 221 8).toInt ≤ 0 → aTm aT0 (si (si mem 221 8 1) 221 9 (gi mem 221 4)) → P none (si (si mem 221 8 1) 221 9 (gi mem 221 4))) (h4 : (gi mem 221 12).toInt = (-1) → (gi mem 221 3).toInt = 3 → ¬ (gi mem 221 6).toInt = (c).toInt → 0 < (gi mem 221 8).toInt → aTm aT0 mem → P none mem) (h5 : (gi mem 221 12).toInt = (-1) → (gi mem 221 3).toInt = 3 → (gi mem 221 6).toInt = (c).toInt → ¬ (gi mem 221 8).toInt = 0 → aTm aT0 mem → P none mem) (h6 : (gi mem 221 12).toInt = (-1) → (gi mem 221 3).toInt = 3 → (gi mem 221 6).toInt = (c).toInt → (gi mem 221 8).toInt = 0 → ∀ (m7 : zM), aTm aT0 m7 → ahQ mem m7 → aTm aT0 m7 → P none m7) (h7 : ¬ (gi mem 221 12).toInt = (-1) → (gi mem 221 8).toInt ≤ 0 → ¬ (gi mem 221 3).toInt = 3 → aTm aT0 (si (si mem 221 8 1) 221 9 (gi mem 221 12)) → P none (si (si mem 221 8 1) 221 9 (gi mem 221 12))) (h8 : ¬ (gi mem 221 12).toInt = (-1) → (gi mem 221 8).toInt ≤ 0 → (gi mem 221 3).toInt = 3 → ¬ (gi mem 221 6).toInt = (c).toInt → aTm aT0 (si (si mem 221 8 1) 221 9 (gi mem 221 12)) → P none (si (si mem 221 8 1) 221 9 (gi mem 221 12))) (h9 : ¬ (gi mem 221 12).toInt = (-1) → (gi mem 221 8).toInt ≤ 0 → (gi mem 221 3).toInt = 3 → (gi mem 221 6).toInt = (c).toInt → aTm aT0 (si (si mem 221 8 1) 221 9 (gi mem 221 12)) → P none (si (si mem 221 8 1) 221 9 (gi mem 221 12))) (h10 : ¬ (gi mem 221 12).toInt = (-1) → 0 < (gi mem 221 8).toInt → ¬ (gi mem 221 3).toInt = 3 → aTm aT0 mem → P none mem) (h11 : ¬ (gi mem 221 12).toInt = (-1) → 0 < (gi mem 221 8).toInt → (gi mem 221 3).toInt = 3 → ¬ (gi mem 221 6).toInt = (c).toInt → aTm aT0 mem → P none mem) (h12 : ¬ (gi mem 221 12).toInt = (-1) → 0 < (gi mem 221 8).toInt → (gi mem 221 3).toInt = 3 → (gi mem 221 6).toInt = (c).toInt → aTm aT0 mem → P none mem) : yR zpg tX12_must (d + 3) (0, [(0, .ref 221), (1, .int c)], [], mem) P := by
  refine yR_m 1 (fun _ _ _ _ => rfl) ?_
  refine wR_iv rfl rfl mO_e hm rfl rfl rfl rfl ?_
  show yR zpg tX12_lex (d + 2) (0, [(0, .ref 221)], [], mem) _
  refine yR_m 1 (fun _ _ _ _ => rfl) ?_
  refine wR_gi rfl mO_e mO_12 hm rfl ?_
  refine yR_m 1 (fun _ _ _ _ => rfl) ?_
  refine wR_ic_eq rfl (a := (gi mem 221 12).toInt) (c := (-1)) rfl tm1 (fun q1 => ?_) (fun q1 => ?_)
  ·
    refine yR_rv rfl ?_
    show yR zpg tX12_must (d + 3) (4, [(0, .ref 221), (1, .int c)], [], mem) _
    refine yR_m 2 (fun _ _ _ _ => rfl) ?_
    refine wR_iv rfl rfl mO_e hm rfl rfl rfl rfl ?_
    show yR zpg tX12_isSign (d + 2) (0, [(0, .ref 221), (1, .int c)], [], mem) _
    refine yR_m 1 (fun _ _ _ _ => rfl) ?_
    refine wR_gi rfl mO_e mO_3 hm rfl ?_
    refine yR_m 1 (fun _ _ _ _ => rfl) ?_
    refine wR_ic_ne rfl (a := (gi mem 221 3).toInt) (c := 3) rfl rfl (fun q2 => ?_) (fun q2 => ?_)
    ·
      refine yR_m 1 (fun _ _ _ _ => rfl) ?_
      refine yR_rz rfl ⟨by decide, by decide⟩ ?_
      show yR zpg tX12_must (d + 3) (9, [(0, .ref 221), (1, .int c)], [.int 0], mem) _
      refine wR_if_ne rfl (a := 0) rfl (fun q => by exfalso; omega) (fun _ => ?_)
      refine yR_m 3 (fun _ _ _ _ => rfl) ?_
      refine wR_gi rfl mO_e mO_4 hm rfl ?_
      refine wR_iv rfl rfl mO_e hm rfl rfl rfl rfl ?_
      show yR zpg tX12_blame (d + 2) (0, [(0, .ref 221), (1, .int 1), (2, .int (gi mem 221 4))], [], mem) _
      refine yR_m 1 (fun _ _ _ _ => rfl) ?_
      refine wR_gi rfl mO_e mO_8 hm rfl ?_
      refine wR_if_le rfl (a := (gi mem 221 8).toInt) rfl (fun q3 => ?_) (fun q3 => ?_)
      ·
        refine yR_m 2 (fun _ _ _ _ => rfl) ?_
        refine wR_pi rfl mO_e mO_8 hm rfl ?_
        have hm_1 : aTm aT0 (si mem 221 8 1) := tm_si mO_e mO_8 hm (i32_b _)
        refine yR_m 2 (fun _ _ _ _ => rfl) ?_
        refine wR_pi rfl mO_e mO_9 hm_1 rfl ?_
        have hm_2 : aTm aT0 (si (si mem 221 8 1) 221 9 (gi mem 221 4)) := tm_si mO_e mO_9 hm_1 (i32_b _)
        refine yR_rv rfl ?_
        show yR zpg tX12_must (d + 3) (21, [(0, .ref 221), (1, .int c)], [], (si (si mem 221 8 1) 221 9 (gi mem 221 4))) _
        refine yR_m 1 (fun _ _ _ _ => rfl) ?_
        refine wR_gi rfl mO_e mO_8 hm_2 ((gi_sv_ne (by decide)).trans (gi_si_eq mO_e mO_8 hm)) ?_
        refine wR_if_ne rfl (a := 1) rfl (fun _ => ?_) (fun q => by exfalso; omega)
        exact yR_rv rfl (h1 q1 q2 q3 hm_2)
      ·
        refine yR_rv rfl ?_
        show yR zpg tX12_must (d + 3) (21, [(0, .ref 221), (1, .int c)], [], mem) _
        refine yR_m 1 (fun _ _ _ _ => rfl) ?_
        refine wR_gi rfl mO_e mO_8 hm rfl ?_
        refine wR_if_ne rfl (a := (gi mem 221 8).toInt) rfl (fun _ => ?_) (fun q => by exfalso; omega)
        exact yR_rv rfl (h2 q1 q2 q3 hm)
    ·
      refine yR_m 1 (fun _ _ _ _ => rfl) ?_
      refine wR_gi rfl mO_e mO_6 hm rfl ?_
      refine yR_m 1 (fun _ _ _ _ => rfl) ?_
      refine wR_ic_ne rfl (a := (gi mem 221 6).toInt) (c := (c).toInt) rfl rfl (fun q4 => ?_) (fun q4 => ?_)
      ·
        refine yR_m 1 (fun _ _ _ _ => rfl) ?_
        refine yR_rz rfl ⟨by decide, by decide⟩ ?_
        show yR zpg tX12_must (d + 3) (9, [(0, .ref 221), (1, .int c)], [.int 0], mem) _
        refine wR_if_ne rfl (a := 0) rfl (fun q => by exfalso; omega) (fun _ => ?_)
        refine yR_m 3 (fun _ _ _ _ => rfl) ?_
        refine wR_gi rfl mO_e mO_4 hm rfl ?_
        refine wR_iv rfl rfl mO_e hm rfl rfl rfl rfl ?_
        show yR zpg tX12_blame (d + 2) (0, [(0, .ref 221), (1, .int 1), (2, .int (gi mem 221 4))], [], mem) _
        refine yR_m 1 (fun _ _ _ _ => rfl) ?_
        refine wR_gi rfl mO_e mO_8 hm rfl ?_
        refine wR_if_le rfl (a := (gi mem 221 8).toInt) rfl (fun q5 => ?_) (fun q5 => ?_)
        ·
          refine yR_m 2 (fun _ _ _ _ => rfl) ?_
          refine wR_pi rfl mO_e mO_8 hm rfl ?_
          have hm_3 : aTm aT0 (si mem 221 8 1) := tm_si mO_e mO_8 hm (i32_b _)
          refine yR_m 2 (fun _ _ _ _ => rfl) ?_
          refine wR_pi rfl mO_e mO_9 hm_3 rfl ?_
          have hm_4 : aTm aT0 (si (si mem 221 8 1) 221 9 (gi mem 221 4)) := tm_si mO_e mO_9 hm_3 (i32_b _)
          refine yR_rv rfl ?_
          show yR zpg tX12_must (d + 3) (21, [(0, .ref 221), (1, .int c)], [], (si (si mem 221 8 1) 221 9 (gi mem 221 4))) _
          refine yR_m 1 (fun _ _ _ _ => rfl) ?_
          refine wR_gi rfl mO_e mO_8 hm_4 ((gi_sv_ne (by decide)).trans (gi_si_eq mO_e mO_8 hm)) ?_
          refine wR_if_ne rfl (a := 1) rfl (fun _ => ?_) (fun q => by exfalso; omega)
          exact yR_rv rfl (h3 q1 q2 q4 q5 hm_4)
        ·
          refine yR_rv rfl ?_
          show yR zpg tX12_must (d + 3) (21, [(0, .ref 221), (1, .int c)], [], mem) _
          refine yR_m 1 (fun _ _ _ _ => rfl) ?_
          refine wR_gi rfl mO_e mO_8 hm rfl ?_
          refine wR_if_ne rfl (a := (gi mem 221 8).toInt) rfl (fun _ => ?_) (fun q => by exfalso; omega)
          exact yR_rv rfl (h4 q1 q2 q4 q5 hm)
      ·
        refine yR_m 2 (fun _ _ _ _ => rfl) ?_
        refine yR_rz rfl ⟨by decide, by decide⟩ ?_
        show yR zpg tX12_must (d + 3) (9, [(0, .ref 221), (1, .int c)], [.int 1], mem) _
        refine wR_if_ne rfl (a := 1) rfl (fun _ => ?_) (fun q => by exfalso; omega)
        refine yR_m 1 (fun _ _ _ _ => rfl) ?_
        refine wR_gi rfl mO_e mO_8 hm rfl ?_
        refine wR_if_ne rfl (a := (gi mem 221 8).toInt) rfl (fun q6 => ?_) (fun q6 => ?_)
        ·
          exact yR_rv rfl (h5 q1 q2 q4 q6 hm)
        ·
          refine yR_m 1 (fun _ _ _ _ => rfl) ?_
          refine wR_cv rfl rfl mO_e hm rfl (h_ahead2 (by omega) hm rfl rfl (by omega)) ?_
          rintro _ m7 ⟨rfl, hI7, k8⟩
          show yR zpg tX12_must (d + 3) (32, [(0, .ref 221), (1, .int c)], [], m7) _
          exact yR_rv rfl (h6 q1 q2 q4 q6 m7 hI7 k8 hI7)
  ·
    refine yR_m 3 (fun _ _ _ _ => rfl) ?_
    refine wR_gi rfl mO_e mO_12 hm rfl ?_
    refine wR_iv rfl rfl mO_e hm rfl rfl rfl rfl ?_
    show yR zpg tX12_blame (d + 1) (0, [(0, .ref 221), (1, .int 1), (2, .int (gi mem 221 12))], [], mem) _
    refine yR_m 1 (fun _ _ _ _ => rfl) ?_
    refine wR_gi rfl mO_e mO_8 hm rfl ?_
    refine wR_if_le rfl (a := (gi mem 221 8).toInt) rfl (fun q9 => ?_) (fun q9 => ?_)
    ·
      refine yR_m 2 (fun _ _ _ _ => rfl) ?_
      refine wR_pi rfl mO_e mO_8 hm rfl ?_
      have hm_5 : aTm aT0 (si mem 221 8 1) := tm_si mO_e mO_8 hm (i32_b _)
      refine yR_m 2 (fun _ _ _ _ => rfl) ?_
      refine wR_pi rfl mO_e mO_9 hm_5 rfl ?_
      have hm_6 : aTm aT0 (si (si mem 221 8 1) 221 9 (gi mem 221 12)) := tm_si mO_e mO_9 hm_5 (i32_b _)
      refine yR_rv rfl ?_
      show yR zpg tX12_lex (d + 2) (17, [(0, .ref 221)], [], (si (si mem 221 8 1) 221 9 (gi mem 221 12))) _
      refine yR_rv rfl ?_
      show yR zpg tX12_must (d + 3) (4, [(0, .ref 221), (1, .int c)], [], (si (si mem 221 8 1) 221 9 (gi mem 221 12))) _
      refine yR_m 2 (fun _ _ _ _ => rfl) ?_
      refine wR_iv rfl rfl mO_e hm_6 rfl rfl rfl rfl ?_
      show yR zpg tX12_isSign (d + 2) (0, [(0, .ref 221), (1, .int c)], [], (si (si mem 221 8 1) 221 9 (gi mem 221 12))) _
      refine yR_m 1 (fun _ _ _ _ => rfl) ?_
      refine wR_gi rfl mO_e mO_3 hm_6 ((gi_sv_ne (by decide)).trans (gi_sv_ne (by decide))) ?_
      refine yR_m 1 (fun _ _ _ _ => rfl) ?_
      refine wR_ic_ne rfl (a := (gi mem 221 3).toInt) (c := 3) rfl rfl (fun q10 => ?_) (fun q10 => ?_)
      ·
        refine yR_m 1 (fun _ _ _ _ => rfl) ?_
        refine yR_rz rfl ⟨by decide, by decide⟩ ?_
        show yR zpg tX12_must (d + 3) (9, [(0, .ref 221), (1, .int c)], [.int 0], (si (si mem 221 8 1) 221 9 (gi mem 221 12))) _
        refine wR_if_ne rfl (a := 0) rfl (fun q => by exfalso; omega) (fun _ => ?_)
        refine yR_m 3 (fun _ _ _ _ => rfl) ?_
        refine wR_gi rfl mO_e mO_4 hm_6 ((gi_sv_ne (by decide)).trans (gi_sv_ne (by decide))) ?_
        refine wR_iv rfl rfl mO_e hm_6 rfl rfl rfl rfl ?_
        show yR zpg tX12_blame (d + 2) (0, [(0, .ref 221), (1, .int 1), (2, .int (gi mem 221 4))], [], (si (si mem 221 8 1) 221 9 (gi mem 221 12))) _
        refine yR_m 1 (fun _ _ _ _ => rfl) ?_
        refine wR_gi rfl mO_e mO_8 hm_6 ((gi_sv_ne (by decide)).trans (gi_si_eq mO_e mO_8 hm)) ?_
        refine wR_if_le rfl (a := 1) rfl (fun q => by exfalso; omega) (fun _ => ?_)
        refine yR_rv rfl ?_
        show yR zpg tX12_must (d + 3) (21, [(0, .ref 221), (1, .int c)], [], (si (si mem 221 8 1) 221 9 (gi mem 221 12))) _
        refine yR_m 1 (fun _ _ _ _ => rfl) ?_
        refine wR_gi rfl mO_e mO_8 hm_6 ((gi_sv_ne (by decide)).trans (gi_si_eq mO_e mO_8 hm)) ?_
        refine wR_if_ne rfl (a := 1) rfl (fun _ => ?_) (fun q => by exfalso; omega)
        exact yR_rv rfl (h7 q1 q9 q10 hm_6)
      ·
        refine yR_m 1 (fun _ _ _ _ => rfl) ?_
        refine wR_gi rfl mO_e mO_6 hm_6 ((gi_sv_ne (by decide)).trans (gi_sv_ne (by decide))) ?_
        refine yR_m 1 (fun _ _ _ _ => rfl) ?_
        refine wR_ic_ne rfl (a := (gi mem 221 6).toInt) (c := (c).toInt) rfl rfl (fun q11 => ?_) (fun q11 => ?_)
        ·
          refine yR_m 1 (fun _ _ _ _ => rfl) ?_
          refine yR_rz rfl ⟨by decide, by decide⟩ ?_
          show yR zpg tX12_must (d + 3) (9, [(0, .ref 221), (1, .int c)], [.int 0], (si (si mem 221 8 1) 221 9 (gi mem 221 12))) _
          refine wR_if_ne rfl (a := 0) rfl (fun q => by exfalso; omega) (fun _ => ?_)
          refine yR_m 3 (fun _ _ _ _ => rfl) ?_
          refine wR_gi rfl mO_e mO_4 hm_6 ((gi_sv_ne (by decide)).trans (gi_sv_ne (by decide))) ?_
          refine wR_iv rfl rfl mO_e hm_6 rfl rfl rfl rfl ?_
          show yR zpg tX12_blame (d + 2) (0, [(0, .ref 221), (1, .int 1), (2, .int (gi mem 221 4))], [], (si (si mem 221 8 1) 221 9 (gi mem 221 12))) _
          refine yR_m 1 (fun _ _ _ _ => rfl) ?_
          refine wR_gi rfl mO_e mO_8 hm_6 ((gi_sv_ne (by decide)).trans (gi_si_eq mO_e mO_8 hm)) ?_
          refine wR_if_le rfl (a := 1) rfl (fun q => by exfalso; omega) (fun _ => ?_)
          refine yR_rv rfl ?_
          show yR zpg tX12_must (d + 3) (21, [(0, .ref 221), (1, .int c)], [], (si (si mem 221 8 1) 221 9 (gi mem 221 12))) _
          refine yR_m 1 (fun _ _ _ _ => rfl) ?_
          refine wR_gi rfl mO_e mO_8 hm_6 ((gi_sv_ne (by decide)).trans (gi_si_eq mO_e mO_8 hm)) ?_
          refine wR_if_ne rfl (a := 1) rfl (fun _ => ?_) (fun q => by exfalso; omega)
          exact yR_rv rfl (h8 q1 q9 q10 q11 hm_6)
        ·
          refine yR_m 2 (fun _ _ _ _ => rfl) ?_
          refine yR_rz rfl ⟨by decide, by decide⟩ ?_
          show yR zpg tX12_must (d + 3) (9, [(0, .ref 221), (1, .int c)], [.int 1], (si (si mem 221 8 1) 221 9 (gi mem 221 12))) _
          refine wR_if_ne rfl (a := 1) rfl (fun _ => ?_) (fun q => by exfalso; omega)
          refine yR_m 1 (fun _ _ _ _ => rfl) ?_
          refine wR_gi rfl mO_e mO_8 hm_6 ((gi_sv_ne (by decide)).trans (gi_si_eq mO_e mO_8 hm)) ?_
          refine wR_if_ne rfl (a := 1) rfl (fun _ => ?_) (fun q => by exfalso; omega)
          exact yR_rv rfl (h9 q1 q9 q10 q11 hm_6)
    ·
      refine yR_rv rfl ?_
      show yR zpg tX12_lex (d + 2) (17, [(0, .ref 221)], [], mem) _
      refine yR_rv rfl ?_
      show yR zpg tX12_must (d + 3) (4, [(0, .ref 221), (1, .int c)], [], mem) _
      refine yR_m 2 (fun _ _ _ _ => rfl) ?_
      refine wR_iv rfl rfl mO_e hm rfl rfl rfl rfl ?_
      show yR zpg tX12_isSign (d + 2) (0, [(0, .ref 221), (1, .int c)], [], mem) _
      refine yR_m 1 (fun _ _ _ _ => rfl) ?_
      refine wR_gi rfl mO_e mO_3 hm rfl ?_
      refine yR_m 1 (fun _ _ _ _ => rfl) ?_
      refine wR_ic_ne rfl (a := (gi mem 221 3).toInt) (c := 3) rfl rfl (fun q12 => ?_) (fun q12 => ?_)
      ·
        refine yR_m 1 (fun _ _ _ _ => rfl) ?_
        refine yR_rz rfl ⟨by decide, by decide⟩ ?_
        show yR zpg tX12_must (d + 3) (9, [(0, .ref 221), (1, .int c)], [.int 0], mem) _
        refine wR_if_ne rfl (a := 0) rfl (fun q => by exfalso; omega) (fun _ => ?_)
        refine yR_m 3 (fun _ _ _ _ => rfl) ?_
        refine wR_gi rfl mO_e mO_4 hm rfl ?_
        refine wR_iv rfl rfl mO_e hm rfl rfl rfl rfl ?_
        show yR zpg tX12_blame (d + 2) (0, [(0, .ref 221), (1, .int 1), (2, .int (gi mem 221 4))], [], mem) _
        refine yR_m 1 (fun _ _ _ _ => rfl) ?_
        refine wR_gi rfl mO_e mO_8 hm rfl ?_
        refine wR_if_le rfl (a := (gi mem 221 8).toInt) rfl (fun q => by exfalso; omega) (fun _ => ?_)
        refine yR_rv rfl ?_
        show yR zpg tX12_must (d + 3) (21, [(0, .ref 221), (1, .int c)], [], mem) _
        refine yR_m 1 (fun _ _ _ _ => rfl) ?_
        refine wR_gi rfl mO_e mO_8 hm rfl ?_
        refine wR_if_ne rfl (a := (gi mem 221 8).toInt) rfl (fun _ => ?_) (fun q => by exfalso; omega)
        exact yR_rv rfl (h10 q1 q9 q12 hm)
      ·
        refine yR_m 1 (fun _ _ _ _ => rfl) ?_
        refine wR_gi rfl mO_e mO_6 hm rfl ?_
        refine yR_m 1 (fun _ _ _ _ => rfl) ?_
        refine wR_ic_ne rfl (a := (gi mem 221 6).toInt) (c := (c).toInt) rfl rfl (fun q13 => ?_) (fun q13 => ?_)
        ·
          refine yR_m 1 (fun _ _ _ _ => rfl) ?_
          refine yR_rz rfl ⟨by decide, by decide⟩ ?_
          show yR zpg tX12_must (d + 3) (9, [(0, .ref 221), (1, .int c)], [.int 0], mem) _
          refine wR_if_ne rfl (a := 0) rfl (fun q => by exfalso; omega) (fun _ => ?_)
          refine yR_m 3 (fun _ _ _ _ => rfl) ?_
          refine wR_gi rfl mO_e mO_4 hm rfl ?_
          refine wR_iv rfl rfl mO_e hm rfl rfl rfl rfl ?_
          show yR zpg tX12_blame (d + 2) (0, [(0, .ref 221), (1, .int 1), (2, .int (gi mem 221 4))], [], mem) _
          refine yR_m 1 (fun _ _ _ _ => rfl) ?_
          refine wR_gi rfl mO_e mO_8 hm rfl ?_
          refine wR_if_le rfl (a := (gi mem 221 8).toInt) rfl (fun q => by exfalso; omega) (fun _ => ?_)
          refine yR_rv rfl ?_
          show yR zpg tX12_must (d + 3) (21, [(0, .ref 221), (1, .int c)], [], mem) _
          refine yR_m 1 (fun _ _ _ _ => rfl) ?_
          refine wR_gi rfl mO_e mO_8 hm rfl ?_
          refine wR_if_ne rfl (a := (gi mem 221 8).toInt) rfl (fun _ => ?_) (fun q => by exfalso; omega)
          exact yR_rv rfl (h11 q1 q9 q12 q13 hm)
        ·
          refine yR_m 2 (fun _ _ _ _ => rfl) ?_
          refine yR_rz rfl ⟨by decide, by decide⟩ ?_
          show yR zpg tX12_must (d + 3) (9, [(0, .ref 221), (1, .int c)], [.int 1], mem) _
          refine wR_if_ne rfl (a := 1) rfl (fun _ => ?_) (fun q => by exfalso; omega)
          refine yR_m 1 (fun _ _ _ _ => rfl) ?_
          refine wR_gi rfl mO_e mO_8 hm rfl ?_
          refine wR_if_ne rfl (a := (gi mem 221 8).toInt) rfl (fun _ => ?_) (fun q => by exfalso; omega)
          exact yR_rv rfl (h12 q1 q9 q12 q13 hm)

set_option maxRecDepth 100000 in
theorem w_must_ {d : Nat} {mem : zM} {P : Option Value → zM → Prop} {c : Int64} (hm : aTm aT0 mem) (hse : (gi mem 221 5).toInt ≤ (gi mem 221 2).toInt) (h1 : (gi mem 221 12).toInt = (-1) → (gi mem 221 8).toInt ≤ 0 → ¬ (gi mem 221 3).toInt = 1 → aTm aT0 (si (si mem 221 8 1) 221 9 (gi mem 221 4)) → P none (si (si mem 221 8 1) 221 9 (gi mem 221 4))) (h2 : (gi mem 221 12).toInt = (-1) → (gi mem 221 8).toInt ≤ 0 → (gi mem 221 3).toInt = 1 → ¬ (gL mem 221 7) = c → aTm aT0 (si (si mem 221 8 1) 221 9 (gi mem 221 4)) → P none (si (si mem 221 8 1) 221 9 (gi mem 221 4))) (h3 : (gi mem 221 12).toInt = (-1) → (gi mem 221 8).toInt ≤ 0 → (gi mem 221 3).toInt = 1 → (gL mem 221 7) = c → ¬ (gi mem 221 8).toInt = 0 → aTm aT0 mem → P none mem) (h4 : (gi mem 221 12).toInt = (-1) → (gi mem 221 8).toInt ≤ 0 → (gi mem 221 3).toInt = 1 → (gL mem 221 7) = c → (gi mem 221 8).toInt = 0 → ∀ (m6 : zM), aTm aT0 m6 → ahQ mem m6 → aTm aT0 m6 → P none m6) (h5 : (gi mem 221 12).toInt = (-1) → 0 < (gi mem 221 8).toInt → aTm aT0 mem → P none mem) (h6 : ¬ (gi mem 221 12).toInt = (-1) → (gi mem 221 8).toInt ≤ 0 → aTm aT0 (si (si mem 221 8 1) 221 9 (gi mem 221 12)) → P none (si (si mem 221 8 1) 221 9 (gi mem 221 12))) (h7 : ¬ (gi mem 221 12).toInt = (-1) → 0 < (gi mem 221 8).toInt → aTm aT0 mem → P none mem) : yR zpg tX12_must_ (d + 3) (0, [(0, .ref 221), (1, .long c)], [], mem) P := by
  refine yR_m 1 (fun _ _ _ _ => rfl) ?_
  refine wR_iv rfl rfl mO_e hm rfl rfl rfl rfl ?_
  show yR zpg tX12_lex (d + 2) (0, [(0, .ref 221)], [], mem) _
  refine yR_m 1 (fun _ _ _ _ => rfl) ?_
  refine wR_gi rfl mO_e mO_12 hm rfl ?_
  refine yR_m 1 (fun _ _ _ _ => rfl) ?_
  refine wR_ic_eq rfl (a := (gi mem 221 12).toInt) (c := (-1)) rfl tm1 (fun q1 => ?_) (fun q1 => ?_)
  ·
    refine yR_rv rfl ?_
    show yR zpg tX12_must_ (d + 3) (4, [(0, .ref 221), (1, .long c)], [], mem) _
    refine yR_m 1 (fun _ _ _ _ => rfl) ?_
    refine wR_gi rfl mO_e mO_8 hm rfl ?_
    refine wR_if_le rfl (a := (gi mem 221 8).toInt) rfl (fun q2 => ?_) (fun q2 => ?_)
    ·
      refine yR_m 2 (fun _ _ _ _ => rfl) ?_
      refine wR_iv rfl rfl mO_e hm rfl rfl rfl rfl ?_
      show yR zpg tX12_isWord (d + 2) (0, [(0, .ref 221), (1, .long c)], [], mem) _
      refine yR_m 1 (fun _ _ _ _ => rfl) ?_
      refine wR_gi rfl mO_e mO_3 hm rfl ?_
      refine yR_m 1 (fun _ _ _ _ => rfl) ?_
      refine wR_ic_ne rfl (a := (gi mem 221 3).toInt) (c := 1) rfl rfl (fun q3 => ?_) (fun q3 => ?_)
      ·
        refine yR_m 1 (fun _ _ _ _ => rfl) ?_
        refine yR_rz rfl ⟨by decide, by decide⟩ ?_
        show yR zpg tX12_must_ (d + 3) (17, [(0, .ref 221), (1, .long c)], [.int 0], mem) _
        refine wR_if_ne rfl (a := 0) rfl (fun q => by exfalso; omega) (fun _ => ?_)
        refine yR_m 3 (fun _ _ _ _ => rfl) ?_
        refine wR_gi rfl mO_e mO_4 hm rfl ?_
        refine wR_iv rfl rfl mO_e hm rfl rfl rfl rfl ?_
        show yR zpg tX12_blame (d + 2) (0, [(0, .ref 221), (1, .int 1), (2, .int (gi mem 221 4))], [], mem) _
        refine yR_m 1 (fun _ _ _ _ => rfl) ?_
        refine wR_gi rfl mO_e mO_8 hm rfl ?_
        refine wR_if_le rfl (a := (gi mem 221 8).toInt) rfl (fun _ => ?_) (fun q => by exfalso; omega)
        refine yR_m 2 (fun _ _ _ _ => rfl) ?_
        refine wR_pi rfl mO_e mO_8 hm rfl ?_
        have hm_1 : aTm aT0 (si mem 221 8 1) := tm_si mO_e mO_8 hm (i32_b _)
        refine yR_m 2 (fun _ _ _ _ => rfl) ?_
        refine wR_pi rfl mO_e mO_9 hm_1 rfl ?_
        have hm_2 : aTm aT0 (si (si mem 221 8 1) 221 9 (gi mem 221 4)) := tm_si mO_e mO_9 hm_1 (i32_b _)
        refine yR_rv rfl ?_
        show yR zpg tX12_must_ (d + 3) (29, [(0, .ref 221), (1, .long c)], [], (si (si mem 221 8 1) 221 9 (gi mem 221 4))) _
        refine yR_m 1 (fun _ _ _ _ => rfl) ?_
        refine wR_gi rfl mO_e mO_8 hm_2 ((gi_sv_ne (by decide)).trans (gi_si_eq mO_e mO_8 hm)) ?_
        refine wR_if_ne rfl (a := 1) rfl (fun _ => ?_) (fun q => by exfalso; omega)
        exact yR_rv rfl (h1 q1 q2 q3 hm_2)
      ·
        refine yR_m 1 (fun _ _ _ _ => rfl) ?_
        refine wR_gL rfl mO_e mO_7 hm rfl ?_
        refine yR_m 2 (fun _ _ _ _ => rfl) ?_
        refine wR_lf_ne rfl (fun q4 => ?_) (fun q4 => ?_)
        ·
          refine yR_m 1 (fun _ _ _ _ => rfl) ?_
          refine yR_rz rfl ⟨by decide, by decide⟩ ?_
          show yR zpg tX12_must_ (d + 3) (17, [(0, .ref 221), (1, .long c)], [.int 0], mem) _
          refine wR_if_ne rfl (a := 0) rfl (fun q => by exfalso; omega) (fun _ => ?_)
          refine yR_m 3 (fun _ _ _ _ => rfl) ?_
          refine wR_gi rfl mO_e mO_4 hm rfl ?_
          refine wR_iv rfl rfl mO_e hm rfl rfl rfl rfl ?_
          show yR zpg tX12_blame (d + 2) (0, [(0, .ref 221), (1, .int 1), (2, .int (gi mem 221 4))], [], mem) _
          refine yR_m 1 (fun _ _ _ _ => rfl) ?_
          refine wR_gi rfl mO_e mO_8 hm rfl ?_
          refine wR_if_le rfl (a := (gi mem 221 8).toInt) rfl (fun _ => ?_) (fun q => by exfalso; omega)
          refine yR_m 2 (fun _ _ _ _ => rfl) ?_
          refine wR_pi rfl mO_e mO_8 hm rfl ?_
          have hm_3 : aTm aT0 (si mem 221 8 1) := tm_si mO_e mO_8 hm (i32_b _)
          refine yR_m 2 (fun _ _ _ _ => rfl) ?_
          refine wR_pi rfl mO_e mO_9 hm_3 rfl ?_
          have hm_4 : aTm aT0 (si (si mem 221 8 1) 221 9 (gi mem 221 4)) := tm_si mO_e mO_9 hm_3 (i32_b _)
          refine yR_rv rfl ?_
          show yR zpg tX12_must_ (d + 3) (29, [(0, .ref 221), (1, .long c)], [], (si (si mem 221 8 1) 221 9 (gi mem 221 4))) _
          refine yR_m 1 (fun _ _ _ _ => rfl) ?_
          refine wR_gi rfl mO_e mO_8 hm_4 ((gi_sv_ne (by decide)).trans (gi_si_eq mO_e mO_8 hm)) ?_
          refine wR_if_ne rfl (a := 1) rfl (fun _ => ?_) (fun q => by exfalso; omega)
          exact yR_rv rfl (h2 q1 q2 q3 q4 hm_4)
        ·
          refine yR_m 2 (fun _ _ _ _ => rfl) ?_
          refine yR_rz rfl ⟨by decide, by decide⟩ ?_
          show yR zpg tX12_must_ (d + 3) (17, [(0, .ref 221), (1, .long c)], [.int 1], mem) _
          refine wR_if_ne rfl (a := 1) rfl (fun _ => ?_) (fun q => by exfalso; omega)
          refine yR_m 1 (fun _ _ _ _ => rfl) ?_
          refine wR_gi rfl mO_e mO_8 hm rfl ?_
          refine wR_if_ne rfl (a := (gi mem 221 8).toInt) rfl (fun q5 => ?_) (fun q5 => ?_)
          ·
            exact yR_rv rfl (h3 q1 q2 q3 q4 q5 hm)
          ·
            refine yR_m 1 (fun _ _ _ _ => rfl) ?_
            refine wR_cv rfl rfl mO_e hm rfl (h_ahead2 (by omega) hm rfl rfl (by omega)) ?_
            rintro _ m6 ⟨rfl, hI6, k7⟩
            show yR zpg tX12_must_ (d + 3) (40, [(0, .ref 221), (1, .long c)], [], m6) _
            exact yR_rv rfl (h4 q1 q2 q3 q4 q5 m6 hI6 k7 hI6)
    ·
      exact yR_rv rfl (h5 q1 q2 hm)
  ·
    refine yR_m 3 (fun _ _ _ _ => rfl) ?_
    refine wR_gi rfl mO_e mO_12 hm rfl ?_
    refine wR_iv rfl rfl mO_e hm rfl rfl rfl rfl ?_
    show yR zpg tX12_blame (d + 1) (0, [(0, .ref 221), (1, .int 1), (2, .int (gi mem 221 12))], [], mem) _
    refine yR_m 1 (fun _ _ _ _ => rfl) ?_
    refine wR_gi rfl mO_e mO_8 hm rfl ?_
    refine wR_if_le rfl (a := (gi mem 221 8).toInt) rfl (fun q8 => ?_) (fun q8 => ?_)
    ·
      refine yR_m 2 (fun _ _ _ _ => rfl) ?_
      refine wR_pi rfl mO_e mO_8 hm rfl ?_
      have hm_5 : aTm aT0 (si mem 221 8 1) := tm_si mO_e mO_8 hm (i32_b _)
      refine yR_m 2 (fun _ _ _ _ => rfl) ?_
      refine wR_pi rfl mO_e mO_9 hm_5 rfl ?_
      have hm_6 : aTm aT0 (si (si mem 221 8 1) 221 9 (gi mem 221 12)) := tm_si mO_e mO_9 hm_5 (i32_b _)
      refine yR_rv rfl ?_
      show yR zpg tX12_lex (d + 2) (17, [(0, .ref 221)], [], (si (si mem 221 8 1) 221 9 (gi mem 221 12))) _
      refine yR_rv rfl ?_
      show yR zpg tX12_must_ (d + 3) (4, [(0, .ref 221), (1, .long c)], [], (si (si mem 221 8 1) 221 9 (gi mem 221 12))) _
      refine yR_m 1 (fun _ _ _ _ => rfl) ?_
      refine wR_gi rfl mO_e mO_8 hm_6 ((gi_sv_ne (by decide)).trans (gi_si_eq mO_e mO_8 hm)) ?_
      refine wR_if_le rfl (a := 1) rfl (fun q => by exfalso; omega) (fun _ => ?_)
      exact yR_rv rfl (h6 q1 q8 hm_6)
    ·
      refine yR_rv rfl ?_
      show yR zpg tX12_lex (d + 2) (17, [(0, .ref 221)], [], mem) _
      refine yR_rv rfl ?_
      show yR zpg tX12_must_ (d + 3) (4, [(0, .ref 221), (1, .long c)], [], mem) _
      refine yR_m 1 (fun _ _ _ _ => rfl) ?_
      refine wR_gi rfl mO_e mO_8 hm rfl ?_
      refine wR_if_le rfl (a := (gi mem 221 8).toInt) rfl (fun q => by exfalso; omega) (fun _ => ?_)
      exact yR_rv rfl (h7 q1 q8 hm)

set_option maxRecDepth 100000 in
theorem w_number {d : Nat} {mem : zM} {P : Option Value → zM → Prop} {lw hg : Int32} (hm : aTm aT0 mem) (hse : (gi mem 221 5).toInt ≤ (gi mem 221 2).toInt) (h1 : (gi mem 221 12).toInt = (-1) → (gi mem 221 8).toInt ≤ 0 → (gi mem 221 3).toInt = 2 → ¬ (gi mem 221 8).toInt = 0 → aTm aT0 mem → P (some (.int (gi mem 221 6))) mem) (h2 : (gi mem 221 12).toInt = (-1) → (gi mem 221 8).toInt ≤ 0 → (gi mem 221 3).toInt = 2 → (gi mem 221 8).toInt = 0 → (gi mem 221 6).toInt < (lw).toInt → aTm aT0 (si (si mem 221 8 4) 221 9 (gi mem 221 4)) → P (some (.int (gi mem 221 6))) (si (si mem 221 8 4) 221 9 (gi mem 221 4))) (h3 : (gi mem 221 12).toInt = (-1) → (gi mem 221 8).toInt ≤ 0 → (gi mem 221 3).toInt = 2 → (gi mem 221 8).toInt = 0 → (lw).toInt ≤ (gi mem 221 6).toInt → (hg).toInt < (gi mem 221 6).toInt → aTm aT0 (si (si mem 221 8 4) 221 9 (gi mem 221 4)) → P (some (.int (gi mem 221 6))) (si (si mem 221 8 4) 221 9 (gi mem 221 4))) (h4 : (gi mem 221 12).toInt = (-1) → (gi mem 221 8).toInt ≤ 0 → (gi mem 221 3).toInt = 2 → (gi mem 221 8).toInt = 0 → (lw).toInt ≤ (gi mem 221 6).toInt → (gi mem 221 6).toInt ≤ (hg).toInt → ∀ (m7 : zM), aTm aT0 m7 → ahQ mem m7 → aTm aT0 m7 → P (some (.int (gi mem 221 6))) m7) (h5 : (gi mem 221 12).toInt = (-1) → (gi mem 221 8).toInt ≤ 0 → ¬ (gi mem 221 3).toInt = 2 → aTm aT0 (si (si mem 221 8 1) 221 9 (gi mem 221 4)) → P (some (.int (gi mem 221 6))) (si (si mem 221 8 1) 221 9 (gi mem 221 4))) (h6 : (gi mem 221 12).toInt = (-1) → 0 < (gi mem 221 8).toInt → aTm aT0 mem → P (some (.int 0)) mem) (h7 : ¬ (gi mem 221 12).toInt = (-1) → (gi mem 221 8).toInt ≤ 0 → aTm aT0 (si (si mem 221 8 1) 221 9 (gi mem 221 12)) → P (some (.int 0)) (si (si mem 221 8 1) 221 9 (gi mem 221 12))) (h8 : ¬ (gi mem 221 12).toInt = (-1) → 0 < (gi mem 221 8).toInt → aTm aT0 mem → P (some (.int 0)) mem) : yR zpg tX12_number (d + 3) (0, [(0, .ref 221), (1, .int lw), (2, .int hg)], [], mem) P := by
  refine yR_m 1 (fun _ _ _ _ => rfl) ?_
  refine wR_iv rfl rfl mO_e hm rfl rfl rfl rfl ?_
  show yR zpg tX12_lex (d + 2) (0, [(0, .ref 221)], [], mem) _
  refine yR_m 1 (fun _ _ _ _ => rfl) ?_
  refine wR_gi rfl mO_e mO_12 hm rfl ?_
  refine yR_m 1 (fun _ _ _ _ => rfl) ?_
  refine wR_ic_eq rfl (a := (gi mem 221 12).toInt) (c := (-1)) rfl tm1 (fun q1 => ?_) (fun q1 => ?_)
  ·
    refine yR_rv rfl ?_
    show yR zpg tX12_number (d + 3) (4, [(0, .ref 221), (1, .int lw), (2, .int hg)], [], mem) _
    refine yR_m 1 (fun _ _ _ _ => rfl) ?_
    refine wR_gi rfl mO_e mO_8 hm rfl ?_
    refine wR_if_le rfl (a := (gi mem 221 8).toInt) rfl (fun q2 => ?_) (fun q2 => ?_)
    ·
      refine yR_m 1 (fun _ _ _ _ => rfl) ?_
      refine wR_gi rfl mO_e mO_3 hm rfl ?_
      refine yR_m 1 (fun _ _ _ _ => rfl) ?_
      refine wR_ic_eq rfl (a := (gi mem 221 3).toInt) (c := 2) rfl rfl (fun q3 => ?_) (fun q3 => ?_)
      ·
        refine yR_m 1 (fun _ _ _ _ => rfl) ?_
        refine wR_gi rfl mO_e mO_8 hm rfl ?_
        refine wR_if_ne rfl (a := (gi mem 221 8).toInt) rfl (fun q4 => ?_) (fun q4 => ?_)
        ·
          refine yR_m 1 (fun _ _ _ _ => rfl) ?_
          refine wR_gi rfl mO_e mO_6 hm rfl ?_
          refine yR_m 2 (fun _ _ _ _ => rfl) ?_
          refine wR_gi rfl mO_e mO_8 hm rfl ?_
          refine wR_if_ne rfl (a := (gi mem 221 8).toInt) rfl (fun _ => ?_) (fun q => by exfalso; omega)
          refine yR_m 1 (fun _ _ _ _ => rfl) ?_
          exact yR_ri rfl (h1 q1 q2 q3 q4 hm)
        ·
          refine yR_m 1 (fun _ _ _ _ => rfl) ?_
          refine wR_gi rfl mO_e mO_6 hm rfl ?_
          refine yR_m 2 (fun _ _ _ _ => rfl) ?_
          refine wR_is rfl rfl rfl rfl rfl rfl ?_
          show yR zpg tX12_is (d + 2) (0, [(0, .int (gi mem 221 6)), (1, .int lw), (2, .int hg)], [], mem) _
          refine yR_m 2 (fun _ _ _ _ => rfl) ?_
          refine wR_ic_lt rfl (a := (gi mem 221 6).toInt) (c := (lw).toInt) rfl rfl (fun q5 => ?_) (fun q5 => ?_)
          ·
            refine yR_m 1 (fun _ _ _ _ => rfl) ?_
            refine yR_rz rfl ⟨by decide, by decide⟩ ?_
            show yR zpg tX12_number (d + 3) (46, [(0, .ref 221), (1, .int lw), (2, .int hg)], [.int 0], mem) _
            refine wR_if_ne rfl (a := 0) rfl (fun q => by exfalso; omega) (fun _ => ?_)
            refine yR_m 3 (fun _ _ _ _ => rfl) ?_
            refine wR_gi rfl mO_e mO_4 hm rfl ?_
            refine wR_iv rfl rfl mO_e hm rfl rfl rfl rfl ?_
            show yR zpg tX12_blame (d + 2) (0, [(0, .ref 221), (1, .int 4), (2, .int (gi mem 221 4))], [], mem) _
            refine yR_m 1 (fun _ _ _ _ => rfl) ?_
            refine wR_gi rfl mO_e mO_8 hm rfl ?_
            refine wR_if_le rfl (a := (gi mem 221 8).toInt) rfl (fun _ => ?_) (fun q => by exfalso; omega)
            refine yR_m 2 (fun _ _ _ _ => rfl) ?_
            refine wR_pi rfl mO_e mO_8 hm rfl ?_
            have hm_1 : aTm aT0 (si mem 221 8 4) := tm_si mO_e mO_8 hm (i32_b _)
            refine yR_m 2 (fun _ _ _ _ => rfl) ?_
            refine wR_pi rfl mO_e mO_9 hm_1 rfl ?_
            have hm_2 : aTm aT0 (si (si mem 221 8 4) 221 9 (gi mem 221 4)) := tm_si mO_e mO_9 hm_1 (i32_b _)
            refine yR_rv rfl ?_
            show yR zpg tX12_number (d + 3) (58, [(0, .ref 221), (1, .int lw), (2, .int hg)], [], (si (si mem 221 8 4) 221 9 (gi mem 221 4))) _
            refine yR_m 1 (fun _ _ _ _ => rfl) ?_
            refine wR_gi rfl mO_e mO_6 hm_2 ((gi_sv_ne (by decide)).trans (gi_sv_ne (by decide))) ?_
            refine yR_m 2 (fun _ _ _ _ => rfl) ?_
            refine wR_gi rfl mO_e mO_8 hm_2 ((gi_sv_ne (by decide)).trans (gi_si_eq mO_e mO_8 hm)) ?_
            refine wR_if_ne rfl (a := 4) rfl (fun _ => ?_) (fun q => by exfalso; omega)
            refine yR_m 1 (fun _ _ _ _ => rfl) ?_
            exact yR_ri rfl (h2 q1 q2 q3 q4 q5 hm_2)
          ·
            refine yR_m 2 (fun _ _ _ _ => rfl) ?_
            refine wR_ic_gt rfl (a := (gi mem 221 6).toInt) (c := (hg).toInt) rfl rfl (fun q6 => ?_) (fun q6 => ?_)
            ·
              refine yR_m 1 (fun _ _ _ _ => rfl) ?_
              refine yR_rz rfl ⟨by decide, by decide⟩ ?_
              show yR zpg tX12_number (d + 3) (46, [(0, .ref 221), (1, .int lw), (2, .int hg)], [.int 0], mem) _
              refine wR_if_ne rfl (a := 0) rfl (fun q => by exfalso; omega) (fun _ => ?_)
              refine yR_m 3 (fun _ _ _ _ => rfl) ?_
              refine wR_gi rfl mO_e mO_4 hm rfl ?_
              refine wR_iv rfl rfl mO_e hm rfl rfl rfl rfl ?_
              show yR zpg tX12_blame (d + 2) (0, [(0, .ref 221), (1, .int 4), (2, .int (gi mem 221 4))], [], mem) _
              refine yR_m 1 (fun _ _ _ _ => rfl) ?_
              refine wR_gi rfl mO_e mO_8 hm rfl ?_
              refine wR_if_le rfl (a := (gi mem 221 8).toInt) rfl (fun _ => ?_) (fun q => by exfalso; omega)
              refine yR_m 2 (fun _ _ _ _ => rfl) ?_
              refine wR_pi rfl mO_e mO_8 hm rfl ?_
              have hm_3 : aTm aT0 (si mem 221 8 4) := tm_si mO_e mO_8 hm (i32_b _)
              refine yR_m 2 (fun _ _ _ _ => rfl) ?_
              refine wR_pi rfl mO_e mO_9 hm_3 rfl ?_
              have hm_4 : aTm aT0 (si (si mem 221 8 4) 221 9 (gi mem 221 4)) := tm_si mO_e mO_9 hm_3 (i32_b _)
              refine yR_rv rfl ?_
              show yR zpg tX12_number (d + 3) (58, [(0, .ref 221), (1, .int lw), (2, .int hg)], [], (si (si mem 221 8 4) 221 9 (gi mem 221 4))) _
              refine yR_m 1 (fun _ _ _ _ => rfl) ?_
              refine wR_gi rfl mO_e mO_6 hm_4 ((gi_sv_ne (by decide)).trans (gi_sv_ne (by decide))) ?_
              refine yR_m 2 (fun _ _ _ _ => rfl) ?_
              refine wR_gi rfl mO_e mO_8 hm_4 ((gi_sv_ne (by decide)).trans (gi_si_eq mO_e mO_8 hm)) ?_
              refine wR_if_ne rfl (a := 4) rfl (fun _ => ?_) (fun q => by exfalso; omega)
              refine yR_m 1 (fun _ _ _ _ => rfl) ?_
              exact yR_ri rfl (h3 q1 q2 q3 q4 q5 q6 hm_4)
            ·
              refine yR_m 2 (fun _ _ _ _ => rfl) ?_
              refine yR_rz rfl ⟨by decide, by decide⟩ ?_
              show yR zpg tX12_number (d + 3) (46, [(0, .ref 221), (1, .int lw), (2, .int hg)], [.int 1], mem) _
              refine wR_if_ne rfl (a := 1) rfl (fun _ => ?_) (fun q => by exfalso; omega)
              refine yR_m 1 (fun _ _ _ _ => rfl) ?_
              refine wR_gi rfl mO_e mO_6 hm rfl ?_
              refine yR_m 2 (fun _ _ _ _ => rfl) ?_
              refine wR_gi rfl mO_e mO_8 hm rfl ?_
              refine wR_if_ne rfl (a := (gi mem 221 8).toInt) rfl (fun q => by exfalso; omega) (fun _ => ?_)
              refine yR_m 1 (fun _ _ _ _ => rfl) ?_
              refine wR_cv rfl rfl mO_e hm rfl (h_ahead2 (by omega) hm rfl rfl (by omega)) ?_
              rintro _ m7 ⟨rfl, hI7, k8⟩
              show yR zpg tX12_number (d + 3) (74, [(3, .int (gi mem 221 6)), (0, .ref 221), (1, .int lw), (2, .int hg)], [], m7) _
              refine yR_m 1 (fun _ _ _ _ => rfl) ?_
              exact yR_ri rfl (h4 q1 q2 q3 q4 q5 q6 m7 hI7 k8 hI7)
      ·
        refine yR_m 3 (fun _ _ _ _ => rfl) ?_
        refine wR_gi rfl mO_e mO_4 hm rfl ?_
        refine wR_iv rfl rfl mO_e hm rfl rfl rfl rfl ?_
        show yR zpg tX12_blame (d + 2) (0, [(0, .ref 221), (1, .int 1), (2, .int (gi mem 221 4))], [], mem) _
        refine yR_m 1 (fun _ _ _ _ => rfl) ?_
        refine wR_gi rfl mO_e mO_8 hm rfl ?_
        refine wR_if_le rfl (a := (gi mem 221 8).toInt) rfl (fun _ => ?_) (fun q => by exfalso; omega)
        refine yR_m 2 (fun _ _ _ _ => rfl) ?_
        refine wR_pi rfl mO_e mO_8 hm rfl ?_
        have hm_5 : aTm aT0 (si mem 221 8 1) := tm_si mO_e mO_8 hm (i32_b _)
        refine yR_m 2 (fun _ _ _ _ => rfl) ?_
        refine wR_pi rfl mO_e mO_9 hm_5 rfl ?_
        have hm_6 : aTm aT0 (si (si mem 221 8 1) 221 9 (gi mem 221 4)) := tm_si mO_e mO_9 hm_5 (i32_b _)
        refine yR_rv rfl ?_
        show yR zpg tX12_number (d + 3) (30, [(0, .ref 221), (1, .int lw), (2, .int hg)], [], (si (si mem 221 8 1) 221 9 (gi mem 221 4))) _
        refine yR_m 1 (fun _ _ _ _ => rfl) ?_
        refine wR_gi rfl mO_e mO_8 hm_6 ((gi_sv_ne (by decide)).trans (gi_si_eq mO_e mO_8 hm)) ?_
        refine wR_if_ne rfl (a := 1) rfl (fun _ => ?_) (fun q => by exfalso; omega)
        refine yR_m 1 (fun _ _ _ _ => rfl) ?_
        refine wR_gi rfl mO_e mO_6 hm_6 ((gi_sv_ne (by decide)).trans (gi_sv_ne (by decide))) ?_
        refine yR_m 2 (fun _ _ _ _ => rfl) ?_
        refine wR_gi rfl mO_e mO_8 hm_6 ((gi_sv_ne (by decide)).trans (gi_si_eq mO_e mO_8 hm)) ?_
        refine wR_if_ne rfl (a := 1) rfl (fun _ => ?_) (fun q => by exfalso; omega)
        refine yR_m 1 (fun _ _ _ _ => rfl) ?_
        exact yR_ri rfl (h5 q1 q2 q3 hm_6)
    ·
      refine yR_m 1 (fun _ _ _ _ => rfl) ?_
      exact yR_ri rfl (h6 q1 q2 hm)
  ·
    refine yR_m 3 (fun _ _ _ _ => rfl) ?_
    refine wR_gi rfl mO_e mO_12 hm rfl ?_
    refine wR_iv rfl rfl mO_e hm rfl rfl rfl rfl ?_
    show yR zpg tX12_blame (d + 1) (0, [(0, .ref 221), (1, .int 1), (2, .int (gi mem 221 12))], [], mem) _
    refine yR_m 1 (fun _ _ _ _ => rfl) ?_
    refine wR_gi rfl mO_e mO_8 hm rfl ?_
    refine wR_if_le rfl (a := (gi mem 221 8).toInt) rfl (fun q9 => ?_) (fun q9 => ?_)
    ·
      refine yR_m 2 (fun _ _ _ _ => rfl) ?_
      refine wR_pi rfl mO_e mO_8 hm rfl ?_
      have hm_7 : aTm aT0 (si mem 221 8 1) := tm_si mO_e mO_8 hm (i32_b _)
      refine yR_m 2 (fun _ _ _ _ => rfl) ?_
      refine wR_pi rfl mO_e mO_9 hm_7 rfl ?_
      have hm_8 : aTm aT0 (si (si mem 221 8 1) 221 9 (gi mem 221 12)) := tm_si mO_e mO_9 hm_7 (i32_b _)
      refine yR_rv rfl ?_
      show yR zpg tX12_lex (d + 2) (17, [(0, .ref 221)], [], (si (si mem 221 8 1) 221 9 (gi mem 221 12))) _
      refine yR_rv rfl ?_
      show yR zpg tX12_number (d + 3) (4, [(0, .ref 221), (1, .int lw), (2, .int hg)], [], (si (si mem 221 8 1) 221 9 (gi mem 221 12))) _
      refine yR_m 1 (fun _ _ _ _ => rfl) ?_
      refine wR_gi rfl mO_e mO_8 hm_8 ((gi_sv_ne (by decide)).trans (gi_si_eq mO_e mO_8 hm)) ?_
      refine wR_if_le rfl (a := 1) rfl (fun q => by exfalso; omega) (fun _ => ?_)
      refine yR_m 1 (fun _ _ _ _ => rfl) ?_
      exact yR_ri rfl (h7 q1 q9 hm_8)
    ·
      refine yR_rv rfl ?_
      show yR zpg tX12_lex (d + 2) (17, [(0, .ref 221)], [], mem) _
      refine yR_rv rfl ?_
      show yR zpg tX12_number (d + 3) (4, [(0, .ref 221), (1, .int lw), (2, .int hg)], [], mem) _
      refine yR_m 1 (fun _ _ _ _ => rfl) ?_
      refine wR_gi rfl mO_e mO_8 hm rfl ?_
      refine wR_if_le rfl (a := (gi mem 221 8).toInt) rfl (fun q => by exfalso; omega) (fun _ => ?_)
      refine yR_m 1 (fun _ _ _ _ => rfl) ?_
      exact yR_ri rfl (h8 q1 q9 hm)

set_option maxRecDepth 100000 in
theorem w_isCounted {d : Nat} {mem : zM} {P : Option Value → zM → Prop} {c : Int32} (hm : aTm aT0 mem) (hse : (gi mem 221 5).toInt ≤ (gi mem 221 2).toInt) (h1 : ¬ (gi mem 221 8).toInt = 0 → aTm aT0 mem → P (some (.int 0)) mem) (h2 : (gi mem 221 8).toInt = 0 → (c).toInt = 0 → ∀ (m3 : zM), aTm aT0 m3 → ahQ mem m3 → ¬ (gi m3 221 8).toInt = 0 → aTm aT0 m3 → P (some (.int 0)) m3) (h3 : (gi mem 221 8).toInt = 0 → (c).toInt = 0 → ∀ (m3 : zM), aTm aT0 m3 → ahQ mem m3 → (gi m3 221 8).toInt = 0 → aTm aT0 m3 → P (some (.int 1)) m3) (h4 : (gi mem 221 8).toInt = 0 → ¬ (c).toInt = 0 → aTm aT0 (si (si mem 221 8 6) 221 9 (gi mem 221 4)) → P (some (.int 0)) (si (si mem 221 8 6) 221 9 (gi mem 221 4))) : yR zpg tX12_isCounted (d + 3) (0, [(0, .ref 221), (1, .int c)], [], mem) P := by
  refine yR_m 1 (fun _ _ _ _ => rfl) ?_
  refine wR_gi rfl mO_e mO_8 hm rfl ?_
  refine wR_if_ne rfl (a := (gi mem 221 8).toInt) rfl (fun q1 => ?_) (fun q1 => ?_)
  ·
    refine yR_m 1 (fun _ _ _ _ => rfl) ?_
    refine wR_gi rfl mO_e mO_8 hm rfl ?_
    refine wR_if_ne rfl (a := (gi mem 221 8).toInt) rfl (fun _ => ?_) (fun q => by exfalso; omega)
    refine yR_m 1 (fun _ _ _ _ => rfl) ?_
    refine wR_gi rfl mO_e mO_8 hm rfl ?_
    refine wR_if_ne rfl (a := (gi mem 221 8).toInt) rfl (fun _ => ?_) (fun q => by exfalso; omega)
    refine yR_m 1 (fun _ _ _ _ => rfl) ?_
    exact yR_rz rfl ⟨by decide, by decide⟩ (h1 q1 hm)
  ·
    refine yR_m 1 (fun _ _ _ _ => rfl) ?_
    refine wR_if_eq rfl (a := (c).toInt) rfl (fun q2 => ?_) (fun q2 => ?_)
    ·
      refine yR_m 1 (fun _ _ _ _ => rfl) ?_
      refine wR_gi rfl mO_e mO_8 hm rfl ?_
      refine wR_if_ne rfl (a := (gi mem 221 8).toInt) rfl (fun q => by exfalso; omega) (fun _ => ?_)
      refine yR_m 1 (fun _ _ _ _ => rfl) ?_
      refine wR_cv rfl rfl mO_e hm rfl (h_ahead2 (by omega) hm rfl rfl (by omega)) ?_
      rintro _ m3 ⟨rfl, hI3, k4⟩
      show yR zpg tX12_isCounted (d + 3) (32, [(0, .ref 221), (1, .int c)], [], m3) _
      refine yR_m 1 (fun _ _ _ _ => rfl) ?_
      refine wR_gi rfl mO_e mO_8 hI3 rfl ?_
      refine wR_if_ne rfl (a := (gi m3 221 8).toInt) rfl (fun q5 => ?_) (fun q5 => ?_)
      ·
        refine yR_m 1 (fun _ _ _ _ => rfl) ?_
        exact yR_rz rfl ⟨by decide, by decide⟩ (h2 q1 q2 m3 hI3 k4 q5 hI3)
      ·
        refine yR_m 2 (fun _ _ _ _ => rfl) ?_
        exact yR_rz rfl ⟨by decide, by decide⟩ (h3 q1 q2 m3 hI3 k4 q5 hI3)
    ·
      refine yR_m 3 (fun _ _ _ _ => rfl) ?_
      refine wR_gi rfl mO_e mO_4 hm rfl ?_
      refine wR_iv rfl rfl mO_e hm rfl rfl rfl rfl ?_
      show yR zpg tX12_blame (d + 2) (0, [(0, .ref 221), (1, .int 6), (2, .int (gi mem 221 4))], [], mem) _
      refine yR_m 1 (fun _ _ _ _ => rfl) ?_
      refine wR_gi rfl mO_e mO_8 hm rfl ?_
      refine wR_if_le rfl (a := (gi mem 221 8).toInt) rfl (fun _ => ?_) (fun q => by exfalso; omega)
      refine yR_m 2 (fun _ _ _ _ => rfl) ?_
      refine wR_pi rfl mO_e mO_8 hm rfl ?_
      have hm_1 : aTm aT0 (si mem 221 8 6) := tm_si mO_e mO_8 hm (i32_b _)
      refine yR_m 2 (fun _ _ _ _ => rfl) ?_
      refine wR_pi rfl mO_e mO_9 hm_1 rfl ?_
      have hm_2 : aTm aT0 (si (si mem 221 8 6) 221 9 (gi mem 221 4)) := tm_si mO_e mO_9 hm_1 (i32_b _)
      refine yR_rv rfl ?_
      show yR zpg tX12_isCounted (d + 3) (21, [(0, .ref 221), (1, .int c)], [], (si (si mem 221 8 6) 221 9 (gi mem 221 4))) _
      refine yR_m 1 (fun _ _ _ _ => rfl) ?_
      refine wR_gi rfl mO_e mO_8 hm_2 ((gi_sv_ne (by decide)).trans (gi_si_eq mO_e mO_8 hm)) ?_
      refine wR_if_ne rfl (a := 6) rfl (fun _ => ?_) (fun q => by exfalso; omega)
      refine yR_m 1 (fun _ _ _ _ => rfl) ?_
      refine wR_gi rfl mO_e mO_8 hm_2 ((gi_sv_ne (by decide)).trans (gi_si_eq mO_e mO_8 hm)) ?_
      refine wR_if_ne rfl (a := 6) rfl (fun _ => ?_) (fun q => by exfalso; omega)
      refine yR_m 1 (fun _ _ _ _ => rfl) ?_
      exact yR_rz rfl ⟨by decide, by decide⟩ (h4 q1 q2 hm_2)

set_option maxRecDepth 100000 in
theorem w_isOwn {d : Nat} {mem : zM} {P : Option Value → zM → Prop} {w : Int64} (hm : aTm aT0 mem) (h1 : aTm aT0 mem → P (some (.int 1)) mem) (h2 : aTm aT0 mem → P (some (.int 0)) mem) : yR zpg tX12_isOwn d (0, [(0, .ref 221), (1, .long w)], [], mem) P := by
  refine yR_m 3 (fun _ _ _ _ => rfl) ?_
  refine wR_lf_eq rfl (fun q1 => ?_) (fun q1 => ?_)
  ·
    refine yR_m 1 (fun _ _ _ _ => rfl) ?_
    exact yR_rz rfl ⟨by decide, by decide⟩ (h1 hm)
  ·
    refine yR_m 3 (fun _ _ _ _ => rfl) ?_
    refine wR_lf_eq rfl (fun q2 => ?_) (fun q2 => ?_)
    ·
      refine yR_m 1 (fun _ _ _ _ => rfl) ?_
      exact yR_rz rfl ⟨by decide, by decide⟩ (h1 hm)
    ·
      refine yR_m 3 (fun _ _ _ _ => rfl) ?_
      refine wR_lf_eq rfl (fun q3 => ?_) (fun q3 => ?_)
      ·
        refine yR_m 1 (fun _ _ _ _ => rfl) ?_
        exact yR_rz rfl ⟨by decide, by decide⟩ (h1 hm)
      ·
        refine yR_m 3 (fun _ _ _ _ => rfl) ?_
        refine wR_lf_eq rfl (fun q4 => ?_) (fun q4 => ?_)
        ·
          refine yR_m 1 (fun _ _ _ _ => rfl) ?_
          exact yR_rz rfl ⟨by decide, by decide⟩ (h1 hm)
        ·
          refine yR_m 3 (fun _ _ _ _ => rfl) ?_
          refine wR_lf_ne rfl (fun q5 => ?_) (fun q5 => ?_)
          ·
            refine yR_m 3 (fun _ _ _ _ => rfl) ?_
            refine wR_lf_eq rfl (fun q6 => ?_) (fun q6 => ?_)
            ·
              refine yR_m 1 (fun _ _ _ _ => rfl) ?_
              exact yR_rz rfl ⟨by decide, by decide⟩ (h1 hm)
            ·
              refine yR_m 3 (fun _ _ _ _ => rfl) ?_
              refine wR_lf_eq rfl (fun q7 => ?_) (fun q7 => ?_)
              ·
                refine yR_m 1 (fun _ _ _ _ => rfl) ?_
                exact yR_rz rfl ⟨by decide, by decide⟩ (h1 hm)
              ·
                refine yR_m 3 (fun _ _ _ _ => rfl) ?_
                refine wR_lf_eq rfl (fun q8 => ?_) (fun q8 => ?_)
                ·
                  refine yR_m 1 (fun _ _ _ _ => rfl) ?_
                  exact yR_rz rfl ⟨by decide, by decide⟩ (h1 hm)
                ·
                  refine yR_m 3 (fun _ _ _ _ => rfl) ?_
                  refine wR_lf_eq rfl (fun q9 => ?_) (fun q9 => ?_)
                  ·
                    refine yR_m 1 (fun _ _ _ _ => rfl) ?_
                    exact yR_rz rfl ⟨by decide, by decide⟩ (h1 hm)
                  ·
                    refine yR_m 3 (fun _ _ _ _ => rfl) ?_
                    refine wR_lf_ne rfl (fun q10 => ?_) (fun q10 => ?_)
                    ·
                      refine yR_m 3 (fun _ _ _ _ => rfl) ?_
                      refine wR_lf_eq rfl (fun q11 => ?_) (fun q11 => ?_)
                      ·
                        refine yR_m 1 (fun _ _ _ _ => rfl) ?_
                        exact yR_rz rfl ⟨by decide, by decide⟩ (h1 hm)
                      ·
                        refine yR_m 3 (fun _ _ _ _ => rfl) ?_
                        refine wR_lf_eq rfl (fun q12 => ?_) (fun q12 => ?_)
                        ·
                          refine yR_m 1 (fun _ _ _ _ => rfl) ?_
                          exact yR_rz rfl ⟨by decide, by decide⟩ (h1 hm)
                        ·
                          refine yR_m 3 (fun _ _ _ _ => rfl) ?_
                          refine wR_lf_eq rfl (fun q13 => ?_) (fun q13 => ?_)
                          ·
                            refine yR_m 1 (fun _ _ _ _ => rfl) ?_
                            exact yR_rz rfl ⟨by decide, by decide⟩ (h1 hm)
                          ·
                            refine yR_m 3 (fun _ _ _ _ => rfl) ?_
                            refine wR_lf_eq rfl (fun q14 => ?_) (fun q14 => ?_)
                            ·
                              refine yR_m 1 (fun _ _ _ _ => rfl) ?_
                              exact yR_rz rfl ⟨by decide, by decide⟩ (h1 hm)
                            ·
                              refine yR_m 3 (fun _ _ _ _ => rfl) ?_
                              refine wR_lf_ne rfl (fun q15 => ?_) (fun q15 => ?_)
                              ·
                                refine yR_m 3 (fun _ _ _ _ => rfl) ?_
                                refine wR_lf_eq rfl (fun q16 => ?_) (fun q16 => ?_)
                                ·
                                  refine yR_m 1 (fun _ _ _ _ => rfl) ?_
                                  exact yR_rz rfl ⟨by decide, by decide⟩ (h1 hm)
                                ·
                                  refine yR_m 3 (fun _ _ _ _ => rfl) ?_
                                  refine wR_lf_eq rfl (fun q17 => ?_) (fun q17 => ?_)
                                  ·
                                    refine yR_m 1 (fun _ _ _ _ => rfl) ?_
                                    exact yR_rz rfl ⟨by decide, by decide⟩ (h1 hm)
                                  ·
                                    refine yR_m 3 (fun _ _ _ _ => rfl) ?_
                                    refine wR_lf_eq rfl (fun q18 => ?_) (fun q18 => ?_)
                                    ·
                                      refine yR_m 1 (fun _ _ _ _ => rfl) ?_
                                      exact yR_rz rfl ⟨by decide, by decide⟩ (h1 hm)
                                    ·
                                      refine yR_m 3 (fun _ _ _ _ => rfl) ?_
                                      refine wR_lf_eq rfl (fun q19 => ?_) (fun q19 => ?_)
                                      ·
                                        refine yR_m 1 (fun _ _ _ _ => rfl) ?_
                                        exact yR_rz rfl ⟨by decide, by decide⟩ (h1 hm)
                                      ·
                                        refine yR_m 3 (fun _ _ _ _ => rfl) ?_
                                        refine wR_lf_ne rfl (fun q20 => ?_) (fun q20 => ?_)
                                        ·
                                          refine yR_m 3 (fun _ _ _ _ => rfl) ?_
                                          refine wR_lf_eq rfl (fun q21 => ?_) (fun q21 => ?_)
                                          ·
                                            refine yR_m 1 (fun _ _ _ _ => rfl) ?_
                                            exact yR_rz rfl ⟨by decide, by decide⟩ (h1 hm)
                                          ·
                                            refine yR_m 3 (fun _ _ _ _ => rfl) ?_
                                            refine wR_lf_eq rfl (fun q22 => ?_) (fun q22 => ?_)
                                            ·
                                              refine yR_m 1 (fun _ _ _ _ => rfl) ?_
                                              exact yR_rz rfl ⟨by decide, by decide⟩ (h1 hm)
                                            ·
                                              refine yR_m 3 (fun _ _ _ _ => rfl) ?_
                                              refine wR_lf_eq rfl (fun q23 => ?_) (fun q23 => ?_)
                                              ·
                                                refine yR_m 1 (fun _ _ _ _ => rfl) ?_
                                                exact yR_rz rfl ⟨by decide, by decide⟩ (h1 hm)
                                              ·
                                                refine yR_m 3 (fun _ _ _ _ => rfl) ?_
                                                refine wR_lf_eq rfl (fun q24 => ?_) (fun q24 => ?_)
                                                ·
                                                  refine yR_m 1 (fun _ _ _ _ => rfl) ?_
                                                  exact yR_rz rfl ⟨by decide, by decide⟩ (h1 hm)
                                                ·
                                                  refine yR_m 3 (fun _ _ _ _ => rfl) ?_
                                                  refine wR_lf_ne rfl (fun q25 => ?_) (fun q25 => ?_)
                                                  ·
                                                    refine yR_m 3 (fun _ _ _ _ => rfl) ?_
                                                    refine wR_lf_ne rfl (fun q26 => ?_) (fun q26 => ?_)
                                                    ·
                                                      refine yR_m 1 (fun _ _ _ _ => rfl) ?_
                                                      exact yR_rz rfl ⟨by decide, by decide⟩ (h2 hm)
                                                    ·
                                                      refine yR_m 1 (fun _ _ _ _ => rfl) ?_
                                                      exact yR_rz rfl ⟨by decide, by decide⟩ (h1 hm)
                                                  ·
                                                    refine yR_m 1 (fun _ _ _ _ => rfl) ?_
                                                    exact yR_rz rfl ⟨by decide, by decide⟩ (h1 hm)
                                        ·
                                          refine yR_m 1 (fun _ _ _ _ => rfl) ?_
                                          exact yR_rz rfl ⟨by decide, by decide⟩ (h1 hm)
                              ·
                                refine yR_m 1 (fun _ _ _ _ => rfl) ?_
                                exact yR_rz rfl ⟨by decide, by decide⟩ (h1 hm)
                    ·
                      refine yR_m 1 (fun _ _ _ _ => rfl) ?_
                      exact yR_rz rfl ⟨by decide, by decide⟩ (h1 hm)
          ·
            refine yR_m 1 (fun _ _ _ _ => rfl) ?_
            exact yR_rz rfl ⟨by decide, by decide⟩ (h1 hm)

section TK
variable {d : Nat} {mem : zM}
theorem h_must (hm : aTm aT0 mem) (hT : tOK mem) (hd : 4 ≤ d) {c : Int32} : yC zpg d 176 [.ref 221, .int c] mem (fun r m => r = none ∧ aTm aT0 m ∧ tQ mem m) := by
  obtain ⟨d, rfl⟩ : ∃ q, d = q + 4 := ⟨d - 4, by omega⟩
  have hT0 := hT.1.1
  have hT8 : 0 ≤ (gi mem 221 8).toInt := hT.2
  refine yC_of (t := tX12_must) rfl rfl ?_
  exact w_must hm (by omega)
        (fun q1 q2 q3 hm2 => ⟨rfl, hm2, tQ_f (fr_sv rfl (fr_sv rfl (fr_rf))) hT (by show 1 ≤ (gi (si (si mem 221 8 1) 221 9 (gi mem 221 4)) 221 8).toInt; rw [((gi_sv_ne (by decide)).trans (gi_eqO (isO_of hm) (by decide)))]; decide)⟩)
        (fun q1 q2 q3 hm2 => ⟨rfl, hm2, tQ_f fr_rf hT (by show 1 ≤ (gi mem 221 8).toInt; omega)⟩)
        (fun q1 q2 q4 q5 hm2 => ⟨rfl, hm2, tQ_f (fr_sv rfl (fr_sv rfl (fr_rf))) hT (by show 1 ≤ (gi (si (si mem 221 8 1) 221 9 (gi mem 221 4)) 221 8).toInt; rw [((gi_sv_ne (by decide)).trans (gi_eqO (isO_of hm) (by decide)))]; decide)⟩)
        (fun q1 q2 q4 q5 hm2 => ⟨rfl, hm2, tQ_f fr_rf hT (by show 1 ≤ (gi mem 221 8).toInt; omega)⟩)
        (fun q1 q2 q4 q6 hm2 => ⟨rfl, hm2, tQ_f fr_rf hT (by show 1 ≤ (gi mem 221 8).toInt; omega)⟩)
        (fun q1 q2 q4 q6 m7 hI7 k8 hm2 => ⟨rfl, hm2, tQ_a fr_rf hT hT.2 id (fun _ => by omega) k8⟩)
        (fun q1 q9 q10 hm2 => ⟨rfl, hm2, tQ_f (fr_sv rfl (fr_sv rfl (fr_rf))) hT (by show 1 ≤ (gi (si (si mem 221 8 1) 221 9 (gi mem 221 12)) 221 8).toInt; rw [((gi_sv_ne (by decide)).trans (gi_eqO (isO_of hm) (by decide)))]; decide)⟩)
        (fun q1 q9 q10 q11 hm2 => ⟨rfl, hm2, tQ_f (fr_sv rfl (fr_sv rfl (fr_rf))) hT (by show 1 ≤ (gi (si (si mem 221 8 1) 221 9 (gi mem 221 12)) 221 8).toInt; rw [((gi_sv_ne (by decide)).trans (gi_eqO (isO_of hm) (by decide)))]; decide)⟩)
        (fun q1 q9 q10 q11 hm2 => ⟨rfl, hm2, tQ_f (fr_sv rfl (fr_sv rfl (fr_rf))) hT (by show 1 ≤ (gi (si (si mem 221 8 1) 221 9 (gi mem 221 12)) 221 8).toInt; rw [((gi_sv_ne (by decide)).trans (gi_eqO (isO_of hm) (by decide)))]; decide)⟩)
        (fun q1 q9 q12 hm2 => ⟨rfl, hm2, tQ_f fr_rf hT (by show 1 ≤ (gi mem 221 8).toInt; omega)⟩)
        (fun q1 q9 q12 q13 hm2 => ⟨rfl, hm2, tQ_f fr_rf hT (by show 1 ≤ (gi mem 221 8).toInt; omega)⟩)
        (fun q1 q9 q12 q13 hm2 => ⟨rfl, hm2, tQ_f fr_rf hT (by show 1 ≤ (gi mem 221 8).toInt; omega)⟩)
theorem h_must_ (hm : aTm aT0 mem) (hT : tOK mem) (hd : 4 ≤ d) {c : Int64} : yC zpg d 192 [.ref 221, .long c] mem (fun r m => r = none ∧ aTm aT0 m ∧ tQ mem m) := by
  obtain ⟨d, rfl⟩ : ∃ q, d = q + 4 := ⟨d - 4, by omega⟩
  have hT0 := hT.1.1
  have hT8 : 0 ≤ (gi mem 221 8).toInt := hT.2
  refine yC_of (t := tX12_must_) rfl rfl ?_
  exact w_must_ hm (by omega)
        (fun q1 q2 q3 hm2 => ⟨rfl, hm2, tQ_f (fr_sv rfl (fr_sv rfl (fr_rf))) hT (by show 1 ≤ (gi (si (si mem 221 8 1) 221 9 (gi mem 221 4)) 221 8).toInt; rw [((gi_sv_ne (by decide)).trans (gi_eqO (isO_of hm) (by decide)))]; decide)⟩)
        (fun q1 q2 q3 q4 hm2 => ⟨rfl, hm2, tQ_f (fr_sv rfl (fr_sv rfl (fr_rf))) hT (by show 1 ≤ (gi (si (si mem 221 8 1) 221 9 (gi mem 221 4)) 221 8).toInt; rw [((gi_sv_ne (by decide)).trans (gi_eqO (isO_of hm) (by decide)))]; decide)⟩)
        (fun q1 q2 q3 q4 q5 hm2 => ⟨rfl, hm2, tQ_f fr_rf hT (by show 1 ≤ (gi mem 221 8).toInt; omega)⟩)
        (fun q1 q2 q3 q4 q5 m6 hI6 k7 hm2 => ⟨rfl, hm2, tQ_a fr_rf hT hT.2 id (fun _ => by omega) k7⟩)
        (fun q1 q2 hm2 => ⟨rfl, hm2, tQ_f fr_rf hT (by show 1 ≤ (gi mem 221 8).toInt; omega)⟩)
        (fun q1 q8 hm2 => ⟨rfl, hm2, tQ_f (fr_sv rfl (fr_sv rfl (fr_rf))) hT (by show 1 ≤ (gi (si (si mem 221 8 1) 221 9 (gi mem 221 12)) 221 8).toInt; rw [((gi_sv_ne (by decide)).trans (gi_eqO (isO_of hm) (by decide)))]; decide)⟩)
        (fun q1 q8 hm2 => ⟨rfl, hm2, tQ_f fr_rf hT (by show 1 ≤ (gi mem 221 8).toInt; omega)⟩)
theorem h_number (hm : aTm aT0 mem) (hT : tOK mem) (hd : 4 ≤ d) {lw hg : Int32} : yC zpg d 180 [.ref 221, .int lw, .int hg] mem (fun r m => ∃ v : Int32, r = some (.int v) ∧ aTm aT0 m ∧ tQ mem m ∧ (fk m = 0 → lw.toInt ≤ v.toInt ∧ v.toInt ≤ hg.toInt)) := by
  obtain ⟨d, rfl⟩ : ∃ q, d = q + 4 := ⟨d - 4, by omega⟩
  have hT0 := hT.1.1
  have hT8 : 0 ≤ (gi mem 221 8).toInt := hT.2
  refine yC_of (t := tX12_number) rfl rfl ?_
  exact w_number hm (by omega)
        (fun q1 q2 q3 q4 hm2 => ⟨_, rfl, hm2, tQ_f fr_rf hT (by show 1 ≤ (gi mem 221 8).toInt; omega), fun q => by have q : (gi mem 221 8).toInt = 0 := q; exfalso; omega⟩)
        (fun q1 q2 q3 q4 q5 hm2 => ⟨_, rfl, hm2, tQ_f (fr_sv rfl (fr_sv rfl (fr_rf))) hT (by show 1 ≤ (gi (si (si mem 221 8 4) 221 9 (gi mem 221 4)) 221 8).toInt; rw [((gi_sv_ne (by decide)).trans (gi_eqO (isO_of hm) (by decide)))]; decide), fun q => by have q : (gi (si (si mem 221 8 4) 221 9 (gi mem 221 4)) 221 8).toInt = 0 := q; rw [((gi_sv_ne (by decide)).trans (gi_eqO (isO_of hm) (by decide)))] at q; exact absurd q (by decide)⟩)
        (fun q1 q2 q3 q4 q5 q6 hm2 => ⟨_, rfl, hm2, tQ_f (fr_sv rfl (fr_sv rfl (fr_rf))) hT (by show 1 ≤ (gi (si (si mem 221 8 4) 221 9 (gi mem 221 4)) 221 8).toInt; rw [((gi_sv_ne (by decide)).trans (gi_eqO (isO_of hm) (by decide)))]; decide), fun q => by have q : (gi (si (si mem 221 8 4) 221 9 (gi mem 221 4)) 221 8).toInt = 0 := q; rw [((gi_sv_ne (by decide)).trans (gi_eqO (isO_of hm) (by decide)))] at q; exact absurd q (by decide)⟩)
        (fun q1 q2 q3 q4 q5 q6 m7 hI7 k8 hm2 => ⟨_, rfl, hm2, tQ_a fr_rf hT hT.2 id (fun _ => by omega) k8, fun _ => by omega⟩)
        (fun q1 q2 q3 hm2 => ⟨_, rfl, hm2, tQ_f (fr_sv rfl (fr_sv rfl (fr_rf))) hT (by show 1 ≤ (gi (si (si mem 221 8 1) 221 9 (gi mem 221 4)) 221 8).toInt; rw [((gi_sv_ne (by decide)).trans (gi_eqO (isO_of hm) (by decide)))]; decide), fun q => by have q : (gi (si (si mem 221 8 1) 221 9 (gi mem 221 4)) 221 8).toInt = 0 := q; rw [((gi_sv_ne (by decide)).trans (gi_eqO (isO_of hm) (by decide)))] at q; exact absurd q (by decide)⟩)
        (fun q1 q2 hm2 => ⟨_, rfl, hm2, tQ_f fr_rf hT (by show 1 ≤ (gi mem 221 8).toInt; omega), fun q => by have q : (gi mem 221 8).toInt = 0 := q; exfalso; omega⟩)
        (fun q1 q9 hm2 => ⟨_, rfl, hm2, tQ_f (fr_sv rfl (fr_sv rfl (fr_rf))) hT (by show 1 ≤ (gi (si (si mem 221 8 1) 221 9 (gi mem 221 12)) 221 8).toInt; rw [((gi_sv_ne (by decide)).trans (gi_eqO (isO_of hm) (by decide)))]; decide), fun q => by have q : (gi (si (si mem 221 8 1) 221 9 (gi mem 221 12)) 221 8).toInt = 0 := q; rw [((gi_sv_ne (by decide)).trans (gi_eqO (isO_of hm) (by decide)))] at q; exact absurd q (by decide)⟩)
        (fun q1 q9 hm2 => ⟨_, rfl, hm2, tQ_f fr_rf hT (by show 1 ≤ (gi mem 221 8).toInt; omega), fun q => by have q : (gi mem 221 8).toInt = 0 := q; exfalso; omega⟩)
theorem h_isCounted (hm : aTm aT0 mem) (hT : tOK mem) (hs : ¬ (gi mem 221 3).toInt = 0) (hd : 4 ≤ d) {c : Int32} : yC zpg d 191 [.ref 221, .int c] mem (fun r m => ∃ v : Int32, r = some (.int v) ∧ aTm aT0 m ∧ tQ mem m ∧ isB v (fk m = 0) ∧ (fk m = 0 → c.toInt = 0)) := by
  obtain ⟨d, rfl⟩ : ∃ q, d = q + 4 := ⟨d - 4, by omega⟩
  have hT0 := hT.1.1
  have hT8 : 0 ≤ (gi mem 221 8).toInt := hT.2
  refine yC_of (t := tX12_isCounted) rfl rfl ?_
  exact w_isCounted hm (by omega)
        (fun q1 hm2 => ⟨_, rfl, hm2, tQ_f fr_rf hT (by show 1 ≤ (gi mem 221 8).toInt; omega), Or.inr ⟨rfl, fun q => by have q : (gi mem 221 8).toInt = 0 := q; exfalso; omega⟩, fun q => absurd q (fun q => by have q : (gi mem 221 8).toInt = 0 := q; exfalso; omega)⟩)
        (fun q1 q2 m3 hI3 k4 q5 hm2 => ⟨_, rfl, hm2, tQ_a fr_rf hT hT.2 id (fun _ => by omega) k4, by have E8 := (show (gi m3 221 8).toInt = (gi mem 221 8).toInt by rw [fr_gi k4.1 rfl]); exfalso; omega, fun _ => by omega⟩)
        (fun q1 q2 m3 hI3 k4 q5 hm2 => ⟨_, rfl, hm2, tQ_a fr_rf hT hT.2 id (fun _ => by omega) k4, Or.inl ⟨rfl, by have E8 := (show (gi m3 221 8).toInt = (gi mem 221 8).toInt by rw [fr_gi k4.1 rfl]); show (gi m3 221 8).toInt = 0; omega⟩, fun _ => by omega⟩)
        (fun q1 q2 hm2 => ⟨_, rfl, hm2, tQ_f (fr_sv rfl (fr_sv rfl (fr_rf))) hT (by show 1 ≤ (gi (si (si mem 221 8 6) 221 9 (gi mem 221 4)) 221 8).toInt; rw [((gi_sv_ne (by decide)).trans (gi_eqO (isO_of hm) (by decide)))]; decide), Or.inr ⟨rfl, fun q => by have q : (gi (si (si mem 221 8 6) 221 9 (gi mem 221 4)) 221 8).toInt = 0 := q; rw [((gi_sv_ne (by decide)).trans (gi_eqO (isO_of hm) (by decide)))] at q; exact absurd q (by decide)⟩, fun q => absurd q (fun q => by have q : (gi (si (si mem 221 8 6) 221 9 (gi mem 221 4)) 221 8).toInt = 0 := q; rw [((gi_sv_ne (by decide)).trans (gi_eqO (isO_of hm) (by decide)))] at q; exact absurd q (by decide))⟩)
theorem c_isOwn (hm : aTm aT0 mem) (hd : 1 ≤ d) {w : Int64} : yC zpg d 177 [.ref 221, .long w] mem (fun r m => ∃ v : Int32, r = some (.int v) ∧ mem = m ∧ True) := by
  obtain ⟨d, rfl⟩ : ∃ q, d = q + 1 := ⟨d - 1, by omega⟩
  refine yC_of (t := tX12_isOwn) rfl rfl ?_
  exact w_isOwn hm (fun _ => ⟨_, rfl, rfl, trivial⟩) (fun _ => ⟨_, rfl, rfl, trivial⟩)
end TK
set_option maxRecDepth 100000 in
theorem w_tn_0 {d : Nat} {mem : zM} {P : Option Value → zM → Prop} {w : Int64} {lo : List (Nat × Value)} (hm : aTm aT0 mem) (l_0 : zlg lo 0 = some (.ref 221)) (l_1 : zlg lo 1 = some (.long w)) (h1 : ∀ lo, zlg lo 0 = some (.ref 221) → zlg lo 1 = some (.long w) → zlg lo 3 = some (.int 0) → aTm aT0 mem → yR zpg tX12_thingNamed d (2, lo, [], mem) P) : yR zpg tX12_thingNamed d (0, lo, [], mem) P := by
  refine yR_m 1 (fun _ _ _ _ => rfl) ?_
  refine wR_si rfl rfl (fun lo1 e2 f3 => ?_)
  have lo1_0 := f3 0 _ (by decide) (Or.inl rfl) l_0
  have lo1_1 := f3 1 _ (by decide) (Or.inr (by decide)) l_1
  exact h1 lo1 lo1_0 lo1_1 e2 hm

set_option maxRecDepth 100000 in
theorem w_tn_2 {d : Nat} {mem : zM} {P : Option Value → zM → Prop} {w : Int64} {k : Int32} {lo : List (Nat × Value)} (hm : aTm aT0 mem) (l_0 : zlg lo 0 = some (.ref 221)) (l_1 : zlg lo 1 = some (.long w)) (l_3 : zlg lo 3 = some (.int k)) (hk : 0 ≤ k.toInt ∧ k.toInt ≤ 9) (h1 : ∀ (y1 : Int32), y1.toInt = (gn (ga mem 228) (gi mem 221 34).toInt) → (gn (ga mem 228) (gi mem 221 34).toInt) ≤ (k).toInt → aTm aT0 mem → P (some (.int (-1))) mem) (h2 : ∀ (y1 : Int32), y1.toInt = (gn (ga mem 228) (gi mem 221 34).toInt) → (k).toInt < (gn (ga mem 228) (gi mem 221 34).toInt) → ∀ (x4 : Int32), x4.toInt = (9 * (gi mem 221 34).toInt) → ∀ (x6 : Int32), x6.toInt = ((9 * (gi mem 221 34).toInt) + (k).toInt) → ¬ ((gA mem 240).getD (((9 * (gi mem 221 34).toInt) + (k).toInt) : Int).toNat 0) = w → ∀ (x9 : Int32), x9.toInt = ((k).toInt + 1) → ∀ lo, zlg lo 0 = some (.ref 221) → zlg lo 1 = some (.long w) → zlg lo 3 = some (.int x9) → aTm aT0 mem → yR zpg tX12_thingNamed d (2, lo, [], mem) P) (h3 : ∀ (y1 : Int32), y1.toInt = (gn (ga mem 228) (gi mem 221 34).toInt) → (k).toInt < (gn (ga mem 228) (gi mem 221 34).toInt) → ∀ (x4 : Int32), x4.toInt = (9 * (gi mem 221 34).toInt) → ∀ (x6 : Int32), x6.toInt = ((9 * (gi mem 221 34).toInt) + (k).toInt) → ((gA mem 240).getD (((9 * (gi mem 221 34).toInt) + (k).toInt) : Int).toNat 0) = w → aTm aT0 mem → P (some (.int k)) mem) : yR zpg tX12_thingNamed d (2, lo, [], mem) P := by
  obtain ⟨i0, i1⟩ := mO_r34 hm
  have th := gR_228 hm (i := (gi mem 221 34).toInt) i0 (by omega)
  refine wR_li rfl l_3 ?_
  refine wR_la rfl l_0 ?_
  refine wR_gr rfl mO_e mO_19 hm ?_
  refine wR_la rfl l_0 ?_
  refine wR_gi rfl mO_e mO_34 hm rfl ?_
  refine wN_al (a := (gi mem 221 34).toInt) rfl aR_228 hm rfl rfl (by omega) (fun y1 e2 => ?_)
  refine wR_ic_ge rfl (a := (k).toInt) (c := (gn (ga mem 228) (gi mem 221 34).toInt)) rfl e2 (fun q3 => ?_) (fun q3 => ?_)
  ·
    refine yR_m 1 (fun _ _ _ _ => rfl) ?_
    exact yR_ri rfl (h1 y1 e2 q3 hm)
  ·
    refine wR_la rfl l_0 ?_
    refine wR_gr rfl mO_e mO_31 hm ?_
    refine yR_m 1 (fun _ _ _ _ => rfl) ?_
    refine wR_la rfl l_0 ?_
    refine wR_gi rfl mO_e mO_34 hm rfl ?_
    refine wN_mul (a := 9) (b := (gi mem 221 34).toInt) rfl rfl rfl (by omega) (fun x4 e5 => ?_)
    refine wR_li rfl l_3 ?_
    refine wN_add (a := (9 * (gi mem 221 34).toInt)) (b := (k).toInt) rfl e5 rfl (by omega) (fun x6 e7 => ?_)
    refine wN_ll (a := ((9 * (gi mem 221 34).toInt) + (k).toInt)) rfl aR_240 hm rfl e7 (by omega) ?_
    refine wR_ll4 rfl l_1 ?_
    refine yR_m 1 (fun _ _ _ _ => rfl) ?_
    refine wR_lf_ne rfl (fun q8 => ?_) (fun q8 => ?_)
    ·
      refine wN_in (a := (k).toInt) (b := 1) rfl rfl l_3 rfl rfl (by omega) (fun x9 e10 => fun lo11 e12 f13 => ?_)
      have lo11_0 := f13 0 _ (by decide) (Or.inl rfl) l_0
      have lo11_1 := f13 1 _ (by decide) (Or.inr (by decide)) l_1
      exact yR_m 1 (fun _ _ _ _ => rfl) (h2 y1 e2 q3 x4 e5 x6 e7 q8 x9 e10 lo11 lo11_0 lo11_1 e12 hm)
    ·
      refine wR_li rfl l_3 ?_
      exact yR_ri rfl (h3 y1 e2 q3 x4 e5 x6 e7 q8 hm)

set_option maxRecDepth 100000 in
theorem w_iw_0 {d : Nat} {mem : zM} {P : Option Value → zM → Prop} {c : Int32} {lo : List (Nat × Value)} (hm : aTm aT0 mem) (l_0 : zlg lo 0 = some (.ref 221)) (l_1 : zlg lo 1 = some (.int c)) (h1 : ∀ lo, zlg lo 0 = some (.ref 221) → zlg lo 1 = some (.int c) → zlg lo 2 = some (.int 0) → aTm aT0 mem → yR zpg tX12_isInTheWay d (2, lo, [], mem) P) : yR zpg tX12_isInTheWay d (0, lo, [], mem) P := by
  refine yR_m 1 (fun _ _ _ _ => rfl) ?_
  refine wR_si rfl rfl (fun lo1 e2 f3 => ?_)
  have lo1_0 := f3 0 _ (by decide) (Or.inl rfl) l_0
  have lo1_1 := f3 1 _ (by decide) (Or.inl rfl) l_1
  exact h1 lo1 lo1_0 lo1_1 e2 hm

set_option maxRecDepth 100000 in
theorem w_iw_2 {d : Nat} {mem : zM} {P : Option Value → zM → Prop} {c k : Int32} {lo : List (Nat × Value)} (hm : aTm aT0 mem) (l_0 : zlg lo 0 = some (.ref 221)) (l_1 : zlg lo 1 = some (.int c)) (l_2 : zlg lo 2 = some (.int k)) (hk : 0 ≤ k.toInt ∧ k.toInt ≤ 9) (h1 : ∀ (y1 : Int32), y1.toInt = (gn (ga mem 228) (gi mem 221 34).toInt) → (gn (ga mem 228) (gi mem 221 34).toInt) ≤ (k).toInt → ∀ lo, zlg lo 0 = some (.ref 221) → zlg lo 1 = some (.int c) → zlg lo 2 = some (.int 0) → aTm aT0 mem → yR zpg tX12_isInTheWay d (43, lo, [], mem) P) (h2 : ∀ (y1 : Int32), y1.toInt = (gn (ga mem 228) (gi mem 221 34).toInt) → (k).toInt < (gn (ga mem 228) (gi mem 221 34).toInt) → ∀ (x7 : Int32), x7.toInt = (9 * (gi mem 221 34).toInt) → ∀ (x9 : Int32), x9.toInt = ((9 * (gi mem 221 34).toInt) + (k).toInt) → ∀ (y11 : Int32), y11.toInt = (gn (ga mem 229) ((9 * (gi mem 221 34).toInt) + (k).toInt)) → ¬ (gn (ga mem 229) ((9 * (gi mem 221 34).toInt) + (k).toInt)) = (c).toInt → ∀ (x14 : Int32), x14.toInt = ((k).toInt + 1) → ∀ lo, zlg lo 0 = some (.ref 221) → zlg lo 1 = some (.int c) → zlg lo 2 = some (.int x14) → aTm aT0 mem → yR zpg tX12_isInTheWay d (2, lo, [], mem) P) (h3 : ∀ (y1 : Int32), y1.toInt = (gn (ga mem 228) (gi mem 221 34).toInt) → (k).toInt < (gn (ga mem 228) (gi mem 221 34).toInt) → ∀ (x7 : Int32), x7.toInt = (9 * (gi mem 221 34).toInt) → ∀ (x9 : Int32), x9.toInt = ((9 * (gi mem 221 34).toInt) + (k).toInt) → ∀ (y11 : Int32), y11.toInt = (gn (ga mem 229) ((9 * (gi mem 221 34).toInt) + (k).toInt)) → (gn (ga mem 229) ((9 * (gi mem 221 34).toInt) + (k).toInt)) = (c).toInt → aTm aT0 mem → P (some (.int 1)) mem) : yR zpg tX12_isInTheWay d (2, lo, [], mem) P := by
  obtain ⟨i0, i1⟩ := mO_r34 hm
  have th := gR_228 hm (i := (gi mem 221 34).toInt) i0 (by omega)
  refine wR_li rfl l_2 ?_
  refine wR_la rfl l_0 ?_
  refine wR_gr rfl mO_e mO_19 hm ?_
  refine wR_la rfl l_0 ?_
  refine wR_gi rfl mO_e mO_34 hm rfl ?_
  refine wN_al (a := (gi mem 221 34).toInt) rfl aR_228 hm rfl rfl (by omega) (fun y1 e2 => ?_)
  refine wR_ic_ge rfl (a := (k).toInt) (c := (gn (ga mem 228) (gi mem 221 34).toInt)) rfl e2 (fun q3 => ?_) (fun q3 => ?_)
  ·
    refine yR_m 1 (fun _ _ _ _ => rfl) ?_
    refine wR_si rfl rfl (fun lo4 e5 f6 => ?_)
    have lo4_0 := f6 0 _ (by decide) (Or.inl rfl) l_0
    have lo4_1 := f6 1 _ (by decide) (Or.inl rfl) l_1
    exact h1 y1 e2 q3 lo4 lo4_0 lo4_1 e5 hm
  ·
    refine wR_la rfl l_0 ?_
    refine wR_gr rfl mO_e mO_20 hm ?_
    refine yR_m 1 (fun _ _ _ _ => rfl) ?_
    refine wR_la rfl l_0 ?_
    refine wR_gi rfl mO_e mO_34 hm rfl ?_
    refine wN_mul (a := 9) (b := (gi mem 221 34).toInt) rfl rfl rfl (by omega) (fun x7 e8 => ?_)
    refine wR_li rfl l_2 ?_
    refine wN_add (a := (9 * (gi mem 221 34).toInt)) (b := (k).toInt) rfl e8 rfl (by omega) (fun x9 e10 => ?_)
    refine wN_al (a := ((9 * (gi mem 221 34).toInt) + (k).toInt)) rfl aR_229 hm rfl e10 (by omega) (fun y11 e12 => ?_)
    refine wR_li rfl l_1 ?_
    refine wR_ic_ne rfl (a := (gn (ga mem 229) ((9 * (gi mem 221 34).toInt) + (k).toInt))) (c := (c).toInt) e12 rfl (fun q13 => ?_) (fun q13 => ?_)
    ·
      refine wN_in (a := (k).toInt) (b := 1) rfl rfl l_2 rfl rfl (by omega) (fun x14 e15 => fun lo16 e17 f18 => ?_)
      have lo16_0 := f18 0 _ (by decide) (Or.inl rfl) l_0
      have lo16_1 := f18 1 _ (by decide) (Or.inl rfl) l_1
      exact yR_m 1 (fun _ _ _ _ => rfl) (h2 y1 e2 q3 x7 e8 x9 e10 y11 e12 q13 x14 e15 lo16 lo16_0 lo16_1 e17 hm)
    ·
      refine yR_m 1 (fun _ _ _ _ => rfl) ?_
      exact yR_rz rfl ⟨by decide, by decide⟩ (h3 y1 e2 q3 x7 e8 x9 e10 y11 e12 q13 hm)

set_option maxRecDepth 100000 in
theorem w_iw_43 {d : Nat} {mem : zM} {P : Option Value → zM → Prop} {c k : Int32} {lo : List (Nat × Value)} (hm : aTm aT0 mem) (l_0 : zlg lo 0 = some (.ref 221)) (l_1 : zlg lo 1 = some (.int c)) (l_2 : zlg lo 2 = some (.int k)) (hk : 0 ≤ k.toInt ∧ k.toInt ≤ 6) (h1 : ∀ (y1 : Int32), y1.toInt = (gn (ga mem 233) (gi mem 221 34).toInt) → (gn (ga mem 233) (gi mem 221 34).toInt) ≤ (k).toInt → aTm aT0 mem → P (some (.int 0)) mem) (h2 : ∀ (y1 : Int32), y1.toInt = (gn (ga mem 233) (gi mem 221 34).toInt) → (k).toInt < (gn (ga mem 233) (gi mem 221 34).toInt) → ∀ (x4 : Int32), x4.toInt = (6 * (gi mem 221 34).toInt) → ∀ (x6 : Int32), x6.toInt = ((6 * (gi mem 221 34).toInt) + (k).toInt) → ∀ (y8 : Int32), y8.toInt = (gn (ga mem 234) ((6 * (gi mem 221 34).toInt) + (k).toInt)) → (gn (ga mem 234) ((6 * (gi mem 221 34).toInt) + (k).toInt)) = (c).toInt → aTm aT0 mem → P (some (.int 1)) mem) (h3 : ∀ (y1 : Int32), y1.toInt = (gn (ga mem 233) (gi mem 221 34).toInt) → (k).toInt < (gn (ga mem 233) (gi mem 221 34).toInt) → ∀ (x4 : Int32), x4.toInt = (6 * (gi mem 221 34).toInt) → ∀ (x6 : Int32), x6.toInt = ((6 * (gi mem 221 34).toInt) + (k).toInt) → ∀ (y8 : Int32), y8.toInt = (gn (ga mem 234) ((6 * (gi mem 221 34).toInt) + (k).toInt)) → ¬ (gn (ga mem 234) ((6 * (gi mem 221 34).toInt) + (k).toInt)) = (c).toInt → ∀ (x11 : Int32), x11.toInt = (6 * (gi mem 221 34).toInt) → ∀ (x13 : Int32), x13.toInt = ((6 * (gi mem 221 34).toInt) + (k).toInt) → ∀ (y15 : Int32), y15.toInt = (gn (ga mem 235) ((6 * (gi mem 221 34).toInt) + (k).toInt)) → ¬ (gn (ga mem 235) ((6 * (gi mem 221 34).toInt) + (k).toInt)) = (c).toInt → ∀ (x18 : Int32), x18.toInt = ((k).toInt + 1) → ∀ lo, zlg lo 0 = some (.ref 221) → zlg lo 1 = some (.int c) → zlg lo 2 = some (.int x18) → aTm aT0 mem → yR zpg tX12_isInTheWay d (43, lo, [], mem) P) (h4 : ∀ (y1 : Int32), y1.toInt = (gn (ga mem 233) (gi mem 221 34).toInt) → (k).toInt < (gn (ga mem 233) (gi mem 221 34).toInt) → ∀ (x4 : Int32), x4.toInt = (6 * (gi mem 221 34).toInt) → ∀ (x6 : Int32), x6.toInt = ((6 * (gi mem 221 34).toInt) + (k).toInt) → ∀ (y8 : Int32), y8.toInt = (gn (ga mem 234) ((6 * (gi mem 221 34).toInt) + (k).toInt)) → ¬ (gn (ga mem 234) ((6 * (gi mem 221 34).toInt) + (k).toInt)) = (c).toInt → ∀ (x11 : Int32), x11.toInt = (6 * (gi mem 221 34).toInt) → ∀ (x13 : Int32), x13.toInt = ((6 * (gi mem 221 34).toInt) + (k).toInt) → ∀ (y15 : Int32), y15.toInt = (gn (ga mem 235) ((6 * (gi mem 221 34).toInt) + (k).toInt)) → (gn (ga mem 235) ((6 * (gi mem 221 34).toInt) + (k).toInt)) = (c).toInt → aTm aT0 mem → P (some (.int 1)) mem) : yR zpg tX12_isInTheWay d (43, lo, [], mem) P := by
  obtain ⟨i0, i1⟩ := mO_r34 hm
  have fki := gR_233 hm (i := (gi mem 221 34).toInt) i0 (by omega)
  refine wR_li rfl l_2 ?_
  refine wR_la rfl l_0 ?_
  refine wR_gr rfl mO_e mO_24 hm ?_
  refine wR_la rfl l_0 ?_
  refine wR_gi rfl mO_e mO_34 hm rfl ?_
  refine wN_al (a := (gi mem 221 34).toInt) rfl aR_233 hm rfl rfl (by omega) (fun y1 e2 => ?_)
  refine wR_ic_ge rfl (a := (k).toInt) (c := (gn (ga mem 233) (gi mem 221 34).toInt)) rfl e2 (fun q3 => ?_) (fun q3 => ?_)
  ·
    refine yR_m 1 (fun _ _ _ _ => rfl) ?_
    exact yR_rz rfl ⟨by decide, by decide⟩ (h1 y1 e2 q3 hm)
  ·
    refine wR_la rfl l_0 ?_
    refine wR_gr rfl mO_e mO_25 hm ?_
    refine yR_m 1 (fun _ _ _ _ => rfl) ?_
    refine wR_la rfl l_0 ?_
    refine wR_gi rfl mO_e mO_34 hm rfl ?_
    refine wN_mul (a := 6) (b := (gi mem 221 34).toInt) rfl rfl rfl (by omega) (fun x4 e5 => ?_)
    refine wR_li rfl l_2 ?_
    refine wN_add (a := (6 * (gi mem 221 34).toInt)) (b := (k).toInt) rfl e5 rfl (by omega) (fun x6 e7 => ?_)
    refine wN_al (a := ((6 * (gi mem 221 34).toInt) + (k).toInt)) rfl aR_234 hm rfl e7 (by omega) (fun y8 e9 => ?_)
    refine wR_li rfl l_1 ?_
    refine wR_ic_eq rfl (a := (gn (ga mem 234) ((6 * (gi mem 221 34).toInt) + (k).toInt))) (c := (c).toInt) e9 rfl (fun q10 => ?_) (fun q10 => ?_)
    ·
      refine yR_m 1 (fun _ _ _ _ => rfl) ?_
      exact yR_rz rfl ⟨by decide, by decide⟩ (h2 y1 e2 q3 x4 e5 x6 e7 y8 e9 q10 hm)
    ·
      refine wR_la rfl l_0 ?_
      refine wR_gr rfl mO_e mO_26 hm ?_
      refine yR_m 1 (fun _ _ _ _ => rfl) ?_
      refine wR_la rfl l_0 ?_
      refine wR_gi rfl mO_e mO_34 hm rfl ?_
      refine wN_mul (a := 6) (b := (gi mem 221 34).toInt) rfl rfl rfl (by omega) (fun x11 e12 => ?_)
      refine wR_li rfl l_2 ?_
      refine wN_add (a := (6 * (gi mem 221 34).toInt)) (b := (k).toInt) rfl e12 rfl (by omega) (fun x13 e14 => ?_)
      refine wN_al (a := ((6 * (gi mem 221 34).toInt) + (k).toInt)) rfl aR_235 hm rfl e14 (by omega) (fun y15 e16 => ?_)
      refine wR_li rfl l_1 ?_
      refine wR_ic_ne rfl (a := (gn (ga mem 235) ((6 * (gi mem 221 34).toInt) + (k).toInt))) (c := (c).toInt) e16 rfl (fun q17 => ?_) (fun q17 => ?_)
      ·
        refine wN_in (a := (k).toInt) (b := 1) rfl rfl l_2 rfl rfl (by omega) (fun x18 e19 => fun lo20 e21 f22 => ?_)
        have lo20_0 := f22 0 _ (by decide) (Or.inl rfl) l_0
        have lo20_1 := f22 1 _ (by decide) (Or.inl rfl) l_1
        exact yR_m 1 (fun _ _ _ _ => rfl) (h3 y1 e2 q3 x4 e5 x6 e7 y8 e9 q10 x11 e12 x13 e14 y15 e16 q17 x18 e19 lo20 lo20_0 lo20_1 e21 hm)
      ·
        refine yR_m 1 (fun _ _ _ _ => rfl) ?_
        exact yR_rz rfl ⟨by decide, by decide⟩ (h4 y1 e2 q3 x4 e5 x6 e7 y8 e9 q10 x11 e12 x13 e14 y15 e16 q17 hm)

section TN
variable {d : Nat} {mem : zM} {w : Int64}
theorem tn_loop (hm : aTm aT0 mem) : ∀ (f : Nat) (k : Int32) (lo : List (Nat × Value)), 10 ≤ k.toInt + (f : Int) → 0 ≤ k.toInt → k.toInt ≤ 9 → zlg lo 0 = some (.ref 221) → zlg lo 1 = some (.long w) → zlg lo 3 = some (.int k) → yR zpg tX12_thingNamed d (2, lo, [], mem) (fun r m => ∃ v : Int32, r = some (.int v) ∧ mem = m ∧ (-1 ≤ v.toInt ∧ v.toInt ≤ 8)) := by
  intro f
  induction f with
  | zero => intro k lo hf k0 k1; omega
  | succ f ih =>
    intro k lo hf k0 k1 l0 l1 l3
    obtain ⟨i0, i1⟩ := mO_r34 hm
    have th := gR_228 hm (i := (gi mem 221 34).toInt) i0 (by omega)
    exact w_tn_2 hm l0 l1 l3 ⟨k0, k1⟩
        (fun y1 e2 q3 hm => ⟨_, rfl, rfl, by first | decide | omega⟩)
        (fun y1 e2 q3 x4 e5 x6 e7 q8 x9 e10 lo a0 a1 a3 hm => ih _ lo (by omega) (by omega) (by omega) a0 a1 a3)
        (fun y1 e2 q3 x4 e5 x6 e7 q8 hm => ⟨_, rfl, rfl, by first | decide | omega⟩)
theorem c_thingNamed (hm : aTm aT0 mem) (hd : 1 ≤ d) : yC zpg d 178 [.ref 221, .long w] mem (fun r m => ∃ v : Int32, r = some (.int v) ∧ mem = m ∧ (-1 ≤ v.toInt ∧ v.toInt ≤ 8)) := by
  obtain ⟨d, rfl⟩ : ∃ q, d = q + 1 := ⟨d - 1, by omega⟩
  refine yC_of (t := tX12_thingNamed) rfl rfl ?_
  exact w_tn_0 hm rfl rfl (fun lo a0 a1 a3 hm => tn_loop hm 10 0 lo (by decide) (by decide) (by decide) a0 a1 a3)
set_option maxRecDepth 100000 in
theorem w_in_0 {d : Nat} {mem : zM} {P : Option Value → zM → Prop} {w : Int64} {lo : List (Nat × Value)} (hm : aTm aT0 mem) (l_0 : zlg lo 0 = some (.ref 221)) (l_1 : zlg lo 1 = some (.long w)) (h1 : ∀ lo, zlg lo 0 = some (.ref 221) → zlg lo 1 = some (.long w) → zlg lo 3 = some (.int 0) → aTm aT0 mem → yR zpg tX12_isNamed (d + 1) (2, lo, [], mem) P) : yR zpg tX12_isNamed (d + 1) (0, lo, [], mem) P := by
  refine yR_m 1 (fun _ _ _ _ => rfl) ?_
  refine wR_si rfl rfl (fun lo1 e2 f3 => ?_)
  have lo1_0 := f3 0 _ (by decide) (Or.inl rfl) l_0
  have lo1_1 := f3 1 _ (by decide) (Or.inr (by decide)) l_1
  exact h1 lo1 lo1_0 lo1_1 e2 hm

set_option maxRecDepth 100000 in
theorem w_in_2 {d : Nat} {mem : zM} {P : Option Value → zM → Prop} {w : Int64} {k : Int32} {lo : List (Nat × Value)} (hm : aTm aT0 mem) (l_0 : zlg lo 0 = some (.ref 221)) (l_1 : zlg lo 1 = some (.long w)) (l_3 : zlg lo 3 = some (.int k)) (hk : 0 ≤ k.toInt ∧ k.toInt ≤ 6) (h1 : ∀ (y1 : Int32), y1.toInt = (gn (ga mem 233) (gi mem 221 34).toInt) → (gn (ga mem 233) (gi mem 221 34).toInt) ≤ (k).toInt → ∀ (v4 : Int32), (-1 ≤ v4.toInt ∧ v4.toInt ≤ 8) → (v4).toInt = (-1) → aTm aT0 mem → P (some (.int 0)) mem) (h2 : ∀ (y1 : Int32), y1.toInt = (gn (ga mem 233) (gi mem 221 34).toInt) → (gn (ga mem 233) (gi mem 221 34).toInt) ≤ (k).toInt → ∀ (v4 : Int32), (-1 ≤ v4.toInt ∧ v4.toInt ≤ 8) → ¬ (v4).toInt = (-1) → aTm aT0 mem → P (some (.int 1)) mem) (h3 : ∀ (y1 : Int32), y1.toInt = (gn (ga mem 233) (gi mem 221 34).toInt) → (k).toInt < (gn (ga mem 233) (gi mem 221 34).toInt) → ∀ (x7 : Int32), x7.toInt = (6 * (gi mem 221 34).toInt) → ∀ (x9 : Int32), x9.toInt = ((6 * (gi mem 221 34).toInt) + (k).toInt) → ¬ ((gA mem 241).getD (((6 * (gi mem 221 34).toInt) + (k).toInt) : Int).toNat 0) = w → ∀ (x12 : Int32), x12.toInt = ((k).toInt + 1) → ∀ lo, zlg lo 0 = some (.ref 221) → zlg lo 1 = some (.long w) → zlg lo 3 = some (.int x12) → aTm aT0 mem → yR zpg tX12_isNamed (d + 1) (2, lo, [], mem) P) (h4 : ∀ (y1 : Int32), y1.toInt = (gn (ga mem 233) (gi mem 221 34).toInt) → (k).toInt < (gn (ga mem 233) (gi mem 221 34).toInt) → ∀ (x7 : Int32), x7.toInt = (6 * (gi mem 221 34).toInt) → ∀ (x9 : Int32), x9.toInt = ((6 * (gi mem 221 34).toInt) + (k).toInt) → ((gA mem 241).getD (((6 * (gi mem 221 34).toInt) + (k).toInt) : Int).toNat 0) = w → aTm aT0 mem → P (some (.int 1)) mem) : yR zpg tX12_isNamed (d + 1) (2, lo, [], mem) P := by
  obtain ⟨i0, i1⟩ := mO_r34 hm
  have fki := gR_233 hm (i := (gi mem 221 34).toInt) i0 (by omega)
  refine wR_li rfl l_3 ?_
  refine wR_la rfl l_0 ?_
  refine wR_gr rfl mO_e mO_24 hm ?_
  refine wR_la rfl l_0 ?_
  refine wR_gi rfl mO_e mO_34 hm rfl ?_
  refine wN_al (a := (gi mem 221 34).toInt) rfl aR_233 hm rfl rfl (by omega) (fun y1 e2 => ?_)
  refine wR_ic_ge rfl (a := (k).toInt) (c := (gn (ga mem 233) (gi mem 221 34).toInt)) rfl e2 (fun q3 => ?_) (fun q3 => ?_)
  ·
    refine wR_la rfl l_0 ?_
    refine wR_ll4 rfl l_1 ?_
    refine wR_cv rfl rfl mO_e hm rfl (c_thingNamed hm (by omega)) ?_
    rintro _ _ ⟨v4, rfl, rfl, k5⟩
    show yR zpg tX12_isNamed (d + 1) (47, lo, [.int v4], mem) _
    refine yR_m 1 (fun _ _ _ _ => rfl) ?_
    refine wR_ic_eq rfl (a := (v4).toInt) (c := (-1)) rfl tm1 (fun q6 => ?_) (fun q6 => ?_)
    ·
      refine yR_m 1 (fun _ _ _ _ => rfl) ?_
      exact yR_rz rfl ⟨by decide, by decide⟩ (h1 y1 e2 q3 v4 k5 q6 hm)
    ·
      refine yR_m 2 (fun _ _ _ _ => rfl) ?_
      exact yR_rz rfl ⟨by decide, by decide⟩ (h2 y1 e2 q3 v4 k5 q6 hm)
  ·
    refine wR_la rfl l_0 ?_
    refine wR_gr rfl mO_e mO_32 hm ?_
    refine yR_m 1 (fun _ _ _ _ => rfl) ?_
    refine wR_la rfl l_0 ?_
    refine wR_gi rfl mO_e mO_34 hm rfl ?_
    refine wN_mul (a := 6) (b := (gi mem 221 34).toInt) rfl rfl rfl (by omega) (fun x7 e8 => ?_)
    refine wR_li rfl l_3 ?_
    refine wN_add (a := (6 * (gi mem 221 34).toInt)) (b := (k).toInt) rfl e8 rfl (by omega) (fun x9 e10 => ?_)
    refine wN_ll (a := ((6 * (gi mem 221 34).toInt) + (k).toInt)) rfl aR_241 hm rfl e10 (by omega) ?_
    refine wR_ll4 rfl l_1 ?_
    refine yR_m 1 (fun _ _ _ _ => rfl) ?_
    refine wR_lf_ne rfl (fun q11 => ?_) (fun q11 => ?_)
    ·
      refine wN_in (a := (k).toInt) (b := 1) rfl rfl l_3 rfl rfl (by omega) (fun x12 e13 => fun lo14 e15 f16 => ?_)
      have lo14_0 := f16 0 _ (by decide) (Or.inl rfl) l_0
      have lo14_1 := f16 1 _ (by decide) (Or.inr (by decide)) l_1
      exact yR_m 1 (fun _ _ _ _ => rfl) (h3 y1 e2 q3 x7 e8 x9 e10 q11 x12 e13 lo14 lo14_0 lo14_1 e15 hm)
    ·
      refine yR_m 1 (fun _ _ _ _ => rfl) ?_
      exact yR_rz rfl ⟨by decide, by decide⟩ (h4 y1 e2 q3 x7 e8 x9 e10 q11 hm)

theorem in_loop (hm : aTm aT0 mem) : ∀ (f : Nat) (k : Int32) (lo : List (Nat × Value)), 7 ≤ k.toInt + (f : Int) → 0 ≤ k.toInt → k.toInt ≤ 6 → zlg lo 0 = some (.ref 221) → zlg lo 1 = some (.long w) → zlg lo 3 = some (.int k) → yR zpg tX12_isNamed (d + 1) (2, lo, [], mem) (fun r m => ∃ v : Int32, r = some (.int v) ∧ mem = m ∧ True) := by
  intro f
  induction f with
  | zero => intro k lo hf k0 k1; omega
  | succ f ih =>
    intro k lo hf k0 k1 l0 l1 l3
    obtain ⟨i0, i1⟩ := mO_r34 hm
    have fki := gR_233 hm (i := (gi mem 221 34).toInt) i0 (by omega)
    exact w_in_2 hm l0 l1 l3 ⟨k0, k1⟩
        (fun y1 e2 q3 v4 k5 q6 hm => ⟨_, rfl, rfl, trivial⟩)
        (fun y1 e2 q3 v4 k5 q6 hm => ⟨_, rfl, rfl, trivial⟩)
        (fun y1 e2 q3 x7 e8 x9 e10 q11 x12 e13 lo a0 a1 a3 hm => ih _ lo (by omega) (by omega) (by omega) a0 a1 a3)
        (fun y1 e2 q3 x7 e8 x9 e10 q11 hm => ⟨_, rfl, rfl, trivial⟩)
theorem c_isNamed (hm : aTm aT0 mem) (hd : 2 ≤ d) : yC zpg d 179 [.ref 221, .long w] mem (fun r m => ∃ v : Int32, r = some (.int v) ∧ mem = m ∧ True) := by
  obtain ⟨d, rfl⟩ : ∃ q, d = q + 2 := ⟨d - 2, by omega⟩
  refine yC_of (t := tX12_isNamed) rfl rfl ?_
  exact w_in_0 hm rfl rfl (fun lo a0 a1 a3 hm => in_loop hm 7 0 lo (by decide) (by decide) (by decide) a0 a1 a3)
theorem iw_loop2 (hm : aTm aT0 mem) {c : Int32} : ∀ (f : Nat) (k : Int32) (lo : List (Nat × Value)), 7 ≤ k.toInt + (f : Int) → 0 ≤ k.toInt → k.toInt ≤ 6 → zlg lo 0 = some (.ref 221) → zlg lo 1 = some (.int c) → zlg lo 2 = some (.int k) → yR zpg tX12_isInTheWay d (43, lo, [], mem) (fun r m => ∃ v : Int32, r = some (.int v) ∧ mem = m ∧ True) := by
  intro f
  induction f with
  | zero => intro k lo hf k0 k1; omega
  | succ f ih =>
    intro k lo hf k0 k1 l0 l1 l2
    obtain ⟨i0, i1⟩ := mO_r34 hm
    have fki := gR_233 hm (i := (gi mem 221 34).toInt) i0 (by omega)
    exact w_iw_43 hm l0 l1 l2 ⟨k0, k1⟩
        (fun y1 e2 q3 hm => ⟨_, rfl, rfl, trivial⟩)
        (fun y1 e2 q3 x4 e5 x6 e7 y8 e9 q10 hm => ⟨_, rfl, rfl, trivial⟩)
        (fun y1 e2 q3 x4 e5 x6 e7 y8 e9 q10 x11 e12 x13 e14 y15 e16 q17 x18 e19 lo a0 a1 a2 hm => ih _ lo (by omega) (by omega) (by omega) a0 a1 a2)
        (fun y1 e2 q3 x4 e5 x6 e7 y8 e9 q10 x11 e12 x13 e14 y15 e16 q17 hm => ⟨_, rfl, rfl, trivial⟩)
theorem iw_loop (hm : aTm aT0 mem) {c : Int32} : ∀ (f : Nat) (k : Int32) (lo : List (Nat × Value)), 10 ≤ k.toInt + (f : Int) → 0 ≤ k.toInt → k.toInt ≤ 9 → zlg lo 0 = some (.ref 221) → zlg lo 1 = some (.int c) → zlg lo 2 = some (.int k) → yR zpg tX12_isInTheWay d (2, lo, [], mem) (fun r m => ∃ v : Int32, r = some (.int v) ∧ mem = m ∧ True) := by
  intro f
  induction f with
  | zero => intro k lo hf k0 k1; omega
  | succ f ih =>
    intro k lo hf k0 k1 l0 l1 l2
    obtain ⟨i0, i1⟩ := mO_r34 hm
    have th := gR_228 hm (i := (gi mem 221 34).toInt) i0 (by omega)
    exact w_iw_2 hm l0 l1 l2 ⟨k0, k1⟩
        (fun y1 e2 q3 lo a0 a1 a2 hm => iw_loop2 hm 7 0 lo (by decide) (by decide) (by decide) a0 a1 a2)
        (fun y1 e2 q3 x7 e8 x9 e10 y11 e12 q13 x14 e15 lo a0 a1 a2 hm => ih _ lo (by omega) (by omega) (by omega) a0 a1 a2)
        (fun y1 e2 q3 x7 e8 x9 e10 y11 e12 q13 hm => ⟨_, rfl, rfl, trivial⟩)
theorem c_isInTheWay (hm : aTm aT0 mem) (hd : 1 ≤ d) {c : Int32} : yC zpg d 195 [.ref 221, .int c] mem (fun r m => ∃ v : Int32, r = some (.int v) ∧ mem = m ∧ True) := by
  obtain ⟨d, rfl⟩ : ∃ q, d = q + 1 := ⟨d - 1, by omega⟩
  refine yC_of (t := tX12_isInTheWay) rfl rfl ?_
  exact w_iw_0 hm rfl rfl (fun lo a0 a1 a2 hm => iw_loop hm 10 0 lo (by decide) (by decide) (by decide) a0 a1 a2)
end TN
