theorem zcv_s {Y : Type} {j n ci pc b : Nat} {rec : zRec Y} {lo : List (Nat × Value)} {sk As rest : List Value} {mem : zM} {κ : zS → Option Y} {ρ : Option Value → zM → Option Y} {fs : List Value} (hp : zpp n [] sk = some (As, .ref b :: rest)) (hz : zat mem b = some (.inr (ci, fs))) (hw : Nat.ble (zwd rest) 8 = true) : zcv j n ci Y rec (pc, lo, sk, mem) κ ρ = rec j (.ref b :: As) mem (fun r mem' => κ (pc + 3, lo, r.toList ++ rest, mem')) := by
  have hb : Bool.and (Nat.beq ci ci) (Nat.ble (zwd rest) 8) = true := by
    rw [hw, show Nat.beq ci ci = true from Nat.beq_refl ci]
    rfl
  unfold zcv
  simp only [hp, hz, hb]
theorem z_stepV {Y : Type} {t : zT} {j n ci pc b N : Nat} {rec : zRec Y} {lo : List (Nat × Value)} {sk As rest : List Value} {mem : zM} {ρ : Option Value → zM → Option Y} {fs : List Value} (hk : zlk t pc = some (pc, zcv j n ci)) (hp : zpp n [] sk = some (As, .ref b :: rest)) (hz : zat mem b = some (.inr (ci, fs))) (hw : Nat.ble (zwd rest) 8 = true) : zgo t rec ρ (N + 1) (pc, lo, sk, mem) = rec j (.ref b :: As) mem (fun r mem' => zgo t rec ρ N (pc + 3, lo, r.toList ++ rest, mem')) := by
  show (match zlk t pc with
      | none => none
      | some q => q.2 Y rec (q.1, lo, sk, mem) (zgo t rec ρ N) ρ) = _
  rw [hk]
  exact zcv_s (ρ := ρ) hp hz hw
/-! the law's run: the calls are answered by the program, but for the two constructors -/
section YL
variable {d pc L : Nat} {xs : Nat → Int32} {lo : List (Nat × Value)} {mem : zM} {P : Option Value → zM → Prop} {f : zF}
def yL (L : Nat) (xs : Nat → Int32) (d : Nat) (st : zS) (P : Option Value → zM → Prop) : Prop := ∃ (F0 : Nat) (r : Option Value) (mem' : zM), P r mem' ∧ ∀ (F n : Nat) (Y : Type) (rec : zRec Y) (κ : Option Value → zM → Option Y), F0 ≤ F → F0 ≤ n → (∀ j av m κ', ¬ j = 111 → ¬ j = 164 → rec j av m κ' = zrun zpg F d Y j av m κ') → zgo (tL L xs) rec κ n st = κ r mem'
theorem yL_m (c : Nat) {st st' : zS} (h : ∀ (n : Nat) (Y : Type) (rec : zRec Y) (κ : Option Value → zM → Option Y), zgo (tL L xs) rec κ (n + c) st = zgo (tL L xs) rec κ n st') (k : yL L xs d st' P) : yL L xs d st P := by
  obtain ⟨F0, r, m', hP, e⟩ := k
  refine ⟨F0 + c, r, m', hP, fun F n Y rec κ hF hn hr => ?_⟩
  obtain ⟨n, rfl⟩ : ∃ q, n = q + c := ⟨n - c, by omega⟩
  rw [h]
  exact e F n Y rec κ (by omega) (by omega) hr
theorem yL_next {sk : List Value} {st' : zS} (hk : zlk (tL L xs) pc = some (pc, f)) (e : ∀ (Y : Type) (rec : zRec Y) (κ : zS → Option Y) (ρ : Option Value → zM → Option Y), f Y rec (pc, lo, sk, mem) κ ρ = κ st') (k : yL L xs d st' P) : yL L xs d (pc, lo, sk, mem) P := by
  obtain ⟨F0, r, m', hP, h⟩ := k
  refine ⟨F0 + 1, r, m', hP, fun F n Y rec κ hF hn hr => ?_⟩
  obtain ⟨n, rfl⟩ : ∃ q, n = q + 1 := ⟨n - 1, by omega⟩
  rw [zgo_1 hk, e]
  exact h F n Y rec κ (by omega) (by omega) hr
theorem yL_ret {sk : List Value} {r : Option Value} {m' : zM} (hk : zlk (tL L xs) pc = some (pc, f)) (e : ∀ (Y : Type) (rec : zRec Y) (κ : zS → Option Y) (ρ : Option Value → zM → Option Y), f Y rec (pc, lo, sk, mem) κ ρ = ρ r m') (h : P r m') : yL L xs d (pc, lo, sk, mem) P := by
  refine ⟨1, r, m', h, fun F n Y rec κ hF hn hr => ?_⟩
  obtain ⟨n, rfl⟩ : ∃ q, n = q + 1 := ⟨n - 1, by omega⟩
  rw [zgo_1 hk, e]
theorem yL_cv {j n ci b : Nat} {sk As rest fs : List Value} {Q : Option Value → zM → Prop} (hk : zlk (tL L xs) pc = some (pc, zcv j n ci)) (hp : zpp n [] sk = some (As, .ref b :: rest)) (hz : zat mem b = some (.inr (ci, fs))) (hw : Nat.ble (zwd rest) 8 = true) (h1 : ¬ j = 111) (h2 : ¬ j = 164) (hc : yC zpg d j (.ref b :: As) mem Q) (h : ∀ r m, Q r m → yL L xs d (pc + 3, lo, r.toList ++ rest, m) P) : yL L xs d (pc, lo, sk, mem) P := by
  obtain ⟨F1, r1, m1, hQ, e1⟩ := hc
  obtain ⟨F2, r, m', hP, e2⟩ := h r1 m1 hQ
  refine ⟨F1 + F2 + 1, r, m', hP, fun F n Y rec κ hF hn hr => ?_⟩
  obtain ⟨n, rfl⟩ : ∃ q, n = q + 1 := ⟨n - 1, by omega⟩
  rw [z_stepV hk hp hz hw, hr _ _ _ _ h1 h2, e1 F Y _ (by omega)]
  exact e2 F n Y rec κ (by omega) (by omega) hr
theorem yL_ld {x : Int32} {r : List Value} (hk : zlk (tL L xs) pc = some (pc, zst 1 (zbx 3 L xs))) (h0 : 0 ≤ x.toInt) (h1 : x.toInt < L) (h : yL L xs d (pc + 1, lo, .int (xs x.toNatClampNeg) :: r, mem) P) : yL L xs d (pc, lo, .int x :: .retAddr 3 :: r, mem) P := by
  have hc := zclamp h0
  have e : Bool.and (Nat.beq 3 3) (zix x L) = true := by
    unfold zix
    rw [zneg_f h0, Nat.ble_eq_true_of_le (by omega)]
    rfl
  refine yL_next hk (fun Y rec κ ρ => ?_) h
  simp only [zst, zbx, e]
theorem yL_ic {p : Int32 → Int32 → Bool} {len tgt : Nat} {r : List Value} {x y : Int32} (hk : zlk (tL L xs) pc = some (pc, zic p len tgt)) (hT : p x y = true → yL L xs d (tgt, lo, r, mem) P) (hF : p x y = false → yL L xs d (pc + len, lo, r, mem) P) : yL L xs d (pc, lo, .int y :: .int x :: r, mem) P := by
  cases hp : p x y with
  | true => exact yL_next hk (fun Y rec κ ρ => by simp only [zic, hp]) (hT hp)
  | false => exact yL_next hk (fun Y rec κ ρ => by simp only [zic, hp]) (hF hp)
theorem yL_sw {ks : List (Int32 × Nat)} {df : Nat} {x : Int32} {r : List Value} (hk : zlk (tL L xs) pc = some (pc, zts ks df)) (h : ∀ t ∈ df :: ks.map Prod.snd, yL L xs d (t, lo, r, mem) P) : yL L xs d (pc, lo, .int x :: r, mem) P := by
  have key : ∃ t ∈ df :: ks.map Prod.snd, ∀ (Z : Type) (κ : Nat → Z), zsw ks df x κ = κ t := by
    clear h hk
    induction ks with
    | nil => exact ⟨df, List.mem_cons_self, fun _ _ => rfl⟩
    | cons a q ih =>
      cases hb : decide (x = a.1) with
      | true => exact ⟨a.2, List.mem_cons_of_mem _ List.mem_cons_self, fun Z κ => by
          show (Bool.rec (zsw q df x κ) (κ a.2) (decide (x = a.1)) : Z) = _
          rw [hb]⟩
      | false =>
        obtain ⟨t, ht, e⟩ := ih
        refine ⟨t, ?_, fun Z κ => ?_⟩
        · rcases List.mem_cons.1 ht with w | w
          · rw [w]; exact List.mem_cons_self
          · exact List.mem_cons_of_mem _ (List.mem_cons_of_mem _ w)
        · show (Bool.rec (zsw q df x κ) (κ a.2) (decide (x = a.1)) : Z) = _
          rw [hb]
          exact e Z κ
  obtain ⟨t, ht, e⟩ := key
  exact yL_next hk (fun Y rec κ ρ => by simp only [zts]; exact e _ _) (h t ht)
/-- the locals: the script, the class's object, the model's, the place in the script -/
abbrev zlo (i : Int32) : List (Nat × Value) := [(3, .int i), (2, .ref 221), (1, .ref 0), (0, .retAddr 3)]
theorem J_x {a b : Int32} {t u : List Int32} {Y Z : Qd} (h : J5 a b t u Y Z mem) : ∃ fs, zat mem 0 = some (.inr (11, fs)) := by
  obtain ⟨fs, h1, -⟩ := aTm_o h.1 cO_e
  exact ⟨fs, h1⟩
theorem J_m {a b : Int32} {t u : List Int32} {Y Z : Qd} (h : J5 a b t u Y Z mem) : ∃ fs, zat mem 221 = some (.inr (12, fs)) := by
  obtain ⟨fs, h1, -⟩ := aTm_o h.1 mO_e
  exact ⟨fs, h1⟩
theorem i_add {i : Int32} {k : Nat} {c : Int32} (hc : c.toInt = (k : Int)) (hk : k ≤ 6) (h0 : 0 ≤ i.toInt) (h1 : i.toInt + 6 ≤ (L : Int)) (hL : L ≤ 3072) : (i + c).toInt = i.toInt + (k : Int) := by
  rw [zadd_i (by omega) (by omega), hc]

set_option maxRecDepth 100000 in
theorem la_0 {i a : Int32} {t u : List Int32} {Y : Qd} {N : Nd} (hL : L ≤ 3072) (h0 : 0 ≤ i.toInt) (h1 : i.toInt + 6 ≤ (L : Int)) (hd : 70 ≤ d) (hJ : J6 a a t u Y Y N N mem) (hS : smT t u) (ih : ∀ m a t u Y N, J6 a a t u Y Y N N m → smT t u → yL L xs d (1042, zlo i, [], m) P) : yL L xs d (176, zlo i, [], mem) P := by
  refine yL_m 5 (fun _ _ _ _ => rfl) ?_
  refine yL_ld rfl (by rw [i_add (k := 1) rfl (by decide) h0 h1 hL]; omega) (by rw [i_add (k := 1) rfl (by decide) h0 h1 hL]; omega) ?_
  refine yL_m 4 (fun _ _ _ _ => rfl) ?_
  refine yL_ld rfl (by rw [i_add (k := 2) rfl (by decide) h0 h1 hL]; omega) (by rw [i_add (k := 2) rfl (by decide) h0 h1 hL]; omega) ?_
  refine yL_m 4 (fun _ _ _ _ => rfl) ?_
  refine yL_ld rfl (by rw [i_add (k := 3) rfl (by decide) h0 h1 hL]; omega) (by rw [i_add (k := 3) rfl (by decide) h0 h1 hL]; omega) ?_
  refine yL_m 4 (fun _ _ _ _ => rfl) ?_
  refine yL_ld rfl (by rw [i_add (k := 4) rfl (by decide) h0 h1 hL]; omega) (by rw [i_add (k := 4) rfl (by decide) h0 h1 hL]; omega) ?_
  refine yL_m 4 (fun _ _ _ _ => rfl) ?_
  refine yL_ld rfl (by rw [i_add (k := 5) rfl (by decide) h0 h1 hL]; omega) (by rw [i_add (k := 5) rfl (by decide) h0 h1 hL]; omega) ?_
  obtain ⟨f0, z0⟩ := J_x hJ.1
  refine yL_cv rfl rfl z0 rfl (by decide) (by decide) (vx_feed hd hJ) ?_
  rintro r0 m0 ⟨n0, s0, k1⟩
  obtain ⟨-, -, v, hv⟩ := fdA_eq s0 s0
  subst hv
  refine yL_m 6 (fun _ _ _ _ => rfl) ?_
  refine yL_ld rfl (by rw [i_add (k := 1) rfl (by decide) h0 h1 hL]; omega) (by rw [i_add (k := 1) rfl (by decide) h0 h1 hL]; omega) ?_
  refine yL_m 4 (fun _ _ _ _ => rfl) ?_
  refine yL_ld rfl (by rw [i_add (k := 2) rfl (by decide) h0 h1 hL]; omega) (by rw [i_add (k := 2) rfl (by decide) h0 h1 hL]; omega) ?_
  refine yL_m 4 (fun _ _ _ _ => rfl) ?_
  refine yL_ld rfl (by rw [i_add (k := 3) rfl (by decide) h0 h1 hL]; omega) (by rw [i_add (k := 3) rfl (by decide) h0 h1 hL]; omega) ?_
  refine yL_m 4 (fun _ _ _ _ => rfl) ?_
  refine yL_ld rfl (by rw [i_add (k := 4) rfl (by decide) h0 h1 hL]; omega) (by rw [i_add (k := 4) rfl (by decide) h0 h1 hL]; omega) ?_
  refine yL_m 4 (fun _ _ _ _ => rfl) ?_
  refine yL_ld rfl (by rw [i_add (k := 5) rfl (by decide) h0 h1 hL]; omega) (by rw [i_add (k := 5) rfl (by decide) h0 h1 hL]; omega) ?_
  obtain ⟨f1, z1⟩ := J_m k1.1
  refine yL_cv rfl rfl z1 rfl (by decide) (by decide) (vm_feed hd k1) ?_
  rintro r1 m1 ⟨n1, s1, k2⟩
  obtain ⟨e1, e2, -⟩ := fdA_eq s0 s1
  subst e1
  subst e2
  refine yL_m 2 (fun _ _ _ _ => rfl) ?_
  exact ih _ _ _ _ _ _ k2 (fdT_sm hS hJ.1)
set_option maxRecDepth 100000 in
theorem la_1 {i a : Int32} {t u : List Int32} {Y : Qd} {N : Nd} (hL : L ≤ 3072) (h0 : 0 ≤ i.toInt) (h1 : i.toInt + 6 ≤ (L : Int)) (hd : 70 ≤ d) (hJ : J6 a a t u Y Y N N mem) (hS : smT t u) (ih : ∀ m a t u Y N, J6 a a t u Y Y N N m → smT t u → yL L xs d (1042, zlo i, [], m) P) : yL L xs d (239, zlo i, [], mem) P := by
  refine yL_m 5 (fun _ _ _ _ => rfl) ?_
  refine yL_ld rfl (by rw [i_add (k := 1) rfl (by decide) h0 h1 hL]; omega) (by rw [i_add (k := 1) rfl (by decide) h0 h1 hL]; omega) ?_
  obtain ⟨f0, z0⟩ := J_x hJ.1
  refine yL_cv rfl rfl z0 rfl (by decide) (by decide) (vx_end hd hJ) ?_
  rintro r0 m0 ⟨n0, s0, k1⟩
  obtain ⟨-, -, v, hv⟩ := enB_eq s0 s0
  subst hv
  refine yL_m 6 (fun _ _ _ _ => rfl) ?_
  refine yL_ld rfl (by rw [i_add (k := 1) rfl (by decide) h0 h1 hL]; omega) (by rw [i_add (k := 1) rfl (by decide) h0 h1 hL]; omega) ?_
  obtain ⟨f1, z1⟩ := J_m k1.1
  refine yL_cv rfl rfl z1 rfl (by decide) (by decide) (vm_end hd k1) ?_
  rintro r1 m1 ⟨n1, s1, k2⟩
  obtain ⟨e1, e2, -⟩ := enB_eq s0 s1
  subst e1
  subst e2
  refine yL_m 2 (fun _ _ _ _ => rfl) ?_
  exact ih _ _ _ _ _ _ k2 hS
set_option maxRecDepth 100000 in
theorem la_2 {i a : Int32} {t u : List Int32} {Y : Qd} {N : Nd} (hL : L ≤ 3072) (h0 : 0 ≤ i.toInt) (h1 : i.toInt + 6 ≤ (L : Int)) (hd : 70 ≤ d) (hJ : J6 a a t u Y Y N N mem) (hS : smT t u) (ih : ∀ m a t u Y N, J6 a a t u Y Y N N m → smT t u → yL L xs d (1042, zlo i, [], m) P) : yL L xs d (262, zlo i, [], mem) P := by
  refine yL_m 1 (fun _ _ _ _ => rfl) ?_
  obtain ⟨f0, z0⟩ := J_x hJ.1
  refine yL_cv rfl rfl z0 rfl (by decide) (by decide) (vx_quay hd hJ) ?_
  rintro r0 m0 ⟨Y1, N1, s0, k1⟩
  obtain ⟨-, -, -, v, hv⟩ := quR_eq s0 s0
  subst hv
  refine yL_m 2 (fun _ _ _ _ => rfl) ?_
  obtain ⟨f1, z1⟩ := J_m k1.1
  refine yL_cv rfl rfl z1 rfl (by decide) (by decide) (vm_quay hd k1) ?_
  rintro r1 m1 ⟨Y2, N2, s1, k2⟩
  have eS : sQua t a.toInt = sQua u a.toInt := sQua_c (fun j hj => hS j (by have := J5_n hJ.1; omega))
  rw [← eS] at s1
  obtain ⟨e1, e2, e3, -⟩ := quR_eq s0 s1
  subst e1
  subst e2
  subst e3
  refine yL_m 2 (fun _ _ _ _ => rfl) ?_
  exact ih _ _ _ _ _ _ k2 hS
set_option maxRecDepth 100000 in
theorem la_3 {i a : Int32} {t u : List Int32} {Y : Qd} {N : Nd} (hL : L ≤ 3072) (h0 : 0 ≤ i.toInt) (h1 : i.toInt + 6 ≤ (L : Int)) (hd : 70 ≤ d) (hJ : J6 a a t u Y Y N N mem) (hS : smT t u) (ih : ∀ m a t u Y N, J6 a a t u Y Y N N m → smT t u → yL L xs d (1042, zlo i, [], m) P) : yL L xs d (275, zlo i, [], mem) P := by
  refine yL_m 5 (fun _ _ _ _ => rfl) ?_
  refine yL_ld rfl (by rw [i_add (k := 1) rfl (by decide) h0 h1 hL]; omega) (by rw [i_add (k := 1) rfl (by decide) h0 h1 hL]; omega) ?_
  obtain ⟨f0, z0⟩ := J_x hJ.1
  refine yL_cv rfl rfl z0 rfl (by decide) (by decide) (vx_fault hd hJ) ?_
  rintro _ m0 ⟨k1, v0, rfl⟩
  refine yL_m 6 (fun _ _ _ _ => rfl) ?_
  refine yL_ld rfl (by rw [i_add (k := 1) rfl (by decide) h0 h1 hL]; omega) (by rw [i_add (k := 1) rfl (by decide) h0 h1 hL]; omega) ?_
  obtain ⟨f1, z1⟩ := J_m k1.1
  refine yL_cv rfl rfl z1 rfl (by decide) (by decide) (vm_fault hd k1) ?_
  rintro _ m1 ⟨k2, v1, rfl⟩
  refine yL_m 2 (fun _ _ _ _ => rfl) ?_
  exact ih _ _ _ _ _ _ k2 hS
set_option maxRecDepth 100000 in
theorem la_4 {i a : Int32} {t u : List Int32} {Y : Qd} {N : Nd} (hL : L ≤ 3072) (h0 : 0 ≤ i.toInt) (h1 : i.toInt + 6 ≤ (L : Int)) (hd : 70 ≤ d) (hJ : J6 a a t u Y Y N N mem) (hS : smT t u) (ih : ∀ m a t u Y N, J6 a a t u Y Y N N m → smT t u → yL L xs d (1042, zlo i, [], m) P) : yL L xs d (298, zlo i, [], mem) P := by
  refine yL_m 5 (fun _ _ _ _ => rfl) ?_
  refine yL_ld rfl (by rw [i_add (k := 1) rfl (by decide) h0 h1 hL]; omega) (by rw [i_add (k := 1) rfl (by decide) h0 h1 hL]; omega) ?_
  obtain ⟨f0, z0⟩ := J_x hJ.1
  refine yL_cv rfl rfl z0 rfl (by decide) (by decide) (vx_has hd hJ) ?_
  rintro _ m0 ⟨k1, v0, rfl⟩
  refine yL_m 6 (fun _ _ _ _ => rfl) ?_
  refine yL_ld rfl (by rw [i_add (k := 1) rfl (by decide) h0 h1 hL]; omega) (by rw [i_add (k := 1) rfl (by decide) h0 h1 hL]; omega) ?_
  obtain ⟨f1, z1⟩ := J_m k1.1
  refine yL_cv rfl rfl z1 rfl (by decide) (by decide) (vm_has hd k1) ?_
  rintro _ m1 ⟨k2, v1, rfl⟩
  refine yL_m 2 (fun _ _ _ _ => rfl) ?_
  exact ih _ _ _ _ _ _ k2 hS
set_option maxRecDepth 100000 in
theorem la_5 {i a : Int32} {t u : List Int32} {Y : Qd} {N : Nd} (hL : L ≤ 3072) (h0 : 0 ≤ i.toInt) (h1 : i.toInt + 6 ≤ (L : Int)) (hd : 70 ≤ d) (hJ : J6 a a t u Y Y N N mem) (hS : smT t u) (ih : ∀ m a t u Y N, J6 a a t u Y Y N N m → smT t u → yL L xs d (1042, zlo i, [], m) P) : yL L xs d (321, zlo i, [], mem) P := by
  refine yL_m 5 (fun _ _ _ _ => rfl) ?_
  refine yL_ld rfl (by rw [i_add (k := 1) rfl (by decide) h0 h1 hL]; omega) (by rw [i_add (k := 1) rfl (by decide) h0 h1 hL]; omega) ?_
  refine yL_m 4 (fun _ _ _ _ => rfl) ?_
  refine yL_ld rfl (by rw [i_add (k := 2) rfl (by decide) h0 h1 hL]; omega) (by rw [i_add (k := 2) rfl (by decide) h0 h1 hL]; omega) ?_
  refine yL_m 4 (fun _ _ _ _ => rfl) ?_
  refine yL_ld rfl (by rw [i_add (k := 3) rfl (by decide) h0 h1 hL]; omega) (by rw [i_add (k := 3) rfl (by decide) h0 h1 hL]; omega) ?_
  obtain ⟨f0, z0⟩ := J_x hJ.1
  refine yL_cv rfl rfl z0 rfl (by decide) (by decide) (vx_letter hd hJ) ?_
  rintro _ m0 ⟨k1, v0, rfl⟩
  refine yL_m 6 (fun _ _ _ _ => rfl) ?_
  refine yL_ld rfl (by rw [i_add (k := 1) rfl (by decide) h0 h1 hL]; omega) (by rw [i_add (k := 1) rfl (by decide) h0 h1 hL]; omega) ?_
  refine yL_m 4 (fun _ _ _ _ => rfl) ?_
  refine yL_ld rfl (by rw [i_add (k := 2) rfl (by decide) h0 h1 hL]; omega) (by rw [i_add (k := 2) rfl (by decide) h0 h1 hL]; omega) ?_
  refine yL_m 4 (fun _ _ _ _ => rfl) ?_
  refine yL_ld rfl (by rw [i_add (k := 3) rfl (by decide) h0 h1 hL]; omega) (by rw [i_add (k := 3) rfl (by decide) h0 h1 hL]; omega) ?_
  obtain ⟨f1, z1⟩ := J_m k1.1
  refine yL_cv rfl rfl z1 rfl (by decide) (by decide) (vm_letter hd k1) ?_
  rintro _ m1 ⟨k2, v1, rfl⟩
  refine yL_m 2 (fun _ _ _ _ => rfl) ?_
  exact ih _ _ _ _ _ _ k2 hS
set_option maxRecDepth 100000 in
theorem la_6 {i a : Int32} {t u : List Int32} {Y : Qd} {N : Nd} (hL : L ≤ 3072) (h0 : 0 ≤ i.toInt) (h1 : i.toInt + 6 ≤ (L : Int)) (hd : 70 ≤ d) (hJ : J6 a a t u Y Y N N mem) (hS : smT t u) (ih : ∀ m a t u Y N, J6 a a t u Y Y N N m → smT t u → yL L xs d (1042, zlo i, [], m) P) : yL L xs d (364, zlo i, [], mem) P := by
  refine yL_m 5 (fun _ _ _ _ => rfl) ?_
  refine yL_ld rfl (by rw [i_add (k := 1) rfl (by decide) h0 h1 hL]; omega) (by rw [i_add (k := 1) rfl (by decide) h0 h1 hL]; omega) ?_
  refine yL_m 4 (fun _ _ _ _ => rfl) ?_
  refine yL_ld rfl (by rw [i_add (k := 2) rfl (by decide) h0 h1 hL]; omega) (by rw [i_add (k := 2) rfl (by decide) h0 h1 hL]; omega) ?_
  refine yL_m 4 (fun _ _ _ _ => rfl) ?_
  refine yL_ld rfl (by rw [i_add (k := 3) rfl (by decide) h0 h1 hL]; omega) (by rw [i_add (k := 3) rfl (by decide) h0 h1 hL]; omega) ?_
  obtain ⟨f0, z0⟩ := J_x hJ.1
  refine yL_cv rfl rfl z0 rfl (by decide) (by decide) (vx_cell hd hJ) ?_
  rintro _ m0 ⟨k1, v0, rfl⟩
  refine yL_m 6 (fun _ _ _ _ => rfl) ?_
  refine yL_ld rfl (by rw [i_add (k := 1) rfl (by decide) h0 h1 hL]; omega) (by rw [i_add (k := 1) rfl (by decide) h0 h1 hL]; omega) ?_
  refine yL_m 4 (fun _ _ _ _ => rfl) ?_
  refine yL_ld rfl (by rw [i_add (k := 2) rfl (by decide) h0 h1 hL]; omega) (by rw [i_add (k := 2) rfl (by decide) h0 h1 hL]; omega) ?_
  refine yL_m 4 (fun _ _ _ _ => rfl) ?_
  refine yL_ld rfl (by rw [i_add (k := 3) rfl (by decide) h0 h1 hL]; omega) (by rw [i_add (k := 3) rfl (by decide) h0 h1 hL]; omega) ?_
  obtain ⟨f1, z1⟩ := J_m k1.1
  refine yL_cv rfl rfl z1 rfl (by decide) (by decide) (vm_cell hd k1) ?_
  rintro _ m1 ⟨k2, v1, rfl⟩
  refine yL_m 2 (fun _ _ _ _ => rfl) ?_
  exact ih _ _ _ _ _ _ k2 hS
set_option maxRecDepth 100000 in
theorem la_7 {i a : Int32} {t u : List Int32} {Y : Qd} {N : Nd} (hL : L ≤ 3072) (h0 : 0 ≤ i.toInt) (h1 : i.toInt + 6 ≤ (L : Int)) (hd : 70 ≤ d) (hJ : J6 a a t u Y Y N N mem) (hS : smT t u) (ih : ∀ m a t u Y N, J6 a a t u Y Y N N m → smT t u → yL L xs d (1042, zlo i, [], m) P) : yL L xs d (407, zlo i, [], mem) P := by
  refine yL_m 5 (fun _ _ _ _ => rfl) ?_
  refine yL_ld rfl (by rw [i_add (k := 1) rfl (by decide) h0 h1 hL]; omega) (by rw [i_add (k := 1) rfl (by decide) h0 h1 hL]; omega) ?_
  refine yL_m 4 (fun _ _ _ _ => rfl) ?_
  refine yL_ld rfl (by rw [i_add (k := 2) rfl (by decide) h0 h1 hL]; omega) (by rw [i_add (k := 2) rfl (by decide) h0 h1 hL]; omega) ?_
  obtain ⟨f0, z0⟩ := J_x hJ.1
  refine yL_cv rfl rfl z0 rfl (by decide) (by decide) (vx_thing hd hJ) ?_
  rintro _ m0 ⟨k1, v0, rfl⟩
  refine yL_m 6 (fun _ _ _ _ => rfl) ?_
  refine yL_ld rfl (by rw [i_add (k := 1) rfl (by decide) h0 h1 hL]; omega) (by rw [i_add (k := 1) rfl (by decide) h0 h1 hL]; omega) ?_
  refine yL_m 4 (fun _ _ _ _ => rfl) ?_
  refine yL_ld rfl (by rw [i_add (k := 2) rfl (by decide) h0 h1 hL]; omega) (by rw [i_add (k := 2) rfl (by decide) h0 h1 hL]; omega) ?_
  obtain ⟨f1, z1⟩ := J_m k1.1
  refine yL_cv rfl rfl z1 rfl (by decide) (by decide) (vm_thing hd k1) ?_
  rintro _ m1 ⟨k2, v1, rfl⟩
  refine yL_m 2 (fun _ _ _ _ => rfl) ?_
  exact ih _ _ _ _ _ _ k2 hS
set_option maxRecDepth 100000 in
theorem la_8 {i a : Int32} {t u : List Int32} {Y : Qd} {N : Nd} (hL : L ≤ 3072) (h0 : 0 ≤ i.toInt) (h1 : i.toInt + 6 ≤ (L : Int)) (hd : 70 ≤ d) (hJ : J6 a a t u Y Y N N mem) (hS : smT t u) (ih : ∀ m a t u Y N, J6 a a t u Y Y N N m → smT t u → yL L xs d (1042, zlo i, [], m) P) : yL L xs d (440, zlo i, [], mem) P := by
  refine yL_m 5 (fun _ _ _ _ => rfl) ?_
  refine yL_ld rfl (by rw [i_add (k := 1) rfl (by decide) h0 h1 hL]; omega) (by rw [i_add (k := 1) rfl (by decide) h0 h1 hL]; omega) ?_
  refine yL_m 4 (fun _ _ _ _ => rfl) ?_
  refine yL_ld rfl (by rw [i_add (k := 2) rfl (by decide) h0 h1 hL]; omega) (by rw [i_add (k := 2) rfl (by decide) h0 h1 hL]; omega) ?_
  obtain ⟨f0, z0⟩ := J_x hJ.1
  refine yL_cv rfl rfl z0 rfl (by decide) (by decide) (vx_folk hd hJ) ?_
  rintro _ m0 ⟨k1, v0, rfl⟩
  refine yL_m 6 (fun _ _ _ _ => rfl) ?_
  refine yL_ld rfl (by rw [i_add (k := 1) rfl (by decide) h0 h1 hL]; omega) (by rw [i_add (k := 1) rfl (by decide) h0 h1 hL]; omega) ?_
  refine yL_m 4 (fun _ _ _ _ => rfl) ?_
  refine yL_ld rfl (by rw [i_add (k := 2) rfl (by decide) h0 h1 hL]; omega) (by rw [i_add (k := 2) rfl (by decide) h0 h1 hL]; omega) ?_
  obtain ⟨f1, z1⟩ := J_m k1.1
  refine yL_cv rfl rfl z1 rfl (by decide) (by decide) (vm_folk hd k1) ?_
  rintro _ m1 ⟨k2, v1, rfl⟩
  refine yL_m 2 (fun _ _ _ _ => rfl) ?_
  exact ih _ _ _ _ _ _ k2 hS
set_option maxRecDepth 100000 in
theorem la_9 {i a : Int32} {t u : List Int32} {Y : Qd} {N : Nd} (hL : L ≤ 3072) (h0 : 0 ≤ i.toInt) (h1 : i.toInt + 6 ≤ (L : Int)) (hd : 70 ≤ d) (hJ : J6 a a t u Y Y N N mem) (hS : smT t u) (ih : ∀ m a t u Y N, J6 a a t u Y Y N N m → smT t u → yL L xs d (1042, zlo i, [], m) P) : yL L xs d (473, zlo i, [], mem) P := by
  refine yL_m 5 (fun _ _ _ _ => rfl) ?_
  refine yL_ld rfl (by rw [i_add (k := 1) rfl (by decide) h0 h1 hL]; omega) (by rw [i_add (k := 1) rfl (by decide) h0 h1 hL]; omega) ?_
  refine yL_m 4 (fun _ _ _ _ => rfl) ?_
  refine yL_ld rfl (by rw [i_add (k := 2) rfl (by decide) h0 h1 hL]; omega) (by rw [i_add (k := 2) rfl (by decide) h0 h1 hL]; omega) ?_
  refine yL_m 4 (fun _ _ _ _ => rfl) ?_
  refine yL_ld rfl (by rw [i_add (k := 3) rfl (by decide) h0 h1 hL]; omega) (by rw [i_add (k := 3) rfl (by decide) h0 h1 hL]; omega) ?_
  obtain ⟨f0, z0⟩ := J_x hJ.1
  refine yL_cv rfl rfl z0 rfl (by decide) (by decide) (vx_later hd hJ) ?_
  rintro _ m0 ⟨k1, v0, rfl⟩
  refine yL_m 6 (fun _ _ _ _ => rfl) ?_
  refine yL_ld rfl (by rw [i_add (k := 1) rfl (by decide) h0 h1 hL]; omega) (by rw [i_add (k := 1) rfl (by decide) h0 h1 hL]; omega) ?_
  refine yL_m 4 (fun _ _ _ _ => rfl) ?_
  refine yL_ld rfl (by rw [i_add (k := 2) rfl (by decide) h0 h1 hL]; omega) (by rw [i_add (k := 2) rfl (by decide) h0 h1 hL]; omega) ?_
  refine yL_m 4 (fun _ _ _ _ => rfl) ?_
  refine yL_ld rfl (by rw [i_add (k := 3) rfl (by decide) h0 h1 hL]; omega) (by rw [i_add (k := 3) rfl (by decide) h0 h1 hL]; omega) ?_
  obtain ⟨f1, z1⟩ := J_m k1.1
  refine yL_cv rfl rfl z1 rfl (by decide) (by decide) (vm_later hd k1) ?_
  rintro _ m1 ⟨k2, v1, rfl⟩
  refine yL_m 2 (fun _ _ _ _ => rfl) ?_
  exact ih _ _ _ _ _ _ k2 hS
set_option maxRecDepth 100000 in
theorem la_10 {i a : Int32} {t u : List Int32} {Y : Qd} {N : Nd} (hL : L ≤ 3072) (h0 : 0 ≤ i.toInt) (h1 : i.toInt + 6 ≤ (L : Int)) (hd : 70 ≤ d) (hJ : J6 a a t u Y Y N N mem) (hS : smT t u) (ih : ∀ m a t u Y N, J6 a a t u Y Y N N m → smT t u → yL L xs d (1042, zlo i, [], m) P) : yL L xs d (516, zlo i, [], mem) P := by
  refine yL_m 5 (fun _ _ _ _ => rfl) ?_
  refine yL_ld rfl (by rw [i_add (k := 1) rfl (by decide) h0 h1 hL]; omega) (by rw [i_add (k := 1) rfl (by decide) h0 h1 hL]; omega) ?_
  obtain ⟨f0, z0⟩ := J_x hJ.1
  refine yL_cv rfl rfl z0 rfl (by decide) (by decide) (vx_home hd hJ) ?_
  rintro _ m0 ⟨k1, v0, rfl⟩
  refine yL_m 6 (fun _ _ _ _ => rfl) ?_
  refine yL_ld rfl (by rw [i_add (k := 1) rfl (by decide) h0 h1 hL]; omega) (by rw [i_add (k := 1) rfl (by decide) h0 h1 hL]; omega) ?_
  obtain ⟨f1, z1⟩ := J_m k1.1
  refine yL_cv rfl rfl z1 rfl (by decide) (by decide) (vm_home hd k1) ?_
  rintro _ m1 ⟨k2, v1, rfl⟩
  refine yL_m 2 (fun _ _ _ _ => rfl) ?_
  exact ih _ _ _ _ _ _ k2 hS
set_option maxRecDepth 100000 in
theorem la_11 {i a : Int32} {t u : List Int32} {Y : Qd} {N : Nd} (hL : L ≤ 3072) (h0 : 0 ≤ i.toInt) (h1 : i.toInt + 6 ≤ (L : Int)) (hd : 70 ≤ d) (hJ : J6 a a t u Y Y N N mem) (hS : smT t u) (ih : ∀ m a t u Y N, J6 a a t u Y Y N N m → smT t u → yL L xs d (1042, zlo i, [], m) P) : yL L xs d (539, zlo i, [], mem) P := by
  refine yL_m 5 (fun _ _ _ _ => rfl) ?_
  refine yL_ld rfl (by rw [i_add (k := 1) rfl (by decide) h0 h1 hL]; omega) (by rw [i_add (k := 1) rfl (by decide) h0 h1 hL]; omega) ?_
  refine yL_m 4 (fun _ _ _ _ => rfl) ?_
  refine yL_ld rfl (by rw [i_add (k := 2) rfl (by decide) h0 h1 hL]; omega) (by rw [i_add (k := 2) rfl (by decide) h0 h1 hL]; omega) ?_
  obtain ⟨f0, z0⟩ := J_x hJ.1
  refine yL_cv rfl rfl z0 rfl (by decide) (by decide) (vx_missing hd hJ) ?_
  rintro _ m0 ⟨k1, v0, rfl⟩
  refine yL_m 6 (fun _ _ _ _ => rfl) ?_
  refine yL_ld rfl (by rw [i_add (k := 1) rfl (by decide) h0 h1 hL]; omega) (by rw [i_add (k := 1) rfl (by decide) h0 h1 hL]; omega) ?_
  refine yL_m 4 (fun _ _ _ _ => rfl) ?_
  refine yL_ld rfl (by rw [i_add (k := 2) rfl (by decide) h0 h1 hL]; omega) (by rw [i_add (k := 2) rfl (by decide) h0 h1 hL]; omega) ?_
  obtain ⟨f1, z1⟩ := J_m k1.1
  refine yL_cv rfl rfl z1 rfl (by decide) (by decide) (vm_missing hd k1) ?_
  rintro _ m1 ⟨k2, v1, rfl⟩
  refine yL_m 2 (fun _ _ _ _ => rfl) ?_
  exact ih _ _ _ _ _ _ k2 hS
set_option maxRecDepth 100000 in
theorem la_12 {i a : Int32} {t u : List Int32} {Y : Qd} {N : Nd} (hL : L ≤ 3072) (h0 : 0 ≤ i.toInt) (h1 : i.toInt + 6 ≤ (L : Int)) (hd : 70 ≤ d) (hJ : J6 a a t u Y Y N N mem) (hS : smT t u) (ih : ∀ m a t u Y N, J6 a a t u Y Y N N m → smT t u → yL L xs d (1042, zlo i, [], m) P) : yL L xs d (572, zlo i, [], mem) P := by
  refine yL_m 5 (fun _ _ _ _ => rfl) ?_
  refine yL_ld rfl (by rw [i_add (k := 1) rfl (by decide) h0 h1 hL]; omega) (by rw [i_add (k := 1) rfl (by decide) h0 h1 hL]; omega) ?_
  refine yL_m 4 (fun _ _ _ _ => rfl) ?_
  refine yL_ld rfl (by rw [i_add (k := 2) rfl (by decide) h0 h1 hL]; omega) (by rw [i_add (k := 2) rfl (by decide) h0 h1 hL]; omega) ?_
  obtain ⟨f0, z0⟩ := J_x hJ.1
  refine yL_cv rfl rfl z0 rfl (by decide) (by decide) (vx_losses hd hJ) ?_
  rintro _ m0 ⟨k1, v0, rfl⟩
  refine yL_m 6 (fun _ _ _ _ => rfl) ?_
  refine yL_ld rfl (by rw [i_add (k := 1) rfl (by decide) h0 h1 hL]; omega) (by rw [i_add (k := 1) rfl (by decide) h0 h1 hL]; omega) ?_
  refine yL_m 4 (fun _ _ _ _ => rfl) ?_
  refine yL_ld rfl (by rw [i_add (k := 2) rfl (by decide) h0 h1 hL]; omega) (by rw [i_add (k := 2) rfl (by decide) h0 h1 hL]; omega) ?_
  obtain ⟨f1, z1⟩ := J_m k1.1
  refine yL_cv rfl rfl z1 rfl (by decide) (by decide) (vm_losses hd k1) ?_
  rintro _ m1 ⟨k2, v1, rfl⟩
  refine yL_m 2 (fun _ _ _ _ => rfl) ?_
  exact ih _ _ _ _ _ _ k2 hS
set_option maxRecDepth 100000 in
theorem la_13 {i a : Int32} {t u : List Int32} {Y : Qd} {N : Nd} (hL : L ≤ 3072) (h0 : 0 ≤ i.toInt) (h1 : i.toInt + 6 ≤ (L : Int)) (hd : 70 ≤ d) (hJ : J6 a a t u Y Y N N mem) (hS : smT t u) (ih : ∀ m a t u Y N, J6 a a t u Y Y N N m → smT t u → yL L xs d (1042, zlo i, [], m) P) : yL L xs d (605, zlo i, [], mem) P := by
  refine yL_m 5 (fun _ _ _ _ => rfl) ?_
  refine yL_ld rfl (by rw [i_add (k := 1) rfl (by decide) h0 h1 hL]; omega) (by rw [i_add (k := 1) rfl (by decide) h0 h1 hL]; omega) ?_
  refine yL_m 4 (fun _ _ _ _ => rfl) ?_
  refine yL_ld rfl (by rw [i_add (k := 2) rfl (by decide) h0 h1 hL]; omega) (by rw [i_add (k := 2) rfl (by decide) h0 h1 hL]; omega) ?_
  obtain ⟨f0, z0⟩ := J_x hJ.1
  refine yL_cv rfl rfl z0 rfl (by decide) (by decide) (vx_worst hd hJ) ?_
  rintro _ m0 ⟨k1, v0, rfl⟩
  refine yL_m 6 (fun _ _ _ _ => rfl) ?_
  refine yL_ld rfl (by rw [i_add (k := 1) rfl (by decide) h0 h1 hL]; omega) (by rw [i_add (k := 1) rfl (by decide) h0 h1 hL]; omega) ?_
  refine yL_m 4 (fun _ _ _ _ => rfl) ?_
  refine yL_ld rfl (by rw [i_add (k := 2) rfl (by decide) h0 h1 hL]; omega) (by rw [i_add (k := 2) rfl (by decide) h0 h1 hL]; omega) ?_
  obtain ⟨f1, z1⟩ := J_m k1.1
  refine yL_cv rfl rfl z1 rfl (by decide) (by decide) (vm_worst hd k1) ?_
  rintro _ m1 ⟨k2, v1, rfl⟩
  refine yL_m 2 (fun _ _ _ _ => rfl) ?_
  exact ih _ _ _ _ _ _ k2 hS
set_option maxRecDepth 100000 in
theorem la_14 {i a : Int32} {t u : List Int32} {Y : Qd} {N : Nd} (hL : L ≤ 3072) (h0 : 0 ≤ i.toInt) (h1 : i.toInt + 6 ≤ (L : Int)) (hd : 70 ≤ d) (hJ : J6 a a t u Y Y N N mem) (hS : smT t u) (ih : ∀ m a t u Y N, J6 a a t u Y Y N N m → smT t u → yL L xs d (1042, zlo i, [], m) P) : yL L xs d (638, zlo i, [], mem) P := by
  refine yL_m 1 (fun _ _ _ _ => rfl) ?_
  obtain ⟨f0, z0⟩ := J_x hJ.1
  refine yL_cv rfl rfl z0 rfl (by decide) (by decide) (vx_cover hd hJ) ?_
  rintro _ m0 ⟨k1, v0, rfl⟩
  refine yL_m 2 (fun _ _ _ _ => rfl) ?_
  obtain ⟨f1, z1⟩ := J_m k1.1
  refine yL_cv rfl rfl z1 rfl (by decide) (by decide) (vm_cover hd k1) ?_
  rintro _ m1 ⟨k2, v1, rfl⟩
  refine yL_m 2 (fun _ _ _ _ => rfl) ?_
  exact ih _ _ _ _ _ _ k2 hS
set_option maxRecDepth 100000 in
theorem la_15 {i a : Int32} {t u : List Int32} {Y : Qd} {N : Nd} (hL : L ≤ 3072) (h0 : 0 ≤ i.toInt) (h1 : i.toInt + 6 ≤ (L : Int)) (hd : 70 ≤ d) (hJ : J6 a a t u Y Y N N mem) (hS : smT t u) (ih : ∀ m a t u Y N, J6 a a t u Y Y N N m → smT t u → yL L xs d (1042, zlo i, [], m) P) : yL L xs d (651, zlo i, [], mem) P := by
  refine yL_m 5 (fun _ _ _ _ => rfl) ?_
  refine yL_ld rfl (by rw [i_add (k := 1) rfl (by decide) h0 h1 hL]; omega) (by rw [i_add (k := 1) rfl (by decide) h0 h1 hL]; omega) ?_
  obtain ⟨f0, z0⟩ := J_x hJ.1
  refine yL_cv rfl rfl z0 rfl (by decide) (by decide) (vx_send hd hJ) ?_
  rintro _ m0 ⟨k1, v0, rfl⟩
  refine yL_m 6 (fun _ _ _ _ => rfl) ?_
  refine yL_ld rfl (by rw [i_add (k := 1) rfl (by decide) h0 h1 hL]; omega) (by rw [i_add (k := 1) rfl (by decide) h0 h1 hL]; omega) ?_
  obtain ⟨f1, z1⟩ := J_m k1.1
  refine yL_cv rfl rfl z1 rfl (by decide) (by decide) (vm_send hd k1) ?_
  rintro _ m1 ⟨k2, v1, rfl⟩
  refine yL_m 2 (fun _ _ _ _ => rfl) ?_
  exact ih _ _ _ _ _ _ k2 hS
set_option maxRecDepth 100000 in
theorem la_16 {i a : Int32} {t u : List Int32} {Y : Qd} {N : Nd} (hL : L ≤ 3072) (h0 : 0 ≤ i.toInt) (h1 : i.toInt + 6 ≤ (L : Int)) (hd : 70 ≤ d) (hJ : J6 a a t u Y Y N N mem) (hS : smT t u) (ih : ∀ m a t u Y N, J6 a a t u Y Y N N m → smT t u → yL L xs d (1042, zlo i, [], m) P) : yL L xs d (674, zlo i, [], mem) P := by
  refine yL_m 5 (fun _ _ _ _ => rfl) ?_
  refine yL_ld rfl (by rw [i_add (k := 1) rfl (by decide) h0 h1 hL]; omega) (by rw [i_add (k := 1) rfl (by decide) h0 h1 hL]; omega) ?_
  obtain ⟨f0, z0⟩ := J_x hJ.1
  refine yL_cv rfl rfl z0 rfl (by decide) (by decide) (vx_odds hd hJ) ?_
  rintro _ m0 ⟨k1, v0, rfl⟩
  refine yL_m 6 (fun _ _ _ _ => rfl) ?_
  refine yL_ld rfl (by rw [i_add (k := 1) rfl (by decide) h0 h1 hL]; omega) (by rw [i_add (k := 1) rfl (by decide) h0 h1 hL]; omega) ?_
  obtain ⟨f1, z1⟩ := J_m k1.1
  refine yL_cv rfl rfl z1 rfl (by decide) (by decide) (vm_odds hd k1) ?_
  rintro _ m1 ⟨k2, v1, rfl⟩
  refine yL_m 2 (fun _ _ _ _ => rfl) ?_
  exact ih _ _ _ _ _ _ k2 hS
set_option maxRecDepth 100000 in
theorem la_17 {i a : Int32} {t u : List Int32} {Y : Qd} {N : Nd} (hL : L ≤ 3072) (h0 : 0 ≤ i.toInt) (h1 : i.toInt + 6 ≤ (L : Int)) (hd : 70 ≤ d) (hJ : J6 a a t u Y Y N N mem) (hS : smT t u) (ih : ∀ m a t u Y N, J6 a a t u Y Y N N m → smT t u → yL L xs d (1042, zlo i, [], m) P) : yL L xs d (697, zlo i, [], mem) P := by
  refine yL_m 1 (fun _ _ _ _ => rfl) ?_
  obtain ⟨f0, z0⟩ := J_x hJ.1
  refine yL_cv rfl rfl z0 rfl (by decide) (by decide) (vx_meet hd hJ) ?_
  rintro _ m0 ⟨k1, v0, rfl⟩
  refine yL_m 2 (fun _ _ _ _ => rfl) ?_
  obtain ⟨f1, z1⟩ := J_m k1.1
  refine yL_cv rfl rfl z1 rfl (by decide) (by decide) (vm_meet hd k1) ?_
  rintro _ m1 ⟨k2, v1, rfl⟩
  refine yL_m 2 (fun _ _ _ _ => rfl) ?_
  exact ih _ _ _ _ _ _ k2 hS
set_option maxRecDepth 100000 in
theorem la_18 {i a : Int32} {t u : List Int32} {Y : Qd} {N : Nd} (hL : L ≤ 3072) (h0 : 0 ≤ i.toInt) (h1 : i.toInt + 6 ≤ (L : Int)) (hd : 70 ≤ d) (hJ : J6 a a t u Y Y N N mem) (hS : smT t u) (ih : ∀ m a t u Y N, J6 a a t u Y Y N N m → smT t u → yL L xs d (1042, zlo i, [], m) P) : yL L xs d (710, zlo i, [], mem) P := by
  refine yL_m 5 (fun _ _ _ _ => rfl) ?_
  refine yL_ld rfl (by rw [i_add (k := 1) rfl (by decide) h0 h1 hL]; omega) (by rw [i_add (k := 1) rfl (by decide) h0 h1 hL]; omega) ?_
  obtain ⟨f0, z0⟩ := J_x hJ.1
  refine yL_cv rfl rfl z0 rfl (by decide) (by decide) (vx_hues hd hJ) ?_
  rintro _ m0 ⟨k1, v0, rfl⟩
  refine yL_m 6 (fun _ _ _ _ => rfl) ?_
  refine yL_ld rfl (by rw [i_add (k := 1) rfl (by decide) h0 h1 hL]; omega) (by rw [i_add (k := 1) rfl (by decide) h0 h1 hL]; omega) ?_
  obtain ⟨f1, z1⟩ := J_m k1.1
  refine yL_cv rfl rfl z1 rfl (by decide) (by decide) (vm_hues hd k1) ?_
  rintro _ m1 ⟨k2, v1, rfl⟩
  refine yL_m 2 (fun _ _ _ _ => rfl) ?_
  exact ih _ _ _ _ _ _ k2 hS
set_option maxRecDepth 100000 in
theorem la_19 {i a : Int32} {t u : List Int32} {Y : Qd} {N : Nd} (hL : L ≤ 3072) (h0 : 0 ≤ i.toInt) (h1 : i.toInt + 6 ≤ (L : Int)) (hd : 70 ≤ d) (hJ : J6 a a t u Y Y N N mem) (hS : smT t u) (ih : ∀ m a t u Y N, J6 a a t u Y Y N N m → smT t u → yL L xs d (1042, zlo i, [], m) P) : yL L xs d (733, zlo i, [], mem) P := by
  refine yL_m 5 (fun _ _ _ _ => rfl) ?_
  refine yL_ld rfl (by rw [i_add (k := 1) rfl (by decide) h0 h1 hL]; omega) (by rw [i_add (k := 1) rfl (by decide) h0 h1 hL]; omega) ?_
  refine yL_m 4 (fun _ _ _ _ => rfl) ?_
  refine yL_ld rfl (by rw [i_add (k := 2) rfl (by decide) h0 h1 hL]; omega) (by rw [i_add (k := 2) rfl (by decide) h0 h1 hL]; omega) ?_
  obtain ⟨f0, z0⟩ := J_x hJ.1
  refine yL_cv rfl rfl z0 rfl (by decide) (by decide) (vx_tells hd hJ) ?_
  rintro _ m0 ⟨k1, v0, rfl⟩
  refine yL_m 6 (fun _ _ _ _ => rfl) ?_
  refine yL_ld rfl (by rw [i_add (k := 1) rfl (by decide) h0 h1 hL]; omega) (by rw [i_add (k := 1) rfl (by decide) h0 h1 hL]; omega) ?_
  refine yL_m 4 (fun _ _ _ _ => rfl) ?_
  refine yL_ld rfl (by rw [i_add (k := 2) rfl (by decide) h0 h1 hL]; omega) (by rw [i_add (k := 2) rfl (by decide) h0 h1 hL]; omega) ?_
  obtain ⟨f1, z1⟩ := J_m k1.1
  refine yL_cv rfl rfl z1 rfl (by decide) (by decide) (vm_tells hd k1) ?_
  rintro _ m1 ⟨k2, v1, rfl⟩
  refine yL_m 2 (fun _ _ _ _ => rfl) ?_
  exact ih _ _ _ _ _ _ k2 hS
set_option maxRecDepth 100000 in
theorem la_20 {i a : Int32} {t u : List Int32} {Y : Qd} {N : Nd} (hL : L ≤ 3072) (h0 : 0 ≤ i.toInt) (h1 : i.toInt + 6 ≤ (L : Int)) (hd : 70 ≤ d) (hJ : J6 a a t u Y Y N N mem) (hS : smT t u) (ih : ∀ m a t u Y N, J6 a a t u Y Y N N m → smT t u → yL L xs d (1042, zlo i, [], m) P) : yL L xs d (766, zlo i, [], mem) P := by
  refine yL_m 5 (fun _ _ _ _ => rfl) ?_
  refine yL_ld rfl (by rw [i_add (k := 1) rfl (by decide) h0 h1 hL]; omega) (by rw [i_add (k := 1) rfl (by decide) h0 h1 hL]; omega) ?_
  obtain ⟨f0, z0⟩ := J_x hJ.1
  refine yL_cv rfl rfl z0 rfl (by decide) (by decide) (vx_nights hd hJ) ?_
  rintro r0 m0 ⟨N1, s0, k1⟩
  obtain ⟨-, -, v, hv⟩ := acR_eq s0 s0
  subst hv
  refine yL_m 5 (fun _ _ _ _ => rfl) ?_
  refine yL_ld rfl (by rw [i_add (k := 1) rfl (by decide) h0 h1 hL]; omega) (by rw [i_add (k := 1) rfl (by decide) h0 h1 hL]; omega) ?_
  obtain ⟨f1, z1⟩ := J_m k1.1
  refine yL_cv rfl rfl z1 rfl (by decide) (by decide) (vm_nights hd k1) ?_
  rintro r1 m1 ⟨N2, s1, k2⟩
  obtain ⟨e1, e2, -⟩ := acR_eq s0 s1
  subst e1
  subst e2
  refine yL_ic rfl (fun _ => ?_) (fun z => absurd z (by simp))
  exact ih _ _ _ _ _ _ k2 hS
set_option maxRecDepth 100000 in
theorem la_21 {i a : Int32} {t u : List Int32} {Y : Qd} {N : Nd} (hL : L ≤ 3072) (h0 : 0 ≤ i.toInt) (h1 : i.toInt + 6 ≤ (L : Int)) (hd : 70 ≤ d) (hJ : J6 a a t u Y Y N N mem) (hS : smT t u) (ih : ∀ m a t u Y N, J6 a a t u Y Y N N m → smT t u → yL L xs d (1042, zlo i, [], m) P) : yL L xs d (789, zlo i, [], mem) P := by
  refine yL_m 5 (fun _ _ _ _ => rfl) ?_
  refine yL_ld rfl (by rw [i_add (k := 1) rfl (by decide) h0 h1 hL]; omega) (by rw [i_add (k := 1) rfl (by decide) h0 h1 hL]; omega) ?_
  obtain ⟨f0, z0⟩ := J_x hJ.1
  refine yL_cv rfl rfl z0 rfl (by decide) (by decide) (vx_chance hd hJ) ?_
  rintro r0 m0 ⟨N1, s0, k1⟩
  obtain ⟨-, -, v, hv⟩ := acR_eq s0 s0
  subst hv
  refine yL_m 6 (fun _ _ _ _ => rfl) ?_
  refine yL_ld rfl (by rw [i_add (k := 1) rfl (by decide) h0 h1 hL]; omega) (by rw [i_add (k := 1) rfl (by decide) h0 h1 hL]; omega) ?_
  obtain ⟨f1, z1⟩ := J_m k1.1
  refine yL_cv rfl rfl z1 rfl (by decide) (by decide) (vm_chance hd k1) ?_
  rintro r1 m1 ⟨N2, s1, k2⟩
  obtain ⟨e1, e2, -⟩ := acR_eq s0 s1
  subst e1
  subst e2
  refine yL_m 2 (fun _ _ _ _ => rfl) ?_
  exact ih _ _ _ _ _ _ k2 hS
set_option maxRecDepth 100000 in
theorem la_22 {i a : Int32} {t u : List Int32} {Y : Qd} {N : Nd} (hL : L ≤ 3072) (h0 : 0 ≤ i.toInt) (h1 : i.toInt + 6 ≤ (L : Int)) (hd : 70 ≤ d) (hJ : J6 a a t u Y Y N N mem) (hS : smT t u) (ih : ∀ m a t u Y N, J6 a a t u Y Y N N m → smT t u → yL L xs d (1042, zlo i, [], m) P) : yL L xs d (812, zlo i, [], mem) P := by
  refine yL_m 5 (fun _ _ _ _ => rfl) ?_
  refine yL_ld rfl (by rw [i_add (k := 1) rfl (by decide) h0 h1 hL]; omega) (by rw [i_add (k := 1) rfl (by decide) h0 h1 hL]; omega) ?_
  obtain ⟨f0, z0⟩ := J_x hJ.1
  refine yL_cv rfl rfl z0 rfl (by decide) (by decide) (vx_lose hd hJ) ?_
  rintro r0 m0 ⟨N1, s0, k1⟩
  obtain ⟨-, -, v, hv⟩ := acR_eq s0 s0
  subst hv
  refine yL_m 6 (fun _ _ _ _ => rfl) ?_
  refine yL_ld rfl (by rw [i_add (k := 1) rfl (by decide) h0 h1 hL]; omega) (by rw [i_add (k := 1) rfl (by decide) h0 h1 hL]; omega) ?_
  obtain ⟨f1, z1⟩ := J_m k1.1
  refine yL_cv rfl rfl z1 rfl (by decide) (by decide) (vm_lose hd k1) ?_
  rintro r1 m1 ⟨N2, s1, k2⟩
  obtain ⟨e1, e2, -⟩ := acR_eq s0 s1
  subst e1
  subst e2
  refine yL_m 2 (fun _ _ _ _ => rfl) ?_
  exact ih _ _ _ _ _ _ k2 hS
set_option maxRecDepth 100000 in
theorem la_23 {i a : Int32} {t u : List Int32} {Y : Qd} {N : Nd} (hL : L ≤ 3072) (h0 : 0 ≤ i.toInt) (h1 : i.toInt + 6 ≤ (L : Int)) (hd : 70 ≤ d) (hJ : J6 a a t u Y Y N N mem) (hS : smT t u) (ih : ∀ m a t u Y N, J6 a a t u Y Y N N m → smT t u → yL L xs d (1042, zlo i, [], m) P) : yL L xs d (835, zlo i, [], mem) P := by
  refine yL_m 5 (fun _ _ _ _ => rfl) ?_
  refine yL_ld rfl (by rw [i_add (k := 1) rfl (by decide) h0 h1 hL]; omega) (by rw [i_add (k := 1) rfl (by decide) h0 h1 hL]; omega) ?_
  obtain ⟨f0, z0⟩ := J_x hJ.1
  refine yL_cv rfl rfl z0 rfl (by decide) (by decide) (vx_find hd hJ) ?_
  rintro r0 m0 ⟨N1, s0, k1⟩
  obtain ⟨-, -, v, hv⟩ := acR_eq s0 s0
  subst hv
  refine yL_m 6 (fun _ _ _ _ => rfl) ?_
  refine yL_ld rfl (by rw [i_add (k := 1) rfl (by decide) h0 h1 hL]; omega) (by rw [i_add (k := 1) rfl (by decide) h0 h1 hL]; omega) ?_
  obtain ⟨f1, z1⟩ := J_m k1.1
  refine yL_cv rfl rfl z1 rfl (by decide) (by decide) (vm_find hd k1) ?_
  rintro r1 m1 ⟨N2, s1, k2⟩
  obtain ⟨e1, e2, -⟩ := acR_eq s0 s1
  subst e1
  subst e2
  refine yL_m 2 (fun _ _ _ _ => rfl) ?_
  exact ih _ _ _ _ _ _ k2 hS
set_option maxRecDepth 100000 in
theorem la_24 {i a : Int32} {t u : List Int32} {Y : Qd} {N : Nd} (hL : L ≤ 3072) (h0 : 0 ≤ i.toInt) (h1 : i.toInt + 6 ≤ (L : Int)) (hd : 70 ≤ d) (hJ : J6 a a t u Y Y N N mem) (hS : smT t u) (ih : ∀ m a t u Y N, J6 a a t u Y Y N N m → smT t u → yL L xs d (1042, zlo i, [], m) P) : yL L xs d (858, zlo i, [], mem) P := by
  refine yL_m 5 (fun _ _ _ _ => rfl) ?_
  refine yL_ld rfl (by rw [i_add (k := 1) rfl (by decide) h0 h1 hL]; omega) (by rw [i_add (k := 1) rfl (by decide) h0 h1 hL]; omega) ?_
  refine yL_m 4 (fun _ _ _ _ => rfl) ?_
  refine yL_ld rfl (by rw [i_add (k := 2) rfl (by decide) h0 h1 hL]; omega) (by rw [i_add (k := 2) rfl (by decide) h0 h1 hL]; omega) ?_
  refine yL_m 4 (fun _ _ _ _ => rfl) ?_
  refine yL_ld rfl (by rw [i_add (k := 3) rfl (by decide) h0 h1 hL]; omega) (by rw [i_add (k := 3) rfl (by decide) h0 h1 hL]; omega) ?_
  obtain ⟨f0, z0⟩ := J_x hJ.1
  refine yL_cv rfl rfl z0 rfl (by decide) (by decide) (vx_lead hd hJ) ?_
  rintro r0 m0 ⟨N1, s0, k1⟩
  obtain ⟨-, -, v, hv⟩ := acR_eq s0 s0
  subst hv
  refine yL_m 6 (fun _ _ _ _ => rfl) ?_
  refine yL_ld rfl (by rw [i_add (k := 1) rfl (by decide) h0 h1 hL]; omega) (by rw [i_add (k := 1) rfl (by decide) h0 h1 hL]; omega) ?_
  refine yL_m 4 (fun _ _ _ _ => rfl) ?_
  refine yL_ld rfl (by rw [i_add (k := 2) rfl (by decide) h0 h1 hL]; omega) (by rw [i_add (k := 2) rfl (by decide) h0 h1 hL]; omega) ?_
  refine yL_m 4 (fun _ _ _ _ => rfl) ?_
  refine yL_ld rfl (by rw [i_add (k := 3) rfl (by decide) h0 h1 hL]; omega) (by rw [i_add (k := 3) rfl (by decide) h0 h1 hL]; omega) ?_
  obtain ⟨f1, z1⟩ := J_m k1.1
  refine yL_cv rfl rfl z1 rfl (by decide) (by decide) (vm_lead hd k1) ?_
  rintro r1 m1 ⟨N2, s1, k2⟩
  obtain ⟨e1, e2, -⟩ := acR_eq s0 s1
  subst e1
  subst e2
  refine yL_m 2 (fun _ _ _ _ => rfl) ?_
  exact ih _ _ _ _ _ _ k2 hS
set_option maxRecDepth 100000 in
theorem la_25 {i a : Int32} {t u : List Int32} {Y : Qd} {N : Nd} (hL : L ≤ 3072) (h0 : 0 ≤ i.toInt) (h1 : i.toInt + 6 ≤ (L : Int)) (hd : 70 ≤ d) (hJ : J6 a a t u Y Y N N mem) (hS : smT t u) (ih : ∀ m a t u Y N, J6 a a t u Y Y N N m → smT t u → yL L xs d (1042, zlo i, [], m) P) : yL L xs d (901, zlo i, [], mem) P := by
  refine yL_m 1 (fun _ _ _ _ => rfl) ?_
  obtain ⟨f0, z0⟩ := J_x hJ.1
  refine yL_cv rfl rfl z0 rfl (by decide) (by decide) (vx_undo hd hJ) ?_
  rintro r0 m0 ⟨N1, s0, k1⟩
  obtain ⟨-, -, v, hv⟩ := acR_eq s0 s0
  subst hv
  refine yL_m 2 (fun _ _ _ _ => rfl) ?_
  obtain ⟨f1, z1⟩ := J_m k1.1
  refine yL_cv rfl rfl z1 rfl (by decide) (by decide) (vm_undo hd k1) ?_
  rintro r1 m1 ⟨N2, s1, k2⟩
  obtain ⟨e1, e2, -⟩ := acR_eq s0 s1
  subst e1
  subst e2
  refine yL_m 2 (fun _ _ _ _ => rfl) ?_
  exact ih _ _ _ _ _ _ k2 hS
set_option maxRecDepth 100000 in
theorem la_26 {i a : Int32} {t u : List Int32} {Y : Qd} {N : Nd} (hL : L ≤ 3072) (h0 : 0 ≤ i.toInt) (h1 : i.toInt + 6 ≤ (L : Int)) (hd : 70 ≤ d) (hJ : J6 a a t u Y Y N N mem) (hS : smT t u) (ih : ∀ m a t u Y N, J6 a a t u Y Y N N m → smT t u → yL L xs d (1042, zlo i, [], m) P) : yL L xs d (914, zlo i, [], mem) P := by
  refine yL_m 5 (fun _ _ _ _ => rfl) ?_
  refine yL_ld rfl (by rw [i_add (k := 1) rfl (by decide) h0 h1 hL]; omega) (by rw [i_add (k := 1) rfl (by decide) h0 h1 hL]; omega) ?_
  obtain ⟨f0, z0⟩ := J_x hJ.1
  refine yL_cv rfl rfl z0 rfl (by decide) (by decide) (vx_seed hd hJ) ?_
  rintro r0 m0 ⟨N1, s0, k1⟩
  obtain ⟨-, -, v, hv⟩ := acR_eq s0 s0
  subst hv
  refine yL_m 6 (fun _ _ _ _ => rfl) ?_
  refine yL_ld rfl (by rw [i_add (k := 1) rfl (by decide) h0 h1 hL]; omega) (by rw [i_add (k := 1) rfl (by decide) h0 h1 hL]; omega) ?_
  obtain ⟨f1, z1⟩ := J_m k1.1
  refine yL_cv rfl rfl z1 rfl (by decide) (by decide) (vm_seed hd k1) ?_
  rintro r1 m1 ⟨N2, s1, k2⟩
  obtain ⟨e1, e2, -⟩ := acR_eq s0 s1
  subst e1
  subst e2
  refine yL_m 2 (fun _ _ _ _ => rfl) ?_
  exact ih _ _ _ _ _ _ k2 hS
set_option maxRecDepth 100000 in
theorem la_27 {i a : Int32} {t u : List Int32} {Y : Qd} {N : Nd} (hL : L ≤ 3072) (h0 : 0 ≤ i.toInt) (h1 : i.toInt + 6 ≤ (L : Int)) (hd : 70 ≤ d) (hJ : J6 a a t u Y Y N N mem) (hS : smT t u) (ih : ∀ m a t u Y N, J6 a a t u Y Y N N m → smT t u → yL L xs d (1042, zlo i, [], m) P) : yL L xs d (937, zlo i, [], mem) P := by
  refine yL_m 5 (fun _ _ _ _ => rfl) ?_
  refine yL_ld rfl (by rw [i_add (k := 1) rfl (by decide) h0 h1 hL]; omega) (by rw [i_add (k := 1) rfl (by decide) h0 h1 hL]; omega) ?_
  refine yL_m 4 (fun _ _ _ _ => rfl) ?_
  refine yL_ld rfl (by rw [i_add (k := 2) rfl (by decide) h0 h1 hL]; omega) (by rw [i_add (k := 2) rfl (by decide) h0 h1 hL]; omega) ?_
  obtain ⟨f0, z0⟩ := J_x hJ.1
  refine yL_cv rfl rfl z0 rfl (by decide) (by decide) (vx_kept hd hJ) ?_
  rintro _ m0 ⟨k1, v0, rfl⟩
  refine yL_m 6 (fun _ _ _ _ => rfl) ?_
  refine yL_ld rfl (by rw [i_add (k := 1) rfl (by decide) h0 h1 hL]; omega) (by rw [i_add (k := 1) rfl (by decide) h0 h1 hL]; omega) ?_
  refine yL_m 4 (fun _ _ _ _ => rfl) ?_
  refine yL_ld rfl (by rw [i_add (k := 2) rfl (by decide) h0 h1 hL]; omega) (by rw [i_add (k := 2) rfl (by decide) h0 h1 hL]; omega) ?_
  obtain ⟨f1, z1⟩ := J_m k1.1
  refine yL_cv rfl rfl z1 rfl (by decide) (by decide) (vm_kept hd k1) ?_
  rintro _ m1 ⟨k2, v1, rfl⟩
  refine yL_m 2 (fun _ _ _ _ => rfl) ?_
  exact ih _ _ _ _ _ _ k2 hS
set_option maxRecDepth 100000 in
theorem la_28 {i a : Int32} {t u : List Int32} {Y : Qd} {N : Nd} (hL : L ≤ 3072) (h0 : 0 ≤ i.toInt) (h1 : i.toInt + 6 ≤ (L : Int)) (hd : 70 ≤ d) (hJ : J6 a a t u Y Y N N mem) (hS : smT t u) (ih : ∀ m a t u Y N, J6 a a t u Y Y N N m → smT t u → yL L xs d (1042, zlo i, [], m) P) : yL L xs d (970, zlo i, [], mem) P := by
  refine yL_m 1 (fun _ _ _ _ => rfl) ?_
  obtain ⟨f0, z0⟩ := J_x hJ.1
  refine yL_cv rfl rfl z0 rfl (by decide) (by decide) (vx_image hd hJ) ?_
  rintro _ m0 ⟨k1, v0, rfl⟩
  refine yL_m 2 (fun _ _ _ _ => rfl) ?_
  obtain ⟨f1, z1⟩ := J_m k1.1
  refine yL_cv rfl rfl z1 rfl (by decide) (by decide) (vm_image hd k1) ?_
  rintro _ m1 ⟨k2, v1, rfl⟩
  refine yL_m 2 (fun _ _ _ _ => rfl) ?_
  exact ih _ _ _ _ _ _ k2 hS
set_option maxRecDepth 100000 in
theorem la_29 {i a : Int32} {t u : List Int32} {Y : Qd} {N : Nd} (hL : L ≤ 3072) (h0 : 0 ≤ i.toInt) (h1 : i.toInt + 6 ≤ (L : Int)) (hd : 70 ≤ d) (hJ : J6 a a t u Y Y N N mem) (hS : smT t u) (ih : ∀ m a t u Y N, J6 a a t u Y Y N N m → smT t u → yL L xs d (1042, zlo i, [], m) P) : yL L xs d (983, zlo i, [], mem) P := by
  refine yL_m 5 (fun _ _ _ _ => rfl) ?_
  refine yL_ld rfl (by rw [i_add (k := 1) rfl (by decide) h0 h1 hL]; omega) (by rw [i_add (k := 1) rfl (by decide) h0 h1 hL]; omega) ?_
  obtain ⟨f0, z0⟩ := J_x hJ.1
  refine yL_cv rfl rfl z0 rfl (by decide) (by decide) (vx_octet hd hJ) ?_
  rintro _ m0 ⟨k1, v0, rfl⟩
  refine yL_m 6 (fun _ _ _ _ => rfl) ?_
  refine yL_ld rfl (by rw [i_add (k := 1) rfl (by decide) h0 h1 hL]; omega) (by rw [i_add (k := 1) rfl (by decide) h0 h1 hL]; omega) ?_
  obtain ⟨f1, z1⟩ := J_m k1.1
  refine yL_cv rfl rfl z1 rfl (by decide) (by decide) (vm_octet hd k1) ?_
  rintro _ m1 ⟨k2, v1, rfl⟩
  refine yL_m 2 (fun _ _ _ _ => rfl) ?_
  exact ih _ _ _ _ _ _ k2 hS
set_option maxRecDepth 100000 in
theorem la_30 {i a : Int32} {t u : List Int32} {Y : Qd} {N : Nd} (hL : L ≤ 3072) (h0 : 0 ≤ i.toInt) (h1 : i.toInt + 6 ≤ (L : Int)) (hd : 70 ≤ d) (hJ : J6 a a t u Y Y N N mem) (hS : smT t u) (ih : ∀ m a t u Y N, J6 a a t u Y Y N N m → smT t u → yL L xs d (1042, zlo i, [], m) P) : yL L xs d (1006, zlo i, [], mem) P := by
  refine yL_m 1 (fun _ _ _ _ => rfl) ?_
  obtain ⟨f0, z0⟩ := J_x hJ.1
  refine yL_cv rfl rfl z0 rfl (by decide) (by decide) (vx_on hd hJ) ?_
  rintro r0 m0 ⟨N1, s0, k1⟩
  obtain ⟨-, -, v, hv⟩ := acR_eq s0 s0
  subst hv
  refine yL_m 2 (fun _ _ _ _ => rfl) ?_
  obtain ⟨f1, z1⟩ := J_m k1.1
  refine yL_cv rfl rfl z1 rfl (by decide) (by decide) (vm_on hd k1) ?_
  rintro r1 m1 ⟨N2, s1, k2⟩
  rw [imK_sm hS (J5_n hJ.1).2, ← onN_sm hS hJ.2.1.2.1] at s1
  obtain ⟨e1, e2, -⟩ := acR_eq s0 s1
  subst e1
  subst e2
  refine yL_m 2 (fun _ _ _ _ => rfl) ?_
  exact ih _ _ _ _ _ _ k2 hS
set_option maxRecDepth 100000 in
theorem la_31 {i a : Int32} {t u : List Int32} {Y : Qd} {N : Nd} (hL : L ≤ 3072) (h0 : 0 ≤ i.toInt) (h1 : i.toInt + 6 ≤ (L : Int)) (hd : 70 ≤ d) (hJ : J6 a a t u Y Y N N mem) (hS : smT t u) (ih : ∀ m a t u Y N, J6 a a t u Y Y N N m → smT t u → yL L xs d (1042, zlo i, [], m) P) : yL L xs d (1019, zlo i, [], mem) P := by
  refine yL_m 5 (fun _ _ _ _ => rfl) ?_
  refine yL_ld rfl (by rw [i_add (k := 1) rfl (by decide) h0 h1 hL]; omega) (by rw [i_add (k := 1) rfl (by decide) h0 h1 hL]; omega) ?_
  obtain ⟨f0, z0⟩ := J_x hJ.1
  refine yL_cv rfl rfl z0 rfl (by decide) (by decide) (vx_status hd hJ) ?_
  rintro _ m0 ⟨k1, v0, rfl⟩
  refine yL_m 6 (fun _ _ _ _ => rfl) ?_
  refine yL_ld rfl (by rw [i_add (k := 1) rfl (by decide) h0 h1 hL]; omega) (by rw [i_add (k := 1) rfl (by decide) h0 h1 hL]; omega) ?_
  obtain ⟨f1, z1⟩ := J_m k1.1
  refine yL_cv rfl rfl z1 rfl (by decide) (by decide) (vm_status hd k1) ?_
  rintro _ m1 ⟨k2, v1, rfl⟩
  refine yL_m 2 (fun _ _ _ _ => rfl) ?_
  exact ih _ _ _ _ _ _ k2 hS
set_option maxRecDepth 100000 in
theorem law_loop (hL : L ≤ 3072) (hd : 70 ≤ d) : ∀ (f : Nat) (i a : Int32) (t u : List Int32) (Y : Qd) (N : Nd) (mem : zM), (L : Int) ≤ i.toInt + (f : Int) → 0 ≤ i.toInt → i.toInt ≤ 3072 → J6 a a t u Y Y N N mem → smT t u → yL L xs d (18, zlo i, [], mem) (fun r m => r = some (.int 1) ∧ aTm aT0 m) := by
  have eL : (Int32.ofNat L - 6).toInt = (L : Int) - 6 := by
    have e1 : (Int32.ofNat L).toInt = (L : Int) := i32_nat (by omega)
    have e2 : ((6 : Int32)).toInt = 6 := rfl
    rw [Int32.toInt_sub, e1, e2]
    exact Int.bmod_eq_of_le (by omega) (by omega)
  intro f
  induction f using Nat.strongRecOn with
  | ind f IH =>
    intro i a t u Y N mem hf h0 h3 hJ hS
    refine yL_m 5 (fun _ _ _ _ => rfl) ?_
    refine yL_ic rfl (fun _ => ?_) (fun z => ?_)
    · refine yL_m 1 (fun _ _ _ _ => rfl) ?_
      exact yL_ret rfl (fun _ _ _ _ => rfl) ⟨rfl, hJ.1.1⟩
    · have h1 : i.toInt + 6 ≤ (L : Int) := by
        have z2 : ¬ (Int32.ofNat L - 6 < i) := of_decide_eq_false z
        rw [Int32.lt_iff_toInt_lt, eL] at z2
        omega
      refine yL_m 2 (fun _ _ _ _ => rfl) ?_
      refine yL_ld rfl h0 (by omega) ?_
      refine yL_m 2 (fun _ _ _ _ => rfl) ?_
      have e6 : (i + 6).toInt = i.toInt + 6 := i_add (k := 6) rfl (by decide) h0 h1 hL
      have ih : ∀ m a t u Y N, J6 a a t u Y Y N N m → smT t u → yL L xs d (1042, zlo i, [], m) (fun r m => r = some (.int 1) ∧ aTm aT0 m) := fun m a t u Y N hm hs => by
        refine yL_m 2 (fun _ _ _ _ => rfl) ?_
        exact IH (f - 6) (by omega) (i + 6) a t u Y N m (by omega) (by omega) (by omega) hm hs
      refine yL_sw rfl ?_
      exact List.forall_mem_cons.mpr ⟨ih mem a t u Y N hJ hS, List.forall_mem_cons.mpr ⟨la_0 hL h0 h1 hd hJ hS ih, List.forall_mem_cons.mpr ⟨la_1 hL h0 h1 hd hJ hS ih, List.forall_mem_cons.mpr ⟨la_2 hL h0 h1 hd hJ hS ih, List.forall_mem_cons.mpr ⟨la_3 hL h0 h1 hd hJ hS ih, List.forall_mem_cons.mpr ⟨la_4 hL h0 h1 hd hJ hS ih, List.forall_mem_cons.mpr ⟨la_5 hL h0 h1 hd hJ hS ih, List.forall_mem_cons.mpr ⟨la_6 hL h0 h1 hd hJ hS ih, List.forall_mem_cons.mpr ⟨la_7 hL h0 h1 hd hJ hS ih, List.forall_mem_cons.mpr ⟨la_8 hL h0 h1 hd hJ hS ih, List.forall_mem_cons.mpr ⟨la_9 hL h0 h1 hd hJ hS ih, List.forall_mem_cons.mpr ⟨la_10 hL h0 h1 hd hJ hS ih, List.forall_mem_cons.mpr ⟨la_11 hL h0 h1 hd hJ hS ih, List.forall_mem_cons.mpr ⟨la_12 hL h0 h1 hd hJ hS ih, List.forall_mem_cons.mpr ⟨la_13 hL h0 h1 hd hJ hS ih, List.forall_mem_cons.mpr ⟨la_14 hL h0 h1 hd hJ hS ih, List.forall_mem_cons.mpr ⟨la_15 hL h0 h1 hd hJ hS ih, List.forall_mem_cons.mpr ⟨la_16 hL h0 h1 hd hJ hS ih, List.forall_mem_cons.mpr ⟨la_17 hL h0 h1 hd hJ hS ih, List.forall_mem_cons.mpr ⟨la_18 hL h0 h1 hd hJ hS ih, List.forall_mem_cons.mpr ⟨la_19 hL h0 h1 hd hJ hS ih, List.forall_mem_cons.mpr ⟨la_20 hL h0 h1 hd hJ hS ih, List.forall_mem_cons.mpr ⟨la_21 hL h0 h1 hd hJ hS ih, List.forall_mem_cons.mpr ⟨la_22 hL h0 h1 hd hJ hS ih, List.forall_mem_cons.mpr ⟨la_23 hL h0 h1 hd hJ hS ih, List.forall_mem_cons.mpr ⟨la_24 hL h0 h1 hd hJ hS ih, List.forall_mem_cons.mpr ⟨la_25 hL h0 h1 hd hJ hS ih, List.forall_mem_cons.mpr ⟨la_26 hL h0 h1 hd hJ hS ih, List.forall_mem_cons.mpr ⟨la_27 hL h0 h1 hd hJ hS ih, List.forall_mem_cons.mpr ⟨la_28 hL h0 h1 hd hJ hS ih, List.forall_mem_cons.mpr ⟨la_29 hL h0 h1 hd hJ hS ih, List.forall_mem_cons.mpr ⟨la_30 hL h0 h1 hd hJ hS ih, List.forall_mem_cons.mpr ⟨la_31 hL h0 h1 hd hJ hS ih, fun _ h => absurd h List.not_mem_nil⟩⟩⟩⟩⟩⟩⟩⟩⟩⟩⟩⟩⟩⟩⟩⟩⟩⟩⟩⟩⟩⟩⟩⟩⟩⟩⟩⟩⟩⟩⟩⟩⟩
end YL
