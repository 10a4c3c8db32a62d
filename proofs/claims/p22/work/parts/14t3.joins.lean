/-! what reading leaves of the other bank -/
abbrev rdK : List Nat := [238, 239, 242, 243, 244, 245, 246, 247]
abbrev rdF : List Nat := [3, 4, 5, 6, 7, 8, 9, 12, 33, 41, 42, 44, 45]
abbrev inI (m : zM) : Int := (gi m 221 34).toInt
abbrev bI (m : zM) : Int := (gi m 221 13).toInt
def kB (mr m : zM) : Prop := fr rdK rdF mr m ∧ (∀ k, k = 223 ∨ k = 224 → gn (ga m k) (bI mr) = gn (ga mr k) (bI mr)) ∧ (∀ k, k = 236 ∨ k = 237 → ∀ w, 0 ≤ w → w < 3 → gn (ga m k) (3 * bI mr + w) = gn (ga mr k) (3 * bI mr + w)) ∧ (∀ i, 0 ≤ i → i < 1600 → gn (ga m 238) (1600 * bI mr + i) = gn (ga mr 238) (1600 * bI mr + i)) ∧ (gi mr 221 33).toInt ≤ (gi m 221 33).toInt ∧ (∀ i, 0 ≤ i → i < (gi mr 221 33).toInt → gn (ga m 238) (1600 * inI mr + i) = gn (ga mr 238) (1600 * inI mr + i)) ∧ (∀ i, 0 ≤ i → i < 1600 → gn (ga m 239) (1600 * bI mr + i) = gn (ga mr 239) (1600 * bI mr + i)) ∧ ∀ i, 0 ≤ i → i < (gi mr 221 33).toInt → gn (ga m 239) (1600 * inI mr + i) = gn (ga mr 239) (1600 * inI mr + i)
theorem kB_rf {m : zM} : kB m m := ⟨fr_rf, fun _ _ => rfl, fun _ _ _ _ _ => rfl, fun _ _ _ => rfl, Int.le_refl _, fun _ _ _ => rfl, fun _ _ _ => rfl, fun _ _ _ => rfl⟩
theorem kB_b {mr m : zM} (h : kB mr m) : bI m = bI mr := by
  show (gi m 221 13).toInt = _
  rw [fr_gi h.1 rfl]
theorem kB_i {mr m : zM} (h : kB mr m) : inI m = inI mr := by
  show (gi m 221 34).toInt = _
  rw [fr_gi h.1 rfl]
theorem kB_tr {a b c : zM} (h : kB a b) (k : kB b c) : kB a c := by
  have e := kB_b h
  have e2 := kB_i h
  have e3 := h.2.2.2.2.1
  obtain ⟨k1, k2, k3, k4, k5, k6, k7, k8⟩ := k
  rw [e] at k2 k3 k4 k7
  rw [e2] at k6 k8
  exact ⟨fr_tr h.1 k1, fun q hq => (k2 q hq).trans (h.2.1 q hq), fun q hq w a b => (k3 q hq w a b).trans (h.2.2.1 q hq w a b), fun i a b => (k4 i a b).trans (h.2.2.2.1 i a b), Int.le_trans e3 k5, fun i a b => (k6 i a (by omega)).trans (h.2.2.2.2.2.1 i a b), fun i a b => (k7 i a b).trans (h.2.2.2.2.2.2.1 i a b), fun i a b => (k8 i a (by omega)).trans (h.2.2.2.2.2.2.2 i a b)⟩
/-- a step that leaves these five rows alone -/
theorem kB_fr {ks is : List Nat} {mr m : zM} (h : fr ks is mr m) (h1 : ks.all (fun k => rdK.contains k) = true) (h2 : is.all (fun k => rdF.contains k) = true) (a : ks.contains 223 = false) (b : ks.contains 224 = false) (c : ks.contains 236 = false) (d : ks.contains 237 = false) (e' : (ks.contains 238 || ks.contains 239) = false) (f : is.contains 33 = false) : kB mr m := by
  have e : ks.contains 238 = false := (Bool.or_eq_false_iff.mp e').1
  have e9 : ks.contains 239 = false := (Bool.or_eq_false_iff.mp e').2
  refine ⟨fr_up h h1 h2, fun k hk => ?_, fun k hk w _ _ => ?_, fun i _ _ => by rw [fr_ga h (by decide) e], by rw [fr_gi h f]; exact Int.le_refl _, fun i _ _ => by rw [fr_ga h (by decide) e], fun i _ _ => by rw [fr_ga h (by decide) e9], fun i _ _ => by rw [fr_ga h (by decide) e9]⟩
  · rcases hk with rfl | rfl
    · rw [fr_ga h (by decide) a]
    · rw [fr_ga h (by decide) b]
  · rcases hk with rfl | rfl
    · rw [fr_ga h (by decide) c]
    · rw [fr_ga h (by decide) d]
theorem kB_t {mem m : zM} (h : tQ mem m) : kB mem m := kB_fr h.1 rfl rfl rfl rfl rfl rfl rfl rfl
/-- the state of a sum that is read: op says whether an operand stands -/
def PI (mr m : zM) (fm : Int) (l : List Fm) (op : Int) : Prop :=
  (kB mr m ∧ tOK m ∧ fk m = 0 ∧ inI m = 1 - bI m) ∧ (rp m l (gi m 221 41).toInt (gi m 221 44).toInt ∧ okL l ∧ kd l) ∧ ((gi m 221 42).toInt = (l.length : Int) - 1 + nS l ∧ (gi m 221 42).toInt ≤ 7) ∧
  ((0 ≤ fm ∧ fm ≤ (gi m 221 33).toInt ∧ (gi m 221 33).toInt + (gi m 221 44).toInt + (gi m 221 41).toInt ≤ (gi m 221 4).toInt) ∧ hgt (ga m 238) (1600 * inI m + fm).toNat ((gi m 221 33).toInt - fm).toNat = some (hS l + op).toNat) ∧
  ((∀ f ∈ l.tail, f.2.2.2.1 = 0) ∧ (op = 1 → ∀ f, l.head? = some f → f.2.2.2.1 = 0))
theorem PI_rg {mr m : zM} {fm op : Int} {l : List Fm} (hm : aTm aT0 m) (h : PI mr m fm l op) : (gi m 221 41).toInt = (l.length : Int) ∧ (1 ≤ (l.length : Int) ∧ (l.length : Int) ≤ 8) ∧ (0 ≤ (gi m 221 44).toInt ∧ (gi m 221 44).toInt ≤ 50) ∧ (0 ≤ (gi m 221 42).toInt ∧ 0 ≤ nS l) ∧ (0 ≤ hS l ∧ hS l ≤ 60) ∧ (gi m 221 33).toInt + (gi m 221 44).toInt + (gi m 221 41).toInt ≤ 1600 ∧ (0 ≤ bI m ∧ bI m ≤ 1) := by
  obtain ⟨h1, ⟨h2, h3, h4⟩, ⟨h5, h6⟩, ⟨h7, -⟩, -⟩ := h
  have a := rp_D h2 h3
  have b := hS_b h3
  have c := nS_0 l
  have d := mO_r4 hm
  have e : 0 ≤ bI m ∧ bI m ≤ 1 := mO_r13 hm
  have f : 1 ≤ (l.length : Int) := by
    cases l with
    | nil => exact h4.elim
    | cons x r => simp only [List.length_cons]; omega
  omega
theorem PI_pop {mr m m' : zM} {fm k p ph bg q : Int} {t : List Int} {r : List Fm} {x y x9 z9 : Int32} (hm : aTm aT0 m) (h : PI mr m fm ((k, p, ph, bg, q :: t) :: r) 1) (hf : fr [238, 239] [33, 42, 44] m m') (e44 : (gi m' 221 44).toInt = (gi m 221 44).toInt - 1) (e33 : (gi m' 221 33).toInt = (gi m 221 33).toInt + 1) (e42 : (gi m' 221 42).toInt = (gi m 221 42).toInt - (if q = 43 then 1 else 0)) (hx : x.toInt = 1600 * inI m + (gi m 221 33).toInt) (hy : y.toInt = q) (e238 : ga m' 238 = (ga m 238).set x.toNatClampNeg y) (hx9 : x9.toInt = 1600 * inI m + (gi m 221 33).toInt) (e239 : ga m' 239 = (ga m 239).set x9.toNatClampNeg z9) : PI mr m' fm ((k, p, ph, bg, t) :: r) 1 := by
  have rg := PI_rg hm h
  have gl9 := gl_239 hm
  obtain ⟨⟨a1, a2, a3, a4⟩, ⟨b1, b2, b3⟩, ⟨c1, c2⟩, ⟨d1, d2⟩, e1, e2⟩ := h
  have gl := gl_238 hm
  have g : ∀ i, [33, 42, 44].contains i = false → gi m' 221 i = gi m 221 i := fun i hi => fr_gi hf hi
  have ga' : ∀ k, ¬ k = 221 → [238, 239].contains k = false → ga m' k = ga m k := fun k h1 h2 => fr_ga hf h1 h2
  have okf := b2 _ List.mem_cons_self
  have okr : okL r := fun f hf => b2 f (List.mem_cons_of_mem _ hf)
  have oq : opI q := okf.2.1 q List.mem_cons_self
  have hc := kB_b a1
  have kb : kB mr m' := by
    refine ⟨fr_tr a1.1 (fr_up hf rfl rfl), fun k hk => ?_, fun k hk w z1 z2 => ?_, fun i z1 z2 => ?_, by have q33 := a1.2.2.2.2.1; omega, fun i z1 z2 => ?_, fun i z1 z2 => ?_, fun i z1 z2 => ?_⟩
    · rw [ga' k (by omega) (by rcases hk with rfl | rfl <;> decide)]; exact a1.2.1 k hk
    · rw [ga' k (by omega) (by rcases hk with rfl | rfl <;> decide)]; exact a1.2.2.1 k hk w z1 z2
    · rw [e238, gn_set hx (by omega) (by omega) (by omega), if_neg (by omega)]
      exact a1.2.2.2.1 i z1 z2
    · have q33 := a1.2.2.2.2.1
      have qi := kB_i a1
      rw [e238, gn_set hx (by omega) (by omega) (by omega), if_neg (by omega)]
      exact a1.2.2.2.2.2.1 i z1 z2
    · rw [e239, gn_set hx9 (by omega) (by omega) (by omega), if_neg (by omega)]
      exact a1.2.2.2.2.2.2.1 i z1 z2
    · have q33 := a1.2.2.2.2.1
      have qi := kB_i a1
      rw [e239, gn_set hx9 (by omega) (by omega) (by omega), if_neg (by omega)]
      exact a1.2.2.2.2.2.2.2 i z1 z2
  have nbt := nb_nn t
  have nbq : nb (q :: t) = (if q = 43 then 0 else 1) + nb t := rfl
  have nnq : nn (q :: t) = (if q = 43 then 1 else 0) + nn t := rfl
  have hSe : hS ((k, p, ph, bg, q :: t) :: r) = nb (q :: t) + arF (k, p, ph, bg, q :: t) + hS r := rfl
  have hSt : hS ((k, p, ph, bg, t) :: r) = nb t + arF (k, p, ph, bg, t) + hS r := rfl
  have are : arF (k, p, ph, bg, q :: t) = arF (k, p, ph, bg, t) := rfl
  have arb := arF_b (k, p, ph, bg, t)
  have hrb := hS_b okr
  have nSe : nS ((k, p, ph, bg, q :: t) :: r) = nn (q :: t) + nS r := rfl
  have nSt : nS ((k, p, ph, bg, t) :: r) = nn t + nS r := rfl
  obtain ⟨⟨r1, r2, r3, r4, r5⟩, r6, r7⟩ := b1
  have len : (((q :: t : List Int).length : Nat) : Int) = (t.length : Int) + 1 := by simp
  have r5 : gn (ga m 246) ((gi m 221 41).toInt - 1) = (gi m 221 44).toInt - (((q :: t).length : Nat) : Int) := r5
  refine ⟨⟨kb, ?_, by show (gi m' 221 8).toInt = 0; rw [g 8 rfl]; exact a3, by show (gi m' 221 34).toInt = 1 - (gi m' 221 13).toInt; rw [g 34 rfl, g 13 rfl]; exact a4⟩, ⟨?_, ?_, ?_⟩, ⟨?_, by omega⟩, ⟨⟨d1.1, by omega, ?_⟩, ?_⟩, e1, ?_⟩
  · obtain ⟨⟨t1, t2⟩, t3⟩ := a2
    refine ⟨⟨?_, ?_⟩, ?_⟩
    · rw [g 4 rfl, g 5 rfl, g 2 rfl]; exact t1
    · rw [g 3 rfl, g 4 rfl, g 5 rfl]; exact t2
    · show 0 ≤ (gi m' 221 8).toInt
      rw [g 8 rfl]; exact t3
  · rw [g 41 rfl, e44]
    refine ⟨⟨by rw [ga' 242 (by decide) rfl]; exact r1, by rw [ga' 245 (by decide) rfl]; exact r2, by rw [ga' 243 (by decide) rfl]; exact r3, by rw [ga' 244 (by decide) rfl]; exact r4, by rw [ga' 246 (by decide) rfl, r5]; show _ = (gi m 221 44).toInt - 1 - (t.length : Int); omega⟩, fun i hi => ?_, ?_⟩
    · rw [ga' 247 (by decide) rfl]
      have := r6 (i + 1) (by show i + 1 < (q :: t).length; simp only [List.length_cons]; exact Nat.succ_lt_succ hi)
      rw [show (gi m 221 44).toInt - 1 - 1 - (i : Int) = (gi m 221 44).toInt - 1 - ((i + 1 : Nat) : Int) by omega]
      exact this
    · rw [show (gi m 221 44).toInt - 1 - (((k, p, ph, bg, t) : Fm).2.2.2.2.length : Int) = (gi m 221 44).toInt - (((k, p, ph, bg, q :: t) : Fm).2.2.2.2.length : Int) by show (gi m 221 44).toInt - 1 - (t.length : Int) = (gi m 221 44).toInt - (((q :: t).length : Nat) : Int); omega]
      exact rp_eq r7 okr (fun k hk i _ _ => by rw [ga' k (by omega) (by rcases hk with rfl | rfl | rfl | rfl | rfl <;> decide)]) (fun i _ _ => by rw [ga' 247 (by decide) rfl])
  · intro f hf
    rcases List.mem_cons.mp hf with rfl | hf
    · exact ⟨chn_t okf.1, fun w hw => okf.2.1 w (List.mem_cons_of_mem _ hw), fun z w hw => okf.2.2.1 z w (List.mem_cons_of_mem _ hw), fun z w hw => okf.2.2.2 z w (List.mem_cons_of_mem _ hw)⟩
    · exact okr f hf
  · cases r with
    | nil => exact b3
    | cons g r => exact b3
  · rw [e42]
    simp only [List.length_cons] at c1 ⊢
    rw [c1, nSe, nSt, nnq]
    split <;> omega
  · rw [e33, e44, g 41 rfl, g 4 rfl]
    omega
  · have ei : inI m' = inI m := by show (gi m' 221 34).toInt = _; rw [g 34 rfl]
    rw [e33, ei, e238]
    have xn : x.toNatClampNeg = (1600 * inI m + fm).toNat + ((gi m 221 33).toInt - fm).toNat := by
      have := zclamp (x := x) (by omega)
      omega
    rw [xn, show ((gi m 221 33).toInt + 1 - fm).toNat = ((gi m 221 33).toInt - fm).toNat + 1 by omega]
    refine hgt_add d2 (by omega) ?_
    have oq2 : 31 ≤ q ∧ q ≤ 43 := by unfold opI at oq; omega
    unfold hst
    rw [if_neg (by omega)]
    by_cases q43 : q = 43
    · rw [if_pos (by omega), if_pos (by rw [hSe]; omega)]
      rw [if_pos q43] at nbq
      congr 1
      rw [hSe, hSt, are, nbq]
      omega
    · rw [if_neg (by omega), if_neg (by omega)]
      rw [if_neg q43] at nbq
      rw [if_pos (by rw [hSe, nbq]; omega)]
      congr 1
      rw [hSe, hSt, are, nbq]
      omega
  · intro _ f hf
    have := e2 rfl (k, p, ph, bg, q :: t) rfl
    simp only [List.head?_cons, Option.some.injEq] at hf
    rw [← hf]
    exact this
set_option maxRecDepth 100000 in
theorem w_rankn {d : Nat} {mem : zM} {P : Option Value → zM → Prop} {x : Int32} (hm : aTm aT0 mem) (h1 : ¬ (x).toInt = 42 → ¬ (x).toInt = 41 → ¬ (x).toInt = 43 → (x).toInt = 38 → aTm aT0 mem → P (some (.int 4)) mem) (h2 : ¬ (x).toInt = 42 → ¬ (x).toInt = 41 → ¬ (x).toInt = 43 → ¬ (x).toInt = 38 → (x).toInt = 39 → aTm aT0 mem → P (some (.int 4)) mem) (h3 : ¬ (x).toInt = 42 → ¬ (x).toInt = 41 → ¬ (x).toInt = 43 → ¬ (x).toInt = 38 → ¬ (x).toInt = 39 → ¬ (x).toInt = 40 → (x).toInt = 31 → aTm aT0 mem → P (some (.int 5)) mem) (h4 : ¬ (x).toInt = 42 → ¬ (x).toInt = 41 → ¬ (x).toInt = 43 → ¬ (x).toInt = 38 → ¬ (x).toInt = 39 → ¬ (x).toInt = 40 → ¬ (x).toInt = 31 → ¬ (x).toInt = 32 → aTm aT0 mem → P (some (.int 6)) mem) (h5 : ¬ (x).toInt = 42 → ¬ (x).toInt = 41 → ¬ (x).toInt = 43 → ¬ (x).toInt = 38 → ¬ (x).toInt = 39 → ¬ (x).toInt = 40 → ¬ (x).toInt = 31 → (x).toInt = 32 → aTm aT0 mem → P (some (.int 5)) mem) (h6 : ¬ (x).toInt = 42 → ¬ (x).toInt = 41 → ¬ (x).toInt = 43 → ¬ (x).toInt = 38 → ¬ (x).toInt = 39 → (x).toInt = 40 → aTm aT0 mem → P (some (.int 4)) mem) (h7 : ¬ (x).toInt = 42 → ¬ (x).toInt = 41 → (x).toInt = 43 → aTm aT0 mem → P (some (.int 3)) mem) (h8 : ¬ (x).toInt = 42 → (x).toInt = 41 → aTm aT0 mem → P (some (.int 2)) mem) (h9 : (x).toInt = 42 → aTm aT0 mem → P (some (.int 1)) mem) : yR zpg tX12_rank d (0, [(0, .int x)], [], mem) P := by
  refine yR_m 2 (fun _ _ _ _ => rfl) ?_
  refine wR_ic_ne rfl (a := (x).toInt) (c := 42) rfl rfl (fun q1 => ?_) (fun q1 => ?_)
  ·
    refine yR_m 2 (fun _ _ _ _ => rfl) ?_
    refine wR_ic_ne rfl (a := (x).toInt) (c := 41) rfl rfl (fun q2 => ?_) (fun q2 => ?_)
    ·
      refine yR_m 2 (fun _ _ _ _ => rfl) ?_
      refine wR_ic_ne rfl (a := (x).toInt) (c := 43) rfl rfl (fun q3 => ?_) (fun q3 => ?_)
      ·
        refine yR_m 2 (fun _ _ _ _ => rfl) ?_
        refine wR_ic_eq rfl (a := (x).toInt) (c := 38) rfl rfl (fun q4 => ?_) (fun q4 => ?_)
        ·
          refine yR_m 2 (fun _ _ _ _ => rfl) ?_
          exact yR_ri rfl (h1 q1 q2 q3 q4 hm)
        ·
          refine yR_m 2 (fun _ _ _ _ => rfl) ?_
          refine wR_ic_eq rfl (a := (x).toInt) (c := 39) rfl rfl (fun q5 => ?_) (fun q5 => ?_)
          ·
            refine yR_m 2 (fun _ _ _ _ => rfl) ?_
            exact yR_ri rfl (h2 q1 q2 q3 q4 q5 hm)
          ·
            refine yR_m 2 (fun _ _ _ _ => rfl) ?_
            refine wR_ic_ne rfl (a := (x).toInt) (c := 40) rfl rfl (fun q6 => ?_) (fun q6 => ?_)
            ·
              refine yR_m 2 (fun _ _ _ _ => rfl) ?_
              refine wR_ic_eq rfl (a := (x).toInt) (c := 31) rfl rfl (fun q7 => ?_) (fun q7 => ?_)
              ·
                refine yR_m 2 (fun _ _ _ _ => rfl) ?_
                exact yR_ri rfl (h3 q1 q2 q3 q4 q5 q6 q7 hm)
              ·
                refine yR_m 2 (fun _ _ _ _ => rfl) ?_
                refine wR_ic_ne rfl (a := (x).toInt) (c := 32) rfl rfl (fun q8 => ?_) (fun q8 => ?_)
                ·
                  refine yR_m 1 (fun _ _ _ _ => rfl) ?_
                  exact yR_ri rfl (h4 q1 q2 q3 q4 q5 q6 q7 q8 hm)
                ·
                  refine yR_m 2 (fun _ _ _ _ => rfl) ?_
                  exact yR_ri rfl (h5 q1 q2 q3 q4 q5 q6 q7 q8 hm)
            ·
              refine yR_m 2 (fun _ _ _ _ => rfl) ?_
              exact yR_ri rfl (h6 q1 q2 q3 q4 q5 q6 hm)
      ·
        refine yR_m 2 (fun _ _ _ _ => rfl) ?_
        exact yR_ri rfl (h7 q1 q2 q3 hm)
    ·
      refine yR_m 2 (fun _ _ _ _ => rfl) ?_
      exact yR_ri rfl (h8 q1 q2 hm)
  ·
    refine yR_m 2 (fun _ _ _ _ => rfl) ?_
    exact yR_ri rfl (h9 q1 hm)

theorem c_rank {d : Nat} {mem : zM} (hm : aTm aT0 mem) (hd : 1 ≤ d) {x : Int32} : yC zpg d 182 [.int x] mem (fun r m => ∃ v : Int32, r = some (.int v) ∧ mem = m ∧ v.toInt = rkI x.toInt) := by
  obtain ⟨d, rfl⟩ : ∃ q, d = q + 1 := ⟨d - 1, by omega⟩
  refine yC_of (t := tX12_rank) rfl rfl ?_
  exact w_rankn hm
        (fun q1 q2 q3 q4 _ => ⟨_, rfl, rfl, by
          unfold rkI
          repeat' split
          all_goals first | rfl | omega⟩)
        (fun q1 q2 q3 q4 q5 _ => ⟨_, rfl, rfl, by
          unfold rkI
          repeat' split
          all_goals first | rfl | omega⟩)
        (fun q1 q2 q3 q4 q5 q6 q7 _ => ⟨_, rfl, rfl, by
          unfold rkI
          repeat' split
          all_goals first | rfl | omega⟩)
        (fun q1 q2 q3 q4 q5 q6 q7 q8 _ => ⟨_, rfl, rfl, by
          unfold rkI
          repeat' split
          all_goals first | rfl | omega⟩)
        (fun q1 q2 q3 q4 q5 q6 q7 q8 _ => ⟨_, rfl, rfl, by
          unfold rkI
          repeat' split
          all_goals first | rfl | omega⟩)
        (fun q1 q2 q3 q4 q5 q6 _ => ⟨_, rfl, rfl, by
          unfold rkI
          repeat' split
          all_goals first | rfl | omega⟩)
        (fun q1 q2 q3 _ => ⟨_, rfl, rfl, by
          unfold rkI
          repeat' split
          all_goals first | rfl | omega⟩)
        (fun q1 q2 _ => ⟨_, rfl, rfl, by
          unfold rkI
          repeat' split
          all_goals first | rfl | omega⟩)
        (fun q1 _ => ⟨_, rfl, rfl, by
          unfold rkI
          repeat' split
          all_goals first | rfl | omega⟩)
set_option maxRecDepth 100000 in
theorem w_joins {d : Nat} {mem : zM} {P : Option Value → zM → Prop} {ls : Int32} (hm : aTm aT0 mem) (p1 : 1 ≤ (gi mem 221 41).toInt ∧ (gi mem 221 41).toInt ≤ 8) (p2 : 0 ≤ (gi mem 221 44).toInt ∧ (gi mem 221 44).toInt ≤ 60) (p3 : 0 ≤ (gi mem 221 33).toInt ∧ (gi mem 221 33).toInt + (gi mem 221 44).toInt ≤ 1599) (p4 : 0 ≤ (gi mem 221 42).toInt ∧ (gi mem 221 42).toInt ≤ 7) (p5 : 0 ≤ gn (ga mem 246) ((gi mem 221 41).toInt - 1)) (h1 : ∀ (x1 : Int32), x1.toInt = ((gi mem 221 41).toInt - 1) → ∀ (y3 : Int32), y3.toInt = (gn (ga mem 246) ((gi mem 221 41).toInt - 1)) → (gi mem 221 44).toInt ≤ (gn (ga mem 246) ((gi mem 221 41).toInt - 1)) → aTm aT0 mem → P none mem) (h2 : ∀ (x1 : Int32), x1.toInt = ((gi mem 221 41).toInt - 1) → ∀ (y3 : Int32), y3.toInt = (gn (ga mem 246) ((gi mem 221 41).toInt - 1)) → (gn (ga mem 246) ((gi mem 221 41).toInt - 1)) < (gi mem 221 44).toInt → ∀ (x6 : Int32), x6.toInt = ((gi mem 221 44).toInt - 1) → ∀ (y8 : Int32), y8.toInt = (gn (ga mem 247) ((gi mem 221 44).toInt - 1)) → ∀ (v10 : Int32), v10.toInt = rkI y8.toInt → (v10).toInt < (ls).toInt → aTm aT0 mem → P none mem) (h3 : ∀ (x1 : Int32), x1.toInt = ((gi mem 221 41).toInt - 1) → ∀ (y3 : Int32), y3.toInt = (gn (ga mem 246) ((gi mem 221 41).toInt - 1)) → (gn (ga mem 246) ((gi mem 221 41).toInt - 1)) < (gi mem 221 44).toInt → ∀ (x6 : Int32), x6.toInt = ((gi mem 221 44).toInt - 1) → ∀ (y8 : Int32), y8.toInt = (gn (ga mem 247) ((gi mem 221 44).toInt - 1)) → ∀ (v10 : Int32), v10.toInt = rkI y8.toInt → (ls).toInt ≤ (v10).toInt → ∀ (x13 : Int32), x13.toInt = ((gi mem 221 44).toInt - 1) → ∀ (y15 : Int32), y15.toInt = (gn (ga mem 247) ((gi mem 221 44).toInt - 1)) → ∀ (x17 : Int32), x17.toInt = (1600 * (gi mem 221 34).toInt) → ∀ (x19 : Int32), x19.toInt = ((1600 * (gi mem 221 34).toInt) + (gi mem 221 33).toInt) → ∀ (x21 : Int32), x21.toInt = (1600 * (gi mem 221 34).toInt) → ∀ (x23 : Int32), x23.toInt = ((1600 * (gi mem 221 34).toInt) + (gi mem 221 33).toInt) → ∀ (x25 : Int32), x25.toInt = ((gi mem 221 33).toInt + 1) → ∀ (y27 : Int32), y27.toInt = (gn (ga mem 247) ((gi mem 221 44).toInt - 1)) → ¬ (gn (ga mem 247) ((gi mem 221 44).toInt - 1)) = 43 → aTm aT0 (si (sx (sx (si mem 221 44 x13) 238 x19 y15) 239 x23 0) 221 33 x25) → yR zpg tX12_joins (d + 2) (0, [(0, .ref 221), (1, .int ls)], [], (si (sx (sx (si mem 221 44 x13) 238 x19 y15) 239 x23 0) 221 33 x25)) P) (h4 : ∀ (x1 : Int32), x1.toInt = ((gi mem 221 41).toInt - 1) → ∀ (y3 : Int32), y3.toInt = (gn (ga mem 246) ((gi mem 221 41).toInt - 1)) → (gn (ga mem 246) ((gi mem 221 41).toInt - 1)) < (gi mem 221 44).toInt → ∀ (x6 : Int32), x6.toInt = ((gi mem 221 44).toInt - 1) → ∀ (y8 : Int32), y8.toInt = (gn (ga mem 247) ((gi mem 221 44).toInt - 1)) → ∀ (v10 : Int32), v10.toInt = rkI y8.toInt → (ls).toInt ≤ (v10).toInt → ∀ (x13 : Int32), x13.toInt = ((gi mem 221 44).toInt - 1) → ∀ (y15 : Int32), y15.toInt = (gn (ga mem 247) ((gi mem 221 44).toInt - 1)) → ∀ (x17 : Int32), x17.toInt = (1600 * (gi mem 221 34).toInt) → ∀ (x19 : Int32), x19.toInt = ((1600 * (gi mem 221 34).toInt) + (gi mem 221 33).toInt) → ∀ (x21 : Int32), x21.toInt = (1600 * (gi mem 221 34).toInt) → ∀ (x23 : Int32), x23.toInt = ((1600 * (gi mem 221 34).toInt) + (gi mem 221 33).toInt) → ∀ (x25 : Int32), x25.toInt = ((gi mem 221 33).toInt + 1) → ∀ (y27 : Int32), y27.toInt = (gn (ga mem 247) ((gi mem 221 44).toInt - 1)) → (gn (ga mem 247) ((gi mem 221 44).toInt - 1)) = 43 → ∀ (x30 : Int32), x30.toInt = ((gi mem 221 42).toInt - 1) → aTm aT0 (si (si (sx (sx (si mem 221 44 x13) 238 x19 y15) 239 x23 0) 221 33 x25) 221 42 x30) → yR zpg tX12_joins (d + 2) (0, [(0, .ref 221), (1, .int ls)], [], (si (si (sx (sx (si mem 221 44 x13) 238 x19 y15) 239 x23 0) 221 33 x25) 221 42 x30)) P) : yR zpg tX12_joins (d + 2) (0, [(0, .ref 221), (1, .int ls)], [], mem) P := by
  obtain ⟨i0, i1⟩ := mO_r34 hm
  refine yR_m 1 (fun _ _ _ _ => rfl) ?_
  refine wR_gi rfl mO_e mO_44 hm rfl ?_
  refine yR_m 1 (fun _ _ _ _ => rfl) ?_
  refine wR_gr rfl mO_e mO_40 hm ?_
  refine yR_m 1 (fun _ _ _ _ => rfl) ?_
  refine wR_gi rfl mO_e mO_41 hm rfl ?_
  refine yR_m 1 (fun _ _ _ _ => rfl) ?_
  refine wN_sub (a := (gi mem 221 41).toInt) (b := 1) rfl rfl rfl (by omega) (fun x1 e2 => ?_)
  refine wN_al (a := ((gi mem 221 41).toInt - 1)) rfl aR_246 hm rfl e2 (by omega) (fun y3 e4 => ?_)
  refine wR_ic_le rfl (a := (gi mem 221 44).toInt) (c := (gn (ga mem 246) ((gi mem 221 41).toInt - 1))) rfl e4 (fun q5 => ?_) (fun q5 => ?_)
  ·
    exact yR_rv rfl (h1 x1 e2 y3 e4 q5 hm)
  ·
    refine yR_m 1 (fun _ _ _ _ => rfl) ?_
    refine wR_gr rfl mO_e mO_43 hm ?_
    refine yR_m 1 (fun _ _ _ _ => rfl) ?_
    refine wR_gi rfl mO_e mO_44 hm rfl ?_
    refine yR_m 1 (fun _ _ _ _ => rfl) ?_
    refine wN_sub (a := (gi mem 221 44).toInt) (b := 1) rfl rfl rfl (by omega) (fun x6 e7 => ?_)
    refine wN_al (a := ((gi mem 221 44).toInt - 1)) rfl aR_247 hm rfl e7 (by omega) (fun y8 e9 => ?_)
    refine yR_cs rfl rfl rfl (c_rank hm (by omega)) ?_
    rintro _ _ ⟨v10, rfl, rfl, k11⟩
    show yR zpg tX12_joins (d + 2) (32, [(0, .ref 221), (1, .int ls)], [.int v10], mem) _
    refine yR_m 1 (fun _ _ _ _ => rfl) ?_
    refine wR_ic_lt rfl (a := (v10).toInt) (c := (ls).toInt) rfl rfl (fun q12 => ?_) (fun q12 => ?_)
    ·
      exact yR_rv rfl (h2 x1 e2 y3 e4 q5 x6 e7 y8 e9 v10 k11 q12 hm)
    ·
      refine yR_m 2 (fun _ _ _ _ => rfl) ?_
      refine wR_gi rfl mO_e mO_44 hm rfl ?_
      refine yR_m 1 (fun _ _ _ _ => rfl) ?_
      refine wN_sub (a := (gi mem 221 44).toInt) (b := 1) rfl rfl rfl (by omega) (fun x13 e14 => ?_)
      refine wR_pi rfl mO_e mO_44 hm rfl ?_
      have hm_1 : aTm aT0 (si mem 221 44 x13) := tm_si mO_e mO_44 hm (i32_b _)
      refine yR_m 2 (fun _ _ _ _ => rfl) ?_
      refine wR_gr rfl mO_e mO_43 hm_1 ?_
      refine yR_m 1 (fun _ _ _ _ => rfl) ?_
      refine wR_gi rfl mO_e mO_44 hm_1 (gi_si_eq mO_e mO_44 hm) ?_
      refine wN_al (a := ((gi mem 221 44).toInt - 1)) rfl aR_247 hm_1 (ga_sv) e14 (by omega) (fun y15 e16 => ?_)
      refine yR_m 1 (fun _ _ _ _ => rfl) ?_
      refine wR_iv rfl rfl mO_e hm_1 rfl rfl rfl rfl ?_
      show yR zpg tX12_add (d + 1) (0, [(0, .ref 221), (1, .int y15), (2, .int 0)], [], (si mem 221 44 x13)) _
      refine yR_m 1 (fun _ _ _ _ => rfl) ?_
      refine wR_gr rfl mO_e mO_29 hm_1 ?_
      refine yR_m 2 (fun _ _ _ _ => rfl) ?_
      refine wR_gi rfl mO_e mO_34 hm_1 (gi_sv_ne (by decide)) ?_
      refine wN_mul (a := 1600) (b := (gi mem 221 34).toInt) rfl rfl rfl (by omega) (fun x17 e18 => ?_)
      refine yR_m 1 (fun _ _ _ _ => rfl) ?_
      refine wR_gi rfl mO_e mO_33 hm_1 (gi_sv_ne (by decide)) ?_
      refine wN_add (a := (1600 * (gi mem 221 34).toInt)) (b := (gi mem 221 33).toInt) rfl e18 rfl (by omega) (fun x19 e20 => ?_)
      refine yR_m 1 (fun _ _ _ _ => rfl) ?_
      refine wN_as (a := ((1600 * (gi mem 221 34).toInt) + (gi mem 221 33).toInt)) rfl aR_238 hm_1 e20 (by omega) ?_
      have hm_2 : aTm aT0 (sx (si mem 221 44 x13) 238 x19 y15) := tm_sa aR_238 hm_1 (i32_b _)
      refine yR_m 1 (fun _ _ _ _ => rfl) ?_
      refine wR_gr rfl mO_e mO_30 hm_2 ?_
      refine yR_m 2 (fun _ _ _ _ => rfl) ?_
      refine wR_gi rfl mO_e mO_34 hm_2 ((gi_sa).trans (gi_sv_ne (by decide))) ?_
      refine wN_mul (a := 1600) (b := (gi mem 221 34).toInt) rfl rfl rfl (by omega) (fun x21 e22 => ?_)
      refine yR_m 1 (fun _ _ _ _ => rfl) ?_
      refine wR_gi rfl mO_e mO_33 hm_2 ((gi_sa).trans (gi_sv_ne (by decide))) ?_
      refine wN_add (a := (1600 * (gi mem 221 34).toInt)) (b := (gi mem 221 33).toInt) rfl e22 rfl (by omega) (fun x23 e24 => ?_)
      refine yR_m 1 (fun _ _ _ _ => rfl) ?_
      refine wN_as (a := ((1600 * (gi mem 221 34).toInt) + (gi mem 221 33).toInt)) rfl aR_239 hm_2 e24 (by omega) ?_
      have hm_3 : aTm aT0 (sx (sx (si mem 221 44 x13) 238 x19 y15) 239 x23 0) := tm_sa aR_239 hm_2 (i32_b _)
      refine yR_m 2 (fun _ _ _ _ => rfl) ?_
      refine wR_gi rfl mO_e mO_33 hm_3 ((gi_sa).trans ((gi_sa).trans (gi_sv_ne (by decide)))) ?_
      refine yR_m 1 (fun _ _ _ _ => rfl) ?_
      refine wN_add (a := (gi mem 221 33).toInt) (b := 1) rfl rfl rfl (by omega) (fun x25 e26 => ?_)
      refine wR_pi rfl mO_e mO_33 hm_3 rfl ?_
      have hm_4 : aTm aT0 (si (sx (sx (si mem 221 44 x13) 238 x19 y15) 239 x23 0) 221 33 x25) := tm_si mO_e mO_33 hm_3 (i32_b _)
      refine yR_rv rfl ?_
      show yR zpg tX12_joins (d + 2) (60, [(0, .ref 221), (1, .int ls)], [], (si (sx (sx (si mem 221 44 x13) 238 x19 y15) 239 x23 0) 221 33 x25)) _
      refine yR_m 1 (fun _ _ _ _ => rfl) ?_
      refine wR_gr rfl mO_e mO_43 hm_4 ?_
      refine yR_m 1 (fun _ _ _ _ => rfl) ?_
      refine wR_gi rfl mO_e mO_44 hm_4 ((gi_sv_ne (by decide)).trans ((gi_sa).trans ((gi_sa).trans (gi_si_eq mO_e mO_44 hm)))) ?_
      refine wN_al (a := ((gi mem 221 44).toInt - 1)) rfl aR_247 hm_4 ((ga_sv).trans ((ga_sa_ne (by decide)).trans ((ga_sa_ne (by decide)).trans (ga_sv)))) e14 (by omega) (fun y27 e28 => ?_)
      refine yR_m 1 (fun _ _ _ _ => rfl) ?_
      refine wR_ic_ne rfl (a := (gn (ga mem 247) ((gi mem 221 44).toInt - 1))) (c := 43) e28 rfl (fun q29 => ?_) (fun q29 => ?_)
      ·
        exact h3 x1 e2 y3 e4 q5 x6 e7 y8 e9 v10 k11 q12 x13 e14 y15 e16 x17 e18 x19 e20 x21 e22 x23 e24 x25 e26 y27 e28 q29 hm_4
      ·
        refine yR_m 2 (fun _ _ _ _ => rfl) ?_
        refine wR_gi rfl mO_e mO_42 hm_4 ((gi_sv_ne (by decide)).trans ((gi_sa).trans ((gi_sa).trans (gi_sv_ne (by decide))))) ?_
        refine yR_m 1 (fun _ _ _ _ => rfl) ?_
        refine wN_sub (a := (gi mem 221 42).toInt) (b := 1) rfl rfl rfl (by omega) (fun x30 e31 => ?_)
        refine wR_pi rfl mO_e mO_42 hm_4 rfl ?_
        have hm_5 : aTm aT0 (si (si (sx (sx (si mem 221 44 x13) 238 x19 y15) 239 x23 0) 221 33 x25) 221 42 x30) := tm_si mO_e mO_42 hm_4 (i32_b _)
        exact yR_m 1 (fun _ _ _ _ => rfl) (h4 x1 e2 y3 e4 q5 x6 e7 y8 e9 v10 k11 q12 x13 e14 y15 e16 x17 e18 x19 e20 x21 e22 x23 e24 x25 e26 y27 e28 q29 x30 e31 hm_5)

/-- what joins leaves -/
def jnQ (mem m : zM) (mr : zM) (fm : Int) (f : Fm) (r : List Fm) (least : Int) : Prop := fr [238, 239] [33, 42, 44] mem m ∧ ∃ s : List Int, (∀ q ∈ s, q ∈ f.2.2.2.2) ∧ (∀ q, s.head? = some q → rkI q < least) ∧ PI mr m fm ((f.1, f.2.1, f.2.2.1, f.2.2.2.1, s) :: r) 1
theorem jn_loop {mr m0 : zM} {d : Nat} {fm k p ph bg : Int} {s0 : List Int} {r : List Fm} {ls : Int32} : ∀ (s : List Int) (mem : zM), aTm aT0 mem → fr [238, 239] [33, 42, 44] m0 mem → (∀ q ∈ s, q ∈ s0) → PI mr mem fm ((k, p, ph, bg, s) :: r) 1 → yR zpg tX12_joins (d + 2) (0, [(0, .ref 221), (1, .int ls)], [], mem) (fun r' m => r' = none ∧ aTm aT0 m ∧ jnQ m0 m mr fm (k, p, ph, bg, s0) r ls.toInt) := by
  intro s
  induction s with
  | nil =>
    intro mem hm hf hs hP
    have rg := PI_rg hm hP
    have b5 : gn (ga mem 246) ((gi mem 221 41).toInt - 1) = (gi mem 221 44).toInt - 0 := hP.2.1.1.1.2.2.2.2
    have d0 := hP.2.2.2.1.1
    have c7 := hP.2.2.1.2
    exact w_joins hm (by omega) (by omega) (by omega) (by omega) (by omega)
        (fun x1 e2 y3 e4 q5 hm2 => ⟨rfl, hm2, hf, [], hs, fun _ h => by simp at h, hP⟩)
        (fun x1 e2 y3 e4 q5 x6 e7 y8 e9 v10 k11 q12 hm2 => ⟨rfl, hm2, hf, [], hs, fun _ h => by simp at h, hP⟩)
        (fun x1 e2 y3 e4 q5 x6 e7 y8 e9 v10 k11 q12 x13 e14 y15 e16 x17 e18 x19 e20 x21 e22 x23 e24 x25 e26 y27 e28 q29 hm2 => by exfalso; omega)
        (fun x1 e2 y3 e4 q5 x6 e7 y8 e9 v10 k11 q12 x13 e14 y15 e16 x17 e18 x19 e20 x21 e22 x23 e24 x25 e26 y27 e28 q29 x30 e31 hm2 => by exfalso; omega)
  | cons q t ih =>
    intro mem hm hf hs hP
    have rg := PI_rg hm hP
    have b5 : gn (ga mem 246) ((gi mem 221 41).toInt - 1) = (gi mem 221 44).toInt - (((q :: t).length : Nat) : Int) := hP.2.1.1.1.2.2.2.2
    have rn := (rp_D hP.2.1.1.2.2 (fun f hf => hP.2.1.2.1 f (List.mem_cons_of_mem _ hf))).2.1
    have rn : 0 ≤ (gi mem 221 44).toInt - (((q :: t).length : Nat) : Int) := rn
    have len : (((q :: t : List Int).length : Nat) : Int) = (t.length : Int) + 1 := by simp
    have b6 := hP.2.1.1.2.1 0 (by show 0 < (q :: t).length; simp)
    have b6 : gn (ga mem 247) ((gi mem 221 44).toInt - 1 - ((0 : Nat) : Int)) = q := b6
    have b6 : gn (ga mem 247) ((gi mem 221 44).toInt - 1) = q := by rw [show (gi mem 221 44).toInt - 1 = (gi mem 221 44).toInt - 1 - ((0 : Nat) : Int) by omega]; exact b6
    have d0 := hP.2.2.2.1.1
    have c7 := hP.2.2.1.2
    have ip := hP.1.2.2.2
    have ip : (gi mem 221 34).toInt = 1 - (gi mem 221 13).toInt := ip
    have nq : 0 ≤ nn (q :: t) ∧ q = 43 → 1 ≤ nn (q :: t) := fun w => by
      have := nb_nn t
      simp only [nn, if_pos w.2]
      omega
    exact w_joins hm (by omega) (by omega) (by omega) (by omega) (by omega)
        (fun x1 e2 y3 e4 q5 hm2 => by exfalso; omega)
        (fun x1 e2 y3 e4 q5 x6 e7 y8 e9 v10 k11 q12 hm2 => ⟨rfl, hm2, hf, q :: t, hs, fun z h => by
          simp only [List.head?_cons, Option.some.injEq] at h
          have R := k11
          rw [e9, b6] at R
          rw [← h]
          omega, hP⟩)
        (fun x1 e2 y3 e4 q5 x6 e7 y8 e9 v10 k11 q12 x13 e14 y15 e16 x17 e18 x19 e20 x21 e22 x23 e24 x25 e26 y27 e28 q29 hm2 => by
          have E44 : gi (si (sx (sx (si mem 221 44 x13) 238 x19 y15) 239 x23 0) 221 33 x25) 221 44 = x13 := ((gi_sv_ne (by decide)).trans ((gi_sa).trans ((gi_sa).trans (gi_eqO (isO_of hm) (by decide)))))
          have E33 : gi (si (sx (sx (si mem 221 44 x13) 238 x19 y15) 239 x23 0) 221 33 x25) 221 33 = x25 := (gi_eqO (isO_sa (by decide) (isO_sa (by decide) (isO_sv (isO_of hm)))) (by decide))
          have E42 : gi (si (sx (sx (si mem 221 44 x13) 238 x19 y15) 239 x23 0) 221 33 x25) 221 42 = (gi mem 221 42) := ((gi_sv_ne (by decide)).trans ((gi_sa).trans ((gi_sa).trans (gi_sv_ne (by decide)))))
          have G : ga (si (sx (sx (si mem 221 44 x13) 238 x19 y15) 239 x23 0) 221 33 x25) 238 = ((ga mem 238).set x19.toNatClampNeg y15) := ((ga_sv).trans ((ga_sa_ne (by decide)).trans (ga_sa_eq.trans (congrArg (fun l => List.set l x19.toNatClampNeg y15) (ga_sv)))))
          have G9 : ga (si (sx (sx (si mem 221 44 x13) 238 x19 y15) 239 x23 0) 221 33 x25) 239 = ((ga mem 239).set x23.toNatClampNeg 0) := ((ga_sv).trans (ga_sa_eq.trans (congrArg (fun l => List.set l x23.toNatClampNeg 0) ((ga_sa_ne (by decide)).trans (ga_sv)))))
          have F2 : fr [238, 239] [33, 42, 44] mem (si (sx (sx (si mem 221 44 x13) 238 x19 y15) 239 x23 0) 221 33 x25) := fr_sv rfl (fr_sa rfl (fr_sa rfl (fr_sv rfl (fr_rf))))
          exact ih _ hm2 (fr_tr hf F2) (fun z hz => hs z (List.mem_cons_of_mem _ hz)) (PI_pop (x := x19) (y := y15) (x9 := x23) (z9 := 0) hm hP F2 (by rw [E44]; omega) (by rw [E33]; omega) (by rw [E42, if_neg (show ¬ q = 43 by omega)]; omega) (by omega) (by omega) G (by omega) G9))
        (fun x1 e2 y3 e4 q5 x6 e7 y8 e9 v10 k11 q12 x13 e14 y15 e16 x17 e18 x19 e20 x21 e22 x23 e24 x25 e26 y27 e28 q29 x30 e31 hm2 => by
          have E44 : gi (si (si (sx (sx (si mem 221 44 x13) 238 x19 y15) 239 x23 0) 221 33 x25) 221 42 x30) 221 44 = x13 := ((gi_sv_ne (by decide)).trans ((gi_sv_ne (by decide)).trans ((gi_sa).trans ((gi_sa).trans (gi_eqO (isO_of hm) (by decide))))))
          have E33 : gi (si (si (sx (sx (si mem 221 44 x13) 238 x19 y15) 239 x23 0) 221 33 x25) 221 42 x30) 221 33 = x25 := ((gi_sv_ne (by decide)).trans (gi_eqO (isO_sa (by decide) (isO_sa (by decide) (isO_sv (isO_of hm)))) (by decide)))
          have E42 : gi (si (si (sx (sx (si mem 221 44 x13) 238 x19 y15) 239 x23 0) 221 33 x25) 221 42 x30) 221 42 = x30 := (gi_eqO (isO_sv (isO_sa (by decide) (isO_sa (by decide) (isO_sv (isO_of hm))))) (by decide))
          have G : ga (si (si (sx (sx (si mem 221 44 x13) 238 x19 y15) 239 x23 0) 221 33 x25) 221 42 x30) 238 = ((ga mem 238).set x19.toNatClampNeg y15) := ((ga_sv).trans ((ga_sv).trans ((ga_sa_ne (by decide)).trans (ga_sa_eq.trans (congrArg (fun l => List.set l x19.toNatClampNeg y15) (ga_sv))))))
          have G9 : ga (si (si (sx (sx (si mem 221 44 x13) 238 x19 y15) 239 x23 0) 221 33 x25) 221 42 x30) 239 = ((ga mem 239).set x23.toNatClampNeg 0) := ((ga_sv).trans ((ga_sv).trans (ga_sa_eq.trans (congrArg (fun l => List.set l x23.toNatClampNeg 0) ((ga_sa_ne (by decide)).trans (ga_sv))))))
          have F2 : fr [238, 239] [33, 42, 44] mem (si (si (sx (sx (si mem 221 44 x13) 238 x19 y15) 239 x23 0) 221 33 x25) 221 42 x30) := fr_sv rfl (fr_sv rfl (fr_sa rfl (fr_sa rfl (fr_sv rfl (fr_rf)))))
          exact ih _ hm2 (fr_tr hf F2) (fun z hz => hs z (List.mem_cons_of_mem _ hz)) (PI_pop (x := x19) (y := y15) (x9 := x23) (z9 := 0) hm hP F2 (by rw [E44]; omega) (by rw [E33]; omega) (by rw [E42, if_pos (show q = 43 by omega)]; omega) (by omega) (by omega) G (by omega) G9))
theorem h_joins {mr mem : zM} {d : Nat} (hd : 3 ≤ d) {fm : Int} {f : Fm} {r : List Fm} {ls : Int32} (hm : aTm aT0 mem) (hP : PI mr mem fm (f :: r) 1) : yC zpg d 183 [.ref 221, .int ls] mem (fun r' m => r' = none ∧ aTm aT0 m ∧ jnQ mem m mr fm f r ls.toInt) := by
  obtain ⟨d, rfl⟩ : ∃ q, d = q + 3 := ⟨d - 3, by omega⟩
  obtain ⟨k, p, ph, bg, s⟩ := f
  refine yC_of (t := tX12_joins) rfl rfl ?_
  exact jn_loop (s0 := s) s mem hm fr_rf (fun _ h => h) hP
