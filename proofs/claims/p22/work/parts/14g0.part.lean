def g_mum (p q : Int × Int) : Int × Int := bif Bool.and (decide (0 ≤ p.1)) (decide (0 ≤ q.1)) then aRg (p.1 * q.1) (p.2 * q.2) else aTop
theorem sd_mum : aSd (fun x y => x * y) g_mum := fun p q x y h1 h2 h3 h4 => by
  unfold g_mum
  cases hb : Bool.and (decide (0 ≤ p.1)) (decide (0 ≤ q.1)) with
  | false => exact i32_b _
  | true =>
    obtain ⟨b1, b2⟩ := (Bool.and_eq_true _ _).mp hb
    have b1 := of_decide_eq_true b1
    have b2 := of_decide_eq_true b2
    exact aRg_s (Int32.toInt_mul x y) (Int.mul_le_mul h1 h3 b2 (by omega)) (Int.mul_le_mul h2 h4 (by omega) (by omega))
/-! more than one place at one pc: a run that comes there must fit one of them; a load at a known index of what the extra invariant knows -/
def aNok (old : Option (List (Int × Nat) × Int)) (a : aS) (n : aNd) : Bool := match a with
  | (pc, la, sa, en, _, _) => Bool.and (Nat.beq n.1 pc) (Bool.and (Bool.and (Nat.beq sa.length 0) (n.2.1.all (aLe1 la en))) (match aSy la n.2.2.1 with
      | none => false
      | some l => Bool.and (decide (aUb en (aNg l) ≤ n.2.2.2)) (match old with
        | none => true
        | some o => decide (aUb en (l ++ aNg o.1) + n.2.2.2 < o.2))))
def aNc3 (ns : List aNd) (old : Option (List (Int × Nat) × Int)) (a : aS) : Option Bool := bif ns.any (fun n => Nat.beq n.1 a.1) then some (ns.any (aNok old a)) else none
theorem aNc3_s {Θ : aTh} {m0 : zM} {ns : List aNd} {old : Option (List (Int × Nat) × Int)} {a : aS} {ν : List Int32} {st : zS} (h : aNc3 ns old a = some true) (hg : aGm Θ m0 ν a st) : ∃ n ∈ ns, st.1 = n.1 ∧ st.2.2.1 = [] ∧ aLt n.2.1 st.2.1 ∧ 0 ≤ zms st.2.1 n.2.2.1 + n.2.2.2 ∧ ∀ o, old = some o → aIl ν o.1 → zms st.2.1 n.2.2.1 + n.2.2.2 < nus ν o.1 + o.2 := by
  obtain ⟨pc, la, sa, en, nx, mo⟩ := a
  obtain ⟨pc', lo, sk, mem⟩ := st
  obtain ⟨e0, g1, g2, g3, -⟩ := hg
  have e1 : pc' = pc := e0
  subst e1
  have h1 : aLo ν la lo := g1
  have h2 : aSk ν sa sk := g2
  have h3 : aFa ν en := g3
  unfold aNc3 at h
  cases hb : ns.any (fun n => Nat.beq n.1 pc') with
  | false =>
    have hb' : ns.any (fun n => Nat.beq n.1 (pc', la, sa, en, nx, mo).1) = false := hb
    rw [hb'] at h
    cases h
  | true =>
    have hb' : ns.any (fun n => Nat.beq n.1 (pc', la, sa, en, nx, mo).1) = true := hb
    rw [hb'] at h
    simp only [cond_true, Option.some.injEq] at h
    obtain ⟨n, n1, hn⟩ := List.any_eq_true.mp h
    unfold aNok at hn
    obtain ⟨n2', hn'⟩ := (Bool.and_eq_true _ _).mp hn
    have n2 : n.1 = pc' := Nat.eq_of_beq_eq_true n2'
    obtain ⟨q1, q2⟩ := (Bool.and_eq_true _ _).mp hn'
    obtain ⟨q3, q4⟩ := (Bool.and_eq_true _ _).mp q1
    split at q2
    · cases q2
    · next l hl =>
      obtain ⟨q5, q6⟩ := (Bool.and_eq_true _ _).mp q2
      have q5 := of_decide_eq_true q5
      obtain ⟨s1, s2⟩ := aSy_s h1 hl
      have b1 := aUb_s h3 (aNg_i s2)
      rw [aNg_s] at b1
      refine ⟨n, n1, n2.symm, ?_, fun q hq => ?_, ?_, fun o ho hi => ?_⟩
      · have := aSk_len h2
        have q3 := Nat.eq_of_beq_eq_true q3
        show sk = []
        exact List.eq_nil_of_length_eq_zero (by omega)
      · have g := List.all_eq_true.mp q4 q hq
        unfold aLe1 at g
        split at g
        · next v hv =>
          obtain ⟨x, x1, x2⟩ := alg_s h1 hv
          exact ⟨x, x1, aVe_s h3 g x2⟩
        · cases g
      · show 0 ≤ zms lo n.2.2.1 + n.2.2.2
        omega
      · subst ho
        have q6 := of_decide_eq_true q6
        have b2 := aUb_s (l := l ++ aNg o.1) h3 (fun q hq => (List.mem_append.mp hq).elim (s2 q) (aNg_i hi q))
        rw [nus_app, aNg_s] at b2
        show zms lo n.2.2.1 + n.2.2.2 < nus ν o.1 + o.2
        omega
def aN13 (tb : aTb) (ns : List aNd) (fuel : Nat) (τ : Option aTy) (n : aNd) : Bool := match aMk n.2.1 0 with
  | (la, en, nx) => match aSy la n.2.2.1 with
    | none => false
    | some l => aGo tb (aNc3 ns (some (l, n.2.2.2))) (aRc τ) fuel (n.1, la, [], en, nx, [])
def aChk3 (tb : aTb) (ns : List aNd) (fuel nl : Nat) (c : aCt) : Bool := Bool.and (Bool.and (Nat.ble (aWt c.2.1) nl) (match aMk (aLs 0 c.2.1) 0 with
  | (la, en, nx) => aGo tb (aNc3 ns none) (aRc c.2.2) fuel (0, la, [], en, nx, []))) (ns.all (aN13 tb ns fuel c.2.2))
theorem aMeth3 {Θ : aTh} {D nl fuel : Nat} {c : aCt} {t : zT} {tb : aTb} {ns : List aNd} (hj : Θ.2.2 c.1 = some (nl, t)) (hP : aP1 Θ D t tb) (h : aChk3 tb ns fuel nl c = true) : aCv Θ (D + 1) c := by
  intro d mem av hd hJ hav
  obtain ⟨b1, b2⟩ := (Bool.and_eq_true _ _).mp h
  obtain ⟨b3, b4⟩ := (Bool.and_eq_true _ _).mp b1
  obtain ⟨d, rfl⟩ : ∃ q, d = q + 1 := ⟨d - 1, by omega⟩
  refine yC_of hj (by rw [aWt_s hav]; exact b3) ?_
  have hR : ∀ (ν0 : List Int32) (a : aS) (ν : List Int32) (st : zS) (ra : Option aV) (r : Option Value), ν0 <+: ν → aRc c.2.2 ra a = true → aGm Θ mem ν a st → aRm ν ra r → (aJ Θ st.2.2.2 ∧ aPr Θ.1 mem st.2.2.2 ∧ aTr c.2.2 r) := fun ν0 a ν st ra r _ hr hg hm => by
    obtain ⟨-, -, -, h3, -, -, h6, h7⟩ := hg
    refine ⟨h6, h7, ?_⟩
    unfold aRc at hr
    split at hr
    · next e1 =>
      rw [e1]
      cases r with
      | none => trivial
      | some x => exact hm.elim
    · next τ v e1 =>
      rw [e1]
      cases r with
      | none => exact hm.elim
      | some x => exact aVe_s h3 hr hm
    · cases hr
  have node : ∀ (M : Nat) (n : aNd) (st : zS), n ∈ ns → st.1 = n.1 → st.2.2.1 = [] → aLt n.2.1 st.2.1 → aJ Θ st.2.2.2 → aPr Θ.1 mem st.2.2.2 → 0 ≤ zms st.2.1 n.2.2.1 + n.2.2.2 → (zms st.2.1 n.2.2.1 + n.2.2.2).toNat = M → yR Θ.2.2 t d st (fun r m => aJ Θ m ∧ aPr Θ.1 mem m ∧ aTr c.2.2 r) := by
    intro M
    induction M using Nat.strongRecOn with
    | ind M ih =>
      intro n st hn e1 e2 hl hJ' hp' h0 hM
      have g := List.all_eq_true.mp b2 n hn
      unfold aN13 at g
      dsimp only at g
      split at g
      · cases g
      · next l hs =>
        obtain ⟨ν, -, p2, p3, p4⟩ := aMk_s (nx := 0) (ν := []) hl rfl
        obtain ⟨s1, s2⟩ := aSy_s p3 hs
        refine aGo_s (m0 := mem) (ν0 := ν) hP (by omega) (fun a ν' st' hp hc hg => ?_) (hR ν) fuel _ ν st (List.prefix_refl _) g ⟨e1, p3, by show aSk ν [] st.2.2.1; rw [e2]; trivial, p4, p2, fun q hq => absurd hq List.not_mem_nil, hJ', hp'⟩
        obtain ⟨n', n1, n2, n3, n4, n5, n6⟩ := aNc3_s hc hg
        obtain ⟨w1, w2⟩ := nus_pre hp s2
        have n7 := n6 _ rfl w2
        rw [w1, ← s1] at n7
        obtain ⟨-, -, -, -, -, -, g6, g7⟩ := hg
        have n7 : zms st'.2.1 n'.2.2.1 + n'.2.2.2 < zms st.2.1 n.2.2.1 + n.2.2.2 := n7
        exact ih _ (by omega) n' st' n1 n2 n3 n4 g6 g7 n5 rfl
  obtain ⟨ν, -, p2, p3, p4⟩ := aMk_s (nx := 0) (ν := []) (aLs_s (i := 0) hav) rfl
  refine aGo_s (m0 := mem) (ν0 := ν) hP (by omega) (fun a ν' st' hp hc hg => ?_) (hR ν) fuel _ ν _ (List.prefix_refl _) b4 ⟨rfl, p3, trivial, p4, p2, fun q hq => absurd hq List.not_mem_nil, hJ, aPr_rf⟩
  obtain ⟨n', n1, n2, n3, n4, n5, -⟩ := aNc3_s hc hg
  obtain ⟨-, -, -, -, -, -, g6, g7⟩ := hg
  exact node _ n' st' n1 n2 n3 n4 g6 g7 n5 rfl
/-- a load at an index that is one known number -/
def a_alc (T : List aCe) (k : Nat) (f : Int → Option (Int × Int)) : aF := fun a K _ => match a with
  | (pc, la, .inl s :: .inr (some [k']) :: sa, en, nx, mo) => Bool.and (Bool.and (Nat.beq k' k) (decide ((aFn en s).1 = (aFn en s).2.1))) (Bool.and (Bool.and (decide (0 ≤ (aFn en s).1)) (aGa T 0 (aFn en s).2.1 (-2147483648, 2147483647) k)) (match f (aFn en s).1 with
    | some q => K (pc + 1, la, .inl nx :: sa, (nx, q.1, q.2, nx, 0) :: en, nx + 1, mo)
    | none => false))
  | _ => false
def aQc (Θ : aTh) (k : Nat) (f : Int → Option (Int × Int)) : Prop := ∀ (mem : zM) (x : Int32) (l : List Int32) (q : Int × Int), aJ Θ mem → zat mem k = some (.inl (0, .inl l)) → f x.toInt = some q → q.1 ≤ (l.getD x.toNatClampNeg 0).toInt ∧ (l.getD x.toNatClampNeg 0).toInt ≤ q.2
theorem aok_alc {Θ : aTh} {D k : Nat} {f : Int → Option (Int × Int)} (hq : aQc Θ k f) : aOk Θ D (zal 0) (a_alc Θ.1 k f) := by
  intro d m0 ν pc la sa en nx mo lo sk mem K R hD h1 h2 h3 h4 h5 h6 h7 hA
  unfold a_alc at hA
  split at hA
  · next heq =>
    cases heq
    rename_i s k' sa
    obtain ⟨c1, c2⟩ := (Bool.and_eq_true _ _).mp hA
    obtain ⟨c3, c4⟩ := (Bool.and_eq_true _ _).mp c1
    obtain ⟨c5, c6⟩ := (Bool.and_eq_true _ _).mp c2
    obtain ⟨c7, c8⟩ := (Bool.and_eq_true _ _).mp c5
    have c3 := Nat.eq_of_beq_eq_true c3
    subst c3
    have c4 := of_decide_eq_true c4
    have c7 := of_decide_eq_true c7
    split at c6
    · next q hf =>
      obtain ⟨_, sk, rfl, ⟨x, k1, rfl⟩, h2a⟩ := aSk_c h2
      obtain ⟨_, sk, rfl, ⟨kk, hk, rfl⟩, h2b⟩ := aSk_c h2a
      rw [List.mem_singleton] at hk
      subst hk
      have e1 := aFn_s h3 k1
      unfold aGa at c8
      split at c8
      · next b t' n' p hp =>
        obtain ⟨g1, g⟩ := (Bool.and_eq_true _ _).mp c8
        obtain ⟨g2, -⟩ := (Bool.and_eq_true _ _).mp g
        have g1 := Nat.eq_of_beq_eq_true g1
        subst g1
        have g2 := of_decide_eq_true g2
        obtain ⟨l, l1, l2, l3⟩ := aTm_a h6.1 hp
        have x0 : 0 ≤ x.toInt := by omega
        have x1 : x.toInt < l.length := by omega
        have x2 : x.toInt = (aFn en s).1 := by omega
        obtain ⟨w1, w2⟩ := hq mem x l q h6 l1 (by rw [x2]; exact hf)
        refine Or.inl ⟨(pc + 1, lo, .int (l.getD x.toNatClampNeg 0) :: sk, mem), _, ν ++ [l.getD x.toNatClampNeg 0], List.prefix_append _ _, fun Y rec κ ρ => ?_, c6, aGm_nw _ h1 h2b h3 h4 h5 h6 h7 (aFa1_i h4 w1 w2)⟩
        have e : Bool.and (Nat.beq 0 0) (zixl x l) = true := by
          rw [zixl_t x0 x1]
          rfl
        simp only [zal, l1, e]
      · cases c8
    · cases c6
  · cases hA
def met_f (x : Int) : Option (Int × Int) := bif Bool.and (decide (0 ≤ x)) (decide (x % 4 = 1)) then some (0, 5) else none
def aH3 (E : zM → Prop) : Prop := aEs (aΘ0 E) ∧ aQc (aΘ0 E) 191 met_f
