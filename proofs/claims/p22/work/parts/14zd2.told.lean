/-! only finds asks who is near; a quay that was read is well told (pure) -/
section NRA
variable {T : List Int32} {n wh : Int}
def nrO (l : List Fr) : Prop := ∀ f ∈ l, ¬ (18 : Int) ∈ f.2.2.2
theorem nr_c {f : Fr} {r : List Fr} : nrO (f :: r) ↔ (¬ (18 : Int) ∈ f.2.2.2 ∧ nrO r) := List.forall_mem_cons
theorem nr_E {L : Int} (hL : 1 ≤ L) : ∀ (l : List Int), ¬ (10018 : Int) ∈ jnE L l
  | [], hh => by cases hh
  | q :: t, hh => by
    by_cases k : L ≤ rkC q
    · have j := jn_hi (t := t) k
      rw [j.1] at hh
      rcases List.mem_cons.1 hh with ee | ee
      · have q18 : q = 18 := by omega
        rw [q18] at k
        have r18 : rkC 18 = 0 := rfl
        omega
      · exact nr_E hL t ee
    · have j := jn_lo (L := L) (l := q :: t) (fun z hz => by cases hz; omega)
      rw [j.1] at hh
      cases hh
theorem nr_R {L : Int} : ∀ (l : List Int), ¬ (18 : Int) ∈ l → ¬ (18 : Int) ∈ jnR L l
  | [], _, hh => by cases hh
  | q :: t, hn, hh => by
    by_cases k : L ≤ rkC q
    · have j := jn_hi (t := t) k
      rw [j.2] at hh
      exact nr_R t (fun z => hn (List.mem_cons_of_mem _ z)) hh
    · have j := jn_lo (L := L) (l := q :: t) (fun z hz => by cases hz; omega)
      rw [j.2] at hh
      exact hn hh
theorem nr_P {l : List Int} (hn : ¬ (18 : Int) ∈ l) : ¬ (10018 : Int) ∈ opE l := by
  intro hh
  obtain ⟨a, ha, ee⟩ := List.mem_map.1 hh
  have a18 : a = 18 := by omega
  rw [a18] at ha
  exact hn ha
theorem nr_k {q : Int} {l : List Int} (hq : ¬ q = 18) (hn : ¬ (18 : Int) ∈ l) : ¬ (18 : Int) ∈ q :: l := by
  intro hh
  rcases List.mem_cons.1 hh with ee | ee
  · exact hq ee.symm
  · exact hn ee
theorem nr_n : ¬ (10018 : Int) ∈ ([] : List Int) := by
  intro hh
  cases hh
theorem nr_v {p : Int} (h0 : 0 ≤ p) (h1 : p ≤ n) (hw : ¬ wh = 1) (hs : sIV T n wh p) : ¬ vIt T n p = 10018 := by
  by_cases v : (tkf T n p).1.1 = 2
  · have ee : vIt T n p = (tkf T n p).1.2.1 := if_pos v
    have k := tk_v h0 h1 v
    rw [ee]
    omega
  · have ee : vIt T n p = 10000 + wIx T n p := if_neg v
    rw [ee]
    rcases hs with c | c | c | c | c | c | c
    · exact absurd c v
    · rw [wIx_O (by decide) (by decide) c]
      decide
    · rw [wIx_O (by decide) (by decide) c]
      decide
    · rw [wIx_O (by decide) (by decide) c]
      decide
    · rw [wIx_O (by decide) (by decide) c]
      decide
    · rw [wIx_O (by decide) (by decide) c.1]
      decide
    · exact absurd c.2 hw
theorem nr_o {p : Int} {l : List Fr} {x : List Int × ((List Fr × Int) × Int)} (h0 : 0 ≤ p) (h1 : p ≤ n) (hw : ¬ wh = 1) (hl : nrO l) (hh : sOpd T n wh l p = some x) : ¬ (10018 : Int) ∈ x.1 ∧ nrO x.2.1.1 := by
  cases l with
  | nil => cases hh
  | cons f r =>
    obtain ⟨n1, n2⟩ := nr_c.1 hl
    have nE : ¬ (18 : Int) ∈ ([] : List Int) := fun z => by cases z
    unfold sOpd at hh
    rcases pif_s hh with ⟨c, hh⟩ | ⟨-, hh⟩
    · obtain ⟨-, hh⟩ := oif_s hh
      cases hh
      exact ⟨nr_n, nr_c.2 ⟨nr_k (by decide) n1, n2⟩⟩
    rcases pif_s hh with ⟨c, hh⟩ | ⟨-, hh⟩
    · obtain ⟨-, hh⟩ := oif_s hh
      cases hh
      exact ⟨nr_n, nr_c.2 ⟨nE, nr_c.2 ⟨n1, n2⟩⟩⟩
    rcases pif_s hh with ⟨c, hh⟩ | ⟨-, hh⟩
    · cases hh
      exact ⟨fun z => absurd (List.mem_singleton.1 z) (by decide), nr_c.2 ⟨n1, n2⟩⟩
    rcases pif_s hh with ⟨c, hh⟩ | ⟨-, hh⟩
    · obtain ⟨-, hh⟩ := oif_s hh
      cases hh
      exact ⟨nr_n, nr_c.2 ⟨nE, nr_c.2 ⟨n1, n2⟩⟩⟩
    rcases pif_s hh with ⟨c, hh⟩ | ⟨-, hh⟩
    · obtain ⟨ee, -, hh⟩ := ob_s hh
      obtain ⟨-, hh⟩ := oif_s hh
      have z18 : ¬ wIx T n p = 18 := by
        rcases c with c | c
        · rw [wIx_O (by decide) (by decide) c]
          decide
        · rw [wIx_O (by decide) (by decide) c]
          decide
      generalize wIx T n p = z at hh z18
      cases hh
      exact ⟨nr_n, nr_c.2 ⟨nr_k z18 nE, nr_c.2 ⟨n1, n2⟩⟩⟩
    rcases pif_s hh with ⟨c, hh⟩ | ⟨-, hh⟩
    · obtain ⟨ee, -, hh⟩ := ob_s hh
      obtain ⟨-, hh⟩ := oif_s hh
      have z18 : ¬ wIx T n p = 18 := by
        rw [wIx_O (by decide) (by decide) c]
        decide
      generalize wIx T n p = z at hh z18
      cases hh
      exact ⟨nr_n, nr_c.2 ⟨nr_k z18 nE, nr_c.2 ⟨n1, n2⟩⟩⟩
    obtain ⟨c, hh⟩ := oif_s hh
    have v18 := nr_v h0 h1 hw c
    generalize vIt T n p = z at hh v18
    cases hh
    refine ⟨fun q => ?_, nr_c.2 ⟨n1, n2⟩⟩
    rcases List.mem_cons.1 q with ee | ee
    · exact v18 ee.symm
    · cases ee
theorem nr_g {p : Int} {l : List Fr} {y : List Int × Option ((List Fr × Int) × Int)} (hl : nrO l) (hh : sGon T n l p = some y) : ¬ (10018 : Int) ∈ y.1 ∧ ∀ x, y.2 = some x → nrO x.1.1 := by
  cases l with
  | nil => cases hh
  | cons f r =>
    obtain ⟨n1, n2⟩ := nr_c.1 hl
    unfold sGon at hh
    rcases pif_s hh with ⟨c, hh⟩ | ⟨-, hh⟩
    · cases hh
    rcases pif_s hh with ⟨c, hh⟩ | ⟨-, hh⟩
    · have hv : ¬ (tkf T n p).1.2.1 = 18 ∧ 1 ≤ rkC (tkf T n p).1.2.1 := by
        rcases c.2 with (d | d) | d | d | d
        all_goals
          rw [d.2]
          decide
      generalize (tkf T n p).1.2.1 = z at hh hv
      cases hh
      exact ⟨nr_E hv.2 _, fun x hx => by cases hx; exact nr_c.2 ⟨nr_k hv.1 (nr_R _ n1), n2⟩⟩
    rcases pif_s hh with ⟨c, hh⟩ | ⟨-, hh⟩
    · have hv : ¬ (tkf T n p).1.2.1 = 18 := by
        rcases c.2 with d | d | d
        all_goals
          rw [d.2]
          decide
      generalize (tkf T n p).1.2.1 = z at hh hv
      cases hh
      exact ⟨nr_E (by decide) _, fun x hx => by cases hx; exact nr_c.2 ⟨nr_k hv (nr_R _ n1), n2⟩⟩
    rcases pif_s hh with ⟨c, hh⟩ | ⟨-, hh⟩
    · obtain ⟨-, hh⟩ := oif_s hh
      have hv : ¬ wIx T n p = 18 ∧ 1 ≤ rkC (wIx T n p) := by
        rcases c.2 with d | d
        · rw [wIx_O (by decide) (by decide) d]
          decide
        · rw [wIx_O (by decide) (by decide) d]
          decide
      generalize wIx T n p = z at hh hv
      cases hh
      exact ⟨nr_E hv.2 _, fun x hx => by cases hx; exact nr_c.2 ⟨nr_k hv.1 (nr_R _ n1), n2⟩⟩
    rcases pif_s hh with ⟨c, hh⟩ | ⟨-, hh⟩
    · cases hh
    rcases pif_s hh with ⟨c, hh⟩ | ⟨-, hh⟩
    · cases hh
      exact ⟨nr_E (by decide) _, fun x hx => by cases hx⟩
    rcases pif_s hh with ⟨c, hh⟩ | ⟨-, hh⟩
    · obtain ⟨-, hh⟩ := oif_s hh
      cases hh
      exact ⟨nr_E (by decide) _, fun x hx => by cases hx; exact nr_c.2 ⟨nr_R _ n1, n2⟩⟩
    rcases pif_s hh with ⟨c, hh⟩ | ⟨-, hh⟩
    · obtain ⟨-, hh⟩ := oif_s hh
      cases hh
      refine ⟨nr_E (by decide) _, fun x hx => ?_⟩
      cases hx
      cases r with
      | nil => exact n2
      | cons g r =>
        obtain ⟨m1, m2⟩ := nr_c.1 n2
        exact nr_c.2 ⟨m1, m2⟩
    obtain ⟨-, hh⟩ := oif_s hh
    cases hh
    refine ⟨fun z => ?_, fun x hx => by cases hx; exact n2⟩
    rcases List.mem_append.1 z with z | z
    · exact nr_E (by decide) _ z
    · exact nr_P (nr_R _ n1) z
theorem mrn_nr : ∀ (f : Nat) (w : List Int) (l : List Fr) (h p q : Int) (c : List Int), 0 ≤ p → p ≤ n → (¬ wh = 1 → nrO l ∧ ¬ (10018 : Int) ∈ w) → mrn T n wh f w l h p = some (q, c) → (¬ wh = 1 → ¬ (10018 : Int) ∈ c) ∧ p ≤ q ∧ q ≤ n
  | 0, _, _, _, _, _, _, _, _, _, ee => by cases ee
  | f + 1, w, l, h, p, q, c, h0, h1, hi, ee => by
    have e1 : pif (h = 0) ((sOpd T n wh l p).bind fun x => mrn T n wh f (w ++ x.1) x.2.1.1 x.2.1.2 x.2.2) ((sGon T n l p).bind fun y => match y.2 with
      | none => some (p, w ++ y.1)
      | some x => mrn T n wh f (w ++ y.1) x.1.1 x.1.2 x.2) = some (q, c) := ee
    rcases pif_s e1 with ⟨v, e2⟩ | ⟨v, e2⟩
    · obtain ⟨x, hx, e3⟩ := ob_s e2
      have k := (sOpd_pos h0 h1 hx).1
      have r := mrn_nr f _ _ _ _ _ _ (by omega) k.2 (fun hw => by
        obtain ⟨i1, i2⟩ := hi hw
        have g := nr_o h0 h1 hw i1 hx
        exact ⟨g.2, fun z => by
          rcases List.mem_append.1 z with z | z
          · exact i2 z
          · exact g.1 z⟩) e3
      exact ⟨r.1, by omega, r.2.2⟩
    · obtain ⟨y, hy, e3⟩ := ob_s e2
      obtain ⟨cc, y⟩ := y
      cases y with
      | none =>
        have e4 : some (p, w ++ cc) = some (q, c) := e3
        cases e4
        refine ⟨fun hw z => ?_, Int.le_refl _, h1⟩
        obtain ⟨i1, i2⟩ := hi hw
        have g := nr_g i1 hy
        rcases List.mem_append.1 z with z | z
        · exact i2 z
        · exact g.1 z
      | some x =>
        have k := (sGon_pos h0 h1 hy).1
        have r := mrn_nr f _ _ _ _ _ _ (by omega) k.2 (fun hw => by
          obtain ⟨i1, i2⟩ := hi hw
          have g := nr_g i1 hy
          exact ⟨g.2 x rfl, fun z => by
            rcases List.mem_append.1 z with z | z
            · exact i2 z
            · exact g.1 z⟩) e3
        exact ⟨r.1, by omega, r.2.2⟩
theorem Mch_nr {K p q : Int} {c : List Int} (h0 : 0 ≤ p) (h1 : p ≤ n) (ee : Mch T n wh [] [(K, 0, 1, [])] 0 p = some (q, c)) : (¬ wh = 1 → ¬ (10018 : Int) ∈ c) ∧ p ≤ q ∧ q ≤ n :=
  mrn_nr _ _ _ _ _ _ _ h0 h1 (fun _ => ⟨nr_c.2 ⟨(fun z => by cases z), fun f hf => by cases hf⟩, nr_n⟩) ee
end NRA
section WQA
variable {T : List Int32} {n : Int} {Q : Qd}
/-- a place on the quay -/
def inG (Q : Qd) (c : Int) : Prop := 0 ≤ c ∧ c % 8 < Qc Q ∧ c / 8 < Qr Q
/-- a free one -/
def frP (Q : Qd) (c : Int) : Prop := inG Q c ∧ ¬ c ∈ Qw Q
def rlO (K : List (Int × List Int)) : Prop := ∀ w c, K.lookup w = some c → (0 ≤ w ∧ w < 3) ∧ tyS c [] = some [decide (¬ w = 0)] ∧ (¬ w = 1 → ¬ (10018 : Int) ∈ c)
/-- well told -/
def WQ (Q : Qd) : Prop := ((0 ≤ Qc Q ∧ Qc Q ≤ 7) ∧ 0 ≤ Qr Q ∧ Qr Q ≤ 7) ∧ ((Qt Q).length ≤ 9 ∧ (Qf Q).length ≤ 6 ∧ (Qg Q).length = (Qt Q).length) ∧ ((∀ x ∈ Qt Q, frP Q x.2) ∧ (∀ x ∈ Qf Q, frP Q x.2.1 ∧ frP Q x.2.2) ∧ ∀ x ∈ Qg Q, (1 ≤ x.1 ∧ x.1 ≤ 9) ∧ 0 ≤ x.2 ∧ x.2 ≤ 9) ∧ ((0 ≤ Qp Q ∧ Qp Q ≤ 9) ∧ 0 ≤ Qa Q ∧ Qa Q ≤ 100) ∧ rlO (Qk Q) ∧ ∀ w, w ∈ Qu Q ↔ ((Qk Q).lookup w).isSome = true
theorem pos_t {p : Int} (h0 : 0 ≤ p) (h1 : p ≤ n) : p ≤ (tkf T n p).2 ∧ (tkf T n p).2 ≤ n := by
  have k := tk_ok (T := T) h0 h1
  exact ⟨k.2.1, k.2.2.1⟩
theorem pos_O {w p q : Int} (h0 : 0 ≤ p) (h1 : p ≤ n) (hh : sOwn T n w p = some q) : p ≤ q ∧ q ≤ n := by
  obtain ⟨-, ee⟩ := oif_s hh
  cases ee
  exact pos_t h0 h1
theorem pos_N {lo hi p : Int} {x : Int × Int} (h0 : 0 ≤ p) (h1 : p ≤ n) (hh : sNum T n lo hi p = some x) : (lo ≤ x.1 ∧ x.1 ≤ hi) ∧ p ≤ x.2 ∧ x.2 ≤ n := by
  obtain ⟨c, ee⟩ := oif_s hh
  cases ee
  exact ⟨c.2, pos_t h0 h1⟩
theorem pos_M {p : Int} {x : List Int × Int} (h0 : 0 ≤ p) (h1 : p ≤ n) (hh : sNam T n p = some x) : p ≤ x.2 ∧ x.2 ≤ n := by
  obtain ⟨-, ee⟩ := oif_s hh
  cases ee
  exact pos_t h0 h1
theorem pos_F {p : Int} {x : List Int × Int} (h0 : 0 ≤ p) (h1 : p ≤ n) (hh : sFre T n Q p = some x) : p ≤ x.2 ∧ x.2 ≤ n := by
  obtain ⟨a, ha, hh⟩ := ob_s hh
  obtain ⟨-, ee⟩ := oif_s hh
  cases ee
  exact pos_M h0 h1 ha
theorem sCel_W {wl : Prop} {p : Int} {x : Int × Int} (h0 : 0 ≤ p) (h1 : p ≤ n) (hQ : WQ Q) (hh : sCel T n wl Q p = some x) : frP Q x.1 ∧ (wl → ¬ inw Q x.1) ∧ p ≤ x.2 ∧ x.2 ≤ n := by
  obtain ⟨a, ha, hh⟩ := ob_s hh
  obtain ⟨b, hb, hh⟩ := ob_s hh
  obtain ⟨c, ee⟩ := oif_s hh
  cases ee
  have k1 := pos_N h0 h1 ha
  have k2 := pos_N (by omega) k1.2.2 hb
  have q := hQ.1
  refine ⟨⟨?_, c.1⟩, c.2, by omega, k2.2.2⟩
  show 0 ≤ 8 * b.1 + a.1 ∧ (8 * b.1 + a.1) % 8 < Qc Q ∧ (8 * b.1 + a.1) / 8 < Qr Q
  omega
theorem lk_c {K : List (Int × List Int)} {u w : Int} {c : List Int} : ((u, c) :: K).lookup w = if w = u then some c else K.lookup w := by
  show (match (w == u) with | true => some c | false => K.lookup w) = _
  by_cases v : w = u
  · rw [if_pos v, beq_iff_eq.2 v]
  · rw [if_neg v, beq_false_of_ne v]
theorem sTel_W {k lo hi p : Int} {x : Qd × Int} (h0 : 0 ≤ p) (h1 : p ≤ n) (hk : (k = 2 ∧ lo = 1 ∧ hi = 9) ∨ (¬ k = 2 ∧ lo = 0 ∧ hi = 100)) (hQ : WQ Q) (hh : sTel T n k lo hi Q p = some x) : WQ x.1 ∧ p ≤ x.2 ∧ x.2 ≤ n := by
  obtain ⟨a, ha, ee⟩ := om_s hh
  cases ee
  have j := pos_N h0 h1 ha
  refine ⟨⟨hQ.1, hQ.2.1, hQ.2.2.1, ?_, hQ.2.2.2.2⟩, j.2⟩
  have q := hQ.2.2.2.1
  show (0 ≤ (if k = 2 then a.1 else Qp Q) ∧ (if k = 2 then a.1 else Qp Q) ≤ 9) ∧ 0 ≤ (if k = 2 then Qa Q else a.1) ∧ (if k = 2 then Qa Q else a.1) ≤ 100
  rcases hk with ⟨e0, e1, e2⟩ | ⟨e0, e1, e2⟩
  · rw [if_pos e0, if_pos e0]
    exact ⟨⟨by omega, by omega⟩, q.2⟩
  · rw [if_neg e0, if_neg e0]
    exact ⟨q.1, by omega, by omega⟩
theorem sWal_W {p : Int} {x : Qd × Int} (h0 : 0 ≤ p) (h1 : p ≤ n) (hQ : WQ Q) (hh : sWal T n Q p = some x) : WQ x.1 ∧ p ≤ x.2 ∧ x.2 ≤ n := by
  obtain ⟨a, ha, ee⟩ := om_s hh
  cases ee
  obtain ⟨k1, k2, k3⟩ := sCel_W h0 h1 hQ ha
  have k2 := k2 trivial
  obtain ⟨q1, q2, q3⟩ := hQ.2.2.1
  refine ⟨⟨hQ.1, hQ.2.1, ⟨fun y hy => ⟨(q1 y hy).1, fun z => ?_⟩, fun y hy => ⟨⟨(q2 y hy).1.1, fun z => ?_⟩, (q2 y hy).2.1, fun z => ?_⟩, q3⟩, hQ.2.2.2⟩, k3⟩
  · rcases List.mem_cons.1 z with z | z
    · exact k2 (Or.inl ⟨y, hy, z⟩)
    · exact (q1 y hy).2 z
  · rcases List.mem_cons.1 z with z | z
    · exact k2 (Or.inr ⟨y, hy, Or.inl z⟩)
    · exact (q2 y hy).1.2 z
  · rcases List.mem_cons.1 z with z | z
    · exact k2 (Or.inr ⟨y, hy, Or.inr z⟩)
    · exact (q2 y hy).2.2 z
theorem mem_1 {α : Type} {l : List α} {a b : α} (hh : a ∈ l ++ [b]) : a ∈ l ∨ a = b := by
  rcases List.mem_append.1 hh with z | z
  · exact Or.inl z
  · exact Or.inr (List.mem_singleton.1 z)
theorem sLac_W {p : Int} {x : Qd × Int} (h0 : 0 ≤ p) (h1 : p ≤ n) (h9 : (Qt Q).length < 9) (hQ : WQ Q) (hh : sLac T n Q p = some x) : WQ x.1 ∧ p ≤ x.2 ∧ x.2 ≤ n := by
  obtain ⟨a, ha, hh⟩ := ob_s hh
  obtain ⟨b, hb, hh⟩ := ob_s hh
  obtain ⟨c, hc, hh⟩ := ob_s hh
  obtain ⟨dd, hd, hh⟩ := ob_s hh
  obtain ⟨u, hu, hh⟩ := ob_s hh
  obtain ⟨v, hv, hh⟩ := ob_s hh
  obtain ⟨g, hg, ee⟩ := om_s hh
  cases ee
  have j1 := pos_F h0 h1 ha
  have j2 := pos_O (by omega) j1.2 hb
  obtain ⟨k1, -, j3⟩ := sCel_W (by omega) j2.2 hQ hc
  have j4 := pos_O (by omega) j3.2 hd
  have j5 := pos_N (by omega) j4.2 hu
  have j6 := pos_O (by omega) j5.2.2 hv
  have j7 := pos_N (by omega) j6.2 hg
  obtain ⟨q1, q2, q3⟩ := hQ.2.2.1
  obtain ⟨l1, l2, l3⟩ := hQ.2.1
  refine ⟨⟨hQ.1, ⟨?_, l2, ?_⟩, ⟨fun y hy => ?_, q2, fun y hy => ?_⟩, hQ.2.2.2⟩, by omega, j7.2.2⟩
  · show (Qt Q ++ [(a.1, c.1)]).length ≤ 9
    rw [List.length_append]
    show (Qt Q).length + 1 ≤ 9
    omega
  · show (Qg Q ++ [(u.1, g.1)]).length = (Qt Q ++ [(a.1, c.1)]).length
    rw [List.length_append, List.length_append, l3]
    rfl
  · rcases mem_1 hy with z | z
    · exact q1 y z
    · rw [z]
      exact k1
  · rcases mem_1 hy with z | z
    · exact q3 y z
    · rw [z]
      exact ⟨j5.1, j7.1⟩
theorem sFol_W {p : Int} {x : Qd × Int} (h0 : 0 ≤ p) (h1 : p ≤ n) (h6 : (Qf Q).length < 6) (hQ : WQ Q) (hh : sFol T n Q p = some x) : WQ x.1 ∧ p ≤ x.2 ∧ x.2 ≤ n := by
  obtain ⟨a, ha, hh⟩ := ob_s hh
  obtain ⟨b, hb, hh⟩ := ob_s hh
  obtain ⟨c, hc, hh⟩ := ob_s hh
  obtain ⟨dd, hd, hh⟩ := ob_s hh
  obtain ⟨g, hg, ee⟩ := om_s hh
  cases ee
  have j1 := pos_F h0 h1 ha
  have j2 := pos_O (by omega) j1.2 hb
  obtain ⟨k1, -, j3⟩ := sCel_W (by omega) j2.2 hQ hc
  have j4 := pos_O (by omega) j3.2 hd
  obtain ⟨k2, -, j5⟩ := sCel_W (by omega) j4.2 hQ hg
  obtain ⟨q1, q2, q3⟩ := hQ.2.2.1
  obtain ⟨l1, l2, l3⟩ := hQ.2.1
  refine ⟨⟨hQ.1, ⟨l1, ?_, l3⟩, ⟨q1, fun y hy => ?_, q3⟩, hQ.2.2.2⟩, by omega, j5.2⟩
  · show (Qf Q ++ [(a.1, c.1, g.1)]).length ≤ 6
    rw [List.length_append]
    show (Qf Q).length + 1 ≤ 6
    omega
  · rcases mem_1 hy with z | z
    · exact q2 y z
    · rw [z]
      exact ⟨k1, k2⟩
theorem sHav_W {p : Int} {x : Qd × Int} (h0 : 0 ≤ p) (h1 : p ≤ n) (hQ : WQ Q) (hh : sHav T n Q p = some x) : WQ x.1 ∧ p ≤ x.2 ∧ x.2 ≤ n := by
  obtain ⟨a, ha, hh⟩ := ob_s hh
  obtain ⟨b, -, hh⟩ := ob_s hh
  obtain ⟨-, ee⟩ := oif_s hh
  cases ee
  exact ⟨hQ, pos_M h0 h1 ha⟩
theorem sRea_W {w p : Int} {x : Qd × Int} (h0 : 0 ≤ p) (h1 : p ≤ n) (w0 : 0 ≤ w) (w3 : w < 3) (hQ : WQ Q) (hh : sRea T n w Q p = some x) : WQ x.1 ∧ p ≤ x.2 ∧ x.2 ≤ n := by
  obtain ⟨-, hh⟩ := oif_s hh
  obtain ⟨q, hq, ee⟩ := om_s hh
  cases ee
  have hq : Mch T n w [] [(kS w, 0, 1, [])] 0 p = some (q.1, q.2) := hq
  have kk : kS w = 0 ∨ kS w = 1 := by
    unfold kS
    split <;> omega
  have t1 := Mch_ty kk h0 h1 hq
  have t2 := Mch_nr h0 h1 hq
  have kd : decide (kS w = 1) = decide (¬ w = 0) := by
    unfold kS
    by_cases v : w = 0
    · rw [if_pos v, decide_eq_false (by omega), decide_eq_false (by omega)]
    · rw [if_neg v, decide_eq_true rfl, decide_eq_true v]
  rw [kd] at t1
  obtain ⟨r1, r2⟩ := hQ.2.2.2.2
  refine ⟨⟨hQ.1, hQ.2.1, hQ.2.2.1, hQ.2.2.2.1, fun u c hu => ?_, fun u => ?_⟩, t2.2⟩
  · have hu : ((w, q.2) :: Qk Q).lookup u = some c := hu
    rw [lk_c] at hu
    by_cases v : u = w
    · rw [if_pos v] at hu
      cases hu
      rw [v]
      exact ⟨⟨w0, w3⟩, t1, t2.1⟩
    · rw [if_neg v] at hu
      exact r1 u c hu
  · show u ∈ w :: Qu Q ↔ (((w, q.2) :: Qk Q).lookup u).isSome = true
    rw [lk_c, List.mem_cons, r2 u]
    by_cases v : u = w
    · rw [if_pos v]
      exact ⟨fun _ => rfl, fun _ => Or.inl v⟩
    · rw [if_neg v]
      exact ⟨fun z => z.resolve_left v, Or.inr⟩
theorem sSta_W {p : Int} {x : Qd × Int} (h0 : 0 ≤ p) (h1 : p ≤ n) (hQ : WQ Q) (hh : sSta T n Q p = some x) : WQ x.1 ∧ p ≤ x.2 ∧ x.2 ≤ n := by
  have t := pos_t (T := T) h0 h1
  have L : ∀ {y : Qd × Int}, (WQ y.1 ∧ (tkf T n p).2 ≤ y.2 ∧ y.2 ≤ n) → WQ y.1 ∧ p ≤ y.2 ∧ y.2 ≤ n := fun k => ⟨k.1, by omega, k.2.2⟩
  rcases pif_s hh with ⟨c, hh⟩ | ⟨-, hh⟩
  · exact L (sTel_W (by omega) t.2 (Or.inl ⟨rfl, rfl, rfl⟩) hQ hh)
  rcases pif_s hh with ⟨c, hh⟩ | ⟨-, hh⟩
  · exact L (sTel_W (by omega) t.2 (Or.inr ⟨by decide, rfl, rfl⟩) hQ hh)
  rcases pif_s hh with ⟨c, hh⟩ | ⟨-, hh⟩
  · exact L (sWal_W (by omega) t.2 hQ hh)
  rcases pif_s hh with ⟨c, hh⟩ | ⟨-, hh⟩
  · obtain ⟨z, hh⟩ := oif_s hh
    exact L (sLac_W (by omega) t.2 z hQ hh)
  rcases pif_s hh with ⟨c, hh⟩ | ⟨-, hh⟩
  · exact L (sHav_W (by omega) t.2 hQ hh)
  rcases pif_s hh with ⟨c, hh⟩ | ⟨-, hh⟩
  · obtain ⟨z, hh⟩ := oif_s hh
    exact L (sFol_W (by omega) t.2 z hQ hh)
  rcases pif_s hh with ⟨c, hh⟩ | ⟨-, hh⟩
  · exact L (sRea_W (by omega) t.2 (by decide) (by decide) hQ hh)
  rcases pif_s hh with ⟨c, hh⟩ | ⟨-, hh⟩
  · exact L (sRea_W (by omega) t.2 (by decide) (by decide) hQ hh)
  rcases pif_s hh with ⟨c, hh⟩ | ⟨-, hh⟩
  · exact L (sRea_W (by omega) t.2 (by decide) (by decide) hQ hh)
  cases hh
theorem sFin_p {k p q : Int} (h0 : 0 ≤ p) (h1 : p ≤ n) (hh : sFin T n k p = some q) : p ≤ q ∧ q ≤ n := by
  obtain ⟨a, ha, hh⟩ := ob_s hh
  obtain ⟨-, ee⟩ := oif_s hh
  cases ee
  have k := pos_S h0 h1 ha
  exact ⟨by omega, k.2⟩
theorem sQL_W : ∀ (f : Nat) (k : Int) (Q : Qd) (p : Int) (y : Int × Qd), 0 ≤ p → p ≤ n → WQ Q → sQL T n f k Q p = some y → WQ y.2
  | 0, _, _, _, _, _, _, _, ee => by cases ee
  | f + 1, k, Q, p, y, h0, h1, hQ, ee => by
    rcases pif_s (show pif ((tkf T n p).1.1 = 0) (some (k, Q)) ((sSta T n Q p).bind fun x => (sFin T n (k + 1) x.2).bind fun e => sQL T n f (k + 1) x.1 e) = some y from ee) with ⟨-, e2⟩ | ⟨-, e2⟩
    · cases e2
      exact hQ
    · obtain ⟨x, hx, e3⟩ := ob_s e2
      obtain ⟨q, hq, e4⟩ := ob_s e3
      have k1 := sSta_W h0 h1 hQ hx
      have k2 := sFin_p (by omega) k1.2.2 hq
      exact sQL_W f (k + 1) x.1 q y (by omega) k2.2 k1.1 e4
/-- a quay that was read is well told -/
theorem sQua_W {c : Int} (hn : 0 ≤ n) (hh : sQua T n = some (c, Q)) : WQ Q := by
  obtain ⟨x, hx, hh⟩ := ob_s hh
  obtain ⟨q, hq, hh⟩ := ob_s hh
  obtain ⟨a, ha, hx⟩ := ob_s hx
  obtain ⟨b, hb, hx⟩ := ob_s hx
  obtain ⟨u, hu, hx⟩ := ob_s hx
  obtain ⟨v, hv, hx⟩ := om_s hx
  have j1 := pos_O (by decide) hn ha
  have j2 := pos_N j1.1 j1.2 hb
  have j3 := pos_O (by omega) j2.2.2 hu
  have j4 := pos_N (by omega) j3.2 hv
  cases hx
  have j5 := sFin_p (by show 0 ≤ v.2; omega) j4.2.2 hq
  refine sQL_W 1601 1 _ q (c, Q) (by have : v.2 ≤ q := j5.1; omega) j5.2 ?_ hh
  refine ⟨⟨⟨by show 0 ≤ b.1; omega, by show b.1 ≤ 7; omega⟩, by show 0 ≤ v.1; omega, by show v.1 ≤ 7; omega⟩, ⟨by show 0 ≤ 9; decide, by show 0 ≤ 6; decide, rfl⟩, ⟨fun y hy => (by cases hy), fun y hy => (by cases hy), fun y hy => (by cases hy)⟩, ⟨⟨by show (0 : Int) ≤ 3; decide, by show (3 : Int) ≤ 9; decide⟩, by show (0 : Int) ≤ 0; decide, by show (0 : Int) ≤ 100; decide⟩, fun w c hc => (by cases hc), fun w => ⟨fun z => (by cases z), fun z => (by cases z)⟩⟩
end WQA
