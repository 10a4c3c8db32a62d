/-! THE NIGHTS (pure): roads and steps -/
section RDA
/-- the place next to c by a way -/
def nbr (c w : Int) : Int := if w = 0 then c - 8 else if w = 1 then c + 1 else if w = 2 then c + 8 else c - 1
/-- from c to e by at most so many steps, each into a place of L -/
def rch (L : Int → Prop) (e : Int) : Nat → Int → Prop
  | 0, c => c = e
  | n + 1, c => rch L e n c ∨ ∃ w, (0 ≤ w ∧ w < 4) ∧ L (nbr c w) ∧ rch L e n (nbr c w)
/-- by so many, and no fewer -/
def dsP (L : Int → Prop) (e : Int) (n : Nat) (c : Int) : Prop := rch L e n c ∧ ∀ k, k < n → ¬ rch L e k c
variable {L : Int → Prop} {e : Int}
theorem rch_up {c : Int} {n : Nat} : ∀ (k : Nat), rch L e n c → rch L e (n + k) c
  | 0, hh => hh
  | k + 1, hh => Or.inl (rch_up k hh)
theorem rch_le {c : Int} {n k : Nat} (hk : n ≤ k) (hh : rch L e n c) : rch L e k c := by
  have z := rch_up (k - n) hh
  rw [show n + (k - n) = k by omega] at z
  exact z
theorem rch_nb {c w : Int} {n : Nat} (w0 : 0 ≤ w) (w4 : w < 4) (hL : L (nbr c w)) (hh : rch L e n (nbr c w)) : rch L e (n + 1) c := Or.inr ⟨w, ⟨w0, w4⟩, hL, hh⟩
theorem ds_u {c : Int} {n k : Nat} (a : dsP L e n c) (b : dsP L e k c) : n = k := by
  rcases Nat.lt_trichotomy n k with z | z | z
  · exact absurd a.1 (b.2 n z)
  · exact z
  · exact absurd b.1 (a.2 k z)
theorem ds_ex {c : Int} : ∀ (n : Nat), rch L e n c → ∃ k, k ≤ n ∧ dsP L e k c
  | 0, hh => ⟨0, Nat.le_refl 0, hh, fun k hk => absurd hk (Nat.not_lt_zero k)⟩
  | n + 1, hh => by
    by_cases z : rch L e n c
    · obtain ⟨k, k1, k2⟩ := ds_ex n z
      exact ⟨k, by omega, k2⟩
    · exact ⟨n + 1, Nat.le_refl _, hh, fun k hk q => z (rch_le (by omega) q)⟩
theorem ds_0 : dsP L e 0 e := ⟨rfl, fun k hk => absurd hk (Nat.not_lt_zero k)⟩
theorem ds_00 {c : Int} (hh : dsP L e 0 c) : c = e := hh.1
/-- the first step of a road -/
theorem ds_st {c : Int} {n : Nat} (hh : dsP L e (n + 1) c) : ∃ w, (0 ≤ w ∧ w < 4) ∧ L (nbr c w) ∧ dsP L e n (nbr c w) := by
  rcases hh.1 with z | ⟨w, hw, hL, z⟩
  · exact absurd z (hh.2 n (Nat.lt_succ_self n))
  · exact ⟨w, hw, hL, z, fun k hk q => hh.2 (k + 1) (by omega) (rch_nb hw.1 hw.2 hL q)⟩
/-- one that is next to a place n steps away is n + 1 away at the most -/
theorem ds_le {c w : Int} {n : Nat} (hw : 0 ≤ w ∧ w < 4) (hL : L (nbr c w)) (hh : dsP L e n (nbr c w)) : ∃ k, k ≤ n + 1 ∧ dsP L e k c := ds_ex (n + 1) (rch_nb hw.1 hw.2 hL hh.1)
/-- on by the first way by which the road is one step less -/
def nxP (L : Int → Prop) (e c x : Int) : Prop := ∃ (w : Int) (n : Nat), (0 ≤ w ∧ w < 4) ∧ x = nbr c w ∧ dsP L e (n + 1) c ∧ (L x ∧ dsP L e n x) ∧ ∀ u, 0 ≤ u → u < w → ¬ (L (nbr c u) ∧ dsP L e n (nbr c u))
theorem nx_u {c x y : Int} (a : nxP L e c x) (b : nxP L e c y) : x = y := by
  obtain ⟨w, n, hw, rfl, a1, a2, a3⟩ := a
  obtain ⟨u, m, hu, rfl, b1, b2, b3⟩ := b
  have z := ds_u a1 b1
  have z : m = n := by omega
  subst z
  rcases Int.lt_trichotomy u w with q | q | q
  · exact absurd b2 (a3 u hu.1 q)
  · rw [q]
  · exact absurd a2 (b3 w hw.1 q)
noncomputable def nxF (L : Int → Prop) (e c : Int) : Int := @dite _ (∃ x, nxP L e c x) (Classical.propDecidable _) (fun hh => hh.choose) (fun _ => c)
theorem nxF_e {c x : Int} (hh : nxP L e c x) : nxF L e c = x := by
  unfold nxF
  have hx : ∃ x, nxP L e c x := ⟨x, hh⟩
  rw [dif_pos hx]
  exact nx_u hx.choose_spec hh
theorem nxF_0 {c : Int} (hh : ∀ n, ¬ dsP L e (n + 1) c) : nxF L e c = c := by
  unfold nxF
  rw [dif_neg]
  rintro ⟨x, w, n, -, -, a, -⟩
  exact hh n a
theorem nx_ex {c : Int} {n : Nat} (hh : dsP L e (n + 1) c) : ∃ x, nxP L e c x := by
  have far : ∀ (k : Nat), k ≤ 4 → (∀ u : Int, 0 ≤ u → u < ((4 - k : Nat) : Int) → ¬ (L (nbr c u) ∧ dsP L e n (nbr c u))) → ∃ x, nxP L e c x := by
    intro k
    induction k with
    | zero =>
      intro _ hn
      obtain ⟨w, hw, hL, hd⟩ := ds_st hh
      exact absurd ⟨hL, hd⟩ (hn w hw.1 (by omega))
    | succ k ih =>
      intro hk hn
      by_cases z : L (nbr c ((4 - (k + 1) : Nat) : Int)) ∧ dsP L e n (nbr c ((4 - (k + 1) : Nat) : Int))
      · exact ⟨_, _, n, ⟨by omega, by omega⟩, rfl, hh, z, hn⟩
      · refine ih (by omega) (fun u u0 u1 => ?_)
        by_cases v : u = ((4 - (k + 1) : Nat) : Int)
        · rw [v]
          exact z
        · exact hn u u0 (by omega)
  exact far 4 (by decide) (fun u u0 u1 => by exfalso; omega)
/-- so many steps, or till at home -/
noncomputable def wkF (L : Int → Prop) (e : Int) : Nat → Int → Int
  | 0, c => c
  | k + 1, c => wkF L e k (nxF L e c)
theorem wkF_0 {c : Int} (hh : nxF L e c = c) : ∀ k, wkF L e k c = c
  | 0 => rfl
  | k + 1 => by
    show wkF L e k (nxF L e c) = c
    rw [hh]
    exact wkF_0 hh k
theorem wkF_s {c : Int} {k : Nat} : wkF L e (k + 1) c = wkF L e k (nxF L e c) := rfl
/-- where he stands then: where he was, or in a place of L -/
theorem nxF_L (c : Int) : nxF L e c = c ∨ L (nxF L e c) := by
  by_cases z : ∃ x, nxP L e c x
  · obtain ⟨x, hx⟩ := z
    rw [nxF_e hx]
    obtain ⟨w, n, -, -, -, a, -⟩ := hx
    exact Or.inr a.1
  · left
    exact nxF_0 (fun n hn => z (nx_ex hn))
theorem wkF_L : ∀ (k : Nat) (c : Int), wkF L e k c = c ∨ L (wkF L e k c)
  | 0, c => Or.inl rfl
  | k + 1, c => by
    rw [wkF_s]
    rcases wkF_L k (nxF L e c) with z | z
    · rw [z]
      exact nxF_L c
    · exact Or.inr z
/-- how many steps the road has: -1 without one -/
def rdV (L : Int → Prop) (e c v : Int) : Prop := (v = -1 ∧ ∀ n, ¬ rch L e n c) ∨ ∃ n : Nat, v = (n : Int) ∧ dsP L e n c
theorem rdV_u {c v u : Int} (a : rdV L e c v) (b : rdV L e c u) : v = u := by
  rcases a with ⟨rfl, a⟩ | ⟨n, rfl, a⟩
  · rcases b with ⟨rfl, -⟩ | ⟨m, -, b⟩
    · rfl
    · exact absurd b.1 (a m)
  · rcases b with ⟨-, b⟩ | ⟨m, rfl, b⟩
    · exact absurd a.1 (b n)
    · rw [ds_u a b]
/-! no road has more than 48 steps -/
noncomputable def cdB (P : Prop) : Bool := @decide P (Classical.propDecidable P)
theorem cdB_t {P : Prop} (hh : P) : cdB P = true := @decide_eq_true P (Classical.propDecidable P) hh
theorem cdB_f {P : Prop} (hh : ¬ P) : cdB P = false := @decide_eq_false P (Classical.propDecidable P) hh
theorem cdB_o {P : Prop} (hh : cdB P = true) : P := @of_decide_eq_true P (Classical.propDecidable P) hh
theorem cp_le {p q : Nat → Bool} : ∀ (l : List Nat), (∀ t ∈ l, q t = true → p t = true) → l.countP q ≤ l.countP p
  | [], _ => Nat.le_refl _
  | a :: l, hh => by
    have k := cp_le l (fun t ht => hh t (List.mem_cons_of_mem _ ht))
    rw [List.countP_cons, List.countP_cons]
    by_cases z : q a = true
    · rw [if_pos z, if_pos (hh a List.mem_cons_self z)]
      omega
    · rw [if_neg z]
      split <;> omega
theorem cp_lt {p q : Nat → Bool} {s : Nat} (hp : p s = true) (hq : ¬ q s = true) : ∀ (l : List Nat), s ∈ l → (∀ t ∈ l, q t = true → p t = true) → l.countP q < l.countP p
  | [], hs, _ => by cases hs
  | a :: l, hs, hh => by
    rw [List.countP_cons, List.countP_cons]
    rcases List.mem_cons.1 hs with z | z
    · have k := cp_le l (fun t ht => hh t (List.mem_cons_of_mem _ ht))
      rw [← z, if_neg hq, if_pos hp]
      omega
    · have k := cp_lt hp hq l z (fun t ht => hh t (List.mem_cons_of_mem _ ht))
      by_cases y : q a = true
      · rw [if_pos y, if_pos (hh a List.mem_cons_self y)]
        omega
      · rw [if_neg y]
        split <;> omega
def in7 (t : Nat) : Bool := decide (t % 8 < 7 ∧ t / 8 < 7)
theorem in7_n : (List.range 64).countP in7 = 49 := by decide +kernel
theorem ds_dn {Q : Qd} (hL : ∀ c, L c → inG Q c) : ∀ (n : Nat) (c : Int), inG Q c → dsP L e n c → ∀ k, k ≤ n → ∃ x, inG Q x ∧ dsP L e k x
  | 0, c, hc, hd, k, hk => ⟨c, hc, by rw [show k = 0 by omega]; exact hd⟩
  | n + 1, c, hc, hd, k, hk => by
    by_cases z : k = n + 1
    · exact ⟨c, hc, by rw [z]; exact hd⟩
    · obtain ⟨w, hw, l, d⟩ := ds_st hd
      exact ds_dn hL n (nbr c w) (hL _ l) d k (by omega)
theorem ds_cn {Q : Qd} {c : Int} {n : Nat} (c7 : Qc Q ≤ 7) (r7 : Qr Q ≤ 7) (hL : ∀ c, L c → inG Q c) (hc : inG Q c) (hd : dsP L e n c) : ∀ k, k ≤ n → k + 1 ≤ (List.range 64).countP (fun t => in7 t && cdB (rch L e k (t : Int))) := by
    intro k
    induction k with
    | zero =>
      intro hk
      obtain ⟨x, x1, x2⟩ := ds_dn hL n c hc hd 0 hk
      refine List.countP_pos_iff.2 ⟨x.toNat, List.mem_range.2 ?_, ?_⟩
      · unfold inG at x1
        omega
      · have g : in7 x.toNat = true := decide_eq_true (by unfold inG at x1; omega)
        rw [g, cdB_t (show rch L e 0 ((x.toNat : Nat) : Int) by rw [show ((x.toNat : Nat) : Int) = x by unfold inG at x1; omega]; exact x2.1)]
        rfl
    | succ k ih =>
      intro hk
      have z := ih (by omega)
      obtain ⟨x, x1, x2⟩ := ds_dn hL n c hc hd (k + 1) hk
      have xe : ((x.toNat : Nat) : Int) = x := by
        unfold inG at x1
        omega
      have g : in7 x.toNat = true := decide_eq_true (by unfold inG at x1; omega)
      have lt : (List.range 64).countP (fun t => in7 t && cdB (rch L e k (t : Int))) < (List.range 64).countP (fun t => in7 t && cdB (rch L e (k + 1) (t : Int))) := by
        refine cp_lt (s := x.toNat) ?_ ?_ _ (List.mem_range.2 ?_) (fun t _ ht => ?_)
        · show (in7 x.toNat && cdB (rch L e (k + 1) ((x.toNat : Nat) : Int))) = true
          rw [xe, g, cdB_t x2.1]
          rfl
        · show ¬ (in7 x.toNat && cdB (rch L e k ((x.toNat : Nat) : Int))) = true
          rw [xe, g, cdB_f (x2.2 k (Nat.lt_succ_self k))]
          decide
        · unfold inG at x1
          omega
        · have ht : (in7 t && cdB (rch L e k (t : Int))) = true := ht
          rw [Bool.and_eq_true] at ht
          show (in7 t && cdB (rch L e (k + 1) (t : Int))) = true
          rw [ht.1, cdB_t (show rch L e (k + 1) (t : Int) from Or.inl (cdB_o ht.2))]
          rfl
      omega
theorem ds_48 {Q : Qd} {c : Int} {n : Nat} (c7 : Qc Q ≤ 7) (r7 : Qr Q ≤ 7) (hL : ∀ c, L c → inG Q c) (hc : inG Q c) (hd : dsP L e n c) : n ≤ 48 := by
  have a := ds_cn c7 r7 hL hc hd n (Nat.le_refl n)
  have b := cp_le (p := in7) (q := fun t => in7 t && cdB (rch L e n (t : Int))) (List.range 64) (fun t _ ht => by
    have ht : (in7 t && cdB (rch L e n (t : Int))) = true := ht
    rw [Bool.and_eq_true] at ht
    exact ht.1)
  rw [in7_n] at b
  omega
end RDA
