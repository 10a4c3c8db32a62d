/-! roads as the model finds them (pure): a row of places, each with its steps -/
section BFA
def bfI (L F : Int → Prop) (e : Int) (r u : Int → Int) (n k w : Int) : Prop :=
  (∀ c, 0 ≤ c → c < 64 → r c < 100000000 → ∃ j, (0 ≤ j ∧ j < n) ∧ u j = c) ∧
  (∀ i j, 0 ≤ i → i ≤ j → j < n → r (u i) ≤ r (u j)) ∧
  (k < n → ∀ j, 0 ≤ j → j < n → r (u j) ≤ r (u k) + 1) ∧
  (∀ j, 0 ≤ j → j < n → F (u j) ∧ 0 ≤ r (u j) ∧ r (u j) ≤ 63) ∧
  (∀ j, 0 ≤ j → j < k → L (u j) → ∀ a, 0 ≤ a → a < 4 → F (nbr (u j) a) → r (nbr (u j) a) ≤ r (u j) + 1) ∧
  (k < n → L (u k) → ∀ a, 0 ≤ a → a < w → F (nbr (u k) a) → r (nbr (u k) a) ≤ r (u k) + 1) ∧
  (∀ c, 0 ≤ c → c < 64 → r c < 100000000 → c = e ∨ ∃ q a, L q ∧ (0 ≤ a ∧ a < 4) ∧ nbr q a = c ∧ r q + 1 = r c ∧ 0 ≤ r q) ∧ r e = 0
variable {L F : Int → Prop} {e : Int} {r u r' u' : Int → Int} {n k w : Int}
theorem bf_ext (hF : ∀ c, F c → 0 ≤ c ∧ c < 64) (hL : ∀ c, L c → F c) (e0 : 0 ≤ e) (k0 : 0 ≤ k) (hr : ∀ c, 0 ≤ c → r' c = r c) (hu : ∀ j, 0 ≤ j → u' j = u j) (hh : bfI L F e r u n k w) : bfI L F e r' u' n k w := by
  obtain ⟨h1, h2, h3, h4, h5, h6, h7, h8⟩ := hh
  have ru : ∀ j, 0 ≤ j → j < n → r' (u' j) = r (u j) := fun j j0 j1 => by
    rw [hu j j0, hr _ (hF _ (h4 j j0 j1).1).1]
  refine ⟨fun c c0 c1 hc => ?_, fun i j i0 ij jn => ?_, fun kn j j0 j1 => ?_, fun j j0 j1 => ?_, fun j j0 jk hl a a0 a4 hf => ?_, fun kn hl a a0 aw hf => ?_, fun c c0 c1 hc => ?_, ?_⟩
  · rw [hr c c0] at hc
    obtain ⟨j, hj, q⟩ := h1 c c0 c1 hc
    exact ⟨j, hj, (hu j hj.1).trans q⟩
  · rw [ru i i0 (by omega), ru j (by omega) jn]
    exact h2 i j i0 ij jn
  · rw [ru j j0 j1, ru k k0 kn]
    exact h3 kn j j0 j1
  · rw [ru j j0 j1, hu j j0]
    exact h4 j j0 j1
  · rw [hu j j0] at hl hf ⊢
    rw [hr _ (hF _ hf).1, hr _ (hF _ (hL _ hl)).1]
    exact h5 j j0 jk hl a a0 a4 hf
  · rw [hu k k0] at hl hf ⊢
    rw [hr _ (hF _ hf).1, hr _ (hF _ (hL _ hl)).1]
    exact h6 kn hl a a0 aw hf
  · rw [hr c c0] at hc
    rcases h7 c c0 c1 hc with q | ⟨q, a, q1, q2, q3, q4, q5⟩
    · exact Or.inl q
    · have q6 := (hF q (hL q q1)).1
      exact Or.inr ⟨q, a, q1, q2, q3, by rw [hr q q6, hr c c0]; exact q4, by rw [hr q q6]; exact q5⟩
  · rw [hr e e0]
    exact h8
theorem bf_no (k0 : 0 ≤ k) (hh : bfI L F e r u n k w) (hF : ∀ c, F c → 0 ≤ c ∧ c < 64) (hv : ¬ F (nbr (u k) w) ∨ r (nbr (u k) w) < 100000000) : bfI L F e r u n k (w + 1) := by
  obtain ⟨h1, h2, h3, h4, h5, h6, h7, h8⟩ := hh
  refine ⟨h1, h2, h3, h4, h5, fun kn hl a a0 aw hf => ?_, h7, h8⟩
  by_cases z : a = w
  · rw [z] at hf ⊢
    rcases hv with q | q
    · exact absurd hf q
    · have g := hF _ hf
      obtain ⟨j, hj, jq⟩ := h1 _ g.1 g.2 q
      rw [← jq]
      exact h3 kn j hj.1 hj.2
  · exact h6 kn hl a a0 (by omega) hf
theorem bf_nx (k0 : 0 ≤ k) (kn : k < n) (hh : bfI L F e r u n k 4) : bfI L F e r u n (k + 1) 0 := by
  obtain ⟨h1, h2, h3, h4, h5, h6, h7, h8⟩ := hh
  refine ⟨h1, h2, fun kn' j j0 j1 => ?_, h4, fun j j0 jk hl a a0 a4 hf => ?_, fun _ _ a a0 aw => by omega, h7, h8⟩
  · have q1 := h3 kn j j0 j1
    have q2 := h2 k (k + 1) k0 (by omega) kn'
    omega
  · by_cases z : j = k
    · rw [z] at hl hf ⊢
      exact h6 kn hl a a0 a4 hf
    · exact h5 j j0 (by omega) hl a a0 a4 hf
theorem bf_sk (k0 : 0 ≤ k) (kn : k < n) (hl : ¬ L (u k)) (hh : bfI L F e r u n k w) : bfI L F e r u n (k + 1) 0 := by
  obtain ⟨h1, h2, h3, h4, h5, h6, h7, h8⟩ := hh
  exact bf_nx k0 kn ⟨h1, h2, h3, h4, h5, fun _ z => absurd z hl, h7, h8⟩
theorem bf_st {v x : Int} (k0 : 0 ≤ k) (kn : k < n) (n64 : n < 64) (w0 : 0 ≤ w) (w4 : w < 4) (hF : ∀ c, F c → 0 ≤ c ∧ c < 64) (hl : L (u k)) (ev : v = nbr (u k) w) (fv : F v) (far : 100000000 ≤ r v) (hx : x = r (u k) + 1) (x63 : x ≤ 63) (hr : ∀ c, 0 ≤ c → r' c = if c = v then x else r c) (hu : ∀ j, 0 ≤ j → u' j = if j = n then v else u j) (e0 : 0 ≤ e) (hL : ∀ c, L c → F c) (hh : bfI L F e r u n k w) : bfI L F e r' u' (n + 1) k (w + 1) := by
  obtain ⟨h1, h2, h3, h4, h5, h6, h7, h8⟩ := hh
  have g := hF v fv
  have uo : ∀ j, 0 ≤ j → j < n → u' j = u j := fun j j0 j1 => by rw [hu j j0, if_neg (by omega)]
  have un : u' n = v := by rw [hu n (by omega), if_pos rfl]
  have nv : ∀ j, 0 ≤ j → j < n → ¬ u j = v := fun j j0 j1 q => by
    have := (h4 j j0 j1).2
    rw [q] at this
    omega
  have ro : ∀ j, 0 ≤ j → j < n → r' (u' j) = r (u j) := fun j j0 j1 => by
    rw [uo j j0 j1, hr _ (hF _ (h4 j j0 j1).1).1, if_neg (nv j j0 j1)]
  have rv : r' v = x := by rw [hr v g.1, if_pos rfl]
  have rn : r' (u' n) = x := by rw [un, rv]
  have k4 := h4 k k0 kn
  refine ⟨fun c c0 c1 hc => ?_, fun i j i0 ij jn => ?_, fun _ j j0 j1 => ?_, fun j j0 j1 => ?_, fun j j0 jk hl' a a0 a4 hf => ?_, fun _ hl' a a0 aw hf => ?_, fun c c0 c1 hc => ?_, ?_⟩
  · by_cases z : c = v
    · exact ⟨n, ⟨by omega, by omega⟩, un.trans z.symm⟩
    · rw [hr c c0, if_neg z] at hc
      obtain ⟨j, hj, q⟩ := h1 c c0 c1 hc
      exact ⟨j, ⟨hj.1, by omega⟩, (uo j hj.1 hj.2).trans q⟩
  · by_cases z : j = n
    · rw [z, rn]
      by_cases y : i = n
      · rw [y, rn]
        omega
      · rw [ro i i0 (by omega), hx]
        exact h3 kn i i0 (by omega)
    · rw [ro i i0 (by omega), ro j (by omega) (by omega)]
      exact h2 i j i0 ij (by omega)
  · rw [ro k k0 kn]
    by_cases z : j = n
    · rw [z, rn]
      omega
    · rw [ro j j0 (by omega)]
      exact h3 kn j j0 (by omega)
  · by_cases z : j = n
    · rw [z, rn, un]
      exact ⟨fv, by omega, x63⟩
    · rw [ro j j0 (by omega), uo j j0 (by omega)]
      exact h4 j j0 (by omega)
  · rw [uo j j0 (by omega)] at hl' hf ⊢
    have q := h5 j j0 jk hl' a a0 a4 hf
    have q2 := h4 j j0 (by omega)
    rw [hr _ (hF _ hf).1, if_neg (fun z => by rw [z] at q; omega), hr _ (hF _ q2.1).1, if_neg (nv j j0 (by omega))]
    exact q
  · rw [uo k k0 kn] at hl' hf ⊢
    rw [hr _ (hF _ k4.1).1, if_neg (nv k k0 kn)]
    by_cases z : a = w
    · rw [z, ← ev, rv]
      omega
    · have q := h6 kn hl' a a0 (by omega) hf
      rw [hr _ (hF _ hf).1, if_neg (fun z => by rw [z] at q; omega)]
      exact q
  · by_cases z : c = v
    · refine Or.inr ⟨u k, w, hl, ⟨w0, w4⟩, (z.trans ev).symm, ?_, ?_⟩
      · rw [z, rv, hr _ (hF _ k4.1).1, if_neg (nv k k0 kn), hx]
      · rw [hr _ (hF _ k4.1).1, if_neg (nv k k0 kn)]
        exact k4.2.1
    · rw [hr c c0, if_neg z] at hc
      rcases h7 c c0 c1 hc with q | ⟨q, a, q1, q2, q3, q4, q5⟩
      · exact Or.inl q
      · have q6 := (hF q (hL q q1)).1
        have qv : ¬ q = v := fun y => by
          rw [y] at q4
          omega
        exact Or.inr ⟨q, a, q1, q2, q3, by rw [hr q q6, if_neg qv, hr c c0, if_neg z]; exact q4, by rw [hr q q6, if_neg qv]; exact q5⟩
  · rw [hr e e0, if_neg (fun z => by rw [z] at h8; omega)]
    exact h8
theorem bf_0 (hF : ∀ c, F c → 0 ≤ c ∧ c < 64) (fe : F e) (hr : ∀ c, 0 ≤ c → c < 64 → r c = if c = e then 0 else 100000000) (hu : u 0 = e) : bfI L F e r u 1 0 0 := by
  have g := hF e fe
  have re : r e = 0 := by rw [hr e g.1 g.2, if_pos rfl]
  have ru : ∀ j, 0 ≤ j → j < 1 → r (u j) = 0 := fun j j0 j1 => by rw [show j = 0 by omega, hu, re]
  refine ⟨fun c c0 c1 hc => ?_, fun i j i0 ij jn => ?_, fun _ j j0 j1 => ?_, fun j j0 j1 => ?_, fun j j0 jk => by omega, fun _ _ a a0 aw => by omega, fun c c0 c1 hc => ?_, re⟩
  · by_cases z : c = e
    · exact ⟨0, ⟨by decide, by decide⟩, hu.trans z.symm⟩
    · rw [hr c c0 c1, if_neg z] at hc
      omega
  · rw [ru i i0 (by omega), ru j (by omega) jn]
    omega
  · rw [ru j j0 j1, ru 0 (by decide) (by decide)]
    omega
  · rw [ru j j0 j1, show j = 0 by omega, hu]
    exact ⟨fe, by omega, by omega⟩
  · by_cases z : c = e
    · exact Or.inl z
    · rw [hr c c0 c1, if_neg z] at hc
      omega
theorem nbr_o {c a : Int} (a0 : 0 ≤ a) (a4 : a < 4) : ∃ b, (0 ≤ b ∧ b < 4) ∧ nbr (nbr c a) b = c := by
  have cs : a = 0 ∨ a = 1 ∨ a = 2 ∨ a = 3 := by omega
  rcases cs with z | z | z | z
  · refine ⟨2, by decide, ?_⟩
    rw [z]
    show c - 8 + 8 = c
    omega
  · refine ⟨3, by decide, ?_⟩
    rw [z]
    show c + 1 - 1 = c
    omega
  · refine ⟨0, by decide, ?_⟩
    rw [z]
    show c + 8 - 8 = c
    omega
  · refine ⟨1, by decide, ?_⟩
    rw [z]
    show c - 1 + 1 = c
    omega
/-- what the row says of the roads, once all of it has been gone through -/
theorem bf_en {Q : Qd} (c7 : Qc Q ≤ 7) (r7 : Qr Q ≤ 7) (hG : ∀ c, F c → inG Q c) (hF : ∀ c, F c → 0 ≤ c ∧ c < 64) (hL : ∀ c, L c → F c) (hh : bfI L F e r u n n 0) {c : Int} (fc : F c) : (100000000 ≤ r c ∧ ∀ m, ¬ rch L e m c) ∨ ∃ m : Nat, r c = (m : Int) ∧ dsP L e m c := by
  obtain ⟨h1, h2, h3, h4, h5, h6, h7, h8⟩ := hh
  have A : ∀ (m : Nat) (c : Int), 0 ≤ c → c < 64 → r c = (m : Int) → m < 100 → rch L e m c := by
    intro m
    induction m with
    | zero =>
      intro c c0 c1 hc _
      rcases h7 c c0 c1 (by omega) with q | ⟨q, a, q1, q2, q3, q4, q5⟩
      · exact q
      · omega
    | succ m ih =>
      intro c c0 c1 hc hm
      rcases h7 c c0 c1 (by omega) with q | ⟨q, a, q1, q2, q3, q4, q5⟩
      · rw [q, h8] at hc
        omega
      · have g := hF q (hL q q1)
        have z := ih q g.1 g.2 (by omega) (by omega)
        obtain ⟨b, b4, bq⟩ := nbr_o (c := q) q2.1 q2.2
        rw [q3] at bq
        refine rch_nb b4.1 b4.2 ?_ ?_
        · rw [bq]
          exact q1
        · rw [bq]
          exact z
  have B : ∀ (m : Nat), m < 100 → ∀ c : Int, F c → rch L e m c → r c ≤ (m : Int) := by
    intro m
    induction m with
    | zero =>
      intro _ c fc hc
      have ce : c = e := hc
      rw [ce, h8]
      omega
    | succ m ih =>
      intro hm c fc hc
      rcases hc with hc | ⟨a, a4, la, hc⟩
      · have := ih (by omega) c fc hc
        omega
      · have fa := hL _ la
        have z := ih (by omega) _ fa hc
        have g := hF _ fa
        obtain ⟨j, hj, jq⟩ := h1 _ g.1 g.2 (by omega)
        obtain ⟨b, b4, bq⟩ := nbr_o (c := c) a4.1 a4.2
        have q := h5 j hj.1 hj.2 (by rw [jq]; exact la) b b4.1 b4.2 (by rw [jq, bq]; exact fc)
        rw [jq, bq] at q
        omega
  by_cases z : r c < 100000000
  · right
    have g := hF c fc
    obtain ⟨j, hj, jq⟩ := h1 c g.1 g.2 z
    have q := (h4 j hj.1 hj.2).2
    rw [jq] at q
    refine ⟨(r c).toNat, by omega, A _ c g.1 g.2 (by omega) (by omega), fun m hm hc => ?_⟩
    have := B m (by omega) c fc hc
    omega
  · left
    refine ⟨by omega, fun m hc => ?_⟩
    obtain ⟨m', -, dm⟩ := ds_ex m hc
    have m48 := ds_48 c7 r7 (fun x hx => hG x (hL x hx)) (hG c fc) dm
    have := B m' (by omega) c fc dm.1
    omega
end BFA
