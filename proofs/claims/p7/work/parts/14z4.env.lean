/-! what holds between the calls: counts and contents of the tapes -/
section EV4
variable {a b : Int32} {t u : List Int32}
def EC4 (a b : Int32) (t u : List Int32) (m : zM) : Prop := EM m ∧ (gi m 0 1 = a ∧ gi m 221 1 = b) ∧ ga m 28 = ownC ∧ ga m 1 = t ∧ ga m 222 = u
abbrev E4 (a b : Int32) (t u : List Int32) : zM → Prop := aEm (EC4 a b t u)
theorem E4_mk {m m' : zM} {a b a' b' : Int32} {t u t' u' : List Int32} (e : EM m') (x : gi m' 0 1 = a') (y : gi m' 221 1 = b') (c : ga m' 28 = ownC) (p : ga m' 1 = t') (q : ga m' 222 = u') (h : zat m' 191 = zat m 191) (k : E4 a b t u m) : E4 a' b' t' u' m' := ⟨⟨e, ⟨x, y⟩, c, p, q⟩, fun l hl => k.2 l (by rw [← h]; exact hl)⟩
theorem E4_s {T : List aCe} (q : aKa T 191 = true) (p : aKf T 221 13 = true) (c3 : aKa T 223 = true) (c4 : aKa T 224 = true) (c6 : aKa T 236 = true) (c7 : aKa T 237 = true) (c8 : aKa T 238 = true) (k0 : aKf T 0 1 = true) (k1 : aKf T 221 1 = true) (d1 : aKa T 28 = true) (d2 : aKa T 1 = true) (d3 : aKa T 222 = true) : aEs (T, E4 a b t u, zpg) := fun m m' hp _ h => E4_mk (EM_of (pr_gi hp p) (pr_ga hp c3) (pr_ga hp c4) (pr_ga hp c6) (pr_ga hp c7) (pr_ga hp c8) h.1.1) ((pr_gi hp k0).trans h.1.2.1.1) ((pr_gi hp k1).trans h.1.2.1.2) ((pr_ga hp d1).trans h.1.2.2.1) ((pr_ga hp d2).trans h.1.2.2.2.1) ((pr_ga hp d3).trans h.1.2.2.2.2) (hp.1 191 q) h
theorem hE4_0 : aEs (aΘ0 (E4 a b t u)) := E4_s (by decide +kernel) (by decide +kernel) (by decide +kernel) (by decide +kernel) (by decide +kernel) (by decide +kernel) (by decide +kernel) (by decide +kernel) (by decide +kernel) (by decide +kernel) (by decide +kernel) (by decide +kernel)
theorem hE4_1 : aEs (aΘ1 (E4 a b t u)) := E4_s (by decide +kernel) (by decide +kernel) (by decide +kernel) (by decide +kernel) (by decide +kernel) (by decide +kernel) (by decide +kernel) (by decide +kernel) (by decide +kernel) (by decide +kernel) (by decide +kernel) (by decide +kernel)
theorem hE4_4 : aEs (aΘ4 (E4 a b t u)) := E4_s (by decide +kernel) (by decide +kernel) (by decide +kernel) (by decide +kernel) (by decide +kernel) (by decide +kernel) (by decide +kernel) (by decide +kernel) (by decide +kernel) (by decide +kernel) (by decide +kernel) (by decide +kernel)
theorem hE4_6 : aEs (aΘ6 (E4 a b t u)) := E4_s (by decide +kernel) (by decide +kernel) (by decide +kernel) (by decide +kernel) (by decide +kernel) (by decide +kernel) (by decide +kernel) (by decide +kernel) (by decide +kernel) (by decide +kernel) (by decide +kernel) (by decide +kernel)
theorem hE4_7 : aEs (aΘ7 (E4 a b t u)) := E4_s (by decide +kernel) (by decide +kernel) (by decide +kernel) (by decide +kernel) (by decide +kernel) (by decide +kernel) (by decide +kernel) (by decide +kernel) (by decide +kernel) (by decide +kernel) (by decide +kernel) (by decide +kernel)
theorem uH3 : aH3 (E4 a b t u) := ⟨hE4_0, met_q⟩
theorem uH0 : aH0 (E4 a b t u) := ⟨hE4_0, k3_X3_fitsMet uH3⟩
theorem uH1 : aH1 (E4 a b t u) := ⟨hE4_1, trivial⟩
theorem uH4 : aH4 (E4 a b t u) := ⟨hE4_4, trivial⟩
theorem uH5 : aH5 (E4 a b t u) := ⟨hE4_0, uH4⟩
theorem uH6 : aH6 (E4 a b t u) := ⟨hE4_6, trivial⟩
theorem uH7 : aH7 (E4 a b t u) := ⟨hE4_7, trivial⟩
theorem uQ : ∀ mem, aJ (aΘ0 (E4 a b t u)) mem → cdOK mem := fun _ h => h.2.1.1.1
theorem uZ : ∀ mem, aJ (aΘ0 (E4 a b t u)) mem → szOK mem := fun _ h => h.2.1.1.2
theorem uH9 : aH9 (E4 a b t u) := H9 hE4_0 uH5 uQ uZ
theorem uNo : aNo (EC4 a b t u) [191, 185] := fun m m' h e => ⟨EM_zq (fun k hk => h k (by rcases hk with rfl | rfl | rfl | rfl | rfl | rfl <;> rfl)) e.1, ⟨(gi_zq (h 0 rfl)).trans e.2.1.1, (gi_zq (h 221 rfl)).trans e.2.1.2⟩, (ga_zq (h 28 rfl)).trans e.2.2.1, (ga_zq (h 1 rfl)).trans e.2.2.2.1, (ga_zq (h 222 rfl)).trans e.2.2.2.2⟩
end EV4
/-- the state between the calls -/
def J4 (a b : Int32) (t u : List Int32) (m : zM) : Prop := aJ (aΘ0 (E4 a b t u)) m
def pbU (a b : Int32) (t u : List Int32) (r : Option Value) (m : zM) : Prop := J4 a b t u m ∧ ∃ v : Int32, r = some (.int v)
theorem pb4 {a b : Int32} {t u : List Int32} {D : Nat} {c : aCt} {q : Int × Int} (h : aCv (aΘ0 (E4 a b t u)) D c) (hr : c.2.2 = some (.inl q)) {d : Nat} {mem : zM} {av : List Value} (hd : D ≤ d) (hJ : J4 a b t u mem) (ha : aTvs c.2.1 av) : yC zpg d c.1 av mem (pbU a b t u) := yC_mono (fun r m k => by
  obtain ⟨k1, -, k3⟩ := k
  rw [hr] at k3
  obtain ⟨x, e, -⟩ := aTr_i k3
  exact ⟨k1, x, e⟩) (h d mem av hd hJ ha)
theorem frX_E4 {a b a' : Int32} {t u : List Int32} {m m' : zM} (h : frX m m') (x : gi m' 0 1 = a') (k : E4 a b t u m) : E4 a' b t u m' := E4_mk (EM_zq (fun q hq => h.1 q (by omega)) k.1.1) x ((gi_zq (h.1 221 (by decide))).trans k.1.2.1.2) ((ga_zq (h.1 28 (by decide))).trans k.1.2.2.1) ((ga_zq (h.1 1 (by decide))).trans k.1.2.2.2.1) ((ga_zq (h.1 222 (by decide))).trans k.1.2.2.2.2) (h.1 191 (by decide)) k
theorem fr_E4 {ks is : List Nat} {a b b' : Int32} {t u : List Int32} {m m' : zM} (F : fr ks is m m') (h1 : is.contains 13 = false) (h2 : ks.contains 223 = false) (h3 : ks.contains 224 = false) (h4 : ks.contains 236 = false) (h5 : ks.contains 237 = false) (h6 : ks.contains 238 = false) (h7 : ks.contains 191 = false) (h8 : ks.contains 0 = false) (h9 : ks.contains 28 = false) (h10 : ks.contains 1 = false) (h11 : ks.contains 222 = false) (y : gi m' 221 1 = b') (k : E4 a b t u m) : E4 a b' t u m' := E4_mk (Em_fr F h1 h2 h3 h4 h5 h6 k.1.1) ((gi_zq (F.1 0 (by decide) h8)).trans k.1.2.1.1) y ((ga_zq (F.1 28 (by decide) h9)).trans k.1.2.2.1) ((ga_zq (F.1 1 (by decide) h10)).trans k.1.2.2.2.1) ((ga_zq (F.1 222 (by decide) h11)).trans k.1.2.2.2.2) (F.1 191 (by decide) h7) k
theorem J4_tk {a b : Int32} {t u : List Int32} {m : zM} (h : J4 a b t u m) : J4 0 b t u (tk0 m) := by
  rw [tk0_si h.1]
  refine ⟨tm_si cO_e cO_1 h.1 (by decide), frX_E4 (m := m) ?_ (gi_si_eq cO_e cO_1 h.1) h.2⟩
  exact frX_sv (by decide) frX_rf
theorem J4_tm {a b : Int32} {t u : List Int32} {m : zM} (h : J4 a b t u m) : E4 a 0 t u (si m 221 1 0) := fr_E4 (fr_sv (is := [1]) (ks := []) rfl fr_rf) rfl rfl rfl rfl rfl rfl rfl rfl rfl rfl rfl (gi_si_eq mO_e mO_1 h.1) h.2
