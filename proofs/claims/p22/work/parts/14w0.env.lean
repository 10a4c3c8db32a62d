/-! what holds between the calls: a and b are the counts of the tapes -/
def EM (m : zM) : Prop := cdOK m ∧ szOK m
theorem EM_of {m m' : zM} (b : gi m' 221 13 = gi m 221 13) (g3 : ga m' 223 = ga m 223) (g4 : ga m' 224 = ga m 224) (g6 : ga m' 236 = ga m 236) (g7 : ga m' 237 = ga m 237) (g8 : ga m' 238 = ga m 238) (h : EM m) : EM m' := by
  unfold EM cdOK szOK colsI rowsI bkN
  rw [b, g3, g4, g6, g7, g8]
  exact h
theorem gi_zq {m m' : zM} {k i : Nat} (h : zat m' k = zat m k) : gi m' k i = gi m k i := by
  unfold gi zfl
  rw [h]
theorem ga_zq {m m' : zM} {k : Nat} (h : zat m' k = zat m k) : ga m' k = ga m k := by
  unfold ga
  rw [h]
theorem EM_zq {m m' : zM} (h : ∀ k, k = 221 ∨ k = 223 ∨ k = 224 ∨ k = 236 ∨ k = 237 ∨ k = 238 → zat m' k = zat m k) (e : EM m) : EM m' := EM_of (gi_zq (h 221 (by decide))) (ga_zq (h 223 (by decide))) (ga_zq (h 224 (by decide))) (ga_zq (h 236 (by decide))) (ga_zq (h 237 (by decide))) (ga_zq (h 238 (by decide))) e
section EV
variable {a b : Int32}
def EC (a b : Int32) (m : zM) : Prop := EM m ∧ gi m 0 1 = a ∧ gi m 221 1 = b
abbrev E2 (a b : Int32) : zM → Prop := aEm (EC a b)
theorem E2_mk {m m' : zM} {a b a' b' : Int32} (e : EM m') (x : gi m' 0 1 = a') (y : gi m' 221 1 = b') (h : zat m' 191 = zat m 191) (k : E2 a b m) : E2 a' b' m' := ⟨⟨e, x, y⟩, fun l hl => k.2 l (by rw [← h]; exact hl)⟩
theorem E2_s {T : List aCe} (q : aKa T 191 = true) (p : aKf T 221 13 = true) (c3 : aKa T 223 = true) (c4 : aKa T 224 = true) (c6 : aKa T 236 = true) (c7 : aKa T 237 = true) (c8 : aKa T 238 = true) (k0 : aKf T 0 1 = true) (k1 : aKf T 221 1 = true) : aEs (T, E2 a b, zpg) := fun m m' hp _ h => E2_mk (EM_of (pr_gi hp p) (pr_ga hp c3) (pr_ga hp c4) (pr_ga hp c6) (pr_ga hp c7) (pr_ga hp c8) h.1.1) ((pr_gi hp k0).trans h.1.2.1) ((pr_gi hp k1).trans h.1.2.2) (hp.1 191 q) h
theorem hE2_0 : aEs (aΘ0 (E2 a b)) := E2_s (by decide +kernel) (by decide +kernel) (by decide +kernel) (by decide +kernel) (by decide +kernel) (by decide +kernel) (by decide +kernel) (by decide +kernel) (by decide +kernel)
theorem hE2_1 : aEs (aΘ1 (E2 a b)) := E2_s (by decide +kernel) (by decide +kernel) (by decide +kernel) (by decide +kernel) (by decide +kernel) (by decide +kernel) (by decide +kernel) (by decide +kernel) (by decide +kernel)
theorem hE2_4 : aEs (aΘ4 (E2 a b)) := E2_s (by decide +kernel) (by decide +kernel) (by decide +kernel) (by decide +kernel) (by decide +kernel) (by decide +kernel) (by decide +kernel) (by decide +kernel) (by decide +kernel)
theorem hE2_6 : aEs (aΘ6 (E2 a b)) := E2_s (by decide +kernel) (by decide +kernel) (by decide +kernel) (by decide +kernel) (by decide +kernel) (by decide +kernel) (by decide +kernel) (by decide +kernel) (by decide +kernel)
theorem hE2_7 : aEs (aΘ7 (E2 a b)) := E2_s (by decide +kernel) (by decide +kernel) (by decide +kernel) (by decide +kernel) (by decide +kernel) (by decide +kernel) (by decide +kernel) (by decide +kernel) (by decide +kernel)
theorem oH3 : aH3 (E2 a b) := ⟨hE2_0, met_q⟩
theorem oH0 : aH0 (E2 a b) := ⟨hE2_0, k3_X3_fitsMet oH3⟩
theorem oH1 : aH1 (E2 a b) := ⟨hE2_1, trivial⟩
theorem oH4 : aH4 (E2 a b) := ⟨hE2_4, trivial⟩
theorem oH5 : aH5 (E2 a b) := ⟨hE2_0, oH4⟩
theorem oH6 : aH6 (E2 a b) := ⟨hE2_6, trivial⟩
theorem oH7 : aH7 (E2 a b) := ⟨hE2_7, trivial⟩
theorem oQ : ∀ mem, aJ (aΘ0 (E2 a b)) mem → cdOK mem := fun _ h => h.2.1.1.1
theorem oZ : ∀ mem, aJ (aΘ0 (E2 a b)) mem → szOK mem := fun _ h => h.2.1.1.2
theorem oH9 : aH9 (E2 a b) := H9 hE2_0 oH5 oQ oZ
theorem oNo : aNo (EC a b) [191, 185] := fun m m' h e => ⟨EM_zq (fun k hk => h k (by rcases hk with rfl | rfl | rfl | rfl | rfl | rfl <;> rfl)) e.1, (gi_zq (h 0 rfl)).trans e.2.1, (gi_zq (h 221 rfl)).trans e.2.2⟩
end EV
/-- the state between the calls -/
def JT (a b : Int32) (m : zM) : Prop := aJ (aΘ0 (E2 a b)) m
def pbQ (a b : Int32) (r : Option Value) (m : zM) : Prop := JT a b m ∧ ∃ v : Int32, r = some (.int v)
theorem pb0 {a b : Int32} {D : Nat} {c : aCt} {q : Int × Int} (h : aCv (aΘ0 (E2 a b)) D c) (hr : c.2.2 = some (.inl q)) {d : Nat} {mem : zM} {av : List Value} (hd : D ≤ d) (hJ : JT a b mem) (ha : aTvs c.2.1 av) : yC zpg d c.1 av mem (pbQ a b) := yC_mono (fun r m k => by
  obtain ⟨k1, -, k3⟩ := k
  rw [hr] at k3
  obtain ⟨x, e, -⟩ := aTr_i k3
  exact ⟨k1, x, e⟩) (h d mem av hd hJ ha)
theorem tvI (x : Int32) : aTv (.inl (-2147483648, 2147483647)) (.int x) := ⟨x, rfl, (i32_b x).1, (i32_b x).2⟩
theorem tvX : aTv (.inr (some [0])) (.ref 0) := ⟨0, List.mem_singleton.mpr rfl, rfl⟩
theorem tvM : aTv (.inr (some [221])) (.ref 221) := ⟨221, List.mem_singleton.mpr rfl, rfl⟩
theorem frX_E {a b a' : Int32} {m m' : zM} (h : frX m m') (x : gi m' 0 1 = a') (k : E2 a b m) : E2 a' b m' := E2_mk (EM_zq (fun q hq => h.1 q (by omega)) k.1.1) x ((gi_zq (h.1 221 (by decide))).trans k.1.2.2) (h.1 191 (by decide)) k
theorem fr_E {ks is : List Nat} {a b b' : Int32} {m m' : zM} (F : fr ks is m m') (h1 : is.contains 13 = false) (h2 : ks.contains 223 = false) (h3 : ks.contains 224 = false) (h4 : ks.contains 236 = false) (h5 : ks.contains 237 = false) (h6 : ks.contains 238 = false) (h7 : ks.contains 191 = false) (h8 : ks.contains 0 = false) (y : gi m' 221 1 = b') (k : E2 a b m) : E2 a b' m' := E2_mk (Em_fr F h1 h2 h3 h4 h5 h6 k.1.1) ((gi_zq (F.1 0 (by decide) h8)).trans k.1.2.1) y (F.1 191 (by decide) h7) k
theorem tk0_si {m : zM} (hm : aTm aT0 m) : tk0 m = si m 0 1 0 := by
  obtain ⟨fs, h0, -⟩ := gi_ty cO_e cO_1 hm
  rw [tk0_e h0]
  show _ = sv m 0 1 (.int 0)
  rw [sv_at h0]
theorem JT_tk {a b : Int32} {m : zM} (h : JT a b m) : JT 0 b (tk0 m) := by
  rw [tk0_si h.1]
  exact ⟨tm_si cO_e cO_1 h.1 (by decide), frX_E (frX_sv (by decide) frX_rf) (gi_si_eq cO_e cO_1 h.1) h.2⟩
theorem JT_tm {a b : Int32} {m : zM} (h : JT a b m) : E2 a 0 (si m 221 1 0) := fr_E (fr_sv (is := [1]) (ks := []) rfl fr_rf) rfl rfl rfl rfl rfl rfl rfl rfl (gi_si_eq mO_e mO_1 h.1) h.2
