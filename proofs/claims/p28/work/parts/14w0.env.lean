/-! what holds between the calls -/
def EM (m : zM) : Prop := cdOK m ∧ szOK m
theorem EM_of {m m' : zM} (b : gi m' 221 13 = gi m 221 13) (g3 : ga m' 223 = ga m 223) (g4 : ga m' 224 = ga m 224) (g6 : ga m' 236 = ga m 236) (g7 : ga m' 237 = ga m 237) (g8 : ga m' 238 = ga m 238) (h : EM m) : EM m' := by
  unfold EM cdOK szOK colsI rowsI bkN
  rw [b, g3, g4, g6, g7, g8]
  exact h
theorem gi_zq {m m' : zM} {k i : Nat} (h : zat m' k = zat m k) : gi m' k i = gi m k i := by
  unfold gi zfl
  rw [h]
theorem ga_zq {m m' : zM} {k : Nat} (h : zat m' k = zat m k) : ga m' k = ga m k := by
  unfold ga
  rw [h]
theorem EM_zq {m m' : zM} (h : ∀ k, k = 221 ∨ k = 223 ∨ k = 224 ∨ k = 236 ∨ k = 237 ∨ k = 238 → zat m' k = zat m k) (e : EM m) : EM m' := EM_of (gi_zq (h 221 (by decide))) (ga_zq (h 223 (by decide))) (ga_zq (h 224 (by decide))) (ga_zq (h 236 (by decide))) (ga_zq (h 237 (by decide))) (ga_zq (h 238 (by decide))) e
abbrev E0 : zM → Prop := aEm EM
theorem E0_mk {m m' : zM} (e : EM m') (h : zat m' 191 = zat m 191) (k : E0 m) : E0 m' := ⟨e, fun l hl => k.2 l (by rw [← h]; exact hl)⟩
theorem E0_s {T : List aCe} (a : aKa T 191 = true) (b : aKf T 221 13 = true) (c3 : aKa T 223 = true) (c4 : aKa T 224 = true) (c6 : aKa T 236 = true) (c7 : aKa T 237 = true) (c8 : aKa T 238 = true) : aEs (T, E0, zpg) := fun m m' hp _ h => E0_mk (EM_of (pr_gi hp b) (pr_ga hp c3) (pr_ga hp c4) (pr_ga hp c6) (pr_ga hp c7) (pr_ga hp c8) h.1) (hp.1 191 a) h
theorem hE0_0 : aEs (aΘ0 E0) := E0_s (by decide +kernel) (by decide +kernel) (by decide +kernel) (by decide +kernel) (by decide +kernel) (by decide +kernel) (by decide +kernel)
theorem hE0_1 : aEs (aΘ1 E0) := E0_s (by decide +kernel) (by decide +kernel) (by decide +kernel) (by decide +kernel) (by decide +kernel) (by decide +kernel) (by decide +kernel)
theorem hE0_4 : aEs (aΘ4 E0) := E0_s (by decide +kernel) (by decide +kernel) (by decide +kernel) (by decide +kernel) (by decide +kernel) (by decide +kernel) (by decide +kernel)
theorem hE0_6 : aEs (aΘ6 E0) := E0_s (by decide +kernel) (by decide +kernel) (by decide +kernel) (by decide +kernel) (by decide +kernel) (by decide +kernel) (by decide +kernel)
theorem oH3 : aH3 E0 := ⟨hE0_0, met_q⟩
theorem oH0 : aH0 E0 := ⟨hE0_0, k3_X3_fitsMet oH3⟩
theorem oH1 : aH1 E0 := ⟨hE0_1, trivial⟩
theorem oH4 : aH4 E0 := ⟨hE0_4, trivial⟩
theorem oH5 : aH5 E0 := ⟨hE0_0, oH4⟩
theorem oH6 : aH6 E0 := ⟨hE0_6, trivial⟩
theorem oQ : ∀ mem, aJ (aΘ0 E0) mem → cdOK mem := fun _ h => h.2.1.1
theorem oZ : ∀ mem, aJ (aΘ0 E0) mem → szOK mem := fun _ h => h.2.1.2
theorem oH9 : aH9 E0 := H9 hE0_0 oH5 oQ oZ
theorem oNo : aNo EM [191, 185] := fun m m' h e => EM_zq (fun k hk => h k (by rcases hk with rfl | rfl | rfl | rfl | rfl | rfl <;> rfl)) e
theorem oN1 : ∀ (m : zM) (x : Int32), E0 m → E0 (si m 221 1 x) := fun m x h => E0_mk (EM_of (gi_sv_ne (by decide)) ga_sv ga_sv ga_sv ga_sv ga_sv h.1) (zat_sv_ne (by decide)) h
/-- what a public call leaves -/
def pbQ (r : Option Value) (m : zM) : Prop := aJ (aΘ0 E0) m ∧ ∃ v : Int32, r = some (.int v)
theorem pb0 {D : Nat} {c : aCt} {q : Int × Int} (h : aCv (aΘ0 E0) D c) (hr : c.2.2 = some (.inl q)) {d : Nat} {mem : zM} {av : List Value} (hd : D ≤ d) (hJ : aJ (aΘ0 E0) mem) (ha : aTvs c.2.1 av) : yC zpg d c.1 av mem pbQ := yC_mono (fun r m k => by
  obtain ⟨k1, -, k3⟩ := k
  rw [hr] at k3
  obtain ⟨x, e, -⟩ := aTr_i k3
  exact ⟨k1, x, e⟩) (h d mem av hd hJ ha)
theorem pb6 {D : Nat} {c : aCt} {q : Int × Int} (h : aCv (aΘ6 E0) D c) (hr : c.2.2 = some (.inl q)) {d : Nat} {mem : zM} {av : List Value} (hd : D ≤ d) (hJ : aJ (aΘ0 E0) mem) (ha : aTvs c.2.1 av) : yC zpg d c.1 av mem pbQ := yC_mono (fun r m k => by
  obtain ⟨k1, -, k3⟩ := k
  rw [hr] at k3
  obtain ⟨x, e, -⟩ := aTr_i k3
  exact ⟨aJ_60 k1, x, e⟩) (h d mem av hd (aJ_06 hJ) ha)
theorem tvI (x : Int32) : aTv (.inl (-2147483648, 2147483647)) (.int x) := ⟨x, rfl, (i32_b x).1, (i32_b x).2⟩
theorem tvX : aTv (.inr (some [0])) (.ref 0) := ⟨0, List.mem_singleton.mpr rfl, rfl⟩
theorem tvM : aTv (.inr (some [221])) (.ref 221) := ⟨221, List.mem_singleton.mpr rfl, rfl⟩
theorem frK_E {m m' : zM} (h : frK m m') (k : E0 m) : E0 m' := E0_mk (EM_zq (fun q hq => h q (by omega)) k.1) (h 191 (Or.inl rfl)) k
