/-! seed, feed, end: what is so behind them -/
section SDZ
variable {d : Nat} {mem m m0 : zM} {x a1 a2 a3 a4 a5 : Int32}
theorem h_sdc (hm : aTm aT0 mem) (hd : 2 ≤ d) : yC zpg d 138 [.ref 0, .int x] mem (fun r m => (0 ≤ x.toInt ∧ r = some (.int 1) ∧ gi m 0 15 = x ∧ (∀ k, ¬ k = 0 → zat m k = zat mem k)) ∨ (¬ 0 ≤ x.toInt ∧ r = some (.int 0) ∧ rfX 220 5 mem m)) := by
  obtain ⟨d, rfl⟩ : ∃ q, d = q + 2 := ⟨d - 2, by omega⟩
  refine yC_of (t := tX11_seed) rfl rfl ?_
  exact w_sd_c hm
    (fun q1 hm2 => Or.inl ⟨by omega, rfl, gi_si_eq cO_e cO_15 hm, fun k hk => zat_sv_ne (fun w => hk w.symm)⟩)
    (fun q1 y2 e3 hm2 => Or.inr ⟨by omega, rfl, rfX_k (a := 5) rfl rfl e3⟩)
theorem h_sdm (hm : aTm aT0 mem) (hd : 2 ≤ d) : yC zpg d 271 [.ref 221, .int x] mem (fun r m => (0 ≤ x.toInt ∧ r = some (.int 1) ∧ (gL m 221 56).toInt = x.toInt ∧ fr [] [56] mem m) ∨ (¬ 0 ≤ x.toInt ∧ r = some (.int 0) ∧ rfX 248 5 mem m)) := by
  obtain ⟨d, rfl⟩ : ∃ q, d = q + 2 := ⟨d - 2, by omega⟩
  refine yC_of (t := tX12_seed) rfl rfl ?_
  exact w_sd_m hm
    (fun q1 hm2 => Or.inl ⟨by omega, rfl, by rw [gL_sL_eq mO_e mO_56 hm]; exact Int32.toInt_toInt64 x, fr_sv rfl (fr_rf)⟩)
    (fun q1 y2 e3 hm2 => Or.inr ⟨by omega, rfl, rfX_k (a := 5) rfl rfl e3⟩)
theorem FY_of (h : ∀ k, ¬ k = 0 → ¬ k = 1 → ¬ k = 220 → zat m k = zat m0 k) (hf : zfl m 0 15 = zfl m0 0 15) : FY m0 m := ⟨fun k h1 h2 => h k (by omega) (by omega) (by omega), fun k h1 h2 => h k (by omega) (by omega) (by omega), hf⟩
theorem h_fdc (hm : aTm aT0 mem) (hd : 2 ≤ d) : yC zpg d 112 [.ref 0, .int a1, .int a2, .int a3, .int a4, .int a5] mem (fun _ m => FY mem m) := by
  rcases Int.lt_or_le 1580 (gi mem 0 1).toInt with hn | hn
  · obtain ⟨d, rfl⟩ : ∃ q, d = q + 2 := ⟨d - 2, by omega⟩
    refine yC_of (t := tX11_feed) rfl rfl ?_
    exact w_fd_c hm
      (fun x1 e2 q3 hm2 => by exfalso; omega)
      (fun x1 e2 q3 y4 e5 hm2 => FY_of (fun k _ _ hk => zat_sa_ne (fun w => hk w.symm)) zfl_sa)
  · exact yC_mono (fun r m q => FY_of (fun k k0 k1 _ => q.2.2.1 k k0 k1) (q.2.2.2 15 (by decide))) (h_feed_c hm hn hd)
/-- the model's frame of a few cells -/
theorem fr_upp {ks is ks2 is2 : List Nat} (F : fr ks is m0 m) (hk : ks.all (fun k => ks2.contains k) = true) (hi : is.all (fun k => is2.contains k) = true) : fr ks2 is2 m0 m := by
  have z : ∀ {l l2 : List Nat} {k : Nat}, l.all (fun k => l2.contains k) = true → l2.contains k = false → l.contains k = false := fun {l l2 k} h1 h2 => by
    cases hc : l.contains k with
    | false => rfl
    | true =>
      have w := List.all_eq_true.1 h1 k (List.contains_iff_mem.1 hc)
      rw [h2] at w
      cases w
  exact ⟨fun k a b => F.1 k a (z hk b), fun i a => F.2 i (z hi a)⟩
theorem h_fdm (hm : aTm aT0 mem) (hd : 2 ≤ d) : yC zpg d 167 [.ref 221, .int a1, .int a2, .int a3, .int a4, .int a5] mem (fun _ m => fr [222, 248] [1] mem m) := by
  rcases Int.lt_or_le 1580 (gi mem 221 1).toInt with hn | hn
  · exact yC_mono (fun r m q => fr_upp q.2.2.2 (by decide) (by decide)) (h_feedr_m hm hn hd)
  · exact yC_mono (fun r m q => fr_upp q.2.2 (by decide) (by decide)) (h_feed_m hm hn hd)
end SDZ
