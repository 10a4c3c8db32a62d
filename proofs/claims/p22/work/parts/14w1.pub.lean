/-! the public calls -/
section PB
variable {d : Nat} {mem : zM} {a b a1 a2 a3 a4 a5 : Int32}
set_option maxRecDepth 100000 in
theorem px_quay (hd : 70 ≤ d) (hJ : JT a b mem) : yC zpg d 114 [.ref 0] mem (pbQ 0 b) := by
  obtain ⟨d, rfl⟩ : ∃ q, d = q + 1 := ⟨d - 1, by omega⟩
  exact h_quay hE2_0 oH1 oH6 (by omega) hJ.1 (JT_tk hJ)
set_option maxRecDepth 100000 in
theorem pm_quay (hd : 70 ≤ d) (hJ : JT a b mem) : yC zpg d 206 [.ref 221] mem (pbQ a 0) := yC_mono (fun r m q => ⟨⟨q.2.1, E2_mk q.2.2.1 ((gi_zq (q.2.2.2.1 0 (by decide))).trans hJ.2.1.2.1) q.2.2.2.2 (q.2.2.2.1 191 (by decide)) hJ.2⟩, q.1⟩) (h_quay_m hJ.1 hJ.2.1.1 (by omega))
set_option maxRecDepth 100000 in
theorem px_fault (hd : 70 ≤ d) (hJ : JT a b mem) : yC zpg d 115 [.ref 0, .int a1] mem (pbQ a b) := pb0 (k0_X11_fault oH0) rfl (by omega) hJ ⟨tvX, tvI a1, trivial⟩
set_option maxRecDepth 100000 in
theorem pm_fault (hd : 70 ≤ d) (hJ : JT a b mem) : yC zpg d 207 [.ref 221, .int a1] mem (pbQ a b) := pb0 (k9_X12_fault oH9) rfl (by omega) hJ ⟨tvM, tvI a1, trivial⟩
set_option maxRecDepth 100000 in
theorem px_has (hd : 70 ≤ d) (hJ : JT a b mem) : yC zpg d 116 [.ref 0, .int a1] mem (pbQ a b) := pb0 (k0_X11_has oH0) rfl (by omega) hJ ⟨tvX, tvI a1, trivial⟩
set_option maxRecDepth 100000 in
theorem pm_has (hd : 70 ≤ d) (hJ : JT a b mem) : yC zpg d 239 [.ref 221, .int a1] mem (pbQ a b) := pb0 (k9_X12_has oH9) rfl (by omega) hJ ⟨tvM, tvI a1, trivial⟩
set_option maxRecDepth 100000 in
theorem px_letter (hd : 70 ≤ d) (hJ : JT a b mem) : yC zpg d 117 [.ref 0, .int a1, .int a2, .int a3] mem (pbQ a b) := pb0 (k0_X11_letter oH0) rfl (by omega) hJ ⟨tvX, tvI a1, tvI a2, tvI a3, trivial⟩
set_option maxRecDepth 100000 in
theorem pm_letter (hd : 70 ≤ d) (hJ : JT a b mem) : yC zpg d 240 [.ref 221, .int a1, .int a2, .int a3] mem (pbQ a b) := yC_mono (fun r m q => by
  obtain ⟨x, e, -⟩ := aTr_i q.2.2
  exact ⟨q.1, x, e⟩) (h_letter hE2_0 (by omega) (wI_rf hJ))
set_option maxRecDepth 100000 in
theorem px_cell (hd : 70 ≤ d) (hJ : JT a b mem) : yC zpg d 118 [.ref 0, .int a1, .int a2, .int a3] mem (pbQ a b) := pb0 (k0_X11_cell oH0) rfl (by omega) hJ ⟨tvX, tvI a1, tvI a2, tvI a3, trivial⟩
set_option maxRecDepth 100000 in
theorem pm_cell (hd : 70 ≤ d) (hJ : JT a b mem) : yC zpg d 241 [.ref 221, .int a1, .int a2, .int a3] mem (pbQ a b) := pb0 (k9_X12_cell oH9) rfl (by omega) hJ ⟨tvM, tvI a1, tvI a2, tvI a3, trivial⟩
set_option maxRecDepth 100000 in
theorem px_thing (hd : 70 ≤ d) (hJ : JT a b mem) : yC zpg d 119 [.ref 0, .int a1, .int a2] mem (pbQ a b) := pb0 (k0_X11_thing oH0) rfl (by omega) hJ ⟨tvX, tvI a1, tvI a2, trivial⟩
set_option maxRecDepth 100000 in
theorem pm_thing (hd : 70 ≤ d) (hJ : JT a b mem) : yC zpg d 243 [.ref 221, .int a1, .int a2] mem (pbQ a b) := pb0 (k9_X12_thing oH9) rfl (by omega) hJ ⟨tvM, tvI a1, tvI a2, trivial⟩
set_option maxRecDepth 100000 in
theorem px_folk (hd : 70 ≤ d) (hJ : JT a b mem) : yC zpg d 120 [.ref 0, .int a1, .int a2] mem (pbQ a b) := pb0 (k0_X11_folk oH0) rfl (by omega) hJ ⟨tvX, tvI a1, tvI a2, trivial⟩
set_option maxRecDepth 100000 in
theorem pm_folk (hd : 70 ≤ d) (hJ : JT a b mem) : yC zpg d 244 [.ref 221, .int a1, .int a2] mem (pbQ a b) := pb0 (k9_X12_folk oH9) rfl (by omega) hJ ⟨tvM, tvI a1, tvI a2, trivial⟩
set_option maxRecDepth 100000 in
theorem px_later (hd : 70 ≤ d) (hJ : JT a b mem) : yC zpg d 121 [.ref 0, .int a1, .int a2, .int a3] mem (pbQ a b) := pb0 (k0_X11_later oH0) rfl (by omega) hJ ⟨tvX, tvI a1, tvI a2, tvI a3, trivial⟩
set_option maxRecDepth 100000 in
theorem pm_later (hd : 70 ≤ d) (hJ : JT a b mem) : yC zpg d 247 [.ref 221, .int a1, .int a2, .int a3] mem (pbQ a b) := pb0 (k9_X12_later oH9) rfl (by omega) hJ ⟨tvM, tvI a1, tvI a2, tvI a3, trivial⟩
set_option maxRecDepth 100000 in
theorem px_home (hd : 70 ≤ d) (hJ : JT a b mem) : yC zpg d 122 [.ref 0, .int a1] mem (pbQ a b) := pb0 (k0_X11_home oH0) rfl (by omega) hJ ⟨tvX, tvI a1, trivial⟩
set_option maxRecDepth 100000 in
theorem pm_home (hd : 70 ≤ d) (hJ : JT a b mem) : yC zpg d 248 [.ref 221, .int a1] mem (pbQ a b) := pb0 (k9_X12_home oH9) rfl (by omega) hJ ⟨tvM, tvI a1, trivial⟩
set_option maxRecDepth 100000 in
theorem px_missing (hd : 70 ≤ d) (hJ : JT a b mem) : yC zpg d 123 [.ref 0, .int a1, .int a2] mem (pbQ a b) := pb0 (k0_X11_missing oH0) rfl (by omega) hJ ⟨tvX, tvI a1, tvI a2, trivial⟩
set_option maxRecDepth 100000 in
theorem pm_missing (hd : 70 ≤ d) (hJ : JT a b mem) : yC zpg d 249 [.ref 221, .int a1, .int a2] mem (pbQ a b) := pb0 (k9_X12_missing oH9) rfl (by omega) hJ ⟨tvM, tvI a1, tvI a2, trivial⟩
set_option maxRecDepth 100000 in
theorem px_losses (hd : 70 ≤ d) (hJ : JT a b mem) : yC zpg d 124 [.ref 0, .int a1, .int a2] mem (pbQ a b) := pb0 (k0_X11_losses oH0) rfl (by omega) hJ ⟨tvX, tvI a1, tvI a2, trivial⟩
set_option maxRecDepth 100000 in
theorem pm_losses (hd : 70 ≤ d) (hJ : JT a b mem) : yC zpg d 251 [.ref 221, .int a1, .int a2] mem (pbQ a b) := pb0 (k9_X12_losses oH9) rfl (by omega) hJ ⟨tvM, tvI a1, tvI a2, trivial⟩
set_option maxRecDepth 100000 in
theorem px_worst (hd : 70 ≤ d) (hJ : JT a b mem) : yC zpg d 125 [.ref 0, .int a1, .int a2] mem (pbQ a b) := pb0 (k0_X11_worst oH0) rfl (by omega) hJ ⟨tvX, tvI a1, tvI a2, trivial⟩
set_option maxRecDepth 100000 in
theorem pm_worst (hd : 70 ≤ d) (hJ : JT a b mem) : yC zpg d 252 [.ref 221, .int a1, .int a2] mem (pbQ a b) := pb0 (k9_X12_worst oH9) rfl (by omega) hJ ⟨tvM, tvI a1, tvI a2, trivial⟩
set_option maxRecDepth 100000 in
theorem px_cover (hd : 70 ≤ d) (hJ : JT a b mem) : yC zpg d 126 [.ref 0] mem (pbQ a b) := pb0 (k0_X11_cover oH0) rfl (by omega) hJ ⟨tvX, trivial⟩
set_option maxRecDepth 100000 in
theorem pm_cover (hd : 70 ≤ d) (hJ : JT a b mem) : yC zpg d 253 [.ref 221] mem (pbQ a b) := pb0 (k9_X12_cover oH9) rfl (by omega) hJ ⟨tvM, trivial⟩
set_option maxRecDepth 100000 in
theorem px_send (hd : 70 ≤ d) (hJ : JT a b mem) : yC zpg d 127 [.ref 0, .int a1] mem (pbQ a b) := pb0 (k0_X11_send oH0) rfl (by omega) hJ ⟨tvX, tvI a1, trivial⟩
set_option maxRecDepth 100000 in
theorem pm_send (hd : 70 ≤ d) (hJ : JT a b mem) : yC zpg d 257 [.ref 221, .int a1] mem (pbQ a b) := pb0 (k9_X12_send oH9) rfl (by omega) hJ ⟨tvM, tvI a1, trivial⟩
set_option maxRecDepth 100000 in
theorem px_odds (hd : 70 ≤ d) (hJ : JT a b mem) : yC zpg d 128 [.ref 0, .int a1] mem (pbQ a b) := pb0 (k0_X11_odds oH0) rfl (by omega) hJ ⟨tvX, tvI a1, trivial⟩
set_option maxRecDepth 100000 in
theorem pm_odds (hd : 70 ≤ d) (hJ : JT a b mem) : yC zpg d 258 [.ref 221, .int a1] mem (pbQ a b) := pb0 (k9_X12_odds oH9) rfl (by omega) hJ ⟨tvM, tvI a1, trivial⟩
set_option maxRecDepth 100000 in
theorem px_meet (hd : 70 ≤ d) (hJ : JT a b mem) : yC zpg d 129 [.ref 0] mem (pbQ 0 b) := by
  obtain ⟨d, rfl⟩ : ∃ q, d = q + 1 := ⟨d - 1, by omega⟩
  exact h_meet oNo oH0 oH7 (by omega) hJ.1 (JT_tk hJ)
set_option maxRecDepth 100000 in
theorem pm_meet (hd : 70 ≤ d) (hJ : JT a b mem) : yC zpg d 259 [.ref 221] mem (pbQ a 0) := yC_mono (fun r m q => by
  have j := JT_tm hJ
  exact ⟨⟨q.2.1, E2_mk (EM_of q.2.2.2.1 (ga_zq (q.2.2.1 223 rfl)) (ga_zq (q.2.2.1 224 rfl)) (ga_zq (q.2.2.1 236 rfl)) (ga_zq (q.2.2.1 237 rfl)) (ga_zq (q.2.2.1 238 rfl)) j.1.1) ((gi_zq (q.2.2.1 0 rfl)).trans j.1.2.1) (q.2.2.2.2.2.trans j.1.2.2) (q.2.2.1 191 rfl) j⟩, q.1⟩) (h_meet_m hJ.1 hJ.2.1.1.2 (by omega))
set_option maxRecDepth 100000 in
theorem px_hues (hd : 70 ≤ d) (hJ : JT a b mem) : yC zpg d 130 [.ref 0, .int a1] mem (pbQ a b) := pb0 (k0_X11_hues oH0) rfl (by omega) hJ ⟨tvX, tvI a1, trivial⟩
set_option maxRecDepth 100000 in
theorem pm_hues (hd : 70 ≤ d) (hJ : JT a b mem) : yC zpg d 261 [.ref 221, .int a1] mem (pbQ a b) := pb0 (k9_X12_hues oH9) rfl (by omega) hJ ⟨tvM, tvI a1, trivial⟩
set_option maxRecDepth 100000 in
theorem px_tells (hd : 70 ≤ d) (hJ : JT a b mem) : yC zpg d 131 [.ref 0, .int a1, .int a2] mem (pbQ a b) := pb0 (k0_X11_tells oH0) rfl (by omega) hJ ⟨tvX, tvI a1, tvI a2, trivial⟩
set_option maxRecDepth 100000 in
theorem pm_tells (hd : 70 ≤ d) (hJ : JT a b mem) : yC zpg d 263 [.ref 221, .int a1, .int a2] mem (pbQ a b) := pb0 (k9_X12_tells oH9) rfl (by omega) hJ ⟨tvM, tvI a1, tvI a2, trivial⟩
set_option maxRecDepth 100000 in
theorem px_nights (hd : 70 ≤ d) (hJ : JT a b mem) : yC zpg d 132 [.ref 0, .int a1] mem (pbQ a b) := pb0 (k0_X11_nights oH0) rfl (by omega) hJ ⟨tvX, tvI a1, trivial⟩
set_option maxRecDepth 100000 in
theorem pm_nights (hd : 70 ≤ d) (hJ : JT a b mem) : yC zpg d 264 [.ref 221, .int a1] mem (pbQ a b) := pb0 (k9_X12_nights oH9) rfl (by omega) hJ ⟨tvM, tvI a1, trivial⟩
set_option maxRecDepth 100000 in
theorem px_chance (hd : 70 ≤ d) (hJ : JT a b mem) : yC zpg d 133 [.ref 0, .int a1] mem (pbQ a b) := pb0 (k0_X11_chance oH0) rfl (by omega) hJ ⟨tvX, tvI a1, trivial⟩
set_option maxRecDepth 100000 in
theorem pm_chance (hd : 70 ≤ d) (hJ : JT a b mem) : yC zpg d 266 [.ref 221, .int a1] mem (pbQ a b) := yC_mono (fun r m q => by
  obtain ⟨x, e, -⟩ := aTr_i q.2.2
  exact ⟨q.1, x, e⟩) (h_chance hE2_0 oH9 oH5 oQ oZ (by omega) (wI_rf hJ))
set_option maxRecDepth 100000 in
theorem px_lose (hd : 70 ≤ d) (hJ : JT a b mem) : yC zpg d 134 [.ref 0, .int a1] mem (pbQ a b) := pb0 (k0_X11_lose oH0) rfl (by omega) hJ ⟨tvX, tvI a1, trivial⟩
set_option maxRecDepth 100000 in
theorem pm_lose (hd : 70 ≤ d) (hJ : JT a b mem) : yC zpg d 268 [.ref 221, .int a1] mem (pbQ a b) := pb0 (k9_X12_lose oH9) rfl (by omega) hJ ⟨tvM, tvI a1, trivial⟩
set_option maxRecDepth 100000 in
theorem px_find (hd : 70 ≤ d) (hJ : JT a b mem) : yC zpg d 135 [.ref 0, .int a1] mem (pbQ a b) := pb0 (k0_X11_find oH0) rfl (by omega) hJ ⟨tvX, tvI a1, trivial⟩
set_option maxRecDepth 100000 in
theorem pm_find (hd : 70 ≤ d) (hJ : JT a b mem) : yC zpg d 269 [.ref 221, .int a1] mem (pbQ a b) := pb0 (k9_X12_find oH9) rfl (by omega) hJ ⟨tvM, tvI a1, trivial⟩
set_option maxRecDepth 100000 in
theorem px_lead (hd : 70 ≤ d) (hJ : JT a b mem) : yC zpg d 136 [.ref 0, .int a1, .int a2, .int a3] mem (pbQ a b) := pb0 (k0_X11_lead oH0) rfl (by omega) hJ ⟨tvX, tvI a1, tvI a2, tvI a3, trivial⟩
set_option maxRecDepth 100000 in
theorem pm_lead (hd : 70 ≤ d) (hJ : JT a b mem) : yC zpg d 270 [.ref 221, .int a1, .int a2, .int a3] mem (pbQ a b) := pb0 (k9_X12_lead oH9) rfl (by omega) hJ ⟨tvM, tvI a1, tvI a2, tvI a3, trivial⟩
set_option maxRecDepth 100000 in
theorem px_undo (hd : 70 ≤ d) (hJ : JT a b mem) : yC zpg d 137 [.ref 0] mem (pbQ a b) := pb0 (k0_X11_undo oH0) rfl (by omega) hJ ⟨tvX, trivial⟩
set_option maxRecDepth 100000 in
theorem pm_undo (hd : 70 ≤ d) (hJ : JT a b mem) : yC zpg d 214 [.ref 221] mem (pbQ a b) := pb0 (k9_X12_undo oH9) rfl (by omega) hJ ⟨tvM, trivial⟩
set_option maxRecDepth 100000 in
theorem px_seed (hd : 70 ≤ d) (hJ : JT a b mem) : yC zpg d 138 [.ref 0, .int a1] mem (pbQ a b) := pb0 (k0_X11_seed oH0) rfl (by omega) hJ ⟨tvX, tvI a1, trivial⟩
set_option maxRecDepth 100000 in
theorem pm_seed (hd : 70 ≤ d) (hJ : JT a b mem) : yC zpg d 271 [.ref 221, .int a1] mem (pbQ a b) := pb0 (k9_X12_seed oH9) rfl (by omega) hJ ⟨tvM, tvI a1, trivial⟩
set_option maxRecDepth 100000 in
theorem px_kept (hd : 70 ≤ d) (hJ : JT a b mem) : yC zpg d 139 [.ref 0, .int a1, .int a2] mem (pbQ a b) := pb0 (k0_X11_kept oH0) rfl (by omega) hJ ⟨tvX, tvI a1, tvI a2, trivial⟩
set_option maxRecDepth 100000 in
theorem pm_kept (hd : 70 ≤ d) (hJ : JT a b mem) : yC zpg d 272 [.ref 221, .int a1, .int a2] mem (pbQ a b) := pb0 (k9_X12_kept oH9) rfl (by omega) hJ ⟨tvM, tvI a1, tvI a2, trivial⟩
set_option maxRecDepth 100000 in
theorem px_image (hd : 70 ≤ d) (hJ : JT a b mem) : yC zpg d 140 [.ref 0] mem (pbQ a b) := pb0 (k3_X11_image oH3) rfl (by omega) hJ ⟨tvX, trivial⟩
set_option maxRecDepth 100000 in
theorem pm_image (hd : 70 ≤ d) (hJ : JT a b mem) : yC zpg d 274 [.ref 221] mem (pbQ a b) := pb0 (k5_X12_image oH5) rfl (by omega) hJ ⟨tvM, trivial⟩
set_option maxRecDepth 100000 in
theorem px_octet (hd : 70 ≤ d) (hJ : JT a b mem) : yC zpg d 141 [.ref 0, .int a1] mem (pbQ a b) := pb0 (k0_X11_octet oH0) rfl (by omega) hJ ⟨tvX, tvI a1, trivial⟩
set_option maxRecDepth 100000 in
theorem pm_octet (hd : 70 ≤ d) (hJ : JT a b mem) : yC zpg d 275 [.ref 221, .int a1] mem (pbQ a b) := pb0 (k9_X12_octet oH9) rfl (by omega) hJ ⟨tvM, tvI a1, trivial⟩
set_option maxRecDepth 100000 in
theorem px_on (hd : 70 ≤ d) (hJ : JT a b mem) : yC zpg d 142 [.ref 0] mem (pbQ 0 b) := yC_mono (fun r m q => by
  have j := JT_tk hJ
  rw [tk0_si hJ.1] at j
  exact ⟨⟨q.2.1, frX_E (frK_X q.2.2) ((gi_zl (q.2.2.2 1 (by decide))).trans j.2.1.2.1) j.2⟩, q.1⟩) (h_on_c hJ.1 (by omega))
set_option maxRecDepth 100000 in
theorem pm_on (hd : 70 ≤ d) (hJ : JT a b mem) : yC zpg d 278 [.ref 221] mem (pbQ a 0) := yC_mono (fun r m q => ⟨q.2, q.1⟩) (h_on_m hE2_0 oH9 oZ hJ.1 (JT_tm hJ) (by omega))
set_option maxRecDepth 100000 in
theorem px_status (hd : 70 ≤ d) (hJ : JT a b mem) : yC zpg d 143 [.ref 0, .int a1] mem (pbQ a b) := pb0 (k0_X11_status oH0) rfl (by omega) hJ ⟨tvX, tvI a1, trivial⟩
set_option maxRecDepth 100000 in
theorem pm_status (hd : 70 ≤ d) (hJ : JT a b mem) : yC zpg d 209 [.ref 221, .int a1] mem (pbQ a b) := pb0 (k9_X12_status oH9) rfl (by omega) hJ ⟨tvM, tvI a1, trivial⟩
/-- what feed leaves: the answer, the count -/
def fdA (n : Int32) (r : Option Value) (n' : Int32) : Prop := (n.toInt ≤ 1580 ∧ r = some (.int n') ∧ n'.toInt = n.toInt + 20) ∨ (1580 < n.toInt ∧ r = some (.int (-1)) ∧ n' = n)
theorem fdA_eq {n x y : Int32} {r s : Option Value} (h : fdA n r x) (k : fdA n s y) : x = y ∧ r = s ∧ ∃ v : Int32, r = some (.int v) := by
  rcases h with ⟨h1, h2, h3⟩ | ⟨h1, h2, h3⟩ <;> rcases k with ⟨k1, k2, k3⟩ | ⟨k1, k2, k3⟩
  · have e : x = y := Int32.toInt_inj.1 (by omega)
    exact ⟨e, by rw [h2, k2, e], x, h2⟩
  · exfalso; omega
  · exfalso; omega
  · exact ⟨by rw [h3, k3], by rw [h2, k2], _, h2⟩
theorem px_feed (hd : 70 ≤ d) (hJ : JT a b mem) : yC zpg d 112 [.ref 0, .int a1, .int a2, .int a3, .int a4, .int a5] mem (fun r m => ∃ n' : Int32, fdA a r n' ∧ JT n' b m) := by
  have ea := hJ.2.1.2.1
  rcases Int.lt_or_le 1580 a.toInt with h | h
  · refine yC_mono (fun r m q => ⟨a, Or.inr ⟨h, q.1, rfl⟩, q.2.1, frX_E q.2.2.2 (q.2.2.1.trans ea) hJ.2⟩) (h_feedr_c hJ.1 (by rw [ea]; exact h) (by omega))
  · refine yC_mono (fun r m q => ?_) (h_feed_c hJ.1 (by rw [ea]; exact h) (by omega))
    obtain ⟨⟨v, q1, q2, q3⟩, q4, q5⟩ := q
    rw [ea] at q2
    exact ⟨v, Or.inl ⟨h, q1, q2⟩, q4, E2_mk (EM_zq (fun k hk => q5.1 k (by omega) (by omega)) hJ.2.1.1) q3 ((gi_zq (q5.1 221 (by decide) (by decide))).trans hJ.2.1.2.2) (q5.1 191 (by decide) (by decide)) hJ.2⟩
theorem pm_feed (hd : 70 ≤ d) (hJ : JT a b mem) : yC zpg d 167 [.ref 221, .int a1, .int a2, .int a3, .int a4, .int a5] mem (fun r m => ∃ n' : Int32, fdA b r n' ∧ JT a n' m) := by
  have ea := hJ.2.1.2.2
  rcases Int.lt_or_le 1580 b.toInt with h | h
  · refine yC_mono (fun r m q => ⟨b, Or.inr ⟨h, q.1, rfl⟩, q.2.1, fr_E q.2.2.2 rfl rfl rfl rfl rfl rfl rfl rfl (q.2.2.1.trans ea) hJ.2⟩) (h_feedr_m hJ.1 (by rw [ea]; exact h) (by omega))
  · refine yC_mono (fun r m q => ?_) (h_feed_m hJ.1 (by rw [ea]; exact h) (by omega))
    obtain ⟨⟨v, q1, q2, q3⟩, q4, q5⟩ := q
    rw [ea] at q2
    exact ⟨v, Or.inl ⟨h, q1, q2⟩, q4, fr_E q5 rfl rfl rfl rfl rfl rfl rfl rfl q3 hJ.2⟩
/-- what end leaves -/
def enB (n x : Int32) (r : Option Value) (n' : Int32) : Prop := ((0 ≤ x.toInt ∧ x.toInt ≤ n.toInt) ∧ r = some (.int 1) ∧ n' = x) ∨ (¬ (0 ≤ x.toInt ∧ x.toInt ≤ n.toInt) ∧ r = some (.int 0) ∧ n' = n)
theorem enB_eq {n q x y : Int32} {r s : Option Value} (h : enB n q r x) (k : enB n q s y) : x = y ∧ r = s ∧ ∃ v : Int32, r = some (.int v) := by
  rcases h with ⟨h1, h2, h3⟩ | ⟨h1, h2, h3⟩ <;> rcases k with ⟨k1, k2, k3⟩ | ⟨k1, k2, k3⟩
  · exact ⟨by rw [h3, k3], by rw [h2, k2], _, h2⟩
  · exact absurd h1 k1
  · exact absurd k1 h1
  · exact ⟨by rw [h3, k3], by rw [h2, k2], _, h2⟩
theorem px_end (hd : 70 ≤ d) (hJ : JT a b mem) : yC zpg d 113 [.ref 0, .int a1] mem (fun r m => ∃ n' : Int32, enB a a1 r n' ∧ JT n' b m) := by
  have ea := hJ.2.1.2.1
  refine yC_mono (fun r m q => ?_) (h_end_c hJ.1 (by omega))
  obtain ⟨q1, q2, q3⟩ := q
  unfold enA at q1
  rw [ea] at q1
  rcases q1 with ⟨w1, w2, w3⟩ | ⟨w1, w2, w3⟩
  · exact ⟨a1, Or.inl ⟨w1, w2, rfl⟩, q2, frX_E q3 w3 hJ.2⟩
  · exact ⟨a, Or.inr ⟨w1, w2, rfl⟩, q2, frX_E q3 w3 hJ.2⟩
theorem pm_end (hd : 70 ≤ d) (hJ : JT a b mem) : yC zpg d 168 [.ref 221, .int a1] mem (fun r m => ∃ n' : Int32, enB b a1 r n' ∧ JT a n' m) := by
  have ea := hJ.2.1.2.2
  refine yC_mono (fun r m q => ?_) (h_end_m hJ.1 (by omega))
  obtain ⟨q1, q2, q3⟩ := q
  unfold enA at q1
  rw [ea] at q1
  rcases q1 with ⟨w1, w2, w3⟩ | ⟨w1, w2, w3⟩
  · exact ⟨a1, Or.inl ⟨w1, w2, rfl⟩, q2, fr_E q3 rfl rfl rfl rfl rfl rfl rfl rfl w3 hJ.2⟩
  · exact ⟨b, Or.inr ⟨w1, w2, rfl⟩, q2, fr_E q3 rfl rfl rfl rfl rfl rfl rfl rfl w3 hJ.2⟩
end PB
