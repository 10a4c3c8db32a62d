/-! the public calls -/
section PB
variable {d : Nat} {mem : zM} {a1 a2 a3 a4 a5 : Int32}
set_option maxRecDepth 100000 in
theorem px_feed (hd : 70 ≤ d) (hJ : aJ (aΘ0 E0) mem) : yC zpg d 112 [.ref 0, .int a1, .int a2, .int a3, .int a4, .int a5] mem pbQ := pb6 (k6_X11_feed oH6) rfl (by omega) hJ ⟨tvX, tvI a1, tvI a2, tvI a3, tvI a4, tvI a5, trivial⟩
set_option maxRecDepth 100000 in
theorem pm_feed (hd : 70 ≤ d) (hJ : aJ (aΘ0 E0) mem) : yC zpg d 167 [.ref 221, .int a1, .int a2, .int a3, .int a4, .int a5] mem pbQ := pb6 (k6_X12_feed oH6) rfl (by omega) hJ ⟨tvM, tvI a1, tvI a2, tvI a3, tvI a4, tvI a5, trivial⟩
set_option maxRecDepth 100000 in
theorem px_end (hd : 70 ≤ d) (hJ : aJ (aΘ0 E0) mem) : yC zpg d 113 [.ref 0, .int a1] mem pbQ := pb6 (k6_X11_end oH6) rfl (by omega) hJ ⟨tvX, tvI a1, trivial⟩
set_option maxRecDepth 100000 in
theorem pm_end (hd : 70 ≤ d) (hJ : aJ (aΘ0 E0) mem) : yC zpg d 168 [.ref 221, .int a1] mem pbQ := pb6 (k6_X12_end oH6) rfl (by omega) hJ ⟨tvM, tvI a1, trivial⟩
set_option maxRecDepth 100000 in
theorem px_quay (hd : 70 ≤ d) (hJ : aJ (aΘ0 E0) mem) : yC zpg d 114 [.ref 0] mem pbQ := by
  obtain ⟨d, rfl⟩ : ∃ q, d = q + 1 := ⟨d - 1, by omega⟩
  exact h_quay hE0_0 oH1 oH6 (by omega) hJ
set_option maxRecDepth 100000 in
theorem pm_quay (hd : 70 ≤ d) (hJ : aJ (aΘ0 E0) mem) : yC zpg d 206 [.ref 221] mem pbQ := yC_mono (fun r m q => ⟨⟨q.2.1, E0_mk q.2.2.1 (q.2.2.2 191 (by decide)) hJ.2⟩, q.1⟩) (h_quay_m hJ.1 hJ.2.1 (by omega))
set_option maxRecDepth 100000 in
theorem px_fault (hd : 70 ≤ d) (hJ : aJ (aΘ0 E0) mem) : yC zpg d 115 [.ref 0, .int a1] mem pbQ := pb0 (k0_X11_fault oH0) rfl (by omega) hJ ⟨tvX, tvI a1, trivial⟩
set_option maxRecDepth 100000 in
theorem pm_fault (hd : 70 ≤ d) (hJ : aJ (aΘ0 E0) mem) : yC zpg d 207 [.ref 221, .int a1] mem pbQ := pb0 (k9_X12_fault oH9) rfl (by omega) hJ ⟨tvM, tvI a1, trivial⟩
set_option maxRecDepth 100000 in
theorem px_has (hd : 70 ≤ d) (hJ : aJ (aΘ0 E0) mem) : yC zpg d 116 [.ref 0, .int a1] mem pbQ := pb0 (k0_X11_has oH0) rfl (by omega) hJ ⟨tvX, tvI a1, trivial⟩
set_option maxRecDepth 100000 in
theorem pm_has (hd : 70 ≤ d) (hJ : aJ (aΘ0 E0) mem) : yC zpg d 239 [.ref 221, .int a1] mem pbQ := pb0 (k9_X12_has oH9) rfl (by omega) hJ ⟨tvM, tvI a1, trivial⟩
set_option maxRecDepth 100000 in
theorem px_letter (hd : 70 ≤ d) (hJ : aJ (aΘ0 E0) mem) : yC zpg d 117 [.ref 0, .int a1, .int a2, .int a3] mem pbQ := pb0 (k0_X11_letter oH0) rfl (by omega) hJ ⟨tvX, tvI a1, tvI a2, tvI a3, trivial⟩
set_option maxRecDepth 100000 in
theorem pm_letter (hd : 70 ≤ d) (hJ : aJ (aΘ0 E0) mem) : yC zpg d 240 [.ref 221, .int a1, .int a2, .int a3] mem pbQ := yC_mono (fun r m q => by
  obtain ⟨x, e, -⟩ := aTr_i q.2.2
  exact ⟨q.1, x, e⟩) (h_letter hE0_0 (by omega) (wI_rf hJ))
set_option maxRecDepth 100000 in
theorem px_cell (hd : 70 ≤ d) (hJ : aJ (aΘ0 E0) mem) : yC zpg d 118 [.ref 0, .int a1, .int a2, .int a3] mem pbQ := pb0 (k0_X11_cell oH0) rfl (by omega) hJ ⟨tvX, tvI a1, tvI a2, tvI a3, trivial⟩
set_option maxRecDepth 100000 in
theorem pm_cell (hd : 70 ≤ d) (hJ : aJ (aΘ0 E0) mem) : yC zpg d 241 [.ref 221, .int a1, .int a2, .int a3] mem pbQ := pb0 (k9_X12_cell oH9) rfl (by omega) hJ ⟨tvM, tvI a1, tvI a2, tvI a3, trivial⟩
set_option maxRecDepth 100000 in
theorem px_thing (hd : 70 ≤ d) (hJ : aJ (aΘ0 E0) mem) : yC zpg d 119 [.ref 0, .int a1, .int a2] mem pbQ := pb0 (k0_X11_thing oH0) rfl (by omega) hJ ⟨tvX, tvI a1, tvI a2, trivial⟩
set_option maxRecDepth 100000 in
theorem pm_thing (hd : 70 ≤ d) (hJ : aJ (aΘ0 E0) mem) : yC zpg d 243 [.ref 221, .int a1, .int a2] mem pbQ := pb0 (k9_X12_thing oH9) rfl (by omega) hJ ⟨tvM, tvI a1, tvI a2, trivial⟩
set_option maxRecDepth 100000 in
theorem px_folk (hd : 70 ≤ d) (hJ : aJ (aΘ0 E0) mem) : yC zpg d 120 [.ref 0, .int a1, .int a2] mem pbQ := pb0 (k0_X11_folk oH0) rfl (by omega) hJ ⟨tvX, tvI a1, tvI a2, trivial⟩
set_option maxRecDepth 100000 in
theorem pm_folk (hd : 70 ≤ d) (hJ : aJ (aΘ0 E0) mem) : yC zpg d 244 [.ref 221, .int a1, .int a2] mem pbQ := pb0 (k9_X12_folk oH9) rfl (by omega) hJ ⟨tvM, tvI a1, tvI a2, trivial⟩
set_option maxRecDepth 100000 in
theorem px_later (hd : 70 ≤ d) (hJ : aJ (aΘ0 E0) mem) : yC zpg d 121 [.ref 0, .int a1, .int a2, .int a3] mem pbQ := pb0 (k0_X11_later oH0) rfl (by omega) hJ ⟨tvX, tvI a1, tvI a2, tvI a3, trivial⟩
set_option maxRecDepth 100000 in
theorem pm_later (hd : 70 ≤ d) (hJ : aJ (aΘ0 E0) mem) : yC zpg d 247 [.ref 221, .int a1, .int a2, .int a3] mem pbQ := pb0 (k9_X12_later oH9) rfl (by omega) hJ ⟨tvM, tvI a1, tvI a2, tvI a3, trivial⟩
set_option maxRecDepth 100000 in
theorem px_home (hd : 70 ≤ d) (hJ : aJ (aΘ0 E0) mem) : yC zpg d 122 [.ref 0, .int a1] mem pbQ := pb0 (k0_X11_home oH0) rfl (by omega) hJ ⟨tvX, tvI a1, trivial⟩
set_option maxRecDepth 100000 in
theorem pm_home (hd : 70 ≤ d) (hJ : aJ (aΘ0 E0) mem) : yC zpg d 248 [.ref 221, .int a1] mem pbQ := pb0 (k9_X12_home oH9) rfl (by omega) hJ ⟨tvM, tvI a1, trivial⟩
set_option maxRecDepth 100000 in
theorem px_missing (hd : 70 ≤ d) (hJ : aJ (aΘ0 E0) mem) : yC zpg d 123 [.ref 0, .int a1, .int a2] mem pbQ := pb0 (k0_X11_missing oH0) rfl (by omega) hJ ⟨tvX, tvI a1, tvI a2, trivial⟩
set_option maxRecDepth 100000 in
theorem pm_missing (hd : 70 ≤ d) (hJ : aJ (aΘ0 E0) mem) : yC zpg d 249 [.ref 221, .int a1, .int a2] mem pbQ := pb0 (k9_X12_missing oH9) rfl (by omega) hJ ⟨tvM, tvI a1, tvI a2, trivial⟩
set_option maxRecDepth 100000 in
theorem px_losses (hd : 70 ≤ d) (hJ : aJ (aΘ0 E0) mem) : yC zpg d 124 [.ref 0, .int a1, .int a2] mem pbQ := pb0 (k0_X11_losses oH0) rfl (by omega) hJ ⟨tvX, tvI a1, tvI a2, trivial⟩
set_option maxRecDepth 100000 in
theorem pm_losses (hd : 70 ≤ d) (hJ : aJ (aΘ0 E0) mem) : yC zpg d 251 [.ref 221, .int a1, .int a2] mem pbQ := pb0 (k9_X12_losses oH9) rfl (by omega) hJ ⟨tvM, tvI a1, tvI a2, trivial⟩
set_option maxRecDepth 100000 in
theorem px_worst (hd : 70 ≤ d) (hJ : aJ (aΘ0 E0) mem) : yC zpg d 125 [.ref 0, .int a1, .int a2] mem pbQ := pb0 (k0_X11_worst oH0) rfl (by omega) hJ ⟨tvX, tvI a1, tvI a2, trivial⟩
set_option maxRecDepth 100000 in
theorem pm_worst (hd : 70 ≤ d) (hJ : aJ (aΘ0 E0) mem) : yC zpg d 252 [.ref 221, .int a1, .int a2] mem pbQ := pb0 (k9_X12_worst oH9) rfl (by omega) hJ ⟨tvM, tvI a1, tvI a2, trivial⟩
set_option maxRecDepth 100000 in
theorem px_cover (hd : 70 ≤ d) (hJ : aJ (aΘ0 E0) mem) : yC zpg d 126 [.ref 0] mem pbQ := pb0 (k0_X11_cover oH0) rfl (by omega) hJ ⟨tvX, trivial⟩
set_option maxRecDepth 100000 in
theorem pm_cover (hd : 70 ≤ d) (hJ : aJ (aΘ0 E0) mem) : yC zpg d 253 [.ref 221] mem pbQ := pb0 (k9_X12_cover oH9) rfl (by omega) hJ ⟨tvM, trivial⟩
set_option maxRecDepth 100000 in
theorem px_send (hd : 70 ≤ d) (hJ : aJ (aΘ0 E0) mem) : yC zpg d 127 [.ref 0, .int a1] mem pbQ := pb0 (k0_X11_send oH0) rfl (by omega) hJ ⟨tvX, tvI a1, trivial⟩
set_option maxRecDepth 100000 in
theorem pm_send (hd : 70 ≤ d) (hJ : aJ (aΘ0 E0) mem) : yC zpg d 257 [.ref 221, .int a1] mem pbQ := pb0 (k9_X12_send oH9) rfl (by omega) hJ ⟨tvM, tvI a1, trivial⟩
set_option maxRecDepth 100000 in
theorem px_odds (hd : 70 ≤ d) (hJ : aJ (aΘ0 E0) mem) : yC zpg d 128 [.ref 0, .int a1] mem pbQ := pb0 (k0_X11_odds oH0) rfl (by omega) hJ ⟨tvX, tvI a1, trivial⟩
set_option maxRecDepth 100000 in
theorem pm_odds (hd : 70 ≤ d) (hJ : aJ (aΘ0 E0) mem) : yC zpg d 258 [.ref 221, .int a1] mem pbQ := pb0 (k9_X12_odds oH9) rfl (by omega) hJ ⟨tvM, tvI a1, trivial⟩
set_option maxRecDepth 100000 in
theorem px_meet (hd : 70 ≤ d) (hJ : aJ (aΘ0 E0) mem) : yC zpg d 129 [.ref 0] mem pbQ := by
  obtain ⟨d, rfl⟩ : ∃ q, d = q + 1 := ⟨d - 1, by omega⟩
  exact h_meet oNo oH0 oH6 (by omega) hJ
set_option maxRecDepth 100000 in
theorem pm_meet (hd : 70 ≤ d) (hJ : aJ (aΘ0 E0) mem) : yC zpg d 259 [.ref 221] mem pbQ := yC_mono (fun r m q => ⟨⟨q.2.1, E0_mk (EM_of q.2.2.2.1 (ga_zq (q.2.2.1 223 rfl)) (ga_zq (q.2.2.1 224 rfl)) (ga_zq (q.2.2.1 236 rfl)) (ga_zq (q.2.2.1 237 rfl)) (ga_zq (q.2.2.1 238 rfl)) hJ.2.1) (q.2.2.1 191 rfl) hJ.2⟩, q.1⟩) (h_meet_m hJ.1 hJ.2.1.2 (by omega))
set_option maxRecDepth 100000 in
theorem px_hues (hd : 70 ≤ d) (hJ : aJ (aΘ0 E0) mem) : yC zpg d 130 [.ref 0, .int a1] mem pbQ := pb0 (k0_X11_hues oH0) rfl (by omega) hJ ⟨tvX, tvI a1, trivial⟩
set_option maxRecDepth 100000 in
theorem pm_hues (hd : 70 ≤ d) (hJ : aJ (aΘ0 E0) mem) : yC zpg d 261 [.ref 221, .int a1] mem pbQ := pb0 (k9_X12_hues oH9) rfl (by omega) hJ ⟨tvM, tvI a1, trivial⟩
set_option maxRecDepth 100000 in
theorem px_tells (hd : 70 ≤ d) (hJ : aJ (aΘ0 E0) mem) : yC zpg d 131 [.ref 0, .int a1, .int a2] mem pbQ := pb0 (k0_X11_tells oH0) rfl (by omega) hJ ⟨tvX, tvI a1, tvI a2, trivial⟩
set_option maxRecDepth 100000 in
theorem pm_tells (hd : 70 ≤ d) (hJ : aJ (aΘ0 E0) mem) : yC zpg d 263 [.ref 221, .int a1, .int a2] mem pbQ := pb0 (k9_X12_tells oH9) rfl (by omega) hJ ⟨tvM, tvI a1, tvI a2, trivial⟩
set_option maxRecDepth 100000 in
theorem px_nights (hd : 70 ≤ d) (hJ : aJ (aΘ0 E0) mem) : yC zpg d 132 [.ref 0, .int a1] mem pbQ := pb0 (k0_X11_nights oH0) rfl (by omega) hJ ⟨tvX, tvI a1, trivial⟩
set_option maxRecDepth 100000 in
theorem pm_nights (hd : 70 ≤ d) (hJ : aJ (aΘ0 E0) mem) : yC zpg d 264 [.ref 221, .int a1] mem pbQ := pb0 (k9_X12_nights oH9) rfl (by omega) hJ ⟨tvM, tvI a1, trivial⟩
set_option maxRecDepth 100000 in
theorem px_chance (hd : 70 ≤ d) (hJ : aJ (aΘ0 E0) mem) : yC zpg d 133 [.ref 0, .int a1] mem pbQ := pb0 (k0_X11_chance oH0) rfl (by omega) hJ ⟨tvX, tvI a1, trivial⟩
set_option maxRecDepth 100000 in
theorem pm_chance (hd : 70 ≤ d) (hJ : aJ (aΘ0 E0) mem) : yC zpg d 266 [.ref 221, .int a1] mem pbQ := yC_mono (fun r m q => by
  obtain ⟨x, e, -⟩ := aTr_i q.2.2
  exact ⟨q.1, x, e⟩) (h_chance hE0_0 oH9 oH5 oQ oZ (by omega) (wI_rf hJ))
set_option maxRecDepth 100000 in
theorem px_lose (hd : 70 ≤ d) (hJ : aJ (aΘ0 E0) mem) : yC zpg d 134 [.ref 0, .int a1] mem pbQ := pb0 (k0_X11_lose oH0) rfl (by omega) hJ ⟨tvX, tvI a1, trivial⟩
set_option maxRecDepth 100000 in
theorem pm_lose (hd : 70 ≤ d) (hJ : aJ (aΘ0 E0) mem) : yC zpg d 268 [.ref 221, .int a1] mem pbQ := pb0 (k9_X12_lose oH9) rfl (by omega) hJ ⟨tvM, tvI a1, trivial⟩
set_option maxRecDepth 100000 in
theorem px_find (hd : 70 ≤ d) (hJ : aJ (aΘ0 E0) mem) : yC zpg d 135 [.ref 0, .int a1] mem pbQ := pb0 (k0_X11_find oH0) rfl (by omega) hJ ⟨tvX, tvI a1, trivial⟩
set_option maxRecDepth 100000 in
theorem pm_find (hd : 70 ≤ d) (hJ : aJ (aΘ0 E0) mem) : yC zpg d 269 [.ref 221, .int a1] mem pbQ := pb0 (k9_X12_find oH9) rfl (by omega) hJ ⟨tvM, tvI a1, trivial⟩
set_option maxRecDepth 100000 in
theorem px_lead (hd : 70 ≤ d) (hJ : aJ (aΘ0 E0) mem) : yC zpg d 136 [.ref 0, .int a1, .int a2, .int a3] mem pbQ := pb0 (k0_X11_lead oH0) rfl (by omega) hJ ⟨tvX, tvI a1, tvI a2, tvI a3, trivial⟩
set_option maxRecDepth 100000 in
theorem pm_lead (hd : 70 ≤ d) (hJ : aJ (aΘ0 E0) mem) : yC zpg d 270 [.ref 221, .int a1, .int a2, .int a3] mem pbQ := pb0 (k9_X12_lead oH9) rfl (by omega) hJ ⟨tvM, tvI a1, tvI a2, tvI a3, trivial⟩
set_option maxRecDepth 100000 in
theorem px_undo (hd : 70 ≤ d) (hJ : aJ (aΘ0 E0) mem) : yC zpg d 137 [.ref 0] mem pbQ := pb0 (k0_X11_undo oH0) rfl (by omega) hJ ⟨tvX, trivial⟩
set_option maxRecDepth 100000 in
theorem pm_undo (hd : 70 ≤ d) (hJ : aJ (aΘ0 E0) mem) : yC zpg d 214 [.ref 221] mem pbQ := pb0 (k9_X12_undo oH9) rfl (by omega) hJ ⟨tvM, trivial⟩
set_option maxRecDepth 100000 in
theorem px_kept (hd : 70 ≤ d) (hJ : aJ (aΘ0 E0) mem) : yC zpg d 139 [.ref 0, .int a1, .int a2] mem pbQ := pb0 (k0_X11_kept oH0) rfl (by omega) hJ ⟨tvX, tvI a1, tvI a2, trivial⟩
set_option maxRecDepth 100000 in
theorem pm_kept (hd : 70 ≤ d) (hJ : aJ (aΘ0 E0) mem) : yC zpg d 272 [.ref 221, .int a1, .int a2] mem pbQ := pb0 (k9_X12_kept oH9) rfl (by omega) hJ ⟨tvM, tvI a1, tvI a2, trivial⟩
set_option maxRecDepth 100000 in
theorem px_image (hd : 70 ≤ d) (hJ : aJ (aΘ0 E0) mem) : yC zpg d 140 [.ref 0] mem pbQ := pb0 (k3_X11_image oH3) rfl (by omega) hJ ⟨tvX, trivial⟩
set_option maxRecDepth 100000 in
theorem pm_image (hd : 70 ≤ d) (hJ : aJ (aΘ0 E0) mem) : yC zpg d 274 [.ref 221] mem pbQ := pb0 (k5_X12_image oH5) rfl (by omega) hJ ⟨tvM, trivial⟩
set_option maxRecDepth 100000 in
theorem px_octet (hd : 70 ≤ d) (hJ : aJ (aΘ0 E0) mem) : yC zpg d 141 [.ref 0, .int a1] mem pbQ := pb0 (k0_X11_octet oH0) rfl (by omega) hJ ⟨tvX, tvI a1, trivial⟩
set_option maxRecDepth 100000 in
theorem pm_octet (hd : 70 ≤ d) (hJ : aJ (aΘ0 E0) mem) : yC zpg d 275 [.ref 221, .int a1] mem pbQ := pb0 (k9_X12_octet oH9) rfl (by omega) hJ ⟨tvM, tvI a1, trivial⟩
set_option maxRecDepth 100000 in
theorem px_on (hd : 70 ≤ d) (hJ : aJ (aΘ0 E0) mem) : yC zpg d 142 [.ref 0] mem pbQ := yC_mono (fun r m q => ⟨⟨q.2.1, frK_E q.2.2 hJ.2⟩, q.1⟩) (h_on_c hJ.1 (by omega))
set_option maxRecDepth 100000 in
theorem pm_on (hd : 70 ≤ d) (hJ : aJ (aΘ0 E0) mem) : yC zpg d 278 [.ref 221] mem pbQ := yC_mono (fun r m q => ⟨q.2, q.1⟩) (h_on_m hE0_0 oH9 oZ oN1 hJ (by omega))
set_option maxRecDepth 100000 in
theorem px_status (hd : 70 ≤ d) (hJ : aJ (aΘ0 E0) mem) : yC zpg d 143 [.ref 0, .int a1] mem pbQ := pb0 (k0_X11_status oH0) rfl (by omega) hJ ⟨tvX, tvI a1, trivial⟩
set_option maxRecDepth 100000 in
theorem pm_status (hd : 70 ≤ d) (hJ : aJ (aΘ0 E0) mem) : yC zpg d 209 [.ref 221, .int a1] mem pbQ := pb0 (k9_X12_status oH9) rfl (by omega) hJ ⟨tvM, tvI a1, trivial⟩
theorem px_seed (hd : 70 ≤ d) (hJ : aJ (aΘ0 E0) mem) : yC zpg d 138 [.ref 0, .int a1] mem (fun r m => aJ (aΘ0 E0) m ∧ sdA a1 r) := yC_mono (fun r m q => ⟨⟨q.2.1, frK_E q.2.2 hJ.2⟩, q.1⟩) (h_seed_c hJ.1 (by omega))
theorem pm_seed (hd : 70 ≤ d) (hJ : aJ (aΘ0 E0) mem) : yC zpg d 271 [.ref 221, .int a1] mem (fun r m => aJ (aΘ0 E0) m ∧ sdA a1 r) := yC_mono (fun r m q => ⟨⟨q.2.1, E0_mk (Em_fr q.2.2 rfl rfl rfl rfl rfl rfl hJ.2.1) (q.2.2.1 191 (by decide) rfl) hJ.2⟩, q.1⟩) (h_seed_m hJ.1 (by omega))
end PB
