/-! the public calls, with the tapes and the quays -/
section PB4
variable {d : Nat} {mem : zM} {a b a1 a2 a3 a4 a5 : Int32} {t u : List Int32} {Y Z : Qd}
set_option maxRecDepth 100000 in
theorem ux_fault (hd : 70 ≤ d) (hJ : J5 a b t u Y Z mem) : yC zpg d 115 [.ref 0, .int a1] mem (pbU a b t u Y Z) := pb5 (k0_X11_fault uH0) rfl (by omega) hJ ⟨tvX, tvI a1, trivial⟩
set_option maxRecDepth 100000 in
theorem um_fault (hd : 70 ≤ d) (hJ : J5 a b t u Y Z mem) : yC zpg d 207 [.ref 221, .int a1] mem (pbU a b t u Y Z) := pb5 (k9_X12_fault uH9) rfl (by omega) hJ ⟨tvM, tvI a1, trivial⟩
set_option maxRecDepth 100000 in
theorem ux_has (hd : 70 ≤ d) (hJ : J5 a b t u Y Z mem) : yC zpg d 116 [.ref 0, .int a1] mem (pbU a b t u Y Z) := pb5 (k0_X11_has uH0) rfl (by omega) hJ ⟨tvX, tvI a1, trivial⟩
set_option maxRecDepth 100000 in
theorem um_has (hd : 70 ≤ d) (hJ : J5 a b t u Y Z mem) : yC zpg d 239 [.ref 221, .int a1] mem (pbU a b t u Y Z) := pb5 (k9_X12_has uH9) rfl (by omega) hJ ⟨tvM, tvI a1, trivial⟩
set_option maxRecDepth 100000 in
theorem ux_letter (hd : 70 ≤ d) (hJ : J5 a b t u Y Z mem) : yC zpg d 117 [.ref 0, .int a1, .int a2, .int a3] mem (pbU a b t u Y Z) := pb5 (k0_X11_letter uH0) rfl (by omega) hJ ⟨tvX, tvI a1, tvI a2, tvI a3, trivial⟩
set_option maxRecDepth 100000 in
theorem um_letter (hd : 70 ≤ d) (hJ : J5 a b t u Y Z mem) : yC zpg d 240 [.ref 221, .int a1, .int a2, .int a3] mem (pbU a b t u Y Z) := yC_mono (fun r m q => by
  obtain ⟨x, e, -⟩ := aTr_i q.2.2
  exact ⟨q.1, x, e⟩) (h_letter hE5_0 (by omega) (wI_rf hJ))
set_option maxRecDepth 100000 in
theorem ux_cell (hd : 70 ≤ d) (hJ : J5 a b t u Y Z mem) : yC zpg d 118 [.ref 0, .int a1, .int a2, .int a3] mem (pbU a b t u Y Z) := pb5 (k0_X11_cell uH0) rfl (by omega) hJ ⟨tvX, tvI a1, tvI a2, tvI a3, trivial⟩
set_option maxRecDepth 100000 in
theorem um_cell (hd : 70 ≤ d) (hJ : J5 a b t u Y Z mem) : yC zpg d 241 [.ref 221, .int a1, .int a2, .int a3] mem (pbU a b t u Y Z) := pb5 (k9_X12_cell uH9) rfl (by omega) hJ ⟨tvM, tvI a1, tvI a2, tvI a3, trivial⟩
set_option maxRecDepth 100000 in
theorem ux_thing (hd : 70 ≤ d) (hJ : J5 a b t u Y Z mem) : yC zpg d 119 [.ref 0, .int a1, .int a2] mem (pbU a b t u Y Z) := pb5 (k0_X11_thing uH0) rfl (by omega) hJ ⟨tvX, tvI a1, tvI a2, trivial⟩
set_option maxRecDepth 100000 in
theorem um_thing (hd : 70 ≤ d) (hJ : J5 a b t u Y Z mem) : yC zpg d 243 [.ref 221, .int a1, .int a2] mem (pbU a b t u Y Z) := pb5 (k9_X12_thing uH9) rfl (by omega) hJ ⟨tvM, tvI a1, tvI a2, trivial⟩
set_option maxRecDepth 100000 in
theorem ux_folk (hd : 70 ≤ d) (hJ : J5 a b t u Y Z mem) : yC zpg d 120 [.ref 0, .int a1, .int a2] mem (pbU a b t u Y Z) := pb5 (k0_X11_folk uH0) rfl (by omega) hJ ⟨tvX, tvI a1, tvI a2, trivial⟩
set_option maxRecDepth 100000 in
theorem um_folk (hd : 70 ≤ d) (hJ : J5 a b t u Y Z mem) : yC zpg d 244 [.ref 221, .int a1, .int a2] mem (pbU a b t u Y Z) := pb5 (k9_X12_folk uH9) rfl (by omega) hJ ⟨tvM, tvI a1, tvI a2, trivial⟩
set_option maxRecDepth 100000 in
theorem ux_later (hd : 70 ≤ d) (hJ : J5 a b t u Y Z mem) : yC zpg d 121 [.ref 0, .int a1, .int a2, .int a3] mem (pbU a b t u Y Z) := pb5 (k0_X11_later uH0) rfl (by omega) hJ ⟨tvX, tvI a1, tvI a2, tvI a3, trivial⟩
set_option maxRecDepth 100000 in
theorem um_later (hd : 70 ≤ d) (hJ : J5 a b t u Y Z mem) : yC zpg d 247 [.ref 221, .int a1, .int a2, .int a3] mem (pbU a b t u Y Z) := pb5 (k9_X12_later uH9) rfl (by omega) hJ ⟨tvM, tvI a1, tvI a2, tvI a3, trivial⟩
set_option maxRecDepth 100000 in
theorem ux_home (hd : 70 ≤ d) (hJ : J5 a b t u Y Z mem) : yC zpg d 122 [.ref 0, .int a1] mem (pbU a b t u Y Z) := pb5 (k0_X11_home uH0) rfl (by omega) hJ ⟨tvX, tvI a1, trivial⟩
set_option maxRecDepth 100000 in
theorem um_home (hd : 70 ≤ d) (hJ : J5 a b t u Y Z mem) : yC zpg d 248 [.ref 221, .int a1] mem (pbU a b t u Y Z) := pb5 (k9_X12_home uH9) rfl (by omega) hJ ⟨tvM, tvI a1, trivial⟩
set_option maxRecDepth 100000 in
theorem ux_missing (hd : 70 ≤ d) (hJ : J5 a b t u Y Z mem) : yC zpg d 123 [.ref 0, .int a1, .int a2] mem (pbU a b t u Y Z) := pb5 (k0_X11_missing uH0) rfl (by omega) hJ ⟨tvX, tvI a1, tvI a2, trivial⟩
set_option maxRecDepth 100000 in
theorem um_missing (hd : 70 ≤ d) (hJ : J5 a b t u Y Z mem) : yC zpg d 249 [.ref 221, .int a1, .int a2] mem (pbU a b t u Y Z) := pb5 (k9_X12_missing uH9) rfl (by omega) hJ ⟨tvM, tvI a1, tvI a2, trivial⟩
set_option maxRecDepth 100000 in
theorem ux_losses (hd : 70 ≤ d) (hJ : J5 a b t u Y Z mem) : yC zpg d 124 [.ref 0, .int a1, .int a2] mem (pbU a b t u Y Z) := pb5 (k0_X11_losses uH0) rfl (by omega) hJ ⟨tvX, tvI a1, tvI a2, trivial⟩
set_option maxRecDepth 100000 in
theorem um_losses (hd : 70 ≤ d) (hJ : J5 a b t u Y Z mem) : yC zpg d 251 [.ref 221, .int a1, .int a2] mem (pbU a b t u Y Z) := pb5 (k9_X12_losses uH9) rfl (by omega) hJ ⟨tvM, tvI a1, tvI a2, trivial⟩
set_option maxRecDepth 100000 in
theorem ux_worst (hd : 70 ≤ d) (hJ : J5 a b t u Y Z mem) : yC zpg d 125 [.ref 0, .int a1, .int a2] mem (pbU a b t u Y Z) := pb5 (k0_X11_worst uH0) rfl (by omega) hJ ⟨tvX, tvI a1, tvI a2, trivial⟩
set_option maxRecDepth 100000 in
theorem um_worst (hd : 70 ≤ d) (hJ : J5 a b t u Y Z mem) : yC zpg d 252 [.ref 221, .int a1, .int a2] mem (pbU a b t u Y Z) := pb5 (k9_X12_worst uH9) rfl (by omega) hJ ⟨tvM, tvI a1, tvI a2, trivial⟩
set_option maxRecDepth 100000 in
theorem ux_cover (hd : 70 ≤ d) (hJ : J5 a b t u Y Z mem) : yC zpg d 126 [.ref 0] mem (pbU a b t u Y Z) := pb5 (k0_X11_cover uH0) rfl (by omega) hJ ⟨tvX, trivial⟩
set_option maxRecDepth 100000 in
theorem um_cover (hd : 70 ≤ d) (hJ : J5 a b t u Y Z mem) : yC zpg d 253 [.ref 221] mem (pbU a b t u Y Z) := pb5 (k9_X12_cover uH9) rfl (by omega) hJ ⟨tvM, trivial⟩
set_option maxRecDepth 100000 in
theorem ux_send (hd : 70 ≤ d) (hJ : J5 a b t u Y Z mem) : yC zpg d 127 [.ref 0, .int a1] mem (pbU a b t u Y Z) := pb5 (k0_X11_send uH0) rfl (by omega) hJ ⟨tvX, tvI a1, trivial⟩
set_option maxRecDepth 100000 in
theorem um_send (hd : 70 ≤ d) (hJ : J5 a b t u Y Z mem) : yC zpg d 257 [.ref 221, .int a1] mem (pbU a b t u Y Z) := pb5 (k9_X12_send uH9) rfl (by omega) hJ ⟨tvM, tvI a1, trivial⟩
set_option maxRecDepth 100000 in
theorem ux_odds (hd : 70 ≤ d) (hJ : J5 a b t u Y Z mem) : yC zpg d 128 [.ref 0, .int a1] mem (pbU a b t u Y Z) := pb5 (k0_X11_odds uH0) rfl (by omega) hJ ⟨tvX, tvI a1, trivial⟩
set_option maxRecDepth 100000 in
theorem um_odds (hd : 70 ≤ d) (hJ : J5 a b t u Y Z mem) : yC zpg d 258 [.ref 221, .int a1] mem (pbU a b t u Y Z) := pb5 (k9_X12_odds uH9) rfl (by omega) hJ ⟨tvM, tvI a1, trivial⟩
set_option maxRecDepth 100000 in
theorem ux_meet (hd : 70 ≤ d) (hJ : J5 a b t u Y Z mem) : yC zpg d 129 [.ref 0] mem (pbU 0 b t u Y Z) := by
  obtain ⟨d, rfl⟩ : ∃ q, d = q + 1 := ⟨d - 1, by omega⟩
  exact h_meet uNo uH0 uH7 (by omega) hJ.1 (J5_tk hJ)
set_option maxRecDepth 100000 in
theorem um_meet (hd : 70 ≤ d) (hJ : J5 a b t u Y Z mem) : yC zpg d 259 [.ref 221] mem (pbU a 0 t u Y Z) := yC_mono (fun r m q => by
  have j := J5_tm hJ
  exact ⟨⟨q.2.1, E4_5 (E4_mk (EM_of q.2.2.2.1 (ga_zq (q.2.2.1 223 rfl)) (ga_zq (q.2.2.1 224 rfl)) (ga_zq (q.2.2.1 236 rfl)) (ga_zq (q.2.2.1 237 rfl)) (ga_zq (q.2.2.1 238 rfl)) j.1.1.1.1) (mB_zat q.2.2.2.1 q.2.2.2.2.1 (fun k h1 h2 => q.2.2.1 k (nin_4 (by omega))) j.1.1.1.2) ((gi_zq (q.2.2.1 0 rfl)).trans j.1.1.2.1.1) (q.2.2.2.2.2.trans j.1.1.2.1.2) ((ga_zq (q.2.2.1 28 rfl)).trans j.1.1.2.2.1) ((ga_zq (q.2.2.1 1 rfl)).trans j.1.1.2.2.2.1) ((ga_zq (q.2.2.1 222 rfl)).trans j.1.1.2.2.2.2) (q.2.2.1 191 rfl) (E5_4 j)) (pQ_za (fun k hk => q.2.2.1 k (nin_4 (by omega))) j.1.2)⟩, q.1⟩) (h_meet_m hJ.1 (uZ _ hJ) (by omega))
set_option maxRecDepth 100000 in
theorem ux_hues (hd : 70 ≤ d) (hJ : J5 a b t u Y Z mem) : yC zpg d 130 [.ref 0, .int a1] mem (pbU a b t u Y Z) := pb5 (k0_X11_hues uH0) rfl (by omega) hJ ⟨tvX, tvI a1, trivial⟩
set_option maxRecDepth 100000 in
theorem um_hues (hd : 70 ≤ d) (hJ : J5 a b t u Y Z mem) : yC zpg d 261 [.ref 221, .int a1] mem (pbU a b t u Y Z) := pb5 (k9_X12_hues uH9) rfl (by omega) hJ ⟨tvM, tvI a1, trivial⟩
set_option maxRecDepth 100000 in
theorem ux_tells (hd : 70 ≤ d) (hJ : J5 a b t u Y Z mem) : yC zpg d 131 [.ref 0, .int a1, .int a2] mem (pbU a b t u Y Z) := pb5 (k0_X11_tells uH0) rfl (by omega) hJ ⟨tvX, tvI a1, tvI a2, trivial⟩
set_option maxRecDepth 100000 in
theorem um_tells (hd : 70 ≤ d) (hJ : J5 a b t u Y Z mem) : yC zpg d 263 [.ref 221, .int a1, .int a2] mem (pbU a b t u Y Z) := pb5 (k9_X12_tells uH9) rfl (by omega) hJ ⟨tvM, tvI a1, tvI a2, trivial⟩
set_option maxRecDepth 100000 in
theorem ux_nights (hd : 70 ≤ d) (hJ : J5 a b t u Y Z mem) : yC zpg d 132 [.ref 0, .int a1] mem (pbU a b t u Y Z) := pb5 (k0_X11_nights uH0) rfl (by omega) hJ ⟨tvX, tvI a1, trivial⟩
set_option maxRecDepth 100000 in
theorem um_nights (hd : 70 ≤ d) (hJ : J5 a b t u Y Z mem) : yC zpg d 264 [.ref 221, .int a1] mem (pbU a b t u Y Z) := pb5 (k9_X12_nights uH9) rfl (by omega) hJ ⟨tvM, tvI a1, trivial⟩
set_option maxRecDepth 100000 in
theorem ux_chance (hd : 70 ≤ d) (hJ : J5 a b t u Y Z mem) : yC zpg d 133 [.ref 0, .int a1] mem (pbU a b t u Y Z) := pb5 (k0_X11_chance uH0) rfl (by omega) hJ ⟨tvX, tvI a1, trivial⟩
set_option maxRecDepth 100000 in
theorem um_chance (hd : 70 ≤ d) (hJ : J5 a b t u Y Z mem) : yC zpg d 266 [.ref 221, .int a1] mem (pbU a b t u Y Z) := yC_mono (fun r m q => by
  obtain ⟨x, e, -⟩ := aTr_i q.2.2
  exact ⟨q.1, x, e⟩) (h_chance hE5_0 uH9 uH5 uQ uZ (by omega) (wI_rf hJ))
set_option maxRecDepth 100000 in
theorem ux_lose (hd : 70 ≤ d) (hJ : J5 a b t u Y Z mem) : yC zpg d 134 [.ref 0, .int a1] mem (pbU a b t u Y Z) := pb5 (k0_X11_lose uH0) rfl (by omega) hJ ⟨tvX, tvI a1, trivial⟩
set_option maxRecDepth 100000 in
theorem um_lose (hd : 70 ≤ d) (hJ : J5 a b t u Y Z mem) : yC zpg d 268 [.ref 221, .int a1] mem (pbU a b t u Y Z) := pb5 (k9_X12_lose uH9) rfl (by omega) hJ ⟨tvM, tvI a1, trivial⟩
set_option maxRecDepth 100000 in
theorem ux_find (hd : 70 ≤ d) (hJ : J5 a b t u Y Z mem) : yC zpg d 135 [.ref 0, .int a1] mem (pbU a b t u Y Z) := pb5 (k0_X11_find uH0) rfl (by omega) hJ ⟨tvX, tvI a1, trivial⟩
set_option maxRecDepth 100000 in
theorem um_find (hd : 70 ≤ d) (hJ : J5 a b t u Y Z mem) : yC zpg d 269 [.ref 221, .int a1] mem (pbU a b t u Y Z) := pb5 (k9_X12_find uH9) rfl (by omega) hJ ⟨tvM, tvI a1, trivial⟩
set_option maxRecDepth 100000 in
theorem ux_lead (hd : 70 ≤ d) (hJ : J5 a b t u Y Z mem) : yC zpg d 136 [.ref 0, .int a1, .int a2, .int a3] mem (pbU a b t u Y Z) := pb5 (k0_X11_lead uH0) rfl (by omega) hJ ⟨tvX, tvI a1, tvI a2, tvI a3, trivial⟩
set_option maxRecDepth 100000 in
theorem um_lead (hd : 70 ≤ d) (hJ : J5 a b t u Y Z mem) : yC zpg d 270 [.ref 221, .int a1, .int a2, .int a3] mem (pbU a b t u Y Z) := pb5 (k9_X12_lead uH9) rfl (by omega) hJ ⟨tvM, tvI a1, tvI a2, tvI a3, trivial⟩
set_option maxRecDepth 100000 in
theorem ux_undo (hd : 70 ≤ d) (hJ : J5 a b t u Y Z mem) : yC zpg d 137 [.ref 0] mem (pbU a b t u Y Z) := pb5 (k0_X11_undo uH0) rfl (by omega) hJ ⟨tvX, trivial⟩
set_option maxRecDepth 100000 in
theorem um_undo (hd : 70 ≤ d) (hJ : J5 a b t u Y Z mem) : yC zpg d 214 [.ref 221] mem (pbU a b t u Y Z) := pb5 (k9_X12_undo uH9) rfl (by omega) hJ ⟨tvM, trivial⟩
set_option maxRecDepth 100000 in
theorem ux_seed (hd : 70 ≤ d) (hJ : J5 a b t u Y Z mem) : yC zpg d 138 [.ref 0, .int a1] mem (pbU a b t u Y Z) := pb5 (k0_X11_seed uH0) rfl (by omega) hJ ⟨tvX, tvI a1, trivial⟩
set_option maxRecDepth 100000 in
theorem um_seed (hd : 70 ≤ d) (hJ : J5 a b t u Y Z mem) : yC zpg d 271 [.ref 221, .int a1] mem (pbU a b t u Y Z) := pb5 (k9_X12_seed uH9) rfl (by omega) hJ ⟨tvM, tvI a1, trivial⟩
set_option maxRecDepth 100000 in
theorem ux_kept (hd : 70 ≤ d) (hJ : J5 a b t u Y Z mem) : yC zpg d 139 [.ref 0, .int a1, .int a2] mem (pbU a b t u Y Z) := pb5 (k0_X11_kept uH0) rfl (by omega) hJ ⟨tvX, tvI a1, tvI a2, trivial⟩
set_option maxRecDepth 100000 in
theorem um_kept (hd : 70 ≤ d) (hJ : J5 a b t u Y Z mem) : yC zpg d 272 [.ref 221, .int a1, .int a2] mem (pbU a b t u Y Z) := pb5 (k9_X12_kept uH9) rfl (by omega) hJ ⟨tvM, tvI a1, tvI a2, trivial⟩
set_option maxRecDepth 100000 in
theorem ux_image (hd : 70 ≤ d) (hJ : J5 a b t u Y Z mem) : yC zpg d 140 [.ref 0] mem (pbU a b t u Y Z) := pb5 (k3_X11_image uH3) rfl (by omega) hJ ⟨tvX, trivial⟩
set_option maxRecDepth 100000 in
theorem um_image (hd : 70 ≤ d) (hJ : J5 a b t u Y Z mem) : yC zpg d 274 [.ref 221] mem (pbU a b t u Y Z) := pb5 (k5_X12_image uH5) rfl (by omega) hJ ⟨tvM, trivial⟩
set_option maxRecDepth 100000 in
theorem ux_octet (hd : 70 ≤ d) (hJ : J5 a b t u Y Z mem) : yC zpg d 141 [.ref 0, .int a1] mem (pbU a b t u Y Z) := pb5 (k0_X11_octet uH0) rfl (by omega) hJ ⟨tvX, tvI a1, trivial⟩
set_option maxRecDepth 100000 in
theorem um_octet (hd : 70 ≤ d) (hJ : J5 a b t u Y Z mem) : yC zpg d 275 [.ref 221, .int a1] mem (pbU a b t u Y Z) := pb5 (k9_X12_octet uH9) rfl (by omega) hJ ⟨tvM, tvI a1, trivial⟩
set_option maxRecDepth 100000 in
theorem ux_on (hd : 70 ≤ d) (hJ : J5 a b t u Y Z mem) : yC zpg d 142 [.ref 0] mem (pbU 0 b t u Y Z) := yC_mono (fun r m q => by
  have j := J5_tk hJ
  rw [tk0_si hJ.1] at j
  exact ⟨⟨q.2.1, frX_E5 (frK_X q.2.2) ((gi_zl (q.2.2.2 1 (by decide))).trans j.2.1.1.2.1.1) j.2⟩, q.1⟩) (h_on_c hJ.1 (by omega))
set_option maxRecDepth 100000 in
theorem um_on (hd : 70 ≤ d) (hJ : J5 a b t u Y Z mem) : yC zpg d 278 [.ref 221] mem (pbU a 0 t u Y Z) := yC_mono (fun r m q => ⟨q.2, q.1⟩) (h_on_m hE5_0 uH9 uZ hJ.1 (J5_tm hJ) (by omega))
set_option maxRecDepth 100000 in
theorem ux_status (hd : 70 ≤ d) (hJ : J5 a b t u Y Z mem) : yC zpg d 143 [.ref 0, .int a1] mem (pbU a b t u Y Z) := pb5 (k0_X11_status uH0) rfl (by omega) hJ ⟨tvX, tvI a1, trivial⟩
set_option maxRecDepth 100000 in
theorem um_status (hd : 70 ≤ d) (hJ : J5 a b t u Y Z mem) : yC zpg d 209 [.ref 221, .int a1] mem (pbU a b t u Y Z) := pb5 (k9_X12_status uH9) rfl (by omega) hJ ⟨tvM, tvI a1, trivial⟩
/-- the tape behind feed -/
noncomputable def fdT (n : Int32) (T : List Int32) (a1 a2 a3 a4 a5 : Int32) : List Int32 := if n.toInt ≤ 1580 then fwT T n.toInt a1 a2 a3 a4 a5 else T
theorem ux_feed (hd : 70 ≤ d) (hJ : J5 a b t u Y Z mem) : yC zpg d 112 [.ref 0, .int a1, .int a2, .int a3, .int a4, .int a5] mem (fun r m => ∃ n' : Int32, fdA a r n' ∧ J5 n' b (fdT a t a1 a2 a3 a4 a5) u Y Z m) := by
  have ea := hJ.2.1.1.2.1.1
  have et := hJ.2.1.1.2.2.2.1
  unfold fdT
  rcases Int.lt_or_le 1580 a.toInt with h | h
  · rw [if_neg (by omega)]
    refine yC_mono (fun r m q => ⟨a, Or.inr ⟨h, q.1, rfl⟩, q.2.1, frX_E5 q.2.2.2 (q.2.2.1.trans ea) hJ.2⟩) (h_feedr_c hJ.1 (by rw [ea]; exact h) (by omega))
  · rw [if_pos h]
    refine yC_mono (fun r m q => ?_) (yC_and (h_feed_c hJ.1 (by rw [ea]; exact h) (by omega)) (h_fe_x hJ.1 (by rw [ea]; exact h) (by omega)))
    obtain ⟨⟨⟨v, q1, q2, q3⟩, q4, q5, q7⟩, q6⟩ := q
    rw [ea] at q2
    rw [ea, et] at q6
    exact ⟨v, Or.inl ⟨h, q1, q2⟩, q4, E4_5 (E4_mk (EM_zq (fun k hk => q5 k (by omega) (by omega)) hJ.2.1.1.1.1) (mB_zat (gi_zq (q5 221 (by decide) (by decide))) (gi_zq (q5 221 (by decide) (by decide))) (fun k h1 h2 => q5 k (by omega) (by omega)) hJ.2.1.1.1.2) q3 ((gi_zq (q5 221 (by decide) (by decide))).trans hJ.2.1.1.2.1.2) ((ga_zq (q5 28 (by decide) (by decide))).trans hJ.2.1.1.2.2.1) q6 ((ga_zq (q5 222 (by decide) (by decide))).trans hJ.2.1.1.2.2.2.2) (q5 191 (by decide) (by decide)) (E5_4 hJ.2)) (pQ_zf (q7 4 (by decide)) (q7 5 (by decide)) (fun k hk => q5 k (by omega) (by omega)) hJ.2.1.2)⟩
theorem um_feed (hd : 70 ≤ d) (hJ : J5 a b t u Y Z mem) : yC zpg d 167 [.ref 221, .int a1, .int a2, .int a3, .int a4, .int a5] mem (fun r m => ∃ n' : Int32, fdA b r n' ∧ J5 a n' t (fdT b u a1 a2 a3 a4 a5) Y Z m) := by
  have ea := hJ.2.1.1.2.1.2
  have et := hJ.2.1.1.2.2.2.2
  unfold fdT
  rcases Int.lt_or_le 1580 b.toInt with h | h
  · rw [if_neg (by omega)]
    refine yC_mono (fun r m q => ⟨b, Or.inr ⟨h, q.1, rfl⟩, q.2.1, fr_E5 q.2.2.2 rfl rfl rfl (q.2.2.1.trans ea) hJ.2⟩) (h_feedr_m hJ.1 (by rw [ea]; exact h) (by omega))
  · rw [if_pos h]
    refine yC_mono (fun r m q => ?_) (yC_and (h_feed_m hJ.1 (by rw [ea]; exact h) (by omega)) (h_fe_m hJ.1 (by rw [ea]; exact h) (by omega)))
    obtain ⟨⟨⟨v, q1, q2, q3⟩, q4, q5⟩, q6⟩ := q
    rw [ea] at q2
    rw [ea, et] at q6
    have W : ∀ k, ¬ k = 221 → ¬ k = 222 → zat m k = zat mem k := fun k h1 h2 => q5.1 k h1 (by
      cases hc : [222].contains k with
      | false => rfl
      | true => exact absurd (List.mem_singleton.1 (List.contains_iff_mem.1 hc)) h2)
    exact ⟨v, Or.inl ⟨h, q1, q2⟩, q4, E4_5 (E4_mk (Em_fr q5 rfl rfl rfl rfl rfl rfl hJ.2.1.1.1.1) (mB_fr q5 rfl rfl rfl hJ.2.1.1.1.2) ((gi_zq (W 0 (by decide) (by decide))).trans hJ.2.1.1.2.1.1) q3 ((ga_zq (W 28 (by decide) (by decide))).trans hJ.2.1.1.2.2.1) ((ga_zq (W 1 (by decide) (by decide))).trans hJ.2.1.1.2.2.2.1) q6 (W 191 (by decide) (by decide)) (E5_4 hJ.2)) (pQ_za (fun k hk => W k (by omega) (by omega)) hJ.2.1.2)⟩
theorem ux_end (hd : 70 ≤ d) (hJ : J5 a b t u Y Z mem) : yC zpg d 113 [.ref 0, .int a1] mem (fun r m => ∃ n' : Int32, enB a a1 r n' ∧ J5 n' b t u Y Z m) := by
  have ea := hJ.2.1.1.2.1.1
  refine yC_mono (fun r m q => ?_) (h_end_c hJ.1 (by omega))
  obtain ⟨q1, q2, q3⟩ := q
  unfold enA at q1
  rw [ea] at q1
  rcases q1 with ⟨w1, w2, w3⟩ | ⟨w1, w2, w3⟩
  · exact ⟨a1, Or.inl ⟨w1, w2, rfl⟩, q2, frX_E5 q3 w3 hJ.2⟩
  · exact ⟨a, Or.inr ⟨w1, w2, rfl⟩, q2, frX_E5 q3 w3 hJ.2⟩
theorem um_end (hd : 70 ≤ d) (hJ : J5 a b t u Y Z mem) : yC zpg d 168 [.ref 221, .int a1] mem (fun r m => ∃ n' : Int32, enB b a1 r n' ∧ J5 a n' t u Y Z m) := by
  have ea := hJ.2.1.1.2.1.2
  refine yC_mono (fun r m q => ?_) (h_end_m hJ.1 (by omega))
  obtain ⟨q1, q2, q3⟩ := q
  unfold enA at q1
  rw [ea] at q1
  rcases q1 with ⟨w1, w2, w3⟩ | ⟨w1, w2, w3⟩
  · exact ⟨a1, Or.inl ⟨w1, w2, rfl⟩, q2, fr_E5 q3 rfl rfl rfl w3 hJ.2⟩
  · exact ⟨b, Or.inr ⟨w1, w2, rfl⟩, q2, fr_E5 q3 rfl rfl rfl w3 hJ.2⟩
/-- what a quay's reading leaves told: v: what was read, it was Y -/
def nxQ (v : Option (Int × Qd)) (Y Y' : Qd) (r : Option Value) : Prop := (∃ c : Int32, v = some (c.toInt, Y') ∧ r = some (.int c)) ∨ (v = none ∧ r = some (.int (-1)) ∧ Y' = Y)
theorem nxQ_eq {v : Option (Int × Qd)} {Y X X' : Qd} {r s : Option Value} (h : nxQ v Y X r) (k : nxQ v Y X' s) : X = X' ∧ r = s ∧ ∃ c : Int32, r = some (.int c) := by
  rcases h with ⟨c, h1, h2⟩ | ⟨h1, h2, h3⟩ <;> rcases k with ⟨e, k1, k2⟩ | ⟨k1, k2, k3⟩
  · have w := Option.some.inj (h1.symm.trans k1)
    have w1 : c.toInt = e.toInt := congrArg Prod.fst w
    have w2 : X = X' := congrArg Prod.snd w
    have w1 := Int32.toInt_inj.1 w1
    exact ⟨w2, by rw [h2, k2, w1], c, h2⟩
  · exact absurd (h1.symm.trans k1) (by intro z; cases z)
  · exact absurd (h1.symm.trans k1) (by intro z; cases z)
  · exact ⟨h3.trans k3.symm, by rw [h2, k2], _, h2⟩
theorem ux_quayA (hd : 70 ≤ d) (hJ : J5 a b t u Y Z mem) : yC zpg d 114 [.ref 0] mem (fun r m => ∃ Y', nxQ (sQua t a.toInt) Y Y' r ∧ J5 0 b t u Y' Z m) := by
  obtain ⟨d, rfl⟩ : ∃ q, d = q + 1 := ⟨d - 1, by omega⟩
  have j := J5_tk hJ
  refine yC_mono (fun r m q => ?_) (yC_and (h_quay hE4_0 uH1 uH6 (d := d) (by omega) hJ.1 ⟨j.1, E5_4 j.2⟩) (h_quaC hJ.1 hJ.2.1.1.2.2.1 hJ.2.1.2 (by omega)))
  obtain ⟨⟨q1, -⟩, q3⟩ := q
  rw [hJ.2.1.1.2.2.2.1, hJ.2.1.1.2.1.1] at q3
  rcases q3 with ⟨c, X, k1, k2, -, k4⟩ | ⟨k1, k2, k4⟩
  · exact ⟨X, Or.inl ⟨c, k1, k2⟩, q1.1, E4_5 q1.2 k4⟩
  · exact ⟨Y, Or.inr ⟨k1, k2, rfl⟩, q1.1, E4_5 q1.2 k4⟩
theorem vB_mB {m m' : zM} (hm : aTm aT0 m) (e : gi m' 221 13 = gi m 221 13) (e6 : gi m' 221 46 = gi m 221 46) (h : vB (gi m 221 13).toInt m' = vB (gi m 221 13).toInt m) (z : mB Z m) : mB Z m' := by
  have hb := mO_r13 hm
  have t9 := gR_228 hm (i := (gi m 221 13).toInt) hb.1 (by omega)
  have f6 := gR_233 hm (i := (gi m 221 13).toInt) hb.1 (by omega)
  have G : ∀ (k : Nat) (s i : Int), sBk k = s → k < 240 → 0 ≤ i → i < s → gn (ga m' k) (s * (gi m 221 13).toInt + i) = gn (ga m k) (s * (gi m 221 13).toInt + i) := fun k s i hs h1 h2 h3 => by
    subst hs
    have w := congrFun (congrFun h k) i
    unfold vB at w
    have c : 0 ≤ i ∧ i < sBk k := ⟨h2, h3⟩
    rw [if_pos c, if_pos c, if_pos h1, if_pos h1] at w
    exact w
  have L : ∀ (k : Nat) (s i : Int), sBk k = s → ¬ k < 240 → 0 ≤ i → i < s → (gl (gA m' k) (s * (gi m 221 13).toInt + i)).toInt = (gl (gA m k) (s * (gi m 221 13).toInt + i)).toInt := fun k s i hs h1 h2 h3 => by
    subst hs
    have w := congrFun (congrFun h k) i
    unfold vB at w
    have c : 0 ≤ i ∧ i < sBk k := ⟨h2, h3⟩
    rw [if_pos c, if_pos c, if_neg h1, if_neg h1] at w
    exact w
  have O : ∀ k : Nat, sBk k = 1 → k < 240 → gn (ga m' k) (gi m 221 13).toInt = gn (ga m k) (gi m 221 13).toInt := fun k h1 h2 => by
    have w := G k 1 0 h1 h2 (by decide) (by decide)
    rw [Int.one_mul, Int.add_zero] at w
    exact w
  unfold mB at z ⊢
  rw [e, e6]
  obtain ⟨⟨⟨z1, z2⟩, z3, z4, z5, z6, z7, z8, z9, z10⟩, zq⟩ := z
  refine ⟨?_, zq⟩
  have l4 := z4.1
  have l6 := z6.1
  refine ⟨⟨(O 223 rfl (by decide)).trans z1, (O 224 rfl (by decide)).trans z2⟩, fun c c0 c1 => ?_, ⟨(O 228 rfl (by decide)).trans z4.1, fun i x hx => ?_⟩, fun i i0 i1 => ?_, ⟨(O 233 rfl (by decide)).trans z6.1, fun i x hx => ?_⟩, fun w w0 w1 => ?_, ⟨z8.1, fun i x hx => ?_⟩, ⟨⟨(O 225 rfl (by decide)).trans z9.1.1, z9.1.2⟩, (O 226 rfl (by decide)).trans z9.2.1, z9.2.2⟩, fun w w0 w1 => ?_⟩
  · rw [G 227 64 c rfl (by decide) c0 c1]
    exact z3 c c0 c1
  · obtain ⟨y1, y2, y3⟩ := z4.2 i x hx
    have l1 := (List.getElem?_eq_some_iff.1 hx).1
    exact ⟨(L 240 9 i rfl (by decide) (by omega) (by omega)).trans y1, y2, (G 229 9 i rfl (by decide) (by omega) (by omega)).trans y3⟩
  · have w : (ga m' 232).getD (gi m 221 13).toInt.toNat 0 = (ga m 232).getD (gi m 221 13).toInt.toNat 0 := Int32.toInt_inj.1 (O 232 rfl (by decide))
    rw [w]
    exact z5 i i0 i1
  · obtain ⟨y1, y2, y3, y4⟩ := z6.2 i x hx
    have l1 := (List.getElem?_eq_some_iff.1 hx).1
    exact ⟨(L 241 6 i rfl (by decide) (by omega) (by omega)).trans y1, y2, (G 234 6 i rfl (by decide) (by omega) (by omega)).trans y3, (G 235 6 i rfl (by decide) (by omega) (by omega)).trans y4⟩
  · rw [G 236 3 w rfl (by decide) w0 w1]
    exact z7 w w0 w1
  · obtain ⟨⟨y1, y2⟩, y3, y4⟩ := z8.2 i x hx
    have l1 := (List.getElem?_eq_some_iff.1 hx).1
    have l2 := z8.1
    exact ⟨⟨(G 230 9 i rfl (by decide) (by omega) (by omega)).trans y1, y2⟩, (G 231 9 i rfl (by decide) (by omega) (by omega)).trans y3, y4⟩
  · obtain ⟨k1, k2⟩ := z10 w w0 w1
    refine ⟨fun c hc => ?_, k2⟩
    obtain ⟨⟨u1, u2, u3⟩, u4, u5⟩ := k1 c hc
    rw [G 236 3 w rfl (by decide) w0 w1, G 237 3 w rfl (by decide) w0 w1]
    refine ⟨⟨u1, u2, u3⟩, fun i hi => ?_, ?_⟩
    · rw [← u4 i hi]
      unfold cdAt
      rw [G 238 1600 _ rfl (by decide) (by omega) (by omega), G 239 1600 _ rfl (by decide) (by omega) (by omega)]
    · rw [← u5]
      refine hgt_ex (fun i i0 i1 => ?_)
      have w9 := G 238 1600 ((i : Int) - 1600 * (gi m 221 13).toInt) rfl (by decide) (by omega) (by omega)
      rw [show 1600 * (gi m 221 13).toInt + ((i : Int) - 1600 * (gi m 221 13).toInt) = (i : Int) by omega] at w9
      unfold gn at w9
      exact Int32.toInt_inj.1 w9
theorem um_quayA (hd : 70 ≤ d) (hJ : J5 a b t u Y Z mem) : yC zpg d 206 [.ref 221] mem (fun r m => ∃ Z', nxQ (sQua u b.toInt) Z Z' r ∧ J5 a 0 t u Y Z' m) := by
  refine yC_mono (fun r m q => ?_) (yC_and (h_quay_m hJ.1 hJ.2.1.1.1.1 (by omega)) (h_quaM hJ.1 (by omega)))
  obtain ⟨q, q3⟩ := q
  rw [hJ.2.1.1.2.2.2.2, hJ.2.1.1.2.1.2] at q3
  have F := q.2.2.2.1
  have K : ∀ Z', mB Z' m → J5 a 0 t u Y Z' m := fun Z' hz => ⟨q.2.1, E4_5 (E4_mk q.2.2.1 hz ((gi_zq (F 0 (by decide))).trans hJ.2.1.1.2.1.1) q.2.2.2.2 ((ga_zq (F 28 (by decide))).trans hJ.2.1.1.2.2.1) ((ga_zq (F 1 (by decide))).trans hJ.2.1.1.2.2.2.1) ((ga_zq (F 222 (by decide))).trans hJ.2.1.1.2.2.2.2) (F 191 (by decide)) (E5_4 hJ.2)) (pQ_za (fun k hk => F k (by omega)) hJ.2.1.2)⟩
  rcases q3 with ⟨c, X, k1, k2, kh, k4, k5⟩ | ⟨k1, k2, k3, k4, k5⟩
  · exact ⟨X, Or.inl ⟨c, k1, k2⟩, K X ⟨k4, Or.inl ⟨by rw [k5]; rfl, kh⟩⟩⟩
  · exact ⟨Z, Or.inr ⟨k1, k2, rfl⟩, K Z (vB_mB hJ.1 k4 k5 k3 hJ.2.1.1.1.2)⟩
theorem J5_n (hJ : J5 a b t u Y Z mem) : 0 ≤ a.toInt ∧ a.toInt ≤ 1600 := by
  have w := cO_r1 hJ.1
  rw [hJ.2.1.1.2.1.1] at w
  exact w
theorem J5_l (hJ : J5 a b t u Y Z mem) : t.length = 1600 ∧ u.length = 1800 := by
  have w := gl_1 hJ.1
  have v := gl_222 hJ.1
  rw [hJ.2.1.1.2.2.2.1] at w
  rw [hJ.2.1.1.2.2.2.2] at v
  exact ⟨w, v⟩
theorem fdT_sm (h : smT t u) (hJ : J5 a b t u Y Z mem) : smT (fdT a t a1 a2 a3 a4 a5) (fdT a u a1 a2 a3 a4 a5) := by
  have n := J5_n hJ
  have l := J5_l hJ
  unfold fdT
  by_cases w : a.toInt ≤ 1580
  · rw [if_pos w, if_pos w]
    exact sm_fw h n.1 w (by omega) (by omega)
  · rw [if_neg w, if_neg w]
    exact h
end PB4
