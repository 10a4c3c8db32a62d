/-! the public calls, with the nights -/
section PBS
variable {d : Nat} {mem : zM} {a b a1 a2 a3 a4 a5 : Int32} {t u : List Int32} {Y Z : Qd} {N M : Nd}
theorem vx_fault (hd : 70 ≤ d) (hJ : J6 a b t u Y Z N M mem) : yC zpg d 115 [.ref 0, .int a1] mem (pb6 a b t u Y Z N M) := c6x hJ (ux_fault hd hJ.1) (ask8 (k82_X11_fault u82) (by omega) hJ.1.1 hJ.1.2.2 ⟨tvX, tvI a1, trivial⟩)
theorem vm_fault (hd : 70 ≤ d) (hJ : J6 a b t u Y Z N M mem) : yC zpg d 207 [.ref 221, .int a1] mem (pb6 a b t u Y Z N M) := m6 hJ (um_fault hd hJ.1) (ask9 (k83_X12_fault u83) (by omega) hJ.1.1 hJ.1.2.1.1.1.1 ⟨tvM, tvI a1, trivial⟩)
theorem vx_has (hd : 70 ≤ d) (hJ : J6 a b t u Y Z N M mem) : yC zpg d 116 [.ref 0, .int a1] mem (pb6 a b t u Y Z N M) := c6x hJ (ux_has hd hJ.1) (ask8 (k82_X11_has u82) (by omega) hJ.1.1 hJ.1.2.2 ⟨tvX, tvI a1, trivial⟩)
theorem vm_has (hd : 70 ≤ d) (hJ : J6 a b t u Y Z N M mem) : yC zpg d 239 [.ref 221, .int a1] mem (pb6 a b t u Y Z N M) := m6 hJ (um_has hd hJ.1) (ask9 (k83_X12_has u83) (by omega) hJ.1.1 hJ.1.2.1.1.1.1 ⟨tvM, tvI a1, trivial⟩)
theorem vx_letter (hd : 70 ≤ d) (hJ : J6 a b t u Y Z N M mem) : yC zpg d 117 [.ref 0, .int a1, .int a2, .int a3] mem (pb6 a b t u Y Z N M) := c6x hJ (ux_letter hd hJ.1) (ask8 (k82_X11_letter u82) (by omega) hJ.1.1 hJ.1.2.2 ⟨tvX, tvI a1, tvI a2, tvI a3, trivial⟩)
theorem vm_letter (hd : 70 ≤ d) (hJ : J6 a b t u Y Z N M mem) : yC zpg d 240 [.ref 221, .int a1, .int a2, .int a3] mem (pb6 a b t u Y Z N M) := yC_mono (fun r m q => by
  obtain ⟨⟨q1, q2⟩, e, -⟩ := q
  subst e
  exact ⟨⟨q1, hJ.2⟩, q2⟩) (yC_and (um_letter hd hJ.1) (h_ltm hJ.1.1 hJ.1.2.1.1.1.2.1 (by omega)))
theorem vx_cell (hd : 70 ≤ d) (hJ : J6 a b t u Y Z N M mem) : yC zpg d 118 [.ref 0, .int a1, .int a2, .int a3] mem (pb6 a b t u Y Z N M) := c6x hJ (ux_cell hd hJ.1) (ask8 (k82_X11_cell u82) (by omega) hJ.1.1 hJ.1.2.2 ⟨tvX, tvI a1, tvI a2, tvI a3, trivial⟩)
theorem vm_cell (hd : 70 ≤ d) (hJ : J6 a b t u Y Z N M mem) : yC zpg d 241 [.ref 221, .int a1, .int a2, .int a3] mem (pb6 a b t u Y Z N M) := m6 hJ (um_cell hd hJ.1) (ask9 (k83_X12_cell u83) (by omega) hJ.1.1 hJ.1.2.1.1.1.1 ⟨tvM, tvI a1, tvI a2, tvI a3, trivial⟩)
theorem vx_thing (hd : 70 ≤ d) (hJ : J6 a b t u Y Z N M mem) : yC zpg d 119 [.ref 0, .int a1, .int a2] mem (pb6 a b t u Y Z N M) := c6x hJ (ux_thing hd hJ.1) (ask8 (k82_X11_thing u82) (by omega) hJ.1.1 hJ.1.2.2 ⟨tvX, tvI a1, tvI a2, trivial⟩)
theorem vm_thing (hd : 70 ≤ d) (hJ : J6 a b t u Y Z N M mem) : yC zpg d 243 [.ref 221, .int a1, .int a2] mem (pb6 a b t u Y Z N M) := m6 hJ (um_thing hd hJ.1) (ask9 (k83_X12_thing u83) (by omega) hJ.1.1 hJ.1.2.1.1.1.1 ⟨tvM, tvI a1, tvI a2, trivial⟩)
theorem vx_folk (hd : 70 ≤ d) (hJ : J6 a b t u Y Z N M mem) : yC zpg d 120 [.ref 0, .int a1, .int a2] mem (pb6 a b t u Y Z N M) := c6x hJ (ux_folk hd hJ.1) (ask8 (k82_X11_folk u82) (by omega) hJ.1.1 hJ.1.2.2 ⟨tvX, tvI a1, tvI a2, trivial⟩)
theorem vm_folk (hd : 70 ≤ d) (hJ : J6 a b t u Y Z N M mem) : yC zpg d 244 [.ref 221, .int a1, .int a2] mem (pb6 a b t u Y Z N M) := m6 hJ (um_folk hd hJ.1) (ask9 (k83_X12_folk u83) (by omega) hJ.1.1 hJ.1.2.1.1.1.1 ⟨tvM, tvI a1, tvI a2, trivial⟩)
theorem vx_later (hd : 70 ≤ d) (hJ : J6 a b t u Y Z N M mem) : yC zpg d 121 [.ref 0, .int a1, .int a2, .int a3] mem (pb6 a b t u Y Z N M) := c6x hJ (ux_later hd hJ.1) (ask8 (k82_X11_later u82) (by omega) hJ.1.1 hJ.1.2.2 ⟨tvX, tvI a1, tvI a2, tvI a3, trivial⟩)
theorem vm_later (hd : 70 ≤ d) (hJ : J6 a b t u Y Z N M mem) : yC zpg d 247 [.ref 221, .int a1, .int a2, .int a3] mem (pb6 a b t u Y Z N M) := m6w hJ (um_later hd hJ.1) (yC_mono (fun _ _ q => WF_1 q) (h_la hJ.1.1 hJ.1.2.1.1.1.2 hJ.2.2.2.1 hJ.2.2.1.1 hJ.2.2.2.2.1 (okN_H hJ.2.2.2) hJ.2.2.1.2.1 (by omega)))
theorem vx_home (hd : 70 ≤ d) (hJ : J6 a b t u Y Z N M mem) : yC zpg d 122 [.ref 0, .int a1] mem (pb6 a b t u Y Z N M) := c6x hJ (ux_home hd hJ.1) (ask8 (k82_X11_home u82) (by omega) hJ.1.1 hJ.1.2.2 ⟨tvX, tvI a1, trivial⟩)
theorem vm_home (hd : 70 ≤ d) (hJ : J6 a b t u Y Z N M mem) : yC zpg d 248 [.ref 221, .int a1] mem (pb6 a b t u Y Z N M) := m6w hJ (um_home hd hJ.1) (yC_mono (fun _ _ q => WF_1 q) (h_hm hJ.1.1 hJ.1.2.1.1.1.2 hJ.2.2.2.1 hJ.2.2.1.1 hJ.2.2.2.2.1 (okN_H hJ.2.2.2) hJ.2.2.1.2.1 (by omega)))
theorem vx_missing (hd : 70 ≤ d) (hJ : J6 a b t u Y Z N M mem) : yC zpg d 123 [.ref 0, .int a1, .int a2] mem (pb6 a b t u Y Z N M) := c6x hJ (ux_missing hd hJ.1) (ask8 (k82_X11_missing u82) (by omega) hJ.1.1 hJ.1.2.2 ⟨tvX, tvI a1, tvI a2, trivial⟩)
theorem vm_missing (hd : 70 ≤ d) (hJ : J6 a b t u Y Z N M mem) : yC zpg d 249 [.ref 221, .int a1, .int a2] mem (pb6 a b t u Y Z N M) := m6w hJ (um_missing hd hJ.1) (yC_mono (fun _ _ q => WF_1 q) (h_mi hJ.1.1 hJ.1.2.1.1.1.2 hJ.2.2.2.1 hJ.2.2.1.1 hJ.2.2.2.2.1 (okN_H hJ.2.2.2) hJ.2.2.1.2.1 (by omega)))
theorem vx_losses (hd : 70 ≤ d) (hJ : J6 a b t u Y Z N M mem) : yC zpg d 124 [.ref 0, .int a1, .int a2] mem (pb6 a b t u Y Z N M) := c6x hJ (ux_losses hd hJ.1) (ask8 (k82_X11_losses u82) (by omega) hJ.1.1 hJ.1.2.2 ⟨tvX, tvI a1, tvI a2, trivial⟩)
theorem vm_losses (hd : 70 ≤ d) (hJ : J6 a b t u Y Z N M mem) : yC zpg d 251 [.ref 221, .int a1, .int a2] mem (pb6 a b t u Y Z N M) := m6w hJ (um_losses hd hJ.1) (h_ls hJ.1.1 hJ.1.2.1.1.1.2 hJ.2.2.2.1 hJ.2.2.1.1 hJ.2.2.2.2.1 (okN_H hJ.2.2.2) hJ.2.2.1.2.1 (by omega))
theorem vx_worst (hd : 70 ≤ d) (hJ : J6 a b t u Y Z N M mem) : yC zpg d 125 [.ref 0, .int a1, .int a2] mem (pb6 a b t u Y Z N M) := c6x hJ (ux_worst hd hJ.1) (ask8 (k82_X11_worst u82) (by omega) hJ.1.1 hJ.1.2.2 ⟨tvX, tvI a1, tvI a2, trivial⟩)
theorem vm_worst (hd : 70 ≤ d) (hJ : J6 a b t u Y Z N M mem) : yC zpg d 252 [.ref 221, .int a1, .int a2] mem (pb6 a b t u Y Z N M) := m6w hJ (um_worst hd hJ.1) (h_wo hJ.1.1 hJ.1.2.1.1.1.2 hJ.2.2.2.1 hJ.2.2.1.1 hJ.2.2.2.2.1 (okN_H hJ.2.2.2) hJ.2.2.1.2.1 (by omega))
theorem vx_cover (hd : 70 ≤ d) (hJ : J6 a b t u Y Z N M mem) : yC zpg d 126 [.ref 0] mem (pb6 a b t u Y Z N M) := c6x hJ (ux_cover hd hJ.1) (ask8 (k82_X11_cover u82) (by omega) hJ.1.1 hJ.1.2.2 ⟨tvX, trivial⟩)
theorem vm_cover (hd : 70 ≤ d) (hJ : J6 a b t u Y Z N M mem) : yC zpg d 253 [.ref 221] mem (pb6 a b t u Y Z N M) := m6 hJ (um_cover hd hJ.1) (ask9 (k83_X12_cover u83) (by omega) hJ.1.1 hJ.1.2.1.1.1.1 ⟨tvM, trivial⟩)
theorem vx_send (hd : 70 ≤ d) (hJ : J6 a b t u Y Z N M mem) : yC zpg d 127 [.ref 0, .int a1] mem (pb6 a b t u Y Z N M) := c6x hJ (ux_send hd hJ.1) (ask8 (k82_X11_send u82) (by omega) hJ.1.1 hJ.1.2.2 ⟨tvX, tvI a1, trivial⟩)
theorem vm_send (hd : 70 ≤ d) (hJ : J6 a b t u Y Z N M mem) : yC zpg d 257 [.ref 221, .int a1] mem (pb6 a b t u Y Z N M) := m6 hJ (um_send hd hJ.1) (ask9 (k83_X12_send u83) (by omega) hJ.1.1 hJ.1.2.1.1.1.1 ⟨tvM, tvI a1, trivial⟩)
theorem vx_odds (hd : 70 ≤ d) (hJ : J6 a b t u Y Z N M mem) : yC zpg d 128 [.ref 0, .int a1] mem (pb6 a b t u Y Z N M) := c6x hJ (ux_odds hd hJ.1) (ask8 (k82_X11_odds u82) (by omega) hJ.1.1 hJ.1.2.2 ⟨tvX, tvI a1, trivial⟩)
theorem vm_odds (hd : 70 ≤ d) (hJ : J6 a b t u Y Z N M mem) : yC zpg d 258 [.ref 221, .int a1] mem (pb6 a b t u Y Z N M) := m6w hJ (um_odds hd hJ.1) (h_od hJ.1.1 hJ.1.2.1.1.1.2 hJ.2.2.2.1 hJ.2.2.1.1 hJ.2.2.2.2.1 (okN_H hJ.2.2.2) hJ.2.2.1.2.1 (by omega))
theorem vx_meet (hd : 70 ≤ d) (hJ : J6 a b t u Y Z N M mem) : yC zpg d 129 [.ref 0] mem (pb6 0 b t u Y Z N M) := c6 hJ (ux_meet hd hJ.1) (ask10 (k84_X11_meet u84) (by omega) hJ.1.1 ⟨tvX, trivial⟩)
theorem vm_meet (hd : 70 ≤ d) (hJ : J6 a b t u Y Z N M mem) : yC zpg d 259 [.ref 221] mem (pb6 a 0 t u Y Z N M) := yC_mono (fun r m q => by
  obtain ⟨⟨q1, q2⟩, -, -, s1, s2⟩ := q
  have W : ∀ k, ([221, 248, 264, 265, 266] : List Nat).contains k = false → zat m k = zat mem k := fun k hk => (s1.1 k hk).trans (zat_sv_ne (fun e => by rw [← e] at hk; cases hk))
  have U : ∀ i, ¬ i = 66 → ¬ i = 1 → zfl m 221 i = zfl mem 221 i := fun i h1 h2 => (s2 i h1).trans (zfl_sv_ne (fun e => h2 e.2.symm))
  exact ⟨J6_m hJ q1 (fun k hk => W k (nin_l (fun x hx => by
    simp at hx
    omega))) (mN_z (fun k h1 h2 => W k (nin_l (fun x hx => by
    simp at hx
    omega))) (fun i hi => U i (by omega) (by omega))), q2⟩) (yC_and (um_meet hd hJ.1) (h_meet_n hJ.1.1 hJ.1.2.1.1.1.1.2 (by omega)))
theorem vx_hues (hd : 70 ≤ d) (hJ : J6 a b t u Y Z N M mem) : yC zpg d 130 [.ref 0, .int a1] mem (pb6 a b t u Y Z N M) := c6x hJ (ux_hues hd hJ.1) (ask8 (k82_X11_hues u82) (by omega) hJ.1.1 hJ.1.2.2 ⟨tvX, tvI a1, trivial⟩)
theorem vm_hues (hd : 70 ≤ d) (hJ : J6 a b t u Y Z N M mem) : yC zpg d 261 [.ref 221, .int a1] mem (pb6 a b t u Y Z N M) := m6w hJ (um_hues hd hJ.1) (h_hs hJ.1.1 hJ.1.2.1.1.1.2 hJ.2.2.2.1 hJ.2.2.1.1 hJ.2.2.2.2.1 (okN_H hJ.2.2.2) hJ.2.2.1.2.1 (fun _ _ _ => rfl) (by omega))
theorem vx_tells (hd : 70 ≤ d) (hJ : J6 a b t u Y Z N M mem) : yC zpg d 131 [.ref 0, .int a1, .int a2] mem (pb6 a b t u Y Z N M) := c6x hJ (ux_tells hd hJ.1) (ask8 (k82_X11_tells u82) (by omega) hJ.1.1 hJ.1.2.2 ⟨tvX, tvI a1, tvI a2, trivial⟩)
theorem vm_tells (hd : 70 ≤ d) (hJ : J6 a b t u Y Z N M mem) : yC zpg d 263 [.ref 221, .int a1, .int a2] mem (pb6 a b t u Y Z N M) := m6w hJ (um_tells hd hJ.1) (h_te hJ.1.1 hJ.1.2.1.1.1.2 hJ.2.2.2.1 hJ.2.2.1.1 hJ.2.2.2.2.1 (okN_H hJ.2.2.2) hJ.2.2.1.2.1 (fun _ _ _ => rfl) (by omega))
theorem vx_kept (hd : 70 ≤ d) (hJ : J6 a b t u Y Z N M mem) : yC zpg d 139 [.ref 0, .int a1, .int a2] mem (pb6 a b t u Y Z N M) := c6x hJ (ux_kept hd hJ.1) (ask8 (k82_X11_kept u82) (by omega) hJ.1.1 hJ.1.2.2 ⟨tvX, tvI a1, tvI a2, trivial⟩)
theorem vm_kept (hd : 70 ≤ d) (hJ : J6 a b t u Y Z N M mem) : yC zpg d 272 [.ref 221, .int a1, .int a2] mem (pb6 a b t u Y Z N M) := m6 hJ (um_kept hd hJ.1) (ask9 (k83_X12_kept u83) (by omega) hJ.1.1 hJ.1.2.1.1.1.1 ⟨tvM, tvI a1, tvI a2, trivial⟩)
theorem vx_image (hd : 70 ≤ d) (hJ : J6 a b t u Y Z N M mem) : yC zpg d 140 [.ref 0] mem (pb6 a b t u Y Z N M) := c6x hJ (ux_image hd hJ.1) (ask8 (k81_X11_image u81) (by omega) hJ.1.1 hJ.1.2.2 ⟨tvX, trivial⟩)
theorem vm_image (hd : 70 ≤ d) (hJ : J6 a b t u Y Z N M mem) : yC zpg d 274 [.ref 221] mem (pb6 a b t u Y Z N M) := m6 hJ (um_image hd hJ.1) (ask9 (k83_X12_image u83) (by omega) hJ.1.1 hJ.1.2.1.1.1.1 ⟨tvM, trivial⟩)
theorem vx_octet (hd : 70 ≤ d) (hJ : J6 a b t u Y Z N M mem) : yC zpg d 141 [.ref 0, .int a1] mem (pb6 a b t u Y Z N M) := c6x hJ (ux_octet hd hJ.1) (ask8 (k82_X11_octet u82) (by omega) hJ.1.1 hJ.1.2.2 ⟨tvX, tvI a1, trivial⟩)
theorem vm_octet (hd : 70 ≤ d) (hJ : J6 a b t u Y Z N M mem) : yC zpg d 275 [.ref 221, .int a1] mem (pb6 a b t u Y Z N M) := m6 hJ (um_octet hd hJ.1) (ask9 (k83_X12_octet u83) (by omega) hJ.1.1 hJ.1.2.1.1.1.1 ⟨tvM, tvI a1, trivial⟩)
theorem vx_status (hd : 70 ≤ d) (hJ : J6 a b t u Y Z N M mem) : yC zpg d 143 [.ref 0, .int a1] mem (pb6 a b t u Y Z N M) := c6x hJ (ux_status hd hJ.1) (ask8 (k82_X11_status u82) (by omega) hJ.1.1 hJ.1.2.2 ⟨tvX, tvI a1, trivial⟩)
theorem vm_status (hd : 70 ≤ d) (hJ : J6 a b t u Y Z N M mem) : yC zpg d 209 [.ref 221, .int a1] mem (pb6 a b t u Y Z N M) := m6 hJ (um_status hd hJ.1) (ask9 (k83_X12_status u83) (by omega) hJ.1.1 hJ.1.2.1.1.1.1 ⟨tvM, tvI a1, trivial⟩)
theorem vx_feed (hd : 70 ≤ d) (hJ : J6 a b t u Y Z N M mem) : yC zpg d 112 [.ref 0, .int a1, .int a2, .int a3, .int a4, .int a5] mem (fun r m => ∃ n' : Int32, fdA a r n' ∧ J6 n' b (fdT a t a1 a2 a3 a4 a5) u Y Z N M m) := yC_mono (fun r m q => by
  obtain ⟨⟨n', q1, q2⟩, q3⟩ := q
  exact ⟨n', q1, J6_c hJ q2 q3⟩) (yC_and (ux_feed hd hJ.1) (h_fdc hJ.1.1 (by omega)))
theorem vm_feed (hd : 70 ≤ d) (hJ : J6 a b t u Y Z N M mem) : yC zpg d 167 [.ref 221, .int a1, .int a2, .int a3, .int a4, .int a5] mem (fun r m => ∃ n' : Int32, fdA b r n' ∧ J6 a n' t (fdT b u a1 a2 a3 a4 a5) Y Z N M m) := yC_mono (fun r m q => by
  obtain ⟨⟨n', q1, q2⟩, q3⟩ := q
  exact ⟨n', q1, J6_m hJ q2 (fr_lo q3 rfl) (fr_N q3 rfl rfl rfl rfl)⟩) (yC_and (um_feed hd hJ.1) (h_fdm hJ.1.1 (by omega)))
theorem vx_end (hd : 70 ≤ d) (hJ : J6 a b t u Y Z N M mem) : yC zpg d 113 [.ref 0, .int a1] mem (fun r m => ∃ n' : Int32, enB a a1 r n' ∧ J6 n' b t u Y Z N M m) := yC_mono (fun r m q => by
  obtain ⟨⟨n', q1, q2⟩, q3⟩ := q
  exact ⟨n', q1, J6_c hJ q2 q3⟩) (yC_and (ux_end hd hJ.1) (ask10 (k84_X11_end u84) (by omega) hJ.1.1 ⟨tvX, tvI a1, trivial⟩))
theorem vm_end (hd : 70 ≤ d) (hJ : J6 a b t u Y Z N M mem) : yC zpg d 168 [.ref 221, .int a1] mem (fun r m => ∃ n' : Int32, enB b a1 r n' ∧ J6 a n' t u Y Z N M m) := yC_mono (fun r m q => by
  obtain ⟨⟨n', q1, q2⟩, q3⟩ := q
  exact ⟨n', q1, J6_m hJ q2 (fr_lo q3 rfl) (fr_N q3 rfl rfl rfl rfl)⟩) (yC_and (um_end hd hJ.1) (yC_mono (fun _ _ q => q.2.2) (h_end_m hJ.1.1 (by omega))))
/-- what a quay's reading leaves -/
def quR (v : Option (Int × Qd)) (Y Y' : Qd) (N N' : Nd) (r : Option Value) : Prop := (∃ c : Int32, v = some (c.toInt, Y') ∧ r = some (.int c) ∧ N' = (fsS Y', K0, P00, N.2.2.2)) ∨ (v = none ∧ r = some (.int (-1)) ∧ Y' = Y ∧ N' = N)
theorem quR_eq {v : Option (Int × Qd)} {X X' : Qd} {N1 N2 : Nd} {r s : Option Value} (h : quR v Y X N N1 r) (k : quR v Y X' N N2 s) : X = X' ∧ N1 = N2 ∧ r = s ∧ ∃ c : Int32, r = some (.int c) := by
  rcases h with ⟨c, h1, h2, h3⟩ | ⟨h1, h2, h3, h4⟩ <;> rcases k with ⟨e, k1, k2, k3⟩ | ⟨k1, k2, k3, k4⟩
  · have w := Option.some.inj (h1.symm.trans k1)
    have w1 : c.toInt = e.toInt := congrArg Prod.fst w
    have w2 : X = X' := congrArg Prod.snd w
    have w1 := Int32.toInt_inj.1 w1
    subst w2
    exact ⟨rfl, h3.trans k3.symm, by rw [h2, k2, w1], c, h2⟩
  · exact absurd (h1.symm.trans k1) (by intro z; cases z)
  · exact absurd (h1.symm.trans k1) (by intro z; cases z)
  · exact ⟨h3.trans k3.symm, h4.trans k4.symm, by rw [h2, k2], _, h2⟩
theorem vx_quay (hd : 70 ≤ d) (hJ : J6 a b t u Y Z N M mem) : yC zpg d 114 [.ref 0] mem (fun r m => ∃ Y' N', quR (sQua t a.toInt) Y Y' N N' r ∧ J6 0 b t u Y' Z N' M m) := by
  have eT := hJ.1.2.1.1.2.2.2.1
  have eN := hJ.1.2.1.1.2.1.1
  have n0 := cO_r1 hJ.1.1
  rw [eN] at n0
  refine yC_mono (fun r m q => ?_) (yC_and (ux_quayA hd hJ.1) (h_quaE hJ.1.1 hJ.1.2.1.1.2.2.1 hJ.1.2.1.2 hJ.2.1.1.2.2.2.2.1 (by omega)))
  obtain ⟨⟨Y', q1, q2⟩, -, q3⟩ := q
  rw [eT, eN] at q3
  rcases q1 with ⟨c, e1, e2⟩ | ⟨e1, e2, e3⟩ <;> rcases q3 with ⟨c2, Q, k1, k2, k3⟩ | ⟨k1, k2, k3⟩
  · have w := Option.some.inj (e1.symm.trans k1)
    have w2 : Y' = Q := congrArg Prod.snd w
    subst w2
    have W := sQua_W n0.1 e1
    exact ⟨Y', _, Or.inl ⟨c, e1, e2, rfl⟩, q2, ⟨cN_new q2.1 k3.1 k3.2.1 k3.2.2.1 k3.2.2.2.1 k3.2.2.2.2.2.1 k3.2.2.2.2.2.2.1 hJ.2.1.1, okN_0 W (fsS_w W) hJ.2.1.2.2.2.2⟩, mN_hi (fun k h1 _ => k3.2.2.2.2.1 k h1) hJ.2.2.1, hJ.2.2.2⟩
  · exact absurd (e1.symm.trans k1) (by intro z; cases z)
  · exact absurd (e1.symm.trans k1) (by intro z; cases z)
  · subst e3
    exact ⟨Y', N, Or.inr ⟨e1, e2, rfl, rfl⟩, J6_c hJ q2 ⟨k3.1, fun k h1 _ => k3.2.1 k h1, k3.2.2.1⟩⟩
theorem vm_quay (hd : 70 ≤ d) (hJ : J6 a b t u Y Z N M mem) : yC zpg d 206 [.ref 221] mem (fun r m => ∃ Z' M', quR (sQua u b.toInt) Z Z' M M' r ∧ J6 a 0 t u Y Z' N M' m) := by
  have eT := hJ.1.2.1.1.2.2.2.2
  have eN := hJ.1.2.1.1.2.1.2
  have n0 := mO_r1 hJ.1.1
  rw [eN] at n0
  refine yC_mono (fun r m q => ?_) (yC_and (um_quayA hd hJ.1) (h_quaN hJ.1.1 (by omega)))
  obtain ⟨⟨Z', q1, q2⟩, -, q3⟩ := q
  rw [eT, eN] at q3
  rcases q1 with ⟨c, e1, e2⟩ | ⟨e1, e2, e3⟩ <;> rcases q3 with ⟨c2, Q, k1, k2, k3, k4, k5, k6, k7, k8⟩ | ⟨k1, k2, k3, k4, k5⟩
  · have w := Option.some.inj (e1.symm.trans k1)
    have w2 : Z' = Q := congrArg Prod.snd w
    subst w2
    have W := sQua_W n0.1 e1
    exact ⟨Z', _, Or.inl ⟨c, e1, e2, rfl⟩, q2, ⟨cN_lo (fun k hk => k6 k (Or.inl hk)) hJ.2.1.1, hJ.2.1.2⟩, mN_new q2.1 (k3 W) k4 (by rw [k5]; rfl) k8 hJ.2.2.1, okN_0 W (fsS_w W) hJ.2.2.2.2.2.2⟩
  · exact absurd (e1.symm.trans k1) (by intro z; cases z)
  · exact absurd (e1.symm.trans k1) (by intro z; cases z)
  · subst e3
    exact ⟨Z', M, Or.inr ⟨e1, e2, rfl, rfl⟩, J6_m hJ q2 (fun k hk => k3 k (Or.inl hk)) (mN_z (fun k h1 h2 => k3 k (Or.inr ⟨h1, h2⟩)) (fun i hi => by
      rcases hi with rfl | rfl | rfl
      · exact k4.1
      · exact k4.2.1
      · exact k4.2.2))⟩
theorem wal_gn {m : zM} {c : Int} (hb : 0 ≤ (gi m 221 13).toInt) (c0 : 0 ≤ c) : wal m c ↔ gn (ga m 227) (64 * (gi m 221 13).toInt + c) = 1 := by
  unfold wal gn bkN
  rw [show (64 * (gi m 221 13).toInt + c).toNat = 64 * (gi m 221 13).toInt.toNat + c.toNat by omega]
theorem um_onA (hd : 70 ≤ d) (hJ : J5 a b t u Y Z mem) : yC zpg d 278 [.ref 221] mem (fun r m => J5 a 0 t u Y Z m ∧ ∃ v : Int32, r = some (.int v) ∧ imA u b.toInt Z v.toInt) := by
  have mb := hJ.2.1.1.1.2
  have rb := mO_r13 hJ.1
  refine yC_mono (fun r m q => ?_) (yC_and (um_on hd hJ) (h_onM (T := u) (Z := Z) hE5_0 uH9 uZ hJ.1 (J5_tm hJ) ⟨hJ.2.1.1.2.2.2.2, mb.1.1.1, mb.1.1.2, fun c c0 c1 => (wal_gn rb.1 c0).trans (mb.1.2.1 c c0 c1), mb.1.2.2.1.1, mb.1.2.2.2.2.1.1⟩ ?_ (by omega)))
  · have w := q.2
    rw [hJ.2.1.1.2.1.2] at w
    exact ⟨q.1.1, w⟩
  · rcases mb.2 with w | w
    · have w2 := w.2.1.1
      exact Or.inl ⟨by omega, by omega⟩
    · exact Or.inr w
theorem vx_on (hd : 70 ≤ d) (hJ : J6 a b t u Y Z N M mem) : yC zpg d 142 [.ref 0] mem (fun r m => ∃ N', acR (imK t a.toInt Y) 1 0 N N' (onN t Y, K0, P00, N.2.2.2) r ∧ J6 0 b t u Y Z N' M m) := by
  have eT := hJ.1.2.1.1.2.2.2.1
  have eN := hJ.1.2.1.1.2.1.1
  have W := hJ.2.1.2.1
  have rT : ∀ i, 0 ≤ i → i < 100 → 0 ≤ gn t i ∧ gn t i ≤ 255 := fun i i0 i1 => by
    rw [← eT]
    exact gR_1 hJ.1.1 i0 (by omega)
  refine yC_mono (fun r m q => ?_) (yC_and (ux_on hd hJ.1) (h_oe hJ.1.1 hJ.1.2.1.2 W hJ.2.1.1.2.2.2.2.1 (by omega)))
  obtain ⟨⟨q1, -⟩, -, q3⟩ := q
  rw [eT, eN] at q3
  rcases q3 with ⟨k1, k2, k3⟩ | ⟨k1, k2, k3⟩
  · exact ⟨_, Or.inl ⟨k1, ⟨1, k2, rfl⟩, rfl⟩, q1, ⟨cN_new q1.1 (onN_c W k3.1) k3.2.1 k3.2.2.1 k3.2.2.2.1 k3.2.2.2.2.2.1 k3.2.2.2.2.2.2 hJ.2.1.1, okN_0 W (onN_w W (onS_w W rT k1)) hJ.2.1.2.2.2.2⟩, mN_hi (fun k h1 _ => k3.2.2.2.2.1 k (by omega)) hJ.2.2.1, hJ.2.2.2⟩
  · exact ⟨N, Or.inr ⟨k1, k2, rfl⟩, J6_c hJ q1 ⟨k3.1, fun k h1 _ => k3.2.1 k h1, k3.2.2.1⟩⟩
theorem vm_on (hd : 70 ≤ d) (hJ : J6 a b t u Y Z N M mem) : yC zpg d 278 [.ref 221] mem (fun r m => ∃ M', acR (imK u b.toInt Z) 1 0 M M' (onN u Z, K0, P00, M.2.2.2) r ∧ J6 a 0 t u Y Z N M' m) := by
  have eT := hJ.1.2.1.1.2.2.2.2
  have W := hJ.2.2.2.1
  have rT : ∀ i, 0 ≤ i → i < 100 → 0 ≤ gn u i ∧ gn u i ≤ 255 := fun i i0 i1 => by
    rw [← eT]
    exact gR_222 hJ.1.1 i0 (by omega)
  refine yC_mono (fun r m q => ?_) (yC_and (um_onA hd hJ.1) (h_onZ hJ.1.1 hJ.1.2.1.1.1.2 W hJ.2.2.1.1 hJ.2.2.1.2.1 hJ.2.2.1.2.2.1 (by omega)))
  obtain ⟨⟨q1, v, e1, e2⟩, -, q3, q4, q5⟩ := q
  rw [eT] at q3
  have z0 : (0 : Int32).toInt = 0 := rfl
  have z1 : (1 : Int32).toInt = 1 := rfl
  rcases q3 with ⟨k1, k2, k3, k4, k5⟩ | ⟨k1, k2, k3, k4, k5⟩
  · have ev : v = 1 := by
      have w := e1.symm.trans k1
      cases w
      rfl
    rcases e2 with ⟨w1, w2⟩ | ⟨w1, w2⟩
    · exact ⟨_, Or.inl ⟨w1, ⟨1, k1, rfl⟩, rfl⟩, q1, ⟨cN_lo q4 hJ.2.1.1, hJ.2.1.2⟩, ⟨onN_m W k2, k3, k4, by rw [gL_zf q5]; exact hJ.2.2.1.2.2.2⟩, okN_0 W (onN_w W (onS_w W rT w1)) hJ.2.2.2.2.2.2⟩
    · exfalso
      rw [ev] at w2
      omega
  · have ev : v = 0 := by
      have w := e1.symm.trans k1
      cases w
      rfl
    rcases e2 with ⟨w1, w2⟩ | ⟨w1, w2⟩
    · exfalso
      rw [ev] at w2
      omega
    · exact ⟨M, Or.inr ⟨w1, k1, rfl⟩, q1, ⟨cN_lo q4 hJ.2.1.1, hJ.2.1.2⟩, ⟨k2, k3, k4, by rw [gL_zf q5]; exact hJ.2.2.1.2.2.2⟩, hJ.2.2.2⟩
theorem vx_seed (hd : 70 ≤ d) (hJ : J6 a b t u Y Z N M mem) : yC zpg d 138 [.ref 0, .int a1] mem (fun r m => ∃ N', acR (0 ≤ a1.toInt) 1 0 N N' (N.1, N.2.1, N.2.2.1, a1.toInt) r ∧ J6 a b t u Y Z N' M m) := by
  refine yC_mono (fun r m q => ?_) (yC_and (ux_seed hd hJ.1) (h_sdc hJ.1.1 (by omega)))
  obtain ⟨⟨q1, -⟩, q3⟩ := q
  have i1 := i32_b a1
  rcases q3 with ⟨k1, k2, k3, k4⟩ | ⟨k1, k2, k3⟩
  · exact ⟨_, Or.inl ⟨k1, ⟨1, k2, rfl⟩, rfl⟩, q1, ⟨cN_x (fun k _ _ => k4 k (by omega)) (by rw [k3]) hJ.2.1.1, hJ.2.1.2.1, hJ.2.1.2.2.1, hJ.2.1.2.2.2.1, k1, by show a1.toInt < 2147483648; omega⟩, mN_hi (fun k _ _ => k4 k (by omega)) hJ.2.2.1, hJ.2.2.2⟩
  · exact ⟨N, Or.inr ⟨k1, k2, rfl⟩, J6_c hJ q1 (rfX_Y k3)⟩
theorem vm_seed (hd : 70 ≤ d) (hJ : J6 a b t u Y Z N M mem) : yC zpg d 271 [.ref 221, .int a1] mem (fun r m => ∃ M', acR (0 ≤ a1.toInt) 1 0 M M' (M.1, M.2.1, M.2.2.1, a1.toInt) r ∧ J6 a b t u Y Z N M' m) := by
  refine yC_mono (fun r m q => ?_) (yC_and (um_seed hd hJ.1) (h_sdm hJ.1.1 (by omega)))
  obtain ⟨⟨q1, -⟩, q3⟩ := q
  have i1 := i32_b a1
  rcases q3 with ⟨k1, k2, k3, k4⟩ | ⟨k1, k2, k3⟩
  · exact ⟨_, Or.inl ⟨k1, ⟨1, k2, rfl⟩, rfl⟩, q1, ⟨cN_lo (fr_lo k4 rfl) hJ.2.1.1, hJ.2.1.2⟩, mN_x (fr_mid k4 rfl) (fun i hi => by
      rcases hi with rfl | rfl
      · exact k4.2 _ rfl
      · exact k4.2 _ rfl) k3 hJ.2.2.1, hJ.2.2.2.1, hJ.2.2.2.2.1, hJ.2.2.2.2.2.1, k1, by show a1.toInt < 2147483648; omega⟩
  · exact ⟨M, Or.inr ⟨k1, k2, rfl⟩, J6_m hJ q1 (rfX_M (Z := Z) (M := M) k3).1 (rfX_M k3).2⟩

theorem vx_lose (hd : 70 ≤ d) (hJ : J6 a b t u Y Z N M mem) : yC zpg d 134 [.ref 0, .int a1] mem (fun r m => ∃ N', acR (loN Y N.1 a1.toInt) (1) 0 N N' (tnS N.1 a1, kpP N.2.1 (Sn N.1, a1.toInt, btI (Sm N.1) a1.toInt), pdN N.2.2.1 (N.1, N.2.1), N.2.2.2) r ∧ J6 a b t u Y Z N' M m) := by
  refine acC hJ (fun w => okN_F hJ.2.1.2 (tnS_w hJ.2.1.2.1 hJ.2.1.2.2.1 w.1.1 w.1.2) hJ.2.1.2.2.2.2) (ux_lose hd hJ.1) (ask12 (k86_X11_lose u86) (by omega) hJ.1.1 hJ.2.1.1.2.2.2.2 ⟨tvX, tvI a1, trivial⟩) ?_
  have hP := hJ.1.2.1.2
  have H : yC zpg d 134 [.ref 0, .int a1] mem (fun r m => aTm aT0 m ∧ ((loN Y N.1 a1.toInt ∧ r = some (.int 1) ∧ (∀ k, ¬ (31 ≤ k ∧ k ≤ 180) → zat m k = zat mem k) ∧ tS 31 Y (huA Y) (tnS N.1 a1) m ∧ kC 34 (kpP N.2.1 (Sn N.1, a1.toInt, btI (Sm N.1) a1.toInt)) m ∧ rgC Y (huA Y) (pdN N.2.2.1 (N.1, N.2.1)) m) ∨ (¬ loN Y N.1 a1.toInt ∧ r = some (.int 0) ∧ rfX 220 3 mem m))) := by
    rcases hP with h | h
    · exact h_loA hJ.1.1 h.1 h.2.2.2 hJ.2.1.2.1 hJ.2.1.1.1 hJ.2.1.2.2.1 hJ.2.1.1.2.1 hJ.2.1.1.2.2.1 (by omega)
    · exact h_loB hJ.1.1 h.1 h.2.2.2 hJ.2.1.2.1 hJ.2.1.1.1 hJ.2.1.2.2.1 hJ.2.1.1.2.1 hJ.2.1.1.2.2.1 (by omega)
  refine yC_mono (fun r m q => ?_) H
  obtain ⟨-, q⟩ := q
  rcases q with ⟨e1, e2, e3, e4, e5, e6⟩ | ⟨e1, e2, e3⟩
  · exact Or.inl ⟨e1, ⟨1, e2, rfl⟩, fun k hk => e3 k (by omega), e4, e5, e6, by rw [gi_zq (e3 0 (by decide))]; exact hJ.2.1.1.2.2.2.1⟩
  · exact Or.inr ⟨e1, e2, _, e3⟩
theorem vm_lose (hd : 70 ≤ d) (hJ : J6 a b t u Y Z N M mem) : yC zpg d 268 [.ref 221, .int a1] mem (fun r m => ∃ M', acR (loN Z M.1 a1.toInt) (1) 0 M M' (tnS M.1 a1, kpP M.2.1 (Sn M.1, a1.toInt, btI (Sm M.1) a1.toInt), pdN M.2.2.1 (M.1, M.2.1), M.2.2.2) r ∧ J6 a b t u Y Z N M' m) := by
  refine acM hJ (fun w => okN_F hJ.2.2.2 (tnS_w hJ.2.2.2.1 hJ.2.2.2.2.1 w.1.1 w.1.2) hJ.2.2.2.2.2.2) (um_lose hd hJ.1) ?_
  refine yC_mono (fun r m q => ?_) (h_ml hJ.1.1 hJ.1.2.1.1.1.2 hJ.2.2.2.1 hJ.2.2.1.1 hJ.2.2.2.2.1 hJ.2.2.1.2.1 hJ.2.2.1.2.2.1 (by omega))
  obtain ⟨-, q⟩ := q
  rcases q with ⟨e1, e2, e3, e4, -, e5, e6, e7⟩ | ⟨e1, e2, e3⟩
  · exact Or.inl ⟨e1, ⟨1, e2, rfl⟩, e3, e5, e6, e7, by rw [gL_zf (e4 56 (by decide) (by decide))]; exact hJ.2.2.1.2.2.2⟩
  · exact Or.inr ⟨e1, e2, _, e3⟩
theorem vx_find (hd : 70 ≤ d) (hJ : J6 a b t u Y Z N M mem) : yC zpg d 135 [.ref 0, .int a1] mem (fun r m => ∃ N', acR (fiN Y N.1 a1.toInt) (1) 0 N N' (tnS N.1 a1, kpP N.2.1 (Sn N.1, a1.toInt, btI (Sm N.1) a1.toInt), pdN N.2.2.1 (N.1, N.2.1), N.2.2.2) r ∧ J6 a b t u Y Z N' M m) := by
  refine acC hJ (fun w => okN_F hJ.2.1.2 (tnS_w hJ.2.1.2.1 hJ.2.1.2.2.1 w.1.1 w.1.2) hJ.2.1.2.2.2.2) (ux_find hd hJ.1) (ask12 (k86_X11_find u86) (by omega) hJ.1.1 hJ.2.1.1.2.2.2.2 ⟨tvX, tvI a1, trivial⟩) ?_
  have hP := hJ.1.2.1.2
  have H : yC zpg d 135 [.ref 0, .int a1] mem (fun r m => aTm aT0 m ∧ ((fiN Y N.1 a1.toInt ∧ r = some (.int 1) ∧ (∀ k, ¬ (31 ≤ k ∧ k ≤ 180) → zat m k = zat mem k) ∧ tS 31 Y (huA Y) (tnS N.1 a1) m ∧ kC 34 (kpP N.2.1 (Sn N.1, a1.toInt, btI (Sm N.1) a1.toInt)) m ∧ rgC Y (huA Y) (pdN N.2.2.1 (N.1, N.2.1)) m) ∨ (¬ fiN Y N.1 a1.toInt ∧ r = some (.int 0) ∧ rfX 220 3 mem m))) := by
    rcases hP with h | h
    · exact h_fiA hJ.1.1 h.1 h.2.2.2 hJ.2.1.2.1 hJ.2.1.1.1 hJ.2.1.2.2.1 hJ.2.1.1.2.1 hJ.2.1.1.2.2.1 (by omega)
    · exact h_fiB hJ.1.1 h.1 h.2.2.2 hJ.2.1.2.1 hJ.2.1.1.1 hJ.2.1.2.2.1 hJ.2.1.1.2.1 hJ.2.1.1.2.2.1 (by omega)
  refine yC_mono (fun r m q => ?_) H
  obtain ⟨-, q⟩ := q
  rcases q with ⟨e1, e2, e3, e4, e5, e6⟩ | ⟨e1, e2, e3⟩
  · exact Or.inl ⟨e1, ⟨1, e2, rfl⟩, fun k hk => e3 k (by omega), e4, e5, e6, by rw [gi_zq (e3 0 (by decide))]; exact hJ.2.1.1.2.2.2.1⟩
  · exact Or.inr ⟨e1, e2, _, e3⟩
theorem vm_find (hd : 70 ≤ d) (hJ : J6 a b t u Y Z N M mem) : yC zpg d 269 [.ref 221, .int a1] mem (fun r m => ∃ M', acR (fiN Z M.1 a1.toInt) (1) 0 M M' (tnS M.1 a1, kpP M.2.1 (Sn M.1, a1.toInt, btI (Sm M.1) a1.toInt), pdN M.2.2.1 (M.1, M.2.1), M.2.2.2) r ∧ J6 a b t u Y Z N M' m) := by
  refine acM hJ (fun w => okN_F hJ.2.2.2 (tnS_w hJ.2.2.2.1 hJ.2.2.2.2.1 w.1.1 w.1.2) hJ.2.2.2.2.2.2) (um_find hd hJ.1) ?_
  refine yC_mono (fun r m q => ?_) (h_mf hJ.1.1 hJ.1.2.1.1.1.2 hJ.2.2.2.1 hJ.2.2.1.1 hJ.2.2.2.2.1 hJ.2.2.1.2.1 hJ.2.2.1.2.2.1 (by omega))
  obtain ⟨-, q⟩ := q
  rcases q with ⟨e1, e2, e3, e4, -, e5, e6, e7⟩ | ⟨e1, e2, e3⟩
  · exact Or.inl ⟨e1, ⟨1, e2, rfl⟩, e3, e5, e6, e7, by rw [gL_zf (e4 56 (by decide) (by decide))]; exact hJ.2.2.1.2.2.2⟩
  · exact Or.inr ⟨e1, e2, _, e3⟩
theorem vx_lead (hd : 70 ≤ d) (hJ : J6 a b t u Y Z N M mem) : yC zpg d 136 [.ref 0, .int a1, .int a2, .int a3] mem (fun r m => ∃ N', acR (leN Y N.1 a1.toInt a2.toInt a3.toInt) (1) 0 N N' (ldS N.1 a1.toInt (8 * a3.toInt + a2.toInt), N.2.1, pdN N.2.2.1 (N.1, N.2.1), N.2.2.2) r ∧ J6 a b t u Y Z N' M m) := by
  refine acC hJ (fun w => okN_F hJ.2.1.2 (ldS_w hJ.2.1.2.1 hJ.2.1.2.2.1 w) hJ.2.1.2.2.2.2) (ux_lead hd hJ.1) (ask12 (k86_X11_lead u86) (by omega) hJ.1.1 hJ.2.1.1.2.2.2.2 ⟨tvX, tvI a1, tvI a2, tvI a3, trivial⟩) ?_
  have hP := hJ.1.2.1.2
  have H : yC zpg d 136 [.ref 0, .int a1, .int a2, .int a3] mem (fun r m => aTm aT0 m ∧ ((leN Y N.1 a1.toInt a2.toInt a3.toInt ∧ r = some (.int 1) ∧ (∀ k, ¬ (31 ≤ k ∧ k ≤ 180) → zat m k = zat mem k) ∧ tS 31 Y (huA Y) (ldS N.1 a1.toInt (8 * a3.toInt + a2.toInt)) m ∧ kC 34 N.2.1 m ∧ rgC Y (huA Y) (pdN N.2.2.1 (N.1, N.2.1)) m) ∨ (¬ leN Y N.1 a1.toInt a2.toInt a3.toInt ∧ r = some (.int 0) ∧ rfX 220 3 mem m))) := by
    rcases hP with h | h
    · exact h_leA hJ.1.1 h.1 h.2.2.2 hJ.2.1.2.1 hJ.2.1.1.1 hJ.2.1.2.2.1 hJ.2.1.1.2.1 hJ.2.1.1.2.2.1 (by omega)
    · exact h_leB hJ.1.1 h.1 h.2.2.2 hJ.2.1.2.1 hJ.2.1.1.1 hJ.2.1.2.2.1 hJ.2.1.1.2.1 hJ.2.1.1.2.2.1 (by omega)
  refine yC_mono (fun r m q => ?_) H
  obtain ⟨-, q⟩ := q
  rcases q with ⟨e1, e2, e3, e4, e5, e6⟩ | ⟨e1, e2, e3⟩
  · exact Or.inl ⟨e1, ⟨1, e2, rfl⟩, fun k hk => e3 k (by omega), e4, e5, e6, by rw [gi_zq (e3 0 (by decide))]; exact hJ.2.1.1.2.2.2.1⟩
  · exact Or.inr ⟨e1, e2, _, e3⟩
theorem vm_lead (hd : 70 ≤ d) (hJ : J6 a b t u Y Z N M mem) : yC zpg d 270 [.ref 221, .int a1, .int a2, .int a3] mem (fun r m => ∃ M', acR (leN Z M.1 a1.toInt a2.toInt a3.toInt) (1) 0 M M' (ldS M.1 a1.toInt (8 * a3.toInt + a2.toInt), M.2.1, pdN M.2.2.1 (M.1, M.2.1), M.2.2.2) r ∧ J6 a b t u Y Z N M' m) := by
  refine acM hJ (fun w => okN_F hJ.2.2.2 (ldS_w hJ.2.2.2.1 hJ.2.2.2.2.1 w) hJ.2.2.2.2.2.2) (um_lead hd hJ.1) ?_
  refine yC_mono (fun r m q => ?_) (h_mle hJ.1.1 hJ.1.2.1.1.1.2 hJ.2.2.2.1 hJ.2.2.1.1 hJ.2.2.2.2.1 hJ.2.2.1.2.1 hJ.2.2.1.2.2.1 (by omega))
  obtain ⟨-, q⟩ := q
  rcases q with ⟨e1, e2, e3, e4, -, e5, e6, e7⟩ | ⟨e1, e2, e3⟩
  · exact Or.inl ⟨e1, ⟨1, e2, rfl⟩, e3, e5, e6, e7, by rw [gL_zf (e4 56 (by decide) (by decide))]; exact hJ.2.2.1.2.2.2⟩
  · exact Or.inr ⟨e1, e2, _, e3⟩
theorem vx_undo (hd : 70 ≤ d) (hJ : J6 a b t u Y Z N M mem) : yC zpg d 137 [.ref 0] mem (fun r m => ∃ N', acR (1 ≤ N.2.2.1.1) (1) 0 N N' ((N.2.2.1.2 (N.2.2.1.1 - 1)).1, (N.2.2.1.2 (N.2.2.1.1 - 1)).2, (N.2.2.1.1 - 1, N.2.2.1.2), N.2.2.2) r ∧ J6 a b t u Y Z N' M m) := by
  refine acC hJ (fun w => ⟨hJ.2.1.2.1, hJ.2.1.2.2.2.1 _ (by omega) (by omega), fun k k0 k1 => hJ.2.1.2.2.2.1 k k0 (by have k2 : k < N.2.2.1.1 - 1 := k1; omega), hJ.2.1.2.2.2.2⟩) (ux_undo hd hJ.1) (ask12 (k86_X11_undo u86) (by omega) hJ.1.1 hJ.2.1.1.2.2.2.2 ⟨tvX, trivial⟩) ?_
  refine yC_mono (fun r m q => ?_) (h_ud hJ.1.1 hJ.2.1.2.1 hJ.2.1.1.2.2.1 (by omega))
  obtain ⟨-, q⟩ := q
  rcases q with ⟨e1, e2, e3, e4, e5, e6⟩ | ⟨e1, e2, e3⟩
  · exact Or.inl ⟨e1, ⟨1, e2, rfl⟩, fun k hk => e3 k (by omega), e4, e5, e6, by rw [gi_zq (e3 0 (by decide))]; exact hJ.2.1.1.2.2.2.1⟩
  · exact Or.inr ⟨e1, e2, _, e3⟩
theorem vm_undo (hd : 70 ≤ d) (hJ : J6 a b t u Y Z N M mem) : yC zpg d 214 [.ref 221] mem (fun r m => ∃ M', acR (1 ≤ M.2.2.1.1) (1) 0 M M' ((M.2.2.1.2 (M.2.2.1.1 - 1)).1, (M.2.2.1.2 (M.2.2.1.1 - 1)).2, (M.2.2.1.1 - 1, M.2.2.1.2), M.2.2.2) r ∧ J6 a b t u Y Z N M' m) := by
  refine acM hJ (fun w => ⟨hJ.2.2.2.1, hJ.2.2.2.2.2.1 _ (by omega) (by omega), fun k k0 k1 => hJ.2.2.2.2.2.1 k k0 (by have k2 : k < M.2.2.1.1 - 1 := k1; omega), hJ.2.2.2.2.2.2⟩) (um_undo hd hJ.1) ?_
  refine yC_mono (fun r m q => ?_) (h_mu hJ.1.1 hJ.2.2.2.1 hJ.2.2.1.2.2.1 (by omega))
  obtain ⟨-, q⟩ := q
  rcases q with ⟨e1, e2, e3, e4, -, e5, e6, e7⟩ | ⟨e1, e2, e3⟩
  · exact Or.inl ⟨e1, ⟨1, e2, rfl⟩, e3, e5, e6, e7, by rw [gL_zf (e4 56 (by decide) (by decide))]; exact hJ.2.2.1.2.2.2⟩
  · exact Or.inr ⟨e1, e2, _, e3⟩
theorem vx_nights (hd : 70 ≤ d) (hJ : J6 a b t u Y Z N M mem) : yC zpg d 132 [.ref 0, .int a1] mem (fun r m => ∃ N', acR (cgN Y N.1 a1.toInt) ((ntN Y (huA Y) a1.toInt.toNat (N.1, N.2.1, 0)).2.2) (-1) N N' ((ntN Y (huA Y) a1.toInt.toNat (N.1, N.2.1, 0)).1, (ntN Y (huA Y) a1.toInt.toNat (N.1, N.2.1, 0)).2.1, pdN N.2.2.1 (N.1, N.2.1), N.2.2.2) r ∧ J6 a b t u Y Z N' M m) := by
  refine acC hJ (fun w => okN_F hJ.2.1.2 (ntN_w hJ.2.1.2.1 hJ.2.1.2.2.1 _ (by have w1 := w.1; have w2 := w.2.2; show Sn N.1 + _ ≤ 999; omega)) hJ.2.1.2.2.2.2) (ux_nights hd hJ.1) (ask12 (k86_X11_nights u86) (by omega) hJ.1.1 hJ.2.1.1.2.2.2.2 ⟨tvX, tvI a1, trivial⟩) ?_
  have hP := hJ.1.2.1.2
  have H : yC zpg d 132 [.ref 0, .int a1] mem (fun r m => aTm aT0 m ∧ ((cgN Y N.1 a1.toInt ∧ (∃ fo : Int32, r = some (.int fo) ∧ fo.toInt = (ntN Y (huA Y) a1.toInt.toNat (N.1, N.2.1, 0)).2.2) ∧ (∀ k, ¬ (31 ≤ k ∧ k ≤ 184) → zat m k = zat mem k) ∧ tS 31 Y (huA Y) (ntN Y (huA Y) a1.toInt.toNat (N.1, N.2.1, 0)).1 m ∧ kC 34 (ntN Y (huA Y) a1.toInt.toNat (N.1, N.2.1, 0)).2.1 m ∧ rgC Y (huA Y) (pdN N.2.2.1 (N.1, N.2.1)) m) ∨ (¬ cgN Y N.1 a1.toInt ∧ r = some (.int (-1)) ∧ rfX 220 2 mem m))) := by
    rcases hP with h | h
    · exact h_niA hJ.1.1 h.1 h.2.2.1 h.2.2.2 hJ.2.1.2.1 hJ.2.1.1.1 hJ.2.1.2.2.1 (okN_H hJ.2.1.2) hJ.2.1.1.2.1 hJ.2.1.1.2.2.1 (by omega)
    · exact h_niB hJ.1.1 h.1 h.2.2.1 h.2.2.2 hJ.2.1.2.1 hJ.2.1.1.1 hJ.2.1.2.2.1 (okN_H hJ.2.1.2) hJ.2.1.1.2.1 hJ.2.1.1.2.2.1 (by omega)
  refine yC_mono (fun r m q => ?_) H
  obtain ⟨-, q⟩ := q
  rcases q with ⟨e1, e2, e3, e4, e5, e6⟩ | ⟨e1, e2, e3⟩
  · exact Or.inl ⟨e1, e2, fun k hk => e3 k (by omega), e4, e5, e6, by rw [gi_zq (e3 0 (by decide))]; exact hJ.2.1.1.2.2.2.1⟩
  · exact Or.inr ⟨e1, e2, _, e3⟩
theorem vm_nights (hd : 70 ≤ d) (hJ : J6 a b t u Y Z N M mem) : yC zpg d 264 [.ref 221, .int a1] mem (fun r m => ∃ M', acR (cgN Z M.1 a1.toInt) ((ntN Z (huA Z) a1.toInt.toNat (M.1, M.2.1, 0)).2.2) (-1) M M' ((ntN Z (huA Z) a1.toInt.toNat (M.1, M.2.1, 0)).1, (ntN Z (huA Z) a1.toInt.toNat (M.1, M.2.1, 0)).2.1, pdN M.2.2.1 (M.1, M.2.1), M.2.2.2) r ∧ J6 a b t u Y Z N M' m) := by
  refine acM hJ (fun w => okN_F hJ.2.2.2 (ntN_w hJ.2.2.2.1 hJ.2.2.2.2.1 _ (by have w1 := w.1; have w2 := w.2.2; show Sn M.1 + _ ≤ 999; omega)) hJ.2.2.2.2.2.2) (um_nights hd hJ.1) ?_
  refine yC_mono (fun r m q => ?_) (h_mn hJ.1.1 hJ.1.2.1.1.1.2 hJ.2.2.2.1 hJ.2.2.1.1 hJ.2.2.2.2.1 (okN_H hJ.2.2.2) hJ.2.2.1.2.1 hJ.2.2.1.2.2.1 (by omega))
  obtain ⟨-, q⟩ := q
  rcases q with ⟨e1, e2, e3, e4, -, e5, e6, e7⟩ | ⟨e1, e2, e3⟩
  · exact Or.inl ⟨e1, e2, e3, e5, e6, e7, by rw [gL_zf (e4 56 (by decide) (by decide))]; exact hJ.2.2.1.2.2.2⟩
  · exact Or.inr ⟨e1, e2, _, e3⟩
theorem vx_chance (hd : 70 ≤ d) (hJ : J6 a b t u Y Z N M mem) : yC zpg d 133 [.ref 0, .int a1] mem (fun r m => ∃ N', acR (cgN Y N.1 a1.toInt) ((chN Y (huA Y) a1.toInt.toNat (N.1, N.2.1, N.2.2.2, 0)).2.2.2) (-1) N N' ((chN Y (huA Y) a1.toInt.toNat (N.1, N.2.1, N.2.2.2, 0)).1, (chN Y (huA Y) a1.toInt.toNat (N.1, N.2.1, N.2.2.2, 0)).2.1, pdN N.2.2.1 (N.1, N.2.1), (chN Y (huA Y) a1.toInt.toNat (N.1, N.2.1, N.2.2.2, 0)).2.2.1) r ∧ J6 a b t u Y Z N' M m) := by
  refine acC hJ (fun w => okN_F hJ.2.1.2 (chN_w hJ.2.1.2.1 hJ.2.1.2.2.1 _ (by have w1 := w.1; have w2 := w.2.2; show Sn N.1 + _ ≤ 999; omega)) (chN_x (X := (N.1, N.2.1, N.2.2.2, 0)) hJ.2.1.2.2.2.2 _)) (ux_chance hd hJ.1) (ask12 (k86_X11_chance u86) (by omega) hJ.1.1 hJ.2.1.1.2.2.2.2 ⟨tvX, tvI a1, trivial⟩) ?_
  have hP := hJ.1.2.1.2
  have x0 : 0 ≤ (gi mem 0 15).toInt := by
    rw [hJ.2.1.1.2.2.2.1]
    exact hJ.2.1.2.2.2.2.1
  have H : yC zpg d 133 [.ref 0, .int a1] mem (fun r m => aTm aT0 m ∧ ((cgN Y N.1 a1.toInt ∧ (∃ fo : Int32, r = some (.int fo) ∧ fo.toInt = (chN Y (huA Y) a1.toInt.toNat (N.1, N.2.1, (gi mem 0 15).toInt, 0)).2.2.2) ∧ (gi m 0 15).toInt = (chN Y (huA Y) a1.toInt.toNat (N.1, N.2.1, (gi mem 0 15).toInt, 0)).2.2.1 ∧ (∀ k, ¬ (31 ≤ k ∧ k ≤ 184) → ¬ k = 0 → zat m k = zat mem k) ∧ tS 31 Y (huA Y) (chN Y (huA Y) a1.toInt.toNat (N.1, N.2.1, (gi mem 0 15).toInt, 0)).1 m ∧ kC 34 (chN Y (huA Y) a1.toInt.toNat (N.1, N.2.1, (gi mem 0 15).toInt, 0)).2.1 m ∧ rgC Y (huA Y) (pdN N.2.2.1 (N.1, N.2.1)) m) ∨ (¬ cgN Y N.1 a1.toInt ∧ r = some (.int (-1)) ∧ rfX 220 2 mem m))) := by
    rcases hP with h | h
    · exact h_chA hJ.1.1 h.1 h.2.2.1 h.2.2.2 hJ.2.1.2.1 hJ.2.1.1.1 hJ.2.1.2.2.1 (okN_H hJ.2.1.2) hJ.2.1.1.2.1 hJ.2.1.1.2.2.1 x0 (by omega)
    · exact h_chB hJ.1.1 h.1 h.2.2.1 h.2.2.2 hJ.2.1.2.1 hJ.2.1.1.1 hJ.2.1.2.2.1 (okN_H hJ.2.1.2) hJ.2.1.1.2.1 hJ.2.1.1.2.2.1 x0 (by omega)
  refine yC_mono (fun r m q => ?_) H
  obtain ⟨-, q⟩ := q
  rw [hJ.2.1.1.2.2.2.1] at q
  rcases q with ⟨e1, e2, e7, e3, e4, e5, e6⟩ | ⟨e1, e2, e3⟩
  · exact Or.inl ⟨e1, e2, fun k hk => e3 k (by omega) (by omega), e4, e5, e6, e7⟩
  · exact Or.inr ⟨e1, e2, _, e3⟩
theorem vm_chance (hd : 70 ≤ d) (hJ : J6 a b t u Y Z N M mem) : yC zpg d 266 [.ref 221, .int a1] mem (fun r m => ∃ M', acR (cgN Z M.1 a1.toInt) ((chN Z (huA Z) a1.toInt.toNat (M.1, M.2.1, M.2.2.2, 0)).2.2.2) (-1) M M' ((chN Z (huA Z) a1.toInt.toNat (M.1, M.2.1, M.2.2.2, 0)).1, (chN Z (huA Z) a1.toInt.toNat (M.1, M.2.1, M.2.2.2, 0)).2.1, pdN M.2.2.1 (M.1, M.2.1), (chN Z (huA Z) a1.toInt.toNat (M.1, M.2.1, M.2.2.2, 0)).2.2.1) r ∧ J6 a b t u Y Z N M' m) := by
  refine acM hJ (fun w => okN_F hJ.2.2.2 (chN_w hJ.2.2.2.1 hJ.2.2.2.2.1 _ (by have w1 := w.1; have w2 := w.2.2; show Sn M.1 + _ ≤ 999; omega)) (chN_x (X := (M.1, M.2.1, M.2.2.2, 0)) hJ.2.2.2.2.2.2 _)) (um_chance hd hJ.1) ?_
  refine yC_mono (fun r m q => ?_) (h_mc hJ.1.1 hJ.1.2.1.1.1.2 hJ.2.2.2.1 hJ.2.2.1.1 hJ.2.2.2.2.1 (okN_H hJ.2.2.2) hJ.2.2.1.2.1 hJ.2.2.1.2.2.1 (by rw [hJ.2.2.1.2.2.2]; exact hJ.2.2.2.2.2.2) (by omega))
  obtain ⟨-, q⟩ := q
  rw [hJ.2.2.1.2.2.2] at q
  rcases q with ⟨e1, e2, e8, e3, e4, -, e5, e6, e7⟩ | ⟨e1, e2, e3⟩
  · exact Or.inl ⟨e1, e2, e3, e5, e6, e7, e8⟩
  · exact Or.inr ⟨e1, e2, _, e3⟩
end PBS
