/-! meet, with what it answers -/
section PB6
variable {d : Nat} {mem : zM} {a b : Int32} {t u : List Int32} {Y Z : Qd}
theorem ux_meetA (hd : 70 ≤ d) (hJ : J5 a b t u Y Z mem) : yC zpg d 129 [.ref 0] mem (fun r m => J5 0 b t u Y Z m ∧ ∃ v : Int32, r = some (.int v) ∧ mtA t a.toInt (Qc Y) (Qr Y) ((Qf Y).length : Int) v.toInt) := by
  obtain ⟨d, rfl⟩ : ∃ q, d = q + 4 := ⟨d - 4, by omega⟩
  have j := J5_tk hJ
  rw [tk0_si hJ.1] at j
  have n := cO_r1 hJ.1
  have e1 : ga (si mem 0 1 0) 1 = t := ga_sv.trans hJ.2.1.1.2.2.2.1
  refine yC_mono (fun r m q => ?_) (yC_and (ux_meet hd hJ) (h_mt_c (T := t) (C := Qc Y) (R := Qr Y) (F := ((Qf Y).length : Int)) hJ.1 (fun h1 => ?_)))
  · have w := q.2
    rw [hJ.2.1.1.2.1.1] at w
    exact ⟨q.1.1, w⟩
  · refine yC_mono (fun r m q => ?_) (yC_and (h_takesMet uNo uH0 (d := d + 2) (by omega) j n.1) (h_tm h1 j.2.1.2 n (by omega)))
    obtain ⟨⟨q1, -⟩, v, q2, q3⟩ := q
    rw [e1] at q3
    exact ⟨v, q2, q1.1, q3⟩
theorem um_meetA (hd : 70 ≤ d) (hJ : J5 a b t u Y Z mem) : yC zpg d 259 [.ref 221] mem (fun r m => J5 a 0 t u Y Z m ∧ ∃ v : Int32, r = some (.int v) ∧ mtA u b.toInt (Qc Z) (Qr Z) ((Qf Z).length : Int) v.toInt) := by
  have z := uZ _ hJ
  have mb := hJ.2.1.1.1.2
  have c1 : colsI mem = Qc Z := mb.1.1.1
  have c2 : rowsI mem = Qr Z := mb.1.1.2
  unfold szOK at z
  refine yC_mono (fun r m q => ?_) (yC_and (um_meet hd hJ) (h_mt_m hJ.1 hJ.2.1.1.2.2.2.2 mb.1.1.1 mb.1.1.2 mb.1.2.2.2.2.1.1 (by omega) (mb.2.imp And.left id) (by omega)))
  have w := q.2
  rw [hJ.2.1.1.2.1.2] at w
  exact ⟨q.1.1, w⟩
end PB6
