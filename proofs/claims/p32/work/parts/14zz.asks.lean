/-! on, with what it answers -/
section PB6
variable {d : Nat} {mem : zM} {a b : Int32} {t u : List Int32} {Y Z : Qd}
theorem wal_gn {m : zM} {c : Int} (hb : 0 ≤ (gi m 221 13).toInt) (c0 : 0 ≤ c) : wal m c ↔ gn (ga m 227) (64 * (gi m 221 13).toInt + c) = 1 := by
  unfold wal gn bkN
  rw [show (64 * (gi m 221 13).toInt + c).toNat = 64 * (gi m 221 13).toInt.toNat + c.toNat by omega]
theorem J5_b (hJ : J5 a b t u Y Z mem) : (0 ≤ Qc Z ∧ Qc Z ≤ 7) ∧ 0 ≤ Qr Z ∧ Qr Z ≤ 7 := by
  have z := uZ _ hJ
  have mb := hJ.2.1.1.1.2
  have c1 : colsI mem = Qc Z := mb.1.1.1
  have c2 : rowsI mem = Qr Z := mb.1.1.2
  unfold szOK at z
  omega
theorem ux_onA (hd : 70 ≤ d) (hJ : J5 a b t u Y Z mem) (hb : (0 ≤ Qc Y ∧ Qc Y ≤ 7) ∧ 0 ≤ Qr Y ∧ Qr Y ≤ 7) : yC zpg d 142 [.ref 0] mem (fun r m => J5 0 b t u Y Z m ∧ ∃ v : Int32, r = some (.int v) ∧ imA t a.toInt Y v.toInt) := by
  refine yC_mono (fun r m q => ?_) (yC_and (ux_on hd hJ) (h_onX hb hJ.1 hJ.2.1.2 (by omega)))
  have w := q.2
  rw [hJ.2.1.1.2.2.2.1, hJ.2.1.1.2.1.1] at w
  exact ⟨q.1.1, w⟩
theorem um_onA (hd : 70 ≤ d) (hJ : J5 a b t u Y Z mem) : yC zpg d 278 [.ref 221] mem (fun r m => J5 a 0 t u Y Z m ∧ ∃ v : Int32, r = some (.int v) ∧ imA u b.toInt Z v.toInt) := by
  have mb := hJ.2.1.1.1.2
  have rb := mO_r13 hJ.1
  refine yC_mono (fun r m q => ?_) (yC_and (um_on hd hJ) (h_onM (T := u) (Z := Z) hE5_0 uH9 uZ hJ.1 (J5_tm hJ) ⟨hJ.2.1.1.2.2.2.2, mb.1.1.1, mb.1.1.2, fun c c0 c1 => (wal_gn rb.1 c0).trans (mb.1.2.1 c c0 c1), mb.1.2.2.1.1, mb.1.2.2.2.2.1.1⟩ ?_ (by omega)))
  · have w := q.2
    rw [hJ.2.1.1.2.1.2] at w
    exact ⟨q.1.1, w⟩
  · rcases mb.2 with w | w
    · have w2 := w.2.1.1
      exact Or.inl ⟨by omega, by omega⟩
    · exact Or.inr w
end PB6
