/-! image, with what it answers -/
section PB6
variable {d : Nat} {mem : zM} {a b : Int32} {t u : List Int32} {Y Z : Qd}
theorem im_eq {x y z : Int} (h : x = z) (k : y = z) : x = y := h.trans k.symm
theorem ux_imageA (hd : 70 ≤ d) (hJ : J5 a b t u Y Z mem) : yC zpg d 140 [.ref 0] mem (fun r m => J5 a b t u Y Z m ∧ ∃ v : Int32, r = some (.int v) ∧ v.toInt = 3 + 2 * ((Qt Y).length : Int) + 2 * ((Qf Y).length : Int)) := yC_mono (fun r m q => ⟨q.1.1, q.2⟩) (yC_and (ux_image hd hJ) (h_im_c hJ.1 hJ.2.1.2 (by omega)))
theorem um_imageA (hd : 70 ≤ d) (hJ : J5 a b t u Y Z mem) : yC zpg d 274 [.ref 221] mem (fun r m => J5 a b t u Y Z m ∧ ∃ v : Int32, r = some (.int v) ∧ v.toInt = 3 + 2 * ((Qt Z).length : Int) + 2 * ((Qf Z).length : Int)) := yC_mono (fun r m q => ⟨q.1.1, q.2⟩) (yC_and (um_image hd hJ) (h_im_m hJ.1 hJ.2.1.1.1.2.1.2.2.1.1 hJ.2.1.1.1.2.1.2.2.2.2.1.1 (by omega)))
end PB6
