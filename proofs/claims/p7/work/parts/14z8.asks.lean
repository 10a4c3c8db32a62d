/-! letter, with what it answers -/
section PB6
variable {d : Nat} {mem : zM} {a b a1 a2 a3 : Int32} {t u : List Int32} {Y Z : Qd}
theorem ux_letterA (hd : 70 ≤ d) (hJ : J5 a b t u Y Z mem) : yC zpg d 117 [.ref 0, .int a1, .int a2, .int a3] mem (fun r m => J5 a b t u Y Z m ∧ ∃ v : Int32, r = some (.int v) ∧ ltA Y a1.toInt a2.toInt a3.toInt v.toInt) := yC_mono (fun r m q => ⟨q.1.1, q.2⟩) (yC_and (ux_letter hd hJ) (h_lx hJ.1 hJ.2.1.2 (by omega)))
theorem um_letterA (hd : 70 ≤ d) (hJ : J5 a b t u Y Z mem) : yC zpg d 240 [.ref 221, .int a1, .int a2, .int a3] mem (fun r m => J5 a b t u Y Z m ∧ ∃ v : Int32, r = some (.int v) ∧ ltA Z a1.toInt a2.toInt a3.toInt v.toInt) := yC_mono (fun r m q => ⟨q.1.1, q.2⟩) (yC_and (um_letter hd hJ) (h_lm hJ.1 hJ.2.1.1.1.2.1 (by omega)))
end PB6
