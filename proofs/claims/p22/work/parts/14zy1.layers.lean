/-! the model's layers: what a copy tells, what stands aside -/
section LYA
variable {Q : Qd} {S : Sd} {hu : Int → Int} {a m : zM}
theorem tM_cp {to fr : Int} (hW : WQ Q) (t0 : 0 ≤ to) (hc : cpD to fr a m) (e5 : ga m 255 = ga a 255) (hS : tM fr Q hu S a) : tM to Q hu S m := by
  obtain ⟨⟨c9, c0, c1, c2, c3⟩, c4⟩ := hc
  obtain ⟨⟨s9, s0⟩, s1, s2, s5⟩ := hS
  have n9 : thN Q ≤ 9 := by
    have := hW.2.1.1
    unfold thN
    omega
  have n6 : foN Q ≤ 6 := by
    have := hW.2.1.2.1
    unfold foN
    omega
  refine ⟨⟨?_, ?_⟩, fun t t0 t1 => ?_, fun f f0 f1 => ?_, fun t t0 t1 => ?_⟩
  · rw [c9 to t0, if_pos rfl]
    exact s9
  · rw [c0 to t0, if_pos rfl]
    exact s0
  · rw [c1 _ (by omega), if_pos (by omega), show 9 * to + t - 9 * to + 9 * fr = 9 * fr + t by omega]
    exact s1 t t0 t1
  · rw [c2 _ (by omega), if_pos (by omega), show 6 * to + f - 6 * to + 6 * fr = 6 * fr + f by omega]
    exact s2 f f0 f1
  · rw [e5]
    exact s5 t t0 t1
theorem kM_cp {to fr : Int} {K : Kd} (t0 : 0 ≤ to) (hc : cpD to fr a m) (hK : kM fr K a) : kM to K m := by
  obtain ⟨⟨c9, c0, c1, c2, c3⟩, c4⟩ := hc
  obtain ⟨k0, k1, k2⟩ := hK
  rw [k1] at c4
  refine ⟨k0, ?_, fun i i0 i1 => ?_⟩
  · rw [c3 to t0, if_pos rfl]
    exact k1
  · have kq := k2 i i0 i1
    refine ⟨?_, ?_, ?_⟩
    · rw [c4 _ (by omega), if_pos (by omega), show 120 * to + 3 * i - 120 * to + 120 * fr = 120 * fr + 3 * i by omega]
      exact kq.1
    · rw [c4 _ (by omega), if_pos (by omega), show 120 * to + 3 * i + 1 - 120 * to + 120 * fr = 120 * fr + 3 * i + 1 by omega]
      exact kq.2.1
    · rw [c4 _ (by omega), if_pos (by omega), show 120 * to + 3 * i + 2 - 120 * to + 120 * fr = 120 * fr + 3 * i + 2 by omega]
      exact kq.2.2
theorem oLl_cp {to fr : Int} (hn : gn (ga a 253) fr ≤ 40) (hc : cpD to fr a m) : oLl to a m := by
  obtain ⟨⟨c9, c0, c1, c2, c3⟩, c4⟩ := hc
  refine ⟨fun u u0 uv => ⟨?_, ?_⟩, fun j j0 jv => ?_, fun j j0 jv => ?_, fun u u0 u1 uv => ⟨?_, fun i i0 i1 => ?_⟩⟩
  · rw [c9 u u0, if_neg uv]
  · rw [c0 u u0, if_neg uv]
  · rw [c1 j j0, if_neg jv]
  · rw [c2 j j0, if_neg jv]
  · rw [c3 u u0, if_neg uv]
  · rw [c4 _ (by omega), if_neg (by omega)]
theorem tM_l {u v : Int} (hW : WQ Q) (u0 : 0 ≤ u) (uv : ¬ u = v) (ho : oLl v a m) (e5 : ga m 255 = ga a 255) (hS : tM u Q hu S a) : tM u Q hu S m := by
  obtain ⟨o1, o2, o3, -⟩ := ho
  obtain ⟨⟨s9, s0⟩, s1, s2, s5⟩ := hS
  have n9 : thN Q ≤ 9 := by
    have := hW.2.1.1
    unfold thN
    omega
  have n6 : foN Q ≤ 6 := by
    have := hW.2.1.2.1
    unfold foN
    omega
  refine ⟨⟨?_, ?_⟩, fun t t0 t1 => ?_, fun f f0 f1 => ?_, fun t t0 t1 => ?_⟩
  · rw [(o1 u u0 uv).1]
    exact s9
  · rw [(o1 u u0 uv).2]
    exact s0
  · rw [o2 _ (by omega) (by omega)]
    exact s1 t t0 t1
  · rw [o3 _ (by omega) (by omega)]
    exact s2 f f0 f1
  · rw [e5]
    exact s5 t t0 t1
theorem kM_l {u v : Int} {K : Kd} (u0 : 0 ≤ u) (u1 : u ≤ 21) (uv : ¬ u = v) (ho : oLl v a m) (hK : kM u K a) : kM u K m := by
  obtain ⟨q1, q2⟩ := ho.2.2.2 u u0 u1 uv
  obtain ⟨k0, k1, k2⟩ := hK
  refine ⟨k0, q1.trans k1, fun i i0 i1 => ?_⟩
  have kq := k2 i i0 i1
  refine ⟨?_, ?_, ?_⟩
  · rw [q2 (3 * i) (by omega) (by omega)]
    exact kq.1
  · rw [show 120 * u + 3 * i + 1 = 120 * u + (3 * i + 1) by omega, q2 (3 * i + 1) (by omega) (by omega), show 120 * u + (3 * i + 1) = 120 * u + 3 * i + 1 by omega]
    exact kq.2.1
  · rw [show 120 * u + 3 * i + 2 = 120 * u + (3 * i + 2) by omega, q2 (3 * i + 2) (by omega) (by omega), show 120 * u + (3 * i + 2) = 120 * u + 3 * i + 2 by omega]
    exact kq.2.2
end LYA
