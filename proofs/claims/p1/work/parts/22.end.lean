def zFin (X : zX) (L : Nat) (xs : Nat → Int32) : Prop := ∃ (mE : zM) (rec : zRec (Option Value × zM)), zle zfm mE ∧ mE.length = 269 ∧ zRecOk (zgL L xs) X 12 _ rec ∧ zgo (tL L xs) rec (fun r m => some (r, m)) 1000 (0, [(0, .retAddr 3)], [], []) = some (some (.int 1), mE)
theorem zfm_len : zfm.length = 269 := by decide +kernel
theorem zfm_sl : zsl zfm ≤ 100000 := by decide +kernel
set_option maxRecDepth 100000 in
theorem zfin_lt (X : zX) {L : Nat} (xs : Nat → Int32) (hL : L < 6) : zFin X L xs := by
  refine ⟨zfm, zor 111 [.ref 0] [.inr (11, zdfX11)] none zfx (zor 164 [.ref 221] zfy none zfm (fun _ _ _ _ => none)), zle.rf, zfm_len, zor_ok (z_ix X).1 (z_weak (z_ix X).2) (zor_ok (z_im X).1 (z_weak (z_im X).2) zor_nil), ?_⟩
  refine (zlaw_pre zor_yes (fun κ => (zor_no (by decide)).trans (zor_yes κ))).trans ?_
  rcases (show L = 0 ∨ L = 1 ∨ L = 2 ∨ L = 3 ∨ L = 4 ∨ L = 5 by omega) with rfl | rfl | rfl | rfl | rfl | rfl <;> rfl
set_option maxRecDepth 100000 in
theorem zfin_0 (X : zX) (xs : Nat → Int32) (h : xs 0 &&& 31 = 0) : zFin X 6 xs := by
  obtain ⟨v, m1, m2, l1, l2, e3, ⟨fs, h0⟩, M1, M2⟩ := z_con (X := X) (zk_0 (xs 1) (xs 2) (xs 3) (xs 4) (xs 5))
  refine ⟨m2, zor 111 [.ref 0] [.inr (11, zdfX11)] none zfx (zor 164 [.ref 221] zfy none zfm (zor 112 (.ref 0 :: [.int (xs 1), .int (xs 2), .int (xs 3), .int (xs 4), .int (xs 5)]) zfm (some (.int v)) m1 (zor 167 (.ref 221 :: [.int (xs 1), .int (xs 2), .int (xs 3), .int (xs 4), .int (xs 5)]) m1 (some (.int v)) m2 (fun _ _ _ _ => none)))), l1.tr l2, e3, zor_ok (z_ix X).1 (z_weak (z_ix X).2) (zor_ok (z_im X).1 (z_weak (z_im X).2) (zor_ok l1 (z_weak M1) (zor_ok l2 (z_weak M2) zor_nil))), ?_⟩
  refine (zlaw_pre zor_yes (fun κ => (zor_no (by decide)).trans (zor_yes κ))).trans (zlaw_sw.trans ?_)
  rw [h]
  exact zlaw_0 (fun κ => (zor_no (by decide)).trans ((zor_no (by decide)).trans (zor_yes κ))) h0 (fun κ => (zor_no (by decide)).trans ((zor_no (by decide)).trans ((zor_no (by decide)).trans (zor_yes κ))))
set_option maxRecDepth 100000 in
theorem zfin_1 (X : zX) (xs : Nat → Int32) (h : xs 0 &&& 31 = 1) : zFin X 6 xs := by
  obtain ⟨v, m1, m2, l1, l2, e3, ⟨fs, h0⟩, M1, M2⟩ := z_con (X := X) (zk_1 (xs 1))
  refine ⟨m2, zor 111 [.ref 0] [.inr (11, zdfX11)] none zfx (zor 164 [.ref 221] zfy none zfm (zor 113 (.ref 0 :: [.int (xs 1)]) zfm (some (.int v)) m1 (zor 168 (.ref 221 :: [.int (xs 1)]) m1 (some (.int v)) m2 (fun _ _ _ _ => none)))), l1.tr l2, e3, zor_ok (z_ix X).1 (z_weak (z_ix X).2) (zor_ok (z_im X).1 (z_weak (z_im X).2) (zor_ok l1 (z_weak M1) (zor_ok l2 (z_weak M2) zor_nil))), ?_⟩
  refine (zlaw_pre zor_yes (fun κ => (zor_no (by decide)).trans (zor_yes κ))).trans (zlaw_sw.trans ?_)
  rw [h]
  exact zlaw_1 (fun κ => (zor_no (by decide)).trans ((zor_no (by decide)).trans (zor_yes κ))) h0 (fun κ => (zor_no (by decide)).trans ((zor_no (by decide)).trans ((zor_no (by decide)).trans (zor_yes κ))))
set_option maxRecDepth 100000 in
theorem zfin_2 (X : zX) (xs : Nat → Int32) (h : xs 0 &&& 31 = 2) : zFin X 6 xs := by
  obtain ⟨v, m1, m2, l1, l2, e3, ⟨fs, h0⟩, M1, M2⟩ := z_con (X := X) (zk_2)
  refine ⟨m2, zor 111 [.ref 0] [.inr (11, zdfX11)] none zfx (zor 164 [.ref 221] zfy none zfm (zor 114 (.ref 0 :: []) zfm (some (.int v)) m1 (zor 206 (.ref 221 :: []) m1 (some (.int v)) m2 (fun _ _ _ _ => none)))), l1.tr l2, e3, zor_ok (z_ix X).1 (z_weak (z_ix X).2) (zor_ok (z_im X).1 (z_weak (z_im X).2) (zor_ok l1 (z_weak M1) (zor_ok l2 (z_weak M2) zor_nil))), ?_⟩
  refine (zlaw_pre zor_yes (fun κ => (zor_no (by decide)).trans (zor_yes κ))).trans (zlaw_sw.trans ?_)
  rw [h]
  exact zlaw_2 (fun κ => (zor_no (by decide)).trans ((zor_no (by decide)).trans (zor_yes κ))) h0 (fun κ => (zor_no (by decide)).trans ((zor_no (by decide)).trans ((zor_no (by decide)).trans (zor_yes κ))))
set_option maxRecDepth 100000 in
theorem zfin_3 (X : zX) (xs : Nat → Int32) (h : xs 0 &&& 31 = 3) : zFin X 6 xs := by
  obtain ⟨v, m1, m2, l1, l2, e3, ⟨fs, h0⟩, M1, M2⟩ := z_con (X := X) (zk_3 (xs 1))
  refine ⟨m2, zor 111 [.ref 0] [.inr (11, zdfX11)] none zfx (zor 164 [.ref 221] zfy none zfm (zor 115 (.ref 0 :: [.int (xs 1)]) zfm (some (.int v)) m1 (zor 207 (.ref 221 :: [.int (xs 1)]) m1 (some (.int v)) m2 (fun _ _ _ _ => none)))), l1.tr l2, e3, zor_ok (z_ix X).1 (z_weak (z_ix X).2) (zor_ok (z_im X).1 (z_weak (z_im X).2) (zor_ok l1 (z_weak M1) (zor_ok l2 (z_weak M2) zor_nil))), ?_⟩
  refine (zlaw_pre zor_yes (fun κ => (zor_no (by decide)).trans (zor_yes κ))).trans (zlaw_sw.trans ?_)
  rw [h]
  exact zlaw_3 (fun κ => (zor_no (by decide)).trans ((zor_no (by decide)).trans (zor_yes κ))) h0 (fun κ => (zor_no (by decide)).trans ((zor_no (by decide)).trans ((zor_no (by decide)).trans (zor_yes κ))))
set_option maxRecDepth 100000 in
theorem zfin_4 (X : zX) (xs : Nat → Int32) (h : xs 0 &&& 31 = 4) : zFin X 6 xs := by
  obtain ⟨v, m1, m2, l1, l2, e3, ⟨fs, h0⟩, M1, M2⟩ := z_con (X := X) (zk_4 (xs 1))
  refine ⟨m2, zor 111 [.ref 0] [.inr (11, zdfX11)] none zfx (zor 164 [.ref 221] zfy none zfm (zor 116 (.ref 0 :: [.int (xs 1)]) zfm (some (.int v)) m1 (zor 239 (.ref 221 :: [.int (xs 1)]) m1 (some (.int v)) m2 (fun _ _ _ _ => none)))), l1.tr l2, e3, zor_ok (z_ix X).1 (z_weak (z_ix X).2) (zor_ok (z_im X).1 (z_weak (z_im X).2) (zor_ok l1 (z_weak M1) (zor_ok l2 (z_weak M2) zor_nil))), ?_⟩
  refine (zlaw_pre zor_yes (fun κ => (zor_no (by decide)).trans (zor_yes κ))).trans (zlaw_sw.trans ?_)
  rw [h]
  exact zlaw_4 (fun κ => (zor_no (by decide)).trans ((zor_no (by decide)).trans (zor_yes κ))) h0 (fun κ => (zor_no (by decide)).trans ((zor_no (by decide)).trans ((zor_no (by decide)).trans (zor_yes κ))))
set_option maxRecDepth 100000 in
theorem zfin_5 (X : zX) (xs : Nat → Int32) (h : xs 0 &&& 31 = 5) : zFin X 6 xs := by
  obtain ⟨v, m1, m2, l1, l2, e3, ⟨fs, h0⟩, M1, M2⟩ := z_con (X := X) (zk_5 (xs 1) (xs 2) (xs 3))
  refine ⟨m2, zor 111 [.ref 0] [.inr (11, zdfX11)] none zfx (zor 164 [.ref 221] zfy none zfm (zor 117 (.ref 0 :: [.int (xs 1), .int (xs 2), .int (xs 3)]) zfm (some (.int v)) m1 (zor 240 (.ref 221 :: [.int (xs 1), .int (xs 2), .int (xs 3)]) m1 (some (.int v)) m2 (fun _ _ _ _ => none)))), l1.tr l2, e3, zor_ok (z_ix X).1 (z_weak (z_ix X).2) (zor_ok (z_im X).1 (z_weak (z_im X).2) (zor_ok l1 (z_weak M1) (zor_ok l2 (z_weak M2) zor_nil))), ?_⟩
  refine (zlaw_pre zor_yes (fun κ => (zor_no (by decide)).trans (zor_yes κ))).trans (zlaw_sw.trans ?_)
  rw [h]
  exact zlaw_5 (fun κ => (zor_no (by decide)).trans ((zor_no (by decide)).trans (zor_yes κ))) h0 (fun κ => (zor_no (by decide)).trans ((zor_no (by decide)).trans ((zor_no (by decide)).trans (zor_yes κ))))
set_option maxRecDepth 100000 in
theorem zfin_6 (X : zX) (xs : Nat → Int32) (h : xs 0 &&& 31 = 6) : zFin X 6 xs := by
  obtain ⟨v, m1, m2, l1, l2, e3, ⟨fs, h0⟩, M1, M2⟩ := z_con (X := X) (zk_6 (xs 1) (xs 2) (xs 3))
  refine ⟨m2, zor 111 [.ref 0] [.inr (11, zdfX11)] none zfx (zor 164 [.ref 221] zfy none zfm (zor 118 (.ref 0 :: [.int (xs 1), .int (xs 2), .int (xs 3)]) zfm (some (.int v)) m1 (zor 241 (.ref 221 :: [.int (xs 1), .int (xs 2), .int (xs 3)]) m1 (some (.int v)) m2 (fun _ _ _ _ => none)))), l1.tr l2, e3, zor_ok (z_ix X).1 (z_weak (z_ix X).2) (zor_ok (z_im X).1 (z_weak (z_im X).2) (zor_ok l1 (z_weak M1) (zor_ok l2 (z_weak M2) zor_nil))), ?_⟩
  refine (zlaw_pre zor_yes (fun κ => (zor_no (by decide)).trans (zor_yes κ))).trans (zlaw_sw.trans ?_)
  rw [h]
  exact zlaw_6 (fun κ => (zor_no (by decide)).trans ((zor_no (by decide)).trans (zor_yes κ))) h0 (fun κ => (zor_no (by decide)).trans ((zor_no (by decide)).trans ((zor_no (by decide)).trans (zor_yes κ))))
set_option maxRecDepth 100000 in
theorem zfin_7 (X : zX) (xs : Nat → Int32) (h : xs 0 &&& 31 = 7) : zFin X 6 xs := by
  obtain ⟨v, m1, m2, l1, l2, e3, ⟨fs, h0⟩, M1, M2⟩ := z_con (X := X) (zk_7 (xs 1) (xs 2))
  refine ⟨m2, zor 111 [.ref 0] [.inr (11, zdfX11)] none zfx (zor 164 [.ref 221] zfy none zfm (zor 119 (.ref 0 :: [.int (xs 1), .int (xs 2)]) zfm (some (.int v)) m1 (zor 243 (.ref 221 :: [.int (xs 1), .int (xs 2)]) m1 (some (.int v)) m2 (fun _ _ _ _ => none)))), l1.tr l2, e3, zor_ok (z_ix X).1 (z_weak (z_ix X).2) (zor_ok (z_im X).1 (z_weak (z_im X).2) (zor_ok l1 (z_weak M1) (zor_ok l2 (z_weak M2) zor_nil))), ?_⟩
  refine (zlaw_pre zor_yes (fun κ => (zor_no (by decide)).trans (zor_yes κ))).trans (zlaw_sw.trans ?_)
  rw [h]
  exact zlaw_7 (fun κ => (zor_no (by decide)).trans ((zor_no (by decide)).trans (zor_yes κ))) h0 (fun κ => (zor_no (by decide)).trans ((zor_no (by decide)).trans ((zor_no (by decide)).trans (zor_yes κ))))
set_option maxRecDepth 100000 in
theorem zfin_8 (X : zX) (xs : Nat → Int32) (h : xs 0 &&& 31 = 8) : zFin X 6 xs := by
  obtain ⟨v, m1, m2, l1, l2, e3, ⟨fs, h0⟩, M1, M2⟩ := z_con (X := X) (zk_8 (xs 1) (xs 2))
  refine ⟨m2, zor 111 [.ref 0] [.inr (11, zdfX11)] none zfx (zor 164 [.ref 221] zfy none zfm (zor 120 (.ref 0 :: [.int (xs 1), .int (xs 2)]) zfm (some (.int v)) m1 (zor 244 (.ref 221 :: [.int (xs 1), .int (xs 2)]) m1 (some (.int v)) m2 (fun _ _ _ _ => none)))), l1.tr l2, e3, zor_ok (z_ix X).1 (z_weak (z_ix X).2) (zor_ok (z_im X).1 (z_weak (z_im X).2) (zor_ok l1 (z_weak M1) (zor_ok l2 (z_weak M2) zor_nil))), ?_⟩
  refine (zlaw_pre zor_yes (fun κ => (zor_no (by decide)).trans (zor_yes κ))).trans (zlaw_sw.trans ?_)
  rw [h]
  exact zlaw_8 (fun κ => (zor_no (by decide)).trans ((zor_no (by decide)).trans (zor_yes κ))) h0 (fun κ => (zor_no (by decide)).trans ((zor_no (by decide)).trans ((zor_no (by decide)).trans (zor_yes κ))))
set_option maxRecDepth 100000 in
theorem zfin_9 (X : zX) (xs : Nat → Int32) (h : xs 0 &&& 31 = 9) : zFin X 6 xs := by
  obtain ⟨v, m1, m2, l1, l2, e3, ⟨fs, h0⟩, M1, M2⟩ := z_con (X := X) (zk_9 (xs 1) (xs 2) (xs 3))
  refine ⟨m2, zor 111 [.ref 0] [.inr (11, zdfX11)] none zfx (zor 164 [.ref 221] zfy none zfm (zor 121 (.ref 0 :: [.int (xs 1), .int (xs 2), .int (xs 3)]) zfm (some (.int v)) m1 (zor 247 (.ref 221 :: [.int (xs 1), .int (xs 2), .int (xs 3)]) m1 (some (.int v)) m2 (fun _ _ _ _ => none)))), l1.tr l2, e3, zor_ok (z_ix X).1 (z_weak (z_ix X).2) (zor_ok (z_im X).1 (z_weak (z_im X).2) (zor_ok l1 (z_weak M1) (zor_ok l2 (z_weak M2) zor_nil))), ?_⟩
  refine (zlaw_pre zor_yes (fun κ => (zor_no (by decide)).trans (zor_yes κ))).trans (zlaw_sw.trans ?_)
  rw [h]
  exact zlaw_9 (fun κ => (zor_no (by decide)).trans ((zor_no (by decide)).trans (zor_yes κ))) h0 (fun κ => (zor_no (by decide)).trans ((zor_no (by decide)).trans ((zor_no (by decide)).trans (zor_yes κ))))
set_option maxRecDepth 100000 in
theorem zfin_10 (X : zX) (xs : Nat → Int32) (h : xs 0 &&& 31 = 10) : zFin X 6 xs := by
  obtain ⟨v, m1, m2, l1, l2, e3, ⟨fs, h0⟩, M1, M2⟩ := z_con (X := X) (zk_10 (xs 1))
  refine ⟨m2, zor 111 [.ref 0] [.inr (11, zdfX11)] none zfx (zor 164 [.ref 221] zfy none zfm (zor 122 (.ref 0 :: [.int (xs 1)]) zfm (some (.int v)) m1 (zor 248 (.ref 221 :: [.int (xs 1)]) m1 (some (.int v)) m2 (fun _ _ _ _ => none)))), l1.tr l2, e3, zor_ok (z_ix X).1 (z_weak (z_ix X).2) (zor_ok (z_im X).1 (z_weak (z_im X).2) (zor_ok l1 (z_weak M1) (zor_ok l2 (z_weak M2) zor_nil))), ?_⟩
  refine (zlaw_pre zor_yes (fun κ => (zor_no (by decide)).trans (zor_yes κ))).trans (zlaw_sw.trans ?_)
  rw [h]
  exact zlaw_10 (fun κ => (zor_no (by decide)).trans ((zor_no (by decide)).trans (zor_yes κ))) h0 (fun κ => (zor_no (by decide)).trans ((zor_no (by decide)).trans ((zor_no (by decide)).trans (zor_yes κ))))
set_option maxRecDepth 100000 in
theorem zfin_11 (X : zX) (xs : Nat → Int32) (h : xs 0 &&& 31 = 11) : zFin X 6 xs := by
  obtain ⟨v, m1, m2, l1, l2, e3, ⟨fs, h0⟩, M1, M2⟩ := z_con (X := X) (zk_11 (xs 1) (xs 2))
  refine ⟨m2, zor 111 [.ref 0] [.inr (11, zdfX11)] none zfx (zor 164 [.ref 221] zfy none zfm (zor 123 (.ref 0 :: [.int (xs 1), .int (xs 2)]) zfm (some (.int v)) m1 (zor 249 (.ref 221 :: [.int (xs 1), .int (xs 2)]) m1 (some (.int v)) m2 (fun _ _ _ _ => none)))), l1.tr l2, e3, zor_ok (z_ix X).1 (z_weak (z_ix X).2) (zor_ok (z_im X).1 (z_weak (z_im X).2) (zor_ok l1 (z_weak M1) (zor_ok l2 (z_weak M2) zor_nil))), ?_⟩
  refine (zlaw_pre zor_yes (fun κ => (zor_no (by decide)).trans (zor_yes κ))).trans (zlaw_sw.trans ?_)
  rw [h]
  exact zlaw_11 (fun κ => (zor_no (by decide)).trans ((zor_no (by decide)).trans (zor_yes κ))) h0 (fun κ => (zor_no (by decide)).trans ((zor_no (by decide)).trans ((zor_no (by decide)).trans (zor_yes κ))))
set_option maxRecDepth 100000 in
theorem zfin_12 (X : zX) (xs : Nat → Int32) (h : xs 0 &&& 31 = 12) : zFin X 6 xs := by
  obtain ⟨v, m1, m2, l1, l2, e3, ⟨fs, h0⟩, M1, M2⟩ := z_con (X := X) (zk_12 (xs 1) (xs 2))
  refine ⟨m2, zor 111 [.ref 0] [.inr (11, zdfX11)] none zfx (zor 164 [.ref 221] zfy none zfm (zor 124 (.ref 0 :: [.int (xs 1), .int (xs 2)]) zfm (some (.int v)) m1 (zor 251 (.ref 221 :: [.int (xs 1), .int (xs 2)]) m1 (some (.int v)) m2 (fun _ _ _ _ => none)))), l1.tr l2, e3, zor_ok (z_ix X).1 (z_weak (z_ix X).2) (zor_ok (z_im X).1 (z_weak (z_im X).2) (zor_ok l1 (z_weak M1) (zor_ok l2 (z_weak M2) zor_nil))), ?_⟩
  refine (zlaw_pre zor_yes (fun κ => (zor_no (by decide)).trans (zor_yes κ))).trans (zlaw_sw.trans ?_)
  rw [h]
  exact zlaw_12 (fun κ => (zor_no (by decide)).trans ((zor_no (by decide)).trans (zor_yes κ))) h0 (fun κ => (zor_no (by decide)).trans ((zor_no (by decide)).trans ((zor_no (by decide)).trans (zor_yes κ))))
set_option maxRecDepth 100000 in
theorem zfin_13 (X : zX) (xs : Nat → Int32) (h : xs 0 &&& 31 = 13) : zFin X 6 xs := by
  obtain ⟨v, m1, m2, l1, l2, e3, ⟨fs, h0⟩, M1, M2⟩ := z_con (X := X) (zk_13 (xs 1) (xs 2))
  refine ⟨m2, zor 111 [.ref 0] [.inr (11, zdfX11)] none zfx (zor 164 [.ref 221] zfy none zfm (zor 125 (.ref 0 :: [.int (xs 1), .int (xs 2)]) zfm (some (.int v)) m1 (zor 252 (.ref 221 :: [.int (xs 1), .int (xs 2)]) m1 (some (.int v)) m2 (fun _ _ _ _ => none)))), l1.tr l2, e3, zor_ok (z_ix X).1 (z_weak (z_ix X).2) (zor_ok (z_im X).1 (z_weak (z_im X).2) (zor_ok l1 (z_weak M1) (zor_ok l2 (z_weak M2) zor_nil))), ?_⟩
  refine (zlaw_pre zor_yes (fun κ => (zor_no (by decide)).trans (zor_yes κ))).trans (zlaw_sw.trans ?_)
  rw [h]
  exact zlaw_13 (fun κ => (zor_no (by decide)).trans ((zor_no (by decide)).trans (zor_yes κ))) h0 (fun κ => (zor_no (by decide)).trans ((zor_no (by decide)).trans ((zor_no (by decide)).trans (zor_yes κ))))
set_option maxRecDepth 100000 in
theorem zfin_14 (X : zX) (xs : Nat → Int32) (h : xs 0 &&& 31 = 14) : zFin X 6 xs := by
  obtain ⟨v, m1, m2, l1, l2, e3, ⟨fs, h0⟩, M1, M2⟩ := z_con (X := X) (zk_14)
  refine ⟨m2, zor 111 [.ref 0] [.inr (11, zdfX11)] none zfx (zor 164 [.ref 221] zfy none zfm (zor 126 (.ref 0 :: []) zfm (some (.int v)) m1 (zor 253 (.ref 221 :: []) m1 (some (.int v)) m2 (fun _ _ _ _ => none)))), l1.tr l2, e3, zor_ok (z_ix X).1 (z_weak (z_ix X).2) (zor_ok (z_im X).1 (z_weak (z_im X).2) (zor_ok l1 (z_weak M1) (zor_ok l2 (z_weak M2) zor_nil))), ?_⟩
  refine (zlaw_pre zor_yes (fun κ => (zor_no (by decide)).trans (zor_yes κ))).trans (zlaw_sw.trans ?_)
  rw [h]
  exact zlaw_14 (fun κ => (zor_no (by decide)).trans ((zor_no (by decide)).trans (zor_yes κ))) h0 (fun κ => (zor_no (by decide)).trans ((zor_no (by decide)).trans ((zor_no (by decide)).trans (zor_yes κ))))
set_option maxRecDepth 100000 in
theorem zfin_15 (X : zX) (xs : Nat → Int32) (h : xs 0 &&& 31 = 15) : zFin X 6 xs := by
  obtain ⟨v, m1, m2, l1, l2, e3, ⟨fs, h0⟩, M1, M2⟩ := z_con (X := X) (zk_15 (xs 1))
  refine ⟨m2, zor 111 [.ref 0] [.inr (11, zdfX11)] none zfx (zor 164 [.ref 221] zfy none zfm (zor 127 (.ref 0 :: [.int (xs 1)]) zfm (some (.int v)) m1 (zor 257 (.ref 221 :: [.int (xs 1)]) m1 (some (.int v)) m2 (fun _ _ _ _ => none)))), l1.tr l2, e3, zor_ok (z_ix X).1 (z_weak (z_ix X).2) (zor_ok (z_im X).1 (z_weak (z_im X).2) (zor_ok l1 (z_weak M1) (zor_ok l2 (z_weak M2) zor_nil))), ?_⟩
  refine (zlaw_pre zor_yes (fun κ => (zor_no (by decide)).trans (zor_yes κ))).trans (zlaw_sw.trans ?_)
  rw [h]
  exact zlaw_15 (fun κ => (zor_no (by decide)).trans ((zor_no (by decide)).trans (zor_yes κ))) h0 (fun κ => (zor_no (by decide)).trans ((zor_no (by decide)).trans ((zor_no (by decide)).trans (zor_yes κ))))
set_option maxRecDepth 100000 in
theorem zfin_16 (X : zX) (xs : Nat → Int32) (h : xs 0 &&& 31 = 16) : zFin X 6 xs := by
  obtain ⟨v, m1, m2, l1, l2, e3, ⟨fs, h0⟩, M1, M2⟩ := z_con (X := X) (zk_16 (xs 1))
  refine ⟨m2, zor 111 [.ref 0] [.inr (11, zdfX11)] none zfx (zor 164 [.ref 221] zfy none zfm (zor 128 (.ref 0 :: [.int (xs 1)]) zfm (some (.int v)) m1 (zor 258 (.ref 221 :: [.int (xs 1)]) m1 (some (.int v)) m2 (fun _ _ _ _ => none)))), l1.tr l2, e3, zor_ok (z_ix X).1 (z_weak (z_ix X).2) (zor_ok (z_im X).1 (z_weak (z_im X).2) (zor_ok l1 (z_weak M1) (zor_ok l2 (z_weak M2) zor_nil))), ?_⟩
  refine (zlaw_pre zor_yes (fun κ => (zor_no (by decide)).trans (zor_yes κ))).trans (zlaw_sw.trans ?_)
  rw [h]
  exact zlaw_16 (fun κ => (zor_no (by decide)).trans ((zor_no (by decide)).trans (zor_yes κ))) h0 (fun κ => (zor_no (by decide)).trans ((zor_no (by decide)).trans ((zor_no (by decide)).trans (zor_yes κ))))
set_option maxRecDepth 100000 in
theorem zfin_17 (X : zX) (xs : Nat → Int32) (h : xs 0 &&& 31 = 17) : zFin X 6 xs := by
  obtain ⟨v, m1, m2, l1, l2, e3, ⟨fs, h0⟩, M1, M2⟩ := z_con (X := X) (zk_17)
  refine ⟨m2, zor 111 [.ref 0] [.inr (11, zdfX11)] none zfx (zor 164 [.ref 221] zfy none zfm (zor 129 (.ref 0 :: []) zfm (some (.int v)) m1 (zor 259 (.ref 221 :: []) m1 (some (.int v)) m2 (fun _ _ _ _ => none)))), l1.tr l2, e3, zor_ok (z_ix X).1 (z_weak (z_ix X).2) (zor_ok (z_im X).1 (z_weak (z_im X).2) (zor_ok l1 (z_weak M1) (zor_ok l2 (z_weak M2) zor_nil))), ?_⟩
  refine (zlaw_pre zor_yes (fun κ => (zor_no (by decide)).trans (zor_yes κ))).trans (zlaw_sw.trans ?_)
  rw [h]
  exact zlaw_17 (fun κ => (zor_no (by decide)).trans ((zor_no (by decide)).trans (zor_yes κ))) h0 (fun κ => (zor_no (by decide)).trans ((zor_no (by decide)).trans ((zor_no (by decide)).trans (zor_yes κ))))
set_option maxRecDepth 100000 in
theorem zfin_18 (X : zX) (xs : Nat → Int32) (h : xs 0 &&& 31 = 18) : zFin X 6 xs := by
  obtain ⟨v, m1, m2, l1, l2, e3, ⟨fs, h0⟩, M1, M2⟩ := z_con (X := X) (zk_18 (xs 1))
  refine ⟨m2, zor 111 [.ref 0] [.inr (11, zdfX11)] none zfx (zor 164 [.ref 221] zfy none zfm (zor 130 (.ref 0 :: [.int (xs 1)]) zfm (some (.int v)) m1 (zor 261 (.ref 221 :: [.int (xs 1)]) m1 (some (.int v)) m2 (fun _ _ _ _ => none)))), l1.tr l2, e3, zor_ok (z_ix X).1 (z_weak (z_ix X).2) (zor_ok (z_im X).1 (z_weak (z_im X).2) (zor_ok l1 (z_weak M1) (zor_ok l2 (z_weak M2) zor_nil))), ?_⟩
  refine (zlaw_pre zor_yes (fun κ => (zor_no (by decide)).trans (zor_yes κ))).trans (zlaw_sw.trans ?_)
  rw [h]
  exact zlaw_18 (fun κ => (zor_no (by decide)).trans ((zor_no (by decide)).trans (zor_yes κ))) h0 (fun κ => (zor_no (by decide)).trans ((zor_no (by decide)).trans ((zor_no (by decide)).trans (zor_yes κ))))
set_option maxRecDepth 100000 in
theorem zfin_19 (X : zX) (xs : Nat → Int32) (h : xs 0 &&& 31 = 19) : zFin X 6 xs := by
  obtain ⟨v, m1, m2, l1, l2, e3, ⟨fs, h0⟩, M1, M2⟩ := z_con (X := X) (zk_19 (xs 1) (xs 2))
  refine ⟨m2, zor 111 [.ref 0] [.inr (11, zdfX11)] none zfx (zor 164 [.ref 221] zfy none zfm (zor 131 (.ref 0 :: [.int (xs 1), .int (xs 2)]) zfm (some (.int v)) m1 (zor 263 (.ref 221 :: [.int (xs 1), .int (xs 2)]) m1 (some (.int v)) m2 (fun _ _ _ _ => none)))), l1.tr l2, e3, zor_ok (z_ix X).1 (z_weak (z_ix X).2) (zor_ok (z_im X).1 (z_weak (z_im X).2) (zor_ok l1 (z_weak M1) (zor_ok l2 (z_weak M2) zor_nil))), ?_⟩
  refine (zlaw_pre zor_yes (fun κ => (zor_no (by decide)).trans (zor_yes κ))).trans (zlaw_sw.trans ?_)
  rw [h]
  exact zlaw_19 (fun κ => (zor_no (by decide)).trans ((zor_no (by decide)).trans (zor_yes κ))) h0 (fun κ => (zor_no (by decide)).trans ((zor_no (by decide)).trans ((zor_no (by decide)).trans (zor_yes κ))))
set_option maxRecDepth 100000 in
theorem zfin_20 (X : zX) (xs : Nat → Int32) (h : xs 0 &&& 31 = 20) : zFin X 6 xs := by
  obtain ⟨v, m1, m2, l1, l2, e3, ⟨fs, h0⟩, M1, M2⟩ := z_con (X := X) (zk_20 (xs 1))
  refine ⟨m2, zor 111 [.ref 0] [.inr (11, zdfX11)] none zfx (zor 164 [.ref 221] zfy none zfm (zor 132 (.ref 0 :: [.int (xs 1)]) zfm (some (.int v)) m1 (zor 264 (.ref 221 :: [.int (xs 1)]) m1 (some (.int v)) m2 (fun _ _ _ _ => none)))), l1.tr l2, e3, zor_ok (z_ix X).1 (z_weak (z_ix X).2) (zor_ok (z_im X).1 (z_weak (z_im X).2) (zor_ok l1 (z_weak M1) (zor_ok l2 (z_weak M2) zor_nil))), ?_⟩
  refine (zlaw_pre zor_yes (fun κ => (zor_no (by decide)).trans (zor_yes κ))).trans (zlaw_sw.trans ?_)
  rw [h]
  exact zlaw_20 (fun κ => (zor_no (by decide)).trans ((zor_no (by decide)).trans (zor_yes κ))) h0 (fun κ => (zor_no (by decide)).trans ((zor_no (by decide)).trans ((zor_no (by decide)).trans (zor_yes κ))))
set_option maxRecDepth 100000 in
theorem zfin_21 (X : zX) (xs : Nat → Int32) (h : xs 0 &&& 31 = 21) : zFin X 6 xs := by
  obtain ⟨v, m1, m2, l1, l2, e3, ⟨fs, h0⟩, M1, M2⟩ := z_con (X := X) (zk_21 (xs 1))
  refine ⟨m2, zor 111 [.ref 0] [.inr (11, zdfX11)] none zfx (zor 164 [.ref 221] zfy none zfm (zor 133 (.ref 0 :: [.int (xs 1)]) zfm (some (.int v)) m1 (zor 266 (.ref 221 :: [.int (xs 1)]) m1 (some (.int v)) m2 (fun _ _ _ _ => none)))), l1.tr l2, e3, zor_ok (z_ix X).1 (z_weak (z_ix X).2) (zor_ok (z_im X).1 (z_weak (z_im X).2) (zor_ok l1 (z_weak M1) (zor_ok l2 (z_weak M2) zor_nil))), ?_⟩
  refine (zlaw_pre zor_yes (fun κ => (zor_no (by decide)).trans (zor_yes κ))).trans (zlaw_sw.trans ?_)
  rw [h]
  exact zlaw_21 (fun κ => (zor_no (by decide)).trans ((zor_no (by decide)).trans (zor_yes κ))) h0 (fun κ => (zor_no (by decide)).trans ((zor_no (by decide)).trans ((zor_no (by decide)).trans (zor_yes κ))))
set_option maxRecDepth 100000 in
theorem zfin_22 (X : zX) (xs : Nat → Int32) (h : xs 0 &&& 31 = 22) : zFin X 6 xs := by
  obtain ⟨v, m1, m2, l1, l2, e3, ⟨fs, h0⟩, M1, M2⟩ := z_con (X := X) (zk_22 (xs 1))
  refine ⟨m2, zor 111 [.ref 0] [.inr (11, zdfX11)] none zfx (zor 164 [.ref 221] zfy none zfm (zor 134 (.ref 0 :: [.int (xs 1)]) zfm (some (.int v)) m1 (zor 268 (.ref 221 :: [.int (xs 1)]) m1 (some (.int v)) m2 (fun _ _ _ _ => none)))), l1.tr l2, e3, zor_ok (z_ix X).1 (z_weak (z_ix X).2) (zor_ok (z_im X).1 (z_weak (z_im X).2) (zor_ok l1 (z_weak M1) (zor_ok l2 (z_weak M2) zor_nil))), ?_⟩
  refine (zlaw_pre zor_yes (fun κ => (zor_no (by decide)).trans (zor_yes κ))).trans (zlaw_sw.trans ?_)
  rw [h]
  exact zlaw_22 (fun κ => (zor_no (by decide)).trans ((zor_no (by decide)).trans (zor_yes κ))) h0 (fun κ => (zor_no (by decide)).trans ((zor_no (by decide)).trans ((zor_no (by decide)).trans (zor_yes κ))))
set_option maxRecDepth 100000 in
theorem zfin_23 (X : zX) (xs : Nat → Int32) (h : xs 0 &&& 31 = 23) : zFin X 6 xs := by
  obtain ⟨v, m1, m2, l1, l2, e3, ⟨fs, h0⟩, M1, M2⟩ := z_con (X := X) (zk_23 (xs 1))
  refine ⟨m2, zor 111 [.ref 0] [.inr (11, zdfX11)] none zfx (zor 164 [.ref 221] zfy none zfm (zor 135 (.ref 0 :: [.int (xs 1)]) zfm (some (.int v)) m1 (zor 269 (.ref 221 :: [.int (xs 1)]) m1 (some (.int v)) m2 (fun _ _ _ _ => none)))), l1.tr l2, e3, zor_ok (z_ix X).1 (z_weak (z_ix X).2) (zor_ok (z_im X).1 (z_weak (z_im X).2) (zor_ok l1 (z_weak M1) (zor_ok l2 (z_weak M2) zor_nil))), ?_⟩
  refine (zlaw_pre zor_yes (fun κ => (zor_no (by decide)).trans (zor_yes κ))).trans (zlaw_sw.trans ?_)
  rw [h]
  exact zlaw_23 (fun κ => (zor_no (by decide)).trans ((zor_no (by decide)).trans (zor_yes κ))) h0 (fun κ => (zor_no (by decide)).trans ((zor_no (by decide)).trans ((zor_no (by decide)).trans (zor_yes κ))))
set_option maxRecDepth 100000 in
theorem zfin_24 (X : zX) (xs : Nat → Int32) (h : xs 0 &&& 31 = 24) : zFin X 6 xs := by
  obtain ⟨v, m1, m2, l1, l2, e3, ⟨fs, h0⟩, M1, M2⟩ := z_con (X := X) (zk_24 (xs 1) (xs 2) (xs 3))
  refine ⟨m2, zor 111 [.ref 0] [.inr (11, zdfX11)] none zfx (zor 164 [.ref 221] zfy none zfm (zor 136 (.ref 0 :: [.int (xs 1), .int (xs 2), .int (xs 3)]) zfm (some (.int v)) m1 (zor 270 (.ref 221 :: [.int (xs 1), .int (xs 2), .int (xs 3)]) m1 (some (.int v)) m2 (fun _ _ _ _ => none)))), l1.tr l2, e3, zor_ok (z_ix X).1 (z_weak (z_ix X).2) (zor_ok (z_im X).1 (z_weak (z_im X).2) (zor_ok l1 (z_weak M1) (zor_ok l2 (z_weak M2) zor_nil))), ?_⟩
  refine (zlaw_pre zor_yes (fun κ => (zor_no (by decide)).trans (zor_yes κ))).trans (zlaw_sw.trans ?_)
  rw [h]
  exact zlaw_24 (fun κ => (zor_no (by decide)).trans ((zor_no (by decide)).trans (zor_yes κ))) h0 (fun κ => (zor_no (by decide)).trans ((zor_no (by decide)).trans ((zor_no (by decide)).trans (zor_yes κ))))
set_option maxRecDepth 100000 in
theorem zfin_25 (X : zX) (xs : Nat → Int32) (h : xs 0 &&& 31 = 25) : zFin X 6 xs := by
  obtain ⟨v, m1, m2, l1, l2, e3, ⟨fs, h0⟩, M1, M2⟩ := z_con (X := X) (zk_25)
  refine ⟨m2, zor 111 [.ref 0] [.inr (11, zdfX11)] none zfx (zor 164 [.ref 221] zfy none zfm (zor 137 (.ref 0 :: []) zfm (some (.int v)) m1 (zor 214 (.ref 221 :: []) m1 (some (.int v)) m2 (fun _ _ _ _ => none)))), l1.tr l2, e3, zor_ok (z_ix X).1 (z_weak (z_ix X).2) (zor_ok (z_im X).1 (z_weak (z_im X).2) (zor_ok l1 (z_weak M1) (zor_ok l2 (z_weak M2) zor_nil))), ?_⟩
  refine (zlaw_pre zor_yes (fun κ => (zor_no (by decide)).trans (zor_yes κ))).trans (zlaw_sw.trans ?_)
  rw [h]
  exact zlaw_25 (fun κ => (zor_no (by decide)).trans ((zor_no (by decide)).trans (zor_yes κ))) h0 (fun κ => (zor_no (by decide)).trans ((zor_no (by decide)).trans ((zor_no (by decide)).trans (zor_yes κ))))
set_option maxRecDepth 100000 in
theorem zfin_26 (X : zX) (xs : Nat → Int32) (h : xs 0 &&& 31 = 26) : zFin X 6 xs := by
  obtain ⟨v, m1, m2, l1, l2, e3, ⟨fs, h0⟩, M1, M2⟩ := z_con (X := X) (zk_26 (xs 1))
  refine ⟨m2, zor 111 [.ref 0] [.inr (11, zdfX11)] none zfx (zor 164 [.ref 221] zfy none zfm (zor 138 (.ref 0 :: [.int (xs 1)]) zfm (some (.int v)) m1 (zor 271 (.ref 221 :: [.int (xs 1)]) m1 (some (.int v)) m2 (fun _ _ _ _ => none)))), l1.tr l2, e3, zor_ok (z_ix X).1 (z_weak (z_ix X).2) (zor_ok (z_im X).1 (z_weak (z_im X).2) (zor_ok l1 (z_weak M1) (zor_ok l2 (z_weak M2) zor_nil))), ?_⟩
  refine (zlaw_pre zor_yes (fun κ => (zor_no (by decide)).trans (zor_yes κ))).trans (zlaw_sw.trans ?_)
  rw [h]
  exact zlaw_26 (fun κ => (zor_no (by decide)).trans ((zor_no (by decide)).trans (zor_yes κ))) h0 (fun κ => (zor_no (by decide)).trans ((zor_no (by decide)).trans ((zor_no (by decide)).trans (zor_yes κ))))
set_option maxRecDepth 100000 in
theorem zfin_27 (X : zX) (xs : Nat → Int32) (h : xs 0 &&& 31 = 27) : zFin X 6 xs := by
  obtain ⟨v, m1, m2, l1, l2, e3, ⟨fs, h0⟩, M1, M2⟩ := z_con (X := X) (zk_27 (xs 1) (xs 2))
  refine ⟨m2, zor 111 [.ref 0] [.inr (11, zdfX11)] none zfx (zor 164 [.ref 221] zfy none zfm (zor 139 (.ref 0 :: [.int (xs 1), .int (xs 2)]) zfm (some (.int v)) m1 (zor 272 (.ref 221 :: [.int (xs 1), .int (xs 2)]) m1 (some (.int v)) m2 (fun _ _ _ _ => none)))), l1.tr l2, e3, zor_ok (z_ix X).1 (z_weak (z_ix X).2) (zor_ok (z_im X).1 (z_weak (z_im X).2) (zor_ok l1 (z_weak M1) (zor_ok l2 (z_weak M2) zor_nil))), ?_⟩
  refine (zlaw_pre zor_yes (fun κ => (zor_no (by decide)).trans (zor_yes κ))).trans (zlaw_sw.trans ?_)
  rw [h]
  exact zlaw_27 (fun κ => (zor_no (by decide)).trans ((zor_no (by decide)).trans (zor_yes κ))) h0 (fun κ => (zor_no (by decide)).trans ((zor_no (by decide)).trans ((zor_no (by decide)).trans (zor_yes κ))))
set_option maxRecDepth 100000 in
theorem zfin_28 (X : zX) (xs : Nat → Int32) (h : xs 0 &&& 31 = 28) : zFin X 6 xs := by
  obtain ⟨v, m1, m2, l1, l2, e3, ⟨fs, h0⟩, M1, M2⟩ := z_con (X := X) (zk_28)
  refine ⟨m2, zor 111 [.ref 0] [.inr (11, zdfX11)] none zfx (zor 164 [.ref 221] zfy none zfm (zor 140 (.ref 0 :: []) zfm (some (.int v)) m1 (zor 274 (.ref 221 :: []) m1 (some (.int v)) m2 (fun _ _ _ _ => none)))), l1.tr l2, e3, zor_ok (z_ix X).1 (z_weak (z_ix X).2) (zor_ok (z_im X).1 (z_weak (z_im X).2) (zor_ok l1 (z_weak M1) (zor_ok l2 (z_weak M2) zor_nil))), ?_⟩
  refine (zlaw_pre zor_yes (fun κ => (zor_no (by decide)).trans (zor_yes κ))).trans (zlaw_sw.trans ?_)
  rw [h]
  exact zlaw_28 (fun κ => (zor_no (by decide)).trans ((zor_no (by decide)).trans (zor_yes κ))) h0 (fun κ => (zor_no (by decide)).trans ((zor_no (by decide)).trans ((zor_no (by decide)).trans (zor_yes κ))))
set_option maxRecDepth 100000 in
theorem zfin_29 (X : zX) (xs : Nat → Int32) (h : xs 0 &&& 31 = 29) : zFin X 6 xs := by
  obtain ⟨v, m1, m2, l1, l2, e3, ⟨fs, h0⟩, M1, M2⟩ := z_con (X := X) (zk_29 (xs 1))
  refine ⟨m2, zor 111 [.ref 0] [.inr (11, zdfX11)] none zfx (zor 164 [.ref 221] zfy none zfm (zor 141 (.ref 0 :: [.int (xs 1)]) zfm (some (.int v)) m1 (zor 275 (.ref 221 :: [.int (xs 1)]) m1 (some (.int v)) m2 (fun _ _ _ _ => none)))), l1.tr l2, e3, zor_ok (z_ix X).1 (z_weak (z_ix X).2) (zor_ok (z_im X).1 (z_weak (z_im X).2) (zor_ok l1 (z_weak M1) (zor_ok l2 (z_weak M2) zor_nil))), ?_⟩
  refine (zlaw_pre zor_yes (fun κ => (zor_no (by decide)).trans (zor_yes κ))).trans (zlaw_sw.trans ?_)
  rw [h]
  exact zlaw_29 (fun κ => (zor_no (by decide)).trans ((zor_no (by decide)).trans (zor_yes κ))) h0 (fun κ => (zor_no (by decide)).trans ((zor_no (by decide)).trans ((zor_no (by decide)).trans (zor_yes κ))))
set_option maxRecDepth 100000 in
theorem zfin_30 (X : zX) (xs : Nat → Int32) (h : xs 0 &&& 31 = 30) : zFin X 6 xs := by
  obtain ⟨v, m1, m2, l1, l2, e3, ⟨fs, h0⟩, M1, M2⟩ := z_con (X := X) (zk_30)
  refine ⟨m2, zor 111 [.ref 0] [.inr (11, zdfX11)] none zfx (zor 164 [.ref 221] zfy none zfm (zor 142 (.ref 0 :: []) zfm (some (.int v)) m1 (zor 278 (.ref 221 :: []) m1 (some (.int v)) m2 (fun _ _ _ _ => none)))), l1.tr l2, e3, zor_ok (z_ix X).1 (z_weak (z_ix X).2) (zor_ok (z_im X).1 (z_weak (z_im X).2) (zor_ok l1 (z_weak M1) (zor_ok l2 (z_weak M2) zor_nil))), ?_⟩
  refine (zlaw_pre zor_yes (fun κ => (zor_no (by decide)).trans (zor_yes κ))).trans (zlaw_sw.trans ?_)
  rw [h]
  exact zlaw_30 (fun κ => (zor_no (by decide)).trans ((zor_no (by decide)).trans (zor_yes κ))) h0 (fun κ => (zor_no (by decide)).trans ((zor_no (by decide)).trans ((zor_no (by decide)).trans (zor_yes κ))))
set_option maxRecDepth 100000 in
theorem zfin_31 (X : zX) (xs : Nat → Int32) (h : xs 0 &&& 31 = 31) : zFin X 6 xs := by
  obtain ⟨v, m1, m2, l1, l2, e3, ⟨fs, h0⟩, M1, M2⟩ := z_con (X := X) (zk_31 (xs 1))
  refine ⟨m2, zor 111 [.ref 0] [.inr (11, zdfX11)] none zfx (zor 164 [.ref 221] zfy none zfm (zor 143 (.ref 0 :: [.int (xs 1)]) zfm (some (.int v)) m1 (zor 209 (.ref 221 :: [.int (xs 1)]) m1 (some (.int v)) m2 (fun _ _ _ _ => none)))), l1.tr l2, e3, zor_ok (z_ix X).1 (z_weak (z_ix X).2) (zor_ok (z_im X).1 (z_weak (z_im X).2) (zor_ok l1 (z_weak M1) (zor_ok l2 (z_weak M2) zor_nil))), ?_⟩
  refine (zlaw_pre zor_yes (fun κ => (zor_no (by decide)).trans (zor_yes κ))).trans (zlaw_sw.trans ?_)
  rw [h]
  exact zlaw_31 (fun κ => (zor_no (by decide)).trans ((zor_no (by decide)).trans (zor_yes κ))) h0 (fun κ => (zor_no (by decide)).trans ((zor_no (by decide)).trans ((zor_no (by decide)).trans (zor_yes κ))))
theorem zfin (X : zX) {L : Nat} (xs : Nat → Int32) (hL : L ≤ 6) : zFin X L xs := by
  rcases Nat.lt_or_ge L 6 with h | h
  · exact zfin_lt X xs h
  · obtain rfl : L = 6 := by omega
    rcases z_31 (xs 0) with h | h | h | h | h | h | h | h | h | h | h | h | h | h | h | h | h | h | h | h | h | h | h | h | h | h | h | h | h | h | h | h
    · exact zfin_0 X xs h
    · exact zfin_1 X xs h
    · exact zfin_2 X xs h
    · exact zfin_3 X xs h
    · exact zfin_4 X xs h
    · exact zfin_5 X xs h
    · exact zfin_6 X xs h
    · exact zfin_7 X xs h
    · exact zfin_8 X xs h
    · exact zfin_9 X xs h
    · exact zfin_10 X xs h
    · exact zfin_11 X xs h
    · exact zfin_12 X xs h
    · exact zfin_13 X xs h
    · exact zfin_14 X xs h
    · exact zfin_15 X xs h
    · exact zfin_16 X xs h
    · exact zfin_17 X xs h
    · exact zfin_18 X xs h
    · exact zfin_19 X xs h
    · exact zfin_20 X xs h
    · exact zfin_21 X xs h
    · exact zfin_22 X xs h
    · exact zfin_23 X xs h
    · exact zfin_24 X xs h
    · exact zfin_25 X xs h
    · exact zfin_26 X xs h
    · exact zfin_27 X xs h
    · exact zfin_28 X xs h
    · exact zfin_29 X xs h
    · exact zfin_30 X xs h
    · exact zfin_31 X xs h
theorem z_mono {p : Program} {l : Launch} {e : Env} {R : Room} {s : State} {m : MethodId} {args : Array Value} {below : List Frame} {meth : Method} {c : Code} {H : Heap} {locs : List Loc} {cells slots : Nat} {Q Q' : State → Prop} {f : JFrame} (h : ∀ t, Q t → Q' t) (k : W p l e R s m args below meth c H locs cells slots Q f) : W p l e R s m args below meth c H locs cells slots Q' f := fun T hT X => by
  obtain ⟨t, a, b⟩ := k T hT X
  exact ⟨t, a, h t b⟩
-- ===== YOUR PART BEGINS =====
theorem whole_start {p : Program} {e : Env} {s : State} {m : MethodId} {below : List Frame} {meth : Method} {c : Code} (l : Launch) (hflags : l.flags = flags0) {b L : Nat} {xs : Nat → Int32} (hL : L ≤ 6) (C0 : lw_At p s m meth c b L xs) : W p l e room_1 s m #[Value.ref b] below meth c s.heap [] 0 0 (lw_Z below #[Value.ref b] s) (entryFrame m ([Value.ref b] : List Value).toArray 4) := by
  obtain ⟨hx, hb, hr, hml, hown, hts, hX, hbl, hlocks, hgv⟩ := id C0
  obtain ⟨X, rfl, hXh, hX3, hK, hE⟩ := z_start l hts hX hbl hgv
  obtain ⟨mE, rec, l1, hm1, hrec, hgo⟩ := zfin X xs hL
  obtain ⟨r, mem', k1, k2, k3⟩ := zgo_s (zexL_ok L xs X) (kL L xs) hrec 1000 _ hgo
  simp only [Option.some.injEq, Prod.mk.injEq] at k1
  obtain ⟨rfl, rfl⟩ := k1
  have hsz : zsl mem' ≤ 100000 := by
    rw [← l1.2.2 (zfm_len.trans hm1.symm)]
    exact zfm_sl
  have hC : zC (zgL L xs) X iL_law 12 0 p room_1 s m #[Value.ref b] meth c := ⟨hx, hb, hml, hown, fun w hw => hts w (List.mem_filter.mp hw).1, hK, ⟨hE, b, hX3, by rw [hXh]; exact hbl, hX⟩, by rw [hXh]; rfl, hlocks, hr, fun q => absurd q (by decide), by decide, by decide⟩
  have hl := lv_entry ([.ref b]) (n := 4) (Nat.le_of_ble_eq_true rfl)
  rw [lg_entry_eq]
  generalize (lg_sl ([.ref b]) ++ List.replicate (4 - (lg_sl ([.ref b])).length) Slot.unset).toArray = ls at hl ⊢
  have hl : lv_has ls 4 (zlm (zH X) (zx X) [(0, .retAddr 3)]) := by
    have e1 : zlm (zH X) (zx X) [(0, .retAddr 3)] = [(0, .ref b)] := by
      show [(0, va_rf (zx X 3))] = _
      rw [hX3]
      rfl
    rw [e1]
    exact hl
  have := k3 0 0 p e room_1 s m #[Value.ref b] below meth c hC (by rw [hm1]; decide) (by show zsl mem' ≤ 0 + 7302250; omega) s.heap [] ls (Nat.le_refl _) (Nat.le_refl _) (fun k q h => by simp [zws] at h) va_S.rf hl
  refine z_mono ?_ this
  rintro t ⟨o, a1, a2, ⟨a3, -, -⟩, Lo, ⟨a4, a5, a6⟩, a7⟩
  refine ⟨o, a1, a2, a3, a4, a5, a6.weaken (fun y hy hlt => ?_) (by rw [hm1]; decide) (by omega)⟩
  have h9 : zH X ≤ y.base := a7 y hy
  rw [hXh] at h9
  exact absurd hlt (Nat.not_lt.mpr h9)
-- ===== YOUR PART ENDS =====
set_option maxHeartbeats 4000000 in
theorem lw_walk (l : Launch) (hflags : l.flags = flags0) (b : Addr) (xs : List Int32) : MetFree l x (headSpec (Jvm.Cond.code x code maxLocals ret :: tables_1) room_1) (lw_P b xs) (fun _ _ _ _ _ => True) lw_Q := by
  refine MetFree.of_bodyS (code := code) (maxLocals := maxLocals) (ret := ret) (by decide) ?_ ?_
  · intro args s m h hn
    obtain ⟨meth, c, h1, h2, h3, h4, h5, h6, -, -⟩ := Cond.code_spec hn (atoms_spec (ws := Jvm.Cond.code x code maxLocals ret :: tables_1) h _ List.mem_cons_self)
    exact ⟨meth, c, h1, h2, h3, h4, h5, h6⟩
  · intro p e s m args below meth c s₁ B hml0 hP _
    obtain ⟨rfl, hx, hbd, hgv⟩ := hP
    obtain ⟨scr, harrAt, hlist, hof, hsmall⟩ := hx
    obtain ⟨hcb, hkn, -, -⟩ := State.arrayAt?_spec harrAt
    have hown : s.vm.findClass R_law = some m.cls := findClass_of_methodNamed B.named
    have hts0 : ∀ c ∈ (Jvm.Cond.code x code maxLocals ret :: tables_1), c.before #[Value.ref b] s = true := atoms_spec (ws := Jvm.Cond.code x code maxLocals ret :: tables_1) B.pre
    have hts : ∀ w ∈ lw_tbl, w.before #[Value.ref b] s = true := k2_hts_sels lw_privs (fun w hw => hts0 w (List.mem_cons_of_mem _ hw)) lw_privs_ok
    have hml : c.maxLocals = 4 := B.maxLocals_eq (hts0 _ List.mem_cons_self)
    have X₀ : Stand p l e room_1 s m #[Value.ref b] below meth c s₁ [] 0 0 := Stand.of_body B
    have hh0 : s₁.heap = s.heap := by rw [B.state]; rfl
    have hsz : scr.slots.size = xs.length := by rw [← Array.length_toList, hlist, List.length_map]
    have hval : ∀ j : Nat, j < xs.length → scr.slots[j]? = some (.int (xs.getD j 0)) := fun j hj => by
      rw [← Array.getElem?_toList, hlist]
      simp [hj]
    have hbl : b < s.heap.size := (Array.getElem?_eq_some_iff.mp hcb).1
    have hX : va_X b xs.length (fun j => xs.getD j 0) s s.heap := ⟨scr, hcb, hof, hkn, hsz, hval⟩
    have K : W p l e room_1 s m #[Value.ref b] below meth c s₁.heap [] 0 0 (lw_Z below #[Value.ref b] s) (entryFrame m ([Value.ref b] : List Value).toArray 4) := by
      rw [hh0]
      exact whole_start l hflags hbd ⟨B.exec, B.bytes, B.returns, hml, hown, hts, hX, hbl, B.notSynchronized, hgv⟩
    obtain ⟨t, a1, o, b1, b2, b3⟩ := K s₁ rfl X₀
    exact ⟨t, o, a1, b1, b2, b3⟩
theorem lw_pre_spec {args : Array Value} {s : State} (h : (Jvm.Cond.and given_1 narrow_1).before args s = true) (hr : rest_1_c.before args s = true) : ∃ (b : Addr) (xs : List Int32), lw_P b xs args s := by
  have hs := flat_of_before _ h
  have hq := flat_of_before _ hr
  have hc : (Cond.count 1).before args s = true := hs _ (by decide +kernel)
  have harr : (Cond.arrayOf (.arg 0) .int).before args s = true := hs _ (by decide +kernel)
  have hle : (Cond.le (.length (.arg 0)) (.int 6)).before args s = true := hs _ (by decide +kernel)
  have hlen : (Cond.isInt (.length (.arg 0))).before args s = true := hq _ (by decide +kernel)
  have hall : (Cond.all (.arg 0) (.isInt (.elem (.arg 0) (.index 0)))).before args s = true := hq _ (by decide +kernel)
  obtain ⟨b, xs, hb, hx⟩ := State.ints_of_pre rfl harr hlen hall
  have hsm : xs.length < 2 ^ 31 := hx.choose_spec.2.2.2
  have hev : (Term.length (.arg 0)).eval args s none [] s = some (.int xs.length.toInt32) := hx.length_eval hb
  have hv := Cond.le_ints hev (show (Term.int 6).eval args s none [] s = some (.int 6) from rfl)
  have hd : xs.length.toInt32 ≤ 6 := by
    simpa [Cond.before, Cond.holds, hv] using hle
  have hN : xs.length ≤ 6 := (Int32.ofNat_le_ofNat hsm (by decide)).mp (show Int32.ofNat xs.length ≤ Int32.ofNat 6 from hd)
  exact ⟨b, xs, Cond.one_arg hc (show args[0]? = some (.ref b) from hb), hx, hN, h⟩
theorem lw_comes (l : Launch) (hflags : l.flags = flags0) : Comes l x (Jvm.Cond.code x code maxLocals ret :: tables_1) room_1 (fun tb e args s => Calls_1 tb e args s ∧ rest_1 tb e args s ∧ Pre_1 tb e args s)
    (fun _ _ args s o t => lw_Q args s o t) := by
  intro p e ha hc hk s m args below hf hfit hheap happ hpre
  obtain ⟨b, xs, hP⟩ := lw_pre_spec hpre.2.2 hpre.2.1
  obtain ⟨k, o, h1, h2, h3, hQ⟩ := lw_walk l hflags b xs p e ha hc hk s m args below hf ((Spec.applies_iff_loose hf).mp happ).1 hP trivial
  exact ⟨k, o, h1, h2, h3, hQ⟩
theorem lw_frame {s t : State} {o : Outcome} {args : Array Value} (h : Framed s o t [] 600000 7302250) :
    Framed s o t (fieldLocs frame_1_writes args s ++ arrayLocs frame_1_arrays args s ++ staticLocs frame_1_statics s) 600000 7302250 := h
theorem lw_limb (L : Cond) (hL : ∀ (args : Array Value) (s t : State), L.after args s (.returned (some (.int 1))) t = true) :
    ArmFor flags0 classFile x code maxLocals ret World_1 tables_1 room_1 Calls_1 rest_1 Pre_1
      (fun tb e a s o t => postC L tb e a s o t ∧ Framed s o t (fieldLocs frame_1_writes a s ++ arrayLocs frame_1_arrays a s ++ staticLocs frame_1_statics s) 600000 7302250) := by
  intro l hflags _ _ p e ha hc hk s m args below hf hfit hheap happ hpre
  obtain ⟨k, o, h1, h2, h3, rfl, hF⟩ := lw_comes l hflags p e ha hc hk s m args below hf hfit hheap happ hpre
  exact ⟨k, _, h1, h2, h3, hL args s _, lw_frame hF⟩
theorem i_vc : Claimed_1_1 ∧ Claimed_1_2 := ⟨lw_limb limb_1_1 (fun args s t => by simp [limb_1_1, Cond.after, Cond.holds, Cond.value]), lw_limb limb_1_2 (fun args s t => Cond.after_iff.mpr (by
  first | (rw [show limb_1_2 = Cond.eq .result (.int 1) from rfl, Cond.eq_ints (x := 1) (y := 1) rfl rfl]; simp; done) | (simp [limb_1_2, Cond.value, Term.eval]; done)))⟩

