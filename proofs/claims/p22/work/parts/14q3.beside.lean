/-! cells of the model, and the one beside -/
def isB (v : Int32) (p : Prop) : Prop := (v.toInt = 1 ∧ p) ∨ (v.toInt = 0 ∧ ¬ p)
theorem isB_0 {v : Int32} {p : Prop} (h : isB v p) (k : v.toInt = 0) : ¬ p := by
  rcases h with ⟨h1, -⟩ | ⟨-, h2⟩
  · omega
  · exact h2
theorem isB_1 {v : Int32} {p : Prop} (h : isB v p) (k : ¬ v.toInt = 0) : p := by
  rcases h with ⟨-, h2⟩ | ⟨h1, -⟩
  · exact h2
  · exact absurd h1 k
def bkN (m : zM) : Nat := (gi m 221 13).toInt.toNat
def colsI (m : zM) : Int := ((ga m 223).getD (bkN m) 0).toInt
def rowsI (m : zM) : Int := ((ga m 224).getD (bkN m) 0).toInt
def szOK (m : zM) : Prop := 0 ≤ colsI m ∧ colsI m ≤ 7 ∧ 0 ≤ rowsI m ∧ rowsI m ≤ 7
def inC (m : zM) (x y : Int) : Prop := ¬ (gi m 221 46).toInt = 0 ∧ 0 ≤ x ∧ x < colsI m ∧ 0 ≤ y ∧ y < rowsI m
def wal (m : zM) (c : Int) : Prop := ((ga m 227).getD (64 * bkN m + c.toNat) 0).toInt = 1
def dX (w : Int) : Int := if w = 1 then 1 else if w = 3 then -1 else 0
def dY (w : Int) : Int := if w = 2 then 1 else if w = 0 then -1 else 0
def frC (m : zM) (x y : Int) : Prop := inC m x y ∧ ¬ wal m (8 * y + x)
def besR (m : zM) (c w v : Int) : Prop := (v = -1 ∧ ¬ frC m (c % 8 + dX w) (c / 8 + dY w)) ∨ (v = 8 * (c / 8 + dY w) + (c % 8 + dX w) ∧ frC m (c % 8 + dX w) (c / 8 + dY w))
theorem bes_no {m : zM} {c w X Y v : Int} (hX : X = c % 8 + dX w) (hY : Y = c / 8 + dY w) (hv : v = -1) (h : ¬ frC m X Y) : besR m c w v := by
  subst hX hY
  exact Or.inl ⟨hv, h⟩
theorem bes_yes {m : zM} {c w X Y v : Int} (hX : X = c % 8 + dX w) (hY : Y = c / 8 + dY w) (hv : v = 8 * Y + X) (h : frC m X Y) : besR m c w v := by
  subst hX hY
  exact Or.inr ⟨hv, h⟩
theorem bk_rg {m : zM} (hm : aTm aT0 m) : 0 ≤ (gi m 221 13).toInt ∧ (gi m 221 13).toInt ≤ 1 := gi_rg mO_e mO_13 hm
theorem gx_bk {m : zM} (hm : aTm aT0 m) (l : List Int32) : gx l (gi m 221 13) = l.getD (bkN m) 0 := gx_n (by have := bk_rg hm; unfold bkN; omega)
theorem ti_rem8 {x : Int32} (h : 0 ≤ x.toInt) : (x - x / 8 * 8).toInt = x.toInt % 8 := by
  rw [i32_rem (y := 8) (by decide), Int.tmod_eq_emod_of_nonneg h]
  rfl
theorem ti_div8 {x : Int32} (h : 0 ≤ x.toInt) : (x / 8).toInt = x.toInt / 8 := by
  rw [i32_div (y := 8) (by decide), Int.tdiv_eq_ediv_of_nonneg h]
  rfl
set_option maxRecDepth 100000 in
theorem w_isCell {d : Nat} {mem : zM} {P : Option Value → zM → Prop} {x y : Int32} (hm : aTm aT0 mem) (h1 : (gi mem 221 46).toInt = 0 → aTm aT0 mem → P (some (.int 0)) mem) (s1 : ¬ (gi mem 221 46).toInt = 0 → (0 : Int) ≤ ((gi mem 221 13)).toInt ∧ ((gi mem 221 13)).toInt < 2) (h2 : ¬ (gi mem 221 46).toInt = 0 → (x).toInt < 0 → aTm aT0 mem → P (some (.int 0)) mem) (h3 : ¬ (gi mem 221 46).toInt = 0 → 0 ≤ (x).toInt → ((gx (ga mem 223) (gi mem 221 13)) - 1).toInt < (x).toInt → aTm aT0 mem → P (some (.int 0)) mem) (s2 : ¬ (gi mem 221 46).toInt = 0 → 0 ≤ (x).toInt → (x).toInt ≤ ((gx (ga mem 223) (gi mem 221 13)) - 1).toInt → (0 : Int) ≤ ((gi mem 221 13)).toInt ∧ ((gi mem 221 13)).toInt < 2) (h4 : ¬ (gi mem 221 46).toInt = 0 → 0 ≤ (x).toInt → (x).toInt ≤ ((gx (ga mem 223) (gi mem 221 13)) - 1).toInt → (y).toInt < 0 → aTm aT0 mem → P (some (.int 0)) mem) (h5 : ¬ (gi mem 221 46).toInt = 0 → 0 ≤ (x).toInt → (x).toInt ≤ ((gx (ga mem 223) (gi mem 221 13)) - 1).toInt → 0 ≤ (y).toInt → ((gx (ga mem 224) (gi mem 221 13)) - 1).toInt < (y).toInt → aTm aT0 mem → P (some (.int 0)) mem) (h6 : ¬ (gi mem 221 46).toInt = 0 → 0 ≤ (x).toInt → (x).toInt ≤ ((gx (ga mem 223) (gi mem 221 13)) - 1).toInt → 0 ≤ (y).toInt → (y).toInt ≤ ((gx (ga mem 224) (gi mem 221 13)) - 1).toInt → aTm aT0 mem → P (some (.int 1)) mem) : yR zpg tX12_isCell (d + 1) (0, [(0, .ref 221), (1, .int x), (2, .int y)], [], mem) P := by
  refine yR_m 1 (fun _ _ _ _ => rfl) ?_
  refine wR_gi rfl mO_e mO_46 hm rfl ?_
  refine wR_if_eq rfl (a := (gi mem 221 46).toInt) rfl (fun q1 => ?_) (fun q1 => ?_)
  ·
    refine yR_m 1 (fun _ _ _ _ => rfl) ?_
    exact yR_rz rfl ⟨by decide, by decide⟩ (h1 q1 hm)
  ·
    refine yR_m 3 (fun _ _ _ _ => rfl) ?_
    refine wR_gr rfl mO_e mO_14 hm ?_
    refine yR_m 1 (fun _ _ _ _ => rfl) ?_
    refine wR_gi rfl mO_e mO_13 hm rfl ?_
    refine wR_al rfl aR_223 hm rfl (s1 q1) ?_
    refine yR_m 2 (fun _ _ _ _ => rfl) ?_
    refine wR_is rfl rfl rfl rfl rfl rfl ?_
    show yR zpg tX12_is d (0, [(0, .int x), (1, .int 0), (2, .int ((gx (ga mem 223) (gi mem 221 13)) - 1))], [], mem) _
    refine yR_m 2 (fun _ _ _ _ => rfl) ?_
    refine wR_ic_lt rfl (a := (x).toInt) (c := 0) rfl rfl (fun q2 => ?_) (fun q2 => ?_)
    ·
      refine yR_m 1 (fun _ _ _ _ => rfl) ?_
      refine yR_rz rfl ⟨by decide, by decide⟩ ?_
      show yR zpg tX12_isCell (d + 1) (23, [(0, .ref 221), (1, .int x), (2, .int y)], [.int 0], mem) _
      refine wR_if_eq rfl (a := 0) rfl (fun _ => ?_) (fun q => by exfalso; omega)
      refine yR_m 1 (fun _ _ _ _ => rfl) ?_
      exact yR_rz rfl ⟨by decide, by decide⟩ (h2 q1 q2 hm)
    ·
      refine yR_m 2 (fun _ _ _ _ => rfl) ?_
      refine wR_ic_gt rfl (a := (x).toInt) (c := ((gx (ga mem 223) (gi mem 221 13)) - 1).toInt) rfl rfl (fun q3 => ?_) (fun q3 => ?_)
      ·
        refine yR_m 1 (fun _ _ _ _ => rfl) ?_
        refine yR_rz rfl ⟨by decide, by decide⟩ ?_
        show yR zpg tX12_isCell (d + 1) (23, [(0, .ref 221), (1, .int x), (2, .int y)], [.int 0], mem) _
        refine wR_if_eq rfl (a := 0) rfl (fun _ => ?_) (fun q => by exfalso; omega)
        refine yR_m 1 (fun _ _ _ _ => rfl) ?_
        exact yR_rz rfl ⟨by decide, by decide⟩ (h3 q1 q2 q3 hm)
      ·
        refine yR_m 2 (fun _ _ _ _ => rfl) ?_
        refine yR_rz rfl ⟨by decide, by decide⟩ ?_
        show yR zpg tX12_isCell (d + 1) (23, [(0, .ref 221), (1, .int x), (2, .int y)], [.int 1], mem) _
        refine wR_if_eq rfl (a := 1) rfl (fun q => by exfalso; omega) (fun _ => ?_)
        refine yR_m 3 (fun _ _ _ _ => rfl) ?_
        refine wR_gr rfl mO_e mO_15 hm ?_
        refine yR_m 1 (fun _ _ _ _ => rfl) ?_
        refine wR_gi rfl mO_e mO_13 hm rfl ?_
        refine wR_al rfl aR_224 hm rfl (s2 q1 q2 q3) ?_
        refine yR_m 2 (fun _ _ _ _ => rfl) ?_
        refine wR_is rfl rfl rfl rfl rfl rfl ?_
        show yR zpg tX12_is d (0, [(0, .int y), (1, .int 0), (2, .int ((gx (ga mem 224) (gi mem 221 13)) - 1))], [], mem) _
        refine yR_m 2 (fun _ _ _ _ => rfl) ?_
        refine wR_ic_lt rfl (a := (y).toInt) (c := 0) rfl rfl (fun q4 => ?_) (fun q4 => ?_)
        ·
          refine yR_m 1 (fun _ _ _ _ => rfl) ?_
          refine yR_rz rfl ⟨by decide, by decide⟩ ?_
          show yR zpg tX12_isCell (d + 1) (42, [(0, .ref 221), (1, .int x), (2, .int y)], [.int 0], mem) _
          refine wR_if_eq rfl (a := 0) rfl (fun _ => ?_) (fun q => by exfalso; omega)
          refine yR_m 1 (fun _ _ _ _ => rfl) ?_
          exact yR_rz rfl ⟨by decide, by decide⟩ (h4 q1 q2 q3 q4 hm)
        ·
          refine yR_m 2 (fun _ _ _ _ => rfl) ?_
          refine wR_ic_gt rfl (a := (y).toInt) (c := ((gx (ga mem 224) (gi mem 221 13)) - 1).toInt) rfl rfl (fun q5 => ?_) (fun q5 => ?_)
          ·
            refine yR_m 1 (fun _ _ _ _ => rfl) ?_
            refine yR_rz rfl ⟨by decide, by decide⟩ ?_
            show yR zpg tX12_isCell (d + 1) (42, [(0, .ref 221), (1, .int x), (2, .int y)], [.int 0], mem) _
            refine wR_if_eq rfl (a := 0) rfl (fun _ => ?_) (fun q => by exfalso; omega)
            refine yR_m 1 (fun _ _ _ _ => rfl) ?_
            exact yR_rz rfl ⟨by decide, by decide⟩ (h5 q1 q2 q3 q4 q5 hm)
          ·
            refine yR_m 2 (fun _ _ _ _ => rfl) ?_
            refine yR_rz rfl ⟨by decide, by decide⟩ ?_
            show yR zpg tX12_isCell (d + 1) (42, [(0, .ref 221), (1, .int x), (2, .int y)], [.int 1], mem) _
            refine wR_if_eq rfl (a := 1) rfl (fun q => by exfalso; omega) (fun _ => ?_)
            refine yR_m 2 (fun _ _ _ _ => rfl) ?_
            exact yR_rz rfl ⟨by decide, by decide⟩ (h6 q1 q2 q3 q4 q5 hm)

set_option maxRecDepth 100000 in
theorem w_isWall {d : Nat} {mem : zM} {P : Option Value → zM → Prop} {x : Int32} (hm : aTm aT0 mem) (s1 : (0 : Int) ≤ (((64 * (gi mem 221 13)) + x)).toInt ∧ (((64 * (gi mem 221 13)) + x)).toInt < 128) (h1 : ¬ (gx (ga mem 227) ((64 * (gi mem 221 13)) + x)).toInt = 1 → aTm aT0 mem → P (some (.int 0)) mem) (h2 : (gx (ga mem 227) ((64 * (gi mem 221 13)) + x)).toInt = 1 → aTm aT0 mem → P (some (.int 1)) mem) : yR zpg tX12_isWall d (0, [(0, .ref 221), (1, .int x)], [], mem) P := by
  refine yR_m 1 (fun _ _ _ _ => rfl) ?_
  refine wR_gr rfl mO_e mO_18 hm ?_
  refine yR_m 2 (fun _ _ _ _ => rfl) ?_
  refine wR_gi rfl mO_e mO_13 hm rfl ?_
  refine yR_m 3 (fun _ _ _ _ => rfl) ?_
  refine wR_al rfl aR_227 hm rfl s1 ?_
  refine yR_m 1 (fun _ _ _ _ => rfl) ?_
  refine wR_ic_ne rfl (a := (gx (ga mem 227) ((64 * (gi mem 221 13)) + x)).toInt) (c := 1) rfl rfl (fun q1 => ?_) (fun q1 => ?_)
  ·
    refine yR_m 1 (fun _ _ _ _ => rfl) ?_
    exact yR_rz rfl ⟨by decide, by decide⟩ (h1 q1 hm)
  ·
    refine yR_m 2 (fun _ _ _ _ => rfl) ?_
    exact yR_rz rfl ⟨by decide, by decide⟩ (h2 q1 hm)

theorem c_isCell {d : Nat} {x y : Int32} {mem : zM} (hm : aTm aT0 mem) (hz : szOK mem) (hd : 2 ≤ d) : yC zpg d 221 [.ref 221, .int x, .int y] mem (fun r m => ∃ v : Int32, r = some (.int v) ∧ mem = m ∧ isB v (inC mem x.toInt y.toInt)) := by
  obtain ⟨d, rfl⟩ : ∃ q, d = q + 2 := ⟨d - 2, by omega⟩
  have hb := bk_rg hm
  obtain ⟨z1, z2, z3, z4⟩ := hz
  have ec : ((gx (ga mem 223) (gi mem 221 13)) - 1).toInt = colsI mem - 1 := ti_sub (by rw [gx_bk hm]; rfl) rfl (by omega) (by omega)
  have er : ((gx (ga mem 224) (gi mem 221 13)) - 1).toInt = rowsI mem - 1 := ti_sub (by rw [gx_bk hm]; rfl) rfl (by omega) (by omega)
  have no : ∀ p : Prop, ¬ p → isB 0 p := fun p h => Or.inr ⟨rfl, h⟩
  refine yC_of (t := tX12_isCell) rfl rfl ?_
  refine w_isCell hm ?_ ?_ ?_ ?_ ?_ ?_ ?_ ?_
  · exact fun q1 _ => ⟨_, rfl, rfl, no _ (fun k => k.1 q1)⟩
  · exact fun _ => by omega
  · exact fun _ q2 _ => ⟨_, rfl, rfl, no _ (fun k => by have := k.2.1; omega)⟩
  · exact fun _ _ q2 _ => ⟨_, rfl, rfl, no _ (fun k => by have := k.2.2.1; omega)⟩
  · exact fun _ _ _ => by omega
  · exact fun _ _ _ q2 _ => ⟨_, rfl, rfl, no _ (fun k => by have := k.2.2.2.1; omega)⟩
  · exact fun _ _ _ _ q2 _ => ⟨_, rfl, rfl, no _ (fun k => by have := k.2.2.2.2; omega)⟩
  · exact fun q1 q2 q3 q4 q5 _ => ⟨_, rfl, rfl, Or.inl ⟨rfl, q1, q2, by omega, q4, by omega⟩⟩
theorem c_isWall {d : Nat} {x : Int32} {mem : zM} (hm : aTm aT0 mem) (hd : 1 ≤ d) (hx : 0 ≤ x.toInt ∧ x.toInt < 64) : yC zpg d 223 [.ref 221, .int x] mem (fun r m => ∃ v : Int32, r = some (.int v) ∧ mem = m ∧ isB v (wal mem x.toInt)) := by
  obtain ⟨d, rfl⟩ : ∃ q, d = q + 1 := ⟨d - 1, by omega⟩
  have hb := bk_rg hm
  have ei : ((64 * (gi mem 221 13)) + x).toInt = 64 * (gi mem 221 13).toInt + x.toInt := ti_add (ti_mul rfl rfl (by omega) (by omega)) rfl (by omega) (by omega)
  have en : gx (ga mem 227) ((64 * (gi mem 221 13)) + x) = (ga mem 227).getD (64 * bkN mem + x.toInt.toNat) 0 := gx_n (by unfold bkN; omega)
  refine yC_of (t := tX12_isWall) rfl rfl ?_
  refine w_isWall hm ?_ ?_ ?_
  · omega
  · exact fun q _ => ⟨_, rfl, rfl, Or.inr ⟨rfl, fun k => q (by rw [en]; exact k)⟩⟩
  · exact fun q _ => ⟨_, rfl, rfl, Or.inl ⟨rfl, by rw [en] at q; exact q⟩⟩
set_option maxRecDepth 100000 in
theorem w_besideOf {d : Nat} {mem : zM} {P : Option Value → zM → Prop} {x y : Int32} (hm : aTm aT0 mem) (s1 : (0 : Int) ≤ (x).toInt) (s2 : ∀ (x1 : Int32), x1.toInt = ((x).toInt % 8) → ¬ (y).toInt = 1 → ¬ (y).toInt = 3 → (-2147483648 : Int) ≤ (((x).toInt % 8) + 0) ∧ (((x).toInt % 8) + 0) ≤ 2147483647) (s3 : ∀ (x1 : Int32), x1.toInt = ((x).toInt % 8) → ¬ (y).toInt = 1 → ¬ (y).toInt = 3 → ∀ (x5 : Int32), x5.toInt = (((x).toInt % 8) + 0) → (0 : Int) ≤ (x).toInt) (s4 : ∀ (x1 : Int32), x1.toInt = ((x).toInt % 8) → ¬ (y).toInt = 1 → ¬ (y).toInt = 3 → ∀ (x5 : Int32), x5.toInt = (((x).toInt % 8) + 0) → ∀ (x7 : Int32), x7.toInt = ((x).toInt / 8) → ¬ (y).toInt = 2 → ¬ (y).toInt = 0 → (-2147483648 : Int) ≤ (((x).toInt / 8) + 0) ∧ (((x).toInt / 8) + 0) ≤ 2147483647) (s5 : szOK mem) (h1 : ∀ (x1 : Int32), x1.toInt = ((x).toInt % 8) → ¬ (y).toInt = 1 → ¬ (y).toInt = 3 → ∀ (x5 : Int32), x5.toInt = (((x).toInt % 8) + 0) → ∀ (x7 : Int32), x7.toInt = ((x).toInt / 8) → ¬ (y).toInt = 2 → ¬ (y).toInt = 0 → ∀ (x11 : Int32), x11.toInt = (((x).toInt / 8) + 0) → ∀ (v13 : Int32), isB v13 (inC mem (x5).toInt (x11).toInt) → (v13).toInt = 0 → aTm aT0 mem → P (some (.int (-1))) mem) (s6 : ∀ (x1 : Int32), x1.toInt = ((x).toInt % 8) → ¬ (y).toInt = 1 → ¬ (y).toInt = 3 → ∀ (x5 : Int32), x5.toInt = (((x).toInt % 8) + 0) → ∀ (x7 : Int32), x7.toInt = ((x).toInt / 8) → ¬ (y).toInt = 2 → ¬ (y).toInt = 0 → ∀ (x11 : Int32), x11.toInt = (((x).toInt / 8) + 0) → ∀ (v13 : Int32), isB v13 (inC mem (x5).toInt (x11).toInt) → ¬ (v13).toInt = 0 → (-2147483648 : Int) ≤ (8 * (((x).toInt / 8) + 0)) ∧ (8 * (((x).toInt / 8) + 0)) ≤ 2147483647) (s7 : ∀ (x1 : Int32), x1.toInt = ((x).toInt % 8) → ¬ (y).toInt = 1 → ¬ (y).toInt = 3 → ∀ (x5 : Int32), x5.toInt = (((x).toInt % 8) + 0) → ∀ (x7 : Int32), x7.toInt = ((x).toInt / 8) → ¬ (y).toInt = 2 → ¬ (y).toInt = 0 → ∀ (x11 : Int32), x11.toInt = (((x).toInt / 8) + 0) → ∀ (v13 : Int32), isB v13 (inC mem (x5).toInt (x11).toInt) → ¬ (v13).toInt = 0 → ∀ (x16 : Int32), x16.toInt = (8 * (((x).toInt / 8) + 0)) → (-2147483648 : Int) ≤ ((8 * (((x).toInt / 8) + 0)) + (((x).toInt % 8) + 0)) ∧ ((8 * (((x).toInt / 8) + 0)) + (((x).toInt % 8) + 0)) ≤ 2147483647) (s8 : ∀ (x1 : Int32), x1.toInt = ((x).toInt % 8) → ¬ (y).toInt = 1 → ¬ (y).toInt = 3 → ∀ (x5 : Int32), x5.toInt = (((x).toInt % 8) + 0) → ∀ (x7 : Int32), x7.toInt = ((x).toInt / 8) → ¬ (y).toInt = 2 → ¬ (y).toInt = 0 → ∀ (x11 : Int32), x11.toInt = (((x).toInt / 8) + 0) → ∀ (v13 : Int32), isB v13 (inC mem (x5).toInt (x11).toInt) → ¬ (v13).toInt = 0 → ∀ (x16 : Int32), x16.toInt = (8 * (((x).toInt / 8) + 0)) → ∀ (x18 : Int32), x18.toInt = ((8 * (((x).toInt / 8) + 0)) + (((x).toInt % 8) + 0)) → (0 : Int) ≤ (x18).toInt ∧ (x18).toInt < 64) (h2 : ∀ (x1 : Int32), x1.toInt = ((x).toInt % 8) → ¬ (y).toInt = 1 → ¬ (y).toInt = 3 → ∀ (x5 : Int32), x5.toInt = (((x).toInt % 8) + 0) → ∀ (x7 : Int32), x7.toInt = ((x).toInt / 8) → ¬ (y).toInt = 2 → ¬ (y).toInt = 0 → ∀ (x11 : Int32), x11.toInt = (((x).toInt / 8) + 0) → ∀ (v13 : Int32), isB v13 (inC mem (x5).toInt (x11).toInt) → ¬ (v13).toInt = 0 → ∀ (x16 : Int32), x16.toInt = (8 * (((x).toInt / 8) + 0)) → ∀ (x18 : Int32), x18.toInt = ((8 * (((x).toInt / 8) + 0)) + (((x).toInt % 8) + 0)) → ∀ (v20 : Int32), isB v20 (wal mem (x18).toInt) → ¬ (v20).toInt = 0 → aTm aT0 mem → P (some (.int (-1))) mem) (s9 : ∀ (x1 : Int32), x1.toInt = ((x).toInt % 8) → ¬ (y).toInt = 1 → ¬ (y).toInt = 3 → ∀ (x5 : Int32), x5.toInt = (((x).toInt % 8) + 0) → ∀ (x7 : Int32), x7.toInt = ((x).toInt / 8) → ¬ (y).toInt = 2 → ¬ (y).toInt = 0 → ∀ (x11 : Int32), x11.toInt = (((x).toInt / 8) + 0) → ∀ (v13 : Int32), isB v13 (inC mem (x5).toInt (x11).toInt) → ¬ (v13).toInt = 0 → ∀ (x16 : Int32), x16.toInt = (8 * (((x).toInt / 8) + 0)) → ∀ (x18 : Int32), x18.toInt = ((8 * (((x).toInt / 8) + 0)) + (((x).toInt % 8) + 0)) → ∀ (v20 : Int32), isB v20 (wal mem (x18).toInt) → (v20).toInt = 0 → (-2147483648 : Int) ≤ (8 * (((x).toInt / 8) + 0)) ∧ (8 * (((x).toInt / 8) + 0)) ≤ 2147483647) (s10 : ∀ (x1 : Int32), x1.toInt = ((x).toInt % 8) → ¬ (y).toInt = 1 → ¬ (y).toInt = 3 → ∀ (x5 : Int32), x5.toInt = (((x).toInt % 8) + 0) → ∀ (x7 : Int32), x7.toInt = ((x).toInt / 8) → ¬ (y).toInt = 2 → ¬ (y).toInt = 0 → ∀ (x11 : Int32), x11.toInt = (((x).toInt / 8) + 0) → ∀ (v13 : Int32), isB v13 (inC mem (x5).toInt (x11).toInt) → ¬ (v13).toInt = 0 → ∀ (x16 : Int32), x16.toInt = (8 * (((x).toInt / 8) + 0)) → ∀ (x18 : Int32), x18.toInt = ((8 * (((x).toInt / 8) + 0)) + (((x).toInt % 8) + 0)) → ∀ (v20 : Int32), isB v20 (wal mem (x18).toInt) → (v20).toInt = 0 → ∀ (x23 : Int32), x23.toInt = (8 * (((x).toInt / 8) + 0)) → (-2147483648 : Int) ≤ ((8 * (((x).toInt / 8) + 0)) + (((x).toInt % 8) + 0)) ∧ ((8 * (((x).toInt / 8) + 0)) + (((x).toInt % 8) + 0)) ≤ 2147483647) (h3 : ∀ (x1 : Int32), x1.toInt = ((x).toInt % 8) → ¬ (y).toInt = 1 → ¬ (y).toInt = 3 → ∀ (x5 : Int32), x5.toInt = (((x).toInt % 8) + 0) → ∀ (x7 : Int32), x7.toInt = ((x).toInt / 8) → ¬ (y).toInt = 2 → ¬ (y).toInt = 0 → ∀ (x11 : Int32), x11.toInt = (((x).toInt / 8) + 0) → ∀ (v13 : Int32), isB v13 (inC mem (x5).toInt (x11).toInt) → ¬ (v13).toInt = 0 → ∀ (x16 : Int32), x16.toInt = (8 * (((x).toInt / 8) + 0)) → ∀ (x18 : Int32), x18.toInt = ((8 * (((x).toInt / 8) + 0)) + (((x).toInt % 8) + 0)) → ∀ (v20 : Int32), isB v20 (wal mem (x18).toInt) → (v20).toInt = 0 → ∀ (x23 : Int32), x23.toInt = (8 * (((x).toInt / 8) + 0)) → ∀ (x25 : Int32), x25.toInt = ((8 * (((x).toInt / 8) + 0)) + (((x).toInt % 8) + 0)) → aTm aT0 mem → P (some (.int x25)) mem) (s11 : ∀ (x1 : Int32), x1.toInt = ((x).toInt % 8) → ¬ (y).toInt = 1 → ¬ (y).toInt = 3 → ∀ (x5 : Int32), x5.toInt = (((x).toInt % 8) + 0) → ∀ (x7 : Int32), x7.toInt = ((x).toInt / 8) → ¬ (y).toInt = 2 → (y).toInt = 0 → (-2147483648 : Int) ≤ (((x).toInt / 8) + (-1)) ∧ (((x).toInt / 8) + (-1)) ≤ 2147483647) (h4 : ∀ (x1 : Int32), x1.toInt = ((x).toInt % 8) → ¬ (y).toInt = 1 → ¬ (y).toInt = 3 → ∀ (x5 : Int32), x5.toInt = (((x).toInt % 8) + 0) → ∀ (x7 : Int32), x7.toInt = ((x).toInt / 8) → ¬ (y).toInt = 2 → (y).toInt = 0 → ∀ (x27 : Int32), x27.toInt = (((x).toInt / 8) + (-1)) → ∀ (v29 : Int32), isB v29 (inC mem (x5).toInt (x27).toInt) → (v29).toInt = 0 → aTm aT0 mem → P (some (.int (-1))) mem) (s12 : ∀ (x1 : Int32), x1.toInt = ((x).toInt % 8) → ¬ (y).toInt = 1 → ¬ (y).toInt = 3 → ∀ (x5 : Int32), x5.toInt = (((x).toInt % 8) + 0) → ∀ (x7 : Int32), x7.toInt = ((x).toInt / 8) → ¬ (y).toInt = 2 → (y).toInt = 0 → ∀ (x27 : Int32), x27.toInt = (((x).toInt / 8) + (-1)) → ∀ (v29 : Int32), isB v29 (inC mem (x5).toInt (x27).toInt) → ¬ (v29).toInt = 0 → (-2147483648 : Int) ≤ (8 * (((x).toInt / 8) + (-1))) ∧ (8 * (((x).toInt / 8) + (-1))) ≤ 2147483647) (s13 : ∀ (x1 : Int32), x1.toInt = ((x).toInt % 8) → ¬ (y).toInt = 1 → ¬ (y).toInt = 3 → ∀ (x5 : Int32), x5.toInt = (((x).toInt % 8) + 0) → ∀ (x7 : Int32), x7.toInt = ((x).toInt / 8) → ¬ (y).toInt = 2 → (y).toInt = 0 → ∀ (x27 : Int32), x27.toInt = (((x).toInt / 8) + (-1)) → ∀ (v29 : Int32), isB v29 (inC mem (x5).toInt (x27).toInt) → ¬ (v29).toInt = 0 → ∀ (x32 : Int32), x32.toInt = (8 * (((x).toInt / 8) + (-1))) → (-2147483648 : Int) ≤ ((8 * (((x).toInt / 8) + (-1))) + (((x).toInt % 8) + 0)) ∧ ((8 * (((x).toInt / 8) + (-1))) + (((x).toInt % 8) + 0)) ≤ 2147483647) (s14 : ∀ (x1 : Int32), x1.toInt = ((x).toInt % 8) → ¬ (y).toInt = 1 → ¬ (y).toInt = 3 → ∀ (x5 : Int32), x5.toInt = (((x).toInt % 8) + 0) → ∀ (x7 : Int32), x7.toInt = ((x).toInt / 8) → ¬ (y).toInt = 2 → (y).toInt = 0 → ∀ (x27 : Int32), x27.toInt = (((x).toInt / 8) + (-1)) → ∀ (v29 : Int32), isB v29 (inC mem (x5).toInt (x27).toInt) → ¬ (v29).toInt = 0 → ∀ (x32 : Int32), x32.toInt = (8 * (((x).toInt / 8) + (-1))) → ∀ (x34 : Int32), x34.toInt = ((8 * (((x).toInt / 8) + (-1))) + (((x).toInt % 8) + 0)) → (0 : Int) ≤ (x34).toInt ∧ (x34).toInt < 64) (h5 : ∀ (x1 : Int32), x1.toInt = ((x).toInt % 8) → ¬ (y).toInt = 1 → ¬ (y).toInt = 3 → ∀ (x5 : Int32), x5.toInt = (((x).toInt % 8) + 0) → ∀ (x7 : Int32), x7.toInt = ((x).toInt / 8) → ¬ (y).toInt = 2 → (y).toInt = 0 → ∀ (x27 : Int32), x27.toInt = (((x).toInt / 8) + (-1)) → ∀ (v29 : Int32), isB v29 (inC mem (x5).toInt (x27).toInt) → ¬ (v29).toInt = 0 → ∀ (x32 : Int32), x32.toInt = (8 * (((x).toInt / 8) + (-1))) → ∀ (x34 : Int32), x34.toInt = ((8 * (((x).toInt / 8) + (-1))) + (((x).toInt % 8) + 0)) → ∀ (v36 : Int32), isB v36 (wal mem (x34).toInt) → ¬ (v36).toInt = 0 → aTm aT0 mem → P (some (.int (-1))) mem) (s15 : ∀ (x1 : Int32), x1.toInt = ((x).toInt % 8) → ¬ (y).toInt = 1 → ¬ (y).toInt = 3 → ∀ (x5 : Int32), x5.toInt = (((x).toInt % 8) + 0) → ∀ (x7 : Int32), x7.toInt = ((x).toInt / 8) → ¬ (y).toInt = 2 → (y).toInt = 0 → ∀ (x27 : Int32), x27.toInt = (((x).toInt / 8) + (-1)) → ∀ (v29 : Int32), isB v29 (inC mem (x5).toInt (x27).toInt) → ¬ (v29).toInt = 0 → ∀ (x32 : Int32), x32.toInt = (8 * (((x).toInt / 8) + (-1))) → ∀ (x34 : Int32), x34.toInt = ((8 * (((x).toInt / 8) + (-1))) + (((x).toInt % 8) + 0)) → ∀ (v36 : Int32), isB v36 (wal mem (x34).toInt) → (v36).toInt = 0 → (-2147483648 : Int) ≤ (8 * (((x).toInt / 8) + (-1))) ∧ (8 * (((x).toInt / 8) + (-1))) ≤ 2147483647) (s16 : ∀ (x1 : Int32), x1.toInt = ((x).toInt % 8) → ¬ (y).toInt = 1 → ¬ (y).toInt = 3 → ∀ (x5 : Int32), x5.toInt = (((x).toInt % 8) + 0) → ∀ (x7 : Int32), x7.toInt = ((x).toInt / 8) → ¬ (y).toInt = 2 → (y).toInt = 0 → ∀ (x27 : Int32), x27.toInt = (((x).toInt / 8) + (-1)) → ∀ (v29 : Int32), isB v29 (inC mem (x5).toInt (x27).toInt) → ¬ (v29).toInt = 0 → ∀ (x32 : Int32), x32.toInt = (8 * (((x).toInt / 8) + (-1))) → ∀ (x34 : Int32), x34.toInt = ((8 * (((x).toInt / 8) + (-1))) + (((x).toInt % 8) + 0)) → ∀ (v36 : Int32), isB v36 (wal mem (x34).toInt) → (v36).toInt = 0 → ∀ (x39 : Int32), x39.toInt = (8 * (((x).toInt / 8) + (-1))) → (-2147483648 : Int) ≤ ((8 * (((x).toInt / 8) + (-1))) + (((x).toInt % 8) + 0)) ∧ ((8 * (((x).toInt / 8) + (-1))) + (((x).toInt % 8) + 0)) ≤ 2147483647) (h6 : ∀ (x1 : Int32), x1.toInt = ((x).toInt % 8) → ¬ (y).toInt = 1 → ¬ (y).toInt = 3 → ∀ (x5 : Int32), x5.toInt = (((x).toInt % 8) + 0) → ∀ (x7 : Int32), x7.toInt = ((x).toInt / 8) → ¬ (y).toInt = 2 → (y).toInt = 0 → ∀ (x27 : Int32), x27.toInt = (((x).toInt / 8) + (-1)) → ∀ (v29 : Int32), isB v29 (inC mem (x5).toInt (x27).toInt) → ¬ (v29).toInt = 0 → ∀ (x32 : Int32), x32.toInt = (8 * (((x).toInt / 8) + (-1))) → ∀ (x34 : Int32), x34.toInt = ((8 * (((x).toInt / 8) + (-1))) + (((x).toInt % 8) + 0)) → ∀ (v36 : Int32), isB v36 (wal mem (x34).toInt) → (v36).toInt = 0 → ∀ (x39 : Int32), x39.toInt = (8 * (((x).toInt / 8) + (-1))) → ∀ (x41 : Int32), x41.toInt = ((8 * (((x).toInt / 8) + (-1))) + (((x).toInt % 8) + 0)) → aTm aT0 mem → P (some (.int x41)) mem) (s17 : ∀ (x1 : Int32), x1.toInt = ((x).toInt % 8) → ¬ (y).toInt = 1 → ¬ (y).toInt = 3 → ∀ (x5 : Int32), x5.toInt = (((x).toInt % 8) + 0) → ∀ (x7 : Int32), x7.toInt = ((x).toInt / 8) → (y).toInt = 2 → (-2147483648 : Int) ≤ (((x).toInt / 8) + 1) ∧ (((x).toInt / 8) + 1) ≤ 2147483647) (h7 : ∀ (x1 : Int32), x1.toInt = ((x).toInt % 8) → ¬ (y).toInt = 1 → ¬ (y).toInt = 3 → ∀ (x5 : Int32), x5.toInt = (((x).toInt % 8) + 0) → ∀ (x7 : Int32), x7.toInt = ((x).toInt / 8) → (y).toInt = 2 → ∀ (x43 : Int32), x43.toInt = (((x).toInt / 8) + 1) → ∀ (v45 : Int32), isB v45 (inC mem (x5).toInt (x43).toInt) → (v45).toInt = 0 → aTm aT0 mem → P (some (.int (-1))) mem) (s18 : ∀ (x1 : Int32), x1.toInt = ((x).toInt % 8) → ¬ (y).toInt = 1 → ¬ (y).toInt = 3 → ∀ (x5 : Int32), x5.toInt = (((x).toInt % 8) + 0) → ∀ (x7 : Int32), x7.toInt = ((x).toInt / 8) → (y).toInt = 2 → ∀ (x43 : Int32), x43.toInt = (((x).toInt / 8) + 1) → ∀ (v45 : Int32), isB v45 (inC mem (x5).toInt (x43).toInt) → ¬ (v45).toInt = 0 → (-2147483648 : Int) ≤ (8 * (((x).toInt / 8) + 1)) ∧ (8 * (((x).toInt / 8) + 1)) ≤ 2147483647) (s19 : ∀ (x1 : Int32), x1.toInt = ((x).toInt % 8) → ¬ (y).toInt = 1 → ¬ (y).toInt = 3 → ∀ (x5 : Int32), x5.toInt = (((x).toInt % 8) + 0) → ∀ (x7 : Int32), x7.toInt = ((x).toInt / 8) → (y).toInt = 2 → ∀ (x43 : Int32), x43.toInt = (((x).toInt / 8) + 1) → ∀ (v45 : Int32), isB v45 (inC mem (x5).toInt (x43).toInt) → ¬ (v45).toInt = 0 → ∀ (x48 : Int32), x48.toInt = (8 * (((x).toInt / 8) + 1)) → (-2147483648 : Int) ≤ ((8 * (((x).toInt / 8) + 1)) + (((x).toInt % 8) + 0)) ∧ ((8 * (((x).toInt / 8) + 1)) + (((x).toInt % 8) + 0)) ≤ 2147483647) (s20 : ∀ (x1 : Int32), x1.toInt = ((x).toInt % 8) → ¬ (y).toInt = 1 → ¬ (y).toInt = 3 → ∀ (x5 : Int32), x5.toInt = (((x).toInt % 8) + 0) → ∀ (x7 : Int32), x7.toInt = ((x).toInt / 8) → (y).toInt = 2 → ∀ (x43 : Int32), x43.toInt = (((x).toInt / 8) + 1) → ∀ (v45 : Int32), isB v45 (inC mem (x5).toInt (x43).toInt) → ¬ (v45).toInt = 0 → ∀ (x48 : Int32), x48.toInt = (8 * (((x).toInt / 8) + 1)) → ∀ (x50 : Int32), x50.toInt = ((8 * (((x).toInt / 8) + 1)) + (((x).toInt % 8) + 0)) → (0 : Int) ≤ (x50).toInt ∧ (x50).toInt < 64) (h8 : ∀ (x1 : Int32), x1.toInt = ((x).toInt % 8) → ¬ (y).toInt = 1 → ¬ (y).toInt = 3 → ∀ (x5 : Int32), x5.toInt = (((x).toInt % 8) + 0) → ∀ (x7 : Int32), x7.toInt = ((x).toInt / 8) → (y).toInt = 2 → ∀ (x43 : Int32), x43.toInt = (((x).toInt / 8) + 1) → ∀ (v45 : Int32), isB v45 (inC mem (x5).toInt (x43).toInt) → ¬ (v45).toInt = 0 → ∀ (x48 : Int32), x48.toInt = (8 * (((x).toInt / 8) + 1)) → ∀ (x50 : Int32), x50.toInt = ((8 * (((x).toInt / 8) + 1)) + (((x).toInt % 8) + 0)) → ∀ (v52 : Int32), isB v52 (wal mem (x50).toInt) → ¬ (v52).toInt = 0 → aTm aT0 mem → P (some (.int (-1))) mem) (s21 : ∀ (x1 : Int32), x1.toInt = ((x).toInt % 8) → ¬ (y).toInt = 1 → ¬ (y).toInt = 3 → ∀ (x5 : Int32), x5.toInt = (((x).toInt % 8) + 0) → ∀ (x7 : Int32), x7.toInt = ((x).toInt / 8) → (y).toInt = 2 → ∀ (x43 : Int32), x43.toInt = (((x).toInt / 8) + 1) → ∀ (v45 : Int32), isB v45 (inC mem (x5).toInt (x43).toInt) → ¬ (v45).toInt = 0 → ∀ (x48 : Int32), x48.toInt = (8 * (((x).toInt / 8) + 1)) → ∀ (x50 : Int32), x50.toInt = ((8 * (((x).toInt / 8) + 1)) + (((x).toInt % 8) + 0)) → ∀ (v52 : Int32), isB v52 (wal mem (x50).toInt) → (v52).toInt = 0 → (-2147483648 : Int) ≤ (8 * (((x).toInt / 8) + 1)) ∧ (8 * (((x).toInt / 8) + 1)) ≤ 2147483647) (s22 : ∀ (x1 : Int32), x1.toInt = ((x).toInt % 8) → ¬ (y).toInt = 1 → ¬ (y).toInt = 3 → ∀ (x5 : Int32), x5.toInt = (((x).toInt % 8) + 0) → ∀ (x7 : Int32), x7.toInt = ((x).toInt / 8) → (y).toInt = 2 → ∀ (x43 : Int32), x43.toInt = (((x).toInt / 8) + 1) → ∀ (v45 : Int32), isB v45 (inC mem (x5).toInt (x43).toInt) → ¬ (v45).toInt = 0 → ∀ (x48 : Int32), x48.toInt = (8 * (((x).toInt / 8) + 1)) → ∀ (x50 : Int32), x50.toInt = ((8 * (((x).toInt / 8) + 1)) + (((x).toInt % 8) + 0)) → ∀ (v52 : Int32), isB v52 (wal mem (x50).toInt) → (v52).toInt = 0 → ∀ (x55 : Int32), x55.toInt = (8 * (((x).toInt / 8) + 1)) → (-2147483648 : Int) ≤ ((8 * (((x).toInt / 8) + 1)) + (((x).toInt % 8) + 0)) ∧ ((8 * (((x).toInt / 8) + 1)) + (((x).toInt % 8) + 0)) ≤ 2147483647) (h9 : ∀ (x1 : Int32), x1.toInt = ((x).toInt % 8) → ¬ (y).toInt = 1 → ¬ (y).toInt = 3 → ∀ (x5 : Int32), x5.toInt = (((x).toInt % 8) + 0) → ∀ (x7 : Int32), x7.toInt = ((x).toInt / 8) → (y).toInt = 2 → ∀ (x43 : Int32), x43.toInt = (((x).toInt / 8) + 1) → ∀ (v45 : Int32), isB v45 (inC mem (x5).toInt (x43).toInt) → ¬ (v45).toInt = 0 → ∀ (x48 : Int32), x48.toInt = (8 * (((x).toInt / 8) + 1)) → ∀ (x50 : Int32), x50.toInt = ((8 * (((x).toInt / 8) + 1)) + (((x).toInt % 8) + 0)) → ∀ (v52 : Int32), isB v52 (wal mem (x50).toInt) → (v52).toInt = 0 → ∀ (x55 : Int32), x55.toInt = (8 * (((x).toInt / 8) + 1)) → ∀ (x57 : Int32), x57.toInt = ((8 * (((x).toInt / 8) + 1)) + (((x).toInt % 8) + 0)) → aTm aT0 mem → P (some (.int x57)) mem) (s23 : ∀ (x1 : Int32), x1.toInt = ((x).toInt % 8) → ¬ (y).toInt = 1 → (y).toInt = 3 → (-2147483648 : Int) ≤ (((x).toInt % 8) + (-1)) ∧ (((x).toInt % 8) + (-1)) ≤ 2147483647) (s24 : ∀ (x1 : Int32), x1.toInt = ((x).toInt % 8) → ¬ (y).toInt = 1 → (y).toInt = 3 → ∀ (x59 : Int32), x59.toInt = (((x).toInt % 8) + (-1)) → (0 : Int) ≤ (x).toInt) (s25 : ∀ (x1 : Int32), x1.toInt = ((x).toInt % 8) → ¬ (y).toInt = 1 → (y).toInt = 3 → ∀ (x59 : Int32), x59.toInt = (((x).toInt % 8) + (-1)) → ∀ (x61 : Int32), x61.toInt = ((x).toInt / 8) → (-2147483648 : Int) ≤ (((x).toInt / 8) + 0) ∧ (((x).toInt / 8) + 0) ≤ 2147483647) (h10 : ∀ (x1 : Int32), x1.toInt = ((x).toInt % 8) → ¬ (y).toInt = 1 → (y).toInt = 3 → ∀ (x59 : Int32), x59.toInt = (((x).toInt % 8) + (-1)) → ∀ (x61 : Int32), x61.toInt = ((x).toInt / 8) → ∀ (x63 : Int32), x63.toInt = (((x).toInt / 8) + 0) → ∀ (v65 : Int32), isB v65 (inC mem (x59).toInt (x63).toInt) → (v65).toInt = 0 → aTm aT0 mem → P (some (.int (-1))) mem) (s26 : ∀ (x1 : Int32), x1.toInt = ((x).toInt % 8) → ¬ (y).toInt = 1 → (y).toInt = 3 → ∀ (x59 : Int32), x59.toInt = (((x).toInt % 8) + (-1)) → ∀ (x61 : Int32), x61.toInt = ((x).toInt / 8) → ∀ (x63 : Int32), x63.toInt = (((x).toInt / 8) + 0) → ∀ (v65 : Int32), isB v65 (inC mem (x59).toInt (x63).toInt) → ¬ (v65).toInt = 0 → (-2147483648 : Int) ≤ (8 * (((x).toInt / 8) + 0)) ∧ (8 * (((x).toInt / 8) + 0)) ≤ 2147483647) (s27 : ∀ (x1 : Int32), x1.toInt = ((x).toInt % 8) → ¬ (y).toInt = 1 → (y).toInt = 3 → ∀ (x59 : Int32), x59.toInt = (((x).toInt % 8) + (-1)) → ∀ (x61 : Int32), x61.toInt = ((x).toInt / 8) → ∀ (x63 : Int32), x63.toInt = (((x).toInt / 8) + 0) → ∀ (v65 : Int32), isB v65 (inC mem (x59).toInt (x63).toInt) → ¬ (v65).toInt = 0 → ∀ (x68 : Int32), x68.toInt = (8 * (((x).toInt / 8) + 0)) → (-2147483648 : Int) ≤ ((8 * (((x).toInt / 8) + 0)) + (((x).toInt % 8) + (-1))) ∧ ((8 * (((x).toInt / 8) + 0)) + (((x).toInt % 8) + (-1))) ≤ 2147483647) (s28 : ∀ (x1 : Int32), x1.toInt = ((x).toInt % 8) → ¬ (y).toInt = 1 → (y).toInt = 3 → ∀ (x59 : Int32), x59.toInt = (((x).toInt % 8) + (-1)) → ∀ (x61 : Int32), x61.toInt = ((x).toInt / 8) → ∀ (x63 : Int32), x63.toInt = (((x).toInt / 8) + 0) → ∀ (v65 : Int32), isB v65 (inC mem (x59).toInt (x63).toInt) → ¬ (v65).toInt = 0 → ∀ (x68 : Int32), x68.toInt = (8 * (((x).toInt / 8) + 0)) → ∀ (x70 : Int32), x70.toInt = ((8 * (((x).toInt / 8) + 0)) + (((x).toInt % 8) + (-1))) → (0 : Int) ≤ (x70).toInt ∧ (x70).toInt < 64) (h11 : ∀ (x1 : Int32), x1.toInt = ((x).toInt % 8) → ¬ (y).toInt = 1 → (y).toInt = 3 → ∀ (x59 : Int32), x59.toInt = (((x).toInt % 8) + (-1)) → ∀ (x61 : Int32), x61.toInt = ((x).toInt / 8) → ∀ (x63 : Int32), x63.toInt = (((x).toInt / 8) + 0) → ∀ (v65 : Int32), isB v65 (inC mem (x59).toInt (x63).toInt) → ¬ (v65).toInt = 0 → ∀ (x68 : Int32), x68.toInt = (8 * (((x).toInt / 8) + 0)) → ∀ (x70 : Int32), x70.toInt = ((8 * (((x).toInt / 8) + 0)) + (((x).toInt % 8) + (-1))) → ∀ (v72 : Int32), isB v72 (wal mem (x70).toInt) → ¬ (v72).toInt = 0 → aTm aT0 mem → P (some (.int (-1))) mem) (s29 : ∀ (x1 : Int32), x1.toInt = ((x).toInt % 8) → ¬ (y).toInt = 1 → (y).toInt = 3 → ∀ (x59 : Int32), x59.toInt = (((x).toInt % 8) + (-1)) → ∀ (x61 : Int32), x61.toInt = ((x).toInt / 8) → ∀ (x63 : Int32), x63.toInt = (((x).toInt / 8) + 0) → ∀ (v65 : Int32), isB v65 (inC mem (x59).toInt (x63).toInt) → ¬ (v65).toInt = 0 → ∀ (x68 : Int32), x68.toInt = (8 * (((x).toInt / 8) + 0)) → ∀ (x70 : Int32), x70.toInt = ((8 * (((x).toInt / 8) + 0)) + (((x).toInt % 8) + (-1))) → ∀ (v72 : Int32), isB v72 (wal mem (x70).toInt) → (v72).toInt = 0 → (-2147483648 : Int) ≤ (8 * (((x).toInt / 8) + 0)) ∧ (8 * (((x).toInt / 8) + 0)) ≤ 2147483647) (s30 : ∀ (x1 : Int32), x1.toInt = ((x).toInt % 8) → ¬ (y).toInt = 1 → (y).toInt = 3 → ∀ (x59 : Int32), x59.toInt = (((x).toInt % 8) + (-1)) → ∀ (x61 : Int32), x61.toInt = ((x).toInt / 8) → ∀ (x63 : Int32), x63.toInt = (((x).toInt / 8) + 0) → ∀ (v65 : Int32), isB v65 (inC mem (x59).toInt (x63).toInt) → ¬ (v65).toInt = 0 → ∀ (x68 : Int32), x68.toInt = (8 * (((x).toInt / 8) + 0)) → ∀ (x70 : Int32), x70.toInt = ((8 * (((x).toInt / 8) + 0)) + (((x).toInt % 8) + (-1))) → ∀ (v72 : Int32), isB v72 (wal mem (x70).toInt) → (v72).toInt = 0 → ∀ (x75 : Int32), x75.toInt = (8 * (((x).toInt / 8) + 0)) → (-2147483648 : Int) ≤ ((8 * (((x).toInt / 8) + 0)) + (((x).toInt % 8) + (-1))) ∧ ((8 * (((x).toInt / 8) + 0)) + (((x).toInt % 8) + (-1))) ≤ 2147483647) (h12 : ∀ (x1 : Int32), x1.toInt = ((x).toInt % 8) → ¬ (y).toInt = 1 → (y).toInt = 3 → ∀ (x59 : Int32), x59.toInt = (((x).toInt % 8) + (-1)) → ∀ (x61 : Int32), x61.toInt = ((x).toInt / 8) → ∀ (x63 : Int32), x63.toInt = (((x).toInt / 8) + 0) → ∀ (v65 : Int32), isB v65 (inC mem (x59).toInt (x63).toInt) → ¬ (v65).toInt = 0 → ∀ (x68 : Int32), x68.toInt = (8 * (((x).toInt / 8) + 0)) → ∀ (x70 : Int32), x70.toInt = ((8 * (((x).toInt / 8) + 0)) + (((x).toInt % 8) + (-1))) → ∀ (v72 : Int32), isB v72 (wal mem (x70).toInt) → (v72).toInt = 0 → ∀ (x75 : Int32), x75.toInt = (8 * (((x).toInt / 8) + 0)) → ∀ (x77 : Int32), x77.toInt = ((8 * (((x).toInt / 8) + 0)) + (((x).toInt % 8) + (-1))) → aTm aT0 mem → P (some (.int x77)) mem) (s31 : ∀ (x1 : Int32), x1.toInt = ((x).toInt % 8) → (y).toInt = 1 → (-2147483648 : Int) ≤ (((x).toInt % 8) + 1) ∧ (((x).toInt % 8) + 1) ≤ 2147483647) (s32 : ∀ (x1 : Int32), x1.toInt = ((x).toInt % 8) → (y).toInt = 1 → ∀ (x79 : Int32), x79.toInt = (((x).toInt % 8) + 1) → (0 : Int) ≤ (x).toInt) (s33 : ∀ (x1 : Int32), x1.toInt = ((x).toInt % 8) → (y).toInt = 1 → ∀ (x79 : Int32), x79.toInt = (((x).toInt % 8) + 1) → ∀ (x81 : Int32), x81.toInt = ((x).toInt / 8) → (-2147483648 : Int) ≤ (((x).toInt / 8) + 0) ∧ (((x).toInt / 8) + 0) ≤ 2147483647) (h13 : ∀ (x1 : Int32), x1.toInt = ((x).toInt % 8) → (y).toInt = 1 → ∀ (x79 : Int32), x79.toInt = (((x).toInt % 8) + 1) → ∀ (x81 : Int32), x81.toInt = ((x).toInt / 8) → ∀ (x83 : Int32), x83.toInt = (((x).toInt / 8) + 0) → ∀ (v85 : Int32), isB v85 (inC mem (x79).toInt (x83).toInt) → (v85).toInt = 0 → aTm aT0 mem → P (some (.int (-1))) mem) (s34 : ∀ (x1 : Int32), x1.toInt = ((x).toInt % 8) → (y).toInt = 1 → ∀ (x79 : Int32), x79.toInt = (((x).toInt % 8) + 1) → ∀ (x81 : Int32), x81.toInt = ((x).toInt / 8) → ∀ (x83 : Int32), x83.toInt = (((x).toInt / 8) + 0) → ∀ (v85 : Int32), isB v85 (inC mem (x79).toInt (x83).toInt) → ¬ (v85).toInt = 0 → (-2147483648 : Int) ≤ (8 * (((x).toInt / 8) + 0)) ∧ (8 * (((x).toInt / 8) + 0)) ≤ 2147483647) (s35 : ∀ (x1 : Int32), x1.toInt = ((x).toInt % 8) → (y).toInt = 1 → ∀ (x79 : Int32), x79.toInt = (((x).toInt % 8) + 1) → ∀ (x81 : Int32), x81.toInt = ((x).toInt / 8) → ∀ (x83 : Int32), x83.toInt = (((x).toInt / 8) + 0) → ∀ (v85 : Int32), isB v85 (inC mem (x79).toInt (x83).toInt) → ¬ (v85).toInt = 0 → ∀ (x88 : Int32), x88.toInt = (8 * (((x).toInt / 8) + 0)) → (-2147483648 : Int) ≤ ((8 * (((x).toInt / 8) + 0)) + (((x).toInt % 8) + 1)) ∧ ((8 * (((x).toInt / 8) + 0)) + (((x).toInt % 8) + 1)) ≤ 2147483647) (s36 : ∀ (x1 : Int32), x1.toInt = ((x).toInt % 8) → (y).toInt = 1 → ∀ (x79 : Int32), x79.toInt = (((x).toInt % 8) + 1) → ∀ (x81 : Int32), x81.toInt = ((x).toInt / 8) → ∀ (x83 : Int32), x83.toInt = (((x).toInt / 8) + 0) → ∀ (v85 : Int32), isB v85 (inC mem (x79).toInt (x83).toInt) → ¬ (v85).toInt = 0 → ∀ (x88 : Int32), x88.toInt = (8 * (((x).toInt / 8) + 0)) → ∀ (x90 : Int32), x90.toInt = ((8 * (((x).toInt / 8) + 0)) + (((x).toInt % 8) + 1)) → (0 : Int) ≤ (x90).toInt ∧ (x90).toInt < 64) (h14 : ∀ (x1 : Int32), x1.toInt = ((x).toInt % 8) → (y).toInt = 1 → ∀ (x79 : Int32), x79.toInt = (((x).toInt % 8) + 1) → ∀ (x81 : Int32), x81.toInt = ((x).toInt / 8) → ∀ (x83 : Int32), x83.toInt = (((x).toInt / 8) + 0) → ∀ (v85 : Int32), isB v85 (inC mem (x79).toInt (x83).toInt) → ¬ (v85).toInt = 0 → ∀ (x88 : Int32), x88.toInt = (8 * (((x).toInt / 8) + 0)) → ∀ (x90 : Int32), x90.toInt = ((8 * (((x).toInt / 8) + 0)) + (((x).toInt % 8) + 1)) → ∀ (v92 : Int32), isB v92 (wal mem (x90).toInt) → ¬ (v92).toInt = 0 → aTm aT0 mem → P (some (.int (-1))) mem) (s37 : ∀ (x1 : Int32), x1.toInt = ((x).toInt % 8) → (y).toInt = 1 → ∀ (x79 : Int32), x79.toInt = (((x).toInt % 8) + 1) → ∀ (x81 : Int32), x81.toInt = ((x).toInt / 8) → ∀ (x83 : Int32), x83.toInt = (((x).toInt / 8) + 0) → ∀ (v85 : Int32), isB v85 (inC mem (x79).toInt (x83).toInt) → ¬ (v85).toInt = 0 → ∀ (x88 : Int32), x88.toInt = (8 * (((x).toInt / 8) + 0)) → ∀ (x90 : Int32), x90.toInt = ((8 * (((x).toInt / 8) + 0)) + (((x).toInt % 8) + 1)) → ∀ (v92 : Int32), isB v92 (wal mem (x90).toInt) → (v92).toInt = 0 → (-2147483648 : Int) ≤ (8 * (((x).toInt / 8) + 0)) ∧ (8 * (((x).toInt / 8) + 0)) ≤ 2147483647) (s38 : ∀ (x1 : Int32), x1.toInt = ((x).toInt % 8) → (y).toInt = 1 → ∀ (x79 : Int32), x79.toInt = (((x).toInt % 8) + 1) → ∀ (x81 : Int32), x81.toInt = ((x).toInt / 8) → ∀ (x83 : Int32), x83.toInt = (((x).toInt / 8) + 0) → ∀ (v85 : Int32), isB v85 (inC mem (x79).toInt (x83).toInt) → ¬ (v85).toInt = 0 → ∀ (x88 : Int32), x88.toInt = (8 * (((x).toInt / 8) + 0)) → ∀ (x90 : Int32), x90.toInt = ((8 * (((x).toInt / 8) + 0)) + (((x).toInt % 8) + 1)) → ∀ (v92 : Int32), isB v92 (wal mem (x90).toInt) → (v92).toInt = 0 → ∀ (x95 : Int32), x95.toInt = (8 * (((x).toInt / 8) + 0)) → (-2147483648 : Int) ≤ ((8 * (((x).toInt / 8) + 0)) + (((x).toInt % 8) + 1)) ∧ ((8 * (((x).toInt / 8) + 0)) + (((x).toInt % 8) + 1)) ≤ 2147483647) (h15 : ∀ (x1 : Int32), x1.toInt = ((x).toInt % 8) → (y).toInt = 1 → ∀ (x79 : Int32), x79.toInt = (((x).toInt % 8) + 1) → ∀ (x81 : Int32), x81.toInt = ((x).toInt / 8) → ∀ (x83 : Int32), x83.toInt = (((x).toInt / 8) + 0) → ∀ (v85 : Int32), isB v85 (inC mem (x79).toInt (x83).toInt) → ¬ (v85).toInt = 0 → ∀ (x88 : Int32), x88.toInt = (8 * (((x).toInt / 8) + 0)) → ∀ (x90 : Int32), x90.toInt = ((8 * (((x).toInt / 8) + 0)) + (((x).toInt % 8) + 1)) → ∀ (v92 : Int32), isB v92 (wal mem (x90).toInt) → (v92).toInt = 0 → ∀ (x95 : Int32), x95.toInt = (8 * (((x).toInt / 8) + 0)) → ∀ (x97 : Int32), x97.toInt = ((8 * (((x).toInt / 8) + 0)) + (((x).toInt % 8) + 1)) → aTm aT0 mem → P (some (.int x97)) mem) : yR zpg tX12_besideOf (d + 2) (0, [(0, .ref 221), (1, .int x), (2, .int y)], [], mem) P := by
  refine yR_m 2 (fun _ _ _ _ => rfl) ?_
  refine wN_rem (a := (x).toInt) (b := 8) rfl rfl rfl (by decide) s1 (fun x1 e2 => ?_)
  refine yR_m 2 (fun _ _ _ _ => rfl) ?_
  refine wR_ic_ne rfl (a := (y).toInt) (c := 1) rfl rfl (fun q3 => ?_) (fun q3 => ?_)
  ·
    refine yR_m 2 (fun _ _ _ _ => rfl) ?_
    refine wR_ic_ne rfl (a := (y).toInt) (c := 3) rfl rfl (fun q4 => ?_) (fun q4 => ?_)
    ·
      refine yR_m 1 (fun _ _ _ _ => rfl) ?_
      refine wN_add (a := ((x).toInt % 8)) (b := 0) rfl e2 rfl (s2 x1 e2 q3 q4) (fun x5 e6 => ?_)
      refine yR_m 3 (fun _ _ _ _ => rfl) ?_
      refine wN_div (a := (x).toInt) (b := 8) rfl rfl rfl (by decide) (s3 x1 e2 q3 q4 x5 e6) (fun x7 e8 => ?_)
      refine yR_m 2 (fun _ _ _ _ => rfl) ?_
      refine wR_ic_ne rfl (a := (y).toInt) (c := 2) rfl rfl (fun q9 => ?_) (fun q9 => ?_)
      ·
        refine yR_m 1 (fun _ _ _ _ => rfl) ?_
        refine wR_if_ne rfl (a := (y).toInt) rfl (fun q10 => ?_) (fun q10 => ?_)
        ·
          refine yR_m 1 (fun _ _ _ _ => rfl) ?_
          refine wN_add (a := ((x).toInt / 8)) (b := 0) rfl e8 rfl (s4 x1 e2 q3 q4 x5 e6 x7 e8 q9 q10) (fun x11 e12 => ?_)
          refine yR_m 4 (fun _ _ _ _ => rfl) ?_
          refine wR_cv rfl rfl mO_e hm rfl (c_isCell hm s5 (by omega)) ?_
          rintro _ _ ⟨v13, rfl, rfl, k14⟩
          show yR zpg tX12_besideOf (d + 2) (57, [(4, .int x11), (3, .int x5), (0, .ref 221), (1, .int x), (2, .int y)], [.int v13], mem) _
          refine wR_if_eq rfl (a := (v13).toInt) rfl (fun q15 => ?_) (fun q15 => ?_)
          ·
            refine yR_m 1 (fun _ _ _ _ => rfl) ?_
            exact yR_ri rfl (h1 x1 e2 q3 q4 x5 e6 x7 e8 q9 q10 x11 e12 v13 k14 q15 hm)
          ·
            refine yR_m 3 (fun _ _ _ _ => rfl) ?_
            refine wN_mul (a := 8) (b := (((x).toInt / 8) + 0)) rfl rfl e12 (s6 x1 e2 q3 q4 x5 e6 x7 e8 q9 q10 x11 e12 v13 k14 q15) (fun x16 e17 => ?_)
            refine yR_m 1 (fun _ _ _ _ => rfl) ?_
            refine wN_add (a := (8 * (((x).toInt / 8) + 0))) (b := (((x).toInt % 8) + 0)) rfl e17 e6 (s7 x1 e2 q3 q4 x5 e6 x7 e8 q9 q10 x11 e12 v13 k14 q15 x16 e17) (fun x18 e19 => ?_)
            refine wR_cv rfl rfl mO_e hm rfl (c_isWall hm (by omega) (s8 x1 e2 q3 q4 x5 e6 x7 e8 q9 q10 x11 e12 v13 k14 q15 x16 e17 x18 e19)) ?_
            rintro _ _ ⟨v20, rfl, rfl, k21⟩
            show yR zpg tX12_besideOf (d + 2) (71, [(4, .int x11), (3, .int x5), (0, .ref 221), (1, .int x), (2, .int y)], [.int v20], mem) _
            refine wR_if_ne rfl (a := (v20).toInt) rfl (fun q22 => ?_) (fun q22 => ?_)
            ·
              refine yR_m 1 (fun _ _ _ _ => rfl) ?_
              exact yR_ri rfl (h2 x1 e2 q3 q4 x5 e6 x7 e8 q9 q10 x11 e12 v13 k14 q15 x16 e17 x18 e19 v20 k21 q22 hm)
            ·
              refine yR_m 2 (fun _ _ _ _ => rfl) ?_
              refine wN_mul (a := 8) (b := (((x).toInt / 8) + 0)) rfl rfl e12 (s9 x1 e2 q3 q4 x5 e6 x7 e8 q9 q10 x11 e12 v13 k14 q15 x16 e17 x18 e19 v20 k21 q22) (fun x23 e24 => ?_)
              refine yR_m 1 (fun _ _ _ _ => rfl) ?_
              refine wN_add (a := (8 * (((x).toInt / 8) + 0))) (b := (((x).toInt % 8) + 0)) rfl e24 e6 (s10 x1 e2 q3 q4 x5 e6 x7 e8 q9 q10 x11 e12 v13 k14 q15 x16 e17 x18 e19 v20 k21 q22 x23 e24) (fun x25 e26 => ?_)
              refine yR_m 1 (fun _ _ _ _ => rfl) ?_
              exact yR_ri rfl (h3 x1 e2 q3 q4 x5 e6 x7 e8 q9 q10 x11 e12 v13 k14 q15 x16 e17 x18 e19 v20 k21 q22 x23 e24 x25 e26 hm)
        ·
          refine yR_m 2 (fun _ _ _ _ => rfl) ?_
          refine wN_add (a := ((x).toInt / 8)) (b := (-1)) rfl e8 tm1 (s11 x1 e2 q3 q4 x5 e6 x7 e8 q9 q10) (fun x27 e28 => ?_)
          refine yR_m 4 (fun _ _ _ _ => rfl) ?_
          refine wR_cv rfl rfl mO_e hm rfl (c_isCell hm s5 (by omega)) ?_
          rintro _ _ ⟨v29, rfl, rfl, k30⟩
          show yR zpg tX12_besideOf (d + 2) (57, [(4, .int x27), (3, .int x5), (0, .ref 221), (1, .int x), (2, .int y)], [.int v29], mem) _
          refine wR_if_eq rfl (a := (v29).toInt) rfl (fun q31 => ?_) (fun q31 => ?_)
          ·
            refine yR_m 1 (fun _ _ _ _ => rfl) ?_
            exact yR_ri rfl (h4 x1 e2 q3 q4 x5 e6 x7 e8 q9 q10 x27 e28 v29 k30 q31 hm)
          ·
            refine yR_m 3 (fun _ _ _ _ => rfl) ?_
            refine wN_mul (a := 8) (b := (((x).toInt / 8) + (-1))) rfl rfl e28 (s12 x1 e2 q3 q4 x5 e6 x7 e8 q9 q10 x27 e28 v29 k30 q31) (fun x32 e33 => ?_)
            refine yR_m 1 (fun _ _ _ _ => rfl) ?_
            refine wN_add (a := (8 * (((x).toInt / 8) + (-1)))) (b := (((x).toInt % 8) + 0)) rfl e33 e6 (s13 x1 e2 q3 q4 x5 e6 x7 e8 q9 q10 x27 e28 v29 k30 q31 x32 e33) (fun x34 e35 => ?_)
            refine wR_cv rfl rfl mO_e hm rfl (c_isWall hm (by omega) (s14 x1 e2 q3 q4 x5 e6 x7 e8 q9 q10 x27 e28 v29 k30 q31 x32 e33 x34 e35)) ?_
            rintro _ _ ⟨v36, rfl, rfl, k37⟩
            show yR zpg tX12_besideOf (d + 2) (71, [(4, .int x27), (3, .int x5), (0, .ref 221), (1, .int x), (2, .int y)], [.int v36], mem) _
            refine wR_if_ne rfl (a := (v36).toInt) rfl (fun q38 => ?_) (fun q38 => ?_)
            ·
              refine yR_m 1 (fun _ _ _ _ => rfl) ?_
              exact yR_ri rfl (h5 x1 e2 q3 q4 x5 e6 x7 e8 q9 q10 x27 e28 v29 k30 q31 x32 e33 x34 e35 v36 k37 q38 hm)
            ·
              refine yR_m 2 (fun _ _ _ _ => rfl) ?_
              refine wN_mul (a := 8) (b := (((x).toInt / 8) + (-1))) rfl rfl e28 (s15 x1 e2 q3 q4 x5 e6 x7 e8 q9 q10 x27 e28 v29 k30 q31 x32 e33 x34 e35 v36 k37 q38) (fun x39 e40 => ?_)
              refine yR_m 1 (fun _ _ _ _ => rfl) ?_
              refine wN_add (a := (8 * (((x).toInt / 8) + (-1)))) (b := (((x).toInt % 8) + 0)) rfl e40 e6 (s16 x1 e2 q3 q4 x5 e6 x7 e8 q9 q10 x27 e28 v29 k30 q31 x32 e33 x34 e35 v36 k37 q38 x39 e40) (fun x41 e42 => ?_)
              refine yR_m 1 (fun _ _ _ _ => rfl) ?_
              exact yR_ri rfl (h6 x1 e2 q3 q4 x5 e6 x7 e8 q9 q10 x27 e28 v29 k30 q31 x32 e33 x34 e35 v36 k37 q38 x39 e40 x41 e42 hm)
      ·
        refine yR_m 2 (fun _ _ _ _ => rfl) ?_
        refine wN_add (a := ((x).toInt / 8)) (b := 1) rfl e8 rfl (s17 x1 e2 q3 q4 x5 e6 x7 e8 q9) (fun x43 e44 => ?_)
        refine yR_m 4 (fun _ _ _ _ => rfl) ?_
        refine wR_cv rfl rfl mO_e hm rfl (c_isCell hm s5 (by omega)) ?_
        rintro _ _ ⟨v45, rfl, rfl, k46⟩
        show yR zpg tX12_besideOf (d + 2) (57, [(4, .int x43), (3, .int x5), (0, .ref 221), (1, .int x), (2, .int y)], [.int v45], mem) _
        refine wR_if_eq rfl (a := (v45).toInt) rfl (fun q47 => ?_) (fun q47 => ?_)
        ·
          refine yR_m 1 (fun _ _ _ _ => rfl) ?_
          exact yR_ri rfl (h7 x1 e2 q3 q4 x5 e6 x7 e8 q9 x43 e44 v45 k46 q47 hm)
        ·
          refine yR_m 3 (fun _ _ _ _ => rfl) ?_
          refine wN_mul (a := 8) (b := (((x).toInt / 8) + 1)) rfl rfl e44 (s18 x1 e2 q3 q4 x5 e6 x7 e8 q9 x43 e44 v45 k46 q47) (fun x48 e49 => ?_)
          refine yR_m 1 (fun _ _ _ _ => rfl) ?_
          refine wN_add (a := (8 * (((x).toInt / 8) + 1))) (b := (((x).toInt % 8) + 0)) rfl e49 e6 (s19 x1 e2 q3 q4 x5 e6 x7 e8 q9 x43 e44 v45 k46 q47 x48 e49) (fun x50 e51 => ?_)
          refine wR_cv rfl rfl mO_e hm rfl (c_isWall hm (by omega) (s20 x1 e2 q3 q4 x5 e6 x7 e8 q9 x43 e44 v45 k46 q47 x48 e49 x50 e51)) ?_
          rintro _ _ ⟨v52, rfl, rfl, k53⟩
          show yR zpg tX12_besideOf (d + 2) (71, [(4, .int x43), (3, .int x5), (0, .ref 221), (1, .int x), (2, .int y)], [.int v52], mem) _
          refine wR_if_ne rfl (a := (v52).toInt) rfl (fun q54 => ?_) (fun q54 => ?_)
          ·
            refine yR_m 1 (fun _ _ _ _ => rfl) ?_
            exact yR_ri rfl (h8 x1 e2 q3 q4 x5 e6 x7 e8 q9 x43 e44 v45 k46 q47 x48 e49 x50 e51 v52 k53 q54 hm)
          ·
            refine yR_m 2 (fun _ _ _ _ => rfl) ?_
            refine wN_mul (a := 8) (b := (((x).toInt / 8) + 1)) rfl rfl e44 (s21 x1 e2 q3 q4 x5 e6 x7 e8 q9 x43 e44 v45 k46 q47 x48 e49 x50 e51 v52 k53 q54) (fun x55 e56 => ?_)
            refine yR_m 1 (fun _ _ _ _ => rfl) ?_
            refine wN_add (a := (8 * (((x).toInt / 8) + 1))) (b := (((x).toInt % 8) + 0)) rfl e56 e6 (s22 x1 e2 q3 q4 x5 e6 x7 e8 q9 x43 e44 v45 k46 q47 x48 e49 x50 e51 v52 k53 q54 x55 e56) (fun x57 e58 => ?_)
            refine yR_m 1 (fun _ _ _ _ => rfl) ?_
            exact yR_ri rfl (h9 x1 e2 q3 q4 x5 e6 x7 e8 q9 x43 e44 v45 k46 q47 x48 e49 x50 e51 v52 k53 q54 x55 e56 x57 e58 hm)
    ·
      refine yR_m 2 (fun _ _ _ _ => rfl) ?_
      refine wN_add (a := ((x).toInt % 8)) (b := (-1)) rfl e2 tm1 (s23 x1 e2 q3 q4) (fun x59 e60 => ?_)
      refine yR_m 3 (fun _ _ _ _ => rfl) ?_
      refine wN_div (a := (x).toInt) (b := 8) rfl rfl rfl (by decide) (s24 x1 e2 q3 q4 x59 e60) (fun x61 e62 => ?_)
      refine yR_m 2 (fun _ _ _ _ => rfl) ?_
      refine wR_ic_ne rfl (a := (y).toInt) (c := 2) rfl rfl (fun _ => ?_) (fun q => by exfalso; omega)
      refine yR_m 1 (fun _ _ _ _ => rfl) ?_
      refine wR_if_ne rfl (a := (y).toInt) rfl (fun _ => ?_) (fun q => by exfalso; omega)
      refine yR_m 1 (fun _ _ _ _ => rfl) ?_
      refine wN_add (a := ((x).toInt / 8)) (b := 0) rfl e62 rfl (s25 x1 e2 q3 q4 x59 e60 x61 e62) (fun x63 e64 => ?_)
      refine yR_m 4 (fun _ _ _ _ => rfl) ?_
      refine wR_cv rfl rfl mO_e hm rfl (c_isCell hm s5 (by omega)) ?_
      rintro _ _ ⟨v65, rfl, rfl, k66⟩
      show yR zpg tX12_besideOf (d + 2) (57, [(4, .int x63), (3, .int x59), (0, .ref 221), (1, .int x), (2, .int y)], [.int v65], mem) _
      refine wR_if_eq rfl (a := (v65).toInt) rfl (fun q67 => ?_) (fun q67 => ?_)
      ·
        refine yR_m 1 (fun _ _ _ _ => rfl) ?_
        exact yR_ri rfl (h10 x1 e2 q3 q4 x59 e60 x61 e62 x63 e64 v65 k66 q67 hm)
      ·
        refine yR_m 3 (fun _ _ _ _ => rfl) ?_
        refine wN_mul (a := 8) (b := (((x).toInt / 8) + 0)) rfl rfl e64 (s26 x1 e2 q3 q4 x59 e60 x61 e62 x63 e64 v65 k66 q67) (fun x68 e69 => ?_)
        refine yR_m 1 (fun _ _ _ _ => rfl) ?_
        refine wN_add (a := (8 * (((x).toInt / 8) + 0))) (b := (((x).toInt % 8) + (-1))) rfl e69 e60 (s27 x1 e2 q3 q4 x59 e60 x61 e62 x63 e64 v65 k66 q67 x68 e69) (fun x70 e71 => ?_)
        refine wR_cv rfl rfl mO_e hm rfl (c_isWall hm (by omega) (s28 x1 e2 q3 q4 x59 e60 x61 e62 x63 e64 v65 k66 q67 x68 e69 x70 e71)) ?_
        rintro _ _ ⟨v72, rfl, rfl, k73⟩
        show yR zpg tX12_besideOf (d + 2) (71, [(4, .int x63), (3, .int x59), (0, .ref 221), (1, .int x), (2, .int y)], [.int v72], mem) _
        refine wR_if_ne rfl (a := (v72).toInt) rfl (fun q74 => ?_) (fun q74 => ?_)
        ·
          refine yR_m 1 (fun _ _ _ _ => rfl) ?_
          exact yR_ri rfl (h11 x1 e2 q3 q4 x59 e60 x61 e62 x63 e64 v65 k66 q67 x68 e69 x70 e71 v72 k73 q74 hm)
        ·
          refine yR_m 2 (fun _ _ _ _ => rfl) ?_
          refine wN_mul (a := 8) (b := (((x).toInt / 8) + 0)) rfl rfl e64 (s29 x1 e2 q3 q4 x59 e60 x61 e62 x63 e64 v65 k66 q67 x68 e69 x70 e71 v72 k73 q74) (fun x75 e76 => ?_)
          refine yR_m 1 (fun _ _ _ _ => rfl) ?_
          refine wN_add (a := (8 * (((x).toInt / 8) + 0))) (b := (((x).toInt % 8) + (-1))) rfl e76 e60 (s30 x1 e2 q3 q4 x59 e60 x61 e62 x63 e64 v65 k66 q67 x68 e69 x70 e71 v72 k73 q74 x75 e76) (fun x77 e78 => ?_)
          refine yR_m 1 (fun _ _ _ _ => rfl) ?_
          exact yR_ri rfl (h12 x1 e2 q3 q4 x59 e60 x61 e62 x63 e64 v65 k66 q67 x68 e69 x70 e71 v72 k73 q74 x75 e76 x77 e78 hm)
  ·
    refine yR_m 2 (fun _ _ _ _ => rfl) ?_
    refine wN_add (a := ((x).toInt % 8)) (b := 1) rfl e2 rfl (s31 x1 e2 q3) (fun x79 e80 => ?_)
    refine yR_m 3 (fun _ _ _ _ => rfl) ?_
    refine wN_div (a := (x).toInt) (b := 8) rfl rfl rfl (by decide) (s32 x1 e2 q3 x79 e80) (fun x81 e82 => ?_)
    refine yR_m 2 (fun _ _ _ _ => rfl) ?_
    refine wR_ic_ne rfl (a := (y).toInt) (c := 2) rfl rfl (fun _ => ?_) (fun q => by exfalso; omega)
    refine yR_m 1 (fun _ _ _ _ => rfl) ?_
    refine wR_if_ne rfl (a := (y).toInt) rfl (fun _ => ?_) (fun q => by exfalso; omega)
    refine yR_m 1 (fun _ _ _ _ => rfl) ?_
    refine wN_add (a := ((x).toInt / 8)) (b := 0) rfl e82 rfl (s33 x1 e2 q3 x79 e80 x81 e82) (fun x83 e84 => ?_)
    refine yR_m 4 (fun _ _ _ _ => rfl) ?_
    refine wR_cv rfl rfl mO_e hm rfl (c_isCell hm s5 (by omega)) ?_
    rintro _ _ ⟨v85, rfl, rfl, k86⟩
    show yR zpg tX12_besideOf (d + 2) (57, [(4, .int x83), (3, .int x79), (0, .ref 221), (1, .int x), (2, .int y)], [.int v85], mem) _
    refine wR_if_eq rfl (a := (v85).toInt) rfl (fun q87 => ?_) (fun q87 => ?_)
    ·
      refine yR_m 1 (fun _ _ _ _ => rfl) ?_
      exact yR_ri rfl (h13 x1 e2 q3 x79 e80 x81 e82 x83 e84 v85 k86 q87 hm)
    ·
      refine yR_m 3 (fun _ _ _ _ => rfl) ?_
      refine wN_mul (a := 8) (b := (((x).toInt / 8) + 0)) rfl rfl e84 (s34 x1 e2 q3 x79 e80 x81 e82 x83 e84 v85 k86 q87) (fun x88 e89 => ?_)
      refine yR_m 1 (fun _ _ _ _ => rfl) ?_
      refine wN_add (a := (8 * (((x).toInt / 8) + 0))) (b := (((x).toInt % 8) + 1)) rfl e89 e80 (s35 x1 e2 q3 x79 e80 x81 e82 x83 e84 v85 k86 q87 x88 e89) (fun x90 e91 => ?_)
      refine wR_cv rfl rfl mO_e hm rfl (c_isWall hm (by omega) (s36 x1 e2 q3 x79 e80 x81 e82 x83 e84 v85 k86 q87 x88 e89 x90 e91)) ?_
      rintro _ _ ⟨v92, rfl, rfl, k93⟩
      show yR zpg tX12_besideOf (d + 2) (71, [(4, .int x83), (3, .int x79), (0, .ref 221), (1, .int x), (2, .int y)], [.int v92], mem) _
      refine wR_if_ne rfl (a := (v92).toInt) rfl (fun q94 => ?_) (fun q94 => ?_)
      ·
        refine yR_m 1 (fun _ _ _ _ => rfl) ?_
        exact yR_ri rfl (h14 x1 e2 q3 x79 e80 x81 e82 x83 e84 v85 k86 q87 x88 e89 x90 e91 v92 k93 q94 hm)
      ·
        refine yR_m 2 (fun _ _ _ _ => rfl) ?_
        refine wN_mul (a := 8) (b := (((x).toInt / 8) + 0)) rfl rfl e84 (s37 x1 e2 q3 x79 e80 x81 e82 x83 e84 v85 k86 q87 x88 e89 x90 e91 v92 k93 q94) (fun x95 e96 => ?_)
        refine yR_m 1 (fun _ _ _ _ => rfl) ?_
        refine wN_add (a := (8 * (((x).toInt / 8) + 0))) (b := (((x).toInt % 8) + 1)) rfl e96 e80 (s38 x1 e2 q3 x79 e80 x81 e82 x83 e84 v85 k86 q87 x88 e89 x90 e91 v92 k93 q94 x95 e96) (fun x97 e98 => ?_)
        refine yR_m 1 (fun _ _ _ _ => rfl) ?_
        exact yR_ri rfl (h15 x1 e2 q3 x79 e80 x81 e82 x83 e84 v85 k86 q87 x88 e89 x90 e91 v92 k93 q94 x95 e96 x97 e98 hm)

theorem c_besideOf {d : Nat} {x y : Int32} {mem : zM} (hm : aTm aT0 mem) (hz : szOK mem) (hd : 3 ≤ d) (hx : 0 ≤ x.toInt ∧ x.toInt ≤ 63) (hy : 0 ≤ y.toInt ∧ y.toInt ≤ 3) : yC zpg d 224 [.ref 221, .int x, .int y] mem (fun r m => ∃ v : Int32, r = some (.int v) ∧ mem = m ∧ besR mem x.toInt y.toInt v.toInt) := by
  obtain ⟨d, rfl⟩ : ∃ q, d = q + 3 := ⟨d - 3, by omega⟩
  obtain ⟨z1, z2, z3, z4⟩ := id hz
  refine yC_of (t := tX12_besideOf) rfl rfl ?_
  exact w_besideOf hm
    (by omega)
        (fun x1 e2 q3 q4 => by omega)
        (fun x1 e2 q3 q4 x5 e6 => by omega)
        (fun x1 e2 q3 q4 x5 e6 x7 e8 q9 q10 => by omega)
        (hz)
        (fun x1 e2 q3 q4 x5 e6 x7 e8 q9 q10 x11 e12 v13 k14 q15 _ => by exfalso; omega)
        (fun x1 e2 q3 q4 x5 e6 x7 e8 q9 q10 x11 e12 v13 k14 q15 => by have k := isB_1 k14 q15; obtain ⟨-, c1, c2, c3, c4⟩ := k; omega)
        (fun x1 e2 q3 q4 x5 e6 x7 e8 q9 q10 x11 e12 v13 k14 q15 x16 e17 => by have k := isB_1 k14 q15; obtain ⟨-, c1, c2, c3, c4⟩ := k; omega)
        (fun x1 e2 q3 q4 x5 e6 x7 e8 q9 q10 x11 e12 v13 k14 q15 x16 e17 x18 e19 => by have k := isB_1 k14 q15; obtain ⟨-, c1, c2, c3, c4⟩ := k; omega)
        (fun x1 e2 q3 q4 x5 e6 x7 e8 q9 q10 x11 e12 v13 k14 q15 x16 e17 x18 e19 v20 k21 q22 _ => by exfalso; omega)
        (fun x1 e2 q3 q4 x5 e6 x7 e8 q9 q10 x11 e12 v13 k14 q15 x16 e17 x18 e19 v20 k21 q22 => by have k := isB_1 k14 q15; obtain ⟨-, c1, c2, c3, c4⟩ := k; omega)
        (fun x1 e2 q3 q4 x5 e6 x7 e8 q9 q10 x11 e12 v13 k14 q15 x16 e17 x18 e19 v20 k21 q22 x23 e24 => by have k := isB_1 k14 q15; obtain ⟨-, c1, c2, c3, c4⟩ := k; omega)
        (fun x1 e2 q3 q4 x5 e6 x7 e8 q9 q10 x11 e12 v13 k14 q15 x16 e17 x18 e19 v20 k21 q22 x23 e24 x25 e26 _ => by exfalso; omega)
        (fun x1 e2 q3 q4 x5 e6 x7 e8 q9 q10 => by omega)
        (fun x1 e2 q3 q4 x5 e6 x7 e8 q9 q10 x27 e28 v29 k30 q31 _ => ⟨_, rfl, rfl, bes_no (X := x5.toInt) (Y := x27.toInt) (by rw [show dX y.toInt = 0 by rw [q10]; decide]; omega) (by rw [show dY y.toInt = (-1) by rw [q10]; decide]; omega) tm1 (fun f => isB_0 k30 q31 f.1)⟩)
        (fun x1 e2 q3 q4 x5 e6 x7 e8 q9 q10 x27 e28 v29 k30 q31 => by have k := isB_1 k30 q31; obtain ⟨-, c1, c2, c3, c4⟩ := k; omega)
        (fun x1 e2 q3 q4 x5 e6 x7 e8 q9 q10 x27 e28 v29 k30 q31 x32 e33 => by have k := isB_1 k30 q31; obtain ⟨-, c1, c2, c3, c4⟩ := k; omega)
        (fun x1 e2 q3 q4 x5 e6 x7 e8 q9 q10 x27 e28 v29 k30 q31 x32 e33 x34 e35 => by have k := isB_1 k30 q31; obtain ⟨-, c1, c2, c3, c4⟩ := k; omega)
        (fun x1 e2 q3 q4 x5 e6 x7 e8 q9 q10 x27 e28 v29 k30 q31 x32 e33 x34 e35 v36 k37 q38 _ => ⟨_, rfl, rfl, bes_no (X := x5.toInt) (Y := x27.toInt) (by rw [show dX y.toInt = 0 by rw [q10]; decide]; omega) (by rw [show dY y.toInt = (-1) by rw [q10]; decide]; omega) tm1 (fun f => f.2 (by have w := isB_1 k37 q38; rw [(show x34.toInt = 8 * x27.toInt + x5.toInt by omega)] at w; exact w))⟩)
        (fun x1 e2 q3 q4 x5 e6 x7 e8 q9 q10 x27 e28 v29 k30 q31 x32 e33 x34 e35 v36 k37 q38 => by have k := isB_1 k30 q31; obtain ⟨-, c1, c2, c3, c4⟩ := k; omega)
        (fun x1 e2 q3 q4 x5 e6 x7 e8 q9 q10 x27 e28 v29 k30 q31 x32 e33 x34 e35 v36 k37 q38 x39 e40 => by have k := isB_1 k30 q31; obtain ⟨-, c1, c2, c3, c4⟩ := k; omega)
        (fun x1 e2 q3 q4 x5 e6 x7 e8 q9 q10 x27 e28 v29 k30 q31 x32 e33 x34 e35 v36 k37 q38 x39 e40 x41 e42 _ => ⟨_, rfl, rfl, bes_yes (X := x5.toInt) (Y := x27.toInt) (by rw [show dX y.toInt = 0 by rw [q10]; decide]; omega) (by rw [show dY y.toInt = (-1) by rw [q10]; decide]; omega) (by omega) ⟨isB_1 k30 q31, by have w := isB_0 k37 q38; rw [(show x34.toInt = 8 * x27.toInt + x5.toInt by omega)] at w; exact w⟩⟩)
        (fun x1 e2 q3 q4 x5 e6 x7 e8 q9 => by omega)
        (fun x1 e2 q3 q4 x5 e6 x7 e8 q9 x43 e44 v45 k46 q47 _ => ⟨_, rfl, rfl, bes_no (X := x5.toInt) (Y := x43.toInt) (by rw [show dX y.toInt = 0 by rw [q9]; decide]; omega) (by rw [show dY y.toInt = 1 by rw [q9]; decide]; omega) tm1 (fun f => isB_0 k46 q47 f.1)⟩)
        (fun x1 e2 q3 q4 x5 e6 x7 e8 q9 x43 e44 v45 k46 q47 => by have k := isB_1 k46 q47; obtain ⟨-, c1, c2, c3, c4⟩ := k; omega)
        (fun x1 e2 q3 q4 x5 e6 x7 e8 q9 x43 e44 v45 k46 q47 x48 e49 => by have k := isB_1 k46 q47; obtain ⟨-, c1, c2, c3, c4⟩ := k; omega)
        (fun x1 e2 q3 q4 x5 e6 x7 e8 q9 x43 e44 v45 k46 q47 x48 e49 x50 e51 => by have k := isB_1 k46 q47; obtain ⟨-, c1, c2, c3, c4⟩ := k; omega)
        (fun x1 e2 q3 q4 x5 e6 x7 e8 q9 x43 e44 v45 k46 q47 x48 e49 x50 e51 v52 k53 q54 _ => ⟨_, rfl, rfl, bes_no (X := x5.toInt) (Y := x43.toInt) (by rw [show dX y.toInt = 0 by rw [q9]; decide]; omega) (by rw [show dY y.toInt = 1 by rw [q9]; decide]; omega) tm1 (fun f => f.2 (by have w := isB_1 k53 q54; rw [(show x50.toInt = 8 * x43.toInt + x5.toInt by omega)] at w; exact w))⟩)
        (fun x1 e2 q3 q4 x5 e6 x7 e8 q9 x43 e44 v45 k46 q47 x48 e49 x50 e51 v52 k53 q54 => by have k := isB_1 k46 q47; obtain ⟨-, c1, c2, c3, c4⟩ := k; omega)
        (fun x1 e2 q3 q4 x5 e6 x7 e8 q9 x43 e44 v45 k46 q47 x48 e49 x50 e51 v52 k53 q54 x55 e56 => by have k := isB_1 k46 q47; obtain ⟨-, c1, c2, c3, c4⟩ := k; omega)
        (fun x1 e2 q3 q4 x5 e6 x7 e8 q9 x43 e44 v45 k46 q47 x48 e49 x50 e51 v52 k53 q54 x55 e56 x57 e58 _ => ⟨_, rfl, rfl, bes_yes (X := x5.toInt) (Y := x43.toInt) (by rw [show dX y.toInt = 0 by rw [q9]; decide]; omega) (by rw [show dY y.toInt = 1 by rw [q9]; decide]; omega) (by omega) ⟨isB_1 k46 q47, by have w := isB_0 k53 q54; rw [(show x50.toInt = 8 * x43.toInt + x5.toInt by omega)] at w; exact w⟩⟩)
        (fun x1 e2 q3 q4 => by omega)
        (fun x1 e2 q3 q4 x59 e60 => by omega)
        (fun x1 e2 q3 q4 x59 e60 x61 e62 => by omega)
        (fun x1 e2 q3 q4 x59 e60 x61 e62 x63 e64 v65 k66 q67 _ => ⟨_, rfl, rfl, bes_no (X := x59.toInt) (Y := x63.toInt) (by rw [show dX y.toInt = (-1) by rw [q4]; decide]; omega) (by rw [show dY y.toInt = 0 by rw [q4]; decide]; omega) tm1 (fun f => isB_0 k66 q67 f.1)⟩)
        (fun x1 e2 q3 q4 x59 e60 x61 e62 x63 e64 v65 k66 q67 => by have k := isB_1 k66 q67; obtain ⟨-, c1, c2, c3, c4⟩ := k; omega)
        (fun x1 e2 q3 q4 x59 e60 x61 e62 x63 e64 v65 k66 q67 x68 e69 => by have k := isB_1 k66 q67; obtain ⟨-, c1, c2, c3, c4⟩ := k; omega)
        (fun x1 e2 q3 q4 x59 e60 x61 e62 x63 e64 v65 k66 q67 x68 e69 x70 e71 => by have k := isB_1 k66 q67; obtain ⟨-, c1, c2, c3, c4⟩ := k; omega)
        (fun x1 e2 q3 q4 x59 e60 x61 e62 x63 e64 v65 k66 q67 x68 e69 x70 e71 v72 k73 q74 _ => ⟨_, rfl, rfl, bes_no (X := x59.toInt) (Y := x63.toInt) (by rw [show dX y.toInt = (-1) by rw [q4]; decide]; omega) (by rw [show dY y.toInt = 0 by rw [q4]; decide]; omega) tm1 (fun f => f.2 (by have w := isB_1 k73 q74; rw [(show x70.toInt = 8 * x63.toInt + x59.toInt by omega)] at w; exact w))⟩)
        (fun x1 e2 q3 q4 x59 e60 x61 e62 x63 e64 v65 k66 q67 x68 e69 x70 e71 v72 k73 q74 => by have k := isB_1 k66 q67; obtain ⟨-, c1, c2, c3, c4⟩ := k; omega)
        (fun x1 e2 q3 q4 x59 e60 x61 e62 x63 e64 v65 k66 q67 x68 e69 x70 e71 v72 k73 q74 x75 e76 => by have k := isB_1 k66 q67; obtain ⟨-, c1, c2, c3, c4⟩ := k; omega)
        (fun x1 e2 q3 q4 x59 e60 x61 e62 x63 e64 v65 k66 q67 x68 e69 x70 e71 v72 k73 q74 x75 e76 x77 e78 _ => ⟨_, rfl, rfl, bes_yes (X := x59.toInt) (Y := x63.toInt) (by rw [show dX y.toInt = (-1) by rw [q4]; decide]; omega) (by rw [show dY y.toInt = 0 by rw [q4]; decide]; omega) (by omega) ⟨isB_1 k66 q67, by have w := isB_0 k73 q74; rw [(show x70.toInt = 8 * x63.toInt + x59.toInt by omega)] at w; exact w⟩⟩)
        (fun x1 e2 q3 => by omega)
        (fun x1 e2 q3 x79 e80 => by omega)
        (fun x1 e2 q3 x79 e80 x81 e82 => by omega)
        (fun x1 e2 q3 x79 e80 x81 e82 x83 e84 v85 k86 q87 _ => ⟨_, rfl, rfl, bes_no (X := x79.toInt) (Y := x83.toInt) (by rw [show dX y.toInt = 1 by rw [q3]; decide]; omega) (by rw [show dY y.toInt = 0 by rw [q3]; decide]; omega) tm1 (fun f => isB_0 k86 q87 f.1)⟩)
        (fun x1 e2 q3 x79 e80 x81 e82 x83 e84 v85 k86 q87 => by have k := isB_1 k86 q87; obtain ⟨-, c1, c2, c3, c4⟩ := k; omega)
        (fun x1 e2 q3 x79 e80 x81 e82 x83 e84 v85 k86 q87 x88 e89 => by have k := isB_1 k86 q87; obtain ⟨-, c1, c2, c3, c4⟩ := k; omega)
        (fun x1 e2 q3 x79 e80 x81 e82 x83 e84 v85 k86 q87 x88 e89 x90 e91 => by have k := isB_1 k86 q87; obtain ⟨-, c1, c2, c3, c4⟩ := k; omega)
        (fun x1 e2 q3 x79 e80 x81 e82 x83 e84 v85 k86 q87 x88 e89 x90 e91 v92 k93 q94 _ => ⟨_, rfl, rfl, bes_no (X := x79.toInt) (Y := x83.toInt) (by rw [show dX y.toInt = 1 by rw [q3]; decide]; omega) (by rw [show dY y.toInt = 0 by rw [q3]; decide]; omega) tm1 (fun f => f.2 (by have w := isB_1 k93 q94; rw [(show x90.toInt = 8 * x83.toInt + x79.toInt by omega)] at w; exact w))⟩)
        (fun x1 e2 q3 x79 e80 x81 e82 x83 e84 v85 k86 q87 x88 e89 x90 e91 v92 k93 q94 => by have k := isB_1 k86 q87; obtain ⟨-, c1, c2, c3, c4⟩ := k; omega)
        (fun x1 e2 q3 x79 e80 x81 e82 x83 e84 v85 k86 q87 x88 e89 x90 e91 v92 k93 q94 x95 e96 => by have k := isB_1 k86 q87; obtain ⟨-, c1, c2, c3, c4⟩ := k; omega)
        (fun x1 e2 q3 x79 e80 x81 e82 x83 e84 v85 k86 q87 x88 e89 x90 e91 v92 k93 q94 x95 e96 x97 e98 _ => ⟨_, rfl, rfl, bes_yes (X := x79.toInt) (Y := x83.toInt) (by rw [show dX y.toInt = 1 by rw [q3]; decide]; omega) (by rw [show dY y.toInt = 0 by rw [q3]; decide]; omega) (by omega) ⟨isB_1 k86 q87, by have w := isB_0 k93 q94; rw [(show x90.toInt = 8 * x83.toInt + x79.toInt by omega)] at w; exact w⟩⟩)
