set_option maxHeartbeats 8000000 in
set_option maxRecDepth 1000000 in
theorem zk_0 (a b c d e : Int32) : zRes (zboth 112 167 [.int a, .int b, .int c, .int d, .int e]) := by
  unfold zboth
  exact z_leaf rfl
set_option maxHeartbeats 8000000 in
set_option maxRecDepth 1000000 in
theorem zk_15 (a : Int32) : zRes (zboth 127 257 [.int a]) := by
  by_cases e0 : a = 0
  · subst e0
    exact ⟨0, by decide +kernel⟩
  have e0 : ¬ a.toInt = 0 := fun q => e0 (Int32.toInt_inj.mp q)
  by_cases e1 : a = 1
  · subst e1
    exact ⟨0, by decide +kernel⟩
  have e1 : ¬ a.toInt = 1 := fun q => e1 (Int32.toInt_inj.mp q)
  unfold zboth
  repeat' (first
    | (exfalso; omega)
    | (refine z_b2 (fun h => ?_) (fun h => ?_) <;> (first
        | (have h := q_lt_t (w := a) (0) (n := 0) rfl h)
        | (have h := q_lt_f (w := a) (0) (n := 0) rfl h)
        | (have h := q_ge_t (w := a) (0) (n := 0) rfl h)
        | (have h := q_ge_f (w := a) (0) (n := 0) rfl h)
        | (have h := q_gt_t (w := a) (0) (n := 0) rfl h)
        | (have h := q_gt_f (w := a) (0) (n := 0) rfl h)
        | (have h := q_le_t (w := a) (0) (n := 0) rfl h)
        | (have h := q_le_f (w := a) (0) (n := 0) rfl h)
        | (have h := q_eq_t (w := a) (0) (n := 0) rfl h)
        | (have h := q_eq_f (w := a) (0) (n := 0) rfl h)
        | (have h := q_ne_t (w := a) (0) (n := 0) rfl h)
        | (have h := q_ne_f (w := a) (0) (n := 0) rfl h)
        | (have h := q_lt_t (w := a) (1) (n := 1) rfl h)
        | (have h := q_lt_f (w := a) (1) (n := 1) rfl h)
        | (have h := q_ge_t (w := a) (1) (n := 1) rfl h)
        | (have h := q_ge_f (w := a) (1) (n := 1) rfl h)
        | (have h := q_gt_t (w := a) (1) (n := 1) rfl h)
        | (have h := q_gt_f (w := a) (1) (n := 1) rfl h)
        | (have h := q_le_t (w := a) (1) (n := 1) rfl h)
        | (have h := q_le_f (w := a) (1) (n := 1) rfl h)
        | (have h := q_eq_t (w := a) (1) (n := 1) rfl h)
        | (have h := q_eq_f (w := a) (1) (n := 1) rfl h)
        | (have h := q_ne_t (w := a) (1) (n := 1) rfl h)
        | (have h := q_ne_f (w := a) (1) (n := 1) rfl h)
        | (have h := q_lt_t (w := a) (2) (n := 2) rfl h)
        | (have h := q_lt_f (w := a) (2) (n := 2) rfl h)
        | (have h := q_ge_t (w := a) (2) (n := 2) rfl h)
        | (have h := q_ge_f (w := a) (2) (n := 2) rfl h)
        | (have h := q_gt_t (w := a) (2) (n := 2) rfl h)
        | (have h := q_gt_f (w := a) (2) (n := 2) rfl h)
        | (have h := q_le_t (w := a) (2) (n := 2) rfl h)
        | (have h := q_le_f (w := a) (2) (n := 2) rfl h)
        | (have h := q_eq_t (w := a) (2) (n := 2) rfl h)
        | (have h := q_eq_f (w := a) (2) (n := 2) rfl h)
        | (have h := q_ne_t (w := a) (2) (n := 2) rfl h)
        | (have h := q_ne_f (w := a) (2) (n := 2) rfl h)
        ))
    | exact z_leaf rfl)
