/-! RoseWheelModel() -/
set_option maxHeartbeats 4000000 in
set_option maxRecDepth 100000 in
/-- RoseWheelModel() -/
theorem y_m_init (D : va_G) (ca : Nat → ClassId) (a : Nat) : yC M_m_init [] D ca a (.inr (12, [.int (Int32.ofInt 0), .null, .int (Int32.ofInt 0), .int (Int32.ofInt 0), .int (Int32.ofInt 0), .null, .null, .null, .null, .int (Int32.ofInt 0), .null, .int (Int32.ofInt 0), .null, .long (Int64.ofInt 0), .null, .int (Int32.ofInt 0), .int (Int32.ofInt 0), .int (Int32.ofInt 0), .int (Int32.ofInt 0), .int (Int32.ofInt 0), .int (Int32.ofInt 0), .int (Int32.ofInt 0), .int (Int32.ofInt 0), .null, .int (Int32.ofInt 0), .int (Int32.ofInt 0), .int (Int32.ofInt 0), .null, .null, .null, .null, .null, .null, .null])) 16 2961 (fun w => ∃ r : Nat → Nat, r 39 = a ∧ w = mw r ca) := by
  refine yC.of (by decide) rfl rfl (by decide) ?_
  refine y_this (by decide +kernel) ?_
  refine y_obj (idx := 1) (by decide +kernel) (zt_t1 687 (by decide +kernel) rfl) (by decide) (by decide) ?_
  refine y_this (by decide +kernel) ?_
  refine y_bipush (n := 12) (Int32.ofInt 12) (by decide +kernel) (by decide) ?_
  refine y_newi 12 (by decide +kernel) (by decide) (by decide) (by decide) (by decide +kernel) (by decide +kernel) (fun q1 => ?_)
  simp only [List.cons_append, List.nil_append]
  refine y_putF (idx := 7) 1 (by decide +kernel) (by decide) (by decide +kernel) (zt_t1 689 (by decide +kernel) rfl) rfl rfl rfl rfl (Nat.le_of_ble_eq_true rfl) ?_
  simp only [List.set_cons_succ, List.set_cons_zero]
  refine y_this (by decide +kernel) ?_
  refine y_bipush (n := 8) (Int32.ofInt 8) (by decide +kernel) (by decide) ?_
  refine y_put (idx := 13) 2 (by decide +kernel) (by decide) (by decide +kernel) (zt_t1 690 (by decide +kernel) rfl) rfl rfl rfl (Nat.le_of_ble_eq_true rfl) ?_
  simp only [List.set_cons_succ, List.set_cons_zero]
  refine y_this (by decide +kernel) ?_
  refine y_iconst (n := 1) (Int32.ofInt 1) (by decide +kernel) (by decide) ?_
  refine y_put (idx := 17) 3 (by decide +kernel) (by decide) (by decide +kernel) (zt_t1 691 (by decide +kernel) rfl) rfl rfl rfl (Nat.le_of_ble_eq_true rfl) ?_
  simp only [List.set_cons_succ, List.set_cons_zero]
  refine y_this (by decide +kernel) ?_
  refine y_bipush (n := 6) (Int32.ofInt 6) (by decide +kernel) (by decide) ?_
  refine y_newi 6 (by decide +kernel) (by decide) (by decide) (by decide) (by decide +kernel) (by decide +kernel) (fun q2 => ?_)
  simp only [List.cons_append, List.nil_append]
  refine y_putF (idx := 20) 5 (by decide +kernel) (by decide) (by decide +kernel) (zt_t1 693 (by decide +kernel) rfl) rfl rfl rfl rfl (Nat.le_of_ble_eq_true rfl) ?_
  simp only [List.set_cons_succ, List.set_cons_zero]
  refine y_this (by decide +kernel) ?_
  refine y_sipush (n := 573) (Int32.ofInt 573) (by decide +kernel) (by decide) ?_
  refine y_newi 573 (by decide +kernel) (by decide) (by decide) (by decide) (by decide +kernel) (by decide +kernel) (fun q3 => ?_)
  simp only [List.cons_append, List.nil_append]
  refine y_putF (idx := 23) 6 (by decide +kernel) (by decide) (by decide +kernel) (zt_t1 694 (by decide +kernel) rfl) rfl rfl rfl rfl (Nat.le_of_ble_eq_true rfl) ?_
  simp only [List.set_cons_succ, List.set_cons_zero]
  refine y_this (by decide +kernel) ?_
  refine y_sipush (n := 1146) (Int32.ofInt 1146) (by decide +kernel) (by decide) ?_
  refine y_newi 1146 (by decide +kernel) (by decide) (by decide) (by decide) (by decide +kernel) (by decide +kernel) (fun q4 => ?_)
  simp only [List.cons_append, List.nil_append]
  refine y_putF (idx := 26) 7 (by decide +kernel) (by decide) (by decide +kernel) (zt_t1 695 (by decide +kernel) rfl) rfl rfl rfl rfl (Nat.le_of_ble_eq_true rfl) ?_
  simp only [List.set_cons_succ, List.set_cons_zero]
  refine y_this (by decide +kernel) ?_
  refine y_iconst (n := 2) (Int32.ofInt 2) (by decide +kernel) (by decide) ?_
  refine y_newb 2 (by decide +kernel) (by decide) (by decide) (by decide) (by decide +kernel) (by decide +kernel) (fun q5 => ?_)
  simp only [List.cons_append, List.nil_append]
  refine y_putF (idx := 29) 8 (by decide +kernel) (by decide) (by decide +kernel) (zt_t1 696 (by decide +kernel) rfl) rfl rfl rfl rfl (Nat.le_of_ble_eq_true rfl) ?_
  simp only [List.set_cons_succ, List.set_cons_zero]
  refine y_this (by decide +kernel) ?_
  refine y_bipush (n := 12) (Int32.ofInt 12) (by decide +kernel) (by decide) ?_
  refine y_newi 12 (by decide +kernel) (by decide) (by decide) (by decide) (by decide +kernel) (by decide +kernel) (fun q6 => ?_)
  simp only [List.cons_append, List.nil_append]
  refine y_putF (idx := 33) 10 (by decide +kernel) (by decide) (by decide +kernel) (zt_t1 698 (by decide +kernel) rfl) rfl rfl rfl rfl (Nat.le_of_ble_eq_true rfl) ?_
  simp only [List.set_cons_succ, List.set_cons_zero]
  refine y_this (by decide +kernel) ?_
  refine y_bipush (n := 12) (Int32.ofInt 12) (by decide +kernel) (by decide) ?_
  refine y_newi 12 (by decide +kernel) (by decide) (by decide) (by decide) (by decide +kernel) (by decide +kernel) (fun q7 => ?_)
  simp only [List.cons_append, List.nil_append]
  refine y_putF (idx := 36) 12 (by decide +kernel) (by decide) (by decide +kernel) (zt_t1 700 (by decide +kernel) rfl) rfl rfl rfl rfl (Nat.le_of_ble_eq_true rfl) ?_
  simp only [List.set_cons_succ, List.set_cons_zero]
  refine y_this (by decide +kernel) ?_
  refine y_sipush (n := 150) (Int32.ofInt 150) (by decide +kernel) (by decide) ?_
  refine y_newi 150 (by decide +kernel) (by decide) (by decide) (by decide) (by decide +kernel) (by decide +kernel) (fun q8 => ?_)
  simp only [List.cons_append, List.nil_append]
  refine y_putF (idx := 39) 14 (by decide +kernel) (by decide) (by decide +kernel) (zt_t1 702 (by decide +kernel) rfl) rfl rfl rfl rfl (Nat.le_of_ble_eq_true rfl) ?_
  simp only [List.set_cons_succ, List.set_cons_zero]
  refine y_this (by decide +kernel) ?_
  refine y_bipush (n := 12) (Int32.ofInt 12) (by decide +kernel) (by decide) ?_
  refine y_newi 12 (by decide +kernel) (by decide) (by decide) (by decide) (by decide +kernel) (by decide +kernel) (fun q9 => ?_)
  simp only [List.cons_append, List.nil_append]
  refine y_putF (idx := 42) 23 (by decide +kernel) (by decide) (by decide +kernel) (zt_t1 711 (by decide +kernel) rfl) rfl rfl rfl rfl (Nat.le_of_ble_eq_true rfl) ?_
  simp only [List.set_cons_succ, List.set_cons_zero]
  refine y_this (by decide +kernel) ?_
  refine y_bipush (n := 6) (Int32.ofInt 6) (by decide +kernel) (by decide) ?_
  refine y_newi 6 (by decide +kernel) (by decide) (by decide) (by decide) (by decide +kernel) (by decide +kernel) (fun q10 => ?_)
  simp only [List.cons_append, List.nil_append]
  refine y_putF (idx := 45) 27 (by decide +kernel) (by decide) (by decide +kernel) (zt_t1 715 (by decide +kernel) rfl) rfl rfl rfl rfl (Nat.le_of_ble_eq_true rfl) ?_
  simp only [List.set_cons_succ, List.set_cons_zero]
  refine y_this (by decide +kernel) ?_
  refine y_bipush (n := 6) (Int32.ofInt 6) (by decide +kernel) (by decide) ?_
  refine y_newi 6 (by decide +kernel) (by decide) (by decide) (by decide) (by decide +kernel) (by decide +kernel) (fun q11 => ?_)
  simp only [List.cons_append, List.nil_append]
  refine y_putF (idx := 48) 28 (by decide +kernel) (by decide) (by decide +kernel) (zt_t1 716 (by decide +kernel) rfl) rfl rfl rfl rfl (Nat.le_of_ble_eq_true rfl) ?_
  simp only [List.set_cons_succ, List.set_cons_zero]
  refine y_this (by decide +kernel) ?_
  refine y_bipush (n := 6) (Int32.ofInt 6) (by decide +kernel) (by decide) ?_
  refine y_newi 6 (by decide +kernel) (by decide) (by decide) (by decide) (by decide +kernel) (by decide +kernel) (fun q12 => ?_)
  simp only [List.cons_append, List.nil_append]
  refine y_putF (idx := 51) 29 (by decide +kernel) (by decide) (by decide +kernel) (zt_t1 717 (by decide +kernel) rfl) rfl rfl rfl rfl (Nat.le_of_ble_eq_true rfl) ?_
  simp only [List.set_cons_succ, List.set_cons_zero]
  refine y_this (by decide +kernel) ?_
  refine y_bipush (n := 6) (Int32.ofInt 6) (by decide +kernel) (by decide) ?_
  refine y_newi 6 (by decide +kernel) (by decide) (by decide) (by decide) (by decide +kernel) (by decide +kernel) (fun q13 => ?_)
  simp only [List.cons_append, List.nil_append]
  refine y_putF (idx := 54) 30 (by decide +kernel) (by decide) (by decide +kernel) (zt_t1 718 (by decide +kernel) rfl) rfl rfl rfl rfl (Nat.le_of_ble_eq_true rfl) ?_
  simp only [List.set_cons_succ, List.set_cons_zero]
  refine y_this (by decide +kernel) ?_
  refine y_bipush (n := 6) (Int32.ofInt 6) (by decide +kernel) (by decide) ?_
  refine y_newi 6 (by decide +kernel) (by decide) (by decide) (by decide) (by decide +kernel) (by decide +kernel) (fun q14 => ?_)
  simp only [List.cons_append, List.nil_append]
  refine y_putF (idx := 57) 31 (by decide +kernel) (by decide) (by decide +kernel) (zt_t1 719 (by decide +kernel) rfl) rfl rfl rfl rfl (Nat.le_of_ble_eq_true rfl) ?_
  simp only [List.set_cons_succ, List.set_cons_zero]
  refine y_this (by decide +kernel) ?_
  refine y_bipush (n := 6) (Int32.ofInt 6) (by decide +kernel) (by decide) ?_
  refine y_newi 6 (by decide +kernel) (by decide) (by decide) (by decide) (by decide +kernel) (by decide +kernel) (fun q15 => ?_)
  simp only [List.cons_append, List.nil_append]
  refine y_putF (idx := 60) 32 (by decide +kernel) (by decide) (by decide +kernel) (zt_t1 720 (by decide +kernel) rfl) rfl rfl rfl rfl (Nat.le_of_ble_eq_true rfl) ?_
  simp only [List.set_cons_succ, List.set_cons_zero]
  refine y_this (by decide +kernel) ?_
  refine y_sipush (n := 1000) (Int32.ofInt 1000) (by decide +kernel) (by decide) ?_
  refine y_newi 1000 (by decide +kernel) (by decide) (by decide) (by decide) (by decide +kernel) (by decide +kernel) (fun q16 => ?_)
  simp only [List.cons_append, List.nil_append]
  refine y_putF (idx := 63) 33 (by decide +kernel) (by decide) (by decide +kernel) (zt_t1 721 (by decide +kernel) rfl) rfl rfl rfl rfl (Nat.le_of_ble_eq_true rfl) ?_
  simp only [List.set_cons_succ, List.set_cons_zero]
  exact y_ret (by decide +kernel) (by decide +kernel) (by decide +kernel) ⟨(fun i => ([a, q1, q2, q3, q4, q5, q6, q7, q8, q9, q10, q11, q12, q13, q14, q15, q16] : List Nat).getD (i - 39) 0), rfl, rfl⟩
