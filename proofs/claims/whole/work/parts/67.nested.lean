/-! nested constructors -/
theorem yG_kO_init : zG M_kO_init 0 := ⟨zt_t1 178 (by decide +kernel) rfl, zt_t1 7 (by decide +kernel) rfl, by decide, by decide, by decide +kernel⟩
theorem yG_kB_init : zG M_kB_init 0 := ⟨zt_t1 185 (by decide +kernel) rfl, zt_t1 8 (by decide +kernel) rfl, by decide, by decide, by decide +kernel⟩
theorem yG_kE_init : zG M_kE_init 0 := ⟨zt_t1 192 (by decide +kernel) rfl, zt_t1 9 (by decide +kernel) rfl, by decide, by decide, by decide +kernel⟩
theorem yG_kC_init : zG M_kC_init 0 := ⟨zt_t1 199 (by decide +kernel) rfl, zt_t1 10 (by decide +kernel) rfl, by decide, by decide, by decide +kernel⟩
theorem yG_kD_init : zG M_kD_init 0 := ⟨zt_t1 206 (by decide +kernel) rfl, zt_t1 11 (by decide +kernel) rfl, by decide, by decide, by decide +kernel⟩
theorem yG_kG_init : zG M_kG_init 0 := ⟨zt_t1 213 (by decide +kernel) rfl, zt_t1 12 (by decide +kernel) rfl, by decide, by decide, by decide +kernel⟩
theorem yG_t_init : zG M_t_init 0 := ⟨zt_t1 29 (by decide +kernel) rfl, zt_t1 2 (by decide +kernel) rfl, by decide, by decide, by decide +kernel⟩
theorem yG_w_init : zG M_w_init 0 := ⟨zt_t1 62 (by decide +kernel) rfl, zt_t1 3 (by decide +kernel) rfl, by decide, by decide, by decide +kernel⟩
theorem yG_d_init : zG M_d_init 0 := ⟨zt_t1 105 (by decide +kernel) rfl, zt_t1 4 (by decide +kernel) rfl, by decide, by decide, by decide +kernel⟩
theorem yG_n_init : zG M_n_init 0 := ⟨zt_t1 120 (by decide +kernel) rfl, zt_t1 5 (by decide +kernel) rfl, by decide, by decide, by decide +kernel⟩
theorem yG_a_init : zG M_a_init 0 := ⟨zt_t1 140 (by decide +kernel) rfl, zt_t1 6 (by decide +kernel) rfl, by decide, by decide, by decide +kernel⟩
theorem yG_x_init : zG M_x_init 0 := ⟨zt_t1 21 (by decide +kernel) rfl, zt_t1 1 (by decide +kernel) rfl, by decide, by decide, by decide +kernel⟩
theorem yG_m_init : zG M_m_init 0 := ⟨zt_t1 686 (by decide +kernel) rfl, zt_t1 13 (by decide +kernel) rfl, by decide, by decide, by decide +kernel⟩
theorem yI_kO_init : Cond.instanceMethod M_kO_init.1 ∈ zt := zt_t1 177 (by decide +kernel) rfl
theorem yI_kB_init : Cond.instanceMethod M_kB_init.1 ∈ zt := zt_t1 184 (by decide +kernel) rfl
theorem yI_kE_init : Cond.instanceMethod M_kE_init.1 ∈ zt := zt_t1 191 (by decide +kernel) rfl
theorem yI_kC_init : Cond.instanceMethod M_kC_init.1 ∈ zt := zt_t1 198 (by decide +kernel) rfl
theorem yI_kD_init : Cond.instanceMethod M_kD_init.1 ∈ zt := zt_t1 205 (by decide +kernel) rfl
theorem yI_kG_init : Cond.instanceMethod M_kG_init.1 ∈ zt := zt_t1 212 (by decide +kernel) rfl
theorem yI_t_init : Cond.instanceMethod M_t_init.1 ∈ zt := zt_t1 28 (by decide +kernel) rfl
theorem yI_w_init : Cond.instanceMethod M_w_init.1 ∈ zt := zt_t1 61 (by decide +kernel) rfl
theorem yI_d_init : Cond.instanceMethod M_d_init.1 ∈ zt := zt_t1 104 (by decide +kernel) rfl
theorem yI_n_init : Cond.instanceMethod M_n_init.1 ∈ zt := zt_t1 119 (by decide +kernel) rfl
theorem yI_a_init : Cond.instanceMethod M_a_init.1 ∈ zt := zt_t1 139 (by decide +kernel) rfl
theorem yI_x_init : Cond.instanceMethod M_x_init.1 ∈ zt := zt_t1 20 (by decide +kernel) rfl
theorem yI_m_init : Cond.instanceMethod M_m_init.1 ∈ zt := zt_t1 685 (by decide +kernel) rfl
set_option maxHeartbeats 4000000 in
set_option maxRecDepth 100000 in
/-- Text() -/
theorem y_t_init (D : va_G) (ca : Nat → ClassId) (a : Nat) : yC M_t_init [] D ca a (.inr (9, [.null, .int (Int32.ofInt 0), .int (Int32.ofInt 0), .int (Int32.ofInt 0), .int (Int32.ofInt 0), .int (Int32.ofInt 0), .int (Int32.ofInt 0), .int (Int32.ofInt 0)])) 1 150 (fun w => ∃ q1 : Nat, w = [(a, .inr (9, [.ref q1, .int (Int32.ofInt 0), .int (Int32.ofInt 0), .int (Int32.ofInt 0), .int (Int32.ofInt 0), .int (Int32.ofInt 0), .int (Int32.ofInt 0), .int (Int32.ofInt 0)])), (q1, yw ca 150)]) := by
  refine yC.of (by decide) rfl rfl (by decide) ?_
  refine y_this (by decide +kernel) ?_
  refine y_obj (idx := 3) (by decide +kernel) (zt_t1 30 (by decide +kernel) rfl) (by decide) (by decide) ?_
  refine y_this (by decide +kernel) ?_
  refine y_sipush (n := 150) (Int32.ofInt 150) (by decide +kernel) (by decide) ?_
  refine y_newi 150 (by decide +kernel) (by decide) (by decide) (by decide) (by decide +kernel) (by decide +kernel) (fun q1 => ?_)
  simp only [List.cons_append, List.nil_append]
  refine y_putF (idx := 9) 0 (by decide +kernel) (by decide) (by decide +kernel) (zt_t1 31 (by decide +kernel) rfl) rfl rfl rfl rfl (Nat.le_of_ble_eq_true rfl) ?_
  simp only [List.set_cons_succ, List.set_cons_zero]
  refine y_this (by decide +kernel) ?_
  refine y_iconst (n := 0) (Int32.ofInt 0) (by decide +kernel) (by decide) ?_
  refine y_put (idx := 15) 1 (by decide +kernel) (by decide) (by decide +kernel) (zt_t1 32 (by decide +kernel) rfl) rfl rfl rfl (Nat.le_of_ble_eq_true rfl) ?_
  simp only [List.set_cons_succ, List.set_cons_zero]
  exact y_ret (by decide +kernel) (by decide +kernel) (by decide +kernel) ⟨q1, rfl⟩
set_option maxHeartbeats 4000000 in
set_option maxRecDepth 100000 in
/-- Window() -/
theorem y_w_init (D : va_G) (ca : Nat → ClassId) (a : Nat) : yC M_w_init [] D ca a (.inr (10, [.null, .null, .null, .int (Int32.ofInt 0), .int (Int32.ofInt 0), .int (Int32.ofInt 0), .int (Int32.ofInt 0)])) 3 24 (fun w => ∃ q1 q2 q3 : Nat, w = [(a, .inr (10, [.ref q1, .ref q2, .ref q3, .int (Int32.ofInt 0), .int (Int32.ofInt 0), .int (Int32.ofInt 8), .int (Int32.ofInt 1)])), (q1, yw ca 12), (q2, yw ca 6), (q3, yw ca 6)]) := by
  refine yC.of (by decide) rfl rfl (by decide) ?_
  refine y_this (by decide +kernel) ?_
  refine y_obj (idx := 3) (by decide +kernel) (zt_t1 63 (by decide +kernel) rfl) (by decide) (by decide) ?_
  refine y_this (by decide +kernel) ?_
  refine y_bipush (n := 12) (Int32.ofInt 12) (by decide +kernel) (by decide) ?_
  refine y_newi 12 (by decide +kernel) (by decide) (by decide) (by decide) (by decide +kernel) (by decide +kernel) (fun q1 => ?_)
  simp only [List.cons_append, List.nil_append]
  refine y_putF (idx := 9) 0 (by decide +kernel) (by decide) (by decide +kernel) (zt_t1 64 (by decide +kernel) rfl) rfl rfl rfl rfl (Nat.le_of_ble_eq_true rfl) ?_
  simp only [List.set_cons_succ, List.set_cons_zero]
  refine y_this (by decide +kernel) ?_
  refine y_bipush (n := 6) (Int32.ofInt 6) (by decide +kernel) (by decide) ?_
  refine y_newi 6 (by decide +kernel) (by decide) (by decide) (by decide) (by decide +kernel) (by decide +kernel) (fun q2 => ?_)
  simp only [List.cons_append, List.nil_append]
  refine y_putF (idx := 15) 1 (by decide +kernel) (by decide) (by decide +kernel) (zt_t1 67 (by decide +kernel) rfl) rfl rfl rfl rfl (Nat.le_of_ble_eq_true rfl) ?_
  simp only [List.set_cons_succ, List.set_cons_zero]
  refine y_this (by decide +kernel) ?_
  refine y_bipush (n := 6) (Int32.ofInt 6) (by decide +kernel) (by decide) ?_
  refine y_newi 6 (by decide +kernel) (by decide) (by decide) (by decide) (by decide +kernel) (by decide +kernel) (fun q3 => ?_)
  simp only [List.cons_append, List.nil_append]
  refine y_putF (idx := 18) 2 (by decide +kernel) (by decide) (by decide +kernel) (zt_t1 70 (by decide +kernel) rfl) rfl rfl rfl rfl (Nat.le_of_ble_eq_true rfl) ?_
  simp only [List.set_cons_succ, List.set_cons_zero]
  refine y_this (by decide +kernel) ?_
  refine y_iconst (n := 0) (Int32.ofInt 0) (by decide +kernel) (by decide) ?_
  refine y_put (idx := 21) 3 (by decide +kernel) (by decide) (by decide +kernel) (zt_t1 73 (by decide +kernel) rfl) rfl rfl rfl (Nat.le_of_ble_eq_true rfl) ?_
  simp only [List.set_cons_succ, List.set_cons_zero]
  refine y_this (by decide +kernel) ?_
  refine y_iconst (n := 0) (Int32.ofInt 0) (by decide +kernel) (by decide) ?_
  refine y_put (idx := 25) 4 (by decide +kernel) (by decide) (by decide +kernel) (zt_t1 76 (by decide +kernel) rfl) rfl rfl rfl (Nat.le_of_ble_eq_true rfl) ?_
  simp only [List.set_cons_succ, List.set_cons_zero]
  refine y_this (by decide +kernel) ?_
  refine y_bipush (n := 8) (Int32.ofInt 8) (by decide +kernel) (by decide) ?_
  refine y_put (idx := 28) 5 (by decide +kernel) (by decide) (by decide +kernel) (zt_t1 80 (by decide +kernel) rfl) rfl rfl rfl (Nat.le_of_ble_eq_true rfl) ?_
  simp only [List.set_cons_succ, List.set_cons_zero]
  refine y_this (by decide +kernel) ?_
  refine y_iconst (n := 1) (Int32.ofInt 1) (by decide +kernel) (by decide) ?_
  refine y_put (idx := 31) 6 (by decide +kernel) (by decide) (by decide +kernel) (zt_t1 83 (by decide +kernel) rfl) rfl rfl rfl (Nat.le_of_ble_eq_true rfl) ?_
  simp only [List.set_cons_succ, List.set_cons_zero]
  exact y_ret (by decide +kernel) (by decide +kernel) (by decide +kernel) ⟨q1, q2, q3, rfl⟩
set_option maxHeartbeats 4000000 in
set_option maxRecDepth 100000 in
/-- Days() -/
theorem y_d_init (D : va_G) (ca : Nat → ClassId) (a : Nat) : yC M_d_init [] D ca a (.inr (5, [.null, .int (Int32.ofInt 0)])) 1 572 (fun w => ∃ q1 : Nat, w = [(a, .inr (5, [.ref q1, .int (Int32.ofInt 0)])), (q1, yw ca 572)]) := by
  refine yC.of (by decide) rfl rfl (by decide) ?_
  refine y_this (by decide +kernel) ?_
  refine y_obj (idx := 5) (by decide +kernel) (zt_t1 106 (by decide +kernel) rfl) (by decide) (by decide) ?_
  refine y_this (by decide +kernel) ?_
  refine y_sipush (n := 572) (Int32.ofInt 572) (by decide +kernel) (by decide) ?_
  refine y_newi 572 (by decide +kernel) (by decide) (by decide) (by decide) (by decide +kernel) (by decide +kernel) (fun q1 => ?_)
  simp only [List.cons_append, List.nil_append]
  refine y_putF (idx := 11) 0 (by decide +kernel) (by decide) (by decide +kernel) (zt_t1 107 (by decide +kernel) rfl) rfl rfl rfl rfl (Nat.le_of_ble_eq_true rfl) ?_
  simp only [List.set_cons_succ, List.set_cons_zero]
  refine y_this (by decide +kernel) ?_
  refine y_iconst (n := 0) (Int32.ofInt 0) (by decide +kernel) (by decide) ?_
  refine y_put (idx := 15) 1 (by decide +kernel) (by decide) (by decide +kernel) (zt_t1 108 (by decide +kernel) rfl) rfl rfl rfl (Nat.le_of_ble_eq_true rfl) ?_
  simp only [List.set_cons_succ, List.set_cons_zero]
  exact y_ret (by decide +kernel) (by decide +kernel) (by decide +kernel) ⟨q1, rfl⟩
set_option maxHeartbeats 4000000 in
set_option maxRecDepth 100000 in
/-- Notes() -/
theorem y_n_init (D : va_G) (ca : Nat → ClassId) (a : Nat) : yC M_n_init [] D ca a (.inr (7, [.null, .null, .int (Int32.ofInt 0)])) 2 12 (fun w => ∃ q1 q2 : Nat, w = [(a, .inr (7, [.ref q1, .ref q2, .int (Int32.ofInt 0)])), (q1, yw ca 6), (q2, yw ca 6)]) := by
  refine yC.of (by decide) rfl rfl (by decide) ?_
  refine y_this (by decide +kernel) ?_
  refine y_obj (idx := 3) (by decide +kernel) (zt_t1 121 (by decide +kernel) rfl) (by decide) (by decide) ?_
  refine y_this (by decide +kernel) ?_
  refine y_bipush (n := 6) (Int32.ofInt 6) (by decide +kernel) (by decide) ?_
  refine y_newi 6 (by decide +kernel) (by decide) (by decide) (by decide) (by decide +kernel) (by decide +kernel) (fun q1 => ?_)
  simp only [List.cons_append, List.nil_append]
  refine y_putF (idx := 9) 0 (by decide +kernel) (by decide) (by decide +kernel) (zt_t1 122 (by decide +kernel) rfl) rfl rfl rfl rfl (Nat.le_of_ble_eq_true rfl) ?_
  simp only [List.set_cons_succ, List.set_cons_zero]
  refine y_this (by decide +kernel) ?_
  refine y_bipush (n := 6) (Int32.ofInt 6) (by decide +kernel) (by decide) ?_
  refine y_newi 6 (by decide +kernel) (by decide) (by decide) (by decide) (by decide +kernel) (by decide +kernel) (fun q2 => ?_)
  simp only [List.cons_append, List.nil_append]
  refine y_putF (idx := 15) 1 (by decide +kernel) (by decide) (by decide +kernel) (zt_t1 124 (by decide +kernel) rfl) rfl rfl rfl rfl (Nat.le_of_ble_eq_true rfl) ?_
  simp only [List.set_cons_succ, List.set_cons_zero]
  refine y_this (by decide +kernel) ?_
  refine y_iconst (n := 0) (Int32.ofInt 0) (by decide +kernel) (by decide) ?_
  refine y_put (idx := 18) 2 (by decide +kernel) (by decide) (by decide +kernel) (zt_t1 126 (by decide +kernel) rfl) rfl rfl rfl (Nat.le_of_ble_eq_true rfl) ?_
  simp only [List.set_cons_succ, List.set_cons_zero]
  exact y_ret (by decide +kernel) (by decide +kernel) (by decide +kernel) ⟨q1, q2, rfl⟩
set_option maxHeartbeats 4000000 in
set_option maxRecDepth 100000 in
/-- Asked() -/
theorem y_a_init (D : va_G) (ca : Nat → ClassId) (a : Nat) : yC M_a_init [] D ca a (.inr (0, [.int (Int32.ofInt 0), .int (Int32.ofInt 0), .int (Int32.ofInt 0), .int (Int32.ofInt 0), .int (Int32.ofInt 0), .long (Int64.ofInt 0)])) 0 0 (fun w => w = [(a, .inr (0, [.int (Int32.ofInt 0), .int (Int32.ofInt 0), .int (Int32.ofInt 0), .int (Int32.ofInt 0), .int (Int32.ofInt 0), .long (Int64.ofInt 0)]))]) := by
  refine yC.of (by decide) rfl rfl (by decide) ?_
  refine y_this (by decide +kernel) ?_
  refine y_obj (idx := 1) (by decide +kernel) (zt_t1 141 (by decide +kernel) rfl) (by decide) (by decide) ?_
  refine y_this (by decide +kernel) ?_
  refine y_lconst (n := 0) (Int64.ofInt 0) (by decide +kernel) (by decide) ?_
  refine y_put (idx := 7) 5 (by decide +kernel) (by decide) (by decide +kernel) (zt_t1 152 (by decide +kernel) rfl) rfl rfl rfl (Nat.le_of_ble_eq_true rfl) ?_
  simp only [List.set_cons_succ, List.set_cons_zero]
  exact y_ret (by decide +kernel) (by decide +kernel) (by decide +kernel) rfl
set_option maxHeartbeats 4000000 in
set_option maxRecDepth 100000 in
theorem y_kO_init (D : va_G) (ca : Nat → ClassId) (a : Nat) (e0 : va_E) : yC M_kO_init [] D ca a e0 0 0 (fun w => w = [(a, e0)]) := by
  refine yC.of (by decide) rfl rfl (by decide) ?_
  refine y_this (by decide +kernel) ?_
  refine y_obj (idx := 1) (by decide +kernel) (zt_t1 179 (by decide +kernel) rfl) (by decide) (by decide) ?_
  exact y_ret (by decide +kernel) (by decide) (by decide) rfl
set_option maxHeartbeats 4000000 in
set_option maxRecDepth 100000 in
theorem y_kB_init (D : va_G) (ca : Nat → ClassId) (a : Nat) (e0 : va_E) : yC M_kB_init [.methodLinkNest "RoseWheel$Blind" 1 M_kO_init.1 "RoseWheel"] D ca a e0 0 0 (fun w => w = [(a, e0)]) := by
  refine yC.of (by decide) rfl rfl (by decide) ?_
  refine y_this (by decide +kernel) ?_
  refine y_callN (idx := 1) (N0 := M_kO_init) (wr := []) (host := "RoseWheel") (nwN := []) (by decide +kernel) (y_kO_init D ca a e0) yG_kO_init yI_kO_init (by decide +kernel) rfl (List.mem_of_getElem? (i := 0) rfl) rfl rfl ⟨by decide, by decide⟩ (by decide) (by decide) (by decide) (fun w1 hw1 => ?_)
  subst hw1
  exact y_ret (by decide +kernel) (by decide) (by decide) rfl
set_option maxHeartbeats 4000000 in
set_option maxRecDepth 100000 in
theorem y_kE_init (D : va_G) (ca : Nat → ClassId) (a : Nat) (e0 : va_E) : yC M_kE_init [.methodLinkNest "RoseWheel$Beadle" 1 M_kO_init.1 "RoseWheel"] D ca a e0 0 0 (fun w => w = [(a, e0)]) := by
  refine yC.of (by decide) rfl rfl (by decide) ?_
  refine y_this (by decide +kernel) ?_
  refine y_callN (idx := 1) (N0 := M_kO_init) (wr := []) (host := "RoseWheel") (nwN := []) (by decide +kernel) (y_kO_init D ca a e0) yG_kO_init yI_kO_init (by decide +kernel) rfl (List.mem_of_getElem? (i := 0) rfl) rfl rfl ⟨by decide, by decide⟩ (by decide) (by decide) (by decide) (fun w1 hw1 => ?_)
  subst hw1
  exact y_ret (by decide +kernel) (by decide) (by decide) rfl
set_option maxHeartbeats 4000000 in
set_option maxRecDepth 100000 in
theorem y_kG_init (D : va_G) (ca : Nat → ClassId) (a : Nat) (e0 : va_E) : yC M_kG_init [.methodLinkNest "RoseWheel$Dog" 1 M_kO_init.1 "RoseWheel"] D ca a e0 0 0 (fun w => w = [(a, e0)]) := by
  refine yC.of (by decide) rfl rfl (by decide) ?_
  refine y_this (by decide +kernel) ?_
  refine y_callN (idx := 1) (N0 := M_kO_init) (wr := []) (host := "RoseWheel") (nwN := []) (by decide +kernel) (y_kO_init D ca a e0) yG_kO_init yI_kO_init (by decide +kernel) rfl (List.mem_of_getElem? (i := 0) rfl) rfl rfl ⟨by decide, by decide⟩ (by decide) (by decide) (by decide) (fun w1 hw1 => ?_)
  subst hw1
  exact y_ret (by decide +kernel) (by decide) (by decide) rfl
set_option maxHeartbeats 4000000 in
set_option maxRecDepth 100000 in
theorem y_kC_init (D : va_G) (ca : Nat → ClassId) (a : Nat) (e0 : va_E) : yC M_kC_init [.methodLinkNest "RoseWheel$Cripple" 1 M_kB_init.1 "RoseWheel", .methodLinkNest "RoseWheel$Blind" 1 M_kO_init.1 "RoseWheel"] D ca a e0 0 0 (fun w => w = [(a, e0)]) := by
  refine yC.of (by decide) rfl rfl (by decide) ?_
  refine y_this (by decide +kernel) ?_
  refine y_callN (idx := 1) (N0 := M_kB_init) (wr := []) (host := "RoseWheel") (nwN := [.methodLinkNest "RoseWheel$Blind" 1 M_kO_init.1 "RoseWheel"]) (by decide +kernel) (y_kB_init D ca a e0) yG_kB_init yI_kB_init (by decide +kernel) rfl (List.mem_of_getElem? (i := 0) rfl) rfl rfl ⟨by decide, by decide⟩ (by decide) (by decide) (by decide) (fun w1 hw1 => ?_)
  subst hw1
  exact y_ret (by decide +kernel) (by decide) (by decide) rfl
set_option maxHeartbeats 4000000 in
set_option maxRecDepth 100000 in
theorem y_kD_init (D : va_G) (ca : Nat → ClassId) (a : Nat) (e0 : va_E) : yC M_kD_init [.methodLinkNest "RoseWheel$Daughter" 1 M_kE_init.1 "RoseWheel", .methodLinkNest "RoseWheel$Beadle" 1 M_kO_init.1 "RoseWheel"] D ca a e0 0 0 (fun w => w = [(a, e0)]) := by
  refine yC.of (by decide) rfl rfl (by decide) ?_
  refine y_this (by decide +kernel) ?_
  refine y_callN (idx := 1) (N0 := M_kE_init) (wr := []) (host := "RoseWheel") (nwN := [.methodLinkNest "RoseWheel$Beadle" 1 M_kO_init.1 "RoseWheel"]) (by decide +kernel) (y_kE_init D ca a e0) yG_kE_init yI_kE_init (by decide +kernel) rfl (List.mem_of_getElem? (i := 0) rfl) rfl rfl ⟨by decide, by decide⟩ (by decide) (by decide) (by decide) (fun w1 hw1 => ?_)
  subst hw1
  exact y_ret (by decide +kernel) (by decide) (by decide) rfl
