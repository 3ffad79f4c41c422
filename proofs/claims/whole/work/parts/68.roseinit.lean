/-! RoseWheel() -/
def ynw : List Cond := [.methodLinkNest "RoseWheel" 9 M_t_init.1 "RoseWheel", .methodLinkNest "RoseWheel" 18 M_w_init.1 "RoseWheel", .methodLinkNest "RoseWheel" 28 M_d_init.1 "RoseWheel", .methodLinkNest "RoseWheel" 43 M_n_init.1 "RoseWheel", .methodLinkNest "RoseWheel" 53 M_a_init.1 "RoseWheel", .methodLinkNest "RoseWheel" 60 M_kO_init.1 "RoseWheel", .methodLinkNest "RoseWheel" 63 M_kB_init.1 "RoseWheel", .methodLinkNest "RoseWheel$Blind" 1 M_kO_init.1 "RoseWheel", .methodLinkNest "RoseWheel" 66 M_kE_init.1 "RoseWheel", .methodLinkNest "RoseWheel$Beadle" 1 M_kO_init.1 "RoseWheel", .methodLinkNest "RoseWheel" 69 M_kC_init.1 "RoseWheel", .methodLinkNest "RoseWheel$Cripple" 1 M_kB_init.1 "RoseWheel", .methodLinkNest "RoseWheel" 72 M_kD_init.1 "RoseWheel", .methodLinkNest "RoseWheel$Daughter" 1 M_kE_init.1 "RoseWheel", .methodLinkNest "RoseWheel" 75 M_kG_init.1 "RoseWheel", .methodLinkNest "RoseWheel$Dog" 1 M_kO_init.1 "RoseWheel", .castable "RoseWheel$Blind" "RoseWheel$One", .castable "RoseWheel$Beadle" "RoseWheel$One", .castable "RoseWheel$Cripple" "RoseWheel$One", .castable "RoseWheel$Daughter" "RoseWheel$One", .castable "RoseWheel$Dog" "RoseWheel$One", .arrayOver (.object "RoseWheel$Days"), .arrayOver (.object "RoseWheel$One")]
theorem ynw_good : ynw.all yGoodN = true := by decide +kernel
theorem ynw_tbl : ∀ w ∈ ynw, w ∈ lw_tbl := by decide +kernel
theorem yN_of {w : Cond} {A : Array Value} {s : State} (hg : yGoodN w = true) (h : w.before A s = true) : va_Nw w s := by
  unfold yGoodN at hg
  split at hg
  · exact va_Nw.of rfl h
  · exact va_Nw.of rfl h
  · exact va_AO.of h
  · cases hg
theorem yf_0 : ∀ j, j < zNN 0 → defaultValue (zty 0 j) = vp_V [.int (Int32.ofInt 0), .int (Int32.ofInt 0), .int (Int32.ofInt 0), .int (Int32.ofInt 0), .int (Int32.ofInt 0), .long (Int64.ofInt 0)] j := by
  intro j hj
  match j, hj with
  | 0, _ => exact rfl
  | 1, _ => exact rfl
  | 2, _ => exact rfl
  | 3, _ => exact rfl
  | 4, _ => exact rfl
  | 5, _ => exact rfl
  | j + 6, h => exact absurd h (by show ¬ (j + 6 < 6); omega)
theorem yf_5 : ∀ j, j < zNN 5 → defaultValue (zty 5 j) = vp_V [.null, .int (Int32.ofInt 0)] j := by
  intro j hj
  match j, hj with
  | 0, _ => exact rfl
  | 1, _ => exact rfl
  | j + 2, h => exact absurd h (by show ¬ (j + 2 < 2); omega)
theorem yf_7 : ∀ j, j < zNN 7 → defaultValue (zty 7 j) = vp_V [.null, .null, .int (Int32.ofInt 0)] j := by
  intro j hj
  match j, hj with
  | 0, _ => exact rfl
  | 1, _ => exact rfl
  | 2, _ => exact rfl
  | j + 3, h => exact absurd h (by show ¬ (j + 3 < 3); omega)
theorem yf_9 : ∀ j, j < zNN 9 → defaultValue (zty 9 j) = vp_V [.null, .int (Int32.ofInt 0), .int (Int32.ofInt 0), .int (Int32.ofInt 0), .int (Int32.ofInt 0), .int (Int32.ofInt 0), .int (Int32.ofInt 0), .int (Int32.ofInt 0)] j := by
  intro j hj
  match j, hj with
  | 0, _ => exact rfl
  | 1, _ => exact rfl
  | 2, _ => exact rfl
  | 3, _ => exact rfl
  | 4, _ => exact rfl
  | 5, _ => exact rfl
  | 6, _ => exact rfl
  | 7, _ => exact rfl
  | j + 8, h => exact absurd h (by show ¬ (j + 8 < 8); omega)
theorem yf_10 : ∀ j, j < zNN 10 → defaultValue (zty 10 j) = vp_V [.null, .null, .null, .int (Int32.ofInt 0), .int (Int32.ofInt 0), .int (Int32.ofInt 0), .int (Int32.ofInt 0)] j := by
  intro j hj
  match j, hj with
  | 0, _ => exact rfl
  | 1, _ => exact rfl
  | 2, _ => exact rfl
  | 3, _ => exact rfl
  | 4, _ => exact rfl
  | 5, _ => exact rfl
  | 6, _ => exact rfl
  | j + 7, h => exact absurd h (by show ¬ (j + 7 < 7); omega)
theorem yf_11 : ∀ j, j < zNN 11 → defaultValue (zty 11 j) = vp_V [.null, .null, .null, .null, .null, .null, .null, .null, .null, .null, .null, .null, .null, .null, .null, .null] j := by
  intro j hj
  match j, hj with
  | 0, _ => exact rfl
  | 1, _ => exact rfl
  | 2, _ => exact rfl
  | 3, _ => exact rfl
  | 4, _ => exact rfl
  | 5, _ => exact rfl
  | 6, _ => exact rfl
  | 7, _ => exact rfl
  | 8, _ => exact rfl
  | 9, _ => exact rfl
  | 10, _ => exact rfl
  | 11, _ => exact rfl
  | 12, _ => exact rfl
  | 13, _ => exact rfl
  | 14, _ => exact rfl
  | 15, _ => exact rfl
  | j + 16, h => exact absurd h (by show ¬ (j + 16 < 16); omega)
theorem yf_12 : ∀ j, j < zNN 12 → defaultValue (zty 12 j) = vp_V [.int (Int32.ofInt 0), .null, .int (Int32.ofInt 0), .int (Int32.ofInt 0), .int (Int32.ofInt 0), .null, .null, .null, .null, .int (Int32.ofInt 0), .null, .int (Int32.ofInt 0), .null, .long (Int64.ofInt 0), .null, .int (Int32.ofInt 0), .int (Int32.ofInt 0), .int (Int32.ofInt 0), .int (Int32.ofInt 0), .int (Int32.ofInt 0), .int (Int32.ofInt 0), .int (Int32.ofInt 0), .int (Int32.ofInt 0), .null, .int (Int32.ofInt 0), .int (Int32.ofInt 0), .int (Int32.ofInt 0), .null, .null, .null, .null, .null, .null, .null] j := by
  intro j hj
  match j, hj with
  | 0, _ => exact rfl
  | 1, _ => exact rfl
  | 2, _ => exact rfl
  | 3, _ => exact rfl
  | 4, _ => exact rfl
  | 5, _ => exact rfl
  | 6, _ => exact rfl
  | 7, _ => exact rfl
  | 8, _ => exact rfl
  | 9, _ => exact rfl
  | 10, _ => exact rfl
  | 11, _ => exact rfl
  | 12, _ => exact rfl
  | 13, _ => exact rfl
  | 14, _ => exact rfl
  | 15, _ => exact rfl
  | 16, _ => exact rfl
  | 17, _ => exact rfl
  | 18, _ => exact rfl
  | 19, _ => exact rfl
  | 20, _ => exact rfl
  | 21, _ => exact rfl
  | 22, _ => exact rfl
  | 23, _ => exact rfl
  | 24, _ => exact rfl
  | 25, _ => exact rfl
  | 26, _ => exact rfl
  | 27, _ => exact rfl
  | 28, _ => exact rfl
  | 29, _ => exact rfl
  | 30, _ => exact rfl
  | 31, _ => exact rfl
  | 32, _ => exact rfl
  | 33, _ => exact rfl
  | j + 34, h => exact absurd h (by show ¬ (j + 34 < 34); omega)
theorem yf_1 : ∀ j, j < zNN 1 → defaultValue (zty 1 j) = vp_V [] j := fun j hj => absurd hj (Nat.not_lt_zero j)
theorem yf_2 : ∀ j, j < zNN 2 → defaultValue (zty 2 j) = vp_V [] j := fun j hj => absurd hj (Nat.not_lt_zero j)
theorem yf_3 : ∀ j, j < zNN 3 → defaultValue (zty 3 j) = vp_V [] j := fun j hj => absurd hj (Nat.not_lt_zero j)
theorem yf_4 : ∀ j, j < zNN 4 → defaultValue (zty 4 j) = vp_V [] j := fun j hj => absurd hj (Nat.not_lt_zero j)
theorem yf_6 : ∀ j, j < zNN 6 → defaultValue (zty 6 j) = vp_V [] j := fun j hj => absurd hj (Nat.not_lt_zero j)
theorem yf_8 : ∀ j, j < zNN 8 → defaultValue (zty 8 j) = vp_V [] j := fun j hj => absurd hj (Nat.not_lt_zero j)
def h00 : zH := fun a => match a with
  | 0 => fun k => if k = 1 then 3 else if k = 2 then 7 else 0
  | 3 => fun k => if k = 5 then 8 else if k = 6 then 1 else 0
  | 7 => fun k => if k = 5 then 8 else if k = 6 then 1 else 0
  | 39 => fun k => if k = 2 then 8 else if k = 3 then 1 else 0
  | _ => fun _ => 0
def xw (r : Nat → Nat) (ca : Nat → ClassId) : va_W := (List.range 39).map (fun a => (r a, zcell r ca h00 a))
def mw (r : Nat → Nat) (ca : Nat → ClassId) : va_W := (List.range' 39 17).map (fun a => (r a, zcell r ca h00 a))
set_option maxHeartbeats 4000000 in
set_option maxRecDepth 100000 in
/-- RoseWheel() -/
theorem y_x_init (D : va_G) (ca : Nat → ClassId) (a : Nat) : yC M_x_init ynw D ca a (.inr (11, [.null, .null, .null, .null, .null, .null, .null, .null, .null, .null, .null, .null, .null, .null, .null, .null])) 38 2485 (fun w => ∃ r : Nat → Nat, r 0 = a ∧ w = xw r ca) := by
  refine yC.of (by decide) rfl rfl (by decide) ?_
  refine y_this (by decide +kernel) ?_
  refine y_obj (idx := 1) (by decide +kernel) (zt_t1 22 (by decide +kernel) rfl) (by decide) (by decide) ?_
  refine y_this (by decide +kernel) ?_
  refine y_new (idx := 7) 9 [.null, .int (Int32.ofInt 0), .int (Int32.ofInt 0), .int (Int32.ofInt 0), .int (Int32.ofInt 0), .int (Int32.ofInt 0), .int (Int32.ofInt 0), .int (Int32.ofInt 0)] (by decide +kernel) (by decide) yf_9 (zt_t1 25 (by decide +kernel) rfl) (zt_t1 26 (by decide +kernel) rfl) (zt_t1 2 (by decide +kernel) rfl) (by decide +kernel) (by decide +kernel) (fun q1 => ?_)
  refine y_dup (by decide +kernel) ?_
  refine y_callN (idx := 9) (N0 := M_t_init) (host := "RoseWheel") (nwN := []) (by decide +kernel) (y_t_init D ca q1) yG_t_init yI_t_init (by decide +kernel) rfl (List.mem_of_getElem? (i := 0) rfl) rfl rfl ⟨by decide, by decide⟩ (Nat.le_of_ble_eq_true rfl) (by decide +kernel) (by decide +kernel) ?_
  rintro w1 ⟨q2, rfl⟩
  simp only [List.cons_append, List.nil_append]
  refine y_putF (idx := 10) 0 (by decide +kernel) (by decide) (by decide +kernel) (zt_t1 216 (by decide +kernel) rfl) rfl rfl rfl rfl (Nat.le_of_ble_eq_true rfl) ?_
  simp only [List.set_cons_succ, List.set_cons_zero]
  refine y_this (by decide +kernel) ?_
  refine y_new (idx := 16) 10 [.null, .null, .null, .int (Int32.ofInt 0), .int (Int32.ofInt 0), .int (Int32.ofInt 0), .int (Int32.ofInt 0)] (by decide +kernel) (by decide) yf_10 (zt_t1 58 (by decide +kernel) rfl) (zt_t1 59 (by decide +kernel) rfl) (zt_t1 3 (by decide +kernel) rfl) (by decide +kernel) (by decide +kernel) (fun q3 => ?_)
  refine y_dup (by decide +kernel) ?_
  refine y_callN (idx := 18) (N0 := M_w_init) (host := "RoseWheel") (nwN := []) (by decide +kernel) (y_w_init D ca q3) yG_w_init yI_w_init (by decide +kernel) rfl (List.mem_of_getElem? (i := 1) rfl) rfl rfl ⟨by decide, by decide⟩ (Nat.le_of_ble_eq_true rfl) (by decide +kernel) (by decide +kernel) ?_
  rintro w1 ⟨q4, q5, q6, rfl⟩
  simp only [List.cons_append, List.nil_append]
  refine y_put (idx := 19) 1 (by decide +kernel) (by decide) (by decide +kernel) (zt_t1 217 (by decide +kernel) rfl) rfl rfl rfl (Nat.le_of_ble_eq_true rfl) ?_
  simp only [List.set_cons_succ, List.set_cons_zero]
  refine y_this (by decide +kernel) ?_
  refine y_new (idx := 16) 10 [.null, .null, .null, .int (Int32.ofInt 0), .int (Int32.ofInt 0), .int (Int32.ofInt 0), .int (Int32.ofInt 0)] (by decide +kernel) (by decide) yf_10 (zt_t1 58 (by decide +kernel) rfl) (zt_t1 59 (by decide +kernel) rfl) (zt_t1 3 (by decide +kernel) rfl) (by decide +kernel) (by decide +kernel) (fun q7 => ?_)
  refine y_dup (by decide +kernel) ?_
  refine y_callN (idx := 18) (N0 := M_w_init) (host := "RoseWheel") (nwN := []) (by decide +kernel) (y_w_init D ca q7) yG_w_init yI_w_init (by decide +kernel) rfl (List.mem_of_getElem? (i := 1) rfl) rfl rfl ⟨by decide, by decide⟩ (Nat.le_of_ble_eq_true rfl) (by decide +kernel) (by decide +kernel) ?_
  rintro w1 ⟨q8, q9, q10, rfl⟩
  simp only [List.cons_append, List.nil_append]
  refine y_put (idx := 23) 2 (by decide +kernel) (by decide) (by decide +kernel) (zt_t1 218 (by decide +kernel) rfl) rfl rfl rfl (Nat.le_of_ble_eq_true rfl) ?_
  simp only [List.set_cons_succ, List.set_cons_zero]
  refine y_this (by decide +kernel) ?_
  refine y_new (idx := 26) 5 [.null, .int (Int32.ofInt 0)] (by decide +kernel) (by decide) yf_5 (zt_t1 101 (by decide +kernel) rfl) (zt_t1 102 (by decide +kernel) rfl) (zt_t1 4 (by decide +kernel) rfl) (by decide +kernel) (by decide +kernel) (fun q11 => ?_)
  refine y_dup (by decide +kernel) ?_
  refine y_callN (idx := 28) (N0 := M_d_init) (host := "RoseWheel") (nwN := []) (by decide +kernel) (y_d_init D ca q11) yG_d_init yI_d_init (by decide +kernel) rfl (List.mem_of_getElem? (i := 2) rfl) rfl rfl ⟨by decide, by decide⟩ (Nat.le_of_ble_eq_true rfl) (by decide +kernel) (by decide +kernel) ?_
  rintro w1 ⟨q12, rfl⟩
  simp only [List.cons_append, List.nil_append]
  refine y_putF (idx := 29) 3 (by decide +kernel) (by decide) (by decide +kernel) (zt_t1 219 (by decide +kernel) rfl) rfl rfl rfl rfl (Nat.le_of_ble_eq_true rfl) ?_
  simp only [List.set_cons_succ, List.set_cons_zero]
  refine y_this (by decide +kernel) ?_
  refine y_iconst (n := 2) (Int32.ofInt 2) (by decide +kernel) (by decide) ?_
  refine y_newq (idx := 26) (C := "RoseWheel$Days") 2 2 rfl (by decide +kernel) (zt_t1 101 (by decide +kernel) rfl) (List.mem_of_getElem? (i := 21) rfl) (by decide) (by decide) (by decide) (by decide +kernel) (by decide +kernel) (fun q13 => ?_)
  simp only [List.cons_append, List.nil_append]
  refine y_dup (by decide +kernel) ?_
  refine y_iconst (n := 0) (Int32.ofInt 0) (by decide +kernel) (by decide) ?_
  refine y_new (idx := 26) 5 [.null, .int (Int32.ofInt 0)] (by decide +kernel) (by decide) yf_5 (zt_t1 101 (by decide +kernel) rfl) (zt_t1 102 (by decide +kernel) rfl) (zt_t1 4 (by decide +kernel) rfl) (by decide +kernel) (by decide +kernel) (fun q14 => ?_)
  refine y_dup (by decide +kernel) ?_
  refine y_callN (idx := 28) (N0 := M_d_init) (host := "RoseWheel") (nwN := []) (by decide +kernel) (y_d_init D ca q14) yG_d_init yI_d_init (by decide +kernel) rfl (List.mem_of_getElem? (i := 2) rfl) rfl rfl ⟨by decide, by decide⟩ (Nat.le_of_ble_eq_true rfl) (by decide +kernel) (by decide +kernel) ?_
  rintro w1 ⟨q15, rfl⟩
  simp only [List.cons_append, List.nil_append]
  refine y_astq 13 2 14 0 (by decide +kernel) (by decide) rfl rfl rfl (by unfold vp_in; decide) (by decide) ?_
  simp only [List.set_cons_succ, List.set_cons_zero]
  refine y_dup (by decide +kernel) ?_
  refine y_iconst (n := 1) (Int32.ofInt 1) (by decide +kernel) (by decide) ?_
  refine y_new (idx := 26) 5 [.null, .int (Int32.ofInt 0)] (by decide +kernel) (by decide) yf_5 (zt_t1 101 (by decide +kernel) rfl) (zt_t1 102 (by decide +kernel) rfl) (zt_t1 4 (by decide +kernel) rfl) (by decide +kernel) (by decide +kernel) (fun q16 => ?_)
  refine y_dup (by decide +kernel) ?_
  refine y_callN (idx := 28) (N0 := M_d_init) (host := "RoseWheel") (nwN := []) (by decide +kernel) (y_d_init D ca q16) yG_d_init yI_d_init (by decide +kernel) rfl (List.mem_of_getElem? (i := 2) rfl) rfl rfl ⟨by decide, by decide⟩ (Nat.le_of_ble_eq_true rfl) (by decide +kernel) (by decide +kernel) ?_
  rintro w1 ⟨q17, rfl⟩
  simp only [List.cons_append, List.nil_append]
  refine y_astq 13 2 16 1 (by decide +kernel) (by decide) rfl rfl rfl (by unfold vp_in; decide) (by decide) ?_
  simp only [List.set_cons_succ, List.set_cons_zero]
  refine y_putF (idx := 33) 4 (by decide +kernel) (by decide) (by decide +kernel) (zt_t1 220 (by decide +kernel) rfl) rfl rfl rfl rfl (Nat.le_of_ble_eq_true rfl) ?_
  simp only [List.set_cons_succ, List.set_cons_zero]
  refine y_this (by decide +kernel) ?_
  refine y_iconst (n := 2) (Int32.ofInt 2) (by decide +kernel) (by decide) ?_
  refine y_newb 2 (by decide +kernel) (by decide) (by decide) (by decide) (by decide +kernel) (by decide +kernel) (fun q18 => ?_)
  simp only [List.cons_append, List.nil_append]
  refine y_putF (idx := 37) 5 (by decide +kernel) (by decide) (by decide +kernel) (zt_t1 221 (by decide +kernel) rfl) rfl rfl rfl rfl (Nat.le_of_ble_eq_true rfl) ?_
  simp only [List.set_cons_succ, List.set_cons_zero]
  refine y_this (by decide +kernel) ?_
  refine y_new (idx := 41) 7 [.null, .null, .int (Int32.ofInt 0)] (by decide +kernel) (by decide) yf_7 (zt_t1 116 (by decide +kernel) rfl) (zt_t1 117 (by decide +kernel) rfl) (zt_t1 5 (by decide +kernel) rfl) (by decide +kernel) (by decide +kernel) (fun q19 => ?_)
  refine y_dup (by decide +kernel) ?_
  refine y_callN (idx := 43) (N0 := M_n_init) (host := "RoseWheel") (nwN := []) (by decide +kernel) (y_n_init D ca q19) yG_n_init yI_n_init (by decide +kernel) rfl (List.mem_of_getElem? (i := 3) rfl) rfl rfl ⟨by decide, by decide⟩ (Nat.le_of_ble_eq_true rfl) (by decide +kernel) (by decide +kernel) ?_
  rintro w1 ⟨q20, q21, rfl⟩
  simp only [List.cons_append, List.nil_append]
  refine y_putF (idx := 44) 6 (by decide +kernel) (by decide) (by decide +kernel) (zt_t1 222 (by decide +kernel) rfl) rfl rfl rfl rfl (Nat.le_of_ble_eq_true rfl) ?_
  simp only [List.set_cons_succ, List.set_cons_zero]
  refine y_this (by decide +kernel) ?_
  refine y_new (idx := 41) 7 [.null, .null, .int (Int32.ofInt 0)] (by decide +kernel) (by decide) yf_7 (zt_t1 116 (by decide +kernel) rfl) (zt_t1 117 (by decide +kernel) rfl) (zt_t1 5 (by decide +kernel) rfl) (by decide +kernel) (by decide +kernel) (fun q22 => ?_)
  refine y_dup (by decide +kernel) ?_
  refine y_callN (idx := 43) (N0 := M_n_init) (host := "RoseWheel") (nwN := []) (by decide +kernel) (y_n_init D ca q22) yG_n_init yI_n_init (by decide +kernel) rfl (List.mem_of_getElem? (i := 3) rfl) rfl rfl ⟨by decide, by decide⟩ (Nat.le_of_ble_eq_true rfl) (by decide +kernel) (by decide +kernel) ?_
  rintro w1 ⟨q23, q24, rfl⟩
  simp only [List.cons_append, List.nil_append]
  refine y_putF (idx := 48) 7 (by decide +kernel) (by decide) (by decide +kernel) (zt_t1 223 (by decide +kernel) rfl) rfl rfl rfl rfl (Nat.le_of_ble_eq_true rfl) ?_
  simp only [List.set_cons_succ, List.set_cons_zero]
  refine y_this (by decide +kernel) ?_
  refine y_new (idx := 51) 0 [.int (Int32.ofInt 0), .int (Int32.ofInt 0), .int (Int32.ofInt 0), .int (Int32.ofInt 0), .int (Int32.ofInt 0), .long (Int64.ofInt 0)] (by decide +kernel) (by decide) yf_0 (zt_t1 136 (by decide +kernel) rfl) (zt_t1 137 (by decide +kernel) rfl) (zt_t1 6 (by decide +kernel) rfl) (by decide +kernel) (by decide +kernel) (fun q25 => ?_)
  refine y_dup (by decide +kernel) ?_
  refine y_callN (idx := 53) (N0 := M_a_init) (host := "RoseWheel") (nwN := []) (by decide +kernel) (y_a_init D ca q25) yG_a_init yI_a_init (by decide +kernel) rfl (List.mem_of_getElem? (i := 4) rfl) rfl rfl ⟨by decide, by decide⟩ (Nat.le_of_ble_eq_true rfl) (by decide +kernel) (by decide +kernel) ?_
  rintro w1 rfl
  simp only [List.cons_append, List.nil_append]
  refine y_putF (idx := 54) 8 (by decide +kernel) (by decide) (by decide +kernel) (zt_t1 224 (by decide +kernel) rfl) rfl rfl rfl rfl (Nat.le_of_ble_eq_true rfl) ?_
  simp only [List.set_cons_succ, List.set_cons_zero]
  refine y_this (by decide +kernel) ?_
  refine y_bipush (n := 6) (Int32.ofInt 6) (by decide +kernel) (by decide) ?_
  refine y_newq (idx := 58) (C := "RoseWheel$One") 3 6 rfl (by decide +kernel) (zt_t1 173 (by decide +kernel) rfl) (List.mem_of_getElem? (i := 22) rfl) (by decide) (by decide) (by decide) (by decide +kernel) (by decide +kernel) (fun q26 => ?_)
  simp only [List.cons_append, List.nil_append]
  refine y_dup (by decide +kernel) ?_
  refine y_iconst (n := 0) (Int32.ofInt 0) (by decide +kernel) (by decide) ?_
  refine y_new (idx := 58) 8 [] (by decide +kernel) (by decide) yf_8 (zt_t1 173 (by decide +kernel) rfl) (zt_t1 175 (by decide +kernel) rfl) (zt_t1 7 (by decide +kernel) rfl) (by decide +kernel) (by decide +kernel) (fun q27 => ?_)
  refine y_dup (by decide +kernel) ?_
  refine y_callN (idx := 60) (N0 := M_kO_init) (host := "RoseWheel") (nwN := []) (by decide +kernel) (y_kO_init D ca q27 _) yG_kO_init yI_kO_init (by decide +kernel) rfl (List.mem_of_getElem? (i := 5) rfl) rfl rfl ⟨by decide, by decide⟩ (Nat.le_of_ble_eq_true rfl) (by decide +kernel) (by decide +kernel) ?_
  rintro w1 rfl
  simp only [List.cons_append, List.nil_append]
  refine y_astq 26 3 27 0 (by decide +kernel) (by decide) rfl rfl rfl (by unfold vp_in; decide) (by decide) ?_
  simp only [List.set_cons_succ, List.set_cons_zero]
  refine y_dup (by decide +kernel) ?_
  refine y_iconst (n := 1) (Int32.ofInt 1) (by decide +kernel) (by decide) ?_
  refine y_new (idx := 61) 2 [] (by decide +kernel) (by decide) yf_2 (zt_t1 181 (by decide +kernel) rfl) (zt_t1 182 (by decide +kernel) rfl) (zt_t1 8 (by decide +kernel) rfl) (by decide +kernel) (by decide +kernel) (fun q28 => ?_)
  refine y_dup (by decide +kernel) ?_
  refine y_callN (idx := 63) (N0 := M_kB_init) (host := "RoseWheel") (nwN := [.methodLinkNest "RoseWheel$Blind" 1 M_kO_init.1 "RoseWheel"]) (by decide +kernel) (y_kB_init D ca q28 _) yG_kB_init yI_kB_init (by decide +kernel) rfl (List.mem_of_getElem? (i := 6) rfl) rfl rfl ⟨by decide, by decide⟩ (Nat.le_of_ble_eq_true rfl) (by decide +kernel) (by decide +kernel) ?_
  rintro w1 rfl
  simp only [List.cons_append, List.nil_append]
  refine y_astqO (C := "RoseWheel$One") 26 3 28 1 (by decide +kernel) (by decide) rfl rfl (List.mem_of_getElem? (i := 16) rfl) rfl (by unfold vp_in; decide) (by decide) ?_
  simp only [List.set_cons_succ, List.set_cons_zero]
  refine y_dup (by decide +kernel) ?_
  refine y_iconst (n := 2) (Int32.ofInt 2) (by decide +kernel) (by decide) ?_
  refine y_new (idx := 64) 1 [] (by decide +kernel) (by decide) yf_1 (zt_t1 188 (by decide +kernel) rfl) (zt_t1 189 (by decide +kernel) rfl) (zt_t1 9 (by decide +kernel) rfl) (by decide +kernel) (by decide +kernel) (fun q29 => ?_)
  refine y_dup (by decide +kernel) ?_
  refine y_callN (idx := 66) (N0 := M_kE_init) (host := "RoseWheel") (nwN := [.methodLinkNest "RoseWheel$Beadle" 1 M_kO_init.1 "RoseWheel"]) (by decide +kernel) (y_kE_init D ca q29 _) yG_kE_init yI_kE_init (by decide +kernel) rfl (List.mem_of_getElem? (i := 8) rfl) rfl rfl ⟨by decide, by decide⟩ (Nat.le_of_ble_eq_true rfl) (by decide +kernel) (by decide +kernel) ?_
  rintro w1 rfl
  simp only [List.cons_append, List.nil_append]
  refine y_astqO (C := "RoseWheel$One") 26 3 29 2 (by decide +kernel) (by decide) rfl rfl (List.mem_of_getElem? (i := 17) rfl) rfl (by unfold vp_in; decide) (by decide) ?_
  simp only [List.set_cons_succ, List.set_cons_zero]
  refine y_dup (by decide +kernel) ?_
  refine y_iconst (n := 3) (Int32.ofInt 3) (by decide +kernel) (by decide) ?_
  refine y_new (idx := 67) 3 [] (by decide +kernel) (by decide) yf_3 (zt_t1 195 (by decide +kernel) rfl) (zt_t1 196 (by decide +kernel) rfl) (zt_t1 10 (by decide +kernel) rfl) (by decide +kernel) (by decide +kernel) (fun q30 => ?_)
  refine y_dup (by decide +kernel) ?_
  refine y_callN (idx := 69) (N0 := M_kC_init) (host := "RoseWheel") (nwN := [.methodLinkNest "RoseWheel$Cripple" 1 M_kB_init.1 "RoseWheel", .methodLinkNest "RoseWheel$Blind" 1 M_kO_init.1 "RoseWheel"]) (by decide +kernel) (y_kC_init D ca q30 _) yG_kC_init yI_kC_init (by decide +kernel) rfl (List.mem_of_getElem? (i := 10) rfl) rfl rfl ⟨by decide, by decide⟩ (Nat.le_of_ble_eq_true rfl) (by decide +kernel) (by decide +kernel) ?_
  rintro w1 rfl
  simp only [List.cons_append, List.nil_append]
  refine y_astqO (C := "RoseWheel$One") 26 3 30 3 (by decide +kernel) (by decide) rfl rfl (List.mem_of_getElem? (i := 18) rfl) rfl (by unfold vp_in; decide) (by decide) ?_
  simp only [List.set_cons_succ, List.set_cons_zero]
  refine y_dup (by decide +kernel) ?_
  refine y_iconst (n := 4) (Int32.ofInt 4) (by decide +kernel) (by decide) ?_
  refine y_new (idx := 70) 4 [] (by decide +kernel) (by decide) yf_4 (zt_t1 202 (by decide +kernel) rfl) (zt_t1 203 (by decide +kernel) rfl) (zt_t1 11 (by decide +kernel) rfl) (by decide +kernel) (by decide +kernel) (fun q31 => ?_)
  refine y_dup (by decide +kernel) ?_
  refine y_callN (idx := 72) (N0 := M_kD_init) (host := "RoseWheel") (nwN := [.methodLinkNest "RoseWheel$Daughter" 1 M_kE_init.1 "RoseWheel", .methodLinkNest "RoseWheel$Beadle" 1 M_kO_init.1 "RoseWheel"]) (by decide +kernel) (y_kD_init D ca q31 _) yG_kD_init yI_kD_init (by decide +kernel) rfl (List.mem_of_getElem? (i := 12) rfl) rfl rfl ⟨by decide, by decide⟩ (Nat.le_of_ble_eq_true rfl) (by decide +kernel) (by decide +kernel) ?_
  rintro w1 rfl
  simp only [List.cons_append, List.nil_append]
  refine y_astqO (C := "RoseWheel$One") 26 3 31 4 (by decide +kernel) (by decide) rfl rfl (List.mem_of_getElem? (i := 19) rfl) rfl (by unfold vp_in; decide) (by decide) ?_
  simp only [List.set_cons_succ, List.set_cons_zero]
  refine y_dup (by decide +kernel) ?_
  refine y_iconst (n := 5) (Int32.ofInt 5) (by decide +kernel) (by decide) ?_
  refine y_new (idx := 73) 6 [] (by decide +kernel) (by decide) yf_6 (zt_t1 209 (by decide +kernel) rfl) (zt_t1 210 (by decide +kernel) rfl) (zt_t1 12 (by decide +kernel) rfl) (by decide +kernel) (by decide +kernel) (fun q32 => ?_)
  refine y_dup (by decide +kernel) ?_
  refine y_callN (idx := 75) (N0 := M_kG_init) (host := "RoseWheel") (nwN := [.methodLinkNest "RoseWheel$Dog" 1 M_kO_init.1 "RoseWheel"]) (by decide +kernel) (y_kG_init D ca q32 _) yG_kG_init yI_kG_init (by decide +kernel) rfl (List.mem_of_getElem? (i := 14) rfl) rfl rfl ⟨by decide, by decide⟩ (Nat.le_of_ble_eq_true rfl) (by decide +kernel) (by decide +kernel) ?_
  rintro w1 rfl
  simp only [List.cons_append, List.nil_append]
  refine y_astqO (C := "RoseWheel$One") 26 3 32 5 (by decide +kernel) (by decide) rfl rfl (List.mem_of_getElem? (i := 20) rfl) rfl (by unfold vp_in; decide) (by decide) ?_
  simp only [List.set_cons_succ, List.set_cons_zero]
  refine y_putF (idx := 76) 9 (by decide +kernel) (by decide) (by decide +kernel) (zt_t1 225 (by decide +kernel) rfl) rfl rfl rfl rfl (Nat.le_of_ble_eq_true rfl) ?_
  simp only [List.set_cons_succ, List.set_cons_zero]
  refine y_this (by decide +kernel) ?_
  refine y_bipush (n := 90) (Int32.ofInt 90) (by decide +kernel) (by decide) ?_
  refine y_newi 90 (by decide +kernel) (by decide) (by decide) (by decide) (by decide +kernel) (by decide +kernel) (fun q33 => ?_)
  simp only [List.cons_append, List.nil_append]
  refine y_putF (idx := 80) 10 (by decide +kernel) (by decide) (by decide +kernel) (zt_t1 226 (by decide +kernel) rfl) rfl rfl rfl rfl (Nat.le_of_ble_eq_true rfl) ?_
  simp only [List.set_cons_succ, List.set_cons_zero]
  refine y_this (by decide +kernel) ?_
  refine y_sipush (n := 383) (Int32.ofInt 383) (by decide +kernel) (by decide) ?_
  refine y_newi 383 (by decide +kernel) (by decide) (by decide) (by decide) (by decide +kernel) (by decide +kernel) (fun q34 => ?_)
  simp only [List.cons_append, List.nil_append]
  refine y_putF (idx := 84) 11 (by decide +kernel) (by decide) (by decide +kernel) (zt_t1 227 (by decide +kernel) rfl) rfl rfl rfl rfl (Nat.le_of_ble_eq_true rfl) ?_
  simp only [List.set_cons_succ, List.set_cons_zero]
  refine y_this (by decide +kernel) ?_
  refine y_bipush (n := 6) (Int32.ofInt 6) (by decide +kernel) (by decide) ?_
  refine y_newi 6 (by decide +kernel) (by decide) (by decide) (by decide) (by decide +kernel) (by decide +kernel) (fun q35 => ?_)
  simp only [List.cons_append, List.nil_append]
  refine y_putF (idx := 87) 12 (by decide +kernel) (by decide) (by decide +kernel) (zt_t1 228 (by decide +kernel) rfl) rfl rfl rfl rfl (Nat.le_of_ble_eq_true rfl) ?_
  simp only [List.set_cons_succ, List.set_cons_zero]
  refine y_this (by decide +kernel) ?_
  refine y_bipush (n := 6) (Int32.ofInt 6) (by decide +kernel) (by decide) ?_
  refine y_newi 6 (by decide +kernel) (by decide) (by decide) (by decide) (by decide +kernel) (by decide +kernel) (fun q36 => ?_)
  simp only [List.cons_append, List.nil_append]
  refine y_putF (idx := 90) 13 (by decide +kernel) (by decide) (by decide +kernel) (zt_t1 229 (by decide +kernel) rfl) rfl rfl rfl rfl (Nat.le_of_ble_eq_true rfl) ?_
  simp only [List.set_cons_succ, List.set_cons_zero]
  refine y_this (by decide +kernel) ?_
  refine y_bipush (n := 6) (Int32.ofInt 6) (by decide +kernel) (by decide) ?_
  refine y_newi 6 (by decide +kernel) (by decide) (by decide) (by decide) (by decide +kernel) (by decide +kernel) (fun q37 => ?_)
  simp only [List.cons_append, List.nil_append]
  refine y_putF (idx := 93) 14 (by decide +kernel) (by decide) (by decide +kernel) (zt_t1 230 (by decide +kernel) rfl) rfl rfl rfl rfl (Nat.le_of_ble_eq_true rfl) ?_
  simp only [List.set_cons_succ, List.set_cons_zero]
  refine y_this (by decide +kernel) ?_
  refine y_bipush (n := 6) (Int32.ofInt 6) (by decide +kernel) (by decide) ?_
  refine y_newi 6 (by decide +kernel) (by decide) (by decide) (by decide) (by decide +kernel) (by decide +kernel) (fun q38 => ?_)
  simp only [List.cons_append, List.nil_append]
  refine y_putF (idx := 96) 15 (by decide +kernel) (by decide) (by decide +kernel) (zt_t1 231 (by decide +kernel) rfl) rfl rfl rfl rfl (Nat.le_of_ble_eq_true rfl) ?_
  simp only [List.set_cons_succ, List.set_cons_zero]
  refine y_refs 13 (fun j => some ((fun i => ([a, q1, q2, q3, q4, q5, q6, q7, q8, q9, q10, q11, q12, q13, q14, q15, q16, q17, q18, q19, q20, q21, q22, q23, q24, q25, q26, q27, q28, q29, q30, q31, q32, q33, q34, q35, q36, q37, q38] : List Nat).getD i 0) (zsr 13 j))) rfl (fun j hj => by rcases (show j = 0 ∨ j = 1 by omega) with rfl | rfl <;> rfl) ?_
  simp only [List.set_cons_succ, List.set_cons_zero]
  refine y_refs 26 (fun j => some ((fun i => ([a, q1, q2, q3, q4, q5, q6, q7, q8, q9, q10, q11, q12, q13, q14, q15, q16, q17, q18, q19, q20, q21, q22, q23, q24, q25, q26, q27, q28, q29, q30, q31, q32, q33, q34, q35, q36, q37, q38] : List Nat).getD i 0) (zsr 26 j))) rfl (fun j hj => by rcases (show j = 0 ∨ j = 1 ∨ j = 2 ∨ j = 3 ∨ j = 4 ∨ j = 5 by omega) with rfl | rfl | rfl | rfl | rfl | rfl <;> rfl) ?_
  simp only [List.set_cons_succ, List.set_cons_zero]
  exact y_ret (by decide +kernel) (by decide +kernel) (by decide +kernel) ⟨(fun i => ([a, q1, q2, q3, q4, q5, q6, q7, q8, q9, q10, q11, q12, q13, q14, q15, q16, q17, q18, q19, q20, q21, q22, q23, q24, q25, q26, q27, q28, q29, q30, q31, q32, q33, q34, q35, q36, q37, q38] : List Nat).getD i 0), rfl, rfl⟩
