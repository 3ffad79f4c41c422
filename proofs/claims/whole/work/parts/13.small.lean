/-! small methods of both sides -/
theorem c_x_isWithin {h : zH} {n lo hi : Int} (r_n : -2147483648 ≤ n ∧ n ≤ 2147483647) (r_lo : -2147483648 ≤ lo ∧ lo ≤ 2147483647) (r_hi : -2147483648 ≤ hi ∧ hi ≤ 2147483647) : zC M_x_isWithin [vI n, vI lo, vI hi] h (pV (vI (zb (lo ≤ n ∧ n ≤ hi))) h) := by
  refine zC.ofN 0 (by decide) (by first | decide | exact Nat.le_of_ble_eq_true rfl) ?_
  show Z M_x_isWithin _ 0 [vI n, vI lo, vI hi] [] h
  refine z_iload_n D_x_isWithin_0 rfl ?_
  refine z_iload_n D_x_isWithin_1 rfl ?_
  refine z_icmp_lt (tgt := 14) D_x_isWithin_2 (by decide) (by omega) (by omega) (fun q2 => ?_) (fun q2 => ?_)
  · refine z_iconst D_x_isWithin_14 ?_
    exact z_zreturn rfl (by first | exact Or.inl rfl | exact Or.inr rfl | exact zb_01 _) D_x_isWithin_15 (pvI (by first | exact (zb_t (by omega)).symm | exact (zb_f (by omega)).symm) rfl)
  · refine z_iload_n D_x_isWithin_5 rfl ?_
    refine z_iload_n D_x_isWithin_6 rfl ?_
    refine z_icmp_gt (tgt := 14) D_x_isWithin_7 (by decide) (by omega) (by omega) (fun q7 => ?_) (fun q7 => ?_)
    · refine z_iconst D_x_isWithin_14 ?_
      exact z_zreturn rfl (by first | exact Or.inl rfl | exact Or.inr rfl | exact zb_01 _) D_x_isWithin_15 (pvI (by first | exact (zb_t (by omega)).symm | exact (zb_f (by omega)).symm) rfl)
    · refine z_iconst D_x_isWithin_10 ?_
      refine z_goto (tgt := 15) D_x_isWithin_11 (by decide) ?_
      exact z_zreturn rfl (by first | exact Or.inl rfl | exact Or.inr rfl | exact zb_01 _) D_x_isWithin_15 (pvI (by first | exact (zb_t (by omega)).symm | exact (zb_f (by omega)).symm) rfl)

theorem c_m_in {h : zH} {n lo hi : Int} (r_n : -2147483648 ≤ n ∧ n ≤ 2147483647) (r_lo : -2147483648 ≤ lo ∧ lo ≤ 2147483647) (r_hi : -2147483648 ≤ hi ∧ hi ≤ 2147483647) : zC M_m_in [vI n, vI lo, vI hi] h (pV (vI (zb (lo ≤ n ∧ n ≤ hi))) h) := by
  refine zC.ofN 0 (by decide) (by first | decide | exact Nat.le_of_ble_eq_true rfl) ?_
  show Z M_m_in _ 0 [vI n, vI lo, vI hi] [] h
  refine z_iload_n D_m_in_0 rfl ?_
  refine z_iload_n D_m_in_1 rfl ?_
  refine z_icmp_lt (tgt := 14) D_m_in_2 (by decide) (by omega) (by omega) (fun q2 => ?_) (fun q2 => ?_)
  · refine z_iconst D_m_in_14 ?_
    exact z_zreturn rfl (by first | exact Or.inl rfl | exact Or.inr rfl | exact zb_01 _) D_m_in_15 (pvI (by first | exact (zb_t (by omega)).symm | exact (zb_f (by omega)).symm) rfl)
  · refine z_iload_n D_m_in_5 rfl ?_
    refine z_iload_n D_m_in_6 rfl ?_
    refine z_icmp_gt (tgt := 14) D_m_in_7 (by decide) (by omega) (by omega) (fun q7 => ?_) (fun q7 => ?_)
    · refine z_iconst D_m_in_14 ?_
      exact z_zreturn rfl (by first | exact Or.inl rfl | exact Or.inr rfl | exact zb_01 _) D_m_in_15 (pvI (by first | exact (zb_t (by omega)).symm | exact (zb_f (by omega)).symm) rfl)
    · refine z_iconst D_m_in_10 ?_
      refine z_goto (tgt := 15) D_m_in_11 (by decide) ?_
      exact z_zreturn rfl (by first | exact Or.inl rfl | exact Or.inr rfl | exact zb_01 _) D_m_in_15 (pvI (by first | exact (zb_t (by omega)).symm | exact (zb_f (by omega)).symm) rfl)

theorem c_x_isSpeed {h : zH} {n : Int} (r_n : -2147483648 ≤ n ∧ n ≤ 2147483647) : zC M_x_isSpeed [vI n] h (pV (vI (zb (1 ≤ n ∧ n ≤ 60))) h) := by
  refine zC.ofN 0 (by decide) (by first | decide | exact Nat.le_of_ble_eq_true rfl) ?_
  show Z M_x_isSpeed _ 0 [vI n] [] h
  refine z_iload_n D_x_isSpeed_0 rfl ?_
  refine z_iconst D_x_isSpeed_1 ?_
  refine z_bipush (by decide) D_x_isSpeed_2 ?_
  refine z_S3 (c_x_isWithin r_n (by omega) (by omega)) G_x_isWithin S_x_isWithin lk_x_99 ⟨Nat.le_of_ble_eq_true rfl, Nat.le_of_ble_eq_true rfl⟩ (Nat.le_of_ble_eq_true rfl) D_x_isSpeed_4 ?_
  exact z_zreturn rfl (by first | exact Or.inl rfl | exact Or.inr rfl | exact zb_01 _) D_x_isSpeed_7 (pvI rfl rfl)

theorem c_x_isColour {h : zH} {n : Int} (r_n : -2147483648 ≤ n ∧ n ≤ 2147483647) : zC M_x_isColour [vI n] h (pV (vI (zb (0 ≤ n ∧ n ≤ 5))) h) := by
  refine zC.ofN 0 (by decide) (by first | decide | exact Nat.le_of_ble_eq_true rfl) ?_
  show Z M_x_isColour _ 0 [vI n] [] h
  refine z_iload_n D_x_isColour_0 rfl ?_
  refine z_iconst D_x_isColour_1 ?_
  refine z_iconst D_x_isColour_2 ?_
  refine z_S3 (c_x_isWithin r_n (by omega) (by omega)) G_x_isWithin S_x_isWithin lk_x_99 ⟨Nat.le_of_ble_eq_true rfl, Nat.le_of_ble_eq_true rfl⟩ (Nat.le_of_ble_eq_true rfl) D_x_isColour_3 ?_
  exact z_zreturn rfl (by first | exact Or.inl rfl | exact Or.inr rfl | exact zb_01 _) D_x_isColour_6 (pvI rfl rfl)

theorem c_m_isColour {h : zH} {n : Int} (r_n : -2147483648 ≤ n ∧ n ≤ 2147483647) : zC M_m_isColour [vI n] h (pV (vI (zb (0 ≤ n ∧ n ≤ 5))) h) := by
  refine zC.ofN 0 (by decide) (by first | decide | exact Nat.le_of_ble_eq_true rfl) ?_
  show Z M_m_isColour _ 0 [vI n] [] h
  refine z_iload_n D_m_isColour_0 rfl ?_
  refine z_iconst D_m_isColour_1 ?_
  refine z_iconst D_m_isColour_2 ?_
  refine z_S3 (c_m_in r_n (by omega) (by omega)) G_m_in S_m_in lk_m_69 ⟨Nat.le_of_ble_eq_true rfl, Nat.le_of_ble_eq_true rfl⟩ (Nat.le_of_ble_eq_true rfl) D_m_isColour_3 ?_
  exact z_zreturn rfl (by first | exact Or.inl rfl | exact Or.inr rfl | exact zb_01 _) D_m_isColour_6 (pvI rfl rfl)

theorem c_m_isSpeed {h : zH} {n : Int} (r_n : -2147483648 ≤ n ∧ n ≤ 2147483647) : zC M_m_isSpeed [vI n] h (pV (vI (zb (1 ≤ n ∧ n ≤ 60))) h) := by
  refine zC.ofN 0 (by decide) (by first | decide | exact Nat.le_of_ble_eq_true rfl) ?_
  show Z M_m_isSpeed _ 0 [vI n] [] h
  refine z_iload_n D_m_isSpeed_0 rfl ?_
  refine z_iconst D_m_isSpeed_1 ?_
  refine z_bipush (by decide) D_m_isSpeed_2 ?_
  refine z_S3 (c_m_in r_n (by omega) (by omega)) G_m_in S_m_in lk_m_69 ⟨Nat.le_of_ble_eq_true rfl, Nat.le_of_ble_eq_true rfl⟩ (Nat.le_of_ble_eq_true rfl) D_m_isSpeed_4 ?_
  exact z_zreturn rfl (by first | exact Or.inl rfl | exact Or.inr rfl | exact zb_01 _) D_m_isSpeed_7 (pvI rfl rfl)

theorem c_m_isFigure {h : zH} {n : Int} (r_n : -2147483648 ≤ n ∧ n ≤ 2147483647) : zC M_m_isFigure [vI n] h (pV (vI (zb (48 ≤ n ∧ n ≤ 57))) h) := by
  refine zC.ofN 0 (by decide) (by first | decide | exact Nat.le_of_ble_eq_true rfl) ?_
  show Z M_m_isFigure _ 0 [vI n] [] h
  refine z_iload_n D_m_isFigure_0 rfl ?_
  refine z_bipush (by decide) D_m_isFigure_1 ?_
  refine z_bipush (by decide) D_m_isFigure_3 ?_
  refine z_S3 (c_m_in r_n (by omega) (by omega)) G_m_in S_m_in lk_m_69 ⟨Nat.le_of_ble_eq_true rfl, Nat.le_of_ble_eq_true rfl⟩ (Nat.le_of_ble_eq_true rfl) D_m_isFigure_5 ?_
  exact z_zreturn rfl (by first | exact Or.inl rfl | exact Or.inr rfl | exact zb_01 _) D_m_isFigure_8 (pvI rfl rfl)

theorem c_m_isLetter {h : zH} {n : Int} (r_n : -2147483648 ≤ n ∧ n ≤ 2147483647) : zC M_m_isLetter [vI n] h (pV (vI (zb (97 ≤ n ∧ n ≤ 122))) h) := by
  refine zC.ofN 0 (by decide) (by first | decide | exact Nat.le_of_ble_eq_true rfl) ?_
  show Z M_m_isLetter _ 0 [vI n] [] h
  refine z_iload_n D_m_isLetter_0 rfl ?_
  refine z_bipush (by decide) D_m_isLetter_1 ?_
  refine z_bipush (by decide) D_m_isLetter_3 ?_
  refine z_S3 (c_m_in r_n (by omega) (by omega)) G_m_in S_m_in lk_m_69 ⟨Nat.le_of_ble_eq_true rfl, Nat.le_of_ble_eq_true rfl⟩ (Nat.le_of_ble_eq_true rfl) D_m_isLetter_5 ?_
  exact z_zreturn rfl (by first | exact Or.inl rfl | exact Or.inr rfl | exact zb_01 _) D_m_isLetter_8 (pvI rfl rfl)

theorem c_t_isLetter {h : zH} {n : Int} (r_n : -2147483648 ≤ n ∧ n ≤ 2147483647) : zC M_t_isLetter [vI n] h (pV (vI (zb (97 ≤ n ∧ n ≤ 122))) h) := by
  refine zC.ofN 0 (by decide) (by first | decide | exact Nat.le_of_ble_eq_true rfl) ?_
  show Z M_t_isLetter _ 0 [vI n] [] h
  refine z_iload_n D_t_isLetter_0 rfl ?_
  refine z_bipush (by decide) D_t_isLetter_1 ?_
  refine z_icmp_lt (tgt := 16) D_t_isLetter_3 (by decide) (by omega) (by omega) (fun q3 => ?_) (fun q3 => ?_)
  · refine z_iconst D_t_isLetter_16 ?_
    exact z_zreturn rfl (by first | exact Or.inl rfl | exact Or.inr rfl | exact zb_01 _) D_t_isLetter_17 (pvI (by first | exact (zb_t (by omega)).symm | exact (zb_f (by omega)).symm) rfl)
  · refine z_iload_n D_t_isLetter_6 rfl ?_
    refine z_bipush (by decide) D_t_isLetter_7 ?_
    refine z_icmp_gt (tgt := 16) D_t_isLetter_9 (by decide) (by omega) (by omega) (fun q9 => ?_) (fun q9 => ?_)
    · refine z_iconst D_t_isLetter_16 ?_
      exact z_zreturn rfl (by first | exact Or.inl rfl | exact Or.inr rfl | exact zb_01 _) D_t_isLetter_17 (pvI (by first | exact (zb_t (by omega)).symm | exact (zb_f (by omega)).symm) rfl)
    · refine z_iconst D_t_isLetter_12 ?_
      refine z_goto (tgt := 17) D_t_isLetter_13 (by decide) ?_
      exact z_zreturn rfl (by first | exact Or.inl rfl | exact Or.inr rfl | exact zb_01 _) D_t_isLetter_17 (pvI (by first | exact (zb_t (by omega)).symm | exact (zb_f (by omega)).symm) rfl)

theorem c_t_isDigit {h : zH} {n : Int} (r_n : -2147483648 ≤ n ∧ n ≤ 2147483647) : zC M_t_isDigit [vI n] h (pV (vI (zb (48 ≤ n ∧ n ≤ 57))) h) := by
  refine zC.ofN 0 (by decide) (by first | decide | exact Nat.le_of_ble_eq_true rfl) ?_
  show Z M_t_isDigit _ 0 [vI n] [] h
  refine z_iload_n D_t_isDigit_0 rfl ?_
  refine z_bipush (by decide) D_t_isDigit_1 ?_
  refine z_icmp_lt (tgt := 16) D_t_isDigit_3 (by decide) (by omega) (by omega) (fun q3 => ?_) (fun q3 => ?_)
  · refine z_iconst D_t_isDigit_16 ?_
    exact z_zreturn rfl (by first | exact Or.inl rfl | exact Or.inr rfl | exact zb_01 _) D_t_isDigit_17 (pvI (by first | exact (zb_t (by omega)).symm | exact (zb_f (by omega)).symm) rfl)
  · refine z_iload_n D_t_isDigit_6 rfl ?_
    refine z_bipush (by decide) D_t_isDigit_7 ?_
    refine z_icmp_gt (tgt := 16) D_t_isDigit_9 (by decide) (by omega) (by omega) (fun q9 => ?_) (fun q9 => ?_)
    · refine z_iconst D_t_isDigit_16 ?_
      exact z_zreturn rfl (by first | exact Or.inl rfl | exact Or.inr rfl | exact zb_01 _) D_t_isDigit_17 (pvI (by first | exact (zb_t (by omega)).symm | exact (zb_f (by omega)).symm) rfl)
    · refine z_iconst D_t_isDigit_12 ?_
      refine z_goto (tgt := 17) D_t_isDigit_13 (by decide) ?_
      exact z_zreturn rfl (by first | exact Or.inl rfl | exact Or.inr rfl | exact zb_01 _) D_t_isDigit_17 (pvI (by first | exact (zb_t (by omega)).symm | exact (zb_f (by omega)).symm) rfl)

theorem c_j_min {h : zH} {x y : Int} (r_x : -2147483648 ≤ x ∧ x ≤ 2147483647) (r_y : -2147483648 ≤ y ∧ y ≤ 2147483647) : zC M_j_min [vI x, vI y] h (pV (vI (min x y)) h) := by
  refine zC.ofF 0 (by decide +kernel) (by first | decide | exact Nat.le_of_ble_eq_true rfl) ?_
  show Z M_j_min _ 0 [vI x, vI y] [] h
  refine z_iload_n D_j_min_0 rfl ?_
  refine z_iload_n D_j_min_1 rfl ?_
  refine z_icmp_gt (tgt := 9) D_j_min_2 (by decide) (by omega) (by omega) (fun q2 => ?_) (fun q2 => ?_)
  · refine z_iload_n D_j_min_9 rfl ?_
    exact z_ireturn rfl D_j_min_10 (pvI (by omega) rfl)
  · refine z_iload_n D_j_min_5 rfl ?_
    refine z_goto (tgt := 10) D_j_min_6 (by decide) ?_
    exact z_ireturn rfl D_j_min_10 (pvI (by omega) rfl)

theorem c_j_max {h : zH} {x y : Int} (r_x : -2147483648 ≤ x ∧ x ≤ 2147483647) (r_y : -2147483648 ≤ y ∧ y ≤ 2147483647) : zC M_j_max [vI x, vI y] h (pV (vI (max x y)) h) := by
  refine zC.ofF 0 (by decide +kernel) (by first | decide | exact Nat.le_of_ble_eq_true rfl) ?_
  show Z M_j_max _ 0 [vI x, vI y] [] h
  refine z_iload_n D_j_max_0 rfl ?_
  refine z_iload_n D_j_max_1 rfl ?_
  refine z_icmp_lt (tgt := 9) D_j_max_2 (by decide) (by omega) (by omega) (fun q2 => ?_) (fun q2 => ?_)
  · refine z_iload_n D_j_max_9 rfl ?_
    exact z_ireturn rfl D_j_max_10 (pvI (by omega) rfl)
  · refine z_iload_n D_j_max_5 rfl ?_
    refine z_goto (tgt := 10) D_j_max_6 (by decide) ?_
    exact z_ireturn rfl D_j_max_10 (pvI (by omega) rfl)

theorem c_j_floorMod {h : zH} {x y : Int} (r_x : -2147483648 ≤ x ∧ x ≤ 2147483647) (hy : 0 < y ∧ y ≤ 2147483647) : zC M_j_floorMod [vI x, vI y] h (pV (vI (x % y)) h) := by
  refine zC.ofF 1 (by decide +kernel) (Nat.le_of_ble_eq_true rfl) ?_
  show Z M_j_floorMod _ 0 [vI x, vI y, vU] [] h
  have rm : -2147483648 ≤ x.tmod y ∧ x.tmod y ≤ 2147483647 := by
    have h1 := Int.tmod_lt_of_pos x hy.1
    have h2 := Int.lt_tmod_of_pos x hy.1
    omega
  refine z_iload_n D_j_floorMod_0 rfl ?_
  refine z_iload_n D_j_floorMod_1 rfl ?_
  refine z_irem D_j_floorMod_2 r_x (by omega) (by omega) ?_
  refine z_istore_2 D_j_floorMod_3 (Nat.le_of_ble_eq_true rfl) rfl ?_
  refine z_iload_n D_j_floorMod_4 rfl ?_
  refine z_iload_n D_j_floorMod_5 rfl ?_
  refine z_ixor D_j_floorMod_6 r_x (by omega) (fun z hz hs => ?_)
  refine z_if_ge (tgt := 18) D_j_floorMod_7 (by decide) (by omega) (fun q7 => ?_) (fun q7 => ?_)
  · refine z_iload_n D_j_floorMod_18 rfl ?_
    exact z_ireturn rfl D_j_floorMod_19 (pvI (by first | exact fm_zero q11 | exact Int.tmod_eq_emod_of_nonneg (by omega)) rfl)
  · refine z_iload_n D_j_floorMod_10 rfl ?_
    refine z_if_eq (tgt := 18) D_j_floorMod_11 (by decide) (by omega) (fun q11 => ?_) (fun q11 => ?_)
    · refine z_iload_n D_j_floorMod_18 rfl ?_
      exact z_ireturn rfl D_j_floorMod_19 (pvI (by first | exact fm_zero q11 | exact Int.tmod_eq_emod_of_nonneg (by omega)) rfl)
    · refine z_iload_n D_j_floorMod_14 rfl ?_
      refine z_iload_n D_j_floorMod_15 rfl ?_
      refine z_iadd D_j_floorMod_16 ?_
      exact z_ireturn rfl D_j_floorMod_17 (pvI (fm_neg (by omega) hy.1 q11) rfl)
theorem c_d_debt {h : zH} {p q : Int}  : zC M_d_debt [vI p, vI q] h (pV (vI (16 + p * 6 + q)) h) := by
  refine zC.ofN 0 (by decide) (by first | decide | exact Nat.le_of_ble_eq_true rfl) ?_
  show Z M_d_debt _ 0 [vI p, vI q] [] h
  refine z_bipush (by decide) D_d_debt_0 ?_
  refine z_iload_n D_d_debt_2 rfl ?_
  refine z_bipush (by decide) D_d_debt_3 ?_
  refine z_imul D_d_debt_5 ?_
  refine z_iadd D_d_debt_6 ?_
  refine z_iload_n D_d_debt_7 rfl ?_
  refine z_iadd D_d_debt_8 ?_
  exact z_ireturn rfl D_d_debt_9 (pvI rfl rfl)

/-- a cell of NOW -/
def nw (h : zH) (c : Int) : Int := h 12 (h 11 1 * 52 + c).toNat
theorem c_d_value {h : zH} {c : Int} (hu : 0 ≤ h 11 1 ∧ h 11 1 ≤ 10) (hc : 0 ≤ c ∧ c < 52) : zC M_d_value [vR 11, vI c] h (pV (vI (nw h c)) h) := by
  refine zC.ofN 1 (by decide) (by first | decide | exact Nat.le_of_ble_eq_true rfl) ?_
  show Z M_d_value _ 0 [vR 11, vI c, vU] [] h
  refine z_aload_n D_d_value_0 rfl ?_
  refine z_getI fl_d_15 (rfl) rfl D_d_value_1 ?_
  refine z_bipush (by decide) D_d_value_4 ?_
  refine z_imul D_d_value_6 ?_
  refine z_iload_n D_d_value_7 rfl ?_
  refine z_iadd D_d_value_8 ?_
  refine z_istore_2 D_d_value_9 (Nat.le_of_ble_eq_true rfl) rfl ?_
  refine z_iload_n D_d_value_10 rfl ?_
  refine z_if_lt (tgt := 32) D_d_value_11 (by decide) (by omega) (fun q11 => ?_) (fun q11 => ?_)
  · refine z_iconst D_d_value_32 ?_
    exact z_ireturn rfl D_d_value_33 (pvI (by first | rfl | omega) rfl)
  · refine z_iload_n D_d_value_14 rfl ?_
    refine z_aload_n D_d_value_15 rfl ?_
    refine z_getR (q := 12) fl_d_11 (rfl) rfl (rfl) D_d_value_16 ?_
    refine z_alen (n := 572) (rfl) (by decide) D_d_value_19 ?_
    refine z_icmp_ge (tgt := 32) D_d_value_20 (by decide) (by omega) (by omega) (fun q20 => ?_) (fun q20 => ?_)
    · refine z_iconst D_d_value_32 ?_
      exact z_ireturn rfl D_d_value_33 (pvI (by first | rfl | omega) rfl)
    · refine z_aload_n D_d_value_23 rfl ?_
      refine z_getR (q := 12) fl_d_11 (rfl) rfl (rfl) D_d_value_24 ?_
      refine z_iload_n D_d_value_27 rfl ?_
      refine z_iald (n := 572) (rfl) (by omega) D_d_value_28 ?_
      refine z_goto (tgt := 33) D_d_value_29 (by decide) ?_
      exact z_ireturn rfl D_d_value_33 (pvI (by first | rfl | omega) rfl)

theorem c_d_put {h : zH} {c x : Int} (hu : 0 ≤ h 11 1 ∧ h 11 1 ≤ 10) (hc : 0 ≤ c ∧ c < 52) : zC M_d_put [vR 11, vI c, vI x] h (p0 (zup h 12 (h 11 1 * 52 + c).toNat x)) := by
  refine zC.ofN 1 (by decide) (by first | decide | exact Nat.le_of_ble_eq_true rfl) ?_
  show Z M_d_put _ 0 [vR 11, vI c, vI x, vU] [] h
  refine z_aload_n D_d_put_0 rfl ?_
  refine z_getI fl_d_15 (rfl) rfl D_d_put_1 ?_
  refine z_bipush (by decide) D_d_put_4 ?_
  refine z_imul D_d_put_6 ?_
  refine z_iload_n D_d_put_7 rfl ?_
  refine z_iadd D_d_put_8 ?_
  refine z_istore_3 D_d_put_9 (Nat.le_of_ble_eq_true rfl) rfl ?_
  refine z_iload_n D_d_put_10 rfl ?_
  refine z_if_lt (tgt := 30) D_d_put_11 (by decide) (by omega) (fun q11 => ?_) (fun q11 => ?_)
  · exact z_return rfl D_d_put_30 (pv0 (by first | rfl | omega))
  · refine z_iload_n D_d_put_14 rfl ?_
    refine z_aload_n D_d_put_15 rfl ?_
    refine z_getR (q := 12) fl_d_11 (rfl) rfl (rfl) D_d_put_16 ?_
    refine z_alen (n := 572) (rfl) (by decide) D_d_put_19 ?_
    refine z_icmp_ge (tgt := 30) D_d_put_20 (by decide) (by omega) (by omega) (fun q20 => ?_) (fun q20 => ?_)
    · exact z_return rfl D_d_put_30 (pv0 (by first | rfl | omega))
    · refine z_aload_n D_d_put_23 rfl ?_
      refine z_getR (q := 12) fl_d_11 (rfl) rfl (rfl) D_d_put_24 ?_
      refine z_iload_n D_d_put_27 rfl ?_
      refine z_iload_n D_d_put_28 rfl ?_
      refine z_iast (n := 572) (rfl) (by omega) D_d_put_29 ?_
      exact z_return rfl D_d_put_30 (pv0 (by first | rfl | omega))

theorem c_w_hasSpot {h : zH} {w : Nat} {s : Int} (hw : w = 3 ∨ w = 7) (h3 : 0 ≤ h w 3 ∧ h w 3 ≤ 12) (r_s : -2147483648 ≤ s ∧ s ≤ 2147483647) : zC M_w_hasSpot [vR w, vI s] h (pV (vI (zb (0 ≤ s ∧ s < h w 3))) h) := by
  refine zC.ofN 0 (by decide) (by first | decide | exact Nat.le_of_ble_eq_true rfl) ?_
  show Z M_w_hasSpot _ 0 [vR w, vI s] [] h
  refine z_iload_n D_w_hasSpot_0 rfl ?_
  refine z_if_lt (tgt := 25) D_w_hasSpot_1 (by decide) (by omega) (fun q1 => ?_) (fun q1 => ?_)
  · refine z_iconst D_w_hasSpot_25 ?_
    exact z_zreturn rfl (by first | exact Or.inl rfl | exact Or.inr rfl | exact zb_01 _) D_w_hasSpot_26 (pvI (by first | exact (zb_t (by omega)).symm | exact (zb_f (by omega)).symm) rfl)
  · refine z_iload_n D_w_hasSpot_4 rfl ?_
    refine z_aload_n D_w_hasSpot_5 rfl ?_
    refine z_getI fl_w_21 (kw hw) rfl D_w_hasSpot_6 ?_
    refine z_icmp_ge (tgt := 25) D_w_hasSpot_9 (by decide) (by omega) (by omega) (fun q9 => ?_) (fun q9 => ?_)
    · refine z_iconst D_w_hasSpot_25 ?_
      exact z_zreturn rfl (by first | exact Or.inl rfl | exact Or.inr rfl | exact zb_01 _) D_w_hasSpot_26 (pvI (by first | exact (zb_t (by omega)).symm | exact (zb_f (by omega)).symm) rfl)
    · refine z_iload_n D_w_hasSpot_12 rfl ?_
      refine z_aload_n D_w_hasSpot_13 rfl ?_
      refine z_getR (q := (w + 1)) fl_w_9 (kw hw) rfl (kw0 hw) D_w_hasSpot_14 ?_
      refine z_alen (n := 12) (kwp hw) (by decide) D_w_hasSpot_17 ?_
      refine z_icmp_ge (tgt := 25) D_w_hasSpot_18 (by decide) (by omega) (by omega) (fun q18 => ?_) (fun q18 => ?_)
      · refine z_iconst D_w_hasSpot_25 ?_
        exact z_zreturn rfl (by first | exact Or.inl rfl | exact Or.inr rfl | exact zb_01 _) D_w_hasSpot_26 (pvI (by first | exact (zb_t (by omega)).symm | exact (zb_f (by omega)).symm) rfl)
      · refine z_iconst D_w_hasSpot_21 ?_
        refine z_goto (tgt := 26) D_w_hasSpot_22 (by decide) ?_
        exact z_zreturn rfl (by first | exact Or.inl rfl | exact Or.inr rfl | exact zb_01 _) D_w_hasSpot_26 (pvI (by first | exact (zb_t (by omega)).symm | exact (zb_f (by omega)).symm) rfl)

theorem c_w_hasPerson {h : zH} {w : Nat} {s : Int} (hw : w = 3 ∨ w = 7) (h4 : 0 ≤ h w 4 ∧ h w 4 ≤ 6) (r_s : -2147483648 ≤ s ∧ s ≤ 2147483647) : zC M_w_hasPerson [vR w, vI s] h (pV (vI (zb (0 ≤ s ∧ s < h w 4))) h) := by
  refine zC.ofN 0 (by decide) (by first | decide | exact Nat.le_of_ble_eq_true rfl) ?_
  show Z M_w_hasPerson _ 0 [vR w, vI s] [] h
  refine z_iload_n D_w_hasPerson_0 rfl ?_
  refine z_if_lt (tgt := 25) D_w_hasPerson_1 (by decide) (by omega) (fun q1 => ?_) (fun q1 => ?_)
  · refine z_iconst D_w_hasPerson_25 ?_
    exact z_zreturn rfl (by first | exact Or.inl rfl | exact Or.inr rfl | exact zb_01 _) D_w_hasPerson_26 (pvI (by first | exact (zb_t (by omega)).symm | exact (zb_f (by omega)).symm) rfl)
  · refine z_iload_n D_w_hasPerson_4 rfl ?_
    refine z_aload_n D_w_hasPerson_5 rfl ?_
    refine z_getI fl_w_25 (kw hw) rfl D_w_hasPerson_6 ?_
    refine z_icmp_ge (tgt := 25) D_w_hasPerson_9 (by decide) (by omega) (by omega) (fun q9 => ?_) (fun q9 => ?_)
    · refine z_iconst D_w_hasPerson_25 ?_
      exact z_zreturn rfl (by first | exact Or.inl rfl | exact Or.inr rfl | exact zb_01 _) D_w_hasPerson_26 (pvI (by first | exact (zb_t (by omega)).symm | exact (zb_f (by omega)).symm) rfl)
    · refine z_iload_n D_w_hasPerson_12 rfl ?_
      refine z_aload_n D_w_hasPerson_13 rfl ?_
      refine z_getR (q := (w + 3)) fl_w_18 (kw hw) rfl (kw2 hw) D_w_hasPerson_14 ?_
      refine z_alen (n := 6) (kwn hw) (by decide) D_w_hasPerson_17 ?_
      refine z_icmp_ge (tgt := 25) D_w_hasPerson_18 (by decide) (by omega) (by omega) (fun q18 => ?_) (fun q18 => ?_)
      · refine z_iconst D_w_hasPerson_25 ?_
        exact z_zreturn rfl (by first | exact Or.inl rfl | exact Or.inr rfl | exact zb_01 _) D_w_hasPerson_26 (pvI (by first | exact (zb_t (by omega)).symm | exact (zb_f (by omega)).symm) rfl)
      · refine z_iconst D_w_hasPerson_21 ?_
        refine z_goto (tgt := 26) D_w_hasPerson_22 (by decide) ?_
        exact z_zreturn rfl (by first | exact Or.inl rfl | exact Or.inr rfl | exact zb_01 _) D_w_hasPerson_26 (pvI (by first | exact (zb_t (by omega)).symm | exact (zb_f (by omega)).symm) rfl)

def rnd (n x : Int) : Int := if 0 < n then x % n else 0
theorem c_w_roundThe {h : zH} {w : Nat} {x : Int} (hw : w = 3 ∨ w = 7) (h3 : 0 ≤ h w 3 ∧ h w 3 ≤ 12) (r_x : -2147483648 ≤ x ∧ x ≤ 2147483647) : zC M_w_roundThe [vR w, vI x] h (pV (vI (rnd (h w 3) x)) h) := by
  refine zC.ofN 0 (by decide) (by first | decide | exact Nat.le_of_ble_eq_true rfl) ?_
  show Z M_w_roundThe _ 0 [vR w, vI x] [] h
  refine z_aload_n D_w_roundThe_0 rfl ?_
  refine z_getI fl_w_21 (kw hw) rfl D_w_roundThe_1 ?_
  refine z_if_le (tgt := 18) D_w_roundThe_4 (by decide) (by omega) (fun q4 => ?_) (fun q4 => ?_)
  · refine z_iconst D_w_roundThe_18 ?_
    exact z_ireturn rfl D_w_roundThe_19 (pvI (by first | exact (if_pos (by omega)).symm | exact (if_neg (by omega)).symm) rfl)
  · refine z_iload_n D_w_roundThe_7 rfl ?_
    refine z_aload_n D_w_roundThe_8 rfl ?_
    refine z_getI fl_w_21 (kw hw) rfl D_w_roundThe_9 ?_
    refine z_S2 (c_j_floorMod r_x (by omega)) G_j_floorMod S_j_floorMod lk_w_34 ⟨Nat.le_of_ble_eq_true rfl, Nat.le_of_ble_eq_true rfl⟩ (Nat.le_of_ble_eq_true rfl) D_w_roundThe_12 ?_
    refine z_goto (tgt := 19) D_w_roundThe_15 (by decide) ?_
    exact z_ireturn rfl D_w_roundThe_19 (pvI (by first | exact (if_pos (by omega)).symm | exact (if_neg (by omega)).symm) rfl)

theorem rnd_in {n x : Int} (h : 0 ≤ n) : 0 ≤ rnd n x ∧ (rnd n x < n ∨ (n = 0 ∧ rnd n x = 0)) := by
  unfold rnd
  split
  · have h1 := Int.emod_nonneg x (show n ≠ 0 by omega)
    have h2 := Int.emod_lt_of_pos x (show 0 < n by omega)
    omega
  · omega
theorem c_w_colourAt {h : zH} {w : Nat} {s t : Int} (hw : w = 3 ∨ w = 7) (h3 : 0 ≤ h w 3 ∧ h w 3 ≤ 12) (r_s : -1000000 ≤ s + t ∧ s + t ≤ 1000000) : zC M_w_colourAt [vR w, vI s, vI t] h (pV (vI (h (w + 1) (rnd (h w 3) (s + t)).toNat)) h) := by
  refine zC.ofN 0 (by decide) (by first | decide | exact Nat.le_of_ble_eq_true rfl) ?_
  show Z M_w_colourAt _ 0 [vR w, vI s, vI t] [] h
  refine z_aload_n D_w_colourAt_0 rfl ?_
  refine z_getR (q := (w + 1)) fl_w_9 (kw hw) rfl (kw0 hw) D_w_colourAt_1 ?_
  refine z_aload_n D_w_colourAt_4 rfl ?_
  refine z_iload_n D_w_colourAt_5 rfl ?_
  refine z_iload_n D_w_colourAt_6 rfl ?_
  refine z_iadd D_w_colourAt_7 ?_
  refine z_V1 (c0 := 10) (c_w_roundThe hw h3 (by omega)) G_w_roundThe I_w_roundThe lk_w_40 (kw hw) ⟨by decide, rfl⟩ ⟨Nat.le_of_ble_eq_true rfl, Nat.le_of_ble_eq_true rfl⟩ (Nat.le_of_ble_eq_true rfl) D_w_colourAt_8 ?_
  refine z_iald (n := 12) (kwp hw) (by have := rnd_in (x := s + t) h3.1; omega) D_w_colourAt_11 ?_
  exact z_ireturn rfl D_w_colourAt_12 (pvI rfl rfl)

theorem c_w_wayRound {h : zH} {w : Nat} {s t : Int} (hw : w = 3 ∨ w = 7) (h3 : 0 ≤ h w 3 ∧ h w 3 ≤ 12) (r_s : -1000000 ≤ s ∧ s ≤ 1000000) (r_t : -1000000 ≤ t ∧ t ≤ 1000000) : zC M_w_wayRound [vR w, vI s, vI t] h (pV (vI (min (rnd (h w 3) (t - s)) (rnd (h w 3) (s - t)))) h) := by
  refine zC.ofN 0 (by decide) (by first | decide | exact Nat.le_of_ble_eq_true rfl) ?_
  show Z M_w_wayRound _ 0 [vR w, vI s, vI t] [] h
  refine z_aload_n D_w_wayRound_0 rfl ?_
  refine z_iload_n D_w_wayRound_1 rfl ?_
  refine z_iload_n D_w_wayRound_2 rfl ?_
  refine z_isub D_w_wayRound_3 ?_
  refine z_V1 (c0 := 10) (c_w_roundThe hw h3 (by omega)) G_w_roundThe I_w_roundThe lk_w_40 (kw hw) ⟨by decide, rfl⟩ ⟨Nat.le_of_ble_eq_true rfl, Nat.le_of_ble_eq_true rfl⟩ (Nat.le_of_ble_eq_true rfl) D_w_wayRound_4 ?_
  refine z_aload_n D_w_wayRound_7 rfl ?_
  refine z_iload_n D_w_wayRound_8 rfl ?_
  refine z_iload_n D_w_wayRound_9 rfl ?_
  refine z_isub D_w_wayRound_10 ?_
  refine z_V1 (c0 := 10) (c_w_roundThe hw h3 (by omega)) G_w_roundThe I_w_roundThe lk_w_40 (kw hw) ⟨by decide, rfl⟩ ⟨Nat.le_of_ble_eq_true rfl, Nat.le_of_ble_eq_true rfl⟩ (Nat.le_of_ble_eq_true rfl) D_w_wayRound_11 ?_
  refine z_S2 (c_j_min (by have := rnd_in (x := t - s) h3.1; omega) (by have := rnd_in (x := s - t) h3.1; omega)) G_j_min S_j_min lk_w_44 ⟨Nat.le_of_ble_eq_true rfl, Nat.le_of_ble_eq_true rfl⟩ (Nat.le_of_ble_eq_true rfl) D_w_wayRound_14 ?_
  exact z_ireturn rfl D_w_wayRound_17 (pvI rfl rfl)

theorem c_w_clicksOf {h : zH} {w : Nat} {v r : Int} (hw : w = 3 ∨ w = 7) (hC : zC M_w_clicksBy [vI v, vI (h w 5), vI (h w 6)] h (pV (vI r) h)) : zC M_w_clicksOf [vR w, vI v] h (pV (vI r) h) := by
  refine zC.ofN 0 (by decide) (by first | decide | exact Nat.le_of_ble_eq_true rfl) ?_
  show Z M_w_clicksOf _ 0 [vR w, vI v] [] h
  refine z_iload_n D_w_clicksOf_0 rfl ?_
  refine z_aload_n D_w_clicksOf_1 rfl ?_
  refine z_getI fl_w_28 (kw hw) rfl D_w_clicksOf_2 ?_
  refine z_aload_n D_w_clicksOf_5 rfl ?_
  refine z_getI fl_w_31 (kw hw) rfl D_w_clicksOf_6 ?_
  refine z_S3 hC G_w_clicksBy S_w_clicksBy lk_w_54 ⟨Nat.le_of_ble_eq_true rfl, Nat.le_of_ble_eq_true rfl⟩ (Nat.le_of_ble_eq_true rfl) D_w_clicksOf_9 ?_
  exact z_ireturn rfl D_w_clicksOf_12 (pvI rfl rfl)

theorem c_m_isOne {h : zH} {s : Int} (h4 : 0 ≤ h 39 4 ∧ h 39 4 ≤ 12) (r_s : -2147483648 ≤ s ∧ s ≤ 2147483647) : zC M_m_isOne [vR 39, vI s] h (pV (vI (zb (0 ≤ s ∧ s < h 39 4))) h) := by
  refine zC.ofN 0 (by decide) (by first | decide | exact Nat.le_of_ble_eq_true rfl) ?_
  show Z M_m_isOne _ 0 [vR 39, vI s] [] h
  refine z_iload_n D_m_isOne_0 rfl ?_
  refine z_iconst D_m_isOne_1 ?_
  refine z_aload_n D_m_isOne_2 rfl ?_
  refine z_getI fl_m_66 (rfl) rfl D_m_isOne_3 ?_
  refine z_iconst D_m_isOne_6 ?_
  refine z_isub D_m_isOne_7 ?_
  refine z_S3 (c_m_in r_s (by omega) (by omega)) G_m_in S_m_in lk_m_69 ⟨Nat.le_of_ble_eq_true rfl, Nat.le_of_ble_eq_true rfl⟩ (Nat.le_of_ble_eq_true rfl) D_m_isOne_8 ?_
  exact z_zreturn rfl (by first | exact Or.inl rfl | exact Or.inr rfl | exact zb_01 _) D_m_isOne_11 (pvI (zb_eq (by omega)) rfl)

theorem c_m_isSpot {h : zH} {s : Int} (h4 : 0 ≤ h 39 0 ∧ h 39 0 ≤ 12) (r_s : -2147483648 ≤ s ∧ s ≤ 2147483647) : zC M_m_isSpot [vR 39, vI s] h (pV (vI (zb (0 ≤ s ∧ s < h 39 0))) h) := by
  refine zC.ofN 0 (by decide) (by first | decide | exact Nat.le_of_ble_eq_true rfl) ?_
  show Z M_m_isSpot _ 0 [vR 39, vI s] [] h
  refine z_iload_n D_m_isSpot_0 rfl ?_
  refine z_iconst D_m_isSpot_1 ?_
  refine z_aload_n D_m_isSpot_2 rfl ?_
  refine z_getI fl_m_73 (rfl) rfl D_m_isSpot_3 ?_
  refine z_iconst D_m_isSpot_6 ?_
  refine z_isub D_m_isSpot_7 ?_
  refine z_S3 (c_m_in r_s (by omega) (by omega)) G_m_in S_m_in lk_m_69 ⟨Nat.le_of_ble_eq_true rfl, Nat.le_of_ble_eq_true rfl⟩ (Nat.le_of_ble_eq_true rfl) D_m_isSpot_8 ?_
  exact z_zreturn rfl (by first | exact Or.inl rfl | exact Or.inr rfl | exact zb_01 _) D_m_isSpot_11 (pvI (zb_eq (by omega)) rfl)

