/-! kinds, both sides -/
theorem zup_up {h : zH} {a k : Nat} {x y : Int} : zup (zup h a k x) a k y = zup h a k y := by
  funext b j; unfold zup; split <;> rfl
theorem c_kO_worth {h : zH} {a : Nat}  : zC M_kO_worth [vR a, vR 25] h (pV (vI (h 25 2)) (zup h 25 5 (h 25 5 + 1))) := by
  refine zC.ofN 0 (by decide) (by first | decide | exact Nat.le_of_ble_eq_true rfl) ?_
  show Z M_kO_worth _ 0 [vR a, vR 25] [] h
  refine z_aload_n D_kO_worth_0 rfl ?_
  refine z_dup rfl D_kO_worth_1 ?_
  refine z_getL fl_kO_7 (rfl) rfl D_kO_worth_2 ?_
  refine z_lconst1 D_kO_worth_5 ?_
  refine z_ladd D_kO_worth_6 ?_
  refine z_putL fl_kO_7 (rfl) rfl rfl D_kO_worth_7 ?_
  refine z_aload_n D_kO_worth_10 rfl ?_
  refine z_getI fl_kO_13 (rfl) rfl D_kO_worth_11 ?_
  exact z_ireturn rfl D_kO_worth_14 (pvI (by rw [zup_nk (by decide)]) rfl)

theorem c_kB_worth {h : zH} {a c0 : Nat} (hc0 : c0 < 13) (hca : (zks a).1 = c0) (hin : Cond.instantiable (zRR c0) 0 ∈ zt) : zC M_kB_worth [vR a, vR 25] h (pV (vI (h 25 2 + h 25 3)) (zup h 25 5 (h 25 5 + 11))) := by
  refine zC.ofN 0 (by decide) (by first | decide | exact Nat.le_of_ble_eq_true rfl) ?_
  show Z M_kB_worth _ 0 [vR a, vR 25] [] h
  refine z_aload_n D_kB_worth_0 rfl ?_
  refine z_dup rfl D_kB_worth_1 ?_
  refine z_getL fl_kB_7 (rfl) rfl D_kB_worth_2 ?_
  refine z_ldc2 10 (zt_t1 644 (by decide +kernel) rfl) D_kB_worth_5 ?_
  refine z_ladd D_kB_worth_8 ?_
  refine z_putL fl_kB_7 (rfl) rfl rfl D_kB_worth_9 ?_
  refine z_aload_n D_kB_worth_12 rfl ?_
  refine z_aload_n D_kB_worth_13 rfl ?_
  refine zg_callSU (av := [vR 25]) (st := []) (n := 1) (k0 := 0) c_kO_worth G_kO_worth lk_kB_15 (zt_t1 635 (by decide +kernel) rfl) (zt_t1 187 (by decide +kernel) rfl) (zt_t1 633 (by decide +kernel) rfl) (by decide) hc0 hca hin ⟨Nat.le_of_ble_eq_true rfl, Nat.le_of_ble_eq_true rfl⟩ rfl (Nat.le_of_ble_eq_true rfl) D_kB_worth_14 (fun v9 h9 hp9 => ?_)
  obtain ⟨rfl, rfl⟩ := hp9
  show Z _ _ _ _ [vI _] _
  refine z_aload_n D_kB_worth_17 rfl ?_
  refine z_getI fl_kB_19 (rfl) rfl D_kB_worth_18 ?_
  refine z_iadd D_kB_worth_21 ?_
  exact z_ireturn rfl D_kB_worth_22 (pvI (by simp only [zup_nk (show (0 : Nat) ≠ 5 by decide), zup_nk (show (1 : Nat) ≠ 5 by decide), zup_nk (show (2 : Nat) ≠ 5 by decide), zup_nk (show (3 : Nat) ≠ 5 by decide), zup_nk (show (4 : Nat) ≠ 5 by decide)]) (by rw [zup_up, zup_same]; exact congrArg (zup h 25 5) (by omega)))

theorem c_kE_worth {h : zH} {a c0 : Nat} (hc0 : c0 < 13) (hca : (zks a).1 = c0) (hin : Cond.instantiable (zRR c0) 0 ∈ zt) : zC M_kE_worth [vR a, vR 25] h (pV (vI (h 25 2 - h 25 1)) (zup h 25 5 (h 25 5 + 101))) := by
  refine zC.ofN 0 (by decide) (by first | decide | exact Nat.le_of_ble_eq_true rfl) ?_
  show Z M_kE_worth _ 0 [vR a, vR 25] [] h
  refine z_aload_n D_kE_worth_0 rfl ?_
  refine z_dup rfl D_kE_worth_1 ?_
  refine z_getL fl_kE_7 (rfl) rfl D_kE_worth_2 ?_
  refine z_ldc2 100 (zt_t1 639 (by decide +kernel) rfl) D_kE_worth_5 ?_
  refine z_ladd D_kE_worth_8 ?_
  refine z_putL fl_kE_7 (rfl) rfl rfl D_kE_worth_9 ?_
  refine z_aload_n D_kE_worth_12 rfl ?_
  refine z_aload_n D_kE_worth_13 rfl ?_
  refine zg_callSU (av := [vR 25]) (st := []) (n := 1) (k0 := 0) c_kO_worth G_kO_worth lk_kE_15 (zt_t1 635 (by decide +kernel) rfl) (zt_t1 194 (by decide +kernel) rfl) (zt_t1 633 (by decide +kernel) rfl) (by decide) hc0 hca hin ⟨Nat.le_of_ble_eq_true rfl, Nat.le_of_ble_eq_true rfl⟩ rfl (Nat.le_of_ble_eq_true rfl) D_kE_worth_14 (fun v9 h9 hp9 => ?_)
  obtain ⟨rfl, rfl⟩ := hp9
  show Z _ _ _ _ [vI _] _
  refine z_aload_n D_kE_worth_17 rfl ?_
  refine z_getI fl_kE_19 (rfl) rfl D_kE_worth_18 ?_
  refine z_isub D_kE_worth_21 ?_
  exact z_ireturn rfl D_kE_worth_22 (pvI (by simp only [zup_nk (show (0 : Nat) ≠ 5 by decide), zup_nk (show (1 : Nat) ≠ 5 by decide), zup_nk (show (2 : Nat) ≠ 5 by decide), zup_nk (show (3 : Nat) ≠ 5 by decide), zup_nk (show (4 : Nat) ≠ 5 by decide)]) (by rw [zup_up, zup_same]; exact congrArg (zup h 25 5) (by omega)))

theorem c_kG_worth {h : zH} {a c0 : Nat} (hc0 : c0 < 13) (hca : (zks a).1 = c0) (hin : Cond.instantiable (zRR c0) 0 ∈ zt) : zC M_kG_worth [vR a, vR 25] h (pV (vI (h 25 2 + h 25 4)) (zup h 25 5 (h 25 5 + 100001))) := by
  refine zC.ofN 0 (by decide) (by first | decide | exact Nat.le_of_ble_eq_true rfl) ?_
  show Z M_kG_worth _ 0 [vR a, vR 25] [] h
  refine z_aload_n D_kG_worth_0 rfl ?_
  refine z_dup rfl D_kG_worth_1 ?_
  refine z_getL fl_kG_7 (rfl) rfl D_kG_worth_2 ?_
  refine z_ldc2 100000 (zt_t1 659 (by decide +kernel) rfl) D_kG_worth_5 ?_
  refine z_ladd D_kG_worth_8 ?_
  refine z_putL fl_kG_7 (rfl) rfl rfl D_kG_worth_9 ?_
  refine z_aload_n D_kG_worth_12 rfl ?_
  refine z_aload_n D_kG_worth_13 rfl ?_
  refine zg_callSU (av := [vR 25]) (st := []) (n := 1) (k0 := 0) c_kO_worth G_kO_worth lk_kG_15 (zt_t1 635 (by decide +kernel) rfl) (zt_t1 215 (by decide +kernel) rfl) (zt_t1 633 (by decide +kernel) rfl) (by decide) hc0 hca hin ⟨Nat.le_of_ble_eq_true rfl, Nat.le_of_ble_eq_true rfl⟩ rfl (Nat.le_of_ble_eq_true rfl) D_kG_worth_14 (fun v9 h9 hp9 => ?_)
  obtain ⟨rfl, rfl⟩ := hp9
  show Z _ _ _ _ [vI _] _
  refine z_aload_n D_kG_worth_17 rfl ?_
  refine z_getI fl_kG_19 (rfl) rfl D_kG_worth_18 ?_
  refine z_iadd D_kG_worth_21 ?_
  exact z_ireturn rfl D_kG_worth_22 (pvI (by simp only [zup_nk (show (0 : Nat) ≠ 5 by decide), zup_nk (show (1 : Nat) ≠ 5 by decide), zup_nk (show (2 : Nat) ≠ 5 by decide), zup_nk (show (3 : Nat) ≠ 5 by decide), zup_nk (show (4 : Nat) ≠ 5 by decide)]) (by rw [zup_up, zup_same]; exact congrArg (zup h 25 5) (by omega)))

theorem c_kC_worth {h : zH} {a c0 : Nat} (hc0 : c0 < 13) (hca : (zks a).1 = c0) (hin : Cond.instantiable (zRR c0) 0 ∈ zt) : zC M_kC_worth [vR a, vR 25] h (pV (vI ((h 25 2 + h 25 3) * 2)) (zup h 25 5 (h 25 5 + 1011))) := by
  refine zC.ofN 0 (by decide) (by first | decide | exact Nat.le_of_ble_eq_true rfl) ?_
  show Z M_kC_worth _ 0 [vR a, vR 25] [] h
  refine z_aload_n D_kC_worth_0 rfl ?_
  refine z_dup rfl D_kC_worth_1 ?_
  refine z_getL fl_kC_7 (rfl) rfl D_kC_worth_2 ?_
  refine z_ldc2 1000 (zt_t1 649 (by decide +kernel) rfl) D_kC_worth_5 ?_
  refine z_ladd D_kC_worth_8 ?_
  refine z_putL fl_kC_7 (rfl) rfl rfl D_kC_worth_9 ?_
  refine z_aload_n D_kC_worth_12 rfl ?_
  refine z_aload_n D_kC_worth_13 rfl ?_
  refine zg_callSU (av := [vR 25]) (st := []) (n := 1) (k0 := 0) (c_kB_worth hc0 hca hin) G_kB_worth lk_kC_15 (zt_t1 1063 (by decide +kernel) rfl) (zt_t1 201 (by decide +kernel) rfl) (zt_t1 642 (by decide +kernel) rfl) (by decide) hc0 hca hin ⟨Nat.le_of_ble_eq_true rfl, Nat.le_of_ble_eq_true rfl⟩ rfl (Nat.le_of_ble_eq_true rfl) D_kC_worth_14 (fun v9 h9 hp9 => ?_)
  obtain ⟨rfl, rfl⟩ := hp9
  show Z _ _ _ _ [vI _] _
  refine z_iconst D_kC_worth_17 ?_
  refine z_imul D_kC_worth_18 ?_
  exact z_ireturn rfl D_kC_worth_19 (pvI (by simp only [zup_nk (show (0 : Nat) ≠ 5 by decide), zup_nk (show (1 : Nat) ≠ 5 by decide), zup_nk (show (2 : Nat) ≠ 5 by decide), zup_nk (show (3 : Nat) ≠ 5 by decide), zup_nk (show (4 : Nat) ≠ 5 by decide)]) (by rw [zup_up, zup_same]; exact congrArg (zup h 25 5) (by omega)))

theorem c_kD_worth {h : zH} {a c0 : Nat} (hc0 : c0 < 13) (hca : (zks a).1 = c0) (hin : Cond.instantiable (zRR c0) 0 ∈ zt) : zC M_kD_worth [vR a, vR 25] h (pV (vI (h 25 2 - h 25 1 + h 25 0)) (zup h 25 5 (h 25 5 + 10101))) := by
  refine zC.ofN 0 (by decide) (by first | decide | exact Nat.le_of_ble_eq_true rfl) ?_
  show Z M_kD_worth _ 0 [vR a, vR 25] [] h
  refine z_aload_n D_kD_worth_0 rfl ?_
  refine z_dup rfl D_kD_worth_1 ?_
  refine z_getL fl_kD_7 (rfl) rfl D_kD_worth_2 ?_
  refine z_ldc2 10000 (zt_t1 654 (by decide +kernel) rfl) D_kD_worth_5 ?_
  refine z_ladd D_kD_worth_8 ?_
  refine z_putL fl_kD_7 (rfl) rfl rfl D_kD_worth_9 ?_
  refine z_aload_n D_kD_worth_12 rfl ?_
  refine z_aload_n D_kD_worth_13 rfl ?_
  refine zg_callSU (av := [vR 25]) (st := []) (n := 1) (k0 := 0) (c_kE_worth hc0 hca hin) G_kE_worth lk_kD_15 (zt_t1 1064 (by decide +kernel) rfl) (zt_t1 208 (by decide +kernel) rfl) (zt_t1 637 (by decide +kernel) rfl) (by decide) hc0 hca hin ⟨Nat.le_of_ble_eq_true rfl, Nat.le_of_ble_eq_true rfl⟩ rfl (Nat.le_of_ble_eq_true rfl) D_kD_worth_14 (fun v9 h9 hp9 => ?_)
  obtain ⟨rfl, rfl⟩ := hp9
  show Z _ _ _ _ [vI _] _
  refine z_aload_n D_kD_worth_17 rfl ?_
  refine z_getI fl_kD_19 (rfl) rfl D_kD_worth_18 ?_
  refine z_iadd D_kD_worth_21 ?_
  exact z_ireturn rfl D_kD_worth_22 (pvI (by simp only [zup_nk (show (0 : Nat) ≠ 5 by decide), zup_nk (show (1 : Nat) ≠ 5 by decide), zup_nk (show (2 : Nat) ≠ 5 by decide), zup_nk (show (3 : Nat) ≠ 5 by decide), zup_nk (show (4 : Nat) ≠ 5 by decide)]) (by rw [zup_up, zup_same]; exact congrArg (zup h 25 5) (by omega)))

def mkv (kd cl pat spot p fe : Int) : Int := if kd = 1 then cl + pat else if kd = 2 then cl - spot else if kd = 3 then 2 * (cl + pat) else if kd = 4 then cl - spot + p else if kd = 5 then cl + fe else cl
def mki (kd : Int) : Int := if kd = 1 then 11 else if kd = 2 then 101 else if kd = 3 then 1011 else if kd = 4 then 10101 else if kd = 5 then 100001 else 1
theorem nw25 {h : zH} {k : Nat} {x : Int} : nw (zup h 25 k x) = nw h := by
  funext c; unfold nw; rw [zup_ne (by decide), zup_ne (by decide)]
theorem px25 {h : zH} {k w : Nat} {x : Int} (hw : w = 3 ∨ w = 7) : px (zup h 25 k x) w = px h w := by
  funext c; unfold px; rw [zup_ne (by omega)]
theorem XI.z25 {h : zH} {k w : Nat} {x : Int} (hx : XI h w) : XI (zup h 25 k x) w := by
  obtain ⟨a0, a1, a2, a3⟩ := hx
  have e2 : wx (zup h 25 k x) w = wx h w := by funext j; unfold wx; rw [zup_ne (by omega)]
  have ew : zup h 25 k x w = h w := by funext j; rw [zup_ne (by omega)]
  refine ⟨by rw [zup_ne (by decide)]; exact a0, a1, by rw [zup_ne (by decide)]; exact a2, ?_⟩
  rw [ew, e2, nw25, px25 a1]
  exact a3
theorem c_x_mark {h : zH} {w : Nat} {kd p : Int} (hx : XI h w) (r_kd : -2147483648 ≤ kd ∧ kd ≤ 2147483647) (r_p : -2147483648 ≤ p ∧ p ≤ 2147483647) : zC M_x_mark [vR 0, vI kd, vI p] h (fun v h1 => v = some (vI (if ((0 ≤ kd ∧ kd ≤ 5) ∧ (0 ≤ p ∧ p < h w 4)) then mkv kd (col (px h w) (nw h) (h w 3) p) (nw h (10 + p)) (nw h (4 + p)) p (nw h 3) else -1000000)) ∧ (¬ ((0 ≤ kd ∧ kd ≤ 5) ∧ (0 ≤ p ∧ p < h w 4)) → h1 = h) ∧ (((0 ≤ kd ∧ kd ≤ 5) ∧ (0 ≤ p ∧ p < h w 4)) → (∀ b, b ≠ 25 → h1 b = h b) ∧ h1 25 5 = h 25 5 + mki kd)) := by
  refine zC.ofN 0 (by decide) (by first | decide | exact Nat.le_of_ble_eq_true rfl) ?_
  show Z M_x_mark _ 0 [vR 0, vI kd, vI p] [] h
  have hw := hx.2.1
  have hu := hx.2.2.1
  have hn := hx.2.2.2.hn
  have hnp := hx.2.2.2.hnp
  have ht := hx.2.2.2.row.ht
  have hh := hx.2.2.2.row.hh
  have hc := hx.2.2.2.row.hc
  refine z_iload_n D_x_mark_0 rfl ?_
  refine z_iconst D_x_mark_1 ?_
  refine z_aload_n D_x_mark_2 rfl ?_
  refine z_getR (q := 26) fl_x_76 (rfl) rfl (rfl) D_x_mark_3 ?_
  refine z_alen (n := 6) (rfl) (by decide) D_x_mark_6 ?_
  refine z_iconst D_x_mark_7 ?_
  refine z_isub D_x_mark_8 ?_
  refine z_S3 (c_x_isWithin r_kd (by omega) (by omega)) G_x_isWithin S_x_isWithin lk_x_99 ⟨Nat.le_of_ble_eq_true rfl, Nat.le_of_ble_eq_true rfl⟩ (Nat.le_of_ble_eq_true rfl) D_x_mark_9 ?_
  refine z_ifeqB (tgt := 26) D_x_mark_12 (by decide) (fun q12 => ?_) (fun q12 => ?_)
  · refine z_ldc (-1000000) (zt_t1 631 (by decide +kernel) rfl) D_x_mark_26 ?_
    exact z_ireturn rfl D_x_mark_28 (⟨by rw [if_neg (by omega)], fun _ => rfl, fun q => absurd q (by omega)⟩)
  · refine z_aload_n D_x_mark_15 rfl ?_
    refine z_getW fl_x_19 (by decide) hx.1 D_x_mark_16 ?_
    refine z_iload_n D_x_mark_19 rfl ?_
    refine z_V1 (c0 := 10) (c_w_hasPerson hw hnp r_p) G_w_hasPerson I_w_hasPerson lk_x_128 (kw hw) ⟨by decide, rfl⟩ ⟨Nat.le_of_ble_eq_true rfl, Nat.le_of_ble_eq_true rfl⟩ (Nat.le_of_ble_eq_true rfl) D_x_mark_20 ?_
    refine z_ifneB (tgt := 29) D_x_mark_23 (by decide) (fun q23 => ?_) (fun q23 => ?_)
    · refine z_aload_n D_x_mark_29 rfl ?_
      refine z_getR (q := 25) fl_x_54 (rfl) rfl (rfl) D_x_mark_30 ?_
      refine z_iload_n D_x_mark_33 rfl ?_
      refine z_putI fl_x_238 (rfl) rfl rfl D_x_mark_34 ?_
      refine z_aload_n D_x_mark_37 rfl ?_
      refine z_getR (q := 25) fl_x_54 (rfl) rfl (rfl) D_x_mark_38 ?_
      refine z_aload_n D_x_mark_41 rfl ?_
      refine z_getR (q := 11) fl_x_29 (rfl) rfl (rfl) D_x_mark_42 ?_
      refine z_iconst D_x_mark_45 ?_
      refine z_iload_n D_x_mark_46 rfl ?_
      refine z_iadd D_x_mark_47 ?_
      refine z_V1 (c0 := 5) (c_d_value (by rw [zup_ne (by decide)]; exact hu) (by omega)) G_d_value I_d_value lk_x_131 (rfl) ⟨by decide, rfl⟩ ⟨Nat.le_of_ble_eq_true rfl, Nat.le_of_ble_eq_true rfl⟩ (Nat.le_of_ble_eq_true rfl) D_x_mark_48 ?_
      rw [nw25]
      refine z_putI fl_x_241 (rfl) rfl rfl D_x_mark_51 ?_
      refine z_aload_n D_x_mark_54 rfl ?_
      refine z_getR (q := 25) fl_x_54 (rfl) rfl (rfl) D_x_mark_55 ?_
      refine z_aload_n D_x_mark_58 rfl ?_
      refine z_iload_n D_x_mark_59 rfl ?_
      refine z_V1 (c0 := 11) (c_x_colourOf hx.z25.z25 (by rw [zup_ne (by omega), zup_ne (by omega)]; exact q23)) G_x_colourOf I_x_colourOf lk_x_138 (rfl) ⟨by decide, rfl⟩ ⟨Nat.le_of_ble_eq_true rfl, Nat.le_of_ble_eq_true rfl⟩ (Nat.le_of_ble_eq_true rfl) D_x_mark_60 ?_
      rw [nw25, nw25, px25 hw, px25 hw, zup_ne (show w ≠ 25 by omega), zup_ne (show w ≠ 25 by omega)]
      refine z_putI fl_x_244 (rfl) rfl rfl D_x_mark_63 ?_
      refine z_aload_n D_x_mark_66 rfl ?_
      refine z_getR (q := 25) fl_x_54 (rfl) rfl (rfl) D_x_mark_67 ?_
      refine z_aload_n D_x_mark_70 rfl ?_
      refine z_getR (q := 11) fl_x_29 (rfl) rfl (rfl) D_x_mark_71 ?_
      refine z_bipush (by decide) D_x_mark_74 ?_
      refine z_iload_n D_x_mark_76 rfl ?_
      refine z_iadd D_x_mark_77 ?_
      refine z_V1 (c0 := 5) (c_d_value (by rw [zup_ne (by decide), zup_ne (by decide), zup_ne (by decide)]; exact hu) (by omega)) G_d_value I_d_value lk_x_131 (rfl) ⟨by decide, rfl⟩ ⟨Nat.le_of_ble_eq_true rfl, Nat.le_of_ble_eq_true rfl⟩ (Nat.le_of_ble_eq_true rfl) D_x_mark_78 ?_
      rw [nw25, nw25, nw25]
      refine z_putI fl_x_247 (rfl) rfl rfl D_x_mark_81 ?_
      refine z_aload_n D_x_mark_84 rfl ?_
      refine z_getR (q := 25) fl_x_54 (rfl) rfl (rfl) D_x_mark_85 ?_
      refine z_aload_n D_x_mark_88 rfl ?_
      refine z_getR (q := 11) fl_x_29 (rfl) rfl (rfl) D_x_mark_89 ?_
      refine z_iconst D_x_mark_92 ?_
      refine z_V1 (c0 := 5) (c_d_value (by rw [zup_ne (by decide), zup_ne (by decide), zup_ne (by decide), zup_ne (by decide)]; exact hu) (by omega)) G_d_value I_d_value lk_x_131 (rfl) ⟨by decide, rfl⟩ ⟨Nat.le_of_ble_eq_true rfl, Nat.le_of_ble_eq_true rfl⟩ (Nat.le_of_ble_eq_true rfl) D_x_mark_93 ?_
      rw [nw25, nw25, nw25, nw25]
      refine z_putI fl_x_250 (rfl) rfl rfl D_x_mark_96 ?_
      have hok : ((0 ≤ kd ∧ kd ≤ 5) ∧ (0 ≤ p ∧ p < h w 4)) := ⟨q12, q23⟩
      have gE : ∀ b, b ≠ 25 → (zup (zup (zup (zup (zup h 25 0 p) 25 1 (nw h (4 + p))) 25 2 (col (px h w) (nw h) (h w 3) p)) 25 3 (nw h (10 + p))) 25 4 (nw h 3)) b = h b := fun b hb => by funext j; rw [zup_ne hb, zup_ne hb, zup_ne hb, zup_ne hb, zup_ne hb]
      have g0 : (zup (zup (zup (zup (zup h 25 0 p) 25 1 (nw h (4 + p))) 25 2 (col (px h w) (nw h) (h w 3) p)) 25 3 (nw h (10 + p))) 25 4 (nw h 3)) 25 0 = p := by rw [zup_nk (by decide), zup_nk (by decide), zup_nk (by decide), zup_nk (by decide), zup_same]
      have g1 : (zup (zup (zup (zup (zup h 25 0 p) 25 1 (nw h (4 + p))) 25 2 (col (px h w) (nw h) (h w 3) p)) 25 3 (nw h (10 + p))) 25 4 (nw h 3)) 25 1 = nw h (4 + p) := by rw [zup_nk (by decide), zup_nk (by decide), zup_nk (by decide), zup_same]
      have g2 : (zup (zup (zup (zup (zup h 25 0 p) 25 1 (nw h (4 + p))) 25 2 (col (px h w) (nw h) (h w 3) p)) 25 3 (nw h (10 + p))) 25 4 (nw h 3)) 25 2 = col (px h w) (nw h) (h w 3) p := by rw [zup_nk (by decide), zup_nk (by decide), zup_same]
      have g3 : (zup (zup (zup (zup (zup h 25 0 p) 25 1 (nw h (4 + p))) 25 2 (col (px h w) (nw h) (h w 3) p)) 25 3 (nw h (10 + p))) 25 4 (nw h 3)) 25 3 = nw h (10 + p) := by rw [zup_nk (by decide), zup_same]
      have g4 : (zup (zup (zup (zup (zup h 25 0 p) 25 1 (nw h (4 + p))) 25 2 (col (px h w) (nw h) (h w 3) p)) 25 3 (nw h (10 + p))) 25 4 (nw h 3)) 25 4 = nw h 3 := zup_same
      have g5 : (zup (zup (zup (zup (zup h 25 0 p) 25 1 (nw h (4 + p))) 25 2 (col (px h w) (nw h) (h w 3) p)) 25 3 (nw h (10 + p))) 25 4 (nw h 3)) 25 5 = h 25 5 := by rw [zup_nk (by decide), zup_nk (by decide), zup_nk (by decide), zup_nk (by decide), zup_nk (by decide)]
      generalize (zup (zup (zup (zup (zup h 25 0 p) 25 1 (nw h (4 + p))) 25 2 (col (px h w) (nw h) (h w 3) p)) 25 3 (nw h (10 + p))) 25 4 (nw h 3)) = g at gE g0 g1 g2 g3 g4 g5 ⊢
      rcases (show kd = 0 ∨ kd = 1 ∨ kd = 2 ∨ kd = 3 ∨ kd = 4 ∨ kd = 5 by omega) with rfl | rfl | rfl | rfl | rfl | rfl
      · refine z_aload_n D_x_mark_99 rfl ?_
        refine z_getR (q := 26) fl_x_76 (rfl) rfl (rfl) D_x_mark_100 ?_
        refine z_iload_n D_x_mark_103 rfl ?_
        refine z_aald (n := 6) (q := 27) (t := 103) (rfl) (by decide) (by omega) (rfl) D_x_mark_104 ?_
        refine z_aload_n D_x_mark_105 rfl ?_
        refine z_getR (q := 25) fl_x_54 (rfl) rfl (rfl) D_x_mark_106 ?_
        refine z_V1q (c0 := 8) c_kO_worth G_kO_worth I_kO_worth lk_x_253 rfl ⟨by decide, rfl⟩ ⟨Nat.le_of_ble_eq_true rfl, Nat.le_of_ble_eq_true rfl⟩ (Nat.le_of_ble_eq_true rfl) D_x_mark_109 (fun v9 h9 hp9 => ?_)
        obtain ⟨rfl, rfl⟩ := hp9
        show Z _ _ _ _ [vI _] _
        refine z_ireturn rfl D_x_mark_112 ⟨?_, fun q => absurd hok q, fun _ => ⟨fun b hb => ?_, ?_⟩⟩
        · rw [if_pos hok]
          simp only [g0, g1, g2, g3, g4]
          exact congrArg (fun y => some (vI y)) (by unfold mkv; omega)
        · funext j; rw [zup_ne hb, gE b hb]
        · rw [zup_same, g5]; rfl
      · refine z_aload_n D_x_mark_99 rfl ?_
        refine z_getR (q := 26) fl_x_76 (rfl) rfl (rfl) D_x_mark_100 ?_
        refine z_iload_n D_x_mark_103 rfl ?_
        refine z_aald (n := 6) (q := 28) (t := 103) (rfl) (by decide) (by omega) (rfl) D_x_mark_104 ?_
        refine z_aload_n D_x_mark_105 rfl ?_
        refine z_getR (q := 25) fl_x_54 (rfl) rfl (rfl) D_x_mark_106 ?_
        refine zg_callU (X := M_kO_worth) (av := [vR 25]) (st := []) (n := 1) (c0 := 2) (c_kB_worth (c0 := 2) (by decide) rfl (zt_t1 182 (by decide +kernel) rfl)) G_kB_worth G_kO_worth lk_x_253 (zt_t1 635 (by decide +kernel) rfl) I_kO_worth.1 (zt_t1 642 (by decide +kernel) rfl) (zt_t1 641 (by decide +kernel) rfl) (by decide) rfl rfl ⟨Nat.le_of_ble_eq_true rfl, Nat.le_of_ble_eq_true rfl⟩ rfl (Nat.le_of_ble_eq_true rfl) D_x_mark_109 (fun v9 h9 hp9 => ?_)
        obtain ⟨rfl, rfl⟩ := hp9
        show Z _ _ _ _ [vI _] _
        refine z_ireturn rfl D_x_mark_112 ⟨?_, fun q => absurd hok q, fun _ => ⟨fun b hb => ?_, ?_⟩⟩
        · rw [if_pos hok]
          simp only [g0, g1, g2, g3, g4]
          exact congrArg (fun y => some (vI y)) (by unfold mkv; omega)
        · funext j; rw [zup_ne hb, gE b hb]
        · rw [zup_same, g5]; rfl
      · refine z_aload_n D_x_mark_99 rfl ?_
        refine z_getR (q := 26) fl_x_76 (rfl) rfl (rfl) D_x_mark_100 ?_
        refine z_iload_n D_x_mark_103 rfl ?_
        refine z_aald (n := 6) (q := 29) (t := 103) (rfl) (by decide) (by omega) (rfl) D_x_mark_104 ?_
        refine z_aload_n D_x_mark_105 rfl ?_
        refine z_getR (q := 25) fl_x_54 (rfl) rfl (rfl) D_x_mark_106 ?_
        refine zg_callU (X := M_kO_worth) (av := [vR 25]) (st := []) (n := 1) (c0 := 1) (c_kE_worth (c0 := 1) (by decide) rfl (zt_t1 189 (by decide +kernel) rfl)) G_kE_worth G_kO_worth lk_x_253 (zt_t1 635 (by decide +kernel) rfl) I_kO_worth.1 (zt_t1 637 (by decide +kernel) rfl) (zt_t1 636 (by decide +kernel) rfl) (by decide) rfl rfl ⟨Nat.le_of_ble_eq_true rfl, Nat.le_of_ble_eq_true rfl⟩ rfl (Nat.le_of_ble_eq_true rfl) D_x_mark_109 (fun v9 h9 hp9 => ?_)
        obtain ⟨rfl, rfl⟩ := hp9
        show Z _ _ _ _ [vI _] _
        refine z_ireturn rfl D_x_mark_112 ⟨?_, fun q => absurd hok q, fun _ => ⟨fun b hb => ?_, ?_⟩⟩
        · rw [if_pos hok]
          simp only [g0, g1, g2, g3, g4]
          exact congrArg (fun y => some (vI y)) (by unfold mkv; omega)
        · funext j; rw [zup_ne hb, gE b hb]
        · rw [zup_same, g5]; rfl
      · refine z_aload_n D_x_mark_99 rfl ?_
        refine z_getR (q := 26) fl_x_76 (rfl) rfl (rfl) D_x_mark_100 ?_
        refine z_iload_n D_x_mark_103 rfl ?_
        refine z_aald (n := 6) (q := 30) (t := 103) (rfl) (by decide) (by omega) (rfl) D_x_mark_104 ?_
        refine z_aload_n D_x_mark_105 rfl ?_
        refine z_getR (q := 25) fl_x_54 (rfl) rfl (rfl) D_x_mark_106 ?_
        refine zg_callU (X := M_kO_worth) (av := [vR 25]) (st := []) (n := 1) (c0 := 3) (c_kC_worth (c0 := 3) (by decide) rfl (zt_t1 196 (by decide +kernel) rfl)) G_kC_worth G_kO_worth lk_x_253 (zt_t1 635 (by decide +kernel) rfl) I_kO_worth.1 (zt_t1 647 (by decide +kernel) rfl) (zt_t1 646 (by decide +kernel) rfl) (by decide) rfl rfl ⟨Nat.le_of_ble_eq_true rfl, Nat.le_of_ble_eq_true rfl⟩ rfl (Nat.le_of_ble_eq_true rfl) D_x_mark_109 (fun v9 h9 hp9 => ?_)
        obtain ⟨rfl, rfl⟩ := hp9
        show Z _ _ _ _ [vI _] _
        refine z_ireturn rfl D_x_mark_112 ⟨?_, fun q => absurd hok q, fun _ => ⟨fun b hb => ?_, ?_⟩⟩
        · rw [if_pos hok]
          simp only [g0, g1, g2, g3, g4]
          exact congrArg (fun y => some (vI y)) (by unfold mkv; omega)
        · funext j; rw [zup_ne hb, gE b hb]
        · rw [zup_same, g5]; rfl
      · refine z_aload_n D_x_mark_99 rfl ?_
        refine z_getR (q := 26) fl_x_76 (rfl) rfl (rfl) D_x_mark_100 ?_
        refine z_iload_n D_x_mark_103 rfl ?_
        refine z_aald (n := 6) (q := 31) (t := 103) (rfl) (by decide) (by omega) (rfl) D_x_mark_104 ?_
        refine z_aload_n D_x_mark_105 rfl ?_
        refine z_getR (q := 25) fl_x_54 (rfl) rfl (rfl) D_x_mark_106 ?_
        refine zg_callU (X := M_kO_worth) (av := [vR 25]) (st := []) (n := 1) (c0 := 4) (c_kD_worth (c0 := 4) (by decide) rfl (zt_t1 203 (by decide +kernel) rfl)) G_kD_worth G_kO_worth lk_x_253 (zt_t1 635 (by decide +kernel) rfl) I_kO_worth.1 (zt_t1 652 (by decide +kernel) rfl) (zt_t1 651 (by decide +kernel) rfl) (by decide) rfl rfl ⟨Nat.le_of_ble_eq_true rfl, Nat.le_of_ble_eq_true rfl⟩ rfl (Nat.le_of_ble_eq_true rfl) D_x_mark_109 (fun v9 h9 hp9 => ?_)
        obtain ⟨rfl, rfl⟩ := hp9
        show Z _ _ _ _ [vI _] _
        refine z_ireturn rfl D_x_mark_112 ⟨?_, fun q => absurd hok q, fun _ => ⟨fun b hb => ?_, ?_⟩⟩
        · rw [if_pos hok]
          simp only [g0, g1, g2, g3, g4]
          exact congrArg (fun y => some (vI y)) (by unfold mkv; omega)
        · funext j; rw [zup_ne hb, gE b hb]
        · rw [zup_same, g5]; rfl
      · refine z_aload_n D_x_mark_99 rfl ?_
        refine z_getR (q := 26) fl_x_76 (rfl) rfl (rfl) D_x_mark_100 ?_
        refine z_iload_n D_x_mark_103 rfl ?_
        refine z_aald (n := 6) (q := 32) (t := 103) (rfl) (by decide) (by omega) (rfl) D_x_mark_104 ?_
        refine z_aload_n D_x_mark_105 rfl ?_
        refine z_getR (q := 25) fl_x_54 (rfl) rfl (rfl) D_x_mark_106 ?_
        refine zg_callU (X := M_kO_worth) (av := [vR 25]) (st := []) (n := 1) (c0 := 6) (c_kG_worth (c0 := 6) (by decide) rfl (zt_t1 210 (by decide +kernel) rfl)) G_kG_worth G_kO_worth lk_x_253 (zt_t1 635 (by decide +kernel) rfl) I_kO_worth.1 (zt_t1 657 (by decide +kernel) rfl) (zt_t1 656 (by decide +kernel) rfl) (by decide) rfl rfl ⟨Nat.le_of_ble_eq_true rfl, Nat.le_of_ble_eq_true rfl⟩ rfl (Nat.le_of_ble_eq_true rfl) D_x_mark_109 (fun v9 h9 hp9 => ?_)
        obtain ⟨rfl, rfl⟩ := hp9
        show Z _ _ _ _ [vI _] _
        refine z_ireturn rfl D_x_mark_112 ⟨?_, fun q => absurd hok q, fun _ => ⟨fun b hb => ?_, ?_⟩⟩
        · rw [if_pos hok]
          simp only [g0, g1, g2, g3, g4]
          exact congrArg (fun y => some (vI y)) (by unfold mkv; omega)
        · funext j; rw [zup_ne hb, gE b hb]
        · rw [zup_same, g5]; rfl
    · refine z_ldc (-1000000) (zt_t1 631 (by decide +kernel) rfl) D_x_mark_26 ?_
      exact z_ireturn rfl D_x_mark_28 (⟨by rw [if_neg (by omega)], fun _ => rfl, fun q => absurd q (by omega)⟩)

