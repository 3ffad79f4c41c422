/-! mark of the other side -/
theorem c_m_mark {h : zH} {kd p : Int} (hm : MI h) (r_kd : -2147483648 ≤ kd ∧ kd ≤ 2147483647) (r_p : -2147483648 ≤ p ∧ p ≤ 2147483647) : zC M_m_mark [vR 39, vI kd, vI p] h (fun v h1 => v = some (vI (if ((0 ≤ kd ∧ kd ≤ 5) ∧ (0 ≤ p ∧ p < h 39 4)) then mkv kd (col (pm h) (nm h) (h 39 0) p) (nm h (10 + p)) (nm h (4 + p)) p (nm h 3) else -1000000)) ∧ (¬ ((0 ≤ kd ∧ kd ≤ 5) ∧ (0 ≤ p ∧ p < h 39 4)) → h1 = h) ∧ (((0 ≤ kd ∧ kd ≤ 5) ∧ (0 ≤ p ∧ p < h 39 4)) → (∀ b, b ≠ 39 → h1 b = h b) ∧ (∀ j, j ≠ 13 → h1 39 j = h 39 j) ∧ h1 39 13 = h 39 13 + mki kd)) := by
  refine zC.ofN 3 (by decide) (by first | decide | exact Nat.le_of_ble_eq_true rfl) ?_
  show Z M_m_mark _ 0 [vR 39, vI kd, vI p, vU, vU, vU] [] h
  have hn := hm.hn
  have hnp := hm.hnp
  refine z_iload_n D_m_mark_0 rfl ?_
  refine z_iconst D_m_mark_1 ?_
  refine z_iconst D_m_mark_2 ?_
  refine z_S3 (c_m_in r_kd (by omega) (by omega)) G_m_in S_m_in lk_m_69 ⟨Nat.le_of_ble_eq_true rfl, Nat.le_of_ble_eq_true rfl⟩ (Nat.le_of_ble_eq_true rfl) D_m_mark_3 ?_
  refine z_ifeqB (tgt := 17) D_m_mark_6 (by decide) (fun q6 => ?_) (fun q6 => ?_)
  · refine z_ldc (-1000000) (zt_t1 1041 (by decide +kernel) rfl) D_m_mark_17 ?_
    exact z_ireturn rfl D_m_mark_19 (⟨by rw [if_neg (by omega)], fun _ => rfl, fun q => absurd q (by omega)⟩)
  · refine z_aload_n D_m_mark_9 rfl ?_
    refine z_iload_n D_m_mark_10 rfl ?_
    refine z_V1 (c0 := 12) (c_m_isOne (by omega) r_p) G_m_isOne I_m_isOne lk_m_152 (rfl) ⟨by decide, rfl⟩ ⟨Nat.le_of_ble_eq_true rfl, Nat.le_of_ble_eq_true rfl⟩ (Nat.le_of_ble_eq_true rfl) D_m_mark_11 ?_
    refine z_ifneB (tgt := 20) D_m_mark_14 (by decide) (fun q14 => ?_) (fun q14 => ?_)
    · have hok : ((0 ≤ kd ∧ kd ≤ 5) ∧ (0 ≤ p ∧ p < h 39 4)) := ⟨q6, q14⟩
      refine z_aload_n D_m_mark_20 rfl ?_
      refine z_iload_n D_m_mark_21 rfl ?_
      refine z_V1 (c0 := 12) (c_m_standsIn hm q14) G_m_standsIn I_m_standsIn lk_m_155 (rfl) ⟨by decide, rfl⟩ ⟨Nat.le_of_ble_eq_true rfl, Nat.le_of_ble_eq_true rfl⟩ (Nat.le_of_ble_eq_true rfl) D_m_mark_22 ?_
      refine z_istore_3 D_m_mark_25 (Nat.le_of_ble_eq_true rfl) rfl ?_
      refine z_iload_n D_m_mark_26 rfl ?_
      refine z_aload_n D_m_mark_27 rfl ?_
      refine z_getR (q := 42) fl_m_23 (rfl) rfl (rfl) D_m_mark_28 ?_
      refine z_bipush (by decide) D_m_mark_31 ?_
      refine z_iload_n D_m_mark_33 rfl ?_
      refine z_iadd D_m_mark_34 ?_
      refine z_iald (n := 573) (rfl) (by omega) D_m_mark_35 ?_
      rw [nmE (h := h) (c := 10 + p) rfl]
      refine z_iadd D_m_mark_36 ?_
      refine z_istore_4 D_m_mark_37 (Nat.le_of_ble_eq_true rfl) rfl ?_
      refine z_iload_n D_m_mark_39 rfl ?_
      refine z_aload_n D_m_mark_40 rfl ?_
      refine z_getR (q := 42) fl_m_23 (rfl) rfl (rfl) D_m_mark_41 ?_
      refine z_iconst D_m_mark_44 ?_
      refine z_iload_n D_m_mark_45 rfl ?_
      refine z_iadd D_m_mark_46 ?_
      refine z_iald (n := 573) (rfl) (by omega) D_m_mark_47 ?_
      rw [nmE (h := h) (c := 4 + p) rfl]
      refine z_isub D_m_mark_48 ?_
      refine z_istore_5 D_m_mark_49 (Nat.le_of_ble_eq_true rfl) rfl ?_
      refine z_iload_n D_m_mark_51 rfl ?_
      by_cases s52_1 : kd = 1
      · subst s52_1
        refine z_tabIn (tgt := 88) (off := 36) D_m_mark_52 (by omega) (by omega) (by omega) rfl (by decide) ?_
        refine z_aload_n D_m_mark_88 rfl ?_
        refine z_dup rfl D_m_mark_89 ?_
        refine z_getL fl_m_231 (rfl) rfl D_m_mark_90 ?_
        refine z_ldc2 11 (zt_t1 1042 (by decide +kernel) rfl) D_m_mark_93 ?_
        refine z_ladd D_m_mark_96 ?_
        refine z_putL fl_m_231 (rfl) rfl rfl D_m_mark_97 ?_
        refine z_iload D_m_mark_100 rfl ?_
        exact z_ireturn rfl D_m_mark_102 (⟨by rw [if_pos hok]; exact congrArg (fun y => some (vI y)) (by unfold mkv; omega), fun q => absurd hok q, fun _ => ⟨fun b hb => by funext j; rw [zup_ne hb], fun j hj => by rw [zup_nk hj], by rw [zup_same]; unfold mki; omega⟩⟩)
      by_cases s52_2 : kd = 2
      · subst s52_2
        refine z_tabIn (tgt := 103) (off := 51) D_m_mark_52 (by omega) (by omega) (by omega) rfl (by decide) ?_
        refine z_aload_n D_m_mark_103 rfl ?_
        refine z_dup rfl D_m_mark_104 ?_
        refine z_getL fl_m_231 (rfl) rfl D_m_mark_105 ?_
        refine z_ldc2 101 (zt_t1 1043 (by decide +kernel) rfl) D_m_mark_108 ?_
        refine z_ladd D_m_mark_111 ?_
        refine z_putL fl_m_231 (rfl) rfl rfl D_m_mark_112 ?_
        refine z_iload D_m_mark_115 rfl ?_
        exact z_ireturn rfl D_m_mark_117 (⟨by rw [if_pos hok]; exact congrArg (fun y => some (vI y)) (by unfold mkv; omega), fun q => absurd hok q, fun _ => ⟨fun b hb => by funext j; rw [zup_ne hb], fun j hj => by rw [zup_nk hj], by rw [zup_same]; unfold mki; omega⟩⟩)
      by_cases s52_3 : kd = 3
      · subst s52_3
        refine z_tabIn (tgt := 118) (off := 66) D_m_mark_52 (by omega) (by omega) (by omega) rfl (by decide) ?_
        refine z_aload_n D_m_mark_118 rfl ?_
        refine z_dup rfl D_m_mark_119 ?_
        refine z_getL fl_m_231 (rfl) rfl D_m_mark_120 ?_
        refine z_ldc2 1011 (zt_t1 1044 (by decide +kernel) rfl) D_m_mark_123 ?_
        refine z_ladd D_m_mark_126 ?_
        refine z_putL fl_m_231 (rfl) rfl rfl D_m_mark_127 ?_
        refine z_iconst D_m_mark_130 ?_
        refine z_iload D_m_mark_131 rfl ?_
        refine z_imul D_m_mark_133 ?_
        exact z_ireturn rfl D_m_mark_134 (⟨by rw [if_pos hok]; exact congrArg (fun y => some (vI y)) (by unfold mkv; omega), fun q => absurd hok q, fun _ => ⟨fun b hb => by funext j; rw [zup_ne hb], fun j hj => by rw [zup_nk hj], by rw [zup_same]; unfold mki; omega⟩⟩)
      by_cases s52_4 : kd = 4
      · subst s52_4
        refine z_tabIn (tgt := 135) (off := 83) D_m_mark_52 (by omega) (by omega) (by omega) rfl (by decide) ?_
        refine z_aload_n D_m_mark_135 rfl ?_
        refine z_dup rfl D_m_mark_136 ?_
        refine z_getL fl_m_231 (rfl) rfl D_m_mark_137 ?_
        refine z_ldc2 10101 (zt_t1 1045 (by decide +kernel) rfl) D_m_mark_140 ?_
        refine z_ladd D_m_mark_143 ?_
        refine z_putL fl_m_231 (rfl) rfl rfl D_m_mark_144 ?_
        refine z_iload D_m_mark_147 rfl ?_
        refine z_iload_n D_m_mark_149 rfl ?_
        refine z_iadd D_m_mark_150 ?_
        exact z_ireturn rfl D_m_mark_151 (⟨by rw [if_pos hok]; exact congrArg (fun y => some (vI y)) (by unfold mkv; omega), fun q => absurd hok q, fun _ => ⟨fun b hb => by funext j; rw [zup_ne hb], fun j hj => by rw [zup_nk hj], by rw [zup_same]; unfold mki; omega⟩⟩)
      by_cases s52_5 : kd = 5
      · subst s52_5
        refine z_tabIn (tgt := 152) (off := 100) D_m_mark_52 (by omega) (by omega) (by omega) rfl (by decide) ?_
        refine z_aload_n D_m_mark_152 rfl ?_
        refine z_dup rfl D_m_mark_153 ?_
        refine z_getL fl_m_231 (rfl) rfl D_m_mark_154 ?_
        refine z_ldc2 100001 (zt_t1 1046 (by decide +kernel) rfl) D_m_mark_157 ?_
        refine z_ladd D_m_mark_160 ?_
        refine z_putL fl_m_231 (rfl) rfl rfl D_m_mark_161 ?_
        refine z_iload_n D_m_mark_164 rfl ?_
        refine z_aload_n D_m_mark_165 rfl ?_
        refine z_getR (q := 42) fl_m_23 (rfl) rfl (rfl) D_m_mark_166 ?_
        refine z_iconst D_m_mark_169 ?_
        refine z_iald (n := 573) (rfl) (by omega) D_m_mark_170 ?_
        rw [zup_ne (by decide), nmE (h := h) (c := 3) rfl]
        refine z_iadd D_m_mark_171 ?_
        exact z_ireturn rfl D_m_mark_172 (⟨by rw [if_pos hok]; exact congrArg (fun y => some (vI y)) (by unfold mkv; omega), fun q => absurd hok q, fun _ => ⟨fun b hb => by funext j; rw [zup_ne hb], fun j hj => by rw [zup_nk hj], by rw [zup_same]; unfold mki; omega⟩⟩)
      refine z_tabOut (tgt := 173) D_m_mark_52 (by omega) (by omega) (by decide) ?_
      refine z_aload_n D_m_mark_173 rfl ?_
      refine z_dup rfl D_m_mark_174 ?_
      refine z_getL fl_m_231 (rfl) rfl D_m_mark_175 ?_
      refine z_lconst1 D_m_mark_178 ?_
      refine z_ladd D_m_mark_179 ?_
      refine z_putL fl_m_231 (rfl) rfl rfl D_m_mark_180 ?_
      refine z_iload_n D_m_mark_183 rfl ?_
      exact z_ireturn rfl D_m_mark_184 (⟨by rw [if_pos hok]; exact congrArg (fun y => some (vI y)) (by unfold mkv; omega), fun q => absurd hok q, fun _ => ⟨fun b hb => by funext j; rw [zup_ne hb], fun j hj => by rw [zup_nk hj], by rw [zup_same]; unfold mki; omega⟩⟩)
    · refine z_ldc (-1000000) (zt_t1 1041 (by decide +kernel) rfl) D_m_mark_17 ?_
      exact z_ireturn rfl D_m_mark_19 (⟨by rw [if_neg (by omega)], fun _ => rfl, fun q => absurd q (by omega)⟩)

