/-! images -/
def XKeep (h h1 : zH) (im : Int) : Prop := (∀ a, a ≠ 14 + 2 * im.toNat → a ≠ 15 + 2 * im.toNat → a ≠ 18 → h1 a = h a) ∧ h1 (14 + 2 * im.toNat) 1 = h 11 1 ∧ (∀ k, k < 572 → h1 (15 + 2 * im.toNat) k = h 12 k) ∧ ∀ j, h1 18 j = if j = im.toNat then 1 else h 18 j
def XBack (h h1 : zH) (im : Int) : Prop := (∀ a, a ≠ 11 → a ≠ 12 → h1 a = h a) ∧ h1 11 1 = h (14 + 2 * im.toNat) 1 ∧ ∀ k, k < 572 → h1 12 k = h (15 + 2 * im.toNat) k
def MKeep (h h1 : zH) (im : Int) : Prop := (∀ a, a ≠ 43 → a ≠ 44 → h1 a = h a) ∧ (∀ k : Nat, h1 43 k = if 573 * im.toNat ≤ k ∧ k < 573 * im.toNat + 573 then h 42 (k - 573 * im.toNat) else h 43 k) ∧ ∀ j, h1 44 j = if j = im.toNat then 1 else h 44 j
def MBack (h h1 : zH) (im : Int) : Prop := (∀ a, a ≠ 42 → h1 a = h a) ∧ ∀ k, k < 573 → h1 42 k = h 43 (k + 573 * im.toNat)
theorem c_d_become {h : zH} {a b a2 b2 : Nat} (ka : (zks a).1 = 5) (ra : zsr a 0 = b) (kb : zks b = (100, 572)) (ka2 : (zks a2).1 = 5) (ra2 : zsr a2 0 = b2) (kb2 : zks b2 = (100, 572)) : zC M_d_become [vR a, vR a2] h (p0 (zup (zcp h b2 b 0 0 572) a 1 (zcp h b2 b 0 0 572 a2 1))) := by
  refine zC.ofN 0 (by decide) (by first | decide | exact Nat.le_of_ble_eq_true rfl) ?_
  show Z M_d_become _ 0 [vR a, vR a2] [] h
  refine z_aload_n D_d_become_0 rfl ?_
  refine z_getR (q := b2) fl_d_11 (ka2) rfl (ra2) D_d_become_1 ?_
  refine z_iconst D_d_become_4 ?_
  refine z_aload_n D_d_become_5 rfl ?_
  refine z_getR (q := b) fl_d_11 (ka) rfl (ra) D_d_become_6 ?_
  refine z_iconst D_d_become_9 ?_
  refine z_aload_n D_d_become_10 rfl ?_
  refine z_getR (q := b) fl_d_11 (ka) rfl (ra) D_d_become_11 ?_
  refine z_alen (n := 572) (kb) (by decide) D_d_become_14 ?_
  refine z_copy (n0 := 572) (n1 := 572) (kb2) (kb) (by omega) (by omega) (by omega) (by omega) (by omega) lk_d_37 ac_native ac_static ac_init (Nat.le_of_ble_eq_true rfl) (Nat.le_of_ble_eq_true rfl) D_d_become_15 ?_
  refine z_aload_n D_d_become_18 rfl ?_
  refine z_aload_n D_d_become_19 rfl ?_
  refine z_getI fl_d_15 (ka2) rfl D_d_become_20 ?_
  refine z_putI fl_d_15 (ka) rfl rfl D_d_become_23 ?_
  exact z_return rfl D_d_become_26 (pv0 rfl)

theorem c_x_keep {h : zH} {im : Int} (hu : 0 ≤ h 11 1 ∧ h 11 1 ≤ 10) (r_im : -2147483648 ≤ im ∧ im ≤ 2147483647) : zC M_x_keep [vR 0, vI im] h (fun v h1 => v = some (vI (if 0 ≤ im ∧ im ≤ 1 then nw h 3 else -1)) ∧ (¬ (0 ≤ im ∧ im ≤ 1) → h1 = h) ∧ (0 ≤ im ∧ im ≤ 1 → XKeep h h1 im)) := by
  refine zC.ofN 0 (by decide) (by first | decide | exact Nat.le_of_ble_eq_true rfl) ?_
  show Z M_x_keep _ 0 [vR 0, vI im] [] h
  refine z_iload_n D_x_keep_0 rfl ?_
  refine z_iconst D_x_keep_1 ?_
  refine z_iconst D_x_keep_2 ?_
  refine z_S3 (c_x_isWithin r_im (by omega) (by omega)) G_x_isWithin S_x_isWithin lk_x_99 ⟨Nat.le_of_ble_eq_true rfl, Nat.le_of_ble_eq_true rfl⟩ (Nat.le_of_ble_eq_true rfl) D_x_keep_3 ?_
  refine z_ifneB (tgt := 11) D_x_keep_6 (by decide) (fun q6 => ?_) (fun q6 => ?_)
  · rcases (show im = 0 ∨ im = 1 by omega) with rfl | rfl
    · refine z_aload_n D_x_keep_11 rfl ?_
      refine z_getR (q := 13) fl_x_33 (rfl) rfl (rfl) D_x_keep_12 ?_
      refine z_iload_n D_x_keep_15 rfl ?_
      refine z_aald (n := 2) (q := 14) (t := 102) (rfl) (by decide) (by omega) (rfl) D_x_keep_16 ?_
      refine z_aload_n D_x_keep_17 rfl ?_
      refine z_getR (q := 11) fl_x_29 (rfl) rfl (rfl) D_x_keep_18 ?_
      refine z_V1v (c0 := 5) (c_d_become (a := 14) (b := 15) (a2 := 11) (b2 := 12) rfl rfl rfl rfl rfl rfl) G_d_become I_d_become lk_x_257 (rfl) ⟨by decide, rfl⟩ ⟨Nat.le_of_ble_eq_true rfl, Nat.le_of_ble_eq_true rfl⟩ (Nat.le_of_ble_eq_true rfl) D_x_keep_21 ?_
      refine z_aload_n D_x_keep_24 rfl ?_
      refine z_getR (q := 18) fl_x_37 (rfl) rfl (rfl) D_x_keep_25 ?_
      refine z_iload_n D_x_keep_28 rfl ?_
      refine z_iconst D_x_keep_29 ?_
      refine z_bast (n := 2) (rfl) (by omega) (by first | exact Or.inl rfl | exact Or.inr rfl | exact zb_01 _) D_x_keep_30 ?_
      have eu : (zup (zup (zcp h 12 15 0 0 572) 14 1 (zcp h 12 15 0 0 572 11 1)) 18 (Int.toNat 0) 1) 11 1 = h 11 1 := by rw [zup_ne (by decide), zup_ne (by decide)]; unfold zcp; rw [if_neg (by omega)]
      refine z_aload_n D_x_keep_31 rfl ?_
      refine z_getR (q := 11) fl_x_29 (rfl) rfl (rfl) D_x_keep_32 ?_
      refine z_iconst D_x_keep_35 ?_
      refine z_V1 (c0 := 5) (c_d_value (by rw [eu]; exact hu) (by omega)) G_d_value I_d_value lk_x_131 (rfl) ⟨by decide, rfl⟩ ⟨Nat.le_of_ble_eq_true rfl, Nat.le_of_ble_eq_true rfl⟩ (Nat.le_of_ble_eq_true rfl) D_x_keep_36 ?_
      refine z_ireturn rfl D_x_keep_39 ⟨?_, fun q => absurd q6 q, fun _ => ⟨fun b b0 b1 b2 => ?_, ?_, fun k hk => ?_, fun j => ?_⟩⟩
      · rw [if_pos q6]
        unfold nw
        rw [eu, zup_ne (by decide), zup_ne (by decide)]
        unfold zcp
        rw [if_neg (by omega)]
      · have b0 : b ≠ 14 := b0
        have b1 : b ≠ 15 := b1
        funext j
        rw [zup_ne b2, zup_ne b0]
        unfold zcp
        rw [if_neg (by omega)]
      · show zup _ 18 _ _ 14 1 = _
        rw [zup_ne (by decide), zup_same]
        unfold zcp
        rw [if_neg (by omega)]
      · show zup _ 18 _ _ 15 k = _
        rw [zup_ne (by decide), zup_ne (by decide)]
        unfold zcp
        rw [if_pos (by omega)]
        exact congrArg (h 12) (by omega)
      · by_cases hj : j = Int.toNat 0
        · rw [if_pos hj, hj, zup_same]
        · rw [if_neg hj, zup_nk hj, zup_ne (by decide)]
          unfold zcp
          rw [if_neg (by omega)]
    · refine z_aload_n D_x_keep_11 rfl ?_
      refine z_getR (q := 13) fl_x_33 (rfl) rfl (rfl) D_x_keep_12 ?_
      refine z_iload_n D_x_keep_15 rfl ?_
      refine z_aald (n := 2) (q := 16) (t := 102) (rfl) (by decide) (by omega) (rfl) D_x_keep_16 ?_
      refine z_aload_n D_x_keep_17 rfl ?_
      refine z_getR (q := 11) fl_x_29 (rfl) rfl (rfl) D_x_keep_18 ?_
      refine z_V1v (c0 := 5) (c_d_become (a := 16) (b := 17) (a2 := 11) (b2 := 12) rfl rfl rfl rfl rfl rfl) G_d_become I_d_become lk_x_257 (rfl) ⟨by decide, rfl⟩ ⟨Nat.le_of_ble_eq_true rfl, Nat.le_of_ble_eq_true rfl⟩ (Nat.le_of_ble_eq_true rfl) D_x_keep_21 ?_
      refine z_aload_n D_x_keep_24 rfl ?_
      refine z_getR (q := 18) fl_x_37 (rfl) rfl (rfl) D_x_keep_25 ?_
      refine z_iload_n D_x_keep_28 rfl ?_
      refine z_iconst D_x_keep_29 ?_
      refine z_bast (n := 2) (rfl) (by omega) (by first | exact Or.inl rfl | exact Or.inr rfl | exact zb_01 _) D_x_keep_30 ?_
      have eu : (zup (zup (zcp h 12 17 0 0 572) 16 1 (zcp h 12 17 0 0 572 11 1)) 18 (Int.toNat 1) 1) 11 1 = h 11 1 := by rw [zup_ne (by decide), zup_ne (by decide)]; unfold zcp; rw [if_neg (by omega)]
      refine z_aload_n D_x_keep_31 rfl ?_
      refine z_getR (q := 11) fl_x_29 (rfl) rfl (rfl) D_x_keep_32 ?_
      refine z_iconst D_x_keep_35 ?_
      refine z_V1 (c0 := 5) (c_d_value (by rw [eu]; exact hu) (by omega)) G_d_value I_d_value lk_x_131 (rfl) ⟨by decide, rfl⟩ ⟨Nat.le_of_ble_eq_true rfl, Nat.le_of_ble_eq_true rfl⟩ (Nat.le_of_ble_eq_true rfl) D_x_keep_36 ?_
      refine z_ireturn rfl D_x_keep_39 ⟨?_, fun q => absurd q6 q, fun _ => ⟨fun b b0 b1 b2 => ?_, ?_, fun k hk => ?_, fun j => ?_⟩⟩
      · rw [if_pos q6]
        unfold nw
        rw [eu, zup_ne (by decide), zup_ne (by decide)]
        unfold zcp
        rw [if_neg (by omega)]
      · have b0 : b ≠ 16 := b0
        have b1 : b ≠ 17 := b1
        funext j
        rw [zup_ne b2, zup_ne b0]
        unfold zcp
        rw [if_neg (by omega)]
      · show zup _ 18 _ _ 16 1 = _
        rw [zup_ne (by decide), zup_same]
        unfold zcp
        rw [if_neg (by omega)]
      · show zup _ 18 _ _ 17 k = _
        rw [zup_ne (by decide), zup_ne (by decide)]
        unfold zcp
        rw [if_pos (by omega)]
        exact congrArg (h 12) (by omega)
      · by_cases hj : j = Int.toNat 1
        · rw [if_pos hj, hj, zup_same]
        · rw [if_neg hj, zup_nk hj, zup_ne (by decide)]
          unfold zcp
          rw [if_neg (by omega)]
  · refine z_iconst D_x_keep_9 ?_
    exact z_ireturn rfl D_x_keep_10 (⟨by rw [if_neg q6], fun _ => rfl, fun q => absurd q q6⟩)

theorem c_x_back {h : zH} {im : Int} (hK : 0 ≤ h 18 im.toNat ∧ h 18 im.toNat ≤ 1) (hi : 0 ≤ h (14 + 2 * im.toNat) 1 ∧ h (14 + 2 * im.toNat) 1 ≤ 10) (r_im : -2147483648 ≤ im ∧ im ≤ 2147483647) : zC M_x_back [vR 0, vI im] h (fun v h1 => v = some (vI (if 0 ≤ im ∧ im ≤ 1 then (if h 18 im.toNat = 0 then -2 else nw h1 3) else -1)) ∧ (¬ ((0 ≤ im ∧ im ≤ 1) ∧ h 18 im.toNat ≠ 0) → h1 = h) ∧ ((0 ≤ im ∧ im ≤ 1) ∧ h 18 im.toNat ≠ 0 → XBack h h1 im)) := by
  refine zC.ofN 0 (by decide) (by first | decide | exact Nat.le_of_ble_eq_true rfl) ?_
  show Z M_x_back _ 0 [vR 0, vI im] [] h
  refine z_iload_n D_x_back_0 rfl ?_
  refine z_iconst D_x_back_1 ?_
  refine z_iconst D_x_back_2 ?_
  refine z_S3 (c_x_isWithin r_im (by omega) (by omega)) G_x_isWithin S_x_isWithin lk_x_99 ⟨Nat.le_of_ble_eq_true rfl, Nat.le_of_ble_eq_true rfl⟩ (Nat.le_of_ble_eq_true rfl) D_x_back_3 ?_
  refine z_ifneB (tgt := 11) D_x_back_6 (by decide) (fun q6 => ?_) (fun q6 => ?_)
  · rcases (show im = 0 ∨ im = 1 by omega) with rfl | rfl
    · refine z_aload_n D_x_back_11 rfl ?_
      refine z_getR (q := 18) fl_x_37 (rfl) rfl (rfl) D_x_back_12 ?_
      refine z_iload_n D_x_back_15 rfl ?_
      refine z_bald (n := 2) (rfl) (by omega) D_x_back_16 ?_
      have hK : 0 ≤ h 18 (Int.toNat 0) ∧ h 18 (Int.toNat 0) ≤ 1 := hK
      have hi : 0 ≤ h 14 1 ∧ h 14 1 ≤ 10 := hi
      refine z_if_ne (tgt := 23) D_x_back_17 (by decide) (by omega) (fun q17 => ?_) (fun q17 => ?_)
      · refine z_aload_n D_x_back_23 rfl ?_
        refine z_getR (q := 11) fl_x_29 (rfl) rfl (rfl) D_x_back_24 ?_
        refine z_aload_n D_x_back_27 rfl ?_
        refine z_getR (q := 13) fl_x_33 (rfl) rfl (rfl) D_x_back_28 ?_
        refine z_iload_n D_x_back_31 rfl ?_
        refine z_aald (n := 2) (q := 14) (t := 102) (rfl) (by decide) (by omega) (rfl) D_x_back_32 ?_
        refine z_V1v (c0 := 5) (c_d_become (a := 11) (b := 12) (a2 := 14) (b2 := 15) rfl rfl rfl rfl rfl rfl) G_d_become I_d_become lk_x_257 (rfl) ⟨by decide, rfl⟩ ⟨Nat.le_of_ble_eq_true rfl, Nat.le_of_ble_eq_true rfl⟩ (Nat.le_of_ble_eq_true rfl) D_x_back_33 ?_
        have eu : (zup (zcp h 15 12 0 0 572) 11 1 (zcp h 15 12 0 0 572 14 1)) 11 1 = h 14 1 := by rw [zup_same]; unfold zcp; rw [if_neg (by omega)]
        refine z_aload_n D_x_back_36 rfl ?_
        refine z_getR (q := 11) fl_x_29 (rfl) rfl (rfl) D_x_back_37 ?_
        refine z_iconst D_x_back_40 ?_
        refine z_V1 (c0 := 5) (c_d_value (by rw [eu]; exact hi) (by omega)) G_d_value I_d_value lk_x_131 (rfl) ⟨by decide, rfl⟩ ⟨Nat.le_of_ble_eq_true rfl, Nat.le_of_ble_eq_true rfl⟩ (Nat.le_of_ble_eq_true rfl) D_x_back_41 ?_
        refine z_ireturn rfl D_x_back_44 ⟨?_, fun q => absurd ⟨q6, q17⟩ q, fun _ => ⟨fun b b0 b1 => ?_, eu, fun k hk => ?_⟩⟩
        · rw [if_pos q6]
          exact congrArg (fun z => some (vI z)) (if_neg q17).symm
        · funext j
          rw [zup_ne b0]
          unfold zcp
          rw [if_neg (by omega)]
        · rw [zup_ne (by decide)]
          unfold zcp
          rw [if_pos (by omega)]
          exact congrArg (h 15) (by omega)
      · refine z_bipush (by decide) D_x_back_20 ?_
        exact z_ireturn rfl D_x_back_22 (⟨by rw [if_pos q6]; exact congrArg (fun z => some (vI z)) (if_pos q17).symm, fun _ => rfl, fun q => absurd q17 q.2⟩)
    · refine z_aload_n D_x_back_11 rfl ?_
      refine z_getR (q := 18) fl_x_37 (rfl) rfl (rfl) D_x_back_12 ?_
      refine z_iload_n D_x_back_15 rfl ?_
      refine z_bald (n := 2) (rfl) (by omega) D_x_back_16 ?_
      have hK : 0 ≤ h 18 (Int.toNat 1) ∧ h 18 (Int.toNat 1) ≤ 1 := hK
      have hi : 0 ≤ h 16 1 ∧ h 16 1 ≤ 10 := hi
      refine z_if_ne (tgt := 23) D_x_back_17 (by decide) (by omega) (fun q17 => ?_) (fun q17 => ?_)
      · refine z_aload_n D_x_back_23 rfl ?_
        refine z_getR (q := 11) fl_x_29 (rfl) rfl (rfl) D_x_back_24 ?_
        refine z_aload_n D_x_back_27 rfl ?_
        refine z_getR (q := 13) fl_x_33 (rfl) rfl (rfl) D_x_back_28 ?_
        refine z_iload_n D_x_back_31 rfl ?_
        refine z_aald (n := 2) (q := 16) (t := 102) (rfl) (by decide) (by omega) (rfl) D_x_back_32 ?_
        refine z_V1v (c0 := 5) (c_d_become (a := 11) (b := 12) (a2 := 16) (b2 := 17) rfl rfl rfl rfl rfl rfl) G_d_become I_d_become lk_x_257 (rfl) ⟨by decide, rfl⟩ ⟨Nat.le_of_ble_eq_true rfl, Nat.le_of_ble_eq_true rfl⟩ (Nat.le_of_ble_eq_true rfl) D_x_back_33 ?_
        have eu : (zup (zcp h 17 12 0 0 572) 11 1 (zcp h 17 12 0 0 572 16 1)) 11 1 = h 16 1 := by rw [zup_same]; unfold zcp; rw [if_neg (by omega)]
        refine z_aload_n D_x_back_36 rfl ?_
        refine z_getR (q := 11) fl_x_29 (rfl) rfl (rfl) D_x_back_37 ?_
        refine z_iconst D_x_back_40 ?_
        refine z_V1 (c0 := 5) (c_d_value (by rw [eu]; exact hi) (by omega)) G_d_value I_d_value lk_x_131 (rfl) ⟨by decide, rfl⟩ ⟨Nat.le_of_ble_eq_true rfl, Nat.le_of_ble_eq_true rfl⟩ (Nat.le_of_ble_eq_true rfl) D_x_back_41 ?_
        refine z_ireturn rfl D_x_back_44 ⟨?_, fun q => absurd ⟨q6, q17⟩ q, fun _ => ⟨fun b b0 b1 => ?_, eu, fun k hk => ?_⟩⟩
        · rw [if_pos q6]
          exact congrArg (fun z => some (vI z)) (if_neg q17).symm
        · funext j
          rw [zup_ne b0]
          unfold zcp
          rw [if_neg (by omega)]
        · rw [zup_ne (by decide)]
          unfold zcp
          rw [if_pos (by omega)]
          exact congrArg (h 17) (by omega)
      · refine z_bipush (by decide) D_x_back_20 ?_
        exact z_ireturn rfl D_x_back_22 (⟨by rw [if_pos q6]; exact congrArg (fun z => some (vI z)) (if_pos q17).symm, fun _ => rfl, fun q => absurd q17 q.2⟩)
  · refine z_iconst D_x_back_9 ?_
    exact z_ireturn rfl D_x_back_10 (⟨by rw [if_neg q6], fun _ => rfl, fun q => absurd q.1 q6⟩)

theorem l_m_keep {h : zH} {post : Option zV → zH → Prop} {im : Int} (him : 0 ≤ im ∧ im ≤ 1) (K : ∀ h2, (∀ a, a ≠ 43 → h2 a = h a) → (∀ k : Nat, h2 43 k = if 573 * im.toNat ≤ k ∧ k < 573 * im.toNat + 573 then h 42 (k - 573 * im.toNat) else h 43 k) → Z M_m_keep post 44 [vR 39, vI im, vI 573] [] h2) : ∀ (k : Nat) (i : Int) (h1 : zH), 0 ≤ i → i ≤ 573 → 573 - i < k → (∀ a, a ≠ 43 → h1 a = h a) → (∀ k : Nat, h1 43 k = if 573 * im.toNat ≤ k ∧ k < 573 * im.toNat + i.toNat then h 42 (k - 573 * im.toNat) else h 43 k) → Z M_m_keep post 13 [vR 39, vI im, vI i] [] h1 := by
  intro k
  induction k with
  | zero => intro i h1 h0 h2 h3; omega
  | succ k ih =>
    intro i h1 h0 h2 h3 hE hA
    refine z_iload_n D_m_keep_13 rfl ?_
    refine z_sipush (by decide) D_m_keep_14 ?_
    refine z_icmp_ge (tgt := 44) D_m_keep_17 (by decide) (by omega) (by omega) (fun q17 => ?_) (fun q17 => ?_)
    · have e9 : i = 573 := by omega
      subst e9
      exact K h1 hE hA
    · refine z_aload_n D_m_keep_20 rfl ?_
      refine z_getR (q := 43) fl_m_26 (rfl) rfl (rfl) D_m_keep_21 ?_
      refine z_sipush (by decide) D_m_keep_24 ?_
      refine z_iload_n D_m_keep_27 rfl ?_
      refine z_imul D_m_keep_28 ?_
      refine z_iload_n D_m_keep_29 rfl ?_
      refine z_iadd D_m_keep_30 ?_
      refine z_aload_n D_m_keep_31 rfl ?_
      refine z_getR (q := 42) fl_m_23 (rfl) rfl (rfl) D_m_keep_32 ?_
      refine z_iload_n D_m_keep_35 rfl ?_
      refine z_iald (n := 573) (rfl) (by omega) D_m_keep_36 ?_
      refine z_iast (n := 1146) (rfl) (by omega) D_m_keep_37 ?_
      refine z_iinc_2 D_m_keep_38 (Nat.le_of_ble_eq_true rfl) rfl ?_
      refine z_goto (tgt := 13) D_m_keep_41 (by decide) ?_
      refine ih (i + 1) _ (by omega) (by omega) (by omega) (fun a ha => by funext j; rw [zup_ne ha, hE a ha]) (fun j => ?_)
      by_cases hj : j = (573 * im + i).toNat
      · rw [hj, zup_same, if_pos (by omega), hE 42 (by decide)]
        exact congrArg (h 42) (by omega)
      · rw [zup_nk hj, hA]
        by_cases hq : 573 * im.toNat ≤ j ∧ j < 573 * im.toNat + i.toNat
        · rw [if_pos hq, if_pos (by omega)]
        · rw [if_neg hq, if_neg (by omega)]
theorem c_m_keep {h : zH} {im : Int} (r_im : -2147483648 ≤ im ∧ im ≤ 2147483647) : zC M_m_keep [vR 39, vI im] h (fun v h1 => v = some (vI (if 0 ≤ im ∧ im ≤ 1 then nm h 3 else -1)) ∧ (¬ (0 ≤ im ∧ im ≤ 1) → h1 = h) ∧ (0 ≤ im ∧ im ≤ 1 → MKeep h h1 im)) := by
  refine zC.ofN 1 (by decide) (by first | decide | exact Nat.le_of_ble_eq_true rfl) ?_
  show Z M_m_keep _ 0 [vR 39, vI im, vU] [] h
  refine z_iload_n D_m_keep_0 rfl ?_
  refine z_iconst D_m_keep_1 ?_
  refine z_iconst D_m_keep_2 ?_
  refine z_S3 (c_m_in r_im (by omega) (by omega)) G_m_in S_m_in lk_m_69 ⟨Nat.le_of_ble_eq_true rfl, Nat.le_of_ble_eq_true rfl⟩ (Nat.le_of_ble_eq_true rfl) D_m_keep_3 ?_
  refine z_ifneB (tgt := 11) D_m_keep_6 (by decide) (fun q6 => ?_) (fun q6 => ?_)
  · refine z_iconst D_m_keep_11 ?_
    refine z_istore_2 D_m_keep_12 (Nat.le_of_ble_eq_true rfl) rfl ?_
    refine l_m_keep q6 (fun h3 hE3 hA3 => ?_) (574 : Nat) 0 h (by omega) (by omega) (by omega) (fun a ha => rfl) (fun k => by rw [if_neg (by omega)])
    refine z_aload_n D_m_keep_44 rfl ?_
    refine z_getR (q := 44) fl_m_29 (rfl) rfl (rfl) D_m_keep_45 ?_
    refine z_iload_n D_m_keep_48 rfl ?_
    refine z_iconst D_m_keep_49 ?_
    refine z_bast (n := 2) (rfl) (by omega) (by first | exact Or.inl rfl | exact Or.inr rfl | exact zb_01 _) D_m_keep_50 ?_
    refine z_aload_n D_m_keep_51 rfl ?_
    refine z_getR (q := 42) fl_m_23 (rfl) rfl (rfl) D_m_keep_52 ?_
    refine z_iconst D_m_keep_55 ?_
    refine z_iald (n := 573) (rfl) (by omega) D_m_keep_56 ?_
    refine z_ireturn rfl D_m_keep_57 ⟨?_, fun q => absurd q6 q, fun _ => ⟨fun a a0 a1 => ?_, fun k => ?_, fun j => ?_⟩⟩
    · rw [if_pos q6, zup_ne (by decide), hE3 42 (by decide)]
      rfl
    · funext j
      rw [zup_ne a1, hE3 a a0]
    · rw [zup_ne (by decide)]
      exact hA3 k
    · by_cases hj : j = im.toNat
      · rw [if_pos hj, hj, zup_same]
      · rw [if_neg hj, zup_nk hj, hE3 44 (by decide)]
  · refine z_iconst D_m_keep_9 ?_
    exact z_ireturn rfl D_m_keep_10 (⟨by rw [if_neg q6], fun _ => rfl, fun q => absurd q q6⟩)

theorem l_m_back {h : zH} {post : Option zV → zH → Prop} {im : Int} (him : 0 ≤ im ∧ im ≤ 1) (K : ∀ h2, (∀ a, a ≠ 42 → h2 a = h a) → (∀ k : Nat, h2 42 k = if k < 573 then h 43 (k + 573 * im.toNat) else h 42 k) → Z M_m_back post 56 [vR 39, vI im, vI 573] [] h2) : ∀ (k : Nat) (i : Int) (h1 : zH), 0 ≤ i → i ≤ 573 → 573 - i < k → (∀ a, a ≠ 42 → h1 a = h a) → (∀ k : Nat, h1 42 k = if k < i.toNat then h 43 (k + 573 * im.toNat) else h 42 k) → Z M_m_back post 25 [vR 39, vI im, vI i] [] h1 := by
  intro k
  induction k with
  | zero => intro i h1 h0 h2 h3; omega
  | succ k ih =>
    intro i h1 h0 h2 h3 hE hA
    refine z_iload_n D_m_back_25 rfl ?_
    refine z_sipush (by decide) D_m_back_26 ?_
    refine z_icmp_ge (tgt := 56) D_m_back_29 (by decide) (by omega) (by omega) (fun q29 => ?_) (fun q29 => ?_)
    · have e9 : i = 573 := by omega
      subst e9
      exact K h1 hE hA
    · refine z_aload_n D_m_back_32 rfl ?_
      refine z_getR (q := 42) fl_m_23 (rfl) rfl (rfl) D_m_back_33 ?_
      refine z_iload_n D_m_back_36 rfl ?_
      refine z_aload_n D_m_back_37 rfl ?_
      refine z_getR (q := 43) fl_m_26 (rfl) rfl (rfl) D_m_back_38 ?_
      refine z_sipush (by decide) D_m_back_41 ?_
      refine z_iload_n D_m_back_44 rfl ?_
      refine z_imul D_m_back_45 ?_
      refine z_iload_n D_m_back_46 rfl ?_
      refine z_iadd D_m_back_47 ?_
      refine z_iald (n := 1146) (rfl) (by omega) D_m_back_48 ?_
      refine z_iast (n := 573) (rfl) (by omega) D_m_back_49 ?_
      refine z_iinc_2 D_m_back_50 (Nat.le_of_ble_eq_true rfl) rfl ?_
      refine z_goto (tgt := 25) D_m_back_53 (by decide) ?_
      refine ih (i + 1) _ (by omega) (by omega) (by omega) (fun a ha => by funext j; rw [zup_ne ha, hE a ha]) (fun j => ?_)
      by_cases hj : j = i.toNat
      · rw [hj, zup_same, if_pos (by omega), hE 43 (by decide)]
        exact congrArg (h 43) (by omega)
      · rw [zup_nk hj, hA]
        by_cases hq : j < i.toNat
        · rw [if_pos hq, if_pos (by omega)]
        · rw [if_neg hq, if_neg (by omega)]
theorem c_m_back {h : zH} {im : Int} (hK : 0 ≤ h 44 im.toNat ∧ h 44 im.toNat ≤ 1) (r_im : -2147483648 ≤ im ∧ im ≤ 2147483647) : zC M_m_back [vR 39, vI im] h (fun v h1 => v = some (vI (if 0 ≤ im ∧ im ≤ 1 then (if h 44 im.toNat = 0 then -2 else nm h1 3) else -1)) ∧ (¬ ((0 ≤ im ∧ im ≤ 1) ∧ h 44 im.toNat ≠ 0) → h1 = h) ∧ ((0 ≤ im ∧ im ≤ 1) ∧ h 44 im.toNat ≠ 0 → MBack h h1 im)) := by
  refine zC.ofN 1 (by decide) (by first | decide | exact Nat.le_of_ble_eq_true rfl) ?_
  show Z M_m_back _ 0 [vR 39, vI im, vU] [] h
  refine z_iload_n D_m_back_0 rfl ?_
  refine z_iconst D_m_back_1 ?_
  refine z_iconst D_m_back_2 ?_
  refine z_S3 (c_m_in r_im (by omega) (by omega)) G_m_in S_m_in lk_m_69 ⟨Nat.le_of_ble_eq_true rfl, Nat.le_of_ble_eq_true rfl⟩ (Nat.le_of_ble_eq_true rfl) D_m_back_3 ?_
  refine z_ifneB (tgt := 11) D_m_back_6 (by decide) (fun q6 => ?_) (fun q6 => ?_)
  · refine z_aload_n D_m_back_11 rfl ?_
    refine z_getR (q := 44) fl_m_29 (rfl) rfl (rfl) D_m_back_12 ?_
    refine z_iload_n D_m_back_15 rfl ?_
    refine z_bald (n := 2) (rfl) (by omega) D_m_back_16 ?_
    refine z_if_ne (tgt := 23) D_m_back_17 (by decide) (by omega) (fun q17 => ?_) (fun q17 => ?_)
    · refine z_iconst D_m_back_23 ?_
      refine z_istore_2 D_m_back_24 (Nat.le_of_ble_eq_true rfl) rfl ?_
      refine l_m_back q6 (fun h3 hE3 hA3 => ?_) (574 : Nat) 0 h (by omega) (by omega) (by omega) (fun a ha => rfl) (fun k => by rw [if_neg (by omega)])
      refine z_aload_n D_m_back_56 rfl ?_
      refine z_getR (q := 42) fl_m_23 (rfl) rfl (rfl) D_m_back_57 ?_
      refine z_iconst D_m_back_60 ?_
      refine z_iald (n := 573) (rfl) (by omega) D_m_back_61 ?_
      refine z_ireturn rfl D_m_back_62 ⟨?_, fun q => absurd ⟨q6, q17⟩ q, fun _ => ⟨fun a a0 => ?_, fun k hk => ?_⟩⟩
      · rw [if_pos q6, if_neg q17]
        rfl
      · exact hE3 a a0
      · rw [hA3, if_pos hk]
    · refine z_bipush (by decide) D_m_back_20 ?_
      exact z_ireturn rfl D_m_back_22 (⟨by rw [if_pos q6, if_pos q17], fun _ => rfl, fun q => absurd q17 q.2⟩)
  · refine z_iconst D_m_back_9 ?_
    exact z_ireturn rfl D_m_back_10 (⟨by rw [if_neg q6], fun _ => rfl, fun q => absurd q.1 q6⟩)

