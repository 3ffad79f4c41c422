/-! text, clicks, stops, shades, speeds -/
theorem zup_ne {h : zH} {a b k j : Nat} {x : Int} (hb : b ≠ a) : zup h a k x b j = h b j := zup_other (fun q => hb q.1)
theorem zup_nk {h : zH} {a b k j : Nat} {x : Int} (hj : j ≠ k) : zup h a k x b j = h b j := zup_other (fun q => hj q.2)
def iter {α : Type} (f : Int → α → α) (a : α) : Nat → α
  | 0 => a
  | m + 1 => f m (iter f a m)
theorem iter_1 {α : Type} {f : Int → α → α} {a : α} {i : Int} (h : 0 ≤ i) : iter f a (i + 1).toNat = f i (iter f a i.toNat) := by rw [tn1 h]; simp only [iter, tn h]
theorem iter_inv {α : Type} {f : Int → α → α} {a : α} (I : α → Prop) (h0 : I a) (h1 : ∀ (i : Int) (s : α), 0 ≤ i → I s → I (f i s)) : ∀ m : Nat, I (iter f a m)
  | 0 => h0
  | m + 1 => h1 m _ (by omega) (iter_inv I h0 h1 m)
theorem c_t_add {h : zH} {c : Int} (hT : 0 ≤ h 1 1 ∧ h 1 1 ≤ 150) : zC M_t_add [vR 1, vI c] h (pV (vI (zb (h 1 1 < 150))) (if h 1 1 < 150 then zup (zup h 2 (h 1 1).toNat c) 1 1 (h 1 1 + 1) else h)) := by
  refine zC.ofN 0 (by decide) (by first | decide | exact Nat.le_of_ble_eq_true rfl) ?_
  show Z M_t_add _ 0 [vR 1, vI c] [] h
  refine z_aload_n D_t_add_0 rfl ?_
  refine z_getI fl_t_15 (rfl) rfl D_t_add_1 ?_
  refine z_aload_n D_t_add_4 rfl ?_
  refine z_getR (q := 2) fl_t_9 (rfl) rfl (rfl) D_t_add_5 ?_
  refine z_alen (n := 150) (rfl) (by decide) D_t_add_8 ?_
  refine z_icmp_lt (tgt := 14) D_t_add_9 (by decide) (by omega) (by omega) (fun q9 => ?_) (fun q9 => ?_)
  · refine z_aload_n D_t_add_14 rfl ?_
    refine z_getR (q := 2) fl_t_9 (rfl) rfl (rfl) D_t_add_15 ?_
    refine z_aload_n D_t_add_18 rfl ?_
    refine z_getI fl_t_15 (rfl) rfl D_t_add_19 ?_
    refine z_iload_n D_t_add_22 rfl ?_
    refine z_iast (n := 150) (rfl) (by omega) D_t_add_23 ?_
    refine z_aload_n D_t_add_24 rfl ?_
    refine z_dup rfl D_t_add_25 ?_
    refine z_getI fl_t_15 (rfl) rfl D_t_add_26 ?_
    refine z_iconst D_t_add_29 ?_
    refine z_iadd D_t_add_30 ?_
    rw [zup_ne (show (1 : Nat) ≠ 2 by decide)]
    refine z_putI fl_t_15 (rfl) rfl rfl D_t_add_31 ?_
    refine z_iconst D_t_add_34 ?_
    exact z_zreturn rfl (by first | exact Or.inl rfl | exact Or.inr rfl | exact zb_01 _) D_t_add_35 (pvI (zb_t (by omega)).symm (if_pos (by omega)).symm)
  · refine z_iconst D_t_add_12 ?_
    exact z_zreturn rfl (by first | exact Or.inl rfl | exact Or.inr rfl | exact zb_01 _) D_t_add_13 (pvI (zb_f (by omega)).symm (if_neg (by omega)).symm)

theorem c_x_type {h : zH} {c : Int} (hT : 0 ≤ h 1 1 ∧ h 1 1 ≤ 150) (r_c : -2147483648 ≤ c ∧ c ≤ 2147483647) : zC M_x_type [vR 0, vI c] h (pV (vI (if 0 ≤ c ∧ c ≤ 255 then (if h 1 1 < 150 then h 1 1 + 1 else -3) else -1)) (if (0 ≤ c ∧ c ≤ 255) ∧ h 1 1 < 150 then zup (zup h 2 (h 1 1).toNat c) 1 1 (h 1 1 + 1) else h)) := by
  refine zC.ofN 0 (by decide) (by first | decide | exact Nat.le_of_ble_eq_true rfl) ?_
  show Z M_x_type _ 0 [vR 0, vI c] [] h
  refine z_iload_n D_x_type_0 rfl ?_
  refine z_iconst D_x_type_1 ?_
  refine z_sipush (by decide) D_x_type_2 ?_
  refine z_S3 (c_x_isWithin r_c (by omega) (by omega)) G_x_isWithin S_x_isWithin lk_x_99 ⟨Nat.le_of_ble_eq_true rfl, Nat.le_of_ble_eq_true rfl⟩ (Nat.le_of_ble_eq_true rfl) D_x_type_5 ?_
  refine z_ifneB (tgt := 13) D_x_type_8 (by decide) (fun q8 => ?_) (fun q8 => ?_)
  · refine z_aload_n D_x_type_13 rfl ?_
    refine z_getR (q := 1) fl_x_10 (rfl) rfl (rfl) D_x_type_14 ?_
    refine z_iload_n D_x_type_17 rfl ?_
    refine z_V1 (c0 := 9) (c_t_add hT) G_t_add I_t_add lk_x_103 (rfl) ⟨by decide, rfl⟩ ⟨Nat.le_of_ble_eq_true rfl, Nat.le_of_ble_eq_true rfl⟩ (Nat.le_of_ble_eq_true rfl) D_x_type_18 ?_
    refine z_ifeqB (tgt := 34) D_x_type_21 (by decide) (fun q21 => ?_) (fun q21 => ?_)
    · rw [if_neg q21]
      refine z_bipush (by decide) D_x_type_34 ?_
      exact z_ireturn rfl D_x_type_36 (pvI (by (try rw [zup_same]); (repeat' split) <;> first | rfl | omega | (exfalso; omega)) (by (repeat' split) <;> first | rfl | omega | (exfalso; omega)))
    · rw [if_pos q21]
      refine z_aload_n D_x_type_24 rfl ?_
      refine z_getR (q := 1) fl_x_10 (rfl) rfl (rfl) D_x_type_25 ?_
      refine z_getI fl_x_107 (rfl) rfl D_x_type_28 ?_
      refine z_goto (tgt := 36) D_x_type_31 (by decide) ?_
      exact z_ireturn rfl D_x_type_36 (pvI (by (try rw [zup_same]); (repeat' split) <;> first | rfl | omega | (exfalso; omega)) (by (repeat' split) <;> first | rfl | omega | (exfalso; omega)))
  · refine z_iconst D_x_type_11 ?_
    exact z_ireturn rfl D_x_type_12 (pvI (by (repeat' split) <;> first | rfl | omega | (exfalso; omega)) (by (repeat' split) <;> first | rfl | omega | (exfalso; omega)))

theorem c_m_type {h : zH} {c : Int} (hT : 0 ≤ h 39 15 ∧ h 39 15 ≤ 150) (r_c : -2147483648 ≤ c ∧ c ≤ 2147483647) : zC M_m_type [vR 39, vI c] h (pV (vI (if 0 ≤ c ∧ c ≤ 255 then (if h 39 15 < 150 then h 39 15 + 1 else -3) else -1)) (if (0 ≤ c ∧ c ≤ 255) ∧ h 39 15 < 150 then zup (zup h 47 (h 39 15).toNat c) 39 15 (h 39 15 + 1) else h)) := by
  refine zC.ofN 0 (by decide) (by first | decide | exact Nat.le_of_ble_eq_true rfl) ?_
  show Z M_m_type _ 0 [vR 39, vI c] [] h
  refine z_iload_n D_m_type_0 rfl ?_
  refine z_iconst D_m_type_1 ?_
  refine z_sipush (by decide) D_m_type_2 ?_
  refine z_S3 (c_m_in r_c (by omega) (by omega)) G_m_in S_m_in lk_m_69 ⟨Nat.le_of_ble_eq_true rfl, Nat.le_of_ble_eq_true rfl⟩ (Nat.le_of_ble_eq_true rfl) D_m_type_5 ?_
  refine z_ifneB (tgt := 13) D_m_type_8 (by decide) (fun q8 => ?_) (fun q8 => ?_)
  · refine z_aload_n D_m_type_13 rfl ?_
    refine z_getI fl_m_76 (rfl) rfl D_m_type_14 ?_
    refine z_sipush (by decide) D_m_type_17 ?_
    refine z_icmp_ne (tgt := 26) D_m_type_20 (by decide) (by omega) (by omega) (fun q20 => ?_) (fun q20 => ?_)
    · refine z_aload_n D_m_type_26 rfl ?_
      refine z_getR (q := 47) fl_m_39 (rfl) rfl (rfl) D_m_type_27 ?_
      refine z_aload_n D_m_type_30 rfl ?_
      refine z_getI fl_m_76 (rfl) rfl D_m_type_31 ?_
      refine z_iload_n D_m_type_34 rfl ?_
      refine z_iast (n := 150) (rfl) (by omega) D_m_type_35 ?_
      refine z_aload_n D_m_type_36 rfl ?_
      refine z_dup rfl D_m_type_37 ?_
      refine z_getI fl_m_76 (rfl) rfl D_m_type_38 ?_
      refine z_iconst D_m_type_41 ?_
      refine z_iadd D_m_type_42 ?_
      rw [zup_ne (show (39 : Nat) ≠ 47 by decide)]
      refine z_putI fl_m_76 (rfl) rfl rfl D_m_type_43 ?_
      refine z_aload_n D_m_type_46 rfl ?_
      refine z_getI fl_m_76 (rfl) rfl D_m_type_47 ?_
      exact z_ireturn rfl D_m_type_50 (pvI (by rw [zup_same, if_pos q8, if_pos (by omega)]) (by rw [if_pos ⟨q8, by omega⟩]))
    · refine z_bipush (by decide) D_m_type_23 ?_
      exact z_ireturn rfl D_m_type_25 (pvI (by (repeat' split) <;> first | rfl | omega | (exfalso; omega)) (by (repeat' split) <;> first | rfl | omega | (exfalso; omega)))
  · refine z_iconst D_m_type_11 ?_
    exact z_ireturn rfl D_m_type_12 (pvI (by (repeat' split) <;> first | rfl | omega | (exfalso; omega)) (by (repeat' split) <;> first | rfl | omega | (exfalso; omega)))

theorem c_x_clear {h : zH}   : zC M_x_clear [vR 0] h (pV (vI (h 1 1)) (zup h 1 1 0)) := by
  refine zC.ofN 1 (by decide) (by first | decide | exact Nat.le_of_ble_eq_true rfl) ?_
  show Z M_x_clear _ 0 [vR 0, vU] [] h
  refine z_aload_n D_x_clear_0 rfl ?_
  refine z_getR (q := 1) fl_x_10 (rfl) rfl (rfl) D_x_clear_1 ?_
  refine z_getI fl_x_107 (rfl) rfl D_x_clear_4 ?_
  refine z_istore_1 D_x_clear_7 (Nat.le_of_ble_eq_true rfl) rfl ?_
  refine z_aload_n D_x_clear_8 rfl ?_
  refine z_getR (q := 1) fl_x_10 (rfl) rfl (rfl) D_x_clear_9 ?_
  refine z_iconst D_x_clear_12 ?_
  refine z_putI fl_x_107 (rfl) rfl rfl D_x_clear_13 ?_
  refine z_iload_n D_x_clear_16 rfl ?_
  exact z_ireturn rfl D_x_clear_17 (pvI rfl rfl)

theorem c_m_clear {h : zH}   : zC M_m_clear [vR 39] h (pV (vI (h 39 15)) (zup h 39 15 0)) := by
  refine zC.ofN 1 (by decide) (by first | decide | exact Nat.le_of_ble_eq_true rfl) ?_
  show Z M_m_clear _ 0 [vR 39, vU] [] h
  refine z_aload_n D_m_clear_0 rfl ?_
  refine z_getI fl_m_76 (rfl) rfl D_m_clear_1 ?_
  refine z_istore_1 D_m_clear_4 (Nat.le_of_ble_eq_true rfl) rfl ?_
  refine z_aload_n D_m_clear_5 rfl ?_
  refine z_iconst D_m_clear_6 ?_
  refine z_putI fl_m_76 (rfl) rfl rfl D_m_clear_7 ?_
  refine z_iload_n D_m_clear_10 rfl ?_
  exact z_ireturn rfl D_m_clear_11 (pvI rfl rfl)

theorem c_x_clicks {h : zH} {w : Nat} {v : Int} (hx : XI h w) (r_v : -2147483648 ≤ v ∧ v ≤ 2147483647) : zC M_x_clicks [vR 0, vI v] h (pV (vI (if 1 ≤ v ∧ v ≤ 60 then clk v (h w 5) (h w 6) else -1)) h) := by
  refine zC.ofN 0 (by decide) (by first | decide | exact Nat.le_of_ble_eq_true rfl) ?_
  show Z M_x_clicks _ 0 [vR 0, vI v] [] h
  have hw := hx.2.1
  have hu := hx.2.2.1
  have hn := hx.2.2.2.hn
  have hnp := hx.2.2.2.hnp
  have ht := hx.2.2.2.row.ht
  have hh := hx.2.2.2.row.hh
  have hc := hx.2.2.2.row.hc
  refine z_iload_n D_x_clicks_0 rfl ?_
  refine z_S1 (c_x_isSpeed (by omega)) G_x_isSpeed S_x_isSpeed lk_x_152 ⟨Nat.le_of_ble_eq_true rfl, Nat.le_of_ble_eq_true rfl⟩ (Nat.le_of_ble_eq_true rfl) D_x_clicks_1 ?_
  refine z_ifeqB (tgt := 18) D_x_clicks_4 (by decide) (fun q4 => ?_) (fun q4 => ?_)
  · refine z_iconst D_x_clicks_18 ?_
    exact z_ireturn rfl D_x_clicks_19 (pvI (by (repeat' split) <;> first | rfl | omega | (exfalso; omega)) rfl)
  · refine z_aload_n D_x_clicks_7 rfl ?_
    refine z_getW fl_x_19 (by decide) hx.1 D_x_clicks_8 ?_
    refine z_iload_n D_x_clicks_11 rfl ?_
    refine z_V1 (c0 := 10) (c_w_clicksOf hw (c_w_clicksBy hx.2.2.2.hk hx.2.2.2.hd (by omega))) G_w_clicksOf I_w_clicksOf lk_x_193 (kw hw) ⟨by decide, rfl⟩ ⟨Nat.le_of_ble_eq_true rfl, Nat.le_of_ble_eq_true rfl⟩ (Nat.le_of_ble_eq_true rfl) D_x_clicks_12 ?_
    refine z_goto (tgt := 19) D_x_clicks_15 (by decide) ?_
    exact z_ireturn rfl D_x_clicks_19 (pvI (by (repeat' split) <;> first | rfl | omega | (exfalso; omega)) rfl)

theorem c_m_clicks {h : zH} {v : Int} (hm : MI h) (r_v : -2147483648 ≤ v ∧ v ≤ 2147483647) : zC M_m_clicks [vR 39, vI v] h (pV (vI (if 1 ≤ v ∧ v ≤ 60 then clk v (h 39 2) (h 39 3) else -1)) h) := by
  refine zC.ofN 0 (by decide) (by first | decide | exact Nat.le_of_ble_eq_true rfl) ?_
  show Z M_m_clicks _ 0 [vR 39, vI v] [] h
  have hn := hm.hn
  have hnp := hm.hnp
  have ht := hm.row.ht
  have hh := hm.row.hh
  have hc := hm.row.hc
  unfold nm at ht hh hc
  refine z_iload_n D_m_clicks_0 rfl ?_
  refine z_S1 (c_m_isSpeed (by omega)) G_m_isSpeed S_m_isSpeed lk_m_169 ⟨Nat.le_of_ble_eq_true rfl, Nat.le_of_ble_eq_true rfl⟩ (Nat.le_of_ble_eq_true rfl) D_m_clicks_1 ?_
  refine z_ifeqB (tgt := 15) D_m_clicks_4 (by decide) (fun q4 => ?_) (fun q4 => ?_)
  · refine z_iconst D_m_clicks_15 ?_
    exact z_ireturn rfl D_m_clicks_16 (pvI (by (repeat' split) <;> first | rfl | omega | (exfalso; omega)) rfl)
  · refine z_aload_n D_m_clicks_7 rfl ?_
    refine z_iload_n D_m_clicks_8 rfl ?_
    refine z_V1 (c0 := 12) (c_m_clicksOf hm (by omega)) G_m_clicksOf I_m_clicksOf lk_m_175 (rfl) ⟨by decide, rfl⟩ ⟨Nat.le_of_ble_eq_true rfl, Nat.le_of_ble_eq_true rfl⟩ (Nat.le_of_ble_eq_true rfl) D_m_clicks_9 ?_
    refine z_goto (tgt := 16) D_m_clicks_12 (by decide) ?_
    exact z_ireturn rfl D_m_clicks_16 (pvI (by (repeat' split) <;> first | rfl | omega | (exfalso; omega)) rfl)

theorem c_x_stops {h : zH} {w : Nat} {v : Int} (hx : XI h w) (r_v : -2147483648 ≤ v ∧ v ≤ 2147483647) : zC M_x_stops [vR 0, vI v] h (pV (vI (if 1 ≤ v ∧ v ≤ 60 then (if h w 3 = 0 then -2 else (nw h 0 + clk v (h w 5) (h w 6)) % h w 3) else -1)) h) := by
  refine zC.ofN 0 (by decide) (by first | decide | exact Nat.le_of_ble_eq_true rfl) ?_
  show Z M_x_stops _ 0 [vR 0, vI v] [] h
  have hw := hx.2.1
  have hu := hx.2.2.1
  have hn := hx.2.2.2.hn
  have hnp := hx.2.2.2.hnp
  have ht := hx.2.2.2.row.ht
  have hh := hx.2.2.2.row.hh
  have hc := hx.2.2.2.row.hc
  refine z_iload_n D_x_stops_0 rfl ?_
  refine z_S1 (c_x_isSpeed (by omega)) G_x_isSpeed S_x_isSpeed lk_x_152 ⟨Nat.le_of_ble_eq_true rfl, Nat.le_of_ble_eq_true rfl⟩ (Nat.le_of_ble_eq_true rfl) D_x_stops_1 ?_
  refine z_ifneB (tgt := 9) D_x_stops_4 (by decide) (fun q4 => ?_) (fun q4 => ?_)
  · refine z_aload_n D_x_stops_9 rfl ?_
    refine z_getW fl_x_19 (by decide) hx.1 D_x_stops_10 ?_
    refine z_getI fl_x_155 (kw hw) rfl D_x_stops_13 ?_
    refine z_if_ne (tgt := 24) D_x_stops_16 (by decide) (by omega) (fun q16 => ?_) (fun q16 => ?_)
    · refine z_aload_n D_x_stops_24 rfl ?_
      refine z_iload_n D_x_stops_25 rfl ?_
      refine z_V1 (c0 := 11) (c_x_turnBehind hx (by omega)) G_x_turnBehind I_x_turnBehind lk_x_161 (rfl) ⟨by decide, rfl⟩ ⟨Nat.le_of_ble_eq_true rfl, Nat.le_of_ble_eq_true rfl⟩ (Nat.le_of_ble_eq_true rfl) D_x_stops_26 ?_
      exact z_ireturn rfl D_x_stops_29 (pvI (by first | (rw [if_pos q4, if_pos q16]) | (rw [if_pos q4, if_neg q16]; exact if_pos (by omega))) rfl)
    · refine z_bipush (by decide) D_x_stops_19 ?_
      refine z_goto (tgt := 29) D_x_stops_21 (by decide) ?_
      exact z_ireturn rfl D_x_stops_29 (pvI (by first | (rw [if_pos q4, if_pos q16]) | (rw [if_pos q4, if_neg q16]; exact if_pos (by omega))) rfl)
  · refine z_iconst D_x_stops_7 ?_
    exact z_ireturn rfl D_x_stops_8 (pvI (by (repeat' split) <;> first | rfl | omega | (exfalso; omega)) rfl)

theorem c_m_stops {h : zH} {v : Int} (hm : MI h) (r_v : -2147483648 ≤ v ∧ v ≤ 2147483647) : zC M_m_stops [vR 39, vI v] h (pV (vI (if 1 ≤ v ∧ v ≤ 60 then (if h 39 0 = 0 then -2 else (nm h 0 + clk v (h 39 2) (h 39 3)) % h 39 0) else -1)) h) := by
  refine zC.ofN 0 (by decide) (by first | decide | exact Nat.le_of_ble_eq_true rfl) ?_
  show Z M_m_stops _ 0 [vR 39, vI v] [] h
  have hn := hm.hn
  have hnp := hm.hnp
  have ht := hm.row.ht
  have hh := hm.row.hh
  have hc := hm.row.hc
  unfold nm at ht hh hc
  refine z_iload_n D_m_stops_0 rfl ?_
  refine z_S1 (c_m_isSpeed (by omega)) G_m_isSpeed S_m_isSpeed lk_m_169 ⟨Nat.le_of_ble_eq_true rfl, Nat.le_of_ble_eq_true rfl⟩ (Nat.le_of_ble_eq_true rfl) D_m_stops_1 ?_
  refine z_ifneB (tgt := 9) D_m_stops_4 (by decide) (fun q4 => ?_) (fun q4 => ?_)
  · refine z_aload_n D_m_stops_9 rfl ?_
    refine z_getI fl_m_73 (rfl) rfl D_m_stops_10 ?_
    refine z_if_ne (tgt := 21) D_m_stops_13 (by decide) (by omega) (fun q13 => ?_) (fun q13 => ?_)
    · refine z_aload_n D_m_stops_21 rfl ?_
      refine z_getR (q := 42) fl_m_23 (rfl) rfl (rfl) D_m_stops_22 ?_
      refine z_iconst D_m_stops_25 ?_
      refine z_iald (n := 573) (rfl) (by omega) D_m_stops_26 ?_
      refine z_aload_n D_m_stops_27 rfl ?_
      refine z_iload_n D_m_stops_28 rfl ?_
      refine z_V1 (c0 := 12) (c_m_clicksOf hm (by omega)) G_m_clicksOf I_m_clicksOf lk_m_175 (rfl) ⟨by decide, rfl⟩ ⟨Nat.le_of_ble_eq_true rfl, Nat.le_of_ble_eq_true rfl⟩ (Nat.le_of_ble_eq_true rfl) D_m_stops_29 ?_
      refine z_iadd D_m_stops_32 ?_
      refine z_aload_n D_m_stops_33 rfl ?_
      refine z_getI fl_m_73 (rfl) rfl D_m_stops_34 ?_
      refine z_irem_p D_m_stops_37 (by have := clk_in q4.2 hm.hk hm.hd; omega) (by omega) ?_
      exact z_ireturn rfl D_m_stops_38 (pvI (by first | (rw [if_pos q4, if_pos q13]) | (rw [if_pos q4, if_neg q13]; rfl)) rfl)
    · refine z_bipush (by decide) D_m_stops_16 ?_
      refine z_goto (tgt := 38) D_m_stops_18 (by decide) ?_
      exact z_ireturn rfl D_m_stops_38 (pvI (by first | (rw [if_pos q4, if_pos q13]) | (rw [if_pos q4, if_neg q13]; rfl)) rfl)
  · refine z_iconst D_m_stops_7 ?_
    exact z_ireturn rfl D_m_stops_8 (pvI (by (repeat' split) <;> first | rfl | omega | (exfalso; omega)) rfl)

theorem c_x_shade {h : zH} {w : Nat} {s : Int} {v : Int} (hx : XI h w) (r_s : -2147483648 ≤ s ∧ s ≤ 2147483647) (r_v : -2147483648 ≤ v ∧ v ≤ 2147483647) : zC M_x_shade [vR 0, vI s, vI v] h (pV (vI (if (0 ≤ s ∧ s < h w 3) ∧ (1 ≤ v ∧ v ≤ 60) then gx h w s v else -1)) h) := by
  refine zC.ofN 0 (by decide) (by first | decide | exact Nat.le_of_ble_eq_true rfl) ?_
  show Z M_x_shade _ 0 [vR 0, vI s, vI v] [] h
  have hw := hx.2.1
  have hu := hx.2.2.1
  have hn := hx.2.2.2.hn
  have hnp := hx.2.2.2.hnp
  have ht := hx.2.2.2.row.ht
  have hh := hx.2.2.2.row.hh
  have hc := hx.2.2.2.row.hc
  refine z_aload_n D_x_shade_0 rfl ?_
  refine z_getW fl_x_19 (by decide) hx.1 D_x_shade_1 ?_
  refine z_iload_n D_x_shade_4 rfl ?_
  refine z_V1 (c0 := 10) (c_w_hasSpot hw hn (by omega)) G_w_hasSpot I_w_hasSpot lk_x_122 (kw hw) ⟨by decide, rfl⟩ ⟨Nat.le_of_ble_eq_true rfl, Nat.le_of_ble_eq_true rfl⟩ (Nat.le_of_ble_eq_true rfl) D_x_shade_5 ?_
  refine z_ifeqB (tgt := 27) D_x_shade_8 (by decide) (fun q8 => ?_) (fun q8 => ?_)
  · refine z_iconst D_x_shade_27 ?_
    exact z_ireturn rfl D_x_shade_28 (pvI (by (repeat' split) <;> first | rfl | omega | (exfalso; omega)) rfl)
  · refine z_iload_n D_x_shade_11 rfl ?_
    refine z_S1 (c_x_isSpeed (by omega)) G_x_isSpeed S_x_isSpeed lk_x_152 ⟨Nat.le_of_ble_eq_true rfl, Nat.le_of_ble_eq_true rfl⟩ (Nat.le_of_ble_eq_true rfl) D_x_shade_12 ?_
    refine z_ifeqB (tgt := 27) D_x_shade_15 (by decide) (fun q15 => ?_) (fun q15 => ?_)
    · refine z_iconst D_x_shade_27 ?_
      exact z_ireturn rfl D_x_shade_28 (pvI (by (repeat' split) <;> first | rfl | omega | (exfalso; omega)) rfl)
    · refine z_aload_n D_x_shade_18 rfl ?_
      refine z_iload_n D_x_shade_19 rfl ?_
      refine z_iload_n D_x_shade_20 rfl ?_
      refine z_V2 (c0 := 11) (c_x_colourBehind hx (by omega) (by omega)) G_x_colourBehind I_x_colourBehind lk_x_196 (rfl) ⟨by decide, rfl⟩ ⟨Nat.le_of_ble_eq_true rfl, Nat.le_of_ble_eq_true rfl⟩ (Nat.le_of_ble_eq_true rfl) D_x_shade_21 ?_
      refine z_goto (tgt := 28) D_x_shade_24 (by decide) ?_
      exact z_ireturn rfl D_x_shade_28 (pvI (by (repeat' split) <;> first | rfl | omega | (exfalso; omega)) rfl)

theorem c_m_shade {h : zH} {s : Int} {v : Int} (hm : MI h) (r_s : -2147483648 ≤ s ∧ s ≤ 2147483647) (r_v : -2147483648 ≤ v ∧ v ≤ 2147483647) : zC M_m_shade [vR 39, vI s, vI v] h (pV (vI (if (0 ≤ s ∧ s < h 39 0) ∧ (1 ≤ v ∧ v ≤ 60) then gm h s v else -1)) h) := by
  refine zC.ofN 0 (by decide) (by first | decide | exact Nat.le_of_ble_eq_true rfl) ?_
  show Z M_m_shade _ 0 [vR 39, vI s, vI v] [] h
  have hn := hm.hn
  have hnp := hm.hnp
  have ht := hm.row.ht
  have hh := hm.row.hh
  have hc := hm.row.hc
  unfold nm at ht hh hc
  refine z_aload_n D_m_shade_0 rfl ?_
  refine z_iload_n D_m_shade_1 rfl ?_
  refine z_V1 (c0 := 12) (c_m_isSpot hn (by omega)) G_m_isSpot I_m_isSpot lk_m_146 (rfl) ⟨by decide, rfl⟩ ⟨Nat.le_of_ble_eq_true rfl, Nat.le_of_ble_eq_true rfl⟩ (Nat.le_of_ble_eq_true rfl) D_m_shade_2 ?_
  refine z_ifeqB (tgt := 24) D_m_shade_5 (by decide) (fun q5 => ?_) (fun q5 => ?_)
  · refine z_iconst D_m_shade_24 ?_
    exact z_ireturn rfl D_m_shade_25 (pvI (by (repeat' split) <;> first | rfl | omega | (exfalso; omega)) rfl)
  · refine z_iload_n D_m_shade_8 rfl ?_
    refine z_S1 (c_m_isSpeed (by omega)) G_m_isSpeed S_m_isSpeed lk_m_169 ⟨Nat.le_of_ble_eq_true rfl, Nat.le_of_ble_eq_true rfl⟩ (Nat.le_of_ble_eq_true rfl) D_m_shade_9 ?_
    refine z_ifeqB (tgt := 24) D_m_shade_12 (by decide) (fun q12 => ?_) (fun q12 => ?_)
    · refine z_iconst D_m_shade_24 ?_
      exact z_ireturn rfl D_m_shade_25 (pvI (by (repeat' split) <;> first | rfl | omega | (exfalso; omega)) rfl)
    · refine z_aload_n D_m_shade_15 rfl ?_
      refine z_iload_n D_m_shade_16 rfl ?_
      refine z_iload_n D_m_shade_17 rfl ?_
      refine z_V2 (c0 := 12) (c_m_shadeOf hm (by omega) (by omega)) G_m_shadeOf I_m_shadeOf lk_m_197 (rfl) ⟨by decide, rfl⟩ ⟨Nat.le_of_ble_eq_true rfl, Nat.le_of_ble_eq_true rfl⟩ (Nat.le_of_ble_eq_true rfl) D_m_shade_18 ?_
      refine z_goto (tgt := 25) D_m_shade_21 (by decide) ?_
      exact z_ireturn rfl D_m_shade_25 (pvI (by (repeat' split) <;> first | rfl | omega | (exfalso; omega)) rfl)

theorem l_m_speeds {h : zH} {s c t y : Int} (hm : MI h) (hs : 0 ≤ s ∧ s < h 39 0) (hc : 0 ≤ c ∧ c ≤ 5) : ∀ (k : Nat) (a : Int), k ≤ 60 → lstD (fun v => gm h s v == c) k a = y → Z M_m_speeds (pV (vI y) h) 47 [vR 39, vI s, vI c, vI t, vI a, vI (k : Int)] [] h := by
  intro k
  induction k with
  | zero =>
    intro a h0 hy
    refine z_iload D_m_speeds_47 rfl ?_
    refine z_if_le (tgt := 78) D_m_speeds_49 (by decide) (by omega) (fun q49 => ?_) (fun q49 => ?_)
    · refine z_iload D_m_speeds_78 rfl ?_
      exact z_ireturn rfl D_m_speeds_80 (pvI hy rfl)
    · omega
  | succ k ih =>
    intro a h0 hy
    have e : ((k + 1 : Nat) : Int) + (-1) = (k : Int) := by omega
    simp only [lstD] at hy
    refine z_iload D_m_speeds_47 rfl ?_
    refine z_if_le (tgt := 78) D_m_speeds_49 (by decide) (by omega) (fun q49 => ?_) (fun q49 => ?_)
    · omega
    · refine z_aload_n D_m_speeds_52 rfl ?_
      refine z_iload_n D_m_speeds_53 rfl ?_
      refine z_iload D_m_speeds_54 rfl ?_
      refine z_V2 (c0 := 12) (c_m_shadeOf hm (by omega) (by omega)) G_m_shadeOf I_m_shadeOf lk_m_197 (rfl) ⟨by decide, rfl⟩ ⟨Nat.le_of_ble_eq_true rfl, Nat.le_of_ble_eq_true rfl⟩ (Nat.le_of_ble_eq_true rfl) D_m_speeds_56 ?_
      refine z_iload_n D_m_speeds_59 rfl ?_
      refine z_icmp_ne (tgt := 68) D_m_speeds_60 (by decide) (by have := gm_in hm s ((k + 1 : Nat) : Int); omega) (by omega) (fun q60 => ?_) (fun q60 => ?_)
      · refine z_iload D_m_speeds_68 rfl ?_
        refine z_istore_4 D_m_speeds_70 (Nat.le_of_ble_eq_true rfl) rfl ?_
        refine z_iinc_5 D_m_speeds_72 (Nat.le_of_ble_eq_true rfl) rfl ?_
        refine z_goto (tgt := 47) D_m_speeds_75 (by decide) ?_
        rw [e]
        first
        | (rw [if_pos (by simpa using q60)] at hy; exact ih _ (by omega) hy)
        | (rw [if_neg (by simpa using q60)] at hy; exact ih _ (by omega) hy)
      · refine z_iload D_m_speeds_63 rfl ?_
        refine z_goto (tgt := 70) D_m_speeds_65 (by decide) ?_
        refine z_istore_4 D_m_speeds_70 (Nat.le_of_ble_eq_true rfl) rfl ?_
        refine z_iinc_5 D_m_speeds_72 (Nat.le_of_ble_eq_true rfl) rfl ?_
        refine z_goto (tgt := 47) D_m_speeds_75 (by decide) ?_
        rw [e]
        first
        | (rw [if_pos (by simpa using q60)] at hy; exact ih _ (by omega) hy)
        | (rw [if_neg (by simpa using q60)] at hy; exact ih _ (by omega) hy)
theorem c_x_speeds {h : zH} {w : Nat} {s : Int} {c : Int} {t : Int} (hx : XI h w) (r_s : -2147483648 ≤ s ∧ s ≤ 2147483647) (r_c : -2147483648 ≤ c ∧ c ≤ 2147483647) (r_t : -2147483648 ≤ t ∧ t ≤ 2147483647) : zC M_x_speeds [vR 0, vI s, vI c, vI t] h (pV (vI (if (0 ≤ s ∧ s < h w 3) ∧ (0 ≤ c ∧ c ≤ 5) ∧ (0 ≤ t ∧ t ≤ 1) then (if t = 0 then cntS (gx h w s) c 60 else lstU (fun v => gx h w s v == c) (-9) 60 1) else -1)) h) := by
  refine zC.ofN 0 (by decide) (by first | decide | exact Nat.le_of_ble_eq_true rfl) ?_
  show Z M_x_speeds _ 0 [vR 0, vI s, vI c, vI t] [] h
  have hw := hx.2.1
  have hu := hx.2.2.1
  have hn := hx.2.2.2.hn
  have hnp := hx.2.2.2.hnp
  have ht := hx.2.2.2.row.ht
  have hh := hx.2.2.2.row.hh
  have hc := hx.2.2.2.row.hc
  refine z_aload_n D_x_speeds_0 rfl ?_
  refine z_getW fl_x_19 (by decide) hx.1 D_x_speeds_1 ?_
  refine z_iload_n D_x_speeds_4 rfl ?_
  refine z_V1 (c0 := 10) (c_w_hasSpot hw hn (by omega)) G_w_hasSpot I_w_hasSpot lk_x_122 (kw hw) ⟨by decide, rfl⟩ ⟨Nat.le_of_ble_eq_true rfl, Nat.le_of_ble_eq_true rfl⟩ (Nat.le_of_ble_eq_true rfl) D_x_speeds_5 ?_
  refine z_ifeqB (tgt := 27) D_x_speeds_8 (by decide) (fun q8 => ?_) (fun q8 => ?_)
  · refine z_iconst D_x_speeds_27 ?_
    exact z_ireturn rfl D_x_speeds_28 (pvI (by (repeat' split) <;> first | rfl | omega | (exfalso; omega)) rfl)
  · refine z_iload_n D_x_speeds_11 rfl ?_
    refine z_S1 (c_x_isColour (by omega)) G_x_isColour S_x_isColour lk_x_199 ⟨Nat.le_of_ble_eq_true rfl, Nat.le_of_ble_eq_true rfl⟩ (Nat.le_of_ble_eq_true rfl) D_x_speeds_12 ?_
    refine z_ifeqB (tgt := 27) D_x_speeds_15 (by decide) (fun q15 => ?_) (fun q15 => ?_)
    · refine z_iconst D_x_speeds_27 ?_
      exact z_ireturn rfl D_x_speeds_28 (pvI (by (repeat' split) <;> first | rfl | omega | (exfalso; omega)) rfl)
    · refine z_iload_n D_x_speeds_18 rfl ?_
      refine z_iconst D_x_speeds_19 ?_
      refine z_iconst D_x_speeds_20 ?_
      refine z_S3 (c_x_isWithin (by omega) (by omega) (by omega)) G_x_isWithin S_x_isWithin lk_x_99 ⟨Nat.le_of_ble_eq_true rfl, Nat.le_of_ble_eq_true rfl⟩ (Nat.le_of_ble_eq_true rfl) D_x_speeds_21 ?_
      refine z_ifneB (tgt := 29) D_x_speeds_24 (by decide) (fun q24 => ?_) (fun q24 => ?_)
      · refine z_iload_n D_x_speeds_29 rfl ?_
        refine z_if_ne (tgt := 44) D_x_speeds_30 (by decide) (by omega) (fun q30 => ?_) (fun q30 => ?_)
        · refine z_aload_n D_x_speeds_44 rfl ?_
          refine z_iload_n D_x_speeds_45 rfl ?_
          refine z_iload_n D_x_speeds_46 rfl ?_
          refine z_V2 (c0 := 11) (c_x_leastSpeedFor hx (by omega) (by omega)) G_x_leastSpeedFor I_x_leastSpeedFor lk_x_206 (rfl) ⟨by decide, rfl⟩ ⟨Nat.le_of_ble_eq_true rfl, Nat.le_of_ble_eq_true rfl⟩ (Nat.le_of_ble_eq_true rfl) D_x_speeds_47 ?_
          exact z_ireturn rfl D_x_speeds_50 (pvI (by first | (rw [if_pos (by omega), if_pos (by omega)]; rfl) | (rw [if_pos (by omega), if_neg (by omega)])) rfl)
        · refine z_aload_n D_x_speeds_33 rfl ?_
          refine z_iload_n D_x_speeds_34 rfl ?_
          refine z_iload_n D_x_speeds_35 rfl ?_
          refine z_bipush (by decide) D_x_speeds_36 ?_
          refine z_V3 (c0 := 11) (c_x_speedsFor hx (by omega) (by omega) (by omega)) G_x_speedsFor I_x_speedsFor lk_x_202 (rfl) ⟨by decide, rfl⟩ ⟨Nat.le_of_ble_eq_true rfl, Nat.le_of_ble_eq_true rfl⟩ (Nat.le_of_ble_eq_true rfl) D_x_speeds_38 ?_
          refine z_goto (tgt := 50) D_x_speeds_41 (by decide) ?_
          exact z_ireturn rfl D_x_speeds_50 (pvI (by first | (rw [if_pos (by omega), if_pos (by omega)]; rfl) | (rw [if_pos (by omega), if_neg (by omega)])) rfl)
      · refine z_iconst D_x_speeds_27 ?_
        exact z_ireturn rfl D_x_speeds_28 (pvI (by (repeat' split) <;> first | rfl | omega | (exfalso; omega)) rfl)

theorem c_m_speeds {h : zH} {s : Int} {c : Int} {t : Int} (hm : MI h) (r_s : -2147483648 ≤ s ∧ s ≤ 2147483647) (r_c : -2147483648 ≤ c ∧ c ≤ 2147483647) (r_t : -2147483648 ≤ t ∧ t ≤ 2147483647) : zC M_m_speeds [vR 39, vI s, vI c, vI t] h (pV (vI (if (0 ≤ s ∧ s < h 39 0) ∧ (0 ≤ c ∧ c ≤ 5) ∧ (0 ≤ t ∧ t ≤ 1) then (if t = 0 then cntS (gm h s) c 60 else lstU (fun v => gm h s v == c) (-9) 60 1) else -1)) h) := by
  refine zC.ofN 2 (by decide) (by first | decide | exact Nat.le_of_ble_eq_true rfl) ?_
  show Z M_m_speeds _ 0 [vR 39, vI s, vI c, vI t, vU, vU] [] h
  have hn := hm.hn
  have hnp := hm.hnp
  have ht := hm.row.ht
  have hh := hm.row.hh
  have hc := hm.row.hc
  unfold nm at ht hh hc
  refine z_aload_n D_m_speeds_0 rfl ?_
  refine z_iload_n D_m_speeds_1 rfl ?_
  refine z_V1 (c0 := 12) (c_m_isSpot hn (by omega)) G_m_isSpot I_m_isSpot lk_m_146 (rfl) ⟨by decide, rfl⟩ ⟨Nat.le_of_ble_eq_true rfl, Nat.le_of_ble_eq_true rfl⟩ (Nat.le_of_ble_eq_true rfl) D_m_speeds_2 ?_
  refine z_ifeqB (tgt := 24) D_m_speeds_5 (by decide) (fun q5 => ?_) (fun q5 => ?_)
  · refine z_iconst D_m_speeds_24 ?_
    exact z_ireturn rfl D_m_speeds_25 (pvI (by (repeat' split) <;> first | rfl | omega | (exfalso; omega)) rfl)
  · refine z_iload_n D_m_speeds_8 rfl ?_
    refine z_S1 (c_m_isColour (by omega)) G_m_isColour S_m_isColour lk_m_200 ⟨Nat.le_of_ble_eq_true rfl, Nat.le_of_ble_eq_true rfl⟩ (Nat.le_of_ble_eq_true rfl) D_m_speeds_9 ?_
    refine z_ifeqB (tgt := 24) D_m_speeds_12 (by decide) (fun q12 => ?_) (fun q12 => ?_)
    · refine z_iconst D_m_speeds_24 ?_
      exact z_ireturn rfl D_m_speeds_25 (pvI (by (repeat' split) <;> first | rfl | omega | (exfalso; omega)) rfl)
    · refine z_iload_n D_m_speeds_15 rfl ?_
      refine z_iconst D_m_speeds_16 ?_
      refine z_iconst D_m_speeds_17 ?_
      refine z_S3 (c_m_in (by omega) (by omega) (by omega)) G_m_in S_m_in lk_m_69 ⟨Nat.le_of_ble_eq_true rfl, Nat.le_of_ble_eq_true rfl⟩ (Nat.le_of_ble_eq_true rfl) D_m_speeds_18 ?_
      refine z_ifneB (tgt := 26) D_m_speeds_21 (by decide) (fun q21 => ?_) (fun q21 => ?_)
      · refine z_iload_n D_m_speeds_26 rfl ?_
        refine z_if_ne (tgt := 39) D_m_speeds_27 (by decide) (by omega) (fun q27 => ?_) (fun q27 => ?_)
        · refine z_bipush (by decide) D_m_speeds_39 ?_
          refine z_istore_4 D_m_speeds_41 (Nat.le_of_ble_eq_true rfl) rfl ?_
          refine z_bipush (by decide) D_m_speeds_43 ?_
          refine z_istore_5 D_m_speeds_45 (Nat.le_of_ble_eq_true rfl) rfl ?_
          refine l_m_speeds hm (by omega) (by omega) 60 (-9) (by omega) ?_
          rw [lstD_U, if_pos (by omega), if_neg (by omega)]
        · refine z_aload_n D_m_speeds_30 rfl ?_
          refine z_iload_n D_m_speeds_31 rfl ?_
          refine z_iload_n D_m_speeds_32 rfl ?_
          refine z_bipush (by decide) D_m_speeds_33 ?_
          refine z_V3 (c0 := 12) (c_m_speedsOf hm (by omega) (by omega) (by omega)) G_m_speedsOf I_m_speedsOf lk_m_203 (rfl) ⟨by decide, rfl⟩ ⟨Nat.le_of_ble_eq_true rfl, Nat.le_of_ble_eq_true rfl⟩ (Nat.le_of_ble_eq_true rfl) D_m_speeds_35 ?_
          exact z_ireturn rfl D_m_speeds_38 (pvI (by first | (rw [if_pos (by omega), if_pos (by omega)]; rfl) | (rw [if_pos (by omega), if_neg (by omega)])) rfl)
      · refine z_iconst D_m_speeds_24 ?_
        exact z_ireturn rfl D_m_speeds_25 (pvI (by (repeat' split) <;> first | rfl | omega | (exfalso; omega)) rfl)

