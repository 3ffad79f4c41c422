/-! one, owed, alike, counts, what was seen and heard -/
theorem pvL {x y : Int} {h1 h2 : zH} (e : x = y) (eh : h1 = h2) : pV (vL y) h2 (some (vL x)) h1 := ⟨by rw [e], eh⟩
theorem c_x_one {h : zH} {w : Nat} {p : Int} {t : Int} (hx : XI h w) (r_p : -2147483648 ≤ p ∧ p ≤ 2147483647) (r_t : -2147483648 ≤ t ∧ t ≤ 2147483647) : zC M_x_one [vR 0, vI p, vI t] h (pV (vI (if 0 ≤ p ∧ p < h w 4 then (if t = 0 then nw h (4 + p) else if t = 1 then wx h w p else if t = 2 then col (px h w) (nw h) (h w 3) p else if t = 3 then nw h (10 + p) else if t = 4 then sumF (owF (nw h) p) (h w 4).toNat else -1) else -1)) h) := by
  refine zC.ofN 0 (by decide) (by first | decide | exact Nat.le_of_ble_eq_true rfl) ?_
  show Z M_x_one _ 0 [vR 0, vI p, vI t] [] h
  have hw := hx.2.1
  have hu := hx.2.2.1
  have hn := hx.2.2.2.hn
  have hnp := hx.2.2.2.hnp
  have ht := hx.2.2.2.row.ht
  have hh := hx.2.2.2.row.hh
  have hc := hx.2.2.2.row.hc
  refine z_aload_n D_x_one_0 rfl ?_
  refine z_getW fl_x_19 (by decide) hx.1 D_x_one_1 ?_
  refine z_iload_n D_x_one_4 rfl ?_
  refine z_V1 (c0 := 10) (c_w_hasPerson hw hnp (by omega)) G_w_hasPerson I_w_hasPerson lk_x_128 (kw hw) ⟨by decide, rfl⟩ ⟨Nat.le_of_ble_eq_true rfl, Nat.le_of_ble_eq_true rfl⟩ (Nat.le_of_ble_eq_true rfl) D_x_one_5 ?_
  refine z_ifneB (tgt := 13) D_x_one_8 (by decide) (fun q8 => ?_) (fun q8 => ?_)
  · refine z_iload_n D_x_one_13 rfl ?_
    by_cases s14_0 : t = 0
    · subst s14_0
      refine z_tabIn (tgt := 48) (off := 34) D_x_one_14 (by omega) (by omega) (by omega) rfl (by decide) ?_
      refine z_aload_n D_x_one_48 rfl ?_
      refine z_getR (q := 11) fl_x_29 (rfl) rfl (rfl) D_x_one_49 ?_
      refine z_iconst D_x_one_52 ?_
      refine z_iload_n D_x_one_53 rfl ?_
      refine z_iadd D_x_one_54 ?_
      refine z_V1 (c0 := 5) (c_d_value hu (by omega)) G_d_value I_d_value lk_x_131 (rfl) ⟨by decide, rfl⟩ ⟨Nat.le_of_ble_eq_true rfl, Nat.le_of_ble_eq_true rfl⟩ (Nat.le_of_ble_eq_true rfl) D_x_one_55 ?_
      exact z_ireturn rfl D_x_one_58 (pvI (by (repeat' split) <;> first | rfl | omega | (exfalso; omega)) rfl)
    by_cases s14_1 : t = 1
    · subst s14_1
      refine z_tabIn (tgt := 59) (off := 45) D_x_one_14 (by omega) (by omega) (by omega) rfl (by decide) ?_
      refine z_aload_n D_x_one_59 rfl ?_
      refine z_getW fl_x_19 (by decide) hx.1 D_x_one_60 ?_
      refine z_getR (q := (w + 3)) fl_x_135 (kw hw) rfl (kw2 hw) D_x_one_63 ?_
      refine z_iload_n D_x_one_66 rfl ?_
      refine z_iald (n := 6) (kwn hw) (by omega) D_x_one_67 ?_
      exact z_ireturn rfl D_x_one_68 (pvI (by (repeat' split) <;> first | rfl | omega | (exfalso; omega)) rfl)
    by_cases s14_2 : t = 2
    · subst s14_2
      refine z_tabIn (tgt := 69) (off := 55) D_x_one_14 (by omega) (by omega) (by omega) rfl (by decide) ?_
      refine z_aload_n D_x_one_69 rfl ?_
      refine z_iload_n D_x_one_70 rfl ?_
      refine z_V1 (c0 := 11) (c_x_colourOf hx (by omega)) G_x_colourOf I_x_colourOf lk_x_138 (rfl) ⟨by decide, rfl⟩ ⟨Nat.le_of_ble_eq_true rfl, Nat.le_of_ble_eq_true rfl⟩ (Nat.le_of_ble_eq_true rfl) D_x_one_71 ?_
      exact z_ireturn rfl D_x_one_74 (pvI (by (repeat' split) <;> first | rfl | omega | (exfalso; omega)) rfl)
    by_cases s14_3 : t = 3
    · subst s14_3
      refine z_tabIn (tgt := 75) (off := 61) D_x_one_14 (by omega) (by omega) (by omega) rfl (by decide) ?_
      refine z_aload_n D_x_one_75 rfl ?_
      refine z_getR (q := 11) fl_x_29 (rfl) rfl (rfl) D_x_one_76 ?_
      refine z_bipush (by decide) D_x_one_79 ?_
      refine z_iload_n D_x_one_81 rfl ?_
      refine z_iadd D_x_one_82 ?_
      refine z_V1 (c0 := 5) (c_d_value hu (by omega)) G_d_value I_d_value lk_x_131 (rfl) ⟨by decide, rfl⟩ ⟨Nat.le_of_ble_eq_true rfl, Nat.le_of_ble_eq_true rfl⟩ (Nat.le_of_ble_eq_true rfl) D_x_one_83 ?_
      exact z_ireturn rfl D_x_one_86 (pvI (by (repeat' split) <;> first | rfl | omega | (exfalso; omega)) rfl)
    by_cases s14_4 : t = 4
    · subst s14_4
      refine z_tabIn (tgt := 87) (off := 73) D_x_one_14 (by omega) (by omega) (by omega) rfl (by decide) ?_
      refine z_aload_n D_x_one_87 rfl ?_
      refine z_iload_n D_x_one_88 rfl ?_
      refine z_V1 (c0 := 11) (c_x_owedByAll hx (by omega)) G_x_owedByAll I_x_owedByAll lk_x_141 (rfl) ⟨by decide, rfl⟩ ⟨Nat.le_of_ble_eq_true rfl, Nat.le_of_ble_eq_true rfl⟩ (Nat.le_of_ble_eq_true rfl) D_x_one_89 ?_
      exact z_ireturn rfl D_x_one_92 (pvI (by (repeat' split) <;> first | rfl | omega | (exfalso; omega)) rfl)
    refine z_tabOut (tgt := 93) D_x_one_14 (by omega) (by omega) (by decide) ?_
    refine z_iconst D_x_one_93 ?_
    exact z_ireturn rfl D_x_one_94 (pvI (by (repeat' split) <;> first | rfl | omega | (exfalso; omega)) rfl)
  · refine z_iconst D_x_one_11 ?_
    exact z_ireturn rfl D_x_one_12 (pvI (by (repeat' split) <;> first | rfl | omega | (exfalso; omega)) rfl)

theorem c_m_one {h : zH} {p : Int} {t : Int} (hm : MI h) (r_p : -2147483648 ≤ p ∧ p ≤ 2147483647) (r_t : -2147483648 ≤ t ∧ t ≤ 2147483647) : zC M_m_one [vR 39, vI p, vI t] h (pV (vI (if 0 ≤ p ∧ p < h 39 4 then (if t = 0 then nm h (4 + p) else if t = 1 then wm h p else if t = 2 then col (pm h) (nm h) (h 39 0) p else if t = 3 then nm h (10 + p) else if t = 4 then sumF (owF (nm h) p) (h 39 4).toNat else -1) else -1)) h) := by
  refine zC.ofN 0 (by decide) (by first | decide | exact Nat.le_of_ble_eq_true rfl) ?_
  show Z M_m_one _ 0 [vR 39, vI p, vI t] [] h
  have hn := hm.hn
  have hnp := hm.hnp
  have ht := hm.row.ht
  have hh := hm.row.hh
  have hc := hm.row.hc
  unfold nm at ht hh hc
  refine z_aload_n D_m_one_0 rfl ?_
  refine z_iload_n D_m_one_1 rfl ?_
  refine z_V1 (c0 := 12) (c_m_isOne (by omega) (by omega)) G_m_isOne I_m_isOne lk_m_152 (rfl) ⟨by decide, rfl⟩ ⟨Nat.le_of_ble_eq_true rfl, Nat.le_of_ble_eq_true rfl⟩ (Nat.le_of_ble_eq_true rfl) D_m_one_2 ?_
  refine z_ifneB (tgt := 10) D_m_one_5 (by decide) (fun q5 => ?_) (fun q5 => ?_)
  · refine z_iload_n D_m_one_10 rfl ?_
    by_cases s11_0 : t = 0
    · subst s11_0
      refine z_tabIn (tgt := 44) (off := 33) D_m_one_11 (by omega) (by omega) (by omega) rfl (by decide) ?_
      refine z_aload_n D_m_one_44 rfl ?_
      refine z_getR (q := 42) fl_m_23 (rfl) rfl (rfl) D_m_one_45 ?_
      refine z_iconst D_m_one_48 ?_
      refine z_iload_n D_m_one_49 rfl ?_
      refine z_iadd D_m_one_50 ?_
      refine z_iald (n := 573) (rfl) (by omega) D_m_one_51 ?_
      exact z_ireturn rfl D_m_one_52 (pvI (by (repeat' split) <;> first | rfl | omega | (exfalso; omega)) rfl)
    by_cases s11_1 : t = 1
    · subst s11_1
      refine z_tabIn (tgt := 53) (off := 42) D_m_one_11 (by omega) (by omega) (by omega) rfl (by decide) ?_
      refine z_aload_n D_m_one_53 rfl ?_
      refine z_getR (q := 41) fl_m_20 (rfl) rfl (rfl) D_m_one_54 ?_
      refine z_iload_n D_m_one_57 rfl ?_
      refine z_iald (n := 6) (rfl) (by omega) D_m_one_58 ?_
      exact z_ireturn rfl D_m_one_59 (pvI (by (repeat' split) <;> first | rfl | omega | (exfalso; omega)) rfl)
    by_cases s11_2 : t = 2
    · subst s11_2
      refine z_tabIn (tgt := 60) (off := 49) D_m_one_11 (by omega) (by omega) (by omega) rfl (by decide) ?_
      refine z_aload_n D_m_one_60 rfl ?_
      refine z_iload_n D_m_one_61 rfl ?_
      refine z_V1 (c0 := 12) (c_m_standsIn hm (by omega)) G_m_standsIn I_m_standsIn lk_m_155 (rfl) ⟨by decide, rfl⟩ ⟨Nat.le_of_ble_eq_true rfl, Nat.le_of_ble_eq_true rfl⟩ (Nat.le_of_ble_eq_true rfl) D_m_one_62 ?_
      exact z_ireturn rfl D_m_one_65 (pvI (by (repeat' split) <;> first | rfl | omega | (exfalso; omega)) rfl)
    by_cases s11_3 : t = 3
    · subst s11_3
      refine z_tabIn (tgt := 66) (off := 55) D_m_one_11 (by omega) (by omega) (by omega) rfl (by decide) ?_
      refine z_aload_n D_m_one_66 rfl ?_
      refine z_getR (q := 42) fl_m_23 (rfl) rfl (rfl) D_m_one_67 ?_
      refine z_bipush (by decide) D_m_one_70 ?_
      refine z_iload_n D_m_one_72 rfl ?_
      refine z_iadd D_m_one_73 ?_
      refine z_iald (n := 573) (rfl) (by omega) D_m_one_74 ?_
      exact z_ireturn rfl D_m_one_75 (pvI (by (repeat' split) <;> first | rfl | omega | (exfalso; omega)) rfl)
    by_cases s11_4 : t = 4
    · subst s11_4
      refine z_tabIn (tgt := 76) (off := 65) D_m_one_11 (by omega) (by omega) (by omega) rfl (by decide) ?_
      refine z_aload_n D_m_one_76 rfl ?_
      refine z_iload_n D_m_one_77 rfl ?_
      refine z_V1 (c0 := 12) (c_m_owedAll hm (by omega)) G_m_owedAll I_m_owedAll lk_m_158 (rfl) ⟨by decide, rfl⟩ ⟨Nat.le_of_ble_eq_true rfl, Nat.le_of_ble_eq_true rfl⟩ (Nat.le_of_ble_eq_true rfl) D_m_one_78 ?_
      exact z_ireturn rfl D_m_one_81 (pvI (by (repeat' split) <;> first | rfl | omega | (exfalso; omega)) rfl)
    refine z_tabOut (tgt := 82) D_m_one_11 (by omega) (by omega) (by decide) ?_
    refine z_iconst D_m_one_82 ?_
    exact z_ireturn rfl D_m_one_83 (pvI (by (repeat' split) <;> first | rfl | omega | (exfalso; omega)) rfl)
  · refine z_iconst D_m_one_8 ?_
    exact z_ireturn rfl D_m_one_9 (pvI (by (repeat' split) <;> first | rfl | omega | (exfalso; omega)) rfl)

theorem c_x_owed {h : zH} {w : Nat} {p : Int} {q : Int} (hx : XI h w) (r_p : -2147483648 ≤ p ∧ p ≤ 2147483647) (r_q : -2147483648 ≤ q ∧ q ≤ 2147483647) : zC M_x_owed [vR 0, vI p, vI q] h (pV (vI (if p ≠ q ∧ (0 ≤ p ∧ p < h w 4) ∧ (0 ≤ q ∧ q < h w 4) then owF (nw h) p q else -1)) h) := by
  refine zC.ofN 0 (by decide) (by first | decide | exact Nat.le_of_ble_eq_true rfl) ?_
  show Z M_x_owed _ 0 [vR 0, vI p, vI q] [] h
  have hw := hx.2.1
  have hu := hx.2.2.1
  have hn := hx.2.2.2.hn
  have hnp := hx.2.2.2.hnp
  have ht := hx.2.2.2.row.ht
  have hh := hx.2.2.2.row.hh
  have hc := hx.2.2.2.row.hc
  refine z_aload_n D_x_owed_0 rfl ?_
  refine z_iload_n D_x_owed_1 rfl ?_
  refine z_iload_n D_x_owed_2 rfl ?_
  refine z_V2 (c0 := 11) (c_x_areTwo hx (by omega) (by omega)) G_x_areTwo I_x_areTwo lk_x_144 (rfl) ⟨by decide, rfl⟩ ⟨Nat.le_of_ble_eq_true rfl, Nat.le_of_ble_eq_true rfl⟩ (Nat.le_of_ble_eq_true rfl) D_x_owed_3 ?_
  refine z_ifeqB (tgt := 24) D_x_owed_6 (by decide) (fun q6 => ?_) (fun q6 => ?_)
  · refine z_iconst D_x_owed_24 ?_
    exact z_ireturn rfl D_x_owed_25 (pvI (by (repeat' split) <;> first | rfl | omega | (exfalso; omega)) rfl)
  · refine z_aload_n D_x_owed_9 rfl ?_
    refine z_getR (q := 11) fl_x_29 (rfl) rfl (rfl) D_x_owed_10 ?_
    refine z_iload_n D_x_owed_13 rfl ?_
    refine z_iload_n D_x_owed_14 rfl ?_
    refine z_S2 (c_d_debt) G_d_debt S_d_debt lk_x_148 ⟨Nat.le_of_ble_eq_true rfl, Nat.le_of_ble_eq_true rfl⟩ (Nat.le_of_ble_eq_true rfl) D_x_owed_15 ?_
    refine z_V1 (c0 := 5) (c_d_value hu (by omega)) G_d_value I_d_value lk_x_131 (rfl) ⟨by decide, rfl⟩ ⟨Nat.le_of_ble_eq_true rfl, Nat.le_of_ble_eq_true rfl⟩ (Nat.le_of_ble_eq_true rfl) D_x_owed_18 ?_
    refine z_goto (tgt := 25) D_x_owed_21 (by decide) ?_
    exact z_ireturn rfl D_x_owed_25 (pvI (by (repeat' split) <;> first | rfl | omega | (exfalso; omega)) rfl)

theorem c_m_owed {h : zH} {p : Int} {q : Int} (hm : MI h) (r_p : -2147483648 ≤ p ∧ p ≤ 2147483647) (r_q : -2147483648 ≤ q ∧ q ≤ 2147483647) : zC M_m_owed [vR 39, vI p, vI q] h (pV (vI (if p ≠ q ∧ (0 ≤ p ∧ p < h 39 4) ∧ (0 ≤ q ∧ q < h 39 4) then owF (nm h) p q else -1)) h) := by
  refine zC.ofN 0 (by decide) (by first | decide | exact Nat.le_of_ble_eq_true rfl) ?_
  show Z M_m_owed _ 0 [vR 39, vI p, vI q] [] h
  have hn := hm.hn
  have hnp := hm.hnp
  have ht := hm.row.ht
  have hh := hm.row.hh
  have hc := hm.row.hc
  unfold nm at ht hh hc
  refine z_aload_n D_m_owed_0 rfl ?_
  refine z_iload_n D_m_owed_1 rfl ?_
  refine z_iload_n D_m_owed_2 rfl ?_
  refine z_V2 (c0 := 12) (c_m_areTwo hm (by omega) (by omega)) G_m_areTwo I_m_areTwo lk_m_161 (rfl) ⟨by decide, rfl⟩ ⟨Nat.le_of_ble_eq_true rfl, Nat.le_of_ble_eq_true rfl⟩ (Nat.le_of_ble_eq_true rfl) D_m_owed_3 ?_
  refine z_ifeqB (tgt := 26) D_m_owed_6 (by decide) (fun q6 => ?_) (fun q6 => ?_)
  · refine z_iconst D_m_owed_26 ?_
    exact z_ireturn rfl D_m_owed_27 (pvI (by first | (rw [if_pos q6]; unfold owF nm; rw [Int.mul_comm]) | rw [if_neg q6]) rfl)
  · refine z_aload_n D_m_owed_9 rfl ?_
    refine z_getR (q := 42) fl_m_23 (rfl) rfl (rfl) D_m_owed_10 ?_
    refine z_bipush (by decide) D_m_owed_13 ?_
    refine z_bipush (by decide) D_m_owed_15 ?_
    refine z_iload_n D_m_owed_17 rfl ?_
    refine z_imul D_m_owed_18 ?_
    refine z_iadd D_m_owed_19 ?_
    refine z_iload_n D_m_owed_20 rfl ?_
    refine z_iadd D_m_owed_21 ?_
    refine z_iald (n := 573) (rfl) (by omega) D_m_owed_22 ?_
    refine z_goto (tgt := 27) D_m_owed_23 (by decide) ?_
    exact z_ireturn rfl D_m_owed_27 (pvI (by first | (rw [if_pos q6]; unfold owF nm; rw [Int.mul_comm]) | rw [if_neg q6]) rfl)

def alk (P : Int → Int) (n t j : Int) : Bool := P j == P (rnd n (j + t))
theorem l_w_isAlike {h : zH} {w : Nat} {t : Int} (hx : XI h w) (ht1 : 0 ≤ t ∧ t ≤ 12) : ∀ (k : Nat) (i : Int), 0 ≤ i → i ≤ h w 3 → h w 3 - i < k → allF (alk (px h w) (h w 3) t) i.toNat = true → Z M_w_isAlike (pV (vI (zb (allF (alk (px h w) (h w 3) t) (h w 3).toNat = true))) h) 2 [vR w, vI t, vI i] [] h := by
  intro k
  induction k with
  | zero => intro i h0 h1 h2; omega
  | succ k ih =>
    intro i h0 h1 h2 hA
    have hw := hx.2.1
    have hn := hx.2.2.2.hn
    have e := allF_1 (b := alk (px h w) (h w 3) t) h0
    rw [hA, Bool.true_and] at e
    have hj := fun q => hx.2.2.2.hP h0 q
    have hr := rnd_in (x := i + t) hn.1
    have hk := fun q => hx.2.2.2.hP hr.1 q
    have hxt : i = h w 3 → allF (alk (px h w) (h w 3) t) (h w 3).toNat = true := fun e9 => by rw [← e9]; rw [← e9] at hA; exact hA
    refine z_iload_n D_w_isAlike_2 rfl ?_
    refine z_aload_n D_w_isAlike_3 rfl ?_
    refine z_getI fl_w_21 (kw hw) rfl D_w_isAlike_4 ?_
    refine z_icmp_ge (tgt := 33) D_w_isAlike_7 (by decide) (by omega) (by omega) (fun q7 => ?_) (fun q7 => ?_)
    · refine z_iconst D_w_isAlike_33 ?_
      exact z_zreturn rfl (by first | exact Or.inl rfl | exact Or.inr rfl | exact zb_01 _) D_w_isAlike_34 (pvI (by rw [hxt (by omega)]; rfl) rfl)
    · refine z_aload_n D_w_isAlike_10 rfl ?_
      refine z_getR (q := (w + 1)) fl_w_9 (kw hw) rfl (kw0 hw) D_w_isAlike_11 ?_
      refine z_iload_n D_w_isAlike_14 rfl ?_
      refine z_iald (n := 12) (kwp hw) (by omega) D_w_isAlike_15 ?_
      refine z_aload_n D_w_isAlike_16 rfl ?_
      refine z_iload_n D_w_isAlike_17 rfl ?_
      refine z_iload_n D_w_isAlike_18 rfl ?_
      refine z_V2 (c0 := 10) (c_w_colourAt hw hn (by omega)) G_w_colourAt I_w_colourAt lk_w_51 (kw hw) ⟨by decide, rfl⟩ ⟨Nat.le_of_ble_eq_true rfl, Nat.le_of_ble_eq_true rfl⟩ (Nat.le_of_ble_eq_true rfl) D_w_isAlike_19 ?_
      refine z_icmp_eq (tgt := 27) D_w_isAlike_22 (by decide) (by have := hj (by omega); unfold px at this; omega) (by have := hk (by omega); unfold px at this; omega) (fun q22 => ?_) (fun q22 => ?_)
      · refine z_iinc_2 D_w_isAlike_27 (Nat.le_of_ble_eq_true rfl) rfl ?_
        refine z_goto (tgt := 2) D_w_isAlike_30 (by decide) ?_
        exact ih (i + 1) (by omega) (by omega) (by omega) (e.trans (by unfold alk px; simpa using q22))
      · refine z_iconst D_w_isAlike_25 ?_
        exact z_zreturn rfl (by first | exact Or.inl rfl | exact Or.inr rfl | exact zb_01 _) D_w_isAlike_26 (pvI (by rw [allF_f h0 (by omega) (by unfold alk px; simpa using q22)]; rfl) rfl)
theorem c_w_isAlike {h : zH} {w : Nat} {t : Int} (hx : XI h w) (ht1 : 0 ≤ t ∧ t ≤ 12) : zC M_w_isAlike [vR w, vI t] h (pV (vI (zb (allF (alk (px h w) (h w 3) t) (h w 3).toNat = true))) h) := by
  refine zC.ofN 1 (by decide) (by first | decide | exact Nat.le_of_ble_eq_true rfl) ?_
  show Z M_w_isAlike _ 0 [vR w, vI t, vU] [] h
  refine z_iconst D_w_isAlike_0 ?_
  refine z_istore_2 D_w_isAlike_1 (Nat.le_of_ble_eq_true rfl) rfl ?_
  have hn := hx.2.2.2.hn
  exact l_w_isAlike hx ht1 (13 : Nat) 0 (by omega) (by omega) (by omega) rfl

theorem l_w_leastLikeTurn {h : zH} {w : Nat} (hx : XI h w) : ∀ (k : Nat) (i : Int), 1 ≤ i → i + k = h w 3 + 1 → Z M_w_leastLikeTurn (pV (vI (lstU (fun t => allF (alk (px h w) (h w 3) t) (h w 3).toNat) (-9) k i)) h) 2 [vR w, vI i] [] h := by
  intro k
  induction k with
  | zero =>
    intro i h0 h1
    have hw := hx.2.1
    have hn := hx.2.2.2.hn
    refine z_iload_n D_w_leastLikeTurn_2 rfl ?_
    refine z_aload_n D_w_leastLikeTurn_3 rfl ?_
    refine z_getI fl_w_21 (kw hw) rfl D_w_leastLikeTurn_4 ?_
    refine z_icmp_gt (tgt := 26) D_w_leastLikeTurn_7 (by decide) (by omega) (by omega) (fun q7 => ?_) (fun q7 => ?_)
    · refine z_bipush (by decide) D_w_leastLikeTurn_26 ?_
      exact z_ireturn rfl D_w_leastLikeTurn_28 (pvI rfl rfl)
    · omega
  | succ k ih =>
    intro i h0 h1
    have hw := hx.2.1
    have hn := hx.2.2.2.hn
    refine z_iload_n D_w_leastLikeTurn_2 rfl ?_
    refine z_aload_n D_w_leastLikeTurn_3 rfl ?_
    refine z_getI fl_w_21 (kw hw) rfl D_w_leastLikeTurn_4 ?_
    refine z_icmp_gt (tgt := 26) D_w_leastLikeTurn_7 (by decide) (by omega) (by omega) (fun q7 => ?_) (fun q7 => ?_)
    · omega
    · refine z_aload_n D_w_leastLikeTurn_10 rfl ?_
      refine z_iload_n D_w_leastLikeTurn_11 rfl ?_
      refine z_V1 (c0 := 10) (c_w_isAlike hx (by omega)) G_w_isAlike I_w_isAlike lk_w_47 (kw hw) ⟨by decide, rfl⟩ ⟨Nat.le_of_ble_eq_true rfl, Nat.le_of_ble_eq_true rfl⟩ (Nat.le_of_ble_eq_true rfl) D_w_leastLikeTurn_12 ?_
      refine z_ifeqB (tgt := 20) D_w_leastLikeTurn_15 (by decide) (fun q15 => ?_) (fun q15 => ?_)
      · refine z_iinc_1 D_w_leastLikeTurn_20 (Nat.le_of_ble_eq_true rfl) rfl ?_
        refine z_goto (tgt := 2) D_w_leastLikeTurn_23 (by decide) ?_
        have q := ih (i + 1) (by omega) (by omega)
        rw [lstU, if_neg q15]
        exact q
      · refine z_iload_n D_w_leastLikeTurn_18 rfl ?_
        exact z_ireturn rfl D_w_leastLikeTurn_19 (pvI (by rw [lstU, if_pos q15]) rfl)
theorem c_w_leastLikeTurn {h : zH} {w : Nat} (hx : XI h w) : zC M_w_leastLikeTurn [vR w] h (pV (vI (lstU (fun t => allF (alk (px h w) (h w 3) t) (h w 3).toNat) (-9) (h w 3).toNat 1)) h) := by
  refine zC.ofN 1 (by decide) (by first | decide | exact Nat.le_of_ble_eq_true rfl) ?_
  show Z M_w_leastLikeTurn _ 0 [vR w, vU] [] h
  refine z_iconst D_w_leastLikeTurn_0 ?_
  refine z_istore_1 D_w_leastLikeTurn_1 (Nat.le_of_ble_eq_true rfl) rfl ?_
  have hn := hx.2.2.2.hn
  exact l_w_leastLikeTurn hx _ 1 (by omega) (by omega)

theorem l_m_isAlike {h : zH} {t : Int} (hm : MI h) (ht1 : 0 ≤ t ∧ t ≤ 12) : ∀ (k : Nat) (i : Int), 0 ≤ i → i ≤ h 39 0 → h 39 0 - i < k → Z M_m_isAlike (pV (vI (zb (allF (alk (pm h) (h 39 0) t) (h 39 0).toNat = true))) h) 4 [vR 39, vI t, vI (zb (allF (alk (pm h) (h 39 0) t) i.toNat = true)), vI i] [] h := by
  intro k
  induction k with
  | zero => intro i h0 h1 h2; omega
  | succ k ih =>
    intro i h0 h1 h2
    have hn := hm.hn
    have e := allF_1 (b := alk (pm h) (h 39 0) t) h0
    have hj := fun q => hm.hP h0 q
    have hr := fun q => emod_in (x := i + t) (n := h 39 0) q
    have hk := fun q => hm.hP (hr q).1 (hr q).2
    have hxt : i = h 39 0 → zb (allF (alk (pm h) (h 39 0) t) i.toNat = true) = zb (allF (alk (pm h) (h 39 0) t) (h 39 0).toNat = true) := fun e9 => by rw [e9]
    have q := ih (i + 1) (by omega)
    rw [e] at q
    refine z_iload_n D_m_isAlike_4 rfl ?_
    refine z_aload_n D_m_isAlike_5 rfl ?_
    refine z_getI fl_m_73 (rfl) rfl D_m_isAlike_6 ?_
    refine z_icmp_ge (tgt := 50) D_m_isAlike_9 (by decide) (by omega) (by omega) (fun q9 => ?_) (fun q9 => ?_)
    · refine z_iload_n D_m_isAlike_50 rfl ?_
      exact z_zreturn rfl (by first | exact Or.inl rfl | exact Or.inr rfl | exact zb_01 _) D_m_isAlike_51 (pvI (hxt (by omega)) rfl)
    · skip
      refine z_iload_n D_m_isAlike_12 rfl ?_
      refine z_ifeqB (tgt := 42) D_m_isAlike_13 (by decide) (fun q13 => ?_) (fun q13 => ?_)
      · refine z_iconst D_m_isAlike_42 ?_
        refine z_istore_2 D_m_isAlike_43 (Nat.le_of_ble_eq_true rfl) rfl ?_
        refine z_iinc_3 D_m_isAlike_44 (Nat.le_of_ble_eq_true rfl) rfl ?_
        refine z_goto (tgt := 4) D_m_isAlike_47 (by decide) ?_
        have e2 : (allF (alk (pm h) (h 39 0) t) i.toNat && alk (pm h) (h 39 0) t i) = false := by
          rw [Bool.and_eq_false_iff]; left; simpa using q13
        rw [e2] at q
        exact q (by omega) (by omega)
      · refine z_aload_n D_m_isAlike_16 rfl ?_
        refine z_getR (q := 40) fl_m_7 (rfl) rfl (rfl) D_m_isAlike_17 ?_
        refine z_iload_n D_m_isAlike_20 rfl ?_
        refine z_iald (n := 12) (rfl) (by omega) D_m_isAlike_21 ?_
        refine z_aload_n D_m_isAlike_22 rfl ?_
        refine z_getR (q := 40) fl_m_7 (rfl) rfl (rfl) D_m_isAlike_23 ?_
        refine z_iload_n D_m_isAlike_26 rfl ?_
        refine z_iload_n D_m_isAlike_27 rfl ?_
        refine z_iadd D_m_isAlike_28 ?_
        refine z_aload_n D_m_isAlike_29 rfl ?_
        refine z_getI fl_m_73 (rfl) rfl D_m_isAlike_30 ?_
        refine z_irem_p D_m_isAlike_33 (by omega) (by omega) ?_
        refine z_iald (n := 12) (rfl) (by have := hr (by omega); omega) D_m_isAlike_34 ?_
        refine z_icmp_ne (tgt := 42) D_m_isAlike_35 (by decide) (by have := hj (by omega); unfold pm at this; omega) (by have := hk (by omega); unfold pm at this; omega) (fun q35 => ?_) (fun q35 => ?_)
        · refine z_iconst D_m_isAlike_42 ?_
          refine z_istore_2 D_m_isAlike_43 (Nat.le_of_ble_eq_true rfl) rfl ?_
          refine z_iinc_3 D_m_isAlike_44 (Nat.le_of_ble_eq_true rfl) rfl ?_
          refine z_goto (tgt := 4) D_m_isAlike_47 (by decide) ?_
          have e2 : (allF (alk (pm h) (h 39 0) t) i.toNat && alk (pm h) (h 39 0) t i) = false := by
            rw [Bool.and_eq_false_iff]; right; unfold alk rnd; rw [if_pos (by omega)]; unfold pm; simpa using q35
          rw [e2] at q
          exact q (by omega) (by omega)
        · refine z_iconst D_m_isAlike_38 ?_
          refine z_goto (tgt := 43) D_m_isAlike_39 (by decide) ?_
          refine z_istore_2 D_m_isAlike_43 (Nat.le_of_ble_eq_true rfl) rfl ?_
          refine z_iinc_3 D_m_isAlike_44 (Nat.le_of_ble_eq_true rfl) rfl ?_
          refine z_goto (tgt := 4) D_m_isAlike_47 (by decide) ?_
          have e2 : (allF (alk (pm h) (h 39 0) t) i.toNat && alk (pm h) (h 39 0) t i) = true := by
            rw [q13, Bool.true_and]; unfold alk rnd; rw [if_pos (by omega)]; unfold pm; simpa using q35
          rw [e2] at q
          exact q (by omega) (by omega)
theorem c_m_isAlike {h : zH} {t : Int} (hm : MI h) (ht1 : 0 ≤ t ∧ t ≤ 12) : zC M_m_isAlike [vR 39, vI t] h (pV (vI (zb (allF (alk (pm h) (h 39 0) t) (h 39 0).toNat = true))) h) := by
  refine zC.ofN 2 (by decide) (by first | decide | exact Nat.le_of_ble_eq_true rfl) ?_
  show Z M_m_isAlike _ 0 [vR 39, vI t, vU, vU] [] h
  refine z_iconst D_m_isAlike_0 ?_
  refine z_istore_2 D_m_isAlike_1 (Nat.le_of_ble_eq_true rfl) rfl ?_
  refine z_iconst D_m_isAlike_2 ?_
  refine z_istore_3 D_m_isAlike_3 (Nat.le_of_ble_eq_true rfl) rfl ?_
  have hn := hm.hn
  exact l_m_isAlike hm ht1 (13 : Nat) 0 (by omega) (by omega) (by omega)

theorem l_m_alike {h : zH} {y : Int} (hm : MI h) : ∀ (k : Nat) (a : Int), k ≤ 12 → lstD (fun t => allF (alk (pm h) (h 39 0) t) (h 39 0).toNat) k a = y → Z M_m_alike (pV (vI y) h) 8 [vR 39, vI a, vI (k : Int)] [] h := by
  intro k
  induction k with
  | zero =>
    intro a h0 hy
    refine z_iload_n D_m_alike_8 rfl ?_
    refine z_if_le (tgt := 32) D_m_alike_9 (by decide) (by omega) (fun q9 => ?_) (fun q9 => ?_)
    · refine z_iload_n D_m_alike_32 rfl ?_
      exact z_ireturn rfl D_m_alike_33 (pvI hy rfl)
    · omega
  | succ k ih =>
    intro a h0 hy
    have e : ((k + 1 : Nat) : Int) + (-1) = (k : Int) := by omega
    simp only [lstD] at hy
    refine z_iload_n D_m_alike_8 rfl ?_
    refine z_if_le (tgt := 32) D_m_alike_9 (by decide) (by omega) (fun q9 => ?_) (fun q9 => ?_)
    · omega
    · refine z_aload_n D_m_alike_12 rfl ?_
      refine z_iload_n D_m_alike_13 rfl ?_
      refine z_V1 (c0 := 12) (c_m_isAlike hm (by omega)) G_m_isAlike I_m_isAlike lk_m_184 (rfl) ⟨by decide, rfl⟩ ⟨Nat.le_of_ble_eq_true rfl, Nat.le_of_ble_eq_true rfl⟩ (Nat.le_of_ble_eq_true rfl) D_m_alike_14 ?_
      refine z_ifeqB (tgt := 24) D_m_alike_17 (by decide) (fun q17 => ?_) (fun q17 => ?_)
      · refine z_iload_n D_m_alike_24 rfl ?_
        refine z_istore_1 D_m_alike_25 (Nat.le_of_ble_eq_true rfl) rfl ?_
        refine z_iinc_2 D_m_alike_26 (Nat.le_of_ble_eq_true rfl) rfl ?_
        refine z_goto (tgt := 8) D_m_alike_29 (by decide) ?_
        rw [e]
        rw [show ((k + 1 : Nat) : Int) = (k : Int) + 1 by omega] at q17
        first
        | (rw [if_pos q17] at hy; exact ih _ (by omega) hy)
        | (rw [if_neg q17] at hy; exact ih _ (by omega) hy)
      · refine z_iload_n D_m_alike_20 rfl ?_
        refine z_goto (tgt := 25) D_m_alike_21 (by decide) ?_
        refine z_istore_1 D_m_alike_25 (Nat.le_of_ble_eq_true rfl) rfl ?_
        refine z_iinc_2 D_m_alike_26 (Nat.le_of_ble_eq_true rfl) rfl ?_
        refine z_goto (tgt := 8) D_m_alike_29 (by decide) ?_
        rw [e]
        rw [show ((k + 1 : Nat) : Int) = (k : Int) + 1 by omega] at q17
        first
        | (rw [if_pos q17] at hy; exact ih _ (by omega) hy)
        | (rw [if_neg q17] at hy; exact ih _ (by omega) hy)
theorem c_m_alike {h : zH}  (hm : MI h) : zC M_m_alike [vR 39] h (pV (vI (lstU (fun t => allF (alk (pm h) (h 39 0) t) (h 39 0).toNat) (-9) (h 39 0).toNat 1)) h) := by
  refine zC.ofN 2 (by decide) (by first | decide | exact Nat.le_of_ble_eq_true rfl) ?_
  show Z M_m_alike _ 0 [vR 39, vU, vU] [] h
  refine z_bipush (by decide) D_m_alike_0 ?_
  refine z_istore_1 D_m_alike_2 (Nat.le_of_ble_eq_true rfl) rfl ?_
  refine z_aload_n D_m_alike_3 rfl ?_
  refine z_getI fl_m_73 (rfl) rfl D_m_alike_4 ?_
  refine z_istore_2 D_m_alike_7 (Nat.le_of_ble_eq_true rfl) rfl ?_
  have hn := hm.hn
  rw [← lstD_U]
  have q := l_m_alike (y := lstD (fun t => allF (alk (pm h) (h 39 0) t) (h 39 0).toNat) (h 39 0).toNat (-9)) hm (h 39 0).toNat (-9) (by omega) rfl
  rw [tn hn.1] at q
  exact q

theorem c_x_count {h : zH} {w : Nat} {t : Int} (h01 : h 0 1 = (w : Int)) (hw : w = 3 ∨ w = 7) (r_t : -2147483648 ≤ t ∧ t ≤ 2147483647) : zC M_x_count [vR 0, vI t] h (pV (vI (if t = 0 then h w 3 else if t = 1 then h w 5 else if t = 2 then h w 6 else if t = 3 then h w 4 else if t = 4 then h 19 2 else if t = 5 then h 22 2 else if t = 6 then h 11 1 else if t = 7 then h 1 1 else -1)) h) := by
  refine zC.ofN 0 (by decide) (by first | decide | exact Nat.le_of_ble_eq_true rfl) ?_
  show Z M_x_count _ 0 [vR 0, vI t] [] h
  refine z_iload_n D_x_count_0 rfl ?_
  by_cases s1_0 : t = 0
  · subst s1_0
    refine z_tabIn (tgt := 48) (off := 47) D_x_count_1 (by omega) (by omega) (by omega) rfl (by decide) ?_
    refine z_aload_n D_x_count_48 rfl ?_
    refine z_getW fl_x_19 (by decide) h01 D_x_count_49 ?_
    refine z_getI fl_x_155 (kw hw) rfl D_x_count_52 ?_
    exact z_ireturn rfl D_x_count_55 (pvI (by (repeat' split) <;> first | rfl | omega | (exfalso; omega)) rfl)
  by_cases s1_1 : t = 1
  · subst s1_1
    refine z_tabIn (tgt := 56) (off := 55) D_x_count_1 (by omega) (by omega) (by omega) rfl (by decide) ?_
    refine z_aload_n D_x_count_56 rfl ?_
    refine z_getW fl_x_19 (by decide) h01 D_x_count_57 ?_
    refine z_getI fl_x_261 (kw hw) rfl D_x_count_60 ?_
    exact z_ireturn rfl D_x_count_63 (pvI (by (repeat' split) <;> first | rfl | omega | (exfalso; omega)) rfl)
  by_cases s1_2 : t = 2
  · subst s1_2
    refine z_tabIn (tgt := 64) (off := 63) D_x_count_1 (by omega) (by omega) (by omega) rfl (by decide) ?_
    refine z_aload_n D_x_count_64 rfl ?_
    refine z_getW fl_x_19 (by decide) h01 D_x_count_65 ?_
    refine z_getI fl_x_264 (kw hw) rfl D_x_count_68 ?_
    exact z_ireturn rfl D_x_count_71 (pvI (by (repeat' split) <;> first | rfl | omega | (exfalso; omega)) rfl)
  by_cases s1_3 : t = 3
  · subst s1_3
    refine z_tabIn (tgt := 72) (off := 71) D_x_count_1 (by omega) (by omega) (by omega) rfl (by decide) ?_
    refine z_aload_n D_x_count_72 rfl ?_
    refine z_getW fl_x_19 (by decide) h01 D_x_count_73 ?_
    refine z_getI fl_x_177 (kw hw) rfl D_x_count_76 ?_
    exact z_ireturn rfl D_x_count_79 (pvI (by (repeat' split) <;> first | rfl | omega | (exfalso; omega)) rfl)
  by_cases s1_4 : t = 4
  · subst s1_4
    refine z_tabIn (tgt := 80) (off := 79) D_x_count_1 (by omega) (by omega) (by omega) rfl (by decide) ?_
    refine z_aload_n D_x_count_80 rfl ?_
    refine z_getR (q := 19) fl_x_44 (rfl) rfl (rfl) D_x_count_81 ?_
    refine z_getI fl_x_119 (rfl) rfl D_x_count_84 ?_
    exact z_ireturn rfl D_x_count_87 (pvI (by (repeat' split) <;> first | rfl | omega | (exfalso; omega)) rfl)
  by_cases s1_5 : t = 5
  · subst s1_5
    refine z_tabIn (tgt := 88) (off := 87) D_x_count_1 (by omega) (by omega) (by omega) rfl (by decide) ?_
    refine z_aload_n D_x_count_88 rfl ?_
    refine z_getR (q := 22) fl_x_48 (rfl) rfl (rfl) D_x_count_89 ?_
    refine z_getI fl_x_119 (rfl) rfl D_x_count_92 ?_
    exact z_ireturn rfl D_x_count_95 (pvI (by (repeat' split) <;> first | rfl | omega | (exfalso; omega)) rfl)
  by_cases s1_6 : t = 6
  · subst s1_6
    refine z_tabIn (tgt := 96) (off := 95) D_x_count_1 (by omega) (by omega) (by omega) rfl (by decide) ?_
    refine z_aload_n D_x_count_96 rfl ?_
    refine z_getR (q := 11) fl_x_29 (rfl) rfl (rfl) D_x_count_97 ?_
    refine z_getI fl_x_180 (rfl) rfl D_x_count_100 ?_
    exact z_ireturn rfl D_x_count_103 (pvI (by (repeat' split) <;> first | rfl | omega | (exfalso; omega)) rfl)
  by_cases s1_7 : t = 7
  · subst s1_7
    refine z_tabIn (tgt := 104) (off := 103) D_x_count_1 (by omega) (by omega) (by omega) rfl (by decide) ?_
    refine z_aload_n D_x_count_104 rfl ?_
    refine z_getR (q := 1) fl_x_10 (rfl) rfl (rfl) D_x_count_105 ?_
    refine z_getI fl_x_107 (rfl) rfl D_x_count_108 ?_
    exact z_ireturn rfl D_x_count_111 (pvI (by (repeat' split) <;> first | rfl | omega | (exfalso; omega)) rfl)
  refine z_tabOut (tgt := 112) D_x_count_1 (by omega) (by omega) (by decide) ?_
  refine z_iconst D_x_count_112 ?_
  exact z_ireturn rfl D_x_count_113 (pvI (by (repeat' split) <;> first | rfl | omega | (exfalso; omega)) rfl)

theorem c_m_count {h : zH} {t : Int} (r_t : -2147483648 ≤ t ∧ t ≤ 2147483647) : zC M_m_count [vR 39, vI t] h (pV (vI (if t = 0 then h 39 0 else if t = 1 then h 39 2 else if t = 2 then h 39 3 else if t = 3 then h 39 4 else if t = 4 then h 39 9 else if t = 5 then h 39 11 else if t = 6 then nm h 52 else if t = 7 then h 39 15 else -1)) h) := by
  refine zC.ofN 0 (by decide) (by first | decide | exact Nat.le_of_ble_eq_true rfl) ?_
  show Z M_m_count _ 0 [vR 39, vI t] [] h
  refine z_iload_n D_m_count_0 rfl ?_
  by_cases s1_0 : t = 0
  · subst s1_0
    refine z_tabIn (tgt := 48) (off := 47) D_m_count_1 (by omega) (by omega) (by omega) rfl (by decide) ?_
    refine z_aload_n D_m_count_48 rfl ?_
    refine z_getI fl_m_73 (rfl) rfl D_m_count_49 ?_
    exact z_ireturn rfl D_m_count_52 (pvI (by (repeat' split) <;> first | rfl | omega | (exfalso; omega)) rfl)
  by_cases s1_1 : t = 1
  · subst s1_1
    refine z_tabIn (tgt := 53) (off := 52) D_m_count_1 (by omega) (by omega) (by omega) rfl (by decide) ?_
    refine z_aload_n D_m_count_53 rfl ?_
    refine z_getI fl_m_13 (rfl) rfl D_m_count_54 ?_
    exact z_ireturn rfl D_m_count_57 (pvI (by (repeat' split) <;> first | rfl | omega | (exfalso; omega)) rfl)
  by_cases s1_2 : t = 2
  · subst s1_2
    refine z_tabIn (tgt := 58) (off := 57) D_m_count_1 (by omega) (by omega) (by omega) rfl (by decide) ?_
    refine z_aload_n D_m_count_58 rfl ?_
    refine z_getI fl_m_17 (rfl) rfl D_m_count_59 ?_
    exact z_ireturn rfl D_m_count_62 (pvI (by (repeat' split) <;> first | rfl | omega | (exfalso; omega)) rfl)
  by_cases s1_3 : t = 3
  · subst s1_3
    refine z_tabIn (tgt := 63) (off := 62) D_m_count_1 (by omega) (by omega) (by omega) rfl (by decide) ?_
    refine z_aload_n D_m_count_63 rfl ?_
    refine z_getI fl_m_66 (rfl) rfl D_m_count_64 ?_
    exact z_ireturn rfl D_m_count_67 (pvI (by (repeat' split) <;> first | rfl | omega | (exfalso; omega)) rfl)
  by_cases s1_4 : t = 4
  · subst s1_4
    refine z_tabIn (tgt := 68) (off := 67) D_m_count_1 (by omega) (by omega) (by omega) rfl (by decide) ?_
    refine z_aload_n D_m_count_68 rfl ?_
    refine z_getI fl_m_140 (rfl) rfl D_m_count_69 ?_
    exact z_ireturn rfl D_m_count_72 (pvI (by (repeat' split) <;> first | rfl | omega | (exfalso; omega)) rfl)
  by_cases s1_5 : t = 5
  · subst s1_5
    refine z_tabIn (tgt := 73) (off := 72) D_m_count_1 (by omega) (by omega) (by omega) rfl (by decide) ?_
    refine z_aload_n D_m_count_73 rfl ?_
    refine z_getI fl_m_143 (rfl) rfl D_m_count_74 ?_
    exact z_ireturn rfl D_m_count_77 (pvI (by (repeat' split) <;> first | rfl | omega | (exfalso; omega)) rfl)
  by_cases s1_6 : t = 6
  · subst s1_6
    refine z_tabIn (tgt := 78) (off := 77) D_m_count_1 (by omega) (by omega) (by omega) rfl (by decide) ?_
    refine z_aload_n D_m_count_78 rfl ?_
    refine z_getR (q := 42) fl_m_23 (rfl) rfl (rfl) D_m_count_79 ?_
    refine z_bipush (by decide) D_m_count_82 ?_
    refine z_iald (n := 573) (rfl) (by omega) D_m_count_84 ?_
    exact z_ireturn rfl D_m_count_85 (pvI (by (repeat' split) <;> first | rfl | omega | (exfalso; omega)) rfl)
  by_cases s1_7 : t = 7
  · subst s1_7
    refine z_tabIn (tgt := 86) (off := 85) D_m_count_1 (by omega) (by omega) (by omega) rfl (by decide) ?_
    refine z_aload_n D_m_count_86 rfl ?_
    refine z_getI fl_m_76 (rfl) rfl D_m_count_87 ?_
    exact z_ireturn rfl D_m_count_90 (pvI (by (repeat' split) <;> first | rfl | omega | (exfalso; omega)) rfl)
  refine z_tabOut (tgt := 91) D_m_count_1 (by omega) (by omega) (by decide) ?_
  refine z_iconst D_m_count_91 ?_
  exact z_ireturn rfl D_m_count_92 (pvI (by (repeat' split) <;> first | rfl | omega | (exfalso; omega)) rfl)

theorem c_x_trace {h : zH}   : zC M_x_trace [vR 0] h (pV (vL (h 25 5)) h) := by
  refine zC.ofN 0 (by decide) (by first | decide | exact Nat.le_of_ble_eq_true rfl) ?_
  show Z M_x_trace _ 0 [vR 0] [] h
  refine z_aload_n D_x_trace_0 rfl ?_
  refine z_getR (q := 25) fl_x_54 (rfl) rfl (rfl) D_x_trace_1 ?_
  refine z_getL fl_x_267 (rfl) rfl D_x_trace_4 ?_
  exact z_lreturn rfl D_x_trace_7 (pvL rfl rfl)

theorem c_m_trace {h : zH}   : zC M_m_trace [vR 39] h (pV (vL (h 39 13)) h) := by
  refine zC.ofN 0 (by decide) (by first | decide | exact Nat.le_of_ble_eq_true rfl) ?_
  show Z M_m_trace _ 0 [vR 39] [] h
  refine z_aload_n D_m_trace_0 rfl ?_
  refine z_getL fl_m_231 (rfl) rfl D_m_trace_1 ?_
  exact z_lreturn rfl D_m_trace_4 (pvL rfl rfl)

theorem c_x_forget {h : zH}   : zC M_x_forget [vR 0] h (pV (vI (h 19 2 + h 22 2)) (zup (zup h 19 2 0) 22 2 0)) := by
  refine zC.ofN 1 (by decide) (by first | decide | exact Nat.le_of_ble_eq_true rfl) ?_
  show Z M_x_forget _ 0 [vR 0, vU] [] h
  refine z_aload_n D_x_forget_0 rfl ?_
  refine z_getR (q := 19) fl_x_44 (rfl) rfl (rfl) D_x_forget_1 ?_
  refine z_getI fl_x_119 (rfl) rfl D_x_forget_4 ?_
  refine z_aload_n D_x_forget_7 rfl ?_
  refine z_getR (q := 22) fl_x_48 (rfl) rfl (rfl) D_x_forget_8 ?_
  refine z_getI fl_x_119 (rfl) rfl D_x_forget_11 ?_
  refine z_iadd D_x_forget_14 ?_
  refine z_istore_1 D_x_forget_15 (Nat.le_of_ble_eq_true rfl) rfl ?_
  refine z_aload_n D_x_forget_16 rfl ?_
  refine z_getR (q := 19) fl_x_44 (rfl) rfl (rfl) D_x_forget_17 ?_
  refine z_iconst D_x_forget_20 ?_
  refine z_putI fl_x_119 (rfl) rfl rfl D_x_forget_21 ?_
  refine z_aload_n D_x_forget_24 rfl ?_
  refine z_getR (q := 22) fl_x_48 (rfl) rfl (rfl) D_x_forget_25 ?_
  refine z_iconst D_x_forget_28 ?_
  refine z_putI fl_x_119 (rfl) rfl rfl D_x_forget_29 ?_
  refine z_iload_n D_x_forget_32 rfl ?_
  exact z_ireturn rfl D_x_forget_33 (pvI rfl rfl)

theorem c_m_forget {h : zH}   : zC M_m_forget [vR 39] h (pV (vI (h 39 9 + h 39 11)) (zup (zup h 39 9 0) 39 11 0)) := by
  refine zC.ofN 1 (by decide) (by first | decide | exact Nat.le_of_ble_eq_true rfl) ?_
  show Z M_m_forget _ 0 [vR 39, vU] [] h
  refine z_aload_n D_m_forget_0 rfl ?_
  refine z_getI fl_m_140 (rfl) rfl D_m_forget_1 ?_
  refine z_aload_n D_m_forget_4 rfl ?_
  refine z_getI fl_m_143 (rfl) rfl D_m_forget_5 ?_
  refine z_iadd D_m_forget_8 ?_
  refine z_istore_1 D_m_forget_9 (Nat.le_of_ble_eq_true rfl) rfl ?_
  refine z_aload_n D_m_forget_10 rfl ?_
  refine z_iconst D_m_forget_11 ?_
  refine z_putI fl_m_140 (rfl) rfl rfl D_m_forget_12 ?_
  refine z_aload_n D_m_forget_15 rfl ?_
  refine z_iconst D_m_forget_16 ?_
  refine z_putI fl_m_143 (rfl) rfl rfl D_m_forget_17 ?_
  refine z_iload_n D_m_forget_20 rfl ?_
  exact z_ireturn rfl D_m_forget_21 (pvI rfl rfl)

theorem c_n_add_19 {h : zH} {p q : Int} (hs : 0 ≤ h 19 2 ∧ h 19 2 ≤ 6) : zC M_n_add [vR 19, vI p, vI q] h (pV (vI (zb (h 19 2 < 6))) (if h 19 2 < 6 then zup (zup (zup h 20 (h 19 2).toNat p) 21 (h 19 2).toNat q) 19 2 (h 19 2 + 1) else h)) := by
  refine zC.ofN 0 (by decide) (by first | decide | exact Nat.le_of_ble_eq_true rfl) ?_
  show Z M_n_add _ 0 [vR 19, vI p, vI q] [] h
  refine z_aload_n D_n_add_0 rfl ?_
  refine z_getI fl_n_18 (rfl) rfl D_n_add_1 ?_
  refine z_aload_n D_n_add_4 rfl ?_
  refine z_getR (q := 20) fl_n_9 (rfl) rfl (rfl) D_n_add_5 ?_
  refine z_alen (n := 6) (rfl) (by decide) D_n_add_8 ?_
  refine z_icmp_lt (tgt := 14) D_n_add_9 (by decide) (by omega) (by omega) (fun q9 => ?_) (fun q9 => ?_)
  · refine z_aload_n D_n_add_14 rfl ?_
    refine z_getR (q := 20) fl_n_9 (rfl) rfl (rfl) D_n_add_15 ?_
    refine z_aload_n D_n_add_18 rfl ?_
    refine z_getI fl_n_18 (rfl) rfl D_n_add_19 ?_
    refine z_iload_n D_n_add_22 rfl ?_
    refine z_iast (n := 6) (rfl) (by omega) D_n_add_23 ?_
    refine z_aload_n D_n_add_24 rfl ?_
    refine z_getR (q := 21) fl_n_15 (rfl) rfl (rfl) D_n_add_25 ?_
    refine z_aload_n D_n_add_28 rfl ?_
    refine z_getI fl_n_18 (rfl) rfl D_n_add_29 ?_
    refine z_iload_n D_n_add_32 rfl ?_
    rw [zup_ne (show (19 : Nat) ≠ 20 by decide)]
    refine z_iast (n := 6) (rfl) (by omega) D_n_add_33 ?_
    refine z_aload_n D_n_add_34 rfl ?_
    refine z_dup rfl D_n_add_35 ?_
    refine z_getI fl_n_18 (rfl) rfl D_n_add_36 ?_
    refine z_iconst D_n_add_39 ?_
    refine z_iadd D_n_add_40 ?_
    rw [zup_ne (show (19 : Nat) ≠ 21 by decide), zup_ne (show (19 : Nat) ≠ 20 by decide)]
    refine z_putI fl_n_18 (rfl) rfl rfl D_n_add_41 ?_
    refine z_iconst D_n_add_44 ?_
    exact z_zreturn rfl (by first | exact Or.inl rfl | exact Or.inr rfl | exact zb_01 _) D_n_add_45 (pvI (zb_t (by omega)).symm (if_pos (by omega)).symm)
  · refine z_iconst D_n_add_12 ?_
    exact z_zreturn rfl (by first | exact Or.inl rfl | exact Or.inr rfl | exact zb_01 _) D_n_add_13 (pvI (zb_f (by omega)).symm (if_neg (by omega)).symm)

theorem c_n_add_22 {h : zH} {p q : Int} (hs : 0 ≤ h 22 2 ∧ h 22 2 ≤ 6) : zC M_n_add [vR 22, vI p, vI q] h (pV (vI (zb (h 22 2 < 6))) (if h 22 2 < 6 then zup (zup (zup h 23 (h 22 2).toNat p) 24 (h 22 2).toNat q) 22 2 (h 22 2 + 1) else h)) := by
  refine zC.ofN 0 (by decide) (by first | decide | exact Nat.le_of_ble_eq_true rfl) ?_
  show Z M_n_add _ 0 [vR 22, vI p, vI q] [] h
  refine z_aload_n D_n_add_0 rfl ?_
  refine z_getI fl_n_18 (rfl) rfl D_n_add_1 ?_
  refine z_aload_n D_n_add_4 rfl ?_
  refine z_getR (q := 23) fl_n_9 (rfl) rfl (rfl) D_n_add_5 ?_
  refine z_alen (n := 6) (rfl) (by decide) D_n_add_8 ?_
  refine z_icmp_lt (tgt := 14) D_n_add_9 (by decide) (by omega) (by omega) (fun q9 => ?_) (fun q9 => ?_)
  · refine z_aload_n D_n_add_14 rfl ?_
    refine z_getR (q := 23) fl_n_9 (rfl) rfl (rfl) D_n_add_15 ?_
    refine z_aload_n D_n_add_18 rfl ?_
    refine z_getI fl_n_18 (rfl) rfl D_n_add_19 ?_
    refine z_iload_n D_n_add_22 rfl ?_
    refine z_iast (n := 6) (rfl) (by omega) D_n_add_23 ?_
    refine z_aload_n D_n_add_24 rfl ?_
    refine z_getR (q := 24) fl_n_15 (rfl) rfl (rfl) D_n_add_25 ?_
    refine z_aload_n D_n_add_28 rfl ?_
    refine z_getI fl_n_18 (rfl) rfl D_n_add_29 ?_
    refine z_iload_n D_n_add_32 rfl ?_
    rw [zup_ne (show (22 : Nat) ≠ 23 by decide)]
    refine z_iast (n := 6) (rfl) (by omega) D_n_add_33 ?_
    refine z_aload_n D_n_add_34 rfl ?_
    refine z_dup rfl D_n_add_35 ?_
    refine z_getI fl_n_18 (rfl) rfl D_n_add_36 ?_
    refine z_iconst D_n_add_39 ?_
    refine z_iadd D_n_add_40 ?_
    rw [zup_ne (show (22 : Nat) ≠ 24 by decide), zup_ne (show (22 : Nat) ≠ 23 by decide)]
    refine z_putI fl_n_18 (rfl) rfl rfl D_n_add_41 ?_
    refine z_iconst D_n_add_44 ?_
    exact z_zreturn rfl (by first | exact Or.inl rfl | exact Or.inr rfl | exact zb_01 _) D_n_add_45 (pvI (zb_t (by omega)).symm (if_pos (by omega)).symm)
  · refine z_iconst D_n_add_12 ?_
    exact z_zreturn rfl (by first | exact Or.inl rfl | exact Or.inr rfl | exact zb_01 _) D_n_add_13 (pvI (zb_f (by omega)).symm (if_neg (by omega)).symm)

theorem c_x_saw {h : zH} {w : Nat} {p q : Int} (hx : XI h w) (hsz : 0 ≤ h 19 2 ∧ h 19 2 ≤ 6) (r_p : -2147483648 ≤ p ∧ p ≤ 2147483647) (r_q : -2147483648 ≤ q ∧ q ≤ 2147483647) : zC M_x_saw [vR 0, vI p, vI q] h (pV (vI (if (0 ≤ p ∧ p < h w 3) ∧ (0 ≤ q ∧ q ≤ 5) then (if h 19 2 < 6 then h 19 2 + 1 else -3) else -1)) (if ((0 ≤ p ∧ p < h w 3) ∧ (0 ≤ q ∧ q ≤ 5)) ∧ h 19 2 < 6 then zup (zup (zup h 20 (h 19 2).toNat p) 21 (h 19 2).toNat q) 19 2 (h 19 2 + 1) else h)) := by
  refine zC.ofN 0 (by decide) (by first | decide | exact Nat.le_of_ble_eq_true rfl) ?_
  show Z M_x_saw _ 0 [vR 0, vI p, vI q] [] h
  have hw := hx.2.1
  have hu := hx.2.2.1
  have hn := hx.2.2.2.hn
  have hnp := hx.2.2.2.hnp
  have ht := hx.2.2.2.row.ht
  have hh := hx.2.2.2.row.hh
  have hc := hx.2.2.2.row.hc
  refine z_aload_n D_x_saw_0 rfl ?_
  refine z_getW fl_x_19 (by decide) hx.1 D_x_saw_1 ?_
  refine z_iload_n D_x_saw_4 rfl ?_
  refine z_V1 (c0 := 10) (c_w_hasSpot hw hn (by omega)) G_w_hasSpot I_w_hasSpot lk_x_122 (kw hw) ⟨by decide, rfl⟩ ⟨Nat.le_of_ble_eq_true rfl, Nat.le_of_ble_eq_true rfl⟩ (Nat.le_of_ble_eq_true rfl) D_x_saw_5 ?_
  refine z_ifeqB (tgt := 18) D_x_saw_8 (by decide) (fun q8 => ?_) (fun q8 => ?_)
  · refine z_iconst D_x_saw_18 ?_
    exact z_ireturn rfl D_x_saw_19 (pvI (by (repeat' split) <;> first | rfl | omega | (exfalso; omega)) (by (repeat' split) <;> first | rfl | omega | (exfalso; omega)))
  · refine z_iload_n D_x_saw_11 rfl ?_
    refine z_S1 (c_x_isColour (by omega)) G_x_isColour S_x_isColour lk_x_199 ⟨Nat.le_of_ble_eq_true rfl, Nat.le_of_ble_eq_true rfl⟩ (Nat.le_of_ble_eq_true rfl) D_x_saw_12 ?_
    refine z_ifneB (tgt := 20) D_x_saw_15 (by decide) (fun q15 => ?_) (fun q15 => ?_)
    · refine z_aload_n D_x_saw_20 rfl ?_
      refine z_getR (q := 19) fl_x_44 (rfl) rfl (rfl) D_x_saw_21 ?_
      refine z_iload_n D_x_saw_24 rfl ?_
      refine z_iload_n D_x_saw_25 rfl ?_
      refine z_V2 (c0 := 7) (c_n_add_19 hsz) G_n_add I_n_add lk_x_218 (rfl) ⟨by decide, rfl⟩ ⟨Nat.le_of_ble_eq_true rfl, Nat.le_of_ble_eq_true rfl⟩ (Nat.le_of_ble_eq_true rfl) D_x_saw_26 ?_
      refine z_ifeqB (tgt := 42) D_x_saw_29 (by decide) (fun q29 => ?_) (fun q29 => ?_)
      · rw [if_neg q29]
        refine z_bipush (by decide) D_x_saw_42 ?_
        exact z_ireturn rfl D_x_saw_44 (pvI (by (try rw [zup_same]); (repeat' split) <;> first | rfl | omega | (exfalso; omega)) (by (repeat' split) <;> first | rfl | omega | (exfalso; omega)))
      · rw [if_pos q29]
        refine z_aload_n D_x_saw_32 rfl ?_
        refine z_getR (q := 19) fl_x_44 (rfl) rfl (rfl) D_x_saw_33 ?_
        refine z_getI fl_x_119 (rfl) rfl D_x_saw_36 ?_
        refine z_goto (tgt := 44) D_x_saw_39 (by decide) ?_
        exact z_ireturn rfl D_x_saw_44 (pvI (by (try rw [zup_same]); (repeat' split) <;> first | rfl | omega | (exfalso; omega)) (by (repeat' split) <;> first | rfl | omega | (exfalso; omega)))
    · refine z_iconst D_x_saw_18 ?_
      exact z_ireturn rfl D_x_saw_19 (pvI (by (repeat' split) <;> first | rfl | omega | (exfalso; omega)) (by (repeat' split) <;> first | rfl | omega | (exfalso; omega)))

theorem c_m_saw {h : zH} {p q : Int} (hm : MI h) (hsz : 0 ≤ h 39 9 ∧ h 39 9 ≤ 6) (r_p : -2147483648 ≤ p ∧ p ≤ 2147483647) (r_q : -2147483648 ≤ q ∧ q ≤ 2147483647) : zC M_m_saw [vR 39, vI p, vI q] h (pV (vI (if (0 ≤ p ∧ p < h 39 0) ∧ (0 ≤ q ∧ q ≤ 5) then (if h 39 9 < 6 then h 39 9 + 1 else -3) else -1)) (if ((0 ≤ p ∧ p < h 39 0) ∧ (0 ≤ q ∧ q ≤ 5)) ∧ h 39 9 < 6 then zup (zup (zup h 45 (2 * h 39 9).toNat p) 45 (2 * h 39 9 + 1).toNat q) 39 9 (h 39 9 + 1) else h)) := by
  refine zC.ofN 0 (by decide) (by first | decide | exact Nat.le_of_ble_eq_true rfl) ?_
  show Z M_m_saw _ 0 [vR 39, vI p, vI q] [] h
  have hn := hm.hn
  have hnp := hm.hnp
  have ht := hm.row.ht
  have hh := hm.row.hh
  have hc := hm.row.hc
  unfold nm at ht hh hc
  refine z_aload_n D_m_saw_0 rfl ?_
  refine z_iload_n D_m_saw_1 rfl ?_
  refine z_V1 (c0 := 12) (c_m_isSpot hn (by omega)) G_m_isSpot I_m_isSpot lk_m_146 (rfl) ⟨by decide, rfl⟩ ⟨Nat.le_of_ble_eq_true rfl, Nat.le_of_ble_eq_true rfl⟩ (Nat.le_of_ble_eq_true rfl) D_m_saw_2 ?_
  refine z_ifeqB (tgt := 15) D_m_saw_5 (by decide) (fun q5 => ?_) (fun q5 => ?_)
  · refine z_iconst D_m_saw_15 ?_
    exact z_ireturn rfl D_m_saw_16 (pvI (by (try rw [zup_same]); (repeat' split) <;> first | rfl | omega | (exfalso; omega)) (by (repeat' split) <;> first | rfl | omega | (exfalso; omega)))
  · refine z_iload_n D_m_saw_8 rfl ?_
    refine z_S1 (c_m_isColour (by omega)) G_m_isColour S_m_isColour lk_m_200 ⟨Nat.le_of_ble_eq_true rfl, Nat.le_of_ble_eq_true rfl⟩ (Nat.le_of_ble_eq_true rfl) D_m_saw_9 ?_
    refine z_ifneB (tgt := 17) D_m_saw_12 (by decide) (fun q12 => ?_) (fun q12 => ?_)
    · refine z_aload_n D_m_saw_17 rfl ?_
      refine z_getI fl_m_140 (rfl) rfl D_m_saw_18 ?_
      refine z_bipush (by decide) D_m_saw_21 ?_
      refine z_icmp_ne (tgt := 29) D_m_saw_23 (by decide) (by omega) (by omega) (fun q23 => ?_) (fun q23 => ?_)
      · refine z_aload_n D_m_saw_29 rfl ?_
        refine z_getR (q := 45) fl_m_33 (rfl) rfl (rfl) D_m_saw_30 ?_
        refine z_iconst D_m_saw_33 ?_
        refine z_aload_n D_m_saw_34 rfl ?_
        refine z_getI fl_m_140 (rfl) rfl D_m_saw_35 ?_
        refine z_imul D_m_saw_38 ?_
        refine z_iload_n D_m_saw_39 rfl ?_
        refine z_iast (n := 12) (rfl) (by omega) D_m_saw_40 ?_
        refine z_aload_n D_m_saw_41 rfl ?_
        refine z_getR (q := 45) fl_m_33 (rfl) rfl (rfl) D_m_saw_42 ?_
        refine z_iconst D_m_saw_45 ?_
        refine z_aload_n D_m_saw_46 rfl ?_
        refine z_getI fl_m_140 (rfl) rfl D_m_saw_47 ?_
        refine z_imul D_m_saw_50 ?_
        refine z_iconst D_m_saw_51 ?_
        refine z_iadd D_m_saw_52 ?_
        refine z_iload_n D_m_saw_53 rfl ?_
        rw [zup_ne (show (39 : Nat) ≠ 45 by decide)]
        refine z_iast (n := 12) (rfl) (by omega) D_m_saw_54 ?_
        refine z_aload_n D_m_saw_55 rfl ?_
        refine z_dup rfl D_m_saw_56 ?_
        refine z_getI fl_m_140 (rfl) rfl D_m_saw_57 ?_
        refine z_iconst D_m_saw_60 ?_
        refine z_iadd D_m_saw_61 ?_
        rw [zup_ne (show (39 : Nat) ≠ 45 by decide), zup_ne (show (39 : Nat) ≠ 45 by decide)]
        refine z_putI fl_m_140 (rfl) rfl rfl D_m_saw_62 ?_
        refine z_aload_n D_m_saw_65 rfl ?_
        refine z_getI fl_m_140 (rfl) rfl D_m_saw_66 ?_
        exact z_ireturn rfl D_m_saw_69 (pvI (by (try rw [zup_same]); (repeat' split) <;> first | rfl | omega | (exfalso; omega)) (by (repeat' split) <;> first | rfl | omega | (exfalso; omega)))
      · refine z_bipush (by decide) D_m_saw_26 ?_
        exact z_ireturn rfl D_m_saw_28 (pvI (by (try rw [zup_same]); (repeat' split) <;> first | rfl | omega | (exfalso; omega)) (by (repeat' split) <;> first | rfl | omega | (exfalso; omega)))
    · refine z_iconst D_m_saw_15 ?_
      exact z_ireturn rfl D_m_saw_16 (pvI (by (try rw [zup_same]); (repeat' split) <;> first | rfl | omega | (exfalso; omega)) (by (repeat' split) <;> first | rfl | omega | (exfalso; omega)))

theorem c_x_hears {h : zH} {w : Nat} {p q : Int} (hx : XI h w) (hsz : 0 ≤ h 22 2 ∧ h 22 2 ≤ 6) (r_p : -2147483648 ≤ p ∧ p ≤ 2147483647) (r_q : -2147483648 ≤ q ∧ q ≤ 2147483647) : zC M_x_hears [vR 0, vI p, vI q] h (pV (vI (if (1 ≤ p ∧ p ≤ 60) ∧ (0 ≤ q ∧ q ≤ 999) then (if h 22 2 < 6 then h 22 2 + 1 else -3) else -1)) (if ((1 ≤ p ∧ p ≤ 60) ∧ (0 ≤ q ∧ q ≤ 999)) ∧ h 22 2 < 6 then zup (zup (zup h 23 (h 22 2).toNat p) 24 (h 22 2).toNat q) 22 2 (h 22 2 + 1) else h)) := by
  refine zC.ofN 0 (by decide) (by first | decide | exact Nat.le_of_ble_eq_true rfl) ?_
  show Z M_x_hears _ 0 [vR 0, vI p, vI q] [] h
  have hw := hx.2.1
  have hu := hx.2.2.1
  have hn := hx.2.2.2.hn
  have hnp := hx.2.2.2.hnp
  have ht := hx.2.2.2.row.ht
  have hh := hx.2.2.2.row.hh
  have hc := hx.2.2.2.row.hc
  refine z_iload_n D_x_hears_0 rfl ?_
  refine z_S1 (c_x_isSpeed (by omega)) G_x_isSpeed S_x_isSpeed lk_x_152 ⟨Nat.le_of_ble_eq_true rfl, Nat.le_of_ble_eq_true rfl⟩ (Nat.le_of_ble_eq_true rfl) D_x_hears_1 ?_
  refine z_ifeqB (tgt := 18) D_x_hears_4 (by decide) (fun q4 => ?_) (fun q4 => ?_)
  · refine z_iconst D_x_hears_18 ?_
    exact z_ireturn rfl D_x_hears_19 (pvI (by (repeat' split) <;> first | rfl | omega | (exfalso; omega)) (by (repeat' split) <;> first | rfl | omega | (exfalso; omega)))
  · refine z_iload_n D_x_hears_7 rfl ?_
    refine z_iconst D_x_hears_8 ?_
    refine z_sipush (by decide) D_x_hears_9 ?_
    refine z_S3 (c_x_isWithin (by omega) (by omega) (by omega)) G_x_isWithin S_x_isWithin lk_x_99 ⟨Nat.le_of_ble_eq_true rfl, Nat.le_of_ble_eq_true rfl⟩ (Nat.le_of_ble_eq_true rfl) D_x_hears_12 ?_
    refine z_ifneB (tgt := 20) D_x_hears_15 (by decide) (fun q15 => ?_) (fun q15 => ?_)
    · refine z_aload_n D_x_hears_20 rfl ?_
      refine z_getR (q := 22) fl_x_48 (rfl) rfl (rfl) D_x_hears_21 ?_
      refine z_iload_n D_x_hears_24 rfl ?_
      refine z_iload_n D_x_hears_25 rfl ?_
      refine z_V2 (c0 := 7) (c_n_add_22 hsz) G_n_add I_n_add lk_x_218 (rfl) ⟨by decide, rfl⟩ ⟨Nat.le_of_ble_eq_true rfl, Nat.le_of_ble_eq_true rfl⟩ (Nat.le_of_ble_eq_true rfl) D_x_hears_26 ?_
      refine z_ifeqB (tgt := 42) D_x_hears_29 (by decide) (fun q29 => ?_) (fun q29 => ?_)
      · rw [if_neg q29]
        refine z_bipush (by decide) D_x_hears_42 ?_
        exact z_ireturn rfl D_x_hears_44 (pvI (by (try rw [zup_same]); (repeat' split) <;> first | rfl | omega | (exfalso; omega)) (by (repeat' split) <;> first | rfl | omega | (exfalso; omega)))
      · rw [if_pos q29]
        refine z_aload_n D_x_hears_32 rfl ?_
        refine z_getR (q := 22) fl_x_48 (rfl) rfl (rfl) D_x_hears_33 ?_
        refine z_getI fl_x_119 (rfl) rfl D_x_hears_36 ?_
        refine z_goto (tgt := 44) D_x_hears_39 (by decide) ?_
        exact z_ireturn rfl D_x_hears_44 (pvI (by (try rw [zup_same]); (repeat' split) <;> first | rfl | omega | (exfalso; omega)) (by (repeat' split) <;> first | rfl | omega | (exfalso; omega)))
    · refine z_iconst D_x_hears_18 ?_
      exact z_ireturn rfl D_x_hears_19 (pvI (by (repeat' split) <;> first | rfl | omega | (exfalso; omega)) (by (repeat' split) <;> first | rfl | omega | (exfalso; omega)))

theorem c_m_hears {h : zH} {p q : Int} (hm : MI h) (hsz : 0 ≤ h 39 11 ∧ h 39 11 ≤ 6) (r_p : -2147483648 ≤ p ∧ p ≤ 2147483647) (r_q : -2147483648 ≤ q ∧ q ≤ 2147483647) : zC M_m_hears [vR 39, vI p, vI q] h (pV (vI (if (1 ≤ p ∧ p ≤ 60) ∧ (0 ≤ q ∧ q ≤ 999) then (if h 39 11 < 6 then h 39 11 + 1 else -3) else -1)) (if ((1 ≤ p ∧ p ≤ 60) ∧ (0 ≤ q ∧ q ≤ 999)) ∧ h 39 11 < 6 then zup (zup (zup h 46 (2 * h 39 11).toNat p) 46 (2 * h 39 11 + 1).toNat q) 39 11 (h 39 11 + 1) else h)) := by
  refine zC.ofN 0 (by decide) (by first | decide | exact Nat.le_of_ble_eq_true rfl) ?_
  show Z M_m_hears _ 0 [vR 39, vI p, vI q] [] h
  have hn := hm.hn
  have hnp := hm.hnp
  have ht := hm.row.ht
  have hh := hm.row.hh
  have hc := hm.row.hc
  unfold nm at ht hh hc
  refine z_iload_n D_m_hears_0 rfl ?_
  refine z_S1 (c_m_isSpeed (by omega)) G_m_isSpeed S_m_isSpeed lk_m_169 ⟨Nat.le_of_ble_eq_true rfl, Nat.le_of_ble_eq_true rfl⟩ (Nat.le_of_ble_eq_true rfl) D_m_hears_1 ?_
  refine z_ifeqB (tgt := 18) D_m_hears_4 (by decide) (fun q4 => ?_) (fun q4 => ?_)
  · refine z_iconst D_m_hears_18 ?_
    exact z_ireturn rfl D_m_hears_19 (pvI (by (try rw [zup_same]); (repeat' split) <;> first | rfl | omega | (exfalso; omega)) (by (repeat' split) <;> first | rfl | omega | (exfalso; omega)))
  · refine z_iload_n D_m_hears_7 rfl ?_
    refine z_iconst D_m_hears_8 ?_
    refine z_sipush (by decide) D_m_hears_9 ?_
    refine z_S3 (c_m_in (by omega) (by omega) (by omega)) G_m_in S_m_in lk_m_69 ⟨Nat.le_of_ble_eq_true rfl, Nat.le_of_ble_eq_true rfl⟩ (Nat.le_of_ble_eq_true rfl) D_m_hears_12 ?_
    refine z_ifneB (tgt := 20) D_m_hears_15 (by decide) (fun q15 => ?_) (fun q15 => ?_)
    · refine z_aload_n D_m_hears_20 rfl ?_
      refine z_getI fl_m_143 (rfl) rfl D_m_hears_21 ?_
      refine z_bipush (by decide) D_m_hears_24 ?_
      refine z_icmp_ne (tgt := 32) D_m_hears_26 (by decide) (by omega) (by omega) (fun q26 => ?_) (fun q26 => ?_)
      · refine z_aload_n D_m_hears_32 rfl ?_
        refine z_getR (q := 46) fl_m_36 (rfl) rfl (rfl) D_m_hears_33 ?_
        refine z_iconst D_m_hears_36 ?_
        refine z_aload_n D_m_hears_37 rfl ?_
        refine z_getI fl_m_143 (rfl) rfl D_m_hears_38 ?_
        refine z_imul D_m_hears_41 ?_
        refine z_iload_n D_m_hears_42 rfl ?_
        refine z_iast (n := 12) (rfl) (by omega) D_m_hears_43 ?_
        refine z_aload_n D_m_hears_44 rfl ?_
        refine z_getR (q := 46) fl_m_36 (rfl) rfl (rfl) D_m_hears_45 ?_
        refine z_iconst D_m_hears_48 ?_
        refine z_aload_n D_m_hears_49 rfl ?_
        refine z_getI fl_m_143 (rfl) rfl D_m_hears_50 ?_
        refine z_imul D_m_hears_53 ?_
        refine z_iconst D_m_hears_54 ?_
        refine z_iadd D_m_hears_55 ?_
        refine z_iload_n D_m_hears_56 rfl ?_
        rw [zup_ne (show (39 : Nat) ≠ 46 by decide)]
        refine z_iast (n := 12) (rfl) (by omega) D_m_hears_57 ?_
        refine z_aload_n D_m_hears_58 rfl ?_
        refine z_dup rfl D_m_hears_59 ?_
        refine z_getI fl_m_143 (rfl) rfl D_m_hears_60 ?_
        refine z_iconst D_m_hears_63 ?_
        refine z_iadd D_m_hears_64 ?_
        rw [zup_ne (show (39 : Nat) ≠ 46 by decide), zup_ne (show (39 : Nat) ≠ 46 by decide)]
        refine z_putI fl_m_143 (rfl) rfl rfl D_m_hears_65 ?_
        refine z_aload_n D_m_hears_68 rfl ?_
        refine z_getI fl_m_143 (rfl) rfl D_m_hears_69 ?_
        exact z_ireturn rfl D_m_hears_72 (pvI (by (try rw [zup_same]); (repeat' split) <;> first | rfl | omega | (exfalso; omega)) (by (repeat' split) <;> first | rfl | omega | (exfalso; omega)))
      · refine z_bipush (by decide) D_m_hears_29 ?_
        exact z_ireturn rfl D_m_hears_31 (pvI (by (try rw [zup_same]); (repeat' split) <;> first | rfl | omega | (exfalso; omega)) (by (repeat' split) <;> first | rfl | omega | (exfalso; omega)))
    · refine z_iconst D_m_hears_18 ?_
      exact z_ireturn rfl D_m_hears_19 (pvI (by (try rw [zup_same]); (repeat' split) <;> first | rfl | omega | (exfalso; omega)) (by (repeat' split) <;> first | rfl | omega | (exfalso; omega)))

