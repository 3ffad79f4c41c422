/-! rings of debts, both sides -/
theorem EE_i {N : Int → Int} {p q : Int} (hp : 0 ≤ p) (hq : 0 ≤ q) : EE N p.toNat q.toNat = true ↔ 0 < N (16 + p * 6 + q) := by
  unfold EE
  rw [decide_eq_true_iff, Int.toNat_of_nonneg hp, Int.toNat_of_nonneg hq]
theorem dbS_lt {E : Nat → Nat → Bool} {np p : Nat} (h : np ≤ 6) : dbS E np p < 2 ^ 6 := Nat.lt_of_lt_of_le (mkB_lt _ np) (Nat.pow_le_pow_right (by omega) h)
theorem mkB_1 {b : Nat → Bool} {i : Int} (h : 0 ≤ i) : mkB b (i + 1).toNat = if b i.toNat = true then mkB b i.toNat ||| 2 ^ i.toNat else mkB b i.toNat := by rw [tn1 h]; rfl
theorem stp_1 {D : Nat → Nat} {B R : Nat} {i : Int} (h : 0 ≤ i) : stp D B R (i + 1).toNat = if B.testBit i.toNat = true then stp D B R i.toNat ||| D i.toNat else stp D B R i.toNat := by rw [tn1 h]; rfl
theorem l_x_debtorsOf {h : zH} {w : Nat} {p : Int} (hx : XI h w) (hp : 0 ≤ p ∧ p < h w 4) : ∀ (k : Nat) (i : Int), 0 ≤ i → i ≤ h w 4 → h w 4 - i < k → Z M_x_debtorsOf (pV (vI ((dbS (EE (nw h)) (h w 4).toNat p.toNat : Nat) : Int)) h) 4 [vR 0, vI p, vI ((mkB ((EE (nw h)) p.toNat) i.toNat : Nat) : Int), vI i] [] h := by
  have hw := hx.2.1
  have hu := hx.2.2.1
  have hnp := hx.2.2.2.hnp
  intro k
  induction k with
  | zero => intro i h0 h2 h3; omega
  | succ k ih =>
    intro i h0 h2 h3
    have q := ih (i + 1) (by omega)
    rw [mkB_1 h0] at q
    have he := EE_i (N := nw h) hp.1 h0
    refine z_iload_n D_x_debtorsOf_4 rfl ?_
    refine z_aload_n D_x_debtorsOf_5 rfl ?_
    refine z_getW fl_x_19 (by decide) hx.1 D_x_debtorsOf_6 ?_
    refine z_getI fl_x_177 (kw hw) rfl D_x_debtorsOf_9 ?_
    refine z_icmp_ge (tgt := 42) D_x_debtorsOf_12 (by decide) (by omega) (by omega) (fun q12 => ?_) (fun q12 => ?_)
    · refine z_iload_n D_x_debtorsOf_42 rfl ?_
      exact z_ireturn rfl D_x_debtorsOf_43 (pvI (by rw [show i = h w 4 by omega]; rfl) rfl)
    · refine z_aload_n D_x_debtorsOf_15 rfl ?_
      refine z_getR (q := 11) fl_x_29 (rfl) rfl (rfl) D_x_debtorsOf_16 ?_
      refine z_iload_n D_x_debtorsOf_19 rfl ?_
      refine z_iload_n D_x_debtorsOf_20 rfl ?_
      refine z_S2 c_d_debt G_d_debt S_d_debt lk_x_148 ⟨Nat.le_of_ble_eq_true rfl, Nat.le_of_ble_eq_true rfl⟩ (Nat.le_of_ble_eq_true rfl) D_x_debtorsOf_21 ?_
      refine z_V1 (c0 := 5) (c_d_value hu (by omega)) G_d_value I_d_value lk_x_131 (rfl) ⟨by decide, rfl⟩ ⟨Nat.le_of_ble_eq_true rfl, Nat.le_of_ble_eq_true rfl⟩ (Nat.le_of_ble_eq_true rfl) D_x_debtorsOf_24 ?_
      refine z_if_le (tgt := 36) D_x_debtorsOf_27 (by decide) (by have := hx.2.2.2.row.ho (c := 16 + p * 6 + i) (by omega) (by omega); omega) (fun q27 => ?_) (fun q27 => ?_)
      · refine z_iinc_3 D_x_debtorsOf_36 (Nat.le_of_ble_eq_true rfl) rfl ?_
        refine z_goto (tgt := 4) D_x_debtorsOf_39 (by decide) ?_
        rw [if_neg (fun z => absurd (he.mp z) (by omega))] at q
        exact q (by omega) (by omega)
      · refine z_iload_n D_x_debtorsOf_30 rfl ?_
        refine z_iconst D_x_debtorsOf_31 ?_
        refine z_iload_n D_x_debtorsOf_32 rfl ?_
        refine z_ishl D_x_debtorsOf_33 i.toNat rfl (by omega) (by omega) ?_
        refine z_ior D_x_debtorsOf_34 _ _ rfl rfl ?_
        refine z_istore_2 D_x_debtorsOf_35 (Nat.le_of_ble_eq_true rfl) rfl ?_
        refine z_iinc_3 D_x_debtorsOf_36 (Nat.le_of_ble_eq_true rfl) rfl ?_
        refine z_goto (tgt := 4) D_x_debtorsOf_39 (by decide) ?_
        rw [if_pos (he.mpr (by omega))] at q
        exact q (by omega) (by omega)
theorem c_x_debtorsOf {h : zH} {w : Nat} {p : Int} (hx : XI h w) (hp : 0 ≤ p ∧ p < h w 4) : zC M_x_debtorsOf [vR 0, vI p] h (pV (vI ((dbS (EE (nw h)) (h w 4).toNat p.toNat : Nat) : Int)) h) := by
  refine zC.ofN 2 (by decide) (by first | decide | exact Nat.le_of_ble_eq_true rfl) ?_
  show Z M_x_debtorsOf _ 0 [vR 0, vI p, vU, vU] [] h
  have hnp := hx.2.2.2.hnp
  refine z_iconst D_x_debtorsOf_0 ?_
  refine z_istore_2 D_x_debtorsOf_1 (Nat.le_of_ble_eq_true rfl) rfl ?_
  refine z_iconst D_x_debtorsOf_2 ?_
  refine z_istore_3 D_x_debtorsOf_3 (Nat.le_of_ble_eq_true rfl) rfl ?_
  exact l_x_debtorsOf hx hp (7 : Nat) 0 (by omega) (by omega) (by omega)

theorem l_x_debtorsBehind1 {h : zH} {w : Nat} {p rd : Int} {B : Nat} {post : Option zV → zH → Prop} (hx : XI h w) (hB : B < 2 ^ 6) (K : Z M_x_debtorsBehind post 63 [vR 0, vI p, vI ((stp (dbS (EE (nw h)) (h w 4).toNat) B B (h w 4).toNat : Nat) : Int), vI rd, vI (B : Int), vI (h w 4)] [] h) : ∀ (k : Nat) (i : Int), 0 ≤ i → i ≤ h w 4 → h w 4 - i < k → Z M_x_debtorsBehind post 25 [vR 0, vI p, vI ((stp (dbS (EE (nw h)) (h w 4).toNat) B B i.toNat : Nat) : Int), vI rd, vI (B : Int), vI i] [] h := by
  have hw := hx.2.1
  have hnp := hx.2.2.2.hnp
  intro k
  induction k with
  | zero => intro i h0 h2 h3; omega
  | succ k ih =>
    intro i h0 h2 h3
    have q := ih (i + 1) (by omega)
    rw [stp_1 h0] at q
    refine z_iload D_x_debtorsBehind_25 rfl ?_
    refine z_aload_n D_x_debtorsBehind_27 rfl ?_
    refine z_getW fl_x_19 (by decide) hx.1 D_x_debtorsBehind_28 ?_
    refine z_getI fl_x_177 (kw hw) rfl D_x_debtorsBehind_31 ?_
    refine z_icmp_ge (tgt := 63) D_x_debtorsBehind_34 (by decide) (by omega) (by omega) (fun q34 => ?_) (fun q34 => ?_)
    · have e9 : i = h w 4 := by omega
      rw [e9]
      exact K
    · refine z_iload D_x_debtorsBehind_37 rfl ?_
      refine z_iload D_x_debtorsBehind_39 rfl ?_
      refine z_ishr D_x_debtorsBehind_41 B i.toNat rfl (by omega) (by omega) (by omega) ?_
      refine z_iconst D_x_debtorsBehind_42 ?_
      refine z_iand1 D_x_debtorsBehind_43 (by omega) ?_
      refine z_iconst D_x_debtorsBehind_44 ?_
      refine z_icmp_ne (tgt := 57) D_x_debtorsBehind_45 (by decide) (by omega) (by omega) (fun q45 => ?_) (fun q45 => ?_)
      · refine z_iinc_5 D_x_debtorsBehind_57 (Nat.le_of_ble_eq_true rfl) rfl ?_
        refine z_goto (tgt := 25) D_x_debtorsBehind_60 (by decide) ?_
        rw [if_neg (fun z => q45 (tb_iff.mpr z))] at q
        exact q (by omega) (by omega)
      · refine z_iload_n D_x_debtorsBehind_48 rfl ?_
        refine z_aload_n D_x_debtorsBehind_49 rfl ?_
        refine z_iload D_x_debtorsBehind_50 rfl ?_
        refine z_V1 (c0 := 11) (c_x_debtorsOf hx ⟨h0, by omega⟩) G_x_debtorsOf I_x_debtorsOf lk_x_286 (rfl) ⟨by decide, rfl⟩ ⟨Nat.le_of_ble_eq_true rfl, Nat.le_of_ble_eq_true rfl⟩ (Nat.le_of_ble_eq_true rfl) D_x_debtorsBehind_52 ?_
        refine z_ior D_x_debtorsBehind_55 _ _ rfl rfl ?_
        refine z_istore_2 D_x_debtorsBehind_56 (Nat.le_of_ble_eq_true rfl) rfl ?_
        refine z_iinc_5 D_x_debtorsBehind_57 (Nat.le_of_ble_eq_true rfl) rfl ?_
        refine z_goto (tgt := 25) D_x_debtorsBehind_60 (by decide) ?_
        rw [if_pos (tb_iff.mp q45)] at q
        exact q (by omega) (by omega)
theorem l_x_debtorsBehind {h : zH} {w : Nat} {p : Int} (hx : XI h w) (hp : 0 ≤ p ∧ p < h w 4) : ∀ (k : Nat) (rd : Int) (n : Nat) (y4 y5 : zV), rd = (n : Int) + 1 → rd ≤ h w 4 → h w 4 - rd < k → vlong y4 = false → vlong y5 = false → Z M_x_debtorsBehind (pV (vI ((rch (dbS (EE (nw h)) (h w 4).toNat) (h w 4).toNat p.toNat ((h w 4).toNat - 1) : Nat) : Int)) h) 8 [vR 0, vI p, vI ((rch (dbS (EE (nw h)) (h w 4).toNat) (h w 4).toNat p.toNat n : Nat) : Int), vI rd, y4, y5] [] h := by
  have hw := hx.2.1
  have hnp := hx.2.2.2.hnp
  intro k
  induction k with
  | zero => intro rd n y4 y5 h0 h2 h3; omega
  | succ k ih =>
    intro rd n y4 y5 h0 h2 h3 v4 v5
    refine z_iload_n D_x_debtorsBehind_8 rfl ?_
    refine z_aload_n D_x_debtorsBehind_9 rfl ?_
    refine z_getW fl_x_19 (by decide) hx.1 D_x_debtorsBehind_10 ?_
    refine z_getI fl_x_177 (kw hw) rfl D_x_debtorsBehind_13 ?_
    refine z_icmp_ge (tgt := 69) D_x_debtorsBehind_16 (by decide) (by omega) (by omega) (fun q16 => ?_) (fun q16 => ?_)
    · refine z_iload_n D_x_debtorsBehind_69 rfl ?_
      exact z_ireturn rfl D_x_debtorsBehind_70 (pvI (by rw [show (h w 4).toNat - 1 = n by omega]) rfl)
    · refine z_iload_n D_x_debtorsBehind_19 rfl ?_
      refine z_istore_4 D_x_debtorsBehind_20 (Nat.le_of_ble_eq_true rfl) rfl ?_
      refine z_iconst D_x_debtorsBehind_22 ?_
      refine z_istore_5 D_x_debtorsBehind_23 (Nat.le_of_ble_eq_true rfl) rfl ?_
      refine l_x_debtorsBehind1 hx (rch_lt (fun q => dbS_lt (by omega)) n) ?_ (7 : Nat) 0 (by omega) (by omega) (by omega)
      refine z_iinc_3 D_x_debtorsBehind_63 (Nat.le_of_ble_eq_true rfl) rfl ?_
      refine z_goto (tgt := 8) D_x_debtorsBehind_66 (by decide) ?_
      exact ih (rd + 1) (n + 1) _ _ (by omega) (by omega) (by omega) rfl rfl
theorem c_x_debtorsBehind {h : zH} {w : Nat} {p : Int} (hx : XI h w) (hp : 0 ≤ p ∧ p < h w 4) : zC M_x_debtorsBehind [vR 0, vI p] h (pV (vI ((rch (dbS (EE (nw h)) (h w 4).toNat) (h w 4).toNat p.toNat ((h w 4).toNat - 1) : Nat) : Int)) h) := by
  refine zC.ofN 4 (by decide) (by first | decide | exact Nat.le_of_ble_eq_true rfl) ?_
  show Z M_x_debtorsBehind _ 0 [vR 0, vI p, vU, vU, vU, vU] [] h
  have hnp := hx.2.2.2.hnp
  refine z_aload_n D_x_debtorsBehind_0 rfl ?_
  refine z_iload_n D_x_debtorsBehind_1 rfl ?_
  refine z_V1 (c0 := 11) (c_x_debtorsOf hx hp) G_x_debtorsOf I_x_debtorsOf lk_x_286 (rfl) ⟨by decide, rfl⟩ ⟨Nat.le_of_ble_eq_true rfl, Nat.le_of_ble_eq_true rfl⟩ (Nat.le_of_ble_eq_true rfl) D_x_debtorsBehind_2 ?_
  refine z_istore_2 D_x_debtorsBehind_5 (Nat.le_of_ble_eq_true rfl) rfl ?_
  refine z_iconst D_x_debtorsBehind_6 ?_
  refine z_istore_3 D_x_debtorsBehind_7 (Nat.le_of_ble_eq_true rfl) rfl ?_
  exact l_x_debtorsBehind hx hp (7 : Nat) 1 0 _ _ (by omega) (by omega) (by omega) rfl rfl

theorem l_x_ringOfDebts {h : zH} {w : Nat} (hx : XI h w) : ∀ (k : Nat) (i : Int), 0 ≤ i → i ≤ h w 4 → h w 4 - i < k → Z M_x_ringOfDebts (pV (vI ((ringS (EE (nw h)) (h w 4).toNat : Nat) : Int)) h) 4 [vR 0, vI ((mkB (fun p => (rch (dbS (EE (nw h)) (h w 4).toNat) (h w 4).toNat p ((h w 4).toNat - 1)).testBit p) i.toNat : Nat) : Int), vI i] [] h := by
  have hw := hx.2.1
  have hnp := hx.2.2.2.hnp
  intro k
  induction k with
  | zero => intro i h0 h2 h3; omega
  | succ k ih =>
    intro i h0 h2 h3
    have q := ih (i + 1) (by omega)
    rw [mkB_1 h0] at q
    have hlt := rch_lt (D := dbS (EE (nw h)) (h w 4).toNat) (np := (h w 4).toNat) (p := i.toNat) (m := 6) (fun q => dbS_lt (by omega)) ((h w 4).toNat - 1)
    refine z_iload_n D_x_ringOfDebts_4 rfl ?_
    refine z_aload_n D_x_ringOfDebts_5 rfl ?_
    refine z_getW fl_x_19 (by decide) hx.1 D_x_ringOfDebts_6 ?_
    refine z_getI fl_x_177 (kw hw) rfl D_x_ringOfDebts_9 ?_
    refine z_icmp_ge (tgt := 40) D_x_ringOfDebts_12 (by decide) (by omega) (by omega) (fun q12 => ?_) (fun q12 => ?_)
    · refine z_iload_n D_x_ringOfDebts_40 rfl ?_
      exact z_ireturn rfl D_x_ringOfDebts_41 (pvI (by rw [show i = h w 4 by omega]; rfl) rfl)
    · refine z_aload_n D_x_ringOfDebts_15 rfl ?_
      refine z_iload_n D_x_ringOfDebts_16 rfl ?_
      refine z_V1 (c0 := 11) (c_x_debtorsBehind hx ⟨h0, by omega⟩) G_x_debtorsBehind I_x_debtorsBehind lk_x_283 (rfl) ⟨by decide, rfl⟩ ⟨Nat.le_of_ble_eq_true rfl, Nat.le_of_ble_eq_true rfl⟩ (Nat.le_of_ble_eq_true rfl) D_x_ringOfDebts_17 ?_
      refine z_iload_n D_x_ringOfDebts_20 rfl ?_
      refine z_ishr D_x_ringOfDebts_21 _ i.toNat rfl (by omega) (by omega) (by omega) ?_
      refine z_iconst D_x_ringOfDebts_22 ?_
      refine z_iand1 D_x_ringOfDebts_23 (by omega) ?_
      refine z_iconst D_x_ringOfDebts_24 ?_
      refine z_icmp_ne (tgt := 34) D_x_ringOfDebts_25 (by decide) (by omega) (by omega) (fun q25 => ?_) (fun q25 => ?_)
      · refine z_iinc_2 D_x_ringOfDebts_34 (Nat.le_of_ble_eq_true rfl) rfl ?_
        refine z_goto (tgt := 4) D_x_ringOfDebts_37 (by decide) ?_
        rw [if_neg (fun z => q25 (tb_iff.mpr z))] at q
        exact q (by omega) (by omega)
      · refine z_iload_n D_x_ringOfDebts_28 rfl ?_
        refine z_iconst D_x_ringOfDebts_29 ?_
        refine z_iload_n D_x_ringOfDebts_30 rfl ?_
        refine z_ishl D_x_ringOfDebts_31 i.toNat rfl (by omega) (by omega) ?_
        refine z_ior D_x_ringOfDebts_32 _ _ rfl rfl ?_
        refine z_istore_1 D_x_ringOfDebts_33 (Nat.le_of_ble_eq_true rfl) rfl ?_
        refine z_iinc_2 D_x_ringOfDebts_34 (Nat.le_of_ble_eq_true rfl) rfl ?_
        refine z_goto (tgt := 4) D_x_ringOfDebts_37 (by decide) ?_
        rw [if_pos (tb_iff.mp q25)] at q
        exact q (by omega) (by omega)
theorem c_x_ringOfDebts {h : zH} {w : Nat} (hx : XI h w) : zC M_x_ringOfDebts [vR 0] h (pV (vI ((ringS (EE (nw h)) (h w 4).toNat : Nat) : Int)) h) := by
  refine zC.ofN 2 (by decide) (by first | decide | exact Nat.le_of_ble_eq_true rfl) ?_
  show Z M_x_ringOfDebts _ 0 [vR 0, vU, vU] [] h
  have hnp := hx.2.2.2.hnp
  refine z_iconst D_x_ringOfDebts_0 ?_
  refine z_istore_1 D_x_ringOfDebts_1 (Nat.le_of_ble_eq_true rfl) rfl ?_
  refine z_iconst D_x_ringOfDebts_2 ?_
  refine z_istore_2 D_x_ringOfDebts_3 (Nat.le_of_ble_eq_true rfl) rfl ?_
  exact l_x_ringOfDebts hx (7 : Nat) 0 (by omega) (by omega) (by omega)

theorem c_x_now {h : zH} {w : Nat} {t : Int} (hx : XI h w) (r_t : -2147483648 ≤ t ∧ t ≤ 2147483647) : zC M_x_now [vR 0, vI t] h (pV (vI (if 0 ≤ t ∧ t ≤ 3 then nw h t else if t = 4 then sumF (fun p => sumF (owF (nw h) p) (h w 4).toNat) (h w 4).toNat else if t = 5 then lstU (fun t => allF (alk (px h w) (h w 3) t) (h w 3).toNat) (-9) (h w 3).toNat 1 else if t = 6 then ((ringS (EE (nw h)) (h w 4).toNat : Nat) : Int) else -1)) h) := by
  refine zC.ofN 0 (by decide) (by first | decide | exact Nat.le_of_ble_eq_true rfl) ?_
  show Z M_x_now _ 0 [vR 0, vI t] [] h
  have hw := hx.2.1
  have hu := hx.2.2.1
  refine z_iload_n D_x_now_0 rfl ?_
  by_cases s1_0 : t = 0
  · subst s1_0
    refine z_tabIn (tgt := 44) (off := 43) D_x_now_1 (by omega) (by omega) (by omega) rfl (by decide) ?_
    refine z_aload_n D_x_now_44 rfl ?_
    refine z_getR (q := 11) fl_x_29 (rfl) rfl (rfl) D_x_now_45 ?_
    refine z_iconst D_x_now_48 ?_
    refine z_V1 (c0 := 5) (c_d_value hu (by omega)) G_d_value I_d_value lk_x_131 (rfl) ⟨by decide, rfl⟩ ⟨Nat.le_of_ble_eq_true rfl, Nat.le_of_ble_eq_true rfl⟩ (Nat.le_of_ble_eq_true rfl) D_x_now_49 ?_
    exact z_ireturn rfl D_x_now_52 (pvI (by rw [if_pos (by omega)]) rfl)
  by_cases s1_1 : t = 1
  · subst s1_1
    refine z_tabIn (tgt := 53) (off := 52) D_x_now_1 (by omega) (by omega) (by omega) rfl (by decide) ?_
    refine z_aload_n D_x_now_53 rfl ?_
    refine z_getR (q := 11) fl_x_29 (rfl) rfl (rfl) D_x_now_54 ?_
    refine z_iconst D_x_now_57 ?_
    refine z_V1 (c0 := 5) (c_d_value hu (by omega)) G_d_value I_d_value lk_x_131 (rfl) ⟨by decide, rfl⟩ ⟨Nat.le_of_ble_eq_true rfl, Nat.le_of_ble_eq_true rfl⟩ (Nat.le_of_ble_eq_true rfl) D_x_now_58 ?_
    exact z_ireturn rfl D_x_now_61 (pvI (by rw [if_pos (by omega)]) rfl)
  by_cases s1_2 : t = 2
  · subst s1_2
    refine z_tabIn (tgt := 62) (off := 61) D_x_now_1 (by omega) (by omega) (by omega) rfl (by decide) ?_
    refine z_aload_n D_x_now_62 rfl ?_
    refine z_getR (q := 11) fl_x_29 (rfl) rfl (rfl) D_x_now_63 ?_
    refine z_iconst D_x_now_66 ?_
    refine z_V1 (c0 := 5) (c_d_value hu (by omega)) G_d_value I_d_value lk_x_131 (rfl) ⟨by decide, rfl⟩ ⟨Nat.le_of_ble_eq_true rfl, Nat.le_of_ble_eq_true rfl⟩ (Nat.le_of_ble_eq_true rfl) D_x_now_67 ?_
    exact z_ireturn rfl D_x_now_70 (pvI (by rw [if_pos (by omega)]) rfl)
  by_cases s1_3 : t = 3
  · subst s1_3
    refine z_tabIn (tgt := 71) (off := 70) D_x_now_1 (by omega) (by omega) (by omega) rfl (by decide) ?_
    refine z_aload_n D_x_now_71 rfl ?_
    refine z_getR (q := 11) fl_x_29 (rfl) rfl (rfl) D_x_now_72 ?_
    refine z_iconst D_x_now_75 ?_
    refine z_V1 (c0 := 5) (c_d_value hu (by omega)) G_d_value I_d_value lk_x_131 (rfl) ⟨by decide, rfl⟩ ⟨Nat.le_of_ble_eq_true rfl, Nat.le_of_ble_eq_true rfl⟩ (Nat.le_of_ble_eq_true rfl) D_x_now_76 ?_
    exact z_ireturn rfl D_x_now_79 (pvI (by rw [if_pos (by omega)]) rfl)
  by_cases s1_4 : t = 4
  · subst s1_4
    refine z_tabIn (tgt := 80) (off := 79) D_x_now_1 (by omega) (by omega) (by omega) rfl (by decide) ?_
    refine z_aload_n D_x_now_80 rfl ?_
    refine z_V0 (c0 := 11) (c_x_owedInAll hx) G_x_owedInAll I_x_owedInAll lk_x_183 (rfl) ⟨by decide, rfl⟩ ⟨Nat.le_of_ble_eq_true rfl, Nat.le_of_ble_eq_true rfl⟩ (Nat.le_of_ble_eq_true rfl) D_x_now_81 ?_
    exact z_ireturn rfl D_x_now_84 (pvI (by rw [if_neg (by omega), if_pos (by omega)]) rfl)
  by_cases s1_5 : t = 5
  · subst s1_5
    refine z_tabIn (tgt := 85) (off := 84) D_x_now_1 (by omega) (by omega) (by omega) rfl (by decide) ?_
    refine z_aload_n D_x_now_85 rfl ?_
    refine z_getW fl_x_19 (by decide) hx.1 D_x_now_86 ?_
    refine z_V0 (c0 := 10) (c_w_leastLikeTurn hx) G_w_leastLikeTurn I_w_leastLikeTurn lk_x_187 (kw hw) ⟨by decide, rfl⟩ ⟨Nat.le_of_ble_eq_true rfl, Nat.le_of_ble_eq_true rfl⟩ (Nat.le_of_ble_eq_true rfl) D_x_now_89 ?_
    exact z_ireturn rfl D_x_now_92 (pvI (by rw [if_neg (by omega), if_neg (by omega), if_pos (by omega)]) rfl)
  by_cases s1_6 : t = 6
  · subst s1_6
    refine z_tabIn (tgt := 93) (off := 92) D_x_now_1 (by omega) (by omega) (by omega) rfl (by decide) ?_
    refine z_aload_n D_x_now_93 rfl ?_
    refine z_V0 (c0 := 11) (c_x_ringOfDebts hx) G_x_ringOfDebts I_x_ringOfDebts lk_x_190 (rfl) ⟨by decide, rfl⟩ ⟨Nat.le_of_ble_eq_true rfl, Nat.le_of_ble_eq_true rfl⟩ (Nat.le_of_ble_eq_true rfl) D_x_now_94 ?_
    exact z_ireturn rfl D_x_now_97 (pvI (by rw [if_neg (by omega), if_neg (by omega), if_neg (by omega), if_pos (by omega)]) rfl)
  refine z_tabOut (tgt := 98) D_x_now_1 (by omega) (by omega) (by decide) ?_
  refine z_iconst D_x_now_98 ?_
  exact z_ireturn rfl D_x_now_99 (pvI (by rw [if_neg (by omega), if_neg (by omega), if_neg (by omega), if_neg (by omega)]) rfl)

