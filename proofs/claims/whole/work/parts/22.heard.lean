/-! look of the other side; laws, try -/
theorem l_m_look {h : zH} (hm : MI h) (hs : SI (h 39 0) (h 39 9) (sm1 h) (sm2 h)) : ∀ (k : Nat) (i : Int) (h1 : zH) (y4 y5 y6 : zV), 0 ≤ i → i ≤ h 39 0 → h 39 0 - i < k → (∀ a, a < 51 → h1 a = h a) → Z M_m_look (pM (vI (lkF (snB (gm h) (sm1 h) (sm2 h) (h 39 9)) (gm h) (h 39 0).toNat).1) h) 18 [vR 39, vI (lkF (snB (gm h) (sm1 h) (sm2 h) (h 39 9)) (gm h) i.toNat).1, vI (lkF (snB (gm h) (sm1 h) (sm2 h) (h 39 9)) (gm h) i.toNat).2, vI i, y4, y5, y6] [] h1 := by
  intro k
  induction k with
  | zero => intro i h1 y4 y5 y6 h0 h2 h3; omega
  | succ k ih =>
    intro i h1 y4 y5 y6 h0 h2 h3 hE
    have hn := hm.hn
    have ew : h1 39 0 = h 39 0 := by rw [hE 39 (by omega)]
    have e := lkF_1 (b := snB (gm h) (sm1 h) (sm2 h) (h 39 9)) (g := gm h) h0
    have hr := lkF_in (snB (gm h) (sm1 h) (sm2 h) (h 39 9)) (gm h) i.toNat (by omega)
    have hmm := mst_in (snB (gm h) (sm1 h) (sm2 h) (h 39 9)) (gm h i) 60
    have q := fun h9 y4 y5 y6 => ih (i + 1) h9 y4 y5 y6 (by omega)
    rw [e] at q
    have hxt : i = h 39 0 → (lkF (snB (gm h) (sm1 h) (sm2 h) (h 39 9)) (gm h) i.toNat).1 = (lkF (snB (gm h) (sm1 h) (sm2 h) (h 39 9)) (gm h) (h 39 0).toNat).1 := fun e9 => by rw [e9]
    generalize lkF (snB (gm h) (sm1 h) (sm2 h) (h 39 9)) (gm h) i.toNat = S at q hr hxt ⊢
    obtain ⟨p, m⟩ := S
    have hT : (p < 0 ∨ mst (snB (gm h) (sm1 h) (sm2 h) (h 39 9)) (gm h i) 60 < m) → stL (snB (gm h) (sm1 h) (sm2 h) (h 39 9)) (gm h) i (p, m) = (i, mst (snB (gm h) (sm1 h) (sm2 h) (h 39 9)) (gm h i) 60) := fun c9 => if_pos c9
    have hT2 : ¬ (p < 0 ∨ mst (snB (gm h) (sm1 h) (sm2 h) (h 39 9)) (gm h i) 60 < m) → stL (snB (gm h) (sm1 h) (sm2 h) (h 39 9)) (gm h) i (p, m) = (p, m) := fun c9 => if_neg c9
    dsimp only at hr hxt ⊢
    refine z_iload_n D_m_look_18 rfl ?_
    refine z_aload_n D_m_look_19 rfl ?_
    refine z_getI fl_m_73 (rfl) rfl D_m_look_20 ?_
    refine z_icmp_ge (tgt := 174) D_m_look_23 (by decide) (by omega) (by rw [ew]; omega) (fun q23 => ?_) (fun q23 => ?_)
    · refine z_iload_n D_m_look_174 rfl ?_
      exact z_ireturn rfl D_m_look_175 (pmI (hxt (by rw [ew] at q23; omega)) hE)
    · refine z_iconst D_m_look_26 ?_
      refine z_istore_4 D_m_look_27 (Nat.le_of_ble_eq_true rfl) rfl ?_
      rw [ew] at q23
      refine l_m_look_fill rfl (fun h2 hE2 hA2 => ?_) (7 : Nat) 0 h1 (by omega) (by omega) (by omega) hE (fun j q1 q2 => by omega)
      refine z_iconst D_m_look_50 ?_
      refine z_istore_4 D_m_look_51 (Nat.le_of_ble_eq_true rfl) rfl ?_
      refine z_iconst D_m_look_53 ?_
      refine z_istore_5 D_m_look_54 (Nat.le_of_ble_eq_true rfl) rfl ?_
      refine l_m_look_v hm hs ⟨h0, by omega⟩ (fun h3 y6 hE3 => ?_) (61 : Nat) 1 h2 y6 (by omega) (by omega) (by omega) hE2 (fun c q1 q2 => by rw [hA2 c q1 q2]; rfl)
      refine z_iload_n D_m_look_128 rfl ?_
      refine z_if_lt (tgt := 138) D_m_look_129 (by decide) (by omega) (fun q129 => ?_) (fun q129 => ?_)
      · refine z_iconst D_m_look_138 ?_
        refine z_goto (tgt := 143) D_m_look_139 (by decide) ?_
        refine z_istore_5 D_m_look_143 (Nat.le_of_ble_eq_true rfl) rfl ?_
        refine z_iload D_m_look_145 rfl ?_
        refine z_if_eq (tgt := 154) D_m_look_147 (by decide) (by decide) (fun q => absurd q (by decide)) (fun _ => ?_)
        refine z_iload_n D_m_look_150 rfl ?_
        refine z_goto (tgt := 155) D_m_look_151 (by decide) ?_
        refine z_istore_1 D_m_look_155 (Nat.le_of_ble_eq_true rfl) rfl ?_
        refine z_iload D_m_look_156 rfl ?_
        refine z_if_eq (tgt := 166) D_m_look_158 (by decide) (by decide) (fun q => absurd q (by decide)) (fun _ => ?_)
        refine z_iload D_m_look_161 rfl ?_
        refine z_goto (tgt := 167) D_m_look_163 (by decide) ?_
        refine z_istore_2 D_m_look_167 (Nat.le_of_ble_eq_true rfl) rfl ?_
        refine z_iinc_3 D_m_look_168 (Nat.le_of_ble_eq_true rfl) rfl ?_
        refine z_goto (tgt := 18) D_m_look_171 (by decide) ?_
        first
        | (rw [hT (by omega)] at q; exact q h3 _ _ _ (by omega) (by omega) hE3)
        | (rw [hT2 (by omega)] at q; exact q h3 _ _ _ (by omega) (by omega) hE3)
      · refine z_iload D_m_look_132 rfl ?_
        refine z_iload_n D_m_look_134 rfl ?_
        refine z_icmp_ge (tgt := 142) D_m_look_135 (by decide) (by omega) (by omega) (fun q135 => ?_) (fun q135 => ?_)
        · refine z_iconst D_m_look_142 ?_
          refine z_istore_5 D_m_look_143 (Nat.le_of_ble_eq_true rfl) rfl ?_
          refine z_iload D_m_look_145 rfl ?_
          refine z_if_eq (tgt := 154) D_m_look_147 (by decide) (by decide) (fun _ => ?_) (fun q => absurd q (by decide))
          refine z_iload_n D_m_look_154 rfl ?_
          refine z_istore_1 D_m_look_155 (Nat.le_of_ble_eq_true rfl) rfl ?_
          refine z_iload D_m_look_156 rfl ?_
          refine z_if_eq (tgt := 166) D_m_look_158 (by decide) (by decide) (fun _ => ?_) (fun q => absurd q (by decide))
          refine z_iload_n D_m_look_166 rfl ?_
          refine z_istore_2 D_m_look_167 (Nat.le_of_ble_eq_true rfl) rfl ?_
          refine z_iinc_3 D_m_look_168 (Nat.le_of_ble_eq_true rfl) rfl ?_
          refine z_goto (tgt := 18) D_m_look_171 (by decide) ?_
          first
          | (rw [hT (by omega)] at q; exact q h3 _ _ _ (by omega) (by omega) hE3)
          | (rw [hT2 (by omega)] at q; exact q h3 _ _ _ (by omega) (by omega) hE3)
        · refine z_iconst D_m_look_138 ?_
          refine z_goto (tgt := 143) D_m_look_139 (by decide) ?_
          refine z_istore_5 D_m_look_143 (Nat.le_of_ble_eq_true rfl) rfl ?_
          refine z_iload D_m_look_145 rfl ?_
          refine z_if_eq (tgt := 154) D_m_look_147 (by decide) (by decide) (fun q => absurd q (by decide)) (fun _ => ?_)
          refine z_iload_n D_m_look_150 rfl ?_
          refine z_goto (tgt := 155) D_m_look_151 (by decide) ?_
          refine z_istore_1 D_m_look_155 (Nat.le_of_ble_eq_true rfl) rfl ?_
          refine z_iload D_m_look_156 rfl ?_
          refine z_if_eq (tgt := 166) D_m_look_158 (by decide) (by decide) (fun q => absurd q (by decide)) (fun _ => ?_)
          refine z_iload D_m_look_161 rfl ?_
          refine z_goto (tgt := 167) D_m_look_163 (by decide) ?_
          refine z_istore_2 D_m_look_167 (Nat.le_of_ble_eq_true rfl) rfl ?_
          refine z_iinc_3 D_m_look_168 (Nat.le_of_ble_eq_true rfl) rfl ?_
          refine z_goto (tgt := 18) D_m_look_171 (by decide) ?_
          first
          | (rw [hT (by omega)] at q; exact q h3 _ _ _ (by omega) (by omega) hE3)
          | (rw [hT2 (by omega)] at q; exact q h3 _ _ _ (by omega) (by omega) hE3)
theorem c_m_look {h : zH}  (hm : MI h) (hs : SI (h 39 0) (h 39 9) (sm1 h) (sm2 h)) : zC M_m_look [vR 39] h (pM (vI (if (spn (snB (gm h) (sm1 h) (sm2 h) (h 39 9)) 60).1 = 0 then -9 else (lkF (snB (gm h) (sm1 h) (sm2 h) (h 39 9)) (gm h) (h 39 0).toNat).1)) h) := by
  refine zC.ofN 6 (by decide) (by first | decide | exact Nat.le_of_ble_eq_true rfl) ?_
  show Z M_m_look _ 0 [vR 39, vU, vU, vU, vU, vU, vU] [] h
  refine z_aload_n D_m_look_0 rfl ?_
  refine z_iconst D_m_look_1 ?_
  refine z_V1 (c0 := 12) (c_m_spun0 hm hs) G_m_spun I_m_spun lk_m_218 (rfl) ⟨by decide, rfl⟩ ⟨Nat.le_of_ble_eq_true rfl, Nat.le_of_ble_eq_true rfl⟩ (Nat.le_of_ble_eq_true rfl) D_m_look_2 ?_
  refine z_if_ne (tgt := 11) D_m_look_5 (by decide) (by have := spn_in (snB (gm h) (sm1 h) (sm2 h) (h 39 9)) 60; omega) (fun q5 => ?_) (fun q5 => ?_)
  · refine z_bipush (by decide) D_m_look_11 ?_
    refine z_istore_1 D_m_look_13 (Nat.le_of_ble_eq_true rfl) rfl ?_
    refine z_iconst D_m_look_14 ?_
    refine z_istore_2 D_m_look_15 (Nat.le_of_ble_eq_true rfl) rfl ?_
    refine z_iconst D_m_look_16 ?_
    refine z_istore_3 D_m_look_17 (Nat.le_of_ble_eq_true rfl) rfl ?_
    rw [if_neg q5]
    have hn := hm.hn
    exact l_m_look hm hs (13 : Nat) 0 h vU vU vU (by omega) (by omega) (by omega) (fun a q => rfl)
  · refine z_bipush (by decide) D_m_look_8 ?_
    exact z_ireturn rfl D_m_look_10 (pmI (by rw [if_pos q5]) (fun a q => rfl))

def hx1 (h : zH) (j : Int) : Int := h 23 j.toNat
def hx2 (h : zH) (j : Int) : Int := h 24 j.toNat
def hm1 (h : zH) (j : Int) : Int := h 46 (2 * j).toNat
def hm2 (h : zH) (j : Int) : Int := h 46 (2 * j + 1).toNat
def HI (sz : Int) (f1 f2 : Int → Int) : Prop := (0 ≤ sz ∧ sz ≤ 6) ∧ ∀ j, 0 ≤ j → j < sz → (1 ≤ f1 j ∧ f1 j ≤ 60) ∧ (0 ≤ f2 j ∧ f2 j ≤ 999)
def hdB (f1 f2 : Int → Int) (sz k d : Int) : Bool := allF (fun j => clk (f1 j) k d == f2 j) sz.toNat
theorem l_x_isAsHeard {h : zH} {k d : Int} (hs : HI (h 22 2) (hx1 h) (hx2 h)) (hk : 0 ≤ k ∧ k ≤ 9) (hd : 1 ≤ d ∧ d ≤ 9) : ∀ (f : Nat) (i : Int), 0 ≤ i → i ≤ h 22 2 → h 22 2 - i < f → allF (fun j => clk (hx1 h j) k d == hx2 h j) i.toNat = true → Z M_x_isAsHeard (pV (vI (zb (hdB (hx1 h) (hx2 h) (h 22 2) k d = true))) h) 2 [vR 0, vI k, vI d, vI i] [] h := by
  intro f
  induction f with
  | zero => intro i h0 h1 h2; omega
  | succ f ih =>
    intro i h0 h1 h2 hA
    have hsz := hs.1
    have e := allF_1 (b := (fun j => clk (hx1 h j) k d == hx2 h j)) h0
    rw [hA, Bool.true_and] at e
    have hj := fun q => hs.2 i h0 q
    have hc := fun q => clk_in (hj q).1.2 hk hd
    unfold hx1 hx2 at hj
    unfold hx1 at hc
    have hxt : i = h 22 2 → hdB (hx1 h) (hx2 h) (h 22 2) k d = true := fun e9 => by unfold hdB; rw [← e9]; exact hA
    refine z_iload_n D_x_isAsHeard_2 rfl ?_
    refine z_aload_n D_x_isAsHeard_3 rfl ?_
    refine z_getR (q := 22) fl_x_48 (rfl) rfl (rfl) D_x_isAsHeard_4 ?_
    refine z_getI fl_x_119 (rfl) rfl D_x_isAsHeard_7 ?_
    refine z_icmp_ge (tgt := 47) D_x_isAsHeard_10 (by decide) (by omega) (by omega) (fun q10 => ?_) (fun q10 => ?_)
    · refine z_iconst D_x_isAsHeard_47 ?_
      exact z_zreturn rfl (by first | exact Or.inl rfl | exact Or.inr rfl | exact zb_01 _) D_x_isAsHeard_48 (pvI (by rw [hxt (by omega)]; rfl) rfl)
    · refine z_aload_n D_x_isAsHeard_13 rfl ?_
      refine z_getR (q := 22) fl_x_48 (rfl) rfl (rfl) D_x_isAsHeard_14 ?_
      refine z_getR (q := 23) fl_x_302 (rfl) rfl (rfl) D_x_isAsHeard_17 ?_
      refine z_iload_n D_x_isAsHeard_20 rfl ?_
      refine z_iald (n := 6) (rfl) (by omega) D_x_isAsHeard_21 ?_
      refine z_iload_n D_x_isAsHeard_22 rfl ?_
      refine z_iload_n D_x_isAsHeard_23 rfl ?_
      refine z_S3 (c_w_clicksBy hk hd (by have := hj (by omega); omega)) G_w_clicksBy S_w_clicksBy lk_x_314 ⟨Nat.le_of_ble_eq_true rfl, Nat.le_of_ble_eq_true rfl⟩ (Nat.le_of_ble_eq_true rfl) D_x_isAsHeard_24 ?_
      refine z_aload_n D_x_isAsHeard_27 rfl ?_
      refine z_getR (q := 22) fl_x_48 (rfl) rfl (rfl) D_x_isAsHeard_28 ?_
      refine z_getR (q := 24) fl_x_305 (rfl) rfl (rfl) D_x_isAsHeard_31 ?_
      refine z_iload_n D_x_isAsHeard_34 rfl ?_
      refine z_iald (n := 6) (rfl) (by omega) D_x_isAsHeard_35 ?_
      refine z_icmp_eq (tgt := 41) D_x_isAsHeard_36 (by decide) (by have := hc (by omega); omega) (by have := (hj (by omega)).2; omega) (fun q36 => ?_) (fun q36 => ?_)
      · refine z_iinc_3 D_x_isAsHeard_41 (Nat.le_of_ble_eq_true rfl) rfl ?_
        refine z_goto (tgt := 2) D_x_isAsHeard_44 (by decide) ?_
        exact ih (i + 1) (by omega) (by omega) (by omega) (e.trans (by unfold hx1 hx2; simpa using q36))
      · refine z_iconst D_x_isAsHeard_39 ?_
        exact z_zreturn rfl (by first | exact Or.inl rfl | exact Or.inr rfl | exact zb_01 _) D_x_isAsHeard_40 (pvI (by unfold hdB; rw [allF_f h0 (by omega) (by unfold hx1 hx2; simpa using q36)]; rfl) rfl)
theorem c_x_isAsHeard {h : zH} {k d : Int} (hs : HI (h 22 2) (hx1 h) (hx2 h)) (hk : 0 ≤ k ∧ k ≤ 9) (hd : 1 ≤ d ∧ d ≤ 9) : zC M_x_isAsHeard [vR 0, vI k, vI d] h (pV (vI (zb (hdB (hx1 h) (hx2 h) (h 22 2) k d = true))) h) := by
  refine zC.ofN 1 (by decide) (by first | decide | exact Nat.le_of_ble_eq_true rfl) ?_
  show Z M_x_isAsHeard _ 0 [vR 0, vI k, vI d, vU] [] h
  refine z_iconst D_x_isAsHeard_0 ?_
  refine z_istore_3 D_x_isAsHeard_1 (Nat.le_of_ble_eq_true rfl) rfl ?_
  have hsz := hs.1
  exact l_x_isAsHeard hs hk hd (7 : Nat) 0 (by omega) (by omega) (by omega) rfl

theorem l_m_isHeard {h : zH} {k d : Int} (hs : HI (h 39 11) (hm1 h) (hm2 h)) (hk : 0 ≤ k ∧ k ≤ 9) (hd : 1 ≤ d ∧ d ≤ 9) : ∀ (f : Nat) (i : Int), 0 ≤ i → i ≤ h 39 11 → h 39 11 - i < f → Z M_m_isHeard (pV (vI (zb (hdB (hm1 h) (hm2 h) (h 39 11) k d = true))) h) 5 [vR 39, vI k, vI d, vI (zb (allF (fun j => clk (hm1 h j) k d == hm2 h j) i.toNat = true)), vI i] [] h := by
  intro f
  induction f with
  | zero => intro i h0 h1 h2; omega
  | succ f ih =>
    intro i h0 h1 h2
    have hsz := hs.1
    have e := allF_1 (b := (fun j => clk (hm1 h j) k d == hm2 h j)) h0
    have hj := fun q => hs.2 i h0 q
    have hc := fun q => clk_in (hj q).1.2 hk hd
    unfold hm1 hm2 at hj
    unfold hm1 at hc
    have hxt : i = h 39 11 → zb (allF (fun j => clk (hm1 h j) k d == hm2 h j) i.toNat = true) = zb (hdB (hm1 h) (hm2 h) (h 39 11) k d = true) := fun e9 => by rw [e9]; rfl
    have q := ih (i + 1) (by omega)
    rw [e] at q
    refine z_iload D_m_isHeard_5 rfl ?_
    refine z_aload_n D_m_isHeard_7 rfl ?_
    refine z_getI fl_m_143 (rfl) rfl D_m_isHeard_8 ?_
    refine z_icmp_ge (tgt := 58) D_m_isHeard_11 (by decide) (by omega) (by omega) (fun q11 => ?_) (fun q11 => ?_)
    · refine z_iload_n D_m_isHeard_58 rfl ?_
      exact z_zreturn rfl (by first | exact Or.inl rfl | exact Or.inr rfl | exact zb_01 _) D_m_isHeard_59 (pvI (hxt (by omega)) rfl)
    · refine z_iload_n D_m_isHeard_14 rfl ?_
      refine z_ifeqB (tgt := 50) D_m_isHeard_15 (by decide) (fun q15 => ?_) (fun q15 => ?_)
      · refine z_iconst D_m_isHeard_50 ?_
        refine z_istore_3 D_m_isHeard_51 (Nat.le_of_ble_eq_true rfl) rfl ?_
        refine z_iinc_4 D_m_isHeard_52 (Nat.le_of_ble_eq_true rfl) rfl ?_
        refine z_goto (tgt := 5) D_m_isHeard_55 (by decide) ?_
        have e2 : (allF (fun j => clk (hm1 h j) k d == hm2 h j) i.toNat && (fun j => clk (hm1 h j) k d == hm2 h j) i) = false := by
          rw [Bool.and_eq_false_iff]; left; simpa using q15
        rw [e2] at q
        exact q (by omega) (by omega)
      · refine z_aload_n D_m_isHeard_18 rfl ?_
        refine z_getR (q := 46) fl_m_36 (rfl) rfl (rfl) D_m_isHeard_19 ?_
        refine z_iconst D_m_isHeard_22 ?_
        refine z_iload D_m_isHeard_23 rfl ?_
        refine z_imul D_m_isHeard_25 ?_
        refine z_iald (n := 12) (rfl) (by omega) D_m_isHeard_26 ?_
        refine z_iload_n D_m_isHeard_27 rfl ?_
        refine z_iload_n D_m_isHeard_28 rfl ?_
        refine z_S3 (c_m_clicksBy hk hd (by have := hj (by omega); omega)) G_m_clicksBy S_m_clicksBy lk_m_165 ⟨Nat.le_of_ble_eq_true rfl, Nat.le_of_ble_eq_true rfl⟩ (Nat.le_of_ble_eq_true rfl) D_m_isHeard_29 ?_
        refine z_aload_n D_m_isHeard_32 rfl ?_
        refine z_getR (q := 46) fl_m_36 (rfl) rfl (rfl) D_m_isHeard_33 ?_
        refine z_iconst D_m_isHeard_36 ?_
        refine z_iload D_m_isHeard_37 rfl ?_
        refine z_imul D_m_isHeard_39 ?_
        refine z_iconst D_m_isHeard_40 ?_
        refine z_iadd D_m_isHeard_41 ?_
        refine z_iald (n := 12) (rfl) (by omega) D_m_isHeard_42 ?_
        refine z_icmp_ne (tgt := 50) D_m_isHeard_43 (by decide) (by have := hc (by omega); omega) (by have := (hj (by omega)).2; omega) (fun q43 => ?_) (fun q43 => ?_)
        · refine z_iconst D_m_isHeard_50 ?_
          refine z_istore_3 D_m_isHeard_51 (Nat.le_of_ble_eq_true rfl) rfl ?_
          refine z_iinc_4 D_m_isHeard_52 (Nat.le_of_ble_eq_true rfl) rfl ?_
          refine z_goto (tgt := 5) D_m_isHeard_55 (by decide) ?_
          have e2 : (allF (fun j => clk (hm1 h j) k d == hm2 h j) i.toNat && (fun j => clk (hm1 h j) k d == hm2 h j) i) = false := by
            rw [Bool.and_eq_false_iff]; right; unfold hm1 hm2; simpa using q43
          rw [e2] at q
          exact q (by omega) (by omega)
        · refine z_iconst D_m_isHeard_46 ?_
          refine z_goto (tgt := 51) D_m_isHeard_47 (by decide) ?_
          refine z_istore_3 D_m_isHeard_51 (Nat.le_of_ble_eq_true rfl) rfl ?_
          refine z_iinc_4 D_m_isHeard_52 (Nat.le_of_ble_eq_true rfl) rfl ?_
          refine z_goto (tgt := 5) D_m_isHeard_55 (by decide) ?_
          have e2 : (allF (fun j => clk (hm1 h j) k d == hm2 h j) i.toNat && (fun j => clk (hm1 h j) k d == hm2 h j) i) = true := by
            rw [q15, Bool.true_and]; unfold hm1 hm2; simpa using q43
          rw [e2] at q
          exact q (by omega) (by omega)
theorem c_m_isHeard {h : zH} {k d : Int} (hs : HI (h 39 11) (hm1 h) (hm2 h)) (hk : 0 ≤ k ∧ k ≤ 9) (hd : 1 ≤ d ∧ d ≤ 9) : zC M_m_isHeard [vR 39, vI k, vI d] h (pV (vI (zb (hdB (hm1 h) (hm2 h) (h 39 11) k d = true))) h) := by
  refine zC.ofN 2 (by decide) (by first | decide | exact Nat.le_of_ble_eq_true rfl) ?_
  show Z M_m_isHeard _ 0 [vR 39, vI k, vI d, vU, vU] [] h
  refine z_iconst D_m_isHeard_0 ?_
  refine z_istore_3 D_m_isHeard_1 (Nat.le_of_ble_eq_true rfl) rfl ?_
  refine z_iconst D_m_isHeard_2 ?_
  refine z_istore_4 D_m_isHeard_3 (Nat.le_of_ble_eq_true rfl) rfl ?_
  have hsz := hs.1
  exact l_m_isHeard hs hk hd (7 : Nat) 0 (by omega) (by omega) (by omega)

