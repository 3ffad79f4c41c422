/-! the class reads items (2) -/
theorem c_t_readPerson {h : zH} {w : Nat} {z : Pst} (hw : w = 3 ∨ w = 7) (hT : TX h) (hc : 0 ≤ h 1 2 ∧ h 1 2 ≤ h 1 1) (hs : 0 ≤ h 1 3) (hS : SX h w z) (hz : OKs z) : zC M_t_readPerson [vR 1, vR w] h (PX h w (itP (tx h) (h 1 1) (h 1 3) (h 1 2) z)) := by
  refine zC.ofN 0 (by decide) (by first | decide | exact Nat.le_of_ble_eq_true rfl) ?_
  show Z M_t_readPerson _ 0 [vR 1, vR w] [] h
  have s1 := hS.1
  have s2 := hS.2.1
  have s3 := hS.2.2.1
  have s4 := hS.2.2.2.1
  have b1 := hz.1
  have b2 := hz.2.1
  have b3 := hz.2.2.1
  have b4 := hz.2.2.2.1
  have hL := hT.1
  refine z_aload_n D_t_readPerson_0 rfl ?_
  refine z_getI fl_t_82 (kw hw) rfl D_t_readPerson_1 ?_
  refine z_bipush (by decide) D_t_readPerson_4 ?_
  refine z_icmp_ge (tgt := 34) D_t_readPerson_6 (by decide) (by omega) (by omega) (fun q6 => ?_) (fun q6 => ?_)
  · refine z_iconst D_t_readPerson_34 ?_
    refine z_zreturn rfl (by decide) D_t_readPerson_35 ?_
    unfold itP
    rw [if_pos (by omega)]
    exact PX.bad (TK.rfl'.fx w) hs rfl
  · refine z_aload_n D_t_readPerson_9 rfl ?_
    refine z_iconst D_t_readPerson_10 ?_
    refine z_aload_n D_t_readPerson_11 rfl ?_
    refine z_getI fl_t_62 (kw hw) rfl D_t_readPerson_12 ?_
    refine z_iconst D_t_readPerson_15 ?_
    refine z_isub D_t_readPerson_16 ?_
    refine z_V2q (c0 := 9) (c_t_readNumber hT hc (by omega) (by omega)) G_t_readNumber I_t_readNumber lk_t_65 (rfl) ⟨by decide, rfl⟩ ⟨Nat.le_of_ble_eq_true rfl, Nat.le_of_ble_eq_true rfl⟩ (Nat.le_of_ble_eq_true rfl) D_t_readPerson_17 (fun v9 h9 hp9 => ?_)
    rw [s1] at hp9
    obtain ⟨rfl, hR⟩ := hp9
    show Z _ _ _ _ [vI (zb _)] _
    have ht := tk_in (T := tx h) hc.2
    have r1 := hR.1
    have r2 := hR.2.1
    have r3 := hR.2.2.1
    have r5 := hR.2.2.2.2.1
    have r6 := hR.2.2.2.2.2
    have hS9 := hS.tk r1 hw
    have hF9 := r1.fx w
    have eW : h9 w = h w := r1.1 w (by omega)
    refine z_ifeqB (tgt := 34) D_t_readPerson_20 (by decide) (fun q20 => ?_) (fun q20 => ?_)
    · refine z_iconst D_t_readPerson_34 ?_
      refine z_zreturn rfl (by decide) D_t_readPerson_35 ?_
      unfold itP
      rw [if_neg (by omega), if_neg (fun q => q20 q.1)]
      exact PX.bad hF9 (by show 0 ≤ tkS _ _ _; omega) r3
    · have r5 := r5 (Or.inr q20.1)
      refine z_aload_n D_t_readPerson_23 rfl ?_
      refine z_aload_n D_t_readPerson_24 rfl ?_
      refine z_getI fl_t_47 (rfl) rfl D_t_readPerson_25 ?_
      refine z_V1 (c0 := 10) (c_w_isPlaceTold (S := z.2.2.2.2.2.1) hw (by rw [eW]; omega) (fun j j0 j1 => hS9.2.2.2.2.2.2.2.1 j j0 (by rw [eW, s2] at j1; exact j1)) (fun j j0 j1 => by have := hz.2.2.2.2.2.1 j j0 (by rw [eW, s2] at j1; exact j1); omega) (by omega)) G_w_isPlaceTold I_w_isPlaceTold lk_t_85 (kw hw) ⟨by decide, rfl⟩ ⟨Nat.le_of_ble_eq_true rfl, Nat.le_of_ble_eq_true rfl⟩ (Nat.le_of_ble_eq_true rfl) D_t_readPerson_28 ?_
      rw [show h9 w 4 = z.2.2.2.2.1 by rw [eW, s2], r5]
      refine z_ifeqB (tgt := 36) D_t_readPerson_31 (by decide) (fun q31 => ?_) (fun q31 => ?_)
      · refine z_aload_n D_t_readPerson_36 rfl ?_
        refine z_getR (q := (w + 2)) fl_t_89 (kw hw) rfl (kw1 hw) D_t_readPerson_37 ?_
        refine z_aload_n D_t_readPerson_40 rfl ?_
        refine z_getI fl_t_82 (kw hw) rfl D_t_readPerson_41 ?_
        refine z_aload_n D_t_readPerson_44 rfl ?_
        refine z_getI fl_t_47 (rfl) rfl D_t_readPerson_45 ?_
        rw [show h9 w 4 = z.2.2.2.2.1 by rw [eW, s2], r5]
        refine z_iast (n := 6) (kws hw) (by omega) D_t_readPerson_48 ?_
        have hF1 : FX h (zup h9 (w + 2) z.2.2.2.2.1.toNat (tkV (tx h) (h 1 1) (h 1 2))) w := hF9.putW hw (by omega)
        have hS1 : SX (zup h9 (w + 2) z.2.2.2.2.1.toNat (tkV (tx h) (h 1 1) (h 1 2))) w (z.1, z.2.1, z.2.2.1, z.2.2.2.1, z.2.2.2.2.1, upI z.2.2.2.2.2.1 z.2.2.2.2.1 (tkV (tx h) (h 1 1) (h 1 2)), z.2.2.2.2.2.2) := by
          obtain ⟨x1, x2, x3, x4, x5, x6, x7, x8, x9⟩ := hS9
          refine ⟨?_, ?_, ?_, ?_, ?_, ?_, fun j j0 j1 => ?_, fun j j0 j1 => ?_, fun j j0 j1 => ?_⟩
          · rw [zup_ne (by omega)]; exact x1
          · rw [zup_ne (by omega)]; exact x2
          · rw [zup_ne (by omega)]; exact x3
          · rw [zup_ne (by omega)]; exact x4
          · rw [zup_ne (by omega)]; exact x5
          · rw [zup_ne (by omega)]; exact x6
          · rw [zup_ne (by omega)]; exact x7 j j0 j1
          · dsimp only at j1 ⊢
            rw [upI_ne (by omega), zup_nk (by omega)]; exact x8 j j0 j1
          · rw [zup_ne (by omega)]; exact x9 j j0 j1
        have p1 : (zup h9 (w + 2) z.2.2.2.2.1.toNat (tkV (tx h) (h 1 1) (h 1 2))) (w + 2) z.2.2.2.2.1.toNat = tkV (tx h) (h 1 1) (h 1 2) := zup_same
        have g2 : (zup h9 (w + 2) z.2.2.2.2.1.toNat (tkV (tx h) (h 1 1) (h 1 2))) 1 2 = (tkN (tx h) (h 1 1) (h 1 2)) := by rw [zup_ne (by omega), r2]
        have eT1 := hF1.eT hw
        have eL1 := hF1.2
        have hT1 := hF1.ok hw hT
        generalize (zup h9 (w + 2) z.2.2.2.2.1.toNat (tkV (tx h) (h 1 1) (h 1 2))) = g at hF1 hS1 p1 g2 eT1 eL1 hT1 ⊢
        refine z_aload_n D_t_readPerson_49 rfl ?_
        refine z_iconst D_t_readPerson_50 ?_
        refine z_iconst D_t_readPerson_51 ?_
        refine z_V2q (c0 := 9) (c_t_readNumber hT1 (by rw [eL1, g2]; omega) (by omega) (by omega)) G_t_readNumber I_t_readNumber lk_t_65 (rfl) ⟨by decide, rfl⟩ ⟨Nat.le_of_ble_eq_true rfl, Nat.le_of_ble_eq_true rfl⟩ (Nat.le_of_ble_eq_true rfl) D_t_readPerson_52 (fun v7 h7 hp7 => ?_)
        obtain ⟨rfl, hR7⟩ := hp7
        show Z _ _ _ _ [vI (zb _)] _
        rw [eT1, eL1, g2] at hR7 ⊢
        have ht1 := tk_in (T := tx h) (L := h 1 1) (c := (tkN (tx h) (h 1 1) (h 1 2))) (by omega)
        have t1 := hR7.1
        have t2 := hR7.2.1
        have t3 := hR7.2.2.1
        have t5 := hR7.2.2.2.2.1
        have t6 := hR7.2.2.2.2.2
        have hS7 := hS1.tk t1 hw
        have hF7 := hF1.trans (t1.fx w)
        have eW7 : h7 w = g w := t1.1 w (by omega)
        have p7 : h7 (w + 2) z.2.2.2.2.1.toNat = tkV (tx h) (h 1 1) (h 1 2) := by rw [t1.1 (w + 2) (by omega)]; exact p1
        refine z_ifneB (tgt := 60) D_t_readPerson_55 (by decide) (fun q55 => ?_) (fun q55 => ?_)
        · have t5 := t5 (Or.inr q55.1)
          have e74 : h7 w 4 = z.2.2.2.2.1 := by rw [eW7]; exact hS1.2.1
          refine z_aload_n D_t_readPerson_60 rfl ?_
          refine z_getR (q := (w + 3)) fl_t_92 (kw hw) rfl (kw2 hw) D_t_readPerson_61 ?_
          refine z_aload_n D_t_readPerson_64 rfl ?_
          refine z_getI fl_t_82 (kw hw) rfl D_t_readPerson_65 ?_
          refine z_aload_n D_t_readPerson_68 rfl ?_
          refine z_getI fl_t_47 (rfl) rfl D_t_readPerson_69 ?_
          rw [e74, t5]
          refine z_iast (n := 6) (kwn hw) (by omega) D_t_readPerson_72 ?_
          refine z_aload_n D_t_readPerson_73 rfl ?_
          refine z_dup rfl D_t_readPerson_74 ?_
          refine z_getI fl_t_82 (kw hw) rfl D_t_readPerson_75 ?_
          rw [show zup h7 (w + 3) z.2.2.2.2.1.toNat (tkV (tx h) (h 1 1) (tkN (tx h) (h 1 1) (h 1 2))) w 4 = z.2.2.2.2.1 by rw [zup_ne (by omega), e74]]
          refine z_iconst D_t_readPerson_78 ?_
          refine z_iadd D_t_readPerson_79 ?_
          refine z_putI fl_t_82 (kw hw) rfl rfl D_t_readPerson_80 ?_
          refine z_aload_n D_t_readPerson_83 rfl ?_
          have hFg : FX h (zup (zup h7 (w + 3) z.2.2.2.2.1.toNat (tkV (tx h) (h 1 1) (tkN (tx h) (h 1 1) (h 1 2)))) w 4 (z.2.2.2.2.1 + 1)) w := (hF7.putW hw (by omega)).putW hw (by omega)
          have hSg : SX (zup (zup h7 (w + 3) z.2.2.2.2.1.toNat (tkV (tx h) (h 1 1) (tkN (tx h) (h 1 1) (h 1 2)))) w 4 (z.2.2.2.2.1 + 1)) w (z.1, z.2.1, z.2.2.1, z.2.2.2.1, z.2.2.2.2.1 + 1, upI z.2.2.2.2.2.1 z.2.2.2.2.1 (tkV (tx h) (h 1 1) (h 1 2)), upI z.2.2.2.2.2.2 z.2.2.2.2.1 (tkV (tx h) (h 1 1) (tkN (tx h) (h 1 1) (h 1 2)))) := by
            obtain ⟨x1, x2, x3, x4, x5, x6, x7, x8, x9⟩ := hS7
            refine ⟨?_, zup_same, ?_, ?_, ?_, ?_, fun j j0 j1 => ?_, fun j j0 j1 => ?_, fun j j0 j1 => ?_⟩
            · rw [zup_nk (by decide), zup_ne (by omega)]; exact x1
            · rw [zup_ne (by omega), zup_ne (by omega)]; exact x3
            · rw [zup_ne (by omega), zup_ne (by omega)]; exact x4
            · rw [zup_nk (by decide), zup_ne (by omega)]; exact x5
            · rw [zup_nk (by decide), zup_ne (by omega)]; exact x6
            · rw [zup_ne (by omega), zup_ne (by omega)]; exact x7 j j0 j1
            · dsimp only at j1 ⊢
              rw [zup_ne (by omega), zup_ne (by omega)]
              by_cases e : j = z.2.2.2.2.1
              · rw [e, upI_eq]; exact p7
              · exact x8 j j0 (by dsimp only; omega)
            · dsimp only at j1 ⊢
              rw [zup_ne (by omega)]
              by_cases e : j = z.2.2.2.2.1
              · rw [e, upI_eq, zup_same]
              · rw [upI_ne e, zup_nk (by omega)]; exact x9 j j0 (by dsimp only; omega)
          have hg2 : (zup (zup h7 (w + 3) z.2.2.2.2.1.toNat (tkV (tx h) (h 1 1) (tkN (tx h) (h 1 1) (h 1 2)))) w 4 (z.2.2.2.2.1 + 1)) 1 2 = (tkN (tx h) (h 1 1) (tkN (tx h) (h 1 1) (h 1 2))) := by rw [zup_ne (by omega), zup_ne (by omega), t2]
          refine z_V0q (c0 := 9) (c_t_readSemicolon (hFg.ok hw hT) (by rw [hFg.2, hg2]; omega)) G_t_readSemicolon I_t_readSemicolon lk_t_72 (rfl) ⟨by decide, rfl⟩ ⟨Nat.le_of_ble_eq_true rfl, Nat.le_of_ble_eq_true rfl⟩ (Nat.le_of_ble_eq_true rfl) D_t_readPerson_84 (fun v8 h8 hp8 => ?_)
          obtain ⟨hv8, hR8⟩ := hp8
          subst hv8
          show Z _ _ _ _ [vI (zb _)] _
          refine z_zreturn rfl (zb_01 _) D_t_readPerson_87 ?_
          unfold itP
          rw [if_neg (by omega), if_pos ⟨q20, q31⟩, if_pos q55]
          exact PX.fin hw hFg hSg hg2 (by omega) rfl hR8
        · refine z_iconst D_t_readPerson_58 ?_
          refine z_zreturn rfl (by decide) D_t_readPerson_59 ?_
          unfold itP
          rw [if_neg (by omega), if_pos ⟨q20, q31⟩, if_neg q55]
          exact PX.bad hF7 (by show 0 ≤ tkS _ _ _; omega) t3
      · refine z_iconst D_t_readPerson_34 ?_
        refine z_zreturn rfl (by decide) D_t_readPerson_35 ?_
        unfold itP
        rw [if_neg (by omega), if_neg (fun q => q.2 q31)]
        exact PX.bad hF9 (by show 0 ≤ tkS _ _ _; omega) r3

theorem c_t_readItem {h : zH} {w : Nat} {z : Pst} (hw : w = 3 ∨ w = 7) (hT : TX h) (hc : 0 ≤ h 1 2 ∧ h 1 2 ≤ h 1 1) (hs : 0 ≤ h 1 3) (hS : SX h w z) (hz : OKs z) (hv : 0 ≤ h 1 5 ∧ h 1 5 ≤ 255) (h4 : 0 ≤ h 1 4 ∧ h 1 4 ≤ 4) : zC M_t_readItem [vR 1, vR w] h (PX h w (item (tx h) (h 1 1) (h 1 3) (h 1 4) (h 1 5) (h 1 2) z)) := by
  refine zC.ofN 0 (by decide) (by first | decide | exact Nat.le_of_ble_eq_true rfl) ?_
  show Z M_t_readItem _ 0 [vR 1, vR w] [] h
  refine z_aload_n D_t_readItem_0 rfl ?_
  refine z_getI fl_t_37 (rfl) rfl D_t_readItem_1 ?_
  refine z_iconst D_t_readItem_4 ?_
  refine z_icmp_eq (tgt := 10) D_t_readItem_5 (by decide) (by omega) (by omega) (fun q5 => ?_) (fun q5 => ?_)
  · refine z_aload_n D_t_readItem_10 rfl ?_
    refine z_getI fl_t_47 (rfl) rfl D_t_readItem_11 ?_
    by_cases s14_99 : h 1 5 = 99
    · refine z_look (tgt := 56) (off := 42) D_t_readItem_14 (by decide) (by omega) (by rw [s14_99]; rfl) (by decide) ?_
      refine z_aload_n D_t_readItem_56 rfl ?_
      refine z_aload_n D_t_readItem_57 rfl ?_
      refine z_V1q (c0 := 9) (c_t_readPane hw hT hc hs hS hz) G_t_readPane I_t_readPane lk_t_50 (rfl) ⟨by decide, rfl⟩ ⟨Nat.le_of_ble_eq_true rfl, Nat.le_of_ble_eq_true rfl⟩ (Nat.le_of_ble_eq_true rfl) D_t_readItem_58 (fun v8 h8 hp8 => ?_)
      have hv8 := hp8.2.1
      subst hv8
      show Z _ _ _ _ [vI (zb _)] _
      exact z_zreturn rfl (by first | exact Or.inl rfl | exact Or.inr rfl | exact zb_01 _) D_t_readItem_61 ((by unfold item; rw [if_pos q5, if_pos (by omega)]; exact hp8))
    by_cases s14_100 : h 1 5 = 100
    · refine z_look (tgt := 68) (off := 54) D_t_readItem_14 (by decide) (by omega) (by rw [s14_100]; rfl) (by decide) ?_
      refine z_aload_n D_t_readItem_68 rfl ?_
      refine z_aload_n D_t_readItem_69 rfl ?_
      refine z_V1q (c0 := 9) (c_t_readDrag hw hT hc hs hS hz) G_t_readDrag I_t_readDrag lk_t_56 (rfl) ⟨by decide, rfl⟩ ⟨Nat.le_of_ble_eq_true rfl, Nat.le_of_ble_eq_true rfl⟩ (Nat.le_of_ble_eq_true rfl) D_t_readItem_70 (fun v8 h8 hp8 => ?_)
      have hv8 := hp8.2.1
      subst hv8
      show Z _ _ _ _ [vI (zb _)] _
      exact z_zreturn rfl (by first | exact Or.inl rfl | exact Or.inr rfl | exact zb_01 _) D_t_readItem_73 ((by unfold item; rw [if_pos q5, if_neg (by omega), if_neg (by omega), if_pos (by omega)]; exact hp8))
    by_cases s14_107 : h 1 5 = 107
    · refine z_look (tgt := 62) (off := 48) D_t_readItem_14 (by decide) (by omega) (by rw [s14_107]; rfl) (by decide) ?_
      refine z_aload_n D_t_readItem_62 rfl ?_
      refine z_aload_n D_t_readItem_63 rfl ?_
      refine z_V1q (c0 := 9) (c_t_readKeeps hw hT hc hs hS hz) G_t_readKeeps I_t_readKeeps lk_t_53 (rfl) ⟨by decide, rfl⟩ ⟨Nat.le_of_ble_eq_true rfl, Nat.le_of_ble_eq_true rfl⟩ (Nat.le_of_ble_eq_true rfl) D_t_readItem_64 (fun v8 h8 hp8 => ?_)
      have hv8 := hp8.2.1
      subst hv8
      show Z _ _ _ _ [vI (zb _)] _
      exact z_zreturn rfl (by first | exact Or.inl rfl | exact Or.inr rfl | exact zb_01 _) D_t_readItem_67 ((by unfold item; rw [if_pos q5, if_neg (by omega), if_pos (by omega)]; exact hp8))
    by_cases s14_112 : h 1 5 = 112
    · refine z_look (tgt := 74) (off := 60) D_t_readItem_14 (by decide) (by omega) (by rw [s14_112]; rfl) (by decide) ?_
      refine z_aload_n D_t_readItem_74 rfl ?_
      refine z_aload_n D_t_readItem_75 rfl ?_
      refine z_V1q (c0 := 9) (c_t_readPerson hw hT hc hs hS hz) G_t_readPerson I_t_readPerson lk_t_59 (rfl) ⟨by decide, rfl⟩ ⟨Nat.le_of_ble_eq_true rfl, Nat.le_of_ble_eq_true rfl⟩ (Nat.le_of_ble_eq_true rfl) D_t_readItem_76 (fun v8 h8 hp8 => ?_)
      have hv8 := hp8.2.1
      subst hv8
      show Z _ _ _ _ [vI (zb _)] _
      exact z_zreturn rfl (by first | exact Or.inl rfl | exact Or.inr rfl | exact zb_01 _) D_t_readItem_79 ((by unfold item; rw [if_pos q5, if_neg (by omega), if_neg (by omega), if_neg (by omega), if_pos (by omega)]; exact hp8))
    refine z_look (tgt := 80) (off := 66) D_t_readItem_14 (by decide) (by omega) (by show (if _ = _ then _ else if _ = _ then _ else if _ = _ then _ else if _ = _ then _ else _) = _; rw [if_neg (by omega), if_neg (by omega), if_neg (by omega), if_neg (by omega)]; rfl) (by decide) ?_
    refine z_iconst D_t_readItem_80 ?_
    exact z_zreturn rfl (by first | exact Or.inl rfl | exact Or.inr rfl | exact zb_01 _) D_t_readItem_81 ((by unfold item; rw [if_pos q5, if_neg (by omega), if_neg (by omega), if_neg (by omega), if_neg (by omega)]; exact PX.bad (TK.rfl'.fx w) hs rfl))
  · refine z_iconst D_t_readItem_8 ?_
    exact z_zreturn rfl (by first | exact Or.inl rfl | exact Or.inr rfl | exact zb_01 _) D_t_readItem_9 ((by unfold item; rw [if_neg q5]; exact PX.bad (TK.rfl'.fx w) hs rfl))

theorem item_v {T : Int → Int} {L s t v v2 c : Int} {z : Pst} (h : t = 1 → v = v2) : item T L s t v c z = item T L s t v2 c z := by
  unfold item
  by_cases q : t = 1
  · rw [h q]
  · rw [if_neg q, if_neg q]
def QX (h : zH) (w : Nat) (R : Int × Pst) : Option zV → zH → Prop := fun v h2 => FX h h2 w ∧ v = some (vI R.1) ∧ (0 ≤ R.1 → SX h2 w R.2)
theorem l_t_readInto {h : zH} {w : Nat} {R : Int × Pst} (hw : w = 3 ∨ w = 7) (hT : TX h) : ∀ (k : Nat) (c i : Int) (z : Pst) (h1 : zH), 0 ≤ i → i ≤ c → c ≤ h 1 1 → h 1 1 - c < k → FX h h1 w → SX h1 w z → OKs z → h1 1 2 = c → prs (tx h) (h 1 1) k c i z = R → Z M_t_readInto (QX h w R) 21 [vR 1, vR w, vI i] [] h1 := by
  have hL := hT.1
  intro k
  induction k with
  | zero => intro c i z h1 h0 h2 h3 h4; omega
  | succ k ih =>
    intro c i z h1 h0 h2 h3 h4 hF hS hz e2 hR
    have eT := hF.eT hw
    have eL := hF.2
    have ht := tk_in (T := tx h) h3
    unfold prs at hR
    refine z_iload_n D_t_readInto_21 rfl ?_
    refine z_sipush (by decide) D_t_readInto_22 ?_
    refine z_icmp_gt (tgt := 58) D_t_readInto_25 (by decide) (by omega) (by omega) (fun q25 => ?_) (fun q25 => ?_)
    · omega
    · refine z_aload_n D_t_readInto_28 rfl ?_
      refine z_V0q (c0 := 9) (c_t_readToken (hF.ok hw hT) (by rw [e2, eL]; omega)) G_t_readToken I_t_readToken lk_t_34 (rfl) ⟨by decide, rfl⟩ ⟨Nat.le_of_ble_eq_true rfl, Nat.le_of_ble_eq_true rfl⟩ (Nat.le_of_ble_eq_true rfl) D_t_readInto_29 (fun v9 h9 hp9 => ?_)
      obtain ⟨rfl, hR9⟩ := hp9
      show Z _ _ _ _ [] _
      rw [eT, eL, e2] at hR9
      obtain ⟨r1, r2, r3, r4, r5, r6⟩ := hR9
      have hF9 := hF.trans (r1.fx w)
      have hS9 := hS.tk r1 hw
      have hT9 := hF9.ok hw hT
      have eT9 := hF9.eT hw
      have eL9 := hF9.2
      refine z_aload_n D_t_readInto_32 rfl ?_
      refine z_getI fl_t_37 (rfl) rfl D_t_readInto_33 ?_
      refine z_if_ne (tgt := 41) D_t_readInto_36 (by decide) (by omega) (fun q36 => ?_) (fun q36 => ?_)
      · refine z_aload_n D_t_readInto_41 rfl ?_
        refine z_aload_n D_t_readInto_42 rfl ?_
        refine z_V1q (c0 := 9) (c_t_readItem hw hT9 (by rw [eL9, r2]; omega) (by omega) hS9 hz r6 (by omega)) G_t_readItem I_t_readItem lk_t_40 (rfl) ⟨by decide, rfl⟩ ⟨Nat.le_of_ble_eq_true rfl, Nat.le_of_ble_eq_true rfl⟩ (Nat.le_of_ble_eq_true rfl) D_t_readInto_43 (fun v8 h8 hp8 => ?_)
        rw [eT9, eL9, r2, r3, r4, item_v (v2 := tkV (tx h) (h 1 1) c) (fun q => r5 (Or.inl q))] at hp8
        change PX h9 w (itm (tx h) (h 1 1) c z) v8 h8 at hp8
        obtain ⟨f8, hv8, g8, k8⟩ := hp8
        subst hv8
        show Z _ _ _ _ [vI (zb _)] _
        have hgo := item_go (T := tx h) (z := z) ⟨by omega, h3⟩ hz
        have hF8 := hF9.trans f8
        refine z_ifneB (tgt := 52) D_t_readInto_46 (by decide) (fun q46 => ?_) (fun q46 => ?_)
        · refine z_iinc_2 D_t_readInto_52 (Nat.le_of_ble_eq_true rfl) rfl ?_
          refine z_goto (tgt := 21) D_t_readInto_55 (by decide) ?_
          rcases hgo with ⟨o1, o2, o3, o4⟩ | o
          · obtain ⟨k1, k2⟩ := k8 q46
            refine ih _ (i + 1) _ h8 (by omega) (by omega) o3 (by omega) hF8 k2 o4 k1 ?_
            rw [if_neg (by omega), if_neg (by omega)] at hR
            exact hR
          · omega
        · refine z_goto (tgt := 58) D_t_readInto_49 (by decide) ?_
          refine z_bipush (by decide) D_t_readInto_58 ?_
          refine z_aload_n D_t_readInto_60 rfl ?_
          refine z_getI fl_t_44 (rfl) rfl D_t_readInto_61 ?_
          refine z_isub D_t_readInto_64 ?_
          exact z_ireturn rfl D_t_readInto_65 ((by rw [if_neg (by omega), if_pos (by omega)] at hR; subst hR; exact ⟨hF8, by rw [g8 (by omega)], fun q => absurd (show 0 ≤ -10 - (itm (tx h) (h 1 1) c z).1 from q) (by omega)⟩))
      · refine z_iload_n D_t_readInto_39 rfl ?_
        exact z_ireturn rfl D_t_readInto_40 ((by rw [if_pos (by omega)] at hR; subst hR; exact ⟨hF9, rfl, fun _ => hS9⟩))
