/-! the other side is told a window -/
def MRose (h h2 : zH) (z : Pst) : Prop := (∀ a, a ≠ 39 → a ≠ 40 → a ≠ 41 → a ≠ 42 → a ≠ 44 → a ≠ 48 → a ≠ 49 → a ≠ 50 → h2 a = h a) ∧ h2 39 13 = h 39 13 ∧ h2 39 0 = z.1 ∧ h2 39 2 = (if 0 ≤ z.2.2.1 then z.2.2.1 else 8) ∧ h2 39 3 = (if 0 ≤ z.2.2.2.1 then z.2.2.2.1 else 1) ∧ h2 39 4 = z.2.2.2.2.1 ∧ h2 39 9 = 0 ∧ h2 39 11 = 0 ∧ h2 39 15 = 0 ∧ (∀ j, 0 ≤ j → j < z.1 → h2 40 j.toNat = z.2.1 j) ∧ (∀ j, 0 ≤ j → j < z.2.2.2.2.1 → h2 41 j.toNat = z.2.2.2.2.2.2 j) ∧ (∀ c, 0 ≤ c → c < 52 → nm h2 c = rowOf z c) ∧ nm h2 52 = 0 ∧ h2 44 0 = 0 ∧ h2 44 1 = 0
def MS1 (h b : zH) (z : Pst) : Prop := (∀ a, a ≠ 39 → a ≠ 40 → b a = h a) ∧ b 39 0 = z.1 ∧ b 39 2 = (if 0 ≤ z.2.2.1 then z.2.2.1 else 8) ∧ b 39 3 = (if 0 ≤ z.2.2.2.1 then z.2.2.2.1 else 1) ∧ b 39 4 = z.2.2.2.2.1 ∧ (∀ j, j ≠ 0 → j ≠ 2 → j ≠ 3 → j ≠ 4 → b 39 j = h 39 j) ∧ ∀ j, 0 ≤ j → j < z.1 → b 40 j.toNat = z.2.1 j
theorem l_set1 {g : zH} {post : Option zV → zH → Prop} (K : ∀ h2, (∀ a, a ≠ 40 → h2 a = g a) → (∀ k : Nat, k < 12 → h2 40 k = g 48 k) → Z M_m_settles post 34 [vR 39, vI 12] [] h2) : ∀ (k : Nat) (i : Int) (h1 : zH), 0 ≤ i → i ≤ 12 → 12 - i < k → (∀ a, a ≠ 40 → h1 a = g a) → (∀ k : Nat, (k : Int) < i → h1 40 k = g 48 k) → Z M_m_settles post 10 [vR 39, vI i] [] h1 := by
  intro k
  induction k with
  | zero => intro i h1 h0 h2 h3; omega
  | succ k ih =>
    intro i h1 h0 h2 h3 hE hA
    refine z_iload_n D_m_settles_10 rfl ?_
    refine z_bipush (by decide) D_m_settles_11 ?_
    refine z_icmp_ge (tgt := 34) D_m_settles_13 (by decide) (by omega) (by omega) (fun q13 => ?_) (fun q13 => ?_)
    · have e9 : i = 12 := by omega
      subst e9
      exact K h1 hE (fun j hj => hA j (by omega))
    · refine z_aload_n D_m_settles_16 rfl ?_
      refine z_getR (q := 40) fl_m_7 (rfl) rfl (rfl) D_m_settles_17 ?_
      refine z_iload_n D_m_settles_20 rfl ?_
      refine z_aload_n D_m_settles_21 rfl ?_
      refine z_getR (q := 48) fl_m_42 (rfl) rfl (rfl) D_m_settles_22 ?_
      refine z_iload_n D_m_settles_25 rfl ?_
      refine z_iald (n := 12) (rfl) (by omega) D_m_settles_26 ?_
      refine z_iast (n := 12) (rfl) (by omega) D_m_settles_27 ?_
      refine z_iinc_1 D_m_settles_28 (Nat.le_of_ble_eq_true rfl) rfl ?_
      refine z_goto (tgt := 10) D_m_settles_31 (by decide) ?_
      refine ih (i + 1) _ (by omega) (by omega) (by omega) (fun a ha => by funext j; rw [zup_ne ha, hE a ha]) (fun j hj => ?_)
      by_cases e : j = i.toNat
      · rw [e, zup_same, hE 48 (by decide)]
      · rw [zup_nk e]; exact hA j (by omega)
theorem l_set2 {g : zH} {post : Option zV → zH → Prop} (K : Z M_m_settles post 103 [vR 39, vI 573] [] (zfill g 42 573 0)) : ∀ (k : Nat) (i : Int), 0 ≤ i → i ≤ 573 → 573 - i < k → Z M_m_settles post 83 [vR 39, vI i] [] (zfill g 42 i.toNat 0) := by
  intro k
  induction k with
  | zero => intro i h0 h1 h2; omega
  | succ k ih =>
    intro i h0 h1 h2
    refine z_iload_n D_m_settles_83 rfl ?_
    refine z_sipush (by decide) D_m_settles_84 ?_
    refine z_icmp_ge (tgt := 103) D_m_settles_87 (by decide) (by omega) (by omega) (fun q87 => ?_) (fun q87 => ?_)
    · have e9 : i = 573 := by omega
      subst e9
      exact K
    · refine z_aload_n D_m_settles_90 rfl ?_
      refine z_getR (q := 42) fl_m_23 (rfl) rfl (rfl) D_m_settles_91 ?_
      refine z_iload_n D_m_settles_94 rfl ?_
      refine z_iconst D_m_settles_95 ?_
      refine z_iast (n := 573) (rfl) (by omega) D_m_settles_96 ?_
      refine z_iinc_1 D_m_settles_97 (Nat.le_of_ble_eq_true rfl) rfl ?_
      refine z_goto (tgt := 83) D_m_settles_100 (by decide) ?_
      rw [zfill_1 h0]
      exact ih (i + 1) (by omega) (by omega) (by omega)
theorem l_set3 {g : zH} {post : Option zV → zH → Prop} {np : Int} (hnp : 0 ≤ np ∧ np ≤ 6) (en : g 39 4 = np) (K : ∀ h2, (∀ a, a ≠ 41 → a ≠ 42 → h2 a = g a) → (∀ k : Nat, k < 6 → h2 41 k = g 50 k) → (∀ k : Nat, h2 42 k = if 4 ≤ k ∧ k < 10 then (if ((k : Int) - 4) < np then g 49 (k - 4) else 0) else g 42 k) → Z M_m_settles post 155 [vR 39, vI 6] [] h2) : ∀ (k : Nat) (i : Int) (h1 : zH), 0 ≤ i → i ≤ 6 → 6 - i < k → (∀ a, a ≠ 41 → a ≠ 42 → h1 a = g a) → (∀ k : Nat, (k : Int) < i → h1 41 k = g 50 k) → (∀ k : Nat, h1 42 k = if 4 ≤ k ∧ (k : Int) < 4 + i then (if ((k : Int) - 4) < np then g 49 (k - 4) else 0) else g 42 k) → Z M_m_settles post 105 [vR 39, vI i] [] h1 := by
  intro k
  induction k with
  | zero => intro i h1 h0 h2 h3; omega
  | succ k ih =>
    intro i h1 h0 h2 h3 hE hA hB
    have en1 : h1 39 4 = np := by rw [hE 39 (by decide) (by decide)]; exact en
    refine z_iload_n D_m_settles_105 rfl ?_
    refine z_bipush (by decide) D_m_settles_106 ?_
    refine z_icmp_ge (tgt := 155) D_m_settles_108 (by decide) (by omega) (by omega) (fun q108 => ?_) (fun q108 => ?_)
    · have e9 : i = 6 := by omega
      subst e9
      refine K h1 hE (fun j hj => hA j (by omega)) (fun j => ?_)
      rw [hB]
      by_cases q : 4 ≤ j ∧ j < 10
      · rw [if_pos q, if_pos (by omega)]
      · rw [if_neg q, if_neg (by omega)]
    · refine z_aload_n D_m_settles_111 rfl ?_
      refine z_getR (q := 41) fl_m_20 (rfl) rfl (rfl) D_m_settles_112 ?_
      refine z_iload_n D_m_settles_115 rfl ?_
      refine z_aload_n D_m_settles_116 rfl ?_
      refine z_getR (q := 50) fl_m_48 (rfl) rfl (rfl) D_m_settles_117 ?_
      refine z_iload_n D_m_settles_120 rfl ?_
      refine z_iald (n := 6) (rfl) (by omega) D_m_settles_121 ?_
      refine z_iast (n := 6) (rfl) (by omega) D_m_settles_122 ?_
      refine z_aload_n D_m_settles_123 rfl ?_
      refine z_getR (q := 42) fl_m_23 (rfl) rfl (rfl) D_m_settles_124 ?_
      refine z_iconst D_m_settles_127 ?_
      refine z_iload_n D_m_settles_128 rfl ?_
      refine z_iadd D_m_settles_129 ?_
      refine z_iload_n D_m_settles_130 rfl ?_
      refine z_aload_n D_m_settles_131 rfl ?_
      refine z_getI fl_m_66 (rfl) rfl D_m_settles_132 ?_
      rw [show zup h1 41 i.toNat (h1 50 i.toNat) 39 4 = np by rw [zup_ne (by decide)]; exact en1]
      refine z_icmp_ge (tgt := 147) D_m_settles_135 (by decide) (by omega) (by omega) (fun q135 => ?_) (fun q135 => ?_)
      · refine z_iconst D_m_settles_147 ?_
        refine z_iast (n := 573) (rfl) (by omega) D_m_settles_148 ?_
        refine z_iinc_1 D_m_settles_149 (Nat.le_of_ble_eq_true rfl) rfl ?_
        refine z_goto (tgt := 105) D_m_settles_152 (by decide) ?_
        refine ih (i + 1) _ (by omega) (by omega) (by omega) (fun a a0 a1 => by funext j; rw [zup_ne a1, zup_ne a0, hE a a0 a1]) (fun j hj => ?_) (fun j => ?_)
        · rw [zup_ne (by decide)]
          by_cases e : j = i.toNat
          · rw [e, zup_same, hE 50 (by decide) (by decide)]
          · rw [zup_nk e]; exact hA j (by omega)
        · by_cases e : j = (4 + i).toNat
          · rw [e, zup_same, if_pos (by omega), if_neg (by omega)]
          · rw [zup_nk e, zup_ne (by decide), hB]
            by_cases q : 4 ≤ j ∧ (j : Int) < 4 + i
            · rw [if_pos q, if_pos (show 4 ≤ j ∧ (j : Int) < 4 + (i + 1) by omega)]
            · rw [if_neg q, if_neg (by omega)]
      · refine z_aload_n D_m_settles_138 rfl ?_
        refine z_getR (q := 49) fl_m_45 (rfl) rfl (rfl) D_m_settles_139 ?_
        refine z_iload_n D_m_settles_142 rfl ?_
        refine z_iald (n := 6) (rfl) (by omega) D_m_settles_143 ?_
        refine z_goto (tgt := 148) D_m_settles_144 (by decide) ?_
        refine z_iast (n := 573) (rfl) (by omega) D_m_settles_148 ?_
        refine z_iinc_1 D_m_settles_149 (Nat.le_of_ble_eq_true rfl) rfl ?_
        refine z_goto (tgt := 105) D_m_settles_152 (by decide) ?_
        refine ih (i + 1) _ (by omega) (by omega) (by omega) (fun a a0 a1 => by funext j; rw [zup_ne a1, zup_ne a0, hE a a0 a1]) (fun j hj => ?_) (fun j => ?_)
        · rw [zup_ne (by decide)]
          by_cases e : j = i.toNat
          · rw [e, zup_same, hE 50 (by decide) (by decide)]
          · rw [zup_nk e]; exact hA j (by omega)
        · by_cases e : j = (4 + i).toNat
          · rw [e, zup_same, if_pos (by omega), if_pos (by omega), zup_ne (by decide), hE 49 (by decide) (by decide)]
            exact congrArg (g 49) (by omega)
          · rw [zup_nk e, zup_ne (by decide), hB]
            by_cases q : 4 ≤ j ∧ (j : Int) < 4 + i
            · rw [if_pos q, if_pos (show 4 ≤ j ∧ (j : Int) < 4 + (i + 1) by omega)]
            · rw [if_neg q, if_neg (by omega)]
theorem l_set81 {h b : zH} {z : Pst} {y : zV} (hS : SM h z) (hz : OKs z) (hb : MS1 h b z) : Z M_m_settles (fun v h2 => v = none ∧ MRose h h2 z ∧ h2 39 21 = h 39 21) 81 [vR 39, y] [] b := by
  have b1 := hz.1
  have b2 := hz.2.1
  obtain ⟨f, m0, m2, m3, m4, mj, mp⟩ := hb
  refine z_iconst D_m_settles_81 ?_
  refine z_istore_1 D_m_settles_82 (Nat.le_of_ble_eq_true rfl) rfl ?_
  have e0 : zfill b 42 (Int.toNat 0) 0 = b := zfill_0
  rw [← e0]
  refine l_set2 ?_ (574 : Nat) 0 (by omega) (by omega) (by omega)
  refine z_iconst D_m_settles_103 ?_
  refine z_istore_1 D_m_settles_104 (Nat.le_of_ble_eq_true rfl) rfl ?_
  refine l_set3 (np := z.2.2.2.2.1) b2 (by unfold zfill; rw [if_neg (by omega)]; exact m4) (fun h2 hE hA hB => ?_) (7 : Nat) 0 _ (by omega) (by omega) (by omega) (fun a a0 a1 => rfl) (fun j hj => absurd hj (by omega)) (fun j => by rw [if_neg (by omega)])
  refine z_aload_n D_m_settles_155 rfl ?_
  refine z_iconst D_m_settles_156 ?_
  refine z_putI fl_m_140 (rfl) rfl rfl D_m_settles_157 ?_
  refine z_aload_n D_m_settles_160 rfl ?_
  refine z_iconst D_m_settles_161 ?_
  refine z_putI fl_m_143 (rfl) rfl rfl D_m_settles_162 ?_
  refine z_aload_n D_m_settles_165 rfl ?_
  refine z_getR (q := 44) fl_m_29 (rfl) rfl (rfl) D_m_settles_166 ?_
  refine z_iconst D_m_settles_169 ?_
  refine z_iconst D_m_settles_170 ?_
  refine z_bast (n := 2) (rfl) (by omega) (by first | exact Or.inl rfl | exact Or.inr rfl | exact zb_01 _) D_m_settles_171 ?_
  refine z_aload_n D_m_settles_172 rfl ?_
  refine z_getR (q := 44) fl_m_29 (rfl) rfl (rfl) D_m_settles_173 ?_
  refine z_iconst D_m_settles_176 ?_
  refine z_iconst D_m_settles_177 ?_
  refine z_bast (n := 2) (rfl) (by omega) (by first | exact Or.inl rfl | exact Or.inr rfl | exact zb_01 _) D_m_settles_178 ?_
  refine z_aload_n D_m_settles_179 rfl ?_
  refine z_iconst D_m_settles_180 ?_
  refine z_putI fl_m_76 (rfl) rfl rfl D_m_settles_181 ?_
  refine z_return rfl D_m_settles_184 ⟨rfl, ⟨fun a a0 a1 a2 a3 a4 a5 a6 a7 => ?_, ?_, ?_, ?_, ?_, ?_, ?_, ?_, zup_same, fun j j0 j1 => ?_, fun j j0 j1 => ?_, fun c c0 c1 => ?_, ?_, ?_, ?_⟩, ?_⟩
  · funext j; rw [zup_ne a0, zup_ne a4, zup_ne a4, zup_ne a0, zup_ne a0, hE a a2 a3]; unfold zfill; rw [if_neg (by omega), f a a0 a1]
  · rw [zup_nk (by decide), zup_ne (by decide), zup_ne (by decide), zup_nk (by decide), zup_nk (by decide), hE 39 (by decide) (by decide)]; unfold zfill; rw [if_neg (by omega)]; exact mj 13 (by decide) (by decide) (by decide) (by decide)
  · rw [zup_nk (by decide), zup_ne (by decide), zup_ne (by decide), zup_nk (by decide), zup_nk (by decide), hE 39 (by decide) (by decide)]; unfold zfill; rw [if_neg (by omega)]; exact m0
  · rw [zup_nk (by decide), zup_ne (by decide), zup_ne (by decide), zup_nk (by decide), zup_nk (by decide), hE 39 (by decide) (by decide)]; unfold zfill; rw [if_neg (by omega)]; exact m2
  · rw [zup_nk (by decide), zup_ne (by decide), zup_ne (by decide), zup_nk (by decide), zup_nk (by decide), hE 39 (by decide) (by decide)]; unfold zfill; rw [if_neg (by omega)]; exact m3
  · rw [zup_nk (by decide), zup_ne (by decide), zup_ne (by decide), zup_nk (by decide), zup_nk (by decide), hE 39 (by decide) (by decide)]; unfold zfill; rw [if_neg (by omega)]; exact m4
  · rw [zup_nk (by decide), zup_ne (by decide), zup_ne (by decide), zup_nk (by decide), zup_same]
  · rw [zup_nk (by decide), zup_ne (by decide), zup_ne (by decide), zup_same]
  · rw [zup_ne (by decide), zup_ne (by decide), zup_ne (by decide), zup_ne (by decide), zup_ne (by decide), hE 40 (by decide) (by decide)]; unfold zfill; rw [if_neg (by omega)]; exact mp j j0 j1
  · rw [zup_ne (by decide), zup_ne (by decide), zup_ne (by decide), zup_ne (by decide), zup_ne (by decide), hA j.toNat (by omega)]; unfold zfill; rw [if_neg (by omega), f 50 (by decide) (by decide)]; exact hS.2.2.2.2.2.2 j j0 j1
  · unfold nm rowOf
    rw [zup_ne (by decide), zup_ne (by decide), zup_ne (by decide), zup_ne (by decide), zup_ne (by decide), hB]
    by_cases q : 4 ≤ c ∧ c < 4 + z.2.2.2.2.1
    · rw [if_pos q, if_pos (by omega), if_pos (by omega)]; unfold zfill; rw [if_neg (by omega), f 49 (by decide) (by decide), ← hS.2.2.2.2.2.1 (c - 4) (by omega) (by omega)]; exact congrArg (h 49) (by omega)
    · rw [if_neg q]
      by_cases q2 : 4 ≤ c.toNat ∧ c.toNat < 10
      · rw [if_pos q2, if_neg (by omega)]
      · rw [if_neg q2]; unfold zfill; rw [if_pos (by omega)]
  · unfold nm
    rw [zup_ne (by decide), zup_ne (by decide), zup_ne (by decide), zup_ne (by decide), zup_ne (by decide), hB, if_neg (by omega)]; unfold zfill; rw [if_pos (by omega)]
  · rw [zup_ne (by decide), zup_nk (by decide)]; exact zup_same
  · rw [zup_ne (by decide)]; exact zup_same
  · rw [zup_nk (by decide), zup_ne (by decide), zup_ne (by decide), zup_nk (by decide), zup_nk (by decide), hE 39 (by decide) (by decide)]; unfold zfill; rw [if_neg (by omega)]; exact mj 21 (by decide) (by decide) (by decide) (by decide)
theorem c_m_settles {h : zH} {z : Pst} (hS : SM h z) (hz : OKs z) : zC M_m_settles [vR 39] h (fun v h2 => v = none ∧ MRose h h2 z ∧ h2 39 21 = h 39 21) := by
  refine zC.ofN 1 (by decide) (by first | decide | exact Nat.le_of_ble_eq_true rfl) ?_
  show Z M_m_settles _ 0 [vR 39, vU] [] h
  have b1 := hz.1
  have b2 := hz.2.1
  have b3 := hz.2.2.1
  have b4 := hz.2.2.2.1
  refine z_aload_n D_m_settles_0 rfl ?_
  refine z_aload_n D_m_settles_1 rfl ?_
  refine z_getI fl_m_112 (rfl) rfl D_m_settles_2 ?_
  refine z_putI fl_m_73 (rfl) rfl rfl D_m_settles_5 ?_
  refine z_iconst D_m_settles_8 ?_
  refine z_istore_1 D_m_settles_9 (Nat.le_of_ble_eq_true rfl) rfl ?_
  refine l_set1 (fun h2 hE hA => ?_) (13 : Nat) 0 _ (by omega) (by omega) (by omega) (fun a ha => rfl) (fun j hj => absurd hj (by omega))
  have e24 : h2 39 24 = z.2.2.1 := by rw [hE 39 (by decide), zup_nk (by decide)]; exact hS.2.1
  have e25 : h2 39 25 = z.2.2.2.1 := by rw [hE 39 (by decide), zup_nk (by decide)]; exact hS.2.2.1
  have e26 : h2 39 26 = z.2.2.2.2.1 := by rw [hE 39 (by decide), zup_nk (by decide)]; exact hS.2.2.2.1
  refine z_aload_n D_m_settles_34 rfl ?_
  refine z_aload_n D_m_settles_35 rfl ?_
  refine z_getI fl_m_119 (rfl) rfl D_m_settles_36 ?_
  rw [e24]
  refine z_if_ge (tgt := 47) D_m_settles_39 (by decide) (by omega) (fun q39 => ?_) (fun q39 => ?_)
  · refine z_aload_n D_m_settles_47 rfl ?_
    refine z_getI fl_m_119 (rfl) rfl D_m_settles_48 ?_
    rw [e24]
    refine z_putI fl_m_13 (rfl) rfl rfl D_m_settles_51 ?_
    refine z_aload_n D_m_settles_54 rfl ?_
    refine z_aload_n D_m_settles_55 rfl ?_
    refine z_getI fl_m_122 (rfl) rfl D_m_settles_56 ?_
    rw [zup_nk (by decide), e25]
    refine z_if_ge (tgt := 66) D_m_settles_59 (by decide) (by omega) (fun q59 => ?_) (fun q59 => ?_)
    · refine z_aload_n D_m_settles_66 rfl ?_
      refine z_getI fl_m_122 (rfl) rfl D_m_settles_67 ?_
      rw [zup_nk (by decide), e25]
      refine z_putI fl_m_17 (rfl) rfl rfl D_m_settles_70 ?_
      refine z_aload_n D_m_settles_73 rfl ?_
      refine z_aload_n D_m_settles_74 rfl ?_
      refine z_getI fl_m_109 (rfl) rfl D_m_settles_75 ?_
      refine z_putI fl_m_66 (rfl) rfl rfl D_m_settles_78 ?_
      refine l_set81 hS hz ⟨fun a a0 a1 => ?_, ?_, ?_, ?_, ?_, fun j j0 j2 j3 j4 => ?_, fun j j0 j1 => ?_⟩
      · funext j; rw [zup_ne a0, zup_ne a0, zup_ne a0, hE a a1, zup_ne a0]
      · rw [zup_nk (by decide), zup_nk (by decide), zup_nk (by decide), hE 39 (by decide), zup_same]; exact hS.1
      · rw [zup_nk (by decide), zup_nk (by decide), zup_same, if_pos (by omega)]
      · rw [zup_nk (by decide), zup_same, if_pos (by omega)]
      · rw [zup_same, zup_nk (by decide), zup_nk (by decide)]; exact e26
      · rw [zup_nk j4, zup_nk j3, zup_nk j2, hE 39 (by decide), zup_nk j0]
      · rw [zup_ne (by decide), zup_ne (by decide), zup_ne (by decide), hA j.toNat (by omega), zup_ne (by decide)]; exact hS.2.2.2.2.1 j j0 j1
    · refine z_iconst D_m_settles_62 ?_
      refine z_goto (tgt := 70) D_m_settles_63 (by decide) ?_
      refine z_putI fl_m_17 (rfl) rfl rfl D_m_settles_70 ?_
      refine z_aload_n D_m_settles_73 rfl ?_
      refine z_aload_n D_m_settles_74 rfl ?_
      refine z_getI fl_m_109 (rfl) rfl D_m_settles_75 ?_
      refine z_putI fl_m_66 (rfl) rfl rfl D_m_settles_78 ?_
      refine l_set81 hS hz ⟨fun a a0 a1 => ?_, ?_, ?_, ?_, ?_, fun j j0 j2 j3 j4 => ?_, fun j j0 j1 => ?_⟩
      · funext j; rw [zup_ne a0, zup_ne a0, zup_ne a0, hE a a1, zup_ne a0]
      · rw [zup_nk (by decide), zup_nk (by decide), zup_nk (by decide), hE 39 (by decide), zup_same]; exact hS.1
      · rw [zup_nk (by decide), zup_nk (by decide), zup_same, if_pos (by omega)]
      · rw [zup_nk (by decide), zup_same, if_neg (by omega)]
      · rw [zup_same, zup_nk (by decide), zup_nk (by decide)]; exact e26
      · rw [zup_nk j4, zup_nk j3, zup_nk j2, hE 39 (by decide), zup_nk j0]
      · rw [zup_ne (by decide), zup_ne (by decide), zup_ne (by decide), hA j.toNat (by omega), zup_ne (by decide)]; exact hS.2.2.2.2.1 j j0 j1
  · refine z_bipush (by decide) D_m_settles_42 ?_
    refine z_goto (tgt := 51) D_m_settles_44 (by decide) ?_
    refine z_putI fl_m_13 (rfl) rfl rfl D_m_settles_51 ?_
    refine z_aload_n D_m_settles_54 rfl ?_
    refine z_aload_n D_m_settles_55 rfl ?_
    refine z_getI fl_m_122 (rfl) rfl D_m_settles_56 ?_
    rw [zup_nk (by decide), e25]
    refine z_if_ge (tgt := 66) D_m_settles_59 (by decide) (by omega) (fun q59 => ?_) (fun q59 => ?_)
    · refine z_aload_n D_m_settles_66 rfl ?_
      refine z_getI fl_m_122 (rfl) rfl D_m_settles_67 ?_
      rw [zup_nk (by decide), e25]
      refine z_putI fl_m_17 (rfl) rfl rfl D_m_settles_70 ?_
      refine z_aload_n D_m_settles_73 rfl ?_
      refine z_aload_n D_m_settles_74 rfl ?_
      refine z_getI fl_m_109 (rfl) rfl D_m_settles_75 ?_
      refine z_putI fl_m_66 (rfl) rfl rfl D_m_settles_78 ?_
      refine l_set81 hS hz ⟨fun a a0 a1 => ?_, ?_, ?_, ?_, ?_, fun j j0 j2 j3 j4 => ?_, fun j j0 j1 => ?_⟩
      · funext j; rw [zup_ne a0, zup_ne a0, zup_ne a0, hE a a1, zup_ne a0]
      · rw [zup_nk (by decide), zup_nk (by decide), zup_nk (by decide), hE 39 (by decide), zup_same]; exact hS.1
      · rw [zup_nk (by decide), zup_nk (by decide), zup_same, if_neg (by omega)]
      · rw [zup_nk (by decide), zup_same, if_pos (by omega)]
      · rw [zup_same, zup_nk (by decide), zup_nk (by decide)]; exact e26
      · rw [zup_nk j4, zup_nk j3, zup_nk j2, hE 39 (by decide), zup_nk j0]
      · rw [zup_ne (by decide), zup_ne (by decide), zup_ne (by decide), hA j.toNat (by omega), zup_ne (by decide)]; exact hS.2.2.2.2.1 j j0 j1
    · refine z_iconst D_m_settles_62 ?_
      refine z_goto (tgt := 70) D_m_settles_63 (by decide) ?_
      refine z_putI fl_m_17 (rfl) rfl rfl D_m_settles_70 ?_
      refine z_aload_n D_m_settles_73 rfl ?_
      refine z_aload_n D_m_settles_74 rfl ?_
      refine z_getI fl_m_109 (rfl) rfl D_m_settles_75 ?_
      refine z_putI fl_m_66 (rfl) rfl rfl D_m_settles_78 ?_
      refine l_set81 hS hz ⟨fun a a0 a1 => ?_, ?_, ?_, ?_, ?_, fun j j0 j2 j3 j4 => ?_, fun j j0 j1 => ?_⟩
      · funext j; rw [zup_ne a0, zup_ne a0, zup_ne a0, hE a a1, zup_ne a0]
      · rw [zup_nk (by decide), zup_nk (by decide), zup_nk (by decide), hE 39 (by decide), zup_same]; exact hS.1
      · rw [zup_nk (by decide), zup_nk (by decide), zup_same, if_neg (by omega)]
      · rw [zup_nk (by decide), zup_same, if_neg (by omega)]
      · rw [zup_same, zup_nk (by decide), zup_nk (by decide)]; exact e26
      · rw [zup_nk j4, zup_nk j3, zup_nk j2, hE 39 (by decide), zup_nk j0]
      · rw [zup_ne (by decide), zup_ne (by decide), zup_ne (by decide), hA j.toNat (by omega), zup_ne (by decide)]; exact hS.2.2.2.2.1 j j0 j1

