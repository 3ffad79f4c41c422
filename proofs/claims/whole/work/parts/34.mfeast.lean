/-! what is done, by the other side -/
theorem l_m_feasts1 {h : zH} {p : Int} {g : Int → Int} {post : Option zV → zH → Prop} (hm : MI h) (hp : 0 ≤ p ∧ p < h 39 4) (hc : colEq g (nm h)) (hgp : ∀ c, 16 ≤ c → c < 52 → (c - 16) / 6 = p → g c = nm h c) (K : ∀ h2 y, vlong y = false → MRow h h2 (feJ g (nm h) (fun q => col (pm h) (nm h) (h 39 0) q) (h 39 4) p (h 39 4)) → RowOK (h 39 0) (h 39 4) (feJ g (nm h) (fun q => col (pm h) (nm h) (h 39 0) q) (h 39 4) p (h 39 4)) → Z M_m_feasts post 141 [vR 39, vI p, vI (h 39 4), y] [] h2) : ∀ (k : Nat) (j : Int) (h1 : zH) (y : zV), 0 ≤ j → j ≤ h 39 4 → h 39 4 - j < k → vlong y = false → MRow h h1 (feJ g (nm h) (fun q => col (pm h) (nm h) (h 39 0) q) (h 39 4) p j) → RowOK (h 39 0) (h 39 4) (feJ g (nm h) (fun q => col (pm h) (nm h) (h 39 0) q) (h 39 4) p j) → Z M_m_feasts post 74 [vR 39, vI p, vI j, y] [] h1 := by
  have hnp := hm.hnp
  intro k
  induction k with
  | zero => intro j h1 y j0 j1 j2; omega
  | succ k ih =>
    intro j h1 y j0 j1 j2 hy hR hO
    have ew : h1 39 = h 39 := hR.1 39 (by decide)
    have hcE : colEq (feJ g (nm h) (fun q => col (pm h) (nm h) (h 39 0) q) (h 39 4) p j) (nm h) := fun c qc => by
      unfold feJ; rw [if_neg (by omega)]; exact hc c qc
    have hcol := fun q => col_in hm j0 q
    have hcolp := col_in hm hp.1 hp.2
    have hcell : j < h 39 4 → h1 42 (16 + 6 * p + j).toNat = nm h (16 + 6 * p + j) := fun q => by
      have := hR.2.1 (16 + 6 * p + j) (by omega) (by omega)
      unfold feJ at this
      rw [if_neg (by omega), hgp _ (by omega) (by omega) (by omega)] at this
      exact this
    have hcb := hm.row.ho (c := 16 + 6 * p + j) (by omega)
    have step : ∀ x, (x = if col (pm h) (nm h) (h 39 0) p = 1 ∧ col (pm h) (nm h) (h 39 0) j = 2 then min (nm h (16 + 6 * p + j) + 1) 99 else nm h (16 + 6 * p + j)) → j < h 39 4 → ∀ c, 0 ≤ c → c < 52 → upI (feJ g (nm h) (fun q => col (pm h) (nm h) (h 39 0) q) (h 39 4) p j) (16 + 6 * p + j) x c = feJ g (nm h) (fun q => col (pm h) (nm h) (h 39 0) q) (h 39 4) p (j + 1) c := by
      intro x hx9 hj c c0 c1
      unfold upI feJ
      by_cases hcc : c = 16 + 6 * p + j
      · rw [if_pos hcc, if_pos (by omega), hcc, hx9]
        unfold dbt
        rw [show (16 + 6 * p + j - 16) / 6 = p by omega, show (16 + 6 * p + j - 16) % 6 = j by omega]
        dsimp only
        by_cases h2 : col (pm h) (nm h) (h 39 0) p = 1 ∧ col (pm h) (nm h) (h 39 0) j = 2
        · rw [if_pos h2, if_pos ⟨h2.1, h2.2, hj⟩]
        · rw [if_neg h2, if_neg (fun q => h2 ⟨q.1, q.2.1⟩)]
      · rw [if_neg hcc]
        by_cases hq : 16 ≤ c ∧ (c - 16) / 6 = p ∧ (c - 16) % 6 < j
        · rw [if_pos hq, if_pos (by omega)]
        · rw [if_neg hq, if_neg (by omega)]
    have hxt : j = h 39 4 → feJ g (nm h) (fun q => col (pm h) (nm h) (h 39 0) q) (h 39 4) p j = feJ g (nm h) (fun q => col (pm h) (nm h) (h 39 0) q) (h 39 4) p (h 39 4) := fun e9 => by rw [e9]
    refine z_iload_n D_m_feasts_74 rfl ?_
    refine z_aload_n D_m_feasts_75 rfl ?_
    refine z_getI fl_m_66 (rfl) rfl D_m_feasts_76 ?_
    refine z_icmp_ge (tgt := 141) D_m_feasts_79 (by decide) (by omega) (by rw [ew]; omega) (fun q79 => ?_) (fun q79 => ?_)
    · rw [ew] at q79
      have e9 : j = h 39 4 := by omega
      rw [e9]
      rw [e9] at hR hO
      exact K h1 y hy hR hO
    · rw [ew] at q79
      have q79 : j < h 39 4 := by omega
      have hcb := hcb (by omega)
      refine z_bipush (by decide) D_m_feasts_82 ?_
      refine z_bipush (by decide) D_m_feasts_84 ?_
      refine z_iload_n D_m_feasts_86 rfl ?_
      refine z_imul D_m_feasts_87 ?_
      refine z_iadd D_m_feasts_88 ?_
      refine z_iload_n D_m_feasts_89 rfl ?_
      refine z_iadd D_m_feasts_90 ?_
      refine z_istore_3 D_m_feasts_91 (Nat.le_of_ble_eq_true rfl) rfl ?_
      refine z_aload_n D_m_feasts_92 rfl ?_
      refine z_getR (q := 42) fl_m_23 (rfl) rfl (rfl) D_m_feasts_93 ?_
      refine z_iload_n D_m_feasts_96 rfl ?_
      refine z_dup2 rfl rfl D_m_feasts_97 ?_
      refine z_iald (n := 573) (rfl) (by omega) D_m_feasts_98 ?_
      rw [hcell q79]
      refine z_aload_n D_m_feasts_99 rfl ?_
      refine z_iload_n D_m_feasts_100 rfl ?_
      refine z_V1 (c0 := 12) (c_m_standsInR hm hR hO hcE (by omega)) G_m_standsIn I_m_standsIn lk_m_155 (rfl) ⟨by decide, rfl⟩ ⟨Nat.le_of_ble_eq_true rfl, Nat.le_of_ble_eq_true rfl⟩ (Nat.le_of_ble_eq_true rfl) D_m_feasts_101 ?_
      refine z_iconst D_m_feasts_104 ?_
      refine z_icmp_ne (tgt := 132) D_m_feasts_105 (by decide) (by omega) (by omega) (fun q105 => ?_) (fun q105 => ?_)
      · refine z_iconst D_m_feasts_132 ?_
        refine z_iadd D_m_feasts_133 ?_
        refine z_iast (n := 573) (rfl) (by omega) D_m_feasts_134 ?_
        refine z_iinc_2 D_m_feasts_135 (Nat.le_of_ble_eq_true rfl) rfl ?_
        refine z_goto (tgt := 74) D_m_feasts_138 (by decide) ?_
        have s9 := step (nm h (16 + 6 * p + j) + 0) (by rw [if_neg (fun z => q105 z.1)]; omega) q79
        exact ih (j + 1) _ _ (by omega) (by omega) (by omega) rfl ((hR.put (by omega)).to s9) ((hO.upd hnp.2 (Or.inr (by omega))).to hnp.2 (fun c c0 c1 => (s9 c c0 c1).symm))
      · refine z_aload_n D_m_feasts_108 rfl ?_
        refine z_iload_n D_m_feasts_109 rfl ?_
        refine z_V1 (c0 := 12) (c_m_standsInR hm hR hO hcE (by omega)) G_m_standsIn I_m_standsIn lk_m_155 (rfl) ⟨by decide, rfl⟩ ⟨Nat.le_of_ble_eq_true rfl, Nat.le_of_ble_eq_true rfl⟩ (Nat.le_of_ble_eq_true rfl) D_m_feasts_110 ?_
        refine z_iconst D_m_feasts_113 ?_
        refine z_icmp_ne (tgt := 132) D_m_feasts_114 (by decide) (by have := hcol q79; omega) (by omega) (fun q114 => ?_) (fun q114 => ?_)
        · refine z_iconst D_m_feasts_132 ?_
          refine z_iadd D_m_feasts_133 ?_
          refine z_iast (n := 573) (rfl) (by omega) D_m_feasts_134 ?_
          refine z_iinc_2 D_m_feasts_135 (Nat.le_of_ble_eq_true rfl) rfl ?_
          refine z_goto (tgt := 74) D_m_feasts_138 (by decide) ?_
          have s9 := step (nm h (16 + 6 * p + j) + 0) (by rw [if_neg (fun z => q114 z.2)]; omega) q79
          exact ih (j + 1) _ _ (by omega) (by omega) (by omega) rfl ((hR.put (by omega)).to s9) ((hO.upd hnp.2 (Or.inr (by omega))).to hnp.2 (fun c c0 c1 => (s9 c c0 c1).symm))
        · refine z_aload_n D_m_feasts_117 rfl ?_
          refine z_getR (q := 42) fl_m_23 (rfl) rfl (rfl) D_m_feasts_118 ?_
          refine z_iload_n D_m_feasts_121 rfl ?_
          refine z_iald (n := 573) (rfl) (by omega) D_m_feasts_122 ?_
          rw [hcell q79]
          refine z_bipush (by decide) D_m_feasts_123 ?_
          refine z_icmp_ge (tgt := 132) D_m_feasts_125 (by decide) (by omega) (by omega) (fun q125 => ?_) (fun q125 => ?_)
          · refine z_iconst D_m_feasts_132 ?_
            refine z_iadd D_m_feasts_133 ?_
            refine z_iast (n := 573) (rfl) (by omega) D_m_feasts_134 ?_
            refine z_iinc_2 D_m_feasts_135 (Nat.le_of_ble_eq_true rfl) rfl ?_
            refine z_goto (tgt := 74) D_m_feasts_138 (by decide) ?_
            have s9 := step (nm h (16 + 6 * p + j) + 0) (by rw [if_pos ⟨q105, q114⟩, Int.min_def]; split <;> omega) q79
            exact ih (j + 1) _ _ (by omega) (by omega) (by omega) rfl ((hR.put (by omega)).to s9) ((hO.upd hnp.2 (Or.inr (by omega))).to hnp.2 (fun c c0 c1 => (s9 c c0 c1).symm))
          · refine z_iconst D_m_feasts_128 ?_
            refine z_goto (tgt := 133) D_m_feasts_129 (by decide) ?_
            refine z_iadd D_m_feasts_133 ?_
            refine z_iast (n := 573) (rfl) (by omega) D_m_feasts_134 ?_
            refine z_iinc_2 D_m_feasts_135 (Nat.le_of_ble_eq_true rfl) rfl ?_
            refine z_goto (tgt := 74) D_m_feasts_138 (by decide) ?_
            have s9 := step (nm h (16 + 6 * p + j) + 1) (by rw [if_pos ⟨q105, q114⟩, Int.min_def]; split <;> omega) q79
            exact ih (j + 1) _ _ (by omega) (by omega) (by omega) rfl ((hR.put (by omega)).to s9) ((hO.upd hnp.2 (Or.inr (by omega))).to hnp.2 (fun c c0 c1 => (s9 c c0 c1).symm))
theorem l_m_feasts {h : zH} (hm : MI h) (h9 : nm h 3 < 999) : ∀ (k : Nat) (i : Int) (h1 : zH) (y2 y3 : zV), 0 ≤ i → i ≤ h 39 4 → h 39 4 - i < k → MRow h h1 (feI (nm h) (fun q => col (pm h) (nm h) (h 39 0) q) (h 39 4) i) → RowOK (h 39 0) (h 39 4) (feI (nm h) (fun q => col (pm h) (nm h) (h 39 0) q) (h 39 4) i) → vlong y2 = false → vlong y3 = false → Z M_m_feasts (fun v h9 => v = none ∧ MRow h h9 (feI (nm h) (fun q => col (pm h) (nm h) (h 39 0) q) (h 39 4) (h 39 4)) ∧ RowOK (h 39 0) (h 39 4) (feI (nm h) (fun q => col (pm h) (nm h) (h 39 0) q) (h 39 4) (h 39 4))) 12 [vR 39, vI i, y2, y3] [] h1 := by
  have hnp := hm.hnp
  intro k
  induction k with
  | zero => intro i h1 y2 y3 h0 h2 h3; omega
  | succ k ih =>
    intro i h1 y2 y3 h0 h2 h3 hR hO hy hy3
    have ew : h1 39 = h 39 := hR.1 39 (by decide)
    have hcE : colEq (feI (nm h) (fun q => col (pm h) (nm h) (h 39 0) q) (h 39 4) i) (nm h) := fun c qc => by
      unfold feI; rw [if_neg (by omega), if_neg (by omega), if_neg (by omega)]
    have hcol := fun q => col_in hm h0 q
    have hpb := hm.row.ho (c := 10 + i) (by omega)
    have hgp : ∀ c, 16 ≤ c → c < 52 → (c - 16) / 6 = i → feI (nm h) (fun q => col (pm h) (nm h) (h 39 0) q) (h 39 4) i c = nm h c := fun c c0 c1 ce => by
      unfold feI; rw [if_neg (by omega), if_neg (by omega), if_pos (by omega), if_neg (by omega)]
    have hpt : i < h 39 4 → h1 42 (10 + i).toNat = nm h (10 + i) := fun q => by
      have := hR.2.1 (10 + i) (by omega) (by omega)
      unfold feI at this; rw [if_neg (by omega), if_pos (by omega), if_neg (by omega)] at this
      exact this
    have hptc : ptc (nm h) (fun q => col (pm h) (nm h) (h 39 0) q) (10 + i) = if col (pm h) (nm h) (h 39 0) i = 3 then min (nm h (10 + i) + 1) 99 else 0 := by
      unfold ptc; rw [show 10 + i - 10 = i by omega]
    have hxt : i = h 39 4 → feI (nm h) (fun q => col (pm h) (nm h) (h 39 0) q) (h 39 4) i = feI (nm h) (fun q => col (pm h) (nm h) (h 39 0) q) (h 39 4) (h 39 4) := fun e9 => by rw [e9]
    have hgo : ∀ x, i < h 39 4 → x = ptc (nm h) (fun q => col (pm h) (nm h) (h 39 0) q) (10 + i) → (0 ≤ x ∧ x ≤ 99) → Z M_m_feasts (fun v h9 => v = none ∧ MRow h h9 (feI (nm h) (fun q => col (pm h) (nm h) (h 39 0) q) (h 39 4) (h 39 4)) ∧ RowOK (h 39 0) (h 39 4) (feI (nm h) (fun q => col (pm h) (nm h) (h 39 0) q) (h 39 4) (h 39 4))) 74 [vR 39, vI i, vI 0, y3] [] (zup h1 42 (10 + i).toNat x) := by
      intro x hi hx9 hxb
      have hR2 := hR.put (c0 := 10 + i) (x := x) (by omega)
      have hO2 : RowOK (h 39 0) (h 39 4) (upI (feI (nm h) (fun q => col (pm h) (nm h) (h 39 0) q) (h 39 4) i) (10 + i) x) := hO.upd hnp.2 (Or.inr (by omega))
      have e : ∀ c, 0 ≤ c → c < 52 → upI (feI (nm h) (fun q => col (pm h) (nm h) (h 39 0) q) (h 39 4) i) (10 + i) x c = feJ (upI (feI (nm h) (fun q => col (pm h) (nm h) (h 39 0) q) (h 39 4) i) (10 + i) x) (nm h) (fun q => col (pm h) (nm h) (h 39 0) q) (h 39 4) i 0 c := fun c c0 c1 => by unfold feJ; rw [if_neg (by omega)]
      refine l_m_feasts1 (g := upI (feI (nm h) (fun q => col (pm h) (nm h) (h 39 0) q) (h 39 4) i) (10 + i) x) hm ⟨h0, hi⟩ (hcE.upd (by omega)) (fun c c0 c1 ce => by rw [upI_ne (by omega)]; exact hgp c c0 c1 ce) (fun h5 y5 v5 hR5 hO5 => ?_) (7 : Nat) 0 _ y3 (by omega) (by omega) (by omega) hy3 (hR2.to e) (hO2.to hnp.2 (fun c c0 c1 => (e c c0 c1).symm))
      have e5 : ∀ c, 0 ≤ c → c < 52 → feJ (upI (feI (nm h) (fun q => col (pm h) (nm h) (h 39 0) q) (h 39 4) i) (10 + i) x) (nm h) (fun q => col (pm h) (nm h) (h 39 0) q) (h 39 4) i (h 39 4) c = feI (nm h) (fun q => col (pm h) (nm h) (h 39 0) q) (h 39 4) (i + 1) c := by
        have hg : ∀ c, 0 ≤ c → c < 52 → feJ (feI (nm h) (fun q => col (pm h) (nm h) (h 39 0) q) (h 39 4) i) (nm h) (fun q => col (pm h) (nm h) (h 39 0) q) (h 39 4) i (h 39 4) c = if 16 ≤ c ∧ (c - 16) / 6 = i then dbt (nm h) (fun q => col (pm h) (nm h) (h 39 0) q) (h 39 4) c else feI (nm h) (fun q => col (pm h) (nm h) (h 39 0) q) (h 39 4) i c := by
          intro c c0 c1
          unfold feJ
          by_cases hq : 16 ≤ c ∧ (c - 16) / 6 = i
          · rw [if_pos hq]
            by_cases hz : (c - 16) % 6 < h 39 4
            · rw [if_pos ⟨hq.1, hq.2, hz⟩]
            · rw [if_neg (fun z => hz z.2.2), hgp c hq.1 c1 hq.2, dbt_f (fun z => hz z.2)]
          · rw [if_neg hq, if_neg (fun z => hq ⟨z.1, z.2.1⟩)]
        intro c c0 c1
        rw [← feI_1 h0 hnp.2 hi hg c c0 c1, hx9]
        unfold feJ upI
        by_cases hc9 : c = 10 + i
        · rw [if_neg (by omega), if_pos hc9, if_pos hc9]
        · rw [if_neg hc9, if_neg hc9]
      refine z_iinc_1 D_m_feasts_141 (Nat.le_of_ble_eq_true rfl) rfl ?_
      refine z_goto (tgt := 12) D_m_feasts_144 (by decide) ?_
      exact ih (i + 1) _ _ _ (by omega) (by omega) (by omega) (hR5.to e5) (hO5.to hnp.2 (fun c c0 c1 => (e5 c c0 c1).symm)) rfl v5
    refine z_iload_n D_m_feasts_12 rfl ?_
    refine z_aload_n D_m_feasts_13 rfl ?_
    refine z_getI fl_m_66 (rfl) rfl D_m_feasts_14 ?_
    refine z_icmp_ge (tgt := 147) D_m_feasts_17 (by decide) (by omega) (by rw [ew]; omega) (fun q17 => ?_) (fun q17 => ?_)
    · exact z_return rfl D_m_feasts_147 (⟨rfl, by rw [← hxt (by rw [ew] at q17; omega)]; exact hR, by rw [← hxt (by rw [ew] at q17; omega)]; exact hO⟩)
    · rw [ew] at q17
      have q17 : i < h 39 4 := by omega
      have hpb := hpb (by omega)
      refine z_aload_n D_m_feasts_20 rfl ?_
      refine z_getR (q := 42) fl_m_23 (rfl) rfl (rfl) D_m_feasts_21 ?_
      refine z_bipush (by decide) D_m_feasts_24 ?_
      refine z_iload_n D_m_feasts_26 rfl ?_
      refine z_iadd D_m_feasts_27 ?_
      refine z_aload_n D_m_feasts_28 rfl ?_
      refine z_iload_n D_m_feasts_29 rfl ?_
      refine z_V1 (c0 := 12) (c_m_standsInR hm hR hO hcE (by omega)) G_m_standsIn I_m_standsIn lk_m_155 (rfl) ⟨by decide, rfl⟩ ⟨Nat.le_of_ble_eq_true rfl, Nat.le_of_ble_eq_true rfl⟩ (Nat.le_of_ble_eq_true rfl) D_m_feasts_30 ?_
      refine z_iconst D_m_feasts_33 ?_
      refine z_icmp_eq (tgt := 41) D_m_feasts_34 (by decide) (by have := hcol q17; omega) (by omega) (fun q34 => ?_) (fun q34 => ?_)
      · refine z_aload_n D_m_feasts_41 rfl ?_
        refine z_getR (q := 42) fl_m_23 (rfl) rfl (rfl) D_m_feasts_42 ?_
        refine z_bipush (by decide) D_m_feasts_45 ?_
        refine z_iload_n D_m_feasts_47 rfl ?_
        refine z_iadd D_m_feasts_48 ?_
        refine z_iald (n := 573) (rfl) (by omega) D_m_feasts_49 ?_
        rw [hpt q17]
        refine z_bipush (by decide) D_m_feasts_50 ?_
        refine z_icmp_ge (tgt := 69) D_m_feasts_52 (by decide) (by omega) (by omega) (fun q52 => ?_) (fun q52 => ?_)
        · refine z_bipush (by decide) D_m_feasts_69 ?_
          refine z_iast (n := 573) (rfl) (by omega) D_m_feasts_71 ?_
          refine z_iconst D_m_feasts_72 ?_
          refine z_istore_2 D_m_feasts_73 (Nat.le_of_ble_eq_true rfl) rfl ?_
          exact hgo _ q17 (by rw [hptc, if_pos q34, Int.min_def]; split <;> omega) (by omega)
        · refine z_aload_n D_m_feasts_55 rfl ?_
          refine z_getR (q := 42) fl_m_23 (rfl) rfl (rfl) D_m_feasts_56 ?_
          refine z_bipush (by decide) D_m_feasts_59 ?_
          refine z_iload_n D_m_feasts_61 rfl ?_
          refine z_iadd D_m_feasts_62 ?_
          refine z_iald (n := 573) (rfl) (by omega) D_m_feasts_63 ?_
          rw [hpt q17]
          refine z_iconst D_m_feasts_64 ?_
          refine z_iadd D_m_feasts_65 ?_
          refine z_goto (tgt := 71) D_m_feasts_66 (by decide) ?_
          refine z_iast (n := 573) (rfl) (by omega) D_m_feasts_71 ?_
          refine z_iconst D_m_feasts_72 ?_
          refine z_istore_2 D_m_feasts_73 (Nat.le_of_ble_eq_true rfl) rfl ?_
          exact hgo _ q17 (by rw [hptc, if_pos q34, Int.min_def]; split <;> omega) (by omega)
      · refine z_iconst D_m_feasts_37 ?_
        refine z_goto (tgt := 71) D_m_feasts_38 (by decide) ?_
        refine z_iast (n := 573) (rfl) (by omega) D_m_feasts_71 ?_
        refine z_iconst D_m_feasts_72 ?_
        refine z_istore_2 D_m_feasts_73 (Nat.le_of_ble_eq_true rfl) rfl ?_
        exact hgo _ q17 (by rw [hptc, if_neg q34]) (by omega)
theorem c_m_feasts {h : zH} (hm : MI h) (h9 : nm h 3 < 999) : zC M_m_feasts [vR 39] h (fun v h9 => v = none ∧ MRow h h9 (feI (nm h) (fun q => col (pm h) (nm h) (h 39 0) q) (h 39 4) (h 39 4)) ∧ RowOK (h 39 0) (h 39 4) (feI (nm h) (fun q => col (pm h) (nm h) (h 39 0) q) (h 39 4) (h 39 4))) := by
  refine zC.ofN 3 (by decide) (Nat.le_of_ble_eq_true rfl) ?_
  show Z M_m_feasts _ 0 [vR 39, vU, vU, vU] [] h
  have hnp := hm.hnp
  have hf := hm.row.hf
  have e : ∀ c, 0 ≤ c → c < 52 → upI (nm h) 3 (nm h 3 + 1) c = feI (nm h) (fun q => col (pm h) (nm h) (h 39 0) q) (h 39 4) 0 c := fun c c0 c1 => by
    unfold upI feI
    by_cases h3 : c = 3
    · rw [if_pos h3, if_pos h3]
    · rw [if_neg h3, if_neg h3]
      by_cases hA : 10 ≤ c ∧ c < 16
      · rw [if_pos hA, if_neg (by omega)]
      · rw [if_neg hA]
        by_cases hD : 16 ≤ c
        · rw [if_pos hD, if_neg (by omega)]
        · rw [if_neg hD]
  refine z_aload_n D_m_feasts_0 rfl ?_
  refine z_getR (q := 42) fl_m_23 (rfl) rfl (rfl) D_m_feasts_1 ?_
  refine z_iconst D_m_feasts_4 ?_
  refine z_dup2 rfl rfl D_m_feasts_5 ?_
  refine z_iald (n := 573) (rfl) (by omega) D_m_feasts_6 ?_
  refine z_iconst D_m_feasts_7 ?_
  refine z_iadd D_m_feasts_8 ?_
  refine z_iast (n := 573) (rfl) (by omega) D_m_feasts_9 ?_
  refine z_iconst D_m_feasts_10 ?_
  refine z_istore_1 D_m_feasts_11 (Nat.le_of_ble_eq_true rfl) rfl ?_
  exact l_m_feasts hm h9 (7 : Nat) 0 _ vU vU (by omega) (by omega) (by omega) ((MRow.rfl'.put (c0 := 3) (by omega)).to e) ((hm.row.upd hnp.2 (Or.inl ⟨rfl, by omega, by omega⟩)).to hnp.2 (fun c c0 c1 => (e c c0 c1).symm)) rfl rfl
