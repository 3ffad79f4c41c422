/-! the other side reads items (3) -/
theorem mb_eq {l a b c d : Int} : (if l = 99 then zb (a < 12) else if l = 107 then zb (b < 0) else if l = 100 then zb (c < 0) else if l = 112 then zb (d < 6) else 0) = zb ((l = 99 ∧ a < 12) ∨ (l = 107 ∧ b < 0) ∨ (l = 100 ∧ c < 0) ∨ (l = 112 ∧ d < 6)) := by
  unfold zb
  (repeat' split) <;> omega
theorem item_no {T : Int → Int} {L s t v c : Int} {z : Pst} (h : ¬ (t = 1 ∧ ((v = 99 ∧ z.1 < 12) ∨ (v = 107 ∧ z.2.2.1 < 0) ∨ (v = 100 ∧ z.2.2.2.1 < 0) ∨ (v = 112 ∧ z.2.2.2.2.1 < 6)))) : item T L s t v c z = (s, c, z) := by
  unfold item
  by_cases ht : t = 1
  · rw [if_pos ht]
    by_cases v1 : v = 99
    · rw [if_pos v1]; unfold itC; rw [if_pos (by omega)]
    · rw [if_neg v1]
      by_cases v2 : v = 107
      · rw [if_pos v2]; unfold itK; rw [if_pos (by omega)]
      · rw [if_neg v2]
        by_cases v3 : v = 100
        · rw [if_pos v3]; unfold itD; rw [if_pos (by omega)]
        · rw [if_neg v3]
          by_cases v4 : v = 112
          · rw [if_pos v4]; unfold itP; rw [if_pos (by omega)]
          · rw [if_neg v4]
  · rw [if_neg ht]
theorem tk_b {T : Int → Int} {L c : Int} (h : c ≤ L) : c ≤ tkS T L c ∧ tkS T L c ≤ L ∧ tkS T L c ≤ tkN T L c ∧ tkN T L c ≤ L ∧ 0 ≤ tkT T L c ∧ tkT T L c ≤ 4 := by
  have := tk_in (T := T) h
  omega
theorem item_C {T : Int → Int} {L s t v c : Int} {z : Pst} (ht : t = 1) (hv : v = 99) (hn : z.1 < 12) : item T L s t v c z = if numOk T L c 0 5 then semi T L (tkN T L c) (z.1 + 1, upI z.2.1 z.1 (tkV T L c), z.2.2) else (tkS T L c, c, z) := by
  unfold item; rw [if_pos ht, if_pos hv]; unfold itC; rw [if_neg (by omega)]
theorem item_K {T : Int → Int} {L s t v c : Int} {z : Pst} (ht : t = 1) (hv : v = 107) (hn : z.2.2.1 < 0) : item T L s t v c z = if numOk T L c 0 9 then semi T L (tkN T L c) (z.1, z.2.1, tkV T L c, z.2.2.2) else (tkS T L c, c, z) := by
  unfold item; rw [if_pos ht, if_neg (by omega), if_pos hv]; unfold itK; rw [if_neg (by omega)]
theorem item_D {T : Int → Int} {L s t v c : Int} {z : Pst} (ht : t = 1) (hv : v = 100) (hn : z.2.2.2.1 < 0) : item T L s t v c z = if numOk T L c 1 9 then semi T L (tkN T L c) (z.1, z.2.1, z.2.2.1, tkV T L c, z.2.2.2.2) else (tkS T L c, c, z) := by
  unfold item; rw [if_pos ht, if_neg (by omega), if_neg (by omega), if_pos hv]; unfold itD; rw [if_neg (by omega)]
theorem item_P {T : Int → Int} {L s t v c : Int} {z : Pst} (ht : t = 1) (hv : v = 112) (hn : z.2.2.2.2.1 < 6) : item T L s t v c z = if numOk T L c 0 (z.1 - 1) ∧ ¬ told z.2.2.2.2.2.1 (tkV T L c) z.2.2.2.2.1.toNat = true then (if numOk T L (tkN T L c) 1 5 then semi T L (tkN T L (tkN T L c)) (z.1, z.2.1, z.2.2.1, z.2.2.2.1, z.2.2.2.2.1 + 1, upI z.2.2.2.2.2.1 z.2.2.2.2.1 (tkV T L c), upI z.2.2.2.2.2.2 z.2.2.2.2.1 (tkV T L (tkN T L c))) else (tkS T L (tkN T L c), c, z)) else (tkS T L c, c, z) := by
  unfold item; rw [if_pos ht, if_neg (by omega), if_neg (by omega), if_neg (by omega), if_pos hv]; unfold itP; rw [if_neg (by omega)]
def QM (h : zH) (r : Int × Int × Pst) : Option zV → zH → Prop := fun v h2 => v = none ∧ FM h h2 ∧ (0 ≤ r.1 → h2 39 20 = 1 ∧ h2 39 17 = r.1 ∧ 0 ≤ h2 39 18 ∧ h2 39 18 ≤ 4) ∧ (r.1 < 0 → h2 39 20 = 0 ∧ SM h2 r.2.2 ∧ MTok h2 (tm h) (h 39 15) r.2.1)
theorem l_ri_ok {h g : zH} {c y : Int} {z : Pst} (hT : TM h) (hF : FM h g) (hc : 0 ≤ c ∧ c ≤ h 39 15) (hW : g 39 20 = 0) (hM : MTok g (tm h) (h 39 15) c) (hS : SM g z) : Z M_m_readItem (QM h (semi (tm h) (h 39 15) c z)) 109 [vR 39, vI y] [] g := by
  have ht := tk_b (T := tm h) hc.2
  obtain ⟨t1, t2, t3, t4, t5⟩ := hM
  unfold semi
  refine z_aload_n D_m_readItem_109 rfl ?_
  refine z_aload_n D_m_readItem_110 rfl ?_
  refine z_getI fl_m_102 (rfl) rfl D_m_readItem_111 ?_
  refine z_if_ne (tgt := 125) D_m_readItem_114 (by decide) (by omega) (fun q114 => ?_) (fun q114 => ?_)
  · exact absurd hW q114
  · refine z_aload_n D_m_readItem_117 rfl ?_
    refine z_getI fl_m_92 (rfl) rfl D_m_readItem_118 ?_
    refine z_iconst D_m_readItem_121 ?_
    refine z_icmp_eq (tgt := 129) D_m_readItem_122 (by decide) (by omega) (by omega) (fun q122 => ?_) (fun q122 => ?_)
    · refine z_iconst D_m_readItem_129 ?_
      refine z_putB fl_m_102 (rfl) rfl rfl (by first | exact Or.inl rfl | exact Or.inr rfl | exact zb_01 _) D_m_readItem_130 ?_
      refine z_aload_n D_m_readItem_133 rfl ?_
      refine z_getI fl_m_102 (rfl) rfl D_m_readItem_134 ?_
      rw [zup_same]
      refine z_if_ne (tgt := 144) D_m_readItem_137 (by decide) (by omega) (fun q137 => ?_) (fun q137 => ?_)
      · exact absurd rfl q137
      · have hF0 : FM h (zup g 39 20 0) := hF.put (by omega)
        refine z_aload_n D_m_readItem_140 rfl ?_
        refine z_V0q (c0 := 12) (c_m_next (hF0.ok hT) (by rw [zup_nk (by decide), zup_nk (by decide), hF.len]; omega)) G_m_next I_m_next lk_m_106 (rfl) ⟨by decide, rfl⟩ ⟨Nat.le_of_ble_eq_true rfl, Nat.le_of_ble_eq_true rfl⟩ (Nat.le_of_ble_eq_true rfl) D_m_readItem_141 (fun v9 h9 hp9 => ?_)
        obtain ⟨rfl, hR⟩ := hp9
        show Z _ _ _ _ [] _
        rw [hF0.eT, hF0.len, zup_nk (by decide), t1] at hR
        refine z_return rfl D_m_readItem_144 ?_
        rw [if_pos (by omega)]
        obtain ⟨k1, k2⟩ := hR
        refine ⟨rfl, hF0.trans k1.w.fm, fun q => absurd (show (0 : Int) ≤ -1 from q) (by decide), fun _ => ⟨by rw [k1.2 20 (by omega), zup_same], (hS.tk (TKW.rfl'.put (by omega))).tk k1.w, k2⟩⟩
    · refine z_iconst D_m_readItem_125 ?_
      refine z_goto (tgt := 130) D_m_readItem_126 (by decide) ?_
      refine z_putB fl_m_102 (rfl) rfl rfl (by first | exact Or.inl rfl | exact Or.inr rfl | exact zb_01 _) D_m_readItem_130 ?_
      refine z_aload_n D_m_readItem_133 rfl ?_
      refine z_getI fl_m_102 (rfl) rfl D_m_readItem_134 ?_
      rw [zup_same]
      refine z_if_ne (tgt := 144) D_m_readItem_137 (by decide) (by omega) (fun q137 => ?_) (fun q137 => ?_)
      · refine z_return rfl D_m_readItem_144 ?_
        rw [if_neg (by omega)]
        exact ⟨rfl, hF.put (by omega), fun _ => ⟨zup_same, by rw [zup_nk (by decide)]; exact t2, by rw [zup_nk (by decide)]; omega, by rw [zup_nk (by decide)]; omega⟩, fun q => absurd (show tkS (tm h) (h 39 15) c < 0 from q) (by omega)⟩
      · exact absurd (show (1 : Int) = 0 from q137) (by decide)
theorem l_ri_bad {h g : zH} {y : Int} {r : Int × Int × Pst} (hF : FM h g) (hW : g 39 20 = 1) (h0 : 0 ≤ r.1) (h7 : g 39 17 = r.1) (h8 : 0 ≤ g 39 18 ∧ g 39 18 ≤ 4) : Z M_m_readItem (QM h r) 109 [vR 39, vI y] [] g := by
  refine z_aload_n D_m_readItem_109 rfl ?_
  refine z_aload_n D_m_readItem_110 rfl ?_
  refine z_getI fl_m_102 (rfl) rfl D_m_readItem_111 ?_
  refine z_if_ne (tgt := 125) D_m_readItem_114 (by decide) (by omega) (fun q114 => ?_) (fun q114 => ?_)
  · refine z_iconst D_m_readItem_125 ?_
    refine z_goto (tgt := 130) D_m_readItem_126 (by decide) ?_
    refine z_putB fl_m_102 (rfl) rfl rfl (by first | exact Or.inl rfl | exact Or.inr rfl | exact zb_01 _) D_m_readItem_130 ?_
    refine z_aload_n D_m_readItem_133 rfl ?_
    refine z_getI fl_m_102 (rfl) rfl D_m_readItem_134 ?_
    rw [zup_same]
    refine z_if_ne (tgt := 144) D_m_readItem_137 (by decide) (by omega) (fun q137 => ?_) (fun q137 => ?_)
    · refine z_return rfl D_m_readItem_144 ?_
      exact ⟨rfl, hF.put (by omega), fun _ => ⟨zup_same, by rw [zup_nk (by decide)]; exact h7, by rw [zup_nk (by decide)]; omega, by rw [zup_nk (by decide)]; omega⟩, fun q => absurd q (by omega)⟩
    · exact absurd (show (1 : Int) = 0 from q137) (by decide)
  · exact absurd q114 (by omega)
theorem c_m_readItem {h : zH} {c : Int} {z : Pst} (hT : TM h) (hc : 0 ≤ c ∧ c ≤ h 39 15) (hW : h 39 20 = 0) (hM : MTok h (tm h) (h 39 15) c) (hS : SM h z) (hz : OKs z) : zC M_m_readItem [vR 39] h (QM h (itm (tm h) (h 39 15) c z)) := by
  refine zC.ofN 1 (by decide) (by first | decide | exact Nat.le_of_ble_eq_true rfl) ?_
  show Z M_m_readItem _ 0 [vR 39, vU] [] h
  have ht := tk_b (T := tm h) hc.2
  have ht1 := tk_b (T := tm h) (L := h 39 15) (c := tkN (tm h) (h 39 15) c) (by omega)
  have ht2 := tk_b (T := tm h) (L := h 39 15) (c := tkN (tm h) (h 39 15) (tkN (tm h) (h 39 15) c)) (by omega)
  have b1 := hz.1
  have b2 := hz.2.1
  have s1 := hS.1
  have s2 := hS.2.1
  have s3 := hS.2.2.1
  have s4 := hS.2.2.2.1
  obtain ⟨t1, t2, t3, t4, t5⟩ := hM
  refine z_aload_n D_m_readItem_0 rfl ?_
  refine z_getI fl_m_89 (rfl) rfl D_m_readItem_1 ?_
  refine z_istore_1 D_m_readItem_4 (Nat.le_of_ble_eq_true rfl) rfl ?_
  refine z_aload_n D_m_readItem_5 rfl ?_
  refine z_getI fl_m_92 (rfl) rfl D_m_readItem_6 ?_
  refine z_iconst D_m_readItem_9 ?_
  refine z_icmp_ne (tgt := 21) D_m_readItem_10 (by decide) (by omega) (by omega) (fun q10 => ?_) (fun q10 => ?_)
  · refine z_aload_n D_m_readItem_21 rfl ?_
    refine z_iconst D_m_readItem_22 ?_
    refine z_putB fl_m_102 (rfl) rfl rfl (by first | exact Or.inl rfl | exact Or.inr rfl | exact zb_01 _) D_m_readItem_23 ?_
    refine z_return rfl D_m_readItem_26 ?_
    rw [show itm (tm h) (h 39 15) c z = (tkS (tm h) (h 39 15) c, tkN (tm h) (h 39 15) c, z) from item_no (fun q => q10 (t3.trans q.1))]
    exact ⟨rfl, FM.rfl'.put (by omega), fun _ => ⟨zup_same, by rw [zup_nk (by decide)]; exact t2, by rw [zup_nk (by decide)]; omega, by rw [zup_nk (by decide)]; omega⟩, fun q => absurd (show tkS (tm h) (h 39 15) c < 0 from q) (by omega)⟩
  · refine z_aload_n D_m_readItem_13 rfl ?_
    refine z_iload_n D_m_readItem_14 rfl ?_
    refine z_V1 (c0 := 12) (c_m_mayBegin hS hz (by omega)) G_m_mayBegin I_m_mayBegin lk_m_125 (rfl) ⟨by decide, rfl⟩ ⟨Nat.le_of_ble_eq_true rfl, Nat.le_of_ble_eq_true rfl⟩ (Nat.le_of_ble_eq_true rfl) D_m_readItem_15 ?_
    rw [mb_eq]
    refine z_ifneB (tgt := 27) D_m_readItem_18 (by decide) (fun q18 => ?_) (fun q18 => ?_)
    · refine z_aload_n D_m_readItem_27 rfl ?_
      refine z_V0q (c0 := 12) (c_m_next hT (by omega)) G_m_next I_m_next lk_m_106 (rfl) ⟨by decide, rfl⟩ ⟨Nat.le_of_ble_eq_true rfl, Nat.le_of_ble_eq_true rfl⟩ (Nat.le_of_ble_eq_true rfl) D_m_readItem_28 (fun v9 h9 hp9 => ?_)
      obtain ⟨rfl, hR⟩ := hp9
      show Z _ _ _ _ [] _
      rw [t1] at hR
      obtain ⟨k9, m9⟩ := hR
      have hF9 := k9.w.fm
      have eT9 := hF9.eT
      have eL9 := hF9.len
      have hS9 := hS.tk k9.w
      have w9 : h9 39 20 = 0 := by rw [k9.2 20 (by omega)]; exact hW
      have q10 : tkT (tm h) (h 39 15) c = 1 := by omega
      have ht4 := t4 (Or.inl q10)
      rw [s1, s2, s3, s4] at q18
      have hmb := fun (_ : Unit) => q18
      clear q18
      refine z_iload_n D_m_readItem_31 rfl ?_
      refine z_bipush (by decide) D_m_readItem_32 ?_
      refine z_icmp_ne (tgt := 65) D_m_readItem_34 (by decide) (by omega) (by omega) (fun q34 => ?_) (fun q34 => ?_)
      · refine z_iload_n D_m_readItem_65 rfl ?_
        refine z_bipush (by decide) D_m_readItem_66 ?_
        refine z_icmp_ne (tgt := 85) D_m_readItem_68 (by decide) (by omega) (by omega) (fun q68 => ?_) (fun q68 => ?_)
        · refine z_iload_n D_m_readItem_85 rfl ?_
          refine z_bipush (by decide) D_m_readItem_86 ?_
          refine z_icmp_ne (tgt := 105) D_m_readItem_88 (by decide) (by omega) (by omega) (fun q88 => ?_) (fun q88 => ?_)
          · have hv9 : tkV (tm h) (h 39 15) c = 112 := by have := hmb (); omega
            have hn9 : z.2.2.2.2.1 < 6 := by have := hmb (); omega
            refine z_aload_n D_m_readItem_105 rfl ?_
            refine z_V0q (c0 := 12) (c_m_readOne (c := (tkN (tm h) (h 39 15) c)) (z := z) (hF9.ok hT) (by rw [eL9]; omega) w9 (by rw [eT9, eL9]; exact m9) hS9 hz (by omega)) G_m_readOne I_m_readOne lk_m_128 (rfl) ⟨by decide, rfl⟩ ⟨Nat.le_of_ble_eq_true rfl, Nat.le_of_ble_eq_true rfl⟩ (Nat.le_of_ble_eq_true rfl) D_m_readItem_106 (fun v8 h8 hp8 => ?_)
            obtain ⟨rfl, f8, y8, n8⟩ := hp8
            show Z _ _ _ _ [] _
            rw [eT9, eL9] at y8 n8
            have hF8 := hF9.trans f8
            by_cases hA : (numOk (tm h) (h 39 15) (tkN (tm h) (h 39 15) c) 0 (z.1 - 1) ∧ ¬ told z.2.2.2.2.2.1 (tkV (tm h) (h 39 15) (tkN (tm h) (h 39 15) c)) z.2.2.2.2.1.toNat = true)
            · by_cases hB : numOk (tm h) (h 39 15) (tkN (tm h) (h 39 15) (tkN (tm h) (h 39 15) c)) 1 5
              · obtain ⟨w8, m8, s8⟩ := y8 ⟨hA, hB⟩
                have hq : itm (tm h) (h 39 15) c z = semi (tm h) (h 39 15) (tkN (tm h) (h 39 15) (tkN (tm h) (h 39 15) (tkN (tm h) (h 39 15) c))) (z.1, z.2.1, z.2.2.1, z.2.2.2.1, z.2.2.2.2.1 + 1, upI z.2.2.2.2.2.1 z.2.2.2.2.1 (tkV (tm h) (h 39 15) (tkN (tm h) (h 39 15) c)), upI z.2.2.2.2.2.2 z.2.2.2.2.1 (tkV (tm h) (h 39 15) (tkN (tm h) (h 39 15) (tkN (tm h) (h 39 15) c)))) := (item_P q10 hv9 hn9).trans ((if_pos hA).trans (if_pos hB))
                rw [hq]
                exact l_ri_ok hT hF8 ⟨by omega, by omega⟩ w8 m8 s8
              · obtain ⟨w8, a7, a8⟩ := n8 (fun q => hB q.2)
                rw [if_pos hA] at a7
                have hq : itm (tm h) (h 39 15) c z = (tkS (tm h) (h 39 15) (tkN (tm h) (h 39 15) (tkN (tm h) (h 39 15) c)), tkN (tm h) (h 39 15) c, z) := (item_P q10 hv9 hn9).trans ((if_pos hA).trans (if_neg hB))
                rw [hq]
                exact l_ri_bad hF8 w8 (by show 0 ≤ tkS _ _ _; omega) a7 a8
            · obtain ⟨w8, a7, a8⟩ := n8 (fun q => hA q.1)
              rw [if_neg hA] at a7
              have hq : itm (tm h) (h 39 15) c z = (tkS (tm h) (h 39 15) (tkN (tm h) (h 39 15) c), tkN (tm h) (h 39 15) c, z) := (item_P q10 hv9 hn9).trans (if_neg hA)
              rw [hq]
              exact l_ri_bad hF8 w8 (by show 0 ≤ tkS _ _ _; omega) a7 a8
          · have hv9 : tkV (tm h) (h 39 15) c = 100 := by omega
            have hn9 : z.2.2.2.1 < 0 := by have := hmb (); omega
            refine z_aload_n D_m_readItem_91 rfl ?_
            refine z_aload_n D_m_readItem_92 rfl ?_
            refine z_iconst D_m_readItem_93 ?_
            refine z_bipush (by decide) D_m_readItem_94 ?_
            refine z_V2q (c0 := 12) (c_m_takesNumber (c := (tkN (tm h) (h 39 15) c)) (hF9.ok hT) (by rw [eL9]; omega) (Or.inl w9) (by rw [eT9, eL9]; exact m9) (by omega) (by omega)) G_m_takesNumber I_m_takesNumber lk_m_115 (rfl) ⟨by decide, rfl⟩ ⟨Nat.le_of_ble_eq_true rfl, Nat.le_of_ble_eq_true rfl⟩ (Nat.le_of_ble_eq_true rfl) D_m_readItem_96 (fun v8 h8 hp8 => ?_)
            rw [eT9, eL9] at hp8
            by_cases hok : h9 39 20 = 0 ∧ numOk (tm h) (h 39 15) (tkN (tm h) (h 39 15) c) 1 9
            · obtain ⟨rfl, k8, w8, m8⟩ := hp8.1 hok
              show Z _ _ _ _ [vI _, vR 39] _
              have hF8 := hF9.trans k8.fm
              have hS8 := hS9.tk k8
              refine z_putI fl_m_122 (rfl) rfl rfl D_m_readItem_99 ?_
              refine z_goto (tgt := 109) D_m_readItem_102 (by decide) ?_
              have hq : itm (tm h) (h 39 15) c z = semi (tm h) (h 39 15) (tkN (tm h) (h 39 15) (tkN (tm h) (h 39 15) c)) (z.1, z.2.1, z.2.2.1, (tkV (tm h) (h 39 15) (tkN (tm h) (h 39 15) c)), z.2.2.2.2) := (item_D q10 hv9 hn9).trans (if_pos hok.2)
              rw [hq]
              refine l_ri_ok hT (hF8.put (by omega)) ⟨by omega, by omega⟩ (by rw [zup_nk (by decide), w8]) (m8.put (by omega)) ?_
              obtain ⟨x1, x2, x3, x4, x5, x6, x7⟩ := hS8
              refine ⟨?_, ?_, ?_, ?_, fun j j0 j1 => ?_, fun j j0 j1 => ?_, fun j j0 j1 => ?_⟩
              · rw [zup_nk (by decide)]; exact x1
              · rw [zup_nk (by decide)]; exact x2
              · rw [zup_same]
              · rw [zup_nk (by decide)]; exact x4
              · rw [zup_ne (by decide)]; exact x5 j j0 j1
              · rw [zup_ne (by decide)]; exact x6 j j0 j1
              · rw [zup_ne (by decide)]; exact x7 j j0 j1
            · obtain ⟨rfl, h8e⟩ := hp8.2 hok
              show Z _ _ _ _ [vI _, vR 39] _
              have hno : ¬ numOk (tm h) (h 39 15) (tkN (tm h) (h 39 15) c) 1 9 := fun q => hok ⟨w9, q⟩
              have k8 : TKW h9 h8 := by rw [h8e]; exact TKW.rfl'.put (by omega)
              have hF8 := hF9.trans k8.fm
              have a0 : h8 39 20 = 1 := by rw [h8e, zup_same]
              have a7 : h8 39 17 = tkS (tm h) (h 39 15) (tkN (tm h) (h 39 15) c) := by rw [h8e, zup_nk (by decide)]; exact m9.2.1
              have a8 : h8 39 18 = tkT (tm h) (h 39 15) (tkN (tm h) (h 39 15) c) := by rw [h8e, zup_nk (by decide)]; exact m9.2.2.1
              refine z_putI fl_m_122 (rfl) rfl rfl D_m_readItem_99 ?_
              refine z_goto (tgt := 109) D_m_readItem_102 (by decide) ?_
              have hq : itm (tm h) (h 39 15) c z = (tkS (tm h) (h 39 15) (tkN (tm h) (h 39 15) c), tkN (tm h) (h 39 15) c, z) := (item_D q10 hv9 hn9).trans (if_neg hno)
              rw [hq]
              exact l_ri_bad (hF8.put (by omega)) (by rw [zup_nk (by decide), a0]) (by show 0 ≤ tkS _ _ _; omega) (by rw [zup_nk (by decide), a7]) (by rw [zup_nk (by decide), a8]; omega)
        · have hv9 : tkV (tm h) (h 39 15) c = 107 := by omega
          have hn9 : z.2.2.1 < 0 := by have := hmb (); omega
          refine z_aload_n D_m_readItem_71 rfl ?_
          refine z_aload_n D_m_readItem_72 rfl ?_
          refine z_iconst D_m_readItem_73 ?_
          refine z_bipush (by decide) D_m_readItem_74 ?_
          refine z_V2q (c0 := 12) (c_m_takesNumber (c := (tkN (tm h) (h 39 15) c)) (hF9.ok hT) (by rw [eL9]; omega) (Or.inl w9) (by rw [eT9, eL9]; exact m9) (by omega) (by omega)) G_m_takesNumber I_m_takesNumber lk_m_115 (rfl) ⟨by decide, rfl⟩ ⟨Nat.le_of_ble_eq_true rfl, Nat.le_of_ble_eq_true rfl⟩ (Nat.le_of_ble_eq_true rfl) D_m_readItem_76 (fun v8 h8 hp8 => ?_)
          rw [eT9, eL9] at hp8
          by_cases hok : h9 39 20 = 0 ∧ numOk (tm h) (h 39 15) (tkN (tm h) (h 39 15) c) 0 9
          · obtain ⟨rfl, k8, w8, m8⟩ := hp8.1 hok
            show Z _ _ _ _ [vI _, vR 39] _
            have hF8 := hF9.trans k8.fm
            have hS8 := hS9.tk k8
            refine z_putI fl_m_119 (rfl) rfl rfl D_m_readItem_79 ?_
            refine z_goto (tgt := 109) D_m_readItem_82 (by decide) ?_
            have hq : itm (tm h) (h 39 15) c z = semi (tm h) (h 39 15) (tkN (tm h) (h 39 15) (tkN (tm h) (h 39 15) c)) (z.1, z.2.1, (tkV (tm h) (h 39 15) (tkN (tm h) (h 39 15) c)), z.2.2.2) := (item_K q10 hv9 hn9).trans (if_pos hok.2)
            rw [hq]
            refine l_ri_ok hT (hF8.put (by omega)) ⟨by omega, by omega⟩ (by rw [zup_nk (by decide), w8]) (m8.put (by omega)) ?_
            obtain ⟨x1, x2, x3, x4, x5, x6, x7⟩ := hS8
            refine ⟨?_, ?_, ?_, ?_, fun j j0 j1 => ?_, fun j j0 j1 => ?_, fun j j0 j1 => ?_⟩
            · rw [zup_nk (by decide)]; exact x1
            · rw [zup_same]
            · rw [zup_nk (by decide)]; exact x3
            · rw [zup_nk (by decide)]; exact x4
            · rw [zup_ne (by decide)]; exact x5 j j0 j1
            · rw [zup_ne (by decide)]; exact x6 j j0 j1
            · rw [zup_ne (by decide)]; exact x7 j j0 j1
          · obtain ⟨rfl, h8e⟩ := hp8.2 hok
            show Z _ _ _ _ [vI _, vR 39] _
            have hno : ¬ numOk (tm h) (h 39 15) (tkN (tm h) (h 39 15) c) 0 9 := fun q => hok ⟨w9, q⟩
            have k8 : TKW h9 h8 := by rw [h8e]; exact TKW.rfl'.put (by omega)
            have hF8 := hF9.trans k8.fm
            have a0 : h8 39 20 = 1 := by rw [h8e, zup_same]
            have a7 : h8 39 17 = tkS (tm h) (h 39 15) (tkN (tm h) (h 39 15) c) := by rw [h8e, zup_nk (by decide)]; exact m9.2.1
            have a8 : h8 39 18 = tkT (tm h) (h 39 15) (tkN (tm h) (h 39 15) c) := by rw [h8e, zup_nk (by decide)]; exact m9.2.2.1
            refine z_putI fl_m_119 (rfl) rfl rfl D_m_readItem_79 ?_
            refine z_goto (tgt := 109) D_m_readItem_82 (by decide) ?_
            have hq : itm (tm h) (h 39 15) c z = (tkS (tm h) (h 39 15) (tkN (tm h) (h 39 15) c), tkN (tm h) (h 39 15) c, z) := (item_K q10 hv9 hn9).trans (if_neg hno)
            rw [hq]
            exact l_ri_bad (hF8.put (by omega)) (by rw [zup_nk (by decide), a0]) (by show 0 ≤ tkS _ _ _; omega) (by rw [zup_nk (by decide), a7]) (by rw [zup_nk (by decide), a8]; omega)
      · have hv9 : tkV (tm h) (h 39 15) c = 99 := by omega
        have hn9 : z.1 < 12 := by have := hmb (); omega
        refine z_aload_n D_m_readItem_37 rfl ?_
        refine z_getR (q := 48) fl_m_42 (rfl) rfl (rfl) D_m_readItem_38 ?_
        refine z_aload_n D_m_readItem_41 rfl ?_
        refine z_getI fl_m_112 (rfl) rfl D_m_readItem_42 ?_
        refine z_aload_n D_m_readItem_45 rfl ?_
        refine z_iconst D_m_readItem_46 ?_
        refine z_iconst D_m_readItem_47 ?_
        refine z_V2q (c0 := 12) (c_m_takesNumber (c := (tkN (tm h) (h 39 15) c)) (hF9.ok hT) (by rw [eL9]; omega) (Or.inl w9) (by rw [eT9, eL9]; exact m9) (by omega) (by omega)) G_m_takesNumber I_m_takesNumber lk_m_115 (rfl) ⟨by decide, rfl⟩ ⟨Nat.le_of_ble_eq_true rfl, Nat.le_of_ble_eq_true rfl⟩ (Nat.le_of_ble_eq_true rfl) D_m_readItem_48 (fun v8 h8 hp8 => ?_)
        rw [eT9, eL9] at hp8
        by_cases hok : h9 39 20 = 0 ∧ numOk (tm h) (h 39 15) (tkN (tm h) (h 39 15) c) 0 5
        · obtain ⟨rfl, k8, w8, m8⟩ := hp8.1 hok
          show Z _ _ _ _ [vI _, vI _, vR 48] _
          have hF8 := hF9.trans k8.fm
          have hS8 := hS9.tk k8
          rw [show h9 39 22 = z.1 from hS9.1]
          refine z_iast (n := 12) (rfl) (by omega) D_m_readItem_51 ?_
          refine z_aload_n D_m_readItem_52 rfl ?_
          refine z_dup rfl D_m_readItem_53 ?_
          refine z_getI fl_m_112 (rfl) rfl D_m_readItem_54 ?_
          rw [show zup h8 48 z.1.toNat (tkV (tm h) (h 39 15) (tkN (tm h) (h 39 15) c)) 39 22 = z.1 by rw [zup_ne (by decide)]; exact hS8.1]
          refine z_iconst D_m_readItem_57 ?_
          refine z_iadd D_m_readItem_58 ?_
          refine z_putI fl_m_112 (rfl) rfl rfl D_m_readItem_59 ?_
          refine z_goto (tgt := 109) D_m_readItem_62 (by decide) ?_
          have hq : itm (tm h) (h 39 15) c z = semi (tm h) (h 39 15) (tkN (tm h) (h 39 15) (tkN (tm h) (h 39 15) c)) (z.1 + 1, upI z.2.1 z.1 (tkV (tm h) (h 39 15) (tkN (tm h) (h 39 15) c)), z.2.2) := (item_C q10 hv9 hn9).trans (if_pos hok.2)
          rw [hq]
          refine l_ri_ok hT ((hF8.put (by omega)).put (by omega)) ⟨by omega, by omega⟩ (by rw [zup_nk (by decide), zup_ne (by decide), w8]) ((m8.put (by omega)).put (by omega)) ?_
          obtain ⟨x1, x2, x3, x4, x5, x6, x7⟩ := hS8
          refine ⟨zup_same, ?_, ?_, ?_, fun j j0 j1 => ?_, fun j j0 j1 => ?_, fun j j0 j1 => ?_⟩
          · rw [zup_nk (by decide), zup_ne (by decide)]; exact x2
          · rw [zup_nk (by decide), zup_ne (by decide)]; exact x3
          · rw [zup_nk (by decide), zup_ne (by decide)]; exact x4
          · dsimp only at j1 ⊢
            rw [zup_ne (by decide)]
            by_cases e : j = z.1
            · rw [e, upI_eq, zup_same]
            · rw [upI_ne e, zup_nk (by omega)]; exact x5 j j0 (by omega)
          · rw [zup_ne (by decide), zup_ne (by decide)]; exact x6 j j0 j1
          · rw [zup_ne (by decide), zup_ne (by decide)]; exact x7 j j0 j1
        · obtain ⟨rfl, h8e⟩ := hp8.2 hok
          show Z _ _ _ _ [vI _, vI _, vR 48] _
          have hno : ¬ numOk (tm h) (h 39 15) (tkN (tm h) (h 39 15) c) 0 5 := fun q => hok ⟨w9, q⟩
          have k8 : TKW h9 h8 := by rw [h8e]; exact TKW.rfl'.put (by omega)
          have hF8 := hF9.trans k8.fm
          have a0 : h8 39 20 = 1 := by rw [h8e, zup_same]
          have a7 : h8 39 17 = tkS (tm h) (h 39 15) (tkN (tm h) (h 39 15) c) := by rw [h8e, zup_nk (by decide)]; exact m9.2.1
          have a8 : h8 39 18 = tkT (tm h) (h 39 15) (tkN (tm h) (h 39 15) c) := by rw [h8e, zup_nk (by decide)]; exact m9.2.2.1
          rw [show h9 39 22 = z.1 from hS9.1]
          refine z_iast (n := 12) (rfl) (by omega) D_m_readItem_51 ?_
          refine z_aload_n D_m_readItem_52 rfl ?_
          refine z_dup rfl D_m_readItem_53 ?_
          refine z_getI fl_m_112 (rfl) rfl D_m_readItem_54 ?_
          refine z_iconst D_m_readItem_57 ?_
          refine z_iadd D_m_readItem_58 ?_
          refine z_putI fl_m_112 (rfl) rfl rfl D_m_readItem_59 ?_
          refine z_goto (tgt := 109) D_m_readItem_62 (by decide) ?_
          have hq : itm (tm h) (h 39 15) c z = (tkS (tm h) (h 39 15) (tkN (tm h) (h 39 15) c), tkN (tm h) (h 39 15) c, z) := (item_C q10 hv9 hn9).trans (if_neg hno)
          rw [hq]
          exact l_ri_bad ((hF8.put (by omega)).put (by omega)) (by rw [zup_nk (by decide), zup_ne (by decide), a0]) (by show 0 ≤ tkS _ _ _; omega) (by rw [zup_nk (by decide), zup_ne (by decide), a7]) (by rw [zup_nk (by decide), zup_ne (by decide), a8]; omega)
    · refine z_aload_n D_m_readItem_21 rfl ?_
      refine z_iconst D_m_readItem_22 ?_
      refine z_putB fl_m_102 (rfl) rfl rfl (by first | exact Or.inl rfl | exact Or.inr rfl | exact zb_01 _) D_m_readItem_23 ?_
      refine z_return rfl D_m_readItem_26 ?_
      rw [show itm (tm h) (h 39 15) c z = (tkS (tm h) (h 39 15) c, tkN (tm h) (h 39 15) c, z) from item_no (fun q => q18 (by rw [t4 (Or.inl q.1), s1, s2, s3, s4]; exact q.2))]
      exact ⟨rfl, FM.rfl'.put (by omega), fun _ => ⟨zup_same, by rw [zup_nk (by decide)]; exact t2, by rw [zup_nk (by decide)]; omega, by rw [zup_nk (by decide)]; omega⟩, fun q => absurd (show tkS (tm h) (h 39 15) c < 0 from q) (by omega)⟩

