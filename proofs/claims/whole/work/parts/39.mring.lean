/-! rings of debts, the other side -/
def by1 (h h1 : zH) (E : Nat → Nat → Bool) (np m : Nat) : Prop := (∀ a, a ≠ 51 → h1 a = h a) ∧ ∀ j, j < m → h1 51 j = ((dbS E np j : Nat) : Int)
theorem l_m_ring1 {h : zH} {p : Int} {post : Option zV → zH → Prop} (hm : MI h) (hp : 0 ≤ p ∧ p < h 39 4) (K : ∀ h2, by1 h h2 (EE (nm h)) (h 39 4).toNat (p.toNat + 1) → Z M_m_ring post 66 [vR 39, vI p, vI (h 39 4)] [] h2) : ∀ (k : Nat) (i : Int) (h1 : zH), 0 ≤ i → i ≤ h 39 4 → h 39 4 - i < k → by1 h h1 (EE (nm h)) (h 39 4).toNat p.toNat → h1 51 p.toNat = ((mkB ((EE (nm h)) p.toNat) i.toNat : Nat) : Int) → Z M_m_ring post 19 [vR 39, vI p, vI i] [] h1 := by
  have hnp := hm.hnp
  intro k
  induction k with
  | zero => intro i h1 h0 h2 h3; omega
  | succ k ih =>
    intro i h1 h0 h2 h3 hB hC
    have ew : h1 39 = h 39 := hB.1 39 (by decide)
    have es : h1 42 = h 42 := hB.1 42 (by decide)
    have eO : h1 42 (16 + 6 * p + i).toNat = nm h (16 + p * 6 + i) := by rw [es]; unfold nm; rw [Int.mul_comm 6 p]
    have hm1 := mkB_1 (b := (EE (nm h)) p.toNat) h0
    have he := EE_i (N := nm h) hp.1 h0
    have hput : ∀ x : Nat, x = mkB ((EE (nm h)) p.toNat) (i + 1).toNat → i < h 39 4 → Z M_m_ring post 19 [vR 39, vI p, vI (i + 1)] [] (zup h1 51 p.toNat (x : Int)) := fun x ex hi => by
      refine ih (i + 1) _ (by omega) (by omega) (by omega) ⟨fun a ha => by funext j; rw [zup_ne ha, hB.1 a ha], fun j hj => by rw [zup_nk (by omega), hB.2 j hj]⟩ (by rw [zup_same, ex])
    refine z_iload_n D_m_ring_19 rfl ?_
    refine z_aload_n D_m_ring_20 rfl ?_
    refine z_getI fl_m_66 (rfl) rfl D_m_ring_21 ?_
    refine z_icmp_ge (tgt := 66) D_m_ring_24 (by decide) (by omega) (by rw [ew]; omega) (fun q24 => ?_) (fun q24 => ?_)
    · rw [ew] at q24
      have e9 : i = h 39 4 := by omega
      rw [e9] at hC ⊢
      refine K h1 ⟨hB.1, fun j hj => ?_⟩
      by_cases hj2 : j = p.toNat
      · rw [hj2, hC]; rfl
      · exact hB.2 j (by omega)
    · rw [ew] at q24
      refine z_aload_n D_m_ring_27 rfl ?_
      refine z_getR (q := 51) fl_m_51 (rfl) rfl (rfl) D_m_ring_28 ?_
      refine z_iload_n D_m_ring_31 rfl ?_
      refine z_dup2 rfl rfl D_m_ring_32 ?_
      refine z_iald (n := 6) (rfl) (by omega) D_m_ring_33 ?_
      rw [hC]
      refine z_aload_n D_m_ring_34 rfl ?_
      refine z_getR (q := 42) fl_m_23 (rfl) rfl (rfl) D_m_ring_35 ?_
      refine z_bipush (by decide) D_m_ring_38 ?_
      refine z_bipush (by decide) D_m_ring_40 ?_
      refine z_iload_n D_m_ring_42 rfl ?_
      refine z_imul D_m_ring_43 ?_
      refine z_iadd D_m_ring_44 ?_
      refine z_iload_n D_m_ring_45 rfl ?_
      refine z_iadd D_m_ring_46 ?_
      refine z_iald (n := 573) (rfl) (by omega) D_m_ring_47 ?_
      rw [eO]
      refine z_if_le (tgt := 57) D_m_ring_48 (by decide) (by have := hm.row.ho (c := 16 + p * 6 + i) (by omega) (by omega); omega) (fun q48 => ?_) (fun q48 => ?_)
      · refine z_iconst D_m_ring_57 ?_
        refine z_ior D_m_ring_58 _ 0 rfl rfl ?_
        refine z_iast (n := 6) (rfl) (by omega) D_m_ring_59 ?_
        refine z_iinc_2 D_m_ring_60 (Nat.le_of_ble_eq_true rfl) rfl ?_
        refine z_goto (tgt := 19) D_m_ring_63 (by decide) ?_
        exact hput _ (by rw [hm1, if_neg (fun z => absurd (he.mp z) (by omega)), Nat.or_zero]) (by omega)
      · refine z_iconst D_m_ring_51 ?_
        refine z_iload_n D_m_ring_52 rfl ?_
        refine z_ishl D_m_ring_53 i.toNat rfl (by omega) (by omega) ?_
        refine z_goto (tgt := 58) D_m_ring_54 (by decide) ?_
        refine z_ior D_m_ring_58 _ _ rfl rfl ?_
        refine z_iast (n := 6) (rfl) (by omega) D_m_ring_59 ?_
        refine z_iinc_2 D_m_ring_60 (Nat.le_of_ble_eq_true rfl) rfl ?_
        refine z_goto (tgt := 19) D_m_ring_63 (by decide) ?_
        exact hput _ (by rw [hm1, if_pos (he.mpr (by omega))]) (by omega)
theorem l_m_ring2 {h : zH} {post : Option zV → zH → Prop} (hm : MI h) (K : ∀ h2 y2, vlong y2 = false → by1 h h2 (EE (nm h)) (h 39 4).toNat (h 39 4).toNat → Z M_m_ring post 72 [vR 39, vI (h 39 4), y2] [] h2) : ∀ (k : Nat) (i : Int) (h1 : zH) (y2 : zV), 0 ≤ i → i ≤ h 39 4 → h 39 4 - i < k → vlong y2 = false → by1 h h1 (EE (nm h)) (h 39 4).toNat i.toNat → Z M_m_ring post 2 [vR 39, vI i, y2] [] h1 := by
  have hnp := hm.hnp
  intro k
  induction k with
  | zero => intro i h1 y2 h0 h2 h3; omega
  | succ k ih =>
    intro i h1 y2 h0 h2 h3 hy hB
    have ew : h1 39 = h 39 := hB.1 39 (by decide)
    refine z_iload_n D_m_ring_2 rfl ?_
    refine z_aload_n D_m_ring_3 rfl ?_
    refine z_getI fl_m_66 (rfl) rfl D_m_ring_4 ?_
    refine z_icmp_ge (tgt := 72) D_m_ring_7 (by decide) (by omega) (by rw [ew]; omega) (fun q7 => ?_) (fun q7 => ?_)
    · rw [ew] at q7
      have e9 : i = h 39 4 := by omega
      rw [e9] at hB ⊢
      exact K h1 y2 hy hB
    · rw [ew] at q7
      refine z_aload_n D_m_ring_10 rfl ?_
      refine z_getR (q := 51) fl_m_51 (rfl) rfl (rfl) D_m_ring_11 ?_
      refine z_iload_n D_m_ring_14 rfl ?_
      refine z_iconst D_m_ring_15 ?_
      refine z_iast (n := 6) (rfl) (by omega) D_m_ring_16 ?_
      refine z_iconst D_m_ring_17 ?_
      refine z_istore_2 D_m_ring_18 (Nat.le_of_ble_eq_true rfl) rfl ?_
      refine l_m_ring1 hm ⟨h0, by omega⟩ (fun h5 hB5 => ?_) (7 : Nat) 0 _ (by omega) (by omega) (by omega) ⟨fun a ha => by funext j; rw [zup_ne ha, hB.1 a ha], fun j hj => by rw [zup_nk (by omega), hB.2 j hj]⟩ (by rw [zup_same]; rfl)
      refine z_iinc_1 D_m_ring_66 (Nat.le_of_ble_eq_true rfl) rfl ?_
      refine z_goto (tgt := 2) D_m_ring_69 (by decide) ?_
      exact ih (i + 1) _ _ (by omega) (by omega) (by omega) rfl (by rw [tn1 h0]; exact hB5)
/-- rows hold chains by way of those below k, and below i by k also -/
def by2 (h h1 : zH) (E : Nat → Nat → Bool) (np k i : Nat) (F : Nat → Nat) : Prop := (∀ a, a ≠ 51 → h1 a = h a) ∧ (∀ j, j < np → h1 51 j = (F j : Int)) ∧ (∀ j, j < np → F j < 2 ^ 6) ∧ ∀ p q, p < np → q < np → ((F p).testBit q = true ↔ PK E (if p < i then k + 1 else k) p q)
theorem by2_row {h h1 : zH} {E : Nat → Nat → Bool} {np k i : Nat} {F : Nat → Nat} (a : by2 h h1 E np k i F) (hk : k < np) : ∀ q, q < np → ((F k).testBit q = true ↔ PK E k k q) := by
  intro q hq
  rw [a.2.2.2 k q hk hq]
  by_cases hi : k < i
  · rw [if_pos hi]; exact PK_k2
  · rw [if_neg hi]
theorem by2_next {h h1 : zH} {E : Nat → Nat → Bool} {np k i x : Nat} {F : Nat → Nat} (a : by2 h h1 E np k i F) (hk : k < np) (hi : i < np) (hx : x = F i ||| (if (F i).testBit k = true then F k else 0)) : by2 h (zup h1 51 i (x : Int)) E np k (i + 1) (fun j => if j = i then x else F j) := by
  obtain ⟨a1, a2, a3, a4⟩ := a
  have hr := by2_row ⟨a1, a2, a3, a4⟩ hk
  refine ⟨fun b hb => by funext j; rw [zup_ne hb, a1 b hb], fun j hj => ?_, fun j hj => ?_, fun p q hp hq => ?_⟩
  · show _ = (((if j = i then x else F j) : Nat) : Int)
    by_cases e : j = i
    · rw [if_pos e, e, zup_same]
    · rw [if_neg e, zup_nk e, a2 j hj]
  · show (if j = i then x else F j) < 2 ^ 6
    by_cases e : j = i
    · rw [if_pos e, hx]
      refine Nat.or_lt_two_pow (a3 i hi) ?_
      split
      · exact a3 k hk
      · decide
    · rw [if_neg e]; exact a3 j hj
  · show (if p = i then x else F p).testBit q = true ↔ _
    by_cases e : p = i
    · subst e
      rw [if_pos rfl, if_pos (by omega), hx, Nat.testBit_or, Bool.or_eq_true]
      have b1 := a4 p q hp hq
      rw [if_neg (by omega)] at b1
      have b2 := a4 p k hp hk
      rw [if_neg (by omega)] at b2
      rw [b1]
      by_cases hb : (F p).testBit k = true
      · rw [if_pos hb, hr q hq]
        exact ⟨fun z => z.elim Or.inl (fun z => Or.inr ⟨b2.mp hb, z⟩), fun z => z.elim Or.inl (fun z => Or.inr z.2)⟩
      · rw [if_neg hb, Nat.zero_testBit]
        exact ⟨fun z => z.elim Or.inl (fun z => absurd z (by decide)), fun z => z.elim Or.inl (fun z => absurd (b2.mpr z.1) hb)⟩
    · rw [if_neg e, a4 p q hp hq]
      by_cases hpi : p < i
      · rw [if_pos hpi, if_pos (by omega)]
      · rw [if_neg hpi, if_neg (by omega)]
theorem l_m_ring3 {h : zH} {kk : Int} {post : Option zV → zH → Prop} (hm : MI h) (hk : 0 ≤ kk ∧ kk < h 39 4) (K : ∀ h2 F, by2 h h2 (EE (nm h)) (h 39 4).toNat kk.toNat (h 39 4).toNat F → Z M_m_ring post 130 [vR 39, vI kk, vI (h 39 4)] [] h2) : ∀ (k : Nat) (i : Int) (h1 : zH) (F : Nat → Nat), 0 ≤ i → i ≤ h 39 4 → h 39 4 - i < k → by2 h h1 (EE (nm h)) (h 39 4).toNat kk.toNat i.toNat F → Z M_m_ring post 84 [vR 39, vI kk, vI i] [] h1 := by
  have hnp := hm.hnp
  intro k
  induction k with
  | zero => intro i h1 F h0 h2 h3; omega
  | succ k ih =>
    intro i h1 F h0 h2 h3 hB
    have ew : h1 39 = h 39 := hB.1 39 (by decide)
    have eI : i < h 39 4 → h1 51 i.toNat = (F i.toNat : Int) := fun q => hB.2.1 _ (by omega)
    have eK : h1 51 kk.toNat = (F kk.toNat : Int) := hB.2.1 _ (by omega)
    have hFI : i < h 39 4 → F i.toNat < 2 ^ 6 := fun q => hB.2.2.1 _ (by omega)
    refine z_iload_n D_m_ring_84 rfl ?_
    refine z_aload_n D_m_ring_85 rfl ?_
    refine z_getI fl_m_66 (rfl) rfl D_m_ring_86 ?_
    refine z_icmp_ge (tgt := 130) D_m_ring_89 (by decide) (by omega) (by rw [ew]; omega) (fun q89 => ?_) (fun q89 => ?_)
    · rw [ew] at q89
      have e9 : i = h 39 4 := by omega
      rw [e9] at hB ⊢
      exact K h1 F hB
    · rw [ew] at q89
      have q89 : i < h 39 4 := by omega
      have eI := eI q89
      have hFI := hFI q89
      refine z_aload_n D_m_ring_92 rfl ?_
      refine z_getR (q := 51) fl_m_51 (rfl) rfl (rfl) D_m_ring_93 ?_
      refine z_iload_n D_m_ring_96 rfl ?_
      refine z_dup2 rfl rfl D_m_ring_97 ?_
      refine z_iald (n := 6) (rfl) (by omega) D_m_ring_98 ?_
      rw [eI]
      refine z_aload_n D_m_ring_99 rfl ?_
      refine z_getR (q := 51) fl_m_51 (rfl) rfl (rfl) D_m_ring_100 ?_
      refine z_iload_n D_m_ring_103 rfl ?_
      refine z_iald (n := 6) (rfl) (by omega) D_m_ring_104 ?_
      rw [eI]
      refine z_iload_n D_m_ring_105 rfl ?_
      refine z_S2 (c_m_has (T := F i.toNat) (by omega) (by omega)) G_m_has S_m_has lk_m_187 ⟨Nat.le_of_ble_eq_true rfl, Nat.le_of_ble_eq_true rfl⟩ (Nat.le_of_ble_eq_true rfl) D_m_ring_106 ?_
      refine z_ifeqB (tgt := 121) D_m_ring_109 (by decide) (fun q109 => ?_) (fun q109 => ?_)
      · refine z_iconst D_m_ring_121 ?_
        refine z_ior D_m_ring_122 _ 0 rfl rfl ?_
        refine z_iast (n := 6) (rfl) (by omega) D_m_ring_123 ?_
        refine z_iinc_2 D_m_ring_124 (Nat.le_of_ble_eq_true rfl) rfl ?_
        refine z_goto (tgt := 84) D_m_ring_127 (by decide) ?_
        have s9 := by2_next (x := F i.toNat ||| 0) hB (by omega) (by omega) (by rw [if_neg q109])
        refine ih (i + 1) _ _ (by omega) (by omega) (by omega) (by rw [tn1 h0]; exact s9)
      · refine z_aload_n D_m_ring_112 rfl ?_
        refine z_getR (q := 51) fl_m_51 (rfl) rfl (rfl) D_m_ring_113 ?_
        refine z_iload_n D_m_ring_116 rfl ?_
        refine z_iald (n := 6) (rfl) (by omega) D_m_ring_117 ?_
        rw [eK]
        refine z_goto (tgt := 122) D_m_ring_118 (by decide) ?_
        refine z_ior D_m_ring_122 _ _ rfl rfl ?_
        refine z_iast (n := 6) (rfl) (by omega) D_m_ring_123 ?_
        refine z_iinc_2 D_m_ring_124 (Nat.le_of_ble_eq_true rfl) rfl ?_
        refine z_goto (tgt := 84) D_m_ring_127 (by decide) ?_
        have s9 := by2_next (x := F i.toNat ||| F kk.toNat) hB (by omega) (by omega) (by rw [if_pos q109])
        refine ih (i + 1) _ _ (by omega) (by omega) (by omega) (by rw [tn1 h0]; exact s9)
theorem l_m_ring4 {h : zH} {post : Option zV → zH → Prop} (hm : MI h) (K : ∀ h2 F y2, vlong y2 = false → by2 h h2 (EE (nm h)) (h 39 4).toNat (h 39 4).toNat 0 F → Z M_m_ring post 136 [vR 39, vI (h 39 4), y2] [] h2) : ∀ (k : Nat) (i : Int) (h1 : zH) (F : Nat → Nat) (y2 : zV), 0 ≤ i → i ≤ h 39 4 → h 39 4 - i < k → vlong y2 = false → by2 h h1 (EE (nm h)) (h 39 4).toNat i.toNat 0 F → Z M_m_ring post 74 [vR 39, vI i, y2] [] h1 := by
  have hnp := hm.hnp
  intro k
  induction k with
  | zero => intro i h1 F y2 h0 h2 h3; omega
  | succ k ih =>
    intro i h1 F y2 h0 h2 h3 hy hB
    have ew : h1 39 = h 39 := hB.1 39 (by decide)
    refine z_iload_n D_m_ring_74 rfl ?_
    refine z_aload_n D_m_ring_75 rfl ?_
    refine z_getI fl_m_66 (rfl) rfl D_m_ring_76 ?_
    refine z_icmp_ge (tgt := 136) D_m_ring_79 (by decide) (by omega) (by rw [ew]; omega) (fun q79 => ?_) (fun q79 => ?_)
    · rw [ew] at q79
      have e9 : i = h 39 4 := by omega
      rw [e9] at hB ⊢
      exact K h1 F y2 hy hB
    · rw [ew] at q79
      refine z_iconst D_m_ring_82 ?_
      refine z_istore_2 D_m_ring_83 (Nat.le_of_ble_eq_true rfl) rfl ?_
      refine l_m_ring3 hm ⟨h0, by omega⟩ (fun h5 F5 hB5 => ?_) (7 : Nat) 0 _ F (by omega) (by omega) (by omega) hB
      refine z_iinc_1 D_m_ring_130 (Nat.le_of_ble_eq_true rfl) rfl ?_
      refine z_goto (tgt := 74) D_m_ring_133 (by decide) ?_
      refine ih (i + 1) _ F5 _ (by omega) (by omega) (by omega) rfl ⟨hB5.1, hB5.2.1, hB5.2.2.1, fun p q hp hq => ?_⟩
      rw [tn1 h0, if_neg (by omega), hB5.2.2.2 p q hp hq, if_pos hp]
theorem l_m_ring5 {h h1 : zH} {F : Nat → Nat} (hm : MI h) (hB : by2 h h1 (EE (nm h)) (h 39 4).toNat (h 39 4).toNat 0 F) : ∀ (k : Nat) (i : Int), 0 ≤ i → i ≤ h 39 4 → h 39 4 - i < k → Z M_m_ring (pM (vI ((ringS (EE (nm h)) (h 39 4).toNat : Nat) : Int)) h) 140 [vR 39, vI ((mkB (fun p => (F p).testBit p) i.toNat : Nat) : Int), vI i] [] h1 := by
  have hnp := hm.hnp
  have ew : h1 39 = h 39 := hB.1 39 (by decide)
  intro k
  induction k with
  | zero => intro i h0 h2 h3; omega
  | succ k ih =>
    intro i h0 h2 h3
    have q := ih (i + 1) (by omega)
    rw [mkB_1 h0] at q
    have eI : i < h 39 4 → h1 51 i.toNat = (F i.toNat : Int) := fun q => hB.2.1 _ (by omega)
    have hFI : i < h 39 4 → F i.toNat < 2 ^ 6 := fun q => hB.2.2.1 _ (by omega)
    refine z_iload_n D_m_ring_140 rfl ?_
    refine z_aload_n D_m_ring_141 rfl ?_
    refine z_getI fl_m_66 (rfl) rfl D_m_ring_142 ?_
    refine z_icmp_ge (tgt := 177) D_m_ring_145 (by decide) (by omega) (by rw [ew]; omega) (fun q145 => ?_) (fun q145 => ?_)
    · rw [ew] at q145
      have e9 : i = h 39 4 := by omega
      refine z_iload_n D_m_ring_177 rfl ?_
      exact z_ireturn rfl D_m_ring_178 (pmI (by rw [e9, rng_of (E := (EE (nm h))) (fun p q hp hq => by have := hB.2.2.2 p q hp hq; rw [if_neg (by omega)] at this; exact this)]) (fun a ha => hB.1 a (by omega)))
    · rw [ew] at q145
      have q145 : i < h 39 4 := by omega
      have eI := eI q145
      have hFI := hFI q145
      refine z_iload_n D_m_ring_148 rfl ?_
      refine z_aload_n D_m_ring_149 rfl ?_
      refine z_getR (q := 51) fl_m_51 (rfl) rfl (rfl) D_m_ring_150 ?_
      refine z_iload_n D_m_ring_153 rfl ?_
      refine z_iald (n := 6) (rfl) (by omega) D_m_ring_154 ?_
      rw [eI]
      refine z_iload_n D_m_ring_155 rfl ?_
      refine z_S2 (c_m_has (T := F i.toNat) (by omega) (by omega)) G_m_has S_m_has lk_m_187 ⟨Nat.le_of_ble_eq_true rfl, Nat.le_of_ble_eq_true rfl⟩ (Nat.le_of_ble_eq_true rfl) D_m_ring_156 ?_
      refine z_ifeqB (tgt := 168) D_m_ring_159 (by decide) (fun q159 => ?_) (fun q159 => ?_)
      · refine z_iconst D_m_ring_168 ?_
        refine z_ior D_m_ring_169 _ 0 rfl rfl ?_
        refine z_istore_1 D_m_ring_170 (Nat.le_of_ble_eq_true rfl) rfl ?_
        refine z_iinc_2 D_m_ring_171 (Nat.le_of_ble_eq_true rfl) rfl ?_
        refine z_goto (tgt := 140) D_m_ring_174 (by decide) ?_
        rw [if_neg q159] at q
        rw [Nat.or_zero]
        exact q (by omega) (by omega)
      · refine z_iconst D_m_ring_162 ?_
        refine z_iload_n D_m_ring_163 rfl ?_
        refine z_ishl D_m_ring_164 i.toNat rfl (by omega) (by omega) ?_
        refine z_goto (tgt := 169) D_m_ring_165 (by decide) ?_
        refine z_ior D_m_ring_169 _ _ rfl rfl ?_
        refine z_istore_1 D_m_ring_170 (Nat.le_of_ble_eq_true rfl) rfl ?_
        refine z_iinc_2 D_m_ring_171 (Nat.le_of_ble_eq_true rfl) rfl ?_
        refine z_goto (tgt := 140) D_m_ring_174 (by decide) ?_
        rw [if_pos q159] at q
        exact q (by omega) (by omega)
theorem c_m_ring {h : zH}  (hm : MI h) : zC M_m_ring [vR 39] h (pM (vI ((ringS (EE (nm h)) (h 39 4).toNat : Nat) : Int)) h) := by
  refine zC.ofN 2 (by decide) (by first | decide | exact Nat.le_of_ble_eq_true rfl) ?_
  show Z M_m_ring _ 0 [vR 39, vU, vU] [] h
  have hnp := hm.hnp
  refine z_iconst D_m_ring_0 ?_
  refine z_istore_1 D_m_ring_1 (Nat.le_of_ble_eq_true rfl) rfl ?_
  refine l_m_ring2 hm (fun h5 y5 v5 hB5 => ?_) (7 : Nat) 0 _ _ (by omega) (by omega) (by omega) rfl ⟨fun a ha => rfl, fun j hj => absurd hj (by omega)⟩
  refine z_iconst D_m_ring_72 ?_
  refine z_istore_1 D_m_ring_73 (Nat.le_of_ble_eq_true rfl) rfl ?_
  refine l_m_ring4 hm (fun h6 F6 y6 v6 hB6 => ?_) (7 : Nat) 0 _ (dbS (EE (nm h)) (h 39 4).toNat) _ (by omega) (by omega) (by omega) v5 ⟨hB5.1, hB5.2, fun j hj => dbS_lt (by omega), fun p q hp hq => ?_⟩
  rotate_left
  · rw [if_neg (by omega)]
    unfold dbS
    rw [mkB_t]
    exact ⟨fun z => z.2, fun z => ⟨hq, z⟩⟩
  refine z_iconst D_m_ring_136 ?_
  refine z_istore_1 D_m_ring_137 (Nat.le_of_ble_eq_true rfl) rfl ?_
  refine z_iconst D_m_ring_138 ?_
  refine z_istore_2 D_m_ring_139 (Nat.le_of_ble_eq_true rfl) rfl ?_
  exact l_m_ring5 hm hB6 (7 : Nat) 0 (by omega) (by omega) (by omega)

theorem l_m_now {h : zH} {t : Int} (hm : MI h) : ∀ (k : Nat) (i : Int), 0 ≤ i → i ≤ h 39 4 → h 39 4 - i < k → Z M_m_now (pM (vI (sumF (fun p => sumF (owF (nm h) p) (h 39 4).toNat) (h 39 4).toNat)) h) 55 [vR 39, vI t, vI (sumF (fun p => sumF (owF (nm h) p) (h 39 4).toNat) i.toNat), vI i] [] (h) := by
  intro k
  induction k with
  | zero => intro i h0 h1 h2; omega
  | succ k ih =>
    intro i h0 h1 h2
    have hnp := hm.hnp
    have q := ih (i + 1) (by omega)
    rw [sumF_1 h0] at q
    refine z_iload_n D_m_now_55 rfl ?_
    refine z_aload_n D_m_now_56 rfl ?_
    refine z_getI fl_m_66 (rfl) rfl D_m_now_57 ?_
    refine z_icmp_ge (tgt := 77) D_m_now_60 (by decide) (by omega) (by omega) (fun q60 => ?_) (fun q60 => ?_)
    · refine z_iload_n D_m_now_77 rfl ?_
      exact z_ireturn rfl D_m_now_78 (pmI (by rw [show i = h 39 4 by omega]) (fun a ha => rfl))
    · refine z_iload_n D_m_now_63 rfl ?_
      refine z_aload_n D_m_now_64 rfl ?_
      refine z_iload_n D_m_now_65 rfl ?_
      refine z_V1 (c0 := 12) (c_m_owedAll hm (by omega)) G_m_owedAll I_m_owedAll lk_m_158 (rfl) ⟨by decide, rfl⟩ ⟨Nat.le_of_ble_eq_true rfl, Nat.le_of_ble_eq_true rfl⟩ (Nat.le_of_ble_eq_true rfl) D_m_now_66 ?_
      refine z_iadd D_m_now_69 ?_
      refine z_istore_2 D_m_now_70 (Nat.le_of_ble_eq_true rfl) rfl ?_
      refine z_iinc_3 D_m_now_71 (Nat.le_of_ble_eq_true rfl) rfl ?_
      refine z_goto (tgt := 55) D_m_now_74 (by decide) ?_
      exact q (by omega) (by omega)
theorem c_m_now {h : zH} {t : Int} (hm : MI h) (r_t : -2147483648 ≤ t ∧ t ≤ 2147483647) : zC M_m_now [vR 39, vI t] h (pM (vI (if 0 ≤ t ∧ t ≤ 3 then nm h t else if t = 4 then sumF (fun p => sumF (owF (nm h) p) (h 39 4).toNat) (h 39 4).toNat else if t = 5 then lstU (fun t => allF (alk (pm h) (h 39 0) t) (h 39 0).toNat) (-9) (h 39 0).toNat 1 else if t = 6 then ((ringS (EE (nm h)) (h 39 4).toNat : Nat) : Int) else -1)) h) := by
  refine zC.ofN 2 (by decide) (by first | decide | exact Nat.le_of_ble_eq_true rfl) ?_
  show Z M_m_now _ 0 [vR 39, vI t, vU, vU] [] h
  have hnp := hm.hnp
  refine z_iload_n D_m_now_0 rfl ?_
  by_cases s1_0 : t = 0
  · subst s1_0
    refine z_tabIn (tgt := 44) (off := 43) D_m_now_1 (by omega) (by omega) (by omega) rfl (by decide) ?_
    refine z_aload_n D_m_now_44 rfl ?_
    refine z_getR (q := 42) fl_m_23 (rfl) rfl (rfl) D_m_now_45 ?_
    refine z_iload_n D_m_now_48 rfl ?_
    refine z_iald (n := 573) (rfl) (by omega) D_m_now_49 ?_
    exact z_ireturn rfl D_m_now_50 (pmI (by rw [if_pos (by omega)]; rfl) (fun a ha => rfl))
  by_cases s1_1 : t = 1
  · subst s1_1
    refine z_tabIn (tgt := 44) (off := 43) D_m_now_1 (by omega) (by omega) (by omega) rfl (by decide) ?_
    refine z_aload_n D_m_now_44 rfl ?_
    refine z_getR (q := 42) fl_m_23 (rfl) rfl (rfl) D_m_now_45 ?_
    refine z_iload_n D_m_now_48 rfl ?_
    refine z_iald (n := 573) (rfl) (by omega) D_m_now_49 ?_
    exact z_ireturn rfl D_m_now_50 (pmI (by rw [if_pos (by omega)]; rfl) (fun a ha => rfl))
  by_cases s1_2 : t = 2
  · subst s1_2
    refine z_tabIn (tgt := 44) (off := 43) D_m_now_1 (by omega) (by omega) (by omega) rfl (by decide) ?_
    refine z_aload_n D_m_now_44 rfl ?_
    refine z_getR (q := 42) fl_m_23 (rfl) rfl (rfl) D_m_now_45 ?_
    refine z_iload_n D_m_now_48 rfl ?_
    refine z_iald (n := 573) (rfl) (by omega) D_m_now_49 ?_
    exact z_ireturn rfl D_m_now_50 (pmI (by rw [if_pos (by omega)]; rfl) (fun a ha => rfl))
  by_cases s1_3 : t = 3
  · subst s1_3
    refine z_tabIn (tgt := 44) (off := 43) D_m_now_1 (by omega) (by omega) (by omega) rfl (by decide) ?_
    refine z_aload_n D_m_now_44 rfl ?_
    refine z_getR (q := 42) fl_m_23 (rfl) rfl (rfl) D_m_now_45 ?_
    refine z_iload_n D_m_now_48 rfl ?_
    refine z_iald (n := 573) (rfl) (by omega) D_m_now_49 ?_
    exact z_ireturn rfl D_m_now_50 (pmI (by rw [if_pos (by omega)]; rfl) (fun a ha => rfl))
  by_cases s1_4 : t = 4
  · subst s1_4
    refine z_tabIn (tgt := 51) (off := 50) D_m_now_1 (by omega) (by omega) (by omega) rfl (by decide) ?_
    refine z_iconst D_m_now_51 ?_
    refine z_istore_2 D_m_now_52 (Nat.le_of_ble_eq_true rfl) rfl ?_
    refine z_iconst D_m_now_53 ?_
    refine z_istore_3 D_m_now_54 (Nat.le_of_ble_eq_true rfl) rfl ?_
    refine Z.weak (l_m_now hm (7 : Nat) 0 (by omega) (by omega) (by omega)) ?_
    intro v h1 hp
    rw [if_neg (by omega), if_pos (by omega)]
    exact hp
  by_cases s1_5 : t = 5
  · subst s1_5
    refine z_tabIn (tgt := 79) (off := 78) D_m_now_1 (by omega) (by omega) (by omega) rfl (by decide) ?_
    refine z_aload_n D_m_now_79 rfl ?_
    refine z_V0 (c0 := 12) (c_m_alike hm) G_m_alike I_m_alike lk_m_190 (rfl) ⟨by decide, rfl⟩ ⟨Nat.le_of_ble_eq_true rfl, Nat.le_of_ble_eq_true rfl⟩ (Nat.le_of_ble_eq_true rfl) D_m_now_80 ?_
    exact z_ireturn rfl D_m_now_83 (pmI (by rw [if_neg (by omega), if_neg (by omega), if_pos (by omega)]) (fun a ha => rfl))
  by_cases s1_6 : t = 6
  · subst s1_6
    refine z_tabIn (tgt := 84) (off := 83) D_m_now_1 (by omega) (by omega) (by omega) rfl (by decide) ?_
    refine z_aload_n D_m_now_84 rfl ?_
    refine z_V0q (c0 := 12) (c_m_ring hm) G_m_ring I_m_ring lk_m_194 (rfl) ⟨by decide, rfl⟩ ⟨Nat.le_of_ble_eq_true rfl, Nat.le_of_ble_eq_true rfl⟩ (Nat.le_of_ble_eq_true rfl) D_m_now_85 (fun v9 h9 hp9 => ?_)
    obtain ⟨rfl, hE9⟩ := hp9
    show Z _ _ _ _ [vI _] _
    exact z_ireturn rfl D_m_now_88 (pmI (by rw [if_neg (by omega), if_neg (by omega), if_neg (by omega), if_pos (by omega)]) hE9)
  refine z_tabOut (tgt := 89) D_m_now_1 (by omega) (by omega) (by decide) ?_
  refine z_iconst D_m_now_89 ?_
  exact z_ireturn rfl D_m_now_90 (pmI (by rw [if_neg (by omega), if_neg (by omega), if_neg (by omega), if_neg (by omega)]) (fun a ha => rfl))

