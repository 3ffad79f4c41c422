/-! seats of the other side, all -/
theorem l_m_sits0 {h : zH} {v : Int} {post : Option zV → zH → Prop} (K : ∀ h2, (∀ a, a < 51 → h2 a = h a) → (∀ c : Int, 0 ≤ c → c ≤ 5 → h2 52 c.toNat = 0) → (∀ c : Int, 0 ≤ c → c ≤ 5 → h2 53 c.toNat = 0) → Z M_m_sits post 30 [vR 39, vI v, vI 0, vI 6, vU, vU, vU, vU, vU, vU] [] h2) : ∀ (k : Nat) (i : Int) (h1 : zH), 0 ≤ i → i ≤ 6 → 6 - i < k → (∀ a, a < 51 → h1 a = h a) → (∀ c : Int, 0 ≤ c → c < i → h1 52 c.toNat = 0) → (∀ c : Int, 0 ≤ c → c < i → h1 53 c.toNat = 0) → Z M_m_sits post 4 [vR 39, vI v, vI 0, vI i, vU, vU, vU, vU, vU, vU] [] h1 := by
  intro k
  induction k with
  | zero => intro i h1 h0 h2 h3; omega
  | succ k ih =>
    intro i h1 h0 h2 h3 hE hA hB
    refine z_iload_n D_m_sits_4 rfl ?_
    refine z_bipush (by decide) D_m_sits_5 ?_
    refine z_icmp_ge (tgt := 30) D_m_sits_7 (by decide) (by omega) (by omega) (fun q7 => ?_) (fun q7 => ?_)
    · have e9 : i = 6 := by omega
      subst e9
      exact K h1 hE (fun c c0 c5 => hA c c0 (by omega)) (fun c c0 c5 => hB c c0 (by omega))
    · refine z_aload_n D_m_sits_10 rfl ?_
      refine z_getR (q := 52) fl_m_54 (rfl) rfl (rfl) D_m_sits_11 ?_
      refine z_iload_n D_m_sits_14 rfl ?_
      refine z_iconst D_m_sits_15 ?_
      refine z_iast (n := 6) (rfl) (by omega) D_m_sits_16 ?_
      refine z_aload_n D_m_sits_17 rfl ?_
      refine z_getR (q := 53) fl_m_57 (rfl) rfl (rfl) D_m_sits_18 ?_
      refine z_iload_n D_m_sits_21 rfl ?_
      refine z_iconst D_m_sits_22 ?_
      refine z_iast (n := 6) (rfl) (by omega) D_m_sits_23 ?_
      refine z_iinc_3 D_m_sits_24 (Nat.le_of_ble_eq_true rfl) rfl ?_
      refine z_goto (tgt := 4) D_m_sits_27 (by decide) ?_
      refine ih (i + 1) _ (by omega) (by omega) (by omega) (fun a q => by funext j; rw [zup_ne (by omega), zup_ne (by omega), hE a q]) (fun c c0 c1 => ?_) (fun c c0 c1 => ?_)
      · rw [zup_ne (by decide)]
        by_cases hc : c = i
        · rw [hc, zup_same]
        · rw [zup_nk (by omega), hA c c0 (by omega)]
      · by_cases hc : c = i
        · rw [hc, zup_same]
        · rw [zup_nk (by omega), zup_ne (by decide), hB c c0 (by omega)]
theorem l_m_sits1 {h : zH} {v : Int} {post : Option zV → zH → Prop} (hm : MI h) (K : ∀ h2, (∀ a, a < 51 → h2 a = h a) → (∀ c : Int, 0 ≤ c → c ≤ 5 → h2 52 c.toNat = cF (wm h) c (h 39 4).toNat) → (∀ c : Int, 0 ≤ c → c ≤ 5 → h2 53 c.toNat = 0) → Z M_m_sits post 61 [vR 39, vI v, vI 0, vI (h 39 4), vU, vU, vU, vU, vU, vU] [] h2) : ∀ (k : Nat) (i : Int) (h1 : zH), 0 ≤ i → i ≤ h 39 4 → h 39 4 - i < k → (∀ a, a < 51 → h1 a = h a) → (∀ c : Int, 0 ≤ c → c ≤ 5 → h1 52 c.toNat = cF (wm h) c i.toNat) → (∀ c : Int, 0 ≤ c → c ≤ 5 → h1 53 c.toNat = 0) → Z M_m_sits post 32 [vR 39, vI v, vI 0, vI i, vU, vU, vU, vU, vU, vU] [] h1 := by
  intro k
  induction k with
  | zero => intro i h1 h0 h2 h3; omega
  | succ k ih =>
    intro i h1 h0 h2 h3 hE hA hB
    have hnp := hm.hnp
    have ew : h1 39 = h 39 := hE 39 (by omega)
    have ewt : h1 41 = h 41 := hE 41 (by omega)
    have hg := fun q => hm.hW h0 q
    refine z_iload_n D_m_sits_32 rfl ?_
    refine z_aload_n D_m_sits_33 rfl ?_
    refine z_getI fl_m_66 (rfl) rfl D_m_sits_34 ?_
    refine z_icmp_ge (tgt := 61) D_m_sits_37 (by decide) (by omega) (by rw [ew]; omega) (fun q37 => ?_) (fun q37 => ?_)
    · have e9 : i = h 39 4 := by rw [ew] at q37; omega
      rw [e9] at hA ⊢
      exact K h1 hE hA hB
    · rw [ew] at q37
      have hg := hg (by omega)
      refine z_aload_n D_m_sits_40 rfl ?_
      refine z_getR (q := 52) fl_m_54 (rfl) rfl (rfl) D_m_sits_41 ?_
      refine z_aload_n D_m_sits_44 rfl ?_
      refine z_getR (q := 41) fl_m_20 (rfl) rfl (rfl) D_m_sits_45 ?_
      refine z_iload_n D_m_sits_48 rfl ?_
      refine z_iald (n := 6) (rfl) (by omega) D_m_sits_49 ?_
      rw [ewt]
      show Z _ _ _ _ [vI (wm h i), vR 52] _
      refine z_dup2 rfl rfl D_m_sits_50 ?_
      refine z_iald (n := 6) (rfl) (by omega) D_m_sits_51 ?_
      refine z_iconst D_m_sits_52 ?_
      refine z_iadd D_m_sits_53 ?_
      refine z_iast (n := 6) (rfl) (by omega) D_m_sits_54 ?_
      refine z_iinc_3 D_m_sits_55 (Nat.le_of_ble_eq_true rfl) rfl ?_
      refine z_goto (tgt := 32) D_m_sits_58 (by decide) ?_
      refine ih (i + 1) _ (by omega) (by omega) (by omega) (fun a q => by funext j; rw [zup_ne (by omega), hE a q]) (fun c c0 c5 => ?_) (fun c c0 c5 => by rw [zup_ne (by decide), hB c c0 c5])
      rw [cF_1 h0]
      by_cases hc : c = wm h i
      · rw [hc, zup_same, hA _ (by omega) hg.2, zb_t rfl]
      · rw [zup_nk (by omega), hA c c0 c5, zb_f (fun q => hc q.symm)]; omega
theorem l_m_sits2 {h : zH} {v : Int} {post : Option zV → zH → Prop} (hm : MI h) (hv : 1 ≤ v ∧ v ≤ 60) (K : ∀ h2, (∀ a, a < 51 → h2 a = h a) → (∀ c : Int, 0 ≤ c → c ≤ 5 → h2 52 c.toNat = cF (wm h) c (h 39 4).toNat) → (∀ c : Int, 0 ≤ c → c ≤ 5 → h2 53 c.toNat = cF (fun s => gm h s v) c (h 39 0).toNat) → Z M_m_sits post 92 [vR 39, vI v, vI 0, vI (h 39 0), vU, vU, vU, vU, vU, vU] [] h2) : ∀ (k : Nat) (i : Int) (h1 : zH), 0 ≤ i → i ≤ h 39 0 → h 39 0 - i < k → (∀ a, a < 51 → h1 a = h a) → (∀ c : Int, 0 ≤ c → c ≤ 5 → h1 52 c.toNat = cF (wm h) c (h 39 4).toNat) → (∀ c : Int, 0 ≤ c → c ≤ 5 → h1 53 c.toNat = cF (fun s => gm h s v) c i.toNat) → Z M_m_sits post 63 [vR 39, vI v, vI 0, vI i, vU, vU, vU, vU, vU, vU] [] h1 := by
  intro k
  induction k with
  | zero => intro i h1 h0 h2 h3; omega
  | succ k ih =>
    intro i h1 h0 h2 h3 hE hA hB
    have hn := hm.hn
    have ew : h1 39 = h 39 := hE 39 (by omega)
    have hg := gm_in hm i v
    refine z_iload_n D_m_sits_63 rfl ?_
    refine z_aload_n D_m_sits_64 rfl ?_
    refine z_getI fl_m_73 (rfl) rfl D_m_sits_65 ?_
    refine z_icmp_ge (tgt := 92) D_m_sits_68 (by decide) (by omega) (by rw [ew]; omega) (fun q68 => ?_) (fun q68 => ?_)
    · have e9 : i = h 39 0 := by rw [ew] at q68; omega
      rw [e9] at hB ⊢
      exact K h1 hE hA hB
    · rw [ew] at q68
      refine z_aload_n D_m_sits_71 rfl ?_
      refine z_getR (q := 53) fl_m_57 (rfl) rfl (rfl) D_m_sits_72 ?_
      refine z_aload_n D_m_sits_75 rfl ?_
      refine z_iload_n D_m_sits_76 rfl ?_
      refine z_iload_n D_m_sits_77 rfl ?_
      refine z_V2 (c0 := 12) (c_m_shadeOfE hm hE ⟨h0, by omega⟩ (by omega)) G_m_shadeOf I_m_shadeOf lk_m_197 (rfl) ⟨by decide, rfl⟩ ⟨Nat.le_of_ble_eq_true rfl, Nat.le_of_ble_eq_true rfl⟩ (Nat.le_of_ble_eq_true rfl) D_m_sits_78 ?_
      refine z_dup2 rfl rfl D_m_sits_81 ?_
      refine z_iald (n := 6) (rfl) (by omega) D_m_sits_82 ?_
      refine z_iconst D_m_sits_83 ?_
      refine z_iadd D_m_sits_84 ?_
      refine z_iast (n := 6) (rfl) (by omega) D_m_sits_85 ?_
      refine z_iinc_3 D_m_sits_86 (Nat.le_of_ble_eq_true rfl) rfl ?_
      refine z_goto (tgt := 63) D_m_sits_89 (by decide) ?_
      refine ih (i + 1) _ (by omega) (by omega) (by omega) (fun a q => by funext j; rw [zup_ne (by omega), hE a q]) (fun c c0 c5 => by rw [zup_ne (by decide), hA c c0 c5]) (fun c c0 c5 => ?_)
      rw [cF_1 h0]
      by_cases hc : c = gm h i v
      · rw [hc, zup_same, hB _ hg.1 hg.2, zb_t rfl]
      · rw [zup_nk (by omega), hB c c0 c5, zb_f (fun q => hc q.symm)]; omega
theorem l_m_sits3 {h : zH} {v B0 : Int} (hm : MI h) (hn0 : 0 < h 39 0) (hv : 1 ≤ v ∧ v ≤ 60) : ∀ (k : Nat) (i : Int) (h1 : zH) (y6 y7 y8 y9 : zV), 0 ≤ i → i ≤ h 39 4 → h 39 4 - i < k → (∀ a, a < 51 → h1 a = h a) → (∀ c : Int, 0 ≤ c → c ≤ 5 → h1 52 c.toNat = (seM (fun s => gm h s v) (wm h) (h 39 0) (h 39 4) i.toNat).2.1 c) → (∀ c : Int, 0 ≤ c → c ≤ 5 → h1 53 c.toNat = (seM (fun s => gm h s v) (wm h) (h 39 0) (h 39 4) i.toNat).1 c) → (∀ j : Int, 0 ≤ j → j < i → h1 54 j.toNat = (seM (fun s => gm h s v) (wm h) (h 39 0) (h 39 4) i.toNat).2.2.2.2 j) → Z M_m_sits (fun r9 h9 => r9 = some (vI B0) ∧ (∀ a, a < 51 → h9 a = h a) ∧ ∀ j : Int, 0 ≤ j → j < h 39 4 → h9 54 j.toNat = (seM (fun s => gm h s v) (wm h) (h 39 0) (h 39 4) (h 39 4).toNat).2.2.2.2 j) 103 [vR 39, vI v, vI ((seM (fun s => gm h s v) (wm h) (h 39 0) (h 39 4) i.toNat).2.2.1 : Int), vI B0, vI (seM (fun s => gm h s v) (wm h) (h 39 0) (h 39 4) i.toNat).2.2.2.1, vI i, y6, y7, y8, y9] [] h1 := by
  intro k
  induction k with
  | zero => intro i h1 y6 y7 y8 y9 h0 h2 h3; omega
  | succ k ih =>
    intro i h1 y6 y7 y8 y9 h0 h2 h3 hE hW hF hS
    have hn := hm.hn
    have hnp := hm.hnp
    have ew : h1 39 = h 39 := hE 39 (by omega)
    have ewt : h1 41 = h 41 := hE 41 (by omega)
    have hg := fun q => hm.hW h0 q
    have e := seM_1 (f := (fun s => gm h s v)) (Wt := (wm h)) (n := h 39 0) (np := h 39 4) h0
    have hr := seM_rng (f := (fun s => gm h s v)) (Wt := (wm h)) ⟨hn0, hn.2⟩ hnp i.toNat
    have q := ih (i + 1)
    rw [e] at q
    have hxt : i = h 39 4 → seM (fun s => gm h s v) (wm h) (h 39 0) (h 39 4) i.toNat = seM (fun s => gm h s v) (wm h) (h 39 0) (h 39 4) (h 39 4).toNat := fun e9 => by rw [e9]
    generalize seM (fun s => gm h s v) (wm h) (h 39 0) (h 39 4) i.toNat = S at q hr hxt hF hW hS ⊢
    obtain ⟨F, Wn, T, L, sf⟩ := S
    obtain ⟨hr1, hr2, hr3⟩ := hr
    dsimp only at hr1 hr2 hr3 hF hW hS hxt ⊢
    refine z_iload D_m_sits_103 rfl ?_
    refine z_aload_n D_m_sits_105 rfl ?_
    refine z_getI fl_m_66 (rfl) rfl D_m_sits_106 ?_
    refine z_icmp_ge (tgt := 309) D_m_sits_109 (by decide) (by omega) (by rw [ew]; omega) (fun q109 => ?_) (fun q109 => ?_)
    · refine z_iload_n D_m_sits_309 rfl ?_
      exact z_ireturn rfl D_m_sits_310 (⟨rfl, hE, fun j j0 j1 => by rw [hS j j0 (by rw [ew] at q109; omega), ← hxt (by rw [ew] at q109; omega)]⟩)
    · rw [ew] at q109
      have hg := hg (by omega)
      refine z_aload_n D_m_sits_112 rfl ?_
      refine z_getR (q := 52) fl_m_54 (rfl) rfl (rfl) D_m_sits_113 ?_
      refine z_aload_n D_m_sits_116 rfl ?_
      refine z_getR (q := 41) fl_m_20 (rfl) rfl (rfl) D_m_sits_117 ?_
      refine z_iload D_m_sits_120 rfl ?_
      refine z_iald (n := 6) (rfl) (by omega) D_m_sits_122 ?_
      rw [ewt]
      show Z _ _ _ _ [vI (wm h i), vR 52] _
      refine z_dup2 rfl rfl D_m_sits_123 ?_
      refine z_iald (n := 6) (rfl) (by omega) D_m_sits_124 ?_
      refine z_iconst D_m_sits_125 ?_
      refine z_isub D_m_sits_126 ?_
      refine z_iast (n := 6) (rfl) (by omega) D_m_sits_127 ?_
      refine z_aload_n D_m_sits_128 rfl ?_
      refine z_getR (q := 54) fl_m_60 (rfl) rfl (rfl) D_m_sits_129 ?_
      refine z_iload D_m_sits_132 rfl ?_
      refine z_bipush (by decide) D_m_sits_134 ?_
      refine z_iast (n := 6) (rfl) (by omega) D_m_sits_136 ?_
      refine z_iconst D_m_sits_137 ?_
      refine z_istore_6 D_m_sits_138 (Nat.le_of_ble_eq_true rfl) rfl ?_
      have hSP : SP h (zup (zup h1 52 (wm h i).toNat (h1 52 (wm h i).toNat - 1)) 54 i.toNat (-9)) F (dec Wn (wm h i)) sf i (-9) := by
        refine ⟨fun a ha => ?_, fun c c0 c5 => ?_, fun c c0 c5 => ?_, fun j j0 j1 => ?_, zup_same⟩
        · funext j; rw [zup_ne (by omega), zup_ne (by omega), hE a ha]
        · rw [zup_ne (by decide)]
          unfold dec
          by_cases hc : c = wm h i
          · rw [if_pos hc, hc, zup_same, hW _ (by omega) hg.2]
          · rw [if_neg hc, zup_nk (by omega), hW c c0 c5]
        · rw [zup_ne (by decide), zup_ne (by decide), hF c c0 c5]
        · rw [zup_nk (by omega), zup_ne (by decide), hS j j0 j1]
      have hri := rS_in (fun s => gm h s v) (wm h) (h 39 0) i (F, Wn, T, L, sf) hn.1
      refine l_m_sits_in (n0 := 0) hm ⟨h0, by omega⟩ hv hr2 (by omega) (fun c c0 c5 => by have := hr1 c c0 c5; omega) (fun c c0 c5 => by have := dec_in (k := wm h i) (hr1 c c0 c5).2; omega) (rS (fun s => gm h s v) (wm h) (h 39 0) i (F, Wn, T, L, sf)) (fun h2 y6 y7 y8 y9 hS2 => ?_) (h 39 0).toNat 0 _ y7 y8 y9 (by omega) (by omega) hSP rfl
      unfold stM at q
      dsimp only at q
      generalize rS (fun s => gm h s v) (wm h) (h 39 0) i (F, Wn, T, L, sf) = r at q hri hS2 ⊢
      refine z_iinc_5 D_m_sits_303 (Nat.le_of_ble_eq_true rfl) rfl ?_
      refine z_goto (tgt := 103) D_m_sits_306 (by decide) ?_
      refine q _ _ _ _ _ (by omega) (by omega) (by omega) hS2.1 hS2.2.1 hS2.2.2.1 (fun j j0 j1 => ?_)
      by_cases hj : j = i
      · rw [if_pos hj, hj, hS2.2.2.2.2]
      · rw [if_neg hj, hS2.2.2.2.1 j j0 (by omega)]
theorem c_m_sits {h : zH} {v : Int} (hm : MI h) (hn0 : 0 < h 39 0) (hv : 1 ≤ v ∧ v ≤ 60) : zC M_m_sits [vR 39, vI v] h (fun r9 h9 => r9 = some (vI (mS (fun c => cF (fun s => gm h s v) c (h 39 0).toNat) (fun c => cF (wm h) c (h 39 4).toNat))) ∧ (∀ a, a < 51 → h9 a = h a) ∧ ∀ j : Int, 0 ≤ j → j < h 39 4 → h9 54 j.toNat = (seM (fun s => gm h s v) (wm h) (h 39 0) (h 39 4) (h 39 4).toNat).2.2.2.2 j) := by
  refine zC.ofN 8 (by decide) (Nat.le_of_ble_eq_true rfl) ?_
  show Z M_m_sits _ 0 [vR 39, vI v, vU, vU, vU, vU, vU, vU, vU, vU] [] h
  have hn := hm.hn
  have hnp := hm.hnp
  refine z_iconst D_m_sits_0 ?_
  refine z_istore_2 D_m_sits_1 (Nat.le_of_ble_eq_true rfl) rfl ?_
  refine z_iconst D_m_sits_2 ?_
  refine z_istore_3 D_m_sits_3 (Nat.le_of_ble_eq_true rfl) rfl ?_
  refine l_m_sits0 (h := h) (fun h1 hE1 hA1 hB1 => ?_) (7 : Nat) 0 h (by omega) (by omega) (by omega) (fun a q => rfl) (fun c c0 c1 => by omega) (fun c c0 c1 => by omega)
  refine z_iconst D_m_sits_30 ?_
  refine z_istore_3 D_m_sits_31 (Nat.le_of_ble_eq_true rfl) rfl ?_
  refine l_m_sits1 hm (fun h2 hE2 hA2 hB2 => ?_) (7 : Nat) 0 h1 (by omega) (by omega) (by omega) hE1 (fun c c0 c5 => by rw [hA1 c c0 c5]; rfl) hB1
  refine z_iconst D_m_sits_61 ?_
  refine z_istore_3 D_m_sits_62 (Nat.le_of_ble_eq_true rfl) rfl ?_
  refine l_m_sits2 hm hv (fun h3 hE3 hA3 hB3 => ?_) (13 : Nat) 0 h2 (by omega) (by omega) (by omega) hE2 hA2 (fun c c0 c5 => by rw [hB2 c c0 c5]; rfl)
  have hr3 : ∀ c : Int, 0 ≤ c → c ≤ 5 → (-100 ≤ h3 53 c.toNat ∧ h3 53 c.toNat ≤ 100) ∧ (-100 ≤ h3 52 c.toNat ∧ h3 52 c.toNat ≤ 100) := fun c c0 c5 => by
    rw [hA3 c c0 c5, hB3 c c0 c5]
    have a := cF_in (fun s => gm h s v) c (h 39 0).toNat
    have b := cF_in (wm h) c (h 39 4).toNat
    omega
  have hms : sumF (fun c => min (h3 53 c.toNat) (h3 52 c.toNat)) 6 = mS (fun c => cF (fun s => gm h s v) c (h 39 0).toNat) (fun c => cF (wm h) c (h 39 4).toNat) := sumF_congr (fun j j0 j6 => by rw [hB3 j j0 (by omega), hA3 j j0 (by omega)])
  refine z_aload_n D_m_sits_92 rfl ?_
  refine z_V0 (c0 := 12) (c_m_mostYet hr3) G_m_mostYet I_m_mostYet lk_m_206 (rfl) ⟨by decide, rfl⟩ ⟨Nat.le_of_ble_eq_true rfl, Nat.le_of_ble_eq_true rfl⟩ (Nat.le_of_ble_eq_true rfl) D_m_sits_93 ?_
  refine z_istore_3 D_m_sits_96 (Nat.le_of_ble_eq_true rfl) rfl ?_
  refine z_iload_n D_m_sits_97 rfl ?_
  refine z_istore_4 D_m_sits_98 (Nat.le_of_ble_eq_true rfl) rfl ?_
  refine z_iconst D_m_sits_100 ?_
  refine z_istore_5 D_m_sits_101 (Nat.le_of_ble_eq_true rfl) rfl ?_
  rw [hms]
  exact l_m_sits3 hm hn0 hv (7 : Nat) 0 h3 vU vU vU vU (by omega) (by omega) (by omega) hE3 hA3 hB3 (fun j j0 j1 => by omega)
theorem c_m_seats {h : zH} {v p : Int} (hm : MI h) (r_v : -2147483648 ≤ v ∧ v ≤ 2147483647) (r_p : -2147483648 ≤ p ∧ p ≤ 2147483647) : zC M_m_seats [vR 39, vI v, vI p] h (pM (vI (if (1 ≤ v ∧ v ≤ 60) ∧ (p = -1 ∨ (0 ≤ p ∧ p < h 39 4)) then (if h 39 0 = 0 then -2 else if p = -1 then mS (fun c => cF (fun s => gm h s v) c (h 39 0).toNat) (fun c => cF (wm h) c (h 39 4).toNat) else (seM (fun s => gm h s v) (wm h) (h 39 0) (h 39 4) (h 39 4).toNat).2.2.2.2 p) else -1)) h) := by
  refine zC.ofN 1 (by decide) (by first | decide | exact Nat.le_of_ble_eq_true rfl) ?_
  show Z M_m_seats _ 0 [vR 39, vI v, vI p, vU] [] h
  have hn := hm.hn
  have hnp := hm.hnp
  refine z_iload_n D_m_seats_0 rfl ?_
  refine z_S1 (c_m_isSpeed (by omega)) G_m_isSpeed S_m_isSpeed lk_m_169 ⟨Nat.le_of_ble_eq_true rfl, Nat.le_of_ble_eq_true rfl⟩ (Nat.le_of_ble_eq_true rfl) D_m_seats_1 ?_
  refine z_ifeqB (tgt := 21) D_m_seats_4 (by decide) (fun q4 => ?_) (fun q4 => ?_)
  · refine z_iconst D_m_seats_21 ?_
    refine z_ireturn rfl D_m_seats_22 (pmI ?_ (fun a q => rfl))
    rw [if_neg (by omega)]
  · refine z_iload_n D_m_seats_7 rfl ?_
    refine z_iconst D_m_seats_8 ?_
    refine z_aload_n D_m_seats_9 rfl ?_
    refine z_getI fl_m_66 (rfl) rfl D_m_seats_10 ?_
    refine z_iconst D_m_seats_13 ?_
    refine z_isub D_m_seats_14 ?_
    refine z_S3 (c_m_in (by omega) (by omega) (by omega)) G_m_in S_m_in lk_m_69 ⟨Nat.le_of_ble_eq_true rfl, Nat.le_of_ble_eq_true rfl⟩ (Nat.le_of_ble_eq_true rfl) D_m_seats_15 ?_
    refine z_ifneB (tgt := 23) D_m_seats_18 (by decide) (fun q18 => ?_) (fun q18 => ?_)
    · refine z_aload_n D_m_seats_23 rfl ?_
      refine z_getI fl_m_73 (rfl) rfl D_m_seats_24 ?_
      refine z_if_ne (tgt := 33) D_m_seats_27 (by decide) (by omega) (fun q27 => ?_) (fun q27 => ?_)
      · refine z_aload_n D_m_seats_33 rfl ?_
        refine z_iload_n D_m_seats_34 rfl ?_
        refine z_V1q (c0 := 12) (c_m_sits hm (by omega) q4) G_m_sits I_m_sits lk_m_209 (rfl) ⟨by decide, rfl⟩ ⟨Nat.le_of_ble_eq_true rfl, Nat.le_of_ble_eq_true rfl⟩ (Nat.le_of_ble_eq_true rfl) D_m_seats_35 (fun v9 h9 hp9 => ?_)
        obtain ⟨rfl, hE9, hS9⟩ := hp9
        show Z _ _ _ _ [vI _] _
        refine z_istore_3 D_m_seats_38 (Nat.le_of_ble_eq_true rfl) rfl ?_
        refine z_iload_n D_m_seats_39 rfl ?_
        refine z_if_ge (tgt := 47) D_m_seats_40 (by decide) (by omega) (fun q40 => ?_) (fun q40 => ?_)
        · refine z_aload_n D_m_seats_47 rfl ?_
          refine z_getR (q := 54) fl_m_60 (rfl) rfl (rfl) D_m_seats_48 ?_
          refine z_iload_n D_m_seats_51 rfl ?_
          refine z_iald (n := 6) (rfl) (by omega) D_m_seats_52 ?_
          refine z_ireturn rfl D_m_seats_53 (pmI ?_ hE9)
          rw [if_pos (by omega), if_neg q27, if_neg (by omega), hS9 p (by omega) (by omega)]
        · refine z_iload_n D_m_seats_43 rfl ?_
          refine z_goto (tgt := 53) D_m_seats_44 (by decide) ?_
          refine z_ireturn rfl D_m_seats_53 (pmI ?_ hE9)
          rw [if_pos (by omega), if_neg q27, if_pos (by omega)]
      · refine z_bipush (by decide) D_m_seats_30 ?_
        refine z_ireturn rfl D_m_seats_32 (pmI ?_ (fun a q => rfl))
        rw [if_pos (by omega), if_pos q27]
    · refine z_iconst D_m_seats_21 ?_
      refine z_ireturn rfl D_m_seats_22 (pmI ?_ (fun a q => rfl))
      rw [if_neg (by omega)]

