/-! the class reads a token (2) -/
theorem bxy {h : zH} {i : Int} (q : i < h 1 1) : (if i < h 1 1 then tx h i else 0) = tx h i := if_pos q
def LX (h : zH) (s e : Int) : Option zV → zH → Prop := fun v h2 => v = none ∧ TK h h2 ∧ h2 1 2 = e ∧ h2 1 3 = s ∧ h2 1 4 = 1 ∧ h2 1 5 = if e - s = 1 then tx h s else 0
theorem l_t_readLetters {h : zH} {s e : Int} (hT : TX h) (hs : 0 ≤ s ∧ s < h 1 1) : ∀ (k : Nat) (i : Int) (h1 : zH), s ≤ i → i ≤ h 1 1 → h 1 1 - i < k → TK h h1 → h1 1 2 = i → h1 1 3 = s → h1 1 4 = 1 → spE (bL (tx h)) (h 1 1) i = e → Z M_t_readLetters (LX h s e) 5 [vR 1] [] h1 := by
  have hL := hT.1
  intro k
  induction k with
  | zero => intro i h1 h0 h2 h3; omega
  | succ k ih =>
    intro i h1 h0 h2 h3 hK e2 e3 e4 hE
    have eL := hK.len
    have eT := hK.eT
    have hb := hT.2 i (by omega)
    have hbs := hT.2 s hs.1 hs.2
    refine z_aload_n D_t_readLetters_5 rfl ?_
    refine z_getI fl_t_24 (rfl) rfl D_t_readLetters_6 ?_
    refine z_aload_n D_t_readLetters_9 rfl ?_
    refine z_getI fl_t_15 (rfl) rfl D_t_readLetters_10 ?_
    refine z_icmp_ge (tgt := 43) D_t_readLetters_13 (by decide) (by omega) (by omega) (fun q13 => ?_) (fun q13 => ?_)
    · have e9 : e = i := by rw [← hE]; exact spE_n (fun z => absurd z.1 (by omega))
      refine z_aload_n D_t_readLetters_43 rfl ?_
      refine z_aload_n D_t_readLetters_44 rfl ?_
      refine z_getI fl_t_24 (rfl) rfl D_t_readLetters_45 ?_
      refine z_aload_n D_t_readLetters_48 rfl ?_
      refine z_getI fl_t_44 (rfl) rfl D_t_readLetters_49 ?_
      refine z_isub D_t_readLetters_52 ?_
      refine z_iconst D_t_readLetters_53 ?_
      refine z_icmp_ne (tgt := 68) D_t_readLetters_54 (by decide) (by omega) (by omega) (fun q54 => ?_) (fun q54 => ?_)
      · refine z_iconst D_t_readLetters_68 ?_
        refine z_putI fl_t_47 (rfl) rfl rfl D_t_readLetters_69 ?_
        refine z_return rfl D_t_readLetters_72 ⟨rfl, hK.put (by omega), ?_, ?_, ?_, ?_⟩
        · rw [zup_nk (by decide), e2, e9]
        · rw [zup_nk (by decide), e3]
        · rw [zup_nk (by decide), e4]
        · rw [zup_same, if_neg (by omega)]
      · refine z_aload_n D_t_readLetters_57 rfl ?_
        refine z_aload_n D_t_readLetters_58 rfl ?_
        refine z_getI fl_t_44 (rfl) rfl D_t_readLetters_59 ?_
        refine z_V1 (c0 := 9) (c_t_byteAt (by rw [eL]; exact hT.1) (by omega)) G_t_byteAt I_t_byteAt lk_t_95 (rfl) ⟨by decide, rfl⟩ ⟨Nat.le_of_ble_eq_true rfl, Nat.le_of_ble_eq_true rfl⟩ (Nat.le_of_ble_eq_true rfl) D_t_readLetters_62 ?_
        rw [bxy (by omega), eT, e3]
        refine z_goto (tgt := 69) D_t_readLetters_65 (by decide) ?_
        refine z_putI fl_t_47 (rfl) rfl rfl D_t_readLetters_69 ?_
        refine z_return rfl D_t_readLetters_72 ⟨rfl, hK.put (by omega), ?_, ?_, ?_, ?_⟩
        · rw [zup_nk (by decide), e2, e9]
        · rw [zup_nk (by decide), e3]
        · rw [zup_nk (by decide), e4]
        · rw [zup_same, if_pos (by omega)]
    · refine z_aload_n D_t_readLetters_16 rfl ?_
      refine z_aload_n D_t_readLetters_17 rfl ?_
      refine z_getI fl_t_24 (rfl) rfl D_t_readLetters_18 ?_
      refine z_V1 (c0 := 9) (c_t_byteAt (by rw [eL]; exact hT.1) (by omega)) G_t_byteAt I_t_byteAt lk_t_95 (rfl) ⟨by decide, rfl⟩ ⟨Nat.le_of_ble_eq_true rfl, Nat.le_of_ble_eq_true rfl⟩ (Nat.le_of_ble_eq_true rfl) D_t_readLetters_21 ?_
      rw [bxy (by omega), eT, e2]
      have hb := hb (by omega)
      refine z_S1 (c_t_isLetter (by omega)) G_t_isLetter S_t_isLetter lk_t_99 ⟨Nat.le_of_ble_eq_true rfl, Nat.le_of_ble_eq_true rfl⟩ (Nat.le_of_ble_eq_true rfl) D_t_readLetters_24 ?_
      refine z_ifeqB (tgt := 43) D_t_readLetters_27 (by decide) (fun q27 => ?_) (fun q27 => ?_)
      · have e9 : e = i := by rw [← hE]; exact spE_n (fun z => q27 (bL_t.mp z.2))
        refine z_aload_n D_t_readLetters_43 rfl ?_
        refine z_aload_n D_t_readLetters_44 rfl ?_
        refine z_getI fl_t_24 (rfl) rfl D_t_readLetters_45 ?_
        refine z_aload_n D_t_readLetters_48 rfl ?_
        refine z_getI fl_t_44 (rfl) rfl D_t_readLetters_49 ?_
        refine z_isub D_t_readLetters_52 ?_
        refine z_iconst D_t_readLetters_53 ?_
        refine z_icmp_ne (tgt := 68) D_t_readLetters_54 (by decide) (by omega) (by omega) (fun q54 => ?_) (fun q54 => ?_)
        · refine z_iconst D_t_readLetters_68 ?_
          refine z_putI fl_t_47 (rfl) rfl rfl D_t_readLetters_69 ?_
          refine z_return rfl D_t_readLetters_72 ⟨rfl, hK.put (by omega), ?_, ?_, ?_, ?_⟩
          · rw [zup_nk (by decide), e2, e9]
          · rw [zup_nk (by decide), e3]
          · rw [zup_nk (by decide), e4]
          · rw [zup_same, if_neg (by omega)]
        · refine z_aload_n D_t_readLetters_57 rfl ?_
          refine z_aload_n D_t_readLetters_58 rfl ?_
          refine z_getI fl_t_44 (rfl) rfl D_t_readLetters_59 ?_
          refine z_V1 (c0 := 9) (c_t_byteAt (by rw [eL]; exact hT.1) (by omega)) G_t_byteAt I_t_byteAt lk_t_95 (rfl) ⟨by decide, rfl⟩ ⟨Nat.le_of_ble_eq_true rfl, Nat.le_of_ble_eq_true rfl⟩ (Nat.le_of_ble_eq_true rfl) D_t_readLetters_62 ?_
          rw [bxy (by omega), eT, e3]
          refine z_goto (tgt := 69) D_t_readLetters_65 (by decide) ?_
          refine z_putI fl_t_47 (rfl) rfl rfl D_t_readLetters_69 ?_
          refine z_return rfl D_t_readLetters_72 ⟨rfl, hK.put (by omega), ?_, ?_, ?_, ?_⟩
          · rw [zup_nk (by decide), e2, e9]
          · rw [zup_nk (by decide), e3]
          · rw [zup_nk (by decide), e4]
          · rw [zup_same, if_pos (by omega)]
      · refine z_aload_n D_t_readLetters_30 rfl ?_
        refine z_dup rfl D_t_readLetters_31 ?_
        refine z_getI fl_t_24 (rfl) rfl D_t_readLetters_32 ?_
        refine z_iconst D_t_readLetters_35 ?_
        refine z_iadd D_t_readLetters_36 ?_
        refine z_putI fl_t_24 (rfl) rfl rfl D_t_readLetters_37 ?_
        refine z_goto (tgt := 5) D_t_readLetters_40 (by decide) ?_
        refine ih (i + 1) _ (by omega) (by omega) (by omega) (hK.put (by omega)) ?_ ?_ ?_ ?_
        · rw [zup_same, e2]
        · rw [zup_nk (by decide), e3]
        · rw [zup_nk (by decide), e4]
        · rw [← hE]; exact (spE_y (by omega) (bL_t.mpr q27)).symm
theorem c_t_readLetters {h : zH}  (hT : TX h) (hs : 0 ≤ h 1 3 ∧ h 1 3 < h 1 1) (he : h 1 2 = h 1 3) : zC M_t_readLetters [vR 1] h (LX h (h 1 3) (spE (bL (tx h)) (h 1 1) (h 1 3))) := by
  refine zC.ofN 0 (by decide) (by first | decide | exact Nat.le_of_ble_eq_true rfl) ?_
  show Z M_t_readLetters _ 0 [vR 1] [] h
  have hL := hT.1
  refine z_aload_n D_t_readLetters_0 rfl ?_
  refine z_iconst D_t_readLetters_1 ?_
  refine z_putI fl_t_37 (rfl) rfl rfl D_t_readLetters_2 ?_
  exact l_t_readLetters hT hs (151 : Nat) (h 1 3) _ (by omega) (by omega) (by omega) (TK.rfl'.put (by omega)) (by rw [zup_nk (by decide), he]) (by rw [zup_nk (by decide)]) zup_same rfl

def DX (h : zH) (s e d : Int) : Option zV → zH → Prop := fun v h2 => v = none ∧ TK h h2 ∧ h2 1 2 = e ∧ h2 1 3 = s ∧ h2 1 5 = min d 100 ∧ h2 1 4 = if 99 < d ∨ (tx h s = 48 ∧ 1 < e - s) then 4 else 2
theorem l_t_readDigits {h : zH} {s e d : Int} (hT : TX h) (hs : 0 ≤ s ∧ s < h 1 1) : ∀ (k : Nat) (i v : Int) (h1 : zH), s ≤ i → i ≤ h 1 1 → h 1 1 - i < k → (0 ≤ v ∧ v ≤ 999) → TK h h1 → h1 1 2 = i → h1 1 3 = s → h1 1 5 = min v 100 → spE (bD (tx h)) (h 1 1) i = e → dvE (tx h) (h 1 1) i v = d → Z M_t_readDigits (DX h s e d) 0 [vR 1, vU] [] h1 := by
  have hL := hT.1
  intro k
  induction k with
  | zero => intro i v h1 h0 h2 h3; omega
  | succ k ih =>
    intro i v h1 h0 h2 h3 hv hK e2 e3 e5 hE hD
    have eL := hK.len
    have eT := hK.eT
    have hb := hT.2 i (by omega)
    have hbs := hT.2 s hs.1 hs.2
    have hmn : 0 ≤ min v 100 ∧ min v 100 ≤ 100 := by rw [Int.min_def]; split <;> omega
    refine z_aload_n D_t_readDigits_0 rfl ?_
    refine z_getI fl_t_24 (rfl) rfl D_t_readDigits_1 ?_
    refine z_aload_n D_t_readDigits_4 rfl ?_
    refine z_getI fl_t_15 (rfl) rfl D_t_readDigits_5 ?_
    refine z_icmp_ge (tgt := 66) D_t_readDigits_8 (by decide) (by omega) (by omega) (fun q8 => ?_) (fun q8 => ?_)
    · have e9 : e = i := by rw [← hE]; exact spE_n (fun z => absurd z.1 (by omega))
      have d9 : d = v := by rw [← hD]; exact dvE_n (fun z => absurd z.1 (by omega))
      refine z_aload_n D_t_readDigits_66 rfl ?_
      refine z_aload_n D_t_readDigits_67 rfl ?_
      refine z_getI fl_t_44 (rfl) rfl D_t_readDigits_68 ?_
      refine z_V1 (c0 := 9) (c_t_byteAt (by rw [eL]; exact hT.1) (by omega)) G_t_byteAt I_t_byteAt lk_t_95 (rfl) ⟨by decide, rfl⟩ ⟨Nat.le_of_ble_eq_true rfl, Nat.le_of_ble_eq_true rfl⟩ (Nat.le_of_ble_eq_true rfl) D_t_readDigits_71 ?_
      rw [bxy (by omega), eT, e3]
      refine z_bipush (by decide) D_t_readDigits_74 ?_
      refine z_icmp_ne (tgt := 96) D_t_readDigits_76 (by decide) (by omega) (by omega) (fun q76 => ?_) (fun q76 => ?_)
      · refine z_iconst D_t_readDigits_96 ?_
        refine z_istore_1 D_t_readDigits_97 (Nat.le_of_ble_eq_true rfl) rfl ?_
        refine z_aload_n D_t_readDigits_98 rfl ?_
        refine z_iload_n D_t_readDigits_99 rfl ?_
        refine z_if_ne (tgt := 112) D_t_readDigits_100 (by decide) (by decide) (fun q => absurd q (by decide)) (fun _ => ?_)
        refine z_aload_n D_t_readDigits_103 rfl ?_
        refine z_getI fl_t_47 (rfl) rfl D_t_readDigits_104 ?_
        rw [e5]
        have hmq : 99 < min v 100 ↔ 99 < v := by rw [Int.min_def]; split <;> omega
        refine z_bipush (by decide) D_t_readDigits_107 ?_
        refine z_icmp_le (tgt := 116) D_t_readDigits_109 (by decide) (by omega) (by omega) (fun q109 => ?_) (fun q109 => ?_)
        · refine z_iconst D_t_readDigits_116 ?_
          refine z_putI fl_t_37 (rfl) rfl rfl D_t_readDigits_117 ?_
          refine z_return rfl D_t_readDigits_120 ⟨rfl, hK.put (by omega), ?_, ?_, ?_, ?_⟩
          · rw [zup_nk (by decide), e2, e9]
          · rw [zup_nk (by decide), e3]
          · rw [zup_nk (by decide), e5, d9]
          · rw [zup_same, if_neg (by omega)]
        · refine z_iconst D_t_readDigits_112 ?_
          refine z_goto (tgt := 117) D_t_readDigits_113 (by decide) ?_
          refine z_putI fl_t_37 (rfl) rfl rfl D_t_readDigits_117 ?_
          refine z_return rfl D_t_readDigits_120 ⟨rfl, hK.put (by omega), ?_, ?_, ?_, ?_⟩
          · rw [zup_nk (by decide), e2, e9]
          · rw [zup_nk (by decide), e3]
          · rw [zup_nk (by decide), e5, d9]
          · rw [zup_same, if_pos (by omega)]
      · refine z_aload_n D_t_readDigits_79 rfl ?_
        refine z_getI fl_t_24 (rfl) rfl D_t_readDigits_80 ?_
        refine z_aload_n D_t_readDigits_83 rfl ?_
        refine z_getI fl_t_44 (rfl) rfl D_t_readDigits_84 ?_
        refine z_isub D_t_readDigits_87 ?_
        refine z_iconst D_t_readDigits_88 ?_
        refine z_icmp_le (tgt := 96) D_t_readDigits_89 (by decide) (by omega) (by omega) (fun q89 => ?_) (fun q89 => ?_)
        · refine z_iconst D_t_readDigits_96 ?_
          refine z_istore_1 D_t_readDigits_97 (Nat.le_of_ble_eq_true rfl) rfl ?_
          refine z_aload_n D_t_readDigits_98 rfl ?_
          refine z_iload_n D_t_readDigits_99 rfl ?_
          refine z_if_ne (tgt := 112) D_t_readDigits_100 (by decide) (by decide) (fun q => absurd q (by decide)) (fun _ => ?_)
          refine z_aload_n D_t_readDigits_103 rfl ?_
          refine z_getI fl_t_47 (rfl) rfl D_t_readDigits_104 ?_
          rw [e5]
          have hmq : 99 < min v 100 ↔ 99 < v := by rw [Int.min_def]; split <;> omega
          refine z_bipush (by decide) D_t_readDigits_107 ?_
          refine z_icmp_le (tgt := 116) D_t_readDigits_109 (by decide) (by omega) (by omega) (fun q109 => ?_) (fun q109 => ?_)
          · refine z_iconst D_t_readDigits_116 ?_
            refine z_putI fl_t_37 (rfl) rfl rfl D_t_readDigits_117 ?_
            refine z_return rfl D_t_readDigits_120 ⟨rfl, hK.put (by omega), ?_, ?_, ?_, ?_⟩
            · rw [zup_nk (by decide), e2, e9]
            · rw [zup_nk (by decide), e3]
            · rw [zup_nk (by decide), e5, d9]
            · rw [zup_same, if_neg (by omega)]
          · refine z_iconst D_t_readDigits_112 ?_
            refine z_goto (tgt := 117) D_t_readDigits_113 (by decide) ?_
            refine z_putI fl_t_37 (rfl) rfl rfl D_t_readDigits_117 ?_
            refine z_return rfl D_t_readDigits_120 ⟨rfl, hK.put (by omega), ?_, ?_, ?_, ?_⟩
            · rw [zup_nk (by decide), e2, e9]
            · rw [zup_nk (by decide), e3]
            · rw [zup_nk (by decide), e5, d9]
            · rw [zup_same, if_pos (by omega)]
        · refine z_iconst D_t_readDigits_92 ?_
          refine z_goto (tgt := 97) D_t_readDigits_93 (by decide) ?_
          refine z_istore_1 D_t_readDigits_97 (Nat.le_of_ble_eq_true rfl) rfl ?_
          refine z_aload_n D_t_readDigits_98 rfl ?_
          refine z_iload_n D_t_readDigits_99 rfl ?_
          refine z_if_ne (tgt := 112) D_t_readDigits_100 (by decide) (by decide) (fun _ => ?_) (fun q => absurd q (by decide))
          refine z_iconst D_t_readDigits_112 ?_
          refine z_goto (tgt := 117) D_t_readDigits_113 (by decide) ?_
          refine z_putI fl_t_37 (rfl) rfl rfl D_t_readDigits_117 ?_
          refine z_return rfl D_t_readDigits_120 ⟨rfl, hK.put (by omega), ?_, ?_, ?_, ?_⟩
          · rw [zup_nk (by decide), e2, e9]
          · rw [zup_nk (by decide), e3]
          · rw [zup_nk (by decide), e5, d9]
          · rw [zup_same, if_pos (by omega)]
    · refine z_aload_n D_t_readDigits_11 rfl ?_
      refine z_aload_n D_t_readDigits_12 rfl ?_
      refine z_getI fl_t_24 (rfl) rfl D_t_readDigits_13 ?_
      refine z_V1 (c0 := 9) (c_t_byteAt (by rw [eL]; exact hT.1) (by omega)) G_t_byteAt I_t_byteAt lk_t_95 (rfl) ⟨by decide, rfl⟩ ⟨Nat.le_of_ble_eq_true rfl, Nat.le_of_ble_eq_true rfl⟩ (Nat.le_of_ble_eq_true rfl) D_t_readDigits_16 ?_
      rw [bxy (by omega), eT, e2]
      have hb := hb (by omega)
      refine z_S1 (c_t_isDigit (by omega)) G_t_isDigit S_t_isDigit lk_t_105 ⟨Nat.le_of_ble_eq_true rfl, Nat.le_of_ble_eq_true rfl⟩ (Nat.le_of_ble_eq_true rfl) D_t_readDigits_19 ?_
      refine z_ifeqB (tgt := 66) D_t_readDigits_22 (by decide) (fun q22 => ?_) (fun q22 => ?_)
      · have e9 : e = i := by rw [← hE]; exact spE_n (fun z => q22 (bD_t.mp z.2))
        have d9 : d = v := by rw [← hD]; exact dvE_n (fun z => q22 z.2)
        refine z_aload_n D_t_readDigits_66 rfl ?_
        refine z_aload_n D_t_readDigits_67 rfl ?_
        refine z_getI fl_t_44 (rfl) rfl D_t_readDigits_68 ?_
        refine z_V1 (c0 := 9) (c_t_byteAt (by rw [eL]; exact hT.1) (by omega)) G_t_byteAt I_t_byteAt lk_t_95 (rfl) ⟨by decide, rfl⟩ ⟨Nat.le_of_ble_eq_true rfl, Nat.le_of_ble_eq_true rfl⟩ (Nat.le_of_ble_eq_true rfl) D_t_readDigits_71 ?_
        rw [bxy (by omega), eT, e3]
        refine z_bipush (by decide) D_t_readDigits_74 ?_
        refine z_icmp_ne (tgt := 96) D_t_readDigits_76 (by decide) (by omega) (by omega) (fun q76 => ?_) (fun q76 => ?_)
        · refine z_iconst D_t_readDigits_96 ?_
          refine z_istore_1 D_t_readDigits_97 (Nat.le_of_ble_eq_true rfl) rfl ?_
          refine z_aload_n D_t_readDigits_98 rfl ?_
          refine z_iload_n D_t_readDigits_99 rfl ?_
          refine z_if_ne (tgt := 112) D_t_readDigits_100 (by decide) (by decide) (fun q => absurd q (by decide)) (fun _ => ?_)
          refine z_aload_n D_t_readDigits_103 rfl ?_
          refine z_getI fl_t_47 (rfl) rfl D_t_readDigits_104 ?_
          rw [e5]
          have hmq : 99 < min v 100 ↔ 99 < v := by rw [Int.min_def]; split <;> omega
          refine z_bipush (by decide) D_t_readDigits_107 ?_
          refine z_icmp_le (tgt := 116) D_t_readDigits_109 (by decide) (by omega) (by omega) (fun q109 => ?_) (fun q109 => ?_)
          · refine z_iconst D_t_readDigits_116 ?_
            refine z_putI fl_t_37 (rfl) rfl rfl D_t_readDigits_117 ?_
            refine z_return rfl D_t_readDigits_120 ⟨rfl, hK.put (by omega), ?_, ?_, ?_, ?_⟩
            · rw [zup_nk (by decide), e2, e9]
            · rw [zup_nk (by decide), e3]
            · rw [zup_nk (by decide), e5, d9]
            · rw [zup_same, if_neg (by omega)]
          · refine z_iconst D_t_readDigits_112 ?_
            refine z_goto (tgt := 117) D_t_readDigits_113 (by decide) ?_
            refine z_putI fl_t_37 (rfl) rfl rfl D_t_readDigits_117 ?_
            refine z_return rfl D_t_readDigits_120 ⟨rfl, hK.put (by omega), ?_, ?_, ?_, ?_⟩
            · rw [zup_nk (by decide), e2, e9]
            · rw [zup_nk (by decide), e3]
            · rw [zup_nk (by decide), e5, d9]
            · rw [zup_same, if_pos (by omega)]
        · refine z_aload_n D_t_readDigits_79 rfl ?_
          refine z_getI fl_t_24 (rfl) rfl D_t_readDigits_80 ?_
          refine z_aload_n D_t_readDigits_83 rfl ?_
          refine z_getI fl_t_44 (rfl) rfl D_t_readDigits_84 ?_
          refine z_isub D_t_readDigits_87 ?_
          refine z_iconst D_t_readDigits_88 ?_
          refine z_icmp_le (tgt := 96) D_t_readDigits_89 (by decide) (by omega) (by omega) (fun q89 => ?_) (fun q89 => ?_)
          · refine z_iconst D_t_readDigits_96 ?_
            refine z_istore_1 D_t_readDigits_97 (Nat.le_of_ble_eq_true rfl) rfl ?_
            refine z_aload_n D_t_readDigits_98 rfl ?_
            refine z_iload_n D_t_readDigits_99 rfl ?_
            refine z_if_ne (tgt := 112) D_t_readDigits_100 (by decide) (by decide) (fun q => absurd q (by decide)) (fun _ => ?_)
            refine z_aload_n D_t_readDigits_103 rfl ?_
            refine z_getI fl_t_47 (rfl) rfl D_t_readDigits_104 ?_
            rw [e5]
            have hmq : 99 < min v 100 ↔ 99 < v := by rw [Int.min_def]; split <;> omega
            refine z_bipush (by decide) D_t_readDigits_107 ?_
            refine z_icmp_le (tgt := 116) D_t_readDigits_109 (by decide) (by omega) (by omega) (fun q109 => ?_) (fun q109 => ?_)
            · refine z_iconst D_t_readDigits_116 ?_
              refine z_putI fl_t_37 (rfl) rfl rfl D_t_readDigits_117 ?_
              refine z_return rfl D_t_readDigits_120 ⟨rfl, hK.put (by omega), ?_, ?_, ?_, ?_⟩
              · rw [zup_nk (by decide), e2, e9]
              · rw [zup_nk (by decide), e3]
              · rw [zup_nk (by decide), e5, d9]
              · rw [zup_same, if_neg (by omega)]
            · refine z_iconst D_t_readDigits_112 ?_
              refine z_goto (tgt := 117) D_t_readDigits_113 (by decide) ?_
              refine z_putI fl_t_37 (rfl) rfl rfl D_t_readDigits_117 ?_
              refine z_return rfl D_t_readDigits_120 ⟨rfl, hK.put (by omega), ?_, ?_, ?_, ?_⟩
              · rw [zup_nk (by decide), e2, e9]
              · rw [zup_nk (by decide), e3]
              · rw [zup_nk (by decide), e5, d9]
              · rw [zup_same, if_pos (by omega)]
          · refine z_iconst D_t_readDigits_92 ?_
            refine z_goto (tgt := 97) D_t_readDigits_93 (by decide) ?_
            refine z_istore_1 D_t_readDigits_97 (Nat.le_of_ble_eq_true rfl) rfl ?_
            refine z_aload_n D_t_readDigits_98 rfl ?_
            refine z_iload_n D_t_readDigits_99 rfl ?_
            refine z_if_ne (tgt := 112) D_t_readDigits_100 (by decide) (by decide) (fun _ => ?_) (fun q => absurd q (by decide))
            refine z_iconst D_t_readDigits_112 ?_
            refine z_goto (tgt := 117) D_t_readDigits_113 (by decide) ?_
            refine z_putI fl_t_37 (rfl) rfl rfl D_t_readDigits_117 ?_
            refine z_return rfl D_t_readDigits_120 ⟨rfl, hK.put (by omega), ?_, ?_, ?_, ?_⟩
            · rw [zup_nk (by decide), e2, e9]
            · rw [zup_nk (by decide), e3]
            · rw [zup_nk (by decide), e5, d9]
            · rw [zup_same, if_pos (by omega)]
      · refine z_aload_n D_t_readDigits_25 rfl ?_
        refine z_aload_n D_t_readDigits_26 rfl ?_
        refine z_getI fl_t_47 (rfl) rfl D_t_readDigits_27 ?_
        rw [e5]
        refine z_bipush (by decide) D_t_readDigits_30 ?_
        refine z_imul D_t_readDigits_32 ?_
        refine z_aload_n D_t_readDigits_33 rfl ?_
        refine z_aload_n D_t_readDigits_34 rfl ?_
        refine z_getI fl_t_24 (rfl) rfl D_t_readDigits_35 ?_
        refine z_V1 (c0 := 9) (c_t_byteAt (by rw [eL]; exact hT.1) (by omega)) G_t_byteAt I_t_byteAt lk_t_95 (rfl) ⟨by decide, rfl⟩ ⟨Nat.le_of_ble_eq_true rfl, Nat.le_of_ble_eq_true rfl⟩ (Nat.le_of_ble_eq_true rfl) D_t_readDigits_38 ?_
        rw [bxy (by omega), eT, e2]
        refine z_iadd D_t_readDigits_41 ?_
        refine z_bipush (by decide) D_t_readDigits_42 ?_
        refine z_isub D_t_readDigits_44 ?_
        refine z_bipush (by decide) D_t_readDigits_45 ?_
        refine z_S2 (c_j_min (by omega) (by omega)) G_j_min S_j_min lk_t_111 ⟨Nat.le_of_ble_eq_true rfl, Nat.le_of_ble_eq_true rfl⟩ (Nat.le_of_ble_eq_true rfl) D_t_readDigits_47 ?_
        refine z_putI fl_t_47 (rfl) rfl rfl D_t_readDigits_50 ?_
        refine z_aload_n D_t_readDigits_53 rfl ?_
        refine z_dup rfl D_t_readDigits_54 ?_
        refine z_getI fl_t_24 (rfl) rfl D_t_readDigits_55 ?_
        refine z_iconst D_t_readDigits_58 ?_
        refine z_iadd D_t_readDigits_59 ?_
        refine z_putI fl_t_24 (rfl) rfl rfl D_t_readDigits_60 ?_
        refine z_goto (tgt := 0) D_t_readDigits_63 (by decide) ?_
        refine ih (i + 1) (if 99 < v then v else 10 * v + tx h i - 48) _ (by omega) (by omega) (by omega) (by split <;> omega) ((hK.put (by omega)).put (by omega)) ?_ ?_ ?_ ?_ ?_
        · rw [zup_same, zup_nk (by decide), e2]
        · rw [zup_nk (by decide), zup_nk (by decide), e3]
        · rw [zup_nk (by decide), zup_same]
          simp only [Int.min_def]
          repeat (first | omega | split)
        · rw [← hE]; exact (spE_y (by omega) (bD_t.mpr q22)).symm
        · rw [← hD]; exact (dvE_y (by omega) q22).symm
theorem c_t_readDigits {h : zH}  (hT : TX h) (hs : 0 ≤ h 1 3 ∧ h 1 3 < h 1 1) (he : h 1 2 = h 1 3) (h5 : h 1 5 = 0) : zC M_t_readDigits [vR 1] h (DX h (h 1 3) (spE (bD (tx h)) (h 1 1) (h 1 3)) (dvE (tx h) (h 1 1) (h 1 3) 0)) := by
  refine zC.ofN 1 (by decide) (by first | decide | exact Nat.le_of_ble_eq_true rfl) ?_
  show Z M_t_readDigits _ 0 [vR 1, vU] [] h
  have hL := hT.1
  exact l_t_readDigits hT hs (151 : Nat) (h 1 3) 0 _ (by omega) (by omega) (by omega) (by omega) TK.rfl' he rfl (by rw [h5]; rfl) rfl rfl

def RX (h h1 : zH) (T : Int → Int) (L c : Int) : Prop := TK h h1 ∧ h1 1 2 = tkN T L c ∧ h1 1 3 = tkS T L c ∧ h1 1 4 = tkT T L c ∧ (tkT T L c = 1 ∨ tkT T L c = 2 → h1 1 5 = tkV T L c) ∧ 0 ≤ h1 1 5 ∧ h1 1 5 ≤ 255
theorem l_t_readToken {h : zH} {c : Int} (hT : TX h) (hc : 0 ≤ c ∧ c ≤ h 1 1) : ∀ (k : Nat) (i : Int) (h1 : zH), c ≤ i → i ≤ h 1 1 → h 1 1 - i < k → TK h h1 → h1 1 2 = i → spE (bS (tx h)) (h 1 1) i = tkS (tx h) (h 1 1) c → Z M_t_readToken (fun v h2 => v = none ∧ RX h h2 (tx h) (h 1 1) c) 0 [vR 1, vU] [] h1 := by
  have hL := hT.1
  intro k
  induction k with
  | zero => intro i h1 h0 h2 h3; omega
  | succ k ih =>
    intro i h1 h0 h2 h3 hK e2 hE
    have eL := hK.len
    have eT := hK.eT
    have hb := hT.2 i (by omega)
    refine z_aload_n D_t_readToken_0 rfl ?_
    refine z_getI fl_t_24 (rfl) rfl D_t_readToken_1 ?_
    refine z_aload_n D_t_readToken_4 rfl ?_
    refine z_getI fl_t_15 (rfl) rfl D_t_readToken_5 ?_
    refine z_icmp_ge (tgt := 37) D_t_readToken_8 (by decide) (by omega) (by omega) (fun q8 => ?_) (fun q8 => ?_)
    · have e9 : tkS (tx h) (h 1 1) c = i := by rw [← hE]; exact spE_n (fun z => absurd z.1 (by omega))
      refine z_aload_n D_t_readToken_37 rfl ?_
      refine z_aload_n D_t_readToken_38 rfl ?_
      refine z_getI fl_t_24 (rfl) rfl D_t_readToken_39 ?_
      refine z_putI fl_t_44 (rfl) rfl rfl D_t_readToken_42 ?_
      refine z_aload_n D_t_readToken_45 rfl ?_
      refine z_iconst D_t_readToken_46 ?_
      refine z_putI fl_t_47 (rfl) rfl rfl D_t_readToken_47 ?_
      have hK5 : TK h (zup (zup h1 1 3 (h1 1 2)) 1 5 0) := (hK.put (by omega)).put (by omega)
      have a1 : (zup (zup h1 1 3 (h1 1 2)) 1 5 0) 1 1 = h 1 1 := hK5.len
      have a2 : (zup (zup h1 1 3 (h1 1 2)) 1 5 0) 1 2 = i := by rw [zup_nk (by decide), zup_nk (by decide), e2]
      have a3 : (zup (zup h1 1 3 (h1 1 2)) 1 5 0) 1 3 = i := by rw [zup_nk (by decide), zup_same, e2]
      have a5 : (zup (zup h1 1 3 (h1 1 2)) 1 5 0) 1 5 = 0 := zup_same
      generalize (zup (zup h1 1 3 (h1 1 2)) 1 5 0) = h5 at hK5 a1 a2 a3 a5 ⊢
      have eT5 := hK5.eT
      refine z_aload_n D_t_readToken_50 rfl ?_
      refine z_aload_n D_t_readToken_51 rfl ?_
      refine z_getI fl_t_44 (rfl) rfl D_t_readToken_52 ?_
      refine z_V1 (c0 := 9) (c_t_byteAt (by rw [a1]; exact hT.1) (by omega)) G_t_byteAt I_t_byteAt lk_t_95 (rfl) ⟨by decide, rfl⟩ ⟨Nat.le_of_ble_eq_true rfl, Nat.le_of_ble_eq_true rfl⟩ (Nat.le_of_ble_eq_true rfl) D_t_readToken_55 ?_
      have hy : (if h5 1 3 < h5 1 1 then tx h5 (h5 1 3) else 0) = if i < h 1 1 then tx h i else 0 := by rw [a1, a3, eT5]
      rw [hy]
      refine z_istore_1 D_t_readToken_58 (Nat.le_of_ble_eq_true rfl) rfl ?_
      refine z_aload_n D_t_readToken_59 rfl ?_
      refine z_getI fl_t_44 (rfl) rfl D_t_readToken_60 ?_
      refine z_aload_n D_t_readToken_63 rfl ?_
      refine z_getI fl_t_15 (rfl) rfl D_t_readToken_64 ?_
      refine z_icmp_lt (tgt := 78) D_t_readToken_67 (by decide) (by omega) (by omega) (fun q67 => ?_) (fun q67 => ?_)
      · have q67 : i < h 1 1 := by omega
        rw [if_pos q67]
        have hb := hT.2 i (by omega) q67
        refine z_iload_n D_t_readToken_78 rfl ?_
        refine z_S1 (c_t_isLetter (by omega)) G_t_isLetter S_t_isLetter lk_t_99 ⟨Nat.le_of_ble_eq_true rfl, Nat.le_of_ble_eq_true rfl⟩ (Nat.le_of_ble_eq_true rfl) D_t_readToken_79 ?_
        refine z_ifeqB (tgt := 92) D_t_readToken_82 (by decide) (fun q82 => ?_) (fun q82 => ?_)
        · refine z_iload_n D_t_readToken_92 rfl ?_
          refine z_S1 (c_t_isDigit (by omega)) G_t_isDigit S_t_isDigit lk_t_105 ⟨Nat.le_of_ble_eq_true rfl, Nat.le_of_ble_eq_true rfl⟩ (Nat.le_of_ble_eq_true rfl) D_t_readToken_93 ?_
          refine z_ifeqB (tgt := 106) D_t_readToken_96 (by decide) (fun q96 => ?_) (fun q96 => ?_)
          · refine z_aload_n D_t_readToken_106 rfl ?_
            refine z_iload_n D_t_readToken_107 rfl ?_
            refine z_bipush (by decide) D_t_readToken_108 ?_
            refine z_icmp_ne (tgt := 117) D_t_readToken_110 (by decide) (by omega) (by omega) (fun q110 => ?_) (fun q110 => ?_)
            · refine z_iconst D_t_readToken_117 ?_
              refine z_putI fl_t_37 (rfl) rfl rfl D_t_readToken_118 ?_
              refine z_aload_n D_t_readToken_121 rfl ?_
              refine z_dup rfl D_t_readToken_122 ?_
              refine z_getI fl_t_24 (rfl) rfl D_t_readToken_123 ?_
              refine z_iconst D_t_readToken_126 ?_
              refine z_iadd D_t_readToken_127 ?_
              refine z_putI fl_t_24 (rfl) rfl rfl D_t_readToken_128 ?_
              have t9 : tkT (tx h) (h 1 1) c = 4 := by unfold tkT; rw [e9, if_pos q67, if_neg q96, if_neg q82, if_neg q110]
              refine z_return rfl D_t_readToken_131 ⟨rfl, (hK5.put (by omega)).put (by omega), ?_, ?_, ?_, ?_, ?_⟩
              · unfold tkN; rw [zup_same, zup_nk (by decide), e9, if_pos q67, if_neg q96, if_neg q82, a2]
              · rw [zup_nk (by decide), zup_nk (by decide), e9]; exact a3
              · rw [zup_nk (by decide), zup_same, t9]
              · intro z; rw [t9] at z; omega
              · rw [zup_nk (by decide), zup_nk (by decide), a5]; omega
            · refine z_iconst D_t_readToken_113 ?_
              refine z_goto (tgt := 118) D_t_readToken_114 (by decide) ?_
              refine z_putI fl_t_37 (rfl) rfl rfl D_t_readToken_118 ?_
              refine z_aload_n D_t_readToken_121 rfl ?_
              refine z_dup rfl D_t_readToken_122 ?_
              refine z_getI fl_t_24 (rfl) rfl D_t_readToken_123 ?_
              refine z_iconst D_t_readToken_126 ?_
              refine z_iadd D_t_readToken_127 ?_
              refine z_putI fl_t_24 (rfl) rfl rfl D_t_readToken_128 ?_
              have t9 : tkT (tx h) (h 1 1) c = 3 := by unfold tkT; rw [e9, if_pos q67, if_neg q96, if_neg q82, if_pos q110]
              refine z_return rfl D_t_readToken_131 ⟨rfl, (hK5.put (by omega)).put (by omega), ?_, ?_, ?_, ?_, ?_⟩
              · unfold tkN; rw [zup_same, zup_nk (by decide), e9, if_pos q67, if_neg q96, if_neg q82, a2]
              · rw [zup_nk (by decide), zup_nk (by decide), e9]; exact a3
              · rw [zup_nk (by decide), zup_same, t9]
              · intro z; rw [t9] at z; omega
              · rw [zup_nk (by decide), zup_nk (by decide), a5]; omega
          · refine z_aload_n D_t_readToken_99 rfl ?_
            refine z_V0q (c0 := 9) (c_t_readDigits (hK5.ok hT) (by omega) (by omega) a5) G_t_readDigits I_t_readDigits lk_t_108 (rfl) ⟨by decide, rfl⟩ ⟨Nat.le_of_ble_eq_true rfl, Nat.le_of_ble_eq_true rfl⟩ (Nat.le_of_ble_eq_true rfl) D_t_readToken_100 (fun v9 h9 hp9 => ?_)
            obtain ⟨rfl, b0, b1, b2, b3, b4⟩ := hp9
            show Z _ _ _ _ [] _
            rw [eT5, a1, a3] at b1
            rw [a3] at b2
            rw [eT5, a1, a3] at b3 b4
            refine z_goto (tgt := 131) D_t_readToken_103 (by decide) ?_
            have hdd : 0 ≤ dvE (tx h) (h 1 1) i 0 ∧ dvE (tx h) (h 1 1) i 0 ≤ 999 := dvn_in (tx h) (h 1 1 - i).toNat i 0 (by omega) (by omega)
            refine z_return rfl D_t_readToken_131 ⟨rfl, hK5.trans b0, ?_, ?_, ?_, ?_, ?_⟩
            · unfold tkN; rw [e9, if_pos q67, if_pos q96]; exact b1
            · rw [e9]; exact b2
            · unfold tkT; rw [e9, if_pos q67, if_pos q96]; exact b4
            · intro z
              unfold tkV
              unfold tkT at z
              rw [e9, if_pos q67, if_pos q96] at z
              rw [e9, if_pos q96, b3, Int.min_def]
              by_cases hz : 99 < dvE (tx h) (h 1 1) i 0
              · rw [if_pos (Or.inl hz)] at z; omega
              · rw [if_pos (by omega)]
            · rw [b3, Int.min_def]; split <;> omega
        · refine z_aload_n D_t_readToken_85 rfl ?_
          refine z_V0q (c0 := 9) (c_t_readLetters (hK5.ok hT) (by omega) (by omega)) G_t_readLetters I_t_readLetters lk_t_102 (rfl) ⟨by decide, rfl⟩ ⟨Nat.le_of_ble_eq_true rfl, Nat.le_of_ble_eq_true rfl⟩ (Nat.le_of_ble_eq_true rfl) D_t_readToken_86 (fun v9 h9 hp9 => ?_)
          obtain ⟨rfl, b0, b1, b2, b3, b4⟩ := hp9
          show Z _ _ _ _ [] _
          rw [eT5, a1, a3] at b1
          rw [a3] at b2
          rw [eT5, a3] at b4
          refine z_goto (tgt := 131) D_t_readToken_89 (by decide) ?_
          have hsp : spE (bL (tx h)) (h 1 1) i - i = 1 ∨ ¬ spE (bL (tx h)) (h 1 1) i - i = 1 := Classical.em _
          refine z_return rfl D_t_readToken_131 ⟨rfl, hK5.trans b0, ?_, ?_, ?_, ?_, ?_⟩
          · unfold tkN; rw [e9, if_pos q67, if_neg (by omega), if_pos q82]; exact b1
          · rw [e9]; exact b2
          · unfold tkT; rw [e9, if_pos q67, if_neg (by omega), if_pos q82]; exact b3
          · intro z; unfold tkV; rw [e9, if_neg (by omega)]; rw [a1] at b4; exact b4
          · rw [b4]; split <;> omega
      · refine z_aload_n D_t_readToken_70 rfl ?_
        refine z_iconst D_t_readToken_71 ?_
        refine z_putI fl_t_37 (rfl) rfl rfl D_t_readToken_72 ?_
        refine z_goto (tgt := 131) D_t_readToken_75 (by decide) ?_
        refine z_return rfl D_t_readToken_131 ⟨rfl, hK5.put (by omega), ?_, ?_, ?_, ?_, ?_⟩
        · unfold tkN; rw [zup_nk (by decide), e9, if_neg (by omega)]; exact a2
        · rw [zup_nk (by decide), e9]; exact a3
        · unfold tkT; rw [zup_same, e9, if_neg (by omega)]
        · intro z; unfold tkT at z; rw [e9, if_neg (by omega)] at z; omega
        · rw [zup_nk (by decide), a5]; omega
    · refine z_aload_n D_t_readToken_11 rfl ?_
      refine z_aload_n D_t_readToken_12 rfl ?_
      refine z_getI fl_t_24 (rfl) rfl D_t_readToken_13 ?_
      refine z_V1 (c0 := 9) (c_t_byteAt (by rw [eL]; exact hT.1) (by omega)) G_t_byteAt I_t_byteAt lk_t_95 (rfl) ⟨by decide, rfl⟩ ⟨Nat.le_of_ble_eq_true rfl, Nat.le_of_ble_eq_true rfl⟩ (Nat.le_of_ble_eq_true rfl) D_t_readToken_16 ?_
      rw [bxy (by omega), eT, e2]
      have hb := hb (by omega)
      refine z_bipush (by decide) D_t_readToken_19 ?_
      refine z_icmp_ne (tgt := 37) D_t_readToken_21 (by decide) (by omega) (by omega) (fun q21 => ?_) (fun q21 => ?_)
      · have e9 : tkS (tx h) (h 1 1) c = i := by rw [← hE]; exact spE_n (fun z => q21 (bS_t.mp z.2))
        refine z_aload_n D_t_readToken_37 rfl ?_
        refine z_aload_n D_t_readToken_38 rfl ?_
        refine z_getI fl_t_24 (rfl) rfl D_t_readToken_39 ?_
        refine z_putI fl_t_44 (rfl) rfl rfl D_t_readToken_42 ?_
        refine z_aload_n D_t_readToken_45 rfl ?_
        refine z_iconst D_t_readToken_46 ?_
        refine z_putI fl_t_47 (rfl) rfl rfl D_t_readToken_47 ?_
        have hK5 : TK h (zup (zup h1 1 3 (h1 1 2)) 1 5 0) := (hK.put (by omega)).put (by omega)
        have a1 : (zup (zup h1 1 3 (h1 1 2)) 1 5 0) 1 1 = h 1 1 := hK5.len
        have a2 : (zup (zup h1 1 3 (h1 1 2)) 1 5 0) 1 2 = i := by rw [zup_nk (by decide), zup_nk (by decide), e2]
        have a3 : (zup (zup h1 1 3 (h1 1 2)) 1 5 0) 1 3 = i := by rw [zup_nk (by decide), zup_same, e2]
        have a5 : (zup (zup h1 1 3 (h1 1 2)) 1 5 0) 1 5 = 0 := zup_same
        generalize (zup (zup h1 1 3 (h1 1 2)) 1 5 0) = h5 at hK5 a1 a2 a3 a5 ⊢
        have eT5 := hK5.eT
        refine z_aload_n D_t_readToken_50 rfl ?_
        refine z_aload_n D_t_readToken_51 rfl ?_
        refine z_getI fl_t_44 (rfl) rfl D_t_readToken_52 ?_
        refine z_V1 (c0 := 9) (c_t_byteAt (by rw [a1]; exact hT.1) (by omega)) G_t_byteAt I_t_byteAt lk_t_95 (rfl) ⟨by decide, rfl⟩ ⟨Nat.le_of_ble_eq_true rfl, Nat.le_of_ble_eq_true rfl⟩ (Nat.le_of_ble_eq_true rfl) D_t_readToken_55 ?_
        have hy : (if h5 1 3 < h5 1 1 then tx h5 (h5 1 3) else 0) = if i < h 1 1 then tx h i else 0 := by rw [a1, a3, eT5]
        rw [hy]
        refine z_istore_1 D_t_readToken_58 (Nat.le_of_ble_eq_true rfl) rfl ?_
        refine z_aload_n D_t_readToken_59 rfl ?_
        refine z_getI fl_t_44 (rfl) rfl D_t_readToken_60 ?_
        refine z_aload_n D_t_readToken_63 rfl ?_
        refine z_getI fl_t_15 (rfl) rfl D_t_readToken_64 ?_
        refine z_icmp_lt (tgt := 78) D_t_readToken_67 (by decide) (by omega) (by omega) (fun q67 => ?_) (fun q67 => ?_)
        · have q67 : i < h 1 1 := by omega
          rw [if_pos q67]
          have hb := hT.2 i (by omega) q67
          refine z_iload_n D_t_readToken_78 rfl ?_
          refine z_S1 (c_t_isLetter (by omega)) G_t_isLetter S_t_isLetter lk_t_99 ⟨Nat.le_of_ble_eq_true rfl, Nat.le_of_ble_eq_true rfl⟩ (Nat.le_of_ble_eq_true rfl) D_t_readToken_79 ?_
          refine z_ifeqB (tgt := 92) D_t_readToken_82 (by decide) (fun q82 => ?_) (fun q82 => ?_)
          · refine z_iload_n D_t_readToken_92 rfl ?_
            refine z_S1 (c_t_isDigit (by omega)) G_t_isDigit S_t_isDigit lk_t_105 ⟨Nat.le_of_ble_eq_true rfl, Nat.le_of_ble_eq_true rfl⟩ (Nat.le_of_ble_eq_true rfl) D_t_readToken_93 ?_
            refine z_ifeqB (tgt := 106) D_t_readToken_96 (by decide) (fun q96 => ?_) (fun q96 => ?_)
            · refine z_aload_n D_t_readToken_106 rfl ?_
              refine z_iload_n D_t_readToken_107 rfl ?_
              refine z_bipush (by decide) D_t_readToken_108 ?_
              refine z_icmp_ne (tgt := 117) D_t_readToken_110 (by decide) (by omega) (by omega) (fun q110 => ?_) (fun q110 => ?_)
              · refine z_iconst D_t_readToken_117 ?_
                refine z_putI fl_t_37 (rfl) rfl rfl D_t_readToken_118 ?_
                refine z_aload_n D_t_readToken_121 rfl ?_
                refine z_dup rfl D_t_readToken_122 ?_
                refine z_getI fl_t_24 (rfl) rfl D_t_readToken_123 ?_
                refine z_iconst D_t_readToken_126 ?_
                refine z_iadd D_t_readToken_127 ?_
                refine z_putI fl_t_24 (rfl) rfl rfl D_t_readToken_128 ?_
                have t9 : tkT (tx h) (h 1 1) c = 4 := by unfold tkT; rw [e9, if_pos q67, if_neg q96, if_neg q82, if_neg q110]
                refine z_return rfl D_t_readToken_131 ⟨rfl, (hK5.put (by omega)).put (by omega), ?_, ?_, ?_, ?_, ?_⟩
                · unfold tkN; rw [zup_same, zup_nk (by decide), e9, if_pos q67, if_neg q96, if_neg q82, a2]
                · rw [zup_nk (by decide), zup_nk (by decide), e9]; exact a3
                · rw [zup_nk (by decide), zup_same, t9]
                · intro z; rw [t9] at z; omega
                · rw [zup_nk (by decide), zup_nk (by decide), a5]; omega
              · refine z_iconst D_t_readToken_113 ?_
                refine z_goto (tgt := 118) D_t_readToken_114 (by decide) ?_
                refine z_putI fl_t_37 (rfl) rfl rfl D_t_readToken_118 ?_
                refine z_aload_n D_t_readToken_121 rfl ?_
                refine z_dup rfl D_t_readToken_122 ?_
                refine z_getI fl_t_24 (rfl) rfl D_t_readToken_123 ?_
                refine z_iconst D_t_readToken_126 ?_
                refine z_iadd D_t_readToken_127 ?_
                refine z_putI fl_t_24 (rfl) rfl rfl D_t_readToken_128 ?_
                have t9 : tkT (tx h) (h 1 1) c = 3 := by unfold tkT; rw [e9, if_pos q67, if_neg q96, if_neg q82, if_pos q110]
                refine z_return rfl D_t_readToken_131 ⟨rfl, (hK5.put (by omega)).put (by omega), ?_, ?_, ?_, ?_, ?_⟩
                · unfold tkN; rw [zup_same, zup_nk (by decide), e9, if_pos q67, if_neg q96, if_neg q82, a2]
                · rw [zup_nk (by decide), zup_nk (by decide), e9]; exact a3
                · rw [zup_nk (by decide), zup_same, t9]
                · intro z; rw [t9] at z; omega
                · rw [zup_nk (by decide), zup_nk (by decide), a5]; omega
            · refine z_aload_n D_t_readToken_99 rfl ?_
              refine z_V0q (c0 := 9) (c_t_readDigits (hK5.ok hT) (by omega) (by omega) a5) G_t_readDigits I_t_readDigits lk_t_108 (rfl) ⟨by decide, rfl⟩ ⟨Nat.le_of_ble_eq_true rfl, Nat.le_of_ble_eq_true rfl⟩ (Nat.le_of_ble_eq_true rfl) D_t_readToken_100 (fun v9 h9 hp9 => ?_)
              obtain ⟨rfl, b0, b1, b2, b3, b4⟩ := hp9
              show Z _ _ _ _ [] _
              rw [eT5, a1, a3] at b1
              rw [a3] at b2
              rw [eT5, a1, a3] at b3 b4
              refine z_goto (tgt := 131) D_t_readToken_103 (by decide) ?_
              have hdd : 0 ≤ dvE (tx h) (h 1 1) i 0 ∧ dvE (tx h) (h 1 1) i 0 ≤ 999 := dvn_in (tx h) (h 1 1 - i).toNat i 0 (by omega) (by omega)
              refine z_return rfl D_t_readToken_131 ⟨rfl, hK5.trans b0, ?_, ?_, ?_, ?_, ?_⟩
              · unfold tkN; rw [e9, if_pos q67, if_pos q96]; exact b1
              · rw [e9]; exact b2
              · unfold tkT; rw [e9, if_pos q67, if_pos q96]; exact b4
              · intro z
                unfold tkV
                unfold tkT at z
                rw [e9, if_pos q67, if_pos q96] at z
                rw [e9, if_pos q96, b3, Int.min_def]
                by_cases hz : 99 < dvE (tx h) (h 1 1) i 0
                · rw [if_pos (Or.inl hz)] at z; omega
                · rw [if_pos (by omega)]
              · rw [b3, Int.min_def]; split <;> omega
          · refine z_aload_n D_t_readToken_85 rfl ?_
            refine z_V0q (c0 := 9) (c_t_readLetters (hK5.ok hT) (by omega) (by omega)) G_t_readLetters I_t_readLetters lk_t_102 (rfl) ⟨by decide, rfl⟩ ⟨Nat.le_of_ble_eq_true rfl, Nat.le_of_ble_eq_true rfl⟩ (Nat.le_of_ble_eq_true rfl) D_t_readToken_86 (fun v9 h9 hp9 => ?_)
            obtain ⟨rfl, b0, b1, b2, b3, b4⟩ := hp9
            show Z _ _ _ _ [] _
            rw [eT5, a1, a3] at b1
            rw [a3] at b2
            rw [eT5, a3] at b4
            refine z_goto (tgt := 131) D_t_readToken_89 (by decide) ?_
            have hsp : spE (bL (tx h)) (h 1 1) i - i = 1 ∨ ¬ spE (bL (tx h)) (h 1 1) i - i = 1 := Classical.em _
            refine z_return rfl D_t_readToken_131 ⟨rfl, hK5.trans b0, ?_, ?_, ?_, ?_, ?_⟩
            · unfold tkN; rw [e9, if_pos q67, if_neg (by omega), if_pos q82]; exact b1
            · rw [e9]; exact b2
            · unfold tkT; rw [e9, if_pos q67, if_neg (by omega), if_pos q82]; exact b3
            · intro z; unfold tkV; rw [e9, if_neg (by omega)]; rw [a1] at b4; exact b4
            · rw [b4]; split <;> omega
        · refine z_aload_n D_t_readToken_70 rfl ?_
          refine z_iconst D_t_readToken_71 ?_
          refine z_putI fl_t_37 (rfl) rfl rfl D_t_readToken_72 ?_
          refine z_goto (tgt := 131) D_t_readToken_75 (by decide) ?_
          refine z_return rfl D_t_readToken_131 ⟨rfl, hK5.put (by omega), ?_, ?_, ?_, ?_, ?_⟩
          · unfold tkN; rw [zup_nk (by decide), e9, if_neg (by omega)]; exact a2
          · rw [zup_nk (by decide), e9]; exact a3
          · unfold tkT; rw [zup_same, e9, if_neg (by omega)]
          · intro z; unfold tkT at z; rw [e9, if_neg (by omega)] at z; omega
          · rw [zup_nk (by decide), a5]; omega
      · refine z_aload_n D_t_readToken_24 rfl ?_
        refine z_dup rfl D_t_readToken_25 ?_
        refine z_getI fl_t_24 (rfl) rfl D_t_readToken_26 ?_
        refine z_iconst D_t_readToken_29 ?_
        refine z_iadd D_t_readToken_30 ?_
        refine z_putI fl_t_24 (rfl) rfl rfl D_t_readToken_31 ?_
        refine z_goto (tgt := 0) D_t_readToken_34 (by decide) ?_
        refine ih (i + 1) _ (by omega) (by omega) (by omega) (hK.put (by omega)) (by rw [zup_same, e2]) ?_
        rw [← hE]; exact (spE_y (by omega) (bS_t.mpr (by omega))).symm
theorem c_t_readToken {h : zH}  (hT : TX h) (hc : 0 ≤ h 1 2 ∧ h 1 2 ≤ h 1 1) : zC M_t_readToken [vR 1] h (fun v h2 => v = none ∧ RX h h2 (tx h) (h 1 1) (h 1 2)) := by
  refine zC.ofN 1 (by decide) (by first | decide | exact Nat.le_of_ble_eq_true rfl) ?_
  show Z M_t_readToken _ 0 [vR 1, vU] [] h
  have hL := hT.1
  exact l_t_readToken hT hc (152 : Nat) (h 1 2) h (by omega) (by omega) (by omega) TK.rfl' rfl rfl

