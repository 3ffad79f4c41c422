/-! the class is told a window -/
def z00 : Pst := (0, fun _ => 0, -1, -1, 0, fun _ => 0, fun _ => 0)
theorem z00_ok : OKs z00 := ⟨by decide, by decide, by decide, by decide, fun j j0 j1 => by have j1 : j < 0 := j1; omega, fun j j0 j1 => by have j1 : j < 0 := j1; omega, fun j j0 j1 => by have j1 : j < 0 := j1; omega, fun p q p0 p1 => by have p1 : p < 0 := p1; omega⟩
theorem c_w_empty {h : zH} {w : Nat} (hw : w = 3 ∨ w = 7) : zC M_w_empty [vR w] h (p0 (zup (zup (zup (zup h w 3 0) w 4 0) w 5 8) w 6 1)) := by
  refine zC.ofN 0 (by decide) (by first | decide | exact Nat.le_of_ble_eq_true rfl) ?_
  show Z M_w_empty _ 0 [vR w] [] h
  refine z_aload_n D_w_empty_0 rfl ?_
  refine z_iconst D_w_empty_1 ?_
  refine z_putI fl_w_21 (kw hw) rfl rfl D_w_empty_2 ?_
  refine z_aload_n D_w_empty_5 rfl ?_
  refine z_iconst D_w_empty_6 ?_
  refine z_putI fl_w_25 (kw hw) rfl rfl D_w_empty_7 ?_
  refine z_aload_n D_w_empty_10 rfl ?_
  refine z_bipush (by decide) D_w_empty_11 ?_
  refine z_putI fl_w_28 (kw hw) rfl rfl D_w_empty_13 ?_
  refine z_aload_n D_w_empty_16 rfl ?_
  refine z_iconst D_w_empty_17 ?_
  refine z_putI fl_w_31 (kw hw) rfl rfl D_w_empty_18 ?_
  exact z_return rfl D_w_empty_21 (pv0 rfl)

theorem c_t_readInto {h : zH} {w : Nat} (hw : w = 3 ∨ w = 7) (hT : TX h) : zC M_t_readInto [vR 1, vR w] h (QX h w (prs (tx h) (h 1 1) 152 0 0 z00)) := by
  refine zC.ofN 1 (by decide) (by first | decide | exact Nat.le_of_ble_eq_true rfl) ?_
  show Z M_t_readInto _ 0 [vR 1, vR w, vU] [] h
  have hL := hT.1
  refine z_aload_n D_t_readInto_0 rfl ?_
  refine z_V0v (c0 := 10) (c_w_empty hw) G_w_empty I_w_empty lk_t_19 (kw hw) ⟨by decide, rfl⟩ ⟨Nat.le_of_ble_eq_true rfl, Nat.le_of_ble_eq_true rfl⟩ (Nat.le_of_ble_eq_true rfl) D_t_readInto_1 ?_
  refine z_aload_n D_t_readInto_4 rfl ?_
  refine z_iconst D_t_readInto_5 ?_
  refine z_putI fl_t_24 (rfl) rfl rfl D_t_readInto_6 ?_
  refine z_aload_n D_t_readInto_9 rfl ?_
  refine z_iconst D_t_readInto_10 ?_
  refine z_putB fl_t_27 (rfl) rfl rfl (by first | exact Or.inl rfl | exact Or.inr rfl | exact zb_01 _) D_t_readInto_11 ?_
  refine z_aload_n D_t_readInto_14 rfl ?_
  refine z_iconst D_t_readInto_15 ?_
  refine z_putB fl_t_31 (rfl) rfl rfl (by first | exact Or.inl rfl | exact Or.inr rfl | exact zb_01 _) D_t_readInto_16 ?_
  refine z_iconst D_t_readInto_19 ?_
  refine z_istore_2 D_t_readInto_20 (Nat.le_of_ble_eq_true rfl) rfl ?_
  refine l_t_readInto hw hT (152 : Nat) 0 0 z00 _ (by omega) (by omega) (by omega) (by omega) ?_ ?_ z00_ok ?_ rfl
  · exact FX.put1 (FX.put1 (FX.put1 (FX.putW (FX.putW (FX.putW (FX.putW (TK.rfl'.fx w) hw (by omega)) hw (by omega)) hw (by omega)) hw (by omega)) (by decide)) (by decide)) (by decide)
  · refine ⟨?_, ?_, ?_, ?_, ?_, ?_, fun j j0 j1 => ?_, fun j j0 j1 => ?_, fun j j0 j1 => ?_⟩
    · rw [zup_ne (by omega), zup_ne (by omega), zup_ne (by omega), zup_nk (by decide), zup_nk (by decide), zup_nk (by decide), zup_same]; rfl
    · rw [zup_ne (by omega), zup_ne (by omega), zup_ne (by omega), zup_nk (by decide), zup_nk (by decide), zup_same]; rfl
    · rw [zup_nk (by decide), zup_same]; rfl
    · rw [zup_same]; rfl
    · rw [zup_ne (by omega), zup_ne (by omega), zup_ne (by omega), zup_nk (by decide), zup_same]; rfl
    · rw [zup_ne (by omega), zup_ne (by omega), zup_ne (by omega), zup_same]; rfl
    · have j1 : j < 0 := j1; omega
    · have j1 : j < 0 := j1; omega
    · have j1 : j < 0 := j1; omega
  · rw [zup_nk (by decide), zup_nk (by decide), zup_same]

def rowOf (z : Pst) (c : Int) : Int := if 4 ≤ c ∧ c < 4 + z.2.2.2.2.1 then z.2.2.2.2.2.1 (c - 4) else 0
def rowI (S : Int → Int) (i c : Int) : Int := if 4 ≤ c ∧ c < 4 + i then S (c - 4) else 0
theorem l_d_begin {g : zH} {w : Nat} {post : Option zV → zH → Prop} {S : Int → Int} {np : Int} (hw : w = 3 ∨ w = 7) (hnp : 0 ≤ np ∧ np ≤ 6) (hu : g 11 1 = 0) (en : g w 4 = np) (eS : ∀ j, 0 ≤ j → j < np → g (w + 2) j.toNat = S j) (K : ∀ h2, RowIs g h2 (rowI S np) → post none h2) : ∀ (k : Nat) (i : Int) (h1 : zH), 0 ≤ i → i ≤ np → np - i < k → RowIs g h1 (rowI S i) → Z M_d_begin post 15 [vR 11, vR w, vI i] [] h1 := by
  intro k
  induction k with
  | zero => intro i h1 h0 h2 h3; omega
  | succ k ih =>
    intro i h1 h0 h2 h3 hR
    have ew : h1 w = g w := hR.1 w (by omega)
    have es : h1 (w + 2) = g (w + 2) := hR.1 (w + 2) (by omega)
    have eu : h1 11 1 = 0 := by rw [hR.1 11 (by decide)]; exact hu
    refine z_iload_n D_d_begin_15 rfl ?_
    refine z_aload_n D_d_begin_16 rfl ?_
    refine z_getI fl_d_25 (kw hw) rfl D_d_begin_17 ?_
    refine z_icmp_ge (tgt := 42) D_d_begin_20 (by decide) (by omega) (by rw [ew]; omega) (fun q20 => ?_) (fun q20 => ?_)
    · exact z_return rfl D_d_begin_42 (K h1 (by rw [← show i = np by (rw [ew] at q20; omega)]; exact hR))
    · rw [ew] at q20
      refine z_aload_n D_d_begin_23 rfl ?_
      refine z_iconst D_d_begin_24 ?_
      refine z_iload_n D_d_begin_25 rfl ?_
      refine z_iadd D_d_begin_26 ?_
      refine z_aload_n D_d_begin_27 rfl ?_
      refine z_getR (q := (w + 2)) fl_d_30 (kw hw) rfl (kw1 hw) D_d_begin_28 ?_
      refine z_iload_n D_d_begin_31 rfl ?_
      refine z_iald (n := 6) (kws hw) (by omega) D_d_begin_32 ?_
      rw [es, eS i h0 (by omega)]
      refine z_V2v (c0 := 5) (c_d_put (by rw [eu]; omega) (by omega)) G_d_put I_d_put lk_d_33 (rfl) ⟨by decide, rfl⟩ ⟨Nat.le_of_ble_eq_true rfl, Nat.le_of_ble_eq_true rfl⟩ (Nat.le_of_ble_eq_true rfl) D_d_begin_33 ?_
      refine z_iinc_2 D_d_begin_36 (Nat.le_of_ble_eq_true rfl) rfl ?_
      refine z_goto (tgt := 15) D_d_begin_39 (by decide) ?_
      refine ih (i + 1) _ (by omega) (by omega) (by omega) ((hR.put (by omega) (by omega)).to (fun c c0 c1 => ?_))
      unfold upI rowI
      by_cases e : c = 4 + i
      · rw [if_pos e, if_pos (by omega), e, show 4 + i - 4 = i by omega]
      · rw [if_neg e]
        by_cases q : 4 ≤ c ∧ c < 4 + i
        · rw [if_pos q, if_pos (by omega)]
        · rw [if_neg q, if_neg (by omega)]
theorem c_d_begin {h : zH} {w : Nat} {S : Int → Int} {np : Int} (hw : w = 3 ∨ w = 7) (hnp : 0 ≤ np ∧ np ≤ 6) (en : h w 4 = np) (eS : ∀ j, 0 ≤ j → j < np → h (w + 2) j.toNat = S j) : zC M_d_begin [vR 11, vR w] h (fun v h2 => v = none ∧ (∀ a, a ≠ 11 → a ≠ 12 → h2 a = h a) ∧ h2 11 1 = 0 ∧ ∀ c, 0 ≤ c → c < 52 → nw h2 c = rowI S np c) := by
  refine zC.ofN 1 (by decide) (by first | decide | exact Nat.le_of_ble_eq_true rfl) ?_
  show Z M_d_begin _ 0 [vR 11, vR w, vU] [] h
  refine z_aload_n D_d_begin_0 rfl ?_
  refine z_getR (q := 12) fl_d_11 (rfl) rfl (rfl) D_d_begin_1 ?_
  refine z_iconst D_d_begin_4 ?_
  refine z_S2v (c_j_fill (n := 572) rfl (by omega)) G_j_fill S_j_fill lk_d_19 ⟨Nat.le_of_ble_eq_true rfl, Nat.le_of_ble_eq_true rfl⟩ (Nat.le_of_ble_eq_true rfl) D_d_begin_5 ?_
  refine z_aload_n D_d_begin_8 rfl ?_
  refine z_iconst D_d_begin_9 ?_
  refine z_putI fl_d_15 (rfl) rfl rfl D_d_begin_10 ?_
  refine z_iconst D_d_begin_13 ?_
  refine z_istore_2 D_d_begin_14 (Nat.le_of_ble_eq_true rfl) rfl ?_
  refine l_d_begin (S := S) (np := np) hw hnp zup_same (by rw [zup_ne (by omega)]; unfold zfill; rw [if_neg (by omega), en]) (fun j j0 j1 => by rw [zup_ne (by omega)]; unfold zfill; rw [if_neg (by omega)]; exact eS j j0 j1) (fun h2 hR => ⟨rfl, fun a a0 a1 => ?_, ?_, hR.2.1⟩) (7 : Nat) 0 _ (by omega) (by omega) (by omega) (RowIs.rfl'.to (fun c c0 c1 => ?_))
  · unfold nw rowI
    rw [zup_same, zup_ne (by decide), if_neg (by omega)]
    unfold zfill
    rw [if_pos (by omega)]
  · rw [hR.1 a a1]; funext j; rw [zup_ne a0]; unfold zfill; rw [if_neg (by omega)]
  · rw [hR.1 11 (by decide), zup_same]

def XRose (h h2 : zH) (w w2 : Nat) (z : Pst) : Prop := (∀ a, a ≠ 0 → a ≠ 1 → a ≠ 11 → a ≠ 12 → a ≠ 18 → a ≠ 19 → a ≠ 22 → a ≠ w2 → a ≠ w2 + 1 → a ≠ w2 + 2 → a ≠ w2 + 3 → h2 a = h a) ∧ h2 0 1 = (w2 : Int) ∧ h2 0 2 = (w : Int) ∧ h2 1 1 = 0 ∧ SX h2 w2 z ∧ h2 11 1 = 0 ∧ (∀ c, 0 ≤ c → c < 52 → nw h2 c = rowOf z c) ∧ h2 19 2 = 0 ∧ h2 22 2 = 0 ∧ h2 18 0 = 0 ∧ h2 18 1 = 0
theorem l_x_rose {g : zH} {it : Int} {w2 : Nat} {post : Option zV → zH → Prop} (K : post (some (vI it)) (zfill g 18 2 0)) : ∀ (k : Nat) (i : Int), 0 ≤ i → i ≤ 2 → 2 - i < k → Z M_x_rose post 73 [vR 0, vI it, vR w2, vI i] [] (zfill g 18 i.toNat 0) := by
  intro k
  induction k with
  | zero => intro i h0 h1 h2; omega
  | succ k ih =>
    intro i h0 h1 h2
    refine z_iload_n D_x_rose_73 rfl ?_
    refine z_aload_n D_x_rose_74 rfl ?_
    refine z_getR (q := 18) fl_x_37 (rfl) rfl (rfl) D_x_rose_75 ?_
    refine z_alen (n := 2) (rfl) (by decide) D_x_rose_78 ?_
    refine z_icmp_ge (tgt := 95) D_x_rose_79 (by decide) (by omega) (by omega) (fun q79 => ?_) (fun q79 => ?_)
    · have e9 : i = 2 := by omega
      subst e9
      refine z_iload_n D_x_rose_95 rfl ?_
      exact z_ireturn rfl D_x_rose_96 K
    · refine z_aload_n D_x_rose_82 rfl ?_
      refine z_getR (q := 18) fl_x_37 (rfl) rfl (rfl) D_x_rose_83 ?_
      refine z_iload_n D_x_rose_86 rfl ?_
      refine z_iconst D_x_rose_87 ?_
      refine z_bast (n := 2) (rfl) (by omega) (by first | exact Or.inl rfl | exact Or.inr rfl | exact zb_01 _) D_x_rose_88 ?_
      refine z_iinc_3 D_x_rose_89 (Nat.le_of_ble_eq_true rfl) rfl ?_
      refine z_goto (tgt := 73) D_x_rose_92 (by decide) ?_
      rw [zfill_1 h0]
      exact ih (i + 1) (by omega) (by omega) (by omega)
theorem prs_hi {T : Int → Int} {L : Int} : ∀ (k : Nat) (c i : Int) (z : Pst), 0 ≤ c → c ≤ L → L - c < k → 0 ≤ i → OKs z → -10 - L ≤ (prs T L k c i z).1 ∧ (prs T L k c i z).1 ≤ i + L - c
  | 0, c, i, z, h0, h1, h2, _, _ => by omega
  | k + 1, c, i, z, h0, h1, h2, hi, hz => by
    have h3 := tk_in (T := T) h1
    unfold prs
    by_cases ht : tkT T L c = 0
    · rw [if_pos ht]; show -10 - L ≤ i ∧ i ≤ _; omega
    · rw [if_neg ht]
      rcases item_go (T := T) ⟨h0, h1⟩ hz with ⟨g1, g2, g3, g4⟩ | g
      · rw [if_neg (by omega)]
        have := prs_hi (T := T) k (itm T L c z).2.1 (i + 1) (itm T L c z).2.2 (by omega) g3 (by omega) (by omega) g4
        omega
      · rw [if_pos g.1]; show -10 - L ≤ -10 - (itm T L c z).1 ∧ -10 - (itm T L c z).1 ≤ _; omega
theorem c_x_rose {h : zH} {w w2 : Nat} (hw : w = 3 ∨ w = 7) (hw2 : w2 = 3 ∨ w2 = 7) (hww : w ≠ w2) (hw1 : h 0 1 = (w : Int)) (hd : h 0 2 = (w2 : Int)) (hT : TX h) : zC M_x_rose [vR 0] h (fun v h2 => v = some (vI (prs (tx h) (h 1 1) 152 0 0 z00).1) ∧ ((prs (tx h) (h 1 1) 152 0 0 z00).1 < 0 → FX h h2 w2) ∧ (0 ≤ (prs (tx h) (h 1 1) 152 0 0 z00).1 → XRose h h2 w w2 (prs (tx h) (h 1 1) 152 0 0 z00).2)) := by
  refine zC.ofN 3 (by decide) (by first | decide | exact Nat.le_of_ble_eq_true rfl) ?_
  show Z M_x_rose _ 0 [vR 0, vU, vU, vU] [] h
  have hL := hT.1
  refine z_aload_n D_x_rose_0 rfl ?_
  refine z_getR (q := 1) fl_x_10 (rfl) rfl (rfl) D_x_rose_1 ?_
  refine z_aload_n D_x_rose_4 rfl ?_
  refine z_getW fl_x_23 (by decide) hd D_x_rose_5 ?_
  refine z_V1q (c0 := 9) (c_t_readInto hw2 hT) G_t_readInto I_t_readInto lk_x_111 (rfl) ⟨by decide, rfl⟩ ⟨Nat.le_of_ble_eq_true rfl, Nat.le_of_ble_eq_true rfl⟩ (Nat.le_of_ble_eq_true rfl) D_x_rose_8 (fun v9 h9 hp9 => ?_)
  obtain ⟨hF, hv9, hS9⟩ := hp9
  subst hv9
  have hgo := prs_go (T := tx h) (L := h 1 1) 152 0 0 z00 (by omega) (by omega) (by omega) (by omega) z00_ok
  generalize hR : (prs (tx h) (h 1 1) 152 0 0 z00) = R at hS9 hgo ⊢
  show Z _ _ _ _ [vI _] _
  have e2 : h9 0 2 = (w2 : Int) := by rw [hF.1 0 (by decide) (by omega) (by omega) (by omega) (by omega)]; exact hd
  have e1 : h9 0 1 = (w : Int) := by rw [hF.1 0 (by decide) (by omega) (by omega) (by omega) (by omega)]; exact hw1
  refine z_istore_1 D_x_rose_11 (Nat.le_of_ble_eq_true rfl) rfl ?_
  refine z_iload_n D_x_rose_12 rfl ?_
  refine z_if_ge (tgt := 18) D_x_rose_13 (by decide) (by have := prs_hi (T := tx h) (L := h 1 1) 152 0 0 z00 (by omega) (by omega) (by omega) (by omega) z00_ok; rw [hR] at this; omega) (fun q13 => ?_) (fun q13 => ?_)
  · have hz : OKs R.2 := by rcases hgo with q | q; omega; exact q.2
    have hS9 := hS9 q13
    refine z_aload_n D_x_rose_18 rfl ?_
    refine z_getW fl_x_23 (by decide) e2 D_x_rose_19 ?_
    refine z_astore_2 D_x_rose_22 (Nat.le_of_ble_eq_true rfl) rfl ?_
    refine z_aload_n D_x_rose_23 rfl ?_
    refine z_aload_n D_x_rose_24 rfl ?_
    refine z_getW fl_x_19 (by decide) e1 D_x_rose_25 ?_
    refine z_putR fl_x_23 (rfl) rfl rfl rfl D_x_rose_28 ?_
    refine z_aload_n D_x_rose_31 rfl ?_
    refine z_aload_n D_x_rose_32 rfl ?_
    refine z_putR fl_x_19 (rfl) rfl rfl rfl D_x_rose_33 ?_
    refine z_aload_n D_x_rose_36 rfl ?_
    refine z_getR (q := 1) fl_x_10 (rfl) rfl (rfl) D_x_rose_37 ?_
    refine z_iconst D_x_rose_40 ?_
    refine z_putI fl_x_107 (rfl) rfl rfl D_x_rose_41 ?_
    refine z_aload_n D_x_rose_44 rfl ?_
    refine z_getR (q := 11) fl_x_29 (rfl) rfl (rfl) D_x_rose_45 ?_
    refine z_aload_n D_x_rose_48 rfl ?_
    refine z_getW fl_x_19 (by decide) (by rw [zup_ne (by decide), zup_same]) D_x_rose_49 ?_
    refine z_V1q (c0 := 5) (c_d_begin (S := R.2.2.2.2.2.2.1) (np := R.2.2.2.2.2.1) hw2 hz.2.1 (by rw [zup_ne (by omega), zup_ne (by omega), zup_ne (by omega)]; exact hS9.2.1) (fun j j0 j1 => by rw [zup_ne (by omega), zup_ne (by omega), zup_ne (by omega)]; exact hS9.2.2.2.2.2.2.2.1 j j0 j1)) G_d_begin I_d_begin lk_x_115 (rfl) ⟨by decide, rfl⟩ ⟨Nat.le_of_ble_eq_true rfl, Nat.le_of_ble_eq_true rfl⟩ (Nat.le_of_ble_eq_true rfl) D_x_rose_52 (fun v8 h8 hp8 => ?_)
    obtain ⟨rfl, f8, u8, r8⟩ := hp8
    show Z _ _ _ _ [] _
    refine z_aload_n D_x_rose_55 rfl ?_
    refine z_getR (q := 19) fl_x_44 (rfl) rfl (rfl) D_x_rose_56 ?_
    refine z_iconst D_x_rose_59 ?_
    refine z_putI fl_x_119 (rfl) rfl rfl D_x_rose_60 ?_
    refine z_aload_n D_x_rose_63 rfl ?_
    refine z_getR (q := 22) fl_x_48 (rfl) rfl (rfl) D_x_rose_64 ?_
    refine z_iconst D_x_rose_67 ?_
    refine z_putI fl_x_119 (rfl) rfl rfl D_x_rose_68 ?_
    refine z_iconst D_x_rose_71 ?_
    refine z_istore_3 D_x_rose_72 (Nat.le_of_ble_eq_true rfl) rfl ?_
    refine l_x_rose (g := zup (zup h8 19 2 0) 22 2 0) (it := R.1) ⟨rfl, fun q => absurd q (by omega), fun _ => ?_⟩ (3 : Nat) 0 (by omega) (by omega) (by omega)
    have key : ∀ a, a ≠ 18 → a ≠ 19 → a ≠ 22 → zfill (zup (zup h8 19 2 0) 22 2 0) 18 2 0 a = h8 a := fun a a0 a1 a2 => by funext j; unfold zfill; rw [if_neg (by omega), zup_ne a2, zup_ne a1]
    have k4 : ∀ a, a ≠ 0 → a ≠ 1 → (zup (zup (zup h9 0 2 (w : Int)) 0 1 (w2 : Int)) 1 1 0) a = h9 a := fun a a0 a1 => by funext j; rw [zup_ne a1, zup_ne a0, zup_ne a0]
    have kw : ∀ a, a ≠ 18 → a ≠ 19 → a ≠ 22 → a ≠ 11 → a ≠ 12 → a ≠ 0 → a ≠ 1 → zfill (zup (zup h8 19 2 0) 22 2 0) 18 2 0 a = h9 a := fun a a0 a1 a2 a3 a4 a5 a6 => by rw [key a a0 a1 a2, f8 a a3 a4, k4 a a5 a6]
    refine ⟨fun a b0 b1 b2 b3 b4 b5 b6 b7 b8 b9 c0 => ?_, ?_, ?_, ?_, ?_, ?_, fun c c0 c1 => ?_, ?_, ?_, ?_, ?_⟩
    · rw [kw a b4 b5 b6 b2 b3 b0 b1, hF.1 a b1 b7 b8 b9 c0]
    · rw [key 0 (by decide) (by decide) (by decide), f8 0 (by decide) (by decide), zup_ne (by decide), zup_same]
    · rw [key 0 (by decide) (by decide) (by decide), f8 0 (by decide) (by decide), zup_ne (by decide), zup_nk (by decide), zup_same]
    · rw [key 1 (by decide) (by decide) (by decide), f8 1 (by decide) (by decide), zup_same]
    · have c6 : ∀ j, j ≠ 1 → zfill (zup (zup h8 19 2 0) 22 2 0) 18 2 0 1 j = h9 1 j := fun j hj => by rw [key 1 (by decide) (by decide) (by decide), f8 1 (by decide) (by decide), zup_nk hj, zup_ne (by decide), zup_ne (by decide)]
      unfold SX
      rw [kw w2 (by omega) (by omega) (by omega) (by omega) (by omega) (by omega) (by omega), kw (w2 + 1) (by omega) (by omega) (by omega) (by omega) (by omega) (by omega) (by omega), kw (w2 + 2) (by omega) (by omega) (by omega) (by omega) (by omega) (by omega) (by omega), kw (w2 + 3) (by omega) (by omega) (by omega) (by omega) (by omega) (by omega) (by omega), c6 6 (by decide), c6 7 (by decide)]
      exact hS9
    · rw [key 11 (by decide) (by decide) (by decide), u8]
    · have e : nw (zfill (zup (zup h8 19 2 0) 22 2 0) 18 2 0) c = nw h8 c := by unfold nw; rw [key 11 (by decide) (by decide) (by decide), key 12 (by decide) (by decide) (by decide)]
      rw [e]; exact r8 c c0 c1
    · unfold zfill; rw [if_neg (by omega), zup_ne (by decide), zup_same]
    · unfold zfill; rw [if_neg (by omega), zup_same]
    · unfold zfill; rw [if_pos (by omega)]
    · unfold zfill; rw [if_pos (by omega)]
  · refine z_iload_n D_x_rose_16 rfl ?_
    exact z_ireturn rfl D_x_rose_17 (⟨rfl, fun _ => hF, fun q => absurd q (by omega)⟩)

