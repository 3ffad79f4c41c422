/-! the other side is told a window (2) -/
def GM (h h1 : zH) : Prop := (∀ a, a ≠ 39 → a ≠ 48 → a ≠ 49 → a ≠ 50 → h1 a = h a) ∧ ∀ j, j < 16 → h1 39 j = h 39 j
theorem GM.fm {h h1 h2 : zH} (a : GM h h1) (b : FM h1 h2) : GM h h2 := ⟨fun q q1 q2 q3 q4 => (b.1 q q1 q2 q3 q4).trans (a.1 q q1 q2 q3 q4), fun j hj => (b.2 j (Or.inl hj)).trans (a.2 j hj)⟩
theorem GM.eT {h h1 : zH} (a : GM h h1) : tm h1 = tm h := by funext j; unfold tm; rw [a.1 47 (by decide) (by decide) (by decide) (by decide)]
theorem GM.ok {h h1 : zH} (a : GM h h1) (q : TM h) : TM h1 := by
  unfold TM
  rw [a.eT, a.2 15 (by omega)]
  exact q
theorem GM.put {h h1 : zH} {k : Nat} {x : Int} (a : GM h h1) (hk : 16 ≤ k) : GM h (zup h1 39 k x) := ⟨fun q q1 q2 q3 q4 => by funext j; rw [zup_ne q1, a.1 q q1 q2 q3 q4], fun j hj => by rw [zup_nk (by omega), a.2 j hj]⟩
theorem GM.rose {h h1 h2 : zH} {z : Pst} (a : GM h h1) (b : MRose h1 h2 z) : MRose h h2 z := by
  obtain ⟨b1, b2, b3⟩ := b
  exact ⟨fun q q1 q2 q3 q4 q5 q6 q7 q8 => (b1 q q1 q2 q3 q4 q5 q6 q7 q8).trans (a.1 q q1 q6 q7 q8), b2.trans (a.2 13 (by omega)), b3⟩
theorem l_m_roseBad {h1 : zH} {post : Option zV → zH → Prop} {f : Int} (hW : h1 39 20 = 1) (h7 : h1 39 17 = f) (h8 : 0 ≤ h1 39 18 ∧ h1 39 18 ≤ 4) (K : post (some (vI (-10 - f))) h1) : Z M_m_rose post 39 [vR 39] [] h1 := by
  refine z_aload_n D_m_rose_39 rfl ?_
  refine z_getI fl_m_92 (rfl) rfl D_m_rose_40 ?_
  refine z_if_eq (tgt := 70) D_m_rose_43 (by decide) (by omega) (fun q43 => ?_) (fun q43 => ?_)
  · refine z_aload_n D_m_rose_70 rfl ?_
    refine z_getI fl_m_102 (rfl) rfl D_m_rose_71 ?_
    refine z_if_eq (tgt := 85) D_m_rose_74 (by decide) (by omega) (fun q74 => ?_) (fun q74 => ?_)
    · exact absurd q74 (by omega)
    · refine z_bipush (by decide) D_m_rose_77 ?_
      refine z_aload_n D_m_rose_79 rfl ?_
      refine z_getI fl_m_86 (rfl) rfl D_m_rose_80 ?_
      rw [h7]
      refine z_isub D_m_rose_83 ?_
      exact z_ireturn rfl D_m_rose_84 (K)
  · refine z_aload_n D_m_rose_46 rfl ?_
    refine z_getI fl_m_102 (rfl) rfl D_m_rose_47 ?_
    refine z_if_ne (tgt := 70) D_m_rose_50 (by decide) (by omega) (fun q50 => ?_) (fun q50 => ?_)
    · refine z_aload_n D_m_rose_70 rfl ?_
      refine z_getI fl_m_102 (rfl) rfl D_m_rose_71 ?_
      refine z_if_eq (tgt := 85) D_m_rose_74 (by decide) (by omega) (fun q74 => ?_) (fun q74 => ?_)
      · exact absurd q74 (by omega)
      · refine z_bipush (by decide) D_m_rose_77 ?_
        refine z_aload_n D_m_rose_79 rfl ?_
        refine z_getI fl_m_86 (rfl) rfl D_m_rose_80 ?_
        rw [h7]
        refine z_isub D_m_rose_83 ?_
        exact z_ireturn rfl D_m_rose_84 (K)
    · exact absurd q50 (by omega)
def QR (h : zH) (R : Int × Pst) : Option zV → zH → Prop := fun v h2 => v = some (vI R.1) ∧ (R.1 < 0 → GM h h2) ∧ (0 ≤ R.1 → MRose h h2 R.2)
theorem l_m_rose {h : zH} {R : Int × Pst} (hT : TM h) : ∀ (k : Nat) (c i : Int) (z : Pst) (h1 : zH), 0 ≤ c → c ≤ h 39 15 → h 39 15 - c < k → 0 ≤ i → GM h h1 → MTok h1 (tm h) (h 39 15) c → SM h1 z → OKs z → h1 39 20 = 0 → h1 39 21 = i → prs (tm h) (h 39 15) k c i z = R → Z M_m_rose (QR h R) 39 [vR 39] [] h1 := by
  have hL := hT.1
  intro k
  induction k with
  | zero => intro c i z h1 h0 h2 h3; omega
  | succ k ih =>
    intro c i z h1 h0 h2 h3 hi hG hM hS hz hW h21 hR
    have eT := hG.eT
    have eL : h1 39 15 = h 39 15 := hG.2 15 (by omega)
    have ht := tk_b (T := tm h) h2
    have htn := (tk_in (T := tm h) h2).2.2.2.2.1
    have t3 := hM.2.2.1
    unfold prs at hR
    refine z_aload_n D_m_rose_39 rfl ?_
    refine z_getI fl_m_92 (rfl) rfl D_m_rose_40 ?_
    refine z_if_eq (tgt := 70) D_m_rose_43 (by decide) (by omega) (fun q43 => ?_) (fun q43 => ?_)
    · refine z_aload_n D_m_rose_70 rfl ?_
      refine z_getI fl_m_102 (rfl) rfl D_m_rose_71 ?_
      refine z_if_eq (tgt := 85) D_m_rose_74 (by decide) (by omega) (fun q74 => ?_) (fun q74 => ?_)
      · refine z_aload_n D_m_rose_85 rfl ?_
        refine z_V0q (c0 := 12) (c_m_settles hS hz) G_m_settles I_m_settles lk_m_137 (rfl) ⟨by decide, rfl⟩ ⟨Nat.le_of_ble_eq_true rfl, Nat.le_of_ble_eq_true rfl⟩ (Nat.le_of_ble_eq_true rfl) D_m_rose_86 (fun v9 h9 hp9 => ?_)
        obtain ⟨rfl, r9, i9⟩ := hp9
        show Z _ _ _ _ [] _
        rw [if_pos (by omega)] at hR
        subst hR
        refine z_aload_n D_m_rose_89 rfl ?_
        refine z_getI fl_m_131 (rfl) rfl D_m_rose_90 ?_
        rw [i9, h21]
        exact z_ireturn rfl D_m_rose_93 (⟨rfl, fun q => absurd (show i < 0 from q) (by omega), fun _ => hG.rose r9⟩)
      · exact absurd hW q74
    · refine z_aload_n D_m_rose_46 rfl ?_
      refine z_getI fl_m_102 (rfl) rfl D_m_rose_47 ?_
      refine z_if_ne (tgt := 70) D_m_rose_50 (by decide) (by omega) (fun q50 => ?_) (fun q50 => ?_)
      · exact absurd hW q50
      · have htn := htn (by omega)
        refine z_aload_n D_m_rose_53 rfl ?_
        refine z_V0q (c0 := 12) (c_m_readItem (c := c) (z := z) (hG.ok hT) (by rw [eL]; exact ⟨h0, h2⟩) hW (by rw [eT, eL]; exact hM) hS hz) G_m_readItem I_m_readItem lk_m_134 (rfl) ⟨by decide, rfl⟩ ⟨Nat.le_of_ble_eq_true rfl, Nat.le_of_ble_eq_true rfl⟩ (Nat.le_of_ble_eq_true rfl) D_m_rose_54 (fun v9 h9 hp9 => ?_)
        rw [eT, eL] at hp9
        obtain ⟨rfl, f9, n9, y9⟩ := hp9
        show Z _ _ _ _ [] _
        rw [if_neg (by omega)] at hR
        have hgo := item_go (T := tm h) (z := z) ⟨h0, h2⟩ hz
        have hG9 := hG.fm f9
        have e21 : h9 39 21 = i := by rw [f9.2 21 (Or.inr rfl)]; exact h21
        refine z_aload_n D_m_rose_57 rfl ?_
        refine z_dup rfl D_m_rose_58 ?_
        refine z_getI fl_m_131 (rfl) rfl D_m_rose_59 ?_
        rw [e21]
        refine z_iconst D_m_rose_62 ?_
        refine z_iadd D_m_rose_63 ?_
        refine z_putI fl_m_131 (rfl) rfl rfl D_m_rose_64 ?_
        refine z_goto (tgt := 39) D_m_rose_67 (by decide) ?_
        rcases hgo with ⟨o1, o2, o3, o4⟩ | o
        · obtain ⟨w9, s9, m9⟩ := y9 (by omega)
          rw [eT, eL] at m9
          rw [if_neg (by omega)] at hR
          refine ih _ (i + 1) _ _ (by omega) o3 (by omega) (by omega) (hG9.put (by omega)) (MTok.put (b := 39) (k := 21) m9 (by decide)) ?_ o4 (by rw [zup_nk (by decide), w9]) zup_same hR
          unfold SM
          obtain ⟨x1, x2, x3, x4, x5, x6, x7⟩ := s9
          exact ⟨by rw [zup_nk (by decide)]; exact x1, by rw [zup_nk (by decide)]; exact x2, by rw [zup_nk (by decide)]; exact x3, by rw [zup_nk (by decide)]; exact x4, fun j j0 j1 => by rw [zup_ne (by decide)]; exact x5 j j0 j1, fun j j0 j1 => by rw [zup_ne (by decide)]; exact x6 j j0 j1, fun j j0 j1 => by rw [zup_ne (by decide)]; exact x7 j j0 j1⟩
        · obtain ⟨w9, s9, m9⟩ := n9 o.1
          rw [if_pos o.1] at hR
          subst hR
          exact l_m_roseBad (by rw [zup_nk (by decide), w9]) (by rw [zup_nk (by decide)]; exact s9) (by rw [zup_nk (by decide)]; exact m9) ⟨rfl, fun _ => hG9.put (by omega), fun q => absurd (show 0 ≤ -10 - (itm (tm h) (h 39 15) c z).1 from q) (by omega)⟩
theorem c_m_rose {h : zH}  (hT : TM h) : zC M_m_rose [vR 39] h (QR h (prs (tm h) (h 39 15) 152 0 0 z00)) := by
  refine zC.ofN 0 (by decide) (by first | decide | exact Nat.le_of_ble_eq_true rfl) ?_
  show Z M_m_rose _ 0 [vR 39] [] h
  have hL := hT.1
  refine z_aload_n D_m_rose_0 rfl ?_
  refine z_iconst D_m_rose_1 ?_
  refine z_putI fl_m_79 (rfl) rfl rfl D_m_rose_2 ?_
  refine z_aload_n D_m_rose_5 rfl ?_
  refine z_iconst D_m_rose_6 ?_
  refine z_putB fl_m_102 (rfl) rfl rfl (by first | exact Or.inl rfl | exact Or.inr rfl | exact zb_01 _) D_m_rose_7 ?_
  refine z_aload_n D_m_rose_10 rfl ?_
  refine z_iconst D_m_rose_11 ?_
  refine z_putI fl_m_131 (rfl) rfl rfl D_m_rose_12 ?_
  refine z_aload_n D_m_rose_15 rfl ?_
  refine z_iconst D_m_rose_16 ?_
  refine z_putI fl_m_112 (rfl) rfl rfl D_m_rose_17 ?_
  refine z_aload_n D_m_rose_20 rfl ?_
  refine z_iconst D_m_rose_21 ?_
  refine z_putI fl_m_119 (rfl) rfl rfl D_m_rose_22 ?_
  refine z_aload_n D_m_rose_25 rfl ?_
  refine z_iconst D_m_rose_26 ?_
  refine z_putI fl_m_122 (rfl) rfl rfl D_m_rose_27 ?_
  refine z_aload_n D_m_rose_30 rfl ?_
  refine z_iconst D_m_rose_31 ?_
  refine z_putI fl_m_109 (rfl) rfl rfl D_m_rose_32 ?_
  have hG0 : GM h h := ⟨fun _ _ _ _ _ => rfl, fun _ _ => rfl⟩
  have hG : GM h (zup (zup (zup (zup (zup (zup (zup h 39 16 0) 39 20 0) 39 21 0) 39 22 0) 39 24 (-1)) 39 25 (-1)) 39 26 0) := (((((((hG0.put (by omega)).put (by omega)).put (by omega)).put (by omega)).put (by omega)).put (by omega)).put (by omega))
  have g16 : (zup (zup (zup (zup (zup (zup (zup h 39 16 0) 39 20 0) 39 21 0) 39 22 0) 39 24 (-1)) 39 25 (-1)) 39 26 0) 39 16 = 0 := by rw [zup_nk (by decide), zup_nk (by decide), zup_nk (by decide), zup_nk (by decide), zup_nk (by decide), zup_nk (by decide), zup_same]
  have g20 : (zup (zup (zup (zup (zup (zup (zup h 39 16 0) 39 20 0) 39 21 0) 39 22 0) 39 24 (-1)) 39 25 (-1)) 39 26 0) 39 20 = 0 := by rw [zup_nk (by decide), zup_nk (by decide), zup_nk (by decide), zup_nk (by decide), zup_nk (by decide), zup_same]
  have g21 : (zup (zup (zup (zup (zup (zup (zup h 39 16 0) 39 20 0) 39 21 0) 39 22 0) 39 24 (-1)) 39 25 (-1)) 39 26 0) 39 21 = 0 := by rw [zup_nk (by decide), zup_nk (by decide), zup_nk (by decide), zup_nk (by decide), zup_same]
  have hS : SM (zup (zup (zup (zup (zup (zup (zup h 39 16 0) 39 20 0) 39 21 0) 39 22 0) 39 24 (-1)) 39 25 (-1)) 39 26 0) z00 := ⟨by rw [zup_nk (by decide), zup_nk (by decide), zup_nk (by decide), zup_same]; rfl, by rw [zup_nk (by decide), zup_nk (by decide), zup_same]; rfl, by rw [zup_nk (by decide), zup_same]; rfl, by rw [zup_same]; rfl, fun j j0 j1 => by have j1 : j < 0 := j1; omega, fun j j0 j1 => by have j1 : j < 0 := j1; omega, fun j j0 j1 => by have j1 : j < 0 := j1; omega⟩
  generalize (zup (zup (zup (zup (zup (zup (zup h 39 16 0) 39 20 0) 39 21 0) 39 22 0) 39 24 (-1)) 39 25 (-1)) 39 26 0) = g at hG g16 g20 g21 hS ⊢
  have eT := hG.eT
  have eL : g 39 15 = h 39 15 := hG.2 15 (by omega)
  refine z_aload_n D_m_rose_35 rfl ?_
  refine z_V0q (c0 := 12) (c_m_next (hG.ok hT) (by omega)) G_m_next I_m_next lk_m_106 (rfl) ⟨by decide, rfl⟩ ⟨Nat.le_of_ble_eq_true rfl, Nat.le_of_ble_eq_true rfl⟩ (Nat.le_of_ble_eq_true rfl) D_m_rose_36 (fun v9 h9 hp9 => ?_)
  obtain ⟨rfl, k9, m9⟩ := hp9
  show Z _ _ _ _ [] _
  rw [eT, eL, g16] at m9
  exact l_m_rose hT (152 : Nat) 0 0 z00 _ (by omega) (by omega) (by omega) (by omega) (hG.fm k9.w.fm) m9 (hS.tk k9.w) z00_ok (by rw [k9.2 20 (by omega)]; exact g20) (by rw [k9.2 21 (by omega)]; exact g21) rfl

