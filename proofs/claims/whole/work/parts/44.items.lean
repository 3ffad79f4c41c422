/-! the class reads items -/
def FX (h h1 : zH) (w : Nat) : Prop := (∀ a, a ≠ 1 → a ≠ w → a ≠ w + 1 → a ≠ w + 2 → a ≠ w + 3 → h1 a = h a) ∧ h1 1 1 = h 1 1
theorem FX.eT {h h1 : zH} {w : Nat} (a : FX h h1 w) (hw : w = 3 ∨ w = 7) : tx h1 = tx h := by funext j; unfold tx; rw [a.1 2 (by omega) (by omega) (by omega) (by omega) (by omega)]
theorem FX.ok {h h1 : zH} {w : Nat} (a : FX h h1 w) (hw : w = 3 ∨ w = 7) (q : TX h) : TX h1 := by
  unfold TX
  rw [a.eT hw, a.2]
  exact q
theorem FX.trans {h h1 h2 : zH} {w : Nat} (a : FX h h1 w) (b : FX h1 h2 w) : FX h h2 w := ⟨fun q q1 q2 q3 q4 q5 => (b.1 q q1 q2 q3 q4 q5).trans (a.1 q q1 q2 q3 q4 q5), b.2.trans a.2⟩
theorem TK.fx {h h1 : zH} (a : TK h h1) (w : Nat) : FX h h1 w := ⟨fun q q1 _ _ _ _ => a.1 q q1, a.len⟩
theorem FX.putW {h h1 : zH} {w b k : Nat} {x : Int} (a : FX h h1 w) (hw : w = 3 ∨ w = 7) (hb : b = w ∨ b = w + 1 ∨ b = w + 2 ∨ b = w + 3) : FX h (zup h1 b k x) w := ⟨fun q q1 q2 q3 q4 q5 => by funext j; rw [zup_ne (by omega), a.1 q q1 q2 q3 q4 q5], by rw [zup_ne (by omega), a.2]⟩
theorem FX.put1 {h h1 : zH} {w k : Nat} {x : Int} (a : FX h h1 w) (hk : k ≠ 1) : FX h (zup h1 1 k x) w := ⟨fun q q1 q2 q3 q4 q5 => by funext j; rw [zup_ne q1, a.1 q q1 q2 q3 q4 q5], by rw [zup_nk (by omega), a.2]⟩
def SX (h : zH) (w : Nat) (z : Pst) : Prop := h w 3 = z.1 ∧ h w 4 = z.2.2.2.2.1 ∧ h 1 6 = zb (0 ≤ z.2.2.1) ∧ h 1 7 = zb (0 ≤ z.2.2.2.1) ∧ h w 5 = (if 0 ≤ z.2.2.1 then z.2.2.1 else 8) ∧ h w 6 = (if 0 ≤ z.2.2.2.1 then z.2.2.2.1 else 1) ∧ (∀ j, 0 ≤ j → j < z.1 → h (w + 1) j.toNat = z.2.1 j) ∧ (∀ j, 0 ≤ j → j < z.2.2.2.2.1 → h (w + 2) j.toNat = z.2.2.2.2.2.1 j) ∧ ∀ j, 0 ≤ j → j < z.2.2.2.2.1 → h (w + 3) j.toNat = z.2.2.2.2.2.2 j
theorem SX.tk {h h1 : zH} {w : Nat} {z : Pst} (a : SX h w z) (k : TK h h1) (hw : w = 3 ∨ w = 7) : SX h1 w z := by
  unfold SX
  rw [k.1 w (by omega), k.1 (w + 1) (by omega), k.1 (w + 2) (by omega), k.1 (w + 3) (by omega), k.2 6 (by omega), k.2 7 (by omega)]
  exact a
def PX (h : zH) (w : Nat) (r : Int × Int × Pst) : Option zV → zH → Prop := fun v h2 => FX h h2 w ∧ v = some (vI (zb (r.1 < 0))) ∧ (0 ≤ r.1 → h2 1 3 = r.1) ∧ (r.1 < 0 → h2 1 2 = r.2.1 ∧ SX h2 w r.2.2)
theorem PX.bad {h h2 : zH} {w : Nat} {r : Int × Int × Pst} (hF : FX h h2 w) (h0 : 0 ≤ r.1) (h3 : h2 1 3 = r.1) : PX h w r (some (vI 0)) h2 := ⟨hF, by rw [zb_f (by omega)], fun _ => h3, fun q => absurd q (by omega)⟩
theorem PX.fin {h g h2 : zH} {w : Nat} {z : Pst} {c : Int} {v : Option zV} (hw : w = 3 ∨ w = 7) (hF : FX h g w) (hS : SX g w z) (hc : g 1 2 = c) (h0 : 0 ≤ c ∧ c ≤ h 1 1) (hv : v = some (vI (zb (tkT (tx g) (g 1 1) (g 1 2) = 3)))) (hR : RX g h2 (tx g) (g 1 1) (g 1 2)) : PX h w (semi (tx h) (h 1 1) c z) v h2 := by
  rw [hF.eT hw, hF.2, hc] at hv hR
  obtain ⟨r1, r2, r3, r4, r5, r6⟩ := hR
  have ht := tk_in (T := tx h) h0.2
  unfold PX semi
  by_cases q : tkT (tx h) (h 1 1) c = 3
  · rw [if_pos q]
    exact ⟨hF.trans (r1.fx w), by rw [hv, zb_t q, zb_t (show (-1 : Int) < 0 by decide)], fun z => absurd (show (0 : Int) ≤ -1 from z) (by decide), fun _ => ⟨r2, hS.tk r1 hw⟩⟩
  · rw [if_neg q]
    exact ⟨hF.trans (r1.fx w), by rw [hv, zb_f q, zb_f (by show ¬ tkS _ _ _ < 0; omega)], fun _ => r3, fun z => absurd z (by show ¬ tkS _ _ _ < 0; omega)⟩
theorem c_t_readSemicolon {h : zH}  (hT : TX h) (hc : 0 ≤ h 1 2 ∧ h 1 2 ≤ h 1 1)  : zC M_t_readSemicolon [vR 1] h (fun v h2 => v = some (vI (zb (tkT (tx h) (h 1 1) (h 1 2) = 3))) ∧ RX h h2 (tx h) (h 1 1) (h 1 2)) := by
  refine zC.ofN 0 (by decide) (by first | decide | exact Nat.le_of_ble_eq_true rfl) ?_
  show Z M_t_readSemicolon _ 0 [vR 1] [] h
  refine z_aload_n D_t_readSemicolon_0 rfl ?_
  refine z_V0q (c0 := 9) (c_t_readToken hT hc) G_t_readToken I_t_readToken lk_t_34 (rfl) ⟨by decide, rfl⟩ ⟨Nat.le_of_ble_eq_true rfl, Nat.le_of_ble_eq_true rfl⟩ (Nat.le_of_ble_eq_true rfl) D_t_readSemicolon_1 (fun v9 h9 hp9 => ?_)
  obtain ⟨rfl, hR⟩ := hp9
  show Z _ _ _ _ [] _
  have ht := tk_in (T := tx h) hc.2
  have r4 := hR.2.2.2.1
  refine z_aload_n D_t_readSemicolon_4 rfl ?_
  refine z_getI fl_t_37 (rfl) rfl D_t_readSemicolon_5 ?_
  refine z_iconst D_t_readSemicolon_8 ?_
  refine z_icmp_ne (tgt := 16) D_t_readSemicolon_9 (by decide) (by omega) (by omega) (fun q9 => ?_) (fun q9 => ?_)
  · refine z_iconst D_t_readSemicolon_16 ?_
    exact z_zreturn rfl (by first | exact Or.inl rfl | exact Or.inr rfl | exact zb_01 _) D_t_readSemicolon_17 (⟨by first | rw [zb_t (by omega)] | rw [zb_f (by omega)], hR⟩)
  · refine z_iconst D_t_readSemicolon_12 ?_
    refine z_goto (tgt := 17) D_t_readSemicolon_13 (by decide) ?_
    exact z_zreturn rfl (by first | exact Or.inl rfl | exact Or.inr rfl | exact zb_01 _) D_t_readSemicolon_17 (⟨by first | rw [zb_t (by omega)] | rw [zb_f (by omega)], hR⟩)

theorem c_t_readNumber {h : zH} {lo hi : Int} (hT : TX h) (hc : 0 ≤ h 1 2 ∧ h 1 2 ≤ h 1 1) (r_lo : -2147483648 ≤ lo ∧ lo ≤ 2147483647) (r_hi : -2147483648 ≤ hi ∧ hi ≤ 2147483647) : zC M_t_readNumber [vR 1, vI lo, vI hi] h (fun v h2 => v = some (vI (zb (numOk (tx h) (h 1 1) (h 1 2) lo hi))) ∧ RX h h2 (tx h) (h 1 1) (h 1 2)) := by
  refine zC.ofN 0 (by decide) (by first | decide | exact Nat.le_of_ble_eq_true rfl) ?_
  show Z M_t_readNumber _ 0 [vR 1, vI lo, vI hi] [] h
  refine z_aload_n D_t_readNumber_0 rfl ?_
  refine z_V0q (c0 := 9) (c_t_readToken hT hc) G_t_readToken I_t_readToken lk_t_34 (rfl) ⟨by decide, rfl⟩ ⟨Nat.le_of_ble_eq_true rfl, Nat.le_of_ble_eq_true rfl⟩ (Nat.le_of_ble_eq_true rfl) D_t_readNumber_1 (fun v9 h9 hp9 => ?_)
  obtain ⟨rfl, hR⟩ := hp9
  show Z _ _ _ _ [] _
  have ht := tk_in (T := tx h) hc.2
  have r4 := hR.2.2.2.1
  have r5 := hR.2.2.2.2.1
  have r6 := hR.2.2.2.2.2
  refine z_aload_n D_t_readNumber_4 rfl ?_
  refine z_getI fl_t_37 (rfl) rfl D_t_readNumber_5 ?_
  refine z_iconst D_t_readNumber_8 ?_
  refine z_icmp_ne (tgt := 32) D_t_readNumber_9 (by decide) (by omega) (by omega) (fun q9 => ?_) (fun q9 => ?_)
  · refine z_iconst D_t_readNumber_32 ?_
    refine z_zreturn rfl (by decide) D_t_readNumber_33 ⟨?_, hR⟩
    rw [zb_f (fun q => absurd q.1 (by omega))]
  · have r5 := r5 (by omega)
    refine z_aload_n D_t_readNumber_12 rfl ?_
    refine z_getI fl_t_47 (rfl) rfl D_t_readNumber_13 ?_
    refine z_iload_n D_t_readNumber_16 rfl ?_
    refine z_icmp_lt (tgt := 32) D_t_readNumber_17 (by decide) (by omega) (by omega) (fun q17 => ?_) (fun q17 => ?_)
    · refine z_iconst D_t_readNumber_32 ?_
      refine z_zreturn rfl (by decide) D_t_readNumber_33 ⟨?_, hR⟩
      rw [zb_f (fun q => absurd q.2.1 (by omega))]
    · refine z_aload_n D_t_readNumber_20 rfl ?_
      refine z_getI fl_t_47 (rfl) rfl D_t_readNumber_21 ?_
      refine z_iload_n D_t_readNumber_24 rfl ?_
      refine z_icmp_gt (tgt := 32) D_t_readNumber_25 (by decide) (by omega) (by omega) (fun q25 => ?_) (fun q25 => ?_)
      · refine z_iconst D_t_readNumber_32 ?_
        refine z_zreturn rfl (by decide) D_t_readNumber_33 ⟨?_, hR⟩
        rw [zb_f (fun q => absurd q.2.2 (by omega))]
      · refine z_iconst D_t_readNumber_28 ?_
        refine z_goto (tgt := 33) D_t_readNumber_29 (by decide) ?_
        refine z_zreturn rfl (by decide) D_t_readNumber_33 ⟨?_, hR⟩
        rw [zb_t ⟨by omega, by omega, by omega⟩]

theorem l_w_isPlaceTold {h : zH} {w : Nat} {v : Int} {S : Int → Int} (hw : w = 3 ∨ w = 7) (hn : 0 ≤ h w 4 ∧ h w 4 ≤ 6) (hS : ∀ j, 0 ≤ j → j < h w 4 → h (w + 2) j.toNat = S j) (hb : ∀ j, 0 ≤ j → j < h w 4 → 0 ≤ S j ∧ S j ≤ 12) (r_v : -2147483648 ≤ v ∧ v ≤ 2147483647) : ∀ (k : Nat) (i : Int), 0 ≤ i → i ≤ h w 4 → h w 4 - i < k → ¬ told S v i.toNat = true → Z M_w_isPlaceTold (pV (vI (zb (told S v (h w 4).toNat = true))) h) 2 [vR w, vI v, vI i] [] h := by
  intro k
  induction k with
  | zero => intro i h0 h1 h2; omega
  | succ k ih =>
    intro i h0 h1 h2 ht
    have hSi := hS i h0
    have hbi := hb i h0
    refine z_iload_n D_w_isPlaceTold_2 rfl ?_
    refine z_aload_n D_w_isPlaceTold_3 rfl ?_
    refine z_getI fl_w_25 (kw hw) rfl D_w_isPlaceTold_4 ?_
    refine z_icmp_ge (tgt := 28) D_w_isPlaceTold_7 (by decide) (by omega) (by omega) (fun q7 => ?_) (fun q7 => ?_)
    · refine z_iconst D_w_isPlaceTold_28 ?_
      exact z_zreturn rfl (by first | exact Or.inl rfl | exact Or.inr rfl | exact zb_01 _) D_w_isPlaceTold_29 (pvI (by rw [show h w 4 = i by omega, zb_f ht]) rfl)
    · refine z_aload_n D_w_isPlaceTold_10 rfl ?_
      refine z_getR (q := (w + 2)) fl_w_15 (kw hw) rfl (kw1 hw) D_w_isPlaceTold_11 ?_
      refine z_iload_n D_w_isPlaceTold_14 rfl ?_
      refine z_iald (n := 6) (kws hw) (by omega) D_w_isPlaceTold_15 ?_
      rw [hSi (by omega)]
      have hbi := hbi (by omega)
      refine z_iload_n D_w_isPlaceTold_16 rfl ?_
      refine z_icmp_ne (tgt := 22) D_w_isPlaceTold_17 (by decide) (by omega) (by omega) (fun q17 => ?_) (fun q17 => ?_)
      · refine z_iinc_2 D_w_isPlaceTold_22 (Nat.le_of_ble_eq_true rfl) rfl ?_
        refine z_goto (tgt := 2) D_w_isPlaceTold_25 (by decide) ?_
        refine ih (i + 1) (by omega) (by omega) (by omega) (fun q => ?_)
        obtain ⟨p, p0, p1, p2⟩ := (told_iff _ _ _).mp q
        by_cases e : p = i
        · rw [e] at p2; exact q17 p2
        · exact ht ((told_iff _ _ _).mpr ⟨p, p0, by omega, p2⟩)
      · refine z_iconst D_w_isPlaceTold_20 ?_
        exact z_zreturn rfl (by first | exact Or.inl rfl | exact Or.inr rfl | exact zb_01 _) D_w_isPlaceTold_21 (pvI (by rw [zb_t ((told_iff _ _ _).mpr ⟨i, h0, by omega, q17⟩)]) rfl)
theorem c_w_isPlaceTold {h : zH} {w : Nat} {v : Int} {S : Int → Int} (hw : w = 3 ∨ w = 7) (hn : 0 ≤ h w 4 ∧ h w 4 ≤ 6) (hS : ∀ j, 0 ≤ j → j < h w 4 → h (w + 2) j.toNat = S j) (hb : ∀ j, 0 ≤ j → j < h w 4 → 0 ≤ S j ∧ S j ≤ 12) (r_v : -2147483648 ≤ v ∧ v ≤ 2147483647) : zC M_w_isPlaceTold [vR w, vI v] h (pV (vI (zb (told S v (h w 4).toNat = true))) h) := by
  refine zC.ofN 1 (by decide) (by first | decide | exact Nat.le_of_ble_eq_true rfl) ?_
  show Z M_w_isPlaceTold _ 0 [vR w, vI v, vU] [] h
  refine z_iconst D_w_isPlaceTold_0 ?_
  refine z_istore_2 D_w_isPlaceTold_1 (Nat.le_of_ble_eq_true rfl) rfl ?_
  exact l_w_isPlaceTold hw hn hS hb r_v (7 : Nat) 0 (by omega) (by omega) (by omega) (fun q => absurd (show false = true from q) (by decide))

theorem c_t_readPane {h : zH} {w : Nat} {z : Pst} (hw : w = 3 ∨ w = 7) (hT : TX h) (hc : 0 ≤ h 1 2 ∧ h 1 2 ≤ h 1 1) (hs : 0 ≤ h 1 3) (hS : SX h w z) (hz : OKs z) : zC M_t_readPane [vR 1, vR w] h (PX h w (itC (tx h) (h 1 1) (h 1 3) (h 1 2) z)) := by
  refine zC.ofN 0 (by decide) (by first | decide | exact Nat.le_of_ble_eq_true rfl) ?_
  show Z M_t_readPane _ 0 [vR 1, vR w] [] h
  have s1 := hS.1
  have s2 := hS.2.1
  have s3 := hS.2.2.1
  have s4 := hS.2.2.2.1
  have b1 := hz.1
  have b2 := hz.2.1
  have b3 := hz.2.2.1
  have b4 := hz.2.2.2.1
  have hL := hT.1
  refine z_aload_n D_t_readPane_0 rfl ?_
  refine z_getI fl_t_62 (kw hw) rfl D_t_readPane_1 ?_
  refine z_bipush (by decide) D_t_readPane_4 ?_
  refine z_icmp_ge (tgt := 18) D_t_readPane_6 (by decide) (by omega) (by omega) (fun q6 => ?_) (fun q6 => ?_)
  · refine z_iconst D_t_readPane_18 ?_
    refine z_zreturn rfl (by decide) D_t_readPane_19 ?_
    unfold itC
    rw [if_pos (by omega)]
    exact PX.bad (TK.rfl'.fx w) hs rfl
  · refine z_aload_n D_t_readPane_9 rfl ?_
    refine z_iconst D_t_readPane_10 ?_
    refine z_iconst D_t_readPane_11 ?_
    refine z_V2q (c0 := 9) (c_t_readNumber hT hc (by omega) (by omega)) G_t_readNumber I_t_readNumber lk_t_65 (rfl) ⟨by decide, rfl⟩ ⟨Nat.le_of_ble_eq_true rfl, Nat.le_of_ble_eq_true rfl⟩ (Nat.le_of_ble_eq_true rfl) D_t_readPane_12 (fun v9 h9 hp9 => ?_)
    obtain ⟨rfl, hR⟩ := hp9
    show Z _ _ _ _ [vI (zb _)] _
    have ht := tk_in (T := tx h) hc.2
    have r1 := hR.1
    have r2 := hR.2.1
    have r3 := hR.2.2.1
    have r5 := hR.2.2.2.2.1
    have r6 := hR.2.2.2.2.2
    have hS9 := hS.tk r1 hw
    have hF9 := r1.fx w
    have eW : h9 w = h w := r1.1 w (by omega)
    refine z_ifneB (tgt := 20) D_t_readPane_15 (by decide) (fun q15 => ?_) (fun q15 => ?_)
    · refine z_aload_n D_t_readPane_20 rfl ?_
      refine z_getR (q := (w + 1)) fl_t_69 (kw hw) rfl (kw0 hw) D_t_readPane_21 ?_
      refine z_aload_n D_t_readPane_24 rfl ?_
      refine z_getI fl_t_62 (kw hw) rfl D_t_readPane_25 ?_
      refine z_aload_n D_t_readPane_28 rfl ?_
      refine z_getI fl_t_47 (rfl) rfl D_t_readPane_29 ?_
      refine z_iast (n := 12) (kwp hw) (by rw [eW]; omega) D_t_readPane_32 ?_
      refine z_aload_n D_t_readPane_33 rfl ?_
      refine z_dup rfl D_t_readPane_34 ?_
      refine z_getI fl_t_62 (kw hw) rfl D_t_readPane_35 ?_
      rw [show zup h9 (w + 1) (h9 w 3).toNat (h9 1 5) w 3 = z.1 by rw [zup_ne (by omega), eW, s1]]
      refine z_iconst D_t_readPane_38 ?_
      refine z_iadd D_t_readPane_39 ?_
      refine z_putI fl_t_62 (kw hw) rfl rfl D_t_readPane_40 ?_
      refine z_aload_n D_t_readPane_43 rfl ?_
      have r5 := r5 (Or.inr q15.1)
      have e93 : h9 w 3 = z.1 := by rw [eW, s1]
      have hFg : FX h (zup (zup h9 (w + 1) (h9 w 3).toNat (h9 1 5)) w 3 (z.1 + 1)) w := (hF9.putW hw (by omega)).putW hw (by omega)
      have hSg : SX (zup (zup h9 (w + 1) (h9 w 3).toNat (h9 1 5)) w 3 (z.1 + 1)) w (z.1 + 1, upI z.2.1 z.1 (tkV (tx h) (h 1 1) (h 1 2)), z.2.2) := by
        obtain ⟨x1, x2, x3, x4, x5, x6, x7, x8, x9⟩ := hS9
        refine ⟨zup_same, ?_, ?_, ?_, ?_, ?_, fun j j0 j1 => ?_, fun j j0 j1 => ?_, fun j j0 j1 => ?_⟩
        · rw [zup_nk (by decide), zup_ne (by omega)]; exact x2
        · rw [zup_ne (by omega), zup_ne (by omega)]; exact x3
        · rw [zup_ne (by omega), zup_ne (by omega)]; exact x4
        · rw [zup_nk (by decide), zup_ne (by omega)]; exact x5
        · rw [zup_nk (by decide), zup_ne (by omega)]; exact x6
        · dsimp only at j1 ⊢
          rw [zup_ne (by omega), e93]
          by_cases e : j = z.1
          · rw [e, upI_eq, zup_same, r5]
          · rw [upI_ne e, zup_nk (by omega)]; exact x7 j j0 (by omega)
        · rw [zup_ne (by omega), zup_ne (by omega)]; exact x8 j j0 j1
        · rw [zup_ne (by omega), zup_ne (by omega)]; exact x9 j j0 j1
      have hg2 : (zup (zup h9 (w + 1) (h9 w 3).toNat (h9 1 5)) w 3 (z.1 + 1)) 1 2 = tkN (tx h) (h 1 1) (h 1 2) := by rw [zup_ne (by omega), zup_ne (by omega), r2]
      refine z_V0q (c0 := 9) (c_t_readSemicolon (hFg.ok hw hT) (by rw [hFg.2, hg2]; omega)) G_t_readSemicolon I_t_readSemicolon lk_t_72 (rfl) ⟨by decide, rfl⟩ ⟨Nat.le_of_ble_eq_true rfl, Nat.le_of_ble_eq_true rfl⟩ (Nat.le_of_ble_eq_true rfl) D_t_readPane_44 (fun v8 h8 hp8 => ?_)
      obtain ⟨hv8, hR8⟩ := hp8
      subst hv8
      show Z _ _ _ _ [vI (zb _)] _
      refine z_zreturn rfl (zb_01 _) D_t_readPane_47 ?_
      unfold itC
      rw [if_neg (by omega), if_pos q15]
      exact PX.fin hw hFg hSg hg2 (by omega) rfl hR8
    · refine z_iconst D_t_readPane_18 ?_
      refine z_zreturn rfl (by decide) D_t_readPane_19 ?_
      unfold itC
      rw [if_neg (by omega), if_neg q15]
      exact PX.bad hF9 (by show 0 ≤ tkS _ _ _; omega) r3

theorem zb_fn {c : Prop} [Decidable c] (h : zb c = 0) : ¬ c := fun q => absurd (h.symm.trans (zb_t q)) (by decide)
theorem zb_tn {c : Prop} [Decidable c] (h : ¬ zb c = 0) : c := Classical.byContradiction (fun q => h (zb_f q))
theorem c_t_readKeeps {h : zH} {w : Nat} {z : Pst} (hw : w = 3 ∨ w = 7) (hT : TX h) (hc : 0 ≤ h 1 2 ∧ h 1 2 ≤ h 1 1) (hs : 0 ≤ h 1 3) (hS : SX h w z) (hz : OKs z) : zC M_t_readKeeps [vR 1, vR w] h (PX h w (itK (tx h) (h 1 1) (h 1 3) (h 1 2) z)) := by
  refine zC.ofN 0 (by decide) (by first | decide | exact Nat.le_of_ble_eq_true rfl) ?_
  show Z M_t_readKeeps _ 0 [vR 1, vR w] [] h
  have s1 := hS.1
  have s2 := hS.2.1
  have s3 := hS.2.2.1
  have s4 := hS.2.2.2.1
  have b1 := hz.1
  have b2 := hz.2.1
  have b3 := hz.2.2.1
  have b4 := hz.2.2.2.1
  have hL := hT.1
  refine z_aload_n D_t_readKeeps_0 rfl ?_
  refine z_getI fl_t_27 (rfl) rfl D_t_readKeeps_1 ?_
  refine z_if_ne (tgt := 17) D_t_readKeeps_4 (by decide) (by rw [s3]; unfold zb; split <;> omega) (fun q4 => ?_) (fun q4 => ?_)
  · refine z_iconst D_t_readKeeps_17 ?_
    refine z_zreturn rfl (by decide) D_t_readKeeps_18 ?_
    unfold itK
    rw [if_pos (zb_tn (fun e => q4 (s3.trans e)))]
    exact PX.bad (TK.rfl'.fx w) hs rfl
  · refine z_aload_n D_t_readKeeps_7 rfl ?_
    refine z_iconst D_t_readKeeps_8 ?_
    refine z_bipush (by decide) D_t_readKeeps_9 ?_
    refine z_V2q (c0 := 9) (c_t_readNumber hT hc (by omega) (by omega)) G_t_readNumber I_t_readNumber lk_t_65 (rfl) ⟨by decide, rfl⟩ ⟨Nat.le_of_ble_eq_true rfl, Nat.le_of_ble_eq_true rfl⟩ (Nat.le_of_ble_eq_true rfl) D_t_readKeeps_11 (fun v9 h9 hp9 => ?_)
    obtain ⟨rfl, hR⟩ := hp9
    show Z _ _ _ _ [vI (zb _)] _
    have ht := tk_in (T := tx h) hc.2
    have r1 := hR.1
    have r2 := hR.2.1
    have r3 := hR.2.2.1
    have r5 := hR.2.2.2.2.1
    have r6 := hR.2.2.2.2.2
    have hS9 := hS.tk r1 hw
    have hF9 := r1.fx w
    have eW : h9 w = h w := r1.1 w (by omega)
    refine z_ifneB (tgt := 19) D_t_readKeeps_14 (by decide) (fun q14 => ?_) (fun q14 => ?_)
    · refine z_aload_n D_t_readKeeps_19 rfl ?_
      refine z_iconst D_t_readKeeps_20 ?_
      refine z_putB fl_t_27 (rfl) rfl rfl (by first | exact Or.inl rfl | exact Or.inr rfl | exact zb_01 _) D_t_readKeeps_21 ?_
      refine z_aload_n D_t_readKeeps_24 rfl ?_
      refine z_aload_n D_t_readKeeps_25 rfl ?_
      refine z_getI fl_t_47 (rfl) rfl D_t_readKeeps_26 ?_
      refine z_putI fl_t_76 (kw hw) rfl rfl D_t_readKeeps_29 ?_
      refine z_aload_n D_t_readKeeps_32 rfl ?_
      have r5 := r5 (Or.inr q14.1)
      have e5 : zup h9 1 6 1 1 5 = h9 1 5 := zup_nk (by decide)
      rw [e5]
      have hFg : FX h (zup (zup h9 1 6 1) w 5 (h9 1 5)) w := (hF9.put1 (by decide)).putW hw (by omega)
      have hSg : SX (zup (zup h9 1 6 1) w 5 (h9 1 5)) w (z.1, z.2.1, tkV (tx h) (h 1 1) (h 1 2), z.2.2.2) := by
        obtain ⟨x1, x2, x3, x4, x5, x6, x7, x8, x9⟩ := hS9
        refine ⟨?_, ?_, ?_, ?_, ?_, ?_, fun j j0 j1 => ?_, fun j j0 j1 => ?_, fun j j0 j1 => ?_⟩
        · rw [zup_nk (by decide), zup_ne (by omega)]; exact x1
        · rw [zup_nk (by decide), zup_ne (by omega)]; exact x2
        · rw [zup_ne (by omega), zup_same, zb_t (by dsimp only; omega)]
        · rw [zup_ne (by omega), zup_nk (by decide)]; exact x4
        · rw [zup_same, if_pos (by dsimp only; omega)]; exact r5
        · rw [zup_nk (by decide), zup_ne (by omega)]; exact x6
        · rw [zup_ne (by omega), zup_ne (by omega)]; exact x7 j j0 j1
        · rw [zup_ne (by omega), zup_ne (by omega)]; exact x8 j j0 j1
        · rw [zup_ne (by omega), zup_ne (by omega)]; exact x9 j j0 j1
      have hg2 : (zup (zup h9 1 6 1) w 5 (h9 1 5)) 1 2 = tkN (tx h) (h 1 1) (h 1 2) := by rw [zup_ne (by omega), zup_nk (by decide), r2]
      refine z_V0q (c0 := 9) (c_t_readSemicolon (hFg.ok hw hT) (by rw [hFg.2, hg2]; omega)) G_t_readSemicolon I_t_readSemicolon lk_t_72 (rfl) ⟨by decide, rfl⟩ ⟨Nat.le_of_ble_eq_true rfl, Nat.le_of_ble_eq_true rfl⟩ (Nat.le_of_ble_eq_true rfl) D_t_readKeeps_33 (fun v8 h8 hp8 => ?_)
      obtain ⟨hv8, hR8⟩ := hp8
      subst hv8
      show Z _ _ _ _ [vI (zb _)] _
      refine z_zreturn rfl (zb_01 _) D_t_readKeeps_36 ?_
      unfold itK
      rw [if_neg (zb_fn (s3.symm.trans q4)), if_pos q14]
      exact PX.fin hw hFg hSg hg2 (by omega) rfl hR8
    · refine z_iconst D_t_readKeeps_17 ?_
      refine z_zreturn rfl (by decide) D_t_readKeeps_18 ?_
      unfold itK
      rw [if_neg (zb_fn (s3.symm.trans q4)), if_neg q14]
      exact PX.bad hF9 (by show 0 ≤ tkS _ _ _; omega) r3

theorem c_t_readDrag {h : zH} {w : Nat} {z : Pst} (hw : w = 3 ∨ w = 7) (hT : TX h) (hc : 0 ≤ h 1 2 ∧ h 1 2 ≤ h 1 1) (hs : 0 ≤ h 1 3) (hS : SX h w z) (hz : OKs z) : zC M_t_readDrag [vR 1, vR w] h (PX h w (itD (tx h) (h 1 1) (h 1 3) (h 1 2) z)) := by
  refine zC.ofN 0 (by decide) (by first | decide | exact Nat.le_of_ble_eq_true rfl) ?_
  show Z M_t_readDrag _ 0 [vR 1, vR w] [] h
  have s1 := hS.1
  have s2 := hS.2.1
  have s3 := hS.2.2.1
  have s4 := hS.2.2.2.1
  have b1 := hz.1
  have b2 := hz.2.1
  have b3 := hz.2.2.1
  have b4 := hz.2.2.2.1
  have hL := hT.1
  refine z_aload_n D_t_readDrag_0 rfl ?_
  refine z_getI fl_t_31 (rfl) rfl D_t_readDrag_1 ?_
  refine z_if_ne (tgt := 17) D_t_readDrag_4 (by decide) (by rw [s4]; unfold zb; split <;> omega) (fun q4 => ?_) (fun q4 => ?_)
  · refine z_iconst D_t_readDrag_17 ?_
    refine z_zreturn rfl (by decide) D_t_readDrag_18 ?_
    unfold itD
    rw [if_pos (zb_tn (fun e => q4 (s4.trans e)))]
    exact PX.bad (TK.rfl'.fx w) hs rfl
  · refine z_aload_n D_t_readDrag_7 rfl ?_
    refine z_iconst D_t_readDrag_8 ?_
    refine z_bipush (by decide) D_t_readDrag_9 ?_
    refine z_V2q (c0 := 9) (c_t_readNumber hT hc (by omega) (by omega)) G_t_readNumber I_t_readNumber lk_t_65 (rfl) ⟨by decide, rfl⟩ ⟨Nat.le_of_ble_eq_true rfl, Nat.le_of_ble_eq_true rfl⟩ (Nat.le_of_ble_eq_true rfl) D_t_readDrag_11 (fun v9 h9 hp9 => ?_)
    obtain ⟨rfl, hR⟩ := hp9
    show Z _ _ _ _ [vI (zb _)] _
    have ht := tk_in (T := tx h) hc.2
    have r1 := hR.1
    have r2 := hR.2.1
    have r3 := hR.2.2.1
    have r5 := hR.2.2.2.2.1
    have r6 := hR.2.2.2.2.2
    have hS9 := hS.tk r1 hw
    have hF9 := r1.fx w
    have eW : h9 w = h w := r1.1 w (by omega)
    refine z_ifneB (tgt := 19) D_t_readDrag_14 (by decide) (fun q14 => ?_) (fun q14 => ?_)
    · refine z_aload_n D_t_readDrag_19 rfl ?_
      refine z_iconst D_t_readDrag_20 ?_
      refine z_putB fl_t_31 (rfl) rfl rfl (by first | exact Or.inl rfl | exact Or.inr rfl | exact zb_01 _) D_t_readDrag_21 ?_
      refine z_aload_n D_t_readDrag_24 rfl ?_
      refine z_aload_n D_t_readDrag_25 rfl ?_
      refine z_getI fl_t_47 (rfl) rfl D_t_readDrag_26 ?_
      refine z_putI fl_t_79 (kw hw) rfl rfl D_t_readDrag_29 ?_
      refine z_aload_n D_t_readDrag_32 rfl ?_
      have r5 := r5 (Or.inr q14.1)
      have e5 : zup h9 1 7 1 1 5 = h9 1 5 := zup_nk (by decide)
      rw [e5]
      have hFg : FX h (zup (zup h9 1 7 1) w 6 (h9 1 5)) w := (hF9.put1 (by decide)).putW hw (by omega)
      have hSg : SX (zup (zup h9 1 7 1) w 6 (h9 1 5)) w (z.1, z.2.1, z.2.2.1, tkV (tx h) (h 1 1) (h 1 2), z.2.2.2.2) := by
        obtain ⟨x1, x2, x3, x4, x5, x6, x7, x8, x9⟩ := hS9
        refine ⟨?_, ?_, ?_, ?_, ?_, ?_, fun j j0 j1 => ?_, fun j j0 j1 => ?_, fun j j0 j1 => ?_⟩
        · rw [zup_nk (by decide), zup_ne (by omega)]; exact x1
        · rw [zup_nk (by decide), zup_ne (by omega)]; exact x2
        · rw [zup_ne (by omega), zup_nk (by decide)]; exact x3
        · rw [zup_ne (by omega), zup_same, zb_t (by dsimp only; omega)]
        · rw [zup_nk (by decide), zup_ne (by omega)]; exact x5
        · rw [zup_same, if_pos (by dsimp only; omega)]; exact r5
        · rw [zup_ne (by omega), zup_ne (by omega)]; exact x7 j j0 j1
        · rw [zup_ne (by omega), zup_ne (by omega)]; exact x8 j j0 j1
        · rw [zup_ne (by omega), zup_ne (by omega)]; exact x9 j j0 j1
      have hg2 : (zup (zup h9 1 7 1) w 6 (h9 1 5)) 1 2 = tkN (tx h) (h 1 1) (h 1 2) := by rw [zup_ne (by omega), zup_nk (by decide), r2]
      refine z_V0q (c0 := 9) (c_t_readSemicolon (hFg.ok hw hT) (by rw [hFg.2, hg2]; omega)) G_t_readSemicolon I_t_readSemicolon lk_t_72 (rfl) ⟨by decide, rfl⟩ ⟨Nat.le_of_ble_eq_true rfl, Nat.le_of_ble_eq_true rfl⟩ (Nat.le_of_ble_eq_true rfl) D_t_readDrag_33 (fun v8 h8 hp8 => ?_)
      obtain ⟨hv8, hR8⟩ := hp8
      subst hv8
      show Z _ _ _ _ [vI (zb _)] _
      refine z_zreturn rfl (zb_01 _) D_t_readDrag_36 ?_
      unfold itD
      rw [if_neg (zb_fn (s4.symm.trans q4)), if_pos q14]
      exact PX.fin hw hFg hSg hg2 (by omega) rfl hR8
    · refine z_iconst D_t_readDrag_17 ?_
      refine z_zreturn rfl (by decide) D_t_readDrag_18 ?_
      unfold itD
      rw [if_neg (zb_fn (s4.symm.trans q4)), if_neg q14]
      exact PX.bad hF9 (by show 0 ≤ tkS _ _ _; omega) r3

