/-! look -/
theorem c_x_colourBehindE {h h1 : zH} {w : Nat} {s v : Int} (hx : XI h w) (hE : ∀ a, a < 33 → h1 a = h a) (hs : 0 ≤ s ∧ s < h w 3) (hv : -9 ≤ v ∧ v ≤ 60) : zC M_x_colourBehind [vR 0, vI s, vI v] h1 (pV (vI (gx h w s v)) h1) := by
  have hw := hx.2.1
  rw [← gx_ext hw hE]
  exact c_x_colourBehind (hx.ext hE) (by rw [hE w (by omega)]; exact hs) hv
theorem c_m_shadeOfE {h h1 : zH} {s v : Int} (hm : MI h) (hE : ∀ a, a < 51 → h1 a = h a) (hs : 0 ≤ s ∧ s < h 39 0) (hv : -9 ≤ v ∧ v ≤ 60) : zC M_m_shadeOf [vR 39, vI s, vI v] h1 (pV (vI (gm h s v)) h1) := by
  rw [← gm_ext (fun a _ q => hE a q)]
  exact c_m_shadeOf (hm.ext (fun a _ q => hE a q)) (by rw [hE 39 (by omega)]; exact hs) hv
theorem c_m_isSeenE {h h1 : zH} {v : Int} (hm : MI h) (hs : SI (h 39 0) (h 39 9) (sm1 h) (sm2 h)) (hE : ∀ a, a < 51 → h1 a = h a) (hv : 1 ≤ v ∧ v ≤ 60) : zC M_m_isSeen [vR 39, vI v] h1 (pV (vI (zb (snB (gm h) (sm1 h) (sm2 h) (h 39 9) v = true))) h1) := by
  have e1 : sm1 h1 = sm1 h := by funext j; unfold sm1; rw [hE 45 (by omega)]
  have e2 : sm2 h1 = sm2 h := by funext j; unfold sm2; rw [hE 45 (by omega)]
  have e3 : h1 39 = h 39 := hE 39 (by omega)
  have q := c_m_isSeen (h := h1) (v := v) (hm.ext (fun a _ q => hE a q)) (by rw [e1, e2, e3]; exact hs) hv
  rw [e1, e2, e3, gm_ext (fun a _ q => hE a q)] at q
  exact q
theorem c_m_spun0 {h : zH} (hm : MI h) (hs : SI (h 39 0) (h 39 9) (sm1 h) (sm2 h)) : zC M_m_spun [vR 39, vI 0] h (pV (vI (spn (snB (gm h) (sm1 h) (sm2 h) (h 39 9)) 60).1) h) := by
  have q := c_m_spun (t := 0) hm hs (by omega)
  rw [if_pos (by omega), if_pos rfl] at q
  exact q
def stL (b : Int → Bool) (g : Int → Int → Int) (i : Int) (s : Int × Int) : Int × Int := if s.1 < 0 ∨ mst b (g i) 60 < s.2 then (i, mst b (g i) 60) else s
def lkF (b : Int → Bool) (g : Int → Int → Int) (m : Nat) : Int × Int := iter (stL b g) (-9, 0) m
theorem lkF_1 {b : Int → Bool} {g : Int → Int → Int} {i : Int} (h : 0 ≤ i) : lkF b g (i + 1).toNat = stL b g i (lkF b g i.toNat) := iter_1 h
theorem lkF_in (b : Int → Bool) (g : Int → Int → Int) (n : Nat) (hn : (n : Int) ≤ 12) : ((lkF b g n).1 = -9 ∧ (lkF b g n).2 = 0) ∨ (0 ≤ (lkF b g n).1 ∧ (lkF b g n).1 ≤ 12 ∧ 0 ≤ (lkF b g n).2 ∧ (lkF b g n).2 ≤ 60) := by
  refine iter_invB (fun s : Int × Int => (s.1 = -9 ∧ s.2 = 0) ∨ (0 ≤ s.1 ∧ s.1 ≤ 12 ∧ 0 ≤ s.2 ∧ s.2 ≤ 60)) 12 (Or.inl ⟨rfl, rfl⟩) (fun i s h0 h1 h2 => ?_) n hn
  have h3 := mst_in b (g i) 60
  unfold stL
  split
  · right; exact ⟨h0, by dsimp only; omega, h3.1, by dsimp only; omega⟩
  · exact h2
theorem cnt_arr {b : Int → Bool} {f : Int → Int} {h1 : zH} {v : Int} {A : Nat} (hv : 1 ≤ v) (hf : 0 ≤ f v ∧ f v ≤ 5) (hA : ∀ c, 0 ≤ c → c ≤ 5 → h1 A c.toNat = cntB b f c (v - 1).toNat) (x : Int) (hx : x = zb (b v = true)) : ∀ c, 0 ≤ c → c ≤ 5 → zup h1 A (f v).toNat (h1 A (f v).toNat + x) A c.toNat = cntB b f c (v + 1 - 1).toNat := by
  intro c hc0 hc5
  rw [cntB_1 hv]
  by_cases hc : c = f v
  · subst hc
    rw [zup_same, hA _ hf.1 hf.2, hx]
    congr 1
    exact zb_eq (by simp)
  · rw [zup_nk (by omega), hA c hc0 hc5, zb_f (fun q => hc q.2.symm)]
    omega
theorem l_x_mostOfOneColour {h : zH} {w F : Nat} {s : Int} {b : Int → Bool} (hx : XI h w) (hs : 0 ≤ s ∧ s < h w 3) (hF : F < 2 ^ 62) (hb : ∀ v : Int, 1 ≤ v → v ≤ 60 → F.testBit v.toNat = b v) : ∀ (k : Nat) (v : Int) (h1 : zH) (y6 : zV), 1 ≤ v → v ≤ 61 → 61 - v < k → (∀ a, (a < 33 ∨ 38 < a) → h1 a = h a) → (∀ c, 0 ≤ c → c ≤ 5 → h1 35 c.toNat = cntB b (gx h w s) c (v - 1).toNat) → Z M_x_mostOfOneColour (pX (vI (mst b (gx h w s) 60)) h) 14 [vR 0, vI s, vL ((F : Nat) : Int), vU, vI (mst b (gx h w s) (v - 1).toNat), vI v, y6] [] h1 := by
  intro k
  induction k with
  | zero => intro v h1 y6 h0 h2 h3; omega
  | succ k ih =>
    intro v h1 y6 h0 h2 h3 hE hA
    have e := mst_1 (b := b) (f := gx h w s) h0
    have hg := gx_in hx s v
    have hc := cntB_in b (gx h w s) (gx h w s v) (v - 1).toNat
    have hm := mst_in b (gx h w s) (v - 1).toNat
    have hAv := hA _ hg.1 hg.2
    have hxt : v = 61 → mst b (gx h w s) (v - 1).toNat = mst b (gx h w s) 60 := fun e9 => by rw [e9]; rfl
    refine z_iload D_x_mostOfOneColour_14 rfl ?_
    refine z_bipush (by decide) D_x_mostOfOneColour_16 ?_
    refine z_icmp_gt (tgt := 72) D_x_mostOfOneColour_18 (by decide) (by omega) (by omega) (fun q18 => ?_) (fun q18 => ?_)
    · refine z_iload D_x_mostOfOneColour_72 rfl ?_
      exact z_ireturn rfl D_x_mostOfOneColour_74 (pxI (hxt (by omega)) hE)
    · refine z_lload_n D_x_mostOfOneColour_21 rfl ?_
      refine z_iload D_x_mostOfOneColour_22 rfl ?_
      refine z_lshr D_x_mostOfOneColour_24 F v.toNat rfl (by omega) (by omega) (by omega) ?_
      refine z_lconst1 D_x_mostOfOneColour_25 ?_
      refine z_land1 D_x_mostOfOneColour_26 (by omega) ?_
      refine z_lconst1 D_x_mostOfOneColour_27 ?_
      refine z_lcmp D_x_mostOfOneColour_28 _ 1 rfl rfl (by omega) (by decide) (fun z28 hz28 he28 => ?_)
      refine z_if_ne (tgt := 66) D_x_mostOfOneColour_29 (by decide) (by omega) (fun q29 => ?_) (fun q29 => ?_)
      · refine z_iinc_5 D_x_mostOfOneColour_66 (Nat.le_of_ble_eq_true rfl) rfl ?_
        refine z_goto (tgt := 14) D_x_mostOfOneColour_69 (by decide) ?_
        have hbf : ¬ b v = true := by
          rw [← hb v h0 (by omega), ← tb_iff]; omega
        rw [if_neg hbf] at e
        rw [← e]
        exact ih (v + 1) h1 _ (by omega) (by omega) (by omega) hE (fun c q1 q2 => by rw [cntB_1 h0, zb_f (fun q => hbf q.1), hA c q1 q2, Int.add_zero])
      · refine z_aload_n D_x_mostOfOneColour_32 rfl ?_
        refine z_iload_n D_x_mostOfOneColour_33 rfl ?_
        refine z_iload D_x_mostOfOneColour_34 rfl ?_
        refine z_V2 (c0 := 11) (c_x_colourBehindE hx (fun a q => hE a (Or.inl q)) hs (by omega)) G_x_colourBehind I_x_colourBehind lk_x_196 (rfl) ⟨by decide, rfl⟩ ⟨Nat.le_of_ble_eq_true rfl, Nat.le_of_ble_eq_true rfl⟩ (Nat.le_of_ble_eq_true rfl) D_x_mostOfOneColour_36 ?_
        refine z_istore_6 D_x_mostOfOneColour_39 (Nat.le_of_ble_eq_true rfl) rfl ?_
        refine z_aload_n D_x_mostOfOneColour_41 rfl ?_
        refine z_getR (q := 35) fl_x_87 (rfl) rfl (rfl) D_x_mostOfOneColour_42 ?_
        refine z_iload D_x_mostOfOneColour_45 rfl ?_
        refine z_dup2 rfl rfl D_x_mostOfOneColour_47 ?_
        refine z_iald (n := 6) (rfl) (by omega) D_x_mostOfOneColour_48 ?_
        refine z_iconst D_x_mostOfOneColour_49 ?_
        refine z_iadd D_x_mostOfOneColour_50 ?_
        refine z_iast (n := 6) (rfl) (by omega) D_x_mostOfOneColour_51 ?_
        refine z_iload D_x_mostOfOneColour_52 rfl ?_
        refine z_aload_n D_x_mostOfOneColour_54 rfl ?_
        refine z_getR (q := 35) fl_x_87 (rfl) rfl (rfl) D_x_mostOfOneColour_55 ?_
        refine z_iload D_x_mostOfOneColour_58 rfl ?_
        refine z_iald (n := 6) (rfl) (by omega) D_x_mostOfOneColour_60 ?_
        refine z_S2 (c_j_max (by omega) (by rw [zup_same]; omega)) G_j_max S_j_max lk_x_308 ⟨Nat.le_of_ble_eq_true rfl, Nat.le_of_ble_eq_true rfl⟩ (Nat.le_of_ble_eq_true rfl) D_x_mostOfOneColour_61 ?_
        refine z_istore_4 D_x_mostOfOneColour_64 (Nat.le_of_ble_eq_true rfl) rfl ?_
        refine z_iinc_5 D_x_mostOfOneColour_66 (Nat.le_of_ble_eq_true rfl) rfl ?_
        refine z_goto (tgt := 14) D_x_mostOfOneColour_69 (by decide) ?_
        have hbt : b v = true := by
          rw [← hb v h0 (by omega), ← tb_iff]; omega
        have hcA := cnt_arr (b := b) (f := gx h w s) (h1 := h1) (A := 35) h0 hg hA 1 (zb_t hbt).symm
        rw [if_pos hbt, ← hcA _ hg.1 hg.2] at e
        rw [← e]
        exact ih (v + 1) _ _ (by omega) (by omega) (by omega) (fun a q => by funext j; rw [zup_ne (by omega), hE a q]) hcA
theorem c_x_mostOfOneColour {h : zH} {w F : Nat} {s : Int} {b : Int → Bool} (hx : XI h w) (hs : 0 ≤ s ∧ s < h w 3) (hF : F < 2 ^ 62) (hb : ∀ v : Int, 1 ≤ v → v ≤ 60 → F.testBit v.toNat = b v) : zC M_x_mostOfOneColour [vR 0, vI s, vL ((F : Nat) : Int)] h (pX (vI (mst b (gx h w s) 60)) h) := by
  refine zC.ofN 3 (by decide) (by first | decide | exact Nat.le_of_ble_eq_true rfl) ?_
  show Z M_x_mostOfOneColour _ 0 [vR 0, vI s, vL ((F : Nat) : Int), vU, vU, vU, vU] [] h
  refine z_aload_n D_x_mostOfOneColour_0 rfl ?_
  refine z_getR (q := 35) fl_x_87 (rfl) rfl (rfl) D_x_mostOfOneColour_1 ?_
  refine z_iconst D_x_mostOfOneColour_4 ?_
  refine z_S2v (c_j_fill (n := 6) rfl (by omega)) G_j_fill S_j_fill lk_x_289 ⟨Nat.le_of_ble_eq_true rfl, Nat.le_of_ble_eq_true rfl⟩ (Nat.le_of_ble_eq_true rfl) D_x_mostOfOneColour_5 ?_
  refine z_iconst D_x_mostOfOneColour_8 ?_
  refine z_istore_4 D_x_mostOfOneColour_9 (Nat.le_of_ble_eq_true rfl) rfl ?_
  refine z_iconst D_x_mostOfOneColour_11 ?_
  refine z_istore_5 D_x_mostOfOneColour_12 (Nat.le_of_ble_eq_true rfl) rfl ?_
  refine l_x_mostOfOneColour hx hs hF hb (61 : Nat) 1 _ vU (by omega) (by omega) (by omega) (fun a q => ?_) (fun c q1 q2 => ?_)
  · funext j; unfold zfill; rw [if_neg (by omega)]
  · unfold zfill; rw [if_pos (by omega)]; rfl

theorem c_x_mostOfOneColourE {h h1 : zH} {w F : Nat} {s : Int} {b : Int → Bool} (hx : XI h w) (hE : ∀ a, (a < 33 ∨ 38 < a) → h1 a = h a) (hs : 0 ≤ s ∧ s < h w 3) (hF : F < 2 ^ 62) (hb : ∀ v : Int, 1 ≤ v → v ≤ 60 → F.testBit v.toNat = b v) : zC M_x_mostOfOneColour [vR 0, vI s, vL ((F : Nat) : Int)] h1 (pX (vI (mst b (gx h w s) 60)) h) := by
  have hw := hx.2.1
  have hE3 : ∀ a, a < 33 → h1 a = h a := fun a q => hE a (Or.inl q)
  have q := c_x_mostOfOneColour (b := b) (hx.ext hE3) (by rw [hE3 w (by omega)]; exact hs) hF hb
  rw [gx_ext hw hE3] at q
  exact q.weak (fun v h2 hp => ⟨hp.1, fun a ha => (hp.2 a ha).trans (hE a ha)⟩)
theorem l_x_look {h : zH} {w F : Nat} {b : Int → Bool} (hx : XI h w) (hF : F < 2 ^ 62) (hb : ∀ v : Int, 1 ≤ v → v ≤ 60 → F.testBit v.toNat = b v) : ∀ (k : Nat) (i l4 : Int) (h1 : zH) (y6 : zV), 0 ≤ i → i ≤ h w 3 → h w 3 - i < k → (∀ a, (a < 33 ∨ 38 < a) → h1 a = h a) → (0 ≤ (lkF b (gx h w) i.toNat).1 → l4 = (lkF b (gx h w) i.toNat).2) → (-9 ≤ l4 ∧ l4 ≤ 60) → Z M_x_look (pX (vI (lkF b (gx h w) (h w 3).toNat).1) h) 24 [vR 0, vL ((F : Nat) : Int), vU, vI (lkF b (gx h w) i.toNat).1, vI l4, vI i, y6] [] h1 := by
  intro k
  induction k with
  | zero => intro i l4 h1 y6 h0 h2 h3; omega
  | succ k ih =>
    intro i l4 h1 y6 h0 h2 h3 hE hl hl4
    have hw := hx.2.1
    have hn := hx.2.2.2.hn
    have ew : h1 w = h w := hE w (by omega)
    have e0 : h1 0 1 = (w : Int) := by rw [hE 0 (by omega)]; exact hx.1
    have e := lkF_1 (b := b) (g := gx h w) h0
    have hr := lkF_in b (gx h w) i.toNat (by omega)
    have hm := mst_in b (gx h w i) 60
    have q := fun l9 h9 => ih (i + 1) l9 h9 (vI (mst b (gx h w i) 60)) (by omega)
    rw [e] at q
    have hxt : i = h w 3 → (lkF b (gx h w) i.toNat).1 = (lkF b (gx h w) (h w 3).toNat).1 := fun e9 => by rw [e9]
    generalize lkF b (gx h w) i.toNat = S at q hr hxt hl ⊢
    obtain ⟨p, m⟩ := S
    have hT : (p < 0 ∨ mst b (gx h w i) 60 < m) → stL b (gx h w) i (p, m) = (i, mst b (gx h w i) 60) := fun c9 => if_pos c9
    have hT2 : ¬ (p < 0 ∨ mst b (gx h w i) 60 < m) → stL b (gx h w) i (p, m) = (p, m) := fun c9 => if_neg c9
    dsimp only at hr hxt hl ⊢
    refine z_iload D_x_look_24 rfl ?_
    refine z_aload_n D_x_look_26 rfl ?_
    refine z_getW fl_x_19 (by decide) e0 D_x_look_27 ?_
    refine z_getI fl_x_155 (kw hw) rfl D_x_look_30 ?_
    refine z_icmp_ge (tgt := 71) D_x_look_33 (by decide) (by omega) (by rw [ew]; omega) (fun q33 => ?_) (fun q33 => ?_)
    · refine z_iload_n D_x_look_71 rfl ?_
      exact z_ireturn rfl D_x_look_72 (pxI (hxt (by rw [ew] at q33; omega)) hE)
    · refine z_aload_n D_x_look_36 rfl ?_
      refine z_iload D_x_look_37 rfl ?_
      refine z_lload_n D_x_look_39 rfl ?_
      refine z_V2q (c0 := 11) (c_x_mostOfOneColourE hx hE (by rw [ew] at q33; omega) hF hb) G_x_mostOfOneColour I_x_mostOfOneColour lk_x_227 (rfl) ⟨by decide, rfl⟩ ⟨Nat.le_of_ble_eq_true rfl, Nat.le_of_ble_eq_true rfl⟩ (Nat.le_of_ble_eq_true rfl) D_x_look_40 (fun v9 h9 hp9 => ?_)
      obtain ⟨rfl, hE9⟩ := hp9
      show Z _ _ _ _ [vI (mst b (gx h w i) 60)] _
      refine z_istore_6 D_x_look_43 (Nat.le_of_ble_eq_true rfl) rfl ?_
      refine z_iload_n D_x_look_45 rfl ?_
      refine z_bipush (by decide) D_x_look_46 ?_
      refine z_icmp_eq (tgt := 58) D_x_look_48 (by decide) (by omega) (by omega) (fun q48 => ?_) (fun q48 => ?_)
      · refine z_iload D_x_look_58 rfl ?_
        refine z_istore_3 D_x_look_60 (Nat.le_of_ble_eq_true rfl) rfl ?_
        refine z_iload D_x_look_61 rfl ?_
        refine z_istore_4 D_x_look_63 (Nat.le_of_ble_eq_true rfl) rfl ?_
        refine z_iinc_5 D_x_look_65 (Nat.le_of_ble_eq_true rfl) rfl ?_
        refine z_goto (tgt := 24) D_x_look_68 (by decide) ?_
        rw [ew] at q33
        first
        | (rw [hT (by omega)] at q; exact q _ _ (by omega) (by omega) hE9 (fun _ => rfl) (by omega))
        | (rw [hT2 (by omega)] at q; exact q _ _ (by omega) (by omega) hE9 (fun _ => hl (by omega)) (by omega))
      · refine z_iload D_x_look_51 rfl ?_
        refine z_iload D_x_look_53 rfl ?_
        refine z_icmp_ge (tgt := 65) D_x_look_55 (by decide) (by omega) (by omega) (fun q55 => ?_) (fun q55 => ?_)
        · refine z_iinc_5 D_x_look_65 (Nat.le_of_ble_eq_true rfl) rfl ?_
          refine z_goto (tgt := 24) D_x_look_68 (by decide) ?_
          rw [ew] at q33
          first
          | (rw [hT (by omega)] at q; exact q _ _ (by omega) (by omega) hE9 (fun _ => rfl) (by omega))
          | (rw [hT2 (by omega)] at q; exact q _ _ (by omega) (by omega) hE9 (fun _ => hl (by omega)) (by omega))
        · refine z_iload D_x_look_58 rfl ?_
          refine z_istore_3 D_x_look_60 (Nat.le_of_ble_eq_true rfl) rfl ?_
          refine z_iload D_x_look_61 rfl ?_
          refine z_istore_4 D_x_look_63 (Nat.le_of_ble_eq_true rfl) rfl ?_
          refine z_iinc_5 D_x_look_65 (Nat.le_of_ble_eq_true rfl) rfl ?_
          refine z_goto (tgt := 24) D_x_look_68 (by decide) ?_
          rw [ew] at q33
          first
          | (rw [hT (by omega)] at q; exact q _ _ (by omega) (by omega) hE9 (fun _ => rfl) (by omega))
          | (rw [hT2 (by omega)] at q; exact q _ _ (by omega) (by omega) hE9 (fun _ => hl (by omega)) (by omega))
theorem bits_b {b : Int → Bool} : ∀ v : Int, 1 ≤ v → v ≤ 60 → (bitsF b 60).testBit v.toNat = b v := by
  intro v h1 h2
  rw [bitsF_tb, tn (by omega)]
  have a1 : decide (1 ≤ v.toNat) = true := decide_eq_true (by omega)
  have a2 : decide (v.toNat ≤ 60) = true := decide_eq_true (by omega)
  rw [a1, a2]
  rfl
theorem c_x_look {h : zH} {w : Nat} (hx : XI h w) (hs : SI (h w 3) (h 19 2) (sx1 h) (sx2 h)) : zC M_x_look [vR 0] h (pX (vI (if (spn (snB (gx h w) (sx1 h) (sx2 h) (h 19 2)) 60).1 = 0 then -9 else (lkF (snB (gx h w) (sx1 h) (sx2 h) (h 19 2)) (gx h w) (h w 3).toNat).1)) h) := by
  refine zC.ofN 6 (by decide) (by first | decide | exact Nat.le_of_ble_eq_true rfl) ?_
  show Z M_x_look _ 0 [vR 0, vU, vU, vU, vU, vU, vU] [] h
  refine z_aload_n D_x_look_0 rfl ?_
  refine z_V0 (c0 := 11) (c_x_speedsAsSeen hx hs) G_x_speedsAsSeen I_x_speedsAsSeen lk_x_223 (rfl) ⟨by decide, rfl⟩ ⟨Nat.le_of_ble_eq_true rfl, Nat.le_of_ble_eq_true rfl⟩ (Nat.le_of_ble_eq_true rfl) D_x_look_1 ?_
  refine z_lstore_1 D_x_look_4 (Nat.le_of_ble_eq_true rfl) rfl ?_
  refine z_lload_n D_x_look_5 rfl ?_
  refine z_lconst0 D_x_look_6 ?_
  refine z_lcmp D_x_look_7 _ 0 rfl rfl (by have := bitsF_lt (snB (gx h w) (sx1 h) (sx2 h) (h 19 2)) 60; omega) (by decide) (fun z7 hz7 he7 => ?_)
  refine z_if_ne (tgt := 14) D_x_look_8 (by decide) (by omega) (fun q8 => ?_) (fun q8 => ?_)
  · refine z_bipush (by decide) D_x_look_14 ?_
    refine z_istore_3 D_x_look_16 (Nat.le_of_ble_eq_true rfl) rfl ?_
    refine z_bipush (by decide) D_x_look_17 ?_
    refine z_istore_4 D_x_look_19 (Nat.le_of_ble_eq_true rfl) rfl ?_
    refine z_iconst D_x_look_21 ?_
    refine z_istore_5 D_x_look_22 (Nat.le_of_ble_eq_true rfl) rfl ?_
    rw [if_neg (fun q => q8 (he7.mpr ((bitsF_0 _ _).mpr q)))]
    have hn := hx.2.2.2.hn
    exact l_x_look (b := snB (gx h w) (sx1 h) (sx2 h) (h 19 2)) hx (by have := bitsF_lt (snB (gx h w) (sx1 h) (sx2 h) (h 19 2)) 60; omega) bits_b (13 : Nat) 0 (-9) h vU (by omega) (by omega) (by omega) (fun a q => rfl) (fun q => absurd (show (0 : Int) ≤ -9 from q) (by decide)) (by omega)
  · refine z_bipush (by decide) D_x_look_11 ?_
    exact z_ireturn rfl D_x_look_13 (pxI (by rw [if_pos ((bitsF_0 _ _).mp (he7.mp q8))]) (fun a q => rfl))

theorem l_m_look_fill {h : zH} {post : Option zV → zH → Prop} {A B C y5 y6 : zV} (hC : vlong C = false) (K : ∀ h2, (∀ a, a < 51 → h2 a = h a) → (∀ j : Int, 0 ≤ j → j ≤ 5 → h2 55 j.toNat = 0) → Z M_m_look post 50 [vR 39, A, B, C, vI 6, y5, y6] [] h2) : ∀ (k : Nat) (c : Int) (h1 : zH), 0 ≤ c → c ≤ 6 → 6 - c < k → (∀ a, a < 51 → h1 a = h a) → (∀ j : Int, 0 ≤ j → j < c → h1 55 j.toNat = 0) → Z M_m_look post 29 [vR 39, A, B, C, vI c, y5, y6] [] h1 := by
  intro k
  induction k with
  | zero => intro c h1 h0 h2 h3; omega
  | succ k ih =>
    intro c h1 h0 h2 h3 hE hA
    refine z_iload D_m_look_29 rfl ?_
    refine z_bipush (by decide) D_m_look_31 ?_
    refine z_icmp_ge (tgt := 50) D_m_look_33 (by decide) (by omega) (by omega) (fun q33 => ?_) (fun q33 => ?_)
    · have e9 : c = 6 := by omega
      subst e9
      exact K h1 hE (fun j q1 q2 => hA j q1 (by omega))
    · refine z_aload_n D_m_look_36 rfl ?_
      refine z_getR (q := 55) fl_m_63 (rfl) rfl (rfl) D_m_look_37 ?_
      refine z_iload D_m_look_40 rfl ?_
      refine z_iconst D_m_look_42 ?_
      refine z_iast (n := 1000) (rfl) (by omega) D_m_look_43 ?_
      refine z_iinc_4 D_m_look_44 (Nat.le_of_ble_eq_true rfl) hC ?_
      refine z_goto (tgt := 29) D_m_look_47 (by decide) ?_
      exact ih (c + 1) _ (by omega) (by omega) (by omega) (fun a q => by funext j; rw [zup_ne (by omega), hE a q]) (fun j q1 q2 => by
        by_cases hj : j = c
        · rw [hj, zup_same]
        · rw [zup_nk (by omega)]; exact hA j q1 (by omega))
theorem l_m_look_v {h : zH} {post : Option zV → zH → Prop} {A B : zV} {i : Int} (hm : MI h) (hs : SI (h 39 0) (h 39 9) (sm1 h) (sm2 h)) (hi : 0 ≤ i ∧ i < h 39 0) (K : ∀ h2 y6, (∀ a, a < 51 → h2 a = h a) → Z M_m_look post 128 [vR 39, A, B, vI i, vI (mst (snB (gm h) (sm1 h) (sm2 h) (h 39 9)) (gm h i) 60), vI 61, y6] [] h2) : ∀ (k : Nat) (v : Int) (h1 : zH) (y6 : zV), 1 ≤ v → v ≤ 61 → 61 - v < k → (∀ a, a < 51 → h1 a = h a) → (∀ c, 0 ≤ c → c ≤ 5 → h1 55 c.toNat = cntB (snB (gm h) (sm1 h) (sm2 h) (h 39 9)) (gm h i) c (v - 1).toNat) → Z M_m_look post 56 [vR 39, A, B, vI i, vI (mst (snB (gm h) (sm1 h) (sm2 h) (h 39 9)) (gm h i) (v - 1).toNat), vI v, y6] [] h1 := by
  intro k
  induction k with
  | zero => intro v h1 y6 h0 h2 h3; omega
  | succ k ih =>
    intro v h1 y6 h0 h2 h3 hE hA
    have e := mst_1 (b := snB (gm h) (sm1 h) (sm2 h) (h 39 9)) (f := gm h i) h0
    have hg := gm_in hm i v
    have hc := cntB_in (snB (gm h) (sm1 h) (sm2 h) (h 39 9)) (gm h i) (gm h i v) (v - 1).toNat
    have hc1 := cntB_mst (snB (gm h) (sm1 h) (sm2 h) (h 39 9)) (gm h i) (gm h i v) (v - 1).toNat
    have hmm := mst_in (snB (gm h) (sm1 h) (sm2 h) (h 39 9)) (gm h i) (v - 1).toNat
    have hAv := hA _ hg.1 hg.2
    have hcA := fun x hx => cnt_arr (b := snB (gm h) (sm1 h) (sm2 h) (h 39 9)) (f := gm h i) (h1 := h1) (A := 55) h0 hg hA x hx
    have hxt : v = 61 → mst (snB (gm h) (sm1 h) (sm2 h) (h 39 9)) (gm h i) (v - 1).toNat = mst (snB (gm h) (sm1 h) (sm2 h) (h 39 9)) (gm h i) 60 := fun e9 => by rw [e9]; rfl
    refine z_iload D_m_look_56 rfl ?_
    refine z_bipush (by decide) D_m_look_58 ?_
    refine z_icmp_gt (tgt := 128) D_m_look_60 (by decide) (by omega) (by omega) (fun q60 => ?_) (fun q60 => ?_)
    · have e9 : v = 61 := by omega
      rw [hxt e9]
      subst e9
      exact K h1 y6 hE
    · refine z_aload_n D_m_look_63 rfl ?_
      refine z_iload_n D_m_look_64 rfl ?_
      refine z_iload D_m_look_65 rfl ?_
      refine z_V2 (c0 := 12) (c_m_shadeOfE hm hE hi (by omega)) G_m_shadeOf I_m_shadeOf lk_m_197 (rfl) ⟨by decide, rfl⟩ ⟨Nat.le_of_ble_eq_true rfl, Nat.le_of_ble_eq_true rfl⟩ (Nat.le_of_ble_eq_true rfl) D_m_look_67 ?_
      refine z_istore_6 D_m_look_70 (Nat.le_of_ble_eq_true rfl) rfl ?_
      refine z_aload_n D_m_look_72 rfl ?_
      refine z_getR (q := 55) fl_m_63 (rfl) rfl (rfl) D_m_look_73 ?_
      refine z_iload D_m_look_76 rfl ?_
      refine z_dup2 rfl rfl D_m_look_78 ?_
      refine z_iald (n := 1000) (rfl) (by omega) D_m_look_79 ?_
      refine z_aload_n D_m_look_80 rfl ?_
      refine z_iload D_m_look_81 rfl ?_
      refine z_V1 (c0 := 12) (c_m_isSeenE hm hs hE (by omega)) G_m_isSeen I_m_isSeen lk_m_215 (rfl) ⟨by decide, rfl⟩ ⟨Nat.le_of_ble_eq_true rfl, Nat.le_of_ble_eq_true rfl⟩ (Nat.le_of_ble_eq_true rfl) D_m_look_83 ?_
      refine z_ifeqB (tgt := 93) D_m_look_86 (by decide) (fun q86 => ?_) (fun q86 => ?_)
      · refine z_iconst D_m_look_93 ?_
        refine z_iadd D_m_look_94 ?_
        refine z_iast (n := 1000) (rfl) (by omega) D_m_look_95 ?_
        refine z_aload_n D_m_look_96 rfl ?_
        refine z_getR (q := 55) fl_m_63 (rfl) rfl (rfl) D_m_look_97 ?_
        refine z_iload D_m_look_100 rfl ?_
        refine z_iald (n := 1000) (rfl) (by omega) D_m_look_102 ?_
        refine z_iload D_m_look_103 rfl ?_
        refine z_icmp_le (tgt := 118) D_m_look_105 (by decide) (by rw [zup_same]; omega) (by omega) (fun q105 => ?_) (fun q105 => ?_)
        · refine z_iload D_m_look_118 rfl ?_
          refine z_istore_4 D_m_look_120 (Nat.le_of_ble_eq_true rfl) rfl ?_
          refine z_iinc_5 D_m_look_122 (Nat.le_of_ble_eq_true rfl) rfl ?_
          refine z_goto (tgt := 56) D_m_look_125 (by decide) ?_
          rw [zup_same] at q105
          have hcA := hcA 0 (zb_f q86).symm
          rw [if_neg q86] at e
          rw [← e]
          exact ih (v + 1) _ _ (by omega) (by omega) (by omega) (fun a q => by funext j; rw [zup_ne (by omega), hE a q]) hcA
        · refine z_aload_n D_m_look_108 rfl ?_
          refine z_getR (q := 55) fl_m_63 (rfl) rfl (rfl) D_m_look_109 ?_
          refine z_iload D_m_look_112 rfl ?_
          refine z_iald (n := 1000) (rfl) (by omega) D_m_look_114 ?_
          refine z_goto (tgt := 120) D_m_look_115 (by decide) ?_
          refine z_istore_4 D_m_look_120 (Nat.le_of_ble_eq_true rfl) rfl ?_
          refine z_iinc_5 D_m_look_122 (Nat.le_of_ble_eq_true rfl) rfl ?_
          refine z_goto (tgt := 56) D_m_look_125 (by decide) ?_
          rw [zup_same] at q105
          have hcA := hcA 0 (zb_f q86).symm
          rw [if_neg q86] at e
          exfalso
          omega
      · refine z_iconst D_m_look_89 ?_
        refine z_goto (tgt := 94) D_m_look_90 (by decide) ?_
        refine z_iadd D_m_look_94 ?_
        refine z_iast (n := 1000) (rfl) (by omega) D_m_look_95 ?_
        refine z_aload_n D_m_look_96 rfl ?_
        refine z_getR (q := 55) fl_m_63 (rfl) rfl (rfl) D_m_look_97 ?_
        refine z_iload D_m_look_100 rfl ?_
        refine z_iald (n := 1000) (rfl) (by omega) D_m_look_102 ?_
        refine z_iload D_m_look_103 rfl ?_
        refine z_icmp_le (tgt := 118) D_m_look_105 (by decide) (by rw [zup_same]; omega) (by omega) (fun q105 => ?_) (fun q105 => ?_)
        · refine z_iload D_m_look_118 rfl ?_
          refine z_istore_4 D_m_look_120 (Nat.le_of_ble_eq_true rfl) rfl ?_
          refine z_iinc_5 D_m_look_122 (Nat.le_of_ble_eq_true rfl) rfl ?_
          refine z_goto (tgt := 56) D_m_look_125 (by decide) ?_
          rw [zup_same] at q105
          have hcA := hcA 1 (zb_t q86).symm
          rw [if_pos q86, ← hcA _ hg.1 hg.2, zup_same] at e
          have e7 : mst (snB (gm h) (sm1 h) (sm2 h) (h 39 9)) (gm h i) (v + 1 - 1).toNat = mst (snB (gm h) (sm1 h) (sm2 h) (h 39 9)) (gm h i) (v - 1).toNat := by omega
          rw [← e7]
          exact ih (v + 1) _ _ (by omega) (by omega) (by omega) (fun a q => by funext j; rw [zup_ne (by omega), hE a q]) hcA
        · refine z_aload_n D_m_look_108 rfl ?_
          refine z_getR (q := 55) fl_m_63 (rfl) rfl (rfl) D_m_look_109 ?_
          refine z_iload D_m_look_112 rfl ?_
          refine z_iald (n := 1000) (rfl) (by omega) D_m_look_114 ?_
          refine z_goto (tgt := 120) D_m_look_115 (by decide) ?_
          refine z_istore_4 D_m_look_120 (Nat.le_of_ble_eq_true rfl) rfl ?_
          refine z_iinc_5 D_m_look_122 (Nat.le_of_ble_eq_true rfl) rfl ?_
          refine z_goto (tgt := 56) D_m_look_125 (by decide) ?_
          rw [zup_same] at q105
          have hcA := hcA 1 (zb_t q86).symm
          rw [if_pos q86, ← hcA _ hg.1 hg.2, zup_same] at e
          rw [zup_same]
          have e7 : mst (snB (gm h) (sm1 h) (sm2 h) (h 39 9)) (gm h i) (v + 1 - 1).toNat = h1 55 (gm h i v).toNat + 1 := by omega
          have hcB : ∀ c, 0 ≤ c → c ≤ 5 → zup h1 55 (gm h i v).toNat (mst (snB (gm h) (sm1 h) (sm2 h) (h 39 9)) (gm h i) (v + 1 - 1).toNat) 55 c.toNat = cntB (snB (gm h) (sm1 h) (sm2 h) (h 39 9)) (gm h i) c (v + 1 - 1).toNat := by rw [e7]; exact hcA
          rw [← e7]
          exact ih (v + 1) _ _ (by omega) (by omega) (by omega) (fun a q => by funext j; rw [zup_ne (by omega), hE a q]) hcB
