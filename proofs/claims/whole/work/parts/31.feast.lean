/-! what is done, by the class -/
theorem c_x_oweBlueTo {h h0 : zH} {w : Nat} {p : Int} {g : Int → Int} (hx : XI h0 w) (hp : 0 ≤ p ∧ p < h0 w 4) (hr : RowIs h0 h g) (hg : RowOK (h0 w 3) (h0 w 4) g) (hc : colEq g (nw h0)) (hcp : col (px h0 w) (nw h0) (h0 w 3) p = 1) (hgp : ∀ c, 16 ≤ c → c < 52 → (c - 16) / 6 = p → g c = nw h0 c) : zC M_x_oweBlueTo [vR 0, vI p] h (fun v h9 => v = none ∧ RowIs h0 h9 (feJ g (nw h0) (fun q => col (px h0 w) (nw h0) (h0 w 3) q) (h0 w 4) p (h0 w 4)) ∧ RowOK (h0 w 3) (h0 w 4) (feJ g (nw h0) (fun q => col (px h0 w) (nw h0) (h0 w 3) q) (h0 w 4) p (h0 w 4))) := by
  refine zC.ofN 1 (by decide) (Nat.le_of_ble_eq_true rfl) ?_
  show Z M_x_oweBlueTo _ 0 [vR 0, vI p, vU] [] h
  have hnp := hx.2.2.2.hnp
  have e : ∀ c, 0 ≤ c → c < 52 → g c = feJ g (nw h0) (fun q => col (px h0 w) (nw h0) (h0 w 3) q) (h0 w 4) p 0 c := fun c c0 c1 => by unfold feJ; rw [if_neg (by omega)]
  refine z_iconst D_x_oweBlueTo_0 ?_
  refine z_istore_2 D_x_oweBlueTo_1 (Nat.le_of_ble_eq_true rfl) rfl ?_
  exact l_x_oweBlueTo hx hp hr hg hc hcp hgp (7 : Nat) 0 h (by omega) (by omega) (by omega) (hr.to e) (hg.to hnp.2 (fun c c0 c1 => (e c c0 c1).symm))
theorem feI_1 {N cl : Int → Int} {np i : Int} {g : Int → Int} (hi : 0 ≤ i) (hnp : np ≤ 6) (hin : i < np)
    (hg : ∀ c, 0 ≤ c → c < 52 → g c = if 16 ≤ c ∧ (c - 16) / 6 = i then dbt N cl np c else feI N cl np i c) : ∀ c, 0 ≤ c → c < 52 → upI g (10 + i) (ptc N cl (10 + i)) c = feI N cl np (i + 1) c := by
  intro c c0 c1
  by_cases hc : c = 10 + i
  · rw [hc, upI_eq]
    unfold feI
    rw [if_neg (by omega), if_pos (by omega), if_pos (by omega)]
  · rw [upI_ne hc, hg c c0 c1]
    unfold feI
    by_cases h3 : c = 3
    · rw [if_neg (by omega), if_pos h3, if_pos h3]
    · rw [if_neg h3, if_neg h3]
      by_cases hA : 10 ≤ c ∧ c < 16
      · rw [if_neg (by omega), if_pos hA, if_pos hA]
        by_cases hB : c - 10 < i
        · rw [if_pos hB, if_pos (by omega)]
        · rw [if_neg hB, if_neg (by omega)]
      · rw [if_neg hA, if_neg hA]
        by_cases hD : 16 ≤ c
        · rw [if_pos hD, if_pos hD]
          by_cases hE : (c - 16) / 6 = i
          · rw [if_pos ⟨hD, hE⟩, if_pos (by omega)]
          · rw [if_neg (fun q => hE q.2)]
            by_cases hF : (c - 16) / 6 < i
            · rw [if_pos hF, if_pos (by omega)]
            · rw [if_neg hF, if_neg (by omega)]
        · rw [if_neg (fun q => hD q.1), if_neg hD, if_neg hD]
theorem dbt_f {N cl : Int → Int} {np c : Int} (h : ¬ (cl ((c - 16) / 6) = 1 ∧ (c - 16) % 6 < np)) : dbt N cl np c = N c := by
  unfold dbt; rw [if_neg (fun q => h ⟨q.1, q.2.2⟩)]
theorem l_x_holdFeast {h : zH} {w : Nat} (hx : XI h w) (h9 : nw h 3 < 999) : ∀ (k : Nat) (i : Int) (h1 : zH) (y2 y3 : zV), 0 ≤ i → i ≤ h w 4 → h w 4 - i < k → RowIs h h1 (feI (nw h) (fun q => col (px h w) (nw h) (h w 3) q) (h w 4) i) → RowOK (h w 3) (h w 4) (feI (nw h) (fun q => col (px h w) (nw h) (h w 3) q) (h w 4) i) → vlong y2 = false → Z M_x_holdFeast (fun v h9 => v = none ∧ RowIs h h9 (feI (nw h) (fun q => col (px h w) (nw h) (h w 3) q) (h w 4) (h w 4)) ∧ RowOK (h w 3) (h w 4) (feI (nw h) (fun q => col (px h w) (nw h) (h w 3) q) (h w 4) (h w 4))) 20 [vR 0, vI i, y2, y3] [] h1 := by
  have hw := hx.2.1
  have hu := hx.2.2.1
  have hnp := hx.2.2.2.hnp
  intro k
  induction k with
  | zero => intro i h1 y2 y3 h0 h2 h3; omega
  | succ k ih =>
    intro i h1 y2 y3 h0 h2 h3 hR hO hy
    have ew : h1 w = h w := hR.1 w (by omega)
    have e0 : h1 0 1 = (w : Int) := by rw [hR.1 0 (by decide)]; exact hx.1
    have eu : h1 11 1 = h 11 1 := by rw [hR.1 11 (by decide)]
    have hcE : colEq (feI (nw h) (fun q => col (px h w) (nw h) (h w 3) q) (h w 4) i) (nw h) := fun c qc => by
      unfold feI; rw [if_neg (by omega), if_neg (by omega), if_neg (by omega)]
    have hcol := fun q => col_in hx.2.2.2 h0 q
    have hpb := hx.2.2.2.row.ho (c := 10 + i) (by omega)
    have hgp : ∀ c, 16 ≤ c → c < 52 → (c - 16) / 6 = i → feI (nw h) (fun q => col (px h w) (nw h) (h w 3) q) (h w 4) i c = nw h c := fun c c0 c1 ce => by
      unfold feI; rw [if_neg (by omega), if_neg (by omega), if_pos (by omega), if_neg (by omega)]
    have hpt : i < h w 4 → feI (nw h) (fun q => col (px h w) (nw h) (h w 3) q) (h w 4) i (10 + i) = nw h (10 + i) := fun q => by
      unfold feI; rw [if_neg (by omega), if_pos (by omega), if_neg (by omega)]
    have hptc : ptc (nw h) (fun q => col (px h w) (nw h) (h w 3) q) (10 + i) = if col (px h w) (nw h) (h w 3) i = 3 then min (nw h (10 + i) + 1) 99 else 0 := by
      unfold ptc; rw [show 10 + i - 10 = i by omega]
    have hxt : i = h w 4 → feI (nw h) (fun q => col (px h w) (nw h) (h w 3) q) (h w 4) i = feI (nw h) (fun q => col (px h w) (nw h) (h w 3) q) (h w 4) (h w 4) := fun e9 => by rw [e9]
    refine z_iload_n D_x_holdFeast_20 rfl ?_
    refine z_aload_n D_x_holdFeast_21 rfl ?_
    refine z_getW fl_x_19 (by decide) e0 D_x_holdFeast_22 ?_
    refine z_getI fl_x_177 (kw hw) rfl D_x_holdFeast_25 ?_
    refine z_icmp_ge (tgt := 93) D_x_holdFeast_28 (by decide) (by omega) (by rw [ew]; omega) (fun q28 => ?_) (fun q28 => ?_)
    · exact z_return rfl D_x_holdFeast_93 (⟨rfl, by rw [← hxt (by rw [ew] at q28; omega)]; exact hR, by rw [← hxt (by rw [ew] at q28; omega)]; exact hO⟩)
    · rw [ew] at q28
      have hpb := hpb (by omega)
      refine z_aload_n D_x_holdFeast_31 rfl ?_
      refine z_iload_n D_x_holdFeast_32 rfl ?_
      refine z_V1 (c0 := 11) (c_x_colourOfR hx hR hO hcE ⟨h0, by omega⟩) G_x_colourOf I_x_colourOf lk_x_138 (rfl) ⟨by decide, rfl⟩ ⟨Nat.le_of_ble_eq_true rfl, Nat.le_of_ble_eq_true rfl⟩ (Nat.le_of_ble_eq_true rfl) D_x_holdFeast_33 ?_
      refine z_istore_2 D_x_holdFeast_36 (Nat.le_of_ble_eq_true rfl) rfl ?_
      refine z_iload_n D_x_holdFeast_37 rfl ?_
      refine z_iconst D_x_holdFeast_38 ?_
      refine z_icmp_ne (tgt := 47) D_x_holdFeast_39 (by decide) (by have := hcol (by omega); omega) (by omega) (fun q39 => ?_) (fun q39 => ?_)
      · obtain ⟨hh, g, hRg, hOg, hgE, hgt⟩ : ∃ (hh : zH) (g : Int → Int), RowIs h hh g ∧ RowOK (h w 3) (h w 4) g ∧ (∀ c, 0 ≤ c → c < 52 → g c = if 16 ≤ c ∧ (c - 16) / 6 = i then dbt (nw h) (fun q => col (px h w) (nw h) (h w 3) q) (h w 4) c else feI (nw h) (fun q => col (px h w) (nw h) (h w 3) q) (h w 4) i c) ∧ hh = h1 := by
          refine ⟨h1, feI (nw h) (fun q => col (px h w) (nw h) (h w 3) q) (h w 4) i, hR, hO, fun c c0 c1 => ?_, rfl⟩
          by_cases hq : 16 ≤ c ∧ (c - 16) / 6 = i
          · rw [if_pos hq, hgp c hq.1 c1 hq.2, dbt_f (fun z => q39 (by rw [hq.2] at z; exact z.1))]
          · rw [if_neg hq]
        rw [← hgt]
        have euh : hh 11 1 = h 11 1 := by rw [hRg.1 11 (by decide)]
        have e0h : hh 0 1 = (w : Int) := by rw [hRg.1 0 (by decide)]; exact hx.1
        have hg10 : nw hh (10 + i) = nw h (10 + i) := by
          rw [hRg.2.1 _ (by omega) (by omega), hgE _ (by omega) (by omega), if_neg (by omega), hpt (by omega)]
        clear hgt
        refine z_aload_n D_x_holdFeast_47 rfl ?_
        refine z_getR (q := 11) fl_x_29 (rfl) rfl (rfl) D_x_holdFeast_48 ?_
        refine z_bipush (by decide) D_x_holdFeast_51 ?_
        refine z_iload_n D_x_holdFeast_53 rfl ?_
        refine z_iadd D_x_holdFeast_54 ?_
        refine z_V1 (c0 := 5) (c_d_value (by rw [euh]; exact hu) (by omega)) G_d_value I_d_value lk_x_131 (rfl) ⟨by decide, rfl⟩ ⟨Nat.le_of_ble_eq_true rfl, Nat.le_of_ble_eq_true rfl⟩ (Nat.le_of_ble_eq_true rfl) D_x_holdFeast_55 ?_
        refine z_iconst D_x_holdFeast_58 ?_
        refine z_iadd D_x_holdFeast_59 ?_
        refine z_bipush (by decide) D_x_holdFeast_60 ?_
        refine z_S2 (c_j_min (by rw [hg10]; omega) (by omega)) G_j_min S_j_min lk_x_278 ⟨Nat.le_of_ble_eq_true rfl, Nat.le_of_ble_eq_true rfl⟩ (Nat.le_of_ble_eq_true rfl) D_x_holdFeast_62 ?_
        refine z_istore_3 D_x_holdFeast_65 (Nat.le_of_ble_eq_true rfl) rfl ?_
        refine z_aload_n D_x_holdFeast_66 rfl ?_
        refine z_getR (q := 11) fl_x_29 (rfl) rfl (rfl) D_x_holdFeast_67 ?_
        refine z_bipush (by decide) D_x_holdFeast_70 ?_
        refine z_iload_n D_x_holdFeast_72 rfl ?_
        refine z_iadd D_x_holdFeast_73 ?_
        refine z_iload_n D_x_holdFeast_74 rfl ?_
        refine z_iconst D_x_holdFeast_75 ?_
        refine z_icmp_ne (tgt := 83) D_x_holdFeast_76 (by decide) (by have := hcol (by omega); omega) (by omega) (fun q76 => ?_) (fun q76 => ?_)
        · refine z_iconst D_x_holdFeast_83 ?_
          refine z_V2v (c0 := 5) (c_d_put (by rw [euh]; exact hu) (by omega)) G_d_put I_d_put lk_x_164 (rfl) ⟨by decide, rfl⟩ ⟨Nat.le_of_ble_eq_true rfl, Nat.le_of_ble_eq_true rfl⟩ (Nat.le_of_ble_eq_true rfl) D_x_holdFeast_84 ?_
          refine z_iinc_1 D_x_holdFeast_87 (Nat.le_of_ble_eq_true rfl) rfl ?_
          refine z_goto (tgt := 20) D_x_holdFeast_90 (by decide) ?_
          have s9 := feI_1 h0 hnp.2 (by omega) hgE
          rw [hptc, if_neg q76] at s9
          refine ih (i + 1) _ _ _ (by omega) (by omega) (by omega) ((hRg.put hu.1 (by omega)).to s9) ((hOg.upd hnp.2 (Or.inr (by omega))).to hnp.2 (fun c c0 c1 => (s9 c c0 c1).symm)) rfl
        · refine z_iload_n D_x_holdFeast_79 rfl ?_
          refine z_goto (tgt := 84) D_x_holdFeast_80 (by decide) ?_
          refine z_V2v (c0 := 5) (c_d_put (by rw [euh]; exact hu) (by omega)) G_d_put I_d_put lk_x_164 (rfl) ⟨by decide, rfl⟩ ⟨Nat.le_of_ble_eq_true rfl, Nat.le_of_ble_eq_true rfl⟩ (Nat.le_of_ble_eq_true rfl) D_x_holdFeast_84 ?_
          refine z_iinc_1 D_x_holdFeast_87 (Nat.le_of_ble_eq_true rfl) rfl ?_
          refine z_goto (tgt := 20) D_x_holdFeast_90 (by decide) ?_
          have s9 := feI_1 h0 hnp.2 (by omega) hgE
          rw [hptc, if_pos q76] at s9
          rw [hg10]
          refine ih (i + 1) _ _ _ (by omega) (by omega) (by omega) ((hRg.put hu.1 (by omega)).to s9) ((hOg.upd hnp.2 (Or.inr (by omega))).to hnp.2 (fun c c0 c1 => (s9 c c0 c1).symm)) rfl
      · refine z_aload_n D_x_holdFeast_42 rfl ?_
        refine z_iload_n D_x_holdFeast_43 rfl ?_
        refine z_V1q (c0 := 11) (c_x_oweBlueTo hx ⟨h0, by omega⟩ hR hO hcE q39 hgp) G_x_oweBlueTo I_x_oweBlueTo lk_x_274 (rfl) ⟨by decide, rfl⟩ ⟨Nat.le_of_ble_eq_true rfl, Nat.le_of_ble_eq_true rfl⟩ (Nat.le_of_ble_eq_true rfl) D_x_holdFeast_44 (fun v9 h8 hp9 => ?_)
        obtain ⟨rfl, hR9, hO9⟩ := hp9
        show Z _ _ _ _ [] _
        obtain ⟨hh, g, hRg, hOg, hgE, hgt⟩ : ∃ (hh : zH) (g : Int → Int), RowIs h hh g ∧ RowOK (h w 3) (h w 4) g ∧ (∀ c, 0 ≤ c → c < 52 → g c = if 16 ≤ c ∧ (c - 16) / 6 = i then dbt (nw h) (fun q => col (px h w) (nw h) (h w 3) q) (h w 4) c else feI (nw h) (fun q => col (px h w) (nw h) (h w 3) q) (h w 4) i c) ∧ hh = h8 := by
          refine ⟨h8, (feJ (feI (nw h) (fun q => col (px h w) (nw h) (h w 3) q) (h w 4) i) (nw h) (fun q => col (px h w) (nw h) (h w 3) q) (h w 4) i (h w 4)), hR9, hO9, fun c c0 c1 => ?_, rfl⟩
          unfold feJ
          by_cases hq : 16 ≤ c ∧ (c - 16) / 6 = i
          · rw [if_pos hq]
            by_cases hz : (c - 16) % 6 < h w 4
            · rw [if_pos ⟨hq.1, hq.2, hz⟩]
            · rw [if_neg (fun z => hz z.2.2), hgp c hq.1 c1 hq.2, dbt_f (fun z => hz z.2)]
          · rw [if_neg hq, if_neg (fun z => hq ⟨z.1, z.2.1⟩)]
        rw [← hgt]
        have euh : hh 11 1 = h 11 1 := by rw [hRg.1 11 (by decide)]
        have e0h : hh 0 1 = (w : Int) := by rw [hRg.1 0 (by decide)]; exact hx.1
        have hg10 : nw hh (10 + i) = nw h (10 + i) := by
          rw [hRg.2.1 _ (by omega) (by omega), hgE _ (by omega) (by omega), if_neg (by omega), hpt (by omega)]
        clear hgt
        refine z_aload_n D_x_holdFeast_47 rfl ?_
        refine z_getR (q := 11) fl_x_29 (rfl) rfl (rfl) D_x_holdFeast_48 ?_
        refine z_bipush (by decide) D_x_holdFeast_51 ?_
        refine z_iload_n D_x_holdFeast_53 rfl ?_
        refine z_iadd D_x_holdFeast_54 ?_
        refine z_V1 (c0 := 5) (c_d_value (by rw [euh]; exact hu) (by omega)) G_d_value I_d_value lk_x_131 (rfl) ⟨by decide, rfl⟩ ⟨Nat.le_of_ble_eq_true rfl, Nat.le_of_ble_eq_true rfl⟩ (Nat.le_of_ble_eq_true rfl) D_x_holdFeast_55 ?_
        refine z_iconst D_x_holdFeast_58 ?_
        refine z_iadd D_x_holdFeast_59 ?_
        refine z_bipush (by decide) D_x_holdFeast_60 ?_
        refine z_S2 (c_j_min (by rw [hg10]; omega) (by omega)) G_j_min S_j_min lk_x_278 ⟨Nat.le_of_ble_eq_true rfl, Nat.le_of_ble_eq_true rfl⟩ (Nat.le_of_ble_eq_true rfl) D_x_holdFeast_62 ?_
        refine z_istore_3 D_x_holdFeast_65 (Nat.le_of_ble_eq_true rfl) rfl ?_
        refine z_aload_n D_x_holdFeast_66 rfl ?_
        refine z_getR (q := 11) fl_x_29 (rfl) rfl (rfl) D_x_holdFeast_67 ?_
        refine z_bipush (by decide) D_x_holdFeast_70 ?_
        refine z_iload_n D_x_holdFeast_72 rfl ?_
        refine z_iadd D_x_holdFeast_73 ?_
        refine z_iload_n D_x_holdFeast_74 rfl ?_
        refine z_iconst D_x_holdFeast_75 ?_
        refine z_icmp_ne (tgt := 83) D_x_holdFeast_76 (by decide) (by have := hcol (by omega); omega) (by omega) (fun q76 => ?_) (fun q76 => ?_)
        · refine z_iconst D_x_holdFeast_83 ?_
          refine z_V2v (c0 := 5) (c_d_put (by rw [euh]; exact hu) (by omega)) G_d_put I_d_put lk_x_164 (rfl) ⟨by decide, rfl⟩ ⟨Nat.le_of_ble_eq_true rfl, Nat.le_of_ble_eq_true rfl⟩ (Nat.le_of_ble_eq_true rfl) D_x_holdFeast_84 ?_
          refine z_iinc_1 D_x_holdFeast_87 (Nat.le_of_ble_eq_true rfl) rfl ?_
          refine z_goto (tgt := 20) D_x_holdFeast_90 (by decide) ?_
          have s9 := feI_1 h0 hnp.2 (by omega) hgE
          rw [hptc, if_neg q76] at s9
          refine ih (i + 1) _ _ _ (by omega) (by omega) (by omega) ((hRg.put hu.1 (by omega)).to s9) ((hOg.upd hnp.2 (Or.inr (by omega))).to hnp.2 (fun c c0 c1 => (s9 c c0 c1).symm)) rfl
        · refine z_iload_n D_x_holdFeast_79 rfl ?_
          refine z_goto (tgt := 84) D_x_holdFeast_80 (by decide) ?_
          refine z_V2v (c0 := 5) (c_d_put (by rw [euh]; exact hu) (by omega)) G_d_put I_d_put lk_x_164 (rfl) ⟨by decide, rfl⟩ ⟨Nat.le_of_ble_eq_true rfl, Nat.le_of_ble_eq_true rfl⟩ (Nat.le_of_ble_eq_true rfl) D_x_holdFeast_84 ?_
          refine z_iinc_1 D_x_holdFeast_87 (Nat.le_of_ble_eq_true rfl) rfl ?_
          refine z_goto (tgt := 20) D_x_holdFeast_90 (by decide) ?_
          have s9 := feI_1 h0 hnp.2 (by omega) hgE
          rw [hptc, if_pos q76] at s9
          rw [hg10]
          refine ih (i + 1) _ _ _ (by omega) (by omega) (by omega) ((hRg.put hu.1 (by omega)).to s9) ((hOg.upd hnp.2 (Or.inr (by omega))).to hnp.2 (fun c c0 c1 => (s9 c c0 c1).symm)) rfl
theorem c_x_holdFeast {h : zH} {w : Nat} (hx : XI h w) (h9 : nw h 3 < 999) : zC M_x_holdFeast [vR 0] h (fun v h9 => v = none ∧ RowIs h h9 (feI (nw h) (fun q => col (px h w) (nw h) (h w 3) q) (h w 4) (h w 4)) ∧ RowOK (h w 3) (h w 4) (feI (nw h) (fun q => col (px h w) (nw h) (h w 3) q) (h w 4) (h w 4))) := by
  refine zC.ofN 3 (by decide) (Nat.le_of_ble_eq_true rfl) ?_
  show Z M_x_holdFeast _ 0 [vR 0, vU, vU, vU] [] h
  have hu := hx.2.2.1
  have hnp := hx.2.2.2.hnp
  have hf := hx.2.2.2.row.hf
  have e : ∀ c, 0 ≤ c → c < 52 → upI (nw h) 3 (nw h 3 + 1) c = feI (nw h) (fun q => col (px h w) (nw h) (h w 3) q) (h w 4) 0 c := fun c c0 c1 => by
    unfold upI feI
    by_cases h3 : c = 3
    · rw [if_pos h3, if_pos h3]
    · rw [if_neg h3, if_neg h3]
      by_cases hA : 10 ≤ c ∧ c < 16
      · rw [if_pos hA, if_neg (by omega)]
      · rw [if_neg hA]
        by_cases hD : 16 ≤ c
        · rw [if_pos hD, if_neg (by omega)]
        · rw [if_neg hD]
  refine z_aload_n D_x_holdFeast_0 rfl ?_
  refine z_getR (q := 11) fl_x_29 (rfl) rfl (rfl) D_x_holdFeast_1 ?_
  refine z_iconst D_x_holdFeast_4 ?_
  refine z_aload_n D_x_holdFeast_5 rfl ?_
  refine z_getR (q := 11) fl_x_29 (rfl) rfl (rfl) D_x_holdFeast_6 ?_
  refine z_iconst D_x_holdFeast_9 ?_
  refine z_V1 (c0 := 5) (c_d_value hu (by omega)) G_d_value I_d_value lk_x_131 (rfl) ⟨by decide, rfl⟩ ⟨Nat.le_of_ble_eq_true rfl, Nat.le_of_ble_eq_true rfl⟩ (Nat.le_of_ble_eq_true rfl) D_x_holdFeast_10 ?_
  refine z_iconst D_x_holdFeast_13 ?_
  refine z_iadd D_x_holdFeast_14 ?_
  refine z_V2v (c0 := 5) (c_d_put hu (by omega)) G_d_put I_d_put lk_x_164 (rfl) ⟨by decide, rfl⟩ ⟨Nat.le_of_ble_eq_true rfl, Nat.le_of_ble_eq_true rfl⟩ (Nat.le_of_ble_eq_true rfl) D_x_holdFeast_15 ?_
  refine z_iconst D_x_holdFeast_18 ?_
  refine z_istore_1 D_x_holdFeast_19 (Nat.le_of_ble_eq_true rfl) rfl ?_
  exact l_x_holdFeast hx h9 (7 : Nat) 0 _ vU vU (by omega) (by omega) (by omega) ((RowIs.rfl'.put hu.1 (by omega)).to e) ((hx.2.2.2.row.upd hnp.2 (Or.inl (by omega))).to hnp.2 (fun c c0 c1 => (e c c0 c1).symm)) rfl
