/-! mutators of the class -/
def pU (ok : Prop) (z : Int) (h : zH) (f : Int → Int) : Option zV → zH → Prop := fun r h1 => r = some (vI z) ∧ (ok → XPush h h1 f) ∧ (¬ ok → h1 = h)
theorem puN {ok : Prop} {z y : Int} {h : zH} {f : Int → Int} (e : y = z) (hn : ¬ ok) : pU ok z h f (some (vI y)) h := ⟨by rw [e], fun q => absurd q hn, fun _ => rfl⟩
theorem puY {ok : Prop} {z y : Int} {h h1 : zH} {f : Int → Int} (e : y = z) (ho : ok) (hp : XPush h h1 f) : pU ok z h f (some (vI y)) h1 := ⟨by rw [e], fun _ => hp, fun q => absurd ho q⟩
theorem XPush.to {h h1 : zH} {f g : Int → Int} (a : XPush h h1 f) (e : ∀ c, 0 ≤ c → c < 52 → f c = g c) : XPush h h1 g := ⟨a.1, a.2.1, fun c c0 c1 => (a.2.2.1 c c0 c1).trans (e c c0 c1), a.2.2.2⟩
theorem Rem.u {h h1 : zH} (a : Rem h h1) (hu : 0 ≤ h 11 1 ∧ h 11 1 ≤ 10) : 0 ≤ h1 11 1 ∧ h1 11 1 ≤ 10 := by
  rw [a.2.1]; split <;> omega
theorem Rem.put {h h1 : zH} {c0 x : Int} (a : Rem h h1) (hu : 0 ≤ h 11 1 ∧ h 11 1 ≤ 10) (hc : 0 ≤ c0 ∧ c0 < 52) : XPush h (zup h1 12 (h1 11 1 * 52 + c0).toNat x) (upI (nw h) c0 x) := by
  refine (a.push (RowIs.rfl'.put (a.u hu).1 hc)).to (fun c q0 q1 => ?_)
  unfold upI
  split
  · rfl
  · exact a.2.2.1 c q0 q1
theorem XI.rem {h h1 : zH} {w : Nat} (hx : XI h w) (a : Rem h h1) : XI h1 w := by
  obtain ⟨a0, a1, a2, a3⟩ := hx
  have hnp := a3.hnp
  have e1 : px h1 w = px h w := by funext j; unfold px; rw [a.1 (w + 1) (by omega) (by omega)]
  have e2 : wx h1 w = wx h w := by funext j; unfold wx; rw [a.1 (w + 3) (by omega) (by omega)]
  have ew : h1 w = h w := a.1 w (by omega) (by omega)
  refine ⟨by rw [a.1 0 (by decide) (by decide)]; exact a0, a1, a.u a2, ?_⟩
  rw [ew, e1, e2]
  exact ⟨a3.hn, hnp, a3.hk, a3.hd, a3.2.2.2.2.1, a3.2.2.2.2.2.1, a3.row.to hnp.2 a.2.2.1⟩
theorem c_x_passes {h : zH} {w : Nat} {t : Int} (hx : XI h w) (r_t : -2147483648 ≤ t ∧ t ≤ 2147483647) : zC M_x_passes [vR 0, vI t] h (pU ((1 ≤ t ∧ t ≤ 11) ∧ h w 3 ≠ 0) (if 1 ≤ t ∧ t ≤ 11 then (if h w 3 = 0 then -2 else (nw h 1 + t) % h w 3) else -1) h (upI (nw h) 1 ((nw h 1 + t) % h w 3))) := by
  refine zC.ofN 0 (by decide) (by first | decide | exact Nat.le_of_ble_eq_true rfl) ?_
  show Z M_x_passes _ 0 [vR 0, vI t] [] h
  have hw := hx.2.1
  have hu := hx.2.2.1
  have hn := hx.2.2.2.hn
  have hnp := hx.2.2.2.hnp
  have ht0 := hx.2.2.2.row.ht
  have hh := hx.2.2.2.row.hh
  have hc := hx.2.2.2.row.hc
  refine z_iload_n D_x_passes_0 rfl ?_
  refine z_iconst D_x_passes_1 ?_
  refine z_bipush (by decide) D_x_passes_2 ?_
  refine z_S3 (c_x_isWithin r_t (by omega) (by omega)) G_x_isWithin S_x_isWithin lk_x_99 ⟨Nat.le_of_ble_eq_true rfl, Nat.le_of_ble_eq_true rfl⟩ (Nat.le_of_ble_eq_true rfl) D_x_passes_4 ?_
  refine z_ifneB (tgt := 12) D_x_passes_7 (by decide) (fun q7 => ?_) (fun q7 => ?_)
  · refine z_aload_n D_x_passes_12 rfl ?_
    refine z_getW fl_x_19 (by decide) (by first | exact hx.1 | exact e09) D_x_passes_13 ?_
    refine z_getI fl_x_155 (kw hw) rfl D_x_passes_16 ?_
    refine z_if_ne (tgt := 25) D_x_passes_19 (by decide) (by omega) (fun q19 => ?_) (fun q19 => ?_)
    · refine z_aload_n D_x_passes_25 rfl ?_
      refine z_getR (q := 11) fl_x_29 (rfl) rfl (rfl) D_x_passes_26 ?_
      refine z_V0q (c0 := 5) (c_d_remember hu) G_d_remember I_d_remember lk_x_158 (rfl) ⟨by decide, rfl⟩ ⟨Nat.le_of_ble_eq_true rfl, Nat.le_of_ble_eq_true rfl⟩ (Nat.le_of_ble_eq_true rfl) D_x_passes_29 (fun v9 h9 hp9 => ?_)
      obtain ⟨rfl, hRm⟩ := hp9
      show Z _ _ _ _ [] _
      have hx9 := hx.rem hRm
      have hu9 := hx9.2.2.1
      have e09 : h9 0 1 = (w : Int) := hx9.1
      have ew9 : h9 w = h w := hRm.1 w (by omega) (by omega)
      have ep9 : px h9 w = px h w := by funext j; unfold px; rw [hRm.1 (w + 1) (by omega) (by omega)]
      have hn1 : nw h9 1 = nw h 1 := hRm.2.2.1 1 (by omega) (by omega)
      refine z_aload_n D_x_passes_32 rfl ?_
      refine z_getR (q := 11) fl_x_29 (rfl) rfl (rfl) D_x_passes_33 ?_
      refine z_iconst D_x_passes_36 ?_
      refine z_aload_n D_x_passes_37 rfl ?_
      refine z_getW fl_x_19 (by decide) (by first | exact hx.1 | exact e09) D_x_passes_38 ?_
      refine z_aload_n D_x_passes_41 rfl ?_
      refine z_getR (q := 11) fl_x_29 (rfl) rfl (rfl) D_x_passes_42 ?_
      refine z_iconst D_x_passes_45 ?_
      refine z_V1 (c0 := 5) (c_d_value hu9 (by omega)) G_d_value I_d_value lk_x_131 (rfl) ⟨by decide, rfl⟩ ⟨Nat.le_of_ble_eq_true rfl, Nat.le_of_ble_eq_true rfl⟩ (Nat.le_of_ble_eq_true rfl) D_x_passes_46 ?_
      refine z_iload_n D_x_passes_49 rfl ?_
      refine z_iadd D_x_passes_50 ?_
      refine z_V1 (c0 := 10) (c_w_roundThe hw (by rw [ew9]; exact hn) (by rw [hn1]; omega)) G_w_roundThe I_w_roundThe lk_x_174 (kw hw) ⟨by decide, rfl⟩ ⟨Nat.le_of_ble_eq_true rfl, Nat.le_of_ble_eq_true rfl⟩ (Nat.le_of_ble_eq_true rfl) D_x_passes_51 ?_
      rw [ew9, hn1, show rnd (h w 3) (nw h 1 + t) = (nw h 1 + t) % h w 3 from if_pos (by omega)]
      refine z_V2v (c0 := 5) (c_d_put hu9 (by omega)) G_d_put I_d_put lk_x_164 (rfl) ⟨by decide, rfl⟩ ⟨Nat.le_of_ble_eq_true rfl, Nat.le_of_ble_eq_true rfl⟩ (Nat.le_of_ble_eq_true rfl) D_x_passes_54 ?_
      refine z_aload_n D_x_passes_57 rfl ?_
      refine z_getR (q := 11) fl_x_29 (rfl) rfl (rfl) D_x_passes_58 ?_
      refine z_iconst D_x_passes_61 ?_
      refine z_V1 (c0 := 5) (c_d_value (by rw [zup_ne (by decide)]; exact hu9) (by omega)) G_d_value I_d_value lk_x_131 (rfl) ⟨by decide, rfl⟩ ⟨Nat.le_of_ble_eq_true rfl, Nat.le_of_ble_eq_true rfl⟩ (Nat.le_of_ble_eq_true rfl) D_x_passes_62 ?_
      have hp := hRm.put (x := (nw h 1 + t) % h w 3) (c0 := 1) hu (by omega)
      refine z_ireturn rfl D_x_passes_65 (puY ?_ ⟨q7, q19⟩ hp)
      rw [hp.2.2.1 1 (by omega) (by omega), upI_eq, if_pos q7, if_neg q19]
    · refine z_bipush (by decide) D_x_passes_22 ?_
      exact z_ireturn rfl D_x_passes_24 (puN (by rw [if_pos q7, if_pos q19]) (fun q => q.2 q19))
  · refine z_iconst D_x_passes_10 ?_
    exact z_ireturn rfl D_x_passes_11 (puN (by rw [if_neg q7]) (fun q => q7 q.1))

theorem c_x_goes {h : zH} {w : Nat} {p s : Int} (hx : XI h w) (r_p : -2147483648 ≤ p ∧ p ≤ 2147483647) (r_s : -2147483648 ≤ s ∧ s ≤ 2147483647) : zC M_x_goes [vR 0, vI p, vI s] h (pU ((0 ≤ p ∧ p < h w 4) ∧ (0 ≤ s ∧ s < h w 3) ∧ whoX (nw h) (h w 4) s = -1) (if (0 ≤ p ∧ p < h w 4) ∧ (0 ≤ s ∧ s < h w 3) then (if whoX (nw h) (h w 4) s = -1 then nw h (4 + p) else -2) else -1) h (upI (nw h) (4 + p) s)) := by
  refine zC.ofN 1 (by decide) (by first | decide | exact Nat.le_of_ble_eq_true rfl) ?_
  show Z M_x_goes _ 0 [vR 0, vI p, vI s, vU] [] h
  have hw := hx.2.1
  have hu := hx.2.2.1
  have hn := hx.2.2.2.hn
  have hnp := hx.2.2.2.hnp
  have ht := hx.2.2.2.row.ht
  have hh := hx.2.2.2.row.hh
  have hc := hx.2.2.2.row.hc
  refine z_aload_n D_x_goes_0 rfl ?_
  refine z_getW fl_x_19 (by decide) (by first | exact hx.1 | exact e09) D_x_goes_1 ?_
  refine z_iload_n D_x_goes_4 rfl ?_
  refine z_V1 (c0 := 10) (c_w_hasPerson hw hnp r_p) G_w_hasPerson I_w_hasPerson lk_x_128 (kw hw) ⟨by decide, rfl⟩ ⟨Nat.le_of_ble_eq_true rfl, Nat.le_of_ble_eq_true rfl⟩ (Nat.le_of_ble_eq_true rfl) D_x_goes_5 ?_
  refine z_ifeqB (tgt := 22) D_x_goes_8 (by decide) (fun q8 => ?_) (fun q8 => ?_)
  · refine z_iconst D_x_goes_22 ?_
    exact z_ireturn rfl D_x_goes_23 (puN (by rw [if_neg (by omega)]) (by omega))
  · refine z_aload_n D_x_goes_11 rfl ?_
    refine z_getW fl_x_19 (by decide) (by first | exact hx.1 | exact e09) D_x_goes_12 ?_
    refine z_iload_n D_x_goes_15 rfl ?_
    refine z_V1 (c0 := 10) (c_w_hasSpot hw hn r_s) G_w_hasSpot I_w_hasSpot lk_x_122 (kw hw) ⟨by decide, rfl⟩ ⟨Nat.le_of_ble_eq_true rfl, Nat.le_of_ble_eq_true rfl⟩ (Nat.le_of_ble_eq_true rfl) D_x_goes_16 ?_
    refine z_ifneB (tgt := 24) D_x_goes_19 (by decide) (fun q19 => ?_) (fun q19 => ?_)
    · refine z_aload_n D_x_goes_24 rfl ?_
      refine z_iload_n D_x_goes_25 rfl ?_
      refine z_V1 (c0 := 11) (c_x_whoIsOn hx r_s) G_x_whoIsOn I_x_whoIsOn lk_x_171 (rfl) ⟨by decide, rfl⟩ ⟨Nat.le_of_ble_eq_true rfl, Nat.le_of_ble_eq_true rfl⟩ (Nat.le_of_ble_eq_true rfl) D_x_goes_26 ?_
      refine z_iconst D_x_goes_29 ?_
      refine z_icmp_eq (tgt := 36) D_x_goes_30 (by decide) (by have := who_in hx.2.2.2.row hnp.1 s; omega) (by omega) (fun q30 => ?_) (fun q30 => ?_)
      · refine z_aload_n D_x_goes_36 rfl ?_
        refine z_getR (q := 11) fl_x_29 (rfl) rfl (rfl) D_x_goes_37 ?_
        refine z_iconst D_x_goes_40 ?_
        refine z_iload_n D_x_goes_41 rfl ?_
        refine z_iadd D_x_goes_42 ?_
        refine z_V1 (c0 := 5) (c_d_value hu (by omega)) G_d_value I_d_value lk_x_131 (rfl) ⟨by decide, rfl⟩ ⟨Nat.le_of_ble_eq_true rfl, Nat.le_of_ble_eq_true rfl⟩ (Nat.le_of_ble_eq_true rfl) D_x_goes_43 ?_
        refine z_istore_3 D_x_goes_46 (Nat.le_of_ble_eq_true rfl) rfl ?_
        refine z_aload_n D_x_goes_47 rfl ?_
        refine z_getR (q := 11) fl_x_29 (rfl) rfl (rfl) D_x_goes_48 ?_
        refine z_V0q (c0 := 5) (c_d_remember hu) G_d_remember I_d_remember lk_x_158 (rfl) ⟨by decide, rfl⟩ ⟨Nat.le_of_ble_eq_true rfl, Nat.le_of_ble_eq_true rfl⟩ (Nat.le_of_ble_eq_true rfl) D_x_goes_51 (fun v9 h9 hp9 => ?_)
        obtain ⟨rfl, hRm⟩ := hp9
        show Z _ _ _ _ [] _
        have hx9 := hx.rem hRm
        have hu9 := hx9.2.2.1
        have e09 : h9 0 1 = (w : Int) := hx9.1
        have ew9 : h9 w = h w := hRm.1 w (by omega) (by omega)
        have ep9 : px h9 w = px h w := by funext j; unfold px; rw [hRm.1 (w + 1) (by omega) (by omega)]
        refine z_aload_n D_x_goes_54 rfl ?_
        refine z_getR (q := 11) fl_x_29 (rfl) rfl (rfl) D_x_goes_55 ?_
        refine z_iconst D_x_goes_58 ?_
        refine z_iload_n D_x_goes_59 rfl ?_
        refine z_iadd D_x_goes_60 ?_
        refine z_iload_n D_x_goes_61 rfl ?_
        refine z_V2v (c0 := 5) (c_d_put hu9 (by omega)) G_d_put I_d_put lk_x_164 (rfl) ⟨by decide, rfl⟩ ⟨Nat.le_of_ble_eq_true rfl, Nat.le_of_ble_eq_true rfl⟩ (Nat.le_of_ble_eq_true rfl) D_x_goes_62 ?_
        refine z_iload_n D_x_goes_65 rfl ?_
        exact z_ireturn rfl D_x_goes_66 (puY (by rw [if_pos (by omega), if_pos q30]) (by omega) (hRm.put hu (by omega)))
      · refine z_bipush (by decide) D_x_goes_33 ?_
        exact z_ireturn rfl D_x_goes_35 (puN (by rw [if_pos (by omega), if_neg q30]) (fun q => q30 q.2.2))
    · refine z_iconst D_x_goes_22 ?_
      exact z_ireturn rfl D_x_goes_23 (puN (by rw [if_neg (by omega)]) (by omega))

theorem c_x_forgives {h : zH} {w : Nat} {p q : Int} (hx : XI h w) (r_p : -2147483648 ≤ p ∧ p ≤ 2147483647) (r_q : -2147483648 ≤ q ∧ q ≤ 2147483647) : zC M_x_forgives [vR 0, vI p, vI q] h (pU ((p ≠ q ∧ (0 ≤ p ∧ p < h w 4) ∧ (0 ≤ q ∧ q < h w 4)) ∧ owF (nw h) p q ≠ 0) (if p ≠ q ∧ (0 ≤ p ∧ p < h w 4) ∧ (0 ≤ q ∧ q < h w 4) then (if owF (nw h) p q = 0 then -2 else owF (nw h) p q) else -1) h (upI (nw h) (16 + p * 6 + q) 0)) := by
  refine zC.ofN 1 (by decide) (by first | decide | exact Nat.le_of_ble_eq_true rfl) ?_
  show Z M_x_forgives _ 0 [vR 0, vI p, vI q, vU] [] h
  have hw := hx.2.1
  have hu := hx.2.2.1
  have hn := hx.2.2.2.hn
  have hnp := hx.2.2.2.hnp
  have ht := hx.2.2.2.row.ht
  have hh := hx.2.2.2.row.hh
  have hc := hx.2.2.2.row.hc
  refine z_aload_n D_x_forgives_0 rfl ?_
  refine z_iload_n D_x_forgives_1 rfl ?_
  refine z_iload_n D_x_forgives_2 rfl ?_
  refine z_V2 (c0 := 11) (c_x_areTwo hx r_p r_q) G_x_areTwo I_x_areTwo lk_x_144 (rfl) ⟨by decide, rfl⟩ ⟨Nat.le_of_ble_eq_true rfl, Nat.le_of_ble_eq_true rfl⟩ (Nat.le_of_ble_eq_true rfl) D_x_forgives_3 ?_
  refine z_ifneB (tgt := 11) D_x_forgives_6 (by decide) (fun q6 => ?_) (fun q6 => ?_)
  · refine z_aload_n D_x_forgives_11 rfl ?_
    refine z_getR (q := 11) fl_x_29 (rfl) rfl (rfl) D_x_forgives_12 ?_
    refine z_iload_n D_x_forgives_15 rfl ?_
    refine z_iload_n D_x_forgives_16 rfl ?_
    refine z_S2 (c_d_debt) G_d_debt S_d_debt lk_x_148 ⟨Nat.le_of_ble_eq_true rfl, Nat.le_of_ble_eq_true rfl⟩ (Nat.le_of_ble_eq_true rfl) D_x_forgives_17 ?_
    refine z_V1 (c0 := 5) (c_d_value hu (by omega)) G_d_value I_d_value lk_x_131 (rfl) ⟨by decide, rfl⟩ ⟨Nat.le_of_ble_eq_true rfl, Nat.le_of_ble_eq_true rfl⟩ (Nat.le_of_ble_eq_true rfl) D_x_forgives_20 ?_
    refine z_istore_3 D_x_forgives_23 (Nat.le_of_ble_eq_true rfl) rfl ?_
    refine z_iload_n D_x_forgives_24 rfl ?_
    refine z_if_ne (tgt := 31) D_x_forgives_25 (by decide) (by have := hx.2.2.2.row.ho (c := 16 + p * 6 + q) (by omega) (by omega); omega) (fun q25 => ?_) (fun q25 => ?_)
    · refine z_aload_n D_x_forgives_31 rfl ?_
      refine z_getR (q := 11) fl_x_29 (rfl) rfl (rfl) D_x_forgives_32 ?_
      refine z_V0q (c0 := 5) (c_d_remember hu) G_d_remember I_d_remember lk_x_158 (rfl) ⟨by decide, rfl⟩ ⟨Nat.le_of_ble_eq_true rfl, Nat.le_of_ble_eq_true rfl⟩ (Nat.le_of_ble_eq_true rfl) D_x_forgives_35 (fun v9 h9 hp9 => ?_)
      obtain ⟨rfl, hRm⟩ := hp9
      show Z _ _ _ _ [] _
      have hx9 := hx.rem hRm
      have hu9 := hx9.2.2.1
      have e09 : h9 0 1 = (w : Int) := hx9.1
      have ew9 : h9 w = h w := hRm.1 w (by omega) (by omega)
      have ep9 : px h9 w = px h w := by funext j; unfold px; rw [hRm.1 (w + 1) (by omega) (by omega)]
      refine z_aload_n D_x_forgives_38 rfl ?_
      refine z_getR (q := 11) fl_x_29 (rfl) rfl (rfl) D_x_forgives_39 ?_
      refine z_iload_n D_x_forgives_42 rfl ?_
      refine z_iload_n D_x_forgives_43 rfl ?_
      refine z_S2 (c_d_debt) G_d_debt S_d_debt lk_x_148 ⟨Nat.le_of_ble_eq_true rfl, Nat.le_of_ble_eq_true rfl⟩ (Nat.le_of_ble_eq_true rfl) D_x_forgives_44 ?_
      refine z_iconst D_x_forgives_47 ?_
      refine z_V2v (c0 := 5) (c_d_put hu9 (by omega)) G_d_put I_d_put lk_x_164 (rfl) ⟨by decide, rfl⟩ ⟨Nat.le_of_ble_eq_true rfl, Nat.le_of_ble_eq_true rfl⟩ (Nat.le_of_ble_eq_true rfl) D_x_forgives_48 ?_
      refine z_iload_n D_x_forgives_51 rfl ?_
      exact z_ireturn rfl D_x_forgives_52 (puY (by rw [if_pos q6]; exact (if_neg q25).symm) ⟨q6, q25⟩ (hRm.put hu (by omega)))
    · refine z_bipush (by decide) D_x_forgives_28 ?_
      exact z_ireturn rfl D_x_forgives_30 (puN (by rw [if_pos q6]; exact (if_pos q25).symm) (fun z => z.2 q25))
  · refine z_iconst D_x_forgives_9 ?_
    exact z_ireturn rfl D_x_forgives_10 (puN (by rw [if_neg q6]) (fun z => q6 z.1))

theorem l_x_covers {h1 : zH} {w : Nat} {t : Int} {post : Option zV → zH → Prop} {P N : Int → Int} {n np : Int} (hx : XI h1 w) (eP : px h1 w = P) (eN : ∀ c, 0 ≤ c → c < 52 → nw h1 c = N c) (en : h1 w 3 = n) (enp : h1 w 4 = np) (K : post (some (vI (sumF (fun p => zb (col P N n p = 0)) np.toNat))) h1) : ∀ (k : Nat) (i : Int), 0 ≤ i → i ≤ np → np - i < k → Z M_x_covers post 46 [vR 0, vI t, vI (sumF (fun p => zb (col P N n p = 0)) i.toNat), vI i] [] h1 := by
  have hw := hx.2.1
  have hnp := hx.2.2.2.hnp
  intro k
  induction k with
  | zero => intro i h0 h2 h3; omega
  | succ k ih =>
    intro i h0 h2 h3
    have hc := fun q => col_in hx.2.2.2 h0 q
    have e : i < np → col (px h1 w) (nw h1) (h1 w 3) i = col P N n i := fun q => by
      rw [eP, en]
      exact col_eq (fun c qc => eN c (by omega) (by omega)) (by omega)
    have q := ih (i + 1) (by omega)
    rw [sumF_1 h0] at q
    have hxt : i = np → sumF (fun p => zb (col P N n p = 0)) i.toNat = sumF (fun p => zb (col P N n p = 0)) np.toNat := fun e9 => by rw [e9]
    refine z_iload_n D_x_covers_46 rfl ?_
    refine z_aload_n D_x_covers_47 rfl ?_
    refine z_getW fl_x_19 (by decide) hx.1 D_x_covers_48 ?_
    refine z_getI fl_x_177 (kw hw) rfl D_x_covers_51 ?_
    refine z_icmp_ge (tgt := 74) D_x_covers_54 (by decide) (by omega) (by omega) (fun q54 => ?_) (fun q54 => ?_)
    · refine z_iload_n D_x_covers_74 rfl ?_
      rw [hxt (by omega)]
      exact z_ireturn rfl D_x_covers_75 K
    · refine z_aload_n D_x_covers_57 rfl ?_
      refine z_iload_n D_x_covers_58 rfl ?_
      refine z_V1 (c0 := 11) (c_x_colourOf hx ⟨h0, q54⟩) G_x_colourOf I_x_colourOf lk_x_138 (rfl) ⟨by decide, rfl⟩ ⟨Nat.le_of_ble_eq_true rfl, Nat.le_of_ble_eq_true rfl⟩ (Nat.le_of_ble_eq_true rfl) D_x_covers_59 ?_
      refine z_if_ne (tgt := 68) D_x_covers_62 (by decide) (by have := hc (by omega); omega) (fun q62 => ?_) (fun q62 => ?_)
      · refine z_iinc_3 D_x_covers_68 (Nat.le_of_ble_eq_true rfl) rfl ?_
        refine z_goto (tgt := 46) D_x_covers_71 (by decide) ?_
        rw [e (by omega)] at q62
        rw [zb_f q62, Int.add_zero] at q
        exact q (by omega) (by omega)
      · refine z_iinc_2 D_x_covers_65 (Nat.le_of_ble_eq_true rfl) rfl ?_
        refine z_iinc_3 D_x_covers_68 (Nat.le_of_ble_eq_true rfl) rfl ?_
        refine z_goto (tgt := 46) D_x_covers_71 (by decide) ?_
        rw [e (by omega)] at q62
        rw [zb_t q62] at q
        exact q (by omega) (by omega)
theorem c_x_covers {h : zH} {w : Nat} {t : Int} (hx : XI h w) (r_t : -2147483648 ≤ t ∧ t ≤ 2147483647) : zC M_x_covers [vR 0, vI t] h (pU ((0 ≤ t ∧ t ≤ 1) ∧ nw h 2 ≠ t) (if 0 ≤ t ∧ t ≤ 1 then (if nw h 2 = t then -2 else sumF (fun p => zb (col (px h w) (upI (nw h) 2 t) (h w 3) p = 0)) (h w 4).toNat) else -1) h (upI (nw h) 2 t)) := by
  refine zC.ofN 2 (by decide) (by first | decide | exact Nat.le_of_ble_eq_true rfl) ?_
  show Z M_x_covers _ 0 [vR 0, vI t, vU, vU] [] h
  have hw := hx.2.1
  have hu := hx.2.2.1
  have hn := hx.2.2.2.hn
  have hnp := hx.2.2.2.hnp
  have ht0 := hx.2.2.2.row.ht
  have hh := hx.2.2.2.row.hh
  have hc := hx.2.2.2.row.hc
  refine z_iload_n D_x_covers_0 rfl ?_
  refine z_iconst D_x_covers_1 ?_
  refine z_iconst D_x_covers_2 ?_
  refine z_S3 (c_x_isWithin r_t (by omega) (by omega)) G_x_isWithin S_x_isWithin lk_x_99 ⟨Nat.le_of_ble_eq_true rfl, Nat.le_of_ble_eq_true rfl⟩ (Nat.le_of_ble_eq_true rfl) D_x_covers_3 ?_
  refine z_ifneB (tgt := 11) D_x_covers_6 (by decide) (fun q6 => ?_) (fun q6 => ?_)
  · refine z_aload_n D_x_covers_11 rfl ?_
    refine z_getR (q := 11) fl_x_29 (rfl) rfl (rfl) D_x_covers_12 ?_
    refine z_iconst D_x_covers_15 ?_
    refine z_V1 (c0 := 5) (c_d_value hu (by omega)) G_d_value I_d_value lk_x_131 (rfl) ⟨by decide, rfl⟩ ⟨Nat.le_of_ble_eq_true rfl, Nat.le_of_ble_eq_true rfl⟩ (Nat.le_of_ble_eq_true rfl) D_x_covers_16 ?_
    refine z_iload_n D_x_covers_19 rfl ?_
    refine z_icmp_ne (tgt := 26) D_x_covers_20 (by decide) (by omega) (by omega) (fun q20 => ?_) (fun q20 => ?_)
    · refine z_aload_n D_x_covers_26 rfl ?_
      refine z_getR (q := 11) fl_x_29 (rfl) rfl (rfl) D_x_covers_27 ?_
      refine z_V0q (c0 := 5) (c_d_remember hu) G_d_remember I_d_remember lk_x_158 (rfl) ⟨by decide, rfl⟩ ⟨Nat.le_of_ble_eq_true rfl, Nat.le_of_ble_eq_true rfl⟩ (Nat.le_of_ble_eq_true rfl) D_x_covers_30 (fun v9 h9 hp9 => ?_)
      obtain ⟨rfl, hRm⟩ := hp9
      show Z _ _ _ _ [] _
      have hx9 := hx.rem hRm
      have hu9 := hx9.2.2.1
      have e09 : h9 0 1 = (w : Int) := hx9.1
      have ew9 : h9 w = h w := hRm.1 w (by omega) (by omega)
      have ep9 : px h9 w = px h w := by funext j; unfold px; rw [hRm.1 (w + 1) (by omega) (by omega)]
      refine z_aload_n D_x_covers_33 rfl ?_
      refine z_getR (q := 11) fl_x_29 (rfl) rfl (rfl) D_x_covers_34 ?_
      refine z_iconst D_x_covers_37 ?_
      refine z_iload_n D_x_covers_38 rfl ?_
      refine z_V2v (c0 := 5) (c_d_put hu9 (by omega)) G_d_put I_d_put lk_x_164 (rfl) ⟨by decide, rfl⟩ ⟨Nat.le_of_ble_eq_true rfl, Nat.le_of_ble_eq_true rfl⟩ (Nat.le_of_ble_eq_true rfl) D_x_covers_39 ?_
      refine z_iconst D_x_covers_42 ?_
      refine z_istore_2 D_x_covers_43 (Nat.le_of_ble_eq_true rfl) rfl ?_
      refine z_iconst D_x_covers_44 ?_
      refine z_istore_3 D_x_covers_45 (Nat.le_of_ble_eq_true rfl) rfl ?_
      have hp := hRm.put (x := t) (c0 := 2) hu (by omega)
      have hok : RowOK (h w 3) (h w 4) (upI (nw h) 2 t) := by
        obtain ⟨a0, a1, a2, a3, a4, a5, a6⟩ := hx.2.2.2.row
        refine ⟨by rw [upI_ne (by omega)]; exact a0, by rw [upI_ne (by omega)]; exact a1, by rw [upI_eq]; omega, by rw [upI_ne (by omega)]; exact a3, fun p p0 p1 => by rw [upI_ne (by omega)]; exact a4 p p0 p1, fun p q p0 p1 q0 q1 e => ?_, fun c c0 c1 => by rw [upI_ne (by omega)]; exact a6 c c0 c1⟩
        rw [upI_ne (by omega), upI_ne (by omega)] at e
        exact a5 p q p0 p1 q0 q1 e
      have hxx : XI (zup h9 12 (h9 11 1 * 52 + 2).toNat t) w := by
        refine hx9.row (RowIs.rfl'.put hu9.1 (by omega)) ?_
        rw [ew9]
        exact hok.to hnp.2 (fun c c0 c1 => by unfold upI; split; rfl; exact hRm.2.2.1 c c0 c1)
      refine l_x_covers (P := px h w) hxx ?_ hp.2.2.1 (by rw [zup_ne (by omega), ew9]) (by rw [zup_ne (by omega), ew9]) ?_ (7 : Nat) 0 (by omega) (by omega) (by omega)
      · rw [← ep9]; funext j; unfold px; rw [zup_ne (by omega)]
      · exact puY (by rw [if_pos q6, if_neg q20]) ⟨q6, q20⟩ hp
    · refine z_bipush (by decide) D_x_covers_23 ?_
      exact z_ireturn rfl D_x_covers_25 (puN (by rw [if_pos q6, if_pos q20]) (fun q => q.2 q20))
  · refine z_iconst D_x_covers_9 ?_
    exact z_ireturn rfl D_x_covers_10 (puN (by rw [if_neg q6]) (fun q => q6 q.1))

theorem feI_congr {N M cl cm : Int → Int} {np : Int} (hnp : np ≤ 6) (hN : ∀ c, 0 ≤ c → c < 52 → N c = M c) (hc : ∀ q, 0 ≤ q → q ≤ 5 → cl q = cm q) : ∀ c, 0 ≤ c → c < 52 → feI N cl np np c = feI M cm np np c := by
  intro c c0 c1
  unfold feI
  by_cases h3 : c = 3
  · rw [if_pos h3, if_pos h3, hN 3 (by omega) (by omega)]
  · rw [if_neg h3, if_neg h3]
    by_cases hA : 10 ≤ c ∧ c < 16
    · rw [if_pos hA, if_pos hA]
      unfold ptc
      rw [hN c c0 c1, hc (c - 10) (by omega) (by omega)]
    · rw [if_neg hA, if_neg hA]
      by_cases hD : 16 ≤ c
      · rw [if_pos hD, if_pos hD]
        unfold dbt
        rw [hN c c0 c1, hc ((c - 16) / 6) (by omega) (by omega), hc ((c - 16) % 6) (by omega) (by omega)]
      · rw [if_neg hD, if_neg hD, hN c c0 c1]
theorem c_x_spins {h : zH} {w : Nat} {v : Int} (hx : XI h w) (r_v : -2147483648 ≤ v ∧ v ≤ 2147483647) : zC M_x_spins [vR 0, vI v] h (pU ((1 ≤ v ∧ v ≤ 60) ∧ h w 3 ≠ 0 ∧ nw h 3 < 999) (if 1 ≤ v ∧ v ≤ 60 then (if h w 3 = 0 then -2 else if nw h 3 < 999 then ((nw h 0 + clk v (h w 5) (h w 6)) % h w 3) else -3) else -1) h (feI (upI (nw h) 0 ((nw h 0 + clk v (h w 5) (h w 6)) % h w 3)) (fun q => col (px h w) (upI (nw h) 0 ((nw h 0 + clk v (h w 5) (h w 6)) % h w 3)) (h w 3) q) (h w 4) (h w 4))) := by
  refine zC.ofN 0 (by decide) (by first | decide | exact Nat.le_of_ble_eq_true rfl) ?_
  show Z M_x_spins _ 0 [vR 0, vI v] [] h
  have hw := hx.2.1
  have hu := hx.2.2.1
  have hn := hx.2.2.2.hn
  have hnp := hx.2.2.2.hnp
  have ht := hx.2.2.2.row.ht
  have hh := hx.2.2.2.row.hh
  have hc := hx.2.2.2.row.hc
  refine z_iload_n D_x_spins_0 rfl ?_
  refine z_S1 (c_x_isSpeed r_v) G_x_isSpeed S_x_isSpeed lk_x_152 ⟨Nat.le_of_ble_eq_true rfl, Nat.le_of_ble_eq_true rfl⟩ (Nat.le_of_ble_eq_true rfl) D_x_spins_1 ?_
  refine z_ifneB (tgt := 9) D_x_spins_4 (by decide) (fun q4 => ?_) (fun q4 => ?_)
  · refine z_aload_n D_x_spins_9 rfl ?_
    refine z_getW fl_x_19 (by decide) (by first | exact hx.1 | exact e09) D_x_spins_10 ?_
    refine z_getI fl_x_155 (kw hw) rfl D_x_spins_13 ?_
    refine z_if_ne (tgt := 22) D_x_spins_16 (by decide) (by omega) (fun q16 => ?_) (fun q16 => ?_)
    · refine z_aload_n D_x_spins_22 rfl ?_
      refine z_getR (q := 11) fl_x_29 (rfl) rfl (rfl) D_x_spins_23 ?_
      refine z_iconst D_x_spins_26 ?_
      refine z_V1 (c0 := 5) (c_d_value hu (by omega)) G_d_value I_d_value lk_x_131 (rfl) ⟨by decide, rfl⟩ ⟨Nat.le_of_ble_eq_true rfl, Nat.le_of_ble_eq_true rfl⟩ (Nat.le_of_ble_eq_true rfl) D_x_spins_27 ?_
      refine z_sipush (by decide) D_x_spins_30 ?_
      refine z_icmp_lt (tgt := 39) D_x_spins_33 (by decide) (by have := hx.2.2.2.row.hf; omega) (by omega) (fun q33 => ?_) (fun q33 => ?_)
      · refine z_aload_n D_x_spins_39 rfl ?_
        refine z_getR (q := 11) fl_x_29 (rfl) rfl (rfl) D_x_spins_40 ?_
        refine z_V0q (c0 := 5) (c_d_remember hu) G_d_remember I_d_remember lk_x_158 (rfl) ⟨by decide, rfl⟩ ⟨Nat.le_of_ble_eq_true rfl, Nat.le_of_ble_eq_true rfl⟩ (Nat.le_of_ble_eq_true rfl) D_x_spins_43 (fun v9 h9 hp9 => ?_)
        obtain ⟨rfl, hRm⟩ := hp9
        show Z _ _ _ _ [] _
        have hx9 := hx.rem hRm
        have hu9 := hx9.2.2.1
        have e09 : h9 0 1 = (w : Int) := hx9.1
        have ew9 : h9 w = h w := hRm.1 w (by omega) (by omega)
        have ep9 : px h9 w = px h w := by funext j; unfold px; rw [hRm.1 (w + 1) (by omega) (by omega)]
        refine z_aload_n D_x_spins_46 rfl ?_
        refine z_getR (q := 11) fl_x_29 (rfl) rfl (rfl) D_x_spins_47 ?_
        refine z_iconst D_x_spins_50 ?_
        refine z_aload_n D_x_spins_51 rfl ?_
        refine z_iload_n D_x_spins_52 rfl ?_
        refine z_V1 (c0 := 11) (c_x_turnBehind hx9 (by omega)) G_x_turnBehind I_x_turnBehind lk_x_161 (rfl) ⟨by decide, rfl⟩ ⟨Nat.le_of_ble_eq_true rfl, Nat.le_of_ble_eq_true rfl⟩ (Nat.le_of_ble_eq_true rfl) D_x_spins_53 ?_
        rw [ew9, hRm.2.2.1 0 (by omega) (by omega), show rnd (h w 3) (nw h 0 + clk v (h w 5) (h w 6)) = ((nw h 0 + clk v (h w 5) (h w 6)) % h w 3) from if_pos (by omega)]
        refine z_V2v (c0 := 5) (c_d_put hu9 (by omega)) G_d_put I_d_put lk_x_164 (rfl) ⟨by decide, rfl⟩ ⟨Nat.le_of_ble_eq_true rfl, Nat.le_of_ble_eq_true rfl⟩ (Nat.le_of_ble_eq_true rfl) D_x_spins_56 ?_
        have hTi := emod_in (x := nw h 0 + clk v (h w 5) (h w 6)) (n := h w 3) (by omega)
        generalize hT : ((nw h 0 + clk v (h w 5) (h w 6)) % h w 3) = T at hTi ⊢
        have hp := hRm.put (x := T) (c0 := 0) hu (by omega)
        have hok : RowOK (h w 3) (h w 4) (upI (nw h) 0 T) := by
          obtain ⟨a0, a1, a2, a3, a4, a5, a6⟩ := hx.2.2.2.row
          refine ⟨by rw [upI_eq]; omega, by rw [upI_ne (by omega)]; exact a1, by rw [upI_ne (by omega)]; exact a2, by rw [upI_ne (by omega)]; exact a3, fun p p0 p1 => by rw [upI_ne (by omega)]; exact a4 p p0 p1, fun p q p0 p1 q0 q1 e => ?_, fun c c0 c1 => by rw [upI_ne (by omega)]; exact a6 c c0 c1⟩
          rw [upI_ne (by omega), upI_ne (by omega)] at e
          exact a5 p q p0 p1 q0 q1 e
        have hxx : XI (zup h9 12 (h9 11 1 * 52 + 0).toNat T) w := by
          refine hx9.row (RowIs.rfl'.put hu9.1 (by omega)) ?_
          rw [ew9]
          exact hok.to hnp.2 (fun c c0 c1 => by unfold upI; split; rfl; exact hRm.2.2.1 c c0 c1)
        have hf2 : nw (zup h9 12 (h9 11 1 * 52 + 0).toNat T) 3 < 999 := by rw [hp.2.2.1 3 (by omega) (by omega), upI_ne (by omega)]; exact q33
        refine z_aload_n D_x_spins_59 rfl ?_
        refine z_V0q (c0 := 11) (c_x_holdFeast hxx hf2) G_x_holdFeast I_x_holdFeast lk_x_168 (rfl) ⟨by decide, rfl⟩ ⟨Nat.le_of_ble_eq_true rfl, Nat.le_of_ble_eq_true rfl⟩ (Nat.le_of_ble_eq_true rfl) D_x_spins_60 (fun v8 h8 hp8 => ?_)
        obtain ⟨rfl, hRF, hOF⟩ := hp8
        show Z _ _ _ _ [] _
        refine z_aload_n D_x_spins_63 rfl ?_
        refine z_getR (q := 11) fl_x_29 (rfl) rfl (rfl) D_x_spins_64 ?_
        refine z_iconst D_x_spins_67 ?_
        refine z_V1 (c0 := 5) (c_d_value (by rw [hRF.1 11 (by decide), zup_ne (by decide)]; exact hu9) (by omega)) G_d_value I_d_value lk_x_131 (rfl) ⟨by decide, rfl⟩ ⟨Nat.le_of_ble_eq_true rfl, Nat.le_of_ble_eq_true rfl⟩ (Nat.le_of_ble_eq_true rfl) D_x_spins_68 ?_
        have ew8 : zup h9 12 (h9 11 1 * 52 + 0).toNat T w = h w := by funext j; rw [zup_ne (by omega), ew9]
        have ep8 : px (zup h9 12 (h9 11 1 * 52 + 0).toNat T) w = px h w := by rw [← ep9]; funext j; unfold px; rw [zup_ne (by omega)]
        rw [ew8, ep8] at hRF
        have hcl : ∀ q, 0 ≤ q → q ≤ 5 → col (px h w) (nw (zup h9 12 (h9 11 1 * 52 + 0).toNat T)) (h w 3) q = col (px h w) (upI (nw h) 0 T) (h w 3) q := fun q q0 q5 => col_eq (fun c qc => hp.2.2.1 c (by omega) (by omega)) ⟨q0, q5⟩
        have hrow : ∀ c, 0 ≤ c → c < 52 → feI (nw (zup h9 12 (h9 11 1 * 52 + 0).toNat T)) (fun q => col (px h w) (nw (zup h9 12 (h9 11 1 * 52 + 0).toNat T)) (h w 3) q) (h w 4) (h w 4) c = feI (upI (nw h) 0 T) (fun q => col (px h w) (upI (nw h) 0 T) (h w 3) q) (h w 4) (h w 4) c := by
          intro c c0 c1
          exact feI_congr hnp.2 (fun c c0 c1 => hp.2.2.1 c c0 c1) hcl c c0 c1
        have hpp := (hRm.push ((RowIs.rfl'.put hu9.1 (by omega)).trans hRF)).to hrow
        refine z_ireturn rfl D_x_spins_71 (puY ?_ ⟨q4, q16, q33⟩ hpp)
        rw [hpp.2.2.1 0 (by omega) (by omega), if_pos q4, if_neg q16, if_pos q33]
        unfold feI
        rw [if_neg (by omega), if_neg (by omega), if_neg (by omega), upI_eq]
      · refine z_bipush (by decide) D_x_spins_36 ?_
        exact z_ireturn rfl D_x_spins_38 (puN (by rw [if_pos q4, if_neg q16, if_neg (by omega)]) (fun q => absurd q.2.2 (by omega)))
    · refine z_bipush (by decide) D_x_spins_19 ?_
      exact z_ireturn rfl D_x_spins_21 (puN (by rw [if_pos q4, if_pos q16]) (fun q => q.2.1 q16))
  · refine z_iconst D_x_spins_7 ?_
    exact z_ireturn rfl D_x_spins_8 (puN (by rw [if_neg q4]) (fun q => q4 q.1))

theorem c_x_undo {h : zH}  (hu : 0 ≤ h 11 1 ∧ h 11 1 ≤ 10) : zC M_x_undo [vR 0] h (pV (vI (if h 11 1 = 0 then -2 else h 11 1 - 1)) (if h 11 1 = 0 then h else zup h 11 1 (h 11 1 - 1))) := by
  refine zC.ofN 0 (by decide) (by first | decide | exact Nat.le_of_ble_eq_true rfl) ?_
  show Z M_x_undo _ 0 [vR 0] [] h
  refine z_aload_n D_x_undo_0 rfl ?_
  refine z_getR (q := 11) fl_x_29 (rfl) rfl (rfl) D_x_undo_1 ?_
  refine z_getI fl_x_180 (rfl) rfl D_x_undo_4 ?_
  refine z_if_ne (tgt := 13) D_x_undo_7 (by decide) (by omega) (fun q7 => ?_) (fun q7 => ?_)
  · refine z_aload_n D_x_undo_13 rfl ?_
    refine z_getR (q := 11) fl_x_29 (rfl) rfl (rfl) D_x_undo_14 ?_
    refine z_dup rfl D_x_undo_17 ?_
    refine z_getI fl_x_180 (rfl) rfl D_x_undo_18 ?_
    refine z_iconst D_x_undo_21 ?_
    refine z_isub D_x_undo_22 ?_
    refine z_putI fl_x_180 (rfl) rfl rfl D_x_undo_23 ?_
    refine z_aload_n D_x_undo_26 rfl ?_
    refine z_getR (q := 11) fl_x_29 (rfl) rfl (rfl) D_x_undo_27 ?_
    refine z_getI fl_x_180 (rfl) rfl D_x_undo_30 ?_
    exact z_ireturn rfl D_x_undo_33 (pvI (by rw [zup_same, if_neg q7]) (by rw [if_neg q7]))
  · refine z_bipush (by decide) D_x_undo_10 ?_
    exact z_ireturn rfl D_x_undo_12 (pvI (by rw [if_pos q7]) (by rw [if_pos q7]))

