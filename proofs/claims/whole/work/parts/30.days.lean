/-! what is done: rows of NOW and of the past -/
def rx (h : zH) (i c : Int) : Int := h 12 (i * 52 + c).toNat
theorem nw_rx (h : zH) (c : Int) : nw h c = rx h (h 11 1) c := rfl
def upI (f : Int → Int) (c0 x : Int) (c : Int) : Int := if c = c0 then x else f c
theorem upI_ne {f : Int → Int} {c0 x c : Int} (h : c ≠ c0) : upI f c0 x c = f c := if_neg h
theorem upI_eq {f : Int → Int} {c0 x : Int} : upI f c0 x c0 = x := if_pos rfl
def Rem (h h1 : zH) : Prop := (∀ a, a ≠ 11 → a ≠ 12 → h1 a = h a) ∧ h1 11 1 = (if h 11 1 < 10 then h 11 1 + 1 else 10) ∧ (∀ c, 0 ≤ c → c < 52 → nw h1 c = nw h c) ∧ ∀ i c, 0 ≤ i → i < h1 11 1 → 0 ≤ c → c < 52 → rx h1 i c = rx h (if h 11 1 < 10 then i else i + 1) c
def RowIs (h h1 : zH) (f : Int → Int) : Prop := (∀ a, a ≠ 12 → h1 a = h a) ∧ (∀ c, 0 ≤ c → c < 52 → nw h1 c = f c) ∧ ∀ i c, 0 ≤ i → i ≠ h 11 1 → 0 ≤ c → c < 52 → rx h1 i c = rx h i c
theorem RowIs.rfl' {h : zH} : RowIs h h (nw h) := ⟨fun _ _ => rfl, fun _ _ _ => rfl, fun _ _ _ _ _ _ => rfl⟩
theorem RowIs.put {h h1 : zH} {f : Int → Int} {c0 x : Int} (hr : RowIs h h1 f) (hu : 0 ≤ h 11 1) (hc : 0 ≤ c0 ∧ c0 < 52) : RowIs h (zup h1 12 (h1 11 1 * 52 + c0).toNat x) (upI f c0 x) := by
  obtain ⟨a1, a2, a3⟩ := hr
  have e1 : h1 11 1 = h 11 1 := by rw [a1 11 (by decide)]
  refine ⟨fun a ha => ?_, fun c c0' c1 => ?_, fun i c i0 iu c0' c1 => ?_⟩
  · funext j; rw [zup_ne ha, a1 a ha]
  · unfold nw upI
    rw [zup_ne (show (11 : Nat) ≠ 12 by decide)]
    by_cases hcc : c = c0
    · rw [if_pos hcc, hcc, zup_same]
    · rw [if_neg hcc, zup_nk (by omega)]
      exact a2 c c0' c1
  · unfold rx
    rw [zup_nk (by omega)]
    exact a3 i c i0 iu c0' c1
theorem RowIs.trans {h h1 h2 : zH} {f g : Int → Int} (a : RowIs h h1 f) (b : RowIs h1 h2 g) : RowIs h h2 g := by
  obtain ⟨a1, a2, a3⟩ := a
  obtain ⟨b1, b2, b3⟩ := b
  have e1 : h1 11 1 = h 11 1 := by rw [a1 11 (by decide)]
  exact ⟨fun q hq => (b1 q hq).trans (a1 q hq), b2, fun i c i0 iu c0 c1 => (b3 i c i0 (by rw [e1]; exact iu) c0 c1).trans (a3 i c i0 iu c0 c1)⟩
theorem RowIs.to {h h1 : zH} {f g : Int → Int} (a : RowIs h h1 f) (e : ∀ c, 0 ≤ c → c < 52 → f c = g c) : RowIs h h1 g := ⟨a.1, fun c c0 c1 => (a.2.1 c c0 c1).trans (e c c0 c1), a.2.2⟩
/-- one step of the past more, and another NOW -/
def XPush (h h1 : zH) (f : Int → Int) : Prop := (∀ a, a ≠ 11 → a ≠ 12 → h1 a = h a) ∧ h1 11 1 = (if h 11 1 < 10 then h 11 1 + 1 else 10) ∧ (∀ c, 0 ≤ c → c < 52 → nw h1 c = f c) ∧ ∀ i c, 0 ≤ i → i < h1 11 1 → 0 ≤ c → c < 52 → rx h1 i c = rx h (if h 11 1 < 10 then i else i + 1) c
theorem Rem.push {h h1 h2 : zH} {f : Int → Int} (a : Rem h h1) (b : RowIs h1 h2 f) : XPush h h2 f := by
  obtain ⟨a1, a2, a3, a4⟩ := a
  obtain ⟨b1, b2, b3⟩ := b
  have e1 : h2 11 1 = h1 11 1 := by rw [b1 11 (by decide)]
  refine ⟨fun q q1 q2 => (b1 q q2).trans (a1 q q1 q2), e1.trans a2, b2, fun i c i0 i1 c0 c1 => ?_⟩
  rw [e1] at i1
  exact (b3 i c i0 (by omega) c0 c1).trans (a4 i c i0 i1 c0 c1)
theorem c_d_remember {h : zH} (hu : 0 ≤ h 11 1 ∧ h 11 1 ≤ 10) : zC M_d_remember [vR 11] h (fun v h1 => v = none ∧ Rem h h1) := by
  refine zC.ofN 0 (by decide) (Nat.le_of_ble_eq_true rfl) ?_
  show Z M_d_remember _ 0 [vR 11] [] h
  refine z_aload_n D_d_remember_0 rfl ?_
  refine z_getI fl_d_15 (rfl) rfl D_d_remember_1 ?_
  refine z_bipush (by decide) D_d_remember_4 ?_
  refine z_icmp_ge (tgt := 51) D_d_remember_6 (by decide) (by omega) (by omega) (fun q6 => ?_) (fun q6 => ?_)
  · refine z_aload_n D_d_remember_51 rfl ?_
    refine z_getR (q := 12) fl_d_11 (rfl) rfl (rfl) D_d_remember_52 ?_
    refine z_bipush (by decide) D_d_remember_55 ?_
    refine z_aload_n D_d_remember_57 rfl ?_
    refine z_getR (q := 12) fl_d_11 (rfl) rfl (rfl) D_d_remember_58 ?_
    refine z_iconst D_d_remember_61 ?_
    refine z_sipush (by decide) D_d_remember_62 ?_
    refine z_copy (n0 := 572) (n1 := 572) (rfl) (rfl) (by omega) (by omega) (by omega) (by omega) (by omega) lk_d_37 ac_native ac_static ac_init (Nat.le_of_ble_eq_true rfl) (Nat.le_of_ble_eq_true rfl) D_d_remember_65 ?_
    refine z_return rfl D_d_remember_68 ⟨rfl, ?_⟩
    have hu10 : h 11 1 = 10 := by omega
    refine ⟨fun a q1 q2 => ?_, ?_, fun c c0 c1 => ?_, fun i c i0 i1 c0 c1 => ?_⟩
    · funext j; unfold zcp; rw [if_neg (by omega)]
    · unfold zcp; rw [if_neg (by omega), if_neg (by omega), hu10]
    · unfold nw zcp; rw [if_neg (by omega), if_neg (by omega)]
    · have e9 : zcp h 12 12 (Int.toNat 52) (Int.toNat 0) (Int.toNat 520) 11 1 = h 11 1 := by unfold zcp; rw [if_neg (by omega)]
      rw [e9] at i1
      unfold rx zcp
      rw [if_pos (by omega), if_neg (by omega)]
      congr 1
      omega
  · refine z_aload_n D_d_remember_9 rfl ?_
    refine z_getR (q := 12) fl_d_11 (rfl) rfl (rfl) D_d_remember_10 ?_
    refine z_aload_n D_d_remember_13 rfl ?_
    refine z_getI fl_d_15 (rfl) rfl D_d_remember_14 ?_
    refine z_bipush (by decide) D_d_remember_17 ?_
    refine z_imul D_d_remember_19 ?_
    refine z_aload_n D_d_remember_20 rfl ?_
    refine z_getR (q := 12) fl_d_11 (rfl) rfl (rfl) D_d_remember_21 ?_
    refine z_aload_n D_d_remember_24 rfl ?_
    refine z_getI fl_d_15 (rfl) rfl D_d_remember_25 ?_
    refine z_iconst D_d_remember_28 ?_
    refine z_iadd D_d_remember_29 ?_
    refine z_bipush (by decide) D_d_remember_30 ?_
    refine z_imul D_d_remember_32 ?_
    refine z_bipush (by decide) D_d_remember_33 ?_
    refine z_copy (n0 := 572) (n1 := 572) (rfl) (rfl) (by omega) (by omega) (by omega) (by omega) (by omega) lk_d_37 ac_native ac_static ac_init (Nat.le_of_ble_eq_true rfl) (Nat.le_of_ble_eq_true rfl) D_d_remember_35 ?_
    refine z_aload_n D_d_remember_38 rfl ?_
    refine z_dup rfl D_d_remember_39 ?_
    refine z_getI fl_d_15 (rfl) rfl D_d_remember_40 ?_
    refine z_iconst D_d_remember_43 ?_
    refine z_iadd D_d_remember_44 ?_
    refine z_putI fl_d_15 (rfl) rfl rfl D_d_remember_45 ?_
    refine z_goto (tgt := 68) D_d_remember_48 (by decide) ?_
    refine z_return rfl D_d_remember_68 ⟨rfl, ?_⟩
    have e8 : zcp h 12 12 (h 11 1 * 52).toNat ((h 11 1 + 1) * 52).toNat (Int.toNat 52) 11 1 = h 11 1 := by unfold zcp; rw [if_neg (by omega)]
    rw [e8]
    refine ⟨fun a q1 q2 => ?_, ?_, fun c c0 c1 => ?_, fun i c i0 i1 c0 c1 => ?_⟩
    · funext j; rw [zup_ne q1]; unfold zcp; rw [if_neg (by omega)]
    · rw [zup_same, if_pos (by omega)]
    · unfold nw; rw [zup_same, zup_ne (show (12 : Nat) ≠ 11 by decide)]; unfold zcp; rw [if_pos (by omega)]; congr 1; omega
    · rw [zup_same] at i1
      unfold rx
      rw [zup_ne (show (12 : Nat) ≠ 11 by decide), if_pos (by omega)]
      unfold zcp
      rw [if_neg (by omega)]
theorem RowOK.upd {n np : Int} {N : Int → Int} {c0 x : Int} (h : RowOK n np N) (hnp : np ≤ 6) (hc : (c0 = 3 ∧ 0 ≤ x ∧ x ≤ 999) ∨ (10 ≤ c0 ∧ c0 < 52 ∧ 0 ≤ x ∧ x ≤ 99)) : RowOK n np (upI N c0 x) := by
  obtain ⟨h0, h1, h2, h3, h4, h5, h6⟩ := h
  refine ⟨?_, ?_, ?_, ?_, fun p p0 p1 => ?_, fun p q p0 p1 q0 q1 e => ?_, fun c c0' c1 => ?_⟩
  · rw [upI_ne (by omega)]; exact h0
  · rw [upI_ne (by omega)]; exact h1
  · rw [upI_ne (by omega)]; exact h2
  · unfold upI; split <;> omega
  · rw [upI_ne (by omega)]; exact h4 p p0 p1
  · rw [upI_ne (by omega), upI_ne (by omega)] at e; exact h5 p q p0 p1 q0 q1 e
  · have := h6 c c0' c1
    unfold upI
    split <;> omega
theorem RowOK.to {n np : Int} {N M : Int → Int} (h : RowOK n np N) (hnp : np ≤ 6) (e : ∀ c, 0 ≤ c → c < 52 → M c = N c) : RowOK n np M := by
  obtain ⟨h0, h1, h2, h3, h4, h5, h6⟩ := h
  refine ⟨?_, ?_, ?_, ?_, fun p p0 p1 => ?_, fun p q p0 p1 q0 q1 e2 => ?_, fun c c0' c1 => ?_⟩
  · rw [e 0 (by omega) (by omega)]; exact h0
  · rw [e 1 (by omega) (by omega)]; exact h1
  · rw [e 2 (by omega) (by omega)]; exact h2
  · rw [e 3 (by omega) (by omega)]; exact h3
  · rw [e _ (by omega) (by omega)]; exact h4 p p0 p1
  · rw [e _ (by omega) (by omega), e _ (by omega) (by omega)] at e2; exact h5 p q p0 p1 q0 q1 e2
  · rw [e _ (by omega) (by omega)]; exact h6 c c0' c1
theorem XI.row {h h1 : zH} {w : Nat} {f : Int → Int} (hx : XI h w) (hr : RowIs h h1 f) (hf : RowOK (h w 3) (h w 4) f) : XI h1 w := by
  obtain ⟨a0, a1, a2, a3⟩ := hx
  have hnp := a3.hnp
  have e1 : px h1 w = px h w := by funext j; unfold px; rw [hr.1 (w + 1) (by omega)]
  have e2 : wx h1 w = wx h w := by funext j; unfold wx; rw [hr.1 (w + 3) (by omega)]
  have ew : h1 w = h w := hr.1 w (by omega)
  refine ⟨by rw [hr.1 0 (by decide)]; exact a0, a1, by rw [hr.1 11 (by decide)]; exact a2, ?_⟩
  rw [ew, e1, e2]
  exact ⟨a3.hn, hnp, a3.hk, a3.hd, a3.2.2.2.2.1, a3.2.2.2.2.2.1, hf.to hnp.2 hr.2.1⟩
def colEq (f N : Int → Int) : Prop := ∀ c, (0 ≤ c ∧ c ≤ 2) ∨ (4 ≤ c ∧ c ≤ 9) → f c = N c
theorem col_eq {P f N : Int → Int} {n p : Int} (h : colEq f N) (hp : 0 ≤ p ∧ p ≤ 5) : col P f n p = col P N n p := by
  unfold col
  rw [h 2 (by omega), h 0 (by omega), h 1 (by omega), h (4 + p) (by omega)]
theorem colEq.upd {f N : Int → Int} {c0 x : Int} (h : colEq f N) (hc : c0 = 3 ∨ 10 ≤ c0) : colEq (upI f c0 x) N := fun c q => by
  unfold upI; rw [if_neg (by omega)]; exact h c q
/-- colourOf over another row of NOW -/
theorem c_x_colourOfR {h h1 : zH} {w : Nat} {p : Int} {f : Int → Int} (hx : XI h w) (hr : RowIs h h1 f) (hf : RowOK (h w 3) (h w 4) f) (hc : colEq f (nw h)) (hp : 0 ≤ p ∧ p < h w 4) : zC M_x_colourOf [vR 0, vI p] h1 (pV (vI (col (px h w) (nw h) (h w 3) p)) h1) := by
  have hw := hx.2.1
  have hnp := hx.2.2.2.hnp
  have e1 : px h1 w = px h w := by funext j; unfold px; rw [hr.1 (w + 1) (by omega)]
  have ew : h1 w = h w := hr.1 w (by omega)
  have q := c_x_colourOf (p := p) (hx.row hr hf) (by rw [ew]; exact hp)
  have e2 : col (px h1 w) (nw h1) (h1 w 3) p = col (px h w) (nw h) (h w 3) p := by
    rw [e1, ew]
    exact col_eq (fun c qc => (hr.2.1 c (by omega) (by omega)).trans (hc c qc)) (by omega)
  rw [e2] at q
  exact q
def dbt (N cl : Int → Int) (np c : Int) : Int := if cl ((c - 16) / 6) = 1 ∧ cl ((c - 16) % 6) = 2 ∧ (c - 16) % 6 < np then min (N c + 1) 99 else N c
def ptc (N cl : Int → Int) (c : Int) : Int := if cl (c - 10) = 3 then min (N c + 1) 99 else 0
/-- persons below i are done -/
def feI (N cl : Int → Int) (np i c : Int) : Int := if c = 3 then N 3 + 1 else if 10 ≤ c ∧ c < 16 then (if c - 10 < i then ptc N cl c else N c) else if 16 ≤ c then (if (c - 16) / 6 < i then dbt N cl np c else N c) else N c
/-- person p's debts with those below j -/
def feJ (g N cl : Int → Int) (np p j c : Int) : Int := if 16 ≤ c ∧ (c - 16) / 6 = p ∧ (c - 16) % 6 < j then dbt N cl np c else g c
theorem l_x_oweBlueTo {h h0 : zH} {w : Nat} {p : Int} {g : Int → Int} (hx : XI h0 w) (hp : 0 ≤ p ∧ p < h0 w 4) (hr : RowIs h0 h g) (hg : RowOK (h0 w 3) (h0 w 4) g) (hc : colEq g (nw h0)) (hcp : col (px h0 w) (nw h0) (h0 w 3) p = 1) (hgp : ∀ c, 16 ≤ c → c < 52 → (c - 16) / 6 = p → g c = nw h0 c) : ∀ (k : Nat) (j : Int) (h1 : zH), 0 ≤ j → j ≤ h0 w 4 → h0 w 4 - j < k → RowIs h0 h1 (feJ g (nw h0) (fun q => col (px h0 w) (nw h0) (h0 w 3) q) (h0 w 4) p j) → RowOK (h0 w 3) (h0 w 4) (feJ g (nw h0) (fun q => col (px h0 w) (nw h0) (h0 w 3) q) (h0 w 4) p j) → Z M_x_oweBlueTo (fun v h9 => v = none ∧ RowIs h0 h9 (feJ g (nw h0) (fun q => col (px h0 w) (nw h0) (h0 w 3) q) (h0 w 4) p (h0 w 4)) ∧ RowOK (h0 w 3) (h0 w 4) (feJ g (nw h0) (fun q => col (px h0 w) (nw h0) (h0 w 3) q) (h0 w 4) p (h0 w 4))) 2 [vR 0, vI p, vI j] [] h1 := by
  have hw := hx.2.1
  have hu := hx.2.2.1
  have hnp := hx.2.2.2.hnp
  intro k
  induction k with
  | zero => intro j h1 j0 j1 j2; omega
  | succ k ih =>
    intro j h1 j0 j1 j2 hR hO
    have ew : h1 w = h0 w := hR.1 w (by omega)
    have e0 : h1 0 1 = (w : Int) := by rw [hR.1 0 (by decide)]; exact hx.1
    have eu : h1 11 1 = h0 11 1 := by rw [hR.1 11 (by decide)]
    have hcE : colEq (feJ g (nw h0) (fun q => col (px h0 w) (nw h0) (h0 w 3) q) (h0 w 4) p j) (nw h0) := fun c qc => by
      unfold feJ; rw [if_neg (by omega)]; exact hc c qc
    have hcol := fun q => col_in hx.2.2.2 j0 q
    have hcell : j < h0 w 4 → nw h1 (16 + p * 6 + j) = nw h0 (16 + p * 6 + j) := fun q => by
      rw [hR.2.1 _ (by omega) (by omega)]
      unfold feJ
      rw [if_neg (by omega)]
      exact hgp _ (by omega) (by omega) (by omega)
    have hcb := hx.2.2.2.row.ho (c := 16 + p * 6 + j) (by omega)
    have step : ∀ x, (x = if col (px h0 w) (nw h0) (h0 w 3) j = 2 then min (nw h0 (16 + p * 6 + j) + 1) 99 else nw h0 (16 + p * 6 + j)) → j < h0 w 4 → ∀ c, 0 ≤ c → c < 52 → upI (feJ g (nw h0) (fun q => col (px h0 w) (nw h0) (h0 w 3) q) (h0 w 4) p j) (16 + p * 6 + j) x c = feJ g (nw h0) (fun q => col (px h0 w) (nw h0) (h0 w 3) q) (h0 w 4) p (j + 1) c := by
      intro x hx9 hj c c0 c1
      unfold upI feJ
      by_cases hcc : c = 16 + p * 6 + j
      · rw [if_pos hcc, if_pos (by omega), hcc, hx9]
        unfold dbt
        rw [show (16 + p * 6 + j - 16) / 6 = p by omega, show (16 + p * 6 + j - 16) % 6 = j by omega]
        dsimp only
        by_cases h2 : col (px h0 w) (nw h0) (h0 w 3) j = 2
        · rw [if_pos h2, if_pos ⟨hcp, h2, hj⟩]
        · rw [if_neg h2, if_neg (fun q => h2 q.2.1)]
      · rw [if_neg hcc]
        by_cases hq : 16 ≤ c ∧ (c - 16) / 6 = p ∧ (c - 16) % 6 < j
        · rw [if_pos hq, if_pos (by omega)]
        · rw [if_neg hq, if_neg (by omega)]
    have hxt : j = h0 w 4 → feJ g (nw h0) (fun q => col (px h0 w) (nw h0) (h0 w 3) q) (h0 w 4) p j = feJ g (nw h0) (fun q => col (px h0 w) (nw h0) (h0 w 3) q) (h0 w 4) p (h0 w 4) := fun e9 => by rw [e9]
    refine z_iload_n D_x_oweBlueTo_2 rfl ?_
    refine z_aload_n D_x_oweBlueTo_3 rfl ?_
    refine z_getW fl_x_19 (by decide) e0 D_x_oweBlueTo_4 ?_
    refine z_getI fl_x_177 (kw hw) rfl D_x_oweBlueTo_7 ?_
    refine z_icmp_ge (tgt := 59) D_x_oweBlueTo_10 (by decide) (by omega) (by rw [ew]; omega) (fun q10 => ?_) (fun q10 => ?_)
    · exact z_return rfl D_x_oweBlueTo_59 (⟨rfl, by rw [← hxt (by rw [ew] at q10; omega)]; exact hR, by rw [← hxt (by rw [ew] at q10; omega)]; exact hO⟩)
    · rw [ew] at q10
      have hcb := hcb (by omega)
      refine z_aload_n D_x_oweBlueTo_13 rfl ?_
      refine z_iload_n D_x_oweBlueTo_14 rfl ?_
      refine z_V1 (c0 := 11) (c_x_colourOfR hx hR hO hcE ⟨j0, by omega⟩) G_x_colourOf I_x_colourOf lk_x_138 (rfl) ⟨by decide, rfl⟩ ⟨Nat.le_of_ble_eq_true rfl, Nat.le_of_ble_eq_true rfl⟩ (Nat.le_of_ble_eq_true rfl) D_x_oweBlueTo_15 ?_
      refine z_iconst D_x_oweBlueTo_18 ?_
      refine z_icmp_ne (tgt := 53) D_x_oweBlueTo_19 (by decide) (by have := hcol (by omega); omega) (by omega) (fun q19 => ?_) (fun q19 => ?_)
      · refine z_iinc_2 D_x_oweBlueTo_53 (Nat.le_of_ble_eq_true rfl) rfl ?_
        refine z_goto (tgt := 2) D_x_oweBlueTo_56 (by decide) ?_
        have s9 := step (nw h0 (16 + p * 6 + j)) (by rw [if_neg q19]) (by omega)
        have s8 : ∀ c, 0 ≤ c → c < 52 → feJ g (nw h0) (fun q => col (px h0 w) (nw h0) (h0 w 3) q) (h0 w 4) p j c = feJ g (nw h0) (fun q => col (px h0 w) (nw h0) (h0 w 3) q) (h0 w 4) p (j + 1) c := by
          intro c c0 c1
          rw [← s9 c c0 c1]
          unfold upI
          by_cases hcc : c = 16 + p * 6 + j
          · rw [if_pos hcc, hcc, ← hR.2.1 _ (by omega) (by omega), hcell (by omega)]
          · rw [if_neg hcc]
        exact ih (j + 1) h1 (by omega) (by omega) (by omega) (hR.to s8) (hO.to hnp.2 (fun c c0 c1 => (s8 c c0 c1).symm))
      · refine z_aload_n D_x_oweBlueTo_22 rfl ?_
        refine z_getR (q := 11) fl_x_29 (rfl) rfl (rfl) D_x_oweBlueTo_23 ?_
        refine z_iload_n D_x_oweBlueTo_26 rfl ?_
        refine z_iload_n D_x_oweBlueTo_27 rfl ?_
        refine z_S2 (c_d_debt) G_d_debt S_d_debt lk_x_148 ⟨Nat.le_of_ble_eq_true rfl, Nat.le_of_ble_eq_true rfl⟩ (Nat.le_of_ble_eq_true rfl) D_x_oweBlueTo_28 ?_
        refine z_aload_n D_x_oweBlueTo_31 rfl ?_
        refine z_getR (q := 11) fl_x_29 (rfl) rfl (rfl) D_x_oweBlueTo_32 ?_
        refine z_iload_n D_x_oweBlueTo_35 rfl ?_
        refine z_iload_n D_x_oweBlueTo_36 rfl ?_
        refine z_S2 (c_d_debt) G_d_debt S_d_debt lk_x_148 ⟨Nat.le_of_ble_eq_true rfl, Nat.le_of_ble_eq_true rfl⟩ (Nat.le_of_ble_eq_true rfl) D_x_oweBlueTo_37 ?_
        refine z_V1 (c0 := 5) (c_d_value (by rw [eu]; exact hu) (by omega)) G_d_value I_d_value lk_x_131 (rfl) ⟨by decide, rfl⟩ ⟨Nat.le_of_ble_eq_true rfl, Nat.le_of_ble_eq_true rfl⟩ (Nat.le_of_ble_eq_true rfl) D_x_oweBlueTo_40 ?_
        refine z_iconst D_x_oweBlueTo_43 ?_
        refine z_iadd D_x_oweBlueTo_44 ?_
        refine z_bipush (by decide) D_x_oweBlueTo_45 ?_
        refine z_S2 (c_j_min (by rw [hcell (by omega)]; omega) (by omega)) G_j_min S_j_min lk_x_278 ⟨Nat.le_of_ble_eq_true rfl, Nat.le_of_ble_eq_true rfl⟩ (Nat.le_of_ble_eq_true rfl) D_x_oweBlueTo_47 ?_
        refine z_V2v (c0 := 5) (c_d_put (by rw [eu]; exact hu) (by omega)) G_d_put I_d_put lk_x_164 (rfl) ⟨by decide, rfl⟩ ⟨Nat.le_of_ble_eq_true rfl, Nat.le_of_ble_eq_true rfl⟩ (Nat.le_of_ble_eq_true rfl) D_x_oweBlueTo_50 ?_
        refine z_iinc_2 D_x_oweBlueTo_53 (Nat.le_of_ble_eq_true rfl) rfl ?_
        refine z_goto (tgt := 2) D_x_oweBlueTo_56 (by decide) ?_
        have s9 := step (min (nw h0 (16 + p * 6 + j) + 1) 99) (by rw [if_pos q19]) (by omega)
        rw [hcell (by omega)]
        exact ih (j + 1) _ (by omega) (by omega) (by omega) ((hR.put hu.1 (by omega)).to s9) ((hO.upd hnp.2 (Or.inr (by omega))).to hnp.2 (fun c c0 c1 => (s9 c c0 c1).symm))
