/-! the law's cases, its loop -/
theorem v_c0 {b L i w : Nat} {xs : Nat → Int32} {h : zH} (hi : i + 6 ≤ L) (hL : L ≤ 3072) (s : Sim h w) (K : ∀ h2 w2, Sim h2 w2 → V b L xs i 1060 [] h2) : V b L xs i 180 [] h := by
  refine v_x (by decide +kernel) ?_
  refine v_arg 1 (by decide) hi hL (by decide +kernel) (by decide +kernel) (by decide +kernel) (by decide +kernel) (by decide +kernel) ?_
  obtain ⟨z, hx, hz⟩ := pr_type s (i32r (xs (i + 1)))
  refine v_call (N := M_x_type) (a0 := 0) (c0 := 11) (av := [vI (xs (i + 1)).toInt]) (st := []) hx G_x_type lk_law_13 I_x_type (by decide) rfl rfl ⟨by decide, by decide⟩ rfl (by decide) (by decide +kernel) (fun v h1 q => ?_)
  obtain ⟨rfl, hm⟩ := q
  obtain ⟨x, rfl⟩ := hz
  refine v_m (by decide +kernel) ?_
  refine v_arg 1 (by decide) hi hL (by decide +kernel) (by decide +kernel) (by decide +kernel) (by decide +kernel) (by decide +kernel) ?_
  refine v_call (N := M_m_type) (a0 := 39) (c0 := 12) (av := [vI (xs (i + 1)).toInt]) (st := [vI x]) hm G_m_type lk_law_17 I_m_type (by decide) rfl rfl ⟨by decide, by decide⟩ rfl (Nat.le_of_ble_eq_true rfl) (by decide +kernel) (fun v2 h2 q2 => ?_)
  obtain ⟨rfl, w2, s2⟩ := q2
  exact v_eq (off := 862) (tgt := 1060) (by decide +kernel) (by decide) (K h2 w2 s2)
theorem v_c1 {b L i w : Nat} {xs : Nat → Int32} {h : zH} (hi : i + 6 ≤ L) (hL : L ≤ 3072) (s : Sim h w) (K : ∀ h2 w2, Sim h2 w2 → V b L xs i 1060 [] h2) : V b L xs i 203 [] h := by
  refine v_x (by decide +kernel) ?_
  obtain ⟨z, hx, hz⟩ := pr_clear s 
  refine v_call (N := M_x_clear) (a0 := 0) (c0 := 11) (av := []) (st := []) hx G_x_clear lk_law_18 I_x_clear (by decide) rfl rfl ⟨by decide, by decide⟩ rfl (by decide) (by decide +kernel) (fun v h1 q => ?_)
  obtain ⟨rfl, hm⟩ := q
  obtain ⟨x, rfl⟩ := hz
  refine v_m (by decide +kernel) ?_
  refine v_call (N := M_m_clear) (a0 := 39) (c0 := 12) (av := []) (st := [vI x]) hm G_m_clear lk_law_22 I_m_clear (by decide) rfl rfl ⟨by decide, by decide⟩ rfl (Nat.le_of_ble_eq_true rfl) (by decide +kernel) (fun v2 h2 q2 => ?_)
  obtain ⟨rfl, w2, s2⟩ := q2
  exact v_eq (off := 849) (tgt := 1060) (by decide +kernel) (by decide) (K h2 w2 s2)
theorem v_c2 {b L i w : Nat} {xs : Nat → Int32} {h : zH} (hi : i + 6 ≤ L) (hL : L ≤ 3072) (s : Sim h w) (K : ∀ h2 w2, Sim h2 w2 → V b L xs i 1060 [] h2) : V b L xs i 216 [] h := by
  refine v_x (by decide +kernel) ?_
  obtain ⟨z, hx, hz⟩ := pr_rose s 
  refine v_call (N := M_x_rose) (a0 := 0) (c0 := 11) (av := []) (st := []) hx G_x_rose lk_law_23 I_x_rose (by decide) rfl rfl ⟨by decide, by decide⟩ rfl (by decide) (by decide +kernel) (fun v h1 q => ?_)
  obtain ⟨rfl, hm⟩ := q
  obtain ⟨x, rfl⟩ := hz
  refine v_m (by decide +kernel) ?_
  refine v_call (N := M_m_rose) (a0 := 39) (c0 := 12) (av := []) (st := [vI x]) hm G_m_rose lk_law_26 I_m_rose (by decide) rfl rfl ⟨by decide, by decide⟩ rfl (Nat.le_of_ble_eq_true rfl) (by decide +kernel) (fun v2 h2 q2 => ?_)
  obtain ⟨rfl, w2, s2⟩ := q2
  exact v_eq (off := 836) (tgt := 1060) (by decide +kernel) (by decide) (K h2 w2 s2)
theorem v_c3 {b L i w : Nat} {xs : Nat → Int32} {h : zH} (hi : i + 6 ≤ L) (hL : L ≤ 3072) (s : Sim h w) (K : ∀ h2 w2, Sim h2 w2 → V b L xs i 1060 [] h2) : V b L xs i 229 [] h := by
  refine v_x (by decide +kernel) ?_
  refine v_arg 1 (by decide) hi hL (by decide +kernel) (by decide +kernel) (by decide +kernel) (by decide +kernel) (by decide +kernel) ?_
  obtain ⟨z, hx, hz⟩ := pr_pane s (i32r (xs (i + 1)))
  refine v_call (N := M_x_pane) (a0 := 0) (c0 := 11) (av := [vI (xs (i + 1)).toInt]) (st := []) hx G_x_pane lk_law_27 I_x_pane (by decide) rfl rfl ⟨by decide, by decide⟩ rfl (by decide) (by decide +kernel) (fun v h1 q => ?_)
  obtain ⟨rfl, hm⟩ := q
  obtain ⟨x, rfl⟩ := hz
  refine v_m (by decide +kernel) ?_
  refine v_arg 1 (by decide) hi hL (by decide +kernel) (by decide +kernel) (by decide +kernel) (by decide +kernel) (by decide +kernel) ?_
  refine v_call (N := M_m_pane) (a0 := 39) (c0 := 12) (av := [vI (xs (i + 1)).toInt]) (st := [vI x]) hm G_m_pane lk_law_30 I_m_pane (by decide) rfl rfl ⟨by decide, by decide⟩ rfl (Nat.le_of_ble_eq_true rfl) (by decide +kernel) (fun v2 h2 q2 => ?_)
  obtain ⟨rfl, w2, s2⟩ := q2
  exact v_eq (off := 813) (tgt := 1060) (by decide +kernel) (by decide) (K h2 w2 s2)
theorem v_c4 {b L i w : Nat} {xs : Nat → Int32} {h : zH} (hi : i + 6 ≤ L) (hL : L ≤ 3072) (s : Sim h w) (K : ∀ h2 w2, Sim h2 w2 → V b L xs i 1060 [] h2) : V b L xs i 252 [] h := by
  refine v_x (by decide +kernel) ?_
  refine v_arg 1 (by decide) hi hL (by decide +kernel) (by decide +kernel) (by decide +kernel) (by decide +kernel) (by decide +kernel) ?_
  refine v_arg 2 (by decide) hi hL (by decide +kernel) (by decide +kernel) (by decide +kernel) (by decide +kernel) (by decide +kernel) ?_
  obtain ⟨z, hx, hz⟩ := pr_one s (i32r (xs (i + 1))) (i32r (xs (i + 2)))
  refine v_call (N := M_x_one) (a0 := 0) (c0 := 11) (av := [vI (xs (i + 1)).toInt, vI (xs (i + 2)).toInt]) (st := []) hx G_x_one lk_law_31 I_x_one (by decide) rfl rfl ⟨by decide, by decide⟩ rfl (by decide) (by decide +kernel) (fun v h1 q => ?_)
  obtain ⟨rfl, hm⟩ := q
  obtain ⟨x, rfl⟩ := hz
  refine v_m (by decide +kernel) ?_
  refine v_arg 1 (by decide) hi hL (by decide +kernel) (by decide +kernel) (by decide +kernel) (by decide +kernel) (by decide +kernel) ?_
  refine v_arg 2 (by decide) hi hL (by decide +kernel) (by decide +kernel) (by decide +kernel) (by decide +kernel) (by decide +kernel) ?_
  refine v_call (N := M_m_one) (a0 := 39) (c0 := 12) (av := [vI (xs (i + 1)).toInt, vI (xs (i + 2)).toInt]) (st := [vI x]) hm G_m_one lk_law_35 I_m_one (by decide) rfl rfl ⟨by decide, by decide⟩ rfl (Nat.le_of_ble_eq_true rfl) (by decide +kernel) (fun v2 h2 q2 => ?_)
  obtain ⟨rfl, w2, s2⟩ := q2
  exact v_eq (off := 780) (tgt := 1060) (by decide +kernel) (by decide) (K h2 w2 s2)
theorem v_c5 {b L i w : Nat} {xs : Nat → Int32} {h : zH} (hi : i + 6 ≤ L) (hL : L ≤ 3072) (s : Sim h w) (K : ∀ h2 w2, Sim h2 w2 → V b L xs i 1060 [] h2) : V b L xs i 285 [] h := by
  refine v_x (by decide +kernel) ?_
  refine v_arg 1 (by decide) hi hL (by decide +kernel) (by decide +kernel) (by decide +kernel) (by decide +kernel) (by decide +kernel) ?_
  refine v_arg 2 (by decide) hi hL (by decide +kernel) (by decide +kernel) (by decide +kernel) (by decide +kernel) (by decide +kernel) ?_
  obtain ⟨z, hx, hz⟩ := pr_owed s (i32r (xs (i + 1))) (i32r (xs (i + 2)))
  refine v_call (N := M_x_owed) (a0 := 0) (c0 := 11) (av := [vI (xs (i + 1)).toInt, vI (xs (i + 2)).toInt]) (st := []) hx G_x_owed lk_law_36 I_x_owed (by decide) rfl rfl ⟨by decide, by decide⟩ rfl (by decide) (by decide +kernel) (fun v h1 q => ?_)
  obtain ⟨rfl, hm⟩ := q
  obtain ⟨x, rfl⟩ := hz
  refine v_m (by decide +kernel) ?_
  refine v_arg 1 (by decide) hi hL (by decide +kernel) (by decide +kernel) (by decide +kernel) (by decide +kernel) (by decide +kernel) ?_
  refine v_arg 2 (by decide) hi hL (by decide +kernel) (by decide +kernel) (by decide +kernel) (by decide +kernel) (by decide +kernel) ?_
  refine v_call (N := M_m_owed) (a0 := 39) (c0 := 12) (av := [vI (xs (i + 1)).toInt, vI (xs (i + 2)).toInt]) (st := [vI x]) hm G_m_owed lk_law_39 I_m_owed (by decide) rfl rfl ⟨by decide, by decide⟩ rfl (Nat.le_of_ble_eq_true rfl) (by decide +kernel) (fun v2 h2 q2 => ?_)
  obtain ⟨rfl, w2, s2⟩ := q2
  exact v_eq (off := 747) (tgt := 1060) (by decide +kernel) (by decide) (K h2 w2 s2)
theorem v_c6 {b L i w : Nat} {xs : Nat → Int32} {h : zH} (hi : i + 6 ≤ L) (hL : L ≤ 3072) (s : Sim h w) (K : ∀ h2 w2, Sim h2 w2 → V b L xs i 1060 [] h2) : V b L xs i 318 [] h := by
  refine v_x (by decide +kernel) ?_
  refine v_arg 1 (by decide) hi hL (by decide +kernel) (by decide +kernel) (by decide +kernel) (by decide +kernel) (by decide +kernel) ?_
  obtain ⟨z, hx, hz⟩ := pr_spins s (i32r (xs (i + 1)))
  refine v_call (N := M_x_spins) (a0 := 0) (c0 := 11) (av := [vI (xs (i + 1)).toInt]) (st := []) hx G_x_spins lk_law_40 I_x_spins (by decide) rfl rfl ⟨by decide, by decide⟩ rfl (by decide) (by decide +kernel) (fun v h1 q => ?_)
  obtain ⟨rfl, hm⟩ := q
  obtain ⟨x, rfl⟩ := hz
  refine v_m (by decide +kernel) ?_
  refine v_arg 1 (by decide) hi hL (by decide +kernel) (by decide +kernel) (by decide +kernel) (by decide +kernel) (by decide +kernel) ?_
  refine v_call (N := M_m_spins) (a0 := 39) (c0 := 12) (av := [vI (xs (i + 1)).toInt]) (st := [vI x]) hm G_m_spins lk_law_43 I_m_spins (by decide) rfl rfl ⟨by decide, by decide⟩ rfl (Nat.le_of_ble_eq_true rfl) (by decide +kernel) (fun v2 h2 q2 => ?_)
  obtain ⟨rfl, w2, s2⟩ := q2
  exact v_eq (off := 724) (tgt := 1060) (by decide +kernel) (by decide) (K h2 w2 s2)
theorem v_c7 {b L i w : Nat} {xs : Nat → Int32} {h : zH} (hi : i + 6 ≤ L) (hL : L ≤ 3072) (s : Sim h w) (K : ∀ h2 w2, Sim h2 w2 → V b L xs i 1060 [] h2) : V b L xs i 341 [] h := by
  refine v_x (by decide +kernel) ?_
  refine v_arg 1 (by decide) hi hL (by decide +kernel) (by decide +kernel) (by decide +kernel) (by decide +kernel) (by decide +kernel) ?_
  refine v_arg 2 (by decide) hi hL (by decide +kernel) (by decide +kernel) (by decide +kernel) (by decide +kernel) (by decide +kernel) ?_
  obtain ⟨z, hx, hz⟩ := pr_goes s (i32r (xs (i + 1))) (i32r (xs (i + 2)))
  refine v_call (N := M_x_goes) (a0 := 0) (c0 := 11) (av := [vI (xs (i + 1)).toInt, vI (xs (i + 2)).toInt]) (st := []) hx G_x_goes lk_law_44 I_x_goes (by decide) rfl rfl ⟨by decide, by decide⟩ rfl (by decide) (by decide +kernel) (fun v h1 q => ?_)
  obtain ⟨rfl, hm⟩ := q
  obtain ⟨x, rfl⟩ := hz
  refine v_m (by decide +kernel) ?_
  refine v_arg 1 (by decide) hi hL (by decide +kernel) (by decide +kernel) (by decide +kernel) (by decide +kernel) (by decide +kernel) ?_
  refine v_arg 2 (by decide) hi hL (by decide +kernel) (by decide +kernel) (by decide +kernel) (by decide +kernel) (by decide +kernel) ?_
  refine v_call (N := M_m_goes) (a0 := 39) (c0 := 12) (av := [vI (xs (i + 1)).toInt, vI (xs (i + 2)).toInt]) (st := [vI x]) hm G_m_goes lk_law_47 I_m_goes (by decide) rfl rfl ⟨by decide, by decide⟩ rfl (Nat.le_of_ble_eq_true rfl) (by decide +kernel) (fun v2 h2 q2 => ?_)
  obtain ⟨rfl, w2, s2⟩ := q2
  exact v_eq (off := 691) (tgt := 1060) (by decide +kernel) (by decide) (K h2 w2 s2)
theorem v_c8 {b L i w : Nat} {xs : Nat → Int32} {h : zH} (hi : i + 6 ≤ L) (hL : L ≤ 3072) (s : Sim h w) (K : ∀ h2 w2, Sim h2 w2 → V b L xs i 1060 [] h2) : V b L xs i 374 [] h := by
  refine v_x (by decide +kernel) ?_
  refine v_arg 1 (by decide) hi hL (by decide +kernel) (by decide +kernel) (by decide +kernel) (by decide +kernel) (by decide +kernel) ?_
  obtain ⟨z, hx, hz⟩ := pr_passes s (i32r (xs (i + 1)))
  refine v_call (N := M_x_passes) (a0 := 0) (c0 := 11) (av := [vI (xs (i + 1)).toInt]) (st := []) hx G_x_passes lk_law_48 I_x_passes (by decide) rfl rfl ⟨by decide, by decide⟩ rfl (by decide) (by decide +kernel) (fun v h1 q => ?_)
  obtain ⟨rfl, hm⟩ := q
  obtain ⟨x, rfl⟩ := hz
  refine v_m (by decide +kernel) ?_
  refine v_arg 1 (by decide) hi hL (by decide +kernel) (by decide +kernel) (by decide +kernel) (by decide +kernel) (by decide +kernel) ?_
  refine v_call (N := M_m_passes) (a0 := 39) (c0 := 12) (av := [vI (xs (i + 1)).toInt]) (st := [vI x]) hm G_m_passes lk_law_51 I_m_passes (by decide) rfl rfl ⟨by decide, by decide⟩ rfl (Nat.le_of_ble_eq_true rfl) (by decide +kernel) (fun v2 h2 q2 => ?_)
  obtain ⟨rfl, w2, s2⟩ := q2
  exact v_eq (off := 668) (tgt := 1060) (by decide +kernel) (by decide) (K h2 w2 s2)
theorem v_c9 {b L i w : Nat} {xs : Nat → Int32} {h : zH} (hi : i + 6 ≤ L) (hL : L ≤ 3072) (s : Sim h w) (K : ∀ h2 w2, Sim h2 w2 → V b L xs i 1060 [] h2) : V b L xs i 397 [] h := by
  refine v_x (by decide +kernel) ?_
  refine v_arg 1 (by decide) hi hL (by decide +kernel) (by decide +kernel) (by decide +kernel) (by decide +kernel) (by decide +kernel) ?_
  obtain ⟨z, hx, hz⟩ := pr_covers s (i32r (xs (i + 1)))
  refine v_call (N := M_x_covers) (a0 := 0) (c0 := 11) (av := [vI (xs (i + 1)).toInt]) (st := []) hx G_x_covers lk_law_52 I_x_covers (by decide) rfl rfl ⟨by decide, by decide⟩ rfl (by decide) (by decide +kernel) (fun v h1 q => ?_)
  obtain ⟨rfl, hm⟩ := q
  obtain ⟨x, rfl⟩ := hz
  refine v_m (by decide +kernel) ?_
  refine v_arg 1 (by decide) hi hL (by decide +kernel) (by decide +kernel) (by decide +kernel) (by decide +kernel) (by decide +kernel) ?_
  refine v_call (N := M_m_covers) (a0 := 39) (c0 := 12) (av := [vI (xs (i + 1)).toInt]) (st := [vI x]) hm G_m_covers lk_law_55 I_m_covers (by decide) rfl rfl ⟨by decide, by decide⟩ rfl (Nat.le_of_ble_eq_true rfl) (by decide +kernel) (fun v2 h2 q2 => ?_)
  obtain ⟨rfl, w2, s2⟩ := q2
  exact v_eq (off := 645) (tgt := 1060) (by decide +kernel) (by decide) (K h2 w2 s2)
theorem v_c10 {b L i w : Nat} {xs : Nat → Int32} {h : zH} (hi : i + 6 ≤ L) (hL : L ≤ 3072) (s : Sim h w) (K : ∀ h2 w2, Sim h2 w2 → V b L xs i 1060 [] h2) : V b L xs i 420 [] h := by
  refine v_x (by decide +kernel) ?_
  refine v_arg 1 (by decide) hi hL (by decide +kernel) (by decide +kernel) (by decide +kernel) (by decide +kernel) (by decide +kernel) ?_
  refine v_arg 2 (by decide) hi hL (by decide +kernel) (by decide +kernel) (by decide +kernel) (by decide +kernel) (by decide +kernel) ?_
  obtain ⟨z, hx, hz⟩ := pr_forgives s (i32r (xs (i + 1))) (i32r (xs (i + 2)))
  refine v_call (N := M_x_forgives) (a0 := 0) (c0 := 11) (av := [vI (xs (i + 1)).toInt, vI (xs (i + 2)).toInt]) (st := []) hx G_x_forgives lk_law_56 I_x_forgives (by decide) rfl rfl ⟨by decide, by decide⟩ rfl (by decide) (by decide +kernel) (fun v h1 q => ?_)
  obtain ⟨rfl, hm⟩ := q
  obtain ⟨x, rfl⟩ := hz
  refine v_m (by decide +kernel) ?_
  refine v_arg 1 (by decide) hi hL (by decide +kernel) (by decide +kernel) (by decide +kernel) (by decide +kernel) (by decide +kernel) ?_
  refine v_arg 2 (by decide) hi hL (by decide +kernel) (by decide +kernel) (by decide +kernel) (by decide +kernel) (by decide +kernel) ?_
  refine v_call (N := M_m_forgives) (a0 := 39) (c0 := 12) (av := [vI (xs (i + 1)).toInt, vI (xs (i + 2)).toInt]) (st := [vI x]) hm G_m_forgives lk_law_59 I_m_forgives (by decide) rfl rfl ⟨by decide, by decide⟩ rfl (Nat.le_of_ble_eq_true rfl) (by decide +kernel) (fun v2 h2 q2 => ?_)
  obtain ⟨rfl, w2, s2⟩ := q2
  exact v_eq (off := 612) (tgt := 1060) (by decide +kernel) (by decide) (K h2 w2 s2)
theorem v_c11 {b L i w : Nat} {xs : Nat → Int32} {h : zH} (hi : i + 6 ≤ L) (hL : L ≤ 3072) (s : Sim h w) (K : ∀ h2 w2, Sim h2 w2 → V b L xs i 1060 [] h2) : V b L xs i 453 [] h := by
  refine v_x (by decide +kernel) ?_
  obtain ⟨z, hx, hz⟩ := pr_undo s 
  refine v_call (N := M_x_undo) (a0 := 0) (c0 := 11) (av := []) (st := []) hx G_x_undo lk_law_60 I_x_undo (by decide) rfl rfl ⟨by decide, by decide⟩ rfl (by decide) (by decide +kernel) (fun v h1 q => ?_)
  obtain ⟨rfl, hm⟩ := q
  obtain ⟨x, rfl⟩ := hz
  refine v_m (by decide +kernel) ?_
  refine v_call (N := M_m_undo) (a0 := 39) (c0 := 12) (av := []) (st := [vI x]) hm G_m_undo lk_law_63 I_m_undo (by decide) rfl rfl ⟨by decide, by decide⟩ rfl (Nat.le_of_ble_eq_true rfl) (by decide +kernel) (fun v2 h2 q2 => ?_)
  obtain ⟨rfl, w2, s2⟩ := q2
  exact v_eq (off := 599) (tgt := 1060) (by decide +kernel) (by decide) (K h2 w2 s2)
theorem v_c12 {b L i w : Nat} {xs : Nat → Int32} {h : zH} (hi : i + 6 ≤ L) (hL : L ≤ 3072) (s : Sim h w) (K : ∀ h2 w2, Sim h2 w2 → V b L xs i 1060 [] h2) : V b L xs i 466 [] h := by
  refine v_x (by decide +kernel) ?_
  refine v_arg 1 (by decide) hi hL (by decide +kernel) (by decide +kernel) (by decide +kernel) (by decide +kernel) (by decide +kernel) ?_
  obtain ⟨z, hx, hz⟩ := pr_now s (i32r (xs (i + 1)))
  refine v_call (N := M_x_now) (a0 := 0) (c0 := 11) (av := [vI (xs (i + 1)).toInt]) (st := []) hx G_x_now lk_law_64 I_x_now (by decide) rfl rfl ⟨by decide, by decide⟩ rfl (by decide) (by decide +kernel) (fun v h1 q => ?_)
  obtain ⟨rfl, hm⟩ := q
  obtain ⟨x, rfl⟩ := hz
  refine v_m (by decide +kernel) ?_
  refine v_arg 1 (by decide) hi hL (by decide +kernel) (by decide +kernel) (by decide +kernel) (by decide +kernel) (by decide +kernel) ?_
  refine v_call (N := M_m_now) (a0 := 39) (c0 := 12) (av := [vI (xs (i + 1)).toInt]) (st := [vI x]) hm G_m_now lk_law_67 I_m_now (by decide) rfl rfl ⟨by decide, by decide⟩ rfl (Nat.le_of_ble_eq_true rfl) (by decide +kernel) (fun v2 h2 q2 => ?_)
  obtain ⟨rfl, w2, s2⟩ := q2
  exact v_eq (off := 576) (tgt := 1060) (by decide +kernel) (by decide) (K h2 w2 s2)
theorem v_c13 {b L i w : Nat} {xs : Nat → Int32} {h : zH} (hi : i + 6 ≤ L) (hL : L ≤ 3072) (s : Sim h w) (K : ∀ h2 w2, Sim h2 w2 → V b L xs i 1060 [] h2) : V b L xs i 489 [] h := by
  refine v_x (by decide +kernel) ?_
  refine v_arg 1 (by decide) hi hL (by decide +kernel) (by decide +kernel) (by decide +kernel) (by decide +kernel) (by decide +kernel) ?_
  obtain ⟨z, hx, hz⟩ := pr_clicks s (i32r (xs (i + 1)))
  refine v_call (N := M_x_clicks) (a0 := 0) (c0 := 11) (av := [vI (xs (i + 1)).toInt]) (st := []) hx G_x_clicks lk_law_68 I_x_clicks (by decide) rfl rfl ⟨by decide, by decide⟩ rfl (by decide) (by decide +kernel) (fun v h1 q => ?_)
  obtain ⟨rfl, hm⟩ := q
  obtain ⟨x, rfl⟩ := hz
  refine v_m (by decide +kernel) ?_
  refine v_arg 1 (by decide) hi hL (by decide +kernel) (by decide +kernel) (by decide +kernel) (by decide +kernel) (by decide +kernel) ?_
  refine v_call (N := M_m_clicks) (a0 := 39) (c0 := 12) (av := [vI (xs (i + 1)).toInt]) (st := [vI x]) hm G_m_clicks lk_law_71 I_m_clicks (by decide) rfl rfl ⟨by decide, by decide⟩ rfl (Nat.le_of_ble_eq_true rfl) (by decide +kernel) (fun v2 h2 q2 => ?_)
  obtain ⟨rfl, w2, s2⟩ := q2
  exact v_eq (off := 553) (tgt := 1060) (by decide +kernel) (by decide) (K h2 w2 s2)
theorem v_c14 {b L i w : Nat} {xs : Nat → Int32} {h : zH} (hi : i + 6 ≤ L) (hL : L ≤ 3072) (s : Sim h w) (K : ∀ h2 w2, Sim h2 w2 → V b L xs i 1060 [] h2) : V b L xs i 512 [] h := by
  refine v_x (by decide +kernel) ?_
  refine v_arg 1 (by decide) hi hL (by decide +kernel) (by decide +kernel) (by decide +kernel) (by decide +kernel) (by decide +kernel) ?_
  obtain ⟨z, hx, hz⟩ := pr_stops s (i32r (xs (i + 1)))
  refine v_call (N := M_x_stops) (a0 := 0) (c0 := 11) (av := [vI (xs (i + 1)).toInt]) (st := []) hx G_x_stops lk_law_72 I_x_stops (by decide) rfl rfl ⟨by decide, by decide⟩ rfl (by decide) (by decide +kernel) (fun v h1 q => ?_)
  obtain ⟨rfl, hm⟩ := q
  obtain ⟨x, rfl⟩ := hz
  refine v_m (by decide +kernel) ?_
  refine v_arg 1 (by decide) hi hL (by decide +kernel) (by decide +kernel) (by decide +kernel) (by decide +kernel) (by decide +kernel) ?_
  refine v_call (N := M_m_stops) (a0 := 39) (c0 := 12) (av := [vI (xs (i + 1)).toInt]) (st := [vI x]) hm G_m_stops lk_law_75 I_m_stops (by decide) rfl rfl ⟨by decide, by decide⟩ rfl (Nat.le_of_ble_eq_true rfl) (by decide +kernel) (fun v2 h2 q2 => ?_)
  obtain ⟨rfl, w2, s2⟩ := q2
  exact v_eq (off := 530) (tgt := 1060) (by decide +kernel) (by decide) (K h2 w2 s2)
theorem v_c15 {b L i w : Nat} {xs : Nat → Int32} {h : zH} (hi : i + 6 ≤ L) (hL : L ≤ 3072) (s : Sim h w) (K : ∀ h2 w2, Sim h2 w2 → V b L xs i 1060 [] h2) : V b L xs i 535 [] h := by
  refine v_x (by decide +kernel) ?_
  refine v_arg 1 (by decide) hi hL (by decide +kernel) (by decide +kernel) (by decide +kernel) (by decide +kernel) (by decide +kernel) ?_
  refine v_arg 2 (by decide) hi hL (by decide +kernel) (by decide +kernel) (by decide +kernel) (by decide +kernel) (by decide +kernel) ?_
  obtain ⟨z, hx, hz⟩ := pr_shade s (i32r (xs (i + 1))) (i32r (xs (i + 2)))
  refine v_call (N := M_x_shade) (a0 := 0) (c0 := 11) (av := [vI (xs (i + 1)).toInt, vI (xs (i + 2)).toInt]) (st := []) hx G_x_shade lk_law_76 I_x_shade (by decide) rfl rfl ⟨by decide, by decide⟩ rfl (by decide) (by decide +kernel) (fun v h1 q => ?_)
  obtain ⟨rfl, hm⟩ := q
  obtain ⟨x, rfl⟩ := hz
  refine v_m (by decide +kernel) ?_
  refine v_arg 1 (by decide) hi hL (by decide +kernel) (by decide +kernel) (by decide +kernel) (by decide +kernel) (by decide +kernel) ?_
  refine v_arg 2 (by decide) hi hL (by decide +kernel) (by decide +kernel) (by decide +kernel) (by decide +kernel) (by decide +kernel) ?_
  refine v_call (N := M_m_shade) (a0 := 39) (c0 := 12) (av := [vI (xs (i + 1)).toInt, vI (xs (i + 2)).toInt]) (st := [vI x]) hm G_m_shade lk_law_79 I_m_shade (by decide) rfl rfl ⟨by decide, by decide⟩ rfl (Nat.le_of_ble_eq_true rfl) (by decide +kernel) (fun v2 h2 q2 => ?_)
  obtain ⟨rfl, w2, s2⟩ := q2
  exact v_eq (off := 497) (tgt := 1060) (by decide +kernel) (by decide) (K h2 w2 s2)
theorem v_c16 {b L i w : Nat} {xs : Nat → Int32} {h : zH} (hi : i + 6 ≤ L) (hL : L ≤ 3072) (s : Sim h w) (K : ∀ h2 w2, Sim h2 w2 → V b L xs i 1060 [] h2) : V b L xs i 568 [] h := by
  refine v_x (by decide +kernel) ?_
  refine v_arg 1 (by decide) hi hL (by decide +kernel) (by decide +kernel) (by decide +kernel) (by decide +kernel) (by decide +kernel) ?_
  refine v_arg 2 (by decide) hi hL (by decide +kernel) (by decide +kernel) (by decide +kernel) (by decide +kernel) (by decide +kernel) ?_
  refine v_arg 3 (by decide) hi hL (by decide +kernel) (by decide +kernel) (by decide +kernel) (by decide +kernel) (by decide +kernel) ?_
  obtain ⟨z, hx, hz⟩ := pr_speeds s (i32r (xs (i + 1))) (i32r (xs (i + 2))) (i32r (xs (i + 3)))
  refine v_call (N := M_x_speeds) (a0 := 0) (c0 := 11) (av := [vI (xs (i + 1)).toInt, vI (xs (i + 2)).toInt, vI (xs (i + 3)).toInt]) (st := []) hx G_x_speeds lk_law_80 I_x_speeds (by decide) rfl rfl ⟨by decide, by decide⟩ rfl (by decide) (by decide +kernel) (fun v h1 q => ?_)
  obtain ⟨rfl, hm⟩ := q
  obtain ⟨x, rfl⟩ := hz
  refine v_m (by decide +kernel) ?_
  refine v_arg 1 (by decide) hi hL (by decide +kernel) (by decide +kernel) (by decide +kernel) (by decide +kernel) (by decide +kernel) ?_
  refine v_arg 2 (by decide) hi hL (by decide +kernel) (by decide +kernel) (by decide +kernel) (by decide +kernel) (by decide +kernel) ?_
  refine v_arg 3 (by decide) hi hL (by decide +kernel) (by decide +kernel) (by decide +kernel) (by decide +kernel) (by decide +kernel) ?_
  refine v_call (N := M_m_speeds) (a0 := 39) (c0 := 12) (av := [vI (xs (i + 1)).toInt, vI (xs (i + 2)).toInt, vI (xs (i + 3)).toInt]) (st := [vI x]) hm G_m_speeds lk_law_84 I_m_speeds (by decide) rfl rfl ⟨by decide, by decide⟩ rfl (Nat.le_of_ble_eq_true rfl) (by decide +kernel) (fun v2 h2 q2 => ?_)
  obtain ⟨rfl, w2, s2⟩ := q2
  exact v_eq (off := 454) (tgt := 1060) (by decide +kernel) (by decide) (K h2 w2 s2)
theorem v_c17 {b L i w : Nat} {xs : Nat → Int32} {h : zH} (hi : i + 6 ≤ L) (hL : L ≤ 3072) (s : Sim h w) (K : ∀ h2 w2, Sim h2 w2 → V b L xs i 1060 [] h2) : V b L xs i 611 [] h := by
  refine v_x (by decide +kernel) ?_
  refine v_arg 1 (by decide) hi hL (by decide +kernel) (by decide +kernel) (by decide +kernel) (by decide +kernel) (by decide +kernel) ?_
  refine v_arg 2 (by decide) hi hL (by decide +kernel) (by decide +kernel) (by decide +kernel) (by decide +kernel) (by decide +kernel) ?_
  refine v_arg 3 (by decide) hi hL (by decide +kernel) (by decide +kernel) (by decide +kernel) (by decide +kernel) (by decide +kernel) ?_
  refine v_arg 4 (by decide) hi hL (by decide +kernel) (by decide +kernel) (by decide +kernel) (by decide +kernel) (by decide +kernel) ?_
  obtain ⟨z, hx, hz⟩ := pr_steps s (i32r (xs (i + 1))) (i32r (xs (i + 2))) (i32r (xs (i + 3))) (i32r (xs (i + 4)))
  refine v_call (N := M_x_steps) (a0 := 0) (c0 := 11) (av := [vI (xs (i + 1)).toInt, vI (xs (i + 2)).toInt, vI (xs (i + 3)).toInt, vI (xs (i + 4)).toInt]) (st := []) hx G_x_steps lk_law_85 I_x_steps (by decide) rfl rfl ⟨by decide, by decide⟩ rfl (by decide) (by decide +kernel) (fun v h1 q => ?_)
  obtain ⟨rfl, hm⟩ := q
  obtain ⟨x, rfl⟩ := hz
  refine v_m (by decide +kernel) ?_
  refine v_arg 1 (by decide) hi hL (by decide +kernel) (by decide +kernel) (by decide +kernel) (by decide +kernel) (by decide +kernel) ?_
  refine v_arg 2 (by decide) hi hL (by decide +kernel) (by decide +kernel) (by decide +kernel) (by decide +kernel) (by decide +kernel) ?_
  refine v_arg 3 (by decide) hi hL (by decide +kernel) (by decide +kernel) (by decide +kernel) (by decide +kernel) (by decide +kernel) ?_
  refine v_arg 4 (by decide) hi hL (by decide +kernel) (by decide +kernel) (by decide +kernel) (by decide +kernel) (by decide +kernel) ?_
  refine v_call (N := M_m_steps) (a0 := 39) (c0 := 12) (av := [vI (xs (i + 1)).toInt, vI (xs (i + 2)).toInt, vI (xs (i + 3)).toInt, vI (xs (i + 4)).toInt]) (st := [vI x]) hm G_m_steps lk_law_89 I_m_steps (by decide) rfl rfl ⟨by decide, by decide⟩ rfl (Nat.le_of_ble_eq_true rfl) (by decide +kernel) (fun v2 h2 q2 => ?_)
  obtain ⟨rfl, w2, s2⟩ := q2
  exact v_eq (off := 401) (tgt := 1060) (by decide +kernel) (by decide) (K h2 w2 s2)
theorem v_c18 {b L i w : Nat} {xs : Nat → Int32} {h : zH} (hi : i + 6 ≤ L) (hL : L ≤ 3072) (s : Sim h w) (K : ∀ h2 w2, Sim h2 w2 → V b L xs i 1060 [] h2) : V b L xs i 664 [] h := by
  refine v_x (by decide +kernel) ?_
  refine v_arg 1 (by decide) hi hL (by decide +kernel) (by decide +kernel) (by decide +kernel) (by decide +kernel) (by decide +kernel) ?_
  refine v_arg 2 (by decide) hi hL (by decide +kernel) (by decide +kernel) (by decide +kernel) (by decide +kernel) (by decide +kernel) ?_
  obtain ⟨z, hx, hz⟩ := pr_chair s (i32r (xs (i + 1))) (i32r (xs (i + 2)))
  refine v_call (N := M_x_chair) (a0 := 0) (c0 := 11) (av := [vI (xs (i + 1)).toInt, vI (xs (i + 2)).toInt]) (st := []) hx G_x_chair lk_law_90 I_x_chair (by decide) rfl rfl ⟨by decide, by decide⟩ rfl (by decide) (by decide +kernel) (fun v h1 q => ?_)
  obtain ⟨rfl, hm⟩ := q
  obtain ⟨x, rfl⟩ := hz
  refine v_m (by decide +kernel) ?_
  refine v_arg 1 (by decide) hi hL (by decide +kernel) (by decide +kernel) (by decide +kernel) (by decide +kernel) (by decide +kernel) ?_
  refine v_arg 2 (by decide) hi hL (by decide +kernel) (by decide +kernel) (by decide +kernel) (by decide +kernel) (by decide +kernel) ?_
  refine v_call (N := M_m_chair) (a0 := 39) (c0 := 12) (av := [vI (xs (i + 1)).toInt, vI (xs (i + 2)).toInt]) (st := [vI x]) hm G_m_chair lk_law_93 I_m_chair (by decide) rfl rfl ⟨by decide, by decide⟩ rfl (Nat.le_of_ble_eq_true rfl) (by decide +kernel) (fun v2 h2 q2 => ?_)
  obtain ⟨rfl, w2, s2⟩ := q2
  exact v_eq (off := 368) (tgt := 1060) (by decide +kernel) (by decide) (K h2 w2 s2)
theorem v_c19 {b L i w : Nat} {xs : Nat → Int32} {h : zH} (hi : i + 6 ≤ L) (hL : L ≤ 3072) (s : Sim h w) (K : ∀ h2 w2, Sim h2 w2 → V b L xs i 1060 [] h2) : V b L xs i 697 [] h := by
  refine v_x (by decide +kernel) ?_
  refine v_arg 1 (by decide) hi hL (by decide +kernel) (by decide +kernel) (by decide +kernel) (by decide +kernel) (by decide +kernel) ?_
  refine v_arg 2 (by decide) hi hL (by decide +kernel) (by decide +kernel) (by decide +kernel) (by decide +kernel) (by decide +kernel) ?_
  obtain ⟨z, hx, hz⟩ := pr_seats s (i32r (xs (i + 1))) (i32r (xs (i + 2)))
  refine v_call (N := M_x_seats) (a0 := 0) (c0 := 11) (av := [vI (xs (i + 1)).toInt, vI (xs (i + 2)).toInt]) (st := []) hx G_x_seats lk_law_94 I_x_seats (by decide) rfl rfl ⟨by decide, by decide⟩ rfl (by decide) (by decide +kernel) (fun v h1 q => ?_)
  obtain ⟨rfl, hm⟩ := q
  obtain ⟨x, rfl⟩ := hz
  refine v_m (by decide +kernel) ?_
  refine v_arg 1 (by decide) hi hL (by decide +kernel) (by decide +kernel) (by decide +kernel) (by decide +kernel) (by decide +kernel) ?_
  refine v_arg 2 (by decide) hi hL (by decide +kernel) (by decide +kernel) (by decide +kernel) (by decide +kernel) (by decide +kernel) ?_
  refine v_call (N := M_m_seats) (a0 := 39) (c0 := 12) (av := [vI (xs (i + 1)).toInt, vI (xs (i + 2)).toInt]) (st := [vI x]) hm G_m_seats lk_law_97 I_m_seats (by decide) rfl rfl ⟨by decide, by decide⟩ rfl (Nat.le_of_ble_eq_true rfl) (by decide +kernel) (fun v2 h2 q2 => ?_)
  obtain ⟨rfl, w2, s2⟩ := q2
  exact v_eq (off := 335) (tgt := 1060) (by decide +kernel) (by decide) (K h2 w2 s2)
theorem v_c20 {b L i w : Nat} {xs : Nat → Int32} {h : zH} (hi : i + 6 ≤ L) (hL : L ≤ 3072) (s : Sim h w) (K : ∀ h2 w2, Sim h2 w2 → V b L xs i 1060 [] h2) : V b L xs i 730 [] h := by
  refine v_x (by decide +kernel) ?_
  refine v_arg 1 (by decide) hi hL (by decide +kernel) (by decide +kernel) (by decide +kernel) (by decide +kernel) (by decide +kernel) ?_
  refine v_arg 2 (by decide) hi hL (by decide +kernel) (by decide +kernel) (by decide +kernel) (by decide +kernel) (by decide +kernel) ?_
  refine v_arg 3 (by decide) hi hL (by decide +kernel) (by decide +kernel) (by decide +kernel) (by decide +kernel) (by decide +kernel) ?_
  refine v_arg 4 (by decide) hi hL (by decide +kernel) (by decide +kernel) (by decide +kernel) (by decide +kernel) (by decide +kernel) ?_
  refine v_arg 5 (by decide) hi hL (by decide +kernel) (by decide +kernel) (by decide +kernel) (by decide +kernel) (by decide +kernel) ?_
  obtain ⟨z, hx, hz⟩ := pr_odds s (i32r (xs (i + 1))) (i32r (xs (i + 2))) (i32r (xs (i + 3))) (i32r (xs (i + 4))) (i32r (xs (i + 5)))
  refine v_call (N := M_x_odds) (a0 := 0) (c0 := 11) (av := [vI (xs (i + 1)).toInt, vI (xs (i + 2)).toInt, vI (xs (i + 3)).toInt, vI (xs (i + 4)).toInt, vI (xs (i + 5)).toInt]) (st := []) hx G_x_odds lk_law_98 I_x_odds (by decide) rfl rfl ⟨by decide, by decide⟩ rfl (by decide) (by decide +kernel) (fun v h1 q => ?_)
  obtain ⟨rfl, hm⟩ := q
  obtain ⟨x, rfl⟩ := hz
  refine v_m (by decide +kernel) ?_
  refine v_arg 1 (by decide) hi hL (by decide +kernel) (by decide +kernel) (by decide +kernel) (by decide +kernel) (by decide +kernel) ?_
  refine v_arg 2 (by decide) hi hL (by decide +kernel) (by decide +kernel) (by decide +kernel) (by decide +kernel) (by decide +kernel) ?_
  refine v_arg 3 (by decide) hi hL (by decide +kernel) (by decide +kernel) (by decide +kernel) (by decide +kernel) (by decide +kernel) ?_
  refine v_arg 4 (by decide) hi hL (by decide +kernel) (by decide +kernel) (by decide +kernel) (by decide +kernel) (by decide +kernel) ?_
  refine v_arg 5 (by decide) hi hL (by decide +kernel) (by decide +kernel) (by decide +kernel) (by decide +kernel) (by decide +kernel) ?_
  refine v_call (N := M_m_odds) (a0 := 39) (c0 := 12) (av := [vI (xs (i + 1)).toInt, vI (xs (i + 2)).toInt, vI (xs (i + 3)).toInt, vI (xs (i + 4)).toInt, vI (xs (i + 5)).toInt]) (st := [vI x]) hm G_m_odds lk_law_102 I_m_odds (by decide) rfl rfl ⟨by decide, by decide⟩ rfl (Nat.le_of_ble_eq_true rfl) (by decide +kernel) (fun v2 h2 q2 => ?_)
  obtain ⟨rfl, w2, s2⟩ := q2
  exact v_eq (off := 272) (tgt := 1060) (by decide +kernel) (by decide) (K h2 w2 s2)
theorem v_c21 {b L i w : Nat} {xs : Nat → Int32} {h : zH} (hi : i + 6 ≤ L) (hL : L ≤ 3072) (s : Sim h w) (K : ∀ h2 w2, Sim h2 w2 → V b L xs i 1060 [] h2) : V b L xs i 793 [] h := by
  refine v_x (by decide +kernel) ?_
  refine v_arg 1 (by decide) hi hL (by decide +kernel) (by decide +kernel) (by decide +kernel) (by decide +kernel) (by decide +kernel) ?_
  refine v_arg 2 (by decide) hi hL (by decide +kernel) (by decide +kernel) (by decide +kernel) (by decide +kernel) (by decide +kernel) ?_
  obtain ⟨z, hx, hz⟩ := pr_saw s (i32r (xs (i + 1))) (i32r (xs (i + 2)))
  refine v_call (N := M_x_saw) (a0 := 0) (c0 := 11) (av := [vI (xs (i + 1)).toInt, vI (xs (i + 2)).toInt]) (st := []) hx G_x_saw lk_law_103 I_x_saw (by decide) rfl rfl ⟨by decide, by decide⟩ rfl (by decide) (by decide +kernel) (fun v h1 q => ?_)
  obtain ⟨rfl, hm⟩ := q
  obtain ⟨x, rfl⟩ := hz
  refine v_m (by decide +kernel) ?_
  refine v_arg 1 (by decide) hi hL (by decide +kernel) (by decide +kernel) (by decide +kernel) (by decide +kernel) (by decide +kernel) ?_
  refine v_arg 2 (by decide) hi hL (by decide +kernel) (by decide +kernel) (by decide +kernel) (by decide +kernel) (by decide +kernel) ?_
  refine v_call (N := M_m_saw) (a0 := 39) (c0 := 12) (av := [vI (xs (i + 1)).toInt, vI (xs (i + 2)).toInt]) (st := [vI x]) hm G_m_saw lk_law_106 I_m_saw (by decide) rfl rfl ⟨by decide, by decide⟩ rfl (Nat.le_of_ble_eq_true rfl) (by decide +kernel) (fun v2 h2 q2 => ?_)
  obtain ⟨rfl, w2, s2⟩ := q2
  exact v_eq (off := 239) (tgt := 1060) (by decide +kernel) (by decide) (K h2 w2 s2)
theorem v_c22 {b L i w : Nat} {xs : Nat → Int32} {h : zH} (hi : i + 6 ≤ L) (hL : L ≤ 3072) (s : Sim h w) (K : ∀ h2 w2, Sim h2 w2 → V b L xs i 1060 [] h2) : V b L xs i 826 [] h := by
  refine v_x (by decide +kernel) ?_
  refine v_arg 1 (by decide) hi hL (by decide +kernel) (by decide +kernel) (by decide +kernel) (by decide +kernel) (by decide +kernel) ?_
  obtain ⟨z, hx, hz⟩ := pr_spun s (i32r (xs (i + 1)))
  refine v_call (N := M_x_spun) (a0 := 0) (c0 := 11) (av := [vI (xs (i + 1)).toInt]) (st := []) hx G_x_spun lk_law_107 I_x_spun (by decide) rfl rfl ⟨by decide, by decide⟩ rfl (by decide) (by decide +kernel) (fun v h1 q => ?_)
  obtain ⟨rfl, hm⟩ := q
  obtain ⟨x, rfl⟩ := hz
  refine v_m (by decide +kernel) ?_
  refine v_arg 1 (by decide) hi hL (by decide +kernel) (by decide +kernel) (by decide +kernel) (by decide +kernel) (by decide +kernel) ?_
  refine v_call (N := M_m_spun) (a0 := 39) (c0 := 12) (av := [vI (xs (i + 1)).toInt]) (st := [vI x]) hm G_m_spun lk_law_110 I_m_spun (by decide) rfl rfl ⟨by decide, by decide⟩ rfl (Nat.le_of_ble_eq_true rfl) (by decide +kernel) (fun v2 h2 q2 => ?_)
  obtain ⟨rfl, w2, s2⟩ := q2
  exact v_eq (off := 216) (tgt := 1060) (by decide +kernel) (by decide) (K h2 w2 s2)
theorem v_c23 {b L i w : Nat} {xs : Nat → Int32} {h : zH} (hi : i + 6 ≤ L) (hL : L ≤ 3072) (s : Sim h w) (K : ∀ h2 w2, Sim h2 w2 → V b L xs i 1060 [] h2) : V b L xs i 849 [] h := by
  refine v_x (by decide +kernel) ?_
  obtain ⟨z, hx, hz⟩ := pr_look s 
  refine v_call (N := M_x_look) (a0 := 0) (c0 := 11) (av := []) (st := []) hx G_x_look lk_law_111 I_x_look (by decide) rfl rfl ⟨by decide, by decide⟩ rfl (by decide) (by decide +kernel) (fun v h1 q => ?_)
  obtain ⟨rfl, hm⟩ := q
  obtain ⟨x, rfl⟩ := hz
  refine v_m (by decide +kernel) ?_
  refine v_call (N := M_m_look) (a0 := 39) (c0 := 12) (av := []) (st := [vI x]) hm G_m_look lk_law_114 I_m_look (by decide) rfl rfl ⟨by decide, by decide⟩ rfl (Nat.le_of_ble_eq_true rfl) (by decide +kernel) (fun v2 h2 q2 => ?_)
  obtain ⟨rfl, w2, s2⟩ := q2
  exact v_eq (off := 203) (tgt := 1060) (by decide +kernel) (by decide) (K h2 w2 s2)
theorem v_c24 {b L i w : Nat} {xs : Nat → Int32} {h : zH} (hi : i + 6 ≤ L) (hL : L ≤ 3072) (s : Sim h w) (K : ∀ h2 w2, Sim h2 w2 → V b L xs i 1060 [] h2) : V b L xs i 862 [] h := by
  refine v_x (by decide +kernel) ?_
  refine v_arg 1 (by decide) hi hL (by decide +kernel) (by decide +kernel) (by decide +kernel) (by decide +kernel) (by decide +kernel) ?_
  refine v_arg 2 (by decide) hi hL (by decide +kernel) (by decide +kernel) (by decide +kernel) (by decide +kernel) (by decide +kernel) ?_
  obtain ⟨z, hx, hz⟩ := pr_hears s (i32r (xs (i + 1))) (i32r (xs (i + 2)))
  refine v_call (N := M_x_hears) (a0 := 0) (c0 := 11) (av := [vI (xs (i + 1)).toInt, vI (xs (i + 2)).toInt]) (st := []) hx G_x_hears lk_law_115 I_x_hears (by decide) rfl rfl ⟨by decide, by decide⟩ rfl (by decide) (by decide +kernel) (fun v h1 q => ?_)
  obtain ⟨rfl, hm⟩ := q
  obtain ⟨x, rfl⟩ := hz
  refine v_m (by decide +kernel) ?_
  refine v_arg 1 (by decide) hi hL (by decide +kernel) (by decide +kernel) (by decide +kernel) (by decide +kernel) (by decide +kernel) ?_
  refine v_arg 2 (by decide) hi hL (by decide +kernel) (by decide +kernel) (by decide +kernel) (by decide +kernel) (by decide +kernel) ?_
  refine v_call (N := M_m_hears) (a0 := 39) (c0 := 12) (av := [vI (xs (i + 1)).toInt, vI (xs (i + 2)).toInt]) (st := [vI x]) hm G_m_hears lk_law_118 I_m_hears (by decide) rfl rfl ⟨by decide, by decide⟩ rfl (Nat.le_of_ble_eq_true rfl) (by decide +kernel) (fun v2 h2 q2 => ?_)
  obtain ⟨rfl, w2, s2⟩ := q2
  exact v_eq (off := 170) (tgt := 1060) (by decide +kernel) (by decide) (K h2 w2 s2)
theorem v_c25 {b L i w : Nat} {xs : Nat → Int32} {h : zH} (hi : i + 6 ≤ L) (hL : L ≤ 3072) (s : Sim h w) (K : ∀ h2 w2, Sim h2 w2 → V b L xs i 1060 [] h2) : V b L xs i 895 [] h := by
  refine v_x (by decide +kernel) ?_
  refine v_arg 1 (by decide) hi hL (by decide +kernel) (by decide +kernel) (by decide +kernel) (by decide +kernel) (by decide +kernel) ?_
  obtain ⟨z, hx, hz⟩ := pr_laws s (i32r (xs (i + 1)))
  refine v_call (N := M_x_laws) (a0 := 0) (c0 := 11) (av := [vI (xs (i + 1)).toInt]) (st := []) hx G_x_laws lk_law_119 I_x_laws (by decide) rfl rfl ⟨by decide, by decide⟩ rfl (by decide) (by decide +kernel) (fun v h1 q => ?_)
  obtain ⟨rfl, hm⟩ := q
  obtain ⟨x, rfl⟩ := hz
  refine v_m (by decide +kernel) ?_
  refine v_arg 1 (by decide) hi hL (by decide +kernel) (by decide +kernel) (by decide +kernel) (by decide +kernel) (by decide +kernel) ?_
  refine v_call (N := M_m_laws) (a0 := 39) (c0 := 12) (av := [vI (xs (i + 1)).toInt]) (st := [vI x]) hm G_m_laws lk_law_122 I_m_laws (by decide) rfl rfl ⟨by decide, by decide⟩ rfl (Nat.le_of_ble_eq_true rfl) (by decide +kernel) (fun v2 h2 q2 => ?_)
  obtain ⟨rfl, w2, s2⟩ := q2
  exact v_eq (off := 147) (tgt := 1060) (by decide +kernel) (by decide) (K h2 w2 s2)
theorem v_c26 {b L i w : Nat} {xs : Nat → Int32} {h : zH} (hi : i + 6 ≤ L) (hL : L ≤ 3072) (s : Sim h w) (K : ∀ h2 w2, Sim h2 w2 → V b L xs i 1060 [] h2) : V b L xs i 918 [] h := by
  refine v_x (by decide +kernel) ?_
  obtain ⟨z, hx, hz⟩ := pr_tryNext s 
  refine v_call (N := M_x_tryNext) (a0 := 0) (c0 := 11) (av := []) (st := []) hx G_x_tryNext lk_law_123 I_x_tryNext (by decide) rfl rfl ⟨by decide, by decide⟩ rfl (by decide) (by decide +kernel) (fun v h1 q => ?_)
  obtain ⟨rfl, hm⟩ := q
  obtain ⟨x, rfl⟩ := hz
  refine v_m (by decide +kernel) ?_
  refine v_call (N := M_m_tryNext) (a0 := 39) (c0 := 12) (av := []) (st := [vI x]) hm G_m_tryNext lk_law_126 I_m_tryNext (by decide) rfl rfl ⟨by decide, by decide⟩ rfl (Nat.le_of_ble_eq_true rfl) (by decide +kernel) (fun v2 h2 q2 => ?_)
  obtain ⟨rfl, w2, s2⟩ := q2
  exact v_eq (off := 134) (tgt := 1060) (by decide +kernel) (by decide) (K h2 w2 s2)
theorem v_c27 {b L i w : Nat} {xs : Nat → Int32} {h : zH} (hi : i + 6 ≤ L) (hL : L ≤ 3072) (s : Sim h w) (K : ∀ h2 w2, Sim h2 w2 → V b L xs i 1060 [] h2) : V b L xs i 931 [] h := by
  refine v_x (by decide +kernel) ?_
  obtain ⟨z, hx, hz⟩ := pr_forget s 
  refine v_call (N := M_x_forget) (a0 := 0) (c0 := 11) (av := []) (st := []) hx G_x_forget lk_law_127 I_x_forget (by decide) rfl rfl ⟨by decide, by decide⟩ rfl (by decide) (by decide +kernel) (fun v h1 q => ?_)
  obtain ⟨rfl, hm⟩ := q
  obtain ⟨x, rfl⟩ := hz
  refine v_m (by decide +kernel) ?_
  refine v_call (N := M_m_forget) (a0 := 39) (c0 := 12) (av := []) (st := [vI x]) hm G_m_forget lk_law_130 I_m_forget (by decide) rfl rfl ⟨by decide, by decide⟩ rfl (Nat.le_of_ble_eq_true rfl) (by decide +kernel) (fun v2 h2 q2 => ?_)
  obtain ⟨rfl, w2, s2⟩ := q2
  exact v_eq (off := 121) (tgt := 1060) (by decide +kernel) (by decide) (K h2 w2 s2)
theorem v_c28 {b L i w : Nat} {xs : Nat → Int32} {h : zH} (hi : i + 6 ≤ L) (hL : L ≤ 3072) (s : Sim h w) (K : ∀ h2 w2, Sim h2 w2 → V b L xs i 1060 [] h2) : V b L xs i 944 [] h := by
  refine v_x (by decide +kernel) ?_
  refine v_arg 1 (by decide) hi hL (by decide +kernel) (by decide +kernel) (by decide +kernel) (by decide +kernel) (by decide +kernel) ?_
  refine v_arg 2 (by decide) hi hL (by decide +kernel) (by decide +kernel) (by decide +kernel) (by decide +kernel) (by decide +kernel) ?_
  obtain ⟨z, hx, hz⟩ := pr_mark s (i32r (xs (i + 1))) (i32r (xs (i + 2)))
  refine v_call (N := M_x_mark) (a0 := 0) (c0 := 11) (av := [vI (xs (i + 1)).toInt, vI (xs (i + 2)).toInt]) (st := []) hx G_x_mark lk_law_131 I_x_mark (by decide) rfl rfl ⟨by decide, by decide⟩ rfl (by decide) (by decide +kernel) (fun v h1 q => ?_)
  obtain ⟨rfl, hm⟩ := q
  obtain ⟨x, rfl⟩ := hz
  refine v_m (by decide +kernel) ?_
  refine v_arg 1 (by decide) hi hL (by decide +kernel) (by decide +kernel) (by decide +kernel) (by decide +kernel) (by decide +kernel) ?_
  refine v_arg 2 (by decide) hi hL (by decide +kernel) (by decide +kernel) (by decide +kernel) (by decide +kernel) (by decide +kernel) ?_
  refine v_call (N := M_m_mark) (a0 := 39) (c0 := 12) (av := [vI (xs (i + 1)).toInt, vI (xs (i + 2)).toInt]) (st := [vI x]) hm G_m_mark lk_law_134 I_m_mark (by decide) rfl rfl ⟨by decide, by decide⟩ rfl (Nat.le_of_ble_eq_true rfl) (by decide +kernel) (fun v2 h2 q2 => ?_)
  obtain ⟨rfl, w2, s2⟩ := q2
  exact v_eq (off := 88) (tgt := 1060) (by decide +kernel) (by decide) (K h2 w2 s2)
theorem v_c29 {b L i w : Nat} {xs : Nat → Int32} {h : zH} (hi : i + 6 ≤ L) (hL : L ≤ 3072) (s : Sim h w) (K : ∀ h2 w2, Sim h2 w2 → V b L xs i 1060 [] h2) : V b L xs i 977 [] h := by
  refine v_x (by decide +kernel) ?_
  refine v_arg 1 (by decide) hi hL (by decide +kernel) (by decide +kernel) (by decide +kernel) (by decide +kernel) (by decide +kernel) ?_
  obtain ⟨z, hx, hz⟩ := pr_keep s (i32r (xs (i + 1)))
  refine v_call (N := M_x_keep) (a0 := 0) (c0 := 11) (av := [vI (xs (i + 1)).toInt]) (st := []) hx G_x_keep lk_law_135 I_x_keep (by decide) rfl rfl ⟨by decide, by decide⟩ rfl (by decide) (by decide +kernel) (fun v h1 q => ?_)
  obtain ⟨rfl, hm⟩ := q
  obtain ⟨x, rfl⟩ := hz
  refine v_m (by decide +kernel) ?_
  refine v_arg 1 (by decide) hi hL (by decide +kernel) (by decide +kernel) (by decide +kernel) (by decide +kernel) (by decide +kernel) ?_
  refine v_call (N := M_m_keep) (a0 := 39) (c0 := 12) (av := [vI (xs (i + 1)).toInt]) (st := [vI x]) hm G_m_keep lk_law_138 I_m_keep (by decide) rfl rfl ⟨by decide, by decide⟩ rfl (Nat.le_of_ble_eq_true rfl) (by decide +kernel) (fun v2 h2 q2 => ?_)
  obtain ⟨rfl, w2, s2⟩ := q2
  exact v_eq (off := 65) (tgt := 1060) (by decide +kernel) (by decide) (K h2 w2 s2)
theorem v_c30 {b L i w : Nat} {xs : Nat → Int32} {h : zH} (hi : i + 6 ≤ L) (hL : L ≤ 3072) (s : Sim h w) (K : ∀ h2 w2, Sim h2 w2 → V b L xs i 1060 [] h2) : V b L xs i 1000 [] h := by
  refine v_x (by decide +kernel) ?_
  refine v_arg 1 (by decide) hi hL (by decide +kernel) (by decide +kernel) (by decide +kernel) (by decide +kernel) (by decide +kernel) ?_
  obtain ⟨z, hx, hz⟩ := pr_back s (i32r (xs (i + 1)))
  refine v_call (N := M_x_back) (a0 := 0) (c0 := 11) (av := [vI (xs (i + 1)).toInt]) (st := []) hx G_x_back lk_law_139 I_x_back (by decide) rfl rfl ⟨by decide, by decide⟩ rfl (by decide) (by decide +kernel) (fun v h1 q => ?_)
  obtain ⟨rfl, hm⟩ := q
  obtain ⟨x, rfl⟩ := hz
  refine v_m (by decide +kernel) ?_
  refine v_arg 1 (by decide) hi hL (by decide +kernel) (by decide +kernel) (by decide +kernel) (by decide +kernel) (by decide +kernel) ?_
  refine v_call (N := M_m_back) (a0 := 39) (c0 := 12) (av := [vI (xs (i + 1)).toInt]) (st := [vI x]) hm G_m_back lk_law_142 I_m_back (by decide) rfl rfl ⟨by decide, by decide⟩ rfl (Nat.le_of_ble_eq_true rfl) (by decide +kernel) (fun v2 h2 q2 => ?_)
  obtain ⟨rfl, w2, s2⟩ := q2
  exact v_eq (off := 42) (tgt := 1060) (by decide +kernel) (by decide) (K h2 w2 s2)
theorem v_c31 {b L i w : Nat} {xs : Nat → Int32} {h : zH} (hi : i + 6 ≤ L) (hL : L ≤ 3072) (s : Sim h w) (K : ∀ h2 w2, Sim h2 w2 → V b L xs i 1060 [] h2) : V b L xs i 1023 [] h := by
  refine v_x (by decide +kernel) ?_
  refine v_arg 1 (by decide) hi hL (by decide +kernel) (by decide +kernel) (by decide +kernel) (by decide +kernel) (by decide +kernel) ?_
  obtain ⟨z, hx, hz⟩ := pr_count s (i32r (xs (i + 1)))
  refine v_call (N := M_x_count) (a0 := 0) (c0 := 11) (av := [vI (xs (i + 1)).toInt]) (st := []) hx G_x_count lk_law_143 I_x_count (by decide) rfl rfl ⟨by decide, by decide⟩ rfl (by decide) (by decide +kernel) (fun v h1 q => ?_)
  obtain ⟨rfl, hm⟩ := q
  obtain ⟨x, rfl⟩ := hz
  refine v_m (by decide +kernel) ?_
  refine v_arg 1 (by decide) hi hL (by decide +kernel) (by decide +kernel) (by decide +kernel) (by decide +kernel) (by decide +kernel) ?_
  refine v_call (N := M_m_count) (a0 := 39) (c0 := 12) (av := [vI (xs (i + 1)).toInt]) (st := [vI x]) hm G_m_count lk_law_146 I_m_count (by decide) rfl rfl ⟨by decide, by decide⟩ rfl (Nat.le_of_ble_eq_true rfl) (by decide +kernel) (fun v2 h2 q2 => ?_)
  obtain ⟨rfl, w2, s2⟩ := q2
  exact v_eq (off := 19) (tgt := 1060) (by decide +kernel) (by decide) (K h2 w2 s2)
theorem v_c32 {b L i w : Nat} {xs : Nat → Int32} {h : zH} (hi : i + 6 ≤ L) (hL : L ≤ 3072) (s : Sim h w) (K : ∀ h2 w2, Sim h2 w2 → V b L xs i 1060 [] h2) : V b L xs i 1046 [] h := by
  refine v_x (by decide +kernel) ?_
  obtain ⟨z, hx, hz⟩ := pr_trace s 
  refine v_call (N := M_x_trace) (a0 := 0) (c0 := 11) (av := []) (st := []) hx G_x_trace lk_law_147 I_x_trace (by decide) rfl rfl ⟨by decide, by decide⟩ rfl (by decide) (by decide +kernel) (fun v h1 q => ?_)
  obtain ⟨rfl, hm⟩ := q
  obtain ⟨x, rfl⟩ := hz
  refine v_m (by decide +kernel) ?_
  refine v_call (N := M_m_trace) (a0 := 39) (c0 := 12) (av := []) (st := [vL x]) hm G_m_trace lk_law_151 I_m_trace (by decide) rfl rfl ⟨by decide, by decide⟩ rfl (Nat.le_of_ble_eq_true rfl) (by decide +kernel) (fun v2 h2 q2 => ?_)
  obtain ⟨rfl, w2, s2⟩ := q2
  exact v_leq (off := 5) (tgt := 1060) (by decide +kernel) (by decide +kernel) (by decide) (K h2 w2 s2)
theorem v_cases {b L i w : Nat} {xs : Nat → Int32} {h : zH} (hi : i + 6 ≤ L) (hL : L ≤ 3072) (s : Sim h w) (K : ∀ h2 w2, Sim h2 w2 → V b L xs i 1060 [] h2) : ∀ j, j < 33 → V b L xs i (tg j) [] h := by
  intro j hj
  match j, hj with
  | 0, _ => exact v_c0 hi hL s K
  | 1, _ => exact v_c1 hi hL s K
  | 2, _ => exact v_c2 hi hL s K
  | 3, _ => exact v_c3 hi hL s K
  | 4, _ => exact v_c4 hi hL s K
  | 5, _ => exact v_c5 hi hL s K
  | 6, _ => exact v_c6 hi hL s K
  | 7, _ => exact v_c7 hi hL s K
  | 8, _ => exact v_c8 hi hL s K
  | 9, _ => exact v_c9 hi hL s K
  | 10, _ => exact v_c10 hi hL s K
  | 11, _ => exact v_c11 hi hL s K
  | 12, _ => exact v_c12 hi hL s K
  | 13, _ => exact v_c13 hi hL s K
  | 14, _ => exact v_c14 hi hL s K
  | 15, _ => exact v_c15 hi hL s K
  | 16, _ => exact v_c16 hi hL s K
  | 17, _ => exact v_c17 hi hL s K
  | 18, _ => exact v_c18 hi hL s K
  | 19, _ => exact v_c19 hi hL s K
  | 20, _ => exact v_c20 hi hL s K
  | 21, _ => exact v_c21 hi hL s K
  | 22, _ => exact v_c22 hi hL s K
  | 23, _ => exact v_c23 hi hL s K
  | 24, _ => exact v_c24 hi hL s K
  | 25, _ => exact v_c25 hi hL s K
  | 26, _ => exact v_c26 hi hL s K
  | 27, _ => exact v_c27 hi hL s K
  | 28, _ => exact v_c28 hi hL s K
  | 29, _ => exact v_c29 hi hL s K
  | 30, _ => exact v_c30 hi hL s K
  | 31, _ => exact v_c31 hi hL s K
  | 32, _ => exact v_c32 hi hL s K
  | j + 33, h9 => exact absurd h9 (by omega)
theorem v_loop {b L : Nat} {xs : Nat → Int32} (hL : L ≤ 3072) : ∀ (n i : Nat) (h : zH) (w : Nat), L ≤ i + n → i ≤ L + 5 → Sim h w → V b L xs i 18 [] h := by
  intro n
  induction n with
  | zero => exact fun i h w h1 h2 s => v_head hL h2 (fun hi => absurd hi (by omega))
  | succ n ih =>
    intro i h w h1 h2 s
    refine v_head hL h2 (fun hi => ?_)
    have K : ∀ h2 w2, Sim h2 w2 → V b L xs i 1060 [] h2 := fun h2 w2 s2 => v_next (by decide +kernel) (by decide +kernel) (ih (i + 6) h2 w2 (by omega) (by omega) s2)
    exact v_switch hi hL (v_cases hi hL s K) (K h w s)
