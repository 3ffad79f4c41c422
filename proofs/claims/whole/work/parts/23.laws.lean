/-! laws -/
theorem clk_dec : ∀ v, v < 61 → ∀ k, k < 10 → ∀ d, d < 10 → 1 ≤ d → clk ((v : Nat) : Int) ((k : Nat) : Int) ((d : Nat) : Int) ≤ 382 := by decide +kernel
theorem clk_382 {v k d : Int} (hv : 1 ≤ v ∧ v ≤ 60) (hk : 0 ≤ k ∧ k ≤ 9) (hd : 1 ≤ d ∧ d ≤ 9) : clk v k d ≤ 382 := by
  have h := clk_dec v.toNat (by omega) k.toNat (by omega) d.toNat (by omega) (by omega)
  rw [tn (by omega), tn (by omega), tn (by omega)] at h
  exact h
def lawB (hd : Int → Int → Bool) (L : Int) : Bool := decide (0 < L % 10) && hd (L / 10) (L % 10)
def lawsL (b : Int → Bool) : Nat → List Int
  | 0 => []
  | m + 1 => if b m then lawsL b m ++ [(m : Int)] else lawsL b m
theorem lawsL_len (hd : Int → Int → Bool) : ∀ m : Nat, (lawsL (lawB hd) m).length + (m + 9) / 10 ≤ m
  | 0 => by simp [lawsL]
  | m + 1 => by
    have ih := lawsL_len hd m
    simp only [lawsL]
    by_cases hb : lawB hd m = true
    · rw [if_pos hb, List.length_append, List.length_singleton]
      have : 0 < (m : Int) % 10 := by
        unfold lawB at hb
        exact of_decide_eq_true (Bool.and_eq_true_iff.mp hb).1
      omega
    · rw [if_neg hb]; omega
theorem lawsL_mem (hd : Int → Int → Bool) : ∀ (m : Nat) (x : Int), x ∈ lawsL (lawB hd) m → 0 ≤ x ∧ x < m ∧ 0 < x % 10
  | 0, x, h => by simp [lawsL] at h
  | m + 1, x, h => by
    simp only [lawsL] at h
    by_cases hb : lawB hd m = true
    · rw [if_pos hb] at h
      rcases List.mem_append.mp h with q | q
      · have := lawsL_mem hd m x q; omega
      · rw [List.mem_singleton] at q
        unfold lawB at hb
        have := of_decide_eq_true (Bool.and_eq_true_iff.mp hb).1
        rw [q]; omega
    · rw [if_neg hb] at h
      have := lawsL_mem hd m x h; omega
theorem lawsL_pre (b : Int → Bool) (m : Nat) : ∀ k : Nat, ∃ t, lawsL b (m + k) = lawsL b m ++ t
  | 0 => ⟨[], by simp⟩
  | k + 1 => by
    obtain ⟨t, ht⟩ := lawsL_pre b m k
    show ∃ t, lawsL b (m + k + 1) = _
    simp only [lawsL]
    split
    · exact ⟨t ++ [((m + k : Nat) : Int)], by rw [ht, List.append_assoc]⟩
    · exact ⟨t, ht⟩
theorem lawsL_t (b : Int → Bool) {m : Nat} (hb : b m = true) : lawsL b (m + 1) = lawsL b m ++ [(m : Int)] := by simp only [lawsL]; rw [if_pos hb]
theorem lawsL_f (b : Int → Bool) {m : Nat} (hb : ¬ b m = true) : lawsL b (m + 1) = lawsL b m := by simp only [lawsL]; rw [if_neg hb]
/-- the list by which the fitting laws are told -/
theorem lawsL_at (b : Int → Bool) {m M : Nat} (hm : m < M) (hb : b m = true) : (lawsL b M)[(lawsL b m).length]? = some (m : Int) ∧ (lawsL b M).take ((lawsL b m).length + 1) = lawsL b (m + 1) ∧ (lawsL b M).take (lawsL b m).length = lawsL b m := by
  obtain ⟨t, ht⟩ := lawsL_pre b (m + 1) (M - (m + 1))
  rw [show m + 1 + (M - (m + 1)) = M by omega] at ht
  have e := lawsL_t b hb
  rw [e] at ht
  refine ⟨?_, ?_, ?_⟩
  · rw [ht, List.append_assoc]
    simp
  · rw [ht, e, List.take_append_of_le_length (by simp)]
    exact List.take_of_length_le (by simp)
  · rw [ht, List.append_assoc]
    simp
def lawB0 (hd : Int → Int → Bool) : lawB hd 0 = false := by simp [lawB]
theorem l_x_findLaws_in {h : zH} {post : Option zV → zH → Prop} {a : Int} (hs : HI (h 22 2) (hx1 h) (hx2 h)) (ha : 0 ≤ a ∧ a ≤ 9) (K : ∀ h2, (∀ q, q ≠ 33 → h2 q = h q) → (∀ j : Nat, j < (lawsL (lawB (hdB (hx1 h) (hx2 h) (h 22 2))) (10 * a + 10).toNat).length → h2 33 j = (lawsL (lawB (hdB (hx1 h) (hx2 h) (h 22 2))) (10 * a + 10).toNat).getD j 0) → Z M_x_findLaws post 57 [vR 0, vI ((lawsL (lawB (hdB (hx1 h) (hx2 h) (h 22 2))) (10 * a + 10).toNat).length : Int), vI a, vI 10] [] h2) : ∀ (k : Nat) (d : Int) (h1 : zH), 1 ≤ d → d ≤ 10 → 10 - d < k → (∀ q, q ≠ 33 → h1 q = h q) → (∀ j : Nat, j < (lawsL (lawB (hdB (hx1 h) (hx2 h) (h 22 2))) (10 * a + d).toNat).length → h1 33 j = (lawsL (lawB (hdB (hx1 h) (hx2 h) (h 22 2))) (10 * a + d).toNat).getD j 0) → Z M_x_findLaws post 12 [vR 0, vI ((lawsL (lawB (hdB (hx1 h) (hx2 h) (h 22 2))) (10 * a + d).toNat).length : Int), vI a, vI d] [] h1 := by
  intro k
  induction k with
  | zero => intro d h1 h0 h2 h3; omega
  | succ k ih =>
    intro d h1 h0 h2 h3 hE hA
    have hlen := lawsL_len (hdB (hx1 h) (hx2 h) (h 22 2)) (10 * a + d).toNat
    have hs1 : HI (h1 22 2) (hx1 h1) (hx2 h1) := by
      have e1 : hx1 h1 = hx1 h := by funext j; unfold hx1; rw [hE 23 (by omega)]
      have e2 : hx2 h1 = hx2 h := by funext j; unfold hx2; rw [hE 24 (by omega)]
      rw [e1, e2, hE 22 (by omega)]; exact hs
    have eD : hdB (hx1 h1) (hx2 h1) (h1 22 2) = hdB (hx1 h) (hx2 h) (h 22 2) := by
      have e1 : hx1 h1 = hx1 h := by funext j; unfold hx1; rw [hE 23 (by omega)]
      have e2 : hx2 h1 = hx2 h := by funext j; unfold hx2; rw [hE 24 (by omega)]
      rw [e1, e2, hE 22 (by omega)]
    have eL : (10 * a + (d + 1)).toNat = (10 * a + d).toNat + 1 := by omega
    have eN : (((10 * a + d).toNat : Nat) : Int) = 10 * a + d := by omega
    have hlb : d ≤ 9 → lawB (hdB (hx1 h) (hx2 h) (h 22 2)) (((10 * a + d).toNat : Nat) : Int) = hdB (hx1 h) (hx2 h) (h 22 2) a d := fun q => by
      rw [eN]
      unfold lawB
      rw [show (10 * a + d) % 10 = d by omega, show (10 * a + d) / 10 = a by omega]
      have : decide (0 < d) = true := decide_eq_true (by omega)
      rw [this, Bool.true_and]
    refine z_iload_n D_x_findLaws_12 rfl ?_
    refine z_bipush (by decide) D_x_findLaws_13 ?_
    refine z_icmp_gt (tgt := 57) D_x_findLaws_15 (by decide) (by omega) (by omega) (fun q15 => ?_) (fun q15 => ?_)
    · have e9 : d = 10 := by omega
      subst e9
      exact K h1 hE hA
    · refine z_aload_n D_x_findLaws_18 rfl ?_
      refine z_iload_n D_x_findLaws_19 rfl ?_
      refine z_iload_n D_x_findLaws_20 rfl ?_
      refine z_V2 (c0 := 11) (c_x_isAsHeard hs1 ha (by omega)) G_x_isAsHeard I_x_isAsHeard lk_x_311 (rfl) ⟨by decide, rfl⟩ ⟨Nat.le_of_ble_eq_true rfl, Nat.le_of_ble_eq_true rfl⟩ (Nat.le_of_ble_eq_true rfl) D_x_findLaws_21 ?_
      refine z_ifeqB (tgt := 51) D_x_findLaws_24 (by decide) (fun q24 => ?_) (fun q24 => ?_)
      · refine z_iinc_3 D_x_findLaws_51 (Nat.le_of_ble_eq_true rfl) rfl ?_
        refine z_goto (tgt := 12) D_x_findLaws_54 (by decide) ?_
        rw [eD] at q24
        have e := lawsL_f (lawB (hdB (hx1 h) (hx2 h) (h 22 2))) (m := (10 * a + d).toNat) (by rw [hlb (by omega)]; exact q24)
        rw [← eL] at e
        rw [← e] at hA ⊢
        exact ih (d + 1) h1 (by omega) (by omega) (by omega) hE hA
      · refine z_iload_n D_x_findLaws_27 rfl ?_
        refine z_aload_n D_x_findLaws_28 rfl ?_
        refine z_getR (q := 33) fl_x_80 (rfl) rfl (rfl) D_x_findLaws_29 ?_
        refine z_alen (n := 90) (rfl) (by decide) D_x_findLaws_32 ?_
        refine z_icmp_ge (tgt := 51) D_x_findLaws_33 (by decide) (by omega) (by omega) (fun q33 => ?_) (fun q33 => ?_)
        · refine z_iinc_3 D_x_findLaws_51 (Nat.le_of_ble_eq_true rfl) rfl ?_
          refine z_goto (tgt := 12) D_x_findLaws_54 (by decide) ?_
          exfalso
          omega
        · refine z_aload_n D_x_findLaws_36 rfl ?_
          refine z_getR (q := 33) fl_x_80 (rfl) rfl (rfl) D_x_findLaws_37 ?_
          refine z_iload_n D_x_findLaws_40 rfl ?_
          refine z_bipush (by decide) D_x_findLaws_41 ?_
          refine z_iload_n D_x_findLaws_43 rfl ?_
          refine z_imul D_x_findLaws_44 ?_
          refine z_iload_n D_x_findLaws_45 rfl ?_
          refine z_iadd D_x_findLaws_46 ?_
          refine z_iast (n := 90) (rfl) (by omega) D_x_findLaws_47 ?_
          refine z_iinc_1 D_x_findLaws_48 (Nat.le_of_ble_eq_true rfl) rfl ?_
          refine z_iinc_3 D_x_findLaws_51 (Nat.le_of_ble_eq_true rfl) rfl ?_
          refine z_goto (tgt := 12) D_x_findLaws_54 (by decide) ?_
          rw [eD] at q24
          have e := lawsL_t (lawB (hdB (hx1 h) (hx2 h) (h 22 2))) (m := (10 * a + d).toNat) (by rw [hlb (by omega)]; exact q24)
          rw [← eL] at e
          have e3 : ((lawsL (lawB (hdB (hx1 h) (hx2 h) (h 22 2))) (10 * a + d).toNat).length : Int) + 1 = ((lawsL (lawB (hdB (hx1 h) (hx2 h) (h 22 2))) (10 * a + (d + 1)).toNat).length : Int) := by rw [e, List.length_append, List.length_singleton]; omega
          rw [e3]
          refine ih (d + 1) _ (by omega) (by omega) (by omega) (fun q hq => by funext j; rw [zup_ne hq, hE q hq]) (fun j hj => ?_)
          rw [e] at hj ⊢
          rw [List.length_append, List.length_singleton] at hj
          by_cases hjl : j < (lawsL (lawB (hdB (hx1 h) (hx2 h) (h 22 2))) (10 * a + d).toNat).length
          · rw [zup_nk (by omega), hA j hjl]
            simp [List.getD_eq_getElem?_getD, List.getElem?_append_left hjl]
          · have hjE : j = (lawsL (lawB (hdB (hx1 h) (hx2 h) (h 22 2))) (10 * a + d).toNat).length := by omega
            rw [hjE, show (((lawsL (lawB (hdB (hx1 h) (hx2 h) (h 22 2))) (10 * a + d).toNat).length : Int)).toNat = (lawsL (lawB (hdB (hx1 h) (hx2 h) (h 22 2))) (10 * a + d).toNat).length by omega, zup_same]
            simp [List.getD_eq_getElem?_getD, eN]
theorem l_x_findLaws {h : zH} (hs : HI (h 22 2) (hx1 h) (hx2 h)) {post : Option zV → zH → Prop} (K : ∀ h2, (∀ q, q ≠ 33 → h2 q = h q) → (∀ j : Nat, j < (lawsL (lawB (hdB (hx1 h) (hx2 h) (h 22 2))) 100).length → h2 33 j = (lawsL (lawB (hdB (hx1 h) (hx2 h) (h 22 2))) 100).getD j 0) → post (some (vI ((lawsL (lawB (hdB (hx1 h) (hx2 h) (h 22 2))) 100).length : Int))) h2) : ∀ (k : Nat) (a : Int) (h1 : zH) (y3 : zV), 0 ≤ a → a ≤ 10 → 10 - a < k → (∀ q, q ≠ 33 → h1 q = h q) → (∀ j : Nat, j < (lawsL (lawB (hdB (hx1 h) (hx2 h) (h 22 2))) (10 * a).toNat).length → h1 33 j = (lawsL (lawB (hdB (hx1 h) (hx2 h) (h 22 2))) (10 * a).toNat).getD j 0) → Z M_x_findLaws post 4 [vR 0, vI ((lawsL (lawB (hdB (hx1 h) (hx2 h) (h 22 2))) (10 * a).toNat).length : Int), vI a, y3] [] h1 := by
  intro k
  induction k with
  | zero => intro a h1 y3 h0 h2 h3; omega
  | succ k ih =>
    intro a h1 y3 h0 h2 h3 hE hA
    have e1 : lawsL (lawB (hdB (hx1 h) (hx2 h) (h 22 2))) (10 * a + 1).toNat = lawsL (lawB (hdB (hx1 h) (hx2 h) (h 22 2))) (10 * a).toNat := by
      rw [show (10 * a + 1).toNat = (10 * a).toNat + 1 by omega]
      refine lawsL_f _ ?_
      rw [show (((10 * a).toNat : Nat) : Int) = 10 * a by omega]
      unfold lawB
      rw [show 10 * a % 10 = 0 by omega]
      simp
    have e2 : (10 * a + 10).toNat = (10 * (a + 1)).toNat := by omega
    refine z_iload_n D_x_findLaws_4 rfl ?_
    refine z_bipush (by decide) D_x_findLaws_5 ?_
    refine z_icmp_gt (tgt := 63) D_x_findLaws_7 (by decide) (by omega) (by omega) (fun q7 => ?_) (fun q7 => ?_)
    · refine z_iload_n D_x_findLaws_63 rfl ?_
      have e9 : a = 10 := by omega
      subst e9
      exact z_ireturn rfl D_x_findLaws_64 (K h1 hE hA)
    · refine z_iconst D_x_findLaws_10 ?_
      refine z_istore_3 D_x_findLaws_11 (Nat.le_of_ble_eq_true rfl) rfl ?_
      rw [← e1] at hA ⊢
      refine l_x_findLaws_in hs ⟨h0, by omega⟩ (fun h2 hE2 hA2 => ?_) (10 : Nat) 1 h1 (by omega) (by omega) (by omega) hE hA
      refine z_iinc_2 D_x_findLaws_57 (Nat.le_of_ble_eq_true rfl) rfl ?_
      refine z_goto (tgt := 4) D_x_findLaws_60 (by decide) ?_
      rw [e2] at hA2 ⊢
      exact ih (a + 1) h2 _ (by omega) (by omega) (by omega) hE2 hA2
def pL (l : List Int) (h : zH) : Option zV → zH → Prop := fun v h1 => v = some (vI (l.length : Int)) ∧ (∀ q, q ≠ 33 → h1 q = h q) ∧ ∀ j : Nat, j < l.length → h1 33 j = l.getD j 0
theorem c_x_findLaws {h : zH}  (hs : HI (h 22 2) (hx1 h) (hx2 h)) : zC M_x_findLaws [vR 0] h (pL (lawsL (lawB (hdB (hx1 h) (hx2 h) (h 22 2))) 100) h) := by
  refine zC.ofN 3 (by decide) (by first | decide | exact Nat.le_of_ble_eq_true rfl) ?_
  show Z M_x_findLaws _ 0 [vR 0, vU, vU, vU] [] h
  refine z_iconst D_x_findLaws_0 ?_
  refine z_istore_1 D_x_findLaws_1 (Nat.le_of_ble_eq_true rfl) rfl ?_
  refine z_iconst D_x_findLaws_2 ?_
  refine z_istore_2 D_x_findLaws_3 (Nat.le_of_ble_eq_true rfl) rfl ?_
  exact l_x_findLaws hs (fun h2 q1 q2 => ⟨rfl, q1, q2⟩) (11 : Nat) 0 h vU (by omega) (by omega) (by omega) (fun q _ => rfl) (fun j hj => absurd hj (Nat.not_lt_zero j))

theorem c_x_laws {h : zH} {t : Int} (hs : HI (h 22 2) (hx1 h) (hx2 h)) (r_t : -2147483648 ≤ t ∧ t ≤ 2147483647) : zC M_x_laws [vR 0, vI t] h (pX (vI (if 0 ≤ t ∧ t ≤ 1 then (if t = 0 then ((lawsL (lawB (hdB (hx1 h) (hx2 h) (h 22 2))) 100).length : Int) else (lawsL (lawB (hdB (hx1 h) (hx2 h) (h 22 2))) 100).getD 0 (-9)) else -1)) h) := by
  refine zC.ofN 1 (by decide) (by first | decide | exact Nat.le_of_ble_eq_true rfl) ?_
  show Z M_x_laws _ 0 [vR 0, vI t, vU] [] h
  refine z_iload_n D_x_laws_0 rfl ?_
  refine z_iconst D_x_laws_1 ?_
  refine z_iconst D_x_laws_2 ?_
  refine z_S3 (c_x_isWithin r_t (by omega) (by omega)) G_x_isWithin S_x_isWithin lk_x_99 ⟨Nat.le_of_ble_eq_true rfl, Nat.le_of_ble_eq_true rfl⟩ (Nat.le_of_ble_eq_true rfl) D_x_laws_3 ?_
  refine z_ifneB (tgt := 11) D_x_laws_6 (by decide) (fun q6 => ?_) (fun q6 => ?_)
  · refine z_aload_n D_x_laws_11 rfl ?_
    refine z_V0q (c0 := 11) (c_x_findLaws hs) G_x_findLaws I_x_findLaws lk_x_231 (rfl) ⟨by decide, rfl⟩ ⟨Nat.le_of_ble_eq_true rfl, Nat.le_of_ble_eq_true rfl⟩ (Nat.le_of_ble_eq_true rfl) D_x_laws_12 (fun v9 h9 hp9 => ?_)
    obtain ⟨rfl, hE9, hA9⟩ := hp9
    show Z _ _ _ _ [vI _] _
    have hlen := lawsL_len (hdB (hx1 h) (hx2 h) (h 22 2)) 100
    have hE8 : ∀ a, (a < 33 ∨ 38 < a) → h9 a = h a := fun a q => hE9 a (by omega)
    generalize hl : lawsL (lawB (hdB (hx1 h) (hx2 h) (h 22 2))) 100 = l at hlen hA9 ⊢
    refine z_istore_2 D_x_laws_15 (Nat.le_of_ble_eq_true rfl) rfl ?_
    refine z_iload_n D_x_laws_16 rfl ?_
    refine z_if_ne (tgt := 22) D_x_laws_17 (by decide) (by omega) (fun q17 => ?_) (fun q17 => ?_)
    · refine z_iload_n D_x_laws_22 rfl ?_
      refine z_if_ne (tgt := 31) D_x_laws_23 (by decide) (by omega) (fun q23 => ?_) (fun q23 => ?_)
      · refine z_aload_n D_x_laws_31 rfl ?_
        refine z_getR (q := 33) fl_x_80 (rfl) rfl (rfl) D_x_laws_32 ?_
        refine z_iconst D_x_laws_35 ?_
        refine z_iald (n := 90) (rfl) (by omega) D_x_laws_36 ?_
        refine z_ireturn rfl D_x_laws_37 (pxI ?_ hE8)
        rw [if_pos q6, if_neg q17]
        rw [show (0 : Int).toNat = 0 from rfl, hA9 0 (by omega)]
        cases l with
        | nil => exact absurd rfl q23
        | cons y l => rfl
      · refine z_bipush (by decide) D_x_laws_26 ?_
        refine z_goto (tgt := 37) D_x_laws_28 (by decide) ?_
        refine z_ireturn rfl D_x_laws_37 (pxI ?_ hE8)
        rw [if_pos q6, if_neg q17]
        rw [List.eq_nil_of_length_eq_zero (show l.length = 0 by omega)]
        rfl
    · refine z_iload_n D_x_laws_20 rfl ?_
      exact z_ireturn rfl D_x_laws_21 (pxI (by rw [if_pos q6, if_pos q17]) hE8)
  · refine z_iconst D_x_laws_9 ?_
    exact z_ireturn rfl D_x_laws_10 (pxI (by (repeat' split) <;> first | rfl | omega | (exfalso; omega)) (fun a q => rfl))

theorem l_m_laws {h : zH} {t y : Int} (hs : HI (h 39 11) (hm1 h) (hm2 h)) (ht : 0 ≤ t ∧ t ≤ 1) (hY : (if t = 0 then ((lawsL (lawB (hdB (hm1 h) (hm2 h) (h 39 11))) 100).length : Int) else (lawsL (lawB (hdB (hm1 h) (hm2 h) (h 39 11))) 100).getD 0 (-9)) = y) : ∀ (k : Nat) (i : Int), 0 ≤ i → i ≤ 100 → 100 - i < k → Z M_m_laws (pV (vI y) h) 19 [vR 39, vI t, vI ((lawsL (lawB (hdB (hm1 h) (hm2 h) (h 39 11))) i.toNat).length : Int), vI ((lawsL (lawB (hdB (hm1 h) (hm2 h) (h 39 11))) i.toNat).getD 0 (-9)), vI i] [] h := by
  intro k
  induction k with
  | zero => intro i h0 h1 h2; omega
  | succ k ih =>
    intro i h0 h1 h2
    have hlen := lawsL_len (hdB (hm1 h) (hm2 h) (h 39 11)) i.toNat
    have eL : (i + 1).toNat = i.toNat + 1 := by omega
    have eN : ((i.toNat : Nat) : Int) = i := by omega
    have q := ih (i + 1) (by omega)
    have hF : ¬ lawB (hdB (hm1 h) (hm2 h) (h 39 11)) i = true → lawsL (lawB (hdB (hm1 h) (hm2 h) (h 39 11))) (i + 1).toNat = lawsL (lawB (hdB (hm1 h) (hm2 h) (h 39 11))) i.toNat := fun c => by rw [eL]; exact lawsL_f _ (by rw [eN]; exact c)
    have hT : lawB (hdB (hm1 h) (hm2 h) (h 39 11)) i = true → lawsL (lawB (hdB (hm1 h) (hm2 h) (h 39 11))) (i + 1).toNat = lawsL (lawB (hdB (hm1 h) (hm2 h) (h 39 11))) i.toNat ++ [i] := fun c => by rw [eL, lawsL_t _ (by rw [eN]; exact c), eN]
    have hxt : i = 100 → lawsL (lawB (hdB (hm1 h) (hm2 h) (h 39 11))) i.toNat = lawsL (lawB (hdB (hm1 h) (hm2 h) (h 39 11))) 100 := fun e9 => by rw [e9]; rfl
    have hlb : lawB (hdB (hm1 h) (hm2 h) (h 39 11)) i = (decide (0 < i % 10) && hdB (hm1 h) (hm2 h) (h 39 11) (i / 10) (i % 10)) := rfl
    refine z_iload D_m_laws_19 rfl ?_
    refine z_bipush (by decide) D_m_laws_21 ?_
    refine z_icmp_ge (tgt := 71) D_m_laws_23 (by decide) (by omega) (by omega) (fun q23 => ?_) (fun q23 => ?_)
    · refine z_iload_n D_m_laws_71 rfl ?_
      refine z_if_ne (tgt := 79) D_m_laws_72 (by decide) (by omega) (fun q72 => ?_) (fun q72 => ?_)
      · refine z_iload_n D_m_laws_79 rfl ?_
        exact z_ireturn rfl D_m_laws_80 (pvI (by rw [← hY, hxt (by omega)]; (repeat' split) <;> first | rfl | omega | (exfalso; omega)) rfl)
      · refine z_iload_n D_m_laws_75 rfl ?_
        refine z_goto (tgt := 80) D_m_laws_76 (by decide) ?_
        exact z_ireturn rfl D_m_laws_80 (pvI (by rw [← hY, hxt (by omega)]; (repeat' split) <;> first | rfl | omega | (exfalso; omega)) rfl)
    · refine z_iload D_m_laws_26 rfl ?_
      refine z_bipush (by decide) D_m_laws_28 ?_
      refine z_irem_p D_m_laws_30 (by omega) (by omega) ?_
      refine z_if_le (tgt := 65) D_m_laws_31 (by decide) (by omega) (fun q31 => ?_) (fun q31 => ?_)
      · refine z_iinc_4 D_m_laws_65 (Nat.le_of_ble_eq_true rfl) rfl ?_
        refine z_goto (tgt := 19) D_m_laws_68 (by decide) ?_
        rw [hF (by rw [hlb, decide_eq_false (by omega), Bool.false_and]; decide)] at q
        exact q (by omega) (by omega)
      · refine z_aload_n D_m_laws_34 rfl ?_
        refine z_iload D_m_laws_35 rfl ?_
        refine z_bipush (by decide) D_m_laws_37 ?_
        refine z_idiv D_m_laws_39 (by omega) (by omega) ?_
        refine z_iload D_m_laws_40 rfl ?_
        refine z_bipush (by decide) D_m_laws_42 ?_
        refine z_irem_p D_m_laws_44 (by omega) (by omega) ?_
        refine z_V2 (c0 := 12) (c_m_isHeard hs (by omega) (by omega)) G_m_isHeard I_m_isHeard lk_m_221 (rfl) ⟨by decide, rfl⟩ ⟨Nat.le_of_ble_eq_true rfl, Nat.le_of_ble_eq_true rfl⟩ (Nat.le_of_ble_eq_true rfl) D_m_laws_45 ?_
        refine z_ifeqB (tgt := 65) D_m_laws_48 (by decide) (fun q48 => ?_) (fun q48 => ?_)
        · refine z_iinc_4 D_m_laws_65 (Nat.le_of_ble_eq_true rfl) rfl ?_
          refine z_goto (tgt := 19) D_m_laws_68 (by decide) ?_
          rw [hF (by rw [hlb, decide_eq_true (by omega), Bool.true_and]; exact q48)] at q
          exact q (by omega) (by omega)
        · refine z_iload_n D_m_laws_51 rfl ?_
          refine z_if_ne (tgt := 60) D_m_laws_52 (by decide) (by omega) (fun q52 => ?_) (fun q52 => ?_)
          · refine z_iload_n D_m_laws_60 rfl ?_
            refine z_istore_3 D_m_laws_61 (Nat.le_of_ble_eq_true rfl) rfl ?_
            refine z_iinc_2 D_m_laws_62 (Nat.le_of_ble_eq_true rfl) rfl ?_
            refine z_iinc_4 D_m_laws_65 (Nat.le_of_ble_eq_true rfl) rfl ?_
            refine z_goto (tgt := 19) D_m_laws_68 (by decide) ?_
            rw [hT (by rw [hlb, decide_eq_true (by omega), Bool.true_and]; exact q48)] at q
            generalize lawsL (lawB (hdB (hm1 h) (hm2 h) (h 39 11))) i.toNat = l at q hlen q52 ⊢
            rw [List.length_append, List.length_singleton] at q
            rw [show ((l.length + 1 : Nat) : Int) = (l.length : Int) + 1 by omega] at q
            rw [show (l ++ [i]).getD 0 (-9) = l.getD 0 (-9) by cases l with
              | nil => exact absurd rfl q52
              | cons z l => rfl] at q
            exact q (by omega) (by omega)
          · refine z_iload D_m_laws_55 rfl ?_
            refine z_goto (tgt := 61) D_m_laws_57 (by decide) ?_
            refine z_istore_3 D_m_laws_61 (Nat.le_of_ble_eq_true rfl) rfl ?_
            refine z_iinc_2 D_m_laws_62 (Nat.le_of_ble_eq_true rfl) rfl ?_
            refine z_iinc_4 D_m_laws_65 (Nat.le_of_ble_eq_true rfl) rfl ?_
            refine z_goto (tgt := 19) D_m_laws_68 (by decide) ?_
            rw [hT (by rw [hlb, decide_eq_true (by omega), Bool.true_and]; exact q48)] at q
            generalize lawsL (lawB (hdB (hm1 h) (hm2 h) (h 39 11))) i.toNat = l at q hlen q52 ⊢
            rw [List.length_append, List.length_singleton] at q
            rw [show ((l.length + 1 : Nat) : Int) = (l.length : Int) + 1 by omega] at q
            rw [List.eq_nil_of_length_eq_zero (show l.length = 0 by omega)] at q ⊢
            exact q (by omega) (by omega)
theorem c_m_laws {h : zH} {t : Int} (hs : HI (h 39 11) (hm1 h) (hm2 h)) (r_t : -2147483648 ≤ t ∧ t ≤ 2147483647) : zC M_m_laws [vR 39, vI t] h (pV (vI (if 0 ≤ t ∧ t ≤ 1 then (if t = 0 then ((lawsL (lawB (hdB (hm1 h) (hm2 h) (h 39 11))) 100).length : Int) else (lawsL (lawB (hdB (hm1 h) (hm2 h) (h 39 11))) 100).getD 0 (-9)) else -1)) h) := by
  refine zC.ofN 3 (by decide) (by first | decide | exact Nat.le_of_ble_eq_true rfl) ?_
  show Z M_m_laws _ 0 [vR 39, vI t, vU, vU, vU] [] h
  refine z_iload_n D_m_laws_0 rfl ?_
  refine z_iconst D_m_laws_1 ?_
  refine z_iconst D_m_laws_2 ?_
  refine z_S3 (c_m_in (by omega) (by omega) (by omega)) G_m_in S_m_in lk_m_69 ⟨Nat.le_of_ble_eq_true rfl, Nat.le_of_ble_eq_true rfl⟩ (Nat.le_of_ble_eq_true rfl) D_m_laws_3 ?_
  refine z_ifneB (tgt := 11) D_m_laws_6 (by decide) (fun q6 => ?_) (fun q6 => ?_)
  · refine z_iconst D_m_laws_11 ?_
    refine z_istore_2 D_m_laws_12 (Nat.le_of_ble_eq_true rfl) rfl ?_
    refine z_bipush (by decide) D_m_laws_13 ?_
    refine z_istore_3 D_m_laws_15 (Nat.le_of_ble_eq_true rfl) rfl ?_
    refine z_iconst D_m_laws_16 ?_
    refine z_istore_4 D_m_laws_17 (Nat.le_of_ble_eq_true rfl) rfl ?_
    rw [if_pos (by omega)]
    have q := fun y hy => l_m_laws (t := t) (y := y) hs (by omega) hy (101 : Nat) 0 (by omega) (by omega) (by omega)
    exact q _ rfl
  · refine z_iconst D_m_laws_9 ?_
    exact z_ireturn rfl D_m_laws_10 (pvI (by (repeat' split) <;> first | rfl | omega | (exfalso; omega)) rfl)

