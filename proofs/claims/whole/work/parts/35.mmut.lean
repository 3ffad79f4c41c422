/-! mutators of the other side -/
def pUM (ok : Prop) (z : Int) (h : zH) (f : Int → Int) : Option zV → zH → Prop := fun r h1 => r = some (vI z) ∧ (ok → MPush h h1 f) ∧ (¬ ok → h1 = h)
theorem pumN {ok : Prop} {z y : Int} {h : zH} {f : Int → Int} (e : y = z) (hn : ¬ ok) : pUM ok z h f (some (vI y)) h := ⟨by rw [e], fun q => absurd q hn, fun _ => rfl⟩
theorem pumY {ok : Prop} {z y : Int} {h h1 : zH} {f : Int → Int} (e : y = z) (ho : ok) (hp : MPush h h1 f) : pUM ok z h f (some (vI y)) h1 := ⟨by rw [e], fun _ => hp, fun q => absurd ho q⟩
theorem MI.mrem {h h1 : zH} (hm : MI h) (a : MRem h h1) : MI h1 := hm.rowM a.1 (f := nm h) a.2.2.1 hm.row
theorem nmE {h : zH} {c : Int} {k : Nat} (e : c.toNat = k) : h 42 k = nm h c := by unfold nm; rw [e]
theorem c_m_passes {h : zH} {t : Int} (hm : MI h) (hU : 0 ≤ nm h 52 ∧ nm h 52 ≤ 10) (r_t : -2147483648 ≤ t ∧ t ≤ 2147483647) : zC M_m_passes [vR 39, vI t] h (pUM ((1 ≤ t ∧ t ≤ 11) ∧ h 39 0 ≠ 0) (if 1 ≤ t ∧ t ≤ 11 then (if h 39 0 = 0 then -2 else (nm h 1 + t) % h 39 0) else -1) h (upI (nm h) 1 ((nm h 1 + t) % h 39 0))) := by
  refine zC.ofN 0 (by decide) (by first | decide | exact Nat.le_of_ble_eq_true rfl) ?_
  show Z M_m_passes _ 0 [vR 39, vI t] [] h
  have hn := hm.hn
  have hnp := hm.hnp
  refine z_iload_n D_m_passes_0 rfl ?_
  refine z_iconst D_m_passes_1 ?_
  refine z_bipush (by decide) D_m_passes_2 ?_
  refine z_S3 (c_m_in r_t (by omega) (by omega)) G_m_in S_m_in lk_m_69 ⟨Nat.le_of_ble_eq_true rfl, Nat.le_of_ble_eq_true rfl⟩ (Nat.le_of_ble_eq_true rfl) D_m_passes_4 ?_
  refine z_ifneB (tgt := 12) D_m_passes_7 (by decide) (fun q7 => ?_) (fun q7 => ?_)
  · refine z_aload_n D_m_passes_12 rfl ?_
    refine z_getI fl_m_73 (rfl) rfl D_m_passes_13 ?_
    refine z_if_ne (tgt := 22) D_m_passes_16 (by decide) (by omega) (fun q16 => ?_) (fun q16 => ?_)
    · refine z_aload_n D_m_passes_22 rfl ?_
      refine z_V0q (c0 := 12) (c_m_remembers hU) G_m_remembers I_m_remembers lk_m_172 (rfl) ⟨by decide, rfl⟩ ⟨Nat.le_of_ble_eq_true rfl, Nat.le_of_ble_eq_true rfl⟩ (Nat.le_of_ble_eq_true rfl) D_m_passes_23 (fun v9 h9 hp9 => ?_)
      obtain ⟨rfl, hRm⟩ := hp9
      show Z _ _ _ _ [] _
      have hm9 := hm.mrem hRm
      have ew9 : h9 39 = h 39 := hRm.1 39 (by decide)
      have ep9 : pm h9 = pm h := by funext j; unfold pm; rw [hRm.1 40 (by decide)]
      have hn1 : h9 42 (Int.toNat 1) = nm h 1 := hRm.2.2.1 1 (by omega) (by omega)
      have hh := hm.row.hh
      refine z_aload_n D_m_passes_26 rfl ?_
      refine z_getR (q := 42) fl_m_23 (rfl) rfl (rfl) D_m_passes_27 ?_
      refine z_iconst D_m_passes_30 ?_
      refine z_aload_n D_m_passes_31 rfl ?_
      refine z_getR (q := 42) fl_m_23 (rfl) rfl (rfl) D_m_passes_32 ?_
      refine z_iconst D_m_passes_35 ?_
      refine z_iald (n := 573) (rfl) (by omega) D_m_passes_36 ?_
      rw [hn1]
      refine z_iload_n D_m_passes_37 rfl ?_
      refine z_iadd D_m_passes_38 ?_
      refine z_aload_n D_m_passes_39 rfl ?_
      refine z_getI fl_m_73 (rfl) rfl D_m_passes_40 ?_
      rw [ew9]
      refine z_irem_p D_m_passes_43 (by omega) (by omega) ?_
      refine z_iast (n := 573) (rfl) (by omega) D_m_passes_44 ?_
      refine z_aload_n D_m_passes_45 rfl ?_
      refine z_getR (q := 42) fl_m_23 (rfl) rfl (rfl) D_m_passes_46 ?_
      refine z_iconst D_m_passes_49 ?_
      refine z_iald (n := 573) (rfl) (by omega) D_m_passes_50 ?_
      have hp := hRm.put (x := (nm h 1 + t) % h 39 0) (c0 := 1) (by omega)
      refine z_ireturn rfl D_m_passes_51 (pumY ?_ ⟨q7, q16⟩ hp)
      rw [zup_same, if_pos q7, if_neg q16]
    · refine z_bipush (by decide) D_m_passes_19 ?_
      exact z_ireturn rfl D_m_passes_21 (pumN (by rw [if_pos q7, if_pos q16]) (fun q => q.2 q16))
  · refine z_iconst D_m_passes_10 ?_
    exact z_ireturn rfl D_m_passes_11 (pumN (by rw [if_neg q7]) (fun q => q7 q.1))

theorem c_m_goes {h : zH} {p s : Int} (hm : MI h) (hU : 0 ≤ nm h 52 ∧ nm h 52 ≤ 10) (r_p : -2147483648 ≤ p ∧ p ≤ 2147483647) (r_s : -2147483648 ≤ s ∧ s ≤ 2147483647) : zC M_m_goes [vR 39, vI p, vI s] h (pUM ((0 ≤ p ∧ p < h 39 4) ∧ (0 ≤ s ∧ s < h 39 0) ∧ whoM (nm h) (h 39 4) s < 0) (if (0 ≤ p ∧ p < h 39 4) ∧ (0 ≤ s ∧ s < h 39 0) then (if whoM (nm h) (h 39 4) s < 0 then nm h (4 + p) else -2) else -1) h (upI (nm h) (4 + p) s)) := by
  refine zC.ofN 1 (by decide) (by first | decide | exact Nat.le_of_ble_eq_true rfl) ?_
  show Z M_m_goes _ 0 [vR 39, vI p, vI s, vU] [] h
  have hn := hm.hn
  have hnp := hm.hnp
  refine z_aload_n D_m_goes_0 rfl ?_
  refine z_iload_n D_m_goes_1 rfl ?_
  refine z_V1 (c0 := 12) (c_m_isOne (by omega) r_p) G_m_isOne I_m_isOne lk_m_152 (rfl) ⟨by decide, rfl⟩ ⟨Nat.le_of_ble_eq_true rfl, Nat.le_of_ble_eq_true rfl⟩ (Nat.le_of_ble_eq_true rfl) D_m_goes_2 ?_
  refine z_ifeqB (tgt := 16) D_m_goes_5 (by decide) (fun q5 => ?_) (fun q5 => ?_)
  · refine z_iconst D_m_goes_16 ?_
    exact z_ireturn rfl D_m_goes_17 (pumN (by rw [if_neg (by omega)]) (by omega))
  · refine z_aload_n D_m_goes_8 rfl ?_
    refine z_iload_n D_m_goes_9 rfl ?_
    refine z_V1 (c0 := 12) (c_m_isSpot hn r_s) G_m_isSpot I_m_isSpot lk_m_146 (rfl) ⟨by decide, rfl⟩ ⟨Nat.le_of_ble_eq_true rfl, Nat.le_of_ble_eq_true rfl⟩ (Nat.le_of_ble_eq_true rfl) D_m_goes_10 ?_
    refine z_ifneB (tgt := 18) D_m_goes_13 (by decide) (fun q13 => ?_) (fun q13 => ?_)
    · refine z_aload_n D_m_goes_18 rfl ?_
      refine z_iload_n D_m_goes_19 rfl ?_
      refine z_V1 (c0 := 12) (c_m_whoHas hm r_s) G_m_whoHas I_m_whoHas lk_m_181 (rfl) ⟨by decide, rfl⟩ ⟨Nat.le_of_ble_eq_true rfl, Nat.le_of_ble_eq_true rfl⟩ (Nat.le_of_ble_eq_true rfl) D_m_goes_20 ?_
      refine z_if_lt (tgt := 29) D_m_goes_23 (by decide) (by have := who_in hm.row hnp.1 s; omega) (fun q23 => ?_) (fun q23 => ?_)
      · refine z_aload_n D_m_goes_29 rfl ?_
        refine z_V0q (c0 := 12) (c_m_remembers hU) G_m_remembers I_m_remembers lk_m_172 (rfl) ⟨by decide, rfl⟩ ⟨Nat.le_of_ble_eq_true rfl, Nat.le_of_ble_eq_true rfl⟩ (Nat.le_of_ble_eq_true rfl) D_m_goes_30 (fun v9 h9 hp9 => ?_)
        obtain ⟨rfl, hRm⟩ := hp9
        show Z _ _ _ _ [] _
        have hm9 := hm.mrem hRm
        have ew9 : h9 39 = h 39 := hRm.1 39 (by decide)
        have ep9 : pm h9 = pm h := by funext j; unfold pm; rw [hRm.1 40 (by decide)]
        refine z_aload_n D_m_goes_33 rfl ?_
        refine z_getR (q := 42) fl_m_23 (rfl) rfl (rfl) D_m_goes_34 ?_
        refine z_iconst D_m_goes_37 ?_
        refine z_iload_n D_m_goes_38 rfl ?_
        refine z_iadd D_m_goes_39 ?_
        refine z_iald (n := 573) (rfl) (by omega) D_m_goes_40 ?_
        rw [show h9 42 (4 + p).toNat = nm h (4 + p) from hRm.2.2.1 (4 + p) (by omega) (by omega)]
        refine z_istore_3 D_m_goes_41 (Nat.le_of_ble_eq_true rfl) rfl ?_
        refine z_aload_n D_m_goes_42 rfl ?_
        refine z_getR (q := 42) fl_m_23 (rfl) rfl (rfl) D_m_goes_43 ?_
        refine z_iconst D_m_goes_46 ?_
        refine z_iload_n D_m_goes_47 rfl ?_
        refine z_iadd D_m_goes_48 ?_
        refine z_iload_n D_m_goes_49 rfl ?_
        refine z_iast (n := 573) (rfl) (by omega) D_m_goes_50 ?_
        refine z_iload_n D_m_goes_51 rfl ?_
        exact z_ireturn rfl D_m_goes_52 (pumY (by rw [if_pos (by omega), if_pos q23]) (by omega) (hRm.put (by omega)))
      · refine z_bipush (by decide) D_m_goes_26 ?_
        exact z_ireturn rfl D_m_goes_28 (pumN (by rw [if_pos (by omega), if_neg (by omega)]) (fun q => absurd q.2.2 (by omega)))
    · refine z_iconst D_m_goes_16 ?_
      exact z_ireturn rfl D_m_goes_17 (pumN (by rw [if_neg (by omega)]) (by omega))

theorem c_m_forgives {h : zH} {p q : Int} (hm : MI h) (hU : 0 ≤ nm h 52 ∧ nm h 52 ≤ 10) (r_p : -2147483648 ≤ p ∧ p ≤ 2147483647) (r_q : -2147483648 ≤ q ∧ q ≤ 2147483647) : zC M_m_forgives [vR 39, vI p, vI q] h (pUM ((p ≠ q ∧ (0 ≤ p ∧ p < h 39 4) ∧ (0 ≤ q ∧ q < h 39 4)) ∧ owF (nm h) p q ≠ 0) (if p ≠ q ∧ (0 ≤ p ∧ p < h 39 4) ∧ (0 ≤ q ∧ q < h 39 4) then (if owF (nm h) p q = 0 then -2 else owF (nm h) p q) else -1) h (upI (nm h) (16 + p * 6 + q) 0)) := by
  refine zC.ofN 1 (by decide) (by first | decide | exact Nat.le_of_ble_eq_true rfl) ?_
  show Z M_m_forgives _ 0 [vR 39, vI p, vI q, vU] [] h
  have hn := hm.hn
  have hnp := hm.hnp
  refine z_aload_n D_m_forgives_0 rfl ?_
  refine z_iload_n D_m_forgives_1 rfl ?_
  refine z_iload_n D_m_forgives_2 rfl ?_
  refine z_V2 (c0 := 12) (c_m_areTwo hm r_p r_q) G_m_areTwo I_m_areTwo lk_m_161 (rfl) ⟨by decide, rfl⟩ ⟨Nat.le_of_ble_eq_true rfl, Nat.le_of_ble_eq_true rfl⟩ (Nat.le_of_ble_eq_true rfl) D_m_forgives_3 ?_
  refine z_ifneB (tgt := 11) D_m_forgives_6 (by decide) (fun q6 => ?_) (fun q6 => ?_)
  · refine z_aload_n D_m_forgives_11 rfl ?_
    refine z_getR (q := 42) fl_m_23 (rfl) rfl (rfl) D_m_forgives_12 ?_
    refine z_bipush (by decide) D_m_forgives_15 ?_
    refine z_bipush (by decide) D_m_forgives_17 ?_
    refine z_iload_n D_m_forgives_19 rfl ?_
    refine z_imul D_m_forgives_20 ?_
    refine z_iadd D_m_forgives_21 ?_
    refine z_iload_n D_m_forgives_22 rfl ?_
    refine z_iadd D_m_forgives_23 ?_
    refine z_iald (n := 573) (rfl) (by omega) D_m_forgives_24 ?_
    have eO : h 42 (16 + 6 * p + q).toNat = owF (nm h) p q := by unfold owF nm; rw [Int.mul_comm 6 p]
    rw [eO]
    have hOb : 0 ≤ owF (nm h) p q ∧ owF (nm h) p q ≤ 99 := hm.row.ho (c := 16 + p * 6 + q) (by omega) (by omega)
    refine z_istore_3 D_m_forgives_25 (Nat.le_of_ble_eq_true rfl) rfl ?_
    refine z_iload_n D_m_forgives_26 rfl ?_
    refine z_if_ne (tgt := 33) D_m_forgives_27 (by decide) (by omega) (fun q27 => ?_) (fun q27 => ?_)
    · refine z_aload_n D_m_forgives_33 rfl ?_
      refine z_V0q (c0 := 12) (c_m_remembers hU) G_m_remembers I_m_remembers lk_m_172 (rfl) ⟨by decide, rfl⟩ ⟨Nat.le_of_ble_eq_true rfl, Nat.le_of_ble_eq_true rfl⟩ (Nat.le_of_ble_eq_true rfl) D_m_forgives_34 (fun v9 h9 hp9 => ?_)
      obtain ⟨rfl, hRm⟩ := hp9
      show Z _ _ _ _ [] _
      have hm9 := hm.mrem hRm
      have ew9 : h9 39 = h 39 := hRm.1 39 (by decide)
      have ep9 : pm h9 = pm h := by funext j; unfold pm; rw [hRm.1 40 (by decide)]
      refine z_aload_n D_m_forgives_37 rfl ?_
      refine z_getR (q := 42) fl_m_23 (rfl) rfl (rfl) D_m_forgives_38 ?_
      refine z_bipush (by decide) D_m_forgives_41 ?_
      refine z_bipush (by decide) D_m_forgives_43 ?_
      refine z_iload_n D_m_forgives_45 rfl ?_
      refine z_imul D_m_forgives_46 ?_
      refine z_iadd D_m_forgives_47 ?_
      refine z_iload_n D_m_forgives_48 rfl ?_
      refine z_iadd D_m_forgives_49 ?_
      refine z_iconst D_m_forgives_50 ?_
      rw [Int.mul_comm 6 p]
      refine z_iast (n := 573) (rfl) (by omega) D_m_forgives_51 ?_
      refine z_iload_n D_m_forgives_52 rfl ?_
      exact z_ireturn rfl D_m_forgives_53 (pumY (by rw [if_pos q6]; exact (if_neg q27).symm) ⟨q6, q27⟩ (hRm.put (by omega)))
    · refine z_bipush (by decide) D_m_forgives_30 ?_
      exact z_ireturn rfl D_m_forgives_32 (pumN (by rw [if_pos q6]; exact (if_pos q27).symm) (fun z => z.2 q27))
  · refine z_iconst D_m_forgives_9 ?_
    exact z_ireturn rfl D_m_forgives_10 (pumN (by rw [if_neg q6]) (fun z => q6 z.1))

theorem l_m_covers {h1 : zH} {t : Int} {post : Option zV → zH → Prop} {P N : Int → Int} {n np : Int} (hm : MI h1) (eP : pm h1 = P) (eN : ∀ c, 0 ≤ c → c < 52 → nm h1 c = N c) (en : h1 39 0 = n) (enp : h1 39 4 = np) (K : post (some (vI (sumF (fun p => zb (col P N n p = 0)) np.toNat))) h1) : ∀ (k : Nat) (i : Int), 0 ≤ i → i ≤ np → np - i < k → Z M_m_covers post 39 [vR 39, vI t, vI (sumF (fun p => zb (col P N n p = 0)) i.toNat), vI i] [] h1 := by
  have hnp := hm.hnp
  intro k
  induction k with
  | zero => intro i h0 h2 h3; omega
  | succ k ih =>
    intro i h0 h2 h3
    have hc := fun q => col_in hm h0 q
    have e : i < np → col (pm h1) (nm h1) (h1 39 0) i = col P N n i := fun q => by
      rw [eP, en]
      exact col_eq (fun c qc => eN c (by omega) (by omega)) (by omega)
    have q := ih (i + 1) (by omega)
    rw [sumF_1 h0] at q
    have hxt : i = np → sumF (fun p => zb (col P N n p = 0)) i.toNat = sumF (fun p => zb (col P N n p = 0)) np.toNat := fun e9 => by rw [e9]
    refine z_iload_n D_m_covers_39 rfl ?_
    refine z_aload_n D_m_covers_40 rfl ?_
    refine z_getI fl_m_66 (rfl) rfl D_m_covers_41 ?_
    refine z_icmp_ge (tgt := 69) D_m_covers_44 (by decide) (by omega) (by omega) (fun q44 => ?_) (fun q44 => ?_)
    · rw [hxt (by omega)]
      refine z_iload_n D_m_covers_69 rfl ?_
      exact z_ireturn rfl D_m_covers_70 K
    · refine z_iload_n D_m_covers_47 rfl ?_
      refine z_aload_n D_m_covers_48 rfl ?_
      refine z_iload_n D_m_covers_49 rfl ?_
      refine z_V1 (c0 := 12) (c_m_standsIn hm ⟨h0, by omega⟩) G_m_standsIn I_m_standsIn lk_m_155 (rfl) ⟨by decide, rfl⟩ ⟨Nat.le_of_ble_eq_true rfl, Nat.le_of_ble_eq_true rfl⟩ (Nat.le_of_ble_eq_true rfl) D_m_covers_50 ?_
      refine z_if_ne (tgt := 60) D_m_covers_53 (by decide) (by have := hc (by omega); omega) (fun q53 => ?_) (fun q53 => ?_)
      · refine z_iconst D_m_covers_60 ?_
        refine z_iadd D_m_covers_61 ?_
        refine z_istore_2 D_m_covers_62 (Nat.le_of_ble_eq_true rfl) rfl ?_
        refine z_iinc_3 D_m_covers_63 (Nat.le_of_ble_eq_true rfl) rfl ?_
        refine z_goto (tgt := 39) D_m_covers_66 (by decide) ?_
        rw [e (by omega)] at q53
        rw [zb_f q53] at q
        exact q (by omega) (by omega)
      · refine z_iconst D_m_covers_56 ?_
        refine z_goto (tgt := 61) D_m_covers_57 (by decide) ?_
        refine z_iadd D_m_covers_61 ?_
        refine z_istore_2 D_m_covers_62 (Nat.le_of_ble_eq_true rfl) rfl ?_
        refine z_iinc_3 D_m_covers_63 (Nat.le_of_ble_eq_true rfl) rfl ?_
        refine z_goto (tgt := 39) D_m_covers_66 (by decide) ?_
        rw [e (by omega)] at q53
        rw [zb_t q53] at q
        exact q (by omega) (by omega)
theorem c_m_covers {h : zH} {t : Int} (hm : MI h) (hU : 0 ≤ nm h 52 ∧ nm h 52 ≤ 10) (r_t : -2147483648 ≤ t ∧ t ≤ 2147483647) : zC M_m_covers [vR 39, vI t] h (pUM ((0 ≤ t ∧ t ≤ 1) ∧ nm h 2 ≠ t) (if 0 ≤ t ∧ t ≤ 1 then (if nm h 2 = t then -2 else sumF (fun p => zb (col (pm h) (upI (nm h) 2 t) (h 39 0) p = 0)) (h 39 4).toNat) else -1) h (upI (nm h) 2 t)) := by
  refine zC.ofN 2 (by decide) (by first | decide | exact Nat.le_of_ble_eq_true rfl) ?_
  show Z M_m_covers _ 0 [vR 39, vI t, vU, vU] [] h
  have hn := hm.hn
  have hnp := hm.hnp
  refine z_iload_n D_m_covers_0 rfl ?_
  refine z_iconst D_m_covers_1 ?_
  refine z_iconst D_m_covers_2 ?_
  refine z_S3 (c_m_in r_t (by omega) (by omega)) G_m_in S_m_in lk_m_69 ⟨Nat.le_of_ble_eq_true rfl, Nat.le_of_ble_eq_true rfl⟩ (Nat.le_of_ble_eq_true rfl) D_m_covers_3 ?_
  refine z_ifneB (tgt := 11) D_m_covers_6 (by decide) (fun q6 => ?_) (fun q6 => ?_)
  · refine z_aload_n D_m_covers_11 rfl ?_
    refine z_getR (q := 42) fl_m_23 (rfl) rfl (rfl) D_m_covers_12 ?_
    refine z_iconst D_m_covers_15 ?_
    refine z_iald (n := 573) (rfl) (by omega) D_m_covers_16 ?_
    rw [nmE (h := h) (c := 2) rfl]
    have hc := hm.row.hc
    refine z_iload_n D_m_covers_17 rfl ?_
    refine z_icmp_ne (tgt := 24) D_m_covers_18 (by decide) (by omega) (by omega) (fun q18 => ?_) (fun q18 => ?_)
    · refine z_aload_n D_m_covers_24 rfl ?_
      refine z_V0q (c0 := 12) (c_m_remembers hU) G_m_remembers I_m_remembers lk_m_172 (rfl) ⟨by decide, rfl⟩ ⟨Nat.le_of_ble_eq_true rfl, Nat.le_of_ble_eq_true rfl⟩ (Nat.le_of_ble_eq_true rfl) D_m_covers_25 (fun v9 h9 hp9 => ?_)
      obtain ⟨rfl, hRm⟩ := hp9
      show Z _ _ _ _ [] _
      have hm9 := hm.mrem hRm
      have ew9 : h9 39 = h 39 := hRm.1 39 (by decide)
      have ep9 : pm h9 = pm h := by funext j; unfold pm; rw [hRm.1 40 (by decide)]
      refine z_aload_n D_m_covers_28 rfl ?_
      refine z_getR (q := 42) fl_m_23 (rfl) rfl (rfl) D_m_covers_29 ?_
      refine z_iconst D_m_covers_32 ?_
      refine z_iload_n D_m_covers_33 rfl ?_
      refine z_iast (n := 573) (rfl) (by omega) D_m_covers_34 ?_
      refine z_iconst D_m_covers_35 ?_
      refine z_istore_2 D_m_covers_36 (Nat.le_of_ble_eq_true rfl) rfl ?_
      refine z_iconst D_m_covers_37 ?_
      refine z_istore_3 D_m_covers_38 (Nat.le_of_ble_eq_true rfl) rfl ?_
      have hp := hRm.put (x := t) (c0 := 2) (by omega)
      have hok : RowOK (h 39 0) (h 39 4) (upI (nm h) 2 t) := by
        obtain ⟨a0, a1, a2, a3, a4, a5, a6⟩ := hm.row
        refine ⟨by rw [upI_ne (by omega)]; exact a0, by rw [upI_ne (by omega)]; exact a1, by rw [upI_eq]; omega, by rw [upI_ne (by omega)]; exact a3, fun p p0 p1 => by rw [upI_ne (by omega)]; exact a4 p p0 p1, fun p q p0 p1 q0 q1 e => ?_, fun c c0 c1 => by rw [upI_ne (by omega)]; exact a6 c c0 c1⟩
        rw [upI_ne (by omega), upI_ne (by omega)] at e
        exact a5 p q p0 p1 q0 q1 e
      have hmm : MI (zup h9 42 (Int.toNat 2) t) := hm.rowM hp.1 hp.2.2.1 hok
      refine l_m_covers (P := pm h) hmm ?_ hp.2.2.1 (by rw [zup_ne (by omega), ew9]) (by rw [zup_ne (by omega), ew9]) ?_ (7 : Nat) 0 (by omega) (by omega) (by omega)
      · rw [← ep9]; funext j; unfold pm; rw [zup_ne (by omega)]
      · exact pumY (by rw [if_pos q6, if_neg q18]) ⟨q6, q18⟩ hp
    · refine z_bipush (by decide) D_m_covers_21 ?_
      exact z_ireturn rfl D_m_covers_23 (pumN (by rw [if_pos q6, if_pos q18]) (fun q => q.2 q18))
  · refine z_iconst D_m_covers_9 ?_
    exact z_ireturn rfl D_m_covers_10 (pumN (by rw [if_neg q6]) (fun q => q6 q.1))

theorem c_m_spins {h : zH} {v : Int} (hm : MI h) (hU : 0 ≤ nm h 52 ∧ nm h 52 ≤ 10) (r_v : -2147483648 ≤ v ∧ v ≤ 2147483647) : zC M_m_spins [vR 39, vI v] h (pUM ((1 ≤ v ∧ v ≤ 60) ∧ h 39 0 ≠ 0 ∧ nm h 3 < 999) (if 1 ≤ v ∧ v ≤ 60 then (if h 39 0 = 0 then -2 else if nm h 3 < 999 then ((nm h 0 + clk v (h 39 2) (h 39 3)) % h 39 0) else -3) else -1) h (feI (upI (nm h) 0 ((nm h 0 + clk v (h 39 2) (h 39 3)) % h 39 0)) (fun q => col (pm h) (upI (nm h) 0 ((nm h 0 + clk v (h 39 2) (h 39 3)) % h 39 0)) (h 39 0) q) (h 39 4) (h 39 4))) := by
  refine zC.ofN 0 (by decide) (by first | decide | exact Nat.le_of_ble_eq_true rfl) ?_
  show Z M_m_spins _ 0 [vR 39, vI v] [] h
  have hn := hm.hn
  have hnp := hm.hnp
  refine z_iload_n D_m_spins_0 rfl ?_
  refine z_S1 (c_m_isSpeed r_v) G_m_isSpeed S_m_isSpeed lk_m_169 ⟨Nat.le_of_ble_eq_true rfl, Nat.le_of_ble_eq_true rfl⟩ (Nat.le_of_ble_eq_true rfl) D_m_spins_1 ?_
  refine z_ifneB (tgt := 9) D_m_spins_4 (by decide) (fun q4 => ?_) (fun q4 => ?_)
  · refine z_aload_n D_m_spins_9 rfl ?_
    refine z_getI fl_m_73 (rfl) rfl D_m_spins_10 ?_
    refine z_if_ne (tgt := 19) D_m_spins_13 (by decide) (by omega) (fun q13 => ?_) (fun q13 => ?_)
    · refine z_aload_n D_m_spins_19 rfl ?_
      refine z_getR (q := 42) fl_m_23 (rfl) rfl (rfl) D_m_spins_20 ?_
      refine z_iconst D_m_spins_23 ?_
      refine z_iald (n := 573) (rfl) (by omega) D_m_spins_24 ?_
      rw [nmE (h := h) (c := 3) rfl]
      have hf := hm.row.hf
      refine z_sipush (by decide) D_m_spins_25 ?_
      refine z_icmp_ne (tgt := 34) D_m_spins_28 (by decide) (by omega) (by omega) (fun q28 => ?_) (fun q28 => ?_)
      · refine z_aload_n D_m_spins_34 rfl ?_
        refine z_V0q (c0 := 12) (c_m_remembers hU) G_m_remembers I_m_remembers lk_m_172 (rfl) ⟨by decide, rfl⟩ ⟨Nat.le_of_ble_eq_true rfl, Nat.le_of_ble_eq_true rfl⟩ (Nat.le_of_ble_eq_true rfl) D_m_spins_35 (fun v9 h9 hp9 => ?_)
        obtain ⟨rfl, hRm⟩ := hp9
        show Z _ _ _ _ [] _
        have hm9 := hm.mrem hRm
        have ew9 : h9 39 = h 39 := hRm.1 39 (by decide)
        have ep9 : pm h9 = pm h := by funext j; unfold pm; rw [hRm.1 40 (by decide)]
        refine z_aload_n D_m_spins_38 rfl ?_
        refine z_getR (q := 42) fl_m_23 (rfl) rfl (rfl) D_m_spins_39 ?_
        refine z_iconst D_m_spins_42 ?_
        refine z_aload_n D_m_spins_43 rfl ?_
        refine z_getR (q := 42) fl_m_23 (rfl) rfl (rfl) D_m_spins_44 ?_
        refine z_iconst D_m_spins_47 ?_
        refine z_iald (n := 573) (rfl) (by omega) D_m_spins_48 ?_
        rw [show h9 42 (Int.toNat 0) = nm h 0 from hRm.2.2.1 0 (by omega) (by omega)]
        refine z_aload_n D_m_spins_49 rfl ?_
        refine z_iload_n D_m_spins_50 rfl ?_
        refine z_V1 (c0 := 12) (c_m_clicksOf hm9 (by omega)) G_m_clicksOf I_m_clicksOf lk_m_175 (rfl) ⟨by decide, rfl⟩ ⟨Nat.le_of_ble_eq_true rfl, Nat.le_of_ble_eq_true rfl⟩ (Nat.le_of_ble_eq_true rfl) D_m_spins_51 ?_
        rw [ew9]
        have hck := clk_in (v := v) (by omega) hm.hk hm.hd
        have ht := hm.row.ht
        refine z_iadd D_m_spins_54 ?_
        refine z_aload_n D_m_spins_55 rfl ?_
        refine z_getI fl_m_73 (rfl) rfl D_m_spins_56 ?_
        rw [ew9]
        refine z_irem_p D_m_spins_59 (by omega) (by omega) ?_
        refine z_iast (n := 573) (rfl) (by omega) D_m_spins_60 ?_
        have hTi := emod_in (x := nm h 0 + clk v (h 39 2) (h 39 3)) (n := h 39 0) (by omega)
        generalize hT : ((nm h 0 + clk v (h 39 2) (h 39 3)) % h 39 0) = T at hTi ⊢
        have hp := hRm.put (x := T) (c0 := 0) (by omega)
        have hok : RowOK (h 39 0) (h 39 4) (upI (nm h) 0 T) := by
          obtain ⟨a0, a1, a2, a3, a4, a5, a6⟩ := hm.row
          refine ⟨by rw [upI_eq]; omega, by rw [upI_ne (by omega)]; exact a1, by rw [upI_ne (by omega)]; exact a2, by rw [upI_ne (by omega)]; exact a3, fun p p0 p1 => by rw [upI_ne (by omega)]; exact a4 p p0 p1, fun p q p0 p1 q0 q1 e => ?_, fun c c0 c1 => by rw [upI_ne (by omega)]; exact a6 c c0 c1⟩
          rw [upI_ne (by omega), upI_ne (by omega)] at e
          exact a5 p q p0 p1 q0 q1 e
        have hmm : MI (zup h9 42 (Int.toNat 0) T) := hm.rowM hp.1 hp.2.2.1 hok
        have hf2 : nm (zup h9 42 (Int.toNat 0) T) 3 < 999 := by rw [hp.2.2.1 3 (by omega) (by omega), upI_ne (by omega)]; omega
        refine z_aload_n D_m_spins_61 rfl ?_
        refine z_V0q (c0 := 12) (c_m_feasts hmm hf2) G_m_feasts I_m_feasts lk_m_178 (rfl) ⟨by decide, rfl⟩ ⟨Nat.le_of_ble_eq_true rfl, Nat.le_of_ble_eq_true rfl⟩ (Nat.le_of_ble_eq_true rfl) D_m_spins_62 (fun v8 h8 hp8 => ?_)
        obtain ⟨rfl, hRF, hOF⟩ := hp8
        show Z _ _ _ _ [] _
        refine z_aload_n D_m_spins_65 rfl ?_
        refine z_getR (q := 42) fl_m_23 (rfl) rfl (rfl) D_m_spins_66 ?_
        refine z_iconst D_m_spins_69 ?_
        refine z_iald (n := 573) (rfl) (by omega) D_m_spins_70 ?_
        have ew8 : (zup h9 42 (Int.toNat 0) T) 39 = h 39 := by funext j; rw [zup_ne (by omega), ew9]
        have ep8 : pm (zup h9 42 (Int.toNat 0) T) = pm h := by rw [← ep9]; funext j; unfold pm; rw [zup_ne (by omega)]
        rw [ew8, ep8] at hRF
        have hcl : ∀ q, 0 ≤ q → q ≤ 5 → col (pm h) (nm (zup h9 42 (Int.toNat 0) T)) (h 39 0) q = col (pm h) (upI (nm h) 0 T) (h 39 0) q := fun q q0 q5 => col_eq (fun c qc => hp.2.2.1 c (by omega) (by omega)) ⟨q0, q5⟩
        have hrow : ∀ c, 0 ≤ c → c < 52 → feI (nm (zup h9 42 (Int.toNat 0) T)) (fun q => col (pm h) (nm (zup h9 42 (Int.toNat 0) T)) (h 39 0) q) (h 39 4) (h 39 4) c = feI (upI (nm h) 0 T) (fun q => col (pm h) (upI (nm h) 0 T) (h 39 0) q) (h 39 4) (h 39 4) c := by
          intro c c0 c1
          exact feI_congr hnp.2 (fun c c0 c1 => hp.2.2.1 c c0 c1) hcl c c0 c1
        have hpp := (hRm.push ((MRow.rfl'.put (c0 := 0) (by omega)).trans hRF)).to hrow
        have e0 : h8 42 (Int.toNat 0) = T := by
          have := hpp.2.2.1 0 (by omega) (by omega)
          unfold feI at this
          rw [if_neg (by omega), if_neg (by omega), if_neg (by omega), upI_eq] at this
          exact this
        refine z_ireturn rfl D_m_spins_71 (pumY ?_ ⟨q4, q13, by omega⟩ hpp)
        rw [e0, if_pos q4, if_neg q13, if_pos (by omega)]
      · refine z_bipush (by decide) D_m_spins_31 ?_
        exact z_ireturn rfl D_m_spins_33 (pumN (by rw [if_pos q4, if_neg q13, if_neg (by omega)]) (fun q => absurd q.2.2 (by omega)))
    · refine z_bipush (by decide) D_m_spins_16 ?_
      exact z_ireturn rfl D_m_spins_18 (pumN (by rw [if_pos q4, if_pos q13]) (fun q => q.2.1 q13))
  · refine z_iconst D_m_spins_7 ?_
    exact z_ireturn rfl D_m_spins_8 (pumN (by rw [if_neg q4]) (fun q => q4 q.1))

/-- NOW as it was a step ago -/
def MUndo (h h1 : zH) : Prop := (∀ a, a ≠ 42 → h1 a = h a) ∧ nm h1 52 = nm h 52 - 1 ∧ (∀ c, 0 ≤ c → c < 52 → nm h1 c = rm h (nm h 52 - 1) c) ∧ ∀ k, 53 ≤ k → h1 42 k = h 42 k
theorem l_m_undo {h : zH} {post : Option zV → zH → Prop} {u : Int} (hu : 0 ≤ u ∧ u ≤ 9) (K : ∀ h2, (∀ a, a ≠ 42 → h2 a = h a) → (∀ k : Nat, h2 42 k = if k < 52 then h 42 (k + (53 + 52 * u).toNat) else h 42 k) → Z M_m_undo post 66 [vR 39, vI (53 + 52 * u), vI 52] [] h2) : ∀ (k : Nat) (i : Int) (h1 : zH), 0 ≤ i → i ≤ 52 → 52 - i < k → (∀ a, a ≠ 42 → h1 a = h a) → (∀ k : Nat, h1 42 k = if k < i.toNat then h 42 (k + (53 + 52 * u).toNat) else h 42 k) → Z M_m_undo post 40 [vR 39, vI (53 + 52 * u), vI i] [] h1 := by
  intro k
  induction k with
  | zero => intro i h1 h0 h2 h3; omega
  | succ k ih =>
    intro i h1 h0 h2 h3 hE hA
    refine z_iload_n D_m_undo_40 rfl ?_
    refine z_bipush (by decide) D_m_undo_41 ?_
    refine z_icmp_ge (tgt := 66) D_m_undo_43 (by decide) (by omega) (by omega) (fun q43 => ?_) (fun q43 => ?_)
    · have e9 : i = 52 := by omega
      subst e9
      exact K h1 hE hA
    · refine z_aload_n D_m_undo_46 rfl ?_
      refine z_getR (q := 42) fl_m_23 (rfl) rfl (rfl) D_m_undo_47 ?_
      refine z_iload_n D_m_undo_50 rfl ?_
      refine z_aload_n D_m_undo_51 rfl ?_
      refine z_getR (q := 42) fl_m_23 (rfl) rfl (rfl) D_m_undo_52 ?_
      refine z_iload_n D_m_undo_55 rfl ?_
      refine z_iload_n D_m_undo_56 rfl ?_
      refine z_iadd D_m_undo_57 ?_
      refine z_iald (n := 573) (rfl) (by omega) D_m_undo_58 ?_
      refine z_iast (n := 573) (rfl) (by omega) D_m_undo_59 ?_
      refine z_iinc_2 D_m_undo_60 (Nat.le_of_ble_eq_true rfl) rfl ?_
      refine z_goto (tgt := 40) D_m_undo_63 (by decide) ?_
      refine ih (i + 1) _ (by omega) (by omega) (by omega) (fun a ha => by funext j; rw [zup_ne ha, hE a ha]) (fun j => ?_)
      by_cases hj : j = i.toNat
      · rw [hj, zup_same, if_pos (by omega), hA, if_neg (by omega)]
        exact congrArg (h 42) (by omega)
      · rw [zup_nk hj, hA]
        by_cases hq : j < i.toNat
        · rw [if_pos hq, if_pos (by omega)]
        · rw [if_neg hq, if_neg (by omega)]
theorem c_m_undo {h : zH}  (hU : 0 ≤ nm h 52 ∧ nm h 52 ≤ 10) : zC M_m_undo [vR 39] h (fun v h1 => v = some (vI (if nm h 52 = 0 then -2 else nm h 52 - 1)) ∧ (nm h 52 = 0 → h1 = h) ∧ (nm h 52 ≠ 0 → MUndo h h1)) := by
  refine zC.ofN 2 (by decide) (by first | decide | exact Nat.le_of_ble_eq_true rfl) ?_
  show Z M_m_undo _ 0 [vR 39, vU, vU] [] h
  refine z_aload_n D_m_undo_0 rfl ?_
  refine z_getR (q := 42) fl_m_23 (rfl) rfl (rfl) D_m_undo_1 ?_
  refine z_bipush (by decide) D_m_undo_4 ?_
  refine z_iald (n := 573) (rfl) (by omega) D_m_undo_6 ?_
  rw [nmE (h := h) (c := 52) rfl]
  refine z_if_ne (tgt := 13) D_m_undo_7 (by decide) (by omega) (fun q7 => ?_) (fun q7 => ?_)
  · refine z_aload_n D_m_undo_13 rfl ?_
    refine z_getR (q := 42) fl_m_23 (rfl) rfl (rfl) D_m_undo_14 ?_
    refine z_bipush (by decide) D_m_undo_17 ?_
    refine z_dup2 rfl rfl D_m_undo_19 ?_
    refine z_iald (n := 573) (rfl) (by omega) D_m_undo_20 ?_
    refine z_iconst D_m_undo_21 ?_
    refine z_isub D_m_undo_22 ?_
    rw [nmE (h := h) (c := 52) rfl]
    refine z_iast (n := 573) (rfl) (by omega) D_m_undo_23 ?_
    refine z_bipush (by decide) D_m_undo_24 ?_
    refine z_bipush (by decide) D_m_undo_26 ?_
    refine z_aload_n D_m_undo_28 rfl ?_
    refine z_getR (q := 42) fl_m_23 (rfl) rfl (rfl) D_m_undo_29 ?_
    refine z_bipush (by decide) D_m_undo_32 ?_
    refine z_iald (n := 573) (rfl) (by omega) D_m_undo_34 ?_
    rw [zup_same]
    refine z_imul D_m_undo_35 ?_
    refine z_iadd D_m_undo_36 ?_
    refine z_istore_1 D_m_undo_37 (Nat.le_of_ble_eq_true rfl) rfl ?_
    refine z_iconst D_m_undo_38 ?_
    refine z_istore_2 D_m_undo_39 (Nat.le_of_ble_eq_true rfl) rfl ?_
    refine l_m_undo (u := nm h 52 - 1) (by omega) (fun h3 hE3 hA3 => ?_) (53 : Nat) 0 _ (by omega) (by omega) (by omega) (fun a ha => rfl) (fun k => by rw [if_neg (by omega)])
    refine z_aload_n D_m_undo_66 rfl ?_
    refine z_getR (q := 42) fl_m_23 (rfl) rfl (rfl) D_m_undo_67 ?_
    refine z_bipush (by decide) D_m_undo_70 ?_
    refine z_iald (n := 573) (rfl) (by omega) D_m_undo_72 ?_
    have e52 : h3 42 (Int.toNat 52) = nm h 52 - 1 := by rw [hA3, if_neg (by omega), zup_same]
    refine z_ireturn rfl D_m_undo_73 ⟨by rw [e52, if_neg q7], fun q => absurd q q7, fun _ => ⟨fun a ha => ?_, e52, fun c c0 c1 => ?_, fun k hk => ?_⟩⟩
    · rw [hE3 a ha]; funext j; rw [zup_ne ha]
    · show h3 42 c.toNat = _
      rw [hA3, if_pos (by omega), zup_nk (by omega)]
      exact congrArg (h 42) (by omega)
    · rw [hA3, if_neg (by omega), zup_nk (by omega)]
  · refine z_bipush (by decide) D_m_undo_10 ?_
    exact z_ireturn rfl D_m_undo_12 (⟨by rw [if_pos q7], fun _ => rfl, fun q => absurd q7 q⟩)

