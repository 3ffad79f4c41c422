/-! chair, steps -/
theorem iter_invB {α : Type} {f : Int → α → α} {a : α} (I : α → Prop) (B : Int) (h0 : I a) (h1 : ∀ (i : Int) (s : α), 0 ≤ i → i < B → I s → I (f i s)) : ∀ m : Nat, (m : Int) ≤ B → I (iter f a m)
  | 0, _ => h0
  | m + 1, hm => h1 m _ (by omega) (by omega) (iter_invB I B h0 h1 m (by omega))
def stC (g : Int → Int → Int) (c i : Int) (s : Int × Int) : Int × Int := if s.2 < cntS (g i) c 60 then (i, cntS (g i) c 60) else s
def chF (g : Int → Int → Int) (c : Int) (n : Nat) : Int × Int := iter (stC g c) (-9, -9) n
theorem chF_in (g : Int → Int → Int) (c : Int) (n : Nat) (hn : (n : Int) ≤ 12) : ((chF g c n).1 = -9 ∧ (chF g c n).2 = -9) ∨ (0 ≤ (chF g c n).1 ∧ (chF g c n).1 ≤ 12 ∧ 0 ≤ (chF g c n).2 ∧ (chF g c n).2 ≤ 60) := by
  refine iter_invB (fun s : Int × Int => (s.1 = -9 ∧ s.2 = -9) ∨ (0 ≤ s.1 ∧ s.1 ≤ 12 ∧ 0 ≤ s.2 ∧ s.2 ≤ 60)) 12 (Or.inl ⟨rfl, rfl⟩) (fun i s h0 h1 h2 => ?_) n hn
  have h3 := cnt_in (g i) c 60
  unfold stC
  split
  · right; exact ⟨h0, by omega, h3.1, by omega⟩
  · exact h2
theorem chF_1 {g : Int → Int → Int} {c i : Int} (h : 0 ≤ i) : chF g c (i + 1).toNat = stC g c i (chF g c i.toNat) := iter_1 h
theorem c_x_speedsFor60 {h : zH} {w : Nat} {s c : Int} (hx : XI h w) (hs : 0 ≤ s ∧ s < h w 3) (hc : 0 ≤ c ∧ c ≤ 5) : zC M_x_speedsFor [vR 0, vI s, vI c, vI 60] h (pV (vI (cntS (gx h w s) c 60)) h) := c_x_speedsFor hx hs hc (by omega)
theorem c_m_speedsOf60 {h : zH} {s c : Int} (hm : MI h) (hs : 0 ≤ s ∧ s < h 39 0) (hc : 0 ≤ c ∧ c ≤ 5) : zC M_m_speedsOf [vR 39, vI s, vI c, vI 60] h (pV (vI (cntS (gm h s) c 60)) h) := c_m_speedsOf hm hs hc (by omega)
theorem l_x_chair {h : zH} {w : Nat} {c t y : Int} (hx : XI h w) (hc : 0 ≤ c ∧ c ≤ 5) (ht : 0 ≤ t ∧ t ≤ 1) (hY : (if t = 0 then (chF (gx h w) c (h w 3).toNat).1 else (chF (gx h w) c (h w 3).toNat).2) = y) : ∀ (k : Nat) (i : Int) (x6 : zV), 0 ≤ i → i ≤ h w 3 → h w 3 - i < k → Z M_x_chair (pV (vI y) h) 28 [vR 0, vI c, vI t, vI (chF (gx h w) c i.toNat).1, vI (chF (gx h w) c i.toNat).2, vI i, x6] [] h := by
  intro k
  induction k with
  | zero => intro i x6 h0 h1 h2; omega
  | succ k ih =>
    intro i x6 h0 h1 h2
    have hw := hx.2.1
    have hu := hx.2.2.1
    have hn := hx.2.2.2.hn
    have hnp := hx.2.2.2.hnp
    have ht0 := hx.2.2.2.row.ht
    have hh := hx.2.2.2.row.hh
    have hc0 := hx.2.2.2.row.hc
    have e := chF_1 (g := gx h w) (c := c) h0
    have hr := chF_in (gx h w) c i.toNat (by omega)
    have hq := cnt_in (gx h w i) c 60
    have q := fun y => ih (i + 1) y (by omega)
    rw [e] at q
    have hxt : i = h w 3 → chF (gx h w) c i.toNat = chF (gx h w) c (h w 3).toNat := fun e9 => by rw [e9]
    generalize chF (gx h w) c i.toNat = S at q hr hxt ⊢
    obtain ⟨b, m⟩ := S
    dsimp only at q hr hxt ⊢
    unfold stC at q
    dsimp only at q
    refine z_iload D_x_chair_28 rfl ?_
    refine z_aload_n D_x_chair_30 rfl ?_
    refine z_getW fl_x_19 (by decide) hx.1 D_x_chair_31 ?_
    refine z_getI fl_x_155 (kw hw) rfl D_x_chair_34 ?_
    refine z_icmp_ge (tgt := 77) D_x_chair_37 (by decide) (by omega) (by omega) (fun q37 => ?_) (fun q37 => ?_)
    · refine z_iload_n D_x_chair_77 rfl ?_
      refine z_if_ne (tgt := 85) D_x_chair_78 (by decide) (by omega) (fun q78 => ?_) (fun q78 => ?_)
      · refine z_iload D_x_chair_85 rfl ?_
        exact z_ireturn rfl D_x_chair_87 (pvI (by rw [← hY, ← hxt (by omega)]; (repeat' split) <;> first | rfl | omega | (exfalso; omega)) rfl)
      · refine z_iload_n D_x_chair_81 rfl ?_
        refine z_goto (tgt := 87) D_x_chair_82 (by decide) ?_
        exact z_ireturn rfl D_x_chair_87 (pvI (by rw [← hY, ← hxt (by omega)]; (repeat' split) <;> first | rfl | omega | (exfalso; omega)) rfl)
    · refine z_aload_n D_x_chair_40 rfl ?_
      refine z_iload D_x_chair_41 rfl ?_
      refine z_iload_n D_x_chair_43 rfl ?_
      refine z_bipush (by decide) D_x_chair_44 ?_
      refine z_V3 (c0 := 11) (c_x_speedsFor60 hx (by omega) (by omega)) G_x_speedsFor I_x_speedsFor lk_x_202 (rfl) ⟨by decide, rfl⟩ ⟨Nat.le_of_ble_eq_true rfl, Nat.le_of_ble_eq_true rfl⟩ (Nat.le_of_ble_eq_true rfl) D_x_chair_46 ?_
      refine z_istore_6 D_x_chair_49 (Nat.le_of_ble_eq_true rfl) rfl ?_
      refine z_iload_n D_x_chair_51 rfl ?_
      refine z_bipush (by decide) D_x_chair_52 ?_
      refine z_icmp_eq (tgt := 64) D_x_chair_54 (by decide) (by omega) (by omega) (fun q54 => ?_) (fun q54 => ?_)
      · refine z_iload D_x_chair_64 rfl ?_
        refine z_istore_3 D_x_chair_66 (Nat.le_of_ble_eq_true rfl) rfl ?_
        refine z_iload D_x_chair_67 rfl ?_
        refine z_istore_4 D_x_chair_69 (Nat.le_of_ble_eq_true rfl) rfl ?_
        refine z_iinc_5 D_x_chair_71 (Nat.le_of_ble_eq_true rfl) rfl ?_
        refine z_goto (tgt := 28) D_x_chair_74 (by decide) ?_
        first
        | (rw [if_pos (by omega)] at q; exact q _ (by omega) (by omega))
        | (rw [if_neg (by omega)] at q; exact q _ (by omega) (by omega))
      · refine z_iload D_x_chair_57 rfl ?_
        refine z_iload D_x_chair_59 rfl ?_
        refine z_icmp_le (tgt := 71) D_x_chair_61 (by decide) (by omega) (by omega) (fun q61 => ?_) (fun q61 => ?_)
        · refine z_iinc_5 D_x_chair_71 (Nat.le_of_ble_eq_true rfl) rfl ?_
          refine z_goto (tgt := 28) D_x_chair_74 (by decide) ?_
          first
          | (rw [if_pos (by omega)] at q; exact q _ (by omega) (by omega))
          | (rw [if_neg (by omega)] at q; exact q _ (by omega) (by omega))
        · refine z_iload D_x_chair_64 rfl ?_
          refine z_istore_3 D_x_chair_66 (Nat.le_of_ble_eq_true rfl) rfl ?_
          refine z_iload D_x_chair_67 rfl ?_
          refine z_istore_4 D_x_chair_69 (Nat.le_of_ble_eq_true rfl) rfl ?_
          refine z_iinc_5 D_x_chair_71 (Nat.le_of_ble_eq_true rfl) rfl ?_
          refine z_goto (tgt := 28) D_x_chair_74 (by decide) ?_
          first
          | (rw [if_pos (by omega)] at q; exact q _ (by omega) (by omega))
          | (rw [if_neg (by omega)] at q; exact q _ (by omega) (by omega))
theorem c_x_chair {h : zH} {w : Nat} {c t : Int} (hx : XI h w) (r_c : -2147483648 ≤ c ∧ c ≤ 2147483647) (r_t : -2147483648 ≤ t ∧ t ≤ 2147483647) : zC M_x_chair [vR 0, vI c, vI t] h (pV (vI (if (0 ≤ c ∧ c ≤ 5) ∧ (0 ≤ t ∧ t ≤ 1) then (if t = 0 then (chF (gx h w) c (h w 3).toNat).1 else (chF (gx h w) c (h w 3).toNat).2) else -1)) h) := by
  refine zC.ofN 4 (by decide) (by first | decide | exact Nat.le_of_ble_eq_true rfl) ?_
  show Z M_x_chair _ 0 [vR 0, vI c, vI t, vU, vU, vU, vU] [] h
  refine z_iload_n D_x_chair_0 rfl ?_
  refine z_S1 (c_x_isColour (by omega)) G_x_isColour S_x_isColour lk_x_199 ⟨Nat.le_of_ble_eq_true rfl, Nat.le_of_ble_eq_true rfl⟩ (Nat.le_of_ble_eq_true rfl) D_x_chair_1 ?_
  refine z_ifeqB (tgt := 16) D_x_chair_4 (by decide) (fun q4 => ?_) (fun q4 => ?_)
  · refine z_iconst D_x_chair_16 ?_
    exact z_ireturn rfl D_x_chair_17 (pvI (by (repeat' split) <;> first | rfl | omega | (exfalso; omega)) rfl)
  · refine z_iload_n D_x_chair_7 rfl ?_
    refine z_iconst D_x_chair_8 ?_
    refine z_iconst D_x_chair_9 ?_
    refine z_S3 (c_x_isWithin (by omega) (by omega) (by omega)) G_x_isWithin S_x_isWithin lk_x_99 ⟨Nat.le_of_ble_eq_true rfl, Nat.le_of_ble_eq_true rfl⟩ (Nat.le_of_ble_eq_true rfl) D_x_chair_10 ?_
    refine z_ifneB (tgt := 18) D_x_chair_13 (by decide) (fun q13 => ?_) (fun q13 => ?_)
    · refine z_bipush (by decide) D_x_chair_18 ?_
      refine z_istore_3 D_x_chair_20 (Nat.le_of_ble_eq_true rfl) rfl ?_
      refine z_bipush (by decide) D_x_chair_21 ?_
      refine z_istore_4 D_x_chair_23 (Nat.le_of_ble_eq_true rfl) rfl ?_
      refine z_iconst D_x_chair_25 ?_
      refine z_istore_5 D_x_chair_26 (Nat.le_of_ble_eq_true rfl) rfl ?_
      rw [if_pos (by omega)]
      have hn := hx.2.2.2.hn
      exact l_x_chair hx (by omega) (by omega) rfl (13 : Nat) 0 vU (by omega) (by omega) (by omega)
    · refine z_iconst D_x_chair_16 ?_
      exact z_ireturn rfl D_x_chair_17 (pvI (by (repeat' split) <;> first | rfl | omega | (exfalso; omega)) rfl)

theorem l_m_chair {h : zH} {c t y : Int} (hm : MI h) (hc : 0 ≤ c ∧ c ≤ 5) (ht : 0 ≤ t ∧ t ≤ 1) (hY : (if t = 0 then (chF (gm h) c (h 39 0).toNat).1 else (chF (gm h) c (h 39 0).toNat).2) = y) : ∀ (k : Nat) (i : Int) (x6 : zV), 0 ≤ i → i ≤ h 39 0 → h 39 0 - i < k → Z M_m_chair (pV (vI y) h) 28 [vR 39, vI c, vI t, vI (chF (gm h) c i.toNat).1, vI (chF (gm h) c i.toNat).2, vI i, x6] [] h := by
  intro k
  induction k with
  | zero => intro i x6 h0 h1 h2; omega
  | succ k ih =>
    intro i x6 h0 h1 h2
    have hn := hm.hn
    have hnp := hm.hnp
    have ht0 := hm.row.ht
    have hh := hm.row.hh
    have hc0 := hm.row.hc
    unfold nm at ht0 hh hc0
    have e := chF_1 (g := gm h) (c := c) h0
    have hr := chF_in (gm h) c i.toNat (by omega)
    have hq := cnt_in (gm h i) c 60
    have q := fun y => ih (i + 1) y (by omega)
    rw [e] at q
    have hxt : i = h 39 0 → chF (gm h) c i.toNat = chF (gm h) c (h 39 0).toNat := fun e9 => by rw [e9]
    generalize chF (gm h) c i.toNat = S at q hr hxt ⊢
    obtain ⟨b, m⟩ := S
    dsimp only at q hr hxt ⊢
    unfold stC at q
    dsimp only at q
    refine z_iload D_m_chair_28 rfl ?_
    refine z_aload_n D_m_chair_30 rfl ?_
    refine z_getI fl_m_73 (rfl) rfl D_m_chair_31 ?_
    refine z_icmp_ge (tgt := 84) D_m_chair_34 (by decide) (by omega) (by omega) (fun q34 => ?_) (fun q34 => ?_)
    · refine z_iload_n D_m_chair_84 rfl ?_
      refine z_if_ne (tgt := 92) D_m_chair_85 (by decide) (by omega) (fun q85 => ?_) (fun q85 => ?_)
      · refine z_iload D_m_chair_92 rfl ?_
        exact z_ireturn rfl D_m_chair_94 (pvI (by rw [← hY, ← hxt (by omega)]; (repeat' split) <;> first | rfl | omega | (exfalso; omega)) rfl)
      · refine z_iload_n D_m_chair_88 rfl ?_
        refine z_goto (tgt := 94) D_m_chair_89 (by decide) ?_
        exact z_ireturn rfl D_m_chair_94 (pvI (by rw [← hY, ← hxt (by omega)]; (repeat' split) <;> first | rfl | omega | (exfalso; omega)) rfl)
    · refine z_aload_n D_m_chair_37 rfl ?_
      refine z_iload D_m_chair_38 rfl ?_
      refine z_iload_n D_m_chair_40 rfl ?_
      refine z_bipush (by decide) D_m_chair_41 ?_
      refine z_V3 (c0 := 12) (c_m_speedsOf60 hm (by omega) (by omega)) G_m_speedsOf I_m_speedsOf lk_m_203 (rfl) ⟨by decide, rfl⟩ ⟨Nat.le_of_ble_eq_true rfl, Nat.le_of_ble_eq_true rfl⟩ (Nat.le_of_ble_eq_true rfl) D_m_chair_43 ?_
      refine z_istore_6 D_m_chair_46 (Nat.le_of_ble_eq_true rfl) rfl ?_
      refine z_iload D_m_chair_48 rfl ?_
      refine z_iload D_m_chair_50 rfl ?_
      refine z_icmp_le (tgt := 60) D_m_chair_52 (by decide) (by omega) (by omega) (fun q52 => ?_) (fun q52 => ?_)
      · refine z_iload_n D_m_chair_60 rfl ?_
        refine z_istore_3 D_m_chair_61 (Nat.le_of_ble_eq_true rfl) rfl ?_
        refine z_iload D_m_chair_62 rfl ?_
        refine z_iload D_m_chair_64 rfl ?_
        refine z_icmp_le (tgt := 74) D_m_chair_66 (by decide) (by omega) (by omega) (fun q66 => ?_) (fun q66 => ?_)
        · refine z_iload D_m_chair_74 rfl ?_
          refine z_istore_4 D_m_chair_76 (Nat.le_of_ble_eq_true rfl) rfl ?_
          refine z_iinc_5 D_m_chair_78 (Nat.le_of_ble_eq_true rfl) rfl ?_
          refine z_goto (tgt := 28) D_m_chair_81 (by decide) ?_
          first
          | (exfalso; omega)
          | (rw [if_pos (by omega)] at q; exact q _ (by omega) (by omega))
          | (rw [if_neg (by omega)] at q; exact q _ (by omega) (by omega))
        · refine z_iload D_m_chair_69 rfl ?_
          refine z_goto (tgt := 76) D_m_chair_71 (by decide) ?_
          refine z_istore_4 D_m_chair_76 (Nat.le_of_ble_eq_true rfl) rfl ?_
          refine z_iinc_5 D_m_chair_78 (Nat.le_of_ble_eq_true rfl) rfl ?_
          refine z_goto (tgt := 28) D_m_chair_81 (by decide) ?_
          first
          | (exfalso; omega)
          | (rw [if_pos (by omega)] at q; exact q _ (by omega) (by omega))
          | (rw [if_neg (by omega)] at q; exact q _ (by omega) (by omega))
      · refine z_iload D_m_chair_55 rfl ?_
        refine z_goto (tgt := 61) D_m_chair_57 (by decide) ?_
        refine z_istore_3 D_m_chair_61 (Nat.le_of_ble_eq_true rfl) rfl ?_
        refine z_iload D_m_chair_62 rfl ?_
        refine z_iload D_m_chair_64 rfl ?_
        refine z_icmp_le (tgt := 74) D_m_chair_66 (by decide) (by omega) (by omega) (fun q66 => ?_) (fun q66 => ?_)
        · refine z_iload D_m_chair_74 rfl ?_
          refine z_istore_4 D_m_chair_76 (Nat.le_of_ble_eq_true rfl) rfl ?_
          refine z_iinc_5 D_m_chair_78 (Nat.le_of_ble_eq_true rfl) rfl ?_
          refine z_goto (tgt := 28) D_m_chair_81 (by decide) ?_
          first
          | (exfalso; omega)
          | (rw [if_pos (by omega)] at q; exact q _ (by omega) (by omega))
          | (rw [if_neg (by omega)] at q; exact q _ (by omega) (by omega))
        · refine z_iload D_m_chair_69 rfl ?_
          refine z_goto (tgt := 76) D_m_chair_71 (by decide) ?_
          refine z_istore_4 D_m_chair_76 (Nat.le_of_ble_eq_true rfl) rfl ?_
          refine z_iinc_5 D_m_chair_78 (Nat.le_of_ble_eq_true rfl) rfl ?_
          refine z_goto (tgt := 28) D_m_chair_81 (by decide) ?_
          first
          | (exfalso; omega)
          | (rw [if_pos (by omega)] at q; exact q _ (by omega) (by omega))
          | (rw [if_neg (by omega)] at q; exact q _ (by omega) (by omega))
theorem c_m_chair {h : zH} {c t : Int} (hm : MI h) (r_c : -2147483648 ≤ c ∧ c ≤ 2147483647) (r_t : -2147483648 ≤ t ∧ t ≤ 2147483647) : zC M_m_chair [vR 39, vI c, vI t] h (pV (vI (if (0 ≤ c ∧ c ≤ 5) ∧ (0 ≤ t ∧ t ≤ 1) then (if t = 0 then (chF (gm h) c (h 39 0).toNat).1 else (chF (gm h) c (h 39 0).toNat).2) else -1)) h) := by
  refine zC.ofN 4 (by decide) (by first | decide | exact Nat.le_of_ble_eq_true rfl) ?_
  show Z M_m_chair _ 0 [vR 39, vI c, vI t, vU, vU, vU, vU] [] h
  refine z_iload_n D_m_chair_0 rfl ?_
  refine z_S1 (c_m_isColour (by omega)) G_m_isColour S_m_isColour lk_m_200 ⟨Nat.le_of_ble_eq_true rfl, Nat.le_of_ble_eq_true rfl⟩ (Nat.le_of_ble_eq_true rfl) D_m_chair_1 ?_
  refine z_ifeqB (tgt := 16) D_m_chair_4 (by decide) (fun q4 => ?_) (fun q4 => ?_)
  · refine z_iconst D_m_chair_16 ?_
    exact z_ireturn rfl D_m_chair_17 (pvI (by (repeat' split) <;> first | rfl | omega | (exfalso; omega)) rfl)
  · refine z_iload_n D_m_chair_7 rfl ?_
    refine z_iconst D_m_chair_8 ?_
    refine z_iconst D_m_chair_9 ?_
    refine z_S3 (c_m_in (by omega) (by omega) (by omega)) G_m_in S_m_in lk_m_69 ⟨Nat.le_of_ble_eq_true rfl, Nat.le_of_ble_eq_true rfl⟩ (Nat.le_of_ble_eq_true rfl) D_m_chair_10 ?_
    refine z_ifneB (tgt := 18) D_m_chair_13 (by decide) (fun q13 => ?_) (fun q13 => ?_)
    · refine z_bipush (by decide) D_m_chair_18 ?_
      refine z_istore_3 D_m_chair_20 (Nat.le_of_ble_eq_true rfl) rfl ?_
      refine z_bipush (by decide) D_m_chair_21 ?_
      refine z_istore_4 D_m_chair_23 (Nat.le_of_ble_eq_true rfl) rfl ?_
      refine z_iconst D_m_chair_25 ?_
      refine z_istore_5 D_m_chair_26 (Nat.le_of_ble_eq_true rfl) rfl ?_
      rw [if_pos (by omega)]
      have hn := hm.hn
      exact l_m_chair hm (by omega) (by omega) rfl (13 : Nat) 0 vU (by omega) (by omega) (by omega)
    · refine z_iconst D_m_chair_16 ?_
      exact z_ireturn rfl D_m_chair_17 (pvI (by (repeat' split) <;> first | rfl | omega | (exfalso; omega)) rfl)

def wayF (n f s : Int) : Int := min (rnd n (s - f)) (rnd n (f - s))
def okS (N : Int → Int) (np p s : Int) : Prop := whoX N np s = -1 ∨ whoX N np s = p
theorem emod_neg1 {x n : Int} (h1 : -n ≤ x) (h2 : x < 0) : x % n = x + n := by
  have : x % n = (x + n) % n := by simp
  rw [this, Int.emod_eq_of_lt (by omega) (by omega)]
theorem wayF_eq {n f s : Int} (hf : 0 ≤ f ∧ f < n) (hs : 0 ≤ s ∧ s < n) : (s - f + n) % n = (s - f) % n ∧ 0 ≤ (s - f) % n ∧ (s - f) % n < n ∧ wayF n f s = if (s - f) % n < n - (s - f) % n then (s - f) % n else n - (s - f) % n := by
  have h0 : 0 < n := by omega
  unfold wayF rnd
  rw [if_pos h0, if_pos h0]
  refine ⟨by simp, (emod_in h0).1, (emod_in h0).2, ?_⟩
  by_cases hd : s = f
  · subst hd
    simp
    omega
  · by_cases hl : s < f
    · rw [emod_neg1 (x := s - f) (by omega) (by omega), Int.emod_eq_of_lt (a := f - s) (by omega) (by omega)]
      split <;> omega
    · rw [emod_neg1 (x := f - s) (by omega) (by omega), Int.emod_eq_of_lt (a := s - f) (by omega) (by omega)]
      split <;> omega
theorem wayF_in {n f s : Int} (hf : 0 ≤ f ∧ f < n) (hs : 0 ≤ s ∧ s < n) : 0 ≤ wayF n f s ∧ wayF n f s ≤ n := by
  have := wayF_eq hf hs
  rw [this.2.2.2]
  split <;> omega
def stS (N : Int → Int) (g : Int → Int → Int) (np n p c v i : Int) (s : Int × Int) : Int × Int := if (whoX N np i = -1 ∨ whoX N np i = p) ∧ g i v = c ∧ (s.1 < 0 ∨ wayF n (N (4 + p)) i < s.2) then (i, wayF n (N (4 + p)) i) else s
def spF (N : Int → Int) (g : Int → Int → Int) (np n p c v : Int) (m : Nat) : Int × Int := iter (stS N g np n p c v) (-9, 0) m
theorem spF_1 {N : Int → Int} {g : Int → Int → Int} {np n p c v i : Int} (h : 0 ≤ i) : spF N g np n p c v (i + 1).toNat = stS N g np n p c v i (spF N g np n p c v i.toNat) := iter_1 h
theorem spF_in {N : Int → Int} {g : Int → Int → Int} {np n p c v : Int} (hn : n ≤ 12) (hp : 0 ≤ N (4 + p) ∧ N (4 + p) < n) (m : Nat) (hm : (m : Int) ≤ n) : ((spF N g np n p c v m).1 = -9 ∧ (spF N g np n p c v m).2 = 0) ∨ (0 ≤ (spF N g np n p c v m).1 ∧ (spF N g np n p c v m).1 ≤ 12 ∧ 0 ≤ (spF N g np n p c v m).2 ∧ (spF N g np n p c v m).2 ≤ 12) := by
  refine iter_invB (fun s : Int × Int => (s.1 = -9 ∧ s.2 = 0) ∨ (0 ≤ s.1 ∧ s.1 ≤ 12 ∧ 0 ≤ s.2 ∧ s.2 ≤ 12)) n (Or.inl ⟨rfl, rfl⟩) (fun i s h0 h1 h2 => ?_) m hm
  unfold stS
  split
  · have := wayF_in (n := n) hp (s := i) ⟨h0, h1⟩
    right; exact ⟨h0, by dsimp only; omega, this.1, by dsimp only; omega⟩
  · exact h2
theorem who_in {n np : Int} {N : Int → Int} (h : RowOK n np N) (hnp : 0 ≤ np) (s : Int) : -1 ≤ whoX N np s ∧ (whoX N np s < np ∨ whoX N np s = -1) ∧ -9 ≤ whoM N np s ∧ (whoM N np s < np ∨ whoM N np s = -9) ∧ ((whoM N np s < 0) ↔ whoX N np s = -1) ∧ (0 ≤ whoM N np s → whoM N np s = whoX N np s) := by
  rcases who_eq h hnp s with ⟨h1, h2, -⟩ | ⟨h1, h2, h3, -⟩ <;> omega
theorem l_x_steps {h : zH} {w : Nat} {p c v t y : Int} (hx : XI h w) (hp : 0 ≤ p ∧ p < h w 4) (hc : 0 ≤ c ∧ c ≤ 5) (hv : 1 ≤ v ∧ v ≤ 60) (ht : 0 ≤ t ∧ t ≤ 1) (hY : (if (spF (nw h) (gx h w) (h w 4) (h w 3) p c v (h w 3).toNat).1 < 0 ∨ t = 1 then (spF (nw h) (gx h w) (h w 4) (h w 3) p c v (h w 3).toNat).1 else (spF (nw h) (gx h w) (h w 4) (h w 3) p c v (h w 3).toNat).2) = y) : ∀ (k : Nat) (i : Int) (y1 y2 y3 : zV), (vlong y1 = false ∧ vlong y2 = false ∧ vlong y3 = false) → 0 ≤ i → i ≤ h w 3 → h w 3 - i < k → Z M_x_steps (pV (vI y) h) 60 [vR 0, vI p, vI c, vI v, vI t, vI (nw h (4 + p)), vI (if (spF (nw h) (gx h w) (h w 4) (h w 3) p c v i.toNat).1 < 0 then -9 else (spF (nw h) (gx h w) (h w 4) (h w 3) p c v i.toNat).2), vI (spF (nw h) (gx h w) (h w 4) (h w 3) p c v i.toNat).1, vI i, y1, y2, y3] [] h := by
  intro k
  induction k with
  | zero => intro i y1 y2 y3 hy h0 h1 h2; omega
  | succ k ih =>
    intro i y1 y2 y3 hy h0 h1 h2
    have hw := hx.2.1
    have hu := hx.2.2.1
    have hn := hx.2.2.2.hn
    have hnp := hx.2.2.2.hnp
    have ht0 := hx.2.2.2.row.ht
    have hh := hx.2.2.2.row.hh
    have hc0 := hx.2.2.2.row.hc
    have hsp := hx.2.2.2.row.hs hp.1 hp.2
    have hwho := who_in hx.2.2.2.row hnp.1 i
    have hg := gx_in hx i v
    have hway := fun q => wayF_eq (n := h w 3) (s := i) hsp ⟨h0, q⟩
    have hwin := fun q => wayF_in (n := h w 3) (s := i) hsp ⟨h0, q⟩
    have e := spF_1 (N := nw h) (g := gx h w) (np := h w 4) (n := h w 3) (p := p) (c := c) (v := v) h0
    have hr := spF_in (N := nw h) (g := gx h w) (np := h w 4) (c := c) (v := v) hn.2 hsp i.toNat (by omega)
    have q := fun y1 y2 y3 yy => ih (i + 1) y1 y2 y3 yy (by omega)
    rw [e] at q
    have hxt : i = h w 3 → spF (nw h) (gx h w) (h w 4) (h w 3) p c v i.toNat = spF (nw h) (gx h w) (h w 4) (h w 3) p c v (h w 3).toNat := fun e9 => by rw [e9]
    generalize spF (nw h) (gx h w) (h w 4) (h w 3) p c v i.toNat = S at q hr hxt ⊢
    obtain ⟨b, m⟩ := S
    dsimp only at hr hxt ⊢
    have hT : ((whoX (nw h) (h w 4) i = -1 ∨ whoX (nw h) (h w 4) i = p) ∧ gx h w i v = c ∧ (b < 0 ∨ wayF (h w 3) (nw h (4 + p)) i < m)) → stS (nw h) (gx h w) (h w 4) (h w 3) p c v i (b, m) = (i, wayF (h w 3) (nw h (4 + p)) i) := fun c9 => if_pos c9
    have hF : ¬ ((whoX (nw h) (h w 4) i = -1 ∨ whoX (nw h) (h w 4) i = p) ∧ gx h w i v = c ∧ (b < 0 ∨ wayF (h w 3) (nw h (4 + p)) i < m)) → stS (nw h) (gx h w) (h w 4) (h w 3) p c v i (b, m) = (b, m) := fun c9 => if_neg c9
    obtain ⟨fw, eb⟩ : ∃ fw : Int, fw = if b < 0 then -9 else m := ⟨_, rfl⟩
    rw [← eb]
    have hfw : (b < 0 ∧ fw = -9) ∨ (0 ≤ b ∧ fw = m) := by rw [eb]; split <;> omega
    refine z_iload D_x_steps_60 rfl ?_
    refine z_aload_n D_x_steps_62 rfl ?_
    refine z_getW fl_x_19 (by decide) hx.1 D_x_steps_63 ?_
    refine z_getI fl_x_155 (kw hw) rfl D_x_steps_66 ?_
    refine z_icmp_ge (tgt := 156) D_x_steps_69 (by decide) (by omega) (by omega) (fun q69 => ?_) (fun q69 => ?_)
    · refine z_iload D_x_steps_156 rfl ?_
      refine z_if_ne (tgt := 166) D_x_steps_158 (by decide) (by omega) (fun q158 => ?_) (fun q158 => ?_)
      · refine z_iload D_x_steps_166 rfl ?_
        exact z_ireturn rfl D_x_steps_168 (pvI (by rw [← hY, ← hxt (by omega)]; dsimp only; (repeat' split) <;> first | rfl | omega | (exfalso; omega)) rfl)
      · refine z_iload D_x_steps_161 rfl ?_
        refine z_goto (tgt := 168) D_x_steps_163 (by decide) ?_
        exact z_ireturn rfl D_x_steps_168 (pvI (by rw [← hY, ← hxt (by omega)]; dsimp only; (repeat' split) <;> first | rfl | omega | (exfalso; omega)) rfl)
    · refine z_aload_n D_x_steps_72 rfl ?_
      refine z_iload D_x_steps_73 rfl ?_
      refine z_V1 (c0 := 11) (c_x_whoIsOn hx (by omega)) G_x_whoIsOn I_x_whoIsOn lk_x_171 (rfl) ⟨by decide, rfl⟩ ⟨Nat.le_of_ble_eq_true rfl, Nat.le_of_ble_eq_true rfl⟩ (Nat.le_of_ble_eq_true rfl) D_x_steps_75 ?_
      refine z_istore_9 D_x_steps_78 (Nat.le_of_ble_eq_true rfl) rfl ?_
      refine z_iload D_x_steps_80 rfl ?_
      refine z_iconst D_x_steps_82 ?_
      refine z_icmp_eq (tgt := 92) D_x_steps_83 (by decide) (by omega) (by omega) (fun q83 => ?_) (fun q83 => ?_)
      · refine z_iconst D_x_steps_92 ?_
        refine z_goto (tgt := 97) D_x_steps_93 (by decide) ?_
        refine z_istore_10 D_x_steps_97 (Nat.le_of_ble_eq_true rfl) rfl ?_
        refine z_iload D_x_steps_99 rfl ?_
        refine z_if_eq (tgt := 150) D_x_steps_101 (by decide) (by decide) (fun q => absurd q (by decide)) (fun _ => ?_)
        refine z_aload_n D_x_steps_104 rfl ?_
        refine z_iload D_x_steps_105 rfl ?_
        refine z_iload_n D_x_steps_107 rfl ?_
        refine z_V2 (c0 := 11) (c_x_colourBehind hx (by omega) (by omega)) G_x_colourBehind I_x_colourBehind lk_x_196 (rfl) ⟨by decide, rfl⟩ ⟨Nat.le_of_ble_eq_true rfl, Nat.le_of_ble_eq_true rfl⟩ (Nat.le_of_ble_eq_true rfl) D_x_steps_108 ?_
        refine z_iload_n D_x_steps_111 rfl ?_
        refine z_icmp_ne (tgt := 150) D_x_steps_112 (by decide) (by omega) (by omega) (fun q112 => ?_) (fun q112 => ?_)
        · refine z_iinc_8 D_x_steps_150 (Nat.le_of_ble_eq_true rfl) rfl ?_
          refine z_goto (tgt := 60) D_x_steps_153 (by decide) ?_
          first
          | (rw [hT (by omega)] at q; dsimp only at q; rw [if_neg (by omega)] at q; exact q _ _ _ ⟨rfl, rfl, by first | rfl | exact hy.2.2⟩ (by omega) (by omega))
          | (rw [hF (by omega)] at q; dsimp only at q; rw [← eb] at q; exact q _ _ _ ⟨rfl, rfl, by first | rfl | exact hy.2.2⟩ (by omega) (by omega))
        · refine z_aload_n D_x_steps_115 rfl ?_
          refine z_getW fl_x_19 (by decide) hx.1 D_x_steps_116 ?_
          refine z_iload D_x_steps_119 rfl ?_
          refine z_iload D_x_steps_121 rfl ?_
          refine z_V2 (c0 := 10) (c_w_wayRound (s := nw h (4 + p)) (t := i) hw hn (by omega) (by omega)) G_w_wayRound I_w_wayRound lk_x_209 (kw hw) ⟨by decide, rfl⟩ ⟨Nat.le_of_ble_eq_true rfl, Nat.le_of_ble_eq_true rfl⟩ (Nat.le_of_ble_eq_true rfl) D_x_steps_123 ?_
          have hwin := hwin (by omega)
          show Z _ _ _ _ (vI (wayF (h w 3) (nw h (4 + p)) i) :: []) _
          refine z_istore_11 D_x_steps_126 (Nat.le_of_ble_eq_true rfl) rfl ?_
          refine z_iload D_x_steps_128 rfl ?_
          refine z_bipush (by decide) D_x_steps_130 ?_
          refine z_icmp_eq (tgt := 142) D_x_steps_132 (by decide) (by omega) (by omega) (fun q132 => ?_) (fun q132 => ?_)
          · refine z_iload D_x_steps_142 rfl ?_
            refine z_istore_6 D_x_steps_144 (Nat.le_of_ble_eq_true rfl) rfl ?_
            refine z_iload D_x_steps_146 rfl ?_
            refine z_istore_7 D_x_steps_148 (Nat.le_of_ble_eq_true rfl) rfl ?_
            refine z_iinc_8 D_x_steps_150 (Nat.le_of_ble_eq_true rfl) rfl ?_
            refine z_goto (tgt := 60) D_x_steps_153 (by decide) ?_
            first
            | (rw [hT (by omega)] at q; dsimp only at q; rw [if_neg (by omega)] at q; exact q _ _ _ ⟨rfl, rfl, by first | rfl | exact hy.2.2⟩ (by omega) (by omega))
            | (rw [hF (by omega)] at q; dsimp only at q; rw [← eb] at q; exact q _ _ _ ⟨rfl, rfl, by first | rfl | exact hy.2.2⟩ (by omega) (by omega))
          · refine z_iload D_x_steps_135 rfl ?_
            refine z_iload D_x_steps_137 rfl ?_
            refine z_icmp_ge (tgt := 150) D_x_steps_139 (by decide) (by omega) (by omega) (fun q139 => ?_) (fun q139 => ?_)
            · refine z_iinc_8 D_x_steps_150 (Nat.le_of_ble_eq_true rfl) rfl ?_
              refine z_goto (tgt := 60) D_x_steps_153 (by decide) ?_
              first
              | (rw [hT (by omega)] at q; dsimp only at q; rw [if_neg (by omega)] at q; exact q _ _ _ ⟨rfl, rfl, by first | rfl | exact hy.2.2⟩ (by omega) (by omega))
              | (rw [hF (by omega)] at q; dsimp only at q; rw [← eb] at q; exact q _ _ _ ⟨rfl, rfl, by first | rfl | exact hy.2.2⟩ (by omega) (by omega))
            · refine z_iload D_x_steps_142 rfl ?_
              refine z_istore_6 D_x_steps_144 (Nat.le_of_ble_eq_true rfl) rfl ?_
              refine z_iload D_x_steps_146 rfl ?_
              refine z_istore_7 D_x_steps_148 (Nat.le_of_ble_eq_true rfl) rfl ?_
              refine z_iinc_8 D_x_steps_150 (Nat.le_of_ble_eq_true rfl) rfl ?_
              refine z_goto (tgt := 60) D_x_steps_153 (by decide) ?_
              first
              | (rw [hT (by omega)] at q; dsimp only at q; rw [if_neg (by omega)] at q; exact q _ _ _ ⟨rfl, rfl, by first | rfl | exact hy.2.2⟩ (by omega) (by omega))
              | (rw [hF (by omega)] at q; dsimp only at q; rw [← eb] at q; exact q _ _ _ ⟨rfl, rfl, by first | rfl | exact hy.2.2⟩ (by omega) (by omega))
      · refine z_iload D_x_steps_86 rfl ?_
        refine z_iload_n D_x_steps_88 rfl ?_
        refine z_icmp_ne (tgt := 96) D_x_steps_89 (by decide) (by omega) (by omega) (fun q89 => ?_) (fun q89 => ?_)
        · refine z_iconst D_x_steps_96 ?_
          refine z_istore_10 D_x_steps_97 (Nat.le_of_ble_eq_true rfl) rfl ?_
          refine z_iload D_x_steps_99 rfl ?_
          refine z_if_eq (tgt := 150) D_x_steps_101 (by decide) (by decide) (fun _ => ?_) (fun q => absurd q (by decide))
          refine z_iinc_8 D_x_steps_150 (Nat.le_of_ble_eq_true rfl) rfl ?_
          refine z_goto (tgt := 60) D_x_steps_153 (by decide) ?_
          first
          | (rw [hT (by omega)] at q; dsimp only at q; rw [if_neg (by omega)] at q; exact q _ _ _ ⟨rfl, rfl, by first | rfl | exact hy.2.2⟩ (by omega) (by omega))
          | (rw [hF (by omega)] at q; dsimp only at q; rw [← eb] at q; exact q _ _ _ ⟨rfl, rfl, by first | rfl | exact hy.2.2⟩ (by omega) (by omega))
        · refine z_iconst D_x_steps_92 ?_
          refine z_goto (tgt := 97) D_x_steps_93 (by decide) ?_
          refine z_istore_10 D_x_steps_97 (Nat.le_of_ble_eq_true rfl) rfl ?_
          refine z_iload D_x_steps_99 rfl ?_
          refine z_if_eq (tgt := 150) D_x_steps_101 (by decide) (by decide) (fun q => absurd q (by decide)) (fun _ => ?_)
          refine z_aload_n D_x_steps_104 rfl ?_
          refine z_iload D_x_steps_105 rfl ?_
          refine z_iload_n D_x_steps_107 rfl ?_
          refine z_V2 (c0 := 11) (c_x_colourBehind hx (by omega) (by omega)) G_x_colourBehind I_x_colourBehind lk_x_196 (rfl) ⟨by decide, rfl⟩ ⟨Nat.le_of_ble_eq_true rfl, Nat.le_of_ble_eq_true rfl⟩ (Nat.le_of_ble_eq_true rfl) D_x_steps_108 ?_
          refine z_iload_n D_x_steps_111 rfl ?_
          refine z_icmp_ne (tgt := 150) D_x_steps_112 (by decide) (by omega) (by omega) (fun q112 => ?_) (fun q112 => ?_)
          · refine z_iinc_8 D_x_steps_150 (Nat.le_of_ble_eq_true rfl) rfl ?_
            refine z_goto (tgt := 60) D_x_steps_153 (by decide) ?_
            first
            | (rw [hT (by omega)] at q; dsimp only at q; rw [if_neg (by omega)] at q; exact q _ _ _ ⟨rfl, rfl, by first | rfl | exact hy.2.2⟩ (by omega) (by omega))
            | (rw [hF (by omega)] at q; dsimp only at q; rw [← eb] at q; exact q _ _ _ ⟨rfl, rfl, by first | rfl | exact hy.2.2⟩ (by omega) (by omega))
          · refine z_aload_n D_x_steps_115 rfl ?_
            refine z_getW fl_x_19 (by decide) hx.1 D_x_steps_116 ?_
            refine z_iload D_x_steps_119 rfl ?_
            refine z_iload D_x_steps_121 rfl ?_
            refine z_V2 (c0 := 10) (c_w_wayRound (s := nw h (4 + p)) (t := i) hw hn (by omega) (by omega)) G_w_wayRound I_w_wayRound lk_x_209 (kw hw) ⟨by decide, rfl⟩ ⟨Nat.le_of_ble_eq_true rfl, Nat.le_of_ble_eq_true rfl⟩ (Nat.le_of_ble_eq_true rfl) D_x_steps_123 ?_
            have hwin := hwin (by omega)
            show Z _ _ _ _ (vI (wayF (h w 3) (nw h (4 + p)) i) :: []) _
            refine z_istore_11 D_x_steps_126 (Nat.le_of_ble_eq_true rfl) rfl ?_
            refine z_iload D_x_steps_128 rfl ?_
            refine z_bipush (by decide) D_x_steps_130 ?_
            refine z_icmp_eq (tgt := 142) D_x_steps_132 (by decide) (by omega) (by omega) (fun q132 => ?_) (fun q132 => ?_)
            · refine z_iload D_x_steps_142 rfl ?_
              refine z_istore_6 D_x_steps_144 (Nat.le_of_ble_eq_true rfl) rfl ?_
              refine z_iload D_x_steps_146 rfl ?_
              refine z_istore_7 D_x_steps_148 (Nat.le_of_ble_eq_true rfl) rfl ?_
              refine z_iinc_8 D_x_steps_150 (Nat.le_of_ble_eq_true rfl) rfl ?_
              refine z_goto (tgt := 60) D_x_steps_153 (by decide) ?_
              first
              | (rw [hT (by omega)] at q; dsimp only at q; rw [if_neg (by omega)] at q; exact q _ _ _ ⟨rfl, rfl, by first | rfl | exact hy.2.2⟩ (by omega) (by omega))
              | (rw [hF (by omega)] at q; dsimp only at q; rw [← eb] at q; exact q _ _ _ ⟨rfl, rfl, by first | rfl | exact hy.2.2⟩ (by omega) (by omega))
            · refine z_iload D_x_steps_135 rfl ?_
              refine z_iload D_x_steps_137 rfl ?_
              refine z_icmp_ge (tgt := 150) D_x_steps_139 (by decide) (by omega) (by omega) (fun q139 => ?_) (fun q139 => ?_)
              · refine z_iinc_8 D_x_steps_150 (Nat.le_of_ble_eq_true rfl) rfl ?_
                refine z_goto (tgt := 60) D_x_steps_153 (by decide) ?_
                first
                | (rw [hT (by omega)] at q; dsimp only at q; rw [if_neg (by omega)] at q; exact q _ _ _ ⟨rfl, rfl, by first | rfl | exact hy.2.2⟩ (by omega) (by omega))
                | (rw [hF (by omega)] at q; dsimp only at q; rw [← eb] at q; exact q _ _ _ ⟨rfl, rfl, by first | rfl | exact hy.2.2⟩ (by omega) (by omega))
              · refine z_iload D_x_steps_142 rfl ?_
                refine z_istore_6 D_x_steps_144 (Nat.le_of_ble_eq_true rfl) rfl ?_
                refine z_iload D_x_steps_146 rfl ?_
                refine z_istore_7 D_x_steps_148 (Nat.le_of_ble_eq_true rfl) rfl ?_
                refine z_iinc_8 D_x_steps_150 (Nat.le_of_ble_eq_true rfl) rfl ?_
                refine z_goto (tgt := 60) D_x_steps_153 (by decide) ?_
                first
                | (rw [hT (by omega)] at q; dsimp only at q; rw [if_neg (by omega)] at q; exact q _ _ _ ⟨rfl, rfl, by first | rfl | exact hy.2.2⟩ (by omega) (by omega))
                | (rw [hF (by omega)] at q; dsimp only at q; rw [← eb] at q; exact q _ _ _ ⟨rfl, rfl, by first | rfl | exact hy.2.2⟩ (by omega) (by omega))
theorem c_x_steps {h : zH} {w : Nat} {p c v t : Int} (hx : XI h w) (r_p : -2147483648 ≤ p ∧ p ≤ 2147483647) (r_c : -2147483648 ≤ c ∧ c ≤ 2147483647) (r_v : -2147483648 ≤ v ∧ v ≤ 2147483647) (r_t : -2147483648 ≤ t ∧ t ≤ 2147483647) : zC M_x_steps [vR 0, vI p, vI c, vI v, vI t] h (pV (vI (if ((0 ≤ p ∧ p < h w 4) ∧ (0 ≤ c ∧ c ≤ 5) ∧ (1 ≤ v ∧ v ≤ 60) ∧ (0 ≤ t ∧ t ≤ 1)) then (if (spF (nw h) (gx h w) (h w 4) (h w 3) p c v (h w 3).toNat).1 < 0 ∨ t = 1 then (spF (nw h) (gx h w) (h w 4) (h w 3) p c v (h w 3).toNat).1 else (spF (nw h) (gx h w) (h w 4) (h w 3) p c v (h w 3).toNat).2) else -1)) h) := by
  refine zC.ofN 7 (by decide) (by first | decide | exact Nat.le_of_ble_eq_true rfl) ?_
  show Z M_x_steps _ 0 [vR 0, vI p, vI c, vI v, vI t, vU, vU, vU, vU, vU, vU, vU] [] h
  have hw := hx.2.1
  have hu := hx.2.2.1
  have hn := hx.2.2.2.hn
  have hnp := hx.2.2.2.hnp
  have ht := hx.2.2.2.row.ht
  have hh := hx.2.2.2.row.hh
  have hc := hx.2.2.2.row.hc
  refine z_aload_n D_x_steps_0 rfl ?_
  refine z_getW fl_x_19 (by decide) hx.1 D_x_steps_1 ?_
  refine z_iload_n D_x_steps_4 rfl ?_
  refine z_V1 (c0 := 10) (c_w_hasPerson hw hnp (by omega)) G_w_hasPerson I_w_hasPerson lk_x_128 (kw hw) ⟨by decide, rfl⟩ ⟨Nat.le_of_ble_eq_true rfl, Nat.le_of_ble_eq_true rfl⟩ (Nat.le_of_ble_eq_true rfl) D_x_steps_5 ?_
  refine z_ifeqB (tgt := 35) D_x_steps_8 (by decide) (fun q8 => ?_) (fun q8 => ?_)
  · refine z_iconst D_x_steps_35 ?_
    exact z_ireturn rfl D_x_steps_36 (pvI (by (repeat' split) <;> first | rfl | omega | (exfalso; omega)) rfl)
  · refine z_iload_n D_x_steps_11 rfl ?_
    refine z_S1 (c_x_isColour (by omega)) G_x_isColour S_x_isColour lk_x_199 ⟨Nat.le_of_ble_eq_true rfl, Nat.le_of_ble_eq_true rfl⟩ (Nat.le_of_ble_eq_true rfl) D_x_steps_12 ?_
    refine z_ifeqB (tgt := 35) D_x_steps_15 (by decide) (fun q15 => ?_) (fun q15 => ?_)
    · refine z_iconst D_x_steps_35 ?_
      exact z_ireturn rfl D_x_steps_36 (pvI (by (repeat' split) <;> first | rfl | omega | (exfalso; omega)) rfl)
    · refine z_iload_n D_x_steps_18 rfl ?_
      refine z_S1 (c_x_isSpeed (by omega)) G_x_isSpeed S_x_isSpeed lk_x_152 ⟨Nat.le_of_ble_eq_true rfl, Nat.le_of_ble_eq_true rfl⟩ (Nat.le_of_ble_eq_true rfl) D_x_steps_19 ?_
      refine z_ifeqB (tgt := 35) D_x_steps_22 (by decide) (fun q22 => ?_) (fun q22 => ?_)
      · refine z_iconst D_x_steps_35 ?_
        exact z_ireturn rfl D_x_steps_36 (pvI (by (repeat' split) <;> first | rfl | omega | (exfalso; omega)) rfl)
      · refine z_iload D_x_steps_25 rfl ?_
        refine z_iconst D_x_steps_27 ?_
        refine z_iconst D_x_steps_28 ?_
        refine z_S3 (c_x_isWithin (by omega) (by omega) (by omega)) G_x_isWithin S_x_isWithin lk_x_99 ⟨Nat.le_of_ble_eq_true rfl, Nat.le_of_ble_eq_true rfl⟩ (Nat.le_of_ble_eq_true rfl) D_x_steps_29 ?_
        refine z_ifneB (tgt := 37) D_x_steps_32 (by decide) (fun q32 => ?_) (fun q32 => ?_)
        · refine z_aload_n D_x_steps_37 rfl ?_
          refine z_getR (q := 11) fl_x_29 (rfl) rfl (rfl) D_x_steps_38 ?_
          refine z_iconst D_x_steps_41 ?_
          refine z_iload_n D_x_steps_42 rfl ?_
          refine z_iadd D_x_steps_43 ?_
          refine z_V1 (c0 := 5) (c_d_value hu (by omega)) G_d_value I_d_value lk_x_131 (rfl) ⟨by decide, rfl⟩ ⟨Nat.le_of_ble_eq_true rfl, Nat.le_of_ble_eq_true rfl⟩ (Nat.le_of_ble_eq_true rfl) D_x_steps_44 ?_
          refine z_istore_5 D_x_steps_47 (Nat.le_of_ble_eq_true rfl) rfl ?_
          refine z_bipush (by decide) D_x_steps_49 ?_
          refine z_istore_6 D_x_steps_51 (Nat.le_of_ble_eq_true rfl) rfl ?_
          refine z_bipush (by decide) D_x_steps_53 ?_
          refine z_istore_7 D_x_steps_55 (Nat.le_of_ble_eq_true rfl) rfl ?_
          refine z_iconst D_x_steps_57 ?_
          refine z_istore_8 D_x_steps_58 (Nat.le_of_ble_eq_true rfl) rfl ?_
          rw [if_pos (by omega)]
          exact l_x_steps hx (by omega) (by omega) (by omega) (by omega) rfl (13 : Nat) 0 vU vU vU ⟨rfl, rfl, rfl⟩ (by omega) (by omega) (by omega)
        · refine z_iconst D_x_steps_35 ?_
          exact z_ireturn rfl D_x_steps_36 (pvI (by (repeat' split) <;> first | rfl | omega | (exfalso; omega)) rfl)

theorem l_m_steps {h : zH} {p c v t y : Int} (hm : MI h) (hp : 0 ≤ p ∧ p < h 39 4) (hc : 0 ≤ c ∧ c ≤ 5) (hv : 1 ≤ v ∧ v ≤ 60) (ht : 0 ≤ t ∧ t ≤ 1) (hY : (if (spF (nm h) (gm h) (h 39 4) (h 39 0) p c v (h 39 0).toNat).1 < 0 ∨ t = 1 then (spF (nm h) (gm h) (h 39 4) (h 39 0) p c v (h 39 0).toNat).1 else (spF (nm h) (gm h) (h 39 4) (h 39 0) p c v (h 39 0).toNat).2) = y) : ∀ (k : Nat) (i : Int) (y1 y2 y3 y4 : zV), (vlong y1 = false ∧ vlong y2 = false ∧ vlong y3 = false) → 0 ≤ i → i ≤ h 39 0 → h 39 0 - i < k → Z M_m_steps (pV (vI y) h) 44 [vR 39, vI p, vI c, vI v, vI t, vI (spF (nm h) (gm h) (h 39 4) (h 39 0) p c v i.toNat).1, vI (spF (nm h) (gm h) (h 39 4) (h 39 0) p c v i.toNat).2, vI i, y1, y2, y3, y4] [] h := by
  intro k
  induction k with
  | zero => intro i y1 y2 y3 y4 hy h0 h1 h2; omega
  | succ k ih =>
    intro i y1 y2 y3 y4 hy h0 h1 h2
    have hn := hm.hn
    have hnp := hm.hnp
    have ht0 := hm.row.ht
    have hh := hm.row.hh
    have hc0 := hm.row.hc
    unfold nm at ht0 hh hc0
    have hsp := hm.row.hs hp.1 hp.2
    have hwho := who_in hm.row hnp.1 i
    have hg := gm_in hm i v
    have hway := fun q => wayF_eq (n := h 39 0) (s := i) hsp ⟨h0, q⟩
    have hwin := fun q => wayF_in (n := h 39 0) (s := i) hsp ⟨h0, q⟩
    have e := spF_1 (N := nm h) (g := gm h) (np := h 39 4) (n := h 39 0) (p := p) (c := c) (v := v) h0
    have hr := spF_in (N := nm h) (g := gm h) (np := h 39 4) (c := c) (v := v) hn.2 hsp i.toNat (by omega)
    have q := fun y1 y2 y3 y4 yy => ih (i + 1) y1 y2 y3 y4 yy (by omega)
    rw [e] at q
    have hxt : i = h 39 0 → spF (nm h) (gm h) (h 39 4) (h 39 0) p c v i.toNat = spF (nm h) (gm h) (h 39 4) (h 39 0) p c v (h 39 0).toNat := fun e9 => by rw [e9]
    generalize spF (nm h) (gm h) (h 39 4) (h 39 0) p c v i.toNat = S at q hr hxt ⊢
    obtain ⟨b, m⟩ := S
    dsimp only at hr hxt ⊢
    have hT : ((whoX (nm h) (h 39 4) i = -1 ∨ whoX (nm h) (h 39 4) i = p) ∧ gm h i v = c ∧ (b < 0 ∨ wayF (h 39 0) (nm h (4 + p)) i < m)) → stS (nm h) (gm h) (h 39 4) (h 39 0) p c v i (b, m) = (i, wayF (h 39 0) (nm h (4 + p)) i) := fun c9 => if_pos c9
    have hF : ¬ ((whoX (nm h) (h 39 4) i = -1 ∨ whoX (nm h) (h 39 4) i = p) ∧ gm h i v = c ∧ (b < 0 ∨ wayF (h 39 0) (nm h (4 + p)) i < m)) → stS (nm h) (gm h) (h 39 4) (h 39 0) p c v i (b, m) = (b, m) := fun c9 => if_neg c9
    unfold nm at hsp
    refine z_iload D_m_steps_44 rfl ?_
    refine z_aload_n D_m_steps_46 rfl ?_
    refine z_getI fl_m_73 (rfl) rfl D_m_steps_47 ?_
    refine z_icmp_ge (tgt := 185) D_m_steps_50 (by decide) (by omega) (by omega) (fun q50 => ?_) (fun q50 => ?_)
    · refine z_iload D_m_steps_185 rfl ?_
      refine z_if_lt (tgt := 196) D_m_steps_187 (by decide) (by omega) (fun q187 => ?_) (fun q187 => ?_)
      · refine z_iload D_m_steps_196 rfl ?_
        refine z_goto (tgt := 203) D_m_steps_198 (by decide) ?_
        exact z_ireturn rfl D_m_steps_203 (pvI (by rw [← hY, ← hxt (by omega)]; dsimp only; (repeat' split) <;> first | rfl | omega | (exfalso; omega)) rfl)
      · refine z_iload D_m_steps_190 rfl ?_
        refine z_iconst D_m_steps_192 ?_
        refine z_icmp_ne (tgt := 201) D_m_steps_193 (by decide) (by omega) (by omega) (fun q193 => ?_) (fun q193 => ?_)
        · refine z_iload D_m_steps_201 rfl ?_
          exact z_ireturn rfl D_m_steps_203 (pvI (by rw [← hY, ← hxt (by omega)]; dsimp only; (repeat' split) <;> first | rfl | omega | (exfalso; omega)) rfl)
        · refine z_iload D_m_steps_196 rfl ?_
          refine z_goto (tgt := 203) D_m_steps_198 (by decide) ?_
          exact z_ireturn rfl D_m_steps_203 (pvI (by rw [← hY, ← hxt (by omega)]; dsimp only; (repeat' split) <;> first | rfl | omega | (exfalso; omega)) rfl)
    · refine z_iload D_m_steps_53 rfl ?_
      refine z_aload_n D_m_steps_55 rfl ?_
      refine z_getR (q := 42) fl_m_23 (rfl) rfl (rfl) D_m_steps_56 ?_
      refine z_iconst D_m_steps_59 ?_
      refine z_iload_n D_m_steps_60 rfl ?_
      refine z_iadd D_m_steps_61 ?_
      refine z_iald (n := 573) (rfl) (by omega) D_m_steps_62 ?_
      refine z_isub D_m_steps_63 ?_
      refine z_aload_n D_m_steps_64 rfl ?_
      refine z_getI fl_m_73 (rfl) rfl D_m_steps_65 ?_
      refine z_iadd D_m_steps_68 ?_
      refine z_aload_n D_m_steps_69 rfl ?_
      refine z_getI fl_m_73 (rfl) rfl D_m_steps_70 ?_
      refine z_irem_p D_m_steps_73 (by omega) (by omega) ?_
      have hway := hway (by omega)
      have hwin := hwin (by omega)
      show Z _ _ _ _ (vI ((i - nm h (4 + p) + h 39 0) % h 39 0) :: []) _
      rw [hway.1]
      refine z_istore_8 D_m_steps_74 (Nat.le_of_ble_eq_true rfl) rfl ?_
      refine z_iload D_m_steps_76 rfl ?_
      refine z_aload_n D_m_steps_78 rfl ?_
      refine z_getI fl_m_73 (rfl) rfl D_m_steps_79 ?_
      refine z_iload D_m_steps_82 rfl ?_
      refine z_isub D_m_steps_84 ?_
      refine z_icmp_ge (tgt := 93) D_m_steps_85 (by decide) (by omega) (by omega) (fun q85 => ?_) (fun q85 => ?_)
      · refine z_aload_n D_m_steps_93 rfl ?_
        refine z_getI fl_m_73 (rfl) rfl D_m_steps_94 ?_
        refine z_iload D_m_steps_97 rfl ?_
        refine z_isub D_m_steps_99 ?_
        first
        | rw [← hway.2.2.2.trans (if_pos (by omega))]
        | rw [← hway.2.2.2.trans (if_neg (by omega))]
        refine z_istore_9 D_m_steps_100 (Nat.le_of_ble_eq_true rfl) rfl ?_
        refine z_aload_n D_m_steps_102 rfl ?_
        refine z_iload D_m_steps_103 rfl ?_
        refine z_V1 (c0 := 12) (c_m_whoHas hm (by omega)) G_m_whoHas I_m_whoHas lk_m_181 (rfl) ⟨by decide, rfl⟩ ⟨Nat.le_of_ble_eq_true rfl, Nat.le_of_ble_eq_true rfl⟩ (Nat.le_of_ble_eq_true rfl) D_m_steps_105 ?_
        refine z_istore_10 D_m_steps_108 (Nat.le_of_ble_eq_true rfl) rfl ?_
        refine z_iload D_m_steps_110 rfl ?_
        refine z_if_lt (tgt := 121) D_m_steps_112 (by decide) (by omega) (fun q112 => ?_) (fun q112 => ?_)
        · refine z_aload_n D_m_steps_121 rfl ?_
          refine z_iload D_m_steps_122 rfl ?_
          refine z_iload_n D_m_steps_124 rfl ?_
          refine z_V2 (c0 := 12) (c_m_shadeOf hm (by omega) (by omega)) G_m_shadeOf I_m_shadeOf lk_m_197 (rfl) ⟨by decide, rfl⟩ ⟨Nat.le_of_ble_eq_true rfl, Nat.le_of_ble_eq_true rfl⟩ (Nat.le_of_ble_eq_true rfl) D_m_steps_125 ?_
          refine z_iload_n D_m_steps_128 rfl ?_
          refine z_icmp_ne (tgt := 148) D_m_steps_129 (by decide) (by omega) (by omega) (fun q129 => ?_) (fun q129 => ?_)
          · refine z_iconst D_m_steps_148 ?_
            refine z_istore_11 D_m_steps_149 (Nat.le_of_ble_eq_true rfl) rfl ?_
            refine z_iload D_m_steps_151 rfl ?_
            refine z_if_eq (tgt := 161) D_m_steps_153 (by decide) (by decide) (fun _ => ?_) (fun q => absurd q (by decide))
            refine z_iload D_m_steps_161 rfl ?_
            refine z_istore_5 D_m_steps_163 (Nat.le_of_ble_eq_true rfl) rfl ?_
            refine z_iload D_m_steps_165 rfl ?_
            refine z_if_eq (tgt := 175) D_m_steps_167 (by decide) (by decide) (fun _ => ?_) (fun q => absurd q (by decide))
            refine z_iload D_m_steps_175 rfl ?_
            refine z_istore_6 D_m_steps_177 (Nat.le_of_ble_eq_true rfl) rfl ?_
            refine z_iinc_7 D_m_steps_179 (Nat.le_of_ble_eq_true rfl) rfl ?_
            refine z_goto (tgt := 44) D_m_steps_182 (by decide) ?_
            first
            | (rw [hT (by omega)] at q; exact q _ _ _ _ ⟨rfl, rfl, rfl⟩ (by omega) (by omega))
            | (rw [hF (by omega)] at q; exact q _ _ _ _ ⟨rfl, rfl, rfl⟩ (by omega) (by omega))
          · refine z_iload D_m_steps_132 rfl ?_
            refine z_if_lt (tgt := 144) D_m_steps_134 (by decide) (by omega) (fun q134 => ?_) (fun q134 => ?_)
            · refine z_iconst D_m_steps_144 ?_
              refine z_goto (tgt := 149) D_m_steps_145 (by decide) ?_
              refine z_istore_11 D_m_steps_149 (Nat.le_of_ble_eq_true rfl) rfl ?_
              refine z_iload D_m_steps_151 rfl ?_
              refine z_if_eq (tgt := 161) D_m_steps_153 (by decide) (by decide) (fun q => absurd q (by decide)) (fun _ => ?_)
              refine z_iload D_m_steps_156 rfl ?_
              refine z_goto (tgt := 163) D_m_steps_158 (by decide) ?_
              refine z_istore_5 D_m_steps_163 (Nat.le_of_ble_eq_true rfl) rfl ?_
              refine z_iload D_m_steps_165 rfl ?_
              refine z_if_eq (tgt := 175) D_m_steps_167 (by decide) (by decide) (fun q => absurd q (by decide)) (fun _ => ?_)
              refine z_iload D_m_steps_170 rfl ?_
              refine z_goto (tgt := 177) D_m_steps_172 (by decide) ?_
              refine z_istore_6 D_m_steps_177 (Nat.le_of_ble_eq_true rfl) rfl ?_
              refine z_iinc_7 D_m_steps_179 (Nat.le_of_ble_eq_true rfl) rfl ?_
              refine z_goto (tgt := 44) D_m_steps_182 (by decide) ?_
              first
              | (rw [hT (by omega)] at q; exact q _ _ _ _ ⟨rfl, rfl, rfl⟩ (by omega) (by omega))
              | (rw [hF (by omega)] at q; exact q _ _ _ _ ⟨rfl, rfl, rfl⟩ (by omega) (by omega))
            · refine z_iload D_m_steps_137 rfl ?_
              refine z_iload D_m_steps_139 rfl ?_
              refine z_icmp_ge (tgt := 148) D_m_steps_141 (by decide) (by omega) (by omega) (fun q141 => ?_) (fun q141 => ?_)
              · refine z_iconst D_m_steps_148 ?_
                refine z_istore_11 D_m_steps_149 (Nat.le_of_ble_eq_true rfl) rfl ?_
                refine z_iload D_m_steps_151 rfl ?_
                refine z_if_eq (tgt := 161) D_m_steps_153 (by decide) (by decide) (fun _ => ?_) (fun q => absurd q (by decide))
                refine z_iload D_m_steps_161 rfl ?_
                refine z_istore_5 D_m_steps_163 (Nat.le_of_ble_eq_true rfl) rfl ?_
                refine z_iload D_m_steps_165 rfl ?_
                refine z_if_eq (tgt := 175) D_m_steps_167 (by decide) (by decide) (fun _ => ?_) (fun q => absurd q (by decide))
                refine z_iload D_m_steps_175 rfl ?_
                refine z_istore_6 D_m_steps_177 (Nat.le_of_ble_eq_true rfl) rfl ?_
                refine z_iinc_7 D_m_steps_179 (Nat.le_of_ble_eq_true rfl) rfl ?_
                refine z_goto (tgt := 44) D_m_steps_182 (by decide) ?_
                first
                | (rw [hT (by omega)] at q; exact q _ _ _ _ ⟨rfl, rfl, rfl⟩ (by omega) (by omega))
                | (rw [hF (by omega)] at q; exact q _ _ _ _ ⟨rfl, rfl, rfl⟩ (by omega) (by omega))
              · refine z_iconst D_m_steps_144 ?_
                refine z_goto (tgt := 149) D_m_steps_145 (by decide) ?_
                refine z_istore_11 D_m_steps_149 (Nat.le_of_ble_eq_true rfl) rfl ?_
                refine z_iload D_m_steps_151 rfl ?_
                refine z_if_eq (tgt := 161) D_m_steps_153 (by decide) (by decide) (fun q => absurd q (by decide)) (fun _ => ?_)
                refine z_iload D_m_steps_156 rfl ?_
                refine z_goto (tgt := 163) D_m_steps_158 (by decide) ?_
                refine z_istore_5 D_m_steps_163 (Nat.le_of_ble_eq_true rfl) rfl ?_
                refine z_iload D_m_steps_165 rfl ?_
                refine z_if_eq (tgt := 175) D_m_steps_167 (by decide) (by decide) (fun q => absurd q (by decide)) (fun _ => ?_)
                refine z_iload D_m_steps_170 rfl ?_
                refine z_goto (tgt := 177) D_m_steps_172 (by decide) ?_
                refine z_istore_6 D_m_steps_177 (Nat.le_of_ble_eq_true rfl) rfl ?_
                refine z_iinc_7 D_m_steps_179 (Nat.le_of_ble_eq_true rfl) rfl ?_
                refine z_goto (tgt := 44) D_m_steps_182 (by decide) ?_
                first
                | (rw [hT (by omega)] at q; exact q _ _ _ _ ⟨rfl, rfl, rfl⟩ (by omega) (by omega))
                | (rw [hF (by omega)] at q; exact q _ _ _ _ ⟨rfl, rfl, rfl⟩ (by omega) (by omega))
        · refine z_iload D_m_steps_115 rfl ?_
          refine z_iload_n D_m_steps_117 rfl ?_
          refine z_icmp_ne (tgt := 148) D_m_steps_118 (by decide) (by omega) (by omega) (fun q118 => ?_) (fun q118 => ?_)
          · refine z_iconst D_m_steps_148 ?_
            refine z_istore_11 D_m_steps_149 (Nat.le_of_ble_eq_true rfl) rfl ?_
            refine z_iload D_m_steps_151 rfl ?_
            refine z_if_eq (tgt := 161) D_m_steps_153 (by decide) (by decide) (fun _ => ?_) (fun q => absurd q (by decide))
            refine z_iload D_m_steps_161 rfl ?_
            refine z_istore_5 D_m_steps_163 (Nat.le_of_ble_eq_true rfl) rfl ?_
            refine z_iload D_m_steps_165 rfl ?_
            refine z_if_eq (tgt := 175) D_m_steps_167 (by decide) (by decide) (fun _ => ?_) (fun q => absurd q (by decide))
            refine z_iload D_m_steps_175 rfl ?_
            refine z_istore_6 D_m_steps_177 (Nat.le_of_ble_eq_true rfl) rfl ?_
            refine z_iinc_7 D_m_steps_179 (Nat.le_of_ble_eq_true rfl) rfl ?_
            refine z_goto (tgt := 44) D_m_steps_182 (by decide) ?_
            first
            | (rw [hT (by omega)] at q; exact q _ _ _ _ ⟨rfl, rfl, rfl⟩ (by omega) (by omega))
            | (rw [hF (by omega)] at q; exact q _ _ _ _ ⟨rfl, rfl, rfl⟩ (by omega) (by omega))
          · refine z_aload_n D_m_steps_121 rfl ?_
            refine z_iload D_m_steps_122 rfl ?_
            refine z_iload_n D_m_steps_124 rfl ?_
            refine z_V2 (c0 := 12) (c_m_shadeOf hm (by omega) (by omega)) G_m_shadeOf I_m_shadeOf lk_m_197 (rfl) ⟨by decide, rfl⟩ ⟨Nat.le_of_ble_eq_true rfl, Nat.le_of_ble_eq_true rfl⟩ (Nat.le_of_ble_eq_true rfl) D_m_steps_125 ?_
            refine z_iload_n D_m_steps_128 rfl ?_
            refine z_icmp_ne (tgt := 148) D_m_steps_129 (by decide) (by omega) (by omega) (fun q129 => ?_) (fun q129 => ?_)
            · refine z_iconst D_m_steps_148 ?_
              refine z_istore_11 D_m_steps_149 (Nat.le_of_ble_eq_true rfl) rfl ?_
              refine z_iload D_m_steps_151 rfl ?_
              refine z_if_eq (tgt := 161) D_m_steps_153 (by decide) (by decide) (fun _ => ?_) (fun q => absurd q (by decide))
              refine z_iload D_m_steps_161 rfl ?_
              refine z_istore_5 D_m_steps_163 (Nat.le_of_ble_eq_true rfl) rfl ?_
              refine z_iload D_m_steps_165 rfl ?_
              refine z_if_eq (tgt := 175) D_m_steps_167 (by decide) (by decide) (fun _ => ?_) (fun q => absurd q (by decide))
              refine z_iload D_m_steps_175 rfl ?_
              refine z_istore_6 D_m_steps_177 (Nat.le_of_ble_eq_true rfl) rfl ?_
              refine z_iinc_7 D_m_steps_179 (Nat.le_of_ble_eq_true rfl) rfl ?_
              refine z_goto (tgt := 44) D_m_steps_182 (by decide) ?_
              first
              | (rw [hT (by omega)] at q; exact q _ _ _ _ ⟨rfl, rfl, rfl⟩ (by omega) (by omega))
              | (rw [hF (by omega)] at q; exact q _ _ _ _ ⟨rfl, rfl, rfl⟩ (by omega) (by omega))
            · refine z_iload D_m_steps_132 rfl ?_
              refine z_if_lt (tgt := 144) D_m_steps_134 (by decide) (by omega) (fun q134 => ?_) (fun q134 => ?_)
              · refine z_iconst D_m_steps_144 ?_
                refine z_goto (tgt := 149) D_m_steps_145 (by decide) ?_
                refine z_istore_11 D_m_steps_149 (Nat.le_of_ble_eq_true rfl) rfl ?_
                refine z_iload D_m_steps_151 rfl ?_
                refine z_if_eq (tgt := 161) D_m_steps_153 (by decide) (by decide) (fun q => absurd q (by decide)) (fun _ => ?_)
                refine z_iload D_m_steps_156 rfl ?_
                refine z_goto (tgt := 163) D_m_steps_158 (by decide) ?_
                refine z_istore_5 D_m_steps_163 (Nat.le_of_ble_eq_true rfl) rfl ?_
                refine z_iload D_m_steps_165 rfl ?_
                refine z_if_eq (tgt := 175) D_m_steps_167 (by decide) (by decide) (fun q => absurd q (by decide)) (fun _ => ?_)
                refine z_iload D_m_steps_170 rfl ?_
                refine z_goto (tgt := 177) D_m_steps_172 (by decide) ?_
                refine z_istore_6 D_m_steps_177 (Nat.le_of_ble_eq_true rfl) rfl ?_
                refine z_iinc_7 D_m_steps_179 (Nat.le_of_ble_eq_true rfl) rfl ?_
                refine z_goto (tgt := 44) D_m_steps_182 (by decide) ?_
                first
                | (rw [hT (by omega)] at q; exact q _ _ _ _ ⟨rfl, rfl, rfl⟩ (by omega) (by omega))
                | (rw [hF (by omega)] at q; exact q _ _ _ _ ⟨rfl, rfl, rfl⟩ (by omega) (by omega))
              · refine z_iload D_m_steps_137 rfl ?_
                refine z_iload D_m_steps_139 rfl ?_
                refine z_icmp_ge (tgt := 148) D_m_steps_141 (by decide) (by omega) (by omega) (fun q141 => ?_) (fun q141 => ?_)
                · refine z_iconst D_m_steps_148 ?_
                  refine z_istore_11 D_m_steps_149 (Nat.le_of_ble_eq_true rfl) rfl ?_
                  refine z_iload D_m_steps_151 rfl ?_
                  refine z_if_eq (tgt := 161) D_m_steps_153 (by decide) (by decide) (fun _ => ?_) (fun q => absurd q (by decide))
                  refine z_iload D_m_steps_161 rfl ?_
                  refine z_istore_5 D_m_steps_163 (Nat.le_of_ble_eq_true rfl) rfl ?_
                  refine z_iload D_m_steps_165 rfl ?_
                  refine z_if_eq (tgt := 175) D_m_steps_167 (by decide) (by decide) (fun _ => ?_) (fun q => absurd q (by decide))
                  refine z_iload D_m_steps_175 rfl ?_
                  refine z_istore_6 D_m_steps_177 (Nat.le_of_ble_eq_true rfl) rfl ?_
                  refine z_iinc_7 D_m_steps_179 (Nat.le_of_ble_eq_true rfl) rfl ?_
                  refine z_goto (tgt := 44) D_m_steps_182 (by decide) ?_
                  first
                  | (rw [hT (by omega)] at q; exact q _ _ _ _ ⟨rfl, rfl, rfl⟩ (by omega) (by omega))
                  | (rw [hF (by omega)] at q; exact q _ _ _ _ ⟨rfl, rfl, rfl⟩ (by omega) (by omega))
                · refine z_iconst D_m_steps_144 ?_
                  refine z_goto (tgt := 149) D_m_steps_145 (by decide) ?_
                  refine z_istore_11 D_m_steps_149 (Nat.le_of_ble_eq_true rfl) rfl ?_
                  refine z_iload D_m_steps_151 rfl ?_
                  refine z_if_eq (tgt := 161) D_m_steps_153 (by decide) (by decide) (fun q => absurd q (by decide)) (fun _ => ?_)
                  refine z_iload D_m_steps_156 rfl ?_
                  refine z_goto (tgt := 163) D_m_steps_158 (by decide) ?_
                  refine z_istore_5 D_m_steps_163 (Nat.le_of_ble_eq_true rfl) rfl ?_
                  refine z_iload D_m_steps_165 rfl ?_
                  refine z_if_eq (tgt := 175) D_m_steps_167 (by decide) (by decide) (fun q => absurd q (by decide)) (fun _ => ?_)
                  refine z_iload D_m_steps_170 rfl ?_
                  refine z_goto (tgt := 177) D_m_steps_172 (by decide) ?_
                  refine z_istore_6 D_m_steps_177 (Nat.le_of_ble_eq_true rfl) rfl ?_
                  refine z_iinc_7 D_m_steps_179 (Nat.le_of_ble_eq_true rfl) rfl ?_
                  refine z_goto (tgt := 44) D_m_steps_182 (by decide) ?_
                  first
                  | (rw [hT (by omega)] at q; exact q _ _ _ _ ⟨rfl, rfl, rfl⟩ (by omega) (by omega))
                  | (rw [hF (by omega)] at q; exact q _ _ _ _ ⟨rfl, rfl, rfl⟩ (by omega) (by omega))
      · refine z_iload D_m_steps_88 rfl ?_
        refine z_goto (tgt := 100) D_m_steps_90 (by decide) ?_
        first
        | rw [← hway.2.2.2.trans (if_pos (by omega))]
        | rw [← hway.2.2.2.trans (if_neg (by omega))]
        refine z_istore_9 D_m_steps_100 (Nat.le_of_ble_eq_true rfl) rfl ?_
        refine z_aload_n D_m_steps_102 rfl ?_
        refine z_iload D_m_steps_103 rfl ?_
        refine z_V1 (c0 := 12) (c_m_whoHas hm (by omega)) G_m_whoHas I_m_whoHas lk_m_181 (rfl) ⟨by decide, rfl⟩ ⟨Nat.le_of_ble_eq_true rfl, Nat.le_of_ble_eq_true rfl⟩ (Nat.le_of_ble_eq_true rfl) D_m_steps_105 ?_
        refine z_istore_10 D_m_steps_108 (Nat.le_of_ble_eq_true rfl) rfl ?_
        refine z_iload D_m_steps_110 rfl ?_
        refine z_if_lt (tgt := 121) D_m_steps_112 (by decide) (by omega) (fun q112 => ?_) (fun q112 => ?_)
        · refine z_aload_n D_m_steps_121 rfl ?_
          refine z_iload D_m_steps_122 rfl ?_
          refine z_iload_n D_m_steps_124 rfl ?_
          refine z_V2 (c0 := 12) (c_m_shadeOf hm (by omega) (by omega)) G_m_shadeOf I_m_shadeOf lk_m_197 (rfl) ⟨by decide, rfl⟩ ⟨Nat.le_of_ble_eq_true rfl, Nat.le_of_ble_eq_true rfl⟩ (Nat.le_of_ble_eq_true rfl) D_m_steps_125 ?_
          refine z_iload_n D_m_steps_128 rfl ?_
          refine z_icmp_ne (tgt := 148) D_m_steps_129 (by decide) (by omega) (by omega) (fun q129 => ?_) (fun q129 => ?_)
          · refine z_iconst D_m_steps_148 ?_
            refine z_istore_11 D_m_steps_149 (Nat.le_of_ble_eq_true rfl) rfl ?_
            refine z_iload D_m_steps_151 rfl ?_
            refine z_if_eq (tgt := 161) D_m_steps_153 (by decide) (by decide) (fun _ => ?_) (fun q => absurd q (by decide))
            refine z_iload D_m_steps_161 rfl ?_
            refine z_istore_5 D_m_steps_163 (Nat.le_of_ble_eq_true rfl) rfl ?_
            refine z_iload D_m_steps_165 rfl ?_
            refine z_if_eq (tgt := 175) D_m_steps_167 (by decide) (by decide) (fun _ => ?_) (fun q => absurd q (by decide))
            refine z_iload D_m_steps_175 rfl ?_
            refine z_istore_6 D_m_steps_177 (Nat.le_of_ble_eq_true rfl) rfl ?_
            refine z_iinc_7 D_m_steps_179 (Nat.le_of_ble_eq_true rfl) rfl ?_
            refine z_goto (tgt := 44) D_m_steps_182 (by decide) ?_
            first
            | (rw [hT (by omega)] at q; exact q _ _ _ _ ⟨rfl, rfl, rfl⟩ (by omega) (by omega))
            | (rw [hF (by omega)] at q; exact q _ _ _ _ ⟨rfl, rfl, rfl⟩ (by omega) (by omega))
          · refine z_iload D_m_steps_132 rfl ?_
            refine z_if_lt (tgt := 144) D_m_steps_134 (by decide) (by omega) (fun q134 => ?_) (fun q134 => ?_)
            · refine z_iconst D_m_steps_144 ?_
              refine z_goto (tgt := 149) D_m_steps_145 (by decide) ?_
              refine z_istore_11 D_m_steps_149 (Nat.le_of_ble_eq_true rfl) rfl ?_
              refine z_iload D_m_steps_151 rfl ?_
              refine z_if_eq (tgt := 161) D_m_steps_153 (by decide) (by decide) (fun q => absurd q (by decide)) (fun _ => ?_)
              refine z_iload D_m_steps_156 rfl ?_
              refine z_goto (tgt := 163) D_m_steps_158 (by decide) ?_
              refine z_istore_5 D_m_steps_163 (Nat.le_of_ble_eq_true rfl) rfl ?_
              refine z_iload D_m_steps_165 rfl ?_
              refine z_if_eq (tgt := 175) D_m_steps_167 (by decide) (by decide) (fun q => absurd q (by decide)) (fun _ => ?_)
              refine z_iload D_m_steps_170 rfl ?_
              refine z_goto (tgt := 177) D_m_steps_172 (by decide) ?_
              refine z_istore_6 D_m_steps_177 (Nat.le_of_ble_eq_true rfl) rfl ?_
              refine z_iinc_7 D_m_steps_179 (Nat.le_of_ble_eq_true rfl) rfl ?_
              refine z_goto (tgt := 44) D_m_steps_182 (by decide) ?_
              first
              | (rw [hT (by omega)] at q; exact q _ _ _ _ ⟨rfl, rfl, rfl⟩ (by omega) (by omega))
              | (rw [hF (by omega)] at q; exact q _ _ _ _ ⟨rfl, rfl, rfl⟩ (by omega) (by omega))
            · refine z_iload D_m_steps_137 rfl ?_
              refine z_iload D_m_steps_139 rfl ?_
              refine z_icmp_ge (tgt := 148) D_m_steps_141 (by decide) (by omega) (by omega) (fun q141 => ?_) (fun q141 => ?_)
              · refine z_iconst D_m_steps_148 ?_
                refine z_istore_11 D_m_steps_149 (Nat.le_of_ble_eq_true rfl) rfl ?_
                refine z_iload D_m_steps_151 rfl ?_
                refine z_if_eq (tgt := 161) D_m_steps_153 (by decide) (by decide) (fun _ => ?_) (fun q => absurd q (by decide))
                refine z_iload D_m_steps_161 rfl ?_
                refine z_istore_5 D_m_steps_163 (Nat.le_of_ble_eq_true rfl) rfl ?_
                refine z_iload D_m_steps_165 rfl ?_
                refine z_if_eq (tgt := 175) D_m_steps_167 (by decide) (by decide) (fun _ => ?_) (fun q => absurd q (by decide))
                refine z_iload D_m_steps_175 rfl ?_
                refine z_istore_6 D_m_steps_177 (Nat.le_of_ble_eq_true rfl) rfl ?_
                refine z_iinc_7 D_m_steps_179 (Nat.le_of_ble_eq_true rfl) rfl ?_
                refine z_goto (tgt := 44) D_m_steps_182 (by decide) ?_
                first
                | (rw [hT (by omega)] at q; exact q _ _ _ _ ⟨rfl, rfl, rfl⟩ (by omega) (by omega))
                | (rw [hF (by omega)] at q; exact q _ _ _ _ ⟨rfl, rfl, rfl⟩ (by omega) (by omega))
              · refine z_iconst D_m_steps_144 ?_
                refine z_goto (tgt := 149) D_m_steps_145 (by decide) ?_
                refine z_istore_11 D_m_steps_149 (Nat.le_of_ble_eq_true rfl) rfl ?_
                refine z_iload D_m_steps_151 rfl ?_
                refine z_if_eq (tgt := 161) D_m_steps_153 (by decide) (by decide) (fun q => absurd q (by decide)) (fun _ => ?_)
                refine z_iload D_m_steps_156 rfl ?_
                refine z_goto (tgt := 163) D_m_steps_158 (by decide) ?_
                refine z_istore_5 D_m_steps_163 (Nat.le_of_ble_eq_true rfl) rfl ?_
                refine z_iload D_m_steps_165 rfl ?_
                refine z_if_eq (tgt := 175) D_m_steps_167 (by decide) (by decide) (fun q => absurd q (by decide)) (fun _ => ?_)
                refine z_iload D_m_steps_170 rfl ?_
                refine z_goto (tgt := 177) D_m_steps_172 (by decide) ?_
                refine z_istore_6 D_m_steps_177 (Nat.le_of_ble_eq_true rfl) rfl ?_
                refine z_iinc_7 D_m_steps_179 (Nat.le_of_ble_eq_true rfl) rfl ?_
                refine z_goto (tgt := 44) D_m_steps_182 (by decide) ?_
                first
                | (rw [hT (by omega)] at q; exact q _ _ _ _ ⟨rfl, rfl, rfl⟩ (by omega) (by omega))
                | (rw [hF (by omega)] at q; exact q _ _ _ _ ⟨rfl, rfl, rfl⟩ (by omega) (by omega))
        · refine z_iload D_m_steps_115 rfl ?_
          refine z_iload_n D_m_steps_117 rfl ?_
          refine z_icmp_ne (tgt := 148) D_m_steps_118 (by decide) (by omega) (by omega) (fun q118 => ?_) (fun q118 => ?_)
          · refine z_iconst D_m_steps_148 ?_
            refine z_istore_11 D_m_steps_149 (Nat.le_of_ble_eq_true rfl) rfl ?_
            refine z_iload D_m_steps_151 rfl ?_
            refine z_if_eq (tgt := 161) D_m_steps_153 (by decide) (by decide) (fun _ => ?_) (fun q => absurd q (by decide))
            refine z_iload D_m_steps_161 rfl ?_
            refine z_istore_5 D_m_steps_163 (Nat.le_of_ble_eq_true rfl) rfl ?_
            refine z_iload D_m_steps_165 rfl ?_
            refine z_if_eq (tgt := 175) D_m_steps_167 (by decide) (by decide) (fun _ => ?_) (fun q => absurd q (by decide))
            refine z_iload D_m_steps_175 rfl ?_
            refine z_istore_6 D_m_steps_177 (Nat.le_of_ble_eq_true rfl) rfl ?_
            refine z_iinc_7 D_m_steps_179 (Nat.le_of_ble_eq_true rfl) rfl ?_
            refine z_goto (tgt := 44) D_m_steps_182 (by decide) ?_
            first
            | (rw [hT (by omega)] at q; exact q _ _ _ _ ⟨rfl, rfl, rfl⟩ (by omega) (by omega))
            | (rw [hF (by omega)] at q; exact q _ _ _ _ ⟨rfl, rfl, rfl⟩ (by omega) (by omega))
          · refine z_aload_n D_m_steps_121 rfl ?_
            refine z_iload D_m_steps_122 rfl ?_
            refine z_iload_n D_m_steps_124 rfl ?_
            refine z_V2 (c0 := 12) (c_m_shadeOf hm (by omega) (by omega)) G_m_shadeOf I_m_shadeOf lk_m_197 (rfl) ⟨by decide, rfl⟩ ⟨Nat.le_of_ble_eq_true rfl, Nat.le_of_ble_eq_true rfl⟩ (Nat.le_of_ble_eq_true rfl) D_m_steps_125 ?_
            refine z_iload_n D_m_steps_128 rfl ?_
            refine z_icmp_ne (tgt := 148) D_m_steps_129 (by decide) (by omega) (by omega) (fun q129 => ?_) (fun q129 => ?_)
            · refine z_iconst D_m_steps_148 ?_
              refine z_istore_11 D_m_steps_149 (Nat.le_of_ble_eq_true rfl) rfl ?_
              refine z_iload D_m_steps_151 rfl ?_
              refine z_if_eq (tgt := 161) D_m_steps_153 (by decide) (by decide) (fun _ => ?_) (fun q => absurd q (by decide))
              refine z_iload D_m_steps_161 rfl ?_
              refine z_istore_5 D_m_steps_163 (Nat.le_of_ble_eq_true rfl) rfl ?_
              refine z_iload D_m_steps_165 rfl ?_
              refine z_if_eq (tgt := 175) D_m_steps_167 (by decide) (by decide) (fun _ => ?_) (fun q => absurd q (by decide))
              refine z_iload D_m_steps_175 rfl ?_
              refine z_istore_6 D_m_steps_177 (Nat.le_of_ble_eq_true rfl) rfl ?_
              refine z_iinc_7 D_m_steps_179 (Nat.le_of_ble_eq_true rfl) rfl ?_
              refine z_goto (tgt := 44) D_m_steps_182 (by decide) ?_
              first
              | (rw [hT (by omega)] at q; exact q _ _ _ _ ⟨rfl, rfl, rfl⟩ (by omega) (by omega))
              | (rw [hF (by omega)] at q; exact q _ _ _ _ ⟨rfl, rfl, rfl⟩ (by omega) (by omega))
            · refine z_iload D_m_steps_132 rfl ?_
              refine z_if_lt (tgt := 144) D_m_steps_134 (by decide) (by omega) (fun q134 => ?_) (fun q134 => ?_)
              · refine z_iconst D_m_steps_144 ?_
                refine z_goto (tgt := 149) D_m_steps_145 (by decide) ?_
                refine z_istore_11 D_m_steps_149 (Nat.le_of_ble_eq_true rfl) rfl ?_
                refine z_iload D_m_steps_151 rfl ?_
                refine z_if_eq (tgt := 161) D_m_steps_153 (by decide) (by decide) (fun q => absurd q (by decide)) (fun _ => ?_)
                refine z_iload D_m_steps_156 rfl ?_
                refine z_goto (tgt := 163) D_m_steps_158 (by decide) ?_
                refine z_istore_5 D_m_steps_163 (Nat.le_of_ble_eq_true rfl) rfl ?_
                refine z_iload D_m_steps_165 rfl ?_
                refine z_if_eq (tgt := 175) D_m_steps_167 (by decide) (by decide) (fun q => absurd q (by decide)) (fun _ => ?_)
                refine z_iload D_m_steps_170 rfl ?_
                refine z_goto (tgt := 177) D_m_steps_172 (by decide) ?_
                refine z_istore_6 D_m_steps_177 (Nat.le_of_ble_eq_true rfl) rfl ?_
                refine z_iinc_7 D_m_steps_179 (Nat.le_of_ble_eq_true rfl) rfl ?_
                refine z_goto (tgt := 44) D_m_steps_182 (by decide) ?_
                first
                | (rw [hT (by omega)] at q; exact q _ _ _ _ ⟨rfl, rfl, rfl⟩ (by omega) (by omega))
                | (rw [hF (by omega)] at q; exact q _ _ _ _ ⟨rfl, rfl, rfl⟩ (by omega) (by omega))
              · refine z_iload D_m_steps_137 rfl ?_
                refine z_iload D_m_steps_139 rfl ?_
                refine z_icmp_ge (tgt := 148) D_m_steps_141 (by decide) (by omega) (by omega) (fun q141 => ?_) (fun q141 => ?_)
                · refine z_iconst D_m_steps_148 ?_
                  refine z_istore_11 D_m_steps_149 (Nat.le_of_ble_eq_true rfl) rfl ?_
                  refine z_iload D_m_steps_151 rfl ?_
                  refine z_if_eq (tgt := 161) D_m_steps_153 (by decide) (by decide) (fun _ => ?_) (fun q => absurd q (by decide))
                  refine z_iload D_m_steps_161 rfl ?_
                  refine z_istore_5 D_m_steps_163 (Nat.le_of_ble_eq_true rfl) rfl ?_
                  refine z_iload D_m_steps_165 rfl ?_
                  refine z_if_eq (tgt := 175) D_m_steps_167 (by decide) (by decide) (fun _ => ?_) (fun q => absurd q (by decide))
                  refine z_iload D_m_steps_175 rfl ?_
                  refine z_istore_6 D_m_steps_177 (Nat.le_of_ble_eq_true rfl) rfl ?_
                  refine z_iinc_7 D_m_steps_179 (Nat.le_of_ble_eq_true rfl) rfl ?_
                  refine z_goto (tgt := 44) D_m_steps_182 (by decide) ?_
                  first
                  | (rw [hT (by omega)] at q; exact q _ _ _ _ ⟨rfl, rfl, rfl⟩ (by omega) (by omega))
                  | (rw [hF (by omega)] at q; exact q _ _ _ _ ⟨rfl, rfl, rfl⟩ (by omega) (by omega))
                · refine z_iconst D_m_steps_144 ?_
                  refine z_goto (tgt := 149) D_m_steps_145 (by decide) ?_
                  refine z_istore_11 D_m_steps_149 (Nat.le_of_ble_eq_true rfl) rfl ?_
                  refine z_iload D_m_steps_151 rfl ?_
                  refine z_if_eq (tgt := 161) D_m_steps_153 (by decide) (by decide) (fun q => absurd q (by decide)) (fun _ => ?_)
                  refine z_iload D_m_steps_156 rfl ?_
                  refine z_goto (tgt := 163) D_m_steps_158 (by decide) ?_
                  refine z_istore_5 D_m_steps_163 (Nat.le_of_ble_eq_true rfl) rfl ?_
                  refine z_iload D_m_steps_165 rfl ?_
                  refine z_if_eq (tgt := 175) D_m_steps_167 (by decide) (by decide) (fun q => absurd q (by decide)) (fun _ => ?_)
                  refine z_iload D_m_steps_170 rfl ?_
                  refine z_goto (tgt := 177) D_m_steps_172 (by decide) ?_
                  refine z_istore_6 D_m_steps_177 (Nat.le_of_ble_eq_true rfl) rfl ?_
                  refine z_iinc_7 D_m_steps_179 (Nat.le_of_ble_eq_true rfl) rfl ?_
                  refine z_goto (tgt := 44) D_m_steps_182 (by decide) ?_
                  first
                  | (rw [hT (by omega)] at q; exact q _ _ _ _ ⟨rfl, rfl, rfl⟩ (by omega) (by omega))
                  | (rw [hF (by omega)] at q; exact q _ _ _ _ ⟨rfl, rfl, rfl⟩ (by omega) (by omega))
theorem c_m_steps {h : zH} {p c v t : Int} (hm : MI h) (r_p : -2147483648 ≤ p ∧ p ≤ 2147483647) (r_c : -2147483648 ≤ c ∧ c ≤ 2147483647) (r_v : -2147483648 ≤ v ∧ v ≤ 2147483647) (r_t : -2147483648 ≤ t ∧ t ≤ 2147483647) : zC M_m_steps [vR 39, vI p, vI c, vI v, vI t] h (pV (vI (if ((0 ≤ p ∧ p < h 39 4) ∧ (0 ≤ c ∧ c ≤ 5) ∧ (1 ≤ v ∧ v ≤ 60) ∧ (0 ≤ t ∧ t ≤ 1)) then (if (spF (nm h) (gm h) (h 39 4) (h 39 0) p c v (h 39 0).toNat).1 < 0 ∨ t = 1 then (spF (nm h) (gm h) (h 39 4) (h 39 0) p c v (h 39 0).toNat).1 else (spF (nm h) (gm h) (h 39 4) (h 39 0) p c v (h 39 0).toNat).2) else -1)) h) := by
  refine zC.ofN 7 (by decide) (by first | decide | exact Nat.le_of_ble_eq_true rfl) ?_
  show Z M_m_steps _ 0 [vR 39, vI p, vI c, vI v, vI t, vU, vU, vU, vU, vU, vU, vU] [] h
  have hn := hm.hn
  have hnp := hm.hnp
  have ht := hm.row.ht
  have hh := hm.row.hh
  have hc := hm.row.hc
  unfold nm at ht hh hc
  refine z_aload_n D_m_steps_0 rfl ?_
  refine z_iload_n D_m_steps_1 rfl ?_
  refine z_V1 (c0 := 12) (c_m_isOne (by omega) (by omega)) G_m_isOne I_m_isOne lk_m_152 (rfl) ⟨by decide, rfl⟩ ⟨Nat.le_of_ble_eq_true rfl, Nat.le_of_ble_eq_true rfl⟩ (Nat.le_of_ble_eq_true rfl) D_m_steps_2 ?_
  refine z_ifeqB (tgt := 32) D_m_steps_5 (by decide) (fun q5 => ?_) (fun q5 => ?_)
  · refine z_iconst D_m_steps_32 ?_
    exact z_ireturn rfl D_m_steps_33 (pvI (by (repeat' split) <;> first | rfl | omega | (exfalso; omega)) rfl)
  · refine z_iload_n D_m_steps_8 rfl ?_
    refine z_S1 (c_m_isColour (by omega)) G_m_isColour S_m_isColour lk_m_200 ⟨Nat.le_of_ble_eq_true rfl, Nat.le_of_ble_eq_true rfl⟩ (Nat.le_of_ble_eq_true rfl) D_m_steps_9 ?_
    refine z_ifeqB (tgt := 32) D_m_steps_12 (by decide) (fun q12 => ?_) (fun q12 => ?_)
    · refine z_iconst D_m_steps_32 ?_
      exact z_ireturn rfl D_m_steps_33 (pvI (by (repeat' split) <;> first | rfl | omega | (exfalso; omega)) rfl)
    · refine z_iload_n D_m_steps_15 rfl ?_
      refine z_S1 (c_m_isSpeed (by omega)) G_m_isSpeed S_m_isSpeed lk_m_169 ⟨Nat.le_of_ble_eq_true rfl, Nat.le_of_ble_eq_true rfl⟩ (Nat.le_of_ble_eq_true rfl) D_m_steps_16 ?_
      refine z_ifeqB (tgt := 32) D_m_steps_19 (by decide) (fun q19 => ?_) (fun q19 => ?_)
      · refine z_iconst D_m_steps_32 ?_
        exact z_ireturn rfl D_m_steps_33 (pvI (by (repeat' split) <;> first | rfl | omega | (exfalso; omega)) rfl)
      · refine z_iload D_m_steps_22 rfl ?_
        refine z_iconst D_m_steps_24 ?_
        refine z_iconst D_m_steps_25 ?_
        refine z_S3 (c_m_in (by omega) (by omega) (by omega)) G_m_in S_m_in lk_m_69 ⟨Nat.le_of_ble_eq_true rfl, Nat.le_of_ble_eq_true rfl⟩ (Nat.le_of_ble_eq_true rfl) D_m_steps_26 ?_
        refine z_ifneB (tgt := 34) D_m_steps_29 (by decide) (fun q29 => ?_) (fun q29 => ?_)
        · refine z_bipush (by decide) D_m_steps_34 ?_
          refine z_istore_5 D_m_steps_36 (Nat.le_of_ble_eq_true rfl) rfl ?_
          refine z_iconst D_m_steps_38 ?_
          refine z_istore_6 D_m_steps_39 (Nat.le_of_ble_eq_true rfl) rfl ?_
          refine z_iconst D_m_steps_41 ?_
          refine z_istore_7 D_m_steps_42 (Nat.le_of_ble_eq_true rfl) rfl ?_
          rw [if_pos (by omega)]
          exact l_m_steps hm (by omega) (by omega) (by omega) (by omega) rfl (13 : Nat) 0 vU vU vU vU ⟨rfl, rfl, rfl⟩ (by omega) (by omega) (by omega)
        · refine z_iconst D_m_steps_32 ?_
          exact z_ireturn rfl D_m_steps_33 (pvI (by (repeat' split) <;> first | rfl | omega | (exfalso; omega)) rfl)

