/-! counting, searching -/
def sumF (f : Int → Int) : Nat → Int
  | 0 => 0
  | m + 1 => sumF f m + f m
def cntS (f : Int → Int) (c : Int) : Nat → Int
  | 0 => 0
  | m + 1 => cntS f c m + zb (f (m + 1) = c)
def lstU (b : Int → Bool) (a : Int) : Nat → Int → Int
  | 0, _ => a
  | k + 1, i => if b i then i else lstU b a k (i + 1)
def lstD (b : Int → Bool) : Nat → Int → Int
  | 0, a => a
  | k + 1, a => lstD b k (if b (k + 1) then k + 1 else a)
def lastF (b : Int → Bool) (a : Int) : Nat → Int
  | 0 => a
  | m + 1 => if b m then m else lastF b a m
def allF (b : Int → Bool) : Nat → Bool
  | 0 => true
  | m + 1 => allF b m && b m
theorem tn1 {i : Int} (h : 0 ≤ i) : (i + 1).toNat = i.toNat + 1 := by omega
theorem tn {i : Int} (h : 0 ≤ i) : (i.toNat : Int) = i := by omega
theorem sumF_1 {f : Int → Int} {i : Int} (h : 0 ≤ i) : sumF f (i + 1).toNat = sumF f i.toNat + f i := by rw [tn1 h]; simp only [sumF, tn h]
theorem cntS_1 {f : Int → Int} {c i : Int} (h : 1 ≤ i) : cntS f c (i + 1 - 1).toNat = cntS f c (i - 1).toNat + zb (f i = c) := by
  rw [show (i + 1 - 1).toNat = (i - 1).toNat + 1 by omega]
  simp only [cntS]
  rw [show ((i - 1).toNat : Int) + 1 = i by omega]
theorem lastF_1 {b : Int → Bool} {a i : Int} (h : 0 ≤ i) : lastF b a (i + 1).toNat = if b i then i else lastF b a i.toNat := by rw [tn1 h]; simp only [lastF, tn h]
theorem allF_1 {b : Int → Bool} {i : Int} (h : 0 ≤ i) : allF b (i + 1).toNat = (allF b i.toNat && b i) := by rw [tn1 h]; simp only [allF, tn h]
theorem allF_iff {b : Int → Bool} : ∀ {m : Nat}, allF b m = true ↔ ∀ j : Int, 0 ≤ j → j < m → b j = true
  | 0 => by simp only [allF, true_iff]; intro j h1 h2; omega
  | m + 1 => by
    simp only [allF, Bool.and_eq_true, allF_iff (m := m)]
    constructor
    · rintro ⟨h1, h2⟩ j h3 h4
      by_cases hj : j = m
      · rw [hj]; exact h2
      · exact h1 j h3 (by omega)
    · intro h1
      exact ⟨fun j h3 h4 => h1 j h3 (by omega), h1 m (by omega) (by omega)⟩
theorem allF_f {b : Int → Bool} {m i : Int} (h0 : 0 ≤ i) (h1 : i < m) (hb : b i = false) : allF b m.toNat = false := by
  cases h : allF b m.toNat with
  | false => rfl
  | true =>
    have := allF_iff.mp h i h0 (by omega)
    rw [hb] at this
    cases this
theorem lstU_last (b : Int → Bool) : ∀ (k : Nat) (a i : Int), lstU b a (k + 1) i = lstU b (if b (i + k) then i + k else a) k i
  | 0, a, i => by simp [lstU]
  | k + 1, a, i => by
    rw [lstU]
    conv => rhs; rw [lstU]
    by_cases h : b i = true
    · rw [if_pos h, if_pos h]
    · rw [if_neg h, if_neg h, lstU_last b k a (i + 1)]
      rw [show i + 1 + (k : Int) = i + ((k + 1 : Nat) : Int) by omega]
theorem lstD_U (b : Int → Bool) : ∀ (k : Nat) (a : Int), lstD b k a = lstU b a k 1
  | 0, a => rfl
  | k + 1, a => by
    rw [lstU_last, lstD, lstD_U b k]
    rw [show (1 : Int) + (k : Int) = (k : Int) + 1 by omega]
theorem lstU_in (b : Int → Bool) : ∀ (k : Nat) (a i : Int), lstU b a k i = a ∨ (i ≤ lstU b a k i ∧ lstU b a k i < i + k ∧ b (lstU b a k i) = true)
  | 0, a, i => Or.inl rfl
  | k + 1, a, i => by
    unfold lstU
    by_cases h : b i = true
    · rw [if_pos h]; right; exact ⟨by omega, by omega, h⟩
    · rw [if_neg h]
      rcases lstU_in b k a (i + 1) with q | q
      · exact Or.inl q
      · right; exact ⟨by omega, by omega, q.2.2⟩
theorem lstU_none (b : Int → Bool) : ∀ (k : Nat) (a i : Int), (∀ j, i ≤ j → j < i + k → b j = false) → lstU b a k i = a
  | 0, a, i, _ => rfl
  | k + 1, a, i, h => by
    unfold lstU
    rw [h i (by omega) (by omega)]
    exact lstU_none b k a (i + 1) (fun j h1 h2 => h j (by omega) (by omega))
theorem lstU_one (b : Int → Bool) : ∀ (k : Nat) (a i p : Int), i ≤ p → p < i + k → b p = true → (∀ j, i ≤ j → j < p → b j = false) → lstU b a k i = p
  | 0, a, i, p, h1, h2, _, _ => by omega
  | k + 1, a, i, p, h1, h2, h3, h4 => by
    unfold lstU
    by_cases hp : i = p
    · rw [hp, h3]; rfl
    · rw [h4 i (by omega) (by omega)]
      exact lstU_one b k a (i + 1) p (by omega) (by omega) h3 (fun j g1 g2 => h4 j (by omega) g2)
theorem lastF_none (b : Int → Bool) (a : Int) : ∀ (m : Nat), (∀ j : Int, 0 ≤ j → j < m → b j = false) → lastF b a m = a
  | 0, _ => rfl
  | m + 1, h => by
    unfold lastF
    rw [h m (by omega) (by omega)]
    exact lastF_none b a m (fun j h1 h2 => h j h1 (by omega))
theorem lastF_one (b : Int → Bool) (a p : Int) : ∀ (m : Nat), 0 ≤ p → p < m → b p = true → (∀ j : Int, 0 ≤ j → j < m → b j = true → j = p) → lastF b a m = p
  | 0, h1, h2, _, _ => by omega
  | m + 1, h1, h2, h3, h4 => by
    unfold lastF
    by_cases hm : b m = true
    · rw [if_pos hm]; exact h4 m (by omega) (by omega) hm
    · rw [if_neg hm]
      refine lastF_one b a p m h1 ?_ h3 (fun j g1 g2 => h4 j g1 (by omega))
      by_cases hp : p = m
      · rw [hp] at h3; exact absurd h3 hm
      · omega
/-- who is on a spot: first and last are one where no two are on one -/
def whoX (N : Int → Int) (np s : Int) : Int := lstU (fun p => N (4 + p) == s) (-1) np.toNat 0
def whoM (N : Int → Int) (np s : Int) : Int := lastF (fun p => N (4 + p) == s) (-9) np.toNat
theorem who_eq {n np : Int} {N : Int → Int} (h : RowOK n np N) (hnp : 0 ≤ np) (s : Int) : (whoX N np s = -1 ∧ whoM N np s = -9 ∧ ∀ p, 0 ≤ p → p < np → N (4 + p) ≠ s) ∨ (0 ≤ whoX N np s ∧ whoX N np s < np ∧ whoM N np s = whoX N np s ∧ N (4 + whoX N np s) = s) := by
  by_cases hp : ∃ p : Int, 0 ≤ p ∧ p < np ∧ N (4 + p) = s
  · obtain ⟨p, h0, h1, h2⟩ := hp
    right
    have hb : ∀ j : Int, 0 ≤ j → j < np → (N (4 + j) == s) = true → j = p := fun j g1 g2 g3 => h.hi g1 g2 h0 h1 (by rw [h2]; exact eq_of_beq g3)
    have e1 : whoX N np s = p := lstU_one _ _ _ _ p (by omega) (by omega) (by simp [h2]) (fun j g1 g2 => by
      cases hj : (N (4 + j) == s) with
      | false => rfl
      | true => have := hb j g1 (by omega) hj; omega)
    have e2 : whoM N np s = p := lastF_one _ _ p _ h0 (by omega) (by simp [h2]) (fun j g1 g2 g3 => hb j g1 (by omega) g3)
    rw [e1, e2]
    exact ⟨h0, h1, rfl, h2⟩
  · left
    have hn : ∀ p, 0 ≤ p → p < np → N (4 + p) ≠ s := fun p g1 g2 g3 => hp ⟨p, g1, g2, g3⟩
    have hb : ∀ j : Int, 0 ≤ j → j < np → (N (4 + j) == s) = false := fun j g1 g2 => by simp [hn j g1 g2]
    exact ⟨lstU_none _ _ _ _ (fun j g1 g2 => hb j g1 (by omega)), lastF_none _ _ _ (fun j g1 g2 => hb j g1 (by omega)), hn⟩
def zfill (h : zH) (a n : Nat) (x : Int) : zH := fun b j => if b = a ∧ j < n then x else h b j
theorem zfill_0 {h : zH} {a : Nat} {x : Int} : zfill h a 0 x = h := by funext b j; simp [zfill]
theorem zfill_1 {h : zH} {a : Nat} {x i : Int} (hi : 0 ≤ i) : zup (zfill h a i.toNat x) a i.toNat x = zfill h a (i + 1).toNat x := by
  funext b j
  unfold zup zfill
  by_cases hb : b = a
  · by_cases hj : j = i.toNat
    · rw [if_pos ⟨hb, hj⟩, if_pos ⟨hb, by omega⟩]
    · rw [if_neg (fun q => hj q.2)]
      by_cases hl : j < i.toNat
      · rw [if_pos ⟨hb, hl⟩, if_pos ⟨hb, by omega⟩]
      · rw [if_neg (fun q => hl q.2), if_neg (fun q => by omega)]
  · rw [if_neg (fun q => hb q.1), if_neg (fun q => hb q.1), if_neg (fun q => hb q.1)]
theorem l_j_fill {h : zH} {a n : Nat} {x : Int} (hk : zks a = (100, n)) (hn : n ≤ 2000) : ∀ (k : Nat) (i : Int), 0 ≤ i → i ≤ (n : Int) → (n : Int) - i < k → Z M_j_fill (p0 (zfill h a n x)) 5 [vR a, vI x, vI i, vI (n : Int)] [] (zfill h a i.toNat x) := by
  intro k
  induction k with
  | zero => intro i h0 h1 h2; omega
  | succ k ih =>
    intro i h0 h1 h2
    refine z_iload_n D_j_fill_5 rfl ?_
    refine z_iload_n D_j_fill_6 rfl ?_
    refine z_icmp_ge (tgt := 20) D_j_fill_7 (by decide) (by omega) (by omega) (fun q7 => ?_) (fun q7 => ?_)
    · exact z_return rfl D_j_fill_20 (pv0 (by rw [show i.toNat = n by omega]))
    · refine z_aload_n D_j_fill_10 rfl ?_
      refine z_iload_n D_j_fill_11 rfl ?_
      refine z_iload_n D_j_fill_12 rfl ?_
      refine z_iast (n := n) (hk) (by omega) D_j_fill_13 ?_
      refine z_iinc_2 D_j_fill_14 (Nat.le_of_ble_eq_true rfl) rfl ?_
      refine z_goto (tgt := 5) D_j_fill_17 (by decide) ?_
      rw [zfill_1 h0]
      exact ih (i + 1) (by omega) (by omega) (by omega)
theorem c_j_fill {h : zH} {a n : Nat} {x : Int} (hk : zks a = (100, n)) (hn : n ≤ 2000) : zC M_j_fill [vR a, vI x] h (p0 (zfill h a n x)) := by
  refine zC.ofF 2 (by decide +kernel) (by first | decide | exact Nat.le_of_ble_eq_true rfl) ?_
  show Z M_j_fill _ 0 [vR a, vI x, vU, vU] [] h
  refine z_iconst D_j_fill_0 ?_
  refine z_istore_2 D_j_fill_1 (Nat.le_of_ble_eq_true rfl) rfl ?_
  refine z_aload_n D_j_fill_2 rfl ?_
  refine z_alen (n := n) (hk) (by decide) D_j_fill_3 ?_
  refine z_istore_3 D_j_fill_4 (Nat.le_of_ble_eq_true rfl) rfl ?_
  have q := l_j_fill (h := h) (x := x) hk hn (n + 1) 0 (by omega) (by omega) (by omega)
  rw [show (0 : Int).toNat = 0 from rfl, zfill_0] at q
  exact q

theorem l_x_whoIsOn {h : zH} {w : Nat} {s : Int} (hx : XI h w) (hs : -2147483648 ≤ s ∧ s ≤ 2147483647) : ∀ (k : Nat) (i : Int), 0 ≤ i → i ≤ h w 4 → h w 4 - i < k → Z M_x_whoIsOn (pV (vI (lstU (fun p => nw h (4 + p) == s) (-1) (h w 4 - i).toNat i)) h) 2 [vR 0, vI s, vI i] [] (h) := by
  intro k
  induction k with
  | zero => intro i h0 h1 h2; omega
  | succ k ih =>
    intro i h0 h1 h2
    have hw := hx.2.1
    have hu := hx.2.2.1
    have hn := hx.2.2.2.hn
    have hnp := hx.2.2.2.hnp
    have ht := hx.2.2.2.row.ht
    have hh := hx.2.2.2.row.hh
    have hc := hx.2.2.2.row.hc
    have e : i < h w 4 → lstU (fun p => nw h (4 + p) == s) (-1) (h w 4 - i).toNat i = if nw h (4 + i) == s then i else lstU (fun p => nw h (4 + p) == s) (-1) (h w 4 - (i + 1)).toNat (i + 1) := fun hi => by
      rw [show (h w 4 - i).toNat = (h w 4 - (i + 1)).toNat + 1 by omega]
      rfl
    refine z_iload_n D_x_whoIsOn_2 rfl ?_
    refine z_aload_n D_x_whoIsOn_3 rfl ?_
    refine z_getW fl_x_19 (by decide) hx.1 D_x_whoIsOn_4 ?_
    refine z_getI fl_x_177 (kw hw) rfl D_x_whoIsOn_7 ?_
    refine z_icmp_ge (tgt := 35) D_x_whoIsOn_10 (by decide) (by omega) (by omega) (fun q10 => ?_) (fun q10 => ?_)
    · refine z_iconst D_x_whoIsOn_35 ?_
      exact z_ireturn rfl D_x_whoIsOn_36 (pvI (by rw [show (h w 4 - i).toNat = 0 by omega]; rfl) rfl)
    · refine z_aload_n D_x_whoIsOn_13 rfl ?_
      refine z_getR (q := 11) fl_x_29 (rfl) rfl (rfl) D_x_whoIsOn_14 ?_
      refine z_iconst D_x_whoIsOn_17 ?_
      refine z_iload_n D_x_whoIsOn_18 rfl ?_
      refine z_iadd D_x_whoIsOn_19 ?_
      refine z_V1 (c0 := 5) (c_d_value hu (by omega)) G_d_value I_d_value lk_x_131 (rfl) ⟨by decide, rfl⟩ ⟨Nat.le_of_ble_eq_true rfl, Nat.le_of_ble_eq_true rfl⟩ (Nat.le_of_ble_eq_true rfl) D_x_whoIsOn_20 ?_
      refine z_iload_n D_x_whoIsOn_23 rfl ?_
      refine z_icmp_ne (tgt := 29) D_x_whoIsOn_24 (by decide) (by have := hx.2.2.2.row.hs h0 (by omega); omega) (by omega) (fun q24 => ?_) (fun q24 => ?_)
      · refine z_iinc_2 D_x_whoIsOn_29 (Nat.le_of_ble_eq_true rfl) rfl ?_
        refine z_goto (tgt := 2) D_x_whoIsOn_32 (by decide) ?_
        rw [e q10, if_neg (by simp [q24])]
        exact ih (i + 1) (by omega) (by omega) (by omega)
      · refine z_iload_n D_x_whoIsOn_27 rfl ?_
        exact z_ireturn rfl D_x_whoIsOn_28 (pvI (by rw [e q10, if_pos (by simp [q24])]) rfl)
theorem c_x_whoIsOn {h : zH} {w : Nat} {s : Int} (hx : XI h w) (hs : -2147483648 ≤ s ∧ s ≤ 2147483647) : zC M_x_whoIsOn [vR 0, vI s] h (pV (vI (whoX (nw h) (h w 4) s)) h) := by
  refine zC.ofN 1 (by decide) (by first | decide | exact Nat.le_of_ble_eq_true rfl) ?_
  show Z M_x_whoIsOn _ 0 [vR 0, vI s, vU] [] h
  refine z_iconst D_x_whoIsOn_0 ?_
  refine z_istore_2 D_x_whoIsOn_1 (Nat.le_of_ble_eq_true rfl) rfl ?_
  have hnp := hx.2.2.2.hnp
  have q := l_x_whoIsOn hx hs (7 : Nat) 0 (by omega) (by omega) (by omega)
  rw [Int.sub_zero] at q
  exact q

theorem l_m_whoHas {h : zH} {s : Int} (hm : MI h) (hs : -2147483648 ≤ s ∧ s ≤ 2147483647) : ∀ (k : Nat) (i : Int), 0 ≤ i → i ≤ h 39 4 → h 39 4 - i < k → Z M_m_whoHas (pV (vI (whoM (nm h) (h 39 4) s)) h) 5 [vR 39, vI s, vI (lastF (fun p => nm h (4 + p) == s) (-9) i.toNat), vI i] [] h := by
  intro k
  induction k with
  | zero => intro i h0 h1 h2; omega
  | succ k ih =>
    intro i h0 h1 h2
    have hn := hm.hn
    have hnp := hm.hnp
    have e := lastF_1 (b := fun p => nm h (4 + p) == s) (a := -9) h0
    refine z_iload_n D_m_whoHas_5 rfl ?_
    refine z_aload_n D_m_whoHas_6 rfl ?_
    refine z_getI fl_m_66 (rfl) rfl D_m_whoHas_7 ?_
    refine z_icmp_ge (tgt := 37) D_m_whoHas_10 (by decide) (by omega) (by omega) (fun q10 => ?_) (fun q10 => ?_)
    · refine z_iload_n D_m_whoHas_37 rfl ?_
      exact z_ireturn rfl D_m_whoHas_38 (pvI (by rw [show i = h 39 4 by omega]; rfl) rfl)
    · refine z_aload_n D_m_whoHas_13 rfl ?_
      refine z_getR (q := 42) fl_m_23 (rfl) rfl (rfl) D_m_whoHas_14 ?_
      refine z_iconst D_m_whoHas_17 ?_
      refine z_iload_n D_m_whoHas_18 rfl ?_
      refine z_iadd D_m_whoHas_19 ?_
      refine z_iald (n := 573) (rfl) (by omega) D_m_whoHas_20 ?_
      refine z_iload_n D_m_whoHas_21 rfl ?_
      refine z_icmp_ne (tgt := 29) D_m_whoHas_22 (by decide) (by have := hm.row.hs h0 (by omega); unfold nm at this; omega) (by omega) (fun q22 => ?_) (fun q22 => ?_)
      · refine z_iload_n D_m_whoHas_29 rfl ?_
        refine z_istore_2 D_m_whoHas_30 (Nat.le_of_ble_eq_true rfl) rfl ?_
        refine z_iinc_3 D_m_whoHas_31 (Nat.le_of_ble_eq_true rfl) rfl ?_
        refine z_goto (tgt := 5) D_m_whoHas_34 (by decide) ?_
        have q := ih (i + 1) (by omega) (by omega) (by omega)
        rw [e] at q
        rw [if_neg (by simpa [nm] using q22)] at q
        exact q
      · refine z_iload_n D_m_whoHas_25 rfl ?_
        refine z_goto (tgt := 30) D_m_whoHas_26 (by decide) ?_
        refine z_istore_2 D_m_whoHas_30 (Nat.le_of_ble_eq_true rfl) rfl ?_
        refine z_iinc_3 D_m_whoHas_31 (Nat.le_of_ble_eq_true rfl) rfl ?_
        refine z_goto (tgt := 5) D_m_whoHas_34 (by decide) ?_
        have q := ih (i + 1) (by omega) (by omega) (by omega)
        rw [e] at q
        rw [if_pos (by simpa [nm] using q22)] at q
        exact q
theorem c_m_whoHas {h : zH} {s : Int} (hm : MI h) (hs : -2147483648 ≤ s ∧ s ≤ 2147483647) : zC M_m_whoHas [vR 39, vI s] h (pV (vI (whoM (nm h) (h 39 4) s)) h) := by
  refine zC.ofN 2 (by decide) (by first | decide | exact Nat.le_of_ble_eq_true rfl) ?_
  show Z M_m_whoHas _ 0 [vR 39, vI s, vU, vU] [] h
  refine z_bipush (by decide) D_m_whoHas_0 ?_
  refine z_istore_2 D_m_whoHas_2 (Nat.le_of_ble_eq_true rfl) rfl ?_
  refine z_iconst D_m_whoHas_3 ?_
  refine z_istore_3 D_m_whoHas_4 (Nat.le_of_ble_eq_true rfl) rfl ?_
  have hnp := hm.hnp
  exact l_m_whoHas hm hs (7 : Nat) 0 (by omega) (by omega) (by omega)

def owF (N : Int → Int) (p q : Int) : Int := N (16 + p * 6 + q)
theorem l_x_owedByAll {h : zH} {w : Nat} {p : Int} (hx : XI h w) (hp : 0 ≤ p ∧ p < 6) : ∀ (k : Nat) (i : Int), 0 ≤ i → i ≤ h w 4 → h w 4 - i < k → Z M_x_owedByAll (pV (vI (sumF (owF (nw h) p) (h w 4).toNat)) h) 4 [vR 0, vI p, vI (sumF (owF (nw h) p) i.toNat), vI i] [] (h) := by
  intro k
  induction k with
  | zero => intro i h0 h1 h2; omega
  | succ k ih =>
    intro i h0 h1 h2
    have hw := hx.2.1
    have hu := hx.2.2.1
    have hn := hx.2.2.2.hn
    have hnp := hx.2.2.2.hnp
    have ht := hx.2.2.2.row.ht
    have hh := hx.2.2.2.row.hh
    have hc := hx.2.2.2.row.hc
    refine z_iload_n D_x_owedByAll_4 rfl ?_
    refine z_aload_n D_x_owedByAll_5 rfl ?_
    refine z_getW fl_x_19 (by decide) hx.1 D_x_owedByAll_6 ?_
    refine z_getI fl_x_177 (kw hw) rfl D_x_owedByAll_9 ?_
    refine z_icmp_ge (tgt := 36) D_x_owedByAll_12 (by decide) (by omega) (by omega) (fun q12 => ?_) (fun q12 => ?_)
    · refine z_iload_n D_x_owedByAll_36 rfl ?_
      exact z_ireturn rfl D_x_owedByAll_37 (pvI (by rw [show i = h w 4 by omega]) rfl)
    · refine z_iload_n D_x_owedByAll_15 rfl ?_
      refine z_aload_n D_x_owedByAll_16 rfl ?_
      refine z_getR (q := 11) fl_x_29 (rfl) rfl (rfl) D_x_owedByAll_17 ?_
      refine z_iload_n D_x_owedByAll_20 rfl ?_
      refine z_iload_n D_x_owedByAll_21 rfl ?_
      refine z_S2 (c_d_debt) G_d_debt S_d_debt lk_x_148 ⟨Nat.le_of_ble_eq_true rfl, Nat.le_of_ble_eq_true rfl⟩ (Nat.le_of_ble_eq_true rfl) D_x_owedByAll_22 ?_
      refine z_V1 (c0 := 5) (c_d_value hu (by omega)) G_d_value I_d_value lk_x_131 (rfl) ⟨by decide, rfl⟩ ⟨Nat.le_of_ble_eq_true rfl, Nat.le_of_ble_eq_true rfl⟩ (Nat.le_of_ble_eq_true rfl) D_x_owedByAll_25 ?_
      refine z_iadd D_x_owedByAll_28 ?_
      refine z_istore_2 D_x_owedByAll_29 (Nat.le_of_ble_eq_true rfl) rfl ?_
      refine z_iinc_3 D_x_owedByAll_30 (Nat.le_of_ble_eq_true rfl) rfl ?_
      refine z_goto (tgt := 4) D_x_owedByAll_33 (by decide) ?_
      have q := ih (i + 1) (by omega) (by omega) (by omega)
      rw [sumF_1 h0] at q
      exact q
theorem c_x_owedByAll {h : zH} {w : Nat} {p : Int} (hx : XI h w) (hp : 0 ≤ p ∧ p < 6) : zC M_x_owedByAll [vR 0, vI p] h (pV (vI (sumF (owF (nw h) p) (h w 4).toNat)) h) := by
  refine zC.ofN 2 (by decide) (by first | decide | exact Nat.le_of_ble_eq_true rfl) ?_
  show Z M_x_owedByAll _ 0 [vR 0, vI p, vU, vU] [] h
  refine z_iconst D_x_owedByAll_0 ?_
  refine z_istore_2 D_x_owedByAll_1 (Nat.le_of_ble_eq_true rfl) rfl ?_
  refine z_iconst D_x_owedByAll_2 ?_
  refine z_istore_3 D_x_owedByAll_3 (Nat.le_of_ble_eq_true rfl) rfl ?_
  have hnp := hx.2.2.2.hnp
  exact l_x_owedByAll hx hp (7 : Nat) 0 (by omega) (by omega) (by omega)

theorem l_m_owedAll {h : zH} {p : Int} (hm : MI h) (hp : 0 ≤ p ∧ p < 6) : ∀ (k : Nat) (i : Int), 0 ≤ i → i ≤ h 39 4 → h 39 4 - i < k → Z M_m_owedAll (pV (vI (sumF (owF (nm h) p) (h 39 4).toNat)) h) 4 [vR 39, vI p, vI (sumF (owF (nm h) p) i.toNat), vI i] [] (h) := by
  intro k
  induction k with
  | zero => intro i h0 h1 h2; omega
  | succ k ih =>
    intro i h0 h1 h2
    have hn := hm.hn
    have hnp := hm.hnp
    have ht := hm.row.ht
    have hh := hm.row.hh
    have hc := hm.row.hc
    unfold nm at ht hh hc
    refine z_iload_n D_m_owedAll_4 rfl ?_
    refine z_aload_n D_m_owedAll_5 rfl ?_
    refine z_getI fl_m_66 (rfl) rfl D_m_owedAll_6 ?_
    refine z_icmp_ge (tgt := 35) D_m_owedAll_9 (by decide) (by omega) (by omega) (fun q9 => ?_) (fun q9 => ?_)
    · refine z_iload_n D_m_owedAll_35 rfl ?_
      exact z_ireturn rfl D_m_owedAll_36 (pvI (by rw [show i = h 39 4 by omega]) rfl)
    · refine z_iload_n D_m_owedAll_12 rfl ?_
      refine z_aload_n D_m_owedAll_13 rfl ?_
      refine z_getR (q := 42) fl_m_23 (rfl) rfl (rfl) D_m_owedAll_14 ?_
      refine z_bipush (by decide) D_m_owedAll_17 ?_
      refine z_bipush (by decide) D_m_owedAll_19 ?_
      refine z_iload_n D_m_owedAll_21 rfl ?_
      refine z_imul D_m_owedAll_22 ?_
      refine z_iadd D_m_owedAll_23 ?_
      refine z_iload_n D_m_owedAll_24 rfl ?_
      refine z_iadd D_m_owedAll_25 ?_
      refine z_iald (n := 573) (rfl) (by omega) D_m_owedAll_26 ?_
      refine z_iadd D_m_owedAll_27 ?_
      refine z_istore_2 D_m_owedAll_28 (Nat.le_of_ble_eq_true rfl) rfl ?_
      refine z_iinc_3 D_m_owedAll_29 (Nat.le_of_ble_eq_true rfl) rfl ?_
      refine z_goto (tgt := 4) D_m_owedAll_32 (by decide) ?_
      have q := ih (i + 1) (by omega) (by omega) (by omega)
      have e : owF (nm h) p i = h 42 (16 + 6 * p + i).toNat := by unfold owF nm; rw [Int.mul_comm]
      rw [sumF_1 h0, e] at q
      exact q
theorem c_m_owedAll {h : zH} {p : Int} (hm : MI h) (hp : 0 ≤ p ∧ p < 6) : zC M_m_owedAll [vR 39, vI p] h (pV (vI (sumF (owF (nm h) p) (h 39 4).toNat)) h) := by
  refine zC.ofN 2 (by decide) (by first | decide | exact Nat.le_of_ble_eq_true rfl) ?_
  show Z M_m_owedAll _ 0 [vR 39, vI p, vU, vU] [] h
  refine z_iconst D_m_owedAll_0 ?_
  refine z_istore_2 D_m_owedAll_1 (Nat.le_of_ble_eq_true rfl) rfl ?_
  refine z_iconst D_m_owedAll_2 ?_
  refine z_istore_3 D_m_owedAll_3 (Nat.le_of_ble_eq_true rfl) rfl ?_
  have hnp := hm.hnp
  exact l_m_owedAll hm hp (7 : Nat) 0 (by omega) (by omega) (by omega)

theorem l_x_owedInAll {h : zH} {w : Nat} (hx : XI h w) : ∀ (k : Nat) (i : Int), 0 ≤ i → i ≤ h w 4 → h w 4 - i < k → Z M_x_owedInAll (pV (vI (sumF (fun p => sumF (owF (nw h) p) (h w 4).toNat) (h w 4).toNat)) h) 4 [vR 0, vI (sumF (fun p => sumF (owF (nw h) p) (h w 4).toNat) i.toNat), vI i] [] (h) := by
  intro k
  induction k with
  | zero => intro i h0 h1 h2; omega
  | succ k ih =>
    intro i h0 h1 h2
    have hw := hx.2.1
    have hu := hx.2.2.1
    have hn := hx.2.2.2.hn
    have hnp := hx.2.2.2.hnp
    have ht := hx.2.2.2.row.ht
    have hh := hx.2.2.2.row.hh
    have hc := hx.2.2.2.row.hc
    refine z_iload_n D_x_owedInAll_4 rfl ?_
    refine z_aload_n D_x_owedInAll_5 rfl ?_
    refine z_getW fl_x_19 (by decide) hx.1 D_x_owedInAll_6 ?_
    refine z_getI fl_x_177 (kw hw) rfl D_x_owedInAll_9 ?_
    refine z_icmp_ge (tgt := 29) D_x_owedInAll_12 (by decide) (by omega) (by omega) (fun q12 => ?_) (fun q12 => ?_)
    · refine z_iload_n D_x_owedInAll_29 rfl ?_
      exact z_ireturn rfl D_x_owedInAll_30 (pvI (by rw [show i = h w 4 by omega]) rfl)
    · refine z_iload_n D_x_owedInAll_15 rfl ?_
      refine z_aload_n D_x_owedInAll_16 rfl ?_
      refine z_iload_n D_x_owedInAll_17 rfl ?_
      refine z_V1 (c0 := 11) (c_x_owedByAll hx (by omega)) G_x_owedByAll I_x_owedByAll lk_x_141 (rfl) ⟨by decide, rfl⟩ ⟨Nat.le_of_ble_eq_true rfl, Nat.le_of_ble_eq_true rfl⟩ (Nat.le_of_ble_eq_true rfl) D_x_owedInAll_18 ?_
      refine z_iadd D_x_owedInAll_21 ?_
      refine z_istore_1 D_x_owedInAll_22 (Nat.le_of_ble_eq_true rfl) rfl ?_
      refine z_iinc_2 D_x_owedInAll_23 (Nat.le_of_ble_eq_true rfl) rfl ?_
      refine z_goto (tgt := 4) D_x_owedInAll_26 (by decide) ?_
      have q := ih (i + 1) (by omega) (by omega) (by omega)
      rw [sumF_1 h0] at q
      exact q
theorem c_x_owedInAll {h : zH} {w : Nat} (hx : XI h w) : zC M_x_owedInAll [vR 0] h (pV (vI (sumF (fun p => sumF (owF (nw h) p) (h w 4).toNat) (h w 4).toNat)) h) := by
  refine zC.ofN 2 (by decide) (by first | decide | exact Nat.le_of_ble_eq_true rfl) ?_
  show Z M_x_owedInAll _ 0 [vR 0, vU, vU] [] h
  refine z_iconst D_x_owedInAll_0 ?_
  refine z_istore_1 D_x_owedInAll_1 (Nat.le_of_ble_eq_true rfl) rfl ?_
  refine z_iconst D_x_owedInAll_2 ?_
  refine z_istore_2 D_x_owedInAll_3 (Nat.le_of_ble_eq_true rfl) rfl ?_
  have hnp := hx.2.2.2.hnp
  exact l_x_owedInAll hx (7 : Nat) 0 (by omega) (by omega) (by omega)

theorem c_x_areTwo {h : zH} {w : Nat} {p q : Int} (hx : XI h w) (r_p : -2147483648 ≤ p ∧ p ≤ 2147483647) (r_q : -2147483648 ≤ q ∧ q ≤ 2147483647) : zC M_x_areTwo [vR 0, vI p, vI q] h (pV (vI (zb (p ≠ q ∧ (0 ≤ p ∧ p < h w 4) ∧ (0 ≤ q ∧ q < h w 4)))) h) := by
  refine zC.ofN 0 (by decide) (by first | decide | exact Nat.le_of_ble_eq_true rfl) ?_
  show Z M_x_areTwo _ 0 [vR 0, vI p, vI q] [] h
  have hw := hx.2.1
  have hu := hx.2.2.1
  have hn := hx.2.2.2.hn
  have hnp := hx.2.2.2.hnp
  have ht := hx.2.2.2.row.ht
  have hh := hx.2.2.2.row.hh
  have hc := hx.2.2.2.row.hc
  refine z_iload_n D_x_areTwo_0 rfl ?_
  refine z_iload_n D_x_areTwo_1 rfl ?_
  refine z_icmp_eq (tgt := 31) D_x_areTwo_2 (by decide) (by omega) (by omega) (fun q2 => ?_) (fun q2 => ?_)
  · refine z_iconst D_x_areTwo_31 ?_
    exact z_zreturn rfl (by first | exact Or.inl rfl | exact Or.inr rfl | exact zb_01 _) D_x_areTwo_32 (pvI (by first | exact (zb_t (by omega)).symm | exact (zb_f (by omega)).symm) rfl)
  · refine z_aload_n D_x_areTwo_5 rfl ?_
    refine z_getW fl_x_19 (by decide) hx.1 D_x_areTwo_6 ?_
    refine z_iload_n D_x_areTwo_9 rfl ?_
    refine z_V1 (c0 := 10) (c_w_hasPerson hw hnp (by omega)) G_w_hasPerson I_w_hasPerson lk_x_128 (kw hw) ⟨by decide, rfl⟩ ⟨Nat.le_of_ble_eq_true rfl, Nat.le_of_ble_eq_true rfl⟩ (Nat.le_of_ble_eq_true rfl) D_x_areTwo_10 ?_
    refine z_ifeqB (tgt := 31) D_x_areTwo_13 (by decide) (fun q13 => ?_) (fun q13 => ?_)
    · refine z_iconst D_x_areTwo_31 ?_
      exact z_zreturn rfl (by first | exact Or.inl rfl | exact Or.inr rfl | exact zb_01 _) D_x_areTwo_32 (pvI (by first | exact (zb_t (by omega)).symm | exact (zb_f (by omega)).symm) rfl)
    · refine z_aload_n D_x_areTwo_16 rfl ?_
      refine z_getW fl_x_19 (by decide) hx.1 D_x_areTwo_17 ?_
      refine z_iload_n D_x_areTwo_20 rfl ?_
      refine z_V1 (c0 := 10) (c_w_hasPerson hw hnp (by omega)) G_w_hasPerson I_w_hasPerson lk_x_128 (kw hw) ⟨by decide, rfl⟩ ⟨Nat.le_of_ble_eq_true rfl, Nat.le_of_ble_eq_true rfl⟩ (Nat.le_of_ble_eq_true rfl) D_x_areTwo_21 ?_
      refine z_ifeqB (tgt := 31) D_x_areTwo_24 (by decide) (fun q24 => ?_) (fun q24 => ?_)
      · refine z_iconst D_x_areTwo_31 ?_
        exact z_zreturn rfl (by first | exact Or.inl rfl | exact Or.inr rfl | exact zb_01 _) D_x_areTwo_32 (pvI (by first | exact (zb_t (by omega)).symm | exact (zb_f (by omega)).symm) rfl)
      · refine z_iconst D_x_areTwo_27 ?_
        refine z_goto (tgt := 32) D_x_areTwo_28 (by decide) ?_
        exact z_zreturn rfl (by first | exact Or.inl rfl | exact Or.inr rfl | exact zb_01 _) D_x_areTwo_32 (pvI (by first | exact (zb_t (by omega)).symm | exact (zb_f (by omega)).symm) rfl)

theorem c_m_areTwo {h : zH} {p q : Int} (hm : MI h) (r_p : -2147483648 ≤ p ∧ p ≤ 2147483647) (r_q : -2147483648 ≤ q ∧ q ≤ 2147483647) : zC M_m_areTwo [vR 39, vI p, vI q] h (pV (vI (zb (p ≠ q ∧ (0 ≤ p ∧ p < h 39 4) ∧ (0 ≤ q ∧ q < h 39 4)))) h) := by
  refine zC.ofN 0 (by decide) (by first | decide | exact Nat.le_of_ble_eq_true rfl) ?_
  show Z M_m_areTwo _ 0 [vR 39, vI p, vI q] [] h
  have hn := hm.hn
  have hnp := hm.hnp
  have ht := hm.row.ht
  have hh := hm.row.hh
  have hc := hm.row.hc
  unfold nm at ht hh hc
  refine z_aload_n D_m_areTwo_0 rfl ?_
  refine z_iload_n D_m_areTwo_1 rfl ?_
  refine z_V1 (c0 := 12) (c_m_isOne (by omega) (by omega)) G_m_isOne I_m_isOne lk_m_152 (rfl) ⟨by decide, rfl⟩ ⟨Nat.le_of_ble_eq_true rfl, Nat.le_of_ble_eq_true rfl⟩ (Nat.le_of_ble_eq_true rfl) D_m_areTwo_2 ?_
  refine z_ifeqB (tgt := 25) D_m_areTwo_5 (by decide) (fun q5 => ?_) (fun q5 => ?_)
  · refine z_iconst D_m_areTwo_25 ?_
    exact z_zreturn rfl (by first | exact Or.inl rfl | exact Or.inr rfl | exact zb_01 _) D_m_areTwo_26 (pvI (by first | exact (zb_t (by omega)).symm | exact (zb_f (by omega)).symm) rfl)
  · refine z_aload_n D_m_areTwo_8 rfl ?_
    refine z_iload_n D_m_areTwo_9 rfl ?_
    refine z_V1 (c0 := 12) (c_m_isOne (by omega) (by omega)) G_m_isOne I_m_isOne lk_m_152 (rfl) ⟨by decide, rfl⟩ ⟨Nat.le_of_ble_eq_true rfl, Nat.le_of_ble_eq_true rfl⟩ (Nat.le_of_ble_eq_true rfl) D_m_areTwo_10 ?_
    refine z_ifeqB (tgt := 25) D_m_areTwo_13 (by decide) (fun q13 => ?_) (fun q13 => ?_)
    · refine z_iconst D_m_areTwo_25 ?_
      exact z_zreturn rfl (by first | exact Or.inl rfl | exact Or.inr rfl | exact zb_01 _) D_m_areTwo_26 (pvI (by first | exact (zb_t (by omega)).symm | exact (zb_f (by omega)).symm) rfl)
    · refine z_iload_n D_m_areTwo_16 rfl ?_
      refine z_iload_n D_m_areTwo_17 rfl ?_
      refine z_icmp_eq (tgt := 25) D_m_areTwo_18 (by decide) (by omega) (by omega) (fun q18 => ?_) (fun q18 => ?_)
      · refine z_iconst D_m_areTwo_25 ?_
        exact z_zreturn rfl (by first | exact Or.inl rfl | exact Or.inr rfl | exact zb_01 _) D_m_areTwo_26 (pvI (by first | exact (zb_t (by omega)).symm | exact (zb_f (by omega)).symm) rfl)
      · refine z_iconst D_m_areTwo_21 ?_
        refine z_goto (tgt := 26) D_m_areTwo_22 (by decide) ?_
        exact z_zreturn rfl (by first | exact Or.inl rfl | exact Or.inr rfl | exact zb_01 _) D_m_areTwo_26 (pvI (by first | exact (zb_t (by omega)).symm | exact (zb_f (by omega)).symm) rfl)

theorem c_x_pane {h : zH} {w : Nat} {s : Int} (hx : XI h w) (r_s : -2147483648 ≤ s ∧ s ≤ 2147483647) : zC M_x_pane [vR 0, vI s] h (pV (vI (if 0 ≤ s ∧ s < h w 3 then px h w s else -1)) h) := by
  refine zC.ofN 0 (by decide) (by first | decide | exact Nat.le_of_ble_eq_true rfl) ?_
  show Z M_x_pane _ 0 [vR 0, vI s] [] h
  have hw := hx.2.1
  have hu := hx.2.2.1
  have hn := hx.2.2.2.hn
  have hnp := hx.2.2.2.hnp
  have ht := hx.2.2.2.row.ht
  have hh := hx.2.2.2.row.hh
  have hc := hx.2.2.2.row.hc
  refine z_aload_n D_x_pane_0 rfl ?_
  refine z_getW fl_x_19 (by decide) hx.1 D_x_pane_1 ?_
  refine z_iload_n D_x_pane_4 rfl ?_
  refine z_V1 (c0 := 10) (c_w_hasSpot hw hn r_s) G_w_hasSpot I_w_hasSpot lk_x_122 (kw hw) ⟨by decide, rfl⟩ ⟨Nat.le_of_ble_eq_true rfl, Nat.le_of_ble_eq_true rfl⟩ (Nat.le_of_ble_eq_true rfl) D_x_pane_5 ?_
  refine z_ifeqB (tgt := 23) D_x_pane_8 (by decide) (fun q8 => ?_) (fun q8 => ?_)
  · refine z_iconst D_x_pane_23 ?_
    exact z_ireturn rfl D_x_pane_24 (pvI (by first | exact (if_pos q8).symm | exact (if_neg q8).symm) rfl)
  · refine z_aload_n D_x_pane_11 rfl ?_
    refine z_getW fl_x_19 (by decide) hx.1 D_x_pane_12 ?_
    refine z_getR (q := (w + 1)) fl_x_125 (kw hw) rfl (kw0 hw) D_x_pane_15 ?_
    refine z_iload_n D_x_pane_18 rfl ?_
    refine z_iald (n := 12) (kwp hw) (by omega) D_x_pane_19 ?_
    refine z_goto (tgt := 24) D_x_pane_20 (by decide) ?_
    exact z_ireturn rfl D_x_pane_24 (pvI (by first | exact (if_pos q8).symm | exact (if_neg q8).symm) rfl)

theorem c_m_pane {h : zH} {s : Int} (hm : MI h) (r_s : -2147483648 ≤ s ∧ s ≤ 2147483647) : zC M_m_pane [vR 39, vI s] h (pV (vI (if 0 ≤ s ∧ s < h 39 0 then pm h s else -1)) h) := by
  refine zC.ofN 0 (by decide) (by first | decide | exact Nat.le_of_ble_eq_true rfl) ?_
  show Z M_m_pane _ 0 [vR 39, vI s] [] h
  have hn := hm.hn
  have hnp := hm.hnp
  have ht := hm.row.ht
  have hh := hm.row.hh
  have hc := hm.row.hc
  unfold nm at ht hh hc
  refine z_aload_n D_m_pane_0 rfl ?_
  refine z_iload_n D_m_pane_1 rfl ?_
  refine z_V1 (c0 := 12) (c_m_isSpot hn r_s) G_m_isSpot I_m_isSpot lk_m_146 (rfl) ⟨by decide, rfl⟩ ⟨Nat.le_of_ble_eq_true rfl, Nat.le_of_ble_eq_true rfl⟩ (Nat.le_of_ble_eq_true rfl) D_m_pane_2 ?_
  refine z_ifeqB (tgt := 17) D_m_pane_5 (by decide) (fun q5 => ?_) (fun q5 => ?_)
  · refine z_iconst D_m_pane_17 ?_
    exact z_ireturn rfl D_m_pane_18 (pvI (by first | exact (if_pos q5).symm | exact (if_neg q5).symm) rfl)
  · refine z_aload_n D_m_pane_8 rfl ?_
    refine z_getR (q := 40) fl_m_7 (rfl) rfl (rfl) D_m_pane_9 ?_
    refine z_iload_n D_m_pane_12 rfl ?_
    refine z_iald (n := 12) (rfl) (by omega) D_m_pane_13 ?_
    refine z_goto (tgt := 18) D_m_pane_14 (by decide) ?_
    exact z_ireturn rfl D_m_pane_18 (pvI (by first | exact (if_pos q5).symm | exact (if_neg q5).symm) rfl)

theorem cnt_in (f : Int → Int) (c : Int) : ∀ m : Nat, 0 ≤ cntS f c m ∧ cntS f c m ≤ m
  | 0 => by simp [cntS]
  | m + 1 => by
    have := cnt_in f c m
    have h2 := zb_01 (f (m + 1) = c)
    simp only [cntS]
    omega
theorem l_x_speedsFor {h : zH} {w : Nat} {s c m : Int} (hx : XI h w) (hs : 0 ≤ s ∧ s < h w 3) (hc : 0 ≤ c ∧ c ≤ 5) (hm0 : 0 ≤ m ∧ m ≤ 60) : ∀ (k : Nat) (i : Int), 1 ≤ i → i ≤ m + 1 → m + 1 - i < k → Z M_x_speedsFor (pV (vI (cntS (gx h w s) c m.toNat)) h) 6 [vR 0, vI s, vI c, vI m, vI (cntS (gx h w s) c (i - 1).toNat), vI i] [] h := by
  intro k
  induction k with
  | zero => intro i h0 h1 h2; omega
  | succ k ih =>
    intro i h0 h1 h2
    have q := ih (i + 1) (by omega)
    rw [cntS_1 h0] at q
    refine z_iload D_x_speedsFor_6 rfl ?_
    refine z_iload_n D_x_speedsFor_8 rfl ?_
    refine z_icmp_gt (tgt := 32) D_x_speedsFor_9 (by decide) (by omega) (by omega) (fun q9 => ?_) (fun q9 => ?_)
    · refine z_iload D_x_speedsFor_32 rfl ?_
      exact z_ireturn rfl D_x_speedsFor_34 (pvI (by rw [show (i - 1).toNat = m.toNat by omega]) rfl)
    · refine z_aload_n D_x_speedsFor_12 rfl ?_
      refine z_iload_n D_x_speedsFor_13 rfl ?_
      refine z_iload D_x_speedsFor_14 rfl ?_
      refine z_V2 (c0 := 11) (c_x_colourBehind hx hs (by omega)) G_x_colourBehind I_x_colourBehind lk_x_196 (rfl) ⟨by decide, rfl⟩ ⟨Nat.le_of_ble_eq_true rfl, Nat.le_of_ble_eq_true rfl⟩ (Nat.le_of_ble_eq_true rfl) D_x_speedsFor_16 ?_
      refine z_iload_n D_x_speedsFor_19 rfl ?_
      refine z_icmp_ne (tgt := 26) D_x_speedsFor_20 (by decide) (by have := gx_in hx s i; omega) (by omega) (fun q20 => ?_) (fun q20 => ?_)
      · refine z_iinc_5 D_x_speedsFor_26 (Nat.le_of_ble_eq_true rfl) rfl ?_
        refine z_goto (tgt := 6) D_x_speedsFor_29 (by decide) ?_
        first
        | rw [zb_t q20] at q
        | rw [zb_f q20, Int.add_zero] at q
        exact q (by omega) (by omega)
      · refine z_iinc_4 D_x_speedsFor_23 (Nat.le_of_ble_eq_true rfl) rfl ?_
        refine z_iinc_5 D_x_speedsFor_26 (Nat.le_of_ble_eq_true rfl) rfl ?_
        refine z_goto (tgt := 6) D_x_speedsFor_29 (by decide) ?_
        first
        | rw [zb_t q20] at q
        | rw [zb_f q20, Int.add_zero] at q
        exact q (by omega) (by omega)
theorem c_x_speedsFor {h : zH} {w : Nat} {s c m : Int} (hx : XI h w) (hs : 0 ≤ s ∧ s < h w 3) (hc : 0 ≤ c ∧ c ≤ 5) (hm0 : 0 ≤ m ∧ m ≤ 60) : zC M_x_speedsFor [vR 0, vI s, vI c, vI m] h (pV (vI (cntS (gx h w s) c m.toNat)) h) := by
  refine zC.ofN 2 (by decide) (by first | decide | exact Nat.le_of_ble_eq_true rfl) ?_
  show Z M_x_speedsFor _ 0 [vR 0, vI s, vI c, vI m, vU, vU] [] h
  refine z_iconst D_x_speedsFor_0 ?_
  refine z_istore_4 D_x_speedsFor_1 (Nat.le_of_ble_eq_true rfl) rfl ?_
  refine z_iconst D_x_speedsFor_3 ?_
  refine z_istore_5 D_x_speedsFor_4 (Nat.le_of_ble_eq_true rfl) rfl ?_
  exact l_x_speedsFor hx hs hc hm0 (62 : Nat) 1 (by omega) (by omega) (by omega)

theorem l_m_speedsOf {h : zH} {s c m : Int} (hm : MI h) (hs : 0 ≤ s ∧ s < h 39 0) (hc : 0 ≤ c ∧ c ≤ 5) (hm0 : 0 ≤ m ∧ m ≤ 60) : ∀ (k : Nat) (i : Int), 1 ≤ i → i ≤ m + 1 → m + 1 - i < k → Z M_m_speedsOf (pV (vI (cntS (gm h s) c m.toNat)) h) 6 [vR 39, vI s, vI c, vI m, vI (cntS (gm h s) c (i - 1).toNat), vI i] [] h := by
  intro k
  induction k with
  | zero => intro i h0 h1 h2; omega
  | succ k ih =>
    intro i h0 h1 h2
    have q := ih (i + 1) (by omega)
    rw [cntS_1 h0] at q
    refine z_iload D_m_speedsOf_6 rfl ?_
    refine z_iload_n D_m_speedsOf_8 rfl ?_
    refine z_icmp_gt (tgt := 39) D_m_speedsOf_9 (by decide) (by omega) (by omega) (fun q9 => ?_) (fun q9 => ?_)
    · refine z_iload D_m_speedsOf_39 rfl ?_
      exact z_ireturn rfl D_m_speedsOf_41 (pvI (by rw [show (i - 1).toNat = m.toNat by omega]) rfl)
    · refine z_iload D_m_speedsOf_12 rfl ?_
      refine z_aload_n D_m_speedsOf_14 rfl ?_
      refine z_iload_n D_m_speedsOf_15 rfl ?_
      refine z_iload D_m_speedsOf_16 rfl ?_
      refine z_V2 (c0 := 12) (c_m_shadeOf hm hs (by omega)) G_m_shadeOf I_m_shadeOf lk_m_197 (rfl) ⟨by decide, rfl⟩ ⟨Nat.le_of_ble_eq_true rfl, Nat.le_of_ble_eq_true rfl⟩ (Nat.le_of_ble_eq_true rfl) D_m_speedsOf_18 ?_
      refine z_iload_n D_m_speedsOf_21 rfl ?_
      refine z_icmp_ne (tgt := 29) D_m_speedsOf_22 (by decide) (by have := gm_in hm s i; omega) (by omega) (fun q22 => ?_) (fun q22 => ?_)
      · refine z_iconst D_m_speedsOf_29 ?_
        refine z_iadd D_m_speedsOf_30 ?_
        refine z_istore_4 D_m_speedsOf_31 (Nat.le_of_ble_eq_true rfl) rfl ?_
        refine z_iinc_5 D_m_speedsOf_33 (Nat.le_of_ble_eq_true rfl) rfl ?_
        refine z_goto (tgt := 6) D_m_speedsOf_36 (by decide) ?_
        first
        | rw [zb_t q22] at q
        | rw [zb_f q22] at q
        exact q (by omega) (by omega)
      · refine z_iconst D_m_speedsOf_25 ?_
        refine z_goto (tgt := 30) D_m_speedsOf_26 (by decide) ?_
        refine z_iadd D_m_speedsOf_30 ?_
        refine z_istore_4 D_m_speedsOf_31 (Nat.le_of_ble_eq_true rfl) rfl ?_
        refine z_iinc_5 D_m_speedsOf_33 (Nat.le_of_ble_eq_true rfl) rfl ?_
        refine z_goto (tgt := 6) D_m_speedsOf_36 (by decide) ?_
        first
        | rw [zb_t q22] at q
        | rw [zb_f q22] at q
        exact q (by omega) (by omega)
theorem c_m_speedsOf {h : zH} {s c m : Int} (hm : MI h) (hs : 0 ≤ s ∧ s < h 39 0) (hc : 0 ≤ c ∧ c ≤ 5) (hm0 : 0 ≤ m ∧ m ≤ 60) : zC M_m_speedsOf [vR 39, vI s, vI c, vI m] h (pV (vI (cntS (gm h s) c m.toNat)) h) := by
  refine zC.ofN 2 (by decide) (by first | decide | exact Nat.le_of_ble_eq_true rfl) ?_
  show Z M_m_speedsOf _ 0 [vR 39, vI s, vI c, vI m, vU, vU] [] h
  refine z_iconst D_m_speedsOf_0 ?_
  refine z_istore_4 D_m_speedsOf_1 (Nat.le_of_ble_eq_true rfl) rfl ?_
  refine z_iconst D_m_speedsOf_3 ?_
  refine z_istore_5 D_m_speedsOf_4 (Nat.le_of_ble_eq_true rfl) rfl ?_
  exact l_m_speedsOf hm hs hc hm0 (62 : Nat) 1 (by omega) (by omega) (by omega)

theorem l_x_leastSpeedFor {h : zH} {w : Nat} {s c : Int} (hx : XI h w) (hs : 0 ≤ s ∧ s < h w 3) (hc : 0 ≤ c ∧ c ≤ 5) : ∀ (k : Nat) (i : Int), 1 ≤ i → i + k = 61 → Z M_x_leastSpeedFor (pV (vI (lstU (fun v => gx h w s v == c) (-9) k i)) h) 2 [vR 0, vI s, vI c, vI i] [] h := by
  intro k
  induction k with
  | zero =>
    intro i h0 h1
    refine z_iload_n D_x_leastSpeedFor_2 rfl ?_
    refine z_bipush (by decide) D_x_leastSpeedFor_3 ?_
    refine z_icmp_gt (tgt := 26) D_x_leastSpeedFor_5 (by decide) (by omega) (by omega) (fun q5 => ?_) (fun q5 => ?_)
    · refine z_bipush (by decide) D_x_leastSpeedFor_26 ?_
      exact z_ireturn rfl D_x_leastSpeedFor_28 (pvI rfl rfl)
    · omega
  | succ k ih =>
    intro i h0 h1
    refine z_iload_n D_x_leastSpeedFor_2 rfl ?_
    refine z_bipush (by decide) D_x_leastSpeedFor_3 ?_
    refine z_icmp_gt (tgt := 26) D_x_leastSpeedFor_5 (by decide) (by omega) (by omega) (fun q5 => ?_) (fun q5 => ?_)
    · omega
    · refine z_aload_n D_x_leastSpeedFor_8 rfl ?_
      refine z_iload_n D_x_leastSpeedFor_9 rfl ?_
      refine z_iload_n D_x_leastSpeedFor_10 rfl ?_
      refine z_V2 (c0 := 11) (c_x_colourBehind hx hs (by omega)) G_x_colourBehind I_x_colourBehind lk_x_196 (rfl) ⟨by decide, rfl⟩ ⟨Nat.le_of_ble_eq_true rfl, Nat.le_of_ble_eq_true rfl⟩ (Nat.le_of_ble_eq_true rfl) D_x_leastSpeedFor_11 ?_
      refine z_iload_n D_x_leastSpeedFor_14 rfl ?_
      refine z_icmp_ne (tgt := 20) D_x_leastSpeedFor_15 (by decide) (by have := gx_in hx s i; omega) (by omega) (fun q15 => ?_) (fun q15 => ?_)
      · refine z_iinc_3 D_x_leastSpeedFor_20 (Nat.le_of_ble_eq_true rfl) rfl ?_
        refine z_goto (tgt := 2) D_x_leastSpeedFor_23 (by decide) ?_
        have q := ih (i + 1) (by omega) (by omega)
        rw [lstU, if_neg (by simpa using q15)]
        exact q
      · refine z_iload_n D_x_leastSpeedFor_18 rfl ?_
        exact z_ireturn rfl D_x_leastSpeedFor_19 (pvI (by rw [lstU, if_pos (by simpa using q15)]) rfl)
theorem c_x_leastSpeedFor {h : zH} {w : Nat} {s c : Int} (hx : XI h w) (hs : 0 ≤ s ∧ s < h w 3) (hc : 0 ≤ c ∧ c ≤ 5) : zC M_x_leastSpeedFor [vR 0, vI s, vI c] h (pV (vI (lstU (fun v => gx h w s v == c) (-9) 60 1)) h) := by
  refine zC.ofN 1 (by decide) (by first | decide | exact Nat.le_of_ble_eq_true rfl) ?_
  show Z M_x_leastSpeedFor _ 0 [vR 0, vI s, vI c, vU] [] h
  refine z_iconst D_x_leastSpeedFor_0 ?_
  refine z_istore_3 D_x_leastSpeedFor_1 (Nat.le_of_ble_eq_true rfl) rfl ?_
  exact l_x_leastSpeedFor hx hs hc 60 1 (by omega) (by omega)

