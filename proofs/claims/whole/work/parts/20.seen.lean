/-! what was seen; spins; look -/
def sx1 (h : zH) (j : Int) : Int := h 20 j.toNat
def sx2 (h : zH) (j : Int) : Int := h 21 j.toNat
def sm1 (h : zH) (j : Int) : Int := h 45 (2 * j).toNat
def sm2 (h : zH) (j : Int) : Int := h 45 (2 * j + 1).toNat
def SI (n sz : Int) (f1 f2 : Int → Int) : Prop := (0 ≤ sz ∧ sz ≤ 6) ∧ ∀ j, 0 ≤ j → j < sz → (0 ≤ f1 j ∧ f1 j < n) ∧ (0 ≤ f2 j ∧ f2 j ≤ 5)
def snB (g : Int → Int → Int) (f1 f2 : Int → Int) (sz v : Int) : Bool := allF (fun j => g (f1 j) v == f2 j) sz.toNat
def pX (x : zV) (h : zH) : Option zV → zH → Prop := fun v h1 => v = some x ∧ ∀ a, (a < 33 ∨ 38 < a) → h1 a = h a
def pM (x : zV) (h : zH) : Option zV → zH → Prop := fun v h1 => v = some x ∧ ∀ a, a < 51 → h1 a = h a
theorem pxI {x y : Int} {h h1 : zH} (e : x = y) (eh : ∀ a, (a < 33 ∨ 38 < a) → h1 a = h a) : pX (vI y) h (some (vI x)) h1 := ⟨by rw [e], eh⟩
theorem pmI {x y : Int} {h h1 : zH} (e : x = y) (eh : ∀ a, a < 51 → h1 a = h a) : pM (vI y) h (some (vI x)) h1 := ⟨by rw [e], eh⟩
theorem nw_ext {h h1 : zH} (hE : ∀ a, a < 33 → h1 a = h a) : nw h1 = nw h := by funext c; unfold nw; rw [hE 12 (by omega), hE 11 (by omega)]
theorem XI.ext {h h1 : zH} {w : Nat} (hx : XI h w) (hE : ∀ a, a < 33 → h1 a = h a) : XI h1 w := by
  have hw := hx.2.1
  have e1 : px h1 w = px h w := by funext j; unfold px; rw [hE (w + 1) (by omega)]
  have e2 : wx h1 w = wx h w := by funext j; unfold wx; rw [hE (w + 3) (by omega)]
  unfold XI
  rw [hE 0 (by omega), hE 11 (by omega), hE w (by omega), e1, e2, nw_ext hE]
  exact hx
theorem gx_ext {h h1 : zH} {w : Nat} (hw : w = 3 ∨ w = 7) (hE : ∀ a, a < 33 → h1 a = h a) : gx h1 w = gx h w := by
  funext s v
  have e1 : px h1 w = px h w := by funext j; unfold px; rw [hE (w + 1) (by omega)]
  unfold gx
  rw [hE w (by omega), e1, nw_ext hE]
theorem nm_ext {h h1 : zH} (hE : ∀ a, 39 ≤ a → a < 51 → h1 a = h a) : nm h1 = nm h := by funext c; unfold nm; rw [hE 42 (by omega) (by omega)]
theorem MI.ext {h h1 : zH} (hm : MI h) (hE : ∀ a, 39 ≤ a → a < 51 → h1 a = h a) : MI h1 := by
  have e1 : pm h1 = pm h := by funext j; unfold pm; rw [hE 40 (by omega) (by omega)]
  have e2 : wm h1 = wm h := by funext j; unfold wm; rw [hE 41 (by omega) (by omega)]
  unfold MI
  rw [hE 39 (by omega) (by omega), e1, e2, nm_ext hE]
  exact hm
theorem gm_ext {h h1 : zH} (hE : ∀ a, 39 ≤ a → a < 51 → h1 a = h a) : gm h1 = gm h := by
  funext s v
  have e1 : pm h1 = pm h := by funext j; unfold pm; rw [hE 40 (by omega) (by omega)]
  unfold gm
  rw [hE 39 (by omega) (by omega), e1, nm_ext hE]
def cntB (b : Int → Bool) (f : Int → Int) (c : Int) : Nat → Int
  | 0 => 0
  | m + 1 => cntB b f c m + zb (b (m + 1) = true ∧ f (m + 1) = c)
def mst (b : Int → Bool) (f : Int → Int) : Nat → Int
  | 0 => 0
  | m + 1 => if b (m + 1) then max (mst b f m) (cntB b f (f (m + 1)) (m + 1)) else mst b f m
theorem cntB_in (b : Int → Bool) (f : Int → Int) (c : Int) : ∀ m : Nat, 0 ≤ cntB b f c m ∧ cntB b f c m ≤ m
  | 0 => by simp [cntB]
  | m + 1 => by
    have := cntB_in b f c m
    have h2 := zb_01 (b (m + 1) = true ∧ f (m + 1) = c)
    simp only [cntB]
    omega
theorem cntB_mst (b : Int → Bool) (f : Int → Int) (c : Int) : ∀ m : Nat, cntB b f c m ≤ mst b f m
  | 0 => by simp [cntB, mst]
  | m + 1 => by
    have ih := cntB_mst b f c m
    simp only [mst]
    by_cases hb : b (m + 1) = true
    · rw [if_pos hb]
      by_cases hf : f (m + 1) = c
      · rw [hf]; omega
      · have : cntB b f c (m + 1) = cntB b f c m := by simp only [cntB]; rw [zb_f (fun q => hf q.2)]; omega
        omega
    · rw [if_neg hb]
      have : cntB b f c (m + 1) = cntB b f c m := by simp only [cntB]; rw [zb_f (fun q => hb q.1)]; omega
      omega
theorem mst_in (b : Int → Bool) (f : Int → Int) : ∀ m : Nat, 0 ≤ mst b f m ∧ mst b f m ≤ m
  | 0 => by simp [mst]
  | m + 1 => by
    have ih := mst_in b f m
    have h2 := cntB_in b f (f (m + 1)) (m + 1)
    simp only [mst]
    split <;> omega
theorem cntB_1 {b : Int → Bool} {f : Int → Int} {c v : Int} (h : 1 ≤ v) : cntB b f c (v + 1 - 1).toNat = cntB b f c (v - 1).toNat + zb (b v = true ∧ f v = c) := by
  rw [show (v + 1 - 1).toNat = (v - 1).toNat + 1 by omega]
  simp only [cntB]
  rw [show ((v - 1).toNat : Int) + 1 = v by omega]
theorem mst_1 {b : Int → Bool} {f : Int → Int} {v : Int} (h : 1 ≤ v) : mst b f (v + 1 - 1).toNat = if b v then max (mst b f (v - 1).toNat) (cntB b f (f v) (v + 1 - 1).toNat) else mst b f (v - 1).toNat := by
  rw [show (v + 1 - 1).toNat = (v - 1).toNat + 1 by omega]
  simp only [mst]
  rw [show ((v - 1).toNat : Int) + 1 = v by omega]
def stP (b : Int → Bool) (i : Int) (s : Int × Int × Int) : Int × Int × Int := if b (i + 1) then (s.1 + 1, if s.1 = 0 then i + 1 else s.2.1, i + 1) else s
def spn (b : Int → Bool) (m : Nat) : Int × Int × Int := iter (stP b) (0, -9, -9) m
theorem spn_1 {b : Int → Bool} {v : Int} (h : 1 ≤ v) : spn b (v + 1 - 1).toNat = if b v then ((spn b (v - 1).toNat).1 + 1, if (spn b (v - 1).toNat).1 = 0 then v else (spn b (v - 1).toNat).2.1, v) else spn b (v - 1).toNat := by
  rw [show (v + 1 - 1).toNat = (v - 1).toNat + 1 by omega]
  simp only [spn, iter, stP]
  rw [show ((v - 1).toNat : Int) + 1 = v by omega]
  rfl
theorem spn_in (b : Int → Bool) : ∀ m : Nat, ((spn b m).1 = 0 ∧ (spn b m).2.1 = -9 ∧ (spn b m).2.2 = -9) ∨ (0 < (spn b m).1 ∧ (spn b m).1 ≤ m ∧ 1 ≤ (spn b m).2.1 ∧ (spn b m).2.1 ≤ m ∧ 1 ≤ (spn b m).2.2 ∧ (spn b m).2.2 ≤ m)
  | 0 => Or.inl ⟨rfl, rfl, rfl⟩
  | m + 1 => by
    have ih := spn_in b m
    have e : spn b (m + 1) = stP b m (spn b m) := rfl
    rw [e]
    unfold stP
    by_cases hb : b (m + 1) = true
    · rw [if_pos hb]
      dsimp only
      right
      by_cases h0 : (spn b m).1 = 0
      · rw [if_pos h0]; omega
      · rw [if_neg h0]; omega
    · rw [if_neg hb]; omega
theorem spn_0 (b : Int → Bool) : ∀ m : Nat, (spn b m).1 = 0 ↔ ∀ v : Int, 1 ≤ v → v ≤ m → b v = false
  | 0 => by
    constructor
    · intro _ v h1 h2; omega
    · intro _; rfl
  | m + 1 => by
    have ih := spn_0 b m
    have hi := spn_in b m
    have e : spn b (m + 1) = stP b m (spn b m) := rfl
    rw [e]
    unfold stP
    by_cases hb : b (m + 1) = true
    · rw [if_pos hb]
      dsimp only
      constructor
      · intro h; omega
      · intro h
        have := h (m + 1) (by omega) (by omega)
        rw [hb] at this
        cases this
    · rw [if_neg hb, ih]
      constructor
      · intro h v h1 h2
        by_cases hv : v = m + 1
        · rw [hv]; simpa using hb
        · exact h v h1 (by omega)
      · intro h v h1 h2
        exact h v h1 (by omega)
def bitsF (b : Int → Bool) : Nat → Nat
  | 0 => 0
  | m + 1 => if b (m + 1) then bitsF b m ||| 2 ^ (m + 1) else bitsF b m
theorem bitsF_tb (b : Int → Bool) : ∀ (m v : Nat), (bitsF b m).testBit v = (decide (1 ≤ v) && (decide (v ≤ m) && b v))
  | 0, v => by
    simp only [bitsF, Nat.zero_testBit]
    by_cases h : 1 ≤ v
    · have : ¬ v ≤ 0 := by omega
      simp [this]
    · simp [h]
  | m + 1, v => by
    have ih := bitsF_tb b m v
    simp only [bitsF]
    by_cases hb : b ((m : Int) + 1) = true
    · rw [if_pos hb, Nat.testBit_or, ih, Nat.testBit_two_pow]
      by_cases hv : m + 1 = v
      · subst hv
        have : b (((m + 1 : Nat) : Int)) = true := by rw [show ((m + 1 : Nat) : Int) = (m : Int) + 1 by omega]; exact hb
        simp [hb]
      · have h1 : decide (v ≤ m + 1) = decide (v ≤ m) := by
          apply decide_eq_decide.mpr; omega
        rw [h1]
        simp [hv]
    · rw [if_neg hb, ih]
      by_cases hv : v = m + 1
      · subst hv
        have : b (((m + 1 : Nat) : Int)) = false := by rw [show ((m + 1 : Nat) : Int) = (m : Int) + 1 by omega]; simpa using hb
        simp [hb]
      · have h1 : decide (v ≤ m + 1) = decide (v ≤ m) := by
          apply decide_eq_decide.mpr; omega
        rw [h1]
theorem bitsF_lt (b : Int → Bool) : ∀ m : Nat, bitsF b m < 2 ^ (m + 1)
  | 0 => by simp [bitsF]
  | m + 1 => by
    have ih := bitsF_lt b m
    have h2 : 2 ^ (m + 1) < 2 ^ (m + 1 + 1) := Nat.pow_lt_pow_right (by decide) (by omega)
    simp only [bitsF]
    split
    · exact Nat.or_lt_two_pow (by omega) h2
    · omega
theorem bitsF_1 {b : Int → Bool} {v : Int} (h : 1 ≤ v) : bitsF b (v + 1 - 1).toNat = if b v then bitsF b (v - 1).toNat ||| 2 ^ v.toNat else bitsF b (v - 1).toNat := by
  rw [show (v + 1 - 1).toNat = (v - 1).toNat + 1 by omega]
  simp only [bitsF]
  rw [show ((v - 1).toNat : Int) + 1 = v by omega, show (v - 1).toNat + 1 = v.toNat by omega]
theorem bitsF_0 (b : Int → Bool) (m : Nat) : bitsF b m = 0 ↔ (spn b m).1 = 0 := by
  rw [spn_0]
  constructor
  · intro h v h1 h2
    have := bitsF_tb b m v.toNat
    rw [h, Nat.zero_testBit] at this
    rw [show ((v.toNat : Nat) : Int) = v by omega] at this
    have h3 : decide (1 ≤ v.toNat) = true := decide_eq_true (by omega)
    have h4 : decide (v.toNat ≤ m) = true := decide_eq_true (by omega)
    rw [h3, h4] at this
    simpa using this.symm
  · intro h
    apply Nat.eq_of_testBit_eq
    intro v
    rw [bitsF_tb, Nat.zero_testBit]
    by_cases h1 : 1 ≤ v
    · by_cases h2 : v ≤ m
      · rw [h v (by omega) (by omega)]; simp
      · simp [h2]
    · simp [h1]
theorem l_x_isAsSeen {h : zH} {w : Nat} {v : Int} (hx : XI h w) (hs : SI (h w 3) (h 19 2) (sx1 h) (sx2 h)) (hv : 1 ≤ v ∧ v ≤ 60) : ∀ (k : Nat) (i : Int), 0 ≤ i → i ≤ h 19 2 → h 19 2 - i < k → allF (fun j => gx h w (sx1 h j) v == sx2 h j) i.toNat = true → Z M_x_isAsSeen (pV (vI (zb (snB (gx h w) (sx1 h) (sx2 h) (h 19 2) v = true))) h) 2 [vR 0, vI v, vI i] [] h := by
  intro k
  induction k with
  | zero => intro i h0 h1 h2; omega
  | succ k ih =>
    intro i h0 h1 h2 hA
    have hsz := hs.1
    have e := allF_1 (b := (fun j => gx h w (sx1 h j) v == sx2 h j)) h0
    rw [hA, Bool.true_and] at e
    have hj := fun q => hs.2 i h0 q
    unfold sx1 sx2 at hj
    have hxt : i = h 19 2 → snB (gx h w) (sx1 h) (sx2 h) (h 19 2) v = true := fun e9 => by unfold snB; rw [← e9]; exact hA
    refine z_iload_n D_x_isAsSeen_2 rfl ?_
    refine z_aload_n D_x_isAsSeen_3 rfl ?_
    refine z_getR (q := 19) fl_x_44 (rfl) rfl (rfl) D_x_isAsSeen_4 ?_
    refine z_getI fl_x_119 (rfl) rfl D_x_isAsSeen_7 ?_
    refine z_icmp_ge (tgt := 47) D_x_isAsSeen_10 (by decide) (by omega) (by omega) (fun q10 => ?_) (fun q10 => ?_)
    · refine z_iconst D_x_isAsSeen_47 ?_
      exact z_zreturn rfl (by first | exact Or.inl rfl | exact Or.inr rfl | exact zb_01 _) D_x_isAsSeen_48 (pvI (by rw [hxt (by omega)]; rfl) rfl)
    · refine z_aload_n D_x_isAsSeen_13 rfl ?_
      refine z_aload_n D_x_isAsSeen_14 rfl ?_
      refine z_getR (q := 19) fl_x_44 (rfl) rfl (rfl) D_x_isAsSeen_15 ?_
      refine z_getR (q := 20) fl_x_302 (rfl) rfl (rfl) D_x_isAsSeen_18 ?_
      refine z_iload_n D_x_isAsSeen_21 rfl ?_
      refine z_iald (n := 6) (rfl) (by omega) D_x_isAsSeen_22 ?_
      refine z_iload_n D_x_isAsSeen_23 rfl ?_
      refine z_V2 (c0 := 11) (c_x_colourBehind hx (hj (by omega)).1 (by omega)) G_x_colourBehind I_x_colourBehind lk_x_196 (rfl) ⟨by decide, rfl⟩ ⟨Nat.le_of_ble_eq_true rfl, Nat.le_of_ble_eq_true rfl⟩ (Nat.le_of_ble_eq_true rfl) D_x_isAsSeen_24 ?_
      refine z_aload_n D_x_isAsSeen_27 rfl ?_
      refine z_getR (q := 19) fl_x_44 (rfl) rfl (rfl) D_x_isAsSeen_28 ?_
      refine z_getR (q := 21) fl_x_305 (rfl) rfl (rfl) D_x_isAsSeen_31 ?_
      refine z_iload_n D_x_isAsSeen_34 rfl ?_
      refine z_iald (n := 6) (rfl) (by omega) D_x_isAsSeen_35 ?_
      refine z_icmp_eq (tgt := 41) D_x_isAsSeen_36 (by decide) (by have := gx_in hx (h 20 i.toNat) v; omega) (by have := (hj (by omega)).2; omega) (fun q36 => ?_) (fun q36 => ?_)
      · refine z_iinc_2 D_x_isAsSeen_41 (Nat.le_of_ble_eq_true rfl) rfl ?_
        refine z_goto (tgt := 2) D_x_isAsSeen_44 (by decide) ?_
        exact ih (i + 1) (by omega) (by omega) (by omega) (e.trans (by unfold sx1 sx2; simpa using q36))
      · refine z_iconst D_x_isAsSeen_39 ?_
        exact z_zreturn rfl (by first | exact Or.inl rfl | exact Or.inr rfl | exact zb_01 _) D_x_isAsSeen_40 (pvI (by unfold snB; rw [allF_f h0 (by omega) (by unfold sx1 sx2; simpa using q36)]; rfl) rfl)
theorem c_x_isAsSeen {h : zH} {w : Nat} {v : Int} (hx : XI h w) (hs : SI (h w 3) (h 19 2) (sx1 h) (sx2 h)) (hv : 1 ≤ v ∧ v ≤ 60) : zC M_x_isAsSeen [vR 0, vI v] h (pV (vI (zb (snB (gx h w) (sx1 h) (sx2 h) (h 19 2) v = true))) h) := by
  refine zC.ofN 1 (by decide) (by first | decide | exact Nat.le_of_ble_eq_true rfl) ?_
  show Z M_x_isAsSeen _ 0 [vR 0, vI v, vU] [] h
  refine z_iconst D_x_isAsSeen_0 ?_
  refine z_istore_2 D_x_isAsSeen_1 (Nat.le_of_ble_eq_true rfl) rfl ?_
  have hsz := hs.1
  exact l_x_isAsSeen hx hs hv (7 : Nat) 0 (by omega) (by omega) (by omega) rfl

theorem l_m_isSeen {h : zH} {v : Int} (hm : MI h) (hs : SI (h 39 0) (h 39 9) (sm1 h) (sm2 h)) (hv : 1 ≤ v ∧ v ≤ 60) : ∀ (k : Nat) (i : Int), 0 ≤ i → i ≤ h 39 9 → h 39 9 - i < k → Z M_m_isSeen (pV (vI (zb (snB (gm h) (sm1 h) (sm2 h) (h 39 9) v = true))) h) 4 [vR 39, vI v, vI (zb (allF (fun j => gm h (sm1 h j) v == sm2 h j) i.toNat = true)), vI i] [] h := by
  intro k
  induction k with
  | zero => intro i h0 h1 h2; omega
  | succ k ih =>
    intro i h0 h1 h2
    have hsz := hs.1
    have e := allF_1 (b := (fun j => gm h (sm1 h j) v == sm2 h j)) h0
    have hj := fun q => hs.2 i h0 q
    unfold sm1 sm2 at hj
    have hxt : i = h 39 9 → zb (allF (fun j => gm h (sm1 h j) v == sm2 h j) i.toNat = true) = zb (snB (gm h) (sm1 h) (sm2 h) (h 39 9) v = true) := fun e9 => by rw [e9]; rfl
    have q := ih (i + 1) (by omega)
    rw [e] at q
    refine z_iload_n D_m_isSeen_4 rfl ?_
    refine z_aload_n D_m_isSeen_5 rfl ?_
    refine z_getI fl_m_140 (rfl) rfl D_m_isSeen_6 ?_
    refine z_icmp_ge (tgt := 54) D_m_isSeen_9 (by decide) (by omega) (by omega) (fun q9 => ?_) (fun q9 => ?_)
    · refine z_iload_n D_m_isSeen_54 rfl ?_
      exact z_zreturn rfl (by first | exact Or.inl rfl | exact Or.inr rfl | exact zb_01 _) D_m_isSeen_55 (pvI (hxt (by omega)) rfl)
    · refine z_iload_n D_m_isSeen_12 rfl ?_
      refine z_ifeqB (tgt := 46) D_m_isSeen_13 (by decide) (fun q13 => ?_) (fun q13 => ?_)
      · refine z_iconst D_m_isSeen_46 ?_
        refine z_istore_2 D_m_isSeen_47 (Nat.le_of_ble_eq_true rfl) rfl ?_
        refine z_iinc_3 D_m_isSeen_48 (Nat.le_of_ble_eq_true rfl) rfl ?_
        refine z_goto (tgt := 4) D_m_isSeen_51 (by decide) ?_
        have e2 : (allF (fun j => gm h (sm1 h j) v == sm2 h j) i.toNat && (fun j => gm h (sm1 h j) v == sm2 h j) i) = false := by
          rw [Bool.and_eq_false_iff]; left; simpa using q13
        rw [e2] at q
        exact q (by omega) (by omega)
      · refine z_aload_n D_m_isSeen_16 rfl ?_
        refine z_aload_n D_m_isSeen_17 rfl ?_
        refine z_getR (q := 45) fl_m_33 (rfl) rfl (rfl) D_m_isSeen_18 ?_
        refine z_iconst D_m_isSeen_21 ?_
        refine z_iload_n D_m_isSeen_22 rfl ?_
        refine z_imul D_m_isSeen_23 ?_
        refine z_iald (n := 12) (rfl) (by omega) D_m_isSeen_24 ?_
        refine z_iload_n D_m_isSeen_25 rfl ?_
        refine z_V2 (c0 := 12) (c_m_shadeOf hm (hj (by omega)).1 (by omega)) G_m_shadeOf I_m_shadeOf lk_m_197 (rfl) ⟨by decide, rfl⟩ ⟨Nat.le_of_ble_eq_true rfl, Nat.le_of_ble_eq_true rfl⟩ (Nat.le_of_ble_eq_true rfl) D_m_isSeen_26 ?_
        refine z_aload_n D_m_isSeen_29 rfl ?_
        refine z_getR (q := 45) fl_m_33 (rfl) rfl (rfl) D_m_isSeen_30 ?_
        refine z_iconst D_m_isSeen_33 ?_
        refine z_iload_n D_m_isSeen_34 rfl ?_
        refine z_imul D_m_isSeen_35 ?_
        refine z_iconst D_m_isSeen_36 ?_
        refine z_iadd D_m_isSeen_37 ?_
        refine z_iald (n := 12) (rfl) (by omega) D_m_isSeen_38 ?_
        refine z_icmp_ne (tgt := 46) D_m_isSeen_39 (by decide) (by have := gm_in hm (h 45 (2 * i).toNat) v; omega) (by have := (hj (by omega)).2; omega) (fun q39 => ?_) (fun q39 => ?_)
        · refine z_iconst D_m_isSeen_46 ?_
          refine z_istore_2 D_m_isSeen_47 (Nat.le_of_ble_eq_true rfl) rfl ?_
          refine z_iinc_3 D_m_isSeen_48 (Nat.le_of_ble_eq_true rfl) rfl ?_
          refine z_goto (tgt := 4) D_m_isSeen_51 (by decide) ?_
          have e2 : (allF (fun j => gm h (sm1 h j) v == sm2 h j) i.toNat && (fun j => gm h (sm1 h j) v == sm2 h j) i) = false := by
            rw [Bool.and_eq_false_iff]; right; unfold sm1 sm2; simpa using q39
          rw [e2] at q
          exact q (by omega) (by omega)
        · refine z_iconst D_m_isSeen_42 ?_
          refine z_goto (tgt := 47) D_m_isSeen_43 (by decide) ?_
          refine z_istore_2 D_m_isSeen_47 (Nat.le_of_ble_eq_true rfl) rfl ?_
          refine z_iinc_3 D_m_isSeen_48 (Nat.le_of_ble_eq_true rfl) rfl ?_
          refine z_goto (tgt := 4) D_m_isSeen_51 (by decide) ?_
          have e2 : (allF (fun j => gm h (sm1 h j) v == sm2 h j) i.toNat && (fun j => gm h (sm1 h j) v == sm2 h j) i) = true := by
            rw [q13, Bool.true_and]; unfold sm1 sm2; simpa using q39
          rw [e2] at q
          exact q (by omega) (by omega)
theorem c_m_isSeen {h : zH} {v : Int} (hm : MI h) (hs : SI (h 39 0) (h 39 9) (sm1 h) (sm2 h)) (hv : 1 ≤ v ∧ v ≤ 60) : zC M_m_isSeen [vR 39, vI v] h (pV (vI (zb (snB (gm h) (sm1 h) (sm2 h) (h 39 9) v = true))) h) := by
  refine zC.ofN 2 (by decide) (by first | decide | exact Nat.le_of_ble_eq_true rfl) ?_
  show Z M_m_isSeen _ 0 [vR 39, vI v, vU, vU] [] h
  refine z_iconst D_m_isSeen_0 ?_
  refine z_istore_2 D_m_isSeen_1 (Nat.le_of_ble_eq_true rfl) rfl ?_
  refine z_iconst D_m_isSeen_2 ?_
  refine z_istore_3 D_m_isSeen_3 (Nat.le_of_ble_eq_true rfl) rfl ?_
  have hsz := hs.1
  exact l_m_isSeen hm hs hv (7 : Nat) 0 (by omega) (by omega) (by omega)

theorem l_x_spun {h : zH} {w : Nat} {t y : Int} (hx : XI h w) (hs : SI (h w 3) (h 19 2) (sx1 h) (sx2 h)) (ht : 0 ≤ t ∧ t ≤ 2) (hY : (if t = 0 then (spn (snB (gx h w) (sx1 h) (sx2 h) (h 19 2)) 60).1 else if t = 1 then (spn (snB (gx h w) (sx1 h) (sx2 h) (h 19 2)) 60).2.1 else (spn (snB (gx h w) (sx1 h) (sx2 h) (h 19 2)) 60).2.2) = y) : ∀ (k : Nat) (v : Int), 1 ≤ v → v ≤ 61 → 61 - v < k → Z M_x_spun (pV (vI y) h) 23 [vR 0, vI t, vI (spn (snB (gx h w) (sx1 h) (sx2 h) (h 19 2)) (v - 1).toNat).1, vI (spn (snB (gx h w) (sx1 h) (sx2 h) (h 19 2)) (v - 1).toNat).2.1, vI (spn (snB (gx h w) (sx1 h) (sx2 h) (h 19 2)) (v - 1).toNat).2.2, vI v] [] h := by
  intro k
  induction k with
  | zero => intro v h0 h1 h2; omega
  | succ k ih =>
    intro v h0 h1 h2
    have e := spn_1 (b := snB (gx h w) (sx1 h) (sx2 h) (h 19 2)) h0
    have hr := spn_in (snB (gx h w) (sx1 h) (sx2 h) (h 19 2)) (v - 1).toNat
    have q := ih (v + 1) (by omega)
    rw [e] at q
    have hxt : v = 61 → spn (snB (gx h w) (sx1 h) (sx2 h) (h 19 2)) (v - 1).toNat = spn (snB (gx h w) (sx1 h) (sx2 h) (h 19 2)) 60 := fun e9 => by rw [e9]; rfl
    generalize spn (snB (gx h w) (sx1 h) (sx2 h) (h 19 2)) (v - 1).toNat = S at q hr hxt ⊢
    obtain ⟨a, b, c⟩ := S
    dsimp only at q hr hxt ⊢
    refine z_iload D_x_spun_23 rfl ?_
    refine z_bipush (by decide) D_x_spun_25 ?_
    refine z_icmp_gt (tgt := 65) D_x_spun_27 (by decide) (by omega) (by omega) (fun q27 => ?_) (fun q27 => ?_)
    · refine z_iload_n D_x_spun_65 rfl ?_
      refine z_if_ne (tgt := 71) D_x_spun_66 (by decide) (by omega) (fun q66 => ?_) (fun q66 => ?_)
      · refine z_iload_n D_x_spun_71 rfl ?_
        refine z_iconst D_x_spun_72 ?_
        refine z_icmp_ne (tgt := 80) D_x_spun_73 (by decide) (by omega) (by omega) (fun q73 => ?_) (fun q73 => ?_)
        · refine z_iload D_x_spun_80 rfl ?_
          exact z_ireturn rfl D_x_spun_82 (pvI (by rw [← hY, ← hxt (by omega)]; (repeat' split) <;> first | rfl | omega | (exfalso; omega)) rfl)
        · refine z_iload_n D_x_spun_76 rfl ?_
          refine z_goto (tgt := 82) D_x_spun_77 (by decide) ?_
          exact z_ireturn rfl D_x_spun_82 (pvI (by rw [← hY, ← hxt (by omega)]; (repeat' split) <;> first | rfl | omega | (exfalso; omega)) rfl)
      · refine z_iload_n D_x_spun_69 rfl ?_
        exact z_ireturn rfl D_x_spun_70 (pvI (by rw [← hY, ← hxt (by omega)]; (repeat' split) <;> first | rfl | omega | (exfalso; omega)) rfl)
    · refine z_aload_n D_x_spun_30 rfl ?_
      refine z_iload D_x_spun_31 rfl ?_
      refine z_V1 (c0 := 11) (c_x_isAsSeen hx hs (by omega)) G_x_isAsSeen I_x_isAsSeen lk_x_220 (rfl) ⟨by decide, rfl⟩ ⟨Nat.le_of_ble_eq_true rfl, Nat.le_of_ble_eq_true rfl⟩ (Nat.le_of_ble_eq_true rfl) D_x_spun_33 ?_
      refine z_ifeqB (tgt := 59) D_x_spun_36 (by decide) (fun q36 => ?_) (fun q36 => ?_)
      · refine z_iinc_5 D_x_spun_59 (Nat.le_of_ble_eq_true rfl) rfl ?_
        refine z_goto (tgt := 23) D_x_spun_62 (by decide) ?_
        first
        | (rw [if_neg q36] at q; exact q (by omega) (by omega))
        | (rw [if_pos q36] at q; dsimp only at q; rw [if_pos (by omega)] at q; exact q (by omega) (by omega))
        | (rw [if_pos q36] at q; dsimp only at q; rw [if_neg (by omega)] at q; exact q (by omega) (by omega))
      · refine z_iinc_2 D_x_spun_39 (Nat.le_of_ble_eq_true rfl) rfl ?_
        refine z_iload_n D_x_spun_42 rfl ?_
        refine z_bipush (by decide) D_x_spun_43 ?_
        refine z_icmp_ne (tgt := 53) D_x_spun_45 (by decide) (by omega) (by omega) (fun q45 => ?_) (fun q45 => ?_)
        · refine z_iload_n D_x_spun_53 rfl ?_
          refine z_istore_3 D_x_spun_54 (Nat.le_of_ble_eq_true rfl) rfl ?_
          refine z_iload D_x_spun_55 rfl ?_
          refine z_istore_4 D_x_spun_57 (Nat.le_of_ble_eq_true rfl) rfl ?_
          refine z_iinc_5 D_x_spun_59 (Nat.le_of_ble_eq_true rfl) rfl ?_
          refine z_goto (tgt := 23) D_x_spun_62 (by decide) ?_
          first
          | (rw [if_neg q36] at q; exact q (by omega) (by omega))
          | (rw [if_pos q36] at q; dsimp only at q; rw [if_pos (by omega)] at q; exact q (by omega) (by omega))
          | (rw [if_pos q36] at q; dsimp only at q; rw [if_neg (by omega)] at q; exact q (by omega) (by omega))
        · refine z_iload D_x_spun_48 rfl ?_
          refine z_goto (tgt := 54) D_x_spun_50 (by decide) ?_
          refine z_istore_3 D_x_spun_54 (Nat.le_of_ble_eq_true rfl) rfl ?_
          refine z_iload D_x_spun_55 rfl ?_
          refine z_istore_4 D_x_spun_57 (Nat.le_of_ble_eq_true rfl) rfl ?_
          refine z_iinc_5 D_x_spun_59 (Nat.le_of_ble_eq_true rfl) rfl ?_
          refine z_goto (tgt := 23) D_x_spun_62 (by decide) ?_
          first
          | (rw [if_neg q36] at q; exact q (by omega) (by omega))
          | (rw [if_pos q36] at q; dsimp only at q; rw [if_pos (by omega)] at q; exact q (by omega) (by omega))
          | (rw [if_pos q36] at q; dsimp only at q; rw [if_neg (by omega)] at q; exact q (by omega) (by omega))
theorem c_x_spun {h : zH} {w : Nat} {t : Int} (hx : XI h w) (hs : SI (h w 3) (h 19 2) (sx1 h) (sx2 h)) (r_t : -2147483648 ≤ t ∧ t ≤ 2147483647) : zC M_x_spun [vR 0, vI t] h (pV (vI (if 0 ≤ t ∧ t ≤ 2 then (if t = 0 then (spn (snB (gx h w) (sx1 h) (sx2 h) (h 19 2)) 60).1 else if t = 1 then (spn (snB (gx h w) (sx1 h) (sx2 h) (h 19 2)) 60).2.1 else (spn (snB (gx h w) (sx1 h) (sx2 h) (h 19 2)) 60).2.2) else -1)) h) := by
  refine zC.ofN 4 (by decide) (by first | decide | exact Nat.le_of_ble_eq_true rfl) ?_
  show Z M_x_spun _ 0 [vR 0, vI t, vU, vU, vU, vU] [] h
  refine z_iload_n D_x_spun_0 rfl ?_
  refine z_iconst D_x_spun_1 ?_
  refine z_iconst D_x_spun_2 ?_
  refine z_S3 (c_x_isWithin (by omega) (by omega) (by omega)) G_x_isWithin S_x_isWithin lk_x_99 ⟨Nat.le_of_ble_eq_true rfl, Nat.le_of_ble_eq_true rfl⟩ (Nat.le_of_ble_eq_true rfl) D_x_spun_3 ?_
  refine z_ifneB (tgt := 11) D_x_spun_6 (by decide) (fun q6 => ?_) (fun q6 => ?_)
  · refine z_iconst D_x_spun_11 ?_
    refine z_istore_2 D_x_spun_12 (Nat.le_of_ble_eq_true rfl) rfl ?_
    refine z_bipush (by decide) D_x_spun_13 ?_
    refine z_istore_3 D_x_spun_15 (Nat.le_of_ble_eq_true rfl) rfl ?_
    refine z_bipush (by decide) D_x_spun_16 ?_
    refine z_istore_4 D_x_spun_18 (Nat.le_of_ble_eq_true rfl) rfl ?_
    refine z_iconst D_x_spun_20 ?_
    refine z_istore_5 D_x_spun_21 (Nat.le_of_ble_eq_true rfl) rfl ?_
    rw [if_pos (by omega)]
    exact l_x_spun hx hs (by omega) rfl (61 : Nat) 1 (by omega) (by omega) (by omega)
  · refine z_iconst D_x_spun_9 ?_
    exact z_ireturn rfl D_x_spun_10 (pvI (by (repeat' split) <;> first | rfl | omega | (exfalso; omega)) rfl)

theorem l_m_spun {h : zH} {t y : Int} (hm : MI h) (hs : SI (h 39 0) (h 39 9) (sm1 h) (sm2 h)) (ht : 0 ≤ t ∧ t ≤ 2) (hY : (if t = 0 then (spn (snB (gm h) (sm1 h) (sm2 h) (h 39 9)) 60).1 else if t = 1 then (spn (snB (gm h) (sm1 h) (sm2 h) (h 39 9)) 60).2.1 else (spn (snB (gm h) (sm1 h) (sm2 h) (h 39 9)) 60).2.2) = y) : ∀ (k : Nat) (v : Int), 1 ≤ v → v ≤ 61 → 61 - v < k → Z M_m_spun (pV (vI y) h) 23 [vR 39, vI t, vI (spn (snB (gm h) (sm1 h) (sm2 h) (h 39 9)) (v - 1).toNat).1, vI (spn (snB (gm h) (sm1 h) (sm2 h) (h 39 9)) (v - 1).toNat).2.1, vI (spn (snB (gm h) (sm1 h) (sm2 h) (h 39 9)) (v - 1).toNat).2.2, vI v] [] h := by
  intro k
  induction k with
  | zero => intro v h0 h1 h2; omega
  | succ k ih =>
    intro v h0 h1 h2
    have e := spn_1 (b := snB (gm h) (sm1 h) (sm2 h) (h 39 9)) h0
    have hr := spn_in (snB (gm h) (sm1 h) (sm2 h) (h 39 9)) (v - 1).toNat
    have q := ih (v + 1) (by omega)
    rw [e] at q
    have hxt : v = 61 → spn (snB (gm h) (sm1 h) (sm2 h) (h 39 9)) (v - 1).toNat = spn (snB (gm h) (sm1 h) (sm2 h) (h 39 9)) 60 := fun e9 => by rw [e9]; rfl
    generalize spn (snB (gm h) (sm1 h) (sm2 h) (h 39 9)) (v - 1).toNat = S at q hr hxt ⊢
    obtain ⟨a, b, c⟩ := S
    dsimp only at q hr hxt ⊢
    refine z_iload D_m_spun_23 rfl ?_
    refine z_bipush (by decide) D_m_spun_25 ?_
    refine z_icmp_gt (tgt := 63) D_m_spun_27 (by decide) (by omega) (by omega) (fun q27 => ?_) (fun q27 => ?_)
    · refine z_iload_n D_m_spun_63 rfl ?_
      refine z_if_ne (tgt := 71) D_m_spun_64 (by decide) (by omega) (fun q64 => ?_) (fun q64 => ?_)
      · refine z_iload_n D_m_spun_71 rfl ?_
        refine z_iconst D_m_spun_72 ?_
        refine z_icmp_ne (tgt := 80) D_m_spun_73 (by decide) (by omega) (by omega) (fun q73 => ?_) (fun q73 => ?_)
        · refine z_iload D_m_spun_80 rfl ?_
          exact z_ireturn rfl D_m_spun_82 (pvI (by rw [← hY, ← hxt (by omega)]; (repeat' split) <;> first | rfl | omega | (exfalso; omega)) rfl)
        · refine z_iload_n D_m_spun_76 rfl ?_
          refine z_goto (tgt := 82) D_m_spun_77 (by decide) ?_
          exact z_ireturn rfl D_m_spun_82 (pvI (by rw [← hY, ← hxt (by omega)]; (repeat' split) <;> first | rfl | omega | (exfalso; omega)) rfl)
      · refine z_iload_n D_m_spun_67 rfl ?_
        refine z_goto (tgt := 82) D_m_spun_68 (by decide) ?_
        exact z_ireturn rfl D_m_spun_82 (pvI (by rw [← hY, ← hxt (by omega)]; (repeat' split) <;> first | rfl | omega | (exfalso; omega)) rfl)
    · refine z_aload_n D_m_spun_30 rfl ?_
      refine z_iload D_m_spun_31 rfl ?_
      refine z_V1 (c0 := 12) (c_m_isSeen hm hs (by omega)) G_m_isSeen I_m_isSeen lk_m_215 (rfl) ⟨by decide, rfl⟩ ⟨Nat.le_of_ble_eq_true rfl, Nat.le_of_ble_eq_true rfl⟩ (Nat.le_of_ble_eq_true rfl) D_m_spun_33 ?_
      refine z_ifeqB (tgt := 57) D_m_spun_36 (by decide) (fun q36 => ?_) (fun q36 => ?_)
      · refine z_iinc_5 D_m_spun_57 (Nat.le_of_ble_eq_true rfl) rfl ?_
        refine z_goto (tgt := 23) D_m_spun_60 (by decide) ?_
        first
        | (rw [if_neg q36] at q; exact q (by omega) (by omega))
        | (rw [if_pos q36] at q; dsimp only at q; rw [if_pos (by omega)] at q; exact q (by omega) (by omega))
        | (rw [if_pos q36] at q; dsimp only at q; rw [if_neg (by omega)] at q; exact q (by omega) (by omega))
      · refine z_iload_n D_m_spun_39 rfl ?_
        refine z_if_ne (tgt := 48) D_m_spun_40 (by decide) (by omega) (fun q40 => ?_) (fun q40 => ?_)
        · refine z_iload_n D_m_spun_48 rfl ?_
          refine z_istore_3 D_m_spun_49 (Nat.le_of_ble_eq_true rfl) rfl ?_
          refine z_iload D_m_spun_50 rfl ?_
          refine z_istore_4 D_m_spun_52 (Nat.le_of_ble_eq_true rfl) rfl ?_
          refine z_iinc_2 D_m_spun_54 (Nat.le_of_ble_eq_true rfl) rfl ?_
          refine z_iinc_5 D_m_spun_57 (Nat.le_of_ble_eq_true rfl) rfl ?_
          refine z_goto (tgt := 23) D_m_spun_60 (by decide) ?_
          first
          | (rw [if_neg q36] at q; exact q (by omega) (by omega))
          | (rw [if_pos q36] at q; dsimp only at q; rw [if_pos (by omega)] at q; exact q (by omega) (by omega))
          | (rw [if_pos q36] at q; dsimp only at q; rw [if_neg (by omega)] at q; exact q (by omega) (by omega))
        · refine z_iload D_m_spun_43 rfl ?_
          refine z_goto (tgt := 49) D_m_spun_45 (by decide) ?_
          refine z_istore_3 D_m_spun_49 (Nat.le_of_ble_eq_true rfl) rfl ?_
          refine z_iload D_m_spun_50 rfl ?_
          refine z_istore_4 D_m_spun_52 (Nat.le_of_ble_eq_true rfl) rfl ?_
          refine z_iinc_2 D_m_spun_54 (Nat.le_of_ble_eq_true rfl) rfl ?_
          refine z_iinc_5 D_m_spun_57 (Nat.le_of_ble_eq_true rfl) rfl ?_
          refine z_goto (tgt := 23) D_m_spun_60 (by decide) ?_
          first
          | (rw [if_neg q36] at q; exact q (by omega) (by omega))
          | (rw [if_pos q36] at q; dsimp only at q; rw [if_pos (by omega)] at q; exact q (by omega) (by omega))
          | (rw [if_pos q36] at q; dsimp only at q; rw [if_neg (by omega)] at q; exact q (by omega) (by omega))
theorem c_m_spun {h : zH} {t : Int} (hm : MI h) (hs : SI (h 39 0) (h 39 9) (sm1 h) (sm2 h)) (r_t : -2147483648 ≤ t ∧ t ≤ 2147483647) : zC M_m_spun [vR 39, vI t] h (pV (vI (if 0 ≤ t ∧ t ≤ 2 then (if t = 0 then (spn (snB (gm h) (sm1 h) (sm2 h) (h 39 9)) 60).1 else if t = 1 then (spn (snB (gm h) (sm1 h) (sm2 h) (h 39 9)) 60).2.1 else (spn (snB (gm h) (sm1 h) (sm2 h) (h 39 9)) 60).2.2) else -1)) h) := by
  refine zC.ofN 4 (by decide) (by first | decide | exact Nat.le_of_ble_eq_true rfl) ?_
  show Z M_m_spun _ 0 [vR 39, vI t, vU, vU, vU, vU] [] h
  refine z_iload_n D_m_spun_0 rfl ?_
  refine z_iconst D_m_spun_1 ?_
  refine z_iconst D_m_spun_2 ?_
  refine z_S3 (c_m_in (by omega) (by omega) (by omega)) G_m_in S_m_in lk_m_69 ⟨Nat.le_of_ble_eq_true rfl, Nat.le_of_ble_eq_true rfl⟩ (Nat.le_of_ble_eq_true rfl) D_m_spun_3 ?_
  refine z_ifneB (tgt := 11) D_m_spun_6 (by decide) (fun q6 => ?_) (fun q6 => ?_)
  · refine z_iconst D_m_spun_11 ?_
    refine z_istore_2 D_m_spun_12 (Nat.le_of_ble_eq_true rfl) rfl ?_
    refine z_bipush (by decide) D_m_spun_13 ?_
    refine z_istore_3 D_m_spun_15 (Nat.le_of_ble_eq_true rfl) rfl ?_
    refine z_bipush (by decide) D_m_spun_16 ?_
    refine z_istore_4 D_m_spun_18 (Nat.le_of_ble_eq_true rfl) rfl ?_
    refine z_iconst D_m_spun_20 ?_
    refine z_istore_5 D_m_spun_21 (Nat.le_of_ble_eq_true rfl) rfl ?_
    rw [if_pos (by omega)]
    exact l_m_spun hm hs (by omega) rfl (61 : Nat) 1 (by omega) (by omega) (by omega)
  · refine z_iconst D_m_spun_9 ?_
    exact z_ireturn rfl D_m_spun_10 (pvI (by (repeat' split) <;> first | rfl | omega | (exfalso; omega)) rfl)

theorem l_x_speedsAsSeen {h : zH} {w : Nat} (hx : XI h w) (hs : SI (h w 3) (h 19 2) (sx1 h) (sx2 h)) : ∀ (k : Nat) (v : Int), 1 ≤ v → v ≤ 61 → 61 - v < k → Z M_x_speedsAsSeen (pV (vL ((bitsF (snB (gx h w) (sx1 h) (sx2 h) (h 19 2)) 60 : Nat) : Int)) h) 4 [vR 0, vL ((bitsF (snB (gx h w) (sx1 h) (sx2 h) (h 19 2)) (v - 1).toNat : Nat) : Int), vU, vI v] [] h := by
  intro k
  induction k with
  | zero => intro v h0 h1 h2; omega
  | succ k ih =>
    intro v h0 h1 h2
    have e := bitsF_1 (b := snB (gx h w) (sx1 h) (sx2 h) (h 19 2)) h0
    have q := ih (v + 1) (by omega)
    rw [e] at q
    have hxt : v = 61 → bitsF (snB (gx h w) (sx1 h) (sx2 h) (h 19 2)) (v - 1).toNat = bitsF (snB (gx h w) (sx1 h) (sx2 h) (h 19 2)) 60 := fun e9 => by rw [e9]; rfl
    refine z_iload_n D_x_speedsAsSeen_4 rfl ?_
    refine z_bipush (by decide) D_x_speedsAsSeen_5 ?_
    refine z_icmp_gt (tgt := 30) D_x_speedsAsSeen_7 (by decide) (by omega) (by omega) (fun q7 => ?_) (fun q7 => ?_)
    · refine z_lload_n D_x_speedsAsSeen_30 rfl ?_
      exact z_lreturn rfl D_x_speedsAsSeen_31 (pvL (by rw [hxt (by omega)]) rfl)
    · refine z_aload_n D_x_speedsAsSeen_10 rfl ?_
      refine z_iload_n D_x_speedsAsSeen_11 rfl ?_
      refine z_V1 (c0 := 11) (c_x_isAsSeen hx hs (by omega)) G_x_isAsSeen I_x_isAsSeen lk_x_220 (rfl) ⟨by decide, rfl⟩ ⟨Nat.le_of_ble_eq_true rfl, Nat.le_of_ble_eq_true rfl⟩ (Nat.le_of_ble_eq_true rfl) D_x_speedsAsSeen_12 ?_
      refine z_ifeqB (tgt := 24) D_x_speedsAsSeen_15 (by decide) (fun q15 => ?_) (fun q15 => ?_)
      · refine z_iinc_3 D_x_speedsAsSeen_24 (Nat.le_of_ble_eq_true rfl) rfl ?_
        refine z_goto (tgt := 4) D_x_speedsAsSeen_27 (by decide) ?_
        first
        | (rw [if_neg q15] at q; exact q (by omega) (by omega))
        | (rw [if_pos q15] at q; exact q (by omega) (by omega))
      · refine z_lload_n D_x_speedsAsSeen_18 rfl ?_
        refine z_lconst1 D_x_speedsAsSeen_19 ?_
        refine z_iload_n D_x_speedsAsSeen_20 rfl ?_
        refine z_lshl D_x_speedsAsSeen_21 v.toNat (by omega) (by omega) ?_
        refine z_lor D_x_speedsAsSeen_22 _ _ rfl rfl ?_
        refine z_lstore_1 D_x_speedsAsSeen_23 (Nat.le_of_ble_eq_true rfl) rfl ?_
        refine z_iinc_3 D_x_speedsAsSeen_24 (Nat.le_of_ble_eq_true rfl) rfl ?_
        refine z_goto (tgt := 4) D_x_speedsAsSeen_27 (by decide) ?_
        first
        | (rw [if_neg q15] at q; exact q (by omega) (by omega))
        | (rw [if_pos q15] at q; exact q (by omega) (by omega))
theorem c_x_speedsAsSeen {h : zH} {w : Nat} (hx : XI h w) (hs : SI (h w 3) (h 19 2) (sx1 h) (sx2 h)) : zC M_x_speedsAsSeen [vR 0] h (pV (vL ((bitsF (snB (gx h w) (sx1 h) (sx2 h) (h 19 2)) 60 : Nat) : Int)) h) := by
  refine zC.ofN 3 (by decide) (by first | decide | exact Nat.le_of_ble_eq_true rfl) ?_
  show Z M_x_speedsAsSeen _ 0 [vR 0, vU, vU, vU] [] h
  refine z_lconst0 D_x_speedsAsSeen_0 ?_
  refine z_lstore_1 D_x_speedsAsSeen_1 (Nat.le_of_ble_eq_true rfl) rfl ?_
  refine z_iconst D_x_speedsAsSeen_2 ?_
  refine z_istore_3 D_x_speedsAsSeen_3 (Nat.le_of_ble_eq_true rfl) rfl ?_
  exact l_x_speedsAsSeen hx hs (61 : Nat) 1 (by omega) (by omega) (by omega)

