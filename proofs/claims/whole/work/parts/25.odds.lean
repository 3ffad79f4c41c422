/-! try of the other side; odds -/
theorem c_m_greatestE {h h1 : zH} {v : Int} (hs : HI (h 39 11) (hm1 h) (hm2 h)) (hE : ∀ a, a < 51 → h1 a = h a) (hv : 1 ≤ v ∧ v ≤ 60) : zC M_m_greatest [vR 39, vI v] h1 (pM (vI (mstP (sndF v) (lawsL (lawB (hdB (hm1 h) (hm2 h) (h 39 11))) 100) (lawsL (lawB (hdB (hm1 h) (hm2 h) (h 39 11))) 100).length)) h) := by
  have e1 : hm1 h1 = hm1 h := by funext j; unfold hm1; rw [hE 46 (by omega)]
  have e2 : hm2 h1 = hm2 h := by funext j; unfold hm2; rw [hE 46 (by omega)]
  have e3 : h1 39 = h 39 := hE 39 (by omega)
  have q := c_m_greatest (h := h1) (by rw [e1, e2, e3]; exact hs) hv
  rw [e1, e2, e3] at q
  exact q.weak (fun v h2 hp => ⟨hp.1, fun a ha => (hp.2 a ha).trans (hE a ha)⟩)
theorem c_m_laws0 {h : zH} (hs : HI (h 39 11) (hm1 h) (hm2 h)) : zC M_m_laws [vR 39, vI 0] h (pV (vI ((lawsL (lawB (hdB (hm1 h) (hm2 h) (h 39 11))) 100).length : Int)) h) := by
  have q := c_m_laws (t := 0) hs (by omega)
  rw [if_pos (by omega), if_pos rfl] at q
  exact q
theorem l_m_tryNext {h : zH} (hs : HI (h 39 11) (hm1 h) (hm2 h)) {y : Int} (hY : (tnF (fun v => mstP (sndF v) (lawsL (lawB (hdB (hm1 h) (hm2 h) (h 39 11))) 100) (lawsL (lawB (hdB (hm1 h) (hm2 h) (h 39 11))) 100).length) 60).1 = y) : ∀ (k : Nat) (v : Int) (h1 : zH) (y4 y5 : zV), 1 ≤ v → v ≤ 61 → 61 - v < k → (∀ a, a < 51 → h1 a = h a) → Z M_m_tryNext (pM (vI y) h) 18 [vR 39, vI (tnF (fun v => mstP (sndF v) (lawsL (lawB (hdB (hm1 h) (hm2 h) (h 39 11))) 100) (lawsL (lawB (hdB (hm1 h) (hm2 h) (h 39 11))) 100).length) (v - 1).toNat).1, vI (tnF (fun v => mstP (sndF v) (lawsL (lawB (hdB (hm1 h) (hm2 h) (h 39 11))) 100) (lawsL (lawB (hdB (hm1 h) (hm2 h) (h 39 11))) 100).length) (v - 1).toNat).2, vI v, y4, y5] [] h1 := by
  intro k
  induction k with
  | zero => intro v h1 y4 y5 h0 h2 h3; omega
  | succ k ih =>
    intro v h1 y4 y5 h0 h2 h3 hE
    have hlen := lawsL_len (hdB (hm1 h) (hm2 h) (h 39 11)) 100
    have hMin := fun v => mstP_in (sndF v) (lawsL (lawB (hdB (hm1 h) (hm2 h) (h 39 11))) 100) (lawsL (lawB (hdB (hm1 h) (hm2 h) (h 39 11))) 100).length
    have e := tnF_1 (M := (fun v => mstP (sndF v) (lawsL (lawB (hdB (hm1 h) (hm2 h) (h 39 11))) 100) (lawsL (lawB (hdB (hm1 h) (hm2 h) (h 39 11))) 100).length)) h0
    have hr := tnF_in (M := (fun v => mstP (sndF v) (lawsL (lawB (hdB (hm1 h) (hm2 h) (h 39 11))) 100) (lawsL (lawB (hdB (hm1 h) (hm2 h) (h 39 11))) 100).length)) (fun v => ⟨(hMin v).1, by have := (hMin v).2; omega⟩) (v - 1).toNat (by omega)
    have hmv := hMin v
    have q := fun h9 y4 y5 => ih (v + 1) h9 y4 y5 (by omega)
    rw [e] at q
    have hxt : v = 61 → (tnF (fun v => mstP (sndF v) (lawsL (lawB (hdB (hm1 h) (hm2 h) (h 39 11))) 100) (lawsL (lawB (hdB (hm1 h) (hm2 h) (h 39 11))) 100).length) (v - 1).toNat).1 = (tnF (fun v => mstP (sndF v) (lawsL (lawB (hdB (hm1 h) (hm2 h) (h 39 11))) 100) (lawsL (lawB (hdB (hm1 h) (hm2 h) (h 39 11))) 100).length) 60).1 := fun e9 => by rw [e9]; rfl
    generalize tnF (fun v => mstP (sndF v) (lawsL (lawB (hdB (hm1 h) (hm2 h) (h 39 11))) 100) (lawsL (lawB (hdB (hm1 h) (hm2 h) (h 39 11))) 100).length) (v - 1).toNat = S at q hr hxt ⊢
    obtain ⟨p, m⟩ := S
    dsimp only at q hr hxt ⊢
    generalize hmx : mstP (sndF v) (lawsL (lawB (hdB (hm1 h) (hm2 h) (h 39 11))) 100) (lawsL (lawB (hdB (hm1 h) (hm2 h) (h 39 11))) 100).length = mx at q hmv ⊢
    refine z_iload_n D_m_tryNext_18 rfl ?_
    refine z_bipush (by decide) D_m_tryNext_19 ?_
    refine z_icmp_gt (tgt := 77) D_m_tryNext_21 (by decide) (by omega) (by omega) (fun q21 => ?_) (fun q21 => ?_)
    · refine z_iload_n D_m_tryNext_77 rfl ?_
      exact z_ireturn rfl D_m_tryNext_78 (pmI (by rw [← hY, ← hxt (by omega)]) hE)
    · refine z_aload_n D_m_tryNext_24 rfl ?_
      refine z_iload_n D_m_tryNext_25 rfl ?_
      refine z_V1q (c0 := 12) (c_m_greatestE hs hE (by omega)) G_m_greatest I_m_greatest lk_m_227 (rfl) ⟨by decide, rfl⟩ ⟨Nat.le_of_ble_eq_true rfl, Nat.le_of_ble_eq_true rfl⟩ (Nat.le_of_ble_eq_true rfl) D_m_tryNext_26 (fun v9 h9 hp9 => ?_)
      obtain ⟨rfl, hE9⟩ := hp9
      rw [hmx]
      show Z _ _ _ _ [vI mx] _
      refine z_istore_4 D_m_tryNext_29 (Nat.le_of_ble_eq_true rfl) rfl ?_
      refine z_iload_n D_m_tryNext_31 rfl ?_
      refine z_if_lt (tgt := 41) D_m_tryNext_32 (by decide) (by omega) (fun q32 => ?_) (fun q32 => ?_)
      · refine z_iconst D_m_tryNext_41 ?_
        refine z_goto (tgt := 46) D_m_tryNext_42 (by decide) ?_
        refine z_istore_5 D_m_tryNext_46 (Nat.le_of_ble_eq_true rfl) rfl ?_
        refine z_iload D_m_tryNext_48 rfl ?_
        refine z_if_eq (tgt := 57) D_m_tryNext_50 (by decide) (by decide) (fun q => absurd q (by decide)) (fun _ => ?_)
        refine z_iload_n D_m_tryNext_53 rfl ?_
        refine z_goto (tgt := 58) D_m_tryNext_54 (by decide) ?_
        refine z_istore_1 D_m_tryNext_58 (Nat.le_of_ble_eq_true rfl) rfl ?_
        refine z_iload D_m_tryNext_59 rfl ?_
        refine z_if_eq (tgt := 69) D_m_tryNext_61 (by decide) (by decide) (fun q => absurd q (by decide)) (fun _ => ?_)
        refine z_iload D_m_tryNext_64 rfl ?_
        refine z_goto (tgt := 70) D_m_tryNext_66 (by decide) ?_
        refine z_istore_2 D_m_tryNext_70 (Nat.le_of_ble_eq_true rfl) rfl ?_
        refine z_iinc_3 D_m_tryNext_71 (Nat.le_of_ble_eq_true rfl) rfl ?_
        refine z_goto (tgt := 18) D_m_tryNext_74 (by decide) ?_
        first
        | (rw [if_pos (by omega)] at q; exact q h9 _ _ (by omega) (by omega) hE9)
        | (rw [if_neg (by omega)] at q; exact q h9 _ _ (by omega) (by omega) hE9)
      · refine z_iload D_m_tryNext_35 rfl ?_
        refine z_iload_n D_m_tryNext_37 rfl ?_
        refine z_icmp_ge (tgt := 45) D_m_tryNext_38 (by decide) (by omega) (by omega) (fun q38 => ?_) (fun q38 => ?_)
        · refine z_iconst D_m_tryNext_45 ?_
          refine z_istore_5 D_m_tryNext_46 (Nat.le_of_ble_eq_true rfl) rfl ?_
          refine z_iload D_m_tryNext_48 rfl ?_
          refine z_if_eq (tgt := 57) D_m_tryNext_50 (by decide) (by decide) (fun _ => ?_) (fun q => absurd q (by decide))
          refine z_iload_n D_m_tryNext_57 rfl ?_
          refine z_istore_1 D_m_tryNext_58 (Nat.le_of_ble_eq_true rfl) rfl ?_
          refine z_iload D_m_tryNext_59 rfl ?_
          refine z_if_eq (tgt := 69) D_m_tryNext_61 (by decide) (by decide) (fun _ => ?_) (fun q => absurd q (by decide))
          refine z_iload_n D_m_tryNext_69 rfl ?_
          refine z_istore_2 D_m_tryNext_70 (Nat.le_of_ble_eq_true rfl) rfl ?_
          refine z_iinc_3 D_m_tryNext_71 (Nat.le_of_ble_eq_true rfl) rfl ?_
          refine z_goto (tgt := 18) D_m_tryNext_74 (by decide) ?_
          first
          | (rw [if_pos (by omega)] at q; exact q h9 _ _ (by omega) (by omega) hE9)
          | (rw [if_neg (by omega)] at q; exact q h9 _ _ (by omega) (by omega) hE9)
        · refine z_iconst D_m_tryNext_41 ?_
          refine z_goto (tgt := 46) D_m_tryNext_42 (by decide) ?_
          refine z_istore_5 D_m_tryNext_46 (Nat.le_of_ble_eq_true rfl) rfl ?_
          refine z_iload D_m_tryNext_48 rfl ?_
          refine z_if_eq (tgt := 57) D_m_tryNext_50 (by decide) (by decide) (fun q => absurd q (by decide)) (fun _ => ?_)
          refine z_iload_n D_m_tryNext_53 rfl ?_
          refine z_goto (tgt := 58) D_m_tryNext_54 (by decide) ?_
          refine z_istore_1 D_m_tryNext_58 (Nat.le_of_ble_eq_true rfl) rfl ?_
          refine z_iload D_m_tryNext_59 rfl ?_
          refine z_if_eq (tgt := 69) D_m_tryNext_61 (by decide) (by decide) (fun q => absurd q (by decide)) (fun _ => ?_)
          refine z_iload D_m_tryNext_64 rfl ?_
          refine z_goto (tgt := 70) D_m_tryNext_66 (by decide) ?_
          refine z_istore_2 D_m_tryNext_70 (Nat.le_of_ble_eq_true rfl) rfl ?_
          refine z_iinc_3 D_m_tryNext_71 (Nat.le_of_ble_eq_true rfl) rfl ?_
          refine z_goto (tgt := 18) D_m_tryNext_74 (by decide) ?_
          first
          | (rw [if_pos (by omega)] at q; exact q h9 _ _ (by omega) (by omega) hE9)
          | (rw [if_neg (by omega)] at q; exact q h9 _ _ (by omega) (by omega) hE9)
theorem c_m_tryNext {h : zH}  (hs : HI (h 39 11) (hm1 h) (hm2 h)) : zC M_m_tryNext [vR 39] h (pM (vI (if (lawsL (lawB (hdB (hm1 h) (hm2 h) (h 39 11))) 100).length = 0 then -9 else (tnF (fun v => mstP (sndF v) (lawsL (lawB (hdB (hm1 h) (hm2 h) (h 39 11))) 100) (lawsL (lawB (hdB (hm1 h) (hm2 h) (h 39 11))) 100).length) 60).1)) h) := by
  refine zC.ofN 5 (by decide) (by first | decide | exact Nat.le_of_ble_eq_true rfl) ?_
  show Z M_m_tryNext _ 0 [vR 39, vU, vU, vU, vU, vU] [] h
  refine z_aload_n D_m_tryNext_0 rfl ?_
  refine z_iconst D_m_tryNext_1 ?_
  refine z_V1 (c0 := 12) (c_m_laws0 hs) G_m_laws I_m_laws lk_m_224 (rfl) ⟨by decide, rfl⟩ ⟨Nat.le_of_ble_eq_true rfl, Nat.le_of_ble_eq_true rfl⟩ (Nat.le_of_ble_eq_true rfl) D_m_tryNext_2 ?_
  refine z_if_ne (tgt := 11) D_m_tryNext_5 (by decide) (by have := lawsL_len (hdB (hm1 h) (hm2 h) (h 39 11)) 100; omega) (fun q5 => ?_) (fun q5 => ?_)
  · refine z_bipush (by decide) D_m_tryNext_11 ?_
    refine z_istore_1 D_m_tryNext_13 (Nat.le_of_ble_eq_true rfl) rfl ?_
    refine z_iconst D_m_tryNext_14 ?_
    refine z_istore_2 D_m_tryNext_15 (Nat.le_of_ble_eq_true rfl) rfl ?_
    refine z_iconst D_m_tryNext_16 ?_
    refine z_istore_3 D_m_tryNext_17 (Nat.le_of_ble_eq_true rfl) rfl ?_
    rw [if_neg (by omega)]
    exact l_m_tryNext hs rfl (61 : Nat) 1 h vU vU (by omega) (by omega) (by omega) (fun a q => rfl)
  · refine z_bipush (by decide) D_m_tryNext_8 ?_
    exact z_ireturn rfl D_m_tryNext_10 (pmI (by rw [if_pos (by omega)]) (fun a q => rfl))

def euN : Nat → Nat → Nat → Nat
  | 0, a, _ => a
  | f + 1, a, b => if 0 < b then euN f b (a % b) else a
theorem euN_gcd : ∀ (n f a b : Nat), b < 2 ^ n → 2 * n ≤ f → euN f a b = Nat.gcd a b
  | 0, f, a, b, hb, _ => by
    have : b = 0 := by simpa using hb
    subst this
    cases f with
    | zero => simp [euN]
    | succ f => simp [euN]
  | n + 1, f, a, b, hb, hf => by
    obtain ⟨g, rfl⟩ : ∃ g, f = g + 2 := ⟨f - 2, by omega⟩
    by_cases h0 : 0 < b
    · by_cases h1 : 0 < a % b
      · have hr : a % b < b := Nat.mod_lt _ h0
        have h2 : b % (a % b) < 2 ^ n := by
          have h3 : b % (a % b) < a % b := Nat.mod_lt _ h1
          have h4 : 2 ^ (n + 1) = 2 * 2 ^ n := by rw [Nat.pow_succ, Nat.mul_comm]
          by_cases h5 : 2 * (a % b) ≤ b
          · omega
          · have h6 : b % (a % b) = b - a % b := by
              rw [Nat.mod_eq_sub_mod (by omega), Nat.mod_eq_of_lt (by omega)]
            omega
        have ih := euN_gcd n g (a % b) (b % (a % b)) h2 (by omega)
        show (if 0 < b then (if 0 < a % b then euN g (a % b) (b % (a % b)) else b) else a) = _
        rw [if_pos h0, if_pos h1, ih, Nat.gcd_comm, ← Nat.gcd_rec, ← Nat.gcd_rec, Nat.gcd_comm]
      · have h2 : a % b = 0 := by omega
        show (if 0 < b then (if 0 < a % b then euN g (a % b) (b % (a % b)) else b) else a) = _
        rw [if_pos h0, if_neg h1, Nat.gcd_comm, Nat.gcd_rec, h2, Nat.gcd_zero_left]
    · have : b = 0 := by omega
      subst this
      simp [euN]
theorem l_x_commonDivisor {h : zH} {a0 b0 : Int} : ∀ (k : Nat) (i : Int) (a b : Nat) (y5 : zV), 0 ≤ i → i + k = 64 → a ≤ 1000 → b ≤ 1000 → Z M_x_commonDivisor (pV (vI (euN k a b : Int)) h) 7 [vI a0, vI b0, vI (a : Int), vI (b : Int), vI i, y5] [] h := by
  intro k
  induction k with
  | zero =>
    intro i a b y5 h0 h1 ha hb
    refine z_iload D_x_commonDivisor_7 rfl ?_
    refine z_bipush (by decide) D_x_commonDivisor_9 ?_
    refine z_icmp_ge (tgt := 34) D_x_commonDivisor_11 (by decide) (by omega) (by omega) (fun q11 => ?_) (fun q11 => ?_)
    · refine z_iload_n D_x_commonDivisor_34 rfl ?_
      exact z_ireturn rfl D_x_commonDivisor_35 (pvI rfl rfl)
    · omega
  | succ k ih =>
    intro i a b y5 h0 h1 ha hb
    refine z_iload D_x_commonDivisor_7 rfl ?_
    refine z_bipush (by decide) D_x_commonDivisor_9 ?_
    refine z_icmp_ge (tgt := 34) D_x_commonDivisor_11 (by decide) (by omega) (by omega) (fun q11 => ?_) (fun q11 => ?_)
    · exfalso
      omega
    · refine z_iload_n D_x_commonDivisor_14 rfl ?_
      refine z_if_le (tgt := 34) D_x_commonDivisor_15 (by decide) (by omega) (fun q15 => ?_) (fun q15 => ?_)
      · refine z_iload_n D_x_commonDivisor_34 rfl ?_
        have e : euN (k + 1) a b = a := if_neg (by omega)
        exact z_ireturn rfl D_x_commonDivisor_35 (pvI (by rw [e]) rfl)
      · refine z_iload_n D_x_commonDivisor_18 rfl ?_
        refine z_iload_n D_x_commonDivisor_19 rfl ?_
        refine z_irem_p D_x_commonDivisor_20 (by omega) (by omega) ?_
        refine z_istore_5 D_x_commonDivisor_21 (Nat.le_of_ble_eq_true rfl) rfl ?_
        refine z_iload_n D_x_commonDivisor_23 rfl ?_
        refine z_istore_2 D_x_commonDivisor_24 (Nat.le_of_ble_eq_true rfl) rfl ?_
        refine z_iload D_x_commonDivisor_25 rfl ?_
        refine z_istore_3 D_x_commonDivisor_27 (Nat.le_of_ble_eq_true rfl) rfl ?_
        refine z_iinc_4 D_x_commonDivisor_28 (Nat.le_of_ble_eq_true rfl) rfl ?_
        refine z_goto (tgt := 7) D_x_commonDivisor_31 (by decide) ?_
        have e : euN (k + 1) a b = euN k b (a % b) := by
          show (if 0 < b then _ else _) = _
          rw [if_pos (by omega)]
        rw [e]
        exact ih (i + 1) b (a % b) _ (by omega) (by omega) hb (Nat.le_trans (Nat.mod_le _ _) ha)
def dvs (a b : Int) : Int := ((Nat.gcd a.toNat b.toNat : Nat) : Int)
theorem c_x_commonDivisor {h : zH} {a b : Int} (ha : 0 ≤ a ∧ a ≤ 600) (hb : 0 ≤ b ∧ b ≤ 600) : zC M_x_commonDivisor [vI a, vI b] h (pV (vI (dvs a b)) h) := by
  refine zC.ofN 4 (by decide) (by first | decide | exact Nat.le_of_ble_eq_true rfl) ?_
  show Z M_x_commonDivisor _ 0 [vI a, vI b, vU, vU, vU, vU] [] h
  refine z_iload_n D_x_commonDivisor_0 rfl ?_
  refine z_istore_2 D_x_commonDivisor_1 (Nat.le_of_ble_eq_true rfl) rfl ?_
  refine z_iload_n D_x_commonDivisor_2 rfl ?_
  refine z_istore_3 D_x_commonDivisor_3 (Nat.le_of_ble_eq_true rfl) rfl ?_
  refine z_iconst D_x_commonDivisor_4 ?_
  refine z_istore_4 D_x_commonDivisor_5 (Nat.le_of_ble_eq_true rfl) rfl ?_
  have q := l_x_commonDivisor (h := h) (a0 := a) (b0 := b) 64 0 a.toNat b.toNat vU (by omega) (by omega) (by omega) (by omega)
  rw [tn ha.1, tn hb.1, euN_gcd 10 64 a.toNat b.toNat (by omega) (by omega)] at q
  exact q

theorem l_m_lowest {h : zH} {a0 b0 t : Int} {post : Option zV → zH → Prop} {g : Nat} (K : ∀ y4 y5, Z M_m_lowest post 26 [vI a0, vI b0, vI t, vI (g : Int), y4, y5] [] h) : ∀ (k a b : Nat) (y5 : zV), b < k → a ≤ 1000 → b ≤ 1000 → Nat.gcd a b = g → Z M_m_lowest post 5 [vI a0, vI b0, vI t, vI (a : Int), vI (b : Int), y5] [] h := by
  intro k
  induction k with
  | zero => intro a b y5 h0; omega
  | succ k ih =>
    intro a b y5 h0 ha hb hg
    refine z_iload D_m_lowest_5 rfl ?_
    refine z_if_le (tgt := 26) D_m_lowest_7 (by decide) (by omega) (fun q7 => ?_) (fun q7 => ?_)
    · have e : b = 0 := by omega
      subst e
      rw [Nat.gcd_zero_right] at hg
      rw [hg]
      exact K _ _
    · refine z_iload_n D_m_lowest_10 rfl ?_
      refine z_iload D_m_lowest_11 rfl ?_
      refine z_irem_p D_m_lowest_13 (by omega) (by omega) ?_
      refine z_istore_5 D_m_lowest_14 (Nat.le_of_ble_eq_true rfl) rfl ?_
      refine z_iload D_m_lowest_16 rfl ?_
      refine z_istore_3 D_m_lowest_18 (Nat.le_of_ble_eq_true rfl) rfl ?_
      refine z_iload D_m_lowest_19 rfl ?_
      refine z_istore_4 D_m_lowest_21 (Nat.le_of_ble_eq_true rfl) rfl ?_
      refine z_goto (tgt := 5) D_m_lowest_23 (by decide) ?_
      have hlt : a % b < b := Nat.mod_lt _ (by omega)
      exact ih b (a % b) _ (by omega) hb (Nat.le_trans (Nat.mod_le _ _) ha) (by rw [Nat.gcd_comm, ← Nat.gcd_rec, Nat.gcd_comm]; exact hg)
theorem c_m_lowest {h : zH} {a b t : Int} (ha : 0 ≤ a ∧ a ≤ 600) (hb : 0 < b ∧ b ≤ 600) (ht : 0 ≤ t ∧ t ≤ 1) : zC M_m_lowest [vI a, vI b, vI t] h (pV (vI (if t = 0 then a / dvs b a else b / dvs b a)) h) := by
  refine zC.ofN 3 (by decide) (by first | decide | exact Nat.le_of_ble_eq_true rfl) ?_
  show Z M_m_lowest _ 0 [vI a, vI b, vI t, vU, vU, vU] [] h
  refine z_iload_n D_m_lowest_0 rfl ?_
  refine z_istore_3 D_m_lowest_1 (Nat.le_of_ble_eq_true rfl) rfl ?_
  refine z_iload_n D_m_lowest_2 rfl ?_
  refine z_istore_4 D_m_lowest_3 (Nat.le_of_ble_eq_true rfl) rfl ?_
  have hg : 0 < Nat.gcd a.toNat b.toNat := Nat.gcd_pos_of_pos_right _ (by omega)
  have hg2 : Nat.gcd a.toNat b.toNat ≤ b.toNat := Nat.gcd_le_right _ (by omega)
  have ed : dvs b a = ((Nat.gcd a.toNat b.toNat : Nat) : Int) := by unfold dvs; rw [Nat.gcd_comm]
  have q := fun K => l_m_lowest (h := h) (a0 := a) (b0 := b) (t := t) (post := pV (vI (if t = 0 then a / dvs b a else b / dvs b a)) h) (g := Nat.gcd a.toNat b.toNat) K (601 : Nat) a.toNat b.toNat vU (by omega) (by omega) (by omega) rfl
  rw [tn ha.1, tn (by omega)] at q
  refine q (fun y4 y5 => ?_)
  rw [ed]
  generalize Nat.gcd a.toNat b.toNat = g at hg hg2 ⊢
  refine z_iload_n D_m_lowest_26 rfl ?_
  refine z_if_ne (tgt := 34) D_m_lowest_27 (by decide) (by omega) (fun q27 => ?_) (fun q27 => ?_)
  · refine z_iload_n D_m_lowest_34 rfl ?_
    refine z_iload_n D_m_lowest_35 rfl ?_
    refine z_idiv D_m_lowest_36 (by omega) (by omega) ?_
    exact z_ireturn rfl D_m_lowest_37 (pvI (by (repeat' split) <;> first | rfl | omega | (exfalso; omega)) rfl)
  · refine z_iload_n D_m_lowest_30 rfl ?_
    refine z_goto (tgt := 35) D_m_lowest_31 (by decide) ?_
    refine z_iload_n D_m_lowest_35 rfl ?_
    refine z_idiv D_m_lowest_36 (by omega) (by omega) ?_
    exact z_ireturn rfl D_m_lowest_37 (pvI (by (repeat' split) <;> first | rfl | omega | (exfalso; omega)) rfl)

theorem up_in {x c m k : Int} (hx : 0 ≤ x ∧ x ≤ 10) (hm : 1 ≤ m ∧ m ≤ 60) (hk : 0 ≤ k ∧ k ≤ m) : 0 ≤ (10 - x) * k ∧ 0 ≤ x * m ∧ (10 - x) * k + x * m ≤ 600 ∧ (10 - x) * k + (if c = 0 then x * m else 0) ≤ 600 ∧ 0 ≤ (10 - x) * k + (if c = 0 then x * m else 0) := by
  have h1 : 0 ≤ (10 - x) * k := Int.mul_nonneg (by omega) hk.1
  have h2 : 0 ≤ x * m := Int.mul_nonneg hx.1 (by omega)
  have h3 : (10 - x) * k ≤ (10 - x) * m := Int.mul_le_mul_of_nonneg_left hk.2 (by omega)
  have h4 : (10 - x) * m + x * m = 10 * m := by rw [← Int.add_mul]; congr 1; omega
  refine ⟨h1, h2, by omega, ?_, ?_⟩ <;> split <;> omega
theorem dvs_in {a b : Int} (ha : 0 < a) : 0 < dvs a b ∧ dvs a b ≤ a := by
  unfold dvs
  have h1 : 0 < Nat.gcd a.toNat b.toNat := Nat.gcd_pos_of_pos_left _ (by omega)
  have h2 : Nat.gcd a.toNat b.toNat ≤ a.toNat := Nat.gcd_le_left _ (by omega)
  omega
theorem c_x_odds {h : zH} {w : Nat} {s c m x t : Int} (hx : XI h w) (r_s : -2147483648 ≤ s ∧ s ≤ 2147483647) (r_c : -2147483648 ≤ c ∧ c ≤ 2147483647) (r_m : -2147483648 ≤ m ∧ m ≤ 2147483647) (r_x : -2147483648 ≤ x ∧ x ≤ 2147483647) (r_t : -2147483648 ≤ t ∧ t ≤ 2147483647) : zC M_x_odds [vR 0, vI s, vI c, vI m, vI x, vI t] h (pV (vI (if (0 ≤ s ∧ s < h w 3) ∧ (0 ≤ c ∧ c ≤ 5) ∧ (1 ≤ m ∧ m ≤ 60) ∧ (0 ≤ x ∧ x ≤ 10) ∧ (0 ≤ t ∧ t ≤ 1) then (if t = 0 then ((10 - x) * cntS (gx h w s) c m.toNat + (if c = 0 then x * m else 0)) / dvs (10 * m) ((10 - x) * cntS (gx h w s) c m.toNat + (if c = 0 then x * m else 0)) else 10 * m / dvs (10 * m) ((10 - x) * cntS (gx h w s) c m.toNat + (if c = 0 then x * m else 0))) else -1)) h) := by
  refine zC.ofN 5 (by decide) (by first | decide | exact Nat.le_of_ble_eq_true rfl) ?_
  show Z M_x_odds _ 0 [vR 0, vI s, vI c, vI m, vI x, vI t, vU, vU, vU, vU, vU] [] h
  have hw := hx.2.1
  have hu := hx.2.2.1
  have hn := hx.2.2.2.hn
  have hnp := hx.2.2.2.hnp
  have ht0 := hx.2.2.2.row.ht
  have hh0 := hx.2.2.2.row.hh
  have hc0 := hx.2.2.2.row.hc
  refine z_aload_n D_x_odds_0 rfl ?_
  refine z_getW fl_x_19 (by decide) hx.1 D_x_odds_1 ?_
  refine z_iload_n D_x_odds_4 rfl ?_
  refine z_V1 (c0 := 10) (c_w_hasSpot hw hn (by omega)) G_w_hasSpot I_w_hasSpot lk_x_122 (kw hw) ⟨by decide, rfl⟩ ⟨Nat.le_of_ble_eq_true rfl, Nat.le_of_ble_eq_true rfl⟩ (Nat.le_of_ble_eq_true rfl) D_x_odds_5 ?_
  refine z_ifeqB (tgt := 46) D_x_odds_8 (by decide) (fun q8 => ?_) (fun q8 => ?_)
  · refine z_iconst D_x_odds_46 ?_
    exact z_ireturn rfl D_x_odds_47 (pvI (by (repeat' split) <;> first | rfl | omega | (exfalso; omega)) rfl)
  · refine z_iload_n D_x_odds_11 rfl ?_
    refine z_S1 (c_x_isColour (by omega)) G_x_isColour S_x_isColour lk_x_199 ⟨Nat.le_of_ble_eq_true rfl, Nat.le_of_ble_eq_true rfl⟩ (Nat.le_of_ble_eq_true rfl) D_x_odds_12 ?_
    refine z_ifeqB (tgt := 46) D_x_odds_15 (by decide) (fun q15 => ?_) (fun q15 => ?_)
    · refine z_iconst D_x_odds_46 ?_
      exact z_ireturn rfl D_x_odds_47 (pvI (by (repeat' split) <;> first | rfl | omega | (exfalso; omega)) rfl)
    · refine z_iload_n D_x_odds_18 rfl ?_
      refine z_S1 (c_x_isSpeed (by omega)) G_x_isSpeed S_x_isSpeed lk_x_152 ⟨Nat.le_of_ble_eq_true rfl, Nat.le_of_ble_eq_true rfl⟩ (Nat.le_of_ble_eq_true rfl) D_x_odds_19 ?_
      refine z_ifeqB (tgt := 46) D_x_odds_22 (by decide) (fun q22 => ?_) (fun q22 => ?_)
      · refine z_iconst D_x_odds_46 ?_
        exact z_ireturn rfl D_x_odds_47 (pvI (by (repeat' split) <;> first | rfl | omega | (exfalso; omega)) rfl)
      · refine z_iload D_x_odds_25 rfl ?_
        refine z_iconst D_x_odds_27 ?_
        refine z_bipush (by decide) D_x_odds_28 ?_
        refine z_S3 (c_x_isWithin (by omega) (by omega) (by omega)) G_x_isWithin S_x_isWithin lk_x_99 ⟨Nat.le_of_ble_eq_true rfl, Nat.le_of_ble_eq_true rfl⟩ (Nat.le_of_ble_eq_true rfl) D_x_odds_30 ?_
        refine z_ifeqB (tgt := 46) D_x_odds_33 (by decide) (fun q33 => ?_) (fun q33 => ?_)
        · refine z_iconst D_x_odds_46 ?_
          exact z_ireturn rfl D_x_odds_47 (pvI (by (repeat' split) <;> first | rfl | omega | (exfalso; omega)) rfl)
        · refine z_iload D_x_odds_36 rfl ?_
          refine z_iconst D_x_odds_38 ?_
          refine z_iconst D_x_odds_39 ?_
          refine z_S3 (c_x_isWithin (by omega) (by omega) (by omega)) G_x_isWithin S_x_isWithin lk_x_99 ⟨Nat.le_of_ble_eq_true rfl, Nat.le_of_ble_eq_true rfl⟩ (Nat.le_of_ble_eq_true rfl) D_x_odds_40 ?_
          refine z_ifneB (tgt := 48) D_x_odds_43 (by decide) (fun q43 => ?_) (fun q43 => ?_)
          · refine z_bipush (by decide) D_x_odds_48 ?_
            refine z_iload D_x_odds_50 rfl ?_
            refine z_isub D_x_odds_52 ?_
            refine z_aload_n D_x_odds_53 rfl ?_
            refine z_iload_n D_x_odds_54 rfl ?_
            refine z_iload_n D_x_odds_55 rfl ?_
            refine z_iload_n D_x_odds_56 rfl ?_
            refine z_V3 (c0 := 11) (c_x_speedsFor hx (by omega) (by omega) (by omega)) G_x_speedsFor I_x_speedsFor lk_x_202 (rfl) ⟨by decide, rfl⟩ ⟨Nat.le_of_ble_eq_true rfl, Nat.le_of_ble_eq_true rfl⟩ (Nat.le_of_ble_eq_true rfl) D_x_odds_57 ?_
            refine z_imul D_x_odds_60 ?_
            have hu := up_in (c := c) (x := x) (m := m) (k := cntS (gx h w s) c m.toNat) (by omega) (by omega) (by have := cnt_in (gx h w s) c m.toNat; omega)
            refine z_istore_6 D_x_odds_61 (Nat.le_of_ble_eq_true rfl) rfl ?_
            refine z_iload_n D_x_odds_63 rfl ?_
            refine z_if_ne (tgt := 74) D_x_odds_64 (by decide) (by omega) (fun q64 => ?_) (fun q64 => ?_)
            · refine z_iconst D_x_odds_74 ?_
              refine z_istore_7 D_x_odds_75 (Nat.le_of_ble_eq_true rfl) rfl ?_
              refine z_iload D_x_odds_77 rfl ?_
              refine z_iload D_x_odds_79 rfl ?_
              refine z_iadd D_x_odds_81 ?_
              rw [show (10 - x) * cntS (gx h w s) c m.toNat + 0 = ((10 - x) * cntS (gx h w s) c m.toNat + (if c = 0 then x * m else 0)) by rw [if_neg q64]]
              generalize hU : ((10 - x) * cntS (gx h w s) c m.toNat + (if c = 0 then x * m else 0)) = U at hu ⊢
              refine z_istore_8 D_x_odds_82 (Nat.le_of_ble_eq_true rfl) rfl ?_
              refine z_bipush (by decide) D_x_odds_84 ?_
              refine z_iload_n D_x_odds_86 rfl ?_
              refine z_imul D_x_odds_87 ?_
              refine z_istore_9 D_x_odds_88 (Nat.le_of_ble_eq_true rfl) rfl ?_
              refine z_iload D_x_odds_90 rfl ?_
              refine z_iload D_x_odds_92 rfl ?_
              refine z_S2 (c_x_commonDivisor (by omega) (by omega)) G_x_commonDivisor S_x_commonDivisor lk_x_215 ⟨Nat.le_of_ble_eq_true rfl, Nat.le_of_ble_eq_true rfl⟩ (Nat.le_of_ble_eq_true rfl) D_x_odds_94 ?_
              have hdv := dvs_in (a := 10 * m) (b := U) (by omega)
              refine z_istore_10 D_x_odds_97 (Nat.le_of_ble_eq_true rfl) rfl ?_
              refine z_iload D_x_odds_99 rfl ?_
              refine z_if_ne (tgt := 106) D_x_odds_101 (by decide) (by omega) (fun q101 => ?_) (fun q101 => ?_)
              · refine z_iload D_x_odds_106 rfl ?_
                refine z_if_ne (tgt := 119) D_x_odds_108 (by decide) (by omega) (fun q108 => ?_) (fun q108 => ?_)
                · refine z_iload D_x_odds_119 rfl ?_
                  refine z_iload D_x_odds_121 rfl ?_
                  refine z_idiv D_x_odds_123 (by omega) (by omega) ?_
                  exact z_ireturn rfl D_x_odds_124 (pvI (by rw [if_pos (by omega)]; (repeat' split) <;> first | rfl | omega | (exfalso; omega)) rfl)
                · refine z_iload D_x_odds_111 rfl ?_
                  refine z_iload D_x_odds_113 rfl ?_
                  refine z_idiv D_x_odds_115 (by omega) (by omega) ?_
                  refine z_goto (tgt := 124) D_x_odds_116 (by decide) ?_
                  exact z_ireturn rfl D_x_odds_124 (pvI (by rw [if_pos (by omega)]; (repeat' split) <;> first | rfl | omega | (exfalso; omega)) rfl)
              · omega
            · refine z_iload D_x_odds_67 rfl ?_
              refine z_iload_n D_x_odds_69 rfl ?_
              refine z_imul D_x_odds_70 ?_
              refine z_goto (tgt := 75) D_x_odds_71 (by decide) ?_
              refine z_istore_7 D_x_odds_75 (Nat.le_of_ble_eq_true rfl) rfl ?_
              refine z_iload D_x_odds_77 rfl ?_
              refine z_iload D_x_odds_79 rfl ?_
              refine z_iadd D_x_odds_81 ?_
              rw [show (10 - x) * cntS (gx h w s) c m.toNat + x * m = ((10 - x) * cntS (gx h w s) c m.toNat + (if c = 0 then x * m else 0)) by rw [if_pos q64]]
              generalize hU : ((10 - x) * cntS (gx h w s) c m.toNat + (if c = 0 then x * m else 0)) = U at hu ⊢
              refine z_istore_8 D_x_odds_82 (Nat.le_of_ble_eq_true rfl) rfl ?_
              refine z_bipush (by decide) D_x_odds_84 ?_
              refine z_iload_n D_x_odds_86 rfl ?_
              refine z_imul D_x_odds_87 ?_
              refine z_istore_9 D_x_odds_88 (Nat.le_of_ble_eq_true rfl) rfl ?_
              refine z_iload D_x_odds_90 rfl ?_
              refine z_iload D_x_odds_92 rfl ?_
              refine z_S2 (c_x_commonDivisor (by omega) (by omega)) G_x_commonDivisor S_x_commonDivisor lk_x_215 ⟨Nat.le_of_ble_eq_true rfl, Nat.le_of_ble_eq_true rfl⟩ (Nat.le_of_ble_eq_true rfl) D_x_odds_94 ?_
              have hdv := dvs_in (a := 10 * m) (b := U) (by omega)
              refine z_istore_10 D_x_odds_97 (Nat.le_of_ble_eq_true rfl) rfl ?_
              refine z_iload D_x_odds_99 rfl ?_
              refine z_if_ne (tgt := 106) D_x_odds_101 (by decide) (by omega) (fun q101 => ?_) (fun q101 => ?_)
              · refine z_iload D_x_odds_106 rfl ?_
                refine z_if_ne (tgt := 119) D_x_odds_108 (by decide) (by omega) (fun q108 => ?_) (fun q108 => ?_)
                · refine z_iload D_x_odds_119 rfl ?_
                  refine z_iload D_x_odds_121 rfl ?_
                  refine z_idiv D_x_odds_123 (by omega) (by omega) ?_
                  exact z_ireturn rfl D_x_odds_124 (pvI (by rw [if_pos (by omega)]; (repeat' split) <;> first | rfl | omega | (exfalso; omega)) rfl)
                · refine z_iload D_x_odds_111 rfl ?_
                  refine z_iload D_x_odds_113 rfl ?_
                  refine z_idiv D_x_odds_115 (by omega) (by omega) ?_
                  refine z_goto (tgt := 124) D_x_odds_116 (by decide) ?_
                  exact z_ireturn rfl D_x_odds_124 (pvI (by rw [if_pos (by omega)]; (repeat' split) <;> first | rfl | omega | (exfalso; omega)) rfl)
              · omega
          · refine z_iconst D_x_odds_46 ?_
            exact z_ireturn rfl D_x_odds_47 (pvI (by (repeat' split) <;> first | rfl | omega | (exfalso; omega)) rfl)

theorem c_m_odds {h : zH} {s c m x t : Int} (hm : MI h) (r_s : -2147483648 ≤ s ∧ s ≤ 2147483647) (r_c : -2147483648 ≤ c ∧ c ≤ 2147483647) (r_m : -2147483648 ≤ m ∧ m ≤ 2147483647) (r_x : -2147483648 ≤ x ∧ x ≤ 2147483647) (r_t : -2147483648 ≤ t ∧ t ≤ 2147483647) : zC M_m_odds [vR 39, vI s, vI c, vI m, vI x, vI t] h (pV (vI (if (0 ≤ s ∧ s < h 39 0) ∧ (0 ≤ c ∧ c ≤ 5) ∧ (1 ≤ m ∧ m ≤ 60) ∧ (0 ≤ x ∧ x ≤ 10) ∧ (0 ≤ t ∧ t ≤ 1) then (if t = 0 then ((10 - x) * cntS (gm h s) c m.toNat + (if c = 0 then x * m else 0)) / dvs (10 * m) ((10 - x) * cntS (gm h s) c m.toNat + (if c = 0 then x * m else 0)) else 10 * m / dvs (10 * m) ((10 - x) * cntS (gm h s) c m.toNat + (if c = 0 then x * m else 0))) else -1)) h) := by
  refine zC.ofN 1 (by decide) (by first | decide | exact Nat.le_of_ble_eq_true rfl) ?_
  show Z M_m_odds _ 0 [vR 39, vI s, vI c, vI m, vI x, vI t, vU] [] h
  have hn := hm.hn
  have hnp := hm.hnp
  refine z_aload_n D_m_odds_0 rfl ?_
  refine z_iload_n D_m_odds_1 rfl ?_
  refine z_V1 (c0 := 12) (c_m_isSpot hn (by omega)) G_m_isSpot I_m_isSpot lk_m_146 (rfl) ⟨by decide, rfl⟩ ⟨Nat.le_of_ble_eq_true rfl, Nat.le_of_ble_eq_true rfl⟩ (Nat.le_of_ble_eq_true rfl) D_m_odds_2 ?_
  refine z_ifeqB (tgt := 43) D_m_odds_5 (by decide) (fun q5 => ?_) (fun q5 => ?_)
  · refine z_iconst D_m_odds_43 ?_
    exact z_ireturn rfl D_m_odds_44 (pvI (by (repeat' split) <;> first | rfl | omega | (exfalso; omega)) rfl)
  · refine z_iload_n D_m_odds_8 rfl ?_
    refine z_S1 (c_m_isColour (by omega)) G_m_isColour S_m_isColour lk_m_200 ⟨Nat.le_of_ble_eq_true rfl, Nat.le_of_ble_eq_true rfl⟩ (Nat.le_of_ble_eq_true rfl) D_m_odds_9 ?_
    refine z_ifeqB (tgt := 43) D_m_odds_12 (by decide) (fun q12 => ?_) (fun q12 => ?_)
    · refine z_iconst D_m_odds_43 ?_
      exact z_ireturn rfl D_m_odds_44 (pvI (by (repeat' split) <;> first | rfl | omega | (exfalso; omega)) rfl)
    · refine z_iload_n D_m_odds_15 rfl ?_
      refine z_S1 (c_m_isSpeed (by omega)) G_m_isSpeed S_m_isSpeed lk_m_169 ⟨Nat.le_of_ble_eq_true rfl, Nat.le_of_ble_eq_true rfl⟩ (Nat.le_of_ble_eq_true rfl) D_m_odds_16 ?_
      refine z_ifeqB (tgt := 43) D_m_odds_19 (by decide) (fun q19 => ?_) (fun q19 => ?_)
      · refine z_iconst D_m_odds_43 ?_
        exact z_ireturn rfl D_m_odds_44 (pvI (by (repeat' split) <;> first | rfl | omega | (exfalso; omega)) rfl)
      · refine z_iload D_m_odds_22 rfl ?_
        refine z_iconst D_m_odds_24 ?_
        refine z_bipush (by decide) D_m_odds_25 ?_
        refine z_S3 (c_m_in (by omega) (by omega) (by omega)) G_m_in S_m_in lk_m_69 ⟨Nat.le_of_ble_eq_true rfl, Nat.le_of_ble_eq_true rfl⟩ (Nat.le_of_ble_eq_true rfl) D_m_odds_27 ?_
        refine z_ifeqB (tgt := 43) D_m_odds_30 (by decide) (fun q30 => ?_) (fun q30 => ?_)
        · refine z_iconst D_m_odds_43 ?_
          exact z_ireturn rfl D_m_odds_44 (pvI (by (repeat' split) <;> first | rfl | omega | (exfalso; omega)) rfl)
        · refine z_iload D_m_odds_33 rfl ?_
          refine z_iconst D_m_odds_35 ?_
          refine z_iconst D_m_odds_36 ?_
          refine z_S3 (c_m_in (by omega) (by omega) (by omega)) G_m_in S_m_in lk_m_69 ⟨Nat.le_of_ble_eq_true rfl, Nat.le_of_ble_eq_true rfl⟩ (Nat.le_of_ble_eq_true rfl) D_m_odds_37 ?_
          refine z_ifneB (tgt := 45) D_m_odds_40 (by decide) (fun q40 => ?_) (fun q40 => ?_)
          · refine z_bipush (by decide) D_m_odds_45 ?_
            refine z_iload D_m_odds_47 rfl ?_
            refine z_isub D_m_odds_49 ?_
            refine z_aload_n D_m_odds_50 rfl ?_
            refine z_iload_n D_m_odds_51 rfl ?_
            refine z_iload_n D_m_odds_52 rfl ?_
            refine z_iload_n D_m_odds_53 rfl ?_
            refine z_V3 (c0 := 12) (c_m_speedsOf hm (by omega) (by omega) (by omega)) G_m_speedsOf I_m_speedsOf lk_m_203 (rfl) ⟨by decide, rfl⟩ ⟨Nat.le_of_ble_eq_true rfl, Nat.le_of_ble_eq_true rfl⟩ (Nat.le_of_ble_eq_true rfl) D_m_odds_54 ?_
            have hu := up_in (c := c) (x := x) (m := m) (k := cntS (gm h s) c m.toNat) (by omega) (by omega) (by have := cnt_in (gm h s) c m.toNat; omega)
            refine z_imul D_m_odds_57 ?_
            refine z_iload_n D_m_odds_58 rfl ?_
            refine z_if_ne (tgt := 69) D_m_odds_59 (by decide) (by omega) (fun q59 => ?_) (fun q59 => ?_)
            · refine z_iconst D_m_odds_69 ?_
              refine z_iadd D_m_odds_70 ?_
              rw [show (10 - x) * cntS (gm h s) c m.toNat + 0 = ((10 - x) * cntS (gm h s) c m.toNat + (if c = 0 then x * m else 0)) by rw [if_neg q59]]
              generalize hU : ((10 - x) * cntS (gm h s) c m.toNat + (if c = 0 then x * m else 0)) = U at hu ⊢
              refine z_istore_6 D_m_odds_71 (Nat.le_of_ble_eq_true rfl) rfl ?_
              refine z_iload D_m_odds_73 rfl ?_
              refine z_bipush (by decide) D_m_odds_75 ?_
              refine z_iload_n D_m_odds_77 rfl ?_
              refine z_imul D_m_odds_78 ?_
              refine z_iload D_m_odds_79 rfl ?_
              refine z_S3 (c_m_lowest (by omega) (by omega) (by omega)) G_m_lowest S_m_lowest lk_m_212 ⟨Nat.le_of_ble_eq_true rfl, Nat.le_of_ble_eq_true rfl⟩ (Nat.le_of_ble_eq_true rfl) D_m_odds_81 ?_
              exact z_ireturn rfl D_m_odds_84 (pvI (if_pos ⟨q5, q12, q19, q30, q40⟩).symm rfl)
            · refine z_iload D_m_odds_62 rfl ?_
              refine z_iload_n D_m_odds_64 rfl ?_
              refine z_imul D_m_odds_65 ?_
              refine z_goto (tgt := 70) D_m_odds_66 (by decide) ?_
              refine z_iadd D_m_odds_70 ?_
              rw [show (10 - x) * cntS (gm h s) c m.toNat + x * m = ((10 - x) * cntS (gm h s) c m.toNat + (if c = 0 then x * m else 0)) by rw [if_pos q59]]
              generalize hU : ((10 - x) * cntS (gm h s) c m.toNat + (if c = 0 then x * m else 0)) = U at hu ⊢
              refine z_istore_6 D_m_odds_71 (Nat.le_of_ble_eq_true rfl) rfl ?_
              refine z_iload D_m_odds_73 rfl ?_
              refine z_bipush (by decide) D_m_odds_75 ?_
              refine z_iload_n D_m_odds_77 rfl ?_
              refine z_imul D_m_odds_78 ?_
              refine z_iload D_m_odds_79 rfl ?_
              refine z_S3 (c_m_lowest (by omega) (by omega) (by omega)) G_m_lowest S_m_lowest lk_m_212 ⟨Nat.le_of_ble_eq_true rfl, Nat.le_of_ble_eq_true rfl⟩ (Nat.le_of_ble_eq_true rfl) D_m_odds_81 ?_
              exact z_ireturn rfl D_m_odds_84 (pvI (if_pos ⟨q5, q12, q19, q30, q40⟩).symm rfl)
          · refine z_iconst D_m_odds_43 ?_
            exact z_ireturn rfl D_m_odds_44 (pvI (by (repeat' split) <;> first | rfl | omega | (exfalso; omega)) rfl)

