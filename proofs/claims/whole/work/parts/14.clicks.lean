/-! what the window and NOW hold, told of functions -/
def px (h : zH) (w : Nat) (j : Int) : Int := h (w + 1) j.toNat
def wx (h : zH) (w : Nat) (j : Int) : Int := h (w + 3) j.toNat
def pm (h : zH) (j : Int) : Int := h 40 j.toNat
def wm (h : zH) (j : Int) : Int := h 41 j.toNat
def nm (h : zH) (c : Int) : Int := h 42 c.toNat
def RowOK (n np : Int) (N : Int → Int) : Prop := (0 ≤ N 0 ∧ N 0 ≤ 11) ∧ (0 ≤ N 1 ∧ N 1 ≤ 11) ∧ (0 ≤ N 2 ∧ N 2 ≤ 1) ∧ (0 ≤ N 3 ∧ N 3 ≤ 999) ∧ (∀ p, 0 ≤ p → p < np → 0 ≤ N (4 + p) ∧ N (4 + p) < n) ∧ (∀ p q, 0 ≤ p → p < np → 0 ≤ q → q < np → N (4 + p) = N (4 + q) → p = q) ∧ (∀ c, 10 ≤ c → c < 52 → 0 ≤ N c ∧ N c ≤ 99)
def DI (n np k d : Int) (P Wt N : Int → Int) : Prop := (0 ≤ n ∧ n ≤ 12) ∧ (0 ≤ np ∧ np ≤ 6) ∧ (0 ≤ k ∧ k ≤ 9) ∧ (1 ≤ d ∧ d ≤ 9) ∧ (∀ j, 0 ≤ j → j < n → 0 ≤ P j ∧ P j ≤ 5) ∧ (∀ j, 0 ≤ j → j < np → 1 ≤ Wt j ∧ Wt j ≤ 5) ∧ RowOK n np N
section DIs
variable {n np k d : Int} {P Wt N : Int → Int}
theorem DI.hn (h : DI n np k d P Wt N) : 0 ≤ n ∧ n ≤ 12 := h.1
theorem DI.hnp (h : DI n np k d P Wt N) : 0 ≤ np ∧ np ≤ 6 := h.2.1
theorem DI.hk (h : DI n np k d P Wt N) : 0 ≤ k ∧ k ≤ 9 := h.2.2.1
theorem DI.hd (h : DI n np k d P Wt N) : 1 ≤ d ∧ d ≤ 9 := h.2.2.2.1
theorem DI.hP (h : DI n np k d P Wt N) {j : Int} (h0 : 0 ≤ j) (h1 : j < n) : 0 ≤ P j ∧ P j ≤ 5 := h.2.2.2.2.1 j h0 h1
theorem DI.hW (h : DI n np k d P Wt N) {j : Int} (h0 : 0 ≤ j) (h1 : j < np) : 1 ≤ Wt j ∧ Wt j ≤ 5 := h.2.2.2.2.2.1 j h0 h1
theorem DI.row (h : DI n np k d P Wt N) : RowOK n np N := h.2.2.2.2.2.2
end DIs
section ROs
variable {n np : Int} {N : Int → Int}
theorem RowOK.ht (h : RowOK n np N) : 0 ≤ N 0 ∧ N 0 ≤ 11 := h.1
theorem RowOK.hh (h : RowOK n np N) : 0 ≤ N 1 ∧ N 1 ≤ 11 := h.2.1
theorem RowOK.hc (h : RowOK n np N) : 0 ≤ N 2 ∧ N 2 ≤ 1 := h.2.2.1
theorem RowOK.hf (h : RowOK n np N) : 0 ≤ N 3 ∧ N 3 ≤ 999 := h.2.2.2.1
theorem RowOK.hs (h : RowOK n np N) {p : Int} (h0 : 0 ≤ p) (h1 : p < np) : 0 ≤ N (4 + p) ∧ N (4 + p) < n := h.2.2.2.2.1 p h0 h1
theorem RowOK.hi (h : RowOK n np N) {p q : Int} (h0 : 0 ≤ p) (h1 : p < np) (h2 : 0 ≤ q) (h3 : q < np) (e : N (4 + p) = N (4 + q)) : p = q := h.2.2.2.2.2.1 p q h0 h1 h2 h3 e
theorem RowOK.ho (h : RowOK n np N) {c : Int} (h0 : 10 ≤ c) (h1 : c < 52) : 0 ≤ N c ∧ N c ≤ 99 := h.2.2.2.2.2.2 c h0 h1
end ROs
def XI (h : zH) (w : Nat) : Prop := h 0 1 = (w : Int) ∧ (w = 3 ∨ w = 7) ∧ (0 ≤ h 11 1 ∧ h 11 1 ≤ 10) ∧ DI (h w 3) (h w 4) (h w 5) (h w 6) (px h w) (wx h w) (nw h)
def MI (h : zH) : Prop := DI (h 39 0) (h 39 4) (h 39 2) (h 39 3) (pm h) (wm h) (nm h)
-- clicks
def zclk (k d : Int) : Nat → Int → Int
  | 0, _ => 0
  | n + 1, v => if 0 < v then v + zclk k d n (v * k / 10 - d) else 0
def clk (v k d : Int) : Int := zclk k d 60 v
theorem mulb {a b : Int} (ha : 0 ≤ a ∧ a ≤ 60) (hb : 0 ≤ b ∧ b ≤ 9) : 0 ≤ a * b ∧ a * b ≤ 9 * a ∧ a * b ≤ 540 := by
  have h1 := Int.mul_nonneg ha.1 hb.1
  have h2 := Int.mul_le_mul_of_nonneg_left hb.2 ha.1
  omega
theorem zclk_in (k d : Int) (hk : 0 ≤ k ∧ k ≤ 9) (hd : 1 ≤ d ∧ d ≤ 9) : ∀ (n : Nat) (v : Int), v ≤ 60 → 0 ≤ zclk k d n v ∧ zclk k d n v ≤ 60 * n
  | 0, v, _ => by simp [zclk]
  | n + 1, v, hv => by
    unfold zclk
    split
    · have hm := mulb (a := v) (b := k) (by omega) hk
      have ih := zclk_in k d hk hd n (v * k / 10 - d) (by omega)
      omega
    · omega
theorem clk_in {v k d : Int} (hv : v ≤ 60) (hk : 0 ≤ k ∧ k ≤ 9) (hd : 1 ≤ d ∧ d ≤ 9) : 0 ≤ clk v k d ∧ clk v k d ≤ 3600 := by
  have := zclk_in k d hk hd 60 v hv
  unfold clk
  omega
theorem l_w_clicksBy {h : zH} {v k d : Int} (hk : 0 ≤ k ∧ k ≤ 9) (hd : 1 ≤ d ∧ d ≤ 9) : ∀ (f : Nat) (i s a : Int), 0 ≤ i → i + f = 60 → -9 ≤ s ∧ s ≤ 60 → Z M_w_clicksBy (pV (vI (a + zclk k d f s)) h) 8 [vI v, vI k, vI d, vI a, vI s, vI i] [] h := by
  intro f
  induction f with
  | zero =>
    intro i s a h0 h1 hs
    refine z_iload D_w_clicksBy_8 rfl ?_
    refine z_bipush (by decide) D_w_clicksBy_10 ?_
    refine z_icmp_ge (tgt := 42) D_w_clicksBy_12 (by decide) (by omega) (by omega) (fun q12 => ?_) (fun q12 => ?_)
    · refine z_iload_n D_w_clicksBy_42 rfl ?_
      exact z_ireturn rfl D_w_clicksBy_43 (pvI (by simp [zclk]) rfl)
    · omega
  | succ f ih =>
    intro i s a h0 h1 hs
    refine z_iload D_w_clicksBy_8 rfl ?_
    refine z_bipush (by decide) D_w_clicksBy_10 ?_
    refine z_icmp_ge (tgt := 42) D_w_clicksBy_12 (by decide) (by omega) (by omega) (fun q12 => ?_) (fun q12 => ?_)
    · refine z_iload_n D_w_clicksBy_42 rfl ?_
      exact z_ireturn rfl D_w_clicksBy_43 (pvI (by have : zclk k d (f + 1) s = 0 := if_neg (by omega); omega) rfl)
    · refine z_iload D_w_clicksBy_15 rfl ?_
      refine z_if_le (tgt := 42) D_w_clicksBy_17 (by decide) (by omega) (fun q17 => ?_) (fun q17 => ?_)
      · refine z_iload_n D_w_clicksBy_42 rfl ?_
        exact z_ireturn rfl D_w_clicksBy_43 (pvI (by have : zclk k d (f + 1) s = 0 := if_neg (by omega); omega) rfl)
      · refine z_iload_n D_w_clicksBy_20 rfl ?_
        refine z_iload D_w_clicksBy_21 rfl ?_
        refine z_iadd D_w_clicksBy_23 ?_
        refine z_istore_3 D_w_clicksBy_24 (Nat.le_of_ble_eq_true rfl) rfl ?_
        refine z_iload D_w_clicksBy_25 rfl ?_
        refine z_iload_n D_w_clicksBy_27 rfl ?_
        refine z_imul D_w_clicksBy_28 ?_
        refine z_bipush (by decide) D_w_clicksBy_29 ?_
        refine z_idiv D_w_clicksBy_31 ⟨(mulb (a := s) (b := k) (by omega) hk).1, by have := (mulb (a := s) (b := k) (by omega) hk).2.2; omega⟩ (by omega) ?_
        refine z_iload_n D_w_clicksBy_32 rfl ?_
        refine z_isub D_w_clicksBy_33 ?_
        refine z_istore_4 D_w_clicksBy_34 (Nat.le_of_ble_eq_true rfl) rfl ?_
        refine z_iinc_5 D_w_clicksBy_36 (Nat.le_of_ble_eq_true rfl) rfl ?_
        refine z_goto (tgt := 8) D_w_clicksBy_39 (by decide) ?_
        have hm := mulb (a := s) (b := k) (by omega) hk
        have e : a + zclk k d (f + 1) s = a + s + zclk k d f (s * k / 10 - d) := by
          have : zclk k d (f + 1) s = s + zclk k d f (s * k / 10 - d) := by
            show (if 0 < s then _ else _) = _
            rw [if_pos (by omega)]
          omega
        rw [e]
        exact ih (i + 1) _ _ (by omega) (by omega) (by omega)
theorem c_w_clicksBy {h : zH} {v k d : Int} (hk : 0 ≤ k ∧ k ≤ 9) (hd : 1 ≤ d ∧ d ≤ 9) (hv : -9 ≤ v ∧ v ≤ 60) : zC M_w_clicksBy [vI v, vI k, vI d] h (pV (vI (clk v k d)) h) := by
  refine zC.ofN 3 (by decide) (by first | decide | exact Nat.le_of_ble_eq_true rfl) ?_
  show Z M_w_clicksBy _ 0 [vI v, vI k, vI d, vU, vU, vU] [] h
  refine z_iconst D_w_clicksBy_0 ?_
  refine z_istore_3 D_w_clicksBy_1 (Nat.le_of_ble_eq_true rfl) rfl ?_
  refine z_iload_n D_w_clicksBy_2 rfl ?_
  refine z_istore_4 D_w_clicksBy_3 (Nat.le_of_ble_eq_true rfl) rfl ?_
  refine z_iconst D_w_clicksBy_5 ?_
  refine z_istore_5 D_w_clicksBy_6 (Nat.le_of_ble_eq_true rfl) rfl ?_
  have e : clk v k d = 0 + zclk k d 60 v := by unfold clk; omega
  rw [e]
  exact l_w_clicksBy hk hd 60 0 v 0 (by omega) (by omega) hv

theorem l_m_clicksBy {h : zH} {v k d : Int} (hk : 0 ≤ k ∧ k ≤ 9) (hd : 1 ≤ d ∧ d ≤ 9) : ∀ (f : Nat) (s a : Int), s ≤ f → -9 ≤ s ∧ s ≤ 60 → Z M_m_clicksBy (pV (vI (a + zclk k d f s)) h) 5 [vI v, vI k, vI d, vI a, vI s] [] h := by
  intro f
  induction f with
  | zero =>
    intro s a h0 hs
    refine z_iload D_m_clicksBy_5 rfl ?_
    refine z_if_le (tgt := 29) D_m_clicksBy_7 (by decide) (by omega) (fun q7 => ?_) (fun q7 => ?_)
    · refine z_iload_n D_m_clicksBy_29 rfl ?_
      exact z_ireturn rfl D_m_clicksBy_30 (pvI (by simp [zclk]) rfl)
    · omega
  | succ f ih =>
    intro s a h0 hs
    refine z_iload D_m_clicksBy_5 rfl ?_
    refine z_if_le (tgt := 29) D_m_clicksBy_7 (by decide) (by omega) (fun q7 => ?_) (fun q7 => ?_)
    · refine z_iload_n D_m_clicksBy_29 rfl ?_
      exact z_ireturn rfl D_m_clicksBy_30 (pvI (by have : zclk k d (f + 1) s = 0 := if_neg (by omega); omega) rfl)
    · refine z_iload_n D_m_clicksBy_10 rfl ?_
      refine z_iload D_m_clicksBy_11 rfl ?_
      refine z_iadd D_m_clicksBy_13 ?_
      refine z_istore_3 D_m_clicksBy_14 (Nat.le_of_ble_eq_true rfl) rfl ?_
      refine z_iload_n D_m_clicksBy_15 rfl ?_
      refine z_iload D_m_clicksBy_16 rfl ?_
      refine z_imul D_m_clicksBy_18 ?_
      refine z_bipush (by decide) D_m_clicksBy_19 ?_
      rw [Int.mul_comm k s]
      refine z_idiv D_m_clicksBy_21 ⟨(mulb (a := s) (b := k) (by omega) hk).1, by have := (mulb (a := s) (b := k) (by omega) hk).2.2; omega⟩ (by omega) ?_
      refine z_iload_n D_m_clicksBy_22 rfl ?_
      refine z_isub D_m_clicksBy_23 ?_
      refine z_istore_4 D_m_clicksBy_24 (Nat.le_of_ble_eq_true rfl) rfl ?_
      refine z_goto (tgt := 5) D_m_clicksBy_26 (by decide) ?_
      have hm := mulb (a := s) (b := k) (by omega) hk
      have e : a + zclk k d (f + 1) s = a + s + zclk k d f (s * k / 10 - d) := by
        have : zclk k d (f + 1) s = s + zclk k d f (s * k / 10 - d) := by
          show (if 0 < s then _ else _) = _
          rw [if_pos (by omega)]
        omega
      rw [e]
      exact ih _ _ (by omega) (by omega)
theorem c_m_clicksBy {h : zH} {v k d : Int} (hk : 0 ≤ k ∧ k ≤ 9) (hd : 1 ≤ d ∧ d ≤ 9) (hv : -9 ≤ v ∧ v ≤ 60) : zC M_m_clicksBy [vI v, vI k, vI d] h (pV (vI (clk v k d)) h) := by
  refine zC.ofN 2 (by decide) (by first | decide | exact Nat.le_of_ble_eq_true rfl) ?_
  show Z M_m_clicksBy _ 0 [vI v, vI k, vI d, vU, vU] [] h
  refine z_iconst D_m_clicksBy_0 ?_
  refine z_istore_3 D_m_clicksBy_1 (Nat.le_of_ble_eq_true rfl) rfl ?_
  refine z_iload_n D_m_clicksBy_2 rfl ?_
  refine z_istore_4 D_m_clicksBy_3 (Nat.le_of_ble_eq_true rfl) rfl ?_
  have e : clk v k d = 0 + zclk k d 60 v := by unfold clk; omega
  rw [e]
  exact l_m_clicksBy hk hd 60 v 0 (by omega) hv

theorem c_m_clicksOf {h : zH} {v : Int} (hm : MI h) (hv : -9 ≤ v ∧ v ≤ 60) : zC M_m_clicksOf [vR 39, vI v] h (pV (vI (clk v (h 39 2) (h 39 3))) h) := by
  refine zC.ofN 0 (by decide) (by first | decide | exact Nat.le_of_ble_eq_true rfl) ?_
  show Z M_m_clicksOf _ 0 [vR 39, vI v] [] h
  refine z_iload_n D_m_clicksOf_0 rfl ?_
  refine z_aload_n D_m_clicksOf_1 rfl ?_
  refine z_getI fl_m_13 (rfl) rfl D_m_clicksOf_2 ?_
  refine z_aload_n D_m_clicksOf_5 rfl ?_
  refine z_getI fl_m_17 (rfl) rfl D_m_clicksOf_6 ?_
  refine z_S3 (c_m_clicksBy hm.hk hm.hd hv) G_m_clicksBy S_m_clicksBy lk_m_165 ⟨Nat.le_of_ble_eq_true rfl, Nat.le_of_ble_eq_true rfl⟩ (Nat.le_of_ble_eq_true rfl) D_m_clicksOf_9 ?_
  exact z_ireturn rfl D_m_clicksOf_12 (pvI rfl rfl)

def shd (P : Int → Int) (n tt k d s v : Int) : Int := if 0 < n then P ((s + tt + clk v k d) % n) else 0
def col (P N : Int → Int) (n p : Int) : Int := if N 2 = 1 then 0 else P ((N (4 + p) + (N 0 + N 1)) % n)
def gx (h : zH) (w : Nat) (s v : Int) : Int := shd (px h w) (h w 3) (nw h 0 + nw h 1) (h w 5) (h w 6) s v
def gm (h : zH) (s v : Int) : Int := shd (pm h) (h 39 0) (nm h 0 + nm h 1) (h 39 2) (h 39 3) s v
theorem emod_in {x n : Int} (h : 0 < n) : 0 ≤ x % n ∧ x % n < n := ⟨Int.emod_nonneg x (by omega), Int.emod_lt_of_pos x h⟩
theorem shd_in {n np k d s v tt : Int} {P Wt N : Int → Int} (h : DI n np k d P Wt N) : 0 ≤ shd P n tt k d s v ∧ shd P n tt k d s v ≤ 5 := by
  unfold shd
  split
  · exact h.hP (emod_in (by omega)).1 (emod_in (by omega)).2
  · omega
theorem gx_in {h : zH} {w : Nat} (hx : XI h w) (s v : Int) : 0 ≤ gx h w s v ∧ gx h w s v ≤ 5 := shd_in hx.2.2.2
theorem gm_in {h : zH} (hm : MI h) (s v : Int) : 0 ≤ gm h s v ∧ gm h s v ≤ 5 := shd_in hm
theorem col_in {n np k d p : Int} {P Wt N : Int → Int} (h : DI n np k d P Wt N) (h0 : 0 ≤ p) (h1 : p < np) : 0 ≤ col P N n p ∧ col P N n p ≤ 5 := by
  have := h.row.hs h0 h1
  unfold col
  split
  · omega
  · exact h.hP (emod_in (by omega)).1 (emod_in (by omega)).2
theorem c_x_turnBehind {h : zH} {w : Nat} {v : Int} (hx : XI h w) (hv : -9 ≤ v ∧ v ≤ 60) : zC M_x_turnBehind [vR 0, vI v] h (pV (vI (rnd (h w 3) (nw h 0 + clk v (h w 5) (h w 6)))) h) := by
  refine zC.ofN 0 (by decide) (by first | decide | exact Nat.le_of_ble_eq_true rfl) ?_
  show Z M_x_turnBehind _ 0 [vR 0, vI v] [] h
  have hw := hx.2.1
  have hu := hx.2.2.1
  have hn := hx.2.2.2.hn
  have hnp := hx.2.2.2.hnp
  have ht := hx.2.2.2.row.ht
  have hh := hx.2.2.2.row.hh
  have hc := hx.2.2.2.row.hc
  refine z_aload_n D_x_turnBehind_0 rfl ?_
  refine z_getW fl_x_19 (by decide) hx.1 D_x_turnBehind_1 ?_
  refine z_aload_n D_x_turnBehind_4 rfl ?_
  refine z_getR (q := 11) fl_x_29 (rfl) rfl (rfl) D_x_turnBehind_5 ?_
  refine z_iconst D_x_turnBehind_8 ?_
  refine z_V1 (c0 := 5) (c_d_value hu (by omega)) G_d_value I_d_value lk_x_131 (rfl) ⟨by decide, rfl⟩ ⟨Nat.le_of_ble_eq_true rfl, Nat.le_of_ble_eq_true rfl⟩ (Nat.le_of_ble_eq_true rfl) D_x_turnBehind_9 ?_
  refine z_aload_n D_x_turnBehind_12 rfl ?_
  refine z_getW fl_x_19 (by decide) hx.1 D_x_turnBehind_13 ?_
  refine z_iload_n D_x_turnBehind_16 rfl ?_
  refine z_V1 (c0 := 10) (c_w_clicksOf hw (c_w_clicksBy hx.2.2.2.hk hx.2.2.2.hd (by omega))) G_w_clicksOf I_w_clicksOf lk_x_193 (kw hw) ⟨by decide, rfl⟩ ⟨Nat.le_of_ble_eq_true rfl, Nat.le_of_ble_eq_true rfl⟩ (Nat.le_of_ble_eq_true rfl) D_x_turnBehind_17 ?_
  refine z_iadd D_x_turnBehind_20 ?_
  refine z_V1 (c0 := 10) (c_w_roundThe hw hn (by have := clk_in hv.2 hx.2.2.2.hk hx.2.2.2.hd; omega)) G_w_roundThe I_w_roundThe lk_x_174 (kw hw) ⟨by decide, rfl⟩ ⟨Nat.le_of_ble_eq_true rfl, Nat.le_of_ble_eq_true rfl⟩ (Nat.le_of_ble_eq_true rfl) D_x_turnBehind_21 ?_
  exact z_ireturn rfl D_x_turnBehind_24 (pvI rfl rfl)

theorem rnd_sh {n s t c : Int} (hn : 0 < n) : rnd n (s + (rnd n (t + c) + 0)) = (s + t + c) % n := by
  unfold rnd
  rw [if_pos hn, if_pos hn, Int.add_zero, Int.add_emod_emod, Int.add_assoc]
theorem c_x_colourBehind {h : zH} {w : Nat} {s v : Int} (hx : XI h w) (hs : 0 ≤ s ∧ s < h w 3) (hv : -9 ≤ v ∧ v ≤ 60) : zC M_x_colourBehind [vR 0, vI s, vI v] h (pV (vI (gx h w s v)) h) := by
  refine zC.ofN 0 (by decide) (by first | decide | exact Nat.le_of_ble_eq_true rfl) ?_
  show Z M_x_colourBehind _ 0 [vR 0, vI s, vI v] [] h
  have hw := hx.2.1
  have hu := hx.2.2.1
  have hn := hx.2.2.2.hn
  have hnp := hx.2.2.2.hnp
  have ht := hx.2.2.2.row.ht
  have hh := hx.2.2.2.row.hh
  have hc := hx.2.2.2.row.hc
  refine z_aload_n D_x_colourBehind_0 rfl ?_
  refine z_getW fl_x_19 (by decide) hx.1 D_x_colourBehind_1 ?_
  refine z_iload_n D_x_colourBehind_4 rfl ?_
  refine z_aload_n D_x_colourBehind_5 rfl ?_
  refine z_iload_n D_x_colourBehind_6 rfl ?_
  refine z_V1 (c0 := 11) (c_x_turnBehind hx hv) G_x_turnBehind I_x_turnBehind lk_x_161 (rfl) ⟨by decide, rfl⟩ ⟨Nat.le_of_ble_eq_true rfl, Nat.le_of_ble_eq_true rfl⟩ (Nat.le_of_ble_eq_true rfl) D_x_colourBehind_7 ?_
  refine z_aload_n D_x_colourBehind_10 rfl ?_
  refine z_getR (q := 11) fl_x_29 (rfl) rfl (rfl) D_x_colourBehind_11 ?_
  refine z_iconst D_x_colourBehind_14 ?_
  refine z_V1 (c0 := 5) (c_d_value hu (by omega)) G_d_value I_d_value lk_x_131 (rfl) ⟨by decide, rfl⟩ ⟨Nat.le_of_ble_eq_true rfl, Nat.le_of_ble_eq_true rfl⟩ (Nat.le_of_ble_eq_true rfl) D_x_colourBehind_15 ?_
  refine z_iadd D_x_colourBehind_18 ?_
  refine z_V2 (c0 := 10) (c_w_colourAt hw hn (by have := rnd_in (x := nw h 0 + clk v (h w 5) (h w 6)) hn.1; omega)) G_w_colourAt I_w_colourAt lk_x_271 (kw hw) ⟨by decide, rfl⟩ ⟨Nat.le_of_ble_eq_true rfl, Nat.le_of_ble_eq_true rfl⟩ (Nat.le_of_ble_eq_true rfl) D_x_colourBehind_19 ?_
  exact z_ireturn rfl D_x_colourBehind_22 (pvI (by
      unfold gx shd
      rw [if_pos (by omega)]
      unfold px rnd
      rw [if_pos (by omega), if_pos (by omega)]
      congr 2
      rw [← Int.add_assoc, ← Int.emod_add_emod, Int.add_emod_emod, Int.emod_add_emod]
      congr 1
      omega) rfl)

theorem c_x_colourOf {h : zH} {w : Nat} {p : Int} (hx : XI h w) (hp : 0 ≤ p ∧ p < h w 4) : zC M_x_colourOf [vR 0, vI p] h (pV (vI (col (px h w) (nw h) (h w 3) p)) h) := by
  refine zC.ofN 0 (by decide) (by first | decide | exact Nat.le_of_ble_eq_true rfl) ?_
  show Z M_x_colourOf _ 0 [vR 0, vI p] [] h
  have hw := hx.2.1
  have hu := hx.2.2.1
  have hn := hx.2.2.2.hn
  have hnp := hx.2.2.2.hnp
  have ht := hx.2.2.2.row.ht
  have hh := hx.2.2.2.row.hh
  have hc := hx.2.2.2.row.hc
  have hs := hx.2.2.2.row.hs hp.1 hp.2
  refine z_aload_n D_x_colourOf_0 rfl ?_
  refine z_getR (q := 11) fl_x_29 (rfl) rfl (rfl) D_x_colourOf_1 ?_
  refine z_iconst D_x_colourOf_4 ?_
  refine z_V1 (c0 := 5) (c_d_value hu (by omega)) G_d_value I_d_value lk_x_131 (rfl) ⟨by decide, rfl⟩ ⟨Nat.le_of_ble_eq_true rfl, Nat.le_of_ble_eq_true rfl⟩ (Nat.le_of_ble_eq_true rfl) D_x_colourOf_5 ?_
  refine z_iconst D_x_colourOf_8 ?_
  refine z_icmp_ne (tgt := 14) D_x_colourOf_9 (by decide) (by omega) (by omega) (fun q9 => ?_) (fun q9 => ?_)
  · refine z_aload_n D_x_colourOf_14 rfl ?_
    refine z_getW fl_x_19 (by decide) hx.1 D_x_colourOf_15 ?_
    refine z_aload_n D_x_colourOf_18 rfl ?_
    refine z_getR (q := 11) fl_x_29 (rfl) rfl (rfl) D_x_colourOf_19 ?_
    refine z_iconst D_x_colourOf_22 ?_
    refine z_iload_n D_x_colourOf_23 rfl ?_
    refine z_iadd D_x_colourOf_24 ?_
    refine z_V1 (c0 := 5) (c_d_value hu (by omega)) G_d_value I_d_value lk_x_131 (rfl) ⟨by decide, rfl⟩ ⟨Nat.le_of_ble_eq_true rfl, Nat.le_of_ble_eq_true rfl⟩ (Nat.le_of_ble_eq_true rfl) D_x_colourOf_25 ?_
    refine z_aload_n D_x_colourOf_28 rfl ?_
    refine z_getR (q := 11) fl_x_29 (rfl) rfl (rfl) D_x_colourOf_29 ?_
    refine z_iconst D_x_colourOf_32 ?_
    refine z_V1 (c0 := 5) (c_d_value hu (by omega)) G_d_value I_d_value lk_x_131 (rfl) ⟨by decide, rfl⟩ ⟨Nat.le_of_ble_eq_true rfl, Nat.le_of_ble_eq_true rfl⟩ (Nat.le_of_ble_eq_true rfl) D_x_colourOf_33 ?_
    refine z_aload_n D_x_colourOf_36 rfl ?_
    refine z_getR (q := 11) fl_x_29 (rfl) rfl (rfl) D_x_colourOf_37 ?_
    refine z_iconst D_x_colourOf_40 ?_
    refine z_V1 (c0 := 5) (c_d_value hu (by omega)) G_d_value I_d_value lk_x_131 (rfl) ⟨by decide, rfl⟩ ⟨Nat.le_of_ble_eq_true rfl, Nat.le_of_ble_eq_true rfl⟩ (Nat.le_of_ble_eq_true rfl) D_x_colourOf_41 ?_
    refine z_iadd D_x_colourOf_44 ?_
    refine z_V2 (c0 := 10) (c_w_colourAt hw hn (by omega)) G_w_colourAt I_w_colourAt lk_x_271 (kw hw) ⟨by decide, rfl⟩ ⟨Nat.le_of_ble_eq_true rfl, Nat.le_of_ble_eq_true rfl⟩ (Nat.le_of_ble_eq_true rfl) D_x_colourOf_45 ?_
    exact z_ireturn rfl D_x_colourOf_48 (pvI (by
      unfold col px rnd
      rw [if_neg q9, if_pos (by omega)]) rfl)
  · refine z_iconst D_x_colourOf_12 ?_
    exact z_ireturn rfl D_x_colourOf_13 (pvI (by unfold col; rw [if_pos q9]) rfl)

theorem c_m_colourAt {h : zH} {s t : Int} (hm : MI h) (h0 : 0 < h 39 0) (hs : 0 ≤ s ∧ s ≤ 12) (hq : 0 ≤ t ∧ t ≤ 3600) : zC M_m_colourAt [vR 39, vI s, vI t] h (pV (vI (pm h ((s + nm h 0 + nm h 1 + t) % h 39 0))) h) := by
  refine zC.ofN 0 (by decide) (by first | decide | exact Nat.le_of_ble_eq_true rfl) ?_
  show Z M_m_colourAt _ 0 [vR 39, vI s, vI t] [] h
  have hn := hm.hn
  have hnp := hm.hnp
  have ht := hm.row.ht
  have hh := hm.row.hh
  have hc := hm.row.hc
  unfold nm at ht hh hc
  refine z_aload_n D_m_colourAt_0 rfl ?_
  refine z_getR (q := 40) fl_m_7 (rfl) rfl (rfl) D_m_colourAt_1 ?_
  refine z_iload_n D_m_colourAt_4 rfl ?_
  refine z_aload_n D_m_colourAt_5 rfl ?_
  refine z_getR (q := 42) fl_m_23 (rfl) rfl (rfl) D_m_colourAt_6 ?_
  refine z_iconst D_m_colourAt_9 ?_
  refine z_iald (n := 573) (rfl) (by omega) D_m_colourAt_10 ?_
  refine z_iadd D_m_colourAt_11 ?_
  refine z_aload_n D_m_colourAt_12 rfl ?_
  refine z_getR (q := 42) fl_m_23 (rfl) rfl (rfl) D_m_colourAt_13 ?_
  refine z_iconst D_m_colourAt_16 ?_
  refine z_iald (n := 573) (rfl) (by omega) D_m_colourAt_17 ?_
  refine z_iadd D_m_colourAt_18 ?_
  refine z_iload_n D_m_colourAt_19 rfl ?_
  refine z_iadd D_m_colourAt_20 ?_
  refine z_aload_n D_m_colourAt_21 rfl ?_
  refine z_getI fl_m_73 (rfl) rfl D_m_colourAt_22 ?_
  refine z_irem_p D_m_colourAt_25 (by omega) (by omega) ?_
  refine z_iald (n := 12) (rfl) (by have := emod_in (x := s + h 42 (Int.toNat 0) + h 42 (Int.toNat 1) + t) h0; omega) D_m_colourAt_26 ?_
  exact z_ireturn rfl D_m_colourAt_27 (pvI rfl rfl)

theorem c_m_shadeOf {h : zH} {s v : Int} (hm : MI h) (hs : 0 ≤ s ∧ s < h 39 0) (hv : -9 ≤ v ∧ v ≤ 60) : zC M_m_shadeOf [vR 39, vI s, vI v] h (pV (vI (gm h s v)) h) := by
  refine zC.ofN 0 (by decide) (by first | decide | exact Nat.le_of_ble_eq_true rfl) ?_
  show Z M_m_shadeOf _ 0 [vR 39, vI s, vI v] [] h
  have hn := hm.hn
  refine z_aload_n D_m_shadeOf_0 rfl ?_
  refine z_iload_n D_m_shadeOf_1 rfl ?_
  refine z_aload_n D_m_shadeOf_2 rfl ?_
  refine z_iload_n D_m_shadeOf_3 rfl ?_
  refine z_V1 (c0 := 12) (c_m_clicksOf hm hv) G_m_clicksOf I_m_clicksOf lk_m_175 (rfl) ⟨by decide, rfl⟩ ⟨Nat.le_of_ble_eq_true rfl, Nat.le_of_ble_eq_true rfl⟩ (Nat.le_of_ble_eq_true rfl) D_m_shadeOf_4 ?_
  refine z_V2 (c0 := 12) (c_m_colourAt hm (by omega) (by omega) (by have := clk_in hv.2 hm.hk hm.hd; omega)) G_m_colourAt I_m_colourAt lk_m_149 (rfl) ⟨by decide, rfl⟩ ⟨Nat.le_of_ble_eq_true rfl, Nat.le_of_ble_eq_true rfl⟩ (Nat.le_of_ble_eq_true rfl) D_m_shadeOf_7 ?_
  exact z_ireturn rfl D_m_shadeOf_10 (pvI (by
      unfold gm shd
      rw [if_pos (by omega), ← Int.add_assoc]) rfl)

theorem c_m_standsIn {h : zH} {p : Int} (hm : MI h) (hp : 0 ≤ p ∧ p < h 39 4) : zC M_m_standsIn [vR 39, vI p] h (pV (vI (col (pm h) (nm h) (h 39 0) p)) h) := by
  refine zC.ofN 0 (by decide) (by first | decide | exact Nat.le_of_ble_eq_true rfl) ?_
  show Z M_m_standsIn _ 0 [vR 39, vI p] [] h
  have hn := hm.hn
  have hnp := hm.hnp
  have ht := hm.row.ht
  have hh := hm.row.hh
  have hc := hm.row.hc
  unfold nm at ht hh hc
  have hs := hm.row.hs hp.1 hp.2
  unfold nm at hs
  refine z_aload_n D_m_standsIn_0 rfl ?_
  refine z_getR (q := 42) fl_m_23 (rfl) rfl (rfl) D_m_standsIn_1 ?_
  refine z_iconst D_m_standsIn_4 ?_
  refine z_iald (n := 573) (rfl) (by omega) D_m_standsIn_5 ?_
  refine z_iconst D_m_standsIn_6 ?_
  refine z_icmp_ne (tgt := 14) D_m_standsIn_7 (by decide) (by omega) (by omega) (fun q7 => ?_) (fun q7 => ?_)
  · refine z_aload_n D_m_standsIn_14 rfl ?_
    refine z_aload_n D_m_standsIn_15 rfl ?_
    refine z_getR (q := 42) fl_m_23 (rfl) rfl (rfl) D_m_standsIn_16 ?_
    refine z_iconst D_m_standsIn_19 ?_
    refine z_iload_n D_m_standsIn_20 rfl ?_
    refine z_iadd D_m_standsIn_21 ?_
    refine z_iald (n := 573) (rfl) (by omega) D_m_standsIn_22 ?_
    refine z_iconst D_m_standsIn_23 ?_
    refine z_V2 (c0 := 12) (c_m_colourAt hm (by omega) (by omega) (by omega)) G_m_colourAt I_m_colourAt lk_m_149 (rfl) ⟨by decide, rfl⟩ ⟨Nat.le_of_ble_eq_true rfl, Nat.le_of_ble_eq_true rfl⟩ (Nat.le_of_ble_eq_true rfl) D_m_standsIn_24 ?_
    exact z_ireturn rfl D_m_standsIn_27 (pvI (by
      unfold col
      first
      | exact (if_pos q7).symm
      | (refine Eq.trans ?_ (if_neg q7).symm
         congr 2
         unfold nm
         omega)) rfl)
  · refine z_iconst D_m_standsIn_10 ?_
    refine z_goto (tgt := 27) D_m_standsIn_11 (by decide) ?_
    exact z_ireturn rfl D_m_standsIn_27 (pvI (by
      unfold col
      first
      | exact (if_pos q7).symm
      | (refine Eq.trans ?_ (if_neg q7).symm
         congr 2
         unfold nm
         omega)) rfl)

