/-! seats -/
theorem sumF_congr {f g : Int → Int} : ∀ {m : Nat}, (∀ j : Int, 0 ≤ j → j < m → f j = g j) → sumF f m = sumF g m
  | 0, _ => rfl
  | m + 1, h => by
    simp only [sumF]
    rw [sumF_congr (fun j h0 h1 => h j h0 (by omega)), h m (by omega) (by omega)]
def mS (F W : Int → Int) : Int := sumF (fun c => min (F c) (W c)) 6
def dec (F : Int → Int) (k c : Int) : Int := if c = k then F c - 1 else F c
def inc (F : Int → Int) (k c : Int) : Int := if c = k then F c + 1 else F c
def prS (F W : Int → Int) (T : Nat) (L c : Int) (f : Int → Int) (s : Int) : Bool := !(T.testBit s.toNat) && (zb (f s = c) + mS (dec F (f s)) W == L)
theorem mS_congr {F G W V : Int → Int} (hF : ∀ c, 0 ≤ c → c ≤ 5 → F c = G c) (hW : ∀ c, 0 ≤ c → c ≤ 5 → W c = V c) : mS F W = mS G V := sumF_congr (fun j h0 h1 => by rw [hF j h0 (by omega), hW j h0 (by omega)])
theorem zup_back {h : zH} {a k : Nat} {x y : Int} (hy : y = h a k) : zup (zup h a k x) a k y = h := by
  funext b j
  unfold zup
  by_cases q : b = a ∧ j = k
  · rw [if_pos q, hy, q.1, q.2]
  · rw [if_neg q, if_neg q]
theorem mS_in {F W : Int → Int} (hF : ∀ c, 0 ≤ c → c ≤ 5 → -50 ≤ F c ∧ F c ≤ 50) (hW : ∀ c, 0 ≤ c → c ≤ 5 → -50 ≤ W c ∧ W c ≤ 50) : -300 ≤ mS F W ∧ mS F W ≤ 300 := by
  have a0 := hF 0 (by omega) (by omega)
  have a1 := hF 1 (by omega) (by omega)
  have a2 := hF 2 (by omega) (by omega)
  have a3 := hF 3 (by omega) (by omega)
  have a4 := hF 4 (by omega) (by omega)
  have a5 := hF 5 (by omega) (by omega)
  have b0 := hW 0 (by omega) (by omega)
  have b1 := hW 1 (by omega) (by omega)
  have b2 := hW 2 (by omega) (by omega)
  have b3 := hW 3 (by omega) (by omega)
  have b4 := hW 4 (by omega) (by omega)
  have b5 := hW 5 (by omega) (by omega)
  show -300 ≤ 0 + min (F 0) (W 0) + min (F 1) (W 1) + min (F 2) (W 2) + min (F 3) (W 3) + min (F 4) (W 4) + min (F 5) (W 5) ∧ 0 + min (F 0) (W 0) + min (F 1) (W 1) + min (F 2) (W 2) + min (F 3) (W 3) + min (F 4) (W 4) + min (F 5) (W 5) ≤ 300
  omega
theorem l_x_mostServed {h : zH}  (hr : ∀ c : Int, 0 ≤ c → c ≤ 5 → (-100 ≤ h 36 c.toNat ∧ h 36 c.toNat ≤ 100) ∧ (-100 ≤ h 37 c.toNat ∧ h 37 c.toNat ≤ 100)) : ∀ (k : Nat) (i : Int), 0 ≤ i → i ≤ (6 : Int) → (6 : Int) - i < k → Z M_x_mostServed (pV (vI (sumF (fun c => min (h 36 c.toNat) (h 37 c.toNat)) 6)) h) 4 [vR 0, vI (sumF (fun c => min (h 36 c.toNat) (h 37 c.toNat)) i.toNat), vI i] [] (h) := by
  intro k
  induction k with
  | zero => intro i h0 h1 h2; omega
  | succ k ih =>
    intro i h0 h1 h2
    have hri := fun q => hr i h0 q
    refine z_iload_n D_x_mostServed_4 rfl ?_
    refine z_bipush (by decide) D_x_mostServed_5 ?_
    refine z_icmp_ge (tgt := 34) D_x_mostServed_7 (by decide) (by omega) (by omega) (fun q7 => ?_) (fun q7 => ?_)
    · refine z_iload_n D_x_mostServed_34 rfl ?_
      exact z_ireturn rfl D_x_mostServed_35 (pvI (by rw [show i = 6 by omega]; rfl) rfl)
    · refine z_iload_n D_x_mostServed_10 rfl ?_
      refine z_aload_n D_x_mostServed_11 rfl ?_
      refine z_getR (q := 36) fl_x_90 (rfl) rfl (rfl) D_x_mostServed_12 ?_
      refine z_iload_n D_x_mostServed_15 rfl ?_
      refine z_iald (n := 6) (rfl) (by omega) D_x_mostServed_16 ?_
      refine z_aload_n D_x_mostServed_17 rfl ?_
      refine z_getR (q := 37) fl_x_93 (rfl) rfl (rfl) D_x_mostServed_18 ?_
      refine z_iload_n D_x_mostServed_21 rfl ?_
      refine z_iald (n := 6) (rfl) (by omega) D_x_mostServed_22 ?_
      refine z_S2 (c_j_min (by have := hri (by omega); omega) (by have := hri (by omega); omega)) G_j_min S_j_min lk_x_278 ⟨Nat.le_of_ble_eq_true rfl, Nat.le_of_ble_eq_true rfl⟩ (Nat.le_of_ble_eq_true rfl) D_x_mostServed_23 ?_
      refine z_iadd D_x_mostServed_26 ?_
      refine z_istore_1 D_x_mostServed_27 (Nat.le_of_ble_eq_true rfl) rfl ?_
      refine z_iinc_2 D_x_mostServed_28 (Nat.le_of_ble_eq_true rfl) rfl ?_
      refine z_goto (tgt := 4) D_x_mostServed_31 (by decide) ?_
      have q := ih (i + 1) (by omega) (by omega) (by omega)
      rw [sumF_1 h0] at q
      exact q
theorem c_x_mostServed {h : zH}  (hr : ∀ c : Int, 0 ≤ c → c ≤ 5 → (-100 ≤ h 36 c.toNat ∧ h 36 c.toNat ≤ 100) ∧ (-100 ≤ h 37 c.toNat ∧ h 37 c.toNat ≤ 100)) : zC M_x_mostServed [vR 0] h (pV (vI (sumF (fun c => min (h 36 c.toNat) (h 37 c.toNat)) 6)) h) := by
  refine zC.ofN 2 (by decide) (by first | decide | exact Nat.le_of_ble_eq_true rfl) ?_
  show Z M_x_mostServed _ 0 [vR 0, vU, vU] [] h
  refine z_iconst D_x_mostServed_0 ?_
  refine z_istore_1 D_x_mostServed_1 (Nat.le_of_ble_eq_true rfl) rfl ?_
  refine z_iconst D_x_mostServed_2 ?_
  refine z_istore_2 D_x_mostServed_3 (Nat.le_of_ble_eq_true rfl) rfl ?_
  exact l_x_mostServed hr (7 : Nat) 0 (by omega) (by omega) (by omega)

theorem l_m_mostYet {h : zH}  (hr : ∀ c : Int, 0 ≤ c → c ≤ 5 → (-100 ≤ h 53 c.toNat ∧ h 53 c.toNat ≤ 100) ∧ (-100 ≤ h 52 c.toNat ∧ h 52 c.toNat ≤ 100)) : ∀ (k : Nat) (i : Int), 0 ≤ i → i ≤ (6 : Int) → (6 : Int) - i < k → Z M_m_mostYet (pV (vI (sumF (fun c => min (h 53 c.toNat) (h 52 c.toNat)) 6)) h) 4 [vR 39, vI (sumF (fun c => min (h 53 c.toNat) (h 52 c.toNat)) i.toNat), vI i] [] (h) := by
  intro k
  induction k with
  | zero => intro i h0 h1 h2; omega
  | succ k ih =>
    intro i h0 h1 h2
    have hri := fun q => hr i h0 q
    refine z_iload_n D_m_mostYet_4 rfl ?_
    refine z_bipush (by decide) D_m_mostYet_5 ?_
    refine z_icmp_ge (tgt := 49) D_m_mostYet_7 (by decide) (by omega) (by omega) (fun q7 => ?_) (fun q7 => ?_)
    · refine z_iload_n D_m_mostYet_49 rfl ?_
      exact z_ireturn rfl D_m_mostYet_50 (pvI (by rw [show i = 6 by omega]; rfl) rfl)
    · refine z_iload_n D_m_mostYet_10 rfl ?_
      refine z_aload_n D_m_mostYet_11 rfl ?_
      refine z_getR (q := 52) fl_m_54 (rfl) rfl (rfl) D_m_mostYet_12 ?_
      refine z_iload_n D_m_mostYet_15 rfl ?_
      refine z_iald (n := 6) (rfl) (by omega) D_m_mostYet_16 ?_
      refine z_aload_n D_m_mostYet_17 rfl ?_
      refine z_getR (q := 53) fl_m_57 (rfl) rfl (rfl) D_m_mostYet_18 ?_
      refine z_iload_n D_m_mostYet_21 rfl ?_
      refine z_iald (n := 6) (rfl) (by omega) D_m_mostYet_22 ?_
      refine z_icmp_ge (tgt := 35) D_m_mostYet_23 (by decide) (by have := hri (by omega); omega) (by have := hri (by omega); omega) (fun q23 => ?_) (fun q23 => ?_)
      · refine z_aload_n D_m_mostYet_35 rfl ?_
        refine z_getR (q := 53) fl_m_57 (rfl) rfl (rfl) D_m_mostYet_36 ?_
        refine z_iload_n D_m_mostYet_39 rfl ?_
        refine z_iald (n := 6) (rfl) (by omega) D_m_mostYet_40 ?_
        refine z_iadd D_m_mostYet_41 ?_
        refine z_istore_1 D_m_mostYet_42 (Nat.le_of_ble_eq_true rfl) rfl ?_
        refine z_iinc_2 D_m_mostYet_43 (Nat.le_of_ble_eq_true rfl) rfl ?_
        refine z_goto (tgt := 4) D_m_mostYet_46 (by decide) ?_
        have q := ih (i + 1) (by omega) (by omega) (by omega)
        rw [sumF_1 h0, show min (h 53 i.toNat) (h 52 i.toNat) = h 53 i.toNat by omega] at q
        exact q
      · refine z_aload_n D_m_mostYet_26 rfl ?_
        refine z_getR (q := 52) fl_m_54 (rfl) rfl (rfl) D_m_mostYet_27 ?_
        refine z_iload_n D_m_mostYet_30 rfl ?_
        refine z_iald (n := 6) (rfl) (by omega) D_m_mostYet_31 ?_
        refine z_goto (tgt := 41) D_m_mostYet_32 (by decide) ?_
        refine z_iadd D_m_mostYet_41 ?_
        refine z_istore_1 D_m_mostYet_42 (Nat.le_of_ble_eq_true rfl) rfl ?_
        refine z_iinc_2 D_m_mostYet_43 (Nat.le_of_ble_eq_true rfl) rfl ?_
        refine z_goto (tgt := 4) D_m_mostYet_46 (by decide) ?_
        have q := ih (i + 1) (by omega) (by omega) (by omega)
        rw [sumF_1 h0, show min (h 53 i.toNat) (h 52 i.toNat) = h 52 i.toNat by omega] at q
        exact q
theorem c_m_mostYet {h : zH}  (hr : ∀ c : Int, 0 ≤ c → c ≤ 5 → (-100 ≤ h 53 c.toNat ∧ h 53 c.toNat ≤ 100) ∧ (-100 ≤ h 52 c.toNat ∧ h 52 c.toNat ≤ 100)) : zC M_m_mostYet [vR 39] h (pV (vI (sumF (fun c => min (h 53 c.toNat) (h 52 c.toNat)) 6)) h) := by
  refine zC.ofN 2 (by decide) (by first | decide | exact Nat.le_of_ble_eq_true rfl) ?_
  show Z M_m_mostYet _ 0 [vR 39, vU, vU] [] h
  refine z_iconst D_m_mostYet_0 ?_
  refine z_istore_1 D_m_mostYet_1 (Nat.le_of_ble_eq_true rfl) rfl ?_
  refine z_iconst D_m_mostYet_2 ?_
  refine z_istore_2 D_m_mostYet_3 (Nat.le_of_ble_eq_true rfl) rfl ?_
  exact l_m_mostYet hr (7 : Nat) 0 (by omega) (by omega) (by omega)

def pQ (r : Int) (f : Int → Int) (h : zH) (A : Nat) : zH := if r = -9 then h else zup h A (f r).toNat (h A (f r).toNat - 1)
theorem l_x_lowestSeat {h h1 : zH} {w T : Nat} {p v L : Int} {F Wn : Int → Int} (hx : XI h w) (hE : ∀ a, (a < 33 ∨ 38 < a) → h1 a = h a) (hp : 0 ≤ p ∧ p < h w 4) (hv : 1 ≤ v ∧ v ≤ 60) (hT : T < 4096) (hL : -1000 ≤ L ∧ L ≤ 1000) (hF : ∀ c, 0 ≤ c → c ≤ 5 → -20 ≤ F c ∧ F c ≤ 20) (hW : ∀ c, 0 ≤ c → c ≤ 5 → -20 ≤ Wn c ∧ Wn c ≤ 20) (h36 : ∀ c, 0 ≤ c → c ≤ 5 → h1 36 c.toNat = F c) (h37 : ∀ c, 0 ≤ c → c ≤ 5 → h1 37 c.toNat = Wn c) : ∀ (k : Nat) (i : Int) (y6 y7 : zV), vlong y6 = false → 0 ≤ i → i + k = h w 3 → Z M_x_lowestSeat (fun r9 h9 => ∃ r, r = lstU (prS F Wn T L (wx h w p) (fun s => gx h w s v)) (-9) k i ∧ r9 = some (vI (if r = -9 then 0 else r)) ∧ h9 = pQ r (fun s => gx h w s v) h1 36) 3 [vR 0, vI p, vI v, vI (T : Int), vI L, vI i, y6, y7] [] h1 := by
  have hw := hx.2.1
  have hn := hx.2.2.2.hn
  have ew : h1 w = h w := hE w (by omega)
  have ewt : h1 (w + 3) = h (w + 3) := hE (w + 3) (by omega)
  have e0 : h1 0 1 = (w : Int) := by rw [hE 0 (by omega)]; exact hx.1
  have hwp := hx.2.2.2.hW hp.1 hp.2
  have hnp := hx.2.2.2.hnp
  intro k
  induction k with
  | zero =>
    intro i y6 y7 hy h0 h2
    refine z_iload D_x_lowestSeat_3 rfl ?_
    refine z_aload_n D_x_lowestSeat_5 rfl ?_
    refine z_getW fl_x_19 (by decide) e0 D_x_lowestSeat_6 ?_
    refine z_getI fl_x_155 (kw hw) rfl D_x_lowestSeat_9 ?_
    refine z_icmp_ge (tgt := 97) D_x_lowestSeat_12 (by decide) (by omega) (by rw [ew]; omega) (fun q12 => ?_) (fun q12 => ?_)
    · refine z_iconst D_x_lowestSeat_97 ?_
      exact z_ireturn rfl D_x_lowestSeat_98 (⟨_, rfl, rfl, rfl⟩)
    · exfalso
      rw [ew] at q12
      omega
  | succ k ih =>
    intro i y6 y7 hy h0 h2
    have hg := gx_in hx i v
    have h2F : ∀ c : Int, 0 ≤ c → c ≤ 5 → zup h1 36 (gx h w i v).toNat (h1 36 (gx h w i v).toNat - 1) 36 c.toNat = dec F (gx h w i v) c := by
      intro c c0 c5
      unfold dec
      by_cases hc : c = gx h w i v
      · rw [if_pos hc, hc, zup_same, h36 _ hg.1 hg.2]
      · rw [if_neg hc, zup_nk (by omega), h36 c c0 c5]
    have hms : sumF (fun c => min (zup h1 36 (gx h w i v).toNat (h1 36 (gx h w i v).toNat - 1) 36 c.toNat) (zup h1 36 (gx h w i v).toNat (h1 36 (gx h w i v).toNat - 1) 37 c.toNat)) 6 = mS (dec F (gx h w i v)) Wn := by
      refine sumF_congr (fun j j0 j6 => ?_)
      rw [h2F j j0 (by omega), zup_ne (by decide), h37 j j0 (by omega)]
    have hmi := mS_in (F := dec F (gx h w i v)) (W := Wn) (fun c c0 c5 => by have := hF c c0 c5; unfold dec; split <;> omega) (fun c c0 c5 => by have := hW c c0 c5; omega)
    have hr2 : ∀ c : Int, 0 ≤ c → c ≤ 5 → (-100 ≤ zup h1 36 (gx h w i v).toNat (h1 36 (gx h w i v).toNat - 1) 36 c.toNat ∧ zup h1 36 (gx h w i v).toNat (h1 36 (gx h w i v).toNat - 1) 36 c.toNat ≤ 100) ∧ (-100 ≤ zup h1 36 (gx h w i v).toNat (h1 36 (gx h w i v).toNat - 1) 37 c.toNat ∧ zup h1 36 (gx h w i v).toNat (h1 36 (gx h w i v).toNat - 1) 37 c.toNat ≤ 100) := by
      intro c c0 c5
      have a := hF c c0 c5
      have b := hW c c0 c5
      rw [h2F c c0 c5, zup_ne (by decide), h37 c c0 c5]
      unfold dec
      split <;> omega
    have hz := zb_01 (gx h w i v = wx h w p)
    refine z_iload D_x_lowestSeat_3 rfl ?_
    refine z_aload_n D_x_lowestSeat_5 rfl ?_
    refine z_getW fl_x_19 (by decide) e0 D_x_lowestSeat_6 ?_
    refine z_getI fl_x_155 (kw hw) rfl D_x_lowestSeat_9 ?_
    refine z_icmp_ge (tgt := 97) D_x_lowestSeat_12 (by decide) (by omega) (by rw [ew]; omega) (fun q12 => ?_) (fun q12 => ?_)
    · exfalso
      rw [ew] at q12
      omega
    · refine z_iload_n D_x_lowestSeat_15 rfl ?_
      refine z_iload D_x_lowestSeat_16 rfl ?_
      refine z_ishr D_x_lowestSeat_18 T i.toNat rfl (by omega) (by omega) (by omega) ?_
      refine z_iconst D_x_lowestSeat_19 ?_
      refine z_iand1 D_x_lowestSeat_20 (by omega) ?_
      refine z_if_ne (tgt := 91) D_x_lowestSeat_21 (by decide) (by omega) (fun q21 => ?_) (fun q21 => ?_)
      · refine z_iinc_5 D_x_lowestSeat_91 (Nat.le_of_ble_eq_true rfl) rfl ?_
        refine z_goto (tgt := 3) D_x_lowestSeat_94 (by decide) ?_
        have e : (prS F Wn T L (wx h w p) (fun s => gx h w s v)) i = false := by
          have tb : T.testBit i.toNat = true := by rw [← tb_iff]; omega
          unfold prS
          rw [tb]
          rfl
        have q := ih (i + 1) y6 y7 hy (by omega) (by omega)
        rw [lstU, e]
        exact q
      · refine z_aload_n D_x_lowestSeat_24 rfl ?_
        refine z_iload D_x_lowestSeat_25 rfl ?_
        refine z_iload_n D_x_lowestSeat_27 rfl ?_
        refine z_V2 (c0 := 11) (c_x_colourBehindE hx (fun a q => hE a (Or.inl q)) ⟨h0, by omega⟩ (by omega)) G_x_colourBehind I_x_colourBehind lk_x_196 (rfl) ⟨by decide, rfl⟩ ⟨Nat.le_of_ble_eq_true rfl, Nat.le_of_ble_eq_true rfl⟩ (Nat.le_of_ble_eq_true rfl) D_x_lowestSeat_28 ?_
        refine z_istore_6 D_x_lowestSeat_31 (Nat.le_of_ble_eq_true rfl) rfl ?_
        refine z_iload D_x_lowestSeat_33 rfl ?_
        refine z_aload_n D_x_lowestSeat_35 rfl ?_
        refine z_getW fl_x_19 (by decide) e0 D_x_lowestSeat_36 ?_
        refine z_getR (q := (w + 3)) fl_x_135 (kw hw) rfl (kw2 hw) D_x_lowestSeat_39 ?_
        refine z_iload_n D_x_lowestSeat_42 rfl ?_
        refine z_iald (n := 6) (kwn hw) (by omega) D_x_lowestSeat_43 ?_
        refine z_icmp_ne (tgt := 51) D_x_lowestSeat_44 (by decide) (by omega) (by rw [ewt]; unfold wx at hwp; omega) (fun q44 => ?_) (fun q44 => ?_)
        · rw [ewt] at q44
          have q44 : ¬ gx h w i v = wx h w p := q44
          refine z_iconst D_x_lowestSeat_51 ?_
          refine z_istore_7 D_x_lowestSeat_52 (Nat.le_of_ble_eq_true rfl) rfl ?_
          refine z_aload_n D_x_lowestSeat_54 rfl ?_
          refine z_getR (q := 36) fl_x_90 (rfl) rfl (rfl) D_x_lowestSeat_55 ?_
          refine z_iload D_x_lowestSeat_58 rfl ?_
          refine z_dup2 rfl rfl D_x_lowestSeat_60 ?_
          refine z_iald (n := 6) (rfl) (by omega) D_x_lowestSeat_61 ?_
          refine z_iconst D_x_lowestSeat_62 ?_
          refine z_isub D_x_lowestSeat_63 ?_
          refine z_iast (n := 6) (rfl) (by omega) D_x_lowestSeat_64 ?_
          refine z_iload D_x_lowestSeat_65 rfl ?_
          refine z_aload_n D_x_lowestSeat_67 rfl ?_
          refine z_V0 (c0 := 11) (c_x_mostServed hr2) G_x_mostServed I_x_mostServed lk_x_295 (rfl) ⟨by decide, rfl⟩ ⟨Nat.le_of_ble_eq_true rfl, Nat.le_of_ble_eq_true rfl⟩ (Nat.le_of_ble_eq_true rfl) D_x_lowestSeat_68 ?_
          refine z_iadd D_x_lowestSeat_71 ?_
          refine z_iload D_x_lowestSeat_72 rfl ?_
          refine z_icmp_ne (tgt := 80) D_x_lowestSeat_74 (by decide) (by rw [hms]; omega) (by omega) (fun q74 => ?_) (fun q74 => ?_)
          · refine z_aload_n D_x_lowestSeat_80 rfl ?_
            refine z_getR (q := 36) fl_x_90 (rfl) rfl (rfl) D_x_lowestSeat_81 ?_
            refine z_iload D_x_lowestSeat_84 rfl ?_
            refine z_dup2 rfl rfl D_x_lowestSeat_86 ?_
            refine z_iald (n := 6) (rfl) (by omega) D_x_lowestSeat_87 ?_
            refine z_iconst D_x_lowestSeat_88 ?_
            refine z_iadd D_x_lowestSeat_89 ?_
            refine z_iast (n := 6) (rfl) (by omega) D_x_lowestSeat_90 ?_
            refine z_iinc_5 D_x_lowestSeat_91 (Nat.le_of_ble_eq_true rfl) rfl ?_
            refine z_goto (tgt := 3) D_x_lowestSeat_94 (by decide) ?_
            have e : (prS F Wn T L (wx h w p) (fun s => gx h w s v)) i = false := by
              unfold prS
              rw [beq_eq_false_iff_ne.mpr (by rw [hms] at q74; rw [zb_f q44]; exact q74)]
              exact Bool.and_false _
            have q := fun y7 => ih (i + 1) (vI (gx h w i v)) y7 rfl (by omega) (by omega)
            rw [zup_same, zup_back (by omega)]
            rw [lstU, e]
            exact q _
          · refine z_iload D_x_lowestSeat_77 rfl ?_
            have e : (prS F Wn T L (wx h w p) (fun s => gx h w s v)) i = true := by
              have tb : T.testBit i.toNat = false := by
                cases hb : T.testBit i.toNat with
                | false => rfl
                | true => have := tb_iff.mpr hb; omega
              unfold prS
              rw [tb, beq_iff_eq.mpr (by rw [hms] at q74; rw [zb_f q44]; exact q74)]
              rfl
            refine z_ireturn rfl D_x_lowestSeat_79 ⟨i, by rw [lstU, e]; rfl, by rw [if_neg (by omega)], by unfold pQ; rw [if_neg (by omega)]⟩
        · rw [ewt] at q44
          have q44 : gx h w i v = wx h w p := q44
          refine z_iconst D_x_lowestSeat_47 ?_
          refine z_goto (tgt := 52) D_x_lowestSeat_48 (by decide) ?_
          refine z_istore_7 D_x_lowestSeat_52 (Nat.le_of_ble_eq_true rfl) rfl ?_
          refine z_aload_n D_x_lowestSeat_54 rfl ?_
          refine z_getR (q := 36) fl_x_90 (rfl) rfl (rfl) D_x_lowestSeat_55 ?_
          refine z_iload D_x_lowestSeat_58 rfl ?_
          refine z_dup2 rfl rfl D_x_lowestSeat_60 ?_
          refine z_iald (n := 6) (rfl) (by omega) D_x_lowestSeat_61 ?_
          refine z_iconst D_x_lowestSeat_62 ?_
          refine z_isub D_x_lowestSeat_63 ?_
          refine z_iast (n := 6) (rfl) (by omega) D_x_lowestSeat_64 ?_
          refine z_iload D_x_lowestSeat_65 rfl ?_
          refine z_aload_n D_x_lowestSeat_67 rfl ?_
          refine z_V0 (c0 := 11) (c_x_mostServed hr2) G_x_mostServed I_x_mostServed lk_x_295 (rfl) ⟨by decide, rfl⟩ ⟨Nat.le_of_ble_eq_true rfl, Nat.le_of_ble_eq_true rfl⟩ (Nat.le_of_ble_eq_true rfl) D_x_lowestSeat_68 ?_
          refine z_iadd D_x_lowestSeat_71 ?_
          refine z_iload D_x_lowestSeat_72 rfl ?_
          refine z_icmp_ne (tgt := 80) D_x_lowestSeat_74 (by decide) (by rw [hms]; omega) (by omega) (fun q74 => ?_) (fun q74 => ?_)
          · refine z_aload_n D_x_lowestSeat_80 rfl ?_
            refine z_getR (q := 36) fl_x_90 (rfl) rfl (rfl) D_x_lowestSeat_81 ?_
            refine z_iload D_x_lowestSeat_84 rfl ?_
            refine z_dup2 rfl rfl D_x_lowestSeat_86 ?_
            refine z_iald (n := 6) (rfl) (by omega) D_x_lowestSeat_87 ?_
            refine z_iconst D_x_lowestSeat_88 ?_
            refine z_iadd D_x_lowestSeat_89 ?_
            refine z_iast (n := 6) (rfl) (by omega) D_x_lowestSeat_90 ?_
            refine z_iinc_5 D_x_lowestSeat_91 (Nat.le_of_ble_eq_true rfl) rfl ?_
            refine z_goto (tgt := 3) D_x_lowestSeat_94 (by decide) ?_
            have e : (prS F Wn T L (wx h w p) (fun s => gx h w s v)) i = false := by
              unfold prS
              rw [beq_eq_false_iff_ne.mpr (by rw [hms] at q74; rw [zb_t q44]; exact q74)]
              exact Bool.and_false _
            have q := fun y7 => ih (i + 1) (vI (gx h w i v)) y7 rfl (by omega) (by omega)
            rw [zup_same, zup_back (by omega)]
            rw [lstU, e]
            exact q _
          · refine z_iload D_x_lowestSeat_77 rfl ?_
            have e : (prS F Wn T L (wx h w p) (fun s => gx h w s v)) i = true := by
              have tb : T.testBit i.toNat = false := by
                cases hb : T.testBit i.toNat with
                | false => rfl
                | true => have := tb_iff.mpr hb; omega
              unfold prS
              rw [tb, beq_iff_eq.mpr (by rw [hms] at q74; rw [zb_t q44]; exact q74)]
              rfl
            refine z_ireturn rfl D_x_lowestSeat_79 ⟨i, by rw [lstU, e]; rfl, by rw [if_neg (by omega)], by unfold pQ; rw [if_neg (by omega)]⟩
theorem c_x_lowestSeat {h h1 : zH} {w T : Nat} {p v L : Int} {F Wn : Int → Int} (hx : XI h w) (hE : ∀ a, (a < 33 ∨ 38 < a) → h1 a = h a) (hp : 0 ≤ p ∧ p < h w 4) (hv : 1 ≤ v ∧ v ≤ 60) (hT : T < 4096) (hL : -1000 ≤ L ∧ L ≤ 1000) (hF : ∀ c, 0 ≤ c → c ≤ 5 → -20 ≤ F c ∧ F c ≤ 20) (hW : ∀ c, 0 ≤ c → c ≤ 5 → -20 ≤ Wn c ∧ Wn c ≤ 20) (h36 : ∀ c, 0 ≤ c → c ≤ 5 → h1 36 c.toNat = F c) (h37 : ∀ c, 0 ≤ c → c ≤ 5 → h1 37 c.toNat = Wn c) : zC M_x_lowestSeat [vR 0, vI p, vI v, vI (T : Int), vI L] h1 (fun r9 h9 => ∃ r, r = lstU (prS F Wn T L (wx h w p) (fun s => gx h w s v)) (-9) (h w 3).toNat 0 ∧ r9 = some (vI (if r = -9 then 0 else r)) ∧ h9 = pQ r (fun s => gx h w s v) h1 36) := by
  refine zC.ofN 3 (by decide) (Nat.le_of_ble_eq_true rfl) ?_
  show Z M_x_lowestSeat _ 0 [vR 0, vI p, vI v, vI (T : Int), vI L, vU, vU, vU] [] h1
  have hn := hx.2.2.2.hn
  refine z_iconst D_x_lowestSeat_0 ?_
  refine z_istore_5 D_x_lowestSeat_1 (Nat.le_of_ble_eq_true rfl) rfl ?_
  exact l_x_lowestSeat hx hE hp hv hT hL hF hW h36 h37 _ 0 vU vU rfl (by omega) (by omega)
