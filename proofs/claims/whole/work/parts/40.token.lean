/-! tokens -/
def skn (b : Int → Bool) : Nat → Int → Int
  | 0, i => i
  | k + 1, i => if b i = true then skn b k (i + 1) else i
def spE (b : Int → Bool) (L i : Int) : Int := skn b (L - i).toNat i
theorem spE_y {b : Int → Bool} {L i : Int} (h : i < L) (hb : b i = true) : spE b L i = spE b L (i + 1) := by
  unfold spE
  rw [show (L - i).toNat = (L - (i + 1)).toNat + 1 by omega]
  show (if b i = true then _ else _) = _
  rw [if_pos hb]
theorem spE_n {b : Int → Bool} {L i : Int} (h : ¬ (i < L ∧ b i = true)) : spE b L i = i := by
  unfold spE
  by_cases hi : i < L
  · rw [show (L - i).toNat = (L - (i + 1)).toNat + 1 by omega]
    show (if b i = true then _ else _) = _
    rw [if_neg (fun q => h ⟨hi, q⟩)]
  · rw [show (L - i).toNat = 0 by omega]
    rfl
theorem skn_in (b : Int → Bool) : ∀ (k : Nat) (i : Int), i ≤ skn b k i ∧ skn b k i ≤ i + k
  | 0, i => by show i ≤ i ∧ i ≤ i + 0; omega
  | k + 1, i => by
    have := skn_in b k (i + 1)
    show i ≤ (if b i = true then _ else _) ∧ (if b i = true then _ else _) ≤ _
    split <;> omega
theorem spE_in (b : Int → Bool) {L i : Int} (h : i ≤ L) : i ≤ spE b L i ∧ spE b L i ≤ L := by
  have := skn_in b (L - i).toNat i
  unfold spE
  omega
theorem skn_st (b : Int → Bool) : ∀ (k : Nat) (i : Int), skn b k i < i + k → b (skn b k i) = false
  | 0, i, h => by have h : i < i + 0 := h; omega
  | k + 1, i, h => by
    have ih := skn_st b k (i + 1)
    have e : skn b (k + 1) i = if b i = true then skn b k (i + 1) else i := rfl
    rw [e] at h ⊢
    by_cases hb : b i = true
    · rw [if_pos hb] at h ⊢
      exact ih (by omega)
    · rw [if_neg hb]
      exact Bool.eq_false_iff.mpr hb
theorem spE_st {b : Int → Bool} {L i : Int} (h : spE b L i < L) (hi : i ≤ L) : b (spE b L i) = false := by
  unfold spE at h ⊢
  exact skn_st b _ i (by omega)
def dvn (T : Int → Int) : Nat → Int → Int → Int
  | 0, _, v => v
  | k + 1, i, v => if 48 ≤ T i ∧ T i ≤ 57 then dvn T k (i + 1) (if 99 < v then v else 10 * v + T i - 48) else v
def dvE (T : Int → Int) (L i v : Int) : Int := dvn T (L - i).toNat i v
theorem dvE_y {T : Int → Int} {L i v : Int} (h : i < L) (hb : 48 ≤ T i ∧ T i ≤ 57) : dvE T L i v = dvE T L (i + 1) (if 99 < v then v else 10 * v + T i - 48) := by
  unfold dvE
  rw [show (L - i).toNat = (L - (i + 1)).toNat + 1 by omega]
  show (if _ then _ else _) = _
  rw [if_pos hb]
theorem dvE_n {T : Int → Int} {L i v : Int} (h : ¬ (i < L ∧ (48 ≤ T i ∧ T i ≤ 57))) : dvE T L i v = v := by
  unfold dvE
  by_cases hi : i < L
  · rw [show (L - i).toNat = (L - (i + 1)).toNat + 1 by omega]
    show (if _ then _ else _) = _
    rw [if_neg (fun q => h ⟨hi, q⟩)]
  · rw [show (L - i).toNat = 0 by omega]
    rfl
theorem dvn_in (T : Int → Int) : ∀ (k : Nat) (i v : Int), 0 ≤ v → v ≤ 999 → 0 ≤ dvn T k i v ∧ dvn T k i v ≤ 999
  | 0, i, v, h0, h1 => ⟨h0, h1⟩
  | k + 1, i, v, h0, h1 => by
    unfold dvn
    by_cases hb : 48 ≤ T i ∧ T i ≤ 57
    · rw [if_pos hb]
      refine dvn_in T k (i + 1) _ ?_ ?_ <;> split <;> omega
    · rw [if_neg hb]; exact ⟨h0, h1⟩
def bS (T : Int → Int) (i : Int) : Bool := decide (T i = 32)
def bD (T : Int → Int) (i : Int) : Bool := decide (48 ≤ T i ∧ T i ≤ 57)
def bL (T : Int → Int) (i : Int) : Bool := decide (97 ≤ T i ∧ T i ≤ 122)
theorem bS_t {T : Int → Int} {i : Int} : bS T i = true ↔ T i = 32 := decide_eq_true_iff
theorem bD_t {T : Int → Int} {i : Int} : bD T i = true ↔ (48 ≤ T i ∧ T i ≤ 57) := decide_eq_true_iff
theorem bL_t {T : Int → Int} {i : Int} : bL T i = true ↔ (97 ≤ T i ∧ T i ≤ 122) := decide_eq_true_iff
section TK
variable (T : Int → Int) (L c : Int)
def tkS : Int := spE (bS T) L c
def tkT : Int := if tkS T L c < L then (if 48 ≤ T (tkS T L c) ∧ T (tkS T L c) ≤ 57 then (if 99 < dvE T L (tkS T L c) 0 ∨ (T (tkS T L c) = 48 ∧ 1 < spE (bD T) L (tkS T L c) - tkS T L c) then 4 else 2) else if 97 ≤ T (tkS T L c) ∧ T (tkS T L c) ≤ 122 then 1 else if T (tkS T L c) = 59 then 3 else 4) else 0
def tkN : Int := if tkS T L c < L then (if 48 ≤ T (tkS T L c) ∧ T (tkS T L c) ≤ 57 then spE (bD T) L (tkS T L c) else if 97 ≤ T (tkS T L c) ∧ T (tkS T L c) ≤ 122 then spE (bL T) L (tkS T L c) else tkS T L c + 1) else tkS T L c
def tkV : Int := if 48 ≤ T (tkS T L c) ∧ T (tkS T L c) ≤ 57 then dvE T L (tkS T L c) 0 else if spE (bL T) L (tkS T L c) - tkS T L c = 1 then T (tkS T L c) else 0
end TK
theorem tk_in {T : Int → Int} {L c : Int} (h : c ≤ L) : c ≤ tkS T L c ∧ tkS T L c ≤ L ∧ tkS T L c ≤ tkN T L c ∧ tkN T L c ≤ L ∧ (tkT T L c ≠ 0 → c < tkN T L c) ∧ 0 ≤ tkT T L c ∧ tkT T L c ≤ 4 ∧ (tkT T L c = 0 ↔ tkS T L c = L) := by
  have h1 := spE_in (bS T) h
  have h2 : tkS T L c = spE (bS T) L c := rfl
  unfold tkN tkT
  rw [← h2] at h1
  generalize tkS T L c = s at h1 ⊢
  have h3 := spE_in (bD T) (L := L) (i := s) h1.2
  have h4 := spE_in (bL T) (L := L) (i := s) h1.2
  have h5 : s < L → (48 ≤ T s ∧ T s ≤ 57) → s + 1 ≤ spE (bD T) L s := fun q q2 => by
    rw [spE_y q (bD_t.mpr q2)]; exact (spE_in _ (by omega)).1
  have h6 : s < L → (97 ≤ T s ∧ T s ≤ 122) → s + 1 ≤ spE (bL T) L s := fun q q2 => by
    rw [spE_y q (bL_t.mpr q2)]; exact (spE_in _ (by omega)).1
  generalize spE (bD T) L s = eD at *
  generalize spE (bL T) L s = eL at *
  generalize dvE T L s 0 = dd at *
  by_cases hs : s < L
  · rw [if_pos hs, if_pos hs]
    have h5 := h5 hs
    have h6 := h6 hs
    by_cases hd : 48 ≤ T s ∧ T s ≤ 57
    · rw [if_pos hd, if_pos hd]
      have h5 := h5 hd
      split <;> omega
    · rw [if_neg hd, if_neg hd]
      by_cases hl : 97 ≤ T s ∧ T s ≤ 122
      · rw [if_pos hl, if_pos hl]
        have h6 := h6 hl
        omega
      · rw [if_neg hl, if_neg hl]
        split <;> omega
  · rw [if_neg hs, if_neg hs]
    omega
theorem tkV_in {T : Int → Int} {L c : Int} (h : c ≤ L) (hT : ∀ j, 0 ≤ j → j < L → 0 ≤ T j ∧ T j ≤ 255) (hc : 0 ≤ c) (ht : tkT T L c = 1 ∨ tkT T L c = 2) : 0 ≤ tkV T L c ∧ tkV T L c ≤ 255 := by
  have h1 := tk_in (T := T) h
  have hs : tkS T L c < L := by omega
  have hb := hT (tkS T L c) (by omega) hs
  unfold tkV
  unfold tkT at ht
  rw [if_pos hs] at ht
  have hd := dvn_in T (L - tkS T L c).toNat (tkS T L c) 0 (by omega) (by omega)
  have hd : 0 ≤ dvE T L (tkS T L c) 0 ∧ dvE T L (tkS T L c) 0 ≤ 999 := hd
  by_cases hq : 48 ≤ T (tkS T L c) ∧ T (tkS T L c) ≤ 57
  · rw [if_pos hq]
    rw [if_pos hq] at ht
    by_cases hz : 99 < dvE T L (tkS T L c) 0 ∨ (T (tkS T L c) = 48 ∧ 1 < spE (bD T) L (tkS T L c) - tkS T L c)
    · rw [if_pos hz] at ht; omega
    · omega
  · rw [if_neg hq]
    split <;> omega
/-! the class reads a token -/
def tx (h : zH) (j : Int) : Int := h 2 j.toNat
def TX (h : zH) : Prop := (0 ≤ h 1 1 ∧ h 1 1 ≤ 150) ∧ ∀ j, 0 ≤ j → j < h 1 1 → 0 ≤ tx h j ∧ tx h j ≤ 255
def TK (h h1 : zH) : Prop := (∀ a, a ≠ 1 → h1 a = h a) ∧ ∀ j, (j < 2 ∨ 5 < j) → h1 1 j = h 1 j
theorem TK.rfl' {h : zH} : TK h h := ⟨fun _ _ => rfl, fun _ _ => rfl⟩
theorem TK.put {h h1 : zH} {k : Nat} {x : Int} (a : TK h h1) (hk : 2 ≤ k ∧ k ≤ 5) : TK h (zup h1 1 k x) := ⟨fun b hb => by funext j; rw [zup_ne hb, a.1 b hb], fun j hj => by rw [zup_nk (by omega), a.2 j hj]⟩
theorem TK.trans {h h1 h2 : zH} (a : TK h h1) (b : TK h1 h2) : TK h h2 := ⟨fun q hq => (b.1 q hq).trans (a.1 q hq), fun j hj => (b.2 j hj).trans (a.2 j hj)⟩
theorem TK.eT {h h1 : zH} (a : TK h h1) : tx h1 = tx h := by funext j; unfold tx; rw [a.1 2 (by decide)]
theorem TK.len {h h1 : zH} (a : TK h h1) : h1 1 1 = h 1 1 := a.2 1 (by omega)
theorem TK.ok {h h1 : zH} (a : TK h h1) (q : TX h) : TX h1 := by
  unfold TX
  rw [a.eT, a.len]
  exact q
theorem c_t_byteAt {h : zH} {i : Int} (hT : 0 ≤ h 1 1 ∧ h 1 1 ≤ 150) (hi : 0 ≤ i ∧ i ≤ 200) : zC M_t_byteAt [vR 1, vI i] h (pV (vI (if i < h 1 1 then tx h i else 0)) h) := by
  refine zC.ofN 0 (by decide) (by first | decide | exact Nat.le_of_ble_eq_true rfl) ?_
  show Z M_t_byteAt _ 0 [vR 1, vI i] [] h
  refine z_iload_n D_t_byteAt_0 rfl ?_
  refine z_if_lt (tgt := 30) D_t_byteAt_1 (by decide) (by omega) (fun q1 => ?_) (fun q1 => ?_)
  · refine z_iconst D_t_byteAt_30 ?_
    exact z_ireturn rfl D_t_byteAt_31 (pvI (by first | (rw [if_pos (by omega)]; rfl) | rw [if_neg (by omega)]) rfl)
  · refine z_iload_n D_t_byteAt_4 rfl ?_
    refine z_aload_n D_t_byteAt_5 rfl ?_
    refine z_getI fl_t_15 (rfl) rfl D_t_byteAt_6 ?_
    refine z_icmp_ge (tgt := 30) D_t_byteAt_9 (by decide) (by omega) (by omega) (fun q9 => ?_) (fun q9 => ?_)
    · refine z_iconst D_t_byteAt_30 ?_
      exact z_ireturn rfl D_t_byteAt_31 (pvI (by first | (rw [if_pos (by omega)]; rfl) | rw [if_neg (by omega)]) rfl)
    · refine z_iload_n D_t_byteAt_12 rfl ?_
      refine z_aload_n D_t_byteAt_13 rfl ?_
      refine z_getR (q := 2) fl_t_9 (rfl) rfl (rfl) D_t_byteAt_14 ?_
      refine z_alen (n := 150) (rfl) (by decide) D_t_byteAt_17 ?_
      refine z_icmp_ge (tgt := 30) D_t_byteAt_18 (by decide) (by omega) (by omega) (fun q18 => ?_) (fun q18 => ?_)
      · refine z_iconst D_t_byteAt_30 ?_
        exact z_ireturn rfl D_t_byteAt_31 (pvI (by first | (rw [if_pos (by omega)]; rfl) | rw [if_neg (by omega)]) rfl)
      · refine z_aload_n D_t_byteAt_21 rfl ?_
        refine z_getR (q := 2) fl_t_9 (rfl) rfl (rfl) D_t_byteAt_22 ?_
        refine z_iload_n D_t_byteAt_25 rfl ?_
        refine z_iald (n := 150) (rfl) (by omega) D_t_byteAt_26 ?_
        refine z_goto (tgt := 31) D_t_byteAt_27 (by decide) ?_
        exact z_ireturn rfl D_t_byteAt_31 (pvI (by first | (rw [if_pos (by omega)]; rfl) | rw [if_neg (by omega)]) rfl)

