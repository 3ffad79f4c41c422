/-! all seats -/
abbrev zSt : Type := (Int → Int) × (Int → Int) × Nat × Int × (Int → Int)
def cF (f : Int → Int) (c : Int) (m : Nat) : Int := sumF (fun s => zb (f s = c)) m
theorem cF_1 {f : Int → Int} {c i : Int} (h : 0 ≤ i) : cF f c (i + 1).toNat = cF f c i.toNat + zb (f i = c) := sumF_1 h
theorem cF_in (f : Int → Int) (c : Int) : ∀ m : Nat, 0 ≤ cF f c m ∧ cF f c m ≤ m
  | 0 => by simp [cF, sumF]
  | m + 1 => by
    have := cF_in f c m
    have h2 := zb_01 (f m = c)
    unfold cF at this ⊢
    simp only [sumF]
    omega
def rS (f Wt : Int → Int) (n p : Int) (s : zSt) : Int := lstU (prS s.1 (dec s.2.1 (Wt p)) s.2.2.1 s.2.2.2.1 (Wt p) f) (-9) n.toNat 0
def stX (f Wt : Int → Int) (n p : Int) (s : zSt) : zSt := (if rS f Wt n p s = -9 then s.1 else dec s.1 (f (rS f Wt n p s)), dec s.2.1 (Wt p), s.2.2.1 ||| 2 ^ (if rS f Wt n p s = -9 then 0 else rS f Wt n p s).toNat, s.2.2.2.1 - zb (f (if rS f Wt n p s = -9 then 0 else rS f Wt n p s) = Wt p), fun j => if j = p then (if rS f Wt n p s = -9 then 0 else rS f Wt n p s) else s.2.2.2.2 j)
def st0 (f Wt : Int → Int) (n np : Int) : zSt := (fun c => cF f c n.toNat, fun c => cF Wt c np.toNat, 0, mS (fun c => cF f c n.toNat) (fun c => cF Wt c np.toNat), fun _ => 0)
def seX (f Wt : Int → Int) (n np : Int) (m : Nat) : zSt := iter (stX f Wt n) (st0 f Wt n np) m
theorem seX_1 {f Wt : Int → Int} {n np i : Int} (h : 0 ≤ i) : seX f Wt n np (i + 1).toNat = stX f Wt n i (seX f Wt n np i.toNat) := iter_1 h
theorem rS_in (f Wt : Int → Int) (n p : Int) (s : zSt) (hn : 0 ≤ n) : rS f Wt n p s = -9 ∨ (0 ≤ rS f Wt n p s ∧ rS f Wt n p s < n) := by
  rcases lstU_in (prS s.1 (dec s.2.1 (Wt p)) s.2.2.1 s.2.2.2.1 (Wt p) f) n.toNat (-9) 0 with q | q
  · exact Or.inl q
  · right
    unfold rS
    omega
def rngS (m : Int) (s : zSt) : Prop := (∀ c, 0 ≤ c → c ≤ 5 → (-m ≤ s.1 c ∧ s.1 c ≤ 12) ∧ (-m ≤ s.2.1 c ∧ s.2.1 c ≤ 6)) ∧ s.2.2.1 < 4096 ∧ (-300 - m ≤ s.2.2.2.1 ∧ s.2.2.2.1 ≤ 300)
theorem or_lt12 {T s : Nat} (hT : T < 4096) (hs : s < 12) : T ||| 2 ^ s < 4096 := by
  have : 2 ^ s < 2 ^ 12 := Nat.pow_lt_pow_right (by decide) hs
  exact Nat.or_lt_two_pow (n := 12) hT this
theorem dec_in {F : Int → Int} {k c a b : Int} (h : a ≤ F c ∧ F c ≤ b) : a - 1 ≤ dec F k c ∧ dec F k c ≤ b := by
  unfold dec; split <;> omega
theorem seX_rng {f Wt : Int → Int} {n np : Int} (hn : 0 < n ∧ n ≤ 12) (hnp : 0 ≤ np ∧ np ≤ 6) : ∀ m : Nat, rngS m (seX f Wt n np m)
  | 0 => by
    have hF : ∀ c, 0 ≤ cF f c n.toNat ∧ cF f c n.toNat ≤ 12 := fun c => by have := cF_in f c n.toNat; omega
    have hW : ∀ c, 0 ≤ cF Wt c np.toNat ∧ cF Wt c np.toNat ≤ 6 := fun c => by have := cF_in Wt c np.toNat; omega
    refine ⟨fun c _ _ => ⟨?_, ?_⟩, ?_, ?_⟩
    · have := hF c; show -((0 : Nat) : Int) ≤ cF f c n.toNat ∧ cF f c n.toNat ≤ 12; omega
    · have := hW c; show -((0 : Nat) : Int) ≤ cF Wt c np.toNat ∧ cF Wt c np.toNat ≤ 6; omega
    · show 0 < 4096; omega
    · have := mS_in (F := fun c => cF f c n.toNat) (W := fun c => cF Wt c np.toNat) (fun c _ _ => by have := hF c; omega) (fun c _ _ => by have := hW c; omega)
      show -300 - ((0 : Nat) : Int) ≤ mS (fun c => cF f c n.toNat) (fun c => cF Wt c np.toNat) ∧ mS (fun c => cF f c n.toNat) (fun c => cF Wt c np.toNat) ≤ 300
      omega
  | m + 1 => by
    have ih := seX_rng (f := f) (Wt := Wt) hn hnp m
    have e : seX f Wt n np (m + 1) = stX f Wt n m (seX f Wt n np m) := rfl
    rw [e]
    generalize seX f Wt n np m = s at ih ⊢
    have hr := rS_in f Wt n m s (by omega)
    obtain ⟨i1, i2, i3⟩ := ih
    unfold stX
    generalize hR : rS f Wt n m s = r at hr ⊢
    refine ⟨fun c c0 c5 => ⟨?_, ?_⟩, ?_, ?_⟩
    · have := (i1 c c0 c5).1
      dsimp only
      split
      · omega
      · have h2 := dec_in (k := f r) this; omega
    · have h2 := dec_in (k := Wt m) (i1 c c0 c5).2
      dsimp only
      omega
    · refine or_lt12 i2 ?_
      split <;> omega
    · have hz := zb_01 (f (if r = -9 then 0 else r) = Wt m)
      dsimp only
      omega
theorem l_x_seatAll1 {h : zH} {w : Nat} {v : Int} {post : Option zV → zH → Prop} (hx : XI h w) (hv : 1 ≤ v ∧ v ≤ 60) (K : ∀ h2, (∀ a, (a < 33 ∨ 38 < a) → h2 a = h a) → (∀ c : Int, 0 ≤ c → c ≤ 5 → h2 36 c.toNat = cF (fun s => gx h w s v) c (h w 3).toNat) → (∀ c : Int, 0 ≤ c → c ≤ 5 → h2 37 c.toNat = 0) → Z M_x_seatAll post 50 [vR 0, vI v, vI (h w 3), vU, vU, vU, vU] [] h2) : ∀ (k : Nat) (i : Int) (h1 : zH), 0 ≤ i → i ≤ h w 3 → h w 3 - i < k → (∀ a, (a < 33 ∨ 38 < a) → h1 a = h a) → (∀ c : Int, 0 ≤ c → c ≤ 5 → h1 36 c.toNat = cF (fun s => gx h w s v) c i.toNat) → (∀ c : Int, 0 ≤ c → c ≤ 5 → h1 37 c.toNat = 0) → Z M_x_seatAll post 18 [vR 0, vI v, vI i, vU, vU, vU, vU] [] h1 := by
  intro k
  induction k with
  | zero => intro i h1 h0 h2 h3; omega
  | succ k ih =>
    intro i h1 h0 h2 h3 hE hF hZ
    have hw := hx.2.1
    have hn := hx.2.2.2.hn
    have ew : h1 w = h w := hE w (by omega)
    have e0 : h1 0 1 = (w : Int) := by rw [hE 0 (by omega)]; exact hx.1
    have hg := gx_in hx i v
    refine z_iload_n D_x_seatAll_18 rfl ?_
    refine z_aload_n D_x_seatAll_19 rfl ?_
    refine z_getW fl_x_19 (by decide) e0 D_x_seatAll_20 ?_
    refine z_getI fl_x_155 (kw hw) rfl D_x_seatAll_23 ?_
    refine z_icmp_ge (tgt := 50) D_x_seatAll_26 (by decide) (by omega) (by rw [ew]; omega) (fun q26 => ?_) (fun q26 => ?_)
    · have e9 : i = h w 3 := by rw [ew] at q26; omega
      rw [e9] at hF ⊢
      exact K h1 hE hF hZ
    · refine z_aload_n D_x_seatAll_29 rfl ?_
      refine z_getR (q := 36) fl_x_90 (rfl) rfl (rfl) D_x_seatAll_30 ?_
      refine z_aload_n D_x_seatAll_33 rfl ?_
      refine z_iload_n D_x_seatAll_34 rfl ?_
      refine z_iload_n D_x_seatAll_35 rfl ?_
      refine z_V2 (c0 := 11) (c_x_colourBehindE hx (fun a q => hE a (Or.inl q)) ⟨h0, by rw [ew] at q26; omega⟩ (by omega)) G_x_colourBehind I_x_colourBehind lk_x_196 (rfl) ⟨by decide, rfl⟩ ⟨Nat.le_of_ble_eq_true rfl, Nat.le_of_ble_eq_true rfl⟩ (Nat.le_of_ble_eq_true rfl) D_x_seatAll_36 ?_
      refine z_dup2 rfl rfl D_x_seatAll_39 ?_
      refine z_iald (n := 6) (rfl) (by omega) D_x_seatAll_40 ?_
      refine z_iconst D_x_seatAll_41 ?_
      refine z_iadd D_x_seatAll_42 ?_
      refine z_iast (n := 6) (rfl) (by omega) D_x_seatAll_43 ?_
      refine z_iinc_2 D_x_seatAll_44 (Nat.le_of_ble_eq_true rfl) rfl ?_
      refine z_goto (tgt := 18) D_x_seatAll_47 (by decide) ?_
      rw [ew] at q26
      refine ih (i + 1) _ (by omega) (by omega) (by omega) (fun a q => by funext j; rw [zup_ne (by omega), hE a q]) (fun c c0 c5 => ?_) (fun c c0 c5 => by rw [zup_ne (by decide), hZ c c0 c5])
      rw [cF_1 h0]
      by_cases hc : c = gx h w i v
      · rw [hc, zup_same, hF _ hg.1 hg.2, zb_t rfl]
      · rw [zup_nk (by omega), hF c c0 c5, zb_f (fun q => hc q.symm)]; omega
theorem l_x_seatAll2 {h : zH} {w : Nat} {v : Int} {post : Option zV → zH → Prop} (hx : XI h w) (K : ∀ h2, (∀ a, (a < 33 ∨ 38 < a) → h2 a = h a) → (∀ c : Int, 0 ≤ c → c ≤ 5 → h2 36 c.toNat = cF (fun s => gx h w s v) c (h w 3).toNat) → (∀ c : Int, 0 ≤ c → c ≤ 5 → h2 37 c.toNat = cF (wx h w) c (h w 4).toNat) → Z M_x_seatAll post 87 [vR 0, vI v, vI (h w 4), vU, vU, vU, vU] [] h2) : ∀ (k : Nat) (i : Int) (h1 : zH), 0 ≤ i → i ≤ h w 4 → h w 4 - i < k → (∀ a, (a < 33 ∨ 38 < a) → h1 a = h a) → (∀ c : Int, 0 ≤ c → c ≤ 5 → h1 36 c.toNat = cF (fun s => gx h w s v) c (h w 3).toNat) → (∀ c : Int, 0 ≤ c → c ≤ 5 → h1 37 c.toNat = cF (wx h w) c i.toNat) → Z M_x_seatAll post 52 [vR 0, vI v, vI i, vU, vU, vU, vU] [] h1 := by
  intro k
  induction k with
  | zero => intro i h1 h0 h2 h3; omega
  | succ k ih =>
    intro i h1 h0 h2 h3 hE hF hZ
    have hw := hx.2.1
    have hnp := hx.2.2.2.hnp
    have ew : h1 w = h w := hE w (by omega)
    have ewt : h1 (w + 3) = h (w + 3) := hE (w + 3) (by omega)
    have e0 : h1 0 1 = (w : Int) := by rw [hE 0 (by omega)]; exact hx.1
    have hg := fun q => hx.2.2.2.hW h0 q
    refine z_iload_n D_x_seatAll_52 rfl ?_
    refine z_aload_n D_x_seatAll_53 rfl ?_
    refine z_getW fl_x_19 (by decide) e0 D_x_seatAll_54 ?_
    refine z_getI fl_x_177 (kw hw) rfl D_x_seatAll_57 ?_
    refine z_icmp_ge (tgt := 87) D_x_seatAll_60 (by decide) (by omega) (by rw [ew]; omega) (fun q60 => ?_) (fun q60 => ?_)
    · have e9 : i = h w 4 := by rw [ew] at q60; omega
      rw [e9] at hZ ⊢
      exact K h1 hE hF hZ
    · rw [ew] at q60
      refine z_aload_n D_x_seatAll_63 rfl ?_
      refine z_getR (q := 37) fl_x_93 (rfl) rfl (rfl) D_x_seatAll_64 ?_
      refine z_aload_n D_x_seatAll_67 rfl ?_
      refine z_getW fl_x_19 (by decide) e0 D_x_seatAll_68 ?_
      refine z_getR (q := (w + 3)) fl_x_135 (kw hw) rfl (kw2 hw) D_x_seatAll_71 ?_
      refine z_iload_n D_x_seatAll_74 rfl ?_
      refine z_iald (n := 6) (kwn hw) (by omega) D_x_seatAll_75 ?_
      have hg := hg (by omega)
      rw [ewt]
      show Z _ _ _ _ [vI (wx h w i), vR 37] _
      refine z_dup2 rfl rfl D_x_seatAll_76 ?_
      refine z_iald (n := 6) (rfl) (by omega) D_x_seatAll_77 ?_
      refine z_iconst D_x_seatAll_78 ?_
      refine z_iadd D_x_seatAll_79 ?_
      refine z_iast (n := 6) (rfl) (by omega) D_x_seatAll_80 ?_
      refine z_iinc_2 D_x_seatAll_81 (Nat.le_of_ble_eq_true rfl) rfl ?_
      refine z_goto (tgt := 52) D_x_seatAll_84 (by decide) ?_
      refine ih (i + 1) _ (by omega) (by omega) (by omega) (fun a q => by funext j; rw [zup_ne (by omega), hE a q]) (fun c c0 c5 => by rw [zup_ne (by decide), hF c c0 c5]) (fun c c0 c5 => ?_)
      rw [cF_1 h0]
      by_cases hc : c = wx h w i
      · rw [hc, zup_same, hZ _ (by omega) hg.2, zb_t rfl]
      · rw [zup_nk (by omega), hZ c c0 c5, zb_f (fun q => hc q.symm)]; omega
theorem l_x_seatAll3 {h : zH} {w : Nat} {v B0 : Int} (hx : XI h w) (hn0 : 0 < h w 3) (hv : 1 ≤ v ∧ v ≤ 60) : ∀ (k : Nat) (i : Int) (h1 : zH) (y6 : zV), 0 ≤ i → i ≤ h w 4 → h w 4 - i < k → (∀ a, (a < 33 ∨ 38 < a) → h1 a = h a) → (∀ c : Int, 0 ≤ c → c ≤ 5 → h1 36 c.toNat = (seX (fun s => gx h w s v) (wx h w) (h w 3) (h w 4) i.toNat).1 c) → (∀ c : Int, 0 ≤ c → c ≤ 5 → h1 37 c.toNat = (seX (fun s => gx h w s v) (wx h w) (h w 3) (h w 4) i.toNat).2.1 c) → (∀ j, 0 ≤ j → j < i → h1 38 j.toNat = (seX (fun s => gx h w s v) (wx h w) (h w 3) (h w 4) i.toNat).2.2.2.2 j) → Z M_x_seatAll (fun r9 h9 => r9 = some (vI B0) ∧ (∀ a, (a < 33 ∨ 38 < a) → h9 a = h a) ∧ ∀ j, 0 ≤ j → j < h w 4 → h9 38 j.toNat = (seX (fun s => gx h w s v) (wx h w) (h w 3) (h w 4) (h w 4).toNat).2.2.2.2 j) 100 [vR 0, vI v, vI B0, vI (seX (fun s => gx h w s v) (wx h w) (h w 3) (h w 4) i.toNat).2.2.2.1, vI ((seX (fun s => gx h w s v) (wx h w) (h w 3) (h w 4) i.toNat).2.2.1 : Int), vI i, y6] [] h1 := by
  intro k
  induction k with
  | zero => intro i h1 y6 h0 h2 h3; omega
  | succ k ih =>
    intro i h1 y6 h0 h2 h3 hE hF hW hS
    have hw := hx.2.1
    have hn := hx.2.2.2.hn
    have hnp := hx.2.2.2.hnp
    have ew : h1 w = h w := hE w (by omega)
    have ewt : h1 (w + 3) = h (w + 3) := hE (w + 3) (by omega)
    have e0 : h1 0 1 = (w : Int) := by rw [hE 0 (by omega)]; exact hx.1
    have hg := fun q => hx.2.2.2.hW h0 q
    have e := seX_1 (f := (fun s => gx h w s v)) (Wt := (wx h w)) (n := h w 3) (np := h w 4) h0
    have hr := seX_rng (f := (fun s => gx h w s v)) (Wt := (wx h w)) ⟨hn0, hn.2⟩ hnp i.toNat
    have q := ih (i + 1)
    rw [e] at q
    have hxt : i = h w 4 → seX (fun s => gx h w s v) (wx h w) (h w 3) (h w 4) i.toNat = seX (fun s => gx h w s v) (wx h w) (h w 3) (h w 4) (h w 4).toNat := fun e9 => by rw [e9]
    generalize seX (fun s => gx h w s v) (wx h w) (h w 3) (h w 4) i.toNat = S at q hr hxt hF hW hS ⊢
    obtain ⟨F, Wn, T, L, sf⟩ := S
    obtain ⟨hr1, hr2, hr3⟩ := hr
    dsimp only at hr1 hr2 hr3 hF hW hS hxt ⊢
    refine z_iload D_x_seatAll_100 rfl ?_
    refine z_aload_n D_x_seatAll_102 rfl ?_
    refine z_getW fl_x_19 (by decide) (by first | exact e0 | exact e04) D_x_seatAll_103 ?_
    refine z_getI fl_x_177 (kw hw) rfl D_x_seatAll_106 ?_
    refine z_icmp_ge (tgt := 190) D_x_seatAll_109 (by decide) (by omega) (by rw [ew]; omega) (fun q109 => ?_) (fun q109 => ?_)
    · refine z_iload_n D_x_seatAll_190 rfl ?_
      exact z_ireturn rfl D_x_seatAll_191 (⟨rfl, hE, fun j j0 j1 => by rw [hS j j0 (by rw [ew] at q109; omega), ← hxt (by rw [ew] at q109; omega)]⟩)
    · rw [ew] at q109
      refine z_aload_n D_x_seatAll_112 rfl ?_
      refine z_getR (q := 37) fl_x_93 (rfl) rfl (rfl) D_x_seatAll_113 ?_
      refine z_aload_n D_x_seatAll_116 rfl ?_
      refine z_getW fl_x_19 (by decide) (by first | exact e0 | exact e04) D_x_seatAll_117 ?_
      refine z_getR (q := (w + 3)) fl_x_135 (kw hw) rfl (kw2 hw) D_x_seatAll_120 ?_
      refine z_iload D_x_seatAll_123 rfl ?_
      refine z_iald (n := 6) (kwn hw) (by omega) D_x_seatAll_125 ?_
      have hg := hg (by omega)
      rw [ewt]
      show Z _ _ _ _ [vI (wx h w i), vR 37] _
      refine z_dup2 rfl rfl D_x_seatAll_126 ?_
      refine z_iald (n := 6) (rfl) (by omega) D_x_seatAll_127 ?_
      refine z_iconst D_x_seatAll_128 ?_
      refine z_isub D_x_seatAll_129 ?_
      refine z_iast (n := 6) (rfl) (by omega) D_x_seatAll_130 ?_
      have hE2 : ∀ a, (a < 33 ∨ 38 < a) → zup h1 37 (wx h w i).toNat (h1 37 (wx h w i).toNat - 1) a = h a := fun a ha => by funext j; rw [zup_ne (by omega), hE a ha]
      have hF2 : ∀ c, 0 ≤ c → c ≤ 5 → zup h1 37 (wx h w i).toNat (h1 37 (wx h w i).toNat - 1) 36 c.toNat = F c := fun c c0 c5 => by rw [zup_ne (by decide), hF c c0 c5]
      have hW2 : ∀ c, 0 ≤ c → c ≤ 5 → zup h1 37 (wx h w i).toNat (h1 37 (wx h w i).toNat - 1) 37 c.toNat = dec Wn (wx h w i) c := by
        intro c c0 c5
        unfold dec
        by_cases hc : c = wx h w i
        · rw [if_pos hc, hc, zup_same, hW _ (by omega) hg.2]
        · rw [if_neg hc, zup_nk (by omega), hW c c0 c5]
      have hS2 : ∀ j, 0 ≤ j → j < i → zup h1 37 (wx h w i).toNat (h1 37 (wx h w i).toNat - 1) 38 j.toNat = sf j := fun j j0 j1 => by rw [zup_ne (by decide), hS j j0 j1]
      generalize zup h1 37 (wx h w i).toNat (h1 37 (wx h w i).toNat - 1) = h2 at hE2 hF2 hW2 hS2 ⊢
      refine z_aload_n D_x_seatAll_131 rfl ?_
      refine z_iload D_x_seatAll_132 rfl ?_
      refine z_iload_n D_x_seatAll_134 rfl ?_
      refine z_iload D_x_seatAll_135 rfl ?_
      refine z_iload_n D_x_seatAll_137 rfl ?_
      refine z_V4q (c0 := 11) (c_x_lowestSeat (T := T) (F := F) (Wn := dec Wn (wx h w i)) hx hE2 ⟨h0, by omega⟩ hv hr2 (by omega) (fun c c0 c5 => by have := hr1 c c0 c5; omega) (fun c c0 c5 => by have := dec_in (k := wx h w i) (hr1 c c0 c5).2; omega) hF2 hW2) G_x_lowestSeat I_x_lowestSeat lk_x_298 (rfl) ⟨by decide, rfl⟩ ⟨Nat.le_of_ble_eq_true rfl, Nat.le_of_ble_eq_true rfl⟩ (Nat.le_of_ble_eq_true rfl) D_x_seatAll_138 (fun v9 h9 hp9 => ?_)
      obtain ⟨r, hr9, rfl, rfl⟩ := hp9
      have hrS : rS (fun s => gx h w s v) (wx h w) (h w 3) i (F, Wn, T, L, sf) = r := hr9.symm
      have hri := rS_in (fun s => gx h w s v) (wx h w) (h w 3) i (F, Wn, T, L, sf) hn.1
      rw [hrS] at hri
      obtain ⟨sp, hsp⟩ : ∃ sp : Int, (if r = -9 then 0 else r) = sp := ⟨_, rfl⟩
      rw [hsp]
      have hsp0 : 0 ≤ sp := by rw [← hsp]; split <;> omega
      have hsp1 : sp < h w 3 := by rw [← hsp]; split <;> omega
      have hE3 : ∀ a, (a < 33 ∨ 38 < a) → pQ r (fun s => gx h w s v) h2 36 a = h a := by
        intro a ha
        unfold pQ
        split
        · exact hE2 a ha
        · funext j; rw [zup_ne (by omega), hE2 a ha]
      have hF3 : ∀ c, 0 ≤ c → c ≤ 5 → pQ r (fun s => gx h w s v) h2 36 36 c.toNat = (if r = -9 then F else dec F (gx h w r v)) c := by
        intro c c0 c5
        have hgr := gx_in hx r v
        unfold pQ
        by_cases hr0 : r = -9
        · rw [if_pos hr0, if_pos hr0, hF2 c c0 c5]
        · rw [if_neg hr0, if_neg hr0]
          dsimp only
          unfold dec
          by_cases hc : c = gx h w r v
          · rw [if_pos hc, hc, zup_same, hF2 _ hgr.1 hgr.2]
          · rw [if_neg hc, zup_nk (by omega), hF2 c c0 c5]
      have hW3 : ∀ c, 0 ≤ c → c ≤ 5 → pQ r (fun s => gx h w s v) h2 36 37 c.toNat = dec Wn (wx h w i) c := by
        intro c c0 c5
        unfold pQ
        split
        · exact hW2 c c0 c5
        · rw [zup_ne (by decide), hW2 c c0 c5]
      have hS3 : ∀ j, 0 ≤ j → j < i → pQ r (fun s => gx h w s v) h2 36 38 j.toNat = sf j := by
        intro j j0 j1
        unfold pQ
        split
        · exact hS2 j j0 j1
        · rw [zup_ne (by decide), hS2 j j0 j1]
      generalize pQ r (fun s => gx h w s v) h2 36 = h3 at hE3 hF3 hW3 hS3 ⊢
      have hE4 : ∀ a, a < 33 → zup h3 38 i.toNat sp a = h a := fun a ha => by funext j; rw [zup_ne (by omega), hE3 a (Or.inl ha)]
      have e04 : zup h3 38 i.toNat sp 0 1 = (w : Int) := by rw [hE4 0 (by omega)]; exact hx.1
      have ewt4 : zup h3 38 i.toNat sp (w + 3) = h (w + 3) := hE4 (w + 3) (by omega)
      show Z _ _ _ _ [vI sp] _
      refine z_istore_6 D_x_seatAll_141 (Nat.le_of_ble_eq_true rfl) rfl ?_
      refine z_aload_n D_x_seatAll_143 rfl ?_
      refine z_getR (q := 38) fl_x_96 (rfl) rfl (rfl) D_x_seatAll_144 ?_
      refine z_iload D_x_seatAll_147 rfl ?_
      refine z_iload D_x_seatAll_149 rfl ?_
      refine z_iast (n := 6) (rfl) (by omega) D_x_seatAll_151 ?_
      refine z_iload D_x_seatAll_152 rfl ?_
      refine z_iconst D_x_seatAll_154 ?_
      refine z_iload D_x_seatAll_155 rfl ?_
      refine z_ishl D_x_seatAll_157 sp.toNat rfl (by omega) (by omega) ?_
      refine z_ior D_x_seatAll_158 T _ rfl rfl ?_
      refine z_istore_4 D_x_seatAll_159 (Nat.le_of_ble_eq_true rfl) rfl ?_
      refine z_aload_n D_x_seatAll_161 rfl ?_
      refine z_iload D_x_seatAll_162 rfl ?_
      refine z_iload_n D_x_seatAll_164 rfl ?_
      refine z_V2 (c0 := 11) (c_x_colourBehindE hx hE4 ⟨hsp0, hsp1⟩ (by omega)) G_x_colourBehind I_x_colourBehind lk_x_196 (rfl) ⟨by decide, rfl⟩ ⟨Nat.le_of_ble_eq_true rfl, Nat.le_of_ble_eq_true rfl⟩ (Nat.le_of_ble_eq_true rfl) D_x_seatAll_165 ?_
      refine z_aload_n D_x_seatAll_168 rfl ?_
      refine z_getW fl_x_19 (by decide) (by first | exact e0 | exact e04) D_x_seatAll_169 ?_
      refine z_getR (q := (w + 3)) fl_x_135 (kw hw) rfl (kw2 hw) D_x_seatAll_172 ?_
      refine z_iload D_x_seatAll_175 rfl ?_
      refine z_iald (n := 6) (kwn hw) (by omega) D_x_seatAll_177 ?_
      refine z_icmp_ne (tgt := 184) D_x_seatAll_178 (by decide) (by have := gx_in hx sp v; omega) (by rw [ewt4]; unfold wx at hg; omega) (fun q178 => ?_) (fun q178 => ?_)
      · rw [ewt4] at q178
        have q178 : ¬ gx h w sp v = wx h w i := q178
        refine z_iinc_5 D_x_seatAll_184 (Nat.le_of_ble_eq_true rfl) rfl ?_
        refine z_goto (tgt := 100) D_x_seatAll_187 (by decide) ?_
        have hz : zb (gx h w sp v = wx h w i) = 0 := zb_f q178
        unfold stX at q
        rw [hrS] at q
        dsimp only at q
        rw [hsp] at q
        rw [hz] at q
        rw [show L - 0 = L + 0 by omega] at q
        rw [Int.add_zero] at q
        refine q _ _ (by omega) (by omega) (by omega) (fun a ha => by funext j; rw [zup_ne (by omega), hE3 a ha]) (fun c c0 c5 => ?_) (fun c c0 c5 => ?_) (fun j j0 j1 => ?_)
        · rw [zup_ne (by decide), hF3 c c0 c5]
        · rw [zup_ne (by decide), hW3 c c0 c5]
        · by_cases hj : j = i
          · rw [if_pos hj, hj, zup_same]
          · rw [if_neg hj, zup_nk (by omega), hS3 j j0 (by omega)]
      · rw [ewt4] at q178
        have q178 : gx h w sp v = wx h w i := q178
        refine z_iinc_3 D_x_seatAll_181 (Nat.le_of_ble_eq_true rfl) rfl ?_
        refine z_iinc_5 D_x_seatAll_184 (Nat.le_of_ble_eq_true rfl) rfl ?_
        refine z_goto (tgt := 100) D_x_seatAll_187 (by decide) ?_
        have hz : zb (gx h w sp v = wx h w i) = 1 := zb_t q178
        unfold stX at q
        rw [hrS] at q
        dsimp only at q
        rw [hsp] at q
        rw [hz] at q
        rw [show L - 1 = L + -1 by omega] at q
        refine q _ _ (by omega) (by omega) (by omega) (fun a ha => by funext j; rw [zup_ne (by omega), hE3 a ha]) (fun c c0 c5 => ?_) (fun c c0 c5 => ?_) (fun j j0 j1 => ?_)
        · rw [zup_ne (by decide), hF3 c c0 c5]
        · rw [zup_ne (by decide), hW3 c c0 c5]
        · by_cases hj : j = i
          · rw [if_pos hj, hj, zup_same]
          · rw [if_neg hj, zup_nk (by omega), hS3 j j0 (by omega)]
theorem c_x_seatAll {h : zH} {w : Nat} {v : Int} (hx : XI h w) (hn0 : 0 < h w 3) (hv : 1 ≤ v ∧ v ≤ 60) : zC M_x_seatAll [vR 0, vI v] h (fun r9 h9 => r9 = some (vI (mS (fun c => cF (fun s => gx h w s v) c (h w 3).toNat) (fun c => cF (wx h w) c (h w 4).toNat))) ∧ (∀ a, (a < 33 ∨ 38 < a) → h9 a = h a) ∧ ∀ j, 0 ≤ j → j < h w 4 → h9 38 j.toNat = (seX (fun s => gx h w s v) (wx h w) (h w 3) (h w 4) (h w 4).toNat).2.2.2.2 j) := by
  refine zC.ofN 5 (by decide) (Nat.le_of_ble_eq_true rfl) ?_
  show Z M_x_seatAll _ 0 [vR 0, vI v, vU, vU, vU, vU, vU] [] h
  have hn := hx.2.2.2.hn
  have hnp := hx.2.2.2.hnp
  refine z_aload_n D_x_seatAll_0 rfl ?_
  refine z_getR (q := 36) fl_x_90 (rfl) rfl (rfl) D_x_seatAll_1 ?_
  refine z_iconst D_x_seatAll_4 ?_
  refine z_S2v (c_j_fill (n := 6) rfl (by omega)) G_j_fill S_j_fill lk_x_289 ⟨Nat.le_of_ble_eq_true rfl, Nat.le_of_ble_eq_true rfl⟩ (Nat.le_of_ble_eq_true rfl) D_x_seatAll_5 ?_
  refine z_aload_n D_x_seatAll_8 rfl ?_
  refine z_getR (q := 37) fl_x_93 (rfl) rfl (rfl) D_x_seatAll_9 ?_
  refine z_iconst D_x_seatAll_12 ?_
  refine z_S2v (c_j_fill (n := 6) rfl (by omega)) G_j_fill S_j_fill lk_x_289 ⟨Nat.le_of_ble_eq_true rfl, Nat.le_of_ble_eq_true rfl⟩ (Nat.le_of_ble_eq_true rfl) D_x_seatAll_13 ?_
  refine z_iconst D_x_seatAll_16 ?_
  refine z_istore_2 D_x_seatAll_17 (Nat.le_of_ble_eq_true rfl) rfl ?_
  refine l_x_seatAll1 hx hv (fun h2 hE2 hF2 hZ2 => ?_) (13 : Nat) 0 _ (by omega) (by omega) (by omega) (fun a q => ?_) (fun c c0 c5 => ?_) (fun c c0 c5 => ?_)
  · refine z_iconst D_x_seatAll_50 ?_
    refine z_istore_2 D_x_seatAll_51 (Nat.le_of_ble_eq_true rfl) rfl ?_
    refine l_x_seatAll2 hx (fun h3 hE3 hF3 hW3 => ?_) (7 : Nat) 0 h2 (by omega) (by omega) (by omega) hE2 hF2 (fun c c0 c5 => by rw [hZ2 c c0 c5]; rfl)
    have hr3 : ∀ c : Int, 0 ≤ c → c ≤ 5 → (-100 ≤ h3 36 c.toNat ∧ h3 36 c.toNat ≤ 100) ∧ (-100 ≤ h3 37 c.toNat ∧ h3 37 c.toNat ≤ 100) := fun c c0 c5 => by
      rw [hF3 c c0 c5, hW3 c c0 c5]
      have a := cF_in (fun s => gx h w s v) c (h w 3).toNat
      have b := cF_in (wx h w) c (h w 4).toNat
      omega
    have hms : sumF (fun c => min (h3 36 c.toNat) (h3 37 c.toNat)) 6 = mS (fun c => cF (fun s => gx h w s v) c (h w 3).toNat) (fun c => cF (wx h w) c (h w 4).toNat) := sumF_congr (fun j j0 j6 => by rw [hF3 j j0 (by omega), hW3 j j0 (by omega)])
    refine z_aload_n D_x_seatAll_87 rfl ?_
    refine z_V0 (c0 := 11) (c_x_mostServed hr3) G_x_mostServed I_x_mostServed lk_x_295 (rfl) ⟨by decide, rfl⟩ ⟨Nat.le_of_ble_eq_true rfl, Nat.le_of_ble_eq_true rfl⟩ (Nat.le_of_ble_eq_true rfl) D_x_seatAll_88 ?_
    refine z_istore_2 D_x_seatAll_91 (Nat.le_of_ble_eq_true rfl) rfl ?_
    refine z_iload_n D_x_seatAll_92 rfl ?_
    refine z_istore_3 D_x_seatAll_93 (Nat.le_of_ble_eq_true rfl) rfl ?_
    refine z_iconst D_x_seatAll_94 ?_
    refine z_istore_4 D_x_seatAll_95 (Nat.le_of_ble_eq_true rfl) rfl ?_
    refine z_iconst D_x_seatAll_97 ?_
    refine z_istore_5 D_x_seatAll_98 (Nat.le_of_ble_eq_true rfl) rfl ?_
    rw [hms]
    exact l_x_seatAll3 hx hn0 hv (7 : Nat) 0 h3 vU (by omega) (by omega) (by omega) hE3 hF3 hW3 (fun j j0 j1 => by omega)
  · funext j; unfold zfill; rw [if_neg (by omega), if_neg (by omega)]
  · unfold zfill; rw [if_neg (by omega), if_pos (by omega)]; rfl
  · unfold zfill; rw [if_pos (by omega)]
theorem c_x_seats {h : zH} {w : Nat} {v p : Int} (hx : XI h w) (r_v : -2147483648 ≤ v ∧ v ≤ 2147483647) (r_p : -2147483648 ≤ p ∧ p ≤ 2147483647) : zC M_x_seats [vR 0, vI v, vI p] h (pX (vI (if (1 ≤ v ∧ v ≤ 60) ∧ (p = -1 ∨ (0 ≤ p ∧ p < h w 4)) then (if h w 3 = 0 then -2 else if p = -1 then mS (fun c => cF (fun s => gx h w s v) c (h w 3).toNat) (fun c => cF (wx h w) c (h w 4).toNat) else (seX (fun s => gx h w s v) (wx h w) (h w 3) (h w 4) (h w 4).toNat).2.2.2.2 p) else -1)) h) := by
  refine zC.ofN 1 (by decide) (by first | decide | exact Nat.le_of_ble_eq_true rfl) ?_
  show Z M_x_seats _ 0 [vR 0, vI v, vI p, vU] [] h
  have hw := hx.2.1
  have hu := hx.2.2.1
  have hn := hx.2.2.2.hn
  have hnp := hx.2.2.2.hnp
  have ht := hx.2.2.2.row.ht
  have hh := hx.2.2.2.row.hh
  have hc := hx.2.2.2.row.hc
  refine z_iload_n D_x_seats_0 rfl ?_
  refine z_S1 (c_x_isSpeed (by omega)) G_x_isSpeed S_x_isSpeed lk_x_152 ⟨Nat.le_of_ble_eq_true rfl, Nat.le_of_ble_eq_true rfl⟩ (Nat.le_of_ble_eq_true rfl) D_x_seats_1 ?_
  refine z_ifeqB (tgt := 23) D_x_seats_4 (by decide) (fun q4 => ?_) (fun q4 => ?_)
  · refine z_iconst D_x_seats_23 ?_
    refine z_ireturn rfl D_x_seats_24 (pxI ?_ (fun a q => rfl))
    rw [if_neg (by omega)]
  · refine z_iload_n D_x_seats_7 rfl ?_
    refine z_iconst D_x_seats_8 ?_
    refine z_icmp_eq (tgt := 25) D_x_seats_9 (by decide) (by omega) (by omega) (fun q9 => ?_) (fun q9 => ?_)
    · refine z_aload_n D_x_seats_25 rfl ?_
      refine z_getW fl_x_19 (by decide) hx.1 D_x_seats_26 ?_
      refine z_getI fl_x_155 (kw hw) rfl D_x_seats_29 ?_
      refine z_if_ne (tgt := 38) D_x_seats_32 (by decide) (by omega) (fun q32 => ?_) (fun q32 => ?_)
      · refine z_aload_n D_x_seats_38 rfl ?_
        refine z_iload_n D_x_seats_39 rfl ?_
        refine z_V1q (c0 := 11) (c_x_seatAll hx (by omega) q4) G_x_seatAll I_x_seatAll lk_x_212 (rfl) ⟨by decide, rfl⟩ ⟨Nat.le_of_ble_eq_true rfl, Nat.le_of_ble_eq_true rfl⟩ (Nat.le_of_ble_eq_true rfl) D_x_seats_40 (fun v9 h9 hp9 => ?_)
        obtain ⟨rfl, hE9, hS9⟩ := hp9
        show Z _ _ _ _ [vI _] _
        refine z_istore_3 D_x_seats_43 (Nat.le_of_ble_eq_true rfl) rfl ?_
        refine z_iload_n D_x_seats_44 rfl ?_
        refine z_iconst D_x_seats_45 ?_
        refine z_icmp_ne (tgt := 53) D_x_seats_46 (by decide) (by omega) (by omega) (fun q46 => ?_) (fun q46 => ?_)
        · refine z_aload_n D_x_seats_53 rfl ?_
          refine z_getR (q := 38) fl_x_96 (rfl) rfl (rfl) D_x_seats_54 ?_
          refine z_iload_n D_x_seats_57 rfl ?_
          refine z_iald (n := 6) (rfl) (by omega) D_x_seats_58 ?_
          refine z_ireturn rfl D_x_seats_59 (pxI ?_ hE9)
          rw [if_pos (by omega), if_neg q32, if_neg (by omega), hS9 p (by omega) (by omega)]
        · refine z_iload_n D_x_seats_49 rfl ?_
          refine z_goto (tgt := 59) D_x_seats_50 (by decide) ?_
          refine z_ireturn rfl D_x_seats_59 (pxI ?_ hE9)
          rw [if_pos (by omega), if_neg q32, if_pos (by omega)]
      · refine z_bipush (by decide) D_x_seats_35 ?_
        refine z_ireturn rfl D_x_seats_37 (pxI ?_ (fun a q => rfl))
        rw [if_pos (by omega), if_pos q32]
    · refine z_aload_n D_x_seats_12 rfl ?_
      refine z_getW fl_x_19 (by decide) hx.1 D_x_seats_13 ?_
      refine z_iload_n D_x_seats_16 rfl ?_
      refine z_V1 (c0 := 10) (c_w_hasPerson hw hnp (by omega)) G_w_hasPerson I_w_hasPerson lk_x_128 (kw hw) ⟨by decide, rfl⟩ ⟨Nat.le_of_ble_eq_true rfl, Nat.le_of_ble_eq_true rfl⟩ (Nat.le_of_ble_eq_true rfl) D_x_seats_17 ?_
      refine z_ifneB (tgt := 25) D_x_seats_20 (by decide) (fun q20 => ?_) (fun q20 => ?_)
      · refine z_aload_n D_x_seats_25 rfl ?_
        refine z_getW fl_x_19 (by decide) hx.1 D_x_seats_26 ?_
        refine z_getI fl_x_155 (kw hw) rfl D_x_seats_29 ?_
        refine z_if_ne (tgt := 38) D_x_seats_32 (by decide) (by omega) (fun q32 => ?_) (fun q32 => ?_)
        · refine z_aload_n D_x_seats_38 rfl ?_
          refine z_iload_n D_x_seats_39 rfl ?_
          refine z_V1q (c0 := 11) (c_x_seatAll hx (by omega) q4) G_x_seatAll I_x_seatAll lk_x_212 (rfl) ⟨by decide, rfl⟩ ⟨Nat.le_of_ble_eq_true rfl, Nat.le_of_ble_eq_true rfl⟩ (Nat.le_of_ble_eq_true rfl) D_x_seats_40 (fun v9 h9 hp9 => ?_)
          obtain ⟨rfl, hE9, hS9⟩ := hp9
          show Z _ _ _ _ [vI _] _
          refine z_istore_3 D_x_seats_43 (Nat.le_of_ble_eq_true rfl) rfl ?_
          refine z_iload_n D_x_seats_44 rfl ?_
          refine z_iconst D_x_seats_45 ?_
          refine z_icmp_ne (tgt := 53) D_x_seats_46 (by decide) (by omega) (by omega) (fun q46 => ?_) (fun q46 => ?_)
          · refine z_aload_n D_x_seats_53 rfl ?_
            refine z_getR (q := 38) fl_x_96 (rfl) rfl (rfl) D_x_seats_54 ?_
            refine z_iload_n D_x_seats_57 rfl ?_
            refine z_iald (n := 6) (rfl) (by omega) D_x_seats_58 ?_
            refine z_ireturn rfl D_x_seats_59 (pxI ?_ hE9)
            rw [if_pos (by omega), if_neg q32, if_neg (by omega), hS9 p (by omega) (by omega)]
          · refine z_iload_n D_x_seats_49 rfl ?_
            refine z_goto (tgt := 59) D_x_seats_50 (by decide) ?_
            refine z_ireturn rfl D_x_seats_59 (pxI ?_ hE9)
            rw [if_pos (by omega), if_neg q32, if_pos (by omega)]
        · refine z_bipush (by decide) D_x_seats_35 ?_
          refine z_ireturn rfl D_x_seats_37 (pxI ?_ (fun a q => rfl))
          rw [if_pos (by omega), if_pos q32]
      · refine z_iconst D_x_seats_23 ?_
        refine z_ireturn rfl D_x_seats_24 (pxI ?_ (fun a q => rfl))
        rw [if_neg (by omega)]

