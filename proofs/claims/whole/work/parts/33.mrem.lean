/-! mutators of the other side -/
def rm (h : zH) (i c : Int) : Int := h 42 (53 + 52 * i + c).toNat
def rmN (h : zH) (i c : Int) : Int := if i = nm h 52 then nm h c else rm h i c
def MRem (h h1 : zH) : Prop := (∀ a, a ≠ 42 → h1 a = h a) ∧ nm h1 52 = (if nm h 52 < 10 then nm h 52 + 1 else 10) ∧ (∀ c, 0 ≤ c → c < 52 → nm h1 c = nm h c) ∧ ∀ i c, 0 ≤ i → i < nm h1 52 → 0 ≤ c → c < 52 → rm h1 i c = rmN h (if nm h 52 < 10 then i else i + 1) c
def MPush (h h1 : zH) (f : Int → Int) : Prop := (∀ a, a ≠ 42 → h1 a = h a) ∧ nm h1 52 = (if nm h 52 < 10 then nm h 52 + 1 else 10) ∧ (∀ c, 0 ≤ c → c < 52 → nm h1 c = f c) ∧ ∀ i c, 0 ≤ i → i < nm h1 52 → 0 ≤ c → c < 52 → rm h1 i c = rmN h (if nm h 52 < 10 then i else i + 1) c
/-- only cells of NOW are others -/
def MRow (h h1 : zH) (f : Int → Int) : Prop := (∀ a, a ≠ 42 → h1 a = h a) ∧ (∀ c, 0 ≤ c → c < 52 → nm h1 c = f c) ∧ ∀ k, 52 ≤ k → h1 42 k = h 42 k
theorem MRow.rfl' {h : zH} : MRow h h (nm h) := ⟨fun _ _ => rfl, fun _ _ _ => rfl, fun _ _ => rfl⟩
theorem MRow.put {h h1 : zH} {f : Int → Int} {c0 x : Int} (hr : MRow h h1 f) (hc : 0 ≤ c0 ∧ c0 < 52) : MRow h (zup h1 42 c0.toNat x) (upI f c0 x) := by
  obtain ⟨a1, a2, a3⟩ := hr
  refine ⟨fun a ha => ?_, fun c c0' c1 => ?_, fun k hk => ?_⟩
  · funext j; rw [zup_ne ha, a1 a ha]
  · unfold nm upI
    by_cases hcc : c = c0
    · rw [if_pos hcc, hcc, zup_same]
    · rw [if_neg hcc, zup_nk (by omega)]; exact a2 c c0' c1
  · rw [zup_nk (by omega), a3 k hk]
theorem MRow.to {h h1 : zH} {f g : Int → Int} (a : MRow h h1 f) (e : ∀ c, 0 ≤ c → c < 52 → f c = g c) : MRow h h1 g := ⟨a.1, fun c c0 c1 => (a.2.1 c c0 c1).trans (e c c0 c1), a.2.2⟩
theorem MRow.trans {h h1 h2 : zH} {f g : Int → Int} (a : MRow h h1 f) (b : MRow h1 h2 g) : MRow h h2 g := ⟨fun q hq => (b.1 q hq).trans (a.1 q hq), b.2.1, fun k hk => (b.2.2 k hk).trans (a.2.2 k hk)⟩
theorem MRem.push {h h1 h2 : zH} {f : Int → Int} (a : MRem h h1) (b : MRow h1 h2 f) : MPush h h2 f := by
  obtain ⟨a1, a2, a3, a4⟩ := a
  obtain ⟨b1, b2, b3⟩ := b
  have e1 : nm h2 52 = nm h1 52 := b3 52 (by omega)
  refine ⟨fun q q1 => (b1 q q1).trans (a1 q q1), e1.trans a2, b2, fun i c i0 i1 c0 c1 => ?_⟩
  rw [e1] at i1
  rw [← a4 i c i0 i1 c0 c1]
  exact b3 _ (by omega)
theorem MPush.to {h h1 : zH} {f g : Int → Int} (a : MPush h h1 f) (e : ∀ c, 0 ≤ c → c < 52 → f c = g c) : MPush h h1 g := ⟨a.1, a.2.1, fun c c0 c1 => (a.2.2.1 c c0 c1).trans (e c c0 c1), a.2.2.2⟩
theorem MRem.put {h h1 : zH} {c0 x : Int} (a : MRem h h1) (hc : 0 ≤ c0 ∧ c0 < 52) : MPush h (zup h1 42 c0.toNat x) (upI (nm h) c0 x) := by
  refine (a.push (MRow.rfl'.put hc)).to (fun c q0 q1 => ?_)
  unfold upI
  split
  · rfl
  · exact a.2.2.1 c q0 q1
theorem MI.rowM {h h1 : zH} {f : Int → Int} (hm : MI h) (hE : ∀ a, a ≠ 42 → h1 a = h a) (hN : ∀ c, 0 ≤ c → c < 52 → nm h1 c = f c) (hf : RowOK (h 39 0) (h 39 4) f) : MI h1 := by
  have hnp := hm.hnp
  have e1 : pm h1 = pm h := by funext j; unfold pm; rw [hE 40 (by decide)]
  have e2 : wm h1 = wm h := by funext j; unfold wm; rw [hE 41 (by decide)]
  unfold MI
  rw [hE 39 (by decide), e1, e2]
  exact ⟨hm.hn, hnp, hm.hk, hm.hd, hm.2.2.2.2.1, hm.2.2.2.2.2.1, hf.to hnp.2 hN⟩
theorem c_m_standsInR {h h1 : zH} {p : Int} {f : Int → Int} (hm : MI h) (hr : MRow h h1 f) (hf : RowOK (h 39 0) (h 39 4) f) (hc : colEq f (nm h)) (hp : 0 ≤ p ∧ p < h 39 4) : zC M_m_standsIn [vR 39, vI p] h1 (pV (vI (col (pm h) (nm h) (h 39 0) p)) h1) := by
  have hnp := hm.hnp
  have e1 : pm h1 = pm h := by funext j; unfold pm; rw [hr.1 40 (by decide)]
  have ew : h1 39 = h 39 := hr.1 39 (by decide)
  have q := c_m_standsIn (p := p) (hm.rowM hr.1 hr.2.1 hf) (by rw [ew]; exact hp)
  have e2 : col (pm h1) (nm h1) (h1 39 0) p = col (pm h) (nm h) (h 39 0) p := by
    rw [e1, ew]
    exact col_eq (fun c qc => (hr.2.1 c (by omega) (by omega)).trans (hc c qc)) (by omega)
  rw [e2] at q
  exact q
theorem l_m_remembers1 {h : zH} {post : Option zV → zH → Prop} {y2 : zV} (K : ∀ h2, (∀ a, a ≠ 42 → h2 a = h a) → (∀ k : Nat, h2 42 k = if 53 ≤ k ∧ k < 521 then h 42 (k + 52) else h 42 k) → Z M_m_remembers post 43 [vR 39, vI 521, y2] [] h2) : ∀ (k : Nat) (i : Int) (h1 : zH), 53 ≤ i → i ≤ 521 → 521 - i < k → (∀ a, a ≠ 42 → h1 a = h a) → (∀ k : Nat, h1 42 k = if 53 ≤ k ∧ (k : Int) < i then h 42 (k + 52) else h 42 k) → Z M_m_remembers post 15 [vR 39, vI i, y2] [] h1 := by
  intro k
  induction k with
  | zero => intro i h1 h0 h2 h3; omega
  | succ k ih =>
    intro i h1 h0 h2 h3 hE hA
    refine z_iload_n D_m_remembers_15 rfl ?_
    refine z_sipush (by decide) D_m_remembers_16 ?_
    refine z_icmp_ge (tgt := 43) D_m_remembers_19 (by decide) (by omega) (by omega) (fun q19 => ?_) (fun q19 => ?_)
    · have e9 : i = 521 := by omega
      subst e9
      refine K h1 hE (fun j => ?_)
      rw [hA]
      by_cases hq : 53 ≤ j ∧ j < 521
      · rw [if_pos hq, if_pos (by omega)]
      · rw [if_neg hq, if_neg (by omega)]
    · refine z_aload_n D_m_remembers_22 rfl ?_
      refine z_getR (q := 42) fl_m_23 (rfl) rfl (rfl) D_m_remembers_23 ?_
      refine z_iload_n D_m_remembers_26 rfl ?_
      refine z_aload_n D_m_remembers_27 rfl ?_
      refine z_getR (q := 42) fl_m_23 (rfl) rfl (rfl) D_m_remembers_28 ?_
      refine z_iload_n D_m_remembers_31 rfl ?_
      refine z_bipush (by decide) D_m_remembers_32 ?_
      refine z_iadd D_m_remembers_34 ?_
      refine z_iald (n := 573) (rfl) (by omega) D_m_remembers_35 ?_
      refine z_iast (n := 573) (rfl) (by omega) D_m_remembers_36 ?_
      refine z_iinc_1 D_m_remembers_37 (Nat.le_of_ble_eq_true rfl) rfl ?_
      refine z_goto (tgt := 15) D_m_remembers_40 (by decide) ?_
      refine ih (i + 1) _ (by omega) (by omega) (by omega) (fun a ha => by funext j; rw [zup_ne ha, hE a ha]) (fun j => ?_)
      by_cases hj : j = i.toNat
      · rw [hj, zup_same, if_pos (by omega), hA, if_neg (by omega)]
        congr 1
        omega
      · rw [zup_nk hj, hA]
        by_cases hq : 53 ≤ j ∧ (j : Int) < i
        · rw [if_pos hq, if_pos (by omega)]
        · rw [if_neg hq, if_neg (by omega)]
theorem l_m_remembers2 {h : zH} {post : Option zV → zH → Prop} {u : Int} (hu : 0 ≤ u ∧ u ≤ 9) (K : ∀ h2, (∀ a, a ≠ 42 → h2 a = h a) → (∀ k : Nat, h2 42 k = if (53 + 52 * u).toNat ≤ k ∧ k < (53 + 52 * u).toNat + 52 then h 42 (k - (53 + 52 * u).toNat) else h 42 k) → Z M_m_remembers post 96 [vR 39, vI (53 + 52 * u), vI 52] [] h2) : ∀ (k : Nat) (i : Int) (h1 : zH), 0 ≤ i → i ≤ 52 → 52 - i < k → (∀ a, a ≠ 42 → h1 a = h a) → (∀ k : Nat, h1 42 k = if (53 + 52 * u).toNat ≤ k ∧ k < (53 + 52 * u).toNat + i.toNat then h 42 (k - (53 + 52 * u).toNat) else h 42 k) → Z M_m_remembers post 70 [vR 39, vI (53 + 52 * u), vI i] [] h1 := by
  intro k
  induction k with
  | zero => intro i h1 h0 h2 h3; omega
  | succ k ih =>
    intro i h1 h0 h2 h3 hE hA
    refine z_iload_n D_m_remembers_70 rfl ?_
    refine z_bipush (by decide) D_m_remembers_71 ?_
    refine z_icmp_ge (tgt := 96) D_m_remembers_73 (by decide) (by omega) (by omega) (fun q73 => ?_) (fun q73 => ?_)
    · have e9 : i = 52 := by omega
      subst e9
      exact K h1 hE hA
    · refine z_aload_n D_m_remembers_76 rfl ?_
      refine z_getR (q := 42) fl_m_23 (rfl) rfl (rfl) D_m_remembers_77 ?_
      refine z_iload_n D_m_remembers_80 rfl ?_
      refine z_iload_n D_m_remembers_81 rfl ?_
      refine z_iadd D_m_remembers_82 ?_
      refine z_aload_n D_m_remembers_83 rfl ?_
      refine z_getR (q := 42) fl_m_23 (rfl) rfl (rfl) D_m_remembers_84 ?_
      refine z_iload_n D_m_remembers_87 rfl ?_
      refine z_iald (n := 573) (rfl) (by omega) D_m_remembers_88 ?_
      refine z_iast (n := 573) (rfl) (by omega) D_m_remembers_89 ?_
      refine z_iinc_2 D_m_remembers_90 (Nat.le_of_ble_eq_true rfl) rfl ?_
      refine z_goto (tgt := 70) D_m_remembers_93 (by decide) ?_
      refine ih (i + 1) _ (by omega) (by omega) (by omega) (fun a ha => by funext j; rw [zup_ne ha, hE a ha]) (fun j => ?_)
      by_cases hj : j = (53 + 52 * u + i).toNat
      · rw [hj, zup_same, if_pos (by omega), hA, if_neg (by omega)]
        congr 1
        omega
      · rw [zup_nk hj, hA]
        by_cases hq : (53 + 52 * u).toNat ≤ j ∧ j < (53 + 52 * u).toNat + i.toNat
        · rw [if_pos hq, if_pos (by omega)]
        · rw [if_neg hq, if_neg (by omega)]
theorem c_m_remembers {h : zH} (hu : 0 ≤ nm h 52 ∧ nm h 52 ≤ 10) : zC M_m_remembers [vR 39] h (fun v h1 => v = none ∧ MRem h h1) := by
  refine zC.ofN 2 (by decide) (Nat.le_of_ble_eq_true rfl) ?_
  show Z M_m_remembers _ 0 [vR 39, vU, vU] [] h
  unfold nm at hu
  refine z_aload_n D_m_remembers_0 rfl ?_
  refine z_getR (q := 42) fl_m_23 (rfl) rfl (rfl) D_m_remembers_1 ?_
  refine z_bipush (by decide) D_m_remembers_4 ?_
  refine z_iald (n := 573) (rfl) (by omega) D_m_remembers_6 ?_
  refine z_bipush (by decide) D_m_remembers_7 ?_
  refine z_icmp_ne (tgt := 54) D_m_remembers_9 (by decide) (by omega) (by omega) (fun q9 => ?_) (fun q9 => ?_)
  · refine z_bipush (by decide) D_m_remembers_54 ?_
    refine z_bipush (by decide) D_m_remembers_56 ?_
    refine z_aload_n D_m_remembers_58 rfl ?_
    refine z_getR (q := 42) fl_m_23 (rfl) rfl (rfl) D_m_remembers_59 ?_
    refine z_bipush (by decide) D_m_remembers_62 ?_
    refine z_iald (n := 573) (rfl) (by omega) D_m_remembers_64 ?_
    refine z_imul D_m_remembers_65 ?_
    refine z_iadd D_m_remembers_66 ?_
    refine z_istore_1 D_m_remembers_67 (Nat.le_of_ble_eq_true rfl) rfl ?_
    refine z_iconst D_m_remembers_68 ?_
    refine z_istore_2 D_m_remembers_69 (Nat.le_of_ble_eq_true rfl) rfl ?_
    refine l_m_remembers2 (u := h 42 (Int.toNat 52)) (by omega) (fun h3 hE3 hA3 => ?_) (53 : Nat) 0 _ (by omega) (by omega) (by omega) (fun a ha => rfl) (fun k => by rw [if_neg (by omega)])
    refine z_aload_n D_m_remembers_96 rfl ?_
    refine z_getR (q := 42) fl_m_23 (rfl) rfl (rfl) D_m_remembers_97 ?_
    refine z_bipush (by decide) D_m_remembers_100 ?_
    refine z_dup2 rfl rfl D_m_remembers_102 ?_
    refine z_iald (n := 573) (rfl) (by omega) D_m_remembers_103 ?_
    refine z_iconst D_m_remembers_104 ?_
    refine z_iadd D_m_remembers_105 ?_
    refine z_iast (n := 573) (rfl) (by omega) D_m_remembers_106 ?_
    refine z_return rfl D_m_remembers_107 ⟨rfl, ?_⟩
    have e52 : h3 42 (Int.toNat 52) = h 42 (Int.toNat 52) := by rw [hA3, if_neg (by omega)]
    rw [e52]
    refine ⟨fun a ha => by funext j; rw [zup_ne ha, hE3 a ha], ?_, fun c c0 c1 => ?_, fun i c i0 i1 c0 c1 => ?_⟩
    · unfold nm
      rw [zup_same, if_pos (by omega)]
    · unfold nm
      rw [zup_nk (by omega), hA3, if_neg (by omega)]
    · unfold nm at i1
      rw [zup_same] at i1
      unfold rm rmN nm rm
      rw [zup_nk (by omega), hA3, if_pos (by omega : h 42 (Int.toNat 52) < 10)]
      by_cases hi : i = h 42 (Int.toNat 52)
      · rw [if_pos (by omega), if_pos hi]
        congr 1
        omega
      · rw [if_neg (by omega), if_neg hi]
  · refine z_bipush (by decide) D_m_remembers_12 ?_
    refine z_istore_1 D_m_remembers_14 (Nat.le_of_ble_eq_true rfl) rfl ?_
    refine l_m_remembers1 (fun h2 hE2 hA2 => ?_) (469 : Nat) 53 h (by omega) (by omega) (by omega) (fun a ha => rfl) (fun k => by rw [if_neg (by omega)])
    refine z_aload_n D_m_remembers_43 rfl ?_
    refine z_getR (q := 42) fl_m_23 (rfl) rfl (rfl) D_m_remembers_44 ?_
    refine z_bipush (by decide) D_m_remembers_47 ?_
    refine z_dup2 rfl rfl D_m_remembers_49 ?_
    refine z_iald (n := 573) (rfl) (by omega) D_m_remembers_50 ?_
    refine z_iconst D_m_remembers_51 ?_
    refine z_isub D_m_remembers_52 ?_
    refine z_iast (n := 573) (rfl) (by omega) D_m_remembers_53 ?_
    refine z_bipush (by decide) D_m_remembers_54 ?_
    refine z_bipush (by decide) D_m_remembers_56 ?_
    refine z_aload_n D_m_remembers_58 rfl ?_
    refine z_getR (q := 42) fl_m_23 (rfl) rfl (rfl) D_m_remembers_59 ?_
    refine z_bipush (by decide) D_m_remembers_62 ?_
    refine z_iald (n := 573) (rfl) (by omega) D_m_remembers_64 ?_
    refine z_imul D_m_remembers_65 ?_
    refine z_iadd D_m_remembers_66 ?_
    refine z_istore_1 D_m_remembers_67 (Nat.le_of_ble_eq_true rfl) rfl ?_
    refine z_iconst D_m_remembers_68 ?_
    refine z_istore_2 D_m_remembers_69 (Nat.le_of_ble_eq_true rfl) rfl ?_
    have h52 : h2 42 (Int.toNat 52) = 10 := by rw [hA2, if_neg (by omega)]; omega
    have e9 : zup h2 42 (Int.toNat 52) (h2 42 (Int.toNat 52) - 1) 42 (Int.toNat 52) = 9 := by rw [zup_same, h52]; rfl
    rw [e9]
    refine l_m_remembers2 (u := 9) (by omega) (fun h3 hE3 hA3 => ?_) (53 : Nat) 0 _ (by omega) (by omega) (by omega) (fun a ha => rfl) (fun k => by rw [if_neg (by omega)])
    refine z_aload_n D_m_remembers_96 rfl ?_
    refine z_getR (q := 42) fl_m_23 (rfl) rfl (rfl) D_m_remembers_97 ?_
    refine z_bipush (by decide) D_m_remembers_100 ?_
    refine z_dup2 rfl rfl D_m_remembers_102 ?_
    refine z_iald (n := 573) (rfl) (by omega) D_m_remembers_103 ?_
    refine z_iconst D_m_remembers_104 ?_
    refine z_iadd D_m_remembers_105 ?_
    refine z_iast (n := 573) (rfl) (by omega) D_m_remembers_106 ?_
    refine z_return rfl D_m_remembers_107 ⟨rfl, ?_⟩
    have e52 : h3 42 (Int.toNat 52) = 9 := by rw [hA3, if_neg (by omega), zup_same, h52]; rfl
    rw [e52]
    have hB : ∀ k : Nat, k ≠ 52 → zup h2 42 (Int.toNat 52) (h2 42 (Int.toNat 52) - 1) 42 k = if 53 ≤ k ∧ k < 521 then h 42 (k + 52) else h 42 k := fun k hk => by rw [zup_nk (by omega), hA2]
    refine ⟨fun a ha => by funext j; rw [zup_ne ha, hE3 a ha, zup_ne ha, hE2 a ha], ?_, fun c c0 c1 => ?_, fun i c i0 i1 c0 c1 => ?_⟩
    · unfold nm
      rw [zup_same, if_neg (by omega)]
      rfl
    · unfold nm
      rw [zup_nk (by omega), hA3, if_neg (by omega), hB _ (by omega), if_neg (by omega)]
    · unfold nm at i1
      rw [zup_same] at i1
      unfold rm rmN nm rm
      rw [zup_nk (by omega), hA3, if_neg (by omega : ¬ h 42 (Int.toNat 52) < 10)]
      by_cases hi : i = 9
      · rw [if_pos (by omega), if_pos (by omega), hB _ (by omega), if_neg (by omega)]
        exact congrArg (h 42) (by omega)
      · rw [if_neg (by omega), if_neg (by omega), hB _ (by omega), if_pos (by omega)]
        exact congrArg (h 42) (by omega)
