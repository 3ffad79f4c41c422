/-! the other side reads items (2) -/
theorem l_m_readOne2 {h g : zH} {z : Pst} {c1 V y : Int} {post : Option zV → zH → Prop} (hT : TM h) (hF : FM h g) (hc : 0 ≤ c1 ∧ c1 ≤ h 39 15) (hW : g 39 20 = 0 ∨ g 39 20 = 1) (hM : MTok g (tm h) (h 39 15) c1) (hS : SM g z) (hz : OKs z) (hn6 : z.2.2.2.2.1 < 6) (hV : g 49 z.2.2.2.2.1.toNat = V)
    (Ky : g 39 20 = 0 ∧ numOk (tm h) (h 39 15) c1 1 5 → ∀ h2, FM h h2 → h2 39 20 = 0 → MTok h2 (tm h) (h 39 15) (tkN (tm h) (h 39 15) c1) → SM h2 (z.1, z.2.1, z.2.2.1, z.2.2.2.1, z.2.2.2.2.1 + 1, upI z.2.2.2.2.2.1 z.2.2.2.2.1 V, upI z.2.2.2.2.2.2 z.2.2.2.2.1 (tkV (tm h) (h 39 15) c1)) → post none h2)
    (Kn : ¬ (g 39 20 = 0 ∧ numOk (tm h) (h 39 15) c1 1 5) → ∀ h2, FM h h2 → h2 39 20 = 1 → h2 39 17 = tkS (tm h) (h 39 15) c1 → h2 39 18 = tkT (tm h) (h 39 15) c1 → post none h2) : Z M_m_readOne post 73 [vR 39, vI y] [] g := by
  have s4 := hS.2.2.2.1
  have b2 := hz.2.1
  have eT := hF.eT
  have eL := hF.len
  have hMg : MTok g (tm g) (g 39 15) c1 := by rw [eT, eL]; exact hM
  refine z_aload_n D_m_readOne_73 rfl ?_
  refine z_getR (q := 50) fl_m_48 (rfl) rfl (rfl) D_m_readOne_74 ?_
  refine z_aload_n D_m_readOne_77 rfl ?_
  refine z_getI fl_m_109 (rfl) rfl D_m_readOne_78 ?_
  refine z_aload_n D_m_readOne_81 rfl ?_
  refine z_iconst D_m_readOne_82 ?_
  refine z_iconst D_m_readOne_83 ?_
  refine z_V2q (c0 := 12) (c_m_takesNumber (hF.ok hT) (by rw [eL]; exact hc) hW hMg (by omega) (by omega)) G_m_takesNumber I_m_takesNumber lk_m_115 (rfl) ⟨by decide, rfl⟩ ⟨Nat.le_of_ble_eq_true rfl, Nat.le_of_ble_eq_true rfl⟩ (Nat.le_of_ble_eq_true rfl) D_m_readOne_84 (fun v9 h9 hp9 => ?_)
  rw [eT, eL] at hp9
  by_cases hok : g 39 20 = 0 ∧ numOk (tm h) (h 39 15) c1 1 5
  · obtain ⟨rfl, k9, w9, m9⟩ := hp9.1 hok
    show Z _ _ _ _ [vI _, vI _, vR 50] _
    have hF9 := hF.trans k9.fm
    have e26 : h9 39 26 = z.2.2.2.2.1 := by rw [k9.2 26 (by omega)]; exact s4
    rw [s4]
    refine z_iast (n := 6) (rfl) (by omega) D_m_readOne_87 ?_
    refine z_aload_n D_m_readOne_88 rfl ?_
    refine z_dup rfl D_m_readOne_89 ?_
    refine z_getI fl_m_109 (rfl) rfl D_m_readOne_90 ?_
    rw [show zup h9 50 z.2.2.2.2.1.toNat (tkV (tm h) (h 39 15) c1) 39 26 = z.2.2.2.2.1 by rw [zup_ne (by decide), e26]]
    refine z_iconst D_m_readOne_93 ?_
    refine z_iadd D_m_readOne_94 ?_
    refine z_putI fl_m_109 (rfl) rfl rfl D_m_readOne_95 ?_
    refine z_return rfl D_m_readOne_98 (Ky hok _ ((hF9.put (by omega)).put (by omega)) ?_ ((m9.put (by omega)).put (by omega)) ?_)
    · rw [zup_nk (by decide), zup_ne (by decide), w9]
    · obtain ⟨x1, x2, x3, x4, x5, x6, x7⟩ := hS.tk k9
      refine ⟨?_, ?_, ?_, zup_same, fun j j0 j1 => ?_, fun j j0 j1 => ?_, fun j j0 j1 => ?_⟩
      · rw [zup_nk (by decide), zup_ne (by decide)]; exact x1
      · rw [zup_nk (by decide), zup_ne (by decide)]; exact x2
      · rw [zup_nk (by decide), zup_ne (by decide)]; exact x3
      · rw [zup_ne (by decide), zup_ne (by decide)]; exact x5 j j0 j1
      · dsimp only at j1 ⊢
        rw [zup_ne (by decide), zup_ne (by decide)]
        by_cases e : j = z.2.2.2.2.1
        · rw [e, upI_eq, k9.1 49 (by decide)]; exact hV
        · rw [upI_ne e]; exact x6 j j0 (by omega)
      · dsimp only at j1 ⊢
        rw [zup_ne (by decide)]
        by_cases e : j = z.2.2.2.2.1
        · rw [e, upI_eq, zup_same]
        · rw [upI_ne e, zup_nk (by omega)]; exact x7 j j0 (by omega)
  · obtain ⟨rfl, h9e⟩ := hp9.2 hok
    show Z _ _ _ _ [vI _, vI _, vR 50] _
    have k9 : TKW g h9 := by rw [h9e]; exact TKW.rfl'.put (by omega)
    have hF9 := hF.trans k9.fm
    have e26 : h9 39 26 = z.2.2.2.2.1 := by rw [k9.2 26 (by omega)]; exact s4
    rw [s4]
    refine z_iast (n := 6) (rfl) (by omega) D_m_readOne_87 ?_
    refine z_aload_n D_m_readOne_88 rfl ?_
    refine z_dup rfl D_m_readOne_89 ?_
    refine z_getI fl_m_109 (rfl) rfl D_m_readOne_90 ?_
    rw [show zup h9 50 z.2.2.2.2.1.toNat (0) 39 26 = z.2.2.2.2.1 by rw [zup_ne (by decide), e26]]
    refine z_iconst D_m_readOne_93 ?_
    refine z_iadd D_m_readOne_94 ?_
    refine z_putI fl_m_109 (rfl) rfl rfl D_m_readOne_95 ?_
    refine z_return rfl D_m_readOne_98 (Kn hok _ ((hF9.put (by omega)).put (by omega)) ?_ ?_ ?_)
    · rw [zup_nk (by decide), zup_ne (by decide), h9e, zup_same]
    · rw [zup_nk (by decide), zup_ne (by decide), h9e, zup_nk (by decide)]; exact hM.2.1
    · rw [zup_nk (by decide), zup_ne (by decide), h9e, zup_nk (by decide)]; exact hM.2.2.1
def PO (h : zH) (c : Int) (z : Pst) : Option zV → zH → Prop := fun v h2 => v = none ∧ FM h h2 ∧ ((numOk (tm h) (h 39 15) c 0 (z.1 - 1) ∧ ¬ told z.2.2.2.2.2.1 (tkV (tm h) (h 39 15) c) z.2.2.2.2.1.toNat = true) ∧ numOk (tm h) (h 39 15) (tkN (tm h) (h 39 15) c) 1 5 → h2 39 20 = 0 ∧ MTok h2 (tm h) (h 39 15) (tkN (tm h) (h 39 15) (tkN (tm h) (h 39 15) c)) ∧ SM h2 (z.1, z.2.1, z.2.2.1, z.2.2.2.1, z.2.2.2.2.1 + 1, upI z.2.2.2.2.2.1 z.2.2.2.2.1 (tkV (tm h) (h 39 15) c), upI z.2.2.2.2.2.2 z.2.2.2.2.1 (tkV (tm h) (h 39 15) (tkN (tm h) (h 39 15) c)))) ∧ (¬ ((numOk (tm h) (h 39 15) c 0 (z.1 - 1) ∧ ¬ told z.2.2.2.2.2.1 (tkV (tm h) (h 39 15) c) z.2.2.2.2.1.toNat = true) ∧ numOk (tm h) (h 39 15) (tkN (tm h) (h 39 15) c) 1 5) → h2 39 20 = 1 ∧ h2 39 17 = (if (numOk (tm h) (h 39 15) c 0 (z.1 - 1) ∧ ¬ told z.2.2.2.2.2.1 (tkV (tm h) (h 39 15) c) z.2.2.2.2.1.toNat = true) then tkS (tm h) (h 39 15) (tkN (tm h) (h 39 15) c) else tkS (tm h) (h 39 15) c) ∧ 0 ≤ h2 39 18 ∧ h2 39 18 ≤ 4)
theorem c_m_readOne {h : zH} {c : Int} {z : Pst} (hT : TM h) (hc : 0 ≤ c ∧ c ≤ h 39 15) (hW : h 39 20 = 0) (hM : MTok h (tm h) (h 39 15) c) (hS : SM h z) (hz : OKs z) (hn6 : z.2.2.2.2.1 < 6) : zC M_m_readOne [vR 39] h (PO h c z) := by
  refine zC.ofN 1 (by decide) (by first | decide | exact Nat.le_of_ble_eq_true rfl) ?_
  show Z M_m_readOne _ 0 [vR 39, vU] [] h
  have ht := tk_in (T := tm h) hc.2
  have ht1 := tk_in (T := tm h) (L := h 39 15) (c := tkN (tm h) (h 39 15) c) (by omega)
  have b1 := hz.1
  have b2 := hz.2.1
  refine z_iconst D_m_readOne_0 ?_
  refine z_istore_1 D_m_readOne_1 (Nat.le_of_ble_eq_true rfl) rfl ?_
  refine l_m_readOne hM hS hz (by omega) (fun g hE hJ hWg => ?_) (7 : Nat) 0 h (by omega) (by omega) (by omega) (fun a ha => rfl) (fun j hj => rfl) (by rw [hW]; exact (zb_f (fun q => absurd (show false = true from q.2) (by decide))).symm)
  have kg : TKW h g := ⟨hE, fun j hj => hJ j (by omega)⟩
  have hFg := kg.fm
  have eT := hFg.eT
  have eL := hFg.len
  have hSg := hS.tk kg
  have s4g := hSg.2.2.2.1
  have sg1 := hSg.1
  have hMg : MTok g (tm h) (h 39 15) c := by unfold MTok; rw [hJ 16 (by decide), hJ 17 (by decide), hJ 18 (by decide), hJ 19 (by decide)]; exact hM
  have hMg2 : MTok g (tm g) (g 39 15) c := by rw [eT, eL]; exact hMg
  refine z_aload_n D_m_readOne_53 rfl ?_
  refine z_getR (q := 49) fl_m_45 (rfl) rfl (rfl) D_m_readOne_54 ?_
  refine z_aload_n D_m_readOne_57 rfl ?_
  refine z_getI fl_m_109 (rfl) rfl D_m_readOne_58 ?_
  refine z_aload_n D_m_readOne_61 rfl ?_
  refine z_iconst D_m_readOne_62 ?_
  refine z_aload_n D_m_readOne_63 rfl ?_
  refine z_getI fl_m_112 (rfl) rfl D_m_readOne_64 ?_
  refine z_iconst D_m_readOne_67 ?_
  refine z_isub D_m_readOne_68 ?_
  refine z_V2q (c0 := 12) (c_m_takesNumber (hFg.ok hT) (by rw [eL]; exact hc) (by rw [hWg]; exact zb_01 _) hMg2 (by omega) (by omega)) G_m_takesNumber I_m_takesNumber lk_m_115 (rfl) ⟨by decide, rfl⟩ ⟨Nat.le_of_ble_eq_true rfl, Nat.le_of_ble_eq_true rfl⟩ (Nat.le_of_ble_eq_true rfl) D_m_readOne_69 (fun v9 h9 hp9 => ?_)
  rw [eT, eL, sg1] at hp9
  by_cases hok : g 39 20 = 0 ∧ numOk (tm h) (h 39 15) c 0 (z.1 - 1)
  · obtain ⟨rfl, k9, w9, m9⟩ := hp9.1 hok
    show Z _ _ _ _ [vI _, vI _, vR 49] _
    have hok1 : (numOk (tm h) (h 39 15) c 0 (z.1 - 1) ∧ ¬ told z.2.2.2.2.2.1 (tkV (tm h) (h 39 15) c) z.2.2.2.2.1.toNat = true) := ⟨hok.2, fun q => zb_fn (hWg.symm.trans hok.1) ⟨hok.2.1, q⟩⟩
    have hF9 := hFg.trans k9.fm
    rw [s4g]
    refine z_iast (n := 6) (rfl) (by omega) D_m_readOne_72 ?_
    refine l_m_readOne2 (V := tkV (tm h) (h 39 15) c) (c1 := (tkN (tm h) (h 39 15) c)) (z := z) hT (hF9.put (by omega)) ⟨by omega, by omega⟩ (Or.inl (by rw [zup_ne (by decide), w9])) (m9.put (by omega)) ?_ hz hn6 zup_same (fun q h2 f2 w2 m2 s2 => ⟨rfl, f2, fun _ => ⟨w2, m2, s2⟩, fun q2 => absurd ⟨hok1, q.2⟩ q2⟩) (fun q h2 f2 w2 t2 u2 => ⟨rfl, f2, fun q2 => absurd ⟨by rw [zup_ne (by decide), w9], q2.2⟩ q, fun _ => ⟨w2, by rw [if_pos hok1]; exact t2, by omega, by omega⟩⟩)
    obtain ⟨x1, x2, x3, x4, x5, x6, x7⟩ := hSg.tk k9
    refine ⟨?_, ?_, ?_, ?_, fun j j0 j1 => ?_, fun j j0 j1 => ?_, fun j j0 j1 => ?_⟩
    · rw [zup_ne (by decide)]; exact x1
    · rw [zup_ne (by decide)]; exact x2
    · rw [zup_ne (by decide)]; exact x3
    · rw [zup_ne (by decide)]; exact x4
    · rw [zup_ne (by decide)]; exact x5 j j0 j1
    · rw [zup_nk (by omega)]; exact x6 j j0 j1
    · rw [zup_ne (by decide)]; exact x7 j j0 j1
  · obtain ⟨rfl, h9e⟩ := hp9.2 hok
    show Z _ _ _ _ [vI _, vI _, vR 49] _
    have hno : ¬ (numOk (tm h) (h 39 15) c 0 (z.1 - 1) ∧ ¬ told z.2.2.2.2.2.1 (tkV (tm h) (h 39 15) c) z.2.2.2.2.1.toNat = true) := fun q => hok ⟨by rw [hWg]; exact zb_f (fun y => q.2 y.2), q.1⟩
    have k9 : TKW g h9 := by rw [h9e]; exact TKW.rfl'.put (by omega)
    have hF9 := hFg.trans k9.fm
    have m9 : MTok h9 (tm h) (h 39 15) c := by rw [h9e]; exact hMg.put (by omega)
    rw [s4g]
    refine z_iast (n := 6) (rfl) (by omega) D_m_readOne_72 ?_
    refine l_m_readOne2 (V := 0) (c1 := c) (z := z) hT (hF9.put (by omega)) hc (Or.inr (by rw [zup_ne (by decide), h9e, zup_same])) ((m9).put (by omega)) ?_ hz hn6 zup_same (fun q h2 f2 w2 m2 s2 => absurd q.1 (by rw [zup_ne (by decide), h9e, zup_same]; decide)) (fun q h2 f2 w2 t2 u2 => ⟨rfl, f2, fun q2 => absurd q2.1 hno, fun _ => ⟨w2, by rw [if_neg hno]; exact t2, by omega, by omega⟩⟩)
    obtain ⟨x1, x2, x3, x4, x5, x6, x7⟩ := hSg.tk k9
    refine ⟨?_, ?_, ?_, ?_, fun j j0 j1 => ?_, fun j j0 j1 => ?_, fun j j0 j1 => ?_⟩
    · rw [zup_ne (by decide)]; exact x1
    · rw [zup_ne (by decide)]; exact x2
    · rw [zup_ne (by decide)]; exact x3
    · rw [zup_ne (by decide)]; exact x4
    · rw [zup_ne (by decide)]; exact x5 j j0 j1
    · rw [zup_nk (by omega)]; exact x6 j j0 j1
    · rw [zup_ne (by decide)]; exact x7 j j0 j1

