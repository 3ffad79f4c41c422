/-! the other side reads items -/
def MTok (h : zH) (T : Int → Int) (L c : Int) : Prop := h 39 16 = tkN T L c ∧ h 39 17 = tkS T L c ∧ h 39 18 = tkT T L c ∧ (tkT T L c = 1 ∨ tkT T L c = 2 → h 39 19 = tkV T L c) ∧ 0 ≤ h 39 19 ∧ h 39 19 ≤ 999
def TKW (h h1 : zH) : Prop := (∀ a, a ≠ 39 → h1 a = h a) ∧ ∀ j, (j < 16 ∨ 20 < j) → h1 39 j = h 39 j
theorem TKM.w {h h1 : zH} (a : TKM h h1) : TKW h h1 := ⟨a.1, fun j hj => a.2 j (by omega)⟩
theorem TKW.put {h h1 : zH} {k : Nat} {x : Int} (a : TKW h h1) (hk : 16 ≤ k ∧ k ≤ 20) : TKW h (zup h1 39 k x) := ⟨fun b hb => by funext j; rw [zup_ne hb, a.1 b hb], fun j hj => by rw [zup_nk (by omega), a.2 j hj]⟩
theorem TKW.trans {h h1 h2 : zH} (a : TKW h h1) (b : TKW h1 h2) : TKW h h2 := ⟨fun q hq => (b.1 q hq).trans (a.1 q hq), fun j hj => (b.2 j hj).trans (a.2 j hj)⟩
theorem TKW.rfl' {h : zH} : TKW h h := ⟨fun _ _ => rfl, fun _ _ => rfl⟩
def FM (h h1 : zH) : Prop := (∀ a, a ≠ 39 → a ≠ 48 → a ≠ 49 → a ≠ 50 → h1 a = h a) ∧ ∀ j, (j < 16 ∨ j = 21) → h1 39 j = h 39 j
theorem TKW.fm {h h1 : zH} (a : TKW h h1) : FM h h1 := ⟨fun q q1 _ _ _ => a.1 q q1, fun j hj => a.2 j (by omega)⟩
theorem FM.trans {h h1 h2 : zH} (a : FM h h1) (b : FM h1 h2) : FM h h2 := ⟨fun q q1 q2 q3 q4 => (b.1 q q1 q2 q3 q4).trans (a.1 q q1 q2 q3 q4), fun j hj => (b.2 j hj).trans (a.2 j hj)⟩
theorem FM.rfl' {h : zH} : FM h h := ⟨fun _ _ _ _ _ => rfl, fun _ _ => rfl⟩
theorem FM.put {h h1 : zH} {b k : Nat} {x : Int} (a : FM h h1) (hb : (b = 39 ∧ 16 ≤ k ∧ k ≠ 21) ∨ b = 48 ∨ b = 49 ∨ b = 50) : FM h (zup h1 b k x) := ⟨fun q q1 q2 q3 q4 => by funext j; rw [zup_ne (by omega), a.1 q q1 q2 q3 q4], fun j hj => by rw [zup_other (by omega), a.2 j hj]⟩
theorem FM.eT {h h1 : zH} (a : FM h h1) : tm h1 = tm h := by funext j; unfold tm; rw [a.1 47 (by decide) (by decide) (by decide) (by decide)]
theorem FM.len {h h1 : zH} (a : FM h h1) : h1 39 15 = h 39 15 := a.2 15 (by omega)
theorem FM.ok {h h1 : zH} (a : FM h h1) (q : TM h) : TM h1 := by
  unfold TM
  rw [a.eT, a.len]
  exact q
def SM (h : zH) (z : Pst) : Prop := h 39 22 = z.1 ∧ h 39 24 = z.2.2.1 ∧ h 39 25 = z.2.2.2.1 ∧ h 39 26 = z.2.2.2.2.1 ∧ (∀ j, 0 ≤ j → j < z.1 → h 48 j.toNat = z.2.1 j) ∧ (∀ j, 0 ≤ j → j < z.2.2.2.2.1 → h 49 j.toNat = z.2.2.2.2.2.1 j) ∧ ∀ j, 0 ≤ j → j < z.2.2.2.2.1 → h 50 j.toNat = z.2.2.2.2.2.2 j
theorem SM.tk {h h1 : zH} {z : Pst} (a : SM h z) (k : TKW h h1) : SM h1 z := by
  unfold SM
  rw [k.1 48 (by decide), k.1 49 (by decide), k.1 50 (by decide), k.2 22 (by omega), k.2 24 (by omega), k.2 25 (by omega), k.2 26 (by omega)]
  exact a
theorem MTok.put {h : zH} {T : Int → Int} {L c x : Int} {b k : Nat} (a : MTok h T L c) (hk : ¬ (b = 39 ∧ 16 ≤ k ∧ k ≤ 19)) : MTok (zup h b k x) T L c := by
  unfold MTok
  rw [zup_other (by omega), zup_other (by omega), zup_other (by omega), zup_other (by omega)]
  exact a
def PN (h : zH) (T : Int → Int) (L c : Int) (ok : Prop) : Option zV → zH → Prop := fun v h2 => (ok → v = some (vI (tkV T L c)) ∧ TKW h h2 ∧ h2 39 20 = 0 ∧ MTok h2 T L (tkN T L c)) ∧ (¬ ok → v = some (vI 0) ∧ h2 = zup h 39 20 1)
theorem c_m_takesNumber {h : zH} {c lo hi : Int} (hT : TM h) (hc : 0 ≤ c ∧ c ≤ h 39 15) (hW : h 39 20 = 0 ∨ h 39 20 = 1) (hM : MTok h (tm h) (h 39 15) c) (r_lo : -2147483648 ≤ lo ∧ lo ≤ 2147483647) (r_hi : -2147483648 ≤ hi ∧ hi ≤ 2147483647) : zC M_m_takesNumber [vR 39, vI lo, vI hi] h (PN h (tm h) (h 39 15) c (h 39 20 = 0 ∧ numOk (tm h) (h 39 15) c lo hi)) := by
  refine zC.ofN 2 (by decide) (by first | decide | exact Nat.le_of_ble_eq_true rfl) ?_
  show Z M_m_takesNumber _ 0 [vR 39, vI lo, vI hi, vU, vU] [] h
  have ht := tk_in (T := tm h) hc.2
  obtain ⟨t1, t2, t3, t4, t5⟩ := hM
  refine z_aload_n D_m_takesNumber_0 rfl ?_
  refine z_getI fl_m_102 (rfl) rfl D_m_takesNumber_1 ?_
  refine z_if_ne (tgt := 31) D_m_takesNumber_4 (by decide) (by omega) (fun q4 => ?_) (fun q4 => ?_)
  · refine z_iconst D_m_takesNumber_31 ?_
    refine z_istore_3 D_m_takesNumber_32 (Nat.le_of_ble_eq_true rfl) rfl ?_
    refine z_aload_n D_m_takesNumber_33 rfl ?_
    refine z_iload_n D_m_takesNumber_34 rfl ?_
    refine z_if_ne (tgt := 42) D_m_takesNumber_35 (by decide) (by decide) (fun q => absurd q (by decide)) (fun _ => ?_)
    refine z_iconst D_m_takesNumber_38 ?_
    refine z_goto (tgt := 43) D_m_takesNumber_39 (by decide) ?_
    refine z_putB fl_m_102 (rfl) rfl rfl (by first | exact Or.inl rfl | exact Or.inr rfl | exact zb_01 _) D_m_takesNumber_43 ?_
    refine z_aload_n D_m_takesNumber_46 rfl ?_
    refine z_getI fl_m_89 (rfl) rfl D_m_takesNumber_47 ?_
    refine z_istore_4 D_m_takesNumber_50 (Nat.le_of_ble_eq_true rfl) rfl ?_
    refine z_iload_n D_m_takesNumber_52 rfl ?_
    refine z_if_eq (tgt := 60) D_m_takesNumber_53 (by decide) (by decide) (fun _ => ?_) (fun q => absurd q (by decide))
    refine z_iload_n D_m_takesNumber_60 rfl ?_
    refine z_if_eq (tgt := 69) D_m_takesNumber_61 (by decide) (by decide) (fun _ => ?_) (fun q => absurd q (by decide))
    refine z_iconst D_m_takesNumber_69 ?_
    refine z_ireturn rfl D_m_takesNumber_70 ⟨fun q => absurd q (fun q => q4 q.1), fun _ => ⟨rfl, rfl⟩⟩
  · refine z_aload_n D_m_takesNumber_7 rfl ?_
    refine z_getI fl_m_92 (rfl) rfl D_m_takesNumber_8 ?_
    refine z_iconst D_m_takesNumber_11 ?_
    refine z_icmp_ne (tgt := 31) D_m_takesNumber_12 (by decide) (by omega) (by omega) (fun q12 => ?_) (fun q12 => ?_)
    · refine z_iconst D_m_takesNumber_31 ?_
      refine z_istore_3 D_m_takesNumber_32 (Nat.le_of_ble_eq_true rfl) rfl ?_
      refine z_aload_n D_m_takesNumber_33 rfl ?_
      refine z_iload_n D_m_takesNumber_34 rfl ?_
      refine z_if_ne (tgt := 42) D_m_takesNumber_35 (by decide) (by decide) (fun q => absurd q (by decide)) (fun _ => ?_)
      refine z_iconst D_m_takesNumber_38 ?_
      refine z_goto (tgt := 43) D_m_takesNumber_39 (by decide) ?_
      refine z_putB fl_m_102 (rfl) rfl rfl (by first | exact Or.inl rfl | exact Or.inr rfl | exact zb_01 _) D_m_takesNumber_43 ?_
      refine z_aload_n D_m_takesNumber_46 rfl ?_
      refine z_getI fl_m_89 (rfl) rfl D_m_takesNumber_47 ?_
      refine z_istore_4 D_m_takesNumber_50 (Nat.le_of_ble_eq_true rfl) rfl ?_
      refine z_iload_n D_m_takesNumber_52 rfl ?_
      refine z_if_eq (tgt := 60) D_m_takesNumber_53 (by decide) (by decide) (fun _ => ?_) (fun q => absurd q (by decide))
      refine z_iload_n D_m_takesNumber_60 rfl ?_
      refine z_if_eq (tgt := 69) D_m_takesNumber_61 (by decide) (by decide) (fun _ => ?_) (fun q => absurd q (by decide))
      refine z_iconst D_m_takesNumber_69 ?_
      refine z_ireturn rfl D_m_takesNumber_70 ⟨fun q => absurd q (fun q => q12 (t3.trans q.2.1)), fun _ => ⟨rfl, rfl⟩⟩
    · refine z_aload_n D_m_takesNumber_15 rfl ?_
      refine z_getI fl_m_89 (rfl) rfl D_m_takesNumber_16 ?_
      refine z_iload_n D_m_takesNumber_19 rfl ?_
      refine z_iload_n D_m_takesNumber_20 rfl ?_
      refine z_S3 (c_m_in (by omega) r_lo r_hi) G_m_in S_m_in lk_m_69 ⟨Nat.le_of_ble_eq_true rfl, Nat.le_of_ble_eq_true rfl⟩ (Nat.le_of_ble_eq_true rfl) D_m_takesNumber_21 ?_
      refine z_ifeqB (tgt := 31) D_m_takesNumber_24 (by decide) (fun q24 => ?_) (fun q24 => ?_)
      · refine z_iconst D_m_takesNumber_31 ?_
        refine z_istore_3 D_m_takesNumber_32 (Nat.le_of_ble_eq_true rfl) rfl ?_
        refine z_aload_n D_m_takesNumber_33 rfl ?_
        refine z_iload_n D_m_takesNumber_34 rfl ?_
        refine z_if_ne (tgt := 42) D_m_takesNumber_35 (by decide) (by decide) (fun q => absurd q (by decide)) (fun _ => ?_)
        refine z_iconst D_m_takesNumber_38 ?_
        refine z_goto (tgt := 43) D_m_takesNumber_39 (by decide) ?_
        refine z_putB fl_m_102 (rfl) rfl rfl (by first | exact Or.inl rfl | exact Or.inr rfl | exact zb_01 _) D_m_takesNumber_43 ?_
        refine z_aload_n D_m_takesNumber_46 rfl ?_
        refine z_getI fl_m_89 (rfl) rfl D_m_takesNumber_47 ?_
        refine z_istore_4 D_m_takesNumber_50 (Nat.le_of_ble_eq_true rfl) rfl ?_
        refine z_iload_n D_m_takesNumber_52 rfl ?_
        refine z_if_eq (tgt := 60) D_m_takesNumber_53 (by decide) (by decide) (fun _ => ?_) (fun q => absurd q (by decide))
        refine z_iload_n D_m_takesNumber_60 rfl ?_
        refine z_if_eq (tgt := 69) D_m_takesNumber_61 (by decide) (by decide) (fun _ => ?_) (fun q => absurd q (by decide))
        refine z_iconst D_m_takesNumber_69 ?_
        refine z_ireturn rfl D_m_takesNumber_70 ⟨fun q => absurd q (fun q => q24 (by rw [t4 (Or.inr q.2.1)]; exact q.2.2)), fun _ => ⟨rfl, rfl⟩⟩
      · refine z_iconst D_m_takesNumber_27 ?_
        refine z_goto (tgt := 32) D_m_takesNumber_28 (by decide) ?_
        refine z_istore_3 D_m_takesNumber_32 (Nat.le_of_ble_eq_true rfl) rfl ?_
        refine z_aload_n D_m_takesNumber_33 rfl ?_
        refine z_iload_n D_m_takesNumber_34 rfl ?_
        refine z_if_ne (tgt := 42) D_m_takesNumber_35 (by decide) (by decide) (fun _ => ?_) (fun q => absurd q (by decide))
        refine z_iconst D_m_takesNumber_42 ?_
        refine z_putB fl_m_102 (rfl) rfl rfl (by first | exact Or.inl rfl | exact Or.inr rfl | exact zb_01 _) D_m_takesNumber_43 ?_
        refine z_aload_n D_m_takesNumber_46 rfl ?_
        refine z_getI fl_m_89 (rfl) rfl D_m_takesNumber_47 ?_
        refine z_istore_4 D_m_takesNumber_50 (Nat.le_of_ble_eq_true rfl) rfl ?_
        refine z_iload_n D_m_takesNumber_52 rfl ?_
        refine z_if_eq (tgt := 60) D_m_takesNumber_53 (by decide) (by decide) (fun q => absurd q (by decide)) (fun _ => ?_)
        have e0T : tm (zup h 39 20 0) = tm h := by funext j; unfold tm; rw [zup_ne (by decide)]
        have hT0 : TM (zup h 39 20 0) := by unfold TM; rw [e0T, zup_nk (by decide)]; exact hT
        refine z_aload_n D_m_takesNumber_56 rfl ?_
        refine z_V0q (c0 := 12) (c_m_next hT0 (by rw [zup_nk (by decide), zup_nk (by decide)]; omega)) G_m_next I_m_next lk_m_106 (rfl) ⟨by decide, rfl⟩ ⟨Nat.le_of_ble_eq_true rfl, Nat.le_of_ble_eq_true rfl⟩ (Nat.le_of_ble_eq_true rfl) D_m_takesNumber_57 (fun v9 h9 hp9 => ?_)
        obtain ⟨rfl, hR⟩ := hp9
        show Z _ _ _ _ [] _
        rw [e0T, zup_nk (by decide), zup_nk (by decide), t1] at hR
        refine z_iload_n D_m_takesNumber_60 rfl ?_
        refine z_if_eq (tgt := 69) D_m_takesNumber_61 (by decide) (by decide) (fun q => absurd q (by decide)) (fun _ => ?_)
        refine z_iload D_m_takesNumber_64 rfl ?_
        refine z_goto (tgt := 70) D_m_takesNumber_66 (by decide) ?_
        refine z_ireturn rfl D_m_takesNumber_70 ⟨fun _ => ⟨by rw [zup_nk (by decide), t4 (by omega)], ((TKW.rfl'.put (by omega)).trans hR.1.w), ?_, hR.2⟩, fun q => absurd ⟨q4, by omega, by rw [← t4 (by omega)]; exact q24.1, by rw [← t4 (by omega)]; exact q24.2⟩ q⟩
        rw [hR.1.2 20 (by omega), zup_same]

theorem c_m_mayBegin {h : zH} {l : Int} {z : Pst} (hS : SM h z) (hz : OKs z) (r_l : -2147483648 ≤ l ∧ l ≤ 2147483647) : zC M_m_mayBegin [vR 39, vI l] h (pV (vI (if l = 99 then zb (h 39 22 < 12) else if l = 107 then zb (h 39 24 < 0) else if l = 100 then zb (h 39 25 < 0) else if l = 112 then zb (h 39 26 < 6) else 0)) h) := by
  refine zC.ofN 0 (by decide) (by first | decide | exact Nat.le_of_ble_eq_true rfl) ?_
  show Z M_m_mayBegin _ 0 [vR 39, vI l] [] h
  have s1 := hS.1
  have s2 := hS.2.1
  have s3 := hS.2.2.1
  have s4 := hS.2.2.2.1
  have b1 := hz.1
  have b2 := hz.2.1
  have b3 := hz.2.2.1
  have b4 := hz.2.2.2.1
  refine z_iload_n D_m_mayBegin_0 rfl ?_
  by_cases s1_99 : l = 99
  · refine z_look (tgt := 44) (off := 43) D_m_mayBegin_1 (by decide) (by omega) (by rw [s1_99]; rfl) (by decide) ?_
    refine z_aload_n D_m_mayBegin_44 rfl ?_
    refine z_getI fl_m_112 (rfl) rfl D_m_mayBegin_45 ?_
    refine z_bipush (by decide) D_m_mayBegin_48 ?_
    refine z_icmp_ge (tgt := 57) D_m_mayBegin_50 (by decide) (by omega) (by omega) (fun q50 => ?_) (fun q50 => ?_)
    · refine z_iconst D_m_mayBegin_57 ?_
      exact z_zreturn rfl (by first | exact Or.inl rfl | exact Or.inr rfl | exact zb_01 _) D_m_mayBegin_58 ((pvI (by rw [if_pos (by omega)]; first | rw [zb_t (by omega)] | rw [zb_f (by omega)]) rfl))
    · refine z_iconst D_m_mayBegin_53 ?_
      refine z_goto (tgt := 58) D_m_mayBegin_54 (by decide) ?_
      exact z_zreturn rfl (by first | exact Or.inl rfl | exact Or.inr rfl | exact zb_01 _) D_m_mayBegin_58 ((pvI (by rw [if_pos (by omega)]; first | rw [zb_t (by omega)] | rw [zb_f (by omega)]) rfl))
  by_cases s1_100 : l = 100
  · refine z_look (tgt := 72) (off := 71) D_m_mayBegin_1 (by decide) (by omega) (by rw [s1_100]; rfl) (by decide) ?_
    refine z_aload_n D_m_mayBegin_72 rfl ?_
    refine z_getI fl_m_122 (rfl) rfl D_m_mayBegin_73 ?_
    refine z_if_ge (tgt := 83) D_m_mayBegin_76 (by decide) (by omega) (fun q76 => ?_) (fun q76 => ?_)
    · refine z_iconst D_m_mayBegin_83 ?_
      exact z_zreturn rfl (by first | exact Or.inl rfl | exact Or.inr rfl | exact zb_01 _) D_m_mayBegin_84 ((pvI (by rw [if_neg (by omega), if_neg (by omega), if_pos (by omega)]; first | rw [zb_t (by omega)] | rw [zb_f (by omega)]) rfl))
    · refine z_iconst D_m_mayBegin_79 ?_
      refine z_goto (tgt := 84) D_m_mayBegin_80 (by decide) ?_
      exact z_zreturn rfl (by first | exact Or.inl rfl | exact Or.inr rfl | exact zb_01 _) D_m_mayBegin_84 ((pvI (by rw [if_neg (by omega), if_neg (by omega), if_pos (by omega)]; first | rw [zb_t (by omega)] | rw [zb_f (by omega)]) rfl))
  by_cases s1_107 : l = 107
  · refine z_look (tgt := 59) (off := 58) D_m_mayBegin_1 (by decide) (by omega) (by rw [s1_107]; rfl) (by decide) ?_
    refine z_aload_n D_m_mayBegin_59 rfl ?_
    refine z_getI fl_m_119 (rfl) rfl D_m_mayBegin_60 ?_
    refine z_if_ge (tgt := 70) D_m_mayBegin_63 (by decide) (by omega) (fun q63 => ?_) (fun q63 => ?_)
    · refine z_iconst D_m_mayBegin_70 ?_
      exact z_zreturn rfl (by first | exact Or.inl rfl | exact Or.inr rfl | exact zb_01 _) D_m_mayBegin_71 ((pvI (by rw [if_neg (by omega), if_pos (by omega)]; first | rw [zb_t (by omega)] | rw [zb_f (by omega)]) rfl))
    · refine z_iconst D_m_mayBegin_66 ?_
      refine z_goto (tgt := 71) D_m_mayBegin_67 (by decide) ?_
      exact z_zreturn rfl (by first | exact Or.inl rfl | exact Or.inr rfl | exact zb_01 _) D_m_mayBegin_71 ((pvI (by rw [if_neg (by omega), if_pos (by omega)]; first | rw [zb_t (by omega)] | rw [zb_f (by omega)]) rfl))
  by_cases s1_112 : l = 112
  · refine z_look (tgt := 85) (off := 84) D_m_mayBegin_1 (by decide) (by omega) (by rw [s1_112]; rfl) (by decide) ?_
    refine z_aload_n D_m_mayBegin_85 rfl ?_
    refine z_getI fl_m_109 (rfl) rfl D_m_mayBegin_86 ?_
    refine z_bipush (by decide) D_m_mayBegin_89 ?_
    refine z_icmp_ge (tgt := 98) D_m_mayBegin_91 (by decide) (by omega) (by omega) (fun q91 => ?_) (fun q91 => ?_)
    · refine z_iconst D_m_mayBegin_98 ?_
      exact z_zreturn rfl (by first | exact Or.inl rfl | exact Or.inr rfl | exact zb_01 _) D_m_mayBegin_99 ((pvI (by rw [if_neg (by omega), if_neg (by omega), if_neg (by omega), if_pos (by omega)]; first | rw [zb_t (by omega)] | rw [zb_f (by omega)]) rfl))
    · refine z_iconst D_m_mayBegin_94 ?_
      refine z_goto (tgt := 99) D_m_mayBegin_95 (by decide) ?_
      exact z_zreturn rfl (by first | exact Or.inl rfl | exact Or.inr rfl | exact zb_01 _) D_m_mayBegin_99 ((pvI (by rw [if_neg (by omega), if_neg (by omega), if_neg (by omega), if_pos (by omega)]; first | rw [zb_t (by omega)] | rw [zb_f (by omega)]) rfl))
  refine z_look (tgt := 100) (off := 99) D_m_mayBegin_1 (by decide) (by omega) (by show (if _ = _ then _ else if _ = _ then _ else if _ = _ then _ else if _ = _ then _ else _) = _; rw [if_neg (by omega), if_neg (by omega), if_neg (by omega), if_neg (by omega)]; rfl) (by decide) ?_
  refine z_iconst D_m_mayBegin_100 ?_
  exact z_zreturn rfl (by first | exact Or.inl rfl | exact Or.inr rfl | exact zb_01 _) D_m_mayBegin_101 ((pvI (by rw [if_neg (by omega), if_neg (by omega), if_neg (by omega), if_neg (by omega)]) rfl))

theorem l_m_readOne {h : zH} {z : Pst} {c : Int} {post : Option zV → zH → Prop} (hM : MTok h (tm h) (h 39 15) c) (hS : SM h z) (hz : OKs z) (ht : 0 ≤ tkT (tm h) (h 39 15) c ∧ tkT (tm h) (h 39 15) c ≤ 4) (K : ∀ h2, (∀ a, a ≠ 39 → h2 a = h a) → (∀ j, j ≠ 20 → h2 39 j = h 39 j) → h2 39 20 = zb (tkT (tm h) (h 39 15) c = 2 ∧ told z.2.2.2.2.2.1 (tkV (tm h) (h 39 15) c) z.2.2.2.2.1.toNat = true) → Z M_m_readOne post 53 [vR 39, vI z.2.2.2.2.1] [] h2) : ∀ (k : Nat) (i : Int) (h1 : zH), 0 ≤ i → i ≤ z.2.2.2.2.1 → z.2.2.2.2.1 - i < k → (∀ a, a ≠ 39 → h1 a = h a) → (∀ j, j ≠ 20 → h1 39 j = h 39 j) → h1 39 20 = zb (tkT (tm h) (h 39 15) c = 2 ∧ told z.2.2.2.2.2.1 (tkV (tm h) (h 39 15) c) i.toNat = true) → Z M_m_readOne post 2 [vR 39, vI i] [] h1 := by
  obtain ⟨t1, t2, t3, t4, t5⟩ := hM
  have s4 := hS.2.2.2.1
  have b2 := hz.2.1
  intro k
  induction k with
  | zero => intro i h1 h0 h2 h3; omega
  | succ k ih =>
    intro i h1 h0 h2 h3 hE hJ hW
    have e26 : h1 39 26 = z.2.2.2.2.1 := by rw [hJ 26 (by decide)]; exact s4
    have e18 : h1 39 18 = tkT (tm h) (h 39 15) c := by rw [hJ 18 (by decide)]; exact t3
    have e19 : h1 39 19 = h 39 19 := hJ 19 (by decide)
    have e49 : i < z.2.2.2.2.1 → h1 49 i.toNat = z.2.2.2.2.2.1 i := fun q => by rw [hE 49 (by decide)]; exact hS.2.2.2.2.2.1 i h0 q
    have hb : i < z.2.2.2.2.1 → 0 ≤ z.2.2.2.2.2.1 i ∧ z.2.2.2.2.2.1 i < z.1 := fun q => hz.2.2.2.2.2.1 i h0 q
    have hb1 := hz.1
    have hnx : told z.2.2.2.2.2.1 (tkV (tm h) (h 39 15) c) (i + 1).toNat = true ↔ told z.2.2.2.2.2.1 (tkV (tm h) (h 39 15) c) i.toNat = true ∨ z.2.2.2.2.2.1 i = tkV (tm h) (h 39 15) c := by
      rw [tn1 h0]
      show (told _ _ _ || _) = true ↔ _
      rw [Bool.or_eq_true, beq_iff_eq, tn h0]
    have hst : ∀ x : Int, x = zb (tkT (tm h) (h 39 15) c = 2 ∧ told z.2.2.2.2.2.1 (tkV (tm h) (h 39 15) c) (i + 1).toNat = true) → i < z.2.2.2.2.1 → Z M_m_readOne post 2 [vR 39, vI (i + 1)] [] (zup h1 39 20 x) := fun x hx hi => by
      refine ih (i + 1) _ (by omega) (by omega) (by omega) (fun a ha => by funext j; rw [zup_ne ha, hE a ha]) (fun j hj => by rw [zup_nk hj, hJ j hj]) (by rw [zup_same, hx])
    refine z_iload_n D_m_readOne_2 rfl ?_
    refine z_aload_n D_m_readOne_3 rfl ?_
    refine z_getI fl_m_109 (rfl) rfl D_m_readOne_4 ?_
    refine z_icmp_ge (tgt := 53) D_m_readOne_7 (by decide) (by omega) (by omega) (fun q7 => ?_) (fun q7 => ?_)
    · have e9 : i = z.2.2.2.2.1 := by omega
      rw [e9] at hW ⊢
      exact K h1 hE hJ hW
    · refine z_aload_n D_m_readOne_10 rfl ?_
      refine z_aload_n D_m_readOne_11 rfl ?_
      refine z_getI fl_m_102 (rfl) rfl D_m_readOne_12 ?_
      refine z_if_ne (tgt := 39) D_m_readOne_15 (by decide) (by rw [hW]; unfold zb; split <;> omega) (fun q15 => ?_) (fun q15 => ?_)
      · refine z_iconst D_m_readOne_39 ?_
        refine z_goto (tgt := 44) D_m_readOne_40 (by decide) ?_
        refine z_putB fl_m_102 (rfl) rfl rfl (by first | exact Or.inl rfl | exact Or.inr rfl | exact zb_01 _) D_m_readOne_44 ?_
        refine z_iinc_1 D_m_readOne_47 (Nat.le_of_ble_eq_true rfl) rfl ?_
        refine z_goto (tgt := 2) D_m_readOne_50 (by decide) ?_
        exact hst _ (by rw [zb_t ⟨(zb_tn (fun e => q15 (hW.trans e))).1, hnx.mpr (Or.inl (zb_tn (fun e => q15 (hW.trans e))).2)⟩]) (by omega)
      · refine z_aload_n D_m_readOne_18 rfl ?_
        refine z_getI fl_m_92 (rfl) rfl D_m_readOne_19 ?_
        refine z_iconst D_m_readOne_22 ?_
        refine z_icmp_ne (tgt := 43) D_m_readOne_23 (by decide) (by omega) (by omega) (fun q23 => ?_) (fun q23 => ?_)
        · refine z_iconst D_m_readOne_43 ?_
          refine z_putB fl_m_102 (rfl) rfl rfl (by first | exact Or.inl rfl | exact Or.inr rfl | exact zb_01 _) D_m_readOne_44 ?_
          refine z_iinc_1 D_m_readOne_47 (Nat.le_of_ble_eq_true rfl) rfl ?_
          refine z_goto (tgt := 2) D_m_readOne_50 (by decide) ?_
          exact hst _ (by rw [zb_f (fun q => q23 (e18.trans q.1))]) (by omega)
        · refine z_aload_n D_m_readOne_26 rfl ?_
          refine z_getI fl_m_89 (rfl) rfl D_m_readOne_27 ?_
          refine z_aload_n D_m_readOne_30 rfl ?_
          refine z_getR (q := 49) fl_m_45 (rfl) rfl (rfl) D_m_readOne_31 ?_
          refine z_iload_n D_m_readOne_34 rfl ?_
          refine z_iald (n := 6) (rfl) (by omega) D_m_readOne_35 ?_
          rw [e19, e49 (by omega)]
          refine z_icmp_ne (tgt := 43) D_m_readOne_36 (by decide) (by omega) (by have := hb (by omega); omega) (fun q36 => ?_) (fun q36 => ?_)
          · refine z_iconst D_m_readOne_43 ?_
            refine z_putB fl_m_102 (rfl) rfl rfl (by first | exact Or.inl rfl | exact Or.inr rfl | exact zb_01 _) D_m_readOne_44 ?_
            refine z_iinc_1 D_m_readOne_47 (Nat.le_of_ble_eq_true rfl) rfl ?_
            refine z_goto (tgt := 2) D_m_readOne_50 (by decide) ?_
            exact hst _ (by rw [zb_f (fun q => (hnx.mp q.2).elim (fun y => zb_fn (hW.symm.trans q15) ⟨q.1, y⟩) (fun y => q36 (by rw [t4 (Or.inr q.1)]; exact y.symm)))]) (by omega)
          · refine z_iconst D_m_readOne_39 ?_
            refine z_goto (tgt := 44) D_m_readOne_40 (by decide) ?_
            refine z_putB fl_m_102 (rfl) rfl rfl (by first | exact Or.inl rfl | exact Or.inr rfl | exact zb_01 _) D_m_readOne_44 ?_
            refine z_iinc_1 D_m_readOne_47 (Nat.le_of_ble_eq_true rfl) rfl ?_
            refine z_goto (tgt := 2) D_m_readOne_50 (by decide) ?_
            exact hst _ (by rw [zb_t ⟨e18.symm.trans q23, hnx.mpr (Or.inr (by rw [← t4 (Or.inr (e18.symm.trans q23))]; exact q36.symm))⟩]) (by omega)
