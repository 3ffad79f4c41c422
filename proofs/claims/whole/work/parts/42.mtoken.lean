/-! the other side reads a token -/
def tm (h : zH) (j : Int) : Int := h 47 j.toNat
def TM (h : zH) : Prop := (0 ≤ h 39 15 ∧ h 39 15 ≤ 150) ∧ ∀ j, 0 ≤ j → j < h 39 15 → 0 ≤ tm h j ∧ tm h j ≤ 255
def TKM (h h1 : zH) : Prop := (∀ a, a ≠ 39 → h1 a = h a) ∧ ∀ j, (j < 16 ∨ 19 < j) → h1 39 j = h 39 j
theorem TKM.rfl' {h : zH} : TKM h h := ⟨fun _ _ => rfl, fun _ _ => rfl⟩
theorem TKM.put {h h1 : zH} {k : Nat} {x : Int} (a : TKM h h1) (hk : 16 ≤ k ∧ k ≤ 19) : TKM h (zup h1 39 k x) := ⟨fun b hb => by funext j; rw [zup_ne hb, a.1 b hb], fun j hj => by rw [zup_nk (by omega), a.2 j hj]⟩
theorem TKM.trans {h h1 h2 : zH} (a : TKM h h1) (b : TKM h1 h2) : TKM h h2 := ⟨fun q hq => (b.1 q hq).trans (a.1 q hq), fun j hj => (b.2 j hj).trans (a.2 j hj)⟩
theorem TKM.eT {h h1 : zH} (a : TKM h h1) : tm h1 = tm h := by funext j; unfold tm; rw [a.1 47 (by decide)]
theorem TKM.len {h h1 : zH} (a : TKM h h1) : h1 39 15 = h 39 15 := a.2 15 (by omega)
theorem TKM.ok {h h1 : zH} (a : TKM h h1) (q : TM h) : TM h1 := by
  unfold TM
  rw [a.eT, a.len]
  exact q
def lat (h : zH) (i : Int) : Int := if i < h 39 15 then tm h i else -1
theorem lat_y {h : zH} {i : Int} (q : i < h 39 15) : lat h i = tm h i := if_pos q
theorem lat_n {h : zH} {i : Int} (q : ¬ i < h 39 15) : lat h i = -1 := if_neg q
theorem lat_in {h : zH} (hT : TM h) {i : Int} (hi : 0 ≤ i) : -1 ≤ lat h i ∧ lat h i ≤ 255 ∧ (lat h i < 0 ↔ ¬ i < h 39 15) := by
  by_cases q : i < h 39 15
  · have := hT.2 i hi q
    rw [lat_y q]; omega
  · rw [lat_n q]; omega
theorem TKM.la {h h1 : zH} (a : TKM h h1) {i j : Int} (e : j = i) : lat h1 j = lat h i := by
  unfold lat; rw [a.len, a.eT, e]
theorem c_m_letterAt {h : zH} {i : Int} (hT : TM h) (hi : 0 ≤ i ∧ i ≤ 200) : zC M_m_letterAt [vR 39, vI i] h (pV (vI (lat h i)) h) := by
  refine zC.ofN 0 (by decide) (by first | decide | exact Nat.le_of_ble_eq_true rfl) ?_
  show Z M_m_letterAt _ 0 [vR 39, vI i] [] h
  have hL := hT.1
  refine z_iload_n D_m_letterAt_0 rfl ?_
  refine z_aload_n D_m_letterAt_1 rfl ?_
  refine z_getI fl_m_76 (rfl) rfl D_m_letterAt_2 ?_
  refine z_icmp_ge (tgt := 17) D_m_letterAt_5 (by decide) (by omega) (by omega) (fun q5 => ?_) (fun q5 => ?_)
  · refine z_iconst D_m_letterAt_17 ?_
    exact z_ireturn rfl D_m_letterAt_18 (pvI (by rw [lat_n (by omega)]) rfl)
  · refine z_aload_n D_m_letterAt_8 rfl ?_
    refine z_getR (q := 47) fl_m_39 (rfl) rfl (rfl) D_m_letterAt_9 ?_
    refine z_iload_n D_m_letterAt_12 rfl ?_
    refine z_iald (n := 150) (rfl) (by omega) D_m_letterAt_13 ?_
    refine z_goto (tgt := 18) D_m_letterAt_14 (by decide) ?_
    exact z_ireturn rfl D_m_letterAt_18 (pvI (by rw [lat_y (by omega)]; rfl) rfl)

def RM (h h1 : zH) (T : Int → Int) (L c : Int) : Prop := TKM h h1 ∧ h1 39 16 = tkN T L c ∧ h1 39 17 = tkS T L c ∧ h1 39 18 = tkT T L c ∧ (tkT T L c = 1 ∨ tkT T L c = 2 → h1 39 19 = tkV T L c) ∧ 0 ≤ h1 39 19 ∧ h1 39 19 ≤ 999
/-- digits -/
theorem l_m_next1 {h : zH} {c s e d : Int} {post : Option zV → zH → Prop} (hT : TM h) (hs : 0 ≤ s ∧ s < h 39 15) (K : ∀ h2, TKM h h2 → h2 39 16 = e → h2 39 17 = s → h2 39 19 = d → (0 ≤ d ∧ d ≤ 999) → Z M_m_next post 133 [vR 39, vI c] [] h2) : ∀ (k : Nat) (i v : Int) (h1 : zH), s ≤ i → i ≤ h 39 15 → h 39 15 - i < k → (0 ≤ v ∧ v ≤ 999) → TKM h h1 → h1 39 16 = i → h1 39 17 = s → h1 39 19 = v → spE (bD (tm h)) (h 39 15) i = e → dvE (tm h) (h 39 15) i v = d → Z M_m_next post 67 [vR 39, vI c] [] h1 := by
  have hL := hT.1
  intro k
  induction k with
  | zero => intro i v h1 h0 h2 h3; omega
  | succ k ih =>
    intro i v h1 h0 h2 h3 hv hK e2 e3 e5 hE hD
    have eL := hK.len
    have hla := hK.la e2
    have hin := lat_in hT (i := i) (by omega)
    have hiq : (48 ≤ lat h i ∧ lat h i ≤ 57) ↔ i < h 39 15 ∧ 48 ≤ tm h i ∧ tm h i ≤ 57 := by
      by_cases q : i < h 39 15
      · rw [lat_y q]; exact ⟨fun z => ⟨q, z⟩, fun z => z.2⟩
      · rw [lat_n q]; omega
    refine z_aload_n D_m_next_67 rfl ?_
    refine z_aload_n D_m_next_68 rfl ?_
    refine z_getI fl_m_79 (rfl) rfl D_m_next_69 ?_
    refine z_V1 (c0 := 12) (c_m_letterAt (hK.ok hT) (by omega)) G_m_letterAt I_m_letterAt lk_m_82 (rfl) ⟨by decide, rfl⟩ ⟨Nat.le_of_ble_eq_true rfl, Nat.le_of_ble_eq_true rfl⟩ (Nat.le_of_ble_eq_true rfl) D_m_next_72 ?_
    rw [hla]
    refine z_S1 (c_m_isFigure (by omega)) G_m_isFigure S_m_isFigure lk_m_95 ⟨Nat.le_of_ble_eq_true rfl, Nat.le_of_ble_eq_true rfl⟩ (Nat.le_of_ble_eq_true rfl) D_m_next_75 ?_
    refine z_ifeqB (tgt := 133) D_m_next_78 (by decide) (fun q78 => ?_) (fun q78 => ?_)
    · have e9 : e = i := by rw [← hE]; exact spE_n (fun z => q78 (hiq.mpr ⟨z.1, bD_t.mp z.2⟩))
      have d9 : d = v := by rw [← hD]; exact dvE_n (fun z => q78 (hiq.mpr z))
      exact K h1 hK (by rw [e2, e9]) e3 (by rw [e5, d9]) (by omega)
    · refine z_aload_n D_m_next_81 rfl ?_
      refine z_aload_n D_m_next_82 rfl ?_
      refine z_getI fl_m_89 (rfl) rfl D_m_next_83 ?_
      rw [e5]
      refine z_bipush (by decide) D_m_next_86 ?_
      refine z_icmp_le (tgt := 98) D_m_next_88 (by decide) (by omega) (by omega) (fun q88 => ?_) (fun q88 => ?_)
      · refine z_bipush (by decide) D_m_next_98 ?_
        refine z_aload_n D_m_next_100 rfl ?_
        refine z_getI fl_m_89 (rfl) rfl D_m_next_101 ?_
        rw [e5]
        refine z_imul D_m_next_104 ?_
        refine z_aload_n D_m_next_105 rfl ?_
        refine z_aload_n D_m_next_106 rfl ?_
        refine z_getI fl_m_79 (rfl) rfl D_m_next_107 ?_
        refine z_V1 (c0 := 12) (c_m_letterAt (hK.ok hT) (by omega)) G_m_letterAt I_m_letterAt lk_m_82 (rfl) ⟨by decide, rfl⟩ ⟨Nat.le_of_ble_eq_true rfl, Nat.le_of_ble_eq_true rfl⟩ (Nat.le_of_ble_eq_true rfl) D_m_next_110 ?_
        rw [hla]
        refine z_iadd D_m_next_113 ?_
        refine z_bipush (by decide) D_m_next_114 ?_
        refine z_isub D_m_next_116 ?_
        refine z_putI fl_m_89 (rfl) rfl rfl D_m_next_117 ?_
        refine z_aload_n D_m_next_120 rfl ?_
        refine z_dup rfl D_m_next_121 ?_
        refine z_getI fl_m_79 (rfl) rfl D_m_next_122 ?_
        refine z_iconst D_m_next_125 ?_
        refine z_iadd D_m_next_126 ?_
        refine z_putI fl_m_79 (rfl) rfl rfl D_m_next_127 ?_
        refine z_goto (tgt := 67) D_m_next_130 (by decide) ?_
        have q78 := hiq.mp q78
        refine ih (i + 1) (10 * v + tm h i - 48) _ (by omega) (by omega) (by omega) (by omega) ((hK.put (by omega)).put (by omega)) ?_ ?_ ?_ ?_ ?_
        · rw [zup_same, zup_nk (by decide), e2]
        · rw [zup_nk (by decide), zup_nk (by decide), e3]
        · rw [zup_nk (by decide), zup_same]
          rw [lat_y q78.1]
        · rw [← hE]; exact (spE_y q78.1 (bD_t.mpr q78.2)).symm
        · rw [← hD, dvE_y q78.1 q78.2, if_neg (by omega)]
      · refine z_aload_n D_m_next_91 rfl ?_
        refine z_getI fl_m_89 (rfl) rfl D_m_next_92 ?_
        rw [e5]
        refine z_goto (tgt := 117) D_m_next_95 (by decide) ?_
        refine z_putI fl_m_89 (rfl) rfl rfl D_m_next_117 ?_
        refine z_aload_n D_m_next_120 rfl ?_
        refine z_dup rfl D_m_next_121 ?_
        refine z_getI fl_m_79 (rfl) rfl D_m_next_122 ?_
        refine z_iconst D_m_next_125 ?_
        refine z_iadd D_m_next_126 ?_
        refine z_putI fl_m_79 (rfl) rfl rfl D_m_next_127 ?_
        refine z_goto (tgt := 67) D_m_next_130 (by decide) ?_
        have q78 := hiq.mp q78
        refine ih (i + 1) v _ (by omega) (by omega) (by omega) (by omega) ((hK.put (by omega)).put (by omega)) ?_ ?_ ?_ ?_ ?_
        · rw [zup_same, zup_nk (by decide), e2]
        · rw [zup_nk (by decide), zup_nk (by decide), e3]
        · rw [zup_nk (by decide), zup_same]
        · rw [← hE]; exact (spE_y q78.1 (bD_t.mpr q78.2)).symm
        · rw [← hD, dvE_y q78.1 q78.2, if_pos (by omega)]
/-- letters -/
theorem l_m_next2 {h : zH} {c s e : Int} {post : Option zV → zH → Prop} (hT : TM h) (hs : 0 ≤ s ∧ s < h 39 15) (K : ∀ h2, TKM h h2 → h2 39 16 = e → h2 39 17 = s → Z M_m_next post 207 [vR 39, vI c] [] h2) : ∀ (k : Nat) (i : Int) (h1 : zH), s ≤ i → i ≤ h 39 15 → h 39 15 - i < k → TKM h h1 → h1 39 16 = i → h1 39 17 = s → spE (bL (tm h)) (h 39 15) i = e → Z M_m_next post 180 [vR 39, vI c] [] h1 := by
  have hL := hT.1
  intro k
  induction k with
  | zero => intro i h1 h0 h2 h3; omega
  | succ k ih =>
    intro i h1 h0 h2 h3 hK e2 e3 hE
    have eL := hK.len
    have hla := hK.la e2
    have hin := lat_in hT (i := i) (by omega)
    have hiq : (97 ≤ lat h i ∧ lat h i ≤ 122) ↔ i < h 39 15 ∧ 97 ≤ tm h i ∧ tm h i ≤ 122 := by
      by_cases q : i < h 39 15
      · rw [lat_y q]; exact ⟨fun z => ⟨q, z⟩, fun z => z.2⟩
      · rw [lat_n q]; omega
    refine z_aload_n D_m_next_180 rfl ?_
    refine z_aload_n D_m_next_181 rfl ?_
    refine z_getI fl_m_79 (rfl) rfl D_m_next_182 ?_
    refine z_V1 (c0 := 12) (c_m_letterAt (hK.ok hT) (by omega)) G_m_letterAt I_m_letterAt lk_m_82 (rfl) ⟨by decide, rfl⟩ ⟨Nat.le_of_ble_eq_true rfl, Nat.le_of_ble_eq_true rfl⟩ (Nat.le_of_ble_eq_true rfl) D_m_next_185 ?_
    rw [hla]
    refine z_S1 (c_m_isLetter (by omega)) G_m_isLetter S_m_isLetter lk_m_99 ⟨Nat.le_of_ble_eq_true rfl, Nat.le_of_ble_eq_true rfl⟩ (Nat.le_of_ble_eq_true rfl) D_m_next_188 ?_
    refine z_ifeqB (tgt := 207) D_m_next_191 (by decide) (fun q191 => ?_) (fun q191 => ?_)
    · have e9 : e = i := by rw [← hE]; exact spE_n (fun z => q191 (hiq.mpr ⟨z.1, bL_t.mp z.2⟩))
      exact K h1 hK (by rw [e2, e9]) e3
    · refine z_aload_n D_m_next_194 rfl ?_
      refine z_dup rfl D_m_next_195 ?_
      refine z_getI fl_m_79 (rfl) rfl D_m_next_196 ?_
      refine z_iconst D_m_next_199 ?_
      refine z_iadd D_m_next_200 ?_
      refine z_putI fl_m_79 (rfl) rfl rfl D_m_next_201 ?_
      refine z_goto (tgt := 180) D_m_next_204 (by decide) ?_
      have q191 := hiq.mp q191
      refine ih (i + 1) _ (by omega) (by omega) (by omega) (hK.put (by omega)) ?_ ?_ ?_
      · rw [zup_same, e2]
      · rw [zup_nk (by decide), e3]
      · rw [← hE]; exact (spE_y q191.1 (bL_t.mpr q191.2)).symm
theorem l_m_next {h : zH} {c : Int} (hT : TM h) (hc : 0 ≤ c ∧ c ≤ h 39 15) : ∀ (k : Nat) (i : Int) (h1 : zH), c ≤ i → i ≤ h 39 15 → h 39 15 - i < k → TKM h h1 → h1 39 16 = i → spE (bS (tm h)) (h 39 15) i = tkS (tm h) (h 39 15) c → Z M_m_next (fun v h2 => v = none ∧ RM h h2 (tm h) (h 39 15) c) 0 [vR 39, vU] [] h1 := by
  have hL := hT.1
  intro k
  induction k with
  | zero => intro i h1 h0 h2 h3; omega
  | succ k ih =>
    intro i h1 h0 h2 h3 hK e2 hE
    have eL := hK.len
    have hla := hK.la e2
    have hin := lat_in hT (i := i) (by omega)
    have hiq : lat h i = 32 ↔ i < h 39 15 ∧ tm h i = 32 := by
      by_cases q : i < h 39 15
      · rw [lat_y q]; exact ⟨fun z => ⟨q, z⟩, fun z => z.2⟩
      · rw [lat_n q]; omega
    refine z_aload_n D_m_next_0 rfl ?_
    refine z_aload_n D_m_next_1 rfl ?_
    refine z_getI fl_m_79 (rfl) rfl D_m_next_2 ?_
    refine z_V1 (c0 := 12) (c_m_letterAt (hK.ok hT) (by omega)) G_m_letterAt I_m_letterAt lk_m_82 (rfl) ⟨by decide, rfl⟩ ⟨Nat.le_of_ble_eq_true rfl, Nat.le_of_ble_eq_true rfl⟩ (Nat.le_of_ble_eq_true rfl) D_m_next_5 ?_
    rw [hla]
    refine z_bipush (by decide) D_m_next_8 ?_
    refine z_icmp_ne (tgt := 26) D_m_next_10 (by decide) (by omega) (by omega) (fun q10 => ?_) (fun q10 => ?_)
    · have e9 : tkS (tm h) (h 39 15) c = i := by rw [← hE]; exact spE_n (fun z => q10 (hiq.mpr ⟨z.1, bS_t.mp z.2⟩))
      refine z_aload_n D_m_next_26 rfl ?_
      refine z_aload_n D_m_next_27 rfl ?_
      refine z_getI fl_m_79 (rfl) rfl D_m_next_28 ?_
      refine z_putI fl_m_86 (rfl) rfl rfl D_m_next_31 ?_
      have hK3 : TKM h (zup h1 39 17 (h1 39 16)) := hK.put (by omega)
      have a2 : (zup h1 39 17 (h1 39 16)) 39 16 = i := by rw [zup_nk (by decide), e2]
      have a3 : (zup h1 39 17 (h1 39 16)) 39 17 = i := by rw [zup_same, e2]
      have hl3 := hK3.la a2
      generalize (zup h1 39 17 (h1 39 16)) = h3x at hK3 a2 a3 hl3 ⊢
      refine z_aload_n D_m_next_34 rfl ?_
      refine z_aload_n D_m_next_35 rfl ?_
      refine z_getI fl_m_79 (rfl) rfl D_m_next_36 ?_
      refine z_V1 (c0 := 12) (c_m_letterAt (hK3.ok hT) (by omega)) G_m_letterAt I_m_letterAt lk_m_82 (rfl) ⟨by decide, rfl⟩ ⟨Nat.le_of_ble_eq_true rfl, Nat.le_of_ble_eq_true rfl⟩ (Nat.le_of_ble_eq_true rfl) D_m_next_39 ?_
      rw [hl3]
      refine z_istore_1 D_m_next_42 (Nat.le_of_ble_eq_true rfl) rfl ?_
      refine z_aload_n D_m_next_43 rfl ?_
      refine z_iconst D_m_next_44 ?_
      refine z_putI fl_m_89 (rfl) rfl rfl D_m_next_45 ?_
      have hK5 : TKM h (zup h3x 39 19 0) := hK3.put (by omega)
      have b2 : (zup h3x 39 19 0) 39 16 = i := by rw [zup_nk (by decide), a2]
      have b3 : (zup h3x 39 19 0) 39 17 = i := by rw [zup_nk (by decide), a3]
      have b5 : (zup h3x 39 19 0) 39 19 = 0 := zup_same
      generalize (zup h3x 39 19 0) = h5 at hK5 b2 b3 b5 ⊢
      refine z_iload_n D_m_next_48 rfl ?_
      refine z_if_ge (tgt := 60) D_m_next_49 (by decide) (by omega) (fun q49 => ?_) (fun q49 => ?_)
      · have q49 : i < h 39 15 := by omega
        rw [lat_y q49] at hin ⊢
        refine z_iload_n D_m_next_60 rfl ?_
        refine z_S1 (c_m_isFigure (by omega)) G_m_isFigure S_m_isFigure lk_m_95 ⟨Nat.le_of_ble_eq_true rfl, Nat.le_of_ble_eq_true rfl⟩ (Nat.le_of_ble_eq_true rfl) D_m_next_61 ?_
        refine z_ifeqB (tgt := 173) D_m_next_64 (by decide) (fun q64 => ?_) (fun q64 => ?_)
        · refine z_iload_n D_m_next_173 rfl ?_
          refine z_S1 (c_m_isLetter (by omega)) G_m_isLetter S_m_isLetter lk_m_99 ⟨Nat.le_of_ble_eq_true rfl, Nat.le_of_ble_eq_true rfl⟩ (Nat.le_of_ble_eq_true rfl) D_m_next_174 ?_
          refine z_ifeqB (tgt := 237) D_m_next_177 (by decide) (fun q177 => ?_) (fun q177 => ?_)
          · refine z_aload_n D_m_next_237 rfl ?_
            refine z_iload_n D_m_next_238 rfl ?_
            refine z_bipush (by decide) D_m_next_239 ?_
            refine z_icmp_ne (tgt := 248) D_m_next_241 (by decide) (by omega) (by omega) (fun q241 => ?_) (fun q241 => ?_)
            · refine z_iconst D_m_next_248 ?_
              refine z_putI fl_m_92 (rfl) rfl rfl D_m_next_249 ?_
              refine z_aload_n D_m_next_252 rfl ?_
              refine z_dup rfl D_m_next_253 ?_
              refine z_getI fl_m_79 (rfl) rfl D_m_next_254 ?_
              refine z_iconst D_m_next_257 ?_
              refine z_iadd D_m_next_258 ?_
              refine z_putI fl_m_79 (rfl) rfl rfl D_m_next_259 ?_
              have t9 : tkT (tm h) (h 39 15) c = 4 := by unfold tkT; rw [e9, if_pos q49, if_neg q64, if_neg q177, if_neg q241]
              refine z_return rfl D_m_next_262 ⟨rfl, (hK5.put (by omega)).put (by omega), ?_, ?_, ?_, ?_, ?_⟩
              · unfold tkN; rw [zup_same, zup_nk (by decide), e9, if_pos q49, if_neg q64, if_neg q177, b2]
              · rw [zup_nk (by decide), zup_nk (by decide), e9]; exact b3
              · rw [zup_nk (by decide), zup_same, t9]
              · intro z; rw [t9] at z; omega
              · rw [zup_nk (by decide), zup_nk (by decide), b5]; omega
            · refine z_iconst D_m_next_244 ?_
              refine z_goto (tgt := 249) D_m_next_245 (by decide) ?_
              refine z_putI fl_m_92 (rfl) rfl rfl D_m_next_249 ?_
              refine z_aload_n D_m_next_252 rfl ?_
              refine z_dup rfl D_m_next_253 ?_
              refine z_getI fl_m_79 (rfl) rfl D_m_next_254 ?_
              refine z_iconst D_m_next_257 ?_
              refine z_iadd D_m_next_258 ?_
              refine z_putI fl_m_79 (rfl) rfl rfl D_m_next_259 ?_
              have t9 : tkT (tm h) (h 39 15) c = 3 := by unfold tkT; rw [e9, if_pos q49, if_neg q64, if_neg q177, if_pos q241]
              refine z_return rfl D_m_next_262 ⟨rfl, (hK5.put (by omega)).put (by omega), ?_, ?_, ?_, ?_, ?_⟩
              · unfold tkN; rw [zup_same, zup_nk (by decide), e9, if_pos q49, if_neg q64, if_neg q177, b2]
              · rw [zup_nk (by decide), zup_nk (by decide), e9]; exact b3
              · rw [zup_nk (by decide), zup_same, t9]
              · intro z; rw [t9] at z; omega
              · rw [zup_nk (by decide), zup_nk (by decide), b5]; omega
          · refine l_m_next2 (s := i) hT ⟨by omega, q49⟩ (fun h6 hK6 c1 c2 => ?_) (152 : Nat) i _ (by omega) (by omega) (by omega) hK5 b2 b3 rfl
            refine z_aload_n D_m_next_207 rfl ?_
            refine z_iconst D_m_next_208 ?_
            refine z_putI fl_m_92 (rfl) rfl rfl D_m_next_209 ?_
            refine z_aload_n D_m_next_212 rfl ?_
            refine z_aload_n D_m_next_213 rfl ?_
            have k1 : zup h6 39 18 1 39 16 = spE (bL (tm h)) (h 39 15) i := by rw [zup_nk (by decide), c1]
            have k2 : zup h6 39 18 1 39 17 = i := by rw [zup_nk (by decide), c2]
            have hsp := spE_in (bL (tm h)) (L := h 39 15) (i := i) (by omega)
            refine z_getI fl_m_79 (rfl) rfl D_m_next_214 ?_
            refine z_aload_n D_m_next_217 rfl ?_
            refine z_getI fl_m_86 (rfl) rfl D_m_next_218 ?_
            refine z_isub D_m_next_221 ?_
            refine z_iconst D_m_next_222 ?_
            refine z_icmp_ne (tgt := 230) D_m_next_223 (by decide) (by omega) (by omega) (fun q223 => ?_) (fun q223 => ?_)
            · refine z_iconst D_m_next_230 ?_
              refine z_putI fl_m_89 (rfl) rfl rfl D_m_next_231 ?_
              refine z_goto (tgt := 262) D_m_next_234 (by decide) ?_
              have t9 : tkT (tm h) (h 39 15) c = 1 := by unfold tkT; rw [e9, if_pos q49, if_neg q64, if_pos q177]
              refine z_return rfl D_m_next_262 ⟨rfl, (hK6.put (by omega)).put (by omega), ?_, ?_, ?_, ?_, ?_⟩
              · unfold tkN; rw [zup_nk (by decide), zup_nk (by decide), e9, if_pos q49, if_neg q64, if_pos q177, c1]
              · rw [zup_nk (by decide), zup_nk (by decide), c2, e9]
              · rw [zup_nk (by decide), zup_same, t9]
              · intro z; unfold tkV; rw [zup_same, e9, if_neg q64, if_neg (by omega)]
              · rw [zup_same]; omega
            · refine z_iload_n D_m_next_226 rfl ?_
              refine z_goto (tgt := 231) D_m_next_227 (by decide) ?_
              refine z_putI fl_m_89 (rfl) rfl rfl D_m_next_231 ?_
              refine z_goto (tgt := 262) D_m_next_234 (by decide) ?_
              have t9 : tkT (tm h) (h 39 15) c = 1 := by unfold tkT; rw [e9, if_pos q49, if_neg q64, if_pos q177]
              refine z_return rfl D_m_next_262 ⟨rfl, (hK6.put (by omega)).put (by omega), ?_, ?_, ?_, ?_, ?_⟩
              · unfold tkN; rw [zup_nk (by decide), zup_nk (by decide), e9, if_pos q49, if_neg q64, if_pos q177, c1]
              · rw [zup_nk (by decide), zup_nk (by decide), c2, e9]
              · rw [zup_nk (by decide), zup_same, t9]
              · intro z; unfold tkV; rw [zup_same, e9, if_neg q64, if_pos (by omega)]
              · rw [zup_same]; omega
        · refine l_m_next1 (s := i) hT ⟨by omega, q49⟩ (fun h6 hK6 c1 c2 c3 c4 => ?_) (152 : Nat) i 0 _ (by omega) (by omega) (by omega) (by omega) hK5 b2 b3 b5 rfl rfl
          refine z_aload_n D_m_next_133 rfl ?_
          refine z_aload_n D_m_next_134 rfl ?_
          refine z_getI fl_m_89 (rfl) rfl D_m_next_135 ?_
          rw [c3]
          have hsp := spE_in (bD (tm h)) (L := h 39 15) (i := i) (by omega)
          refine z_bipush (by decide) D_m_next_138 ?_
          refine z_icmp_gt (tgt := 162) D_m_next_140 (by decide) (by omega) (by omega) (fun q140 => ?_) (fun q140 => ?_)
          · refine z_iconst D_m_next_162 ?_
            refine z_goto (tgt := 167) D_m_next_163 (by decide) ?_
            refine z_putI fl_m_92 (rfl) rfl rfl D_m_next_167 ?_
            refine z_goto (tgt := 262) D_m_next_170 (by decide) ?_
            have t9 : tkT (tm h) (h 39 15) c = 4 := by unfold tkT; rw [e9, if_pos q49, if_pos q64, if_pos (by omega)]
            refine z_return rfl D_m_next_262 ⟨rfl, hK6.put (by omega), ?_, ?_, ?_, ?_, ?_⟩
            · unfold tkN; rw [zup_nk (by decide), e9, if_pos q49, if_pos q64, c1]
            · rw [zup_nk (by decide), c2, e9]
            · rw [zup_same, t9]
            · intro z; unfold tkV; rw [zup_nk (by decide), c3, e9, if_pos q64]
            · rw [zup_nk (by decide), c3]; exact c4
          · refine z_iload_n D_m_next_143 rfl ?_
            refine z_bipush (by decide) D_m_next_144 ?_
            refine z_icmp_ne (tgt := 166) D_m_next_146 (by decide) (by omega) (by omega) (fun q146 => ?_) (fun q146 => ?_)
            · refine z_iconst D_m_next_166 ?_
              refine z_putI fl_m_92 (rfl) rfl rfl D_m_next_167 ?_
              refine z_goto (tgt := 262) D_m_next_170 (by decide) ?_
              have t9 : tkT (tm h) (h 39 15) c = 2 := by unfold tkT; rw [e9, if_pos q49, if_pos q64, if_neg (by omega)]
              refine z_return rfl D_m_next_262 ⟨rfl, hK6.put (by omega), ?_, ?_, ?_, ?_, ?_⟩
              · unfold tkN; rw [zup_nk (by decide), e9, if_pos q49, if_pos q64, c1]
              · rw [zup_nk (by decide), c2, e9]
              · rw [zup_same, t9]
              · intro z; unfold tkV; rw [zup_nk (by decide), c3, e9, if_pos q64]
              · rw [zup_nk (by decide), c3]; exact c4
            · refine z_aload_n D_m_next_149 rfl ?_
              refine z_getI fl_m_79 (rfl) rfl D_m_next_150 ?_
              refine z_aload_n D_m_next_153 rfl ?_
              refine z_getI fl_m_86 (rfl) rfl D_m_next_154 ?_
              refine z_isub D_m_next_157 ?_
              refine z_iconst D_m_next_158 ?_
              refine z_icmp_le (tgt := 166) D_m_next_159 (by decide) (by omega) (by omega) (fun q159 => ?_) (fun q159 => ?_)
              · refine z_iconst D_m_next_166 ?_
                refine z_putI fl_m_92 (rfl) rfl rfl D_m_next_167 ?_
                refine z_goto (tgt := 262) D_m_next_170 (by decide) ?_
                have t9 : tkT (tm h) (h 39 15) c = 2 := by unfold tkT; rw [e9, if_pos q49, if_pos q64, if_neg (by omega)]
                refine z_return rfl D_m_next_262 ⟨rfl, hK6.put (by omega), ?_, ?_, ?_, ?_, ?_⟩
                · unfold tkN; rw [zup_nk (by decide), e9, if_pos q49, if_pos q64, c1]
                · rw [zup_nk (by decide), c2, e9]
                · rw [zup_same, t9]
                · intro z; unfold tkV; rw [zup_nk (by decide), c3, e9, if_pos q64]
                · rw [zup_nk (by decide), c3]; exact c4
              · refine z_iconst D_m_next_162 ?_
                refine z_goto (tgt := 167) D_m_next_163 (by decide) ?_
                refine z_putI fl_m_92 (rfl) rfl rfl D_m_next_167 ?_
                refine z_goto (tgt := 262) D_m_next_170 (by decide) ?_
                have t9 : tkT (tm h) (h 39 15) c = 4 := by unfold tkT; rw [e9, if_pos q49, if_pos q64, if_pos (by omega)]
                refine z_return rfl D_m_next_262 ⟨rfl, hK6.put (by omega), ?_, ?_, ?_, ?_, ?_⟩
                · unfold tkN; rw [zup_nk (by decide), e9, if_pos q49, if_pos q64, c1]
                · rw [zup_nk (by decide), c2, e9]
                · rw [zup_same, t9]
                · intro z; unfold tkV; rw [zup_nk (by decide), c3, e9, if_pos q64]
                · rw [zup_nk (by decide), c3]; exact c4
      · refine z_aload_n D_m_next_52 rfl ?_
        refine z_iconst D_m_next_53 ?_
        refine z_putI fl_m_92 (rfl) rfl rfl D_m_next_54 ?_
        refine z_goto (tgt := 262) D_m_next_57 (by decide) ?_
        refine z_return rfl D_m_next_262 ⟨rfl, hK5.put (by omega), ?_, ?_, ?_, ?_, ?_⟩
        · unfold tkN; rw [zup_nk (by decide), e9, if_neg (by omega)]; exact b2
        · rw [zup_nk (by decide), e9]; exact b3
        · unfold tkT; rw [zup_same, e9, if_neg (by omega)]
        · intro z; unfold tkT at z; rw [e9, if_neg (by omega)] at z; omega
        · rw [zup_nk (by decide), b5]; omega
    · refine z_aload_n D_m_next_13 rfl ?_
      refine z_dup rfl D_m_next_14 ?_
      refine z_getI fl_m_79 (rfl) rfl D_m_next_15 ?_
      refine z_iconst D_m_next_18 ?_
      refine z_iadd D_m_next_19 ?_
      refine z_putI fl_m_79 (rfl) rfl rfl D_m_next_20 ?_
      refine z_goto (tgt := 0) D_m_next_23 (by decide) ?_
      have q10 := hiq.mp q10
      refine ih (i + 1) _ (by omega) (by omega) (by omega) (hK.put (by omega)) (by rw [zup_same, e2]) ?_
      rw [← hE]; exact (spE_y q10.1 (bS_t.mpr q10.2)).symm
theorem c_m_next {h : zH}  (hT : TM h) (hc : 0 ≤ h 39 16 ∧ h 39 16 ≤ h 39 15) : zC M_m_next [vR 39] h (fun v h2 => v = none ∧ RM h h2 (tm h) (h 39 15) (h 39 16)) := by
  refine zC.ofN 1 (by decide) (by first | decide | exact Nat.le_of_ble_eq_true rfl) ?_
  show Z M_m_next _ 0 [vR 39, vU] [] h
  have hL := hT.1
  exact l_m_next hT hc (152 : Nat) (h 39 16) h (by omega) (by omega) (by omega) TKM.rfl' rfl rfl

