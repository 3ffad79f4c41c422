/-! seats of the other side -/
theorem c_m_has {h : zH} {T : Nat} {k : Int} (hT : T < 2 ^ 31) (hk : 0 ≤ k ∧ k < 31) : zC M_m_has [vI (T : Int), vI k] h (pV (vI (zb (T.testBit k.toNat = true))) h) := by
  refine zC.ofN 0 (by decide) (by first | decide | exact Nat.le_of_ble_eq_true rfl) ?_
  show Z M_m_has _ 0 [vI (T : Int), vI k] [] h
  refine z_iload_n D_m_has_0 rfl ?_
  refine z_iload_n D_m_has_1 rfl ?_
  refine z_ishr D_m_has_2 T k.toNat rfl (by omega) hT (by omega) ?_
  refine z_iconst D_m_has_3 ?_
  refine z_iand1 D_m_has_4 hT ?_
  refine z_iconst D_m_has_5 ?_
  refine z_icmp_ne (tgt := 13) D_m_has_6 (by decide) (by omega) (by omega) (fun q6 => ?_) (fun q6 => ?_)
  · refine z_iconst D_m_has_13 ?_
    exact z_zreturn rfl (by first | exact Or.inl rfl | exact Or.inr rfl | exact zb_01 _) D_m_has_14 (pvI (by first | exact (zb_t (tb_iff.mp (by omega))).symm | exact (zb_f (fun q => absurd (tb_iff.mpr q) (by omega))).symm) rfl)
  · refine z_iconst D_m_has_9 ?_
    refine z_goto (tgt := 14) D_m_has_10 (by decide) ?_
    exact z_zreturn rfl (by first | exact Or.inl rfl | exact Or.inr rfl | exact zb_01 _) D_m_has_14 (pvI (by first | exact (zb_t (tb_iff.mp (by omega))).symm | exact (zb_f (fun q => absurd (tb_iff.mpr q) (by omega))).symm) rfl)

def stM (f Wt : Int → Int) (n p : Int) (s : zSt) : zSt := (if rS f Wt n p s = -9 then s.1 else dec s.1 (f (rS f Wt n p s)), dec s.2.1 (Wt p), if rS f Wt n p s = -9 then s.2.2.1 else s.2.2.1 ||| 2 ^ (rS f Wt n p s).toNat, if rS f Wt n p s = -9 then s.2.2.2.1 else s.2.2.2.1 - zb (f (rS f Wt n p s) = Wt p), fun j => if j = p then rS f Wt n p s else s.2.2.2.2 j)
def seM (f Wt : Int → Int) (n np : Int) (m : Nat) : zSt := iter (stM f Wt n) (st0 f Wt n np) m
theorem seM_1 {f Wt : Int → Int} {n np i : Int} (h : 0 ≤ i) : seM f Wt n np (i + 1).toNat = stM f Wt n i (seM f Wt n np i.toNat) := iter_1 h
theorem seM_rng {f Wt : Int → Int} {n np : Int} (hn : 0 < n ∧ n ≤ 12) (hnp : 0 ≤ np ∧ np ≤ 6) : ∀ m : Nat, rngS m (seM f Wt n np m)
  | 0 => seX_rng (f := f) (Wt := Wt) hn hnp 0
  | m + 1 => by
    have ih := seM_rng (f := f) (Wt := Wt) hn hnp m
    have e : seM f Wt n np (m + 1) = stM f Wt n m (seM f Wt n np m) := rfl
    rw [e]
    generalize seM f Wt n np m = s at ih ⊢
    have hr := rS_in f Wt n m s (by omega)
    obtain ⟨i1, i2, i3⟩ := ih
    unfold stM
    generalize hR : rS f Wt n m s = r at hr ⊢
    refine ⟨fun c c0 c5 => ⟨?_, ?_⟩, ?_, ?_⟩
    · have := (i1 c c0 c5).1
      dsimp only
      split
      · omega
      · have h2 := dec_in (k := f r) this; omega
    · have h2 := dec_in (k := Wt m) (i1 c c0 c5).2
      dsimp only
      omega
    · dsimp only
      split
      · exact i2
      · exact or_lt12 i2 (by omega)
    · have hz := zb_01 (f r = Wt m)
      dsimp only
      split <;> omega
def SP (h h1 : zH) (F Wn sf : Int → Int) (p st : Int) : Prop := (∀ a, a < 51 → h1 a = h a) ∧ (∀ c : Int, 0 ≤ c → c ≤ 5 → h1 52 c.toNat = Wn c) ∧ (∀ c : Int, 0 ≤ c → c ≤ 5 → h1 53 c.toNat = F c) ∧ (∀ j : Int, 0 ≤ j → j < p → h1 54 j.toNat = sf j) ∧ h1 54 p.toNat = st
theorem SP.free {h h1 : zH} {F Wn sf : Int → Int} {p st k x : Int} (hs : SP h h1 F Wn sf p st) (hk : 0 ≤ k ∧ k ≤ 5) {G : Int → Int} (hG : ∀ c : Int, 0 ≤ c → c ≤ 5 → G c = if c = k then x else F c) : SP h (zup h1 53 k.toNat x) G Wn sf p st := by
  obtain ⟨a1, a2, a3, a4, a5⟩ := hs
  refine ⟨fun a ha => ?_, fun c c0 c5 => ?_, fun c c0 c5 => ?_, fun j j0 j1 => ?_, ?_⟩
  · funext j; rw [zup_ne (by omega), a1 a ha]
  · rw [zup_ne (by decide), a2 c c0 c5]
  · rw [hG c c0 c5]
    by_cases hc : c = k
    · rw [if_pos hc, hc, zup_same]
    · rw [if_neg hc, zup_nk (by omega), a3 c c0 c5]
  · rw [zup_ne (by decide), a4 j j0 j1]
  · rw [zup_ne (by decide), a5]
theorem SP.stand {h h1 : zH} {F Wn sf : Int → Int} {p st x : Int} (hs : SP h h1 F Wn sf p st) (hp : 0 ≤ p) : SP h (zup h1 54 p.toNat x) F Wn sf p x := by
  obtain ⟨a1, a2, a3, a4, a5⟩ := hs
  refine ⟨fun a ha => ?_, fun c c0 c5 => ?_, fun c c0 c5 => ?_, fun j j0 j1 => ?_, ?_⟩
  · funext j; rw [zup_ne (by omega), a1 a ha]
  · rw [zup_ne (by decide), a2 c c0 c5]
  · rw [zup_ne (by decide), a3 c c0 c5]
  · rw [zup_nk (by omega), a4 j j0 j1]
  · rw [zup_same]
theorem l_m_sits_in {h : zH} {T : Nat} {v L p B0 : Int} {F Wn sf : Int → Int} {post : Option zV → zH → Prop} {n0 : Nat} (hm : MI h) (hp : 0 ≤ p ∧ p < h 39 4) (hv : 1 ≤ v ∧ v ≤ 60) (hT : T < 4096) (hL : -1000 ≤ L ∧ L ≤ 1000) (hF : ∀ c, 0 ≤ c → c ≤ 5 → -20 ≤ F c ∧ F c ≤ 20) (hW : ∀ c, 0 ≤ c → c ≤ 5 → -20 ≤ Wn c ∧ Wn c ≤ 20) (r : Int)
    (K : ∀ h2 y6 y7 y8 y9, SP h h2 (if r = -9 then F else dec F (gm h r v)) Wn sf p r → Z M_m_sits post 303 [vR 39, vI v, vI (((if r = -9 then T else T ||| 2 ^ r.toNat : Nat)) : Int), vI B0, vI (if r = -9 then L else L - zb (gm h r v = wm h p)), vI p, y6, y7, y8, y9] [] h2) : ∀ (k : Nat) (i : Int) (h1 : zH) (y7 y8 y9 : zV), 0 ≤ i → i + k = h 39 0 → SP h h1 F Wn sf p (-9) → lstU (prS F Wn T L (wm h p) (fun s => gm h s v)) (-9) k i = r → Z M_m_sits post 140 [vR 39, vI v, vI (T : Int), vI B0, vI L, vI p, vI i, y7, y8, y9] [] h1 := by
  have hn := hm.hn
  have hnp := hm.hnp
  have hwp := hm.hW hp.1 hp.2
  intro k
  induction k with
  | zero =>
    intro i h1 y7 y8 y9 h0 h2 hS hr
    have ew : h1 39 = h 39 := hS.1 39 (by omega)
    have hr : r = -9 := hr.symm
    subst hr
    refine z_iload D_m_sits_140 rfl ?_
    refine z_aload_n D_m_sits_142 rfl ?_
    refine z_getI fl_m_73 (rfl) rfl D_m_sits_143 ?_
    refine z_icmp_ge (tgt := 303) D_m_sits_146 (by decide) (by omega) (by rw [ew]; omega) (fun q146 => ?_) (fun q146 => ?_)
    · exact K h1 _ _ _ _ hS
    · exfalso
      rw [ew] at q146
      omega
  | succ k ih =>
    intro i h1 y7 y8 y9 h0 h2 hS hr
    have ew : h1 39 = h 39 := hS.1 39 (by omega)
    have ewt : h1 41 = h 41 := hS.1 41 (by omega)
    have hg := gm_in hm i v
    have hS5 := hS.2.2.2.2
    have hFk := hF _ hg.1 hg.2
    have hS3 := hS.2.2.1 _ hg.1 hg.2
    have hSd : SP h (zup h1 53 (gm h i v).toNat (h1 53 (gm h i v).toNat - 1)) (dec F (gm h i v)) Wn sf p (-9) := hS.free hg (fun c c0 c5 => by
      unfold dec
      by_cases hc : c = gm h i v
      · rw [if_pos hc, if_pos hc, hc, hS3]
      · rw [if_neg hc, if_neg hc])
    generalize hh2 : zup h1 53 (gm h i v).toNat (h1 53 (gm h i v).toNat - 1) = h2' at hSd
    have hms : sumF (fun c => min (h2' 53 c.toNat) (h2' 52 c.toNat)) 6 = mS (dec F (gm h i v)) Wn := sumF_congr (fun j j0 j6 => by rw [hSd.2.2.1 j j0 (by omega), hSd.2.1 j j0 (by omega)])
    have hmi := mS_in (F := dec F (gm h i v)) (W := Wn) (fun c c0 c5 => by have := hF c c0 c5; unfold dec; split <;> omega) (fun c c0 c5 => by have := hW c c0 c5; omega)
    have hr2 : ∀ c : Int, 0 ≤ c → c ≤ 5 → (-100 ≤ h2' 53 c.toNat ∧ h2' 53 c.toNat ≤ 100) ∧ (-100 ≤ h2' 52 c.toNat ∧ h2' 52 c.toNat ≤ 100) := by
      intro c c0 c5
      have a := hF c c0 c5
      have b := hW c c0 c5
      rw [hSd.2.2.1 c c0 c5, hSd.2.1 c c0 c5]
      unfold dec
      split <;> omega
    have ewt2 : h2' 41 = h 41 := hSd.1 41 (by omega)
    have hdk : h2' 53 (gm h i v).toNat = F (gm h i v) - 1 := by rw [hSd.2.2.1 _ hg.1 hg.2]; unfold dec; rw [if_pos rfl]
    have hz := zb_01 (gm h i v = wm h p)
    refine z_iload D_m_sits_140 rfl ?_
    refine z_aload_n D_m_sits_142 rfl ?_
    refine z_getI fl_m_73 (rfl) rfl D_m_sits_143 ?_
    refine z_icmp_ge (tgt := 303) D_m_sits_146 (by decide) (by omega) (by rw [ew]; omega) (fun q146 => ?_) (fun q146 => ?_)
    · exfalso
      first
      | (rw [ew] at q146; omega)
      | (rw [hS5] at q156; omega)
    · refine z_aload_n D_m_sits_149 rfl ?_
      refine z_getR (q := 54) fl_m_60 (rfl) rfl (rfl) D_m_sits_150 ?_
      refine z_iload D_m_sits_153 rfl ?_
      refine z_iald (n := 6) (rfl) (by omega) D_m_sits_155 ?_
      refine z_if_ge (tgt := 303) D_m_sits_156 (by decide) (by omega) (fun q156 => ?_) (fun q156 => ?_)
      · exfalso
        first
        | (rw [ew] at q146; omega)
        | (rw [hS5] at q156; omega)
      · refine z_aload_n D_m_sits_159 rfl ?_
        refine z_iload D_m_sits_160 rfl ?_
        refine z_iload_n D_m_sits_162 rfl ?_
        refine z_V2 (c0 := 12) (c_m_shadeOfE hm hS.1 ⟨h0, by omega⟩ (by omega)) G_m_shadeOf I_m_shadeOf lk_m_197 (rfl) ⟨by decide, rfl⟩ ⟨Nat.le_of_ble_eq_true rfl, Nat.le_of_ble_eq_true rfl⟩ (Nat.le_of_ble_eq_true rfl) D_m_sits_163 ?_
        refine z_istore_7 D_m_sits_166 (Nat.le_of_ble_eq_true rfl) rfl ?_
        refine z_iload_n D_m_sits_168 rfl ?_
        refine z_iload D_m_sits_169 rfl ?_
        refine z_S2 (c_m_has (by omega) (by omega)) G_m_has S_m_has lk_m_187 ⟨Nat.le_of_ble_eq_true rfl, Nat.le_of_ble_eq_true rfl⟩ (Nat.le_of_ble_eq_true rfl) D_m_sits_171 ?_
        refine z_ifneB (tgt := 297) D_m_sits_174 (by decide) (fun q174 => ?_) (fun q174 => ?_)
        · refine z_iinc_6 D_m_sits_297 (Nat.le_of_ble_eq_true rfl) rfl ?_
          refine z_goto (tgt := 140) D_m_sits_300 (by decide) ?_
          have e : (prS F Wn T L (wm h p) (fun s => gm h s v)) i = false := by
            unfold prS
            rw [q174]
            rfl
          rw [lstU, e] at hr
          exact ih (i + 1) h1 _ _ _ (by omega) (by omega) hS hr
        · refine z_aload_n D_m_sits_177 rfl ?_
          refine z_getR (q := 53) fl_m_57 (rfl) rfl (rfl) D_m_sits_178 ?_
          refine z_iload D_m_sits_181 rfl ?_
          refine z_dup2 rfl rfl D_m_sits_183 ?_
          refine z_iald (n := 6) (rfl) (by omega) D_m_sits_184 ?_
          refine z_iconst D_m_sits_185 ?_
          refine z_isub D_m_sits_186 ?_
          refine z_iast (n := 6) (rfl) (by omega) D_m_sits_187 ?_
          rw [hh2]
          refine z_iload D_m_sits_188 rfl ?_
          refine z_aload_n D_m_sits_190 rfl ?_
          refine z_getR (q := 41) fl_m_20 (rfl) rfl (rfl) D_m_sits_191 ?_
          refine z_iload D_m_sits_194 rfl ?_
          refine z_iald (n := 6) (rfl) (by omega) D_m_sits_196 ?_
          refine z_icmp_ne (tgt := 204) D_m_sits_197 (by decide) (by omega) (by rw [ewt2]; unfold wm at hwp; omega) (fun q197 => ?_) (fun q197 => ?_)
          · rw [ewt2] at q197
            have q197 : ¬ gm h i v = wm h p := q197
            refine z_iconst D_m_sits_204 ?_
            refine z_istore_8 D_m_sits_205 (Nat.le_of_ble_eq_true rfl) rfl ?_
            refine z_iload D_m_sits_207 rfl ?_
            refine z_aload_n D_m_sits_209 rfl ?_
            refine z_V0 (c0 := 12) (c_m_mostYet hr2) G_m_mostYet I_m_mostYet lk_m_206 (rfl) ⟨by decide, rfl⟩ ⟨Nat.le_of_ble_eq_true rfl, Nat.le_of_ble_eq_true rfl⟩ (Nat.le_of_ble_eq_true rfl) D_m_sits_210 ?_
            refine z_iadd D_m_sits_213 ?_
            refine z_iload D_m_sits_214 rfl ?_
            refine z_icmp_ne (tgt := 223) D_m_sits_216 (by decide) (by rw [hms]; omega) (by omega) (fun q216 => ?_) (fun q216 => ?_)
            · refine z_iconst D_m_sits_223 ?_
              refine z_istore_9 D_m_sits_224 (Nat.le_of_ble_eq_true rfl) rfl ?_
              refine z_aload_n D_m_sits_226 rfl ?_
              refine z_getR (q := 54) fl_m_60 (rfl) rfl (rfl) D_m_sits_227 ?_
              refine z_iload D_m_sits_230 rfl ?_
              refine z_iload D_m_sits_232 rfl ?_
              refine z_if_eq (tgt := 242) D_m_sits_234 (by decide) (by decide) (fun _ => ?_) (fun q => absurd q (by decide))
              refine z_bipush (by decide) D_m_sits_242 ?_
              refine z_iast (n := 6) (rfl) (by omega) D_m_sits_244 ?_
              refine z_aload_n D_m_sits_245 rfl ?_
              refine z_getR (q := 53) fl_m_57 (rfl) rfl (rfl) D_m_sits_246 ?_
              refine z_iload D_m_sits_249 rfl ?_
              refine z_dup2 rfl rfl D_m_sits_251 ?_
              refine z_iald (n := 6) (rfl) (by omega) D_m_sits_252 ?_
              refine z_iload D_m_sits_253 rfl ?_
              refine z_if_eq (tgt := 262) D_m_sits_255 (by decide) (by decide) (fun _ => ?_) (fun q => absurd q (by decide))
              refine z_iconst D_m_sits_262 ?_
              refine z_iadd D_m_sits_263 ?_
              refine z_iast (n := 6) (rfl) (by omega) D_m_sits_264 ?_
              refine z_iload D_m_sits_265 rfl ?_
              refine z_iload D_m_sits_267 rfl ?_
              refine z_if_eq (tgt := 277) D_m_sits_269 (by decide) (by decide) (fun _ => ?_) (fun q => absurd q (by decide))
              refine z_iconst D_m_sits_277 ?_
              refine z_isub D_m_sits_278 ?_
              refine z_istore_4 D_m_sits_279 (Nat.le_of_ble_eq_true rfl) rfl ?_
              refine z_iload_n D_m_sits_281 rfl ?_
              refine z_iload D_m_sits_282 rfl ?_
              refine z_if_eq (tgt := 294) D_m_sits_284 (by decide) (by decide) (fun _ => ?_) (fun q => absurd q (by decide))
              refine z_iconst D_m_sits_294 ?_
              refine z_ior D_m_sits_295 T 0 rfl rfl ?_
              refine z_istore_2 D_m_sits_296 (Nat.le_of_ble_eq_true rfl) rfl ?_
              refine z_iinc_6 D_m_sits_297 (Nat.le_of_ble_eq_true rfl) rfl ?_
              refine z_goto (tgt := 140) D_m_sits_300 (by decide) ?_
              have e : (prS F Wn T L (wm h p) (fun s => gm h s v)) i = false := by
                unfold prS
                rw [beq_eq_false_iff_ne.mpr (by rw [zb_f q197]; rw [hms] at q216; exact q216)]
                exact Bool.and_false _
              rw [lstU, e] at hr
              rw [Int.sub_zero, Nat.or_zero]
              refine ih (i + 1) _ _ _ _ (by omega) (by omega) ((hSd.stand (x := -9) hp.1).free hg (fun c c0 c5 => ?_)) hr
              by_cases hc : c = gm h i v
              · rw [if_pos hc, hc, zup_ne (by decide), hdk]; omega
              · rw [if_neg hc]; unfold dec; rw [if_neg hc]
            · refine z_iconst D_m_sits_219 ?_
              refine z_goto (tgt := 224) D_m_sits_220 (by decide) ?_
              refine z_istore_9 D_m_sits_224 (Nat.le_of_ble_eq_true rfl) rfl ?_
              refine z_aload_n D_m_sits_226 rfl ?_
              refine z_getR (q := 54) fl_m_60 (rfl) rfl (rfl) D_m_sits_227 ?_
              refine z_iload D_m_sits_230 rfl ?_
              refine z_iload D_m_sits_232 rfl ?_
              refine z_if_eq (tgt := 242) D_m_sits_234 (by decide) (by decide) (fun q => absurd q (by decide)) (fun _ => ?_)
              refine z_iload D_m_sits_237 rfl ?_
              refine z_goto (tgt := 244) D_m_sits_239 (by decide) ?_
              refine z_iast (n := 6) (rfl) (by omega) D_m_sits_244 ?_
              refine z_aload_n D_m_sits_245 rfl ?_
              refine z_getR (q := 53) fl_m_57 (rfl) rfl (rfl) D_m_sits_246 ?_
              refine z_iload D_m_sits_249 rfl ?_
              refine z_dup2 rfl rfl D_m_sits_251 ?_
              refine z_iald (n := 6) (rfl) (by omega) D_m_sits_252 ?_
              refine z_iload D_m_sits_253 rfl ?_
              refine z_if_eq (tgt := 262) D_m_sits_255 (by decide) (by decide) (fun q => absurd q (by decide)) (fun _ => ?_)
              refine z_iconst D_m_sits_258 ?_
              refine z_goto (tgt := 263) D_m_sits_259 (by decide) ?_
              refine z_iadd D_m_sits_263 ?_
              refine z_iast (n := 6) (rfl) (by omega) D_m_sits_264 ?_
              refine z_iload D_m_sits_265 rfl ?_
              refine z_iload D_m_sits_267 rfl ?_
              refine z_if_eq (tgt := 277) D_m_sits_269 (by decide) (by decide) (fun q => absurd q (by decide)) (fun _ => ?_)
              refine z_iload D_m_sits_272 rfl ?_
              refine z_goto (tgt := 278) D_m_sits_274 (by decide) ?_
              refine z_isub D_m_sits_278 ?_
              refine z_istore_4 D_m_sits_279 (Nat.le_of_ble_eq_true rfl) rfl ?_
              refine z_iload_n D_m_sits_281 rfl ?_
              refine z_iload D_m_sits_282 rfl ?_
              refine z_if_eq (tgt := 294) D_m_sits_284 (by decide) (by decide) (fun q => absurd q (by decide)) (fun _ => ?_)
              refine z_iconst D_m_sits_287 ?_
              refine z_iload D_m_sits_288 rfl ?_
              refine z_ishl D_m_sits_290 i.toNat rfl (by omega) (by omega) ?_
              refine z_goto (tgt := 295) D_m_sits_291 (by decide) ?_
              refine z_ior D_m_sits_295 T _ rfl rfl ?_
              refine z_istore_2 D_m_sits_296 (Nat.le_of_ble_eq_true rfl) rfl ?_
              refine z_iinc_6 D_m_sits_297 (Nat.le_of_ble_eq_true rfl) rfl ?_
              refine z_goto (tgt := 140) D_m_sits_300 (by decide) ?_
              have e : (prS F Wn T L (wm h p) (fun s => gm h s v)) i = true := by
                have tb : T.testBit i.toNat = false := by simpa using q174
                unfold prS
                rw [tb, beq_iff_eq.mpr (by rw [zb_f q197]; rw [hms] at q216; exact q216)]
                rfl
              rw [lstU, e] at hr
              have hr : i = r := hr
              subst hr
              have hSf := (hSd.stand (x := i) hp.1).free (k := gm h i v) (x := zup h2' 54 p.toNat i 53 (gm h i v).toNat + 0) (G := dec F (gm h i v)) hg (fun c c0 c5 => by
                by_cases hc : c = gm h i v
                · rw [if_pos hc, hc, zup_ne (by decide), Int.add_zero, hSd.2.2.1 _ hg.1 hg.2]
                · rw [if_neg hc])
              have q := fun y6 y7 y8 y9 => K _ y6 y7 y8 y9 (by rw [if_neg (by omega)]; exact hSf)
              rw [if_neg (by omega), if_neg (by omega), zb_f q197] at q
              refine z_iload D_m_sits_140 rfl ?_
              refine z_aload_n D_m_sits_142 rfl ?_
              refine z_getI fl_m_73 (rfl) rfl D_m_sits_143 ?_
              refine z_icmp_ge (tgt := 303) D_m_sits_146 (by decide) (by omega) (by rw [hSf.1 39 (by omega)]; omega) (fun q146 => ?_) (fun q146 => ?_)
              · exact q _ _ _ _
              · refine z_aload_n D_m_sits_149 rfl ?_
                refine z_getR (q := 54) fl_m_60 (rfl) rfl (rfl) D_m_sits_150 ?_
                refine z_iload D_m_sits_153 rfl ?_
                refine z_iald (n := 6) (rfl) (by omega) D_m_sits_155 ?_
                refine z_if_ge (tgt := 303) D_m_sits_156 (by decide) (by rw [hSf.2.2.2.2]; omega) (fun q156 => ?_) (fun q156 => ?_)
                · exact q _ _ _ _
                · exfalso
                  rw [hSf.2.2.2.2] at q156
                  omega
          · rw [ewt2] at q197
            have q197 : gm h i v = wm h p := q197
            refine z_iconst D_m_sits_200 ?_
            refine z_goto (tgt := 205) D_m_sits_201 (by decide) ?_
            refine z_istore_8 D_m_sits_205 (Nat.le_of_ble_eq_true rfl) rfl ?_
            refine z_iload D_m_sits_207 rfl ?_
            refine z_aload_n D_m_sits_209 rfl ?_
            refine z_V0 (c0 := 12) (c_m_mostYet hr2) G_m_mostYet I_m_mostYet lk_m_206 (rfl) ⟨by decide, rfl⟩ ⟨Nat.le_of_ble_eq_true rfl, Nat.le_of_ble_eq_true rfl⟩ (Nat.le_of_ble_eq_true rfl) D_m_sits_210 ?_
            refine z_iadd D_m_sits_213 ?_
            refine z_iload D_m_sits_214 rfl ?_
            refine z_icmp_ne (tgt := 223) D_m_sits_216 (by decide) (by rw [hms]; omega) (by omega) (fun q216 => ?_) (fun q216 => ?_)
            · refine z_iconst D_m_sits_223 ?_
              refine z_istore_9 D_m_sits_224 (Nat.le_of_ble_eq_true rfl) rfl ?_
              refine z_aload_n D_m_sits_226 rfl ?_
              refine z_getR (q := 54) fl_m_60 (rfl) rfl (rfl) D_m_sits_227 ?_
              refine z_iload D_m_sits_230 rfl ?_
              refine z_iload D_m_sits_232 rfl ?_
              refine z_if_eq (tgt := 242) D_m_sits_234 (by decide) (by decide) (fun _ => ?_) (fun q => absurd q (by decide))
              refine z_bipush (by decide) D_m_sits_242 ?_
              refine z_iast (n := 6) (rfl) (by omega) D_m_sits_244 ?_
              refine z_aload_n D_m_sits_245 rfl ?_
              refine z_getR (q := 53) fl_m_57 (rfl) rfl (rfl) D_m_sits_246 ?_
              refine z_iload D_m_sits_249 rfl ?_
              refine z_dup2 rfl rfl D_m_sits_251 ?_
              refine z_iald (n := 6) (rfl) (by omega) D_m_sits_252 ?_
              refine z_iload D_m_sits_253 rfl ?_
              refine z_if_eq (tgt := 262) D_m_sits_255 (by decide) (by decide) (fun _ => ?_) (fun q => absurd q (by decide))
              refine z_iconst D_m_sits_262 ?_
              refine z_iadd D_m_sits_263 ?_
              refine z_iast (n := 6) (rfl) (by omega) D_m_sits_264 ?_
              refine z_iload D_m_sits_265 rfl ?_
              refine z_iload D_m_sits_267 rfl ?_
              refine z_if_eq (tgt := 277) D_m_sits_269 (by decide) (by decide) (fun _ => ?_) (fun q => absurd q (by decide))
              refine z_iconst D_m_sits_277 ?_
              refine z_isub D_m_sits_278 ?_
              refine z_istore_4 D_m_sits_279 (Nat.le_of_ble_eq_true rfl) rfl ?_
              refine z_iload_n D_m_sits_281 rfl ?_
              refine z_iload D_m_sits_282 rfl ?_
              refine z_if_eq (tgt := 294) D_m_sits_284 (by decide) (by decide) (fun _ => ?_) (fun q => absurd q (by decide))
              refine z_iconst D_m_sits_294 ?_
              refine z_ior D_m_sits_295 T 0 rfl rfl ?_
              refine z_istore_2 D_m_sits_296 (Nat.le_of_ble_eq_true rfl) rfl ?_
              refine z_iinc_6 D_m_sits_297 (Nat.le_of_ble_eq_true rfl) rfl ?_
              refine z_goto (tgt := 140) D_m_sits_300 (by decide) ?_
              have e : (prS F Wn T L (wm h p) (fun s => gm h s v)) i = false := by
                unfold prS
                rw [beq_eq_false_iff_ne.mpr (by rw [zb_t q197]; rw [hms] at q216; exact q216)]
                exact Bool.and_false _
              rw [lstU, e] at hr
              rw [Int.sub_zero, Nat.or_zero]
              refine ih (i + 1) _ _ _ _ (by omega) (by omega) ((hSd.stand (x := -9) hp.1).free hg (fun c c0 c5 => ?_)) hr
              by_cases hc : c = gm h i v
              · rw [if_pos hc, hc, zup_ne (by decide), hdk]; omega
              · rw [if_neg hc]; unfold dec; rw [if_neg hc]
            · refine z_iconst D_m_sits_219 ?_
              refine z_goto (tgt := 224) D_m_sits_220 (by decide) ?_
              refine z_istore_9 D_m_sits_224 (Nat.le_of_ble_eq_true rfl) rfl ?_
              refine z_aload_n D_m_sits_226 rfl ?_
              refine z_getR (q := 54) fl_m_60 (rfl) rfl (rfl) D_m_sits_227 ?_
              refine z_iload D_m_sits_230 rfl ?_
              refine z_iload D_m_sits_232 rfl ?_
              refine z_if_eq (tgt := 242) D_m_sits_234 (by decide) (by decide) (fun q => absurd q (by decide)) (fun _ => ?_)
              refine z_iload D_m_sits_237 rfl ?_
              refine z_goto (tgt := 244) D_m_sits_239 (by decide) ?_
              refine z_iast (n := 6) (rfl) (by omega) D_m_sits_244 ?_
              refine z_aload_n D_m_sits_245 rfl ?_
              refine z_getR (q := 53) fl_m_57 (rfl) rfl (rfl) D_m_sits_246 ?_
              refine z_iload D_m_sits_249 rfl ?_
              refine z_dup2 rfl rfl D_m_sits_251 ?_
              refine z_iald (n := 6) (rfl) (by omega) D_m_sits_252 ?_
              refine z_iload D_m_sits_253 rfl ?_
              refine z_if_eq (tgt := 262) D_m_sits_255 (by decide) (by decide) (fun q => absurd q (by decide)) (fun _ => ?_)
              refine z_iconst D_m_sits_258 ?_
              refine z_goto (tgt := 263) D_m_sits_259 (by decide) ?_
              refine z_iadd D_m_sits_263 ?_
              refine z_iast (n := 6) (rfl) (by omega) D_m_sits_264 ?_
              refine z_iload D_m_sits_265 rfl ?_
              refine z_iload D_m_sits_267 rfl ?_
              refine z_if_eq (tgt := 277) D_m_sits_269 (by decide) (by decide) (fun q => absurd q (by decide)) (fun _ => ?_)
              refine z_iload D_m_sits_272 rfl ?_
              refine z_goto (tgt := 278) D_m_sits_274 (by decide) ?_
              refine z_isub D_m_sits_278 ?_
              refine z_istore_4 D_m_sits_279 (Nat.le_of_ble_eq_true rfl) rfl ?_
              refine z_iload_n D_m_sits_281 rfl ?_
              refine z_iload D_m_sits_282 rfl ?_
              refine z_if_eq (tgt := 294) D_m_sits_284 (by decide) (by decide) (fun q => absurd q (by decide)) (fun _ => ?_)
              refine z_iconst D_m_sits_287 ?_
              refine z_iload D_m_sits_288 rfl ?_
              refine z_ishl D_m_sits_290 i.toNat rfl (by omega) (by omega) ?_
              refine z_goto (tgt := 295) D_m_sits_291 (by decide) ?_
              refine z_ior D_m_sits_295 T _ rfl rfl ?_
              refine z_istore_2 D_m_sits_296 (Nat.le_of_ble_eq_true rfl) rfl ?_
              refine z_iinc_6 D_m_sits_297 (Nat.le_of_ble_eq_true rfl) rfl ?_
              refine z_goto (tgt := 140) D_m_sits_300 (by decide) ?_
              have e : (prS F Wn T L (wm h p) (fun s => gm h s v)) i = true := by
                have tb : T.testBit i.toNat = false := by simpa using q174
                unfold prS
                rw [tb, beq_iff_eq.mpr (by rw [zb_t q197]; rw [hms] at q216; exact q216)]
                rfl
              rw [lstU, e] at hr
              have hr : i = r := hr
              subst hr
              have hSf := (hSd.stand (x := i) hp.1).free (k := gm h i v) (x := zup h2' 54 p.toNat i 53 (gm h i v).toNat + 0) (G := dec F (gm h i v)) hg (fun c c0 c5 => by
                by_cases hc : c = gm h i v
                · rw [if_pos hc, hc, zup_ne (by decide), Int.add_zero, hSd.2.2.1 _ hg.1 hg.2]
                · rw [if_neg hc])
              have q := fun y6 y7 y8 y9 => K _ y6 y7 y8 y9 (by rw [if_neg (by omega)]; exact hSf)
              rw [if_neg (by omega), if_neg (by omega), zb_t q197] at q
              refine z_iload D_m_sits_140 rfl ?_
              refine z_aload_n D_m_sits_142 rfl ?_
              refine z_getI fl_m_73 (rfl) rfl D_m_sits_143 ?_
              refine z_icmp_ge (tgt := 303) D_m_sits_146 (by decide) (by omega) (by rw [hSf.1 39 (by omega)]; omega) (fun q146 => ?_) (fun q146 => ?_)
              · exact q _ _ _ _
              · refine z_aload_n D_m_sits_149 rfl ?_
                refine z_getR (q := 54) fl_m_60 (rfl) rfl (rfl) D_m_sits_150 ?_
                refine z_iload D_m_sits_153 rfl ?_
                refine z_iald (n := 6) (rfl) (by omega) D_m_sits_155 ?_
                refine z_if_ge (tgt := 303) D_m_sits_156 (by decide) (by rw [hSf.2.2.2.2]; omega) (fun q156 => ?_) (fun q156 => ?_)
                · exact q _ _ _ _
                · exfalso
                  rw [hSf.2.2.2.2] at q156
                  omega
