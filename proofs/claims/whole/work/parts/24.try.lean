theorem Z.weak {M : zM} {p1 p2 : Option zV → zH → Prop} {pc : Nat} {lv st : List zV} {h : zH} (k : Z M p1 pc lv st h) (hw : ∀ v h1, p1 v h1 → p2 v h1) : Z M p2 pc lv st h := by
  intro p l e s m args below meth c D r ca B H locs ls P L T hT X
  obtain ⟨t, g1, o, g2, g3, ⟨v, hh, gp, gr⟩, gL⟩ := k p l e s m args below meth c D r ca B H locs ls P L T hT X
  exact ⟨t, g1, o, g2, g3, ⟨v, hh, hw v hh gp, gr⟩, gL⟩
/-! which speed to try -/
def cnL (s : Int → Int) (c : Int) : List Int → Int
  | [] => 0
  | y :: l => zb (s y = c) + cnL s c l
theorem cnL_app (s : Int → Int) (c : Int) : ∀ (l : List Int) (y : Int), cnL s c (l ++ [y]) = cnL s c l + zb (s y = c)
  | [], y => by simp [cnL]
  | z :: l, y => by
    show zb (s z = c) + cnL s c (l ++ [y]) = zb (s z = c) + cnL s c l + zb (s y = c)
    rw [cnL_app s c l y]; omega
theorem cnL_in (s : Int → Int) (c : Int) : ∀ l : List Int, 0 ≤ cnL s c l ∧ cnL s c l ≤ l.length
  | [] => by simp [cnL]
  | y :: l => by
    have := cnL_in s c l
    have h2 := zb_01 (s y = c)
    simp only [cnL, List.length_cons]
    omega
def mstP (s : Int → Int) (l : List Int) : Nat → Int
  | 0 => 0
  | i + 1 => max (mstP s l i) (cnL s (s (l.getD i 0)) (l.take (i + 1)))
theorem mstP_in (s : Int → Int) (l : List Int) : ∀ i : Nat, 0 ≤ mstP s l i ∧ mstP s l i ≤ l.length
  | 0 => by simp [mstP]
  | i + 1 => by
    have := mstP_in s l i
    have h2 := cnL_in s (s (l.getD i 0)) (l.take (i + 1))
    have h3 : (l.take (i + 1)).length ≤ l.length := by rw [List.length_take]; omega
    simp only [mstP]
    omega
theorem take_1 {l : List Int} {i : Nat} (h : i < l.length) : l.take (i + 1) = l.take i ++ [l.getD i 0] := by
  rw [List.take_succ]
  simp [List.getD_eq_getElem?_getD, h]
theorem cnL_arr {s : Int → Int} {l : List Int} {y x : Int} {h1 : zH} {A : Nat} {B : Int} (hs : 0 ≤ s y ∧ s y ≤ B) (hx : x = 1) (hA : ∀ c, 0 ≤ c → c ≤ B → h1 A c.toNat = cnL s c l) : ∀ c, 0 ≤ c → c ≤ B → zup h1 A (s y).toNat (h1 A (s y).toNat + x) A c.toNat = cnL s c (l ++ [y]) := by
  intro c h0 hB
  rw [cnL_app]
  by_cases hc : c = s y
  · subst hc
    rw [zup_same, hA _ h0 hB, hx, zb_t rfl]
  · rw [zup_nk (by omega), hA c h0 hB, zb_f (fun q => hc q.symm)]
    omega
def sndF (v L : Int) : Int := clk v (L / 10) (L % 10)
theorem sndF_in {v L : Int} (hv : 1 ≤ v ∧ v ≤ 60) (hL : 0 ≤ L ∧ L < 100 ∧ 0 < L % 10) : 0 ≤ sndF v L ∧ sndF v L ≤ 382 := by
  unfold sndF
  exact ⟨(clk_in hv.2 (by omega) (by omega)).1, clk_382 hv (by omega) (by omega)⟩
def stT (M : Int → Int) (i : Int) (s : Int × Int) : Int × Int := if s.1 < 0 ∨ M (i + 1) < s.2 then (i + 1, M (i + 1)) else s
def tnF (M : Int → Int) (m : Nat) : Int × Int := iter (stT M) (-9, 0) m
theorem tnF_1 {M : Int → Int} {v : Int} (h : 1 ≤ v) : tnF M (v + 1 - 1).toNat = if (tnF M (v - 1).toNat).1 < 0 ∨ M v < (tnF M (v - 1).toNat).2 then (v, M v) else tnF M (v - 1).toNat := by
  rw [show (v + 1 - 1).toNat = (v - 1).toNat + 1 by omega]
  simp only [tnF, iter, stT]
  rw [show ((v - 1).toNat : Int) + 1 = v by omega]
  rfl
theorem tnF_in {M : Int → Int} (hM : ∀ v, 0 ≤ M v ∧ M v ≤ 100) (n : Nat) (hn : (n : Int) ≤ 60) : ((tnF M n).1 = -9 ∧ (tnF M n).2 = 0) ∨ (0 ≤ (tnF M n).1 ∧ (tnF M n).1 ≤ 60 ∧ 0 ≤ (tnF M n).2 ∧ (tnF M n).2 ≤ 100) := by
  refine iter_invB (fun s : Int × Int => (s.1 = -9 ∧ s.2 = 0) ∨ (0 ≤ s.1 ∧ s.1 ≤ 60 ∧ 0 ≤ s.2 ∧ s.2 ≤ 100)) 60 (Or.inl ⟨rfl, rfl⟩) (fun i s h0 h1 h2 => ?_) n hn
  have h3 := hM (i + 1)
  unfold stT
  split
  · right; exact ⟨by dsimp only; omega, by dsimp only; omega, h3.1, h3.2⟩
  · exact h2
def pS (x : zV) (h : zH) : Option zV → zH → Prop := fun v h1 => v = some x ∧ ∀ q, q ≠ 34 → h1 q = h q
theorem getD_mem {l : List Int} {j : Nat} (h : j < l.length) : l.getD j 0 ∈ l := by
  rw [List.getD_eq_getElem?_getD, List.getElem?_eq_getElem h]
  exact List.getElem_mem h
theorem l_x_mostOfOneSound {h : zH} {l : List Int} {v : Int} (hl : l.length ≤ 90) (hm : ∀ x ∈ l, 0 ≤ x ∧ x < 100 ∧ 0 < x % 10) (h33 : ∀ j : Nat, j < l.length → h 33 j = l.getD j 0) (hv : 1 ≤ v ∧ v ≤ 60) : ∀ (k : Nat) (i : Int) (h1 : zH) (y5 : zV), 0 ≤ i → i ≤ l.length → l.length - i < k → (∀ q, q ≠ 34 → h1 q = h q) → (∀ c, 0 ≤ c → c ≤ 382 → h1 34 c.toNat = cnL (sndF v) c (l.take i.toNat)) → Z M_x_mostOfOneSound (pS (vI (mstP (sndF v) l l.length)) h) 13 [vR 0, vI v, vI (l.length : Int), vI (mstP (sndF v) l i.toNat), vI i, y5] [] h1 := by
  intro k
  induction k with
  | zero => intro i h1 y5 h0 h2 h3; omega
  | succ k ih =>
    intro i h1 y5 h0 h2 h3 hE hA
    have hmi := mstP_in (sndF v) l i.toNat
    have e33 : i < l.length → h1 33 i.toNat = l.getD i.toNat 0 := fun q => by rw [hE 33 (by omega)]; exact h33 _ (by omega)
    have hL := fun q : i < l.length => hm _ (getD_mem (l := l) (j := i.toNat) (by omega))
    have hS := fun q => sndF_in hv (hL q)
    have hxt : i = l.length → mstP (sndF v) l i.toNat = mstP (sndF v) l l.length := fun e9 => by rw [e9]; rfl
    refine z_iload D_x_mostOfOneSound_13 rfl ?_
    refine z_iload_n D_x_mostOfOneSound_15 rfl ?_
    refine z_icmp_ge (tgt := 96) D_x_mostOfOneSound_16 (by decide) (by omega) (by omega) (fun q16 => ?_) (fun q16 => ?_)
    · refine z_iload_n D_x_mostOfOneSound_96 rfl ?_
      exact z_ireturn rfl D_x_mostOfOneSound_97 (⟨by rw [hxt (by omega)], hE⟩)
    · refine z_iload D_x_mostOfOneSound_19 rfl ?_
      refine z_aload_n D_x_mostOfOneSound_21 rfl ?_
      refine z_getR (q := 33) fl_x_80 (rfl) rfl (rfl) D_x_mostOfOneSound_22 ?_
      refine z_alen (n := 90) (rfl) (by decide) D_x_mostOfOneSound_25 ?_
      refine z_icmp_ge (tgt := 96) D_x_mostOfOneSound_26 (by decide) (by omega) (by omega) (fun q26 => ?_) (fun q26 => ?_)
      · refine z_iload_n D_x_mostOfOneSound_96 rfl ?_
        exact z_ireturn rfl D_x_mostOfOneSound_97 (⟨by rw [hxt (by omega)], hE⟩)
      · have e33 := e33 (by omega)
        have hL := hL (by omega)
        have hS := hS (by omega)
        refine z_iload_n D_x_mostOfOneSound_29 rfl ?_
        refine z_aload_n D_x_mostOfOneSound_30 rfl ?_
        refine z_getR (q := 33) fl_x_80 (rfl) rfl (rfl) D_x_mostOfOneSound_31 ?_
        refine z_iload D_x_mostOfOneSound_34 rfl ?_
        refine z_iald (n := 90) (rfl) (by omega) D_x_mostOfOneSound_36 ?_
        rw [e33]
        refine z_bipush (by decide) D_x_mostOfOneSound_37 ?_
        refine z_idiv D_x_mostOfOneSound_39 (by omega) (by omega) ?_
        refine z_aload_n D_x_mostOfOneSound_40 rfl ?_
        refine z_getR (q := 33) fl_x_80 (rfl) rfl (rfl) D_x_mostOfOneSound_41 ?_
        refine z_iload D_x_mostOfOneSound_44 rfl ?_
        refine z_iald (n := 90) (rfl) (by omega) D_x_mostOfOneSound_46 ?_
        rw [e33]
        refine z_bipush (by decide) D_x_mostOfOneSound_47 ?_
        refine z_irem_p D_x_mostOfOneSound_49 (by omega) (by omega) ?_
        refine z_S3 (c_w_clicksBy (by omega) (by omega) (by omega)) G_w_clicksBy S_w_clicksBy lk_x_314 ⟨Nat.le_of_ble_eq_true rfl, Nat.le_of_ble_eq_true rfl⟩ (Nat.le_of_ble_eq_true rfl) D_x_mostOfOneSound_50 ?_
        show Z _ _ _ _ [vI (sndF v (l.getD i.toNat 0))] _
        refine z_istore_5 D_x_mostOfOneSound_53 (Nat.le_of_ble_eq_true rfl) rfl ?_
        refine z_iload D_x_mostOfOneSound_55 rfl ?_
        refine z_iconst D_x_mostOfOneSound_57 ?_
        refine z_sipush (by decide) D_x_mostOfOneSound_58 ?_
        refine z_S3 (c_x_isWithin (by omega) (by omega) (by omega)) G_x_isWithin S_x_isWithin lk_x_99 ⟨Nat.le_of_ble_eq_true rfl, Nat.le_of_ble_eq_true rfl⟩ (Nat.le_of_ble_eq_true rfl) D_x_mostOfOneSound_61 ?_
        refine z_ifeqB (tgt := 90) D_x_mostOfOneSound_64 (by decide) (fun q64 => ?_) (fun q64 => ?_)
        · exfalso
          exact q64 hS
        · refine z_aload_n D_x_mostOfOneSound_67 rfl ?_
          refine z_getR (q := 34) fl_x_84 (rfl) rfl (rfl) D_x_mostOfOneSound_68 ?_
          refine z_iload D_x_mostOfOneSound_71 rfl ?_
          refine z_dup2 rfl rfl D_x_mostOfOneSound_73 ?_
          refine z_iald (n := 383) (rfl) (by omega) D_x_mostOfOneSound_74 ?_
          refine z_iconst D_x_mostOfOneSound_75 ?_
          refine z_iadd D_x_mostOfOneSound_76 ?_
          refine z_iast (n := 383) (rfl) (by omega) D_x_mostOfOneSound_77 ?_
          refine z_iload_n D_x_mostOfOneSound_78 rfl ?_
          refine z_aload_n D_x_mostOfOneSound_79 rfl ?_
          refine z_getR (q := 34) fl_x_84 (rfl) rfl (rfl) D_x_mostOfOneSound_80 ?_
          refine z_iload D_x_mostOfOneSound_83 rfl ?_
          refine z_iald (n := 383) (rfl) (by omega) D_x_mostOfOneSound_85 ?_
          refine z_S2 (c_j_max (by omega) (by rw [zup_same, hA _ hS.1 hS.2]; have := cnL_in (sndF v) (sndF v (l.getD i.toNat 0)) (l.take i.toNat); have h9 : (l.take i.toNat).length ≤ l.length := (by rw [List.length_take]; omega); omega)) G_j_max S_j_max lk_x_308 ⟨Nat.le_of_ble_eq_true rfl, Nat.le_of_ble_eq_true rfl⟩ (Nat.le_of_ble_eq_true rfl) D_x_mostOfOneSound_86 ?_
          refine z_istore_3 D_x_mostOfOneSound_89 (Nat.le_of_ble_eq_true rfl) rfl ?_
          refine z_iinc_4 D_x_mostOfOneSound_90 (Nat.le_of_ble_eq_true rfl) rfl ?_
          refine z_goto (tgt := 13) D_x_mostOfOneSound_93 (by decide) ?_
          have hcA := cnL_arr (s := sndF v) (y := l.getD i.toNat 0) (x := 1) hS rfl hA
          rw [← take_1 (show i.toNat < l.length by omega), ← tn1 h0] at hcA
          have e : mstP (sndF v) l (i + 1).toNat = max (mstP (sndF v) l i.toNat) (cnL (sndF v) (sndF v (l.getD i.toNat 0)) (l.take (i + 1).toNat)) := by rw [tn1 h0]; rfl
          rw [← hcA _ hS.1 hS.2] at e
          rw [← e]
          exact ih (i + 1) _ _ (by omega) (by omega) (by omega) (fun q hq => by funext j; rw [zup_ne hq, hE q hq]) hcA
theorem c_x_mostOfOneSound {h : zH} {l : List Int} {v : Int} (hl : l.length ≤ 90) (hm : ∀ x ∈ l, 0 ≤ x ∧ x < 100 ∧ 0 < x % 10) (h33 : ∀ j : Nat, j < l.length → h 33 j = l.getD j 0) (hv : 1 ≤ v ∧ v ≤ 60) : zC M_x_mostOfOneSound [vR 0, vI v, vI (l.length : Int)] h (pS (vI (mstP (sndF v) l l.length)) h) := by
  refine zC.ofN 3 (by decide) (by first | decide | exact Nat.le_of_ble_eq_true rfl) ?_
  show Z M_x_mostOfOneSound _ 0 [vR 0, vI v, vI (l.length : Int), vU, vU, vU] [] h
  refine z_aload_n D_x_mostOfOneSound_0 rfl ?_
  refine z_getR (q := 34) fl_x_84 (rfl) rfl (rfl) D_x_mostOfOneSound_1 ?_
  refine z_iconst D_x_mostOfOneSound_4 ?_
  refine z_S2v (c_j_fill (n := 383) rfl (by omega)) G_j_fill S_j_fill lk_x_289 ⟨Nat.le_of_ble_eq_true rfl, Nat.le_of_ble_eq_true rfl⟩ (Nat.le_of_ble_eq_true rfl) D_x_mostOfOneSound_5 ?_
  refine z_iconst D_x_mostOfOneSound_8 ?_
  refine z_istore_3 D_x_mostOfOneSound_9 (Nat.le_of_ble_eq_true rfl) rfl ?_
  refine z_iconst D_x_mostOfOneSound_10 ?_
  refine z_istore_4 D_x_mostOfOneSound_11 (Nat.le_of_ble_eq_true rfl) rfl ?_
  refine l_x_mostOfOneSound hl hm h33 hv (91 : Nat) 0 _ vU (by omega) (by omega) (by omega) (fun a q => ?_) (fun c q1 q2 => ?_)
  · funext j; unfold zfill; rw [if_neg (by omega)]
  · unfold zfill; rw [if_pos (by omega)]; rfl

theorem l_x_tryNext {h : zH} {l : List Int} (hl : l.length ≤ 90) (hm : ∀ x ∈ l, 0 ≤ x ∧ x < 100 ∧ 0 < x % 10) (h33 : ∀ j : Nat, j < l.length → h 33 j = l.getD j 0) {y : Int} (hY : (tnF (fun v => mstP (sndF v) l l.length) 60).1 = y) : ∀ (k : Nat) (v l3 : Int) (h1 : zH) (y5 : zV), 1 ≤ v → v ≤ 61 → 61 - v < k → (∀ q, q ≠ 34 → h1 q = h q) → (0 ≤ (tnF (fun v => mstP (sndF v) l l.length) (v - 1).toNat).1 → l3 = (tnF (fun v => mstP (sndF v) l l.length) (v - 1).toNat).2) → (-9 ≤ l3 ∧ l3 ≤ 100) → Z M_x_tryNext (fun w h9 => w = some (vI y) ∧ ∀ q, q ≠ 34 → h9 q = h q) 21 [vR 0, vI (l.length : Int), vI (tnF (fun v => mstP (sndF v) l l.length) (v - 1).toNat).1, vI l3, vI v, y5] [] h1 := by
  intro k
  induction k with
  | zero => intro v l3 h1 y5 h0 h2 h3; omega
  | succ k ih =>
    intro v l3 h1 y5 h0 h2 h3 hE hl3 hb3
    have hMin := fun v => mstP_in (sndF v) l l.length
    have e := tnF_1 (M := fun v => mstP (sndF v) l l.length) h0
    have hr := tnF_in (M := fun v => mstP (sndF v) l l.length) (fun v => ⟨(hMin v).1, by have := (hMin v).2; omega⟩) (v - 1).toNat (by omega)
    have hmv := hMin v
    have h33a : ∀ j : Nat, j < l.length → h1 33 j = l.getD j 0 := fun j hj => by rw [hE 33 (by omega)]; exact h33 j hj
    have q := fun l9 h9 => ih (v + 1) l9 h9 (vI (mstP (sndF v) l l.length)) (by omega)
    rw [e] at q
    have hxt : v = 61 → (tnF (fun v => mstP (sndF v) l l.length) (v - 1).toNat).1 = (tnF (fun v => mstP (sndF v) l l.length) 60).1 := fun e9 => by rw [e9]; rfl
    generalize tnF (fun v => mstP (sndF v) l l.length) (v - 1).toNat = S at q hr hxt hl3 ⊢
    obtain ⟨p, m⟩ := S
    dsimp only at q hr hxt hl3 ⊢
    refine z_iload D_x_tryNext_21 rfl ?_
    refine z_bipush (by decide) D_x_tryNext_23 ?_
    refine z_icmp_gt (tgt := 61) D_x_tryNext_25 (by decide) (by omega) (by omega) (fun q25 => ?_) (fun q25 => ?_)
    · refine z_iload_n D_x_tryNext_61 rfl ?_
      exact z_ireturn rfl D_x_tryNext_62 (⟨by rw [← hY, ← hxt (by omega)], hE⟩)
    · refine z_aload_n D_x_tryNext_28 rfl ?_
      refine z_iload D_x_tryNext_29 rfl ?_
      refine z_iload_n D_x_tryNext_31 rfl ?_
      refine z_V2q (c0 := 11) (c_x_mostOfOneSound (h := h1) hl hm h33a (by omega)) G_x_mostOfOneSound I_x_mostOfOneSound lk_x_234 (rfl) ⟨by decide, rfl⟩ ⟨Nat.le_of_ble_eq_true rfl, Nat.le_of_ble_eq_true rfl⟩ (Nat.le_of_ble_eq_true rfl) D_x_tryNext_32 (fun v9 h9 hp9 => ?_)
      obtain ⟨rfl, hE9⟩ := hp9
      show Z _ _ _ _ [vI (mstP (sndF v) l l.length)] _
      have hE8 : ∀ q, q ≠ 34 → h9 q = h q := fun q hq => (hE9 q hq).trans (hE q hq)
      refine z_istore_5 D_x_tryNext_35 (Nat.le_of_ble_eq_true rfl) rfl ?_
      refine z_iload_n D_x_tryNext_37 rfl ?_
      refine z_bipush (by decide) D_x_tryNext_38 ?_
      refine z_icmp_eq (tgt := 49) D_x_tryNext_40 (by decide) (by omega) (by omega) (fun q40 => ?_) (fun q40 => ?_)
      · refine z_iload D_x_tryNext_49 rfl ?_
        refine z_istore_2 D_x_tryNext_51 (Nat.le_of_ble_eq_true rfl) rfl ?_
        refine z_iload D_x_tryNext_52 rfl ?_
        refine z_istore_3 D_x_tryNext_54 (Nat.le_of_ble_eq_true rfl) rfl ?_
        refine z_iinc_4 D_x_tryNext_55 (Nat.le_of_ble_eq_true rfl) rfl ?_
        refine z_goto (tgt := 21) D_x_tryNext_58 (by decide) ?_
        first
        | (rw [if_pos (by omega)] at q; exact q _ _ (by omega) (by omega) hE8 (fun _ => rfl) (by omega))
        | (rw [if_neg (by omega)] at q; exact q _ _ (by omega) (by omega) hE8 (fun _ => hl3 (by omega)) (by omega))
      · refine z_iload D_x_tryNext_43 rfl ?_
        refine z_iload_n D_x_tryNext_45 rfl ?_
        refine z_icmp_ge (tgt := 55) D_x_tryNext_46 (by decide) (by omega) (by omega) (fun q46 => ?_) (fun q46 => ?_)
        · refine z_iinc_4 D_x_tryNext_55 (Nat.le_of_ble_eq_true rfl) rfl ?_
          refine z_goto (tgt := 21) D_x_tryNext_58 (by decide) ?_
          first
          | (rw [if_pos (by omega)] at q; exact q _ _ (by omega) (by omega) hE8 (fun _ => rfl) (by omega))
          | (rw [if_neg (by omega)] at q; exact q _ _ (by omega) (by omega) hE8 (fun _ => hl3 (by omega)) (by omega))
        · refine z_iload D_x_tryNext_49 rfl ?_
          refine z_istore_2 D_x_tryNext_51 (Nat.le_of_ble_eq_true rfl) rfl ?_
          refine z_iload D_x_tryNext_52 rfl ?_
          refine z_istore_3 D_x_tryNext_54 (Nat.le_of_ble_eq_true rfl) rfl ?_
          refine z_iinc_4 D_x_tryNext_55 (Nat.le_of_ble_eq_true rfl) rfl ?_
          refine z_goto (tgt := 21) D_x_tryNext_58 (by decide) ?_
          first
          | (rw [if_pos (by omega)] at q; exact q _ _ (by omega) (by omega) hE8 (fun _ => rfl) (by omega))
          | (rw [if_neg (by omega)] at q; exact q _ _ (by omega) (by omega) hE8 (fun _ => hl3 (by omega)) (by omega))
theorem c_x_tryNext {h : zH} (hs : HI (h 22 2) (hx1 h) (hx2 h)) : zC M_x_tryNext [vR 0] h (pX (vI (if (lawsL (lawB (hdB (hx1 h) (hx2 h) (h 22 2))) 100).length = 0 then -9 else (tnF (fun v => mstP (sndF v) (lawsL (lawB (hdB (hx1 h) (hx2 h) (h 22 2))) 100) (lawsL (lawB (hdB (hx1 h) (hx2 h) (h 22 2))) 100).length) 60).1)) h) := by
  refine zC.ofN 5 (by decide) (Nat.le_of_ble_eq_true rfl) ?_
  show Z M_x_tryNext _ 0 [vR 0, vU, vU, vU, vU, vU] [] h
  have hlen := lawsL_len (hdB (hx1 h) (hx2 h) (h 22 2)) 100
  have hmem := lawsL_mem (hdB (hx1 h) (hx2 h) (h 22 2)) 100
  refine z_aload_n D_x_tryNext_0 rfl ?_
  refine z_V0q (c0 := 11) (c_x_findLaws hs) G_x_findLaws I_x_findLaws lk_x_231 (rfl) ⟨by decide, rfl⟩ ⟨Nat.le_of_ble_eq_true rfl, Nat.le_of_ble_eq_true rfl⟩ (Nat.le_of_ble_eq_true rfl) D_x_tryNext_1 (fun v9 h9 hp9 => ?_)
  obtain ⟨rfl, hE9, hA9⟩ := hp9
  show Z _ _ _ _ [vI _] _
  generalize lawsL (lawB (hdB (hx1 h) (hx2 h) (h 22 2))) 100 = l at hlen hmem hA9 ⊢
  refine z_istore_1 D_x_tryNext_4 (Nat.le_of_ble_eq_true rfl) rfl ?_
  refine z_iload_n D_x_tryNext_5 rfl ?_
  refine z_if_ne (tgt := 12) D_x_tryNext_6 (by decide) (by omega) (fun q6 => ?_) (fun q6 => ?_)
  · refine z_bipush (by decide) D_x_tryNext_12 ?_
    refine z_istore_2 D_x_tryNext_14 (Nat.le_of_ble_eq_true rfl) rfl ?_
    refine z_bipush (by decide) D_x_tryNext_15 ?_
    refine z_istore_3 D_x_tryNext_17 (Nat.le_of_ble_eq_true rfl) rfl ?_
    refine z_iconst D_x_tryNext_18 ?_
    refine z_istore_4 D_x_tryNext_19 (Nat.le_of_ble_eq_true rfl) rfl ?_
    have q := l_x_tryNext (h := h9) (l := l) (by omega) hmem hA9 rfl (61 : Nat) 1 (-9) h9 vU (by omega) (by omega) (by omega) (fun a _ => rfl) (fun q => absurd (show (0 : Int) ≤ -9 from q) (by decide)) (by omega)
    rw [if_neg (by omega)]
    refine Z.weak q (fun v h2 hp => ⟨hp.1, fun a ha => (hp.2 a (by omega)).trans (hE9 a (by omega))⟩)
  · refine z_bipush (by decide) D_x_tryNext_9 ?_
    exact z_ireturn rfl D_x_tryNext_11 (pxI (by rw [if_pos (by omega)]) (fun a q => hE9 a (by omega)))
theorem l_m_greatest0 {h : zH} {post : Option zV → zH → Prop} {v : Int} {y3 y4 : zV} (K : ∀ h2, (∀ a, a < 51 → h2 a = h a) → (∀ j : Int, 0 ≤ j → j ≤ 999 → h2 55 j.toNat = 0) → Z M_m_greatest post 22 [vR 39, vI v, vI 1000, y3, y4] [] h2) : ∀ (k : Nat) (c : Int) (h1 : zH), 0 ≤ c → c ≤ 1000 → 1000 - c < k → (∀ a, a < 51 → h1 a = h a) → (∀ j : Int, 0 ≤ j → j < c → h1 55 j.toNat = 0) → Z M_m_greatest post 2 [vR 39, vI v, vI c, y3, y4] [] h1 := by
  intro k
  induction k with
  | zero => intro c h1 h0 h2 h3; omega
  | succ k ih =>
    intro c h1 h0 h2 h3 hE hA
    refine z_iload_n D_m_greatest_2 rfl ?_
    refine z_sipush (by decide) D_m_greatest_3 ?_
    refine z_icmp_ge (tgt := 22) D_m_greatest_6 (by decide) (by omega) (by omega) (fun q6 => ?_) (fun q6 => ?_)
    · have e9 : c = 1000 := by omega
      subst e9
      exact K h1 hE (fun j q1 q2 => hA j q1 (by omega))
    · refine z_aload_n D_m_greatest_9 rfl ?_
      refine z_getR (q := 55) fl_m_63 (rfl) rfl (rfl) D_m_greatest_10 ?_
      refine z_iload_n D_m_greatest_13 rfl ?_
      refine z_iconst D_m_greatest_14 ?_
      refine z_iast (n := 1000) (rfl) (by omega) D_m_greatest_15 ?_
      refine z_iinc_2 D_m_greatest_16 (Nat.le_of_ble_eq_true rfl) rfl ?_
      refine z_goto (tgt := 2) D_m_greatest_19 (by decide) ?_
      exact ih (c + 1) _ (by omega) (by omega) (by omega) (fun a q => by funext j; rw [zup_ne (by omega), hE a q]) (fun j q1 q2 => by
        by_cases hj : j = c
        · rw [hj, zup_same]
        · rw [zup_nk (by omega)]; exact hA j q1 (by omega))
theorem l_m_greatest {h : zH} {v : Int} (hs : HI (h 39 11) (hm1 h) (hm2 h)) (hv : 1 ≤ v ∧ v ≤ 60) : ∀ (k : Nat) (i : Int) (h1 : zH) (y4 : zV), 0 ≤ i → i ≤ 100 → 100 - i < k → (∀ a, a < 51 → h1 a = h a) → (∀ c, 0 ≤ c → c ≤ 999 → h1 55 c.toNat = cnL (sndF v) c (lawsL (lawB (hdB (hm1 h) (hm2 h) (h 39 11))) i.toNat)) → Z M_m_greatest (pM (vI (mstP (sndF v) (lawsL (lawB (hdB (hm1 h) (hm2 h) (h 39 11))) 100) (lawsL (lawB (hdB (hm1 h) (hm2 h) (h 39 11))) 100).length)) h) 26 [vR 39, vI v, vI (mstP (sndF v) (lawsL (lawB (hdB (hm1 h) (hm2 h) (h 39 11))) 100) (lawsL (lawB (hdB (hm1 h) (hm2 h) (h 39 11))) i.toNat).length), vI i, y4] [] h1 := by
  intro k
  induction k with
  | zero => intro i h1 y4 h0 h2 h3; omega
  | succ k ih =>
    intro i h1 y4 h0 h2 h3 hE hA
    have hs1 : HI (h1 39 11) (hm1 h1) (hm2 h1) := by
      have e1 : hm1 h1 = hm1 h := by funext j; unfold hm1; rw [hE 46 (by omega)]
      have e2 : hm2 h1 = hm2 h := by funext j; unfold hm2; rw [hE 46 (by omega)]
      rw [e1, e2, hE 39 (by omega)]; exact hs
    have eD : hdB (hm1 h1) (hm2 h1) (h1 39 11) = hdB (hm1 h) (hm2 h) (h 39 11) := by
      have e1 : hm1 h1 = hm1 h := by funext j; unfold hm1; rw [hE 46 (by omega)]
      have e2 : hm2 h1 = hm2 h := by funext j; unfold hm2; rw [hE 46 (by omega)]
      rw [e1, e2, hE 39 (by omega)]
    have eL : (i + 1).toNat = i.toNat + 1 := by omega
    have eN : ((i.toNat : Nat) : Int) = i := by omega
    have hF : ¬ lawB (hdB (hm1 h) (hm2 h) (h 39 11)) i = true → lawsL (lawB (hdB (hm1 h) (hm2 h) (h 39 11))) (i + 1).toNat = lawsL (lawB (hdB (hm1 h) (hm2 h) (h 39 11))) i.toNat := fun c => by rw [eL]; exact lawsL_f _ (by rw [eN]; exact c)
    have hT : lawB (hdB (hm1 h) (hm2 h) (h 39 11)) i = true → lawsL (lawB (hdB (hm1 h) (hm2 h) (h 39 11))) (i + 1).toNat = lawsL (lawB (hdB (hm1 h) (hm2 h) (h 39 11))) i.toNat ++ [i] := fun c => by rw [eL, lawsL_t _ (by rw [eN]; exact c), eN]
    have hAt := fun (c : lawB (hdB (hm1 h) (hm2 h) (h 39 11)) i = true) (q : i < 100) => lawsL_at (lawB (hdB (hm1 h) (hm2 h) (h 39 11))) (m := i.toNat) (M := 100) (by omega) (by rw [eN]; exact c)
    have hlb : lawB (hdB (hm1 h) (hm2 h) (h 39 11)) i = (decide (0 < i % 10) && hdB (hm1 h) (hm2 h) (h 39 11) (i / 10) (i % 10)) := rfl
    have hmm := mstP_in (sndF v) (lawsL (lawB (hdB (hm1 h) (hm2 h) (h 39 11))) 100) (lawsL (lawB (hdB (hm1 h) (hm2 h) (h 39 11))) i.toNat).length
    have hlen := lawsL_len (hdB (hm1 h) (hm2 h) (h 39 11)) 100
    have hleni := lawsL_len (hdB (hm1 h) (hm2 h) (h 39 11)) i.toNat
    have hS := fun q => sndF_in (L := i) hv q
    have hxt : i = 100 → lawsL (lawB (hdB (hm1 h) (hm2 h) (h 39 11))) i.toNat = lawsL (lawB (hdB (hm1 h) (hm2 h) (h 39 11))) 100 := fun e9 => by rw [e9]; rfl
    refine z_iload_n D_m_greatest_26 rfl ?_
    refine z_bipush (by decide) D_m_greatest_27 ?_
    refine z_icmp_ge (tgt := 108) D_m_greatest_29 (by decide) (by omega) (by omega) (fun q29 => ?_) (fun q29 => ?_)
    · refine z_iload_n D_m_greatest_108 rfl ?_
      exact z_ireturn rfl D_m_greatest_109 (pmI (by rw [hxt (by omega)]) hE)
    · refine z_iload_n D_m_greatest_32 rfl ?_
      refine z_bipush (by decide) D_m_greatest_33 ?_
      refine z_irem_p D_m_greatest_35 (by omega) (by omega) ?_
      refine z_if_le (tgt := 102) D_m_greatest_36 (by decide) (by omega) (fun q36 => ?_) (fun q36 => ?_)
      · refine z_iinc_3 D_m_greatest_102 (Nat.le_of_ble_eq_true rfl) rfl ?_
        refine z_goto (tgt := 26) D_m_greatest_105 (by decide) ?_
        have e9 := hF (by rw [hlb, decide_eq_false (by omega), Bool.false_and]; decide)
        rw [← e9] at hA ⊢
        exact ih (i + 1) h1 _ (by omega) (by omega) (by omega) hE hA
      · refine z_aload_n D_m_greatest_39 rfl ?_
        refine z_iload_n D_m_greatest_40 rfl ?_
        refine z_bipush (by decide) D_m_greatest_41 ?_
        refine z_idiv D_m_greatest_43 (by omega) (by omega) ?_
        refine z_iload_n D_m_greatest_44 rfl ?_
        refine z_bipush (by decide) D_m_greatest_45 ?_
        refine z_irem_p D_m_greatest_47 (by omega) (by omega) ?_
        refine z_V2 (c0 := 12) (c_m_isHeard hs1 (by omega) (by omega)) G_m_isHeard I_m_isHeard lk_m_221 (rfl) ⟨by decide, rfl⟩ ⟨Nat.le_of_ble_eq_true rfl, Nat.le_of_ble_eq_true rfl⟩ (Nat.le_of_ble_eq_true rfl) D_m_greatest_48 ?_
        refine z_ifeqB (tgt := 102) D_m_greatest_51 (by decide) (fun q51 => ?_) (fun q51 => ?_)
        · refine z_iinc_3 D_m_greatest_102 (Nat.le_of_ble_eq_true rfl) rfl ?_
          refine z_goto (tgt := 26) D_m_greatest_105 (by decide) ?_
          rw [eD] at q51
          have e9 := hF (by rw [hlb, decide_eq_true (by omega), Bool.true_and]; exact q51)
          rw [← e9] at hA ⊢
          exact ih (i + 1) h1 _ (by omega) (by omega) (by omega) hE hA
        · refine z_iload_n D_m_greatest_54 rfl ?_
          refine z_iload_n D_m_greatest_55 rfl ?_
          refine z_bipush (by decide) D_m_greatest_56 ?_
          refine z_idiv D_m_greatest_58 (by omega) (by omega) ?_
          refine z_iload_n D_m_greatest_59 rfl ?_
          refine z_bipush (by decide) D_m_greatest_60 ?_
          refine z_irem_p D_m_greatest_62 (by omega) (by omega) ?_
          refine z_S3 (c_m_clicksBy (by omega) (by omega) (by omega)) G_m_clicksBy S_m_clicksBy lk_m_165 ⟨Nat.le_of_ble_eq_true rfl, Nat.le_of_ble_eq_true rfl⟩ (Nat.le_of_ble_eq_true rfl) D_m_greatest_63 ?_
          have hS := hS (by omega)
          show Z _ _ _ _ [vI (sndF v i)] _
          refine z_istore_4 D_m_greatest_66 (Nat.le_of_ble_eq_true rfl) rfl ?_
          refine z_aload_n D_m_greatest_68 rfl ?_
          refine z_getR (q := 55) fl_m_63 (rfl) rfl (rfl) D_m_greatest_69 ?_
          refine z_iload D_m_greatest_72 rfl ?_
          refine z_dup2 rfl rfl D_m_greatest_74 ?_
          refine z_iald (n := 1000) (rfl) (by omega) D_m_greatest_75 ?_
          refine z_iconst D_m_greatest_76 ?_
          refine z_iadd D_m_greatest_77 ?_
          refine z_iast (n := 1000) (rfl) (by omega) D_m_greatest_78 ?_
          have hcn := hA _ hS.1 (by omega)
          have hci := cnL_in (sndF v) (sndF v i) (lawsL (lawB (hdB (hm1 h) (hm2 h) (h 39 11))) i.toNat)
          refine z_aload_n D_m_greatest_79 rfl ?_
          refine z_getR (q := 55) fl_m_63 (rfl) rfl (rfl) D_m_greatest_80 ?_
          refine z_iload D_m_greatest_83 rfl ?_
          refine z_iald (n := 1000) (rfl) (by omega) D_m_greatest_85 ?_
          refine z_iload_n D_m_greatest_86 rfl ?_
          refine z_icmp_le (tgt := 100) D_m_greatest_87 (by decide) (by rw [zup_same]; omega) (by omega) (fun q87 => ?_) (fun q87 => ?_)
          · refine z_iload_n D_m_greatest_100 rfl ?_
            refine z_istore_2 D_m_greatest_101 (Nat.le_of_ble_eq_true rfl) rfl ?_
            refine z_iinc_3 D_m_greatest_102 (Nat.le_of_ble_eq_true rfl) rfl ?_
            refine z_goto (tgt := 26) D_m_greatest_105 (by decide) ?_
            rw [eD] at q51
            have hlt : lawB (hdB (hm1 h) (hm2 h) (h 39 11)) i = true := by rw [hlb, decide_eq_true (by omega), Bool.true_and]; exact q51
            have hcA := cnL_arr (s := sndF v) (y := i) (x := 1) (B := 999) ⟨hS.1, by omega⟩ rfl hA
            have e9 := hT hlt
            rw [← e9] at hcA
            obtain ⟨a1, a2, a3⟩ := hAt hlt (by omega)
            rw [← eL] at a2
            have e8 : (lawsL (lawB (hdB (hm1 h) (hm2 h) (h 39 11))) (i + 1).toNat).length = (lawsL (lawB (hdB (hm1 h) (hm2 h) (h 39 11))) i.toNat).length + 1 := by rw [e9, List.length_append, List.length_singleton]
            have e7 : mstP (sndF v) (lawsL (lawB (hdB (hm1 h) (hm2 h) (h 39 11))) 100) (lawsL (lawB (hdB (hm1 h) (hm2 h) (h 39 11))) (i + 1).toNat).length = max (mstP (sndF v) (lawsL (lawB (hdB (hm1 h) (hm2 h) (h 39 11))) 100) (lawsL (lawB (hdB (hm1 h) (hm2 h) (h 39 11))) i.toNat).length) (zup h1 55 (sndF v i).toNat (h1 55 (sndF v i).toNat + 1) 55 (sndF v i).toNat) := by
              rw [e8, hcA _ hS.1 (by omega), ← a2]
              show max _ (cnL (sndF v) (sndF v ((lawsL (lawB (hdB (hm1 h) (hm2 h) (h 39 11))) 100).getD (lawsL (lawB (hdB (hm1 h) (hm2 h) (h 39 11))) i.toNat).length 0)) _) = _
              rw [List.getD_eq_getElem?_getD, a1, eN]
              rfl
            rw [zup_same] at e7 q87
            rw [show mstP (sndF v) (lawsL (lawB (hdB (hm1 h) (hm2 h) (h 39 11))) 100) (lawsL (lawB (hdB (hm1 h) (hm2 h) (h 39 11))) i.toNat).length = mstP (sndF v) (lawsL (lawB (hdB (hm1 h) (hm2 h) (h 39 11))) 100) (lawsL (lawB (hdB (hm1 h) (hm2 h) (h 39 11))) (i + 1).toNat).length by omega]
            exact ih (i + 1) _ _ (by omega) (by omega) (by omega) (fun a q => by funext j; rw [zup_ne (by omega), hE a q]) hcA
          · refine z_aload_n D_m_greatest_90 rfl ?_
            refine z_getR (q := 55) fl_m_63 (rfl) rfl (rfl) D_m_greatest_91 ?_
            refine z_iload D_m_greatest_94 rfl ?_
            refine z_iald (n := 1000) (rfl) (by omega) D_m_greatest_96 ?_
            refine z_goto (tgt := 101) D_m_greatest_97 (by decide) ?_
            refine z_istore_2 D_m_greatest_101 (Nat.le_of_ble_eq_true rfl) rfl ?_
            refine z_iinc_3 D_m_greatest_102 (Nat.le_of_ble_eq_true rfl) rfl ?_
            refine z_goto (tgt := 26) D_m_greatest_105 (by decide) ?_
            rw [eD] at q51
            have hlt : lawB (hdB (hm1 h) (hm2 h) (h 39 11)) i = true := by rw [hlb, decide_eq_true (by omega), Bool.true_and]; exact q51
            have hcA := cnL_arr (s := sndF v) (y := i) (x := 1) (B := 999) ⟨hS.1, by omega⟩ rfl hA
            have e9 := hT hlt
            rw [← e9] at hcA
            obtain ⟨a1, a2, a3⟩ := hAt hlt (by omega)
            rw [← eL] at a2
            have e8 : (lawsL (lawB (hdB (hm1 h) (hm2 h) (h 39 11))) (i + 1).toNat).length = (lawsL (lawB (hdB (hm1 h) (hm2 h) (h 39 11))) i.toNat).length + 1 := by rw [e9, List.length_append, List.length_singleton]
            have e7 : mstP (sndF v) (lawsL (lawB (hdB (hm1 h) (hm2 h) (h 39 11))) 100) (lawsL (lawB (hdB (hm1 h) (hm2 h) (h 39 11))) (i + 1).toNat).length = max (mstP (sndF v) (lawsL (lawB (hdB (hm1 h) (hm2 h) (h 39 11))) 100) (lawsL (lawB (hdB (hm1 h) (hm2 h) (h 39 11))) i.toNat).length) (zup h1 55 (sndF v i).toNat (h1 55 (sndF v i).toNat + 1) 55 (sndF v i).toNat) := by
              rw [e8, hcA _ hS.1 (by omega), ← a2]
              show max _ (cnL (sndF v) (sndF v ((lawsL (lawB (hdB (hm1 h) (hm2 h) (h 39 11))) 100).getD (lawsL (lawB (hdB (hm1 h) (hm2 h) (h 39 11))) i.toNat).length 0)) _) = _
              rw [List.getD_eq_getElem?_getD, a1, eN]
              rfl
            rw [zup_same] at e7 q87
            rw [zup_same]
            have e6 : h1 55 (sndF v i).toNat + 1 = mstP (sndF v) (lawsL (lawB (hdB (hm1 h) (hm2 h) (h 39 11))) 100) (lawsL (lawB (hdB (hm1 h) (hm2 h) (h 39 11))) (i + 1).toNat).length := by omega
            rw [e6] at hcA ⊢
            exact ih (i + 1) _ _ (by omega) (by omega) (by omega) (fun a q => by funext j; rw [zup_ne (by omega), hE a q]) hcA
theorem c_m_greatest {h : zH} {v : Int} (hs : HI (h 39 11) (hm1 h) (hm2 h)) (hv : 1 ≤ v ∧ v ≤ 60) : zC M_m_greatest [vR 39, vI v] h (pM (vI (mstP (sndF v) (lawsL (lawB (hdB (hm1 h) (hm2 h) (h 39 11))) 100) (lawsL (lawB (hdB (hm1 h) (hm2 h) (h 39 11))) 100).length)) h) := by
  refine zC.ofN 3 (by decide) (by first | decide | exact Nat.le_of_ble_eq_true rfl) ?_
  show Z M_m_greatest _ 0 [vR 39, vI v, vU, vU, vU] [] h
  refine z_iconst D_m_greatest_0 ?_
  refine z_istore_2 D_m_greatest_1 (Nat.le_of_ble_eq_true rfl) rfl ?_
  refine l_m_greatest0 (h := h) (fun h2 hE2 hA2 => ?_) (1001 : Nat) 0 h (by omega) (by omega) (by omega) (fun a q => rfl) (fun j q1 q2 => by omega)
  refine z_iconst D_m_greatest_22 ?_
  refine z_istore_2 D_m_greatest_23 (Nat.le_of_ble_eq_true rfl) rfl ?_
  refine z_iconst D_m_greatest_24 ?_
  refine z_istore_3 D_m_greatest_25 (Nat.le_of_ble_eq_true rfl) rfl ?_
  exact l_m_greatest hs hv (101 : Nat) 0 h2 vU (by omega) (by omega) (by omega) hE2 (fun c q1 q2 => by rw [hA2 c q1 q2]; rfl)

