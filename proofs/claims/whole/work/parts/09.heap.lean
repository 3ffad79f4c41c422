/-- a field's link: the number of the object's sort, the place of the field -/
def zF (own : String) (idx c k : Nat) : Prop := c < 13 ∧ k < zNN c ∧ Cond.fieldLink own idx (zTT c k).1 (zTT c k).2.1 (zTT c k).2.2.1 ∈ zt
def zisI (t : FieldType) : Bool := match t with
  | .int => true
  | .boolean => true
  | _ => false
def zisL (t : FieldType) : Bool := match t with
  | .long => true
  | _ => false
theorem fvI {r : Nat → Nat} {t : FieldType} {x : Int} (h : zisI t = true) : fv r t x = tv r (vI x) := by
  cases t <;> first | rfl | cases h
theorem fvL {r : Nat → Nat} {t : FieldType} {x : Int} (h : zisL t = true) : fv r t x = tv r (vL x) := by
  cases t <;> first | rfl | cases h
theorem fvR {r : Nat → Nat} {t : FieldType} {x : Int} (h : zisR t = true) : fv r t x = tv r (vR x.toNat) := by
  cases t <;> first | rfl | cases h
theorem zfs_at {r : Nat → Nat} {h : zH} {a c k : Nat} (hk : k < zNN c) : ((List.range (zNN c)).map (fun k => fv r (zty c k) (zsv h c a k)))[k]? = some (fv r (zty c k) (zsv h c a k)) := by
  simp [hk]
theorem zfs_set {r : Nat → Nat} {h : zH} {a c k : Nat} {x : Int} (hs : zstat c k = false) : (List.range (zNN c)).map (fun j => fv r (zty c j) (zsv (zup h a k x) c a j)) = ((List.range (zNN c)).map (fun j => fv r (zty c j) (zsv h c a j))).set k (fv r (zty c k) x) := by
  apply List.ext_getElem?
  intro j
  by_cases hj : j < zNN c
  · by_cases hjk : j = k
    · subst hjk
      rw [List.getElem?_set_self (by simpa using hj)]
      simp [hj, zup_same, zsv, hs]
    · rw [List.getElem?_set_ne (Ne.symm hjk)]
      simp [hj, zup, hjk, zsv]
  · rw [List.getElem?_eq_none (by simpa using hj), List.getElem?_eq_none (by simpa using hj)]
theorem zup_off {h : zH} {a k : Nat} {x : Int} : ∀ b, b ≠ a → ∀ j, zup h a k x b j = h b j := fun b hb j => zup_other (fun q => hb q.1)
section ZH
variable {M : zM} {post : Option zV → zH → Prop} {pc : Nat} {lv st : List zV} {h : zH}
theorem zg_get {a c k idx : Nat} {v : zV} (hc : (zks a).1 = c) (hf : zF M.1.cls idx c k) (hv : ∀ r, fv r (zty c k) (zsv h c a k) = tv r v) (hd : decode M.2.1 pc = .ok (.getfield idx, 3)) (kk : Z M post (pc + 3) lv (v :: st) h) : Z M post pc lv (vR a :: st) h := by
  intro p l e s m args below meth c9 D r ca B H locs ls P L
  have k9 := kk p l e s m args below meth c9 D r ca B H locs ls P L
  have ha : a < 56 := zks_lt hc (by have := hf.1; omega)
  have he : (wd r ca h)[a]? = some (r a, .inr (c, (List.range (zNN c)).map (fun k => fv r (zty c k) (zsv h c a k)))) := by rw [wd_at ha, zcell_obj hc hf.1]
  exact va_get (D := D) (C := zRR c) (T := zTT c) (N := zNN c) B.1 B.2.1 B.2.2.2.2.1 (zcl_zt hf.1) B.2.2.2.1 B.2.2.2.2.2.2.2.1 P.1 a he (zcl_at c hf.1) k hf.2.1 (B.2.2.2.2.1 _ hf.2.2) (fun _ q => q) (by rw [zfs_at hf.2.1, hv r]) hd k9
theorem zsv_I {h : zH} {c a k : Nat} (h1 : zisI (zty c k) = true ∨ zisL (zty c k) = true) : zsv h c a k = h a k := by
  have : zisR (zty c k) = false := by
    revert h1
    generalize zty c k = t
    cases t <;> simp [zisI, zisL, zisR]
  simp [zsv, zstat, this]
theorem z_getI {a c k idx : Nat} (hf : zF M.1.cls idx c k) (hc : (zks a).1 = c) (ht : zisI (zty c k) = true) (hd : decode M.2.1 pc = .ok (.getfield idx, 3)) (kk : Z M post (pc + 3) lv (vI (h a k) :: st) h) : Z M post pc lv (vR a :: st) h := zg_get hc hf (fun _ => by rw [zsv_I (Or.inl ht)]; exact fvI ht) hd kk
theorem z_getL {a c k idx : Nat} (hf : zF M.1.cls idx c k) (hc : (zks a).1 = c) (ht : zisL (zty c k) = true) (hd : decode M.2.1 pc = .ok (.getfield idx, 3)) (kk : Z M post (pc + 3) lv (vL (h a k) :: st) h) : Z M post pc lv (vR a :: st) h := zg_get hc hf (fun _ => by rw [zsv_I (Or.inr ht)]; exact fvL ht) hd kk
theorem z_getR {a c k idx q : Nat} (hf : zF M.1.cls idx c k) (hc : (zks a).1 = c) (ht : zstat c k = true) (hq : zsr a k = q) (hd : decode M.2.1 pc = .ok (.getfield idx, 3)) (kk : Z M post (pc + 3) lv (vR q :: st) h) : Z M post pc lv (vR a :: st) h := zg_get hc hf (fun r => by
  have h1 : zisR (zty c k) = true := by
    unfold zstat at ht
    exact (Bool.and_eq_true_iff.mp ht).1
  rw [fvR h1]
  simp only [zsv, ht, if_true, hq]
  rfl) hd kk
theorem z_getW {k idx q : Nat} (hf : zF M.1.cls idx 11 k) (hk : k = 1 ∨ k = 2) (hq : h 0 k = (q : Int)) (hd : decode M.2.1 pc = .ok (.getfield idx, 3)) (kk : Z M post (pc + 3) lv (vR q :: st) h) : Z M post pc lv (vR 0 :: st) h := zg_get rfl hf (fun r => by
  rcases hk with rfl | rfl
  · show fv r (.object "RoseWheel$Window") (h 0 1) = _
    rw [hq]; rfl
  · show fv r (.object "RoseWheel$Window") (h 0 2) = _
    rw [hq]; rfl) hd kk
theorem zg_put {a c k idx : Nat} {v : zV} {x : Int} (hc : (zks a).1 = c) (hf : zF M.1.cls idx c k) (hfin : (zTT c k).2.2.2 = false) (hs : zstat c k = false) (hv : ∀ r, fv r (zty c k) x = tv r v) (hn : ∀ r, narrow (zty c k) (tv r v) = tv r v ∧ fits (zty c k) (tv r v) = true) (hd : decode M.2.1 pc = .ok (.putfield idx, 3)) (kk : Z M post (pc + 3) lv st (zup h a k x)) : Z M post pc lv (v :: vR a :: st) h := by
  intro p l e s m args below meth c9 D r ca B H locs ls P L
  have ha : a < 56 := zks_lt hc (by have := hf.1; omega)
  have he : (wd r ca h)[a]? = some (r a, .inr (c, (List.range (zNN c)).map (fun k => fv r (zty c k) (zsv h c a k)))) := by rw [wd_at ha, zcell_obj hc hf.1]
  have hw : wd r ca (zup h a k x) = (wd r ca h).set a (r a, .inr (c, ((List.range (zNN c)).map (fun k => fv r (zty c k) (zsv h c a k))).set k (tv r v))) := by
    rw [wd_set (h := h) (a := a) zup_off, zcell_obj hc hf.1, zfs_set hs, hv r]
  refine va_put (D := D) (C := zRR c) (T := zTT c) (N := zNN c) B.1 B.2.1 B.2.2.2.2.1 (zcl_zt hf.1) (zty c) (zcl_ty c hf.1) (zcl_nm c hf.1) B.2.2.2.1 B.2.2.2.2.2.2.2.1 P.1 (B.2.2.2.2.2.2.2.2.va ca h) P.2 a he (zcl_at c hf.1) k hf.2.1 (B.2.2.2.2.1 _ hf.2.2) (fun _ q => q) hfin (zcl_ty c hf.1 k hf.2.1) (hn r).1 (hn r).2 (by simpa using hf.2.1) hd (fun H1 locs1 hP1 _ hS1 => ?_)
  rw [← hw] at hP1
  exact kk p l e s m args below meth c9 D r ca B H1 locs1 ls ⟨hP1, hS1⟩ L
theorem z_putI {a c k idx : Nat} {x : Int} (hf : zF M.1.cls idx c k) (hc : (zks a).1 = c) (ht : zty c k = .int) (hfin : (zTT c k).2.2.2 = false) (hd : decode M.2.1 pc = .ok (.putfield idx, 3)) (kk : Z M post (pc + 3) lv st (zup h a k x)) : Z M post pc lv (vI x :: vR a :: st) h := zg_put hc hf hfin (by simp [zstat, ht, zisR]) (fun _ => fvI (by rw [ht]; rfl)) (fun _ => by rw [ht]; exact ⟨rfl, rfl⟩) hd kk
theorem z_putB {a c k idx : Nat} {x : Int} (hf : zF M.1.cls idx c k) (hc : (zks a).1 = c) (ht : zty c k = .boolean) (hfin : (zTT c k).2.2.2 = false) (hx : x = 0 ∨ x = 1) (hd : decode M.2.1 pc = .ok (.putfield idx, 3)) (kk : Z M post (pc + 3) lv st (zup h a k x)) : Z M post pc lv (vI x :: vR a :: st) h := zg_put hc hf hfin (by simp [zstat, ht, zisR]) (fun _ => fvI (by rw [ht]; rfl)) (fun _ => by rw [ht]; exact tv_zb hx) hd kk
theorem z_putL {a c k idx : Nat} {x : Int} (hf : zF M.1.cls idx c k) (hc : (zks a).1 = c) (ht : zty c k = .long) (hfin : (zTT c k).2.2.2 = false) (hd : decode M.2.1 pc = .ok (.putfield idx, 3)) (kk : Z M post (pc + 3) lv st (zup h a k x)) : Z M post pc lv (vL x :: vR a :: st) h := zg_put hc hf hfin (by simp [zstat, ht, zisR]) (fun _ => fvL (by rw [ht]; rfl)) (fun _ => by rw [ht]; exact ⟨rfl, rfl⟩) hd kk
theorem z_putR {a c k idx q : Nat} (hf : zF M.1.cls idx c k) (hc : (zks a).1 = c) (ht : zisR (zty c k) = true) (hs : zstat c k = false) (hfin : (zTT c k).2.2.2 = false) (hd : decode M.2.1 pc = .ok (.putfield idx, 3)) (kk : Z M post (pc + 3) lv st (zup h a k (q : Int))) : Z M post pc lv (vR q :: vR a :: st) h := zg_put hc hf hfin hs (fun r => by rw [fvR ht]; rfl) (fun r => by
  revert ht
  generalize zty c k = t
  intro ht
  cases t <;> first | exact ⟨rfl, rfl⟩ | cases ht) hd kk
-- arrays
theorem z_iald {a n : Nat} {i : Int} (hk : zks a = (100, n)) (hi : 0 ≤ i ∧ i < n) (hd : decode M.2.1 pc = .ok (.iaload, 1)) (kk : Z M post (pc + 1) lv (vI (h a i.toNat) :: st) h) : Z M post pc lv (vI i :: vR a :: st) h := by
  intro p l e s m args below meth c9 D r ca B H locs ls P L
  have k9 := kk p l e s m args below meth c9 D r ca B H locs ls P L
  have ha : a < 56 := zks_lt (k := 100) (by rw [hk]) (by omega)
  have hs := zks_small a
  rw [hk] at hs
  have hs : n ≤ 1146 := hs
  have he : (wd r ca h)[a]? = some (r a, .inl (ca 0, n, .inl (fun j => Int32.ofInt (h a j)))) := by rw [wd_at ha, zcell_int hk]
  refine va_iald (D := D) B.1 B.2.1 B.2.2.2.2.2.2.2.1 P.1 a 0 he rfl (i32_in hi (by omega)) hd ?_
  rw [i32_clamp (by omega)]
  exact k9
theorem z_bald {a n : Nat} {i : Int} (hk : zks a = (101, n)) (hi : 0 ≤ i ∧ i < n) (hd : decode M.2.1 pc = .ok (.baload, 1)) (kk : Z M post (pc + 1) lv (vI (h a i.toNat) :: st) h) : Z M post pc lv (vI i :: vR a :: st) h := by
  intro p l e s m args below meth c9 D r ca B H locs ls P L
  have k9 := kk p l e s m args below meth c9 D r ca B H locs ls P L
  have ha : a < 56 := zks_lt (k := 101) (by rw [hk]) (by omega)
  have hs := zks_small a
  rw [hk] at hs
  have hs : n ≤ 1146 := hs
  have he : (wd r ca h)[a]? = some (r a, .inl (ca 1, n, .inl (fun j => Int32.ofInt (h a j)))) := by rw [wd_at ha, zcell_bool hk]
  refine va_zald (D := D) B.1 B.2.1 B.2.2.2.2.2.2.2.1 P.1 a 1 he rfl (i32_in hi (by omega)) hd ?_
  rw [i32_clamp (by omega)]
  exact k9
theorem z_aald {a n q t : Nat} {i : Int} (hk : zks a = (t, n)) (ht : t = 102 ∨ t = 103) (hi : 0 ≤ i ∧ i < n) (hq : zsr a i.toNat = q) (hd : decode M.2.1 pc = .ok (.aaload, 1)) (kk : Z M post (pc + 1) lv (vR q :: st) h) : Z M post pc lv (vI i :: vR a :: st) h := by
  intro p l e s m args below meth c9 D r ca B H locs ls P L
  have k9 := kk p l e s m args below meth c9 D r ca B H locs ls P L
  have ha : a < 56 := zks_lt (k := t) (by rw [hk]) (by omega)
  have hs := zks_small a
  rw [hk] at hs
  have hs : n ≤ 1146 := hs
  have he : (wd r ca h)[a]? = some (r a, .inl (ca (t - 100), n, .inr (.inr (.inr (.inr (fun j => some (r (zsr a j)))))))) := by rw [wd_at ha, zcell_refs hk (by omega)]
  rcases ht with rfl | rfl
  · refine va_aldq (D := D) (C := "RoseWheel$Days") B.1 B.2.1 B.2.2.2.2.2.2.2.1 P.1 a 2 he rfl (i32_in hi (by omega)) hd ?_
    rw [i32_clamp (by omega), hq]
    exact k9
  · refine va_aldq (D := D) (C := "RoseWheel$One") B.1 B.2.1 B.2.2.2.2.2.2.2.1 P.1 a 3 he rfl (i32_in hi (by omega)) hd ?_
    rw [i32_clamp (by omega), hq]
    exact k9
theorem zarr_set {h : zH} {a i : Nat} {x : Int} : (fun j => Int32.ofInt (zup h a i x a j)) = upd (fun j => Int32.ofInt (h a j)) i (Int32.ofInt x) := by
  funext j
  by_cases hj : j = i
  · subst hj; simp [upd, zup_same]
  · simp [upd, hj, zup]
theorem z_iast {a n : Nat} {i x : Int} (hk : zks a = (100, n)) (hi : 0 ≤ i ∧ i < n) (hd : decode M.2.1 pc = .ok (.iastore, 1)) (kk : Z M post (pc + 1) lv st (zup h a i.toNat x)) : Z M post pc lv (vI x :: vI i :: vR a :: st) h := by
  intro p l e s m args below meth c9 D r ca B H locs ls P L
  have ha : a < 56 := zks_lt (k := 100) (by rw [hk]) (by omega)
  have hs := zks_small a
  rw [hk] at hs
  have hs : n ≤ 1146 := hs
  have he : (wd r ca h)[a]? = some (r a, .inl (ca 0, n, .inl (fun j => Int32.ofInt (h a j)))) := by rw [wd_at ha, zcell_int hk]
  have hw : wd r ca (zup h a i.toNat x) = (wd r ca h).set a (r a, .inl (ca 0, n, .inl (upd (fun j => Int32.ofInt (h a j)) i.toNat (Int32.ofInt x)))) := by
    rw [wd_set (h := h) (a := a) zup_off, zcell_int hk, zarr_set]
  refine va_iast (D := D) B.1 B.2.1 B.2.2.2.2.2.2.2.1 P.1 (B.2.2.2.2.2.2.2.2.va ca h) P.2 a 0 he rfl (i32_in hi (by omega)) hd (fun H1 locs1 hP1 _ hS1 => ?_)
  rw [i32_clamp (by omega), ← hw] at hP1
  exact kk p l e s m args below meth c9 D r ca B H1 locs1 ls ⟨hP1, hS1⟩ L
theorem z_bast {a n : Nat} {i x : Int} (hk : zks a = (101, n)) (hi : 0 ≤ i ∧ i < n) (hx : x = 0 ∨ x = 1) (hd : decode M.2.1 pc = .ok (.bastore, 1)) (kk : Z M post (pc + 1) lv st (zup h a i.toNat x)) : Z M post pc lv (vI x :: vI i :: vR a :: st) h := by
  intro p l e s m args below meth c9 D r ca B H locs ls P L
  have ha : a < 56 := zks_lt (k := 101) (by rw [hk]) (by omega)
  have hs := zks_small a
  rw [hk] at hs
  have hs : n ≤ 1146 := hs
  have he : (wd r ca h)[a]? = some (r a, .inl (ca 1, n, .inl (fun j => Int32.ofInt (h a j)))) := by rw [wd_at ha, zcell_bool hk]
  have hw : wd r ca (zup h a i.toNat x) = (wd r ca h).set a (r a, .inl (ca 1, n, .inl (upd (fun j => Int32.ofInt (h a j)) i.toNat (Int32.ofInt x)))) := by
    rw [wd_set (h := h) (a := a) zup_off, zcell_bool hk, zarr_set]
  have hnx : vp_nar .boolean (Int32.ofInt x) = Int32.ofInt x := by
    rcases hx with rfl | rfl <;> decide
  refine va_zast (D := D) B.1 B.2.1 B.2.2.2.2.2.2.2.1 P.1 (B.2.2.2.2.2.2.2.2.va ca h) P.2 a 1 he rfl (i32_in hi (by omega)) hd (fun H1 locs1 hP1 _ hS1 => ?_)
  rw [i32_clamp (by omega), hnx, ← hw] at hP1
  exact kk p l e s m args below meth c9 D r ca B H1 locs1 ls ⟨hP1, hS1⟩ L
theorem z_alen {a t n : Nat} (hk : zks a = (t, n)) (ht : t = 100 ∨ t = 101 ∨ t = 102 ∨ t = 103) (hd : decode M.2.1 pc = .ok (.arraylength, 1)) (kk : Z M post (pc + 1) lv (vI (n : Int) :: st) h) : Z M post pc lv (vR a :: st) h := by
  intro p l e s m args below meth c9 D r ca B H locs ls P L
  have k9 := kk p l e s m args below meth c9 D r ca B H locs ls P L
  have ha : a < 56 := zks_lt (k := t) (by rw [hk]) (by omega)
  have e1 : Int32.ofNat n = Int32.ofInt (n : Int) := Int32.ofInt_eq_ofNat.symm
  rcases ht with rfl | rfl | rfl | rfl
  · exact va_alen (D := D) B.1 B.2.1 B.2.2.2.2.2.2.2.1 P.1 a 0 (by rw [wd_at ha, zcell_int hk]) rfl e1 hd k9
  · exact va_alen (D := D) B.1 B.2.1 B.2.2.2.2.2.2.2.1 P.1 a 1 (by rw [wd_at ha, zcell_bool hk]) rfl e1 hd k9
  · exact va_alen (D := D) B.1 B.2.1 B.2.2.2.2.2.2.2.1 P.1 a 2 (by rw [wd_at ha, zcell_refs hk (by omega)]) rfl e1 hd k9
  · exact va_alen (D := D) B.1 B.2.1 B.2.2.2.2.2.2.2.1 P.1 a 3 (by rw [wd_at ha, zcell_refs hk (by omega)]) rfl e1 hd k9
/-- System.arraycopy between rows of ints -/
def zcp (h : zH) (a0 a sp dp n : Nat) : zH := fun b j => if b = a ∧ dp ≤ j ∧ j < dp + n then h a0 (sp + (j - dp)) else h b j
theorem z_copy {a0 a n0 n1 idx : Nat} {sp dp n : Int} (hk0 : zks a0 = (100, n0)) (hk : zks a = (100, n1)) (h1 : 0 ≤ sp) (h2 : 0 ≤ dp) (h3 : 0 ≤ n) (h4 : sp + n ≤ n0) (h5 : dp + n ≤ n1)
    (hl : Cond.methodLink M.1.cls idx arraycopyName ∈ zt) (hnat : Cond.native arraycopyName ∈ zt) (hst : Cond.static arraycopyName ∈ zt) (hini : Cond.initialized "java/lang/System" ∈ zt) (hfr : 1 ≤ M.rm.frames) (hlo : (st.map vw).sum + (nativeFrameWords "java/lang/System" "arraycopy" 5 + 11) ≤ M.rm.locals)
    (hd : decode M.2.1 pc = .ok (.invokestatic idx, 3)) (kk : Z M post (pc + 3) lv st (zcp h a0 a sp.toNat dp.toNat n.toNat)) : Z M post pc lv (vI n :: vI dp :: vR a :: vI sp :: vR a0 :: st) h := by
  intro p l e s m args below meth c9 D r ca B H locs ls P L
  have ha : a < 56 := zks_lt (k := 100) (by rw [hk]) (by omega)
  have ha0 : a0 < 56 := zks_lt (k := 100) (by rw [hk0]) (by omega)
  have hs0 := zks_small a0
  rw [hk0] at hs0
  have hs0 : n0 ≤ 1146 := hs0
  have hs1 := zks_small a
  rw [hk] at hs1
  have hs1 : n1 ≤ 1146 := hs1
  have he0 : (wd r ca h)[a0]? = some (r a0, .inl (ca 0, n0, .inl (fun j => Int32.ofInt (h a0 j)))) := by rw [wd_at ha0, zcell_int hk0]
  have he : (wd r ca h)[a]? = some (r a, .inl (ca 0, n1, .inl (fun j => Int32.ofInt (h a j)))) := by rw [wd_at ha, zcell_int hk]
  have hf : (fun j => Int32.ofInt (zcp h a0 a sp.toNat dp.toNat n.toNat a j)) = va_cpy (fun j => Int32.ofInt (h a0 j)) (fun j => Int32.ofInt (h a j)) sp.toNat dp.toNat n.toNat := by
    funext j
    unfold zcp va_cpy
    by_cases hj : dp.toNat ≤ j ∧ j < dp.toNat + n.toNat
    · rw [if_pos ⟨rfl, hj⟩, if_pos hj]
    · rw [if_neg (fun q => hj q.2), if_neg hj]
  have hw : wd r ca (zcp h a0 a sp.toNat dp.toNat n.toNat) = (wd r ca h).set a (r a, .inl (ca 0, n1, .inl (va_cpy (fun j => Int32.ofInt (h a0 j)) (fun j => Int32.ofInt (h a j)) sp.toNat dp.toNat n.toNat))) := by
    rw [wd_set (h := h) (a := a) (fun b hb j => by simp [zcp, hb]), zcell_int hk, hf]
  have hlt : ∀ z : Int, 0 ≤ z → z ≤ 1146 → ¬ Int32.ofInt z < 0 := fun z hz hz2 => by
    rw [i32_0, i32_lt (by omega) (by omega)]; omega
  refine va_copyi (D := D) B.1 B.2.1 (B.2.2.1.trans L.1.symm) B.2.2.2.1 (B.2.2.2.2.1 _ hl) (B.2.2.2.2.1 _ hnat) (B.2.2.2.2.1 _ hst) (B.2.2.2.2.1 _ hini) B.2.2.2.2.2.2.2.1 P.1 (B.2.2.2.2.2.2.2.2.va ca h) P.2 a0 a 0 0 he0 he rfl rfl rfl (hlt _ h1 (by omega)) (hlt _ h2 (by omega)) (hlt _ h3 (by omega))
    (by rw [i32_clamp (by omega), i32_clamp (by omega)]; omega) (by rw [i32_clamp (by omega), i32_clamp (by omega)]; omega) (fun _ _ => rfl) hfr (by rw [tv_cats]; exact hlo) hd (fun H1 locs1 hP1 _ hS1 => ?_)
  rw [i32_clamp (by omega), i32_clamp (by omega), i32_clamp (by omega), ← hw] at hP1
  exact kk p l e s m args below meth c9 D r ca B H1 locs1 ls ⟨hP1, hS1⟩ L
end ZH
