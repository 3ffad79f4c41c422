theorem i32_add (x y : Int) : Int32.ofInt (x + y) = Int32.ofInt x + Int32.ofInt y := Int32.toBitVec.inj (by simp [BitVec.ofInt_add])
theorem i32_sub (x y : Int) : Int32.ofInt (x - y) = Int32.ofInt x - Int32.ofInt y := by
  rw [Int.sub_eq_add_neg, i32_add, ← Int32.neg_ofInt, Int32.sub_eq_add_neg]
theorem i32_mul (x y : Int) : Int32.ofInt (x * y) = Int32.ofInt x * Int32.ofInt y := Int32.toBitVec.inj (by simp [BitVec.ofInt_mul])
theorem i64_add (x y : Int) : Int64.ofInt (x + y) = Int64.ofInt x + Int64.ofInt y := Int64.toBitVec.inj (by simp [BitVec.ofInt_add])
theorem i32_to {x : Int} (h : -2147483648 ≤ x ∧ x ≤ 2147483647) : (Int32.ofInt x).toInt = x := Int32.toInt_ofInt_of_le (by omega) (by omega)
theorem i32_lt {x y : Int} (hx : -2147483648 ≤ x ∧ x ≤ 2147483647) (hy : -2147483648 ≤ y ∧ y ≤ 2147483647) : Int32.ofInt x < Int32.ofInt y ↔ x < y := by
  rw [Int32.lt_iff_toInt_lt, i32_to hx, i32_to hy]
theorem i32_le {x y : Int} (hx : -2147483648 ≤ x ∧ x ≤ 2147483647) (hy : -2147483648 ≤ y ∧ y ≤ 2147483647) : Int32.ofInt x ≤ Int32.ofInt y ↔ x ≤ y := by
  rw [Int32.le_iff_toInt_le, i32_to hx, i32_to hy]
theorem i32_eq {x y : Int} (hx : -2147483648 ≤ x ∧ x ≤ 2147483647) (hy : -2147483648 ≤ y ∧ y ≤ 2147483647) : Int32.ofInt x = Int32.ofInt y ↔ x = y := by
  rw [← Int32.toInt_inj, i32_to hx, i32_to hy]
theorem i32_0 : (0 : Int32) = Int32.ofInt 0 := rfl
theorem i32_clamp {x : Int} (h : 0 ≤ x ∧ x ≤ 2147483647) : (Int32.ofInt x).toNatClampNeg = x.toNat := Int32.toNatClampNeg_ofInt_of_le (by omega) (by omega)
theorem i32_in {x : Int} {n : Nat} (h : 0 ≤ x ∧ x < n) (hn : n ≤ 2147483647) : vp_in (Int32.ofInt x) n := by
  rw [vp_in_iff, i32_to (by omega)]
  exact h
theorem i32_rem {x y : Int} (hx : -2147483648 ≤ x ∧ x ≤ 2147483647) (hy : -2147483648 ≤ y ∧ y ≤ 2147483647) : Int32.ofInt x - Int32.ofInt x / Int32.ofInt y * Int32.ofInt y = Int32.ofInt (x.tmod y) := by
  rw [← Int32.toInt_inj, rem_toInt, i32_to hx, i32_to hy, i32_to]
  have h1 := Int.natAbs_tmod x y
  have h2 : x.natAbs % y.natAbs ≤ x.natAbs := Nat.mod_le _ _
  have h3 : (x.tmod y).natAbs ≤ x.natAbs := by omega
  by_cases h : 0 ≤ x
  · have := Int.tmod_nonneg y h
    omega
  · have h4 : (-x).tmod y = -(x.tmod y) := Int.neg_tmod x y
    have h5 := Int.tmod_nonneg y (show 0 ≤ -x by omega)
    omega
theorem i32_div {x y : Int} (hx : 0 ≤ x ∧ x ≤ 2147483647) (hy : 0 < y ∧ y ≤ 2147483647) : Int32.ofInt x / Int32.ofInt y = Int32.ofInt (x / y) := by
  have e : x / y = x.tdiv y := (Int.tdiv_eq_ediv_of_nonneg hx.1).symm
  have h1 : 0 ≤ x / y := Int.ediv_nonneg hx.1 (by omega)
  have h2 : x / y ≤ x := Int.ediv_le_self y hx.1
  rw [← Int32.toInt_inj, Int32.toInt_div, i32_to (by omega), i32_to (by omega), i32_to (by omega), ← e, Int.bmod_eq_of_le (by omega) (by omega)]
def zb (c : Prop) [Decidable c] : Int := if c then 1 else 0
theorem zb_01 (c : Prop) [Decidable c] : zb c = 0 ∨ zb c = 1 := by unfold zb; split <;> simp
theorem zb_t {c : Prop} [Decidable c] (h : c) : zb c = 1 := if_pos h
theorem zb_f {c : Prop} [Decidable c] (h : ¬ c) : zb c = 0 := if_neg h
theorem tv_zb {x : Int} (h : x = 0 ∨ x = 1) : narrow .boolean (.int (Int32.ofInt x)) = .int (Int32.ofInt x) ∧ fits .boolean (.int (Int32.ofInt x)) = true := by
  rcases h with rfl | rfl <;> exact ⟨by decide, by decide⟩
theorem zks_small (a : Nat) : (zks a).2 ≤ 1146 := by
  by_cases h : a < 56
  · have : ∀ b, b < 56 → (zks b).2 ≤ 1146 := by decide
    exact this a h
  · unfold zks
    rw [List.getD_eq_getElem?_getD, List.getElem?_eq_none (Nat.le_of_not_lt h)]
    decide
def zls (r : Nat → Nat) (lv : List zV) : List (Nat × Value) := (List.range lv.length).filterMap (fun j => if vuse (lv.getD j vU) then some (j, tv r (lv.getD j vU)) else none)
theorem zls_mem {r : Nat → Nat} {lv : List zV} {q : Nat × Value} : q ∈ zls r lv ↔ ∃ v, lv[q.1]? = some v ∧ vuse v = true ∧ q.2 = tv r v := by
  constructor
  · intro h
    obtain ⟨j, hj, he⟩ := List.mem_filterMap.mp h
    have hj := List.mem_range.mp hj
    by_cases hu : vuse (lv.getD j vU) = true
    · rw [if_pos hu] at he
      cases he
      refine ⟨lv.getD j vU, ?_, hu, rfl⟩
      simp [List.getD_eq_getElem?_getD, hj]
    · rw [if_neg hu] at he
      cases he
  · rintro ⟨v, h1, h2, h3⟩
    have hj : q.1 < lv.length := (List.getElem?_eq_some_iff.mp h1).1
    have e : lv.getD q.1 vU = v := by rw [List.getD_eq_getElem?_getD, h1]; rfl
    refine List.mem_filterMap.mpr ⟨q.1, List.mem_range.mpr hj, ?_⟩
    rw [e, if_pos h2, ← h3]
theorem zl_has {r : Nat → Nat} {ls : Array Slot} {nL : Nat} {lv : List zV} (h : zl r ls nL lv) : lv_has ls nL (zls r lv) := by
  refine ⟨h.1, h.2.1, fun q hq => ?_⟩
  obtain ⟨v, h1, h2, h3⟩ := zls_mem.mp hq
  rw [h3]
  exact h.2.2 q.1 v h1 h2
theorem zl_one {r : Nat → Nat} {ls : Array Slot} {nL : Nat} {lv : List zV} {i : Nat} {v : zV} (h : zl r ls nL lv) (hi : lv[i]? = some v) (hu : vuse v = true) : ls[i]? = some (.val (tv r v)) := h.2.2 i v hi hu
theorem zl_back {r : Nat → Nat} {ls : Array Slot} {nL : Nat} {lv : List zV} {i : Nat} {v : zV} (h : lv_has ls nL ((i, tv r v) :: (zls r lv).filter (fun q => !(q.1 == i) && !(q.1 + 1 == i && q.2.category == 2)))) (hp : ∀ w, 0 < i → lv[i - 1]? = some w → vlong w = false) : zl r ls nL (lv.set i v) := by
  refine ⟨h.1, h.2.1, fun j w hj hu => ?_⟩
  by_cases hji : j = i
  · subst hji
    have hl : j < lv.length := by
      have := (List.getElem?_eq_some_iff.mp hj).1
      simpa using this
    rw [List.getElem?_set_self hl] at hj
    cases hj
    exact h.2.2 (j, tv r v) List.mem_cons_self
  · rw [List.getElem?_set_ne (Ne.symm hji)] at hj
    refine h.2.2 (j, tv r w) (List.mem_cons_of_mem _ (List.mem_filter.mpr ⟨zls_mem.mpr ⟨w, hj, hu, rfl⟩, ?_⟩))
    by_cases hji2 : j + 1 = i
    · have h2 := hp w (by omega) (by rw [← hji2]; exact hj)
      have h3 : (tv r w).category = 1 := by rw [tv_cat]; simp [vw, h2]
      simp [hji, h3]
    · simp [hji, hji2]
theorem zl_back2 {r : Nat → Nat} {ls : Array Slot} {nL : Nat} {lv : List zV} {i : Nat} {v : zV} (h : lv_has ls nL ((i, tv r v) :: (zls r lv).filter (fun q => !(q.1 == i) && (!(q.1 == i + 1) && !(q.1 + 1 == i && q.2.category == 2))))) (hp : ∀ w, 0 < i → lv[i - 1]? = some w → vlong w = false) : zl r ls nL ((lv.set i v).set (i + 1) vU) := by
  refine ⟨h.1, h.2.1, fun j w hj hu => ?_⟩
  by_cases hj1 : j = i + 1
  · subst hj1
    have hl : i + 1 < (lv.set i v).length := by
      have := (List.getElem?_eq_some_iff.mp hj).1
      simpa using this
    rw [List.getElem?_set_self hl] at hj
    cases hj
    cases hu
  · rw [List.getElem?_set_ne (Ne.symm hj1)] at hj
    by_cases hji : j = i
    · subst hji
      have hl : j < lv.length := by
        have := (List.getElem?_eq_some_iff.mp hj).1
        simpa using this
      rw [List.getElem?_set_self hl] at hj
      cases hj
      exact h.2.2 (j, tv r v) List.mem_cons_self
    · rw [List.getElem?_set_ne (Ne.symm hji)] at hj
      refine h.2.2 (j, tv r w) (List.mem_cons_of_mem _ (List.mem_filter.mpr ⟨zls_mem.mpr ⟨w, hj, hu, rfl⟩, ?_⟩))
      by_cases hji2 : j + 1 = i
      · have h2 := hp w (by omega) (by rw [← hji2]; exact hj)
        have h3 : (tv r w).category = 1 := by rw [tv_cat]; simp [vw, h2]
        simp [hji, hj1, h3]
      · simp [hji, hj1, hji2]
section ZR
variable {M : zM} {post : Option zV → zH → Prop} {pc : Nat} {lv st : List zV} {h : zH}
theorem z_iconst {n : Int} (hd : decode M.2.1 pc = .ok (.iconst n, 1)) (k : Z M post (pc + 1) lv (vI n :: st) h) : Z M post pc lv (st) h := by
  intro p l e s m args below meth c D r ca B H locs ls P L
  have k := k p l e s m args below meth c D r ca B H locs ls P L
  exact lv_iconst B.1 B.2.1 hd rfl k
theorem z_bipush {n : Int} (hn : (Int8.ofInt n).toInt32 = Int32.ofInt n) (hd : decode M.2.1 pc = .ok (.bipush n, 2)) (k : Z M post (pc + 2) lv (vI n :: st) h) : Z M post pc lv st h := by
  intro p l e s m args below meth c D r ca B H locs ls P L
  have k := k p l e s m args below meth c D r ca B H locs ls P L
  exact lv_bipush B.1 B.2.1 hd hn k
theorem z_sipush {n : Int} (hn : (Int16.ofInt n).toInt32 = Int32.ofInt n) (hd : decode M.2.1 pc = .ok (.sipush n, 3)) (k : Z M post (pc + 3) lv (vI n :: st) h) : Z M post pc lv st h := by
  intro p l e s m args below meth c D r ca B H locs ls P L
  have k := k p l e s m args below meth c D r ca B H locs ls P L
  exact lv_sipush B.1 B.2.1 hd hn k
theorem z_lconst0 (hd : decode M.2.1 pc = .ok (.lconst 0, 1)) (k : Z M post (pc + 1) lv (vL 0 :: st) h) : Z M post pc lv st h := by
  intro p l e s m args below meth c D r ca B H locs ls P L
  have k := k p l e s m args below meth c D r ca B H locs ls P L
  exact lv_lconst B.1 B.2.1 hd (by decide) k
theorem z_lconst1 (hd : decode M.2.1 pc = .ok (.lconst 1, 1)) (k : Z M post (pc + 1) lv (vL 1 :: st) h) : Z M post pc lv st h := by
  intro p l e s m args below meth c D r ca B H locs ls P L
  have k := k p l e s m args below meth c D r ca B H locs ls P L
  exact lv_lconst B.1 B.2.1 hd (by decide) k
theorem z_ldc {idx : Nat} (n : Int) (hw : Cond.constant M.1.cls idx (Int32.ofInt n) ∈ zt) (hd : decode M.2.1 pc = .ok (.ldc idx, 2)) (k : Z M post (pc + 2) lv (vI n :: st) h) : Z M post pc lv st h := by
  intro p l e s m args below meth c D r ca B H locs ls P L
  have k := k p l e s m args below meth c D r ca B H locs ls P L
  exact lv_ldc B.1 B.2.1 B.2.2.2.1 (B.2.2.2.2.1 _ hw) hd k
theorem z_ldc2 {idx : Nat} (n : Int) (hw : Cond.constantLong M.1.cls idx (Int64.ofInt n) ∈ zt) (hd : decode M.2.1 pc = .ok (.ldc2_w idx, 3)) (k : Z M post (pc + 3) lv (vL n :: st) h) : Z M post pc lv st h := by
  intro p l e s m args below meth c D r ca B H locs ls P L
  have k := k p l e s m args below meth c D r ca B H locs ls P L
  exact lv_ldc2 B.1 B.2.1 B.2.2.2.1 (B.2.2.2.2.1 _ hw) hd k
theorem z_iload_n {i : Fin 4} {x : Int} (hd : decode M.2.1 pc = .ok (.iload_n i, 1)) (hl : lv[(i : Nat)]? = some (vI x)) (k : Z M post (pc + 1) lv (vI x :: st) h) : Z M post pc lv st h := by
  intro p l e s m args below meth c D r ca B H locs ls P L
  have k := k p l e s m args below meth c D r ca B H locs ls P L
  exact lv_iload_n B.1 B.2.1 hd rfl (zl_one L hl rfl) k
theorem z_iload {i : Nat} {x : Int} (hd : decode M.2.1 pc = .ok (.iload i, 2)) (hl : lv[i]? = some (vI x)) (k : Z M post (pc + 2) lv (vI x :: st) h) : Z M post pc lv st h := by
  intro p l e s m args below meth c D r ca B H locs ls P L
  have k := k p l e s m args below meth c D r ca B H locs ls P L
  exact lv_iload B.1 B.2.1 hd (zl_one L hl rfl) k
theorem z_lload_n {i : Fin 4} {x : Int} (hd : decode M.2.1 pc = .ok (.lload_n i, 1)) (hl : lv[(i : Nat)]? = some (vL x)) (k : Z M post (pc + 1) lv (vL x :: st) h) : Z M post pc lv st h := by
  intro p l e s m args below meth c D r ca B H locs ls P L
  have k := k p l e s m args below meth c D r ca B H locs ls P L
  exact lv_lload_n B.1 B.2.1 hd rfl (zl_one L hl rfl) k
theorem z_lload {i : Nat} {x : Int} (hd : decode M.2.1 pc = .ok (.lload i, 2)) (hl : lv[i]? = some (vL x)) (k : Z M post (pc + 2) lv (vL x :: st) h) : Z M post pc lv st h := by
  intro p l e s m args below meth c D r ca B H locs ls P L
  have k := k p l e s m args below meth c D r ca B H locs ls P L
  exact lv_lload B.1 B.2.1 hd (zl_one L hl rfl) k
theorem z_aload_n {i : Fin 4} {x : Nat} (hd : decode M.2.1 pc = .ok (.aload_n i, 1)) (hl : lv[(i : Nat)]? = some (vR x)) (k : Z M post (pc + 1) lv (vR x :: st) h) : Z M post pc lv st h := by
  intro p l e s m args below meth c D r ca B H locs ls P L
  have k := k p l e s m args below meth c D r ca B H locs ls P L
  exact lv_aload_n B.1 B.2.1 hd rfl (zl_one L hl rfl) k
theorem z_aload {i : Nat} {x : Nat} (hd : decode M.2.1 pc = .ok (.aload i, 2)) (hl : lv[i]? = some (vR x)) (k : Z M post (pc + 2) lv (vR x :: st) h) : Z M post pc lv st h := by
  intro p l e s m args below meth c D r ca B H locs ls P L
  have k := k p l e s m args below meth c D r ca B H locs ls P L
  exact lv_aload B.1 B.2.1 hd (zl_one L hl rfl) k
theorem zg_istore_n {i : Fin 4} {x : Int} (hd : decode M.2.1 pc = .ok (.istore_n i, 1)) (hn : (i : Nat) < M.2.2.1) (hp : ∀ w, 0 < (i : Nat) → lv[(i : Nat) - 1]? = some w → vlong w = false) (k : Z M post (pc + 1) (lv.set i (vI x)) st h) : Z M post pc lv (vI x :: st) h := by
  intro p l e s m args below meth c D r ca B H locs ls P L
  exact lv_istore_n B.1 B.2.1 hd rfl (zl_has L) hn rfl (fun ls2 L2 => k p l e s m args below meth c D r ca B H locs ls2 P (zl_back (v := vI x) L2 hp))
theorem zg_istore {i : Nat} {x : Int} (hd : decode M.2.1 pc = .ok (.istore i, 2)) (hn : i < M.2.2.1) (hp : ∀ w, 0 < i → lv[i - 1]? = some w → vlong w = false) (k : Z M post (pc + 2) (lv.set i (vI x)) st h) : Z M post pc lv (vI x :: st) h := by
  intro p l e s m args below meth c D r ca B H locs ls P L
  exact lv_istore B.1 B.2.1 hd (zl_has L) hn rfl (fun ls2 L2 => k p l e s m args below meth c D r ca B H locs ls2 P (zl_back (v := vI x) L2 hp))
theorem zg_astore_n {i : Fin 4} {x : Nat} (hd : decode M.2.1 pc = .ok (.astore_n i, 1)) (hn : (i : Nat) < M.2.2.1) (hp : ∀ w, 0 < (i : Nat) → lv[(i : Nat) - 1]? = some w → vlong w = false) (k : Z M post (pc + 1) (lv.set i (vR x)) st h) : Z M post pc lv (vR x :: st) h := by
  intro p l e s m args below meth c D r ca B H locs ls P L
  exact lv_astore_n B.1 B.2.1 hd rfl (zl_has L) hn rfl (fun ls2 L2 => k p l e s m args below meth c D r ca B H locs ls2 P (zl_back (v := vR x) L2 hp))
theorem zg_astore {i : Nat} {x : Nat} (hd : decode M.2.1 pc = .ok (.astore i, 2)) (hn : i < M.2.2.1) (hp : ∀ w, 0 < i → lv[i - 1]? = some w → vlong w = false) (k : Z M post (pc + 2) (lv.set i (vR x)) st h) : Z M post pc lv (vR x :: st) h := by
  intro p l e s m args below meth c D r ca B H locs ls P L
  exact lv_astore B.1 B.2.1 hd (zl_has L) hn rfl (fun ls2 L2 => k p l e s m args below meth c D r ca B H locs ls2 P (zl_back (v := vR x) L2 hp))
theorem zg_lstore_n {i : Fin 4} {x : Int} (hd : decode M.2.1 pc = .ok (.lstore_n i, 1)) (hn : (i : Nat) + 1 < M.2.2.1) (hp : ∀ w, 0 < (i : Nat) → lv[(i : Nat) - 1]? = some w → vlong w = false) (k : Z M post (pc + 1) ((lv.set i (vL x)).set (i + 1) vU) st h) : Z M post pc lv (vL x :: st) h := by
  intro p l e s m args below meth c D r ca B H locs ls P L
  exact lv_lstore_n B.1 B.2.1 hd rfl (zl_has L) hn rfl (fun ls2 L2 => k p l e s m args below meth c D r ca B H locs ls2 P (zl_back2 (v := vL x) L2 hp))
theorem zg_iinc {i : Nat} {n x : Int} (hd : decode M.2.1 pc = .ok (.iinc i n, 3)) (hl : lv[i]? = some (vI x)) (hn : i < M.2.2.1) (hp : ∀ w, 0 < i → lv[i - 1]? = some w → vlong w = false) (k : Z M post (pc + 3) (lv.set i (vI (x + n))) st h) : Z M post pc lv st h := by
  intro p l e s m args below meth c D r ca B H locs ls P L
  have hm : (i, Value.int (Int32.ofInt x)) ∈ zls r lv := zls_mem.mpr ⟨vI x, hl, rfl, rfl⟩
  obtain ⟨j, hj⟩ := List.getElem?_of_mem hm
  exact lv_iinc B.1 B.2.1 hd (zl_has L) hj (i32_add x n).symm hn rfl (fun ls2 L2 => k p l e s m args below meth c D r ca B H locs ls2 P (zl_back (v := vI (x + n)) L2 hp))
theorem z_istore_0 {a0 : zV} {x : Int} (hd : decode M.2.1 pc = .ok (.istore_n 0, 1)) (hn : 0 < M.2.2.1) (k : Z M post (pc + 1) (vI x :: lv) st h) : Z M post pc (a0 :: lv) (vI x :: st) h := zg_istore_n hd hn (fun w h0 _ => absurd h0 (Nat.lt_irrefl 0)) k
theorem z_astore_0 {a0 : zV} {x : Nat} (hd : decode M.2.1 pc = .ok (.astore_n 0, 1)) (hn : 0 < M.2.2.1) (k : Z M post (pc + 1) (vR x :: lv) st h) : Z M post pc (a0 :: lv) (vR x :: st) h := zg_astore_n hd hn (fun w h0 _ => absurd h0 (Nat.lt_irrefl 0)) k
theorem z_iinc_0 {n x : Int} (hd : decode M.2.1 pc = .ok (.iinc 0 n, 3)) (hn : 0 < M.2.2.1) (k : Z M post (pc + 3) (vI (x + n) :: lv) st h) : Z M post pc (vI x :: lv) st h := zg_iinc hd rfl hn (fun w h0 _ => absurd h0 (Nat.lt_irrefl 0)) k
theorem z_istore_1 {a0 a1 : zV} {x : Int} (hd : decode M.2.1 pc = .ok (.istore_n 1, 1)) (hn : 1 < M.2.2.1) (hp : vlong a0 = false) (k : Z M post (pc + 1) (a0 :: vI x :: lv) st h) : Z M post pc (a0 :: a1 :: lv) (vI x :: st) h := zg_istore_n hd hn (fun w _ hw => by cases hw; exact hp) k
theorem z_astore_1 {a0 a1 : zV} {x : Nat} (hd : decode M.2.1 pc = .ok (.astore_n 1, 1)) (hn : 1 < M.2.2.1) (hp : vlong a0 = false) (k : Z M post (pc + 1) (a0 :: vR x :: lv) st h) : Z M post pc (a0 :: a1 :: lv) (vR x :: st) h := zg_astore_n hd hn (fun w _ hw => by cases hw; exact hp) k
theorem z_iinc_1 {a0 : zV} {n x : Int} (hd : decode M.2.1 pc = .ok (.iinc 1 n, 3)) (hn : 1 < M.2.2.1) (hp : vlong a0 = false) (k : Z M post (pc + 3) (a0 :: vI (x + n) :: lv) st h) : Z M post pc (a0 :: vI x :: lv) st h := zg_iinc hd rfl hn (fun w _ hw => by cases hw; exact hp) k
theorem z_istore_2 {a0 a1 a2 : zV} {x : Int} (hd : decode M.2.1 pc = .ok (.istore_n 2, 1)) (hn : 2 < M.2.2.1) (hp : vlong a1 = false) (k : Z M post (pc + 1) (a0 :: a1 :: vI x :: lv) st h) : Z M post pc (a0 :: a1 :: a2 :: lv) (vI x :: st) h := zg_istore_n hd hn (fun w _ hw => by cases hw; exact hp) k
theorem z_astore_2 {a0 a1 a2 : zV} {x : Nat} (hd : decode M.2.1 pc = .ok (.astore_n 2, 1)) (hn : 2 < M.2.2.1) (hp : vlong a1 = false) (k : Z M post (pc + 1) (a0 :: a1 :: vR x :: lv) st h) : Z M post pc (a0 :: a1 :: a2 :: lv) (vR x :: st) h := zg_astore_n hd hn (fun w _ hw => by cases hw; exact hp) k
theorem z_iinc_2 {a0 a1 : zV} {n x : Int} (hd : decode M.2.1 pc = .ok (.iinc 2 n, 3)) (hn : 2 < M.2.2.1) (hp : vlong a1 = false) (k : Z M post (pc + 3) (a0 :: a1 :: vI (x + n) :: lv) st h) : Z M post pc (a0 :: a1 :: vI x :: lv) st h := zg_iinc hd rfl hn (fun w _ hw => by cases hw; exact hp) k
theorem z_istore_3 {a0 a1 a2 a3 : zV} {x : Int} (hd : decode M.2.1 pc = .ok (.istore_n 3, 1)) (hn : 3 < M.2.2.1) (hp : vlong a2 = false) (k : Z M post (pc + 1) (a0 :: a1 :: a2 :: vI x :: lv) st h) : Z M post pc (a0 :: a1 :: a2 :: a3 :: lv) (vI x :: st) h := zg_istore_n hd hn (fun w _ hw => by cases hw; exact hp) k
theorem z_astore_3 {a0 a1 a2 a3 : zV} {x : Nat} (hd : decode M.2.1 pc = .ok (.astore_n 3, 1)) (hn : 3 < M.2.2.1) (hp : vlong a2 = false) (k : Z M post (pc + 1) (a0 :: a1 :: a2 :: vR x :: lv) st h) : Z M post pc (a0 :: a1 :: a2 :: a3 :: lv) (vR x :: st) h := zg_astore_n hd hn (fun w _ hw => by cases hw; exact hp) k
theorem z_iinc_3 {a0 a1 a2 : zV} {n x : Int} (hd : decode M.2.1 pc = .ok (.iinc 3 n, 3)) (hn : 3 < M.2.2.1) (hp : vlong a2 = false) (k : Z M post (pc + 3) (a0 :: a1 :: a2 :: vI (x + n) :: lv) st h) : Z M post pc (a0 :: a1 :: a2 :: vI x :: lv) st h := zg_iinc hd rfl hn (fun w _ hw => by cases hw; exact hp) k
theorem z_istore_4 {a0 a1 a2 a3 a4 : zV} {x : Int} (hd : decode M.2.1 pc = .ok (.istore 4, 2)) (hn : 4 < M.2.2.1) (hp : vlong a3 = false) (k : Z M post (pc + 2) (a0 :: a1 :: a2 :: a3 :: vI x :: lv) st h) : Z M post pc (a0 :: a1 :: a2 :: a3 :: a4 :: lv) (vI x :: st) h := zg_istore hd hn (fun w _ hw => by cases hw; exact hp) k
theorem z_astore_4 {a0 a1 a2 a3 a4 : zV} {x : Nat} (hd : decode M.2.1 pc = .ok (.astore 4, 2)) (hn : 4 < M.2.2.1) (hp : vlong a3 = false) (k : Z M post (pc + 2) (a0 :: a1 :: a2 :: a3 :: vR x :: lv) st h) : Z M post pc (a0 :: a1 :: a2 :: a3 :: a4 :: lv) (vR x :: st) h := zg_astore hd hn (fun w _ hw => by cases hw; exact hp) k
theorem z_iinc_4 {a0 a1 a2 a3 : zV} {n x : Int} (hd : decode M.2.1 pc = .ok (.iinc 4 n, 3)) (hn : 4 < M.2.2.1) (hp : vlong a3 = false) (k : Z M post (pc + 3) (a0 :: a1 :: a2 :: a3 :: vI (x + n) :: lv) st h) : Z M post pc (a0 :: a1 :: a2 :: a3 :: vI x :: lv) st h := zg_iinc hd rfl hn (fun w _ hw => by cases hw; exact hp) k
theorem z_istore_5 {a0 a1 a2 a3 a4 a5 : zV} {x : Int} (hd : decode M.2.1 pc = .ok (.istore 5, 2)) (hn : 5 < M.2.2.1) (hp : vlong a4 = false) (k : Z M post (pc + 2) (a0 :: a1 :: a2 :: a3 :: a4 :: vI x :: lv) st h) : Z M post pc (a0 :: a1 :: a2 :: a3 :: a4 :: a5 :: lv) (vI x :: st) h := zg_istore hd hn (fun w _ hw => by cases hw; exact hp) k
theorem z_astore_5 {a0 a1 a2 a3 a4 a5 : zV} {x : Nat} (hd : decode M.2.1 pc = .ok (.astore 5, 2)) (hn : 5 < M.2.2.1) (hp : vlong a4 = false) (k : Z M post (pc + 2) (a0 :: a1 :: a2 :: a3 :: a4 :: vR x :: lv) st h) : Z M post pc (a0 :: a1 :: a2 :: a3 :: a4 :: a5 :: lv) (vR x :: st) h := zg_astore hd hn (fun w _ hw => by cases hw; exact hp) k
theorem z_iinc_5 {a0 a1 a2 a3 a4 : zV} {n x : Int} (hd : decode M.2.1 pc = .ok (.iinc 5 n, 3)) (hn : 5 < M.2.2.1) (hp : vlong a4 = false) (k : Z M post (pc + 3) (a0 :: a1 :: a2 :: a3 :: a4 :: vI (x + n) :: lv) st h) : Z M post pc (a0 :: a1 :: a2 :: a3 :: a4 :: vI x :: lv) st h := zg_iinc hd rfl hn (fun w _ hw => by cases hw; exact hp) k
theorem z_istore_6 {a0 a1 a2 a3 a4 a5 a6 : zV} {x : Int} (hd : decode M.2.1 pc = .ok (.istore 6, 2)) (hn : 6 < M.2.2.1) (hp : vlong a5 = false) (k : Z M post (pc + 2) (a0 :: a1 :: a2 :: a3 :: a4 :: a5 :: vI x :: lv) st h) : Z M post pc (a0 :: a1 :: a2 :: a3 :: a4 :: a5 :: a6 :: lv) (vI x :: st) h := zg_istore hd hn (fun w _ hw => by cases hw; exact hp) k
theorem z_astore_6 {a0 a1 a2 a3 a4 a5 a6 : zV} {x : Nat} (hd : decode M.2.1 pc = .ok (.astore 6, 2)) (hn : 6 < M.2.2.1) (hp : vlong a5 = false) (k : Z M post (pc + 2) (a0 :: a1 :: a2 :: a3 :: a4 :: a5 :: vR x :: lv) st h) : Z M post pc (a0 :: a1 :: a2 :: a3 :: a4 :: a5 :: a6 :: lv) (vR x :: st) h := zg_astore hd hn (fun w _ hw => by cases hw; exact hp) k
theorem z_iinc_6 {a0 a1 a2 a3 a4 a5 : zV} {n x : Int} (hd : decode M.2.1 pc = .ok (.iinc 6 n, 3)) (hn : 6 < M.2.2.1) (hp : vlong a5 = false) (k : Z M post (pc + 3) (a0 :: a1 :: a2 :: a3 :: a4 :: a5 :: vI (x + n) :: lv) st h) : Z M post pc (a0 :: a1 :: a2 :: a3 :: a4 :: a5 :: vI x :: lv) st h := zg_iinc hd rfl hn (fun w _ hw => by cases hw; exact hp) k
theorem z_istore_7 {a0 a1 a2 a3 a4 a5 a6 a7 : zV} {x : Int} (hd : decode M.2.1 pc = .ok (.istore 7, 2)) (hn : 7 < M.2.2.1) (hp : vlong a6 = false) (k : Z M post (pc + 2) (a0 :: a1 :: a2 :: a3 :: a4 :: a5 :: a6 :: vI x :: lv) st h) : Z M post pc (a0 :: a1 :: a2 :: a3 :: a4 :: a5 :: a6 :: a7 :: lv) (vI x :: st) h := zg_istore hd hn (fun w _ hw => by cases hw; exact hp) k
theorem z_astore_7 {a0 a1 a2 a3 a4 a5 a6 a7 : zV} {x : Nat} (hd : decode M.2.1 pc = .ok (.astore 7, 2)) (hn : 7 < M.2.2.1) (hp : vlong a6 = false) (k : Z M post (pc + 2) (a0 :: a1 :: a2 :: a3 :: a4 :: a5 :: a6 :: vR x :: lv) st h) : Z M post pc (a0 :: a1 :: a2 :: a3 :: a4 :: a5 :: a6 :: a7 :: lv) (vR x :: st) h := zg_astore hd hn (fun w _ hw => by cases hw; exact hp) k
theorem z_iinc_7 {a0 a1 a2 a3 a4 a5 a6 : zV} {n x : Int} (hd : decode M.2.1 pc = .ok (.iinc 7 n, 3)) (hn : 7 < M.2.2.1) (hp : vlong a6 = false) (k : Z M post (pc + 3) (a0 :: a1 :: a2 :: a3 :: a4 :: a5 :: a6 :: vI (x + n) :: lv) st h) : Z M post pc (a0 :: a1 :: a2 :: a3 :: a4 :: a5 :: a6 :: vI x :: lv) st h := zg_iinc hd rfl hn (fun w _ hw => by cases hw; exact hp) k
theorem z_istore_8 {a0 a1 a2 a3 a4 a5 a6 a7 a8 : zV} {x : Int} (hd : decode M.2.1 pc = .ok (.istore 8, 2)) (hn : 8 < M.2.2.1) (hp : vlong a7 = false) (k : Z M post (pc + 2) (a0 :: a1 :: a2 :: a3 :: a4 :: a5 :: a6 :: a7 :: vI x :: lv) st h) : Z M post pc (a0 :: a1 :: a2 :: a3 :: a4 :: a5 :: a6 :: a7 :: a8 :: lv) (vI x :: st) h := zg_istore hd hn (fun w _ hw => by cases hw; exact hp) k
theorem z_astore_8 {a0 a1 a2 a3 a4 a5 a6 a7 a8 : zV} {x : Nat} (hd : decode M.2.1 pc = .ok (.astore 8, 2)) (hn : 8 < M.2.2.1) (hp : vlong a7 = false) (k : Z M post (pc + 2) (a0 :: a1 :: a2 :: a3 :: a4 :: a5 :: a6 :: a7 :: vR x :: lv) st h) : Z M post pc (a0 :: a1 :: a2 :: a3 :: a4 :: a5 :: a6 :: a7 :: a8 :: lv) (vR x :: st) h := zg_astore hd hn (fun w _ hw => by cases hw; exact hp) k
theorem z_iinc_8 {a0 a1 a2 a3 a4 a5 a6 a7 : zV} {n x : Int} (hd : decode M.2.1 pc = .ok (.iinc 8 n, 3)) (hn : 8 < M.2.2.1) (hp : vlong a7 = false) (k : Z M post (pc + 3) (a0 :: a1 :: a2 :: a3 :: a4 :: a5 :: a6 :: a7 :: vI (x + n) :: lv) st h) : Z M post pc (a0 :: a1 :: a2 :: a3 :: a4 :: a5 :: a6 :: a7 :: vI x :: lv) st h := zg_iinc hd rfl hn (fun w _ hw => by cases hw; exact hp) k
theorem z_istore_9 {a0 a1 a2 a3 a4 a5 a6 a7 a8 a9 : zV} {x : Int} (hd : decode M.2.1 pc = .ok (.istore 9, 2)) (hn : 9 < M.2.2.1) (hp : vlong a8 = false) (k : Z M post (pc + 2) (a0 :: a1 :: a2 :: a3 :: a4 :: a5 :: a6 :: a7 :: a8 :: vI x :: lv) st h) : Z M post pc (a0 :: a1 :: a2 :: a3 :: a4 :: a5 :: a6 :: a7 :: a8 :: a9 :: lv) (vI x :: st) h := zg_istore hd hn (fun w _ hw => by cases hw; exact hp) k
theorem z_astore_9 {a0 a1 a2 a3 a4 a5 a6 a7 a8 a9 : zV} {x : Nat} (hd : decode M.2.1 pc = .ok (.astore 9, 2)) (hn : 9 < M.2.2.1) (hp : vlong a8 = false) (k : Z M post (pc + 2) (a0 :: a1 :: a2 :: a3 :: a4 :: a5 :: a6 :: a7 :: a8 :: vR x :: lv) st h) : Z M post pc (a0 :: a1 :: a2 :: a3 :: a4 :: a5 :: a6 :: a7 :: a8 :: a9 :: lv) (vR x :: st) h := zg_astore hd hn (fun w _ hw => by cases hw; exact hp) k
theorem z_iinc_9 {a0 a1 a2 a3 a4 a5 a6 a7 a8 : zV} {n x : Int} (hd : decode M.2.1 pc = .ok (.iinc 9 n, 3)) (hn : 9 < M.2.2.1) (hp : vlong a8 = false) (k : Z M post (pc + 3) (a0 :: a1 :: a2 :: a3 :: a4 :: a5 :: a6 :: a7 :: a8 :: vI (x + n) :: lv) st h) : Z M post pc (a0 :: a1 :: a2 :: a3 :: a4 :: a5 :: a6 :: a7 :: a8 :: vI x :: lv) st h := zg_iinc hd rfl hn (fun w _ hw => by cases hw; exact hp) k
theorem z_istore_10 {a0 a1 a2 a3 a4 a5 a6 a7 a8 a9 a10 : zV} {x : Int} (hd : decode M.2.1 pc = .ok (.istore 10, 2)) (hn : 10 < M.2.2.1) (hp : vlong a9 = false) (k : Z M post (pc + 2) (a0 :: a1 :: a2 :: a3 :: a4 :: a5 :: a6 :: a7 :: a8 :: a9 :: vI x :: lv) st h) : Z M post pc (a0 :: a1 :: a2 :: a3 :: a4 :: a5 :: a6 :: a7 :: a8 :: a9 :: a10 :: lv) (vI x :: st) h := zg_istore hd hn (fun w _ hw => by cases hw; exact hp) k
theorem z_astore_10 {a0 a1 a2 a3 a4 a5 a6 a7 a8 a9 a10 : zV} {x : Nat} (hd : decode M.2.1 pc = .ok (.astore 10, 2)) (hn : 10 < M.2.2.1) (hp : vlong a9 = false) (k : Z M post (pc + 2) (a0 :: a1 :: a2 :: a3 :: a4 :: a5 :: a6 :: a7 :: a8 :: a9 :: vR x :: lv) st h) : Z M post pc (a0 :: a1 :: a2 :: a3 :: a4 :: a5 :: a6 :: a7 :: a8 :: a9 :: a10 :: lv) (vR x :: st) h := zg_astore hd hn (fun w _ hw => by cases hw; exact hp) k
theorem z_iinc_10 {a0 a1 a2 a3 a4 a5 a6 a7 a8 a9 : zV} {n x : Int} (hd : decode M.2.1 pc = .ok (.iinc 10 n, 3)) (hn : 10 < M.2.2.1) (hp : vlong a9 = false) (k : Z M post (pc + 3) (a0 :: a1 :: a2 :: a3 :: a4 :: a5 :: a6 :: a7 :: a8 :: a9 :: vI (x + n) :: lv) st h) : Z M post pc (a0 :: a1 :: a2 :: a3 :: a4 :: a5 :: a6 :: a7 :: a8 :: a9 :: vI x :: lv) st h := zg_iinc hd rfl hn (fun w _ hw => by cases hw; exact hp) k
theorem z_istore_11 {a0 a1 a2 a3 a4 a5 a6 a7 a8 a9 a10 a11 : zV} {x : Int} (hd : decode M.2.1 pc = .ok (.istore 11, 2)) (hn : 11 < M.2.2.1) (hp : vlong a10 = false) (k : Z M post (pc + 2) (a0 :: a1 :: a2 :: a3 :: a4 :: a5 :: a6 :: a7 :: a8 :: a9 :: a10 :: vI x :: lv) st h) : Z M post pc (a0 :: a1 :: a2 :: a3 :: a4 :: a5 :: a6 :: a7 :: a8 :: a9 :: a10 :: a11 :: lv) (vI x :: st) h := zg_istore hd hn (fun w _ hw => by cases hw; exact hp) k
theorem z_astore_11 {a0 a1 a2 a3 a4 a5 a6 a7 a8 a9 a10 a11 : zV} {x : Nat} (hd : decode M.2.1 pc = .ok (.astore 11, 2)) (hn : 11 < M.2.2.1) (hp : vlong a10 = false) (k : Z M post (pc + 2) (a0 :: a1 :: a2 :: a3 :: a4 :: a5 :: a6 :: a7 :: a8 :: a9 :: a10 :: vR x :: lv) st h) : Z M post pc (a0 :: a1 :: a2 :: a3 :: a4 :: a5 :: a6 :: a7 :: a8 :: a9 :: a10 :: a11 :: lv) (vR x :: st) h := zg_astore hd hn (fun w _ hw => by cases hw; exact hp) k
theorem z_iinc_11 {a0 a1 a2 a3 a4 a5 a6 a7 a8 a9 a10 : zV} {n x : Int} (hd : decode M.2.1 pc = .ok (.iinc 11 n, 3)) (hn : 11 < M.2.2.1) (hp : vlong a10 = false) (k : Z M post (pc + 3) (a0 :: a1 :: a2 :: a3 :: a4 :: a5 :: a6 :: a7 :: a8 :: a9 :: a10 :: vI (x + n) :: lv) st h) : Z M post pc (a0 :: a1 :: a2 :: a3 :: a4 :: a5 :: a6 :: a7 :: a8 :: a9 :: a10 :: vI x :: lv) st h := zg_iinc hd rfl hn (fun w _ hw => by cases hw; exact hp) k
theorem z_lstore_1 {a0 a1 a2 : zV} {x : Int} (hd : decode M.2.1 pc = .ok (.lstore_n 1, 1)) (hn : 2 < M.2.2.1) (hp : vlong a0 = false) (k : Z M post (pc + 1) (a0 :: vL x :: vU :: lv) st h) : Z M post pc (a0 :: a1 :: a2 :: lv) (vL x :: st) h := zg_lstore_n hd hn (fun w _ hw => by cases hw; exact hp) k
theorem z_iadd {x y : Int} (hd : decode M.2.1 pc = .ok (.iadd, 1)) (k : Z M post (pc + 1) lv (vI (x + y) :: st) h) : Z M post pc lv (vI y :: vI x :: st) h := by
  intro p l e s m args below meth c D r ca B H locs ls P L
  have k := k p l e s m args below meth c D r ca B H locs ls P L
  refine lv_iadd B.1 B.2.1 hd ?_
  rw [← i32_add]
  exact k
theorem z_isub {x y : Int} (hd : decode M.2.1 pc = .ok (.isub, 1)) (k : Z M post (pc + 1) lv (vI (x - y) :: st) h) : Z M post pc lv (vI y :: vI x :: st) h := by
  intro p l e s m args below meth c D r ca B H locs ls P L
  have k := k p l e s m args below meth c D r ca B H locs ls P L
  refine lv_isub B.1 B.2.1 hd ?_
  rw [← i32_sub]
  exact k
theorem z_imul {x y : Int} (hd : decode M.2.1 pc = .ok (.imul, 1)) (k : Z M post (pc + 1) lv (vI (x * y) :: st) h) : Z M post pc lv (vI y :: vI x :: st) h := by
  intro p l e s m args below meth c D r ca B H locs ls P L
  have k := k p l e s m args below meth c D r ca B H locs ls P L
  refine lv_imul B.1 B.2.1 hd ?_
  rw [← i32_mul]
  exact k
theorem z_ladd {x y : Int} (hd : decode M.2.1 pc = .ok (.ladd, 1)) (k : Z M post (pc + 1) lv (vL (x + y) :: st) h) : Z M post pc lv (vL y :: vL x :: st) h := by
  intro p l e s m args below meth c D r ca B H locs ls P L
  have k := k p l e s m args below meth c D r ca B H locs ls P L
  refine lv_ladd B.1 B.2.1 hd ?_
  rw [← i64_add]
  exact k
theorem z_irem {x y : Int} (hd : decode M.2.1 pc = .ok (.irem, 1)) (hx : -2147483648 ≤ x ∧ x ≤ 2147483647) (hy : -2147483648 ≤ y ∧ y ≤ 2147483647) (h0 : y ≠ 0) (k : Z M post (pc + 1) lv (vI (x.tmod y) :: st) h) : Z M post pc lv (vI y :: vI x :: st) h := by
  intro p l e s m args below meth c D r ca B H locs ls P L
  have k := k p l e s m args below meth c D r ca B H locs ls P L
  refine lv_irem B.1 B.2.1 hd (by rw [i32_0, i32_eq hy (by omega)]; exact h0) ?_
  rw [i32_rem hx hy]
  exact k
theorem z_irem_p {x y : Int} (hd : decode M.2.1 pc = .ok (.irem, 1)) (hx : 0 ≤ x ∧ x ≤ 2147483647) (hy : 0 < y ∧ y ≤ 2147483647) (k : Z M post (pc + 1) lv (vI (x % y) :: st) h) : Z M post pc lv (vI y :: vI x :: st) h := by
  refine z_irem hd (by omega) (by omega) (by omega) ?_
  rw [Int.tmod_eq_emod_of_nonneg hx.1]
  exact k
theorem z_idiv {x y : Int} (hd : decode M.2.1 pc = .ok (.idiv, 1)) (hx : 0 ≤ x ∧ x ≤ 2147483647) (hy : 0 < y ∧ y ≤ 2147483647) (k : Z M post (pc + 1) lv (vI (x / y) :: st) h) : Z M post pc lv (vI y :: vI x :: st) h := by
  intro p l e s m args below meth c D r ca B H locs ls P L
  have k := k p l e s m args below meth c D r ca B H locs ls P L
  refine lv_idiv B.1 B.2.1 hd (by rw [i32_0, i32_eq (by omega) (by omega)]; omega) ?_
  rw [i32_div hx hy]
  exact k
theorem z_dup {v : zV} (hv : vw v = 1) (hd : decode M.2.1 pc = .ok (.dup, 1)) (k : Z M post (pc + 1) lv (v :: v :: st) h) : Z M post pc lv (v :: st) h := by
  intro p l e s m args below meth c D r ca B H locs ls P L
  have k := k p l e s m args below meth c D r ca B H locs ls P L
  exact lv_dup B.1 B.2.1 hd (by rw [tv_cat]; exact hv) k
theorem z_pop {v : zV} (hv : vw v = 1) (hd : decode M.2.1 pc = .ok (.pop, 1)) (k : Z M post (pc + 1) lv st h) : Z M post pc lv (v :: st) h := by
  intro p l e s m args below meth c D r ca B H locs ls P L
  have k := k p l e s m args below meth c D r ca B H locs ls P L
  exact lv_pop B.1 B.2.1 hd (by rw [tv_cat]; exact hv) k
theorem z_dup_x1 {v w : zV} (hv : vw v = 1) (hw : vw w = 1) (hd : decode M.2.1 pc = .ok (.dup_x1, 1)) (k : Z M post (pc + 1) lv (v :: w :: v :: st) h) : Z M post pc lv (v :: w :: st) h := by
  intro p l e s m args below meth c D r ca B H locs ls P L
  have k := k p l e s m args below meth c D r ca B H locs ls P L
  exact lv_dup_x1 B.1 B.2.1 hd (by rw [tv_cat]; exact hv) (by rw [tv_cat]; exact hw) k
theorem z_dup2 {v w : zV} (hv : vw v = 1) (hw : vw w = 1) (hd : decode M.2.1 pc = .ok (.dup2, 1)) (k : Z M post (pc + 1) lv (v :: w :: v :: w :: st) h) : Z M post pc lv (v :: w :: st) h := by
  intro p l e s m args below meth c D r ca B H locs ls P L
  have k := k p l e s m args below meth c D r ca B H locs ls P L
  exact lv_dup2_11 B.1 B.2.1 hd (by rw [tv_cat]; exact hv) (by rw [tv_cat]; exact hw) k
theorem z_icmp_eq {x y off : Int} {tgt : Nat} (hd : decode M.2.1 pc = .ok (.if_icmp .eq off, 3)) (ht : (pc : Int) + off = (tgt : Int)) (hx : -2147483648 ≤ x ∧ x ≤ 2147483647) (hy : -2147483648 ≤ y ∧ y ≤ 2147483647) (kt : x = y → Z M post tgt lv st h) (kf : ¬ x = y → Z M post (pc + 3) lv st h) : Z M post pc lv (vI y :: vI x :: st) h := by
  intro p l e s m args below meth c D r ca B H locs ls P L
  exact lv_icmp_eq B.1 B.2.1 hd ht (fun q => kt (by exact (i32_eq hx hy).mp q) p l e s m args below meth c D r ca B H locs ls P L) (fun q => kf (by exact fun z => q ((i32_eq hx hy).mpr z)) p l e s m args below meth c D r ca B H locs ls P L)
theorem z_icmp_ne {x y off : Int} {tgt : Nat} (hd : decode M.2.1 pc = .ok (.if_icmp .ne off, 3)) (ht : (pc : Int) + off = (tgt : Int)) (hx : -2147483648 ≤ x ∧ x ≤ 2147483647) (hy : -2147483648 ≤ y ∧ y ≤ 2147483647) (kt : ¬ x = y → Z M post tgt lv st h) (kf : x = y → Z M post (pc + 3) lv st h) : Z M post pc lv (vI y :: vI x :: st) h := by
  intro p l e s m args below meth c D r ca B H locs ls P L
  exact lv_icmp_ne B.1 B.2.1 hd ht (fun q => kt (by exact fun z => q ((i32_eq hx hy).mpr z)) p l e s m args below meth c D r ca B H locs ls P L) (fun q => kf (by exact (i32_eq hx hy).mp q) p l e s m args below meth c D r ca B H locs ls P L)
theorem z_icmp_lt {x y off : Int} {tgt : Nat} (hd : decode M.2.1 pc = .ok (.if_icmp .lt off, 3)) (ht : (pc : Int) + off = (tgt : Int)) (hx : -2147483648 ≤ x ∧ x ≤ 2147483647) (hy : -2147483648 ≤ y ∧ y ≤ 2147483647) (kt : x < y → Z M post tgt lv st h) (kf : y ≤ x → Z M post (pc + 3) lv st h) : Z M post pc lv (vI y :: vI x :: st) h := by
  intro p l e s m args below meth c D r ca B H locs ls P L
  exact lv_icmp_lt B.1 B.2.1 hd ht (fun q => kt (by exact (i32_lt hx hy).mp q) p l e s m args below meth c D r ca B H locs ls P L) (fun q => kf (by exact Int.not_lt.mp (fun z => q ((i32_lt hx hy).mpr z))) p l e s m args below meth c D r ca B H locs ls P L)
theorem z_icmp_ge {x y off : Int} {tgt : Nat} (hd : decode M.2.1 pc = .ok (.if_icmp .ge off, 3)) (ht : (pc : Int) + off = (tgt : Int)) (hx : -2147483648 ≤ x ∧ x ≤ 2147483647) (hy : -2147483648 ≤ y ∧ y ≤ 2147483647) (kt : y ≤ x → Z M post tgt lv st h) (kf : x < y → Z M post (pc + 3) lv st h) : Z M post pc lv (vI y :: vI x :: st) h := by
  intro p l e s m args below meth c D r ca B H locs ls P L
  exact lv_icmp_ge B.1 B.2.1 hd ht (fun q => kt (by exact (i32_le hy hx).mp q) p l e s m args below meth c D r ca B H locs ls P L) (fun q => kf (by exact Int.not_le.mp (fun z => q ((i32_le hy hx).mpr z))) p l e s m args below meth c D r ca B H locs ls P L)
theorem z_icmp_gt {x y off : Int} {tgt : Nat} (hd : decode M.2.1 pc = .ok (.if_icmp .gt off, 3)) (ht : (pc : Int) + off = (tgt : Int)) (hx : -2147483648 ≤ x ∧ x ≤ 2147483647) (hy : -2147483648 ≤ y ∧ y ≤ 2147483647) (kt : y < x → Z M post tgt lv st h) (kf : x ≤ y → Z M post (pc + 3) lv st h) : Z M post pc lv (vI y :: vI x :: st) h := by
  intro p l e s m args below meth c D r ca B H locs ls P L
  exact lv_icmp_gt B.1 B.2.1 hd ht (fun q => kt (by exact (i32_lt hy hx).mp q) p l e s m args below meth c D r ca B H locs ls P L) (fun q => kf (by exact Int.not_lt.mp (fun z => q ((i32_lt hy hx).mpr z))) p l e s m args below meth c D r ca B H locs ls P L)
theorem z_icmp_le {x y off : Int} {tgt : Nat} (hd : decode M.2.1 pc = .ok (.if_icmp .le off, 3)) (ht : (pc : Int) + off = (tgt : Int)) (hx : -2147483648 ≤ x ∧ x ≤ 2147483647) (hy : -2147483648 ≤ y ∧ y ≤ 2147483647) (kt : x ≤ y → Z M post tgt lv st h) (kf : y < x → Z M post (pc + 3) lv st h) : Z M post pc lv (vI y :: vI x :: st) h := by
  intro p l e s m args below meth c D r ca B H locs ls P L
  exact lv_icmp_le B.1 B.2.1 hd ht (fun q => kt (by exact (i32_le hx hy).mp q) p l e s m args below meth c D r ca B H locs ls P L) (fun q => kf (by exact Int.not_le.mp (fun z => q ((i32_le hx hy).mpr z))) p l e s m args below meth c D r ca B H locs ls P L)
theorem z_if_eq {x off : Int} {tgt : Nat} (hd : decode M.2.1 pc = .ok (.ifCond .eq off, 3)) (ht : (pc : Int) + off = (tgt : Int)) (hx : -2147483648 ≤ x ∧ x ≤ 2147483647) (kt : x = 0 → Z M post tgt lv st h) (kf : ¬ x = 0 → Z M post (pc + 3) lv st h) : Z M post pc lv (vI x :: st) h := by
  intro p l e s m args below meth c D r ca B H locs ls P L
  have hy : -2147483648 ≤ (0 : Int) ∧ (0 : Int) ≤ 2147483647 := by omega
  exact lv_if_eq B.1 B.2.1 hd ht (fun q => kt (by rw [i32_0] at q; exact (i32_eq hx hy).mp q) p l e s m args below meth c D r ca B H locs ls P L) (fun q => kf (by rw [i32_0] at q; exact fun z => q ((i32_eq hx hy).mpr z)) p l e s m args below meth c D r ca B H locs ls P L)
theorem z_if_ne {x off : Int} {tgt : Nat} (hd : decode M.2.1 pc = .ok (.ifCond .ne off, 3)) (ht : (pc : Int) + off = (tgt : Int)) (hx : -2147483648 ≤ x ∧ x ≤ 2147483647) (kt : ¬ x = 0 → Z M post tgt lv st h) (kf : x = 0 → Z M post (pc + 3) lv st h) : Z M post pc lv (vI x :: st) h := by
  intro p l e s m args below meth c D r ca B H locs ls P L
  have hy : -2147483648 ≤ (0 : Int) ∧ (0 : Int) ≤ 2147483647 := by omega
  exact lv_if_ne B.1 B.2.1 hd ht (fun q => kt (by rw [i32_0] at q; exact fun z => q ((i32_eq hx hy).mpr z)) p l e s m args below meth c D r ca B H locs ls P L) (fun q => kf (by rw [i32_0] at q; exact (i32_eq hx hy).mp q) p l e s m args below meth c D r ca B H locs ls P L)
theorem z_if_lt {x off : Int} {tgt : Nat} (hd : decode M.2.1 pc = .ok (.ifCond .lt off, 3)) (ht : (pc : Int) + off = (tgt : Int)) (hx : -2147483648 ≤ x ∧ x ≤ 2147483647) (kt : x < 0 → Z M post tgt lv st h) (kf : 0 ≤ x → Z M post (pc + 3) lv st h) : Z M post pc lv (vI x :: st) h := by
  intro p l e s m args below meth c D r ca B H locs ls P L
  have hy : -2147483648 ≤ (0 : Int) ∧ (0 : Int) ≤ 2147483647 := by omega
  exact lv_if_lt B.1 B.2.1 hd ht (fun q => kt (by rw [i32_0] at q; exact (i32_lt hx hy).mp q) p l e s m args below meth c D r ca B H locs ls P L) (fun q => kf (by rw [i32_0] at q; exact Int.not_lt.mp (fun z => q ((i32_lt hx hy).mpr z))) p l e s m args below meth c D r ca B H locs ls P L)
theorem z_if_ge {x off : Int} {tgt : Nat} (hd : decode M.2.1 pc = .ok (.ifCond .ge off, 3)) (ht : (pc : Int) + off = (tgt : Int)) (hx : -2147483648 ≤ x ∧ x ≤ 2147483647) (kt : 0 ≤ x → Z M post tgt lv st h) (kf : x < 0 → Z M post (pc + 3) lv st h) : Z M post pc lv (vI x :: st) h := by
  intro p l e s m args below meth c D r ca B H locs ls P L
  have hy : -2147483648 ≤ (0 : Int) ∧ (0 : Int) ≤ 2147483647 := by omega
  exact lv_if_ge B.1 B.2.1 hd ht (fun q => kt (by rw [i32_0] at q; exact (i32_le hy hx).mp q) p l e s m args below meth c D r ca B H locs ls P L) (fun q => kf (by rw [i32_0] at q; exact Int.not_le.mp (fun z => q ((i32_le hy hx).mpr z))) p l e s m args below meth c D r ca B H locs ls P L)
theorem z_if_gt {x off : Int} {tgt : Nat} (hd : decode M.2.1 pc = .ok (.ifCond .gt off, 3)) (ht : (pc : Int) + off = (tgt : Int)) (hx : -2147483648 ≤ x ∧ x ≤ 2147483647) (kt : 0 < x → Z M post tgt lv st h) (kf : x ≤ 0 → Z M post (pc + 3) lv st h) : Z M post pc lv (vI x :: st) h := by
  intro p l e s m args below meth c D r ca B H locs ls P L
  have hy : -2147483648 ≤ (0 : Int) ∧ (0 : Int) ≤ 2147483647 := by omega
  exact lv_if_gt B.1 B.2.1 hd ht (fun q => kt (by rw [i32_0] at q; exact (i32_lt hy hx).mp q) p l e s m args below meth c D r ca B H locs ls P L) (fun q => kf (by rw [i32_0] at q; exact Int.not_lt.mp (fun z => q ((i32_lt hy hx).mpr z))) p l e s m args below meth c D r ca B H locs ls P L)
theorem z_if_le {x off : Int} {tgt : Nat} (hd : decode M.2.1 pc = .ok (.ifCond .le off, 3)) (ht : (pc : Int) + off = (tgt : Int)) (hx : -2147483648 ≤ x ∧ x ≤ 2147483647) (kt : x ≤ 0 → Z M post tgt lv st h) (kf : 0 < x → Z M post (pc + 3) lv st h) : Z M post pc lv (vI x :: st) h := by
  intro p l e s m args below meth c D r ca B H locs ls P L
  have hy : -2147483648 ≤ (0 : Int) ∧ (0 : Int) ≤ 2147483647 := by omega
  exact lv_if_le B.1 B.2.1 hd ht (fun q => kt (by rw [i32_0] at q; exact (i32_le hx hy).mp q) p l e s m args below meth c D r ca B H locs ls P L) (fun q => kf (by rw [i32_0] at q; exact Int.not_le.mp (fun z => q ((i32_le hx hy).mpr z))) p l e s m args below meth c D r ca B H locs ls P L)
theorem z_ifeqB {b : Prop} [Decidable b] {off : Int} {tgt : Nat} (hd : decode M.2.1 pc = .ok (.ifCond .eq off, 3)) (ht : (pc : Int) + off = (tgt : Int)) (kt : ¬ b → Z M post tgt lv st h) (kf : b → Z M post (pc + 3) lv st h) : Z M post pc lv (vI (zb b) :: st) h := by
  refine z_if_eq hd ht (by rcases zb_01 b with q | q <;> rw [q] <;> decide) (fun q => kt fun z => ?_) (fun q => kf (Classical.byContradiction fun z => ?_))
  · rw [zb_t z] at q; cases q
  · rw [zb_f z] at q; exact q rfl
theorem z_ifneB {b : Prop} [Decidable b] {off : Int} {tgt : Nat} (hd : decode M.2.1 pc = .ok (.ifCond .ne off, 3)) (ht : (pc : Int) + off = (tgt : Int)) (kt : b → Z M post tgt lv st h) (kf : ¬ b → Z M post (pc + 3) lv st h) : Z M post pc lv (vI (zb b) :: st) h := by
  refine z_if_ne hd ht (by rcases zb_01 b with q | q <;> rw [q] <;> decide) (fun q => kt (Classical.byContradiction fun z => ?_)) (fun q => kf fun z => ?_)
  · rw [zb_f z] at q; exact q rfl
  · rw [zb_t z] at q; cases q
theorem z_goto {off : Int} {tgt : Nat} (hd : decode M.2.1 pc = .ok (.goto off, 3)) (ht : (pc : Int) + off = (tgt : Int)) (k : Z M post tgt lv st h) : Z M post pc lv st h := by
  intro p l e s m args below meth c D r ca B H locs ls P L
  have k := k p l e s m args below meth c D r ca B H locs ls P L
  exact lv_goto B.1 B.2.1 hd ht k
theorem z_tabOut {dflt lo hi : Int} {offs : Array Int} {len : Nat} {x : Int} {tgt : Nat} (hd : decode M.2.1 pc = .ok (.tableswitch dflt lo hi offs, len)) (hx : -2147483648 ≤ x ∧ x ≤ 2147483647) (hq : x < lo ∨ hi < x) (ht : (pc : Int) + dflt = (tgt : Int)) (k : Z M post tgt lv st h) : Z M post pc lv (vI x :: st) h := by
  intro p l e s m args below meth c D r ca B H locs ls P L
  have k := k p l e s m args below meth c D r ca B H locs ls P L
  exact lv_tableOut B.1 B.2.1 hd (by rw [i32_to hx]; exact hq) ht k
theorem z_tabIn {dflt lo hi : Int} {offs : Array Int} {len : Nat} {x off : Int} {tgt : Nat} (hd : decode M.2.1 pc = .ok (.tableswitch dflt lo hi offs, len)) (hx : -2147483648 ≤ x ∧ x ≤ 2147483647) (h1 : lo ≤ x) (h2 : x ≤ hi) (ho : offs[(x - lo).toNat]? = some off) (ht : (pc : Int) + off = (tgt : Int)) (k : Z M post tgt lv st h) : Z M post pc lv (vI x :: st) h := by
  intro p l e s m args below meth c D r ca B H locs ls P L
  have k := k p l e s m args below meth c D r ca B H locs ls P L
  exact lv_tableIn B.1 B.2.1 hd (by rw [i32_to hx]; omega) (by rw [i32_to hx]; omega) (by rw [i32_to hx]; exact ho) ht k
theorem z_look {dflt : Int} {ps : Array (Int × Int)} {len : Nat} {x off : Int} {tgt : Nat} (hd : decode M.2.1 pc = .ok (.lookupswitch dflt ps, len)) (hp : (ps.toList.zip (ps.toList.drop 1)).all (fun (a, next) => a.1 < next.1) = true) (hx : -2147483648 ≤ x ∧ x ≤ 2147483647) (ho : Op.lookupswitch.offset ps.toList dflt x = off) (ht : (pc : Int) + off = (tgt : Int)) (k : Z M post tgt lv st h) : Z M post pc lv (vI x :: st) h := by
  intro p l e s m args below meth c D r ca B H locs ls P L
  have k := k p l e s m args below meth c D r ca B H locs ls P L
  exact lv_lookup B.1 B.2.1 hd hp (by rw [i32_to hx]; exact ho) ht k
theorem z_ireturn {x : Int} (hr : M.2.2.2.1 = some .int) (hd : decode M.2.1 pc = .ok (.ireturn, 1)) (hq : post (some (vI x)) h) : Z M post pc lv [vI x] h := by
  intro p l e s m args below meth c D r ca B H locs ls P L
  exact W.iret B.1 B.2.1 (B.2.2.2.2.2.1.trans hr) (fun t ht hW => ⟨some (vI x), h, hq, rfl, by rw [ht]; exact P.1, P.2.F ht⟩) P.2.2.2 hd B.2.2.2.2.2.2.1
theorem z_zreturn {x : Int} (hr : M.2.2.2.1 = some .boolean) (hx : x = 0 ∨ x = 1) (hd : decode M.2.1 pc = .ok (.ireturn, 1)) (hq : post (some (vI x)) h) : Z M post pc lv [vI x] h := by
  intro p l e s m args below meth c D r ca B H locs ls P L
  exact W.zret B.1 B.2.1 (B.2.2.2.2.2.1.trans hr) (tv_zb hx).1 (fun t ht hW => ⟨some (vI x), h, hq, rfl, by rw [ht]; exact P.1, P.2.F ht⟩) P.2.2.2 hd B.2.2.2.2.2.2.1
theorem z_lreturn {x : Int} (hr : M.2.2.2.1 = some .long) (hd : decode M.2.1 pc = .ok (.lreturn, 1)) (hq : post (some (vL x)) h) : Z M post pc lv [vL x] h := by
  intro p l e s m args below meth c D r ca B H locs ls P L
  exact W.lret B.1 B.2.1 (B.2.2.2.2.2.1.trans hr) (fun t ht hW => ⟨some (vL x), h, hq, rfl, by rw [ht]; exact P.1, P.2.F ht⟩) P.2.2.2 hd B.2.2.2.2.2.2.1
theorem z_return (hr : M.2.2.2.1 = none) (hd : decode M.2.1 pc = .ok (.return_, 1)) (hq : post none h) : Z M post pc lv [] h := by
  intro p l e s m args below meth c D r ca B H locs ls P L
  exact W.vret B.1 B.2.1 (B.2.2.2.2.2.1.trans hr) (fun t ht hW => ⟨none, h, hq, rfl, by rw [ht]; exact P.1, P.2.F ht⟩) P.2.2.2 hd B.2.2.2.2.2.2.1
end ZR
