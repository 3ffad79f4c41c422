/-! bits -/
theorem i32_n (a : Nat) : Int32.ofInt (a : Int) = nI a := Int32.ofInt_eq_ofNat
theorem i64_n (a : Nat) : Int64.ofInt (a : Int) = lN a := Int64.ofInt_eq_ofNat
theorem bt_sh : ∀ n, n < 32 → ((nI n &&& 31).toBitVec.smod 32).toNat = n := by decide
theorem bt_shl : ∀ n, n < 63 → ((nI n).toInt64 &&& 63).toBitVec.smod 64 = BitVec.ofNat 64 n := by decide
theorem bt_or (a b : Nat) : nI a ||| nI b = nI (a ||| b) := Int32.toBitVec.inj (by
  show BitVec.ofNat 32 a ||| BitVec.ofNat 32 b = BitVec.ofNat 32 (a ||| b)
  rw [BitVec.ofNat_or])
theorem bl_or (a b : Nat) : lN a ||| lN b = lN (a ||| b) := Int64.toBitVec.inj (by
  show BitVec.ofNat 64 a ||| BitVec.ofNat 64 b = BitVec.ofNat 64 (a ||| b)
  rw [BitVec.ofNat_or])
theorem bl_and1 {a : Nat} (h : a < 2 ^ 63) : lN a &&& 1 = lN (a % 2) := by
  apply Int64.toBitVec_inj.mp
  apply BitVec.eq_of_toNat_eq
  rw [Int64.toBitVec_and, BitVec.toNat_and]
  show (BitVec.ofNat 64 a).toNat &&& 1 = (BitVec.ofNat 64 (a % 2)).toNat
  rw [BitVec.toNat_ofNat, BitVec.toNat_ofNat, Nat.and_one_is_mod]
  omega
theorem bl_shr {a k : Nat} (h : a < 2 ^ 63) (hk : k < 63) : lN a >>> ((nI k).toInt64 &&& 63) = lN (a / 2 ^ k) := by
  apply Int64.toInt_inj.mp
  have h2 : a / 2 ^ k ≤ a := Nat.div_le_self _ _
  have e : (lN a >>> ((nI k).toInt64 &&& 63)).toInt = (lN a).toInt >>> k := by
    show ((lN a).toBitVec.sshiftRight (((nI k).toInt64 &&& 63).toBitVec.smod 64).toNat).toInt = _
    rw [bt_shl k hk, BitVec.toInt_sshiftRight, BitVec.toNat_ofNat, Nat.mod_eq_of_lt (by omega)]
    rfl
  rw [e, pk_lT h, pk_lT (by omega), Int.shiftRight_eq_div_pow]
  rfl
theorem bl_shl1 : ∀ n, n < 63 → (1 : Int64) <<< ((nI n).toInt64 &&& 63) = lN (2 ^ n) := by decide
theorem tb_iff {a k : Nat} : ((a / 2 ^ k % 2 : Nat) : Int) = 1 ↔ a.testBit k = true := by
  rw [Nat.testBit_eq_decide_div_mod_eq, decide_eq_true_iff]
  omega
section ZT
variable {M : zM} {post : Option zV → zH → Prop} {pc : Nat} {lv st : List zV} {h : zH}
theorem z_ior {x y : Int} (hd : decode M.2.1 pc = .ok (.ior, 1)) (a b : Nat) (ha : x = a) (hb : y = b) (k : Z M post (pc + 1) lv (vI ((a ||| b : Nat) : Int) :: st) h) : Z M post pc lv (vI y :: vI x :: st) h := by
  intro p l e s m args below meth c D r ca B H locs ls P L
  have k := k p l e s m args below meth c D r ca B H locs ls P L
  subst ha; subst hb
  refine lv_ior B.1 B.2.1 hd ?_
  rw [i32_n, i32_n, bt_or, ← i32_n]
  exact k
theorem z_ishl {x y : Int} (hd : decode M.2.1 pc = .ok (.ishl, 1)) (i : Nat) (hx : x = 1) (hy : y = i) (hi : i < 31) (k : Z M post (pc + 1) lv (vI ((2 ^ i : Nat) : Int) :: st) h) : Z M post pc lv (vI y :: vI x :: st) h := by
  intro p l e s m args below meth c D r ca B H locs ls P L
  have k := k p l e s m args below meth c D r ca B H locs ls P L
  subst hx; subst hy
  refine lv_ishl B.1 B.2.1 hd ?_
  have e1 : (nI 1) <<< (nI i &&& 31) = nI (1 * 2 ^ i) := pk_shlN _ i (bt_sh i (by omega)) (by
    have : 2 ^ i ≤ 2 ^ 31 := Nat.pow_le_pow_right (by decide) (by omega)
    omega)
  rw [i32_n, show Int32.ofInt 1 = nI 1 from rfl, e1, Nat.one_mul, ← i32_n]
  exact k
theorem z_ishr {x y : Int} (hd : decode M.2.1 pc = .ok (.ishr, 1)) (a i : Nat) (hx : x = a) (hy : y = i) (ha : a < 2 ^ 31) (hi : i < 32) (k : Z M post (pc + 1) lv (vI ((a / 2 ^ i : Nat) : Int) :: st) h) : Z M post pc lv (vI y :: vI x :: st) h := by
  intro p l e s m args below meth c D r ca B H locs ls P L
  have k := k p l e s m args below meth c D r ca B H locs ls P L
  subst hx; subst hy
  refine lv_ishr B.1 B.2.1 hd ?_
  rw [i32_n, i32_n, pk_shrN ha _ i (bt_sh i hi), ← i32_n]
  exact k
theorem z_iand1 {a i : Nat} (hd : decode M.2.1 pc = .ok (.iand, 1)) (ha : a < 2 ^ 31) (k : Z M post (pc + 1) lv (vI ((a / 2 ^ i % 2 : Nat) : Int) :: st) h) : Z M post pc lv (vI 1 :: vI ((a / 2 ^ i : Nat) : Int) :: st) h := by
  intro p l e s m args below meth c D r ca B H locs ls P L
  have k := k p l e s m args below meth c D r ca B H locs ls P L
  refine lv_iand B.1 B.2.1 hd ?_
  have h2 : a / 2 ^ i ≤ a := Nat.div_le_self _ _
  have e1 : nI (a / 2 ^ i) &&& nI 1 = nI (a / 2 ^ i % 2 ^ 1) := pk_andN (by omega) 1 (by decide)
  rw [i32_n, show Int32.ofInt 1 = nI 1 from rfl, e1, show (2 : Nat) ^ 1 = 2 from rfl, ← i32_n]
  exact k
theorem z_lor {x y : Int} (hd : decode M.2.1 pc = .ok (.lor, 1)) (a b : Nat) (ha : x = a) (hb : y = b) (k : Z M post (pc + 1) lv (vL ((a ||| b : Nat) : Int) :: st) h) : Z M post pc lv (vL y :: vL x :: st) h := by
  intro p l e s m args below meth c D r ca B H locs ls P L
  have k := k p l e s m args below meth c D r ca B H locs ls P L
  subst ha; subst hb
  refine lv_lor B.1 B.2.1 hd ?_
  rw [i64_n, i64_n, bl_or, ← i64_n]
  exact k
theorem z_lshl {y : Int} (hd : decode M.2.1 pc = .ok (.lshl, 1)) (i : Nat) (hy : y = i) (hi : i < 63) (k : Z M post (pc + 1) lv (vL ((2 ^ i : Nat) : Int) :: st) h) : Z M post pc lv (vI y :: vL 1 :: st) h := by
  intro p l e s m args below meth c D r ca B H locs ls P L
  have k := k p l e s m args below meth c D r ca B H locs ls P L
  subst hy
  refine lv_lshl B.1 B.2.1 hd ?_ k
  rw [i32_n, show Int64.ofInt 1 = 1 from rfl, bl_shl1 i hi, ← i64_n]
theorem z_lshr {x y : Int} (hd : decode M.2.1 pc = .ok (.lshr, 1)) (a i : Nat) (hx : x = a) (hy : y = i) (ha : a < 2 ^ 63) (hi : i < 63) (k : Z M post (pc + 1) lv (vL ((a / 2 ^ i : Nat) : Int) :: st) h) : Z M post pc lv (vI y :: vL x :: st) h := by
  intro p l e s m args below meth c D r ca B H locs ls P L
  have k := k p l e s m args below meth c D r ca B H locs ls P L
  subst hx; subst hy
  refine lv_lshr B.1 B.2.1 hd ?_ k
  rw [i32_n, i64_n, bl_shr ha hi, ← i64_n]
theorem z_land1 {a i : Nat} (hd : decode M.2.1 pc = .ok (.land, 1)) (ha : a < 2 ^ 63) (k : Z M post (pc + 1) lv (vL ((a / 2 ^ i % 2 : Nat) : Int) :: st) h) : Z M post pc lv (vL 1 :: vL ((a / 2 ^ i : Nat) : Int) :: st) h := by
  intro p l e s m args below meth c D r ca B H locs ls P L
  have k := k p l e s m args below meth c D r ca B H locs ls P L
  refine lv_land B.1 B.2.1 hd ?_
  have h2 : a / 2 ^ i ≤ a := Nat.div_le_self _ _
  rw [i64_n, show Int64.ofInt 1 = 1 from rfl, bl_and1 (by omega), ← i64_n]
  exact k
theorem z_lcmp {x y : Int} (hd : decode M.2.1 pc = .ok (.lcmp, 1)) (a b : Nat) (hx : x = a) (hy : y = b) (ha : a < 2 ^ 63) (hb : b < 2 ^ 63) (k : ∀ z : Int, (-1 ≤ z ∧ z ≤ 1) → (z = 0 ↔ a = b) → Z M post (pc + 1) lv (vI z :: st) h) : Z M post pc lv (vL y :: vL x :: st) h := by
  intro p l e s m args below meth c D r ca B H locs ls P L
  subst hx; subst hy
  refine W.lcmp B.1 B.2.1 hd ?_
  unfold lg_cmp
  rw [i64_n, i64_n]
  by_cases h1 : lN a > lN b
  · rw [if_pos h1]
    have : b < a := (pk_lLT hb ha).mp h1
    exact k 1 (by omega) (by omega) p l e s m args below meth c D r ca B H locs ls P L
  · rw [if_neg h1]
    by_cases h2 : lN a = lN b
    · rw [if_pos h2]
      have : a = b := (pk_lEQ ha hb).mp h2
      exact k 0 (by omega) (by omega) p l e s m args below meth c D r ca B H locs ls P L
    · rw [if_neg h2]
      have : a ≠ b := fun q => h2 ((pk_lEQ ha hb).mpr q)
      exact k (-1) (by omega) (by omega) p l e s m args below meth c D r ca B H locs ls P L
end ZT
