/-! rows of the law -/
def lB (p : Program) (s : State) (m : MethodId) (meth : Method) (c : Code) (b L : Nat) (xs : Nat → Int32) (D : va_G) (r : Nat → Nat) (ca : Nat → ClassId) : Prop := lw_At p s m meth c b L xs ∧ va_K D zcl (ztys ca) s ∧ zD r ∧ ∀ i, i < 56 → s.heap.size ≤ r i
/-- from here the law comes to its end with true -/
def V (b L : Nat) (xs : Nat → Int32) (i pc : Nat) (st : List zV) (h : zH) : Prop :=
  ∀ (p : Program) (l : Launch) (e : Env) (s : State) (m : MethodId) (below : List Frame) (meth : Method) (c : Code) (D : va_G) (r : Nat → Nat) (ca : Nat → ClassId), lB p s m meth c b L xs D r ca →
    ∀ (H : Heap) (locs : List Loc) (ls : Array Slot), va_P D zcl (wd r ca h) H → va_S (fun q : Nat => s.heap.size ≤ q) s.heap H locs → lv_has ls 4 [(0, .ref b), (1, .ref (r 0)), (2, .ref (r 39)), (3, .int (nI i))] →
      W p l e room_1 s m #[Value.ref b] below meth c H locs 56 5496 (lw_Z below #[Value.ref b] s) (F0 m pc ls (st.map (tv r)))
theorem i32r (x : Int32) : -2147483648 ≤ x.toInt ∧ x.toInt ≤ 2147483647 := ⟨by have := Int32.le_toInt x; omega, by have := Int32.toInt_lt x; omega⟩
theorem v_after {p : Program} {l : Launch} {e : Env} {R : Room} {s : State} {m : MethodId} {args : Array Value} {below : List Frame} {meth : Method} {c : Code} {H : Heap} {locs : List Loc} {Q : State → Prop} {D : va_G} {r : Nat → Nat} {ca : Nat → ClassId} {ls : Array Slot} {st0 rest : List Value} {a : Array Value} {pc cells slots : Nat} {postN : Option zV → zH → Prop} {A : Nat → Prop}
    (hr : va_Run p l e R s m args below meth c H locs cells slots 0 0 (F0 m pc ls st0) rest (zQ D r ca postN a) (zA r)) (hS : va_S A s.heap H locs) (hA : ∀ q, zA r q → A q)
    (kk : ∀ (v : Option zV) (h1 : zH) (H1 : Heap) (locs1 : List Loc), postN v h1 → va_P D zcl (wd r ca h1) H1 → va_S A s.heap H1 locs1 → W p l e R s m args below meth c H1 locs1 cells slots Q (F0 m (pc + 3) ls ((v.map (tv r)).toList ++ rest))) : W p l e R s m args below meth c H locs cells slots Q (F0 m pc ls st0) := by
  intro T hT X
  obtain ⟨v, st₀, t, T', L, h0, X', hL, e1, e2, ⟨w, h1, hp, hv, hP, hz, hk⟩, st⟩ := hr T hT X
  have hv : v = w.map (tv r) := Outcome.returned.inj hv
  rw [h0] at hz hk
  obtain ⟨t2, a1, b1⟩ := kk w h1 T'.heap (locs ++ L) hp (by rw [e1]; exact hP)
    ⟨Nat.le_trans hS.1 (by rw [e1]; exact hz), fun q g1 g2 => by rw [e1, hk q (Nat.lt_of_lt_of_le g1 hS.1) (fun z => g2 (hA q z))]; exact hS.2.1 q g1 g2, fun q hq => by
      rcases List.mem_append.mp hq with g | g
      · exact hS.2.2 q g
      · exact hA _ (hL q g)⟩ T' rfl X'
  rw [← hv] at a1
  exact ⟨t2, st t2 a1, b1⟩
section VV
variable {b L : Nat} {xs : Nat → Int32} {i pc : Nat} {st : List zV} {h : zH}
theorem v_x (hd : decode code pc = .ok (.aload_n 1, 1)) (k : V b L xs i (pc + 1) (vR 0 :: st) h) : V b L xs i pc st h := by
  intro p l e s m below meth c D r ca B H locs ls P S Lv
  exact lv_aload_n B.1.1 B.1.2.1 hd rfl (lv_at Lv 1 rfl) (k p l e s m below meth c D r ca B H locs ls P S Lv)
theorem v_m (hd : decode code pc = .ok (.aload_n 2, 1)) (k : V b L xs i (pc + 1) (vR 39 :: st) h) : V b L xs i pc st h := by
  intro p l e s m below meth c D r ca B H locs ls P S Lv
  exact lv_aload_n B.1.1 B.1.2.1 hd rfl (lv_at Lv 2 rfl) (k p l e s m below meth c D r ca B H locs ls P S Lv)
theorem v_arg (j : Nat) (hj : j ≤ 5) (hi : i + 6 ≤ L) (hL : L ≤ 3072) (h0 : decode code pc = .ok (.aload_n 0, 1)) (h1 : decode code (pc + 1) = .ok (.iload_n 3, 1)) (h2 : decode code (pc + 1 + 1) = .ok (.iconst (j : Int), 1)) (h3 : decode code (pc + 1 + 1 + 1) = .ok (.iadd, 1)) (h4 : decode code (pc + 1 + 1 + 1 + 1) = .ok (.iaload, 1)) (k : V b L xs i (pc + 5) (vI (xs (i + j)).toInt :: st) h) : V b L xs i pc st h := by
  intro p l e s m below meth c D r ca B H locs ls P S Lv
  have k9 := k p l e s m below meth c D r ca B H locs ls P S Lv
  refine lv_aload_n B.1.1 B.1.2.1 h0 rfl (lv_at Lv 0 rfl) ?_
  refine lv_iload_n B.1.1 B.1.2.1 h1 rfl (lv_at Lv 3 rfl) ?_
  refine lv_iconst (v := nI j) B.1.1 B.1.2.1 h2 (i32_n j) ?_
  refine lv_iadd B.1.1 B.1.2.1 h3 ?_
  rw [nI_add]
  refine va_sld B.1.1 B.1.2.1 B.1.2.2.2.2.2.2.1 B.1.2.2.2.2.2.2.2.1 (Nat.not_le.mpr B.1.2.2.2.2.2.2.2.1) S (nI_in (by omega) (by omega)) h4 ?_
  rw [nI_clamp (by omega)]
  simp only [List.map_cons, vI, tv, Int32.ofInt_toInt] at k9
  exact k9
theorem v_call {N : zM} {a0 idx n c0 : Nat} {av : List zV} {postN : Option zV → zH → Prop} (hC : zC N (vR a0 :: av) h postN) (hg : zG N n) (hl : Cond.methodLink R_law idx N.1 ∈ zt) (hI : Cond.instanceMethod N.1 ∈ zt ∧ Cond.selects N.1.cls N.1 N.1 ∈ zt) (hc0 : c0 < 13) (hca : (zks a0).1 = c0) (hcn : zRR c0 = N.1.cls) (hrm : N.rm.frames + 1 ≤ room_1.frames ∧ 8 + (N.2.2.1 + 11) + N.rm.locals ≤ room_1.locals) (hn : av.length = n) (hw : (st.map vw).sum ≤ 8) (hd : decode code pc = .ok (.invokevirtual idx, 3))
    (k : ∀ v h1, postN v h1 → V b L xs i (pc + 3) (v.toList ++ st) h1) : V b L xs i pc (av.reverse ++ vR a0 :: st) h := by
  intro p l e s m below meth c D r ca B H locs ls P S Lv
  have hts : ∀ w ∈ zt, w.before #[Value.ref b] s = true := fun w hw => B.1.2.2.2.2.2.1 w (zt_tbl hw)
  have hT : GoodIn zt (wsV R_law idx N.1.cls N.1 (zws N)) := zGood (fun w hw => by
    unfold wsV at hw
    rcases List.mem_append.mp hw with q | q
    · simp only [List.mem_cons, List.not_mem_nil, or_false] at q
      rcases q with rfl | rfl | rfl | rfl
      · exact hl
      · exact hI.1
      · exact hI.2
      · exact hg.2.1
    · exact zws_in hg w q)
  have ha : a0 < 56 := zks_lt hca (by omega)
  have hrec := va_recv (s := s) (D := D) (ci := c0) (q0 := a0) B.2.1 P (zcl_at c0 hc0) (by rw [wd_at ha, zcell_obj hca hc0])
  rw [hcn] at hrec
  refine v_after (va_runV (C := N.1.cls) (b := r a0) (As := av.map (tv r)) (rest := st.map (tv r)) ⟨B.1.1, B.1.2.1, B.1.2.2.2.1, B.1.2.2.2.2.1, hts⟩ (hC l D r ca) (cwV n hts hT rfl rfl rfl ⟨rfl, hg.2.2⟩ hrm) ⟨zPc_blind, hrec, fun U hU hW => ⟨rfl, by rw [hU]; exact P, va_K.moved hW.alike B.2.1, B.2.2.1⟩⟩ rfl (by rw [List.length_map]; exact hn) Lv.1 (by simp [List.map_reverse]; rfl) (lv_room (by rw [tv_cats]; exact hw)) hd ⟨Nat.le_refl _, Nat.le_refl _⟩) S (fun q hq => by obtain ⟨j, hj, rfl⟩ := hq; exact B.2.2.2 j hj) (fun v h1 H1 locs1 hp hP1 hS1 => ?_)
  rw [zst_map]
  exact k v h1 hp p l e s m below meth c D r ca B H1 locs1 ls hP1 hS1 Lv
theorem v_eq {x : Int} {off : Int} {tgt : Nat} (hd : decode code pc = .ok (.if_icmp .eq off, 3)) (ht : (pc : Int) + off = (tgt : Int)) (k : V b L xs i tgt [] h) : V b L xs i pc [vI x, vI x] h := by
  intro p l e s m below meth c D r ca B H locs ls P S Lv
  exact lv_icmp_eq B.1.1 B.1.2.1 hd ht (fun _ => k p l e s m below meth c D r ca B H locs ls P S Lv) (fun q => absurd rfl q)
theorem v_leq {x : Int} {off : Int} {tgt : Nat} (hd0 : decode code pc = .ok (.lcmp, 1)) (hd : decode code (pc + 1) = .ok (.ifCond .eq off, 3)) (ht : ((pc + 1 : Nat) : Int) + off = (tgt : Int)) (k : V b L xs i tgt [] h) : V b L xs i pc [vL x, vL x] h := by
  intro p l e s m below meth c D r ca B H locs ls P S Lv
  refine W.lcmp B.1.1 B.1.2.1 hd0 ?_
  exact lv_if_eq B.1.1 B.1.2.1 hd ht (fun _ => k p l e s m below meth c D r ca B H locs ls P S Lv) (fun q => absurd (by unfold lg_cmp; rw [if_neg (fun z => Int64.lt_irrefl z), if_pos rfl]) q)
theorem v_next (hd : decode code 1060 = .ok (.iinc 3 6, 3)) (hd2 : decode code 1063 = .ok (.goto (-1045), 3)) (k : V b L xs (i + 6) 18 [] h) : V b L xs i 1060 [] h := by
  intro p l e s m below meth c D r ca B H locs ls P S Lv
  refine lv_iinc (v := nI (i + 6)) (lv' := [(3, .int (nI (i + 6))), (0, .ref b), (1, .ref (r 0)), (2, .ref (r 39))]) B.1.1 B.1.2.1 hd Lv (k := 3) rfl (by rw [← nI_add]; rfl) (by decide) rfl (fun ls1 Lv1 => ?_)
  refine lv_goto (tgt := 18) B.1.1 B.1.2.1 hd2 (by decide) ?_
  exact k p l e s m below meth c D r ca B H locs ls1 P S (lv_sub Lv1 [1, 2, 3, 0] rfl)
theorem v_out (hd : decode code 1066 = .ok (.iconst 1, 1)) (hd2 : decode code 1067 = .ok (.ireturn, 1)) : V b L xs i 1066 [] h := by
  intro p l e s m below meth c D r ca B H locs ls P S Lv
  refine lv_iconst (v := 1) B.1.1 B.1.2.1 hd (by decide) ?_
  refine va_forget (fun q hq => S.2.2 q hq) ?_
  exact lw_ret B.1.1 B.1.2.1 B.1.2.2.1 B.1.2.2.2.2.2.2.2.2.1 hd2
def tg (j : Nat) : Nat := ([180, 203, 216, 229, 252, 285, 318, 341, 374, 397, 420, 453, 466, 489, 512, 535, 568, 611, 664, 697, 730, 793, 826, 849, 862, 895, 918, 931, 944, 977, 1000, 1023, 1046] : List Nat).getD j 0
def tgO : Array Int := #[147, 170, 183, 196, 219, 252, 285, 308, 341, 364, 387, 420, 433, 456, 479, 502, 535, 578, 631, 664, 697, 760, 793, 816, 829, 862, 885, 898, 911, 944, 967, 990, 1013]
theorem d_law_33 : decode code 33 = .ok (.tableswitch 1027 0 32 tgO, 147) := by decide +kernel
theorem tg_ok : ∀ j, j < 33 → tgO[j]? = some ((tg j : Int) - 33) := by decide +kernel
theorem v_switch (hi : i + 6 ≤ L) (hL : L ≤ 3072) (K : ∀ j, j < 33 → V b L xs i (tg j) [] h) (Kd : V b L xs i 1060 [] h) : V b L xs i 27 [] h := by
  intro p l e s m below meth c D r ca B H locs ls P S Lv
  refine lv_aload_n B.1.1 B.1.2.1 (pc := 27) (by decide +kernel) (k := 0) rfl (lv_at Lv 0 rfl) ?_
  refine lv_iload_n B.1.1 B.1.2.1 (k := 3) (by decide +kernel) rfl (lv_at Lv 3 rfl) ?_
  refine va_sld B.1.1 B.1.2.1 B.1.2.2.2.2.2.2.1 B.1.2.2.2.2.2.2.2.1 (Nat.not_le.mpr B.1.2.2.2.2.2.2.2.1) S (nI_in (by omega) (by omega)) (by decide +kernel) ?_
  refine lv_bipush (n := 63) (v := 63) B.1.1 B.1.2.1 (by decide +kernel) (by decide) ?_
  refine lv_iand B.1.1 B.1.2.1 (by decide +kernel) ?_
  obtain ⟨j, hj, e1⟩ := pk_andE (xs (nI i).toNatClampNeg) (m := 63) 6 (by decide)
  rw [e1]
  have ej : (nI j).toInt = (j : Int) := nI_toInt (by omega)
  by_cases hj2 : j < 33
  · refine lv_tableIn (off := (tg j : Int) - 33) (tgt := tg j) B.1.1 B.1.2.1 d_law_33 (by rw [ej]; omega) (by rw [ej]; omega) ?_ (by show (33 : Int) + _ = _; omega) (K j hj2 p l e s m below meth c D r ca B H locs ls P S Lv)
    rw [ej, show ((j : Int) - 0).toNat = j by omega]
    exact tg_ok j hj2
  · exact lv_tableOut (tgt := 1060) B.1.1 B.1.2.1 d_law_33 (Or.inr (by rw [ej]; omega)) (by decide) (Kd p l e s m below meth c D r ca B H locs ls P S Lv)
theorem v_head (hL : L ≤ 3072) (hiL : i ≤ L + 5) (K : i + 6 ≤ L → V b L xs i 27 [] h) : V b L xs i 18 [] h := by
  intro p l e s m below meth c D r ca B H locs ls P S Lv
  refine lv_iload_n B.1.1 B.1.2.1 (pc := 18) (k := 3) (by decide +kernel) rfl (lv_at Lv 3 rfl) ?_
  refine lv_aload_n B.1.1 B.1.2.1 (k := 0) (by decide +kernel) rfl (lv_at Lv 0 rfl) ?_
  refine va_slen B.1.1 B.1.2.1 B.1.2.2.2.2.2.2.1 B.1.2.2.2.2.2.2.2.1 (Nat.not_le.mpr B.1.2.2.2.2.2.2.2.1) S (by decide +kernel) ?_
  refine lv_bipush (n := 6) (v := Int32.ofInt 6) B.1.1 B.1.2.1 (by decide +kernel) (by decide) ?_
  refine lv_isub B.1.1 B.1.2.1 (by decide +kernel) ?_
  have e1 : Int32.ofNat L - Int32.ofInt 6 = Int32.ofInt ((L : Int) - 6) := by
    rw [i32_sub, i32_n]; rfl
  rw [e1]
  have e2 : (Int32.ofInt ((L : Int) - 6)).toInt = (L : Int) - 6 := i32_to (by omega)
  have e3 : (nI i).toInt = (i : Int) := nI_toInt (by omega)
  refine lv_icmp_gt (off := 1042) (tgt := 1066) B.1.1 B.1.2.1 (by decide +kernel) (by decide) (fun q => ?_) (fun q => ?_)
  · exact v_out (by decide +kernel) (by decide +kernel) p l e s m below meth c D r ca B H locs ls P S Lv
  · rw [Int32.lt_iff_toInt_lt, e2, e3] at q
    exact K (by omega) p l e s m below meth c D r ca B H locs ls P S Lv
end VV
