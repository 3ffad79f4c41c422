/-! further rows and small numbers -/
theorem Z.pad {M : zM} {post : Option zV → zH → Prop} {pc : Nat} {lv st : List zV} {h : zH} (n : Nat) (k : Z M post pc (lv ++ List.replicate n vU) st h) : Z M post pc lv st h := by
  intro p l e s m args below meth c D r ca B H locs ls P L
  refine k p l e s m args below meth c D r ca B H locs ls P ⟨L.1, L.2.1, fun i v hi hu => ?_⟩
  by_cases hl : i < lv.length
  · rw [List.getElem?_append_left hl] at hi
    exact L.2.2 i v hi hu
  · rw [List.getElem?_append_right (by omega)] at hi
    have hm := List.mem_of_getElem? hi
    rw [List.mem_replicate] at hm
    rw [hm.2] at hu
    cases hu
theorem zC.ofN {M : zM} {av : List zV} {h : zH} {post : Option zV → zH → Prop} (n : Nat) (hp : plainName M.1.cls = true) (hn : (av.map vw).sum ≤ M.2.2.1) (k : Z M post 0 (zent av ++ List.replicate n vU) [] h) : zC M av h post := zC.of hp hn (k.pad n)
theorem Met.ofWF {l : Launch} {y : MethodName} {ws ws' : List Cond} {rm : Room} {Pc : Array Value → State → Prop} {Qc : Array Value → State → Outcome → State → Prop} {mc ms : Nat} {free : Addr → Prop} {cc : ByteArray} {maxL : Nat} {ret : Option FieldType}
    (hy : plainFor y = true) (hw : ws = Cond.code y cc maxL ret :: ws')
    (body : ∀ p e s m args below meth c s₁, BodyLoose p l y (headSpec ws rm) cc maxL ret e s m args below meth c s₁ → c.maxLocals = maxL → Pc args s →
      W p l e (headSpec ws rm).room s m args below meth c s.heap [] 0 0 (MQ below Qc args s mc ms free) (entryFrame m args maxL)) : Met l y ws rm Pc Qc mc ms free := by
  refine MetFree.of_bodySF (code := cc) (maxLocals := maxL) (ret := ret) hy ?_ ?_
  · intro args s m h hn
    obtain ⟨meth, c, h1, h2, h3, h4, h5, h6, -, -⟩ := Cond.code_spec hn (atoms_spec (ws := ws) h _ (by rw [hw]; exact List.mem_cons_self))
    exact ⟨meth, c, h1, h2, h3, h4, h5, h6⟩
  · intro p e s m args below meth c s₁ B hml hP _
    have hh0 : s₁.heap = s.heap := by rw [B.state]; rfl
    obtain ⟨t, a1, o, b1, b2, b3⟩ := body p e s m args below meth c s₁ B hml hP s₁ hh0 (Stand.of_body B)
    exact ⟨t, o, a1, b1, b2, ⟨b3.1, b3.2⟩⟩
theorem zC.ofF {M : zM} {av : List zV} {h : zH} {post : Option zV → zH → Prop} (n : Nat) (hp : plainFor M.1 = true) (hn : (av.map vw).sum ≤ M.2.2.1) (k0 : Z M post 0 (zent av ++ List.replicate n vU) [] h) : zC M av h post := by
  have k := k0.pad n
  intro l D r ca
  refine Met.ofWF (cc := M.2.1) (maxL := M.2.2.1) (ret := M.2.2.2.1) hp rfl ?_
  intro p e s m args below meth c s₁ B hml hv
  obtain ⟨rfl, hP, hK, hD⟩ := hv
  have hts := atoms_spec (ws := zws M) B.pre
  have hown : s.vm.findClass M.1.cls = some m.cls := findClass_of_methodNamed B.named
  have hl := lv_entry (av.map (tv r)) (n := M.2.2.1) (by rw [zent_len]; exact hn)
  rw [lg_entry_eq]
  refine k p l e s m _ below meth c D r ca ⟨B.exec, B.bytes, hml, hown, fun w hw => hts w (List.mem_cons_of_mem _ hw), B.returns, B.notSynchronized, hK, hD⟩ s.heap [] _ ⟨hP, va_S.rf⟩ ⟨hl.1, hl.2.1, fun i v hi hu => ?_⟩
  have hm := zent_args r av 0 i v hi hu
  rw [Nat.zero_add] at hm
  exact hl.2.2 _ hm
theorem zC.weak {M : zM} {av : List zV} {h : zH} {p1 p2 : Option zV → zH → Prop} (hC : zC M av h p1) (hw : ∀ v h1, p1 v h1 → p2 v h1) : zC M av h p2 := by
  intro l D r ca p e ha hc hk s m args below h1 h2 h3 h4
  obtain ⟨k, o, g1, g2, g3, ⟨⟨v, hh, gp, gr⟩, gL⟩⟩ := hC l D r ca p e ha hc hk s m args below h1 h2 h3 h4
  exact ⟨k, o, g1, g2, g3, ⟨⟨v, hh, hw v hh gp, gr⟩, gL⟩⟩
theorem pvI {x y : Int} {h1 h2 : zH} (e : x = y) (eh : h1 = h2) : pV (vI y) h2 (some (vI x)) h1 := ⟨by rw [e], eh⟩
theorem pv0 {h1 h2 : zH} (eh : h1 = h2) : p0 h2 none h1 := ⟨rfl, eh⟩
theorem zb_eq {c d : Prop} [Decidable c] [Decidable d] (h : c ↔ d) : zb c = zb d := by
  by_cases hc : c
  · rw [zb_t hc, zb_t (h.mp hc)]
  · rw [zb_f hc, zb_f (fun q => hc (h.mpr q))]
section ZX
variable {M : zM} {post : Option zV → zH → Prop} {pc : Nat} {lv st : List zV} {h : zH}
theorem i32_xor_sign {x y : Int} (hx : -2147483648 ≤ x ∧ x ≤ 2147483647) (hy : -2147483648 ≤ y ∧ y ≤ 2147483647) : 0 ≤ (Int32.ofInt x ^^^ Int32.ofInt y).toInt ↔ (0 ≤ x ↔ 0 ≤ y) := by
  have sg : ∀ z : Int32, 0 ≤ z.toInt ↔ z.toBitVec.msb = false := by
    intro z
    have := BitVec.toInt_neg_iff (x := z.toBitVec)
    have h2 := BitVec.msb_eq_toInt (x := z.toBitVec)
    have h3 : z.toInt = z.toBitVec.toInt := rfl
    rw [h3, h2]
    simp
  rw [sg, Int32.toBitVec_xor, BitVec.msb_xor]
  have ax := sg (Int32.ofInt x)
  have ay := sg (Int32.ofInt y)
  rw [i32_to hx] at ax
  rw [i32_to hy] at ay
  rw [ax, ay]
  cases (Int32.ofInt x).toBitVec.msb <;> cases (Int32.ofInt y).toBitVec.msb <;> simp
theorem z_ixor {x y : Int} (hd : decode M.2.1 pc = .ok (.ixor, 1)) (hx : -2147483648 ≤ x ∧ x ≤ 2147483647) (hy : -2147483648 ≤ y ∧ y ≤ 2147483647) (k : ∀ z : Int, (-2147483648 ≤ z ∧ z ≤ 2147483647) → (0 ≤ z ↔ (0 ≤ x ↔ 0 ≤ y)) → Z M post (pc + 1) lv (vI z :: st) h) : Z M post pc lv (vI y :: vI x :: st) h := by
  intro p l e s m args below meth c D r ca B H locs ls P L
  refine lv_ixor B.1 B.2.1 hd ?_
  have k := k (Int32.ofInt x ^^^ Int32.ofInt y).toInt ⟨by have := Int32.le_toInt (Int32.ofInt x ^^^ Int32.ofInt y); omega, by have := Int32.toInt_lt (Int32.ofInt x ^^^ Int32.ofInt y); omega⟩ (i32_xor_sign hx hy) p l e s m args below meth c D r ca B H locs ls P L
  simp only [List.map_cons, vI, tv, Int32.ofInt_toInt] at k
  exact k
end ZX
theorem fm_neg {x y : Int} (hx : x < 0) (hy : 0 < y) (h : x.tmod y ≠ 0) : x.tmod y + y = x % y := by
  have h1 := Int.tmod_eq_emod (a := x) (b := y)
  have h2 : ¬ (0 ≤ x ∨ y ∣ x) := by
    rintro (q | q)
    · omega
    · exact h (Int.tmod_eq_zero_of_dvd q)
  rw [if_neg h2] at h1
  omega
theorem fm_zero {x y : Int} (h : x.tmod y = 0) : x.tmod y = x % y := by
  rw [h]
  exact (Int.emod_eq_zero_of_dvd (Int.dvd_of_tmod_eq_zero h)).symm
/-- the windows' cells -/
theorem kw {w : Nat} (hw : w = 3 ∨ w = 7) : (zks w).1 = 10 := by rcases hw with rfl | rfl <;> rfl
theorem kw0 {w : Nat} (hw : w = 3 ∨ w = 7) : zsr w 0 = w + 1 := by rcases hw with rfl | rfl <;> rfl
theorem kw1 {w : Nat} (hw : w = 3 ∨ w = 7) : zsr w 1 = w + 2 := by rcases hw with rfl | rfl <;> rfl
theorem kw2 {w : Nat} (hw : w = 3 ∨ w = 7) : zsr w 2 = w + 3 := by rcases hw with rfl | rfl <;> rfl
theorem kwp {w : Nat} (hw : w = 3 ∨ w = 7) : zks (w + 1) = (100, 12) := by rcases hw with rfl | rfl <;> rfl
theorem kws {w : Nat} (hw : w = 3 ∨ w = 7) : zks (w + 2) = (100, 6) := by rcases hw with rfl | rfl <;> rfl
theorem kwn {w : Nat} (hw : w = 3 ∨ w = 7) : zks (w + 3) = (100, 6) := by rcases hw with rfl | rfl <;> rfl
