/-! the small machine: values, cells, the world as a function of two numbers -/
abbrev zV : Type := Int ⊕ (Int ⊕ (Nat ⊕ Unit))
def vI (x : Int) : zV := .inl x
def vL (x : Int) : zV := .inr (.inl x)
def vR (a : Nat) : zV := .inr (.inr (.inl a))
def vU : zV := .inr (.inr (.inr ()))
abbrev zH : Type := Nat → Nat → Int
def tv (r : Nat → Nat) (v : zV) : Value := match v with
  | .inl x => .int (Int32.ofInt x)
  | .inr (.inl x) => .long (Int64.ofInt x)
  | .inr (.inr (.inl a)) => .ref (r a)
  | .inr (.inr (.inr _)) => .null
def vuse (v : zV) : Bool := match v with
  | .inr (.inr (.inr _)) => false
  | _ => true
def vlong (v : zV) : Bool := match v with
  | .inr (.inl _) => true
  | _ => false
def vw (v : zV) : Nat := if vlong v then 2 else 1
theorem tv_cat (r : Nat → Nat) (v : zV) : (tv r v).category = vw v := by
  rcases v with x | x | x | x <;> rfl
theorem tv_cats (r : Nat → Nat) (st : List zV) : ((st.map (tv r)).map fun v => v.category).sum = (st.map vw).sum := by
  induction st with
  | nil => rfl
  | cons v l ih => simp only [List.map_cons, List.sum_cons, tv_cat]; rw [ih]
/-- a field's value by its type -/
def fv (r : Nat → Nat) (ty : FieldType) (x : Int) : Value := match ty with
  | .int => .int (Int32.ofInt x)
  | .boolean => .int (Int32.ofInt x)
  | .long => .long (Int64.ofInt x)
  | _ => .ref (r x.toNat)
def zisR (t : FieldType) : Bool := match t with
  | .object _ => true
  | .array _ => true
  | _ => false
/-- a field whose reference stays -/
def zstat (c k : Nat) : Bool := zisR (zty c k) && !(c == 11 && (k == 1 || k == 2))
def zsv (h : zH) (c a k : Nat) : Int := if zstat c k then (zsr a k : Int) else h a k
def zcell (r : Nat → Nat) (ca : Nat → ClassId) (h : zH) (a : Nat) : va_E :=
  if (zks a).1 < 13 then .inr ((zks a).1, (List.range (zNN (zks a).1)).map (fun k => fv r (zty (zks a).1 k) (zsv h (zks a).1 a k)))
  else if (zks a).1 < 102 then .inl (ca ((zks a).1 - 100), (zks a).2, .inl (fun j => Int32.ofInt (h a j)))
  else .inl (ca ((zks a).1 - 100), (zks a).2, .inr (.inr (.inr (.inr (fun j => some (r (zsr a j)))))))
def wd (r : Nat → Nat) (ca : Nat → ClassId) (h : zH) : va_W := (List.range 56).map (fun a => (r a, zcell r ca h a))
theorem wd_at {r : Nat → Nat} {ca : Nat → ClassId} {h : zH} {a : Nat} (ha : a < 56) : (wd r ca h)[a]? = some (r a, zcell r ca h a) := by
  simp [wd, ha]
theorem wd_len {r : Nat → Nat} {ca : Nat → ClassId} {h : zH} : (wd r ca h).length = 56 := by simp [wd]
theorem zks_lt {a k : Nat} (h : (zks a).1 = k) (hk : k ≠ 99) : a < 56 := by
  by_cases ha : a < 56
  · exact ha
  · exfalso
    apply hk
    rw [← h]
    unfold zks
    rw [List.getD_eq_getElem?_getD, List.getElem?_eq_none (Nat.le_of_not_lt ha)]
    rfl
def zup (h : zH) (a k : Nat) (x : Int) : zH := fun b j => if b = a ∧ j = k then x else h b j
theorem zup_same {h : zH} {a k : Nat} {x : Int} : zup h a k x a k = x := by simp [zup]
theorem zup_other {h : zH} {a k b j : Nat} {x : Int} (hn : ¬ (b = a ∧ j = k)) : zup h a k x b j = h b j := by simp [zup, hn]
theorem zcell_other {r : Nat → Nat} {ca : Nat → ClassId} {h h' : zH} {b : Nat} (he : ∀ j, h' b j = h b j) : zcell r ca h' b = zcell r ca h b := by
  have : h' b = h b := funext he
  simp only [zcell, zsv, this]
theorem wd_set {r : Nat → Nat} {ca : Nat → ClassId} {h h' : zH} {a : Nat} (ho : ∀ b, b ≠ a → ∀ j, h' b j = h b j) : wd r ca h' = (wd r ca h).set a (r a, zcell r ca h' a) := by
  apply List.ext_getElem?
  intro b
  by_cases hb : b < 56
  · rw [wd_at hb]
    by_cases hba : b = a
    · subst hba
      rw [List.getElem?_set_self (by rw [wd_len]; exact hb)]
    · rw [List.getElem?_set_ne (Ne.symm hba), wd_at hb, zcell_other (ho b hba)]
  · rw [List.getElem?_eq_none (by rw [wd_len]; omega), List.getElem?_eq_none (by rw [List.length_set, wd_len]; omega)]
theorem zcell_obj {r : Nat → Nat} {ca : Nat → ClassId} {h : zH} {a c : Nat} (hc : (zks a).1 = c) (hl : c < 13) : zcell r ca h a = .inr (c, (List.range (zNN c)).map (fun k => fv r (zty c k) (zsv h c a k))) := by
  subst hc
  simp only [zcell, hl, if_true]
theorem zcell_int {r : Nat → Nat} {ca : Nat → ClassId} {h : zH} {a n : Nat} (hc : zks a = (100, n)) : zcell r ca h a = .inl (ca 0, n, .inl (fun j => Int32.ofInt (h a j))) := by
  simp [zcell, hc]
theorem zcell_bool {r : Nat → Nat} {ca : Nat → ClassId} {h : zH} {a n : Nat} (hc : zks a = (101, n)) : zcell r ca h a = .inl (ca 1, n, .inl (fun j => Int32.ofInt (h a j))) := by
  simp [zcell, hc]
theorem zcell_refs {r : Nat → Nat} {ca : Nat → ClassId} {h : zH} {a k n : Nat} (hc : zks a = (k, n)) (hk : 102 ≤ k) : zcell r ca h a = .inl (ca (k - 100), n, .inr (.inr (.inr (.inr (fun j => some (r (zsr a j))))))) := by
  have h1 : ¬ k < 13 := by omega
  have h2 : ¬ k < 102 := by omega
  simp [zcell, hc, h1, h2]
/-- the cells' addresses are apart -/
def zD (r : Nat → Nat) : Prop := ∀ i j, i < 56 → j < 56 → r i = r j → i = j
/-- the cells of the world -/
def zA (r : Nat → Nat) : Nat → Prop := fun q => ∃ i, i < 56 ∧ q = r i
theorem zD.va {r : Nat → Nat} (h : zD r) (ca : Nat → ClassId) (hh : zH) : va_D (zA r) (wd r ca hh) := by
  have key : ∀ (k : Nat) (q : Nat × va_E), (wd r ca hh)[k]? = some q → k < 56 ∧ q.1 = r k := by
    intro k q hk
    by_cases hl : k < 56
    · rw [wd_at hl] at hk
      cases hk
      exact ⟨hl, rfl⟩
    · rw [List.getElem?_eq_none (by rw [wd_len]; omega)] at hk
      cases hk
  refine ⟨fun i j p q hi hj hpq => ?_, fun k q hk => ?_⟩
  · obtain ⟨a1, a2⟩ := key i p hi
    obtain ⟨b1, b2⟩ := key j q hj
    exact h i j a1 b1 (by rw [← a2, ← b2]; exact hpq)
  · obtain ⟨a1, a2⟩ := key k q hk
    exact ⟨k, a1, a2⟩
def ztys (ca : Nat → ClassId) : List (ClassId × FieldType) := [(ca 0, .int), (ca 1, .boolean), (ca 2, .object "RoseWheel$Days"), (ca 3, .object "RoseWheel$One")]
/-- words that a callee may take over -/
def zt : List Cond := lw_tbl.filter goodWord
theorem zt_tbl {w : Cond} (h : w ∈ zt) : w ∈ lw_tbl := (List.mem_filter.mp h).1
theorem zt_of {w : Cond} (h : w ∈ lw_tbl) (hg : goodWord w = true) : w ∈ zt := List.mem_filter.mpr ⟨h, hg⟩
theorem zt_t1 {w : Cond} (i : Nat) (h : tables_1[i]? = some w) (hg : goodWord w = true) : w ∈ zt := zt_of (List.mem_append_right _ (List.mem_of_getElem? h)) hg
theorem zt_sel {w : Cond} (i : Nat) (h : (k2_sels lw_privs)[i]? = some w) (hg : goodWord w = true) : w ∈ zt := zt_of (List.mem_append_left _ (List.mem_of_getElem? h)) hg
theorem zt_good : ∀ w ∈ zt, goodWord w = true := fun w h => (List.mem_filter.mp h).2
theorem zcl_zt {c : Nat} (hc : c < 13) : ∀ w ∈ u_ws (zRR c) (zTT c) (zNN c), w ∈ zt := by
  intro w hw
  refine zt_of (zcl_in c hc w hw) ?_
  obtain ⟨k, -, rfl⟩ := List.mem_map.mp hw
  unfold u_lay
  split <;> rfl
abbrev zM.rm (M : zM) : Room := { frames := M.2.2.2.2.1, cells := 0, slots := 0, locals := M.2.2.2.2.2 }
abbrev zM.code (M : zM) : Cond := .code M.1 M.2.1 M.2.2.1 M.2.2.2.1
def zws (M : zM) : List Cond := M.code :: zt
def zB (M : zM) (p : Program) (s : State) (m : MethodId) (args : Array Value) (meth : Method) (c : Code) (D : va_G) (r : Nat → Nat) (ca : Nat → ClassId) : Prop :=
  p.tables.exec = Jvm.exec ∧ c.code = M.2.1 ∧ c.maxLocals = M.2.2.1 ∧ s.vm.findClass M.1.cls = some m.cls ∧ (∀ w ∈ zt, w.before args s = true) ∧ meth.sig.returnType = M.2.2.2.1 ∧ meth.locks = false ∧ va_K D zcl (ztys ca) s ∧ zD r
def zP (D : va_G) (r : Nat → Nat) (ca : Nat → ClassId) (s : State) (h : zH) (H : Heap) (locs : List Loc) : Prop := va_P D zcl (wd r ca h) H ∧ va_S (zA r) s.heap H locs
def zl (r : Nat → Nat) (ls : Array Slot) (nL : Nat) (lv : List zV) : Prop := ls.size = nL ∧ lv_wf ls ∧ ∀ (i : Nat) (v : zV), lv[i]? = some v → vuse v = true → ls[i]? = some (.val (tv r v))
def zQ (D : va_G) (r : Nat → Nat) (ca : Nat → ClassId) (post : Option zV → zH → Prop) : Array Value → State → Outcome → State → Prop := fun _ st o t =>
  ∃ (v : Option zV) (h : zH), post v h ∧ o = .returned (v.map (tv r)) ∧ va_P D zcl (wd r ca h) t.heap ∧ va_F (zA r) st t
/-- from here the method comes to an end with post -/
def Z (M : zM) (post : Option zV → zH → Prop) (pc : Nat) (lv st : List zV) (h : zH) : Prop :=
  ∀ (p : Program) (l : Launch) (e : Env) (s : State) (m : MethodId) (args : Array Value) (below : List Frame) (meth : Method) (c : Code) (D : va_G) (r : Nat → Nat) (ca : Nat → ClassId), zB M p s m args meth c D r ca →
    ∀ (H : Heap) (locs : List Loc) (ls : Array Slot), zP D r ca s h H locs → zl r ls M.2.2.1 lv →
      W p l e M.rm s m args below meth c H locs 0 0 (MQ below (zQ D r ca post) args s 0 0 (zA r)) (F0 m pc ls (st.map (tv r)))
def zPc (D : va_G) (r : Nat → Nat) (ca : Nat → ClassId) (av : List zV) (h : zH) : Array Value → State → Prop := fun v U => v = (av.map (tv r)).toArray ∧ va_P D zcl (wd r ca h) U.heap ∧ va_K D zcl (ztys ca) U ∧ zD r
/-- a method's contract -/
def zC (M : zM) (av : List zV) (h : zH) (post : Option zV → zH → Prop) : Prop :=
  ∀ (l : Launch) (D : va_G) (r : Nat → Nat) (ca : Nat → ClassId), Met l M.1 (zws M) M.rm (zPc D r ca av h) (zQ D r ca post) 0 0 (zA r)
theorem zPc_blind {D : va_G} {r : Nat → Nat} {ca : Nat → ClassId} {av : List zV} {h : zH} : FrameBlind (zPc D r ca av h) := by
  intro a U g mk q
  obtain ⟨q0, q1, q2, q3⟩ := q
  exact ⟨q0, q1, va_K.moved (u := U) (U := U.calling g mk a) (Vm.Alike.refl U.vm) q2, q3⟩
/-- the locals with which a method begins -/
def zent : List zV → List zV
  | [] => []
  | v :: l => if vlong v then v :: vU :: zent l else v :: zent l
theorem zent_args (r : Nat → Nat) : ∀ (av : List zV) (b i : Nat) (v : zV), (zent av)[i]? = some v → vuse v = true → (b + i, tv r v) ∈ lv_args b (av.map (tv r))
  | [], b, i, v, h, _ => by simp [zent] at h
  | w :: l, b, i, v, h, hv => by
    have hc := tv_cat r w
    simp only [List.map_cons, lv_args, hc]
    by_cases hw : vlong w = true
    · simp only [zent, hw, if_true] at h
      simp only [vw, hw, if_true]
      match i, h with
      | 0, h =>
        simp only [List.getElem?_cons_zero, Option.some.injEq] at h
        subst h
        exact List.mem_cons_self
      | 1, h =>
        simp only [List.getElem?_cons_succ, List.getElem?_cons_zero, Option.some.injEq] at h
        subst h
        cases hv
      | j + 2, h =>
        simp only [List.getElem?_cons_succ] at h
        refine List.mem_cons_of_mem _ ?_
        have := zent_args r l (b + 2) j v h hv
        rwa [show b + (j + 2) = b + 2 + j by omega]
    · simp only [zent, hw] at h
      simp only [vw, hw]
      match i, h with
      | 0, h =>
        simp at h
        subst h
        exact List.mem_cons_self
      | j + 1, h =>
        simp only [Bool.false_eq_true, if_false, List.getElem?_cons_succ] at h
        refine List.mem_cons_of_mem _ ?_
        have := zent_args r l (b + 1) j v h hv
        rw [show b + (j + 1) = b + 1 + j by omega]
        simpa using this
theorem zent_len (r : Nat → Nat) : ∀ (av : List zV), (lg_sl (av.map (tv r))).length = (av.map vw).sum
  | [] => rfl
  | w :: l => by
    have hc := tv_cat r w
    have ih := zent_len r l
    simp only [List.map_cons, List.sum_cons]
    rw [← ih, ← hc]
    rcases w with x | x | x | x <;> simp [lg_sl, tv, Value.category] <;> omega
theorem zC.of {M : zM} {av : List zV} {h : zH} {post : Option zV → zH → Prop} (hp : plainName M.1.cls = true) (hn : (av.map vw).sum ≤ M.2.2.1) (k : Z M post 0 (zent av) [] h) : zC M av h post := by
  intro l D r ca
  refine Met.ofW (cc := M.2.1) (maxL := M.2.2.1) (ret := M.2.2.2.1) hp rfl ?_
  intro p e s m args below meth c s₁ B hml hv
  obtain ⟨rfl, hP, hK, hD⟩ := hv
  have hts := atoms_spec (ws := zws M) B.pre
  have hown : s.vm.findClass M.1.cls = some m.cls := findClass_of_methodNamed B.named
  have hl := lv_entry (av.map (tv r)) (n := M.2.2.1) (by rw [zent_len]; exact hn)
  rw [lg_entry_eq]
  refine k p l e s m _ below meth c D r ca ⟨B.exec, B.bytes, hml, hown, fun w hw => hts w (List.mem_cons_of_mem _ hw), B.returns, B.notSynchronized, hK, hD⟩ s.heap [] _ ⟨hP, va_S.rf⟩ ⟨hl.1, hl.2.1, fun i v hi hu => ?_⟩
  have hm := zent_args r av 0 i v hi hu
  rw [Nat.zero_add] at hm
  exact hl.2.2 _ hm
