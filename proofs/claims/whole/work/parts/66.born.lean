/-! constructors: worlds that grow -/
def yGoodN (w : Cond) : Bool := match w with
  | .methodLinkNest _ _ _ _ => true
  | .castable _ _ => true
  | .arrayOver (.object _) => true
  | _ => false
theorem yN_moved {w : Cond} {s U : State} (hg : yGoodN w = true) (hW : s.WarmedH U.vm) (h : va_Nw w s) : va_Nw w U := by
  unfold yGoodN at hg
  split at hg
  · exact va_Nw.warmM hW h
  · exact va_Nw.warmC hW h
  · exact va_AO.moved hW.alike h
  · cases hg
theorem yN_call {w : Cond} {U : State} {g : JFrame} {mk : MethodId} {a : Array Value} (hg : yGoodN w = true) (h : va_Nw w U) : va_Nw w (U.calling g mk a) := by
  unfold yGoodN at hg
  split at hg
  · exact va_Nw.same (u := U) (U := U.calling g mk a) rfl rfl h
  · exact va_Nw.same (u := U) (U := U.calling g mk a) rfl rfl h
  · exact va_AO.moved (u := U) (U := U.calling g mk a) (Vm.Alike.refl U.vm) h
  · cases hg
theorem va_RA_cls {s : State} {cA : ClassId} {ty : FieldType} (h : va_RA s cA ty) : s.vm.findClass ("[" ++ ty.toString) = some cA := by
  cases ty with
  | object C =>
    obtain ⟨_, _, _, _, _, h4⟩ := h
    exact h4
  | _ => exact h
theorem yca {D : va_G} {ca : Nat → ClassId} {s : State} {cA : ClassId} {ty : FieldType} (k : Nat) (K1 : va_K D zcl (ztys ca ++ [(cA, ty)]) s) (hk : (ztys ca)[k]? = some (ca k, ty)) : cA = ca k := by
  have h1 := va_RA_cls (K1.2 4 (cA, ty) rfl).2
  have hl : k < (ztys ca).length := (List.getElem?_eq_some_iff.mp hk).1
  have h2 := va_RA_cls (K1.2 k (ca k, ty) (by rw [List.getElem?_append_left hl]; exact hk)).2
  exact Option.some.inj (h1.symm.trans h2)
theorem i32_z : Int32.ofInt 0 = 0 := by decide
def yw (ca : Nat → ClassId) (n : Nat) : va_E := .inl (ca 0, n, .inl (fun _ => Int32.ofInt 0))
def yb (ca : Nat → ClassId) (n : Nat) : va_E := .inl (ca 1, n, .inl (fun _ => Int32.ofInt 0))
def yq (ca : Nat → ClassId) (t n : Nat) (f : Nat → Option Nat) : va_E := .inl (ca t, n, .inr (.inr (.inr (.inr f))))
def yB (M : zM) (p : Program) (s : State) (m : MethodId) (args : Array Value) (meth : Method) (c : Code) (D : va_G) (ca : Nat → ClassId) : Prop :=
  p.tables.exec = Jvm.exec ∧ c.code = M.2.1 ∧ c.maxLocals = M.2.2.1 ∧ s.vm.findClass M.1.cls = some m.cls ∧ (∀ w ∈ zt, w.before args s = true) ∧ meth.sig.returnType = none ∧ meth.locks = false ∧ meth.name = "<init>" ∧ va_K D zcl (ztys ca) s
def yQ (D : va_G) (ca : Nat → ClassId) (A : Nat → Prop) (post : va_W → Prop) : Array Value → State → Outcome → State → Prop := va_Qv post (fun w t => va_P D zcl w t.heap ∧ va_K D zcl (ztys ca) t ∧ va_D A w) A
abbrev yR (M : zM) (mc ms : Nat) : Room := { frames := M.2.2.2.2.1, cells := mc, slots := ms, locals := M.2.2.2.2.2 }
def yPc (nw : List Cond) (D : va_G) (ca : Nat → ClassId) (a : Nat) (e0 : va_E) (sz : Nat) : Array Value → State → Prop := va_Pc [.ref a] (fun U => U.heap.size = sz ∧ va_P D zcl [(a, e0)] U.heap ∧ va_K D zcl (ztys ca) U ∧ ∀ w ∈ nw, va_Nw w U)
/-- a constructor's contract -/
def yC (M : zM) (nw : List Cond) (D : va_G) (ca : Nat → ClassId) (a : Nat) (e0 : va_E) (mc ms : Nat) (post : va_W → Prop) : Prop :=
  ∀ (l : Launch) (sz : Nat), Met l M.1 (zws M) (yR M mc ms) (yPc nw D ca a e0 sz) (yQ D ca (va_A [(a, e0)] sz) post) mc ms (va_A [(a, e0)] sz)
theorem yPc_blind {nw : List Cond} {D : va_G} {ca : Nat → ClassId} {a : Nat} {e0 : va_E} {sz : Nat} (hg : nw.all yGoodN = true) : FrameBlind (yPc nw D ca a e0 sz) := by
  intro b U g mk q
  obtain ⟨q0, q1, qP, qK, qN⟩ := q
  exact ⟨q0, q1, qP, va_K.moved (u := U) (U := U.calling g mk b) (Vm.Alike.refl U.vm) qK, fun w hw => yN_call (List.all_eq_true.mp hg w hw) (qN w hw)⟩
/-- from here a constructor comes to its end with post -/
def Y (M : zM) (nw : List Cond) (D : va_G) (ca : Nat → ClassId) (a : Nat) (e0 : va_E) (mc ms : Nat) (post : va_W → Prop) (pc : Nat) (st : List Value) (ws : va_W) (cells slots : Nat) : Prop :=
  ∀ (p : Program) (l : Launch) (e : Env) (s : State) (m : MethodId) (args : Array Value) (below : List Frame) (meth : Method) (c : Code), yB M p s m args meth c D ca → (∀ w ∈ nw, va_Nw w s) →
    ∀ (H : Heap) (locs : List Loc) (ls : Array Slot), lv_has ls M.2.2.1 [(0, .ref a)] → va_P D zcl ws H → va_D (va_A [(a, e0)] s.heap.size) ws → va_S (va_A [(a, e0)] s.heap.size) s.heap H locs →
      W p l e (yR M mc ms) s m args below meth c H locs cells slots (MQ below (yQ D ca (va_A [(a, e0)] s.heap.size) post) args s mc ms (va_A [(a, e0)] s.heap.size)) (F0 m pc ls st)
theorem yD1 {a : Nat} {e0 : va_E} {sz : Nat} : va_D (va_A [(a, e0)] sz) [(a, e0)] := by
  refine ⟨fun i j p q hi hj _ => ?_, fun k q hk => va_A.in hk⟩
  have h1 : i < 1 := (List.getElem?_eq_some_iff.mp hi).1
  have h2 : j < 1 := (List.getElem?_eq_some_iff.mp hj).1
  omega
theorem yC.of {M : zM} {nw : List Cond} {D : va_G} {ca : Nat → ClassId} {a : Nat} {e0 : va_E} {mc ms : Nat} {post : va_W → Prop} (hp : plainName M.1.cls = true) (hn : M.1.name = "<init>") (hr : M.2.2.2.1 = none) (hL : 1 ≤ M.2.2.1) (k : Y M nw D ca a e0 mc ms post 0 [] [(a, e0)] 0 0) : yC M nw D ca a e0 mc ms post := by
  intro l sz
  refine Met.ofW (cc := M.2.1) (maxL := M.2.2.1) (ret := M.2.2.2.1) hp rfl ?_
  intro p e s m args below meth c s₁ B hml hv
  obtain ⟨rfl, hsz, hP, hK, hN⟩ := hv
  subst hsz
  have hts := atoms_spec (ws := zws M) B.pre
  have hown : s.vm.findClass M.1.cls = some m.cls := findClass_of_methodNamed B.named
  have hin : meth.name = "<init>" := ((name_of_methodNamed B.named B.method).1).trans hn
  have hl := lv_entry ([.ref a]) (n := M.2.2.1) hL
  rw [lg_entry_eq]
  exact k p l e s m _ below meth c ⟨B.exec, B.bytes, hml, hown, fun w hw => hts w (List.mem_cons_of_mem _ hw), B.returns.trans hr, B.notSynchronized, hin, hK⟩ hN s.heap [] _ hl hP yD1 va_S.rf
theorem yo1 : Cond.instanceMethod objectInit ∈ zt := zt_t1 23 (by decide +kernel) rfl
theorem yo2 : Cond.code objectInit ⟨#[0xb1]⟩ 1 none ∈ zt := zt_t1 24 (by decide +kernel) rfl
theorem yi1 : Cond.arrayClass .int ∈ zt := zt_t1 57 (by decide +kernel) rfl
theorem yi2 : Cond.arrayClass .boolean ∈ zt := zt_t1 135 (by decide +kernel) rfl
theorem va_nd_range : ∀ (n b : Nat), va_nd (List.range' b n) = true
  | 0, _ => rfl
  | n + 1, b => by
    rw [List.range'_succ]
    show (decide (b ∉ List.range' (b + 1) n) && va_nd (List.range' (b + 1) n)) = true
    rw [va_nd_range n (b + 1), Bool.and_true, decide_eq_true_eq, List.mem_range']
    rintro ⟨i, _, h⟩
    omega
section YY
variable {M : zM} {nw : List Cond} {D : va_G} {ca : Nat → ClassId} {a : Nat} {e0 : va_E} {mc ms : Nat} {post : va_W → Prop} {pc : Nat} {st : List Value} {ws : va_W} {cells slots : Nat}
theorem y_this (hd : decode M.2.1 pc = .ok (.aload_n 0, 1)) (k : Y M nw D ca a e0 mc ms post (pc + 1) (.ref a :: st) ws cells slots) : Y M nw D ca a e0 mc ms post pc st ws cells slots := by
  intro p l e s m args below meth c B N H locs ls L P Dd S
  exact lv_aload_n B.1 B.2.1 hd rfl (lv_at L 0 rfl) (k p l e s m args below meth c B N H locs ls L P Dd S)
theorem y_dup {q : Nat} (hd : decode M.2.1 pc = .ok (.dup, 1)) (k : Y M nw D ca a e0 mc ms post (pc + 1) (.ref q :: .ref q :: st) ws cells slots) : Y M nw D ca a e0 mc ms post pc (.ref q :: st) ws cells slots := by
  intro p l e s m args below meth c B N H locs ls L P Dd S
  exact lv_dup B.1 B.2.1 hd rfl (k p l e s m args below meth c B N H locs ls L P Dd S)
theorem y_iconst {n : Int} (v : Int32) (hd : decode M.2.1 pc = .ok (.iconst n, 1)) (hv : Int32.ofInt n = v) (k : Y M nw D ca a e0 mc ms post (pc + 1) (.int v :: st) ws cells slots) : Y M nw D ca a e0 mc ms post pc st ws cells slots := by
  intro p l e s m args below meth c B N H locs ls L P Dd S
  exact lv_iconst B.1 B.2.1 hd hv (k p l e s m args below meth c B N H locs ls L P Dd S)
theorem y_bipush {n : Int} (v : Int32) (hd : decode M.2.1 pc = .ok (.bipush n, 2)) (hv : (Int8.ofInt n).toInt32 = v) (k : Y M nw D ca a e0 mc ms post (pc + 2) (.int v :: st) ws cells slots) : Y M nw D ca a e0 mc ms post pc st ws cells slots := by
  intro p l e s m args below meth c B N H locs ls L P Dd S
  exact lv_bipush B.1 B.2.1 hd hv (k p l e s m args below meth c B N H locs ls L P Dd S)
theorem y_sipush {n : Int} (v : Int32) (hd : decode M.2.1 pc = .ok (.sipush n, 3)) (hv : (Int16.ofInt n).toInt32 = v) (k : Y M nw D ca a e0 mc ms post (pc + 3) (.int v :: st) ws cells slots) : Y M nw D ca a e0 mc ms post pc st ws cells slots := by
  intro p l e s m args below meth c B N H locs ls L P Dd S
  exact lv_sipush B.1 B.2.1 hd hv (k p l e s m args below meth c B N H locs ls L P Dd S)
theorem y_lconst {n : Fin 2} (v : Int64) (hd : decode M.2.1 pc = .ok (.lconst n, 1)) (hv : Int64.ofNat (n : Nat) = v) (k : Y M nw D ca a e0 mc ms post (pc + 1) (.long v :: st) ws cells slots) : Y M nw D ca a e0 mc ms post pc st ws cells slots := by
  intro p l e s m args below meth c B N H locs ls L P Dd S
  exact lv_lconst B.1 B.2.1 hd hv (k p l e s m args below meth c B N H locs ls L P Dd S)
theorem y_obj {q idx : Nat} (hd : decode M.2.1 pc = .ok (.invokespecial idx, 3)) (hl : Cond.methodLink M.1.cls idx objectInit ∈ zt) (hf : 1 ≤ M.2.2.2.2.1) (hc : 12 ≤ M.2.2.2.2.2) (k : Y M nw D ca a e0 mc ms post (pc + 3) [] ws cells slots) : Y M nw D ca a e0 mc ms post pc [.ref q] ws cells slots := by
  intro p l e s m args below meth c B N H locs ls L P Dd S
  exact W.objInit B.1 B.2.1 B.2.2.2.1 (B.2.2.2.2.1 _ hl) (B.2.2.2.2.1 _ yo1) (B.2.2.2.2.1 _ yo2) rfl (L.1.trans B.2.2.1.symm) rfl hd hf hc (k p l e s m args below meth c B N H locs ls L P Dd S)
theorem y_newi {n : Int32} (N' : Nat) (hd : decode M.2.1 pc = .ok (.newarray .int, 2)) (hn : ¬ n < 0) (hN : n.toNatClampNeg = N') (hb : N' * componentBytes .int ≤ 536870912) (hc : cells + 1 ≤ mc) (hs : slots + N' ≤ ms) (k : ∀ q : Nat, Y M nw D ca a e0 mc ms post (pc + 2) (.ref q :: st) (ws ++ [(q, yw ca N')]) (cells + 1) (slots + N')) : Y M nw D ca a e0 mc ms post pc (.int n :: st) ws cells slots := by
  intro p l e s m args below meth c B N H locs ls L P Dd S
  refine va_newa (a0 := (N', .inl (fun _ => Int32.ofInt 0))) (ty := .int) (atype := .int) B.1 B.2.1 (B.2.2.2.2.1 _ yi1) rfl B.2.2.2.2.2.2.2.2 P Dd S (fun q h => Or.inr h) (fun cA => ?_) hn hN hb hc hs hd (fun q cA H1 K1 P1 D1 S1 => ?_)
  · rw [i32_z]; rfl
  · have hcA := yca 0 K1 rfl
    subst hcA
    exact k q p l e s m args below meth c B N H1 locs ls L P1 D1 S1
theorem y_newb {n : Int32} (N' : Nat) (hd : decode M.2.1 pc = .ok (.newarray .boolean, 2)) (hn : ¬ n < 0) (hN : n.toNatClampNeg = N') (hb : N' * componentBytes .boolean ≤ 536870912) (hc : cells + 1 ≤ mc) (hs : slots + N' ≤ ms) (k : ∀ q : Nat, Y M nw D ca a e0 mc ms post (pc + 2) (.ref q :: st) (ws ++ [(q, yb ca N')]) (cells + 1) (slots + N')) : Y M nw D ca a e0 mc ms post pc (.int n :: st) ws cells slots := by
  intro p l e s m args below meth c B N H locs ls L P Dd S
  refine va_newa (a0 := (N', .inl (fun _ => Int32.ofInt 0))) (ty := .boolean) (atype := .boolean) B.1 B.2.1 (B.2.2.2.2.1 _ yi2) rfl B.2.2.2.2.2.2.2.2 P Dd S (fun q h => Or.inr h) (fun cA => ?_) hn hN hb hc hs hd (fun q cA H1 K1 P1 D1 S1 => ?_)
  · rw [i32_z]; rfl
  · have hcA := yca 1 K1 rfl
    subst hcA
    exact k q p l e s m args below meth c B N H1 locs ls L P1 D1 S1
theorem y_newq {n : Int32} {idx : Nat} {C : String} (t0 N' : Nat) (ht : (ztys ca)[t0]? = some (ca t0, .object C)) (hd : decode M.2.1 pc = .ok (.anewarray idx, 3)) (hcl : Cond.classLink M.1.cls idx C ∈ zt) (hao : Cond.arrayOver (.object C) ∈ nw) (hn : ¬ n < 0) (hN : n.toNatClampNeg = N') (hb : N' * 4 ≤ 536870912) (hc : cells + 1 ≤ mc) (hs : slots + N' ≤ ms) (k : ∀ q : Nat, Y M nw D ca a e0 mc ms post (pc + 3) (.ref q :: st) (ws ++ [(q, yq ca t0 N' (fun _ => none))]) (cells + 1) (slots + N')) : Y M nw D ca a e0 mc ms post pc (.int n :: st) ws cells slots := by
  intro p l e s m args below meth c B N H locs ls L P Dd S
  refine va_newq B.1 B.2.1 B.2.2.2.1 (B.2.2.2.2.1 _ hcl) (N _ hao) B.2.2.2.2.2.2.2.2 P Dd S (fun q h => Or.inr h) hn hN hb hc hs hd (fun q cA H1 K1 P1 D1 S1 => ?_)
  have hcA := yca t0 K1 ht
  subst hcA
  exact k q p l e s m args below meth c B N H1 locs ls L P1 D1 S1
theorem y_new {idx : Nat} (ci : Nat) (fs : List Value) (hd : decode M.2.1 pc = .ok (.new idx, 3)) (hci : ci < 13) (hfs : ∀ j, j < zNN ci → defaultValue (zty ci j) = vp_V fs j) (hcl : Cond.classLink M.1.cls idx (zRR ci) ∈ zt) (hin : Cond.instantiable (zRR ci) (zNN ci) ∈ zt) (hini : Cond.initialized (zRR ci) ∈ zt) (hc : cells + 1 ≤ mc) (hs : slots + zNN ci ≤ ms) (k : ∀ q : Nat, Y M nw D ca a e0 mc ms post (pc + 3) (.ref q :: st) (ws ++ [(q, .inr (ci, fs))]) (cells + 1) (slots + zNN ci)) : Y M nw D ca a e0 mc ms post pc st ws cells slots := by
  intro p l e s m args below meth c B N H locs ls L P Dd S
  exact va_new (ci := ci) (fs := fs) (C := zRR ci) (T := zTT ci) (N := zNN ci) B.1 B.2.1 B.2.2.2.2.1 (zcl_zt hci) (zty ci) (zcl_ty ci hci) B.2.2.2.1 (B.2.2.2.2.1 _ hcl) (B.2.2.2.2.1 _ hin) (B.2.2.2.2.1 _ hini) B.2.2.2.2.2.2.2.2 P Dd S (fun q h => Or.inr h) (zcl_at ci hci) hfs hc hs hd (fun q H1 P1 D1 S1 => k q p l e s m args below meth c B N H1 locs ls L P1 D1 S1)
theorem y_putF {idx ci : Nat} {fs : List Value} {wr : va_W} {v : Value} (kf : Nat) (hd : decode M.2.1 pc = .ok (.putfield idx, 3)) (hci : ci < 13) (hk : kf < zNN ci) (hl : Cond.fieldLink M.1.cls idx (zTT ci kf).1 (zTT ci kf).2.1 (zTT ci kf).2.2.1 ∈ zt) (hfin : (zTT ci kf).2.2.2 = true) (hdecl : (zTT ci kf).1 = M.1.cls) (hn : narrow (zty ci kf) v = v) (hfit : fits (zty ci kf) v = true) (hlen : kf < fs.length) (k : Y M nw D ca a e0 mc ms post (pc + 3) st ((a, .inr (ci, fs.set kf v)) :: wr) cells slots) : Y M nw D ca a e0 mc ms post pc (v :: .ref a :: st) ((a, .inr (ci, fs)) :: wr) cells slots := by
  intro p l e s m args below meth c B N H locs ls L P Dd S
  exact va_putF (D := D) (ci := ci) (v := v) (ty := zty ci kf) (C := zRR ci) (T := zTT ci) (N := zNN ci) B.1 B.2.1 B.2.2.2.2.1 (zcl_zt hci) (zty ci) (zcl_ty ci hci) (zcl_nm ci hci) B.2.2.2.1 B.2.2.2.2.2.2.2.2 P Dd S 0 rfl (zcl_at ci hci) kf hk (B.2.2.2.2.1 _ hl) (fun _ h => h) hfin B.2.2.2.2.2.2.2.1 hdecl (zcl_ty ci hci kf hk) hn hfit hlen hd (fun H1 locs1 P1 D1 S1 => k p l e s m args below meth c B N H1 locs1 ls L P1 D1 S1)
theorem y_put {idx ci : Nat} {fs : List Value} {wr : va_W} {v : Value} (kf : Nat) (hd : decode M.2.1 pc = .ok (.putfield idx, 3)) (hci : ci < 13) (hk : kf < zNN ci) (hl : Cond.fieldLink M.1.cls idx (zTT ci kf).1 (zTT ci kf).2.1 (zTT ci kf).2.2.1 ∈ zt) (hfin : (zTT ci kf).2.2.2 = false) (hn : narrow (zty ci kf) v = v) (hfit : fits (zty ci kf) v = true) (hlen : kf < fs.length) (k : Y M nw D ca a e0 mc ms post (pc + 3) st ((a, .inr (ci, fs.set kf v)) :: wr) cells slots) : Y M nw D ca a e0 mc ms post pc (v :: .ref a :: st) ((a, .inr (ci, fs)) :: wr) cells slots := by
  intro p l e s m args below meth c B N H locs ls L P Dd S
  exact va_put (D := D) (ci := ci) (v := v) (ty := zty ci kf) (C := zRR ci) (T := zTT ci) (N := zNN ci) B.1 B.2.1 B.2.2.2.2.1 (zcl_zt hci) (zty ci) (zcl_ty ci hci) (zcl_nm ci hci) B.2.2.2.1 B.2.2.2.2.2.2.2.2 P Dd S 0 rfl (zcl_at ci hci) kf hk (B.2.2.2.2.1 _ hl) (fun _ h => h) hfin (zcl_ty ci hci kf hk) hn hfit hlen hd (fun H1 locs1 P1 D1 S1 => k p l e s m args below meth c B N H1 locs1 ls L P1 D1 S1)
theorem y_astq {arr v n ci : Nat} {vs : List Value} {f : Nat → Option Nat} {i : Int32} (q0 t0 qk iN : Nat) (hd : decode M.2.1 pc = .ok (.aastore, 1)) (hci : ci < 13) (ha : ws[q0]? = some (arr, yq ca t0 n f)) (ht : (ztys ca)[t0]? = some (ca t0, .object (zRR ci))) (hv : ws[qk]? = some (v, .inr (ci, vs))) (hin : vp_in i n) (hi : i.toNatClampNeg = iN) (k : Y M nw D ca a e0 mc ms post (pc + 1) st (ws.set q0 (arr, yq ca t0 n (va_up f iN (some v)))) cells slots) : Y M nw D ca a e0 mc ms post pc (.ref v :: .int i :: .ref arr :: st) ws cells slots := by
  subst hi
  intro p l e s m args below meth c B N H locs ls L P Dd S
  exact va_astq B.1 B.2.1 B.2.2.2.2.2.2.2.2 P Dd S q0 t0 qk ci ha ht hv (zcl_at ci hci) hin hd (fun H1 locs1 P1 D1 S1 => k p l e s m args below meth c B N H1 locs1 ls L P1 D1 S1)
theorem y_astqO {arr v n ci : Nat} {C : String} {vs : List Value} {f : Nat → Option Nat} {i : Int32} (q0 t0 qk iN : Nat) (hd : decode M.2.1 pc = .ok (.aastore, 1)) (hci : ci < 13) (ha : ws[q0]? = some (arr, yq ca t0 n f)) (ht : (ztys ca)[t0]? = some (ca t0, .object C)) (hca : Cond.castable (zRR ci) C ∈ nw) (hv : ws[qk]? = some (v, .inr (ci, vs))) (hin : vp_in i n) (hi : i.toNatClampNeg = iN) (k : Y M nw D ca a e0 mc ms post (pc + 1) st (ws.set q0 (arr, yq ca t0 n (va_up f iN (some v)))) cells slots) : Y M nw D ca a e0 mc ms post pc (.ref v :: .int i :: .ref arr :: st) ws cells slots := by
  subst hi
  intro p l e s m args below meth c B N H locs ls L P Dd S
  exact va_astqO B.1 B.2.1 B.2.2.2.2.2.2.2.2 P Dd S q0 t0 qk ci ha ht (N _ hca) hv (zcl_at ci hci) hin hd (fun H1 locs1 P1 D1 S1 => k p l e s m args below meth c B N H1 locs1 ls L P1 D1 S1)
/-- of a row of references only the places below its length count -/
theorem y_refs {arr n t0 : Nat} {f : Nat → Option Nat} (q0 : Nat) (g : Nat → Option Nat) (ha : ws[q0]? = some (arr, yq ca t0 n f)) (hfg : ∀ j, j < n → f j = g j) (k : Y M nw D ca a e0 mc ms post pc st (ws.set q0 (arr, yq ca t0 n g)) cells slots) : Y M nw D ca a e0 mc ms post pc st ws cells slots := by
  intro p l e s m args below meth c B N H locs ls L P Dd S
  have h0 : H[arr]? = some (vp_cell (ca t0) (n, .inr (.inr (.inr (.inr f))))) := P q0 _ ha
  have h1 : vp_cell (ca t0) (n, .inr (.inr (.inr (.inr f)))) = vp_cell (ca t0) (n, .inr (.inr (.inr (.inr g)))) := by
    rw [vp_cell_q, vp_cell_q]
    unfold arrV
    congr 2
    funext j
    show va_rf (f j.1) = va_rf (g j.1)
    rw [hfg j.1 j.2]
  refine k p l e s m args below meth c B N H locs ls L (P.set Dd ha ?_ (fun _ _ => rfl)) (Dd.set ha) S
  show H[arr]? = some (vp_cell (ca t0) (n, .inr (.inr (.inr (.inr g)))))
  rw [h0, h1]
theorem y_callN {N0 : zM} {nwN : List Cond} {q idx mcN msN : Nat} {host : String} {eN : va_E} {postN : va_W → Prop} {wr : va_W} (hd : decode M.2.1 pc = .ok (.invokespecial idx, 3)) (hC : yC N0 nwN D ca q eN mcN msN postN) (hg : zG N0 0) (hi : Cond.instanceMethod N0.1 ∈ zt) (hNin : ∀ w ∈ nwN, w ∈ nw) (hNg : nwN.all yGoodN = true) (hl : Cond.methodLinkNest M.1.cls idx N0.1 host ∈ nw) (hnm : N0.1.name = "<init>") (hr : N0.2.2.2.1 = none) (hrm : zRm M N0) (hw : (st.map fun v => v.category).sum ≤ 8) (hc : cells + mcN ≤ mc) (hs : slots + msN ≤ ms) (k : ∀ w1, postN w1 → Y M nw D ca a e0 mc ms post (pc + 3) st (wr ++ w1) (cells + mcN) (slots + msN)) : Y M nw D ca a e0 mc ms post pc (.ref q :: st) (wr ++ [(q, eN)]) cells slots := by
  intro p l e s m args below meth c B N H locs ls L P Dd S
  have hA : ∀ z : Nat, s.heap.size ≤ z → va_A [(a, e0)] s.heap.size z := fun z h => Or.inr h
  have hC1 : [wr.length].map (fun i => (wr ++ [(q, eN)])[i]?) = [(q, eN)].map some := by simp
  have hR1 : (List.range wr.length).map (fun i => (wr ++ [(q, eN)])[i]?) = wr.map some := by
    apply List.ext_getElem?
    intro i
    by_cases hi : i < wr.length
    · simp [hi]
      rw [List.getElem?_append_left hi, List.getElem?_eq_getElem hi]
    · rw [List.getElem?_eq_none (by simpa using hi), List.getElem?_eq_none (by simpa using hi)]
  have hPc : va_P D zcl [(q, eN)] H := by
    intro j z hj
    have h1 : j < 1 := (List.getElem?_eq_some_iff.mp hj).1
    have h2 : j = 0 := by omega
    subst h2
    exact P wr.length z (by rw [List.getElem?_append_right (Nat.le_refl _), Nat.sub_self]; exact hj)
  have hFc := va_free (wc := [(q, eN)]) Dd S hA [wr.length] hC1
  have hws : zws N0 = Cond.code N0.1 N0.2.1 N0.2.2.1 none :: zt := by
    show Cond.code N0.1 N0.2.1 N0.2.2.1 N0.2.2.2.1 :: zt = _
    rw [hr]
  refine va_callv (va_runIN (b := q) (As := []) (rest := st) ⟨B.1, B.2.1, B.2.2.1, B.2.2.2.1, B.2.2.2.2.1⟩ (hC l H.size) ⟨va_cnB 0 B.2.2.2.2.1 (zGood (zws_in hg)) hws rfl rfl (N _ hl) (B.2.2.2.2.1 _ hg.2.1) hg.2.2 hrm, hnm, B.2.2.2.2.1 _ hi⟩ ⟨yPc_blind hNg, fun U hU hW => ⟨rfl, by rw [hU], by rw [hU]; exact hPc, va_K.moved hW.alike B.2.2.2.2.2.2.2.2, fun w hw => yN_moved (List.all_eq_true.mp hNg w hw) hW (N w (hNin w hw))⟩⟩ rfl rfl L.1 rfl (lv_room hw) hd ⟨hc, hs⟩) S (fun z _ h => hFc z h) hFc (fun u t H1 locs1 ht hvm hw1 hB hz1 hk1 S1 => ?_)
  obtain ⟨hP1, hK1, hD1⟩ := hB
  rw [ht] at hP1
  obtain ⟨P2, D2⟩ := va_join (wr := wr) (w1 := u) P Dd [wr.length] (List.range wr.length) hC1 hR1 (by rw [List.range_eq_range']; exact va_nd_range _ _) (fun i hi h2 => by
    have := List.mem_range.mp hi
    have h3 : i = wr.length := by simpa using h2
    omega) hk1 hFc hP1 hD1
  exact k u hw1 p l e s m args below meth c B N H1 locs1 ls L P2 D2 S1
theorem y_ret (hd : decode M.2.1 pc = .ok (.return_, 1)) (hc : cells ≤ mc) (hs : slots ≤ ms) (hp : post ws) : Y M nw D ca a e0 mc ms post pc [] ws cells slots := by
  intro p l e s m args below meth c B N H locs ls L P Dd S
  refine W.widen hc hs ?_
  exact W.vret B.1 B.2.1 B.2.2.2.2.2.1 (fun t ht hW => ⟨⟨ws, rfl, hp, by rw [ht]; exact P, va_K.moved hW.alike B.2.2.2.2.2.2.2.2, Dd⟩, S.F ht⟩) S.2.2 hd B.2.2.2.2.2.2.1
end YY
