/-! kinds -/
section ZK2
variable {M N X : zM} {post postN : Option zV → zH → Prop} {pc idx n k0 : Nat} {lv st av : List zV} {h : zH}
theorem zg_callU {a : Nat} (hC : zC N (vR a :: av) h postN) (hg : zG N n) (hx : zG X n) (hl : Cond.methodLink M.1.cls idx X.1 ∈ zt) (hsm : Cond.sameMethod X.1.cls X.1.cls X.1.name X.1.desc ∈ zt) (hix : Cond.instanceMethod X.1 ∈ zt) (hi : Cond.instanceMethod N.1 ∈ zt) (hs : Cond.selects N.1.cls X.1 N.1 ∈ zt) {c0 : Nat} (hc0 : c0 < 13) (hca : (zks a).1 = c0) (hcn : zRR c0 = N.1.cls) (hrm : zRm M N) (hn : av.length = n) (hw : (st.map vw).sum ≤ 8) (hd : decode M.2.1 pc = .ok (.invokevirtual idx, 3))
    (k : ∀ v h1, postN v h1 → Z M post (pc + 3) lv (v.toList ++ st) h1) : Z M post pc lv (av.reverse ++ vR a :: st) h := by
  intro p l e s m args below meth c D r ca B H locs ls P L
  have hT : GoodIn zt (va_wsO M.1.cls idx N.1.cls X.1.cls X.1 N.1 (zws N)) := zGood (fun w hw => by
    unfold va_wsO at hw
    rcases List.mem_append.mp hw with q | q
    · simp only [List.mem_cons, List.not_mem_nil, or_false] at q
      rcases q with rfl | rfl | rfl | rfl | rfl | rfl
      · exact hl
      · exact hsm
      · exact hix
      · exact hs
      · exact hi
      · exact hg.2.1
    · exact zws_in hg w q)
  have ha : a < 56 := zks_lt hca (by omega)
  have hrec := va_recv (s := s) (D := D) (ci := c0) (q0 := a) B.2.2.2.2.2.2.2.1 P.1 (zcl_at c0 hc0) (by rw [wd_at ha, zcell_obj hca hc0])
  rw [hcn] at hrec
  refine z_after (va_runU (C := N.1.cls) (b := r a) (As := av.map (tv r)) (rest := st.map (tv r)) ⟨B.1, B.2.1, B.2.2.1, B.2.2.2.1, B.2.2.2.2.1⟩ (hC l D r ca) (va_cwO n B.2.2.2.2.1 hT rfl rfl rfl hx.1 hx.2.2 hrm) ⟨zPc_blind, hrec, fun U hU hW => ⟨rfl, by rw [hU]; exact P.1, va_K.moved hW.alike B.2.2.2.2.2.2.2.1, B.2.2.2.2.2.2.2.2⟩⟩ rfl (by rw [List.length_map]; exact hn) L.1 (by simp [List.map_reverse]; rfl) (lv_room (by rw [tv_cats]; exact hw)) hd ⟨Nat.le_refl _, Nat.le_refl _⟩) P.2 (fun v h1 H1 locs1 hp hP1 hS1 => ?_)
  rw [zst_map]
  exact k v h1 hp p l e s m args below meth c D r ca B H1 locs1 ls ⟨hP1, hS1⟩ L
theorem zg_callSU {a : Nat} (hC : zC N (vR a :: av) h postN) (hg : zG N n) (hl : Cond.methodLink M.1.cls idx N.1 ∈ zt) (hsm : Cond.sameMethod N.1.cls N.1.cls N.1.name N.1.desc ∈ zt) (hsu : Cond.superclass M.1.cls N.1.cls ∈ zt) (hi : Cond.instanceMethod N.1 ∈ zt) (hno : N.1.name ≠ "<init>") {c0 : Nat} (hc0 : c0 < 13) (hca : (zks a).1 = c0) (hin : Cond.instantiable (zRR c0) k0 ∈ zt) (hrm : zRm M N) (hn : av.length = n) (hw : (st.map vw).sum ≤ 8) (hd : decode M.2.1 pc = .ok (.invokespecial idx, 3))
    (k : ∀ v h1, postN v h1 → Z M post (pc + 3) lv (v.toList ++ st) h1) : Z M post pc lv (av.reverse ++ vR a :: st) h := by
  intro p l e s m args below meth c D r ca B H locs ls P L
  have hT : GoodIn zt (va_wsSU M.1.cls idx N.1 (zws N)) := zGood (fun w hw => by
    unfold va_wsSU at hw
    rcases List.mem_append.mp hw with q | q
    · simp only [List.mem_cons, List.not_mem_nil, or_false] at q
      rcases q with rfl | rfl | rfl | rfl | rfl
      · exact hl
      · exact hsm
      · exact hsu
      · exact hi
      · exact hg.2.1
    · exact zws_in hg w q)
  have ha : a < 56 := zks_lt hca (by omega)
  have hrec := va_recv (s := s) (D := D) (ci := c0) (q0 := a) B.2.2.2.2.2.2.2.1 P.1 (zcl_at c0 hc0) (by rw [wd_at ha, zcell_obj hca hc0])
  obtain ⟨cC, hat⟩ := classAt_of (B.2.2.2.2.1 _ hin)
  refine z_after (va_runSU (C := zRR c0) (b := r a) (As := av.map (tv r)) (rest := st.map (tv r)) hat ⟨B.1, B.2.1, B.2.2.1, B.2.2.2.1, B.2.2.2.2.1⟩ (hC l D r ca) (va_cwSU n B.2.2.2.2.1 hT rfl rfl rfl ⟨hno, hg.2.2.2.2⟩ hrm) ⟨zPc_blind, hrec, fun U hU hW => ⟨rfl, by rw [hU]; exact P.1, va_K.moved hW.alike B.2.2.2.2.2.2.2.1, B.2.2.2.2.2.2.2.2⟩⟩ rfl (by rw [List.length_map]; exact hn) L.1 (by simp [List.map_reverse]; rfl) (lv_room (by rw [tv_cats]; exact hw)) hd ⟨Nat.le_refl _, Nat.le_refl _⟩) P.2 (fun v h1 H1 locs1 hp hP1 hS1 => ?_)
  rw [zst_map]
  exact k v h1 hp p l e s m args below meth c D r ca B H1 locs1 ls ⟨hP1, hS1⟩ L
end ZK2
