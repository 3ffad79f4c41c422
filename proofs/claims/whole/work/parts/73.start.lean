/-! the start -/
theorem yin : ∀ k, k < 13 → Cond.instantiable (zRR k) (zNN k) ∈ zt := by
  intro k hk
  match k, hk with
  | 0, _ => exact zt_t1 137 (by decide +kernel) rfl
  | 1, _ => exact zt_t1 189 (by decide +kernel) rfl
  | 2, _ => exact zt_t1 182 (by decide +kernel) rfl
  | 3, _ => exact zt_t1 196 (by decide +kernel) rfl
  | 4, _ => exact zt_t1 203 (by decide +kernel) rfl
  | 5, _ => exact zt_t1 102 (by decide +kernel) rfl
  | 6, _ => exact zt_t1 210 (by decide +kernel) rfl
  | 7, _ => exact zt_t1 117 (by decide +kernel) rfl
  | 8, _ => exact zt_t1 175 (by decide +kernel) rfl
  | 9, _ => exact zt_t1 26 (by decide +kernel) rfl
  | 10, _ => exact zt_t1 59 (by decide +kernel) rfl
  | 11, _ => exact zt_t1 18 (by decide +kernel) rfl
  | 12, _ => exact zt_t1 683 (by decide +kernel) rfl
  | k + 13, h => exact absurd h (by omega)
theorem sim00 : Sim h00 3 := by
  have row : RowOK 0 0 (fun c => h00 42 c.toNat) := ⟨by decide, by decide, by decide, by decide, fun p p0 p1 => absurd p1 (by omega), fun p q p0 p1 => absurd p1 (by omega), fun c _ _ => ⟨Int.le_refl 0, (by decide : (0 : Int) ≤ 99)⟩⟩
  have im : ∀ k : Nat, k = 0 ∨ k = 1 → IE h00 k := by
    intro k hk
    have z : h00 18 k = 0 := rfl
    refine ⟨rfl, Or.inl rfl, ?_, fun q => absurd (z.symm.trans q) (by decide)⟩
    rcases hk with rfl | rfl
    · exact ⟨by decide, by decide⟩
    · exact ⟨by decide, by decide⟩
  refine ⟨⟨rfl, rfl, Or.inl rfl⟩, ⟨rfl, rfl, rfl, rfl, fun j j0 j1 => ?_, fun j j0 j1 => ?_, by decide, by decide, by decide, by decide, fun j j0 j1 => ?_, fun j j0 j1 => ?_⟩, ⟨by decide, rfl, fun c _ _ => rfl, fun i c i0 i1 => ?_, row, fun i i0 i1 => ?_⟩, ⟨im 0 (Or.inl rfl), im 1 (Or.inr rfl)⟩, ⟨⟨by decide, fun j j0 j1 => ?_⟩, rfl, fun j j0 j1 => ?_, ⟨by decide, fun j j0 j1 => ?_⟩, rfl, fun j j0 j1 => ?_⟩, ⟨⟨by decide, fun j j0 j1 => ?_⟩, rfl, fun j j0 j1 => ?_⟩, rfl⟩
  · exact absurd (show j < 0 from j1) (by omega)
  · exact absurd (show j < 0 from j1) (by omega)
  · exact absurd (show j < 0 from j1) (by omega)
  · exact absurd (show j < 0 from j1) (by omega)
  · exact absurd (show i < 0 from i1) (by omega)
  · exact absurd (show i < 0 from i1) (by omega)
  · exact absurd (show j < 0 from j1) (by omega)
  · exact absurd (show j < 0 from j1) (by omega)
  · exact absurd (show j < 0 from j1) (by omega)
  · exact absurd (show j < 0 from j1) (by omega)
  · exact absurd (show j < 0 from j1) (by omega)
  · exact absurd (show j < 0 from j1) (by omega)
theorem zcell_r {r r' : Nat → Nat} {ca : Nat → ClassId} {h : zH} {a : Nat} (ho : (zks a).1 < 13 → ∀ k, k < zNN (zks a).1 → (zisI (zty (zks a).1 k) || zisL (zty (zks a).1 k)) = false → r (zsv h (zks a).1 a k).toNat = r' (zsv h (zks a).1 a k).toNat) (hq : ¬ (zks a).1 < 102 → ∀ j, r (zsr a j) = r' (zsr a j)) : zcell r ca h a = zcell r' ca h a := by
  unfold zcell
  by_cases h1 : (zks a).1 < 13
  · rw [if_pos h1, if_pos h1]
    refine congrArg Sum.inr (congrArg (Prod.mk _) ?_)
    apply List.map_congr_left
    intro k hk
    have hk := List.mem_range.mp hk
    have ho := ho h1 k hk
    generalize zty (zks a).1 k = t at ho
    generalize zsv h (zks a).1 a k = x at ho
    cases t <;> first | rfl | exact congrArg Value.ref (ho rfl)
  · rw [if_neg h1, if_neg h1]
    by_cases h2 : (zks a).1 < 102
    · rw [if_pos h2, if_pos h2]
    · rw [if_neg h2, if_neg h2]
      have e : (fun j => some (r (zsr a j))) = fun j => some (r' (zsr a j)) := by
        funext j
        rw [hq h2 j]
      rw [e]
theorem x_refs : ∀ a, a < 39 → (zks a).1 < 13 → ∀ k, k < zNN (zks a).1 → (zisI (zty (zks a).1 k) || zisL (zty (zks a).1 k)) = false → (zsv h00 (zks a).1 a k).toNat < 39 := by decide +kernel
theorem x_rows : ∀ a, a < 39 → ¬ (zks a).1 < 102 → a = 13 ∨ a = 26 := by decide +kernel
theorem m_refs : ∀ a, a < 56 → 39 ≤ a → (zks a).1 < 13 → ∀ k, k < zNN (zks a).1 → (zisI (zty (zks a).1 k) || zisL (zty (zks a).1 k)) = false → 39 ≤ (zsv h00 (zks a).1 a k).toNat := by decide +kernel
theorem m_rows : ∀ a, a < 56 → 39 ≤ a → (zks a).1 < 102 := by decide +kernel
theorem zsr13 (j : Nat) : zsr 13 j < 39 := by
  show ([14, 16] : List Nat).getD j 0 < 39
  match j with
  | 0 => decide
  | 1 => decide
  | j + 2 => exact (by decide : (0 : Nat) < 39)
theorem zsr26 (j : Nat) : zsr 26 j < 39 := by
  show ([27, 28, 29, 30, 31, 32] : List Nat).getD j 0 < 39
  match j with
  | 0 => decide
  | 1 => decide
  | 2 => decide
  | 3 => decide
  | 4 => decide
  | 5 => decide
  | j + 6 => exact (by decide : (0 : Nat) < 39)
def r3 (r1 r2 : Nat → Nat) (i : Nat) : Nat := if i < 39 then r1 i else r2 i
theorem wd00 {r1 r2 : Nat → Nat} {ca : Nat → ClassId} : xw r1 ca ++ mw r2 ca = wd (r3 r1 r2) ca h00 := by
  unfold xw mw wd
  rw [show List.range 56 = List.range 39 ++ List.range' 39 17 by decide, List.map_append]
  congr 1
  · apply List.map_congr_left
    intro a ha
    have ha := List.mem_range.mp ha
    have e : ∀ i, i < 39 → r1 i = r3 r1 r2 i := fun i hi => by unfold r3; rw [if_pos hi]
    rw [← e a ha]
    refine congrArg (Prod.mk _) (zcell_r (fun g k hk ht => e _ (x_refs a ha g k hk ht)) (fun g j => e _ ?_))
    rcases x_rows a ha g with rfl | rfl
    · exact zsr13 j
    · exact zsr26 j
/-- the law calls a constructor -/
theorem l_callI {p : Program} {l : Launch} {e : Env} {s : State} {m : MethodId} {below : List Frame} {meth : Method} {c : Code} {b L : Nat} {xs : Nat → Int32} {D : va_G} {ca : Nat → ClassId} {Q : State → Prop} {N0 : zM} {nwN : List Cond} {q idx mcN msN pc cells slots : Nat} {eN : va_E} {postN : va_W → Prop} {wr : va_W} {H : Heap} {locs : List Loc} {ls : Array Slot} {st : List Value} (B : lw_At p s m meth c b L xs) (hK : va_K D zcl (ztys ca) s) (N : ∀ w ∈ nwN, va_Nw w s) (Ls : ls.size = 4) (P : va_P D zcl (wr ++ [(q, eN)]) H) (Dd : va_D (fun q : Nat => s.heap.size ≤ q) (wr ++ [(q, eN)])) (S : va_S (fun q : Nat => s.heap.size ≤ q) s.heap H locs) (hd : decode code pc = .ok (.invokespecial idx, 3)) (hC : yC N0 nwN D ca q eN mcN msN postN) (hg : zG N0 0) (hi : Cond.instanceMethod N0.1 ∈ zt) (hNg : nwN.all yGoodN = true) (hl : Cond.methodLink R_law idx N0.1 ∈ zt) (hnm : N0.1.name = "<init>") (hr : N0.2.2.2.1 = none) (hrm : N0.rm.frames + 1 ≤ room_1.frames ∧ 8 + (N0.2.2.1 + 11) + N0.rm.locals ≤ room_1.locals) (hw : (st.map fun v => v.category).sum ≤ 8) (hc : cells + mcN ≤ room_1.cells) (hs : slots + msN ≤ room_1.slots)
    (k : ∀ (w1 : va_W) (H1 : Heap) (locs1 : List Loc), postN w1 → va_P D zcl (wr ++ w1) H1 → va_D (fun q : Nat => s.heap.size ≤ q) (wr ++ w1) → va_S (fun q : Nat => s.heap.size ≤ q) s.heap H1 locs1 → W p l e room_1 s m #[Value.ref b] below meth c H1 locs1 (cells + mcN) (slots + msN) Q (F0 m (pc + 3) ls st)) : W p l e room_1 s m #[Value.ref b] below meth c H locs cells slots Q (F0 m pc ls (.ref q :: st)) := by
  have hts : ∀ w ∈ zt, w.before #[Value.ref b] s = true := fun w hw => B.2.2.2.2.2.1 w (zt_tbl hw)
  have hA : ∀ z : Nat, s.heap.size ≤ z → (fun q : Nat => s.heap.size ≤ q) z := fun z h => h
  have hC1 : [wr.length].map (fun i => (wr ++ [(q, eN)])[i]?) = [(q, eN)].map some := by simp
  have hR1 : (List.range wr.length).map (fun i => (wr ++ [(q, eN)])[i]?) = wr.map some := by
    apply List.ext_getElem?
    intro i
    by_cases hi : i < wr.length
    · simp [hi]
      rw [List.getElem?_append_left hi, List.getElem?_eq_getElem hi]
    · rw [List.getElem?_eq_none (by simpa using hi), List.getElem?_eq_none (by simpa using hi)]
  have hPc : va_P D zcl [(q, eN)] H := by
    intro j z hj
    have h1 : j < 1 := (List.getElem?_eq_some_iff.mp hj).1
    have h2 : j = 0 := by omega
    subst h2
    exact P wr.length z (by rw [List.getElem?_append_right (Nat.le_refl _), Nat.sub_self]; exact hj)
  have hFc := va_free (wc := [(q, eN)]) Dd S hA [wr.length] hC1
  have hws : zws N0 = Cond.code N0.1 N0.2.1 N0.2.2.1 none :: zt := by
    show Cond.code N0.1 N0.2.1 N0.2.2.1 N0.2.2.2.1 :: zt = _
    rw [hr]
  refine va_callv (va_runI (b := q) (As := []) (rest := st) ⟨B.1, B.2.1, B.2.2.2.1, B.2.2.2.2.1, hts⟩ (hC l H.size) (cwI 0 hts (zGood (zws_in hg)) hws rfl rfl (hts _ hg.2.1) (hts _ hl) (hts _ hi) hnm hg.2.2 hrm) ⟨yPc_blind hNg, fun U hU hW => ⟨rfl, by rw [hU], by rw [hU]; exact hPc, va_K.moved hW.alike hK, fun w hw => yN_moved (List.all_eq_true.mp hNg w hw) hW (N w hw)⟩⟩ rfl rfl Ls rfl (lv_room hw) hd ⟨hc, hs⟩) S (fun z _ h => hFc z h) hFc (fun u t H1 locs1 ht hvm hw1 hB hz1 hk1 S1 => ?_)
  obtain ⟨hP1, hK1, hD1⟩ := hB
  rw [ht] at hP1
  obtain ⟨P2, D2⟩ := va_join (wr := wr) (w1 := u) P Dd [wr.length] (List.range wr.length) hC1 hR1 (by rw [List.range_eq_range']; exact va_nd_range _ _) (fun i hi h2 => by
    have := List.mem_range.mp hi
    have h3 : i = wr.length := by simpa using h2
    omega) hk1 hFc hP1 hD1
  exact k u H1 locs1 hw1 P2 D2 S1
/-- classes and array classes of the start -/
theorem start_K {args : Array Value} {s : State} (c9 : ClassId) (hts : ∀ w ∈ lw_tbl, w.before args s = true) : ∃ (D : va_G) (ca : Nat → ClassId), va_K D zcl (ztys ca) s := by
  have hz : ∀ w ∈ zt, w.before args s = true := fun w hw => hts w (zt_tbl hw)
  have key : ∀ k, ∃ (cC : ClassId) (iS : Nat → Nat), k < 13 → u_Kn s (zRR k) (zTT k) (zNN k) cC iS := by
    intro k
    by_cases hk : k < 13
    · obtain ⟨cC, iS, h⟩ := u_known (C := zRR k) (T := zTT k) (N := zNN k) (n := zNN k) hz (zcl_zt hk) (hz _ (yin k hk))
      exact ⟨cC, iS, fun _ => h⟩
    · exact ⟨c9, fun _ => 0, fun h => absurd h hk⟩
  have ha : ∀ ty : FieldType, Cond.arrayClass ty ∈ zt → (∀ c, va_RA s c ty = (s.vm.findClass ("[" ++ ty.toString) = some c)) → ∃ c, ArrOfT s c ty ∧ va_RA s c ty := by
    intro ty hw he
    obtain ⟨c, k, comp, h1, h2, h3⟩ := Cond.arrayClass_spec (hz _ hw)
    refine ⟨c, fun n z => ⟨fun k h => (by cases h), k, h2, comp, h3⟩, ?_⟩
    rw [he]
    exact h1
  have hq : ∀ C : String, va_AO C s → ∃ c, ArrOfT s c (.object C) ∧ va_RA s c (.object C) := by
    intro C hw
    obtain ⟨comp, c, k, h1, h2, h3, h4, h5⟩ := Cond.arrayOver_spec hw
    exact ⟨c, fun n z => ⟨fun k h => (by cases h), k, h3, comp, h4⟩, k, comp, h3, h4, h1, h5⟩
  obtain ⟨c0, g0⟩ := ha .int yi1 (fun _ => rfl)
  obtain ⟨c1, g1⟩ := ha .boolean yi2 (fun _ => rfl)
  obtain ⟨c2, g2⟩ := hq "RoseWheel$Days" (va_AO.of (hts _ (ynw_tbl _ (List.mem_of_getElem? (i := 21) rfl))))
  obtain ⟨c3, g3⟩ := hq "RoseWheel$One" (va_AO.of (hts _ (ynw_tbl _ (List.mem_of_getElem? (i := 22) rfl))))
  refine ⟨(fun k => Classical.choose (key k), fun k => Classical.choose (Classical.choose_spec (key k))), fun k => match k with
    | 0 => c0
    | 1 => c1
    | 2 => c2
    | _ => c3, fun k q hq => ?_, fun k q h => ?_⟩
  · have hk : k < 13 := (List.getElem?_eq_some_iff.mp hq).1
    rw [zcl_at k hk] at hq
    cases hq
    exact Classical.choose_spec (Classical.choose_spec (key k)) hk
  · match k, h with
    | 0, h => cases h; exact g0
    | 1, h => cases h; exact g1
    | 2, h => cases h; exact g2
    | 3, h => cases h; exact g3
    | k + 4, h => exact absurd h (by simp [ztys])
