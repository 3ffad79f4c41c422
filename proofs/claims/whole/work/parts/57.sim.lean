/-! both sides agree -/
def HE (n np u : Int) (f g : Nat → Int) : Prop := (0 ≤ u ∧ u ≤ 10) ∧ g 52 = u ∧ (∀ c : Int, 0 ≤ c → c < 52 → f (u * 52 + c).toNat = g c.toNat) ∧ (∀ i c : Int, 0 ≤ i → i < u → 0 ≤ c → c < 52 → f (i * 52 + c).toNat = g (53 + 52 * i + c).toNat) ∧ RowOK n np (fun c => g c.toNat) ∧ ∀ i : Int, 0 ≤ i → i < u → RowOK n np (fun c => g (53 + 52 * i + c).toNat)
theorem HE.cg {n np u : Int} {f g f' g' : Nat → Int} (a : HE n np u f g) (hf : ∀ k, k < 572 → f' k = f k) (hg : ∀ k, k < 573 → g' k = g k) (hnp : np ≤ 6) : HE n np u f' g' := by
  obtain ⟨a1, a2, a3, a4, a5, a6⟩ := a
  refine ⟨a1, by rw [hg 52 (by omega)]; exact a2, fun c c0 c1 => ?_, fun i c i0 i1 c0 c1 => ?_, a5.to hnp (fun c c0 c1 => hg _ (by omega)), fun i i0 i1 => (a6 i i0 i1).to hnp (fun c c0 c1 => hg _ (by omega))⟩
  · rw [hf _ (by omega), hg _ (by omega)]; exact a3 c c0 c1
  · rw [hf _ (by omega), hg _ (by omega)]; exact a4 i c i0 i1 c0 c1
def IE (h : zH) (im : Nat) : Prop := h 18 im = h 44 im ∧ (h 18 im = 0 ∨ h 18 im = 1) ∧ (0 ≤ h (14 + 2 * im) 1 ∧ h (14 + 2 * im) 1 ≤ 10) ∧ (h 18 im = 1 → HE (h 39 0) (h 39 4) (h (14 + 2 * im) 1) (h (15 + 2 * im)) (fun k => h 43 (k + 573 * im)))
def WE (h : zH) (w : Nat) : Prop := h w 3 = h 39 0 ∧ h w 4 = h 39 4 ∧ h w 5 = h 39 2 ∧ h w 6 = h 39 3 ∧ (∀ j, 0 ≤ j → j < h 39 0 → px h w j = pm h j) ∧ (∀ j, 0 ≤ j → j < h 39 4 → wx h w j = wm h j) ∧ (0 ≤ h 39 0 ∧ h 39 0 ≤ 12) ∧ (0 ≤ h 39 4 ∧ h 39 4 ≤ 6) ∧ (0 ≤ h 39 2 ∧ h 39 2 ≤ 9) ∧ (1 ≤ h 39 3 ∧ h 39 3 ≤ 9) ∧ (∀ j, 0 ≤ j → j < h 39 0 → 0 ≤ pm h j ∧ pm h j ≤ 5) ∧ ∀ j, 0 ≤ j → j < h 39 4 → 1 ≤ wm h j ∧ wm h j ≤ 5
def NE (h : zH) : Prop := SI (h 39 0) (h 39 9) (sm1 h) (sm2 h) ∧ h 19 2 = h 39 9 ∧ (∀ j, 0 ≤ j → j < h 39 9 → sx1 h j = sm1 h j ∧ sx2 h j = sm2 h j) ∧ HI (h 39 11) (hm1 h) (hm2 h) ∧ h 22 2 = h 39 11 ∧ ∀ j, 0 ≤ j → j < h 39 11 → hx1 h j = hm1 h j ∧ hx2 h j = hm2 h j
def TE (h : zH) : Prop := TM h ∧ h 1 1 = h 39 15 ∧ ∀ j, 0 ≤ j → j < h 39 15 → tx h j = tm h j
def Sim (h : zH) (w : Nat) : Prop := (h 0 1 = (w : Int) ∧ h 0 2 = ((10 - w : Nat) : Int) ∧ (w = 3 ∨ w = 7)) ∧ WE h w ∧ HE (h 39 0) (h 39 4) (h 11 1) (h 12) (h 42) ∧ (IE h 0 ∧ IE h 1) ∧ NE h ∧ TE h ∧ h 25 5 = h 39 13
theorem Sim.eqD {h : zH} {w : Nat} (s : Sim h w) : EqD h w := by
  obtain ⟨s1, ⟨a1, a2, a3, a4, a5, a6, _⟩, ⟨b1, b2, b3, b4⟩, _⟩ := s
  exact ⟨a1, a2, a3, a4, a5, a6, b3⟩
theorem Sim.mi {h : zH} {w : Nat} (s : Sim h w) : MI h := by
  obtain ⟨s1, ⟨a1, a2, a3, a4, a5, a6, a7, a8, a9, c1, c2, c3⟩, ⟨b1, b2, b3, b4, b5, b6⟩, _⟩ := s
  exact ⟨a7, a8, a9, c1, c2, c3, b5⟩
theorem Sim.xi {h : zH} {w : Nat} (s : Sim h w) : XI h w := by
  obtain ⟨s1, ⟨a1, a2, a3, a4, a5, a6, a7, a8, a9, c1, c2, c3⟩, ⟨b1, b2, b3, b4, b5, b6⟩, _⟩ := s
  refine ⟨s1.1, s1.2.2, b1, by rw [a1]; exact a7, by rw [a2]; exact a8, by rw [a3]; exact a9, by rw [a4]; exact c1, fun j j0 j1 => ?_, fun j j0 j1 => ?_, ?_⟩
  · rw [a1] at j1; rw [a5 j j0 j1]; exact c2 j j0 j1
  · rw [a2] at j1; rw [a6 j j0 j1]; exact c3 j j0 j1
  · rw [a1, a2]; exact b5.to a8.2 b3
theorem Sim.si {h : zH} {w : Nat} (s : Sim h w) : SI (h w 3) (h 19 2) (sx1 h) (sx2 h) := by
  obtain ⟨s1, ⟨a1, _⟩, _, _, ⟨n1, n2, n3, _⟩, _⟩ := s
  rw [a1, n2]
  refine ⟨n1.1, fun j j0 j1 => ?_⟩
  rw [(n3 j j0 j1).1, (n3 j j0 j1).2]
  exact n1.2 j j0 j1
theorem Sim.hi {h : zH} {w : Nat} (s : Sim h w) : HI (h 22 2) (hx1 h) (hx2 h) := by
  obtain ⟨s1, _, _, _, ⟨_, _, _, n1, n2, n3⟩, _⟩ := s
  rw [n2]
  refine ⟨n1.1, fun j j0 j1 => ?_⟩
  rw [(n3 j j0 j1).1, (n3 j j0 j1).2]
  exact n1.2 j j0 j1
theorem Sim.tX {h : zH} {w : Nat} (s : Sim h w) : TX h := by
  obtain ⟨s1, _, _, _, _, ⟨t1, t2, t3⟩, _⟩ := s
  refine ⟨by rw [t2]; exact t1.1, fun j j0 j1 => ?_⟩
  rw [t2] at j1
  rw [t3 j j0 j1]
  exact t1.2 j j0 j1
/-- rows that are free do not matter -/
theorem Sim.scr {h h1 : zH} {w : Nat} (s : Sim h w) (e : ∀ a, (a < 33 ∨ (38 < a ∧ a < 48)) → h1 a = h a) : Sim h1 w := by
  have hw := s.1.2.2
  have f0 := e 0 (by omega)
  have f1 := e 1 (by omega)
  have f2 := e 2 (by omega)
  have w0 := e w (by omega)
  have w1 := e (w + 1) (by omega)
  have w3 := e (w + 3) (by omega)
  unfold Sim WE IE NE TE TM SI HI at s ⊢
  unfold tx px wx pm wm sx1 sx2 sm1 sm2 hx1 hx2 hm1 hm2 tm at s ⊢
  rw [f0, f1, f2, w0, w1, w3, e 39 (by omega), e 40 (by omega), e 41 (by omega), e 42 (by omega), e 43 (by omega), e 44 (by omega), e 45 (by omega), e 46 (by omega), e 47 (by omega), e 11 (by omega), e 12 (by omega), e 18 (by omega), e 19 (by omega), e 20 (by omega), e 21 (by omega), e 22 (by omega), e 23 (by omega), e 24 (by omega), e 25 (by omega), e (14 + 2 * 0) (by omega), e (15 + 2 * 0) (by omega), e (14 + 2 * 1) (by omega), e (15 + 2 * 1) (by omega)]
  exact s
