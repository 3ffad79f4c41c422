/-! both sides answer alike: the rest -/
theorem Sim.te {h h2 : zH} {w : Nat} (s : Sim h w) (e : ∀ a, a ≠ 1 → a ≠ 2 → a ≠ 39 → a ≠ 47 → h2 a = h a) (f : ∀ j, j ≠ 15 → h2 39 j = h 39 j) (t : TE h2) : Sim h2 w := by
  have hw := s.1.2.2
  have w0 := e w (by omega) (by omega) (by omega) (by omega)
  have w1 := e (w + 1) (by omega) (by omega) (by omega) (by omega)
  have w3 := e (w + 3) (by omega) (by omega) (by omega) (by omega)
  have k0 := f 0 (by omega)
  have k2 := f 2 (by omega)
  have k3 := f 3 (by omega)
  have k4 := f 4 (by omega)
  have k9 := f 9 (by omega)
  have k11 := f 11 (by omega)
  have k13 := f 13 (by omega)
  unfold Sim at s ⊢
  unfold WE IE NE SI HI at s ⊢
  unfold px wx pm wm sx1 sx2 sm1 sm2 hx1 hx2 hm1 hm2 at s ⊢
  rw [w0, w1, w3, k0, k2, k3, k4, k9, k11, k13, e 0 (by omega) (by omega) (by omega) (by omega), e 40 (by omega) (by omega) (by omega) (by omega), e 41 (by omega) (by omega) (by omega) (by omega), e 42 (by omega) (by omega) (by omega) (by omega), e 43 (by omega) (by omega) (by omega) (by omega), e 44 (by omega) (by omega) (by omega) (by omega), e 45 (by omega) (by omega) (by omega) (by omega), e 46 (by omega) (by omega) (by omega) (by omega), e 11 (by omega) (by omega) (by omega) (by omega), e 12 (by omega) (by omega) (by omega) (by omega), e 18 (by omega) (by omega) (by omega) (by omega), e 19 (by omega) (by omega) (by omega) (by omega), e 20 (by omega) (by omega) (by omega) (by omega), e 21 (by omega) (by omega) (by omega) (by omega), e 22 (by omega) (by omega) (by omega) (by omega), e 23 (by omega) (by omega) (by omega) (by omega), e 24 (by omega) (by omega) (by omega) (by omega), e 25 (by omega) (by omega) (by omega) (by omega), e (14 + 2 * 0) (by omega) (by omega) (by omega) (by omega), e (15 + 2 * 0) (by omega) (by omega) (by omega) (by omega), e (14 + 2 * 1) (by omega) (by omega) (by omega) (by omega), e (15 + 2 * 1) (by omega) (by omega) (by omega) (by omega)]
  exact ⟨s.1, s.2.1, s.2.2.1, s.2.2.2.1, s.2.2.2.2.1, t, s.2.2.2.2.2.2⟩
theorem Sim.ne {h h2 : zH} {w : Nat} (s : Sim h w) (e : ∀ a, a ≠ 19 → a ≠ 20 → a ≠ 21 → a ≠ 22 → a ≠ 23 → a ≠ 24 → a ≠ 39 → a ≠ 45 → a ≠ 46 → h2 a = h a) (f : ∀ j, j ≠ 9 → j ≠ 11 → h2 39 j = h 39 j) (t : NE h2) : Sim h2 w := by
  have hw := s.1.2.2
  have w0 := e w (by omega) (by omega) (by omega) (by omega) (by omega) (by omega) (by omega) (by omega) (by omega)
  have w1 := e (w + 1) (by omega) (by omega) (by omega) (by omega) (by omega) (by omega) (by omega) (by omega) (by omega)
  have w3 := e (w + 3) (by omega) (by omega) (by omega) (by omega) (by omega) (by omega) (by omega) (by omega) (by omega)
  have k0 := f 0 (by omega) (by omega)
  have k2 := f 2 (by omega) (by omega)
  have k3 := f 3 (by omega) (by omega)
  have k4 := f 4 (by omega) (by omega)
  have k13 := f 13 (by omega) (by omega)
  have k15 := f 15 (by omega) (by omega)
  unfold Sim at s ⊢
  unfold WE IE TE TM at s ⊢
  unfold tx tm px wx pm wm at s ⊢
  rw [w0, w1, w3, k0, k2, k3, k4, k13, k15, e 0 (by omega) (by omega) (by omega) (by omega) (by omega) (by omega) (by omega) (by omega) (by omega), e 1 (by omega) (by omega) (by omega) (by omega) (by omega) (by omega) (by omega) (by omega) (by omega), e 2 (by omega) (by omega) (by omega) (by omega) (by omega) (by omega) (by omega) (by omega) (by omega), e 40 (by omega) (by omega) (by omega) (by omega) (by omega) (by omega) (by omega) (by omega) (by omega), e 41 (by omega) (by omega) (by omega) (by omega) (by omega) (by omega) (by omega) (by omega) (by omega), e 42 (by omega) (by omega) (by omega) (by omega) (by omega) (by omega) (by omega) (by omega) (by omega), e 43 (by omega) (by omega) (by omega) (by omega) (by omega) (by omega) (by omega) (by omega) (by omega), e 44 (by omega) (by omega) (by omega) (by omega) (by omega) (by omega) (by omega) (by omega) (by omega), e 47 (by omega) (by omega) (by omega) (by omega) (by omega) (by omega) (by omega) (by omega) (by omega), e 11 (by omega) (by omega) (by omega) (by omega) (by omega) (by omega) (by omega) (by omega) (by omega), e 12 (by omega) (by omega) (by omega) (by omega) (by omega) (by omega) (by omega) (by omega) (by omega), e 18 (by omega) (by omega) (by omega) (by omega) (by omega) (by omega) (by omega) (by omega) (by omega), e 25 (by omega) (by omega) (by omega) (by omega) (by omega) (by omega) (by omega) (by omega) (by omega), e (14 + 2 * 0) (by omega) (by omega) (by omega) (by omega) (by omega) (by omega) (by omega) (by omega) (by omega), e (15 + 2 * 0) (by omega) (by omega) (by omega) (by omega) (by omega) (by omega) (by omega) (by omega) (by omega), e (14 + 2 * 1) (by omega) (by omega) (by omega) (by omega) (by omega) (by omega) (by omega) (by omega) (by omega), e (15 + 2 * 1) (by omega) (by omega) (by omega) (by omega) (by omega) (by omega) (by omega) (by omega) (by omega)]
  exact ⟨s.1, s.2.1, s.2.2.1, s.2.2.2.1, t, s.2.2.2.2.2.1, s.2.2.2.2.2.2⟩
theorem Sim.tr {h h2 : zH} {w : Nat} (s : Sim h w) (e : ∀ a, a ≠ 25 → a ≠ 39 → h2 a = h a) (f : ∀ j, j ≠ 13 → h2 39 j = h 39 j) (t : h2 25 5 = h2 39 13) : Sim h2 w := by
  have hw := s.1.2.2
  have w0 := e w (by omega) (by omega)
  have w1 := e (w + 1) (by omega) (by omega)
  have w3 := e (w + 3) (by omega) (by omega)
  have k0 := f 0 (by omega)
  have k2 := f 2 (by omega)
  have k3 := f 3 (by omega)
  have k4 := f 4 (by omega)
  have k9 := f 9 (by omega)
  have k11 := f 11 (by omega)
  have k15 := f 15 (by omega)
  unfold Sim at s ⊢
  unfold WE IE NE TE TM SI HI at s ⊢
  unfold tx tm px wx pm wm sx1 sx2 sm1 sm2 hx1 hx2 hm1 hm2 at s ⊢
  rw [w0, w1, w3, k0, k2, k3, k4, k9, k11, k15, e 0 (by omega) (by omega), e 1 (by omega) (by omega), e 2 (by omega) (by omega), e 40 (by omega) (by omega), e 41 (by omega) (by omega), e 42 (by omega) (by omega), e 43 (by omega) (by omega), e 44 (by omega) (by omega), e 45 (by omega) (by omega), e 46 (by omega) (by omega), e 47 (by omega) (by omega), e 11 (by omega) (by omega), e 12 (by omega) (by omega), e 18 (by omega) (by omega), e 19 (by omega) (by omega), e 20 (by omega) (by omega), e 21 (by omega) (by omega), e 22 (by omega) (by omega), e 23 (by omega) (by omega), e 24 (by omega) (by omega), e (14 + 2 * 0) (by omega) (by omega), e (15 + 2 * 0) (by omega) (by omega), e (14 + 2 * 1) (by omega) (by omega), e (15 + 2 * 1) (by omega) (by omega)]
  exact ⟨s.1, s.2.1, s.2.2.1, s.2.2.2.1, s.2.2.2.2.1, s.2.2.2.2.2.1, t⟩
theorem Sim.im {h h2 : zH} {w : Nat} (s : Sim h w) (e : ∀ a, a ≠ 14 → a ≠ 15 → a ≠ 16 → a ≠ 17 → a ≠ 18 → a ≠ 43 → a ≠ 44 → h2 a = h a) (t0 : IE h2 0) (t1 : IE h2 1) : Sim h2 w := by
  have hw := s.1.2.2
  have w0 := e w (by omega) (by omega) (by omega) (by omega) (by omega) (by omega) (by omega)
  have w1 := e (w + 1) (by omega) (by omega) (by omega) (by omega) (by omega) (by omega) (by omega)
  have w3 := e (w + 3) (by omega) (by omega) (by omega) (by omega) (by omega) (by omega) (by omega)
  unfold Sim at s ⊢
  unfold WE NE TE TM SI HI at s ⊢
  unfold tx tm px wx pm wm sx1 sx2 sm1 sm2 hx1 hx2 hm1 hm2 at s ⊢
  rw [w0, w1, w3, e 39 (by omega) (by omega) (by omega) (by omega) (by omega) (by omega) (by omega), e 0 (by omega) (by omega) (by omega) (by omega) (by omega) (by omega) (by omega), e 1 (by omega) (by omega) (by omega) (by omega) (by omega) (by omega) (by omega), e 2 (by omega) (by omega) (by omega) (by omega) (by omega) (by omega) (by omega), e 40 (by omega) (by omega) (by omega) (by omega) (by omega) (by omega) (by omega), e 41 (by omega) (by omega) (by omega) (by omega) (by omega) (by omega) (by omega), e 42 (by omega) (by omega) (by omega) (by omega) (by omega) (by omega) (by omega), e 45 (by omega) (by omega) (by omega) (by omega) (by omega) (by omega) (by omega), e 46 (by omega) (by omega) (by omega) (by omega) (by omega) (by omega) (by omega), e 47 (by omega) (by omega) (by omega) (by omega) (by omega) (by omega) (by omega), e 11 (by omega) (by omega) (by omega) (by omega) (by omega) (by omega) (by omega), e 12 (by omega) (by omega) (by omega) (by omega) (by omega) (by omega) (by omega), e 19 (by omega) (by omega) (by omega) (by omega) (by omega) (by omega) (by omega), e 20 (by omega) (by omega) (by omega) (by omega) (by omega) (by omega) (by omega), e 21 (by omega) (by omega) (by omega) (by omega) (by omega) (by omega) (by omega), e 22 (by omega) (by omega) (by omega) (by omega) (by omega) (by omega) (by omega), e 23 (by omega) (by omega) (by omega) (by omega) (by omega) (by omega) (by omega), e 24 (by omega) (by omega) (by omega) (by omega) (by omega) (by omega) (by omega), e 25 (by omega) (by omega) (by omega) (by omega) (by omega) (by omega) (by omega)]
  exact ⟨s.1, s.2.1, s.2.2.1, ⟨t0, t1⟩, s.2.2.2.2⟩
