/-! both sides answer alike: a window is told -/
theorem row_ok {z : Pst} (hz : OKs z) : RowOK z.1 z.2.2.2.2.1 (rowOf z) := by
  obtain ⟨z1, z2, z3, z4, z5, z6, z7, z8⟩ := hz
  have lo : ∀ c, c < 4 → rowOf z c = 0 := fun c hc => by unfold rowOf; rw [if_neg (by omega)]
  have sp : ∀ p, 0 ≤ p → p < z.2.2.2.2.1 → rowOf z (4 + p) = z.2.2.2.2.2.1 p := fun p p0 p1 => by
    unfold rowOf; rw [if_pos (by omega), show 4 + p - 4 = p by omega]
  refine ⟨by rw [lo 0 (by omega)]; omega, by rw [lo 1 (by omega)]; omega, by rw [lo 2 (by omega)]; omega, by rw [lo 3 (by omega)]; omega, fun p p0 p1 => by rw [sp p p0 p1]; exact z6 p p0 p1, fun p q p0 p1 q0 q1 e => ?_, fun c c0 c1 => ?_⟩
  · rw [sp p p0 p1, sp q q0 q1] at e
    exact z8 p q p0 p1 q0 q1 e
  · unfold rowOf; rw [if_neg (by omega)]; omega
theorem Sim.bad {h h2 : zH} {w : Nat} (s : Sim h w) (e : ∀ a, a ≠ 1 → a ≠ 39 → a ≠ 48 → a ≠ 49 → a ≠ 50 → (a < w - (if w = 3 then 3 else 4) ∨ w ≤ a ∧ (a < w + 4 ∨ 10 < a) ∨ a = 0 ∨ a = 2) → h2 a = h a) (e1 : h2 1 1 = h 1 1) (f : ∀ j, j < 16 → h2 39 j = h 39 j) : Sim h2 w := by
  have hw := s.1.2.2
  have g : ∀ a, a ≠ 1 → a ≠ 39 → a < 48 → (a = 0 ∨ a = 2 ∨ (w ≤ a ∧ a < w + 4) ∨ 10 < a) → h2 a = h a := fun a a1 a2 a3 a4 => e a a1 a2 (by omega) (by omega) (by omega) (by rcases hw with rfl | rfl <;> simp <;> omega)
  have w0 := g w (by omega) (by omega) (by omega) (by omega)
  have w1 := g (w + 1) (by omega) (by omega) (by omega) (by omega)
  have w3 := g (w + 3) (by omega) (by omega) (by omega) (by omega)
  have c : ∀ a, 10 < a → a ≠ 39 → a < 48 → h2 a = h a := fun a a1 a2 a3 => g a (by omega) a2 a3 (by omega)
  have k0 := f 0 (by omega)
  have k2 := f 2 (by omega)
  have k3 := f 3 (by omega)
  have k4 := f 4 (by omega)
  have k9 := f 9 (by omega)
  have k11 := f 11 (by omega)
  have k13 := f 13 (by omega)
  have k15 := f 15 (by omega)
  unfold Sim WE IE NE TE TM SI HI at s ⊢
  unfold tx px wx pm wm sx1 sx2 sm1 sm2 hx1 hx2 hm1 hm2 tm at s ⊢
  rw [g 0 (by omega) (by omega) (by omega) (by omega), e1, g 2 (by omega) (by omega) (by omega) (by omega), w0, w1, w3, k0, k2, k3, k4, k9, k11, k13, k15, c 40 (by omega) (by omega) (by omega), c 41 (by omega) (by omega) (by omega), c 42 (by omega) (by omega) (by omega), c 43 (by omega) (by omega) (by omega), c 44 (by omega) (by omega) (by omega), c 45 (by omega) (by omega) (by omega), c 46 (by omega) (by omega) (by omega), c 47 (by omega) (by omega) (by omega), c 11 (by omega) (by omega) (by omega), c 12 (by omega) (by omega) (by omega), c 18 (by omega) (by omega) (by omega), c 19 (by omega) (by omega) (by omega), c 20 (by omega) (by omega) (by omega), c 21 (by omega) (by omega) (by omega), c 22 (by omega) (by omega) (by omega), c 23 (by omega) (by omega) (by omega), c 24 (by omega) (by omega) (by omega), c 25 (by omega) (by omega) (by omega), c (14 + 2 * 0) (by omega) (by omega) (by omega), c (15 + 2 * 0) (by omega) (by omega) (by omega), c (14 + 2 * 1) (by omega) (by omega) (by omega), c (15 + 2 * 1) (by omega) (by omega) (by omega)]
  exact s
theorem pr_rose {h : zH} {w : Nat} (s : Sim h w) : Pr M_x_rose M_m_rose [] h := by
  obtain ⟨t1, t2, t3⟩ := s.2.2.2.2.2.1
  have hw := s.1.2.2
  have hL := t1.1
  have hR : prs (tx h) (h 1 1) 152 0 0 z00 = prs (tm h) (h 39 15) 152 0 0 z00 := by
    rw [t2]; exact prs_cg t3 152 0 0 z00 (by omega) (by omega) z00_ok
  have hgo := prs_go (T := tm h) (L := h 39 15) 152 0 0 z00 (by omega) (by omega) (by omega) (by omega) z00_ok
  have hx := c_x_rose (w2 := 10 - w) hw (by omega) (by omega) s.1.1 s.1.2.1 s.tX
  rw [hR] at hx
  generalize hRR : prs (tm h) (h 39 15) 152 0 0 z00 = R at hx hgo
  refine ⟨vI R.1, hx.weak (fun v h1 q => ⟨q.1, ?_⟩), zokI⟩
  have c38 : ∀ c, 38 < c → h1 c = h c := fun c hc => by
    rcases hgo with g | g
    · exact (q.2.1 (by omega)).1 c (by omega) (by omega) (by omega) (by omega) (by omega)
    · exact (q.2.2 g.1).1 c (by omega) (by omega) (by omega) (by omega) (by omega) (by omega) (by omega) (by omega) (by omega) (by omega) (by omega)
  have tmE : tm h1 = tm h := by funext j; unfold tm; rw [c38 47 (by omega)]
  have hm := c_m_rose (h := h1) (by unfold TM; rw [tmE, c38 39 (by omega)]; exact t1)
  rw [tmE, c38 39 (by omega), hRR] at hm
  refine hm.weak (fun v2 h2 q2 => ⟨q2.1, ?_⟩)
  rcases hgo with g | ⟨g, hz⟩
  · obtain ⟨x1, x2⟩ := q.2.1 (by omega)
    obtain ⟨m1, m2⟩ := q2.2.1 (by omega)
    refine ⟨w, s.bad (fun a a1 a2 a3 a4 a5 a6 => (m1 a a2 a3 a4 a5).trans (x1 a a1 ?_ ?_ ?_ ?_)) ?_ (fun j hj => by rw [m2 j hj, c38 39 (by omega)])⟩
    · rcases hw with rfl | rfl <;> simp at a6 ⊢ <;> omega
    · rcases hw with rfl | rfl <;> simp at a6 ⊢ <;> omega
    · rcases hw with rfl | rfl <;> simp at a6 ⊢ <;> omega
    · rcases hw with rfl | rfl <;> simp at a6 ⊢ <;> omega
    · rw [m1 1 (by decide) (by decide) (by decide) (by decide), x2]
  · refine ⟨10 - w, ?_⟩
    obtain ⟨x1, x2, x3, x4, ⟨y1, y2, y3, y4, y5, y6, y7, y8, y9⟩, x6, x7, x8, x9, x10, x11⟩ := q.2.2 g
    obtain ⟨m1, m2, m3, m4, m5, m6, m7, m8, m9, n1, n2, n3, n4, n5, n6⟩ := q2.2.2 g
    obtain ⟨z1, z2, z3, z4, z5, z6, z7, z8⟩ := id hz
    have lo : ∀ a, a < 39 → h2 a = h1 a := fun a ha => m1 a (by omega) (by omega) (by omega) (by omega) (by omega) (by omega) (by omega) (by omega)
    have hro := row_ok hz
    have img : ∀ k : Nat, k < 2 → IE h2 k := fun k hk => by
      have old : IE h k := by
        rcases (show k = 0 ∨ k = 1 by omega) with rfl | rfl
        · exact s.2.2.2.1.1
        · exact s.2.2.2.1.2
      have b18 : h2 18 k = 0 := by
        rw [lo 18 (by omega)]
        rcases (show k = 0 ∨ k = 1 by omega) with rfl | rfl
        · exact x10
        · exact x11
      have b44 : h2 44 k = 0 := by
        rcases (show k = 0 ∨ k = 1 by omega) with rfl | rfl
        · exact n5
        · exact n6
      refine ⟨by rw [b18, b44], Or.inl b18, ?_, fun y => absurd (b18.symm.trans y) (by decide)⟩
      rw [lo _ (by omega), x1 _ (by omega) (by omega) (by omega) (by omega) (by omega) (by omega) (by omega) (by omega) (by omega) (by omega) (by omega)]
      exact old.2.2.1
    refine ⟨⟨by rw [lo 0 (by omega)]; exact x2, by rw [lo 0 (by omega), x3]; omega, by omega⟩, ?_, ?_, ⟨img 0 (by omega), img 1 (by omega)⟩, ?_, ?_, ?_⟩
    · unfold WE px wx pm wm
      rw [m3, m4, m5, m6, lo (10 - w) (by omega), lo (10 - w + 1) (by omega), lo (10 - w + 3) (by omega)]
      refine ⟨y1, y2, y5, y6, fun j j0 j1 => by rw [y7 j j0 j1, n1 j j0 j1], fun j j0 j1 => by rw [y9 j j0 j1, n2 j j0 j1], z1, z2, by split <;> omega, by split <;> omega, fun j j0 j1 => by rw [n1 j j0 j1]; exact z5 j j0 j1, fun j j0 j1 => by rw [n2 j j0 j1]; exact z7 j j0 j1⟩
    · rw [m3, m6, lo 11 (by omega), lo 12 (by omega), x6]
      refine ⟨by omega, n4, fun c c0 c1 => ?_, fun i c i0 i1 => by omega, hro.to z2.2 n3, fun i i0 i1 => by omega⟩
      have a := x7 c c0 c1
      unfold nw at a
      rw [x6] at a
      rw [a]
      exact (n3 c c0 c1).symm
    · unfold NE SI HI
      rw [m7, m8, lo 19 (by omega), lo 22 (by omega), x8, x9]
      exact ⟨⟨by omega, fun j j0 j1 => by omega⟩, rfl, fun j j0 j1 => by omega, ⟨by omega, fun j j0 j1 => by omega⟩, rfl, fun j j0 j1 => by omega⟩
    · unfold TE TM
      rw [m9, lo 1 (by omega), x4]
      exact ⟨⟨by omega, fun j j0 j1 => by omega⟩, rfl, fun j j0 j1 => by omega⟩
    · rw [lo 25 (by omega), x1 25 (by omega) (by omega) (by omega) (by omega) (by omega) (by omega) (by omega) (by omega) (by omega) (by omega) (by omega), m2, c38 39 (by omega)]
      exact s.2.2.2.2.2.2
