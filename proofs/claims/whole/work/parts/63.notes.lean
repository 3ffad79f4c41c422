/-! both sides answer alike: notes -/
theorem n_saw {h h2 : zH} {w : Nat} {p q : Int} (s : Sim h w) (hok : (0 ≤ p ∧ p < h 39 0) ∧ (0 ≤ q ∧ q ≤ 5)) (h6 : h 39 9 < 6) (fr : ∀ a, a ≠ 19 → a ≠ 20 → a ≠ 21 → a ≠ 39 → a ≠ 45 → h2 a = h a) (f39 : ∀ j, j ≠ 9 → h2 39 j = h 39 j) (z : h2 39 9 = h 39 9 + 1) (x : h2 19 2 = h 39 9 + 1) (xa : ∀ k : Nat, h2 20 k = if k = (h 39 9).toNat then p else h 20 k) (xb : ∀ k : Nat, h2 21 k = if k = (h 39 9).toNat then q else h 21 k) (xm : ∀ k : Nat, h2 45 k = if k = (2 * h 39 9 + 1).toNat then q else if k = (2 * h 39 9).toNat then p else h 45 k) : Sim h2 w := by
  obtain ⟨n1, n2, n3, n4, n5, n6⟩ := s.2.2.2.2.1
  have hb := n1.1
  have new : ∀ j, 0 ≤ j → j < h 39 9 + 1 → (sx1 h2 j = sm1 h2 j ∧ sx2 h2 j = sm2 h2 j) ∧ (0 ≤ sm1 h2 j ∧ sm1 h2 j < h 39 0) ∧ (0 ≤ sm2 h2 j ∧ sm2 h2 j ≤ 5) := fun j j0 j1 => by
    unfold sx1 sx2 sm1 sm2
    rw [xa, xb, xm, xm]
    by_cases e : j = h 39 9
    · rw [e, if_pos rfl, if_pos rfl, if_neg (by omega), if_pos rfl, if_pos rfl]
      omega
    · rw [if_neg (by omega), if_neg (by omega), if_neg (by omega), if_neg (by omega), if_neg (by omega), if_neg (by omega)]
      exact ⟨n3 j j0 (by omega), n1.2 j j0 (by omega)⟩
  refine s.ne (fun a a1 a2 a3 a4 a5 a6 a7 a8 a9 => fr a a1 a2 a3 a7 a8) (fun j j9 _ => f39 j j9) ?_
  unfold NE SI
  rw [z, x, f39 0 (by decide), f39 11 (by decide), fr 22 (by decide) (by decide) (by decide) (by decide) (by decide)]
  refine ⟨⟨by omega, fun j j0 j1 => (new j j0 j1).2⟩, rfl, fun j j0 j1 => (new j j0 j1).1, ?_⟩
  have u0 : hx1 h2 = hx1 h := by funext j; unfold hx1; rw [fr 23 (by decide) (by decide) (by decide) (by decide) (by decide)]
  have u1 : hx2 h2 = hx2 h := by funext j; unfold hx2; rw [fr 24 (by decide) (by decide) (by decide) (by decide) (by decide)]
  have u2 : hm1 h2 = hm1 h := by funext j; unfold hm1; rw [fr 46 (by decide) (by decide) (by decide) (by decide) (by decide)]
  have u3 : hm2 h2 = hm2 h := by funext j; unfold hm2; rw [fr 46 (by decide) (by decide) (by decide) (by decide) (by decide)]
  rw [u0, u1, u2, u3]
  exact ⟨n4, n5, n6⟩
theorem n_hears {h h2 : zH} {w : Nat} {p q : Int} (s : Sim h w) (hok : (1 ≤ p ∧ p ≤ 60) ∧ (0 ≤ q ∧ q ≤ 999)) (h6 : h 39 11 < 6) (fr : ∀ a, a ≠ 22 → a ≠ 23 → a ≠ 24 → a ≠ 39 → a ≠ 46 → h2 a = h a) (f39 : ∀ j, j ≠ 11 → h2 39 j = h 39 j) (z : h2 39 11 = h 39 11 + 1) (x : h2 22 2 = h 39 11 + 1) (xa : ∀ k : Nat, h2 23 k = if k = (h 39 11).toNat then p else h 23 k) (xb : ∀ k : Nat, h2 24 k = if k = (h 39 11).toNat then q else h 24 k) (xm : ∀ k : Nat, h2 46 k = if k = (2 * h 39 11 + 1).toNat then q else if k = (2 * h 39 11).toNat then p else h 46 k) : Sim h2 w := by
  obtain ⟨n1, n2, n3, n4, n5, n6⟩ := s.2.2.2.2.1
  have hb := n4.1
  have new : ∀ j, 0 ≤ j → j < h 39 11 + 1 → (hx1 h2 j = hm1 h2 j ∧ hx2 h2 j = hm2 h2 j) ∧ (1 ≤ hm1 h2 j ∧ hm1 h2 j ≤ 60) ∧ (0 ≤ hm2 h2 j ∧ hm2 h2 j ≤ 999) := fun j j0 j1 => by
    unfold hx1 hx2 hm1 hm2
    rw [xa, xb, xm, xm]
    by_cases e : j = h 39 11
    · rw [e, if_pos rfl, if_pos rfl, if_neg (by omega), if_pos rfl, if_pos rfl]
      omega
    · rw [if_neg (by omega), if_neg (by omega), if_neg (by omega), if_neg (by omega), if_neg (by omega), if_neg (by omega)]
      exact ⟨n6 j j0 (by omega), n4.2 j j0 (by omega)⟩
  refine s.ne (fun a a1 a2 a3 a4 a5 a6 a7 a8 a9 => fr a a4 a5 a6 a7 a9) (fun j _ j9 => f39 j j9) ?_
  unfold NE HI
  rw [z, x, f39 0 (by decide), f39 9 (by decide), fr 19 (by decide) (by decide) (by decide) (by decide) (by decide)]
  have u0 : sx1 h2 = sx1 h := by funext j; unfold sx1; rw [fr 20 (by decide) (by decide) (by decide) (by decide) (by decide)]
  have u1 : sx2 h2 = sx2 h := by funext j; unfold sx2; rw [fr 21 (by decide) (by decide) (by decide) (by decide) (by decide)]
  have u2 : sm1 h2 = sm1 h := by funext j; unfold sm1; rw [fr 45 (by decide) (by decide) (by decide) (by decide) (by decide)]
  have u3 : sm2 h2 = sm2 h := by funext j; unfold sm2; rw [fr 45 (by decide) (by decide) (by decide) (by decide) (by decide)]
  rw [u0, u1, u2, u3]
  exact ⟨n1, n2, n3, ⟨by omega, fun j j0 j1 => (new j j0 j1).2⟩, rfl, fun j j0 j1 => (new j j0 j1).1⟩
theorem pr_saw {h : zH} {w : Nat} {p q : Int} (s : Sim h w) (r_p : -2147483648 ≤ p ∧ p ≤ 2147483647) (r_q : -2147483648 ≤ q ∧ q ≤ 2147483647) : Pr M_x_saw M_m_saw [vI p, vI q] h := by
  obtain ⟨n1, n2, n3, n4, n5, n6⟩ := s.2.2.2.2.1
  have e1 := s.eqD.1
  have hb := n1.1
  have es : h 19 2 = h 39 9 := n2
  refine ⟨_, (c_x_saw s.xi (by rw [es]; exact hb) r_p r_q).weak (fun v h1 y => ⟨y.1, ?_⟩), zokI⟩
  have y2 := y.2
  rw [es, e1] at y2 ⊢
  rw [y2]
  by_cases ok : ((0 ≤ p ∧ p < h 39 0) ∧ (0 ≤ q ∧ q ≤ 5)) ∧ h 39 9 < 6
  · rw [if_pos ok, if_pos ok.1, if_pos ok.2]
    have e38 : ∀ c, 38 < c → (zup (zup (zup h 20 (h 39 9).toNat p) 21 (h 39 9).toNat q) 19 2 (h 39 9 + 1)) c = h c := fun c hc => by funext j; rw [zup_ne (by omega), zup_ne (by omega), zup_ne (by omega)]
    have e39 : (zup (zup (zup h 20 (h 39 9).toNat p) 21 (h 39 9).toNat q) 19 2 (h 39 9 + 1)) 39 = h 39 := e38 39 (by omega)
    have mi1 : MI (zup (zup (zup h 20 (h 39 9).toNat p) 21 (h 39 9).toNat q) 19 2 (h 39 9 + 1)) := by unfold MI; rw [pm_e e38, wm_e e38, nm_38 e38, e39]; exact s.mi
    refine (c_m_saw mi1 (by rw [e39]; exact hb) r_p r_q).weak (fun v2 h2 k => ⟨?_, w, ?_⟩)
    · rw [k.1, e39, if_pos ok.1, if_pos ok.2]
    · have k2 := k.2
      rw [e39, if_pos ok] at k2
      refine n_saw s ok.1 ok.2 (fun a a1 a2 a3 a4 a5 => ?_) (fun j hj => ?_) ?_ ?_ (fun k => ?_) (fun k => ?_) (fun k => ?_)
      · rw [k2]; funext j; rw [zup_ne a4, zup_ne a5, zup_ne a5, zup_ne a1, zup_ne a3, zup_ne a2]
      · rw [k2, zup_nk hj, zup_ne (by decide), zup_ne (by decide), e39]
      · rw [k2, zup_same]
      · rw [k2, zup_ne (by decide), zup_ne (by decide), zup_ne (by decide), zup_same]
      · rw [k2, zup_ne (by decide), zup_ne (by decide), zup_ne (by decide), zup_ne (by decide), zup_ne (by decide)]; unfold zup; by_cases e : k = (h 39 9).toNat <;> simp [e]
      · rw [k2, zup_ne (by decide), zup_ne (by decide), zup_ne (by decide), zup_ne (by decide)]; unfold zup; by_cases e : k = (h 39 9).toNat <;> simp [e]
      · rw [k2, zup_ne (by decide)]; unfold zup; by_cases e : k = (2 * h 39 9 + 1).toNat <;> by_cases e2 : k = (2 * h 39 9).toNat <;> simp [e, e2]
  · rw [if_neg ok]
    refine (c_m_saw s.mi hb r_p r_q).weak (fun v2 h2 k => ⟨k.1, w, ?_⟩)
    rw [k.2, if_neg ok]; exact s
theorem pr_hears {h : zH} {w : Nat} {p q : Int} (s : Sim h w) (r_p : -2147483648 ≤ p ∧ p ≤ 2147483647) (r_q : -2147483648 ≤ q ∧ q ≤ 2147483647) : Pr M_x_hears M_m_hears [vI p, vI q] h := by
  obtain ⟨n1, n2, n3, n4, n5, n6⟩ := s.2.2.2.2.1
  have e1 := s.eqD.1
  have hb := n4.1
  have es : h 22 2 = h 39 11 := n5
  refine ⟨_, (c_x_hears s.xi (by rw [es]; exact hb) r_p r_q).weak (fun v h1 y => ⟨y.1, ?_⟩), zokI⟩
  have y2 := y.2
  rw [es] at y2 ⊢
  rw [y2]
  by_cases ok : ((1 ≤ p ∧ p ≤ 60) ∧ (0 ≤ q ∧ q ≤ 999)) ∧ h 39 11 < 6
  · rw [if_pos ok, if_pos ok.1, if_pos ok.2]
    have e38 : ∀ c, 38 < c → (zup (zup (zup h 23 (h 39 11).toNat p) 24 (h 39 11).toNat q) 22 2 (h 39 11 + 1)) c = h c := fun c hc => by funext j; rw [zup_ne (by omega), zup_ne (by omega), zup_ne (by omega)]
    have e39 : (zup (zup (zup h 23 (h 39 11).toNat p) 24 (h 39 11).toNat q) 22 2 (h 39 11 + 1)) 39 = h 39 := e38 39 (by omega)
    have mi1 : MI (zup (zup (zup h 23 (h 39 11).toNat p) 24 (h 39 11).toNat q) 22 2 (h 39 11 + 1)) := by unfold MI; rw [pm_e e38, wm_e e38, nm_38 e38, e39]; exact s.mi
    refine (c_m_hears mi1 (by rw [e39]; exact hb) r_p r_q).weak (fun v2 h2 k => ⟨?_, w, ?_⟩)
    · rw [k.1, e39, if_pos ok.1, if_pos ok.2]
    · have k2 := k.2
      rw [e39, if_pos ok] at k2
      refine n_hears s ok.1 ok.2 (fun a a1 a2 a3 a4 a5 => ?_) (fun j hj => ?_) ?_ ?_ (fun k => ?_) (fun k => ?_) (fun k => ?_)
      · rw [k2]; funext j; rw [zup_ne a4, zup_ne a5, zup_ne a5, zup_ne a1, zup_ne a3, zup_ne a2]
      · rw [k2, zup_nk hj, zup_ne (by decide), zup_ne (by decide), e39]
      · rw [k2, zup_same]
      · rw [k2, zup_ne (by decide), zup_ne (by decide), zup_ne (by decide), zup_same]
      · rw [k2, zup_ne (by decide), zup_ne (by decide), zup_ne (by decide), zup_ne (by decide), zup_ne (by decide)]; unfold zup; by_cases e : k = (h 39 11).toNat <;> simp [e]
      · rw [k2, zup_ne (by decide), zup_ne (by decide), zup_ne (by decide), zup_ne (by decide)]; unfold zup; by_cases e : k = (h 39 11).toNat <;> simp [e]
      · rw [k2, zup_ne (by decide)]; unfold zup; by_cases e : k = (2 * h 39 11 + 1).toNat <;> by_cases e2 : k = (2 * h 39 11).toNat <;> simp [e, e2]
  · rw [if_neg ok]
    refine (c_m_hears s.mi hb r_p r_q).weak (fun v2 h2 k => ⟨k.1, w, ?_⟩)
    rw [k.2, if_neg ok]; exact s
