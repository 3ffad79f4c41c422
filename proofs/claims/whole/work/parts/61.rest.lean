/-! both sides answer alike: the rest (2) -/
theorem pr_clear {h : zH} {w : Nat} (s : Sim h w) : Pr M_x_clear M_m_clear [] h := by
  obtain ⟨t1, t2, t3⟩ := s.2.2.2.2.2.1
  refine ⟨vI (h 1 1), c_x_clear.weak (fun v h1 q => ⟨q.1, ?_⟩), zokI⟩
  rw [q.2]
  refine c_m_clear.weak (fun v2 h2 q2 => ⟨by rw [q2.1, zup_ne (by decide), t2], w, ?_⟩)
  rw [q2.2]
  refine s.te (fun a a1 a2 a3 a4 => by funext j; rw [zup_ne a3, zup_ne a1]) (fun j hj => by rw [zup_nk hj, zup_ne (by decide)]) ⟨⟨?_, fun j j0 j1 => ?_⟩, ?_, fun j j0 j1 => ?_⟩
  · rw [zup_same]; omega
  · rw [zup_same] at j1; omega
  · rw [zup_same, zup_ne (by decide), zup_same]
  · rw [zup_same] at j1; omega
theorem pr_type {h : zH} {w : Nat} {c : Int} (s : Sim h w) (r_c : -2147483648 ≤ c ∧ c ≤ 2147483647) : Pr M_x_type M_m_type [vI c] h := by
  obtain ⟨t1, t2, t3⟩ := s.2.2.2.2.2.1
  have hb := t1.1
  refine ⟨_, (c_x_type (by rw [t2]; exact hb) r_c).weak (fun v h1 q => ⟨q.1, ?_⟩), zokI⟩
  rw [q.2]
  by_cases ok : (0 ≤ c ∧ c ≤ 255) ∧ h 1 1 < 150
  · rw [if_pos ok, if_pos ok.1, if_pos ok.2]
    have e15 : zup (zup h 2 (h 1 1).toNat c) 1 1 (h 1 1 + 1) 39 15 = h 39 15 := by rw [zup_ne (by decide), zup_ne (by decide)]
    refine (c_m_type (by rw [e15]; exact hb) r_c).weak (fun v2 h2 q2 => ⟨?_, w, ?_⟩)
    · rw [q2.1, e15, if_pos ok.1, if_pos (by omega), t2]
    · rw [q2.2, e15, if_pos ⟨ok.1, by omega⟩]
      have eT : ∀ j : Int, 0 ≤ j → j < h 39 15 + 1 → tx (zup (zup (zup (zup h 2 (h 1 1).toNat c) 1 1 (h 1 1 + 1)) 47 (h 39 15).toNat c) 39 15 (h 39 15 + 1)) j = tm (zup (zup (zup (zup h 2 (h 1 1).toNat c) 1 1 (h 1 1 + 1)) 47 (h 39 15).toNat c) 39 15 (h 39 15 + 1)) j ∧ 0 ≤ tm (zup (zup (zup (zup h 2 (h 1 1).toNat c) 1 1 (h 1 1 + 1)) 47 (h 39 15).toNat c) 39 15 (h 39 15 + 1)) j ∧ tm (zup (zup (zup (zup h 2 (h 1 1).toNat c) 1 1 (h 1 1 + 1)) 47 (h 39 15).toNat c) 39 15 (h 39 15 + 1)) j ≤ 255 := fun j j0 j1 => by
        unfold tx tm
        rw [zup_ne (show (2 : Nat) ≠ 39 by decide), zup_ne (show (2 : Nat) ≠ 47 by decide), zup_ne (show (2 : Nat) ≠ 1 by decide), zup_ne (show (47 : Nat) ≠ 39 by decide), t2]
        by_cases e : j = h 39 15
        · rw [e, zup_same, zup_same]; omega
        · rw [zup_nk (by omega), zup_nk (by omega), zup_ne (by decide), zup_ne (by decide)]
          have a := t3 j j0 (by omega)
          have b := t1.2 j j0 (by omega)
          unfold tx at a
          unfold tm at a b
          rw [a]
          exact ⟨rfl, b⟩
      refine s.te (fun a a1 a2 a3 a4 => by funext j; rw [zup_ne a3, zup_ne a4, zup_ne a1, zup_ne a2]) (fun j hj => by rw [zup_nk hj, zup_ne (by decide), zup_ne (by decide), zup_ne (by decide)]) ⟨⟨?_, fun j j0 j1 => ?_⟩, ?_, fun j j0 j1 => ?_⟩
      · rw [zup_same]; omega
      · rw [zup_same] at j1; exact (eT j j0 j1).2
      · rw [zup_ne (by decide), zup_ne (by decide), zup_same, zup_same, t2]
      · rw [zup_same] at j1; exact (eT j j0 j1).1
  · rw [if_neg ok]
    refine (c_m_type hb r_c).weak (fun v2 h2 q2 => ⟨?_, w, ?_⟩)
    · rw [q2.1, t2]
    · rw [q2.2, if_neg (by rw [← t2]; exact ok)]; exact s
theorem pr_forget {h : zH} {w : Nat} (s : Sim h w) : Pr M_x_forget M_m_forget [] h := by
  obtain ⟨n1, n2, n3, n4, n5, n6⟩ := s.2.2.2.2.1
  refine ⟨_, c_x_forget.weak (fun v h1 q => ⟨q.1, ?_⟩), zokI⟩
  rw [q.2]
  refine c_m_forget.weak (fun v2 h2 q2 => ⟨by rw [q2.1, zup_ne (by decide), zup_ne (by decide), zup_ne (by decide), zup_ne (by decide), n2, n5], w, ?_⟩)
  rw [q2.2]
  refine s.ne (fun a a1 a2 a3 a4 a5 a6 a7 a8 a9 => by funext j; rw [zup_ne a7, zup_ne a7, zup_ne a4, zup_ne a1]) (fun j hj hk => by rw [zup_nk hk, zup_nk hj, zup_ne (by decide), zup_ne (by decide)]) ?_
  have z9 : zup (zup (zup (zup h 19 2 0) 22 2 0) 39 9 0) 39 11 0 39 9 = 0 := by rw [zup_nk (by decide), zup_same]
  have z11 : zup (zup (zup (zup h 19 2 0) 22 2 0) 39 9 0) 39 11 0 39 11 = 0 := zup_same
  unfold NE SI HI
  rw [z9, z11]
  refine ⟨⟨by omega, fun j j0 j1 => by omega⟩, ?_, fun j j0 j1 => by omega, ⟨by omega, fun j j0 j1 => by omega⟩, ?_, fun j j0 j1 => by omega⟩
  · rw [zup_ne (by decide), zup_ne (by decide), zup_ne (by decide), zup_same]
  · rw [zup_ne (by decide), zup_ne (by decide), zup_same]
theorem pr_mark {h : zH} {w : Nat} {kd p : Int} (s : Sim h w) (r_kd : -2147483648 ≤ kd ∧ kd ≤ 2147483647) (r_p : -2147483648 ≤ p ∧ p ≤ 2147483647) : Pr M_x_mark M_m_mark [vI kd, vI p] h := by
  obtain ⟨e1, e2, e3, e4, e5, e6, e7⟩ := s.eqD
  have hnp := s.mi.hnp
  refine ⟨_, (c_x_mark s.xi r_kd r_p).weak (fun v h1 q => ⟨q.1, ?_⟩), zokI⟩
  rw [e1, e2] at *
  by_cases ok : (0 ≤ kd ∧ kd ≤ 5) ∧ (0 ≤ p ∧ p < h 39 4)
  · obtain ⟨f1, f2⟩ := q.2.2 ok
    have hs := s.mi.row.hs ok.2.1 ok.2.2
    have e38 : ∀ c, 38 < c → h1 c = h c := fun c hc => f1 c (by omega)
    have mi1 : MI h1 := by unfold MI; rw [pm_e e38, wm_e e38, nm_38 e38, e38 39 (by omega)]; exact s.mi
    refine (c_m_mark mi1 r_kd r_p).weak (fun v2 h2 q2 => ?_)
    rw [pm_e e38, nm_38 e38, e38 39 (by omega)] at q2
    obtain ⟨g0, _, g2⟩ := q2
    obtain ⟨g2, g3, g4⟩ := g2 ok
    refine ⟨?_, w, ?_⟩
    · rw [g0, if_pos ok, if_pos ok, col_cg (P := px h w) (n := h 39 0) (p := p) (by omega) (by omega) e5 e7, e7 (10 + p) (by omega) (by omega), e7 (4 + p) (by omega) (by omega), e7 3 (by omega) (by omega)]
    · refine s.tr (fun a a1 a2 => (g2 a a2).trans (f1 a a1)) g3 ?_
      rw [g2 25 (by decide), f2, g4, s.2.2.2.2.2.2]
  · rw [q.2.1 ok]
    refine (c_m_mark s.mi r_kd r_p).weak (fun v2 h2 q2 => ⟨by rw [q2.1, if_neg ok, if_neg ok], w, ?_⟩)
    rw [q2.2.1 ok]; exact s
theorem pr_undo {h : zH} {w : Nat} (s : Sim h w) : Pr M_x_undo M_m_undo [] h := by
  have hh := s.2.2.1
  obtain ⟨a1, a2, a3, a4, a5, a6⟩ := hh
  have nh : nm h 52 = h 11 1 := a2
  have hnp := s.mi.hnp
  refine ⟨_, (c_x_undo a1).weak (fun v h1 q => ⟨q.1, ?_⟩), zokI⟩
  rw [q.2]
  by_cases u : h 11 1 = 0
  · rw [if_pos u, if_pos u]
    refine (c_m_undo (by rw [nh]; exact a1)).weak (fun v2 h2 q2 => ⟨by rw [q2.1, if_pos (by omega)], w, ?_⟩)
    rw [q2.2.1 (by omega)]; exact s
  · rw [if_neg u, if_neg u]
    have n1 : nm (zup h 11 1 (h 11 1 - 1)) = nm h := by funext c; unfold nm; rw [zup_ne (by decide)]
    have r1 : rm (zup h 11 1 (h 11 1 - 1)) = rm h := by funext i c; unfold rm; rw [zup_ne (by decide)]
    refine (c_m_undo (by rw [n1, nh]; exact a1)).weak (fun v2 h2 q2 => ?_)
    rw [n1, nh] at q2
    obtain ⟨m1, m2, m3, m4⟩ := q2.2.2 u
    rw [n1, nh] at m2 m3
    rw [r1] at m3
    refine ⟨by rw [q2.1, if_neg u], w, s.hist (fun a b1 b2 b3 => by rw [m1 a b3]; funext j; rw [zup_ne b1]) ?_⟩
    have u2 : h2 11 1 = h 11 1 - 1 := by rw [m1 11 (by decide), zup_same]
    have c12 : h2 12 = h 12 := by rw [m1 12 (by decide)]; funext j; rw [zup_ne (by decide)]
    have g53 : ∀ k, 53 ≤ k → h2 42 k = h 42 k := fun k hk => by rw [m4 k hk, zup_ne (by decide)]
    rw [u2, c12]
    refine ⟨by omega, m2, fun c c0 c1 => ?_, fun i c i0 i1 c0 c1 => ?_, ?_, fun i i0 i1 => ?_⟩
    · rw [a4 (h 11 1 - 1) c (by omega) (by omega) c0 c1]
      exact (m3 c c0 c1).symm
    · rw [g53 _ (by omega)]; exact a4 i c i0 (by omega) c0 c1
    · exact (a6 (h 11 1 - 1) (by omega) (by omega)).to hnp.2 m3
    · exact (a6 i i0 (by omega)).to hnp.2 (fun c c0 c1 => g53 _ (by omega))
