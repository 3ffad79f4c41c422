/-! both sides answer alike: the rest (3) -/
theorem c_x_backN {h : zH} {im : Int} (hno : ¬ (0 ≤ im ∧ im ≤ 1)) (r_im : -2147483648 ≤ im ∧ im ≤ 2147483647) : zC M_x_back [vR 0, vI im] h (pV (vI (-1)) h) := by
  refine zC.ofN 0 (by decide) (by first | decide | exact Nat.le_of_ble_eq_true rfl) ?_
  show Z M_x_back _ 0 [vR 0, vI im] [] h
  refine z_iload_n D_x_back_0 rfl ?_
  refine z_iconst D_x_back_1 ?_
  refine z_iconst D_x_back_2 ?_
  refine z_S3 (c_x_isWithin r_im (by omega) (by omega)) G_x_isWithin S_x_isWithin lk_x_99 ⟨Nat.le_of_ble_eq_true rfl, Nat.le_of_ble_eq_true rfl⟩ (Nat.le_of_ble_eq_true rfl) D_x_back_3 ?_
  refine z_ifneB (tgt := 11) D_x_back_6 (by decide) (fun q6 => ?_) (fun q6 => ?_)
  · exact absurd q6 hno
  · refine z_iconst D_x_back_9 ?_
    exact z_ireturn rfl D_x_back_10 (pvI rfl rfl)
theorem c_m_backN {h : zH} {im : Int} (hno : ¬ (0 ≤ im ∧ im ≤ 1)) (r_im : -2147483648 ≤ im ∧ im ≤ 2147483647) : zC M_m_back [vR 39, vI im] h (pV (vI (-1)) h) := by
  refine zC.ofN 1 (by decide) (by first | decide | exact Nat.le_of_ble_eq_true rfl) ?_
  show Z M_m_back _ 0 [vR 39, vI im, vU] [] h
  refine z_iload_n D_m_back_0 rfl ?_
  refine z_iconst D_m_back_1 ?_
  refine z_iconst D_m_back_2 ?_
  refine z_S3 (c_m_in r_im (by omega) (by omega)) G_m_in S_m_in lk_m_69 ⟨Nat.le_of_ble_eq_true rfl, Nat.le_of_ble_eq_true rfl⟩ (Nat.le_of_ble_eq_true rfl) D_m_back_3 ?_
  refine z_ifneB (tgt := 11) D_m_back_6 (by decide) (fun q6 => ?_) (fun q6 => ?_)
  · exact absurd q6 hno
  · refine z_iconst D_m_back_9 ?_
    exact z_ireturn rfl D_m_back_10 (pvI rfl rfl)
theorem pr_keep {h : zH} {w : Nat} {im : Int} (s : Sim h w) (r_im : -2147483648 ≤ im ∧ im ≤ 2147483647) : Pr M_x_keep M_m_keep [vI im] h := by
  have hh := s.2.2.1
  have hnp := s.mi.hnp
  have e3 : nw h 3 = nm h 3 := s.eqD.2.2.2.2.2.2 3 (by omega) (by omega)
  refine ⟨_, (c_x_keep hh.1 r_im).weak (fun v h1 q => ⟨q.1, ?_⟩), zokI⟩
  by_cases ok : 0 ≤ im ∧ im ≤ 1
  · obtain ⟨x1, x2, x3, x4⟩ := q.2.2 ok
    have c38 : ∀ c, 38 < c → h1 c = h c := fun c hc => x1 c (by omega) (by omega) (by omega)
    refine (c_m_keep r_im).weak (fun v2 h2 q2 => ?_)
    obtain ⟨m1, m2, m3⟩ := q2.2.2 ok
    refine ⟨by rw [q2.1, if_pos ok, if_pos ok, nm_38 c38, e3], w, ?_⟩
    have fr : ∀ a, a ≠ 14 + 2 * im.toNat → a ≠ 15 + 2 * im.toNat → a ≠ 18 → a ≠ 43 → a ≠ 44 → h2 a = h a := fun a a1 a2 a3 a4 a5 => (m1 a a4 a5).trans (x1 a a1 a2 a3)
    have e39 : h2 39 = h 39 := fr 39 (by omega) (by omega) (by omega) (by omega) (by omega)
    have key : ∀ k : Nat, k < 2 → IE h2 k := fun k hk => by
      have old : IE h k := by
        rcases (show k = 0 ∨ k = 1 by omega) with rfl | rfl
        · exact s.2.2.2.1.1
        · exact s.2.2.2.1.2
      unfold IE
      rw [e39]
      by_cases e : k = im.toNat
      · have b18 : h2 18 k = 1 := by rw [m1 18 (by decide) (by decide), x4, if_pos e]
        have b44 : h2 44 k = 1 := by rw [m3, if_pos e]
        have b14 : h2 (14 + 2 * k) 1 = h 11 1 := by rw [m1 _ (by omega) (by omega), e]; exact x2
        rw [b18, b44, b14]
        refine ⟨rfl, Or.inr rfl, hh.1, fun _ => hh.cg (fun j hj => ?_) (fun j hj => ?_) hnp.2⟩
        · rw [m1 _ (by omega) (by omega), e]; exact x3 j hj
        · rw [m2, if_pos (by omega), c38 42 (by omega)]
          exact congrArg (h 42) (by omega)
      · have b18 : h2 18 k = h 18 k := by rw [m1 18 (by decide) (by decide), x4, if_neg e]
        have b44 : h2 44 k = h 44 k := by rw [m3, if_neg e, c38 44 (by omega)]
        rw [b18, b44, fr (14 + 2 * k) (by omega) (by omega) (by omega) (by omega) (by omega), fr (15 + 2 * k) (by omega) (by omega) (by omega) (by omega) (by omega)]
        refine ⟨old.1, old.2.1, old.2.2.1, fun y => (old.2.2.2 y).cg (fun j hj => rfl) (fun j hj => ?_) hnp.2⟩
        rw [m2, if_neg (by omega), c38 43 (by omega)]
    exact s.im (fun a a1 a2 a3 a4 a5 a6 a7 => fr a (by omega) (by omega) a5 a6 a7) (key 0 (by omega)) (key 1 (by omega))
  · rw [q.2.1 ok]
    refine (c_m_keep r_im).weak (fun v2 h2 q2 => ⟨by rw [q2.1, if_neg ok, if_neg ok], w, ?_⟩)
    rw [q2.2.1 ok]; exact s
theorem pr_back {h : zH} {w : Nat} {im : Int} (s : Sim h w) (r_im : -2147483648 ≤ im ∧ im ≤ 2147483647) : Pr M_x_back M_m_back [vI im] h := by
  have hnp := s.mi.hnp
  by_cases ok : 0 ≤ im ∧ im ≤ 1
  · have old : IE h im.toNat := by
      rcases (show im.toNat = 0 ∨ im.toNat = 1 by omega) with e | e <;> rw [e]
      · exact s.2.2.2.1.1
      · exact s.2.2.2.1.2
    obtain ⟨o1, o2, o3, o4⟩ := old
    by_cases k1 : h 18 im.toNat = 0
    · refine ⟨vI (-2), (c_x_back (by omega) o3 r_im).weak (fun v h1 q => ⟨by rw [q.1, if_pos ok, if_pos k1], ?_⟩), zokI⟩
      rw [q.2.1 (fun y => y.2 k1)]
      refine (c_m_back (by omega) r_im).weak (fun v2 h2 q2 => ⟨by rw [q2.1, if_pos ok, if_pos (by omega)], w, ?_⟩)
      rw [q2.2.1 (fun y => y.2 (by omega))]; exact s
    · have hI := o4 (by omega)
      refine ⟨vI (h 43 (3 + 573 * im.toNat)), (c_x_back (by omega) o3 r_im).weak (fun v h1 q => ?_), zokI⟩
      obtain ⟨x1, x2, x3⟩ := q.2.2 ⟨ok, k1⟩
      have c38 : ∀ c, 38 < c → h1 c = h c := fun c hc => x1 c (by omega) (by omega)
      have hb := hI.1
      have e3 : nw h1 3 = h 43 (3 + 573 * im.toNat) := by
        unfold nw
        rw [x2, x3 _ (by omega)]
        exact hI.2.2.1 3 (by omega) (by omega)
      refine ⟨by rw [q.1, if_pos ok, if_neg k1, e3], ?_⟩
      refine (c_m_back (by rw [c38 44 (by omega)]; omega) r_im).weak (fun v2 h2 q2 => ?_)
      rw [c38 44 (by omega)] at q2
      obtain ⟨m1, m2⟩ := q2.2.2 ⟨ok, by omega⟩
      have m3 : ∀ k, k < 573 → h2 42 k = h 43 (k + 573 * im.toNat) := fun k hk => by rw [m2 k hk, c38 43 (by omega)]
      refine ⟨by rw [q2.1, if_pos ok, if_neg (by omega)]; exact congrArg (fun z => some (vI z)) (m3 3 (by omega)), w, s.hist (fun a b1 b2 b3 => (m1 a b3).trans (x1 a b1 b2)) ?_⟩
      rw [m1 11 (by decide), m1 12 (by decide), x2]
      exact hI.cg x3 m3 hnp.2
  · have hx : 0 ≤ h 18 im.toNat ∧ h 18 im.toNat ≤ 1 ∨ True := Or.inr trivial
    refine ⟨vI (-1), (c_x_backN ok r_im).weak (fun v h1 q => ⟨q.1, ?_⟩), zokI⟩
    rw [q.2]
    exact (c_m_backN ok r_im).weak (fun v2 h2 q2 => ⟨q2.1, w, by rw [q2.2]; exact s⟩)
