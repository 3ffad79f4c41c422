/-! both sides answer alike: what is done -/
theorem feRow {h : zH} {v : Int} (hn : 0 < h 39 0) (hm : MI h) (h3 : nm h 3 < 999) : RowOK (h 39 0) (h 39 4) (feI (upI (nm h) 0 ((nm h 0 + clk v (h 39 2) (h 39 3)) % h 39 0)) (fun q => col (pm h) (upI (nm h) 0 ((nm h 0 + clk v (h 39 2) (h 39 3)) % h 39 0)) (h 39 0) q) (h 39 4) (h 39 4)) := by
  have hT := emod_in (x := nm h 0 + clk v (h 39 2) (h 39 3)) hn
  have hb := hm.hn
  generalize (nm h 0 + clk v (h 39 2) (h 39 3)) % h 39 0 = T at hT
  generalize (fun q => col (pm h) (upI (nm h) 0 T) (h 39 0) q) = cl
  obtain ⟨a0, a1, a2, a3, a4, a5, a6⟩ := hm.row
  have lo : ∀ c, c < 10 → c ≠ 3 → feI (upI (nm h) 0 T) cl (h 39 4) (h 39 4) c = upI (nm h) 0 T c := fun c c1 c3 => by
    unfold feI; rw [if_neg c3, if_neg (by omega), if_neg (by omega)]
  have hnp := hm.hnp
  refine ⟨by rw [lo 0 (by omega) (by omega), upI_eq]; omega, by rw [lo 1 (by omega) (by omega), upI_ne (by omega)]; exact a1, by rw [lo 2 (by omega) (by omega), upI_ne (by omega)]; exact a2, ?_, fun p p0 p1 => by rw [lo _ (by omega) (by omega), upI_ne (by omega)]; exact a4 p p0 p1, fun p q p0 p1 q0 q1 y => ?_, fun c c0 c1 => ?_⟩
  · unfold feI; rw [if_pos rfl, upI_ne (by omega)]; omega
  · rw [lo _ (by omega) (by omega), lo _ (by omega) (by omega), upI_ne (by omega), upI_ne (by omega)] at y
    exact a5 p q p0 p1 q0 q1 y
  · have := a6 c c0 c1
    unfold feI ptc dbt
    rw [if_neg (by omega), upI_ne (by omega)]
    repeat' split
    all_goals omega
theorem HE.push {n np : Int} {h h1 h2 : zH} {f g : Int → Int} (a : HE n np (h 11 1) (h 12) (h 42)) (hnp : np ≤ 6) (hx : XPush h h1 f) (hm : MPush h1 h2 g) (e : ∀ c, 0 ≤ c → c < 52 → f c = g c) (hg : RowOK n np g) : HE n np (h2 11 1) (h2 12) (h2 42) := by
  obtain ⟨a1, a2, a3, a4, a5, a6⟩ := a
  obtain ⟨x1, x2, x3, x4⟩ := hx
  obtain ⟨m1, m2, m3, m4⟩ := hm
  have q42 : h1 42 = h 42 := x1 42 (by decide) (by decide)
  have n52 : nm h1 52 = h 11 1 := by unfold nm; rw [q42]; exact a2
  have nmE9 : nm h1 = nm h := by funext c; unfold nm; rw [q42]
  have rmE : rm h1 = rm h := by funext i c; unfold rm; rw [q42]
  rw [m1 11 (by decide), m1 12 (by decide)]
  have u1 : h1 11 1 = nm h2 52 := by rw [x2, m2, n52]
  have ub : 0 ≤ h1 11 1 ∧ h1 11 1 ≤ 10 := by rw [x2]; split <;> omega
  have past : ∀ i : Int, 0 ≤ i → i < h1 11 1 → ∀ c, 0 ≤ c → c < 52 → rm h2 i c = rmN h (if h 11 1 < 10 then i else i + 1) c := fun i i0 i1 c c0 c1 => by
    have := m4 i c i0 (by rw [← u1]; exact i1) c0 c1
    rw [n52] at this
    rw [this]
    unfold rmN
    rw [nmE9, rmE]
  have hi : ∀ i : Int, 0 ≤ i → i < h1 11 1 → 0 ≤ (if h 11 1 < 10 then i else i + 1) ∧ (if h 11 1 < 10 then i else i + 1) ≤ h 11 1 := fun i i0 i1 => by
    rw [x2] at i1
    split at i1 <;> split <;> omega
  have nh : nm h 52 = h 11 1 := a2
  refine ⟨ub, u1.symm, fun c c0 c1 => ?_, fun i c i0 i1 c0 c1 => ?_, hg.to hnp m3, fun i i0 i1 => ?_⟩
  · show nw h1 c = nm h2 c
    rw [x3 c c0 c1, m3 c c0 c1, e c c0 c1]
  · show rx h1 i c = rm h2 i c
    rw [x4 i c i0 i1 c0 c1, past i i0 i1 c c0 c1]
    have hj := hi i i0 i1
    generalize (if h 11 1 < 10 then i else i + 1) = j at hj
    unfold rmN
    by_cases q : j = nm h 52
    · rw [if_pos q, q, nh, ← nw_rx]; exact a3 c c0 c1
    · rw [if_neg q]; exact a4 j c hj.1 (by omega) c0 c1
  · have hj := hi i i0 i1
    have pq := past i i0 i1
    generalize (if h 11 1 < 10 then i else i + 1) = j at hj pq
    have key : RowOK n np (rmN h j) := by
      by_cases q : j = nm h 52
      · have : rmN h j = nm h := by funext c; unfold rmN; rw [if_pos q]
        rw [this]; exact a5
      · have : rmN h j = rm h j := by funext c; unfold rmN; rw [if_neg q]
        rw [this]; exact a6 j hj.1 (by omega)
    exact key.to hnp pq
/-- cells of neither NOW nor the past are the same -/
theorem Sim.hist {h h2 : zH} {w : Nat} (s : Sim h w) (e : ∀ a, a ≠ 11 → a ≠ 12 → a ≠ 42 → h2 a = h a) (hh : HE (h 39 0) (h 39 4) (h2 11 1) (h2 12) (h2 42)) : Sim h2 w := by
  have hw := s.1.2.2
  have f0 := e 0 (by omega) (by omega) (by omega)
  have f1 := e 1 (by omega) (by omega) (by omega)
  have f2 := e 2 (by omega) (by omega) (by omega)
  have w0 := e w (by omega) (by omega) (by omega)
  have w1 := e (w + 1) (by omega) (by omega) (by omega)
  have w3 := e (w + 3) (by omega) (by omega) (by omega)
  have hs := s
  unfold Sim WE IE NE TE TM SI HI at s ⊢
  unfold tx px wx pm wm sx1 sx2 sm1 sm2 hx1 hx2 hm1 hm2 tm at s ⊢
  rw [f0, f1, f2, w0, w1, w3, e 39 (by omega) (by omega) (by omega), e 40 (by omega) (by omega) (by omega), e 41 (by omega) (by omega) (by omega), e 43 (by omega) (by omega) (by omega), e 44 (by omega) (by omega) (by omega), e 45 (by omega) (by omega) (by omega), e 46 (by omega) (by omega) (by omega), e 47 (by omega) (by omega) (by omega), e 18 (by omega) (by omega) (by omega), e 19 (by omega) (by omega) (by omega), e 20 (by omega) (by omega) (by omega), e 21 (by omega) (by omega) (by omega), e 22 (by omega) (by omega) (by omega), e 23 (by omega) (by omega) (by omega), e 24 (by omega) (by omega) (by omega), e 25 (by omega) (by omega) (by omega), e (14 + 2 * 0) (by omega) (by omega) (by omega), e (15 + 2 * 0) (by omega) (by omega) (by omega), e (14 + 2 * 1) (by omega) (by omega) (by omega), e (15 + 2 * 1) (by omega) (by omega) (by omega)]
  exact ⟨s.1, s.2.1, hh, s.2.2.2⟩
theorem prU {MX MM : zM} {av : List zV} {h : zH} {w : Nat} {okx okm : Prop} [Decidable okx] {a b : Int} {f g : Int → Int} (s : Sim h w) (hx : zC MX (vR 0 :: av) h (pU okx a h f)) (hm : ∀ h1, MI h1 → (0 ≤ nm h1 52 ∧ nm h1 52 ≤ 10) → (∀ c, 38 < c → h1 c = h c) → zC MM (vR 39 :: av) h1 (pUM okm b h1 g)) (ho : okx ↔ okm) (e : b = a) (ef : okx → ∀ c, 0 ≤ c → c < 52 → f c = g c) (hg : okx → RowOK (h 39 0) (h 39 4) g) (hk : zok MX.2.2.2.1 (vI a) := by exact zokI) : Pr MX MM av h := by
  have hnp := s.mi.hnp
  have hb : 0 ≤ nm h 52 ∧ nm h 52 ≤ 10 := by
    have := s.2.2.1
    rw [show nm h 52 = h 11 1 from this.2.1]; exact this.1
  refine ⟨vI a, hx.weak (fun v h1 q => ⟨q.1, ?_⟩), hk⟩
  by_cases ok : okx
  · have xp := q.2.1 ok
    have e38 : ∀ c, 38 < c → h1 c = h c := fun c hc => xp.1 c (by omega) (by omega)
    have nmq : nm h1 = nm h := nm_38 e38
    have mi1 : MI h1 := by
      unfold MI
      rw [pm_e e38, wm_e e38, nmq, e38 39 (by omega)]
      exact s.mi
    refine (hm h1 mi1 (by rw [nmq]; exact hb) e38).weak (fun v2 h2 q2 => ⟨by rw [q2.1, e], w, ?_⟩)
    have mp := q2.2.1 (ho.mp ok)
    refine s.hist (fun c c1 c2 c3 => (mp.1 c c3).trans (xp.1 c c1 c2)) ?_
    exact s.2.2.1.push hnp.2 xp mp (ef ok) (hg ok)
  · have q1 := q.2.2 ok
    rw [q1]
    refine (hm h s.mi hb (fun c _ => rfl)).weak (fun v2 h2 q2 => ⟨by rw [q2.1, e], w, ?_⟩)
    rw [q2.2.2 (fun z => ok (ho.mpr z))]
    exact s
theorem pr_passes {h : zH} {w : Nat} {t : Int}  (s : Sim h w) (r_t : -2147483648 ≤ t ∧ t ≤ 2147483647) : Pr M_x_passes M_m_passes [vI t] h := by
  obtain ⟨e1, e2, e3, e4, e5, e6, e7⟩ := s.eqD
  have eg := s.eqD.g
  have hn := s.mi.hn
  have hnp := s.mi.hnp
  refine prU (okm := ((1 ≤ t ∧ t ≤ 11) ∧ h 39 0 ≠ 0)) (b := (if 1 ≤ t ∧ t ≤ 11 then (if h 39 0 = 0 then -2 else (nm h 1 + t) % h 39 0) else -1)) (g := (upI (nm h) 1 ((nm h 1 + t) % h 39 0))) s (c_x_passes s.xi r_t) (fun h1 m1 u1 e => ?_) ?_ ?_ ?_ ?_
  · have k := c_m_passes m1 u1 r_t
    rw [nm_38 e, e 39 (by omega)] at k
    exact k
  · rw [e1]
  · rw [e1, e7 1 (by omega) (by omega)]
  · intro ok c c0 c1
    unfold upI
    rw [e7 c c0 c1, e7 1 (by omega) (by omega), e1]
  · intro ok
    obtain ⟨a0, a1, a2, a3, a4, a5, a6⟩ := s.mi.row
    have hq := emod_in (x := nm h 1 + t) (n := h 39 0) (by omega)
    refine ⟨by rw [upI_ne (by omega)]; exact a0, by rw [upI_eq]; omega, by rw [upI_ne (by omega)]; exact a2, by rw [upI_ne (by omega)]; exact a3, fun p p0 p1 => by rw [upI_ne (by omega)]; exact a4 p p0 p1, fun p q p0 p1 q0 q1 y => ?_, fun c c0 c1 => by rw [upI_ne (by omega)]; exact a6 c c0 c1⟩
    rw [upI_ne (by omega), upI_ne (by omega)] at y
    exact a5 p q p0 p1 q0 q1 y
theorem pr_goes {h : zH} {w : Nat} {p : Int} {s0 : Int}  (s : Sim h w) (r_p : -2147483648 ≤ p ∧ p ≤ 2147483647) (r_s0 : -2147483648 ≤ s0 ∧ s0 ≤ 2147483647) : Pr M_x_goes M_m_goes [vI p, vI s0] h := by
  obtain ⟨e1, e2, e3, e4, e5, e6, e7⟩ := s.eqD
  have eg := s.eqD.g
  have hn := s.mi.hn
  have hnp := s.mi.hnp
  refine prU (okm := ((0 ≤ p ∧ p < h 39 4) ∧ (0 ≤ s0 ∧ s0 < h 39 0) ∧ whoM (nm h) (h 39 4) s0 < 0)) (b := (if (0 ≤ p ∧ p < h 39 4) ∧ (0 ≤ s0 ∧ s0 < h 39 0) then (if whoM (nm h) (h 39 4) s0 < 0 then nm h (4 + p) else -2) else -1)) (g := (upI (nm h) (4 + p) s0)) s (c_x_goes s.xi r_p r_s0) (fun h1 m1 u1 e => ?_) ?_ ?_ ?_ ?_
  · have k := c_m_goes m1 u1 r_p r_s0
    rw [nm_38 e, e 39 (by omega)] at k
    exact k
  · have hwh := (who_in s.mi.row hnp.1 s0).2.2.2.2.1
    rw [e1, e2, who_cg hnp.2 e7]
    omega
  · have hwh := (who_in s.mi.row hnp.1 s0).2.2.2.2.1
    rw [e1, e2, who_cg hnp.2 e7]
    by_cases q : (0 ≤ p ∧ p < h 39 4) ∧ (0 ≤ s0 ∧ s0 < h 39 0)
    · rw [if_pos q, if_pos q, e7 (4 + p) (by omega) (by omega)]
      by_cases q2 : whoM (nm h) (h 39 4) s0 < 0
      · rw [if_pos q2, if_pos (hwh.mp q2)]
      · rw [if_neg q2, if_neg (fun z => q2 (hwh.mpr z))]
    · rw [if_neg q, if_neg q]
  · intro ok c c0 c1
    unfold upI
    rw [e7 c c0 c1]
  · intro ok
    rw [e1, e2, who_cg hnp.2 e7] at ok
    have hwq := who_eq s.mi.row hnp.1 s0
    have hfr : ∀ q, 0 ≤ q → q < h 39 4 → nm h (4 + q) ≠ s0 := by
      rcases hwq with z | z
      · exact z.2.2
      · omega
    obtain ⟨a0, a1, a2, a3, a4, a5, a6⟩ := s.mi.row
    refine ⟨by rw [upI_ne (by omega)]; exact a0, by rw [upI_ne (by omega)]; exact a1, by rw [upI_ne (by omega)]; exact a2, by rw [upI_ne (by omega)]; exact a3, fun q p0 p1 => ?_, fun q r p0 p1 q0 q1 y => ?_, fun c c0 c1 => by rw [upI_ne (by omega)]; exact a6 c c0 c1⟩
    · by_cases z : q = p
      · rw [z, upI_eq]; omega
      · rw [upI_ne (by omega)]; exact a4 q p0 p1
    · by_cases z : q = p
      · by_cases z2 : r = p
        · omega
        · rw [z, upI_eq, upI_ne (by omega)] at y
          exact absurd y.symm (hfr r q0 q1)
      · by_cases z2 : r = p
        · rw [z2, upI_eq, upI_ne (by omega)] at y
          exact absurd y (hfr q p0 p1)
        · rw [upI_ne (by omega), upI_ne (by omega)] at y
          exact a5 q r p0 p1 q0 q1 y
theorem pr_forgives {h : zH} {w : Nat} {p : Int} {q : Int}  (s : Sim h w) (r_p : -2147483648 ≤ p ∧ p ≤ 2147483647) (r_q : -2147483648 ≤ q ∧ q ≤ 2147483647) : Pr M_x_forgives M_m_forgives [vI p, vI q] h := by
  obtain ⟨e1, e2, e3, e4, e5, e6, e7⟩ := s.eqD
  have eg := s.eqD.g
  have hn := s.mi.hn
  have hnp := s.mi.hnp
  refine prU (okm := ((p ≠ q ∧ (0 ≤ p ∧ p < h 39 4) ∧ (0 ≤ q ∧ q < h 39 4)) ∧ owF (nm h) p q ≠ 0)) (b := (if p ≠ q ∧ (0 ≤ p ∧ p < h 39 4) ∧ (0 ≤ q ∧ q < h 39 4) then (if owF (nm h) p q = 0 then -2 else owF (nm h) p q) else -1)) (g := (upI (nm h) (16 + p * 6 + q) 0)) s (c_x_forgives s.xi r_p r_q) (fun h1 m1 u1 e => ?_) ?_ ?_ ?_ ?_
  · have k := c_m_forgives m1 u1 r_p r_q
    rw [nm_38 e, e 39 (by omega)] at k
    exact k
  · rw [e2]
    constructor
    · rintro ⟨y1, y2⟩
      refine ⟨y1, ?_⟩
      rw [show owF (nw h) p q = owF (nm h) p q from e7 (16 + p * 6 + q) (by omega) (by omega)] at y2
      exact y2
    · rintro ⟨y1, y2⟩
      refine ⟨y1, ?_⟩
      rw [show owF (nw h) p q = owF (nm h) p q from e7 (16 + p * 6 + q) (by omega) (by omega)]
      exact y2
  · rw [e2]
    by_cases y : p ≠ q ∧ (0 ≤ p ∧ p < h 39 4) ∧ (0 ≤ q ∧ q < h 39 4)
    · rw [if_pos y, if_pos y, show owF (nw h) p q = owF (nm h) p q from e7 (16 + p * 6 + q) (by omega) (by omega)]
    · rw [if_neg y, if_neg y]
  · intro ok c c0 c1
    unfold upI
    rw [e7 c c0 c1]
  · intro ok
    rw [e2] at ok
    exact s.mi.row.upd hnp.2 (Or.inr ⟨by omega, by omega, by omega, by omega⟩)
theorem pr_covers {h : zH} {w : Nat} {t : Int}  (s : Sim h w) (r_t : -2147483648 ≤ t ∧ t ≤ 2147483647) : Pr M_x_covers M_m_covers [vI t] h := by
  obtain ⟨e1, e2, e3, e4, e5, e6, e7⟩ := s.eqD
  have eg := s.eqD.g
  have hn := s.mi.hn
  have hnp := s.mi.hnp
  refine prU (okm := ((0 ≤ t ∧ t ≤ 1) ∧ nm h 2 ≠ t)) (b := (if 0 ≤ t ∧ t ≤ 1 then (if nm h 2 = t then -2 else sumF (fun p => zb (col (pm h) (upI (nm h) 2 t) (h 39 0) p = 0)) (h 39 4).toNat) else -1)) (g := (upI (nm h) 2 t)) s (c_x_covers s.xi r_t) (fun h1 m1 u1 e => ?_) ?_ ?_ ?_ ?_
  · have k := c_m_covers m1 u1 r_t
    rw [nm_38 e, e 39 (by omega), pm_e e] at k
    exact k
  · rw [e7 2 (by omega) (by omega)]
  · rw [e1, e2, e7 2 (by omega) (by omega)]
    have es : sumF (fun p => zb (col (pm h) (upI (nm h) 2 t) (h 39 0) p = 0)) (h 39 4).toNat = sumF (fun p => zb (col (px h w) (upI (nw h) 2 t) (h 39 0) p = 0)) (h 39 4).toNat := sumF_cg _ (fun j j0 j1 => by
      have hs := s.mi.row.hs j0 (show j < h 39 4 by omega)
      rw [col_cg (P := px h w) (N := upI (nw h) 2 t) (N' := upI (nm h) 2 t) (n := h 39 0) (p := j) (by omega) (by omega) e5 (fun c c0 c1 => by unfold upI; rw [e7 c c0 c1])])
    rw [es]
  · intro ok c c0 c1
    unfold upI
    rw [e7 c c0 c1]
  · intro ok
    obtain ⟨a0, a1, a2, a3, a4, a5, a6⟩ := s.mi.row
    refine ⟨by rw [upI_ne (by omega)]; exact a0, by rw [upI_ne (by omega)]; exact a1, by rw [upI_eq]; omega, by rw [upI_ne (by omega)]; exact a3, fun p p0 p1 => by rw [upI_ne (by omega)]; exact a4 p p0 p1, fun p q p0 p1 q0 q1 y => ?_, fun c c0 c1 => by rw [upI_ne (by omega)]; exact a6 c c0 c1⟩
    rw [upI_ne (by omega), upI_ne (by omega)] at y
    exact a5 p q p0 p1 q0 q1 y
theorem pr_spins {h : zH} {w : Nat} {v : Int}  (s : Sim h w) (r_v : -2147483648 ≤ v ∧ v ≤ 2147483647) : Pr M_x_spins M_m_spins [vI v] h := by
  obtain ⟨e1, e2, e3, e4, e5, e6, e7⟩ := s.eqD
  have eg := s.eqD.g
  have hn := s.mi.hn
  have hnp := s.mi.hnp
  refine prU (okm := ((1 ≤ v ∧ v ≤ 60) ∧ h 39 0 ≠ 0 ∧ nm h 3 < 999)) (b := (if 1 ≤ v ∧ v ≤ 60 then (if h 39 0 = 0 then -2 else if nm h 3 < 999 then ((nm h 0 + clk v (h 39 2) (h 39 3)) % h 39 0) else -3) else -1)) (g := (feI (upI (nm h) 0 ((nm h 0 + clk v (h 39 2) (h 39 3)) % h 39 0)) (fun q => col (pm h) (upI (nm h) 0 ((nm h 0 + clk v (h 39 2) (h 39 3)) % h 39 0)) (h 39 0) q) (h 39 4) (h 39 4))) s (c_x_spins s.xi r_v) (fun h1 m1 u1 e => ?_) ?_ ?_ ?_ ?_
  · have k := c_m_spins m1 u1 r_v
    rw [nm_38 e, e 39 (by omega), pm_e e] at k
    exact k
  · rw [e1, e7 3 (by omega) (by omega)]
  · rw [e1, e3, e4, e7 3 (by omega) (by omega), e7 0 (by omega) (by omega)]
  · intro ok
    rw [e1] at ok
    rw [e1, e2, e3, e4, e7 0 (by omega) (by omega)]
    exact feI_congr hnp.2 (fun c c0 c1 => by unfold upI; rw [e7 c c0 c1]) (fun q q0 q5 => col_cg (by omega) ⟨q0, q5⟩ e5 (fun c c0 c1 => by unfold upI; rw [e7 c c0 c1]))
  · intro ok
    rw [e1, e7 3 (by omega) (by omega)] at ok
    exact feRow (by omega) s.mi ok.2.2
