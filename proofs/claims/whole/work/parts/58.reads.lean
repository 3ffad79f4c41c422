/-! both sides answer alike: what only reads -/
/-- an answer of the kind that the method returns -/
def zok (t : Option FieldType) (z : zV) : Prop := match t with
  | some .long => ∃ x, z = vL x
  | _ => ∃ x, z = vI x
theorem zokI {x : Int} : zok (some .int) (vI x) := ⟨x, rfl⟩
theorem zokL {x : Int} : zok (some .long) (vL x) := ⟨x, rfl⟩
def Pr (MX MM : zM) (av : List zV) (h : zH) : Prop := ∃ z : zV, zC MX (vR 0 :: av) h (fun v h1 => v = some z ∧ zC MM (vR 39 :: av) h1 (fun v2 h2 => v2 = some z ∧ ∃ w', Sim h2 w')) ∧ zok MX.2.2.2.1 z
theorem pvm {x : zV} {h : zH} {M : zM} {av : List zV} (k : zC M av h (pV x h)) : zC M av h (pM x h) := k.weak (fun v h1 q => ⟨q.1, fun a _ => by rw [q.2]⟩)
theorem rdV {MX MM : zM} {av : List zV} {h : zH} {w : Nat} {a b : zV} (s : Sim h w) (hx : zC MX (vR 0 :: av) h (pV a h)) (hm : zC MM (vR 39 :: av) h (pM b h)) (e : b = a) (hk : zok MX.2.2.2.1 a := by first | exact zokI | exact zokL) : Pr MX MM av h := by
  refine ⟨a, hx.weak (fun v h1 q => ⟨q.1, ?_⟩), hk⟩
  rw [q.2]
  exact hm.weak (fun v2 h2 q2 => ⟨q2.1.trans (by rw [e]), w, s.scr (fun c hc => q2.2 c (by omega))⟩)
theorem rdX {MX MM : zM} {av : List zV} {h : zH} {w : Nat} {a b : zV} (s : Sim h w) (hx : zC MX (vR 0 :: av) h (pX a h)) (hm : ∀ h1, Sim h1 w → (∀ c, 38 < c → h1 c = h c) → zC MM (vR 39 :: av) h1 (pM b h1)) (e : b = a) (hk : zok MX.2.2.2.1 a := by first | exact zokI | exact zokL) : Pr MX MM av h := by
  refine ⟨a, hx.weak (fun v h1 q => ⟨q.1, ?_⟩), hk⟩
  have s1 : Sim h1 w := s.scr (fun c hc => q.2 c (by omega))
  exact (hm h1 s1 (fun c hc => q.2 c (Or.inr hc))).weak (fun v2 h2 q2 => ⟨q2.1.trans (by rw [e]), w, s1.scr (fun c hc => q2.2 c (by omega))⟩)
theorem vIe {x y : Int} (h : x = y) : vI x = vI y := by rw [h]
theorem gm_e {h h1 : zH} (e : ∀ c, 38 < c → h1 c = h c) : gm h1 = gm h := by funext s v; unfold gm pm nm; rw [e 39 (by omega), e 40 (by omega), e 42 (by omega)]
theorem nm_38 {h h1 : zH} (e : ∀ c, 38 < c → h1 c = h c) : nm h1 = nm h := by funext c; unfold nm; rw [e 42 (by omega)]
theorem pm_e {h h1 : zH} (e : ∀ c, 38 < c → h1 c = h c) : pm h1 = pm h := by funext c; unfold pm; rw [e 40 (by omega)]
theorem wm_e {h h1 : zH} (e : ∀ c, 38 < c → h1 c = h c) : wm h1 = wm h := by funext c; unfold wm; rw [e 41 (by omega)]
theorem sm1_e {h h1 : zH} (e : ∀ c, 38 < c → h1 c = h c) : sm1 h1 = sm1 h := by funext c; unfold sm1; rw [e 45 (by omega)]
theorem sm2_e {h h1 : zH} (e : ∀ c, 38 < c → h1 c = h c) : sm2 h1 = sm2 h := by funext c; unfold sm2; rw [e 45 (by omega)]
theorem hm1_e {h h1 : zH} (e : ∀ c, 38 < c → h1 c = h c) : hm1 h1 = hm1 h := by funext c; unfold hm1; rw [e 46 (by omega)]
theorem hm2_e {h h1 : zH} (e : ∀ c, 38 < c → h1 c = h c) : hm2 h1 = hm2 h := by funext c; unfold hm2; rw [e 46 (by omega)]
theorem Sim.sim {h : zH} {w : Nat} (s : Sim h w) : SI (h 39 0) (h 39 9) (sm1 h) (sm2 h) := s.2.2.2.2.1.1
theorem Sim.him {h : zH} {w : Nat} (s : Sim h w) : HI (h 39 11) (hm1 h) (hm2 h) := s.2.2.2.2.1.2.2.2.1
theorem Sim.snb {h : zH} {w : Nat} (s : Sim h w) : snB (gx h w) (sx1 h) (sx2 h) (h 19 2) = snB (gm h) (sm1 h) (sm2 h) (h 39 9) := by
  have n := s.2.2.2.2.1
  rw [s.eqD.g, n.2.1]
  exact snB_cg (fun j j0 j1 => (n.2.2.1 j j0 j1).1) (fun j j0 j1 => (n.2.2.1 j j0 j1).2)
theorem Sim.hdb {h : zH} {w : Nat} (s : Sim h w) : hdB (hx1 h) (hx2 h) (h 22 2) = hdB (hm1 h) (hm2 h) (h 39 11) := by
  have n := s.2.2.2.2.1
  rw [n.2.2.2.2.1]
  exact hdB_cg (fun j j0 j1 => (n.2.2.2.2.2 j j0 j1).1) (fun j j0 j1 => (n.2.2.2.2.2 j j0 j1).2)
theorem pr_pane {h : zH} {w : Nat} {s0 : Int}  (s : Sim h w) (r_s0 : -2147483648 ≤ s0 ∧ s0 ≤ 2147483647) : Pr M_x_pane M_m_pane [vI s0] h := by
  obtain ⟨e1, e2, e3, e4, e5, e6, e7⟩ := s.eqD
  have eg := s.eqD.g
  have hnp := s.mi.hnp
  refine rdV s (c_x_pane s.xi r_s0) (pvm (c_m_pane s.mi r_s0)) (vIe ?_)
  rw [e1]
  by_cases q : 0 ≤ s0 ∧ s0 < h 39 0
  · rw [if_pos q, if_pos q, e5 s0 q.1 q.2]
  · rw [if_neg q, if_neg q]
theorem pr_one {h : zH} {w : Nat} {p : Int} {t : Int}  (s : Sim h w) (r_p : -2147483648 ≤ p ∧ p ≤ 2147483647) (r_t : -2147483648 ≤ t ∧ t ≤ 2147483647) : Pr M_x_one M_m_one [vI p, vI t] h := by
  obtain ⟨e1, e2, e3, e4, e5, e6, e7⟩ := s.eqD
  have eg := s.eqD.g
  have hnp := s.mi.hnp
  refine rdV s (c_x_one s.xi r_p r_t) (pvm (c_m_one s.mi r_p r_t)) (vIe ?_)
  rw [e1, e2]
  by_cases q : 0 ≤ p ∧ p < h 39 4
  · rw [if_pos q, if_pos q, e7 (4 + p) (by omega) (by omega), e7 (10 + p) (by omega) (by omega), e6 p q.1 q.2, ow_cg (np := h 39 4) (p := p) (by omega) (by omega) e7]
    have hs := s.mi.row.hs q.1 q.2
    rw [col_cg (P := px h w) (n := h 39 0) (p := p) (by omega) (by omega) e5 e7]
  · rw [if_neg q, if_neg q]
theorem pr_owed {h : zH} {w : Nat} {p : Int} {q : Int}  (s : Sim h w) (r_p : -2147483648 ≤ p ∧ p ≤ 2147483647) (r_q : -2147483648 ≤ q ∧ q ≤ 2147483647) : Pr M_x_owed M_m_owed [vI p, vI q] h := by
  obtain ⟨e1, e2, e3, e4, e5, e6, e7⟩ := s.eqD
  have eg := s.eqD.g
  have hnp := s.mi.hnp
  refine rdV s (c_x_owed s.xi r_p r_q) (pvm (c_m_owed s.mi r_p r_q)) (vIe ?_)
  rw [e2]
  by_cases y : p ≠ q ∧ (0 ≤ p ∧ p < h 39 4) ∧ (0 ≤ q ∧ q < h 39 4)
  · rw [if_pos y, if_pos y]
    exact (e7 (16 + p * 6 + q) (by omega) (by omega)).symm
  · rw [if_neg y, if_neg y]
theorem pr_clicks {h : zH} {w : Nat} {v : Int}  (s : Sim h w) (r_v : -2147483648 ≤ v ∧ v ≤ 2147483647) : Pr M_x_clicks M_m_clicks [vI v] h := by
  obtain ⟨e1, e2, e3, e4, e5, e6, e7⟩ := s.eqD
  have eg := s.eqD.g
  have hnp := s.mi.hnp
  refine rdV s (c_x_clicks s.xi r_v) (pvm (c_m_clicks s.mi r_v)) (vIe ?_)
  rw [e3, e4]
theorem pr_stops {h : zH} {w : Nat} {v : Int}  (s : Sim h w) (r_v : -2147483648 ≤ v ∧ v ≤ 2147483647) : Pr M_x_stops M_m_stops [vI v] h := by
  obtain ⟨e1, e2, e3, e4, e5, e6, e7⟩ := s.eqD
  have eg := s.eqD.g
  have hnp := s.mi.hnp
  refine rdV s (c_x_stops s.xi r_v) (pvm (c_m_stops s.mi r_v)) (vIe ?_)
  rw [e1, e3, e4, e7 0 (by omega) (by omega)]
theorem pr_shade {h : zH} {w : Nat} {s0 : Int} {v : Int}  (s : Sim h w) (r_s0 : -2147483648 ≤ s0 ∧ s0 ≤ 2147483647) (r_v : -2147483648 ≤ v ∧ v ≤ 2147483647) : Pr M_x_shade M_m_shade [vI s0, vI v] h := by
  obtain ⟨e1, e2, e3, e4, e5, e6, e7⟩ := s.eqD
  have eg := s.eqD.g
  have hnp := s.mi.hnp
  refine rdV s (c_x_shade s.xi r_s0 r_v) (pvm (c_m_shade s.mi r_s0 r_v)) (vIe ?_)
  rw [e1, eg]
theorem pr_speeds {h : zH} {w : Nat} {s0 : Int} {c : Int} {t : Int}  (s : Sim h w) (r_s0 : -2147483648 ≤ s0 ∧ s0 ≤ 2147483647) (r_c : -2147483648 ≤ c ∧ c ≤ 2147483647) (r_t : -2147483648 ≤ t ∧ t ≤ 2147483647) : Pr M_x_speeds M_m_speeds [vI s0, vI c, vI t] h := by
  obtain ⟨e1, e2, e3, e4, e5, e6, e7⟩ := s.eqD
  have eg := s.eqD.g
  have hnp := s.mi.hnp
  refine rdV s (c_x_speeds s.xi r_s0 r_c r_t) (pvm (c_m_speeds s.mi r_s0 r_c r_t)) (vIe ?_)
  rw [e1, eg]
theorem pr_chair {h : zH} {w : Nat} {c : Int} {t : Int}  (s : Sim h w) (r_c : -2147483648 ≤ c ∧ c ≤ 2147483647) (r_t : -2147483648 ≤ t ∧ t ≤ 2147483647) : Pr M_x_chair M_m_chair [vI c, vI t] h := by
  obtain ⟨e1, e2, e3, e4, e5, e6, e7⟩ := s.eqD
  have eg := s.eqD.g
  have hnp := s.mi.hnp
  refine rdV s (c_x_chair s.xi r_c r_t) (pvm (c_m_chair s.mi r_c r_t)) (vIe ?_)
  rw [e1, eg]
theorem pr_odds {h : zH} {w : Nat} {s0 : Int} {c : Int} {m : Int} {x : Int} {t : Int}  (s : Sim h w) (r_s0 : -2147483648 ≤ s0 ∧ s0 ≤ 2147483647) (r_c : -2147483648 ≤ c ∧ c ≤ 2147483647) (r_m : -2147483648 ≤ m ∧ m ≤ 2147483647) (r_x : -2147483648 ≤ x ∧ x ≤ 2147483647) (r_t : -2147483648 ≤ t ∧ t ≤ 2147483647) : Pr M_x_odds M_m_odds [vI s0, vI c, vI m, vI x, vI t] h := by
  obtain ⟨e1, e2, e3, e4, e5, e6, e7⟩ := s.eqD
  have eg := s.eqD.g
  have hnp := s.mi.hnp
  refine rdV s (c_x_odds s.xi r_s0 r_c r_m r_x r_t) (pvm (c_m_odds s.mi r_s0 r_c r_m r_x r_t)) (vIe ?_)
  rw [e1, eg]
theorem pr_steps {h : zH} {w : Nat} {p : Int} {c : Int} {v : Int} {t : Int}  (s : Sim h w) (r_p : -2147483648 ≤ p ∧ p ≤ 2147483647) (r_c : -2147483648 ≤ c ∧ c ≤ 2147483647) (r_v : -2147483648 ≤ v ∧ v ≤ 2147483647) (r_t : -2147483648 ≤ t ∧ t ≤ 2147483647) : Pr M_x_steps M_m_steps [vI p, vI c, vI v, vI t] h := by
  obtain ⟨e1, e2, e3, e4, e5, e6, e7⟩ := s.eqD
  have eg := s.eqD.g
  have hnp := s.mi.hnp
  refine rdV s (c_x_steps s.xi r_p r_c r_v r_t) (pvm (c_m_steps s.mi r_p r_c r_v r_t)) (vIe ?_)
  rw [e1, e2, eg]
  by_cases q : (0 ≤ p ∧ p < h 39 4) ∧ (0 ≤ c ∧ c ≤ 5) ∧ (1 ≤ v ∧ v ≤ 60) ∧ (0 ≤ t ∧ t ≤ 1)
  · rw [if_pos q, if_pos q, spF_cg (N := nw h) (by omega) (by omega) e7]
  · rw [if_neg q, if_neg q]
theorem pr_now {h : zH} {w : Nat} {t : Int}  (s : Sim h w) (r_t : -2147483648 ≤ t ∧ t ≤ 2147483647) : Pr M_x_now M_m_now [vI t] h := by
  obtain ⟨e1, e2, e3, e4, e5, e6, e7⟩ := s.eqD
  have eg := s.eqD.g
  have hnp := s.mi.hnp
  refine rdV s (c_x_now s.xi r_t) (c_m_now s.mi r_t) (vIe ?_)
  rw [e1, e2, alk_cg e5, ring_cg hnp e7]
  have es : sumF (fun p => sumF (owF (nw h) p) (h 39 4).toNat) (h 39 4).toNat = sumF (fun p => sumF (owF (nm h) p) (h 39 4).toNat) (h 39 4).toNat := sumF_cg _ (fun j j0 j1 => ow_cg (by omega) (by omega) e7)
  rw [es]
  by_cases q : 0 ≤ t ∧ t ≤ 3
  · rw [if_pos q, if_pos q, e7 t (by omega) (by omega)]
  · rw [if_neg q, if_neg q]
theorem pr_count {h : zH} {w : Nat} {t : Int}  (s : Sim h w) (r_t : -2147483648 ≤ t ∧ t ≤ 2147483647) : Pr M_x_count M_m_count [vI t] h := by
  obtain ⟨e1, e2, e3, e4, e5, e6, e7⟩ := s.eqD
  have eg := s.eqD.g
  have hnp := s.mi.hnp
  have n := s.2.2.2.2.1
  have hh := s.2.2.1
  have ht := s.2.2.2.2.2.1
  refine rdV s (c_x_count s.1.1 s.1.2.2 r_t) (pvm (c_m_count r_t)) (vIe ?_)
  rw [e1, e2, e3, e4, n.2.1, n.2.2.2.2.1, ht.2.1, show nm h 52 = h 11 1 from hh.2.1]
theorem pr_trace {h : zH} {w : Nat}  (s : Sim h w)  : Pr M_x_trace M_m_trace [] h := by
  obtain ⟨e1, e2, e3, e4, e5, e6, e7⟩ := s.eqD
  have eg := s.eqD.g
  have hnp := s.mi.hnp
  refine rdV s c_x_trace (pvm c_m_trace) ?_
  rw [s.2.2.2.2.2.2]
theorem pr_spun {h : zH} {w : Nat} {t : Int}  (s : Sim h w) (r_t : -2147483648 ≤ t ∧ t ≤ 2147483647) : Pr M_x_spun M_m_spun [vI t] h := by
  obtain ⟨e1, e2, e3, e4, e5, e6, e7⟩ := s.eqD
  have eg := s.eqD.g
  have hnp := s.mi.hnp
  refine rdV s (c_x_spun s.xi s.si r_t) (pvm (c_m_spun s.mi s.sim r_t)) (vIe ?_)
  rw [s.snb]
theorem pr_look {h : zH} {w : Nat}  (s : Sim h w)  : Pr M_x_look M_m_look [] h := by
  obtain ⟨e1, e2, e3, e4, e5, e6, e7⟩ := s.eqD
  have eg := s.eqD.g
  have hnp := s.mi.hnp
  refine rdX s (c_x_look s.xi s.si) (fun h1 s1 e => ?_) (vIe (y := _) rfl)
  have k := c_m_look s1.mi s1.sim
  rw [gm_e e, sm1_e e, sm2_e e, e 39 (by omega)] at k
  rw [s.snb, eg, e1]
  exact k
theorem pr_laws {h : zH} {w : Nat} {t : Int}  (s : Sim h w) (r_t : -2147483648 ≤ t ∧ t ≤ 2147483647) : Pr M_x_laws M_m_laws [vI t] h := by
  obtain ⟨e1, e2, e3, e4, e5, e6, e7⟩ := s.eqD
  have eg := s.eqD.g
  have hnp := s.mi.hnp
  refine rdX s (c_x_laws s.hi r_t) (fun h1 s1 e => ?_) (vIe (y := _) rfl)
  have k := pvm (c_m_laws s1.him r_t)
  rw [hm1_e e, hm2_e e, e 39 (by omega)] at k
  rw [s.hdb]
  exact k
theorem pr_tryNext {h : zH} {w : Nat}  (s : Sim h w)  : Pr M_x_tryNext M_m_tryNext [] h := by
  obtain ⟨e1, e2, e3, e4, e5, e6, e7⟩ := s.eqD
  have eg := s.eqD.g
  have hnp := s.mi.hnp
  refine rdX s (c_x_tryNext s.hi) (fun h1 s1 e => ?_) (vIe (y := _) rfl)
  have k := c_m_tryNext s1.him
  rw [hm1_e e, hm2_e e, e 39 (by omega)] at k
  rw [s.hdb]
  exact k
theorem pr_seats {h : zH} {w : Nat} {v : Int} {p : Int}  (s : Sim h w) (r_v : -2147483648 ≤ v ∧ v ≤ 2147483647) (r_p : -2147483648 ≤ p ∧ p ≤ 2147483647) : Pr M_x_seats M_m_seats [vI v, vI p] h := by
  obtain ⟨e1, e2, e3, e4, e5, e6, e7⟩ := s.eqD
  have eg := s.eqD.g
  have hnp := s.mi.hnp
  refine rdX s (c_x_seats s.xi r_v r_p) (fun h1 s1 e => ?_) (vIe (y := _) rfl)
  have k := c_m_seats s1.mi r_v r_p
  rw [gm_e e, wm_e e, e 39 (by omega)] at k
  rw [e1, e2, eg]
  have hn := s.mi.hn
  have hle := np_le s.mi.row hn.1 hnp.1
  have ew : (fun c => cF (wx h w) c (h 39 4).toNat) = fun c => cF (wm h) c (h 39 4).toNat := by
    funext c
    exact sumF_cg _ (fun j j0 j1 => by rw [e6 j j0 (by omega)])
  have hg5 : ∀ j, 0 ≤ j → j < h 39 0 → 0 ≤ gm h j v ∧ gm h j v ≤ 5 := fun j j0 j1 => by
    unfold gm shd
    rw [if_pos (by omega)]
    have := emod_in (x := j + (nm h 0 + nm h 1) + clk v (h 39 2) (h 39 3)) (n := h 39 0) (by omega)
    exact s.mi.hP this.1 this.2
  have hs := (se_eq (f := fun s0 => gm h s0 v) (Wt := wm h) (n := h 39 0) (np := h 39 4) hn.1 ⟨hnp.1, hle⟩ hg5 (fun j j0 j1 => by have := s.mi.hW j0 j1; omega) (h 39 4).toNat (by omega)).1
  rw [ew, seX_cg (Wt := wx h w) (Wt' := wm h) hnp.1 e6, hs]
  exact k
