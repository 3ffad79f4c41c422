/-! the same text tells the same -/
theorem skn_cg {b c : Int → Bool} : ∀ (k : Nat) (i : Int), (∀ j, i ≤ j → j < i + k → b j = c j) → skn b k i = skn c k i
  | 0, _, _ => rfl
  | k + 1, i, h => by
    unfold skn
    rw [skn_cg k (i + 1) (fun j j0 j1 => h j (by omega) (by omega)), h i (by omega) (by omega)]
theorem spE_cg {b c : Int → Bool} {L i : Int} (h : ∀ j, i ≤ j → j < L → b j = c j) : spE b L i = spE c L i := by
  unfold spE
  exact skn_cg _ _ (fun j j0 j1 => h j j0 (by omega))
theorem dvn_cg {T U : Int → Int} : ∀ (k : Nat) (i v : Int), (∀ j, i ≤ j → j < i + k → T j = U j) → dvn T k i v = dvn U k i v
  | 0, _, _, _ => rfl
  | k + 1, i, v, h => by
    unfold dvn
    rw [h i (by omega) (by omega), dvn_cg k (i + 1) _ (fun j j0 j1 => h j (by omega) (by omega))]
section TC
variable {T U : Int → Int} {L : Int}
theorem tkS_cg {c : Int} (hT : ∀ j, 0 ≤ j → j < L → T j = U j) (hc : 0 ≤ c) : tkS T L c = tkS U L c := by
  unfold tkS
  exact spE_cg (fun j j0 j1 => by unfold bS; rw [hT j (by omega) j1])
theorem tk_cg {c : Int} (hT : ∀ j, 0 ≤ j → j < L → T j = U j) (hc : 0 ≤ c ∧ c ≤ L) : tkT T L c = tkT U L c ∧ tkN T L c = tkN U L c ∧ (tkT T L c ≠ 0 → tkV T L c = tkV U L c) := by
  have hs := tkS_cg hT hc.1
  have h1 := tk_in (T := T) hc.2
  have key : tkS U L c < L → T (tkS U L c) = U (tkS U L c) ∧ spE (bD T) L (tkS U L c) = spE (bD U) L (tkS U L c) ∧ spE (bL T) L (tkS U L c) = spE (bL U) L (tkS U L c) ∧ dvE T L (tkS U L c) 0 = dvE U L (tkS U L c) 0 := fun q => by
    rw [hs] at h1
    refine ⟨hT _ (by omega) q, spE_cg (fun j j0 j1 => by unfold bD; rw [hT j (by omega) j1]), spE_cg (fun j j0 j1 => by unfold bL; rw [hT j (by omega) j1]), ?_⟩
    unfold dvE
    exact dvn_cg _ _ _ (fun j j0 j1 => hT j (by omega) (by omega))
  have h8 := h1.2.2.2.2.2.2.2
  rw [hs] at h8
  unfold tkN tkV
  refine ⟨?_, ?_, fun q => ?_⟩
  · unfold tkT
    rw [hs]
    by_cases q : tkS U L c < L
    · obtain ⟨k1, k2, k3, k4⟩ := key q
      rw [k1, k2, k4]
    · rw [if_neg q, if_neg q]
  · rw [hs]
    by_cases q : tkS U L c < L
    · obtain ⟨k1, k2, k3, k4⟩ := key q
      rw [k1, k2, k3]
    · rw [if_neg q, if_neg q]
  · rw [hs]
    have : tkS U L c < L := by
      have := h1.2.1
      rw [hs] at this
      by_cases e : tkS U L c = L
      · exact absurd (h8.mpr e) q
      · omega
    obtain ⟨k1, k2, k3, k4⟩ := key this
    rw [k1, k3, k4]
theorem nb {c : Int} (hc : 0 ≤ c ∧ c ≤ L) : 0 ≤ tkN T L c ∧ tkN T L c ≤ L := by
  have := tk_b (T := T) hc.2
  omega
theorem num_cg {c lo hi : Int} (hT : ∀ j, 0 ≤ j → j < L → T j = U j) (hc : 0 ≤ c ∧ c ≤ L) : numOk T L c lo hi ↔ numOk U L c lo hi := by
  obtain ⟨k1, k2, k3⟩ := tk_cg hT hc
  unfold numOk
  by_cases q : tkT T L c = 2
  · rw [k3 (by omega), k1]
  · rw [← k1]
    exact ⟨fun z => absurd z.1 q, fun z => absurd z.1 q⟩
theorem semi_cg {c : Int} {z : Pst} (hT : ∀ j, 0 ≤ j → j < L → T j = U j) (hc : 0 ≤ c ∧ c ≤ L) : semi T L c z = semi U L c z := by
  obtain ⟨k1, k2, k3⟩ := tk_cg hT hc
  unfold semi
  rw [k1, k2, tkS_cg hT hc.1]
theorem itm_cg {c : Int} {z : Pst} (hT : ∀ j, 0 ≤ j → j < L → T j = U j) (hc : 0 ≤ c ∧ c ≤ L) : itm T L c z = itm U L c z := by
  obtain ⟨k1, k2, k3⟩ := tk_cg hT hc
  have n1 := nb (T := T) hc
  obtain ⟨j1, j2, j3⟩ := tk_cg hT n1
  have n2 := nb (T := T) n1
  obtain ⟨l1, l2, l3⟩ := tk_cg hT n2
  have n3 := nb (T := T) n2
  have ks := tkS_cg hT hc.1
  have js := tkS_cg hT n1.1
  have ls := tkS_cg hT n2.1
  have a1 : numOk T L (tkN T L c) 0 5 ↔ numOk U L (tkN U L c) 0 5 := by rw [← k2]; exact num_cg hT n1
  have a2 : numOk T L (tkN T L c) 0 9 ↔ numOk U L (tkN U L c) 0 9 := by rw [← k2]; exact num_cg hT n1
  have a3 : numOk T L (tkN T L c) 1 9 ↔ numOk U L (tkN U L c) 1 9 := by rw [← k2]; exact num_cg hT n1
  have a4 : numOk T L (tkN T L c) 0 (z.1 - 1) ↔ numOk U L (tkN U L c) 0 (z.1 - 1) := by rw [← k2]; exact num_cg hT n1
  have a5 : numOk T L (tkN T L (tkN T L c)) 1 5 ↔ numOk U L (tkN U L (tkN U L c)) 1 5 := by rw [← k2, ← j2]; exact num_cg hT n2
  unfold itm item
  rw [← k1, ← ks]
  by_cases ht : tkT T L c = 1
  · rw [if_pos ht, if_pos ht, ← k3 (by omega)]
    by_cases v1 : tkV T L c = 99
    · rw [if_pos v1, if_pos v1]
      unfold itC
      by_cases q : 12 ≤ z.1
      · rw [if_pos q, if_pos q, k2]
      · rw [if_neg q, if_neg q]
        by_cases y : numOk T L (tkN T L c) 0 5
        · rw [if_pos y, if_pos (a1.mp y), ← k2, ← j2, j3 (by omega), semi_cg hT n2]
        · rw [if_neg y, if_neg (fun e => y (a1.mpr e)), ← k2, js]
    · rw [if_neg v1, if_neg v1]
      by_cases v2 : tkV T L c = 107
      · rw [if_pos v2, if_pos v2]
        unfold itK
        by_cases q : 0 ≤ z.2.2.1
        · rw [if_pos q, if_pos q, k2]
        · rw [if_neg q, if_neg q]
          by_cases y : numOk T L (tkN T L c) 0 9
          · rw [if_pos y, if_pos (a2.mp y), ← k2, ← j2, j3 (by omega), semi_cg hT n2]
          · rw [if_neg y, if_neg (fun e => y (a2.mpr e)), ← k2, js]
      · rw [if_neg v2, if_neg v2]
        by_cases v3 : tkV T L c = 100
        · rw [if_pos v3, if_pos v3]
          unfold itD
          by_cases q : 0 ≤ z.2.2.2.1
          · rw [if_pos q, if_pos q, k2]
          · rw [if_neg q, if_neg q]
            by_cases y : numOk T L (tkN T L c) 1 9
            · rw [if_pos y, if_pos (a3.mp y), ← k2, ← j2, j3 (by omega), semi_cg hT n2]
            · rw [if_neg y, if_neg (fun e => y (a3.mpr e)), ← k2, js]
        · rw [if_neg v3, if_neg v3]
          by_cases v4 : tkV T L c = 112
          · rw [if_pos v4, if_pos v4]
            unfold itP
            by_cases q : 6 ≤ z.2.2.2.2.1
            · rw [if_pos q, if_pos q, k2]
            · rw [if_neg q, if_neg q]
              by_cases y : numOk T L (tkN T L c) 0 (z.1 - 1)
              · have y2 := y.1
                have e3 : tkV U L (tkN U L c) = tkV T L (tkN T L c) := by rw [← k2]; exact (j3 (by omega)).symm
                by_cases g : told z.2.2.2.2.2.1 (tkV T L (tkN T L c)) z.2.2.2.2.1.toNat = true
                · rw [if_neg (fun e => e.2 g), if_neg (fun e => e.2 (by rw [e3]; exact g)), ← k2, js]
                · have hu : numOk U L (tkN U L c) 0 (z.1 - 1) ∧ ¬ told z.2.2.2.2.2.1 (tkV U L (tkN U L c)) z.2.2.2.2.1.toNat = true := ⟨a4.mp y, by rw [e3]; exact g⟩
                  have hv : numOk T L (tkN T L c) 0 (z.1 - 1) ∧ ¬ told z.2.2.2.2.2.1 (tkV T L (tkN T L c)) z.2.2.2.2.1.toNat = true := ⟨y, g⟩
                  rw [if_pos hv, if_pos hu]
                  by_cases x : numOk T L (tkN T L (tkN T L c)) 1 5
                  · have x2 := x.1
                    rw [if_pos x, if_pos (a5.mp x), e3, ← k2, ← j2, ← l2, l3 (by omega), semi_cg hT n3]
                  · rw [if_neg x, if_neg (fun e => x (a5.mpr e)), ← k2, ← j2, ls]
              · rw [if_neg (fun e => y e.1), if_neg (fun e => y (a4.mpr e.1)), ← k2, js]
          · rw [if_neg v4, if_neg v4, k2]
  · rw [if_neg ht, if_neg ht, k2]
theorem prs_cg (hT : ∀ j, 0 ≤ j → j < L → T j = U j) : ∀ (k : Nat) (c i : Int) (z : Pst), 0 ≤ c → c ≤ L → OKs z → prs T L k c i z = prs U L k c i z
  | 0, _, _, _, _, _, _ => rfl
  | k + 1, c, i, z, h0, h1, hz => by
    unfold prs
    rw [(tk_cg hT ⟨h0, h1⟩).1, itm_cg hT ⟨h0, h1⟩]
    have h3 := tk_b (T := U) h1
    rcases item_go (T := U) ⟨h0, h1⟩ hz with ⟨g1, g2, g3, g4⟩ | g
    · rw [prs_cg hT k (itm U L c z).2.1 (i + 1) (itm U L c z).2.2 (by omega) g3 g4]
    · rw [if_pos g.1, if_pos g.1]
end TC
