/-! what a text tells -/
abbrev Pst := Int × (Int → Int) × Int × Int × Int × (Int → Int) × (Int → Int)
def told (S : Int → Int) (v : Int) : Nat → Bool
  | 0 => false
  | k + 1 => told S v k || (S k == v)
theorem told_iff (S : Int → Int) (v : Int) : ∀ n, told S v n = true ↔ ∃ p : Int, 0 ≤ p ∧ p < n ∧ S p = v
  | 0 => ⟨fun q => absurd (show false = true from q) (by decide), fun ⟨p, h0, h1, _⟩ => by omega⟩
  | k + 1 => by
    have ih := told_iff S v k
    show (told S v k || (S k == v)) = true ↔ _
    rw [Bool.or_eq_true, ih, beq_iff_eq]
    constructor
    · rintro (⟨p, h0, h1, h2⟩ | q)
      · exact ⟨p, h0, by omega, h2⟩
      · exact ⟨k, by omega, by omega, q⟩
    · rintro ⟨p, h0, h1, h2⟩
      by_cases e : p = k
      · rw [e] at h2; exact Or.inr h2
      · exact Or.inl ⟨p, h0, by omega, h2⟩
section PS
variable (T : Int → Int) (L : Int)
abbrev numOk (c lo hi : Int) : Prop := tkT T L c = 2 ∧ lo ≤ tkV T L c ∧ tkV T L c ≤ hi
def semi (c : Int) (z : Pst) : Int × Int × Pst := if tkT T L c = 3 then (-1, tkN T L c, z) else (tkS T L c, c, z)
def itC (s c : Int) (z : Pst) : Int × Int × Pst := if 12 ≤ z.1 then (s, c, z) else if numOk T L c 0 5 then semi T L (tkN T L c) (z.1 + 1, upI z.2.1 z.1 (tkV T L c), z.2.2) else (tkS T L c, c, z)
def itK (s c : Int) (z : Pst) : Int × Int × Pst := if 0 ≤ z.2.2.1 then (s, c, z) else if numOk T L c 0 9 then semi T L (tkN T L c) (z.1, z.2.1, tkV T L c, z.2.2.2) else (tkS T L c, c, z)
def itD (s c : Int) (z : Pst) : Int × Int × Pst := if 0 ≤ z.2.2.2.1 then (s, c, z) else if numOk T L c 1 9 then semi T L (tkN T L c) (z.1, z.2.1, z.2.2.1, tkV T L c, z.2.2.2.2) else (tkS T L c, c, z)
def itP (s c : Int) (z : Pst) : Int × Int × Pst := if 6 ≤ z.2.2.2.2.1 then (s, c, z) else if numOk T L c 0 (z.1 - 1) ∧ ¬ told z.2.2.2.2.2.1 (tkV T L c) z.2.2.2.2.1.toNat = true then (if numOk T L (tkN T L c) 1 5 then semi T L (tkN T L (tkN T L c)) (z.1, z.2.1, z.2.2.1, z.2.2.2.1, z.2.2.2.2.1 + 1, upI z.2.2.2.2.2.1 z.2.2.2.2.1 (tkV T L c), upI z.2.2.2.2.2.2 z.2.2.2.2.1 (tkV T L (tkN T L c))) else (tkS T L (tkN T L c), c, z)) else (tkS T L c, c, z)
def item (s t v c : Int) (z : Pst) : Int × Int × Pst := if t = 1 then (if v = 99 then itC T L s c z else if v = 107 then itK T L s c z else if v = 100 then itD T L s c z else if v = 112 then itP T L s c z else (s, c, z)) else (s, c, z)
abbrev itm (c : Int) (z : Pst) : Int × Int × Pst := item T L (tkS T L c) (tkT T L c) (tkV T L c) (tkN T L c) z
def prs : Nat → Int → Int → Pst → Int × Pst
  | 0, _, _, z => (0, z)
  | k + 1, c, i, z => if tkT T L c = 0 then (i, z) else if 0 ≤ (itm T L c z).1 then (-10 - (itm T L c z).1, z) else prs k (itm T L c z).2.1 (i + 1) (itm T L c z).2.2
end PS
/-- what is told is within bounds -/
def OKs (z : Pst) : Prop := (0 ≤ z.1 ∧ z.1 ≤ 12) ∧ (0 ≤ z.2.2.2.2.1 ∧ z.2.2.2.2.1 ≤ 6) ∧ (-1 ≤ z.2.2.1 ∧ z.2.2.1 ≤ 9) ∧ (-1 ≤ z.2.2.2.1 ∧ z.2.2.2.1 ≤ 9 ∧ z.2.2.2.1 ≠ 0) ∧ (∀ j, 0 ≤ j → j < z.1 → 0 ≤ z.2.1 j ∧ z.2.1 j ≤ 5) ∧ (∀ j, 0 ≤ j → j < z.2.2.2.2.1 → 0 ≤ z.2.2.2.2.2.1 j ∧ z.2.2.2.2.2.1 j < z.1) ∧ (∀ j, 0 ≤ j → j < z.2.2.2.2.1 → 1 ≤ z.2.2.2.2.2.2 j ∧ z.2.2.2.2.2.2 j ≤ 5) ∧ ∀ p q, 0 ≤ p → p < z.2.2.2.2.1 → 0 ≤ q → q < z.2.2.2.2.1 → z.2.2.2.2.2.1 p = z.2.2.2.2.2.1 q → p = q
section PL
variable {T : Int → Int} {L : Int}
theorem semi_f {c : Int} {z : Pst} (hc : 0 ≤ c ∧ c ≤ L) : ((semi T L c z).1 = -1 ∧ c ≤ (semi T L c z).2.1 ∧ (semi T L c z).2.1 ≤ L ∧ (semi T L c z).2.2 = z) ∨ (0 ≤ (semi T L c z).1 ∧ (semi T L c z).1 ≤ L) := by
  have h1 := tk_in (T := T) hc.2
  unfold semi
  by_cases h : tkT T L c = 3
  · rw [if_pos h]; left; exact ⟨rfl, by show c ≤ tkN T L c; omega, by show tkN T L c ≤ L; omega, rfl⟩
  · rw [if_neg h]; right; exact ⟨by show 0 ≤ tkS T L c; omega, by show tkS T L c ≤ L; omega⟩
/-- either told well, or a place of the text -/
def GO (L c : Int) (r : Int × Int × Pst) : Prop := (r.1 = -1 ∧ c ≤ r.2.1 ∧ r.2.1 ≤ L ∧ OKs r.2.2) ∨ (0 ≤ r.1 ∧ r.1 ≤ L)
theorem semi_go {c b : Int} {z : Pst} (hc : 0 ≤ c ∧ c ≤ L) (hb : b ≤ c) (hz : OKs z) : GO L b (semi T L c z) := by
  rcases semi_f (T := T) (z := z) hc with ⟨h1, h2, h3, h4⟩ | h
  · left; exact ⟨h1, by omega, h3, by rw [h4]; exact hz⟩
  · right; exact h
theorem item_go {c : Int} {z : Pst} (hc : 0 ≤ c ∧ c ≤ L) (hz : OKs z) : GO L (tkN T L c) (itm T L c z) := by
  have h1 := tk_in (T := T) hc.2
  have h2 := tk_in (T := T) (L := L) (c := tkN T L c) (by omega)
  have h3 := tk_in (T := T) (L := L) (c := tkN T L (tkN T L c)) (by omega)
  have bad : GO L (tkN T L c) (tkS T L c, tkN T L c, z) := Or.inr ⟨by show 0 ≤ tkS T L c; omega, by show tkS T L c ≤ L; omega⟩
  have bad2 : GO L (tkN T L c) (tkS T L (tkN T L c), tkN T L c, z) := Or.inr ⟨by show 0 ≤ tkS T L (tkN T L c); omega, by show tkS T L (tkN T L c) ≤ L; omega⟩
  have bad3 : GO L (tkN T L c) (tkS T L (tkN T L (tkN T L c)), tkN T L c, z) := Or.inr ⟨by show 0 ≤ tkS T L (tkN T L (tkN T L c)); omega, by show tkS T L (tkN T L (tkN T L c)) ≤ L; omega⟩
  obtain ⟨n, P, k, d, np, S, Wt⟩ := z
  obtain ⟨z1, z2, z3, z4, z5, z6, z7, z8⟩ := hz
  dsimp only at z1 z2 z3 z4 z5 z6 z7 z8
  unfold itm item
  by_cases ht : tkT T L c = 1
  · rw [if_pos ht]
    by_cases v1 : tkV T L c = 99
    · rw [if_pos v1]
      unfold itC
      dsimp only
      by_cases q : 12 ≤ n
      · rw [if_pos q]; exact bad
      · rw [if_neg q]
        by_cases w : numOk T L (tkN T L c) 0 5
        · rw [if_pos w]
          obtain ⟨w1, w2, w3⟩ := w
          refine semi_go ⟨by omega, by omega⟩ (by omega) ⟨by dsimp only; omega, z2, z3, z4, fun j j0 j1 => ?_, fun j j0 j1 => ?_, z7, z8⟩
          · dsimp only at j1 ⊢
            by_cases e : j = n
            · rw [e, upI_eq]; omega
            · rw [upI_ne e]; exact z5 j j0 (by omega)
          · dsimp only at j1 ⊢
            have := z6 j j0 j1; omega
        · rw [if_neg w]; exact bad2
    · rw [if_neg v1]
      by_cases v2 : tkV T L c = 107
      · rw [if_pos v2]
        unfold itK
        dsimp only
        by_cases q : 0 ≤ k
        · rw [if_pos q]; exact bad
        · rw [if_neg q]
          by_cases w : numOk T L (tkN T L c) 0 9
          · rw [if_pos w]
            obtain ⟨w1, w2, w3⟩ := w
            exact semi_go ⟨by omega, by omega⟩ (by omega) ⟨z1, z2, by dsimp only; omega, z4, z5, z6, z7, z8⟩
          · rw [if_neg w]; exact bad2
      · rw [if_neg v2]
        by_cases v3 : tkV T L c = 100
        · rw [if_pos v3]
          unfold itD
          dsimp only
          by_cases q : 0 ≤ d
          · rw [if_pos q]; exact bad
          · rw [if_neg q]
            by_cases w : numOk T L (tkN T L c) 1 9
            · rw [if_pos w]
              obtain ⟨w1, w2, w3⟩ := w
              exact semi_go ⟨by omega, by omega⟩ (by omega) ⟨z1, z2, z3, by dsimp only; omega, z5, z6, z7, z8⟩
            · rw [if_neg w]; exact bad2
        · rw [if_neg v3]
          by_cases v4 : tkV T L c = 112
          · rw [if_pos v4]
            unfold itP
            dsimp only
            by_cases q : 6 ≤ np
            · rw [if_pos q]; exact bad
            · rw [if_neg q]
              by_cases w : numOk T L (tkN T L c) 0 (n - 1) ∧ ¬ told S (tkV T L (tkN T L c)) np.toNat = true
              · rw [if_pos w]
                by_cases u : numOk T L (tkN T L (tkN T L c)) 1 5
                · rw [if_pos u]
                  obtain ⟨⟨w1, w2, w3⟩, w4⟩ := w
                  obtain ⟨u1, u2, u3⟩ := u
                  have w5 : ∀ p, 0 ≤ p → p < np → S p ≠ tkV T L (tkN T L c) := fun p p0 p1 e => w4 ((told_iff _ _ _).mpr ⟨p, p0, by omega, e⟩)
                  refine semi_go ⟨by omega, by omega⟩ (by omega) ⟨z1, by dsimp only; omega, z3, z4, z5, fun j j0 j1 => ?_, fun j j0 j1 => ?_, fun p q p0 p1 q0 q1 e => ?_⟩
                  · dsimp only at j1 ⊢
                    by_cases e : j = np
                    · rw [e, upI_eq]; omega
                    · rw [upI_ne e]; exact z6 j j0 (by omega)
                  · dsimp only at j1 ⊢
                    by_cases e : j = np
                    · rw [e, upI_eq]; omega
                    · rw [upI_ne e]; exact z7 j j0 (by omega)
                  · dsimp only at p1 q1 e
                    by_cases e1 : p = np
                    · by_cases e2 : q = np
                      · omega
                      · rw [e1, upI_eq, upI_ne e2] at e
                        exact absurd e.symm (w5 q q0 (by omega))
                    · by_cases e2 : q = np
                      · rw [e2, upI_eq, upI_ne e1] at e
                        exact absurd e (w5 p p0 (by omega))
                      · rw [upI_ne e1, upI_ne e2] at e
                        exact z8 p q p0 (by omega) q0 (by omega) e
                · rw [if_neg u]; exact bad3
              · rw [if_neg w]; exact bad2
          · rw [if_neg v4]; exact bad
  · rw [if_neg ht]; exact bad
theorem prs_go : ∀ (k : Nat) (c i : Int) (z : Pst), 0 ≤ c → c ≤ L → L - c < k → 0 ≤ i → OKs z → (prs T L k c i z).1 ≤ -10 ∨ (0 ≤ (prs T L k c i z).1 ∧ OKs (prs T L k c i z).2)
  | 0, c, i, z, h0, h1, h2, _, _ => by omega
  | k + 1, c, i, z, h0, h1, h2, hi, hz => by
    have h3 := tk_in (T := T) h1
    unfold prs
    by_cases ht : tkT T L c = 0
    · rw [if_pos ht]; right; exact ⟨hi, hz⟩
    · rw [if_neg ht]
      rcases item_go (T := T) ⟨h0, h1⟩ hz with ⟨g1, g2, g3, g4⟩ | g
      · rw [if_neg (by omega)]
        exact prs_go k _ _ _ (by omega) g3 (by omega) (by omega) g4
      · rw [if_pos g.1]; left; show -10 - (itm T L c z).1 ≤ -10; omega
end PL
