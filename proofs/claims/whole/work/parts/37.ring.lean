/-! rings of debts -/
def mkB (b : Nat → Bool) : Nat → Nat
  | 0 => 0
  | k + 1 => if b k = true then mkB b k ||| 2 ^ k else mkB b k
theorem mkB_lt (b : Nat → Bool) : ∀ n, mkB b n < 2 ^ n
  | 0 => by show 0 < 1; omega
  | k + 1 => by
    have ih := mkB_lt b k
    have h2 : 2 ^ k < 2 ^ (k + 1) := Nat.pow_lt_pow_right (by omega) (by omega)
    unfold mkB
    by_cases hb : b k = true
    · rw [if_pos hb]
      exact Nat.or_lt_two_pow (by omega) h2
    · rw [if_neg hb]
      omega
theorem mkB_t (b : Nat → Bool) (j : Nat) : ∀ n, (mkB b n).testBit j = true ↔ j < n ∧ b j = true
  | 0 => by
    show (0 : Nat).testBit j = true ↔ _
    rw [Nat.zero_testBit]
    constructor
    · intro q; exact absurd q (by decide)
    · intro q; omega
  | k + 1 => by
    have ih := mkB_t b j k
    unfold mkB
    by_cases hb : b k = true
    · rw [if_pos hb, Nat.testBit_or, Nat.testBit_two_pow, Bool.or_eq_true, ih, decide_eq_true_iff]
      constructor
      · rintro (⟨q1, q2⟩ | q)
        · exact ⟨by omega, q2⟩
        · subst q; exact ⟨by omega, hb⟩
      · rintro ⟨q1, q2⟩
        by_cases e : k = j
        · exact Or.inr e
        · exact Or.inl ⟨by omega, q2⟩
    · rw [if_neg hb, ih]
      constructor
      · rintro ⟨q1, q2⟩; exact ⟨by omega, q2⟩
      · rintro ⟨q1, q2⟩
        refine ⟨?_, q2⟩
        by_cases e : j = k
        · subst e; exact absurd q2 hb
        · omega
theorem mkB_congr {b c : Nat → Bool} : ∀ n, (∀ j, j < n → b j = c j) → mkB b n = mkB c n
  | 0, _ => rfl
  | k + 1, h => by
    unfold mkB
    rw [mkB_congr k (fun j hj => h j (by omega)), h k (by omega)]
def stp (D : Nat → Nat) (B R : Nat) : Nat → Nat
  | 0 => R
  | k + 1 => if B.testBit k = true then stp D B R k ||| D k else stp D B R k
theorem stp_t (D : Nat → Nat) (B R s : Nat) : ∀ n, (stp D B R n).testBit s = true ↔ R.testBit s = true ∨ ∃ q, q < n ∧ B.testBit q = true ∧ (D q).testBit s = true
  | 0 => by
    show R.testBit s = true ↔ _
    constructor
    · exact Or.inl
    · rintro (q | ⟨q, q1, _⟩)
      · exact q
      · omega
  | k + 1 => by
    have ih := stp_t D B R s k
    unfold stp
    by_cases hb : B.testBit k = true
    · rw [if_pos hb, Nat.testBit_or, Bool.or_eq_true, ih]
      constructor
      · rintro ((q | ⟨q, q1, q2⟩) | q)
        · exact Or.inl q
        · exact Or.inr ⟨q, by omega, q2⟩
        · exact Or.inr ⟨k, by omega, hb, q⟩
      · rintro (q | ⟨q, q1, q2, q3⟩)
        · exact Or.inl (Or.inl q)
        · by_cases e : q = k
          · subst e; exact Or.inr q3
          · exact Or.inl (Or.inr ⟨q, by omega, q2, q3⟩)
    · rw [if_neg hb, ih]
      constructor
      · rintro (q | ⟨q, q1, q2⟩)
        · exact Or.inl q
        · exact Or.inr ⟨q, by omega, q2⟩
      · rintro (q | ⟨q, q1, q2, q3⟩)
        · exact Or.inl q
        · by_cases e : q = k
          · subst e; exact absurd q2 hb
          · exact Or.inr ⟨q, by omega, q2, q3⟩
theorem stp_lt {D : Nat → Nat} {B R m : Nat} (hR : R < 2 ^ m) (hD : ∀ q, D q < 2 ^ m) : ∀ n, stp D B R n < 2 ^ m
  | 0 => hR
  | k + 1 => by
    have ih := stp_lt (B := B) hR hD k
    unfold stp
    by_cases hb : B.testBit k = true
    · rw [if_pos hb]; exact Nat.or_lt_two_pow ih (hD k)
    · rw [if_neg hb]; exact ih
def rch (D : Nat → Nat) (np p : Nat) : Nat → Nat
  | 0 => D p
  | k + 1 => stp D (rch D np p k) (rch D np p k) np
theorem rch_lt {D : Nat → Nat} {np p m : Nat} (hD : ∀ q, D q < 2 ^ m) : ∀ k, rch D np p k < 2 ^ m
  | 0 => hD p
  | k + 1 => stp_lt (rch_lt hD k) hD np
def dbS (E : Nat → Nat → Bool) (np p : Nat) : Nat := mkB (E p) np
def ringS (E : Nat → Nat → Bool) (np : Nat) : Nat := mkB (fun p => (rch (dbS E np) np p (np - 1)).testBit p) np
/-- a chain by way of those below k -/
def PK (E : Nat → Nat → Bool) : Nat → Nat → Nat → Prop
  | 0, p, q => E p q = true
  | k + 1, p, q => PK E k p q ∨ (PK E k p k ∧ PK E k k q)
theorem PK_k1 {E : Nat → Nat → Bool} {k p : Nat} : PK E (k + 1) p k ↔ PK E k p k := ⟨fun h => h.elim id (fun q => q.1), Or.inl⟩
theorem PK_k2 {E : Nat → Nat → Bool} {k q : Nat} : PK E (k + 1) k q ↔ PK E k k q := ⟨fun h => h.elim id (fun q => q.2), Or.inl⟩
theorem PK_E {E : Nat → Nat → Bool} {p q : Nat} (h : E p q = true) : ∀ k, PK E k p q
  | 0 => h
  | k + 1 => Or.inl (PK_E h k)
theorem PK_tr {E : Nat → Nat → Bool} : ∀ (k p r q : Nat), r < k → PK E k p r → PK E k r q → PK E k p q
  | 0, _, _, _, h, _, _ => absurd h (by omega)
  | k + 1, p, r, q, h, a, b => by
    by_cases e : r = k
    · subst e
      exact Or.inr ⟨PK_k1.mp a, PK_k2.mp b⟩
    · have hr : r < k := by omega
      rcases a with a | ⟨a1, a2⟩
      · rcases b with b | ⟨b1, b2⟩
        · exact Or.inl (PK_tr k p r q hr a b)
        · exact Or.inr ⟨PK_tr k p r k hr a b1, b2⟩
      · rcases b with b | ⟨b1, b2⟩
        · exact Or.inr ⟨a1, PK_tr k k r q hr a2 b⟩
        · exact Or.inr ⟨a1, b2⟩
theorem PK_cl {E : Nat → Nat → Bool} {C : Nat → Prop} {np : Nat} (hc : ∀ r q, r < np → q < np → C r → E r q = true → C q) : ∀ (k p q : Nat), k ≤ np → q < np → (∀ s, s < np → E p s = true → C s) → PK E k p q → C q
  | 0, _, q, _, hq, hs, h => hs q hq h
  | k + 1, p, q, hk, hq, hs, h => by
    rcases h with h | ⟨h1, h2⟩
    · exact PK_cl hc k p q (by omega) hq hs h
    · have hk2 := PK_cl hc k p k (by omega) (by omega) hs h1
      exact PK_cl hc k k q (by omega) hq (fun s s1 s2 => hc k s (by omega) s1 hk2 s2) h2
/-- how many -/
def cnB (b : Nat → Bool) : Nat → Nat
  | 0 => 0
  | k + 1 => (if b k = true then 1 else 0) + cnB b k
theorem cnB_le (b : Nat → Bool) : ∀ n, cnB b n ≤ n
  | 0 => Nat.le_refl _
  | k + 1 => by
    have := cnB_le b k
    unfold cnB
    split <;> omega
theorem cnB_mono {b c : Nat → Bool} (h : ∀ j, b j = true → c j = true) : ∀ n, cnB b n ≤ cnB c n
  | 0 => Nat.le_refl _
  | k + 1 => by
    have := cnB_mono h k
    unfold cnB
    by_cases e : b k = true
    · rw [if_pos e, if_pos (h k e)]; omega
    · rw [if_neg e]; split <;> omega
theorem cnB_lt {b c : Nat → Bool} (h : ∀ j, b j = true → c j = true) {s : Nat} (hb : ¬ b s = true) (hc : c s = true) : ∀ n, s < n → cnB b n + 1 ≤ cnB c n
  | 0, hs => absurd hs (by omega)
  | k + 1, hs => by
    unfold cnB
    by_cases e : s = k
    · subst e
      have := cnB_mono h s
      rw [if_neg hb, if_pos hc]; omega
    · have := cnB_lt h hb hc k (by omega)
      by_cases e : b k = true
      · rw [if_pos e, if_pos (h k e)]; omega
      · rw [if_neg e]; split <;> omega
theorem cnB_full {b : Nat → Bool} : ∀ n, n ≤ cnB b n → ∀ s, s < n → b s = true
  | 0, _, s, hs => absurd hs (by omega)
  | k + 1, h, s, hs => by
    have h1 := cnB_le b k
    unfold cnB at h
    by_cases e : b k = true
    · rw [if_pos e] at h
      by_cases e2 : s = k
      · rw [e2]; exact e
      · exact cnB_full k (by omega) s (by omega)
    · rw [if_neg e] at h; omega
section RG
variable {E : Nat → Nat → Bool} {np p : Nat}
theorem rch_s (k s : Nat) : (rch (dbS E np) np p (k + 1)).testBit s = true ↔ (rch (dbS E np) np p k).testBit s = true ∨ ∃ q, q < np ∧ (rch (dbS E np) np p k).testBit q = true ∧ s < np ∧ E q s = true := by
  show (stp _ _ _ np).testBit s = true ↔ _
  rw [stp_t]
  unfold dbS
  simp only [mkB_t]
theorem rch_up (k s : Nat) (h : (rch (dbS E np) np p k).testBit s = true) : (rch (dbS E np) np p (k + 1)).testBit s = true := (rch_s k s).mpr (Or.inl h)
/-- either closed, or grown -/
theorem rch_gr : ∀ k, (∀ q s, q < np → s < np → (rch (dbS E np) np p k).testBit q = true → E q s = true → (rch (dbS E np) np p k).testBit s = true) ∨ k + 1 ≤ cnB (fun s => (rch (dbS E np) np p k).testBit s) np
  | 0 => by
    by_cases h : ∃ s, s < np ∧ (rch (dbS E np) np p 0).testBit s = true
    · obtain ⟨s, h1, h2⟩ := h
      right
      have := cnB_lt (b := fun _ => false) (c := fun s => (rch (dbS E np) np p 0).testBit s) (fun j q => absurd q (by decide)) (s := s) (by decide) h2 np h1
      omega
    · left
      intro q s hq hs h1 h2
      exact absurd ⟨q, hq, h1⟩ h
  | k + 1 => by
    by_cases h : ∃ s, s < np ∧ (rch (dbS E np) np p (k + 1)).testBit s = true ∧ ¬ (rch (dbS E np) np p k).testBit s = true
    · obtain ⟨s, h1, h2, h3⟩ := h
      rcases rch_gr k with q | q
      · rcases (rch_s k s).mp h2 with a | ⟨r, r1, r2, r3, r4⟩
        · exact absurd a h3
        · exact absurd (q r s r1 r3 r2 r4) h3
      · right
        have := cnB_lt (b := fun s => (rch (dbS E np) np p k).testBit s) (c := fun s => (rch (dbS E np) np p (k + 1)).testBit s) (fun j q => rch_up k j q) (s := s) h3 h2 np h1
        omega
    · left
      intro q s hq hs h1 h2
      have hq2 : (rch (dbS E np) np p k).testBit q = true := Classical.byContradiction (fun z => h ⟨q, hq, h1, z⟩)
      exact (rch_s k s).mpr (Or.inr ⟨q, hq, hq2, hs, h2⟩)
theorem rch_lo (k s : Nat) (h : (rch (dbS E np) np p k).testBit s = true) : s < np := by
  by_cases hs : s < np
  · exact hs
  · have h1 := rch_lt (D := dbS E np) (np := np) (p := p) (m := np) (fun q => mkB_lt _ np) k
    have h2 : rch (dbS E np) np p k < 2 ^ s := Nat.lt_of_lt_of_le h1 (Nat.pow_le_pow_right (by omega) (by omega))
    rw [Nat.testBit_lt_two_pow h2] at h
    exact absurd h (by decide)
theorem rch_cl (hp : p < np) : ∀ q s, q < np → s < np → (rch (dbS E np) np p (np - 1)).testBit q = true → E q s = true → (rch (dbS E np) np p (np - 1)).testBit s = true := by
  rcases rch_gr (E := E) (np := np) (p := p) (np - 1) with h | h
  · exact h
  · intro q s hq hs _ _
    exact cnB_full (b := fun s => (rch (dbS E np) np p (np - 1)).testBit s) np (by omega) s hs
theorem rch_PK (hp : p < np) (q : Nat) (hq : q < np) : (rch (dbS E np) np p (np - 1)).testBit q = true ↔ PK E np p q := by
  constructor
  · have key : ∀ k q, (rch (dbS E np) np p k).testBit q = true → PK E np p q := by
      intro k
      induction k with
      | zero =>
        intro q h
        have h : (mkB (E p) np).testBit q = true := h
        rw [mkB_t] at h
        exact PK_E h.2 np
      | succ k ih =>
        intro q h
        rcases (rch_s k q).mp h with a | ⟨r, r1, r2, r3, r4⟩
        · exact ih q a
        · exact PK_tr np p r q r1 (ih r r2) (PK_E r4 np)
    exact key (np - 1) q
  · intro h
    have up : ∀ k s, (rch (dbS E np) np p 0).testBit s = true → (rch (dbS E np) np p k).testBit s = true := by
      intro k
      induction k with
      | zero => exact fun s h => h
      | succ k ih => exact fun s h => rch_up k s (ih s h)
    refine PK_cl (C := fun s => (rch (dbS E np) np p (np - 1)).testBit s = true) (fun r q r1 q1 c e => rch_cl hp r q r1 q1 c e) np p q (Nat.le_refl _) hq (fun s s1 s2 => ?_) h
    exact up (np - 1) s ((mkB_t (E p) s np).mpr ⟨s1, s2⟩)
/-- any rows whose bits are the chains give the same ring -/
theorem rng_of {F : Nat → Nat} (hF : ∀ p q, p < np → q < np → ((F p).testBit q = true ↔ PK E np p q)) : mkB (fun p => (F p).testBit p) np = ringS E np := by
  unfold ringS
  refine mkB_congr np (fun j hj => ?_)
  have := (hF j j hj hj).trans (rch_PK hj j hj).symm
  exact Bool.eq_iff_iff.mpr this
end RG
def EE (N : Int → Int) (p q : Nat) : Bool := decide (0 < N (16 + (p : Int) * 6 + q))
