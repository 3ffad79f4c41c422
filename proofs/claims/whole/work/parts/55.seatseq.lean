/-! seats: both sides seat all alike -/
theorem sumF6 (F : Int → Int) : sumF F 6 = F 0 + F 1 + F 2 + F 3 + F 4 + F 5 := by simp [sumF]
theorem mS6 (F W : Int → Int) : mS F W = min (F 0) (W 0) + min (F 1) (W 1) + min (F 2) (W 2) + min (F 3) (W 3) + min (F 4) (W 4) + min (F 5) (W 5) := by unfold mS; rw [sumF6]
theorem sumF_cg {f g : Int → Int} : ∀ n : Nat, (∀ j : Int, 0 ≤ j → j < n → f j = g j) → sumF f n = sumF g n
  | 0, _ => rfl
  | k + 1, h => by
    show sumF f k + f k = sumF g k + g k
    rw [sumF_cg k (fun j j0 j1 => h j j0 (by omega)), h k (by omega) (by omega)]
theorem sumF_ex {b : Int → Prop} [∀ s, Decidable (b s)] : ∀ n : Nat, 1 ≤ sumF (fun s => zb (b s)) n → ∃ s : Int, 0 ≤ s ∧ s < n ∧ b s
  | 0, h => by have h : (1 : Int) ≤ 0 := h; omega
  | k + 1, h => by
    have h : 1 ≤ sumF (fun s => zb (b s)) k + zb (b k) := h
    by_cases q : b k
    · exact ⟨k, by omega, by omega, q⟩
    · rw [zb_f q] at h
      obtain ⟨s, s0, s1, s2⟩ := sumF_ex (b := b) k (by omega)
      exact ⟨s, s0, by omega, s2⟩
theorem sumF_nn {f : Int → Int} (h : ∀ j, 0 ≤ f j) : ∀ n : Nat, 0 ≤ sumF f n
  | 0 => Int.le_refl _
  | k + 1 => by
    have := sumF_nn h k
    have := h k
    show 0 ≤ sumF f k + f k
    omega
theorem cF_all {f : Int → Int} : ∀ n : Nat, (∀ j : Int, 0 ≤ j → j < n → 0 ≤ f j ∧ f j ≤ 5) → sumF (fun c => cF f c n) 6 = n
  | 0, _ => by rw [sumF6]; rfl
  | k + 1, h => by
    have ih := cF_all k (fun j j0 j1 => h j j0 (by omega))
    have hk := h k (by omega) (by omega)
    have e : ∀ c, cF f c (k + 1) = cF f c k + zb (f k = c) := fun c => rfl
    rw [sumF6] at ih ⊢
    simp only [e]
    unfold zb
    rcases (show f k = 0 ∨ f k = 1 ∨ f k = 2 ∨ f k = 3 ∨ f k = 4 ∨ f k = 5 by omega) with q | q | q | q | q | q <;> rw [q] <;> simp <;> omega
theorem cF_mono {f : Int → Int} {c : Int} {m : Nat} : ∀ k, cF f c m ≤ cF f c (m + k)
  | 0 => Int.le_refl _
  | k + 1 => by
    have := cF_mono (f := f) (c := c) (m := m) k
    have e : cF f c (m + (k + 1)) = cF f c (m + k) + zb (f ((m + k : Nat) : Int) = c) := rfl
    have := zb_01 (f ((m + k : Nat) : Int) = c)
    omega
def uF (T : Nat) (f : Int → Int) (c : Int) (n : Nat) : Int := sumF (fun s => zb (¬ T.testBit s.toNat = true ∧ f s = c)) n
theorem uF_0 {f : Int → Int} {c : Int} (n : Nat) : uF 0 f c n = cF f c n := by
  unfold uF cF
  refine sumF_cg n (fun j j0 j1 => zb_eq ?_)
  rw [Nat.zero_testBit]
  exact ⟨fun q => q.2, fun q => ⟨by decide, q⟩⟩
theorem uF_up {T : Nat} {f : Int → Int} {c r : Int} (hr : 0 ≤ r) (ht : ¬ T.testBit r.toNat = true) : ∀ n : Nat, uF (T ||| 2 ^ r.toNat) f c n = uF T f c n - (if r < n then zb (f r = c) else 0)
  | 0 => by rw [if_neg (by omega)]; rfl
  | k + 1 => by
    have ih := uF_up (c := c) (f := f) hr ht k
    have e1 : uF (T ||| 2 ^ r.toNat) f c (k + 1) = uF (T ||| 2 ^ r.toNat) f c k + zb (¬ (T ||| 2 ^ r.toNat).testBit (k : Int).toNat = true ∧ f k = c) := rfl
    have e2 : uF T f c (k + 1) = uF T f c k + zb (¬ T.testBit (k : Int).toNat = true ∧ f k = c) := rfl
    rw [e1, e2, ih]
    by_cases q : r = k
    · subst q
      rw [if_neg (by omega), if_pos (by omega), zb_f (fun z => z.1 (by rw [Nat.testBit_or, Nat.testBit_two_pow_self, Bool.or_true])), zb_eq (show (¬ T.testBit (k : Int).toNat = true ∧ f k = c) ↔ f k = c from ⟨fun z => z.2, fun z => ⟨ht, z⟩⟩)]
      omega
    · have e3 : (T ||| 2 ^ r.toNat).testBit (k : Int).toNat = T.testBit (k : Int).toNat := by
        rw [Nat.testBit_or, Nat.testBit_two_pow, decide_eq_false (by omega), Bool.or_false]
      rw [e3]
      by_cases q2 : r < k
      · rw [if_pos q2, if_pos (by omega)]; omega
      · rw [if_neg q2, if_neg (by omega)]; omega
theorem lstU_ge {b : Int → Bool} {a : Int} : ∀ (k : Nat) (i s : Int), i ≤ s → s < i + k → b s = true → i ≤ lstU b a k i
  | 0, i, s, h0, h1, _ => by omega
  | k + 1, i, s, h0, h1, hb => by
    show i ≤ if b i then i else lstU b a k (i + 1)
    by_cases q : b i = true
    · rw [if_pos q]; omega
    · rw [if_neg q]
      have hs : s ≠ i := fun e => q (by rw [← e]; exact hb)
      have := lstU_ge (a := a) k (i + 1) s (by omega) (by omega) hb
      omega
theorem six {d : Int} (h : 0 ≤ d ∧ d ≤ 5) : d = 0 ∨ d = 1 ∨ d = 2 ∨ d = 3 ∨ d = 4 ∨ d = 5 := by omega
theorem mS_A {F W : Int → Int} {k : Int} (hk : 0 ≤ k ∧ k ≤ 5) (hF : 1 ≤ F k) (hW : 1 ≤ W k) : 1 + mS (dec F k) (dec W k) = mS F W := by
  rw [mS6, mS6]
  unfold dec
  rcases six hk with q | q | q | q | q | q <;> subst q <;> simp <;> omega
theorem mS_W {F W : Int → Int} {k : Int} (hk : 0 ≤ k ∧ k ≤ 5) (hF : F k = 0) (hW : 1 ≤ W k) : mS F (dec W k) = mS F W := by
  rw [mS6, mS6]
  unfold dec
  rcases six hk with q | q | q | q | q | q <;> subst q <;> simp <;> omega
theorem mS_F {F W : Int → Int} {d : Int} (hd : 0 ≤ d ∧ d ≤ 5) (hF : W d < F d) : mS (dec F d) W = mS F W := by
  rw [mS6, mS6]
  unfold dec
  rcases six hd with q | q | q | q | q | q <;> subst q <;> simp <;> omega
theorem sum_dec {F : Int → Int} {d : Int} (hd : 0 ≤ d ∧ d ≤ 5) : sumF (dec F d) 6 = sumF F 6 - 1 := by
  rw [sumF6, sumF6]
  unfold dec
  rcases six hd with q | q | q | q | q | q <;> subst q <;> simp <;> omega
section SE
variable {f Wt : Int → Int} {n np : Int}
def InvS (f Wt : Int → Int) (n np : Int) (m : Nat) (s : zSt) : Prop := (∀ c, 0 ≤ c → c ≤ 5 → s.1 c = uF s.2.2.1 f c n.toNat) ∧ (∀ c, s.2.1 c = cF Wt c np.toNat - cF Wt c m) ∧ sumF s.1 6 = n - m ∧ s.2.2.2.1 = mS s.1 s.2.1
theorem rS_ok (hn : 0 ≤ n) (hnp : 0 ≤ np ∧ np ≤ n) (hf : ∀ j, 0 ≤ j → j < n → 0 ≤ f j ∧ f j ≤ 5) (hW : ∀ j, 0 ≤ j → j < np → 0 ≤ Wt j ∧ Wt j ≤ 5) {m : Nat} (hm : (m : Int) < np) {s : zSt} (hI : InvS f Wt n np m s) : 0 ≤ rS f Wt n m s := by
  obtain ⟨i1, i2, i3, i4⟩ := hI
  have hk := hW m (by omega) hm
  have hWk : 1 ≤ s.2.1 (Wt m) := by
    rw [i2]
    have e : cF Wt (Wt m) (m + 1) = cF Wt (Wt m) m + zb (Wt m = Wt m) := rfl
    rw [zb_t rfl] at e
    have := cF_mono (f := Wt) (c := Wt m) (m := m + 1) (np.toNat - (m + 1))
    rw [show m + 1 + (np.toNat - (m + 1)) = np.toNat by omega] at this
    omega
  have hFn : ∀ c, 0 ≤ c → c ≤ 5 → 0 ≤ s.1 c := fun c c0 c1 => by
    rw [i1 c c0 c1]
    exact sumF_nn (fun j => by have := zb_01 (¬ s.2.2.1.testBit j.toNat = true ∧ f j = c); omega) _
  have hSW : sumF s.2.1 6 = np - m := by
    have a1 := cF_all (f := Wt) np.toNat (fun j j0 j1 => hW j j0 (by omega))
    have a2 := cF_all (f := Wt) m (fun j j0 j1 => hW j j0 (by omega))
    rw [sumF6] at a1 a2 ⊢
    simp only [i2]
    omega
  have key : ∃ d, (0 ≤ d ∧ d ≤ 5) ∧ 1 ≤ s.1 d ∧ zb (d = Wt m) + mS (dec s.1 d) (dec s.2.1 (Wt m)) = mS s.1 s.2.1 := by
    by_cases q : 1 ≤ s.1 (Wt m)
    · exact ⟨Wt m, hk, q, by rw [zb_t rfl]; exact mS_A hk q hWk⟩
    · have q0 : s.1 (Wt m) = 0 := by have := hFn _ hk.1 hk.2; omega
      have hd : ∃ d, (0 ≤ d ∧ d ≤ 5) ∧ s.2.1 d < s.1 d := by
        refine Classical.byContradiction (fun hno => ?_)
        have a : ∀ d, 0 ≤ d → d ≤ 5 → s.1 d ≤ s.2.1 d := fun d d0 d1 => by
          refine Classical.byContradiction (fun z => hno ⟨d, ⟨d0, d1⟩, by omega⟩)
        have b0 := a 0 (by omega) (by omega)
        have b1 := a 1 (by omega) (by omega)
        have b2 := a 2 (by omega) (by omega)
        have b3 := a 3 (by omega) (by omega)
        have b4 := a 4 (by omega) (by omega)
        have b5 := a 5 (by omega) (by omega)
        rw [sumF6] at i3 hSW
        rcases six hk with e | e | e | e | e | e <;> rw [e] at q0 hWk <;> omega
      obtain ⟨d, d1, d2⟩ := hd
      have hne : d ≠ Wt m := fun e => by rw [e] at d2; omega
      have h0 : 0 ≤ s.2.1 d := by
        rw [i2]
        have := cF_mono (f := Wt) (c := d) (m := m) (np.toNat - m)
        rw [show m + (np.toNat - m) = np.toNat by omega] at this
        omega
      refine ⟨d, d1, by omega, ?_⟩
      rw [zb_f hne, mS_F d1 (by unfold dec; rw [if_neg hne]; exact d2), mS_W hk q0 hWk]
      omega
  obtain ⟨d, d1, d2, d3⟩ := key
  rw [i1 d d1.1 d1.2] at d2
  obtain ⟨r, r0, r1, r2, r3⟩ := sumF_ex (b := fun j => ¬ s.2.2.1.testBit j.toNat = true ∧ f j = d) n.toNat d2
  unfold rS
  refine lstU_ge n.toNat 0 r r0 (by omega) ?_
  unfold prS
  rw [Bool.and_eq_true, Bool.not_eq_true', beq_iff_eq, r3]
  exact ⟨Bool.eq_false_iff.mpr r2, by rw [i4]; exact d3⟩
theorem st_eq (hn : 0 ≤ n) (hnp : 0 ≤ np ∧ np ≤ n) (hf : ∀ j, 0 ≤ j → j < n → 0 ≤ f j ∧ f j ≤ 5) (hW : ∀ j, 0 ≤ j → j < np → 0 ≤ Wt j ∧ Wt j ≤ 5) {m : Nat} (hm : (m : Int) < np) {s : zSt} (hI : InvS f Wt n np m s) : stX f Wt n m s = stM f Wt n m s ∧ InvS f Wt n np (m + 1) (stX f Wt n m s) := by
  have h0 := rS_ok hn hnp hf hW hm hI
  have hne : ¬ rS f Wt n m s = -9 := by omega
  have hin := lstU_in (prS s.1 (dec s.2.1 (Wt m)) s.2.2.1 s.2.2.2.1 (Wt m) f) n.toNat (-9) 0
  have hr : rS f Wt n m s = lstU (prS s.1 (dec s.2.1 (Wt m)) s.2.2.1 s.2.2.2.1 (Wt m) f) (-9) n.toNat 0 := rfl
  rw [← hr] at hin
  have e1 : stX f Wt n m s = (dec s.1 (f (rS f Wt n m s)), dec s.2.1 (Wt m), s.2.2.1 ||| 2 ^ (rS f Wt n m s).toNat, s.2.2.2.1 - zb (f (rS f Wt n m s) = Wt m), fun j => if j = (m : Int) then rS f Wt n m s else s.2.2.2.2 j) := by
    unfold stX; simp only [if_neg hne]
  have e2 : stM f Wt n m s = (dec s.1 (f (rS f Wt n m s)), dec s.2.1 (Wt m), s.2.2.1 ||| 2 ^ (rS f Wt n m s).toNat, s.2.2.2.1 - zb (f (rS f Wt n m s) = Wt m), fun j => if j = (m : Int) then rS f Wt n m s else s.2.2.2.2 j) := by
    unfold stM; simp only [if_neg hne]
  refine ⟨e1.trans e2.symm, ?_⟩
  rw [e1]
  generalize rS f Wt n m s = r at *
  rcases hin with hq | ⟨_, g1, g2⟩
  · omega
  obtain ⟨i1, i2, i3, i4⟩ := hI
  unfold prS at g2
  rw [Bool.and_eq_true, Bool.not_eq_true', beq_iff_eq] at g2
  have hb := hf r h0 (by omega)
  refine ⟨fun c c0 c1 => ?_, fun c => ?_, ?_, ?_⟩
  · show dec s.1 (f r) c = uF (s.2.2.1 ||| 2 ^ r.toNat) f c n.toNat
    rw [uF_up h0 (Bool.eq_false_iff.mp g2.1), if_pos (by omega), ← i1 c c0 c1]
    unfold dec
    by_cases q : c = f r
    · rw [if_pos q, zb_t q.symm]
    · rw [if_neg q, zb_f (fun z => q z.symm)]; omega
  · show dec s.2.1 (Wt m) c = _
    have e : cF Wt c (m + 1) = cF Wt c m + zb (Wt m = c) := rfl
    rw [e]
    unfold dec
    rw [i2]
    by_cases q : c = Wt m
    · rw [if_pos q, zb_t q.symm]; omega
    · rw [if_neg q, zb_f (fun z => q z.symm)]; omega
  · show sumF (dec s.1 (f r)) 6 = _
    rw [sum_dec hb, i3]; omega
  · show s.2.2.2.1 - zb (f r = Wt m) = mS (dec s.1 (f r)) (dec s.2.1 (Wt m))
    have := g2.2
    omega
theorem se_eq (hn : 0 ≤ n) (hnp : 0 ≤ np ∧ np ≤ n) (hf : ∀ j, 0 ≤ j → j < n → 0 ≤ f j ∧ f j ≤ 5) (hW : ∀ j, 0 ≤ j → j < np → 0 ≤ Wt j ∧ Wt j ≤ 5) : ∀ m : Nat, (m : Int) ≤ np → seX f Wt n np m = seM f Wt n np m ∧ InvS f Wt n np m (seX f Wt n np m)
  | 0, _ => by
    refine ⟨rfl, fun c c0 c1 => ?_, fun c => ?_, ?_, rfl⟩
    · exact (uF_0 n.toNat).symm
    · show cF Wt c np.toNat = cF Wt c np.toNat - 0
      omega
    · show sumF (fun c => cF f c n.toNat) 6 = n - (0 : Nat)
      rw [cF_all n.toNat (fun j j0 j1 => hf j j0 (by omega))]
      omega
  | m + 1, h => by
    obtain ⟨h1, h2⟩ := se_eq hn hnp hf hW m (by omega)
    obtain ⟨g1, g2⟩ := st_eq hn hnp hf hW (m := m) (by omega) h2
    refine ⟨?_, g2⟩
    show stX f Wt n m (seX f Wt n np m) = stM f Wt n m (seM f Wt n np m)
    rw [← h1]
    exact g1
/-- those who stand on spots of their own are no more than spots -/
theorem np_le {N : Int → Int} (hR : RowOK n np N) (hn : 0 ≤ n) (hnp : 0 ≤ np) : np ≤ n := by
  have key : ∀ m : Nat, (m : Int) ≤ np → ∃ b : Nat → Bool, cnB b n.toNat = m ∧ ∀ s : Nat, b s = true → ∃ p : Int, 0 ≤ p ∧ p < m ∧ N (4 + p) = s := by
    intro m
    induction m with
    | zero =>
      intro _
      refine ⟨fun _ => false, ?_, fun s q => absurd (show false = true from q) (by decide)⟩
      have : ∀ k, cnB (fun _ => false) k = 0 := by
        intro k
        induction k with
        | zero => rfl
        | succ k ih => unfold cnB; rw [ih]; rfl
      exact this _
    | succ m ih =>
      intro hm
      obtain ⟨b, b1, b2⟩ := ih (by omega)
      have hs := hR.hs (p := m) (by omega) (by omega)
      have hnew : ¬ b (N (4 + m)).toNat = true := fun q => by
        obtain ⟨p, p0, p1, p2⟩ := b2 _ q
        have := hR.hi p0 (by omega) (by omega : (0 : Int) ≤ m) (by omega) (by rw [p2]; omega)
        omega
      refine ⟨fun s => b s || decide (s = (N (4 + m)).toNat), ?_, fun s q => ?_⟩
      · have cnt : ∀ k, cnB (fun s => b s || decide (s = (N (4 + m)).toNat)) k = cnB b k + if (N (4 + m)).toNat < k then 1 else 0 := by
          intro k
          induction k with
          | zero => rfl
          | succ k ih2 =>
            unfold cnB
            rw [ih2]
            by_cases e : k = (N (4 + m)).toNat
            · subst e
              rw [if_neg hnew]
              simp
              omega
            · rw [show (b k || decide (k = (N (4 + m)).toNat)) = b k by rw [decide_eq_false e, Bool.or_false]]
              by_cases q : (N (4 + m)).toNat < k
              · rw [if_pos q, if_pos (show (N (4 + m)).toNat < k + 1 by omega)]; omega
              · rw [if_neg q, if_neg (show ¬ (N (4 + m)).toNat < k + 1 by omega)]; omega
        rw [cnt, b1, if_pos (by omega)]
      · rw [Bool.or_eq_true, decide_eq_true_iff] at q
        rcases q with q | q
        · obtain ⟨p, p0, p1, p2⟩ := b2 s q
          exact ⟨p, p0, by omega, p2⟩
        · exact ⟨m, by omega, by omega, by omega⟩
  obtain ⟨b, b1, _⟩ := key np.toNat (by omega)
  have := cnB_le b n.toNat
  omega
end SE
