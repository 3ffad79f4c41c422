/-! what agrees within range gives the same answers -/
theorem iter_cg {α : Type} {f g : Int → α → α} {a : α} : ∀ m : Nat, (∀ (i : Int) (s : α), 0 ≤ i → i < m → f i s = g i s) → iter f a m = iter g a m
  | 0, _ => rfl
  | k + 1, h => by
    show f k (iter f a k) = g k (iter g a k)
    rw [iter_cg k (fun i s i0 i1 => h i s i0 (by omega)), h k _ (by omega) (by omega)]
theorem allF_cg {b c : Int → Bool} : ∀ m : Nat, (∀ j : Int, 0 ≤ j → j < m → b j = c j) → allF b m = allF c m
  | 0, _ => rfl
  | k + 1, h => by
    show (allF b k && b k) = (allF c k && c k)
    rw [allF_cg k (fun j j0 j1 => h j j0 (by omega)), h k (by omega) (by omega)]
theorem lstU_cg {b c : Int → Bool} {a : Int} : ∀ (k : Nat) (i : Int), (∀ j : Int, i ≤ j → j < i + k → b j = c j) → lstU b a k i = lstU c a k i
  | 0, _, _ => rfl
  | k + 1, i, h => by
    show (if b i then i else lstU b a k (i + 1)) = (if c i then i else lstU c a k (i + 1))
    rw [lstU_cg k (i + 1) (fun j j0 j1 => h j (by omega) (by omega)), h i (by omega) (by omega)]
/-- the data of both sides -/
def EqD (h : zH) (w : Nat) : Prop := h w 3 = h 39 0 ∧ h w 4 = h 39 4 ∧ h w 5 = h 39 2 ∧ h w 6 = h 39 3 ∧ (∀ j, 0 ≤ j → j < h 39 0 → px h w j = pm h j) ∧ (∀ j, 0 ≤ j → j < h 39 4 → wx h w j = wm h j) ∧ ∀ c, 0 ≤ c → c < 52 → nw h c = nm h c
section CG
variable {P P' N N' : Int → Int} {n np : Int}
theorem shd_cg {tt k d s v : Int} (hP : ∀ j, 0 ≤ j → j < n → P j = P' j) : shd P n tt k d s v = shd P' n tt k d s v := by
  unfold shd
  by_cases q : 0 < n
  · rw [if_pos q, if_pos q]
    have := emod_in (x := s + tt + clk v k d) q
    exact hP _ this.1 this.2
  · rw [if_neg q, if_neg q]
theorem col_cg {p : Int} (hn : 0 < n) (hp : 0 ≤ p ∧ p ≤ 5) (hP : ∀ j, 0 ≤ j → j < n → P j = P' j) (hN : ∀ c, 0 ≤ c → c < 52 → N c = N' c) : col P N n p = col P' N' n p := by
  unfold col
  rw [hN 2 (by omega) (by omega), hN (4 + p) (by omega) (by omega), hN 0 (by omega) (by omega), hN 1 (by omega) (by omega)]
  have := emod_in (x := N' (4 + p) + (N' 0 + N' 1)) hn
  rw [hP _ this.1 this.2]
theorem who_cg {s : Int} (hnp : np ≤ 6) (hN : ∀ c, 0 ≤ c → c < 52 → N c = N' c) : whoX N np s = whoX N' np s := by
  unfold whoX
  exact lstU_cg _ _ (fun j j0 j1 => by rw [hN (4 + j) (by omega) (by omega)])
theorem whoM_cg {s : Int} (hnp : np ≤ 6) (hN : ∀ c, 0 ≤ c → c < 52 → N c = N' c) : whoM N np s = whoM N' np s := by
  unfold whoM
  have key : ∀ m : Nat, (m : Int) ≤ 6 → lastF (fun p => N (4 + p) == s) (-9) m = lastF (fun p => N' (4 + p) == s) (-9) m := by
    intro m
    induction m with
    | zero => exact fun _ => rfl
    | succ m ih =>
      intro hm
      unfold lastF
      rw [ih (by omega), hN (4 + m) (by omega) (by omega)]
  exact key _ (by omega)
theorem ow_cg {p : Int} (hp : 0 ≤ p ∧ p ≤ 5) (hnp : np ≤ 6) (hN : ∀ c, 0 ≤ c → c < 52 → N c = N' c) : sumF (owF N p) np.toNat = sumF (owF N' p) np.toNat := by
  refine sumF_cg _ (fun j j0 j1 => ?_)
  unfold owF
  exact hN _ (by omega) (by omega)
theorem alk_cg {P P' : Int → Int} {n : Int} (hP : ∀ j, 0 ≤ j → j < n → P j = P' j) : lstU (fun t => allF (alk P n t) n.toNat) (-9) n.toNat 1 = lstU (fun t => allF (alk P' n t) n.toNat) (-9) n.toNat 1 := by
  refine lstU_cg _ _ (fun t t0 t1 => allF_cg _ (fun j j0 j1 => ?_))
  unfold alk rnd
  have := emod_in (x := j + t) (n := n) (by omega)
  rw [if_pos (by omega), hP j j0 (by omega), hP _ this.1 this.2]
theorem stp_cg {D D' : Nat → Nat} {B R : Nat} : ∀ m, (∀ q, q < m → D q = D' q) → stp D B R m = stp D' B R m
  | 0, _ => rfl
  | k + 1, h => by
    unfold stp
    rw [stp_cg k (fun q hq => h q (by omega)), h k (by omega)]
theorem ring_cg (hnp : 0 ≤ np ∧ np ≤ 6) (hN : ∀ c, 0 ≤ c → c < 52 → N c = N' c) : ringS (EE N) np.toNat = ringS (EE N') np.toNat := by
  have hE : ∀ p q : Nat, p < np.toNat → q < np.toNat → EE N p q = EE N' p q := fun p q hp hq => by
    unfold EE; rw [hN _ (by omega) (by omega)]
  have hD : ∀ p, p < np.toNat → dbS (EE N) np.toNat p = dbS (EE N') np.toNat p := fun p hp => mkB_congr _ (fun j hj => hE p j hp hj)
  unfold ringS
  refine mkB_congr _ (fun p hp => ?_)
  have key : ∀ k, rch (dbS (EE N) np.toNat) np.toNat p k = rch (dbS (EE N') np.toNat) np.toNat p k := by
    intro k
    induction k with
    | zero => exact hD p hp
    | succ k ih =>
      show stp _ _ _ _ = stp _ _ _ _
      rw [ih]
      exact stp_cg _ hD
  rw [key]
theorem seX_cg {f Wt Wt' : Int → Int} (hnp : 0 ≤ np) (hW : ∀ j, 0 ≤ j → j < np → Wt j = Wt' j) : seX f Wt n np np.toNat = seX f Wt' n np np.toNat := by
  have h0 : st0 f Wt n np = st0 f Wt' n np := by
    unfold st0
    have : (fun c => cF Wt c np.toNat) = fun c => cF Wt' c np.toNat := by
      funext c
      exact sumF_cg _ (fun j j0 j1 => by rw [hW j j0 (by omega)])
    rw [this]
  unfold seX
  rw [h0]
  refine iter_cg _ (fun i s i0 i1 => ?_)
  unfold stX rS
  rw [hW i i0 (by omega)]
theorem snB_cg {g : Int → Int → Int} {f1 f2 e1 e2 : Int → Int} {sz : Int} (h1 : ∀ j, 0 ≤ j → j < sz → f1 j = e1 j) (h2 : ∀ j, 0 ≤ j → j < sz → f2 j = e2 j) : snB g f1 f2 sz = snB g e1 e2 sz := by
  funext v
  refine allF_cg _ (fun j j0 j1 => ?_)
  rw [h1 j j0 (by omega), h2 j j0 (by omega)]
theorem hdB_cg {f1 f2 e1 e2 : Int → Int} {sz : Int} (h1 : ∀ j, 0 ≤ j → j < sz → f1 j = e1 j) (h2 : ∀ j, 0 ≤ j → j < sz → f2 j = e2 j) : hdB f1 f2 sz = hdB e1 e2 sz := by
  funext k d
  refine allF_cg _ (fun j j0 j1 => ?_)
  rw [h1 j j0 (by omega), h2 j j0 (by omega)]
theorem spF_cg {g : Int → Int → Int} {p c v : Int} (hp : 0 ≤ p ∧ p ≤ 5) (hnp : np ≤ 6) (hN : ∀ c, 0 ≤ c → c < 52 → N c = N' c) (m : Nat) : spF N g np n p c v m = spF N' g np n p c v m := by
  unfold spF
  refine iter_cg _ (fun i s i0 i1 => ?_)
  unfold stS
  rw [who_cg hnp hN, hN (4 + p) (by omega) (by omega)]
end CG
theorem EqD.g {h : zH} {w : Nat} (e : EqD h w) : gx h w = gm h := by
  obtain ⟨e1, e2, e3, e4, e5, e6, e7⟩ := e
  funext s v
  unfold gx gm
  rw [e1, e3, e4, e7 0 (by omega) (by omega), e7 1 (by omega) (by omega)]
  exact shd_cg e5
