/-! buyBack: both sides do the same -/
def mpR (t : (Nat → Int32) → Nat → (Nat → Int32)) (F : Nat → Int32) : Nat → Nat → Nat → Int32
  | _, 0 => F
  | i, k + 1 => mpR t (t F i) (i + 1) k
theorem mpR_at {t : (Nat → Int32) → Nat → (Nat → Int32)} {tq : (Nat → Int32) → (Nat → Int32)} (ho : ∀ F i y, (y < 58 + 10 * i ∨ 58 + 10 * i + 10 ≤ y) → t F i y = F y) (hq : ∀ F i r, r < 10 → pr (t F i) i r = tq (pr F i) r) (he : ∀ q q', (∀ r, r < 10 → q r = q' r) → ∀ r, r < 10 → tq q r = tq q' r) : ∀ (k i : Nat) (F : Nat → Int32), (∀ y, y < 58 → mpR t F i k y = F y) ∧ ∀ j r, r < 10 → pr (mpR t F i k) j r = if i ≤ j ∧ j < i + k then tq (pr F j) r else pr F j r := by
  intro k
  induction k with
  | zero =>
    intro i F
    refine ⟨fun _ _ => rfl, fun j r _ => ?_⟩
    rw [if_neg (by omega)]; rfl
  | succ k ih =>
    intro i F
    unfold mpR
    obtain ⟨h1, h2⟩ := ih (i + 1) (t F i)
    refine ⟨fun y hy => (h1 y hy).trans (ho F i y (by omega)), fun j r hr => (h2 j r hr).trans ?_⟩
    by_cases e : j = i
    · subst e
      rw [if_neg (by omega), if_pos ⟨by omega, by omega⟩]
      exact hq F j r hr
    · have hp : ∀ r, r < 10 → pr (t F i) j r = pr F j r := fun r hr => ho F i _ (by omega)
      by_cases q : i ≤ j ∧ j < i + (k + 1)
      · rw [if_pos q, if_pos ⟨by omega, by omega⟩]
        exact he _ _ hp r hr
      · rw [if_neg q, if_neg (fun w => q ⟨by omega, by omega⟩)]
        exact hp r hr
def loQ (q : Nat → Int32) : Nat → Int32 := fun r => if 7 ≤ r ∧ r ≤ 8 then -1 else q r
def gp (c v : Int32) : Int32 := if v ≤ c then v else v - 1
def gpQ (c : Int32) (q : Nat → Int32) : Nat → Int32 := fun r => if r = 4 ∨ r = 7 then gp c (q r) else q r
def clQ (c : Int32) (q : Nat → Int32) : Nat → Int32 := if q 4 = c then hmQ q else if q 7 = c then loQ q else q
def lvQ (c : Int32) (q : Nat → Int32) : Nat → Int32 := if q 4 = c ∧ 0 ≤ q 6 then hmQ q else if q 4 = c then frQ q else if q 7 = c then loQ q else q
theorem lose_out {F : Nat → Int32} {i y : Nat} (h : y < 58 + 10 * i ∨ 58 + 10 * i + 10 ≤ y) : loseF F i y = F y := by
  unfold loseF
  rw [fset_ne (by omega), fset_ne (by omega)]
theorem pr_lose {F : Nat → Int32} {i r : Nat} : pr (loseF F i) i r = loQ (pr F i) r := by
  unfold pr loQ loseF fset
  grind
theorem gap_out {F : Nat → Int32} {i y : Nat} {c : Int32} (h : y < 58 + 10 * i ∨ 58 + 10 * i + 10 ≤ y) : gapF F i c y = F y := by
  unfold gapF
  split <;> split <;> (try rfl) <;> (repeat rw [fset_ne (by omega)])
theorem gap_at {F : Nat → Int32} {i y : Nat} {c : Int32} : gapF F i c y = if y = 58 + 10 * i + 7 then gp c (F y) else if y = 58 + 10 * i + 4 then gp c (F y) else F y := by
  unfold gapF gp
  by_cases e7 : y = 58 + 10 * i + 7
  · subst e7
    rw [if_pos rfl]
    by_cases a : F (58 + 10 * i + 4) ≤ c <;> by_cases b : F (58 + 10 * i + 7) ≤ c <;> simp only [a, b, if_true, if_false, fset_same]
    rw [fset_ne (by omega)]
  · rw [if_neg e7]
    by_cases e4 : y = 58 + 10 * i + 4
    · subst e4
      rw [if_pos rfl]
      by_cases a : F (58 + 10 * i + 4) ≤ c <;> by_cases b : F (58 + 10 * i + 7) ≤ c <;> simp only [a, b, if_true, if_false, fset_same, fset_ne e7]
    · rw [if_neg e4]
      by_cases a : F (58 + 10 * i + 4) ≤ c <;> by_cases b : F (58 + 10 * i + 7) ≤ c <;> simp only [a, b, if_true, if_false, fset_ne e4, fset_ne e7]
theorem gpQ_at {F : Nat → Int32} {i r : Nat} {c : Int32} : (if 58 + 10 * i + r = 58 + 10 * i + 7 then gp c (F (58 + 10 * i + r)) else if 58 + 10 * i + r = 58 + 10 * i + 4 then gp c (F (58 + 10 * i + r)) else F (58 + 10 * i + r)) = gpQ c (pr F i) r := by
  unfold gpQ pr
  by_cases e7 : r = 7
  · rw [if_pos (by omega), if_pos (Or.inr e7)]
  · rw [if_neg (by omega)]
    by_cases e4 : r = 4
    · rw [if_pos (by omega), if_pos (Or.inl e4)]
    · rw [if_neg (by omega), if_neg (by omega)]
theorem pr_gap {F : Nat → Int32} {i r : Nat} {c : Int32} (hr : r < 10) : pr (gapF F i c) i r = gpQ c (pr F i) r := gap_at.trans gpQ_at
theorem mgp_out {F : Nat → Int32} {i y : Nat} {c : Int32} (h : y < 58 + 10 * i ∨ 58 + 10 * i + 10 ≤ y) : mgpF F i c y = F y := by
  unfold mgpF
  rw [fset_ne (by omega), fset_ne (by omega)]
theorem pr_mgp {F : Nat → Int32} {i r : Nat} {c : Int32} (hr : r < 10) : pr (mgpF F i c) i r = gpQ c (pr F i) r := by
  refine Eq.trans ?_ gpQ_at
  show mgpF F i c (58 + 10 * i + r) = _
  unfold mgpF fset gp
  by_cases e7 : 58 + 10 * i + r = 58 + 10 * i + 7
  · rw [if_pos e7, if_pos e7, e7]
  · rw [if_neg e7, if_neg e7]
    by_cases e4 : 58 + 10 * i + r = 58 + 10 * i + 4
    · rw [if_pos e4, if_pos e4, e4]
    · rw [if_neg e4, if_neg e4]
theorem gpQ_eq {c : Int32} {q q' : Nat → Int32} (h : ∀ r, r < 10 → q r = q' r) : ∀ r, r < 10 → gpQ c q r = gpQ c q' r := by
  intro r hr
  unfold gpQ
  rw [h r hr]
theorem loQ_eq {q q' : Nat → Int32} (h : ∀ r, r < 10 → q r = q' r) : ∀ r, r < 10 → loQ q r = loQ q' r := by
  intro r hr
  unfold loQ
  rw [h r hr]
theorem frQ_eq {q q' : Nat → Int32} (h : ∀ r, r < 10 → q r = q' r) : ∀ r, r < 10 → frQ q r = frQ q' r := by
  intro r hr
  unfold frQ
  rw [h r hr]
theorem clQ_eq {c : Int32} {q q' : Nat → Int32} (h : ∀ r, r < 10 → q r = q' r) : ∀ r, r < 10 → clQ c q r = clQ c q' r := by
  intro r hr
  unfold clQ
  rw [h 4 (by omega), h 7 (by omega)]
  split
  · exact hmQ_eq h hr
  · split
    · exact loQ_eq h r hr
    · exact h r hr
theorem lvQ_eq {c : Int32} {q q' : Nat → Int32} (h : ∀ r, r < 10 → q r = q' r) : ∀ r, r < 10 → lvQ c q r = lvQ c q' r := by
  intro r hr
  unfold lvQ
  rw [h 4 (by omega), h 6 (by omega), h 7 (by omega)]
  split
  · exact hmQ_eq h hr
  · split
    · exact frQ_eq h r hr
    · split
      · exact loQ_eq h r hr
      · exact h r hr
theorem clr_mp {c : Int32} : ∀ (k i : Nat) (F : Nat → Int32), clrR F c i k = mpR (fun F i => clrF F i c) F i k := by
  intro k
  induction k with
  | zero => intro i F; rfl
  | succ k ih => intro i F; unfold clrR mpR; rw [ih]
theorem mlv_mp {c : Int32} : ∀ (k i : Nat) (F : Nat → Int32), mlvR F c i k = mpR (fun F i => mlvF F i c) F i k := by
  intro k
  induction k with
  | zero => intro i F; rfl
  | succ k ih => intro i F; unfold mlvR mpR; rw [ih]
theorem mgp_mp {c : Int32} : ∀ (k i : Nat) (F : Nat → Int32), mgpR F c i k = mpR (fun F i => mgpF F i c) F i k := by
  intro k
  induction k with
  | zero => intro i F; rfl
  | succ k ih => intro i F; unfold mgpR mpR; rw [ih]
theorem mpr_all {t : (Nat → Int32) → Nat → (Nat → Int32)} {tq : (Nat → Int32) → (Nat → Int32)} {F : Nat → Int32} {np : Nat} (h : ∀ j r, r < 10 → pr (mpR t F 0 np) j r = if 0 ≤ j ∧ j < 0 + np then tq (pr F j) r else pr F j r) {j r : Nat} (hj : j < np) (hr : r < 10) : pr (mpR t F 0 np) j r = tq (pr F j) r := by
  rw [h j r hr, if_pos ⟨by omega, by omega⟩]
theorem clr_at {F : Nat → Int32} {c : Int32} {np : Nat} : (∀ y, y < 58 → clrR F c 0 np y = F y) ∧ ∀ j r, j < np → r < 10 → pr (clrR F c 0 np) j r = gpQ c (clQ c (pr F j)) r := by
  have h := mpR_at (t := fun F i => clrF F i c) (tq := fun q => gpQ c (clQ c q)) (fun F i y hy => by
    show gapF _ i c y = _
    rw [gap_out hy]
    split
    · exact home_out hy
    · split
      · exact lose_out hy
      · rfl) (fun F i r hr => by
    show pr (gapF _ i c) i r = _
    rw [pr_gap hr]
    refine gpQ_eq (fun r hr => ?_) r hr
    unfold clQ
    by_cases e1 : F (58 + 10 * i + 4) = c
    · rw [if_pos e1, if_pos (show pr F i 4 = c from e1)]; exact pr_home
    · rw [if_neg e1, if_neg (show ¬ pr F i 4 = c from e1)]
      by_cases e2 : F (58 + 10 * i + 7) = c
      · rw [if_pos e2, if_pos (show pr F i 7 = c from e2)]; exact pr_lose
      · rw [if_neg e2, if_neg (show ¬ pr F i 7 = c from e2)]) (fun q q' h => gpQ_eq (clQ_eq h)) np 0 F
  rw [clr_mp]
  exact ⟨h.1, fun j r hj hr => mpr_all (tq := fun q => gpQ c (clQ c q)) h.2 hj hr⟩
theorem mlv_at {F : Nat → Int32} {c : Int32} {np : Nat} : (∀ y, y < 58 → mlvR F c 0 np y = F y) ∧ ∀ j r, j < np → r < 10 → pr (mlvR F c 0 np) j r = lvQ c (pr F j) r := by
  have h := mpR_at (t := fun F i => mlvF F i c) (tq := fun q => lvQ c q) (fun F i y hy => by
    show mlvF F i c y = _
    unfold mlvF
    rw [← home_same]
    split
    · exact home_out hy
    · split
      · exact free_out hy
      · split
        · exact lose_out hy
        · rfl) (fun F i r hr => by
    show pr (mlvF F i c) i r = _
    unfold mlvF lvQ
    rw [← home_same]
    by_cases e0 : F (58 + 10 * i + 4) = c ∧ 0 ≤ F (58 + 10 * i + 6)
    · rw [if_pos e0, if_pos (show pr F i 4 = c ∧ 0 ≤ pr F i 6 from e0)]; exact pr_home
    · rw [if_neg e0, if_neg (show ¬ (pr F i 4 = c ∧ 0 ≤ pr F i 6) from e0)]
      by_cases e1 : F (58 + 10 * i + 4) = c
      · rw [if_pos e1, if_pos (show pr F i 4 = c from e1)]; exact pr_free
      · rw [if_neg e1, if_neg (show ¬ pr F i 4 = c from e1)]
        by_cases e2 : F (58 + 10 * i + 7) = c
        · rw [if_pos e2, if_pos (show pr F i 7 = c from e2)]; exact pr_lose
        · rw [if_neg e2, if_neg (show ¬ pr F i 7 = c from e2)]) (fun q q' h => lvQ_eq h) np 0 F
  rw [mlv_mp]
  exact ⟨h.1, fun j r hj hr => mpr_all (tq := fun q => lvQ c q) h.2 hj hr⟩
theorem mgp_at {F : Nat → Int32} {c : Int32} {np : Nat} : (∀ y, y < 58 → mgpR F c 0 np y = F y) ∧ ∀ j r, j < np → r < 10 → pr (mgpR F c 0 np) j r = gpQ c (pr F j) r := by
  have h := mpR_at (t := fun F i => mgpF F i c) (tq := fun q => gpQ c q) (fun F i y hy => mgp_out hy) (fun F i r hr => pr_mgp hr) (fun q q' h => gpQ_eq h) np 0 F
  rw [mgp_mp]
  exact ⟨h.1, fun j r hj hr => mpr_all (tq := fun q => gpQ c q) h.2 hj hr⟩
