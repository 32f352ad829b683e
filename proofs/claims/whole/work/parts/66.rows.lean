/-! the rows of the phrases; what holds of every state -/
def pr (F : Nat → Int32) (j : Nat) : Nat → Int32 := fun r => F (58 + 10 * j + r)
def hmQ (q : Nat → Int32) : Nat → Int32 := fun r => if r = 4 then q 7 else if r = 5 then q 8 else if 6 ≤ r ∧ r ≤ 8 then -1 else q r
def frQ (q : Nat → Int32) : Nat → Int32 := fun r => if 4 ≤ r ∧ r ≤ 8 then -1 else q r
theorem home_out {F : Nat → Int32} {i y : Nat} (h : y < 58 + 10 * i ∨ 58 + 10 * i + 10 ≤ y) : homeF F i y = F y := by
  unfold homeF loseF
  rw [fset_ne (by omega), fset_ne (by omega), fset_ne (by omega), fset_ne (by omega), fset_ne (by omega)]
theorem free_out {F : Nat → Int32} {i y : Nat} (h : y < 58 + 10 * i ∨ 58 + 10 * i + 10 ≤ y) : freeF F i y = F y := by
  unfold freeF
  rw [fset_ne (by omega), fset_ne (by omega), fset_ne (by omega), fset_ne (by omega), fset_ne (by omega)]
theorem pr_home {F : Nat → Int32} {i r : Nat} : pr (homeF F i) i r = hmQ (pr F i) r := by
  unfold pr hmQ homeF loseF fset
  grind
theorem pr_free {F : Nat → Int32} {i r : Nat} : pr (freeF F i) i r = frQ (pr F i) r := by
  unfold pr frQ freeF fset
  grind
theorem pr_home_ne {F : Nat → Int32} {i j r : Nat} (h : j ≠ i) (hr : r < 10) : pr (homeF F i) j r = pr F j r := home_out (by omega)
theorem pr_free_ne {F : Nat → Int32} {i j r : Nat} (h : j ≠ i) (hr : r < 10) : pr (freeF F i) j r = pr F j r := free_out (by omega)
/-- a loop that sends some phrases home -/
def hmR (P : (Nat → Int32) → Nat → Prop) [∀ F i, Decidable (P F i)] (F : Nat → Int32) : Nat → Nat → (Nat → Int32) × Int32
  | _, 0 => (F, 0)
  | i, k + 1 => if P F i then ((hmR P (homeF F i) (i + 1) k).1, 1 + (hmR P (homeF F i) (i + 1) k).2) else hmR P F (i + 1) k
theorem hmR_at {P : (Nat → Int32) → Nat → Prop} [∀ F i, Decidable (P F i)] (hP : ∀ F i j, j ≠ i → (P (homeF F i) j ↔ P F j)) : ∀ (k i : Nat) (F : Nat → Int32), (∀ y, y < 58 → (hmR P F i k).1 y = F y) ∧ (∀ j r, r < 10 → pr (hmR P F i k).1 j r = if i ≤ j ∧ j < i + k ∧ P F j then hmQ (pr F j) r else pr F j r) ∧ (hmR P F i k).2 = sumR (fun j => bI (P F j)) i k := by
  intro k
  induction k with
  | zero =>
    intro i F
    refine ⟨fun _ _ => rfl, fun j r _ => ?_, rfl⟩
    rw [if_neg (by omega)]; rfl
  | succ k ih =>
    intro i F
    unfold hmR sumR
    by_cases h : P F i
    · rw [if_pos h]
      obtain ⟨h1, h2, h3⟩ := ih (i + 1) (homeF F i)
      refine ⟨fun y hy => (h1 y hy).trans (home_out (by omega)), fun j r hr => (h2 j r hr).trans ?_, ?_⟩
      · by_cases e : j = i
        · subst e
          rw [if_neg (by omega), if_pos ⟨by omega, by omega, h⟩, pr_home]
        · by_cases q : i ≤ j ∧ j < i + (k + 1) ∧ P F j
          · rw [if_pos q, if_pos ⟨by omega, by omega, (hP F i j e).mpr q.2.2⟩]
            unfold hmQ
            rw [pr_home_ne e (by omega), pr_home_ne e (by omega), pr_home_ne e hr]
          · rw [if_neg q, if_neg (fun w => q ⟨by omega, by omega, (hP F i j e).mp w.2.2⟩)]
            exact pr_home_ne e hr
      · show 1 + (hmR P (homeF F i) (i + 1) k).2 = _
        rw [h3, show bI (P F i) = 1 from if_pos h]
        congr 1
        refine sumR_same _ _ fun j hj _ => ?_
        have := hP F i j (by omega)
        unfold bI
        by_cases q : P F j
        · rw [if_pos q, if_pos (this.mpr q)]
        · rw [if_neg q, if_neg (fun w => q (this.mp w))]
    · rw [if_neg h]
      obtain ⟨h1, h2, h3⟩ := ih (i + 1) F
      refine ⟨h1, fun j r hr => (h2 j r hr).trans ?_, ?_⟩
      · by_cases q : i ≤ j ∧ j < i + (k + 1) ∧ P F j
        · have : j ≠ i := fun e => by subst e; exact h q.2.2
          rw [if_pos q, if_pos ⟨by omega, by omega, q.2.2⟩]
        · rw [if_neg q, if_neg (fun w => q ⟨by omega, by omega, w.2.2⟩)]
      · rw [h3, show bI (P F i) = 0 from if_neg h, Int32.zero_add]
/-- sums of numbers -/
def sumN (f : Nat → Nat) : Nat → Nat → Nat
  | _, 0 => 0
  | i, k + 1 => f i + sumN f (i + 1) k
theorem sumN_le {f g : Nat → Nat} : ∀ (k i : Nat), (∀ j, i ≤ j → j < i + k → f j ≤ g j) → sumN f i k ≤ sumN g i k := by
  intro k
  induction k with
  | zero => intro i _; exact Nat.le_refl _
  | succ k ih =>
    intro i h
    unfold sumN
    exact Nat.add_le_add (h i (by omega) (by omega)) (ih _ fun j a b => h j (by omega) (by omega))
theorem sumN_eq {f g : Nat → Nat} {k i : Nat} (h : ∀ j, i ≤ j → j < i + k → f j = g j) : sumN f i k = sumN g i k := Nat.le_antisymm (sumN_le k i fun j a b => Nat.le_of_eq (h j a b)) (sumN_le k i fun j a b => Nat.le_of_eq (h j a b).symm)
theorem sumN_end {f : Nat → Nat} : ∀ (k i : Nat), sumN f i (k + 1) = sumN f i k + f (i + k) := by
  intro k
  induction k with
  | zero => intro i; simp only [sumN, Nat.add_zero, Nat.zero_add]
  | succ k ih =>
    intro i
    rw [sumN, ih, sumN, show i + 1 + k = i + (k + 1) by omega]
    omega
theorem sumN_z : ∀ (k i : Nat), sumN (fun _ => 0) i k = 0 := by
  intro k
  induction k with
  | zero => intro i; rfl
  | succ k ih => intro i; unfold sumN; rw [ih]
theorem sumN_upd {f g : Nat → Nat} {j : Nat} : ∀ (k i : Nat), (∀ m, m ≠ j → f m = g m) → i ≤ j → j < i + k → sumN f i k + g j = sumN g i k + f j := by
  intro k
  induction k with
  | zero => intro i _ h1 h2; omega
  | succ k ih =>
    intro i h h1 h2
    unfold sumN
    by_cases e : i = j
    · subst e
      rw [sumN_eq (f := f) (g := g) fun m a b => h m (by omega)]
      omega
    · have := ih (i + 1) h (by omega) (by omega)
      rw [h i e]; omega
theorem sumN_b {f : Nat → Nat} {b : Nat} : ∀ (k i : Nat), (∀ j, f j ≤ b) → sumN f i k ≤ b * k := by
  intro k
  induction k with
  | zero => intro i _; exact Nat.le_refl _
  | succ k ih =>
    intro i h
    unfold sumN
    have := ih (i + 1) h
    have := h i
    rw [Nat.mul_succ]; omega
theorem sumR_N {f : Nat → Int32} {h : Nat → Nat} : ∀ (k i : Nat), (∀ j, i ≤ j → j < i + k → f j = nI (h j)) → sumR f i k = nI (sumN h i k) := by
  intro k
  induction k with
  | zero => intro i _; exact l0.symm
  | succ k ih =>
    intro i q
    unfold sumR sumN
    rw [q i (by omega) (by omega), ih _ fun j a b => q j (by omega) (by omega), nI_add]
/-- how many places a phrase takes on a page -/
def tk (c g : Int32) (q : Nat → Int32) : Nat := (if q 4 = c ∧ q 5 = g then 1 else 0) + (if q 7 = c ∧ q 8 = g then 1 else 0)
theorem tk_2 {c g : Int32} {q : Nat → Int32} : tk c g q ≤ 2 := by unfold tk; split <;> split <;> omega
theorem mleft_N {G : Nat → Int32} {np : Nat} {c g : Int32} : mleftV G np c g = 3 - nI (sumN (fun i => tk c g (pr G i)) 0 np) := by
  unfold mleftV
  rw [sumR_N (h := fun i => tk c g (pr G i)) np 0 fun j _ _ => ?_]
  unfold mleftS tk bI pr
  split <;> split <;> decide +kernel
theorem left3 : ∀ s, s ≤ 3 → 0 ≤ 3 - nI s ∧ (3 - nI s = 0 ↔ s = 3) := by decide +kernel
