/-! both sides do the same: pure -/
section SB
variable {G : Nat → Int32} {nc nh np : Nat}
theorem left_same {c g : Int32} (hc0 : 0 ≤ c) (h : ∀ i, i < np → G (58 + 10 * i + 7) = -1 ∨ ¬ G (58 + 10 * i + 7) = G (58 + 10 * i + 4)) : leftV G np c g = mleftV G np c g := by
  unfold leftV mleftV
  rw [sumR_same (f := placesLeftS G c g) (g := mleftS G c g) np 0 fun j _ hj => ?_]
  unfold placesLeftS mleftS
  have nn : ¬ ((G (58 + 10 * j + 4) = c ∧ G (58 + 10 * j + 5) = g) ∧ (G (58 + 10 * j + 7) = c ∧ G (58 + 10 * j + 8) = g)) := by
    rintro ⟨⟨a, -⟩, ⟨b, -⟩⟩
    rcases h j (by omega) with q | q
    · rw [q] at b; subst b; exact absurd hc0 (by decide)
    · exact q (b.trans a.symm)
  unfold bI
  by_cases p1 : G (58 + 10 * j + 4) = c ∧ G (58 + 10 * j + 5) = g
  · have p2 : ¬ (G (58 + 10 * j + 7) = c ∧ G (58 + 10 * j + 8) = g) := fun q => nn ⟨p1, q⟩
    rw [if_pos (Or.inl p1), if_pos p1, if_neg p2]; rfl
  · by_cases p2 : G (58 + 10 * j + 7) = c ∧ G (58 + 10 * j + 8) = g
    · rw [if_pos (Or.inr p2), if_neg p1, if_pos p2]; rfl
    · rw [if_neg (fun q => q.elim p1 p2), if_neg p1, if_neg p2]; rfl
/-- a phrase that is not lent goes free the same way -/
theorem free_same {i : Nat} (h7 : G (58 + 10 * i + 7) = -1) (h8 : G (58 + 10 * i + 8) = -1) : homeF G i = freeF G i := by
  funext y
  unfold homeF loseF freeF fset
  rw [h7]
  by_cases e8 : y = 58 + 10 * i + 8
  · simp only [e8, if_true]
  · by_cases e7 : y = 58 + 10 * i + 7
    · have : ¬ 58 + 10 * i + 7 = 58 + 10 * i + 8 := by omega
      simp only [e7, this, if_true, if_false]
    · by_cases e6 : y = 58 + 10 * i + 6
      · simp only [e8, e7, if_false, e6, if_true]
      · by_cases e5 : y = 58 + 10 * i + 5
        · have a : ¬ 58 + 10 * i + 5 = 58 + 10 * i + 8 := by omega
          have b : ¬ 58 + 10 * i + 5 = 58 + 10 * i + 7 := by omega
          have c : ¬ 58 + 10 * i + 5 = 58 + 10 * i + 6 := by omega
          have d : ¬ 58 + 10 * i + 8 = 58 + 10 * i + 4 := by omega
          simp only [e5, a, b, c, d, h8, if_true, if_false]
        · simp only [e8, e7, e6, e5, if_false]
/-- a lent phrase goes home the same way -/
theorem home_same {i : Nat} : homeF G i = mhomeF G i := by
  funext y
  unfold homeF loseF mhomeF putsF freeF fset
  grind
end SB
