/-! lift: both sides do the same -/
section SD
variable {F G : Nat → Int32} {nc nh np : Nat}
theorem Lv_home (h : Lv nc nh np F G) {i : Nat} (hi : i < np) : Lv nc nh np (homeF F i) (homeF G i) := by
  unfold homeF loseF
  rw [h.ph (k := 7) hi (by omega), h.ph (k := 8) hi (by omega)]
  exact h.set.set.set.set.set
theorem lift_same (h : Lv nc nh np F G) {i : Nat} (hi : i < np) (hw : whereOk G nh i) (hh : nh ≤ 10) (hd : m1ok (G (58 + 10 * i + 6))) (hf : G (58 + 10 * i + 6) = -1 → G (58 + 10 * i + 7) = -1 ∧ G (58 + 10 * i + 8) = -1) : (lfP F i).1 = (moF G i).1 ∧ ∀ G', (moF G i).2 = some G' → Lv nc nh np (lfP F i).2 G' := by
  unfold lfP moF
  rw [h.ph (k := 4) hi (by omega), h.ph (k := 6) hi (by omega)]
  have e6 : (¬ G (58 + 10 * i + 6) = -1) ↔ 0 ≤ G (58 + 10 * i + 6) := by
    refine ⟨fun q => hd.resolve_left q, fun q e => ?_⟩
    rw [e] at q; exact absurd q (by decide)
  have e4 : G (58 + 10 * i + 4) = -1 ↔ G (58 + 10 * i + 4) < 0 := by
    rcases hw.1 with h4 | ⟨c, hc, h4⟩
    · rw [h4]; exact ⟨fun _ => by decide, fun _ => rfl⟩
    · rw [h4]; exact ⟨fun q => absurd q (nI_m1 (by omega)), fun q => absurd q (nI_pos (by omega))⟩
  by_cases c : G (58 + 10 * i + 4) < 0 ∨ 0 ≤ G (58 + 10 * i + 6)
  · rw [if_pos c, if_pos (show G (58 + 10 * i + 4) = -1 ∨ ¬ G (58 + 10 * i + 6) = -1 from c.imp e4.mpr e6.mpr)]
    exact ⟨rfl, fun G' q => by cases q⟩
  · rw [if_neg c, if_neg (show ¬ (G (58 + 10 * i + 4) = -1 ∨ ¬ G (58 + 10 * i + 6) = -1) from fun q => c (q.imp e4.mp e6.mp))]
    have h6 : G (58 + 10 * i + 6) = -1 := hd.resolve_right (fun q => c (Or.inr q))
    refine ⟨rfl, fun G' q => ?_⟩
    injection q with q
    subst q
    rw [← free_same (hf h6).1 (hf h6).2]
    exact Lv_home h hi
end SD
