/-! rows that agree where they count; place -/
section SC
variable {F G : Nat → Int32} {nc nh np : Nat}
theorem Lv.set (h : Lv nc nh np F G) {j : Nat} {v : Int32} : Lv nc nh np (fset F j v) (fset G j v) := by
  intro y hy
  unfold fset
  by_cases e : y = j
  · rw [if_pos e, if_pos e]
  · rw [if_neg e, if_neg e]; exact h y hy
theorem Lv.ph (h : Lv nc nh np F G) {i k : Nat} (hi : i < np) (hk : k < 10) : F (58 + 10 * i + k) = G (58 + 10 * i + k) := h _ (Or.inr (Or.inr (Or.inr ⟨by omega, by omega⟩)))
theorem Lv.ch (h : Lv nc nh np F G) {i k : Nat} (hi : i < nh) (hk : k < 4) : F (18 + 4 * i + k) = G (18 + 4 * i + k) := h _ (Or.inr (Or.inr (Or.inl ⟨by omega, by omega⟩)))
theorem Lv.cl (h : Lv nc nh np F G) {i k : Nat} (hi : i < nc) (hk : k < 2) : F (8 + 2 * i + k) = G (8 + 2 * i + k) := h _ (Or.inr (Or.inl ⟨by omega, by omega⟩))
theorem Lv.lo (h : Lv nc nh np F G) {k : Nat} (hk : k < 8) : F k = G k := h _ (Or.inl hk)
theorem Lv_page (h : Lv nc nh np F G) (hc : cnt G nc nh np) {c g : Int32} : pageP F c g = pageP G c g := by
  unfold pageP
  rw [h.lo (k := 1) (by omega)]
  refine propext ⟨fun q => ⟨q.1, ?_⟩, fun q => ⟨q.1, ?_⟩⟩
  · obtain ⟨i, hi, rfl⟩ := upto hc.2.2.1 (by have := hc.2.2.2.1; omega) q.1
    have := hc.2.2.2.1
    rw [nI_clamp (by omega)] at q ⊢
    rw [← h.ch hi (by omega)]; exact q.2
  · obtain ⟨i, hi, rfl⟩ := upto hc.2.2.1 (by have := hc.2.2.2.1; omega) q.1
    have := hc.2.2.2.1
    rw [nI_clamp (by omega)] at q ⊢
    rw [h.ch hi (by omega)]; exact q.2
theorem Lv_left (h : Lv nc nh np F G) {c g : Int32} : leftV F np c g = leftV G np c g := by
  unfold leftV
  rw [sumR_same (f := placesLeftS F c g) (g := placesLeftS G c g) np 0 fun j _ hj => ?_]
  unfold placesLeftS
  rw [h.ph (by omega) (by omega), h.ph (by omega) (by omega), h.ph (by omega) (by omega), h.ph (by omega) (by omega)]
theorem place_same (h : Lv nc nh np F G) (hc : cnt G nc nh np) {i : Nat} (hi : i < np) {c g : Int32} (hw : whereOk G nh i) (hl : ∀ j, j < np → G (58 + 10 * j + 7) = -1 ∨ ¬ G (58 + 10 * j + 7) = G (58 + 10 * j + 4)) (hl2 : ∀ j, j < np → putsF G i c g (58 + 10 * j + 7) = -1 ∨ ¬ putsF G i c g (58 + 10 * j + 7) = putsF G i c g (58 + 10 * j + 4)) (h0 : 0 ≤ mleftV G np c g) : (plP F np i c g).1 = (moL G np i c g).1 ∧ ∀ G', (moL G np i c g).2 = some G' → Lv nc nh np (plP F np i c g).2 G' := by
  unfold plP moL
  have hpg : pageP F c g = pageP G c g := Lv_page h hc
  by_cases h1 : pageP G c g
  · have hc0 : 0 ≤ c := h1.1.1
    have h1F : pageP F c g := hpg ▸ h1
    rw [if_neg (show ¬ ¬ pageP F c g from fun q => q h1F), if_neg (show ¬ ¬ pageP G c g from fun q => q h1), h.ph (k := 4) hi (by omega), Lv_left h, left_same hc0 hl]
    rcases hw.1 with h4 | ⟨c4, hc4, h4⟩
    · rw [if_pos h4, h4, if_neg (show ¬ ¬ (-1 : Int32) < 0 by decide)]
      have hS : Lv nc nh np (fset (fset F (58 + 10 * i + 4) c) (58 + 10 * i + 5) g) (putsF G i c g) := h.set.set
      by_cases h3 : mleftV G np c g = 0
      · rw [if_pos h3, if_neg (show ¬ 0 < mleftV G np c g by rw [h3]; decide)]
        exact ⟨rfl, fun G' q => by cases q⟩
      · have h5 : 0 < mleftV G np c g := by
          rw [← Int32.not_le]
          exact fun q => h3 (Int32.le_antisymm q h0)
        rw [if_neg h3, if_pos h5]
        refine ⟨?_, fun G' q => by injection q with q; subst q; exact hS⟩
        show leftV _ np c g = mleftV _ np c g
        rw [Lv_left hS]
        exact left_same hc0 hl2
    · have hh := hc.2.2.2.1
      have n4 : ¬ G (58 + 10 * i + 4) = -1 := by rw [h4]; exact nI_m1 (by omega)
      have n5 : ¬ G (58 + 10 * i + 4) < 0 := by rw [h4]; exact nI_pos (by omega)
      rw [if_neg n4, if_pos n5]
      exact ⟨rfl, fun G' q => by cases q⟩
  · have h1F : ¬ pageP F c g := fun q => h1 (hpg ▸ q)
    rw [if_pos h1F, if_pos h1]
    exact ⟨rfl, fun G' q => by cases q⟩
end SC
