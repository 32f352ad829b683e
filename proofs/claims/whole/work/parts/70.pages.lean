/-! place, lift: both sides do the same -/
section SP
variable {F G : Nat → Int32} {nc nh np B : Nat}
/-- one phrase's row has changed -/
theorem Inv_row {G' : Nat → Int32} {B' i : Nat} (hI : Inv G nc nh np B) (hi : i < np) (hs : ∀ y, y < 58 + 10 * i ∨ 58 + 10 * i + 10 ≤ y → G' y = G y) (hq : phQ (ow G) nh (G 3) (pr G' i)) (hk : ∀ c g, 0 ≤ c → sumN (fun j => tk c g (pr G j)) 0 np + tk c g (pr G' i) ≤ 3 + tk c g (pr G i)) (hB : B ≤ B') (hb : ∃ t, t ≤ B' ∧ pr G' i 9 = nI t) : Inv G' nc nh np B' := by
  obtain ⟨⟨c1, c2, c3, c4, c5, c6⟩, a2, a3, a4, a5, a6, a7, a8⟩ := hI
  have g3 : G' 3 = G 3 := hs _ (by omega)
  have ho : ∀ j, j ≠ i → ∀ r, r < 10 → pr G' j r = pr G j r := fun j hj r hr => hs _ (by omega)
  refine ⟨⟨(hs _ (by omega)).trans c1, c2, (hs _ (by omega)).trans c3, c4, (hs _ (by omega)).trans c5, c6⟩, by rw [g3]; exact a2, by rw [hs 6 (by omega)]; exact a3, by rw [hs 7 (by omega)]; exact a4, fun c hc => ?_, fun j hj => ?_, fun c g hc => ?_, fun j hj => ?_⟩
  · unfold chQ
    rw [hs _ (by omega), hs _ (by omega), hs _ (by omega), g3]
    exact a5 c hc
  · rw [g3]
    refine phQ_W c4 (Nat.le_refl _) (fun c hc => hs _ (by omega)) ?_
    by_cases e : j = i
    · subst e; exact hq
    · exact phQ_eq (ho j e) (a6 j hj)
  · have h1 := hk c g hc
    have h2 := sumN_upd (f := fun j => tk c g (pr G' j)) (g := fun j => tk c g (pr G j)) (j := i) np 0 (fun m hm => tk_eq (ho m hm)) (by omega) (by omega)
    omega
  · by_cases e : j = i
    · subst e; exact hb
    · rw [ho j e 9 (by omega)]
      obtain ⟨t, x, y⟩ := a8 j hj
      exact ⟨t, by omega, y⟩
theorem mleft_0 (hI : Inv G nc nh np B) {c g : Int32} (hc : 0 ≤ c) : 0 ≤ mleftV G np c g ∧ (mleftV G np c g = 0 ↔ sumN (fun i => tk c g (pr G i)) 0 np = 3) := by
  rw [mleft_N]
  exact left3 _ (hI.2.2.2.2.2.2.1 c g hc)
theorem pr_puts {K : Nat → Int32} {i r : Nat} {c g : Int32} (hr : r < 10) : pr (putsF K i c g) i r = if r = 4 then c else if r = 5 then g else pr K i r := by
  unfold pr putsF fset
  by_cases e5 : r = 5
  · subst e5
    rw [if_pos rfl, if_neg (by omega), if_pos rfl]
  · by_cases e4 : r = 4
    · subst e4
      rw [if_neg (by omega), if_pos rfl, if_pos rfl]
    · rw [if_neg (by omega), if_neg (by omega), if_neg e4, if_neg e5]
theorem puts_out {K : Nat → Int32} {i y : Nat} {c g : Int32} (h : y < 58 + 10 * i ∨ 58 + 10 * i + 10 ≤ y) : putsF K i c g y = K y := by
  unfold putsF
  rw [fset_ne (by omega), fset_ne (by omega)]
theorem place_inv (hI : Inv G nc nh np B) {i : Nat} (hi : i < np) {c g : Int32} (hp : pageP G c g) (h4 : G (58 + 10 * i + 4) = -1) (hl : ¬ mleftV G np c g = 0) : Inv (putsF G i c g) nc nh np B := by
  have hc0 := hp.1.1
  have hm := (mleft_0 hI (g := g) hc0).2
  obtain ⟨ch, hch, ec⟩ := upto hI.1.2.2.1 (by have := hI.1.2.2.2.1; omega) hp.1
  have hq := hI.2.2.2.2.2.1 i hi
  have r4 : pr (putsF G i c g) i 4 = c := by rw [pr_puts (by omega), if_pos rfl]
  have r5 : pr (putsF G i c g) i 5 = g := by rw [pr_puts (by omega), if_neg (by omega), if_pos rfl]
  have ro : ∀ r, r < 10 → r ≠ 4 → r ≠ 5 → pr (putsF G i c g) i r = pr G i r := fun r hr a b => by rw [pr_puts hr, if_neg a, if_neg b]
  obtain ⟨t, ht, et⟩ := hI.2.2.2.2.2.2.2 i hi
  refine Inv_row hI hi (fun y hy => puts_out hy) ?_ (fun c0 g0 h0 => ?_) (Nat.le_refl _) ⟨t, ht, by rw [ro 9 (by omega) (by omega) (by omega)]; exact et⟩
  · obtain ⟨a0, a1, a2, a3, a4, a7, a5, a6, a8, b4, b6, b7, b8⟩ := hq
    have e6 : pr G i 6 = -1 := b4 h4
    unfold phQ
    rw [r4, r5, ro 0 (by omega) (by omega) (by omega), ro 1 (by omega) (by omega) (by omega), ro 2 (by omega) (by omega) (by omega), ro 3 (by omega) (by omega) (by omega), ro 6 (by omega) (by omega) (by omega), ro 7 (by omega) (by omega) (by omega), ro 8 (by omega) (by omega) (by omega)]
    exact ⟨a0, a1, a2, a3, Or.inr ⟨ch, hch, ec⟩, a7, Or.inr hp.2.1, a6, a8, fun _ => e6, b6, b7, Or.inl (b6 e6).1⟩
  · obtain ⟨a0, a1, a2, a3, a4, a7, a5, a6, a8, b4, b6, b7, b8⟩ := hq
    have hs := hI.2.2.2.2.2.2.1 c0 g0 h0
    unfold tk at hs ⊢
    rw [r4, r5, ro 7 (by omega) (by omega) (by omega), ro 8 (by omega) (by omega) (by omega)]
    by_cases e : c = c0 ∧ g = g0
    · obtain ⟨rfl, rfl⟩ := e
      have h3 : ¬ sumN (fun i => tk c g (pr G i)) 0 np = 3 := fun w => hl (hm.mpr w)
      unfold tk at h3
      split <;> omega
    · rw [if_neg e]
      omega
theorem place_ok (hI : Inv G nc nh np B) (h : Lv nc nh np F G) {i : Nat} (hi : i < np) {c g : Int32} : okS B F (plP F np i c g) (moL G np i c g) := by
  have hc := hI.1
  have hw := hI.wh hi
  unfold plP moL
  have hpg : pageP F c g = pageP G c g := Lv_page h hc
  by_cases h1 : pageP G c g
  · have hc0 : 0 ≤ c := h1.1.1
    have h1F : pageP F c g := hpg ▸ h1
    have h0 := mleft_0 hI (g := g) hc0
    rw [if_neg (show ¬ ¬ pageP F c g from fun q => q h1F), if_neg (show ¬ ¬ pageP G c g from fun q => q h1), h.ph (k := 4) hi (by omega), Lv_left h, left_same hc0 (fun j hj => hI.hom hj)]
    rcases hw.1 with h4 | ⟨c4, hc4, h4⟩
    · have hS : Lv nc nh np (fset (fset F (58 + 10 * i + 4) c) (58 + 10 * i + 5) g) (putsF G i c g) := h.set.set
      by_cases h3 : mleftV G np c g = 0
      · rw [if_pos h4, h4, if_neg (show ¬ ¬ (-1 : Int32) < 0 by decide), if_pos h3, if_neg (show ¬ 0 < mleftV G np c g by rw [h3]; decide)]
        exact okS_no (by decide)
      · have h5 : 0 < mleftV G np c g := by
          rw [← Int32.not_le]
          exact fun q => h3 (Int32.le_antisymm q h0.1)
        have hI' := place_inv hI hi h1 h4 h3
        rw [if_pos h4, h4, if_neg (show ¬ ¬ (-1 : Int32) < 0 by decide), if_neg h3, if_pos h5, Lv_left hS, left_same hc0 (fun j hj => hI'.hom hj)]
        exact okS_is (mleft_0 hI' hc0).1 hI' hS
    · have hh := hc.2.2.2.1
      have n4 : ¬ G (58 + 10 * i + 4) = -1 := by rw [h4]; exact nI_m1 (by omega)
      have n5 : ¬ G (58 + 10 * i + 4) < 0 := by rw [h4]; exact nI_pos (by omega)
      rw [if_neg n4, if_pos n5]
      exact okS_no (by decide)
  · have h1F : ¬ pageP F c g := fun q => h1 (hpg ▸ q)
    rw [if_pos h1F, if_pos h1]
    exact okS_no (by decide)
theorem free_inv (hI : Inv G nc nh np B) {i : Nat} (hi : i < np) : Inv (freeF G i) nc nh np B := by
  obtain ⟨t, ht, et⟩ := hI.2.2.2.2.2.2.2 i hi
  refine Inv_row hI hi (fun y hy => free_out hy) (phQ_eq (fun r _ => pr_free) (phQ_fr (W := ow G) (day := G 3) (hI.2.2.2.2.2.1 i hi))) (fun c0 g0 h0 => ?_) (Nat.le_refl _) ⟨t, ht, by rw [pr_free]; exact et⟩
  have hs := hI.2.2.2.2.2.2.1 c0 g0 h0
  rw [tk_eq (q := frQ (pr G i)) fun r _ => pr_free, tk_fr h0]
  omega
theorem lift_ok (hI : Inv G nc nh np B) (h : Lv nc nh np F G) {i : Nat} (hi : i < np) : okS B F (lfP F i) (moF G i) := by
  have hh := hI.1.2.2.2.1
  have hw := hI.wh hi
  obtain ⟨a0, a1, a2, a3, a4, a7, a5, hd, a8, b4, b6, b7, b8⟩ := hI.2.2.2.2.2.1 i hi
  unfold lfP moF
  rw [h.ph (k := 4) hi (by omega), h.ph (k := 6) hi (by omega)]
  have e6 : (¬ G (58 + 10 * i + 6) = -1) ↔ 0 ≤ G (58 + 10 * i + 6) := by
    refine ⟨fun q => hd.resolve_left q, fun q e => ?_⟩
    rw [e] at q; exact absurd q (by decide)
  have e4 : G (58 + 10 * i + 4) = -1 ↔ G (58 + 10 * i + 4) < 0 := by
    rcases hw.1 with h4 | ⟨c, hc, h4⟩
    · rw [h4]; exact ⟨fun _ => by decide, fun _ => rfl⟩
    · rw [h4]; exact ⟨fun q => absurd q (nI_m1 (by omega)), fun q => absurd q (nI_pos (by omega))⟩
  by_cases c : G (58 + 10 * i + 4) < 0 ∨ 0 ≤ G (58 + 10 * i + 6)
  · rw [if_pos c, if_pos (show G (58 + 10 * i + 4) = -1 ∨ ¬ G (58 + 10 * i + 6) = -1 from c.imp e4.mpr e6.mpr)]
    exact okS_no (by decide)
  · rw [if_neg c, if_neg (show ¬ (G (58 + 10 * i + 4) = -1 ∨ ¬ G (58 + 10 * i + 6) = -1) from fun q => c (q.imp e4.mp e6.mp))]
    have h6 : G (58 + 10 * i + 6) = -1 := hd.resolve_right (fun q => c (Or.inr q))
    refine okS_is (by rw [← Int32.not_lt]; exact fun w => c (Or.inl w)) (free_inv hI hi) ?_
    rw [← free_same (b6 h6).1 (b6 h6).2]
    exact Lv_home h hi
end SP
