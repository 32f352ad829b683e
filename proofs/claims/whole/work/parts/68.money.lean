/-! rows that agree: purses, owners; client, chapter, phrase -/
section SE
variable {F G : Nat → Int32} {nc nh np B : Nat}
theorem Lv_hold (h : Lv nc nh np F G) (hc : cnt G nc nh np) {c : Int32} : holdF F c = holdF G c := by
  unfold holdF
  rw [h.lo (k := 1) (by omega)]
  by_cases q : 0 ≤ c ∧ c < G 1
  · rw [if_pos q, if_pos q]
    obtain ⟨i, hi, rfl⟩ := upto hc.2.2.1 (by have := hc.2.2.2.1; omega) q
    have := hc.2.2.2.1
    rw [nI_clamp (by omega)]
    exact h.ch hi (by omega)
  · rw [if_neg q, if_neg q]
theorem Lv_pur (h : Lv nc nh np F G) (hc : cnt G nc nh np) {c : Int32} : purF F c = purF G c := by
  unfold purF
  rw [h.lo (k := 0) (by omega)]
  by_cases q : 0 ≤ c ∧ c < G 0
  · rw [if_pos q, if_pos q]
    obtain ⟨i, hi, rfl⟩ := upto hc.1 (by have := hc.2.1; omega) q
    have := hc.2.1
    rw [nI_clamp (by omega)]
    exact h.cl hi (by omega)
  · rw [if_neg q, if_neg q]
theorem pur_in (hc : cnt G nc nh np) {ci : Nat} (hi : ci < nc) : purF G (nI ci) = G (8 + 2 * ci + 1) := by
  have := hc.2.1
  unfold purF
  rw [hc.1, if_pos (nI_in2 hi (by omega)), nI_clamp (by omega)]
theorem rec_in {x : Int32} (h0 : G 0 = nI nc) (h5 : nc ≤ 5) {ci : Nat} (hi : ci < nc) : recF G (nI ci) x = fset G (8 + 2 * ci + 1) (G (8 + 2 * ci + 1) + x) := by
  unfold recF
  rw [h0, if_pos (nI_in2 hi (by omega)), nI_clamp (by omega)]
theorem rec_out {x : Int32} : recF G (-1) x = fset G 4 (G 4 + x) := by
  unfold recF
  rw [if_neg (fun w => absurd w.1 (by decide))]
theorem Lv_rec (h : Lv nc nh np F G) (hc : cnt G nc nh np) {c x : Int32} : Lv nc nh np (recF F c x) (recF G c x) := by
  unfold recF
  rw [h.lo (k := 0) (by omega)]
  by_cases q : 0 ≤ c ∧ c < G 0
  · rw [if_pos q, if_pos q]
    obtain ⟨i, hi, rfl⟩ := upto hc.1 (by have := hc.2.1; omega) q
    have := hc.2.1
    rw [nI_clamp (by omega), h.cl hi (by omega)]
    exact h.set
  · rw [if_neg q, if_neg q, h.lo (k := 4) (by omega)]
    exact h.set
theorem Lv_pay (h : Lv nc nh np F G) (hc : cnt G nc nh np) {a b x : Int32} : Lv nc nh np (payF F a b x) (payF G a b x) := Lv_rec (Lv_rec h hc) (recF_cnt hc)
theorem Lv_wor (h : Lv nc nh np F G) {i : Nat} (hi : i < nh) : worF F i = worF G i := by
  unfold worF lossF
  rw [h.ch hi (by omega), h.ch hi (by omega), h.lo (k := 7) (by omega), h.lo (k := 3) (by omega)]
theorem Lv.addC (h : Lv nc nh np F G) (e : ∀ k, k < 2 → F (8 + 2 * nc + k) = G (8 + 2 * nc + k)) : Lv (nc + 1) nh np F G := by
  intro j hj
  unfold live at hj
  by_cases q : 8 + 2 * nc ≤ j ∧ j < 8 + 2 * nc + 2
  · have := e (j - (8 + 2 * nc)) (by omega)
    rwa [show 8 + 2 * nc + (j - (8 + 2 * nc)) = j by omega] at this
  · exact h j (by unfold live; omega)
theorem Lv.addH (h : Lv nc nh np F G) (e : ∀ k, k < 4 → F (18 + 4 * nh + k) = G (18 + 4 * nh + k)) : Lv nc (nh + 1) np F G := by
  intro j hj
  unfold live at hj
  by_cases q : 18 + 4 * nh ≤ j ∧ j < 18 + 4 * nh + 4
  · have := e (j - (18 + 4 * nh)) (by omega)
    rwa [show 18 + 4 * nh + (j - (18 + 4 * nh)) = j by omega] at this
  · exact h j (by unfold live; omega)
theorem Lv.addP (h : Lv nc nh np F G) (e : ∀ k, k < 10 → F (58 + 10 * np + k) = G (58 + 10 * np + k)) : Lv nc nh (np + 1) F G := by
  intro j hj
  unfold live at hj
  by_cases q : 58 + 10 * np ≤ j ∧ j < 58 + 10 * np + 10
  · have := e (j - (58 + 10 * np)) (by omega)
    rwa [show 58 + 10 * np + (j - (58 + 10 * np)) = j by omega] at this
  · exact h j (by unfold live; omega)
theorem lt5 : ∀ n, n ≤ 5 → (nI n < 5 ↔ ¬ n = 5) := by decide +kernel
theorem lt10 : ∀ n, n ≤ 10 → (nI n < 10 ↔ ¬ n = 10) := by decide +kernel
theorem lt24 : ∀ n, n ≤ 24 → (nI n < 24 ↔ ¬ n = 24) := by decide +kernel
theorem i32_ac {x : Int32} : x + 1 - 1 = x := Int32.add_sub_cancel x 1
theorem client_ok (hI : Inv G nc nh np B) (h : Lv nc nh np F G) {v x : Int32} : okS B F (adC F nc v x) (moC G nc v x) := by
  have hc := hI.1
  have e0 : F 0 = nI nc := (h.lo (k := 0) (by omega)).trans hc.1
  unfold adC moC
  by_cases h1 : ¬ (0 ≤ v ∧ v ≤ 3) ∨ ¬ (0 ≤ x ∧ x ≤ 9999)
  · rw [if_pos h1, if_pos h1]
    exact okS_no (by decide)
  · rw [if_neg h1, if_neg h1, e0, i32_ac]
    by_cases h5 : nc = 5
    · rw [if_neg (fun w => (lt5 nc hc.2.1).mp w h5), if_pos h5]
      exact okS_no (by decide)
    · have h5' := hc.2.1
      rw [if_pos ((lt5 nc hc.2.1).mpr h5), if_neg h5]
      refine okS_is (nc := nc + 1) (nI_pos' (by omega)) (Inv_low hI (fun y hy => ?_) (fset_same.trans (nI_1 _)) (by omega) (by omega) ?_ ?_ ?_ ?_ ?_) (Lv.addC (h.set.set.set) fun k hk => ?_)
      · repeat rw [fset_ne (by omega)]
      · repeat rw [fset_ne (by omega)]
      · repeat rw [fset_ne (by omega)]
      · repeat rw [fset_ne (by omega)]
      · repeat rw [fset_ne (by omega)]
        exact hI.2.2.1
      · repeat rw [fset_ne (by omega)]
        exact hI.2.2.2.1
      · rcases (show k = 0 ∨ k = 1 by omega) with rfl | rfl
        · rw [fset_ne (by omega), fset_ne (by omega), fset_same, fset_ne (by omega), fset_ne (by omega), fset_same]
        · rw [fset_ne (by omega), fset_same, fset_ne (by omega), fset_same]
theorem chapter_ok (hI : Inv G nc nh np B) (h : Lv nc nh np F G) {ci : Nat} (hci : ci < nc) {g x : Int32} : okS B F (adH F nh ci g x) (moH G nh ci g x) := by
  have hc := hI.1
  have e1 : F 1 = nI nh := (h.lo (k := 1) (by omega)).trans hc.2.2.1
  have h5 := hc.2.1
  have h10 := hc.2.2.2.1
  unfold adH moH
  by_cases h1 : ¬ (1 ≤ g ∧ g ≤ 20) ∨ ¬ (0 ≤ x ∧ x ≤ 999)
  · rw [if_pos h1, if_pos h1]
    exact okS_no (by decide)
  · have hx : 0 ≤ x ∧ x ≤ 999 := Classical.byContradiction fun q => h1 (Or.inr q)
    rw [if_neg h1, if_neg h1, Lv_pur h hc, pur_in hc hci]
    by_cases h2 : G (8 + 2 * ci + 1) < x
    · rw [if_pos h2, if_neg (by rw [Int32.not_le]; exact h2)]
      exact okS_no (by decide)
    · rw [if_neg h2, if_pos (by rw [← Int32.not_lt]; exact h2), e1, i32_ac]
      by_cases h3 : nh = 10
      · rw [if_neg (fun w => (lt10 nh h10).mp w h3), if_pos h3]
        exact okS_no (by decide)
      · rw [if_pos ((lt10 nh h10).mpr h3), if_neg h3, h.lo (k := 3) (by omega)]
        have hrow : ∀ K : Nat → Int32, K 0 = nI nc → payF (fset (fset (fset (fset (fset K (18 + 4 * nh + 0) (nI ci)) (18 + 4 * nh + 1) g) (18 + 4 * nh + 2) x) (18 + 4 * nh + 3) (G 3)) 1 (nI nh + 1)) (nI ci) (-1) x = fset (fset (fset (fset (fset (fset (fset K (18 + 4 * nh + 0) (nI ci)) (18 + 4 * nh + 1) g) (18 + 4 * nh + 2) x) (18 + 4 * nh + 3) (G 3)) (8 + 2 * ci + 1) (K (8 + 2 * ci + 1) - x)) 4 (K 4 + x)) 1 (nI nh + 1) := by
          intro K hK
          have k0 : fset (fset (fset (fset (fset K (18 + 4 * nh + 0) (nI ci)) (18 + 4 * nh + 1) g) (18 + 4 * nh + 2) x) (18 + 4 * nh + 3) (G 3)) 1 (nI nh + 1) 0 = nI nc := by
            repeat rw [fset_ne (by omega)]
            exact hK
          unfold payF
          rw [rec_in k0 h5 hci, rec_out, fset_ne (i := 4) (by omega), fset_ne (by omega), fset_ne (by omega), fset_ne (by omega), fset_ne (by omega), fset_ne (by omega), fset_ne (by omega), fset_ne (by omega), fset_ne (by omega), fset_ne (by omega), fset_ne (by omega), ← Int32.sub_eq_add_neg]
          funext y
          unfold fset
          by_cases q1 : y = 1
          · subst q1
            rw [if_neg (by omega), if_neg (by omega), if_pos rfl, if_pos rfl]
          · by_cases q4 : y = 4
            · subst q4
              rw [if_pos rfl, if_neg (by omega), if_pos rfl]
            · by_cases q8 : y = 8 + 2 * ci + 1
              · subst q8
                rw [if_neg q4, if_pos rfl, if_neg q1, if_neg q4, if_pos rfl]
              · rw [if_neg q4, if_neg q8, if_neg q1, if_neg q1, if_neg q4, if_neg q8]
        rw [hrow F ((h.lo (k := 0) (by omega)).trans hc.1), h.cl hci (by omega), h.lo (k := 4) (by omega)]
        refine okS_is (nh := nh + 1) (nI_pos' (by omega)) ?_ (Lv.addH (h.set.set.set.set.set.set.set) fun k hk => ?_)
        · generalize hG' : fset (fset (fset (fset (fset (fset (fset G (18 + 4 * nh + 0) (nI ci)) (18 + 4 * nh + 1) g) (18 + 4 * nh + 2) x) (18 + 4 * nh + 3) (G 3)) (8 + 2 * ci + 1) (G (8 + 2 * ci + 1) - x)) 4 (G 4 + x)) 1 (nI nh + 1) = G'
          have hsame : ∀ y, y ≠ 1 → y ≠ 4 → y ≠ 8 + 2 * ci + 1 → (y < 18 + 4 * nh ∨ 18 + 4 * nh + 4 ≤ y) → G' y = G y := by
            intro y a b c e
            rw [← hG']
            repeat rw [fset_ne (by omega)]
          have hp := pr_hi (G := G) (G' := G') fun y hy => hsame y (by omega) (by omega) (by omega) (by omega)
          obtain ⟨-, a2, a3, a4, a5, a6, a7, a8⟩ := hI
          have g3 := hsame 3 (by omega) (by omega) (by omega) (by omega)
          have r0 : G' (18 + 4 * nh + 0) = nI ci := by rw [← hG', fset_ne (by omega), fset_ne (by omega), fset_ne (by omega), fset_ne (by omega), fset_ne (by omega), fset_ne (by omega), fset_same]
          have r2 : G' (18 + 4 * nh + 2) = x := by rw [← hG', fset_ne (by omega), fset_ne (by omega), fset_ne (by omega), fset_ne (by omega), fset_same]
          have r3 : G' (18 + 4 * nh + 3) = G 3 := by rw [← hG', fset_ne (by omega), fset_ne (by omega), fset_ne (by omega), fset_same]
          refine ⟨⟨(hsame 0 (by omega) (by omega) (by omega) (by omega)).trans hc.1, h5, by rw [← hG', fset_same, nI_1], by omega, (hsame 2 (by omega) (by omega) (by omega) (by omega)).trans hc.2.2.2.2.1, hc.2.2.2.2.2⟩, by rw [g3]; exact a2, by rw [hsame 6 (by omega) (by omega) (by omega) (by omega)]; exact a3, by rw [hsame 7 (by omega) (by omega) (by omega) (by omega)]; exact a4, fun c hc' => ?_, fun i hi => ?_, fun c g hc => ?_, fun i hi => ?_⟩
          · by_cases e : c = nh
            · subst e
              unfold chQ
              rw [r0, r2, r3, g3]
              exact ⟨⟨ci, hci, rfl⟩, hx, a2.1, Int32.le_refl _⟩
            · have := a5 c (by omega)
              unfold chQ
              rw [hsame _ (by omega) (by omega) (by omega) (by omega), hsame _ (by omega) (by omega) (by omega) (by omega), hsame _ (by omega) (by omega) (by omega) (by omega), g3]
              exact this
          · rw [hp, g3]
            exact phQ_W h10 (by omega) (fun c hc' => hsame _ (by omega) (by omega) (by omega) (by omega)) (a6 i hi)
          · simp only [hp]; exact a7 c g hc
          · rw [hp]; exact a8 i hi
        · rcases (show k = 0 ∨ k = 1 ∨ k = 2 ∨ k = 3 by omega) with rfl | rfl | rfl | rfl
          · rw [fset_ne (by omega), fset_ne (by omega), fset_ne (by omega), fset_ne (by omega), fset_ne (by omega), fset_ne (by omega), fset_same, fset_ne (by omega), fset_ne (by omega), fset_ne (by omega), fset_ne (by omega), fset_ne (by omega), fset_ne (by omega), fset_same]
          · rw [fset_ne (by omega), fset_ne (by omega), fset_ne (by omega), fset_ne (by omega), fset_ne (by omega), fset_same, fset_ne (by omega), fset_ne (by omega), fset_ne (by omega), fset_ne (by omega), fset_ne (by omega), fset_same]
          · rw [fset_ne (by omega), fset_ne (by omega), fset_ne (by omega), fset_ne (by omega), fset_same, fset_ne (by omega), fset_ne (by omega), fset_ne (by omega), fset_ne (by omega), fset_same]
          · rw [fset_ne (by omega), fset_ne (by omega), fset_ne (by omega), fset_same, fset_ne (by omega), fset_ne (by omega), fset_ne (by omega), fset_same]
end SE
