/-! a new phrase: both sides do the same -/
theorem m1_of {b : Int32} (h : -1 ≤ b) : m1ok b := by
  unfold m1ok
  by_cases q : 0 ≤ b
  · exact Or.inr q
  · left
    rw [Int32.le_iff_toInt_le] at h q
    have e1 : Int32.toInt (-1) = -1 := by decide
    have e0 : Int32.toInt 0 = 0 := by decide
    rw [e1] at h
    rw [e0] at q
    exact Int32.toInt_inj.mp (by rw [e1]; omega)
theorem up63 : ∀ n, n < 64 → nI n ≤ 63 := by decide +kernel
theorem to63 {a : Int32} (h : 0 ≤ a ∧ a ≤ 63) : ∃ n, n < 64 ∧ a = nI n := upto (m := 64) (n := 64) (by decide +kernel) (by omega) ⟨h.1, Int32.lt_of_le_of_lt h.2 (by decide)⟩
/-- the row of a new phrase -/
def nwQ (v a b c : Int32) : Nat → Int32 := fun r => if r = 0 then v else if r = 1 then a else if r = 2 then b else if r = 3 then c else if r = 9 then 0 else -1
section SG
variable {F G : Nat → Int32} {nc nh np B : Nat}
theorem first_cond (h : Lv nc nh np F G) (h24 : np ≤ 24) {a b c : Int32} : ∀ k i, i + k = np → (firstR (wordsS F a b c) i k = -1 ↔ firstM (wordsS G a b c) i k < 0) := by
  intro k
  induction k with
  | zero => intro i _; exact ⟨fun _ => (by decide : (-100004 : Int32) < 0), fun _ => rfl⟩
  | succ k ih =>
    intro i hi
    have e : wordsS F a b c i ↔ wordsS G a b c i := by
      show (F _ = a ∧ F _ = b ∧ F _ = c) ↔ _
      rw [h.ph (by omega) (by omega), h.ph (by omega) (by omega), h.ph (by omega) (by omega)]
    unfold firstR firstM
    by_cases q : wordsS G a b c i
    · rw [if_pos q, if_pos (e.mpr q)]
      exact ⟨fun w => absurd w (nI_m1 (by omega)), fun w => absurd w (nI_pos (by omega))⟩
    · rw [if_neg q, if_neg (fun w => q (e.mp w))]
      exact ih (i + 1) (by omega)
theorem pr_new {K : Nat → Int32} {v a b c : Int32} {x : Int32} {r : Nat} (hr : r < 10) : pr (fset (phrF K np v a b c) 2 x) np r = nwQ v a b c r := by
  unfold pr phrF loseF nwQ
  rw [fset_ne (by omega)]
  rcases (show r = 0 ∨ r = 1 ∨ r = 2 ∨ r = 3 ∨ r = 4 ∨ r = 5 ∨ r = 6 ∨ r = 7 ∨ r = 8 ∨ r = 9 by omega) with rfl | rfl | rfl | rfl | rfl | rfl | rfl | rfl | rfl | rfl <;> (repeat rw [fset_ne (by omega)]) <;> rw [fset_same] <;> rfl
theorem pr_newM {K : Nat → Int32} {v a b c : Int32} {x : Int32} {r : Nat} (hr : r < 10) : pr (fset (freeF (fset (fset (fset (fset (fset K (58 + 10 * np + 0) v) (58 + 10 * np + 1) a) (58 + 10 * np + 2) b) (58 + 10 * np + 3) c) (58 + 10 * np + 9) 0) np) 2 x) np r = nwQ v a b c r := by
  unfold pr freeF nwQ
  rw [fset_ne (by omega)]
  rcases (show r = 0 ∨ r = 1 ∨ r = 2 ∨ r = 3 ∨ r = 4 ∨ r = 5 ∨ r = 6 ∨ r = 7 ∨ r = 8 ∨ r = 9 by omega) with rfl | rfl | rfl | rfl | rfl | rfl | rfl | rfl | rfl | rfl <;> (repeat rw [fset_ne (by omega)]) <;> rw [fset_same] <;> rfl
theorem phrase_ok (hI : Inv G nc nh np B) (h : Lv nc nh np F G) {v a b c : Int32} : okS B F (adP F np v a b c) (moP G np v a b c) := by
  have hc := hI.1
  have h24 := hc.2.2.2.2.2
  have e2 : F 2 = nI np := (h.lo (k := 2) (by omega)).trans hc.2.2.2.2.1
  unfold adP moP
  by_cases h1 : ¬ (0 ≤ v ∧ v ≤ 3) ∨ ¬ wordsOk a b c
  · rw [if_pos h1, if_pos h1]
    exact okS_no (by decide)
  · have hv : 0 ≤ v ∧ v ≤ 3 := Classical.byContradiction fun q => h1 (Or.inl q)
    have hw : wordsOk a b c := Classical.byContradiction fun q => h1 (Or.inr q)
    rw [if_neg h1, if_neg h1]
    have hf := first_cond (a := a) (b := b) (c := c) h h24 np 0 (by omega)
    by_cases h2 : firstM (wordsS G a b c) 0 np < 0
    · rw [if_pos (hf.mpr h2), if_neg (show ¬ ¬ firstM (wordsS G a b c) 0 np < 0 from fun w => w h2), e2, i32_ac]
      by_cases h3 : np = 24
      · rw [if_neg (fun w => (lt24 np h24).mp w h3), if_pos h3]
        exact okS_no (by decide)
      · rw [if_pos ((lt24 np h24).mpr h3), if_neg h3]
        have hlt : np < 24 := by omega
        generalize hG' : fset (freeF (fset (fset (fset (fset (fset G (58 + 10 * np + 0) v) (58 + 10 * np + 1) a) (58 + 10 * np + 2) b) (58 + 10 * np + 3) c) (58 + 10 * np + 9) 0) np) 2 (nI np + 1) = G'
        generalize hF' : fset (phrF F np v a b c) 2 (nI np + 1) = F'
        have hsame : ∀ y, y ≠ 2 → (y < 58 + 10 * np) → G' y = G y := by
          intro y e1 e2
          rw [← hG', fset_ne e1, free_out (Or.inl e2)]
          repeat rw [fset_ne (by omega)]
        have fsame : ∀ y, y ≠ 2 → (y < 58 + 10 * np) → F' y = F y := by
          intro y e1 e2
          rw [← hF', fset_ne e1]
          unfold phrF loseF
          repeat rw [fset_ne (by omega)]
        have hnew : ∀ r, r < 10 → pr G' np r = nwQ v a b c r := fun r hr => by rw [← hG']; exact pr_newM hr
        have hold : ∀ i, i < np → ∀ r, r < 10 → pr G' i r = pr G i r := fun i hi r hr => hsame _ (by omega) (by omega)
        have g2 : G' 2 = nI np + 1 := by rw [← hG', fset_same]
        have g3 : G' 3 = G 3 := hsame 3 (by omega) (by omega)
        refine okS_is (nc := nc) (nh := nh) (np := np + 1) (nI_pos' (by omega)) ?_ ?_
        · obtain ⟨-, a2, a3, a4, a5, a6, a7, a8⟩ := hI
          refine ⟨⟨(hsame 0 (by omega) (by omega)).trans hc.1, hc.2.1, (hsame 1 (by omega) (by omega)).trans hc.2.2.1, hc.2.2.2.1, g2.trans (nI_1 _), by omega⟩, by rw [g3]; exact a2, by rw [hsame 6 (by omega) (by omega)]; exact a3, by rw [hsame 7 (by omega) (by omega)]; exact a4, fun d hd => ?_, fun i hi => ?_, fun d g hd => ?_, fun i hi => ?_⟩
          · have := hc.2.2.2.1
            have := a5 d hd
            unfold chQ
            rw [hsame _ (by omega) (by omega), hsame _ (by omega) (by omega), hsame _ (by omega) (by omega), g3]
            exact this
          · have h10 := hc.2.2.2.1
            rw [g3]
            by_cases e : i = np
            · subst e
              refine phQ_eq hnew ⟨hv, to63 hw.1, m1_of hw.2.1.1, m1_of hw.2.2.1.1, Or.inl rfl, Or.inl rfl, Or.inl rfl, Or.inl rfl, Or.inl rfl, fun _ => rfl, fun _ => ⟨rfl, rfl⟩, Or.inl rfl, Or.inl rfl⟩
            · exact phQ_W h10 (Nat.le_refl _) (fun d hd => hsame _ (by omega) (by omega)) (phQ_eq (hold i (by omega)) (a6 i (by omega)))
          · have := a7 d g hd
            rw [sumN_end, Nat.zero_add, tk_eq hnew, sumN_eq (g := fun i => tk d g (pr G i)) fun i _ hi => tk_eq (hold i (by omega))]
            have e0 : tk d g (nwQ v a b c) = 0 := tk_fr (q := nwQ v a b c) hd
            omega
          · by_cases e : i = np
            · subst e
              exact ⟨0, by omega, (hnew 9 (by omega)).trans l0.symm⟩
            · rw [hold i (by omega) 9 (by omega)]
              exact a8 i (by omega)
        · refine Lv_mk (fun j hj => ?_) (fun i k hi hk => ?_) (fun i k hi hk => ?_) (fun i r hi hr => ?_)
          · by_cases e : j = 2
            · subst e
              rw [g2, ← hF', fset_same]
            · rw [hsame j e (by omega), fsame j e (by omega)]; exact h.lo hj
          · have := hc.2.1
            rw [hsame _ (by omega) (by omega), fsame _ (by omega) (by omega)]; exact h.cl hi hk
          · have := hc.2.2.2.1
            rw [hsame _ (by omega) (by omega), fsame _ (by omega) (by omega)]; exact h.ch hi hk
          · by_cases e : i = np
            · subst e
              rw [hnew r hr, ← hF']; exact pr_new hr
            · rw [hold i (by omega) r hr]
              exact (fsame _ (by omega) (by omega)).trans (h.ph (by omega) hr)
    · rw [if_neg (fun w => h2 (hf.mp w)), if_pos h2]
      exact okS_no (by decide)
end SG
