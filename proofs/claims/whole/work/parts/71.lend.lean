/-! lend: both sides do the same -/
section SL
variable {F G : Nat → Int32} {nc nh np B : Nat}
/-- what the model's lend does -/
def moX (G : Nat → Int32) (np i : Nat) (c g u : Int32) : Int32 × Option (Nat → Int32) :=
  if pageP G c g then moE G np i (ow G c.toNatClampNeg).toNatClampNeg (ow G (G (58 + 10 * i + 4)).toNatClampNeg).toNatClampNeg c g u else (-100001, none)
theorem Lv_lent (h : Lv nc nh np F G) (hc : cnt G nc nh np) {i : Nat} (hi : i < np) {c g u : Int32} : Lv nc nh np (lentF F i c g u) (lentF G i c g u) := by
  have e1 : Lv nc nh np (outF F i c g (G 3 + u)) (outF G i c g (G 3 + u)) := by
    unfold outF
    rw [h.ph (k := 4) hi (by omega), h.ph (k := 5) hi (by omega), h.ph (k := 9) hi (by omega)]
    exact h.set.set.set.set.set.set
  have c1 : cnt (outF G i c g (G 3 + u)) nc nh np := by
    obtain ⟨c1, c2, c3, c4, c5, c6⟩ := hc
    unfold outF cnt
    repeat rw [fset_ne (by omega)]
    exact ⟨c1, c2, c3, c4, c5, c6⟩
  unfold lentF
  rw [h.lo (k := 3) (by omega), h.lo (k := 6) (by omega), Lv_hold h hc, h.ph (k := 4) hi (by omega), Lv_hold h hc]
  have e2 := Lv_pay (a := holdF G c) (b := holdF G (G (58 + 10 * i + 4))) (x := G 6 * u) e1 c1
  rw [e2.lo (k := 5) (by omega)]
  exact e2.set
theorem lent_is (hc : cnt G nc nh np) {i o o2 : Nat} (ho : o < nc) (ho2 : o2 < nc) (hn : ¬ o2 = o) {c g u : Int32} (h1 : holdF G c = nI o) (h2 : holdF G (G (58 + 10 * i + 4)) = nI o2) : lentF G i c g u = mleF G i o o2 c g u := by
  have h5 := hc.2.1
  have k0 : outF G i c g (G 3 + u) 0 = nI nc := by
    unfold outF
    repeat rw [fset_ne (by omega)]
    exact hc.1
  unfold lentF payF
  rw [h1, h2, rec_in k0 h5 ho, rec_in (by rw [fset_ne (by omega)]; exact k0) h5 ho2, fset_ne (show 8 + 2 * o2 + 1 ≠ 8 + 2 * o + 1 by omega), fset_ne (show 5 ≠ 8 + 2 * o2 + 1 by omega), fset_ne (show 5 ≠ 8 + 2 * o + 1 by omega)]
  have ol : ∀ y, y < 58 → outF G i c g (G 3 + u) y = G y := by
    intro y hy
    unfold outF
    repeat rw [fset_ne (by omega)]
  rw [ol _ (by omega), ol _ (by omega), ol _ (by omega), ← Int32.sub_eq_add_neg]
  funext y
  by_cases hy : y < 58
  · unfold mleF
    rw [puts_out (by omega), fset_ne (show y ≠ 58 + 10 * i + 9 by omega), fset_ne (show y ≠ 58 + 10 * i + 6 by omega), fset_ne (show y ≠ 58 + 10 * i + 8 by omega), fset_ne (show y ≠ 58 + 10 * i + 7 by omega)]
    unfold fset
    rw [ol y hy]
  · rw [fset_ne (by omega), fset_ne (by omega), fset_ne (by omega)]
    unfold mleF outF putsF
    have z1 : ∀ (K : Nat → Int32) v, fset (fset (fset K (8 + 2 * o + 1) (G (8 + 2 * o + 1) - G 6 * u)) (8 + 2 * o2 + 1) v) 5 (G 5 + G 6 * u) y = K y := fun K v => by rw [fset_ne (by omega), fset_ne (by omega), fset_ne (by omega)]
    by_cases e4 : y = 58 + 10 * i + 4
    · subst e4
      rw [fset_ne (by omega), fset_ne (by omega), fset_ne (by omega), fset_same, fset_ne (by omega), fset_same]
    · by_cases e5 : y = 58 + 10 * i + 5
      · subst e5
        rw [fset_ne (by omega), fset_ne (by omega), fset_same, fset_same]
      · by_cases e6 : y = 58 + 10 * i + 6
        · subst e6
          rw [fset_ne (by omega), fset_same, fset_ne (by omega), fset_ne (by omega), fset_ne (by omega), fset_same]
        · by_cases e9 : y = 58 + 10 * i + 9
          · subst e9
            rw [fset_same, fset_ne (by omega), fset_ne (by omega), fset_same]
          · by_cases e7 : y = 58 + 10 * i + 7
            · subst e7
              rw [fset_ne (by omega), fset_ne (by omega), fset_ne (by omega), fset_ne (by omega), fset_ne (by omega), fset_same, fset_ne (by omega), fset_ne (by omega), fset_ne (by omega), fset_ne (by omega), fset_ne (by omega), fset_same]
            · by_cases e8 : y = 58 + 10 * i + 8
              · subst e8
                rw [fset_ne (by omega), fset_ne (by omega), fset_ne (by omega), fset_ne (by omega), fset_same, fset_ne (by omega), fset_ne (by omega), fset_ne (by omega), fset_ne (by omega), fset_same]
              · rw [fset_ne e9, fset_ne e6, fset_ne e5, fset_ne e4, fset_ne e8, fset_ne e7, fset_ne e5, fset_ne e4, fset_ne e9, fset_ne e6, fset_ne e8, fset_ne e7, z1]
theorem mle_out {i o o2 y : Nat} {c g u : Int32} (hy : 18 ≤ y) (h5 : o < 5) (h52 : o2 < 5) (h : y < 58 + 10 * i ∨ 58 + 10 * i + 10 ≤ y) : mleF G i o o2 c g u y = G y := by
  unfold mleF
  rw [puts_out h]
  repeat rw [fset_ne (by omega)]
/-- the phrase's row when it is lent -/
def leQ (q : Nat → Int32) (c g d : Int32) : Nat → Int32 := fun r => if r = 4 then c else if r = 5 then g else if r = 6 then d else if r = 7 then q 4 else if r = 8 then q 5 else if r = 9 then q 9 + 1 else q r
theorem pr_mle {i o o2 r : Nat} {c g u : Int32} (h5 : o < 5) (h52 : o2 < 5) (hr : r < 10) : pr (mleF G i o o2 c g u) i r = leQ (pr G i) c g (G 3 + u) r := by
  unfold mleF
  rw [pr_puts hr]
  unfold leQ pr
  by_cases e4 : r = 4
  · rw [if_pos e4, if_pos e4]
  · rw [if_neg e4, if_neg e4]
    by_cases e5 : r = 5
    · rw [if_pos e5, if_pos e5]
    · rw [if_neg e5, if_neg e5]
      by_cases e6 : r = 6
      · subst e6
        rw [if_pos rfl, fset_ne (by omega), fset_same]
      · rw [if_neg e6]
        by_cases e7 : r = 7
        · subst e7
          rw [if_pos rfl, fset_ne (by omega), fset_ne (by omega), fset_ne (by omega), fset_same]
        · rw [if_neg e7]
          by_cases e8 : r = 8
          · subst e8
            rw [if_pos rfl, fset_ne (by omega), fset_ne (by omega), fset_same]
          · rw [if_neg e8]
            by_cases e9 : r = 9
            · subst e9
              rw [if_pos rfl, fset_same]
            · rw [if_neg e9, fset_ne (by omega), fset_ne (by omega), fset_ne (by omega), fset_ne (by omega), fset_ne (by omega), fset_ne (by omega), fset_ne (by omega)]
theorem day_up {a u : Int32} (h : 0 ≤ a ∧ a ≤ 9999) (hu : 1 ≤ u ∧ u ≤ 99) : a < a + u := by
  have e1 : Int32.toInt 1 = 1 := by decide
  have e0 : Int32.toInt 0 = 0 := by decide
  have e9 : Int32.toInt 9999 = 9999 := by decide
  have e99 : Int32.toInt 99 = 99 := by decide
  rw [Int32.le_iff_toInt_le, Int32.le_iff_toInt_le] at h hu
  rw [e0, e9] at h
  rw [e1, e99] at hu
  rw [Int32.lt_iff_toInt_lt, Int32.toInt_add, Int.bmod_def]
  omega
theorem fee_up {a u : Int32} (h : 0 ≤ a ∧ a ≤ 99) (hu : 1 ≤ u ∧ u ≤ 20) : 0 ≤ a * u := by
  obtain ⟨n, hn, rfl⟩ := upto (m := 100) (n := 100) (by decide +kernel) (by omega) ⟨h.1, Int32.lt_of_le_of_lt h.2 (by decide)⟩
  obtain ⟨m, hm, rfl⟩ := upto (x := u) (m := 21) (n := 21) (by decide +kernel) (by omega) ⟨Int32.le_trans (by decide) hu.1, Int32.lt_of_le_of_lt hu.2 (by decide)⟩
  have key : ∀ n, n < 100 → ∀ m, m < 21 → 0 ≤ nI n * nI m := by decide +kernel
  exact key n hn m hm
theorem lend_inv (hI : Inv G nc nh np B) {i o o2 : Nat} (hi : i < np) {c g u : Int32} (hp : pageP G c g) (ho : o < nc) (ho2 : o2 < nc) (hn : ¬ o2 = o) (hu : 1 ≤ u ∧ u ≤ 20) (h1 : ow G c.toNatClampNeg = nI o) (h2 : ow G (G (58 + 10 * i + 4)).toNatClampNeg = nI o2) (h4 : ¬ G (58 + 10 * i + 4) = -1) (h6 : G (58 + 10 * i + 6) = -1) (hl : ¬ mleftV G np c g = 0) : Inv (mleF G i o o2 c g u) nc nh np (B + 1) := by
  have h5 := hI.1.2.1
  have hc0 := hp.1.1
  have hm := (mleft_0 hI (g := g) hc0).2
  obtain ⟨ch, hch, ec⟩ := upto hI.1.2.2.1 (by have := hI.1.2.2.2.1; omega) hp.1
  -- the money first
  generalize hK : fset (fset (fset G (8 + 2 * o + 1) (G (8 + 2 * o + 1) - G 6 * u)) (8 + 2 * o2 + 1) (G (8 + 2 * o2 + 1) + G 6 * u)) 5 (G 5 + G 6 * u) = K
  have kh : ∀ y, y ≠ 5 → y ≠ 8 + 2 * o + 1 → y ≠ 8 + 2 * o2 + 1 → K y = G y := fun y a b c => by rw [← hK, fset_ne a, fset_ne c, fset_ne b]
  have k18 : ∀ y, 18 ≤ y → K y = G y := fun y hy => kh y (by omega) (by omega) (by omega)
  have hIK : Inv K nc nh np B := Inv_low hI k18 ((kh 0 (by omega) (by omega) (by omega)).trans hI.1.1) (Nat.le_refl _) h5 (kh 1 (by omega) (by omega) (by omega)) (kh 2 (by omega) (by omega) (by omega)) (kh 3 (by omega) (by omega) (by omega)) (by rw [kh 6 (by omega) (by omega) (by omega)]; exact hI.2.2.1) (by rw [kh 7 (by omega) (by omega) (by omega)]; exact hI.2.2.2.1)
  have hq := hI.2.2.2.2.2.1 i hi
  have hpK := pr_hi (G := G) (G' := K) fun y hy => k18 y (by omega)
  have hW : ow K = ow G := funext fun c => k18 _ (by omega)
  obtain ⟨t, ht, et⟩ := hI.2.2.2.2.2.2.2 i hi
  have hr := fun r hr => pr_mle (G := G) (i := i) (o := o) (o2 := o2) (r := r) (c := c) (g := g) (u := u) (by omega) (by omega) hr
  have k3 : K 3 = G 3 := kh 3 (by omega) (by omega) (by omega)
  have out : ∀ y, y < 58 + 10 * i ∨ 58 + 10 * i + 10 ≤ y → mleF G i o o2 c g u y = K y := by
    intro y hy
    unfold mleF
    rw [puts_out hy, fset_ne (by omega), fset_ne (by omega), fset_ne (by omega), fset_ne (by omega), hK]
  have hd := day_up hI.2.1 ⟨hu.1, Int32.le_trans hu.2 (by decide)⟩
  refine Inv_row hIK hi out ?_ (fun c0 g0 h0 => ?_) (by omega) ⟨t + 1, by omega, ?_⟩
  · refine phQ_eq hr ?_
    rw [hW, k3]
    obtain ⟨a0, a1, a2, a3, a4, a7, a5, a6, a8, b4, b6, b7, b8⟩ := hq
    refine ⟨a0, a1, a2, a3, Or.inr ⟨ch, hch, ec⟩, a4, Or.inr hp.2.1, Or.inr (Int32.le_trans hI.2.1.1 (Int32.le_of_lt hd)), a5, fun e => ?_, fun e => ?_, Or.inr hd, Or.inr ?_⟩
    · exact absurd (show c = -1 from e) (n1c hc0 ∘ Eq.symm)
    · have e' : G 3 + u = -1 := e
      rw [e'] at hd
      exact absurd (Int32.lt_of_le_of_lt hI.2.1.1 hd) (by decide)
    · show ¬ ow G (G (58 + 10 * i + 4)).toNatClampNeg = ow G c.toNatClampNeg
      rw [h1, h2]
      exact fun e => hn (nI_eqN e (by omega) (by omega))
  · rw [tk_eq (q := leQ (pr G i) c g (G 3 + u)) hr]
    simp only [hpK]
    obtain ⟨a0, a1, a2, a3, a4, a7, a5, a6, a8, b4, b6, b7, b8⟩ := hq
    have hs := hI.2.2.2.2.2.2.1 c0 g0 h0
    show _ + ((if c = c0 ∧ g = g0 then 1 else 0) + (if pr G i 4 = c0 ∧ pr G i 5 = g0 then 1 else 0)) ≤ 3 + ((if pr G i 4 = c0 ∧ pr G i 5 = g0 then 1 else 0) + _)
    by_cases e : c = c0 ∧ g = g0
    · obtain ⟨rfl, rfl⟩ := e
      have h3 : ¬ sumN (fun i => tk c g (pr G i)) 0 np = 3 := fun w => hl (hm.mpr w)
      rw [if_pos ⟨rfl, rfl⟩]
      omega
    · rw [if_neg e]
      omega
  · rw [hr 9 (by omega), ← nI_1, ← et]; rfl
theorem lend_ok (hI : Inv G nc nh np B) (h : Lv nc nh np F G) {i : Nat} (hi : i < np) {c g u : Int32} : okS (B + 1) F (leP F np i c g u) (moX G np i c g u) := by
  have hc := hI.1
  have hw := hI.wh hi
  have h5 := hc.2.1
  have h10 := hc.2.2.2.1
  unfold leP moX
  have hpg : pageP F c g = pageP G c g := Lv_page h hc
  by_cases h1 : pageP G c g
  · have hc0 : 0 ≤ c := h1.1.1
    have h1F : pageP F c g := hpg ▸ h1
    obtain ⟨ch, hch, rfl⟩ := upto hc.2.2.1 (by omega) h1.1
    obtain ⟨o, ho, eo⟩ := hI.own hch
    have h0 := mleft_0 hI (g := g) hc0
    have eow : ow G (nI ch).toNatClampNeg = nI o := by rw [nI_clamp (by omega)]; exact eo
    rw [if_pos h1]
    unfold moE
    rw [eow, nI_clamp (n := o) (by omega)]
    by_cases hu : 1 ≤ u ∧ u ≤ 20
    · rw [if_neg (show ¬ (¬ pageP F (nI ch) g ∨ ¬ (1 ≤ u ∧ u ≤ 20)) from fun q => q.elim (fun q => q h1F) (fun q => q hu)), if_neg (show ¬ ¬ (1 ≤ u ∧ u ≤ 20) from fun q => q hu), h.ph (k := 4) hi (by omega), h.ph (k := 6) hi (by omega), Lv_hold h hc, Lv_hold h hc, Lv_pur h hc, h.lo (k := 6) (by omega), Lv_left h, left_same hc0 (fun j hj => hI.hom hj), hold_at hc hch, eo, pur_in hc ho]
      obtain ⟨a0, a1, a2, a3, a4, a7, a5, hd, a8, b4, b6, b7, b8⟩ := hI.2.2.2.2.2.1 i hi
      have e6 : (¬ G (58 + 10 * i + 6) = -1) ↔ 0 ≤ G (58 + 10 * i + 6) := by
        refine ⟨fun q => hd.resolve_left q, fun q e => ?_⟩
        rw [e] at q; exact absurd q (by decide)
      rcases hw.1 with h4 | ⟨c4, hc4, h4⟩
      · rw [if_pos (Or.inl h4), if_pos (Or.inl (by rw [h4]; decide))]
        exact okS_no (by decide)
      · obtain ⟨o2, ho2, eo2⟩ := hI.own hc4
        have eow2 : ow G (G (58 + 10 * i + 4)).toNatClampNeg = nI o2 := by rw [h4, nI_clamp (by omega)]; exact eo2
        have ehw : holdF G (G (58 + 10 * i + 4)) = nI o2 := by rw [h4, hold_at hc hc4]; exact eo2
        have n4 : ¬ G (58 + 10 * i + 4) = -1 := by rw [h4]; exact nI_m1 (by omega)
        have n5 : ¬ G (58 + 10 * i + 4) < 0 := by rw [h4]; exact nI_pos (by omega)
        rw [eow2, nI_clamp (n := o2) (by omega), ehw]
        have eq2 : nI o2 = nI o ↔ o2 = o := ⟨fun q => nI_eqN q (by omega) (by omega), fun q => by rw [q]⟩
        by_cases hb : G (58 + 10 * i + 4) < 0 ∨ 0 ≤ G (58 + 10 * i + 6) ∨ o2 = o ∨ G (8 + 2 * o + 1) < G 6 * u
        · rw [if_pos hb, if_pos (show G (58 + 10 * i + 4) = -1 ∨ ¬ G (58 + 10 * i + 6) = -1 ∨ nI o2 = nI o ∨ ¬ G 6 * u ≤ G (8 + 2 * o + 1) from by
            rcases hb with q | q | q | q
            · exact absurd q n5
            · exact Or.inr (Or.inl (e6.mpr q))
            · exact Or.inr (Or.inr (Or.inl (eq2.mpr q)))
            · exact Or.inr (Or.inr (Or.inr (by rw [Int32.not_le]; exact q))))]
          exact okS_no (by decide)
        · rw [if_neg hb, if_neg (show ¬ (G (58 + 10 * i + 4) = -1 ∨ ¬ G (58 + 10 * i + 6) = -1 ∨ nI o2 = nI o ∨ ¬ G 6 * u ≤ G (8 + 2 * o + 1)) from by
            rintro (q | q | q | q)
            · exact n4 q
            · exact hb (Or.inr (Or.inl (e6.mp q)))
            · exact hb (Or.inr (Or.inr (Or.inl (eq2.mp q))))
            · exact hb (Or.inr (Or.inr (Or.inr (by rw [← Int32.not_le]; exact q)))))]
          have hn : ¬ o2 = o := fun q => hb (Or.inr (Or.inr (Or.inl q)))
          by_cases h3 : mleftV G np (nI ch) g = 0
          · rw [if_pos h3, if_neg (show ¬ 0 < mleftV G np (nI ch) g by rw [h3]; decide)]
            exact okS_no (by decide)
          · have h5' : 0 < mleftV G np (nI ch) g := by
              rw [← Int32.not_le]
              exact fun q => h3 (Int32.le_antisymm q h0.1)
            have h6 : G (58 + 10 * i + 6) = -1 := hd.resolve_right (fun q => hb (Or.inr (Or.inl q)))
            rw [if_neg h3, if_pos h5']
            refine okS_is (fee_up hI.2.2.1 hu) (lend_inv hI hi h1 ho ho2 hn hu eow eow2 n4 h6 h3) ?_
            rw [← lent_is hc ho ho2 hn ((hold_at hc hch).trans eo) ehw]
            exact Lv_lent h hc hi
    · rw [if_pos (Or.inr hu), if_pos hu]
      exact okS_no (by decide)
  · have h1F : ¬ pageP F c g := fun q => h1 (hpg ▸ q)
    rw [if_pos (Or.inl h1F), if_neg h1]
    exact okS_no (by decide)
end SL
