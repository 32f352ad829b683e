/-! sell: both sides do the same -/
theorem hmR_at2 {P : (Nat → Int32) → Nat → Prop} [∀ F i, Decidable (P F i)] {Z : (Nat → Int32) → Prop} {N : Nat} (hZ : ∀ F i, i < N → Z F → Z (homeF F i)) (hP : ∀ F i j, Z F → j ≠ i → j < N → (P (homeF F i) j ↔ P F j)) : ∀ (k i : Nat) (F : Nat → Int32), Z F → i + k ≤ N → (∀ y, y < 58 → (hmR P F i k).1 y = F y) ∧ (∀ j r, r < 10 → pr (hmR P F i k).1 j r = if i ≤ j ∧ j < i + k ∧ P F j then hmQ (pr F j) r else pr F j r) ∧ (hmR P F i k).2 = sumR (fun j => bI (P F j)) i k := by
  intro k
  induction k with
  | zero =>
    intro i F _ _
    refine ⟨fun _ _ => rfl, fun j r _ => ?_, rfl⟩
    rw [if_neg (by omega)]; rfl
  | succ k ih =>
    intro i F z hN
    unfold hmR sumR
    by_cases h : P F i
    · rw [if_pos h]
      obtain ⟨h1, h2, h3⟩ := ih (i + 1) (homeF F i) (hZ F i (by omega) z) (by omega)
      refine ⟨fun y hy => (h1 y hy).trans (home_out (by omega)), fun j r hr => (h2 j r hr).trans ?_, ?_⟩
      · by_cases e : j = i
        · subst e
          rw [if_neg (by omega), if_pos ⟨by omega, by omega, h⟩, pr_home]
        · by_cases q : i ≤ j ∧ j < i + (k + 1) ∧ P F j
          · rw [if_pos q, if_pos ⟨by omega, by omega, (hP F i j z e (by omega)).mpr q.2.2⟩]
            unfold hmQ
            rw [pr_home_ne e (by omega), pr_home_ne e (by omega), pr_home_ne e hr]
          · rw [if_neg q, if_neg (fun w => q ⟨by omega, by omega, (hP F i j z e (by omega)).mp w.2.2⟩)]
            exact pr_home_ne e hr
      · show 1 + (hmR P (homeF F i) (i + 1) k).2 = _
        rw [h3, show bI (P F i) = 1 from if_pos h]
        congr 1
        refine sumR_same _ _ fun j hj hj2 => ?_
        have := hP F i j z (by omega) (by omega)
        unfold bI
        by_cases q : P F j
        · rw [if_pos q, if_pos (this.mpr q)]
        · rw [if_neg q, if_neg (fun w => q (this.mp w))]
    · rw [if_neg h]
      obtain ⟨h1, h2, h3⟩ := ih (i + 1) F z (by omega)
      refine ⟨h1, fun j r hr => (h2 j r hr).trans ?_, ?_⟩
      · by_cases q : i ≤ j ∧ j < i + (k + 1) ∧ P F j
        · have : j ≠ i := fun e => by subst e; exact h q.2.2
          rw [if_pos q, if_pos ⟨by omega, by omega, q.2.2⟩]
        · rw [if_neg q, if_neg (fun w => q ⟨by omega, by omega, w.2.2⟩)]
      · rw [h3, show bI (P F i) = 0 from if_neg h, Int32.zero_add]
abbrev endP (K : Nat → Int32) (i : Nat) : Prop := ¬ K (58 + 10 * i + 7) = -1 ∧ holdF K (K (58 + 10 * i + 7)) = holdF K (K (58 + 10 * i + 4))
theorem end_hm : ∀ (k i : Nat) (F : Nat → Int32), endR F i k = hmR endP F i k := by
  intro k
  induction k with
  | zero => intro i F; rfl
  | succ k ih => intro i F; unfold endR hmR; rw [ih, ih]
theorem sll_hm {c : Int32} : ∀ (k i : Nat) (F : Nat → Int32), sllR F c i k = hmR (fun K i => sllP K c i) F i k := by
  intro k
  induction k with
  | zero => intro i F; rfl
  | succ k ih => intro i F; unfold sllR hmR; rw [ih, ih, home_same]
section SR
variable {F G : Nat → Int32} {nc nh np B : Nat}
theorem wh_home {K : Nat → Int32} {i : Nat} (hw : ∀ j, j < np → whereOk K nh j) : ∀ j, j < np → whereOk (homeF K i) nh j := by
  intro j hj
  have h := hw j hj
  unfold whereOk at h ⊢
  by_cases e : j = i
  · subst e
    have a4 : homeF K j (58 + 10 * j + 4) = K (58 + 10 * j + 7) := pr_home (r := 4)
    have a7 : homeF K j (58 + 10 * j + 7) = -1 := pr_home (r := 7)
    rw [a4, a7]
    exact ⟨h.2, Or.inl rfl⟩
  · rw [home_out (by omega), home_out (by omega)]; exact h
theorem end_at {K : Nat → Int32} (hK : K 1 = nI nh) (h10 : nh ≤ 10) : (∀ y, y < 58 → (endR K 0 np).1 y = K y) ∧ (∀ j r, j < np → r < 10 → pr (endR K 0 np).1 j r = if endP K j then hmQ (pr K j) r else pr K j r) ∧ (endR K 0 np).2 = sumR (fun j => bI (endP K j)) 0 np := by
  obtain ⟨h1, h2, h3⟩ := hmR_at2 (P := endP) (Z := fun K => K 1 = nI nh) (N := np) (fun K i _ z => (home_out (by omega)).trans z) (fun K i j z e _ => by
    have b7 : homeF K i (58 + 10 * j + 7) = K (58 + 10 * j + 7) := home_out (by omega)
    have b4 : homeF K i (58 + 10 * j + 4) = K (58 + 10 * j + 4) := home_out (by omega)
    have bh : ∀ c, holdF (homeF K i) c = holdF K c := by
      intro c
      unfold holdF
      rw [home_out (by omega)]
      by_cases q : 0 ≤ c ∧ c < K 1
      · rw [if_pos q, if_pos q]
        obtain ⟨m, hm, rfl⟩ := upto z (by omega) q
        rw [nI_clamp (by omega)]
        exact home_out (by omega)
      · rw [if_neg q, if_neg q]
    unfold endP
    rw [b7, b4, bh, bh]) np 0 K hK (by omega)
  rw [end_hm]
  refine ⟨h1, fun j r hj hr => (h2 j r hr).trans ?_, h3⟩
  by_cases q : endP K j
  · rw [if_pos q, if_pos ⟨by omega, by omega, q⟩]
  · rw [if_neg q, if_neg (fun w => q w.2.2)]
theorem book_home {K : Nat → Int32} {i j k : Nat} (h10 : nh ≤ 10) (e : j ≠ i) (hk : k < 10) (hw : K (58 + 10 * j + k) = -1 ∨ ∃ c, c < nh ∧ K (58 + 10 * j + k) = nI c) : bookG (homeF K i) j k = bookG K j k := by
  unfold bookG
  rw [home_out (y := 58 + 10 * j + k) (by omega)]
  rcases hw with q | ⟨c, hc, q⟩
  · rw [q]; exact home_out (by have : (-1 : Int32).toNatClampNeg = 0 := by decide
                               omega)
  · rw [q, nI_clamp (by omega)]; exact home_out (by omega)
theorem sll_at {K : Nat → Int32} {c : Int32} (h10 : nh ≤ 10) (hw : ∀ j, j < np → whereOk K nh j) : (∀ y, y < 58 → (sllR K c 0 np).1 y = K y) ∧ (∀ j r, j < np → r < 10 → pr (sllR K c 0 np).1 j r = if sllP K c j then hmQ (pr K j) r else pr K j r) ∧ (sllR K c 0 np).2 = sumR (fun j => bI (sllP K c j)) 0 np := by
  obtain ⟨h1, h2, h3⟩ := hmR_at2 (P := fun K i => sllP K c i) (Z := fun K => ∀ j, j < np → whereOk K nh j) (N := np) (fun K i _ z => wh_home z) (fun K i j z e hj => by
    have b7 : homeF K i (58 + 10 * j + 7) = K (58 + 10 * j + 7) := home_out (by omega)
    have b6 : homeF K i (58 + 10 * j + 6) = K (58 + 10 * j + 6) := home_out (by omega)
    have b4 : homeF K i (58 + 10 * j + 4) = K (58 + 10 * j + 4) := home_out (by omega)
    unfold sllP
    rw [b7, b6, b4, book_home h10 e (by omega) (z j hj).2, book_home h10 e (by omega) (z j hj).1]) np 0 K hw (by omega)
  rw [sll_hm]
  refine ⟨h1, fun j r hj hr => (h2 j r hr).trans ?_, h3⟩
  by_cases q : sllP K c j
  · rw [if_pos q, if_pos ⟨by omega, by omega, q⟩]
  · rw [if_neg q, if_neg (fun w => q w.2.2)]
theorem sl_is {K : Nat → Int32} (h0 : K 0 = nI nc) (h5 : nc ≤ 5) {i ci o : Nat} {x : Int32} (hci : ci < nc) (ho : o < nc) (hn : ¬ o = ci) (hown : K (18 + 4 * i + 0) = nI o) : slF K i ci x = mslF K i ci o x := by
  unfold slF mslF payF
  rw [hown, rec_in h0 h5 hci, rec_in (by rw [fset_ne (by omega)]; exact h0) h5 ho, fset_ne (show 8 + 2 * o + 1 ≠ 8 + 2 * ci + 1 by omega), ← Int32.sub_eq_add_neg]
theorem sell_ok (hI : Inv G nc nh np B) (h : Lv nc nh np F G) {i ci o : Nat} (hi : i < nh) (hci : ci < nc) (ho : o < nc) (hown : G (18 + 4 * i + 0) = nI o) {x : Int32} : okS B F (slR F np i ci x) (moB G np i ci o x) := by
  have hc := hI.1
  have h5 := hc.2.1
  have h10 := hc.2.2.2.1
  have f0 : F 0 = nI nc := (h.lo (k := 0) (by omega)).trans hc.1
  have fown : F (18 + 4 * i + 0) = nI o := (h.ch hi (by omega)).trans hown
  unfold slR moB
  by_cases hx : 0 ≤ x ∧ x ≤ 999
  · rw [if_neg (show ¬ ¬ (0 ≤ x ∧ x ≤ 999) from fun q => q hx), if_neg (show ¬ ¬ (0 ≤ x ∧ x ≤ 999) from fun q => q hx), Lv_pur h hc, pur_in hc hci, fown]
    have eq2 : nI o = nI ci ↔ o = ci := ⟨fun q => nI_eqN q (by omega) (by omega), fun q => by rw [q]⟩
    by_cases hb : o = ci ∨ G (8 + 2 * ci + 1) < x
    · rw [if_pos hb, if_pos (show nI o = nI ci ∨ ¬ x ≤ G (8 + 2 * ci + 1) from hb.imp eq2.mpr (fun q => by rw [Int32.not_le]; exact q))]
      exact okS_no (by decide)
    · rw [if_neg hb, if_neg (show ¬ (nI o = nI ci ∨ ¬ x ≤ G (8 + 2 * ci + 1)) from fun q => hb (q.imp eq2.mp (fun q => by rw [← Int32.not_le]; exact q)))]
      have hn : ¬ o = ci := fun q => hb (Or.inl q)
      rw [sl_is f0 h5 hci ho hn fown]
      generalize hS : mslF G i ci o x = S
      have hKS : Lv nc nh np (mslF F i ci o x) S := by
        rw [← hS]
        unfold mslF
        rw [h.cl hci (by omega), h.cl ho (by omega), h.lo (k := 3) (by omega)]
        exact h.set.set.set.set.set
      generalize mslF F i ci o x = K at hKS
      have sh : ∀ y, 58 ≤ y → S y = G y := fun y hy => by rw [← hS]; exact mslF_hi (by omega) (by omega) (by omega) hy
      have cS : cnt S nc nh np := by rw [← hS]; exact mslF_cnt hc
      have sp := pr_hi sh
      have slo : ∀ y, y < 8 → S y = G y := by
        intro y hy
        rw [← hS]
        unfold mslF
        repeat rw [fset_ne (by omega)]
      have sch : ∀ c, c ≠ i → ∀ k, k < 4 → S (18 + 4 * c + k) = G (18 + 4 * c + k) := by
        intro c hc k hk
        rw [← hS]
        unfold mslF
        repeat rw [fset_ne (by omega)]
      have wS : ∀ j, j < np → whereOk S nh j := by
        intro j hj
        have := hI.wh hj
        unfold whereOk at this ⊢
        rw [sh _ (by omega), sh _ (by omega)]; exact this
      have k1 : K 1 = nI nh := (hKS.lo (k := 1) (by omega)).trans cS.2.2.1
      obtain ⟨e1, e2, e3⟩ := end_at (np := np) k1 h10
      obtain ⟨m1, m2, m3⟩ := sll_at (np := np) (c := nI i) h10 wS
      -- who goes home
      have hold : ∀ c, c < nh → holdF K (nI c) = S (18 + 4 * c + 0) := fun c hc' => by rw [Lv_hold hKS cS, hold_at cS hc']
      have hcond : ∀ j, j < np → (endP K j ↔ sllP S (nI i) j) := by
        intro j hj
        have hq := hI.2.2.2.2.2.1 j hj
        have hm := m1_at hq
        have k7 : K (58 + 10 * j + 7) = pr G j 7 := (hKS.ph hj (by omega)).trans (sh _ (by omega))
        have k4 : K (58 + 10 * j + 4) = pr G j 4 := (hKS.ph hj (by omega)).trans (sh _ (by omega))
        have s7 : S (58 + 10 * j + 7) = pr G j 7 := sh _ (by omega)
        have s4 : S (58 + 10 * j + 4) = pr G j 4 := sh _ (by omega)
        have s6 : S (58 + 10 * j + 6) = pr G j 6 := sh _ (by omega)
        unfold endP sllP bookG
        rw [k7, k4, s7, s4, s6]
        by_cases h7 : pr G j 7 = -1
        · rw [h7]
          exact ⟨fun w => absurd rfl w.1, fun w => absurd (show (-1 : Int32) < 0 by decide) w.1.2.1⟩
        · obtain ⟨⟨c7, hc7, q7⟩, c4, hc4, q4⟩ := hm h7
          obtain ⟨a0, a1, a2, a3, a4, a7, a5, a6, a8, b4, b6, b7, b8⟩ := hq
          have n6 : 0 ≤ pr G j 6 := a6.resolve_left fun e => h7 (b6 e).1
          rw [q7, q4, hold c7 hc7, hold c4 hc4, nI_clamp (by omega), nI_clamp (by omega)]
          have n7 := nI_pos (n := c7) (by omega)
          refine ⟨fun w => ⟨⟨n6, n7, ?_⟩, w.2⟩, fun w => ⟨fun e => ?_, w.2⟩⟩
          · by_cases u4 : c4 = i
            · exact Or.inl (by rw [u4])
            · by_cases u7 : c7 = i
              · exact Or.inr (by rw [u7])
              · exfalso
                have b := b8.resolve_left h7
                rw [q7, q4, nI_clamp (by omega), nI_clamp (by omega)] at b
                have w2 := w.2
                rw [sch c7 u7 0 (by omega), sch c4 u4 0 (by omega)] at w2
                exact b w2
          · rw [e] at n7; exact absurd n7 (by decide)
      have kp : ∀ j r, j < np → r < 10 → pr K j r = pr S j r := fun j r hj hr => hKS.ph hj hr
      rw [e3, show sumR (fun j => bI (endP K j)) 0 np = (sllR S (nI i) 0 np).2 from by
        rw [m3]
        refine sumR_same _ _ fun j _ hj => ?_
        have := hcond j (by omega)
        unfold bI
        by_cases q : sllP S (nI i) j
        · rw [if_pos q, if_pos (this.mpr q)]
        · rw [if_neg q, if_neg (fun w => q (this.mp w))]]
      refine okS_is (by rw [m3]; exact count_pos hc.2.2.2.2.2) (nc := nc) (nh := nh) (np := np) ?_ (Lv_mk (fun j hj => ?_) (fun c k hc' hk => ?_) (fun c k hc' hk => ?_) fun j r hj hr => ?_)
      · obtain ⟨-, a2, a3, a4, a5, a6, a7, a8⟩ := hI
        generalize (sllR S (nI i) 0 np).1 = R at m1 m2
        have r3 : R 3 = G 3 := (m1 3 (by omega)).trans (slo 3 (by omega))
        refine ⟨⟨(m1 0 (by omega)).trans cS.1, h5, (m1 1 (by omega)).trans cS.2.2.1, h10, (m1 2 (by omega)).trans cS.2.2.2.2.1, hc.2.2.2.2.2⟩, by rw [r3]; exact a2, by rw [m1 6 (by omega), slo 6 (by omega)]; exact a3, by rw [m1 7 (by omega), slo 7 (by omega)]; exact a4, fun c hc' => ?_, fun j hj => ?_, fun c g h0 => ?_, fun j hj => ?_⟩
        · unfold chQ
          rw [m1 _ (by omega), m1 _ (by omega), m1 _ (by omega), r3]
          by_cases e : c = i
          · subst e
            have w0 : S (18 + 4 * c + 0) = nI ci := by
              rw [← hS]; unfold mslF
              rw [fset_ne (by omega), fset_ne (by omega), fset_same]
            have w2 : S (18 + 4 * c + 2) = x := by
              rw [← hS]; unfold mslF
              rw [fset_ne (by omega), fset_same]
            have w3 : S (18 + 4 * c + 3) = G 3 := by
              rw [← hS]; unfold mslF
              rw [fset_same]
            rw [w0, w2, w3]
            exact ⟨⟨ci, hci, rfl⟩, hx, a2.1, Int32.le_refl _⟩
          · rw [sch c e _ (by omega), sch c e _ (by omega), sch c e _ (by omega)]
            exact a5 c hc'
        · have hq := a6 j hj
          have hm := m1_at hq
          rw [r3]
          by_cases q : sllP S (nI i) j
          · refine phQ_eq (fun r hr => by rw [m2 j r hj hr, if_pos q, sp]) (phQ_hm (W := ow G) (day := G 3) hq)
          · refine phQ_eq (fun r hr => by rw [m2 j r hj hr, if_neg q, sp]) ?_
            have q' : ¬ endP K j := fun w => q ((hcond j hj).mp w)
            obtain ⟨b0, b1, b2, b3, d4, d7, d5, d6, d8, b4, b6, b7, b8⟩ := hq
            refine ⟨b0, b1, b2, b3, d4, d7, d5, d6, d8, b4, b6, b7, ?_⟩
            by_cases h7 : pr G j 7 = -1
            · exact Or.inl h7
            · obtain ⟨⟨c7, hc7, q7⟩, c4, hc4, q4⟩ := hm h7
              refine Or.inr fun w => q' ?_
              rw [q7, q4, nI_clamp (by omega), nI_clamp (by omega)] at w
              have k7 : K (58 + 10 * j + 7) = nI c7 := ((hKS.ph hj (by omega)).trans (sh _ (by omega))).trans q7
              have k4 : K (58 + 10 * j + 4) = nI c4 := ((hKS.ph hj (by omega)).trans (sh _ (by omega))).trans q4
              unfold endP
              rw [k7, k4, hold c7 hc7, hold c4 hc4]
              refine ⟨nI_m1 (by omega), ?_⟩
              have u7 : R (18 + 4 * c7 + 0) = S (18 + 4 * c7 + 0) := m1 _ (by omega)
              have u4 : R (18 + 4 * c4 + 0) = S (18 + 4 * c4 + 0) := m1 _ (by omega)
              rw [← u7, ← u4]; exact w
        · refine Nat.le_trans (sumN_le np 0 fun j _ hj => ?_) (a7 c g h0)
          by_cases q : sllP S (nI i) j
          · rw [tk_eq (q := hmQ (pr G j)) (fun r hr => by rw [m2 j r (by omega) hr, if_pos q, sp])]
            exact tk_hm h0
          · exact Nat.le_of_eq (tk_eq (fun r hr => by rw [m2 j r (by omega) hr, if_neg q, sp]))
        · obtain ⟨t, u, y⟩ := a8 j hj
          refine ⟨t, u, ?_⟩
          rw [m2 j 9 hj (by omega)]
          by_cases q : sllP S (nI i) j
          · rw [if_pos q, sp]; exact y
          · rw [if_neg q, sp]; exact y
      · rw [e1 j (by omega), m1 j (by omega)]; exact hKS.lo hj
      · rw [e1 _ (by omega), m1 _ (by omega)]; exact hKS.cl hc' hk
      · rw [e1 _ (by omega), m1 _ (by omega)]; exact hKS.ch hc' hk
      · rw [e2 j r hj hr, m2 j r hj hr]
        have := hcond j hj
        by_cases q : sllP S (nI i) j
        · rw [if_pos q, if_pos (this.mpr q)]
          exact hmQ_eq (fun r hr => kp j r hj hr) hr
        · rw [if_neg q, if_neg (fun w => q (this.mp w))]
          exact kp j r hj hr
  · rw [if_pos hx, if_pos hx]
    exact okS_no (by decide)
end SR
