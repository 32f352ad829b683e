/-! buyBack: both sides do the same -/
theorem i32_100 : Int32.toInt 100 = 100 := by decide
theorem i32_999 : Int32.toInt 999 = 999 := by decide
theorem i32_nn {x : Int32} : 0 ≤ x ↔ 0 ≤ x.toInt := by rw [Int32.le_iff_toInt_le, i32_0]
theorem mul_rng {a b m n : Int} (ha : 0 ≤ a) (hm : a ≤ m) (hb : 0 ≤ b) (hn : b ≤ n) : 0 ≤ a * b ∧ a * b ≤ m * n := ⟨Int.mul_nonneg ha hb, Int.mul_le_mul hm hn hb (Int.le_trans ha hm)⟩
theorem wor_rng {p l d s : Int32} (hp : 0 ≤ p ∧ p ≤ 999) (hl : 0 ≤ l ∧ l ≤ 100) (hs : 0 ≤ s ∧ s ≤ d) (hd : d ≤ 9999) : 0 ≤ p * (if 0 ≤ 100 - l * (d - s) then 100 - l * (d - s) else 0) / 100 := by
  rw [Int32.le_iff_toInt_le, Int32.le_iff_toInt_le, i32_0] at hp hl hs
  rw [i32_999] at hp
  rw [i32_100] at hl
  rw [Int32.le_iff_toInt_le, i32_9999] at hd
  have e1 : (d - s).toInt = d.toInt - s.toInt := by
    rw [Int32.toInt_sub, Int.bmod_def]; omega
  have r1 := mul_rng hl.1 hl.2 (show 0 ≤ d.toInt - s.toInt by omega) (show d.toInt - s.toInt ≤ 9999 by omega)
  have e2 : (l * (d - s)).toInt = l.toInt * (d.toInt - s.toInt) := by
    rw [Int32.toInt_mul, e1, Int.bmod_def]; omega
  have e3 : (100 - l * (d - s)).toInt = 100 - l.toInt * (d.toInt - s.toInt) := by
    rw [Int32.toInt_sub, e2, i32_100, Int.bmod_def]; omega
  have hh : 0 ≤ (if 0 ≤ 100 - l * (d - s) then 100 - l * (d - s) else 0 : Int32).toInt ∧ (if 0 ≤ 100 - l * (d - s) then 100 - l * (d - s) else 0 : Int32).toInt ≤ 100 := by
    by_cases q : 0 ≤ 100 - l * (d - s)
    · rw [if_pos q, e3]
      rw [i32_nn, e3] at q
      omega
    · rw [if_neg q, i32_0]; omega
  generalize (if 0 ≤ 100 - l * (d - s) then 100 - l * (d - s) else 0 : Int32) = h at hh
  have r4 := mul_rng hp.1 hp.2 hh.1 hh.2
  have e4 : (p * h).toInt = p.toInt * h.toInt := by
    rw [Int32.toInt_mul, Int.bmod_def]; omega
  rw [i32_nn, Int32.toInt_div, e4, i32_100, Int.tdiv_eq_ediv_of_nonneg r4.1, Int.bmod_def]
  omega
section SU
variable {F G : Nat → Int32} {nc nh np B : Nat}
theorem wor_pos (hI : Inv G nc nh np B) {i : Nat} (hi : i < nh) : 0 ≤ mworF G i := by
  obtain ⟨b1, b2, b3⟩ := hI.2.2.2.2.1 i hi
  exact wor_rng b2 hI.2.2.2.1 b3 hI.2.1.2
theorem bb_inv (hI : Inv G nc nh np B) {i o : Nat} (hi : i < nh) (ho : o < nc) : Inv (mbbF G nc nh np i o) nc (nh - 1) np B := by
  obtain ⟨⟨c1, c2, c3, c4, c5, c6⟩, a2, a3, a4, a5, a6, a7, a8⟩ := hI
  obtain ⟨m1, m2⟩ := mbb_at (G := G) (nc := nc) (nh := nh) (np := np) c4 hi (show o < 5 by omega)
  generalize mbbF G nc nh np i o = R at m1 m2
  have lo : ∀ y, y < 8 → y ≠ 1 → y ≠ 4 → R y = G y := by
    intro y hy e1 e4
    rw [m1 y (by omega)]
    unfold bbLo
    rw [if_neg e1, if_neg e4, if_neg (by omega), if_neg (by omega)]
  have r1 : R 1 = nI (nh - 1) := by
    rw [m1 1 (by omega)]
    unfold bbLo
    rw [if_pos rfl, c3]
    have : nI nh = nI (nh - 1) + 1 := by rw [nI_1]; congr 1; omega
    rw [this, Int32.add_sub_cancel]
  have ch : ∀ c k, c < nh - 1 → k < 4 → R (18 + 4 * c + k) = G (18 + 4 * up1 i c + k) := by
    intro c k hc hk
    rw [m1 _ (by omega)]
    unfold bbLo up1
    rw [if_neg (by omega), if_neg (by omega), if_neg (by omega)]
    by_cases q : c < i
    · rw [if_pos q, if_neg (by omega)]
    · rw [if_neg q, if_pos (by omega)]
      congr 1; omega
  have r3 := lo 3 (by omega) (by omega) (by omega)
  have up : ∀ c, c < nh - 1 → up1 i c < nh := fun c hc => by unfold up1; split <;> omega
  have hg := fun j (hj : j < np) => gp_ph (W' := ow R) (q := lvQ (nI i) (pr G j)) c4 hi (fun m hm => ch m 0 hm (by omega)) (lv_ph (i := i) (by omega) (a6 j hj)).1 (lv_ph (i := i) (by omega) (a6 j hj)).2.1 (lv_ph (i := i) (by omega) (a6 j hj)).2.2.1
  refine ⟨⟨(lo 0 (by omega) (by omega) (by omega)).trans c1, c2, r1, by omega, (lo 2 (by omega) (by omega) (by omega)).trans c5, c6⟩, by rw [r3]; exact a2, by rw [lo 6 (by omega) (by omega) (by omega)]; exact a3, by rw [lo 7 (by omega) (by omega) (by omega)]; exact a4, fun c hc => ?_, fun j hj => ?_, fun c g hc => ?_, fun j hj => ?_⟩
  · unfold chQ
    rw [ch c 0 hc (by omega), ch c 2 hc (by omega), ch c 3 hc (by omega), r3]
    exact a5 _ (up c hc)
  · rw [r3]
    exact phQ_eq (m2 j · hj) (hg j hj).1
  · by_cases q : ∃ m, m < nh - 1 ∧ c = nI m
    · obtain ⟨m, hm, rfl⟩ := q
      refine Nat.le_trans (sumN_le (g := fun j => tk (nI (up1 i m)) g (pr G j)) np 0 fun j _ hj => ?_) (a7 (nI (up1 i m)) g (nI_pos' (by have := up m hm; omega)))
      rw [tk_eq (m2 j · (by omega)), (hg j (by omega)).2.1 m g hm]
      exact (lv_ph (i := i) (by omega) (a6 j (by omega))).2.2.2.1 _ _ (nI_pos' (by have := up m hm; omega))
    · rw [sumN_eq (g := fun _ => 0) fun j _ hj => by rw [tk_eq (m2 j · (by omega)), (hg j (by omega)).2.2 c g hc fun m hm e => q ⟨m, hm, e⟩], sumN_z]
      omega
  · obtain ⟨t, x, y⟩ := a8 j hj
    refine ⟨t, x, ?_⟩
    rw [m2 j 9 hj (by omega)]
    refine Eq.trans ?_ y
    exact (if_neg (by omega)).trans (lv_ph (i := i) (by omega) (a6 j hj)).2.2.2.2
theorem bb_Lv (hI : Inv G nc nh np B) (h : Lv nc nh np F G) {i o : Nat} (hi : i < nh) (ho : o < nc) (hown : G (18 + 4 * i + 0) = nI o) : Lv nc (nh - 1) np (tkF F nh np i) (mbbF G nc nh np i o) := by
  have hc := hI.1
  have h5 := hc.2.1
  have h10 := hc.2.2.2.1
  have f0 : F 0 = nI nc := (h.lo (k := 0) (by omega)).trans hc.1
  obtain ⟨m1, m2⟩ := mbb_at (G := G) (nc := nc) (nh := nh) (np := np) h10 hi (show o < 5 by omega)
  obtain ⟨t1, t2⟩ := tkF_at (np := np) h10 hi f0 h5 ho ((h.ch hi (by omega)).trans hown)
  have hw : worF F i = mworF G i := (Lv_wor h hi).trans wor_same
  have hb : ∀ y, y < 58 → live nc (nh - 1) np y → tkF F nh np i y = mbbF G nc nh np i o y := by
    intro y hy hl
    rw [t1 y hy, m1 y hy, hw]
    unfold bbLo
    by_cases e1 : y = 1
    · rw [if_pos e1, if_pos e1, h.lo (k := 1) (by omega)]
    · rw [if_neg e1, if_neg e1]
      by_cases e4 : y = 4
      · rw [if_pos e4, if_pos e4, h.lo (k := 4) (by omega)]
      · rw [if_neg e4, if_neg e4]
        by_cases e8 : y = 8 + 2 * o + 1
        · rw [if_pos e8, if_pos e8, h.cl ho (by omega)]
        · rw [if_neg e8, if_neg e8]
          unfold live at hl
          by_cases q : 18 + 4 * i ≤ y ∧ y < 18 + 4 * (nh - 1)
          · rw [if_pos q, if_pos q]
            exact h _ (by unfold live; omega)
          · rw [if_neg q, if_neg q]
            exact h _ (by unfold live; omega)
  refine Lv_mk (fun j hj => hb j (by omega) (Or.inl hj)) (fun c k hc' hk => hb _ (by omega) (Or.inr (Or.inl (by omega)))) (fun c k hc' hk => hb _ (by omega) (Or.inr (Or.inr (Or.inl (by omega))))) fun j r hj hr => ?_
  rw [t2 j r hj hr, m2 j r hj hr]
  refine gpQ_eq (fun r hr => ?_) r hr
  rw [clQ_eq (q' := pr G j) (fun r hr => h.pr hj hr) r hr]
  exact cl_lv (hI.2.2.2.2.2.1 j hj) r hr
theorem buyBack_ok (hI : Inv G nc nh np B) (h : Lv nc nh np F G) {i o : Nat} (hi : i < nh) (ho : o < nc) (hown : G (18 + 4 * i + 0) = nI o) : okS B F (worF F i, tkF F nh np i) (mworF G i, some (mbbF G nc nh np i o)) := by
  have hw : worF F i = mworF G i := (Lv_wor h hi).trans wor_same
  rw [hw]
  exact okS_is (wor_pos hI hi) (bb_inv hI hi ho) (bb_Lv hI h hi ho hown)
end SU
