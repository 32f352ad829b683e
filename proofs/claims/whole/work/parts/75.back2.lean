/-! buyBack: the whole row -/
section ST
variable {F G : Nat → Int32} {nc nh np B : Nat}
def bbLo (G : Nat → Int32) (nh i o : Nat) (w : Int32) (y : Nat) : Int32 := if y = 1 then G 1 - 1 else if y = 4 then G 4 - w else if y = 8 + 2 * o + 1 then G (8 + 2 * o + 1) + w else if 18 + 4 * i ≤ y ∧ y < 18 + 4 * (nh - 1) then G (y + 4) else G y
theorem mbb_at (h10 : nh ≤ 10) {i o : Nat} (hi : i < nh) (ho : o < 5) : (∀ y, y < 58 → mbbF G nc nh np i o y = bbLo G nh i o (mworF G i) y) ∧ ∀ j r, j < np → r < 10 → pr (mbbF G nc nh np i o) j r = gpQ (nI i) (lvQ (nI i) (pr G j)) r := by
  unfold mbbF
  dsimp only
  rw [fset_ne (show 8 + 2 * o + 1 ≠ 4 by omega)]
  generalize hG1 : fset (fset G 4 (G 4 - mworF G i)) (8 + 2 * o + 1) (G (8 + 2 * o + 1) + mworF G i) = G1
  obtain ⟨a1, a2⟩ := mlv_at (F := G1) (c := nI i) (np := np)
  generalize hG2 : mlvR G1 (nI i) 0 np = G2 at a1 a2
  obtain ⟨b1, b2⟩ := mgp_at (F := dnF (fset G2 1 (G2 1 - 1)) (18 + 4 * i) (4 * (nh - 1 - i))) (c := nI i) (np := np)
  refine ⟨fun y hy => ?_, fun j r hj hr => ?_⟩
  · rw [b1 y hy]
    unfold dnF bbLo
    have hz : ∀ y, y < 58 → y ≠ 1 → G2 y = if y = 4 then G 4 - mworF G i else if y = 8 + 2 * o + 1 then G (8 + 2 * o + 1) + mworF G i else G y := by
      intro y hy e1
      rw [a1 y hy, ← hG1]
      unfold fset
      by_cases e4 : y = 4
      · rw [if_neg (by omega), if_pos e4, if_pos e4]
      · by_cases e8 : y = 8 + 2 * o + 1
        · rw [if_pos e8, if_neg e4, if_pos e8]
        · rw [if_neg e8, if_neg e4, if_neg e4, if_neg e8]
    by_cases q : 18 + 4 * i ≤ y ∧ y < 18 + 4 * (nh - 1)
    · rw [if_pos (by omega), fset_ne (by omega), hz _ (by omega) (by omega), if_neg (by omega), if_neg (by omega), if_neg (by omega), if_neg (by omega), if_neg (by omega), if_pos q]
    · rw [if_neg (by omega)]
      by_cases e1 : y = 1
      · rw [if_pos e1, e1, fset_same, a1 1 (by omega), ← hG1, fset_ne (by omega), fset_ne (by omega)]
      · rw [if_neg e1, fset_ne e1, hz y hy e1, if_neg q]
  · rw [b2 j r hj hr]
    refine gpQ_eq (fun r hr => ?_) r hr
    have e : pr (dnF (fset G2 1 (G2 1 - 1)) (18 + 4 * i) (4 * (nh - 1 - i))) j r = pr G2 j r := by
      unfold dnF
      show (if _ then _ else _) = _
      rw [if_neg (by omega)]
      exact fset_ne (by omega)
    rw [e, a2 j r hj hr]
    refine lvQ_eq (fun r hr => ?_) r hr
    rw [← hG1]
    exact (fset_ne (by omega)).trans (fset_ne (by omega))
theorem tkF_at (h10 : nh ≤ 10) {i o : Nat} (hi : i < nh) (h0 : F 0 = nI nc) (h5 : nc ≤ 5) (ho : o < nc) (hown : F (18 + 4 * i + 0) = nI o) : (∀ y, y < 58 → tkF F nh np i y = bbLo F nh i o (worF F i) y) ∧ ∀ j r, j < np → r < 10 → pr (tkF F nh np i) j r = gpQ (nI i) (clQ (nI i) (pr F j)) r := by
  unfold tkF payF
  rw [hown, rec_out, rec_in (by rw [fset_ne (by omega)]; exact h0) h5 ho, fset_ne (show 8 + 2 * o + 1 ≠ 4 by omega), ← Int32.sub_eq_add_neg]
  generalize hG1 : fset (fset F 4 (F 4 - worF F i)) (8 + 2 * o + 1) (F (8 + 2 * o + 1) + worF F i) = G1
  obtain ⟨a1, a2⟩ := clr_at (F := G1) (c := nI i) (np := np)
  generalize hG2 : clrR G1 (nI i) 0 np = G2 at a1 a2
  have hz : ∀ y, y < 58 → y ≠ 1 → G2 y = if y = 4 then F 4 - worF F i else if y = 8 + 2 * o + 1 then F (8 + 2 * o + 1) + worF F i else F y := by
    intro y hy e1
    rw [a1 y hy, ← hG1]
    unfold fset
    by_cases e4 : y = 4
    · rw [if_neg (by omega), if_pos e4, if_pos e4]
    · by_cases e8 : y = 8 + 2 * o + 1
      · rw [if_pos e8, if_neg e4, if_pos e8]
      · rw [if_neg e8, if_neg e4, if_neg e4, if_neg e8]
  refine ⟨fun y hy => ?_, fun j r hj hr => ?_⟩
  · unfold bbLo
    by_cases e1 : y = 1
    · rw [if_pos e1, e1, fset_same]
    · rw [if_neg e1, fset_ne e1]
      unfold shF
      by_cases q : 18 + 4 * i ≤ y ∧ y < 18 + 4 * (nh - 1)
      · rw [if_pos (by omega), hz _ (by omega) (by omega), if_neg (by omega), if_neg (by omega), if_neg (by omega), if_neg (by omega), if_pos q]
      · rw [if_neg (by omega), hz y hy e1, if_neg q]
  · have e : pr (fset (shF G2 i (nh - 1 - i)) 1 (F 1 - 1)) j r = pr G2 j r := by
      refine (fset_ne (by omega)).trans ?_
      unfold shF
      show (if _ then _ else _) = _
      rw [if_neg (by omega)]
      rfl
    rw [e, a2 j r hj hr]
    refine gpQ_eq (fun r hr => ?_) r hr
    refine clQ_eq (fun r hr => ?_) r hr
    rw [← hG1]
    exact (fset_ne (by omega)).trans (fset_ne (by omega))
/-- a chapter's number before the gap was closed -/
def up1 (i m : Nat) : Nat := if m < i then m else m + 1
theorem gp_m1 {i : Nat} (h : i ≤ 10) : gp (nI i) (-1) = -1 := by
  have : ∀ i, i ≤ 10 → gp (nI i) (-1) = -1 := by
    unfold gp
    decide +kernel
  exact this i h
theorem gp_nI : ∀ i, i ≤ 10 → ∀ m, m ≤ 10 → m ≠ i → gp (nI i) (nI m) = nI (if m < i then m else m - 1) := by
  unfold gp
  decide +kernel
theorem cl_lv {W : Nat → Int32} {day : Int32} {q : Nat → Int32} (h : phQ W nh day q) {c : Int32} : ∀ r, r < 10 → clQ c q r = lvQ c q r := by
  intro r hr
  obtain ⟨a0, a1, a2, a3, a4, a7, a5, a6, a8, b4, b6, b7, b8⟩ := h
  unfold clQ lvQ
  by_cases e4 : q 4 = c
  · rw [if_pos e4]
    by_cases e6 : 0 ≤ q 6
    · rw [if_pos ⟨e4, e6⟩]
    · have h6 := a6.resolve_right e6
      rw [if_neg (fun w => e6 w.2), if_pos e4]
      unfold hmQ frQ
      by_cases r4 : r = 4
      · rw [if_pos r4, if_pos (by omega)]; exact (b6 h6).1
      · rw [if_neg r4]
        by_cases r5 : r = 5
        · rw [if_pos r5, if_pos (by omega)]; exact (b6 h6).2
        · rw [if_neg r5]
          by_cases r6 : 6 ≤ r ∧ r ≤ 8
          · rw [if_pos r6, if_pos (by omega)]
          · rw [if_neg r6, if_neg (by omega)]
  · rw [if_neg e4, if_neg (show ¬ (q 4 = c ∧ 0 ≤ q 6) from fun w => e4 w.1), if_neg e4]
/-- after the leaving: the phrase's chapters are not the one that goes -/
theorem lv_ph {W : Nat → Int32} {day : Int32} {i : Nat} {q : Nat → Int32} (hi10 : i ≤ 10) (h : phQ W nh day q) : phQ W nh day (lvQ (nI i) q) ∧ ¬ lvQ (nI i) q 4 = nI i ∧ ¬ lvQ (nI i) q 7 = nI i ∧ (∀ c g, 0 ≤ c → tk c g (lvQ (nI i) q) ≤ tk c g q) ∧ lvQ (nI i) q 9 = q 9 := by
  have ni : ¬ (-1 : Int32) = nI i ∨ 10 < i := by
    rcases Nat.lt_or_ge 10 i with q | q
    · exact Or.inr q
    · exact Or.inl fun e => nI_m1 (by omega) e.symm
  have hm := m1_at h
  have h' := h
  obtain ⟨a0, a1, a2, a3, a4, a7, a5, a6, a8, b4, b6, b7, b8⟩ := h
  unfold lvQ
  by_cases e4 : q 4 = nI i
  · have hi : i ≤ 10 := hi10
    have ni := ni.resolve_right (by omega)
    by_cases e6 : 0 ≤ q 6
    · rw [if_pos ⟨e4, e6⟩]
      refine ⟨phQ_hm h', ?_, ni, fun c g hc => tk_hm hc, rfl⟩
      show ¬ q 7 = nI i
      intro e7
      have n7 : ¬ q 7 = -1 := fun e => ni (e.symm.trans e7)
      exact b8.resolve_left n7 (by rw [e7, e4])
    · rw [if_neg (show ¬ (q 4 = nI i ∧ 0 ≤ q 6) from fun w => e6 w.2), if_pos e4]
      exact ⟨phQ_fr h', ni, ni, fun c g hc => by rw [tk_fr hc]; omega, rfl⟩
  · rw [if_neg (show ¬ (q 4 = nI i ∧ 0 ≤ q 6) from fun w => e4 w.1), if_neg e4]
    by_cases e7 : q 7 = nI i
    · have ni := ni.resolve_right (by omega)
      rw [if_pos e7]
      refine ⟨⟨a0, a1, a2, a3, a4, Or.inl rfl, a5, a6, Or.inl rfl, b4, fun _ => ⟨rfl, rfl⟩, b7, Or.inl rfl⟩, e4, ni, fun c g hc => ?_, rfl⟩
      show (if q 4 = c ∧ q 5 = g then 1 else 0) + (if -1 = c ∧ -1 = g then 1 else 0) ≤ _
      rw [if_neg (show ¬ (-1 = c ∧ -1 = g) from fun w => n1c hc w.1)]
      unfold tk
      omega
    · rw [if_neg e7]
      exact ⟨h', e4, e7, fun c g hc => Nat.le_refl _, rfl⟩
theorem gp_ph {W W' : Nat → Int32} {day : Int32} {q : Nat → Int32} (h10 : nh ≤ 10) {i : Nat} (hi : i < nh) (hW : ∀ m, m < nh - 1 → W' m = W (up1 i m)) (h : phQ W nh day q) (n4 : ¬ q 4 = nI i) (n7 : ¬ q 7 = nI i) : phQ W' (nh - 1) day (gpQ (nI i) q) ∧ (∀ m g, m < nh - 1 → tk (nI m) g (gpQ (nI i) q) = tk (nI (up1 i m)) g q) ∧ ∀ c g, 0 ≤ c → (∀ m, m < nh - 1 → ¬ c = nI m) → tk c g (gpQ (nI i) q) = 0 := by
  have hm := m1_at h
  obtain ⟨a0, a1, a2, a3, a4, a7, a5, a6, a8, b4, b6, b7, b8⟩ := h
  -- where a number goes
  have hv : ∀ v, (v = -1 ∨ ∃ c, c < nh ∧ v = nI c) → ¬ v = nI i → (v = -1 ∧ gp (nI i) v = -1) ∨ ∃ c, c < nh - 1 ∧ v = nI (up1 i c) ∧ gp (nI i) v = nI c ∧ up1 i c < nh := by
    intro v hv nv
    rcases hv with rfl | ⟨c, hc, rfl⟩
    · exact Or.inl ⟨rfl, gp_m1 (by omega)⟩
    · have ne : c ≠ i := fun e => nv (by rw [e])
      refine Or.inr ⟨if c < i then c else c - 1, ?_, ?_, gp_nI i (by omega) c (by omega) ne, ?_⟩
      · split <;> omega
      · congr 1
        unfold up1
        by_cases e : c < i
        · rw [if_pos e, if_pos e]
        · rw [if_neg e, if_neg (by omega)]; omega
      · unfold up1
        by_cases e : c < i
        · rw [if_pos e, if_pos e]; exact hc
        · rw [if_neg e, if_neg (by omega)]; omega
  have v4 := hv _ a4 n4
  have v7 := hv _ a7 n7
  have g4 : gpQ (nI i) q 4 = gp (nI i) (q 4) := if_pos (Or.inl rfl)
  have g7 : gpQ (nI i) q 7 = gp (nI i) (q 7) := if_pos (Or.inr rfl)
  have inj : ∀ v m, m < nh - 1 → ((v = -1 ∧ gp (nI i) v = -1) ∨ ∃ c, c < nh - 1 ∧ v = nI (up1 i c) ∧ gp (nI i) v = nI c ∧ up1 i c < nh) → (gp (nI i) v = nI m ↔ v = nI (up1 i m)) := by
    intro v m hm hv
    have um : up1 i m < nh := by unfold up1; split <;> omega
    rcases hv with ⟨rfl, e⟩ | ⟨c, hc, rfl, e, uc⟩
    · rw [e]
      exact ⟨fun w => absurd w.symm (nI_m1 (by omega)), fun w => absurd w.symm (nI_m1 (by omega))⟩
    · rw [e]
      refine ⟨fun w => by rw [nI_eqN w (by omega) (by omega)], fun w => ?_⟩
      have := nI_eqN w (by omega) (by omega)
      congr 1
      unfold up1 at this
      split at this <;> split at this <;> omega
  refine ⟨⟨a0, a1, a2, a3, ?_, ?_, a5, a6, a8, ?_, ?_, b7, ?_⟩, fun m g hm' => ?_, fun c g hc hn => ?_⟩
  · rw [g4]
    rcases v4 with ⟨-, e⟩ | ⟨c, hc, -, e, -⟩
    · exact Or.inl e
    · exact Or.inr ⟨c, hc, e⟩
  · rw [g7]
    rcases v7 with ⟨-, e⟩ | ⟨c, hc, -, e, -⟩
    · exact Or.inl e
    · exact Or.inr ⟨c, hc, e⟩
  · rw [g4]
    intro w
    rcases v4 with ⟨e, -⟩ | ⟨c, hc, -, e, -⟩
    · exact b4 e
    · rw [e] at w; exact absurd w (nI_m1 (by omega))
  · rw [g7]
    intro w
    have := b6 w
    refine ⟨?_, this.2⟩
    rw [this.1]; exact gp_m1 (by omega)
  · rw [g4, g7]
    rcases v7 with ⟨-, e⟩ | ⟨c7, hc7, q7, e7, u7⟩
    · exact Or.inl e
    · right
      have n7' : ¬ q 7 = -1 := by rw [q7]; exact nI_m1 (by omega)
      rcases v4 with ⟨e, -⟩ | ⟨c4, hc4, q4, e4, u4⟩
      · exact absurd (b6 (b4 e)).1 n7'
      · have b := b8.resolve_left n7'
        rw [q7, q4, nI_clamp (by omega), nI_clamp (by omega)] at b
        rw [e7, e4, nI_clamp (by omega), nI_clamp (by omega), hW _ hc7, hW _ hc4]
        exact b
  · unfold tk
    rw [g4, g7]
    have i4 := inj _ m hm' v4
    have i7 := inj _ m hm' v7
    show (if gp (nI i) (q 4) = nI m ∧ q 5 = g then 1 else 0) + (if gp (nI i) (q 7) = nI m ∧ q 8 = g then 1 else 0) = _
    simp only [i4, i7]
  · unfold tk
    rw [g4, g7]
    have nn : ∀ v, ((v = -1 ∧ gp (nI i) v = -1) ∨ ∃ c, c < nh - 1 ∧ v = nI (up1 i c) ∧ gp (nI i) v = nI c ∧ up1 i c < nh) → ¬ gp (nI i) v = c := by
      intro v hv w
      rcases hv with ⟨-, e⟩ | ⟨m, hm', -, e, -⟩
      · rw [e] at w; exact n1c hc w
      · rw [e] at w; exact hn m hm' w.symm
    rw [if_neg (fun w => nn _ v4 w.1), if_neg (fun w => nn _ v7 w.1)]
end ST
