/-! what holds of every state -/
abbrev ow (G : Nat → Int32) (c : Nat) : Int32 := G (18 + 4 * c + 0)
def phQ (W : Nat → Int32) (nh : Nat) (day : Int32) (q : Nat → Int32) : Prop :=
  (0 ≤ q 0 ∧ q 0 ≤ 3) ∧ (∃ n, n < 64 ∧ q 1 = nI n) ∧ m1ok (q 2) ∧ m1ok (q 3) ∧ (q 4 = -1 ∨ ∃ c, c < nh ∧ q 4 = nI c) ∧ (q 7 = -1 ∨ ∃ c, c < nh ∧ q 7 = nI c) ∧ m1ok (q 5) ∧ m1ok (q 6) ∧ m1ok (q 8) ∧ (q 4 = -1 → q 6 = -1) ∧ (q 6 = -1 → q 7 = -1 ∧ q 8 = -1) ∧ (q 6 = -1 ∨ day < q 6) ∧ (q 7 = -1 ∨ ¬ W (q 7).toNatClampNeg = W (q 4).toNatClampNeg)
def chQ (G : Nat → Int32) (nc c : Nat) : Prop := (∃ o, o < nc ∧ G (18 + 4 * c + 0) = nI o) ∧ (0 ≤ G (18 + 4 * c + 2) ∧ G (18 + 4 * c + 2) ≤ 999) ∧ (0 ≤ G (18 + 4 * c + 3) ∧ G (18 + 4 * c + 3) ≤ G 3)
def Inv (G : Nat → Int32) (nc nh np B : Nat) : Prop :=
  cnt G nc nh np ∧ (0 ≤ G 3 ∧ G 3 ≤ 9999) ∧ (0 ≤ G 6 ∧ G 6 ≤ 99) ∧ (0 ≤ G 7 ∧ G 7 ≤ 100) ∧ (∀ c, c < nh → chQ G nc c) ∧ (∀ i, i < np → phQ (ow G) nh (G 3) (pr G i)) ∧ (∀ c g, 0 ≤ c → sumN (fun i => tk c g (pr G i)) 0 np ≤ 3) ∧ (∀ i, i < np → ∃ t, t ≤ B ∧ pr G i 9 = nI t)
theorem Inv.mono {G : Nat → Int32} {nc nh np B B' : Nat} (h : Inv G nc nh np B) (hB : B ≤ B') : Inv G nc nh np B' := by
  obtain ⟨h1, h2, h3, h4, h5, h6, h7, h8⟩ := h
  exact ⟨h1, h2, h3, h4, h5, h6, h7, fun i hi => (h8 i hi).elim fun t q => ⟨t, by omega, q.2⟩⟩
theorem phQ_eq {W : Nat → Int32} {nh : Nat} {day : Int32} {q q' : Nat → Int32} (e : ∀ r, r < 10 → q' r = q r) (h : phQ W nh day q) : phQ W nh day q' := by
  unfold phQ at h ⊢
  rw [e 0 (by omega), e 1 (by omega), e 2 (by omega), e 3 (by omega), e 4 (by omega), e 5 (by omega), e 6 (by omega), e 7 (by omega), e 8 (by omega)]
  exact h
theorem tk_eq {c g : Int32} {q q' : Nat → Int32} (e : ∀ r, r < 10 → q' r = q r) : tk c g q' = tk c g q := by
  unfold tk
  rw [e 4 (by omega), e 5 (by omega), e 7 (by omega), e 8 (by omega)]
theorem m1_at {W : Nat → Int32} {nh : Nat} {day : Int32} {q : Nat → Int32} (h : phQ W nh day q) (h7 : ¬ q 7 = -1) : (∃ c, c < nh ∧ q 7 = nI c) ∧ ∃ c, c < nh ∧ q 4 = nI c := by
  obtain ⟨a0, a1, a2, a3, a4, a7, a5, a6, a8, b4, b6, b7, b8⟩ := h
  exact ⟨a7.resolve_left h7, a4.resolve_left fun e => h7 (b6 (b4 e)).1⟩
theorem phQ_W {W W' : Nat → Int32} {nh nh' : Nat} {day : Int32} {q : Nat → Int32} (hh : nh ≤ 10) (hn : nh ≤ nh') (e : ∀ c, c < nh → W' c = W c) (h : phQ W nh day q) : phQ W' nh' day q := by
  have hm := m1_at h
  obtain ⟨a0, a1, a2, a3, a4, a7, a5, a6, a8, b4, b6, b7, b8⟩ := h
  refine ⟨a0, a1, a2, a3, a4.imp_right fun ⟨c, x, y⟩ => ⟨c, by omega, y⟩, a7.imp_right fun ⟨c, x, y⟩ => ⟨c, by omega, y⟩, a5, a6, a8, b4, b6, b7, ?_⟩
  by_cases h7 : q 7 = -1
  · exact Or.inl h7
  · obtain ⟨⟨c, x, y⟩, c2, x2, y2⟩ := hm h7
    rw [y, y2, nI_clamp (by omega), nI_clamp (by omega)] at b8 ⊢
    rw [e c x, e c2 x2]
    exact b8
theorem phQ_day {W : Nat → Int32} {nh : Nat} {day day' : Int32} {q : Nat → Int32} (h : phQ W nh day q) (hd : q 6 = -1 ∨ day' < q 6) : phQ W nh day' q := by
  obtain ⟨a0, a1, a2, a3, a4, a7, a5, a6, a8, b4, b6, b7, b8⟩ := h
  exact ⟨a0, a1, a2, a3, a4, a7, a5, a6, a8, b4, b6, hd, b8⟩
theorem phQ_hm {W W' : Nat → Int32} {nh : Nat} {day day' : Int32} {q : Nat → Int32} (h : phQ W nh day q) : phQ W' nh day' (hmQ q) := by
  obtain ⟨a0, a1, a2, a3, a4, a7, a5, a6, a8, b4, b6, b7, b8⟩ := h
  exact ⟨a0, a1, a2, a3, a7, Or.inl rfl, a8, Or.inl rfl, Or.inl rfl, fun _ => rfl, fun _ => ⟨rfl, rfl⟩, Or.inl rfl, Or.inl rfl⟩
theorem phQ_fr {W W' : Nat → Int32} {nh : Nat} {day day' : Int32} {q : Nat → Int32} (h : phQ W nh day q) : phQ W' nh day' (frQ q) := by
  obtain ⟨a0, a1, a2, a3, a4, a7, a5, a6, a8, b4, b6, b7, b8⟩ := h
  exact ⟨a0, a1, a2, a3, Or.inl rfl, Or.inl rfl, Or.inl rfl, Or.inl rfl, Or.inl rfl, fun _ => rfl, fun _ => ⟨rfl, rfl⟩, Or.inl rfl, Or.inl rfl⟩
theorem n1c {c : Int32} (h : 0 ≤ c) : ¬ -1 = c := fun e => by subst e; exact absurd h (by decide)
theorem tk_hm {c g : Int32} {q : Nat → Int32} (hc : 0 ≤ c) : tk c g (hmQ q) ≤ tk c g q := by
  show (if q 7 = c ∧ q 8 = g then 1 else 0) + (if -1 = c ∧ -1 = g then 1 else 0) ≤ _
  rw [if_neg (show ¬ (-1 = c ∧ -1 = g) from fun w => n1c hc w.1)]
  unfold tk
  omega
theorem tk_fr {c g : Int32} {q : Nat → Int32} (hc : 0 ≤ c) : tk c g (frQ q) = 0 := by
  show (if -1 = c ∧ -1 = g then 1 else 0) + (if -1 = c ∧ -1 = g then 1 else 0) = 0
  rw [if_neg (show ¬ (-1 = c ∧ -1 = g) from fun w => n1c hc w.1)]
theorem pr_hi {G G' : Nat → Int32} (h : ∀ y, 58 ≤ y → G' y = G y) (i : Nat) : pr G' i = pr G i := funext fun r => h _ (by omega)
/-- a change of money, settings, clients -/
theorem Inv_low {G G' : Nat → Int32} {nc nc' nh np B : Nat} (h : Inv G nc nh np B) (h18 : ∀ y, 18 ≤ y → G' y = G y) (h0 : G' 0 = nI nc') (hn : nc ≤ nc') (hn5 : nc' ≤ 5) (h1 : G' 1 = G 1) (h2 : G' 2 = G 2) (h3 : G' 3 = G 3) (h6 : 0 ≤ G' 6 ∧ G' 6 ≤ 99) (h7 : 0 ≤ G' 7 ∧ G' 7 ≤ 100) : Inv G' nc' nh np B := by
  obtain ⟨⟨c1, c2, c3, c4, c5, c6⟩, a2, a3, a4, a5, a6, a7, a8⟩ := h
  have hp := pr_hi (G := G) (G' := G') fun y hy => h18 y (by omega)
  have hW : ow G' = ow G := funext fun c => h18 _ (by omega)
  refine ⟨⟨h0, hn5, h1.trans c3, c4, h2.trans c5, c6⟩, by rw [h3]; exact a2, h6, h7, fun c hc => ?_, fun i hi => ?_, fun c g hc => ?_, fun i hi => ?_⟩
  · unfold chQ
    rw [h18 _ (by omega), h18 _ (by omega), h18 _ (by omega), h3]
    obtain ⟨⟨o, x, y⟩, b⟩ := a5 c hc
    exact ⟨⟨o, by omega, y⟩, b⟩
  · rw [hW, h3, hp]; exact a6 i hi
  · simp only [hp]; exact a7 c g hc
  · rw [hp]; exact a8 i hi
theorem Inv.wh {G : Nat → Int32} {nc nh np B : Nat} (h : Inv G nc nh np B) {i : Nat} (hi : i < np) : whereOk G nh i := by
  obtain ⟨a0, a1, a2, a3, a4, a7, a5, a6, a8, b4, b6, b7, b8⟩ := h.2.2.2.2.2.1 i hi
  exact ⟨a4, a7⟩
theorem Inv.out {G : Nat → Int32} {nc nh np B : Nat} (h : Inv G nc nh np B) {i : Nat} (hi : i < np) : outOk G nh i := by
  obtain ⟨a0, a1, a2, a3, a4, a7, a5, a6, a8, b4, b6, b7, b8⟩ := h.2.2.2.2.2.1 i hi
  exact ⟨⟨a4, a7⟩, fun q => a4.resolve_left fun e => by have e6 : G (58 + 10 * i + 6) = -1 := b4 e; rw [e6] at q; exact absurd q (by decide)⟩
theorem Inv.own {G : Nat → Int32} {nc nh np B : Nat} (h : Inv G nc nh np B) {c : Nat} (hc : c < nh) : ∃ o, o < nc ∧ G (18 + 4 * c + 0) = nI o := (h.2.2.2.2.1 c hc).1
theorem Inv.hom {G : Nat → Int32} {nc nh np B : Nat} (h : Inv G nc nh np B) {i : Nat} (hi : i < np) : G (58 + 10 * i + 7) = -1 ∨ ¬ G (58 + 10 * i + 7) = G (58 + 10 * i + 4) := by
  obtain ⟨a0, a1, a2, a3, a4, a7, a5, a6, a8, b4, b6, b7, b8⟩ := h.2.2.2.2.2.1 i hi
  refine b8.imp_right fun q e => q ?_
  show ow G (G (58 + 10 * i + 7)).toNatClampNeg = ow G (G (58 + 10 * i + 4)).toNatClampNeg
  rw [e]
theorem Lv_mk {F G : Nat → Int32} {nc nh np : Nat} (h0 : ∀ j, j < 8 → F j = G j) (h1 : ∀ i k, i < nc → k < 2 → F (8 + 2 * i + k) = G (8 + 2 * i + k)) (h2 : ∀ i k, i < nh → k < 4 → F (18 + 4 * i + k) = G (18 + 4 * i + k)) (h3 : ∀ i r, i < np → r < 10 → pr F i r = pr G i r) : Lv nc nh np F G := by
  intro j hj
  rcases hj with hj | hj | hj | hj
  · exact h0 j hj
  · have := h1 ((j - 8) / 2) ((j - 8) % 2) (by omega) (by omega)
    rwa [show 8 + 2 * ((j - 8) / 2) + (j - 8) % 2 = j by omega] at this
  · have := h2 ((j - 18) / 4) ((j - 18) % 4) (by omega) (by omega)
    rwa [show 18 + 4 * ((j - 18) / 4) + (j - 18) % 4 = j by omega] at this
  · have := h3 ((j - 58) / 10) ((j - 58) % 10) (by omega) (by omega)
    unfold pr at this
    rwa [show 58 + 10 * ((j - 58) / 10) + (j - 58) % 10 = j by omega] at this
theorem Lv.pr {F G : Nat → Int32} {nc nh np : Nat} (h : Lv nc nh np F G) {i r : Nat} (hi : i < np) (hr : r < 10) : pr F i r = pr G i r := h.ph hi hr
/-- an order that both sides do alike -/
def okS (B : Nat) (F : Nat → Int32) (ra : Int32 × (Nat → Int32)) (rm : Int32 × Option (Nat → Int32)) : Prop := ra.1 = rm.1 ∧ match rm.2 with
  | none => ra.1 < 0 ∧ ra.2 = F
  | some G' => 0 ≤ ra.1 ∧ ∃ nc nh np, Inv G' nc nh np B ∧ Lv nc nh np ra.2 G'
theorem okS_no {B : Nat} {F : Nat → Int32} {e : Int32} (h : e < 0) : okS B F (e, F) (e, none) := ⟨rfl, h, rfl⟩
theorem okS_is {B nc nh np : Nat} {F F' G' : Nat → Int32} {r : Int32} (h : 0 ≤ r) (hI : Inv G' nc nh np B) (hL : Lv nc nh np F' G') : okS B F (r, F') (r, some G') := ⟨rfl, h, nc, nh, np, hI, hL⟩
