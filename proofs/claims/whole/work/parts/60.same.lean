/-! both sides ask the same: pure -/
theorem nI_m1 {i : Nat} (h : i ≤ 2000) : ¬ nI i = -1 := fun q => by
  have h0 : (0 : Int32) ≤ nI i := nI_pos' (by omega)
  rw [q] at h0
  exact absurd h0 (by decide)
theorem first_same {P : Nat → Prop} [DecidablePred P] : ∀ (k i : Nat), i + k ≤ 2000 → nx1 (firstR P i k) = firstM P i k := by
  intro k
  induction k with
  | zero => intro i _; exact if_pos rfl
  | succ k ih =>
    intro i h
    simp only [firstR, firstM]
    by_cases hp : P i
    · rw [if_pos hp, if_pos hp]
      exact if_neg (nI_m1 (by omega))
    · rw [if_neg hp, if_neg hp]
      exact ih (i + 1) (by omega)
theorem pick_same {P : Nat → Prop} [DecidablePred P] {x : Int32} : ∀ (k i : Nat) (a : Int32), i + k ≤ 2000 → nx1 (pickR P x i k a) = pickM P x i k a := by
  intro k
  induction k with
  | zero => intro i a _; exact if_pos rfl
  | succ k ih =>
    intro i a h
    simp only [pickR, pickM]
    by_cases hp : P i
    · rw [if_pos hp, if_pos hp]
      by_cases ha : a = x
      · rw [if_pos ha, if_pos ha]
        exact if_neg (nI_m1 (by omega))
      · rw [if_neg ha, if_neg ha]
        exact ih (i + 1) (a + 1) (by omega)
    · rw [if_neg hp, if_neg hp]
      exact ih (i + 1) a (by omega)
theorem sumR_same {f g : Nat → Int32} : ∀ (k i : Nat), (∀ j, i ≤ j → j < i + k → f j = g j) → sumR f i k = sumR g i k := by
  intro k
  induction k with
  | zero => intro i _; rfl
  | succ k ih =>
    intro i h
    simp only [sumR]
    rw [h i (by omega) (by omega), ih (i + 1) (fun j h1 h2 => h j (by omega) (by omega))]
section SA
variable {G : Nat → Int32} {nc nh np : Nat}
theorem hold_no (hc : cnt G nc nh np) : holdF G (-1) = -1 := by
  unfold holdF
  exact if_neg (fun q => absurd q.1 (by decide))
theorem hold_at (hc : cnt G nc nh np) {c : Nat} (h : c < nh) : holdF G (nI c) = G (18 + 4 * c + 0) := by
  have hh := hc.2.2.2.1
  unfold holdF
  rw [if_pos (by rw [hc.2.2.1]; exact nI_in2 h (by omega)), nI_clamp (by omega)]
/-- the holder of a book, for a client: only a phrase that is somewhere has one -/
theorem hold_book (hc : cnt G nc nh np) {i k ci : Nat} (hci : ci ≤ 2000) (h : G (58 + 10 * i + k) = -1 ∨ ∃ c, c < nh ∧ G (58 + 10 * i + k) = nI c) : (holdF G (G (58 + 10 * i + k)) = nI ci) = (¬ G (58 + 10 * i + k) < 0 ∧ bookG G i k = nI ci) := by
  have hh := hc.2.2.2.1
  rcases h with h | ⟨c, hcn, h⟩
  · rw [h, hold_no hc]
    refine propext ⟨fun q => absurd q.symm (nI_m1 hci), fun q => absurd (show (-1 : Int32) < 0 by decide) q.1⟩
  · rw [bookG_at h (by omega), h, hold_at hc hcn]
    exact propext ⟨fun q => ⟨nI_pos (by omega), q⟩, fun q => q.2⟩
theorem tell_same (hc : cnt G nc nh np) {ci i : Nat} {s : Int32} (hci : ci ≤ 2000) (h : whereOk G nh i) : tellS G (nI ci) s (G (8 + 2 * ci + 0)) i = mtellS G ci s i := by
  unfold tellS mtellS
  refine bI_cong ?_
  rw [hold_book hc hci h.1]
  refine propext ⟨fun q => ⟨⟨q.2.2.1, q.2.2.2, q.2.1⟩, q.1⟩, fun q => ⟨q.2, q.1.2.2, q.1.1, q.1.2.1⟩⟩
theorem in_same (hc : cnt G nc nh np) {ci i : Nat} (hci : ci ≤ 2000) (h : whereOk G nh i) : phrasesInS G (nI ci) i = minBookS G (nI ci) 0 i := by
  unfold phrasesInS minBookS
  refine bI_cong ?_
  rw [hold_book hc hci h.1]
  exact propext ⟨fun q => ⟨q.1, q.2, Or.inl rfl⟩, fun q => ⟨q.1, q.2.1⟩⟩
theorem lentFrom_same (hc : cnt G nc nh np) {ci i : Nat} (hci : ci ≤ 2000) (h : whereOk G nh i) : lentFromS G (nI ci) i = mlentFromS G (nI ci) i := by
  unfold lentFromS mlentFromS
  refine bI_cong ?_
  rw [hold_book hc hci h.2]
  rw [show (¬ G (58 + 10 * i + 7) < 0) = (0 ≤ G (58 + 10 * i + 7)) from by rw [Int32.not_lt]]
theorem lentTo_same (hc : cnt G nc nh np) {ci i : Nat} (hci : ci ≤ 2000) (h : whereOk G nh i) (hd : G (58 + 10 * i + 6) = -1 ∨ 0 ≤ G (58 + 10 * i + 6)) : lentToS G (nI ci) i = minBookS G (nI ci) 1 i := by
  unfold lentToS minBookS
  refine bI_cong ?_
  rw [hold_book hc hci h.1]
  have e : (¬ G (58 + 10 * i + 6) = -1) = (0 ≤ G (58 + 10 * i + 6)) := by
    refine propext ⟨fun q => hd.resolve_left q, fun q e => ?_⟩
    rw [e] at q; exact absurd q (by decide)
  rw [e]
  exact propext ⟨fun q => ⟨q.2.1, q.2.2, Or.inr q.1⟩, fun q => ⟨q.2.2.resolve_left (by decide), q.1, q.2.1⟩⟩
theorem like_same (hc : cnt G nc nh np) {n i cn : Nat} (hn : G (58 + 10 * n + 4) = nI cn) (hcn : cn < nh) (ho : ∀ c, c < nh → ∃ o, o < nc ∧ G (18 + 4 * c + 0) = nI o) (h : whereOk G nh i) : likeS G n i = mlikeS G n i := by
  have hh := hc.2.2.2.1
  have hn5 := hc.2.1
  obtain ⟨o, hoc, eo⟩ := ho cn hcn
  unfold likeS mlikeS
  refine bI_cong ?_
  have e1 : holdF G (G (58 + 10 * n + 4)) = nI o := by rw [hn, hold_at hc hcn, eo]
  have e2 : bookG G n 4 = nI o := by rw [bookG_at hn (by omega), eo]
  rw [e1, e2, hold_book hc (by omega) h.1]
  exact propext ⟨fun q => ⟨q.1, q.2.2.1, q.2.2.2, q.2.1⟩, fun q => ⟨q.1, q.2.2.2, q.2.1, q.2.2.1⟩⟩
/-- a value that is -1 or a number -/
def m1ok (v : Int32) : Prop := v = -1 ∨ 0 ≤ v
theorem nx_nf {v : Int32} (h : m1ok v) : nx1 v = nf v := by
  rcases h with rfl | h
  · rfl
  · rw [show nf v = v from if_pos h]
    refine if_neg fun q => ?_
    rw [q] at h; exact absurd h (by decide)
theorem nx_id {v : Int32} (h : 0 ≤ v) : nx1 v = v := by
  refine if_neg fun q => ?_
  rw [q] at h; exact absurd h (by decide)
theorem det_same (hc : cnt G nc nh np) {i : Nat} {x : Int32} (hx : 0 ≤ x ∧ x ≤ 10) (h0 : 0 ≤ G (58 + 10 * i + 0)) (h1 : 0 ≤ G (58 + 10 * i + 1)) (h9 : 0 ≤ G (58 + 10 * i + 9)) (hv : ∀ k, k < 9 → 2 ≤ k → m1ok (G (58 + 10 * i + k))) (hw : whereOk G nh i) (ho : ∀ c, c < nh → ∃ o, o < nc ∧ G (18 + 4 * c + 0) = nI o) : nx1 (detF G i x) = mqP G i x := by
  have hn5 := hc.2.1
  have hh := hc.2.2.2.1
  unfold detF mqP
  rcases in10 hx with (rfl | rfl | rfl | rfl | rfl | rfl | rfl) | rfl | rfl | rfl | rfl <;> simp (config := { decide := true }) only [if_true, if_false]
  · exact nx_id h0
  · exact nx_id h1
  · exact nx_nf (hv 2 (by omega) (by omega))
  · exact nx_nf (hv 3 (by omega) (by omega))
  · exact nx_nf (hv 4 (by omega) (by omega))
  · exact nx_nf (hv 5 (by omega) (by omega))
  · rcases hw.1 with h4 | ⟨c, hcn, h4⟩
    · rw [h4, hold_no hc]; rfl
    · obtain ⟨o, hoc, eo⟩ := ho c hcn
      rw [bookG_at h4 (by omega), h4, hold_at hc hcn, eo, if_neg (nI_pos (by omega))]
      exact if_neg (nI_m1 (by omega))
  · exact nx_nf (hv 6 (by omega) (by omega))
  · exact nx_nf (hv 7 (by omega) (by omega))
  · exact nx_nf (hv 8 (by omega) (by omega))
  · exact nx_id h9
theorem wor_same {i : Nat} : worF G i = mworF G i := by
  unfold worF mworF
  by_cases h : 0 < lossF G i
  · rw [if_pos h, if_pos (Int32.le_of_lt h)]
  · rw [if_neg h]
    by_cases h2 : 0 ≤ lossF G i
    · rw [if_pos h2, Int32.le_antisymm (Int32.not_lt.mp h) h2]
    · rw [if_neg h2]
end SA
