/-! the class's side against an abstract state -/
/-- the places of a row that count: scalars, and the rows in use -/
def live (nc nh np j : Nat) : Prop := j < 8 ∨ (8 ≤ j ∧ j < 8 + 2 * nc) ∨ (18 ≤ j ∧ j < 18 + 4 * nh) ∨ (58 ≤ j ∧ j < 58 + 10 * np)
def Lv (nc nh np : Nat) (F G : Nat → Int32) : Prop := ∀ j, live nc nh np j → F j = G j
def Lq (F G : Nat → Int32) : Prop := ∃ nc nh np, cnt G nc nh np ∧ Lv nc nh np F G
theorem Lv.cnt {nc nh np : Nat} {F G : Nat → Int32} (h : Lv nc nh np F G) (hc : cnt G nc nh np) : cnt F nc nh np := by
  obtain ⟨c1, c2, c3, c4, c5, c6⟩ := hc
  exact ⟨(h 0 (Or.inl (by omega))).trans c1, c2, (h 1 (Or.inl (by omega))).trans c3, c4, (h 2 (Or.inl (by omega))).trans c5, c6⟩
theorem cpF_Lv {nc nh np : Nat} {F G : Nat → Int32} (h5 : nc ≤ 5) (h10 : nh ≤ 10) : Lv nc nh np (cpF F G nc nh np) G := by
  intro j hj
  unfold cpF rowsF
  by_cases h1 : 58 + 10 * 0 ≤ j ∧ j < 58 + 10 * (0 + np)
  · rw [if_pos h1]
  · rw [if_neg h1]
    by_cases h2 : 18 + 4 * 0 ≤ j ∧ j < 18 + 4 * (0 + nh)
    · rw [if_pos h2]
    · rw [if_neg h2]
      by_cases h3 : 8 + 2 * 0 ≤ j ∧ j < 8 + 2 * (0 + nc)
      · rw [if_pos h3]
      · rw [if_neg h3, rowF_at, if_pos (by unfold live at hj; omega), show 0 + (j - 0) = j by omega]
theorem Lv.trans {nc nh np : Nat} {F G K : Nat → Int32} (h : Lv nc nh np F G) (k : Lv nc nh np G K) : Lv nc nh np F K := fun j hj => (h j hj).trans (k j hj)
theorem Lq_cp {nc nh np : Nat} {F G K : Nat → Int32} (hc : cnt K nc nh np) (h : Lv nc nh np G K) : Lq (cpF F G nc nh np) K := ⟨nc, nh, np, hc, (cpF_Lv hc.2.1 hc.2.2.2.1).trans h⟩
/-- what the class's side shows: the state now, the history, the snapshot, the text -/
def CS (z : Zt) (M : Nat → Nat → Int32) (p : Nat → Nat) (G : Nat → Int32) (n : Nat) (H : Nat → Nat → Int32) (kf : Int32) (K : Nat → Int32) (k : Nat) (tx : Nat → Int32) : Prop :=
  isP z p ∧ Lq (M (z.1 + 1)) G ∧ M (z.1 + 130) 1 = nI n ∧ n ≤ 4 ∧ (∀ j, j < n → Lq (M (p j)) (H j)) ∧ M z.1 6 = kf ∧ (kf = 0 ∨ (kf = 1 ∧ Lq (M (z.1 + 87)) K)) ∧ M (z.1 + 304) 1 = nI k ∧ k ≤ 60 ∧ ∀ j, j < k → M (z.1 + 305) j = tx j
/-- a memory that differs from another at most at the trial state -/
theorem CS.tri {z : Zt} {M : Nat → Nat → Int32} {p : Nat → Nat} {G : Nat → Int32} {n : Nat} {H : Nat → Nat → Int32} {kf : Int32} {K : Nat → Int32} {k : Nat} {tx : Nat → Int32} {T : Nat → Int32} (h : CS z M p G n H kf K k tx) : CS z (mput M (z.1 + 44) T) p G n H kf K k tx := by
  obtain ⟨h1, h2, h3, h4, h5, h6, h7, h8, h9, h10⟩ := h
  refine ⟨h1, ?_, ?_, h4, fun j hj => ?_, ?_, ?_, ?_, h9, fun j hj => ?_⟩
  · rw [mput_ne (by omega)]; exact h2
  · rw [mput_ne (by omega)]; exact h3
  · have := h1.2.1 j (by omega)
    rw [mput_ne (by omega)]; exact h5 j hj
  · rw [mput_ne (by omega)]; exact h6
  · rw [mput_ne (by omega)]; exact h7
  · rw [mput_ne (by omega)]; exact h8
  · rw [mput_ne (by omega)]; exact h10 j hj
/-- the history with one state more, of four at most -/
def pushN (n : Nat) : Nat := if n < 4 then n + 1 else 4
def pushH (n : Nat) (H : Nat → Nat → Int32) (G : Nat → Int32) : Nat → Nat → Int32 := if n < 4 then fun j => if j = n then G else H j else fun j => if j = 3 then G else H (j + 1)
/-- what stays where the class has written: the model's cells -/
def mfr (z : Zt) (M M' : Nat → Nat → Int32) : Prop := ∀ x, z.1 + 309 ≤ x → M' x = M x
theorem mfr.put {z : Zt} {M M' : Nat → Nat → Int32} {x : Nat} {F : Nat → Int32} (h : mfr z M M') (hx : x < z.1 + 309) : mfr z M (mput M' x F) := fun y hy => by rw [mput_ne (by omega)]; exact h y hy
theorem mfr.rf {z : Zt} {M : Nat → Nat → Int32} : mfr z M M := fun _ _ => rfl
section CL
variable {z : Zt} {d : Nat} {M : Nat → Nat → Int32} {p : Nat → Nat} {G : Nat → Int32} {n : Nat} {H : Nat → Nat → Int32} {kf : Int32} {K : Nat → Int32} {k : Nat} {tx : Nat → Int32}
/-- the state now goes into the history -/
theorem c_push (h : CS z M p G n H kf K k tx) : ∃ M' p', run (d + 3) 5 [.ref (z.1 + 130), .ref (z.1 + 1)] (wld z M p) = some (none, wld z M' p') ∧ CS z M' p' G (pushN n) (pushH n H G) kf K k tx ∧ mfr z M M' ∧ M' (z.1 + 44) = M (z.1 + 44) ∧ M' (z.1 + 1) = M (z.1 + 1) ∧ M' (z.1 + 87) = M (z.1 + 87) := by
  obtain ⟨h1, ⟨nc, nh, np, hc, hl⟩, h3, h4, h5, h6, h7, h8, h9, h10⟩ := h
  have hz := h1.1
  by_cases hn : n < 4
  · have e0 := h1.2.1 n hn
    refine ⟨_, p, m_push h1 (isS_now hz) h3 hn (hl.cnt hc) (by omega), ⟨h1, ?_, ?_, ?_, fun j hj => ?_, ?_, ?_, ?_, h9, fun j hj => ?_⟩, (mfr.rf.put (by omega)).put (by omega), ?_, ?_, ?_⟩
    · rw [mput_ne (by omega), mput_ne (by omega)]; exact ⟨nc, nh, np, hc, hl⟩
    · rw [mput_same, fset_same]; unfold pushN; rw [if_pos hn]
    · unfold pushN; rw [if_pos hn]; omega
    · unfold pushN at hj
      rw [if_pos hn] at hj
      unfold pushH
      rw [if_pos hn]
      have e1 := h1.2.1 j (by omega)
      rw [mput_ne (by omega)]
      by_cases e : j = n
      · subst e
        rw [if_pos rfl, mput_same]
        exact Lq_cp hc hl
      · rw [if_neg e, mput_ne (h1.2.2 j n (by omega) hn e)]
        exact h5 j (by omega)
    · rw [mput_ne (by omega), mput_ne (by omega)]; exact h6
    · rw [mput_ne (by omega), mput_ne (by omega)]; exact h7
    · rw [mput_ne (by omega), mput_ne (by omega)]; exact h8
    · rw [mput_ne (by omega), mput_ne (by omega)]; exact h10 j hj
    · rw [mput_ne (by omega), mput_ne (by omega)]
    · rw [mput_ne (by omega), mput_ne (by omega)]
    · rw [mput_ne (by omega), mput_ne (by omega)]
  · obtain rfl : n = 4 := by omega
    have e0 := h1.2.1 0 (by omega)
    have e1 := h1.2.1 1 (by omega)
    have e2 := h1.2.1 2 (by omega)
    have e3 := h1.2.1 3 (by omega)
    have n10 := h1.2.2 1 0 (by omega) (by omega) (by omega)
    have n20 := h1.2.2 2 0 (by omega) (by omega) (by omega)
    have n30 := h1.2.2 3 0 (by omega) (by omega) (by omega)
    refine ⟨_, rotP p, m_pushFull h1 (isS_now hz) h3 (hl.cnt hc) (by omega) (by omega), ⟨rotP_P h1, ?_, ?_, ?_, fun j hj => ?_, ?_, ?_, ?_, h9, fun j hj => ?_⟩, (mfr.rf.put (by omega)).put (by omega), ?_, ?_, ?_⟩
    · rw [mput_ne (by omega), mput_ne (by omega)]; exact ⟨nc, nh, np, hc, hl⟩
    · rw [mput_same, fset_same]; rfl
    · unfold pushN; rw [if_neg hn]; omega
    · unfold pushN at hj
      rw [if_neg hn] at hj
      unfold pushH
      rw [if_neg hn]
      rcases (show j = 0 ∨ j = 1 ∨ j = 2 ∨ j = 3 by omega) with rfl | rfl | rfl | rfl
      · show Lq (mput _ _ _ (p 1)) (H 1)
        rw [mput_ne (by omega), mput_ne n10]; exact h5 1 (by omega)
      · show Lq (mput _ _ _ (p 2)) (H 2)
        rw [mput_ne (by omega), mput_ne n20]; exact h5 2 (by omega)
      · show Lq (mput _ _ _ (p 3)) (H 3)
        rw [mput_ne (by omega), mput_ne n30]; exact h5 3 (by omega)
      · show Lq (mput _ _ _ (p 0)) G
        rw [mput_ne (by omega), mput_same]; exact Lq_cp hc hl
    · rw [mput_ne (by omega), mput_ne (by omega)]; exact h6
    · rw [mput_ne (by omega), mput_ne (by omega)]; exact h7
    · rw [mput_ne (by omega), mput_ne (by omega)]; exact h8
    · rw [mput_ne (by omega), mput_ne (by omega)]; exact h10 j hj
    · rw [mput_ne (by omega), mput_ne (by omega)]
    · rw [mput_ne (by omega), mput_ne (by omega)]
    · rw [mput_ne (by omega), mput_ne (by omega)]
/-- the state now becomes another one -/
theorem CS.now {M0 : Nat → Nat → Int32} {F G' : Nat → Int32} (h : CS z M p G n H kf K k tx) (hF : Lq F G') : CS z (mput M (z.1 + 1) F) p G' n H kf K k tx := by
  obtain ⟨h1, h2, h3, h4, h5, h6, h7, h8, h9, h10⟩ := h
  refine ⟨h1, ?_, ?_, h4, fun j hj => ?_, ?_, ?_, ?_, h9, fun j hj => ?_⟩
  · rw [mput_same]; exact hF
  · rw [mput_ne (by omega)]; exact h3
  · have := h1.2.1 j (by omega)
    rw [mput_ne (by omega)]; exact h5 j hj
  · rw [mput_ne (by omega)]; exact h6
  · rw [mput_ne (by omega)]; exact h7
  · rw [mput_ne (by omega)]; exact h8
  · rw [mput_ne (by omega)]; exact h10 j hj
/-- settle: an answer that is no error takes the trial state over -/
theorem c_settle {G' : Nat → Int32} {r : Int32} (h : CS z M p G n H kf K k tx) (hT : 0 ≤ r → Lq (M (z.1 + 44)) G') : ∃ M' p', run (d + 4) 107 [.ref z.1, .int r] (wld z M p) = some (some (.int r), wld z M' p') ∧ mfr z M M' ∧ (if 0 ≤ r then CS z M' p' G' (pushN n) (pushH n H G) kf K k tx else CS z M' p' G n H kf K k tx) := by
  have hz := h.1.1
  by_cases hr : 0 ≤ r
  · obtain ⟨M1, p1, e1, c1, f1, t1, w1, -⟩ := c_push (d := d) h
    obtain ⟨nc, nh, np, hc, hl⟩ := hT hr
    have hr2 : ¬ r < 0 := by rw [Int32.not_lt]; exact hr
    have hc1 : cnt (M1 (z.1 + 44)) nc nh np := by rw [t1]; exact hl.cnt hc
    refine ⟨mput M1 (z.1 + 1) (cpF (M1 (z.1 + 1)) (M1 (z.1 + 44)) nc nh np), p1, ?_, f1.put (by omega), ?_⟩
    · rw [r107]
      simp only [e107_0, e107_1, e107_4, e107_5, e107_8, e107_9, e107_12, e107_15, e107_16, e107_19, e107_20, e107_23, e107_26, e107_27, lk, lset, ldel, lset2, ldel2, cat2, gI_int, gA_ref, gA_null, gV_some, gC_some, gL_long, Option.toList, List.cons_append, List.nil_append, List.length_cons, List.length_nil, Nat.reduceEqDiff, Nat.reduceAdd, Nat.reduceSub, Nat.reduceLeDiff, Nat.reduceLT, nb0, nb1, reduceIte, reduceCtorEq, and_false, and_true, false_and, true_and, if_true, if_false, Bool.false_eq_true, eq_self, not_true_eq_false, not_false_eq_true, g0_0 hz, g0_1 hz, g0_2 hz, g0_3 hz, g0_4 hz, g0_5 hz, g0_6 hz, p0_6 hz, k0 hz, g130_0 hz, g130_1 hz, p130_1 hz, k130 hz, g304_0 hz, g304_1 hz, p304_1 hz, k304 hz, g306_0 hz, g306_1 hz, g306_2 hz, g306_3 hz, g306_4 hz, p306_1 hz, p306_2 hz, p306_3 hz, p306_4 hz, k306 hz, g307_0 hz, g307_1 hz, g307_2 hz, g307_3 hz, p307_1 hz, p307_2 hz, p307_3 hz, k307 hz, hr2, e1, k_st (isS_now hz), m_stCopy (isS_now hz) (isS_tri hz) (show z.1 + 44 ≠ z.1 + 1 by omega) hc1]
    · rw [if_pos hr]
      exact CS.now (M0 := M) c1 (Lq_cp hc (by rw [t1]; exact hl))
  · have hr2 : r < 0 := by rw [← Int32.not_le]; exact hr
    refine ⟨M, p, ?_, mfr.rf, ?_⟩
    · rw [r107]
      simp only [e107_0, e107_1, e107_4, e107_5, e107_8, e107_9, e107_12, e107_15, e107_16, e107_19, e107_20, e107_23, e107_26, e107_27, lk, lset, ldel, lset2, ldel2, cat2, gI_int, gA_ref, gA_null, gV_some, gC_some, gL_long, Option.toList, List.cons_append, List.nil_append, List.length_cons, List.length_nil, Nat.reduceEqDiff, Nat.reduceAdd, Nat.reduceSub, Nat.reduceLeDiff, Nat.reduceLT, nb0, nb1, reduceIte, reduceCtorEq, and_false, and_true, false_and, true_and, if_true, if_false, Bool.false_eq_true, eq_self, not_true_eq_false, not_false_eq_true, hr2]
    · rw [if_neg hr]; exact h
end CL
