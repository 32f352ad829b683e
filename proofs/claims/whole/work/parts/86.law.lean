/-! the law: its loop, its start -/
theorem Fz0_z {j : Nat} (h : j ≠ 6) (h' : j ≠ 7) : Fz0 j = 0 := by
  unfold Fz0
  rw [if_neg h, if_neg h']
theorem cnt_0 : cnt Fz0 0 0 0 := ⟨(Fz0_z (by omega) (by omega)).trans l0.symm, by omega, (Fz0_z (by omega) (by omega)).trans l0.symm, by omega, (Fz0_z (by omega) (by omega)).trans l0.symm, by omega⟩
theorem Inv_0 : Inv Fz0 0 0 0 0 := by
  refine ⟨cnt_0, ?_, ?_, ?_, fun c hc => by omega, fun i hi => by omega, fun c g _ => by unfold sumN; omega, fun i hi => by omega⟩
  · rw [Fz0_z (by omega) (by omega)]; decide
  · show 0 ≤ (5 : Int32) ∧ (5 : Int32) ≤ 99; decide
  · show 0 ≤ (2 : Int32) ∧ (2 : Int32) ≤ 100; decide
section LL
variable {z : Zt} {d : Nat}
theorem QS_0 (hz : zok z) : QS z (pz z) (Mz z) 0 := by
  have e1 : Mz z (z.1 + 1) = Fz0 := by unfold Mz; rw [if_pos (by omega)]
  have e310 : Mz z (z.1 + 310) = Fz0 := by unfold Mz; rw [if_pos (by omega)]
  refine ⟨Fz0, 0, fun _ => Fz0, 0, Fz0, 0, fun _ => 0, ⟨⟨hz, fun j hj => ?_, fun i j hi hj hn => ?_⟩, ?_, ?_, by omega, fun j hj => by omega, ?_, Or.inl rfl, ?_, by omega, fun j hj => by omega⟩, e310, fun i j hi => by omega, ?_, ?_, ?_, Or.inl rfl, ?_, fun j hj => by omega, fun j hj => by omega, ⟨0, 0, 0, Inv_0⟩, fun i hi => by omega, Or.inl rfl⟩
  · unfold pz; omega
  · unfold pz; omega
  · rw [e1]; exact ⟨0, 0, 0, cnt_0, fun _ _ => rfl⟩
  · rw [Mz_0 (by omega), l0]
  · rw [show z.1 = z.1 + 0 from rfl, Mz_0 (by omega)]
  · rw [Mz_0 (by omega), l0]
  · rw [Mz_0 (by omega), l0]
  · rw [Mz_0 (by omega)]
  · rw [Mz_0 (by omega)]
  · rw [Mz_0 (by omega), l0]
theorem toI2 {n : Nat} (h : n ≤ 4000) : (nI n).toInt = n := by
  have e : nI n = Int32.ofNat n := rfl
  rw [e, Int32.toInt_ofNat']
  have hs : Int32.size = 4294967296 := rfl
  rw [hs, Int.bmod_def]
  omega
theorem law_go {n i : Nat} (hn : n ≤ 3000) (hi : i ≤ 3500) : nI n - 5 < nI i ↔ n < i + 5 := by
  have e5 : Int32.toInt 5 = 5 := by decide
  rw [Int32.lt_iff_toInt_lt, Int32.toInt_sub, toI2 (by omega), toI2 (by omega), e5, Int.bmod_def]
  omega
theorem al_sc {M : Nat → Nat → Int32} {p : Nat → Nat} : al (wld z M p) z.2.1 = some (nI z.2.2.1) := by
  have hc : (wld z M p).2.2.2 z.2.1 = some (16, z.2.2.1, fun j => .int (z.2.2.2 j)) := if_pos rfl
  unfold al
  rw [hc]
  exact if_pos ⟨by omega, by omega⟩
theorem l_law (hz : zok z) (hl : z.2.2.1 ≤ 3000) : ∀ (r i B : Nat) (M : Nat → Nat → Int32) (p : Nat → Nat), z.2.2.1 < i + 5 + 5 * r → i ≤ 3500 → B + 60 * r < 2147483648 → QS z p M B → ∃ M' p', X (d + 9) 179 18 [(0, .ref z.2.1), (1, .ref z.1), (2, .ref (z.1 + 309)), (3, .int (nI i))] [] (wld z M p) = some (some (.int 1), wld z M' p') := by
  have nb : (narrow .boolean (.int 1) = .int 1) = True := eq_true rfl
  intro r
  induction r with
  | zero =>
    intro i B M p h1 h2 h3 hQ
    have g := (law_go (n := z.2.2.1) (i := i) hl h2).mpr (by omega)
    refine ⟨M, p, ?_⟩
    rw [e179_18]
    simp only [e179_19, e179_20, e179_21, e179_22, e179_23, e179_963, e179_964, lk, lset, ldel, lset2, ldel2, cat2, gI_int, gA_ref, gA_null, gV_some, gC_some, gL_long, Option.toList, List.cons_append, List.nil_append, List.length_cons, List.length_nil, Nat.reduceEqDiff, Nat.reduceAdd, Nat.reduceSub, Nat.reduceLeDiff, Nat.reduceLT, nb0, nb1, reduceIte, reduceCtorEq, and_false, and_true, false_and, true_and, if_true, if_false, Bool.false_eq_true, eq_self, not_true_eq_false, not_false_eq_true, al_sc, g, nb, if_true]
  | succ r ih =>
    intro i B M p h1 h2 h3 hQ
    by_cases hi : i + 5 ≤ z.2.2.1
    · have g : ¬ nI z.2.2.1 - 5 < nI i := fun q => by have := (law_go hl h2).mp q; omega
      have fin : ∀ pc, Went z d B i pc M p → ∃ M' p', X (d + 9) 179 pc [(0, .ref z.2.1), (1, .ref z.1), (2, .ref (z.1 + 309)), (3, .int (nI i))] [] (wld z M p) = some (some (.int 1), wld z M' p') := by
        rintro pc ⟨M', p', q, e⟩
        obtain ⟨M2, p2, e2⟩ := ih (i + 5) (B + 60) M' p' (by omega) (by omega) (by omega) q
        refine ⟨M2, p2, ?_⟩
        rw [e, e179_957]
        simp only [e179_960, lk, lset, ldel, lset2, ldel2, cat2, gI_int, gA_ref, gA_null, gV_some, gC_some, gL_long, Option.toList, List.cons_append, List.nil_append, List.length_cons, List.length_nil, Nat.reduceEqDiff, Nat.reduceAdd, Nat.reduceSub, Nat.reduceLeDiff, Nat.reduceLT, nb0, nb1, reduceIte, reduceCtorEq, and_false, and_true, false_and, true_and, if_true, if_false, Bool.false_eq_true, eq_self, not_true_eq_false, not_false_eq_true, nI_p5]
        exact e2
      have hd : Went z d B i 957 M p := ⟨M, p, hQ.mono (by omega), rfl⟩
      have hs := sc_at (M := M) (p := p) hz (show i < z.2.2.1 by omega) hl
      have st : X (d + 9) 179 18 [(0, .ref z.2.1), (1, .ref z.1), (2, .ref (z.1 + 309)), (3, .int (nI i))] [] (wld z M p) = X (d + 9) 179 32 [(0, .ref z.2.1), (1, .ref z.1), (2, .ref (z.1 + 309)), (3, .int (nI i))] [.int (z.2.2.2 i &&& 31)] (wld z M p) := by
        rw [e179_18]
        simp only [e179_19, e179_20, e179_21, e179_22, e179_23, e179_26, e179_27, e179_28, e179_29, e179_31, lk, lset, ldel, lset2, ldel2, cat2, gI_int, gA_ref, gA_null, gV_some, gC_some, gL_long, Option.toList, List.cons_append, List.nil_append, List.length_cons, List.length_nil, Nat.reduceEqDiff, Nat.reduceAdd, Nat.reduceSub, Nat.reduceLeDiff, Nat.reduceLT, nb0, nb1, reduceIte, reduceCtorEq, and_false, and_true, false_and, true_and, if_true, if_false, Bool.false_eq_true, eq_self, not_true_eq_false, not_false_eq_true, al_sc, g, hs]
      rw [st, e179_32]
      generalize z.2.2.2 i &&& 31 = x
      by_cases h0 : x = 0
      · rw [if_pos h0]; exact fin _ (w_client hz hi hl hQ)
      rw [if_neg h0]
      by_cases h1 : x = 1
      · rw [if_pos h1]; exact fin _ (w_chapter hz hi hl hQ)
      rw [if_neg h1]
      by_cases h2 : x = 2
      · rw [if_pos h2]; exact fin _ (w_phrase hz hi hl hQ)
      rw [if_neg h2]
      by_cases h3 : x = 3
      · rw [if_pos h3]; exact fin _ (w_place hz hi hl hQ)
      rw [if_neg h3]
      by_cases h4 : x = 4
      · rw [if_pos h4]; exact fin _ (w_lift hz hi hl hQ)
      rw [if_neg h4]
      by_cases h5 : x = 5
      · rw [if_pos h5]; exact fin _ (w_lend hz hi hl hQ)
      rw [if_neg h5]
      by_cases h6 : x = 6
      · rw [if_pos h6]; exact fin _ (w_buyBack hz hi hl hQ)
      rw [if_neg h6]
      by_cases h7 : x = 7
      · rw [if_pos h7]; exact fin _ (w_sell hz hi hl hQ)
      rw [if_neg h7]
      by_cases h8 : x = 8
      · rw [if_pos h8]; exact fin _ (w_pass hz hi hl hQ)
      rw [if_neg h8]
      by_cases h9 : x = 9
      · rw [if_pos h9]; exact fin _ (w_set hz hi hl hQ)
      rw [if_neg h9]
      by_cases h10 : x = 10
      · rw [if_pos h10]; exact fin _ (w_clientOf hz hi hl hQ)
      rw [if_neg h10]
      by_cases h11 : x = 11
      · rw [if_pos h11]; exact fin _ (w_chapterOf hz hi hl hQ)
      rw [if_neg h11]
      by_cases h12 : x = 12
      · rw [if_pos h12]; exact fin _ (w_phraseOf hz hi hl (by omega) hQ)
      rw [if_neg h12]
      by_cases h13 : x = 13
      · rw [if_pos h13]; exact fin _ (w_find hz hi hl hQ)
      rw [if_neg h13]
      by_cases h14 : x = 14
      · rw [if_pos h14]; exact fin _ (w_on hz hi hl hQ)
      rw [if_neg h14]
      by_cases h15 : x = 15
      · rw [if_pos h15]; exact fin _ (w_tells hz hi hl hQ)
      rw [if_neg h15]
      by_cases h16 : x = 16
      · rw [if_pos h16]; exact fin _ (w_alike hz hi hl hQ)
      rw [if_neg h16]
      by_cases h17 : x = 17
      · rw [if_pos h17]; exact fin _ (w_count hz hi hl hQ)
      rw [if_neg h17]
      by_cases h18 : x = 18
      · rw [if_pos h18]; exact fin _ (w_coming hz hi hl hQ)
      rw [if_neg h18]
      by_cases h19 : x = 19
      · rw [if_pos h19]; exact fin _ (w_best hz hi hl hQ)
      rw [if_neg h19]
      by_cases h20 : x = 20
      · rw [if_pos h20]; exact fin _ (w_keep hz hi hl hQ)
      rw [if_neg h20]
      by_cases h21 : x = 21
      · rw [if_pos h21]; exact fin _ (w_restore hz hi hl hQ)
      rw [if_neg h21]
      by_cases h22 : x = 22
      · rw [if_pos h22]; exact fin _ (w_undo hz hi hl hQ)
      rw [if_neg h22]
      by_cases h23 : x = 23
      · rw [if_pos h23]; exact fin _ (w_type hz hi hl hQ)
      rw [if_neg h23]
      by_cases h24 : x = 24
      · rw [if_pos h24]; exact fin _ (w_clearText hz hi hl hQ)
      rw [if_neg h24]
      by_cases h25 : x = 25
      · rw [if_pos h25]; exact fin _ (w_fault hz hi hl hQ)
      rw [if_neg h25]
      by_cases h26 : x = 26
      · rw [if_pos h26]; exact fin _ (w_play hz hi hl hQ)
      rw [if_neg h26]
      exact fin _ hd
    · have g := (law_go (n := z.2.2.1) (i := i) hl h2).mpr (by omega)
      refine ⟨M, p, ?_⟩
      rw [e179_18]
      simp only [e179_19, e179_20, e179_21, e179_22, e179_23, e179_963, e179_964, lk, lset, ldel, lset2, ldel2, cat2, gI_int, gA_ref, gA_null, gV_some, gC_some, gL_long, Option.toList, List.cons_append, List.nil_append, List.length_cons, List.length_nil, Nat.reduceEqDiff, Nat.reduceAdd, Nat.reduceSub, Nat.reduceLeDiff, Nat.reduceLT, nb0, nb1, reduceIte, reduceCtorEq, and_false, and_true, false_and, true_and, if_true, if_false, Bool.false_eq_true, eq_self, not_true_eq_false, not_false_eq_true, al_sc, g, nb, if_true]
/-- the law, from an empty heap behind the script -/
theorem m_law (hz : zok z) (hl : z.2.2.1 ≤ 3000) : ∃ M' p', X (d + 9) 179 0 [(0, .ref z.2.1)] [] (wk z 0 0 (cc z)) = some (some (.int 1), wld z M' p') := by
  obtain ⟨M', p', e⟩ := l_law (d := d) hz hl 600 0 0 (Mz z) (pz z) (by omega) (by omega) (by omega) (QS_0 hz)
  rw [l0] at e
  refine ⟨M', p', ?_⟩
  have e1 := n_LP (d := d + 5) hz
  have e2 := n_Mo (d := d + 8) hz
  rw [e179_0]
  simp only [e179_3, e179_3a, e179_4, e179_7, e179_8, e179_11, e179_11a, e179_12, e179_15, e179_16, e179_17, lk, lset, ldel, lset2, ldel2, cat2, gI_int, gA_ref, gA_null, gV_some, gC_some, gL_long, Option.toList, List.cons_append, List.nil_append, List.length_cons, List.length_nil, Nat.reduceEqDiff, Nat.reduceAdd, Nat.reduceSub, Nat.reduceLeDiff, Nat.reduceLT, nb0, nb1, reduceIte, reduceCtorEq, and_false, and_true, false_and, true_and, if_true, if_false, Bool.false_eq_true, eq_self, not_true_eq_false, not_false_eq_true, lk_same, lk_same2, lk_k1, lk_k1r, lk_ldN, ne_eq, wk_size, wk_new hz, Nat.add_zero, Nat.zero_add, e1, e2]
  exact e
end LL
