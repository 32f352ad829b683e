/-! the state's rows by their numbers, money, worth -/
def cnt (F : Nat → Int32) (nc nh np : Nat) : Prop := F 0 = nI nc ∧ nc ≤ 5 ∧ F 1 = nI nh ∧ nh ≤ 10 ∧ F 2 = nI np ∧ np ≤ 24
theorem nI_case {n m : Int32} {k : Nat} (hm : m = nI k) (hk : k ≤ 2000) : (∃ i, i < k ∧ n = nI i) ∨ ¬ (0 ≤ n ∧ n < m) := by
  by_cases h : 0 ≤ n ∧ n < m
  · refine Or.inl ⟨n.toNatClampNeg, ?_, ?_⟩
    · have h2 := h.2
      rw [hm, Int32.lt_iff_toInt_lt, nI_toInt (by omega)] at h2
      have h1 := h.1
      rw [Int32.le_iff_toInt_le, Int32.toInt_zero] at h1
      rw [Int32.toNatClampNeg]
      omega
    · obtain ⟨j, hj, e⟩ := nI_of (x := n) (by rw [Int32.not_lt]; exact h.1)
      rw [e, nI_clamp hj]
  · exact Or.inr h
theorem nI_in2 {i k : Nat} (h : i < k) (hk : k ≤ 2000) : 0 ≤ nI i ∧ nI i < nI k := ⟨nI_pos' (by omega), nI_lt h (by omega)⟩
def holdF (F : Nat → Int32) (c : Int32) : Int32 := if 0 ≤ c ∧ c < F 1 then F (18 + 4 * c.toNatClampNeg + 0) else -1
def purF (F : Nat → Int32) (c : Int32) : Int32 := if 0 ≤ c ∧ c < F 0 then F (8 + 2 * c.toNatClampNeg + 1) else 0
abbrev pageP (F : Nat → Int32) (c g : Int32) : Prop := (0 ≤ c ∧ c < F 1) ∧ 0 ≤ g ∧ g < F (18 + 4 * c.toNatClampNeg + 1)
section SB
variable {z : Zt} {S T d : Nat} {M : Nat → Nat → Int32} {p : Nat → Nat} {nc nh np : Nat}
theorem holdF_in {F : Nat → Int32} (hc : cnt F nc nh np) {i : Nat} (hi : i < nh) : holdF F (nI i) = F (18 + 4 * i + 0) := by
  unfold holdF
  obtain ⟨-, -, h1, h2, -⟩ := hc
  rw [h1, if_pos (nI_in2 hi (by omega)), nI_clamp (by omega)]
theorem holdF_no {F : Nat → Int32} : holdF F (-1) = -1 := by
  unfold holdF
  rw [if_neg (fun h => absurd h.1 (by decide))]
theorem purF_in {F : Nat → Int32} (hc : cnt F nc nh np) {i : Nat} (hi : i < nc) : purF F (nI i) = F (8 + 2 * i + 1) := by
  unfold purF
  obtain ⟨h1, h2, -⟩ := hc
  rw [h1, if_pos (nI_in2 hi (by omega)), nI_clamp (by omega)]
theorem m_clientAt (h : isS z S) (hc : cnt (M S) nc nh np) {i : Nat} (hi : i < nc) : run (d + 1) 33 [.ref S, .int (nI i)] (wld z M p) = some (some (.ref (clA S i)), wld z M p) := by
  rw [r33]
  obtain ⟨h1, h2, -⟩ := hc
  have g := nI_in2 hi (by omega)
  have gn : ¬ nI i < 0 := by rw [Int32.not_lt]; exact g.1
  have gm : ¬ nI nc ≤ nI i := by rw [Int32.not_le]; exact g.2
  simp only [e33_0, e33_1, e33_4, e33_5, e33_6, e33_9, e33_12, e33_13, e33_16, e33_17, e33_18, e33_21, e33_22, e33_22n, lk, lset, ldel, lset2, ldel2, cat2, gI_int, gA_ref, gA_null, gV_some, gC_some, gL_long, Option.toList, List.cons_append, List.nil_append, List.length_cons, List.length_nil, Nat.reduceEqDiff, Nat.reduceAdd, Nat.reduceSub, Nat.reduceLeDiff, Nat.reduceLT, nb0, nb1, reduceIte, reduceCtorEq, and_false, and_true, false_and, true_and, if_true, if_false, Bool.false_eq_true, eq_self, not_true_eq_false, not_false_eq_true, g_stk h, g_st0 h, a_cl h (show i < 5 by omega), h1, gn, gm, Nat.le_refl]
theorem m_clientNo (h : isS z S) {n : Int32} (hn : ¬ (0 ≤ n ∧ n < M S 0)) : run (d + 1) 33 [.ref S, .int n] (wld z M p) = some (some .null, wld z M p) := by
  rw [r33]
  simp only [e33_0, e33_1, e33_4, e33_5, e33_6, e33_9, e33_12, e33_13, e33_16, e33_17, e33_18, e33_21, e33_22, e33_22n, lk, lset, ldel, lset2, ldel2, cat2, gI_int, gA_ref, gA_null, gV_some, gC_some, gL_long, Option.toList, List.cons_append, List.nil_append, List.length_cons, List.length_nil, Nat.reduceEqDiff, Nat.reduceAdd, Nat.reduceSub, Nat.reduceLeDiff, Nat.reduceLT, nb0, nb1, reduceIte, reduceCtorEq, and_false, and_true, false_and, true_and, if_true, if_false, Bool.false_eq_true, eq_self, not_true_eq_false, not_false_eq_true, g_stk h, g_st0 h, Nat.le_refl]
  by_cases h1 : n < 0
  · simp only [h1, lk, lset, ldel, lset2, ldel2, cat2, gI_int, gA_ref, gA_null, gV_some, gC_some, gL_long, Option.toList, List.cons_append, List.nil_append, List.length_cons, List.length_nil, Nat.reduceEqDiff, Nat.reduceAdd, Nat.reduceSub, Nat.reduceLeDiff, Nat.reduceLT, nb0, nb1, reduceIte, reduceCtorEq, and_false, and_true, false_and, true_and, if_true, if_false, Bool.false_eq_true, eq_self, not_true_eq_false, not_false_eq_true]
  · have h2 : M S 0 ≤ n := by
      rw [Int32.not_lt] at h1
      rw [← Int32.not_lt]
      exact fun q => hn ⟨h1, q⟩
    simp only [h1, h2, lk, lset, ldel, lset2, ldel2, cat2, gI_int, gA_ref, gA_null, gV_some, gC_some, gL_long, Option.toList, List.cons_append, List.nil_append, List.length_cons, List.length_nil, Nat.reduceEqDiff, Nat.reduceAdd, Nat.reduceSub, Nat.reduceLeDiff, Nat.reduceLT, nb0, nb1, reduceIte, reduceCtorEq, and_false, and_true, false_and, true_and, if_true, if_false, Bool.false_eq_true, eq_self, not_true_eq_false, not_false_eq_true]
theorem m_chapterAt (h : isS z S) (hc : cnt (M S) nc nh np) {i : Nat} (hi : i < nh) : run (d + 1) 34 [.ref S, .int (nI i)] (wld z M p) = some (some (.ref (chA S i)), wld z M p) := by
  rw [r34]
  obtain ⟨-, -, h1, h2, -⟩ := hc
  have g := nI_in2 hi (by omega)
  have gn : ¬ nI i < 0 := by rw [Int32.not_lt]; exact g.1
  have gm : ¬ nI nh ≤ nI i := by rw [Int32.not_le]; exact g.2
  simp only [e34_0, e34_1, e34_4, e34_5, e34_6, e34_9, e34_12, e34_13, e34_16, e34_17, e34_18, e34_21, e34_22, e34_22n, lk, lset, ldel, lset2, ldel2, cat2, gI_int, gA_ref, gA_null, gV_some, gC_some, gL_long, Option.toList, List.cons_append, List.nil_append, List.length_cons, List.length_nil, Nat.reduceEqDiff, Nat.reduceAdd, Nat.reduceSub, Nat.reduceLeDiff, Nat.reduceLT, nb0, nb1, reduceIte, reduceCtorEq, and_false, and_true, false_and, true_and, if_true, if_false, Bool.false_eq_true, eq_self, not_true_eq_false, not_false_eq_true, g_stk h, g_st1 h, a_ch h (show i < 10 by omega), h1, gn, gm, Nat.le_refl]
theorem m_chapterNo (h : isS z S) {n : Int32} (hn : ¬ (0 ≤ n ∧ n < M S 1)) : run (d + 1) 34 [.ref S, .int n] (wld z M p) = some (some .null, wld z M p) := by
  rw [r34]
  simp only [e34_0, e34_1, e34_4, e34_5, e34_6, e34_9, e34_12, e34_13, e34_16, e34_17, e34_18, e34_21, e34_22, e34_22n, lk, lset, ldel, lset2, ldel2, cat2, gI_int, gA_ref, gA_null, gV_some, gC_some, gL_long, Option.toList, List.cons_append, List.nil_append, List.length_cons, List.length_nil, Nat.reduceEqDiff, Nat.reduceAdd, Nat.reduceSub, Nat.reduceLeDiff, Nat.reduceLT, nb0, nb1, reduceIte, reduceCtorEq, and_false, and_true, false_and, true_and, if_true, if_false, Bool.false_eq_true, eq_self, not_true_eq_false, not_false_eq_true, g_stk h, g_st1 h, Nat.le_refl]
  by_cases h1 : n < 0
  · simp only [h1, lk, lset, ldel, lset2, ldel2, cat2, gI_int, gA_ref, gA_null, gV_some, gC_some, gL_long, Option.toList, List.cons_append, List.nil_append, List.length_cons, List.length_nil, Nat.reduceEqDiff, Nat.reduceAdd, Nat.reduceSub, Nat.reduceLeDiff, Nat.reduceLT, nb0, nb1, reduceIte, reduceCtorEq, and_false, and_true, false_and, true_and, if_true, if_false, Bool.false_eq_true, eq_self, not_true_eq_false, not_false_eq_true]
  · have h2 : M S 1 ≤ n := by
      rw [Int32.not_lt] at h1
      rw [← Int32.not_lt]
      exact fun q => hn ⟨h1, q⟩
    simp only [h1, h2, lk, lset, ldel, lset2, ldel2, cat2, gI_int, gA_ref, gA_null, gV_some, gC_some, gL_long, Option.toList, List.cons_append, List.nil_append, List.length_cons, List.length_nil, Nat.reduceEqDiff, Nat.reduceAdd, Nat.reduceSub, Nat.reduceLeDiff, Nat.reduceLT, nb0, nb1, reduceIte, reduceCtorEq, and_false, and_true, false_and, true_and, if_true, if_false, Bool.false_eq_true, eq_self, not_true_eq_false, not_false_eq_true]
theorem m_phraseAt (h : isS z S) (hc : cnt (M S) nc nh np) {i : Nat} (hi : i < np) : run (d + 1) 35 [.ref S, .int (nI i)] (wld z M p) = some (some (.ref (phA S i)), wld z M p) := by
  rw [r35]
  obtain ⟨-, -, -, -, h1, h2⟩ := hc
  have g := nI_in2 hi (by omega)
  have gn : ¬ nI i < 0 := by rw [Int32.not_lt]; exact g.1
  have gm : ¬ nI np ≤ nI i := by rw [Int32.not_le]; exact g.2
  simp only [e35_0, e35_1, e35_4, e35_5, e35_6, e35_9, e35_12, e35_13, e35_16, e35_17, e35_18, e35_21, e35_22, e35_22n, lk, lset, ldel, lset2, ldel2, cat2, gI_int, gA_ref, gA_null, gV_some, gC_some, gL_long, Option.toList, List.cons_append, List.nil_append, List.length_cons, List.length_nil, Nat.reduceEqDiff, Nat.reduceAdd, Nat.reduceSub, Nat.reduceLeDiff, Nat.reduceLT, nb0, nb1, reduceIte, reduceCtorEq, and_false, and_true, false_and, true_and, if_true, if_false, Bool.false_eq_true, eq_self, not_true_eq_false, not_false_eq_true, g_stk h, g_st2 h, a_ph h (show i < 24 by omega), h1, gn, gm, Nat.le_refl]
theorem m_phraseNo (h : isS z S) {n : Int32} (hn : ¬ (0 ≤ n ∧ n < M S 2)) : run (d + 1) 35 [.ref S, .int n] (wld z M p) = some (some .null, wld z M p) := by
  rw [r35]
  simp only [e35_0, e35_1, e35_4, e35_5, e35_6, e35_9, e35_12, e35_13, e35_16, e35_17, e35_18, e35_21, e35_22, e35_22n, lk, lset, ldel, lset2, ldel2, cat2, gI_int, gA_ref, gA_null, gV_some, gC_some, gL_long, Option.toList, List.cons_append, List.nil_append, List.length_cons, List.length_nil, Nat.reduceEqDiff, Nat.reduceAdd, Nat.reduceSub, Nat.reduceLeDiff, Nat.reduceLT, nb0, nb1, reduceIte, reduceCtorEq, and_false, and_true, false_and, true_and, if_true, if_false, Bool.false_eq_true, eq_self, not_true_eq_false, not_false_eq_true, g_stk h, g_st2 h, Nat.le_refl]
  by_cases h1 : n < 0
  · simp only [h1, lk, lset, ldel, lset2, ldel2, cat2, gI_int, gA_ref, gA_null, gV_some, gC_some, gL_long, Option.toList, List.cons_append, List.nil_append, List.length_cons, List.length_nil, Nat.reduceEqDiff, Nat.reduceAdd, Nat.reduceSub, Nat.reduceLeDiff, Nat.reduceLT, nb0, nb1, reduceIte, reduceCtorEq, and_false, and_true, false_and, true_and, if_true, if_false, Bool.false_eq_true, eq_self, not_true_eq_false, not_false_eq_true]
  · have h2 : M S 2 ≤ n := by
      rw [Int32.not_lt] at h1
      rw [← Int32.not_lt]
      exact fun q => hn ⟨h1, q⟩
    simp only [h1, h2, lk, lset, ldel, lset2, ldel2, cat2, gI_int, gA_ref, gA_null, gV_some, gC_some, gL_long, Option.toList, List.cons_append, List.nil_append, List.length_cons, List.length_nil, Nat.reduceEqDiff, Nat.reduceAdd, Nat.reduceSub, Nat.reduceLeDiff, Nat.reduceLT, nb0, nb1, reduceIte, reduceCtorEq, and_false, and_true, false_and, true_and, if_true, if_false, Bool.false_eq_true, eq_self, not_true_eq_false, not_false_eq_true]
theorem m_holderOf (h : isS z S) (hc : cnt (M S) nc nh np) {c : Int32} : run (d + 2) 37 [.ref S, .int c] (wld z M p) = some (some (.int (holdF (M S) c)), wld z M p) := by
  rw [r37]
  rcases nI_case (n := c) hc.2.2.1 (by have := hc.2.2.2.1; omega) with ⟨i, hi, rfl⟩ | hn
  · simp only [e37_0, e37_1, e37_2, e37_5, e37_6, e37_7, e37_7n, e37_10, e37_11, e37_14, e37_15, e37_18, lk, lset, ldel, lset2, ldel2, cat2, gI_int, gA_ref, gA_null, gV_some, gC_some, gL_long, Option.toList, List.cons_append, List.nil_append, List.length_cons, List.length_nil, Nat.reduceEqDiff, Nat.reduceAdd, Nat.reduceSub, Nat.reduceLeDiff, Nat.reduceLT, nb0, nb1, reduceIte, reduceCtorEq, and_false, and_true, false_and, true_and, if_true, if_false, Bool.false_eq_true, eq_self, not_true_eq_false, not_false_eq_true, k_st h, m_chapterAt h hc hi, g_ch h (show i < 10 by have := hc.2.2.2.1; omega), holdF_in hc hi]
  · simp only [e37_0, e37_1, e37_2, e37_5, e37_6, e37_7, e37_7n, e37_10, e37_11, e37_14, e37_15, e37_18, lk, lset, ldel, lset2, ldel2, cat2, gI_int, gA_ref, gA_null, gV_some, gC_some, gL_long, Option.toList, List.cons_append, List.nil_append, List.length_cons, List.length_nil, Nat.reduceEqDiff, Nat.reduceAdd, Nat.reduceSub, Nat.reduceLeDiff, Nat.reduceLT, nb0, nb1, reduceIte, reduceCtorEq, and_false, and_true, false_and, true_and, if_true, if_false, Bool.false_eq_true, eq_self, not_true_eq_false, not_false_eq_true, k_st h, m_chapterNo h hn]
    unfold holdF
    rw [if_neg hn]
theorem m_purseOf (h : isS z S) (hc : cnt (M S) nc nh np) {c : Int32} : run (d + 2) 38 [.ref S, .int c] (wld z M p) = some (some (.int (purF (M S) c)), wld z M p) := by
  rw [r38]
  rcases nI_case (n := c) hc.1 (by have := hc.2.1; omega) with ⟨i, hi, rfl⟩ | hn
  · simp only [e38_0, e38_1, e38_2, e38_5, e38_6, e38_7, e38_7n, e38_10, e38_11, e38_14, e38_15, e38_18, lk, lset, ldel, lset2, ldel2, cat2, gI_int, gA_ref, gA_null, gV_some, gC_some, gL_long, Option.toList, List.cons_append, List.nil_append, List.length_cons, List.length_nil, Nat.reduceEqDiff, Nat.reduceAdd, Nat.reduceSub, Nat.reduceLeDiff, Nat.reduceLT, nb0, nb1, reduceIte, reduceCtorEq, and_false, and_true, false_and, true_and, if_true, if_false, Bool.false_eq_true, eq_self, not_true_eq_false, not_false_eq_true, k_st h, m_clientAt h hc hi, g_cl h (show i < 5 by have := hc.2.1; omega), purF_in hc hi]
  · simp only [e38_0, e38_1, e38_2, e38_5, e38_6, e38_7, e38_7n, e38_10, e38_11, e38_14, e38_15, e38_18, lk, lset, ldel, lset2, ldel2, cat2, gI_int, gA_ref, gA_null, gV_some, gC_some, gL_long, Option.toList, List.cons_append, List.nil_append, List.length_cons, List.length_nil, Nat.reduceEqDiff, Nat.reduceAdd, Nat.reduceSub, Nat.reduceLeDiff, Nat.reduceLT, nb0, nb1, reduceIte, reduceCtorEq, and_false, and_true, false_and, true_and, if_true, if_false, Bool.false_eq_true, eq_self, not_true_eq_false, not_false_eq_true, k_st h, m_clientNo h hn]
    unfold purF
    rw [if_neg hn]
theorem m_hasPage (h : isS z S) (hc : cnt (M S) nc nh np) {c g : Int32} : run (d + 2) 36 [.ref S, .int c, .int g] (wld z M p) = some (some (.int (bI (pageP (M S) c g))), wld z M p) := by
  rw [r36]
  rcases nI_case (n := c) hc.2.2.1 (by have := hc.2.2.2.1; omega) with ⟨i, hi, rfl⟩ | hn
  · simp only [e36_0, e36_1, e36_2, e36_5, e36_6, e36_7, e36_7n, e36_10, e36_11, e36_14, e36_15, e36_16, e36_19, e36_22, e36_23, e36_26, e36_27, lk, lset, ldel, lset2, ldel2, cat2, gI_int, gA_ref, gA_null, gV_some, gC_some, gL_long, Option.toList, List.cons_append, List.nil_append, List.length_cons, List.length_nil, Nat.reduceEqDiff, Nat.reduceAdd, Nat.reduceSub, Nat.reduceLeDiff, Nat.reduceLT, nb0, nb1, reduceIte, reduceCtorEq, and_false, and_true, false_and, true_and, if_true, if_false, Bool.false_eq_true, eq_self, not_true_eq_false, not_false_eq_true, k_st h, m_chapterAt h hc hi, g_ch h (show i < 10 by have := hc.2.2.2.1; omega)]
    have e : pageP (M S) (nI i) g ↔ (0 ≤ g ∧ g < M S (18 + 4 * i + 1)) := by
      unfold pageP
      rw [nI_clamp (by have := hc.2.2.2.1; omega), hc.2.2.1]
      exact ⟨fun q => q.2, fun q => ⟨nI_in2 hi (by have := hc.2.2.2.1; omega), q⟩⟩
    unfold bI
    by_cases h1 : g < 0
    · have : ¬ 0 ≤ g := by rw [Int32.not_le]; exact h1
      simp only [h1, e, this, lk, lset, ldel, lset2, ldel2, cat2, gI_int, gA_ref, gA_null, gV_some, gC_some, gL_long, Option.toList, List.cons_append, List.nil_append, List.length_cons, List.length_nil, Nat.reduceEqDiff, Nat.reduceAdd, Nat.reduceSub, Nat.reduceLeDiff, Nat.reduceLT, nb0, nb1, reduceIte, reduceCtorEq, and_false, and_true, false_and, true_and, if_true, if_false, Bool.false_eq_true, eq_self, not_true_eq_false, not_false_eq_true]
    · by_cases h2 : M S (18 + 4 * i + 1) ≤ g
      · have : ¬ g < M S (18 + 4 * i + 1) := by rw [Int32.not_lt]; exact h2
        simp only [h1, h2, e, this, lk, lset, ldel, lset2, ldel2, cat2, gI_int, gA_ref, gA_null, gV_some, gC_some, gL_long, Option.toList, List.cons_append, List.nil_append, List.length_cons, List.length_nil, Nat.reduceEqDiff, Nat.reduceAdd, Nat.reduceSub, Nat.reduceLeDiff, Nat.reduceLT, nb0, nb1, reduceIte, reduceCtorEq, and_false, and_true, false_and, true_and, if_true, if_false, Bool.false_eq_true, eq_self, not_true_eq_false, not_false_eq_true]
      · have g1 : 0 ≤ g := by rw [← Int32.not_lt]; exact h1
        have g2 : g < M S (18 + 4 * i + 1) := by rw [← Int32.not_le]; exact h2
        simp only [h1, h2, e, g1, g2, lk, lset, ldel, lset2, ldel2, cat2, gI_int, gA_ref, gA_null, gV_some, gC_some, gL_long, Option.toList, List.cons_append, List.nil_append, List.length_cons, List.length_nil, Nat.reduceEqDiff, Nat.reduceAdd, Nat.reduceSub, Nat.reduceLeDiff, Nat.reduceLT, nb0, nb1, reduceIte, reduceCtorEq, and_false, and_true, false_and, true_and, if_true, if_false, Bool.false_eq_true, eq_self, not_true_eq_false, not_false_eq_true]
  · simp only [e36_0, e36_1, e36_2, e36_5, e36_6, e36_7, e36_7n, e36_10, e36_11, e36_14, e36_15, e36_16, e36_19, e36_22, e36_23, e36_26, e36_27, lk, lset, ldel, lset2, ldel2, cat2, gI_int, gA_ref, gA_null, gV_some, gC_some, gL_long, Option.toList, List.cons_append, List.nil_append, List.length_cons, List.length_nil, Nat.reduceEqDiff, Nat.reduceAdd, Nat.reduceSub, Nat.reduceLeDiff, Nat.reduceLT, nb0, nb1, reduceIte, reduceCtorEq, and_false, and_true, false_and, true_and, if_true, if_false, Bool.false_eq_true, eq_self, not_true_eq_false, not_false_eq_true, k_st h, m_chapterNo h hn]
    unfold bI
    rw [if_neg (fun q => hn q.1)]
def recF (F : Nat → Int32) (c x : Int32) : Nat → Int32 := if 0 ≤ c ∧ c < F 0 then fset F (8 + 2 * c.toNatClampNeg + 1) (F (8 + 2 * c.toNatClampNeg + 1) + x) else fset F 4 (F 4 + x)
theorem recF_low {F : Nat → Int32} {c x : Int32} {j : Nat} (hj : j < 4) : recF F c x j = F j := by
  unfold recF
  split
  · exact fset_ne (by omega)
  · exact fset_ne (by omega)
theorem recF_cnt {F : Nat → Int32} {c x : Int32} (hc : cnt F nc nh np) : cnt (recF F c x) nc nh np := by
  unfold cnt
  rw [recF_low (by omega), recF_low (by omega), recF_low (by omega)]
  exact hc
theorem m_receive (h : isS z S) (hc : cnt (M S) nc nh np) {c x : Int32} : run (d + 2) 40 [.ref S, .int c, .int x] (wld z M p) = some (none, wld z (mput M S (recF (M S) c x)) p) := by
  rw [r40]
  unfold recF
  rcases nI_case (n := c) hc.1 (by have := hc.2.1; omega) with ⟨i, hi, rfl⟩ | hn
  · have hi5 : i < 5 := by have := hc.2.1; omega
    rw [hc.1, if_pos (nI_in2 hi (by have := hc.2.1; omega)), nI_clamp (by omega)]
    simp only [e40_0, e40_1, e40_2, e40_5, e40_6, e40_7, e40_7n, e40_10, e40_11, e40_11a, e40_12, e40_15, e40_16, e40_17, e40_20, e40_23, e40_24, e40_24a, e40_25, e40_28, e40_29, e40_30, e40_33, lk, lset, ldel, lset2, ldel2, cat2, gI_int, gA_ref, gA_null, gV_some, gC_some, gL_long, Option.toList, List.cons_append, List.nil_append, List.length_cons, List.length_nil, Nat.reduceEqDiff, Nat.reduceAdd, Nat.reduceSub, Nat.reduceLeDiff, Nat.reduceLT, nb0, nb1, reduceIte, reduceCtorEq, and_false, and_true, false_and, true_and, if_true, if_false, Bool.false_eq_true, eq_self, not_true_eq_false, not_false_eq_true, k_st h, m_clientAt h hc hi, g_cl h hi5, p_cl h hi5]
  · rw [if_neg hn]
    simp only [e40_0, e40_1, e40_2, e40_5, e40_6, e40_7, e40_7n, e40_10, e40_11, e40_11a, e40_12, e40_15, e40_16, e40_17, e40_20, e40_23, e40_24, e40_24a, e40_25, e40_28, e40_29, e40_30, e40_33, lk, lset, ldel, lset2, ldel2, cat2, gI_int, gA_ref, gA_null, gV_some, gC_some, gL_long, Option.toList, List.cons_append, List.nil_append, List.length_cons, List.length_nil, Nat.reduceEqDiff, Nat.reduceAdd, Nat.reduceSub, Nat.reduceLeDiff, Nat.reduceLT, nb0, nb1, reduceIte, reduceCtorEq, and_false, and_true, false_and, true_and, if_true, if_false, Bool.false_eq_true, eq_self, not_true_eq_false, not_false_eq_true, k_st h, m_clientNo h hn, g_stk h, p_stk h]
def payF (F : Nat → Int32) (a b x : Int32) : Nat → Int32 := recF (recF F a (-x)) b x
theorem m_pay (h : isS z S) (hc : cnt (M S) nc nh np) {a b x : Int32} : run (d + 3) 39 [.ref S, .int a, .int b, .int x] (wld z M p) = some (none, wld z (mput M S (payF (M S) a b x)) p) := by
  rw [r39]
  have h2 : cnt (mput M S (recF (M S) a (-x)) S) nc nh np := by rw [mput_same]; exact recF_cnt hc
  simp only [e39_0, e39_1, e39_2, e39_3, e39_4, e39_7, e39_8, e39_9, e39_10, e39_13, lk, lset, ldel, lset2, ldel2, cat2, gI_int, gA_ref, gA_null, gV_some, gC_some, gL_long, Option.toList, List.cons_append, List.nil_append, List.length_cons, List.length_nil, Nat.reduceEqDiff, Nat.reduceAdd, Nat.reduceSub, Nat.reduceLeDiff, Nat.reduceLT, nb0, nb1, reduceIte, reduceCtorEq, and_false, and_true, false_and, true_and, if_true, if_false, Bool.false_eq_true, eq_self, not_true_eq_false, not_false_eq_true, k_st h, m_receive h hc, m_receive h h2, mput_same, mput_mput, fset_same]
  rfl
def lossF (F : Nat → Int32) (i : Nat) : Int32 := 100 - F 7 * (F 3 - F (18 + 4 * i + 3))
def worF (F : Nat → Int32) (i : Nat) : Int32 := F (18 + 4 * i + 2) * (if 0 < lossF F i then lossF F i else 0) / 100
theorem m_worthOf (h : isS z S) {i : Nat} (hi : i < 10) : run (d + 1) 41 [.ref S, .ref (chA S i)] (wld z M p) = some (some (.int (worF (M S) i)), wld z M p) := by
  rw [r41]
  simp only [e41_0, e41_1, e41_3, e41_4, e41_7, e41_8, e41_11, e41_12, e41_15, e41_16, e41_17, e41_18, e41_21, e41_22, e41_23, e41_26, e41_27, e41_28, e41_30, e41_31, lk, lset, ldel, lset2, ldel2, cat2, gI_int, gA_ref, gA_null, gV_some, gC_some, gL_long, Option.toList, List.cons_append, List.nil_append, List.length_cons, List.length_nil, Nat.reduceEqDiff, Nat.reduceAdd, Nat.reduceSub, Nat.reduceLeDiff, Nat.reduceLT, nb0, nb1, reduceIte, reduceCtorEq, and_false, and_true, false_and, true_and, if_true, if_false, Bool.false_eq_true, eq_self, not_true_eq_false, not_false_eq_true, g_stk h, g_ch h hi]
  rw [if_neg (by decide)]
  rfl
end SB
