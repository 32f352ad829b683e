/-! the counting loops of a state -/
def sumR (f : Nat → Int32) : Nat → Nat → Int32
  | _, 0 => 0
  | i, k + 1 => f i + sumR f (i + 1) k
theorem sumR_congr {f g : Nat → Int32} : ∀ {k i : Nat}, (∀ j, i ≤ j → j < i + k → f j = g j) → sumR f i k = sumR g i k
  | 0, _, _ => rfl
  | k + 1, i, h => by
    rw [sumR, sumR, h i (Nat.le_refl _) (by omega), sumR_congr (fun j h1 h2 => h j (by omega) (by omega))]
theorem nI_stop {n i : Nat} (h : n ≤ i) (hi : i ≤ 2000) : nI n ≤ nI i := nI_le h (by omega)
theorem nI_goon {n i : Nat} (h : i < n) (hn : n ≤ 2000) : ¬ nI n ≤ nI i := nI_ge h (by omega)
section CT
variable {z : Zt} {S d : Nat} {M : Nat → Nat → Int32} {p : Nat → Nat} {nc nh np : Nat}
def chaptersOfS (F : Nat → Int32) (c : Int32) : Nat → Int32 := fun i => bI (F (18 + 4 * i + 0) = c)
theorem l_chaptersOf (h : isS z S) (hc : cnt (M S) nc nh np) {c : Int32} : ∀ (k i : Nat), i + k = nh → ∀ (acc : Int32) (rest : List (Nat × Value)), X d 61 4 ((0, .ref S) :: (1, .int c) :: (2, .int acc) :: (3, .int (nI i)) :: rest) [] (wld z M p) = some (some (.int (acc + sumR (chaptersOfS (M S) c) i k)), wld z M p) := by
  intro k
  have hle := hc.2.2.2.1
  induction k with
  | zero =>
    intro i hi acc rest
    have g := nI_stop (n := nh) (i := i) (by omega) (by omega)
    rw [e61_4]
    simp only [e61_0, e61_1, e61_2, e61_3, e61_5, e61_6, e61_9, e61_12, e61_13, e61_16, e61_17, e61_18, e61_21, e61_22, e61_25, e61_28, e61_31, e61_34, e61_35, lk, lset, ldel, lset2, ldel2, cat2, gI_int, gA_ref, gA_null, gV_some, gC_some, gL_long, Option.toList, List.cons_append, List.nil_append, List.length_cons, List.length_nil, Nat.reduceEqDiff, Nat.reduceAdd, Nat.reduceSub, Nat.reduceLeDiff, Nat.reduceLT, nb0, nb1, reduceIte, reduceCtorEq, and_false, and_true, false_and, true_and, if_true, if_false, Bool.false_eq_true, eq_self, not_true_eq_false, not_false_eq_true, g_stk h, Nat.le_refl, hc.2.2.1, g]
    simp only [sumR, Int32.add_zero, Int32.sub_zero]
  | succ k ih =>
    intro i hi acc rest
    have ih' := fun acc rest => ih (i + 1) (by omega) acc rest
    have g := nI_goon (i := i) (n := nh) (by omega) (by omega)
    have hi2 : i < 10 := by omega
    rw [e61_4]
    simp only [e61_0, e61_1, e61_2, e61_3, e61_5, e61_6, e61_9, e61_12, e61_13, e61_16, e61_17, e61_18, e61_21, e61_22, e61_25, e61_28, e61_31, e61_34, e61_35, lk, lset, ldel, lset2, ldel2, cat2, gI_int, gA_ref, gA_null, gV_some, gC_some, gL_long, Option.toList, List.cons_append, List.nil_append, List.length_cons, List.length_nil, Nat.reduceEqDiff, Nat.reduceAdd, Nat.reduceSub, Nat.reduceLeDiff, Nat.reduceLT, nb0, nb1, reduceIte, reduceCtorEq, and_false, and_true, false_and, true_and, if_true, if_false, Bool.false_eq_true, eq_self, not_true_eq_false, not_false_eq_true, g_stk h, g_st0 h, g_st1 h, g_st2 h, Nat.le_refl, hc.2.2.1, g, nI_1, ih', g_ch h hi2, a_ch h hi2, k_ch h hi2]
    simp only [sumR, chaptersOfS]
    grind [bI]
theorem m_chaptersOf (h : isS z S) (hc : cnt (M S) nc nh np) {c : Int32} : run (d + 1) 61 [.ref S, .int c] (wld z M p) = some (some (.int (0 + sumR (chaptersOfS (M S) c) 0 nh)), wld z M p) := by
  have e := fun acc rest => l_chaptersOf (d := d) (p := p) h hc (c := c) nh 0 (by omega) acc rest
  rw [show nI 0 = 0 from nI_0] at e
  rw [r61]
  simp only [e61_0, e61_1, e61_2, e61_3, e61_5, e61_6, e61_9, e61_12, e61_13, e61_16, e61_17, e61_18, e61_21, e61_22, e61_25, e61_28, e61_31, e61_34, e61_35, lk, lset, ldel, lset2, ldel2, cat2, gI_int, gA_ref, gA_null, gV_some, gC_some, gL_long, Option.toList, List.cons_append, List.nil_append, List.length_cons, List.length_nil, Nat.reduceEqDiff, Nat.reduceAdd, Nat.reduceSub, Nat.reduceLeDiff, Nat.reduceLT, nb0, nb1, reduceIte, reduceCtorEq, and_false, and_true, false_and, true_and, if_true, if_false, Bool.false_eq_true, eq_self, not_true_eq_false, not_false_eq_true, e]

def phrasesOnS (F : Nat → Int32) (c : Int32) : Nat → Int32 := fun i => bI (F (58 + 10 * i + 4) = c)
theorem l_phrasesOn (h : isS z S) (hc : cnt (M S) nc nh np) {c : Int32} : ∀ (k i : Nat), i + k = np → ∀ (acc : Int32) (rest : List (Nat × Value)), X d 62 4 ((0, .ref S) :: (1, .int c) :: (2, .int acc) :: (3, .int (nI i)) :: rest) [] (wld z M p) = some (some (.int (acc + sumR (phrasesOnS (M S) c) i k)), wld z M p) := by
  intro k
  have hle := hc.2.2.2.2.2
  induction k with
  | zero =>
    intro i hi acc rest
    have g := nI_stop (n := np) (i := i) (by omega) (by omega)
    rw [e62_4]
    simp only [e62_0, e62_1, e62_2, e62_3, e62_5, e62_6, e62_9, e62_12, e62_13, e62_16, e62_17, e62_18, e62_21, e62_22, e62_25, e62_28, e62_31, e62_34, e62_35, lk, lset, ldel, lset2, ldel2, cat2, gI_int, gA_ref, gA_null, gV_some, gC_some, gL_long, Option.toList, List.cons_append, List.nil_append, List.length_cons, List.length_nil, Nat.reduceEqDiff, Nat.reduceAdd, Nat.reduceSub, Nat.reduceLeDiff, Nat.reduceLT, nb0, nb1, reduceIte, reduceCtorEq, and_false, and_true, false_and, true_and, if_true, if_false, Bool.false_eq_true, eq_self, not_true_eq_false, not_false_eq_true, g_stk h, Nat.le_refl, hc.2.2.2.2.1, g]
    simp only [sumR, Int32.add_zero, Int32.sub_zero]
  | succ k ih =>
    intro i hi acc rest
    have ih' := fun acc rest => ih (i + 1) (by omega) acc rest
    have g := nI_goon (i := i) (n := np) (by omega) (by omega)
    have hi2 : i < 24 := by omega
    rw [e62_4]
    simp only [e62_0, e62_1, e62_2, e62_3, e62_5, e62_6, e62_9, e62_12, e62_13, e62_16, e62_17, e62_18, e62_21, e62_22, e62_25, e62_28, e62_31, e62_34, e62_35, lk, lset, ldel, lset2, ldel2, cat2, gI_int, gA_ref, gA_null, gV_some, gC_some, gL_long, Option.toList, List.cons_append, List.nil_append, List.length_cons, List.length_nil, Nat.reduceEqDiff, Nat.reduceAdd, Nat.reduceSub, Nat.reduceLeDiff, Nat.reduceLT, nb0, nb1, reduceIte, reduceCtorEq, and_false, and_true, false_and, true_and, if_true, if_false, Bool.false_eq_true, eq_self, not_true_eq_false, not_false_eq_true, g_stk h, g_st0 h, g_st1 h, g_st2 h, Nat.le_refl, hc.2.2.2.2.1, g, nI_1, ih', g_ph h hi2, a_ph h hi2, k_ph h hi2]
    simp only [sumR, phrasesOnS]
    grind [bI]
theorem m_phrasesOn (h : isS z S) (hc : cnt (M S) nc nh np) {c : Int32} : run (d + 1) 62 [.ref S, .int c] (wld z M p) = some (some (.int (0 + sumR (phrasesOnS (M S) c) 0 np)), wld z M p) := by
  have e := fun acc rest => l_phrasesOn (d := d) (p := p) h hc (c := c) np 0 (by omega) acc rest
  rw [show nI 0 = 0 from nI_0] at e
  rw [r62]
  simp only [e62_0, e62_1, e62_2, e62_3, e62_5, e62_6, e62_9, e62_12, e62_13, e62_16, e62_17, e62_18, e62_21, e62_22, e62_25, e62_28, e62_31, e62_34, e62_35, lk, lset, ldel, lset2, ldel2, cat2, gI_int, gA_ref, gA_null, gV_some, gC_some, gL_long, Option.toList, List.cons_append, List.nil_append, List.length_cons, List.length_nil, Nat.reduceEqDiff, Nat.reduceAdd, Nat.reduceSub, Nat.reduceLeDiff, Nat.reduceLT, nb0, nb1, reduceIte, reduceCtorEq, and_false, and_true, false_and, true_and, if_true, if_false, Bool.false_eq_true, eq_self, not_true_eq_false, not_false_eq_true, e]

def phrasesInS (F : Nat → Int32) (c : Int32) : Nat → Int32 := fun i => bI (holdF F (F (58 + 10 * i + 4)) = c)
theorem l_phrasesIn (h : isS z S) (hc : cnt (M S) nc nh np) {c : Int32} : ∀ (k i : Nat), i + k = np → ∀ (acc : Int32) (rest : List (Nat × Value)), X (d + 2) 63 4 ((0, .ref S) :: (1, .int c) :: (2, .int acc) :: (3, .int (nI i)) :: rest) [] (wld z M p) = some (some (.int (acc + sumR (phrasesInS (M S) c) i k)), wld z M p) := by
  intro k
  have hle := hc.2.2.2.2.2
  induction k with
  | zero =>
    intro i hi acc rest
    have g := nI_stop (n := np) (i := i) (by omega) (by omega)
    rw [e63_4]
    simp only [e63_0, e63_1, e63_2, e63_3, e63_5, e63_6, e63_9, e63_12, e63_13, e63_14, e63_17, e63_18, e63_19, e63_22, e63_25, e63_26, e63_29, e63_32, e63_35, e63_38, e63_39, lk, lset, ldel, lset2, ldel2, cat2, gI_int, gA_ref, gA_null, gV_some, gC_some, gL_long, Option.toList, List.cons_append, List.nil_append, List.length_cons, List.length_nil, Nat.reduceEqDiff, Nat.reduceAdd, Nat.reduceSub, Nat.reduceLeDiff, Nat.reduceLT, nb0, nb1, reduceIte, reduceCtorEq, and_false, and_true, false_and, true_and, if_true, if_false, Bool.false_eq_true, eq_self, not_true_eq_false, not_false_eq_true, g_stk h, Nat.le_refl, hc.2.2.2.2.1, g]
    simp only [sumR, Int32.add_zero, Int32.sub_zero]
  | succ k ih =>
    intro i hi acc rest
    have ih' := fun acc rest => ih (i + 1) (by omega) acc rest
    have g := nI_goon (i := i) (n := np) (by omega) (by omega)
    have hi2 : i < 24 := by omega
    rw [e63_4]
    simp only [e63_0, e63_1, e63_2, e63_3, e63_5, e63_6, e63_9, e63_12, e63_13, e63_14, e63_17, e63_18, e63_19, e63_22, e63_25, e63_26, e63_29, e63_32, e63_35, e63_38, e63_39, lk, lset, ldel, lset2, ldel2, cat2, gI_int, gA_ref, gA_null, gV_some, gC_some, gL_long, Option.toList, List.cons_append, List.nil_append, List.length_cons, List.length_nil, Nat.reduceEqDiff, Nat.reduceAdd, Nat.reduceSub, Nat.reduceLeDiff, Nat.reduceLT, nb0, nb1, reduceIte, reduceCtorEq, and_false, and_true, false_and, true_and, if_true, if_false, Bool.false_eq_true, eq_self, not_true_eq_false, not_false_eq_true, g_stk h, g_st0 h, g_st1 h, g_st2 h, Nat.le_refl, hc.2.2.2.2.1, g, nI_1, ih', g_ph h hi2, a_ph h hi2, k_ph h hi2, k_st h, m_holderOf h hc]
    simp only [sumR, phrasesInS]
    grind [bI]
theorem m_phrasesIn (h : isS z S) (hc : cnt (M S) nc nh np) {c : Int32} : run (d + 3) 63 [.ref S, .int c] (wld z M p) = some (some (.int (0 + sumR (phrasesInS (M S) c) 0 np)), wld z M p) := by
  have e := fun acc rest => l_phrasesIn (d := d) (p := p) h hc (c := c) np 0 (by omega) acc rest
  rw [show nI 0 = 0 from nI_0] at e
  rw [r63]
  simp only [e63_0, e63_1, e63_2, e63_3, e63_5, e63_6, e63_9, e63_12, e63_13, e63_14, e63_17, e63_18, e63_19, e63_22, e63_25, e63_26, e63_29, e63_32, e63_35, e63_38, e63_39, lk, lset, ldel, lset2, ldel2, cat2, gI_int, gA_ref, gA_null, gV_some, gC_some, gL_long, Option.toList, List.cons_append, List.nil_append, List.length_cons, List.length_nil, Nat.reduceEqDiff, Nat.reduceAdd, Nat.reduceSub, Nat.reduceLeDiff, Nat.reduceLT, nb0, nb1, reduceIte, reduceCtorEq, and_false, and_true, false_and, true_and, if_true, if_false, Bool.false_eq_true, eq_self, not_true_eq_false, not_false_eq_true, e]

def lentToS (F : Nat → Int32) (c : Int32) : Nat → Int32 := fun i => bI (¬ F (58 + 10 * i + 6) = -1 ∧ holdF F (F (58 + 10 * i + 4)) = c)
theorem l_lentTo (h : isS z S) (hc : cnt (M S) nc nh np) {c : Int32} : ∀ (k i : Nat), i + k = np → ∀ (acc : Int32) (rest : List (Nat × Value)), X (d + 2) 64 4 ((0, .ref S) :: (1, .int c) :: (2, .int acc) :: (3, .int (nI i)) :: rest) [] (wld z M p) = some (some (.int (acc + sumR (lentToS (M S) c) i k)), wld z M p) := by
  intro k
  have hle := hc.2.2.2.2.2
  induction k with
  | zero =>
    intro i hi acc rest
    have g := nI_stop (n := np) (i := i) (by omega) (by omega)
    rw [e64_4]
    simp only [e64_0, e64_1, e64_2, e64_3, e64_5, e64_6, e64_9, e64_12, e64_13, e64_16, e64_17, e64_18, e64_21, e64_24, e64_25, e64_26, e64_29, e64_30, e64_31, e64_34, e64_37, e64_38, e64_41, e64_44, e64_47, e64_50, e64_51, lk, lset, ldel, lset2, ldel2, cat2, gI_int, gA_ref, gA_null, gV_some, gC_some, gL_long, Option.toList, List.cons_append, List.nil_append, List.length_cons, List.length_nil, Nat.reduceEqDiff, Nat.reduceAdd, Nat.reduceSub, Nat.reduceLeDiff, Nat.reduceLT, nb0, nb1, reduceIte, reduceCtorEq, and_false, and_true, false_and, true_and, if_true, if_false, Bool.false_eq_true, eq_self, not_true_eq_false, not_false_eq_true, g_stk h, Nat.le_refl, hc.2.2.2.2.1, g]
    simp only [sumR, Int32.add_zero, Int32.sub_zero]
  | succ k ih =>
    intro i hi acc rest
    have ih' := fun acc rest => ih (i + 1) (by omega) acc rest
    have g := nI_goon (i := i) (n := np) (by omega) (by omega)
    have hi2 : i < 24 := by omega
    rw [e64_4]
    simp only [e64_0, e64_1, e64_2, e64_3, e64_5, e64_6, e64_9, e64_12, e64_13, e64_16, e64_17, e64_18, e64_21, e64_24, e64_25, e64_26, e64_29, e64_30, e64_31, e64_34, e64_37, e64_38, e64_41, e64_44, e64_47, e64_50, e64_51, lk, lset, ldel, lset2, ldel2, cat2, gI_int, gA_ref, gA_null, gV_some, gC_some, gL_long, Option.toList, List.cons_append, List.nil_append, List.length_cons, List.length_nil, Nat.reduceEqDiff, Nat.reduceAdd, Nat.reduceSub, Nat.reduceLeDiff, Nat.reduceLT, nb0, nb1, reduceIte, reduceCtorEq, and_false, and_true, false_and, true_and, if_true, if_false, Bool.false_eq_true, eq_self, not_true_eq_false, not_false_eq_true, g_stk h, g_st0 h, g_st1 h, g_st2 h, Nat.le_refl, hc.2.2.2.2.1, g, nI_1, ih', g_ph h hi2, a_ph h hi2, k_ph h hi2, k_st h, m_holderOf h hc, m_isLent h hi2, bI_0, Classical.not_not]
    simp only [sumR, lentToS]
    grind [bI]
theorem m_lentTo (h : isS z S) (hc : cnt (M S) nc nh np) {c : Int32} : run (d + 3) 64 [.ref S, .int c] (wld z M p) = some (some (.int (0 + sumR (lentToS (M S) c) 0 np)), wld z M p) := by
  have e := fun acc rest => l_lentTo (d := d) (p := p) h hc (c := c) np 0 (by omega) acc rest
  rw [show nI 0 = 0 from nI_0] at e
  rw [r64]
  simp only [e64_0, e64_1, e64_2, e64_3, e64_5, e64_6, e64_9, e64_12, e64_13, e64_16, e64_17, e64_18, e64_21, e64_24, e64_25, e64_26, e64_29, e64_30, e64_31, e64_34, e64_37, e64_38, e64_41, e64_44, e64_47, e64_50, e64_51, lk, lset, ldel, lset2, ldel2, cat2, gI_int, gA_ref, gA_null, gV_some, gC_some, gL_long, Option.toList, List.cons_append, List.nil_append, List.length_cons, List.length_nil, Nat.reduceEqDiff, Nat.reduceAdd, Nat.reduceSub, Nat.reduceLeDiff, Nat.reduceLT, nb0, nb1, reduceIte, reduceCtorEq, and_false, and_true, false_and, true_and, if_true, if_false, Bool.false_eq_true, eq_self, not_true_eq_false, not_false_eq_true, e]

def lentFromS (F : Nat → Int32) (c : Int32) : Nat → Int32 := fun i => bI (holdF F (F (58 + 10 * i + 7)) = c)
theorem l_lentFrom (h : isS z S) (hc : cnt (M S) nc nh np) {c : Int32} : ∀ (k i : Nat), i + k = np → ∀ (acc : Int32) (rest : List (Nat × Value)), X (d + 2) 65 4 ((0, .ref S) :: (1, .int c) :: (2, .int acc) :: (3, .int (nI i)) :: rest) [] (wld z M p) = some (some (.int (acc + sumR (lentFromS (M S) c) i k)), wld z M p) := by
  intro k
  have hle := hc.2.2.2.2.2
  induction k with
  | zero =>
    intro i hi acc rest
    have g := nI_stop (n := np) (i := i) (by omega) (by omega)
    rw [e65_4]
    simp only [e65_0, e65_1, e65_2, e65_3, e65_5, e65_6, e65_9, e65_12, e65_13, e65_14, e65_17, e65_18, e65_19, e65_22, e65_25, e65_26, e65_29, e65_32, e65_35, e65_38, e65_39, lk, lset, ldel, lset2, ldel2, cat2, gI_int, gA_ref, gA_null, gV_some, gC_some, gL_long, Option.toList, List.cons_append, List.nil_append, List.length_cons, List.length_nil, Nat.reduceEqDiff, Nat.reduceAdd, Nat.reduceSub, Nat.reduceLeDiff, Nat.reduceLT, nb0, nb1, reduceIte, reduceCtorEq, and_false, and_true, false_and, true_and, if_true, if_false, Bool.false_eq_true, eq_self, not_true_eq_false, not_false_eq_true, g_stk h, Nat.le_refl, hc.2.2.2.2.1, g]
    simp only [sumR, Int32.add_zero, Int32.sub_zero]
  | succ k ih =>
    intro i hi acc rest
    have ih' := fun acc rest => ih (i + 1) (by omega) acc rest
    have g := nI_goon (i := i) (n := np) (by omega) (by omega)
    have hi2 : i < 24 := by omega
    rw [e65_4]
    simp only [e65_0, e65_1, e65_2, e65_3, e65_5, e65_6, e65_9, e65_12, e65_13, e65_14, e65_17, e65_18, e65_19, e65_22, e65_25, e65_26, e65_29, e65_32, e65_35, e65_38, e65_39, lk, lset, ldel, lset2, ldel2, cat2, gI_int, gA_ref, gA_null, gV_some, gC_some, gL_long, Option.toList, List.cons_append, List.nil_append, List.length_cons, List.length_nil, Nat.reduceEqDiff, Nat.reduceAdd, Nat.reduceSub, Nat.reduceLeDiff, Nat.reduceLT, nb0, nb1, reduceIte, reduceCtorEq, and_false, and_true, false_and, true_and, if_true, if_false, Bool.false_eq_true, eq_self, not_true_eq_false, not_false_eq_true, g_stk h, g_st0 h, g_st1 h, g_st2 h, Nat.le_refl, hc.2.2.2.2.1, g, nI_1, ih', g_ph h hi2, a_ph h hi2, k_ph h hi2, k_st h, m_holderOf h hc]
    simp only [sumR, lentFromS]
    grind [bI]
theorem m_lentFrom (h : isS z S) (hc : cnt (M S) nc nh np) {c : Int32} : run (d + 3) 65 [.ref S, .int c] (wld z M p) = some (some (.int (0 + sumR (lentFromS (M S) c) 0 np)), wld z M p) := by
  have e := fun acc rest => l_lentFrom (d := d) (p := p) h hc (c := c) np 0 (by omega) acc rest
  rw [show nI 0 = 0 from nI_0] at e
  rw [r65]
  simp only [e65_0, e65_1, e65_2, e65_3, e65_5, e65_6, e65_9, e65_12, e65_13, e65_14, e65_17, e65_18, e65_19, e65_22, e65_25, e65_26, e65_29, e65_32, e65_35, e65_38, e65_39, lk, lset, ldel, lset2, ldel2, cat2, gI_int, gA_ref, gA_null, gV_some, gC_some, gL_long, Option.toList, List.cons_append, List.nil_append, List.length_cons, List.length_nil, Nat.reduceEqDiff, Nat.reduceAdd, Nat.reduceSub, Nat.reduceLeDiff, Nat.reduceLT, nb0, nb1, reduceIte, reduceCtorEq, and_false, and_true, false_and, true_and, if_true, if_false, Bool.false_eq_true, eq_self, not_true_eq_false, not_false_eq_true, e]

def freePhrasesS (F : Nat → Int32) : Nat → Int32 := fun i => bI (F (58 + 10 * i + 4) = -1)
theorem l_freePhrases (h : isS z S) (hc : cnt (M S) nc nh np) : ∀ (k i : Nat), i + k = np → ∀ (acc : Int32) (rest : List (Nat × Value)), X (d + 1) 70 4 ((0, .ref S) :: (1, .int acc) :: (2, .int (nI i)) :: rest) [] (wld z M p) = some (some (.int (acc + sumR (freePhrasesS (M S)) i k)), wld z M p) := by
  intro k
  have hle := hc.2.2.2.2.2
  induction k with
  | zero =>
    intro i hi acc rest
    have g := nI_stop (n := np) (i := i) (by omega) (by omega)
    rw [e70_4]
    simp only [e70_0, e70_1, e70_2, e70_3, e70_5, e70_6, e70_9, e70_12, e70_13, e70_16, e70_17, e70_18, e70_21, e70_24, e70_27, e70_30, e70_33, e70_34, lk, lset, ldel, lset2, ldel2, cat2, gI_int, gA_ref, gA_null, gV_some, gC_some, gL_long, Option.toList, List.cons_append, List.nil_append, List.length_cons, List.length_nil, Nat.reduceEqDiff, Nat.reduceAdd, Nat.reduceSub, Nat.reduceLeDiff, Nat.reduceLT, nb0, nb1, reduceIte, reduceCtorEq, and_false, and_true, false_and, true_and, if_true, if_false, Bool.false_eq_true, eq_self, not_true_eq_false, not_false_eq_true, g_stk h, Nat.le_refl, hc.2.2.2.2.1, g]
    simp only [sumR, Int32.add_zero, Int32.sub_zero]
  | succ k ih =>
    intro i hi acc rest
    have ih' := fun acc rest => ih (i + 1) (by omega) acc rest
    have g := nI_goon (i := i) (n := np) (by omega) (by omega)
    have hi2 : i < 24 := by omega
    rw [e70_4]
    simp only [e70_0, e70_1, e70_2, e70_3, e70_5, e70_6, e70_9, e70_12, e70_13, e70_16, e70_17, e70_18, e70_21, e70_24, e70_27, e70_30, e70_33, e70_34, lk, lset, ldel, lset2, ldel2, cat2, gI_int, gA_ref, gA_null, gV_some, gC_some, gL_long, Option.toList, List.cons_append, List.nil_append, List.length_cons, List.length_nil, Nat.reduceEqDiff, Nat.reduceAdd, Nat.reduceSub, Nat.reduceLeDiff, Nat.reduceLT, nb0, nb1, reduceIte, reduceCtorEq, and_false, and_true, false_and, true_and, if_true, if_false, Bool.false_eq_true, eq_self, not_true_eq_false, not_false_eq_true, g_stk h, g_st0 h, g_st1 h, g_st2 h, Nat.le_refl, hc.2.2.2.2.1, g, nI_1, ih', g_ph h hi2, a_ph h hi2, k_ph h hi2, m_isFree h hi2, bI_0]
    simp only [sumR, freePhrasesS]
    grind [bI]
theorem m_freePhrases (h : isS z S) (hc : cnt (M S) nc nh np) : run (d + 2) 70 [.ref S] (wld z M p) = some (some (.int (0 + sumR (freePhrasesS (M S)) 0 np)), wld z M p) := by
  have e := fun acc rest => l_freePhrases (d := d) (p := p) h hc np 0 (by omega) acc rest
  rw [show nI 0 = 0 from nI_0] at e
  rw [r70]
  simp only [e70_0, e70_1, e70_2, e70_3, e70_5, e70_6, e70_9, e70_12, e70_13, e70_16, e70_17, e70_18, e70_21, e70_24, e70_27, e70_30, e70_33, e70_34, lk, lset, ldel, lset2, ldel2, cat2, gI_int, gA_ref, gA_null, gV_some, gC_some, gL_long, Option.toList, List.cons_append, List.nil_append, List.length_cons, List.length_nil, Nat.reduceEqDiff, Nat.reduceAdd, Nat.reduceSub, Nat.reduceLeDiff, Nat.reduceLT, nb0, nb1, reduceIte, reduceCtorEq, and_false, and_true, false_and, true_and, if_true, if_false, Bool.false_eq_true, eq_self, not_true_eq_false, not_false_eq_true, e]

def lentPhrasesS (F : Nat → Int32) : Nat → Int32 := fun i => bI (¬ F (58 + 10 * i + 6) = -1)
theorem l_lentPhrases (h : isS z S) (hc : cnt (M S) nc nh np) : ∀ (k i : Nat), i + k = np → ∀ (acc : Int32) (rest : List (Nat × Value)), X (d + 1) 71 4 ((0, .ref S) :: (1, .int acc) :: (2, .int (nI i)) :: rest) [] (wld z M p) = some (some (.int (acc + sumR (lentPhrasesS (M S)) i k)), wld z M p) := by
  intro k
  have hle := hc.2.2.2.2.2
  induction k with
  | zero =>
    intro i hi acc rest
    have g := nI_stop (n := np) (i := i) (by omega) (by omega)
    rw [e71_4]
    simp only [e71_0, e71_1, e71_2, e71_3, e71_5, e71_6, e71_9, e71_12, e71_13, e71_16, e71_17, e71_18, e71_21, e71_24, e71_27, e71_30, e71_33, e71_34, lk, lset, ldel, lset2, ldel2, cat2, gI_int, gA_ref, gA_null, gV_some, gC_some, gL_long, Option.toList, List.cons_append, List.nil_append, List.length_cons, List.length_nil, Nat.reduceEqDiff, Nat.reduceAdd, Nat.reduceSub, Nat.reduceLeDiff, Nat.reduceLT, nb0, nb1, reduceIte, reduceCtorEq, and_false, and_true, false_and, true_and, if_true, if_false, Bool.false_eq_true, eq_self, not_true_eq_false, not_false_eq_true, g_stk h, Nat.le_refl, hc.2.2.2.2.1, g]
    simp only [sumR, Int32.add_zero, Int32.sub_zero]
  | succ k ih =>
    intro i hi acc rest
    have ih' := fun acc rest => ih (i + 1) (by omega) acc rest
    have g := nI_goon (i := i) (n := np) (by omega) (by omega)
    have hi2 : i < 24 := by omega
    rw [e71_4]
    simp only [e71_0, e71_1, e71_2, e71_3, e71_5, e71_6, e71_9, e71_12, e71_13, e71_16, e71_17, e71_18, e71_21, e71_24, e71_27, e71_30, e71_33, e71_34, lk, lset, ldel, lset2, ldel2, cat2, gI_int, gA_ref, gA_null, gV_some, gC_some, gL_long, Option.toList, List.cons_append, List.nil_append, List.length_cons, List.length_nil, Nat.reduceEqDiff, Nat.reduceAdd, Nat.reduceSub, Nat.reduceLeDiff, Nat.reduceLT, nb0, nb1, reduceIte, reduceCtorEq, and_false, and_true, false_and, true_and, if_true, if_false, Bool.false_eq_true, eq_self, not_true_eq_false, not_false_eq_true, g_stk h, g_st0 h, g_st1 h, g_st2 h, Nat.le_refl, hc.2.2.2.2.1, g, nI_1, ih', g_ph h hi2, a_ph h hi2, k_ph h hi2, m_isLent h hi2, bI_0]
    simp only [sumR, lentPhrasesS]
    grind [bI]
theorem m_lentPhrases (h : isS z S) (hc : cnt (M S) nc nh np) : run (d + 2) 71 [.ref S] (wld z M p) = some (some (.int (0 + sumR (lentPhrasesS (M S)) 0 np)), wld z M p) := by
  have e := fun acc rest => l_lentPhrases (d := d) (p := p) h hc np 0 (by omega) acc rest
  rw [show nI 0 = 0 from nI_0] at e
  rw [r71]
  simp only [e71_0, e71_1, e71_2, e71_3, e71_5, e71_6, e71_9, e71_12, e71_13, e71_16, e71_17, e71_18, e71_21, e71_24, e71_27, e71_30, e71_33, e71_34, lk, lset, ldel, lset2, ldel2, cat2, gI_int, gA_ref, gA_null, gV_some, gC_some, gL_long, Option.toList, List.cons_append, List.nil_append, List.length_cons, List.length_nil, Nat.reduceEqDiff, Nat.reduceAdd, Nat.reduceSub, Nat.reduceLeDiff, Nat.reduceLT, nb0, nb1, reduceIte, reduceCtorEq, and_false, and_true, false_and, true_and, if_true, if_false, Bool.false_eq_true, eq_self, not_true_eq_false, not_false_eq_true, e]

def placesLeftS (F : Nat → Int32) (c : Int32) (g : Int32) : Nat → Int32 := fun i => bI ((F (58 + 10 * i + 4) = c ∧ F (58 + 10 * i + 5) = g) ∨ (F (58 + 10 * i + 7) = c ∧ F (58 + 10 * i + 8) = g))
theorem l_placesLeft (h : isS z S) (hc : cnt (M S) nc nh np) {c : Int32} {g : Int32} : ∀ (k i : Nat), i + k = np → ∀ (acc : Int32) (rest : List (Nat × Value)), X (d + 1) 57 5 ((0, .ref S) :: (1, .int c) :: (2, .int g) :: (3, .int acc) :: (4, .int (nI i)) :: rest) [] (wld z M p) = some (some (.int (acc - sumR (placesLeftS (M S) c g) i k)), wld z M p) := by
  intro k
  have hle := hc.2.2.2.2.2
  induction k with
  | zero =>
    intro i hi acc rest
    have g := nI_stop (n := np) (i := i) (by omega) (by omega)
    rw [e57_5]
    simp only [e57_0, e57_1, e57_2, e57_3, e57_7, e57_8, e57_11, e57_14, e57_15, e57_18, e57_20, e57_21, e57_22, e57_23, e57_26, e57_29, e57_30, e57_33, e57_35, e57_36, e57_37, e57_38, e57_41, e57_44, e57_47, e57_50, e57_53, e57_54, lk, lset, ldel, lset2, ldel2, cat2, gI_int, gA_ref, gA_null, gV_some, gC_some, gL_long, Option.toList, List.cons_append, List.nil_append, List.length_cons, List.length_nil, Nat.reduceEqDiff, Nat.reduceAdd, Nat.reduceSub, Nat.reduceLeDiff, Nat.reduceLT, nb0, nb1, reduceIte, reduceCtorEq, and_false, and_true, false_and, true_and, if_true, if_false, Bool.false_eq_true, eq_self, not_true_eq_false, not_false_eq_true, g_stk h, Nat.le_refl, hc.2.2.2.2.1, g]
    simp only [sumR, Int32.add_zero, Int32.sub_zero]
  | succ k ih =>
    intro i hi acc rest
    have ih' := fun acc rest => ih (i + 1) (by omega) acc rest
    have g := nI_goon (i := i) (n := np) (by omega) (by omega)
    have hi2 : i < 24 := by omega
    rw [e57_5]
    simp only [e57_0, e57_1, e57_2, e57_3, e57_7, e57_8, e57_11, e57_14, e57_15, e57_18, e57_20, e57_21, e57_22, e57_23, e57_26, e57_29, e57_30, e57_33, e57_35, e57_36, e57_37, e57_38, e57_41, e57_44, e57_47, e57_50, e57_53, e57_54, lk, lset, ldel, lset2, ldel2, cat2, gI_int, gA_ref, gA_null, gV_some, gC_some, gL_long, Option.toList, List.cons_append, List.nil_append, List.length_cons, List.length_nil, Nat.reduceEqDiff, Nat.reduceAdd, Nat.reduceSub, Nat.reduceLeDiff, Nat.reduceLT, nb0, nb1, reduceIte, reduceCtorEq, and_false, and_true, false_and, true_and, if_true, if_false, Bool.false_eq_true, eq_self, not_true_eq_false, not_false_eq_true, g_stk h, g_st0 h, g_st1 h, g_st2 h, Nat.le_refl, hc.2.2.2.2.1, g, nI_1, ih', g_ph h hi2, a_ph h hi2, k_ph h hi2, m_isOn h hi2, m_isKeptOn h hi2, bI_0]
    simp only [sumR, placesLeftS]
    grind [bI]
theorem m_placesLeft (h : isS z S) (hc : cnt (M S) nc nh np) {c : Int32} {g : Int32} : run (d + 2) 57 [.ref S, .int c, .int g] (wld z M p) = some (some (.int (3 - sumR (placesLeftS (M S) c g) 0 np)), wld z M p) := by
  have e := fun acc rest => l_placesLeft (d := d) (p := p) h hc (c := c) (g := g) np 0 (by omega) acc rest
  rw [show nI 0 = 0 from nI_0] at e
  rw [r57]
  simp only [e57_0, e57_1, e57_2, e57_3, e57_7, e57_8, e57_11, e57_14, e57_15, e57_18, e57_20, e57_21, e57_22, e57_23, e57_26, e57_29, e57_30, e57_33, e57_35, e57_36, e57_37, e57_38, e57_41, e57_44, e57_47, e57_50, e57_53, e57_54, lk, lset, ldel, lset2, ldel2, cat2, gI_int, gA_ref, gA_null, gV_some, gC_some, gL_long, Option.toList, List.cons_append, List.nil_append, List.length_cons, List.length_nil, Nat.reduceEqDiff, Nat.reduceAdd, Nat.reduceSub, Nat.reduceLeDiff, Nat.reduceLT, nb0, nb1, reduceIte, reduceCtorEq, and_false, and_true, false_and, true_and, if_true, if_false, Bool.false_eq_true, eq_self, not_true_eq_false, not_false_eq_true, e]

end CT
