/-! the model: chapters bought back, copies, the history -/
section MB
variable {z : Zt} {d : Nat} {M : Nat → Nat → Int32} {p : Nat → Nat} {nc nh np : Nat}
def mlvF (F : Nat → Int32) (i : Nat) (c : Int32) : Nat → Int32 :=
  if F (58 + 10 * i + 4) = c ∧ 0 ≤ F (58 + 10 * i + 6) then mhomeF F i else if F (58 + 10 * i + 4) = c then freeF F i else if F (58 + 10 * i + 7) = c then loseF F i else F
theorem mlvF_low {F : Nat → Int32} {i j : Nat} {c : Int32} (hj : j < 58) : mlvF F i c j = F j := by
  unfold mlvF
  split
  · exact mhomeF_low hj
  · split
    · exact freeF_low hj
    · split
      · exact loseF_low hj
      · rfl
theorem mlvF_cnt {F : Nat → Int32} {i : Nat} {c : Int32} (hc : cnt F nc nh np) : cnt (mlvF F i c) nc nh np := by
  unfold cnt
  rw [mlvF_low (by omega), mlvF_low (by omega), mlvF_low (by omega)]
  exact hc
def mlvR (F : Nat → Int32) (c : Int32) : Nat → Nat → Nat → Int32
  | _, 0 => F
  | i, k + 1 => mlvR (mlvF F i c) c (i + 1) k
theorem mlvR_low {c : Int32} {j : Nat} (hj : j < 58) : ∀ {k i : Nat} {F : Nat → Int32}, mlvR F c i k j = F j := by
  intro k
  induction k with
  | zero => intro i F; rfl
  | succ k ih => intro i F; rw [mlvR, ih, mlvF_low hj]
theorem l_leaves (hz : zok z) {c : Int32} : ∀ (k i : Nat) (F : Nat → Int32), cnt F nc nh np → i + k = np → ∀ (rest : List (Nat × Value)), X (d + 3) 139 2 ((0, .ref (z.1 + 309)) :: (1, .int c) :: (2, .int (nI i)) :: rest) [] (wld z (mput M (z.1 + 310) F) p) = some (none, wld z (mput M (z.1 + 310) (mlvR F c i k)) p) := by
  intro k
  induction k with
  | zero =>
    intro i F hc hi rest
    have hle := hc.2.2.2.2.2
    have g := nI_stop (n := np) (i := i) (by omega) (by omega)
    rw [e139_2]
    simp only [e139_0, e139_1, e139_3, e139_4, e139_7, e139_8, e139_9, e139_12, e139_13, e139_14, e139_15, e139_18, e139_19, e139_22, e139_23, e139_24, e139_27, e139_30, e139_31, e139_32, e139_35, e139_38, e139_39, e139_40, e139_41, e139_44, e139_45, e139_48, e139_49, e139_50, e139_53, e139_56, e139_57, e139_58, e139_60, e139_63, e139_64, e139_67, e139_68, e139_69, e139_71, e139_72, e139_75, e139_76, e139_77, e139_79, e139_80, e139_83, e139_86, e139_89, lk, lset, ldel, lset2, ldel2, cat2, gI_int, gA_ref, gA_null, gV_some, gC_some, gL_long, Option.toList, List.cons_append, List.nil_append, List.length_cons, List.length_nil, Nat.reduceEqDiff, Nat.reduceAdd, Nat.reduceSub, Nat.reduceLeDiff, Nat.reduceLT, nb0, nb1, reduceIte, reduceCtorEq, and_false, and_true, false_and, true_and, if_true, if_false, Bool.false_eq_true, eq_self, not_true_eq_false, not_false_eq_true, mput_same, mput_mput, fset_same, a310_0 hz, a310_1 hz, a310_2 hz, a310_3 hz, a310_4 hz, a310_5 hz, a310_6 hz, a310_7 hz, k309 hz, g309_0 hz, hc.2.2.2.2.1, g, mlvR]
  | succ k ih =>
    intro i F hc hi rest
    have hle := hc.2.2.2.2.2
    have ih1 := fun rest => ih (i + 1) (mlvF F i c) (mlvF_cnt hc) (by omega) rest
    have g := nI_goon (i := i) (n := np) (by omega) (by omega)
    have hi2 : i < 24 := by omega
    rw [e139_2]
    simp only [mlvR]
    unfold mlvF at ih1 ⊢
    by_cases h1 : F (58 + 10 * i + 4) = c
    · by_cases h2 : 0 ≤ F (58 + 10 * i + 6)
      · simp only [h1, h2, and_self, if_true] at ih1 ⊢
        simp only [e139_0, e139_1, e139_3, e139_4, e139_7, e139_8, e139_9, e139_12, e139_13, e139_14, e139_15, e139_18, e139_19, e139_22, e139_23, e139_24, e139_27, e139_30, e139_31, e139_32, e139_35, e139_38, e139_39, e139_40, e139_41, e139_44, e139_45, e139_48, e139_49, e139_50, e139_53, e139_56, e139_57, e139_58, e139_60, e139_63, e139_64, e139_67, e139_68, e139_69, e139_71, e139_72, e139_75, e139_76, e139_77, e139_79, e139_80, e139_83, e139_86, e139_89, lk, lset, ldel, lset2, ldel2, cat2, gI_int, gA_ref, gA_null, gV_some, gC_some, gL_long, Option.toList, List.cons_append, List.nil_append, List.length_cons, List.length_nil, Nat.reduceEqDiff, Nat.reduceAdd, Nat.reduceSub, Nat.reduceLeDiff, Nat.reduceLT, nb0, nb1, reduceIte, reduceCtorEq, and_false, and_true, false_and, true_and, if_true, if_false, Bool.false_eq_true, eq_self, not_true_eq_false, not_false_eq_true, mput_same, mput_mput, fset_same, a310_0 hz, a310_1 hz, a310_2 hz, a310_3 hz, a310_4 hz, a310_5 hz, a310_6 hz, a310_7 hz, k309 hz, g309_0 hz, ite_not, Classical.not_not, true_or, false_or, or_true, or_false, or_self, and_self, not_or, mput_self, bI_0, hc.2.2.2.2.1, g, nI_1, ih1, m_of4 hz hi2, m_mIsLent hz hi2, m_goesHome hz hi2, h1, h2]
      · simp only [h1, h2, and_false, if_true, if_false] at ih1 ⊢
        simp only [e139_0, e139_1, e139_3, e139_4, e139_7, e139_8, e139_9, e139_12, e139_13, e139_14, e139_15, e139_18, e139_19, e139_22, e139_23, e139_24, e139_27, e139_30, e139_31, e139_32, e139_35, e139_38, e139_39, e139_40, e139_41, e139_44, e139_45, e139_48, e139_49, e139_50, e139_53, e139_56, e139_57, e139_58, e139_60, e139_63, e139_64, e139_67, e139_68, e139_69, e139_71, e139_72, e139_75, e139_76, e139_77, e139_79, e139_80, e139_83, e139_86, e139_89, lk, lset, ldel, lset2, ldel2, cat2, gI_int, gA_ref, gA_null, gV_some, gC_some, gL_long, Option.toList, List.cons_append, List.nil_append, List.length_cons, List.length_nil, Nat.reduceEqDiff, Nat.reduceAdd, Nat.reduceSub, Nat.reduceLeDiff, Nat.reduceLT, nb0, nb1, reduceIte, reduceCtorEq, and_false, and_true, false_and, true_and, if_true, if_false, Bool.false_eq_true, eq_self, not_true_eq_false, not_false_eq_true, mput_same, mput_mput, fset_same, a310_0 hz, a310_1 hz, a310_2 hz, a310_3 hz, a310_4 hz, a310_5 hz, a310_6 hz, a310_7 hz, k309 hz, g309_0 hz, ite_not, Classical.not_not, true_or, false_or, or_true, or_false, or_self, and_self, not_or, mput_self, bI_0, hc.2.2.2.2.1, g, nI_1, ih1, m_of4 hz hi2, m_mIsLent hz hi2, m_goesFree hz hi2, h1, h2]
    · by_cases h3 : F (58 + 10 * i + 7) = c
      · simp only [h1, h3, false_and, if_true, if_false] at ih1 ⊢
        unfold loseF at ih1 ⊢
        simp only [e139_0, e139_1, e139_3, e139_4, e139_7, e139_8, e139_9, e139_12, e139_13, e139_14, e139_15, e139_18, e139_19, e139_22, e139_23, e139_24, e139_27, e139_30, e139_31, e139_32, e139_35, e139_38, e139_39, e139_40, e139_41, e139_44, e139_45, e139_48, e139_49, e139_50, e139_53, e139_56, e139_57, e139_58, e139_60, e139_63, e139_64, e139_67, e139_68, e139_69, e139_71, e139_72, e139_75, e139_76, e139_77, e139_79, e139_80, e139_83, e139_86, e139_89, lk, lset, ldel, lset2, ldel2, cat2, gI_int, gA_ref, gA_null, gV_some, gC_some, gL_long, Option.toList, List.cons_append, List.nil_append, List.length_cons, List.length_nil, Nat.reduceEqDiff, Nat.reduceAdd, Nat.reduceSub, Nat.reduceLeDiff, Nat.reduceLT, nb0, nb1, reduceIte, reduceCtorEq, and_false, and_true, false_and, true_and, if_true, if_false, Bool.false_eq_true, eq_self, not_true_eq_false, not_false_eq_true, mput_same, mput_mput, fset_same, a310_0 hz, a310_1 hz, a310_2 hz, a310_3 hz, a310_4 hz, a310_5 hz, a310_6 hz, a310_7 hz, k309 hz, g309_0 hz, ite_not, Classical.not_not, true_or, false_or, or_true, or_false, or_self, and_self, not_or, mput_self, bI_0, hc.2.2.2.2.1, g, nI_1, ih1, m_of4 hz hi2, m_of7 hz hi2, m_sets7 hz hi2, m_sets8 hz hi2, h1, h3]
      · simp only [h1, h3, false_and, if_false] at ih1 ⊢
        simp only [e139_0, e139_1, e139_3, e139_4, e139_7, e139_8, e139_9, e139_12, e139_13, e139_14, e139_15, e139_18, e139_19, e139_22, e139_23, e139_24, e139_27, e139_30, e139_31, e139_32, e139_35, e139_38, e139_39, e139_40, e139_41, e139_44, e139_45, e139_48, e139_49, e139_50, e139_53, e139_56, e139_57, e139_58, e139_60, e139_63, e139_64, e139_67, e139_68, e139_69, e139_71, e139_72, e139_75, e139_76, e139_77, e139_79, e139_80, e139_83, e139_86, e139_89, lk, lset, ldel, lset2, ldel2, cat2, gI_int, gA_ref, gA_null, gV_some, gC_some, gL_long, Option.toList, List.cons_append, List.nil_append, List.length_cons, List.length_nil, Nat.reduceEqDiff, Nat.reduceAdd, Nat.reduceSub, Nat.reduceLeDiff, Nat.reduceLT, nb0, nb1, reduceIte, reduceCtorEq, and_false, and_true, false_and, true_and, if_true, if_false, Bool.false_eq_true, eq_self, not_true_eq_false, not_false_eq_true, mput_same, mput_mput, fset_same, a310_0 hz, a310_1 hz, a310_2 hz, a310_3 hz, a310_4 hz, a310_5 hz, a310_6 hz, a310_7 hz, k309 hz, g309_0 hz, ite_not, Classical.not_not, true_or, false_or, or_true, or_false, or_self, and_self, not_or, mput_self, bI_0, hc.2.2.2.2.1, g, nI_1, ih1, m_of4 hz hi2, m_of7 hz hi2, h1, h3]
theorem m_leaves (hz : zok z) (hc : cnt (M (z.1 + 310)) nc nh np) {c : Int32} : run (d + 4) 139 [.ref (z.1 + 309), .int c] (wld z M p) = some (none, wld z (mput M (z.1 + 310) (mlvR (M (z.1 + 310)) c 0 np)) p) := by
  have e := fun rest => l_leaves (d := d) (M := M) (p := p) hz (c := c) np 0 (M (z.1 + 310)) hc (by omega) rest
  rw [show nI 0 = 0 from nI_0, mput_self] at e
  rw [r139]
  simp only [e139_0, e139_1, e139_3, e139_4, e139_7, e139_8, e139_9, e139_12, e139_13, e139_14, e139_15, e139_18, e139_19, e139_22, e139_23, e139_24, e139_27, e139_30, e139_31, e139_32, e139_35, e139_38, e139_39, e139_40, e139_41, e139_44, e139_45, e139_48, e139_49, e139_50, e139_53, e139_56, e139_57, e139_58, e139_60, e139_63, e139_64, e139_67, e139_68, e139_69, e139_71, e139_72, e139_75, e139_76, e139_77, e139_79, e139_80, e139_83, e139_86, e139_89, lk, lset, ldel, lset2, ldel2, cat2, gI_int, gA_ref, gA_null, gV_some, gC_some, gL_long, Option.toList, List.cons_append, List.nil_append, List.length_cons, List.length_nil, Nat.reduceEqDiff, Nat.reduceAdd, Nat.reduceSub, Nat.reduceLeDiff, Nat.reduceLT, nb0, nb1, reduceIte, reduceCtorEq, and_false, and_true, false_and, true_and, if_true, if_false, Bool.false_eq_true, eq_self, not_true_eq_false, not_false_eq_true, e]
/-- places from j on, k of them, take what stands four behind -/
def dnF (F : Nat → Int32) (j k : Nat) : Nat → Int32 := fun y => if j ≤ y ∧ y < j + k then F (y + 4) else F y
theorem dnF_0 {F : Nat → Int32} {j : Nat} : dnF F j 0 = F := by
  funext y
  unfold dnF
  rw [if_neg (by omega)]
theorem dnF_step {F : Nat → Int32} {j k : Nat} : dnF (fset F j (F (j + 4))) (j + 1) k = dnF F j (k + 1) := by
  funext y
  unfold dnF
  by_cases h1 : j + 1 ≤ y ∧ y < j + 1 + k
  · rw [if_pos h1, fset_ne (by omega), if_pos (by omega)]
  · rw [if_neg h1]
    by_cases h2 : y = j
    · subst h2; rw [fset_same, if_pos (by omega)]
    · rw [fset_ne h2, if_neg (by omega)]
theorem l_down (hz : zok z) {c x : Int32} {n : Nat} (hn : n ≤ 10) {Y : Option xR} : ∀ (k j : Nat) (F : Nat → Int32), F 1 = nI n → j + k = 18 + 4 * n → 18 ≤ j → ∀ (rest : List (Nat × Value)), (∀ (y : Int32) (rest : List (Nat × Value)), X (d + 3) 140 95 ((0, .ref (z.1 + 309)) :: (1, .int c) :: (2, .int x) :: (3, .int y) :: rest) [] (wld z (mput M (z.1 + 310) (dnF F j k)) p) = Y) → X (d + 3) 140 60 ((0, .ref (z.1 + 309)) :: (1, .int c) :: (2, .int x) :: (3, .int (nI j)) :: rest) [] (wld z (mput M (z.1 + 310) F) p) = Y := by
  intro k
  have e18 : (18 : Int32) + 4 * nI n = nI (18 + 4 * n) := by
    rw [show (18 : Int32) = nI 18 from by decide +kernel, show (4 : Int32) = nI 4 from by decide +kernel, pk_mul, nI_add]
  induction k with
  | zero =>
    intro j F hF hi hj rest hY
    have g := nI_stop (n := 18 + 4 * n) (i := j) (by omega) (by omega)
    rw [dnF_0] at hY
    rw [e140_60]
    simp only [e140_61, e140_63, e140_64, e140_65, e140_68, e140_69, e140_70, e140_71, e140_72, e140_75, e140_76, e140_79, e140_80, e140_81, e140_84, e140_85, e140_86, e140_87, e140_88, e140_89, e140_92, lk, lset, ldel, lset2, ldel2, cat2, gI_int, gA_ref, gA_null, gV_some, gC_some, gL_long, Option.toList, List.cons_append, List.nil_append, List.length_cons, List.length_nil, Nat.reduceEqDiff, Nat.reduceAdd, Nat.reduceSub, Nat.reduceLeDiff, Nat.reduceLT, nb0, nb1, reduceIte, reduceCtorEq, and_false, and_true, false_and, true_and, if_true, if_false, Bool.false_eq_true, eq_self, not_true_eq_false, not_false_eq_true, mput_same, mput_mput, fset_same, a310_0 hz, a310_1 hz, a310_2 hz, a310_3 hz, a310_4 hz, a310_5 hz, a310_6 hz, a310_7 hz, k309 hz, g309_0 hz, hF, e18, g, hY]
  | succ k ih =>
    intro j F hF hi hj rest hY
    have g := nI_goon (i := j) (n := 18 + 4 * n) (by omega) (by omega)
    have e4 : nI j + 4 = nI (j + 4) := by rw [show (4 : Int32) = nI 4 from by decide +kernel, nI_add]
    have ih1 := fun rest => ih (j + 1) (fset F j (F (j + 4))) (by rw [fset_ne (by omega)]; exact hF) (by omega) (by omega) rest (by rw [dnF_step]; exact hY)
    rw [e140_60]
    simp only [e140_61, e140_63, e140_64, e140_65, e140_68, e140_69, e140_70, e140_71, e140_72, e140_75, e140_76, e140_79, e140_80, e140_81, e140_84, e140_85, e140_86, e140_87, e140_88, e140_89, e140_92, lk, lset, ldel, lset2, ldel2, cat2, gI_int, gA_ref, gA_null, gV_some, gC_some, gL_long, Option.toList, List.cons_append, List.nil_append, List.length_cons, List.length_nil, Nat.reduceEqDiff, Nat.reduceAdd, Nat.reduceSub, Nat.reduceLeDiff, Nat.reduceLT, nb0, nb1, reduceIte, reduceCtorEq, and_false, and_true, false_and, true_and, if_true, if_false, Bool.false_eq_true, eq_self, not_true_eq_false, not_false_eq_true, mput_same, mput_mput, fset_same, a310_0 hz, a310_1 hz, a310_2 hz, a310_3 hz, a310_4 hz, a310_5 hz, a310_6 hz, a310_7 hz, k309 hz, g309_0 hz, hF, e18, g, nI_1, e4, a310 hz (show j + 4 < 298 by omega), s310 hz (show j < 298 by omega), ih1]
def mgpF (F : Nat → Int32) (i : Nat) (c : Int32) : Nat → Int32 :=
  fset (fset F (58 + 10 * i + 4) (if F (58 + 10 * i + 4) ≤ c then F (58 + 10 * i + 4) else F (58 + 10 * i + 4) - 1)) (58 + 10 * i + 7) (if F (58 + 10 * i + 7) ≤ c then F (58 + 10 * i + 7) else F (58 + 10 * i + 7) - 1)
theorem mgpF_low {F : Nat → Int32} {i j : Nat} {c : Int32} (hj : j < 58) : mgpF F i c j = F j := by
  unfold mgpF
  rw [fset_ne (by omega), fset_ne (by omega)]
def mgpR (F : Nat → Int32) (c : Int32) : Nat → Nat → Nat → Int32
  | _, 0 => F
  | i, k + 1 => mgpR (mgpF F i c) c (i + 1) k
theorem l_gaps (hz : zok z) {c x : Int32} {n : Nat} (hn : n ≤ 24) : ∀ (k i : Nat) (F : Nat → Int32), F 2 = nI n → i + k = n → ∀ (rest : List (Nat × Value)), X (d + 3) 140 97 ((0, .ref (z.1 + 309)) :: (1, .int c) :: (2, .int x) :: (3, .int (nI i)) :: rest) [] (wld z (mput M (z.1 + 310) F) p) = some (some (.int x), wld z (mput M (z.1 + 310) (mgpR F c i k)) p) := by
  intro k
  induction k with
  | zero =>
    intro i F hF hi rest
    have g := nI_stop (n := n) (i := i) (by omega) (by omega)
    rw [e140_97]
    simp only [e140_98, e140_99, e140_102, e140_103, e140_104, e140_107, e140_108, e140_109, e140_110, e140_111, e140_112, e140_113, e140_116, e140_117, e140_120, e140_121, e140_122, e140_123, e140_126, e140_127, e140_128, e140_131, e140_132, e140_133, e140_134, e140_137, e140_140, e140_141, e140_142, e140_144, e140_145, e140_146, e140_148, e140_151, e140_152, e140_155, e140_156, e140_157, e140_159, e140_162, e140_163, e140_164, e140_167, e140_168, e140_169, e140_171, e140_174, e140_177, e140_180, e140_183, e140_184, lk, lset, ldel, lset2, ldel2, cat2, gI_int, gA_ref, gA_null, gV_some, gC_some, gL_long, Option.toList, List.cons_append, List.nil_append, List.length_cons, List.length_nil, Nat.reduceEqDiff, Nat.reduceAdd, Nat.reduceSub, Nat.reduceLeDiff, Nat.reduceLT, nb0, nb1, reduceIte, reduceCtorEq, and_false, and_true, false_and, true_and, if_true, if_false, Bool.false_eq_true, eq_self, not_true_eq_false, not_false_eq_true, mput_same, mput_mput, fset_same, a310_0 hz, a310_1 hz, a310_2 hz, a310_3 hz, a310_4 hz, a310_5 hz, a310_6 hz, a310_7 hz, k309 hz, g309_0 hz, hF, g, mgpR]
  | succ k ih =>
    intro i F hF hi rest
    have g := nI_goon (i := i) (n := n) (by omega) (by omega)
    have hi2 : i < 24 := by omega
    have ih1 := fun rest => ih (i + 1) (mgpF F i c) (by rw [mgpF_low (by omega)]; exact hF) (by omega) rest
    have n74 : 58 + 10 * i + 7 ≠ 58 + 10 * i + 4 := by omega
    rw [e140_97]
    simp only [mgpR]
    unfold mgpF at ih1 ⊢
    by_cases h1 : F (58 + 10 * i + 4) ≤ c <;> by_cases h2 : F (58 + 10 * i + 7) ≤ c <;>
      (simp only [h1, h2, if_true, if_false] at ih1 ⊢
       simp only [e140_98, e140_99, e140_102, e140_103, e140_104, e140_107, e140_108, e140_109, e140_110, e140_111, e140_112, e140_113, e140_116, e140_117, e140_120, e140_121, e140_122, e140_123, e140_126, e140_127, e140_128, e140_131, e140_132, e140_133, e140_134, e140_137, e140_140, e140_141, e140_142, e140_144, e140_145, e140_146, e140_148, e140_151, e140_152, e140_155, e140_156, e140_157, e140_159, e140_162, e140_163, e140_164, e140_167, e140_168, e140_169, e140_171, e140_174, e140_177, e140_180, e140_183, e140_184, lk, lset, ldel, lset2, ldel2, cat2, gI_int, gA_ref, gA_null, gV_some, gC_some, gL_long, Option.toList, List.cons_append, List.nil_append, List.length_cons, List.length_nil, Nat.reduceEqDiff, Nat.reduceAdd, Nat.reduceSub, Nat.reduceLeDiff, Nat.reduceLT, nb0, nb1, reduceIte, reduceCtorEq, and_false, and_true, false_and, true_and, if_true, if_false, Bool.false_eq_true, eq_self, not_true_eq_false, not_false_eq_true, mput_same, mput_mput, fset_same, a310_0 hz, a310_1 hz, a310_2 hz, a310_3 hz, a310_4 hz, a310_5 hz, a310_6 hz, a310_7 hz, k309 hz, g309_0 hz, hF, g, nI_1, m_of4 hz hi2, m_of7 hz hi2, m_sets4 hz hi2, m_sets7 hz hi2, h1, h2, fset_ne n74, ih1])
def mworF (F : Nat → Int32) (i : Nat) : Int32 := F (18 + 4 * i + 2) * (if 0 ≤ lossF F i then lossF F i else 0) / 100
def mbbF (F : Nat → Int32) (nc nh np i : Nat) (o : Nat) : Nat → Int32 :=
  let G := fset (fset F 4 (F 4 - mworF F i)) (8 + 2 * o + 1) (fset F 4 (F 4 - mworF F i) (8 + 2 * o + 1) + mworF F i)
  let G2 := mlvR G (nI i) 0 np
  mgpR (dnF (fset G2 1 (G2 1 - 1)) (18 + 4 * i) (4 * (nh - 1 - i))) (nI i) 0 np
theorem m_buysBack (hz : zok z) (hc : cnt (M (z.1 + 310)) nc nh np) {i o : Nat} (hi : i < nh) (ho : o < nc) (hown : M (z.1 + 310) (18 + 4 * i + 0) = nI o) : run (d + 5) 140 [.ref (z.1 + 309), .int (nI i)] (wld z M p) = some (some (.int (mworF (M (z.1 + 310)) i)), wld z (mput M (z.1 + 310) (mbbF (M (z.1 + 310)) nc nh np i o)) p) := by
  have hh := hc.2.2.2.1
  have hn5 := hc.2.1
  have hp24 := hc.2.2.2.2.2
  have hi10 : i < 10 := by omega
  have ho5 : o < 5 := by omega
  generalize hF : M (z.1 + 310) = F at hc hown ⊢
  have hw : run (d + 4) 138 [.ref (z.1 + 309), .int (nI i)] (wld z M p) = some (some (.int (mworF F i)), wld z M p) := by
    rw [← hF]; exact m_mWorth (d := d + 2) hz hi10
  have ix81 : (8 : Int32) + 2 * nI o + 1 = nI (8 + 2 * o + 1) := by
    have := ix8 (i := o) (k := 1); rwa [l1] at this
  have ix184 : (18 : Int32) + 4 * nI i = nI (18 + 4 * i) := by
    rw [show (18 : Int32) = nI 18 from by decide +kernel, show (4 : Int32) = nI 4 from by decide +kernel, pk_mul, nI_add]
  generalize hF2 : fset (fset F 4 (F 4 - mworF F i)) (8 + 2 * o + 1) (fset F 4 (F 4 - mworF F i) (8 + 2 * o + 1) + mworF F i) = F2
  have hc2 : cnt F2 nc nh np := by
    rw [← hF2]; unfold cnt
    rw [fset_ne (by omega), fset_ne (by omega), fset_ne (by omega), fset_ne (by omega), fset_ne (by omega), fset_ne (by omega)]
    exact hc
  have hc2' : cnt (mput M (z.1 + 310) F2 (z.1 + 310)) nc nh np := by rw [mput_same]; exact hc2
  have e8 : 18 + 4 * i + 0 ≠ 4 := by omega
  have g1 : mlvR F2 (nI i) 0 np 1 = nI nh := by rw [mlvR_low (by omega)]; exact hc2.2.2.1
  have g2 : mlvR F2 (nI i) 0 np 2 = nI np := by rw [mlvR_low (by omega)]; exact hc2.2.2.2.2.1
  have g3 : nI nh - 1 = nI (nh - 1) := by rw [show nh = nh - 1 + 1 by omega, nI_pred, Nat.add_sub_cancel]
  have hb : mbbF F nc nh np i o = mgpR (dnF (fset (mlvR F2 (nI i) 0 np) 1 (mlvR F2 (nI i) 0 np 1 - 1)) (18 + 4 * i) (4 * (nh - 1 - i))) (nI i) 0 np := by
    unfold mbbF; rw [hF2]
  have s1 : ∀ (y : Int32) (rest : List (Nat × Value)), X (d + 4) 140 95 ((0, .ref (z.1 + 309)) :: (1, .int (nI i)) :: (2, .int (mworF F i)) :: (3, .int y) :: rest) [] (wld z (mput M (z.1 + 310) (dnF (fset (mlvR F2 (nI i) 0 np) 1 (mlvR F2 (nI i) 0 np 1 - 1)) (18 + 4 * i) (4 * (nh - 1 - i)))) p) = some (some (.int (mworF F i)), wld z (mput M (z.1 + 310) (mbbF F nc nh np i o)) p) := by
    intro y rest
    have := fun rest => l_gaps (d := d + 1) (M := M) (p := p) hz (c := nI i) (x := mworF F i) hp24 np 0 (dnF (fset (mlvR F2 (nI i) 0 np) 1 (mlvR F2 (nI i) 0 np 1 - 1)) (18 + 4 * i) (4 * (nh - 1 - i))) (by unfold dnF; rw [if_neg (by omega), fset_ne (by omega)]; exact g2) (by omega) rest
    rw [show nI 0 = 0 from nI_0] at this
    rw [hb]
    simp only [e140_95, e140_96, lk, lset, ldel, lset2, ldel2, cat2, gI_int, gA_ref, gA_null, gV_some, gC_some, gL_long, Option.toList, List.cons_append, List.nil_append, List.length_cons, List.length_nil, Nat.reduceEqDiff, Nat.reduceAdd, Nat.reduceSub, Nat.reduceLeDiff, Nat.reduceLT, nb0, nb1, reduceIte, reduceCtorEq, and_false, and_true, false_and, true_and, if_true, if_false, Bool.false_eq_true, eq_self, not_true_eq_false, not_false_eq_true, this]
  have s2 := l_down (d := d + 1) (M := M) (p := p) hz (c := nI i) (x := mworF F i) (n := nh - 1) (by omega) (Y := some (some (.int (mworF F i)), wld z (mput M (z.1 + 310) (mbbF F nc nh np i o)) p)) (4 * (nh - 1 - i)) (18 + 4 * i) (fset (mlvR F2 (nI i) 0 np) 1 (mlvR F2 (nI i) 0 np 1 - 1)) (by rw [fset_same, g1, g3]) (by omega) (by omega) [] s1
  rw [r140]
  simp only [e140_0, e140_1, e140_2, e140_5, e140_6, e140_7, e140_10, e140_11, e140_12, e140_13, e140_14, e140_15, e140_16, e140_17, e140_20, e140_22, e140_23, e140_24, e140_25, e140_26, e140_29, e140_30, e140_31, e140_32, e140_33, e140_34, e140_35, e140_36, e140_37, lk, lset, ldel, lset2, ldel2, cat2, gI_int, gA_ref, gA_null, gV_some, gC_some, gL_long, Option.toList, List.cons_append, List.nil_append, List.length_cons, List.length_nil, Nat.reduceEqDiff, Nat.reduceAdd, Nat.reduceSub, Nat.reduceLeDiff, Nat.reduceLT, nb0, nb1, reduceIte, reduceCtorEq, and_false, and_true, false_and, true_and, if_true, if_false, Bool.false_eq_true, eq_self, not_true_eq_false, not_false_eq_true, mput_same, mput_mput, fset_same, lk_same, lk_same2, lk_k1, lk_k1r, lk_ldN, ne_eq, a310_0 hz, a310_1 hz, a310_2 hz, a310_3 hz, a310_4 hz, a310_5 hz, a310_6 hz, a310_7 hz, k309 hz, g309_0 hz, s310_0 hz, s310_1 hz, s310_2 hz, s310_3 hz, s310_4 hz, s310_5 hz, s310_6 hz, s310_7 hz, hw, hF, m_ofChapter0 hz hi10, fset_ne e8, hown, ix81, a310 hz (show 8 + 2 * o + 1 < 298 by omega), s310 hz (show 8 + 2 * o + 1 < 298 by omega), hF2]
  simp only [e140_38, e140_39, e140_40, e140_43, e140_44, e140_47, e140_48, e140_49, e140_50, e140_51, e140_52, e140_53, e140_55, e140_56, e140_57, e140_58, e140_59, lk, lset, ldel, lset2, ldel2, cat2, gI_int, gA_ref, gA_null, gV_some, gC_some, gL_long, Option.toList, List.cons_append, List.nil_append, List.length_cons, List.length_nil, Nat.reduceEqDiff, Nat.reduceAdd, Nat.reduceSub, Nat.reduceLeDiff, Nat.reduceLT, nb0, nb1, reduceIte, reduceCtorEq, and_false, and_true, false_and, true_and, if_true, if_false, Bool.false_eq_true, eq_self, not_true_eq_false, not_false_eq_true, mput_same, mput_mput, fset_same, lk_same, lk_same2, lk_k1, lk_k1r, lk_ldN, ne_eq, a310_0 hz, a310_1 hz, a310_2 hz, a310_3 hz, a310_4 hz, a310_5 hz, a310_6 hz, a310_7 hz, k309 hz, g309_0 hz, s310_0 hz, s310_1 hz, s310_2 hz, s310_3 hz, s310_4 hz, s310_5 hz, s310_6 hz, s310_7 hz, m_leaves hz hc2', ix184]
  exact s2
-- copies
def firstN (n : Nat) (F G : Nat → Int32) : Nat → Int32 := fun j => if j < n then G j else F j
theorem firstN_step {n : Nat} {F G : Nat → Int32} : fset (firstN n F G) n (G n) = firstN (n + 1) F G := by
  funext j
  unfold fset firstN
  by_cases h : j = n
  · subst h; rw [if_pos rfl, if_pos (by omega)]
  · rw [if_neg h]
    by_cases h2 : j < n
    · rw [if_pos h2, if_pos (by omega)]
    · rw [if_neg h2, if_neg (by omega)]
theorem firstN_0 {F G : Nat → Int32} : firstN 0 F G = F := by
  funext j
  unfold firstN
  exact if_neg (by omega)
theorem l_copies {A B : Nat} (hAB : A ≠ B) (ha : ∀ (M : Nat → Nat → Int32) (j : Nat), j < 298 → ai (wld z M p) A (nI j) = some (.int (M A j))) (hs : ∀ (M : Nat → Nat → Int32) (j : Nat) (v : Int32), j < 298 → ap (wld z M p) B 10 10 (nI j) (.int v) = some (wld z (mput M B (fset (M B) j v)) p)) : ∀ (k i : Nat), i + k = 298 → ∀ (rest : List (Nat × Value)), X d 113 2 ((0, .ref A) :: (1, .ref B) :: (2, .int (nI i)) :: rest) [] (wld z (mput M B (firstN i (M B) (M A))) p) = some (none, wld z (mput M B (firstN 298 (M B) (M A))) p) := by
  intro k
  have e298 : (298 : Int32) = nI 298 := by decide +kernel
  induction k with
  | zero =>
    intro i hi rest
    obtain rfl : i = 298 := by omega
    have g := nI_stop (n := 298) (i := 298) (by omega) (by omega)
    rw [← e298] at g
    rw [e113_2]
    simp only [e113_0, e113_1, e113_3, e113_6, e113_9, e113_10, e113_11, e113_12, e113_13, e113_14, e113_15, e113_18, e113_21, lk, lset, ldel, lset2, ldel2, cat2, gI_int, gA_ref, gA_null, gV_some, gC_some, gL_long, Option.toList, List.cons_append, List.nil_append, List.length_cons, List.length_nil, Nat.reduceEqDiff, Nat.reduceAdd, Nat.reduceSub, Nat.reduceLeDiff, Nat.reduceLT, nb0, nb1, reduceIte, reduceCtorEq, and_false, and_true, false_and, true_and, if_true, if_false, Bool.false_eq_true, eq_self, not_true_eq_false, not_false_eq_true, ← e298, Int32.le_refl]
  | succ k ih =>
    intro i hi rest
    have g := nI_goon (i := i) (n := 298) (by omega) (by omega)
    rw [← e298] at g
    have ih1 := fun rest => ih (i + 1) (by omega) rest
    rw [e113_2]
    simp only [e113_0, e113_1, e113_3, e113_6, e113_9, e113_10, e113_11, e113_12, e113_13, e113_14, e113_15, e113_18, e113_21, lk, lset, ldel, lset2, ldel2, cat2, gI_int, gA_ref, gA_null, gV_some, gC_some, gL_long, Option.toList, List.cons_append, List.nil_append, List.length_cons, List.length_nil, Nat.reduceEqDiff, Nat.reduceAdd, Nat.reduceSub, Nat.reduceLeDiff, Nat.reduceLT, nb0, nb1, reduceIte, reduceCtorEq, and_false, and_true, false_and, true_and, if_true, if_false, Bool.false_eq_true, eq_self, not_true_eq_false, not_false_eq_true, mput_same, mput_mput, fset_same, g, nI_1, ha _ i (by omega), hs _ i _ (by omega), mput_ne hAB, firstN_step, ih1]
theorem m_copies {A B : Nat} (hAB : A ≠ B) (ha : ∀ (M : Nat → Nat → Int32) (j : Nat), j < 298 → ai (wld z M p) A (nI j) = some (.int (M A j))) (hs : ∀ (M : Nat → Nat → Int32) (j : Nat) (v : Int32), j < 298 → ap (wld z M p) B 10 10 (nI j) (.int v) = some (wld z (mput M B (fset (M B) j v)) p)) : run (d + 1) 113 [.ref A, .ref B] (wld z M p) = some (none, wld z (mput M B (firstN 298 (M B) (M A))) p) := by
  have e := fun rest => l_copies (d := d) (M := M) (p := p) hAB ha hs 298 0 (by omega) rest
  rw [show nI 0 = 0 from nI_0, firstN_0, mput_self] at e
  rw [r113]
  simp only [e113_0, e113_1, e113_3, e113_6, e113_9, e113_10, e113_11, e113_12, e113_13, e113_14, e113_15, e113_18, e113_21, lk, lset, ldel, lset2, ldel2, cat2, gI_int, gA_ref, gA_null, gV_some, gC_some, gL_long, Option.toList, List.cons_append, List.nil_append, List.length_cons, List.length_nil, Nat.reduceEqDiff, Nat.reduceAdd, Nat.reduceSub, Nat.reduceLeDiff, Nat.reduceLT, nb0, nb1, reduceIte, reduceCtorEq, and_false, and_true, false_and, true_and, if_true, if_false, Bool.false_eq_true, eq_self, not_true_eq_false, not_false_eq_true, e]
-- the history
theorem l_chShift (hz : zok z) : ∀ (k i : Nat) (F : Nat → Int32), i + k = 894 → ∀ (rest : List (Nat × Value)) (Y : Option xR), (∀ (y : Int32) (rest : List (Nat × Value)), X d 114 47 ((0, .ref (z.1 + 309)) :: (1, .int y) :: rest) [] (wld z (mput M (z.1 + 311) (fun j => if i ≤ j ∧ j < i + k then F (j + 298) else F j)) p) = Y) → X d 114 18 ((0, .ref (z.1 + 309)) :: (1, .int (nI i)) :: rest) [] (wld z (mput M (z.1 + 311) F) p) = Y := by
  intro k
  have e894 : (894 : Int32) = nI 894 := by decide +kernel
  have e298 : (298 : Int32) = nI 298 := by decide +kernel
  induction k with
  | zero =>
    intro i F hi rest Y hY
    obtain rfl : i = 894 := by omega
    have e1 : (fun j => if 894 ≤ j ∧ j < 894 + 0 then F (j + 298) else F j) = F := by funext j; exact if_neg (by omega)
    rw [e1] at hY
    rw [e114_18]
    simp only [e114_19, e114_22, e114_25, e114_26, e114_29, e114_30, e114_31, e114_34, e114_35, e114_38, e114_39, e114_40, e114_41, e114_44, lk, lset, ldel, lset2, ldel2, cat2, gI_int, gA_ref, gA_null, gV_some, gC_some, gL_long, Option.toList, List.cons_append, List.nil_append, List.length_cons, List.length_nil, Nat.reduceEqDiff, Nat.reduceAdd, Nat.reduceSub, Nat.reduceLeDiff, Nat.reduceLT, nb0, nb1, reduceIte, reduceCtorEq, and_false, and_true, false_and, true_and, if_true, if_false, Bool.false_eq_true, eq_self, not_true_eq_false, not_false_eq_true, ← e894, Int32.le_refl, hY]
  | succ k ih =>
    intro i F hi rest Y hY
    have g := nI_goon (i := i) (n := 894) (by omega) (by omega)
    rw [← e894] at g
    have e4 : nI i + 298 = nI (i + 298) := by rw [e298, nI_add]
    have e1 : (fun j => if i + 1 ≤ j ∧ j < i + 1 + k then fset F i (F (i + 298)) (j + 298) else fset F i (F (i + 298)) j) = (fun j => if i ≤ j ∧ j < i + (k + 1) then F (j + 298) else F j) := by
      funext j
      by_cases h1 : i + 1 ≤ j ∧ j < i + 1 + k
      · rw [if_pos h1, if_pos (by omega), fset_ne (by omega)]
      · rw [if_neg h1]
        by_cases h2 : j = i
        · subst h2; rw [fset_same, if_pos (by omega)]
        · rw [fset_ne h2, if_neg (by omega)]
    have ih1 := fun rest => ih (i + 1) (fset F i (F (i + 298))) (by omega) rest Y (by rw [e1]; exact hY)
    rw [e114_18]
    simp only [e114_19, e114_22, e114_25, e114_26, e114_29, e114_30, e114_31, e114_34, e114_35, e114_38, e114_39, e114_40, e114_41, e114_44, lk, lset, ldel, lset2, ldel2, cat2, gI_int, gA_ref, gA_null, gV_some, gC_some, gL_long, Option.toList, List.cons_append, List.nil_append, List.length_cons, List.length_nil, Nat.reduceEqDiff, Nat.reduceAdd, Nat.reduceSub, Nat.reduceLeDiff, Nat.reduceLT, nb0, nb1, reduceIte, reduceCtorEq, and_false, and_true, false_and, true_and, if_true, if_false, Bool.false_eq_true, eq_self, not_true_eq_false, not_false_eq_true, mput_same, mput_mput, fset_same, g309_0 hz, g309_1 hz, g309_2 hz, g309_3 hz, g309_4 hz, g309_5 hz, g309_6 hz, g309_7 hz, g309_8 hz, g309_9 hz, g309_10 hz, g309_11 hz, g309_12 hz, g309_13 hz, g309_14 hz, g309_15 hz, g309_16 hz, g309_17 hz, p309_5 hz, p309_6 hz, p309_7 hz, p309_9 hz, p309_10 hz, p309_11 hz, p309_12 hz, p309_13 hz, p309_14 hz, p309_15 hz, p309_16 hz, k309 hz, g, nI_1, e4, a311 hz (show i + 298 < 1192 by omega), s311 hz (show i < 1192 by omega), ih1]
theorem l_chCopy (hz : zok z) {n : Nat} (hn : n < 4) (hpn : M (z.1 + 309) 7 = nI n) : ∀ (k i : Nat) (F : Nat → Int32), i + k = 298 → ∀ (rest : List (Nat × Value)), X d 114 59 ((0, .ref (z.1 + 309)) :: (1, .int (nI i)) :: rest) [] (wld z (mput M (z.1 + 311) F) p) = some (none, wld z (mput (mput M (z.1 + 311) (fun j => if 298 * n + i ≤ j ∧ j < 298 * n + (i + k) then M (z.1 + 310) (j - 298 * n) else F j)) (z.1 + 309) (fset (M (z.1 + 309)) 7 (nI (n + 1)))) p) := by
  intro k
  have e298 : (298 : Int32) = nI 298 := by decide +kernel
  have q1 : z.1 + 309 ≠ z.1 + 311 := by omega
  have q2 : z.1 + 310 ≠ z.1 + 311 := by omega
  induction k with
  | zero =>
    intro i F hi rest
    obtain rfl : i = 298 := by omega
    have e1 : (fun j => if 298 * n + 298 ≤ j ∧ j < 298 * n + (298 + 0) then M (z.1 + 310) (j - 298 * n) else F j) = F := by funext j; exact if_neg (by omega)
    rw [e1]
    rw [e114_59]
    simp only [e114_60, e114_63, e114_66, e114_67, e114_70, e114_73, e114_74, e114_77, e114_78, e114_79, e114_80, e114_81, e114_84, e114_85, e114_86, e114_87, e114_90, e114_93, e114_94, e114_94a, e114_95, e114_98, e114_99, e114_100, e114_103, lk, lset, ldel, lset2, ldel2, cat2, gI_int, gA_ref, gA_null, gV_some, gC_some, gL_long, Option.toList, List.cons_append, List.nil_append, List.length_cons, List.length_nil, Nat.reduceEqDiff, Nat.reduceAdd, Nat.reduceSub, Nat.reduceLeDiff, Nat.reduceLT, nb0, nb1, reduceIte, reduceCtorEq, and_false, and_true, false_and, true_and, if_true, if_false, Bool.false_eq_true, eq_self, not_true_eq_false, not_false_eq_true, g309_0 hz, g309_1 hz, g309_2 hz, g309_3 hz, g309_4 hz, g309_5 hz, g309_6 hz, g309_7 hz, g309_8 hz, g309_9 hz, g309_10 hz, g309_11 hz, g309_12 hz, g309_13 hz, g309_14 hz, g309_15 hz, g309_16 hz, g309_17 hz, p309_5 hz, p309_6 hz, p309_7 hz, p309_9 hz, p309_10 hz, p309_11 hz, p309_12 hz, p309_13 hz, p309_14 hz, p309_15 hz, p309_16 hz, k309 hz, ← e298, Int32.le_refl, mput_ne q1, hpn, nI_1]
  | succ k ih =>
    intro i F hi rest
    have g := nI_goon (i := i) (n := 298) (by omega) (by omega)
    rw [← e298] at g
    have e4 : 298 * nI n + nI i = nI (298 * n + i) := by rw [e298, pk_mul, nI_add]
    have e1 : (fun j => if 298 * n + (i + 1) ≤ j ∧ j < 298 * n + (i + 1 + k) then M (z.1 + 310) (j - 298 * n) else fset F (298 * n + i) (M (z.1 + 310) i) j) = (fun j => if 298 * n + i ≤ j ∧ j < 298 * n + (i + (k + 1)) then M (z.1 + 310) (j - 298 * n) else F j) := by
      funext j
      by_cases h1 : 298 * n + (i + 1) ≤ j ∧ j < 298 * n + (i + 1 + k)
      · rw [if_pos h1, if_pos (by omega)]
      · rw [if_neg h1]
        by_cases h2 : j = 298 * n + i
        · subst h2; rw [fset_same, if_pos (by omega), Nat.add_sub_cancel_left]
        · rw [fset_ne h2, if_neg (by omega)]
    have ih1 := fun rest => ih (i + 1) (fset F (298 * n + i) (M (z.1 + 310) i)) (by omega) rest
    rw [e1] at ih1
    rw [e114_59]
    simp only [e114_60, e114_63, e114_66, e114_67, e114_70, e114_73, e114_74, e114_77, e114_78, e114_79, e114_80, e114_81, e114_84, e114_85, e114_86, e114_87, e114_90, e114_93, e114_94, e114_94a, e114_95, e114_98, e114_99, e114_100, e114_103, lk, lset, ldel, lset2, ldel2, cat2, gI_int, gA_ref, gA_null, gV_some, gC_some, gL_long, Option.toList, List.cons_append, List.nil_append, List.length_cons, List.length_nil, Nat.reduceEqDiff, Nat.reduceAdd, Nat.reduceSub, Nat.reduceLeDiff, Nat.reduceLT, nb0, nb1, reduceIte, reduceCtorEq, and_false, and_true, false_and, true_and, if_true, if_false, Bool.false_eq_true, eq_self, not_true_eq_false, not_false_eq_true, mput_same, mput_mput, fset_same, g309_0 hz, g309_1 hz, g309_2 hz, g309_3 hz, g309_4 hz, g309_5 hz, g309_6 hz, g309_7 hz, g309_8 hz, g309_9 hz, g309_10 hz, g309_11 hz, g309_12 hz, g309_13 hz, g309_14 hz, g309_15 hz, g309_16 hz, g309_17 hz, p309_5 hz, p309_6 hz, p309_7 hz, p309_9 hz, p309_10 hz, p309_11 hz, p309_12 hz, p309_13 hz, p309_14 hz, p309_15 hz, p309_16 hz, k309 hz, g, nI_1, mput_ne q1, mput_ne q2, hpn, e4, a310 hz (show i < 298 by omega), s311 hz (show 298 * n + i < 1192 by omega), ih1]
end MB
