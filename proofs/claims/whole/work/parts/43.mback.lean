/-! the model: chapters bought back, copies, the history -/
section MB
variable {z : Zt} {d : Nat} {M : Nat → Nat → Int32} {p : Nat → Nat} {nc nh np : Nat}
def mlvF (F : Nat → Int32) (i : Nat) (c : Int32) : Nat → Int32 :=
  if F (58 + 10 * i + 4) = c ∧ 0 ≤ F (58 + 10 * i + 6) then mhomeF F i else if F (58 + 10 * i + 4) = c then freeF F i else if F (58 + 10 * i + 7) = c then loseF F i else F
theorem mlvF_low {F : Nat → Int32} {i j : Nat} {c : Int32} (hj : j < 58) : mlvF F i c j = F j := by
  unfold mlvF
  split
  · exact mhomeF_low hj
  · split
    · exact freeF_low hj
    · split
      · exact loseF_low hj
      · rfl
theorem mlvF_cnt {F : Nat → Int32} {i : Nat} {c : Int32} (hc : cnt F nc nh np) : cnt (mlvF F i c) nc nh np := by
  unfold cnt
  rw [mlvF_low (by omega), mlvF_low (by omega), mlvF_low (by omega)]
  exact hc
def mlvR (F : Nat → Int32) (c : Int32) : Nat → Nat → Nat → Int32
  | _, 0 => F
  | i, k + 1 => mlvR (mlvF F i c) c (i + 1) k
theorem mlvR_low {c : Int32} {j : Nat} (hj : j < 58) : ∀ {k i : Nat} {F : Nat → Int32}, mlvR F c i k j = F j := by
  intro k
  induction k with
  | zero => intro i F; rfl
  | succ k ih => intro i F; rw [mlvR, ih, mlvF_low hj]
theorem l_leaves (hz : zok z) {c : Int32} : ∀ (k i : Nat) (F : Nat → Int32), cnt F nc nh np → i + k = np → ∀ (rest : List (Nat × Value)), X (d + 3) 138 2 ((0, .ref (z.1 + 309)) :: (1, .int c) :: (2, .int (nI i)) :: rest) [] (wld z (mput M (z.1 + 310) F) p) = some (none, wld z (mput M (z.1 + 310) (mlvR F c i k)) p) := by
  intro k
  induction k with
  | zero =>
    intro i F hc hi rest
    have hle := hc.2.2.2.2.2
    have g := nI_stop (n := np) (i := i) (by omega) (by omega)
    rw [e138_2]
    simp only [e138_0, e138_1, e138_3, e138_4, e138_7, e138_8, e138_9, e138_12, e138_13, e138_14, e138_15, e138_18, e138_19, e138_22, e138_23, e138_24, e138_27, e138_30, e138_31, e138_32, e138_35, e138_38, e138_39, e138_40, e138_41, e138_44, e138_45, e138_48, e138_49, e138_50, e138_53, e138_56, e138_57, e138_58, e138_60, e138_63, e138_64, e138_67, e138_68, e138_69, e138_71, e138_72, e138_75, e138_76, e138_77, e138_79, e138_80, e138_83, e138_86, e138_89, lk, lset, ldel, lset2, ldel2, cat2, gI_int, gA_ref, gA_null, gV_some, gC_some, gL_long, Option.toList, List.cons_append, List.nil_append, List.length_cons, List.length_nil, Nat.reduceEqDiff, Nat.reduceAdd, Nat.reduceSub, Nat.reduceLeDiff, Nat.reduceLT, nb0, nb1, reduceIte, reduceCtorEq, and_false, and_true, false_and, true_and, if_true, if_false, Bool.false_eq_true, eq_self, not_true_eq_false, not_false_eq_true, mput_same, mput_mput, fset_same, a310_0 hz, a310_1 hz, a310_2 hz, a310_3 hz, a310_4 hz, a310_5 hz, a310_6 hz, a310_7 hz, k309 hz, g309_0 hz, hc.2.2.2.2.1, g, mlvR]
  | succ k ih =>
    intro i F hc hi rest
    have hle := hc.2.2.2.2.2
    have ih1 := fun rest => ih (i + 1) (mlvF F i c) (mlvF_cnt hc) (by omega) rest
    have g := nI_goon (i := i) (n := np) (by omega) (by omega)
    have hi2 : i < 24 := by omega
    rw [e138_2]
    simp only [mlvR]
    unfold mlvF at ih1 ⊢
    by_cases h1 : F (58 + 10 * i + 4) = c
    · by_cases h2 : 0 ≤ F (58 + 10 * i + 6)
      · simp only [h1, h2, and_self, if_true] at ih1 ⊢
        simp only [e138_0, e138_1, e138_3, e138_4, e138_7, e138_8, e138_9, e138_12, e138_13, e138_14, e138_15, e138_18, e138_19, e138_22, e138_23, e138_24, e138_27, e138_30, e138_31, e138_32, e138_35, e138_38, e138_39, e138_40, e138_41, e138_44, e138_45, e138_48, e138_49, e138_50, e138_53, e138_56, e138_57, e138_58, e138_60, e138_63, e138_64, e138_67, e138_68, e138_69, e138_71, e138_72, e138_75, e138_76, e138_77, e138_79, e138_80, e138_83, e138_86, e138_89, lk, lset, ldel, lset2, ldel2, cat2, gI_int, gA_ref, gA_null, gV_some, gC_some, gL_long, Option.toList, List.cons_append, List.nil_append, List.length_cons, List.length_nil, Nat.reduceEqDiff, Nat.reduceAdd, Nat.reduceSub, Nat.reduceLeDiff, Nat.reduceLT, nb0, nb1, reduceIte, reduceCtorEq, and_false, and_true, false_and, true_and, if_true, if_false, Bool.false_eq_true, eq_self, not_true_eq_false, not_false_eq_true, mput_same, mput_mput, fset_same, a310_0 hz, a310_1 hz, a310_2 hz, a310_3 hz, a310_4 hz, a310_5 hz, a310_6 hz, a310_7 hz, k309 hz, g309_0 hz, ite_not, Classical.not_not, true_or, false_or, or_true, or_false, or_self, and_self, not_or, mput_self, bI_0, hc.2.2.2.2.1, g, nI_1, ih1, m_of4 hz hi2, m_mIsLent hz hi2, m_goesHome hz hi2, h1, h2]
      · simp only [h1, h2, and_false, if_true, if_false] at ih1 ⊢
        simp only [e138_0, e138_1, e138_3, e138_4, e138_7, e138_8, e138_9, e138_12, e138_13, e138_14, e138_15, e138_18, e138_19, e138_22, e138_23, e138_24, e138_27, e138_30, e138_31, e138_32, e138_35, e138_38, e138_39, e138_40, e138_41, e138_44, e138_45, e138_48, e138_49, e138_50, e138_53, e138_56, e138_57, e138_58, e138_60, e138_63, e138_64, e138_67, e138_68, e138_69, e138_71, e138_72, e138_75, e138_76, e138_77, e138_79, e138_80, e138_83, e138_86, e138_89, lk, lset, ldel, lset2, ldel2, cat2, gI_int, gA_ref, gA_null, gV_some, gC_some, gL_long, Option.toList, List.cons_append, List.nil_append, List.length_cons, List.length_nil, Nat.reduceEqDiff, Nat.reduceAdd, Nat.reduceSub, Nat.reduceLeDiff, Nat.reduceLT, nb0, nb1, reduceIte, reduceCtorEq, and_false, and_true, false_and, true_and, if_true, if_false, Bool.false_eq_true, eq_self, not_true_eq_false, not_false_eq_true, mput_same, mput_mput, fset_same, a310_0 hz, a310_1 hz, a310_2 hz, a310_3 hz, a310_4 hz, a310_5 hz, a310_6 hz, a310_7 hz, k309 hz, g309_0 hz, ite_not, Classical.not_not, true_or, false_or, or_true, or_false, or_self, and_self, not_or, mput_self, bI_0, hc.2.2.2.2.1, g, nI_1, ih1, m_of4 hz hi2, m_mIsLent hz hi2, m_goesFree hz hi2, h1, h2]
    · by_cases h3 : F (58 + 10 * i + 7) = c
      · simp only [h1, h3, false_and, if_true, if_false] at ih1 ⊢
        unfold loseF at ih1 ⊢
        simp only [e138_0, e138_1, e138_3, e138_4, e138_7, e138_8, e138_9, e138_12, e138_13, e138_14, e138_15, e138_18, e138_19, e138_22, e138_23, e138_24, e138_27, e138_30, e138_31, e138_32, e138_35, e138_38, e138_39, e138_40, e138_41, e138_44, e138_45, e138_48, e138_49, e138_50, e138_53, e138_56, e138_57, e138_58, e138_60, e138_63, e138_64, e138_67, e138_68, e138_69, e138_71, e138_72, e138_75, e138_76, e138_77, e138_79, e138_80, e138_83, e138_86, e138_89, lk, lset, ldel, lset2, ldel2, cat2, gI_int, gA_ref, gA_null, gV_some, gC_some, gL_long, Option.toList, List.cons_append, List.nil_append, List.length_cons, List.length_nil, Nat.reduceEqDiff, Nat.reduceAdd, Nat.reduceSub, Nat.reduceLeDiff, Nat.reduceLT, nb0, nb1, reduceIte, reduceCtorEq, and_false, and_true, false_and, true_and, if_true, if_false, Bool.false_eq_true, eq_self, not_true_eq_false, not_false_eq_true, mput_same, mput_mput, fset_same, a310_0 hz, a310_1 hz, a310_2 hz, a310_3 hz, a310_4 hz, a310_5 hz, a310_6 hz, a310_7 hz, k309 hz, g309_0 hz, ite_not, Classical.not_not, true_or, false_or, or_true, or_false, or_self, and_self, not_or, mput_self, bI_0, hc.2.2.2.2.1, g, nI_1, ih1, m_of4 hz hi2, m_of7 hz hi2, m_sets7 hz hi2, m_sets8 hz hi2, h1, h3]
      · simp only [h1, h3, false_and, if_false] at ih1 ⊢
        simp only [e138_0, e138_1, e138_3, e138_4, e138_7, e138_8, e138_9, e138_12, e138_13, e138_14, e138_15, e138_18, e138_19, e138_22, e138_23, e138_24, e138_27, e138_30, e138_31, e138_32, e138_35, e138_38, e138_39, e138_40, e138_41, e138_44, e138_45, e138_48, e138_49, e138_50, e138_53, e138_56, e138_57, e138_58, e138_60, e138_63, e138_64, e138_67, e138_68, e138_69, e138_71, e138_72, e138_75, e138_76, e138_77, e138_79, e138_80, e138_83, e138_86, e138_89, lk, lset, ldel, lset2, ldel2, cat2, gI_int, gA_ref, gA_null, gV_some, gC_some, gL_long, Option.toList, List.cons_append, List.nil_append, List.length_cons, List.length_nil, Nat.reduceEqDiff, Nat.reduceAdd, Nat.reduceSub, Nat.reduceLeDiff, Nat.reduceLT, nb0, nb1, reduceIte, reduceCtorEq, and_false, and_true, false_and, true_and, if_true, if_false, Bool.false_eq_true, eq_self, not_true_eq_false, not_false_eq_true, mput_same, mput_mput, fset_same, a310_0 hz, a310_1 hz, a310_2 hz, a310_3 hz, a310_4 hz, a310_5 hz, a310_6 hz, a310_7 hz, k309 hz, g309_0 hz, ite_not, Classical.not_not, true_or, false_or, or_true, or_false, or_self, and_self, not_or, mput_self, bI_0, hc.2.2.2.2.1, g, nI_1, ih1, m_of4 hz hi2, m_of7 hz hi2, h1, h3]
theorem m_leaves (hz : zok z) (hc : cnt (M (z.1 + 310)) nc nh np) {c : Int32} : run (d + 4) 138 [.ref (z.1 + 309), .int c] (wld z M p) = some (none, wld z (mput M (z.1 + 310) (mlvR (M (z.1 + 310)) c 0 np)) p) := by
  have e := fun rest => l_leaves (d := d) (M := M) (p := p) hz (c := c) np 0 (M (z.1 + 310)) hc (by omega) rest
  rw [show nI 0 = 0 from nI_0, mput_self] at e
  rw [r138]
  simp only [e138_0, e138_1, e138_3, e138_4, e138_7, e138_8, e138_9, e138_12, e138_13, e138_14, e138_15, e138_18, e138_19, e138_22, e138_23, e138_24, e138_27, e138_30, e138_31, e138_32, e138_35, e138_38, e138_39, e138_40, e138_41, e138_44, e138_45, e138_48, e138_49, e138_50, e138_53, e138_56, e138_57, e138_58, e138_60, e138_63, e138_64, e138_67, e138_68, e138_69, e138_71, e138_72, e138_75, e138_76, e138_77, e138_79, e138_80, e138_83, e138_86, e138_89, lk, lset, ldel, lset2, ldel2, cat2, gI_int, gA_ref, gA_null, gV_some, gC_some, gL_long, Option.toList, List.cons_append, List.nil_append, List.length_cons, List.length_nil, Nat.reduceEqDiff, Nat.reduceAdd, Nat.reduceSub, Nat.reduceLeDiff, Nat.reduceLT, nb0, nb1, reduceIte, reduceCtorEq, and_false, and_true, false_and, true_and, if_true, if_false, Bool.false_eq_true, eq_self, not_true_eq_false, not_false_eq_true, e]
/-- places from j on, k of them, take what stands four behind -/
def dnF (F : Nat → Int32) (j k : Nat) : Nat → Int32 := fun y => if j ≤ y ∧ y < j + k then F (y + 4) else F y
theorem dnF_0 {F : Nat → Int32} {j : Nat} : dnF F j 0 = F := by
  funext y
  unfold dnF
  rw [if_neg (by omega)]
theorem dnF_step {F : Nat → Int32} {j k : Nat} : dnF (fset F j (F (j + 4))) (j + 1) k = dnF F j (k + 1) := by
  funext y
  unfold dnF
  by_cases h1 : j + 1 ≤ y ∧ y < j + 1 + k
  · rw [if_pos h1, fset_ne (by omega), if_pos (by omega)]
  · rw [if_neg h1]
    by_cases h2 : y = j
    · subst h2; rw [fset_same, if_pos (by omega)]
    · rw [fset_ne h2, if_neg (by omega)]
theorem l_down (hz : zok z) {c x : Int32} {n : Nat} (hn : n ≤ 10) {Y : Option xR} : ∀ (k j : Nat) (F : Nat → Int32), F 1 = nI n → j + k = 18 + 4 * n → 18 ≤ j → ∀ (rest : List (Nat × Value)), (∀ (y : Int32) (rest : List (Nat × Value)), X (d + 3) 139 95 ((0, .ref (z.1 + 309)) :: (1, .int c) :: (2, .int x) :: (3, .int y) :: rest) [] (wld z (mput M (z.1 + 310) (dnF F j k)) p) = Y) → X (d + 3) 139 60 ((0, .ref (z.1 + 309)) :: (1, .int c) :: (2, .int x) :: (3, .int (nI j)) :: rest) [] (wld z (mput M (z.1 + 310) F) p) = Y := by
  intro k
  have e18 : (18 : Int32) + 4 * nI n = nI (18 + 4 * n) := by
    rw [show (18 : Int32) = nI 18 from by decide +kernel, show (4 : Int32) = nI 4 from by decide +kernel, pk_mul, nI_add]
  induction k with
  | zero =>
    intro j F hF hi hj rest hY
    have g := nI_stop (n := 18 + 4 * n) (i := j) (by omega) (by omega)
    rw [dnF_0] at hY
    rw [e139_60]
    simp only [e139_61, e139_63, e139_64, e139_65, e139_68, e139_69, e139_70, e139_71, e139_72, e139_75, e139_76, e139_79, e139_80, e139_81, e139_84, e139_85, e139_86, e139_87, e139_88, e139_89, e139_92, lk, lset, ldel, lset2, ldel2, cat2, gI_int, gA_ref, gA_null, gV_some, gC_some, gL_long, Option.toList, List.cons_append, List.nil_append, List.length_cons, List.length_nil, Nat.reduceEqDiff, Nat.reduceAdd, Nat.reduceSub, Nat.reduceLeDiff, Nat.reduceLT, nb0, nb1, reduceIte, reduceCtorEq, and_false, and_true, false_and, true_and, if_true, if_false, Bool.false_eq_true, eq_self, not_true_eq_false, not_false_eq_true, mput_same, mput_mput, fset_same, a310_0 hz, a310_1 hz, a310_2 hz, a310_3 hz, a310_4 hz, a310_5 hz, a310_6 hz, a310_7 hz, k309 hz, g309_0 hz, hF, e18, g, hY]
  | succ k ih =>
    intro j F hF hi hj rest hY
    have g := nI_goon (i := j) (n := 18 + 4 * n) (by omega) (by omega)
    have e4 : nI j + 4 = nI (j + 4) := by rw [show (4 : Int32) = nI 4 from by decide +kernel, nI_add]
    have ih1 := fun rest => ih (j + 1) (fset F j (F (j + 4))) (by rw [fset_ne (by omega)]; exact hF) (by omega) (by omega) rest (by rw [dnF_step]; exact hY)
    rw [e139_60]
    simp only [e139_61, e139_63, e139_64, e139_65, e139_68, e139_69, e139_70, e139_71, e139_72, e139_75, e139_76, e139_79, e139_80, e139_81, e139_84, e139_85, e139_86, e139_87, e139_88, e139_89, e139_92, lk, lset, ldel, lset2, ldel2, cat2, gI_int, gA_ref, gA_null, gV_some, gC_some, gL_long, Option.toList, List.cons_append, List.nil_append, List.length_cons, List.length_nil, Nat.reduceEqDiff, Nat.reduceAdd, Nat.reduceSub, Nat.reduceLeDiff, Nat.reduceLT, nb0, nb1, reduceIte, reduceCtorEq, and_false, and_true, false_and, true_and, if_true, if_false, Bool.false_eq_true, eq_self, not_true_eq_false, not_false_eq_true, mput_same, mput_mput, fset_same, a310_0 hz, a310_1 hz, a310_2 hz, a310_3 hz, a310_4 hz, a310_5 hz, a310_6 hz, a310_7 hz, k309 hz, g309_0 hz, hF, e18, g, nI_1, e4, a310 hz (show j + 4 < 298 by omega), s310 hz (show j < 298 by omega), ih1]
def mgpF (F : Nat → Int32) (i : Nat) (c : Int32) : Nat → Int32 :=
  fset (fset F (58 + 10 * i + 4) (if F (58 + 10 * i + 4) ≤ c then F (58 + 10 * i + 4) else F (58 + 10 * i + 4) - 1)) (58 + 10 * i + 7) (if F (58 + 10 * i + 7) ≤ c then F (58 + 10 * i + 7) else F (58 + 10 * i + 7) - 1)
theorem mgpF_low {F : Nat → Int32} {i j : Nat} {c : Int32} (hj : j < 58) : mgpF F i c j = F j := by
  unfold mgpF
  rw [fset_ne (by omega), fset_ne (by omega)]
def mgpR (F : Nat → Int32) (c : Int32) : Nat → Nat → Nat → Int32
  | _, 0 => F
  | i, k + 1 => mgpR (mgpF F i c) c (i + 1) k
theorem l_gaps (hz : zok z) {c x : Int32} {n : Nat} (hn : n ≤ 24) : ∀ (k i : Nat) (F : Nat → Int32), F 2 = nI n → i + k = n → ∀ (rest : List (Nat × Value)), X (d + 3) 139 97 ((0, .ref (z.1 + 309)) :: (1, .int c) :: (2, .int x) :: (3, .int (nI i)) :: rest) [] (wld z (mput M (z.1 + 310) F) p) = some (some (.int x), wld z (mput M (z.1 + 310) (mgpR F c i k)) p) := by
  intro k
  induction k with
  | zero =>
    intro i F hF hi rest
    have g := nI_stop (n := n) (i := i) (by omega) (by omega)
    rw [e139_97]
    simp only [e139_98, e139_99, e139_102, e139_103, e139_104, e139_107, e139_108, e139_109, e139_110, e139_111, e139_112, e139_113, e139_116, e139_117, e139_120, e139_121, e139_122, e139_123, e139_126, e139_127, e139_128, e139_131, e139_132, e139_133, e139_134, e139_137, e139_140, e139_141, e139_142, e139_144, e139_145, e139_146, e139_148, e139_151, e139_152, e139_155, e139_156, e139_157, e139_159, e139_162, e139_163, e139_164, e139_167, e139_168, e139_169, e139_171, e139_174, e139_177, e139_180, e139_183, e139_184, lk, lset, ldel, lset2, ldel2, cat2, gI_int, gA_ref, gA_null, gV_some, gC_some, gL_long, Option.toList, List.cons_append, List.nil_append, List.length_cons, List.length_nil, Nat.reduceEqDiff, Nat.reduceAdd, Nat.reduceSub, Nat.reduceLeDiff, Nat.reduceLT, nb0, nb1, reduceIte, reduceCtorEq, and_false, and_true, false_and, true_and, if_true, if_false, Bool.false_eq_true, eq_self, not_true_eq_false, not_false_eq_true, mput_same, mput_mput, fset_same, a310_0 hz, a310_1 hz, a310_2 hz, a310_3 hz, a310_4 hz, a310_5 hz, a310_6 hz, a310_7 hz, k309 hz, g309_0 hz, hF, g, mgpR]
  | succ k ih =>
    intro i F hF hi rest
    have g := nI_goon (i := i) (n := n) (by omega) (by omega)
    have hi2 : i < 24 := by omega
    have ih1 := fun rest => ih (i + 1) (mgpF F i c) (by rw [mgpF_low (by omega)]; exact hF) (by omega) rest
    have n74 : 58 + 10 * i + 7 ≠ 58 + 10 * i + 4 := by omega
    rw [e139_97]
    simp only [mgpR]
    unfold mgpF at ih1 ⊢
    by_cases h1 : F (58 + 10 * i + 4) ≤ c <;> by_cases h2 : F (58 + 10 * i + 7) ≤ c <;>
      (simp only [h1, h2, if_true, if_false] at ih1 ⊢
       simp only [e139_98, e139_99, e139_102, e139_103, e139_104, e139_107, e139_108, e139_109, e139_110, e139_111, e139_112, e139_113, e139_116, e139_117, e139_120, e139_121, e139_122, e139_123, e139_126, e139_127, e139_128, e139_131, e139_132, e139_133, e139_134, e139_137, e139_140, e139_141, e139_142, e139_144, e139_145, e139_146, e139_148, e139_151, e139_152, e139_155, e139_156, e139_157, e139_159, e139_162, e139_163, e139_164, e139_167, e139_168, e139_169, e139_171, e139_174, e139_177, e139_180, e139_183, e139_184, lk, lset, ldel, lset2, ldel2, cat2, gI_int, gA_ref, gA_null, gV_some, gC_some, gL_long, Option.toList, List.cons_append, List.nil_append, List.length_cons, List.length_nil, Nat.reduceEqDiff, Nat.reduceAdd, Nat.reduceSub, Nat.reduceLeDiff, Nat.reduceLT, nb0, nb1, reduceIte, reduceCtorEq, and_false, and_true, false_and, true_and, if_true, if_false, Bool.false_eq_true, eq_self, not_true_eq_false, not_false_eq_true, mput_same, mput_mput, fset_same, a310_0 hz, a310_1 hz, a310_2 hz, a310_3 hz, a310_4 hz, a310_5 hz, a310_6 hz, a310_7 hz, k309 hz, g309_0 hz, hF, g, nI_1, m_of4 hz hi2, m_of7 hz hi2, m_sets4 hz hi2, m_sets7 hz hi2, h1, h2, fset_ne n74, ih1])
def mworF (F : Nat → Int32) (i : Nat) : Int32 := F (18 + 4 * i + 2) * (if 0 ≤ lossF F i then lossF F i else 0) / 100
def mbbF (F : Nat → Int32) (nc nh np i : Nat) (o : Nat) : Nat → Int32 :=
  let G := fset (fset F 4 (F 4 - mworF F i)) (8 + 2 * o + 1) (fset F 4 (F 4 - mworF F i) (8 + 2 * o + 1) + mworF F i)
  let G2 := mlvR G (nI i) 0 np
  mgpR (dnF (fset G2 1 (G2 1 - 1)) (18 + 4 * i) (4 * (nh - 1 - i))) (nI i) 0 np
theorem m_buysBack (hz : zok z) (hc : cnt (M (z.1 + 310)) nc nh np) {i o : Nat} (hi : i < nh) (ho : o < nc) (hown : M (z.1 + 310) (18 + 4 * i + 0) = nI o) : run (d + 5) 139 [.ref (z.1 + 309), .int (nI i)] (wld z M p) = some (some (.int (mworF (M (z.1 + 310)) i)), wld z (mput M (z.1 + 310) (mbbF (M (z.1 + 310)) nc nh np i o)) p) := by
  have hh := hc.2.2.2.1
  have hn5 := hc.2.1
  have hp24 := hc.2.2.2.2.2
  have hi10 : i < 10 := by omega
  have ho5 : o < 5 := by omega
  generalize hF : M (z.1 + 310) = F at hc hown ⊢
  have hw : run (d + 4) 137 [.ref (z.1 + 309), .int (nI i)] (wld z M p) = some (some (.int (mworF F i)), wld z M p) := by
    rw [← hF]; exact m_mWorth (d := d + 2) hz hi10
  have ix81 : (8 : Int32) + 2 * nI o + 1 = nI (8 + 2 * o + 1) := by
    have := ix8 (i := o) (k := 1); rwa [l1] at this
  have ix184 : (18 : Int32) + 4 * nI i = nI (18 + 4 * i) := by
    rw [show (18 : Int32) = nI 18 from by decide +kernel, show (4 : Int32) = nI 4 from by decide +kernel, pk_mul, nI_add]
  generalize hF2 : fset (fset F 4 (F 4 - mworF F i)) (8 + 2 * o + 1) (fset F 4 (F 4 - mworF F i) (8 + 2 * o + 1) + mworF F i) = F2
  have hc2 : cnt F2 nc nh np := by
    rw [← hF2]; unfold cnt
    rw [fset_ne (by omega), fset_ne (by omega), fset_ne (by omega), fset_ne (by omega), fset_ne (by omega), fset_ne (by omega)]
    exact hc
  have hc2' : cnt (mput M (z.1 + 310) F2 (z.1 + 310)) nc nh np := by rw [mput_same]; exact hc2
  have e8 : 18 + 4 * i + 0 ≠ 4 := by omega
  have g1 : mlvR F2 (nI i) 0 np 1 = nI nh := by rw [mlvR_low (by omega)]; exact hc2.2.2.1
  have g2 : mlvR F2 (nI i) 0 np 2 = nI np := by rw [mlvR_low (by omega)]; exact hc2.2.2.2.2.1
  have g3 : nI nh - 1 = nI (nh - 1) := by rw [show nh = nh - 1 + 1 by omega, nI_pred, Nat.add_sub_cancel]
  have hb : mbbF F nc nh np i o = mgpR (dnF (fset (mlvR F2 (nI i) 0 np) 1 (mlvR F2 (nI i) 0 np 1 - 1)) (18 + 4 * i) (4 * (nh - 1 - i))) (nI i) 0 np := by
    unfold mbbF; rw [hF2]
  have s1 : ∀ (y : Int32) (rest : List (Nat × Value)), X (d + 4) 139 95 ((0, .ref (z.1 + 309)) :: (1, .int (nI i)) :: (2, .int (mworF F i)) :: (3, .int y) :: rest) [] (wld z (mput M (z.1 + 310) (dnF (fset (mlvR F2 (nI i) 0 np) 1 (mlvR F2 (nI i) 0 np 1 - 1)) (18 + 4 * i) (4 * (nh - 1 - i)))) p) = some (some (.int (mworF F i)), wld z (mput M (z.1 + 310) (mbbF F nc nh np i o)) p) := by
    intro y rest
    have := fun rest => l_gaps (d := d + 1) (M := M) (p := p) hz (c := nI i) (x := mworF F i) hp24 np 0 (dnF (fset (mlvR F2 (nI i) 0 np) 1 (mlvR F2 (nI i) 0 np 1 - 1)) (18 + 4 * i) (4 * (nh - 1 - i))) (by unfold dnF; rw [if_neg (by omega), fset_ne (by omega)]; exact g2) (by omega) rest
    rw [show nI 0 = 0 from nI_0] at this
    rw [hb]
    simp only [e139_95, e139_96, lk, lset, ldel, lset2, ldel2, cat2, gI_int, gA_ref, gA_null, gV_some, gC_some, gL_long, Option.toList, List.cons_append, List.nil_append, List.length_cons, List.length_nil, Nat.reduceEqDiff, Nat.reduceAdd, Nat.reduceSub, Nat.reduceLeDiff, Nat.reduceLT, nb0, nb1, reduceIte, reduceCtorEq, and_false, and_true, false_and, true_and, if_true, if_false, Bool.false_eq_true, eq_self, not_true_eq_false, not_false_eq_true, this]
  have s2 := l_down (d := d + 1) (M := M) (p := p) hz (c := nI i) (x := mworF F i) (n := nh - 1) (by omega) (Y := some (some (.int (mworF F i)), wld z (mput M (z.1 + 310) (mbbF F nc nh np i o)) p)) (4 * (nh - 1 - i)) (18 + 4 * i) (fset (mlvR F2 (nI i) 0 np) 1 (mlvR F2 (nI i) 0 np 1 - 1)) (by rw [fset_same, g1, g3]) (by omega) (by omega) [] s1
  rw [r139]
  simp only [e139_0, e139_1, e139_2, e139_5, e139_6, e139_7, e139_10, e139_11, e139_12, e139_13, e139_14, e139_15, e139_16, e139_17, e139_20, e139_22, e139_23, e139_24, e139_25, e139_26, e139_29, e139_30, e139_31, e139_32, e139_33, e139_34, e139_35, e139_36, e139_37, lk, lset, ldel, lset2, ldel2, cat2, gI_int, gA_ref, gA_null, gV_some, gC_some, gL_long, Option.toList, List.cons_append, List.nil_append, List.length_cons, List.length_nil, Nat.reduceEqDiff, Nat.reduceAdd, Nat.reduceSub, Nat.reduceLeDiff, Nat.reduceLT, nb0, nb1, reduceIte, reduceCtorEq, and_false, and_true, false_and, true_and, if_true, if_false, Bool.false_eq_true, eq_self, not_true_eq_false, not_false_eq_true, mput_same, mput_mput, fset_same, lk_same, lk_same2, lk_k1, lk_k1r, lk_ldN, ne_eq, a310_0 hz, a310_1 hz, a310_2 hz, a310_3 hz, a310_4 hz, a310_5 hz, a310_6 hz, a310_7 hz, k309 hz, g309_0 hz, s310_0 hz, s310_1 hz, s310_2 hz, s310_3 hz, s310_4 hz, s310_5 hz, s310_6 hz, s310_7 hz, hw, hF, m_ofChapter0 hz hi10, fset_ne e8, hown, ix81, a310 hz (show 8 + 2 * o + 1 < 298 by omega), s310 hz (show 8 + 2 * o + 1 < 298 by omega), hF2]
  simp only [e139_38, e139_39, e139_40, e139_43, e139_44, e139_47, e139_48, e139_49, e139_50, e139_51, e139_52, e139_53, e139_55, e139_56, e139_57, e139_58, e139_59, lk, lset, ldel, lset2, ldel2, cat2, gI_int, gA_ref, gA_null, gV_some, gC_some, gL_long, Option.toList, List.cons_append, List.nil_append, List.length_cons, List.length_nil, Nat.reduceEqDiff, Nat.reduceAdd, Nat.reduceSub, Nat.reduceLeDiff, Nat.reduceLT, nb0, nb1, reduceIte, reduceCtorEq, and_false, and_true, false_and, true_and, if_true, if_false, Bool.false_eq_true, eq_self, not_true_eq_false, not_false_eq_true, mput_same, mput_mput, fset_same, lk_same, lk_same2, lk_k1, lk_k1r, lk_ldN, ne_eq, a310_0 hz, a310_1 hz, a310_2 hz, a310_3 hz, a310_4 hz, a310_5 hz, a310_6 hz, a310_7 hz, k309 hz, g309_0 hz, s310_0 hz, s310_1 hz, s310_2 hz, s310_3 hz, s310_4 hz, s310_5 hz, s310_6 hz, s310_7 hz, m_leaves hz hc2', ix184]
  exact s2
-- copies
def firstN (n : Nat) (F G : Nat → Int32) : Nat → Int32 := fun j => if j < n then G j else F j
theorem firstN_step {n : Nat} {F G : Nat → Int32} : fset (firstN n F G) n (G n) = firstN (n + 1) F G := by
  funext j
  unfold fset firstN
  by_cases h : j = n
  · subst h; rw [if_pos rfl, if_pos (by omega)]
  · rw [if_neg h]
    by_cases h2 : j < n
    · rw [if_pos h2, if_pos (by omega)]
    · rw [if_neg h2, if_neg (by omega)]
theorem firstN_0 {F G : Nat → Int32} : firstN 0 F G = F := by
  funext j
  unfold firstN
  exact if_neg (by omega)
theorem l_copies {A B : Nat} (hAB : A ≠ B) (ha : ∀ (M : Nat → Nat → Int32) (j : Nat), j < 298 → ai (wld z M p) A (nI j) = some (.int (M A j))) (hs : ∀ (M : Nat → Nat → Int32) (j : Nat) (v : Int32), j < 298 → ap (wld z M p) B 10 10 (nI j) (.int v) = some (wld z (mput M B (fset (M B) j v)) p)) : ∀ (k i : Nat), i + k = 298 → ∀ (rest : List (Nat × Value)), X d 112 2 ((0, .ref A) :: (1, .ref B) :: (2, .int (nI i)) :: rest) [] (wld z (mput M B (firstN i (M B) (M A))) p) = some (none, wld z (mput M B (firstN 298 (M B) (M A))) p) := by
  intro k
  have e298 : (298 : Int32) = nI 298 := by decide +kernel
  induction k with
  | zero =>
    intro i hi rest
    obtain rfl : i = 298 := by omega
    have g := nI_stop (n := 298) (i := 298) (by omega) (by omega)
    rw [← e298] at g
    rw [e112_2]
    simp only [e112_0, e112_1, e112_3, e112_6, e112_9, e112_10, e112_11, e112_12, e112_13, e112_14, e112_15, e112_18, e112_21, lk, lset, ldel, lset2, ldel2, cat2, gI_int, gA_ref, gA_null, gV_some, gC_some, gL_long, Option.toList, List.cons_append, List.nil_append, List.length_cons, List.length_nil, Nat.reduceEqDiff, Nat.reduceAdd, Nat.reduceSub, Nat.reduceLeDiff, Nat.reduceLT, nb0, nb1, reduceIte, reduceCtorEq, and_false, and_true, false_and, true_and, if_true, if_false, Bool.false_eq_true, eq_self, not_true_eq_false, not_false_eq_true, ← e298, Int32.le_refl]
  | succ k ih =>
    intro i hi rest
    have g := nI_goon (i := i) (n := 298) (by omega) (by omega)
    rw [← e298] at g
    have ih1 := fun rest => ih (i + 1) (by omega) rest
    rw [e112_2]
    simp only [e112_0, e112_1, e112_3, e112_6, e112_9, e112_10, e112_11, e112_12, e112_13, e112_14, e112_15, e112_18, e112_21, lk, lset, ldel, lset2, ldel2, cat2, gI_int, gA_ref, gA_null, gV_some, gC_some, gL_long, Option.toList, List.cons_append, List.nil_append, List.length_cons, List.length_nil, Nat.reduceEqDiff, Nat.reduceAdd, Nat.reduceSub, Nat.reduceLeDiff, Nat.reduceLT, nb0, nb1, reduceIte, reduceCtorEq, and_false, and_true, false_and, true_and, if_true, if_false, Bool.false_eq_true, eq_self, not_true_eq_false, not_false_eq_true, mput_same, mput_mput, fset_same, g, nI_1, ha _ i (by omega), hs _ i _ (by omega), mput_ne hAB, firstN_step, ih1]
theorem m_copies {A B : Nat} (hAB : A ≠ B) (ha : ∀ (M : Nat → Nat → Int32) (j : Nat), j < 298 → ai (wld z M p) A (nI j) = some (.int (M A j))) (hs : ∀ (M : Nat → Nat → Int32) (j : Nat) (v : Int32), j < 298 → ap (wld z M p) B 10 10 (nI j) (.int v) = some (wld z (mput M B (fset (M B) j v)) p)) : run (d + 1) 112 [.ref A, .ref B] (wld z M p) = some (none, wld z (mput M B (firstN 298 (M B) (M A))) p) := by
  have e := fun rest => l_copies (d := d) (M := M) (p := p) hAB ha hs 298 0 (by omega) rest
  rw [show nI 0 = 0 from nI_0, firstN_0, mput_self] at e
  rw [r112]
  simp only [e112_0, e112_1, e112_3, e112_6, e112_9, e112_10, e112_11, e112_12, e112_13, e112_14, e112_15, e112_18, e112_21, lk, lset, ldel, lset2, ldel2, cat2, gI_int, gA_ref, gA_null, gV_some, gC_some, gL_long, Option.toList, List.cons_append, List.nil_append, List.length_cons, List.length_nil, Nat.reduceEqDiff, Nat.reduceAdd, Nat.reduceSub, Nat.reduceLeDiff, Nat.reduceLT, nb0, nb1, reduceIte, reduceCtorEq, and_false, and_true, false_and, true_and, if_true, if_false, Bool.false_eq_true, eq_self, not_true_eq_false, not_false_eq_true, e]
-- the history
theorem l_chShift (hz : zok z) : ∀ (k i : Nat) (F : Nat → Int32), i + k = 894 → ∀ (rest : List (Nat × Value)) (Y : Option xR), (∀ (y : Int32) (rest : List (Nat × Value)), X d 113 47 ((0, .ref (z.1 + 309)) :: (1, .int y) :: rest) [] (wld z (mput M (z.1 + 311) (fun j => if i ≤ j ∧ j < i + k then F (j + 298) else F j)) p) = Y) → X d 113 18 ((0, .ref (z.1 + 309)) :: (1, .int (nI i)) :: rest) [] (wld z (mput M (z.1 + 311) F) p) = Y := by
  intro k
  have e894 : (894 : Int32) = nI 894 := by decide +kernel
  have e298 : (298 : Int32) = nI 298 := by decide +kernel
  induction k with
  | zero =>
    intro i F hi rest Y hY
    obtain rfl : i = 894 := by omega
    have e1 : (fun j => if 894 ≤ j ∧ j < 894 + 0 then F (j + 298) else F j) = F := by funext j; exact if_neg (by omega)
    rw [e1] at hY
    rw [e113_18]
    simp only [e113_19, e113_22, e113_25, e113_26, e113_29, e113_30, e113_31, e113_34, e113_35, e113_38, e113_39, e113_40, e113_41, e113_44, lk, lset, ldel, lset2, ldel2, cat2, gI_int, gA_ref, gA_null, gV_some, gC_some, gL_long, Option.toList, List.cons_append, List.nil_append, List.length_cons, List.length_nil, Nat.reduceEqDiff, Nat.reduceAdd, Nat.reduceSub, Nat.reduceLeDiff, Nat.reduceLT, nb0, nb1, reduceIte, reduceCtorEq, and_false, and_true, false_and, true_and, if_true, if_false, Bool.false_eq_true, eq_self, not_true_eq_false, not_false_eq_true, ← e894, Int32.le_refl, hY]
  | succ k ih =>
    intro i F hi rest Y hY
    have g := nI_goon (i := i) (n := 894) (by omega) (by omega)
    rw [← e894] at g
    have e4 : nI i + 298 = nI (i + 298) := by rw [e298, nI_add]
    have e1 : (fun j => if i + 1 ≤ j ∧ j < i + 1 + k then fset F i (F (i + 298)) (j + 298) else fset F i (F (i + 298)) j) = (fun j => if i ≤ j ∧ j < i + (k + 1) then F (j + 298) else F j) := by
      funext j
      by_cases h1 : i + 1 ≤ j ∧ j < i + 1 + k
      · rw [if_pos h1, if_pos (by omega), fset_ne (by omega)]
      · rw [if_neg h1]
        by_cases h2 : j = i
        · subst h2; rw [fset_same, if_pos (by omega)]
        · rw [fset_ne h2, if_neg (by omega)]
    have ih1 := fun rest => ih (i + 1) (fset F i (F (i + 298))) (by omega) rest Y (by rw [e1]; exact hY)
    rw [e113_18]
    simp only [e113_19, e113_22, e113_25, e113_26, e113_29, e113_30, e113_31, e113_34, e113_35, e113_38, e113_39, e113_40, e113_41, e113_44, lk, lset, ldel, lset2, ldel2, cat2, gI_int, gA_ref, gA_null, gV_some, gC_some, gL_long, Option.toList, List.cons_append, List.nil_append, List.length_cons, List.length_nil, Nat.reduceEqDiff, Nat.reduceAdd, Nat.reduceSub, Nat.reduceLeDiff, Nat.reduceLT, nb0, nb1, reduceIte, reduceCtorEq, and_false, and_true, false_and, true_and, if_true, if_false, Bool.false_eq_true, eq_self, not_true_eq_false, not_false_eq_true, mput_same, mput_mput, fset_same, g309_0 hz, g309_1 hz, g309_2 hz, g309_3 hz, g309_4 hz, g309_5 hz, g309_6 hz, g309_7 hz, g309_8 hz, g309_9 hz, g309_10 hz, g309_11 hz, g309_12 hz, g309_13 hz, g309_14 hz, g309_15 hz, g309_16 hz, g309_17 hz, p309_5 hz, p309_6 hz, p309_7 hz, p309_9 hz, p309_10 hz, p309_11 hz, p309_12 hz, p309_13 hz, p309_14 hz, p309_15 hz, p309_16 hz, k309 hz, g, nI_1, e4, a311 hz (show i + 298 < 1192 by omega), s311 hz (show i < 1192 by omega), ih1]
theorem l_chCopy (hz : zok z) {n : Nat} (hn : n < 4) (hpn : M (z.1 + 309) 7 = nI n) : ∀ (k i : Nat) (F : Nat → Int32), i + k = 298 → ∀ (rest : List (Nat × Value)), X d 113 59 ((0, .ref (z.1 + 309)) :: (1, .int (nI i)) :: rest) [] (wld z (mput M (z.1 + 311) F) p) = some (none, wld z (mput (mput M (z.1 + 311) (fun j => if 298 * n + i ≤ j ∧ j < 298 * n + (i + k) then M (z.1 + 310) (j - 298 * n) else F j)) (z.1 + 309) (fset (M (z.1 + 309)) 7 (nI (n + 1)))) p) := by
  intro k
  have e298 : (298 : Int32) = nI 298 := by decide +kernel
  have q1 : z.1 + 309 ≠ z.1 + 311 := by omega
  have q2 : z.1 + 310 ≠ z.1 + 311 := by omega
  induction k with
  | zero =>
    intro i F hi rest
    obtain rfl : i = 298 := by omega
    have e1 : (fun j => if 298 * n + 298 ≤ j ∧ j < 298 * n + (298 + 0) then M (z.1 + 310) (j - 298 * n) else F j) = F := by funext j; exact if_neg (by omega)
    rw [e1]
    rw [e113_59]
    simp only [e113_60, e113_63, e113_66, e113_67, e113_70, e113_73, e113_74, e113_77, e113_78, e113_79, e113_80, e113_81, e113_84, e113_85, e113_86, e113_87, e113_90, e113_93, e113_94, e113_94a, e113_95, e113_98, e113_99, e113_100, e113_103, lk, lset, ldel, lset2, ldel2, cat2, gI_int, gA_ref, gA_null, gV_some, gC_some, gL_long, Option.toList, List.cons_append, List.nil_append, List.length_cons, List.length_nil, Nat.reduceEqDiff, Nat.reduceAdd, Nat.reduceSub, Nat.reduceLeDiff, Nat.reduceLT, nb0, nb1, reduceIte, reduceCtorEq, and_false, and_true, false_and, true_and, if_true, if_false, Bool.false_eq_true, eq_self, not_true_eq_false, not_false_eq_true, g309_0 hz, g309_1 hz, g309_2 hz, g309_3 hz, g309_4 hz, g309_5 hz, g309_6 hz, g309_7 hz, g309_8 hz, g309_9 hz, g309_10 hz, g309_11 hz, g309_12 hz, g309_13 hz, g309_14 hz, g309_15 hz, g309_16 hz, g309_17 hz, p309_5 hz, p309_6 hz, p309_7 hz, p309_9 hz, p309_10 hz, p309_11 hz, p309_12 hz, p309_13 hz, p309_14 hz, p309_15 hz, p309_16 hz, k309 hz, ← e298, Int32.le_refl, mput_ne q1, hpn, nI_1]
  | succ k ih =>
    intro i F hi rest
    have g := nI_goon (i := i) (n := 298) (by omega) (by omega)
    rw [← e298] at g
    have e4 : 298 * nI n + nI i = nI (298 * n + i) := by rw [e298, pk_mul, nI_add]
    have e1 : (fun j => if 298 * n + (i + 1) ≤ j ∧ j < 298 * n + (i + 1 + k) then M (z.1 + 310) (j - 298 * n) else fset F (298 * n + i) (M (z.1 + 310) i) j) = (fun j => if 298 * n + i ≤ j ∧ j < 298 * n + (i + (k + 1)) then M (z.1 + 310) (j - 298 * n) else F j) := by
      funext j
      by_cases h1 : 298 * n + (i + 1) ≤ j ∧ j < 298 * n + (i + 1 + k)
      · rw [if_pos h1, if_pos (by omega)]
      · rw [if_neg h1]
        by_cases h2 : j = 298 * n + i
        · subst h2; rw [fset_same, if_pos (by omega), Nat.add_sub_cancel_left]
        · rw [fset_ne h2, if_neg (by omega)]
    have ih1 := fun rest => ih (i + 1) (fset F (298 * n + i) (M (z.1 + 310) i)) (by omega) rest
    rw [e1] at ih1
    rw [e113_59]
    simp only [e113_60, e113_63, e113_66, e113_67, e113_70, e113_73, e113_74, e113_77, e113_78, e113_79, e113_80, e113_81, e113_84, e113_85, e113_86, e113_87, e113_90, e113_93, e113_94, e113_94a, e113_95, e113_98, e113_99, e113_100, e113_103, lk, lset, ldel, lset2, ldel2, cat2, gI_int, gA_ref, gA_null, gV_some, gC_some, gL_long, Option.toList, List.cons_append, List.nil_append, List.length_cons, List.length_nil, Nat.reduceEqDiff, Nat.reduceAdd, Nat.reduceSub, Nat.reduceLeDiff, Nat.reduceLT, nb0, nb1, reduceIte, reduceCtorEq, and_false, and_true, false_and, true_and, if_true, if_false, Bool.false_eq_true, eq_self, not_true_eq_false, not_false_eq_true, mput_same, mput_mput, fset_same, g309_0 hz, g309_1 hz, g309_2 hz, g309_3 hz, g309_4 hz, g309_5 hz, g309_6 hz, g309_7 hz, g309_8 hz, g309_9 hz, g309_10 hz, g309_11 hz, g309_12 hz, g309_13 hz, g309_14 hz, g309_15 hz, g309_16 hz, g309_17 hz, p309_5 hz, p309_6 hz, p309_7 hz, p309_9 hz, p309_10 hz, p309_11 hz, p309_12 hz, p309_13 hz, p309_14 hz, p309_15 hz, p309_16 hz, k309 hz, g, nI_1, mput_ne q1, mput_ne q2, hpn, e4, a310 hz (show i < 298 by omega), s311 hz (show 298 * n + i < 1192 by omega), ih1]
end MB
