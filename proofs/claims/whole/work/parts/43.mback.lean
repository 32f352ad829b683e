/-! the model: chapters bought back, copies, the history -/
section MB
variable {z : Zt} {d : Nat} {M : Nat → Nat → Int32} {p : Nat → Nat} {nc nh np : Nat}
def mlvF (F : Nat → Int32) (i : Nat) (c : Int32) : Nat → Int32 :=
  if F (58 + 10 * i + 4) = c ∧ 0 ≤ F (58 + 10 * i + 6) then mhomeF F i else if F (58 + 10 * i + 4) = c then freeF F i else if F (58 + 10 * i + 7) = c then loseF F i else F
theorem mlvF_low {F : Nat → Int32} {i j : Nat} {c : Int32} (hj : j < 58) : mlvF F i c j = F j := by
  unfold mlvF
  split
  · exact mhomeF_low hj
  · split
    · exact freeF_low hj
    · split
      · exact loseF_low hj
      · rfl
theorem mlvF_cnt {F : Nat → Int32} {i : Nat} {c : Int32} (hc : cnt F nc nh np) : cnt (mlvF F i c) nc nh np := by
  unfold cnt
  rw [mlvF_low (by omega), mlvF_low (by omega), mlvF_low (by omega)]
  exact hc
def mlvR (F : Nat → Int32) (c : Int32) : Nat → Nat → Nat → Int32
  | _, 0 => F
  | i, k + 1 => mlvR (mlvF F i c) c (i + 1) k
theorem mlvR_low {c : Int32} {j : Nat} (hj : j < 58) : ∀ {k i : Nat} {F : Nat → Int32}, mlvR F c i k j = F j := by
  intro k
  induction k with
  | zero => intro i F; rfl
  | succ k ih => intro i F; rw [mlvR, ih, mlvF_low hj]
theorem l_leaves (hz : zok z) {c : Int32} : ∀ (k i : Nat) (F : Nat → Int32), cnt F nc nh np → i + k = np → ∀ (rest : List (Nat × Value)), X (d + 3) 138 2 ((0, .ref (z.1 + 309)) :: (1, .int c) :: (2, .int (nI i)) :: rest) [] (wld z (mput M (z.1 + 310) F) p) = some (none, wld z (mput M (z.1 + 310) (mlvR F c i k)) p) := by
  intro k
  induction k with
  | zero =>
    intro i F hc hi rest
    have hle := hc.2.2.2.2.2
    have g := nI_stop (n := np) (i := i) (by omega) (by omega)
    rw [e138_2]
    simp only [e138_0, e138_1, e138_3, e138_4, e138_7, e138_8, e138_9, e138_12, e138_13, e138_14, e138_15, e138_18, e138_19, e138_22, e138_23, e138_24, e138_27, e138_30, e138_31, e138_32, e138_35, e138_38, e138_39, e138_40, e138_41, e138_44, e138_45, e138_48, e138_49, e138_50, e138_53, e138_56, e138_57, e138_58, e138_60, e138_63, e138_64, e138_67, e138_68, e138_69, e138_71, e138_72, e138_75, e138_76, e138_77, e138_79, e138_80, e138_83, e138_86, e138_89, lk, lset, ldel, lset2, ldel2, cat2, gI_int, gA_ref, gA_null, gV_some, gC_some, gL_long, Option.toList, List.cons_append, List.nil_append, List.length_cons, List.length_nil, Nat.reduceEqDiff, Nat.reduceAdd, Nat.reduceSub, Nat.reduceLeDiff, Nat.reduceLT, nb0, nb1, reduceIte, reduceCtorEq, and_false, and_true, false_and, true_and, if_true, if_false, Bool.false_eq_true, eq_self, not_true_eq_false, not_false_eq_true, mput_same, mput_mput, fset_same, a310_0 hz, a310_1 hz, a310_2 hz, a310_3 hz, a310_4 hz, a310_5 hz, a310_6 hz, a310_7 hz, k309 hz, g309_0 hz, hc.2.2.2.2.1, g, mlvR]
  | succ k ih =>
    intro i F hc hi rest
    have hle := hc.2.2.2.2.2
    have ih1 := fun rest => ih (i + 1) (mlvF F i c) (mlvF_cnt hc) (by omega) rest
    have g := nI_goon (i := i) (n := np) (by omega) (by omega)
    have hi2 : i < 24 := by omega
    rw [e138_2]
    simp only [mlvR]
    unfold mlvF at ih1 ⊢
    by_cases h1 : F (58 + 10 * i + 4) = c
    · by_cases h2 : 0 ≤ F (58 + 10 * i + 6)
      · simp only [h1, h2, and_self, if_true] at ih1 ⊢
        simp only [e138_0, e138_1, e138_3, e138_4, e138_7, e138_8, e138_9, e138_12, e138_13, e138_14, e138_15, e138_18, e138_19, e138_22, e138_23, e138_24, e138_27, e138_30, e138_31, e138_32, e138_35, e138_38, e138_39, e138_40, e138_41, e138_44, e138_45, e138_48, e138_49, e138_50, e138_53, e138_56, e138_57, e138_58, e138_60, e138_63, e138_64, e138_67, e138_68, e138_69, e138_71, e138_72, e138_75, e138_76, e138_77, e138_79, e138_80, e138_83, e138_86, e138_89, lk, lset, ldel, lset2, ldel2, cat2, gI_int, gA_ref, gA_null, gV_some, gC_some, gL_long, Option.toList, List.cons_append, List.nil_append, List.length_cons, List.length_nil, Nat.reduceEqDiff, Nat.reduceAdd, Nat.reduceSub, Nat.reduceLeDiff, Nat.reduceLT, nb0, nb1, reduceIte, reduceCtorEq, and_false, and_true, false_and, true_and, if_true, if_false, Bool.false_eq_true, eq_self, not_true_eq_false, not_false_eq_true, mput_same, mput_mput, fset_same, a310_0 hz, a310_1 hz, a310_2 hz, a310_3 hz, a310_4 hz, a310_5 hz, a310_6 hz, a310_7 hz, k309 hz, g309_0 hz, ite_not, Classical.not_not, true_or, false_or, or_true, or_false, or_self, and_self, not_or, mput_self, bI_0, hc.2.2.2.2.1, g, nI_1, ih1, m_of4 hz hi2, m_mIsLent hz hi2, m_goesHome hz hi2, h1, h2]
      · simp only [h1, h2, and_false, if_true, if_false] at ih1 ⊢
        simp only [e138_0, e138_1, e138_3, e138_4, e138_7, e138_8, e138_9, e138_12, e138_13, e138_14, e138_15, e138_18, e138_19, e138_22, e138_23, e138_24, e138_27, e138_30, e138_31, e138_32, e138_35, e138_38, e138_39, e138_40, e138_41, e138_44, e138_45, e138_48, e138_49, e138_50, e138_53, e138_56, e138_57, e138_58, e138_60, e138_63, e138_64, e138_67, e138_68, e138_69, e138_71, e138_72, e138_75, e138_76, e138_77, e138_79, e138_80, e138_83, e138_86, e138_89, lk, lset, ldel, lset2, ldel2, cat2, gI_int, gA_ref, gA_null, gV_some, gC_some, gL_long, Option.toList, List.cons_append, List.nil_append, List.length_cons, List.length_nil, Nat.reduceEqDiff, Nat.reduceAdd, Nat.reduceSub, Nat.reduceLeDiff, Nat.reduceLT, nb0, nb1, reduceIte, reduceCtorEq, and_false, and_true, false_and, true_and, if_true, if_false, Bool.false_eq_true, eq_self, not_true_eq_false, not_false_eq_true, mput_same, mput_mput, fset_same, a310_0 hz, a310_1 hz, a310_2 hz, a310_3 hz, a310_4 hz, a310_5 hz, a310_6 hz, a310_7 hz, k309 hz, g309_0 hz, ite_not, Classical.not_not, true_or, false_or, or_true, or_false, or_self, and_self, not_or, mput_self, bI_0, hc.2.2.2.2.1, g, nI_1, ih1, m_of4 hz hi2, m_mIsLent hz hi2, m_goesFree hz hi2, h1, h2]
    · by_cases h3 : F (58 + 10 * i + 7) = c
      · simp only [h1, h3, false_and, if_true, if_false] at ih1 ⊢
        unfold loseF at ih1 ⊢
        simp only [e138_0, e138_1, e138_3, e138_4, e138_7, e138_8, e138_9, e138_12, e138_13, e138_14, e138_15, e138_18, e138_19, e138_22, e138_23, e138_24, e138_27, e138_30, e138_31, e138_32, e138_35, e138_38, e138_39, e138_40, e138_41, e138_44, e138_45, e138_48, e138_49, e138_50, e138_53, e138_56, e138_57, e138_58, e138_60, e138_63, e138_64, e138_67, e138_68, e138_69, e138_71, e138_72, e138_75, e138_76, e138_77, e138_79, e138_80, e138_83, e138_86, e138_89, lk, lset, ldel, lset2, ldel2, cat2, gI_int, gA_ref, gA_null, gV_some, gC_some, gL_long, Option.toList, List.cons_append, List.nil_append, List.length_cons, List.length_nil, Nat.reduceEqDiff, Nat.reduceAdd, Nat.reduceSub, Nat.reduceLeDiff, Nat.reduceLT, nb0, nb1, reduceIte, reduceCtorEq, and_false, and_true, false_and, true_and, if_true, if_false, Bool.false_eq_true, eq_self, not_true_eq_false, not_false_eq_true, mput_same, mput_mput, fset_same, a310_0 hz, a310_1 hz, a310_2 hz, a310_3 hz, a310_4 hz, a310_5 hz, a310_6 hz, a310_7 hz, k309 hz, g309_0 hz, ite_not, Classical.not_not, true_or, false_or, or_true, or_false, or_self, and_self, not_or, mput_self, bI_0, hc.2.2.2.2.1, g, nI_1, ih1, m_of4 hz hi2, m_of7 hz hi2, m_sets7 hz hi2, m_sets8 hz hi2, h1, h3]
      · simp only [h1, h3, false_and, if_false] at ih1 ⊢
        simp only [e138_0, e138_1, e138_3, e138_4, e138_7, e138_8, e138_9, e138_12, e138_13, e138_14, e138_15, e138_18, e138_19, e138_22, e138_23, e138_24, e138_27, e138_30, e138_31, e138_32, e138_35, e138_38, e138_39, e138_40, e138_41, e138_44, e138_45, e138_48, e138_49, e138_50, e138_53, e138_56, e138_57, e138_58, e138_60, e138_63, e138_64, e138_67, e138_68, e138_69, e138_71, e138_72, e138_75, e138_76, e138_77, e138_79, e138_80, e138_83, e138_86, e138_89, lk, lset, ldel, lset2, ldel2, cat2, gI_int, gA_ref, gA_null, gV_some, gC_some, gL_long, Option.toList, List.cons_append, List.nil_append, List.length_cons, List.length_nil, Nat.reduceEqDiff, Nat.reduceAdd, Nat.reduceSub, Nat.reduceLeDiff, Nat.reduceLT, nb0, nb1, reduceIte, reduceCtorEq, and_false, and_true, false_and, true_and, if_true, if_false, Bool.false_eq_true, eq_self, not_true_eq_false, not_false_eq_true, mput_same, mput_mput, fset_same, a310_0 hz, a310_1 hz, a310_2 hz, a310_3 hz, a310_4 hz, a310_5 hz, a310_6 hz, a310_7 hz, k309 hz, g309_0 hz, ite_not, Classical.not_not, true_or, false_or, or_true, or_false, or_self, and_self, not_or, mput_self, bI_0, hc.2.2.2.2.1, g, nI_1, ih1, m_of4 hz hi2, m_of7 hz hi2, h1, h3]
theorem m_leaves (hz : zok z) (hc : cnt (M (z.1 + 310)) nc nh np) {c : Int32} : run (d + 4) 138 [.ref (z.1 + 309), .int c] (wld z M p) = some (none, wld z (mput M (z.1 + 310) (mlvR (M (z.1 + 310)) c 0 np)) p) := by
  have e := fun rest => l_leaves (d := d) (M := M) (p := p) hz (c := c) np 0 (M (z.1 + 310)) hc (by omega) rest
  rw [show nI 0 = 0 from nI_0, mput_self] at e
  rw [r138]
  simp only [e138_0, e138_1, e138_3, e138_4, e138_7, e138_8, e138_9, e138_12, e138_13, e138_14, e138_15, e138_18, e138_19, e138_22, e138_23, e138_24, e138_27, e138_30, e138_31, e138_32, e138_35, e138_38, e138_39, e138_40, e138_41, e138_44, e138_45, e138_48, e138_49, e138_50, e138_53, e138_56, e138_57, e138_58, e138_60, e138_63, e138_64, e138_67, e138_68, e138_69, e138_71, e138_72, e138_75, e138_76, e138_77, e138_79, e138_80, e138_83, e138_86, e138_89, lk, lset, ldel, lset2, ldel2, cat2, gI_int, gA_ref, gA_null, gV_some, gC_some, gL_long, Option.toList, List.cons_append, List.nil_append, List.length_cons, List.length_nil, Nat.reduceEqDiff, Nat.reduceAdd, Nat.reduceSub, Nat.reduceLeDiff, Nat.reduceLT, nb0, nb1, reduceIte, reduceCtorEq, and_false, and_true, false_and, true_and, if_true, if_false, Bool.false_eq_true, eq_self, not_true_eq_false, not_false_eq_true, e]
/-- places from j on, k of them, take what stands four behind -/
def dnF (F : Nat → Int32) (j k : Nat) : Nat → Int32 := fun y => if j ≤ y ∧ y < j + k then F (y + 4) else F y
theorem dnF_0 {F : Nat → Int32} {j : Nat} : dnF F j 0 = F := by
  funext y
  unfold dnF
  rw [if_neg (by omega)]
theorem dnF_step {F : Nat → Int32} {j k : Nat} : dnF (fset F j (F (j + 4))) (j + 1) k = dnF F j (k + 1) := by
  funext y
  unfold dnF
  by_cases h1 : j + 1 ≤ y ∧ y < j + 1 + k
  · rw [if_pos h1, fset_ne (by omega), if_pos (by omega)]
  · rw [if_neg h1]
    by_cases h2 : y = j
    · subst h2; rw [fset_same, if_pos (by omega)]
    · rw [fset_ne h2, if_neg (by omega)]
theorem l_down (hz : zok z) {c x : Int32} {n : Nat} (hn : n ≤ 10) {Y : Option xR} : ∀ (k j : Nat) (F : Nat → Int32), F 1 = nI n → j + k = 18 + 4 * n → 18 ≤ j → ∀ (rest : List (Nat × Value)), (∀ (y : Int32) (rest : List (Nat × Value)), X (d + 3) 139 95 ((0, .ref (z.1 + 309)) :: (1, .int c) :: (2, .int x) :: (3, .int y) :: rest) [] (wld z (mput M (z.1 + 310) (dnF F j k)) p) = Y) → X (d + 3) 139 60 ((0, .ref (z.1 + 309)) :: (1, .int c) :: (2, .int x) :: (3, .int (nI j)) :: rest) [] (wld z (mput M (z.1 + 310) F) p) = Y := by
  intro k
  have e18 : (18 : Int32) + 4 * nI n = nI (18 + 4 * n) := by
    rw [show (18 : Int32) = nI 18 from by decide +kernel, show (4 : Int32) = nI 4 from by decide +kernel, pk_mul, nI_add]
  induction k with
  | zero =>
    intro j F hF hi hj rest hY
    have g := nI_stop (n := 18 + 4 * n) (i := j) (by omega) (by omega)
    rw [dnF_0] at hY
    rw [e139_60]
    simp only [e139_61, e139_63, e139_64, e139_65, e139_68, e139_69, e139_70, e139_71, e139_72, e139_75, e139_76, e139_79, e139_80, e139_81, e139_84, e139_85, e139_86, e139_87, e139_88, e139_89, e139_92, lk, lset, ldel, lset2, ldel2, cat2, gI_int, gA_ref, gA_null, gV_some, gC_some, gL_long, Option.toList, List.cons_append, List.nil_append, List.length_cons, List.length_nil, Nat.reduceEqDiff, Nat.reduceAdd, Nat.reduceSub, Nat.reduceLeDiff, Nat.reduceLT, nb0, nb1, reduceIte, reduceCtorEq, and_false, and_true, false_and, true_and, if_true, if_false, Bool.false_eq_true, eq_self, not_true_eq_false, not_false_eq_true, mput_same, mput_mput, fset_same, a310_0 hz, a310_1 hz, a310_2 hz, a310_3 hz, a310_4 hz, a310_5 hz, a310_6 hz, a310_7 hz, k309 hz, g309_0 hz, hF, e18, g, hY]
  | succ k ih =>
    intro j F hF hi hj rest hY
    have g := nI_goon (i := j) (n := 18 + 4 * n) (by omega) (by omega)
    have e4 : nI j + 4 = nI (j + 4) := by rw [show (4 : Int32) = nI 4 from by decide +kernel, nI_add]
    have ih1 := fun rest => ih (j + 1) (fset F j (F (j + 4))) (by rw [fset_ne (by omega)]; exact hF) (by omega) (by omega) rest (by rw [dnF_step]; exact hY)
    rw [e139_60]
    simp only [e139_61, e139_63, e139_64, e139_65, e139_68, e139_69, e139_70, e139_71, e139_72, e139_75, e139_76, e139_79, e139_80, e139_81, e139_84, e139_85, e139_86, e139_87, e139_88, e139_89, e139_92, lk, lset, ldel, lset2, ldel2, cat2, gI_int, gA_ref, gA_null, gV_some, gC_some, gL_long, Option.toList, List.cons_append, List.nil_append, List.length_cons, List.length_nil, Nat.reduceEqDiff, Nat.reduceAdd, Nat.reduceSub, Nat.reduceLeDiff, Nat.reduceLT, nb0, nb1, reduceIte, reduceCtorEq, and_false, and_true, false_and, true_and, if_true, if_false, Bool.false_eq_true, eq_self, not_true_eq_false, not_false_eq_true, mput_same, mput_mput, fset_same, a310_0 hz, a310_1 hz, a310_2 hz, a310_3 hz, a310_4 hz, a310_5 hz, a310_6 hz, a310_7 hz, k309 hz, g309_0 hz, hF, e18, g, nI_1, e4, a310 hz (show j + 4 < 298 by omega), s310 hz (show j < 298 by omega), ih1]
def mgpF (F : Nat → Int32) (i : Nat) (c : Int32) : Nat → Int32 :=
  fset (fset F (58 + 10 * i + 4) (if F (58 + 10 * i + 4) ≤ c then F (58 + 10 * i + 4) else F (58 + 10 * i + 4) - 1)) (58 + 10 * i + 7) (if F (58 + 10 * i + 7) ≤ c then F (58 + 10 * i + 7) else F (58 + 10 * i + 7) - 1)
theorem mgpF_low {F : Nat → Int32} {i j : Nat} {c : Int32} (hj : j < 58) : mgpF F i c j = F j := by
  unfold mgpF
  rw [fset_ne (by omega), fset_ne (by omega)]
def mgpR (F : Nat → Int32) (c : Int32) : Nat → Nat → Nat → Int32
  | _, 0 => F
  | i, k + 1 => mgpR (mgpF F i c) c (i + 1) k
theorem l_gaps (hz : zok z) {c x : Int32} {n : Nat} (hn : n ≤ 24) : ∀ (k i : Nat) (F : Nat → Int32), F 2 = nI n → i + k = n → ∀ (rest : List (Nat × Value)), X (d + 3) 139 97 ((0, .ref (z.1 + 309)) :: (1, .int c) :: (2, .int x) :: (3, .int (nI i)) :: rest) [] (wld z (mput M (z.1 + 310) F) p) = some (some (.int x), wld z (mput M (z.1 + 310) (mgpR F c i k)) p) := by
  intro k
  induction k with
  | zero =>
    intro i F hF hi rest
    have g := nI_stop (n := n) (i := i) (by omega) (by omega)
    rw [e139_97]
    simp only [e139_98, e139_99, e139_102, e139_103, e139_104, e139_107, e139_108, e139_109, e139_110, e139_111, e139_112, e139_113, e139_116, e139_117, e139_120, e139_121, e139_122, e139_123, e139_126, e139_127, e139_128, e139_131, e139_132, e139_133, e139_134, e139_137, e139_140, e139_141, e139_142, e139_144, e139_145, e139_146, e139_148, e139_151, e139_152, e139_155, e139_156, e139_157, e139_159, e139_162, e139_163, e139_164, e139_167, e139_168, e139_169, e139_171, e139_174, e139_177, e139_180, e139_183, e139_184, lk, lset, ldel, lset2, ldel2, cat2, gI_int, gA_ref, gA_null, gV_some, gC_some, gL_long, Option.toList, List.cons_append, List.nil_append, List.length_cons, List.length_nil, Nat.reduceEqDiff, Nat.reduceAdd, Nat.reduceSub, Nat.reduceLeDiff, Nat.reduceLT, nb0, nb1, reduceIte, reduceCtorEq, and_false, and_true, false_and, true_and, if_true, if_false, Bool.false_eq_true, eq_self, not_true_eq_false, not_false_eq_true, mput_same, mput_mput, fset_same, a310_0 hz, a310_1 hz, a310_2 hz, a310_3 hz, a310_4 hz, a310_5 hz, a310_6 hz, a310_7 hz, k309 hz, g309_0 hz, hF, g, mgpR]
  | succ k ih =>
    intro i F hF hi rest
    have g := nI_goon (i := i) (n := n) (by omega) (by omega)
    have hi2 : i < 24 := by omega
    have ih1 := fun rest => ih (i + 1) (mgpF F i c) (by rw [mgpF_low (by omega)]; exact hF) (by omega) rest
    have n74 : 58 + 10 * i + 7 ≠ 58 + 10 * i + 4 := by omega
    rw [e139_97]
    simp only [mgpR]
    unfold mgpF at ih1 ⊢
    by_cases h1 : F (58 + 10 * i + 4) ≤ c <;> by_cases h2 : F (58 + 10 * i + 7) ≤ c <;>
      (simp only [h1, h2, if_true, if_false] at ih1 ⊢
       simp only [e139_98, e139_99, e139_102, e139_103, e139_104, e139_107, e139_108, e139_109, e139_110, e139_111, e139_112, e139_113, e139_116, e139_117, e139_120, e139_121, e139_122, e139_123, e139_126, e139_127, e139_128, e139_131, e139_132, e139_133, e139_134, e139_137, e139_140, e139_141, e139_142, e139_144, e139_145, e139_146, e139_148, e139_151, e139_152, e139_155, e139_156, e139_157, e139_159, e139_162, e139_163, e139_164, e139_167, e139_168, e139_169, e139_171, e139_174, e139_177, e139_180, e139_183, e139_184, lk, lset, ldel, lset2, ldel2, cat2, gI_int, gA_ref, gA_null, gV_some, gC_some, gL_long, Option.toList, List.cons_append, List.nil_append, List.length_cons, List.length_nil, Nat.reduceEqDiff, Nat.reduceAdd, Nat.reduceSub, Nat.reduceLeDiff, Nat.reduceLT, nb0, nb1, reduceIte, reduceCtorEq, and_false, and_true, false_and, true_and, if_true, if_false, Bool.false_eq_true, eq_self, not_true_eq_false, not_false_eq_true, mput_same, mput_mput, fset_same, a310_0 hz, a310_1 hz, a310_2 hz, a310_3 hz, a310_4 hz, a310_5 hz, a310_6 hz, a310_7 hz, k309 hz, g309_0 hz, hF, g, nI_1, m_of4 hz hi2, m_of7 hz hi2, m_sets4 hz hi2, m_sets7 hz hi2, h1, h2, fset_ne n74, ih1])
def mworF (F : Nat → Int32) (i : Nat) : Int32 := F (18 + 4 * i + 2) * (if 0 ≤ lossF F i then lossF F i else 0) / 100
def mbbF (F : Nat → Int32) (nc nh np i : Nat) (o : Nat) : Nat → Int32 :=
  let G := fset (fset F 4 (F 4 - mworF F i)) (8 + 2 * o + 1) (fset F 4 (F 4 - mworF F i) (8 + 2 * o + 1) + mworF F i)
  let G2 := mlvR G (nI i) 0 np
  mgpR (dnF (fset G2 1 (G2 1 - 1)) (18 + 4 * i) (4 * (nh - 1 - i))) (nI i) 0 np
theorem m_buysBack (hz : zok z) (hc : cnt (M (z.1 + 310)) nc nh np) {i o : Nat} (hi : i < nh) (ho : o < nc) (hown : M (z.1 + 310) (18 + 4 * i + 0) = nI o) : run (d + 5) 139 [.ref (z.1 + 309), .int (nI i)] (wld z M p) = some (some (.int (mworF (M (z.1 + 310)) i)), wld z (mput M (z.1 + 310) (mbbF (M (z.1 + 310)) nc nh np i o)) p) := by
  sorry
end MB
