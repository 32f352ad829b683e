/-! a chapter bought back, a chapter sold -/
section BK
variable {z : Zt} {S T d : Nat} {M : Nat → Nat → Int32} {p : Nat → Nat} {nc nh np : Nat}
def clrF (F : Nat → Int32) (i : Nat) (c : Int32) : Nat → Int32 :=
  gapF (if F (58 + 10 * i + 4) = c then homeF F i else if F (58 + 10 * i + 7) = c then loseF F i else F) i c
theorem m_clearOut (h : isS z S) {i : Nat} (hi : i < 24) {c : Int32} : run (d + 3) 49 [.ref S, .ref (phA S i), .int c] (wld z M p) = some (none, wld z (mput M S (clrF (M S) i c)) p) := by
  rw [r49]
  unfold clrF
  by_cases h1 : M S (58 + 10 * i + 4) = c
  · simp only [e49_0, e49_1, e49_4, e49_5, e49_8, e49_9, e49_12, e49_15, e49_16, e49_19, e49_20, e49_23, e49_24, e49_27, e49_28, e49_29, e49_32, lk, lset, ldel, lset2, ldel2, cat2, gI_int, gA_ref, gA_null, gV_some, gC_some, gL_long, Option.toList, List.cons_append, List.nil_append, List.length_cons, List.length_nil, Nat.reduceEqDiff, Nat.reduceAdd, Nat.reduceSub, Nat.reduceLeDiff, Nat.reduceLT, nb0, nb1, reduceIte, reduceCtorEq, and_false, and_true, false_and, true_and, if_true, if_false, Bool.false_eq_true, eq_self, not_true_eq_false, not_false_eq_true, mput_same, mput_mput, fset_same, ite_not, Classical.not_not, true_or, false_or, or_true, or_false, or_self, and_self, not_or, mput_self, bI_0, k_ph h hi, g_ph h hi, m_goHome h hi, m_closeGap h hi, h1]
  · by_cases h2 : M S (58 + 10 * i + 7) = c
    · simp only [e49_0, e49_1, e49_4, e49_5, e49_8, e49_9, e49_12, e49_15, e49_16, e49_19, e49_20, e49_23, e49_24, e49_27, e49_28, e49_29, e49_32, lk, lset, ldel, lset2, ldel2, cat2, gI_int, gA_ref, gA_null, gV_some, gC_some, gL_long, Option.toList, List.cons_append, List.nil_append, List.length_cons, List.length_nil, Nat.reduceEqDiff, Nat.reduceAdd, Nat.reduceSub, Nat.reduceLeDiff, Nat.reduceLT, nb0, nb1, reduceIte, reduceCtorEq, and_false, and_true, false_and, true_and, if_true, if_false, Bool.false_eq_true, eq_self, not_true_eq_false, not_false_eq_true, mput_same, mput_mput, fset_same, ite_not, Classical.not_not, true_or, false_or, or_true, or_false, or_self, and_self, not_or, mput_self, bI_0, k_ph h hi, g_ph h hi, m_loseHome h hi, m_closeGap h hi, h1, h2]
    · simp only [e49_0, e49_1, e49_4, e49_5, e49_8, e49_9, e49_12, e49_15, e49_16, e49_19, e49_20, e49_23, e49_24, e49_27, e49_28, e49_29, e49_32, lk, lset, ldel, lset2, ldel2, cat2, gI_int, gA_ref, gA_null, gV_some, gC_some, gL_long, Option.toList, List.cons_append, List.nil_append, List.length_cons, List.length_nil, Nat.reduceEqDiff, Nat.reduceAdd, Nat.reduceSub, Nat.reduceLeDiff, Nat.reduceLT, nb0, nb1, reduceIte, reduceCtorEq, and_false, and_true, false_and, true_and, if_true, if_false, Bool.false_eq_true, eq_self, not_true_eq_false, not_false_eq_true, mput_same, mput_mput, fset_same, ite_not, Classical.not_not, true_or, false_or, or_true, or_false, or_self, and_self, not_or, mput_self, bI_0, k_ph h hi, g_ph h hi, m_closeGap h hi, h1, h2]
theorem loseF_low {F : Nat → Int32} {i j : Nat} (hj : j < 58) : loseF F i j = F j := by
  unfold loseF
  rw [fset_ne (by omega), fset_ne (by omega)]
theorem gapF_low {F : Nat → Int32} {i j : Nat} {c : Int32} (hj : j < 58) : gapF F i c j = F j := by
  unfold gapF
  split
  · split
    · rfl
    · exact fset_ne (by omega)
  · rw [fset_ne (by omega)]
    split
    · rfl
    · exact fset_ne (by omega)
theorem clrF_low {F : Nat → Int32} {i j : Nat} {c : Int32} (hj : j < 58) : clrF F i c j = F j := by
  unfold clrF
  rw [gapF_low hj]
  split
  · exact homeF_low hj
  · split
    · exact loseF_low hj
    · rfl
theorem clrF_cnt {F : Nat → Int32} {i : Nat} {c : Int32} (hc : cnt F nc nh np) : cnt (clrF F i c) nc nh np := by
  unfold cnt
  rw [clrF_low (by omega), clrF_low (by omega), clrF_low (by omega)]
  exact hc
def clrR (F : Nat → Int32) (c : Int32) : Nat → Nat → Nat → Int32
  | _, 0 => F
  | i, k + 1 => clrR (clrF F i c) c (i + 1) k
theorem clrR_low {c : Int32} {j : Nat} (hj : j < 58) : ∀ {k i : Nat} {F : Nat → Int32}, clrR F c i k j = F j := by
  intro k
  induction k with
  | zero => intro i F; rfl
  | succ k ih => intro i F; rw [clrR, ih, clrF_low hj]
theorem l_clear (h : isS z S) {c x : Int32} {a : Nat} {Y : Option xR} : ∀ (k i : Nat) (F : Nat → Int32), cnt F nc nh np → i + k = np → ∀ (rest : List (Nat × Value)), (∀ (y : Int32) (rest : List (Nat × Value)), X (d + 3) 48 59 ((0, .ref S) :: (1, .int c) :: (2, .ref a) :: (3, .int x) :: (4, .int y) :: rest) [] (wld z (mput M S (clrR F c i k)) p) = Y) → X (d + 3) 48 32 ((0, .ref S) :: (1, .int c) :: (2, .ref a) :: (3, .int x) :: (4, .int (nI i)) :: rest) [] (wld z (mput M S F) p) = Y := by
  intro k
  induction k with
  | zero =>
    intro i F hc hi rest hY
    have hle := hc.2.2.2.2.2
    have g := nI_stop (n := np) (i := i) (by omega) (by omega)
    rw [clrR] at hY
    rw [e48_32]
    simp only [e48_34, e48_35, e48_38, e48_41, e48_42, e48_43, e48_46, e48_48, e48_49, e48_50, e48_53, e48_56, lk, lset, ldel, lset2, ldel2, cat2, gI_int, gA_ref, gA_null, gV_some, gC_some, gL_long, Option.toList, List.cons_append, List.nil_append, List.length_cons, List.length_nil, Nat.reduceEqDiff, Nat.reduceAdd, Nat.reduceSub, Nat.reduceLeDiff, Nat.reduceLT, nb0, nb1, reduceIte, reduceCtorEq, and_false, and_true, false_and, true_and, if_true, if_false, Bool.false_eq_true, eq_self, not_true_eq_false, not_false_eq_true, mput_same, mput_mput, fset_same, g_stk h, Nat.le_refl, hc.2.2.2.2.1, g, hY]
  | succ k ih =>
    intro i F hc hi rest hY
    have hle := hc.2.2.2.2.2
    have g := nI_goon (i := i) (n := np) (by omega) (by omega)
    have hi2 : i < 24 := by omega
    have ih1 := fun rest => ih (i + 1) (clrF F i c) (clrF_cnt hc) (by omega) rest hY
    rw [e48_32]
    simp only [e48_34, e48_35, e48_38, e48_41, e48_42, e48_43, e48_46, e48_48, e48_49, e48_50, e48_53, e48_56, lk, lset, ldel, lset2, ldel2, cat2, gI_int, gA_ref, gA_null, gV_some, gC_some, gL_long, Option.toList, List.cons_append, List.nil_append, List.length_cons, List.length_nil, Nat.reduceEqDiff, Nat.reduceAdd, Nat.reduceSub, Nat.reduceLeDiff, Nat.reduceLT, nb0, nb1, reduceIte, reduceCtorEq, and_false, and_true, false_and, true_and, if_true, if_false, Bool.false_eq_true, eq_self, not_true_eq_false, not_false_eq_true, mput_same, mput_mput, fset_same, g_stk h, g_st2 h, Nat.le_refl, hc.2.2.2.2.1, g, nI_1, a_ph h hi2, k_st h, m_clearOut h hi2, ih1]
/-- rows of 4 from 18 on come down by one: those from j on, k of them -/
def shF (F : Nat → Int32) (j k : Nat) : Nat → Int32 := fun y => if 18 + 4 * j ≤ y ∧ y < 18 + 4 * (j + k) then F (y + 4) else F y
theorem shF_0 {F : Nat → Int32} {j : Nat} : shF F j 0 = F := by
  funext y
  unfold shF
  rw [if_neg (by omega)]
theorem shF_step {F : Nat → Int32} {j k : Nat} : shF (rowF F F (18 + 4 * j) (18 + 4 * (j + 1)) 4) (j + 1) k = shF F j (k + 1) := by
  funext y
  unfold shF
  rw [rowF_at, rowF_at]
  by_cases h1 : 18 + 4 * (j + 1) ≤ y ∧ y < 18 + 4 * (j + 1 + k)
  · rw [if_pos h1, if_neg (by omega), if_pos (by omega)]
  · rw [if_neg h1]
    by_cases h2 : 18 + 4 * j ≤ y ∧ y < 18 + 4 * j + 4
    · rw [if_pos h2, if_pos (by omega), show 18 + 4 * (j + 1) + (y - (18 + 4 * j)) = y + 4 by omega]
    · rw [if_neg h2, if_neg (by omega)]
theorem l_shift (h : isS z S) {c x : Int32} {a : Nat} {n : Nat} (hn : n ≤ 10) {Y : Option xR} : ∀ (k j : Nat) (F : Nat → Int32), F 1 = nI n → j + 1 + k = n → ∀ (rest : List (Nat × Value)), (∀ (y : Int32) (rest : List (Nat × Value)), X (d + 3) 48 98 ((0, .ref S) :: (1, .int c) :: (2, .ref a) :: (3, .int x) :: (4, .int y) :: rest) [] (wld z (mput M S (shF F j k)) p) = Y) → X (d + 3) 48 64 ((0, .ref S) :: (1, .int c) :: (2, .ref a) :: (3, .int x) :: (4, .int (nI (j + 1))) :: rest) [] (wld z (mput M S F) p) = Y := by
  intro k
  induction k with
  | zero =>
    intro j F hF hi rest hY
    have g := nI_stop (n := n) (i := j + 1) (by omega) (by omega)
    rw [shF_0] at hY
    rw [e48_64]
    simp only [e48_66, e48_67, e48_70, e48_73, e48_74, e48_77, e48_79, e48_80, e48_81, e48_82, e48_83, e48_86, e48_88, e48_89, e48_92, e48_95, lk, lset, ldel, lset2, ldel2, cat2, gI_int, gA_ref, gA_null, gV_some, gC_some, gL_long, Option.toList, List.cons_append, List.nil_append, List.length_cons, List.length_nil, Nat.reduceEqDiff, Nat.reduceAdd, Nat.reduceSub, Nat.reduceLeDiff, Nat.reduceLT, nb0, nb1, reduceIte, reduceCtorEq, and_false, and_true, false_and, true_and, if_true, if_false, Bool.false_eq_true, eq_self, not_true_eq_false, not_false_eq_true, mput_same, mput_mput, fset_same, g_stk h, Nat.le_refl, hF, g, hY]
  | succ k ih =>
    intro j F hF hi rest hY
    have g := nI_goon (i := j + 1) (n := n) (by omega) (by omega)
    have ih1 := fun rest => ih (j + 1) (rowF F F (18 + 4 * j) (18 + 4 * (j + 1)) 4) (by rw [rowF_at, if_neg (by omega)]; exact hF) (by omega) rest (by rw [shF_step]; exact hY)
    rw [e48_64]
    simp only [e48_66, e48_67, e48_70, e48_73, e48_74, e48_77, e48_79, e48_80, e48_81, e48_82, e48_83, e48_86, e48_88, e48_89, e48_92, e48_95, lk, lset, ldel, lset2, ldel2, cat2, gI_int, gA_ref, gA_null, gV_some, gC_some, gL_long, Option.toList, List.cons_append, List.nil_append, List.length_cons, List.length_nil, Nat.reduceEqDiff, Nat.reduceAdd, Nat.reduceSub, Nat.reduceLeDiff, Nat.reduceLT, nb0, nb1, reduceIte, reduceCtorEq, and_false, and_true, false_and, true_and, if_true, if_false, Bool.false_eq_true, eq_self, not_true_eq_false, not_false_eq_true, mput_same, mput_mput, fset_same, g_stk h, g_st1 h, Nat.le_refl, hF, g, nI_1, nI_pred, a_ch h (show j < 10 by omega), a_ch h (show j + 1 < 10 by omega), k_ch h (show j < 10 by omega), m_chCopyS h (show j < 10 by omega) (show j + 1 < 10 by omega) (show j ≠ j + 1 by omega), ih1]
def tkF (F : Nat → Int32) (nh np i : Nat) : Nat → Int32 :=
  fset (shF (clrR (payF F (-1) (F (18 + 4 * i + 0)) (worF F i)) (nI i) 0 np) i (nh - 1 - i)) 1 (F 1 - 1)
theorem m_takeBack (h : isS z S) (hc : cnt (M S) nc nh np) {i : Nat} (hi : i < nh) : run (d + 4) 48 [.ref S, .int (nI i)] (wld z M p) = some (some (.int (worF (M S) i)), wld z (mput M S (tkF (M S) nh np i)) p) := by
  rw [r48]
  have hh := hc.2.2.2.1
  have hi2 : i < 10 := by omega
  have s1 : ∀ (y : Int32) (rest : List (Nat × Value)), X (d + 3) 48 98 ((0, .ref S) :: (1, .int (nI i)) :: (2, .ref (chA S i)) :: (3, .int (worF (M S) i)) :: (4, .int y) :: rest) [] (wld z (mput M S (shF (clrR (payF (M S) (-1) (M S (18 + 4 * i + 0)) (worF (M S) i)) (nI i) 0 np) i (nh - 1 - i))) p) = some (some (.int (worF (M S) i)), wld z (mput M S (tkF (M S) nh np i)) p) := by
    intro y rest
    have e1 : shF (clrR (payF (M S) (-1) (M S (18 + 4 * i + 0)) (worF (M S) i)) (nI i) 0 np) i (nh - 1 - i) 1 = M S 1 := by
      unfold shF
      rw [if_neg (by omega), clrR_low (by omega), payF_low (by omega)]
    simp only [e48_98, e48_99, e48_99a, e48_100, e48_103, e48_104, e48_105, e48_108, e48_109, lk, lset, ldel, lset2, ldel2, cat2, gI_int, gA_ref, gA_null, gV_some, gC_some, gL_long, Option.toList, List.cons_append, List.nil_append, List.length_cons, List.length_nil, Nat.reduceEqDiff, Nat.reduceAdd, Nat.reduceSub, Nat.reduceLeDiff, Nat.reduceLT, nb0, nb1, reduceIte, reduceCtorEq, and_false, and_true, false_and, true_and, if_true, if_false, Bool.false_eq_true, eq_self, not_true_eq_false, not_false_eq_true, mput_same, mput_mput, fset_same, g_stk h, p_stk h, Nat.le_refl, e1]
    rfl
  have s2 := l_shift (d := d) (M := M) (p := p) h (c := nI i) (x := worF (M S) i) (a := chA S i) hh (Y := some (some (.int (worF (M S) i)), wld z (mput M S (tkF (M S) nh np i)) p)) (nh - 1 - i) i (clrR (payF (M S) (-1) (M S (18 + 4 * i + 0)) (worF (M S) i)) (nI i) 0 np) (by rw [clrR_low (by omega), payF_low (by omega)]; exact hc.2.2.1) (by omega)
  have s3 : ∀ (y : Int32) (rest : List (Nat × Value)), X (d + 3) 48 59 ((0, .ref S) :: (1, .int (nI i)) :: (2, .ref (chA S i)) :: (3, .int (worF (M S) i)) :: (4, .int y) :: rest) [] (wld z (mput M S (clrR (payF (M S) (-1) (M S (18 + 4 * i + 0)) (worF (M S) i)) (nI i) 0 np)) p) = some (some (.int (worF (M S) i)), wld z (mput M S (tkF (M S) nh np i)) p) := by
    intro y rest
    simp only [e48_59, e48_60, e48_61, e48_62, lk, lset, ldel, lset2, ldel2, cat2, gI_int, gA_ref, gA_null, gV_some, gC_some, gL_long, Option.toList, List.cons_append, List.nil_append, List.length_cons, List.length_nil, Nat.reduceEqDiff, Nat.reduceAdd, Nat.reduceSub, Nat.reduceLeDiff, Nat.reduceLT, nb0, nb1, reduceIte, reduceCtorEq, and_false, and_true, false_and, true_and, if_true, if_false, Bool.false_eq_true, eq_self, not_true_eq_false, not_false_eq_true, nI_1]
    exact s2 _ s1
  have s4 := l_clear (d := d) (M := M) (p := p) h (c := nI i) (x := worF (M S) i) (a := chA S i) (Y := some (some (.int (worF (M S) i)), wld z (mput M S (tkF (M S) nh np i)) p)) np 0 (payF (M S) (-1) (M S (18 + 4 * i + 0)) (worF (M S) i)) (payF_cnt hc) (by omega)
  simp only [e48_0, e48_1, e48_2, e48_5, e48_6, e48_7, e48_7n, e48_10, e48_12, e48_13, e48_14, e48_15, e48_18, e48_19, e48_20, e48_21, e48_22, e48_25, e48_26, e48_29, e48_30, lk, lset, ldel, lset2, ldel2, cat2, gI_int, gA_ref, gA_null, gV_some, gC_some, gL_long, Option.toList, List.cons_append, List.nil_append, List.length_cons, List.length_nil, Nat.reduceEqDiff, Nat.reduceAdd, Nat.reduceSub, Nat.reduceLeDiff, Nat.reduceLT, nb0, nb1, reduceIte, reduceCtorEq, and_false, and_true, false_and, true_and, if_true, if_false, Bool.false_eq_true, eq_self, not_true_eq_false, not_false_eq_true, lk_same, lk_same2, lk_k1, lk_k1r, lk_ldN, ne_eq, k_st h, m_chapterAt h hc hi, m_worthOf h hi2, g_ch h hi2, m_pay h hc]
  exact s4 [] s3
theorem m_takeBackNo (h : isS z S) {c : Int32} (hn : ¬ (0 ≤ c ∧ c < M S 1)) : run (d + 4) 48 [.ref S, .int c] (wld z M p) = some (some (.int (-100001)), wld z M p) := by
  rw [r48]
  simp only [e48_0, e48_1, e48_2, e48_5, e48_6, e48_7, e48_7n, e48_10, e48_12, lk, lset, ldel, lset2, ldel2, cat2, gI_int, gA_ref, gA_null, gV_some, gC_some, gL_long, Option.toList, List.cons_append, List.nil_append, List.length_cons, List.length_nil, Nat.reduceEqDiff, Nat.reduceAdd, Nat.reduceSub, Nat.reduceLeDiff, Nat.reduceLT, nb0, nb1, reduceIte, reduceCtorEq, and_false, and_true, false_and, true_and, if_true, if_false, Bool.false_eq_true, eq_self, not_true_eq_false, not_false_eq_true, k_st h, m_chapterNo h hn]
def slF (F : Nat → Int32) (i ci : Nat) (x : Int32) : Nat → Int32 := fset (fset (fset (payF F (nI ci) (F (18 + 4 * i + 0)) x) (18 + 4 * i + 0) (nI ci)) (18 + 4 * i + 2) x) (18 + 4 * i + 3) (F 3)
def slR (F : Nat → Int32) (np i ci : Nat) (x : Int32) : Int32 × (Nat → Int32) :=
  if ¬ (0 ≤ x ∧ x ≤ 999) then (-100001, F) else if F (18 + 4 * i + 0) = nI ci ∨ ¬ x ≤ purF F (nI ci) then (-100002, F) else (0 + (endR (slF F i ci x) 0 np).2, (endR (slF F i ci x) 0 np).1)
theorem slF_cnt {F : Nat → Int32} {i ci : Nat} {x : Int32} (hc : cnt F nc nh np) : cnt (slF F i ci x) nc nh np := by
  unfold cnt slF
  rw [fset_ne (by omega), fset_ne (by omega), fset_ne (by omega), fset_ne (by omega), fset_ne (by omega), fset_ne (by omega), fset_ne (by omega), fset_ne (by omega), fset_ne (by omega), payF_low (by omega), payF_low (by omega), payF_low (by omega)]
  exact hc
theorem m_sell (h : isS z S) (hc : cnt (M S) nc nh np) {i ci : Nat} (hi : i < nh) (hci : ci < nc) {x : Int32} : run (d + 4) 50 [.ref S, .int (nI i), .int (nI ci), .int x] (wld z M p) = some (some (.int (slR (M S) np i ci x).1), wld z (mput M S (slR (M S) np i ci x).2) p) := by
  rw [r50]
  unfold slR
  have hi2 : i < 10 := by have := hc.2.2.2.1; omega
  by_cases h1 : 0 ≤ x ∧ x ≤ 999
  · by_cases h2 : M S (18 + 4 * i + 0) = nI ci
    · simp only [e50_0, e50_1, e50_2, e50_5, e50_7, e50_9, e50_9n, e50_12, e50_13, e50_14, e50_17, e50_17n, e50_20, e50_21, e50_24, e50_27, e50_29, e50_30, e50_32, e50_35, e50_36, e50_39, e50_40, e50_41, e50_44, e50_45, e50_48, e50_50, e50_51, e50_52, e50_53, e50_55, e50_58, e50_59, e50_62, e50_64, e50_65, e50_68, e50_70, e50_71, e50_74, e50_76, e50_77, e50_80, e50_83, e50_84, e50_87, lk, lset, ldel, lset2, ldel2, cat2, gI_int, gA_ref, gA_null, gV_some, gC_some, gL_long, Option.toList, List.cons_append, List.nil_append, List.length_cons, List.length_nil, Nat.reduceEqDiff, Nat.reduceAdd, Nat.reduceSub, Nat.reduceLeDiff, Nat.reduceLT, nb0, nb1, reduceIte, reduceCtorEq, and_false, and_true, false_and, true_and, if_true, if_false, Bool.false_eq_true, eq_self, not_true_eq_false, not_false_eq_true, mput_same, mput_mput, fset_same, ite_not, Classical.not_not, true_or, false_or, or_true, or_false, or_self, and_self, not_or, mput_self, bI_0, k_st h, m_chapterAt h hc hi, m_clientAt h hc hci, m_isPrice, g_ch h hi2, h1, h2]
    · by_cases h3 : x ≤ purF (M S) (nI ci)
      · have hc2 : cnt (mput M S (slF (M S) i ci x) S) nc nh np := by rw [mput_same]; exact slF_cnt hc
        have e9 := m_endLoans (d := d) (p := p) h hc2
        rw [mput_same, mput_mput] at e9
        simp only [e50_0, e50_1, e50_2, e50_5, e50_7, e50_9, e50_9n, e50_12, e50_13, e50_14, e50_17, e50_17n, e50_20, e50_21, e50_24, e50_27, e50_29, e50_30, e50_32, e50_35, e50_36, e50_39, e50_40, e50_41, e50_44, e50_45, e50_48, e50_50, e50_51, e50_52, e50_53, e50_55, e50_58, e50_59, e50_62, e50_64, e50_65, e50_68, e50_70, e50_71, e50_74, e50_76, e50_77, e50_80, lk, lset, ldel, lset2, ldel2, cat2, gI_int, gA_ref, gA_null, gV_some, gC_some, gL_long, Option.toList, List.cons_append, List.nil_append, List.length_cons, List.length_nil, Nat.reduceEqDiff, Nat.reduceAdd, Nat.reduceSub, Nat.reduceLeDiff, Nat.reduceLT, nb0, nb1, reduceIte, reduceCtorEq, and_false, and_true, false_and, true_and, if_true, if_false, Bool.false_eq_true, eq_self, not_true_eq_false, not_false_eq_true, mput_same, mput_mput, fset_same, ite_not, Classical.not_not, true_or, false_or, or_true, or_false, or_self, and_self, not_or, mput_self, bI_0, k_st h, m_chapterAt h hc hi, m_clientAt h hc hci, m_isPrice, m_purseOf h hc, g_ch h hi2, p_ch h hi2, g_stk h, Nat.le_refl, m_pay h hc, h1, h2, h3]
        rw [fset_ne (i := 3) (by omega), fset_ne (i := 3) (by omega), payF_low (by omega)]
        change X (d + 3) 50 83 _ [] (wld z (mput M S (slF (M S) i ci x)) p) = _
        simp only [e50_83, e50_84, e50_87, lk, lset, ldel, lset2, ldel2, cat2, gI_int, gA_ref, gA_null, gV_some, gC_some, gL_long, Option.toList, List.cons_append, List.nil_append, List.length_cons, List.length_nil, Nat.reduceEqDiff, Nat.reduceAdd, Nat.reduceSub, Nat.reduceLeDiff, Nat.reduceLT, nb0, nb1, reduceIte, reduceCtorEq, and_false, and_true, false_and, true_and, if_true, if_false, Bool.false_eq_true, eq_self, not_true_eq_false, not_false_eq_true, k_st h, e9]
      · simp only [e50_0, e50_1, e50_2, e50_5, e50_7, e50_9, e50_9n, e50_12, e50_13, e50_14, e50_17, e50_17n, e50_20, e50_21, e50_24, e50_27, e50_29, e50_30, e50_32, e50_35, e50_36, e50_39, e50_40, e50_41, e50_44, e50_45, e50_48, e50_50, e50_51, e50_52, e50_53, e50_55, e50_58, e50_59, e50_62, e50_64, e50_65, e50_68, e50_70, e50_71, e50_74, e50_76, e50_77, e50_80, e50_83, e50_84, e50_87, lk, lset, ldel, lset2, ldel2, cat2, gI_int, gA_ref, gA_null, gV_some, gC_some, gL_long, Option.toList, List.cons_append, List.nil_append, List.length_cons, List.length_nil, Nat.reduceEqDiff, Nat.reduceAdd, Nat.reduceSub, Nat.reduceLeDiff, Nat.reduceLT, nb0, nb1, reduceIte, reduceCtorEq, and_false, and_true, false_and, true_and, if_true, if_false, Bool.false_eq_true, eq_self, not_true_eq_false, not_false_eq_true, mput_same, mput_mput, fset_same, ite_not, Classical.not_not, true_or, false_or, or_true, or_false, or_self, and_self, not_or, mput_self, bI_0, k_st h, m_chapterAt h hc hi, m_clientAt h hc hci, m_isPrice, m_purseOf h hc, g_ch h hi2, h1, h2, h3]
  · simp only [e50_0, e50_1, e50_2, e50_5, e50_7, e50_9, e50_9n, e50_12, e50_13, e50_14, e50_17, e50_17n, e50_20, e50_21, e50_24, e50_27, e50_29, e50_30, e50_32, e50_35, e50_36, e50_39, e50_40, e50_41, e50_44, e50_45, e50_48, e50_50, e50_51, e50_52, e50_53, e50_55, e50_58, e50_59, e50_62, e50_64, e50_65, e50_68, e50_70, e50_71, e50_74, e50_76, e50_77, e50_80, e50_83, e50_84, e50_87, lk, lset, ldel, lset2, ldel2, cat2, gI_int, gA_ref, gA_null, gV_some, gC_some, gL_long, Option.toList, List.cons_append, List.nil_append, List.length_cons, List.length_nil, Nat.reduceEqDiff, Nat.reduceAdd, Nat.reduceSub, Nat.reduceLeDiff, Nat.reduceLT, nb0, nb1, reduceIte, reduceCtorEq, and_false, and_true, false_and, true_and, if_true, if_false, Bool.false_eq_true, eq_self, not_true_eq_false, not_false_eq_true, mput_same, mput_mput, fset_same, ite_not, Classical.not_not, true_or, false_or, or_true, or_false, or_self, and_self, not_or, mput_self, bI_0, k_st h, m_chapterAt h hc hi, m_clientAt h hc hci, m_isPrice, h1]
theorem m_sellNo1 (h : isS z S) {c k x : Int32} (hn : ¬ (0 ≤ c ∧ c < M S 1)) : run (d + 4) 50 [.ref S, .int c, .int k, .int x] (wld z M p) = some (some (.int (-100001)), wld z M p) := by
  rw [r50]
  simp only [e50_0, e50_1, e50_2, e50_5, e50_7, e50_9, e50_9n, e50_12, e50_13, e50_14, e50_17, e50_17n, e50_20, e50_21, e50_24, e50_27, e50_29, e50_30, e50_32, e50_35, e50_36, e50_39, e50_40, e50_41, e50_44, e50_45, e50_48, e50_50, e50_51, e50_52, e50_53, e50_55, e50_58, e50_59, e50_62, e50_64, e50_65, e50_68, e50_70, e50_71, e50_74, e50_76, e50_77, e50_80, e50_83, e50_84, e50_87, lk, lset, ldel, lset2, ldel2, cat2, gI_int, gA_ref, gA_null, gV_some, gC_some, gL_long, Option.toList, List.cons_append, List.nil_append, List.length_cons, List.length_nil, Nat.reduceEqDiff, Nat.reduceAdd, Nat.reduceSub, Nat.reduceLeDiff, Nat.reduceLT, nb0, nb1, reduceIte, reduceCtorEq, and_false, and_true, false_and, true_and, if_true, if_false, Bool.false_eq_true, eq_self, not_true_eq_false, not_false_eq_true, k_st h, m_chapterNo h hn]
theorem m_sellNo2 (h : isS z S) (hc : cnt (M S) nc nh np) {i : Nat} (hi : i < nh) {k x : Int32} (hn : ¬ (0 ≤ k ∧ k < M S 0)) : run (d + 4) 50 [.ref S, .int (nI i), .int k, .int x] (wld z M p) = some (some (.int (-100001)), wld z M p) := by
  rw [r50]
  simp only [e50_0, e50_1, e50_2, e50_5, e50_7, e50_9, e50_9n, e50_12, e50_13, e50_14, e50_17, e50_17n, e50_20, e50_21, e50_24, e50_27, e50_29, e50_30, e50_32, e50_35, e50_36, e50_39, e50_40, e50_41, e50_44, e50_45, e50_48, e50_50, e50_51, e50_52, e50_53, e50_55, e50_58, e50_59, e50_62, e50_64, e50_65, e50_68, e50_70, e50_71, e50_74, e50_76, e50_77, e50_80, e50_83, e50_84, e50_87, lk, lset, ldel, lset2, ldel2, cat2, gI_int, gA_ref, gA_null, gV_some, gC_some, gL_long, Option.toList, List.cons_append, List.nil_append, List.length_cons, List.length_nil, Nat.reduceEqDiff, Nat.reduceAdd, Nat.reduceSub, Nat.reduceLeDiff, Nat.reduceLT, nb0, nb1, reduceIte, reduceCtorEq, and_false, and_true, false_and, true_and, if_true, if_false, Bool.false_eq_true, eq_self, not_true_eq_false, not_false_eq_true, k_st h, m_chapterAt h hc hi, m_clientNo h hn]
end BK
