/-! copies whole, and the changes of a state -/
section OR
variable {z : Zt} {S T d : Nat} {M : Nat → Nat → Int32} {p : Nat → Nat} {nc nh np : Nat}
theorem l_cpCh (h : isS z S) (h' : isS z T) (hne : T ≠ S) {n : Nat} (hn5 : n ≤ 10) {Y : Option xR} : ∀ (k i : Nat) (F : Nat → Int32), F 1 = nI n → i + k = n → ∀ (rest : List (Nat × Value)), (∀ (x : Int32) (rest : List (Nat × Value)), X (d + 1) 32 126 ((0, .ref S) :: (1, .ref T) :: (2, .int x) :: rest) [] (wld z (mput M S (rowsF (M T) 18 4 i k F)) p) = Y) → X (d + 1) 32 97 ((0, .ref S) :: (1, .ref T) :: (2, .int (nI i)) :: rest) [] (wld z (mput M S F) p) = Y := by
  intro k
  induction k with
  | zero =>
    intro i F hF hi rest hY
    have g := nI_stop (n := n) (i := i) (by omega) (by omega)
    rw [rowsF_0] at hY
    rw [e32_97]
    simp only [e32_98, e32_99, e32_102, e32_105, e32_106, e32_109, e32_110, e32_111, e32_112, e32_115, e32_116, e32_117, e32_120, e32_123, lk, lset, ldel, lset2, ldel2, cat2, gI_int, gA_ref, gA_null, gV_some, gC_some, gL_long, Option.toList, List.cons_append, List.nil_append, List.length_cons, List.length_nil, Nat.reduceEqDiff, Nat.reduceAdd, Nat.reduceSub, Nat.reduceLeDiff, Nat.reduceLT, nb0, nb1, reduceIte, reduceCtorEq, and_false, and_true, false_and, true_and, if_true, if_false, Bool.false_eq_true, eq_self, not_true_eq_false, not_false_eq_true, mput_same, mput_mput, fset_same, g_stk h, Nat.le_refl, hF, g, hY]
  | succ k ih =>
    intro i F hF hi rest hY
    have g := nI_goon (i := i) (n := n) (by omega) (by omega)
    have hi5 : i < 10 := by omega
    have ih1 := fun rest => ih (i + 1) (rowF F (M T) (18 + 4 * i) (18 + 4 * i) 4) (by rw [rowF_at, if_neg (by omega)]; exact hF) (by omega) rest (by rw [rowsF_step]; exact hY)
    rw [e32_97]
    simp only [e32_98, e32_99, e32_102, e32_105, e32_106, e32_109, e32_110, e32_111, e32_112, e32_115, e32_116, e32_117, e32_120, e32_123, lk, lset, ldel, lset2, ldel2, cat2, gI_int, gA_ref, gA_null, gV_some, gC_some, gL_long, Option.toList, List.cons_append, List.nil_append, List.length_cons, List.length_nil, Nat.reduceEqDiff, Nat.reduceAdd, Nat.reduceSub, Nat.reduceLeDiff, Nat.reduceLT, nb0, nb1, reduceIte, reduceCtorEq, and_false, and_true, false_and, true_and, if_true, if_false, Bool.false_eq_true, eq_self, not_true_eq_false, not_false_eq_true, mput_same, mput_mput, fset_same, g_stk h, g_st1 h, g_st1 h', Nat.le_refl, hF, g, nI_1, a_ch h hi5, a_ch h' hi5, k_ch h hi5, m_chCopy h h' hne hi5 hi5, mput_ne hne, ih1]
theorem l_cpPh (h : isS z S) (h' : isS z T) (hne : T ≠ S) {n : Nat} (hn5 : n ≤ 24) {Y : Option xR} : ∀ (k i : Nat) (F : Nat → Int32), F 2 = nI n → i + k = n → ∀ (rest : List (Nat × Value)), (∀ (x : Int32) (rest : List (Nat × Value)), X (d + 1) 32 157 ((0, .ref S) :: (1, .ref T) :: (2, .int x) :: rest) [] (wld z (mput M S (rowsF (M T) 58 10 i k F)) p) = Y) → X (d + 1) 32 128 ((0, .ref S) :: (1, .ref T) :: (2, .int (nI i)) :: rest) [] (wld z (mput M S F) p) = Y := by
  intro k
  induction k with
  | zero =>
    intro i F hF hi rest hY
    have g := nI_stop (n := n) (i := i) (by omega) (by omega)
    rw [rowsF_0] at hY
    rw [e32_128]
    simp only [e32_129, e32_130, e32_133, e32_136, e32_137, e32_140, e32_141, e32_142, e32_143, e32_146, e32_147, e32_148, e32_151, e32_154, lk, lset, ldel, lset2, ldel2, cat2, gI_int, gA_ref, gA_null, gV_some, gC_some, gL_long, Option.toList, List.cons_append, List.nil_append, List.length_cons, List.length_nil, Nat.reduceEqDiff, Nat.reduceAdd, Nat.reduceSub, Nat.reduceLeDiff, Nat.reduceLT, nb0, nb1, reduceIte, reduceCtorEq, and_false, and_true, false_and, true_and, if_true, if_false, Bool.false_eq_true, eq_self, not_true_eq_false, not_false_eq_true, mput_same, mput_mput, fset_same, g_stk h, Nat.le_refl, hF, g, hY]
  | succ k ih =>
    intro i F hF hi rest hY
    have g := nI_goon (i := i) (n := n) (by omega) (by omega)
    have hi5 : i < 24 := by omega
    have ih1 := fun rest => ih (i + 1) (rowF F (M T) (58 + 10 * i) (58 + 10 * i) 10) (by rw [rowF_at, if_neg (by omega)]; exact hF) (by omega) rest (by rw [rowsF_step]; exact hY)
    rw [e32_128]
    simp only [e32_129, e32_130, e32_133, e32_136, e32_137, e32_140, e32_141, e32_142, e32_143, e32_146, e32_147, e32_148, e32_151, e32_154, lk, lset, ldel, lset2, ldel2, cat2, gI_int, gA_ref, gA_null, gV_some, gC_some, gL_long, Option.toList, List.cons_append, List.nil_append, List.length_cons, List.length_nil, Nat.reduceEqDiff, Nat.reduceAdd, Nat.reduceSub, Nat.reduceLeDiff, Nat.reduceLT, nb0, nb1, reduceIte, reduceCtorEq, and_false, and_true, false_and, true_and, if_true, if_false, Bool.false_eq_true, eq_self, not_true_eq_false, not_false_eq_true, mput_same, mput_mput, fset_same, g_stk h, g_st2 h, g_st2 h', Nat.le_refl, hF, g, nI_1, a_ph h hi5, a_ph h' hi5, k_ph h hi5, m_phCopy h h' hne hi5 hi5, mput_ne hne, ih1]
/-- what a state is behind a copy: the rows that G has are G's -/
def cpF (F G : Nat → Int32) (nc nh np : Nat) : Nat → Int32 := rowsF G 58 10 0 np (rowsF G 18 4 0 nh (rowsF G 8 2 0 nc (rowF F G 0 0 8)))
theorem m_stCopy (h : isS z S) (h' : isS z T) (hne : T ≠ S) (hc : cnt (M T) nc nh np) : run (d + 2) 32 [.ref S, .ref T] (wld z M p) = some (none, wld z (mput M S (cpF (M S) (M T) nc nh np)) p) := by
  obtain ⟨c1, c2, c3, c4, c5, c6⟩ := hc
  have e3 := fun rest => l_cpPh (d := d) (M := M) (p := p) h h' hne c6 (Y := some (none, wld z (mput M S (cpF (M S) (M T) nc nh np)) p)) np 0 (rowsF (M T) 18 4 0 nh (rowsF (M T) 8 2 0 nc (rowF (M S) (M T) 0 0 8))) (by unfold rowsF; rw [if_neg (by omega), if_neg (by omega), rowF_at, if_pos (by omega)]; exact c5) (by omega) rest (fun x rest => by simp only [e32_157]; rfl)
  have e2 := fun rest => l_cpCh (d := d) (M := M) (p := p) h h' hne c4 (Y := some (none, wld z (mput M S (cpF (M S) (M T) nc nh np)) p)) nh 0 (rowsF (M T) 8 2 0 nc (rowF (M S) (M T) 0 0 8)) (by unfold rowsF; rw [if_neg (by omega), rowF_at, if_pos (by omega)]; exact c3) (by omega) rest (fun x rest => by
    rw [show nI 0 = 0 from nI_0] at e3
    simp only [e32_126, e32_127, lk, lset, ldel, lset2, ldel2, cat2, gI_int, gA_ref, gA_null, gV_some, gC_some, gL_long, Option.toList, List.cons_append, List.nil_append, List.length_cons, List.length_nil, Nat.reduceEqDiff, Nat.reduceAdd, Nat.reduceSub, Nat.reduceLeDiff, Nat.reduceLT, nb0, nb1, reduceIte, reduceCtorEq, and_false, and_true, false_and, true_and, if_true, if_false, Bool.false_eq_true, eq_self, not_true_eq_false, not_false_eq_true, e3])
  have e1 := fun rest => l_cpCl (d := d) (M := M) (p := p) h h' hne c2 (Y := some (none, wld z (mput M S (cpF (M S) (M T) nc nh np)) p)) nc 0 (rowF (M S) (M T) 0 0 8) (by rw [rowF_at, if_pos (by omega)]; exact c1) (by omega) rest (fun x rest => by
    rw [show nI 0 = 0 from nI_0] at e2
    simp only [e32_95, e32_96, lk, lset, ldel, lset2, ldel2, cat2, gI_int, gA_ref, gA_null, gV_some, gC_some, gL_long, Option.toList, List.cons_append, List.nil_append, List.length_cons, List.length_nil, Nat.reduceEqDiff, Nat.reduceAdd, Nat.reduceSub, Nat.reduceLeDiff, Nat.reduceLT, nb0, nb1, reduceIte, reduceCtorEq, and_false, and_true, false_and, true_and, if_true, if_false, Bool.false_eq_true, eq_self, not_true_eq_false, not_false_eq_true, e2])
  rw [show nI 0 = 0 from nI_0] at e1
  rw [r32]
  have e0 := e1 []
  simp only [rowF, Nat.zero_add] at e0
  simp only [e32_0, e32_1, e32_2, e32_5, e32_8, e32_9, e32_10, e32_13, e32_16, e32_17, e32_18, e32_21, e32_24, e32_25, e32_26, e32_29, e32_32, e32_33, e32_34, e32_37, e32_40, e32_41, e32_42, e32_45, e32_48, e32_49, e32_50, e32_53, e32_56, e32_57, e32_58, e32_61, e32_64, e32_65, lk, lset, ldel, lset2, ldel2, cat2, gI_int, gA_ref, gA_null, gV_some, gC_some, gL_long, Option.toList, List.cons_append, List.nil_append, List.length_cons, List.length_nil, Nat.reduceEqDiff, Nat.reduceAdd, Nat.reduceSub, Nat.reduceLeDiff, Nat.reduceLT, nb0, nb1, reduceIte, reduceCtorEq, and_false, and_true, false_and, true_and, if_true, if_false, Bool.false_eq_true, eq_self, not_true_eq_false, not_false_eq_true, mput_same, mput_mput, fset_same, g_stk h', p_stk h, Nat.le_refl, mput_ne hne]
  exact e0
-- adding
def adC (F : Nat → Int32) (nc : Nat) (v x : Int32) : Int32 × (Nat → Int32) :=
  if ¬ (0 ≤ v ∧ v ≤ 3) ∨ ¬ (0 ≤ x ∧ x ≤ 9999) then (-100001, F) else if F 0 < 5 then (F 0 + 1 - 1, fset (fset (fset F (8 + 2 * nc + 0) v) (8 + 2 * nc + 1) x) 0 (F 0 + 1)) else (-100003, F)
theorem nI_ltN {n k : Nat} {m : Int32} (hm : m = nI n) (h : m < nI k) (hn : n ≤ 2000) (hk : k ≤ 2000) : n < k := by
  rcases Nat.lt_or_ge n k with q | q
  · exact q
  · rw [hm] at h
    exact absurd h (nI_nlt q (by omega))
theorem m_addClient (h : isS z S) (hc : cnt (M S) nc nh np) {v x : Int32} : run (d + 3) 42 [.ref S, .int v, .int x] (wld z M p) = some (some (.int (adC (M S) nc v x).1), wld z (mput M S (adC (M S) nc v x).2) p) := by
  rw [r42]
  unfold adC
  by_cases h1 : 0 ≤ v ∧ v ≤ 3
  · by_cases h2 : 0 ≤ x ∧ x ≤ 9999
    · by_cases h3 : M S 0 < 5
      · have hlt : nc < 5 := nI_ltN hc.1 h3 (by have := hc.2.1; omega) (by omega)
        have a := a_cl (M := M) (p := p) h hlt
        rw [← hc.1] at a
        simp only [e42_0, e42_1, e42_4, e42_7, e42_8, e42_9, e42_12, e42_15, e42_18, e42_20, e42_21, e42_22, e42_25, e42_26, e42_29, e42_31, e42_32, e42_33, e42_36, e42_37, e42_40, e42_41, e42_42, e42_43, e42_44, e42_47, e42_48, e42_49, e42_52, e42_53, e42_53a, e42_54, e42_57, e42_58, e42_59, e42_62, e42_63, e42_66, e42_67, e42_68, lk, lset, ldel, lset2, ldel2, cat2, gI_int, gA_ref, gA_null, gV_some, gC_some, gL_long, Option.toList, List.cons_append, List.nil_append, List.length_cons, List.length_nil, Nat.reduceEqDiff, Nat.reduceAdd, Nat.reduceSub, Nat.reduceLeDiff, Nat.reduceLT, nb0, nb1, reduceIte, reduceCtorEq, and_false, and_true, false_and, true_and, if_true, if_false, Bool.false_eq_true, eq_self, not_true_eq_false, not_false_eq_true, mput_same, mput_mput, fset_same, ite_not, Classical.not_not, true_or, false_or, or_true, or_false, or_self, and_self, not_or, mput_self, bI_0, m_isVoice, m_within, g_stk h, g_st0 h, p_stk h, Nat.le_refl, h1, h2, h3, a, p_cl h hlt]
        rw [fset_ne (by omega), fset_ne (by omega)]
      · simp only [e42_0, e42_1, e42_4, e42_7, e42_8, e42_9, e42_12, e42_15, e42_18, e42_20, e42_21, e42_22, e42_25, e42_26, e42_29, e42_31, e42_32, e42_33, e42_36, e42_37, e42_40, e42_41, e42_42, e42_43, e42_44, e42_47, e42_48, e42_49, e42_52, e42_53, e42_53a, e42_54, e42_57, e42_58, e42_59, e42_62, e42_63, e42_66, e42_67, e42_68, lk, lset, ldel, lset2, ldel2, cat2, gI_int, gA_ref, gA_null, gV_some, gC_some, gL_long, Option.toList, List.cons_append, List.nil_append, List.length_cons, List.length_nil, Nat.reduceEqDiff, Nat.reduceAdd, Nat.reduceSub, Nat.reduceLeDiff, Nat.reduceLT, nb0, nb1, reduceIte, reduceCtorEq, and_false, and_true, false_and, true_and, if_true, if_false, Bool.false_eq_true, eq_self, not_true_eq_false, not_false_eq_true, mput_same, mput_mput, fset_same, ite_not, Classical.not_not, true_or, false_or, or_true, or_false, or_self, and_self, not_or, mput_self, bI_0, m_isVoice, m_within, g_stk h, Nat.le_refl, h1, h2, h3]
    · simp only [e42_0, e42_1, e42_4, e42_7, e42_8, e42_9, e42_12, e42_15, e42_18, e42_20, e42_21, e42_22, e42_25, e42_26, e42_29, e42_31, e42_32, e42_33, e42_36, e42_37, e42_40, e42_41, e42_42, e42_43, e42_44, e42_47, e42_48, e42_49, e42_52, e42_53, e42_53a, e42_54, e42_57, e42_58, e42_59, e42_62, e42_63, e42_66, e42_67, e42_68, lk, lset, ldel, lset2, ldel2, cat2, gI_int, gA_ref, gA_null, gV_some, gC_some, gL_long, Option.toList, List.cons_append, List.nil_append, List.length_cons, List.length_nil, Nat.reduceEqDiff, Nat.reduceAdd, Nat.reduceSub, Nat.reduceLeDiff, Nat.reduceLT, nb0, nb1, reduceIte, reduceCtorEq, and_false, and_true, false_and, true_and, if_true, if_false, Bool.false_eq_true, eq_self, not_true_eq_false, not_false_eq_true, mput_same, mput_mput, fset_same, ite_not, Classical.not_not, true_or, false_or, or_true, or_false, or_self, and_self, not_or, mput_self, bI_0, m_isVoice, m_within, h1, h2]
  · simp only [e42_0, e42_1, e42_4, e42_7, e42_8, e42_9, e42_12, e42_15, e42_18, e42_20, e42_21, e42_22, e42_25, e42_26, e42_29, e42_31, e42_32, e42_33, e42_36, e42_37, e42_40, e42_41, e42_42, e42_43, e42_44, e42_47, e42_48, e42_49, e42_52, e42_53, e42_53a, e42_54, e42_57, e42_58, e42_59, e42_62, e42_63, e42_66, e42_67, e42_68, lk, lset, ldel, lset2, ldel2, cat2, gI_int, gA_ref, gA_null, gV_some, gC_some, gL_long, Option.toList, List.cons_append, List.nil_append, List.length_cons, List.length_nil, Nat.reduceEqDiff, Nat.reduceAdd, Nat.reduceSub, Nat.reduceLeDiff, Nat.reduceLT, nb0, nb1, reduceIte, reduceCtorEq, and_false, and_true, false_and, true_and, if_true, if_false, Bool.false_eq_true, eq_self, not_true_eq_false, not_false_eq_true, mput_same, mput_mput, fset_same, ite_not, Classical.not_not, true_or, false_or, or_true, or_false, or_self, and_self, not_or, mput_self, bI_0, m_isVoice, m_within, h1]
end OR
