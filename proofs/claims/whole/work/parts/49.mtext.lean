/-! the model: the past, the text -/
theorem fset_fset {F : Nat → Int32} {j : Nat} {a b : Int32} : fset (fset F j a) j b = fset F j b := by
  funext i
  unfold fset
  by_cases h : i = j <;> simp only [h, if_true, if_false]
theorem fset_self {F : Nat → Int32} {j : Nat} {a : Int32} (h : F j = a) : fset F j a = F := by
  funext i
  unfold fset
  by_cases e : i = j
  · subst e; rw [if_pos rfl, h]
  · rw [if_neg e]
/-- the sign at a place of a text of k signs; behind it 0 -/
def sg (k : Nat) (T : Nat → Int32) (e : Nat) : Int32 := if e < k then T e else 0
abbrev dig (x : Int32) : Prop := 48 ≤ x ∧ x ≤ 57
theorem dig_lt {k e : Nat} {T : Nat → Int32} (h : dig (sg k T e)) : e < k := by
  rcases Nat.lt_or_ge e k with q | q
  · exact q
  · unfold sg at h
    rw [if_neg (by omega)] at h
    exact absurd h.1 (by decide)
section MX
variable {z : Zt} {d : Nat} {M : Nat → Nat → Int32} {p : Nat → Nat} {nc nh np n k e a : Nat}
-- undo
theorem l_undo (hz : zok z) {n : Nat} (hn : n < 4) (hpn : M (z.1 + 309) 7 = nI n) : ∀ (k i : Nat) (F : Nat → Int32), i + k = 298 → ∀ (rest : List (Nat × Value)), X d 167 22 ((0, .ref (z.1 + 309)) :: (1, .int (nI i)) :: rest) [] (wld z (mput M (z.1 + 310) F) p) = some (some (.int (nI n)), wld z (mput M (z.1 + 310) (fun j => if i ≤ j ∧ j < i + k then M (z.1 + 311) (298 * n + j) else F j)) p) := by
  intro k
  have e298 : (298 : Int32) = nI 298 := by decide +kernel
  have q1 : z.1 + 309 ≠ z.1 + 310 := by omega
  have q2 : z.1 + 311 ≠ z.1 + 310 := by omega
  induction k with
  | zero =>
    intro i F hi rest
    obtain rfl : i = 298 := by omega
    have e1 : (fun j => if 298 ≤ j ∧ j < 298 + 0 then M (z.1 + 311) (298 * n + j) else F j) = F := by funext j; exact if_neg (by omega)
    rw [e1]
    rw [e167_22]
    simp only [e167_23, e167_26, e167_29, e167_30, e167_33, e167_34, e167_35, e167_38, e167_41, e167_42, e167_45, e167_46, e167_47, e167_48, e167_49, e167_50, e167_53, e167_56, e167_57, e167_60, lk, lset, ldel, lset2, ldel2, cat2, gI_int, gA_ref, gA_null, gV_some, gC_some, gL_long, Option.toList, List.cons_append, List.nil_append, List.length_cons, List.length_nil, Nat.reduceEqDiff, Nat.reduceAdd, Nat.reduceSub, Nat.reduceLeDiff, Nat.reduceLT, nb0, nb1, reduceIte, reduceCtorEq, and_false, and_true, false_and, true_and, if_true, if_false, Bool.false_eq_true, eq_self, not_true_eq_false, not_false_eq_true, g309_0 hz, g309_1 hz, g309_2 hz, g309_3 hz, g309_4 hz, g309_5 hz, g309_6 hz, g309_7 hz, g309_8 hz, g309_9 hz, g309_10 hz, g309_11 hz, g309_12 hz, g309_13 hz, g309_14 hz, g309_15 hz, g309_16 hz, g309_17 hz, p309_5 hz, p309_6 hz, p309_7 hz, p309_9 hz, p309_10 hz, p309_11 hz, p309_12 hz, p309_13 hz, p309_14 hz, p309_15 hz, p309_16 hz, k309 hz, ← e298, Int32.le_refl, mput_ne q1, hpn]
  | succ k ih =>
    intro i F hi rest
    have g := nI_goon (i := i) (n := 298) (by omega) (by omega)
    rw [← e298] at g
    have e4 : 298 * nI n + nI i = nI (298 * n + i) := by rw [e298, pk_mul, nI_add]
    have e1 : (fun j => if i + 1 ≤ j ∧ j < i + 1 + k then M (z.1 + 311) (298 * n + j) else fset F i (M (z.1 + 311) (298 * n + i)) j) = (fun j => if i ≤ j ∧ j < i + (k + 1) then M (z.1 + 311) (298 * n + j) else F j) := by
      funext j
      by_cases h1 : i + 1 ≤ j ∧ j < i + 1 + k
      · rw [if_pos h1, if_pos (by omega)]
      · rw [if_neg h1]
        by_cases h2 : j = i
        · subst h2; rw [fset_same, if_pos (by omega)]
        · rw [fset_ne h2, if_neg (by omega)]
    have ih1 := fun rest => ih (i + 1) (fset F i (M (z.1 + 311) (298 * n + i))) (by omega) rest
    rw [e1] at ih1
    rw [e167_22]
    simp only [e167_23, e167_26, e167_29, e167_30, e167_33, e167_34, e167_35, e167_38, e167_41, e167_42, e167_45, e167_46, e167_47, e167_48, e167_49, e167_50, e167_53, e167_56, e167_57, e167_60, lk, lset, ldel, lset2, ldel2, cat2, gI_int, gA_ref, gA_null, gV_some, gC_some, gL_long, Option.toList, List.cons_append, List.nil_append, List.length_cons, List.length_nil, Nat.reduceEqDiff, Nat.reduceAdd, Nat.reduceSub, Nat.reduceLeDiff, Nat.reduceLT, nb0, nb1, reduceIte, reduceCtorEq, and_false, and_true, false_and, true_and, if_true, if_false, Bool.false_eq_true, eq_self, not_true_eq_false, not_false_eq_true, mput_same, mput_mput, fset_same, g309_0 hz, g309_1 hz, g309_2 hz, g309_3 hz, g309_4 hz, g309_5 hz, g309_6 hz, g309_7 hz, g309_8 hz, g309_9 hz, g309_10 hz, g309_11 hz, g309_12 hz, g309_13 hz, g309_14 hz, g309_15 hz, g309_16 hz, g309_17 hz, p309_5 hz, p309_6 hz, p309_7 hz, p309_9 hz, p309_10 hz, p309_11 hz, p309_12 hz, p309_13 hz, p309_14 hz, p309_15 hz, p309_16 hz, k309 hz, g, nI_1, mput_ne q1, mput_ne q2, hpn, e4, a311 hz (show 298 * n + i < 1192 by omega), s310 hz (show i < 298 by omega), ih1]
theorem m_mundo (hz : zok z) (hn : n < 4) (hpn : M (z.1 + 309) 7 = nI (n + 1)) : run (d + 2) 167 [.ref (z.1 + 309)] (wld z M p) = some (some (.int (nI n)), wld z (mput (mput M (z.1 + 309) (fset (M (z.1 + 309)) 7 (nI n))) (z.1 + 310) (fun j => M (z.1 + 311) (298 * n + j))) p) := by
  have q0 : z.1 + 310 ≠ z.1 + 309 := by omega
  have q1 : z.1 + 311 ≠ z.1 + 309 := by omega
  have e := fun rest => l_undo (d := d + 1) (M := mput M (z.1 + 309) (fset (M (z.1 + 309)) 7 (nI n))) (p := p) hz hn (by rw [mput_same, fset_same]) 298 0 (M (z.1 + 310)) (by omega) rest
  have e0 : mput (mput M (z.1 + 309) (fset (M (z.1 + 309)) 7 (nI n))) (z.1 + 310) (M (z.1 + 310)) = mput M (z.1 + 309) (fset (M (z.1 + 309)) 7 (nI n)) := mput_back (Ne.symm q0) rfl
  have e1 : wld z (mput (mput M (z.1 + 309) (fset (M (z.1 + 309)) 7 (nI n))) (z.1 + 310) (fun j => if 0 ≤ j ∧ j < 0 + 298 then M (z.1 + 311) (298 * n + j) else M (z.1 + 310) j)) p = wld z (mput (mput M (z.1 + 309) (fset (M (z.1 + 309)) 7 (nI n))) (z.1 + 310) (fun j => M (z.1 + 311) (298 * n + j))) p := by
    refine wld_row (o := 310) (by decide) (congrArg (fun y => (10, 298, y)) ?_)
    funext j
    unfold iarr
    by_cases h : j < 298
    · rw [if_pos h, if_pos h]
      exact congrArg Value.int (if_pos (by omega))
    · rw [if_neg h, if_neg h]
  rw [mput_ne q1, e0, e1, show nI 0 = 0 from nI_0] at e
  have g : ¬ nI (n + 1) = 0 := fun q => by
    have := nI_eqN (q.trans l0.symm) (by omega) (by omega)
    omega
  have g2 : nI (n + 1) - 1 = nI n := nI_pred n
  rw [r167]
  simp only [e167_0, e167_1, e167_4, e167_7, e167_9, e167_10, e167_11, e167_11a, e167_12, e167_15, e167_16, e167_17, e167_20, e167_21, lk, lset, ldel, lset2, ldel2, cat2, gI_int, gA_ref, gA_null, gV_some, gC_some, gL_long, Option.toList, List.cons_append, List.nil_append, List.length_cons, List.length_nil, Nat.reduceEqDiff, Nat.reduceAdd, Nat.reduceSub, Nat.reduceLeDiff, Nat.reduceLT, nb0, nb1, reduceIte, reduceCtorEq, and_false, and_true, false_and, true_and, if_true, if_false, Bool.false_eq_true, eq_self, not_true_eq_false, not_false_eq_true, g309_0 hz, g309_1 hz, g309_2 hz, g309_3 hz, g309_4 hz, g309_5 hz, g309_6 hz, g309_7 hz, g309_8 hz, g309_9 hz, g309_10 hz, g309_11 hz, g309_12 hz, g309_13 hz, g309_14 hz, g309_15 hz, g309_16 hz, g309_17 hz, p309_5 hz, p309_6 hz, p309_7 hz, p309_9 hz, p309_10 hz, p309_11 hz, p309_12 hz, p309_13 hz, p309_14 hz, p309_15 hz, p309_16 hz, k309 hz, hpn, g, g2, e]
theorem m_mundoNo (hz : zok z) (hpn : M (z.1 + 309) 7 = 0) : run (d + 2) 167 [.ref (z.1 + 309)] (wld z M p) = some (some (.int (-100002)), wld z M p) := by
  rw [r167]
  simp only [e167_0, e167_1, e167_4, e167_7, e167_9, e167_10, e167_11, e167_11a, e167_12, e167_15, e167_16, e167_17, e167_20, e167_21, lk, lset, ldel, lset2, ldel2, cat2, gI_int, gA_ref, gA_null, gV_some, gC_some, gL_long, Option.toList, List.cons_append, List.nil_append, List.length_cons, List.length_nil, Nat.reduceEqDiff, Nat.reduceAdd, Nat.reduceSub, Nat.reduceLeDiff, Nat.reduceLT, nb0, nb1, reduceIte, reduceCtorEq, and_false, and_true, false_and, true_and, if_true, if_false, Bool.false_eq_true, eq_self, not_true_eq_false, not_false_eq_true, g309_0 hz, g309_1 hz, g309_2 hz, g309_3 hz, g309_4 hz, g309_5 hz, g309_6 hz, g309_7 hz, g309_8 hz, g309_9 hz, g309_10 hz, g309_11 hz, g309_12 hz, g309_13 hz, g309_14 hz, g309_15 hz, g309_16 hz, g309_17 hz, p309_5 hz, p309_6 hz, p309_7 hz, p309_9 hz, p309_10 hz, p309_11 hz, p309_12 hz, p309_13 hz, p309_14 hz, p309_15 hz, p309_16 hz, k309 hz, hpn]
-- typing
theorem m_mtype (hz : zok z) (hk : M (z.1 + 309) 9 = nI k) (hk60 : k < 60) {c : Int32} (hx : 32 ≤ c ∧ c ≤ 126) : run (d + 2) 168 [.ref (z.1 + 309), .int c] (wld z M p) = some (some (.int (nI (k + 1))), wld z (mput (mput M (z.1 + 315) (fset (M (z.1 + 315)) k c)) (z.1 + 309) (fset (M (z.1 + 309)) 9 (nI (k + 1)))) p) := by
  have q1 : z.1 + 309 ≠ z.1 + 315 := by omega
  have g : ¬ nI k = 60 := fun q => by
    have := nI_eqN (q.trans (show (60 : Int32) = nI 60 from by decide +kernel)) (by omega) (by omega)
    omega
  rw [r168]
  simp only [e168_0, e168_1, e168_3, e168_5, e168_8, e168_11, e168_13, e168_14, e168_15, e168_18, e168_20, e168_23, e168_25, e168_26, e168_27, e168_30, e168_31, e168_34, e168_35, e168_36, e168_37, e168_37a, e168_38, e168_41, e168_42, e168_43, e168_46, e168_47, e168_50, lk, lset, ldel, lset2, ldel2, cat2, gI_int, gA_ref, gA_null, gV_some, gC_some, gL_long, Option.toList, List.cons_append, List.nil_append, List.length_cons, List.length_nil, Nat.reduceEqDiff, Nat.reduceAdd, Nat.reduceSub, Nat.reduceLeDiff, Nat.reduceLT, nb0, nb1, reduceIte, reduceCtorEq, and_false, and_true, false_and, true_and, if_true, if_false, Bool.false_eq_true, eq_self, not_true_eq_false, not_false_eq_true, mput_same, mput_mput, fset_same, ite_not, Classical.not_not, true_or, false_or, or_true, or_false, or_self, and_self, not_or, mput_self, bI_0, g309_0 hz, g309_1 hz, g309_2 hz, g309_3 hz, g309_4 hz, g309_5 hz, g309_6 hz, g309_7 hz, g309_8 hz, g309_9 hz, g309_10 hz, g309_11 hz, g309_12 hz, g309_13 hz, g309_14 hz, g309_15 hz, g309_16 hz, g309_17 hz, p309_5 hz, p309_6 hz, p309_7 hz, p309_9 hz, p309_10 hz, p309_11 hz, p309_12 hz, p309_13 hz, p309_14 hz, p309_15 hz, p309_16 hz, k309 hz, m_in, hx, hk, g, s315 hz hk60, mput_ne q1, nI_1]
theorem m_mtypeFull (hz : zok z) (hk : M (z.1 + 309) 9 = nI 60) {c : Int32} (hx : 32 ≤ c ∧ c ≤ 126) : run (d + 2) 168 [.ref (z.1 + 309), .int c] (wld z M p) = some (some (.int (-100003)), wld z M p) := by
  rw [show nI 60 = 60 from by decide +kernel] at hk
  rw [r168]
  simp only [e168_0, e168_1, e168_3, e168_5, e168_8, e168_11, e168_13, e168_14, e168_15, e168_18, e168_20, e168_23, e168_25, e168_26, e168_27, e168_30, e168_31, e168_34, e168_35, e168_36, e168_37, e168_37a, e168_38, e168_41, e168_42, e168_43, e168_46, e168_47, e168_50, lk, lset, ldel, lset2, ldel2, cat2, gI_int, gA_ref, gA_null, gV_some, gC_some, gL_long, Option.toList, List.cons_append, List.nil_append, List.length_cons, List.length_nil, Nat.reduceEqDiff, Nat.reduceAdd, Nat.reduceSub, Nat.reduceLeDiff, Nat.reduceLT, nb0, nb1, reduceIte, reduceCtorEq, and_false, and_true, false_and, true_and, if_true, if_false, Bool.false_eq_true, eq_self, not_true_eq_false, not_false_eq_true, mput_same, mput_mput, fset_same, ite_not, Classical.not_not, true_or, false_or, or_true, or_false, or_self, and_self, not_or, mput_self, bI_0, g309_0 hz, g309_1 hz, g309_2 hz, g309_3 hz, g309_4 hz, g309_5 hz, g309_6 hz, g309_7 hz, g309_8 hz, g309_9 hz, g309_10 hz, g309_11 hz, g309_12 hz, g309_13 hz, g309_14 hz, g309_15 hz, g309_16 hz, g309_17 hz, p309_5 hz, p309_6 hz, p309_7 hz, p309_9 hz, p309_10 hz, p309_11 hz, p309_12 hz, p309_13 hz, p309_14 hz, p309_15 hz, p309_16 hz, k309 hz, m_in, hx, hk]
theorem m_mtypeNo {c : Int32} {w : Wd} {a : Nat} (hx : ¬ (32 ≤ c ∧ c ≤ 126)) : run (d + 2) 168 [.ref a, .int c] w = some (some (.int (-100001)), w) := by
  rw [r168]
  simp only [e168_0, e168_1, e168_3, e168_5, e168_8, e168_11, e168_13, e168_14, e168_15, e168_18, e168_20, e168_23, e168_25, e168_26, e168_27, e168_30, e168_31, e168_34, e168_35, e168_36, e168_37, e168_37a, e168_38, e168_41, e168_42, e168_43, e168_46, e168_47, e168_50, lk, lset, ldel, lset2, ldel2, cat2, gI_int, gA_ref, gA_null, gV_some, gC_some, gL_long, Option.toList, List.cons_append, List.nil_append, List.length_cons, List.length_nil, Nat.reduceEqDiff, Nat.reduceAdd, Nat.reduceSub, Nat.reduceLeDiff, Nat.reduceLT, nb0, nb1, reduceIte, reduceCtorEq, and_false, and_true, false_and, true_and, if_true, if_false, Bool.false_eq_true, eq_self, not_true_eq_false, not_false_eq_true, ite_not, Classical.not_not, true_or, false_or, or_true, or_false, or_self, and_self, not_or, mput_self, bI_0, m_in, hx]
theorem m_mclearText (hz : zok z) : run (d + 2) 169 [.ref (z.1 + 309)] (wld z M p) = some (some (.int (M (z.1 + 309) 9)), wld z (mput M (z.1 + 309) (fset (M (z.1 + 309)) 9 0)) p) := by
  rw [r169]
  simp only [e169_0, e169_1, e169_4, e169_5, e169_6, e169_7, e169_10, e169_11, lk, lset, ldel, lset2, ldel2, cat2, gI_int, gA_ref, gA_null, gV_some, gC_some, gL_long, Option.toList, List.cons_append, List.nil_append, List.length_cons, List.length_nil, Nat.reduceEqDiff, Nat.reduceAdd, Nat.reduceSub, Nat.reduceLeDiff, Nat.reduceLT, nb0, nb1, reduceIte, reduceCtorEq, and_false, and_true, false_and, true_and, if_true, if_false, Bool.false_eq_true, eq_self, not_true_eq_false, not_false_eq_true, lk_same, lk_same2, lk_k1, lk_k1r, lk_ldN, ne_eq, g309_0 hz, g309_1 hz, g309_2 hz, g309_3 hz, g309_4 hz, g309_5 hz, g309_6 hz, g309_7 hz, g309_8 hz, g309_9 hz, g309_10 hz, g309_11 hz, g309_12 hz, g309_13 hz, g309_14 hz, g309_15 hz, g309_16 hz, g309_17 hz, p309_5 hz, p309_6 hz, p309_7 hz, p309_9 hz, p309_10 hz, p309_11 hz, p309_12 hz, p309_13 hz, p309_14 hz, p309_15 hz, p309_16 hz, k309 hz]
-- reading
theorem m_misAt (hz : zok z) (h10 : M (z.1 + 309) 10 = nI e) (h9 : M (z.1 + 309) 9 = nI k) (he : e ≤ 2000) (hk : k ≤ 60) {lo hi : Int32} (hlo : 0 < lo) : run (d + 2) 170 [.ref (z.1 + 309), .int lo, .int hi] (wld z M p) = some (some (.int (bI (lo ≤ sg k (M (z.1 + 315)) e ∧ sg k (M (z.1 + 315)) e ≤ hi))), wld z M p) := by
  rw [r170]
  unfold sg
  by_cases h : e < k
  · have g := nI_goon (i := e) (n := k) h (by omega)
    by_cases h2 : lo ≤ M (z.1 + 315) e ∧ M (z.1 + 315) e ≤ hi
    · have h2' := eq_true h2
      simp only [e170_0, e170_1, e170_4, e170_5, e170_8, e170_11, e170_12, e170_15, e170_16, e170_19, e170_20, e170_21, e170_22, e170_25, e170_28, e170_29, e170_32, e170_33, lk, lset, ldel, lset2, ldel2, cat2, gI_int, gA_ref, gA_null, gV_some, gC_some, gL_long, Option.toList, List.cons_append, List.nil_append, List.length_cons, List.length_nil, Nat.reduceEqDiff, Nat.reduceAdd, Nat.reduceSub, Nat.reduceLeDiff, Nat.reduceLT, nb0, nb1, reduceIte, reduceCtorEq, and_false, and_true, false_and, true_and, if_true, if_false, Bool.false_eq_true, eq_self, not_true_eq_false, not_false_eq_true, ite_not, Classical.not_not, true_or, false_or, or_true, or_false, or_self, and_self, not_or, mput_self, bI_0, g309_0 hz, g309_1 hz, g309_2 hz, g309_3 hz, g309_4 hz, g309_5 hz, g309_6 hz, g309_7 hz, g309_8 hz, g309_9 hz, g309_10 hz, g309_11 hz, g309_12 hz, g309_13 hz, g309_14 hz, g309_15 hz, g309_16 hz, g309_17 hz, p309_5 hz, p309_6 hz, p309_7 hz, p309_9 hz, p309_10 hz, p309_11 hz, p309_12 hz, p309_13 hz, p309_14 hz, p309_15 hz, p309_16 hz, k309 hz, m_in, h10, h9, g, a315 hz (show e < 60 by omega), h, h2]
      unfold bI
      simp only [h2, and_self, if_true]
    · simp only [e170_0, e170_1, e170_4, e170_5, e170_8, e170_11, e170_12, e170_15, e170_16, e170_19, e170_20, e170_21, e170_22, e170_25, e170_28, e170_29, e170_32, e170_33, lk, lset, ldel, lset2, ldel2, cat2, gI_int, gA_ref, gA_null, gV_some, gC_some, gL_long, Option.toList, List.cons_append, List.nil_append, List.length_cons, List.length_nil, Nat.reduceEqDiff, Nat.reduceAdd, Nat.reduceSub, Nat.reduceLeDiff, Nat.reduceLT, nb0, nb1, reduceIte, reduceCtorEq, and_false, and_true, false_and, true_and, if_true, if_false, Bool.false_eq_true, eq_self, not_true_eq_false, not_false_eq_true, ite_not, Classical.not_not, true_or, false_or, or_true, or_false, or_self, and_self, not_or, mput_self, bI_0, g309_0 hz, g309_1 hz, g309_2 hz, g309_3 hz, g309_4 hz, g309_5 hz, g309_6 hz, g309_7 hz, g309_8 hz, g309_9 hz, g309_10 hz, g309_11 hz, g309_12 hz, g309_13 hz, g309_14 hz, g309_15 hz, g309_16 hz, g309_17 hz, p309_5 hz, p309_6 hz, p309_7 hz, p309_9 hz, p309_10 hz, p309_11 hz, p309_12 hz, p309_13 hz, p309_14 hz, p309_15 hz, p309_16 hz, k309 hz, m_in, h10, h9, g, a315 hz (show e < 60 by omega), h, h2]
      unfold bI
      simp only [h2, if_false]
  · have g := nI_stop (i := e) (n := k) (by omega) (by omega)
    have n0 : ¬ lo ≤ 0 := by rw [Int32.not_le]; exact hlo
    simp only [e170_0, e170_1, e170_4, e170_5, e170_8, e170_11, e170_12, e170_15, e170_16, e170_19, e170_20, e170_21, e170_22, e170_25, e170_28, e170_29, e170_32, e170_33, lk, lset, ldel, lset2, ldel2, cat2, gI_int, gA_ref, gA_null, gV_some, gC_some, gL_long, Option.toList, List.cons_append, List.nil_append, List.length_cons, List.length_nil, Nat.reduceEqDiff, Nat.reduceAdd, Nat.reduceSub, Nat.reduceLeDiff, Nat.reduceLT, nb0, nb1, reduceIte, reduceCtorEq, and_false, and_true, false_and, true_and, if_true, if_false, Bool.false_eq_true, eq_self, not_true_eq_false, not_false_eq_true, ite_not, Classical.not_not, true_or, false_or, or_true, or_false, or_self, and_self, not_or, mput_self, bI_0, g309_0 hz, g309_1 hz, g309_2 hz, g309_3 hz, g309_4 hz, g309_5 hz, g309_6 hz, g309_7 hz, g309_8 hz, g309_9 hz, g309_10 hz, g309_11 hz, g309_12 hz, g309_13 hz, g309_14 hz, g309_15 hz, g309_16 hz, g309_17 hz, p309_5 hz, p309_6 hz, p309_7 hz, p309_9 hz, p309_10 hz, p309_11 hz, p309_12 hz, p309_13 hz, p309_14 hz, p309_15 hz, p309_16 hz, k309 hz, m_in, h10, h9, g, h]
    unfold bI
    simp only [n0, false_and, if_false]
theorem eq_of_both {x c : Int32} : (c ≤ x ∧ x ≤ c) = (x = c) := propext ⟨fun h => Int32.le_antisymm h.2 h.1, fun h => by subst h; exact ⟨Int32.le_refl _, Int32.le_refl _⟩⟩
theorem bI_cong {P Q : Prop} [hp : Decidable P] [hq : Decidable Q] (h : P = Q) : bI P = bI Q := by
  subst h
  unfold bI
  split <;> rfl
theorem m_msign (hz : zok z) (h10 : M (z.1 + 309) 10 = nI e) (h9 : M (z.1 + 309) 9 = nI k) (he : e ≤ 2000) (hk : k ≤ 60) {c : Int32} (hlo : 0 < c) : run (d + 3) 171 [.ref (z.1 + 309), .int c] (wld z M p) = some (some (.int (bI (sg k (M (z.1 + 315)) e = c))), wld z (mput M (z.1 + 309) (fset (M (z.1 + 309)) 10 (nI (if sg k (M (z.1 + 315)) e = c then e + 1 else e)))) p) := by
  have i0 := m_misAt (d := d) (p := p) hz h10 h9 he hk (lo := c) (hi := c) hlo
  rw [bI_cong eq_of_both] at i0
  rw [r171]
  have n10 : ¬ (1 : Int32) = 0 := by decide
  by_cases h : sg k (M (z.1 + 315)) e = c
  · simp only [h] at i0
    simp only [e171_0, e171_1, e171_2, e171_3, e171_6, e171_7, e171_8, e171_8a, e171_9, e171_12, e171_13, e171_16, e171_17, e171_20, e171_21, e171_22, e171_25, e171_26, lk, lset, ldel, lset2, ldel2, cat2, gI_int, gA_ref, gA_null, gV_some, gC_some, gL_long, Option.toList, List.cons_append, List.nil_append, List.length_cons, List.length_nil, Nat.reduceEqDiff, Nat.reduceAdd, Nat.reduceSub, Nat.reduceLeDiff, Nat.reduceLT, nb0, nb1, reduceIte, reduceCtorEq, and_false, and_true, false_and, true_and, if_true, if_false, Bool.false_eq_true, eq_self, not_true_eq_false, not_false_eq_true, ite_not, Classical.not_not, true_or, false_or, or_true, or_false, or_self, and_self, not_or, mput_self, bI_0, lk_same, lk_same2, lk_k1, lk_k1r, lk_ldN, ne_eq, g309_0 hz, g309_1 hz, g309_2 hz, g309_3 hz, g309_4 hz, g309_5 hz, g309_6 hz, g309_7 hz, g309_8 hz, g309_9 hz, g309_10 hz, g309_11 hz, g309_12 hz, g309_13 hz, g309_14 hz, g309_15 hz, g309_16 hz, g309_17 hz, p309_5 hz, p309_6 hz, p309_7 hz, p309_9 hz, p309_10 hz, p309_11 hz, p309_12 hz, p309_13 hz, p309_14 hz, p309_15 hz, p309_16 hz, k309 hz, i0, h, h10, nI_1, bI_01]
  · simp only [e171_0, e171_1, e171_2, e171_3, e171_6, e171_7, e171_8, e171_8a, e171_9, e171_12, e171_13, e171_16, e171_17, e171_20, e171_21, e171_22, e171_25, e171_26, lk, lset, ldel, lset2, ldel2, cat2, gI_int, gA_ref, gA_null, gV_some, gC_some, gL_long, Option.toList, List.cons_append, List.nil_append, List.length_cons, List.length_nil, Nat.reduceEqDiff, Nat.reduceAdd, Nat.reduceSub, Nat.reduceLeDiff, Nat.reduceLT, nb0, nb1, reduceIte, reduceCtorEq, and_false, and_true, false_and, true_and, if_true, if_false, Bool.false_eq_true, eq_self, not_true_eq_false, not_false_eq_true, ite_not, Classical.not_not, true_or, false_or, or_true, or_false, or_self, and_self, not_or, mput_self, bI_0, lk_same, lk_same2, lk_k1, lk_k1r, lk_ldN, ne_eq, g309_0 hz, g309_1 hz, g309_2 hz, g309_3 hz, g309_4 hz, g309_5 hz, g309_6 hz, g309_7 hz, g309_8 hz, g309_9 hz, g309_10 hz, g309_11 hz, g309_12 hz, g309_13 hz, g309_14 hz, g309_15 hz, g309_16 hz, g309_17 hz, p309_5 hz, p309_6 hz, p309_7 hz, p309_9 hz, p309_10 hz, p309_11 hz, p309_12 hz, p309_13 hz, p309_14 hz, p309_15 hz, p309_16 hz, k309 hz, i0, h, h10, Int32.add_zero, bI_01]
/-- where a number ends, and what it is -/
def numE (g : Nat → Int32) (e : Nat) : Nat := if dig (g (e + 1)) then e + 2 else e + 1
def numV (g : Nat → Int32) (e : Nat) : Int32 := if dig (g (e + 1)) then 10 * (10 * 0 + g e - 48) + g (e + 1) - 48 else 10 * 0 + g e - 48
theorem numE_le {k : Nat} {T : Nat → Int32} {e : Nat} (he : e < k) : numE (sg k T) e ≤ k ∧ e < numE (sg k T) e := by
  unfold numE
  by_cases h : dig (sg k T (e + 1))
  · rw [if_pos h]
    have := dig_lt h
    omega
  · rw [if_neg h]; omega
theorem m_numNo (hz : zok z) (h10 : M (z.1 + 309) 10 = nI e) (h9 : M (z.1 + 309) 9 = nI k) (he : e ≤ 1000) (hk : k ≤ 60) (hd : ¬ dig (sg k (M (z.1 + 315)) e)) : run (d + 3) 172 [.ref (z.1 + 309)] (wld z M p) = some (some (.int 0), wld z M p) := by
  have i0 := m_misAt (d := d) (p := p) hz h10 h9 (by omega) hk (lo := 48) (hi := 57) (by decide)
  rw [r172]
  simp only [e172_0, e172_1, e172_4, e172_5, e172_6, e172_7, e172_8, e172_10, e172_12, e172_15, e172_18, e172_19, e172_22, e172_23, e172_24, e172_25, e172_28, e172_30, e172_31, e172_32, e172_33, e172_36, e172_37, e172_40, e172_41, e172_42, e172_44, e172_45, e172_46, e172_47, e172_47a, e172_48, e172_51, e172_52, e172_53, e172_56, e172_59, e172_60, e172_63, e172_64, e172_67, e172_68, e172_71, e172_72, e172_75, e172_76, e172_77, e172_78, e172_81, e172_82, e172_85, e172_86, e172_87, e172_88, e172_88a, e172_89, e172_92, e172_93, e172_94, e172_97, e172_98, lk, lset, ldel, lset2, ldel2, cat2, gI_int, gA_ref, gA_null, gV_some, gC_some, gL_long, Option.toList, List.cons_append, List.nil_append, List.length_cons, List.length_nil, Nat.reduceEqDiff, Nat.reduceAdd, Nat.reduceSub, Nat.reduceLeDiff, Nat.reduceLT, nb0, nb1, reduceIte, reduceCtorEq, and_false, and_true, false_and, true_and, if_true, if_false, Bool.false_eq_true, eq_self, not_true_eq_false, not_false_eq_true, ite_not, Classical.not_not, true_or, false_or, or_true, or_false, or_self, and_self, not_or, mput_self, bI_0, lk_same, lk_same2, lk_k1, lk_k1r, lk_ldN, ne_eq, g309_0 hz, g309_1 hz, g309_2 hz, g309_3 hz, g309_4 hz, g309_5 hz, g309_6 hz, g309_7 hz, g309_8 hz, g309_9 hz, g309_10 hz, g309_11 hz, g309_12 hz, g309_13 hz, g309_14 hz, g309_15 hz, g309_16 hz, g309_17 hz, p309_5 hz, p309_6 hz, p309_7 hz, p309_9 hz, p309_10 hz, p309_11 hz, p309_12 hz, p309_13 hz, p309_14 hz, p309_15 hz, p309_16 hz, k309 hz, i0, hd, h10]
/-- behind the digits of a number -/
theorem l_numEnd (hz : zok z) (h9 : M (z.1 + 309) 9 = nI k) (he : e < k) (hk : k ≤ 60) (ha : M (z.1 + 309) 16 = nI a) (ha4 : a ≤ 4) (hd : dig (sg k (M (z.1 + 315)) e)) {v : Int32} {e2 : Nat} (h2 : e < e2) (h22 : e2 ≤ 100) : X (d + 2) 172 59 [(0, .ref (z.1 + 309)), (1, .int (nI e)), (2, .int v)] [] (wld z (mput M (z.1 + 309) (fset (M (z.1 + 309)) 10 (nI e2))) p) = some (some (.int (if a = 4 then 0 else 1)), wld z (if a = 4 then mput M (z.1 + 309) (fset (M (z.1 + 309)) 10 (nI e2)) else mput (mput M (z.1 + 316) (fset (M (z.1 + 316)) a v)) (z.1 + 309) (fset (fset (M (z.1 + 309)) 10 (nI e2)) 16 (nI (a + 1)))) p) := by
  have g1 : ¬ nI e2 = nI e := fun q => by
    have := nI_eqN q (by omega) (by omega)
    omega
  have q1 : z.1 + 316 ≠ z.1 + 309 := by omega
  have q2 : z.1 + 309 ≠ z.1 + 316 := by omega
  have q3 : (16 : Nat) ≠ 10 := by decide
  by_cases h4 : a = 4
  · subst h4
    have e4 := l4
    rw [e4] at ha
    simp only [e172_59, e172_60, e172_63, e172_64, e172_67, e172_68, e172_71, e172_72, e172_75, e172_76, e172_77, e172_78, e172_81, e172_82, e172_85, e172_86, e172_87, e172_88, e172_88a, e172_89, e172_92, e172_93, e172_94, e172_97, e172_98, lk, lset, ldel, lset2, ldel2, cat2, gI_int, gA_ref, gA_null, gV_some, gC_some, gL_long, Option.toList, List.cons_append, List.nil_append, List.length_cons, List.length_nil, Nat.reduceEqDiff, Nat.reduceAdd, Nat.reduceSub, Nat.reduceLeDiff, Nat.reduceLT, nb0, nb1, reduceIte, reduceCtorEq, and_false, and_true, false_and, true_and, if_true, if_false, Bool.false_eq_true, eq_self, not_true_eq_false, not_false_eq_true, mput_same, mput_mput, fset_same, ite_not, Classical.not_not, true_or, false_or, or_true, or_false, or_self, and_self, not_or, mput_self, bI_0, lk_same, lk_same2, lk_k1, lk_k1r, lk_ldN, ne_eq, g309_0 hz, g309_1 hz, g309_2 hz, g309_3 hz, g309_4 hz, g309_5 hz, g309_6 hz, g309_7 hz, g309_8 hz, g309_9 hz, g309_10 hz, g309_11 hz, g309_12 hz, g309_13 hz, g309_14 hz, g309_15 hz, g309_16 hz, g309_17 hz, p309_5 hz, p309_6 hz, p309_7 hz, p309_9 hz, p309_10 hz, p309_11 hz, p309_12 hz, p309_13 hz, p309_14 hz, p309_15 hz, p309_16 hz, k309 hz, g1, fset_ne q3, ha]
  · have g2 : ¬ nI a = 4 := fun q => h4 (nI_eqN (q.trans l4.symm) (by omega) (by omega))
    have e5 : mput (mput (mput M (z.1 + 309) (fset (M (z.1 + 309)) 10 (nI e2))) (z.1 + 316) (fset (M (z.1 + 316)) a v)) (z.1 + 309) (fset (fset (M (z.1 + 309)) 10 (nI e2)) 16 (nI (a + 1))) = mput (mput M (z.1 + 316) (fset (M (z.1 + 316)) a v)) (z.1 + 309) (fset (fset (M (z.1 + 309)) 10 (nI e2)) 16 (nI (a + 1))) := by
      funext y
      unfold mput
      by_cases r1 : y = z.1 + 309
      · simp only [r1, if_true]
      · simp only [r1, if_false]
    simp only [e172_59, e172_60, e172_63, e172_64, e172_67, e172_68, e172_71, e172_72, e172_75, e172_76, e172_77, e172_78, e172_81, e172_82, e172_85, e172_86, e172_87, e172_88, e172_88a, e172_89, e172_92, e172_93, e172_94, e172_97, e172_98, lk, lset, ldel, lset2, ldel2, cat2, gI_int, gA_ref, gA_null, gV_some, gC_some, gL_long, Option.toList, List.cons_append, List.nil_append, List.length_cons, List.length_nil, Nat.reduceEqDiff, Nat.reduceAdd, Nat.reduceSub, Nat.reduceLeDiff, Nat.reduceLT, nb0, nb1, reduceIte, reduceCtorEq, and_false, and_true, false_and, true_and, if_true, if_false, Bool.false_eq_true, eq_self, not_true_eq_false, not_false_eq_true, mput_same, mput_mput, fset_same, ite_not, Classical.not_not, true_or, false_or, or_true, or_false, or_self, and_self, not_or, mput_self, bI_0, lk_same, lk_same2, lk_k1, lk_k1r, lk_ldN, ne_eq, g309_0 hz, g309_1 hz, g309_2 hz, g309_3 hz, g309_4 hz, g309_5 hz, g309_6 hz, g309_7 hz, g309_8 hz, g309_9 hz, g309_10 hz, g309_11 hz, g309_12 hz, g309_13 hz, g309_14 hz, g309_15 hz, g309_16 hz, g309_17 hz, p309_5 hz, p309_6 hz, p309_7 hz, p309_9 hz, p309_10 hz, p309_11 hz, p309_12 hz, p309_13 hz, p309_14 hz, p309_15 hz, p309_16 hz, k309 hz, g1, g2, h4, fset_ne q3, ha, s316 hz (show a < 4 by omega), mput_ne q1, mput_ne q2, nI_1, e5]
theorem m_numYes (hz : zok z) (h10 : M (z.1 + 309) 10 = nI e) (h9 : M (z.1 + 309) 9 = nI k) (he : e ≤ 1000) (hk : k ≤ 60) (ha : M (z.1 + 309) 16 = nI a) (ha4 : a ≤ 4) (hd : dig (sg k (M (z.1 + 315)) e)) : run (d + 3) 172 [.ref (z.1 + 309)] (wld z M p) = some (some (.int (if a = 4 then 0 else 1)), wld z (if a = 4 then mput M (z.1 + 309) (fset (M (z.1 + 309)) 10 (nI (numE (sg k (M (z.1 + 315))) e))) else mput (mput M (z.1 + 316) (fset (M (z.1 + 316)) a (numV (sg k (M (z.1 + 315))) e))) (z.1 + 309) (fset (fset (M (z.1 + 309)) 10 (nI (numE (sg k (M (z.1 + 315))) e))) 16 (nI (a + 1)))) p) := by
  have hek := dig_lt hd
  have q1 : z.1 + 315 ≠ z.1 + 309 := by omega
  have q9 : (9 : Nat) ≠ 10 := by decide
  have i0 := m_misAt (d := d) (p := p) hz h10 h9 (by omega) hk (lo := 48) (hi := 57) (by decide)
  have i1 := m_misAt (d := d) (M := mput M (z.1 + 309) (fset (M (z.1 + 309)) 10 (nI (e + 1)))) (p := p) hz (e := e + 1) (by rw [mput_same, fset_same]) (k := k) (by rw [mput_same, fset_ne q9]; exact h9) (by omega) hk (lo := 48) (hi := 57) (by decide)
  have i2 := m_misAt (d := d) (M := mput M (z.1 + 309) (fset (M (z.1 + 309)) 10 (nI (e + 1 + 1)))) (p := p) hz (e := e + 1 + 1) (by rw [mput_same, fset_same]) (k := k) (by rw [mput_same, fset_ne q9]; exact h9) (by omega) hk (lo := 48) (hi := 57) (by decide)
  rw [mput_ne q1] at i1 i2
  have s0 : nI e - nI e = nI 0 := by rw [l0]; exact Int32.sub_self _
  have s1 : nI (e + 1) - nI e = 1 := by rw [← nI_1]; grind
  have s2 : nI (e + 1 + 1) - nI e = 2 := by rw [← nI_1, ← nI_1]; grind
  have g0 : sg k (M (z.1 + 315)) e = M (z.1 + 315) e := if_pos hek
  have en := fun e2 v h2 h22 => l_numEnd (d := d) (p := p) hz h9 hek hk ha ha4 hd (v := v) (e2 := e2) h2 h22
  rw [r172]
  unfold numE numV
  by_cases h1 : dig (sg k (M (z.1 + 315)) (e + 1))
  · have g1 : sg k (M (z.1 + 315)) (e + 1) = M (z.1 + 315) (e + 1) := if_pos (dig_lt h1)
    have e1k := dig_lt h1
    have h1' := eq_true h1
    have hd' := eq_true hd
    have en2 := en (e + 1 + 1) (10 * (10 * 0 + sg k (M (z.1 + 315)) e - 48) + sg k (M (z.1 + 315)) (e + 1) - 48) (by omega) (by omega)
    rw [if_pos h1, if_pos h1]
    rw [← en2, g0, g1]
    by_cases h2 : dig (sg k (M (z.1 + 315)) (e + 1 + 1))
    · have h2' := eq_true h2
      simp only [e172_0, e172_1, e172_4, e172_5, e172_6, e172_7, e172_8, e172_10, e172_12, e172_15, e172_18, e172_19, e172_22, e172_23, e172_24, e172_25, e172_28, e172_30, e172_31, e172_32, e172_33, e172_36, e172_37, e172_40, e172_41, e172_42, e172_44, e172_45, e172_46, e172_47, e172_47a, e172_48, e172_51, e172_52, e172_53, e172_56, lk, lset, ldel, lset2, ldel2, cat2, gI_int, gA_ref, gA_null, gV_some, gC_some, gL_long, Option.toList, List.cons_append, List.nil_append, List.length_cons, List.length_nil, Nat.reduceEqDiff, Nat.reduceAdd, Nat.reduceSub, Nat.reduceLeDiff, Nat.reduceLT, nb0, nb1, reduceIte, reduceCtorEq, and_false, and_true, false_and, true_and, if_true, if_false, Bool.false_eq_true, eq_self, not_true_eq_false, not_false_eq_true, mput_same, mput_mput, fset_same, ite_not, Classical.not_not, true_or, false_or, or_true, or_false, or_self, and_self, not_or, mput_self, bI_0, lk_same, lk_same2, lk_k1, lk_k1r, lk_ldN, ne_eq, g309_0 hz, g309_1 hz, g309_2 hz, g309_3 hz, g309_4 hz, g309_5 hz, g309_6 hz, g309_7 hz, g309_8 hz, g309_9 hz, g309_10 hz, g309_11 hz, g309_12 hz, g309_13 hz, g309_14 hz, g309_15 hz, g309_16 hz, g309_17 hz, p309_5 hz, p309_6 hz, p309_7 hz, p309_9 hz, p309_10 hz, p309_11 hz, p309_12 hz, p309_13 hz, p309_14 hz, p309_15 hz, p309_16 hz, k309 hz, Int32.reduceAdd, Int32.reduceSub, Int32.reduceLE, Int32.reduceLT, fset_fset, i0, i1, i2, hd', h1', h2', h10, s0, s1, s2, l0, a315 hz (show e < 60 by omega), a315 hz (show e + 1 < 60 by omega), mput_ne q1, nI_1]
    · have h2' := eq_false h2
      simp only [e172_0, e172_1, e172_4, e172_5, e172_6, e172_7, e172_8, e172_10, e172_12, e172_15, e172_18, e172_19, e172_22, e172_23, e172_24, e172_25, e172_28, e172_30, e172_31, e172_32, e172_33, e172_36, e172_37, e172_40, e172_41, e172_42, e172_44, e172_45, e172_46, e172_47, e172_47a, e172_48, e172_51, e172_52, e172_53, e172_56, lk, lset, ldel, lset2, ldel2, cat2, gI_int, gA_ref, gA_null, gV_some, gC_some, gL_long, Option.toList, List.cons_append, List.nil_append, List.length_cons, List.length_nil, Nat.reduceEqDiff, Nat.reduceAdd, Nat.reduceSub, Nat.reduceLeDiff, Nat.reduceLT, nb0, nb1, reduceIte, reduceCtorEq, and_false, and_true, false_and, true_and, if_true, if_false, Bool.false_eq_true, eq_self, not_true_eq_false, not_false_eq_true, mput_same, mput_mput, fset_same, ite_not, Classical.not_not, true_or, false_or, or_true, or_false, or_self, and_self, not_or, mput_self, bI_0, lk_same, lk_same2, lk_k1, lk_k1r, lk_ldN, ne_eq, g309_0 hz, g309_1 hz, g309_2 hz, g309_3 hz, g309_4 hz, g309_5 hz, g309_6 hz, g309_7 hz, g309_8 hz, g309_9 hz, g309_10 hz, g309_11 hz, g309_12 hz, g309_13 hz, g309_14 hz, g309_15 hz, g309_16 hz, g309_17 hz, p309_5 hz, p309_6 hz, p309_7 hz, p309_9 hz, p309_10 hz, p309_11 hz, p309_12 hz, p309_13 hz, p309_14 hz, p309_15 hz, p309_16 hz, k309 hz, Int32.reduceAdd, Int32.reduceSub, Int32.reduceLE, Int32.reduceLT, fset_fset, i0, i1, i2, hd', h1', h2', h10, s0, s1, s2, l0, a315 hz (show e < 60 by omega), a315 hz (show e + 1 < 60 by omega), mput_ne q1, nI_1]
  · have h1' := eq_false h1
    have hd' := eq_true hd
    have en2 := en (e + 1) (10 * 0 + sg k (M (z.1 + 315)) e - 48) (by omega) (by omega)
    rw [if_neg h1, if_neg h1]
    rw [← en2, g0]
    simp only [e172_0, e172_1, e172_4, e172_5, e172_6, e172_7, e172_8, e172_10, e172_12, e172_15, e172_18, e172_19, e172_22, e172_23, e172_24, e172_25, e172_28, e172_30, e172_31, e172_32, e172_33, e172_36, e172_37, e172_40, e172_41, e172_42, e172_44, e172_45, e172_46, e172_47, e172_47a, e172_48, e172_51, e172_52, e172_53, e172_56, lk, lset, ldel, lset2, ldel2, cat2, gI_int, gA_ref, gA_null, gV_some, gC_some, gL_long, Option.toList, List.cons_append, List.nil_append, List.length_cons, List.length_nil, Nat.reduceEqDiff, Nat.reduceAdd, Nat.reduceSub, Nat.reduceLeDiff, Nat.reduceLT, nb0, nb1, reduceIte, reduceCtorEq, and_false, and_true, false_and, true_and, if_true, if_false, Bool.false_eq_true, eq_self, not_true_eq_false, not_false_eq_true, mput_same, mput_mput, fset_same, ite_not, Classical.not_not, true_or, false_or, or_true, or_false, or_self, and_self, not_or, mput_self, bI_0, lk_same, lk_same2, lk_k1, lk_k1r, lk_ldN, ne_eq, g309_0 hz, g309_1 hz, g309_2 hz, g309_3 hz, g309_4 hz, g309_5 hz, g309_6 hz, g309_7 hz, g309_8 hz, g309_9 hz, g309_10 hz, g309_11 hz, g309_12 hz, g309_13 hz, g309_14 hz, g309_15 hz, g309_16 hz, g309_17 hz, p309_5 hz, p309_6 hz, p309_7 hz, p309_9 hz, p309_10 hz, p309_11 hz, p309_12 hz, p309_13 hz, p309_14 hz, p309_15 hz, p309_16 hz, k309 hz, Int32.reduceAdd, Int32.reduceSub, Int32.reduceLE, Int32.reduceLT, fset_fset, i0, i1, hd', h1', h10, s0, s1, l0, a315 hz (show e < 60 by omega), mput_ne q1, nI_1]
end MX
