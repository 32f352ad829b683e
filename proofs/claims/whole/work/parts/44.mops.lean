/-! the model's orders -/
section MO
variable {z : Zt} {d : Nat} {M : Nat → Nat → Int32} {p : Nat → Nat} {nc nh np n : Nat}
/-- the past states with one more, G -/
def pastF (P G : Nat → Int32) (n : Nat) : Nat → Int32 := if n < 4 then fun j => if 298 * n ≤ j ∧ j < 298 * n + 298 then G (j - 298 * n) else P j else fun j => if 894 ≤ j ∧ j < 894 + 298 then G (j - 894) else if j < 894 then P (j + 298) else P j
def chg (z : Zt) (n : Nat) (M : Nat → Nat → Int32) : Nat → Nat → Int32 :=
  if M (z.1 + 309) 6 = 0 then mput (mput M (z.1 + 311) (pastF (M (z.1 + 311)) (M (z.1 + 310)) n)) (z.1 + 309) (fset (M (z.1 + 309)) 7 (nI (pushN n))) else M
theorem chg_ne {x : Nat} (h1 : x ≠ z.1 + 309) (h2 : x ≠ z.1 + 311) : chg z n M x = M x := by
  unfold chg
  split
  · rw [mput_ne h1, mput_ne h2]
  · rfl
theorem chg_310 : chg z n M (z.1 + 310) = M (z.1 + 310) := chg_ne (by omega) (by omega)
theorem nI_eqN {n k : Nat} (h : nI n = nI k) (hn : n ≤ 2000) (hk : k ≤ 2000) : n = k := by
  have := congrArg Int32.toNatClampNeg h
  rwa [nI_clamp (by omega), nI_clamp (by omega)] at this
theorem m_changes (hz : zok z) (hn : M (z.1 + 309) 7 = nI n) (hn4 : n ≤ 4) : run (d + 1) 114 [.ref (z.1 + 309)] (wld z M p) = some (none, wld z (chg z n M) p) := by
  rw [r114]
  unfold chg
  by_cases h0 : M (z.1 + 309) 6 = 0
  · rw [if_pos h0]
    by_cases h4 : n < 4
    · have e := fun rest => l_chCopy (d := d) (p := p) hz h4 hn 298 0 (M (z.1 + 311)) (by omega) rest
      rw [mput_self, show nI 0 = 0 from nI_0] at e
      have g : ¬ nI n = 4 := fun q => by
        have := nI_eqN (q.trans l4.symm) (by omega) (by omega)
        omega
      have e1 : (fun j => if 298 * n + 0 ≤ j ∧ j < 298 * n + (0 + 298) then M (z.1 + 310) (j - 298 * n) else M (z.1 + 311) j) = pastF (M (z.1 + 311)) (M (z.1 + 310)) n := by
        unfold pastF
        rw [if_pos h4, Nat.zero_add, Nat.add_zero]
      rw [e1] at e
      unfold pushN
      simp only [e114_0, e114_1, e114_4, e114_7, e114_8, e114_9, e114_12, e114_13, e114_16, e114_57, e114_58, lk, lset, ldel, lset2, ldel2, cat2, gI_int, gA_ref, gA_null, gV_some, gC_some, gL_long, Option.toList, List.cons_append, List.nil_append, List.length_cons, List.length_nil, Nat.reduceEqDiff, Nat.reduceAdd, Nat.reduceSub, Nat.reduceLeDiff, Nat.reduceLT, nb0, nb1, reduceIte, reduceCtorEq, and_false, and_true, false_and, true_and, if_true, if_false, Bool.false_eq_true, eq_self, not_true_eq_false, not_false_eq_true, g309_0 hz, g309_1 hz, g309_2 hz, g309_3 hz, g309_4 hz, g309_5 hz, g309_6 hz, g309_7 hz, g309_8 hz, g309_9 hz, g309_10 hz, g309_11 hz, g309_12 hz, g309_13 hz, g309_14 hz, g309_15 hz, g309_16 hz, g309_17 hz, p309_5 hz, p309_6 hz, p309_7 hz, p309_9 hz, p309_10 hz, p309_11 hz, p309_12 hz, p309_13 hz, p309_14 hz, p309_15 hz, p309_16 hz, k309 hz, hn, h0, g, h4, e]
    · obtain rfl : n = 4 := by omega
      have hn3 : mput (mput M (z.1 + 311) (fun j => if 0 ≤ j ∧ j < 0 + 894 then M (z.1 + 311) (j + 298) else M (z.1 + 311) j)) (z.1 + 309) (fset (M (z.1 + 309)) 7 (nI 3)) (z.1 + 309) 7 = nI 3 := by rw [mput_same, fset_same]
      have e := fun rest => l_chCopy (d := d) (p := p) hz (show 3 < 4 by omega) hn3 298 0 (fun j => if 0 ≤ j ∧ j < 0 + 894 then M (z.1 + 311) (j + 298) else M (z.1 + 311) j) (by omega) rest
      have q1 : z.1 + 309 ≠ z.1 + 311 := by omega
      have q2 : z.1 + 310 ≠ z.1 + 311 := by omega
      have q3 : z.1 + 310 ≠ z.1 + 309 := by omega
      have q4 : z.1 + 311 ≠ z.1 + 309 := by omega
      rw [show nI 0 = 0 from nI_0] at e
      have e9 : mput (mput (mput M (z.1 + 311) (fun j => if 0 ≤ j ∧ j < 0 + 894 then M (z.1 + 311) (j + 298) else M (z.1 + 311) j)) (z.1 + 309) (fset (M (z.1 + 309)) 7 (nI 3))) (z.1 + 311) (fun j => if 0 ≤ j ∧ j < 0 + 894 then M (z.1 + 311) (j + 298) else M (z.1 + 311) j) = mput (mput M (z.1 + 311) (fun j => if 0 ≤ j ∧ j < 0 + 894 then M (z.1 + 311) (j + 298) else M (z.1 + 311) j)) (z.1 + 309) (fset (M (z.1 + 309)) 7 (nI 3)) := by
        funext y
        unfold mput
        by_cases r1 : y = z.1 + 311
        · subst r1
          rw [if_pos rfl, if_neg q4, if_pos rfl]
        · rw [if_neg r1, if_neg r1]
      rw [e9] at e
      have e8 : ∀ (K : Nat → Int32), mput (mput (mput (mput M (z.1 + 311) (fun j => if 0 ≤ j ∧ j < 0 + 894 then M (z.1 + 311) (j + 298) else M (z.1 + 311) j)) (z.1 + 309) (fset (M (z.1 + 309)) 7 (nI 3))) (z.1 + 311) K) (z.1 + 309) (fset (mput (mput M (z.1 + 311) (fun j => if 0 ≤ j ∧ j < 0 + 894 then M (z.1 + 311) (j + 298) else M (z.1 + 311) j)) (z.1 + 309) (fset (M (z.1 + 309)) 7 (nI 3)) (z.1 + 309)) 7 (nI (3 + 1))) = mput (mput M (z.1 + 311) K) (z.1 + 309) (fset (M (z.1 + 309)) 7 (nI 4)) := by
        intro K
        funext y
        unfold mput
        by_cases r1 : y = z.1 + 309
        · subst r1
          simp only [if_true]
          funext j
          unfold fset
          by_cases r2 : j = 7 <;> simp only [r2, if_true, if_false] <;> rfl
        · by_cases r3 : y = z.1 + 311
          · simp only [r3, q4, if_true, if_false]
          · simp only [r1, r3, if_false]
      have e1 : (fun j => if 298 * 3 + 0 ≤ j ∧ j < 298 * 3 + (0 + 298) then mput (mput M (z.1 + 311) (fun j => if 0 ≤ j ∧ j < 0 + 894 then M (z.1 + 311) (j + 298) else M (z.1 + 311) j)) (z.1 + 309) (fset (M (z.1 + 309)) 7 (nI 3)) (z.1 + 310) (j - 298 * 3) else if 0 ≤ j ∧ j < 0 + 894 then M (z.1 + 311) (j + 298) else M (z.1 + 311) j) = pastF (M (z.1 + 311)) (M (z.1 + 310)) 4 := by
        unfold pastF
        rw [if_neg (by omega), mput_ne q3, mput_ne q2]
        funext j
        by_cases r1 : 894 ≤ j ∧ j < 894 + 298
        · rw [if_pos (by omega), if_pos r1]
        · rw [if_neg (by omega), if_neg r1]
          by_cases r2 : j < 894
          · rw [if_pos (by omega), if_pos r2]
          · rw [if_neg (by omega), if_neg r2]
      rw [e8, e1] at e
      have e7 := fun rest Y hY => l_chShift (d := d) (M := M) (p := p) hz 894 0 (M (z.1 + 311)) (by omega) rest Y hY
      rw [mput_self, show nI 0 = 0 from nI_0] at e7
      have g3 : (4 : Int32) - 1 = nI 3 := by decide +kernel
      rw [l4] at hn e
      unfold pushN
      rw [if_neg h4, l4]
      simp only [e114_0, e114_1, e114_4, e114_7, e114_8, e114_9, e114_12, e114_13, e114_16, e114_17, lk, lset, ldel, lset2, ldel2, cat2, gI_int, gA_ref, gA_null, gV_some, gC_some, gL_long, Option.toList, List.cons_append, List.nil_append, List.length_cons, List.length_nil, Nat.reduceEqDiff, Nat.reduceAdd, Nat.reduceSub, Nat.reduceLeDiff, Nat.reduceLT, nb0, nb1, reduceIte, reduceCtorEq, and_false, and_true, false_and, true_and, if_true, if_false, Bool.false_eq_true, eq_self, not_true_eq_false, not_false_eq_true, g309_0 hz, g309_1 hz, g309_2 hz, g309_3 hz, g309_4 hz, g309_5 hz, g309_6 hz, g309_7 hz, g309_8 hz, g309_9 hz, g309_10 hz, g309_11 hz, g309_12 hz, g309_13 hz, g309_14 hz, g309_15 hz, g309_16 hz, g309_17 hz, p309_5 hz, p309_6 hz, p309_7 hz, p309_9 hz, p309_10 hz, p309_11 hz, p309_12 hz, p309_13 hz, p309_14 hz, p309_15 hz, p309_16 hz, k309 hz, hn, h0]
      refine e7 _ _ fun y rest => ?_
      simp only [e114_47, e114_48, e114_48a, e114_49, e114_52, e114_53, e114_54, e114_57, e114_58, lk, lset, ldel, lset2, ldel2, cat2, gI_int, gA_ref, gA_null, gV_some, gC_some, gL_long, Option.toList, List.cons_append, List.nil_append, List.length_cons, List.length_nil, Nat.reduceEqDiff, Nat.reduceAdd, Nat.reduceSub, Nat.reduceLeDiff, Nat.reduceLT, nb0, nb1, reduceIte, reduceCtorEq, and_false, and_true, false_and, true_and, if_true, if_false, Bool.false_eq_true, eq_self, not_true_eq_false, not_false_eq_true, g309_0 hz, g309_1 hz, g309_2 hz, g309_3 hz, g309_4 hz, g309_5 hz, g309_6 hz, g309_7 hz, g309_8 hz, g309_9 hz, g309_10 hz, g309_11 hz, g309_12 hz, g309_13 hz, g309_14 hz, g309_15 hz, g309_16 hz, g309_17 hz, p309_5 hz, p309_6 hz, p309_7 hz, p309_9 hz, p309_10 hz, p309_11 hz, p309_12 hz, p309_13 hz, p309_14 hz, p309_15 hz, p309_16 hz, k309 hz, mput_ne q1, hn, g3, e]
  · rw [if_neg h0]
    simp only [e114_0, e114_1, e114_4, e114_7, lk, lset, ldel, lset2, ldel2, cat2, gI_int, gA_ref, gA_null, gV_some, gC_some, gL_long, Option.toList, List.cons_append, List.nil_append, List.length_cons, List.length_nil, Nat.reduceEqDiff, Nat.reduceAdd, Nat.reduceSub, Nat.reduceLeDiff, Nat.reduceLT, nb0, nb1, reduceIte, reduceCtorEq, and_false, and_true, false_and, true_and, if_true, if_false, Bool.false_eq_true, eq_self, not_true_eq_false, not_false_eq_true, g309_0 hz, g309_1 hz, g309_2 hz, g309_3 hz, g309_4 hz, g309_5 hz, g309_6 hz, g309_7 hz, g309_8 hz, g309_9 hz, g309_10 hz, g309_11 hz, g309_12 hz, g309_13 hz, g309_14 hz, g309_15 hz, g309_16 hz, g309_17 hz, p309_5 hz, p309_6 hz, p309_7 hz, p309_9 hz, p309_10 hz, p309_11 hz, p309_12 hz, p309_13 hz, p309_14 hz, p309_15 hz, p309_16 hz, k309 hz, h0]
/-- the memory behind an order: as it was, or the state put into the past and a new one in its place -/
def mok (z : Zt) (n : Nat) (M : Nat → Nat → Int32) : Option (Nat → Int32) → Nat → Nat → Int32
  | none => M
  | some F => mput (chg z n M) (z.1 + 310) F
theorem mok_no : mok z n M none = M := rfl
theorem mok_is {F : Nat → Int32} : mok z n M (some F) = mput (chg z n M) (z.1 + 310) F := rfl
theorem ix8_0 {i : Nat} : (8 : Int32) + 2 * nI i + 0 = nI (8 + 2 * i + 0) := by have := ix8 (i := i) (k := 0); rwa [l0] at this
theorem ix8_1 {i : Nat} : (8 : Int32) + 2 * nI i + 1 = nI (8 + 2 * i + 1) := by have := ix8 (i := i) (k := 1); rwa [l1] at this
theorem ix18_0 {i : Nat} : (18 : Int32) + 4 * nI i + 0 = nI (18 + 4 * i + 0) := by have := ix18 (i := i) (k := 0); rwa [l0] at this
theorem ix18_1 {i : Nat} : (18 : Int32) + 4 * nI i + 1 = nI (18 + 4 * i + 1) := by have := ix18 (i := i) (k := 1); rwa [l1] at this
theorem ix18_2 {i : Nat} : (18 : Int32) + 4 * nI i + 2 = nI (18 + 4 * i + 2) := by have := ix18 (i := i) (k := 2); rwa [l2] at this
theorem ix18_3 {i : Nat} : (18 : Int32) + 4 * nI i + 3 = nI (18 + 4 * i + 3) := by have := ix18 (i := i) (k := 3); rwa [l3] at this
-- client
def moC (F : Nat → Int32) (nc : Nat) (v x : Int32) : Int32 × Option (Nat → Int32) :=
  if ¬ (0 ≤ v ∧ v ≤ 3) ∨ ¬ (0 ≤ x ∧ x ≤ 9999) then (-100001, none) else if nc = 5 then (-100003, none) else (nI nc, some (fset (fset (fset F (8 + 2 * nc + 0) v) (8 + 2 * nc + 1) x) 0 (nI nc + 1)))
theorem m_mclient (hz : zok z) (hc : cnt (M (z.1 + 310)) nc nh np) (hn : M (z.1 + 309) 7 = nI n) (hn4 : n ≤ 4) {v x : Int32} : run (d + 2) 126 [.ref (z.1 + 309), .int v, .int x] (wld z M p) = some (some (.int (moC (M (z.1 + 310)) nc v x).1), wld z (mok z n M (moC (M (z.1 + 310)) nc v x).2) p) := by
  rw [r126]
  unfold moC
  by_cases h1 : 0 ≤ v ∧ v ≤ 3
  · by_cases h2 : 0 ≤ x ∧ x ≤ 9999
    · by_cases h3 : nc = 5
      · have e5 : nI 5 = 5 := l5
        simp only [e126_0, e126_1, e126_2, e126_3, e126_6, e126_9, e126_10, e126_11, e126_14, e126_17, e126_20, e126_22, e126_23, e126_24, e126_27, e126_28, e126_29, e126_30, e126_31, e126_32, e126_35, e126_37, e126_38, e126_39, e126_42, e126_43, e126_46, e126_48, e126_49, e126_50, e126_51, e126_52, e126_53, e126_54, e126_55, e126_56, e126_57, e126_60, e126_62, e126_63, e126_64, e126_65, e126_66, e126_67, e126_68, e126_69, e126_70, e126_71, e126_74, e126_75, e126_76, e126_77, e126_78, e126_79, e126_80, e126_81, lk, lset, ldel, lset2, ldel2, cat2, gI_int, gA_ref, gA_null, gV_some, gC_some, gL_long, Option.toList, List.cons_append, List.nil_append, List.length_cons, List.length_nil, Nat.reduceEqDiff, Nat.reduceAdd, Nat.reduceSub, Nat.reduceLeDiff, Nat.reduceLT, nb0, nb1, reduceIte, reduceCtorEq, and_false, and_true, false_and, true_and, if_true, if_false, Bool.false_eq_true, eq_self, not_true_eq_false, not_false_eq_true, ite_not, Classical.not_not, true_or, false_or, or_true, or_false, or_self, and_self, not_or, mput_self, bI_0, a310_0 hz, a310_1 hz, a310_2 hz, a310_3 hz, a310_4 hz, a310_5 hz, a310_6 hz, a310_7 hz, k309 hz, g309_0 hz, m_in, h1, h2, h3, hc.1, e5, mok_no]
      · have hlt : nc < 5 := by have := hc.2.1; omega
        have g : ¬ nI nc = 5 := fun q => h3 (nI_eqN (q.trans l5.symm) (by omega) (by omega))
        have q0 : (0 : Nat) ≠ 8 + 2 * nc + 0 := by omega
        have q1 : (0 : Nat) ≠ 8 + 2 * nc + 1 := by omega
        simp only [e126_0, e126_1, e126_2, e126_3, e126_6, e126_9, e126_10, e126_11, e126_14, e126_17, e126_20, e126_22, e126_23, e126_24, e126_27, e126_28, e126_29, e126_30, e126_31, e126_32, e126_35, e126_37, e126_38, e126_39, e126_42, e126_43, e126_46, e126_48, e126_49, e126_50, e126_51, e126_52, e126_53, e126_54, e126_55, e126_56, e126_57, e126_60, e126_62, e126_63, e126_64, e126_65, e126_66, e126_67, e126_68, e126_69, e126_70, e126_71, e126_74, e126_75, e126_76, e126_77, e126_78, e126_79, e126_80, e126_81, lk, lset, ldel, lset2, ldel2, cat2, gI_int, gA_ref, gA_null, gV_some, gC_some, gL_long, Option.toList, List.cons_append, List.nil_append, List.length_cons, List.length_nil, Nat.reduceEqDiff, Nat.reduceAdd, Nat.reduceSub, Nat.reduceLeDiff, Nat.reduceLT, nb0, nb1, reduceIte, reduceCtorEq, and_false, and_true, false_and, true_and, if_true, if_false, Bool.false_eq_true, eq_self, not_true_eq_false, not_false_eq_true, mput_same, mput_mput, fset_same, ite_not, Classical.not_not, true_or, false_or, or_true, or_false, or_self, and_self, not_or, mput_self, bI_0, lk_same, lk_same2, lk_k1, lk_k1r, lk_ldN, ne_eq, a310_0 hz, a310_1 hz, a310_2 hz, a310_3 hz, a310_4 hz, a310_5 hz, a310_6 hz, a310_7 hz, k309 hz, g309_0 hz, s310_0 hz, s310_1 hz, s310_2 hz, s310_3 hz, s310_4 hz, s310_5 hz, s310_6 hz, s310_7 hz, m_in, h1, h2, h3, hc.1, g, m_changes hz hn hn4, chg_310, ix8_0, ix8_1, s310 hz (show 8 + 2 * nc + 0 < 298 by omega), s310 hz (show 8 + 2 * nc + 1 < 298 by omega), fset_ne q0, fset_ne q1, mok_is]
    · simp only [e126_0, e126_1, e126_2, e126_3, e126_6, e126_9, e126_10, e126_11, e126_14, e126_17, e126_20, e126_22, e126_23, e126_24, e126_27, e126_28, e126_29, e126_30, e126_31, e126_32, e126_35, e126_37, e126_38, e126_39, e126_42, e126_43, e126_46, e126_48, e126_49, e126_50, e126_51, e126_52, e126_53, e126_54, e126_55, e126_56, e126_57, e126_60, e126_62, e126_63, e126_64, e126_65, e126_66, e126_67, e126_68, e126_69, e126_70, e126_71, e126_74, e126_75, e126_76, e126_77, e126_78, e126_79, e126_80, e126_81, lk, lset, ldel, lset2, ldel2, cat2, gI_int, gA_ref, gA_null, gV_some, gC_some, gL_long, Option.toList, List.cons_append, List.nil_append, List.length_cons, List.length_nil, Nat.reduceEqDiff, Nat.reduceAdd, Nat.reduceSub, Nat.reduceLeDiff, Nat.reduceLT, nb0, nb1, reduceIte, reduceCtorEq, and_false, and_true, false_and, true_and, if_true, if_false, Bool.false_eq_true, eq_self, not_true_eq_false, not_false_eq_true, ite_not, Classical.not_not, true_or, false_or, or_true, or_false, or_self, and_self, not_or, mput_self, bI_0, m_in, h1, h2, mok_no]
  · simp only [e126_0, e126_1, e126_2, e126_3, e126_6, e126_9, e126_10, e126_11, e126_14, e126_17, e126_20, e126_22, e126_23, e126_24, e126_27, e126_28, e126_29, e126_30, e126_31, e126_32, e126_35, e126_37, e126_38, e126_39, e126_42, e126_43, e126_46, e126_48, e126_49, e126_50, e126_51, e126_52, e126_53, e126_54, e126_55, e126_56, e126_57, e126_60, e126_62, e126_63, e126_64, e126_65, e126_66, e126_67, e126_68, e126_69, e126_70, e126_71, e126_74, e126_75, e126_76, e126_77, e126_78, e126_79, e126_80, e126_81, lk, lset, ldel, lset2, ldel2, cat2, gI_int, gA_ref, gA_null, gV_some, gC_some, gL_long, Option.toList, List.cons_append, List.nil_append, List.length_cons, List.length_nil, Nat.reduceEqDiff, Nat.reduceAdd, Nat.reduceSub, Nat.reduceLeDiff, Nat.reduceLT, nb0, nb1, reduceIte, reduceCtorEq, and_false, and_true, false_and, true_and, if_true, if_false, Bool.false_eq_true, eq_self, not_true_eq_false, not_false_eq_true, ite_not, Classical.not_not, true_or, false_or, or_true, or_false, or_self, and_self, not_or, mput_self, bI_0, m_in, h1, mok_no]
end MO
