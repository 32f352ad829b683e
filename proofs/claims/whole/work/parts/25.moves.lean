/-! what changes a state: days, homes, copies, taking back -/
section MV
variable {z : Zt} {S T d : Nat} {M : Nat → Nat → Int32} {p : Nat → Nat} {nc nh np : Nat}
theorem homeF_low {F : Nat → Int32} {i j : Nat} (hj : j < 58) : homeF F i j = F j := by
  unfold homeF loseF
  rw [fset_ne (by omega), fset_ne (by omega), fset_ne (by omega), fset_ne (by omega), fset_ne (by omega)]
theorem homeF_cnt {F : Nat → Int32} {i : Nat} (hc : cnt F nc nh np) : cnt (homeF F i) nc nh np := by
  unfold cnt
  rw [homeF_low (by omega), homeF_low (by omega), homeF_low (by omega)]
  exact hc
def sendR (F : Nat → Int32) (u : Int32) : Nat → Nat → (Nat → Int32) × Int32
  | _, 0 => (F, 0)
  | i, k + 1 => if ¬ F (58 + 10 * i + 6) = -1 ∧ F (58 + 10 * i + 6) ≤ u then ((sendR (homeF F i) u (i + 1) k).1, 1 + (sendR (homeF F i) u (i + 1) k).2) else sendR F u (i + 1) k
theorem l_sendHome (h : isS z S) {u : Int32} : ∀ (k i : Nat) (F : Nat → Int32), cnt F nc nh np → i + k = np → ∀ (acc : Int32) (rest : List (Nat × Value)), X (d + 2) 53 4 ((0, .ref S) :: (1, .int u) :: (2, .int acc) :: (3, .int (nI i)) :: rest) [] (wld z (mput M S F) p) = some (some (.int (acc + (sendR F u i k).2)), wld z (mput M S (sendR F u i k).1) p) := by
  intro k
  induction k with
  | zero =>
    intro i F hc hi acc rest
    have hle := hc.2.2.2.2.2
    have g := nI_stop (n := np) (i := i) (by omega) (by omega)
    rw [e53_4]
    simp only [e53_0, e53_1, e53_2, e53_3, e53_5, e53_6, e53_9, e53_12, e53_13, e53_16, e53_17, e53_18, e53_20, e53_22, e53_25, e53_28, e53_30, e53_33, e53_34, e53_37, e53_39, e53_42, e53_45, e53_48, e53_51, e53_52, lk, lset, ldel, lset2, ldel2, cat2, gI_int, gA_ref, gA_null, gV_some, gC_some, gL_long, Option.toList, List.cons_append, List.nil_append, List.length_cons, List.length_nil, Nat.reduceEqDiff, Nat.reduceAdd, Nat.reduceSub, Nat.reduceLeDiff, Nat.reduceLT, nb0, nb1, reduceIte, reduceCtorEq, and_false, and_true, false_and, true_and, if_true, if_false, Bool.false_eq_true, eq_self, not_true_eq_false, not_false_eq_true, mput_same, mput_mput, fset_same, g_stk h, Nat.le_refl, hc.2.2.2.2.1, g, sendR, Int32.add_zero]
  | succ k ih =>
    intro i F hc hi acc rest
    have hle := hc.2.2.2.2.2
    have ih1 := fun acc rest => ih (i + 1) F hc (by omega) acc rest
    have ih2 := fun acc rest => ih (i + 1) (homeF F i) (homeF_cnt hc) (by omega) acc rest
    have g := nI_goon (i := i) (n := np) (by omega) (by omega)
    have hi2 : i < 24 := by omega
    rw [e53_4]
    simp only [e53_0, e53_1, e53_2, e53_3, e53_5, e53_6, e53_9, e53_12, e53_13, e53_16, e53_17, e53_18, e53_20, e53_22, e53_25, e53_28, e53_30, e53_33, e53_34, e53_37, e53_39, e53_42, e53_45, e53_48, e53_51, e53_52, lk, lset, ldel, lset2, ldel2, cat2, gI_int, gA_ref, gA_null, gV_some, gC_some, gL_long, Option.toList, List.cons_append, List.nil_append, List.length_cons, List.length_nil, Nat.reduceEqDiff, Nat.reduceAdd, Nat.reduceSub, Nat.reduceLeDiff, Nat.reduceLT, nb0, nb1, reduceIte, reduceCtorEq, and_false, and_true, false_and, true_and, if_true, if_false, Bool.false_eq_true, eq_self, not_true_eq_false, not_false_eq_true, lk_same, lk_same2, lk_k1, lk_k1r, lk_ldN, ne_eq, mput_same, mput_mput, fset_same, g_stk h, g_st2 h, Nat.le_refl, hc.2.2.2.2.1, g, nI_1, ih1, ih2, a_ph h hi2, g_ph h hi2, k_ph h hi2, m_isLent h hi2, m_goHome h hi2, bI_0, Classical.not_not]
    simp only [sendR]
    by_cases h1 : F (58 + 10 * i + 6) = -1
    · simp only [h1, lk, lset, ldel, lset2, ldel2, cat2, gI_int, gA_ref, gA_null, gV_some, gC_some, gL_long, Option.toList, List.cons_append, List.nil_append, List.length_cons, List.length_nil, Nat.reduceEqDiff, Nat.reduceAdd, Nat.reduceSub, Nat.reduceLeDiff, Nat.reduceLT, nb0, nb1, reduceIte, reduceCtorEq, and_false, and_true, false_and, true_and, if_true, if_false, Bool.false_eq_true, eq_self, not_true_eq_false, not_false_eq_true]
    · by_cases h2 : F (58 + 10 * i + 6) ≤ u
      · have h3 : ¬ u < F (58 + 10 * i + 6) := by rw [Int32.not_lt]; exact h2
        simp only [h1, h2, h3, lk, lset, ldel, lset2, ldel2, cat2, gI_int, gA_ref, gA_null, gV_some, gC_some, gL_long, Option.toList, List.cons_append, List.nil_append, List.length_cons, List.length_nil, Nat.reduceEqDiff, Nat.reduceAdd, Nat.reduceSub, Nat.reduceLeDiff, Nat.reduceLT, nb0, nb1, reduceIte, reduceCtorEq, and_false, and_true, false_and, true_and, if_true, if_false, Bool.false_eq_true, eq_self, not_true_eq_false, not_false_eq_true, Int32.add_assoc]
      · have h3 : u < F (58 + 10 * i + 6) := by rw [← Int32.not_le]; exact h2
        simp only [h1, h2, h3, lk, lset, ldel, lset2, ldel2, cat2, gI_int, gA_ref, gA_null, gV_some, gC_some, gL_long, Option.toList, List.cons_append, List.nil_append, List.length_cons, List.length_nil, Nat.reduceEqDiff, Nat.reduceAdd, Nat.reduceSub, Nat.reduceLeDiff, Nat.reduceLT, nb0, nb1, reduceIte, reduceCtorEq, and_false, and_true, false_and, true_and, if_true, if_false, Bool.false_eq_true, eq_self, not_true_eq_false, not_false_eq_true]
theorem m_sendHome (h : isS z S) (hc : cnt (M S) nc nh np) {u : Int32} : run (d + 3) 53 [.ref S, .int u] (wld z M p) = some (some (.int (0 + (sendR (M S) u 0 np).2)), wld z (mput M S (sendR (M S) u 0 np).1) p) := by
  have e := fun acc rest => l_sendHome (d := d) (M := M) (p := p) h (u := u) np 0 (M S) hc (by omega) acc rest
  rw [show nI 0 = 0 from nI_0, mput_self] at e
  rw [r53]
  simp only [e53_0, e53_1, e53_2, e53_3, e53_5, e53_6, e53_9, e53_12, e53_13, e53_16, e53_17, e53_18, e53_20, e53_22, e53_25, e53_28, e53_30, e53_33, e53_34, e53_37, e53_39, e53_42, e53_45, e53_48, e53_51, e53_52, lk, lset, ldel, lset2, ldel2, cat2, gI_int, gA_ref, gA_null, gV_some, gC_some, gL_long, Option.toList, List.cons_append, List.nil_append, List.length_cons, List.length_nil, Nat.reduceEqDiff, Nat.reduceAdd, Nat.reduceSub, Nat.reduceLeDiff, Nat.reduceLT, nb0, nb1, reduceIte, reduceCtorEq, and_false, and_true, false_and, true_and, if_true, if_false, Bool.false_eq_true, eq_self, not_true_eq_false, not_false_eq_true, e]
def endR (F : Nat → Int32) : Nat → Nat → (Nat → Int32) × Int32
  | _, 0 => (F, 0)
  | i, k + 1 => if ¬ F (58 + 10 * i + 7) = -1 ∧ holdF F (F (58 + 10 * i + 7)) = holdF F (F (58 + 10 * i + 4)) then ((endR (homeF F i) (i + 1) k).1, 1 + (endR (homeF F i) (i + 1) k).2) else endR F (i + 1) k
theorem l_endLoans (h : isS z S) : ∀ (k i : Nat) (F : Nat → Int32), cnt F nc nh np → i + k = np → ∀ (acc : Int32) (rest : List (Nat × Value)), X (d + 2) 51 4 ((0, .ref S) :: (1, .int acc) :: (2, .int (nI i)) :: rest) [] (wld z (mput M S F) p) = some (some (.int (acc + (endR F i k).2)), wld z (mput M S (endR F i k).1) p) := by
  intro k
  induction k with
  | zero =>
    intro i F hc hi acc rest
    have hle := hc.2.2.2.2.2
    have g := nI_stop (n := np) (i := i) (by omega) (by omega)
    rw [e51_4]
    simp only [e51_0, e51_1, e51_2, e51_3, e51_5, e51_6, e51_9, e51_12, e51_13, e51_16, e51_17, e51_18, e51_19, e51_20, e51_23, e51_24, e51_27, e51_28, e51_29, e51_32, e51_35, e51_36, e51_37, e51_40, e51_43, e51_46, e51_47, e51_50, e51_53, e51_56, e51_59, e51_60, lk, lset, ldel, lset2, ldel2, cat2, gI_int, gA_ref, gA_null, gV_some, gC_some, gL_long, Option.toList, List.cons_append, List.nil_append, List.length_cons, List.length_nil, Nat.reduceEqDiff, Nat.reduceAdd, Nat.reduceSub, Nat.reduceLeDiff, Nat.reduceLT, nb0, nb1, reduceIte, reduceCtorEq, and_false, and_true, false_and, true_and, if_true, if_false, Bool.false_eq_true, eq_self, not_true_eq_false, not_false_eq_true, mput_same, mput_mput, fset_same, g_stk h, Nat.le_refl, hc.2.2.2.2.1, g, endR, Int32.add_zero]
  | succ k ih =>
    intro i F hc hi acc rest
    have hle := hc.2.2.2.2.2
    have ih1 := fun acc rest => ih (i + 1) F hc (by omega) acc rest
    have ih2 := fun acc rest => ih (i + 1) (homeF F i) (homeF_cnt hc) (by omega) acc rest
    have g := nI_goon (i := i) (n := np) (by omega) (by omega)
    have hi2 : i < 24 := by omega
    have hc' : cnt (mput M S F S) nc nh np := by rw [mput_same]; exact hc
    rw [e51_4]
    simp only [e51_0, e51_1, e51_2, e51_3, e51_5, e51_6, e51_9, e51_12, e51_13, e51_16, e51_17, e51_18, e51_19, e51_20, e51_23, e51_24, e51_27, e51_28, e51_29, e51_32, e51_35, e51_36, e51_37, e51_40, e51_43, e51_46, e51_47, e51_50, e51_53, e51_56, e51_59, e51_60, lk, lset, ldel, lset2, ldel2, cat2, gI_int, gA_ref, gA_null, gV_some, gC_some, gL_long, Option.toList, List.cons_append, List.nil_append, List.length_cons, List.length_nil, Nat.reduceEqDiff, Nat.reduceAdd, Nat.reduceSub, Nat.reduceLeDiff, Nat.reduceLT, nb0, nb1, reduceIte, reduceCtorEq, and_false, and_true, false_and, true_and, if_true, if_false, Bool.false_eq_true, eq_self, not_true_eq_false, not_false_eq_true, lk_same, lk_same2, lk_k1, lk_k1r, lk_ldN, ne_eq, mput_same, mput_mput, fset_same, g_stk h, g_st2 h, Nat.le_refl, hc.2.2.2.2.1, g, nI_1, ih1, ih2, a_ph h hi2, g_ph h hi2, k_ph h hi2, k_st h, m_holderOf h hc', m_goHome h hi2]
    simp only [endR]
    by_cases h1 : F (58 + 10 * i + 7) = -1
    · simp only [h1, lk, lset, ldel, lset2, ldel2, cat2, gI_int, gA_ref, gA_null, gV_some, gC_some, gL_long, Option.toList, List.cons_append, List.nil_append, List.length_cons, List.length_nil, Nat.reduceEqDiff, Nat.reduceAdd, Nat.reduceSub, Nat.reduceLeDiff, Nat.reduceLT, nb0, nb1, reduceIte, reduceCtorEq, and_false, and_true, false_and, true_and, if_true, if_false, Bool.false_eq_true, eq_self, not_true_eq_false, not_false_eq_true]
    · by_cases h2 : holdF F (F (58 + 10 * i + 7)) = holdF F (F (58 + 10 * i + 4))
      · simp only [h1, h2, lk, lset, ldel, lset2, ldel2, cat2, gI_int, gA_ref, gA_null, gV_some, gC_some, gL_long, Option.toList, List.cons_append, List.nil_append, List.length_cons, List.length_nil, Nat.reduceEqDiff, Nat.reduceAdd, Nat.reduceSub, Nat.reduceLeDiff, Nat.reduceLT, nb0, nb1, reduceIte, reduceCtorEq, and_false, and_true, false_and, true_and, if_true, if_false, Bool.false_eq_true, eq_self, not_true_eq_false, not_false_eq_true, Int32.add_assoc]
      · simp only [h1, h2, lk, lset, ldel, lset2, ldel2, cat2, gI_int, gA_ref, gA_null, gV_some, gC_some, gL_long, Option.toList, List.cons_append, List.nil_append, List.length_cons, List.length_nil, Nat.reduceEqDiff, Nat.reduceAdd, Nat.reduceSub, Nat.reduceLeDiff, Nat.reduceLT, nb0, nb1, reduceIte, reduceCtorEq, and_false, and_true, false_and, true_and, if_true, if_false, Bool.false_eq_true, eq_self, not_true_eq_false, not_false_eq_true]
theorem m_endLoans (h : isS z S) (hc : cnt (M S) nc nh np) : run (d + 3) 51 [.ref S] (wld z M p) = some (some (.int (0 + (endR (M S) 0 np).2)), wld z (mput M S (endR (M S) 0 np).1) p) := by
  have e := fun acc rest => l_endLoans (d := d) (M := M) (p := p) h np 0 (M S) hc (by omega) acc rest
  rw [show nI 0 = 0 from nI_0, mput_self] at e
  rw [r51]
  simp only [e51_0, e51_1, e51_2, e51_3, e51_5, e51_6, e51_9, e51_12, e51_13, e51_16, e51_17, e51_18, e51_19, e51_20, e51_23, e51_24, e51_27, e51_28, e51_29, e51_32, e51_35, e51_36, e51_37, e51_40, e51_43, e51_46, e51_47, e51_50, e51_53, e51_56, e51_59, e51_60, lk, lset, ldel, lset2, ldel2, cat2, gI_int, gA_ref, gA_null, gV_some, gC_some, gL_long, Option.toList, List.cons_append, List.nil_append, List.length_cons, List.length_nil, Nat.reduceEqDiff, Nat.reduceAdd, Nat.reduceSub, Nat.reduceLeDiff, Nat.reduceLT, nb0, nb1, reduceIte, reduceCtorEq, and_false, and_true, false_and, true_and, if_true, if_false, Bool.false_eq_true, eq_self, not_true_eq_false, not_false_eq_true, e]
-- copies
theorem rowF_at {F G : Nat → Int32} {i j : Nat} : ∀ {n : Nat} (y : Nat), rowF F G i j n y = if i ≤ y ∧ y < i + n then G (j + (y - i)) else F y := by
  intro n
  induction n with
  | zero => intro y; rw [rowF, if_neg (by omega)]
  | succ n ih =>
    intro y
    rw [rowF]
    unfold fset
    by_cases e : y = i + n
    · rw [if_pos e, if_pos (by omega), e, Nat.add_sub_cancel_left]
    · rw [if_neg e, ih]
      by_cases e2 : i ≤ y ∧ y < i + n
      · rw [if_pos e2, if_pos (by omega)]
      · rw [if_neg e2, if_neg (by omega)]
/-- rows of w places each, from b on, taken from G: the rows i to i + k -/
def rowsF (G : Nat → Int32) (b w i k : Nat) (F : Nat → Int32) : Nat → Int32 := fun y => if b + w * i ≤ y ∧ y < b + w * (i + k) then G y else F y
theorem rowsF_0 {F G : Nat → Int32} {b w i : Nat} : rowsF G b w i 0 F = F := by
  funext y
  unfold rowsF
  rw [if_neg (by rw [Nat.add_zero]; omega)]
theorem rowsF_step {F G : Nat → Int32} {b w i k : Nat} : rowsF G b w (i + 1) k (rowF F G (b + w * i) (b + w * i) w) = rowsF G b w i (k + 1) F := by
  funext y
  unfold rowsF
  rw [rowF_at]
  have e1 : w * (i + 1) = w * i + w := Nat.mul_succ _ _
  have e2 : w * (i + 1 + k) = w * i + w + w * k := by rw [Nat.mul_add, e1]
  have e3 : w * (i + (k + 1)) = w * i + w + w * k := by rw [show i + (k + 1) = i + 1 + k by omega, e2]
  rw [e1, e2, e3]
  generalize w * i = a
  generalize w * k = c
  by_cases h1 : b + (a + w) ≤ y ∧ y < b + (a + w + c)
  · rw [if_pos h1, if_pos (by omega)]
  · rw [if_neg h1]
    by_cases h2 : b + a ≤ y ∧ y < b + a + w
    · rw [if_pos h2, if_pos (by omega), show b + a + (y - (b + a)) = y by omega]
    · rw [if_neg h2, if_neg (by omega)]
theorem l_cpCl (h : isS z S) (h' : isS z T) (hne : T ≠ S) {n : Nat} (hn5 : n ≤ 5) {Y : Option xR} : ∀ (k i : Nat) (F : Nat → Int32), F 0 = nI n → i + k = n → ∀ (rest : List (Nat × Value)), (∀ (x : Int32) (rest : List (Nat × Value)), X (d + 1) 32 95 ((0, .ref S) :: (1, .ref T) :: (2, .int x) :: rest) [] (wld z (mput M S (rowsF (M T) 8 2 i k F)) p) = Y) → X (d + 1) 32 66 ((0, .ref S) :: (1, .ref T) :: (2, .int (nI i)) :: rest) [] (wld z (mput M S F) p) = Y := by
  intro k
  induction k with
  | zero =>
    intro i F hF hi rest hY
    have g := nI_stop (n := n) (i := i) (by omega) (by omega)
    rw [rowsF_0] at hY
    rw [e32_66]
    simp only [e32_67, e32_68, e32_71, e32_74, e32_75, e32_78, e32_79, e32_80, e32_81, e32_84, e32_85, e32_86, e32_89, e32_92, lk, lset, ldel, lset2, ldel2, cat2, gI_int, gA_ref, gA_null, gV_some, gC_some, gL_long, Option.toList, List.cons_append, List.nil_append, List.length_cons, List.length_nil, Nat.reduceEqDiff, Nat.reduceAdd, Nat.reduceSub, Nat.reduceLeDiff, Nat.reduceLT, nb0, nb1, reduceIte, reduceCtorEq, and_false, and_true, false_and, true_and, if_true, if_false, Bool.false_eq_true, eq_self, not_true_eq_false, not_false_eq_true, mput_same, mput_mput, fset_same, g_stk h, Nat.le_refl, hF, g, hY]
  | succ k ih =>
    intro i F hF hi rest hY
    have g := nI_goon (i := i) (n := n) (by omega) (by omega)
    have hi5 : i < 5 := by omega
    have ih1 := fun rest => ih (i + 1) (rowF F (M T) (8 + 2 * i) (8 + 2 * i) 2) (by rw [rowF_at, if_neg (by omega)]; exact hF) (by omega) rest (by rw [rowsF_step]; exact hY)
    rw [e32_66]
    simp only [e32_67, e32_68, e32_71, e32_74, e32_75, e32_78, e32_79, e32_80, e32_81, e32_84, e32_85, e32_86, e32_89, e32_92, lk, lset, ldel, lset2, ldel2, cat2, gI_int, gA_ref, gA_null, gV_some, gC_some, gL_long, Option.toList, List.cons_append, List.nil_append, List.length_cons, List.length_nil, Nat.reduceEqDiff, Nat.reduceAdd, Nat.reduceSub, Nat.reduceLeDiff, Nat.reduceLT, nb0, nb1, reduceIte, reduceCtorEq, and_false, and_true, false_and, true_and, if_true, if_false, Bool.false_eq_true, eq_self, not_true_eq_false, not_false_eq_true, mput_same, mput_mput, fset_same, g_stk h, g_st0 h, g_st0 h', Nat.le_refl, hF, g, nI_1, a_cl h hi5, a_cl h' hi5, k_cl h hi5, m_clCopy h h' hne hi5 hi5, mput_ne hne, ih1]
end MV
