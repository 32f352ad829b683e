/-! the class: what is coming, what is best, snapshot, undo, text -/
section CR
variable {z : Zt} {d : Nat} {M : Nat → Nat → Int32} {p : Nat → Nat} {G : Nat → Int32} {n : Nat} {H : Nat → Nat → Int32} {kf : Int32} {K : Nat → Int32} {k : Nat} {tx : Nat → Int32} {nc nh np : Nat}
theorem cp_cnt {F G : Nat → Int32} (hc : cnt G nc nh np) : cnt (cpF F G nc nh np) nc nh np := (cpF_Lv hc.2.1 hc.2.2.2.1).cnt hc
def cqM (F : Nat → Int32) (nc np : Nat) (u x : Int32) : Int32 := if x = 0 then 0 + (sendR F (F 3 + u) 0 np).2 else 0 + sumR (tlV (sendR F (F 3 + u) 0 np).1) 0 np
theorem c_coming (hz : zok z) (hc : cnt (M (z.1 + 1)) nc nh np) {u x : Int32} (hu : 1 ≤ u ∧ u ≤ 99) (hx : 0 ≤ x ∧ x ≤ 1) {C : Nat → Int32} (hC : cpF (M (z.1 + 44)) (M (z.1 + 1)) nc nh np = C) (hs : cnt (sendR C (C 3 + u) 0 np).1 nc nh np) : run (d + 5) 96 [.ref z.1, .int u, .int x] (wld z M p) = some (some (.int (cqM C nc np u x)), wld z (mput M (z.1 + 44) (sendR C (C 3 + u) 0 np).1) p) := by
  have h := isS_tri hz
  have e0 := m_rehearsal (d := d + 1) (p := p) hz hc
  rw [hC] at e0
  have e1 := m_sendHome (d := d + 1) (M := mput M (z.1 + 44) C) (p := p) h (nc := nc) (nh := nh) (np := np) (by rw [mput_same, ← hC]; exact cp_cnt hc) (u := C 3 + u)
  rw [mput_same, mput_mput] at e1
  have e2 := m_tellsInAll (d := d) (M := mput M (z.1 + 44) (sendR C (C 3 + u) 0 np).1) (p := p) h (nc := nc) (nh := nh) (np := np) (by rw [mput_same]; exact hs)
  rw [mput_same] at e2
  rw [r96]
  unfold cqM
  by_cases h0 : x = 0
  · subst h0
    simp only [e96_0, e96_1, e96_4, e96_7, e96_8, e96_9, e96_10, e96_13, e96_16, e96_18, e96_19, e96_20, e96_23, e96_24, e96_25, e96_26, e96_29, e96_30, e96_31, e96_34, e96_36, e96_37, e96_40, e96_42, e96_45, e96_46, e96_49, lk, lset, ldel, lset2, ldel2, cat2, gI_int, gA_ref, gA_null, gV_some, gC_some, gL_long, Option.toList, List.cons_append, List.nil_append, List.length_cons, List.length_nil, Nat.reduceEqDiff, Nat.reduceAdd, Nat.reduceSub, Nat.reduceLeDiff, Nat.reduceLT, nb0, nb1, reduceIte, reduceCtorEq, and_false, and_true, false_and, true_and, if_true, if_false, Bool.false_eq_true, eq_self, not_true_eq_false, not_false_eq_true, ite_not, Classical.not_not, true_or, false_or, or_true, or_false, or_self, and_self, not_or, mput_self, bI_0, lk_same, lk_same2, lk_k1, lk_k1r, lk_ldN, ne_eq, g0_0 hz, g0_1 hz, g0_2 hz, g0_3 hz, g0_4 hz, g0_5 hz, g0_6 hz, p0_6 hz, k0 hz, g130_0 hz, g130_1 hz, p130_1 hz, k130 hz, g304_0 hz, g304_1 hz, p304_1 hz, k304 hz, g306_0 hz, g306_1 hz, g306_2 hz, g306_3 hz, g306_4 hz, p306_1 hz, p306_2 hz, p306_3 hz, p306_4 hz, k306 hz, g307_0 hz, g307_1 hz, g307_2 hz, g307_3 hz, p307_1 hz, p307_2 hz, p307_3 hz, k307 hz, mput_same, mput_mput, fset_same, m_isPassing, m_within, hu, hx, e0, e1, g_stk h, k_st h, Nat.le_refl]
  · simp only [e96_0, e96_1, e96_4, e96_7, e96_8, e96_9, e96_10, e96_13, e96_16, e96_18, e96_19, e96_20, e96_23, e96_24, e96_25, e96_26, e96_29, e96_30, e96_31, e96_34, e96_36, e96_37, e96_40, e96_42, e96_45, e96_46, e96_49, lk, lset, ldel, lset2, ldel2, cat2, gI_int, gA_ref, gA_null, gV_some, gC_some, gL_long, Option.toList, List.cons_append, List.nil_append, List.length_cons, List.length_nil, Nat.reduceEqDiff, Nat.reduceAdd, Nat.reduceSub, Nat.reduceLeDiff, Nat.reduceLT, nb0, nb1, reduceIte, reduceCtorEq, and_false, and_true, false_and, true_and, if_true, if_false, Bool.false_eq_true, eq_self, not_true_eq_false, not_false_eq_true, ite_not, Classical.not_not, true_or, false_or, or_true, or_false, or_self, and_self, not_or, mput_self, bI_0, lk_same, lk_same2, lk_k1, lk_k1r, lk_ldN, ne_eq, g0_0 hz, g0_1 hz, g0_2 hz, g0_3 hz, g0_4 hz, g0_5 hz, g0_6 hz, p0_6 hz, k0 hz, g130_0 hz, g130_1 hz, p130_1 hz, k130 hz, g304_0 hz, g304_1 hz, p304_1 hz, k304 hz, g306_0 hz, g306_1 hz, g306_2 hz, g306_3 hz, g306_4 hz, p306_1 hz, p306_2 hz, p306_3 hz, p306_4 hz, k306 hz, g307_0 hz, g307_1 hz, g307_2 hz, g307_3 hz, p307_1 hz, p307_2 hz, p307_3 hz, k307 hz, mput_same, mput_mput, fset_same, m_isPassing, m_within, hu, hx, h0, e0, e1, e2, g_stk h, k_st h, Nat.le_refl]
theorem c_comingNo {u x : Int32} {w : Wd} {a : Nat} (h : ¬ (1 ≤ u ∧ u ≤ 99) ∨ ¬ (0 ≤ x ∧ x ≤ 1)) : run (d + 3) 96 [.ref a, .int u, .int x] w = some (some (.int (-100001)), w) := by
  rw [r96]
  by_cases h1 : 1 ≤ u ∧ u ≤ 99
  · have h2 := h.resolve_left (fun q => q h1)
    simp only [e96_0, e96_1, e96_4, e96_7, e96_8, e96_9, e96_10, e96_13, e96_16, e96_18, lk, lset, ldel, lset2, ldel2, cat2, gI_int, gA_ref, gA_null, gV_some, gC_some, gL_long, Option.toList, List.cons_append, List.nil_append, List.length_cons, List.length_nil, Nat.reduceEqDiff, Nat.reduceAdd, Nat.reduceSub, Nat.reduceLeDiff, Nat.reduceLT, nb0, nb1, reduceIte, reduceCtorEq, and_false, and_true, false_and, true_and, if_true, if_false, Bool.false_eq_true, eq_self, not_true_eq_false, not_false_eq_true, ite_not, Classical.not_not, true_or, false_or, or_true, or_false, or_self, and_self, not_or, mput_self, bI_0, m_isPassing, m_within, h1, h2]
  · simp only [e96_0, e96_1, e96_4, e96_7, e96_8, e96_9, e96_10, e96_13, e96_16, e96_18, lk, lset, ldel, lset2, ldel2, cat2, gI_int, gA_ref, gA_null, gV_some, gC_some, gL_long, Option.toList, List.cons_append, List.nil_append, List.length_cons, List.length_nil, Nat.reduceEqDiff, Nat.reduceAdd, Nat.reduceSub, Nat.reduceLeDiff, Nat.reduceLT, nb0, nb1, reduceIte, reduceCtorEq, and_false, and_true, false_and, true_and, if_true, if_false, Bool.false_eq_true, eq_self, not_true_eq_false, not_false_eq_true, ite_not, Classical.not_not, true_or, false_or, or_true, or_false, or_self, and_self, not_or, mput_self, bI_0, m_isPassing, m_within, h1]
-- best
def bstC (B : Nat → Int32) : Nat → Nat → Int32 → Int32 → Int32 × Int32
  | _, 0, b, l => (b, l)
  | i, k + 1, b, l => if b = -1 ∨ B i < l then bstC B (i + 1) k (nI i) (B i) else bstC B (i + 1) k b l
theorem c_tellsWithout (hz : zok z) (hc : cnt (M (z.1 + 1)) nc nh np) {i : Nat} (hi : i < nh) {C : Nat → Int32} (hC : cpF (M (z.1 + 44)) (M (z.1 + 1)) nc nh np = C) (ht : cnt (tkF C nh np i) nc (nh - 1) np) : run (d + 5) 98 [.ref z.1, .int (nI i)] (wld z M p) = some (some (.int (0 + sumR (tlV (tkF C nh np i)) 0 np)), wld z (mput M (z.1 + 44) (tkF C nh np i)) p) := by
  have h := isS_tri hz
  have e0 := m_rehearsal (d := d + 1) (p := p) hz hc
  rw [hC] at e0
  have e1 := m_takeBack (d := d) (M := mput M (z.1 + 44) C) (p := p) h (nc := nc) (nh := nh) (np := np) (by rw [mput_same, ← hC]; exact cp_cnt hc) hi
  rw [mput_same, mput_mput] at e1
  have e2 := m_tellsInAll (d := d) (M := mput M (z.1 + 44) (tkF C nh np i)) (p := p) h (nc := nc) (nh := nh - 1) (np := np) (by rw [mput_same]; exact ht)
  rw [mput_same] at e2
  rw [r98]
  simp only [e98_0, e98_1, e98_4, e98_5, e98_6, e98_7, e98_10, e98_11, e98_12, e98_15, lk, lset, ldel, lset2, ldel2, cat2, gI_int, gA_ref, gA_null, gV_some, gC_some, gL_long, Option.toList, List.cons_append, List.nil_append, List.length_cons, List.length_nil, Nat.reduceEqDiff, Nat.reduceAdd, Nat.reduceSub, Nat.reduceLeDiff, Nat.reduceLT, nb0, nb1, reduceIte, reduceCtorEq, and_false, and_true, false_and, true_and, if_true, if_false, Bool.false_eq_true, eq_self, not_true_eq_false, not_false_eq_true, ite_not, Classical.not_not, true_or, false_or, or_true, or_false, or_self, and_self, not_or, mput_self, bI_0, lk_same, lk_same2, lk_k1, lk_k1r, lk_ldN, ne_eq, g0_0 hz, g0_1 hz, g0_2 hz, g0_3 hz, g0_4 hz, g0_5 hz, g0_6 hz, p0_6 hz, k0 hz, g130_0 hz, g130_1 hz, p130_1 hz, k130 hz, g304_0 hz, g304_1 hz, p304_1 hz, k304 hz, g306_0 hz, g306_1 hz, g306_2 hz, g306_3 hz, g306_4 hz, p306_1 hz, p306_2 hz, p306_3 hz, p306_4 hz, k306 hz, g307_0 hz, g307_1 hz, g307_2 hz, g307_3 hz, p307_1 hz, p307_2 hz, p307_3 hz, k307 hz, e0, e1, e2, k_st h]
theorem l_cbest (hz : zok z) {F : Nat → Int32} (hc : cnt F nc nh np) {B : Nat → Int32} (hB : ∀ T i, i < nh → 0 + sumR (tlV (tkF (cpF T F nc nh np) nh np i)) 0 np = B i) (ht : ∀ T i, i < nh → cnt (tkF (cpF T F nc nh np) nh np i) nc (nh - 1) np) {x : Int32} : ∀ (k i : Nat) (M : Nat → Nat → Int32), M (z.1 + 1) = F → i + k = nh → ∀ (b l : Int32) (rest : List (Nat × Value)), ∃ T, X (d + 5) 97 19 ((0, .ref z.1) :: (1, .int x) :: (2, .int b) :: (3, .int l) :: (4, .int (nI i)) :: rest) [] (wld z M p) = some (some (.int (if (bstC B i k b l).1 = -1 then -100004 else if x = 0 then (bstC B i k b l).1 else (bstC B i k b l).2)), wld z (mput M (z.1 + 44) T) p) := by
  intro k
  have hh := hc.2.2.2.1
  have h := isS_now hz
  induction k with
  | zero =>
    intro i M hF hi b l rest
    have g := nI_stop (n := nh) (i := i) (by omega) (by omega)
    have c1 : M (z.1 + 1) 1 = nI nh := by rw [hF]; exact hc.2.2.1
    refine ⟨M (z.1 + 44), ?_⟩
    rw [mput_self, e97_19]
    simp only [bstC]
    by_cases h1 : b = -1
    · simp only [e97_21, e97_22, e97_25, e97_28, e97_31, e97_32, e97_34, e97_37, e97_39, e97_40, e97_41, e97_44, e97_46, e97_47, e97_50, e97_52, e97_53, e97_55, e97_56, e97_59, e97_62, e97_63, e97_64, e97_67, e97_69, e97_70, e97_71, e97_74, e97_75, e97_78, e97_79, lk, lset, ldel, lset2, ldel2, cat2, gI_int, gA_ref, gA_null, gV_some, gC_some, gL_long, Option.toList, List.cons_append, List.nil_append, List.length_cons, List.length_nil, Nat.reduceEqDiff, Nat.reduceAdd, Nat.reduceSub, Nat.reduceLeDiff, Nat.reduceLT, nb0, nb1, reduceIte, reduceCtorEq, and_false, and_true, false_and, true_and, if_true, if_false, Bool.false_eq_true, eq_self, not_true_eq_false, not_false_eq_true, ite_not, Classical.not_not, true_or, false_or, or_true, or_false, or_self, and_self, not_or, mput_self, bI_0, g0_0 hz, g0_1 hz, g0_2 hz, g0_3 hz, g0_4 hz, g0_5 hz, g0_6 hz, p0_6 hz, k0 hz, g130_0 hz, g130_1 hz, p130_1 hz, k130 hz, g304_0 hz, g304_1 hz, p304_1 hz, k304 hz, g306_0 hz, g306_1 hz, g306_2 hz, g306_3 hz, g306_4 hz, p306_1 hz, p306_2 hz, p306_3 hz, p306_4 hz, k306 hz, g307_0 hz, g307_1 hz, g307_2 hz, g307_3 hz, p307_1 hz, p307_2 hz, p307_3 hz, k307 hz, g_stk h, Nat.le_refl, c1, g, h1]
    · by_cases h2 : x = 0 <;> simp only [e97_21, e97_22, e97_25, e97_28, e97_31, e97_32, e97_34, e97_37, e97_39, e97_40, e97_41, e97_44, e97_46, e97_47, e97_50, e97_52, e97_53, e97_55, e97_56, e97_59, e97_62, e97_63, e97_64, e97_67, e97_69, e97_70, e97_71, e97_74, e97_75, e97_78, e97_79, lk, lset, ldel, lset2, ldel2, cat2, gI_int, gA_ref, gA_null, gV_some, gC_some, gL_long, Option.toList, List.cons_append, List.nil_append, List.length_cons, List.length_nil, Nat.reduceEqDiff, Nat.reduceAdd, Nat.reduceSub, Nat.reduceLeDiff, Nat.reduceLT, nb0, nb1, reduceIte, reduceCtorEq, and_false, and_true, false_and, true_and, if_true, if_false, Bool.false_eq_true, eq_self, not_true_eq_false, not_false_eq_true, ite_not, Classical.not_not, true_or, false_or, or_true, or_false, or_self, and_self, not_or, mput_self, bI_0, g0_0 hz, g0_1 hz, g0_2 hz, g0_3 hz, g0_4 hz, g0_5 hz, g0_6 hz, p0_6 hz, k0 hz, g130_0 hz, g130_1 hz, p130_1 hz, k130 hz, g304_0 hz, g304_1 hz, p304_1 hz, k304 hz, g306_0 hz, g306_1 hz, g306_2 hz, g306_3 hz, g306_4 hz, p306_1 hz, p306_2 hz, p306_3 hz, p306_4 hz, k306 hz, g307_0 hz, g307_1 hz, g307_2 hz, g307_3 hz, p307_1 hz, p307_2 hz, p307_3 hz, k307 hz, g_stk h, Nat.le_refl, c1, g, h1, h2]
  | succ k ih =>
    intro i M hF hi b l rest
    have g := nI_goon (i := i) (n := nh) (by omega) (by omega)
    have c1 : M (z.1 + 1) 1 = nI nh := by rw [hF]; exact hc.2.2.1
    have e1 := c_tellsWithout (d := d) (M := M) (p := p) hz (by rw [hF]; exact hc) (show i < nh by omega) (C := cpF (M (z.1 + 44)) F nc nh np) (by rw [hF]) (ht _ i (by omega))
    rw [hB _ i (by omega)] at e1
    generalize tkF (cpF (M (z.1 + 44)) F nc nh np) nh np i = T1 at e1
    have hF1 : mput M (z.1 + 44) T1 (z.1 + 1) = F := by rw [mput_ne (by omega)]; exact hF
    have nn : (l ≤ B i) = ¬ B i < l := by rw [Int32.not_lt]
    rw [e97_19]
    simp only [bstC]
    by_cases h1 : b = -1
    · obtain ⟨T, e2⟩ := ih (i + 1) (mput M (z.1 + 44) T1) hF1 (by omega) (nI i) (B i) (ldel (ldel (ldel (lset rest 5 (.int (B i))) 2) 3) 4)
      rw [mput_mput] at e2
      refine ⟨T, ?_⟩
      simp only [e97_21, e97_22, e97_25, e97_28, e97_31, e97_32, e97_34, e97_37, e97_39, e97_40, e97_41, e97_44, e97_46, e97_47, e97_50, e97_52, e97_53, e97_55, e97_56, e97_59, lk, lset, ldel, lset2, ldel2, cat2, gI_int, gA_ref, gA_null, gV_some, gC_some, gL_long, Option.toList, List.cons_append, List.nil_append, List.length_cons, List.length_nil, Nat.reduceEqDiff, Nat.reduceAdd, Nat.reduceSub, Nat.reduceLeDiff, Nat.reduceLT, nb0, nb1, reduceIte, reduceCtorEq, and_false, and_true, false_and, true_and, if_true, if_false, Bool.false_eq_true, eq_self, not_true_eq_false, not_false_eq_true, ite_not, Classical.not_not, true_or, false_or, or_true, or_false, or_self, and_self, not_or, mput_self, bI_0, lk_same, lk_same2, lk_k1, lk_k1r, lk_ldN, ne_eq, g0_0 hz, g0_1 hz, g0_2 hz, g0_3 hz, g0_4 hz, g0_5 hz, g0_6 hz, p0_6 hz, k0 hz, g130_0 hz, g130_1 hz, p130_1 hz, k130 hz, g304_0 hz, g304_1 hz, p304_1 hz, k304 hz, g306_0 hz, g306_1 hz, g306_2 hz, g306_3 hz, g306_4 hz, p306_1 hz, p306_2 hz, p306_3 hz, p306_4 hz, k306 hz, g307_0 hz, g307_1 hz, g307_2 hz, g307_3 hz, p307_1 hz, p307_2 hz, p307_3 hz, k307 hz, g_stk h, Nat.le_refl, c1, g, e1, h1, nI_1, e2]
    · by_cases h2 : B i < l
      · obtain ⟨T, e2⟩ := ih (i + 1) (mput M (z.1 + 44) T1) hF1 (by omega) (nI i) (B i) (ldel (ldel (ldel (lset rest 5 (.int (B i))) 2) 3) 4)
        rw [mput_mput] at e2
        refine ⟨T, ?_⟩
        simp only [e97_21, e97_22, e97_25, e97_28, e97_31, e97_32, e97_34, e97_37, e97_39, e97_40, e97_41, e97_44, e97_46, e97_47, e97_50, e97_52, e97_53, e97_55, e97_56, e97_59, lk, lset, ldel, lset2, ldel2, cat2, gI_int, gA_ref, gA_null, gV_some, gC_some, gL_long, Option.toList, List.cons_append, List.nil_append, List.length_cons, List.length_nil, Nat.reduceEqDiff, Nat.reduceAdd, Nat.reduceSub, Nat.reduceLeDiff, Nat.reduceLT, nb0, nb1, reduceIte, reduceCtorEq, and_false, and_true, false_and, true_and, if_true, if_false, Bool.false_eq_true, eq_self, not_true_eq_false, not_false_eq_true, ite_not, Classical.not_not, true_or, false_or, or_true, or_false, or_self, and_self, not_or, mput_self, bI_0, lk_same, lk_same2, lk_k1, lk_k1r, lk_ldN, ne_eq, g0_0 hz, g0_1 hz, g0_2 hz, g0_3 hz, g0_4 hz, g0_5 hz, g0_6 hz, p0_6 hz, k0 hz, g130_0 hz, g130_1 hz, p130_1 hz, k130 hz, g304_0 hz, g304_1 hz, p304_1 hz, k304 hz, g306_0 hz, g306_1 hz, g306_2 hz, g306_3 hz, g306_4 hz, p306_1 hz, p306_2 hz, p306_3 hz, p306_4 hz, k306 hz, g307_0 hz, g307_1 hz, g307_2 hz, g307_3 hz, p307_1 hz, p307_2 hz, p307_3 hz, k307 hz, g_stk h, Nat.le_refl, c1, g, e1, h1, nn, h2, nI_1, e2]
      · obtain ⟨T, e2⟩ := ih (i + 1) (mput M (z.1 + 44) T1) hF1 (by omega) b l (ldel (lset rest 5 (.int (B i))) 4)
        rw [mput_mput] at e2
        refine ⟨T, ?_⟩
        simp only [e97_21, e97_22, e97_25, e97_28, e97_31, e97_32, e97_34, e97_37, e97_39, e97_40, e97_41, e97_44, e97_46, e97_47, e97_50, e97_52, e97_53, e97_55, e97_56, e97_59, lk, lset, ldel, lset2, ldel2, cat2, gI_int, gA_ref, gA_null, gV_some, gC_some, gL_long, Option.toList, List.cons_append, List.nil_append, List.length_cons, List.length_nil, Nat.reduceEqDiff, Nat.reduceAdd, Nat.reduceSub, Nat.reduceLeDiff, Nat.reduceLT, nb0, nb1, reduceIte, reduceCtorEq, and_false, and_true, false_and, true_and, if_true, if_false, Bool.false_eq_true, eq_self, not_true_eq_false, not_false_eq_true, ite_not, Classical.not_not, true_or, false_or, or_true, or_false, or_self, and_self, not_or, mput_self, bI_0, lk_same, lk_same2, lk_k1, lk_k1r, lk_ldN, ne_eq, g0_0 hz, g0_1 hz, g0_2 hz, g0_3 hz, g0_4 hz, g0_5 hz, g0_6 hz, p0_6 hz, k0 hz, g130_0 hz, g130_1 hz, p130_1 hz, k130 hz, g304_0 hz, g304_1 hz, p304_1 hz, k304 hz, g306_0 hz, g306_1 hz, g306_2 hz, g306_3 hz, g306_4 hz, p306_1 hz, p306_2 hz, p306_3 hz, p306_4 hz, k306 hz, g307_0 hz, g307_1 hz, g307_2 hz, g307_3 hz, p307_1 hz, p307_2 hz, p307_3 hz, k307 hz, g_stk h, Nat.le_refl, c1, g, e1, h1, nn, h2, nI_1, e2]
-- snapshot and undo
theorem c_keep (h : CS z M p G n H kf K k tx) : ∃ M' v, run (d + 3) 99 [.ref z.1] (wld z M p) = some (some (.int v), wld z M' p) ∧ v = G 2 ∧ mfr z M M' ∧ CS z M' p G n H 1 G k tx := by
  obtain ⟨h1, ⟨nc, nh, np, hc, hl⟩, h3, h4, h5, h6, h7, h8, h9, h10⟩ := h
  have hz := h1.1
  have hs : isS z (z.1 + 87) := ⟨hz, by omega⟩
  have hcF := hl.cnt hc
  have q : z.1 ≠ z.1 + 87 := by omega
  have q2 : z.1 + 87 ≠ z.1 := by omega
  have e0 := m_stCopy (d := d) (M := M) (p := p) hs (isS_now hz) (show z.1 + 1 ≠ z.1 + 87 by omega) hcF
  have hv : cpF (M (z.1 + 87)) (M (z.1 + 1)) nc nh np 2 = G 2 := by
    rw [(cp_cnt hcF).2.2.2.2.1, hc.2.2.2.2.1]
  refine ⟨mput (mput M (z.1 + 87) (cpF (M (z.1 + 87)) (M (z.1 + 1)) nc nh np)) z.1 (fset (M z.1) 6 1), _, ?_, hv, (mfr.rf.put (by omega)).put (by omega), ⟨h1, ?_, ?_, h4, fun j hj => ?_, ?_, ?_, ?_, h9, fun j hj => ?_⟩⟩
  · rw [r99]
    simp only [e99_0, e99_1, e99_4, e99_5, e99_8, e99_11, e99_12, e99_13, e99_13t, e99_16, e99_17, e99_20, e99_23, lk, lset, ldel, lset2, ldel2, cat2, gI_int, gA_ref, gA_null, gV_some, gC_some, gL_long, Option.toList, List.cons_append, List.nil_append, List.length_cons, List.length_nil, Nat.reduceEqDiff, Nat.reduceAdd, Nat.reduceSub, Nat.reduceLeDiff, Nat.reduceLT, nb0, nb1, reduceIte, reduceCtorEq, and_false, and_true, false_and, true_and, if_true, if_false, Bool.false_eq_true, eq_self, not_true_eq_false, not_false_eq_true, g0_0 hz, g0_1 hz, g0_2 hz, g0_3 hz, g0_4 hz, g0_5 hz, g0_6 hz, p0_6 hz, k0 hz, g130_0 hz, g130_1 hz, p130_1 hz, k130 hz, g304_0 hz, g304_1 hz, p304_1 hz, k304 hz, g306_0 hz, g306_1 hz, g306_2 hz, g306_3 hz, g306_4 hz, p306_1 hz, p306_2 hz, p306_3 hz, p306_4 hz, k306 hz, g307_0 hz, g307_1 hz, g307_2 hz, g307_3 hz, p307_1 hz, p307_2 hz, p307_3 hz, k307 hz, k_st hs, e0, mput_ne q, g_stk hs, Nat.le_refl, mput_ne q2, mput_same]
  · rw [mput_ne (by omega), mput_ne (by omega)]; exact ⟨nc, nh, np, hc, hl⟩
  · rw [mput_ne (by omega), mput_ne (by omega)]; exact h3
  · have := h1.2.1 j (by omega)
    rw [mput_ne (by omega), mput_ne (by omega)]; exact h5 j hj
  · rw [mput_same, fset_same]
  · refine Or.inr ⟨rfl, ?_⟩
    rw [mput_ne (by omega), mput_same]
    exact Lq_cp hc hl
  · rw [mput_ne (by omega), mput_ne (by omega)]; exact h8
  · rw [mput_ne (by omega), mput_ne (by omega)]; exact h10 j hj
theorem c_restore (h : CS z M p G n H kf K k tx) (hk : kf = 1) : ∃ M' p' v, run (d + 4) 100 [.ref z.1] (wld z M p) = some (some (.int v), wld z M' p') ∧ v = K 2 ∧ mfr z M M' ∧ CS z M' p' K (pushN n) (pushH n H G) kf K k tx := by
  have hz := h.1.1
  have hs : isS z (z.1 + 87) := ⟨hz, by omega⟩
  have h6 := h.2.2.2.2.2.1
  obtain ⟨nc, nh, np, hc, hl⟩ := (h.2.2.2.2.2.2.1.resolve_left (by rw [hk]; decide)).2
  obtain ⟨M1, p1, e1, c1, f1, t1, w1, s1⟩ := c_push (d := d) h
  have hcK : cnt (M1 (z.1 + 87)) nc nh np := by rw [s1]; exact hl.cnt hc
  have e0 := m_stCopy (d := d + 1) (M := M1) (p := p1) (isS_now hz) hs (show z.1 + 87 ≠ z.1 + 1 by omega) hcK
  have hv : cpF (M1 (z.1 + 1)) (M1 (z.1 + 87)) nc nh np 2 = K 2 := by
    rw [(cp_cnt hcK).2.2.2.2.1, hc.2.2.2.2.1]
  have n10 : ¬ (1 : Int32) = 0 := by decide
  rw [hk] at h6
  refine ⟨mput M1 (z.1 + 1) (cpF (M1 (z.1 + 1)) (M1 (z.1 + 87)) nc nh np), p1, _, ?_, hv, f1.put (by omega), CS.now (M0 := M) c1 (Lq_cp hc (by rw [s1]; exact hl))⟩
  rw [r100]
  simp only [e100_0, e100_1, e100_4, e100_7, e100_9, e100_10, e100_11, e100_14, e100_15, e100_18, e100_21, e100_22, e100_25, e100_26, e100_29, e100_32, e100_33, e100_36, e100_39, lk, lset, ldel, lset2, ldel2, cat2, gI_int, gA_ref, gA_null, gV_some, gC_some, gL_long, Option.toList, List.cons_append, List.nil_append, List.length_cons, List.length_nil, Nat.reduceEqDiff, Nat.reduceAdd, Nat.reduceSub, Nat.reduceLeDiff, Nat.reduceLT, nb0, nb1, reduceIte, reduceCtorEq, and_false, and_true, false_and, true_and, if_true, if_false, Bool.false_eq_true, eq_self, not_true_eq_false, not_false_eq_true, g0_0 hz, g0_1 hz, g0_2 hz, g0_3 hz, g0_4 hz, g0_5 hz, g0_6 hz, p0_6 hz, k0 hz, g130_0 hz, g130_1 hz, p130_1 hz, k130 hz, g304_0 hz, g304_1 hz, p304_1 hz, k304 hz, g306_0 hz, g306_1 hz, g306_2 hz, g306_3 hz, g306_4 hz, p306_1 hz, p306_2 hz, p306_3 hz, p306_4 hz, k306 hz, g307_0 hz, g307_1 hz, g307_2 hz, g307_3 hz, p307_1 hz, p307_2 hz, p307_3 hz, k307 hz, h6, n10, e1, k_st (isS_now hz), e0, g_stk (isS_now hz), Nat.le_refl, mput_same]
theorem c_restoreNo (h : CS z M p G n H kf K k tx) (hk : kf = 0) : run (d + 4) 100 [.ref z.1] (wld z M p) = some (some (.int (-100002)), wld z M p) := by
  have hz := h.1.1
  have h6 := h.2.2.2.2.2.1
  rw [hk] at h6
  rw [r100]
  simp only [e100_0, e100_1, e100_4, e100_7, e100_9, e100_10, e100_11, e100_14, e100_15, e100_18, e100_21, e100_22, e100_25, e100_26, e100_29, e100_32, e100_33, e100_36, e100_39, lk, lset, ldel, lset2, ldel2, cat2, gI_int, gA_ref, gA_null, gV_some, gC_some, gL_long, Option.toList, List.cons_append, List.nil_append, List.length_cons, List.length_nil, Nat.reduceEqDiff, Nat.reduceAdd, Nat.reduceSub, Nat.reduceLeDiff, Nat.reduceLT, nb0, nb1, reduceIte, reduceCtorEq, and_false, and_true, false_and, true_and, if_true, if_false, Bool.false_eq_true, eq_self, not_true_eq_false, not_false_eq_true, g0_0 hz, g0_1 hz, g0_2 hz, g0_3 hz, g0_4 hz, g0_5 hz, g0_6 hz, p0_6 hz, k0 hz, g130_0 hz, g130_1 hz, p130_1 hz, k130 hz, g304_0 hz, g304_1 hz, p304_1 hz, k304 hz, g306_0 hz, g306_1 hz, g306_2 hz, g306_3 hz, g306_4 hz, p306_1 hz, p306_2 hz, p306_3 hz, p306_4 hz, k306 hz, g307_0 hz, g307_1 hz, g307_2 hz, g307_3 hz, p307_1 hz, p307_2 hz, p307_3 hz, k307 hz, h6]
theorem c_undo (h : CS z M p G (n + 1) H kf K k tx) : ∃ M', run (d + 4) 101 [.ref z.1] (wld z M p) = some (some (.int (nI n)), wld z M' p) ∧ mfr z M M' ∧ CS z M' p (H n) n H kf K k tx := by
  obtain ⟨h1, h2, h3, h4, h5, h6, h7, h8, h9, h10⟩ := h
  have hz := h1.1
  obtain ⟨nc, nh, np, hc, hl⟩ := h5 n (by omega)
  have hn := h1.2.1 n (by omega)
  have q1 : z.1 + 130 ≠ z.1 + 1 := by omega
  have n10 : ¬ (1 : Int32) = 0 := by decide
  have e0 := m_popInto (d := d) (M := M) (p := p) (T := z.1 + 1) (n := n) h1 (isS_now hz) h3 (by omega) (hl.cnt hc) (by omega) (by omega)
  refine ⟨mput (mput M (z.1 + 130) (fset (M (z.1 + 130)) 1 (nI n))) (z.1 + 1) (cpF (M (z.1 + 1)) (M (p n)) nc nh np), ?_, (mfr.rf.put (by omega)).put (by omega), ⟨h1, ?_, ?_, by omega, fun j hj => ?_, ?_, ?_, ?_, h9, fun j hj => ?_⟩⟩
  · rw [r101]
    simp only [e101_0, e101_1, e101_4, e101_5, e101_8, e101_11, e101_14, e101_15, e101_18, e101_21, e101_24, e101_26, lk, lset, ldel, lset2, ldel2, cat2, gI_int, gA_ref, gA_null, gV_some, gC_some, gL_long, Option.toList, List.cons_append, List.nil_append, List.length_cons, List.length_nil, Nat.reduceEqDiff, Nat.reduceAdd, Nat.reduceSub, Nat.reduceLeDiff, Nat.reduceLT, nb0, nb1, reduceIte, reduceCtorEq, and_false, and_true, false_and, true_and, if_true, if_false, Bool.false_eq_true, eq_self, not_true_eq_false, not_false_eq_true, g0_0 hz, g0_1 hz, g0_2 hz, g0_3 hz, g0_4 hz, g0_5 hz, g0_6 hz, p0_6 hz, k0 hz, g130_0 hz, g130_1 hz, p130_1 hz, k130 hz, g304_0 hz, g304_1 hz, p304_1 hz, k304 hz, g306_0 hz, g306_1 hz, g306_2 hz, g306_3 hz, g306_4 hz, p306_1 hz, p306_2 hz, p306_3 hz, p306_4 hz, k306 hz, g307_0 hz, g307_1 hz, g307_2 hz, g307_3 hz, p307_1 hz, p307_2 hz, p307_3 hz, k307 hz, e0, n10, mput_ne q1, mput_same, fset_same]
  · rw [mput_same]; exact Lq_cp hc hl
  · rw [mput_ne (by omega), mput_same, fset_same]
  · have := h1.2.1 j (by omega)
    rw [mput_ne (by omega), mput_ne (by omega)]; exact h5 j (by omega)
  · rw [mput_ne (by omega), mput_ne (by omega)]; exact h6
  · rw [mput_ne (by omega), mput_ne (by omega)]; exact h7
  · rw [mput_ne (by omega), mput_ne (by omega)]; exact h8
  · rw [mput_ne (by omega), mput_ne (by omega)]; exact h10 j hj
theorem c_undoNo (h : CS z M p G 0 H kf K k tx) : run (d + 4) 101 [.ref z.1] (wld z M p) = some (some (.int (-100002)), wld z M p) := by
  have hz := h.1.1
  have h3 := h.2.2.1
  rw [l0] at h3
  rw [r101]
  simp only [e101_0, e101_1, e101_4, e101_5, e101_8, e101_11, e101_14, e101_15, e101_18, e101_21, e101_24, e101_26, lk, lset, ldel, lset2, ldel2, cat2, gI_int, gA_ref, gA_null, gV_some, gC_some, gL_long, Option.toList, List.cons_append, List.nil_append, List.length_cons, List.length_nil, Nat.reduceEqDiff, Nat.reduceAdd, Nat.reduceSub, Nat.reduceLeDiff, Nat.reduceLT, nb0, nb1, reduceIte, reduceCtorEq, and_false, and_true, false_and, true_and, if_true, if_false, Bool.false_eq_true, eq_self, not_true_eq_false, not_false_eq_true, g0_0 hz, g0_1 hz, g0_2 hz, g0_3 hz, g0_4 hz, g0_5 hz, g0_6 hz, p0_6 hz, k0 hz, g130_0 hz, g130_1 hz, p130_1 hz, k130 hz, g304_0 hz, g304_1 hz, p304_1 hz, k304 hz, g306_0 hz, g306_1 hz, g306_2 hz, g306_3 hz, g306_4 hz, p306_1 hz, p306_2 hz, p306_3 hz, p306_4 hz, k306 hz, g307_0 hz, g307_1 hz, g307_2 hz, g307_3 hz, p307_1 hz, p307_2 hz, p307_3 hz, k307 hz, m_popNo hz h3]
-- the text
theorem c_type (h : CS z M p G n H kf K k tx) {c : Int32} (hx : 32 ≤ c ∧ c ≤ 126) (hk60 : k < 60) : ∃ M', run (d + 3) 102 [.ref z.1, .int c] (wld z M p) = some (some (.int (nI (k + 1))), wld z M' p) ∧ mfr z M M' ∧ CS z M' p G n H kf K (k + 1) (fset tx k c) := by
  obtain ⟨h1, h2, h3, h4, h5, h6, h7, h8, h9, h10⟩ := h
  have hz := h1.1
  refine ⟨mput (mput M (z.1 + 305) (fset (M (z.1 + 305)) k c)) (z.1 + 304) (fset (M (z.1 + 304)) 1 (nI (k + 1))), ?_, (mfr.rf.put (by omega)).put (by omega), ⟨h1, ?_, ?_, h4, fun j hj => ?_, ?_, ?_, ?_, by omega, fun j hj => ?_⟩⟩
  · rw [r102]
    simp only [e102_0, e102_1, e102_4, e102_5, e102_8, lk, lset, ldel, lset2, ldel2, cat2, gI_int, gA_ref, gA_null, gV_some, gC_some, gL_long, Option.toList, List.cons_append, List.nil_append, List.length_cons, List.length_nil, Nat.reduceEqDiff, Nat.reduceAdd, Nat.reduceSub, Nat.reduceLeDiff, Nat.reduceLT, nb0, nb1, reduceIte, reduceCtorEq, and_false, and_true, false_and, true_and, if_true, if_false, Bool.false_eq_true, eq_self, not_true_eq_false, not_false_eq_true, g0_0 hz, g0_1 hz, g0_2 hz, g0_3 hz, g0_4 hz, g0_5 hz, g0_6 hz, p0_6 hz, k0 hz, g130_0 hz, g130_1 hz, p130_1 hz, k130 hz, g304_0 hz, g304_1 hz, p304_1 hz, k304 hz, g306_0 hz, g306_1 hz, g306_2 hz, g306_3 hz, g306_4 hz, p306_1 hz, p306_2 hz, p306_3 hz, p306_4 hz, k306 hz, g307_0 hz, g307_1 hz, g307_2 hz, g307_3 hz, p307_1 hz, p307_2 hz, p307_3 hz, k307 hz, m_append hz h8 hk60 hx]
  · rw [mput_ne (by omega), mput_ne (by omega)]; exact h2
  · rw [mput_ne (by omega), mput_ne (by omega)]; exact h3
  · have := h1.2.1 j (by omega)
    rw [mput_ne (by omega), mput_ne (by omega)]; exact h5 j hj
  · rw [mput_ne (by omega), mput_ne (by omega)]; exact h6
  · rw [mput_ne (by omega), mput_ne (by omega)]; exact h7
  · rw [mput_same, fset_same]
  · rw [mput_ne (by omega), mput_same]
    unfold fset
    by_cases e : j = k
    · rw [if_pos e, if_pos e]
    · rw [if_neg e, if_neg e]; exact h10 j (by omega)
theorem c_typeFull (h : CS z M p G n H kf K 60 tx) {c : Int32} (hx : 32 ≤ c ∧ c ≤ 126) : run (d + 3) 102 [.ref z.1, .int c] (wld z M p) = some (some (.int (-100003)), wld z M p) := by
  have hz := h.1.1
  have h8 := h.2.2.2.2.2.2.2.1
  rw [r102]
  simp only [e102_0, e102_1, e102_4, e102_5, e102_8, lk, lset, ldel, lset2, ldel2, cat2, gI_int, gA_ref, gA_null, gV_some, gC_some, gL_long, Option.toList, List.cons_append, List.nil_append, List.length_cons, List.length_nil, Nat.reduceEqDiff, Nat.reduceAdd, Nat.reduceSub, Nat.reduceLeDiff, Nat.reduceLT, nb0, nb1, reduceIte, reduceCtorEq, and_false, and_true, false_and, true_and, if_true, if_false, Bool.false_eq_true, eq_self, not_true_eq_false, not_false_eq_true, g0_0 hz, g0_1 hz, g0_2 hz, g0_3 hz, g0_4 hz, g0_5 hz, g0_6 hz, p0_6 hz, k0 hz, g130_0 hz, g130_1 hz, p130_1 hz, k130 hz, g304_0 hz, g304_1 hz, p304_1 hz, k304 hz, g306_0 hz, g306_1 hz, g306_2 hz, g306_3 hz, g306_4 hz, p306_1 hz, p306_2 hz, p306_3 hz, p306_4 hz, k306 hz, g307_0 hz, g307_1 hz, g307_2 hz, g307_3 hz, p307_1 hz, p307_2 hz, p307_3 hz, k307 hz, m_appendFull hz h8 hx]
theorem c_typeNo (hz : zok z) {c : Int32} (hx : ¬ (32 ≤ c ∧ c ≤ 126)) : run (d + 3) 102 [.ref z.1, .int c] (wld z M p) = some (some (.int (-100001)), wld z M p) := by
  rw [r102]
  simp only [e102_0, e102_1, e102_4, e102_5, e102_8, lk, lset, ldel, lset2, ldel2, cat2, gI_int, gA_ref, gA_null, gV_some, gC_some, gL_long, Option.toList, List.cons_append, List.nil_append, List.length_cons, List.length_nil, Nat.reduceEqDiff, Nat.reduceAdd, Nat.reduceSub, Nat.reduceLeDiff, Nat.reduceLT, nb0, nb1, reduceIte, reduceCtorEq, and_false, and_true, false_and, true_and, if_true, if_false, Bool.false_eq_true, eq_self, not_true_eq_false, not_false_eq_true, g0_0 hz, g0_1 hz, g0_2 hz, g0_3 hz, g0_4 hz, g0_5 hz, g0_6 hz, p0_6 hz, k0 hz, g130_0 hz, g130_1 hz, p130_1 hz, k130 hz, g304_0 hz, g304_1 hz, p304_1 hz, k304 hz, g306_0 hz, g306_1 hz, g306_2 hz, g306_3 hz, g306_4 hz, p306_1 hz, p306_2 hz, p306_3 hz, p306_4 hz, k306 hz, g307_0 hz, g307_1 hz, g307_2 hz, g307_3 hz, p307_1 hz, p307_2 hz, p307_3 hz, k307 hz, m_appendNo hx]
theorem c_clearText (h : CS z M p G n H kf K k tx) : ∃ M', run (d + 3) 103 [.ref z.1] (wld z M p) = some (some (.int (nI k)), wld z M' p) ∧ mfr z M M' ∧ CS z M' p G n H kf K 0 tx := by
  obtain ⟨h1, h2, h3, h4, h5, h6, h7, h8, h9, h10⟩ := h
  have hz := h1.1
  refine ⟨mput M (z.1 + 304) (fset (M (z.1 + 304)) 1 0), ?_, mfr.rf.put (x := z.1 + 304) (by omega), ⟨h1, ?_, ?_, h4, fun j hj => ?_, ?_, ?_, ?_, by omega, fun j hj => absurd hj (by omega)⟩⟩
  rotate_left
  · rw [mput_ne (by omega)]; exact h2
  · rw [mput_ne (by omega)]; exact h3
  · have := h1.2.1 j (by omega)
    rw [mput_ne (by omega)]; exact h5 j hj
  · rw [mput_ne (by omega)]; exact h6
  · rw [mput_ne (by omega)]; exact h7
  · rw [mput_same]; exact (fset_same (F := M (z.1 + 304)) (j := 1) (v := 0)).trans l0.symm
  · rw [r103]
    simp only [e103_0, e103_1, e103_4, e103_7, lk, lset, ldel, lset2, ldel2, cat2, gI_int, gA_ref, gA_null, gV_some, gC_some, gL_long, Option.toList, List.cons_append, List.nil_append, List.length_cons, List.length_nil, Nat.reduceEqDiff, Nat.reduceAdd, Nat.reduceSub, Nat.reduceLeDiff, Nat.reduceLT, nb0, nb1, reduceIte, reduceCtorEq, and_false, and_true, false_and, true_and, if_true, if_false, Bool.false_eq_true, eq_self, not_true_eq_false, not_false_eq_true, g0_0 hz, g0_1 hz, g0_2 hz, g0_3 hz, g0_4 hz, g0_5 hz, g0_6 hz, p0_6 hz, k0 hz, g130_0 hz, g130_1 hz, p130_1 hz, k130 hz, g304_0 hz, g304_1 hz, p304_1 hz, k304 hz, g306_0 hz, g306_1 hz, g306_2 hz, g306_3 hz, g306_4 hz, p306_1 hz, p306_2 hz, p306_3 hz, p306_4 hz, k306 hz, g307_0 hz, g307_1 hz, g307_2 hz, g307_3 hz, p307_1 hz, p307_2 hz, p307_3 hz, k307 hz, m_empty hz, h8]
end CR
