/-! the model's other loops -/
theorem bI_F {h : Decidable False} : @bI False h = 0 := by
  unfold bI
  exact if_neg id
section ML
variable {z : Zt} {d : Nat} {M : Nat → Nat → Int32} {p : Nat → Nat} {nc nh np : Nat}
def mleftS (G : Nat → Int32) (c g : Int32) : Nat → Int32 := fun i => bI (G (58 + 10 * i + 4) = c ∧ G (58 + 10 * i + 5) = g) + bI (G (58 + 10 * i + 7) = c ∧ G (58 + 10 * i + 8) = g)
theorem l_left (hz : zok z) (hc : cnt (M (z.1 + 310)) nc nh np) {c g : Int32} : ∀ (k i : Nat), i + k = np → ∀ (acc : Int32) (rest : List (Nat × Value)), X (d + 1) 132 5 ((0, .ref (z.1 + 309)) :: (1, .int c) :: (2, .int g) :: (3, .int acc) :: (4, .int (nI i)) :: rest) [] (wld z M p) = some (some (.int (acc - sumR (mleftS (M (z.1 + 310)) c g) i k)), wld z M p) := by
  intro k
  have hle := hc.2.2.2.2.2
  induction k with
  | zero =>
    intro i hi acc rest
    have g := nI_stop (n := np) (i := i) (by omega) (by omega)
    rw [e132_5]
    simp only [e132_0, e132_1, e132_2, e132_3, e132_7, e132_8, e132_11, e132_12, e132_13, e132_16, e132_17, e132_18, e132_20, e132_21, e132_24, e132_25, e132_28, e132_29, e132_31, e132_32, e132_35, e132_36, e132_39, e132_40, e132_43, e132_44, e132_45, e132_46, e132_47, e132_48, e132_50, e132_52, e132_55, e132_56, e132_59, e132_60, e132_62, e132_64, e132_67, e132_68, e132_71, e132_72, e132_75, e132_76, e132_77, e132_78, e132_81, e132_84, e132_85, lk, lset, ldel, lset2, ldel2, cat2, gI_int, gA_ref, gA_null, gV_some, gC_some, gL_long, Option.toList, List.cons_append, List.nil_append, List.length_cons, List.length_nil, Nat.reduceEqDiff, Nat.reduceAdd, Nat.reduceSub, Nat.reduceLeDiff, Nat.reduceLT, nb0, nb1, reduceIte, reduceCtorEq, and_false, and_true, false_and, true_and, if_true, if_false, Bool.false_eq_true, eq_self, not_true_eq_false, not_false_eq_true, a310_0 hz, a310_1 hz, a310_2 hz, a310_3 hz, a310_4 hz, a310_5 hz, a310_6 hz, a310_7 hz, k309 hz, g309_0 hz, hc.2.2.2.2.1, g, sumR, Int32.sub_zero]
  | succ k ih =>
    intro i hi acc rest
    have ih' := fun acc rest => ih (i + 1) (by omega) acc rest
    have gg := nI_goon (i := i) (n := np) (by omega) (by omega)
    have hi2 : i < 24 := by omega
    rw [e132_5]
    simp only [e132_0, e132_1, e132_2, e132_3, e132_7, e132_8, e132_11, e132_12, e132_13, e132_16, e132_17, e132_18, e132_20, e132_21, e132_24, e132_25, e132_28, e132_29, e132_31, e132_32, e132_35, e132_36, e132_39, e132_40, e132_43, e132_44, e132_45, e132_46, e132_47, e132_48, e132_50, e132_52, e132_55, e132_56, e132_59, e132_60, e132_62, e132_64, e132_67, e132_68, e132_71, e132_72, e132_75, e132_76, e132_77, e132_78, e132_81, e132_84, e132_85, lk, lset, ldel, lset2, ldel2, cat2, gI_int, gA_ref, gA_null, gV_some, gC_some, gL_long, Option.toList, List.cons_append, List.nil_append, List.length_cons, List.length_nil, Nat.reduceEqDiff, Nat.reduceAdd, Nat.reduceSub, Nat.reduceLeDiff, Nat.reduceLT, nb0, nb1, reduceIte, reduceCtorEq, and_false, and_true, false_and, true_and, if_true, if_false, Bool.false_eq_true, eq_self, not_true_eq_false, not_false_eq_true, a310_0 hz, a310_1 hz, a310_2 hz, a310_3 hz, a310_4 hz, a310_5 hz, a310_6 hz, a310_7 hz, k309 hz, g309_0 hz, hc.2.2.2.2.1, gg, nI_1, ih', m_of4 hz hi2, m_of5 hz hi2, m_of7 hz hi2, m_of8 hz hi2]
    simp only [sumR, mleftS]
    grind [bI]
theorem m_left (hz : zok z) (hc : cnt (M (z.1 + 310)) nc nh np) {c g : Int32} : run (d + 2) 132 [.ref (z.1 + 309), .int c, .int g] (wld z M p) = some (some (.int (3 - sumR (mleftS (M (z.1 + 310)) c g) 0 np)), wld z M p) := by
  have e := fun acc rest => l_left (d := d) (p := p) hz hc (c := c) (g := g) np 0 (by omega) acc rest
  rw [show nI 0 = 0 from nI_0] at e
  rw [r132]
  simp only [e132_0, e132_1, e132_2, e132_3, e132_7, e132_8, e132_11, e132_12, e132_13, e132_16, e132_17, e132_18, e132_20, e132_21, e132_24, e132_25, e132_28, e132_29, e132_31, e132_32, e132_35, e132_36, e132_39, e132_40, e132_43, e132_44, e132_45, e132_46, e132_47, e132_48, e132_50, e132_52, e132_55, e132_56, e132_59, e132_60, e132_62, e132_64, e132_67, e132_68, e132_71, e132_72, e132_75, e132_76, e132_77, e132_78, e132_81, e132_84, e132_85, lk, lset, ldel, lset2, ldel2, cat2, gI_int, gA_ref, gA_null, gV_some, gC_some, gL_long, Option.toList, List.cons_append, List.nil_append, List.length_cons, List.length_nil, Nat.reduceEqDiff, Nat.reduceAdd, Nat.reduceSub, Nat.reduceLeDiff, Nat.reduceLT, nb0, nb1, reduceIte, reduceCtorEq, and_false, and_true, false_and, true_and, if_true, if_false, Bool.false_eq_true, eq_self, not_true_eq_false, not_false_eq_true, e]
def firstM (P : Nat → Prop) [DecidablePred P] : Nat → Nat → Int32
  | _, 0 => -100004
  | i, k + 1 => if P i then nI i else firstM P (i + 1) k
theorem l_found (hz : zok z) (hc : cnt (M (z.1 + 310)) nc nh np) {a b c : Int32} : ∀ (k i : Nat), i + k = np → ∀ (rest : List (Nat × Value)), X (d + 1) 129 3 ((0, .ref (z.1 + 309)) :: (1, .int a) :: (2, .int b) :: (3, .int c) :: (4, .int (nI i)) :: rest) [] (wld z M p) = some (some (.int (firstM (wordsS (M (z.1 + 310)) a b c) i k)), wld z M p) := by
  intro k
  have hle := hc.2.2.2.2.2
  induction k with
  | zero =>
    intro i hi rest
    have g := nI_stop (n := np) (i := i) (by omega) (by omega)
    rw [e129_3]
    simp only [e129_0, e129_1, e129_5, e129_6, e129_9, e129_10, e129_11, e129_14, e129_15, e129_17, e129_18, e129_21, e129_22, e129_25, e129_26, e129_28, e129_29, e129_32, e129_33, e129_36, e129_37, e129_39, e129_40, e129_43, e129_44, e129_47, e129_49, e129_50, e129_53, e129_56, e129_58, lk, lset, ldel, lset2, ldel2, cat2, gI_int, gA_ref, gA_null, gV_some, gC_some, gL_long, Option.toList, List.cons_append, List.nil_append, List.length_cons, List.length_nil, Nat.reduceEqDiff, Nat.reduceAdd, Nat.reduceSub, Nat.reduceLeDiff, Nat.reduceLT, nb0, nb1, reduceIte, reduceCtorEq, and_false, and_true, false_and, true_and, if_true, if_false, Bool.false_eq_true, eq_self, not_true_eq_false, not_false_eq_true, a310_0 hz, a310_1 hz, a310_2 hz, a310_3 hz, a310_4 hz, a310_5 hz, a310_6 hz, a310_7 hz, k309 hz, g309_0 hz, hc.2.2.2.2.1, g, firstM]
  | succ k ih =>
    intro i hi rest
    have ih' := fun rest => ih (i + 1) (by omega) rest
    have g := nI_goon (i := i) (n := np) (by omega) (by omega)
    have hi2 : i < 24 := by omega
    rw [e129_3]
    simp only [e129_0, e129_1, e129_5, e129_6, e129_9, e129_10, e129_11, e129_14, e129_15, e129_17, e129_18, e129_21, e129_22, e129_25, e129_26, e129_28, e129_29, e129_32, e129_33, e129_36, e129_37, e129_39, e129_40, e129_43, e129_44, e129_47, e129_49, e129_50, e129_53, e129_56, e129_58, lk, lset, ldel, lset2, ldel2, cat2, gI_int, gA_ref, gA_null, gV_some, gC_some, gL_long, Option.toList, List.cons_append, List.nil_append, List.length_cons, List.length_nil, Nat.reduceEqDiff, Nat.reduceAdd, Nat.reduceSub, Nat.reduceLeDiff, Nat.reduceLT, nb0, nb1, reduceIte, reduceCtorEq, and_false, and_true, false_and, true_and, if_true, if_false, Bool.false_eq_true, eq_self, not_true_eq_false, not_false_eq_true, a310_0 hz, a310_1 hz, a310_2 hz, a310_3 hz, a310_4 hz, a310_5 hz, a310_6 hz, a310_7 hz, k309 hz, g309_0 hz, hc.2.2.2.2.1, g, nI_1, ih', m_of1 hz hi2, m_of2 hz hi2, m_of3 hz hi2]
    simp only [firstM]
    grind
theorem m_found (hz : zok z) (hc : cnt (M (z.1 + 310)) nc nh np) {a b c : Int32} : run (d + 2) 129 [.ref (z.1 + 309), .int a, .int b, .int c] (wld z M p) = some (some (.int (firstM (wordsS (M (z.1 + 310)) a b c) 0 np)), wld z M p) := by
  have e := fun rest => l_found (d := d) (p := p) hz hc (a := a) (b := b) (c := c) np 0 (by omega) rest
  rw [show nI 0 = 0 from nI_0] at e
  rw [r129]
  simp only [e129_0, e129_1, e129_5, e129_6, e129_9, e129_10, e129_11, e129_14, e129_15, e129_17, e129_18, e129_21, e129_22, e129_25, e129_26, e129_28, e129_29, e129_32, e129_33, e129_36, e129_37, e129_39, e129_40, e129_43, e129_44, e129_47, e129_49, e129_50, e129_53, e129_56, e129_58, lk, lset, ldel, lset2, ldel2, cat2, gI_int, gA_ref, gA_null, gV_some, gC_some, gL_long, Option.toList, List.cons_append, List.nil_append, List.length_cons, List.length_nil, Nat.reduceEqDiff, Nat.reduceAdd, Nat.reduceSub, Nat.reduceLeDiff, Nat.reduceLT, nb0, nb1, reduceIte, reduceCtorEq, and_false, and_true, false_and, true_and, if_true, if_false, Bool.false_eq_true, eq_self, not_true_eq_false, not_false_eq_true, e]
def mtellS (G : Nat → Int32) (ci : Nat) (s : Int32) : Nat → Int32 := fun i => bI ((¬ G (58 + 10 * i + 4) < 0 ∧ bookG G i 4 = nI ci ∧ ¬ G (58 + 10 * i + 0) = G (8 + 2 * ci + 0)) ∧ knows s (G (58 + 10 * i + 0)))
theorem l_mtellsIn (hz : zok z) (hc : cnt (M (z.1 + 310)) nc nh np) (hw : ∀ i, i < np → whereOk (M (z.1 + 310)) nh i) {s : Int32} {ci : Nat} (hci : ci < nc) : ∀ (k i : Nat), i + k = np → ∀ (acc : Int32) (rest : List (Nat × Value)), X (d + 2) 150 5 ((0, .ref (z.1 + 309)) :: (1, .int (nI ci)) :: (2, .int s) :: (3, .int acc) :: (4, .int (nI i)) :: rest) [] (wld z M p) = some (some (.int (acc + sumR (mtellS (M (z.1 + 310)) ci s) i k)), wld z M p) := by
  intro k
  have hle := hc.2.2.2.2.2
  have hle2 := hc.2.2.2.1
  have hci5 : ci < 5 := by have := hc.2.1; omega
  induction k with
  | zero =>
    intro i hi acc rest
    have g := nI_stop (n := np) (i := i) (by omega) (by omega)
    rw [e150_5]
    simp only [e150_0, e150_1, e150_2, e150_3, e150_7, e150_8, e150_11, e150_12, e150_13, e150_16, e150_17, e150_19, e150_22, e150_25, e150_26, e150_28, e150_31, e150_32, e150_35, e150_36, e150_38, e150_39, e150_42, e150_43, e150_44, e150_45, e150_48, e150_51, e150_52, e150_55, e150_56, e150_58, e150_59, e150_61, e150_64, e150_65, e150_66, e150_68, e150_69, e150_72, e150_73, e150_74, e150_75, e150_76, e150_79, e150_80, e150_83, e150_84, e150_85, e150_86, e150_89, e150_92, e150_93, lk, lset, ldel, lset2, ldel2, cat2, gI_int, gA_ref, gA_null, gV_some, gC_some, gL_long, Option.toList, List.cons_append, List.nil_append, List.length_cons, List.length_nil, Nat.reduceEqDiff, Nat.reduceAdd, Nat.reduceSub, Nat.reduceLeDiff, Nat.reduceLT, nb0, nb1, reduceIte, reduceCtorEq, and_false, and_true, false_and, true_and, if_true, if_false, Bool.false_eq_true, eq_self, not_true_eq_false, not_false_eq_true, a310_0 hz, a310_1 hz, a310_2 hz, a310_3 hz, a310_4 hz, a310_5 hz, a310_6 hz, a310_7 hz, k309 hz, g309_0 hz, hc.2.2.2.2.1, g, sumR, Int32.add_zero]
  | succ k ih =>
    intro i hi acc rest
    have ih' := fun acc rest => ih (i + 1) (by omega) acc rest
    have g := nI_goon (i := i) (n := np) (by omega) (by omega)
    have hi2 : i < 24 := by omega
    have n10 : ¬ (1 : Int32) = 0 := by decide
    rw [e150_5]
    rcases (hw i (by omega)).1 with hf | ⟨c0, hc0, hf⟩
    · simp only [e150_0, e150_1, e150_2, e150_3, e150_7, e150_8, e150_11, e150_12, e150_13, e150_16, e150_17, e150_19, e150_22, e150_25, e150_26, e150_28, e150_31, e150_32, e150_35, e150_36, e150_38, e150_39, e150_42, e150_43, e150_44, e150_45, e150_48, e150_51, e150_52, e150_55, e150_56, e150_58, e150_59, e150_61, e150_64, e150_65, e150_66, e150_68, e150_69, e150_72, e150_73, e150_74, e150_75, e150_76, e150_79, e150_80, e150_83, e150_84, e150_85, e150_86, e150_89, e150_92, e150_93, lk, lset, ldel, lset2, ldel2, cat2, gI_int, gA_ref, gA_null, gV_some, gC_some, gL_long, Option.toList, List.cons_append, List.nil_append, List.length_cons, List.length_nil, Nat.reduceEqDiff, Nat.reduceAdd, Nat.reduceSub, Nat.reduceLeDiff, Nat.reduceLT, nb0, nb1, reduceIte, reduceCtorEq, and_false, and_true, false_and, true_and, if_true, if_false, Bool.false_eq_true, eq_self, not_true_eq_false, not_false_eq_true, lk_same, lk_same2, lk_k1, lk_k1r, lk_ldN, ne_eq, a310_0 hz, a310_1 hz, a310_2 hz, a310_3 hz, a310_4 hz, a310_5 hz, a310_6 hz, a310_7 hz, k309 hz, g309_0 hz, hc.2.2.2.2.1, g, nI_1, ih', m_mIsFree hz hi2, m_of0 hz hi2, m_ofClient0 hz hci5, hf, neg1, neg2, bI_0, n10]
      simp only [sumR, mtellS, knows, hf, neg1, neg2]
      grind [bI]
    · have hc10 : c0 < 10 := by omega
      simp only [e150_0, e150_1, e150_2, e150_3, e150_7, e150_8, e150_11, e150_12, e150_13, e150_16, e150_17, e150_19, e150_22, e150_25, e150_26, e150_28, e150_31, e150_32, e150_35, e150_36, e150_38, e150_39, e150_42, e150_43, e150_44, e150_45, e150_48, e150_51, e150_52, e150_55, e150_56, e150_58, e150_59, e150_61, e150_64, e150_65, e150_66, e150_68, e150_69, e150_72, e150_73, e150_74, e150_75, e150_76, e150_79, e150_80, e150_83, e150_84, e150_85, e150_86, e150_89, e150_92, e150_93, lk, lset, ldel, lset2, ldel2, cat2, gI_int, gA_ref, gA_null, gV_some, gC_some, gL_long, Option.toList, List.cons_append, List.nil_append, List.length_cons, List.length_nil, Nat.reduceEqDiff, Nat.reduceAdd, Nat.reduceSub, Nat.reduceLeDiff, Nat.reduceLT, nb0, nb1, reduceIte, reduceCtorEq, and_false, and_true, false_and, true_and, if_true, if_false, Bool.false_eq_true, eq_self, not_true_eq_false, not_false_eq_true, lk_same, lk_same2, lk_k1, lk_k1r, lk_ldN, ne_eq, a310_0 hz, a310_1 hz, a310_2 hz, a310_3 hz, a310_4 hz, a310_5 hz, a310_6 hz, a310_7 hz, k309 hz, g309_0 hz, hc.2.2.2.2.1, g, nI_1, ih', m_mIsFree hz hi2, m_of0 hz hi2, m_ofClient0 hz hci5, m_bookOf hz hi2 hc10 hf, hf, nI_neg (show c0 ≤ 2000 by omega), bI_0, n10]
      simp only [sumR, mtellS, knows, hf, nI_neg (show c0 ≤ 2000 by omega), bookG_at hf (show c0 ≤ 2000 by omega)]
      grind [bI]
theorem m_mtellsIn (hz : zok z) (hc : cnt (M (z.1 + 310)) nc nh np) (hw : ∀ i, i < np → whereOk (M (z.1 + 310)) nh i) {s : Int32} {ci : Nat} (hci : ci < nc) : run (d + 3) 150 [.ref (z.1 + 309), .int (nI ci), .int s] (wld z M p) = some (some (.int (0 + sumR (mtellS (M (z.1 + 310)) ci s) 0 np)), wld z M p) := by
  have e := fun acc rest => l_mtellsIn (d := d) (p := p) hz hc hw (s := s) hci np 0 (by omega) acc rest
  rw [show nI 0 = 0 from nI_0] at e
  rw [r150]
  simp only [e150_0, e150_1, e150_2, e150_3, e150_7, e150_8, e150_11, e150_12, e150_13, e150_16, e150_17, e150_19, e150_22, e150_25, e150_26, e150_28, e150_31, e150_32, e150_35, e150_36, e150_38, e150_39, e150_42, e150_43, e150_44, e150_45, e150_48, e150_51, e150_52, e150_55, e150_56, e150_58, e150_59, e150_61, e150_64, e150_65, e150_66, e150_68, e150_69, e150_72, e150_73, e150_74, e150_75, e150_76, e150_79, e150_80, e150_83, e150_84, e150_85, e150_86, e150_89, e150_92, e150_93, lk, lset, ldel, lset2, ldel2, cat2, gI_int, gA_ref, gA_null, gV_some, gC_some, gL_long, Option.toList, List.cons_append, List.nil_append, List.length_cons, List.length_nil, Nat.reduceEqDiff, Nat.reduceAdd, Nat.reduceSub, Nat.reduceLeDiff, Nat.reduceLT, nb0, nb1, reduceIte, reduceCtorEq, and_false, and_true, false_and, true_and, if_true, if_false, Bool.false_eq_true, eq_self, not_true_eq_false, not_false_eq_true, e]
def mtellsF (G : Nat → Int32) (np : Nat) (s : Int32) (ci : Nat) : Int32 := 0 + sumR (mtellS G ci s) 0 np
theorem l_allTells (hz : zok z) (hc : cnt (M (z.1 + 310)) nc nh np) (hw : ∀ i, i < np → whereOk (M (z.1 + 310)) nh i) : ∀ (k i : Nat), i + k = nc → ∀ (acc : Int32) (rest : List (Nat × Value)), X (d + 3) 151 4 ((0, .ref (z.1 + 309)) :: (1, .int acc) :: (2, .int (nI i)) :: rest) [] (wld z M p) = some (some (.int (acc + sumR (mtellsF (M (z.1 + 310)) np 15) i k)), wld z M p) := by
  intro k
  have hle := hc.2.1
  induction k with
  | zero =>
    intro i hi acc rest
    have g := nI_stop (n := nc) (i := i) (by omega) (by omega)
    rw [e151_4]
    simp only [e151_0, e151_1, e151_2, e151_3, e151_5, e151_6, e151_9, e151_10, e151_11, e151_14, e151_15, e151_16, e151_17, e151_19, e151_22, e151_23, e151_24, e151_27, e151_30, e151_31, lk, lset, ldel, lset2, ldel2, cat2, gI_int, gA_ref, gA_null, gV_some, gC_some, gL_long, Option.toList, List.cons_append, List.nil_append, List.length_cons, List.length_nil, Nat.reduceEqDiff, Nat.reduceAdd, Nat.reduceSub, Nat.reduceLeDiff, Nat.reduceLT, nb0, nb1, reduceIte, reduceCtorEq, and_false, and_true, false_and, true_and, if_true, if_false, Bool.false_eq_true, eq_self, not_true_eq_false, not_false_eq_true, a310_0 hz, a310_1 hz, a310_2 hz, a310_3 hz, a310_4 hz, a310_5 hz, a310_6 hz, a310_7 hz, k309 hz, g309_0 hz, hc.1, g, sumR, Int32.add_zero]
  | succ k ih =>
    intro i hi acc rest
    have ih' := fun acc rest => ih (i + 1) (by omega) acc rest
    have g := nI_goon (i := i) (n := nc) (by omega) (by omega)
    rw [e151_4]
    simp only [e151_0, e151_1, e151_2, e151_3, e151_5, e151_6, e151_9, e151_10, e151_11, e151_14, e151_15, e151_16, e151_17, e151_19, e151_22, e151_23, e151_24, e151_27, e151_30, e151_31, lk, lset, ldel, lset2, ldel2, cat2, gI_int, gA_ref, gA_null, gV_some, gC_some, gL_long, Option.toList, List.cons_append, List.nil_append, List.length_cons, List.length_nil, Nat.reduceEqDiff, Nat.reduceAdd, Nat.reduceSub, Nat.reduceLeDiff, Nat.reduceLT, nb0, nb1, reduceIte, reduceCtorEq, and_false, and_true, false_and, true_and, if_true, if_false, Bool.false_eq_true, eq_self, not_true_eq_false, not_false_eq_true, a310_0 hz, a310_1 hz, a310_2 hz, a310_3 hz, a310_4 hz, a310_5 hz, a310_6 hz, a310_7 hz, k309 hz, g309_0 hz, hc.1, g, nI_1, ih', m_mtellsIn hz hc hw (show i < nc by omega)]
    simp only [sumR, mtellsF, Int32.add_assoc]
theorem m_allTells (hz : zok z) (hc : cnt (M (z.1 + 310)) nc nh np) (hw : ∀ i, i < np → whereOk (M (z.1 + 310)) nh i) : run (d + 4) 151 [.ref (z.1 + 309)] (wld z M p) = some (some (.int (0 + sumR (mtellsF (M (z.1 + 310)) np 15) 0 nc)), wld z M p) := by
  have e := fun acc rest => l_allTells (d := d) (p := p) hz hc hw nc 0 (by omega) acc rest
  rw [show nI 0 = 0 from nI_0] at e
  rw [r151]
  simp only [e151_0, e151_1, e151_2, e151_3, e151_5, e151_6, e151_9, e151_10, e151_11, e151_14, e151_15, e151_16, e151_17, e151_19, e151_22, e151_23, e151_24, e151_27, e151_30, e151_31, lk, lset, ldel, lset2, ldel2, cat2, gI_int, gA_ref, gA_null, gV_some, gC_some, gL_long, Option.toList, List.cons_append, List.nil_append, List.length_cons, List.length_nil, Nat.reduceEqDiff, Nat.reduceAdd, Nat.reduceSub, Nat.reduceLeDiff, Nat.reduceLT, nb0, nb1, reduceIte, reduceCtorEq, and_false, and_true, false_and, true_and, if_true, if_false, Bool.false_eq_true, eq_self, not_true_eq_false, not_false_eq_true, e]
def mfwR (F : Nat → Int32) : Nat → Nat → Int64 → Int32
  | _, 0, _ => 0
  | i, k + 1, s => (if (s >>> ((F (58 + 10 * i + 1)).toInt64 &&& 63)) &&& 1 = 0 then (1 : Int32) else 0) + mfwR F (i + 1) k (s ||| (1 <<< ((F (58 + 10 * i + 1)).toInt64 &&& 63)))
theorem l_mfirstWords (hz : zok z) (hc : cnt (M (z.1 + 310)) nc nh np) : ∀ (k i : Nat), i + k = np → ∀ (acc : Int32) (s : Int64) (rest : List (Nat × Value)), X (d + 1) 161 7 ((0, .ref (z.1 + 309)) :: (1, .long s) :: (3, .int acc) :: (4, .int (nI i)) :: rest) [] (wld z M p) = some (some (.int (acc + mfwR (M (z.1 + 310)) i k s)), wld z M p) := by
  intro k
  have hle := hc.2.2.2.2.2
  induction k with
  | zero =>
    intro i hi acc s rest
    have g := nI_stop (n := np) (i := i) (by omega) (by omega)
    rw [e161_7]
    simp only [e161_0, e161_1, e161_2, e161_3, e161_4, e161_5, e161_9, e161_10, e161_13, e161_14, e161_15, e161_18, e161_19, e161_20, e161_21, e161_23, e161_24, e161_27, e161_28, e161_29, e161_30, e161_31, e161_32, e161_35, e161_36, e161_39, e161_40, e161_41, e161_42, e161_43, e161_44, e161_45, e161_47, e161_48, e161_51, e161_52, e161_53, e161_54, e161_57, e161_60, e161_61, lk, lset, ldel, lset2, ldel2, cat2, gI_int, gA_ref, gA_null, gV_some, gC_some, gL_long, Option.toList, List.cons_append, List.nil_append, List.length_cons, List.length_nil, Nat.reduceEqDiff, Nat.reduceAdd, Nat.reduceSub, Nat.reduceLeDiff, Nat.reduceLT, nb0, nb1, reduceIte, reduceCtorEq, and_false, and_true, false_and, true_and, if_true, if_false, Bool.false_eq_true, eq_self, not_true_eq_false, not_false_eq_true, a310_0 hz, a310_1 hz, a310_2 hz, a310_3 hz, a310_4 hz, a310_5 hz, a310_6 hz, a310_7 hz, k309 hz, g309_0 hz, hc.2.2.2.2.1, g, mfwR, Int32.add_zero]
  | succ k ih =>
    intro i hi acc s rest
    have ih' := fun acc s rest => ih (i + 1) (by omega) acc s rest
    have g := nI_goon (i := i) (n := np) (by omega) (by omega)
    have hi2 : i < 24 := by omega
    rw [e161_7]
    simp only [e161_0, e161_1, e161_2, e161_3, e161_4, e161_5, e161_9, e161_10, e161_13, e161_14, e161_15, e161_18, e161_19, e161_20, e161_21, e161_23, e161_24, e161_27, e161_28, e161_29, e161_30, e161_31, e161_32, e161_35, e161_36, e161_39, e161_40, e161_41, e161_42, e161_43, e161_44, e161_45, e161_47, e161_48, e161_51, e161_52, e161_53, e161_54, e161_57, e161_60, e161_61, lk, lset, ldel, lset2, ldel2, cat2, gI_int, gA_ref, gA_null, gV_some, gC_some, gL_long, Option.toList, List.cons_append, List.nil_append, List.length_cons, List.length_nil, Nat.reduceEqDiff, Nat.reduceAdd, Nat.reduceSub, Nat.reduceLeDiff, Nat.reduceLT, nb0, nb1, reduceIte, reduceCtorEq, and_false, and_true, false_and, true_and, if_true, if_false, Bool.false_eq_true, eq_self, not_true_eq_false, not_false_eq_true, lk_same, lk_same2, lk_k1, lk_k1r, lk_ldN, ne_eq, a310_0 hz, a310_1 hz, a310_2 hz, a310_3 hz, a310_4 hz, a310_5 hz, a310_6 hz, a310_7 hz, k309 hz, g309_0 hz, hc.2.2.2.2.1, g, nI_1, ih', m_of1 hz hi2, lcmp0]
    simp only [mfwR]
    by_cases hs : (s >>> ((M (z.1 + 310) (58 + 10 * i + 1)).toInt64 &&& 63)) &&& 1 = 0 <;> simp only [hs, if_true, if_false, Int32.add_assoc, Int32.zero_add, Int32.add_zero]
theorem m_mfirstWords (hz : zok z) (hc : cnt (M (z.1 + 310)) nc nh np) : run (d + 2) 161 [.ref (z.1 + 309)] (wld z M p) = some (some (.int (0 + mfwR (M (z.1 + 310)) 0 np 0)), wld z M p) := by
  have e := fun acc s rest => l_mfirstWords (d := d) (p := p) hz hc np 0 (by omega) acc s rest
  rw [show nI 0 = 0 from nI_0] at e
  rw [r161]
  simp only [e161_0, e161_1, e161_2, e161_3, e161_4, e161_5, e161_9, e161_10, e161_13, e161_14, e161_15, e161_18, e161_19, e161_20, e161_21, e161_23, e161_24, e161_27, e161_28, e161_29, e161_30, e161_31, e161_32, e161_35, e161_36, e161_39, e161_40, e161_41, e161_42, e161_43, e161_44, e161_45, e161_47, e161_48, e161_51, e161_52, e161_53, e161_54, e161_57, e161_60, e161_61, lk, lset, ldel, lset2, ldel2, cat2, gI_int, gA_ref, gA_null, gV_some, gC_some, gL_long, Option.toList, List.cons_append, List.nil_append, List.length_cons, List.length_nil, Nat.reduceEqDiff, Nat.reduceAdd, Nat.reduceSub, Nat.reduceLeDiff, Nat.reduceLT, nb0, nb1, reduceIte, reduceCtorEq, and_false, and_true, false_and, true_and, if_true, if_false, Bool.false_eq_true, eq_self, not_true_eq_false, not_false_eq_true, e]
def mlikeS (G : Nat → Int32) (n : Nat) : Nat → Int32 := fun i => bI (¬ nI i = nI n ∧ ¬ G (58 + 10 * i + 4) < 0 ∧ bookG G i 4 = bookG G n 4 ∧ G (58 + 10 * i + 1) = G (58 + 10 * n + 1))
theorem l_alike (hz : zok z) (hc : cnt (M (z.1 + 310)) nc nh np) (hw : ∀ i, i < np → whereOk (M (z.1 + 310)) nh i) {n cn : Nat} (hn : n < np) (hcn : cn < nh) (hfn : M (z.1 + 310) (58 + 10 * n + 4) = nI cn) : ∀ (k i : Nat), i + k = np → ∀ (acc : Int32) (rest : List (Nat × Value)), X (d + 2) 159 26 ((0, .ref (z.1 + 309)) :: (1, .int (nI n)) :: (2, .int acc) :: (3, .int (nI i)) :: rest) [] (wld z M p) = some (some (.int (acc + sumR (mlikeS (M (z.1 + 310)) n) i k)), wld z M p) := by
  intro k
  have hle := hc.2.2.2.2.2
  have hle2 := hc.2.2.2.1
  have hn2 : n < 24 := by omega
  induction k with
  | zero =>
    intro i hi acc rest
    have g := nI_stop (n := np) (i := i) (by omega) (by omega)
    rw [e159_26]
    simp only [e159_0, e159_1, e159_2, e159_5, e159_8, e159_10, e159_11, e159_12, e159_13, e159_16, e159_19, e159_21, e159_22, e159_23, e159_24, e159_25, e159_27, e159_28, e159_31, e159_32, e159_33, e159_36, e159_37, e159_38, e159_39, e159_42, e159_43, e159_44, e159_47, e159_50, e159_51, e159_52, e159_55, e159_56, e159_57, e159_60, e159_63, e159_64, e159_65, e159_66, e159_69, e159_70, e159_71, e159_72, e159_75, e159_78, e159_79, e159_82, e159_83, e159_84, e159_85, e159_88, e159_91, e159_92, lk, lset, ldel, lset2, ldel2, cat2, gI_int, gA_ref, gA_null, gV_some, gC_some, gL_long, Option.toList, List.cons_append, List.nil_append, List.length_cons, List.length_nil, Nat.reduceEqDiff, Nat.reduceAdd, Nat.reduceSub, Nat.reduceLeDiff, Nat.reduceLT, nb0, nb1, reduceIte, reduceCtorEq, and_false, and_true, false_and, true_and, if_true, if_false, Bool.false_eq_true, eq_self, not_true_eq_false, not_false_eq_true, a310_0 hz, a310_1 hz, a310_2 hz, a310_3 hz, a310_4 hz, a310_5 hz, a310_6 hz, a310_7 hz, k309 hz, g309_0 hz, hc.2.2.2.2.1, g, sumR, Int32.add_zero]
  | succ k ih =>
    intro i hi acc rest
    have ih' := fun acc rest => ih (i + 1) (by omega) acc rest
    have g := nI_goon (i := i) (n := np) (by omega) (by omega)
    have hi2 : i < 24 := by omega
    rw [e159_26]
    rcases (hw i (by omega)).1 with hf | ⟨c0, hc0, hf⟩
    · simp only [e159_0, e159_1, e159_2, e159_5, e159_8, e159_10, e159_11, e159_12, e159_13, e159_16, e159_19, e159_21, e159_22, e159_23, e159_24, e159_25, e159_27, e159_28, e159_31, e159_32, e159_33, e159_36, e159_37, e159_38, e159_39, e159_42, e159_43, e159_44, e159_47, e159_50, e159_51, e159_52, e159_55, e159_56, e159_57, e159_60, e159_63, e159_64, e159_65, e159_66, e159_69, e159_70, e159_71, e159_72, e159_75, e159_78, e159_79, e159_82, e159_83, e159_84, e159_85, e159_88, e159_91, e159_92, lk, lset, ldel, lset2, ldel2, cat2, gI_int, gA_ref, gA_null, gV_some, gC_some, gL_long, Option.toList, List.cons_append, List.nil_append, List.length_cons, List.length_nil, Nat.reduceEqDiff, Nat.reduceAdd, Nat.reduceSub, Nat.reduceLeDiff, Nat.reduceLT, nb0, nb1, reduceIte, reduceCtorEq, and_false, and_true, false_and, true_and, if_true, if_false, Bool.false_eq_true, eq_self, not_true_eq_false, not_false_eq_true, a310_0 hz, a310_1 hz, a310_2 hz, a310_3 hz, a310_4 hz, a310_5 hz, a310_6 hz, a310_7 hz, k309 hz, g309_0 hz, hc.2.2.2.2.1, g, nI_1, ih', m_mIsFree hz hi2, m_bookOf hz hn2 (show cn < 10 by omega) hfn, hf, neg1, bI_0]
      simp only [sumR, mlikeS, hf, neg1, not_true_eq_false, false_and, and_false, bI_F, Int32.zero_add]
      by_cases e9 : nI i = nI n <;> simp only [e9, if_true, if_false, Int32.add_zero]
    · simp only [e159_0, e159_1, e159_2, e159_5, e159_8, e159_10, e159_11, e159_12, e159_13, e159_16, e159_19, e159_21, e159_22, e159_23, e159_24, e159_25, e159_27, e159_28, e159_31, e159_32, e159_33, e159_36, e159_37, e159_38, e159_39, e159_42, e159_43, e159_44, e159_47, e159_50, e159_51, e159_52, e159_55, e159_56, e159_57, e159_60, e159_63, e159_64, e159_65, e159_66, e159_69, e159_70, e159_71, e159_72, e159_75, e159_78, e159_79, e159_82, e159_83, e159_84, e159_85, e159_88, e159_91, e159_92, lk, lset, ldel, lset2, ldel2, cat2, gI_int, gA_ref, gA_null, gV_some, gC_some, gL_long, Option.toList, List.cons_append, List.nil_append, List.length_cons, List.length_nil, Nat.reduceEqDiff, Nat.reduceAdd, Nat.reduceSub, Nat.reduceLeDiff, Nat.reduceLT, nb0, nb1, reduceIte, reduceCtorEq, and_false, and_true, false_and, true_and, if_true, if_false, Bool.false_eq_true, eq_self, not_true_eq_false, not_false_eq_true, a310_0 hz, a310_1 hz, a310_2 hz, a310_3 hz, a310_4 hz, a310_5 hz, a310_6 hz, a310_7 hz, k309 hz, g309_0 hz, hc.2.2.2.2.1, g, nI_1, ih', m_mIsFree hz hi2, m_of1 hz hi2, m_of1 hz hn2, m_bookOf hz hn2 (show cn < 10 by omega) hfn, m_bookOf hz hi2 (show c0 < 10 by omega) hf, hf, nI_neg (show c0 ≤ 2000 by omega), bI_0]
      simp only [sumR, mlikeS, hf, nI_neg (show c0 ≤ 2000 by omega), bookG_at hf (show c0 ≤ 2000 by omega), bookG_at hfn (show cn ≤ 2000 by omega)]
      grind [bI]
-- homes and days
theorem mhomeF_low {F : Nat → Int32} {i j : Nat} (hj : j < 58) : mhomeF F i j = F j := by
  unfold mhomeF putsF freeF
  repeat rw [fset_ne (by omega)]
theorem freeF_low {F : Nat → Int32} {i j : Nat} (hj : j < 58) : freeF F i j = F j := by
  unfold freeF
  repeat rw [fset_ne (by omega)]
theorem mhomeF_cnt {F : Nat → Int32} {i : Nat} (hc : cnt F nc nh np) : cnt (mhomeF F i) nc nh np := by
  unfold cnt
  rw [mhomeF_low (by omega), mhomeF_low (by omega), mhomeF_low (by omega)]
  exact hc
def begR (F : Nat → Int32) : Nat → Nat → (Nat → Int32) × Int32
  | _, 0 => (F, 0)
  | i, k + 1 => if F (58 + 10 * i + 6) = F 3 then ((begR (mhomeF F i) (i + 1) k).1, 1 + (begR (mhomeF F i) (i + 1) k).2) else begR F (i + 1) k
theorem l_begins (hz : zok z) : ∀ (k i : Nat) (F : Nat → Int32), cnt F nc nh np → i + k = np → ∀ (acc : Int32) (rest : List (Nat × Value)), X (d + 3) 143 14 ((0, .ref (z.1 + 309)) :: (1, .int acc) :: (2, .int (nI i)) :: rest) [] (wld z (mput M (z.1 + 310) F) p) = some (some (.int (acc + (begR F i k).2)), wld z (mput M (z.1 + 310) (begR F i k).1) p) := by
  intro k
  induction k with
  | zero =>
    intro i F hc hi acc rest
    have hle := hc.2.2.2.2.2
    have g := nI_stop (n := np) (i := i) (by omega) (by omega)
    rw [e143_14]
    simp only [e143_15, e143_16, e143_19, e143_20, e143_21, e143_24, e143_25, e143_26, e143_28, e143_31, e143_32, e143_35, e143_36, e143_37, e143_40, e143_41, e143_42, e143_45, e143_48, e143_51, e143_54, e143_55, lk, lset, ldel, lset2, ldel2, cat2, gI_int, gA_ref, gA_null, gV_some, gC_some, gL_long, Option.toList, List.cons_append, List.nil_append, List.length_cons, List.length_nil, Nat.reduceEqDiff, Nat.reduceAdd, Nat.reduceSub, Nat.reduceLeDiff, Nat.reduceLT, nb0, nb1, reduceIte, reduceCtorEq, and_false, and_true, false_and, true_and, if_true, if_false, Bool.false_eq_true, eq_self, not_true_eq_false, not_false_eq_true, mput_same, mput_mput, fset_same, a310_0 hz, a310_1 hz, a310_2 hz, a310_3 hz, a310_4 hz, a310_5 hz, a310_6 hz, a310_7 hz, k309 hz, g309_0 hz, hc.2.2.2.2.1, g, begR, Int32.add_zero]
  | succ k ih =>
    intro i F hc hi acc rest
    have hle := hc.2.2.2.2.2
    have ih1 := fun acc rest => ih (i + 1) F hc (by omega) acc rest
    have ih2 := fun acc rest => ih (i + 1) (mhomeF F i) (mhomeF_cnt hc) (by omega) acc rest
    have g := nI_goon (i := i) (n := np) (by omega) (by omega)
    have hi2 : i < 24 := by omega
    rw [e143_14]
    simp only [e143_15, e143_16, e143_19, e143_20, e143_21, e143_24, e143_25, e143_26, e143_28, e143_31, e143_32, e143_35, e143_36, e143_37, e143_40, e143_41, e143_42, e143_45, e143_48, e143_51, e143_54, e143_55, lk, lset, ldel, lset2, ldel2, cat2, gI_int, gA_ref, gA_null, gV_some, gC_some, gL_long, Option.toList, List.cons_append, List.nil_append, List.length_cons, List.length_nil, Nat.reduceEqDiff, Nat.reduceAdd, Nat.reduceSub, Nat.reduceLeDiff, Nat.reduceLT, nb0, nb1, reduceIte, reduceCtorEq, and_false, and_true, false_and, true_and, if_true, if_false, Bool.false_eq_true, eq_self, not_true_eq_false, not_false_eq_true, mput_same, mput_mput, fset_same, a310_0 hz, a310_1 hz, a310_2 hz, a310_3 hz, a310_4 hz, a310_5 hz, a310_6 hz, a310_7 hz, k309 hz, g309_0 hz, hc.2.2.2.2.1, g, nI_1, ih1, ih2, m_of6 hz hi2, m_goesHome hz hi2]
    simp only [begR]
    by_cases h1 : F (58 + 10 * i + 6) = F 3 <;> simp only [h1, if_true, if_false, Int32.add_assoc]
def dayF (F : Nat → Int32) : Nat → Int32 := fset F 3 (F 3 + 1)
theorem dayF_cnt {F : Nat → Int32} (hc : cnt F nc nh np) : cnt (dayF F) nc nh np := by
  unfold cnt dayF
  rw [fset_ne (by omega), fset_ne (by omega), fset_ne (by omega)]
  exact hc
theorem m_begins (hz : zok z) (hc : cnt (M (z.1 + 310)) nc nh np) : run (d + 4) 143 [.ref (z.1 + 309)] (wld z M p) = some (some (.int (0 + (begR (dayF (M (z.1 + 310))) 0 np).2)), wld z (mput M (z.1 + 310) (begR (dayF (M (z.1 + 310))) 0 np).1) p) := by
  have e := fun acc rest => l_begins (d := d) (M := M) (p := p) hz np 0 (dayF (M (z.1 + 310))) (dayF_cnt hc) (by omega) acc rest
  rw [show nI 0 = 0 from nI_0] at e
  have e2 := e 0 []
  unfold dayF at e2 ⊢
  rw [r143]
  simp only [e143_0, e143_1, e143_4, e143_5, e143_6, e143_7, e143_8, e143_9, e143_10, e143_11, e143_12, e143_13, lk, lset, ldel, lset2, ldel2, cat2, gI_int, gA_ref, gA_null, gV_some, gC_some, gL_long, Option.toList, List.cons_append, List.nil_append, List.length_cons, List.length_nil, Nat.reduceEqDiff, Nat.reduceAdd, Nat.reduceSub, Nat.reduceLeDiff, Nat.reduceLT, nb0, nb1, reduceIte, reduceCtorEq, and_false, and_true, false_and, true_and, if_true, if_false, Bool.false_eq_true, eq_self, not_true_eq_false, not_false_eq_true, a310_0 hz, a310_1 hz, a310_2 hz, a310_3 hz, a310_4 hz, a310_5 hz, a310_6 hz, a310_7 hz, k309 hz, g309_0 hz, s310_0 hz, s310_1 hz, s310_2 hz, s310_3 hz, s310_4 hz, s310_5 hz, s310_6 hz, s310_7 hz]
  exact e2
def pasR (F : Nat → Int32) (np : Nat) : Nat → (Nat → Int32) × Int32
  | 0 => (F, 0)
  | k + 1 => ((pasR (begR (dayF F) 0 np).1 np k).1, (0 + (begR (dayF F) 0 np).2) + (pasR (begR (dayF F) 0 np).1 np k).2)
theorem begR_cnt : ∀ {k i : Nat} {F : Nat → Int32}, cnt F nc nh np → cnt (begR F i k).1 nc nh np := by
  intro k
  induction k with
  | zero => intro i F h; exact h
  | succ k ih =>
    intro i F h
    rw [begR]
    split
    · exact ih (mhomeF_cnt h)
    · exact ih h
theorem l_passes (hz : zok z) {u : Nat} (hu : u ≤ 99) : ∀ (k i : Nat) (F : Nat → Int32), cnt F nc nh np → i + k = u → ∀ (acc : Int32) (rest : List (Nat × Value)), X (d + 4) 144 4 ((0, .ref (z.1 + 309)) :: (1, .int (nI u)) :: (2, .int acc) :: (3, .int (nI i)) :: rest) [] (wld z (mput M (z.1 + 310) F) p) = some (some (.int (acc + (pasR F np k).2)), wld z (mput M (z.1 + 310) (pasR F np k).1) p) := by
  intro k
  induction k with
  | zero =>
    intro i F hc hi acc rest
    have g := nI_stop (n := u) (i := i) (by omega) (by omega)
    rw [e144_4]
    simp only [e144_0, e144_1, e144_2, e144_3, e144_5, e144_6, e144_9, e144_10, e144_11, e144_14, e144_15, e144_16, e144_19, e144_22, e144_23, lk, lset, ldel, lset2, ldel2, cat2, gI_int, gA_ref, gA_null, gV_some, gC_some, gL_long, Option.toList, List.cons_append, List.nil_append, List.length_cons, List.length_nil, Nat.reduceEqDiff, Nat.reduceAdd, Nat.reduceSub, Nat.reduceLeDiff, Nat.reduceLT, nb0, nb1, reduceIte, reduceCtorEq, and_false, and_true, false_and, true_and, if_true, if_false, Bool.false_eq_true, eq_self, not_true_eq_false, not_false_eq_true, mput_same, mput_mput, fset_same, a310_0 hz, a310_1 hz, a310_2 hz, a310_3 hz, a310_4 hz, a310_5 hz, a310_6 hz, a310_7 hz, k309 hz, g309_0 hz, g, pasR, Int32.add_zero]
  | succ k ih =>
    intro i F hc hi acc rest
    have hcF : cnt (mput M (z.1 + 310) F (z.1 + 310)) nc nh np := by rw [mput_same]; exact hc
    have ih2 := fun acc rest => ih (i + 1) (begR (dayF F) 0 np).1 (begR_cnt (dayF_cnt hc)) (by omega) acc rest
    have g := nI_goon (i := i) (n := u) (by omega) (by omega)
    rw [e144_4]
    simp only [e144_0, e144_1, e144_2, e144_3, e144_5, e144_6, e144_9, e144_10, e144_11, e144_14, e144_15, e144_16, e144_19, e144_22, e144_23, lk, lset, ldel, lset2, ldel2, cat2, gI_int, gA_ref, gA_null, gV_some, gC_some, gL_long, Option.toList, List.cons_append, List.nil_append, List.length_cons, List.length_nil, Nat.reduceEqDiff, Nat.reduceAdd, Nat.reduceSub, Nat.reduceLeDiff, Nat.reduceLT, nb0, nb1, reduceIte, reduceCtorEq, and_false, and_true, false_and, true_and, if_true, if_false, Bool.false_eq_true, eq_self, not_true_eq_false, not_false_eq_true, mput_same, mput_mput, fset_same, a310_0 hz, a310_1 hz, a310_2 hz, a310_3 hz, a310_4 hz, a310_5 hz, a310_6 hz, a310_7 hz, k309 hz, g309_0 hz, g, nI_1, m_begins hz hcF, ih2, pasR, Int32.add_assoc]
theorem m_passes (hz : zok z) (hc : cnt (M (z.1 + 310)) nc nh np) {u : Nat} (hu : u ≤ 99) : run (d + 5) 144 [.ref (z.1 + 309), .int (nI u)] (wld z M p) = some (some (.int (0 + (pasR (M (z.1 + 310)) np u).2)), wld z (mput M (z.1 + 310) (pasR (M (z.1 + 310)) np u).1) p) := by
  have e := fun acc rest => l_passes (d := d) (M := M) (p := p) hz hu u 0 (M (z.1 + 310)) hc (by omega) acc rest
  rw [show nI 0 = 0 from nI_0, mput_self] at e
  rw [r144]
  simp only [e144_0, e144_1, e144_2, e144_3, e144_5, e144_6, e144_9, e144_10, e144_11, e144_14, e144_15, e144_16, e144_19, e144_22, e144_23, lk, lset, ldel, lset2, ldel2, cat2, gI_int, gA_ref, gA_null, gV_some, gC_some, gL_long, Option.toList, List.cons_append, List.nil_append, List.length_cons, List.length_nil, Nat.reduceEqDiff, Nat.reduceAdd, Nat.reduceSub, Nat.reduceLeDiff, Nat.reduceLT, nb0, nb1, reduceIte, reduceCtorEq, and_false, and_true, false_and, true_and, if_true, if_false, Bool.false_eq_true, eq_self, not_true_eq_false, not_false_eq_true, e]
end ML
