/-! the model's other loops -/
theorem bI_F {h : Decidable False} : @bI False h = 0 := by
  unfold bI
  exact if_neg id
section ML
variable {z : Zt} {d : Nat} {M : Nat → Nat → Int32} {p : Nat → Nat} {nc nh np : Nat}
def mleftS (G : Nat → Int32) (c g : Int32) : Nat → Int32 := fun i => bI (G (58 + 10 * i + 4) = c ∧ G (58 + 10 * i + 5) = g) + bI (G (58 + 10 * i + 7) = c ∧ G (58 + 10 * i + 8) = g)
theorem l_left (hz : zok z) (hc : cnt (M (z.1 + 310)) nc nh np) {c g : Int32} : ∀ (k i : Nat), i + k = np → ∀ (acc : Int32) (rest : List (Nat × Value)), X (d + 1) 131 5 ((0, .ref (z.1 + 309)) :: (1, .int c) :: (2, .int g) :: (3, .int acc) :: (4, .int (nI i)) :: rest) [] (wld z M p) = some (some (.int (acc - sumR (mleftS (M (z.1 + 310)) c g) i k)), wld z M p) := by
  intro k
  have hle := hc.2.2.2.2.2
  induction k with
  | zero =>
    intro i hi acc rest
    have g := nI_stop (n := np) (i := i) (by omega) (by omega)
    rw [e131_5]
    simp only [e131_0, e131_1, e131_2, e131_3, e131_7, e131_8, e131_11, e131_12, e131_13, e131_16, e131_17, e131_18, e131_20, e131_21, e131_24, e131_25, e131_28, e131_29, e131_31, e131_32, e131_35, e131_36, e131_39, e131_40, e131_43, e131_44, e131_45, e131_46, e131_47, e131_48, e131_50, e131_52, e131_55, e131_56, e131_59, e131_60, e131_62, e131_64, e131_67, e131_68, e131_71, e131_72, e131_75, e131_76, e131_77, e131_78, e131_81, e131_84, e131_85, lk, lset, ldel, lset2, ldel2, cat2, gI_int, gA_ref, gA_null, gV_some, gC_some, gL_long, Option.toList, List.cons_append, List.nil_append, List.length_cons, List.length_nil, Nat.reduceEqDiff, Nat.reduceAdd, Nat.reduceSub, Nat.reduceLeDiff, Nat.reduceLT, nb0, nb1, reduceIte, reduceCtorEq, and_false, and_true, false_and, true_and, if_true, if_false, Bool.false_eq_true, eq_self, not_true_eq_false, not_false_eq_true, a310_0 hz, a310_1 hz, a310_2 hz, a310_3 hz, a310_4 hz, a310_5 hz, a310_6 hz, a310_7 hz, k309 hz, g309_0 hz, hc.2.2.2.2.1, g, sumR, Int32.sub_zero]
  | succ k ih =>
    intro i hi acc rest
    have ih' := fun acc rest => ih (i + 1) (by omega) acc rest
    have gg := nI_goon (i := i) (n := np) (by omega) (by omega)
    have hi2 : i < 24 := by omega
    rw [e131_5]
    simp only [e131_0, e131_1, e131_2, e131_3, e131_7, e131_8, e131_11, e131_12, e131_13, e131_16, e131_17, e131_18, e131_20, e131_21, e131_24, e131_25, e131_28, e131_29, e131_31, e131_32, e131_35, e131_36, e131_39, e131_40, e131_43, e131_44, e131_45, e131_46, e131_47, e131_48, e131_50, e131_52, e131_55, e131_56, e131_59, e131_60, e131_62, e131_64, e131_67, e131_68, e131_71, e131_72, e131_75, e131_76, e131_77, e131_78, e131_81, e131_84, e131_85, lk, lset, ldel, lset2, ldel2, cat2, gI_int, gA_ref, gA_null, gV_some, gC_some, gL_long, Option.toList, List.cons_append, List.nil_append, List.length_cons, List.length_nil, Nat.reduceEqDiff, Nat.reduceAdd, Nat.reduceSub, Nat.reduceLeDiff, Nat.reduceLT, nb0, nb1, reduceIte, reduceCtorEq, and_false, and_true, false_and, true_and, if_true, if_false, Bool.false_eq_true, eq_self, not_true_eq_false, not_false_eq_true, a310_0 hz, a310_1 hz, a310_2 hz, a310_3 hz, a310_4 hz, a310_5 hz, a310_6 hz, a310_7 hz, k309 hz, g309_0 hz, hc.2.2.2.2.1, gg, nI_1, ih', m_of4 hz hi2, m_of5 hz hi2, m_of7 hz hi2, m_of8 hz hi2]
    simp only [sumR, mleftS]
    grind [bI]
theorem m_left (hz : zok z) (hc : cnt (M (z.1 + 310)) nc nh np) {c g : Int32} : run (d + 2) 131 [.ref (z.1 + 309), .int c, .int g] (wld z M p) = some (some (.int (3 - sumR (mleftS (M (z.1 + 310)) c g) 0 np)), wld z M p) := by
  have e := fun acc rest => l_left (d := d) (p := p) hz hc (c := c) (g := g) np 0 (by omega) acc rest
  rw [show nI 0 = 0 from nI_0] at e
  rw [r131]
  simp only [e131_0, e131_1, e131_2, e131_3, e131_7, e131_8, e131_11, e131_12, e131_13, e131_16, e131_17, e131_18, e131_20, e131_21, e131_24, e131_25, e131_28, e131_29, e131_31, e131_32, e131_35, e131_36, e131_39, e131_40, e131_43, e131_44, e131_45, e131_46, e131_47, e131_48, e131_50, e131_52, e131_55, e131_56, e131_59, e131_60, e131_62, e131_64, e131_67, e131_68, e131_71, e131_72, e131_75, e131_76, e131_77, e131_78, e131_81, e131_84, e131_85, lk, lset, ldel, lset2, ldel2, cat2, gI_int, gA_ref, gA_null, gV_some, gC_some, gL_long, Option.toList, List.cons_append, List.nil_append, List.length_cons, List.length_nil, Nat.reduceEqDiff, Nat.reduceAdd, Nat.reduceSub, Nat.reduceLeDiff, Nat.reduceLT, nb0, nb1, reduceIte, reduceCtorEq, and_false, and_true, false_and, true_and, if_true, if_false, Bool.false_eq_true, eq_self, not_true_eq_false, not_false_eq_true, e]
def firstM (P : Nat → Prop) [DecidablePred P] : Nat → Nat → Int32
  | _, 0 => -100004
  | i, k + 1 => if P i then nI i else firstM P (i + 1) k
theorem l_found (hz : zok z) (hc : cnt (M (z.1 + 310)) nc nh np) {a b c : Int32} : ∀ (k i : Nat), i + k = np → ∀ (rest : List (Nat × Value)), X (d + 1) 128 3 ((0, .ref (z.1 + 309)) :: (1, .int a) :: (2, .int b) :: (3, .int c) :: (4, .int (nI i)) :: rest) [] (wld z M p) = some (some (.int (firstM (wordsS (M (z.1 + 310)) a b c) i k)), wld z M p) := by
  intro k
  have hle := hc.2.2.2.2.2
  induction k with
  | zero =>
    intro i hi rest
    have g := nI_stop (n := np) (i := i) (by omega) (by omega)
    rw [e128_3]
    simp only [e128_0, e128_1, e128_5, e128_6, e128_9, e128_10, e128_11, e128_14, e128_15, e128_17, e128_18, e128_21, e128_22, e128_25, e128_26, e128_28, e128_29, e128_32, e128_33, e128_36, e128_37, e128_39, e128_40, e128_43, e128_44, e128_47, e128_49, e128_50, e128_53, e128_56, e128_58, lk, lset, ldel, lset2, ldel2, cat2, gI_int, gA_ref, gA_null, gV_some, gC_some, gL_long, Option.toList, List.cons_append, List.nil_append, List.length_cons, List.length_nil, Nat.reduceEqDiff, Nat.reduceAdd, Nat.reduceSub, Nat.reduceLeDiff, Nat.reduceLT, nb0, nb1, reduceIte, reduceCtorEq, and_false, and_true, false_and, true_and, if_true, if_false, Bool.false_eq_true, eq_self, not_true_eq_false, not_false_eq_true, a310_0 hz, a310_1 hz, a310_2 hz, a310_3 hz, a310_4 hz, a310_5 hz, a310_6 hz, a310_7 hz, k309 hz, g309_0 hz, hc.2.2.2.2.1, g, firstM]
  | succ k ih =>
    intro i hi rest
    have ih' := fun rest => ih (i + 1) (by omega) rest
    have g := nI_goon (i := i) (n := np) (by omega) (by omega)
    have hi2 : i < 24 := by omega
    rw [e128_3]
    simp only [e128_0, e128_1, e128_5, e128_6, e128_9, e128_10, e128_11, e128_14, e128_15, e128_17, e128_18, e128_21, e128_22, e128_25, e128_26, e128_28, e128_29, e128_32, e128_33, e128_36, e128_37, e128_39, e128_40, e128_43, e128_44, e128_47, e128_49, e128_50, e128_53, e128_56, e128_58, lk, lset, ldel, lset2, ldel2, cat2, gI_int, gA_ref, gA_null, gV_some, gC_some, gL_long, Option.toList, List.cons_append, List.nil_append, List.length_cons, List.length_nil, Nat.reduceEqDiff, Nat.reduceAdd, Nat.reduceSub, Nat.reduceLeDiff, Nat.reduceLT, nb0, nb1, reduceIte, reduceCtorEq, and_false, and_true, false_and, true_and, if_true, if_false, Bool.false_eq_true, eq_self, not_true_eq_false, not_false_eq_true, a310_0 hz, a310_1 hz, a310_2 hz, a310_3 hz, a310_4 hz, a310_5 hz, a310_6 hz, a310_7 hz, k309 hz, g309_0 hz, hc.2.2.2.2.1, g, nI_1, ih', m_of1 hz hi2, m_of2 hz hi2, m_of3 hz hi2]
    simp only [firstM]
    grind
theorem m_found (hz : zok z) (hc : cnt (M (z.1 + 310)) nc nh np) {a b c : Int32} : run (d + 2) 128 [.ref (z.1 + 309), .int a, .int b, .int c] (wld z M p) = some (some (.int (firstM (wordsS (M (z.1 + 310)) a b c) 0 np)), wld z M p) := by
  have e := fun rest => l_found (d := d) (p := p) hz hc (a := a) (b := b) (c := c) np 0 (by omega) rest
  rw [show nI 0 = 0 from nI_0] at e
  rw [r128]
  simp only [e128_0, e128_1, e128_5, e128_6, e128_9, e128_10, e128_11, e128_14, e128_15, e128_17, e128_18, e128_21, e128_22, e128_25, e128_26, e128_28, e128_29, e128_32, e128_33, e128_36, e128_37, e128_39, e128_40, e128_43, e128_44, e128_47, e128_49, e128_50, e128_53, e128_56, e128_58, lk, lset, ldel, lset2, ldel2, cat2, gI_int, gA_ref, gA_null, gV_some, gC_some, gL_long, Option.toList, List.cons_append, List.nil_append, List.length_cons, List.length_nil, Nat.reduceEqDiff, Nat.reduceAdd, Nat.reduceSub, Nat.reduceLeDiff, Nat.reduceLT, nb0, nb1, reduceIte, reduceCtorEq, and_false, and_true, false_and, true_and, if_true, if_false, Bool.false_eq_true, eq_self, not_true_eq_false, not_false_eq_true, e]
def mtellS (G : Nat → Int32) (ci : Nat) (s : Int32) : Nat → Int32 := fun i => bI ((¬ G (58 + 10 * i + 4) < 0 ∧ bookG G i 4 = nI ci ∧ ¬ G (58 + 10 * i + 0) = G (8 + 2 * ci + 0)) ∧ knows s (G (58 + 10 * i + 0)))
theorem l_mtellsIn (hz : zok z) (hc : cnt (M (z.1 + 310)) nc nh np) (hw : ∀ i, i < np → whereOk (M (z.1 + 310)) nh i) {s : Int32} {ci : Nat} (hci : ci < nc) : ∀ (k i : Nat), i + k = np → ∀ (acc : Int32) (rest : List (Nat × Value)), X (d + 2) 149 5 ((0, .ref (z.1 + 309)) :: (1, .int (nI ci)) :: (2, .int s) :: (3, .int acc) :: (4, .int (nI i)) :: rest) [] (wld z M p) = some (some (.int (acc + sumR (mtellS (M (z.1 + 310)) ci s) i k)), wld z M p) := by
  intro k
  have hle := hc.2.2.2.2.2
  have hle2 := hc.2.2.2.1
  have hci5 : ci < 5 := by have := hc.2.1; omega
  induction k with
  | zero =>
    intro i hi acc rest
    have g := nI_stop (n := np) (i := i) (by omega) (by omega)
    rw [e149_5]
    simp only [e149_0, e149_1, e149_2, e149_3, e149_7, e149_8, e149_11, e149_12, e149_13, e149_16, e149_17, e149_19, e149_22, e149_25, e149_26, e149_28, e149_31, e149_32, e149_35, e149_36, e149_38, e149_39, e149_42, e149_43, e149_44, e149_45, e149_48, e149_51, e149_52, e149_55, e149_56, e149_58, e149_59, e149_61, e149_64, e149_65, e149_66, e149_68, e149_69, e149_72, e149_73, e149_74, e149_75, e149_76, e149_79, e149_80, e149_83, e149_84, e149_85, e149_86, e149_89, e149_92, e149_93, lk, lset, ldel, lset2, ldel2, cat2, gI_int, gA_ref, gA_null, gV_some, gC_some, gL_long, Option.toList, List.cons_append, List.nil_append, List.length_cons, List.length_nil, Nat.reduceEqDiff, Nat.reduceAdd, Nat.reduceSub, Nat.reduceLeDiff, Nat.reduceLT, nb0, nb1, reduceIte, reduceCtorEq, and_false, and_true, false_and, true_and, if_true, if_false, Bool.false_eq_true, eq_self, not_true_eq_false, not_false_eq_true, a310_0 hz, a310_1 hz, a310_2 hz, a310_3 hz, a310_4 hz, a310_5 hz, a310_6 hz, a310_7 hz, k309 hz, g309_0 hz, hc.2.2.2.2.1, g, sumR, Int32.add_zero]
  | succ k ih =>
    intro i hi acc rest
    have ih' := fun acc rest => ih (i + 1) (by omega) acc rest
    have g := nI_goon (i := i) (n := np) (by omega) (by omega)
    have hi2 : i < 24 := by omega
    have n10 : ¬ (1 : Int32) = 0 := by decide
    rw [e149_5]
    rcases (hw i (by omega)).1 with hf | ⟨c0, hc0, hf⟩
    · simp only [e149_0, e149_1, e149_2, e149_3, e149_7, e149_8, e149_11, e149_12, e149_13, e149_16, e149_17, e149_19, e149_22, e149_25, e149_26, e149_28, e149_31, e149_32, e149_35, e149_36, e149_38, e149_39, e149_42, e149_43, e149_44, e149_45, e149_48, e149_51, e149_52, e149_55, e149_56, e149_58, e149_59, e149_61, e149_64, e149_65, e149_66, e149_68, e149_69, e149_72, e149_73, e149_74, e149_75, e149_76, e149_79, e149_80, e149_83, e149_84, e149_85, e149_86, e149_89, e149_92, e149_93, lk, lset, ldel, lset2, ldel2, cat2, gI_int, gA_ref, gA_null, gV_some, gC_some, gL_long, Option.toList, List.cons_append, List.nil_append, List.length_cons, List.length_nil, Nat.reduceEqDiff, Nat.reduceAdd, Nat.reduceSub, Nat.reduceLeDiff, Nat.reduceLT, nb0, nb1, reduceIte, reduceCtorEq, and_false, and_true, false_and, true_and, if_true, if_false, Bool.false_eq_true, eq_self, not_true_eq_false, not_false_eq_true, lk_same, lk_same2, lk_k1, lk_k1r, lk_ldN, ne_eq, a310_0 hz, a310_1 hz, a310_2 hz, a310_3 hz, a310_4 hz, a310_5 hz, a310_6 hz, a310_7 hz, k309 hz, g309_0 hz, hc.2.2.2.2.1, g, nI_1, ih', m_mIsFree hz hi2, m_of0 hz hi2, m_ofClient0 hz hci5, hf, neg1, neg2, bI_0, n10]
      simp only [sumR, mtellS, knows, hf, neg1, neg2]
      grind [bI]
    · have hc10 : c0 < 10 := by omega
      simp only [e149_0, e149_1, e149_2, e149_3, e149_7, e149_8, e149_11, e149_12, e149_13, e149_16, e149_17, e149_19, e149_22, e149_25, e149_26, e149_28, e149_31, e149_32, e149_35, e149_36, e149_38, e149_39, e149_42, e149_43, e149_44, e149_45, e149_48, e149_51, e149_52, e149_55, e149_56, e149_58, e149_59, e149_61, e149_64, e149_65, e149_66, e149_68, e149_69, e149_72, e149_73, e149_74, e149_75, e149_76, e149_79, e149_80, e149_83, e149_84, e149_85, e149_86, e149_89, e149_92, e149_93, lk, lset, ldel, lset2, ldel2, cat2, gI_int, gA_ref, gA_null, gV_some, gC_some, gL_long, Option.toList, List.cons_append, List.nil_append, List.length_cons, List.length_nil, Nat.reduceEqDiff, Nat.reduceAdd, Nat.reduceSub, Nat.reduceLeDiff, Nat.reduceLT, nb0, nb1, reduceIte, reduceCtorEq, and_false, and_true, false_and, true_and, if_true, if_false, Bool.false_eq_true, eq_self, not_true_eq_false, not_false_eq_true, lk_same, lk_same2, lk_k1, lk_k1r, lk_ldN, ne_eq, a310_0 hz, a310_1 hz, a310_2 hz, a310_3 hz, a310_4 hz, a310_5 hz, a310_6 hz, a310_7 hz, k309 hz, g309_0 hz, hc.2.2.2.2.1, g, nI_1, ih', m_mIsFree hz hi2, m_of0 hz hi2, m_ofClient0 hz hci5, m_bookOf hz hi2 hc10 hf, hf, nI_neg (show c0 ≤ 2000 by omega), bI_0, n10]
      simp only [sumR, mtellS, knows, hf, nI_neg (show c0 ≤ 2000 by omega), bookG_at hf (show c0 ≤ 2000 by omega)]
      grind [bI]
theorem m_mtellsIn (hz : zok z) (hc : cnt (M (z.1 + 310)) nc nh np) (hw : ∀ i, i < np → whereOk (M (z.1 + 310)) nh i) {s : Int32} {ci : Nat} (hci : ci < nc) : run (d + 3) 149 [.ref (z.1 + 309), .int (nI ci), .int s] (wld z M p) = some (some (.int (0 + sumR (mtellS (M (z.1 + 310)) ci s) 0 np)), wld z M p) := by
  have e := fun acc rest => l_mtellsIn (d := d) (p := p) hz hc hw (s := s) hci np 0 (by omega) acc rest
  rw [show nI 0 = 0 from nI_0] at e
  rw [r149]
  simp only [e149_0, e149_1, e149_2, e149_3, e149_7, e149_8, e149_11, e149_12, e149_13, e149_16, e149_17, e149_19, e149_22, e149_25, e149_26, e149_28, e149_31, e149_32, e149_35, e149_36, e149_38, e149_39, e149_42, e149_43, e149_44, e149_45, e149_48, e149_51, e149_52, e149_55, e149_56, e149_58, e149_59, e149_61, e149_64, e149_65, e149_66, e149_68, e149_69, e149_72, e149_73, e149_74, e149_75, e149_76, e149_79, e149_80, e149_83, e149_84, e149_85, e149_86, e149_89, e149_92, e149_93, lk, lset, ldel, lset2, ldel2, cat2, gI_int, gA_ref, gA_null, gV_some, gC_some, gL_long, Option.toList, List.cons_append, List.nil_append, List.length_cons, List.length_nil, Nat.reduceEqDiff, Nat.reduceAdd, Nat.reduceSub, Nat.reduceLeDiff, Nat.reduceLT, nb0, nb1, reduceIte, reduceCtorEq, and_false, and_true, false_and, true_and, if_true, if_false, Bool.false_eq_true, eq_self, not_true_eq_false, not_false_eq_true, e]
def mtellsF (G : Nat → Int32) (np : Nat) (s : Int32) (ci : Nat) : Int32 := 0 + sumR (mtellS G ci s) 0 np
theorem l_allTells (hz : zok z) (hc : cnt (M (z.1 + 310)) nc nh np) (hw : ∀ i, i < np → whereOk (M (z.1 + 310)) nh i) : ∀ (k i : Nat), i + k = nc → ∀ (acc : Int32) (rest : List (Nat × Value)), X (d + 3) 150 4 ((0, .ref (z.1 + 309)) :: (1, .int acc) :: (2, .int (nI i)) :: rest) [] (wld z M p) = some (some (.int (acc + sumR (mtellsF (M (z.1 + 310)) np 15) i k)), wld z M p) := by
  intro k
  have hle := hc.2.1
  induction k with
  | zero =>
    intro i hi acc rest
    have g := nI_stop (n := nc) (i := i) (by omega) (by omega)
    rw [e150_4]
    simp only [e150_0, e150_1, e150_2, e150_3, e150_5, e150_6, e150_9, e150_10, e150_11, e150_14, e150_15, e150_16, e150_17, e150_19, e150_22, e150_23, e150_24, e150_27, e150_30, e150_31, lk, lset, ldel, lset2, ldel2, cat2, gI_int, gA_ref, gA_null, gV_some, gC_some, gL_long, Option.toList, List.cons_append, List.nil_append, List.length_cons, List.length_nil, Nat.reduceEqDiff, Nat.reduceAdd, Nat.reduceSub, Nat.reduceLeDiff, Nat.reduceLT, nb0, nb1, reduceIte, reduceCtorEq, and_false, and_true, false_and, true_and, if_true, if_false, Bool.false_eq_true, eq_self, not_true_eq_false, not_false_eq_true, a310_0 hz, a310_1 hz, a310_2 hz, a310_3 hz, a310_4 hz, a310_5 hz, a310_6 hz, a310_7 hz, k309 hz, g309_0 hz, hc.1, g, sumR, Int32.add_zero]
  | succ k ih =>
    intro i hi acc rest
    have ih' := fun acc rest => ih (i + 1) (by omega) acc rest
    have g := nI_goon (i := i) (n := nc) (by omega) (by omega)
    rw [e150_4]
    simp only [e150_0, e150_1, e150_2, e150_3, e150_5, e150_6, e150_9, e150_10, e150_11, e150_14, e150_15, e150_16, e150_17, e150_19, e150_22, e150_23, e150_24, e150_27, e150_30, e150_31, lk, lset, ldel, lset2, ldel2, cat2, gI_int, gA_ref, gA_null, gV_some, gC_some, gL_long, Option.toList, List.cons_append, List.nil_append, List.length_cons, List.length_nil, Nat.reduceEqDiff, Nat.reduceAdd, Nat.reduceSub, Nat.reduceLeDiff, Nat.reduceLT, nb0, nb1, reduceIte, reduceCtorEq, and_false, and_true, false_and, true_and, if_true, if_false, Bool.false_eq_true, eq_self, not_true_eq_false, not_false_eq_true, a310_0 hz, a310_1 hz, a310_2 hz, a310_3 hz, a310_4 hz, a310_5 hz, a310_6 hz, a310_7 hz, k309 hz, g309_0 hz, hc.1, g, nI_1, ih', m_mtellsIn hz hc hw (show i < nc by omega)]
    simp only [sumR, mtellsF, Int32.add_assoc]
theorem m_allTells (hz : zok z) (hc : cnt (M (z.1 + 310)) nc nh np) (hw : ∀ i, i < np → whereOk (M (z.1 + 310)) nh i) : run (d + 4) 150 [.ref (z.1 + 309)] (wld z M p) = some (some (.int (0 + sumR (mtellsF (M (z.1 + 310)) np 15) 0 nc)), wld z M p) := by
  have e := fun acc rest => l_allTells (d := d) (p := p) hz hc hw nc 0 (by omega) acc rest
  rw [show nI 0 = 0 from nI_0] at e
  rw [r150]
  simp only [e150_0, e150_1, e150_2, e150_3, e150_5, e150_6, e150_9, e150_10, e150_11, e150_14, e150_15, e150_16, e150_17, e150_19, e150_22, e150_23, e150_24, e150_27, e150_30, e150_31, lk, lset, ldel, lset2, ldel2, cat2, gI_int, gA_ref, gA_null, gV_some, gC_some, gL_long, Option.toList, List.cons_append, List.nil_append, List.length_cons, List.length_nil, Nat.reduceEqDiff, Nat.reduceAdd, Nat.reduceSub, Nat.reduceLeDiff, Nat.reduceLT, nb0, nb1, reduceIte, reduceCtorEq, and_false, and_true, false_and, true_and, if_true, if_false, Bool.false_eq_true, eq_self, not_true_eq_false, not_false_eq_true, e]
def mfwR (F : Nat → Int32) : Nat → Nat → Int64 → Int32
  | _, 0, _ => 0
  | i, k + 1, s => (if (s >>> ((F (58 + 10 * i + 1)).toInt64 &&& 63)) &&& 1 = 0 then (1 : Int32) else 0) + mfwR F (i + 1) k (s ||| (1 <<< ((F (58 + 10 * i + 1)).toInt64 &&& 63)))
theorem l_mfirstWords (hz : zok z) (hc : cnt (M (z.1 + 310)) nc nh np) : ∀ (k i : Nat), i + k = np → ∀ (acc : Int32) (s : Int64) (rest : List (Nat × Value)), X (d + 1) 160 7 ((0, .ref (z.1 + 309)) :: (1, .long s) :: (3, .int acc) :: (4, .int (nI i)) :: rest) [] (wld z M p) = some (some (.int (acc + mfwR (M (z.1 + 310)) i k s)), wld z M p) := by
  intro k
  have hle := hc.2.2.2.2.2
  induction k with
  | zero =>
    intro i hi acc s rest
    have g := nI_stop (n := np) (i := i) (by omega) (by omega)
    rw [e160_7]
    simp only [e160_0, e160_1, e160_2, e160_3, e160_4, e160_5, e160_9, e160_10, e160_13, e160_14, e160_15, e160_18, e160_19, e160_20, e160_21, e160_23, e160_24, e160_27, e160_28, e160_29, e160_30, e160_31, e160_32, e160_35, e160_36, e160_39, e160_40, e160_41, e160_42, e160_43, e160_44, e160_45, e160_47, e160_48, e160_51, e160_52, e160_53, e160_54, e160_57, e160_60, e160_61, lk, lset, ldel, lset2, ldel2, cat2, gI_int, gA_ref, gA_null, gV_some, gC_some, gL_long, Option.toList, List.cons_append, List.nil_append, List.length_cons, List.length_nil, Nat.reduceEqDiff, Nat.reduceAdd, Nat.reduceSub, Nat.reduceLeDiff, Nat.reduceLT, nb0, nb1, reduceIte, reduceCtorEq, and_false, and_true, false_and, true_and, if_true, if_false, Bool.false_eq_true, eq_self, not_true_eq_false, not_false_eq_true, a310_0 hz, a310_1 hz, a310_2 hz, a310_3 hz, a310_4 hz, a310_5 hz, a310_6 hz, a310_7 hz, k309 hz, g309_0 hz, hc.2.2.2.2.1, g, mfwR, Int32.add_zero]
  | succ k ih =>
    intro i hi acc s rest
    have ih' := fun acc s rest => ih (i + 1) (by omega) acc s rest
    have g := nI_goon (i := i) (n := np) (by omega) (by omega)
    have hi2 : i < 24 := by omega
    rw [e160_7]
    simp only [e160_0, e160_1, e160_2, e160_3, e160_4, e160_5, e160_9, e160_10, e160_13, e160_14, e160_15, e160_18, e160_19, e160_20, e160_21, e160_23, e160_24, e160_27, e160_28, e160_29, e160_30, e160_31, e160_32, e160_35, e160_36, e160_39, e160_40, e160_41, e160_42, e160_43, e160_44, e160_45, e160_47, e160_48, e160_51, e160_52, e160_53, e160_54, e160_57, e160_60, e160_61, lk, lset, ldel, lset2, ldel2, cat2, gI_int, gA_ref, gA_null, gV_some, gC_some, gL_long, Option.toList, List.cons_append, List.nil_append, List.length_cons, List.length_nil, Nat.reduceEqDiff, Nat.reduceAdd, Nat.reduceSub, Nat.reduceLeDiff, Nat.reduceLT, nb0, nb1, reduceIte, reduceCtorEq, and_false, and_true, false_and, true_and, if_true, if_false, Bool.false_eq_true, eq_self, not_true_eq_false, not_false_eq_true, lk_same, lk_same2, lk_k1, lk_k1r, lk_ldN, ne_eq, a310_0 hz, a310_1 hz, a310_2 hz, a310_3 hz, a310_4 hz, a310_5 hz, a310_6 hz, a310_7 hz, k309 hz, g309_0 hz, hc.2.2.2.2.1, g, nI_1, ih', m_of1 hz hi2, lcmp0]
    simp only [mfwR]
    by_cases hs : (s >>> ((M (z.1 + 310) (58 + 10 * i + 1)).toInt64 &&& 63)) &&& 1 = 0 <;> simp only [hs, if_true, if_false, Int32.add_assoc, Int32.zero_add, Int32.add_zero]
theorem m_mfirstWords (hz : zok z) (hc : cnt (M (z.1 + 310)) nc nh np) : run (d + 2) 160 [.ref (z.1 + 309)] (wld z M p) = some (some (.int (0 + mfwR (M (z.1 + 310)) 0 np 0)), wld z M p) := by
  have e := fun acc s rest => l_mfirstWords (d := d) (p := p) hz hc np 0 (by omega) acc s rest
  rw [show nI 0 = 0 from nI_0] at e
  rw [r160]
  simp only [e160_0, e160_1, e160_2, e160_3, e160_4, e160_5, e160_9, e160_10, e160_13, e160_14, e160_15, e160_18, e160_19, e160_20, e160_21, e160_23, e160_24, e160_27, e160_28, e160_29, e160_30, e160_31, e160_32, e160_35, e160_36, e160_39, e160_40, e160_41, e160_42, e160_43, e160_44, e160_45, e160_47, e160_48, e160_51, e160_52, e160_53, e160_54, e160_57, e160_60, e160_61, lk, lset, ldel, lset2, ldel2, cat2, gI_int, gA_ref, gA_null, gV_some, gC_some, gL_long, Option.toList, List.cons_append, List.nil_append, List.length_cons, List.length_nil, Nat.reduceEqDiff, Nat.reduceAdd, Nat.reduceSub, Nat.reduceLeDiff, Nat.reduceLT, nb0, nb1, reduceIte, reduceCtorEq, and_false, and_true, false_and, true_and, if_true, if_false, Bool.false_eq_true, eq_self, not_true_eq_false, not_false_eq_true, e]
def mlikeS (G : Nat → Int32) (n : Nat) : Nat → Int32 := fun i => bI (¬ nI i = nI n ∧ ¬ G (58 + 10 * i + 4) < 0 ∧ bookG G i 4 = bookG G n 4 ∧ G (58 + 10 * i + 1) = G (58 + 10 * n + 1))
theorem l_alike (hz : zok z) (hc : cnt (M (z.1 + 310)) nc nh np) (hw : ∀ i, i < np → whereOk (M (z.1 + 310)) nh i) {n cn : Nat} (hn : n < np) (hcn : cn < nh) (hfn : M (z.1 + 310) (58 + 10 * n + 4) = nI cn) : ∀ (k i : Nat), i + k = np → ∀ (acc : Int32) (rest : List (Nat × Value)), X (d + 2) 158 26 ((0, .ref (z.1 + 309)) :: (1, .int (nI n)) :: (2, .int acc) :: (3, .int (nI i)) :: rest) [] (wld z M p) = some (some (.int (acc + sumR (mlikeS (M (z.1 + 310)) n) i k)), wld z M p) := by
  intro k
  have hle := hc.2.2.2.2.2
  have hle2 := hc.2.2.2.1
  have hn2 : n < 24 := by omega
  induction k with
  | zero =>
    intro i hi acc rest
    have g := nI_stop (n := np) (i := i) (by omega) (by omega)
    rw [e158_26]
    simp only [e158_0, e158_1, e158_2, e158_5, e158_8, e158_10, e158_11, e158_12, e158_13, e158_16, e158_19, e158_21, e158_22, e158_23, e158_24, e158_25, e158_27, e158_28, e158_31, e158_32, e158_33, e158_36, e158_37, e158_38, e158_39, e158_42, e158_43, e158_44, e158_47, e158_50, e158_51, e158_52, e158_55, e158_56, e158_57, e158_60, e158_63, e158_64, e158_65, e158_66, e158_69, e158_70, e158_71, e158_72, e158_75, e158_78, e158_79, e158_82, e158_83, e158_84, e158_85, e158_88, e158_91, e158_92, lk, lset, ldel, lset2, ldel2, cat2, gI_int, gA_ref, gA_null, gV_some, gC_some, gL_long, Option.toList, List.cons_append, List.nil_append, List.length_cons, List.length_nil, Nat.reduceEqDiff, Nat.reduceAdd, Nat.reduceSub, Nat.reduceLeDiff, Nat.reduceLT, nb0, nb1, reduceIte, reduceCtorEq, and_false, and_true, false_and, true_and, if_true, if_false, Bool.false_eq_true, eq_self, not_true_eq_false, not_false_eq_true, a310_0 hz, a310_1 hz, a310_2 hz, a310_3 hz, a310_4 hz, a310_5 hz, a310_6 hz, a310_7 hz, k309 hz, g309_0 hz, hc.2.2.2.2.1, g, sumR, Int32.add_zero]
  | succ k ih =>
    intro i hi acc rest
    have ih' := fun acc rest => ih (i + 1) (by omega) acc rest
    have g := nI_goon (i := i) (n := np) (by omega) (by omega)
    have hi2 : i < 24 := by omega
    rw [e158_26]
    rcases (hw i (by omega)).1 with hf | ⟨c0, hc0, hf⟩
    · simp only [e158_0, e158_1, e158_2, e158_5, e158_8, e158_10, e158_11, e158_12, e158_13, e158_16, e158_19, e158_21, e158_22, e158_23, e158_24, e158_25, e158_27, e158_28, e158_31, e158_32, e158_33, e158_36, e158_37, e158_38, e158_39, e158_42, e158_43, e158_44, e158_47, e158_50, e158_51, e158_52, e158_55, e158_56, e158_57, e158_60, e158_63, e158_64, e158_65, e158_66, e158_69, e158_70, e158_71, e158_72, e158_75, e158_78, e158_79, e158_82, e158_83, e158_84, e158_85, e158_88, e158_91, e158_92, lk, lset, ldel, lset2, ldel2, cat2, gI_int, gA_ref, gA_null, gV_some, gC_some, gL_long, Option.toList, List.cons_append, List.nil_append, List.length_cons, List.length_nil, Nat.reduceEqDiff, Nat.reduceAdd, Nat.reduceSub, Nat.reduceLeDiff, Nat.reduceLT, nb0, nb1, reduceIte, reduceCtorEq, and_false, and_true, false_and, true_and, if_true, if_false, Bool.false_eq_true, eq_self, not_true_eq_false, not_false_eq_true, a310_0 hz, a310_1 hz, a310_2 hz, a310_3 hz, a310_4 hz, a310_5 hz, a310_6 hz, a310_7 hz, k309 hz, g309_0 hz, hc.2.2.2.2.1, g, nI_1, ih', m_mIsFree hz hi2, m_bookOf hz hn2 (show cn < 10 by omega) hfn, hf, neg1, bI_0]
      simp only [sumR, mlikeS, hf, neg1, not_true_eq_false, false_and, and_false, bI_F, Int32.zero_add]
      by_cases e9 : nI i = nI n <;> simp only [e9, if_true, if_false, Int32.add_zero]
    · simp only [e158_0, e158_1, e158_2, e158_5, e158_8, e158_10, e158_11, e158_12, e158_13, e158_16, e158_19, e158_21, e158_22, e158_23, e158_24, e158_25, e158_27, e158_28, e158_31, e158_32, e158_33, e158_36, e158_37, e158_38, e158_39, e158_42, e158_43, e158_44, e158_47, e158_50, e158_51, e158_52, e158_55, e158_56, e158_57, e158_60, e158_63, e158_64, e158_65, e158_66, e158_69, e158_70, e158_71, e158_72, e158_75, e158_78, e158_79, e158_82, e158_83, e158_84, e158_85, e158_88, e158_91, e158_92, lk, lset, ldel, lset2, ldel2, cat2, gI_int, gA_ref, gA_null, gV_some, gC_some, gL_long, Option.toList, List.cons_append, List.nil_append, List.length_cons, List.length_nil, Nat.reduceEqDiff, Nat.reduceAdd, Nat.reduceSub, Nat.reduceLeDiff, Nat.reduceLT, nb0, nb1, reduceIte, reduceCtorEq, and_false, and_true, false_and, true_and, if_true, if_false, Bool.false_eq_true, eq_self, not_true_eq_false, not_false_eq_true, a310_0 hz, a310_1 hz, a310_2 hz, a310_3 hz, a310_4 hz, a310_5 hz, a310_6 hz, a310_7 hz, k309 hz, g309_0 hz, hc.2.2.2.2.1, g, nI_1, ih', m_mIsFree hz hi2, m_of1 hz hi2, m_of1 hz hn2, m_bookOf hz hn2 (show cn < 10 by omega) hfn, m_bookOf hz hi2 (show c0 < 10 by omega) hf, hf, nI_neg (show c0 ≤ 2000 by omega), bI_0]
      simp only [sumR, mlikeS, hf, nI_neg (show c0 ≤ 2000 by omega), bookG_at hf (show c0 ≤ 2000 by omega), bookG_at hfn (show cn ≤ 2000 by omega)]
      grind [bI]
-- homes and days
theorem mhomeF_low {F : Nat → Int32} {i j : Nat} (hj : j < 58) : mhomeF F i j = F j := by
  unfold mhomeF putsF freeF
  repeat rw [fset_ne (by omega)]
theorem freeF_low {F : Nat → Int32} {i j : Nat} (hj : j < 58) : freeF F i j = F j := by
  unfold freeF
  repeat rw [fset_ne (by omega)]
theorem mhomeF_cnt {F : Nat → Int32} {i : Nat} (hc : cnt F nc nh np) : cnt (mhomeF F i) nc nh np := by
  unfold cnt
  rw [mhomeF_low (by omega), mhomeF_low (by omega), mhomeF_low (by omega)]
  exact hc
def begR (F : Nat → Int32) : Nat → Nat → (Nat → Int32) × Int32
  | _, 0 => (F, 0)
  | i, k + 1 => if F (58 + 10 * i + 6) = F 3 then ((begR (mhomeF F i) (i + 1) k).1, 1 + (begR (mhomeF F i) (i + 1) k).2) else begR F (i + 1) k
theorem l_begins (hz : zok z) : ∀ (k i : Nat) (F : Nat → Int32), cnt F nc nh np → i + k = np → ∀ (acc : Int32) (rest : List (Nat × Value)), X (d + 3) 142 14 ((0, .ref (z.1 + 309)) :: (1, .int acc) :: (2, .int (nI i)) :: rest) [] (wld z (mput M (z.1 + 310) F) p) = some (some (.int (acc + (begR F i k).2)), wld z (mput M (z.1 + 310) (begR F i k).1) p) := by
  intro k
  induction k with
  | zero =>
    intro i F hc hi acc rest
    have hle := hc.2.2.2.2.2
    have g := nI_stop (n := np) (i := i) (by omega) (by omega)
    rw [e142_14]
    simp only [e142_15, e142_16, e142_19, e142_20, e142_21, e142_24, e142_25, e142_26, e142_28, e142_31, e142_32, e142_35, e142_36, e142_37, e142_40, e142_41, e142_42, e142_45, e142_48, e142_51, e142_54, e142_55, lk, lset, ldel, lset2, ldel2, cat2, gI_int, gA_ref, gA_null, gV_some, gC_some, gL_long, Option.toList, List.cons_append, List.nil_append, List.length_cons, List.length_nil, Nat.reduceEqDiff, Nat.reduceAdd, Nat.reduceSub, Nat.reduceLeDiff, Nat.reduceLT, nb0, nb1, reduceIte, reduceCtorEq, and_false, and_true, false_and, true_and, if_true, if_false, Bool.false_eq_true, eq_self, not_true_eq_false, not_false_eq_true, mput_same, mput_mput, fset_same, a310_0 hz, a310_1 hz, a310_2 hz, a310_3 hz, a310_4 hz, a310_5 hz, a310_6 hz, a310_7 hz, k309 hz, g309_0 hz, hc.2.2.2.2.1, g, begR, Int32.add_zero]
  | succ k ih =>
    intro i F hc hi acc rest
    have hle := hc.2.2.2.2.2
    have ih1 := fun acc rest => ih (i + 1) F hc (by omega) acc rest
    have ih2 := fun acc rest => ih (i + 1) (mhomeF F i) (mhomeF_cnt hc) (by omega) acc rest
    have g := nI_goon (i := i) (n := np) (by omega) (by omega)
    have hi2 : i < 24 := by omega
    rw [e142_14]
    simp only [e142_15, e142_16, e142_19, e142_20, e142_21, e142_24, e142_25, e142_26, e142_28, e142_31, e142_32, e142_35, e142_36, e142_37, e142_40, e142_41, e142_42, e142_45, e142_48, e142_51, e142_54, e142_55, lk, lset, ldel, lset2, ldel2, cat2, gI_int, gA_ref, gA_null, gV_some, gC_some, gL_long, Option.toList, List.cons_append, List.nil_append, List.length_cons, List.length_nil, Nat.reduceEqDiff, Nat.reduceAdd, Nat.reduceSub, Nat.reduceLeDiff, Nat.reduceLT, nb0, nb1, reduceIte, reduceCtorEq, and_false, and_true, false_and, true_and, if_true, if_false, Bool.false_eq_true, eq_self, not_true_eq_false, not_false_eq_true, mput_same, mput_mput, fset_same, a310_0 hz, a310_1 hz, a310_2 hz, a310_3 hz, a310_4 hz, a310_5 hz, a310_6 hz, a310_7 hz, k309 hz, g309_0 hz, hc.2.2.2.2.1, g, nI_1, ih1, ih2, m_of6 hz hi2, m_goesHome hz hi2]
    simp only [begR]
    by_cases h1 : F (58 + 10 * i + 6) = F 3 <;> simp only [h1, if_true, if_false, Int32.add_assoc]
def dayF (F : Nat → Int32) : Nat → Int32 := fset F 3 (F 3 + 1)
theorem dayF_cnt {F : Nat → Int32} (hc : cnt F nc nh np) : cnt (dayF F) nc nh np := by
  unfold cnt dayF
  rw [fset_ne (by omega), fset_ne (by omega), fset_ne (by omega)]
  exact hc
theorem m_begins (hz : zok z) (hc : cnt (M (z.1 + 310)) nc nh np) : run (d + 4) 142 [.ref (z.1 + 309)] (wld z M p) = some (some (.int (0 + (begR (dayF (M (z.1 + 310))) 0 np).2)), wld z (mput M (z.1 + 310) (begR (dayF (M (z.1 + 310))) 0 np).1) p) := by
  have e := fun acc rest => l_begins (d := d) (M := M) (p := p) hz np 0 (dayF (M (z.1 + 310))) (dayF_cnt hc) (by omega) acc rest
  rw [show nI 0 = 0 from nI_0] at e
  have e2 := e 0 []
  unfold dayF at e2 ⊢
  rw [r142]
  simp only [e142_0, e142_1, e142_4, e142_5, e142_6, e142_7, e142_8, e142_9, e142_10, e142_11, e142_12, e142_13, lk, lset, ldel, lset2, ldel2, cat2, gI_int, gA_ref, gA_null, gV_some, gC_some, gL_long, Option.toList, List.cons_append, List.nil_append, List.length_cons, List.length_nil, Nat.reduceEqDiff, Nat.reduceAdd, Nat.reduceSub, Nat.reduceLeDiff, Nat.reduceLT, nb0, nb1, reduceIte, reduceCtorEq, and_false, and_true, false_and, true_and, if_true, if_false, Bool.false_eq_true, eq_self, not_true_eq_false, not_false_eq_true, a310_0 hz, a310_1 hz, a310_2 hz, a310_3 hz, a310_4 hz, a310_5 hz, a310_6 hz, a310_7 hz, k309 hz, g309_0 hz, s310_0 hz, s310_1 hz, s310_2 hz, s310_3 hz, s310_4 hz, s310_5 hz, s310_6 hz, s310_7 hz]
  exact e2
def pasR (F : Nat → Int32) (np : Nat) : Nat → (Nat → Int32) × Int32
  | 0 => (F, 0)
  | k + 1 => ((pasR (begR (dayF F) 0 np).1 np k).1, (0 + (begR (dayF F) 0 np).2) + (pasR (begR (dayF F) 0 np).1 np k).2)
theorem begR_cnt : ∀ {k i : Nat} {F : Nat → Int32}, cnt F nc nh np → cnt (begR F i k).1 nc nh np := by
  intro k
  induction k with
  | zero => intro i F h; exact h
  | succ k ih =>
    intro i F h
    rw [begR]
    split
    · exact ih (mhomeF_cnt h)
    · exact ih h
theorem l_passes (hz : zok z) {u : Nat} (hu : u ≤ 99) : ∀ (k i : Nat) (F : Nat → Int32), cnt F nc nh np → i + k = u → ∀ (acc : Int32) (rest : List (Nat × Value)), X (d + 4) 143 4 ((0, .ref (z.1 + 309)) :: (1, .int (nI u)) :: (2, .int acc) :: (3, .int (nI i)) :: rest) [] (wld z (mput M (z.1 + 310) F) p) = some (some (.int (acc + (pasR F np k).2)), wld z (mput M (z.1 + 310) (pasR F np k).1) p) := by
  intro k
  induction k with
  | zero =>
    intro i F hc hi acc rest
    have g := nI_stop (n := u) (i := i) (by omega) (by omega)
    rw [e143_4]
    simp only [e143_0, e143_1, e143_2, e143_3, e143_5, e143_6, e143_9, e143_10, e143_11, e143_14, e143_15, e143_16, e143_19, e143_22, e143_23, lk, lset, ldel, lset2, ldel2, cat2, gI_int, gA_ref, gA_null, gV_some, gC_some, gL_long, Option.toList, List.cons_append, List.nil_append, List.length_cons, List.length_nil, Nat.reduceEqDiff, Nat.reduceAdd, Nat.reduceSub, Nat.reduceLeDiff, Nat.reduceLT, nb0, nb1, reduceIte, reduceCtorEq, and_false, and_true, false_and, true_and, if_true, if_false, Bool.false_eq_true, eq_self, not_true_eq_false, not_false_eq_true, mput_same, mput_mput, fset_same, a310_0 hz, a310_1 hz, a310_2 hz, a310_3 hz, a310_4 hz, a310_5 hz, a310_6 hz, a310_7 hz, k309 hz, g309_0 hz, g, pasR, Int32.add_zero]
  | succ k ih =>
    intro i F hc hi acc rest
    have hcF : cnt (mput M (z.1 + 310) F (z.1 + 310)) nc nh np := by rw [mput_same]; exact hc
    have ih2 := fun acc rest => ih (i + 1) (begR (dayF F) 0 np).1 (begR_cnt (dayF_cnt hc)) (by omega) acc rest
    have g := nI_goon (i := i) (n := u) (by omega) (by omega)
    rw [e143_4]
    simp only [e143_0, e143_1, e143_2, e143_3, e143_5, e143_6, e143_9, e143_10, e143_11, e143_14, e143_15, e143_16, e143_19, e143_22, e143_23, lk, lset, ldel, lset2, ldel2, cat2, gI_int, gA_ref, gA_null, gV_some, gC_some, gL_long, Option.toList, List.cons_append, List.nil_append, List.length_cons, List.length_nil, Nat.reduceEqDiff, Nat.reduceAdd, Nat.reduceSub, Nat.reduceLeDiff, Nat.reduceLT, nb0, nb1, reduceIte, reduceCtorEq, and_false, and_true, false_and, true_and, if_true, if_false, Bool.false_eq_true, eq_self, not_true_eq_false, not_false_eq_true, mput_same, mput_mput, fset_same, a310_0 hz, a310_1 hz, a310_2 hz, a310_3 hz, a310_4 hz, a310_5 hz, a310_6 hz, a310_7 hz, k309 hz, g309_0 hz, g, nI_1, m_begins hz hcF, ih2, pasR, Int32.add_assoc]
theorem m_passes (hz : zok z) (hc : cnt (M (z.1 + 310)) nc nh np) {u : Nat} (hu : u ≤ 99) : run (d + 5) 143 [.ref (z.1 + 309), .int (nI u)] (wld z M p) = some (some (.int (0 + (pasR (M (z.1 + 310)) np u).2)), wld z (mput M (z.1 + 310) (pasR (M (z.1 + 310)) np u).1) p) := by
  have e := fun acc rest => l_passes (d := d) (M := M) (p := p) hz hu u 0 (M (z.1 + 310)) hc (by omega) acc rest
  rw [show nI 0 = 0 from nI_0, mput_self] at e
  rw [r143]
  simp only [e143_0, e143_1, e143_2, e143_3, e143_5, e143_6, e143_9, e143_10, e143_11, e143_14, e143_15, e143_16, e143_19, e143_22, e143_23, lk, lset, ldel, lset2, ldel2, cat2, gI_int, gA_ref, gA_null, gV_some, gC_some, gL_long, Option.toList, List.cons_append, List.nil_append, List.length_cons, List.length_nil, Nat.reduceEqDiff, Nat.reduceAdd, Nat.reduceSub, Nat.reduceLeDiff, Nat.reduceLT, nb0, nb1, reduceIte, reduceCtorEq, and_false, and_true, false_and, true_and, if_true, if_false, Bool.false_eq_true, eq_self, not_true_eq_false, not_false_eq_true, e]
end ML
