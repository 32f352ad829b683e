/-! the model's counting loops -/
/-- where a phrase is and where its home is: nowhere (-1), or a chapter in use -/
def whereOk (G : Nat → Int32) (nh i : Nat) : Prop := (G (58 + 10 * i + 4) = -1 ∨ ∃ c, c < nh ∧ G (58 + 10 * i + 4) = nI c) ∧ (G (58 + 10 * i + 7) = -1 ∨ ∃ c, c < nh ∧ G (58 + 10 * i + 7) = nI c)
def bookG (G : Nat → Int32) (i k : Nat) : Int32 := G (18 + 4 * (G (58 + 10 * i + k)).toNatClampNeg + 0)
theorem neg1 : ((-1 : Int32) < 0) = True := eq_true (by decide)
theorem neg2 : ((0 : Int32) ≤ -1) = False := eq_false (by decide)
theorem nI_neg {c : Nat} (h : c ≤ 2000) : (nI c < 0) = False := eq_false (nI_pos (by omega))
theorem nI_pos0 {c : Nat} (h : c ≤ 2000) : (0 ≤ nI c) = True := eq_true (nI_pos' (by omega))
theorem bookG_at {G : Nat → Int32} {i k c : Nat} (h : G (58 + 10 * i + k) = nI c) (hc : c ≤ 2000) : bookG G i k = G (18 + 4 * c + 0) := by
  unfold bookG
  rw [h, nI_clamp (by omega)]
section MC
variable {z : Zt} {d : Nat} {M : Nat → Nat → Int32} {p : Nat → Nat} {nc nh np : Nat}
def mchaptersOfS (G : Nat → Int32) (c : Int32) : Nat → Int32 := fun i => bI (G (18 + 4 * i + 0) = c)
theorem l_mchaptersOf (hz : zok z) (hc : cnt (M (z.1 + 310)) nc nh np) {c : Int32} : ∀ (k i : Nat), i + k = nh → ∀ (acc : Int32) (rest : List (Nat × Value)), X (d + 1) 147 4 ((0, .ref (z.1 + 309)) :: (1, .int c) :: (2, .int acc) :: (3, .int (nI i)) :: rest) [] (wld z M p) = some (some (.int (acc + sumR (mchaptersOfS (M (z.1 + 310)) c) i k)), wld z M p) := by
  intro k
  have hle := hc.2.2.2.1
  induction k with
  | zero =>
    intro i hi acc rest
    have g := nI_stop (n := nh) (i := i) (by omega) (by omega)
    rw [e147_4]
    simp only [e147_0, e147_1, e147_2, e147_3, e147_5, e147_6, e147_9, e147_10, e147_11, e147_14, e147_15, e147_16, e147_17, e147_18, e147_21, e147_22, e147_25, e147_26, e147_29, e147_30, e147_31, e147_32, e147_35, e147_38, e147_39, lk, lset, ldel, lset2, ldel2, cat2, gI_int, gA_ref, gA_null, gV_some, gC_some, gL_long, Option.toList, List.cons_append, List.nil_append, List.length_cons, List.length_nil, Nat.reduceEqDiff, Nat.reduceAdd, Nat.reduceSub, Nat.reduceLeDiff, Nat.reduceLT, nb0, nb1, reduceIte, reduceCtorEq, and_false, and_true, false_and, true_and, if_true, if_false, Bool.false_eq_true, eq_self, not_true_eq_false, not_false_eq_true, a310_0 hz, a310_1 hz, a310_2 hz, a310_3 hz, a310_4 hz, a310_5 hz, a310_6 hz, a310_7 hz, k309 hz, g309_0 hz, hc.2.2.1, g, sumR, Int32.add_zero]
  | succ k ih =>
    intro i hi acc rest
    have ih' := fun acc rest => ih (i + 1) (by omega) acc rest
    have g := nI_goon (i := i) (n := nh) (by omega) (by omega)
    have hi2 : i < 10 := by omega
    rw [e147_4]
    simp only [e147_0, e147_1, e147_2, e147_3, e147_5, e147_6, e147_9, e147_10, e147_11, e147_14, e147_15, e147_16, e147_17, e147_18, e147_21, e147_22, e147_25, e147_26, e147_29, e147_30, e147_31, e147_32, e147_35, e147_38, e147_39, lk, lset, ldel, lset2, ldel2, cat2, gI_int, gA_ref, gA_null, gV_some, gC_some, gL_long, Option.toList, List.cons_append, List.nil_append, List.length_cons, List.length_nil, Nat.reduceEqDiff, Nat.reduceAdd, Nat.reduceSub, Nat.reduceLeDiff, Nat.reduceLT, nb0, nb1, reduceIte, reduceCtorEq, and_false, and_true, false_and, true_and, if_true, if_false, Bool.false_eq_true, eq_self, not_true_eq_false, not_false_eq_true, a310_0 hz, a310_1 hz, a310_2 hz, a310_3 hz, a310_4 hz, a310_5 hz, a310_6 hz, a310_7 hz, k309 hz, g309_0 hz, hc.2.2.1, g, nI_1, ih', m_ofChapter0 hz hi2]
    simp only [sumR, mchaptersOfS]
    grind [bI]
theorem m_mchaptersOf (hz : zok z) (hc : cnt (M (z.1 + 310)) nc nh np) {c : Int32} : run (d + 2) 147 [.ref (z.1 + 309), .int c] (wld z M p) = some (some (.int (0 + sumR (mchaptersOfS (M (z.1 + 310)) c) 0 nh)), wld z M p) := by
  have e := fun acc rest => l_mchaptersOf (d := d) (p := p) hz hc (c := c) nh 0 (by omega) acc rest
  rw [show nI 0 = 0 from nI_0] at e
  rw [r147]
  simp only [e147_0, e147_1, e147_2, e147_3, e147_5, e147_6, e147_9, e147_10, e147_11, e147_14, e147_15, e147_16, e147_17, e147_18, e147_21, e147_22, e147_25, e147_26, e147_29, e147_30, e147_31, e147_32, e147_35, e147_38, e147_39, lk, lset, ldel, lset2, ldel2, cat2, gI_int, gA_ref, gA_null, gV_some, gC_some, gL_long, Option.toList, List.cons_append, List.nil_append, List.length_cons, List.length_nil, Nat.reduceEqDiff, Nat.reduceAdd, Nat.reduceSub, Nat.reduceLeDiff, Nat.reduceLT, nb0, nb1, reduceIte, reduceCtorEq, and_false, and_true, false_and, true_and, if_true, if_false, Bool.false_eq_true, eq_self, not_true_eq_false, not_false_eq_true, e]
def monChapterS (G : Nat → Int32) (c : Int32) : Nat → Int32 := fun i => bI (G (58 + 10 * i + 4) = c)
theorem l_monChapter (hz : zok z) (hc : cnt (M (z.1 + 310)) nc nh np) {c : Int32} : ∀ (k i : Nat), i + k = np → ∀ (acc : Int32) (rest : List (Nat × Value)), X (d + 1) 153 4 ((0, .ref (z.1 + 309)) :: (1, .int c) :: (2, .int acc) :: (3, .int (nI i)) :: rest) [] (wld z M p) = some (some (.int (acc + sumR (monChapterS (M (z.1 + 310)) c) i k)), wld z M p) := by
  intro k
  have hle := hc.2.2.2.2.2
  induction k with
  | zero =>
    intro i hi acc rest
    have g := nI_stop (n := np) (i := i) (by omega) (by omega)
    rw [e153_4]
    simp only [e153_0, e153_1, e153_2, e153_3, e153_5, e153_6, e153_9, e153_10, e153_11, e153_14, e153_15, e153_16, e153_17, e153_18, e153_21, e153_22, e153_25, e153_26, e153_29, e153_30, e153_31, e153_32, e153_35, e153_38, e153_39, lk, lset, ldel, lset2, ldel2, cat2, gI_int, gA_ref, gA_null, gV_some, gC_some, gL_long, Option.toList, List.cons_append, List.nil_append, List.length_cons, List.length_nil, Nat.reduceEqDiff, Nat.reduceAdd, Nat.reduceSub, Nat.reduceLeDiff, Nat.reduceLT, nb0, nb1, reduceIte, reduceCtorEq, and_false, and_true, false_and, true_and, if_true, if_false, Bool.false_eq_true, eq_self, not_true_eq_false, not_false_eq_true, a310_0 hz, a310_1 hz, a310_2 hz, a310_3 hz, a310_4 hz, a310_5 hz, a310_6 hz, a310_7 hz, k309 hz, g309_0 hz, hc.2.2.2.2.1, g, sumR, Int32.add_zero]
  | succ k ih =>
    intro i hi acc rest
    have ih' := fun acc rest => ih (i + 1) (by omega) acc rest
    have g := nI_goon (i := i) (n := np) (by omega) (by omega)
    have hi2 : i < 24 := by omega
    rw [e153_4]
    simp only [e153_0, e153_1, e153_2, e153_3, e153_5, e153_6, e153_9, e153_10, e153_11, e153_14, e153_15, e153_16, e153_17, e153_18, e153_21, e153_22, e153_25, e153_26, e153_29, e153_30, e153_31, e153_32, e153_35, e153_38, e153_39, lk, lset, ldel, lset2, ldel2, cat2, gI_int, gA_ref, gA_null, gV_some, gC_some, gL_long, Option.toList, List.cons_append, List.nil_append, List.length_cons, List.length_nil, Nat.reduceEqDiff, Nat.reduceAdd, Nat.reduceSub, Nat.reduceLeDiff, Nat.reduceLT, nb0, nb1, reduceIte, reduceCtorEq, and_false, and_true, false_and, true_and, if_true, if_false, Bool.false_eq_true, eq_self, not_true_eq_false, not_false_eq_true, a310_0 hz, a310_1 hz, a310_2 hz, a310_3 hz, a310_4 hz, a310_5 hz, a310_6 hz, a310_7 hz, k309 hz, g309_0 hz, hc.2.2.2.2.1, g, nI_1, ih', m_of4 hz hi2]
    simp only [sumR, monChapterS]
    grind [bI]
theorem m_monChapter (hz : zok z) (hc : cnt (M (z.1 + 310)) nc nh np) {c : Int32} : run (d + 2) 153 [.ref (z.1 + 309), .int c] (wld z M p) = some (some (.int (0 + sumR (monChapterS (M (z.1 + 310)) c) 0 np)), wld z M p) := by
  have e := fun acc rest => l_monChapter (d := d) (p := p) hz hc (c := c) np 0 (by omega) acc rest
  rw [show nI 0 = 0 from nI_0] at e
  rw [r153]
  simp only [e153_0, e153_1, e153_2, e153_3, e153_5, e153_6, e153_9, e153_10, e153_11, e153_14, e153_15, e153_16, e153_17, e153_18, e153_21, e153_22, e153_25, e153_26, e153_29, e153_30, e153_31, e153_32, e153_35, e153_38, e153_39, lk, lset, ldel, lset2, ldel2, cat2, gI_int, gA_ref, gA_null, gV_some, gC_some, gL_long, Option.toList, List.cons_append, List.nil_append, List.length_cons, List.length_nil, Nat.reduceEqDiff, Nat.reduceAdd, Nat.reduceSub, Nat.reduceLeDiff, Nat.reduceLT, nb0, nb1, reduceIte, reduceCtorEq, and_false, and_true, false_and, true_and, if_true, if_false, Bool.false_eq_true, eq_self, not_true_eq_false, not_false_eq_true, e]
def mofPhrasesS (G : Nat → Int32) (f : Int32) : Nat → Int32 := fun i => if f = 0 then bI (0 ≤ G (58 + 10 * i + 6)) else bI (G (58 + 10 * i + 4) < 0)
theorem l_mofPhrases (hz : zok z) (hc : cnt (M (z.1 + 310)) nc nh np) {f : Int32} : ∀ (k i : Nat), i + k = np → ∀ (acc : Int32) (rest : List (Nat × Value)), X (d + 2) 160 4 ((0, .ref (z.1 + 309)) :: (1, .int f) :: (2, .int acc) :: (3, .int (nI i)) :: rest) [] (wld z M p) = some (some (.int (acc + sumR (mofPhrasesS (M (z.1 + 310)) f) i k)), wld z M p) := by
  intro k
  have hle := hc.2.2.2.2.2
  induction k with
  | zero =>
    intro i hi acc rest
    have g := nI_stop (n := np) (i := i) (by omega) (by omega)
    rw [e160_4]
    simp only [e160_0, e160_1, e160_2, e160_3, e160_5, e160_6, e160_9, e160_10, e160_11, e160_14, e160_15, e160_16, e160_19, e160_20, e160_21, e160_24, e160_27, e160_30, e160_31, e160_32, e160_35, e160_38, e160_39, e160_42, e160_43, e160_44, e160_45, e160_48, e160_51, e160_52, lk, lset, ldel, lset2, ldel2, cat2, gI_int, gA_ref, gA_null, gV_some, gC_some, gL_long, Option.toList, List.cons_append, List.nil_append, List.length_cons, List.length_nil, Nat.reduceEqDiff, Nat.reduceAdd, Nat.reduceSub, Nat.reduceLeDiff, Nat.reduceLT, nb0, nb1, reduceIte, reduceCtorEq, and_false, and_true, false_and, true_and, if_true, if_false, Bool.false_eq_true, eq_self, not_true_eq_false, not_false_eq_true, a310_0 hz, a310_1 hz, a310_2 hz, a310_3 hz, a310_4 hz, a310_5 hz, a310_6 hz, a310_7 hz, k309 hz, g309_0 hz, hc.2.2.2.2.1, g, sumR, Int32.add_zero]
  | succ k ih =>
    intro i hi acc rest
    have ih' := fun acc rest => ih (i + 1) (by omega) acc rest
    have g := nI_goon (i := i) (n := np) (by omega) (by omega)
    have hi2 : i < 24 := by omega
    rw [e160_4]
    simp only [e160_0, e160_1, e160_2, e160_3, e160_5, e160_6, e160_9, e160_10, e160_11, e160_14, e160_15, e160_16, e160_19, e160_20, e160_21, e160_24, e160_27, e160_30, e160_31, e160_32, e160_35, e160_38, e160_39, e160_42, e160_43, e160_44, e160_45, e160_48, e160_51, e160_52, lk, lset, ldel, lset2, ldel2, cat2, gI_int, gA_ref, gA_null, gV_some, gC_some, gL_long, Option.toList, List.cons_append, List.nil_append, List.length_cons, List.length_nil, Nat.reduceEqDiff, Nat.reduceAdd, Nat.reduceSub, Nat.reduceLeDiff, Nat.reduceLT, nb0, nb1, reduceIte, reduceCtorEq, and_false, and_true, false_and, true_and, if_true, if_false, Bool.false_eq_true, eq_self, not_true_eq_false, not_false_eq_true, a310_0 hz, a310_1 hz, a310_2 hz, a310_3 hz, a310_4 hz, a310_5 hz, a310_6 hz, a310_7 hz, k309 hz, g309_0 hz, hc.2.2.2.2.1, g, nI_1, ih', m_mIsFree hz hi2, m_mIsLent hz hi2, bI_0]
    simp only [sumR, mofPhrasesS]
    grind [bI]
theorem m_mofPhrases (hz : zok z) (hc : cnt (M (z.1 + 310)) nc nh np) {f : Int32} : run (d + 3) 160 [.ref (z.1 + 309), .int f] (wld z M p) = some (some (.int (0 + sumR (mofPhrasesS (M (z.1 + 310)) f) 0 np)), wld z M p) := by
  have e := fun acc rest => l_mofPhrases (d := d) (p := p) hz hc (f := f) np 0 (by omega) acc rest
  rw [show nI 0 = 0 from nI_0] at e
  rw [r160]
  simp only [e160_0, e160_1, e160_2, e160_3, e160_5, e160_6, e160_9, e160_10, e160_11, e160_14, e160_15, e160_16, e160_19, e160_20, e160_21, e160_24, e160_27, e160_30, e160_31, e160_32, e160_35, e160_38, e160_39, e160_42, e160_43, e160_44, e160_45, e160_48, e160_51, e160_52, lk, lset, ldel, lset2, ldel2, cat2, gI_int, gA_ref, gA_null, gV_some, gC_some, gL_long, Option.toList, List.cons_append, List.nil_append, List.length_cons, List.length_nil, Nat.reduceEqDiff, Nat.reduceAdd, Nat.reduceSub, Nat.reduceLeDiff, Nat.reduceLT, nb0, nb1, reduceIte, reduceCtorEq, and_false, and_true, false_and, true_and, if_true, if_false, Bool.false_eq_true, eq_self, not_true_eq_false, not_false_eq_true, e]
def minBookS (G : Nat → Int32) (c : Int32) (f : Int32) : Nat → Int32 := fun i => bI (¬ G (58 + 10 * i + 4) < 0 ∧ bookG G i 4 = c ∧ (f = 0 ∨ 0 ≤ G (58 + 10 * i + 6)))
theorem l_minBook (hz : zok z) (hc : cnt (M (z.1 + 310)) nc nh np) (hw : ∀ i, i < np → whereOk (M (z.1 + 310)) nh i) {c : Int32} {f : Int32} : ∀ (k i : Nat), i + k = np → ∀ (acc : Int32) (rest : List (Nat × Value)), X (d + 2) 148 5 ((0, .ref (z.1 + 309)) :: (1, .int c) :: (2, .int f) :: (3, .int acc) :: (4, .int (nI i)) :: rest) [] (wld z M p) = some (some (.int (acc + sumR (minBookS (M (z.1 + 310)) c f) i k)), wld z M p) := by
  intro k
  have hle := hc.2.2.2.2.2
  have hle2 := hc.2.2.2.1
  induction k with
  | zero =>
    intro i hi acc rest
    have g := nI_stop (n := np) (i := i) (by omega) (by omega)
    rw [e148_5]
    simp only [e148_0, e148_1, e148_2, e148_3, e148_7, e148_8, e148_11, e148_12, e148_13, e148_16, e148_17, e148_18, e148_20, e148_23, e148_26, e148_27, e148_29, e148_32, e148_33, e148_36, e148_37, e148_40, e148_41, e148_43, e148_46, e148_49, e148_50, e148_53, e148_54, e148_55, e148_56, e148_59, e148_62, e148_63, lk, lset, ldel, lset2, ldel2, cat2, gI_int, gA_ref, gA_null, gV_some, gC_some, gL_long, Option.toList, List.cons_append, List.nil_append, List.length_cons, List.length_nil, Nat.reduceEqDiff, Nat.reduceAdd, Nat.reduceSub, Nat.reduceLeDiff, Nat.reduceLT, nb0, nb1, reduceIte, reduceCtorEq, and_false, and_true, false_and, true_and, if_true, if_false, Bool.false_eq_true, eq_self, not_true_eq_false, not_false_eq_true, a310_0 hz, a310_1 hz, a310_2 hz, a310_3 hz, a310_4 hz, a310_5 hz, a310_6 hz, a310_7 hz, k309 hz, g309_0 hz, hc.2.2.2.2.1, g, sumR, Int32.add_zero]
  | succ k ih =>
    intro i hi acc rest
    have ih' := fun acc rest => ih (i + 1) (by omega) acc rest
    have g := nI_goon (i := i) (n := np) (by omega) (by omega)
    have hi2 : i < 24 := by omega
    rw [e148_5]
    rcases (hw i (by omega)).1 with hf | ⟨c0, hc0, hf⟩
    · simp only [e148_0, e148_1, e148_2, e148_3, e148_7, e148_8, e148_11, e148_12, e148_13, e148_16, e148_17, e148_18, e148_20, e148_23, e148_26, e148_27, e148_29, e148_32, e148_33, e148_36, e148_37, e148_40, e148_41, e148_43, e148_46, e148_49, e148_50, e148_53, e148_54, e148_55, e148_56, e148_59, e148_62, e148_63, lk, lset, ldel, lset2, ldel2, cat2, gI_int, gA_ref, gA_null, gV_some, gC_some, gL_long, Option.toList, List.cons_append, List.nil_append, List.length_cons, List.length_nil, Nat.reduceEqDiff, Nat.reduceAdd, Nat.reduceSub, Nat.reduceLeDiff, Nat.reduceLT, nb0, nb1, reduceIte, reduceCtorEq, and_false, and_true, false_and, true_and, if_true, if_false, Bool.false_eq_true, eq_self, not_true_eq_false, not_false_eq_true, a310_0 hz, a310_1 hz, a310_2 hz, a310_3 hz, a310_4 hz, a310_5 hz, a310_6 hz, a310_7 hz, k309 hz, g309_0 hz, hc.2.2.2.2.1, g, nI_1, ih', m_mIsFree hz hi2, m_mIsLent hz hi2, hf, neg1, neg2, bI_0]
      simp only [sumR, minBookS, hf, neg1, neg2]
      grind [bI]
    · have hc10 : c0 < 10 := by omega
      simp only [e148_0, e148_1, e148_2, e148_3, e148_7, e148_8, e148_11, e148_12, e148_13, e148_16, e148_17, e148_18, e148_20, e148_23, e148_26, e148_27, e148_29, e148_32, e148_33, e148_36, e148_37, e148_40, e148_41, e148_43, e148_46, e148_49, e148_50, e148_53, e148_54, e148_55, e148_56, e148_59, e148_62, e148_63, lk, lset, ldel, lset2, ldel2, cat2, gI_int, gA_ref, gA_null, gV_some, gC_some, gL_long, Option.toList, List.cons_append, List.nil_append, List.length_cons, List.length_nil, Nat.reduceEqDiff, Nat.reduceAdd, Nat.reduceSub, Nat.reduceLeDiff, Nat.reduceLT, nb0, nb1, reduceIte, reduceCtorEq, and_false, and_true, false_and, true_and, if_true, if_false, Bool.false_eq_true, eq_self, not_true_eq_false, not_false_eq_true, a310_0 hz, a310_1 hz, a310_2 hz, a310_3 hz, a310_4 hz, a310_5 hz, a310_6 hz, a310_7 hz, k309 hz, g309_0 hz, hc.2.2.2.2.1, g, nI_1, ih', m_mIsFree hz hi2, m_mIsLent hz hi2, hf, nI_neg (show c0 ≤ 2000 by omega), nI_pos0 (show c0 ≤ 2000 by omega), bI_0, bookG_at hf (show c0 ≤ 2000 by omega), m_bookOf hz hi2 hc10 hf]
      simp only [sumR, minBookS, hf, nI_neg (show c0 ≤ 2000 by omega), nI_pos0 (show c0 ≤ 2000 by omega), bookG_at hf (show c0 ≤ 2000 by omega)]
      grind [bI]
theorem m_minBook (hz : zok z) (hc : cnt (M (z.1 + 310)) nc nh np) (hw : ∀ i, i < np → whereOk (M (z.1 + 310)) nh i) {c : Int32} {f : Int32} : run (d + 3) 148 [.ref (z.1 + 309), .int c, .int f] (wld z M p) = some (some (.int (0 + sumR (minBookS (M (z.1 + 310)) c f) 0 np)), wld z M p) := by
  have e := fun acc rest => l_minBook (d := d) (p := p) hz hc hw (c := c) (f := f) np 0 (by omega) acc rest
  rw [show nI 0 = 0 from nI_0] at e
  rw [r148]
  simp only [e148_0, e148_1, e148_2, e148_3, e148_7, e148_8, e148_11, e148_12, e148_13, e148_16, e148_17, e148_18, e148_20, e148_23, e148_26, e148_27, e148_29, e148_32, e148_33, e148_36, e148_37, e148_40, e148_41, e148_43, e148_46, e148_49, e148_50, e148_53, e148_54, e148_55, e148_56, e148_59, e148_62, e148_63, lk, lset, ldel, lset2, ldel2, cat2, gI_int, gA_ref, gA_null, gV_some, gC_some, gL_long, Option.toList, List.cons_append, List.nil_append, List.length_cons, List.length_nil, Nat.reduceEqDiff, Nat.reduceAdd, Nat.reduceSub, Nat.reduceLeDiff, Nat.reduceLT, nb0, nb1, reduceIte, reduceCtorEq, and_false, and_true, false_and, true_and, if_true, if_false, Bool.false_eq_true, eq_self, not_true_eq_false, not_false_eq_true, e]
def mlentFromS (G : Nat → Int32) (c : Int32) : Nat → Int32 := fun i => bI (0 ≤ G (58 + 10 * i + 7) ∧ bookG G i 7 = c)
theorem l_mlentFrom (hz : zok z) (hc : cnt (M (z.1 + 310)) nc nh np) (hw : ∀ i, i < np → whereOk (M (z.1 + 310)) nh i) {c : Int32} : ∀ (k i : Nat), i + k = np → ∀ (acc : Int32) (rest : List (Nat × Value)), X (d + 1) 149 4 ((0, .ref (z.1 + 309)) :: (1, .int c) :: (2, .int acc) :: (3, .int (nI i)) :: rest) [] (wld z M p) = some (some (.int (acc + sumR (mlentFromS (M (z.1 + 310)) c) i k)), wld z M p) := by
  intro k
  have hle := hc.2.2.2.2.2
  have hle2 := hc.2.2.2.1
  induction k with
  | zero =>
    intro i hi acc rest
    have g := nI_stop (n := np) (i := i) (by omega) (by omega)
    rw [e149_4]
    simp only [e149_0, e149_1, e149_2, e149_3, e149_5, e149_6, e149_9, e149_10, e149_11, e149_14, e149_15, e149_16, e149_17, e149_19, e149_22, e149_25, e149_26, e149_27, e149_28, e149_30, e149_33, e149_34, e149_37, e149_38, e149_41, e149_42, e149_45, e149_46, e149_47, e149_48, e149_51, e149_54, e149_55, lk, lset, ldel, lset2, ldel2, cat2, gI_int, gA_ref, gA_null, gV_some, gC_some, gL_long, Option.toList, List.cons_append, List.nil_append, List.length_cons, List.length_nil, Nat.reduceEqDiff, Nat.reduceAdd, Nat.reduceSub, Nat.reduceLeDiff, Nat.reduceLT, nb0, nb1, reduceIte, reduceCtorEq, and_false, and_true, false_and, true_and, if_true, if_false, Bool.false_eq_true, eq_self, not_true_eq_false, not_false_eq_true, a310_0 hz, a310_1 hz, a310_2 hz, a310_3 hz, a310_4 hz, a310_5 hz, a310_6 hz, a310_7 hz, k309 hz, g309_0 hz, hc.2.2.2.2.1, g, sumR, Int32.add_zero]
  | succ k ih =>
    intro i hi acc rest
    have ih' := fun acc rest => ih (i + 1) (by omega) acc rest
    have g := nI_goon (i := i) (n := np) (by omega) (by omega)
    have hi2 : i < 24 := by omega
    rw [e149_4]
    rcases (hw i (by omega)).2 with hf | ⟨c0, hc0, hf⟩
    · simp only [e149_0, e149_1, e149_2, e149_3, e149_5, e149_6, e149_9, e149_10, e149_11, e149_14, e149_15, e149_16, e149_17, e149_19, e149_22, e149_25, e149_26, e149_27, e149_28, e149_30, e149_33, e149_34, e149_37, e149_38, e149_41, e149_42, e149_45, e149_46, e149_47, e149_48, e149_51, e149_54, e149_55, lk, lset, ldel, lset2, ldel2, cat2, gI_int, gA_ref, gA_null, gV_some, gC_some, gL_long, Option.toList, List.cons_append, List.nil_append, List.length_cons, List.length_nil, Nat.reduceEqDiff, Nat.reduceAdd, Nat.reduceSub, Nat.reduceLeDiff, Nat.reduceLT, nb0, nb1, reduceIte, reduceCtorEq, and_false, and_true, false_and, true_and, if_true, if_false, Bool.false_eq_true, eq_self, not_true_eq_false, not_false_eq_true, a310_0 hz, a310_1 hz, a310_2 hz, a310_3 hz, a310_4 hz, a310_5 hz, a310_6 hz, a310_7 hz, k309 hz, g309_0 hz, hc.2.2.2.2.1, g, nI_1, ih', m_of7 hz hi2, hf, neg1, neg2, bI_0]
      simp only [sumR, mlentFromS, hf, neg1, neg2]
      grind [bI]
    · have hc10 : c0 < 10 := by omega
      simp only [e149_0, e149_1, e149_2, e149_3, e149_5, e149_6, e149_9, e149_10, e149_11, e149_14, e149_15, e149_16, e149_17, e149_19, e149_22, e149_25, e149_26, e149_27, e149_28, e149_30, e149_33, e149_34, e149_37, e149_38, e149_41, e149_42, e149_45, e149_46, e149_47, e149_48, e149_51, e149_54, e149_55, lk, lset, ldel, lset2, ldel2, cat2, gI_int, gA_ref, gA_null, gV_some, gC_some, gL_long, Option.toList, List.cons_append, List.nil_append, List.length_cons, List.length_nil, Nat.reduceEqDiff, Nat.reduceAdd, Nat.reduceSub, Nat.reduceLeDiff, Nat.reduceLT, nb0, nb1, reduceIte, reduceCtorEq, and_false, and_true, false_and, true_and, if_true, if_false, Bool.false_eq_true, eq_self, not_true_eq_false, not_false_eq_true, a310_0 hz, a310_1 hz, a310_2 hz, a310_3 hz, a310_4 hz, a310_5 hz, a310_6 hz, a310_7 hz, k309 hz, g309_0 hz, hc.2.2.2.2.1, g, nI_1, ih', m_of7 hz hi2, hf, nI_neg (show c0 ≤ 2000 by omega), nI_pos0 (show c0 ≤ 2000 by omega), bI_0, bookG_at hf (show c0 ≤ 2000 by omega), m_ofChapter0 hz hc10]
      simp only [sumR, mlentFromS, hf, nI_neg (show c0 ≤ 2000 by omega), nI_pos0 (show c0 ≤ 2000 by omega), bookG_at hf (show c0 ≤ 2000 by omega)]
      grind [bI]
theorem m_mlentFrom (hz : zok z) (hc : cnt (M (z.1 + 310)) nc nh np) (hw : ∀ i, i < np → whereOk (M (z.1 + 310)) nh i) {c : Int32} : run (d + 2) 149 [.ref (z.1 + 309), .int c] (wld z M p) = some (some (.int (0 + sumR (mlentFromS (M (z.1 + 310)) c) 0 np)), wld z M p) := by
  have e := fun acc rest => l_mlentFrom (d := d) (p := p) hz hc hw (c := c) np 0 (by omega) acc rest
  rw [show nI 0 = 0 from nI_0] at e
  rw [r149]
  simp only [e149_0, e149_1, e149_2, e149_3, e149_5, e149_6, e149_9, e149_10, e149_11, e149_14, e149_15, e149_16, e149_17, e149_19, e149_22, e149_25, e149_26, e149_27, e149_28, e149_30, e149_33, e149_34, e149_37, e149_38, e149_41, e149_42, e149_45, e149_46, e149_47, e149_48, e149_51, e149_54, e149_55, lk, lset, ldel, lset2, ldel2, cat2, gI_int, gA_ref, gA_null, gV_some, gC_some, gL_long, Option.toList, List.cons_append, List.nil_append, List.length_cons, List.length_nil, Nat.reduceEqDiff, Nat.reduceAdd, Nat.reduceSub, Nat.reduceLeDiff, Nat.reduceLT, nb0, nb1, reduceIte, reduceCtorEq, and_false, and_true, false_and, true_and, if_true, if_false, Bool.false_eq_true, eq_self, not_true_eq_false, not_false_eq_true, e]
end MC
