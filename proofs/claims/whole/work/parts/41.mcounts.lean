/-! the model's counting loops -/
/-- where a phrase is and where its home is: nowhere (-1), or a chapter in use -/
def whereOk (G : Nat → Int32) (nh i : Nat) : Prop := (G (58 + 10 * i + 4) = -1 ∨ ∃ c, c < nh ∧ G (58 + 10 * i + 4) = nI c) ∧ (G (58 + 10 * i + 7) = -1 ∨ ∃ c, c < nh ∧ G (58 + 10 * i + 7) = nI c)
def bookG (G : Nat → Int32) (i k : Nat) : Int32 := G (18 + 4 * (G (58 + 10 * i + k)).toNatClampNeg + 0)
theorem neg1 : ((-1 : Int32) < 0) = True := eq_true (by decide)
theorem neg2 : ((0 : Int32) ≤ -1) = False := eq_false (by decide)
theorem nI_neg {c : Nat} (h : c ≤ 2000) : (nI c < 0) = False := eq_false (nI_pos (by omega))
theorem nI_pos0 {c : Nat} (h : c ≤ 2000) : (0 ≤ nI c) = True := eq_true (nI_pos' (by omega))
theorem bookG_at {G : Nat → Int32} {i k c : Nat} (h : G (58 + 10 * i + k) = nI c) (hc : c ≤ 2000) : bookG G i k = G (18 + 4 * c + 0) := by
  unfold bookG
  rw [h, nI_clamp (by omega)]
section MC
variable {z : Zt} {d : Nat} {M : Nat → Nat → Int32} {p : Nat → Nat} {nc nh np : Nat}
def mchaptersOfS (G : Nat → Int32) (c : Int32) : Nat → Int32 := fun i => bI (G (18 + 4 * i + 0) = c)
theorem l_mchaptersOf (hz : zok z) (hc : cnt (M (z.1 + 310)) nc nh np) {c : Int32} : ∀ (k i : Nat), i + k = nh → ∀ (acc : Int32) (rest : List (Nat × Value)), X (d + 1) 146 4 ((0, .ref (z.1 + 309)) :: (1, .int c) :: (2, .int acc) :: (3, .int (nI i)) :: rest) [] (wld z M p) = some (some (.int (acc + sumR (mchaptersOfS (M (z.1 + 310)) c) i k)), wld z M p) := by
  intro k
  have hle := hc.2.2.2.1
  induction k with
  | zero =>
    intro i hi acc rest
    have g := nI_stop (n := nh) (i := i) (by omega) (by omega)
    rw [e146_4]
    simp only [e146_0, e146_1, e146_2, e146_3, e146_5, e146_6, e146_9, e146_10, e146_11, e146_14, e146_15, e146_16, e146_17, e146_18, e146_21, e146_22, e146_25, e146_26, e146_29, e146_30, e146_31, e146_32, e146_35, e146_38, e146_39, lk, lset, ldel, lset2, ldel2, cat2, gI_int, gA_ref, gA_null, gV_some, gC_some, gL_long, Option.toList, List.cons_append, List.nil_append, List.length_cons, List.length_nil, Nat.reduceEqDiff, Nat.reduceAdd, Nat.reduceSub, Nat.reduceLeDiff, Nat.reduceLT, nb0, nb1, reduceIte, reduceCtorEq, and_false, and_true, false_and, true_and, if_true, if_false, Bool.false_eq_true, eq_self, not_true_eq_false, not_false_eq_true, a310_0 hz, a310_1 hz, a310_2 hz, a310_3 hz, a310_4 hz, a310_5 hz, a310_6 hz, a310_7 hz, k309 hz, g309_0 hz, hc.2.2.1, g, sumR, Int32.add_zero]
  | succ k ih =>
    intro i hi acc rest
    have ih' := fun acc rest => ih (i + 1) (by omega) acc rest
    have g := nI_goon (i := i) (n := nh) (by omega) (by omega)
    have hi2 : i < 10 := by omega
    rw [e146_4]
    simp only [e146_0, e146_1, e146_2, e146_3, e146_5, e146_6, e146_9, e146_10, e146_11, e146_14, e146_15, e146_16, e146_17, e146_18, e146_21, e146_22, e146_25, e146_26, e146_29, e146_30, e146_31, e146_32, e146_35, e146_38, e146_39, lk, lset, ldel, lset2, ldel2, cat2, gI_int, gA_ref, gA_null, gV_some, gC_some, gL_long, Option.toList, List.cons_append, List.nil_append, List.length_cons, List.length_nil, Nat.reduceEqDiff, Nat.reduceAdd, Nat.reduceSub, Nat.reduceLeDiff, Nat.reduceLT, nb0, nb1, reduceIte, reduceCtorEq, and_false, and_true, false_and, true_and, if_true, if_false, Bool.false_eq_true, eq_self, not_true_eq_false, not_false_eq_true, a310_0 hz, a310_1 hz, a310_2 hz, a310_3 hz, a310_4 hz, a310_5 hz, a310_6 hz, a310_7 hz, k309 hz, g309_0 hz, hc.2.2.1, g, nI_1, ih', m_ofChapter0 hz hi2]
    simp only [sumR, mchaptersOfS]
    grind [bI]
theorem m_mchaptersOf (hz : zok z) (hc : cnt (M (z.1 + 310)) nc nh np) {c : Int32} : run (d + 2) 146 [.ref (z.1 + 309), .int c] (wld z M p) = some (some (.int (0 + sumR (mchaptersOfS (M (z.1 + 310)) c) 0 nh)), wld z M p) := by
  have e := fun acc rest => l_mchaptersOf (d := d) (p := p) hz hc (c := c) nh 0 (by omega) acc rest
  rw [show nI 0 = 0 from nI_0] at e
  rw [r146]
  simp only [e146_0, e146_1, e146_2, e146_3, e146_5, e146_6, e146_9, e146_10, e146_11, e146_14, e146_15, e146_16, e146_17, e146_18, e146_21, e146_22, e146_25, e146_26, e146_29, e146_30, e146_31, e146_32, e146_35, e146_38, e146_39, lk, lset, ldel, lset2, ldel2, cat2, gI_int, gA_ref, gA_null, gV_some, gC_some, gL_long, Option.toList, List.cons_append, List.nil_append, List.length_cons, List.length_nil, Nat.reduceEqDiff, Nat.reduceAdd, Nat.reduceSub, Nat.reduceLeDiff, Nat.reduceLT, nb0, nb1, reduceIte, reduceCtorEq, and_false, and_true, false_and, true_and, if_true, if_false, Bool.false_eq_true, eq_self, not_true_eq_false, not_false_eq_true, e]
def monChapterS (G : Nat → Int32) (c : Int32) : Nat → Int32 := fun i => bI (G (58 + 10 * i + 4) = c)
theorem l_monChapter (hz : zok z) (hc : cnt (M (z.1 + 310)) nc nh np) {c : Int32} : ∀ (k i : Nat), i + k = np → ∀ (acc : Int32) (rest : List (Nat × Value)), X (d + 1) 152 4 ((0, .ref (z.1 + 309)) :: (1, .int c) :: (2, .int acc) :: (3, .int (nI i)) :: rest) [] (wld z M p) = some (some (.int (acc + sumR (monChapterS (M (z.1 + 310)) c) i k)), wld z M p) := by
  intro k
  have hle := hc.2.2.2.2.2
  induction k with
  | zero =>
    intro i hi acc rest
    have g := nI_stop (n := np) (i := i) (by omega) (by omega)
    rw [e152_4]
    simp only [e152_0, e152_1, e152_2, e152_3, e152_5, e152_6, e152_9, e152_10, e152_11, e152_14, e152_15, e152_16, e152_17, e152_18, e152_21, e152_22, e152_25, e152_26, e152_29, e152_30, e152_31, e152_32, e152_35, e152_38, e152_39, lk, lset, ldel, lset2, ldel2, cat2, gI_int, gA_ref, gA_null, gV_some, gC_some, gL_long, Option.toList, List.cons_append, List.nil_append, List.length_cons, List.length_nil, Nat.reduceEqDiff, Nat.reduceAdd, Nat.reduceSub, Nat.reduceLeDiff, Nat.reduceLT, nb0, nb1, reduceIte, reduceCtorEq, and_false, and_true, false_and, true_and, if_true, if_false, Bool.false_eq_true, eq_self, not_true_eq_false, not_false_eq_true, a310_0 hz, a310_1 hz, a310_2 hz, a310_3 hz, a310_4 hz, a310_5 hz, a310_6 hz, a310_7 hz, k309 hz, g309_0 hz, hc.2.2.2.2.1, g, sumR, Int32.add_zero]
  | succ k ih =>
    intro i hi acc rest
    have ih' := fun acc rest => ih (i + 1) (by omega) acc rest
    have g := nI_goon (i := i) (n := np) (by omega) (by omega)
    have hi2 : i < 24 := by omega
    rw [e152_4]
    simp only [e152_0, e152_1, e152_2, e152_3, e152_5, e152_6, e152_9, e152_10, e152_11, e152_14, e152_15, e152_16, e152_17, e152_18, e152_21, e152_22, e152_25, e152_26, e152_29, e152_30, e152_31, e152_32, e152_35, e152_38, e152_39, lk, lset, ldel, lset2, ldel2, cat2, gI_int, gA_ref, gA_null, gV_some, gC_some, gL_long, Option.toList, List.cons_append, List.nil_append, List.length_cons, List.length_nil, Nat.reduceEqDiff, Nat.reduceAdd, Nat.reduceSub, Nat.reduceLeDiff, Nat.reduceLT, nb0, nb1, reduceIte, reduceCtorEq, and_false, and_true, false_and, true_and, if_true, if_false, Bool.false_eq_true, eq_self, not_true_eq_false, not_false_eq_true, a310_0 hz, a310_1 hz, a310_2 hz, a310_3 hz, a310_4 hz, a310_5 hz, a310_6 hz, a310_7 hz, k309 hz, g309_0 hz, hc.2.2.2.2.1, g, nI_1, ih', m_of4 hz hi2]
    simp only [sumR, monChapterS]
    grind [bI]
theorem m_monChapter (hz : zok z) (hc : cnt (M (z.1 + 310)) nc nh np) {c : Int32} : run (d + 2) 152 [.ref (z.1 + 309), .int c] (wld z M p) = some (some (.int (0 + sumR (monChapterS (M (z.1 + 310)) c) 0 np)), wld z M p) := by
  have e := fun acc rest => l_monChapter (d := d) (p := p) hz hc (c := c) np 0 (by omega) acc rest
  rw [show nI 0 = 0 from nI_0] at e
  rw [r152]
  simp only [e152_0, e152_1, e152_2, e152_3, e152_5, e152_6, e152_9, e152_10, e152_11, e152_14, e152_15, e152_16, e152_17, e152_18, e152_21, e152_22, e152_25, e152_26, e152_29, e152_30, e152_31, e152_32, e152_35, e152_38, e152_39, lk, lset, ldel, lset2, ldel2, cat2, gI_int, gA_ref, gA_null, gV_some, gC_some, gL_long, Option.toList, List.cons_append, List.nil_append, List.length_cons, List.length_nil, Nat.reduceEqDiff, Nat.reduceAdd, Nat.reduceSub, Nat.reduceLeDiff, Nat.reduceLT, nb0, nb1, reduceIte, reduceCtorEq, and_false, and_true, false_and, true_and, if_true, if_false, Bool.false_eq_true, eq_self, not_true_eq_false, not_false_eq_true, e]
def mofPhrasesS (G : Nat → Int32) (f : Int32) : Nat → Int32 := fun i => if f = 0 then bI (0 ≤ G (58 + 10 * i + 6)) else bI (G (58 + 10 * i + 4) < 0)
theorem l_mofPhrases (hz : zok z) (hc : cnt (M (z.1 + 310)) nc nh np) {f : Int32} : ∀ (k i : Nat), i + k = np → ∀ (acc : Int32) (rest : List (Nat × Value)), X (d + 2) 159 4 ((0, .ref (z.1 + 309)) :: (1, .int f) :: (2, .int acc) :: (3, .int (nI i)) :: rest) [] (wld z M p) = some (some (.int (acc + sumR (mofPhrasesS (M (z.1 + 310)) f) i k)), wld z M p) := by
  intro k
  have hle := hc.2.2.2.2.2
  induction k with
  | zero =>
    intro i hi acc rest
    have g := nI_stop (n := np) (i := i) (by omega) (by omega)
    rw [e159_4]
    simp only [e159_0, e159_1, e159_2, e159_3, e159_5, e159_6, e159_9, e159_10, e159_11, e159_14, e159_15, e159_16, e159_19, e159_20, e159_21, e159_24, e159_27, e159_30, e159_31, e159_32, e159_35, e159_38, e159_39, e159_42, e159_43, e159_44, e159_45, e159_48, e159_51, e159_52, lk, lset, ldel, lset2, ldel2, cat2, gI_int, gA_ref, gA_null, gV_some, gC_some, gL_long, Option.toList, List.cons_append, List.nil_append, List.length_cons, List.length_nil, Nat.reduceEqDiff, Nat.reduceAdd, Nat.reduceSub, Nat.reduceLeDiff, Nat.reduceLT, nb0, nb1, reduceIte, reduceCtorEq, and_false, and_true, false_and, true_and, if_true, if_false, Bool.false_eq_true, eq_self, not_true_eq_false, not_false_eq_true, a310_0 hz, a310_1 hz, a310_2 hz, a310_3 hz, a310_4 hz, a310_5 hz, a310_6 hz, a310_7 hz, k309 hz, g309_0 hz, hc.2.2.2.2.1, g, sumR, Int32.add_zero]
  | succ k ih =>
    intro i hi acc rest
    have ih' := fun acc rest => ih (i + 1) (by omega) acc rest
    have g := nI_goon (i := i) (n := np) (by omega) (by omega)
    have hi2 : i < 24 := by omega
    rw [e159_4]
    simp only [e159_0, e159_1, e159_2, e159_3, e159_5, e159_6, e159_9, e159_10, e159_11, e159_14, e159_15, e159_16, e159_19, e159_20, e159_21, e159_24, e159_27, e159_30, e159_31, e159_32, e159_35, e159_38, e159_39, e159_42, e159_43, e159_44, e159_45, e159_48, e159_51, e159_52, lk, lset, ldel, lset2, ldel2, cat2, gI_int, gA_ref, gA_null, gV_some, gC_some, gL_long, Option.toList, List.cons_append, List.nil_append, List.length_cons, List.length_nil, Nat.reduceEqDiff, Nat.reduceAdd, Nat.reduceSub, Nat.reduceLeDiff, Nat.reduceLT, nb0, nb1, reduceIte, reduceCtorEq, and_false, and_true, false_and, true_and, if_true, if_false, Bool.false_eq_true, eq_self, not_true_eq_false, not_false_eq_true, a310_0 hz, a310_1 hz, a310_2 hz, a310_3 hz, a310_4 hz, a310_5 hz, a310_6 hz, a310_7 hz, k309 hz, g309_0 hz, hc.2.2.2.2.1, g, nI_1, ih', m_mIsFree hz hi2, m_mIsLent hz hi2, bI_0]
    simp only [sumR, mofPhrasesS]
    grind [bI]
theorem m_mofPhrases (hz : zok z) (hc : cnt (M (z.1 + 310)) nc nh np) {f : Int32} : run (d + 3) 159 [.ref (z.1 + 309), .int f] (wld z M p) = some (some (.int (0 + sumR (mofPhrasesS (M (z.1 + 310)) f) 0 np)), wld z M p) := by
  have e := fun acc rest => l_mofPhrases (d := d) (p := p) hz hc (f := f) np 0 (by omega) acc rest
  rw [show nI 0 = 0 from nI_0] at e
  rw [r159]
  simp only [e159_0, e159_1, e159_2, e159_3, e159_5, e159_6, e159_9, e159_10, e159_11, e159_14, e159_15, e159_16, e159_19, e159_20, e159_21, e159_24, e159_27, e159_30, e159_31, e159_32, e159_35, e159_38, e159_39, e159_42, e159_43, e159_44, e159_45, e159_48, e159_51, e159_52, lk, lset, ldel, lset2, ldel2, cat2, gI_int, gA_ref, gA_null, gV_some, gC_some, gL_long, Option.toList, List.cons_append, List.nil_append, List.length_cons, List.length_nil, Nat.reduceEqDiff, Nat.reduceAdd, Nat.reduceSub, Nat.reduceLeDiff, Nat.reduceLT, nb0, nb1, reduceIte, reduceCtorEq, and_false, and_true, false_and, true_and, if_true, if_false, Bool.false_eq_true, eq_self, not_true_eq_false, not_false_eq_true, e]
def minBookS (G : Nat → Int32) (c : Int32) (f : Int32) : Nat → Int32 := fun i => bI (¬ G (58 + 10 * i + 4) < 0 ∧ bookG G i 4 = c ∧ (f = 0 ∨ 0 ≤ G (58 + 10 * i + 6)))
theorem l_minBook (hz : zok z) (hc : cnt (M (z.1 + 310)) nc nh np) (hw : ∀ i, i < np → whereOk (M (z.1 + 310)) nh i) {c : Int32} {f : Int32} : ∀ (k i : Nat), i + k = np → ∀ (acc : Int32) (rest : List (Nat × Value)), X (d + 2) 147 5 ((0, .ref (z.1 + 309)) :: (1, .int c) :: (2, .int f) :: (3, .int acc) :: (4, .int (nI i)) :: rest) [] (wld z M p) = some (some (.int (acc + sumR (minBookS (M (z.1 + 310)) c f) i k)), wld z M p) := by
  intro k
  have hle := hc.2.2.2.2.2
  have hle2 := hc.2.2.2.1
  induction k with
  | zero =>
    intro i hi acc rest
    have g := nI_stop (n := np) (i := i) (by omega) (by omega)
    rw [e147_5]
    simp only [e147_0, e147_1, e147_2, e147_3, e147_7, e147_8, e147_11, e147_12, e147_13, e147_16, e147_17, e147_18, e147_20, e147_23, e147_26, e147_27, e147_29, e147_32, e147_33, e147_36, e147_37, e147_40, e147_41, e147_43, e147_46, e147_49, e147_50, e147_53, e147_54, e147_55, e147_56, e147_59, e147_62, e147_63, lk, lset, ldel, lset2, ldel2, cat2, gI_int, gA_ref, gA_null, gV_some, gC_some, gL_long, Option.toList, List.cons_append, List.nil_append, List.length_cons, List.length_nil, Nat.reduceEqDiff, Nat.reduceAdd, Nat.reduceSub, Nat.reduceLeDiff, Nat.reduceLT, nb0, nb1, reduceIte, reduceCtorEq, and_false, and_true, false_and, true_and, if_true, if_false, Bool.false_eq_true, eq_self, not_true_eq_false, not_false_eq_true, a310_0 hz, a310_1 hz, a310_2 hz, a310_3 hz, a310_4 hz, a310_5 hz, a310_6 hz, a310_7 hz, k309 hz, g309_0 hz, hc.2.2.2.2.1, g, sumR, Int32.add_zero]
  | succ k ih =>
    intro i hi acc rest
    have ih' := fun acc rest => ih (i + 1) (by omega) acc rest
    have g := nI_goon (i := i) (n := np) (by omega) (by omega)
    have hi2 : i < 24 := by omega
    rw [e147_5]
    rcases (hw i (by omega)).1 with hf | ⟨c0, hc0, hf⟩
    · simp only [e147_0, e147_1, e147_2, e147_3, e147_7, e147_8, e147_11, e147_12, e147_13, e147_16, e147_17, e147_18, e147_20, e147_23, e147_26, e147_27, e147_29, e147_32, e147_33, e147_36, e147_37, e147_40, e147_41, e147_43, e147_46, e147_49, e147_50, e147_53, e147_54, e147_55, e147_56, e147_59, e147_62, e147_63, lk, lset, ldel, lset2, ldel2, cat2, gI_int, gA_ref, gA_null, gV_some, gC_some, gL_long, Option.toList, List.cons_append, List.nil_append, List.length_cons, List.length_nil, Nat.reduceEqDiff, Nat.reduceAdd, Nat.reduceSub, Nat.reduceLeDiff, Nat.reduceLT, nb0, nb1, reduceIte, reduceCtorEq, and_false, and_true, false_and, true_and, if_true, if_false, Bool.false_eq_true, eq_self, not_true_eq_false, not_false_eq_true, a310_0 hz, a310_1 hz, a310_2 hz, a310_3 hz, a310_4 hz, a310_5 hz, a310_6 hz, a310_7 hz, k309 hz, g309_0 hz, hc.2.2.2.2.1, g, nI_1, ih', m_mIsFree hz hi2, m_mIsLent hz hi2, hf, neg1, neg2, bI_0]
      simp only [sumR, minBookS, hf, neg1, neg2]
      grind [bI]
    · have hc10 : c0 < 10 := by omega
      simp only [e147_0, e147_1, e147_2, e147_3, e147_7, e147_8, e147_11, e147_12, e147_13, e147_16, e147_17, e147_18, e147_20, e147_23, e147_26, e147_27, e147_29, e147_32, e147_33, e147_36, e147_37, e147_40, e147_41, e147_43, e147_46, e147_49, e147_50, e147_53, e147_54, e147_55, e147_56, e147_59, e147_62, e147_63, lk, lset, ldel, lset2, ldel2, cat2, gI_int, gA_ref, gA_null, gV_some, gC_some, gL_long, Option.toList, List.cons_append, List.nil_append, List.length_cons, List.length_nil, Nat.reduceEqDiff, Nat.reduceAdd, Nat.reduceSub, Nat.reduceLeDiff, Nat.reduceLT, nb0, nb1, reduceIte, reduceCtorEq, and_false, and_true, false_and, true_and, if_true, if_false, Bool.false_eq_true, eq_self, not_true_eq_false, not_false_eq_true, a310_0 hz, a310_1 hz, a310_2 hz, a310_3 hz, a310_4 hz, a310_5 hz, a310_6 hz, a310_7 hz, k309 hz, g309_0 hz, hc.2.2.2.2.1, g, nI_1, ih', m_mIsFree hz hi2, m_mIsLent hz hi2, hf, nI_neg (show c0 ≤ 2000 by omega), nI_pos0 (show c0 ≤ 2000 by omega), bI_0, bookG_at hf (show c0 ≤ 2000 by omega), m_bookOf hz hi2 hc10 hf]
      simp only [sumR, minBookS, hf, nI_neg (show c0 ≤ 2000 by omega), nI_pos0 (show c0 ≤ 2000 by omega), bookG_at hf (show c0 ≤ 2000 by omega)]
      grind [bI]
theorem m_minBook (hz : zok z) (hc : cnt (M (z.1 + 310)) nc nh np) (hw : ∀ i, i < np → whereOk (M (z.1 + 310)) nh i) {c : Int32} {f : Int32} : run (d + 3) 147 [.ref (z.1 + 309), .int c, .int f] (wld z M p) = some (some (.int (0 + sumR (minBookS (M (z.1 + 310)) c f) 0 np)), wld z M p) := by
  have e := fun acc rest => l_minBook (d := d) (p := p) hz hc hw (c := c) (f := f) np 0 (by omega) acc rest
  rw [show nI 0 = 0 from nI_0] at e
  rw [r147]
  simp only [e147_0, e147_1, e147_2, e147_3, e147_7, e147_8, e147_11, e147_12, e147_13, e147_16, e147_17, e147_18, e147_20, e147_23, e147_26, e147_27, e147_29, e147_32, e147_33, e147_36, e147_37, e147_40, e147_41, e147_43, e147_46, e147_49, e147_50, e147_53, e147_54, e147_55, e147_56, e147_59, e147_62, e147_63, lk, lset, ldel, lset2, ldel2, cat2, gI_int, gA_ref, gA_null, gV_some, gC_some, gL_long, Option.toList, List.cons_append, List.nil_append, List.length_cons, List.length_nil, Nat.reduceEqDiff, Nat.reduceAdd, Nat.reduceSub, Nat.reduceLeDiff, Nat.reduceLT, nb0, nb1, reduceIte, reduceCtorEq, and_false, and_true, false_and, true_and, if_true, if_false, Bool.false_eq_true, eq_self, not_true_eq_false, not_false_eq_true, e]
def mlentFromS (G : Nat → Int32) (c : Int32) : Nat → Int32 := fun i => bI (0 ≤ G (58 + 10 * i + 7) ∧ bookG G i 7 = c)
theorem l_mlentFrom (hz : zok z) (hc : cnt (M (z.1 + 310)) nc nh np) (hw : ∀ i, i < np → whereOk (M (z.1 + 310)) nh i) {c : Int32} : ∀ (k i : Nat), i + k = np → ∀ (acc : Int32) (rest : List (Nat × Value)), X (d + 1) 148 4 ((0, .ref (z.1 + 309)) :: (1, .int c) :: (2, .int acc) :: (3, .int (nI i)) :: rest) [] (wld z M p) = some (some (.int (acc + sumR (mlentFromS (M (z.1 + 310)) c) i k)), wld z M p) := by
  intro k
  have hle := hc.2.2.2.2.2
  have hle2 := hc.2.2.2.1
  induction k with
  | zero =>
    intro i hi acc rest
    have g := nI_stop (n := np) (i := i) (by omega) (by omega)
    rw [e148_4]
    simp only [e148_0, e148_1, e148_2, e148_3, e148_5, e148_6, e148_9, e148_10, e148_11, e148_14, e148_15, e148_16, e148_17, e148_19, e148_22, e148_25, e148_26, e148_27, e148_28, e148_30, e148_33, e148_34, e148_37, e148_38, e148_41, e148_42, e148_45, e148_46, e148_47, e148_48, e148_51, e148_54, e148_55, lk, lset, ldel, lset2, ldel2, cat2, gI_int, gA_ref, gA_null, gV_some, gC_some, gL_long, Option.toList, List.cons_append, List.nil_append, List.length_cons, List.length_nil, Nat.reduceEqDiff, Nat.reduceAdd, Nat.reduceSub, Nat.reduceLeDiff, Nat.reduceLT, nb0, nb1, reduceIte, reduceCtorEq, and_false, and_true, false_and, true_and, if_true, if_false, Bool.false_eq_true, eq_self, not_true_eq_false, not_false_eq_true, a310_0 hz, a310_1 hz, a310_2 hz, a310_3 hz, a310_4 hz, a310_5 hz, a310_6 hz, a310_7 hz, k309 hz, g309_0 hz, hc.2.2.2.2.1, g, sumR, Int32.add_zero]
  | succ k ih =>
    intro i hi acc rest
    have ih' := fun acc rest => ih (i + 1) (by omega) acc rest
    have g := nI_goon (i := i) (n := np) (by omega) (by omega)
    have hi2 : i < 24 := by omega
    rw [e148_4]
    rcases (hw i (by omega)).2 with hf | ⟨c0, hc0, hf⟩
    · simp only [e148_0, e148_1, e148_2, e148_3, e148_5, e148_6, e148_9, e148_10, e148_11, e148_14, e148_15, e148_16, e148_17, e148_19, e148_22, e148_25, e148_26, e148_27, e148_28, e148_30, e148_33, e148_34, e148_37, e148_38, e148_41, e148_42, e148_45, e148_46, e148_47, e148_48, e148_51, e148_54, e148_55, lk, lset, ldel, lset2, ldel2, cat2, gI_int, gA_ref, gA_null, gV_some, gC_some, gL_long, Option.toList, List.cons_append, List.nil_append, List.length_cons, List.length_nil, Nat.reduceEqDiff, Nat.reduceAdd, Nat.reduceSub, Nat.reduceLeDiff, Nat.reduceLT, nb0, nb1, reduceIte, reduceCtorEq, and_false, and_true, false_and, true_and, if_true, if_false, Bool.false_eq_true, eq_self, not_true_eq_false, not_false_eq_true, a310_0 hz, a310_1 hz, a310_2 hz, a310_3 hz, a310_4 hz, a310_5 hz, a310_6 hz, a310_7 hz, k309 hz, g309_0 hz, hc.2.2.2.2.1, g, nI_1, ih', m_of7 hz hi2, hf, neg1, neg2, bI_0]
      simp only [sumR, mlentFromS, hf, neg1, neg2]
      grind [bI]
    · have hc10 : c0 < 10 := by omega
      simp only [e148_0, e148_1, e148_2, e148_3, e148_5, e148_6, e148_9, e148_10, e148_11, e148_14, e148_15, e148_16, e148_17, e148_19, e148_22, e148_25, e148_26, e148_27, e148_28, e148_30, e148_33, e148_34, e148_37, e148_38, e148_41, e148_42, e148_45, e148_46, e148_47, e148_48, e148_51, e148_54, e148_55, lk, lset, ldel, lset2, ldel2, cat2, gI_int, gA_ref, gA_null, gV_some, gC_some, gL_long, Option.toList, List.cons_append, List.nil_append, List.length_cons, List.length_nil, Nat.reduceEqDiff, Nat.reduceAdd, Nat.reduceSub, Nat.reduceLeDiff, Nat.reduceLT, nb0, nb1, reduceIte, reduceCtorEq, and_false, and_true, false_and, true_and, if_true, if_false, Bool.false_eq_true, eq_self, not_true_eq_false, not_false_eq_true, a310_0 hz, a310_1 hz, a310_2 hz, a310_3 hz, a310_4 hz, a310_5 hz, a310_6 hz, a310_7 hz, k309 hz, g309_0 hz, hc.2.2.2.2.1, g, nI_1, ih', m_of7 hz hi2, hf, nI_neg (show c0 ≤ 2000 by omega), nI_pos0 (show c0 ≤ 2000 by omega), bI_0, bookG_at hf (show c0 ≤ 2000 by omega), m_ofChapter0 hz hc10]
      simp only [sumR, mlentFromS, hf, nI_neg (show c0 ≤ 2000 by omega), nI_pos0 (show c0 ≤ 2000 by omega), bookG_at hf (show c0 ≤ 2000 by omega)]
      grind [bI]
theorem m_mlentFrom (hz : zok z) (hc : cnt (M (z.1 + 310)) nc nh np) (hw : ∀ i, i < np → whereOk (M (z.1 + 310)) nh i) {c : Int32} : run (d + 2) 148 [.ref (z.1 + 309), .int c] (wld z M p) = some (some (.int (0 + sumR (mlentFromS (M (z.1 + 310)) c) 0 np)), wld z M p) := by
  have e := fun acc rest => l_mlentFrom (d := d) (p := p) hz hc hw (c := c) np 0 (by omega) acc rest
  rw [show nI 0 = 0 from nI_0] at e
  rw [r148]
  simp only [e148_0, e148_1, e148_2, e148_3, e148_5, e148_6, e148_9, e148_10, e148_11, e148_14, e148_15, e148_16, e148_17, e148_19, e148_22, e148_25, e148_26, e148_27, e148_28, e148_30, e148_33, e148_34, e148_37, e148_38, e148_41, e148_42, e148_45, e148_46, e148_47, e148_48, e148_51, e148_54, e148_55, lk, lset, ldel, lset2, ldel2, cat2, gI_int, gA_ref, gA_null, gV_some, gC_some, gL_long, Option.toList, List.cons_append, List.nil_append, List.length_cons, List.length_nil, Nat.reduceEqDiff, Nat.reduceAdd, Nat.reduceSub, Nat.reduceLeDiff, Nat.reduceLT, nb0, nb1, reduceIte, reduceCtorEq, and_false, and_true, false_and, true_and, if_true, if_false, Bool.false_eq_true, eq_self, not_true_eq_false, not_false_eq_true, e]
end MC
