/-! small methods -/
def bI (P : Prop) [Decidable P] : Int32 := if P then 1 else 0
theorem nb0 : narrow .boolean (.int 0) = .int 0 := by decide +kernel
theorem nb1 : narrow .boolean (.int 1) = .int 1 := by decide +kernel
theorem bI_0 {P : Prop} [Decidable P] : (bI P = 0) = ¬ P := by
  unfold bI
  by_cases h : P <;> simp [h]
theorem bI_01 {P : Prop} [Decidable P] : narrow .boolean (.int (bI P)) = .int (bI P) := by
  unfold bI
  by_cases h : P <;> simp [h, nb0, nb1]
section SM
variable {z : Zt} {S T d : Nat} {M : Nat → Nat → Int32} {p : Nat → Nat}
-- the phrase
theorem m_isFree (h : isS z S) {i : Nat} (hi : i < 24) : run (d + 1) 18 [.ref (phA S i)] (wld z M p) = some (some (.int (bI (M S (58 + 10 * i + 4) = -1))), wld z M p) := by
  rw [r18]
  simp only [e18_0, e18_1, e18_4, e18_5, e18_8, e18_9, e18_12, e18_13, lk, lset, ldel, lset2, ldel2, cat2, gI_int, gA_ref, gA_null, gV_some, gC_some, gL_long, Option.toList, List.cons_append, List.nil_append, List.length_cons, List.length_nil, Nat.reduceEqDiff, Nat.reduceAdd, Nat.reduceSub, Nat.reduceLeDiff, Nat.reduceLT, nb0, nb1, reduceIte, reduceCtorEq, and_false, and_true, false_and, true_and, if_true, if_false, Bool.false_eq_true, eq_self, not_true_eq_false, not_false_eq_true, g_ph h hi]
  grind [bI]
theorem m_isLent (h : isS z S) {i : Nat} (hi : i < 24) : run (d + 1) 19 [.ref (phA S i)] (wld z M p) = some (some (.int (bI (¬ M S (58 + 10 * i + 6) = -1))), wld z M p) := by
  rw [r19]
  simp only [e19_0, e19_1, e19_4, e19_5, e19_8, e19_9, e19_12, e19_13, lk, lset, ldel, lset2, ldel2, cat2, gI_int, gA_ref, gA_null, gV_some, gC_some, gL_long, Option.toList, List.cons_append, List.nil_append, List.length_cons, List.length_nil, Nat.reduceEqDiff, Nat.reduceAdd, Nat.reduceSub, Nat.reduceLeDiff, Nat.reduceLT, nb0, nb1, reduceIte, reduceCtorEq, and_false, and_true, false_and, true_and, if_true, if_false, Bool.false_eq_true, eq_self, not_true_eq_false, not_false_eq_true, g_ph h hi]
  grind [bI]
theorem m_isOn (h : isS z S) {i : Nat} (hi : i < 24) {c g : Int32} : run (d + 1) 20 [.ref (phA S i), .int c, .int g] (wld z M p) = some (some (.int (bI (M S (58 + 10 * i + 4) = c ∧ M S (58 + 10 * i + 5) = g))), wld z M p) := by
  rw [r20]
  simp only [e20_0, e20_1, e20_4, e20_5, e20_8, e20_9, e20_12, e20_13, e20_16, e20_17, e20_20, e20_21, lk, lset, ldel, lset2, ldel2, cat2, gI_int, gA_ref, gA_null, gV_some, gC_some, gL_long, Option.toList, List.cons_append, List.nil_append, List.length_cons, List.length_nil, Nat.reduceEqDiff, Nat.reduceAdd, Nat.reduceSub, Nat.reduceLeDiff, Nat.reduceLT, nb0, nb1, reduceIte, reduceCtorEq, and_false, and_true, false_and, true_and, if_true, if_false, Bool.false_eq_true, eq_self, not_true_eq_false, not_false_eq_true, g_ph h hi]
  grind [bI]
theorem m_isKeptOn (h : isS z S) {i : Nat} (hi : i < 24) {c g : Int32} : run (d + 1) 21 [.ref (phA S i), .int c, .int g] (wld z M p) = some (some (.int (bI (M S (58 + 10 * i + 7) = c ∧ M S (58 + 10 * i + 8) = g))), wld z M p) := by
  rw [r21]
  simp only [e21_0, e21_1, e21_4, e21_5, e21_8, e21_9, e21_12, e21_13, e21_16, e21_17, e21_20, e21_21, lk, lset, ldel, lset2, ldel2, cat2, gI_int, gA_ref, gA_null, gV_some, gC_some, gL_long, Option.toList, List.cons_append, List.nil_append, List.length_cons, List.length_nil, Nat.reduceEqDiff, Nat.reduceAdd, Nat.reduceSub, Nat.reduceLeDiff, Nat.reduceLT, nb0, nb1, reduceIte, reduceCtorEq, and_false, and_true, false_and, true_and, if_true, if_false, Bool.false_eq_true, eq_self, not_true_eq_false, not_false_eq_true, g_ph h hi]
  grind [bI]
theorem m_hasWords (h : isS z S) {i : Nat} (hi : i < 24) {a b c : Int32} : run (d + 1) 22 [.ref (phA S i), .int a, .int b, .int c] (wld z M p) = some (some (.int (bI (M S (58 + 10 * i + 1) = a ∧ M S (58 + 10 * i + 2) = b ∧ M S (58 + 10 * i + 3) = c))), wld z M p) := by
  rw [r22]
  simp only [e22_0, e22_1, e22_4, e22_5, e22_8, e22_9, e22_12, e22_13, e22_16, e22_17, e22_20, e22_21, e22_24, e22_25, e22_28, e22_29, lk, lset, ldel, lset2, ldel2, cat2, gI_int, gA_ref, gA_null, gV_some, gC_some, gL_long, Option.toList, List.cons_append, List.nil_append, List.length_cons, List.length_nil, Nat.reduceEqDiff, Nat.reduceAdd, Nat.reduceSub, Nat.reduceLeDiff, Nat.reduceLT, nb0, nb1, reduceIte, reduceCtorEq, and_false, and_true, false_and, true_and, if_true, if_false, Bool.false_eq_true, eq_self, not_true_eq_false, not_false_eq_true, g_ph h hi]
  grind [bI]
def loseF (F : Nat → Int32) (i : Nat) : Nat → Int32 := fset (fset F (58 + 10 * i + 7) (-1)) (58 + 10 * i + 8) (-1)
theorem m_loseHome (h : isS z S) {i : Nat} (hi : i < 24) : run (d + 1) 25 [.ref (phA S i)] (wld z M p) = some (none, wld z (mput M S (loseF (M S) i)) p) := by
  rw [r25]
  simp only [e25_0, e25_1, e25_2, e25_5, e25_6, e25_7, e25_10, lk, lset, ldel, lset2, ldel2, cat2, gI_int, gA_ref, gA_null, gV_some, gC_some, gL_long, Option.toList, List.cons_append, List.nil_append, List.length_cons, List.length_nil, Nat.reduceEqDiff, Nat.reduceAdd, Nat.reduceSub, Nat.reduceLeDiff, Nat.reduceLT, nb0, nb1, reduceIte, reduceCtorEq, and_false, and_true, false_and, true_and, if_true, if_false, Bool.false_eq_true, eq_self, not_true_eq_false, not_false_eq_true, mput_same, mput_mput, fset_same, p_ph h hi]
  rfl
def homeF (F : Nat → Int32) (i : Nat) : Nat → Int32 := loseF (fset (fset (fset F (58 + 10 * i + 4) (F (58 + 10 * i + 7))) (58 + 10 * i + 5) (F (58 + 10 * i + 8))) (58 + 10 * i + 6) (-1)) i
theorem m_goHome (h : isS z S) {i : Nat} (hi : i < 24) : run (d + 2) 24 [.ref (phA S i)] (wld z M p) = some (none, wld z (mput M S (homeF (M S) i)) p) := by
  rw [r24]
  simp only [e24_0, e24_1, e24_2, e24_5, e24_8, e24_9, e24_10, e24_13, e24_16, e24_17, e24_18, e24_21, e24_22, e24_25, lk, lset, ldel, lset2, ldel2, cat2, gI_int, gA_ref, gA_null, gV_some, gC_some, gL_long, Option.toList, List.cons_append, List.nil_append, List.length_cons, List.length_nil, Nat.reduceEqDiff, Nat.reduceAdd, Nat.reduceSub, Nat.reduceLeDiff, Nat.reduceLT, nb0, nb1, reduceIte, reduceCtorEq, and_false, and_true, false_and, true_and, if_true, if_false, Bool.false_eq_true, eq_self, not_true_eq_false, not_false_eq_true, mput_same, mput_mput, fset_same, g_ph h hi, p_ph h hi, k_ph h hi, m_loseHome h hi]
  rw [fset_ne (by omega)]
  rfl
def outF (F : Nat → Int32) (i : Nat) (c g u : Int32) : Nat → Int32 := fset (fset (fset (fset (fset (fset F (58 + 10 * i + 7) (F (58 + 10 * i + 4))) (58 + 10 * i + 8) (F (58 + 10 * i + 5))) (58 + 10 * i + 4) c) (58 + 10 * i + 5) g) (58 + 10 * i + 6) u) (58 + 10 * i + 9) (F (58 + 10 * i + 9) + 1)
theorem m_goOut (h : isS z S) {i : Nat} (hi : i < 24) {c g u : Int32} : run (d + 1) 23 [.ref (phA S i), .int c, .int g, .int u] (wld z M p) = some (none, wld z (mput M S (outF (M S) i c g u)) p) := by
  rw [r23]
  simp only [e23_0, e23_1, e23_2, e23_5, e23_8, e23_9, e23_10, e23_13, e23_16, e23_17, e23_18, e23_21, e23_22, e23_23, e23_26, e23_27, e23_28, e23_31, e23_32, e23_32a, e23_33, e23_36, e23_37, e23_38, e23_41, lk, lset, ldel, lset2, ldel2, cat2, gI_int, gA_ref, gA_null, gV_some, gC_some, gL_long, Option.toList, List.cons_append, List.nil_append, List.length_cons, List.length_nil, Nat.reduceEqDiff, Nat.reduceAdd, Nat.reduceSub, Nat.reduceLeDiff, Nat.reduceLT, nb0, nb1, reduceIte, reduceCtorEq, and_false, and_true, false_and, true_and, if_true, if_false, Bool.false_eq_true, eq_self, not_true_eq_false, not_false_eq_true, mput_same, mput_mput, fset_same, g_ph h hi, p_ph h hi]
  rw [fset_ne (j := 58 + 10 * i + 7) (by omega)]
  rw [fset_ne (i := 58 + 10 * i + 9) (by omega), fset_ne (i := 58 + 10 * i + 9) (by omega), fset_ne (i := 58 + 10 * i + 9) (by omega), fset_ne (i := 58 + 10 * i + 9) (by omega), fset_ne (i := 58 + 10 * i + 9) (by omega)]
  rfl
def gapF (F : Nat → Int32) (i : Nat) (c : Int32) : Nat → Int32 :=
  let G := if F (58 + 10 * i + 4) ≤ c then F else fset F (58 + 10 * i + 4) (F (58 + 10 * i + 4) - 1)
  if F (58 + 10 * i + 7) ≤ c then G else fset G (58 + 10 * i + 7) (F (58 + 10 * i + 7) - 1)
theorem m_closeGap (h : isS z S) {i : Nat} (hi : i < 24) {c : Int32} : run (d + 1) 26 [.ref (phA S i), .int c] (wld z M p) = some (none, wld z (mput M S (gapF (M S) i c)) p) := by
  rw [r26]
  have hh : (58 + 10 * i + 7) ≠ (58 + 10 * i + 4) := by omega
  simp only [e26_0, e26_1, e26_4, e26_5, e26_8, e26_9, e26_9a, e26_10, e26_13, e26_14, e26_15, e26_18, e26_19, e26_22, e26_23, e26_26, e26_27, e26_27a, e26_28, e26_31, e26_32, e26_33, e26_36, lk, lset, ldel, lset2, ldel2, cat2, gI_int, gA_ref, gA_null, gV_some, gC_some, gL_long, Option.toList, List.cons_append, List.nil_append, List.length_cons, List.length_nil, Nat.reduceEqDiff, Nat.reduceAdd, Nat.reduceSub, Nat.reduceLeDiff, Nat.reduceLT, nb0, nb1, reduceIte, reduceCtorEq, and_false, and_true, false_and, true_and, if_true, if_false, Bool.false_eq_true, eq_self, not_true_eq_false, not_false_eq_true, mput_same, mput_mput, fset_same, g_ph h hi, p_ph h hi, fset_ne hh]
  unfold gapF
  by_cases h1 : M S (58 + 10 * i + 4) ≤ c <;> by_cases h2 : M S (58 + 10 * i + 7) ≤ c <;> simp only [h1, h2, if_true, if_false, mput_self]
def phrF (F : Nat → Int32) (i : Nat) (v a b c : Int32) : Nat → Int32 := fset (loseF (fset (fset (fset (fset (fset (fset (fset F (58 + 10 * i + 0) v) (58 + 10 * i + 1) a) (58 + 10 * i + 2) b) (58 + 10 * i + 3) c) (58 + 10 * i + 4) (-1)) (58 + 10 * i + 5) (-1)) (58 + 10 * i + 6) (-1)) i) (58 + 10 * i + 9) 0
theorem m_begin (h : isS z S) {i : Nat} (hi : i < 24) {v a b c : Int32} : run (d + 2) 16 [.ref (phA S i), .int v, .int a, .int b, .int c] (wld z M p) = some (none, wld z (mput M S (phrF (M S) i v a b c)) p) := by
  rw [r16]
  simp only [e16_0, e16_1, e16_2, e16_5, e16_6, e16_7, e16_10, e16_11, e16_12, e16_15, e16_16, e16_18, e16_21, e16_22, e16_23, e16_26, e16_27, e16_28, e16_31, e16_32, e16_33, e16_36, e16_37, e16_40, e16_41, e16_42, e16_45, lk, lset, ldel, lset2, ldel2, cat2, gI_int, gA_ref, gA_null, gV_some, gC_some, gL_long, Option.toList, List.cons_append, List.nil_append, List.length_cons, List.length_nil, Nat.reduceEqDiff, Nat.reduceAdd, Nat.reduceSub, Nat.reduceLeDiff, Nat.reduceLT, nb0, nb1, reduceIte, reduceCtorEq, and_false, and_true, false_and, true_and, if_true, if_false, Bool.false_eq_true, eq_self, not_true_eq_false, not_false_eq_true, mput_same, mput_mput, fset_same, g_ph h hi, p_ph h hi, k_ph h hi, m_loseHome h hi]
  rfl
/-- a row of n places from j of G on, into F from i on -/
def rowF (F G : Nat → Int32) (i j : Nat) : Nat → Nat → Int32
  | 0 => F
  | n + 1 => fset (rowF F G i j n) (i + n) (G (j + n))
theorem m_phCopy (h : isS z S) (h' : isS z T) (hne : T ≠ S) {i j : Nat} (hi : i < 24) (hj : j < 24) : run (d + 1) 17 [.ref (phA S i), .ref (phA T j)] (wld z M p) = some (none, wld z (mput M S (rowF (M S) (M T) (58 + 10 * i) (58 + 10 * j) 10)) p) := by
  rw [r17]
  simp only [e17_0, e17_1, e17_2, e17_5, e17_8, e17_9, e17_10, e17_13, e17_16, e17_17, e17_18, e17_21, e17_24, e17_25, e17_26, e17_29, e17_32, e17_33, e17_34, e17_37, e17_40, e17_41, e17_42, e17_45, e17_48, e17_49, e17_50, e17_53, e17_56, e17_57, e17_58, e17_61, e17_64, e17_65, e17_66, e17_69, e17_72, e17_73, e17_74, e17_77, e17_80, lk, lset, ldel, lset2, ldel2, cat2, gI_int, gA_ref, gA_null, gV_some, gC_some, gL_long, Option.toList, List.cons_append, List.nil_append, List.length_cons, List.length_nil, Nat.reduceEqDiff, Nat.reduceAdd, Nat.reduceSub, Nat.reduceLeDiff, Nat.reduceLT, nb0, nb1, reduceIte, reduceCtorEq, and_false, and_true, false_and, true_and, if_true, if_false, Bool.false_eq_true, eq_self, not_true_eq_false, not_false_eq_true, mput_same, mput_mput, fset_same, g_ph h' hj, p_ph h hi, mput_ne hne]
  rfl
theorem m_chCopy (h : isS z S) (h' : isS z T) (hne : T ≠ S) {i j : Nat} (hi : i < 10) (hj : j < 10) : run (d + 1) 1 [.ref (chA S i), .ref (chA T j)] (wld z M p) = some (none, wld z (mput M S (rowF (M S) (M T) (18 + 4 * i) (18 + 4 * j) 4)) p) := by
  rw [r1]
  simp only [e1_0, e1_1, e1_2, e1_5, e1_8, e1_9, e1_10, e1_13, e1_16, e1_17, e1_18, e1_21, e1_24, e1_25, e1_26, e1_29, e1_32, lk, lset, ldel, lset2, ldel2, cat2, gI_int, gA_ref, gA_null, gV_some, gC_some, gL_long, Option.toList, List.cons_append, List.nil_append, List.length_cons, List.length_nil, Nat.reduceEqDiff, Nat.reduceAdd, Nat.reduceSub, Nat.reduceLeDiff, Nat.reduceLT, nb0, nb1, reduceIte, reduceCtorEq, and_false, and_true, false_and, true_and, if_true, if_false, Bool.false_eq_true, eq_self, not_true_eq_false, not_false_eq_true, mput_same, mput_mput, fset_same, g_ch h' hj, p_ch h hi, mput_ne hne]
  rfl
theorem m_chCopyS (h : isS z S) {i j : Nat} (hi : i < 10) (hj : j < 10) (hij : i ≠ j) : run (d + 1) 1 [.ref (chA S i), .ref (chA S j)] (wld z M p) = some (none, wld z (mput M S (rowF (M S) (M S) (18 + 4 * i) (18 + 4 * j) 4)) p) := by
  rw [r1]
  simp only [e1_0, e1_1, e1_2, e1_5, e1_8, e1_9, e1_10, e1_13, e1_16, e1_17, e1_18, e1_21, e1_24, e1_25, e1_26, e1_29, e1_32, lk, lset, ldel, lset2, ldel2, cat2, gI_int, gA_ref, gA_null, gV_some, gC_some, gL_long, Option.toList, List.cons_append, List.nil_append, List.length_cons, List.length_nil, Nat.reduceEqDiff, Nat.reduceAdd, Nat.reduceSub, Nat.reduceLeDiff, Nat.reduceLT, nb0, nb1, reduceIte, reduceCtorEq, and_false, and_true, false_and, true_and, if_true, if_false, Bool.false_eq_true, eq_self, not_true_eq_false, not_false_eq_true, mput_same, mput_mput, fset_same, g_ch h hj, p_ch h hi]
  rw [fset_ne (by omega), fset_ne (i := 18 + 4 * j + 2) (by omega), fset_ne (i := 18 + 4 * j + 2) (by omega), fset_ne (i := 18 + 4 * j + 3) (by omega), fset_ne (i := 18 + 4 * j + 3) (by omega), fset_ne (i := 18 + 4 * j + 3) (by omega)]
  rfl
theorem m_clCopy (h : isS z S) (h' : isS z T) (hne : T ≠ S) {i j : Nat} (hi : i < 5) (hj : j < 5) : run (d + 1) 3 [.ref (clA S i), .ref (clA T j)] (wld z M p) = some (none, wld z (mput M S (rowF (M S) (M T) (8 + 2 * i) (8 + 2 * j) 2)) p) := by
  rw [r3]
  simp only [e3_0, e3_1, e3_2, e3_5, e3_8, e3_9, e3_10, e3_13, e3_16, lk, lset, ldel, lset2, ldel2, cat2, gI_int, gA_ref, gA_null, gV_some, gC_some, gL_long, Option.toList, List.cons_append, List.nil_append, List.length_cons, List.length_nil, Nat.reduceEqDiff, Nat.reduceAdd, Nat.reduceSub, Nat.reduceLeDiff, Nat.reduceLT, nb0, nb1, reduceIte, reduceCtorEq, and_false, and_true, false_and, true_and, if_true, if_false, Bool.false_eq_true, eq_self, not_true_eq_false, not_false_eq_true, mput_same, mput_mput, fset_same, g_cl h' hj, p_cl h hi, mput_ne hne]
  rfl
-- statics of the class
theorem m_within {a b c : Int32} {w : Wd} : run (d + 1) 108 [.int a, .int b, .int c] w = some (some (.int (bI (b ≤ a ∧ a ≤ c))), w) := by
  rw [r108]
  simp only [e108_0, e108_1, e108_2, e108_5, e108_6, e108_7, e108_10, e108_11, e108_14, e108_15, lk, lset, ldel, lset2, ldel2, cat2, gI_int, gA_ref, gA_null, gV_some, gC_some, gL_long, Option.toList, List.cons_append, List.nil_append, List.length_cons, List.length_nil, Nat.reduceEqDiff, Nat.reduceAdd, Nat.reduceSub, Nat.reduceLeDiff, Nat.reduceLT, nb0, nb1, reduceIte, reduceCtorEq, and_false, and_true, false_and, true_and, if_true, if_false, Bool.false_eq_true, eq_self, not_true_eq_false, not_false_eq_true]
  grind [bI]
theorem m_isVoice {a : Int32} {w : Wd} : run (d + 2) 109 [.int a] w = some (some (.int (bI (0 ≤ a ∧ a ≤ 3))), w) := by
  rw [r109]
  simp only [e109_0, e109_1, e109_2, e109_3, e109_6, lk, lset, ldel, lset2, ldel2, cat2, gI_int, gA_ref, gA_null, gV_some, gC_some, gL_long, Option.toList, List.cons_append, List.nil_append, List.length_cons, List.length_nil, Nat.reduceEqDiff, Nat.reduceAdd, Nat.reduceSub, Nat.reduceLeDiff, Nat.reduceLT, nb0, nb1, reduceIte, reduceCtorEq, and_false, and_true, false_and, true_and, if_true, if_false, Bool.false_eq_true, eq_self, not_true_eq_false, not_false_eq_true, m_within, bI_01]
theorem m_isPassing {a : Int32} {w : Wd} : run (d + 2) 55 [.int a] w = some (some (.int (bI (1 ≤ a ∧ a ≤ 99))), w) := by
  rw [r55]
  simp only [e55_0, e55_1, e55_2, e55_4, e55_7, lk, lset, ldel, lset2, ldel2, cat2, gI_int, gA_ref, gA_null, gV_some, gC_some, gL_long, Option.toList, List.cons_append, List.nil_append, List.length_cons, List.length_nil, Nat.reduceEqDiff, Nat.reduceAdd, Nat.reduceSub, Nat.reduceLeDiff, Nat.reduceLT, nb0, nb1, reduceIte, reduceCtorEq, and_false, and_true, false_and, true_and, if_true, if_false, Bool.false_eq_true, eq_self, not_true_eq_false, not_false_eq_true, m_within, bI_01]
theorem m_isPrice {a : Int32} {w : Wd} : run (d + 2) 56 [.int a] w = some (some (.int (bI (0 ≤ a ∧ a ≤ 999))), w) := by
  rw [r56]
  simp only [e56_0, e56_1, e56_2, e56_5, e56_8, lk, lset, ldel, lset2, ldel2, cat2, gI_int, gA_ref, gA_null, gV_some, gC_some, gL_long, Option.toList, List.cons_append, List.nil_append, List.length_cons, List.length_nil, Nat.reduceEqDiff, Nat.reduceAdd, Nat.reduceSub, Nat.reduceLeDiff, Nat.reduceLT, nb0, nb1, reduceIte, reduceCtorEq, and_false, and_true, false_and, true_and, if_true, if_false, Bool.false_eq_true, eq_self, not_true_eq_false, not_false_eq_true, m_within, bI_01]
abbrev wordsOk (a b c : Int32) : Prop := (0 ≤ a ∧ a ≤ 63) ∧ (-1 ≤ b ∧ b ≤ 63) ∧ (-1 ≤ c ∧ c ≤ 63) ∧ (b = -1 → c = -1)
theorem m_areWords {a b c : Int32} {w : Wd} : run (d + 2) 110 [.int a, .int b, .int c] w = some (some (.int (bI (wordsOk a b c))), w) := by
  rw [r110]
  simp only [e110_0, e110_1, e110_2, e110_4, e110_7, e110_10, e110_11, e110_12, e110_14, e110_17, e110_20, e110_21, e110_22, e110_24, e110_27, e110_30, e110_31, e110_32, e110_35, e110_36, e110_37, e110_40, e110_41, e110_44, e110_45, lk, lset, ldel, lset2, ldel2, cat2, gI_int, gA_ref, gA_null, gV_some, gC_some, gL_long, Option.toList, List.cons_append, List.nil_append, List.length_cons, List.length_nil, Nat.reduceEqDiff, Nat.reduceAdd, Nat.reduceSub, Nat.reduceLeDiff, Nat.reduceLT, nb0, nb1, reduceIte, reduceCtorEq, and_false, and_true, false_and, true_and, if_true, if_false, Bool.false_eq_true, eq_self, not_true_eq_false, not_false_eq_true, m_within, bI_0]
  unfold wordsOk bI
  grind
theorem m_isDigit {a : Int32} {w : Wd} : run (d + 1) 14 [.int a] w = some (some (.int (bI (48 ≤ a ∧ a ≤ 57))), w) := by
  rw [r14]
  simp only [e14_0, e14_1, e14_3, e14_6, e14_7, e14_9, e14_12, e14_13, e14_16, e14_17, lk, lset, ldel, lset2, ldel2, cat2, gI_int, gA_ref, gA_null, gV_some, gC_some, gL_long, Option.toList, List.cons_append, List.nil_append, List.length_cons, List.length_nil, Nat.reduceEqDiff, Nat.reduceAdd, Nat.reduceSub, Nat.reduceLeDiff, Nat.reduceLT, nb0, nb1, reduceIte, reduceCtorEq, and_false, and_true, false_and, true_and, if_true, if_false, Bool.false_eq_true, eq_self, not_true_eq_false, not_false_eq_true]
  grind [bI]
end SM
