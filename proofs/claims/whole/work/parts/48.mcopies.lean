/-! the model: copies, what is coming, what is best, the past, the text -/
section MT
variable {z : Zt} {d : Nat} {M : Nat → Nat → Int32} {p : Nat → Nat} {nc nh np n : Nat}
theorem wld_row {o : Nat} {F G : Nat → Int32} (hb : blk o = none) (h : mcell F p (z.1 + o) o = mcell G p (z.1 + o) o) : wld z (mput M (z.1 + o) F) p = wld z (mput M (z.1 + o) G) p := by
  unfold wld
  congr 3
  funext q
  by_cases e : q = z.2.1
  · rw [if_pos e, if_pos e]
  · rw [if_neg e, if_neg e]
    by_cases e2 : z.1 ≤ q ∧ q < z.1 + 317
    · rw [if_pos e2, if_pos e2]
      congr 1
      by_cases e3 : ckey z.1 q = z.1 + o
      · obtain rfl := ckey_mis hb e2.1 e3
        rw [mis_cell hb, mis_cell hb, mput_same, mput_same, h]
      · rw [ccell_mput e3, ccell_mput e3]
    · rw [if_neg e2, if_neg e2]
theorem iarr_first {k : Nat} {F G : Nat → Int32} : iarr k (firstN k F G) = iarr k G := by
  funext j
  unfold iarr firstN
  by_cases h : j < k
  · rw [if_pos h, if_pos h, if_pos h]
  · rw [if_neg h, if_neg h]
theorem cp_310_314 (hz : zok z) : run (d + 1) 113 [.ref (z.1 + 310), .ref (z.1 + 314)] (wld z M p) = some (none, wld z (mput M (z.1 + 314) (M (z.1 + 310))) p) := by
  rw [m_copies (by omega) (fun M j hj => a310 hz hj) (fun M j v hj => s314 hz hj)]
  rw [wld_row (o := 314) (by decide) (show mcell _ p _ 314 = mcell (M (z.1 + 310)) p _ 314 from congrArg (fun y => (10, 298, y)) iarr_first)]
theorem cp_314_310 (hz : zok z) : run (d + 1) 113 [.ref (z.1 + 314), .ref (z.1 + 310)] (wld z M p) = some (none, wld z (mput M (z.1 + 310) (M (z.1 + 314))) p) := by
  rw [m_copies (by omega) (fun M j hj => a314 hz hj) (fun M j v hj => s310 hz hj)]
  rw [wld_row (o := 310) (by decide) (show mcell _ p _ 310 = mcell (M (z.1 + 314)) p _ 310 from congrArg (fun y => (10, 298, y)) iarr_first)]
theorem cp_310_312 (hz : zok z) : run (d + 1) 113 [.ref (z.1 + 310), .ref (z.1 + 312)] (wld z M p) = some (none, wld z (mput M (z.1 + 312) (M (z.1 + 310))) p) := by
  rw [m_copies (by omega) (fun M j hj => a310 hz hj) (fun M j v hj => s312 hz hj)]
  rw [wld_row (o := 312) (by decide) (show mcell _ p _ 312 = mcell (M (z.1 + 310)) p _ 312 from congrArg (fun y => (10, 298, y)) iarr_first)]
theorem cp_312_310 (hz : zok z) : run (d + 1) 113 [.ref (z.1 + 312), .ref (z.1 + 310)] (wld z M p) = some (none, wld z (mput M (z.1 + 310) (M (z.1 + 312))) p) := by
  rw [m_copies (by omega) (fun M j hj => a312 hz hj) (fun M j v hj => s310 hz hj)]
  rw [wld_row (o := 310) (by decide) (show mcell _ p _ 310 = mcell (M (z.1 + 312)) p _ 310 from congrArg (fun y => (10, 298, y)) iarr_first)]
theorem cp_310_313 (hz : zok z) : run (d + 1) 113 [.ref (z.1 + 310), .ref (z.1 + 313)] (wld z M p) = some (none, wld z (mput M (z.1 + 313) (M (z.1 + 310))) p) := by
  rw [m_copies (by omega) (fun M j hj => a310 hz hj) (fun M j v hj => s313 hz hj)]
  rw [wld_row (o := 313) (by decide) (show mcell _ p _ 313 = mcell (M (z.1 + 310)) p _ 313 from congrArg (fun y => (10, 298, y)) iarr_first)]
theorem cp_313_310 (hz : zok z) : run (d + 1) 113 [.ref (z.1 + 313), .ref (z.1 + 310)] (wld z M p) = some (none, wld z (mput M (z.1 + 310) (M (z.1 + 313))) p) := by
  rw [m_copies (by omega) (fun M j hj => a313 hz hj) (fun M j v hj => s310 hz hj)]
  rw [wld_row (o := 310) (by decide) (show mcell _ p _ 310 = mcell (M (z.1 + 313)) p _ 310 from congrArg (fun y => (10, 298, y)) iarr_first)]
theorem mput_back {x y : Nat} {F G : Nat → Int32} (h : y ≠ x) (hG : G = M x) : mput (mput M y F) x G = mput M y F := by
  funext q
  unfold mput
  by_cases e : q = x
  · subst e; rw [if_pos rfl, if_neg (Ne.symm h), hG]
  · rw [if_neg e]
-- keep, restore
theorem m_mkeep (hz : zok z) : run (d + 2) 165 [.ref (z.1 + 309)] (wld z M p) = some (some (.int (M (z.1 + 310) 2)), wld z (mput (mput M (z.1 + 312) (M (z.1 + 310))) (z.1 + 309) (fset (M (z.1 + 309)) 5 1)) p) := by
  have q1 : z.1 + 309 ≠ z.1 + 312 := by omega
  have q2 : z.1 + 310 ≠ z.1 + 309 := by omega
  have q3 : z.1 + 310 ≠ z.1 + 312 := by omega
  rw [r165]
  simp only [e165_0, e165_1, e165_4, e165_5, e165_8, e165_11, e165_12, e165_13, e165_13t, e165_16, e165_17, e165_20, e165_21, e165_22, lk, lset, ldel, lset2, ldel2, cat2, gI_int, gA_ref, gA_null, gV_some, gC_some, gL_long, Option.toList, List.cons_append, List.nil_append, List.length_cons, List.length_nil, Nat.reduceEqDiff, Nat.reduceAdd, Nat.reduceSub, Nat.reduceLeDiff, Nat.reduceLT, nb0, nb1, reduceIte, reduceCtorEq, and_false, and_true, false_and, true_and, if_true, if_false, Bool.false_eq_true, eq_self, not_true_eq_false, not_false_eq_true, a310_0 hz, a310_1 hz, a310_2 hz, a310_3 hz, a310_4 hz, a310_5 hz, a310_6 hz, a310_7 hz, k309 hz, g309_0 hz, g309_0 hz, g309_1 hz, g309_2 hz, g309_3 hz, g309_4 hz, g309_5 hz, g309_6 hz, g309_7 hz, g309_8 hz, g309_9 hz, g309_10 hz, g309_11 hz, g309_12 hz, g309_13 hz, g309_14 hz, g309_15 hz, g309_16 hz, g309_17 hz, p309_5 hz, p309_6 hz, p309_7 hz, p309_9 hz, p309_10 hz, p309_11 hz, p309_12 hz, p309_13 hz, p309_14 hz, p309_15 hz, p309_16 hz, k309 hz, cp_310_312 hz, mput_ne q1, mput_ne q2, mput_ne q3]
theorem m_mrestore (hz : zok z) (hn : M (z.1 + 309) 7 = nI n) (hn4 : n ≤ 4) (hk : ¬ M (z.1 + 309) 5 = 0) : run (d + 2) 166 [.ref (z.1 + 309)] (wld z M p) = some (some (.int (M (z.1 + 312) 2)), wld z (mok z n M (some (M (z.1 + 312)))) p) := by
  have q1 : chg z n M (z.1 + 312) = M (z.1 + 312) := chg_ne (by omega) (by omega)
  rw [r166]
  simp only [e166_0, e166_1, e166_4, e166_7, e166_9, e166_10, e166_11, e166_14, e166_15, e166_18, e166_19, e166_22, e166_25, e166_26, e166_29, e166_30, e166_31, lk, lset, ldel, lset2, ldel2, cat2, gI_int, gA_ref, gA_null, gV_some, gC_some, gL_long, Option.toList, List.cons_append, List.nil_append, List.length_cons, List.length_nil, Nat.reduceEqDiff, Nat.reduceAdd, Nat.reduceSub, Nat.reduceLeDiff, Nat.reduceLT, nb0, nb1, reduceIte, reduceCtorEq, and_false, and_true, false_and, true_and, if_true, if_false, Bool.false_eq_true, eq_self, not_true_eq_false, not_false_eq_true, a310_0 hz, a310_1 hz, a310_2 hz, a310_3 hz, a310_4 hz, a310_5 hz, a310_6 hz, a310_7 hz, k309 hz, g309_0 hz, g309_0 hz, g309_1 hz, g309_2 hz, g309_3 hz, g309_4 hz, g309_5 hz, g309_6 hz, g309_7 hz, g309_8 hz, g309_9 hz, g309_10 hz, g309_11 hz, g309_12 hz, g309_13 hz, g309_14 hz, g309_15 hz, g309_16 hz, g309_17 hz, p309_5 hz, p309_6 hz, p309_7 hz, p309_9 hz, p309_10 hz, p309_11 hz, p309_12 hz, p309_13 hz, p309_14 hz, p309_15 hz, p309_16 hz, k309 hz, hk, m_changes hz hn hn4, cp_312_310 hz, q1, mput_same, mok_is]
theorem m_mrestoreNo (hz : zok z) (hk : M (z.1 + 309) 5 = 0) : run (d + 2) 166 [.ref (z.1 + 309)] (wld z M p) = some (some (.int (-100002)), wld z M p) := by
  rw [r166]
  simp only [e166_0, e166_1, e166_4, e166_7, e166_9, e166_10, e166_11, e166_14, e166_15, e166_18, e166_19, e166_22, e166_25, e166_26, e166_29, e166_30, e166_31, lk, lset, ldel, lset2, ldel2, cat2, gI_int, gA_ref, gA_null, gV_some, gC_some, gL_long, Option.toList, List.cons_append, List.nil_append, List.length_cons, List.length_nil, Nat.reduceEqDiff, Nat.reduceAdd, Nat.reduceSub, Nat.reduceLeDiff, Nat.reduceLT, nb0, nb1, reduceIte, reduceCtorEq, and_false, and_true, false_and, true_and, if_true, if_false, Bool.false_eq_true, eq_self, not_true_eq_false, not_false_eq_true, a310_0 hz, a310_1 hz, a310_2 hz, a310_3 hz, a310_4 hz, a310_5 hz, a310_6 hz, a310_7 hz, k309 hz, g309_0 hz, g309_0 hz, g309_1 hz, g309_2 hz, g309_3 hz, g309_4 hz, g309_5 hz, g309_6 hz, g309_7 hz, g309_8 hz, g309_9 hz, g309_10 hz, g309_11 hz, g309_12 hz, g309_13 hz, g309_14 hz, g309_15 hz, g309_16 hz, g309_17 hz, p309_5 hz, p309_6 hz, p309_7 hz, p309_9 hz, p309_10 hz, p309_11 hz, p309_12 hz, p309_13 hz, p309_14 hz, p309_15 hz, p309_16 hz, k309 hz, hk]
-- coming
theorem pasR_cnt : ∀ {k : Nat} {F : Nat → Int32}, cnt F nc nh np → cnt (pasR F np k).1 nc nh np := by
  intro k
  induction k with
  | zero => intro F h; exact h
  | succ k ih =>
    intro F h
    rw [pasR]
    exact ih (begR_cnt (dayF_cnt h))
def comV (F : Nat → Int32) (nc np u : Nat) (x : Int32) : Int32 := if x = 0 then 0 + (pasR F np u).2 else 0 + sumR (mtellsF (pasR F np u).1 np 15) 0 nc
theorem m_mcoming (hz : zok z) (hc : cnt (M (z.1 + 310)) nc nh np) {u : Nat} (hu : u ≤ 99) (hu1 : 1 ≤ u) (hw : ∀ i, i < np → whereOk (pasR (M (z.1 + 310)) np u).1 nh i) {x : Int32} (hx : 0 ≤ x ∧ x ≤ 1) : run (d + 6) 163 [.ref (z.1 + 309), .int (nI u), .int x] (wld z M p) = some (some (.int (comV (M (z.1 + 310)) nc np u x)), wld z (mput M (z.1 + 314) (M (z.1 + 310))) p) := by
  have hxu : 1 ≤ nI u ∧ nI u ≤ 99 := by
    have a := nI_stop (n := 1) (i := u) hu1 (by omega)
    have b := nI_stop (n := u) (i := 99) hu (by omega)
    rw [show nI 1 = 1 from by decide +kernel] at a
    rw [show nI 99 = 99 from by decide +kernel] at b
    exact ⟨a, b⟩
  have q1 : z.1 + 310 ≠ z.1 + 314 := by omega
  have q2 : z.1 + 314 ≠ z.1 + 310 := by omega
  have e := m_passes (d := d) (M := mput M (z.1 + 314) (M (z.1 + 310))) (p := p) hz (by rw [mput_ne q1]; exact hc) hu
  rw [mput_ne q1] at e
  have e2 := m_allTells (d := d + 1) (M := mput (mput M (z.1 + 314) (M (z.1 + 310))) (z.1 + 310) (pasR (M (z.1 + 310)) np u).1) (p := p) hz (nc := nc) (nh := nh) (np := np) (by rw [mput_same]; exact pasR_cnt hc) (by rw [mput_same]; exact hw)
  rw [mput_same] at e2
  have e3 := cp_314_310 (d := d + 4) (M := mput (mput M (z.1 + 314) (M (z.1 + 310))) (z.1 + 310) (pasR (M (z.1 + 310)) np u).1) (p := p) hz
  rw [mput_ne q2, mput_same, mput_mput, mput_back q2 rfl] at e3
  rw [r163]
  unfold comV
  by_cases h0 : x = 0
  · subst h0
    simp only [e163_0, e163_1, e163_2, e163_4, e163_7, e163_10, e163_11, e163_12, e163_13, e163_16, e163_19, e163_21, e163_22, e163_23, e163_26, e163_27, e163_30, e163_33, e163_34, e163_35, e163_38, e163_39, e163_40, e163_43, e163_44, e163_47, e163_48, e163_51, e163_53, e163_54, e163_57, e163_58, e163_61, e163_64, e163_66, lk, lset, ldel, lset2, ldel2, cat2, gI_int, gA_ref, gA_null, gV_some, gC_some, gL_long, Option.toList, List.cons_append, List.nil_append, List.length_cons, List.length_nil, Nat.reduceEqDiff, Nat.reduceAdd, Nat.reduceSub, Nat.reduceLeDiff, Nat.reduceLT, nb0, nb1, reduceIte, reduceCtorEq, and_false, and_true, false_and, true_and, if_true, if_false, Bool.false_eq_true, eq_self, not_true_eq_false, not_false_eq_true, ite_not, Classical.not_not, true_or, false_or, or_true, or_false, or_self, and_self, not_or, mput_self, bI_0, lk_same, lk_same2, lk_k1, lk_k1r, lk_ldN, ne_eq, a310_0 hz, a310_1 hz, a310_2 hz, a310_3 hz, a310_4 hz, a310_5 hz, a310_6 hz, a310_7 hz, k309 hz, g309_0 hz, g309_0 hz, g309_1 hz, g309_2 hz, g309_3 hz, g309_4 hz, g309_5 hz, g309_6 hz, g309_7 hz, g309_8 hz, g309_9 hz, g309_10 hz, g309_11 hz, g309_12 hz, g309_13 hz, g309_14 hz, g309_15 hz, g309_16 hz, g309_17 hz, p309_5 hz, p309_6 hz, p309_7 hz, p309_9 hz, p309_10 hz, p309_11 hz, p309_12 hz, p309_13 hz, p309_14 hz, p309_15 hz, p309_16 hz, k309 hz, m_in, hxu, hx, cp_310_314 hz, e, e3]
  · simp only [e163_0, e163_1, e163_2, e163_4, e163_7, e163_10, e163_11, e163_12, e163_13, e163_16, e163_19, e163_21, e163_22, e163_23, e163_26, e163_27, e163_30, e163_33, e163_34, e163_35, e163_38, e163_39, e163_40, e163_43, e163_44, e163_47, e163_48, e163_51, e163_53, e163_54, e163_57, e163_58, e163_61, e163_64, e163_66, lk, lset, ldel, lset2, ldel2, cat2, gI_int, gA_ref, gA_null, gV_some, gC_some, gL_long, Option.toList, List.cons_append, List.nil_append, List.length_cons, List.length_nil, Nat.reduceEqDiff, Nat.reduceAdd, Nat.reduceSub, Nat.reduceLeDiff, Nat.reduceLT, nb0, nb1, reduceIte, reduceCtorEq, and_false, and_true, false_and, true_and, if_true, if_false, Bool.false_eq_true, eq_self, not_true_eq_false, not_false_eq_true, ite_not, Classical.not_not, true_or, false_or, or_true, or_false, or_self, and_self, not_or, mput_self, bI_0, lk_same, lk_same2, lk_k1, lk_k1r, lk_ldN, ne_eq, a310_0 hz, a310_1 hz, a310_2 hz, a310_3 hz, a310_4 hz, a310_5 hz, a310_6 hz, a310_7 hz, k309 hz, g309_0 hz, g309_0 hz, g309_1 hz, g309_2 hz, g309_3 hz, g309_4 hz, g309_5 hz, g309_6 hz, g309_7 hz, g309_8 hz, g309_9 hz, g309_10 hz, g309_11 hz, g309_12 hz, g309_13 hz, g309_14 hz, g309_15 hz, g309_16 hz, g309_17 hz, p309_5 hz, p309_6 hz, p309_7 hz, p309_9 hz, p309_10 hz, p309_11 hz, p309_12 hz, p309_13 hz, p309_14 hz, p309_15 hz, p309_16 hz, k309 hz, m_in, hxu, hx, h0, cp_310_314 hz, e, e2, e3]
theorem m_mcomingNo {u x : Int32} {w : Wd} {a : Nat} (h : ¬ (1 ≤ u ∧ u ≤ 99) ∨ ¬ (0 ≤ x ∧ x ≤ 1)) : run (d + 2) 163 [.ref a, .int u, .int x] w = some (some (.int (-100001)), w) := by
  rw [r163]
  by_cases h1 : 1 ≤ u ∧ u ≤ 99
  · have h2 := h.resolve_left (fun q => q h1)
    simp only [e163_0, e163_1, e163_2, e163_4, e163_7, e163_10, e163_11, e163_12, e163_13, e163_16, e163_19, e163_21, lk, lset, ldel, lset2, ldel2, cat2, gI_int, gA_ref, gA_null, gV_some, gC_some, gL_long, Option.toList, List.cons_append, List.nil_append, List.length_cons, List.length_nil, Nat.reduceEqDiff, Nat.reduceAdd, Nat.reduceSub, Nat.reduceLeDiff, Nat.reduceLT, nb0, nb1, reduceIte, reduceCtorEq, and_false, and_true, false_and, true_and, if_true, if_false, Bool.false_eq_true, eq_self, not_true_eq_false, not_false_eq_true, ite_not, Classical.not_not, true_or, false_or, or_true, or_false, or_self, and_self, not_or, mput_self, bI_0, m_in, h1, h2]
  · simp only [e163_0, e163_1, e163_2, e163_4, e163_7, e163_10, e163_11, e163_12, e163_13, e163_16, e163_19, e163_21, lk, lset, ldel, lset2, ldel2, cat2, gI_int, gA_ref, gA_null, gV_some, gC_some, gL_long, Option.toList, List.cons_append, List.nil_append, List.length_cons, List.length_nil, Nat.reduceEqDiff, Nat.reduceAdd, Nat.reduceSub, Nat.reduceLeDiff, Nat.reduceLT, nb0, nb1, reduceIte, reduceCtorEq, and_false, and_true, false_and, true_and, if_true, if_false, Bool.false_eq_true, eq_self, not_true_eq_false, not_false_eq_true, ite_not, Classical.not_not, true_or, false_or, or_true, or_false, or_self, and_self, not_or, mput_self, bI_0, m_in, h1]
-- best
def mbb (F : Nat → Int32) (nc nh np i : Nat) : Nat → Int32 := mbbF F nc nh np i (F (18 + 4 * i + 0)).toNatClampNeg
def bstN (F : Nat → Int32) (nc nh np i : Nat) : Int32 := if 0 ≤ mworF F i then 0 + sumR (mtellsF (mbb F nc nh np i) np 15) 0 nc else -100004
def bstR (F : Nat → Int32) (nc nh np : Nat) : Nat → Nat → Int32 → Int32 → Int32 × Int32
  | _, 0, b, l => (b, l)
  | i, k + 1, b, l => if b < 0 ∨ bstN F nc nh np i < l then bstR F nc nh np (i + 1) k (nI i) (bstN F nc nh np i) else bstR F nc nh np (i + 1) k b l
theorem l_mbest (hz : zok z) {F : Nat → Int32} (hF : M (z.1 + 310) = F) (hT : M (z.1 + 314) = F) (hc : cnt F nc nh np) (ho : ∀ i, i < nh → ∃ o, o < nc ∧ F (18 + 4 * i + 0) = nI o) (hb : ∀ i, i < nh → cnt (mbb F nc nh np i) nc (nh - 1) np ∧ ∀ j, j < np → whereOk (mbb F nc nh np i) (nh - 1) j) {x : Int32} : ∀ (k i : Nat), i + k = nh → ∀ (b l : Int32) (rest : List (Nat × Value)), X (d + 5) 164 31 ((0, .ref (z.1 + 309)) :: (1, .int x) :: (2, .int b) :: (3, .int l) :: (4, .int (nI i)) :: rest) [] (wld z M p) = some (some (.int (if (bstR F nc nh np i k b l).1 < 0 ∨ x = 0 then (bstR F nc nh np i k b l).1 else (bstR F nc nh np i k b l).2)), wld z M p) := by
  intro k
  have hh := hc.2.2.2.1
  induction k with
  | zero =>
    intro i hi b l rest
    have g := nI_stop (n := nh) (i := i) (by omega) (by omega)
    have a1 : ai (wld z M p) (z.1 + 314) 1 = some (.int (nI nh)) := by
      have := a314 (M := M) (p := p) hz (j := 1) (by decide)
      rw [hT, hc.2.2.1, l1] at this
      exact this
    rw [e164_31]
    simp only [bstR]
    by_cases h1 : b < 0 <;> by_cases h2 : x = 0 <;> simp only [e164_33, e164_34, e164_37, e164_38, e164_39, e164_42, e164_43, e164_45, e164_48, e164_124, e164_125, e164_128, e164_129, e164_132, e164_133, e164_136, e164_137, lk, lset, ldel, lset2, ldel2, cat2, gI_int, gA_ref, gA_null, gV_some, gC_some, gL_long, Option.toList, List.cons_append, List.nil_append, List.length_cons, List.length_nil, Nat.reduceEqDiff, Nat.reduceAdd, Nat.reduceSub, Nat.reduceLeDiff, Nat.reduceLT, nb0, nb1, reduceIte, reduceCtorEq, and_false, and_true, false_and, true_and, if_true, if_false, Bool.false_eq_true, eq_self, not_true_eq_false, not_false_eq_true, ite_not, Classical.not_not, true_or, false_or, or_true, or_false, or_self, and_self, not_or, mput_self, bI_0, a310_0 hz, a310_1 hz, a310_2 hz, a310_3 hz, a310_4 hz, a310_5 hz, a310_6 hz, a310_7 hz, k309 hz, g309_0 hz, g309_0 hz, g309_1 hz, g309_2 hz, g309_3 hz, g309_4 hz, g309_5 hz, g309_6 hz, g309_7 hz, g309_8 hz, g309_9 hz, g309_10 hz, g309_11 hz, g309_12 hz, g309_13 hz, g309_14 hz, g309_15 hz, g309_16 hz, g309_17 hz, p309_5 hz, p309_6 hz, p309_7 hz, p309_9 hz, p309_10 hz, p309_11 hz, p309_12 hz, p309_13 hz, p309_14 hz, p309_15 hz, p309_16 hz, k309 hz, a1, g, h1, h2]
  | succ k ih =>
    intro i hi b l rest
    have g := nI_goon (i := i) (n := nh) (by omega) (by omega)
    have a1 : ai (wld z M p) (z.1 + 314) 1 = some (.int (nI nh)) := by
      have := a314 (M := M) (p := p) hz (j := 1) (by decide)
      rw [hT, hc.2.2.1, l1] at this
      exact this
    obtain ⟨o, hoc, hown⟩ := ho i (by omega)
    obtain ⟨hbc, hbw⟩ := hb i (by omega)
    have hon : (F (18 + 4 * i + 0)).toNatClampNeg = o := by rw [hown, nI_clamp (by have := hc.2.1; omega)]
    have e1 := m_buysBack (d := d) (M := M) (p := p) hz (by rw [hF]; exact hc) (show i < nh by omega) hoc (by rw [hF]; exact hown)
    rw [hF] at e1
    have e0 : mbb F nc nh np i = mbbF F nc nh np i o := by unfold mbb; rw [hon]
    rw [← e0] at e1
    have e2 := m_allTells (d := d + 1) (M := mput M (z.1 + 310) (mbb F nc nh np i)) (p := p) hz (nc := nc) (nh := nh - 1) (np := np) (by rw [mput_same]; exact hbc) (by rw [mput_same]; exact hbw)
    rw [mput_same] at e2
    have q2 : z.1 + 314 ≠ z.1 + 310 := by omega
    have e3 := cp_314_310 (d := d + 4) (M := mput M (z.1 + 310) (mbb F nc nh np i)) (p := p) hz
    rw [mput_ne q2, mput_mput, hT, show mput M (z.1 + 310) F = M from by rw [← hF]; exact mput_self] at e3
    have ih' := fun b l rest => ih (i + 1) (by omega) b l rest
    have n10 : ¬ (1 : Int32) = 0 := by decide
    rw [e164_31]
    simp only [bstR]
    by_cases h0 : 0 ≤ mworF F i
    · by_cases h1 : b < 0
      · simp only [e164_33, e164_34, e164_37, e164_38, e164_39, e164_42, e164_43, e164_45, e164_48, e164_50, e164_52, e164_55, e164_57, e164_60, e164_61, e164_64, e164_66, e164_67, e164_70, e164_71, e164_74, e164_77, e164_78, e164_81, e164_83, e164_84, e164_87, e164_88, e164_91, e164_92, e164_94, e164_96, e164_99, e164_101, e164_104, e164_105, e164_106, e164_108, e164_111, e164_113, e164_116, e164_117, e164_118, e164_121, lk, lset, ldel, lset2, ldel2, cat2, gI_int, gA_ref, gA_null, gV_some, gC_some, gL_long, Option.toList, List.cons_append, List.nil_append, List.length_cons, List.length_nil, Nat.reduceEqDiff, Nat.reduceAdd, Nat.reduceSub, Nat.reduceLeDiff, Nat.reduceLT, nb0, nb1, reduceIte, reduceCtorEq, and_false, and_true, false_and, true_and, if_true, if_false, Bool.false_eq_true, eq_self, not_true_eq_false, not_false_eq_true, ite_not, Classical.not_not, true_or, false_or, or_true, or_false, or_self, and_self, not_or, mput_self, bI_0, lk_same, lk_same2, lk_k1, lk_k1r, lk_ldN, ne_eq, a310_0 hz, a310_1 hz, a310_2 hz, a310_3 hz, a310_4 hz, a310_5 hz, a310_6 hz, a310_7 hz, k309 hz, g309_0 hz, g309_0 hz, g309_1 hz, g309_2 hz, g309_3 hz, g309_4 hz, g309_5 hz, g309_6 hz, g309_7 hz, g309_8 hz, g309_9 hz, g309_10 hz, g309_11 hz, g309_12 hz, g309_13 hz, g309_14 hz, g309_15 hz, g309_16 hz, g309_17 hz, p309_5 hz, p309_6 hz, p309_7 hz, p309_9 hz, p309_10 hz, p309_11 hz, p309_12 hz, p309_13 hz, p309_14 hz, p309_15 hz, p309_16 hz, k309 hz, nI_1, a1, g, e1, h0, e2, e3, h1, ih', bstN, n10]
      · by_cases h2 : 0 + sumR (mtellsF (mbb F nc nh np i) np 15) 0 nc < l
        · have h3 : ¬ l ≤ 0 + sumR (mtellsF (mbb F nc nh np i) np 15) 0 nc := by rw [Int32.not_le]; exact h2
          simp only [e164_33, e164_34, e164_37, e164_38, e164_39, e164_42, e164_43, e164_45, e164_48, e164_50, e164_52, e164_55, e164_57, e164_60, e164_61, e164_64, e164_66, e164_67, e164_70, e164_71, e164_74, e164_77, e164_78, e164_81, e164_83, e164_84, e164_87, e164_88, e164_91, e164_92, e164_94, e164_96, e164_99, e164_101, e164_104, e164_105, e164_106, e164_108, e164_111, e164_113, e164_116, e164_117, e164_118, e164_121, lk, lset, ldel, lset2, ldel2, cat2, gI_int, gA_ref, gA_null, gV_some, gC_some, gL_long, Option.toList, List.cons_append, List.nil_append, List.length_cons, List.length_nil, Nat.reduceEqDiff, Nat.reduceAdd, Nat.reduceSub, Nat.reduceLeDiff, Nat.reduceLT, nb0, nb1, reduceIte, reduceCtorEq, and_false, and_true, false_and, true_and, if_true, if_false, Bool.false_eq_true, eq_self, not_true_eq_false, not_false_eq_true, ite_not, Classical.not_not, true_or, false_or, or_true, or_false, or_self, and_self, not_or, mput_self, bI_0, lk_same, lk_same2, lk_k1, lk_k1r, lk_ldN, ne_eq, a310_0 hz, a310_1 hz, a310_2 hz, a310_3 hz, a310_4 hz, a310_5 hz, a310_6 hz, a310_7 hz, k309 hz, g309_0 hz, g309_0 hz, g309_1 hz, g309_2 hz, g309_3 hz, g309_4 hz, g309_5 hz, g309_6 hz, g309_7 hz, g309_8 hz, g309_9 hz, g309_10 hz, g309_11 hz, g309_12 hz, g309_13 hz, g309_14 hz, g309_15 hz, g309_16 hz, g309_17 hz, p309_5 hz, p309_6 hz, p309_7 hz, p309_9 hz, p309_10 hz, p309_11 hz, p309_12 hz, p309_13 hz, p309_14 hz, p309_15 hz, p309_16 hz, k309 hz, nI_1, a1, g, e1, h0, e2, e3, h1, h2, h3, ih', bstN, n10]
        · have h3 : l ≤ 0 + sumR (mtellsF (mbb F nc nh np i) np 15) 0 nc := by rw [← Int32.not_lt]; exact h2
          simp only [e164_33, e164_34, e164_37, e164_38, e164_39, e164_42, e164_43, e164_45, e164_48, e164_50, e164_52, e164_55, e164_57, e164_60, e164_61, e164_64, e164_66, e164_67, e164_70, e164_71, e164_74, e164_77, e164_78, e164_81, e164_83, e164_84, e164_87, e164_88, e164_91, e164_92, e164_94, e164_96, e164_99, e164_101, e164_104, e164_105, e164_106, e164_108, e164_111, e164_113, e164_116, e164_117, e164_118, e164_121, lk, lset, ldel, lset2, ldel2, cat2, gI_int, gA_ref, gA_null, gV_some, gC_some, gL_long, Option.toList, List.cons_append, List.nil_append, List.length_cons, List.length_nil, Nat.reduceEqDiff, Nat.reduceAdd, Nat.reduceSub, Nat.reduceLeDiff, Nat.reduceLT, nb0, nb1, reduceIte, reduceCtorEq, and_false, and_true, false_and, true_and, if_true, if_false, Bool.false_eq_true, eq_self, not_true_eq_false, not_false_eq_true, ite_not, Classical.not_not, true_or, false_or, or_true, or_false, or_self, and_self, not_or, mput_self, bI_0, lk_same, lk_same2, lk_k1, lk_k1r, lk_ldN, ne_eq, a310_0 hz, a310_1 hz, a310_2 hz, a310_3 hz, a310_4 hz, a310_5 hz, a310_6 hz, a310_7 hz, k309 hz, g309_0 hz, g309_0 hz, g309_1 hz, g309_2 hz, g309_3 hz, g309_4 hz, g309_5 hz, g309_6 hz, g309_7 hz, g309_8 hz, g309_9 hz, g309_10 hz, g309_11 hz, g309_12 hz, g309_13 hz, g309_14 hz, g309_15 hz, g309_16 hz, g309_17 hz, p309_5 hz, p309_6 hz, p309_7 hz, p309_9 hz, p309_10 hz, p309_11 hz, p309_12 hz, p309_13 hz, p309_14 hz, p309_15 hz, p309_16 hz, k309 hz, nI_1, a1, g, e1, h0, e2, e3, h1, h2, h3, ih', bstN, n10]
    · by_cases h1 : b < 0
      · simp only [e164_33, e164_34, e164_37, e164_38, e164_39, e164_42, e164_43, e164_45, e164_48, e164_50, e164_52, e164_55, e164_57, e164_60, e164_61, e164_64, e164_66, e164_67, e164_70, e164_71, e164_74, e164_77, e164_78, e164_81, e164_83, e164_84, e164_87, e164_88, e164_91, e164_92, e164_94, e164_96, e164_99, e164_101, e164_104, e164_105, e164_106, e164_108, e164_111, e164_113, e164_116, e164_117, e164_118, e164_121, lk, lset, ldel, lset2, ldel2, cat2, gI_int, gA_ref, gA_null, gV_some, gC_some, gL_long, Option.toList, List.cons_append, List.nil_append, List.length_cons, List.length_nil, Nat.reduceEqDiff, Nat.reduceAdd, Nat.reduceSub, Nat.reduceLeDiff, Nat.reduceLT, nb0, nb1, reduceIte, reduceCtorEq, and_false, and_true, false_and, true_and, if_true, if_false, Bool.false_eq_true, eq_self, not_true_eq_false, not_false_eq_true, ite_not, Classical.not_not, true_or, false_or, or_true, or_false, or_self, and_self, not_or, mput_self, bI_0, lk_same, lk_same2, lk_k1, lk_k1r, lk_ldN, ne_eq, a310_0 hz, a310_1 hz, a310_2 hz, a310_3 hz, a310_4 hz, a310_5 hz, a310_6 hz, a310_7 hz, k309 hz, g309_0 hz, g309_0 hz, g309_1 hz, g309_2 hz, g309_3 hz, g309_4 hz, g309_5 hz, g309_6 hz, g309_7 hz, g309_8 hz, g309_9 hz, g309_10 hz, g309_11 hz, g309_12 hz, g309_13 hz, g309_14 hz, g309_15 hz, g309_16 hz, g309_17 hz, p309_5 hz, p309_6 hz, p309_7 hz, p309_9 hz, p309_10 hz, p309_11 hz, p309_12 hz, p309_13 hz, p309_14 hz, p309_15 hz, p309_16 hz, k309 hz, nI_1, a1, g, e1, h0, e3, h1, ih', bstN, n10]
      · by_cases h2 : -100004 < l
        · have h3 : ¬ l ≤ -100004 := by rw [Int32.not_le]; exact h2
          simp only [e164_33, e164_34, e164_37, e164_38, e164_39, e164_42, e164_43, e164_45, e164_48, e164_50, e164_52, e164_55, e164_57, e164_60, e164_61, e164_64, e164_66, e164_67, e164_70, e164_71, e164_74, e164_77, e164_78, e164_81, e164_83, e164_84, e164_87, e164_88, e164_91, e164_92, e164_94, e164_96, e164_99, e164_101, e164_104, e164_105, e164_106, e164_108, e164_111, e164_113, e164_116, e164_117, e164_118, e164_121, lk, lset, ldel, lset2, ldel2, cat2, gI_int, gA_ref, gA_null, gV_some, gC_some, gL_long, Option.toList, List.cons_append, List.nil_append, List.length_cons, List.length_nil, Nat.reduceEqDiff, Nat.reduceAdd, Nat.reduceSub, Nat.reduceLeDiff, Nat.reduceLT, nb0, nb1, reduceIte, reduceCtorEq, and_false, and_true, false_and, true_and, if_true, if_false, Bool.false_eq_true, eq_self, not_true_eq_false, not_false_eq_true, ite_not, Classical.not_not, true_or, false_or, or_true, or_false, or_self, and_self, not_or, mput_self, bI_0, lk_same, lk_same2, lk_k1, lk_k1r, lk_ldN, ne_eq, a310_0 hz, a310_1 hz, a310_2 hz, a310_3 hz, a310_4 hz, a310_5 hz, a310_6 hz, a310_7 hz, k309 hz, g309_0 hz, g309_0 hz, g309_1 hz, g309_2 hz, g309_3 hz, g309_4 hz, g309_5 hz, g309_6 hz, g309_7 hz, g309_8 hz, g309_9 hz, g309_10 hz, g309_11 hz, g309_12 hz, g309_13 hz, g309_14 hz, g309_15 hz, g309_16 hz, g309_17 hz, p309_5 hz, p309_6 hz, p309_7 hz, p309_9 hz, p309_10 hz, p309_11 hz, p309_12 hz, p309_13 hz, p309_14 hz, p309_15 hz, p309_16 hz, k309 hz, nI_1, a1, g, e1, h0, e3, h1, h2, h3, ih', bstN, n10]
        · have h3 : l ≤ -100004 := by rw [← Int32.not_lt]; exact h2
          simp only [e164_33, e164_34, e164_37, e164_38, e164_39, e164_42, e164_43, e164_45, e164_48, e164_50, e164_52, e164_55, e164_57, e164_60, e164_61, e164_64, e164_66, e164_67, e164_70, e164_71, e164_74, e164_77, e164_78, e164_81, e164_83, e164_84, e164_87, e164_88, e164_91, e164_92, e164_94, e164_96, e164_99, e164_101, e164_104, e164_105, e164_106, e164_108, e164_111, e164_113, e164_116, e164_117, e164_118, e164_121, lk, lset, ldel, lset2, ldel2, cat2, gI_int, gA_ref, gA_null, gV_some, gC_some, gL_long, Option.toList, List.cons_append, List.nil_append, List.length_cons, List.length_nil, Nat.reduceEqDiff, Nat.reduceAdd, Nat.reduceSub, Nat.reduceLeDiff, Nat.reduceLT, nb0, nb1, reduceIte, reduceCtorEq, and_false, and_true, false_and, true_and, if_true, if_false, Bool.false_eq_true, eq_self, not_true_eq_false, not_false_eq_true, ite_not, Classical.not_not, true_or, false_or, or_true, or_false, or_self, and_self, not_or, mput_self, bI_0, lk_same, lk_same2, lk_k1, lk_k1r, lk_ldN, ne_eq, a310_0 hz, a310_1 hz, a310_2 hz, a310_3 hz, a310_4 hz, a310_5 hz, a310_6 hz, a310_7 hz, k309 hz, g309_0 hz, g309_0 hz, g309_1 hz, g309_2 hz, g309_3 hz, g309_4 hz, g309_5 hz, g309_6 hz, g309_7 hz, g309_8 hz, g309_9 hz, g309_10 hz, g309_11 hz, g309_12 hz, g309_13 hz, g309_14 hz, g309_15 hz, g309_16 hz, g309_17 hz, p309_5 hz, p309_6 hz, p309_7 hz, p309_9 hz, p309_10 hz, p309_11 hz, p309_12 hz, p309_13 hz, p309_14 hz, p309_15 hz, p309_16 hz, k309 hz, nI_1, a1, g, e1, h0, e3, h1, h2, h3, ih', bstN, n10]
def bstV (F : Nat → Int32) (nc nh np : Nat) (x : Int32) : Int32 := if (bstR F nc nh np 0 nh (-100004) 0).1 < 0 ∨ x = 0 then (bstR F nc nh np 0 nh (-100004) 0).1 else (bstR F nc nh np 0 nh (-100004) 0).2
theorem m_mbest (hz : zok z) {F : Nat → Int32} (hF : M (z.1 + 310) = F) (hc : cnt F nc nh np) (ho : ∀ i, i < nh → ∃ o, o < nc ∧ F (18 + 4 * i + 0) = nI o) (hb : ∀ i, i < nh → cnt (mbb F nc nh np i) nc (nh - 1) np ∧ ∀ j, j < np → whereOk (mbb F nc nh np i) (nh - 1) j) {x : Int32} (hx : 0 ≤ x ∧ x ≤ 1) : run (d + 6) 164 [.ref (z.1 + 309), .int x] (wld z M p) = some (some (.int (bstV F nc nh np x)), wld z (mput M (z.1 + 314) F) p) := by
  have q1 : z.1 + 310 ≠ z.1 + 314 := by omega
  have e := fun rest => l_mbest (d := d) (M := mput M (z.1 + 314) F) (p := p) hz (by rw [mput_ne q1]; exact hF) mput_same hc ho hb (x := x) nh 0 (by omega) (-100004) 0 rest
  rw [show nI 0 = 0 from nI_0] at e
  have e0 := cp_310_314 (d := d + 4) (M := M) (p := p) hz
  rw [hF] at e0
  rw [r164]
  simp only [e164_0, e164_1, e164_2, e164_3, e164_6, e164_9, e164_11, e164_12, e164_13, e164_16, e164_17, e164_20, e164_23, e164_25, e164_26, e164_27, e164_28, e164_29, lk, lset, ldel, lset2, ldel2, cat2, gI_int, gA_ref, gA_null, gV_some, gC_some, gL_long, Option.toList, List.cons_append, List.nil_append, List.length_cons, List.length_nil, Nat.reduceEqDiff, Nat.reduceAdd, Nat.reduceSub, Nat.reduceLeDiff, Nat.reduceLT, nb0, nb1, reduceIte, reduceCtorEq, and_false, and_true, false_and, true_and, if_true, if_false, Bool.false_eq_true, eq_self, not_true_eq_false, not_false_eq_true, ite_not, Classical.not_not, true_or, false_or, or_true, or_false, or_self, and_self, not_or, mput_self, bI_0, a310_0 hz, a310_1 hz, a310_2 hz, a310_3 hz, a310_4 hz, a310_5 hz, a310_6 hz, a310_7 hz, k309 hz, g309_0 hz, g309_0 hz, g309_1 hz, g309_2 hz, g309_3 hz, g309_4 hz, g309_5 hz, g309_6 hz, g309_7 hz, g309_8 hz, g309_9 hz, g309_10 hz, g309_11 hz, g309_12 hz, g309_13 hz, g309_14 hz, g309_15 hz, g309_16 hz, g309_17 hz, p309_5 hz, p309_6 hz, p309_7 hz, p309_9 hz, p309_10 hz, p309_11 hz, p309_12 hz, p309_13 hz, p309_14 hz, p309_15 hz, p309_16 hz, k309 hz, m_in, hx, e0]
  exact e []
theorem m_mbestNo {x : Int32} {w : Wd} {a : Nat} (h : ¬ (0 ≤ x ∧ x ≤ 1)) : run (d + 2) 164 [.ref a, .int x] w = some (some (.int (-100001)), w) := by
  rw [r164]
  simp only [e164_0, e164_1, e164_2, e164_3, e164_6, e164_9, e164_11, lk, lset, ldel, lset2, ldel2, cat2, gI_int, gA_ref, gA_null, gV_some, gC_some, gL_long, Option.toList, List.cons_append, List.nil_append, List.length_cons, List.length_nil, Nat.reduceEqDiff, Nat.reduceAdd, Nat.reduceSub, Nat.reduceLeDiff, Nat.reduceLT, nb0, nb1, reduceIte, reduceCtorEq, and_false, and_true, false_and, true_and, if_true, if_false, Bool.false_eq_true, eq_self, not_true_eq_false, not_false_eq_true, ite_not, Classical.not_not, true_or, false_or, or_true, or_false, or_self, and_self, not_or, mput_self, bI_0, m_in, h]
end MT
