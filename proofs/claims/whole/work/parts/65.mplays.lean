/-! the model: orders done, one after another -/
theorem restN_le {g : Nat → Int32} : ∀ (f e a : Nat) (T : Nat → Int32) (e' a' : Nat) (T' : Nat → Int32), restN g f e a T = some (e', a', T') → a ≤ a' := by
  intro f
  induction f with
  | zero =>
    intro e a T e' a' T' h
    unfold restN at h
    by_cases h59 : g e = 59
    · rw [if_pos h59] at h
      injection h with h
      injection h with r1 r2
      injection r2 with r2 r3
      omega
    · rw [if_neg h59] at h; cases h
  | succ f ih =>
    intro e a T e' a' T' h
    unfold restN at h
    by_cases hc : g e = 44
    · rw [if_pos hc] at h
      by_cases hd : dig (g (e + 1))
      · rw [if_pos hd] at h
        have h1 := ih _ _ _ _ _ _ h
        omega
      · rw [if_neg hd] at h; cases h
    · rw [if_neg hc] at h
      by_cases h59 : g e = 59
      · rw [if_pos h59] at h
        injection h with h
        injection h with r1 r2
        injection r2 with r2 r3
        omega
      · rw [if_neg h59] at h; cases h
theorem restN_hi {g : Nat → Int32} : ∀ (f e a : Nat) (T : Nat → Int32) (e' a' : Nat) (T' : Nat → Int32), restN g f e a T = some (e', a', T') → ∀ j, a' ≤ j → T' j = T j := by
  intro f
  induction f with
  | zero =>
    intro e a T e' a' T' h j hj
    unfold restN at h
    by_cases h59 : g e = 59
    · rw [if_pos h59] at h
      injection h with h
      injection h with r1 r2
      injection r2 with r2 r3
      rw [r3]
    · rw [if_neg h59] at h; cases h
  | succ f ih =>
    intro e a T e' a' T' h j hj
    unfold restN at h
    by_cases hc : g e = 44
    · rw [if_pos hc] at h
      by_cases hd : dig (g (e + 1))
      · rw [if_pos hd] at h
        have h1 := ih _ _ _ _ _ _ h j hj
        have h2 : a + 1 ≤ a' := restN_le _ _ _ _ _ _ _ h
        rw [h1, fset_ne (by omega)]
      · rw [if_neg hd] at h; cases h
    · rw [if_neg hc] at h
      by_cases h59 : g e = 59
      · rw [if_pos h59] at h
        injection h with h
        injection h with r1 r2
        injection r2 with r2 r3
        rw [r3]
      · rw [if_neg h59] at h; cases h
theorem parN_hi {g : Nat → Int32} {s : Nat} {T : Nat → Int32} {e' a' : Nat} {T' : Nat → Int32} (h : parN g s T = some (e', a', T')) : ∀ j, a' ≤ j → T' j = T j := by
  unfold parN at h
  by_cases hd : dig (g (s + 1))
  · rw [if_pos hd] at h
    intro j hj
    have h2 := restN_le _ _ _ _ _ _ _ h
    rw [restN_hi _ _ _ _ _ _ _ h j hj, fset_ne (by omega)]
  · rw [if_neg hd] at h; cases h
theorem many_let {g : Nat → Int32} {s a : Nat} : many (mLet g s) a ↔ many (g s) a := by
  unfold mLet
  by_cases h : 33 ≤ g s ∧ g s ≤ 126
  · rw [if_pos h]
  · rw [if_neg h]
    constructor
    · intro q
      rcases q with ⟨q, -⟩ | ⟨q, -⟩ | ⟨q, -⟩ | ⟨q | q, -⟩ <;> exact absurd q (by decide)
    · intro q
      exfalso
      rcases q with ⟨q, -⟩ | ⟨q, -⟩ | ⟨q, -⟩ | ⟨q | q, -⟩ <;> (rw [q] at h; exact h (by decide))
theorem let_many {g : Nat → Int32} {s a : Nat} (h : many (g s) a) : mLet g s = g s := by
  unfold mLet
  rw [if_pos]
  rcases h with ⟨q, -⟩ | ⟨q, -⟩ | ⟨q, -⟩ | ⟨q | q, -⟩ <;> (rw [q]; decide)
/-- an order called in the model does what the class's does -/
def callsOk (z : Zt) (p : Nat → Nat) (d n : Nat) (P : Nat → (Nat → Int32) → (Nat → Int32) → Prop) : Prop := ∀ (b : Nat) (F G : Nat → Int32) (o : Int32) (a : Nat) (T : Nat → Int32) (M : Nat → Nat → Int32), P b F G → many o a → a ≤ 4 → M (z.1 + 310) = G → ¬ M (z.1 + 309) 6 = 0 → M (z.1 + 309) 7 = nI n → M (z.1 + 309) 15 = o → M (z.1 + 309) 16 = nI a → (∀ j, j < a → M (z.1 + 316) j = T j) → (∀ j, a ≤ j → T j = -1) → ∃ v G', run d 175 [.ref (z.1 + 309)] (wld z M p) = some (some (.int v), wld z (mput M (z.1 + 310) G') p) ∧ v = (cstep F o T).1 ∧ (0 ≤ v → P (b + 1) (cstep F o T).2 G')
/-- where playing has written: the state, places 6 and 10 to 16, the numbers told -/
def pfr (z : Zt) (M M' : Nat → Nat → Int32) : Prop := (∀ x, x ≠ z.1 + 309 → x ≠ z.1 + 310 → x ≠ z.1 + 316 → M' x = M x) ∧ ∀ j, j ≠ 6 → (j < 10 ∨ 16 < j) → M' (z.1 + 309) j = M (z.1 + 309) j
theorem pfr.rf {z : Zt} {M : Nat → Nat → Int32} : pfr z M M := ⟨fun _ _ _ _ => rfl, fun _ _ _ => rfl⟩
theorem pfr.tr {z : Zt} {M M' M2 : Nat → Nat → Int32} (h : pfr z M M') (h2 : pfr z M' M2) : pfr z M M2 := ⟨fun x a b c => (h2.1 x a b c).trans (h.1 x a b c), fun j a b => (h2.2 j a b).trans (h.2 j a b)⟩
theorem pfr.p309 {z : Zt} {M : Nat → Nat → Int32} {E : Nat → Int32} (h : ∀ j, j ≠ 6 → (j < 10 ∨ 16 < j) → E j = M (z.1 + 309) j) : pfr z M (mput M (z.1 + 309) E) := ⟨fun x a _ _ => mput_ne a, fun j a b => by rw [mput_same]; exact h j a b⟩
theorem pfr.p310 {z : Zt} {M : Nat → Nat → Int32} {E : Nat → Int32} : pfr z M (mput M (z.1 + 310) E) := ⟨fun x _ b _ => mput_ne b, fun j _ _ => by rw [mput_ne (by omega)]⟩
theorem pfr.tx {z : Zt} {M M' : Nat → Nat → Int32} (h : txf z M M') : pfr z M M' := ⟨fun x a _ c => h.1 x a c, fun j _ b => h.2 j (by omega) (by omega) (by omega)⟩
section MPL
variable {z : Zt} {d : Nat} {p : Nat → Nat} {k n : Nat}
theorem l_plays (hz : zok z) (hk : k ≤ 60) {T0 : Nat → Int32} {P : Nat → (Nat → Int32) → (Nat → Int32) → Prop} (hmo : ∀ a b F G, a ≤ b → P a F G → P b F G) (hcl : callsOk z p (d + 7) n P) : ∀ (f s : Nat) (M : Nat → Nat → Int32) (o : Int32) (F : Nat → Int32), k - s ≤ f → s ≤ k → M (z.1 + 309) 9 = nI k → M (z.1 + 309) 10 = nI s → M (z.1 + 309) 14 = o → ¬ M (z.1 + 309) 6 = 0 → M (z.1 + 309) 7 = nI n → M (z.1 + 315) = T0 → P s F (M (z.1 + 310)) → ∀ rest, ∃ M', X (d + 7) 176 22 ((0, .ref (z.1 + 309)) :: (1, .int 1) :: rest) [] (wld z M p) = some (some (.int (match (rehR (sg k T0) k f s o F).1.2 with | none => 1 | some _ => 0)), wld z M' p) ∧ pfr z M M' ∧ M' (z.1 + 309) 6 = 0 ∧ (match (rehR (sg k T0) k f s o F).1.2 with
    | none => P k (rehR (sg k T0) k f s o F).2 (M' (z.1 + 310)) ∧ M' (z.1 + 309) 14 = (rehR (sg k T0) k f s o F).1.1
    | some (t, r, c) => M' (z.1 + 309) 11 = nI t ∧ M' (z.1 + 309) 12 = r ∧ M' (z.1 + 309) 13 = c) := by
  intro f
  have n10 : ¬ (1 : Int32) = 0 := by decide
  have q9 : z.1 + 310 ≠ z.1 + 309 := by omega
  have q15 : z.1 + 315 ≠ z.1 + 309 := by omega
  have q16 : z.1 + 316 ≠ z.1 + 309 := by omega
  have q10 : z.1 + 309 ≠ z.1 + 310 := by omega
  -- the text is over
  have hend : ∀ (s : Nat) (M : Nat → Nat → Int32) (o : Int32) (F : Nat → Int32), k ≤ s → s ≤ k → M (z.1 + 309) 9 = nI k → M (z.1 + 309) 10 = nI s → M (z.1 + 309) 14 = o → P s F (M (z.1 + 310)) → ∀ rest, ∃ M', X (d + 7) 176 22 ((0, .ref (z.1 + 309)) :: (1, .int 1) :: rest) [] (wld z M p) = some (some (.int 1), wld z M' p) ∧ pfr z M M' ∧ M' (z.1 + 309) 6 = 0 ∧ P k F (M' (z.1 + 310)) ∧ M' (z.1 + 309) 14 = o := by
    intro s M o F hs hs2 h9 h10 h14 hP rest
    have gk := nI_stop (i := s) (n := k) hs (by omega)
    refine ⟨mput M (z.1 + 309) (fset (M (z.1 + 309)) 6 0), ?_, pfr.p309 (fun j a _ => fset_ne a), by rw [mput_same, fset_same], by rw [mput_ne q9]; exact hmo _ _ _ _ hs2 hP, by rw [mput_same, fset_ne (by decide)]; exact h14⟩
    rw [e176_22]
    simp only [e176_23, e176_26, e176_27, e176_30, e176_110, e176_111, e176_112, e176_112t, e176_115, e176_116, lk, lset, ldel, lset2, ldel2, cat2, gI_int, gA_ref, gA_null, gV_some, gC_some, gL_long, Option.toList, List.cons_append, List.nil_append, List.length_cons, List.length_nil, Nat.reduceEqDiff, Nat.reduceAdd, Nat.reduceSub, Nat.reduceLeDiff, Nat.reduceLT, nb0, nb1, reduceIte, reduceCtorEq, and_false, and_true, false_and, true_and, if_true, if_false, Bool.false_eq_true, eq_self, not_true_eq_false, not_false_eq_true, mput_same, mput_mput, fset_same, g309_0 hz, g309_1 hz, g309_2 hz, g309_3 hz, g309_4 hz, g309_5 hz, g309_6 hz, g309_7 hz, g309_8 hz, g309_9 hz, g309_10 hz, g309_11 hz, g309_12 hz, g309_13 hz, g309_14 hz, g309_15 hz, g309_16 hz, g309_17 hz, p309_5 hz, p309_6 hz, p309_7 hz, p309_9 hz, p309_10 hz, p309_11 hz, p309_12 hz, p309_13 hz, p309_14 hz, p309_15 hz, p309_16 hz, k309 hz, h9, h10, gk]
  -- an order was no order
  have hstop : ∀ (M : Nat → Nat → Int32) (rest : List (Nat × Value)), X (d + 7) 176 22 ((0, .ref (z.1 + 309)) :: (1, .int 0) :: rest) [] (wld z M p) = some (some (.int 0), wld z (mput M (z.1 + 309) (fset (M (z.1 + 309)) 6 0)) p) := by
    intro M rest
    rw [e176_22]
    by_cases h : M (z.1 + 309) 9 ≤ M (z.1 + 309) 10
    · simp only [e176_23, e176_26, e176_27, e176_30, e176_33, e176_34, e176_110, e176_111, e176_112, e176_112t, e176_115, e176_116, lk, lset, ldel, lset2, ldel2, cat2, gI_int, gA_ref, gA_null, gV_some, gC_some, gL_long, Option.toList, List.cons_append, List.nil_append, List.length_cons, List.length_nil, Nat.reduceEqDiff, Nat.reduceAdd, Nat.reduceSub, Nat.reduceLeDiff, Nat.reduceLT, nb0, nb1, reduceIte, reduceCtorEq, and_false, and_true, false_and, true_and, if_true, if_false, Bool.false_eq_true, eq_self, not_true_eq_false, not_false_eq_true, mput_same, mput_mput, fset_same, g309_0 hz, g309_1 hz, g309_2 hz, g309_3 hz, g309_4 hz, g309_5 hz, g309_6 hz, g309_7 hz, g309_8 hz, g309_9 hz, g309_10 hz, g309_11 hz, g309_12 hz, g309_13 hz, g309_14 hz, g309_15 hz, g309_16 hz, g309_17 hz, p309_5 hz, p309_6 hz, p309_7 hz, p309_9 hz, p309_10 hz, p309_11 hz, p309_12 hz, p309_13 hz, p309_14 hz, p309_15 hz, p309_16 hz, k309 hz, h]
    · simp only [e176_23, e176_26, e176_27, e176_30, e176_33, e176_34, e176_110, e176_111, e176_112, e176_112t, e176_115, e176_116, lk, lset, ldel, lset2, ldel2, cat2, gI_int, gA_ref, gA_null, gV_some, gC_some, gL_long, Option.toList, List.cons_append, List.nil_append, List.length_cons, List.length_nil, Nat.reduceEqDiff, Nat.reduceAdd, Nat.reduceSub, Nat.reduceLeDiff, Nat.reduceLT, nb0, nb1, reduceIte, reduceCtorEq, and_false, and_true, false_and, true_and, if_true, if_false, Bool.false_eq_true, eq_self, not_true_eq_false, not_false_eq_true, mput_same, mput_mput, fset_same, g309_0 hz, g309_1 hz, g309_2 hz, g309_3 hz, g309_4 hz, g309_5 hz, g309_6 hz, g309_7 hz, g309_8 hz, g309_9 hz, g309_10 hz, g309_11 hz, g309_12 hz, g309_13 hz, g309_14 hz, g309_15 hz, g309_16 hz, g309_17 hz, p309_5 hz, p309_6 hz, p309_7 hz, p309_9 hz, p309_10 hz, p309_11 hz, p309_12 hz, p309_13 hz, p309_14 hz, p309_15 hz, p309_16 hz, k309 hz, h]
  induction f with
  | zero =>
    intro s M o F hf hs h9 h10 h14 h6 h7 hT hP rest
    obtain ⟨M', x1, x2, x3, x4, x5⟩ := hend s M o F (by omega) hs h9 h10 h14 hP rest
    exact ⟨M', x1, x2, x3, x4, x5⟩
  | succ f ih =>
    intro s M o F hf hs h9 h10 h14 h6 h7 hT hP rest
    simp only [rehR]
    by_cases hsk : s < k
    · rw [if_pos hsk]
      have gk := nI_goon (i := s) (n := k) hsk (by omega)
      have hrd := m_mreads (d := d + 2) (M := mput M (z.1 + 309) (fset (M (z.1 + 309)) 11 (nI s))) (p := p) hz hk hsk (by rw [mput_same, fset_ne (by decide)]; exact h10) (by rw [mput_same, fset_ne (by decide)]; exact h9)
      rw [mput_ne q15, mput_ne q16, hT] at hrd
      obtain ⟨M2, x1, x2, x3, x4⟩ := hrd
      have hag := parN_ag (g := sg k T0) (s := s) (T := fun _ => -1) (U := M (z.1 + 316))
      have t1 : pfr z M M2 := (pfr.p309 (fun j a b => fset_ne (by omega))).tr (pfr.tx x2)
      have y14 : M2 (z.1 + 309) 14 = o := by rw [x2.2 14 (by decide) (by decide) (by decide), mput_same, fset_ne (by decide)]; exact h14
      have y6 : M2 (z.1 + 309) 6 = M (z.1 + 309) 6 := by rw [x2.2 6 (by decide) (by decide) (by decide), mput_same, fset_ne (by decide)]
      have y7 : M2 (z.1 + 309) 7 = nI n := by rw [x2.2 7 (by decide) (by decide) (by decide), mput_same, fset_ne (by decide)]; exact h7
      have y9 : M2 (z.1 + 309) 9 = nI k := by rw [x2.2 9 (by decide) (by decide) (by decide), mput_same, fset_ne (by decide)]; exact h9
      have y11 : M2 (z.1 + 309) 11 = nI s := by rw [x2.2 11 (by decide) (by decide) (by decide), mput_same, fset_same]
      have y310 : M2 (z.1 + 310) = M (z.1 + 310) := by rw [x2.1 _ (by omega) (by omega), mput_ne q9]
      -- an order that isn't formed
      have hno : okR (mLet (sg k T0) s) (parN (sg k T0) s (M (z.1 + 316))) = false → ∃ M', X (d + 7) 176 22 ((0, .ref (z.1 + 309)) :: (1, .int 1) :: rest) [] (wld z M p) = some (some (.int 0), wld z M' p) ∧ pfr z M M' ∧ M' (z.1 + 309) 6 = 0 ∧ M' (z.1 + 309) 11 = nI s ∧ M' (z.1 + 309) 12 = 1 ∧ M' (z.1 + 309) 13 = -100004 := by
        intro hk0
        rw [hk0] at x1
        replace x1 : run (d + 2 + 5) 174 [.ref (z.1 + 309)] (wld z (mput M (z.1 + 309) (fset (M (z.1 + 309)) 11 (nI s))) p) = some (some (.int 0), wld z M2 p) := x1
        refine ⟨mput M2 (z.1 + 309) (fset (fset (fset (fset (M2 (z.1 + 309)) 13 (-100004)) 12 1) 14 (o + 1)) 6 0), ?_, t1.tr (pfr.p309 (fun j a b => by rw [fset_ne a, fset_ne (by omega), fset_ne (by omega), fset_ne (by omega)])), by rw [mput_same, fset_same], ?_, ?_, ?_⟩
        · have hs5 := hstop (mput M2 (z.1 + 309) (fset (fset (fset (M2 (z.1 + 309)) 13 (-100004)) 12 1) 14 (o + 1)))
          simp only [mput_same, mput_mput, fset_same] at hs5
          rw [e176_22]
          simp only [e176_23, e176_26, e176_27, e176_30, e176_33, e176_34, e176_37, e176_38, e176_39, e176_42, e176_45, e176_46, e176_49, e176_50, e176_51, e176_52, e176_55, e176_56, e176_59, e176_62, e176_64, e176_67, e176_68, e176_71, e176_72, e176_75, e176_78, e176_79, e176_82, e176_83, e176_84, e176_85, e176_86, e176_89, e176_90, e176_93, e176_94, e176_97, e176_98, e176_98a, e176_99, e176_102, e176_103, e176_104, e176_107, lk, lset, ldel, lset2, ldel2, cat2, gI_int, gA_ref, gA_null, gV_some, gC_some, gL_long, Option.toList, List.cons_append, List.nil_append, List.length_cons, List.length_nil, Nat.reduceEqDiff, Nat.reduceAdd, Nat.reduceSub, Nat.reduceLeDiff, Nat.reduceLT, nb0, nb1, reduceIte, reduceCtorEq, and_false, and_true, false_and, true_and, if_true, if_false, Bool.false_eq_true, eq_self, not_true_eq_false, not_false_eq_true, lk_same, lk_same2, lk_k1, lk_k1r, lk_ldN, ne_eq, mput_same, mput_mput, fset_same, g309_0 hz, g309_1 hz, g309_2 hz, g309_3 hz, g309_4 hz, g309_5 hz, g309_6 hz, g309_7 hz, g309_8 hz, g309_9 hz, g309_10 hz, g309_11 hz, g309_12 hz, g309_13 hz, g309_14 hz, g309_15 hz, g309_16 hz, g309_17 hz, p309_5 hz, p309_6 hz, p309_7 hz, p309_9 hz, p309_10 hz, p309_11 hz, p309_12 hz, p309_13 hz, p309_14 hz, p309_15 hz, p309_16 hz, k309 hz, h9, h10, gk, x1, n10, y14, fset_ne (show (14 : Nat) ≠ 12 by decide), fset_ne (show (14 : Nat) ≠ 13 by decide)]
          exact hs5 _
        · rw [mput_same, fset_ne (by decide), fset_ne (by decide), fset_ne (by decide), fset_ne (by decide)]; exact y11
        · rw [mput_same, fset_ne (by decide), fset_ne (by decide), fset_same]
        · rw [mput_same, fset_ne (by decide), fset_ne (by decide), fset_ne (by decide), fset_same]
      unfold rehO
      cases hp : parN (sg k T0) s (fun _ => -1) with
      | none =>
        rw [hp] at hag
        cases hq : parN (sg k T0) s (M (z.1 + 316)) with
        | some r => rw [hq] at hag; exact hag.elim
        | none =>
          obtain ⟨M5, z1, z2, z3, z4, z5, z6⟩ := hno (by rw [hq]; rfl)
          exact ⟨M5, z1, z2, z3, z4, z5, z6⟩
      | some r =>
        obtain ⟨e, a, T⟩ := r
        rw [hp] at hag
        cases hq : parN (sg k T0) s (M (z.1 + 316)) with
        | none => rw [hq] at hag; exact hag.elim
        | some r2 =>
        obtain ⟨e2, a2, U⟩ := r2
        rw [hq] at hag
        obtain ⟨rfl, rfl, hU⟩ := hag
        dsimp only
        have hb := parN_b hp
        by_cases hm : many (sg k T0 s) a
        · rw [if_pos hm]
          have hm2 := many_let.mpr hm
          have hok : okR (mLet (sg k T0) s) (parN (sg k T0) s (M (z.1 + 316))) = true := by rw [hq]; exact decide_eq_true hm2
          rw [if_pos hok] at x1
          obtain ⟨w10, w16, wT⟩ := x4 e a U hq hm2
          obtain ⟨v, G', c1, c2, c3⟩ := hcl s F (M (z.1 + 310)) (sg k T0 s) a T M2 hP hm hb.1 y310 (by rw [y6]; exact h6) y7 (by rw [x3]; exact let_many hm) w16 (fun j hj => by rw [wT]; exact (hU j hj).symm) (fun j hj => parN_hi hp j hj)
          rw [c2] at c1 c3
          generalize cstep F (sg k T0 s) T = R at c1 c3 ⊢
          by_cases hv : R.1 < 0
          · have hv2 : ¬ 0 ≤ R.1 := by rw [Int32.not_le]; exact hv
            rw [if_pos hv]
            dsimp only
            refine ⟨mput (mput M2 (z.1 + 310) G') (z.1 + 309) (fset (fset (fset (fset (M2 (z.1 + 309)) 13 R.1) 12 2) 14 (o + 1)) 6 0), ?_, (t1.tr pfr.p310).tr (pfr.p309 (fun j a b => by rw [fset_ne a, fset_ne (by omega), fset_ne (by omega), fset_ne (by omega), mput_ne q10])), by rw [mput_same, fset_same], ?_, ?_, ?_⟩
            · have hs5 := hstop (mput (mput M2 (z.1 + 310) G') (z.1 + 309) (fset (fset (fset (M2 (z.1 + 309)) 13 R.1) 12 2) 14 (o + 1)))
              simp only [mput_same, mput_mput, fset_same] at hs5
              rw [e176_22]
              simp only [e176_23, e176_26, e176_27, e176_30, e176_33, e176_34, e176_37, e176_38, e176_39, e176_42, e176_45, e176_46, e176_49, e176_50, e176_51, e176_52, e176_55, e176_56, e176_59, e176_62, e176_64, e176_67, e176_68, e176_71, e176_72, e176_75, e176_78, e176_79, e176_82, e176_83, e176_84, e176_85, e176_86, e176_89, e176_90, e176_93, e176_94, e176_97, e176_98, e176_98a, e176_99, e176_102, e176_103, e176_104, e176_107, lk, lset, ldel, lset2, ldel2, cat2, gI_int, gA_ref, gA_null, gV_some, gC_some, gL_long, Option.toList, List.cons_append, List.nil_append, List.length_cons, List.length_nil, Nat.reduceEqDiff, Nat.reduceAdd, Nat.reduceSub, Nat.reduceLeDiff, Nat.reduceLT, nb0, nb1, reduceIte, reduceCtorEq, and_false, and_true, false_and, true_and, if_true, if_false, Bool.false_eq_true, eq_self, not_true_eq_false, not_false_eq_true, lk_same, lk_same2, lk_k1, lk_k1r, lk_ldN, ne_eq, mput_same, mput_mput, fset_same, g309_0 hz, g309_1 hz, g309_2 hz, g309_3 hz, g309_4 hz, g309_5 hz, g309_6 hz, g309_7 hz, g309_8 hz, g309_9 hz, g309_10 hz, g309_11 hz, g309_12 hz, g309_13 hz, g309_14 hz, g309_15 hz, g309_16 hz, g309_17 hz, p309_5 hz, p309_6 hz, p309_7 hz, p309_9 hz, p309_10 hz, p309_11 hz, p309_12 hz, p309_13 hz, p309_14 hz, p309_15 hz, p309_16 hz, k309 hz, h9, h10, gk, x1, n10, c1, hv, mput_ne q10, y14, fset_ne (show (14 : Nat) ≠ 12 by decide), fset_ne (show (14 : Nat) ≠ 13 by decide), fset_ne (show (13 : Nat) ≠ 12 by decide)]
              exact hs5 _
            · rw [mput_same, fset_ne (by decide), fset_ne (by decide), fset_ne (by decide), fset_ne (by decide)]; exact y11
            · rw [mput_same, fset_ne (by decide), fset_ne (by decide), fset_same]
            · rw [mput_same, fset_ne (by decide), fset_ne (by decide), fset_ne (by decide), fset_same]
          · have hv2 : 0 ≤ R.1 := by rw [← Int32.not_lt]; exact hv
            rw [if_neg hv]
            dsimp only
            have hi := ih e (mput (mput M2 (z.1 + 310) G') (z.1 + 309) (fset (fset (fset (M2 (z.1 + 309)) 13 R.1) 12 2) 14 (o + 1))) (o + 1) R.2 (by omega) hb.2.2.2 (by rw [mput_same, fset_ne (by decide), fset_ne (by decide), fset_ne (by decide)]; exact y9) (by rw [mput_same, fset_ne (by decide), fset_ne (by decide), fset_ne (by decide)]; exact w10) (by rw [mput_same, fset_same]) (by rw [mput_same, fset_ne (by decide), fset_ne (by decide), fset_ne (by decide), y6]; exact h6) (by rw [mput_same, fset_ne (by decide), fset_ne (by decide), fset_ne (by decide)]; exact y7) (by rw [mput_ne q15, mput_ne (by omega), x2.1 _ (by omega) (by omega), mput_ne q15]; exact hT) (by rw [mput_ne q9, mput_same]; exact hmo _ _ _ _ hb.2.2.1 (c3 hv2)) (ldel (lset rest 2 (.int 1)) 1)
            obtain ⟨M5, z1, z2, z3, z4⟩ := hi
            refine ⟨M5, ?_, ((t1.tr pfr.p310).tr (pfr.p309 (fun j a b => by rw [fset_ne (by omega), fset_ne (by omega), fset_ne (by omega), mput_ne q10]))).tr z2, z3, z4⟩
            rw [e176_22]
            simp only [e176_23, e176_26, e176_27, e176_30, e176_33, e176_34, e176_37, e176_38, e176_39, e176_42, e176_45, e176_46, e176_49, e176_50, e176_51, e176_52, e176_55, e176_56, e176_59, e176_62, e176_64, e176_67, e176_68, e176_71, e176_72, e176_75, e176_78, e176_79, e176_82, e176_83, e176_84, e176_85, e176_86, e176_89, e176_90, e176_93, e176_94, e176_97, e176_98, e176_98a, e176_99, e176_102, e176_103, e176_104, e176_107, lk, lset, ldel, lset2, ldel2, cat2, gI_int, gA_ref, gA_null, gV_some, gC_some, gL_long, Option.toList, List.cons_append, List.nil_append, List.length_cons, List.length_nil, Nat.reduceEqDiff, Nat.reduceAdd, Nat.reduceSub, Nat.reduceLeDiff, Nat.reduceLT, nb0, nb1, reduceIte, reduceCtorEq, and_false, and_true, false_and, true_and, if_true, if_false, Bool.false_eq_true, eq_self, not_true_eq_false, not_false_eq_true, lk_same, lk_same2, lk_k1, lk_k1r, lk_ldN, ne_eq, mput_same, mput_mput, fset_same, g309_0 hz, g309_1 hz, g309_2 hz, g309_3 hz, g309_4 hz, g309_5 hz, g309_6 hz, g309_7 hz, g309_8 hz, g309_9 hz, g309_10 hz, g309_11 hz, g309_12 hz, g309_13 hz, g309_14 hz, g309_15 hz, g309_16 hz, g309_17 hz, p309_5 hz, p309_6 hz, p309_7 hz, p309_9 hz, p309_10 hz, p309_11 hz, p309_12 hz, p309_13 hz, p309_14 hz, p309_15 hz, p309_16 hz, k309 hz, h9, h10, gk, x1, n10, c1, hv, mput_ne q10, y14, fset_ne (show (14 : Nat) ≠ 12 by decide), fset_ne (show (14 : Nat) ≠ 13 by decide), fset_ne (show (13 : Nat) ≠ 12 by decide)]
            exact z1
        · rw [if_neg hm]
          obtain ⟨M5, z1, z2, z3, z4, z5, z6⟩ := hno (by rw [hq]; exact decide_eq_false (fun q => hm (many_let.mp q)))
          exact ⟨M5, z1, z2, z3, z4, z5, z6⟩
    · rw [if_neg hsk]
      obtain ⟨M', x1, x2, x3, x4, x5⟩ := hend s M o F (by omega) hs h9 h10 h14 hP rest
      exact ⟨M', x1, x2, x3, x4, x5⟩
theorem m_mplays (hz : zok z) (hk : k ≤ 60) {T0 : Nat → Int32} {P : Nat → (Nat → Int32) → (Nat → Int32) → Prop} (hmo : ∀ a b F G, a ≤ b → P a F G → P b F G) (hcl : callsOk z p (d + 7) n P) {M : Nat → Nat → Int32} {F : Nat → Int32} (h9 : M (z.1 + 309) 9 = nI k) (h7 : M (z.1 + 309) 7 = nI n) (hT : M (z.1 + 315) = T0) (hP : P 0 F (M (z.1 + 310))) : ∃ M', run (d + 8) 176 [.ref (z.1 + 309)] (wld z M p) = some (some (.int (match (rehR (sg k T0) k 60 0 0 F).1.2 with | none => 1 | some _ => 0)), wld z M' p) ∧ pfr z M M' ∧ M' (z.1 + 309) 6 = 0 ∧ (match (rehR (sg k T0) k 60 0 0 F).1.2 with
    | none => P k (rehR (sg k T0) k 60 0 0 F).2 (M' (z.1 + 310)) ∧ M' (z.1 + 309) 14 = (rehR (sg k T0) k 60 0 0 F).1.1
    | some (t, r, c) => M' (z.1 + 309) 11 = nI t ∧ M' (z.1 + 309) 12 = r ∧ M' (z.1 + 309) 13 = c) := by
  have q9 : z.1 + 310 ≠ z.1 + 309 := by omega
  have q15 : z.1 + 315 ≠ z.1 + 309 := by omega
  have n10 : ¬ (1 : Int32) = 0 := by decide
  obtain ⟨M', x1, x2, x3, x4⟩ := l_plays (d := d) (p := p) (T0 := T0) hz hk hmo hcl 60 0 (mput M (z.1 + 309) (fset (fset (fset (fset (M (z.1 + 309)) 6 1) 10 0) 11 0) 14 0)) 0 F (by omega) (by omega) (by rw [mput_same, fset_ne (by decide), fset_ne (by decide), fset_ne (by decide), fset_ne (by decide)]; exact h9) (by rw [mput_same, fset_ne (by decide), fset_ne (by decide), fset_same]; rfl) (by rw [mput_same, fset_same]) (by rw [mput_same, fset_ne (by decide), fset_ne (by decide), fset_ne (by decide), fset_same]; exact n10) (by rw [mput_same, fset_ne (by decide), fset_ne (by decide), fset_ne (by decide), fset_ne (by decide)]; exact h7) (by rw [mput_ne q15]; exact hT) (by rw [mput_ne q9]; exact hP) []
  refine ⟨M', ?_, (pfr.p309 (fun j a b => by rw [fset_ne (by omega), fset_ne (by omega), fset_ne (by omega), fset_ne a])).tr x2, x3, x4⟩
  rw [r176]
  simp only [e176_0, e176_1, e176_2, e176_2t, e176_5, e176_6, e176_7, e176_10, e176_11, e176_12, e176_15, e176_16, e176_17, e176_20, e176_21, lk, lset, ldel, lset2, ldel2, cat2, gI_int, gA_ref, gA_null, gV_some, gC_some, gL_long, Option.toList, List.cons_append, List.nil_append, List.length_cons, List.length_nil, Nat.reduceEqDiff, Nat.reduceAdd, Nat.reduceSub, Nat.reduceLeDiff, Nat.reduceLT, nb0, nb1, reduceIte, reduceCtorEq, and_false, and_true, false_and, true_and, if_true, if_false, Bool.false_eq_true, eq_self, not_true_eq_false, not_false_eq_true, mput_same, mput_mput, fset_same, g309_0 hz, g309_1 hz, g309_2 hz, g309_3 hz, g309_4 hz, g309_5 hz, g309_6 hz, g309_7 hz, g309_8 hz, g309_9 hz, g309_10 hz, g309_11 hz, g309_12 hz, g309_13 hz, g309_14 hz, g309_15 hz, g309_16 hz, g309_17 hz, p309_5 hz, p309_6 hz, p309_7 hz, p309_9 hz, p309_10 hz, p309_11 hz, p309_12 hz, p309_13 hz, p309_14 hz, p309_15 hz, p309_16 hz, k309 hz]
  exact x1
/-- what the model's questions leave alone -/
def mkp (z : Zt) (M M' : Nat → Nat → Int32) : Prop := (∀ x, x ≠ z.1 + 309 → x ≠ z.1 + 313 → x ≠ z.1 + 314 → x ≠ z.1 + 316 → M' x = M x) ∧ ∀ j, j < 10 → M' (z.1 + 309) j = M (z.1 + 309) j
theorem m_mfault (hz : zok z) (hk : k ≤ 60) {T0 : Nat → Int32} {P : Nat → (Nat → Int32) → (Nat → Int32) → Prop} (hmo : ∀ a b F G, a ≤ b → P a F G → P b F G) (hcl : callsOk z p (d + 7) n P) {M : Nat → Nat → Int32} {F : Nat → Int32} (h6 : M (z.1 + 309) 6 = 0) (h9 : M (z.1 + 309) 9 = nI k) (h7 : M (z.1 + 309) 7 = nI n) (hT : M (z.1 + 315) = T0) (hP : P 0 F (M (z.1 + 310))) {x : Int32} (hx : 0 ≤ x ∧ x ≤ 2) : ∃ M', run (d + 9) 177 [.ref (z.1 + 309), .int x] (wld z M p) = some (some (.int (fauV (rehR (sg k T0) k 60 0 0 F).1.2 x)), wld z M' p) ∧ mkp z M M' := by
  have q1 : z.1 + 309 ≠ z.1 + 313 := by omega
  have q2 : z.1 + 310 ≠ z.1 + 313 := by omega
  have q3 : z.1 + 315 ≠ z.1 + 313 := by omega
  have q4 : z.1 + 309 ≠ z.1 + 310 := by omega
  have n10 : ¬ (1 : Int32) = 0 := by decide
  obtain ⟨M1, x1, x2, x3, x4⟩ := m_mplays (d := d) (p := p) hz hk hmo hcl (M := mput M (z.1 + 313) (M (z.1 + 310))) (F := F) (T0 := T0) (by rw [mput_ne q1]; exact h9) (by rw [mput_ne q1]; exact h7) (by rw [mput_ne q3]; exact hT) (by rw [mput_ne q2]; exact hP)
  have y13 : M1 (z.1 + 313) = M (z.1 + 310) := by rw [x2.1 _ (by omega) (by omega) (by omega), mput_same]
  refine ⟨mput M1 (z.1 + 310) (M (z.1 + 310)), ?_, fun y a b c e => ?_, fun j hj => ?_⟩
  · have c1 := cp_310_313 (d := d + 7) (M := M) (p := p) hz
    have c2 := cp_313_310 (d := d + 7) (M := M1) (p := p) hz
    rw [y13] at c2
    rw [r177]
    cases hr : (rehR (sg k T0) k 60 0 0 F).1.2 with
    | none =>
      rw [hr] at x1
      simp only [e177_0, e177_1, e177_2, e177_3, e177_6, e177_9, e177_11, e177_12, e177_13, e177_16, e177_17, e177_20, e177_23, e177_24, e177_27, e177_28, e177_29, e177_32, e177_33, e177_36, e177_39, e177_40, e177_43, e177_45, e177_48, e177_49, e177_52, e177_53, e177_56, e177_59, e177_60, e177_61, e177_64, e177_65, e177_68, e177_71, e177_72, e177_75, lk, lset, ldel, lset2, ldel2, cat2, gI_int, gA_ref, gA_null, gV_some, gC_some, gL_long, Option.toList, List.cons_append, List.nil_append, List.length_cons, List.length_nil, Nat.reduceEqDiff, Nat.reduceAdd, Nat.reduceSub, Nat.reduceLeDiff, Nat.reduceLT, nb0, nb1, reduceIte, reduceCtorEq, and_false, and_true, false_and, true_and, if_true, if_false, Bool.false_eq_true, eq_self, not_true_eq_false, not_false_eq_true, ite_not, Classical.not_not, true_or, false_or, or_true, or_false, or_self, and_self, not_or, mput_self, bI_0, lk_same, lk_same2, lk_k1, lk_k1r, lk_ldN, ne_eq, g309_0 hz, g309_1 hz, g309_2 hz, g309_3 hz, g309_4 hz, g309_5 hz, g309_6 hz, g309_7 hz, g309_8 hz, g309_9 hz, g309_10 hz, g309_11 hz, g309_12 hz, g309_13 hz, g309_14 hz, g309_15 hz, g309_16 hz, g309_17 hz, p309_5 hz, p309_6 hz, p309_7 hz, p309_9 hz, p309_10 hz, p309_11 hz, p309_12 hz, p309_13 hz, p309_14 hz, p309_15 hz, p309_16 hz, k309 hz, m_in, hx, c1, x1, c2, n10, fauV]
    | some t =>
      obtain ⟨t, r, c⟩ := t
      rw [hr] at x1 x4
      obtain ⟨z1, z2, z3⟩ := x4
      by_cases e0 : x = 0
      · subst e0
        simp only [e177_0, e177_1, e177_2, e177_3, e177_6, e177_9, e177_11, e177_12, e177_13, e177_16, e177_17, e177_20, e177_23, e177_24, e177_27, e177_28, e177_29, e177_32, e177_33, e177_36, e177_39, e177_40, e177_43, e177_45, e177_48, e177_49, e177_52, e177_53, e177_56, e177_59, e177_60, e177_61, e177_64, e177_65, e177_68, e177_71, e177_72, e177_75, lk, lset, ldel, lset2, ldel2, cat2, gI_int, gA_ref, gA_null, gV_some, gC_some, gL_long, Option.toList, List.cons_append, List.nil_append, List.length_cons, List.length_nil, Nat.reduceEqDiff, Nat.reduceAdd, Nat.reduceSub, Nat.reduceLeDiff, Nat.reduceLT, nb0, nb1, reduceIte, reduceCtorEq, and_false, and_true, false_and, true_and, if_true, if_false, Bool.false_eq_true, eq_self, not_true_eq_false, not_false_eq_true, ite_not, Classical.not_not, true_or, false_or, or_true, or_false, or_self, and_self, not_or, mput_self, bI_0, lk_same, lk_same2, lk_k1, lk_k1r, lk_ldN, ne_eq, g309_0 hz, g309_1 hz, g309_2 hz, g309_3 hz, g309_4 hz, g309_5 hz, g309_6 hz, g309_7 hz, g309_8 hz, g309_9 hz, g309_10 hz, g309_11 hz, g309_12 hz, g309_13 hz, g309_14 hz, g309_15 hz, g309_16 hz, g309_17 hz, p309_5 hz, p309_6 hz, p309_7 hz, p309_9 hz, p309_10 hz, p309_11 hz, p309_12 hz, p309_13 hz, p309_14 hz, p309_15 hz, p309_16 hz, k309 hz, m_in, hx, c1, x1, c2, fauV, mput_ne q4, z1]
      · by_cases e1 : x = 1
        · subst e1
          simp only [e177_0, e177_1, e177_2, e177_3, e177_6, e177_9, e177_11, e177_12, e177_13, e177_16, e177_17, e177_20, e177_23, e177_24, e177_27, e177_28, e177_29, e177_32, e177_33, e177_36, e177_39, e177_40, e177_43, e177_45, e177_48, e177_49, e177_52, e177_53, e177_56, e177_59, e177_60, e177_61, e177_64, e177_65, e177_68, e177_71, e177_72, e177_75, lk, lset, ldel, lset2, ldel2, cat2, gI_int, gA_ref, gA_null, gV_some, gC_some, gL_long, Option.toList, List.cons_append, List.nil_append, List.length_cons, List.length_nil, Nat.reduceEqDiff, Nat.reduceAdd, Nat.reduceSub, Nat.reduceLeDiff, Nat.reduceLT, nb0, nb1, reduceIte, reduceCtorEq, and_false, and_true, false_and, true_and, if_true, if_false, Bool.false_eq_true, eq_self, not_true_eq_false, not_false_eq_true, ite_not, Classical.not_not, true_or, false_or, or_true, or_false, or_self, and_self, not_or, mput_self, bI_0, lk_same, lk_same2, lk_k1, lk_k1r, lk_ldN, ne_eq, g309_0 hz, g309_1 hz, g309_2 hz, g309_3 hz, g309_4 hz, g309_5 hz, g309_6 hz, g309_7 hz, g309_8 hz, g309_9 hz, g309_10 hz, g309_11 hz, g309_12 hz, g309_13 hz, g309_14 hz, g309_15 hz, g309_16 hz, g309_17 hz, p309_5 hz, p309_6 hz, p309_7 hz, p309_9 hz, p309_10 hz, p309_11 hz, p309_12 hz, p309_13 hz, p309_14 hz, p309_15 hz, p309_16 hz, k309 hz, m_in, hx, c1, x1, c2, fauV, n10, mput_ne q4, z2]
        · simp only [e177_0, e177_1, e177_2, e177_3, e177_6, e177_9, e177_11, e177_12, e177_13, e177_16, e177_17, e177_20, e177_23, e177_24, e177_27, e177_28, e177_29, e177_32, e177_33, e177_36, e177_39, e177_40, e177_43, e177_45, e177_48, e177_49, e177_52, e177_53, e177_56, e177_59, e177_60, e177_61, e177_64, e177_65, e177_68, e177_71, e177_72, e177_75, lk, lset, ldel, lset2, ldel2, cat2, gI_int, gA_ref, gA_null, gV_some, gC_some, gL_long, Option.toList, List.cons_append, List.nil_append, List.length_cons, List.length_nil, Nat.reduceEqDiff, Nat.reduceAdd, Nat.reduceSub, Nat.reduceLeDiff, Nat.reduceLT, nb0, nb1, reduceIte, reduceCtorEq, and_false, and_true, false_and, true_and, if_true, if_false, Bool.false_eq_true, eq_self, not_true_eq_false, not_false_eq_true, ite_not, Classical.not_not, true_or, false_or, or_true, or_false, or_self, and_self, not_or, mput_self, bI_0, lk_same, lk_same2, lk_k1, lk_k1r, lk_ldN, ne_eq, g309_0 hz, g309_1 hz, g309_2 hz, g309_3 hz, g309_4 hz, g309_5 hz, g309_6 hz, g309_7 hz, g309_8 hz, g309_9 hz, g309_10 hz, g309_11 hz, g309_12 hz, g309_13 hz, g309_14 hz, g309_15 hz, g309_16 hz, g309_17 hz, p309_5 hz, p309_6 hz, p309_7 hz, p309_9 hz, p309_10 hz, p309_11 hz, p309_12 hz, p309_13 hz, p309_14 hz, p309_15 hz, p309_16 hz, k309 hz, m_in, hx, c1, x1, c2, fauV, e0, e1, mput_ne q4, z3]
  · by_cases hy : y = z.1 + 310
    · subst hy; rw [mput_same]
    · rw [mput_ne hy, x2.1 y a hy e, mput_ne b]
  · rw [mput_ne q4]
    by_cases h : j = 6
    · subst h; rw [x3, h6]
    · rw [x2.2 j h (by omega), mput_ne q1]
theorem m_mfaultNo {x : Int32} {w : Wd} {a : Nat} (h : ¬ (0 ≤ x ∧ x ≤ 2)) : run (d + 2) 177 [.ref a, .int x] w = some (some (.int (-100001)), w) := by
  rw [r177]
  simp only [e177_0, e177_1, e177_2, e177_3, e177_6, e177_9, e177_11, e177_12, e177_13, e177_16, e177_17, e177_20, e177_23, e177_24, e177_27, e177_28, e177_29, e177_32, e177_33, e177_36, e177_39, e177_40, e177_43, e177_45, e177_48, e177_49, e177_52, e177_53, e177_56, e177_59, e177_60, e177_61, e177_64, e177_65, e177_68, e177_71, e177_72, e177_75, lk, lset, ldel, lset2, ldel2, cat2, gI_int, gA_ref, gA_null, gV_some, gC_some, gL_long, Option.toList, List.cons_append, List.nil_append, List.length_cons, List.length_nil, Nat.reduceEqDiff, Nat.reduceAdd, Nat.reduceSub, Nat.reduceLeDiff, Nat.reduceLT, nb0, nb1, reduceIte, reduceCtorEq, and_false, and_true, false_and, true_and, if_true, if_false, Bool.false_eq_true, eq_self, not_true_eq_false, not_false_eq_true, ite_not, Classical.not_not, true_or, false_or, or_true, or_false, or_self, and_self, not_or, mput_self, bI_0, m_in, h]
theorem m_mplay (hz : zok z) (hk : k ≤ 60) {T0 : Nat → Int32} {P : Nat → (Nat → Int32) → (Nat → Int32) → Prop} (hmo : ∀ a b F G, a ≤ b → P a F G → P b F G) (hn4 : n ≤ 4) (hcl : callsOk z p (d + 7) n P) (hcl2 : callsOk z p (d + 7) (pushN n) P) {M : Nat → Nat → Int32} {F : Nat → Int32} (h6 : M (z.1 + 309) 6 = 0) (h9 : M (z.1 + 309) 9 = nI k) (h7 : M (z.1 + 309) 7 = nI n) (hT : M (z.1 + 315) = T0) (hP : P 0 F (M (z.1 + 310))) : ∃ M', run (d + 9) 178 [.ref (z.1 + 309)] (wld z M p) = some (some (.int (match (rehR (sg k T0) k 60 0 0 F).1.2 with | none => (rehR (sg k T0) k 60 0 0 F).1.1 | some _ => -100002)), wld z M' p) ∧ (match (rehR (sg k T0) k 60 0 0 F).1.2 with
    | none => ∃ M1 G', mkp z M M1 ∧ mkp z (mok z n M1 (some G')) M' ∧ P k (rehR (sg k T0) k 60 0 0 F).2 G'
    | some _ => mkp z M M') := by
  have q1 : z.1 + 309 ≠ z.1 + 313 := by omega
  have q2 : z.1 + 310 ≠ z.1 + 313 := by omega
  have q3 : z.1 + 315 ≠ z.1 + 313 := by omega
  have q4 : z.1 + 309 ≠ z.1 + 310 := by omega
  have n10 : ¬ (1 : Int32) = 0 := by decide
  obtain ⟨M1, x1, x2, x3, x4⟩ := m_mplays (d := d) (p := p) hz hk hmo hcl (M := mput M (z.1 + 313) (M (z.1 + 310))) (F := F) (T0 := T0) (by rw [mput_ne q1]; exact h9) (by rw [mput_ne q1]; exact h7) (by rw [mput_ne q3]; exact hT) (by rw [mput_ne q2]; exact hP)
  have y13 : M1 (z.1 + 313) = M (z.1 + 310) := by rw [x2.1 _ (by omega) (by omega) (by omega), mput_same]
  have c1 := cp_310_313 (d := d + 7) (M := M) (p := p) hz
  have c2 := cp_313_310 (d := d + 7) (M := M1) (p := p) hz
  rw [y13] at c2
  have k2 : mkp z M (mput M1 (z.1 + 310) (M (z.1 + 310))) := by
    refine ⟨fun y a b c e => ?_, fun j hj => ?_⟩
    · by_cases hy : y = z.1 + 310
      · subst hy; rw [mput_same]
      · rw [mput_ne hy, x2.1 y a hy e, mput_ne b]
    · rw [mput_ne q4]
      by_cases h : j = 6
      · subst h; rw [x3, h6]
      · rw [x2.2 j h (by omega), mput_ne q1]
  generalize hM2 : mput M1 (z.1 + 310) (M (z.1 + 310)) = M2 at c2 k2
  have y7 : M2 (z.1 + 309) 7 = nI n := (k2.2 7 (by omega)).trans h7
  have y6 : M2 (z.1 + 309) 6 = 0 := (k2.2 6 (by omega)).trans h6
  have y9 : M2 (z.1 + 309) 9 = nI k := (k2.2 9 (by omega)).trans h9
  have y10 : M2 (z.1 + 310) = M (z.1 + 310) := k2.1 _ (by omega) (by omega) (by omega) (by omega)
  have y15 : M2 (z.1 + 315) = T0 := (k2.1 _ (by omega) (by omega) (by omega) (by omega)).trans hT
  rw [r178]
  cases hr : (rehR (sg k T0) k 60 0 0 F).1.2 with
  | some t =>
    rw [hr] at x1
    refine ⟨M2, ?_, k2⟩
    simp only [e178_0, e178_1, e178_4, e178_5, e178_8, e178_11, e178_12, e178_15, e178_16, e178_17, e178_20, e178_21, e178_24, e178_27, e178_28, e178_31, e178_33, e178_34, e178_35, e178_38, e178_39, e178_42, e178_45, e178_46, e178_49, e178_52, e178_54, lk, lset, ldel, lset2, ldel2, cat2, gI_int, gA_ref, gA_null, gV_some, gC_some, gL_long, Option.toList, List.cons_append, List.nil_append, List.length_cons, List.length_nil, Nat.reduceEqDiff, Nat.reduceAdd, Nat.reduceSub, Nat.reduceLeDiff, Nat.reduceLT, nb0, nb1, reduceIte, reduceCtorEq, and_false, and_true, false_and, true_and, if_true, if_false, Bool.false_eq_true, eq_self, not_true_eq_false, not_false_eq_true, ite_not, Classical.not_not, true_or, false_or, or_true, or_false, or_self, and_self, not_or, mput_self, bI_0, lk_same, lk_same2, lk_k1, lk_k1r, lk_ldN, ne_eq, g309_0 hz, g309_1 hz, g309_2 hz, g309_3 hz, g309_4 hz, g309_5 hz, g309_6 hz, g309_7 hz, g309_8 hz, g309_9 hz, g309_10 hz, g309_11 hz, g309_12 hz, g309_13 hz, g309_14 hz, g309_15 hz, g309_16 hz, g309_17 hz, p309_5 hz, p309_6 hz, p309_7 hz, p309_9 hz, p309_10 hz, p309_11 hz, p309_12 hz, p309_13 hz, p309_14 hz, p309_15 hz, p309_16 hz, k309 hz, c1, x1, c2]
  | none =>
    rw [hr] at x1
    have c3 := m_changes (d := d + 7) (p := p) hz y7 hn4
    have w7 : chg z n M2 (z.1 + 309) = fset (M2 (z.1 + 309)) 7 (nI (pushN n)) := by unfold chg; rw [if_pos y6, mput_same]
    obtain ⟨M3, v1, v2, v3, v4⟩ := m_mplays (d := d) (p := p) hz hk hmo hcl2 (M := chg z n M2) (F := F) (T0 := T0) (by rw [w7, fset_ne (by decide)]; exact y9) (by rw [w7, fset_same]) (by rw [chg_ne (by omega) (by omega)]; exact y15) (by rw [chg_310, y10]; exact hP)
    rw [hr] at v1 v4
    obtain ⟨v4, v5⟩ := v4
    refine ⟨M3, ?_, M2, M3 (z.1 + 310), k2, ⟨fun y a b c e => ?_, fun j hj => ?_⟩, v4⟩
    · simp only [e178_0, e178_1, e178_4, e178_5, e178_8, e178_11, e178_12, e178_15, e178_16, e178_17, e178_20, e178_21, e178_24, e178_27, e178_28, e178_31, e178_33, e178_34, e178_35, e178_38, e178_39, e178_42, e178_45, e178_46, e178_49, e178_52, e178_54, lk, lset, ldel, lset2, ldel2, cat2, gI_int, gA_ref, gA_null, gV_some, gC_some, gL_long, Option.toList, List.cons_append, List.nil_append, List.length_cons, List.length_nil, Nat.reduceEqDiff, Nat.reduceAdd, Nat.reduceSub, Nat.reduceLeDiff, Nat.reduceLT, nb0, nb1, reduceIte, reduceCtorEq, and_false, and_true, false_and, true_and, if_true, if_false, Bool.false_eq_true, eq_self, not_true_eq_false, not_false_eq_true, ite_not, Classical.not_not, true_or, false_or, or_true, or_false, or_self, and_self, not_or, mput_self, bI_0, lk_same, lk_same2, lk_k1, lk_k1r, lk_ldN, ne_eq, g309_0 hz, g309_1 hz, g309_2 hz, g309_3 hz, g309_4 hz, g309_5 hz, g309_6 hz, g309_7 hz, g309_8 hz, g309_9 hz, g309_10 hz, g309_11 hz, g309_12 hz, g309_13 hz, g309_14 hz, g309_15 hz, g309_16 hz, g309_17 hz, p309_5 hz, p309_6 hz, p309_7 hz, p309_9 hz, p309_10 hz, p309_11 hz, p309_12 hz, p309_13 hz, p309_14 hz, p309_15 hz, p309_16 hz, k309 hz, c1, x1, c2, n10, c3, v1, v5]
    · rw [mok_is]
      by_cases hy : y = z.1 + 310
      · subst hy; rw [mput_same]
      · rw [mput_ne hy, v2.1 y a hy e]
    · rw [mok_is, mput_ne q4]
      by_cases h : j = 6
      · subst h; rw [v3, w7, fset_ne (by decide), y6]
      · rw [v2.2 j h (by omega)]
end MPL
