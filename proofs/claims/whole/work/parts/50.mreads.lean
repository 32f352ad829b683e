/-! the model reads an order -/
abbrev many (o : Int32) (a : Nat) : Prop := (o = 112 ∧ 2 ≤ a) ∨ (o = 111 ∧ a = 3) ∨ (o = 108 ∧ a = 4) ∨ ((o = 102 ∨ o = 100) ∧ a = 1)
/-- what is left of an order behind a numbers; f may still come -/
def restN (g : Nat → Int32) : Nat → Nat → Nat → (Nat → Int32) → Option (Nat × Nat × (Nat → Int32))
  | 0, e, a, T => if g e = 59 then some (e + 1, a, T) else none
  | f + 1, e, a, T => if g e = 44 then (if dig (g (e + 1)) then restN g f (numE g (e + 1)) (a + 1) (fset T a (numV g (e + 1))) else none) else if g e = 59 then some (e + 1, a, T) else none
def parN (g : Nat → Int32) (s : Nat) (T : Nat → Int32) : Option (Nat × Nat × (Nat → Int32)) := if dig (g (s + 1)) then restN g 3 (numE g (s + 1)) 1 (fset T 0 (numV g (s + 1))) else none
def okR (o : Int32) : Option (Nat × Nat × (Nat → Int32)) → Bool
  | none => false
  | some r => decide (many o r.2.1)
def mLet (g : Nat → Int32) (s : Nat) : Int32 := if 33 ≤ g s ∧ g s ≤ 126 then g s else 0
/-- where reading has written: places 10, 15, 16 of the model, the numbers told -/
def txf (z : Zt) (M M' : Nat → Nat → Int32) : Prop := (∀ x, x ≠ z.1 + 309 → x ≠ z.1 + 316 → M' x = M x) ∧ ∀ j, j ≠ 10 → j ≠ 15 → j ≠ 16 → M' (z.1 + 309) j = M (z.1 + 309) j
theorem txf.rf {z : Zt} {M : Nat → Nat → Int32} : txf z M M := ⟨fun _ _ _ => rfl, fun _ _ _ _ => rfl⟩
theorem txf.tr {z : Zt} {M M' M2 : Nat → Nat → Int32} (h : txf z M M') (h2 : txf z M' M2) : txf z M M2 := ⟨fun x a b => (h2.1 x a b).trans (h.1 x a b), fun j a b c => (h2.2 j a b c).trans (h.2 j a b c)⟩
theorem txf.p309 {z : Zt} {M : Nat → Nat → Int32} {E : Nat → Int32} (h : ∀ j, j ≠ 10 → j ≠ 15 → j ≠ 16 → E j = M (z.1 + 309) j) : txf z M (mput M (z.1 + 309) E) := ⟨fun x a _ => mput_ne a, fun j a b c => by rw [mput_same]; exact h j a b c⟩
theorem txf.p316 {z : Zt} {M : Nat → Nat → Int32} {E : Nat → Int32} : txf z M (mput M (z.1 + 316) E) := ⟨fun x _ b => mput_ne b, fun j _ _ _ => by rw [mput_ne (by omega)]⟩
section MRD
variable {z : Zt} {d : Nat} {p : Nat → Nat} {k : Nat}
theorem m_mareMany {M : Nat → Nat → Int32} (hz : zok z) {a : Nat} (ha : M (z.1 + 309) 16 = nI a) (ha4 : a ≤ 4) : run (d + 1) 173 [.ref (z.1 + 309)] (wld z M p) = some (some (.int (bI (many (M (z.1 + 309) 15) a))), wld z M p) := by
  rw [r173]
  generalize ho : M (z.1 + 309) 15 = o
  rcases (show a = 0 ∨ a = 1 ∨ a = 2 ∨ a = 3 ∨ a = 4 by omega) with rfl | rfl | rfl | rfl | rfl
  · rw [l0] at ha
    simp only [e173_0, e173_1, e173_4, e173_72, e173_73, e173_76, e173_77, e173_80, e173_81, e173_84, e173_85, e173_86, e173_87, e173_90, e173_91, e173_94, e173_95, e173_98, e173_99, e173_100, e173_101, e173_104, e173_105, e173_108, e173_109, e173_112, e173_113, e173_114, e173_115, e173_118, e173_119, e173_122, e173_123, e173_126, e173_127, e173_128, e173_129, lk, lset, ldel, lset2, ldel2, cat2, gI_int, gA_ref, gA_null, gV_some, gC_some, gL_long, Option.toList, List.cons_append, List.nil_append, List.length_cons, List.length_nil, Nat.reduceEqDiff, Nat.reduceAdd, Nat.reduceSub, Nat.reduceLeDiff, Nat.reduceLT, nb0, nb1, reduceIte, reduceCtorEq, and_false, and_true, false_and, true_and, if_true, if_false, Bool.false_eq_true, eq_self, not_true_eq_false, not_false_eq_true, g309_0 hz, g309_1 hz, g309_2 hz, g309_3 hz, g309_4 hz, g309_5 hz, g309_6 hz, g309_7 hz, g309_8 hz, g309_9 hz, g309_10 hz, g309_11 hz, g309_12 hz, g309_13 hz, g309_14 hz, g309_15 hz, g309_16 hz, g309_17 hz, p309_5 hz, p309_6 hz, p309_7 hz, p309_9 hz, p309_10 hz, p309_11 hz, p309_12 hz, p309_13 hz, p309_14 hz, p309_15 hz, p309_16 hz, k309 hz, ho, ha]
    unfold bI many
    grind (splits := 40)
  · rw [l1] at ha
    simp only [e173_0, e173_1, e173_4, e173_72, e173_73, e173_76, e173_77, e173_80, e173_81, e173_84, e173_85, e173_86, e173_87, e173_90, e173_91, e173_94, e173_95, e173_98, e173_99, e173_100, e173_101, e173_104, e173_105, e173_108, e173_109, e173_112, e173_113, e173_114, e173_115, e173_118, e173_119, e173_122, e173_123, e173_126, e173_127, e173_128, e173_129, lk, lset, ldel, lset2, ldel2, cat2, gI_int, gA_ref, gA_null, gV_some, gC_some, gL_long, Option.toList, List.cons_append, List.nil_append, List.length_cons, List.length_nil, Nat.reduceEqDiff, Nat.reduceAdd, Nat.reduceSub, Nat.reduceLeDiff, Nat.reduceLT, nb0, nb1, reduceIte, reduceCtorEq, and_false, and_true, false_and, true_and, if_true, if_false, Bool.false_eq_true, eq_self, not_true_eq_false, not_false_eq_true, g309_0 hz, g309_1 hz, g309_2 hz, g309_3 hz, g309_4 hz, g309_5 hz, g309_6 hz, g309_7 hz, g309_8 hz, g309_9 hz, g309_10 hz, g309_11 hz, g309_12 hz, g309_13 hz, g309_14 hz, g309_15 hz, g309_16 hz, g309_17 hz, p309_5 hz, p309_6 hz, p309_7 hz, p309_9 hz, p309_10 hz, p309_11 hz, p309_12 hz, p309_13 hz, p309_14 hz, p309_15 hz, p309_16 hz, k309 hz, ho, ha]
    unfold bI many
    grind (splits := 40)
  · rw [l2] at ha
    simp only [e173_0, e173_1, e173_4, e173_72, e173_73, e173_76, e173_77, e173_80, e173_81, e173_84, e173_85, e173_86, e173_87, e173_90, e173_91, e173_94, e173_95, e173_98, e173_99, e173_100, e173_101, e173_104, e173_105, e173_108, e173_109, e173_112, e173_113, e173_114, e173_115, e173_118, e173_119, e173_122, e173_123, e173_126, e173_127, e173_128, e173_129, lk, lset, ldel, lset2, ldel2, cat2, gI_int, gA_ref, gA_null, gV_some, gC_some, gL_long, Option.toList, List.cons_append, List.nil_append, List.length_cons, List.length_nil, Nat.reduceEqDiff, Nat.reduceAdd, Nat.reduceSub, Nat.reduceLeDiff, Nat.reduceLT, nb0, nb1, reduceIte, reduceCtorEq, and_false, and_true, false_and, true_and, if_true, if_false, Bool.false_eq_true, eq_self, not_true_eq_false, not_false_eq_true, g309_0 hz, g309_1 hz, g309_2 hz, g309_3 hz, g309_4 hz, g309_5 hz, g309_6 hz, g309_7 hz, g309_8 hz, g309_9 hz, g309_10 hz, g309_11 hz, g309_12 hz, g309_13 hz, g309_14 hz, g309_15 hz, g309_16 hz, g309_17 hz, p309_5 hz, p309_6 hz, p309_7 hz, p309_9 hz, p309_10 hz, p309_11 hz, p309_12 hz, p309_13 hz, p309_14 hz, p309_15 hz, p309_16 hz, k309 hz, ho, ha]
    unfold bI many
    grind (splits := 40)
  · rw [l3] at ha
    simp only [e173_0, e173_1, e173_4, e173_72, e173_73, e173_76, e173_77, e173_80, e173_81, e173_84, e173_85, e173_86, e173_87, e173_90, e173_91, e173_94, e173_95, e173_98, e173_99, e173_100, e173_101, e173_104, e173_105, e173_108, e173_109, e173_112, e173_113, e173_114, e173_115, e173_118, e173_119, e173_122, e173_123, e173_126, e173_127, e173_128, e173_129, lk, lset, ldel, lset2, ldel2, cat2, gI_int, gA_ref, gA_null, gV_some, gC_some, gL_long, Option.toList, List.cons_append, List.nil_append, List.length_cons, List.length_nil, Nat.reduceEqDiff, Nat.reduceAdd, Nat.reduceSub, Nat.reduceLeDiff, Nat.reduceLT, nb0, nb1, reduceIte, reduceCtorEq, and_false, and_true, false_and, true_and, if_true, if_false, Bool.false_eq_true, eq_self, not_true_eq_false, not_false_eq_true, g309_0 hz, g309_1 hz, g309_2 hz, g309_3 hz, g309_4 hz, g309_5 hz, g309_6 hz, g309_7 hz, g309_8 hz, g309_9 hz, g309_10 hz, g309_11 hz, g309_12 hz, g309_13 hz, g309_14 hz, g309_15 hz, g309_16 hz, g309_17 hz, p309_5 hz, p309_6 hz, p309_7 hz, p309_9 hz, p309_10 hz, p309_11 hz, p309_12 hz, p309_13 hz, p309_14 hz, p309_15 hz, p309_16 hz, k309 hz, ho, ha]
    unfold bI many
    grind (splits := 40)
  · rw [l4] at ha
    simp only [e173_0, e173_1, e173_4, e173_72, e173_73, e173_76, e173_77, e173_80, e173_81, e173_84, e173_85, e173_86, e173_87, e173_90, e173_91, e173_94, e173_95, e173_98, e173_99, e173_100, e173_101, e173_104, e173_105, e173_108, e173_109, e173_112, e173_113, e173_114, e173_115, e173_118, e173_119, e173_122, e173_123, e173_126, e173_127, e173_128, e173_129, lk, lset, ldel, lset2, ldel2, cat2, gI_int, gA_ref, gA_null, gV_some, gC_some, gL_long, Option.toList, List.cons_append, List.nil_append, List.length_cons, List.length_nil, Nat.reduceEqDiff, Nat.reduceAdd, Nat.reduceSub, Nat.reduceLeDiff, Nat.reduceLT, nb0, nb1, reduceIte, reduceCtorEq, and_false, and_true, false_and, true_and, if_true, if_false, Bool.false_eq_true, eq_self, not_true_eq_false, not_false_eq_true, g309_0 hz, g309_1 hz, g309_2 hz, g309_3 hz, g309_4 hz, g309_5 hz, g309_6 hz, g309_7 hz, g309_8 hz, g309_9 hz, g309_10 hz, g309_11 hz, g309_12 hz, g309_13 hz, g309_14 hz, g309_15 hz, g309_16 hz, g309_17 hz, p309_5 hz, p309_6 hz, p309_7 hz, p309_9 hz, p309_10 hz, p309_11 hz, p309_12 hz, p309_13 hz, p309_14 hz, p309_15 hz, p309_16 hz, k309 hz, ho, ha]
    unfold bI many
    grind (splits := 40)
theorem l_mreads (hz : zok z) (hk : k ≤ 60) {o : Int32} : ∀ (f e a : Nat) (M : Nat → Nat → Int32), a + f = 4 → 1 ≤ a → e ≤ k → M (z.1 + 309) 10 = nI e → M (z.1 + 309) 16 = nI a → M (z.1 + 309) 9 = nI k → M (z.1 + 309) 15 = o → ∃ M', X (d + 4) 174 48 [(0, .ref (z.1 + 309)), (1, .int 1)] [] (wld z M p) = some (some (.int (if okR o (restN (sg k (M (z.1 + 315))) f e a (M (z.1 + 316))) = true then 1 else 0)), wld z M' p) ∧ txf z M M' ∧ M' (z.1 + 309) 15 = o ∧ ∀ e' a' T', restN (sg k (M (z.1 + 315))) f e a (M (z.1 + 316)) = some (e', a', T') → many o a' → M' (z.1 + 309) 10 = nI e' ∧ M' (z.1 + 309) 16 = nI a' ∧ M' (z.1 + 316) = T' := by
  intro f
  have n10 : ¬ (1 : Int32) = 0 := by decide
  have q1 : z.1 + 315 ≠ z.1 + 309 := by omega
  have q2 : z.1 + 316 ≠ z.1 + 309 := by omega
  have q3 : z.1 + 315 ≠ z.1 + 316 := by omega
  have q4 : z.1 + 309 ≠ z.1 + 316 := by omega
  have p9 : (9 : Nat) ≠ 10 := by decide
  have p15 : (15 : Nat) ≠ 10 := by decide
  have p16 : (16 : Nat) ≠ 10 := by decide
  -- no comma: the order ends here
  have hend : ∀ (e a : Nat) (M : Nat → Nat → Int32), a ≤ 4 → e ≤ k → M (z.1 + 309) 10 = nI e → M (z.1 + 309) 16 = nI a → M (z.1 + 309) 9 = nI k → M (z.1 + 309) 15 = o → ¬ sg k (M (z.1 + 315)) e = 44 → ∃ M', X (d + 4) 174 48 [(0, .ref (z.1 + 309)), (1, .int 1)] [] (wld z M p) = some (some (.int (if okR o (if sg k (M (z.1 + 315)) e = 59 then some (e + 1, a, M (z.1 + 316)) else none) = true then 1 else 0)), wld z M' p) ∧ txf z M M' ∧ M' (z.1 + 309) 15 = o ∧ ∀ e' a' T', (if sg k (M (z.1 + 315)) e = 59 then some (e + 1, a, M (z.1 + 316)) else none) = some (e', a', T') → many o a' → M' (z.1 + 309) 10 = nI e' ∧ M' (z.1 + 309) 16 = nI a' ∧ M' (z.1 + 316) = T' := by
    intro e a M ha he h10 h16 h9 h15 hc
    have i1 := m_msign (d := d + 1) (p := p) hz h10 h9 (by omega) hk (c := 44) (by decide)
    rw [if_neg hc, fset_self h10, mput_self, show bI (sg k (M (z.1 + 315)) e = 44) = 0 from if_neg hc] at i1
    have i2 := m_msign (d := d + 1) (p := p) hz h10 h9 (by omega) hk (c := 59) (by decide)
    have i3 := m_mareMany (d := d + 3) (p := p) hz h16 ha
    rw [h15] at i3
    by_cases hm : many o a
    · rw [show bI (many o a) = 1 from if_pos hm] at i3
      by_cases h59 : sg k (M (z.1 + 315)) e = 59
      · rw [if_pos h59, show bI (sg k (M (z.1 + 315)) e = 59) = 1 from if_pos h59] at i2
        refine ⟨mput M (z.1 + 309) (fset (M (z.1 + 309)) 10 (nI (e + 1))), ?_, txf.p309 (fun j a _ _ => fset_ne a), by rw [mput_same, fset_ne p15]; exact h15, fun e' a' T' hr _ => ?_⟩
        · rw [if_pos h59]
          have hok : okR o (some (e + 1, a, M (z.1 + 316))) = true := decide_eq_true hm
          rw [if_pos hok]
          simp only [e174_48, e174_49, e174_52, e174_53, e174_55, e174_58, e174_61, e174_62, e174_65, e174_66, e174_69, e174_70, e174_73, e174_74, e174_77, e174_80, e174_81, e174_83, e174_86, e174_89, e174_90, e174_93, e174_94, lk, lset, ldel, lset2, ldel2, cat2, gI_int, gA_ref, gA_null, gV_some, gC_some, gL_long, Option.toList, List.cons_append, List.nil_append, List.length_cons, List.length_nil, Nat.reduceEqDiff, Nat.reduceAdd, Nat.reduceSub, Nat.reduceLeDiff, Nat.reduceLT, nb0, nb1, reduceIte, reduceCtorEq, and_false, and_true, false_and, true_and, if_true, if_false, Bool.false_eq_true, eq_self, not_true_eq_false, not_false_eq_true, ite_not, Classical.not_not, true_or, false_or, or_true, or_false, or_self, and_self, not_or, mput_self, bI_0, g309_0 hz, g309_1 hz, g309_2 hz, g309_3 hz, g309_4 hz, g309_5 hz, g309_6 hz, g309_7 hz, g309_8 hz, g309_9 hz, g309_10 hz, g309_11 hz, g309_12 hz, g309_13 hz, g309_14 hz, g309_15 hz, g309_16 hz, g309_17 hz, p309_5 hz, p309_6 hz, p309_7 hz, p309_9 hz, p309_10 hz, p309_11 hz, p309_12 hz, p309_13 hz, p309_14 hz, p309_15 hz, p309_16 hz, k309 hz, i1, i2, i3, n10]
        · rw [if_pos h59] at hr
          injection hr with hr
          injection hr with r1 r2
          injection r2 with r2 r3
          subst r1; subst r2; subst r3
          exact ⟨by rw [mput_same, fset_same], by rw [mput_same, fset_ne p16]; exact h16, by rw [mput_ne q2]⟩
      · rw [if_neg h59, fset_self h10, mput_self, show bI (sg k (M (z.1 + 315)) e = 59) = 0 from if_neg h59] at i2
        refine ⟨M, ?_, txf.rf, h15, fun e' a' T' hr _ => ?_⟩
        · rw [if_neg h59, if_neg (show ¬ okR o none = true from Bool.false_ne_true)]
          simp only [e174_48, e174_49, e174_52, e174_53, e174_55, e174_58, e174_61, e174_62, e174_65, e174_66, e174_69, e174_70, e174_73, e174_74, e174_77, e174_80, e174_81, e174_83, e174_86, e174_89, e174_90, e174_93, e174_94, lk, lset, ldel, lset2, ldel2, cat2, gI_int, gA_ref, gA_null, gV_some, gC_some, gL_long, Option.toList, List.cons_append, List.nil_append, List.length_cons, List.length_nil, Nat.reduceEqDiff, Nat.reduceAdd, Nat.reduceSub, Nat.reduceLeDiff, Nat.reduceLT, nb0, nb1, reduceIte, reduceCtorEq, and_false, and_true, false_and, true_and, if_true, if_false, Bool.false_eq_true, eq_self, not_true_eq_false, not_false_eq_true, ite_not, Classical.not_not, true_or, false_or, or_true, or_false, or_self, and_self, not_or, mput_self, bI_0, g309_0 hz, g309_1 hz, g309_2 hz, g309_3 hz, g309_4 hz, g309_5 hz, g309_6 hz, g309_7 hz, g309_8 hz, g309_9 hz, g309_10 hz, g309_11 hz, g309_12 hz, g309_13 hz, g309_14 hz, g309_15 hz, g309_16 hz, g309_17 hz, p309_5 hz, p309_6 hz, p309_7 hz, p309_9 hz, p309_10 hz, p309_11 hz, p309_12 hz, p309_13 hz, p309_14 hz, p309_15 hz, p309_16 hz, k309 hz, i1, i2, i3, n10]
        · rw [if_neg h59] at hr; cases hr
    · rw [show bI (many o a) = 0 from if_neg hm] at i3
      refine ⟨M, ?_, txf.rf, h15, fun e' a' T' hr hm' => ?_⟩
      · have hno : ¬ okR o (if sg k (M (z.1 + 315)) e = 59 then some (e + 1, a, M (z.1 + 316)) else none) = true := by
          by_cases h59 : sg k (M (z.1 + 315)) e = 59
          · rw [if_pos h59]
            exact fun q => hm (of_decide_eq_true q)
          · rw [if_neg h59]; exact Bool.false_ne_true
        rw [if_neg hno]
        simp only [e174_48, e174_49, e174_52, e174_53, e174_55, e174_58, e174_61, e174_62, e174_65, e174_66, e174_69, e174_70, e174_73, e174_74, e174_77, e174_80, e174_81, e174_83, e174_86, e174_89, e174_90, e174_93, e174_94, lk, lset, ldel, lset2, ldel2, cat2, gI_int, gA_ref, gA_null, gV_some, gC_some, gL_long, Option.toList, List.cons_append, List.nil_append, List.length_cons, List.length_nil, Nat.reduceEqDiff, Nat.reduceAdd, Nat.reduceSub, Nat.reduceLeDiff, Nat.reduceLT, nb0, nb1, reduceIte, reduceCtorEq, and_false, and_true, false_and, true_and, if_true, if_false, Bool.false_eq_true, eq_self, not_true_eq_false, not_false_eq_true, ite_not, Classical.not_not, true_or, false_or, or_true, or_false, or_self, and_self, not_or, mput_self, bI_0, g309_0 hz, g309_1 hz, g309_2 hz, g309_3 hz, g309_4 hz, g309_5 hz, g309_6 hz, g309_7 hz, g309_8 hz, g309_9 hz, g309_10 hz, g309_11 hz, g309_12 hz, g309_13 hz, g309_14 hz, g309_15 hz, g309_16 hz, g309_17 hz, p309_5 hz, p309_6 hz, p309_7 hz, p309_9 hz, p309_10 hz, p309_11 hz, p309_12 hz, p309_13 hz, p309_14 hz, p309_15 hz, p309_16 hz, k309 hz, i1, i3, n10]
      · by_cases h59 : sg k (M (z.1 + 315)) e = 59
        · rw [if_pos h59] at hr
          injection hr with hr
          injection hr with r1 r2
          injection r2 with r2 r3
          subst r2
          exact absurd hm' hm
        · rw [if_neg h59] at hr; cases hr
  induction f with
  | zero =>
    intro e a M haf ha1 he h10 h16 h9 h15
    by_cases hc : sg k (M (z.1 + 315)) e = 44
    · -- a comma behind the fourth number
      have n59 : ¬ sg k (M (z.1 + 315)) e = 59 := by rw [hc]; decide
      obtain rfl : a = 4 := by omega
      have hrN : restN (sg k (M (z.1 + 315))) 0 e 4 (M (z.1 + 316)) = none := by unfold restN; exact if_neg n59
      rw [hrN]
      have i1 := m_msign (d := d + 1) (p := p) hz h10 h9 (by omega) hk (c := 44) (by decide)
      rw [if_pos hc, show bI (sg k (M (z.1 + 315)) e = 44) = 1 from if_pos hc] at i1
      have hb : e < k := by
        rcases Nat.lt_or_ge e k with q | q
        · exact q
        · unfold sg at hc; rw [if_neg (by omega)] at hc; exact absurd hc (by decide)
      by_cases hd : dig (sg k (M (z.1 + 315)) (e + 1))
      · have i2 := m_numYes (d := d + 1) (M := mput M (z.1 + 309) (fset (M (z.1 + 309)) 10 (nI (e + 1)))) (p := p) hz (e := e + 1) (k := k) (a := 4) (by rw [mput_same, fset_same]) (by rw [mput_same, fset_ne p9]; exact h9) (by omega) hk (by rw [mput_same, fset_ne p16]; exact h16) (by omega) (by rw [mput_ne q1]; exact hd)
        rw [if_pos rfl, if_pos rfl] at i2
        obtain ⟨M2, i3, t2, o2⟩ : ∃ M2, run (d + 1 + 3) 172 [.ref (z.1 + 309)] (wld z (mput M (z.1 + 309) (fset (M (z.1 + 309)) 10 (nI (e + 1)))) p) = some (some (.int 0), wld z M2 p) ∧ txf z M M2 ∧ M2 (z.1 + 309) 15 = o := ⟨_, i2, (txf.p309 (fun j a _ _ => fset_ne a)).tr (txf.p309 (fun j a _ _ => fset_ne a)), by rw [mput_same, fset_ne p15, mput_same, fset_ne p15]; exact h15⟩
        refine ⟨M2, ?_, t2, o2, fun e' a' T' hr _ => ?_⟩
        · rw [if_neg (show ¬ okR o none = true from Bool.false_ne_true)]
          simp only [e174_48, e174_49, e174_52, e174_53, e174_55, e174_58, e174_61, e174_62, e174_65, e174_66, e174_69, e174_70, e174_73, e174_74, e174_77, e174_80, e174_81, e174_83, e174_86, e174_89, e174_90, e174_93, e174_94, lk, lset, ldel, lset2, ldel2, cat2, gI_int, gA_ref, gA_null, gV_some, gC_some, gL_long, Option.toList, List.cons_append, List.nil_append, List.length_cons, List.length_nil, Nat.reduceEqDiff, Nat.reduceAdd, Nat.reduceSub, Nat.reduceLeDiff, Nat.reduceLT, nb0, nb1, reduceIte, reduceCtorEq, and_false, and_true, false_and, true_and, if_true, if_false, Bool.false_eq_true, eq_self, not_true_eq_false, not_false_eq_true, ite_not, Classical.not_not, true_or, false_or, or_true, or_false, or_self, and_self, not_or, mput_self, bI_0, g309_0 hz, g309_1 hz, g309_2 hz, g309_3 hz, g309_4 hz, g309_5 hz, g309_6 hz, g309_7 hz, g309_8 hz, g309_9 hz, g309_10 hz, g309_11 hz, g309_12 hz, g309_13 hz, g309_14 hz, g309_15 hz, g309_16 hz, g309_17 hz, p309_5 hz, p309_6 hz, p309_7 hz, p309_9 hz, p309_10 hz, p309_11 hz, p309_12 hz, p309_13 hz, p309_14 hz, p309_15 hz, p309_16 hz, k309 hz, i1, i3, n10]
        · cases hr
      · have i2 := m_numNo (d := d + 1) (M := mput M (z.1 + 309) (fset (M (z.1 + 309)) 10 (nI (e + 1)))) (p := p) hz (e := e + 1) (k := k) (by rw [mput_same, fset_same]) (by rw [mput_same, fset_ne p9]; exact h9) (by omega) hk (by rw [mput_ne q1]; exact hd)
        refine ⟨mput M (z.1 + 309) (fset (M (z.1 + 309)) 10 (nI (e + 1))), ?_, txf.p309 (fun j a _ _ => fset_ne a), ?_, fun e' a' T' hr _ => ?_⟩
        rotate_left
        · rw [mput_same, fset_ne p15]; exact h15
        · cases hr
        · rw [if_neg (show ¬ okR o none = true from Bool.false_ne_true)]
          simp only [e174_48, e174_49, e174_52, e174_53, e174_55, e174_58, e174_61, e174_62, e174_65, e174_66, e174_69, e174_70, e174_73, e174_74, e174_77, e174_80, e174_81, e174_83, e174_86, e174_89, e174_90, e174_93, e174_94, lk, lset, ldel, lset2, ldel2, cat2, gI_int, gA_ref, gA_null, gV_some, gC_some, gL_long, Option.toList, List.cons_append, List.nil_append, List.length_cons, List.length_nil, Nat.reduceEqDiff, Nat.reduceAdd, Nat.reduceSub, Nat.reduceLeDiff, Nat.reduceLT, nb0, nb1, reduceIte, reduceCtorEq, and_false, and_true, false_and, true_and, if_true, if_false, Bool.false_eq_true, eq_self, not_true_eq_false, not_false_eq_true, ite_not, Classical.not_not, true_or, false_or, or_true, or_false, or_self, and_self, not_or, mput_self, bI_0, g309_0 hz, g309_1 hz, g309_2 hz, g309_3 hz, g309_4 hz, g309_5 hz, g309_6 hz, g309_7 hz, g309_8 hz, g309_9 hz, g309_10 hz, g309_11 hz, g309_12 hz, g309_13 hz, g309_14 hz, g309_15 hz, g309_16 hz, g309_17 hz, p309_5 hz, p309_6 hz, p309_7 hz, p309_9 hz, p309_10 hz, p309_11 hz, p309_12 hz, p309_13 hz, p309_14 hz, p309_15 hz, p309_16 hz, k309 hz, i1, i2, n10]
    · simp only [restN]
      exact hend e a M (by omega) he h10 h16 h9 h15 hc
  | succ f ih =>
    intro e a M haf ha1 he h10 h16 h9 h15
    simp only [restN]
    by_cases hc : sg k (M (z.1 + 315)) e = 44
    · simp only [if_pos hc]
      have i1 := m_msign (d := d + 1) (p := p) hz h10 h9 (by omega) hk (c := 44) (by decide)
      rw [if_pos hc, show bI (sg k (M (z.1 + 315)) e = 44) = 1 from if_pos hc] at i1
      have hb : e < k := by
        rcases Nat.lt_or_ge e k with q | q
        · exact q
        · unfold sg at hc; rw [if_neg (by omega)] at hc; exact absurd hc (by decide)
      by_cases hd : dig (sg k (M (z.1 + 315)) (e + 1))
      · simp only [if_pos hd]
        have i2 := m_numYes (d := d + 1) (M := mput M (z.1 + 309) (fset (M (z.1 + 309)) 10 (nI (e + 1)))) (p := p) hz (e := e + 1) (k := k) (a := a) (by rw [mput_same, fset_same]) (by rw [mput_same, fset_ne p9]; exact h9) (by omega) hk (by rw [mput_same, fset_ne p16]; exact h16) (by omega) (by rw [mput_ne q1]; exact hd)
        rw [if_neg (show ¬ a = 4 by omega), if_neg (show ¬ a = 4 by omega), mput_ne q1, mput_ne q2, mput_same] at i2
        have hl := numE_le (T := M (z.1 + 315)) (dig_lt hd)
        obtain ⟨M', x1, x2, x3, x4⟩ := ih (numE (sg k (M (z.1 + 315))) (e + 1)) (a + 1) (mput (mput (mput M (z.1 + 309) (fset (M (z.1 + 309)) 10 (nI (e + 1)))) (z.1 + 316) (fset (M (z.1 + 316)) a (numV (sg k (M (z.1 + 315))) (e + 1)))) (z.1 + 309) (fset (fset (fset (M (z.1 + 309)) 10 (nI (e + 1))) 10 (nI (numE (sg k (M (z.1 + 315))) (e + 1)))) 16 (nI (a + 1)))) (by omega) (by omega) hl.1 (by rw [mput_same, fset_ne (Ne.symm p16), fset_same]) (by rw [mput_same, fset_same]) (by rw [mput_same, fset_ne (by omega), fset_ne p9, fset_ne p9]; exact h9) (by rw [mput_same, fset_ne (by omega), fset_ne p15, fset_ne p15]; exact h15)
        rw [mput_ne q1, mput_ne q3, mput_ne q1, mput_ne q2, mput_same] at x1 x4
        refine ⟨M', ?_, ?_, x3, x4⟩
        · rw [e174_48]
          simp only [e174_49, e174_52, e174_53, e174_55, e174_58, e174_61, e174_62, e174_65, e174_66, lk, lset, ldel, lset2, ldel2, cat2, gI_int, gA_ref, gA_null, gV_some, gC_some, gL_long, Option.toList, List.cons_append, List.nil_append, List.length_cons, List.length_nil, Nat.reduceEqDiff, Nat.reduceAdd, Nat.reduceSub, Nat.reduceLeDiff, Nat.reduceLT, nb0, nb1, reduceIte, reduceCtorEq, and_false, and_true, false_and, true_and, if_true, if_false, Bool.false_eq_true, eq_self, not_true_eq_false, not_false_eq_true, ite_not, Classical.not_not, true_or, false_or, or_true, or_false, or_self, and_self, not_or, mput_self, bI_0, g309_0 hz, g309_1 hz, g309_2 hz, g309_3 hz, g309_4 hz, g309_5 hz, g309_6 hz, g309_7 hz, g309_8 hz, g309_9 hz, g309_10 hz, g309_11 hz, g309_12 hz, g309_13 hz, g309_14 hz, g309_15 hz, g309_16 hz, g309_17 hz, p309_5 hz, p309_6 hz, p309_7 hz, p309_9 hz, p309_10 hz, p309_11 hz, p309_12 hz, p309_13 hz, p309_14 hz, p309_15 hz, p309_16 hz, k309 hz, i1, i2, n10]
          exact x1
        · exact (((txf.p309 (fun j a _ _ => fset_ne a)).tr txf.p316).tr (txf.p309 (fun j a b c => by rw [fset_ne c, fset_ne a, mput_ne q4, mput_same]))).tr x2
      · simp only [if_neg hd]
        have i2 := m_numNo (d := d + 1) (M := mput M (z.1 + 309) (fset (M (z.1 + 309)) 10 (nI (e + 1)))) (p := p) hz (e := e + 1) (k := k) (by rw [mput_same, fset_same]) (by rw [mput_same, fset_ne p9]; exact h9) (by omega) hk (by rw [mput_ne q1]; exact hd)
        refine ⟨mput M (z.1 + 309) (fset (M (z.1 + 309)) 10 (nI (e + 1))), ?_, txf.p309 (fun j a _ _ => fset_ne a), ?_, fun e' a' T' hr _ => ?_⟩
        rotate_left
        · rw [mput_same, fset_ne p15]; exact h15
        · cases hr
        · rw [if_neg (show ¬ okR o none = true from Bool.false_ne_true)]
          simp only [e174_48, e174_49, e174_52, e174_53, e174_55, e174_58, e174_61, e174_62, e174_65, e174_66, e174_69, e174_70, e174_73, e174_74, e174_77, e174_80, e174_81, e174_83, e174_86, e174_89, e174_90, e174_93, e174_94, lk, lset, ldel, lset2, ldel2, cat2, gI_int, gA_ref, gA_null, gV_some, gC_some, gL_long, Option.toList, List.cons_append, List.nil_append, List.length_cons, List.length_nil, Nat.reduceEqDiff, Nat.reduceAdd, Nat.reduceSub, Nat.reduceLeDiff, Nat.reduceLT, nb0, nb1, reduceIte, reduceCtorEq, and_false, and_true, false_and, true_and, if_true, if_false, Bool.false_eq_true, eq_self, not_true_eq_false, not_false_eq_true, ite_not, Classical.not_not, true_or, false_or, or_true, or_false, or_self, and_self, not_or, mput_self, bI_0, g309_0 hz, g309_1 hz, g309_2 hz, g309_3 hz, g309_4 hz, g309_5 hz, g309_6 hz, g309_7 hz, g309_8 hz, g309_9 hz, g309_10 hz, g309_11 hz, g309_12 hz, g309_13 hz, g309_14 hz, g309_15 hz, g309_16 hz, g309_17 hz, p309_5 hz, p309_6 hz, p309_7 hz, p309_9 hz, p309_10 hz, p309_11 hz, p309_12 hz, p309_13 hz, p309_14 hz, p309_15 hz, p309_16 hz, k309 hz, i1, i2, n10]
    · simp only [if_neg hc]
      exact hend e a M (by omega) he h10 h16 h9 h15 hc
theorem m_mreads {M : Nat → Nat → Int32} (hz : zok z) (hk : k ≤ 60) {s : Nat} (hs : s < k) (h10 : M (z.1 + 309) 10 = nI s) (h9 : M (z.1 + 309) 9 = nI k) : ∃ M', run (d + 5) 174 [.ref (z.1 + 309)] (wld z M p) = some (some (.int (if okR (mLet (sg k (M (z.1 + 315))) s) (parN (sg k (M (z.1 + 315))) s (M (z.1 + 316))) = true then 1 else 0)), wld z M' p) ∧ txf z M M' ∧ M' (z.1 + 309) 15 = mLet (sg k (M (z.1 + 315))) s ∧ ∀ e' a' T', parN (sg k (M (z.1 + 315))) s (M (z.1 + 316)) = some (e', a', T') → many (mLet (sg k (M (z.1 + 315))) s) a' → M' (z.1 + 309) 10 = nI e' ∧ M' (z.1 + 309) 16 = nI a' ∧ M' (z.1 + 316) = T' := by
  have q1 : z.1 + 315 ≠ z.1 + 309 := by omega
  have q2 : z.1 + 316 ≠ z.1 + 309 := by omega
  have q3 : z.1 + 315 ≠ z.1 + 316 := by omega
  have q4 : z.1 + 309 ≠ z.1 + 316 := by omega
  have n10 : ¬ (1 : Int32) = 0 := by decide
  have hg : sg k (M (z.1 + 315)) s = M (z.1 + 315) s := if_pos hs
  have i0 := m_misAt (d := d + 2) (p := p) hz h10 h9 (by omega) hk (lo := 33) (hi := 126) (by decide)
  generalize hE : fset (fset (fset (M (z.1 + 309)) 15 (mLet (sg k (M (z.1 + 315))) s)) 10 (nI (s + 1))) 16 0 = E
  have hE9 : E 9 = nI k := by rw [← hE, fset_ne (by decide), fset_ne (by decide), fset_ne (by decide)]; exact h9
  have hE10 : E 10 = nI (s + 1) := by rw [← hE, fset_ne (by decide), fset_same]
  have hE15 : E 15 = mLet (sg k (M (z.1 + 315))) s := by rw [← hE, fset_ne (by decide), fset_ne (by decide), fset_same]
  have hE16 : E 16 = nI 0 := by rw [← hE, fset_same, l0]
  have tE : txf z M (mput M (z.1 + 309) E) := txf.p309 (fun j a b c => by rw [← hE, fset_ne c, fset_ne a, fset_ne b])
  have start : run (d + 5) 174 [.ref (z.1 + 309)] (wld z M p) = X (d + 4) 174 43 [(0, .ref (z.1 + 309))] [] (wld z (mput M (z.1 + 309) E) p) := by
    rw [r174, ← hE]
    unfold mLet
    by_cases h : 33 ≤ sg k (M (z.1 + 315)) s ∧ sg k (M (z.1 + 315)) s ≤ 126
    · have h' := eq_true h
      rw [if_pos h, hg]
      simp only [e174_0, e174_1, e174_2, e174_4, e174_6, e174_9, e174_12, e174_13, e174_16, e174_17, e174_20, e174_21, e174_24, e174_25, e174_28, e174_29, e174_29a, e174_30, e174_33, e174_34, e174_35, e174_38, e174_39, e174_40, lk, lset, ldel, lset2, ldel2, cat2, gI_int, gA_ref, gA_null, gV_some, gC_some, gL_long, Option.toList, List.cons_append, List.nil_append, List.length_cons, List.length_nil, Nat.reduceEqDiff, Nat.reduceAdd, Nat.reduceSub, Nat.reduceLeDiff, Nat.reduceLT, nb0, nb1, reduceIte, reduceCtorEq, and_false, and_true, false_and, true_and, if_true, if_false, Bool.false_eq_true, eq_self, not_true_eq_false, not_false_eq_true, mput_same, mput_mput, fset_same, ite_not, Classical.not_not, true_or, false_or, or_true, or_false, or_self, and_self, not_or, mput_self, bI_0, g309_0 hz, g309_1 hz, g309_2 hz, g309_3 hz, g309_4 hz, g309_5 hz, g309_6 hz, g309_7 hz, g309_8 hz, g309_9 hz, g309_10 hz, g309_11 hz, g309_12 hz, g309_13 hz, g309_14 hz, g309_15 hz, g309_16 hz, g309_17 hz, p309_5 hz, p309_6 hz, p309_7 hz, p309_9 hz, p309_10 hz, p309_11 hz, p309_12 hz, p309_13 hz, p309_14 hz, p309_15 hz, p309_16 hz, k309 hz, i0, h', h10, a315 hz (show s < 60 by omega), fset_ne (show (10 : Nat) ≠ 15 by decide), nI_1]
    · have h' := eq_false h
      rw [if_neg h]
      simp only [e174_0, e174_1, e174_2, e174_4, e174_6, e174_9, e174_12, e174_13, e174_16, e174_17, e174_20, e174_21, e174_24, e174_25, e174_28, e174_29, e174_29a, e174_30, e174_33, e174_34, e174_35, e174_38, e174_39, e174_40, lk, lset, ldel, lset2, ldel2, cat2, gI_int, gA_ref, gA_null, gV_some, gC_some, gL_long, Option.toList, List.cons_append, List.nil_append, List.length_cons, List.length_nil, Nat.reduceEqDiff, Nat.reduceAdd, Nat.reduceSub, Nat.reduceLeDiff, Nat.reduceLT, nb0, nb1, reduceIte, reduceCtorEq, and_false, and_true, false_and, true_and, if_true, if_false, Bool.false_eq_true, eq_self, not_true_eq_false, not_false_eq_true, mput_same, mput_mput, fset_same, ite_not, Classical.not_not, true_or, false_or, or_true, or_false, or_self, and_self, not_or, mput_self, bI_0, g309_0 hz, g309_1 hz, g309_2 hz, g309_3 hz, g309_4 hz, g309_5 hz, g309_6 hz, g309_7 hz, g309_8 hz, g309_9 hz, g309_10 hz, g309_11 hz, g309_12 hz, g309_13 hz, g309_14 hz, g309_15 hz, g309_16 hz, g309_17 hz, p309_5 hz, p309_6 hz, p309_7 hz, p309_9 hz, p309_10 hz, p309_11 hz, p309_12 hz, p309_13 hz, p309_14 hz, p309_15 hz, p309_16 hz, k309 hz, i0, h', h10, fset_ne (show (10 : Nat) ≠ 15 by decide), nI_1]
  rw [start]
  unfold parN
  by_cases hd : dig (sg k (M (z.1 + 315)) (s + 1))
  · simp only [if_pos hd]
    have i2 := m_numYes (d := d + 1) (M := mput M (z.1 + 309) E) (p := p) hz (e := s + 1) (k := k) (a := 0) (by rw [mput_same]; exact hE10) (by rw [mput_same]; exact hE9) (by omega) hk (by rw [mput_same]; exact hE16) (by omega) (by rw [mput_ne q1]; exact hd)
    rw [if_neg (show ¬ (0 : Nat) = 4 by omega), if_neg (show ¬ (0 : Nat) = 4 by omega), mput_ne q1, mput_ne q2, mput_same] at i2
    have hl := numE_le (T := M (z.1 + 315)) (dig_lt hd)
    obtain ⟨M', x1, x2, x3, x4⟩ := l_mreads (d := d) (p := p) hz hk (o := mLet (sg k (M (z.1 + 315))) s) 3 (numE (sg k (M (z.1 + 315))) (s + 1)) 1 (mput (mput (mput M (z.1 + 309) E) (z.1 + 316) (fset (M (z.1 + 316)) 0 (numV (sg k (M (z.1 + 315))) (s + 1)))) (z.1 + 309) (fset (fset E 10 (nI (numE (sg k (M (z.1 + 315))) (s + 1)))) 16 (nI (0 + 1)))) (by omega) (by omega) hl.1 (by rw [mput_same, fset_ne (by decide), fset_same]) (by rw [mput_same, fset_same]) (by rw [mput_same, fset_ne (by decide), fset_ne (by decide)]; exact hE9) (by rw [mput_same, fset_ne (by decide), fset_ne (by decide)]; exact hE15)
    rw [mput_ne q1, mput_ne q3, mput_ne q1, mput_ne q2, mput_same] at x1 x4
    refine ⟨M', ?_, ?_, x3, x4⟩
    · simp only [e174_43, e174_44, e174_47, lk, lset, ldel, lset2, ldel2, cat2, gI_int, gA_ref, gA_null, gV_some, gC_some, gL_long, Option.toList, List.cons_append, List.nil_append, List.length_cons, List.length_nil, Nat.reduceEqDiff, Nat.reduceAdd, Nat.reduceSub, Nat.reduceLeDiff, Nat.reduceLT, nb0, nb1, reduceIte, reduceCtorEq, and_false, and_true, false_and, true_and, if_true, if_false, Bool.false_eq_true, eq_self, not_true_eq_false, not_false_eq_true, ite_not, Classical.not_not, true_or, false_or, or_true, or_false, or_self, and_self, not_or, mput_self, bI_0, g309_0 hz, g309_1 hz, g309_2 hz, g309_3 hz, g309_4 hz, g309_5 hz, g309_6 hz, g309_7 hz, g309_8 hz, g309_9 hz, g309_10 hz, g309_11 hz, g309_12 hz, g309_13 hz, g309_14 hz, g309_15 hz, g309_16 hz, g309_17 hz, p309_5 hz, p309_6 hz, p309_7 hz, p309_9 hz, p309_10 hz, p309_11 hz, p309_12 hz, p309_13 hz, p309_14 hz, p309_15 hz, p309_16 hz, k309 hz, i2]
      exact x1
    · exact ((tE.tr txf.p316).tr (txf.p309 (fun j a b c => by rw [fset_ne c, fset_ne a, mput_ne q4, mput_same]))).tr x2
  · simp only [if_neg hd]
    have i2 := m_numNo (d := d + 1) (M := mput M (z.1 + 309) E) (p := p) hz (e := s + 1) (k := k) (by rw [mput_same]; exact hE10) (by rw [mput_same]; exact hE9) (by omega) hk (by rw [mput_ne q1]; exact hd)
    refine ⟨mput M (z.1 + 309) E, ?_, tE, by rw [mput_same]; exact hE15, fun e' a' T' hr _ => ?_⟩
    · rw [if_neg (show ¬ okR _ none = true from Bool.false_ne_true)]
      simp only [e174_43, e174_44, e174_47, e174_48, e174_49, e174_52, e174_53, e174_55, e174_58, e174_61, e174_62, e174_65, e174_66, e174_69, e174_70, e174_73, e174_74, e174_77, e174_80, e174_81, e174_83, e174_86, e174_89, e174_90, e174_93, e174_94, lk, lset, ldel, lset2, ldel2, cat2, gI_int, gA_ref, gA_null, gV_some, gC_some, gL_long, Option.toList, List.cons_append, List.nil_append, List.length_cons, List.length_nil, Nat.reduceEqDiff, Nat.reduceAdd, Nat.reduceSub, Nat.reduceLeDiff, Nat.reduceLT, nb0, nb1, reduceIte, reduceCtorEq, and_false, and_true, false_and, true_and, if_true, if_false, Bool.false_eq_true, eq_self, not_true_eq_false, not_false_eq_true, ite_not, Classical.not_not, true_or, false_or, or_true, or_false, or_self, and_self, not_or, mput_self, bI_0, g309_0 hz, g309_1 hz, g309_2 hz, g309_3 hz, g309_4 hz, g309_5 hz, g309_6 hz, g309_7 hz, g309_8 hz, g309_9 hz, g309_10 hz, g309_11 hz, g309_12 hz, g309_13 hz, g309_14 hz, g309_15 hz, g309_16 hz, g309_17 hz, p309_5 hz, p309_6 hz, p309_7 hz, p309_9 hz, p309_10 hz, p309_11 hz, p309_12 hz, p309_13 hz, p309_14 hz, p309_15 hz, p309_16 hz, k309 hz, i2]
    · cases hr
end MRD
