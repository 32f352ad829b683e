/-! the class: an order read and carried out -/
theorem restN_b {k : Nat} {T0 : Nat → Int32} : ∀ (f e a : Nat) (T : Nat → Int32) (e' a' : Nat) (T' : Nat → Int32), restN (sg k T0) f e a T = some (e', a', T') → a' ≤ a + f ∧ a ≤ a' ∧ e < e' ∧ e' ≤ k := by
  intro f
  have end_ : ∀ (e a : Nat) (T : Nat → Int32) (e' a' : Nat) (T' : Nat → Int32), (if sg k T0 e = 59 then some (e + 1, a, T) else none) = some (e', a', T') → a' = a ∧ e' = e + 1 ∧ e < k := by
    intro e a T e' a' T' h
    by_cases c : sg k T0 e = 59
    · rw [if_pos c] at h
      injection h with h
      injection h with r1 r2
      injection r2 with r2 r3
      refine ⟨r2.symm, r1.symm, ?_⟩
      rcases Nat.lt_or_ge e k with q | q
      · exact q
      · unfold sg at c; rw [if_neg (by omega)] at c; exact absurd c (by decide)
    · rw [if_neg c] at h; cases h
  induction f with
  | zero =>
    intro e a T e' a' T' h
    unfold restN at h
    obtain ⟨h1, h2, h3⟩ := end_ _ _ _ _ _ _ h
    omega
  | succ f ih =>
    intro e a T e' a' T' h
    unfold restN at h
    by_cases c : sg k T0 e = 44
    · rw [if_pos c] at h
      by_cases hd : dig (sg k T0 (e + 1))
      · rw [if_pos hd] at h
        have h1 := ih _ _ _ _ _ _ h
        have h2 := numE_le (T := T0) (dig_lt hd)
        omega
      · rw [if_neg hd] at h; cases h
    · rw [if_neg c] at h
      obtain ⟨h1, h2, h3⟩ := end_ _ _ _ _ _ _ h
      omega
theorem parN_b {k : Nat} {T0 : Nat → Int32} {s : Nat} {T : Nat → Int32} {e' a' : Nat} {T' : Nat → Int32} (h : parN (sg k T0) s T = some (e', a', T')) : a' ≤ 4 ∧ 1 ≤ a' ∧ s < e' ∧ e' ≤ k := by
  unfold parN at h
  by_cases hd : dig (sg k T0 (s + 1))
  · rw [if_pos hd] at h
    have h1 := restN_b _ _ _ _ _ _ _ h
    have h2 := numE_le (T := T0) (dig_lt hd)
    omega
  · rw [if_neg hd] at h; cases h
/-- the numbers that were there before play no part -/
theorem restN_ag {g : Nat → Int32} : ∀ (f e a : Nat) (T U : Nat → Int32), (∀ j, j < a → T j = U j) → match restN g f e a T, restN g f e a U with
    | none, none => True
    | some (e1, a1, T1), some (e2, a2, U1) => e1 = e2 ∧ a1 = a2 ∧ ∀ j, j < a1 → T1 j = U1 j
    | _, _ => False := by
  intro f
  induction f with
  | zero =>
    intro e a T U h
    simp only [restN]
    by_cases c : g e = 59
    · simp only [c, if_true, true_and]; exact h
    · simp only [c, if_false]
  | succ f ih =>
    intro e a T U h
    simp only [restN]
    by_cases c : g e = 44
    · by_cases hd : dig (g (e + 1))
      · rw [if_pos c, if_pos hd, if_pos c, if_pos hd]
        refine ih _ _ _ _ fun j hj => ?_
        unfold fset
        by_cases e1 : j = a
        · rw [if_pos e1, if_pos e1]
        · rw [if_neg e1, if_neg e1]; exact h j (by omega)
      · simp only [c, if_neg hd, if_true]
    · simp only [if_neg c]
      by_cases c2 : g e = 59
      · simp only [c2, if_true, true_and]; exact h
      · simp only [c2, if_false]
theorem parN_ag {g : Nat → Int32} {s : Nat} {T U : Nat → Int32} : match parN g s T, parN g s U with
    | none, none => True
    | some (e1, a1, T1), some (e2, a2, U1) => e1 = e2 ∧ a1 = a2 ∧ ∀ j, j < a1 → T1 j = U1 j
    | _, _ => False := by
  unfold parN
  by_cases hd : dig (g (s + 1))
  · rw [if_pos hd, if_pos hd]
    refine restN_ag _ _ _ _ _ fun j hj => ?_
    obtain rfl : j = 0 := by omega
    rw [fset_same, fset_same]
  · simp only [if_neg hd]
section CO
variable {z : Zt} {d : Nat} {p : Nat → Nat} {k : Nat}
theorem m_hasIts {M : Nat → Nat → Int32} (hz : zok z) {a : Nat} (ha : M (z.1 + 307) 2 = nI a) (ha4 : a ≤ 4) : run (d + 1) 12 [.ref (z.1 + 307)] (wld z M p) = some (some (.int (bI (many (M (z.1 + 307) 1) a))), wld z M p) := by
  rw [r12]
  generalize ho : M (z.1 + 307) 1 = o
  rcases (show a = 0 ∨ a = 1 ∨ a = 2 ∨ a = 3 ∨ a = 4 by omega) with rfl | rfl | rfl | rfl | rfl
  · rw [l0] at ha
    simp only [e12_0, e12_1, e12_4, e12_72, e12_73, e12_76, e12_77, e12_80, e12_81, e12_84, e12_85, e12_86, e12_87, e12_90, e12_91, e12_94, e12_95, e12_98, e12_99, e12_100, e12_101, e12_104, e12_105, e12_108, e12_109, e12_112, e12_113, e12_114, e12_115, e12_118, e12_119, e12_122, e12_123, e12_126, e12_127, e12_128, e12_129, e12_132, e12_133, e12_136, e12_137, e12_140, e12_141, e12_142, e12_143, lk, lset, ldel, lset2, ldel2, cat2, gI_int, gA_ref, gA_null, gV_some, gC_some, gL_long, Option.toList, List.cons_append, List.nil_append, List.length_cons, List.length_nil, Nat.reduceEqDiff, Nat.reduceAdd, Nat.reduceSub, Nat.reduceLeDiff, Nat.reduceLT, nb0, nb1, reduceIte, reduceCtorEq, and_false, and_true, false_and, true_and, if_true, if_false, Bool.false_eq_true, eq_self, not_true_eq_false, not_false_eq_true, g0_0 hz, g0_1 hz, g0_2 hz, g0_3 hz, g0_4 hz, g0_5 hz, g0_6 hz, p0_6 hz, k0 hz, g130_0 hz, g130_1 hz, p130_1 hz, k130 hz, g304_0 hz, g304_1 hz, p304_1 hz, k304 hz, g306_0 hz, g306_1 hz, g306_2 hz, g306_3 hz, g306_4 hz, p306_1 hz, p306_2 hz, p306_3 hz, p306_4 hz, k306 hz, g307_0 hz, g307_1 hz, g307_2 hz, g307_3 hz, p307_1 hz, p307_2 hz, p307_3 hz, k307 hz, ho, ha]
    unfold bI many
    grind (splits := 40)
  · rw [l1] at ha
    simp only [e12_0, e12_1, e12_4, e12_72, e12_73, e12_76, e12_77, e12_80, e12_81, e12_84, e12_85, e12_86, e12_87, e12_90, e12_91, e12_94, e12_95, e12_98, e12_99, e12_100, e12_101, e12_104, e12_105, e12_108, e12_109, e12_112, e12_113, e12_114, e12_115, e12_118, e12_119, e12_122, e12_123, e12_126, e12_127, e12_128, e12_129, e12_132, e12_133, e12_136, e12_137, e12_140, e12_141, e12_142, e12_143, lk, lset, ldel, lset2, ldel2, cat2, gI_int, gA_ref, gA_null, gV_some, gC_some, gL_long, Option.toList, List.cons_append, List.nil_append, List.length_cons, List.length_nil, Nat.reduceEqDiff, Nat.reduceAdd, Nat.reduceSub, Nat.reduceLeDiff, Nat.reduceLT, nb0, nb1, reduceIte, reduceCtorEq, and_false, and_true, false_and, true_and, if_true, if_false, Bool.false_eq_true, eq_self, not_true_eq_false, not_false_eq_true, g0_0 hz, g0_1 hz, g0_2 hz, g0_3 hz, g0_4 hz, g0_5 hz, g0_6 hz, p0_6 hz, k0 hz, g130_0 hz, g130_1 hz, p130_1 hz, k130 hz, g304_0 hz, g304_1 hz, p304_1 hz, k304 hz, g306_0 hz, g306_1 hz, g306_2 hz, g306_3 hz, g306_4 hz, p306_1 hz, p306_2 hz, p306_3 hz, p306_4 hz, k306 hz, g307_0 hz, g307_1 hz, g307_2 hz, g307_3 hz, p307_1 hz, p307_2 hz, p307_3 hz, k307 hz, ho, ha]
    unfold bI many
    grind (splits := 40)
  · rw [l2] at ha
    simp only [e12_0, e12_1, e12_4, e12_72, e12_73, e12_76, e12_77, e12_80, e12_81, e12_84, e12_85, e12_86, e12_87, e12_90, e12_91, e12_94, e12_95, e12_98, e12_99, e12_100, e12_101, e12_104, e12_105, e12_108, e12_109, e12_112, e12_113, e12_114, e12_115, e12_118, e12_119, e12_122, e12_123, e12_126, e12_127, e12_128, e12_129, e12_132, e12_133, e12_136, e12_137, e12_140, e12_141, e12_142, e12_143, lk, lset, ldel, lset2, ldel2, cat2, gI_int, gA_ref, gA_null, gV_some, gC_some, gL_long, Option.toList, List.cons_append, List.nil_append, List.length_cons, List.length_nil, Nat.reduceEqDiff, Nat.reduceAdd, Nat.reduceSub, Nat.reduceLeDiff, Nat.reduceLT, nb0, nb1, reduceIte, reduceCtorEq, and_false, and_true, false_and, true_and, if_true, if_false, Bool.false_eq_true, eq_self, not_true_eq_false, not_false_eq_true, g0_0 hz, g0_1 hz, g0_2 hz, g0_3 hz, g0_4 hz, g0_5 hz, g0_6 hz, p0_6 hz, k0 hz, g130_0 hz, g130_1 hz, p130_1 hz, k130 hz, g304_0 hz, g304_1 hz, p304_1 hz, k304 hz, g306_0 hz, g306_1 hz, g306_2 hz, g306_3 hz, g306_4 hz, p306_1 hz, p306_2 hz, p306_3 hz, p306_4 hz, k306 hz, g307_0 hz, g307_1 hz, g307_2 hz, g307_3 hz, p307_1 hz, p307_2 hz, p307_3 hz, k307 hz, ho, ha]
    unfold bI many
    grind (splits := 40)
  · rw [l3] at ha
    simp only [e12_0, e12_1, e12_4, e12_72, e12_73, e12_76, e12_77, e12_80, e12_81, e12_84, e12_85, e12_86, e12_87, e12_90, e12_91, e12_94, e12_95, e12_98, e12_99, e12_100, e12_101, e12_104, e12_105, e12_108, e12_109, e12_112, e12_113, e12_114, e12_115, e12_118, e12_119, e12_122, e12_123, e12_126, e12_127, e12_128, e12_129, e12_132, e12_133, e12_136, e12_137, e12_140, e12_141, e12_142, e12_143, lk, lset, ldel, lset2, ldel2, cat2, gI_int, gA_ref, gA_null, gV_some, gC_some, gL_long, Option.toList, List.cons_append, List.nil_append, List.length_cons, List.length_nil, Nat.reduceEqDiff, Nat.reduceAdd, Nat.reduceSub, Nat.reduceLeDiff, Nat.reduceLT, nb0, nb1, reduceIte, reduceCtorEq, and_false, and_true, false_and, true_and, if_true, if_false, Bool.false_eq_true, eq_self, not_true_eq_false, not_false_eq_true, g0_0 hz, g0_1 hz, g0_2 hz, g0_3 hz, g0_4 hz, g0_5 hz, g0_6 hz, p0_6 hz, k0 hz, g130_0 hz, g130_1 hz, p130_1 hz, k130 hz, g304_0 hz, g304_1 hz, p304_1 hz, k304 hz, g306_0 hz, g306_1 hz, g306_2 hz, g306_3 hz, g306_4 hz, p306_1 hz, p306_2 hz, p306_3 hz, p306_4 hz, k306 hz, g307_0 hz, g307_1 hz, g307_2 hz, g307_3 hz, p307_1 hz, p307_2 hz, p307_3 hz, k307 hz, ho, ha]
    unfold bI many
    grind (splits := 40)
  · rw [l4] at ha
    simp only [e12_0, e12_1, e12_4, e12_72, e12_73, e12_76, e12_77, e12_80, e12_81, e12_84, e12_85, e12_86, e12_87, e12_90, e12_91, e12_94, e12_95, e12_98, e12_99, e12_100, e12_101, e12_104, e12_105, e12_108, e12_109, e12_112, e12_113, e12_114, e12_115, e12_118, e12_119, e12_122, e12_123, e12_126, e12_127, e12_128, e12_129, e12_132, e12_133, e12_136, e12_137, e12_140, e12_141, e12_142, e12_143, lk, lset, ldel, lset2, ldel2, cat2, gI_int, gA_ref, gA_null, gV_some, gC_some, gL_long, Option.toList, List.cons_append, List.nil_append, List.length_cons, List.length_nil, Nat.reduceEqDiff, Nat.reduceAdd, Nat.reduceSub, Nat.reduceLeDiff, Nat.reduceLT, nb0, nb1, reduceIte, reduceCtorEq, and_false, and_true, false_and, true_and, if_true, if_false, Bool.false_eq_true, eq_self, not_true_eq_false, not_false_eq_true, g0_0 hz, g0_1 hz, g0_2 hz, g0_3 hz, g0_4 hz, g0_5 hz, g0_6 hz, p0_6 hz, k0 hz, g130_0 hz, g130_1 hz, p130_1 hz, k130 hz, g304_0 hz, g304_1 hz, p304_1 hz, k304 hz, g306_0 hz, g306_1 hz, g306_2 hz, g306_3 hz, g306_4 hz, p306_1 hz, p306_2 hz, p306_3 hz, p306_4 hz, k306 hz, g307_0 hz, g307_1 hz, g307_2 hz, g307_3 hz, p307_1 hz, p307_2 hz, p307_3 hz, k307 hz, ho, ha]
    unfold bI many
    grind (splits := 40)
theorem s308_0 {M : Nat → Nat → Int32} (hz : zok z) {v : Int32} : ap (wld z M p) (z.1 + 308) 10 10 0 (.int v) = some (wld z (mput M (z.1 + 308) (fset (M (z.1 + 308)) 0 v)) p) := by
  have := s308 (M := M) (p := p) hz (j := 0) (v := v) (by decide); rwa [l0] at this
theorem s308_1 {M : Nat → Nat → Int32} (hz : zok z) {v : Int32} : ap (wld z M p) (z.1 + 308) 10 10 1 (.int v) = some (wld z (mput M (z.1 + 308) (fset (M (z.1 + 308)) 1 v)) p) := by
  have := s308 (M := M) (p := p) hz (j := 1) (v := v) (by decide); rwa [l1] at this
theorem s308_2 {M : Nat → Nat → Int32} (hz : zok z) {v : Int32} : ap (wld z M p) (z.1 + 308) 10 10 2 (.int v) = some (wld z (mput M (z.1 + 308) (fset (M (z.1 + 308)) 2 v)) p) := by
  have := s308 (M := M) (p := p) hz (j := 2) (v := v) (by decide); rwa [l2] at this
theorem s308_3 {M : Nat → Nat → Int32} (hz : zok z) {v : Int32} : ap (wld z M p) (z.1 + 308) 10 10 3 (.int v) = some (wld z (mput M (z.1 + 308) (fset (M (z.1 + 308)) 3 v)) p) := by
  have := s308 (M := M) (p := p) hz (j := 3) (v := v) (by decide); rwa [l3] at this
theorem a308_0 {M : Nat → Nat → Int32} (hz : zok z) : ai (wld z M p) (z.1 + 308) 0 = some (.int (M (z.1 + 308) 0)) := by
  have := a308 (M := M) (p := p) hz (j := 0) (by decide); rwa [l0] at this
theorem a308_1 {M : Nat → Nat → Int32} (hz : zok z) : ai (wld z M p) (z.1 + 308) 1 = some (.int (M (z.1 + 308) 1)) := by
  have := a308 (M := M) (p := p) hz (j := 1) (by decide); rwa [l1] at this
theorem a308_2 {M : Nat → Nat → Int32} (hz : zok z) : ai (wld z M p) (z.1 + 308) 2 = some (.int (M (z.1 + 308) 2)) := by
  have := a308 (M := M) (p := p) hz (j := 2) (by decide); rwa [l2] at this
theorem a308_3 {M : Nat → Nat → Int32} (hz : zok z) : ai (wld z M p) (z.1 + 308) 3 = some (.int (M (z.1 + 308) 3)) := by
  have := a308 (M := M) (p := p) hz (j := 3) (by decide); rwa [l3] at this
theorem m_read {M : Nat → Nat → Int32} (hz : zok z) (ht : txok M z k) {s : Nat} (hs : s < k) : ∃ M', run (d + 4) 9 [.ref (z.1 + 307), .ref (z.1 + 304), .int (nI s)] (wld z M p) = some (some (.int (if okR (sg k (M (z.1 + 305)) s) (parN (sg k (M (z.1 + 305))) s (fun _ => -1)) = true then 1 else 0)), wld z M' p) ∧ (∀ x, x ≠ z.1 + 307 → x ≠ z.1 + 308 → M' x = M x) ∧ M' (z.1 + 307) 1 = sg k (M (z.1 + 305)) s ∧ ∀ e' a' T', parN (sg k (M (z.1 + 305))) s (fun _ => -1) = some (e', a', T') → M' (z.1 + 307) 3 = nI e' ∧ M' (z.1 + 307) 2 = nI a' ∧ M' (z.1 + 308) = T' := by
  have hk60 := ht.2.1
  have q1 : z.1 + 304 ≠ z.1 + 307 := by omega
  have q2 : z.1 + 305 ≠ z.1 + 307 := by omega
  have q3 : z.1 + 304 ≠ z.1 + 308 := by omega
  have q4 : z.1 + 305 ≠ z.1 + 308 := by omega
  have q5 : z.1 + 307 ≠ z.1 + 308 := by omega
  have q6 : z.1 + 308 ≠ z.1 + 307 := by omega
  have i0 := m_signAt (d := d + 2) (p := p) hz ht (e := s) (by omega)
  generalize hM1 : mput (mput M (z.1 + 307) (fset (fset (fset (M (z.1 + 307)) 1 (sg k (M (z.1 + 305)) s)) 3 (nI (s + 1))) 2 0)) (z.1 + 308) (fun _ => -1) = M1
  have hM1' : wld z (mput (mput M (z.1 + 307) (fset (fset (fset (M (z.1 + 307)) 1 (sg k (M (z.1 + 305)) s)) 3 (nI (s + 1))) 2 0)) (z.1 + 308) (fset (fset (fset (fset (M (z.1 + 308)) 0 (-1)) 1 (-1)) 2 (-1)) 3 (-1))) p = wld z M1 p := by
    rw [← hM1]
    refine wld_row (o := 308) (by decide) (congrArg (fun y => (10, 4, y)) ?_)
    funext j
    unfold iarr
    by_cases h : j < 4
    · rw [if_pos h, if_pos h]
      rcases (show j = 0 ∨ j = 1 ∨ j = 2 ∨ j = 3 by omega) with rfl | rfl | rfl | rfl <;> rfl
    · rw [if_neg h, if_neg h]
  have f3 : M1 (z.1 + 307) 3 = nI (s + 1) := by rw [← hM1, mput_ne q5, mput_same, fset_ne (by decide), fset_same]
  have f2 : M1 (z.1 + 307) 2 = nI 0 := by rw [← hM1, mput_ne q5, mput_same, fset_same, l0]
  have f1 : M1 (z.1 + 307) 1 = sg k (M (z.1 + 305)) s := by rw [← hM1, mput_ne q5, mput_same, fset_ne (by decide), fset_ne (by decide), fset_same]
  have f8 : M1 (z.1 + 308) = fun _ => -1 := by rw [← hM1, mput_same]
  have f5 : M1 (z.1 + 305) = M (z.1 + 305) := by rw [← hM1, mput_ne q4, mput_ne q2]
  have fr : ∀ x, x ≠ z.1 + 307 → x ≠ z.1 + 308 → M1 x = M x := fun x a b => by rw [← hM1, mput_ne b, mput_ne a]
  have ht1 : txok M1 z k := by unfold txok; rw [fr _ q1 q3, f5]; exact ht
  obtain ⟨M2, x1, x2, x3⟩ := l_readNumbers (d := d) (p := p) hz 3 0 (s + 1) M1 (by omega) (by omega) ht1 f3 f2 []
  rw [f5, f8, ← parN_rd] at x1 x3
  have hrn : run (d + 3) 10 [.ref (z.1 + 307), .ref (z.1 + 304)] (wld z M1 p) = some (some (.int (if (parN (sg k (M (z.1 + 305))) s (fun _ => -1)).isSome = true then 1 else 0)), wld z M2 p) := by
    rw [r10]
    rw [l0] at x1
    simp only [e10_0, e10_1, lk, lset, ldel, lset2, ldel2, cat2, gI_int, gA_ref, gA_null, gV_some, gC_some, gL_long, Option.toList, List.cons_append, List.nil_append, List.length_cons, List.length_nil, Nat.reduceEqDiff, Nat.reduceAdd, Nat.reduceSub, Nat.reduceLeDiff, Nat.reduceLT, nb0, nb1, reduceIte, reduceCtorEq, and_false, and_true, false_and, true_and, if_true, if_false, Bool.false_eq_true, eq_self, not_true_eq_false, not_false_eq_true]
    exact x1
  refine ⟨M2, ?_, fun x a b => (x2.1 x a b).trans (fr x a b), x2.2.trans f1, x3⟩
  have p1 : run (d + 4) 9 [.ref (z.1 + 307), .ref (z.1 + 304), .int (nI s)] (wld z M p) = X (d + 3) 9 41 [(0, .ref (z.1 + 307)), (1, .ref (z.1 + 304)), (2, .int (nI s)), (3, .int 4)] [] (wld z M1 p) := by
    rw [← hM1', r9]
    simp (config := { decide := true }) only [e9_0, e9_1, e9_2, e9_3, e9_6, e9_9, e9_10, e9_11, e9_12, e9_13, e9_16, e9_17, e9_18, e9_21, e9_22, e9_23, e9_24, e9_25, e9_28, e9_29, e9_32, e9_33, e9_34, e9_35, e9_38, lk, lset, ldel, lset2, ldel2, cat2, gI_int, gA_ref, gA_null, gV_some, gC_some, gL_long, Option.toList, List.cons_append, List.nil_append, List.length_cons, List.length_nil, Nat.reduceEqDiff, Nat.reduceAdd, Nat.reduceSub, Nat.reduceLeDiff, Nat.reduceLT, nb0, nb1, reduceIte, reduceCtorEq, and_false, and_true, false_and, true_and, if_true, if_false, Bool.false_eq_true, eq_self, not_true_eq_false, not_false_eq_true, mput_same, mput_mput, fset_same, g0_0 hz, g0_1 hz, g0_2 hz, g0_3 hz, g0_4 hz, g0_5 hz, g0_6 hz, p0_6 hz, k0 hz, g130_0 hz, g130_1 hz, p130_1 hz, k130 hz, g304_0 hz, g304_1 hz, p304_1 hz, k304 hz, g306_0 hz, g306_1 hz, g306_2 hz, g306_3 hz, g306_4 hz, p306_1 hz, p306_2 hz, p306_3 hz, p306_4 hz, k306 hz, g307_0 hz, g307_1 hz, g307_2 hz, g307_3 hz, p307_1 hz, p307_2 hz, p307_3 hz, k307 hz, Int32.reduceAdd, Int32.reduceSub, Int32.reduceLE, Int32.reduceLT, i0, nI_1, s308_0 hz, s308_1 hz, s308_2 hz, s308_3 hz, mput_ne q5, mput_ne q6]
  rw [p1]
  have n10 : ¬ (1 : Int32) = 0 := by decide
  cases hp : parN (sg k (M (z.1 + 305))) s (fun _ => -1) with
  | none =>
    rw [hp] at hrn
    replace hrn : run (d + 3) 10 [.ref (z.1 + 307), .ref (z.1 + 304)] (wld z M1 p) = some (some (.int 0), wld z M2 p) := hrn
    rw [if_neg (show ¬ okR _ none = true from Bool.false_ne_true)]
    simp only [e9_41, e9_42, e9_43, e9_46, e9_49, e9_50, e9_53, e9_56, e9_57, e9_60, e9_61, lk, lset, ldel, lset2, ldel2, cat2, gI_int, gA_ref, gA_null, gV_some, gC_some, gL_long, Option.toList, List.cons_append, List.nil_append, List.length_cons, List.length_nil, Nat.reduceEqDiff, Nat.reduceAdd, Nat.reduceSub, Nat.reduceLeDiff, Nat.reduceLT, nb0, nb1, reduceIte, reduceCtorEq, and_false, and_true, false_and, true_and, if_true, if_false, Bool.false_eq_true, eq_self, not_true_eq_false, not_false_eq_true, g0_0 hz, g0_1 hz, g0_2 hz, g0_3 hz, g0_4 hz, g0_5 hz, g0_6 hz, p0_6 hz, k0 hz, g130_0 hz, g130_1 hz, p130_1 hz, k130 hz, g304_0 hz, g304_1 hz, p304_1 hz, k304 hz, g306_0 hz, g306_1 hz, g306_2 hz, g306_3 hz, g306_4 hz, p306_1 hz, p306_2 hz, p306_3 hz, p306_4 hz, k306 hz, g307_0 hz, g307_1 hz, g307_2 hz, g307_3 hz, p307_1 hz, p307_2 hz, p307_3 hz, k307 hz, hrn]
  | some r =>
    obtain ⟨e', a', T'⟩ := r
    rw [hp] at hrn
    replace hrn : run (d + 3) 10 [.ref (z.1 + 307), .ref (z.1 + 304)] (wld z M1 p) = some (some (.int 1), wld z M2 p) := hrn
    obtain ⟨y1, y2, y3⟩ := x3 e' a' T' hp
    have i3 := m_hasIts (d := d + 2) (p := p) hz y2 (parN_b hp).1
    rw [x2.2, f1] at i3
    by_cases hm : many (sg k (M (z.1 + 305)) s) a'
    · rw [show bI (many (sg k (M (z.1 + 305)) s) a') = 1 from if_pos hm] at i3
      have ho : okR (sg k (M (z.1 + 305)) s) (some (e', a', T')) = true := decide_eq_true hm
      rw [if_pos ho]
      simp only [e9_41, e9_42, e9_43, e9_46, e9_49, e9_50, e9_53, e9_56, e9_57, e9_60, e9_61, lk, lset, ldel, lset2, ldel2, cat2, gI_int, gA_ref, gA_null, gV_some, gC_some, gL_long, Option.toList, List.cons_append, List.nil_append, List.length_cons, List.length_nil, Nat.reduceEqDiff, Nat.reduceAdd, Nat.reduceSub, Nat.reduceLeDiff, Nat.reduceLT, nb0, nb1, reduceIte, reduceCtorEq, and_false, and_true, false_and, true_and, if_true, if_false, Bool.false_eq_true, eq_self, not_true_eq_false, not_false_eq_true, g0_0 hz, g0_1 hz, g0_2 hz, g0_3 hz, g0_4 hz, g0_5 hz, g0_6 hz, p0_6 hz, k0 hz, g130_0 hz, g130_1 hz, p130_1 hz, k130 hz, g304_0 hz, g304_1 hz, p304_1 hz, k304 hz, g306_0 hz, g306_1 hz, g306_2 hz, g306_3 hz, g306_4 hz, p306_1 hz, p306_2 hz, p306_3 hz, p306_4 hz, k306 hz, g307_0 hz, g307_1 hz, g307_2 hz, g307_3 hz, p307_1 hz, p307_2 hz, p307_3 hz, k307 hz, hrn, i3, n10]
    · rw [show bI (many (sg k (M (z.1 + 305)) s) a') = 0 from if_neg hm] at i3
      have ho : okR (sg k (M (z.1 + 305)) s) (some (e', a', T')) = false := decide_eq_false hm
      rw [if_neg (by rw [ho]; exact Bool.false_ne_true)]
      simp only [e9_41, e9_42, e9_43, e9_46, e9_49, e9_50, e9_53, e9_56, e9_57, e9_60, e9_61, lk, lset, ldel, lset2, ldel2, cat2, gI_int, gA_ref, gA_null, gV_some, gC_some, gL_long, Option.toList, List.cons_append, List.nil_append, List.length_cons, List.length_nil, Nat.reduceEqDiff, Nat.reduceAdd, Nat.reduceSub, Nat.reduceLeDiff, Nat.reduceLT, nb0, nb1, reduceIte, reduceCtorEq, and_false, and_true, false_and, true_and, if_true, if_false, Bool.false_eq_true, eq_self, not_true_eq_false, not_false_eq_true, g0_0 hz, g0_1 hz, g0_2 hz, g0_3 hz, g0_4 hz, g0_5 hz, g0_6 hz, p0_6 hz, k0 hz, g130_0 hz, g130_1 hz, p130_1 hz, k130 hz, g304_0 hz, g304_1 hz, p304_1 hz, k304 hz, g306_0 hz, g306_1 hz, g306_2 hz, g306_3 hz, g306_4 hz, p306_1 hz, p306_2 hz, p306_3 hz, p306_4 hz, k306 hz, g307_0 hz, g307_1 hz, g307_2 hz, g307_3 hz, p307_1 hz, p307_2 hz, p307_3 hz, k307 hz, hrn, i3, n10]
-- carried out
theorem c_carryP {M : Nat → Nat → Int32} {S : Nat} {v : Int32} {w' : Wd} (h : isS z S) (ho : M (z.1 + 307) 1 = 112) (hr : run (d + 4) 44 [.ref S, .int (M (z.1 + 308) 0), .int (M (z.1 + 308) 1), .int (M (z.1 + 308) 2), .int (M (z.1 + 308) 3)] (wld z M p) = some (some (.int v), w')) : run (d + 5) 13 [.ref (z.1 + 307), .ref S] (wld z M p) = some (some (.int v), w') := by
  have hz := h.1
  rw [r13]
  simp (config := { decide := true }) only [e13_0, e13_1, e13_4, e13_72, e13_73, e13_74, e13_77, e13_78, e13_79, e13_80, e13_83, e13_84, e13_85, e13_86, e13_89, e13_90, e13_91, e13_92, e13_95, e13_96, e13_97, e13_100, e13_101, e13_102, e13_103, e13_106, e13_107, e13_108, e13_109, e13_112, e13_113, e13_114, e13_115, e13_118, e13_119, e13_120, e13_123, e13_124, e13_125, e13_126, e13_129, e13_130, e13_131, e13_132, e13_135, e13_136, e13_137, e13_138, e13_141, e13_142, e13_143, e13_144, e13_147, e13_148, e13_149, e13_152, e13_153, e13_154, e13_155, e13_158, e13_159, e13_160, e13_163, e13_164, e13_165, e13_166, e13_169, e13_170, e13_171, e13_174, e13_175, e13_177, lk, lset, ldel, lset2, ldel2, cat2, gI_int, gA_ref, gA_null, gV_some, gC_some, gL_long, Option.toList, List.cons_append, List.nil_append, List.length_cons, List.length_nil, Nat.reduceEqDiff, Nat.reduceAdd, Nat.reduceSub, Nat.reduceLeDiff, Nat.reduceLT, nb0, nb1, reduceIte, reduceCtorEq, and_false, and_true, false_and, true_and, if_true, if_false, Bool.false_eq_true, eq_self, not_true_eq_false, not_false_eq_true, g0_0 hz, g0_1 hz, g0_2 hz, g0_3 hz, g0_4 hz, g0_5 hz, g0_6 hz, p0_6 hz, k0 hz, g130_0 hz, g130_1 hz, p130_1 hz, k130 hz, g304_0 hz, g304_1 hz, p304_1 hz, k304 hz, g306_0 hz, g306_1 hz, g306_2 hz, g306_3 hz, g306_4 hz, p306_1 hz, p306_2 hz, p306_3 hz, p306_4 hz, k306 hz, g307_0 hz, g307_1 hz, g307_2 hz, g307_3 hz, p307_1 hz, p307_2 hz, p307_3 hz, k307 hz, ho, a308_0 hz, a308_1 hz, a308_2 hz, a308_3 hz, k_st h, hr]
theorem c_carryO {M : Nat → Nat → Int32} {S : Nat} {v : Int32} {w' : Wd} (h : isS z S) (ho : M (z.1 + 307) 1 = 111) (hr : run (d + 4) 45 [.ref S, .int (M (z.1 + 308) 0), .int (M (z.1 + 308) 1), .int (M (z.1 + 308) 2)] (wld z M p) = some (some (.int v), w')) : run (d + 5) 13 [.ref (z.1 + 307), .ref S] (wld z M p) = some (some (.int v), w') := by
  have hz := h.1
  rw [r13]
  simp (config := { decide := true }) only [e13_0, e13_1, e13_4, e13_72, e13_73, e13_74, e13_77, e13_78, e13_79, e13_80, e13_83, e13_84, e13_85, e13_86, e13_89, e13_90, e13_91, e13_92, e13_95, e13_96, e13_97, e13_100, e13_101, e13_102, e13_103, e13_106, e13_107, e13_108, e13_109, e13_112, e13_113, e13_114, e13_115, e13_118, e13_119, e13_120, e13_123, e13_124, e13_125, e13_126, e13_129, e13_130, e13_131, e13_132, e13_135, e13_136, e13_137, e13_138, e13_141, e13_142, e13_143, e13_144, e13_147, e13_148, e13_149, e13_152, e13_153, e13_154, e13_155, e13_158, e13_159, e13_160, e13_163, e13_164, e13_165, e13_166, e13_169, e13_170, e13_171, e13_174, e13_175, e13_177, lk, lset, ldel, lset2, ldel2, cat2, gI_int, gA_ref, gA_null, gV_some, gC_some, gL_long, Option.toList, List.cons_append, List.nil_append, List.length_cons, List.length_nil, Nat.reduceEqDiff, Nat.reduceAdd, Nat.reduceSub, Nat.reduceLeDiff, Nat.reduceLT, nb0, nb1, reduceIte, reduceCtorEq, and_false, and_true, false_and, true_and, if_true, if_false, Bool.false_eq_true, eq_self, not_true_eq_false, not_false_eq_true, g0_0 hz, g0_1 hz, g0_2 hz, g0_3 hz, g0_4 hz, g0_5 hz, g0_6 hz, p0_6 hz, k0 hz, g130_0 hz, g130_1 hz, p130_1 hz, k130 hz, g304_0 hz, g304_1 hz, p304_1 hz, k304 hz, g306_0 hz, g306_1 hz, g306_2 hz, g306_3 hz, g306_4 hz, p306_1 hz, p306_2 hz, p306_3 hz, p306_4 hz, k306 hz, g307_0 hz, g307_1 hz, g307_2 hz, g307_3 hz, p307_1 hz, p307_2 hz, p307_3 hz, k307 hz, ho, a308_0 hz, a308_1 hz, a308_2 hz, a308_3 hz, k_st h, hr]
theorem c_carryL {M : Nat → Nat → Int32} {S : Nat} {v : Int32} {w' : Wd} (h : isS z S) (ho : M (z.1 + 307) 1 = 108) (hr : run (d + 4) 47 [.ref S, .int (M (z.1 + 308) 0), .int (M (z.1 + 308) 1), .int (M (z.1 + 308) 2), .int (M (z.1 + 308) 3)] (wld z M p) = some (some (.int v), w')) : run (d + 5) 13 [.ref (z.1 + 307), .ref S] (wld z M p) = some (some (.int v), w') := by
  have hz := h.1
  rw [r13]
  simp (config := { decide := true }) only [e13_0, e13_1, e13_4, e13_72, e13_73, e13_74, e13_77, e13_78, e13_79, e13_80, e13_83, e13_84, e13_85, e13_86, e13_89, e13_90, e13_91, e13_92, e13_95, e13_96, e13_97, e13_100, e13_101, e13_102, e13_103, e13_106, e13_107, e13_108, e13_109, e13_112, e13_113, e13_114, e13_115, e13_118, e13_119, e13_120, e13_123, e13_124, e13_125, e13_126, e13_129, e13_130, e13_131, e13_132, e13_135, e13_136, e13_137, e13_138, e13_141, e13_142, e13_143, e13_144, e13_147, e13_148, e13_149, e13_152, e13_153, e13_154, e13_155, e13_158, e13_159, e13_160, e13_163, e13_164, e13_165, e13_166, e13_169, e13_170, e13_171, e13_174, e13_175, e13_177, lk, lset, ldel, lset2, ldel2, cat2, gI_int, gA_ref, gA_null, gV_some, gC_some, gL_long, Option.toList, List.cons_append, List.nil_append, List.length_cons, List.length_nil, Nat.reduceEqDiff, Nat.reduceAdd, Nat.reduceSub, Nat.reduceLeDiff, Nat.reduceLT, nb0, nb1, reduceIte, reduceCtorEq, and_false, and_true, false_and, true_and, if_true, if_false, Bool.false_eq_true, eq_self, not_true_eq_false, not_false_eq_true, g0_0 hz, g0_1 hz, g0_2 hz, g0_3 hz, g0_4 hz, g0_5 hz, g0_6 hz, p0_6 hz, k0 hz, g130_0 hz, g130_1 hz, p130_1 hz, k130 hz, g304_0 hz, g304_1 hz, p304_1 hz, k304 hz, g306_0 hz, g306_1 hz, g306_2 hz, g306_3 hz, g306_4 hz, p306_1 hz, p306_2 hz, p306_3 hz, p306_4 hz, k306 hz, g307_0 hz, g307_1 hz, g307_2 hz, g307_3 hz, p307_1 hz, p307_2 hz, p307_3 hz, k307 hz, ho, a308_0 hz, a308_1 hz, a308_2 hz, a308_3 hz, k_st h, hr]
theorem c_carryF {M : Nat → Nat → Int32} {S : Nat} {v : Int32} {w' : Wd} (h : isS z S) (ho : M (z.1 + 307) 1 = 102) (hr : run (d + 4) 46 [.ref S, .int (M (z.1 + 308) 0)] (wld z M p) = some (some (.int v), w')) : run (d + 5) 13 [.ref (z.1 + 307), .ref S] (wld z M p) = some (some (.int v), w') := by
  have hz := h.1
  rw [r13]
  simp (config := { decide := true }) only [e13_0, e13_1, e13_4, e13_72, e13_73, e13_74, e13_77, e13_78, e13_79, e13_80, e13_83, e13_84, e13_85, e13_86, e13_89, e13_90, e13_91, e13_92, e13_95, e13_96, e13_97, e13_100, e13_101, e13_102, e13_103, e13_106, e13_107, e13_108, e13_109, e13_112, e13_113, e13_114, e13_115, e13_118, e13_119, e13_120, e13_123, e13_124, e13_125, e13_126, e13_129, e13_130, e13_131, e13_132, e13_135, e13_136, e13_137, e13_138, e13_141, e13_142, e13_143, e13_144, e13_147, e13_148, e13_149, e13_152, e13_153, e13_154, e13_155, e13_158, e13_159, e13_160, e13_163, e13_164, e13_165, e13_166, e13_169, e13_170, e13_171, e13_174, e13_175, e13_177, lk, lset, ldel, lset2, ldel2, cat2, gI_int, gA_ref, gA_null, gV_some, gC_some, gL_long, Option.toList, List.cons_append, List.nil_append, List.length_cons, List.length_nil, Nat.reduceEqDiff, Nat.reduceAdd, Nat.reduceSub, Nat.reduceLeDiff, Nat.reduceLT, nb0, nb1, reduceIte, reduceCtorEq, and_false, and_true, false_and, true_and, if_true, if_false, Bool.false_eq_true, eq_self, not_true_eq_false, not_false_eq_true, g0_0 hz, g0_1 hz, g0_2 hz, g0_3 hz, g0_4 hz, g0_5 hz, g0_6 hz, p0_6 hz, k0 hz, g130_0 hz, g130_1 hz, p130_1 hz, k130 hz, g304_0 hz, g304_1 hz, p304_1 hz, k304 hz, g306_0 hz, g306_1 hz, g306_2 hz, g306_3 hz, g306_4 hz, p306_1 hz, p306_2 hz, p306_3 hz, p306_4 hz, k306 hz, g307_0 hz, g307_1 hz, g307_2 hz, g307_3 hz, p307_1 hz, p307_2 hz, p307_3 hz, k307 hz, ho, a308_0 hz, k_st h, hr]
theorem c_carryD {M : Nat → Nat → Int32} {S : Nat} {v : Int32} {w' : Wd} (h : isS z S) (ho : M (z.1 + 307) 1 = 100) (hr : run (d + 4) 52 [.ref S, .int (M (z.1 + 308) 0)] (wld z M p) = some (some (.int v), w')) : run (d + 5) 13 [.ref (z.1 + 307), .ref S] (wld z M p) = some (some (.int v), w') := by
  have hz := h.1
  rw [r13]
  simp (config := { decide := true }) only [e13_0, e13_1, e13_4, e13_72, e13_73, e13_74, e13_77, e13_78, e13_79, e13_80, e13_83, e13_84, e13_85, e13_86, e13_89, e13_90, e13_91, e13_92, e13_95, e13_96, e13_97, e13_100, e13_101, e13_102, e13_103, e13_106, e13_107, e13_108, e13_109, e13_112, e13_113, e13_114, e13_115, e13_118, e13_119, e13_120, e13_123, e13_124, e13_125, e13_126, e13_129, e13_130, e13_131, e13_132, e13_135, e13_136, e13_137, e13_138, e13_141, e13_142, e13_143, e13_144, e13_147, e13_148, e13_149, e13_152, e13_153, e13_154, e13_155, e13_158, e13_159, e13_160, e13_163, e13_164, e13_165, e13_166, e13_169, e13_170, e13_171, e13_174, e13_175, e13_177, lk, lset, ldel, lset2, ldel2, cat2, gI_int, gA_ref, gA_null, gV_some, gC_some, gL_long, Option.toList, List.cons_append, List.nil_append, List.length_cons, List.length_nil, Nat.reduceEqDiff, Nat.reduceAdd, Nat.reduceSub, Nat.reduceLeDiff, Nat.reduceLT, nb0, nb1, reduceIte, reduceCtorEq, and_false, and_true, false_and, true_and, if_true, if_false, Bool.false_eq_true, eq_self, not_true_eq_false, not_false_eq_true, g0_0 hz, g0_1 hz, g0_2 hz, g0_3 hz, g0_4 hz, g0_5 hz, g0_6 hz, p0_6 hz, k0 hz, g130_0 hz, g130_1 hz, p130_1 hz, k130 hz, g304_0 hz, g304_1 hz, p304_1 hz, k304 hz, g306_0 hz, g306_1 hz, g306_2 hz, g306_3 hz, g306_4 hz, p306_1 hz, p306_2 hz, p306_3 hz, p306_4 hz, k306 hz, g307_0 hz, g307_1 hz, g307_2 hz, g307_3 hz, p307_1 hz, p307_2 hz, p307_3 hz, k307 hz, ho, a308_0 hz, k_st h, hr]
end CO
