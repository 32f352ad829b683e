/-! small methods -/
def bI (P : Prop) [Decidable P] : Int32 := if P then 1 else 0
section SM
variable {z : Zt} {S d : Nat} {M : Nat → Nat → Int32} {p : Nat → Nat}
theorem m_isOn (h : isS z S) {i : Nat} (hi : i < 24) {c g : Int32} : run (d + 1) 20 [.ref (phA S i), .int c, .int g] (wld z M p) = some (some (.int (bI (M S (58 + 10 * i + 4) = c ∧ M S (58 + 10 * i + 5) = g))), wld z M p) := by
  rw [r20]
  simp only [e20_0, e20_1, e20_4, e20_5, e20_8, e20_9, e20_12, e20_13, e20_16, e20_17, e20_20, e20_21, lk, lset, ldel, lset2, ldel2, cat2, gI_int, gA_ref, gA_null, gV_some, gC_some, gL_long, Option.toList, List.cons_append, List.nil_append, List.length_cons, List.length_nil, Nat.reduceEqDiff, Nat.reduceAdd, Nat.reduceLeDiff, Nat.reduceLTLE, reduceIte, reduceCtorEq, and_false, and_true, false_and, if_true, if_false, Bool.false_eq_true, eq_self, g_ph h hi]
  sorry
theorem m_within {a b c : Int32} {w : Wd} : run (d + 1) 107 [.int a, .int b, .int c] w = some (some (.int (bI (b ≤ a ∧ a ≤ c))), w) := by
  rw [r107]
  simp only [e107_0, e107_1, e107_2, e107_5, e107_6, e107_7, e107_10, e107_11, e107_14, e107_15, lk, lset, ldel, lset2, ldel2, cat2, gI_int, gA_ref, gA_null, gV_some, gC_some, gL_long, Option.toList, List.cons_append, List.nil_append, List.length_cons, List.length_nil, Nat.reduceEqDiff, Nat.reduceAdd, Nat.reduceLeDiff, Nat.reduceLTLE, reduceIte, reduceCtorEq, and_false, and_true, false_and, if_true, if_false, Bool.false_eq_true, eq_self]
  sorry
end SM
