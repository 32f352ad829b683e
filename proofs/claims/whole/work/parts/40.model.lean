/-! the model: small methods -/
section MD
variable {z : Zt} {d : Nat} {M : Nat → Nat → Int32} {p : Nat → Nat} {nc nh np : Nat}
theorem ix58 {i k : Nat} : (58 : Int32) + 10 * nI i + nI k = nI (58 + 10 * i + k) := by
  rw [show (58 : Int32) = nI 58 from by decide +kernel, show (10 : Int32) = nI 10 from by decide +kernel, pk_mul, nI_add, nI_add]
theorem ix18 {i k : Nat} : (18 : Int32) + 4 * nI i + nI k = nI (18 + 4 * i + k) := by
  rw [show (18 : Int32) = nI 18 from by decide +kernel, show (4 : Int32) = nI 4 from by decide +kernel, pk_mul, nI_add, nI_add]
theorem ix8 {i k : Nat} : (8 : Int32) + 2 * nI i + nI k = nI (8 + 2 * i + k) := by
  rw [show (8 : Int32) = nI 8 from by decide +kernel, show (2 : Int32) = nI 2 from by decide +kernel, pk_mul, nI_add, nI_add]
theorem l0 : nI 0 = 0 := by decide +kernel
theorem l1 : nI 1 = 1 := by decide +kernel
theorem l2 : nI 2 = 2 := by decide +kernel
theorem l3 : nI 3 = 3 := by decide +kernel
theorem l4 : nI 4 = 4 := by decide +kernel
theorem l5 : nI 5 = 5 := by decide +kernel
theorem l6 : nI 6 = 6 := by decide +kernel
theorem l7 : nI 7 = 7 := by decide +kernel
theorem l8 : nI 8 = 8 := by decide +kernel
theorem l9 : nI 9 = 9 := by decide +kernel
/-- the row s of the model -/
abbrev aS (z : Zt) : Nat := z.1 + 310
theorem m_in {a b c : Int32} {w : Wd} : run (d + 1) 112 [.int a, .int b, .int c] w = some (some (.int (bI (b ≤ a ∧ a ≤ c))), w) := by
  rw [r112]
  simp only [e112_0, e112_1, e112_2, e112_5, e112_6, e112_7, e112_10, e112_11, e112_14, e112_15, lk, lset, ldel, lset2, ldel2, cat2, gI_int, gA_ref, gA_null, gV_some, gC_some, gL_long, Option.toList, List.cons_append, List.nil_append, List.length_cons, List.length_nil, Nat.reduceEqDiff, Nat.reduceAdd, Nat.reduceSub, Nat.reduceLeDiff, Nat.reduceLT, nb0, nb1, reduceIte, reduceCtorEq, and_false, and_true, false_and, true_and, if_true, if_false, Bool.false_eq_true, eq_self, not_true_eq_false, not_false_eq_true]
  grind [bI]
theorem m_of (hz : zok z) {i k : Nat} (hi : i < 24) (hk : k < 10) : run (d + 1) 121 [.ref (z.1 + 309), .int (nI i), .int (nI k)] (wld z M p) = some (some (.int (M (z.1 + 310) (58 + 10 * i + k))), wld z M p) := by
  rw [r121]
  simp only [e121_0, e121_1, e121_4, e121_6, e121_8, e121_9, e121_10, e121_11, e121_12, e121_13, e121_14, lk, lset, ldel, lset2, ldel2, cat2, gI_int, gA_ref, gA_null, gV_some, gC_some, gL_long, Option.toList, List.cons_append, List.nil_append, List.length_cons, List.length_nil, Nat.reduceEqDiff, Nat.reduceAdd, Nat.reduceSub, Nat.reduceLeDiff, Nat.reduceLT, nb0, nb1, reduceIte, reduceCtorEq, and_false, and_true, false_and, true_and, if_true, if_false, Bool.false_eq_true, eq_self, not_true_eq_false, not_false_eq_true, g309_0 hz, g309_1 hz, g309_2 hz, g309_3 hz, g309_4 hz, g309_5 hz, g309_6 hz, g309_7 hz, g309_8 hz, g309_9 hz, g309_10 hz, g309_11 hz, g309_12 hz, g309_13 hz, g309_14 hz, g309_15 hz, g309_16 hz, g309_17 hz, p309_5 hz, p309_6 hz, p309_7 hz, p309_9 hz, p309_10 hz, p309_11 hz, p309_12 hz, p309_13 hz, p309_14 hz, p309_15 hz, p309_16 hz, k309 hz, ix58, a310 hz (show 58 + 10 * i + k < 298 by omega)]
theorem m_sets (hz : zok z) {i k : Nat} (hi : i < 24) (hk : k < 10) {v : Int32} : run (d + 1) 122 [.ref (z.1 + 309), .int (nI i), .int (nI k), .int v] (wld z M p) = some (none, wld z (mput M (z.1 + 310) (fset (M (z.1 + 310)) (58 + 10 * i + k) v)) p) := by
  rw [r122]
  simp only [e122_0, e122_1, e122_4, e122_6, e122_8, e122_9, e122_10, e122_11, e122_12, e122_13, e122_14, e122_15, lk, lset, ldel, lset2, ldel2, cat2, gI_int, gA_ref, gA_null, gV_some, gC_some, gL_long, Option.toList, List.cons_append, List.nil_append, List.length_cons, List.length_nil, Nat.reduceEqDiff, Nat.reduceAdd, Nat.reduceSub, Nat.reduceLeDiff, Nat.reduceLT, nb0, nb1, reduceIte, reduceCtorEq, and_false, and_true, false_and, true_and, if_true, if_false, Bool.false_eq_true, eq_self, not_true_eq_false, not_false_eq_true, g309_0 hz, g309_1 hz, g309_2 hz, g309_3 hz, g309_4 hz, g309_5 hz, g309_6 hz, g309_7 hz, g309_8 hz, g309_9 hz, g309_10 hz, g309_11 hz, g309_12 hz, g309_13 hz, g309_14 hz, g309_15 hz, g309_16 hz, g309_17 hz, p309_5 hz, p309_6 hz, p309_7 hz, p309_9 hz, p309_10 hz, p309_11 hz, p309_12 hz, p309_13 hz, p309_14 hz, p309_15 hz, p309_16 hz, k309 hz, ix58, s310 hz (show 58 + 10 * i + k < 298 by omega)]
theorem m_ofClient (hz : zok z) {i k : Nat} (hi : i < 5) (hk : k < 2) : run (d + 1) 119 [.ref (z.1 + 309), .int (nI i), .int (nI k)] (wld z M p) = some (some (.int (M (z.1 + 310) (8 + 2 * i + k))), wld z M p) := by
  rw [r119]
  simp only [e119_0, e119_1, e119_4, e119_6, e119_7, e119_8, e119_9, e119_10, e119_11, e119_12, e119_13, lk, lset, ldel, lset2, ldel2, cat2, gI_int, gA_ref, gA_null, gV_some, gC_some, gL_long, Option.toList, List.cons_append, List.nil_append, List.length_cons, List.length_nil, Nat.reduceEqDiff, Nat.reduceAdd, Nat.reduceSub, Nat.reduceLeDiff, Nat.reduceLT, nb0, nb1, reduceIte, reduceCtorEq, and_false, and_true, false_and, true_and, if_true, if_false, Bool.false_eq_true, eq_self, not_true_eq_false, not_false_eq_true, g309_0 hz, g309_1 hz, g309_2 hz, g309_3 hz, g309_4 hz, g309_5 hz, g309_6 hz, g309_7 hz, g309_8 hz, g309_9 hz, g309_10 hz, g309_11 hz, g309_12 hz, g309_13 hz, g309_14 hz, g309_15 hz, g309_16 hz, g309_17 hz, p309_5 hz, p309_6 hz, p309_7 hz, p309_9 hz, p309_10 hz, p309_11 hz, p309_12 hz, p309_13 hz, p309_14 hz, p309_15 hz, p309_16 hz, k309 hz, ix8, a310 hz (show 8 + 2 * i + k < 298 by omega)]
theorem m_ofChapter (hz : zok z) {i k : Nat} (hi : i < 10) (hk : k < 4) : run (d + 1) 120 [.ref (z.1 + 309), .int (nI i), .int (nI k)] (wld z M p) = some (some (.int (M (z.1 + 310) (18 + 4 * i + k))), wld z M p) := by
  rw [r120]
  simp only [e120_0, e120_1, e120_4, e120_6, e120_7, e120_8, e120_9, e120_10, e120_11, e120_12, e120_13, lk, lset, ldel, lset2, ldel2, cat2, gI_int, gA_ref, gA_null, gV_some, gC_some, gL_long, Option.toList, List.cons_append, List.nil_append, List.length_cons, List.length_nil, Nat.reduceEqDiff, Nat.reduceAdd, Nat.reduceSub, Nat.reduceLeDiff, Nat.reduceLT, nb0, nb1, reduceIte, reduceCtorEq, and_false, and_true, false_and, true_and, if_true, if_false, Bool.false_eq_true, eq_self, not_true_eq_false, not_false_eq_true, g309_0 hz, g309_1 hz, g309_2 hz, g309_3 hz, g309_4 hz, g309_5 hz, g309_6 hz, g309_7 hz, g309_8 hz, g309_9 hz, g309_10 hz, g309_11 hz, g309_12 hz, g309_13 hz, g309_14 hz, g309_15 hz, g309_16 hz, g309_17 hz, p309_5 hz, p309_6 hz, p309_7 hz, p309_9 hz, p309_10 hz, p309_11 hz, p309_12 hz, p309_13 hz, p309_14 hz, p309_15 hz, p309_16 hz, k309 hz, ix18, a310 hz (show 18 + 4 * i + k < 298 by omega)]
theorem m_of0 (hz : zok z) {i : Nat} (hi : i < 24) : run (d + 1) 121 [.ref (z.1 + 309), .int (nI i), .int 0] (wld z M p) = some (some (.int (M (z.1 + 310) (58 + 10 * i + 0))), wld z M p) := by
  have := m_of (d := d) (M := M) (p := p) hz hi (k := 0) (by decide); rwa [l0] at this
theorem m_of1 (hz : zok z) {i : Nat} (hi : i < 24) : run (d + 1) 121 [.ref (z.1 + 309), .int (nI i), .int 1] (wld z M p) = some (some (.int (M (z.1 + 310) (58 + 10 * i + 1))), wld z M p) := by
  have := m_of (d := d) (M := M) (p := p) hz hi (k := 1) (by decide); rwa [l1] at this
theorem m_of2 (hz : zok z) {i : Nat} (hi : i < 24) : run (d + 1) 121 [.ref (z.1 + 309), .int (nI i), .int 2] (wld z M p) = some (some (.int (M (z.1 + 310) (58 + 10 * i + 2))), wld z M p) := by
  have := m_of (d := d) (M := M) (p := p) hz hi (k := 2) (by decide); rwa [l2] at this
theorem m_of3 (hz : zok z) {i : Nat} (hi : i < 24) : run (d + 1) 121 [.ref (z.1 + 309), .int (nI i), .int 3] (wld z M p) = some (some (.int (M (z.1 + 310) (58 + 10 * i + 3))), wld z M p) := by
  have := m_of (d := d) (M := M) (p := p) hz hi (k := 3) (by decide); rwa [l3] at this
theorem m_of4 (hz : zok z) {i : Nat} (hi : i < 24) : run (d + 1) 121 [.ref (z.1 + 309), .int (nI i), .int 4] (wld z M p) = some (some (.int (M (z.1 + 310) (58 + 10 * i + 4))), wld z M p) := by
  have := m_of (d := d) (M := M) (p := p) hz hi (k := 4) (by decide); rwa [l4] at this
theorem m_of5 (hz : zok z) {i : Nat} (hi : i < 24) : run (d + 1) 121 [.ref (z.1 + 309), .int (nI i), .int 5] (wld z M p) = some (some (.int (M (z.1 + 310) (58 + 10 * i + 5))), wld z M p) := by
  have := m_of (d := d) (M := M) (p := p) hz hi (k := 5) (by decide); rwa [l5] at this
theorem m_of6 (hz : zok z) {i : Nat} (hi : i < 24) : run (d + 1) 121 [.ref (z.1 + 309), .int (nI i), .int 6] (wld z M p) = some (some (.int (M (z.1 + 310) (58 + 10 * i + 6))), wld z M p) := by
  have := m_of (d := d) (M := M) (p := p) hz hi (k := 6) (by decide); rwa [l6] at this
theorem m_of7 (hz : zok z) {i : Nat} (hi : i < 24) : run (d + 1) 121 [.ref (z.1 + 309), .int (nI i), .int 7] (wld z M p) = some (some (.int (M (z.1 + 310) (58 + 10 * i + 7))), wld z M p) := by
  have := m_of (d := d) (M := M) (p := p) hz hi (k := 7) (by decide); rwa [l7] at this
theorem m_of8 (hz : zok z) {i : Nat} (hi : i < 24) : run (d + 1) 121 [.ref (z.1 + 309), .int (nI i), .int 8] (wld z M p) = some (some (.int (M (z.1 + 310) (58 + 10 * i + 8))), wld z M p) := by
  have := m_of (d := d) (M := M) (p := p) hz hi (k := 8) (by decide); rwa [l8] at this
theorem m_of9 (hz : zok z) {i : Nat} (hi : i < 24) : run (d + 1) 121 [.ref (z.1 + 309), .int (nI i), .int 9] (wld z M p) = some (some (.int (M (z.1 + 310) (58 + 10 * i + 9))), wld z M p) := by
  have := m_of (d := d) (M := M) (p := p) hz hi (k := 9) (by decide); rwa [l9] at this
theorem m_ofClient0 (hz : zok z) {i : Nat} (hi : i < 5) : run (d + 1) 119 [.ref (z.1 + 309), .int (nI i), .int 0] (wld z M p) = some (some (.int (M (z.1 + 310) (8 + 2 * i + 0))), wld z M p) := by
  have := m_ofClient (d := d) (M := M) (p := p) hz hi (k := 0) (by decide); rwa [l0] at this
theorem m_ofClient1 (hz : zok z) {i : Nat} (hi : i < 5) : run (d + 1) 119 [.ref (z.1 + 309), .int (nI i), .int 1] (wld z M p) = some (some (.int (M (z.1 + 310) (8 + 2 * i + 1))), wld z M p) := by
  have := m_ofClient (d := d) (M := M) (p := p) hz hi (k := 1) (by decide); rwa [l1] at this
theorem m_ofChapter0 (hz : zok z) {i : Nat} (hi : i < 10) : run (d + 1) 120 [.ref (z.1 + 309), .int (nI i), .int 0] (wld z M p) = some (some (.int (M (z.1 + 310) (18 + 4 * i + 0))), wld z M p) := by
  have := m_ofChapter (d := d) (M := M) (p := p) hz hi (k := 0) (by decide); rwa [l0] at this
theorem m_ofChapter1 (hz : zok z) {i : Nat} (hi : i < 10) : run (d + 1) 120 [.ref (z.1 + 309), .int (nI i), .int 1] (wld z M p) = some (some (.int (M (z.1 + 310) (18 + 4 * i + 1))), wld z M p) := by
  have := m_ofChapter (d := d) (M := M) (p := p) hz hi (k := 1) (by decide); rwa [l1] at this
theorem m_ofChapter2 (hz : zok z) {i : Nat} (hi : i < 10) : run (d + 1) 120 [.ref (z.1 + 309), .int (nI i), .int 2] (wld z M p) = some (some (.int (M (z.1 + 310) (18 + 4 * i + 2))), wld z M p) := by
  have := m_ofChapter (d := d) (M := M) (p := p) hz hi (k := 2) (by decide); rwa [l2] at this
theorem m_ofChapter3 (hz : zok z) {i : Nat} (hi : i < 10) : run (d + 1) 120 [.ref (z.1 + 309), .int (nI i), .int 3] (wld z M p) = some (some (.int (M (z.1 + 310) (18 + 4 * i + 3))), wld z M p) := by
  have := m_ofChapter (d := d) (M := M) (p := p) hz hi (k := 3) (by decide); rwa [l3] at this
theorem m_sets0 (hz : zok z) {i : Nat} (hi : i < 24) {v : Int32} : run (d + 1) 122 [.ref (z.1 + 309), .int (nI i), .int 0, .int v] (wld z M p) = some (none, wld z (mput M (z.1 + 310) (fset (M (z.1 + 310)) (58 + 10 * i + 0) v)) p) := by
  have := m_sets (d := d) (M := M) (p := p) hz hi (k := 0) (v := v) (by decide); rwa [l0] at this
theorem m_sets1 (hz : zok z) {i : Nat} (hi : i < 24) {v : Int32} : run (d + 1) 122 [.ref (z.1 + 309), .int (nI i), .int 1, .int v] (wld z M p) = some (none, wld z (mput M (z.1 + 310) (fset (M (z.1 + 310)) (58 + 10 * i + 1) v)) p) := by
  have := m_sets (d := d) (M := M) (p := p) hz hi (k := 1) (v := v) (by decide); rwa [l1] at this
theorem m_sets2 (hz : zok z) {i : Nat} (hi : i < 24) {v : Int32} : run (d + 1) 122 [.ref (z.1 + 309), .int (nI i), .int 2, .int v] (wld z M p) = some (none, wld z (mput M (z.1 + 310) (fset (M (z.1 + 310)) (58 + 10 * i + 2) v)) p) := by
  have := m_sets (d := d) (M := M) (p := p) hz hi (k := 2) (v := v) (by decide); rwa [l2] at this
theorem m_sets3 (hz : zok z) {i : Nat} (hi : i < 24) {v : Int32} : run (d + 1) 122 [.ref (z.1 + 309), .int (nI i), .int 3, .int v] (wld z M p) = some (none, wld z (mput M (z.1 + 310) (fset (M (z.1 + 310)) (58 + 10 * i + 3) v)) p) := by
  have := m_sets (d := d) (M := M) (p := p) hz hi (k := 3) (v := v) (by decide); rwa [l3] at this
theorem m_sets4 (hz : zok z) {i : Nat} (hi : i < 24) {v : Int32} : run (d + 1) 122 [.ref (z.1 + 309), .int (nI i), .int 4, .int v] (wld z M p) = some (none, wld z (mput M (z.1 + 310) (fset (M (z.1 + 310)) (58 + 10 * i + 4) v)) p) := by
  have := m_sets (d := d) (M := M) (p := p) hz hi (k := 4) (v := v) (by decide); rwa [l4] at this
theorem m_sets5 (hz : zok z) {i : Nat} (hi : i < 24) {v : Int32} : run (d + 1) 122 [.ref (z.1 + 309), .int (nI i), .int 5, .int v] (wld z M p) = some (none, wld z (mput M (z.1 + 310) (fset (M (z.1 + 310)) (58 + 10 * i + 5) v)) p) := by
  have := m_sets (d := d) (M := M) (p := p) hz hi (k := 5) (v := v) (by decide); rwa [l5] at this
theorem m_sets6 (hz : zok z) {i : Nat} (hi : i < 24) {v : Int32} : run (d + 1) 122 [.ref (z.1 + 309), .int (nI i), .int 6, .int v] (wld z M p) = some (none, wld z (mput M (z.1 + 310) (fset (M (z.1 + 310)) (58 + 10 * i + 6) v)) p) := by
  have := m_sets (d := d) (M := M) (p := p) hz hi (k := 6) (v := v) (by decide); rwa [l6] at this
theorem m_sets7 (hz : zok z) {i : Nat} (hi : i < 24) {v : Int32} : run (d + 1) 122 [.ref (z.1 + 309), .int (nI i), .int 7, .int v] (wld z M p) = some (none, wld z (mput M (z.1 + 310) (fset (M (z.1 + 310)) (58 + 10 * i + 7) v)) p) := by
  have := m_sets (d := d) (M := M) (p := p) hz hi (k := 7) (v := v) (by decide); rwa [l7] at this
theorem m_sets8 (hz : zok z) {i : Nat} (hi : i < 24) {v : Int32} : run (d + 1) 122 [.ref (z.1 + 309), .int (nI i), .int 8, .int v] (wld z M p) = some (none, wld z (mput M (z.1 + 310) (fset (M (z.1 + 310)) (58 + 10 * i + 8) v)) p) := by
  have := m_sets (d := d) (M := M) (p := p) hz hi (k := 8) (v := v) (by decide); rwa [l8] at this
theorem m_sets9 (hz : zok z) {i : Nat} (hi : i < 24) {v : Int32} : run (d + 1) 122 [.ref (z.1 + 309), .int (nI i), .int 9, .int v] (wld z M p) = some (none, wld z (mput M (z.1 + 310) (fset (M (z.1 + 310)) (58 + 10 * i + 9) v)) p) := by
  have := m_sets (d := d) (M := M) (p := p) hz hi (k := 9) (v := v) (by decide); rwa [l9] at this
theorem a310_0 (hz : zok z) : ai (wld z M p) (z.1 + 310) 0 = some (.int (M (z.1 + 310) 0)) := by
  have := a310 (M := M) (p := p) hz (j := 0) (by decide); rwa [l0] at this
theorem a310_1 (hz : zok z) : ai (wld z M p) (z.1 + 310) 1 = some (.int (M (z.1 + 310) 1)) := by
  have := a310 (M := M) (p := p) hz (j := 1) (by decide); rwa [l1] at this
theorem a310_2 (hz : zok z) : ai (wld z M p) (z.1 + 310) 2 = some (.int (M (z.1 + 310) 2)) := by
  have := a310 (M := M) (p := p) hz (j := 2) (by decide); rwa [l2] at this
theorem a310_3 (hz : zok z) : ai (wld z M p) (z.1 + 310) 3 = some (.int (M (z.1 + 310) 3)) := by
  have := a310 (M := M) (p := p) hz (j := 3) (by decide); rwa [l3] at this
theorem a310_4 (hz : zok z) : ai (wld z M p) (z.1 + 310) 4 = some (.int (M (z.1 + 310) 4)) := by
  have := a310 (M := M) (p := p) hz (j := 4) (by decide); rwa [l4] at this
theorem a310_5 (hz : zok z) : ai (wld z M p) (z.1 + 310) 5 = some (.int (M (z.1 + 310) 5)) := by
  have := a310 (M := M) (p := p) hz (j := 5) (by decide); rwa [l5] at this
theorem a310_6 (hz : zok z) : ai (wld z M p) (z.1 + 310) 6 = some (.int (M (z.1 + 310) 6)) := by
  have := a310 (M := M) (p := p) hz (j := 6) (by decide); rwa [l6] at this
theorem a310_7 (hz : zok z) : ai (wld z M p) (z.1 + 310) 7 = some (.int (M (z.1 + 310) 7)) := by
  have := a310 (M := M) (p := p) hz (j := 7) (by decide); rwa [l7] at this
theorem s310_0 (hz : zok z) {v : Int32} : ap (wld z M p) (z.1 + 310) 10 10 0 (.int v) = some (wld z (mput M (z.1 + 310) (fset (M (z.1 + 310)) 0 v)) p) := by
  have := s310 (M := M) (p := p) hz (j := 0) (v := v) (by decide); rwa [l0] at this
theorem s310_1 (hz : zok z) {v : Int32} : ap (wld z M p) (z.1 + 310) 10 10 1 (.int v) = some (wld z (mput M (z.1 + 310) (fset (M (z.1 + 310)) 1 v)) p) := by
  have := s310 (M := M) (p := p) hz (j := 1) (v := v) (by decide); rwa [l1] at this
theorem s310_2 (hz : zok z) {v : Int32} : ap (wld z M p) (z.1 + 310) 10 10 2 (.int v) = some (wld z (mput M (z.1 + 310) (fset (M (z.1 + 310)) 2 v)) p) := by
  have := s310 (M := M) (p := p) hz (j := 2) (v := v) (by decide); rwa [l2] at this
theorem s310_3 (hz : zok z) {v : Int32} : ap (wld z M p) (z.1 + 310) 10 10 3 (.int v) = some (wld z (mput M (z.1 + 310) (fset (M (z.1 + 310)) 3 v)) p) := by
  have := s310 (M := M) (p := p) hz (j := 3) (v := v) (by decide); rwa [l3] at this
theorem s310_4 (hz : zok z) {v : Int32} : ap (wld z M p) (z.1 + 310) 10 10 4 (.int v) = some (wld z (mput M (z.1 + 310) (fset (M (z.1 + 310)) 4 v)) p) := by
  have := s310 (M := M) (p := p) hz (j := 4) (v := v) (by decide); rwa [l4] at this
theorem s310_5 (hz : zok z) {v : Int32} : ap (wld z M p) (z.1 + 310) 10 10 5 (.int v) = some (wld z (mput M (z.1 + 310) (fset (M (z.1 + 310)) 5 v)) p) := by
  have := s310 (M := M) (p := p) hz (j := 5) (v := v) (by decide); rwa [l5] at this
theorem s310_6 (hz : zok z) {v : Int32} : ap (wld z M p) (z.1 + 310) 10 10 6 (.int v) = some (wld z (mput M (z.1 + 310) (fset (M (z.1 + 310)) 6 v)) p) := by
  have := s310 (M := M) (p := p) hz (j := 6) (v := v) (by decide); rwa [l6] at this
theorem s310_7 (hz : zok z) {v : Int32} : ap (wld z M p) (z.1 + 310) 10 10 7 (.int v) = some (wld z (mput M (z.1 + 310) (fset (M (z.1 + 310)) 7 v)) p) := by
  have := s310 (M := M) (p := p) hz (j := 7) (v := v) (by decide); rwa [l7] at this
theorem m_mIsClient (hz : zok z) {c : Int32} : run (d + 1) 115 [.ref (z.1 + 309), .int c] (wld z M p) = some (some (.int (bI (0 ≤ c ∧ c < M (z.1 + 310) 0))), wld z M p) := by
  rw [r115]
  simp only [e115_0, e115_1, e115_4, e115_5, e115_6, e115_9, e115_10, e115_11, e115_14, e115_15, e115_18, e115_19, lk, lset, ldel, lset2, ldel2, cat2, gI_int, gA_ref, gA_null, gV_some, gC_some, gL_long, Option.toList, List.cons_append, List.nil_append, List.length_cons, List.length_nil, Nat.reduceEqDiff, Nat.reduceAdd, Nat.reduceSub, Nat.reduceLeDiff, Nat.reduceLT, nb0, nb1, reduceIte, reduceCtorEq, and_false, and_true, false_and, true_and, if_true, if_false, Bool.false_eq_true, eq_self, not_true_eq_false, not_false_eq_true, a310_0 hz, a310_1 hz, a310_2 hz, a310_3 hz, a310_4 hz, a310_5 hz, a310_6 hz, a310_7 hz, k309 hz, g309_0 hz]
  grind [bI]
theorem m_mIsChapter (hz : zok z) {c : Int32} : run (d + 1) 116 [.ref (z.1 + 309), .int c] (wld z M p) = some (some (.int (bI (0 ≤ c ∧ c < M (z.1 + 310) 1))), wld z M p) := by
  rw [r116]
  simp only [e116_0, e116_1, e116_4, e116_5, e116_6, e116_9, e116_10, e116_11, e116_14, e116_15, e116_18, e116_19, lk, lset, ldel, lset2, ldel2, cat2, gI_int, gA_ref, gA_null, gV_some, gC_some, gL_long, Option.toList, List.cons_append, List.nil_append, List.length_cons, List.length_nil, Nat.reduceEqDiff, Nat.reduceAdd, Nat.reduceSub, Nat.reduceLeDiff, Nat.reduceLT, nb0, nb1, reduceIte, reduceCtorEq, and_false, and_true, false_and, true_and, if_true, if_false, Bool.false_eq_true, eq_self, not_true_eq_false, not_false_eq_true, a310_0 hz, a310_1 hz, a310_2 hz, a310_3 hz, a310_4 hz, a310_5 hz, a310_6 hz, a310_7 hz, k309 hz, g309_0 hz]
  grind [bI]
theorem m_mIsPhrase (hz : zok z) {c : Int32} : run (d + 1) 118 [.ref (z.1 + 309), .int c] (wld z M p) = some (some (.int (bI (0 ≤ c ∧ c < M (z.1 + 310) 2))), wld z M p) := by
  rw [r118]
  simp only [e118_0, e118_1, e118_4, e118_5, e118_6, e118_9, e118_10, e118_11, e118_14, e118_15, e118_18, e118_19, lk, lset, ldel, lset2, ldel2, cat2, gI_int, gA_ref, gA_null, gV_some, gC_some, gL_long, Option.toList, List.cons_append, List.nil_append, List.length_cons, List.length_nil, Nat.reduceEqDiff, Nat.reduceAdd, Nat.reduceSub, Nat.reduceLeDiff, Nat.reduceLT, nb0, nb1, reduceIte, reduceCtorEq, and_false, and_true, false_and, true_and, if_true, if_false, Bool.false_eq_true, eq_self, not_true_eq_false, not_false_eq_true, a310_0 hz, a310_1 hz, a310_2 hz, a310_3 hz, a310_4 hz, a310_5 hz, a310_6 hz, a310_7 hz, k309 hz, g309_0 hz]
  grind [bI]
theorem m_mIsPage (hz : zok z) (hc : cnt (M (z.1 + 310)) nc nh np) {c g : Int32} : run (d + 2) 117 [.ref (z.1 + 309), .int c, .int g] (wld z M p) = some (some (.int (bI (pageP (M (z.1 + 310)) c g))), wld z M p) := by
  rw [r117]
  rcases nI_case (n := c) hc.2.2.1 (by have := hc.2.2.2.1; omega) with ⟨i, hi, rfl⟩ | hn
  · have hi2 : i < 10 := by have := hc.2.2.2.1; omega
    have e : pageP (M (z.1 + 310)) (nI i) g ↔ (0 ≤ g ∧ g < M (z.1 + 310) (18 + 4 * i + 1)) := by
      unfold pageP
      rw [nI_clamp (by omega), hc.2.2.1]
      exact ⟨fun q => q.2, fun q => ⟨nI_in2 hi (by have := hc.2.2.2.1; omega), q⟩⟩
    have e1 : 0 ≤ nI i ∧ nI i < M (z.1 + 310) 1 := by rw [hc.2.2.1]; exact nI_in2 hi (by have := hc.2.2.2.1; omega)
    simp only [e117_0, e117_1, e117_2, e117_5, e117_8, e117_9, e117_12, e117_13, e117_14, e117_15, e117_16, e117_19, e117_22, e117_23, e117_26, e117_27, lk, lset, ldel, lset2, ldel2, cat2, gI_int, gA_ref, gA_null, gV_some, gC_some, gL_long, Option.toList, List.cons_append, List.nil_append, List.length_cons, List.length_nil, Nat.reduceEqDiff, Nat.reduceAdd, Nat.reduceSub, Nat.reduceLeDiff, Nat.reduceLT, nb0, nb1, reduceIte, reduceCtorEq, and_false, and_true, false_and, true_and, if_true, if_false, Bool.false_eq_true, eq_self, not_true_eq_false, not_false_eq_true, a310_0 hz, a310_1 hz, a310_2 hz, a310_3 hz, a310_4 hz, a310_5 hz, a310_6 hz, a310_7 hz, k309 hz, g309_0 hz, m_mIsChapter hz, bI_0, m_ofChapter1 hz hi2, e1]
    unfold bI
    simp only [e]
    grind
  · have e : ¬ pageP (M (z.1 + 310)) c g := fun q => hn q.1
    simp only [e117_0, e117_1, e117_2, e117_5, e117_8, e117_9, e117_12, e117_13, e117_14, e117_15, e117_16, e117_19, e117_22, e117_23, e117_26, e117_27, lk, lset, ldel, lset2, ldel2, cat2, gI_int, gA_ref, gA_null, gV_some, gC_some, gL_long, Option.toList, List.cons_append, List.nil_append, List.length_cons, List.length_nil, Nat.reduceEqDiff, Nat.reduceAdd, Nat.reduceSub, Nat.reduceLeDiff, Nat.reduceLT, nb0, nb1, reduceIte, reduceCtorEq, and_false, and_true, false_and, true_and, if_true, if_false, Bool.false_eq_true, eq_self, not_true_eq_false, not_false_eq_true, a310_0 hz, a310_1 hz, a310_2 hz, a310_3 hz, a310_4 hz, a310_5 hz, a310_6 hz, a310_7 hz, k309 hz, g309_0 hz, m_mIsChapter hz, bI_0, hn]
    unfold bI
    rw [if_neg e]
theorem m_mIsFree (hz : zok z) {i : Nat} (hi : i < 24) : run (d + 2) 123 [.ref (z.1 + 309), .int (nI i)] (wld z M p) = some (some (.int (bI (M (z.1 + 310) (58 + 10 * i + 4) < 0))), wld z M p) := by
  rw [r123]
  simp only [e123_0, e123_1, e123_2, e123_3, e123_6, e123_9, e123_10, e123_13, e123_14, lk, lset, ldel, lset2, ldel2, cat2, gI_int, gA_ref, gA_null, gV_some, gC_some, gL_long, Option.toList, List.cons_append, List.nil_append, List.length_cons, List.length_nil, Nat.reduceEqDiff, Nat.reduceAdd, Nat.reduceSub, Nat.reduceLeDiff, Nat.reduceLT, nb0, nb1, reduceIte, reduceCtorEq, and_false, and_true, false_and, true_and, if_true, if_false, Bool.false_eq_true, eq_self, not_true_eq_false, not_false_eq_true, a310_0 hz, a310_1 hz, a310_2 hz, a310_3 hz, a310_4 hz, a310_5 hz, a310_6 hz, a310_7 hz, k309 hz, g309_0 hz, m_of4 hz hi]
  grind [bI]
theorem m_mIsLent (hz : zok z) {i : Nat} (hi : i < 24) : run (d + 2) 124 [.ref (z.1 + 309), .int (nI i)] (wld z M p) = some (some (.int (bI (0 ≤ M (z.1 + 310) (58 + 10 * i + 6)))), wld z M p) := by
  rw [r124]
  simp only [e124_0, e124_1, e124_2, e124_4, e124_7, e124_10, e124_11, e124_14, e124_15, lk, lset, ldel, lset2, ldel2, cat2, gI_int, gA_ref, gA_null, gV_some, gC_some, gL_long, Option.toList, List.cons_append, List.nil_append, List.length_cons, List.length_nil, Nat.reduceEqDiff, Nat.reduceAdd, Nat.reduceSub, Nat.reduceLeDiff, Nat.reduceLT, nb0, nb1, reduceIte, reduceCtorEq, and_false, and_true, false_and, true_and, if_true, if_false, Bool.false_eq_true, eq_self, not_true_eq_false, not_false_eq_true, a310_0 hz, a310_1 hz, a310_2 hz, a310_3 hz, a310_4 hz, a310_5 hz, a310_6 hz, a310_7 hz, k309 hz, g309_0 hz, m_of6 hz hi]
  grind [bI]
theorem m_bookOf (hz : zok z) {i c : Nat} (hi : i < 24) (hc : c < 10) (h : M (z.1 + 310) (58 + 10 * i + 4) = nI c) : run (d + 2) 125 [.ref (z.1 + 309), .int (nI i)] (wld z M p) = some (some (.int (M (z.1 + 310) (18 + 4 * c + 0))), wld z M p) := by
  rw [r125]
  simp only [e125_0, e125_1, e125_2, e125_3, e125_4, e125_7, e125_8, e125_11, lk, lset, ldel, lset2, ldel2, cat2, gI_int, gA_ref, gA_null, gV_some, gC_some, gL_long, Option.toList, List.cons_append, List.nil_append, List.length_cons, List.length_nil, Nat.reduceEqDiff, Nat.reduceAdd, Nat.reduceSub, Nat.reduceLeDiff, Nat.reduceLT, nb0, nb1, reduceIte, reduceCtorEq, and_false, and_true, false_and, true_and, if_true, if_false, Bool.false_eq_true, eq_self, not_true_eq_false, not_false_eq_true, a310_0 hz, a310_1 hz, a310_2 hz, a310_3 hz, a310_4 hz, a310_5 hz, a310_6 hz, a310_7 hz, k309 hz, g309_0 hz, m_of4 hz hi, h, m_ofChapter0 hz hc]
theorem m_mAreWords {a b c : Int32} {w : Wd} : run (d + 2) 128 [.int a, .int b, .int c] w = some (some (.int (bI (wordsOk a b c))), w) := by
  rw [r128]
  simp only [e128_0, e128_1, e128_2, e128_4, e128_7, e128_10, e128_11, e128_12, e128_14, e128_17, e128_20, e128_21, e128_22, e128_23, e128_26, e128_27, e128_30, e128_32, e128_35, e128_38, e128_39, e128_42, e128_43, lk, lset, ldel, lset2, ldel2, cat2, gI_int, gA_ref, gA_null, gV_some, gC_some, gL_long, Option.toList, List.cons_append, List.nil_append, List.length_cons, List.length_nil, Nat.reduceEqDiff, Nat.reduceAdd, Nat.reduceSub, Nat.reduceLeDiff, Nat.reduceLT, nb0, nb1, reduceIte, reduceCtorEq, and_false, and_true, false_and, true_and, if_true, if_false, Bool.false_eq_true, eq_self, not_true_eq_false, not_false_eq_true, m_in, bI_0]
  unfold wordsOk bI
  grind
def freeF (F : Nat → Int32) (i : Nat) : Nat → Int32 := fset (fset (fset (fset (fset F (58 + 10 * i + 4) (-1)) (58 + 10 * i + 5) (-1)) (58 + 10 * i + 6) (-1)) (58 + 10 * i + 7) (-1)) (58 + 10 * i + 8) (-1)
theorem m_goesFree (hz : zok z) {i : Nat} (hi : i < 24) : run (d + 2) 130 [.ref (z.1 + 309), .int (nI i)] (wld z M p) = some (none, wld z (mput M (z.1 + 310) (freeF (M (z.1 + 310)) i)) p) := by
  rw [r130]
  simp only [e130_0, e130_1, e130_2, e130_3, e130_4, e130_7, e130_8, e130_9, e130_10, e130_11, e130_14, e130_15, e130_16, e130_18, e130_19, e130_22, e130_23, e130_24, e130_26, e130_27, e130_30, e130_31, e130_32, e130_34, e130_35, e130_38, lk, lset, ldel, lset2, ldel2, cat2, gI_int, gA_ref, gA_null, gV_some, gC_some, gL_long, Option.toList, List.cons_append, List.nil_append, List.length_cons, List.length_nil, Nat.reduceEqDiff, Nat.reduceAdd, Nat.reduceSub, Nat.reduceLeDiff, Nat.reduceLT, nb0, nb1, reduceIte, reduceCtorEq, and_false, and_true, false_and, true_and, if_true, if_false, Bool.false_eq_true, eq_self, not_true_eq_false, not_false_eq_true, mput_same, mput_mput, fset_same, a310_0 hz, a310_1 hz, a310_2 hz, a310_3 hz, a310_4 hz, a310_5 hz, a310_6 hz, a310_7 hz, k309 hz, g309_0 hz, m_sets4 hz hi, m_sets5 hz hi, m_sets6 hz hi, m_sets7 hz hi, m_sets8 hz hi]
  rfl
def putsF (F : Nat → Int32) (i : Nat) (c g : Int32) : Nat → Int32 := fset (fset F (58 + 10 * i + 4) c) (58 + 10 * i + 5) g
theorem m_puts (hz : zok z) {i : Nat} (hi : i < 24) {c g : Int32} : run (d + 2) 133 [.ref (z.1 + 309), .int (nI i), .int c, .int g] (wld z M p) = some (none, wld z (mput M (z.1 + 310) (putsF (M (z.1 + 310)) i c g)) p) := by
  rw [r133]
  simp only [e133_0, e133_1, e133_2, e133_3, e133_4, e133_7, e133_8, e133_9, e133_10, e133_11, e133_14, lk, lset, ldel, lset2, ldel2, cat2, gI_int, gA_ref, gA_null, gV_some, gC_some, gL_long, Option.toList, List.cons_append, List.nil_append, List.length_cons, List.length_nil, Nat.reduceEqDiff, Nat.reduceAdd, Nat.reduceSub, Nat.reduceLeDiff, Nat.reduceLT, nb0, nb1, reduceIte, reduceCtorEq, and_false, and_true, false_and, true_and, if_true, if_false, Bool.false_eq_true, eq_self, not_true_eq_false, not_false_eq_true, mput_same, mput_mput, fset_same, a310_0 hz, a310_1 hz, a310_2 hz, a310_3 hz, a310_4 hz, a310_5 hz, a310_6 hz, a310_7 hz, k309 hz, g309_0 hz, m_sets4 hz hi, m_sets5 hz hi]
  rfl
def mhomeF (F : Nat → Int32) (i : Nat) : Nat → Int32 := putsF (freeF F i) i (F (58 + 10 * i + 7)) (F (58 + 10 * i + 8))
theorem m_goesHome (hz : zok z) {i : Nat} (hi : i < 24) : run (d + 3) 137 [.ref (z.1 + 309), .int (nI i)] (wld z M p) = some (none, wld z (mput M (z.1 + 310) (mhomeF (M (z.1 + 310)) i)) p) := by
  rw [r137]
  simp only [e137_0, e137_1, e137_2, e137_4, e137_7, e137_8, e137_9, e137_10, e137_12, e137_15, e137_16, e137_17, e137_18, e137_21, e137_22, e137_23, e137_24, e137_25, e137_28, lk, lset, ldel, lset2, ldel2, cat2, gI_int, gA_ref, gA_null, gV_some, gC_some, gL_long, Option.toList, List.cons_append, List.nil_append, List.length_cons, List.length_nil, Nat.reduceEqDiff, Nat.reduceAdd, Nat.reduceSub, Nat.reduceLeDiff, Nat.reduceLT, nb0, nb1, reduceIte, reduceCtorEq, and_false, and_true, false_and, true_and, if_true, if_false, Bool.false_eq_true, eq_self, not_true_eq_false, not_false_eq_true, mput_same, mput_mput, fset_same, a310_0 hz, a310_1 hz, a310_2 hz, a310_3 hz, a310_4 hz, a310_5 hz, a310_6 hz, a310_7 hz, k309 hz, g309_0 hz, m_of7 hz hi, m_of8 hz hi, m_goesFree hz hi, m_puts hz hi]
  rfl
theorem m_mWorth (hz : zok z) {i : Nat} (hi : i < 10) : run (d + 2) 138 [.ref (z.1 + 309), .int (nI i)] (wld z M p) = some (some (.int (M (z.1 + 310) (18 + 4 * i + 2) * (if 0 ≤ lossF (M (z.1 + 310)) i then lossF (M (z.1 + 310)) i else 0) / 100)), wld z M p) := by
  rw [r138]
  simp only [e138_0, e138_2, e138_3, e138_6, e138_8, e138_9, e138_10, e138_13, e138_14, e138_15, e138_16, e138_17, e138_18, e138_21, e138_22, e138_23, e138_24, e138_25, e138_26, e138_27, e138_28, e138_31, e138_32, e138_35, e138_36, e138_39, e138_40, e138_41, e138_43, e138_44, lk, lset, ldel, lset2, ldel2, cat2, gI_int, gA_ref, gA_null, gV_some, gC_some, gL_long, Option.toList, List.cons_append, List.nil_append, List.length_cons, List.length_nil, Nat.reduceEqDiff, Nat.reduceAdd, Nat.reduceSub, Nat.reduceLeDiff, Nat.reduceLT, nb0, nb1, reduceIte, reduceCtorEq, and_false, and_true, false_and, true_and, if_true, if_false, Bool.false_eq_true, eq_self, not_true_eq_false, not_false_eq_true, a310_0 hz, a310_1 hz, a310_2 hz, a310_3 hz, a310_4 hz, a310_5 hz, a310_6 hz, a310_7 hz, k309 hz, g309_0 hz, m_ofChapter3 hz hi, m_ofChapter2 hz hi]
  have n0 : ¬ (100 : Int32) = 0 := by decide
  unfold lossF
  by_cases h : 0 ≤ 100 - M (z.1 + 310) 7 * (M (z.1 + 310) 3 - M (z.1 + 310) (18 + 4 * i + 3)) <;> simp only [h, n0, if_true, if_false]
end MD
