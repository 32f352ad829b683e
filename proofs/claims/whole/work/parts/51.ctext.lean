/-! the class: the text, an order read -/
def chok (x : Int32) : Prop := 0 ≤ x ∧ x ≤ 126
theorem chok_nar {x : Int32} (h : chok x) : narrow .char (.int x) = .int x := by
  obtain ⟨k, hk, rfl⟩ := upto (m := 127) (n := 127) (by decide +kernel) (by omega) ⟨h.1, Int32.lt_of_le_of_lt h.2 (by decide)⟩
  have : ∀ k, k < 127 → narrow .char (.int (nI k)) = .int (nI k) := by decide +kernel
  exact this k hk
theorem chok_mod {x : Int32} (h : chok x) : (x.toUInt32 % 65536).toInt32 = x := by
  obtain ⟨k, hk, rfl⟩ := upto (m := 127) (n := 127) (by decide +kernel) (by omega) ⟨h.1, Int32.lt_of_le_of_lt h.2 (by decide)⟩
  have : ∀ k, k < 127 → ((nI k).toUInt32 % 65536).toInt32 = nI k := by decide +kernel
  exact this k hk
section CT
variable {z : Zt} {d : Nat} {p : Nat → Nat} {k : Nat}
theorem m_append {M : Nat → Nat → Int32} (hz : zok z) (hk : M (z.1 + 304) 1 = nI k) (hk60 : k < 60) {c : Int32} (hx : 32 ≤ c ∧ c ≤ 126) : run (d + 2) 74 [.ref (z.1 + 304), .int c] (wld z M p) = some (some (.int (nI (k + 1))), wld z (mput (mput M (z.1 + 305) (fset (M (z.1 + 305)) k c)) (z.1 + 304) (fset (M (z.1 + 304)) 1 (nI (k + 1)))) p) := by
  have hc : chok c := ⟨Int32.le_trans (by decide) hx.1, hx.2⟩
  have q1 : z.1 + 304 ≠ z.1 + 305 := by omega
  have g : nI k < 60 := by
    have := nI_lt (a := k) (b := 60) hk60 (by omega)
    rwa [show nI 60 = 60 from by decide +kernel] at this
  rw [r74]
  simp only [e74_0, e74_1, e74_3, e74_5, e74_8, e74_11, e74_13, e74_14, e74_15, e74_18, e74_20, e74_23, e74_25, e74_26, e74_27, e74_30, e74_31, e74_34, e74_35, e74_36, e74_37, e74_38, e74_38a, e74_39, e74_42, e74_43, e74_44, e74_47, e74_48, e74_51, lk, lset, ldel, lset2, ldel2, cat2, gI_int, gA_ref, gA_null, gV_some, gC_some, gL_long, Option.toList, List.cons_append, List.nil_append, List.length_cons, List.length_nil, Nat.reduceEqDiff, Nat.reduceAdd, Nat.reduceSub, Nat.reduceLeDiff, Nat.reduceLT, nb0, nb1, reduceIte, reduceCtorEq, and_false, and_true, false_and, true_and, if_true, if_false, Bool.false_eq_true, eq_self, not_true_eq_false, not_false_eq_true, mput_same, mput_mput, fset_same, ite_not, Classical.not_not, true_or, false_or, or_true, or_false, or_self, and_self, not_or, mput_self, bI_0, g0_0 hz, g0_1 hz, g0_2 hz, g0_3 hz, g0_4 hz, g0_5 hz, g0_6 hz, p0_6 hz, k0 hz, g130_0 hz, g130_1 hz, p130_1 hz, k130 hz, g304_0 hz, g304_1 hz, p304_1 hz, k304 hz, g306_0 hz, g306_1 hz, g306_2 hz, g306_3 hz, g306_4 hz, p306_1 hz, p306_2 hz, p306_3 hz, p306_4 hz, k306 hz, g307_0 hz, g307_1 hz, g307_2 hz, g307_3 hz, p307_1 hz, p307_2 hz, p307_3 hz, k307 hz, m_within, hx, hk, g, chok_mod hc, chok_nar hc, s305 hz hk60, mput_ne q1, nI_1]
theorem m_appendFull {M : Nat → Nat → Int32} (hz : zok z) (hk : M (z.1 + 304) 1 = nI 60) {c : Int32} (hx : 32 ≤ c ∧ c ≤ 126) : run (d + 2) 74 [.ref (z.1 + 304), .int c] (wld z M p) = some (some (.int (-100003)), wld z M p) := by
  rw [show nI 60 = 60 from by decide +kernel] at hk
  have g : ¬ (60 : Int32) < 60 := by decide
  rw [r74]
  simp only [e74_0, e74_1, e74_3, e74_5, e74_8, e74_11, e74_13, e74_14, e74_15, e74_18, e74_20, e74_23, e74_25, e74_26, e74_27, e74_30, e74_31, e74_34, e74_35, e74_36, e74_37, e74_38, e74_38a, e74_39, e74_42, e74_43, e74_44, e74_47, e74_48, e74_51, lk, lset, ldel, lset2, ldel2, cat2, gI_int, gA_ref, gA_null, gV_some, gC_some, gL_long, Option.toList, List.cons_append, List.nil_append, List.length_cons, List.length_nil, Nat.reduceEqDiff, Nat.reduceAdd, Nat.reduceSub, Nat.reduceLeDiff, Nat.reduceLT, nb0, nb1, reduceIte, reduceCtorEq, and_false, and_true, false_and, true_and, if_true, if_false, Bool.false_eq_true, eq_self, not_true_eq_false, not_false_eq_true, ite_not, Classical.not_not, true_or, false_or, or_true, or_false, or_self, and_self, not_or, mput_self, bI_0, g0_0 hz, g0_1 hz, g0_2 hz, g0_3 hz, g0_4 hz, g0_5 hz, g0_6 hz, p0_6 hz, k0 hz, g130_0 hz, g130_1 hz, p130_1 hz, k130 hz, g304_0 hz, g304_1 hz, p304_1 hz, k304 hz, g306_0 hz, g306_1 hz, g306_2 hz, g306_3 hz, g306_4 hz, p306_1 hz, p306_2 hz, p306_3 hz, p306_4 hz, k306 hz, g307_0 hz, g307_1 hz, g307_2 hz, g307_3 hz, p307_1 hz, p307_2 hz, p307_3 hz, k307 hz, m_within, hx, hk, g]
theorem m_appendNo {c : Int32} {w : Wd} {a : Nat} (hx : ¬ (32 ≤ c ∧ c ≤ 126)) : run (d + 2) 74 [.ref a, .int c] w = some (some (.int (-100001)), w) := by
  rw [r74]
  simp only [e74_0, e74_1, e74_3, e74_5, e74_8, e74_11, e74_13, e74_14, e74_15, e74_18, e74_20, e74_23, e74_25, e74_26, e74_27, e74_30, e74_31, e74_34, e74_35, e74_36, e74_37, e74_38, e74_38a, e74_39, e74_42, e74_43, e74_44, e74_47, e74_48, e74_51, lk, lset, ldel, lset2, ldel2, cat2, gI_int, gA_ref, gA_null, gV_some, gC_some, gL_long, Option.toList, List.cons_append, List.nil_append, List.length_cons, List.length_nil, Nat.reduceEqDiff, Nat.reduceAdd, Nat.reduceSub, Nat.reduceLeDiff, Nat.reduceLT, nb0, nb1, reduceIte, reduceCtorEq, and_false, and_true, false_and, true_and, if_true, if_false, Bool.false_eq_true, eq_self, not_true_eq_false, not_false_eq_true, ite_not, Classical.not_not, true_or, false_or, or_true, or_false, or_self, and_self, not_or, mput_self, bI_0, m_within, hx]
theorem m_empty {M : Nat → Nat → Int32} (hz : zok z) : run (d + 1) 75 [.ref (z.1 + 304)] (wld z M p) = some (some (.int (M (z.1 + 304) 1)), wld z (mput M (z.1 + 304) (fset (M (z.1 + 304)) 1 0)) p) := by
  rw [r75]
  simp only [e75_0, e75_1, e75_4, e75_5, e75_6, e75_7, e75_10, e75_11, lk, lset, ldel, lset2, ldel2, cat2, gI_int, gA_ref, gA_null, gV_some, gC_some, gL_long, Option.toList, List.cons_append, List.nil_append, List.length_cons, List.length_nil, Nat.reduceEqDiff, Nat.reduceAdd, Nat.reduceSub, Nat.reduceLeDiff, Nat.reduceLT, nb0, nb1, reduceIte, reduceCtorEq, and_false, and_true, false_and, true_and, if_true, if_false, Bool.false_eq_true, eq_self, not_true_eq_false, not_false_eq_true, lk_same, lk_same2, lk_k1, lk_k1r, lk_ldN, ne_eq, g0_0 hz, g0_1 hz, g0_2 hz, g0_3 hz, g0_4 hz, g0_5 hz, g0_6 hz, p0_6 hz, k0 hz, g130_0 hz, g130_1 hz, p130_1 hz, k130 hz, g304_0 hz, g304_1 hz, p304_1 hz, k304 hz, g306_0 hz, g306_1 hz, g306_2 hz, g306_3 hz, g306_4 hz, p306_1 hz, p306_2 hz, p306_3 hz, p306_4 hz, k306 hz, g307_0 hz, g307_1 hz, g307_2 hz, g307_3 hz, p307_1 hz, p307_2 hz, p307_3 hz, k307 hz]
def txok (M : Nat → Nat → Int32) (z : Zt) (k : Nat) : Prop := M (z.1 + 304) 1 = nI k ∧ k ≤ 60 ∧ ∀ j, j < k → chok (M (z.1 + 305) j)
theorem m_signAt {M : Nat → Nat → Int32} (hz : zok z) (ht : txok M z k) {e : Nat} (he : e ≤ 2000) : run (d + 1) 76 [.ref (z.1 + 304), .int (nI e)] (wld z M p) = some (some (.int (sg k (M (z.1 + 305)) e)), wld z M p) := by
  obtain ⟨h1, h2, h3⟩ := ht
  rw [r76]
  have n0 : ¬ nI e < 0 := nI_pos (by omega)
  unfold sg
  by_cases h : e < k
  · have g := nI_goon (i := e) (n := k) h (by omega)
    simp only [e76_0, e76_1, e76_4, e76_5, e76_6, e76_9, e76_12, e76_13, e76_16, e76_17, e76_18, e76_21, e76_22, lk, lset, ldel, lset2, ldel2, cat2, gI_int, gA_ref, gA_null, gV_some, gC_some, gL_long, Option.toList, List.cons_append, List.nil_append, List.length_cons, List.length_nil, Nat.reduceEqDiff, Nat.reduceAdd, Nat.reduceSub, Nat.reduceLeDiff, Nat.reduceLT, nb0, nb1, reduceIte, reduceCtorEq, and_false, and_true, false_and, true_and, if_true, if_false, Bool.false_eq_true, eq_self, not_true_eq_false, not_false_eq_true, g0_0 hz, g0_1 hz, g0_2 hz, g0_3 hz, g0_4 hz, g0_5 hz, g0_6 hz, p0_6 hz, k0 hz, g130_0 hz, g130_1 hz, p130_1 hz, k130 hz, g304_0 hz, g304_1 hz, p304_1 hz, k304 hz, g306_0 hz, g306_1 hz, g306_2 hz, g306_3 hz, g306_4 hz, p306_1 hz, p306_2 hz, p306_3 hz, p306_4 hz, k306 hz, g307_0 hz, g307_1 hz, g307_2 hz, g307_3 hz, p307_1 hz, p307_2 hz, p307_3 hz, k307 hz, n0, h1, g, h, a305 hz (show e < 60 by omega), chok_nar (h3 e h)]
  · have g := nI_stop (i := e) (n := k) (by omega) (by omega)
    have c0 : narrow .char (.int 0) = .int 0 := by decide +kernel
    simp only [e76_0, e76_1, e76_4, e76_5, e76_6, e76_9, e76_12, e76_13, e76_16, e76_17, e76_18, e76_21, e76_22, lk, lset, ldel, lset2, ldel2, cat2, gI_int, gA_ref, gA_null, gV_some, gC_some, gL_long, Option.toList, List.cons_append, List.nil_append, List.length_cons, List.length_nil, Nat.reduceEqDiff, Nat.reduceAdd, Nat.reduceSub, Nat.reduceLeDiff, Nat.reduceLT, nb0, nb1, reduceIte, reduceCtorEq, and_false, and_true, false_and, true_and, if_true, if_false, Bool.false_eq_true, eq_self, not_true_eq_false, not_false_eq_true, g0_0 hz, g0_1 hz, g0_2 hz, g0_3 hz, g0_4 hz, g0_5 hz, g0_6 hz, p0_6 hz, k0 hz, g130_0 hz, g130_1 hz, p130_1 hz, k130 hz, g304_0 hz, g304_1 hz, p304_1 hz, k304 hz, g306_0 hz, g306_1 hz, g306_2 hz, g306_3 hz, g306_4 hz, p306_1 hz, p306_2 hz, p306_3 hz, p306_4 hz, k306 hz, g307_0 hz, g307_1 hz, g307_2 hz, g307_3 hz, p307_1 hz, p307_2 hz, p307_3 hz, k307 hz, n0, h1, g, h, c0]
theorem numV_c {g : Nat → Int32} {e : Nat} : numV g e = if dig (g (e + 1)) then (g e - 48) * 10 + (g (e + 1) - 48) else g e - 48 := by
  unfold numV
  by_cases h : dig (g (e + 1))
  · rw [if_pos h, if_pos h]; grind
  · rw [if_neg h, if_neg h]; grind
theorem m_readNumber {M : Nat → Nat → Int32} (hz : zok z) (ht : txok M z k) {e : Nat} (he : e ≤ 1000) (h3 : M (z.1 + 307) 3 = nI e) : run (d + 2) 11 [.ref (z.1 + 307), .ref (z.1 + 304)] (wld z M p) = some (some (.int (numV (sg k (M (z.1 + 305))) e)), wld z (mput M (z.1 + 307) (fset (M (z.1 + 307)) 3 (nI (numE (sg k (M (z.1 + 305))) e)))) p) := by
  have q1 : z.1 + 304 ≠ z.1 + 307 := by omega
  have q2 : z.1 + 305 ≠ z.1 + 307 := by omega
  have i0 := m_signAt (d := d) (p := p) hz ht (e := e) (by omega)
  have ht1 : txok (mput M (z.1 + 307) (fset (M (z.1 + 307)) 3 (nI (e + 1)))) z k := by
    unfold txok; rw [mput_ne q1, mput_ne q2]; exact ht
  have i1 := m_signAt (d := d) (p := p) hz ht1 (e := e + 1) (by omega)
  rw [mput_ne q2] at i1
  rw [numV_c]
  unfold numE
  rw [r11]
  by_cases h : dig (sg k (M (z.1 + 305)) (e + 1))
  · have h' := eq_true h
    rw [if_pos h, if_pos h]
    simp only [e11_0, e11_1, e11_2, e11_5, e11_8, e11_10, e11_11, e11_12, e11_13, e11_13a, e11_14, e11_17, e11_18, e11_19, e11_22, e11_23, e11_24, e11_27, e11_30, e11_33, e11_36, e11_37, e11_39, e11_40, e11_41, e11_42, e11_45, e11_48, e11_50, e11_51, e11_52, e11_53, e11_54, e11_54a, e11_55, e11_58, e11_59, e11_60, e11_63, e11_64, lk, lset, ldel, lset2, ldel2, cat2, gI_int, gA_ref, gA_null, gV_some, gC_some, gL_long, Option.toList, List.cons_append, List.nil_append, List.length_cons, List.length_nil, Nat.reduceEqDiff, Nat.reduceAdd, Nat.reduceSub, Nat.reduceLeDiff, Nat.reduceLT, nb0, nb1, reduceIte, reduceCtorEq, and_false, and_true, false_and, true_and, if_true, if_false, Bool.false_eq_true, eq_self, not_true_eq_false, not_false_eq_true, mput_same, mput_mput, fset_same, ite_not, Classical.not_not, true_or, false_or, or_true, or_false, or_self, and_self, not_or, mput_self, bI_0, lk_same, lk_same2, lk_k1, lk_k1r, lk_ldN, ne_eq, g0_0 hz, g0_1 hz, g0_2 hz, g0_3 hz, g0_4 hz, g0_5 hz, g0_6 hz, p0_6 hz, k0 hz, g130_0 hz, g130_1 hz, p130_1 hz, k130 hz, g304_0 hz, g304_1 hz, p304_1 hz, k304 hz, g306_0 hz, g306_1 hz, g306_2 hz, g306_3 hz, g306_4 hz, p306_1 hz, p306_2 hz, p306_3 hz, p306_4 hz, k306 hz, g307_0 hz, g307_1 hz, g307_2 hz, g307_3 hz, p307_1 hz, p307_2 hz, p307_3 hz, k307 hz, fset_fset, m_isDigit, i0, i1, h3, nI_1, h']
  · have h' := eq_false h
    rw [if_neg h, if_neg h]
    simp only [e11_0, e11_1, e11_2, e11_5, e11_8, e11_10, e11_11, e11_12, e11_13, e11_13a, e11_14, e11_17, e11_18, e11_19, e11_22, e11_23, e11_24, e11_27, e11_30, e11_33, e11_36, e11_37, e11_39, e11_40, e11_41, e11_42, e11_45, e11_48, e11_50, e11_51, e11_52, e11_53, e11_54, e11_54a, e11_55, e11_58, e11_59, e11_60, e11_63, e11_64, lk, lset, ldel, lset2, ldel2, cat2, gI_int, gA_ref, gA_null, gV_some, gC_some, gL_long, Option.toList, List.cons_append, List.nil_append, List.length_cons, List.length_nil, Nat.reduceEqDiff, Nat.reduceAdd, Nat.reduceSub, Nat.reduceLeDiff, Nat.reduceLT, nb0, nb1, reduceIte, reduceCtorEq, and_false, and_true, false_and, true_and, if_true, if_false, Bool.false_eq_true, eq_self, not_true_eq_false, not_false_eq_true, mput_same, mput_mput, fset_same, ite_not, Classical.not_not, true_or, false_or, or_true, or_false, or_self, and_self, not_or, mput_self, bI_0, lk_same, lk_same2, lk_k1, lk_k1r, lk_ldN, ne_eq, g0_0 hz, g0_1 hz, g0_2 hz, g0_3 hz, g0_4 hz, g0_5 hz, g0_6 hz, p0_6 hz, k0 hz, g130_0 hz, g130_1 hz, p130_1 hz, k130 hz, g304_0 hz, g304_1 hz, p304_1 hz, k304 hz, g306_0 hz, g306_1 hz, g306_2 hz, g306_3 hz, g306_4 hz, p306_1 hz, p306_2 hz, p306_3 hz, p306_4 hz, k306 hz, g307_0 hz, g307_1 hz, g307_2 hz, g307_3 hz, p307_1 hz, p307_2 hz, p307_3 hz, k307 hz, fset_fset, m_isDigit, i0, i1, h3, nI_1, h']
def rdN (g : Nat → Int32) (f e i : Nat) (T : Nat → Int32) : Option (Nat × Nat × (Nat → Int32)) := if dig (g e) then restN g f (numE g e) (i + 1) (fset T i (numV g e)) else none
theorem parN_rd {g : Nat → Int32} {s : Nat} {T : Nat → Int32} : parN g s T = rdN g 3 (s + 1) 0 T := rfl
theorem restN_rd {g : Nat → Int32} {f e a : Nat} {T : Nat → Int32} : restN g (f + 1) e a T = if g e = 44 then rdN g f (e + 1) a T else if g e = 59 then some (e + 1, a, T) else none := rfl
/-- where reading an order has written -/
def orf (z : Zt) (M M' : Nat → Nat → Int32) : Prop := (∀ x, x ≠ z.1 + 307 → x ≠ z.1 + 308 → M' x = M x) ∧ M' (z.1 + 307) 1 = M (z.1 + 307) 1
theorem orf.tr {z : Zt} {M M' M2 : Nat → Nat → Int32} (h : orf z M M') (h2 : orf z M' M2) : orf z M M2 := ⟨fun x a b => (h2.1 x a b).trans (h.1 x a b), h2.2.trans h.2⟩
theorem orf.p307 {z : Zt} {M : Nat → Nat → Int32} {E : Nat → Int32} (h : E 1 = M (z.1 + 307) 1) : orf z M (mput M (z.1 + 307) E) := ⟨fun x a _ => mput_ne a, by rw [mput_same]; exact h⟩
theorem orf.p308 {z : Zt} {M : Nat → Nat → Int32} {E : Nat → Int32} : orf z M (mput M (z.1 + 308) E) := ⟨fun x _ b => mput_ne b, by rw [mput_ne (by omega)]⟩
theorem txok_or {M M' : Nat → Nat → Int32} (h : txok M z k) (ho : orf z M M') : txok M' z k := by
  unfold txok
  rw [ho.1 (z.1 + 304) (by omega) (by omega), ho.1 (z.1 + 305) (by omega) (by omega)]
  exact h
theorem s_rdn {M : Nat → Nat → Int32} (hz : zok z) (ht : txok M z k) {i e : Nat} (hi : i ≤ 3) (h3 : M (z.1 + 307) 3 = nI e) (h2 : M (z.1 + 307) 2 = nI i) (hd : dig (sg k (M (z.1 + 305)) e)) {M3 : Nat → Nat → Int32} (hM3 : M3 = mput (mput (mput M (z.1 + 307) (fset (M (z.1 + 307)) 3 (nI (numE (sg k (M (z.1 + 305))) e)))) (z.1 + 308) (fset (M (z.1 + 308)) i (numV (sg k (M (z.1 + 305))) e))) (z.1 + 307) (fset (fset (fset (M (z.1 + 307)) 3 (nI (numE (sg k (M (z.1 + 305))) e))) 2 (nI (i + 1))) 3 (nI (numE (sg k (M (z.1 + 305))) e + 1)))) {rest : List (Nat × Value)} : X (d + 2) 10 2 ((0, .ref (z.1 + 307)) :: (1, .ref (z.1 + 304)) :: (2, .int (nI i)) :: rest) [] (wld z M p) = if sg k (M (z.1 + 305)) (numE (sg k (M (z.1 + 305))) e) = 44 then X (d + 2) 10 2 ((0, .ref (z.1 + 307)) :: (1, .ref (z.1 + 304)) :: (2, .int (nI (i + 1))) :: ldel (lset rest 3 (.int 44)) 2) [] (wld z M3 p) else if sg k (M (z.1 + 305)) (numE (sg k (M (z.1 + 305))) e) = 59 then some (some (.int 1), wld z M3 p) else some (some (.int 0), wld z M3 p) := by
  have hek := dig_lt hd
  have hk60 := ht.2.1
  have hE := numE_le (T := M (z.1 + 305)) hek
  have q1 : z.1 + 304 ≠ z.1 + 307 := by omega
  have q2 : z.1 + 305 ≠ z.1 + 307 := by omega
  have q3 : z.1 + 304 ≠ z.1 + 308 := by omega
  have q4 : z.1 + 305 ≠ z.1 + 308 := by omega
  have q5 : z.1 + 307 ≠ z.1 + 308 := by omega
  have q6 : z.1 + 308 ≠ z.1 + 307 := by omega
  have p32 : (2 : Nat) ≠ 3 := by decide
  have p23 : (3 : Nat) ≠ 2 := by decide
  have g4 : ¬ 4 ≤ nI i := by
    have := nI_goon (i := i) (n := 4) (by omega) (by omega)
    rwa [l4] at this
  have i0 := m_signAt (d := d + 1) (p := p) hz ht (e := e) (by omega)
  have i1 := m_readNumber (d := d) (p := p) hz ht (e := e) (by omega) h3
  generalize hg : sg k (M (z.1 + 305)) = g at *
  generalize hv : numV g e = v at *
  generalize he1 : numE g e = e1 at *
  have ht2 : txok (mput (mput (mput M (z.1 + 307) (fset (M (z.1 + 307)) 3 (nI e1))) (z.1 + 308) (fset (M (z.1 + 308)) i v)) (z.1 + 307) (fset (fset (M (z.1 + 307)) 3 (nI e1)) 2 (nI (i + 1)))) z k := by
    unfold txok
    rw [mput_ne q1, mput_ne q3, mput_ne q1, mput_ne q2, mput_ne q4, mput_ne q2]
    exact ht
  have i2 := m_signAt (d := d + 1) (p := p) hz ht2 (e := e1) (by omega)
  rw [mput_ne q2, mput_ne q4, mput_ne q2, hg] at i2
  have hd' := eq_true hd
  rw [e10_2, hM3]
  have r1 : ∀ (A B C : Nat → Int32), mput (mput (mput (mput M (z.1 + 307) A) (z.1 + 308) B) (z.1 + 307) C) (z.1 + 307) = mput (mput (mput M (z.1 + 307) A) (z.1 + 308) B) (z.1 + 307) := by
    intro A B C
    funext D
    exact mput_mput
  by_cases c44 : g e1 = 44
  · simp only [e10_3, e10_4, e10_7, e10_8, e10_9, e10_12, e10_15, e10_18, e10_21, e10_22, e10_23, e10_24, e10_27, e10_28, e10_29, e10_30, e10_33, e10_34, e10_35, e10_35a, e10_36, e10_39, e10_40, e10_41, e10_44, e10_45, e10_46, e10_49, e10_52, e10_53, e10_54, e10_54a, e10_55, e10_58, e10_59, e10_60, e10_63, e10_64, e10_66, e10_69, e10_70, e10_72, e10_75, e10_76, e10_79, e10_80, e10_81, e10_84, lk, lset, ldel, lset2, ldel2, cat2, gI_int, gA_ref, gA_null, gV_some, gC_some, gL_long, Option.toList, List.cons_append, List.nil_append, List.length_cons, List.length_nil, Nat.reduceEqDiff, Nat.reduceAdd, Nat.reduceSub, Nat.reduceLeDiff, Nat.reduceLT, nb0, nb1, reduceIte, reduceCtorEq, and_false, and_true, false_and, true_and, if_true, if_false, Bool.false_eq_true, eq_self, not_true_eq_false, not_false_eq_true, mput_same, mput_mput, fset_same, lk_same, lk_same2, lk_k1, lk_k1r, lk_ldN, ne_eq, g0_0 hz, g0_1 hz, g0_2 hz, g0_3 hz, g0_4 hz, g0_5 hz, g0_6 hz, p0_6 hz, k0 hz, g130_0 hz, g130_1 hz, p130_1 hz, k130 hz, g304_0 hz, g304_1 hz, p304_1 hz, k304 hz, g306_0 hz, g306_1 hz, g306_2 hz, g306_3 hz, g306_4 hz, p306_1 hz, p306_2 hz, p306_3 hz, p306_4 hz, k306 hz, g307_0 hz, g307_1 hz, g307_2 hz, g307_3 hz, p307_1 hz, p307_2 hz, p307_3 hz, k307 hz, g4, i0, m_isDigit, hd', bI_0, h3, h2, i1, s308 hz (show i < 4 by omega), mput_ne q5, mput_ne q6, fset_ne p32, fset_ne p23, nI_1, i2, c44]
  · by_cases c59 : g e1 = 59
    · simp only [e10_3, e10_4, e10_7, e10_8, e10_9, e10_12, e10_15, e10_18, e10_21, e10_22, e10_23, e10_24, e10_27, e10_28, e10_29, e10_30, e10_33, e10_34, e10_35, e10_35a, e10_36, e10_39, e10_40, e10_41, e10_44, e10_45, e10_46, e10_49, e10_52, e10_53, e10_54, e10_54a, e10_55, e10_58, e10_59, e10_60, e10_63, e10_64, e10_66, e10_69, e10_70, e10_72, e10_75, e10_76, e10_79, e10_80, e10_81, e10_84, lk, lset, ldel, lset2, ldel2, cat2, gI_int, gA_ref, gA_null, gV_some, gC_some, gL_long, Option.toList, List.cons_append, List.nil_append, List.length_cons, List.length_nil, Nat.reduceEqDiff, Nat.reduceAdd, Nat.reduceSub, Nat.reduceLeDiff, Nat.reduceLT, nb0, nb1, reduceIte, reduceCtorEq, and_false, and_true, false_and, true_and, if_true, if_false, Bool.false_eq_true, eq_self, not_true_eq_false, not_false_eq_true, mput_same, mput_mput, fset_same, lk_same, lk_same2, lk_k1, lk_k1r, lk_ldN, ne_eq, g0_0 hz, g0_1 hz, g0_2 hz, g0_3 hz, g0_4 hz, g0_5 hz, g0_6 hz, p0_6 hz, k0 hz, g130_0 hz, g130_1 hz, p130_1 hz, k130 hz, g304_0 hz, g304_1 hz, p304_1 hz, k304 hz, g306_0 hz, g306_1 hz, g306_2 hz, g306_3 hz, g306_4 hz, p306_1 hz, p306_2 hz, p306_3 hz, p306_4 hz, k306 hz, g307_0 hz, g307_1 hz, g307_2 hz, g307_3 hz, p307_1 hz, p307_2 hz, p307_3 hz, k307 hz, g4, i0, m_isDigit, hd', bI_0, h3, h2, i1, s308 hz (show i < 4 by omega), mput_ne q5, mput_ne q6, fset_ne p32, fset_ne p23, nI_1, i2, c44, c59]
      simp (config := { decide := true }) only [if_false, if_true]
    · simp only [e10_3, e10_4, e10_7, e10_8, e10_9, e10_12, e10_15, e10_18, e10_21, e10_22, e10_23, e10_24, e10_27, e10_28, e10_29, e10_30, e10_33, e10_34, e10_35, e10_35a, e10_36, e10_39, e10_40, e10_41, e10_44, e10_45, e10_46, e10_49, e10_52, e10_53, e10_54, e10_54a, e10_55, e10_58, e10_59, e10_60, e10_63, e10_64, e10_66, e10_69, e10_70, e10_72, e10_75, e10_76, e10_79, e10_80, e10_81, e10_84, lk, lset, ldel, lset2, ldel2, cat2, gI_int, gA_ref, gA_null, gV_some, gC_some, gL_long, Option.toList, List.cons_append, List.nil_append, List.length_cons, List.length_nil, Nat.reduceEqDiff, Nat.reduceAdd, Nat.reduceSub, Nat.reduceLeDiff, Nat.reduceLT, nb0, nb1, reduceIte, reduceCtorEq, and_false, and_true, false_and, true_and, if_true, if_false, Bool.false_eq_true, eq_self, not_true_eq_false, not_false_eq_true, mput_same, mput_mput, fset_same, lk_same, lk_same2, lk_k1, lk_k1r, lk_ldN, ne_eq, g0_0 hz, g0_1 hz, g0_2 hz, g0_3 hz, g0_4 hz, g0_5 hz, g0_6 hz, p0_6 hz, k0 hz, g130_0 hz, g130_1 hz, p130_1 hz, k130 hz, g304_0 hz, g304_1 hz, p304_1 hz, k304 hz, g306_0 hz, g306_1 hz, g306_2 hz, g306_3 hz, g306_4 hz, p306_1 hz, p306_2 hz, p306_3 hz, p306_4 hz, k306 hz, g307_0 hz, g307_1 hz, g307_2 hz, g307_3 hz, p307_1 hz, p307_2 hz, p307_3 hz, k307 hz, g4, i0, m_isDigit, hd', bI_0, h3, h2, i1, s308 hz (show i < 4 by omega), mput_ne q5, mput_ne q6, fset_ne p32, fset_ne p23, nI_1, i2, c44, c59]
theorem s_rdnNo {M : Nat → Nat → Int32} (hz : zok z) (ht : txok M z k) {i e : Nat} (hi : i ≤ 3) (he : e ≤ 1000) (h3 : M (z.1 + 307) 3 = nI e) (hd : ¬ dig (sg k (M (z.1 + 305)) e)) {rest : List (Nat × Value)} : X (d + 2) 10 2 ((0, .ref (z.1 + 307)) :: (1, .ref (z.1 + 304)) :: (2, .int (nI i)) :: rest) [] (wld z M p) = some (some (.int 0), wld z M p) := by
  have g4 : ¬ 4 ≤ nI i := by
    have := nI_goon (i := i) (n := 4) (by omega) (by omega)
    rwa [l4] at this
  have i0 := m_signAt (d := d + 1) (p := p) hz ht (e := e) (by omega)
  have hd' := eq_false hd
  rw [e10_2]
  simp only [e10_3, e10_4, e10_7, e10_8, e10_9, e10_12, e10_15, e10_18, e10_21, e10_22, e10_23, e10_24, e10_27, e10_28, e10_29, e10_30, e10_33, e10_34, e10_35, e10_35a, e10_36, e10_39, e10_40, e10_41, e10_44, e10_45, e10_46, e10_49, e10_52, e10_53, e10_54, e10_54a, e10_55, e10_58, e10_59, e10_60, e10_63, e10_64, e10_66, e10_69, e10_70, e10_72, e10_75, e10_76, e10_79, e10_80, e10_81, e10_84, lk, lset, ldel, lset2, ldel2, cat2, gI_int, gA_ref, gA_null, gV_some, gC_some, gL_long, Option.toList, List.cons_append, List.nil_append, List.length_cons, List.length_nil, Nat.reduceEqDiff, Nat.reduceAdd, Nat.reduceSub, Nat.reduceLeDiff, Nat.reduceLT, nb0, nb1, reduceIte, reduceCtorEq, and_false, and_true, false_and, true_and, if_true, if_false, Bool.false_eq_true, eq_self, not_true_eq_false, not_false_eq_true, mput_same, mput_mput, fset_same, lk_same, lk_same2, lk_k1, lk_k1r, lk_ldN, ne_eq, g0_0 hz, g0_1 hz, g0_2 hz, g0_3 hz, g0_4 hz, g0_5 hz, g0_6 hz, p0_6 hz, k0 hz, g130_0 hz, g130_1 hz, p130_1 hz, k130 hz, g304_0 hz, g304_1 hz, p304_1 hz, k304 hz, g306_0 hz, g306_1 hz, g306_2 hz, g306_3 hz, g306_4 hz, p306_1 hz, p306_2 hz, p306_3 hz, p306_4 hz, k306 hz, g307_0 hz, g307_1 hz, g307_2 hz, g307_3 hz, p307_1 hz, p307_2 hz, p307_3 hz, k307 hz, g4, i0, m_isDigit, hd', bI_0, h3]
theorem l_readNumbers (hz : zok z) : ∀ (f i e : Nat) (M : Nat → Nat → Int32), i + f = 3 → e ≤ 1000 → txok M z k → M (z.1 + 307) 3 = nI e → M (z.1 + 307) 2 = nI i → ∀ rest, ∃ M', X (d + 2) 10 2 ((0, .ref (z.1 + 307)) :: (1, .ref (z.1 + 304)) :: (2, .int (nI i)) :: rest) [] (wld z M p) = some (some (.int (if (rdN (sg k (M (z.1 + 305))) f e i (M (z.1 + 308))).isSome = true then 1 else 0)), wld z M' p) ∧ orf z M M' ∧ ∀ e' a' T', rdN (sg k (M (z.1 + 305))) f e i (M (z.1 + 308)) = some (e', a', T') → M' (z.1 + 307) 3 = nI e' ∧ M' (z.1 + 307) 2 = nI a' ∧ M' (z.1 + 308) = T' := by
  intro f
  have q2 : z.1 + 305 ≠ z.1 + 307 := by omega
  have q4 : z.1 + 305 ≠ z.1 + 308 := by omega
  have q5 : z.1 + 307 ≠ z.1 + 308 := by omega
  have q6 : z.1 + 308 ≠ z.1 + 307 := by omega
  have p32 : (2 : Nat) ≠ 3 := by decide
  have p12 : (1 : Nat) ≠ 2 := by decide
  have p13 : (1 : Nat) ≠ 3 := by decide
  induction f with
  | zero =>
    intro i e M hif he ht h3 h2 rest
    by_cases hd : dig (sg k (M (z.1 + 305)) e)
    · have hE := numE_le (T := M (z.1 + 305)) (dig_lt hd)
      have st := fun M3 hM3 => s_rdn (d := d) (p := p) hz ht (i := i) (e := e) (by omega) h3 h2 hd (M3 := M3) hM3 (rest := rest)
      generalize hM3 : mput (mput (mput M (z.1 + 307) (fset (M (z.1 + 307)) 3 (nI (numE (sg k (M (z.1 + 305))) e)))) (z.1 + 308) (fset (M (z.1 + 308)) i (numV (sg k (M (z.1 + 305))) e))) (z.1 + 307) (fset (fset (fset (M (z.1 + 307)) 3 (nI (numE (sg k (M (z.1 + 305))) e))) 2 (nI (i + 1))) 3 (nI (numE (sg k (M (z.1 + 305))) e + 1))) = M3 at st
      have o3 : orf z M M3 := by
        rw [← hM3]
        exact ((orf.p307 (fset_ne p13)).tr orf.p308).tr (orf.p307 (by rw [fset_ne p13, fset_ne p12, fset_ne p13, mput_ne q5, mput_same, fset_ne p13]))
      have f3 : M3 (z.1 + 307) 3 = nI (numE (sg k (M (z.1 + 305))) e + 1) := by rw [← hM3, mput_same, fset_same]
      have f2 : M3 (z.1 + 307) 2 = nI (i + 1) := by rw [← hM3, mput_same, fset_ne p32, fset_same]
      have f8 : M3 (z.1 + 308) = fset (M (z.1 + 308)) i (numV (sg k (M (z.1 + 305))) e) := by rw [← hM3, mput_ne q6, mput_same]
      have hr : rdN (sg k (M (z.1 + 305))) 0 e i (M (z.1 + 308)) = if sg k (M (z.1 + 305)) (numE (sg k (M (z.1 + 305))) e) = 59 then some (numE (sg k (M (z.1 + 305))) e + 1, i + 1, fset (M (z.1 + 308)) i (numV (sg k (M (z.1 + 305))) e)) else none := if_pos hd
      refine ⟨M3, ?_, o3, fun e' a' T' hr2 => ?_⟩
      · rw [st M3 rfl, hr]
        by_cases c44 : sg k (M (z.1 + 305)) (numE (sg k (M (z.1 + 305))) e) = 44
        · have n59 : ¬ sg k (M (z.1 + 305)) (numE (sg k (M (z.1 + 305))) e) = 59 := by rw [c44]; decide
          rw [if_pos c44, if_neg n59]
          obtain rfl : i = 3 := by omega
          have g4 : (4 : Int32) ≤ nI (3 + 1) := by rw [← l4]; exact Int32.le_refl _
          rw [e10_2]
          simp only [e10_3, e10_4, e10_7, e10_8, e10_9, e10_12, e10_15, e10_18, e10_21, e10_22, e10_23, e10_24, e10_27, e10_28, e10_29, e10_30, e10_33, e10_34, e10_35, e10_35a, e10_36, e10_39, e10_40, e10_41, e10_44, e10_45, e10_46, e10_49, e10_52, e10_53, e10_54, e10_54a, e10_55, e10_58, e10_59, e10_60, e10_63, e10_64, e10_66, e10_69, e10_70, e10_72, e10_75, e10_76, e10_79, e10_80, e10_81, e10_84, e10_87, e10_88, lk, lset, ldel, lset2, ldel2, cat2, gI_int, gA_ref, gA_null, gV_some, gC_some, gL_long, Option.toList, List.cons_append, List.nil_append, List.length_cons, List.length_nil, Nat.reduceEqDiff, Nat.reduceAdd, Nat.reduceSub, Nat.reduceLeDiff, Nat.reduceLT, nb0, nb1, reduceIte, reduceCtorEq, and_false, and_true, false_and, true_and, if_true, if_false, Bool.false_eq_true, eq_self, not_true_eq_false, not_false_eq_true, g4]
          rfl
        · rw [if_neg c44]
          by_cases c59 : sg k (M (z.1 + 305)) (numE (sg k (M (z.1 + 305))) e) = 59
          · rw [if_pos c59, if_pos c59]; all_goals rfl
          · rw [if_neg c59, if_neg c59]; all_goals rfl
      · rw [hr] at hr2
        by_cases c59 : sg k (M (z.1 + 305)) (numE (sg k (M (z.1 + 305))) e) = 59
        · rw [if_pos c59] at hr2
          injection hr2 with hr2
          injection hr2 with r1 r2
          injection r2 with r2 r3
          subst r1; subst r2; subst r3
          exact ⟨f3, f2, f8⟩
        · rw [if_neg c59] at hr2; cases hr2
    · have hr : rdN (sg k (M (z.1 + 305))) 0 e i (M (z.1 + 308)) = none := if_neg hd
      refine ⟨M, ?_, ⟨fun _ _ _ => rfl, rfl⟩, fun e' a' T' hr2 => ?_⟩
      · rw [s_rdnNo hz ht (by omega) he h3 hd, hr]; rfl
      · rw [hr] at hr2; cases hr2
  | succ f ih =>
    intro i e M hif he ht h3 h2 rest
    by_cases hd : dig (sg k (M (z.1 + 305)) e)
    · have hE := numE_le (T := M (z.1 + 305)) (dig_lt hd)
      have hk60 := ht.2.1
      have st := fun M3 hM3 => s_rdn (d := d) (p := p) hz ht (i := i) (e := e) (by omega) h3 h2 hd (M3 := M3) hM3 (rest := rest)
      generalize hM3 : mput (mput (mput M (z.1 + 307) (fset (M (z.1 + 307)) 3 (nI (numE (sg k (M (z.1 + 305))) e)))) (z.1 + 308) (fset (M (z.1 + 308)) i (numV (sg k (M (z.1 + 305))) e))) (z.1 + 307) (fset (fset (fset (M (z.1 + 307)) 3 (nI (numE (sg k (M (z.1 + 305))) e))) 2 (nI (i + 1))) 3 (nI (numE (sg k (M (z.1 + 305))) e + 1))) = M3 at st
      have o3 : orf z M M3 := by
        rw [← hM3]
        exact ((orf.p307 (fset_ne p13)).tr orf.p308).tr (orf.p307 (by rw [fset_ne p13, fset_ne p12, fset_ne p13, mput_ne q5, mput_same, fset_ne p13]))
      have f3 : M3 (z.1 + 307) 3 = nI (numE (sg k (M (z.1 + 305))) e + 1) := by rw [← hM3, mput_same, fset_same]
      have f2 : M3 (z.1 + 307) 2 = nI (i + 1) := by rw [← hM3, mput_same, fset_ne p32, fset_same]
      have f8 : M3 (z.1 + 308) = fset (M (z.1 + 308)) i (numV (sg k (M (z.1 + 305))) e) := by rw [← hM3, mput_ne q6, mput_same]
      have f5 : M3 (z.1 + 305) = M (z.1 + 305) := o3.1 _ q2 q4
      have hr : rdN (sg k (M (z.1 + 305))) (f + 1) e i (M (z.1 + 308)) = restN (sg k (M (z.1 + 305))) (f + 1) (numE (sg k (M (z.1 + 305))) e) (i + 1) (fset (M (z.1 + 308)) i (numV (sg k (M (z.1 + 305))) e)) := if_pos hd
      rw [hr, restN_rd]
      by_cases c44 : sg k (M (z.1 + 305)) (numE (sg k (M (z.1 + 305))) e) = 44
      · obtain ⟨M', x1, x2, x3⟩ := ih (i + 1) (numE (sg k (M (z.1 + 305))) e + 1) M3 (by omega) (by omega) (txok_or ht o3) f3 f2 (ldel (lset rest 3 (.int 44)) 2)
        rw [f5, f8] at x1 x3
        refine ⟨M', ?_, o3.tr x2, ?_⟩
        · rw [st M3 rfl, if_pos c44, if_pos c44]; exact x1
        · rw [if_pos c44]; exact x3
      · refine ⟨M3, ?_, o3, fun e' a' T' hr2 => ?_⟩
        · rw [st M3 rfl, if_neg c44, if_neg c44]
          by_cases c59 : sg k (M (z.1 + 305)) (numE (sg k (M (z.1 + 305))) e) = 59
          · rw [if_pos c59, if_pos c59]; all_goals rfl
          · rw [if_neg c59, if_neg c59]; all_goals rfl
        · rw [if_neg c44] at hr2
          by_cases c59 : sg k (M (z.1 + 305)) (numE (sg k (M (z.1 + 305))) e) = 59
          · rw [if_pos c59] at hr2
            injection hr2 with hr2
            injection hr2 with r1 r2
            injection r2 with r2 r3
            subst r1; subst r2; subst r3
            exact ⟨f3, f2, f8⟩
          · rw [if_neg c59] at hr2; cases hr2
    · have hr : rdN (sg k (M (z.1 + 305))) (f + 1) e i (M (z.1 + 308)) = none := if_neg hd
      refine ⟨M, ?_, ⟨fun _ _ _ => rfl, rfl⟩, fun e' a' T' hr2 => ?_⟩
      · rw [s_rdnNo hz ht (by omega) he h3 hd, hr]; rfl
      · rw [hr] at hr2; cases hr2
end CT
