/-! the class: orders carried out, one after another -/
/-- what an order does to a state's row -/
def cstep (F : Nat → Int32) (o : Int32) (T : Nat → Int32) : Int32 × (Nat → Int32) :=
  if o = 112 then adP F (F 2).toNatClampNeg (T 0) (T 1) (T 2) (T 3)
  else if o = 111 then (if 0 ≤ T 0 ∧ T 0 < F 2 then plP F (F 2).toNatClampNeg (T 0).toNatClampNeg (T 1) (T 2) else (-100001, F))
  else if o = 108 then (if 0 ≤ T 0 ∧ T 0 < F 2 then leP F (F 2).toNatClampNeg (T 0).toNatClampNeg (T 1) (T 2) (T 3) else (-100001, F))
  else if o = 102 then (if 0 ≤ T 0 ∧ T 0 < F 2 then lfP F (T 0).toNatClampNeg else (-100001, F))
  else if o = 100 then paR F (F 2).toNatClampNeg (T 0) else (-100001, F)
section CRD
variable {z : Zt} {d : Nat} {p : Nat → Nat} {k : Nat} {nc nh np : Nat} {S : Nat}
theorem c_carry {M : Nat → Nat → Int32} (h : isS z S) (hc : cnt (M S) nc nh np) {a : Nat} (hm : many (M (z.1 + 307) 1) a) : run (d + 5) 13 [.ref (z.1 + 307), .ref S] (wld z M p) = some (some (.int (cstep (M S) (M (z.1 + 307) 1) (M (z.1 + 308))).1), wld z (mput M S (cstep (M S) (M (z.1 + 307) 1) (M (z.1 + 308))).2) p) := by
  have e2 : (M S 2).toNatClampNeg = np := by rw [hc.2.2.2.2.1, nI_clamp (by have := hc.2.2.2.2.2; omega)]
  have hnp : np ≤ 2000 := by have := hc.2.2.2.2.2; omega
  generalize ho : M (z.1 + 307) 1 = o at hm
  rcases hm with ⟨rfl, -⟩ | ⟨rfl, -⟩ | ⟨rfl, -⟩ | ⟨rfl | rfl, -⟩
  · refine c_carryP h ho ?_
    unfold cstep
    rw [if_pos rfl, e2]
    exact m_addPhrase (d := d + 1) h hc
  · refine c_carryO h ho ?_
    unfold cstep
    rw [if_neg (by decide), if_pos rfl]
    rcases nI_case (n := M (z.1 + 308) 0) hc.2.2.2.2.1 hnp with ⟨i, hi, hT⟩ | hn
    · rw [if_pos (by rw [hT, hc.2.2.2.2.1]; exact nI_in2 hi hnp), e2, hT, nI_clamp (by omega)]
      exact m_place (d := d + 1) h hc hi
    · rw [if_neg hn, mput_self]
      exact m_placeNo (d := d + 1) h hn
  · refine c_carryL h ho ?_
    unfold cstep
    rw [if_neg (by decide), if_neg (by decide), if_pos rfl]
    rcases nI_case (n := M (z.1 + 308) 0) hc.2.2.2.2.1 hnp with ⟨i, hi, hT⟩ | hn
    · rw [if_pos (by rw [hT, hc.2.2.2.2.1]; exact nI_in2 hi hnp), e2, hT, nI_clamp (by omega)]
      exact m_lend (d := d) h hc hi
    · rw [if_neg hn, mput_self]
      exact m_lendNo (d := d) h hn
  · refine c_carryF h ho ?_
    unfold cstep
    rw [if_neg (by decide), if_neg (by decide), if_neg (by decide), if_pos rfl]
    rcases nI_case (n := M (z.1 + 308) 0) hc.2.2.2.2.1 hnp with ⟨i, hi, hT⟩ | hn
    · rw [if_pos (by rw [hT, hc.2.2.2.2.1]; exact nI_in2 hi hnp), hT, nI_clamp (by omega)]
      exact m_lift (d := d + 1) h hc hi
    · rw [if_neg hn, mput_self]
      exact m_liftNo (d := d + 1) h hn
  · refine c_carryD h ho ?_
    unfold cstep
    rw [if_neg (by decide), if_neg (by decide), if_neg (by decide), if_neg (by decide), if_pos rfl, e2]
    exact m_pass (d := d) h hc
theorem m_hasFault {M : Nat → Nat → Int32} (hz : zok z) : run (d + 1) 28 [.ref (z.1 + 306)] (wld z M p) = some (some (.int (bI (¬ M (z.1 + 306) 2 = -1))), wld z M p) := by
  rw [r28]
  unfold bI
  by_cases h : M (z.1 + 306) 2 = -1 <;> simp only [e28_0, e28_1, e28_4, e28_5, e28_8, e28_9, e28_12, e28_13, lk, lset, ldel, lset2, ldel2, cat2, gI_int, gA_ref, gA_null, gV_some, gC_some, gL_long, Option.toList, List.cons_append, List.nil_append, List.length_cons, List.length_nil, Nat.reduceEqDiff, Nat.reduceAdd, Nat.reduceSub, Nat.reduceLeDiff, Nat.reduceLT, nb0, nb1, reduceIte, reduceCtorEq, and_false, and_true, false_and, true_and, if_true, if_false, Bool.false_eq_true, eq_self, not_true_eq_false, not_false_eq_true, g0_0 hz, g0_1 hz, g0_2 hz, g0_3 hz, g0_4 hz, g0_5 hz, g0_6 hz, p0_6 hz, k0 hz, g130_0 hz, g130_1 hz, p130_1 hz, k130 hz, g304_0 hz, g304_1 hz, p304_1 hz, k304 hz, g306_0 hz, g306_1 hz, g306_2 hz, g306_3 hz, g306_4 hz, p306_1 hz, p306_2 hz, p306_3 hz, p306_4 hz, k306 hz, g307_0 hz, g307_1 hz, g307_2 hz, g307_3 hz, p307_1 hz, p307_2 hz, p307_3 hz, k307 hz, h]
/-- an order rehearsed: its end, or its fault (reason, cause); the row behind it -/
def rehO (g : Nat → Int32) (s : Nat) (F : Nat → Int32) : (Nat ⊕ (Int32 × Int32)) × (Nat → Int32) :=
  match parN g s (fun _ => -1) with
  | none => (.inr (1, -100004), F)
  | some (e, a, T) => if many (g s) a then (if (cstep F (g s) T).1 < 0 then (.inr (2, (cstep F (g s) T).1), (cstep F (g s) T).2) else (.inl e, (cstep F (g s) T).2)) else (.inr (1, -100004), F)
/-- what reading leaves alone: all but the reading's own cells and the trial state -/
def ref_ (z : Zt) (M M' : Nat → Nat → Int32) : Prop := ∀ x, x ≠ z.1 + 44 → x ≠ z.1 + 306 → x ≠ z.1 + 307 → x ≠ z.1 + 308 → M' x = M x
theorem m_report {M : Nat → Nat → Int32} (hz : zok z) {a b c : Int32} : run (d + 1) 30 [.ref (z.1 + 306), .int a, .int b, .int c] (wld z M p) = some (none, wld z (mput M (z.1 + 306) (fset (fset (fset (M (z.1 + 306)) 2 a) 3 b) 4 c)) p) := by
  rw [r30]
  simp only [e30_0, e30_1, e30_2, e30_5, e30_6, e30_7, e30_10, e30_11, e30_12, e30_15, lk, lset, ldel, lset2, ldel2, cat2, gI_int, gA_ref, gA_null, gV_some, gC_some, gL_long, Option.toList, List.cons_append, List.nil_append, List.length_cons, List.length_nil, Nat.reduceEqDiff, Nat.reduceAdd, Nat.reduceSub, Nat.reduceLeDiff, Nat.reduceLT, nb0, nb1, reduceIte, reduceCtorEq, and_false, and_true, false_and, true_and, if_true, if_false, Bool.false_eq_true, eq_self, not_true_eq_false, not_false_eq_true, mput_same, mput_mput, fset_same, g0_0 hz, g0_1 hz, g0_2 hz, g0_3 hz, g0_4 hz, g0_5 hz, g0_6 hz, p0_6 hz, k0 hz, g130_0 hz, g130_1 hz, p130_1 hz, k130 hz, g304_0 hz, g304_1 hz, p304_1 hz, k304 hz, g306_0 hz, g306_1 hz, g306_2 hz, g306_3 hz, g306_4 hz, p306_1 hz, p306_2 hz, p306_3 hz, p306_4 hz, k306 hz, g307_0 hz, g307_1 hz, g307_2 hz, g307_3 hz, p307_1 hz, p307_2 hz, p307_3 hz, k307 hz]
/-- one turn of the loop: an order read and carried out, or its fault told -/
theorem l_rehBody {M : Nat → Nat → Int32} (hz : zok z) (ht : txok M z k) {s i : Nat} (hs : s < k) (hi : i < 60) (hc : cnt (M (z.1 + 44)) nc nh np) (hf : M (z.1 + 306) 2 = -1) (rest : List (Nat × Value)) : ∃ M' rest', X (d + 6) 29 15 ((0, .ref (z.1 + 306)) :: (1, .ref (z.1 + 304)) :: (2, .ref (z.1 + 44)) :: (3, .int (nI s)) :: (4, .int (nI i)) :: rest) [] (wld z M p) = X (d + 6) 29 15 ((0, .ref (z.1 + 306)) :: (1, .ref (z.1 + 304)) :: (2, .ref (z.1 + 44)) :: (3, .int (M' (z.1 + 307) 3)) :: (4, .int (nI (i + 1))) :: rest') [] (wld z M' p) ∧ ref_ z M M' ∧ M' (z.1 + 44) = (rehO (sg k (M (z.1 + 305))) s (M (z.1 + 44))).2 ∧ (match (rehO (sg k (M (z.1 + 305))) s (M (z.1 + 44))).1 with
    | .inl e => M' (z.1 + 307) 3 = nI e ∧ M' (z.1 + 306) = fset (M (z.1 + 306)) 1 (M (z.1 + 306) 1 + 1)
    | .inr (r, c) => M' (z.1 + 306) = fset (fset (fset (M (z.1 + 306)) 2 (nI s)) 3 r) 4 c) := by
  have hk60 := ht.2.1
  have e60 : nI 60 = 60 := by decide +kernel
  have g60 : ¬ 60 ≤ nI i := by rw [← e60]; exact nI_goon (by omega) (by omega)
  have gk := nI_goon (i := s) (n := k) hs (by omega)
  have h0 := m_hasFault (d := d + 5) (M := M) (p := p) hz
  rw [show bI (¬ M (z.1 + 306) 2 = -1) = 0 from if_neg (fun q => q hf)] at h0
  obtain ⟨M1, x1, x2, x3, x4⟩ := m_read (d := d + 2) (p := p) hz ht hs
  have q6 : z.1 + 306 ≠ z.1 + 44 := by omega
  have q7 : z.1 + 307 ≠ z.1 + 306 := by omega
  have q8 : z.1 + 307 ≠ z.1 + 44 := by omega
  have q9 : z.1 + 44 ≠ z.1 + 306 := by omega
  have n10 : ¬ (1 : Int32) = 0 := by decide
  have n4 : ¬ (0 : Int32) ≤ -100004 := by decide
  have m6 : M1 (z.1 + 306) = M (z.1 + 306) := x2 _ (by omega) (by omega)
  have m4 : M1 (z.1 + 44) = M (z.1 + 44) := x2 _ (by omega) (by omega)
  have hno : okR (sg k (M (z.1 + 305)) s) (parN (sg k (M (z.1 + 305))) s (fun _ => -1)) = false → X (d + 6) 29 15 ((0, .ref (z.1 + 306)) :: (1, .ref (z.1 + 304)) :: (2, .ref (z.1 + 44)) :: (3, .int (nI s)) :: (4, .int (nI i)) :: rest) [] (wld z M p) = X (d + 6) 29 15 ((0, .ref (z.1 + 306)) :: (1, .ref (z.1 + 304)) :: (2, .ref (z.1 + 44)) :: (3, .int (M1 (z.1 + 307) 3)) :: (4, .int (nI (i + 1))) :: ldel (ldel (lset (lset rest 5 (.int 0)) 6 (.int (-100004))) 3) 4) [] (wld z (mput M1 (z.1 + 306) (fset (fset (fset (M (z.1 + 306)) 2 (nI s)) 3 1) 4 (-100004))) p) := by
    intro hk
    rw [hk] at x1
    replace x1 : run (d + 2 + 4) 9 [.ref (z.1 + 307), .ref (z.1 + 304), .int (nI s)] (wld z M p) = some (some (.int 0), wld z M1 p) := x1
    have e1 := m_report (d := d + 5) (M := M1) (p := p) hz (a := nI s) (b := 1) (c := -100004)
    rw [m6] at e1
    rw [e29_15]
    simp only [e29_17, e29_19, e29_22, e29_23, e29_24, e29_27, e29_30, e29_31, e29_34, e29_37, e29_38, e29_41, e29_42, e29_43, e29_46, e29_48, e29_50, e29_53, e29_54, e29_57, e29_58, e29_61, e29_64, e29_66, e29_68, e29_70, e29_73, e29_74, e29_75, e29_77, e29_80, e29_81, e29_84, e29_85, e29_87, e29_90, e29_93, e29_94, e29_94a, e29_95, e29_98, e29_99, e29_100, e29_103, e29_104, e29_107, e29_110, e29_111, e29_114, lk, lset, ldel, lset2, ldel2, cat2, gI_int, gA_ref, gA_null, gV_some, gC_some, gL_long, Option.toList, List.cons_append, List.nil_append, List.length_cons, List.length_nil, Nat.reduceEqDiff, Nat.reduceAdd, Nat.reduceSub, Nat.reduceLeDiff, Nat.reduceLT, nb0, nb1, reduceIte, reduceCtorEq, and_false, and_true, false_and, true_and, if_true, if_false, Bool.false_eq_true, eq_self, not_true_eq_false, not_false_eq_true, lk_same, lk_same2, lk_k1, lk_k1r, lk_ldN, ne_eq, g0_0 hz, g0_1 hz, g0_2 hz, g0_3 hz, g0_4 hz, g0_5 hz, g0_6 hz, p0_6 hz, k0 hz, g130_0 hz, g130_1 hz, p130_1 hz, k130 hz, g304_0 hz, g304_1 hz, p304_1 hz, k304 hz, g306_0 hz, g306_1 hz, g306_2 hz, g306_3 hz, g306_4 hz, p306_1 hz, p306_2 hz, p306_3 hz, p306_4 hz, k306 hz, g307_0 hz, g307_1 hz, g307_2 hz, g307_3 hz, p307_1 hz, p307_2 hz, p307_3 hz, k307 hz, g60, ht.1, gk, h0, x1, e1, n4, nI_1, mput_ne q7]
  unfold rehO
  cases hp : parN (sg k (M (z.1 + 305))) s (fun _ => -1) with
  | none =>
    refine ⟨mput M1 (z.1 + 306) (fset (fset (fset (M (z.1 + 306)) 2 (nI s)) 3 1) 4 (-100004)), _, by rw [mput_ne q7]; exact hno (by rw [hp]; rfl), fun x a b c e => by rw [mput_ne b]; exact x2 x c e, by rw [mput_ne q9]; exact m4, mput_same⟩
  | some r =>
    obtain ⟨e, a, T⟩ := r
    dsimp only
    obtain ⟨y3, y2, y8⟩ := x4 e a T hp
    by_cases hm : many (sg k (M (z.1 + 305)) s) a
    · have hok : okR (sg k (M (z.1 + 305)) s) (some (e, a, T)) = true := decide_eq_true hm
      rw [hp, if_pos hok] at x1
      have e0 := c_carry (d := d + 1) (M := M1) (p := p) (isS_tri hz) (by rw [m4]; exact hc) (a := a) (by rw [x3]; exact hm)
      rw [x3, y8, m4] at e0
      rw [if_pos hm]
      generalize cstep (M (z.1 + 44)) (sg k (M (z.1 + 305)) s) T = R at e0 ⊢
      by_cases hv : R.1 < 0
      · have hv2 : ¬ 0 ≤ R.1 := by rw [Int32.not_le]; exact hv
        rw [if_pos hv]
        have e1 := m_report (d := d + 5) (M := mput M1 (z.1 + 44) R.2) (p := p) hz (a := nI s) (b := 2) (c := R.1)
        rw [mput_ne q6, m6] at e1
        refine ⟨mput (mput M1 (z.1 + 44) R.2) (z.1 + 306) (fset (fset (fset (M (z.1 + 306)) 2 (nI s)) 3 2) 4 R.1), ldel (ldel (lset (lset rest 5 (.int 1)) 6 (.int R.1)) 3) 4, ?_, fun x a b c e => by rw [mput_ne b, mput_ne a]; exact x2 x c e, by rw [mput_ne q9, mput_same], mput_same⟩
        rw [e29_15]
        simp only [e29_17, e29_19, e29_22, e29_23, e29_24, e29_27, e29_30, e29_31, e29_34, e29_37, e29_38, e29_41, e29_42, e29_43, e29_46, e29_48, e29_50, e29_53, e29_54, e29_57, e29_58, e29_61, e29_64, e29_66, e29_68, e29_70, e29_73, e29_74, e29_75, e29_77, e29_80, e29_81, e29_84, e29_85, e29_87, e29_90, e29_93, e29_94, e29_94a, e29_95, e29_98, e29_99, e29_100, e29_103, e29_104, e29_107, e29_110, e29_111, e29_114, lk, lset, ldel, lset2, ldel2, cat2, gI_int, gA_ref, gA_null, gV_some, gC_some, gL_long, Option.toList, List.cons_append, List.nil_append, List.length_cons, List.length_nil, Nat.reduceEqDiff, Nat.reduceAdd, Nat.reduceSub, Nat.reduceLeDiff, Nat.reduceLT, nb0, nb1, reduceIte, reduceCtorEq, and_false, and_true, false_and, true_and, if_true, if_false, Bool.false_eq_true, eq_self, not_true_eq_false, not_false_eq_true, lk_same, lk_same2, lk_k1, lk_k1r, lk_ldN, ne_eq, g0_0 hz, g0_1 hz, g0_2 hz, g0_3 hz, g0_4 hz, g0_5 hz, g0_6 hz, p0_6 hz, k0 hz, g130_0 hz, g130_1 hz, p130_1 hz, k130 hz, g304_0 hz, g304_1 hz, p304_1 hz, k304 hz, g306_0 hz, g306_1 hz, g306_2 hz, g306_3 hz, g306_4 hz, p306_1 hz, p306_2 hz, p306_3 hz, p306_4 hz, k306 hz, g307_0 hz, g307_1 hz, g307_2 hz, g307_3 hz, p307_1 hz, p307_2 hz, p307_3 hz, k307 hz, g60, ht.1, gk, h0, x1, n10, e0, hv2, e1, nI_1, mput_ne q7, mput_ne q8]
      · have hv2 : 0 ≤ R.1 := by rw [← Int32.not_lt]; exact hv
        rw [if_neg hv]
        refine ⟨mput (mput M1 (z.1 + 44) R.2) (z.1 + 306) (fset (M (z.1 + 306)) 1 (M (z.1 + 306) 1 + 1)), ldel (ldel (lset (lset rest 5 (.int 1)) 6 (.int R.1)) 3) 4, ?_, fun x a b c e => by rw [mput_ne b, mput_ne a]; exact x2 x c e, by rw [mput_ne q9, mput_same], by rw [mput_ne q7, mput_ne q8]; exact y3, mput_same⟩
        rw [e29_15]
        simp only [e29_17, e29_19, e29_22, e29_23, e29_24, e29_27, e29_30, e29_31, e29_34, e29_37, e29_38, e29_41, e29_42, e29_43, e29_46, e29_48, e29_50, e29_53, e29_54, e29_57, e29_58, e29_61, e29_64, e29_66, e29_68, e29_70, e29_73, e29_74, e29_75, e29_77, e29_80, e29_81, e29_84, e29_85, e29_87, e29_90, e29_93, e29_94, e29_94a, e29_95, e29_98, e29_99, e29_100, e29_103, e29_104, e29_107, e29_110, e29_111, e29_114, lk, lset, ldel, lset2, ldel2, cat2, gI_int, gA_ref, gA_null, gV_some, gC_some, gL_long, Option.toList, List.cons_append, List.nil_append, List.length_cons, List.length_nil, Nat.reduceEqDiff, Nat.reduceAdd, Nat.reduceSub, Nat.reduceLeDiff, Nat.reduceLT, nb0, nb1, reduceIte, reduceCtorEq, and_false, and_true, false_and, true_and, if_true, if_false, Bool.false_eq_true, eq_self, not_true_eq_false, not_false_eq_true, lk_same, lk_same2, lk_k1, lk_k1r, lk_ldN, ne_eq, g0_0 hz, g0_1 hz, g0_2 hz, g0_3 hz, g0_4 hz, g0_5 hz, g0_6 hz, p0_6 hz, k0 hz, g130_0 hz, g130_1 hz, p130_1 hz, k130 hz, g304_0 hz, g304_1 hz, p304_1 hz, k304 hz, g306_0 hz, g306_1 hz, g306_2 hz, g306_3 hz, g306_4 hz, p306_1 hz, p306_2 hz, p306_3 hz, p306_4 hz, k306 hz, g307_0 hz, g307_1 hz, g307_2 hz, g307_3 hz, p307_1 hz, p307_2 hz, p307_3 hz, k307 hz, g60, ht.1, gk, h0, x1, n10, e0, hv2, nI_1, mput_ne q6, mput_ne q7, mput_ne q8, m6]
    · rw [if_neg hm]
      refine ⟨mput M1 (z.1 + 306) (fset (fset (fset (M (z.1 + 306)) 2 (nI s)) 3 1) 4 (-100004)), _, by rw [mput_ne q7]; exact hno (by rw [hp]; exact decide_eq_false hm), fun x a b c e => by rw [mput_ne b]; exact x2 x c e, by rw [mput_ne q9]; exact m4, mput_same⟩
end CRD
