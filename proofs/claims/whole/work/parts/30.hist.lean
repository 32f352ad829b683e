/-! the history, the snapshot -/
/-- the history's places are states, apart from each other and from the three others -/
def isP (z : Zt) (p : Nat → Nat) : Prop := zok z ∧ (∀ j, j < 4 → p j = z.1 + 132 ∨ p j = z.1 + 175 ∨ p j = z.1 + 218 ∨ p j = z.1 + 261) ∧ ∀ i j, i < 4 → j < 4 → i ≠ j → p i ≠ p j
theorem isP_S {z : Zt} {p : Nat → Nat} (h : isP z p) {j : Nat} (hj : j < 4) : isS z (p j) := ⟨h.1, by have := h.2.1 j hj; omega⟩
theorem isS_now {z : Zt} (h : zok z) : isS z (z.1 + 1) := ⟨h, by omega⟩
theorem isS_tri {z : Zt} (h : zok z) : isS z (z.1 + 44) := ⟨h, by omega⟩
theorem isS_sna {z : Zt} (h : zok z) : isS z (z.1 + 87) := ⟨h, by omega⟩
def rotP (p : Nat → Nat) : Nat → Nat := fun i => if i = 3 then p 0 else if i = 2 then p 3 else if i = 1 then p 2 else if i = 0 then p 1 else p i
theorem rotP_P {z : Zt} {p : Nat → Nat} (h : isP z p) : isP z (rotP p) := by
  refine ⟨h.1, fun j hj => ?_, fun i j hi hj hij => ?_⟩
  · rcases (show j = 0 ∨ j = 1 ∨ j = 2 ∨ j = 3 by omega) with rfl | rfl | rfl | rfl
    · exact h.2.1 1 (by omega)
    · exact h.2.1 2 (by omega)
    · exact h.2.1 3 (by omega)
    · exact h.2.1 0 (by omega)
  · rcases (show i = 0 ∨ i = 1 ∨ i = 2 ∨ i = 3 by omega) with rfl | rfl | rfl | rfl <;> rcases (show j = 0 ∨ j = 1 ∨ j = 2 ∨ j = 3 by omega) with rfl | rfl | rfl | rfl <;> first | exact absurd rfl hij | exact h.2.2 _ _ (by omega) (by omega) (by omega)
section HI
variable {z : Zt} {T d : Nat} {M : Nat → Nat → Int32} {p : Nat → Nat} {nc nh np n : Nat}
theorem a131_0 (hz : zok z) : ag (wld z M p) (z.1 + 131) 12 15 0 = some (.ref (p 0)) := by
  have := a131 (M := M) (p := p) hz (j := 0) (by decide); rwa [show nI 0 = 0 from by decide +kernel] at this
theorem a131_1 (hz : zok z) : ag (wld z M p) (z.1 + 131) 12 15 1 = some (.ref (p 1)) := by
  have := a131 (M := M) (p := p) hz (j := 1) (by decide); rwa [show nI 1 = 1 from by decide +kernel] at this
theorem a131_2 (hz : zok z) : ag (wld z M p) (z.1 + 131) 12 15 2 = some (.ref (p 2)) := by
  have := a131 (M := M) (p := p) hz (j := 2) (by decide); rwa [show nI 2 = 2 from by decide +kernel] at this
theorem a131_3 (hz : zok z) : ag (wld z M p) (z.1 + 131) 12 15 3 = some (.ref (p 3)) := by
  have := a131 (M := M) (p := p) hz (j := 3) (by decide); rwa [show nI 3 = 3 from by decide +kernel] at this
theorem s131_0 (hz : zok z) {v : Nat} : ap (wld z M p) (z.1 + 131) 12 15 0 (.ref v) = some (wld z M (fun i => if i = 0 then v else p i)) := by
  have := s131 (M := M) (p := p) hz (j := 0) (v := v) (by decide); rwa [show nI 0 = 0 from by decide +kernel] at this
theorem s131_1 (hz : zok z) {v : Nat} : ap (wld z M p) (z.1 + 131) 12 15 1 (.ref v) = some (wld z M (fun i => if i = 1 then v else p i)) := by
  have := s131 (M := M) (p := p) hz (j := 1) (v := v) (by decide); rwa [show nI 1 = 1 from by decide +kernel] at this
theorem s131_2 (hz : zok z) {v : Nat} : ap (wld z M p) (z.1 + 131) 12 15 2 (.ref v) = some (wld z M (fun i => if i = 2 then v else p i)) := by
  have := s131 (M := M) (p := p) hz (j := 2) (v := v) (by decide); rwa [show nI 2 = 2 from by decide +kernel] at this
theorem s131_3 (hz : zok z) {v : Nat} : ap (wld z M p) (z.1 + 131) 12 15 3 (.ref v) = some (wld z M (fun i => if i = 3 then v else p i)) := by
  have := s131 (M := M) (p := p) hz (j := 3) (v := v) (by decide); rwa [show nI 3 = 3 from by decide +kernel] at this
theorem xEl15 : xEl 15 = 6 := rfl
theorem m_dropOldest (h : isP z p) : run (d + 1) 6 [.ref (z.1 + 130)] (wld z M p) = some (none, wld z (mput M (z.1 + 130) (fset (M (z.1 + 130)) 1 3)) (rotP p)) := by
  have hz := h.1
  have kp0 : ∀ {q : Nat → Nat}, kd (wld z M q) (p 0) = 6 := k_st (isP_S h (by omega))
  have kp1 : ∀ {q : Nat → Nat}, kd (wld z M q) (p 1) = 6 := k_st (isP_S h (by omega))
  have kp2 : ∀ {q : Nat → Nat}, kd (wld z M q) (p 2) = 6 := k_st (isP_S h (by omega))
  have kp3 : ∀ {q : Nat → Nat}, kd (wld z M q) (p 3) = 6 := k_st (isP_S h (by omega))
  rw [r6]
  simp only [e6_0, e6_1, e6_4, e6_5, e6_6, e6_7, e6_8, e6_9, e6_10, e6_11, e6_14, e6_15, e6_18, e6_19, e6_20, e6_21, e6_22, e6_25, e6_26, e6_27, e6_28, e6_31, e6_34, e6_35, e6_38, e6_39, e6_40, e6_41, e6_42, e6_43, e6_46, lk, lset, ldel, lset2, ldel2, cat2, gI_int, gA_ref, gA_null, gV_some, gC_some, gL_long, Option.toList, List.cons_append, List.nil_append, List.length_cons, List.length_nil, Nat.reduceEqDiff, Nat.reduceAdd, Nat.reduceSub, Nat.reduceLeDiff, Nat.reduceLT, nb0, nb1, reduceIte, reduceCtorEq, and_false, and_true, false_and, true_and, if_true, if_false, Bool.false_eq_true, eq_self, not_true_eq_false, not_false_eq_true, Int32.reduceAdd, Int32.reduceSub, Int32.reduceLE, Int32.reduceLT, g0_0 hz, g0_1 hz, g0_2 hz, g0_3 hz, g0_4 hz, g0_5 hz, g0_6 hz, p0_6 hz, k0 hz, g130_0 hz, g130_1 hz, p130_1 hz, k130 hz, g304_0 hz, g304_1 hz, p304_1 hz, k304 hz, g306_0 hz, g306_1 hz, g306_2 hz, g306_3 hz, g306_4 hz, p306_1 hz, p306_2 hz, p306_3 hz, p306_4 hz, k306 hz, g307_0 hz, g307_1 hz, g307_2 hz, g307_3 hz, p307_1 hz, p307_2 hz, p307_3 hz, k307 hz, a131_0 hz, a131_1 hz, a131_2 hz, a131_3 hz, s131_0 hz, s131_1 hz, s131_2 hz, s131_3 hz, k131 hz, xEl15, kp0, kp1, kp2, kp3]
  rfl
theorem m_push (h : isP z p) (hT : isS z T) (hn : M (z.1 + 130) 1 = nI n) (hn4 : n < 4) (hc : cnt (M T) nc nh np) (hne : T ≠ p n) : run (d + 3) 5 [.ref (z.1 + 130), .ref T] (wld z M p) = some (none, wld z (mput (mput M (p n) (cpF (M (p n)) (M T) nc nh np)) (z.1 + 130) (fset (M (z.1 + 130)) 1 (nI (n + 1)))) p) := by
  have hz := h.1
  have hS := isP_S h hn4
  have g : nI n < 4 := nI_lt (a := n) (b := 4) hn4 (by omega)
  have hq : z.1 + 130 ≠ p n := by have := h.2.1 n hn4; omega
  rw [r5]
  simp only [e5_0, e5_1, e5_4, e5_5, e5_8, e5_9, e5_12, e5_13, e5_16, e5_17, e5_20, e5_21, e5_22, e5_25, e5_26, e5_26a, e5_27, e5_30, e5_31, e5_32, e5_35, lk, lset, ldel, lset2, ldel2, cat2, gI_int, gA_ref, gA_null, gV_some, gC_some, gL_long, Option.toList, List.cons_append, List.nil_append, List.length_cons, List.length_nil, Nat.reduceEqDiff, Nat.reduceAdd, Nat.reduceSub, Nat.reduceLeDiff, Nat.reduceLT, nb0, nb1, reduceIte, reduceCtorEq, and_false, and_true, false_and, true_and, if_true, if_false, Bool.false_eq_true, eq_self, not_true_eq_false, not_false_eq_true, g0_0 hz, g0_1 hz, g0_2 hz, g0_3 hz, g0_4 hz, g0_5 hz, g0_6 hz, p0_6 hz, k0 hz, g130_0 hz, g130_1 hz, p130_1 hz, k130 hz, g304_0 hz, g304_1 hz, p304_1 hz, k304 hz, g306_0 hz, g306_1 hz, g306_2 hz, g306_3 hz, g306_4 hz, p306_1 hz, p306_2 hz, p306_3 hz, p306_4 hz, k306 hz, g307_0 hz, g307_1 hz, g307_2 hz, g307_3 hz, p307_1 hz, p307_2 hz, p307_3 hz, k307 hz, hn, g, a131 hz hn4, k_st hS, m_stCopy hS hT hne hc, mput_ne hq, nI_1]
theorem m_pushFull (h : isP z p) (hT : isS z T) (hn : M (z.1 + 130) 1 = 4) (hc : cnt (M T) nc nh np) (hne : T ≠ p 0) (hne2 : T ≠ z.1 + 130) : run (d + 3) 5 [.ref (z.1 + 130), .ref T] (wld z M p) = some (none, wld z (mput (mput M (p 0) (cpF (M (p 0)) (M T) nc nh np)) (z.1 + 130) (fset (M (z.1 + 130)) 1 4)) (rotP p)) := by
  have hz := h.1
  have h' := rotP_P h
  have hS := isP_S h (j := 0) (by omega)
  have hq : z.1 + 130 ≠ p 0 := by have := h.2.1 0 (by omega); omega
  have hc2 : cnt (mput M (z.1 + 130) (fset (M (z.1 + 130)) 1 3) T) nc nh np := by rw [mput_ne hne2]; exact hc
  have e3 : rotP p 3 = p 0 := rfl
  rw [r5]
  simp only [e5_0, e5_1, e5_4, e5_5, e5_8, e5_9, e5_12, e5_13, e5_16, e5_17, e5_20, e5_21, e5_22, e5_25, e5_26, e5_26a, e5_27, e5_30, e5_31, e5_32, e5_35, lk, lset, ldel, lset2, ldel2, cat2, gI_int, gA_ref, gA_null, gV_some, gC_some, gL_long, Option.toList, List.cons_append, List.nil_append, List.length_cons, List.length_nil, Nat.reduceEqDiff, Nat.reduceAdd, Nat.reduceSub, Nat.reduceLeDiff, Nat.reduceLT, nb0, nb1, reduceIte, reduceCtorEq, and_false, and_true, false_and, true_and, if_true, if_false, Bool.false_eq_true, eq_self, not_true_eq_false, not_false_eq_true, Int32.reduceAdd, Int32.reduceSub, Int32.reduceLE, Int32.reduceLT, g0_0 hz, g0_1 hz, g0_2 hz, g0_3 hz, g0_4 hz, g0_5 hz, g0_6 hz, p0_6 hz, k0 hz, g130_0 hz, g130_1 hz, p130_1 hz, k130 hz, g304_0 hz, g304_1 hz, p304_1 hz, k304 hz, g306_0 hz, g306_1 hz, g306_2 hz, g306_3 hz, g306_4 hz, p306_1 hz, p306_2 hz, p306_3 hz, p306_4 hz, k306 hz, g307_0 hz, g307_1 hz, g307_2 hz, g307_3 hz, p307_1 hz, p307_2 hz, p307_3 hz, k307 hz, mput_same, mput_mput, fset_same, hn, m_dropOldest h, a131_3 hz, e3, k_st hS, m_stCopy hS hT hne hc2, mput_ne hq, mput_ne hne2, mput_ne (Ne.symm hq)]
  congr 3
  funext y
  unfold mput
  by_cases h1 : y = z.1 + 130
  · simp only [h1, if_true]
    funext j
    unfold fset
    split <;> rfl
  · simp only [h1, if_false]
theorem m_popInto (h : isP z p) (hT : isS z T) (hn : M (z.1 + 130) 1 = nI (n + 1)) (hn4 : n < 4) (hc : cnt (M (p n)) nc nh np) (hne : p n ≠ T) (hne2 : T ≠ z.1 + 130) : run (d + 3) 7 [.ref (z.1 + 130), .ref T] (wld z M p) = some (some (.int 1), wld z (mput (mput M (z.1 + 130) (fset (M (z.1 + 130)) 1 (nI n))) T (cpF (M T) (M (p n)) nc nh np)) p) := by
  have hz := h.1
  have hS := isP_S h hn4
  have g : 0 < nI (n + 1) := nI_lt (a := 0) (b := n + 1) (by omega) (by omega)
  have hq : p n ≠ z.1 + 130 := by have := h.2.1 n hn4; omega
  have hc2 : cnt (mput M (z.1 + 130) (fset (M (z.1 + 130)) 1 (nI n)) (p n)) nc nh np := by rw [mput_ne hq]; exact hc
  rw [r7]
  simp only [e7_0, e7_1, e7_4, e7_7, e7_8, e7_9, e7_10, e7_10a, e7_11, e7_14, e7_15, e7_16, e7_19, e7_20, e7_21, e7_24, e7_25, e7_28, e7_29, e7_32, e7_33, lk, lset, ldel, lset2, ldel2, cat2, gI_int, gA_ref, gA_null, gV_some, gC_some, gL_long, Option.toList, List.cons_append, List.nil_append, List.length_cons, List.length_nil, Nat.reduceEqDiff, Nat.reduceAdd, Nat.reduceSub, Nat.reduceLeDiff, Nat.reduceLT, nb0, nb1, reduceIte, reduceCtorEq, and_false, and_true, false_and, true_and, if_true, if_false, Bool.false_eq_true, eq_self, not_true_eq_false, not_false_eq_true, g0_0 hz, g0_1 hz, g0_2 hz, g0_3 hz, g0_4 hz, g0_5 hz, g0_6 hz, p0_6 hz, k0 hz, g130_0 hz, g130_1 hz, p130_1 hz, k130 hz, g304_0 hz, g304_1 hz, p304_1 hz, k304 hz, g306_0 hz, g306_1 hz, g306_2 hz, g306_3 hz, g306_4 hz, p306_1 hz, p306_2 hz, p306_3 hz, p306_4 hz, k306 hz, g307_0 hz, g307_1 hz, g307_2 hz, g307_3 hz, p307_1 hz, p307_2 hz, p307_3 hz, k307 hz, mput_same, mput_mput, fset_same, hn, g, nI_pred, a131 hz hn4, k_st hT, m_stCopy hT hS hne hc2, mput_ne hq, mput_ne hne2]
theorem m_popNo (hz : zok z) (hn : M (z.1 + 130) 1 = 0) : run (d + 3) 7 [.ref (z.1 + 130), .ref T] (wld z M p) = some (some (.int 0), wld z M p) := by
  rw [r7]
  simp only [e7_0, e7_1, e7_4, e7_7, e7_8, e7_9, e7_10, e7_10a, e7_11, e7_14, e7_15, e7_16, e7_19, e7_20, e7_21, e7_24, e7_25, e7_28, e7_29, e7_32, e7_33, lk, lset, ldel, lset2, ldel2, cat2, gI_int, gA_ref, gA_null, gV_some, gC_some, gL_long, Option.toList, List.cons_append, List.nil_append, List.length_cons, List.length_nil, Nat.reduceEqDiff, Nat.reduceAdd, Nat.reduceSub, Nat.reduceLeDiff, Nat.reduceLT, nb0, nb1, reduceIte, reduceCtorEq, and_false, and_true, false_and, true_and, if_true, if_false, Bool.false_eq_true, eq_self, not_true_eq_false, not_false_eq_true, Int32.reduceAdd, Int32.reduceSub, Int32.reduceLE, Int32.reduceLT, g0_0 hz, g0_1 hz, g0_2 hz, g0_3 hz, g0_4 hz, g0_5 hz, g0_6 hz, p0_6 hz, k0 hz, g130_0 hz, g130_1 hz, p130_1 hz, k130 hz, g304_0 hz, g304_1 hz, p304_1 hz, k304 hz, g306_0 hz, g306_1 hz, g306_2 hz, g306_3 hz, g306_4 hz, p306_1 hz, p306_2 hz, p306_3 hz, p306_4 hz, k306 hz, g307_0 hz, g307_1 hz, g307_2 hz, g307_3 hz, p307_1 hz, p307_2 hz, p307_3 hz, k307 hz, hn]
theorem m_rehearsal (hz : zok z) (hc : cnt (M (z.1 + 1)) nc nh np) : run (d + 3) 106 [.ref z.1] (wld z M p) = some (some (.ref (z.1 + 44)), wld z (mput M (z.1 + 44) (cpF (M (z.1 + 44)) (M (z.1 + 1)) nc nh np)) p) := by
  rw [r106]
  simp only [e106_0, e106_1, e106_4, e106_5, e106_8, e106_11, e106_12, e106_15, e106_15n, lk, lset, ldel, lset2, ldel2, cat2, gI_int, gA_ref, gA_null, gV_some, gC_some, gL_long, Option.toList, List.cons_append, List.nil_append, List.length_cons, List.length_nil, Nat.reduceEqDiff, Nat.reduceAdd, Nat.reduceSub, Nat.reduceLeDiff, Nat.reduceLT, nb0, nb1, reduceIte, reduceCtorEq, and_false, and_true, false_and, true_and, if_true, if_false, Bool.false_eq_true, eq_self, not_true_eq_false, not_false_eq_true, g0_0 hz, g0_1 hz, g0_2 hz, g0_3 hz, g0_4 hz, g0_5 hz, g0_6 hz, p0_6 hz, k0 hz, g130_0 hz, g130_1 hz, p130_1 hz, k130 hz, g304_0 hz, g304_1 hz, p304_1 hz, k304 hz, g306_0 hz, g306_1 hz, g306_2 hz, g306_3 hz, g306_4 hz, p306_1 hz, p306_2 hz, p306_3 hz, p306_4 hz, k306 hz, g307_0 hz, g307_1 hz, g307_2 hz, g307_3 hz, p307_1 hz, p307_2 hz, p307_3 hz, k307 hz, k_st (isS_tri hz), m_stCopy (isS_tri hz) (isS_now hz) (show z.1 + 1 ≠ z.1 + 44 by omega) hc]
end HI
