/-! the class: fault, play, best -/
section CPL
variable {z : Zt} {d : Nat} {p : Nat → Nat} {k : Nat} {nc nh np : Nat}
theorem m_rehearse {M : Nat → Nat → Int32} (hz : zok z) {T0 : Nat → Int32} {P : (Nat → Int32) → Prop} (hPc : ∀ F, P F → ∃ nc nh np, cnt F nc nh np) (hPs : ∀ F s, s < k → P F → P (rehO (sg k T0) s F).2) (ht : txok M z k) (hT : M (z.1 + 305) = T0) (hP : P (M (z.1 + 44))) : ∃ M', run (d + 7) 29 [.ref (z.1 + 306), .ref (z.1 + 304), .ref (z.1 + 44)] (wld z M p) = some (none, wld z M' p) ∧ ref_ z M M' ∧ M' (z.1 + 44) = (rehR (sg k T0) k 60 0 0 (M (z.1 + 44))).2 ∧ M' (z.1 + 306) 1 = (rehR (sg k T0) k 60 0 0 (M (z.1 + 44))).1.1 ∧ (match (rehR (sg k T0) k 60 0 0 (M (z.1 + 44))).1.2 with
    | none => M' (z.1 + 306) 2 = -1
    | some (t, r, c) => M' (z.1 + 306) 2 = nI t ∧ M' (z.1 + 306) 3 = r ∧ M' (z.1 + 306) 4 = c) := by
  have q4 : z.1 + 44 ≠ z.1 + 306 := by omega
  have q5 : z.1 + 305 ≠ z.1 + 306 := by omega
  have r0 : ref_ z M (mput M (z.1 + 306) (fset (fset (M (z.1 + 306)) 1 0) 2 (-1))) := fun x a b c e => mput_ne b
  obtain ⟨M', w1, w2, w3, w4, w5⟩ := l_rehearse (d := d) (p := p) hz hPc hPs 60 0 0 (mput M (z.1 + 306) (fset (fset (M (z.1 + 306)) 1 0) 2 (-1))) (by omega) (by omega) (txok_ref ht r0) (by rw [mput_ne q5]; exact hT) (by rw [mput_same, fset_same]) (by rw [mput_ne q4]; exact hP) []
  rw [mput_ne q4, mput_same, fset_ne (by decide), fset_same] at w3 w4 w5
  refine ⟨M', ?_, ref_tr r0 w2, w3, w4, w5⟩
  rw [l0] at w1
  rw [r29]
  simp only [e29_0, e29_1, e29_2, e29_5, e29_6, e29_7, e29_10, e29_11, e29_12, e29_13, lk, lset, ldel, lset2, ldel2, cat2, gI_int, gA_ref, gA_null, gV_some, gC_some, gL_long, Option.toList, List.cons_append, List.nil_append, List.length_cons, List.length_nil, Nat.reduceEqDiff, Nat.reduceAdd, Nat.reduceSub, Nat.reduceLeDiff, Nat.reduceLT, nb0, nb1, reduceIte, reduceCtorEq, and_false, and_true, false_and, true_and, if_true, if_false, Bool.false_eq_true, eq_self, not_true_eq_false, not_false_eq_true, mput_same, mput_mput, fset_same, g0_0 hz, g0_1 hz, g0_2 hz, g0_3 hz, g0_4 hz, g0_5 hz, g0_6 hz, p0_6 hz, k0 hz, g130_0 hz, g130_1 hz, p130_1 hz, k130 hz, g304_0 hz, g304_1 hz, p304_1 hz, k304 hz, g306_0 hz, g306_1 hz, g306_2 hz, g306_3 hz, g306_4 hz, p306_1 hz, p306_2 hz, p306_3 hz, p306_4 hz, k306 hz, g307_0 hz, g307_1 hz, g307_2 hz, g307_3 hz, p307_1 hz, p307_2 hz, p307_3 hz, k307 hz]
  exact w1
theorem rehR_b {g : Nat → Int32} {k : Nat} : ∀ (f s : Nat) (o : Int32) (F : Nat → Int32) (t : Nat) (r c : Int32), (rehR g k f s o F).1.2 = some (t, r, c) → t < k := by
  intro f
  induction f with
  | zero => intro s o F t r c h; cases h
  | succ f ih =>
    intro s o F t r c h
    simp only [rehR] at h
    by_cases hs : s < k
    · rw [if_pos hs] at h
      cases hr : (rehO g s F).1 with
      | inl e =>
        rw [hr] at h
        exact ih _ _ _ _ _ _ h
      | inr rc =>
        rw [hr] at h
        injection h with h
        injection h with h _
        omega
    · rw [if_neg hs] at h; cases h
def fauV (r : Option (Nat × Int32 × Int32)) (x : Int32) : Int32 := match r with
  | none => -100004
  | some (t, r, c) => if x = 0 then nI t else if x = 1 then r else c
theorem c_fault {M : Nat → Nat → Int32} (hz : zok z) {T0 : Nat → Int32} {P : (Nat → Int32) → Prop} (hPc : ∀ F, P F → ∃ nc nh np, cnt F nc nh np) (hPs : ∀ F s, s < k → P F → P (rehO (sg k T0) s F).2) (ht : txok M z k) (hT : M (z.1 + 305) = T0) (hc : cnt (M (z.1 + 1)) nc nh np) {C : Nat → Int32} (hC : cpF (M (z.1 + 44)) (M (z.1 + 1)) nc nh np = C) (hP : P C) {x : Int32} (hx : 0 ≤ x ∧ x ≤ 2) : ∃ M', run (d + 8) 104 [.ref z.1, .int x] (wld z M p) = some (some (.int (fauV (rehR (sg k T0) k 60 0 0 C).1.2 x)), wld z M' p) ∧ ref_ z M M' := by
  have q4 : z.1 + 304 ≠ z.1 + 44 := by omega
  have q5 : z.1 + 305 ≠ z.1 + 44 := by omega
  have e0 := m_rehearsal (d := d + 4) (p := p) hz hc
  rw [hC] at e0
  have r0 : ref_ z M (mput M (z.1 + 44) C) := fun x a b c e => mput_ne a
  obtain ⟨M1, w1, w2, w3, w4, w5⟩ := m_rehearse (d := d) (M := mput M (z.1 + 44) C) (p := p) hz hPc hPs (txok_ref ht r0) (by rw [mput_ne q5]; exact hT) (by rw [mput_same]; exact hP)
  rw [mput_same] at w3 w4 w5
  have e1 := m_hasFault (d := d + 6) (M := M1) (p := p) hz
  have n10 : ¬ (1 : Int32) = 0 := by decide
  refine ⟨M1, ?_, ref_tr r0 w2⟩
  rw [r104]
  cases hr : (rehR (sg k T0) k 60 0 0 C).1.2 with
  | none =>
    rw [hr] at w5
    replace w5 : M1 (z.1 + 306) 2 = -1 := w5
    rw [show bI (¬ M1 (z.1 + 306) 2 = -1) = 0 from if_neg (fun q => q w5)] at e1
    simp only [e104_0, e104_1, e104_2, e104_3, e104_6, e104_9, e104_11, e104_12, e104_13, e104_16, e104_17, e104_20, e104_21, e104_24, e104_27, e104_28, e104_31, e104_34, e104_37, e104_39, e104_40, e104_41, e104_68, e104_69, e104_72, e104_75, e104_76, e104_77, e104_80, e104_83, e104_84, e104_85, e104_88, e104_91, lk, lset, ldel, lset2, ldel2, cat2, gI_int, gA_ref, gA_null, gV_some, gC_some, gL_long, Option.toList, List.cons_append, List.nil_append, List.length_cons, List.length_nil, Nat.reduceEqDiff, Nat.reduceAdd, Nat.reduceSub, Nat.reduceLeDiff, Nat.reduceLT, nb0, nb1, reduceIte, reduceCtorEq, and_false, and_true, false_and, true_and, if_true, if_false, Bool.false_eq_true, eq_self, not_true_eq_false, not_false_eq_true, ite_not, Classical.not_not, true_or, false_or, or_true, or_false, or_self, and_self, not_or, mput_self, bI_0, g0_0 hz, g0_1 hz, g0_2 hz, g0_3 hz, g0_4 hz, g0_5 hz, g0_6 hz, p0_6 hz, k0 hz, g130_0 hz, g130_1 hz, p130_1 hz, k130 hz, g304_0 hz, g304_1 hz, p304_1 hz, k304 hz, g306_0 hz, g306_1 hz, g306_2 hz, g306_3 hz, g306_4 hz, p306_1 hz, p306_2 hz, p306_3 hz, p306_4 hz, k306 hz, g307_0 hz, g307_1 hz, g307_2 hz, g307_3 hz, p307_1 hz, p307_2 hz, p307_3 hz, k307 hz, m_within, hx, e0, w1, e1, fauV]
  | some t =>
    obtain ⟨t, r, c⟩ := t
    rw [hr] at w5
    obtain ⟨y2, y3, y4⟩ := w5
    rw [show bI (¬ M1 (z.1 + 306) 2 = -1) = 1 from if_pos (by
      rw [y2]
      intro q
      have h0 : (0 : Int32) ≤ nI t := by
        have hb := rehR_b _ _ _ _ _ _ _ hr
        have hk := ht.2.1
        exact nI_pos' (by omega)
      rw [q] at h0
      exact absurd h0 (by decide))] at e1
    by_cases h0 : x = 0
    · subst h0
      simp only [e104_0, e104_1, e104_2, e104_3, e104_6, e104_9, e104_11, e104_12, e104_13, e104_16, e104_17, e104_20, e104_21, e104_24, e104_27, e104_28, e104_31, e104_34, e104_37, e104_39, e104_40, e104_41, e104_68, e104_69, e104_72, e104_75, e104_76, e104_77, e104_80, e104_83, e104_84, e104_85, e104_88, e104_91, lk, lset, ldel, lset2, ldel2, cat2, gI_int, gA_ref, gA_null, gV_some, gC_some, gL_long, Option.toList, List.cons_append, List.nil_append, List.length_cons, List.length_nil, Nat.reduceEqDiff, Nat.reduceAdd, Nat.reduceSub, Nat.reduceLeDiff, Nat.reduceLT, nb0, nb1, reduceIte, reduceCtorEq, and_false, and_true, false_and, true_and, if_true, if_false, Bool.false_eq_true, eq_self, not_true_eq_false, not_false_eq_true, ite_not, Classical.not_not, true_or, false_or, or_true, or_false, or_self, and_self, not_or, mput_self, bI_0, g0_0 hz, g0_1 hz, g0_2 hz, g0_3 hz, g0_4 hz, g0_5 hz, g0_6 hz, p0_6 hz, k0 hz, g130_0 hz, g130_1 hz, p130_1 hz, k130 hz, g304_0 hz, g304_1 hz, p304_1 hz, k304 hz, g306_0 hz, g306_1 hz, g306_2 hz, g306_3 hz, g306_4 hz, p306_1 hz, p306_2 hz, p306_3 hz, p306_4 hz, k306 hz, g307_0 hz, g307_1 hz, g307_2 hz, g307_3 hz, p307_1 hz, p307_2 hz, p307_3 hz, k307 hz, m_within, hx, e0, w1, e1, n10, fauV, y2, y3, y4]
    · by_cases h1 : x = 1
      · subst h1
        simp (config := { decide := true }) only [e104_0, e104_1, e104_2, e104_3, e104_6, e104_9, e104_11, e104_12, e104_13, e104_16, e104_17, e104_20, e104_21, e104_24, e104_27, e104_28, e104_31, e104_34, e104_37, e104_39, e104_40, e104_41, e104_68, e104_69, e104_72, e104_75, e104_76, e104_77, e104_80, e104_83, e104_84, e104_85, e104_88, e104_91, lk, lset, ldel, lset2, ldel2, cat2, gI_int, gA_ref, gA_null, gV_some, gC_some, gL_long, Option.toList, List.cons_append, List.nil_append, List.length_cons, List.length_nil, Nat.reduceEqDiff, Nat.reduceAdd, Nat.reduceSub, Nat.reduceLeDiff, Nat.reduceLT, nb0, nb1, reduceIte, reduceCtorEq, and_false, and_true, false_and, true_and, if_true, if_false, Bool.false_eq_true, eq_self, not_true_eq_false, not_false_eq_true, ite_not, Classical.not_not, true_or, false_or, or_true, or_false, or_self, and_self, not_or, mput_self, bI_0, g0_0 hz, g0_1 hz, g0_2 hz, g0_3 hz, g0_4 hz, g0_5 hz, g0_6 hz, p0_6 hz, k0 hz, g130_0 hz, g130_1 hz, p130_1 hz, k130 hz, g304_0 hz, g304_1 hz, p304_1 hz, k304 hz, g306_0 hz, g306_1 hz, g306_2 hz, g306_3 hz, g306_4 hz, p306_1 hz, p306_2 hz, p306_3 hz, p306_4 hz, k306 hz, g307_0 hz, g307_1 hz, g307_2 hz, g307_3 hz, p307_1 hz, p307_2 hz, p307_3 hz, k307 hz, m_within, hx, e0, w1, e1, n10, fauV, y2, y3, y4]
      · simp only [e104_0, e104_1, e104_2, e104_3, e104_6, e104_9, e104_11, e104_12, e104_13, e104_16, e104_17, e104_20, e104_21, e104_24, e104_27, e104_28, e104_31, e104_34, e104_37, e104_39, e104_40, e104_41, e104_68, e104_69, e104_72, e104_75, e104_76, e104_77, e104_80, e104_83, e104_84, e104_85, e104_88, e104_91, lk, lset, ldel, lset2, ldel2, cat2, gI_int, gA_ref, gA_null, gV_some, gC_some, gL_long, Option.toList, List.cons_append, List.nil_append, List.length_cons, List.length_nil, Nat.reduceEqDiff, Nat.reduceAdd, Nat.reduceSub, Nat.reduceLeDiff, Nat.reduceLT, nb0, nb1, reduceIte, reduceCtorEq, and_false, and_true, false_and, true_and, if_true, if_false, Bool.false_eq_true, eq_self, not_true_eq_false, not_false_eq_true, ite_not, Classical.not_not, true_or, false_or, or_true, or_false, or_self, and_self, not_or, mput_self, bI_0, g0_0 hz, g0_1 hz, g0_2 hz, g0_3 hz, g0_4 hz, g0_5 hz, g0_6 hz, p0_6 hz, k0 hz, g130_0 hz, g130_1 hz, p130_1 hz, k130 hz, g304_0 hz, g304_1 hz, p304_1 hz, k304 hz, g306_0 hz, g306_1 hz, g306_2 hz, g306_3 hz, g306_4 hz, p306_1 hz, p306_2 hz, p306_3 hz, p306_4 hz, k306 hz, g307_0 hz, g307_1 hz, g307_2 hz, g307_3 hz, p307_1 hz, p307_2 hz, p307_3 hz, k307 hz, m_within, hx, h0, h1, e0, w1, e1, n10, fauV, y2, y3, y4]
theorem c_faultNo {x : Int32} {w : Wd} {a : Nat} (h : ¬ (0 ≤ x ∧ x ≤ 2)) : run (d + 3) 104 [.ref a, .int x] w = some (some (.int (-100001)), w) := by
  rw [r104]
  simp only [e104_0, e104_1, e104_2, e104_3, e104_6, e104_9, e104_11, lk, lset, ldel, lset2, ldel2, cat2, gI_int, gA_ref, gA_null, gV_some, gC_some, gL_long, Option.toList, List.cons_append, List.nil_append, List.length_cons, List.length_nil, Nat.reduceEqDiff, Nat.reduceAdd, Nat.reduceSub, Nat.reduceLeDiff, Nat.reduceLT, nb0, nb1, reduceIte, reduceCtorEq, and_false, and_true, false_and, true_and, if_true, if_false, Bool.false_eq_true, eq_self, not_true_eq_false, not_false_eq_true, ite_not, Classical.not_not, true_or, false_or, or_true, or_false, or_self, and_self, not_or, mput_self, bI_0, m_within, h]
/-- what reading leaves alone: the class's side stands -/
theorem CS.rf {M M' : Nat → Nat → Int32} {G : Nat → Int32} {n : Nat} {H : Nat → Nat → Int32} {kf : Int32} {K : Nat → Int32} {tx : Nat → Int32} (h : CS z M p G n H kf K k tx) (r : ref_ z M M') : CS z M' p G n H kf K k tx := by
  obtain ⟨h1, h2, h3, h4, h5, h6, h7, h8, h9, h10⟩ := h
  refine ⟨h1, ?_, ?_, h4, fun j hj => ?_, ?_, ?_, ?_, h9, fun j hj => ?_⟩
  · rw [r _ (by omega) (by omega) (by omega) (by omega)]; exact h2
  · rw [r _ (by omega) (by omega) (by omega) (by omega)]; exact h3
  · have := h1.2.1 j (by omega)
    rw [r _ (by omega) (by omega) (by omega) (by omega)]; exact h5 j hj
  · rw [r _ (by omega) (by omega) (by omega) (by omega)]; exact h6
  · rw [r _ (by omega) (by omega) (by omega) (by omega)]; exact h7
  · rw [r _ (by omega) (by omega) (by omega) (by omega)]; exact h8
  · rw [r _ (by omega) (by omega) (by omega) (by omega)]; exact h10 j hj
def plaV (r : Int32 × Option (Nat × Int32 × Int32)) : Int32 := match r.2 with
  | none => r.1
  | some _ => -100002
theorem c_play {M : Nat → Nat → Int32} {G : Nat → Int32} {n : Nat} {H : Nat → Nat → Int32} {kf : Int32} {K : Nat → Int32} {tx : Nat → Int32} (h : CS z M p G n H kf K k tx) {T0 : Nat → Int32} {P : (Nat → Int32) → Prop} (hPc : ∀ F, P F → ∃ nc nh np, cnt F nc nh np) (hPs : ∀ F s, s < k → P F → P (rehO (sg k T0) s F).2) (ht : txok M z k) (hT : M (z.1 + 305) = T0) (hc : cnt (M (z.1 + 1)) nc nh np) {C : Nat → Int32} (hC : cpF (M (z.1 + 44)) (M (z.1 + 1)) nc nh np = C) (hP : P C) {G' : Nat → Int32} (hG : 0 ≤ plaV (rehR (sg k T0) k 60 0 0 C).1 → Lq (rehR (sg k T0) k 60 0 0 C).2 G') : ∃ M' p', run (d + 8) 105 [.ref z.1] (wld z M p) = some (some (.int (plaV (rehR (sg k T0) k 60 0 0 C).1)), wld z M' p') ∧ mfr z M M' ∧ (if 0 ≤ plaV (rehR (sg k T0) k 60 0 0 C).1 then CS z M' p' G' (pushN n) (pushH n H G) kf K k tx else CS z M' p' G n H kf K k tx) := by
  have hz := h.1.1
  have q5 : z.1 + 305 ≠ z.1 + 44 := by omega
  have e0 := m_rehearsal (d := d + 4) (p := p) hz hc
  rw [hC] at e0
  have r0 : ref_ z M (mput M (z.1 + 44) C) := fun x a b c e => mput_ne a
  obtain ⟨M1, w1, w2, w3, w4, w5⟩ := m_rehearse (d := d) (M := mput M (z.1 + 44) C) (p := p) hz hPc hPs (txok_ref ht r0) (by rw [mput_ne q5]; exact hT) (by rw [mput_same]; exact hP)
  rw [mput_same] at w3 w4 w5
  have e1 := m_hasFault (d := d + 6) (M := M1) (p := p) hz
  have n10 : ¬ (1 : Int32) = 0 := by decide
  have hr2 := ref_tr r0 w2
  obtain ⟨M', p', s1, s2, s3⟩ := c_settle (d := d + 3) (h.rf hr2) (G' := G') (r := plaV (rehR (sg k T0) k 60 0 0 C).1) (by rw [w3]; exact hG)
  refine ⟨M', p', ?_, fun x hx => (s2 x hx).trans (hr2 x (by omega) (by omega) (by omega) (by omega)), s3⟩
  rw [r105]
  cases hr : (rehR (sg k T0) k 60 0 0 C).1.2 with
  | none =>
    rw [hr] at w5
    replace w5 : M1 (z.1 + 306) 2 = -1 := w5
    rw [show bI (¬ M1 (z.1 + 306) 2 = -1) = 0 from if_neg (fun q => q w5)] at e1
    have ev : plaV (rehR (sg k T0) k 60 0 0 C).1 = (rehR (sg k T0) k 60 0 0 C).1.1 := by unfold plaV; rw [hr]
    rw [ev] at s1 ⊢
    simp only [e105_0, e105_1, e105_4, e105_5, e105_8, e105_9, e105_12, e105_15, e105_16, e105_17, e105_20, e105_23, e105_26, e105_28, e105_31, e105_32, e105_35, e105_38, e105_41, lk, lset, ldel, lset2, ldel2, cat2, gI_int, gA_ref, gA_null, gV_some, gC_some, gL_long, Option.toList, List.cons_append, List.nil_append, List.length_cons, List.length_nil, Nat.reduceEqDiff, Nat.reduceAdd, Nat.reduceSub, Nat.reduceLeDiff, Nat.reduceLT, nb0, nb1, reduceIte, reduceCtorEq, and_false, and_true, false_and, true_and, if_true, if_false, Bool.false_eq_true, eq_self, not_true_eq_false, not_false_eq_true, ite_not, Classical.not_not, true_or, false_or, or_true, or_false, or_self, and_self, not_or, mput_self, bI_0, g0_0 hz, g0_1 hz, g0_2 hz, g0_3 hz, g0_4 hz, g0_5 hz, g0_6 hz, p0_6 hz, k0 hz, g130_0 hz, g130_1 hz, p130_1 hz, k130 hz, g304_0 hz, g304_1 hz, p304_1 hz, k304 hz, g306_0 hz, g306_1 hz, g306_2 hz, g306_3 hz, g306_4 hz, p306_1 hz, p306_2 hz, p306_3 hz, p306_4 hz, k306 hz, g307_0 hz, g307_1 hz, g307_2 hz, g307_3 hz, p307_1 hz, p307_2 hz, p307_3 hz, k307 hz, e0, w1, e1, w4, s1]
  | some t =>
    obtain ⟨t, r, c⟩ := t
    rw [hr] at w5
    obtain ⟨y2, y3, y4⟩ := w5
    rw [show bI (¬ M1 (z.1 + 306) 2 = -1) = 1 from if_pos (by
      rw [y2]
      intro q
      have h0 : (0 : Int32) ≤ nI t := by
        have hb := rehR_b _ _ _ _ _ _ _ hr
        have hk := ht.2.1
        exact nI_pos' (by omega)
      rw [q] at h0
      exact absurd h0 (by decide))] at e1
    have ev : plaV (rehR (sg k T0) k 60 0 0 C).1 = -100002 := by unfold plaV; rw [hr]
    rw [ev] at s1 ⊢
    simp only [e105_0, e105_1, e105_4, e105_5, e105_8, e105_9, e105_12, e105_15, e105_16, e105_17, e105_20, e105_23, e105_26, e105_28, e105_31, e105_32, e105_35, e105_38, e105_41, lk, lset, ldel, lset2, ldel2, cat2, gI_int, gA_ref, gA_null, gV_some, gC_some, gL_long, Option.toList, List.cons_append, List.nil_append, List.length_cons, List.length_nil, Nat.reduceEqDiff, Nat.reduceAdd, Nat.reduceSub, Nat.reduceLeDiff, Nat.reduceLT, nb0, nb1, reduceIte, reduceCtorEq, and_false, and_true, false_and, true_and, if_true, if_false, Bool.false_eq_true, eq_self, not_true_eq_false, not_false_eq_true, ite_not, Classical.not_not, true_or, false_or, or_true, or_false, or_self, and_self, not_or, mput_self, bI_0, g0_0 hz, g0_1 hz, g0_2 hz, g0_3 hz, g0_4 hz, g0_5 hz, g0_6 hz, p0_6 hz, k0 hz, g130_0 hz, g130_1 hz, p130_1 hz, k130 hz, g304_0 hz, g304_1 hz, p304_1 hz, k304 hz, g306_0 hz, g306_1 hz, g306_2 hz, g306_3 hz, g306_4 hz, p306_1 hz, p306_2 hz, p306_3 hz, p306_4 hz, k306 hz, g307_0 hz, g307_1 hz, g307_2 hz, g307_3 hz, p307_1 hz, p307_2 hz, p307_3 hz, k307 hz, e0, w1, e1, n10, s1]
def bstW (B : Nat → Int32) (nh : Nat) (x : Int32) : Int32 := if (bstC B 0 nh (-1) 0).1 = -1 then -100004 else if x = 0 then (bstC B 0 nh (-1) 0).1 else (bstC B 0 nh (-1) 0).2
theorem c_best {M : Nat → Nat → Int32} (hz : zok z) {F : Nat → Int32} (hF : M (z.1 + 1) = F) (hc : cnt F nc nh np) {B : Nat → Int32} (hB : ∀ T i, i < nh → 0 + sumR (tlV (tkF (cpF T F nc nh np) nh np i)) 0 np = B i) (ht : ∀ T i, i < nh → cnt (tkF (cpF T F nc nh np) nh np i) nc (nh - 1) np) {x : Int32} (hx : 0 ≤ x ∧ x ≤ 1) : ∃ T, run (d + 6) 97 [.ref z.1, .int x] (wld z M p) = some (some (.int (bstW B nh x)), wld z (mput M (z.1 + 44) T) p) := by
  obtain ⟨T, e⟩ := l_cbest (d := d) (p := p) hz hc hB ht (x := x) nh 0 M hF (by omega) (-1) 0 []
  refine ⟨T, ?_⟩
  rw [l0] at e
  rw [r97]
  simp only [e97_0, e97_1, e97_2, e97_3, e97_6, e97_9, e97_11, e97_12, e97_13, e97_14, e97_15, e97_16, e97_17, lk, lset, ldel, lset2, ldel2, cat2, gI_int, gA_ref, gA_null, gV_some, gC_some, gL_long, Option.toList, List.cons_append, List.nil_append, List.length_cons, List.length_nil, Nat.reduceEqDiff, Nat.reduceAdd, Nat.reduceSub, Nat.reduceLeDiff, Nat.reduceLT, nb0, nb1, reduceIte, reduceCtorEq, and_false, and_true, false_and, true_and, if_true, if_false, Bool.false_eq_true, eq_self, not_true_eq_false, not_false_eq_true, ite_not, Classical.not_not, true_or, false_or, or_true, or_false, or_self, and_self, not_or, mput_self, bI_0, m_within, hx]
  exact e
theorem c_bestNo {x : Int32} {w : Wd} {a : Nat} (h : ¬ (0 ≤ x ∧ x ≤ 1)) : run (d + 2) 97 [.ref a, .int x] w = some (some (.int (-100001)), w) := by
  rw [r97]
  simp only [e97_0, e97_1, e97_2, e97_3, e97_6, e97_9, e97_11, lk, lset, ldel, lset2, ldel2, cat2, gI_int, gA_ref, gA_null, gV_some, gC_some, gL_long, Option.toList, List.cons_append, List.nil_append, List.length_cons, List.length_nil, Nat.reduceEqDiff, Nat.reduceAdd, Nat.reduceSub, Nat.reduceLeDiff, Nat.reduceLT, nb0, nb1, reduceIte, reduceCtorEq, and_false, and_true, false_and, true_and, if_true, if_false, Bool.false_eq_true, eq_self, not_true_eq_false, not_false_eq_true, ite_not, Classical.not_not, true_or, false_or, or_true, or_false, or_self, and_self, not_or, mput_self, bI_0, m_within, h]
end CPL
