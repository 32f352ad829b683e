/-! the class: a text rehearsed -/
/-- a text rehearsed from s on: how many orders, the fault if there is one, the row -/
def rehR (g : Nat → Int32) (k : Nat) : Nat → Nat → Int32 → (Nat → Int32) → (Int32 × Option (Nat × Int32 × Int32)) × (Nat → Int32)
  | 0, _, o, F => ((o, none), F)
  | f + 1, s, o, F => if s < k then (match (rehO g s F).1 with
      | .inl e => rehR g k f e (o + 1) (rehO g s F).2
      | .inr rc => ((o, some (s, rc.1, rc.2)), (rehO g s F).2)) else ((o, none), F)
theorem rehO_e {k : Nat} {T0 F : Nat → Int32} {s e : Nat} (h : (rehO (sg k T0) s F).1 = .inl e) : s < e ∧ e ≤ k := by
  unfold rehO at h
  cases hp : parN (sg k T0) s (fun _ => -1) with
  | none => rw [hp] at h; cases h
  | some r =>
    obtain ⟨e', a, T⟩ := r
    have hb := parN_b hp
    rw [hp] at h
    dsimp only at h
    by_cases hm : many (sg k T0 s) a
    · rw [if_pos hm] at h
      by_cases hv : (cstep F (sg k T0 s) T).1 < 0
      · rw [if_pos hv] at h; cases h
      · rw [if_neg hv] at h
        injection h with h
        omega
    · rw [if_neg hm] at h; cases h
theorem ref_tr {z : Zt} {M M1 M2 : Nat → Nat → Int32} (h : ref_ z M M1) (h2 : ref_ z M1 M2) : ref_ z M M2 := fun x a b c e => (h2 x a b c e).trans (h x a b c e)
theorem txok_ref {z : Zt} {k : Nat} {M M' : Nat → Nat → Int32} (h : txok M z k) (ho : ref_ z M M') : txok M' z k := by
  unfold txok
  rw [ho (z.1 + 304) (by omega) (by omega) (by omega) (by omega), ho (z.1 + 305) (by omega) (by omega) (by omega) (by omega)]
  exact h
section CRH
variable {z : Zt} {d : Nat} {p : Nat → Nat} {k : Nat}
theorem l_rehExit {M : Nat → Nat → Int32} (hz : zok z) (ht : txok M z k) (hf : ¬ M (z.1 + 306) 2 = -1) {v i : Int32} {rest : List (Nat × Value)} : X (d + 6) 29 15 ((0, .ref (z.1 + 306)) :: (1, .ref (z.1 + 304)) :: (2, .ref (z.1 + 44)) :: (3, .int v) :: (4, .int i) :: rest) [] (wld z M p) = some (none, wld z M p) := by
  have n10 : ¬ (1 : Int32) = 0 := by decide
  have e0 := m_hasFault (d := d + 5) (M := M) (p := p) hz
  rw [show bI (¬ M (z.1 + 306) 2 = -1) = 1 from if_pos hf] at e0
  rw [e29_15]
  by_cases h1 : 60 ≤ i
  · simp only [e29_17, e29_19, e29_22, e29_23, e29_24, e29_27, e29_30, e29_31, e29_34, e29_37, e29_38, e29_41, e29_42, e29_43, e29_46, e29_48, e29_50, e29_53, e29_54, e29_57, e29_58, e29_61, e29_64, e29_66, e29_68, e29_70, e29_73, e29_74, e29_75, e29_77, e29_80, e29_81, e29_84, e29_85, e29_87, e29_90, e29_93, e29_94, e29_94a, e29_95, e29_98, e29_99, e29_100, e29_103, e29_104, e29_107, e29_110, e29_111, e29_114, e29_117, lk, lset, ldel, lset2, ldel2, cat2, gI_int, gA_ref, gA_null, gV_some, gC_some, gL_long, Option.toList, List.cons_append, List.nil_append, List.length_cons, List.length_nil, Nat.reduceEqDiff, Nat.reduceAdd, Nat.reduceSub, Nat.reduceLeDiff, Nat.reduceLT, nb0, nb1, reduceIte, reduceCtorEq, and_false, and_true, false_and, true_and, if_true, if_false, Bool.false_eq_true, eq_self, not_true_eq_false, not_false_eq_true, g0_0 hz, g0_1 hz, g0_2 hz, g0_3 hz, g0_4 hz, g0_5 hz, g0_6 hz, p0_6 hz, k0 hz, g130_0 hz, g130_1 hz, p130_1 hz, k130 hz, g304_0 hz, g304_1 hz, p304_1 hz, k304 hz, g306_0 hz, g306_1 hz, g306_2 hz, g306_3 hz, g306_4 hz, p306_1 hz, p306_2 hz, p306_3 hz, p306_4 hz, k306 hz, g307_0 hz, g307_1 hz, g307_2 hz, g307_3 hz, p307_1 hz, p307_2 hz, p307_3 hz, k307 hz, h1]
  · by_cases h2 : M (z.1 + 304) 1 ≤ v
    · simp only [e29_17, e29_19, e29_22, e29_23, e29_24, e29_27, e29_30, e29_31, e29_34, e29_37, e29_38, e29_41, e29_42, e29_43, e29_46, e29_48, e29_50, e29_53, e29_54, e29_57, e29_58, e29_61, e29_64, e29_66, e29_68, e29_70, e29_73, e29_74, e29_75, e29_77, e29_80, e29_81, e29_84, e29_85, e29_87, e29_90, e29_93, e29_94, e29_94a, e29_95, e29_98, e29_99, e29_100, e29_103, e29_104, e29_107, e29_110, e29_111, e29_114, e29_117, lk, lset, ldel, lset2, ldel2, cat2, gI_int, gA_ref, gA_null, gV_some, gC_some, gL_long, Option.toList, List.cons_append, List.nil_append, List.length_cons, List.length_nil, Nat.reduceEqDiff, Nat.reduceAdd, Nat.reduceSub, Nat.reduceLeDiff, Nat.reduceLT, nb0, nb1, reduceIte, reduceCtorEq, and_false, and_true, false_and, true_and, if_true, if_false, Bool.false_eq_true, eq_self, not_true_eq_false, not_false_eq_true, g0_0 hz, g0_1 hz, g0_2 hz, g0_3 hz, g0_4 hz, g0_5 hz, g0_6 hz, p0_6 hz, k0 hz, g130_0 hz, g130_1 hz, p130_1 hz, k130 hz, g304_0 hz, g304_1 hz, p304_1 hz, k304 hz, g306_0 hz, g306_1 hz, g306_2 hz, g306_3 hz, g306_4 hz, p306_1 hz, p306_2 hz, p306_3 hz, p306_4 hz, k306 hz, g307_0 hz, g307_1 hz, g307_2 hz, g307_3 hz, p307_1 hz, p307_2 hz, p307_3 hz, k307 hz, h1, h2]
    · simp only [e29_17, e29_19, e29_22, e29_23, e29_24, e29_27, e29_30, e29_31, e29_34, e29_37, e29_38, e29_41, e29_42, e29_43, e29_46, e29_48, e29_50, e29_53, e29_54, e29_57, e29_58, e29_61, e29_64, e29_66, e29_68, e29_70, e29_73, e29_74, e29_75, e29_77, e29_80, e29_81, e29_84, e29_85, e29_87, e29_90, e29_93, e29_94, e29_94a, e29_95, e29_98, e29_99, e29_100, e29_103, e29_104, e29_107, e29_110, e29_111, e29_114, e29_117, lk, lset, ldel, lset2, ldel2, cat2, gI_int, gA_ref, gA_null, gV_some, gC_some, gL_long, Option.toList, List.cons_append, List.nil_append, List.length_cons, List.length_nil, Nat.reduceEqDiff, Nat.reduceAdd, Nat.reduceSub, Nat.reduceLeDiff, Nat.reduceLT, nb0, nb1, reduceIte, reduceCtorEq, and_false, and_true, false_and, true_and, if_true, if_false, Bool.false_eq_true, eq_self, not_true_eq_false, not_false_eq_true, g0_0 hz, g0_1 hz, g0_2 hz, g0_3 hz, g0_4 hz, g0_5 hz, g0_6 hz, p0_6 hz, k0 hz, g130_0 hz, g130_1 hz, p130_1 hz, k130 hz, g304_0 hz, g304_1 hz, p304_1 hz, k304 hz, g306_0 hz, g306_1 hz, g306_2 hz, g306_3 hz, g306_4 hz, p306_1 hz, p306_2 hz, p306_3 hz, p306_4 hz, k306 hz, g307_0 hz, g307_1 hz, g307_2 hz, g307_3 hz, p307_1 hz, p307_2 hz, p307_3 hz, k307 hz, h1, h2, e0, n10]
theorem l_rehearse (hz : zok z) {T0 : Nat → Int32} {P : (Nat → Int32) → Prop} (hPc : ∀ F, P F → ∃ nc nh np, cnt F nc nh np) (hPs : ∀ F s, s < k → P F → P (rehO (sg k T0) s F).2) : ∀ (f i s : Nat) (M : Nat → Nat → Int32), i + f = 60 → s ≤ k → txok M z k → M (z.1 + 305) = T0 → M (z.1 + 306) 2 = -1 → P (M (z.1 + 44)) → ∀ rest, ∃ M', X (d + 6) 29 15 ((0, .ref (z.1 + 306)) :: (1, .ref (z.1 + 304)) :: (2, .ref (z.1 + 44)) :: (3, .int (nI s)) :: (4, .int (nI i)) :: rest) [] (wld z M p) = some (none, wld z M' p) ∧ ref_ z M M' ∧ M' (z.1 + 44) = (rehR (sg k T0) k f s (M (z.1 + 306) 1) (M (z.1 + 44))).2 ∧ M' (z.1 + 306) 1 = (rehR (sg k T0) k f s (M (z.1 + 306) 1) (M (z.1 + 44))).1.1 ∧ (match (rehR (sg k T0) k f s (M (z.1 + 306) 1) (M (z.1 + 44))).1.2 with
    | none => M' (z.1 + 306) 2 = -1
    | some (t, r, c) => M' (z.1 + 306) 2 = nI t ∧ M' (z.1 + 306) 3 = r ∧ M' (z.1 + 306) 4 = c) := by
  intro f
  have e60 : nI 60 = 60 := by decide +kernel
  induction f with
  | zero =>
    intro i s M hif hs ht hT hf hP rest
    obtain rfl : i = 60 := by omega
    refine ⟨M, ?_, fun _ _ _ _ _ => rfl, rfl, rfl, hf⟩
    rw [e29_15]
    simp only [e29_17, e29_19, e29_22, e29_23, e29_24, e29_27, e29_30, e29_31, e29_34, e29_37, e29_38, e29_41, e29_42, e29_43, e29_46, e29_48, e29_50, e29_53, e29_54, e29_57, e29_58, e29_61, e29_64, e29_66, e29_68, e29_70, e29_73, e29_74, e29_75, e29_77, e29_80, e29_81, e29_84, e29_85, e29_87, e29_90, e29_93, e29_94, e29_94a, e29_95, e29_98, e29_99, e29_100, e29_103, e29_104, e29_107, e29_110, e29_111, e29_114, e29_117, lk, lset, ldel, lset2, ldel2, cat2, gI_int, gA_ref, gA_null, gV_some, gC_some, gL_long, Option.toList, List.cons_append, List.nil_append, List.length_cons, List.length_nil, Nat.reduceEqDiff, Nat.reduceAdd, Nat.reduceSub, Nat.reduceLeDiff, Nat.reduceLT, nb0, nb1, reduceIte, reduceCtorEq, and_false, and_true, false_and, true_and, if_true, if_false, Bool.false_eq_true, eq_self, not_true_eq_false, not_false_eq_true, g0_0 hz, g0_1 hz, g0_2 hz, g0_3 hz, g0_4 hz, g0_5 hz, g0_6 hz, p0_6 hz, k0 hz, g130_0 hz, g130_1 hz, p130_1 hz, k130 hz, g304_0 hz, g304_1 hz, p304_1 hz, k304 hz, g306_0 hz, g306_1 hz, g306_2 hz, g306_3 hz, g306_4 hz, p306_1 hz, p306_2 hz, p306_3 hz, p306_4 hz, k306 hz, g307_0 hz, g307_1 hz, g307_2 hz, g307_3 hz, p307_1 hz, p307_2 hz, p307_3 hz, k307 hz, e60, Int32.le_refl]
  | succ f ih =>
    intro i s M hif hs ht hT hf hP rest
    have hk60 := ht.2.1
    have g60 : ¬ 60 ≤ nI i := by rw [← e60]; exact nI_goon (by omega) (by omega)
    simp only [rehR]
    by_cases hsk : s < k
    · rw [if_pos hsk]
      obtain ⟨nc, nh, np, hc⟩ := hPc _ hP
      obtain ⟨M1, rest', step, x2, x3, x4⟩ := l_rehBody (d := d) (p := p) hz ht hsk (i := i) (by omega) hc hf rest
      rw [hT] at x3 x4
      have hP1 := hPs _ s hsk hP
      rw [← x3] at hP1
      have ht1 := txok_ref ht x2
      have hT1 : M1 (z.1 + 305) = T0 := (x2 _ (by omega) (by omega) (by omega) (by omega)).trans hT
      cases hr : (rehO (sg k T0) s (M (z.1 + 44))).1 with
      | inl e =>
        rw [hr] at x4
        obtain ⟨y3, y6⟩ := x4
        have he := rehO_e hr
        have o1 : M1 (z.1 + 306) 1 = M (z.1 + 306) 1 + 1 := by rw [y6, fset_same]
        have o2 : M1 (z.1 + 306) 2 = -1 := by rw [y6, fset_ne (by decide)]; exact hf
        obtain ⟨M', w1, w2, w3, w4, w5⟩ := ih (i + 1) e M1 (by omega) he.2 ht1 hT1 o2 hP1 rest'
        rw [o1, x3] at w3 w4 w5
        refine ⟨M', ?_, ref_tr x2 w2, w3, w4, w5⟩
        rw [step, y3]
        exact w1
      | inr rc =>
        obtain ⟨r, c⟩ := rc
        rw [hr] at x4
        have y6 : M1 (z.1 + 306) = fset (fset (fset (M (z.1 + 306)) 2 (nI s)) 3 r) 4 c := x4
        have o2 : M1 (z.1 + 306) 2 = nI s := by rw [y6, fset_ne (by decide), fset_ne (by decide), fset_same]
        have n1 : ¬ M1 (z.1 + 306) 2 = -1 := by
          rw [o2]
          intro q
          have := nI_pos' (n := s) (by omega)
          rw [q] at this
          exact absurd this (by decide)
        refine ⟨M1, ?_, x2, x3, ?_, o2, ?_, ?_⟩
        · rw [step]
          exact l_rehExit hz ht1 n1
        · rw [y6, fset_ne (by decide), fset_ne (by decide), fset_ne (by decide)]
        · rw [y6, fset_ne (by decide), fset_same]
        · rw [y6, fset_same]
    · rw [if_neg hsk]
      refine ⟨M, ?_, fun _ _ _ _ _ => rfl, rfl, rfl, hf⟩
      have gk := nI_stop (i := s) (n := k) (by omega) (by omega)
      rw [e29_15]
      simp only [e29_17, e29_19, e29_22, e29_23, e29_24, e29_27, e29_30, e29_31, e29_34, e29_37, e29_38, e29_41, e29_42, e29_43, e29_46, e29_48, e29_50, e29_53, e29_54, e29_57, e29_58, e29_61, e29_64, e29_66, e29_68, e29_70, e29_73, e29_74, e29_75, e29_77, e29_80, e29_81, e29_84, e29_85, e29_87, e29_90, e29_93, e29_94, e29_94a, e29_95, e29_98, e29_99, e29_100, e29_103, e29_104, e29_107, e29_110, e29_111, e29_114, e29_117, lk, lset, ldel, lset2, ldel2, cat2, gI_int, gA_ref, gA_null, gV_some, gC_some, gL_long, Option.toList, List.cons_append, List.nil_append, List.length_cons, List.length_nil, Nat.reduceEqDiff, Nat.reduceAdd, Nat.reduceSub, Nat.reduceLeDiff, Nat.reduceLT, nb0, nb1, reduceIte, reduceCtorEq, and_false, and_true, false_and, true_and, if_true, if_false, Bool.false_eq_true, eq_self, not_true_eq_false, not_false_eq_true, g0_0 hz, g0_1 hz, g0_2 hz, g0_3 hz, g0_4 hz, g0_5 hz, g0_6 hz, p0_6 hz, k0 hz, g130_0 hz, g130_1 hz, p130_1 hz, k130 hz, g304_0 hz, g304_1 hz, p304_1 hz, k304 hz, g306_0 hz, g306_1 hz, g306_2 hz, g306_3 hz, g306_4 hz, p306_1 hz, p306_2 hz, p306_3 hz, p306_4 hz, k306 hz, g307_0 hz, g307_1 hz, g307_2 hz, g307_3 hz, p307_1 hz, p307_2 hz, p307_3 hz, k307 hz, g60, ht.1, gk]
end CRH
