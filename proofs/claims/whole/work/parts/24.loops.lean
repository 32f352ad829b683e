/-! more loops of a state -/
theorem lk_same {L : List (Nat × Value)} {i : Nat} {v : Value} : lk (lset L i v) i = some v := by
  induction L with
  | nil => simp [lset, lk]
  | cons q r ih =>
    obtain ⟨j, u⟩ := q
    rw [lset]
    split
    · simp [lk]
    · split
      · exact ih
      · rw [lk, if_neg (by assumption)]; exact ih
theorem lk_same2 {L : List (Nat × Value)} {i : Nat} {v : Value} : lk (lset2 L i v) i = some v := by
  induction L with
  | nil => simp [lset2, lk]
  | cons q r ih =>
    obtain ⟨j, u⟩ := q
    rw [lset2]
    split
    · simp [lk]
    · split
      · exact ih
      · split
        · exact ih
        · rw [lk, if_neg (by assumption)]; exact ih
theorem lk_ldel {L : List (Nat × Value)} {i j : Nat} {u : Value} (h : lk L j = some u) (hu : cat2 u = false) (hij : j ≠ i) : lk (ldel L i) j = some u := by
  induction L with
  | nil => simp [lk] at h
  | cons q r ih =>
    obtain ⟨k, t⟩ := q
    rw [lk] at h
    rw [ldel]
    split at h
    next e =>
      cases h
      subst e
      rw [if_neg hij, if_neg (fun z => by rw [hu] at z; exact absurd z.2 (by decide)), lk, if_pos rfl]
    next e =>
      split
      · exact ih h
      · split
        · exact ih h
        · rw [lk, if_neg e]; exact ih h
theorem lk_keep {L : List (Nat × Value)} {i j : Nat} {u v : Value} (h : lk L j = some u) (hu : cat2 u = false) (hij : j ≠ i) : lk (lset L i v) j = some u := by
  induction L with
  | nil => simp [lk] at h
  | cons q r ih =>
    obtain ⟨k, t⟩ := q
    rw [lk] at h
    rw [lset]
    split at h
    next e =>
      cases h
      subst e
      rw [if_neg hij, if_neg (fun z => by rw [hu] at z; exact absurd z.2 (by decide)), lk, if_pos rfl]
    next e =>
      split
      · rename_i e3
        rw [lk, if_neg (fun z => hij z.symm)]
        exact lk_ldel h hu hij
      · split
        · exact ih h
        · rw [lk, if_neg e]; exact ih h
theorem lk_k1 {L : List (Nat × Value)} {i j : Nat} {a : Int32} {v : Value} (hij : j ≠ i) : lk (lset (lset L j (.int a)) i v) j = some (.int a) := lk_keep lk_same rfl hij
theorem lk_k1r {L : List (Nat × Value)} {i j : Nat} {a : Nat} {v : Value} (hij : j ≠ i) : lk (lset (lset L j (.ref a)) i v) j = some (.ref a) := lk_keep lk_same rfl hij
theorem lk_ldN {L : List (Nat × Value)} {i j : Nat} (h1 : j ≠ i) (h2 : j + 1 ≠ i) : lk (ldel L i) j = lk L j := by
  induction L with
  | nil => rfl
  | cons q r ih =>
    obtain ⟨k, t⟩ := q
    rw [ldel]
    split
    next e => rw [lk, if_neg (by omega)]; exact ih
    next e =>
      split
      next e2 => rw [lk, if_neg (by omega)]; exact ih
      next e2 => rw [lk, lk, ih]
section LP2
variable {z : Zt} {S T d : Nat} {M : Nat → Nat → Int32} {p : Nat → Nat} {nc nh np : Nat}
def firstR (P : Nat → Prop) [DecidablePred P] : Nat → Nat → Int32
  | _, 0 => -1
  | i, k + 1 => if P i then nI i else firstR P (i + 1) k
abbrev wordsS (F : Nat → Int32) (a b c : Int32) : Nat → Prop := fun i => F (58 + 10 * i + 1) = a ∧ F (58 + 10 * i + 2) = b ∧ F (58 + 10 * i + 3) = c
theorem l_numberOf (h : isS z S) (hc : cnt (M S) nc nh np) {a b c : Int32} : ∀ (k i : Nat), i + k = np → ∀ (rest : List (Nat × Value)), X (d + 1) 59 3 ((0, .ref S) :: (1, .int a) :: (2, .int b) :: (3, .int c) :: (4, .int (nI i)) :: rest) [] (wld z M p) = some (some (.int (firstR (wordsS (M S) a b c) i k)), wld z M p) := by
  intro k
  have hle := hc.2.2.2.2.2
  induction k with
  | zero =>
    intro i hi rest
    have g := nI_stop (n := np) (i := i) (by omega) (by omega)
    rw [e59_3]
    simp only [e59_0, e59_1, e59_5, e59_6, e59_9, e59_12, e59_13, e59_16, e59_18, e59_19, e59_20, e59_21, e59_22, e59_25, e59_28, e59_30, e59_31, e59_34, e59_37, e59_38, lk, lset, ldel, lset2, ldel2, cat2, gI_int, gA_ref, gA_null, gV_some, gC_some, gL_long, Option.toList, List.cons_append, List.nil_append, List.length_cons, List.length_nil, Nat.reduceEqDiff, Nat.reduceAdd, Nat.reduceSub, Nat.reduceLeDiff, Nat.reduceLT, nb0, nb1, reduceIte, reduceCtorEq, and_false, and_true, false_and, true_and, if_true, if_false, Bool.false_eq_true, eq_self, not_true_eq_false, not_false_eq_true, g_stk h, Nat.le_refl, hc.2.2.2.2.1, g, firstR]
  | succ k ih =>
    intro i hi rest
    have ih' := fun rest => ih (i + 1) (by omega) rest
    have g := nI_goon (i := i) (n := np) (by omega) (by omega)
    have hi2 : i < 24 := by omega
    rw [e59_3]
    simp only [e59_0, e59_1, e59_5, e59_6, e59_9, e59_12, e59_13, e59_16, e59_18, e59_19, e59_20, e59_21, e59_22, e59_25, e59_28, e59_30, e59_31, e59_34, e59_37, e59_38, lk, lset, ldel, lset2, ldel2, cat2, gI_int, gA_ref, gA_null, gV_some, gC_some, gL_long, Option.toList, List.cons_append, List.nil_append, List.length_cons, List.length_nil, Nat.reduceEqDiff, Nat.reduceAdd, Nat.reduceSub, Nat.reduceLeDiff, Nat.reduceLT, nb0, nb1, reduceIte, reduceCtorEq, and_false, and_true, false_and, true_and, if_true, if_false, Bool.false_eq_true, eq_self, not_true_eq_false, not_false_eq_true, g_stk h, g_st2 h, Nat.le_refl, hc.2.2.2.2.1, g, nI_1, ih', a_ph h hi2, k_ph h hi2, m_hasWords h hi2, bI_0]
    simp only [firstR]
    grind
theorem m_numberOf (h : isS z S) (hc : cnt (M S) nc nh np) {a b c : Int32} : run (d + 2) 59 [.ref S, .int a, .int b, .int c] (wld z M p) = some (some (.int (firstR (wordsS (M S) a b c) 0 np)), wld z M p) := by
  have e := fun rest => l_numberOf (d := d) (p := p) h hc (a := a) (b := b) (c := c) np 0 (by omega) rest
  rw [show nI 0 = 0 from nI_0] at e
  rw [r59]
  simp only [e59_0, e59_1, e59_5, e59_6, e59_9, e59_12, e59_13, e59_16, e59_18, e59_19, e59_20, e59_21, e59_22, e59_25, e59_28, e59_30, e59_31, e59_34, e59_37, e59_38, lk, lset, ldel, lset2, ldel2, cat2, gI_int, gA_ref, gA_null, gV_some, gC_some, gL_long, Option.toList, List.cons_append, List.nil_append, List.length_cons, List.length_nil, Nat.reduceEqDiff, Nat.reduceAdd, Nat.reduceSub, Nat.reduceLeDiff, Nat.reduceLT, nb0, nb1, reduceIte, reduceCtorEq, and_false, and_true, false_and, true_and, if_true, if_false, Bool.false_eq_true, eq_self, not_true_eq_false, not_false_eq_true, e]
def pickR (P : Nat → Prop) [DecidablePred P] (x : Int32) : Nat → Nat → Int32 → Int32
  | _, 0, _ => -1
  | i, k + 1, a => if P i then (if a = x then nI i else pickR P x (i + 1) k (a + 1)) else pickR P x (i + 1) k a
abbrev onS (F : Nat → Int32) (c g : Int32) : Nat → Prop := fun i => F (58 + 10 * i + 4) = c ∧ F (58 + 10 * i + 5) = g
theorem l_phraseOnPage (h : isS z S) (hc : cnt (M S) nc nh np) {c g x : Int32} : ∀ (k i : Nat), i + k = np → ∀ (acc : Int32) (rest : List (Nat × Value)), X (d + 1) 58 6 ((0, .ref S) :: (1, .int c) :: (2, .int g) :: (3, .int x) :: (4, .int acc) :: (5, .int (nI i)) :: rest) [] (wld z M p) = some (some (.int (pickR (onS (M S) c g) x i k acc)), wld z M p) := by
  intro k
  have hle := hc.2.2.2.2.2
  induction k with
  | zero =>
    intro i hi acc rest
    have g := nI_stop (n := np) (i := i) (by omega) (by omega)
    rw [e58_6]
    simp only [e58_0, e58_1, e58_3, e58_4, e58_8, e58_9, e58_12, e58_15, e58_16, e58_19, e58_21, e58_22, e58_23, e58_24, e58_27, e58_30, e58_32, e58_33, e58_36, e58_38, e58_39, e58_42, e58_45, e58_48, e58_49, lk, lset, ldel, lset2, ldel2, cat2, gI_int, gA_ref, gA_null, gV_some, gC_some, gL_long, Option.toList, List.cons_append, List.nil_append, List.length_cons, List.length_nil, Nat.reduceEqDiff, Nat.reduceAdd, Nat.reduceSub, Nat.reduceLeDiff, Nat.reduceLT, nb0, nb1, reduceIte, reduceCtorEq, and_false, and_true, false_and, true_and, if_true, if_false, Bool.false_eq_true, eq_self, not_true_eq_false, not_false_eq_true, g_stk h, Nat.le_refl, hc.2.2.2.2.1, g, pickR]
  | succ k ih =>
    intro i hi acc rest
    have ih' := fun acc rest => ih (i + 1) (by omega) acc rest
    have g := nI_goon (i := i) (n := np) (by omega) (by omega)
    have hi2 : i < 24 := by omega
    rw [e58_6]
    simp only [e58_0, e58_1, e58_3, e58_4, e58_8, e58_9, e58_12, e58_15, e58_16, e58_19, e58_21, e58_22, e58_23, e58_24, e58_27, e58_30, e58_32, e58_33, e58_36, e58_38, e58_39, e58_42, e58_45, e58_48, e58_49, lk, lset, ldel, lset2, ldel2, cat2, gI_int, gA_ref, gA_null, gV_some, gC_some, gL_long, Option.toList, List.cons_append, List.nil_append, List.length_cons, List.length_nil, Nat.reduceEqDiff, Nat.reduceAdd, Nat.reduceSub, Nat.reduceLeDiff, Nat.reduceLT, nb0, nb1, reduceIte, reduceCtorEq, and_false, and_true, false_and, true_and, if_true, if_false, Bool.false_eq_true, eq_self, not_true_eq_false, not_false_eq_true, g_stk h, g_st2 h, Nat.le_refl, hc.2.2.2.2.1, g, nI_1, ih', a_ph h hi2, k_ph h hi2, m_isOn h hi2, bI_0]
    simp only [pickR]
    grind
theorem m_phraseOnPage (h : isS z S) (hc : cnt (M S) nc nh np) {c g x : Int32} : run (d + 2) 58 [.ref S, .int c, .int g, .int x] (wld z M p) = some (some (.int (pickR (onS (M S) c g) x 0 np 0)), wld z M p) := by
  have e := fun acc rest => l_phraseOnPage (d := d) (p := p) h hc (c := c) (g := g) (x := x) np 0 (by omega) acc rest
  rw [show nI 0 = 0 from nI_0] at e
  rw [r58]
  simp only [e58_0, e58_1, e58_3, e58_4, e58_8, e58_9, e58_12, e58_15, e58_16, e58_19, e58_21, e58_22, e58_23, e58_24, e58_27, e58_30, e58_32, e58_33, e58_36, e58_38, e58_39, e58_42, e58_45, e58_48, e58_49, lk, lset, ldel, lset2, ldel2, cat2, gI_int, gA_ref, gA_null, gV_some, gC_some, gL_long, Option.toList, List.cons_append, List.nil_append, List.length_cons, List.length_nil, Nat.reduceEqDiff, Nat.reduceAdd, Nat.reduceSub, Nat.reduceLeDiff, Nat.reduceLT, nb0, nb1, reduceIte, reduceCtorEq, and_false, and_true, false_and, true_and, if_true, if_false, Bool.false_eq_true, eq_self, not_true_eq_false, not_false_eq_true, e]
/-- voices as bits: is a voice known -/
abbrev knows (s v : Int32) : Prop := (s >>> (v &&& 31)) &&& 1 = 1
def tellS (F : Nat → Int32) (c s v : Int32) : Nat → Int32 := fun i => bI (knows s (F (58 + 10 * i + 0)) ∧ ¬ F (58 + 10 * i + 0) = v ∧ holdF F (F (58 + 10 * i + 4)) = c)
/-- is a phrase a tell in the book that it is in: 1 or 0 -/
def tlV (F : Nat → Int32) (i : Nat) : Int32 := bI ((0 ≤ holdF F (F (58 + 10 * i + 4)) ∧ holdF F (F (58 + 10 * i + 4)) < F 0) ∧ ¬ F (8 + 2 * (holdF F (F (58 + 10 * i + 4))).toNatClampNeg + 0) = F (58 + 10 * i + 0))
theorem tlV_01 {F : Nat → Int32} {i : Nat} : tlV F i = 0 ∨ tlV F i = 1 := by
  unfold tlV bI
  split
  · exact Or.inr rfl
  · exact Or.inl rfl
theorem tlV_at {F : Nat → Int32} (hc : cnt F nc nh np) {c i : Nat} (hcc : c < nc) (e : holdF F (F (58 + 10 * i + 4)) = nI c) : tlV F i = bI (¬ F (58 + 10 * i + 0) = F (8 + 2 * c + 0)) := by
  have h5 := hc.2.1
  have hin : 0 ≤ nI c ∧ nI c < F 0 := by rw [hc.1]; exact nI_in2 hcc (by omega)
  unfold tlV
  rw [e, nI_clamp (by omega)]
  unfold bI
  by_cases q : F (58 + 10 * i + 0) = F (8 + 2 * c + 0)
  · rw [if_neg (fun w => w.2 q.symm), if_neg (fun w => w q)]
  · rw [if_pos ⟨hin, fun w => q w.symm⟩, if_pos q]
theorem tlV_no {F : Nat → Int32} {i : Nat} (hn : ¬ (0 ≤ holdF F (F (58 + 10 * i + 4)) ∧ holdF F (F (58 + 10 * i + 4)) < F 0)) : tlV F i = 0 := by
  unfold tlV bI
  rw [if_neg (fun w => hn w.1)]
theorem m_isTell (h : isS z S) (hc : cnt (M S) nc nh np) {i : Nat} (hi : i < 24) : run (d + 3) 68 [.ref S, .ref (phA S i)] (wld z M p) = some (some (.int (tlV (M S) i)), wld z M p) := by
  rw [r68]
  rcases nI_case (n := holdF (M S) (M S (58 + 10 * i + 4))) hc.1 (by have := hc.2.1; omega) with ⟨c, hcc, e⟩ | hn
  · have h5 : c < 5 := by have := hc.2.1; omega
    rw [tlV_at hc hcc e]
    simp only [e68_0, e68_1, e68_2, e68_3, e68_6, e68_9, e68_12, e68_13, e68_14, e68_14n, e68_17, e68_18, e68_21, e68_22, e68_25, e68_28, e68_29, e68_32, e68_33, lk, lset, ldel, lset2, ldel2, cat2, gI_int, gA_ref, gA_null, gV_some, gC_some, gL_long, Option.toList, List.cons_append, List.nil_append, List.length_cons, List.length_nil, Nat.reduceEqDiff, Nat.reduceAdd, Nat.reduceSub, Nat.reduceLeDiff, Nat.reduceLT, nb0, nb1, reduceIte, reduceCtorEq, and_false, and_true, false_and, true_and, if_true, if_false, Bool.false_eq_true, eq_self, not_true_eq_false, not_false_eq_true, lk_same, lk_same2, lk_k1, lk_k1r, lk_ldN, ne_eq, g_ph h hi, k_st h, m_holderOf h hc, e, m_clientAt h hc hcc, g_cl h h5]
    grind [bI]
  · rw [tlV_no hn]
    simp only [e68_0, e68_1, e68_2, e68_3, e68_6, e68_9, e68_12, e68_13, e68_14, e68_14n, e68_17, e68_18, e68_21, e68_22, e68_25, e68_28, e68_29, e68_32, e68_33, lk, lset, ldel, lset2, ldel2, cat2, gI_int, gA_ref, gA_null, gV_some, gC_some, gL_long, Option.toList, List.cons_append, List.nil_append, List.length_cons, List.length_nil, Nat.reduceEqDiff, Nat.reduceAdd, Nat.reduceSub, Nat.reduceLeDiff, Nat.reduceLT, nb0, nb1, reduceIte, reduceCtorEq, and_false, and_true, false_and, true_and, if_true, if_false, Bool.false_eq_true, eq_self, not_true_eq_false, not_false_eq_true, lk_same, lk_same2, lk_k1, lk_k1r, lk_ldN, ne_eq, g_ph h hi, k_st h, m_holderOf h hc, m_clientNo h hn]
theorem l_tellsIn (h : isS z S) (hc : cnt (M S) nc nh np) {s : Int32} {ci : Nat} (hci : ci < nc) : ∀ (k i : Nat), i + k = np → ∀ (acc : Int32) (rest : List (Nat × Value)), X (d + 3) 66 5 ((0, .ref S) :: (1, .int (nI ci)) :: (2, .int s) :: (3, .int acc) :: (4, .int (nI i)) :: rest) [] (wld z M p) = some (some (.int (acc + sumR (tellS (M S) (nI ci) s (M S (8 + 2 * ci + 0))) i k)), wld z M p) := by
  intro k
  have hle := hc.2.2.2.2.2
  induction k with
  | zero =>
    intro i hi acc rest
    have g := nI_stop (n := np) (i := i) (by omega) (by omega)
    rw [e66_5]
    simp only [e66_0, e66_1, e66_2, e66_3, e66_7, e66_8, e66_11, e66_14, e66_15, e66_16, e66_19, e66_21, e66_22, e66_25, e66_26, e66_27, e66_28, e66_29, e66_32, e66_33, e66_36, e66_37, e66_39, e66_41, e66_44, e66_45, e66_46, e66_49, e66_51, e66_52, e66_55, e66_58, e66_59, e66_60, e66_63, e66_65, e66_66, e66_69, e66_72, e66_73, e66_76, e66_79, e66_82, e66_85, e66_86, lk, lset, ldel, lset2, ldel2, cat2, gI_int, gA_ref, gA_null, gV_some, gC_some, gL_long, Option.toList, List.cons_append, List.nil_append, List.length_cons, List.length_nil, Nat.reduceEqDiff, Nat.reduceAdd, Nat.reduceSub, Nat.reduceLeDiff, Nat.reduceLT, nb0, nb1, reduceIte, reduceCtorEq, and_false, and_true, false_and, true_and, if_true, if_false, Bool.false_eq_true, eq_self, not_true_eq_false, not_false_eq_true, g_stk h, Nat.le_refl, hc.2.2.2.2.1, g, sumR, Int32.add_zero]
  | succ k ih =>
    intro i hi acc rest
    have ih' := fun acc rest => ih (i + 1) (by omega) acc rest
    have g := nI_goon (i := i) (n := np) (by omega) (by omega)
    have hi2 : i < 24 := by omega
    rw [e66_5]
    simp only [e66_0, e66_1, e66_2, e66_3, e66_7, e66_8, e66_11, e66_14, e66_15, e66_16, e66_19, e66_21, e66_22, e66_25, e66_26, e66_27, e66_28, e66_29, e66_32, e66_33, e66_36, e66_37, e66_39, e66_41, e66_44, e66_45, e66_46, e66_49, e66_51, e66_52, e66_55, e66_58, e66_59, e66_60, e66_63, e66_65, e66_66, e66_69, e66_72, e66_73, e66_76, e66_79, e66_82, e66_85, e66_86, lk, lset, ldel, lset2, ldel2, cat2, gI_int, gA_ref, gA_null, gV_some, gC_some, gL_long, Option.toList, List.cons_append, List.nil_append, List.length_cons, List.length_nil, Nat.reduceEqDiff, Nat.reduceAdd, Nat.reduceSub, Nat.reduceLeDiff, Nat.reduceLT, nb0, nb1, reduceIte, reduceCtorEq, and_false, and_true, false_and, true_and, if_true, if_false, Bool.false_eq_true, eq_self, not_true_eq_false, not_false_eq_true, lk_same, lk_same2, lk_k1, lk_k1r, lk_ldN, ne_eq, g_stk h, g_st2 h, Nat.le_refl, hc.2.2.2.2.1, g, nI_1, ih', a_ph h hi2, g_ph h hi2, k_ph h hi2, k_st h, m_isTell h hc hi2, m_holderOf h hc]
    simp only [sumR, tellS, knows]
    by_cases h1 : holdF (M S) (M S (58 + 10 * i + 4)) = nI ci
    · rw [tlV_at hc hci h1]
      simp only [h1, bI_0]
      grind (splits := 40) [bI]
    · have b0 : bI (knows s (M S (58 + 10 * i + 0)) ∧ ¬ M S (58 + 10 * i + 0) = M S (8 + 2 * ci + 0) ∧ holdF (M S) (M S (58 + 10 * i + 4)) = nI ci) = 0 := if_neg (fun q => h1 q.2.2)
      rw [b0, Int32.zero_add]
      by_cases h2 : tlV (M S) i = 0 <;> by_cases h3 : knows s (M S (58 + 10 * i + 0)) <;> simp only [h1, h2, h3, lk, lset, ldel, lset2, ldel2, cat2, gI_int, gA_ref, gA_null, gV_some, gC_some, gL_long, Option.toList, List.cons_append, List.nil_append, List.length_cons, List.length_nil, Nat.reduceEqDiff, Nat.reduceAdd, Nat.reduceSub, Nat.reduceLeDiff, Nat.reduceLT, nb0, nb1, reduceIte, reduceCtorEq, and_false, and_true, false_and, true_and, if_true, if_false, Bool.false_eq_true, eq_self, not_true_eq_false, not_false_eq_true] <;> grind
theorem m_tellsIn (h : isS z S) (hc : cnt (M S) nc nh np) {s : Int32} {ci : Nat} (hci : ci < nc) : run (d + 4) 66 [.ref S, .int (nI ci), .int s] (wld z M p) = some (some (.int (0 + sumR (tellS (M S) (nI ci) s (M S (8 + 2 * ci + 0))) 0 np)), wld z M p) := by
  have e := fun acc rest => l_tellsIn (d := d) (p := p) h hc (s := s) hci np 0 (by omega) acc rest
  rw [show nI 0 = 0 from nI_0] at e
  rw [r66]
  simp only [e66_0, e66_1, e66_2, e66_3, e66_7, e66_8, e66_11, e66_14, e66_15, e66_16, e66_19, e66_21, e66_22, e66_25, e66_26, e66_27, e66_28, e66_29, e66_32, e66_33, e66_36, e66_37, e66_39, e66_41, e66_44, e66_45, e66_46, e66_49, e66_51, e66_52, e66_55, e66_58, e66_59, e66_60, e66_63, e66_65, e66_66, e66_69, e66_72, e66_73, e66_76, e66_79, e66_82, e66_85, e66_86, lk, lset, ldel, lset2, ldel2, cat2, gI_int, gA_ref, gA_null, gV_some, gC_some, gL_long, Option.toList, List.cons_append, List.nil_append, List.length_cons, List.length_nil, Nat.reduceEqDiff, Nat.reduceAdd, Nat.reduceSub, Nat.reduceLeDiff, Nat.reduceLT, nb0, nb1, reduceIte, reduceCtorEq, and_false, and_true, false_and, true_and, if_true, if_false, Bool.false_eq_true, eq_self, not_true_eq_false, not_false_eq_true, e]
def tellsF (F : Nat → Int32) (np : Nat) (s : Int32) (ci : Nat) : Int32 := 0 + sumR (tellS F (nI ci) s (F (8 + 2 * ci + 0))) 0 np
theorem l_tellsInAll (h : isS z S) (hc : cnt (M S) nc nh np) : ∀ (k i : Nat), i + k = np → ∀ (acc : Int32) (rest : List (Nat × Value)), X (d + 3) 67 4 ((0, .ref S) :: (1, .int acc) :: (2, .int (nI i)) :: rest) [] (wld z M p) = some (some (.int (acc + sumR (tlV (M S)) i k)), wld z M p) := by
  intro k
  have hle := hc.2.2.2.2.2
  induction k with
  | zero =>
    intro i hi acc rest
    have g := nI_stop (n := np) (i := i) (by omega) (by omega)
    rw [e67_4]
    simp only [e67_0, e67_1, e67_2, e67_3, e67_5, e67_6, e67_9, e67_12, e67_13, e67_14, e67_17, e67_18, e67_19, e67_22, e67_25, e67_28, e67_31, e67_34, e67_35, lk, lset, ldel, lset2, ldel2, cat2, gI_int, gA_ref, gA_null, gV_some, gC_some, gL_long, Option.toList, List.cons_append, List.nil_append, List.length_cons, List.length_nil, Nat.reduceEqDiff, Nat.reduceAdd, Nat.reduceSub, Nat.reduceLeDiff, Nat.reduceLT, nb0, nb1, reduceIte, reduceCtorEq, and_false, and_true, false_and, true_and, if_true, if_false, Bool.false_eq_true, eq_self, not_true_eq_false, not_false_eq_true, g_stk h, Nat.le_refl, hc.2.2.2.2.1, g, sumR, Int32.add_zero]
  | succ k ih =>
    intro i hi acc rest
    have ih' := fun acc rest => ih (i + 1) (by omega) acc rest
    have g := nI_goon (i := i) (n := np) (by omega) (by omega)
    have hi2 : i < 24 := by omega
    rw [e67_4]
    simp only [sumR]
    rcases tlV_01 (F := M S) (i := i) with t | t
    · simp only [e67_0, e67_1, e67_2, e67_3, e67_5, e67_6, e67_9, e67_12, e67_13, e67_14, e67_17, e67_18, e67_19, e67_22, e67_25, e67_28, e67_31, e67_34, e67_35, lk, lset, ldel, lset2, ldel2, cat2, gI_int, gA_ref, gA_null, gV_some, gC_some, gL_long, Option.toList, List.cons_append, List.nil_append, List.length_cons, List.length_nil, Nat.reduceEqDiff, Nat.reduceAdd, Nat.reduceSub, Nat.reduceLeDiff, Nat.reduceLT, nb0, nb1, reduceIte, reduceCtorEq, and_false, and_true, false_and, true_and, if_true, if_false, Bool.false_eq_true, eq_self, not_true_eq_false, not_false_eq_true, g_stk h, g_st2 h, Nat.le_refl, hc.2.2.2.2.1, g, nI_1, ih', a_ph h hi2, k_ph h hi2, k_st h, m_isTell h hc hi2, t, Int32.zero_add]
    · have n10 : ¬ (1 : Int32) = 0 := by decide
      simp only [e67_0, e67_1, e67_2, e67_3, e67_5, e67_6, e67_9, e67_12, e67_13, e67_14, e67_17, e67_18, e67_19, e67_22, e67_25, e67_28, e67_31, e67_34, e67_35, lk, lset, ldel, lset2, ldel2, cat2, gI_int, gA_ref, gA_null, gV_some, gC_some, gL_long, Option.toList, List.cons_append, List.nil_append, List.length_cons, List.length_nil, Nat.reduceEqDiff, Nat.reduceAdd, Nat.reduceSub, Nat.reduceLeDiff, Nat.reduceLT, nb0, nb1, reduceIte, reduceCtorEq, and_false, and_true, false_and, true_and, if_true, if_false, Bool.false_eq_true, eq_self, not_true_eq_false, not_false_eq_true, g_stk h, g_st2 h, Nat.le_refl, hc.2.2.2.2.1, g, nI_1, ih', a_ph h hi2, k_ph h hi2, k_st h, m_isTell h hc hi2, t, n10, Int32.add_assoc]
theorem m_tellsInAll (h : isS z S) (hc : cnt (M S) nc nh np) : run (d + 4) 67 [.ref S] (wld z M p) = some (some (.int (0 + sumR (tlV (M S)) 0 np)), wld z M p) := by
  have e := fun acc rest => l_tellsInAll (d := d) (p := p) h hc np 0 (by omega) acc rest
  rw [show nI 0 = 0 from nI_0] at e
  rw [r67]
  simp only [e67_0, e67_1, e67_2, e67_3, e67_5, e67_6, e67_9, e67_12, e67_13, e67_14, e67_17, e67_18, e67_19, e67_22, e67_25, e67_28, e67_31, e67_34, e67_35, lk, lset, ldel, lset2, ldel2, cat2, gI_int, gA_ref, gA_null, gV_some, gC_some, gL_long, Option.toList, List.cons_append, List.nil_append, List.length_cons, List.length_nil, Nat.reduceEqDiff, Nat.reduceAdd, Nat.reduceSub, Nat.reduceLeDiff, Nat.reduceLT, nb0, nb1, reduceIte, reduceCtorEq, and_false, and_true, false_and, true_and, if_true, if_false, Bool.false_eq_true, eq_self, not_true_eq_false, not_false_eq_true, e]
def likeS (F : Nat → Int32) (n : Nat) : Nat → Int32 := fun i => bI (¬ nI i = nI n ∧ F (58 + 10 * i + 1) = F (58 + 10 * n + 1) ∧ holdF F (F (58 + 10 * i + 4)) = holdF F (F (58 + 10 * n + 4)))
theorem l_othersLike (h : isS z S) (hc : cnt (M S) nc nh np) {n : Nat} (hn : n < np) : ∀ (k i : Nat), i + k = np → ∀ (acc : Int32) (rest : List (Nat × Value)), X (d + 2) 69 27 ((0, .ref S) :: (1, .int (nI n)) :: (2, .ref (phA S n)) :: (3, .int (holdF (M S) (M S (58 + 10 * n + 4)))) :: (4, .int acc) :: (5, .int (nI i)) :: rest) [] (wld z M p) = some (some (.int (acc + sumR (likeS (M S) n) i k)), wld z M p) := by
  intro k
  have hle := hc.2.2.2.2.2
  have hn2 : n < 24 := by omega
  induction k with
  | zero =>
    intro i hi acc rest
    have g := nI_stop (n := np) (i := i) (by omega) (by omega)
    rw [e69_27]
    simp only [e69_0, e69_1, e69_2, e69_5, e69_6, e69_7, e69_7n, e69_10, e69_11, e69_12, e69_13, e69_14, e69_17, e69_20, e69_21, e69_22, e69_24, e69_25, e69_29, e69_30, e69_33, e69_36, e69_38, e69_39, e69_42, e69_43, e69_46, e69_48, e69_49, e69_52, e69_53, e69_56, e69_59, e69_60, e69_61, e69_64, e69_66, e69_67, e69_70, e69_73, e69_74, e69_77, e69_80, e69_83, e69_86, e69_88, lk, lset, ldel, lset2, ldel2, cat2, gI_int, gA_ref, gA_null, gV_some, gC_some, gL_long, Option.toList, List.cons_append, List.nil_append, List.length_cons, List.length_nil, Nat.reduceEqDiff, Nat.reduceAdd, Nat.reduceSub, Nat.reduceLeDiff, Nat.reduceLT, nb0, nb1, reduceIte, reduceCtorEq, and_false, and_true, false_and, true_and, if_true, if_false, Bool.false_eq_true, eq_self, not_true_eq_false, not_false_eq_true, g_stk h, Nat.le_refl, hc.2.2.2.2.1, g, sumR, Int32.add_zero]
  | succ k ih =>
    intro i hi acc rest
    have ih' := fun acc rest => ih (i + 1) (by omega) acc rest
    have g := nI_goon (i := i) (n := np) (by omega) (by omega)
    have hi2 : i < 24 := by omega
    rw [e69_27]
    simp only [e69_0, e69_1, e69_2, e69_5, e69_6, e69_7, e69_7n, e69_10, e69_11, e69_12, e69_13, e69_14, e69_17, e69_20, e69_21, e69_22, e69_24, e69_25, e69_29, e69_30, e69_33, e69_36, e69_38, e69_39, e69_42, e69_43, e69_46, e69_48, e69_49, e69_52, e69_53, e69_56, e69_59, e69_60, e69_61, e69_64, e69_66, e69_67, e69_70, e69_73, e69_74, e69_77, e69_80, e69_83, e69_86, e69_88, lk, lset, ldel, lset2, ldel2, cat2, gI_int, gA_ref, gA_null, gV_some, gC_some, gL_long, Option.toList, List.cons_append, List.nil_append, List.length_cons, List.length_nil, Nat.reduceEqDiff, Nat.reduceAdd, Nat.reduceSub, Nat.reduceLeDiff, Nat.reduceLT, nb0, nb1, reduceIte, reduceCtorEq, and_false, and_true, false_and, true_and, if_true, if_false, Bool.false_eq_true, eq_self, not_true_eq_false, not_false_eq_true, g_stk h, g_st2 h, Nat.le_refl, hc.2.2.2.2.1, g, nI_1, ih', a_ph h hi2, g_ph h hi2, k_ph h hi2, g_ph h hn2, k_st h, m_holderOf h hc]
    simp only [sumR, likeS]
    grind [bI]
theorem m_othersLike (h : isS z S) (hc : cnt (M S) nc nh np) {n : Nat} (hn : n < np) : run (d + 3) 69 [.ref S, .int (nI n)] (wld z M p) = some (some (.int (0 + sumR (likeS (M S) n) 0 np)), wld z M p) := by
  have e := fun acc rest => l_othersLike (d := d) (p := p) h hc hn np 0 (by omega) acc rest
  rw [show nI 0 = 0 from nI_0] at e
  have hn2 : n < 24 := by have hle := hc.2.2.2.2.2; omega
  rw [r69]
  simp only [e69_0, e69_1, e69_2, e69_5, e69_6, e69_7, e69_7n, e69_10, e69_11, e69_12, e69_13, e69_14, e69_17, e69_20, e69_21, e69_22, e69_24, e69_25, e69_29, e69_30, e69_33, e69_36, e69_38, e69_39, e69_42, e69_43, e69_46, e69_48, e69_49, e69_52, e69_53, e69_56, e69_59, e69_60, e69_61, e69_64, e69_66, e69_67, e69_70, e69_73, e69_74, e69_77, e69_80, e69_83, e69_86, e69_88, lk, lset, ldel, lset2, ldel2, cat2, gI_int, gA_ref, gA_null, gV_some, gC_some, gL_long, Option.toList, List.cons_append, List.nil_append, List.length_cons, List.length_nil, Nat.reduceEqDiff, Nat.reduceAdd, Nat.reduceSub, Nat.reduceLeDiff, Nat.reduceLT, nb0, nb1, reduceIte, reduceCtorEq, and_false, and_true, false_and, true_and, if_true, if_false, Bool.false_eq_true, eq_self, not_true_eq_false, not_false_eq_true, k_st h, m_phraseAt h hc hn, g_ph h hn2, m_holderOf h hc, e]
/-- the set of first words as bits: how many are new, and what is in it behind -/
def fwR (F : Nat → Int32) : Nat → Nat → Int64 → Int32
  | _, 0, _ => 0
  | i, k + 1, s => (if s &&& (1 <<< ((F (58 + 10 * i + 1)).toInt64 &&& 63)) = 0 then (1 : Int32) else 0) + fwR F (i + 1) k (s ||| (1 <<< ((F (58 + 10 * i + 1)).toInt64 &&& 63)))
theorem lcmp0 (x : Int64) : ((if (0 : Int64) < x then (1 : Int32) else if x = 0 then 0 else -1) = 0) = (x = 0) := by
  by_cases h1 : 0 < x
  · have : ¬ x = 0 := fun e => by rw [e] at h1; exact absurd h1 (by decide)
    simp [h1, this]
  · by_cases h2 : x = 0
    · simp [h2]
    · simp [h1, h2]
theorem l_firstWords (h : isS z S) (hc : cnt (M S) nc nh np) : ∀ (k i : Nat), i + k = np → ∀ (acc : Int32) (s : Int64) (rest : List (Nat × Value)), X d 72 7 ((0, .ref S) :: (1, .int acc) :: (2, .long s) :: (4, .int (nI i)) :: rest) [] (wld z M p) = some (some (.int (acc + fwR (M S) i k s)), wld z M p) := by
  intro k
  have hle := hc.2.2.2.2.2
  induction k with
  | zero =>
    intro i hi acc s rest
    have g := nI_stop (n := np) (i := i) (by omega) (by omega)
    rw [e72_7]
    simp only [e72_0, e72_1, e72_2, e72_3, e72_4, e72_5, e72_9, e72_10, e72_13, e72_16, e72_17, e72_18, e72_21, e72_23, e72_24, e72_27, e72_28, e72_30, e72_31, e72_33, e72_34, e72_35, e72_36, e72_39, e72_42, e72_43, e72_45, e72_46, e72_47, e72_50, e72_53, e72_54, lk, lset, ldel, lset2, ldel2, cat2, gI_int, gA_ref, gA_null, gV_some, gC_some, gL_long, Option.toList, List.cons_append, List.nil_append, List.length_cons, List.length_nil, Nat.reduceEqDiff, Nat.reduceAdd, Nat.reduceSub, Nat.reduceLeDiff, Nat.reduceLT, nb0, nb1, reduceIte, reduceCtorEq, and_false, and_true, false_and, true_and, if_true, if_false, Bool.false_eq_true, eq_self, not_true_eq_false, not_false_eq_true, g_stk h, Nat.le_refl, hc.2.2.2.2.1, g, fwR, Int32.add_zero]
  | succ k ih =>
    intro i hi acc s rest
    have ih' := fun acc s rest => ih (i + 1) (by omega) acc s rest
    have g := nI_goon (i := i) (n := np) (by omega) (by omega)
    have hi2 : i < 24 := by omega
    rw [e72_7]
    simp only [e72_0, e72_1, e72_2, e72_3, e72_4, e72_5, e72_9, e72_10, e72_13, e72_16, e72_17, e72_18, e72_21, e72_23, e72_24, e72_27, e72_28, e72_30, e72_31, e72_33, e72_34, e72_35, e72_36, e72_39, e72_42, e72_43, e72_45, e72_46, e72_47, e72_50, e72_53, e72_54, lk, lset, ldel, lset2, ldel2, cat2, gI_int, gA_ref, gA_null, gV_some, gC_some, gL_long, Option.toList, List.cons_append, List.nil_append, List.length_cons, List.length_nil, Nat.reduceEqDiff, Nat.reduceAdd, Nat.reduceSub, Nat.reduceLeDiff, Nat.reduceLT, nb0, nb1, reduceIte, reduceCtorEq, and_false, and_true, false_and, true_and, if_true, if_false, Bool.false_eq_true, eq_self, not_true_eq_false, not_false_eq_true, lk_same, lk_same2, lk_k1, lk_k1r, lk_ldN, ne_eq, g_stk h, g_st2 h, Nat.le_refl, hc.2.2.2.2.1, g, nI_1, ih', a_ph h hi2, g_ph h hi2, k_ph h hi2, lcmp0]
    simp only [fwR]
    by_cases hz : s &&& (1 <<< ((M S (58 + 10 * i + 1)).toInt64 &&& 63)) = 0 <;> simp only [hz, if_true, if_false, Int32.add_assoc, Int32.zero_add]
theorem m_firstWords (h : isS z S) (hc : cnt (M S) nc nh np) : run (d + 1) 72 [.ref S] (wld z M p) = some (some (.int (0 + fwR (M S) 0 np 0)), wld z M p) := by
  have e := fun acc s rest => l_firstWords (d := d) (p := p) h hc np 0 (by omega) acc s rest
  rw [show nI 0 = 0 from nI_0] at e
  rw [r72]
  simp only [e72_0, e72_1, e72_2, e72_3, e72_4, e72_5, e72_9, e72_10, e72_13, e72_16, e72_17, e72_18, e72_21, e72_23, e72_24, e72_27, e72_28, e72_30, e72_31, e72_33, e72_34, e72_35, e72_36, e72_39, e72_42, e72_43, e72_45, e72_46, e72_47, e72_50, e72_53, e72_54, lk, lset, ldel, lset2, ldel2, cat2, gI_int, gA_ref, gA_null, gV_some, gC_some, gL_long, Option.toList, List.cons_append, List.nil_append, List.length_cons, List.length_nil, Nat.reduceEqDiff, Nat.reduceAdd, Nat.reduceSub, Nat.reduceLeDiff, Nat.reduceLT, nb0, nb1, reduceIte, reduceCtorEq, and_false, and_true, false_and, true_and, if_true, if_false, Bool.false_eq_true, eq_self, not_true_eq_false, not_false_eq_true, e]
def detF (F : Nat → Int32) (i : Nat) (x : Int32) : Int32 :=
  if x = 0 then F (58 + 10 * i + 0) else if x = 1 then F (58 + 10 * i + 1) else if x = 2 then F (58 + 10 * i + 2) else if x = 3 then F (58 + 10 * i + 3) else if x = 4 then F (58 + 10 * i + 4) else if x = 5 then F (58 + 10 * i + 5)
  else if x = 6 then holdF F (F (58 + 10 * i + 4)) else if x = 7 then F (58 + 10 * i + 6) else if x = 8 then F (58 + 10 * i + 7) else if x = 9 then F (58 + 10 * i + 8) else if x = 10 then F (58 + 10 * i + 9) else -1
theorem m_detailOf (h : isS z S) (hc : cnt (M S) nc nh np) {i : Nat} (hi : i < 24) {x : Int32} : run (d + 3) 60 [.ref S, .ref (phA S i), .int x] (wld z M p) = some (some (.int (detF (M S) i x)), wld z M p) := by
  rw [r60]
  simp only [e60_0, e60_1, e60_60, e60_61, e60_64, e60_65, e60_66, e60_69, e60_70, e60_71, e60_74, e60_75, e60_76, e60_79, e60_80, e60_81, e60_84, e60_85, e60_86, e60_89, e60_90, e60_91, e60_92, e60_95, e60_98, e60_99, e60_100, e60_103, e60_104, e60_105, e60_108, e60_109, e60_110, e60_113, e60_114, e60_115, e60_118, e60_119, e60_120, lk, lset, ldel, lset2, ldel2, cat2, gI_int, gA_ref, gA_null, gV_some, gC_some, gL_long, Option.toList, List.cons_append, List.nil_append, List.length_cons, List.length_nil, Nat.reduceEqDiff, Nat.reduceAdd, Nat.reduceSub, Nat.reduceLeDiff, Nat.reduceLT, nb0, nb1, reduceIte, reduceCtorEq, and_false, and_true, false_and, true_and, if_true, if_false, Bool.false_eq_true, eq_self, not_true_eq_false, not_false_eq_true, g_ph h hi, k_st h, m_holderOf h hc]
  unfold detF
  grind (splits := 30)
end LP2
