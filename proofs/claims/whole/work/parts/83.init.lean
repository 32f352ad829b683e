/-! constructors: the heap grows -/
/-- the heap with N cells behind the given ones -/
def wk (z : Zt) (N SL : Nat) (f : Nat → HC) : Wd := (z.1, z.1 + N, SL, fun q => if q = z.2.1 then some (16, z.2.2.1, fun j => .int (z.2.2.2 j)) else if z.1 ≤ q ∧ q < z.1 + N then some (f q) else none)
def hup (f : Nat → HC) (a : Nat) (c : HC) : Nat → HC := fun q => if q = a then c else f q
theorem hup_same {f : Nat → HC} {a : Nat} {c : HC} : hup f a c a = c := if_pos rfl
theorem hup_ne {f : Nat → HC} {a b : Nat} {c : HC} (h : b ≠ a) : hup f a c b = f b := if_neg h
section WK
variable {z : Zt} {N SL : Nat} {f g : Nat → HC}
theorem wk_size : (wk z N SL f).2.1 = z.1 + N := rfl
theorem wk_ext (h : ∀ q, z.1 ≤ q → q < z.1 + N → f q = g q) : wk z N SL f = wk z N SL g := by
  unfold wk
  congr 3
  funext q
  by_cases e : q = z.2.1
  · rw [if_pos e, if_pos e]
  · rw [if_neg e, if_neg e]
    by_cases e3 : z.1 ≤ q ∧ q < z.1 + N
    · rw [if_pos e3, if_pos e3, h q e3.1 e3.2]
    · rw [if_neg e3, if_neg e3]
theorem wk_new (hz : zok z) {c : HC} : wnew (wk z N SL f) c = wk z (N + 1) (SL + c.2.1) (hup f (z.1 + N) c) := by
  have h0 : z.2.1 < z.1 := hz
  unfold wnew wk
  refine congrArg (fun y => ((z.1, z.1 + N + 1, SL + c.2.1, y) : Wd)) (funext fun q => ?_)
  dsimp only
  by_cases e : q = z.1 + N
  · rw [if_pos e, if_neg (by omega), if_pos ⟨by omega, by omega⟩, e, hup_same]
  · rw [if_neg e]
    by_cases e2 : q = z.2.1
    · rw [if_pos e2, if_pos e2]
    · rw [if_neg e2, if_neg e2]
      by_cases e3 : z.1 ≤ q ∧ q < z.1 + N
      · rw [if_pos e3, if_pos ⟨by omega, by omega⟩, hup_ne e]
      · rw [if_neg e3, if_neg (by omega)]
theorem wk_newS (hz : zok z) {c x : HC} {S : Nat} (hS : S < z.1 + N) : wnew (wk z N SL (hup f S x)) c = wk z (N + 1) (SL + c.2.1) (hup (hup f (z.1 + N) c) S x) := by
  rw [wk_new hz]
  refine wk_ext fun q _ _ => ?_
  unfold hup
  by_cases e : q = S
  · rw [if_neg (by omega), if_pos e, if_pos e]
  · rw [if_neg e, if_neg e]
theorem wk_at (hz : zok z) {q : Nat} (h1 : z.1 ≤ q) (h2 : q < z.1 + N) : (wk z N SL f).2.2.2 q = some (f q) := by
  have h0 : z.2.1 < z.1 := hz
  show (if q = z.2.1 then _ else if _ then _ else _) = _
  rw [if_neg (by omega), if_pos ⟨h1, h2⟩]
theorem wk_up (hz : zok z) {q : Nat} {c : HC} (h1 : z.1 ≤ q) (h2 : q < z.1 + N) : wup (wk z N SL f) q c = wk z N SL (hup f q c) := by
  have h0 : z.2.1 < z.1 := hz
  unfold wup wk
  dsimp only
  congr 3
  funext y
  by_cases e : y = q
  · rw [if_pos e, if_neg (by omega), if_pos ⟨by omega, by omega⟩, e, hup_same]
  · rw [if_neg e, hup_ne e]
theorem wk_pf (hz : zok z) {a c k n : Nat} {v : Value} {u : Nat → Value} (h1 : z.1 ≤ a) (h2 : a < z.1 + N) (hf : f a = (c, n, u)) : pf (wk z N SL f) a c k v = some (wk z N SL (hup f a (c, n, updV u k v))) := by
  unfold pf
  rw [wk_at hz h1 h2, hf]
  dsimp only
  rw [if_pos ⟨h1, rfl⟩, wk_up hz h1 h2]
theorem hup_hup {a : Nat} {c c' : HC} : hup (hup f a c) a c' = hup f a c' := by
  funext q
  unfold hup
  by_cases e : q = a
  · rw [if_pos e, if_pos e]
  · rw [if_neg e, if_neg e, if_neg e]
theorem wk_pfS (hz : zok z) {a c k n : Nat} {v : Value} {u : Nat → Value} (h1 : z.1 ≤ a) (h2 : a < z.1 + N) : pf (wk z N SL (hup f a (c, n, u))) a c k v = some (wk z N SL (hup f a (c, n, updV u k v))) := by
  rw [wk_pf hz h1 h2 hup_same, hup_hup]
theorem wk_gf (hz : zok z) {a c k n : Nat} {u : Nat → Value} (h1 : z.1 ≤ a) (h2 : a < z.1 + N) (hf : f a = (c, n, u)) : gf (wk z N SL f) a c k = some (u k) := by
  unfold gf
  rw [wk_at hz h1 h2, hf]
  exact if_pos rfl
theorem wk_kd (hz : zok z) {a c n : Nat} {u : Nat → Value} (h1 : z.1 ≤ a) (h2 : a < z.1 + N) (hf : f a = (c, n, u)) : kd (wk z N SL f) a = c := by
  unfold kd
  rw [wk_at hz h1 h2, hf]
theorem wk_ap (hz : zok z) {a c n lo hi : Nat} {j : Int32} {v : Value} {u : Nat → Value} (h1 : z.1 ≤ a) (h2 : a < z.1 + N) (hf : f a = (c, n, u)) (hc : lo ≤ c ∧ c ≤ hi) (hj : ain j n = true) : ap (wk z N SL f) a lo hi j v = some (wk z N SL (hup f a (c, n, updV u j.toNatClampNeg v))) := by
  unfold ap
  rw [wk_at hz h1 h2, hf]
  dsimp only
  rw [if_pos ⟨h1, hc.1, hc.2, hj⟩, wk_up hz h1 h2]
def Fz0 : Nat → Int32 := fun j => if j = 6 then 5 else if j = 7 then 2 else 0
/-- a state while it is made: i clients, j chapters, k phrases stand in their arrays -/
def stL (S i j k : Nat) (f : Nat → HC) (q : Nat) : HC :=
  if q = S then stcell Fz0 S 0 else if q = S + 1 then (12, 5, fun t => if t < i then .ref (S + 4 + t) else .null) else if q = S + 2 then (13, 10, fun t => if t < j then .ref (S + 9 + t) else .null) else if q = S + 3 then (14, 24, fun t => if t < k then .ref (S + 19 + t) else .null)
  else if S + 4 ≤ q ∧ q < S + 9 then (1, 2, fun _ => .int 0) else if S + 9 ≤ q ∧ q < S + 19 then (0, 4, fun _ => .int 0) else if S + 19 ≤ q ∧ q < S + 43 then (4, 10, fun _ => .int 0) else f q
theorem ain_in {i n : Nat} (h : i < n) (hn : n ≤ 2000) : ain (nI i) n = true := by
  unfold ain
  rw [nI_clamp (by omega)]
  have h1 : ¬ nI i < 0 := nI_pos (by omega)
  simp only [h1, h, decide_true, decide_false, Bool.not_false, Bool.and_self]
theorem upd_ref {i S : Nat} {c : Nat} : updV (fun t => if t < i then Value.ref (S + c + t) else .null) i (.ref (S + c + i)) = fun t => if t < i + 1 then Value.ref (S + c + t) else .null := by
  funext t
  unfold updV
  by_cases e : t = i
  · subst e
    rw [if_pos rfl, if_pos (by omega)]
  · by_cases q : t < i
    · simp only [e, q, if_true, if_false]
      rw [if_pos (by omega)]
    · simp only [e, q, if_false]
      rw [if_neg (by omega)]
theorem df1 : (fun k => defaultValue (xTy 1 k)) = fun _ => Value.int 0 := by
  funext k
  rcases k with _ | k <;> rfl
theorem df0 : (fun k => defaultValue (xTy 0 k)) = fun _ => Value.int 0 := by
  funext k
  rcases k with _ | _ | _ | k <;> rfl
theorem df4 : (fun k => defaultValue (xTy 4 k)) = fun _ => Value.int 0 := by
  funext k
  rcases k with _ | _ | _ | _ | _ | _ | _ | _ | _ | k <;> rfl
end WK
section WI
variable {z : Zt} {N SL d S : Nat} {f : Nat → HC}
theorem n_Cl {w : Wd} {a : Nat} : run (d + 1) 2 [.ref a] w = some (none, w) := by
  rw [r2]
  simp only [e2_0, e2_1, e2_4, lk, lset, ldel, lset2, ldel2, cat2, gI_int, gA_ref, gA_null, gV_some, gC_some, gL_long, Option.toList, List.cons_append, List.nil_append, List.length_cons, List.length_nil, Nat.reduceEqDiff, Nat.reduceAdd, Nat.reduceSub, Nat.reduceLeDiff, Nat.reduceLT, nb0, nb1, reduceIte, reduceCtorEq, and_false, and_true, false_and, true_and, if_true, if_false, Bool.false_eq_true, eq_self, not_true_eq_false, not_false_eq_true]
theorem n_Ch {w : Wd} {a : Nat} : run (d + 1) 0 [.ref a] w = some (none, w) := by
  rw [r0]
  simp only [e0_0, e0_1, e0_4, lk, lset, ldel, lset2, ldel2, cat2, gI_int, gA_ref, gA_null, gV_some, gC_some, gL_long, Option.toList, List.cons_append, List.nil_append, List.length_cons, List.length_nil, Nat.reduceEqDiff, Nat.reduceAdd, Nat.reduceSub, Nat.reduceLeDiff, Nat.reduceLT, nb0, nb1, reduceIte, reduceCtorEq, and_false, and_true, false_and, true_and, if_true, if_false, Bool.false_eq_true, eq_self, not_true_eq_false, not_false_eq_true]
theorem n_Ph {w : Wd} {a : Nat} : run (d + 1) 15 [.ref a] w = some (none, w) := by
  rw [r15]
  simp only [e15_0, e15_1, e15_4, lk, lset, ldel, lset2, ldel2, cat2, gI_int, gA_ref, gA_null, gV_some, gC_some, gL_long, Option.toList, List.cons_append, List.nil_append, List.length_cons, List.length_nil, Nat.reduceEqDiff, Nat.reduceAdd, Nat.reduceSub, Nat.reduceLeDiff, Nat.reduceLT, nb0, nb1, reduceIte, reduceCtorEq, and_false, and_true, false_and, true_and, if_true, if_false, Bool.false_eq_true, eq_self, not_true_eq_false, not_false_eq_true]
theorem n_St_c (hz : zok z) (hS : S + 1 = z.1 + N) (h1 : z.1 ≤ S) : ∀ r i, i + r = 5 → X (d + 1) 31 72 [(0, .ref S), (1, .int (nI i))] [] (wk z (N + 3 + i) (SL + 39 + 2 * i) (stL S i 0 0 f)) = X (d + 1) 31 96 [(0, .ref S), (1, .int (nI 5))] [] (wk z (N + 3 + 5) (SL + 39 + 2 * 5) (stL S 5 0 0 f)) := by
  intro r
  have eN : (5 : Int32) = nI 5 := by decide +kernel
  induction r with
  | zero =>
    intro i hi
    obtain rfl : i = 5 := by omega
    rw [e31_72]
    simp only [e31_73, e31_74, e31_77, e31_78, e31_81, e31_82, e31_85, e31_85a, e31_86, e31_89, e31_90, e31_93, lk, lset, ldel, lset2, ldel2, cat2, gI_int, gA_ref, gA_null, gV_some, gC_some, gL_long, Option.toList, List.cons_append, List.nil_append, List.length_cons, List.length_nil, Nat.reduceEqDiff, Nat.reduceAdd, Nat.reduceSub, Nat.reduceLeDiff, Nat.reduceLT, nb0, nb1, reduceIte, reduceCtorEq, and_false, and_true, false_and, true_and, if_true, if_false, Bool.false_eq_true, eq_self, not_true_eq_false, not_false_eq_true, eN, Int32.le_refl]
  | succ r ih =>
    intro i hi
    have g : ¬ nI 5 ≤ nI i := nI_goon (by omega) (by omega)
    have eS : stL S i 0 0 f S = (6, 11, (stcell Fz0 S 0).2.2) := if_pos rfl
    have eA : stL S i 0 0 f (S + 1) = (12, 5, fun t => if t < i then .ref (S + 4 + t) else .null) := by
      unfold stL
      rw [if_neg (by omega)]; rw [if_pos rfl]
    have eq : z.1 + (N + 3 + i) = S + 4 + i := by omega
    have hf : hup (stL S i 0 0 f) (S + 4 + i) (1, 2, fun _ => .int 0) (S + 1) = (12, 5, fun t => if t < i then .ref (S + 4 + t) else .null) := by rw [hup_ne (by omega)]; exact eA
    have e2 := ih (i + 1) (by omega)
    rw [e31_72]
    simp only [e31_73, e31_74, e31_77, e31_78, e31_81, e31_82, e31_85, e31_85a, e31_86, e31_89, e31_90, e31_93, lk, lset, ldel, lset2, ldel2, cat2, gI_int, gA_ref, gA_null, gV_some, gC_some, gL_long, Option.toList, List.cons_append, List.nil_append, List.length_cons, List.length_nil, Nat.reduceEqDiff, Nat.reduceAdd, Nat.reduceSub, Nat.reduceLeDiff, Nat.reduceLT, nb0, nb1, reduceIte, reduceCtorEq, and_false, and_true, false_and, true_and, if_true, if_false, Bool.false_eq_true, eq_self, not_true_eq_false, not_false_eq_true, lk_same, lk_same2, lk_k1, lk_k1r, lk_ldN, ne_eq, eN, g, wk_size, wk_gf hz h1 (show S < z.1 + (N + 3 + i) by omega) eS, wk_new hz, eq, df1, n_Cl, show (stcell Fz0 S 0).2.2 0 = .ref (S + 1) from rfl, wk_kd hz (show z.1 ≤ S + 4 + i by omega) (show S + 4 + i < z.1 + (N + 3 + i + 1) by omega) hup_same, wk_kd hz (show z.1 ≤ S + 1 by omega) (show S + 1 < z.1 + (N + 3 + i + 1) by omega) hf, show xEl 12 = 1 from rfl, if_true, wk_ap hz (show z.1 ≤ S + 1 by omega) (show S + 1 < z.1 + (N + 3 + i + 1) by omega) hf (show 12 ≤ 12 ∧ 12 ≤ 15 by decide) (ain_in (show i < 5 by omega) (by omega)), nI_clamp (show i < 2 ^ 31 by omega), upd_ref, nI_1]
    refine Eq.trans ?_ e2
    refine congrArg (fun w => X (d + 1) 31 72 [(0, .ref S), (1, .int (nI (i + 1)))] [] w) ?_
    rw [show N + 3 + i + 1 = N + 3 + (i + 1) by omega, show SL + 39 + 2 * i + 2 = SL + 39 + 2 * (i + 1) by omega]
    refine wk_ext fun q _ _ => ?_
    unfold hup stL
    by_cases q1 : q = S + 1
    · rw [if_pos q1]; rw [if_neg (by omega)]; rw [if_pos q1]
    · rw [if_neg q1]
      by_cases q2 : q = S + 4 + i
      · rw [if_pos q2, if_neg (by omega), if_neg (by omega), if_neg (by omega), if_neg (by omega), if_pos (by omega)]
      · rw [if_neg q2]
        by_cases r0 : q = S
        · rw [if_pos r0, if_pos r0]
        · rw [if_neg r0, if_neg r0]
          by_cases r1 : q = S + 1
          · exact absurd r1 q1
          · rw [if_neg r1, if_neg r1]
theorem n_St_h (hz : zok z) (hS : S + 1 = z.1 + N) (h1 : z.1 ≤ S) : ∀ r i, i + r = 10 → X (d + 1) 31 98 [(0, .ref S), (1, .int (nI i))] [] (wk z (N + 8 + i) (SL + 49 + 4 * i) (stL S 5 i 0 f)) = X (d + 1) 31 123 [(0, .ref S), (1, .int (nI 10))] [] (wk z (N + 8 + 10) (SL + 49 + 4 * 10) (stL S 5 10 0 f)) := by
  intro r
  have eN : (10 : Int32) = nI 10 := by decide +kernel
  induction r with
  | zero =>
    intro i hi
    obtain rfl : i = 10 := by omega
    rw [e31_98]
    simp only [e31_99, e31_101, e31_104, e31_105, e31_108, e31_109, e31_112, e31_112a, e31_113, e31_116, e31_117, e31_120, lk, lset, ldel, lset2, ldel2, cat2, gI_int, gA_ref, gA_null, gV_some, gC_some, gL_long, Option.toList, List.cons_append, List.nil_append, List.length_cons, List.length_nil, Nat.reduceEqDiff, Nat.reduceAdd, Nat.reduceSub, Nat.reduceLeDiff, Nat.reduceLT, nb0, nb1, reduceIte, reduceCtorEq, and_false, and_true, false_and, true_and, if_true, if_false, Bool.false_eq_true, eq_self, not_true_eq_false, not_false_eq_true, eN, Int32.le_refl]
  | succ r ih =>
    intro i hi
    have g : ¬ nI 10 ≤ nI i := nI_goon (by omega) (by omega)
    have eS : stL S 5 i 0 f S = (6, 11, (stcell Fz0 S 0).2.2) := if_pos rfl
    have eA : stL S 5 i 0 f (S + 2) = (13, 10, fun t => if t < i then .ref (S + 9 + t) else .null) := by
      unfold stL
      rw [if_neg (by omega)]; rw [if_neg (by omega)]; rw [if_pos rfl]
    have eq : z.1 + (N + 8 + i) = S + 9 + i := by omega
    have hf : hup (stL S 5 i 0 f) (S + 9 + i) (0, 4, fun _ => .int 0) (S + 2) = (13, 10, fun t => if t < i then .ref (S + 9 + t) else .null) := by rw [hup_ne (by omega)]; exact eA
    have e2 := ih (i + 1) (by omega)
    rw [e31_98]
    simp only [e31_99, e31_101, e31_104, e31_105, e31_108, e31_109, e31_112, e31_112a, e31_113, e31_116, e31_117, e31_120, lk, lset, ldel, lset2, ldel2, cat2, gI_int, gA_ref, gA_null, gV_some, gC_some, gL_long, Option.toList, List.cons_append, List.nil_append, List.length_cons, List.length_nil, Nat.reduceEqDiff, Nat.reduceAdd, Nat.reduceSub, Nat.reduceLeDiff, Nat.reduceLT, nb0, nb1, reduceIte, reduceCtorEq, and_false, and_true, false_and, true_and, if_true, if_false, Bool.false_eq_true, eq_self, not_true_eq_false, not_false_eq_true, lk_same, lk_same2, lk_k1, lk_k1r, lk_ldN, ne_eq, eN, g, wk_size, wk_gf hz h1 (show S < z.1 + (N + 8 + i) by omega) eS, wk_new hz, eq, df0, n_Ch, show (stcell Fz0 S 0).2.2 1 = .ref (S + 2) from rfl, wk_kd hz (show z.1 ≤ S + 9 + i by omega) (show S + 9 + i < z.1 + (N + 8 + i + 1) by omega) hup_same, wk_kd hz (show z.1 ≤ S + 2 by omega) (show S + 2 < z.1 + (N + 8 + i + 1) by omega) hf, show xEl 13 = 0 from rfl, if_true, wk_ap hz (show z.1 ≤ S + 2 by omega) (show S + 2 < z.1 + (N + 8 + i + 1) by omega) hf (show 12 ≤ 13 ∧ 13 ≤ 15 by decide) (ain_in (show i < 10 by omega) (by omega)), nI_clamp (show i < 2 ^ 31 by omega), upd_ref, nI_1]
    refine Eq.trans ?_ e2
    refine congrArg (fun w => X (d + 1) 31 98 [(0, .ref S), (1, .int (nI (i + 1)))] [] w) ?_
    rw [show N + 8 + i + 1 = N + 8 + (i + 1) by omega, show SL + 49 + 4 * i + 4 = SL + 49 + 4 * (i + 1) by omega]
    refine wk_ext fun q _ _ => ?_
    unfold hup stL
    by_cases q1 : q = S + 2
    · rw [if_pos q1]; rw [if_neg (by omega)]; rw [if_neg (by omega)]; rw [if_pos q1]
    · rw [if_neg q1]
      by_cases q2 : q = S + 9 + i
      · rw [if_pos q2, if_neg (by omega), if_neg (by omega), if_neg (by omega), if_neg (by omega), if_neg (by omega), if_pos (by omega)]
      · rw [if_neg q2]
        by_cases r0 : q = S
        · rw [if_pos r0, if_pos r0]
        · rw [if_neg r0, if_neg r0]
          by_cases r1 : q = S + 1
          · rw [if_pos r1, if_pos r1]
          · rw [if_neg r1, if_neg r1]
            by_cases r2 : q = S + 2
            · exact absurd r2 q1
            · rw [if_neg r2, if_neg r2]
theorem n_St_p (hz : zok z) (hS : S + 1 = z.1 + N) (h1 : z.1 ≤ S) : ∀ r i, i + r = 24 → X (d + 1) 31 125 [(0, .ref S), (1, .int (nI i))] [] (wk z (N + 18 + i) (SL + 89 + 10 * i) (stL S 5 10 i f)) = X (d + 1) 31 150 [(0, .ref S), (1, .int (nI 24))] [] (wk z (N + 18 + 24) (SL + 89 + 10 * 24) (stL S 5 10 24 f)) := by
  intro r
  have eN : (24 : Int32) = nI 24 := by decide +kernel
  induction r with
  | zero =>
    intro i hi
    obtain rfl : i = 24 := by omega
    rw [e31_125]
    simp only [e31_126, e31_128, e31_131, e31_132, e31_135, e31_136, e31_139, e31_139a, e31_140, e31_143, e31_144, e31_147, lk, lset, ldel, lset2, ldel2, cat2, gI_int, gA_ref, gA_null, gV_some, gC_some, gL_long, Option.toList, List.cons_append, List.nil_append, List.length_cons, List.length_nil, Nat.reduceEqDiff, Nat.reduceAdd, Nat.reduceSub, Nat.reduceLeDiff, Nat.reduceLT, nb0, nb1, reduceIte, reduceCtorEq, and_false, and_true, false_and, true_and, if_true, if_false, Bool.false_eq_true, eq_self, not_true_eq_false, not_false_eq_true, eN, Int32.le_refl]
  | succ r ih =>
    intro i hi
    have g : ¬ nI 24 ≤ nI i := nI_goon (by omega) (by omega)
    have eS : stL S 5 10 i f S = (6, 11, (stcell Fz0 S 0).2.2) := if_pos rfl
    have eA : stL S 5 10 i f (S + 3) = (14, 24, fun t => if t < i then .ref (S + 19 + t) else .null) := by
      unfold stL
      rw [if_neg (by omega)]; rw [if_neg (by omega)]; rw [if_neg (by omega)]; rw [if_pos rfl]
    have eq : z.1 + (N + 18 + i) = S + 19 + i := by omega
    have hf : hup (stL S 5 10 i f) (S + 19 + i) (4, 10, fun _ => .int 0) (S + 3) = (14, 24, fun t => if t < i then .ref (S + 19 + t) else .null) := by rw [hup_ne (by omega)]; exact eA
    have e2 := ih (i + 1) (by omega)
    rw [e31_125]
    simp only [e31_126, e31_128, e31_131, e31_132, e31_135, e31_136, e31_139, e31_139a, e31_140, e31_143, e31_144, e31_147, lk, lset, ldel, lset2, ldel2, cat2, gI_int, gA_ref, gA_null, gV_some, gC_some, gL_long, Option.toList, List.cons_append, List.nil_append, List.length_cons, List.length_nil, Nat.reduceEqDiff, Nat.reduceAdd, Nat.reduceSub, Nat.reduceLeDiff, Nat.reduceLT, nb0, nb1, reduceIte, reduceCtorEq, and_false, and_true, false_and, true_and, if_true, if_false, Bool.false_eq_true, eq_self, not_true_eq_false, not_false_eq_true, lk_same, lk_same2, lk_k1, lk_k1r, lk_ldN, ne_eq, eN, g, wk_size, wk_gf hz h1 (show S < z.1 + (N + 18 + i) by omega) eS, wk_new hz, eq, df4, n_Ph, show (stcell Fz0 S 0).2.2 2 = .ref (S + 3) from rfl, wk_kd hz (show z.1 ≤ S + 19 + i by omega) (show S + 19 + i < z.1 + (N + 18 + i + 1) by omega) hup_same, wk_kd hz (show z.1 ≤ S + 3 by omega) (show S + 3 < z.1 + (N + 18 + i + 1) by omega) hf, show xEl 14 = 4 from rfl, if_true, wk_ap hz (show z.1 ≤ S + 3 by omega) (show S + 3 < z.1 + (N + 18 + i + 1) by omega) hf (show 12 ≤ 14 ∧ 14 ≤ 15 by decide) (ain_in (show i < 24 by omega) (by omega)), nI_clamp (show i < 2 ^ 31 by omega), upd_ref, nI_1]
    refine Eq.trans ?_ e2
    refine congrArg (fun w => X (d + 1) 31 125 [(0, .ref S), (1, .int (nI (i + 1)))] [] w) ?_
    rw [show N + 18 + i + 1 = N + 18 + (i + 1) by omega, show SL + 89 + 10 * i + 10 = SL + 89 + 10 * (i + 1) by omega]
    refine wk_ext fun q _ _ => ?_
    unfold hup stL
    by_cases q1 : q = S + 3
    · rw [if_pos q1]; rw [if_neg (by omega)]; rw [if_neg (by omega)]; rw [if_neg (by omega)]; rw [if_pos q1]
    · rw [if_neg q1]
      by_cases q2 : q = S + 19 + i
      · rw [if_pos q2, if_neg (by omega), if_neg (by omega), if_neg (by omega), if_neg (by omega), if_neg (by omega), if_neg (by omega), if_pos (by omega)]
      · rw [if_neg q2]
        by_cases r0 : q = S
        · rw [if_pos r0, if_pos r0]
        · rw [if_neg r0, if_neg r0]
          by_cases r1 : q = S + 1
          · rw [if_pos r1, if_pos r1]
          · rw [if_neg r1, if_neg r1]
            by_cases r2 : q = S + 2
            · rw [if_pos r2, if_pos r2]
            · rw [if_neg r2, if_neg r2]
              by_cases r3 : q = S + 3
              · exact absurd r3 q1
              · rw [if_neg r3, if_neg r3]
theorem n_St (hz : zok z) (hS : S + 1 = z.1 + N) (h1 : z.1 ≤ S) : run (d + 2) 31 [.ref S] (wk z N SL (hup f S (6, 11, fun k => defaultValue (xTy 6 k)))) = some (none, wk z (N + 42) (SL + 329) (stL S 5 10 24 f)) := by
  have e5 := n_St_c (d := d) (SL := SL) (f := f) hz hS h1 5 0 (by omega)
  have e10 := n_St_h (d := d) (SL := SL) (f := f) hz hS h1 10 0 (by omega)
  have e24 := n_St_p (d := d) (SL := SL) (f := f) hz hS h1 24 0 (by omega)
  rw [l0] at e5 e10 e24
  rw [r31]
  simp only [e31_0, e31_1, e31_4, e31_5, e31_6, e31_9, e31_12, e31_13, e31_15, e31_18, e31_21, e31_22, e31_24, e31_27, e31_30, e31_31, e31_32, e31_35, e31_36, e31_37, e31_40, e31_41, e31_42, e31_45, e31_46, e31_47, e31_50, e31_51, e31_52, e31_55, e31_56, e31_57, e31_60, e31_61, e31_62, e31_65, e31_66, e31_67, e31_70, e31_71, lk, lset, ldel, lset2, ldel2, cat2, gI_int, gA_ref, gA_null, gV_some, gC_some, gL_long, Option.toList, List.cons_append, List.nil_append, List.length_cons, List.length_nil, Nat.reduceEqDiff, Nat.reduceAdd, Nat.reduceSub, Nat.reduceLeDiff, Nat.reduceLT, nb0, nb1, reduceIte, reduceCtorEq, and_false, and_true, false_and, true_and, if_true, if_false, Bool.false_eq_true, eq_self, not_true_eq_false, not_false_eq_true, lk_same, lk_same2, lk_k1, lk_k1r, lk_ldN, ne_eq, wk_size, wk_newS hz (show S < z.1 + N by omega), wk_newS hz (show S < z.1 + (N + 1) by omega), wk_newS hz (show S < z.1 + (N + 1 + 1) by omega), wk_pfS hz h1 (show S < z.1 + (N + 1) by omega), wk_pfS hz h1 (show S < z.1 + (N + 1 + 1) by omega), wk_pfS hz h1 (show S < z.1 + (N + 1 + 1 + 1) by omega)]
  rw [show z.1 + N = S + 1 by omega, show z.1 + (N + 1) = S + 2 by omega, show z.1 + (N + 1 + 1) = S + 3 by omega]
  generalize hu : updV (updV (updV (updV (updV (updV (updV (updV (updV (updV (updV (fun k => defaultValue (xTy 6 k)) 0 (Value.ref (S + 1))) 1 (Value.ref (S + 2))) 2 (Value.ref (S + 3))) 3 (Value.int 0)) 4 (Value.int 0)) 5 (Value.int 0)) 6 (Value.int 0)) 7 (Value.int 0)) 8 (Value.int 0)) 9 (Value.int 5)) 10 (Value.int 2) = U
  have eU : U = (stcell Fz0 S 0).2.2 := by
    rw [← hu]
    funext k
    rcases k with _ | _ | _ | _ | _ | _ | _ | _ | _ | _ | _ | k <;> rfl
  rw [show wk z (N + 1 + 1 + 1) (SL + 5 + 10 + 24) (hup (hup (hup (hup f (S + 1) (12, 5, fun x => Value.null)) (S + 2) (13, 10, fun x => Value.null)) (S + 3) (14, 24, fun x => Value.null)) S (6, 11, U)) = wk z (N + 3 + 0) (SL + 39 + 2 * 0) (stL S 0 0 0 f) from wk_ext (N := N + 3) (SL := SL + 39) fun q _ _ => ?_]
  · refine e5.trans ?_
    rw [e31_96]
    simp only [e31_97, lk, lset, ldel, lset2, ldel2, cat2, gI_int, gA_ref, gA_null, gV_some, gC_some, gL_long, Option.toList, List.cons_append, List.nil_append, List.length_cons, List.length_nil, Nat.reduceEqDiff, Nat.reduceAdd, Nat.reduceSub, Nat.reduceLeDiff, Nat.reduceLT, nb0, nb1, reduceIte, reduceCtorEq, and_false, and_true, false_and, true_and, if_true, if_false, Bool.false_eq_true, eq_self, not_true_eq_false, not_false_eq_true]
    refine e10.trans ?_
    rw [e31_123]
    simp only [e31_124, lk, lset, ldel, lset2, ldel2, cat2, gI_int, gA_ref, gA_null, gV_some, gC_some, gL_long, Option.toList, List.cons_append, List.nil_append, List.length_cons, List.length_nil, Nat.reduceEqDiff, Nat.reduceAdd, Nat.reduceSub, Nat.reduceLeDiff, Nat.reduceLT, nb0, nb1, reduceIte, reduceCtorEq, and_false, and_true, false_and, true_and, if_true, if_false, Bool.false_eq_true, eq_self, not_true_eq_false, not_false_eq_true]
    refine e24.trans ?_
    simp only [e31_150]
  · unfold hup stL
    by_cases r0 : q = S
    · rw [if_pos r0, if_pos r0, eU]; rfl
    · rw [if_neg r0, if_neg r0]
      by_cases r3 : q = S + 3
      · rw [if_pos r3, if_neg (by omega), if_neg (by omega), if_pos r3]; rfl
      · rw [if_neg r3]
        by_cases r2 : q = S + 2
        · rw [if_pos r2, if_neg (by omega), if_pos r2]; rfl
        · rw [if_neg r2]
          by_cases r1 : q = S + 1
          · rw [if_pos r1, if_pos r1]; rfl
          · rw [if_neg r1, if_neg r1, if_neg r2, if_neg r3, if_neg (by omega), if_neg (by omega), if_neg (by omega)]
end WI
