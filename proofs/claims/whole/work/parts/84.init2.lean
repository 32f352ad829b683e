/-! constructors: history, text, reading, order, the class, the model -/
/-- the numbers at the start -/
def Mz (z : Zt) : Nat → Nat → Int32 := fun x => if x = z.1 + 1 ∨ x = z.1 + 44 ∨ x = z.1 + 87 ∨ x = z.1 + 132 ∨ x = z.1 + 175 ∨ x = z.1 + 218 ∨ x = z.1 + 261 ∨ x = z.1 + 310 then Fz0 else fun _ => 0
def pz (z : Zt) : Nat → Nat := fun j => z.1 + 132 + 43 * j
def cc (z : Zt) : Nat → HC := ccell z.1 (Mz z) (pz z)
section WC
variable {z : Zt} {N SL d S : Nat} {f : Nat → HC}
theorem cc_blk (h : isS z S) {r : Nat} (hr : r < 43) : cc z (S + r) = stcell Fz0 (S + r) r := by
  unfold cc
  rw [isS_cell h hr]
  have e : Mz z S = Fz0 := by
    unfold Mz
    rw [if_pos (by have := h.2; omega)]
  rw [e]
theorem cc_o {o : Nat} (hb : blk o = none) : cc z (z.1 + o) = mcell (Mz z (z.1 + o)) (pz z) (z.1 + o) o := by
  unfold cc ccell
  rw [show z.1 + o - z.1 = o by omega, hb]
theorem hup_id {a : Nat} {c : HC} (h : f a = c) : hup f a c = f := by
  funext q
  unfold hup
  by_cases e : q = a
  · rw [if_pos e, e, h]
  · rw [if_neg e]
theorem hup_comm {a b : Nat} {c c' : HC} (h : a ≠ b) : hup (hup f a c) b c' = hup (hup f b c') a c := by
  funext q
  unfold hup
  by_cases e : q = b
  · rw [if_pos e, if_neg (by omega), if_pos e]
  · rw [if_neg e, if_neg e]
theorem stL_blk {r : Nat} (hr : r < 43) : stL S 5 10 24 f (S + r) = stcell Fz0 (S + r) r := by
  unfold stL
  by_cases r0 : r = 0
  · subst r0; rw [if_pos (Nat.add_zero S)]; rfl
  · rw [if_neg (by omega)]
    by_cases r1 : r = 1
    · subst r1
      rw [if_pos rfl]
      refine congrArg (fun u => ((12, 5, u) : HC)) (funext fun t => ?_)
      rw [show S + 4 + t = S + 1 + 3 + t by omega]
    · rw [if_neg (by omega)]
      by_cases r2 : r = 2
      · subst r2
        rw [if_pos rfl]
        refine congrArg (fun u => ((13, 10, u) : HC)) (funext fun t => ?_)
        rw [show S + 9 + t = S + 2 + 7 + t by omega]
      · rw [if_neg (by omega)]
        by_cases r3 : r = 3
        · subst r3
          rw [if_pos rfl]
          refine congrArg (fun u => ((14, 24, u) : HC)) (funext fun t => ?_)
          rw [show S + 19 + t = S + 3 + 16 + t by omega]
        · rw [if_neg (by omega)]
          unfold stcell
          rw [if_neg r0, if_neg r1, if_neg r2, if_neg r3]
          have hz : ∀ j, 8 ≤ j → Fz0 j = 0 := fun j hj => by unfold Fz0; rw [if_neg (by omega), if_neg (by omega)]
          by_cases r4 : r < 9
          · rw [if_pos (by omega), if_pos r4]
            refine congrArg (fun u => ((1, 2, u) : HC)) (funext fun t => ?_)
            rw [hz _ (by omega)]
            split <;> rfl
          · rw [if_neg (by omega), if_neg r4]
            by_cases r5 : r < 19
            · rw [if_pos (by omega), if_pos r5]
              refine congrArg (fun u => ((0, 4, u) : HC)) (funext fun t => ?_)
              rw [hz _ (by omega)]
              split <;> rfl
            · rw [if_neg (by omega), if_neg r5, if_pos (by omega)]
              refine congrArg (fun u => ((4, 10, u) : HC)) (funext fun t => ?_)
              rw [hz _ (by omega)]
              split <;> rfl
theorem stL_keep (hf : ∀ r, r < 43 → f (S + r) = stcell Fz0 (S + r) r) : stL S 5 10 24 f = f := by
  funext q
  by_cases hq : S ≤ q ∧ q < S + 43
  · have e : q = S + (q - S) := by omega
    rw [e, stL_blk (by omega), hf _ (by omega)]
  · unfold stL
    rw [if_neg (by omega), if_neg (by omega), if_neg (by omega), if_neg (by omega), if_neg (by omega), if_neg (by omega), if_neg (by omega)]
theorem n_St2 (hz : zok z) (hS : S + 1 = z.1 + N) (h1 : z.1 ≤ S) (hf : ∀ r, r < 43 → f (S + r) = stcell Fz0 (S + r) r) : run (d + 2) 31 [.ref S] (wk z N SL (hup f S (6, 11, fun k => defaultValue (xTy 6 k)))) = some (none, wk z (N + 42) (SL + 329) f) := by
  rw [n_St hz hS h1, stL_keep hf]
/-- the class's cell, its fields set so far; the rest as it will be -/
theorem n_StB (hz : zok z) (h : isS z S) (hS : S + 1 = z.1 + N) {x : HC} : run (d + 2) 31 [.ref S] (wk z N SL (hup (hup (cc z) S (6, 11, fun k => defaultValue (xTy 6 k))) z.1 x)) = some (none, wk z (N + 42) (SL + 329) (hup (cc z) z.1 x)) := by
  have hS0 := h.2
  rw [hup_comm (by omega)]
  refine n_St2 hz hS (by omega) fun r hr => ?_
  rw [hup_ne (by omega)]
  exact cc_blk h hr
theorem n_Te (hz : zok z) (h4 : f (z.1 + N) = mcell (fun _ => 0) (pz z) (z.1 + N) 304) (h5 : f (z.1 + (N + 1)) = mcell (fun _ => 0) (pz z) (z.1 + (N + 1)) 305) : run (d + 1) 73 [.ref (z.1 + N)] (wk z (N + 1) SL (hup f (z.1 + N) (7, 2, fun k => defaultValue (xTy 7 k)))) = some (none, wk z (N + 2) (SL + 60) f) := by
  have e5 : hup f (z.1 + (N + 1)) (11, 60, fun _ => Value.int 0) = f := hup_id (by
    rw [h5]
    refine congrArg (fun u => ((11, 60, u) : HC)) (funext fun t => ?_)
    unfold iarr
    split <;> rfl)
  have e4 : hup f (z.1 + N) (7, 2, updV (updV (fun k => defaultValue (xTy 7 k)) 0 (.ref (z.1 + (N + 1)))) 1 (.int 0)) = f := hup_id (by
    rw [h4]
    refine congrArg (fun u => ((7, 2, u) : HC)) (funext fun t => ?_)
    rcases t with _ | _ | t <;> rfl)
  rw [r73]
  simp only [e73_0, e73_1, e73_4, e73_5, e73_7, e73_9, e73_12, e73_13, e73_14, e73_17, lk, lset, ldel, lset2, ldel2, cat2, gI_int, gA_ref, gA_null, gV_some, gC_some, gL_long, Option.toList, List.cons_append, List.nil_append, List.length_cons, List.length_nil, Nat.reduceEqDiff, Nat.reduceAdd, Nat.reduceSub, Nat.reduceLeDiff, Nat.reduceLT, nb0, nb1, reduceIte, reduceCtorEq, and_false, and_true, false_and, true_and, if_true, if_false, Bool.false_eq_true, eq_self, not_true_eq_false, not_false_eq_true, lk_same, lk_same2, lk_k1, lk_k1r, lk_ldN, ne_eq, wk_size, wk_newS hz (show z.1 + N < z.1 + (N + 1) by omega), wk_pfS hz (show z.1 ≤ z.1 + N by omega) (show z.1 + N < z.1 + (N + 1 + 1) by omega), e5, e4]
theorem n_Or (hz : zok z) (h4 : f (z.1 + N) = mcell (fun _ => 0) (pz z) (z.1 + N) 307) (h5 : f (z.1 + (N + 1)) = mcell (fun _ => 0) (pz z) (z.1 + (N + 1)) 308) : run (d + 1) 8 [.ref (z.1 + N)] (wk z (N + 1) SL (hup f (z.1 + N) (3, 4, fun k => defaultValue (xTy 3 k)))) = some (none, wk z (N + 2) (SL + 4) f) := by
  have e5 : hup f (z.1 + (N + 1)) (10, 4, fun _ => Value.int 0) = f := hup_id (by
    rw [h5]
    refine congrArg (fun u => ((10, 4, u) : HC)) (funext fun t => ?_)
    unfold iarr
    split <;> rfl)
  have e4 : hup f (z.1 + N) (3, 4, updV (fun k => defaultValue (xTy 3 k)) 0 (.ref (z.1 + (N + 1)))) = f := hup_id (by
    rw [h4]
    refine congrArg (fun u => ((3, 4, u) : HC)) (funext fun t => ?_)
    rcases t with _ | _ | _ | _ | t <;> rfl)
  rw [r8]
  simp only [e8_0, e8_1, e8_4, e8_5, e8_6, e8_8, e8_11, lk, lset, ldel, lset2, ldel2, cat2, gI_int, gA_ref, gA_null, gV_some, gC_some, gL_long, Option.toList, List.cons_append, List.nil_append, List.length_cons, List.length_nil, Nat.reduceEqDiff, Nat.reduceAdd, Nat.reduceSub, Nat.reduceLeDiff, Nat.reduceLT, nb0, nb1, reduceIte, reduceCtorEq, and_false, and_true, false_and, true_and, if_true, if_false, Bool.false_eq_true, eq_self, not_true_eq_false, not_false_eq_true, lk_same, lk_same2, lk_k1, lk_k1r, lk_ldN, ne_eq, wk_size, wk_newS hz (show z.1 + N < z.1 + (N + 1) by omega), wk_pfS hz (show z.1 ≤ z.1 + N by omega) (show z.1 + N < z.1 + (N + 1 + 1) by omega), e5, e4]
theorem n_Re (hz : zok z) (h3 : f (z.1 + N) = mcell (fun _ => 0) (pz z) (z.1 + N) 306) (h4 : f (z.1 + (N + 1)) = mcell (fun _ => 0) (pz z) (z.1 + (N + 1)) 307) (h5 : f (z.1 + (N + 1 + 1)) = mcell (fun _ => 0) (pz z) (z.1 + (N + 1 + 1)) 308) : run (d + 2) 27 [.ref (z.1 + N)] (wk z (N + 1) SL (hup f (z.1 + N) (5, 5, fun k => defaultValue (xTy 5 k)))) = some (none, wk z (N + 3) (SL + 8) f) := by
  have e3 : hup f (z.1 + N) (5, 5, updV (fun k => defaultValue (xTy 5 k)) 0 (.ref (z.1 + (N + 1)))) = f := hup_id (by
    rw [h3]
    refine congrArg (fun u => ((5, 5, u) : HC)) (funext fun t => ?_)
    rcases t with _ | _ | _ | _ | _ | t <;> rfl)
  have eo := n_Or (d := d) (N := N + 1) (SL := SL + 4) (f := hup f (z.1 + N) (5, 5, fun k => defaultValue (xTy 5 k))) hz (by rw [hup_ne (by omega)]; exact h4) (by rw [hup_ne (by omega)]; exact h5)
  rw [r27]
  simp only [e27_0, e27_1, e27_4, e27_5, e27_8, e27_8a, e27_9, e27_12, e27_15, lk, lset, ldel, lset2, ldel2, cat2, gI_int, gA_ref, gA_null, gV_some, gC_some, gL_long, Option.toList, List.cons_append, List.nil_append, List.length_cons, List.length_nil, Nat.reduceEqDiff, Nat.reduceAdd, Nat.reduceSub, Nat.reduceLeDiff, Nat.reduceLT, nb0, nb1, reduceIte, reduceCtorEq, and_false, and_true, false_and, true_and, if_true, if_false, Bool.false_eq_true, eq_self, not_true_eq_false, not_false_eq_true, lk_same, lk_same2, lk_k1, lk_k1r, lk_ldN, ne_eq, wk_size, wk_new hz, eo, wk_pfS hz (show z.1 ≤ z.1 + N by omega) (show z.1 + N < z.1 + (N + 1 + 2) by omega), e3]
/-- the array of the history's states while it is filled -/
def hiA (z : Zt) (i : Nat) : HC := (15, 4, fun t => if t < i then .ref (z.1 + 132 + 43 * t) else .null)
theorem hiA_end : hiA z 4 = cc z (z.1 + 131) := by
  rw [cc_o (by decide)]
  rfl
theorem l_Hi (hz : zok z) {x : HC} : ∀ r i, i + r = 4 → X (d + 2) 4 19 [(0, .ref (z.1 + 130)), (1, .int (nI i))] [] (wk z (132 + 43 * i) (SL + 340 * i) (hup (hup (cc z) (z.1 + 131) (hiA z i)) z.1 x)) = some (none, wk z 304 (SL + 1360) (hup (cc z) z.1 x)) := by
  intro r
  have e4 : (4 : Int32) = nI 4 := by decide +kernel
  induction r with
  | zero =>
    intro i hi
    obtain rfl : i = 4 := by omega
    rw [e4_19, hiA_end, hup_id (f := cc z) rfl]
    simp only [e4_20, e4_21, e4_24, e4_25, e4_28, e4_29, e4_32, e4_32a, e4_33, e4_36, e4_37, e4_40, e4_43, lk, lset, ldel, lset2, ldel2, cat2, gI_int, gA_ref, gA_null, gV_some, gC_some, gL_long, Option.toList, List.cons_append, List.nil_append, List.length_cons, List.length_nil, Nat.reduceEqDiff, Nat.reduceAdd, Nat.reduceSub, Nat.reduceLeDiff, Nat.reduceLT, nb0, nb1, reduceIte, reduceCtorEq, and_false, and_true, false_and, true_and, if_true, if_false, Bool.false_eq_true, eq_self, not_true_eq_false, not_false_eq_true, e4, Int32.le_refl]
  | succ r ih =>
    intro i hi
    have g : ¬ nI 4 ≤ nI i := nI_goon (by omega) (by omega)
    have hS : isS z (z.1 + 132 + 43 * i) := ⟨hz, by omega⟩
    have eq : z.1 + (132 + 43 * i) = z.1 + 132 + 43 * i := by omega
    have e0 := n_St2 (d := d) (N := 132 + 43 * i + 1) (SL := SL + 340 * i + 11) (f := hup (hup (cc z) (z.1 + 131) (hiA z i)) z.1 x) hz (S := z.1 + 132 + 43 * i) (by omega) (by omega) (fun r hr => by
      rw [hup_ne (by omega), hup_ne (by omega)]; exact cc_blk hS hr)
    have f131 : hup (hup (cc z) (z.1 + 131) (hiA z i)) z.1 x (z.1 + 131) = hiA z i := by rw [hup_ne (by omega), hup_same]
    have f130 : hup (hup (cc z) (z.1 + 131) (hiA z i)) z.1 x (z.1 + 130) = (2, 2, (mcell (fun _ => 0) (pz z) (z.1 + 130) 130).2.2) := by
      rw [hup_ne (by omega), hup_ne (by omega), cc_o (by decide)]
      unfold Mz
      rw [if_neg (by omega)]
      rfl
    have fS : hup (hup (cc z) (z.1 + 131) (hiA z i)) z.1 x (z.1 + 132 + 43 * i) = (6, 11, (stcell Fz0 (z.1 + 132 + 43 * i) 0).2.2) := by
      rw [hup_ne (by omega), hup_ne (by omega)]
      exact cc_blk hS (r := 0) (by omega)
    have e2 := ih (i + 1) (by omega)
    rw [e4_19]
    simp only [e4_20, e4_21, e4_24, e4_25, e4_28, e4_29, e4_32, e4_32a, e4_33, e4_36, e4_37, e4_40, lk, lset, ldel, lset2, ldel2, cat2, gI_int, gA_ref, gA_null, gV_some, gC_some, gL_long, Option.toList, List.cons_append, List.nil_append, List.length_cons, List.length_nil, Nat.reduceEqDiff, Nat.reduceAdd, Nat.reduceSub, Nat.reduceLeDiff, Nat.reduceLT, nb0, nb1, reduceIte, reduceCtorEq, and_false, and_true, false_and, true_and, if_true, if_false, Bool.false_eq_true, eq_self, not_true_eq_false, not_false_eq_true, lk_same, lk_same2, lk_k1, lk_k1r, lk_ldN, ne_eq, e4, g, wk_size, wk_new hz, eq, e0, wk_gf hz (show z.1 ≤ z.1 + 130 by omega) (show z.1 + 130 < z.1 + (132 + 43 * i) by omega) f130, show (mcell (fun _ => 0) (pz z) (z.1 + 130) 130).2.2 0 = .ref (z.1 + 131) from rfl, wk_kd hz (show z.1 ≤ z.1 + 132 + 43 * i by omega) (show z.1 + 132 + 43 * i < z.1 + (132 + 43 * i + 1 + 42) by omega) fS, wk_kd hz (show z.1 ≤ z.1 + 131 by omega) (show z.1 + 131 < z.1 + (132 + 43 * i + 1 + 42) by omega) f131, show xEl 15 = 6 from rfl, if_true, wk_ap hz (show z.1 ≤ z.1 + 131 by omega) (show z.1 + 131 < z.1 + (132 + 43 * i + 1 + 42) by omega) f131 (show 12 ≤ 15 ∧ 15 ≤ 15 by decide) (ain_in (show i < 4 by omega) (by omega)), nI_clamp (show i < 2 ^ 31 by omega), nI_1]
    refine Eq.trans ?_ e2
    refine congrArg (fun w => X (d + 2) 4 19 [(0, .ref (z.1 + 130)), (1, .int (nI (i + 1)))] [] w) ?_
    rw [show 132 + 43 * i + 1 + 42 = 132 + 43 * (i + 1) by omega, show SL + 340 * i + 11 + 329 = SL + 340 * (i + 1) by omega, hup_comm (show z.1 ≠ z.1 + 131 by omega), hup_hup]
    congr 3
    refine congrArg (fun u => ((15, 4, u) : HC)) (funext fun t => ?_)
    unfold updV
    by_cases e : t = i
    · subst e
      rw [if_pos rfl, if_pos (by omega)]
    · by_cases q : t < i
      · rw [if_neg e]; dsimp only; rw [if_pos q, if_pos (by omega)]
      · rw [if_neg e]; dsimp only; rw [if_neg q, if_neg (by omega)]
theorem n_Hi (hz : zok z) {x : HC} : run (d + 3) 4 [.ref (z.1 + 130)] (wk z 131 SL (hup (hup (cc z) (z.1 + 130) (2, 2, fun k => defaultValue (xTy 2 k))) z.1 x)) = some (none, wk z 304 (SL + 1364) (hup (cc z) z.1 x)) := by
  have e0 := l_Hi (d := d) (SL := SL + 4) (x := x) hz 4 0 (by omega)
  have e1 : hup (hup (hup (cc z) (z.1 + 130) (2, 2, fun k => defaultValue (xTy 2 k))) z.1 x) (z.1 + 131) (15, 4, fun _ => Value.null) = hup (hup (hup (cc z) (z.1 + 131) (hiA z 0)) z.1 x) (z.1 + 130) (2, 2, fun k => defaultValue (xTy 2 k)) := by
    have : hiA z 0 = (15, 4, fun _ => Value.null) := by
      unfold hiA
      refine congrArg (fun u => ((15, 4, u) : HC)) (funext fun t => ?_)
      rw [if_neg (by omega)]
    rw [this, hup_comm (show z.1 ≠ z.1 + 131 by omega), hup_comm (show z.1 + 130 ≠ z.1 + 131 by omega), hup_comm (show z.1 + 130 ≠ z.1 by omega)]
  have e2 : hup (hup (hup (cc z) (z.1 + 131) (hiA z 0)) z.1 x) (z.1 + 130) (2, 2, updV (updV (fun k => defaultValue (xTy 2 k)) 0 (.ref (z.1 + 131))) 1 (.int 0)) = hup (hup (cc z) (z.1 + 131) (hiA z 0)) z.1 x := hup_id (by
    rw [hup_ne (by omega), hup_ne (by omega), cc_o (by decide)]
    unfold Mz
    rw [if_neg (by omega)]
    refine congrArg (fun u => ((2, 2, u) : HC)) (funext fun t => ?_)
    rcases t with _ | _ | t <;> rfl)
  rw [l0] at e0
  rw [r4]
  simp only [e4_0, e4_1, e4_4, e4_5, e4_6, e4_9, e4_12, e4_13, e4_14, e4_17, e4_18, lk, lset, ldel, lset2, ldel2, cat2, gI_int, gA_ref, gA_null, gV_some, gC_some, gL_long, Option.toList, List.cons_append, List.nil_append, List.length_cons, List.length_nil, Nat.reduceEqDiff, Nat.reduceAdd, Nat.reduceSub, Nat.reduceLeDiff, Nat.reduceLT, nb0, nb1, reduceIte, reduceCtorEq, and_false, and_true, false_and, true_and, if_true, if_false, Bool.false_eq_true, eq_self, not_true_eq_false, not_false_eq_true, lk_same, lk_same2, lk_k1, lk_k1r, lk_ldN, ne_eq, wk_size, wk_new hz, e1, wk_pfS hz (show z.1 ≤ z.1 + 130 by omega) (show z.1 + 130 < z.1 + 132 by omega), e2]
  exact e0
theorem Mz_0 {o : Nat} (h : o = 0 ∨ o = 130 ∨ o = 131 ∨ 304 ≤ o ∧ o ≠ 310) : Mz z (z.1 + o) = fun _ => 0 := by
  unfold Mz
  rw [if_neg (by omega)]
theorem n_TeB (hz : zok z) {x : HC} : run (d + 1) 73 [.ref (z.1 + 304)] (wk z 305 SL (hup (hup (cc z) (z.1 + 304) (7, 2, fun k => defaultValue (xTy 7 k))) z.1 x)) = some (none, wk z 306 (SL + 60) (hup (cc z) z.1 x)) := by
  rw [hup_comm (by omega)]
  refine n_Te (N := 304) hz ?_ ?_
  · rw [hup_ne (by omega), cc_o (by decide), Mz_0 (by omega)]
  · rw [hup_ne (by omega), show z.1 + (304 + 1) = z.1 + 305 from rfl, cc_o (by decide), Mz_0 (by omega)]
theorem n_ReB (hz : zok z) {x : HC} : run (d + 2) 27 [.ref (z.1 + 306)] (wk z 307 SL (hup (hup (cc z) (z.1 + 306) (5, 5, fun k => defaultValue (xTy 5 k))) z.1 x)) = some (none, wk z 309 (SL + 8) (hup (cc z) z.1 x)) := by
  rw [hup_comm (by omega)]
  refine n_Re (N := 306) hz ?_ ?_ ?_
  · rw [hup_ne (by omega), cc_o (by decide), Mz_0 (by omega)]
  · rw [hup_ne (by omega), show z.1 + (306 + 1) = z.1 + 307 from rfl, cc_o (by decide), Mz_0 (by omega)]
  · rw [hup_ne (by omega), show z.1 + (306 + 1 + 1) = z.1 + 308 from rfl, cc_o (by decide), Mz_0 (by omega)]
/-- a new class -/
theorem n_LP (hz : zok z) : run (d + 4) 77 [.ref z.1] (wk z 1 7 (hup (cc z) z.1 (8, 7, fun k => defaultValue (xTy 8 k)))) = some (none, wk z 309 2468 (cc z)) := by
  have ef : hup (cc z) z.1 (8, 7, updV (updV (updV (updV (updV (updV (fun k => defaultValue (xTy 8 k)) 0 (.ref (z.1 + 1))) 1 (.ref (z.1 + 44))) 2 (.ref (z.1 + 87))) 3 (.ref (z.1 + 130))) 4 (.ref (z.1 + 304))) 5 (.ref (z.1 + 306))) = cc z := hup_id (by
    rw [show z.1 = z.1 + 0 from rfl, cc_o (by decide), Mz_0 (by omega)]
    refine congrArg (fun u => ((8, 7, u) : HC)) (funext fun t => ?_)
    rcases t with _ | _ | _ | _ | _ | _ | _ | t <;> rfl)
  have l0' := Nat.le_refl z.1
  rw [r77]
  simp only [e77_0, e77_1, e77_4, e77_5, e77_8, e77_8a, e77_9, e77_12, e77_15, e77_16, e77_19, e77_19a, e77_20, e77_23, e77_26, e77_27, e77_30, e77_30a, e77_31, e77_34, e77_37, e77_38, e77_41, e77_41a, e77_42, e77_45, e77_48, e77_49, e77_52, e77_52a, e77_53, e77_56, e77_59, e77_60, e77_63, e77_63a, e77_64, e77_67, e77_70, lk, lset, ldel, lset2, ldel2, cat2, gI_int, gA_ref, gA_null, gV_some, gC_some, gL_long, Option.toList, List.cons_append, List.nil_append, List.length_cons, List.length_nil, Nat.reduceEqDiff, Nat.reduceAdd, Nat.reduceSub, Nat.reduceLeDiff, Nat.reduceLT, nb0, nb1, reduceIte, reduceCtorEq, and_false, and_true, false_and, true_and, if_true, if_false, Bool.false_eq_true, eq_self, not_true_eq_false, not_false_eq_true, lk_same, lk_same2, lk_k1, lk_k1r, lk_ldN, ne_eq, wk_size, wk_newS hz (show z.1 < z.1 + 1 by omega), wk_newS hz (show z.1 < z.1 + 44 by omega), wk_newS hz (show z.1 < z.1 + 87 by omega), wk_newS hz (show z.1 < z.1 + 130 by omega), wk_newS hz (show z.1 < z.1 + 304 by omega), wk_newS hz (show z.1 < z.1 + 306 by omega), n_StB hz (S := z.1 + 1) (N := 2) ⟨hz, by omega⟩ (by omega), n_StB hz (S := z.1 + 44) (N := 45) ⟨hz, by omega⟩ (by omega), n_StB hz (S := z.1 + 87) (N := 88) ⟨hz, by omega⟩ (by omega), n_Hi hz, n_TeB hz, n_ReB hz, wk_pfS hz l0' (show z.1 < z.1 + 44 by omega), wk_pfS hz l0' (show z.1 < z.1 + 87 by omega), wk_pfS hz l0' (show z.1 < z.1 + 130 by omega), wk_pfS hz l0' (show z.1 < z.1 + 304 by omega), wk_pfS hz l0' (show z.1 < z.1 + 306 by omega), wk_pfS hz l0' (show z.1 < z.1 + 309 by omega), ef]
theorem arr_id {o n : Nat} {y : HC} (h0 : o ≠ 310) (hb : blk o = none) (hm : mcell (fun _ => 0) (pz z) (z.1 + o) o = (10, n, iarr n fun _ => 0)) (ho : o = 0 ∨ o = 130 ∨ o = 131 ∨ 304 ≤ o ∧ o ≠ 310) : hup (hup (cc z) (z.1 + 310) y) (z.1 + o) (10, n, fun _ => Value.int 0) = hup (cc z) (z.1 + 310) y := hup_id (by
  rw [hup_ne (by omega), cc_o hb, Mz_0 ho, hm]
  refine congrArg (fun u => ((10, n, u) : HC)) (funext fun t => ?_)
  unfold iarr
  split <;> rfl)
theorem wk_end : wk z 317 4934 (cc z) = wld z (Mz z) (pz z) := rfl
/-- a new model -/
theorem n_Mo (hz : zok z) : run (d + 1) 111 [.ref (z.1 + 309)] (wk z 310 2486 (hup (cc z) (z.1 + 309) (9, 18, fun k => defaultValue (xTy 9 k)))) = some (none, wld z (Mz z) (pz z)) := by
  have h1 : z.1 ≤ z.1 + 309 := by omega
  have h10 : z.1 ≤ z.1 + 310 := by omega
  have q : z.1 + 309 ≠ z.1 + 310 := by omega
  have ef : ∀ y, hup (hup (cc z) (z.1 + 310) y) (z.1 + 309) (9, 18, updV (updV (updV (updV (updV (updV (updV (fun k => defaultValue (xTy 9 k)) 0 (.ref (z.1 + 310))) 1 (.ref (z.1 + 311))) 2 (.ref (z.1 + 312))) 3 (.ref (z.1 + 313))) 4 (.ref (z.1 + 314))) 8 (.ref (z.1 + 315))) 17 (.ref (z.1 + 316))) = hup (cc z) (z.1 + 310) y := fun y => hup_id (by
    rw [hup_ne q, cc_o (by decide), Mz_0 (by omega)]
    refine congrArg (fun u => ((9, 18, u) : HC)) (funext fun t => ?_)
    rcases t with _ | _ | _ | _ | _ | _ | _ | _ | _ | _ | _ | _ | _ | _ | _ | _ | _ | _ | t <;> rfl)
  have f9 : ∀ y, hup (cc z) (z.1 + 310) y (z.1 + 309) = (9, 18, (mcell (fun _ => 0) (pz z) (z.1 + 309) 309).2.2) := fun y => by
    rw [hup_ne q, cc_o (by decide), Mz_0 (by omega)]; rfl
  have e9 : (mcell (fun _ => 0) (pz z) (z.1 + 309) 309).2.2 0 = .ref (z.1 + 310) := rfl
  have eg : hup (cc z) (z.1 + 310) (10, 298, updV (updV (fun _ => Value.int 0) 6 (.int 5)) 7 (.int 2)) = cc z := hup_id (by
    rw [cc_o (by decide)]
    have e : Mz z (z.1 + 310) = Fz0 := by unfold Mz; rw [if_pos (by omega)]
    rw [e]
    refine congrArg (fun u => ((10, 298, u) : HC)) (funext fun t => ?_)
    unfold updV iarr Fz0
    by_cases e7 : t = 7
    · subst e7; rfl
    · by_cases e6 : t = 6
      · subst e6; rfl
      · rw [if_neg e7, if_neg e6, if_neg e6, if_neg e7]
        split <;> rfl)
  rw [r111, ← wk_end]
  simp only [e111_0, e111_1, e111_4, e111_5, e111_8, e111_10, e111_13, e111_14, e111_17, e111_19, e111_22, e111_23, e111_26, e111_28, e111_31, e111_32, e111_35, e111_37, e111_40, e111_41, e111_44, e111_46, e111_49, e111_50, e111_52, e111_54, e111_57, e111_58, e111_59, e111_61, e111_64, e111_65, e111_68, e111_70, e111_71, e111_72, e111_73, e111_76, e111_78, e111_79, e111_80, lk, lset, ldel, lset2, ldel2, cat2, gI_int, gA_ref, gA_null, gV_some, gC_some, gL_long, Option.toList, List.cons_append, List.nil_append, List.length_cons, List.length_nil, Nat.reduceEqDiff, Nat.reduceAdd, Nat.reduceSub, Nat.reduceLeDiff, Nat.reduceLT, nb0, nb1, reduceIte, reduceCtorEq, and_false, and_true, false_and, true_and, if_true, if_false, Bool.false_eq_true, eq_self, not_true_eq_false, not_false_eq_true, lk_same, lk_same2, lk_k1, lk_k1r, lk_ldN, ne_eq, wk_size, wk_newS hz (show z.1 + 309 < z.1 + 310 by omega), wk_newS hz (show z.1 + 309 < z.1 + 311 by omega), wk_newS hz (show z.1 + 309 < z.1 + 312 by omega), wk_newS hz (show z.1 + 309 < z.1 + 313 by omega), wk_newS hz (show z.1 + 309 < z.1 + 314 by omega), wk_newS hz (show z.1 + 309 < z.1 + 315 by omega), wk_newS hz (show z.1 + 309 < z.1 + 316 by omega), wk_pfS hz h1 (show z.1 + 309 < z.1 + 311 by omega), wk_pfS hz h1 (show z.1 + 309 < z.1 + 312 by omega), wk_pfS hz h1 (show z.1 + 309 < z.1 + 313 by omega), wk_pfS hz h1 (show z.1 + 309 < z.1 + 314 by omega), wk_pfS hz h1 (show z.1 + 309 < z.1 + 315 by omega), wk_pfS hz h1 (show z.1 + 309 < z.1 + 316 by omega), wk_pfS hz h1 (show z.1 + 309 < z.1 + 317 by omega), arr_id (z := z) (o := 311) (n := 1192) (by omega) (by decide) rfl (by omega), arr_id (z := z) (o := 312) (n := 298) (by omega) (by decide) rfl (by omega), arr_id (z := z) (o := 313) (n := 298) (by omega) (by decide) rfl (by omega), arr_id (z := z) (o := 314) (n := 298) (by omega) (by decide) rfl (by omega), arr_id (z := z) (o := 315) (n := 60) (by omega) (by decide) rfl (by omega), arr_id (z := z) (o := 316) (n := 4) (by omega) (by decide) rfl (by omega), ef, wk_gf hz h1 (show z.1 + 309 < z.1 + 317 by omega) (f9 _), e9, wk_ap hz h10 (show z.1 + 310 < z.1 + 317 by omega) hup_same (show 10 ≤ 10 ∧ 10 ≤ 10 by decide) (show ain 6 298 = true by decide +kernel), wk_ap hz h10 (show z.1 + 310 < z.1 + 317 by omega) hup_same (show 10 ≤ 10 ∧ 10 ≤ 10 by decide) (show ain 7 298 = true by decide +kernel), hup_hup, show (6 : Int32).toNatClampNeg = 6 from by decide +kernel, show (7 : Int32).toNatClampNeg = 7 from by decide +kernel, eg]
end WC
