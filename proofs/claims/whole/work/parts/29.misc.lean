/-! the other cells: the class itself, history, text, reading, order; the model -/
theorem mcell_kind {F G : Nat → Int32} {p q : Nat → Nat} {a o : Nat} : (mcell F p a o).1 = (mcell G q a o).1 ∧ (mcell F p a o).2.1 = (mcell G q a o).2.1 := by
  by_cases h0 : o = 0
  · subst h0; exact ⟨rfl, rfl⟩
  by_cases h130 : o = 130
  · subst h130; exact ⟨rfl, rfl⟩
  by_cases h131 : o = 131
  · subst h131; exact ⟨rfl, rfl⟩
  by_cases h304 : o = 304
  · subst h304; exact ⟨rfl, rfl⟩
  by_cases h305 : o = 305
  · subst h305; exact ⟨rfl, rfl⟩
  by_cases h306 : o = 306
  · subst h306; exact ⟨rfl, rfl⟩
  by_cases h307 : o = 307
  · subst h307; exact ⟨rfl, rfl⟩
  by_cases h308 : o = 308
  · subst h308; exact ⟨rfl, rfl⟩
  by_cases h309 : o = 309
  · subst h309; exact ⟨rfl, rfl⟩
  by_cases h311 : o = 311
  · subst h311; exact ⟨rfl, rfl⟩
  by_cases h315 : o = 315
  · subst h315; exact ⟨rfl, rfl⟩
  by_cases h316 : o = 316
  · subst h316; exact ⟨rfl, rfl⟩
  unfold mcell
  simp only [h0, h130, h131, h304, h305, h306, h307, h308, h309, h311, h315, h316, if_false, and_self]
theorem ckey_mis {B y o : Nat} (hb : blk o = none) (h : B ≤ y) (hy : ckey B y = B + o) : y = B + o := by
  unfold ckey at hy
  split at hy
  next r hr =>
    exfalso
    unfold blk at hr
    split at hr
    · have e := Option.some.inj hr
      have e2 : (y - B - 1) % 43 ≤ y - B - 1 := Nat.mod_le _ _
      rw [e] at e2
      unfold blk at hb
      rw [if_pos (by omega)] at hb
      cases hb
    · split at hr
      · have e := Option.some.inj hr
        have e2 : (y - B - 132) % 43 ≤ y - B - 132 := Nat.mod_le _ _
        rw [e] at e2
        unfold blk at hb
        rw [if_neg (by omega), if_pos (by omega)] at hb
        cases hb
      · cases hr
  next => exact hy
section MS
variable {z : Zt} {M : Nat → Nat → Int32} {p : Nat → Nat}
theorem mis_cell {o : Nat} (hb : blk o = none) : ccell z.1 M p (z.1 + o) = mcell (M (z.1 + o)) p (z.1 + o) o := by
  unfold ccell
  rw [Nat.add_sub_cancel_left, hb]
theorem mis_key {o : Nat} (hb : blk o = none) : ckey z.1 (z.1 + o) = z.1 + o := by
  unfold ckey
  rw [Nat.add_sub_cancel_left, hb]
theorem gf_mis {o c k : Nat} {v : Value} (hz : zok z) (hb : blk o = none) (ho : o < 317) (hc : (mcell (M (z.1 + o)) p (z.1 + o) o).1 = c) (hv : (mcell (M (z.1 + o)) p (z.1 + o) o).2.2 k = v) : gf (wld z M p) (z.1 + o) c k = some v :=
  gf_wld hz (Nat.le_add_right _ _) (by omega) (by rw [mis_cell hb]; exact hc) (by rw [mis_cell hb]; exact hv)
theorem kd_mis {o c : Nat} (hz : zok z) (hb : blk o = none) (ho : o < 317) (hc : (mcell (M (z.1 + o)) p (z.1 + o) o).1 = c) : kd (wld z M p) (z.1 + o) = c :=
  kd_wld hz (Nat.le_add_right _ _) (by omega) (by rw [mis_cell hb]; exact hc)
theorem pf_mis {o c k : Nat} {v : Int32} (hz : zok z) (hb : blk o = none) (ho : o < 317) (hc : (mcell (M (z.1 + o)) p (z.1 + o) o).1 = c) (hu : updV (mcell (M (z.1 + o)) p (z.1 + o) o).2.2 k (.int v) = (mcell (fset (M (z.1 + o)) k v) p (z.1 + o) o).2.2) : pf (wld z M p) (z.1 + o) c k (.int v) = some (wld z (mput M (z.1 + o) (fset (M (z.1 + o)) k v)) p) := by
  refine pf_wld hz (Nat.le_add_right _ _) (by omega) (by rw [mis_cell hb]; exact hc) (mis_key hb) ?_ (fun y g1 g2 g3 g4 => absurd (ckey_mis hb g1 g4) g3)
  rw [mis_cell hb, mis_cell hb, mput_same, hu]
  exact Prod.ext mcell_kind.1 (Prod.ext mcell_kind.2 rfl)
theorem ag_mis {o lo hi n : Nat} {j : Nat} {v : Value} (hz : zok z) (hb : blk o = none) (ho : o < 317) (hc : lo ≤ (mcell (M (z.1 + o)) p (z.1 + o) o).1 ∧ (mcell (M (z.1 + o)) p (z.1 + o) o).1 ≤ hi) (hn : (mcell (M (z.1 + o)) p (z.1 + o) o).2.1 = n) (hj : j < n) (hn2 : n ≤ 2000) (hv : (mcell (M (z.1 + o)) p (z.1 + o) o).2.2 j = v) : ag (wld z M p) (z.1 + o) lo hi (nI j) = some v :=
  ag_wld (n := n) hz (Nat.le_add_right _ _) (by omega) (by rw [mis_cell hb]; exact hc) (by rw [mis_cell hb]; exact hn) (ain_nI hj hn2) (by rw [mis_cell hb, nI_cl hj hn2]; exact hv)
theorem ap_mis {o lo hi n : Nat} {j : Nat} {v : Int32} (hz : zok z) (hb : blk o = none) (ho : o < 317) (hc : lo ≤ (mcell (M (z.1 + o)) p (z.1 + o) o).1 ∧ (mcell (M (z.1 + o)) p (z.1 + o) o).1 ≤ hi) (hn : (mcell (M (z.1 + o)) p (z.1 + o) o).2.1 = n) (hj : j < n) (hn2 : n ≤ 2000) (hu : updV (mcell (M (z.1 + o)) p (z.1 + o) o).2.2 j (.int v) = (mcell (fset (M (z.1 + o)) j v) p (z.1 + o) o).2.2) : ap (wld z M p) (z.1 + o) lo hi (nI j) (.int v) = some (wld z (mput M (z.1 + o) (fset (M (z.1 + o)) j v)) p) := by
  have e := ap_wld (n := n) (i := nI j) (v := v) (lo := lo) (hi := hi) hz (Nat.le_add_right z.1 o) (by omega) (by rw [mis_cell hb]; exact hc) (by rw [mis_cell (M := M) (p := p) hb]; exact hn) (ain_nI hj hn2) (mis_key hb) (p := p) (M := M) ?_ (fun y g1 g2 g3 g4 => absurd (ckey_mis hb g1 g4) g3)
  · rw [nI_cl hj hn2] at e; exact e
  · rw [mis_cell hb, mis_cell hb, mput_same, nI_cl hj hn2, hu]
    exact Prod.ext mcell_kind.1 (Prod.ext mcell_kind.2 rfl)
theorem ai_of {w : Wd} {a : Nat} {j : Int32} {v : Value} (h : ag w a 10 10 j = some v) : ai w a j = some v := by
  unfold ai
  rw [h]
theorem g0_0 (hz : zok z) : gf (wld z M p) z.1 8 0 = some (.ref (z.1 + 1)) := gf_mis (o := 0) hz (by decide) (by decide) rfl rfl
theorem g0_1 (hz : zok z) : gf (wld z M p) z.1 8 1 = some (.ref (z.1 + 44)) := gf_mis (o := 0) hz (by decide) (by decide) rfl rfl
theorem g0_2 (hz : zok z) : gf (wld z M p) z.1 8 2 = some (.ref (z.1 + 87)) := gf_mis (o := 0) hz (by decide) (by decide) rfl rfl
theorem g0_3 (hz : zok z) : gf (wld z M p) z.1 8 3 = some (.ref (z.1 + 130)) := gf_mis (o := 0) hz (by decide) (by decide) rfl rfl
theorem g0_4 (hz : zok z) : gf (wld z M p) z.1 8 4 = some (.ref (z.1 + 304)) := gf_mis (o := 0) hz (by decide) (by decide) rfl rfl
theorem g0_5 (hz : zok z) : gf (wld z M p) z.1 8 5 = some (.ref (z.1 + 306)) := gf_mis (o := 0) hz (by decide) (by decide) rfl rfl
theorem g0_6 (hz : zok z) : gf (wld z M p) z.1 8 6 = some (.int (M z.1 6)) := gf_mis (o := 0) hz (by decide) (by decide) rfl rfl
theorem p0_6 (hz : zok z) {v : Int32} : pf (wld z M p) z.1 8 6 (.int v) = some (wld z (mput M z.1 (fset (M z.1) 6 v)) p) := by
  refine pf_mis (o := 0) hz (by decide) (by decide) rfl ?_
  funext i
  show (if i = 6 then Value.int v else (if i = 0 then Value.ref (z.1 + 0 + 1) else if i = 1 then Value.ref (z.1 + 0 + 44) else if i = 2 then Value.ref (z.1 + 0 + 87) else if i = 3 then Value.ref (z.1 + 0 + 130) else if i = 4 then Value.ref (z.1 + 0 + 304) else if i = 5 then Value.ref (z.1 + 0 + 306) else if i < 7 then Value.int (M (z.1 + 0) i) else Value.int 0)) = (if i = 0 then Value.ref (z.1 + 0 + 1) else if i = 1 then Value.ref (z.1 + 0 + 44) else if i = 2 then Value.ref (z.1 + 0 + 87) else if i = 3 then Value.ref (z.1 + 0 + 130) else if i = 4 then Value.ref (z.1 + 0 + 304) else if i = 5 then Value.ref (z.1 + 0 + 306) else if i < 7 then Value.int (if i = 6 then v else M (z.1 + 0) i) else Value.int 0)
  by_cases h : i = 6
  · subst h; rfl
  · simp only [h, if_false]
theorem k0 (hz : zok z) : kd (wld z M p) z.1 = 8 := kd_mis (o := 0) hz (by decide) (by decide) rfl
theorem g130_0 (hz : zok z) : gf (wld z M p) (z.1 + 130) 2 0 = some (.ref (z.1 + 131)) := gf_mis (o := 130) hz (by decide) (by decide) rfl rfl
theorem g130_1 (hz : zok z) : gf (wld z M p) (z.1 + 130) 2 1 = some (.int (M (z.1 + 130) 1)) := gf_mis (o := 130) hz (by decide) (by decide) rfl rfl
theorem p130_1 (hz : zok z) {v : Int32} : pf (wld z M p) (z.1 + 130) 2 1 (.int v) = some (wld z (mput M (z.1 + 130) (fset (M (z.1 + 130)) 1 v)) p) := by
  refine pf_mis (o := 130) hz (by decide) (by decide) rfl ?_
  funext i
  show (if i = 1 then Value.int v else (if i = 0 then Value.ref (z.1 + 130 + 1) else if i < 2 then Value.int (M (z.1 + 130) i) else Value.int 0)) = (if i = 0 then Value.ref (z.1 + 130 + 1) else if i < 2 then Value.int (if i = 1 then v else M (z.1 + 130) i) else Value.int 0)
  by_cases h : i = 1
  · subst h; rfl
  · simp only [h, if_false]
theorem k130 (hz : zok z) : kd (wld z M p) (z.1 + 130) = 2 := kd_mis (o := 130) hz (by decide) (by decide) rfl
theorem g304_0 (hz : zok z) : gf (wld z M p) (z.1 + 304) 7 0 = some (.ref (z.1 + 305)) := gf_mis (o := 304) hz (by decide) (by decide) rfl rfl
theorem g304_1 (hz : zok z) : gf (wld z M p) (z.1 + 304) 7 1 = some (.int (M (z.1 + 304) 1)) := gf_mis (o := 304) hz (by decide) (by decide) rfl rfl
theorem p304_1 (hz : zok z) {v : Int32} : pf (wld z M p) (z.1 + 304) 7 1 (.int v) = some (wld z (mput M (z.1 + 304) (fset (M (z.1 + 304)) 1 v)) p) := by
  refine pf_mis (o := 304) hz (by decide) (by decide) rfl ?_
  funext i
  show (if i = 1 then Value.int v else (if i = 0 then Value.ref (z.1 + 304 + 1) else if i < 2 then Value.int (M (z.1 + 304) i) else Value.int 0)) = (if i = 0 then Value.ref (z.1 + 304 + 1) else if i < 2 then Value.int (if i = 1 then v else M (z.1 + 304) i) else Value.int 0)
  by_cases h : i = 1
  · subst h; rfl
  · simp only [h, if_false]
theorem k304 (hz : zok z) : kd (wld z M p) (z.1 + 304) = 7 := kd_mis (o := 304) hz (by decide) (by decide) rfl
theorem g306_0 (hz : zok z) : gf (wld z M p) (z.1 + 306) 5 0 = some (.ref (z.1 + 307)) := gf_mis (o := 306) hz (by decide) (by decide) rfl rfl
theorem g306_1 (hz : zok z) : gf (wld z M p) (z.1 + 306) 5 1 = some (.int (M (z.1 + 306) 1)) := gf_mis (o := 306) hz (by decide) (by decide) rfl rfl
theorem p306_1 (hz : zok z) {v : Int32} : pf (wld z M p) (z.1 + 306) 5 1 (.int v) = some (wld z (mput M (z.1 + 306) (fset (M (z.1 + 306)) 1 v)) p) := by
  refine pf_mis (o := 306) hz (by decide) (by decide) rfl ?_
  funext i
  show (if i = 1 then Value.int v else (if i = 0 then Value.ref (z.1 + 306 + 1) else if i < 5 then Value.int (M (z.1 + 306) i) else Value.int 0)) = (if i = 0 then Value.ref (z.1 + 306 + 1) else if i < 5 then Value.int (if i = 1 then v else M (z.1 + 306) i) else Value.int 0)
  by_cases h : i = 1
  · subst h; rfl
  · simp only [h, if_false]
theorem g306_2 (hz : zok z) : gf (wld z M p) (z.1 + 306) 5 2 = some (.int (M (z.1 + 306) 2)) := gf_mis (o := 306) hz (by decide) (by decide) rfl rfl
theorem p306_2 (hz : zok z) {v : Int32} : pf (wld z M p) (z.1 + 306) 5 2 (.int v) = some (wld z (mput M (z.1 + 306) (fset (M (z.1 + 306)) 2 v)) p) := by
  refine pf_mis (o := 306) hz (by decide) (by decide) rfl ?_
  funext i
  show (if i = 2 then Value.int v else (if i = 0 then Value.ref (z.1 + 306 + 1) else if i < 5 then Value.int (M (z.1 + 306) i) else Value.int 0)) = (if i = 0 then Value.ref (z.1 + 306 + 1) else if i < 5 then Value.int (if i = 2 then v else M (z.1 + 306) i) else Value.int 0)
  by_cases h : i = 2
  · subst h; rfl
  · simp only [h, if_false]
theorem g306_3 (hz : zok z) : gf (wld z M p) (z.1 + 306) 5 3 = some (.int (M (z.1 + 306) 3)) := gf_mis (o := 306) hz (by decide) (by decide) rfl rfl
theorem p306_3 (hz : zok z) {v : Int32} : pf (wld z M p) (z.1 + 306) 5 3 (.int v) = some (wld z (mput M (z.1 + 306) (fset (M (z.1 + 306)) 3 v)) p) := by
  refine pf_mis (o := 306) hz (by decide) (by decide) rfl ?_
  funext i
  show (if i = 3 then Value.int v else (if i = 0 then Value.ref (z.1 + 306 + 1) else if i < 5 then Value.int (M (z.1 + 306) i) else Value.int 0)) = (if i = 0 then Value.ref (z.1 + 306 + 1) else if i < 5 then Value.int (if i = 3 then v else M (z.1 + 306) i) else Value.int 0)
  by_cases h : i = 3
  · subst h; rfl
  · simp only [h, if_false]
theorem g306_4 (hz : zok z) : gf (wld z M p) (z.1 + 306) 5 4 = some (.int (M (z.1 + 306) 4)) := gf_mis (o := 306) hz (by decide) (by decide) rfl rfl
theorem p306_4 (hz : zok z) {v : Int32} : pf (wld z M p) (z.1 + 306) 5 4 (.int v) = some (wld z (mput M (z.1 + 306) (fset (M (z.1 + 306)) 4 v)) p) := by
  refine pf_mis (o := 306) hz (by decide) (by decide) rfl ?_
  funext i
  show (if i = 4 then Value.int v else (if i = 0 then Value.ref (z.1 + 306 + 1) else if i < 5 then Value.int (M (z.1 + 306) i) else Value.int 0)) = (if i = 0 then Value.ref (z.1 + 306 + 1) else if i < 5 then Value.int (if i = 4 then v else M (z.1 + 306) i) else Value.int 0)
  by_cases h : i = 4
  · subst h; rfl
  · simp only [h, if_false]
theorem k306 (hz : zok z) : kd (wld z M p) (z.1 + 306) = 5 := kd_mis (o := 306) hz (by decide) (by decide) rfl
theorem g307_0 (hz : zok z) : gf (wld z M p) (z.1 + 307) 3 0 = some (.ref (z.1 + 308)) := gf_mis (o := 307) hz (by decide) (by decide) rfl rfl
theorem g307_1 (hz : zok z) : gf (wld z M p) (z.1 + 307) 3 1 = some (.int (M (z.1 + 307) 1)) := gf_mis (o := 307) hz (by decide) (by decide) rfl rfl
theorem p307_1 (hz : zok z) {v : Int32} : pf (wld z M p) (z.1 + 307) 3 1 (.int v) = some (wld z (mput M (z.1 + 307) (fset (M (z.1 + 307)) 1 v)) p) := by
  refine pf_mis (o := 307) hz (by decide) (by decide) rfl ?_
  funext i
  show (if i = 1 then Value.int v else (if i = 0 then Value.ref (z.1 + 307 + 1) else if i < 4 then Value.int (M (z.1 + 307) i) else Value.int 0)) = (if i = 0 then Value.ref (z.1 + 307 + 1) else if i < 4 then Value.int (if i = 1 then v else M (z.1 + 307) i) else Value.int 0)
  by_cases h : i = 1
  · subst h; rfl
  · simp only [h, if_false]
theorem g307_2 (hz : zok z) : gf (wld z M p) (z.1 + 307) 3 2 = some (.int (M (z.1 + 307) 2)) := gf_mis (o := 307) hz (by decide) (by decide) rfl rfl
theorem p307_2 (hz : zok z) {v : Int32} : pf (wld z M p) (z.1 + 307) 3 2 (.int v) = some (wld z (mput M (z.1 + 307) (fset (M (z.1 + 307)) 2 v)) p) := by
  refine pf_mis (o := 307) hz (by decide) (by decide) rfl ?_
  funext i
  show (if i = 2 then Value.int v else (if i = 0 then Value.ref (z.1 + 307 + 1) else if i < 4 then Value.int (M (z.1 + 307) i) else Value.int 0)) = (if i = 0 then Value.ref (z.1 + 307 + 1) else if i < 4 then Value.int (if i = 2 then v else M (z.1 + 307) i) else Value.int 0)
  by_cases h : i = 2
  · subst h; rfl
  · simp only [h, if_false]
theorem g307_3 (hz : zok z) : gf (wld z M p) (z.1 + 307) 3 3 = some (.int (M (z.1 + 307) 3)) := gf_mis (o := 307) hz (by decide) (by decide) rfl rfl
theorem p307_3 (hz : zok z) {v : Int32} : pf (wld z M p) (z.1 + 307) 3 3 (.int v) = some (wld z (mput M (z.1 + 307) (fset (M (z.1 + 307)) 3 v)) p) := by
  refine pf_mis (o := 307) hz (by decide) (by decide) rfl ?_
  funext i
  show (if i = 3 then Value.int v else (if i = 0 then Value.ref (z.1 + 307 + 1) else if i < 4 then Value.int (M (z.1 + 307) i) else Value.int 0)) = (if i = 0 then Value.ref (z.1 + 307 + 1) else if i < 4 then Value.int (if i = 3 then v else M (z.1 + 307) i) else Value.int 0)
  by_cases h : i = 3
  · subst h; rfl
  · simp only [h, if_false]
theorem k307 (hz : zok z) : kd (wld z M p) (z.1 + 307) = 3 := kd_mis (o := 307) hz (by decide) (by decide) rfl
theorem g309_0 (hz : zok z) : gf (wld z M p) (z.1 + 309) 9 0 = some (.ref (z.1 + 310)) := gf_mis (o := 309) hz (by decide) (by decide) rfl rfl
theorem g309_1 (hz : zok z) : gf (wld z M p) (z.1 + 309) 9 1 = some (.ref (z.1 + 311)) := gf_mis (o := 309) hz (by decide) (by decide) rfl rfl
theorem g309_2 (hz : zok z) : gf (wld z M p) (z.1 + 309) 9 2 = some (.ref (z.1 + 312)) := gf_mis (o := 309) hz (by decide) (by decide) rfl rfl
theorem g309_3 (hz : zok z) : gf (wld z M p) (z.1 + 309) 9 3 = some (.ref (z.1 + 313)) := gf_mis (o := 309) hz (by decide) (by decide) rfl rfl
theorem g309_4 (hz : zok z) : gf (wld z M p) (z.1 + 309) 9 4 = some (.ref (z.1 + 314)) := gf_mis (o := 309) hz (by decide) (by decide) rfl rfl
theorem g309_5 (hz : zok z) : gf (wld z M p) (z.1 + 309) 9 5 = some (.int (M (z.1 + 309) 5)) := gf_mis (o := 309) hz (by decide) (by decide) rfl rfl
theorem p309_5 (hz : zok z) {v : Int32} : pf (wld z M p) (z.1 + 309) 9 5 (.int v) = some (wld z (mput M (z.1 + 309) (fset (M (z.1 + 309)) 5 v)) p) := by
  refine pf_mis (o := 309) hz (by decide) (by decide) rfl ?_
  funext i
  show (if i = 5 then Value.int v else (if i = 0 then Value.ref (z.1 + 309 + 1) else if i = 1 then Value.ref (z.1 + 309 + 2) else if i = 2 then Value.ref (z.1 + 309 + 3) else if i = 3 then Value.ref (z.1 + 309 + 4) else if i = 4 then Value.ref (z.1 + 309 + 5) else if i = 8 then Value.ref (z.1 + 309 + 6) else if i = 17 then Value.ref (z.1 + 309 + 7) else if i < 18 then Value.int (M (z.1 + 309) i) else Value.null)) = (if i = 0 then Value.ref (z.1 + 309 + 1) else if i = 1 then Value.ref (z.1 + 309 + 2) else if i = 2 then Value.ref (z.1 + 309 + 3) else if i = 3 then Value.ref (z.1 + 309 + 4) else if i = 4 then Value.ref (z.1 + 309 + 5) else if i = 8 then Value.ref (z.1 + 309 + 6) else if i = 17 then Value.ref (z.1 + 309 + 7) else if i < 18 then Value.int (if i = 5 then v else M (z.1 + 309) i) else Value.null)
  by_cases h : i = 5
  · subst h; rfl
  · simp only [h, if_false]
theorem g309_6 (hz : zok z) : gf (wld z M p) (z.1 + 309) 9 6 = some (.int (M (z.1 + 309) 6)) := gf_mis (o := 309) hz (by decide) (by decide) rfl rfl
theorem p309_6 (hz : zok z) {v : Int32} : pf (wld z M p) (z.1 + 309) 9 6 (.int v) = some (wld z (mput M (z.1 + 309) (fset (M (z.1 + 309)) 6 v)) p) := by
  refine pf_mis (o := 309) hz (by decide) (by decide) rfl ?_
  funext i
  show (if i = 6 then Value.int v else (if i = 0 then Value.ref (z.1 + 309 + 1) else if i = 1 then Value.ref (z.1 + 309 + 2) else if i = 2 then Value.ref (z.1 + 309 + 3) else if i = 3 then Value.ref (z.1 + 309 + 4) else if i = 4 then Value.ref (z.1 + 309 + 5) else if i = 8 then Value.ref (z.1 + 309 + 6) else if i = 17 then Value.ref (z.1 + 309 + 7) else if i < 18 then Value.int (M (z.1 + 309) i) else Value.null)) = (if i = 0 then Value.ref (z.1 + 309 + 1) else if i = 1 then Value.ref (z.1 + 309 + 2) else if i = 2 then Value.ref (z.1 + 309 + 3) else if i = 3 then Value.ref (z.1 + 309 + 4) else if i = 4 then Value.ref (z.1 + 309 + 5) else if i = 8 then Value.ref (z.1 + 309 + 6) else if i = 17 then Value.ref (z.1 + 309 + 7) else if i < 18 then Value.int (if i = 6 then v else M (z.1 + 309) i) else Value.null)
  by_cases h : i = 6
  · subst h; rfl
  · simp only [h, if_false]
theorem g309_7 (hz : zok z) : gf (wld z M p) (z.1 + 309) 9 7 = some (.int (M (z.1 + 309) 7)) := gf_mis (o := 309) hz (by decide) (by decide) rfl rfl
theorem p309_7 (hz : zok z) {v : Int32} : pf (wld z M p) (z.1 + 309) 9 7 (.int v) = some (wld z (mput M (z.1 + 309) (fset (M (z.1 + 309)) 7 v)) p) := by
  refine pf_mis (o := 309) hz (by decide) (by decide) rfl ?_
  funext i
  show (if i = 7 then Value.int v else (if i = 0 then Value.ref (z.1 + 309 + 1) else if i = 1 then Value.ref (z.1 + 309 + 2) else if i = 2 then Value.ref (z.1 + 309 + 3) else if i = 3 then Value.ref (z.1 + 309 + 4) else if i = 4 then Value.ref (z.1 + 309 + 5) else if i = 8 then Value.ref (z.1 + 309 + 6) else if i = 17 then Value.ref (z.1 + 309 + 7) else if i < 18 then Value.int (M (z.1 + 309) i) else Value.null)) = (if i = 0 then Value.ref (z.1 + 309 + 1) else if i = 1 then Value.ref (z.1 + 309 + 2) else if i = 2 then Value.ref (z.1 + 309 + 3) else if i = 3 then Value.ref (z.1 + 309 + 4) else if i = 4 then Value.ref (z.1 + 309 + 5) else if i = 8 then Value.ref (z.1 + 309 + 6) else if i = 17 then Value.ref (z.1 + 309 + 7) else if i < 18 then Value.int (if i = 7 then v else M (z.1 + 309) i) else Value.null)
  by_cases h : i = 7
  · subst h; rfl
  · simp only [h, if_false]
theorem g309_8 (hz : zok z) : gf (wld z M p) (z.1 + 309) 9 8 = some (.ref (z.1 + 315)) := gf_mis (o := 309) hz (by decide) (by decide) rfl rfl
theorem g309_9 (hz : zok z) : gf (wld z M p) (z.1 + 309) 9 9 = some (.int (M (z.1 + 309) 9)) := gf_mis (o := 309) hz (by decide) (by decide) rfl rfl
theorem p309_9 (hz : zok z) {v : Int32} : pf (wld z M p) (z.1 + 309) 9 9 (.int v) = some (wld z (mput M (z.1 + 309) (fset (M (z.1 + 309)) 9 v)) p) := by
  refine pf_mis (o := 309) hz (by decide) (by decide) rfl ?_
  funext i
  show (if i = 9 then Value.int v else (if i = 0 then Value.ref (z.1 + 309 + 1) else if i = 1 then Value.ref (z.1 + 309 + 2) else if i = 2 then Value.ref (z.1 + 309 + 3) else if i = 3 then Value.ref (z.1 + 309 + 4) else if i = 4 then Value.ref (z.1 + 309 + 5) else if i = 8 then Value.ref (z.1 + 309 + 6) else if i = 17 then Value.ref (z.1 + 309 + 7) else if i < 18 then Value.int (M (z.1 + 309) i) else Value.null)) = (if i = 0 then Value.ref (z.1 + 309 + 1) else if i = 1 then Value.ref (z.1 + 309 + 2) else if i = 2 then Value.ref (z.1 + 309 + 3) else if i = 3 then Value.ref (z.1 + 309 + 4) else if i = 4 then Value.ref (z.1 + 309 + 5) else if i = 8 then Value.ref (z.1 + 309 + 6) else if i = 17 then Value.ref (z.1 + 309 + 7) else if i < 18 then Value.int (if i = 9 then v else M (z.1 + 309) i) else Value.null)
  by_cases h : i = 9
  · subst h; rfl
  · simp only [h, if_false]
theorem g309_10 (hz : zok z) : gf (wld z M p) (z.1 + 309) 9 10 = some (.int (M (z.1 + 309) 10)) := gf_mis (o := 309) hz (by decide) (by decide) rfl rfl
theorem p309_10 (hz : zok z) {v : Int32} : pf (wld z M p) (z.1 + 309) 9 10 (.int v) = some (wld z (mput M (z.1 + 309) (fset (M (z.1 + 309)) 10 v)) p) := by
  refine pf_mis (o := 309) hz (by decide) (by decide) rfl ?_
  funext i
  show (if i = 10 then Value.int v else (if i = 0 then Value.ref (z.1 + 309 + 1) else if i = 1 then Value.ref (z.1 + 309 + 2) else if i = 2 then Value.ref (z.1 + 309 + 3) else if i = 3 then Value.ref (z.1 + 309 + 4) else if i = 4 then Value.ref (z.1 + 309 + 5) else if i = 8 then Value.ref (z.1 + 309 + 6) else if i = 17 then Value.ref (z.1 + 309 + 7) else if i < 18 then Value.int (M (z.1 + 309) i) else Value.null)) = (if i = 0 then Value.ref (z.1 + 309 + 1) else if i = 1 then Value.ref (z.1 + 309 + 2) else if i = 2 then Value.ref (z.1 + 309 + 3) else if i = 3 then Value.ref (z.1 + 309 + 4) else if i = 4 then Value.ref (z.1 + 309 + 5) else if i = 8 then Value.ref (z.1 + 309 + 6) else if i = 17 then Value.ref (z.1 + 309 + 7) else if i < 18 then Value.int (if i = 10 then v else M (z.1 + 309) i) else Value.null)
  by_cases h : i = 10
  · subst h; rfl
  · simp only [h, if_false]
theorem g309_11 (hz : zok z) : gf (wld z M p) (z.1 + 309) 9 11 = some (.int (M (z.1 + 309) 11)) := gf_mis (o := 309) hz (by decide) (by decide) rfl rfl
theorem p309_11 (hz : zok z) {v : Int32} : pf (wld z M p) (z.1 + 309) 9 11 (.int v) = some (wld z (mput M (z.1 + 309) (fset (M (z.1 + 309)) 11 v)) p) := by
  refine pf_mis (o := 309) hz (by decide) (by decide) rfl ?_
  funext i
  show (if i = 11 then Value.int v else (if i = 0 then Value.ref (z.1 + 309 + 1) else if i = 1 then Value.ref (z.1 + 309 + 2) else if i = 2 then Value.ref (z.1 + 309 + 3) else if i = 3 then Value.ref (z.1 + 309 + 4) else if i = 4 then Value.ref (z.1 + 309 + 5) else if i = 8 then Value.ref (z.1 + 309 + 6) else if i = 17 then Value.ref (z.1 + 309 + 7) else if i < 18 then Value.int (M (z.1 + 309) i) else Value.null)) = (if i = 0 then Value.ref (z.1 + 309 + 1) else if i = 1 then Value.ref (z.1 + 309 + 2) else if i = 2 then Value.ref (z.1 + 309 + 3) else if i = 3 then Value.ref (z.1 + 309 + 4) else if i = 4 then Value.ref (z.1 + 309 + 5) else if i = 8 then Value.ref (z.1 + 309 + 6) else if i = 17 then Value.ref (z.1 + 309 + 7) else if i < 18 then Value.int (if i = 11 then v else M (z.1 + 309) i) else Value.null)
  by_cases h : i = 11
  · subst h; rfl
  · simp only [h, if_false]
theorem g309_12 (hz : zok z) : gf (wld z M p) (z.1 + 309) 9 12 = some (.int (M (z.1 + 309) 12)) := gf_mis (o := 309) hz (by decide) (by decide) rfl rfl
theorem p309_12 (hz : zok z) {v : Int32} : pf (wld z M p) (z.1 + 309) 9 12 (.int v) = some (wld z (mput M (z.1 + 309) (fset (M (z.1 + 309)) 12 v)) p) := by
  refine pf_mis (o := 309) hz (by decide) (by decide) rfl ?_
  funext i
  show (if i = 12 then Value.int v else (if i = 0 then Value.ref (z.1 + 309 + 1) else if i = 1 then Value.ref (z.1 + 309 + 2) else if i = 2 then Value.ref (z.1 + 309 + 3) else if i = 3 then Value.ref (z.1 + 309 + 4) else if i = 4 then Value.ref (z.1 + 309 + 5) else if i = 8 then Value.ref (z.1 + 309 + 6) else if i = 17 then Value.ref (z.1 + 309 + 7) else if i < 18 then Value.int (M (z.1 + 309) i) else Value.null)) = (if i = 0 then Value.ref (z.1 + 309 + 1) else if i = 1 then Value.ref (z.1 + 309 + 2) else if i = 2 then Value.ref (z.1 + 309 + 3) else if i = 3 then Value.ref (z.1 + 309 + 4) else if i = 4 then Value.ref (z.1 + 309 + 5) else if i = 8 then Value.ref (z.1 + 309 + 6) else if i = 17 then Value.ref (z.1 + 309 + 7) else if i < 18 then Value.int (if i = 12 then v else M (z.1 + 309) i) else Value.null)
  by_cases h : i = 12
  · subst h; rfl
  · simp only [h, if_false]
theorem g309_13 (hz : zok z) : gf (wld z M p) (z.1 + 309) 9 13 = some (.int (M (z.1 + 309) 13)) := gf_mis (o := 309) hz (by decide) (by decide) rfl rfl
theorem p309_13 (hz : zok z) {v : Int32} : pf (wld z M p) (z.1 + 309) 9 13 (.int v) = some (wld z (mput M (z.1 + 309) (fset (M (z.1 + 309)) 13 v)) p) := by
  refine pf_mis (o := 309) hz (by decide) (by decide) rfl ?_
  funext i
  show (if i = 13 then Value.int v else (if i = 0 then Value.ref (z.1 + 309 + 1) else if i = 1 then Value.ref (z.1 + 309 + 2) else if i = 2 then Value.ref (z.1 + 309 + 3) else if i = 3 then Value.ref (z.1 + 309 + 4) else if i = 4 then Value.ref (z.1 + 309 + 5) else if i = 8 then Value.ref (z.1 + 309 + 6) else if i = 17 then Value.ref (z.1 + 309 + 7) else if i < 18 then Value.int (M (z.1 + 309) i) else Value.null)) = (if i = 0 then Value.ref (z.1 + 309 + 1) else if i = 1 then Value.ref (z.1 + 309 + 2) else if i = 2 then Value.ref (z.1 + 309 + 3) else if i = 3 then Value.ref (z.1 + 309 + 4) else if i = 4 then Value.ref (z.1 + 309 + 5) else if i = 8 then Value.ref (z.1 + 309 + 6) else if i = 17 then Value.ref (z.1 + 309 + 7) else if i < 18 then Value.int (if i = 13 then v else M (z.1 + 309) i) else Value.null)
  by_cases h : i = 13
  · subst h; rfl
  · simp only [h, if_false]
theorem g309_14 (hz : zok z) : gf (wld z M p) (z.1 + 309) 9 14 = some (.int (M (z.1 + 309) 14)) := gf_mis (o := 309) hz (by decide) (by decide) rfl rfl
theorem p309_14 (hz : zok z) {v : Int32} : pf (wld z M p) (z.1 + 309) 9 14 (.int v) = some (wld z (mput M (z.1 + 309) (fset (M (z.1 + 309)) 14 v)) p) := by
  refine pf_mis (o := 309) hz (by decide) (by decide) rfl ?_
  funext i
  show (if i = 14 then Value.int v else (if i = 0 then Value.ref (z.1 + 309 + 1) else if i = 1 then Value.ref (z.1 + 309 + 2) else if i = 2 then Value.ref (z.1 + 309 + 3) else if i = 3 then Value.ref (z.1 + 309 + 4) else if i = 4 then Value.ref (z.1 + 309 + 5) else if i = 8 then Value.ref (z.1 + 309 + 6) else if i = 17 then Value.ref (z.1 + 309 + 7) else if i < 18 then Value.int (M (z.1 + 309) i) else Value.null)) = (if i = 0 then Value.ref (z.1 + 309 + 1) else if i = 1 then Value.ref (z.1 + 309 + 2) else if i = 2 then Value.ref (z.1 + 309 + 3) else if i = 3 then Value.ref (z.1 + 309 + 4) else if i = 4 then Value.ref (z.1 + 309 + 5) else if i = 8 then Value.ref (z.1 + 309 + 6) else if i = 17 then Value.ref (z.1 + 309 + 7) else if i < 18 then Value.int (if i = 14 then v else M (z.1 + 309) i) else Value.null)
  by_cases h : i = 14
  · subst h; rfl
  · simp only [h, if_false]
theorem g309_15 (hz : zok z) : gf (wld z M p) (z.1 + 309) 9 15 = some (.int (M (z.1 + 309) 15)) := gf_mis (o := 309) hz (by decide) (by decide) rfl rfl
theorem p309_15 (hz : zok z) {v : Int32} : pf (wld z M p) (z.1 + 309) 9 15 (.int v) = some (wld z (mput M (z.1 + 309) (fset (M (z.1 + 309)) 15 v)) p) := by
  refine pf_mis (o := 309) hz (by decide) (by decide) rfl ?_
  funext i
  show (if i = 15 then Value.int v else (if i = 0 then Value.ref (z.1 + 309 + 1) else if i = 1 then Value.ref (z.1 + 309 + 2) else if i = 2 then Value.ref (z.1 + 309 + 3) else if i = 3 then Value.ref (z.1 + 309 + 4) else if i = 4 then Value.ref (z.1 + 309 + 5) else if i = 8 then Value.ref (z.1 + 309 + 6) else if i = 17 then Value.ref (z.1 + 309 + 7) else if i < 18 then Value.int (M (z.1 + 309) i) else Value.null)) = (if i = 0 then Value.ref (z.1 + 309 + 1) else if i = 1 then Value.ref (z.1 + 309 + 2) else if i = 2 then Value.ref (z.1 + 309 + 3) else if i = 3 then Value.ref (z.1 + 309 + 4) else if i = 4 then Value.ref (z.1 + 309 + 5) else if i = 8 then Value.ref (z.1 + 309 + 6) else if i = 17 then Value.ref (z.1 + 309 + 7) else if i < 18 then Value.int (if i = 15 then v else M (z.1 + 309) i) else Value.null)
  by_cases h : i = 15
  · subst h; rfl
  · simp only [h, if_false]
theorem g309_16 (hz : zok z) : gf (wld z M p) (z.1 + 309) 9 16 = some (.int (M (z.1 + 309) 16)) := gf_mis (o := 309) hz (by decide) (by decide) rfl rfl
theorem p309_16 (hz : zok z) {v : Int32} : pf (wld z M p) (z.1 + 309) 9 16 (.int v) = some (wld z (mput M (z.1 + 309) (fset (M (z.1 + 309)) 16 v)) p) := by
  refine pf_mis (o := 309) hz (by decide) (by decide) rfl ?_
  funext i
  show (if i = 16 then Value.int v else (if i = 0 then Value.ref (z.1 + 309 + 1) else if i = 1 then Value.ref (z.1 + 309 + 2) else if i = 2 then Value.ref (z.1 + 309 + 3) else if i = 3 then Value.ref (z.1 + 309 + 4) else if i = 4 then Value.ref (z.1 + 309 + 5) else if i = 8 then Value.ref (z.1 + 309 + 6) else if i = 17 then Value.ref (z.1 + 309 + 7) else if i < 18 then Value.int (M (z.1 + 309) i) else Value.null)) = (if i = 0 then Value.ref (z.1 + 309 + 1) else if i = 1 then Value.ref (z.1 + 309 + 2) else if i = 2 then Value.ref (z.1 + 309 + 3) else if i = 3 then Value.ref (z.1 + 309 + 4) else if i = 4 then Value.ref (z.1 + 309 + 5) else if i = 8 then Value.ref (z.1 + 309 + 6) else if i = 17 then Value.ref (z.1 + 309 + 7) else if i < 18 then Value.int (if i = 16 then v else M (z.1 + 309) i) else Value.null)
  by_cases h : i = 16
  · subst h; rfl
  · simp only [h, if_false]
theorem g309_17 (hz : zok z) : gf (wld z M p) (z.1 + 309) 9 17 = some (.ref (z.1 + 316)) := gf_mis (o := 309) hz (by decide) (by decide) rfl rfl
theorem k309 (hz : zok z) : kd (wld z M p) (z.1 + 309) = 9 := kd_mis (o := 309) hz (by decide) (by decide) rfl
theorem a305 (hz : zok z) {j : Nat} (hj : j < 60) : ag (wld z M p) (z.1 + 305) 11 11 (nI j) = some (.int (M (z.1 + 305) j)) := ag_mis (o := 305) (lo := 11) (hi := 11) (n := 60) hz (by decide) (by decide) ⟨Nat.le_refl _, Nat.le_refl _⟩ rfl hj (by decide) (if_pos hj)
theorem s305 (hz : zok z) {j : Nat} (hj : j < 60) {v : Int32} : ap (wld z M p) (z.1 + 305) 11 11 (nI j) (.int v) = some (wld z (mput M (z.1 + 305) (fset (M (z.1 + 305)) j v)) p) := ap_mis (o := 305) (n := 60) hz (by decide) (by decide) ⟨Nat.le_refl _, Nat.le_refl _⟩ rfl hj (by decide) (upd_row (F := fun i => M (z.1 + 305) i) (G := fun i => fset (M (z.1 + 305)) j v i) hj (fun i _ h => fset_ne h) fset_same)
theorem a308 (hz : zok z) {j : Nat} (hj : j < 4) : ai (wld z M p) (z.1 + 308) (nI j) = some (.int (M (z.1 + 308) j)) := ai_of (ag_mis (o := 308) (lo := 10) (hi := 10) (n := 4) hz (by decide) (by decide) ⟨Nat.le_refl _, Nat.le_refl _⟩ rfl hj (by decide) (if_pos hj))
theorem s308 (hz : zok z) {j : Nat} (hj : j < 4) {v : Int32} : ap (wld z M p) (z.1 + 308) 10 10 (nI j) (.int v) = some (wld z (mput M (z.1 + 308) (fset (M (z.1 + 308)) j v)) p) := ap_mis (o := 308) (n := 4) hz (by decide) (by decide) ⟨Nat.le_refl _, Nat.le_refl _⟩ rfl hj (by decide) (upd_row (F := fun i => M (z.1 + 308) i) (G := fun i => fset (M (z.1 + 308)) j v i) hj (fun i _ h => fset_ne h) fset_same)
theorem a310 (hz : zok z) {j : Nat} (hj : j < 298) : ai (wld z M p) (z.1 + 310) (nI j) = some (.int (M (z.1 + 310) j)) := ai_of (ag_mis (o := 310) (lo := 10) (hi := 10) (n := 298) hz (by decide) (by decide) ⟨Nat.le_refl _, Nat.le_refl _⟩ rfl hj (by decide) (if_pos hj))
theorem s310 (hz : zok z) {j : Nat} (hj : j < 298) {v : Int32} : ap (wld z M p) (z.1 + 310) 10 10 (nI j) (.int v) = some (wld z (mput M (z.1 + 310) (fset (M (z.1 + 310)) j v)) p) := ap_mis (o := 310) (n := 298) hz (by decide) (by decide) ⟨Nat.le_refl _, Nat.le_refl _⟩ rfl hj (by decide) (upd_row (F := fun i => M (z.1 + 310) i) (G := fun i => fset (M (z.1 + 310)) j v i) hj (fun i _ h => fset_ne h) fset_same)
theorem a311 (hz : zok z) {j : Nat} (hj : j < 1192) : ai (wld z M p) (z.1 + 311) (nI j) = some (.int (M (z.1 + 311) j)) := ai_of (ag_mis (o := 311) (lo := 10) (hi := 10) (n := 1192) hz (by decide) (by decide) ⟨Nat.le_refl _, Nat.le_refl _⟩ rfl hj (by decide) (if_pos hj))
theorem s311 (hz : zok z) {j : Nat} (hj : j < 1192) {v : Int32} : ap (wld z M p) (z.1 + 311) 10 10 (nI j) (.int v) = some (wld z (mput M (z.1 + 311) (fset (M (z.1 + 311)) j v)) p) := ap_mis (o := 311) (n := 1192) hz (by decide) (by decide) ⟨Nat.le_refl _, Nat.le_refl _⟩ rfl hj (by decide) (upd_row (F := fun i => M (z.1 + 311) i) (G := fun i => fset (M (z.1 + 311)) j v i) hj (fun i _ h => fset_ne h) fset_same)
theorem a312 (hz : zok z) {j : Nat} (hj : j < 298) : ai (wld z M p) (z.1 + 312) (nI j) = some (.int (M (z.1 + 312) j)) := ai_of (ag_mis (o := 312) (lo := 10) (hi := 10) (n := 298) hz (by decide) (by decide) ⟨Nat.le_refl _, Nat.le_refl _⟩ rfl hj (by decide) (if_pos hj))
theorem s312 (hz : zok z) {j : Nat} (hj : j < 298) {v : Int32} : ap (wld z M p) (z.1 + 312) 10 10 (nI j) (.int v) = some (wld z (mput M (z.1 + 312) (fset (M (z.1 + 312)) j v)) p) := ap_mis (o := 312) (n := 298) hz (by decide) (by decide) ⟨Nat.le_refl _, Nat.le_refl _⟩ rfl hj (by decide) (upd_row (F := fun i => M (z.1 + 312) i) (G := fun i => fset (M (z.1 + 312)) j v i) hj (fun i _ h => fset_ne h) fset_same)
theorem a313 (hz : zok z) {j : Nat} (hj : j < 298) : ai (wld z M p) (z.1 + 313) (nI j) = some (.int (M (z.1 + 313) j)) := ai_of (ag_mis (o := 313) (lo := 10) (hi := 10) (n := 298) hz (by decide) (by decide) ⟨Nat.le_refl _, Nat.le_refl _⟩ rfl hj (by decide) (if_pos hj))
theorem s313 (hz : zok z) {j : Nat} (hj : j < 298) {v : Int32} : ap (wld z M p) (z.1 + 313) 10 10 (nI j) (.int v) = some (wld z (mput M (z.1 + 313) (fset (M (z.1 + 313)) j v)) p) := ap_mis (o := 313) (n := 298) hz (by decide) (by decide) ⟨Nat.le_refl _, Nat.le_refl _⟩ rfl hj (by decide) (upd_row (F := fun i => M (z.1 + 313) i) (G := fun i => fset (M (z.1 + 313)) j v i) hj (fun i _ h => fset_ne h) fset_same)
theorem a314 (hz : zok z) {j : Nat} (hj : j < 298) : ai (wld z M p) (z.1 + 314) (nI j) = some (.int (M (z.1 + 314) j)) := ai_of (ag_mis (o := 314) (lo := 10) (hi := 10) (n := 298) hz (by decide) (by decide) ⟨Nat.le_refl _, Nat.le_refl _⟩ rfl hj (by decide) (if_pos hj))
theorem s314 (hz : zok z) {j : Nat} (hj : j < 298) {v : Int32} : ap (wld z M p) (z.1 + 314) 10 10 (nI j) (.int v) = some (wld z (mput M (z.1 + 314) (fset (M (z.1 + 314)) j v)) p) := ap_mis (o := 314) (n := 298) hz (by decide) (by decide) ⟨Nat.le_refl _, Nat.le_refl _⟩ rfl hj (by decide) (upd_row (F := fun i => M (z.1 + 314) i) (G := fun i => fset (M (z.1 + 314)) j v i) hj (fun i _ h => fset_ne h) fset_same)
theorem a315 (hz : zok z) {j : Nat} (hj : j < 60) : ai (wld z M p) (z.1 + 315) (nI j) = some (.int (M (z.1 + 315) j)) := ai_of (ag_mis (o := 315) (lo := 10) (hi := 10) (n := 60) hz (by decide) (by decide) ⟨Nat.le_refl _, Nat.le_refl _⟩ rfl hj (by decide) (if_pos hj))
theorem s315 (hz : zok z) {j : Nat} (hj : j < 60) {v : Int32} : ap (wld z M p) (z.1 + 315) 10 10 (nI j) (.int v) = some (wld z (mput M (z.1 + 315) (fset (M (z.1 + 315)) j v)) p) := ap_mis (o := 315) (n := 60) hz (by decide) (by decide) ⟨Nat.le_refl _, Nat.le_refl _⟩ rfl hj (by decide) (upd_row (F := fun i => M (z.1 + 315) i) (G := fun i => fset (M (z.1 + 315)) j v i) hj (fun i _ h => fset_ne h) fset_same)
theorem a316 (hz : zok z) {j : Nat} (hj : j < 4) : ai (wld z M p) (z.1 + 316) (nI j) = some (.int (M (z.1 + 316) j)) := ai_of (ag_mis (o := 316) (lo := 10) (hi := 10) (n := 4) hz (by decide) (by decide) ⟨Nat.le_refl _, Nat.le_refl _⟩ rfl hj (by decide) (if_pos hj))
theorem s316 (hz : zok z) {j : Nat} (hj : j < 4) {v : Int32} : ap (wld z M p) (z.1 + 316) 10 10 (nI j) (.int v) = some (wld z (mput M (z.1 + 316) (fset (M (z.1 + 316)) j v)) p) := ap_mis (o := 316) (n := 4) hz (by decide) (by decide) ⟨Nat.le_refl _, Nat.le_refl _⟩ rfl hj (by decide) (upd_row (F := fun i => M (z.1 + 316) i) (G := fun i => fset (M (z.1 + 316)) j v i) hj (fun i _ h => fset_ne h) fset_same)
theorem a131 (hz : zok z) {j : Nat} (hj : j < 4) : ag (wld z M p) (z.1 + 131) 12 15 (nI j) = some (.ref (p j)) := ag_mis (o := 131) (n := 4) hz (by decide) (by decide) ⟨by show 12 ≤ 15; decide, by show 15 ≤ 15; decide⟩ rfl hj (by decide) (if_pos hj)
theorem k131 (hz : zok z) : kd (wld z M p) (z.1 + 131) = 15 := kd_mis (o := 131) hz (by decide) (by decide) rfl
theorem mcell_p {F : Nat → Int32} {p q : Nat → Nat} {a o : Nat} (h : o ≠ 131) : mcell F p a o = mcell F q a o := by
  unfold mcell
  simp only [h, if_false]
theorem s131 (hz : zok z) {j v : Nat} (hj : j < 4) : ap (wld z M p) (z.1 + 131) 12 15 (nI j) (.ref v) = some (wld z M (fun i => if i = j then v else p i)) := by
  unfold ap
  rw [wld_at hz (by omega) (by omega)]
  dsimp only
  have hc : 12 ≤ (ccell z.1 M p (z.1 + 131)).1 ∧ (ccell z.1 M p (z.1 + 131)).1 ≤ 15 := by
    rw [mis_cell (by decide)]; exact ⟨by show 12 ≤ 15; decide, by show 15 ≤ 15; decide⟩
  have hn : (ccell z.1 M p (z.1 + 131)).2.1 = 4 := by rw [mis_cell (by decide)]; rfl
  rw [hn, if_pos ⟨Nat.le_add_right _ _, hc.1, hc.2, ain_nI hj (by decide)⟩]
  congr 1
  refine wup_wld hz (by omega) (by omega) ?_ fun y g1 g2 g3 => ?_
  · rw [mis_cell (by decide), mis_cell (by decide), nI_cl hj (by decide)]
    refine Prod.ext rfl (Prod.ext rfl ?_)
    funext i
    show (if i = j then Value.ref v else (if i < 4 then Value.ref (p i) else Value.null)) = (if i < 4 then Value.ref (if i = j then v else p i) else Value.null)
    by_cases e : i = j
    · subst e; simp only [if_true, if_pos hj]
    · simp only [e, if_false]
  · unfold ccell
    split
    · rfl
    · exact mcell_p (by omega)
end MS
