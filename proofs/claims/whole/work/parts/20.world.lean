/-! the world of the two sides: every number in one memory, every reference fixed by where it stands -/
def fset (F : Nat → Int32) (j : Nat) (v : Int32) : Nat → Int32 := fun i => if i = j then v else F i
def mput (M : Nat → Nat → Int32) (x : Nat) (F : Nat → Int32) : Nat → Nat → Int32 := fun y => if y = x then F else M y
theorem fset_same {F : Nat → Int32} {j : Nat} {v : Int32} : fset F j v j = v := if_pos rfl
theorem fset_ne {F : Nat → Int32} {i j : Nat} {v : Int32} (h : i ≠ j) : fset F j v i = F i := if_neg h
theorem mput_same {M : Nat → Nat → Int32} {x : Nat} {F : Nat → Int32} : mput M x F x = F := if_pos rfl
theorem mput_ne {M : Nat → Nat → Int32} {x y : Nat} {F : Nat → Int32} (h : y ≠ x) : mput M x F y = M y := if_neg h
theorem mput_mput {M : Nat → Nat → Int32} {x : Nat} {F G : Nat → Int32} : mput (mput M x F) x G = mput M x G := by
  funext y
  simp only [mput]
  split <;> rfl
theorem mput_self {M : Nat → Nat → Int32} {x : Nat} : mput M x (M x) = M := by
  funext y
  simp only [mput]
  split
  · subst_vars; rfl
  · rfl
/-- the offset within a state's block, if an offset lies in one -/
def blk (o : Nat) : Option Nat := if 1 ≤ o ∧ o < 130 then some ((o - 1) % 43) else if 132 ≤ o ∧ o < 304 then some ((o - 132) % 43) else none
def iarr (n : Nat) (F : Nat → Int32) : Nat → Value := fun j => if j < n then .int (F j) else .int 0
/-- a cell of a state's block: F are the state's numbers, in the order of the model's row -/
def stcell (F : Nat → Int32) (a r : Nat) : HC :=
  if r = 0 then (6, 11, fun k => if k = 0 then .ref (a + 1) else if k = 1 then .ref (a + 2) else if k = 2 then .ref (a + 3) else if k < 11 then .int (F (k - 3)) else .int 0)
  else if r = 1 then (12, 5, fun j => if j < 5 then .ref (a + 3 + j) else .null)
  else if r = 2 then (13, 10, fun j => if j < 10 then .ref (a + 7 + j) else .null)
  else if r = 3 then (14, 24, fun j => if j < 24 then .ref (a + 16 + j) else .null)
  else if r < 9 then (1, 2, fun k => if k < 2 then .int (F (8 + 2 * (r - 4) + k)) else .int 0)
  else if r < 19 then (0, 4, fun k => if k < 4 then .int (F (18 + 4 * (r - 9) + k)) else .int 0)
  else (4, 10, fun k => if k < 10 then .int (F (58 + 10 * (r - 19) + k)) else .int 0)
/-- the other cells -/
def mcell (F : Nat → Int32) (p : Nat → Nat) (a o : Nat) : HC :=
  if o = 0 then (8, 7, fun k => if k = 0 then .ref (a + 1) else if k = 1 then .ref (a + 44) else if k = 2 then .ref (a + 87) else if k = 3 then .ref (a + 130) else if k = 4 then .ref (a + 304) else if k = 5 then .ref (a + 306) else if k < 7 then .int (F k) else .int 0)
  else if o = 130 then (2, 2, fun k => if k = 0 then .ref (a + 1) else if k < 2 then .int (F k) else .int 0)
  else if o = 131 then (15, 4, fun j => if j < 4 then .ref (p j) else .null)
  else if o = 304 then (7, 2, fun k => if k = 0 then .ref (a + 1) else if k < 2 then .int (F k) else .int 0)
  else if o = 305 then (11, 60, iarr 60 F)
  else if o = 306 then (5, 5, fun k => if k = 0 then .ref (a + 1) else if k < 5 then .int (F k) else .int 0)
  else if o = 307 then (3, 4, fun k => if k = 0 then .ref (a + 1) else if k < 4 then .int (F k) else .int 0)
  else if o = 308 then (10, 4, iarr 4 F)
  else if o = 309 then (9, 18, fun k => if k = 0 then .ref (a + 1) else if k = 1 then .ref (a + 2) else if k = 2 then .ref (a + 3) else if k = 3 then .ref (a + 4) else if k = 4 then .ref (a + 5) else if k = 8 then .ref (a + 6) else if k = 17 then .ref (a + 7) else if k < 18 then .int (F k) else .null)
  else if o = 311 then (10, 1192, iarr 1192 F)
  else if o = 315 then (10, 60, iarr 60 F)
  else if o = 316 then (10, 4, iarr 4 F)
  else (10, 298, iarr 298 F)
def ckey (B q : Nat) : Nat := match blk (q - B) with
  | some r => q - r
  | none => q
def ccell (B : Nat) (M : Nat → Nat → Int32) (p : Nat → Nat) (q : Nat) : HC := match blk (q - B) with
  | some r => stcell (M (q - r)) q r
  | none => mcell (M q) p q (q - B)
/-- the size of the heap ahead; the script's address, length, numbers -/
abbrev Zt : Type := Nat × Nat × Nat × (Nat → Int32)
def wld (z : Zt) (M : Nat → Nat → Int32) (p : Nat → Nat) : Wd := (z.1, z.1 + 317, 4934, fun q => if q = z.2.1 then some (16, z.2.2.1, fun j => .int (z.2.2.2 j)) else if z.1 ≤ q ∧ q < z.1 + 317 then some (ccell z.1 M p q) else none)
def zok (z : Zt) : Prop := z.2.1 < z.1
theorem wld_at {z : Zt} (hz : zok z) {M : Nat → Nat → Int32} {p : Nat → Nat} {q : Nat} (h1 : z.1 ≤ q) (h2 : q < z.1 + 317) : (wld z M p).2.2.2 q = some (ccell z.1 M p q) := by
  have h0 : z.2.1 < z.1 := hz
  show (if q = z.2.1 then _ else if _ then _ else _) = _
  rw [if_neg (by omega), if_pos ⟨h1, h2⟩]
theorem ccell_mput {B : Nat} {M : Nat → Nat → Int32} {p : Nat → Nat} {q x : Nat} {F : Nat → Int32} (h : ckey B q ≠ x) : ccell B (mput M x F) p q = ccell B M p q := by
  unfold ckey at h
  unfold ccell
  split at h
  next r hr => rw [mput_ne h]
  next hr => rw [mput_ne h]
/-- reading a field -/
theorem gf_wld {z : Zt} (hz : zok z) {M : Nat → Nat → Int32} {p : Nat → Nat} {q c k : Nat} {v : Value} (h1 : z.1 ≤ q) (h2 : q < z.1 + 317) (hc : (ccell z.1 M p q).1 = c) (hv : (ccell z.1 M p q).2.2 k = v) : gf (wld z M p) q c k = some v := by
  unfold gf
  rw [wld_at hz h1 h2]
  subst hc; subst hv
  exact if_pos rfl
theorem kd_wld {z : Zt} (hz : zok z) {M : Nat → Nat → Int32} {p : Nat → Nat} {q c : Nat} (h1 : z.1 ≤ q) (h2 : q < z.1 + 317) (hc : (ccell z.1 M p q).1 = c) : kd (wld z M p) q = c := by
  unfold kd
  rw [wld_at hz h1 h2]
  exact hc
theorem ag_wld {z : Zt} (hz : zok z) {M : Nat → Nat → Int32} {p : Nat → Nat} {q lo hi n : Nat} {j : Int32} {v : Value} (h1 : z.1 ≤ q) (h2 : q < z.1 + 317) (hc : lo ≤ (ccell z.1 M p q).1 ∧ (ccell z.1 M p q).1 ≤ hi) (hn : (ccell z.1 M p q).2.1 = n) (hj : ain j n = true) (hv : (ccell z.1 M p q).2.2 j.toNatClampNeg = v) : ag (wld z M p) q lo hi j = some v := by
  unfold ag
  rw [wld_at hz h1 h2]
  subst hn; subst hv
  exact if_pos ⟨hc.1, hc.2, hj⟩
theorem wup_wld {z : Zt} (hz : zok z) {M M' : Nat → Nat → Int32} {p p' : Nat → Nat} {q : Nat} {c : HC} (h1 : z.1 ≤ q) (h2 : q < z.1 + 317) (hc : c = ccell z.1 M' p' q) (hne : ∀ y, z.1 ≤ y → y < z.1 + 317 → y ≠ q → ccell z.1 M p y = ccell z.1 M' p' y) : wup (wld z M p) q c = wld z M' p' := by
  have h0 : z.2.1 < z.1 := hz
  unfold wup wld
  dsimp only
  congr 3
  funext y
  by_cases e : y = q
  · subst e
    rw [if_pos rfl, if_neg (by omega), if_pos ⟨h1, h2⟩, hc]
  · rw [if_neg e]
    by_cases e2 : y = z.2.1
    · rw [if_pos e2, if_pos e2]
    · rw [if_neg e2, if_neg e2]
      by_cases e3 : z.1 ≤ y ∧ y < z.1 + 317
      · rw [if_pos e3, if_pos e3, hne y e3.1 e3.2 e]
      · rw [if_neg e3, if_neg e3]
/-- writing a field: the memory's row is that of the cell's key, place j -/
theorem pf_wld {z : Zt} (hz : zok z) {M : Nat → Nat → Int32} {p : Nat → Nat} {q c k j x : Nat} {v : Int32} (h1 : z.1 ≤ q) (h2 : q < z.1 + 317) (hc : (ccell z.1 M p q).1 = c) (hx : ckey z.1 q = x)
    (hu : ((ccell z.1 M p q).1, (ccell z.1 M p q).2.1, updV (ccell z.1 M p q).2.2 k (.int v)) = ccell z.1 (mput M x (fset (M x) j v)) p q)
    (hne : ∀ y, z.1 ≤ y → y < z.1 + 317 → y ≠ q → ckey z.1 y = x → ccell z.1 M p y = ccell z.1 (mput M x (fset (M x) j v)) p y) : pf (wld z M p) q c k (.int v) = some (wld z (mput M x (fset (M x) j v)) p) := by
  unfold pf
  rw [wld_at hz h1 h2]
  dsimp only
  rw [if_pos ⟨h1, hc⟩]
  congr 1
  refine wup_wld hz h1 h2 hu fun y g1 g2 g3 => ?_
  by_cases e : ckey z.1 y = x
  · exact hne y g1 g2 g3 e
  · rw [ccell_mput e]
theorem ap_wld {z : Zt} (hz : zok z) {M : Nat → Nat → Int32} {p : Nat → Nat} {q lo hi n x : Nat} {i v : Int32} (h1 : z.1 ≤ q) (h2 : q < z.1 + 317) (hc : lo ≤ (ccell z.1 M p q).1 ∧ (ccell z.1 M p q).1 ≤ hi) (hn : (ccell z.1 M p q).2.1 = n) (hj : ain i n = true) (hx : ckey z.1 q = x)
    (hu : ((ccell z.1 M p q).1, (ccell z.1 M p q).2.1, updV (ccell z.1 M p q).2.2 i.toNatClampNeg (.int v)) = ccell z.1 (mput M x (fset (M x) i.toNatClampNeg v)) p q)
    (hne : ∀ y, z.1 ≤ y → y < z.1 + 317 → y ≠ q → ckey z.1 y = x → ccell z.1 M p y = ccell z.1 (mput M x (fset (M x) i.toNatClampNeg v)) p y) : ap (wld z M p) q lo hi i (.int v) = some (wld z (mput M x (fset (M x) i.toNatClampNeg v)) p) := by
  unfold ap
  rw [wld_at hz h1 h2]
  dsimp only
  subst hn
  rw [if_pos ⟨h1, hc.1, hc.2, hj⟩]
  congr 1
  refine wup_wld hz h1 h2 hu fun y g1 g2 g3 => ?_
  by_cases e : ckey z.1 y = x
  · exact hne y g1 g2 g3 e
  · rw [ccell_mput e]
/-! the states' blocks -/
/-- S is where a state begins -/
def isS (z : Zt) (S : Nat) : Prop := zok z ∧ (S = z.1 + 1 ∨ S = z.1 + 44 ∨ S = z.1 + 87 ∨ S = z.1 + 132 ∨ S = z.1 + 175 ∨ S = z.1 + 218 ∨ S = z.1 + 261)
def clA (S i : Nat) : Nat := S + (4 + i)
def chA (S i : Nat) : Nat := S + (9 + i)
def phA (S i : Nat) : Nat := S + (19 + i)
theorem isS_blk {z : Zt} {S r : Nat} (h : isS z S) (hr : r < 43) : z.1 ≤ S + r ∧ S + r < z.1 + 317 ∧ blk (S + r - z.1) = some r := by
  obtain ⟨-, h⟩ := h
  refine ⟨by omega, by omega, ?_⟩
  unfold blk
  rcases h with h | h | h | h | h | h | h
  · rw [if_pos (by omega)]; exact congrArg some (by omega)
  · rw [if_pos (by omega)]; exact congrArg some (by omega)
  · rw [if_pos (by omega)]; exact congrArg some (by omega)
  · rw [if_neg (by omega), if_pos (by omega)]; exact congrArg some (by omega)
  · rw [if_neg (by omega), if_pos (by omega)]; exact congrArg some (by omega)
  · rw [if_neg (by omega), if_pos (by omega)]; exact congrArg some (by omega)
  · rw [if_neg (by omega), if_pos (by omega)]; exact congrArg some (by omega)
theorem isS_cell {z : Zt} {S r : Nat} (h : isS z S) (hr : r < 43) (M : Nat → Nat → Int32) (p : Nat → Nat) : ccell z.1 M p (S + r) = stcell (M S) (S + r) r := by
  unfold ccell
  rw [(isS_blk h hr).2.2]
  dsimp only
  rw [Nat.add_sub_cancel]
theorem isS_key {z : Zt} {S r : Nat} (h : isS z S) (hr : r < 43) : ckey z.1 (S + r) = S := by
  unfold ckey
  rw [(isS_blk h hr).2.2]
  dsimp only
  rw [Nat.add_sub_cancel]
/-- whose key is S lies in S's block -/
theorem isS_in {z : Zt} {S y : Nat} (h : isS z S) (hy : ckey z.1 y = S) : ∃ r, r < 43 ∧ y = S + r := by
  unfold ckey at hy
  split at hy
  next r hr =>
    clear h
    unfold blk at hr
    split at hr
    · have e := Option.some.inj hr
      have e2 : (y - z.1 - 1) % 43 ≤ y - z.1 - 1 := Nat.mod_le _ _
      have e3 : (y - z.1 - 1) % 43 < 43 := Nat.mod_lt _ (by decide)
      rw [e] at e2 e3
      exact ⟨r, e3, by omega⟩
    · split at hr
      · have e := Option.some.inj hr
        have e2 : (y - z.1 - 132) % 43 ≤ y - z.1 - 132 := Nat.mod_le _ _
        have e3 : (y - z.1 - 132) % 43 < 43 := Nat.mod_lt _ (by decide)
        rw [e] at e2 e3
        exact ⟨r, e3, by omega⟩
      · cases hr
  next hr => exact ⟨0, by omega, by omega⟩
/-- the places of a state's row that a cell of its block shows -/
theorem stcell_other {F : Nat → Int32} {a r j : Nat} {v : Int32} (hr : r < 43) (h : ¬ (r = 0 ∧ j < 8)) (h1 : ¬ (4 ≤ r ∧ r < 9 ∧ 8 + 2 * (r - 4) ≤ j ∧ j < 8 + 2 * (r - 4) + 2)) (h2 : ¬ (9 ≤ r ∧ r < 19 ∧ 18 + 4 * (r - 9) ≤ j ∧ j < 18 + 4 * (r - 9) + 4)) (h3 : ¬ (19 ≤ r ∧ 58 + 10 * (r - 19) ≤ j ∧ j < 58 + 10 * (r - 19) + 10)) : stcell (fset F j v) a r = stcell F a r := by
  unfold stcell
  by_cases g0 : r = 0
  · subst g0
    rw [if_pos rfl, if_pos rfl]
    congr 2
    funext k
    by_cases e : k < 11
    · rw [if_pos e, if_pos e, fset_ne (by omega)]
    · rw [if_neg e, if_neg e]
  · rw [if_neg g0, if_neg g0]
    by_cases g1 : r = 1
    · rw [if_pos g1, if_pos g1]
    · rw [if_neg g1, if_neg g1]
      by_cases g2 : r = 2
      · rw [if_pos g2, if_pos g2]
      · rw [if_neg g2, if_neg g2]
        by_cases g3 : r = 3
        · rw [if_pos g3, if_pos g3]
        · rw [if_neg g3, if_neg g3]
          by_cases g4 : r < 9
          · rw [if_pos g4, if_pos g4]
            congr 2
            funext k
            by_cases e : k < 2
            · rw [if_pos e, if_pos e, fset_ne (by omega)]
            · rw [if_neg e, if_neg e]
          · rw [if_neg g4, if_neg g4]
            by_cases g5 : r < 19
            · rw [if_pos g5, if_pos g5]
              congr 2
              funext k
              by_cases e : k < 4
              · rw [if_pos e, if_pos e, fset_ne (by omega)]
              · rw [if_neg e, if_neg e]
            · rw [if_neg g5, if_neg g5]
              congr 2
              funext k
              by_cases e : k < 10
              · rw [if_pos e, if_pos e, fset_ne (by omega)]
              · rw [if_neg e, if_neg e]
/-- writing into a cell of a state's block: by the block's own offset -/
theorem pf_st {z : Zt} {S r c k j : Nat} {M : Nat → Nat → Int32} {p : Nat → Nat} {v : Int32} (h : isS z S) (hr : r < 43) (hc : (stcell (M S) (S + r) r).1 = c)
    (hu : ((stcell (M S) (S + r) r).1, (stcell (M S) (S + r) r).2.1, updV (stcell (M S) (S + r) r).2.2 k (.int v)) = stcell (fset (M S) j v) (S + r) r)
    (hj : (r = 0 ∧ j < 8) ∨ (4 ≤ r ∧ r < 9 ∧ 8 + 2 * (r - 4) ≤ j ∧ j < 8 + 2 * (r - 4) + 2) ∨ (9 ≤ r ∧ r < 19 ∧ 18 + 4 * (r - 9) ≤ j ∧ j < 18 + 4 * (r - 9) + 4) ∨ (19 ≤ r ∧ 58 + 10 * (r - 19) ≤ j ∧ j < 58 + 10 * (r - 19) + 10)) : pf (wld z M p) (S + r) c k (.int v) = some (wld z (mput M S (fset (M S) j v)) p) := by
  obtain ⟨a1, a2, -⟩ := isS_blk h hr
  refine pf_wld h.1 a1 a2 (by rw [isS_cell h hr]; exact hc) (isS_key h hr) (by rw [isS_cell h hr, isS_cell h hr, mput_same]; exact hu) fun y g1 g2 g3 g4 => ?_
  obtain ⟨r', hr', rfl⟩ := isS_in h g4
  rw [isS_cell h hr', isS_cell h hr', mput_same]
  have hrr : r' ≠ r := fun e => g3 (by rw [e])
  exact (stcell_other hr' (by omega) (by omega) (by omega) (by omega)).symm
theorem nI_cl {i n : Nat} (h : i < n) (hn : n ≤ 2000) : (nI i).toNatClampNeg = i := nI_clamp (by omega)
theorem ain_nI {i n : Nat} (h : i < n) (hn : n ≤ 2000) : ain (nI i) n = true := by
  have h1 : ¬ nI i < 0 := nI_pos (by omega)
  have h2 := nI_cl h hn
  simp [ain, h1, h2, h]
/-! reading and writing, cell by cell -/
section WST
variable {z : Zt} {S : Nat} {M : Nat → Nat → Int32} {p : Nat → Nat}
theorem g_st0 (h : isS z S) : gf (wld z M p) S 6 0 = some (.ref (S + 1)) := by
  obtain ⟨a1, a2, -⟩ := isS_blk (r := 0) h (by omega)
  exact gf_wld h.1 a1 a2 (by have := isS_cell (r := 0) h (by omega) M p; rw [Nat.add_zero] at this; rw [this]; rfl) (by have := isS_cell (r := 0) h (by omega) M p; rw [Nat.add_zero] at this; rw [this]; rfl)
theorem g_st1 (h : isS z S) : gf (wld z M p) S 6 1 = some (.ref (S + 2)) := by
  obtain ⟨a1, a2, -⟩ := isS_blk (r := 0) h (by omega)
  exact gf_wld h.1 a1 a2 (by have := isS_cell (r := 0) h (by omega) M p; rw [Nat.add_zero] at this; rw [this]; rfl) (by have := isS_cell (r := 0) h (by omega) M p; rw [Nat.add_zero] at this; rw [this]; rfl)
theorem g_st2 (h : isS z S) : gf (wld z M p) S 6 2 = some (.ref (S + 3)) := by
  obtain ⟨a1, a2, -⟩ := isS_blk (r := 0) h (by omega)
  exact gf_wld h.1 a1 a2 (by have := isS_cell (r := 0) h (by omega) M p; rw [Nat.add_zero] at this; rw [this]; rfl) (by have := isS_cell (r := 0) h (by omega) M p; rw [Nat.add_zero] at this; rw [this]; rfl)
theorem g_stk (h : isS z S) {k : Nat} (h3 : 3 ≤ k) (hk : k < 11) : gf (wld z M p) S 6 k = some (.int (M S (k - 3))) := by
  obtain ⟨a1, a2, -⟩ := isS_blk (r := 0) h (by omega)
  have e := isS_cell (r := 0) h (by omega) M p
  rw [Nat.add_zero] at e
  refine gf_wld h.1 a1 a2 (by rw [e]; rfl) ?_
  rw [e]
  show (if k = 0 then _ else if k = 1 then _ else if k = 2 then _ else if k < 11 then _ else _) = _
  rw [if_neg (by omega), if_neg (by omega), if_neg (by omega), if_pos hk]
theorem k_st (h : isS z S) : kd (wld z M p) S = 6 := by
  obtain ⟨a1, a2, -⟩ := isS_blk (r := 0) h (by omega)
  exact kd_wld h.1 a1 a2 (by have := isS_cell (r := 0) h (by omega) M p; rw [Nat.add_zero] at this; rw [this]; rfl)
theorem p_stk (h : isS z S) {k : Nat} {v : Int32} (h3 : 3 ≤ k) (hk : k < 11) : pf (wld z M p) S 6 k (.int v) = some (wld z (mput M S (fset (M S) (k - 3) v)) p) := by
  have := pf_st (r := 0) (c := 6) (k := k) (j := k - 3) (M := M) (p := p) (v := v) h (by omega) rfl ?_ (Or.inl ⟨rfl, by omega⟩)
  · rwa [Nat.add_zero] at this
  · unfold stcell
    rw [if_pos rfl, if_pos rfl]
    congr 2
    funext i
    unfold updV
    dsimp only
    by_cases e : i = k
    · subst e
      rw [if_pos rfl, if_neg (by omega), if_neg (by omega), if_neg (by omega), if_pos hk, fset_same]
    · rw [if_neg e]
      by_cases e3 : 3 ≤ i ∧ i < 11
      · rw [fset_ne (by omega)]
      · by_cases e4 : i < 3
        · rcases (show i = 0 ∨ i = 1 ∨ i = 2 by omega) with rfl | rfl | rfl <;> rfl
        · rw [if_neg (by omega), if_neg (by omega), if_neg (by omega), if_neg (by omega), if_neg (by omega), if_neg (by omega), if_neg (by omega), if_neg (by omega)]
theorem a_cl (h : isS z S) {i : Nat} (hi : i < 5) : ag (wld z M p) (S + 1) 12 15 (nI i) = some (.ref (clA S i)) := by
  obtain ⟨a1, a2, -⟩ := isS_blk (r := 1) h (by omega)
  have e := isS_cell (r := 1) h (by omega) M p
  refine ag_wld (n := 5) h.1 a1 a2 (by rw [e]; show 12 ≤ 12 ∧ 12 ≤ 15; decide) (by rw [e]; rfl) (ain_nI hi (by omega)) ?_
  rw [e, nI_cl hi (by omega)]
  exact (if_pos hi).trans (congrArg Value.ref (show S + 1 + 3 + i = S + (4 + i) by omega))
theorem a_ch (h : isS z S) {i : Nat} (hi : i < 10) : ag (wld z M p) (S + 2) 12 15 (nI i) = some (.ref (chA S i)) := by
  obtain ⟨a1, a2, -⟩ := isS_blk (r := 2) h (by omega)
  have e := isS_cell (r := 2) h (by omega) M p
  refine ag_wld (n := 10) h.1 a1 a2 (by rw [e]; show 12 ≤ 13 ∧ 13 ≤ 15; decide) (by rw [e]; rfl) (ain_nI hi (by omega)) ?_
  rw [e, nI_cl hi (by omega)]
  exact (if_pos hi).trans (congrArg Value.ref (show S + 2 + 7 + i = S + (9 + i) by omega))
theorem a_ph (h : isS z S) {i : Nat} (hi : i < 24) : ag (wld z M p) (S + 3) 12 15 (nI i) = some (.ref (phA S i)) := by
  obtain ⟨a1, a2, -⟩ := isS_blk (r := 3) h (by omega)
  have e := isS_cell (r := 3) h (by omega) M p
  refine ag_wld (n := 24) h.1 a1 a2 (by rw [e]; show 12 ≤ 14 ∧ 14 ≤ 15; decide) (by rw [e]; rfl) (ain_nI hi (by omega)) ?_
  rw [e, nI_cl hi (by omega)]
  exact (if_pos hi).trans (congrArg Value.ref (show S + 3 + 16 + i = S + (19 + i) by omega))
theorem st_cl {F : Nat → Int32} {a i : Nat} (hi : i < 5) : stcell F a (4 + i) = (1, 2, fun k => if k < 2 then .int (F (8 + 2 * i + k)) else .int 0) := by
  unfold stcell
  rw [if_neg (by omega), if_neg (by omega), if_neg (by omega), if_neg (by omega), if_pos (by omega), show 4 + i - 4 = i by omega]
theorem st_ch {F : Nat → Int32} {a i : Nat} (hi : i < 10) : stcell F a (9 + i) = (0, 4, fun k => if k < 4 then .int (F (18 + 4 * i + k)) else .int 0) := by
  unfold stcell
  rw [if_neg (by omega), if_neg (by omega), if_neg (by omega), if_neg (by omega), if_neg (by omega), if_pos (by omega), show 9 + i - 9 = i by omega]
theorem st_ph {F : Nat → Int32} {a i : Nat} (hi : i < 24) : stcell F a (19 + i) = (4, 10, fun k => if k < 10 then .int (F (58 + 10 * i + k)) else .int 0) := by
  unfold stcell
  rw [if_neg (by omega), if_neg (by omega), if_neg (by omega), if_neg (by omega), if_neg (by omega), if_neg (by omega), show 19 + i - 19 = i by omega]
theorem g_cl (h : isS z S) {i k : Nat} (hi : i < 5) (hk : k < 2) : gf (wld z M p) (clA S i) 1 k = some (.int (M S (8 + 2 * i + k))) := by
  unfold clA
  obtain ⟨a1, a2, -⟩ := isS_blk (r := 4 + i) h (by omega)
  have e := isS_cell (r := 4 + i) h (by omega) M p
  exact gf_wld h.1 a1 a2 (by rw [e, st_cl hi]) (by rw [e, st_cl hi]; exact if_pos hk)
theorem g_ch (h : isS z S) {i k : Nat} (hi : i < 10) (hk : k < 4) : gf (wld z M p) (chA S i) 0 k = some (.int (M S (18 + 4 * i + k))) := by
  unfold chA
  obtain ⟨a1, a2, -⟩ := isS_blk (r := 9 + i) h (by omega)
  have e := isS_cell (r := 9 + i) h (by omega) M p
  exact gf_wld h.1 a1 a2 (by rw [e, st_ch hi]) (by rw [e, st_ch hi]; exact if_pos hk)
theorem g_ph (h : isS z S) {i k : Nat} (hi : i < 24) (hk : k < 10) : gf (wld z M p) (phA S i) 4 k = some (.int (M S (58 + 10 * i + k))) := by
  unfold phA
  obtain ⟨a1, a2, -⟩ := isS_blk (r := 19 + i) h (by omega)
  have e := isS_cell (r := 19 + i) h (by omega) M p
  exact gf_wld h.1 a1 a2 (by rw [e, st_ph hi]) (by rw [e, st_ph hi]; exact if_pos hk)
theorem k_cl (h : isS z S) {i : Nat} (hi : i < 5) : kd (wld z M p) (clA S i) = 1 := by
  obtain ⟨a1, a2, -⟩ := isS_blk (r := 4 + i) h (by omega)
  exact kd_wld h.1 a1 a2 (by have e := isS_cell (r := 4 + i) h (by omega) M p; show (ccell z.1 M p (S + (4 + i))).1 = 1; rw [e, st_cl hi])
theorem k_ch (h : isS z S) {i : Nat} (hi : i < 10) : kd (wld z M p) (chA S i) = 0 := by
  obtain ⟨a1, a2, -⟩ := isS_blk (r := 9 + i) h (by omega)
  exact kd_wld h.1 a1 a2 (by have e := isS_cell (r := 9 + i) h (by omega) M p; show (ccell z.1 M p (S + (9 + i))).1 = 0; rw [e, st_ch hi])
theorem k_ph (h : isS z S) {i : Nat} (hi : i < 24) : kd (wld z M p) (phA S i) = 4 := by
  obtain ⟨a1, a2, -⟩ := isS_blk (r := 19 + i) h (by omega)
  exact kd_wld h.1 a1 a2 (by have e := isS_cell (r := 19 + i) h (by omega) M p; show (ccell z.1 M p (S + (19 + i))).1 = 4; rw [e, st_ph hi])
theorem upd_row {n k : Nat} {F G : Nat → Int32} {v : Int32} (hk : k < n) (h : ∀ i, i < n → i ≠ k → G i = F i) (hv : G k = v) : updV (fun i => if i < n then Value.int (F i) else .int 0) k (.int v) = fun i => if i < n then Value.int (G i) else .int 0 := by
  funext i
  unfold updV
  by_cases e : i = k
  · subst e; rw [if_pos rfl, if_pos hk, hv]
  · rw [if_neg e]
    by_cases e2 : i < n
    · simp only [if_pos e2, h i e2 e]
    · simp only [if_neg e2]
theorem p_cl (h : isS z S) {i k : Nat} {v : Int32} (hi : i < 5) (hk : k < 2) : pf (wld z M p) (clA S i) 1 k (.int v) = some (wld z (mput M S (fset (M S) (8 + 2 * i + k) v)) p) := by
  unfold clA
  refine pf_st (r := 4 + i) h (by omega) (by rw [st_cl hi]) ?_ (Or.inr (Or.inl ⟨by omega, by omega, by omega, by omega⟩))
  rw [st_cl hi, st_cl hi]
  exact congrArg (fun f => (1, 2, f)) (upd_row (F := fun k => M S (8 + 2 * i + k)) (G := fun k' => fset (M S) (8 + 2 * i + k) v (8 + 2 * i + k')) hk (fun j _ hj => fset_ne (by omega)) fset_same)
theorem p_ch (h : isS z S) {i k : Nat} {v : Int32} (hi : i < 10) (hk : k < 4) : pf (wld z M p) (chA S i) 0 k (.int v) = some (wld z (mput M S (fset (M S) (18 + 4 * i + k) v)) p) := by
  unfold chA
  refine pf_st (r := 9 + i) h (by omega) (by rw [st_ch hi]) ?_ (Or.inr (Or.inr (Or.inl ⟨by omega, by omega, by omega, by omega⟩)))
  rw [st_ch hi, st_ch hi]
  exact congrArg (fun f => (0, 4, f)) (upd_row (F := fun k => M S (18 + 4 * i + k)) (G := fun k' => fset (M S) (18 + 4 * i + k) v (18 + 4 * i + k')) hk (fun j _ hj => fset_ne (by omega)) fset_same)
theorem p_ph (h : isS z S) {i k : Nat} {v : Int32} (hi : i < 24) (hk : k < 10) : pf (wld z M p) (phA S i) 4 k (.int v) = some (wld z (mput M S (fset (M S) (58 + 10 * i + k) v)) p) := by
  unfold phA
  refine pf_st (r := 19 + i) h (by omega) (by rw [st_ph hi]) ?_ (Or.inr (Or.inr (Or.inr ⟨by omega, by omega, by omega⟩)))
  rw [st_ph hi, st_ph hi]
  exact congrArg (fun f => (4, 10, f)) (upd_row (F := fun k => M S (58 + 10 * i + k)) (G := fun k' => fset (M S) (58 + 10 * i + k) v (58 + 10 * i + k')) hk (fun j _ hj => fset_ne (by omega)) fset_same)
end WST
