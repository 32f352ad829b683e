/-! fields, arrays, new cells -/
theorem xLays (c : Nat) (h : c < 10) : ∀ w ∈ u_ws (xCN c) (xTC c) (xNF c), w ∈ wsG := by
  intro w hw
  obtain ⟨k, hk, rfl⟩ := List.mem_map.mp hw
  have hm : (c, k) ∈ xLL := List.mem_flatMap.mpr ⟨c, List.mem_range.mpr h, List.mem_map.mpr ⟨k, hk, rfl⟩⟩
  obtain ⟨b, hb⟩ := xZip_drop xLay_ok _ hm
  exact xAt_in hb
theorem xInst (c : Nat) (h : c < 10) : Cond.instantiable (xCN c) (xNF c) ∈ wsG := by
  obtain ⟨b, hb⟩ := xZip_drop xIns_ok c (List.mem_range.mpr h)
  exact xAt_in hb
def tyk (t : Nat) (ty : FieldType) : Prop := (t = 0 ∧ ty = .int) ∨ (t = 1 ∧ ty = .boolean) ∨ (t = 2 ∧ ((∃ n, ty = .object n) ∨ ∃ u, ty = .array u))
theorem fF_ok {c i ci k t : Nat} (h : fF c i = some (ci, k, t)) : ci < 10 ∧ k < xNF ci ∧ Cond.fieldLink (xCN c) i (xTC ci k).1 (xTC ci k).2.1 (xTC ci k).2.2.1 ∈ wsG ∧ (xTC ci k).1 = xCN ci ∧ tyk t (xTy ci k) := by
  unfold fF at h
  obtain ⟨q, hq, e⟩ := Option.map_eq_some_iff.mp h
  obtain ⟨h1, h2⟩ := xFind hq
  obtain ⟨c', i', ci', k', t'⟩ := q
  cases e
  simp only [Bool.and_eq_true, beq_iff_eq] at h2
  obtain ⟨rfl, rfl⟩ := h2
  obtain ⟨b, hb⟩ := xFT_all _ h1
  simp only [xFok, Bool.and_eq_true, decide_eq_true_eq] at hb
  obtain ⟨⟨⟨⟨a1, a2⟩, a3⟩, a4⟩, a5⟩ := hb
  refine ⟨a1, a2, xAt_in a3, a4, ?_⟩
  revert a5
  generalize xTy ci k = ty
  intro a5
  split at a5
  · exact Or.inl ⟨rfl, rfl⟩
  · exact Or.inr (Or.inl ⟨rfl, rfl⟩)
  · exact Or.inr (Or.inr ⟨rfl, Or.inl ⟨_, rfl⟩⟩)
  · exact Or.inr (Or.inr ⟨rfl, Or.inr ⟨_, rfl⟩⟩)
  · cases a5
theorem tck_ok {t : Nat} {ty : FieldType} {v : Value} (h : tck t v = true) (k : tyk t ty) : narrow ty v = v ∧ fits ty v = true := by
  rcases k with ⟨rfl, rfl⟩ | ⟨rfl, rfl⟩ | ⟨rfl, k⟩
  · cases v <;> simp [tck] at h
    exact ⟨rfl, rfl⟩
  · cases v <;> simp [tck] at h
    rcases h with rfl | rfl <;> exact ⟨by decide +kernel, by decide +kernel⟩
  · cases v <;> simp [tck] at h
    rcases k with ⟨n, rfl⟩ | ⟨u, rfl⟩ <;> exact ⟨rfl, rfl⟩
theorem xTys_at (cA : Nat → ClassId) {c : Nat} (h1 : 10 ≤ c) (h2 : c ≤ 15) : (xTys cA)[c - 10]? = some (cA c, xETy c) := by
  rcases (show c = 10 ∨ c = 11 ∨ c = 12 ∨ c = 13 ∨ c = 14 ∨ c = 15 by omega) with rfl | rfl | rfl | rfl | rfl | rfl <;> rfl
theorem ain_ok {j : Int32} {n : Nat} (h : ain j n = true) : ¬ j < 0 ∧ j.toNatClampNeg < n := by
  simpa [ain] using h
section SND2
variable {p : Program} {l : Launch} {e : Env} {R : Room} {s : State} {m : MethodId} {args : Array Value} {below : List Frame} {meth : Method} {c : Code} {Q : State → Prop} {D : va_G} {cA : Nat → ClassId} {sc : Cell} {f : xF} {o bz bu : Nat}
theorem so_getfield (C : Cx p s m args meth c D cA sc o) (n : Nat) : StOK p l e R s m args below meth c Q D cA sc f o bz bu (.getfield n) := by
  intro pc L st w c' len hd hk h
  obtain ⟨hx, hb, hml, hown, hts, hKK, hin⟩ := C
  dsimp only [stp1] at h
  dsimp only [okl] at hk
  replace hk := of_decide_eq_true hk
  dsimp only [iln] at hk
  subst hk
  cases hf : fF (xCl o) n with
  | none => rw [hf] at h; cases h
  | some q =>
    obtain ⟨ci, k, t⟩ := q
    rw [hf] at h
    dsimp only at h
    obtain ⟨a, r, e1, h9⟩ := sA_inv h
    clear h
    subst e1
    cases hg : gf w a ci k with
    | none => rw [hg] at h9; cases h9
    | some v =>
      rw [hg] at h9
      obtain rfl := nx_inv h9
      obtain ⟨hci, hk2, hl, hrf, -⟩ := fF_ok hf
      refine ⟨mo.rf, fun H locs cells slots ls G h1 h2 kk => ?_⟩
      unfold gf at hg
      split at hg
      next c' n' fn hc =>
        split at hg
        next hcc =>
          cases hg
          subst hcc
          rcases G.1.2 a _ hc with ⟨h10, cell, q1, q2, q3, q4⟩ | ⟨h10, -⟩ | ⟨h16, -⟩
          · obtain ⟨hS, hfc, kC, hkC, hkind⟩ := hKK.1.1 c' _ (xCls c' hci)
            obtain ⟨cf, kf, fi, fd, hi, hsl⟩ := hS k hk2
            refine W.getf hx hb hown (hts _ hl) hi (u_facts hfc hkC (u_lays hts (xLays c' hci) hk2) hi).1 q1 (by rw [q3]; exact fun z => by cases z) (v := fn k) ?_ rfl rfl hd (kk H locs cells slots ls G)
            rw [hsl]
            exact q4 k hk2
          · exact absurd hci (Nat.not_lt.mpr h10)
          · omega
        next => cases hg
      next => cases hg
theorem so_putfield (C : Cx p s m args meth c D cA sc o) (n : Nat) : StOK p l e R s m args below meth c Q D cA sc f o bz bu (.putfield n) := by
  intro pc L st w c' len hd hk h
  obtain ⟨hx, hb, hml, hown, hts, hKK, hin⟩ := C
  dsimp only [stp1] at h
  dsimp only [okl] at hk
  replace hk := of_decide_eq_true hk
  dsimp only [iln] at hk
  subst hk
  cases hf : fF (xCl o) n with
  | none => rw [hf] at h; cases h
  | some q =>
    obtain ⟨ci, k, t⟩ := q
    rw [hf] at h
    cases st with
    | nil => cases h
    | cons v st =>
    dsimp only at h
    obtain ⟨a, r, e1, h9⟩ := sA_inv h
    clear h
    subst e1
    split at h9
    next hcnd =>
      cases hg : pf w a ci k v with
      | none => rw [hg] at h9; cases h9
      | some w' =>
        rw [hg] at h9
        obtain rfl := nx_inv h9
        obtain ⟨hci, hk2, hl, hrf, hty⟩ := fF_ok hf
        obtain ⟨hn, hfit⟩ := tck_ok hcnd.1 hty
        unfold pf at hg
        split at hg
        next c' n' fn hc =>
          split at hg
          next hcc =>
            cases hg
            obtain ⟨hbase, hcc⟩ := hcc
            subst hcc
            refine ⟨⟨rfl, Nat.le_refl _, Nat.le_refl _⟩, fun H locs cells slots ls G h1 h2 kk => ?_⟩
            rcases G.1.2 a _ hc with ⟨h10, cell, q1, q2, q3, q4⟩ | ⟨h10, -⟩ | ⟨h16, -⟩
            · have hap := va_apart (own := xCN (xCl o)) hts (xLays c' hci) (xTy c') (xTyok c' hci) (xNm c' hci) hKK.1 (xCls c' hci)
              obtain ⟨hS, hfc, kC, hkC, hkind⟩ := hKK.1.1 c' _ (xCls c' hci)
              obtain ⟨cf, kf, fi, fd, hi, hsl⟩ := hS k hk2
              have hst := (u_facts hfc hkC (u_lays hts (xLays c' hci) hk2) hi).1
              have hlay := hts _ (xLays c' hci _ (u_in_lay hk2))
              have fin : ∀ H' : Heap, H'[a]? = some (cell.setSlot fd.slot v) → H'.size = H.size → (∀ q, q ≠ a → H'[q]? = H[q]?) → W p l e R s m args below meth c H' (locs ++ [⟨a, fd.slot⟩]) cells slots Q (F0 m (pc + 3) ls r) := by
                intro H' e1 e2 e3
                rw [hsl] at e1
                refine kk H' _ cells slots ls ⟨hw_up G.1 (Or.inl ⟨hci, _, e1, q2, q3, t_set q4 hap hk2 v⟩) e2 e3, G.2.1, fun q hq => ?_, G.2.2.2⟩
                rcases List.mem_append.mp hq with z | z
                · exact G.2.2.1 q z
                · rw [List.mem_singleton.mp z]; exact hbase
              unfold u_lay at hlay
              by_cases hfin : (xTC c' k).2.2.2 = true
              · rw [if_pos hfin] at hlay
                obtain ⟨hk3, hoc⟩ := hcnd.2 hfin
                have hcf : m.cls = cf := by
                  obtain ⟨_, _, c2, _, _, _, -, -, hf', -, -, -, hown2, -⟩ := Cond.laysFinal_spec hlay
                  have e1 : c2 = cf := by have := hi.symm.trans hf'; simp at this; exact this.1.symm
                  rw [hrf, ← hoc] at hown2
                  rw [← e1]; exact Option.some.inj (hown.symm.trans hown2)
                have h6 := u_fits hfc hkC hkind (Or.inr hlay) hi (xTyok c' hci k hk2) hn hfit
                exact W.putFinK hx hb hown (hts _ hl) hi hst hcf (hin hk3) (by rw [q2]; exact h6) q1 q3 (by rw [hsl]; exact k2_hasslot (q4 k hk2)) rfl rfl hd fin
              · rw [if_neg hfin] at hlay
                have h6 := u_store hfc hkC hkind hlay hi (xTyok c' hci k hk2) hn hfit
                exact W.putK hx hb (f := fd) ⟨hown, hts _ hl, ⟨_, _, _, hi⟩, hst⟩ (by rw [q2]; exact h6) q1 q3 (by rw [hsl]; exact k2_hasslot (q4 k hk2)) rfl rfl hd fin
            · exact absurd hci (Nat.not_lt.mpr h10)
            · omega
          next => cases hg
        next => cases hg
    next => cases h9
theorem ag_ok {w : Wd} {a lo hi : Nat} {j : Int32} {v : Value} (h : ag w a lo hi j = some v) (h10 : 10 ≤ lo) (h15 : hi ≤ 15) (hK : KK D cA sc s) {H : Heap} (hH : hw D cA sc w H) :
    ∃ (k n : Nat) (fn : Nat → Value), lo ≤ k ∧ k ≤ hi ∧ H[a]? = some (arrV (cA k) n fn) ∧ ¬ j < 0 ∧ j.toNatClampNeg < n ∧ v = fn j.toNatClampNeg ∧ ArrOfT s (cA k) (xETy k) := by
  unfold ag at h
  split at h
  next k n fn hc =>
    split at h
    next hcc =>
      cases h
      obtain ⟨a1, a2⟩ := ain_ok hcc.2.2
      rcases hH.2 a _ hc with ⟨z, -⟩ | ⟨z1, z2, z3⟩ | ⟨z1, z2, z3⟩
      · exact absurd (Nat.lt_of_lt_of_le z (Nat.le_trans h10 hcc.1)) (Nat.lt_irrefl _)
      · exact ⟨k, n, fn, hcc.1, hcc.2.1, z3, a1, a2, rfl, (hK.1.2 _ _ (xTys_at cA z1 z2)).1⟩
      · have z9 : k = 16 := z1
        omega
    next => cases h
  next => cases h
theorem so_iaload (C : Cx p s m args meth c D cA sc o) : StOK p l e R s m args below meth c Q D cA sc f o bz bu .iaload := by
  intro pc L st w c' len hd hk h
  obtain ⟨hx, hb, hml, hown, hts, hKK, hin⟩ := C
  dsimp only [stp1] at h
  dsimp only [okl] at hk
  replace hk := of_decide_eq_true hk
  dsimp only [iln] at hk
  subst hk
  obtain ⟨j, r, e1, h9⟩ := sI_inv h
  clear h
  subst e1
  obtain ⟨a, r, e1, h8⟩ := sA_inv h9
  clear h9
  subst e1
  cases hg : ag w a 10 10 j with
  | none =>
    rw [hg] at h8
    dsimp only at h8
    cases hg2 : ag w a 16 16 j with
    | none => rw [hg2] at h8; cases h8
    | some v =>
      rw [hg2] at h8
      obtain rfl := nx_inv h8
      refine ⟨mo.rf, fun H locs cells slots ls G h1 h2 kk => ?_⟩
      unfold ag at hg2
      split at hg2
      next k n fn hc =>
        split at hg2
        next hcc =>
          cases hg2
          obtain ⟨a1, a2⟩ := ain_ok hcc.2.2
          rcases G.1.2 a _ hc with ⟨z, -⟩ | ⟨z1, z2, z3⟩ | ⟨z1, z2, z3, z4⟩
          · have z9 : k < 10 := z
            omega
          · have z9 : k ≤ 15 := z2
            omega
          · exact W.iald hx hb z2 hKK.2.2.1 hKK.2.2.2 (by rw [z3]; rintro (z | z); exact a1 z; exact absurd a2 (Nat.not_lt.mpr z)) (z4 _ a2) rfl rfl hd (kk H locs cells slots ls G)
        next => cases hg2
      next => cases hg2
  | some v =>
    rw [hg] at h8
    obtain rfl := nx_inv h8
    refine ⟨mo.rf, fun H locs cells slots ls G h1 h2 kk => ?_⟩
    obtain ⟨k, n, fn, z1, z2, hc, a1, a2, rfl, hA⟩ := ag_ok hg (by decide) (by decide) hKK G.1
    obtain rfl : k = 10 := by omega
    exact W.iald hx hb hc (hA n fn) (fun q => by cases q) (by rw [arrV_size]; rintro (z | z); exact a1 z; omega) (by rw [arrV_read _ _ a2]) rfl rfl hd (kk H locs cells slots ls G)
theorem so_caload (C : Cx p s m args meth c D cA sc o) : StOK p l e R s m args below meth c Q D cA sc f o bz bu .caload := by
  intro pc L st w c' len hd hk h
  obtain ⟨hx, hb, hml, hown, hts, hKK, hin⟩ := C
  dsimp only [stp1] at h
  dsimp only [okl] at hk
  replace hk := of_decide_eq_true hk
  dsimp only [iln] at hk
  subst hk
  obtain ⟨j, r, e1, h9⟩ := sI_inv h
  clear h
  subst e1
  obtain ⟨a, r, e1, h8⟩ := sA_inv h9
  clear h9
  subst e1
  cases hg : ag w a 11 11 j with
  | none => rw [hg] at h8; cases h8
  | some v =>
    rw [hg] at h8
    obtain rfl := nx_inv h8
    refine ⟨mo.rf, fun H locs cells slots ls G h1 h2 kk => ?_⟩
    obtain ⟨k, n, fn, z1, z2, hc, a1, a2, rfl, hA⟩ := ag_ok hg (by decide) (by decide) hKK G.1
    obtain rfl : k = 11 := by omega
    exact W.cald hx hb hc (hA n fn) (fun q => by cases q) (by rw [arrV_size]; rintro (z | z); exact a1 z; omega) (by rw [arrV_read _ _ a2]) rfl rfl hd (kk H locs cells slots ls G)
theorem so_aaload (C : Cx p s m args meth c D cA sc o) : StOK p l e R s m args below meth c Q D cA sc f o bz bu .aaload := by
  intro pc L st w c' len hd hk h
  obtain ⟨hx, hb, hml, hown, hts, hKK, hin⟩ := C
  dsimp only [stp1] at h
  dsimp only [okl] at hk
  replace hk := of_decide_eq_true hk
  dsimp only [iln] at hk
  subst hk
  obtain ⟨j, r, e1, h9⟩ := sI_inv h
  clear h
  subst e1
  obtain ⟨a, r, e1, h8⟩ := sA_inv h9
  clear h9
  subst e1
  cases hg : ag w a 12 15 j with
  | none => rw [hg] at h8; cases h8
  | some v =>
    rw [hg] at h8
    obtain rfl := nx_inv h8
    refine ⟨mo.rf, fun H locs cells slots ls G h1 h2 kk => ?_⟩
    obtain ⟨k, n, fn, z1, z2, hc, a1, a2, rfl, hA⟩ := ag_ok hg (by decide) (by decide) hKK G.1
    have hr : (xETy k).isReference = true := by
      rcases (show k = 12 ∨ k = 13 ∨ k = 14 ∨ k = 15 by omega) with rfl | rfl | rfl | rfl <;> rfl
    exact W.aald hx hb hc (hA n fn) hr (fun q => by cases q) (by rw [arrV_size]; rintro (z | z); exact a1 z; omega) (by rw [arrV_read _ _ a2]) rfl rfl hd (kk H locs cells slots ls G)
theorem so_arraylength (C : Cx p s m args meth c D cA sc o) : StOK p l e R s m args below meth c Q D cA sc f o bz bu .arraylength := by
  intro pc L st w c' len hd hk h
  obtain ⟨hx, hb, hml, hown, hts, hKK, hin⟩ := C
  dsimp only [stp1] at h
  dsimp only [okl] at hk
  replace hk := of_decide_eq_true hk
  dsimp only [iln] at hk
  subst hk
  obtain ⟨a, r, e1, h8⟩ := sA_inv h
  clear h
  subst e1
  cases hg : al w a with
  | none => rw [hg] at h8; cases h8
  | some v =>
    rw [hg] at h8
    obtain rfl := nx_inv h8
    refine ⟨mo.rf, fun H locs cells slots ls G h1 h2 kk => ?_⟩
    unfold al at hg
    split at hg
    next k n fn hc =>
      split at hg
      next hcc =>
        cases hg
        rcases G.1.2 a _ hc with ⟨z, -⟩ | ⟨z1, z2, z3⟩ | ⟨z1, z2, z3⟩
        · exact absurd (Nat.lt_of_lt_of_le z hcc.1) (Nat.lt_irrefl _)
        · exact W.alen hx hb z3 ((hKK.1.2 _ _ (xTys_at cA z1 z2)).1 n fn) (by rw [arrV_size]) rfl rfl hd (kk H locs cells slots ls G)
        · exact W.alen hx hb z2 hKK.2.2.1 (by rw [z3.1]) rfl rfl hd (kk H locs cells slots ls G)
      next => cases hg
    next => cases hg
theorem ap_ok {w w' : Wd} {a lo hi : Nat} {j : Int32} {v : Value} (h : ap w a lo hi j v = some w') (h10 : 10 ≤ lo) (h15 : hi ≤ 15) :
    mo w w' ∧ w'.1 = w.1 ∧ w'.2.1 = w.2.1 ∧ w'.2.2.1 = w.2.2.1 ∧ w.1 ≤ a ∧ ∃ (k n : Nat) (fn : Nat → Value), lo ≤ k ∧ k ≤ hi ∧ w.2.2.2 a = some (k, n, fn) ∧ ¬ j < 0 ∧ j.toNatClampNeg < n ∧ w' = wup w a (k, n, updV fn j.toNatClampNeg v) := by
  unfold ap at h
  split at h
  next k n fn hc =>
    split at h
    next hcc =>
      cases h
      obtain ⟨a1, a2⟩ := ain_ok hcc.2.2.2
      exact ⟨⟨rfl, Nat.le_refl _, Nat.le_refl _⟩, rfl, rfl, rfl, hcc.1, k, n, fn, hcc.2.1, hcc.2.2.1, hc, a1, a2, rfl⟩
    next => cases h
  next => cases h
theorem hw_arr {w : Wd} {H H' : Heap} {a k n i : Nat} {fn : Nat → Value} {v : Value} (hH : hw D cA sc w H) (h10 : 10 ≤ k ∧ k ≤ 15) (hc : w.2.2.2 a = some (k, n, fn)) (e1 : H'[a]? = some ((arrV (cA k) n fn).setSlot i v)) (e2 : H'.size = H.size) (e3 : ∀ q, q ≠ a → H'[q]? = H[q]?) : hw D cA sc (wup w a (k, n, updV fn i v)) H' := by
  rcases hH.2 a _ hc with ⟨z, -⟩ | ⟨z1, z2, z3⟩ | ⟨z1, z2, z3⟩
  · exact absurd (Nat.lt_of_lt_of_le z h10.1) (Nat.lt_irrefl _)
  · exact hw_up hH (Or.inr (Or.inl ⟨z1, z2, by rw [e1, arrV_store]⟩)) e2 e3
  · have z9 : k = 16 := z1
    omega
theorem locs_add {b a i : Nat} {locs : List Loc} (h : ∀ q ∈ locs, b ≤ q.base) (ha : b ≤ a) : ∀ q ∈ locs ++ [⟨a, i⟩], b ≤ q.base := by
  intro q hq
  rcases List.mem_append.mp hq with z | z
  · exact h q z
  · rw [List.mem_singleton.mp z]; exact ha
theorem hw_at {w : Wd} {H : Heap} {a k n : Nat} {fn : Nat → Value} (hH : hw D cA sc w H) (h10 : 10 ≤ k ∧ k ≤ 15) (hc : w.2.2.2 a = some (k, n, fn)) : H[a]? = some (arrV (cA k) n fn) := by
  rcases hH.2 a _ hc with ⟨z, -⟩ | ⟨z1, z2, z3⟩ | ⟨z1, z2, z3⟩
  · exact absurd (Nat.lt_of_lt_of_le z h10.1) (Nat.lt_irrefl _)
  · exact z3
  · have z9 : k = 16 := z1
    omega
theorem so_iastore (C : Cx p s m args meth c D cA sc o) : StOK p l e R s m args below meth c Q D cA sc f o bz bu .iastore := by
  intro pc L st w c' len hd hk h
  obtain ⟨hx, hb, hml, hown, hts, hKK, hin⟩ := C
  dsimp only [stp1] at h
  dsimp only [okl] at hk
  replace hk := of_decide_eq_true hk
  dsimp only [iln] at hk
  subst hk
  obtain ⟨x, r, e1, h9⟩ := sI_inv h
  clear h
  subst e1
  obtain ⟨j, r, e1, h8⟩ := sI_inv h9
  clear h9
  subst e1
  obtain ⟨a, r, e1, h7⟩ := sA_inv h8
  clear h8
  subst e1
  cases hg : ap w a 10 10 j (.int x) with
  | none => rw [hg] at h7; cases h7
  | some w' =>
    rw [hg] at h7
    obtain rfl := nx_inv h7
    obtain ⟨hm, b1, b2, b3, hba, k, n, fn, z1, z2, hc, a1, a2, rfl⟩ := ap_ok hg (by decide) (by decide)
    obtain rfl : k = 10 := by omega
    refine ⟨hm, fun H locs cells slots ls G h1 h2 kk => ?_⟩
    have hcell := hw_at G.1 ⟨by decide, by decide⟩ hc
    refine W.iast hx hb hcell ((hKK.1.2 _ _ (xTys_at cA (c := 10) (by decide) (by decide))).1 n fn) (fun q => by cases q) (by rw [arrV_size]; rintro (z | z); exact a1 z; omega) rfl rfl hd (fun H' e1 e2 e3 => ?_)
    exact kk H' _ cells slots ls ⟨hw_arr G.1 ⟨by decide, by decide⟩ hc e1 e2 e3, G.2.1, locs_add G.2.2.1 hba, G.2.2.2⟩
theorem so_castore (C : Cx p s m args meth c D cA sc o) : StOK p l e R s m args below meth c Q D cA sc f o bz bu .castore := by
  intro pc L st w c' len hd hk h
  obtain ⟨hx, hb, hml, hown, hts, hKK, hin⟩ := C
  dsimp only [stp1] at h
  dsimp only [okl] at hk
  replace hk := of_decide_eq_true hk
  dsimp only [iln] at hk
  subst hk
  obtain ⟨x, r, e1, h9⟩ := sI_inv h
  clear h
  subst e1
  obtain ⟨j, r, e1, h8⟩ := sI_inv h9
  clear h9
  subst e1
  obtain ⟨a, r, e1, h7⟩ := sA_inv h8
  clear h8
  subst e1
  cases hg : ap w a 11 11 j (narrow .char (.int x)) with
  | none => rw [hg] at h7; cases h7
  | some w' =>
    rw [hg] at h7
    obtain rfl := nx_inv h7
    obtain ⟨hm, b1, b2, b3, hba, k, n, fn, z1, z2, hc, a1, a2, rfl⟩ := ap_ok hg (by decide) (by decide)
    obtain rfl : k = 11 := by omega
    refine ⟨hm, fun H locs cells slots ls G h1 h2 kk => ?_⟩
    have hcell := hw_at G.1 ⟨by decide, by decide⟩ hc
    refine W.cast hx hb hcell ((hKK.1.2 _ _ (xTys_at cA (c := 11) (by decide) (by decide))).1 n fn) (fun q => by cases q) (by rw [arrV_size]; rintro (z | z); exact a1 z; omega) rfl rfl hd (fun H' e1 e2 e3 => ?_)
    exact kk H' _ cells slots ls ⟨hw_arr G.1 ⟨by decide, by decide⟩ hc e1 e2 e3, G.2.1, locs_add G.2.2.1 hba, G.2.2.2⟩
theorem xEl_lt {k : Nat} : xEl k < 10 := by
  unfold xEl
  split <;> decide
theorem so_aastore (C : Cx p s m args meth c D cA sc o) : StOK p l e R s m args below meth c Q D cA sc f o bz bu .aastore := by
  intro pc L st w c' len hd hk h
  obtain ⟨hx, hb, hml, hown, hts, hKK, hin⟩ := C
  dsimp only [stp1] at h
  dsimp only [okl] at hk
  replace hk := of_decide_eq_true hk
  dsimp only [iln] at hk
  subst hk
  obtain ⟨v, r, e1, h9⟩ := sA_inv h
  clear h
  subst e1
  obtain ⟨j, r, e1, h8⟩ := sI_inv h9
  clear h9
  subst e1
  obtain ⟨a, r, e1, h7⟩ := sA_inv h8
  clear h8
  subst e1
  split at h7
  next hkd =>
    cases hg : ap w a 12 15 j (.ref v) with
    | none => rw [hg] at h7; cases h7
    | some w' =>
      rw [hg] at h7
      obtain rfl := nx_inv h7
      obtain ⟨hm, b1, b2, b3, hba, k, n, fn, z1, z2, hc, a1, a2, rfl⟩ := ap_ok hg (by decide) (by decide)
      refine ⟨hm, fun H locs cells slots ls G h1 h2 kk => ?_⟩
      have hcell := hw_at G.1 ⟨by omega, by omega⟩ hc
      have hka : kd w a = k := by unfold kd; rw [hc]
      rw [hka] at hkd
      obtain ⟨cv, hcv, hcv1⟩ : ∃ cv, w.2.2.2 v = some cv ∧ cv.1 = xEl k := by
        unfold kd at hkd
        split at hkd
        next cv hv => exact ⟨cv, hv, hkd⟩
        next => have := xEl_lt (k := k); omega
      have hE := xEl_lt (k := k)
      rcases G.1.2 v cv hcv with ⟨y1, cell, q1, q2, q3, -⟩ | ⟨y1, -⟩ | ⟨y1, -⟩
      · rw [hcv1] at q2
        have hcls := (hKK.1.1 _ _ (xCls _ hE)).2
        have hty : xETy k = .object (xCN (xEl k)) := by
          rcases (show k = 12 ∨ k = 13 ∨ k = 14 ∨ k = 15 by omega) with rfl | rfl | rfl | rfl <;> rfl
        have hra := (hKK.1.2 _ _ (xTys_at cA (c := k) (by omega) (by omega))).2
        rw [hty] at hra
        obtain ⟨kA, comp, k1, k2, k3, -⟩ := hra
        have hcomp : comp = D.1 (xEl k) := Option.some.inj (k3.symm.trans hcls.1)
        subst hcomp
        obtain ⟨kC, hkC, -⟩ := hcls.2
        refine W.aast hx hb hcell (fun q h => by cases h) (fun h => by cases h) k1 k2 rfl hkC ⟨a1, by rw [arrV_size]; exact a2⟩ q1 (fun q h => by rw [q3] at h; cases h) (by rw [q2]; exact hkC) (by rw [q2]; exact va_assign hcls) rfl rfl hd fun H' e1 e2 e3 => ?_
        exact kk H' _ cells slots ls ⟨hw_arr G.1 ⟨by omega, by omega⟩ hc e1 e2 e3, G.2.1, locs_add G.2.2.1 hba, G.2.2.2⟩
      · omega
      · omega
  next => cases h7
theorem f2_mem : ∀ {l : List (Nat × Nat × Nat)} {c i k : Nat}, f2 l c i = some k → (c, i, k) ∈ l
  | [], _, _, _, h => by simp [f2] at h
  | (a, b, d) :: r, c, i, k, h => by
    rw [f2] at h
    split at h
    next hc => cases h; obtain ⟨rfl, rfl⟩ := hc; exact List.mem_cons_self
    next => exact List.mem_cons_of_mem _ (f2_mem h)
theorem so_new (C : Cx p s m args meth c D cA sc o) (n : Nat) : StOK p l e R s m args below meth c Q D cA sc f o bz bu (.new n) := by
  intro pc L st w c' len hd hk h
  obtain ⟨hx, hb, hml, hown, hts, hKK, hin⟩ := C
  dsimp only [stp1] at h
  dsimp only [okl] at hk
  replace hk := of_decide_eq_true hk
  dsimp only [iln] at hk
  subst hk
  cases hf : f2 xNT (xCl o) n with
  | none => rw [hf] at h; cases h
  | some ci =>
    rw [hf] at h
    obtain rfl := nx_inv h
    obtain ⟨b, hbk⟩ := xNT_all _ (f2_mem hf)
    simp only [xNok, Bool.and_eq_true, decide_eq_true_eq] at hbk
    obtain ⟨⟨⟨hci, w1⟩, w2⟩, w3⟩ := hbk
    refine ⟨⟨rfl, by show w.2.1 ≤ w.2.1 + 1; omega, by show w.2.2.1 ≤ w.2.2.1 + xNF ci; omega⟩, fun H locs cells slots ls G h1 h2 kk => ?_⟩
    have g4 : cells + bz = w.2.1 := G.2.2.2.1
    have g5 : slots + bu = w.2.2.1 := G.2.2.2.2
    have h1' : w.2.1 + 1 ≤ R.cells + bz := h1
    have h2' : w.2.2.1 + xNF ci ≤ R.slots + bu := h2
    have hKn := hKK.1.1 ci _ (xCls ci hci)
    refine W.newcK hx hb hown (hts _ (xAt_in w1)) (hts _ (xAt_in w2)) (hts _ (xAt_in w3)) rfl hd (by omega) (by omega) hKn.2.1 G.1.1 fun H' kC hkC e1 z1 o1 => ?_
    refine kk H' locs _ _ ls ⟨hw_new G.1 (Or.inl ⟨hci, u_born (xTy ci) hts (xLays ci hci) hKn hkC e1 (xTyok ci hci)⟩) z1 o1, G.2.1, G.2.2.1, ?_, ?_⟩
    · show cells + 1 + bz = w.2.1 + 1; omega
    · show slots + xNF ci + bu = w.2.2.1 + xNF ci; omega
theorem so_newarray (C : Cx p s m args meth c D cA sc o) (t : ArrayType) : StOK p l e R s m args below meth c Q D cA sc f o bz bu (.newarray t) := by
  intro pc L st w c' len hd hk h
  obtain ⟨hx, hb, hml, hown, hts, hKK, hin⟩ := C
  dsimp only [stp1] at h
  dsimp only [okl] at hk
  replace hk := of_decide_eq_true hk
  dsimp only [iln] at hk
  subst hk
  obtain ⟨n, r, e1, h9⟩ := sI_inv h
  clear h
  subst e1
  have hobj := xObj_ok
  simp only [Bool.and_eq_true] at hobj
  split at h9
  next hn =>
    split at h9
    next ht =>
      subst ht
      obtain rfl := nx_inv h9
      refine ⟨⟨rfl, by show w.2.1 ≤ w.2.1 + 1; omega, by show w.2.2.1 ≤ w.2.2.1 + n.toNatClampNeg; omega⟩, fun H locs cells slots ls G h1 h2 kk => ?_⟩
      have g4 : cells + bz = w.2.1 := G.2.2.2.1
      have g5 : slots + bu = w.2.2.1 := G.2.2.2.2
      have h1' : w.2.1 + 1 ≤ R.cells + bz := h1
      have h2' : w.2.2.1 + n.toNatClampNeg ≤ R.slots + bu := h2
      refine va_newaK (atype := .int) hx hb (hts _ (xAt_in hobj.1.2)) rfl hd rfl hn.1 rfl (by show n.toNatClampNeg * 4 ≤ _; omega) (by omega) (by omega) G.1.1 fun H' cA' e1 z1 o1 hAr hNm => ?_
      have hra := (hKK.1.2 _ _ (xTys_at cA (c := 10) (by decide) (by decide))).2
      have ec : cA' = cA 10 := Option.some.inj (hNm.symm.trans hra)
      subst ec
      refine kk H' locs _ _ ls ⟨hw_new G.1 (Or.inr (Or.inl ⟨by show 10 ≤ 10; decide, by show 10 ≤ 15; decide, e1⟩)) z1 o1, G.2.1, G.2.2.1, ?_, ?_⟩
      · show cells + 1 + bz = w.2.1 + 1; omega
      · show slots + n.toNatClampNeg + bu = w.2.2.1 + n.toNatClampNeg; omega
    next =>
      split at h9
      next ht =>
        subst ht
        obtain rfl := nx_inv h9
        refine ⟨⟨rfl, by show w.2.1 ≤ w.2.1 + 1; omega, by show w.2.2.1 ≤ w.2.2.1 + n.toNatClampNeg; omega⟩, fun H locs cells slots ls G h1 h2 kk => ?_⟩
        have g4 : cells + bz = w.2.1 := G.2.2.2.1
        have g5 : slots + bu = w.2.2.1 := G.2.2.2.2
        have h1' : w.2.1 + 1 ≤ R.cells + bz := h1
        have h2' : w.2.2.1 + n.toNatClampNeg ≤ R.slots + bu := h2
        refine va_newaK (atype := .char) hx hb (hts _ (xAt_in hobj.2)) rfl hd rfl hn.1 rfl (by show n.toNatClampNeg * 2 ≤ _; omega) (by omega) (by omega) G.1.1 fun H' cA' e1 z1 o1 hAr hNm => ?_
        have hra := (hKK.1.2 _ _ (xTys_at cA (c := 11) (by decide) (by decide))).2
        have ec : cA' = cA 11 := Option.some.inj (hNm.symm.trans hra)
        subst ec
        refine kk H' locs _ _ ls ⟨hw_new G.1 (Or.inr (Or.inl ⟨by show 10 ≤ 11; decide, by show 11 ≤ 15; decide, e1⟩)) z1 o1, G.2.1, G.2.2.1, ?_, ?_⟩
        · show cells + 1 + bz = w.2.1 + 1; omega
        · show slots + n.toNatClampNeg + bu = w.2.2.1 + n.toNatClampNeg; omega
      next => cases h9
  next => cases h9
theorem so_anewarray (C : Cx p s m args meth c D cA sc o) (i : Nat) : StOK p l e R s m args below meth c Q D cA sc f o bz bu (.anewarray i) := by
  intro pc L st w c' len hd hk h
  obtain ⟨hx, hb, hml, hown, hts, hKK, hin⟩ := C
  dsimp only [stp1] at h
  dsimp only [okl] at hk
  replace hk := of_decide_eq_true hk
  dsimp only [iln] at hk
  subst hk
  cases hf : f2 xAT (xCl o) i with
  | none => rw [hf] at h; cases h
  | some k =>
    rw [hf] at h
    dsimp only at h
    obtain ⟨n, r, e1, h9⟩ := sI_inv h
    clear h
    subst e1
    split at h9
    next hn =>
      obtain rfl := nx_inv h9
      obtain ⟨b, hbk⟩ := xAT_all _ (f2_mem hf)
      simp only [xAok, Bool.and_eq_true, decide_eq_true_eq] at hbk
      obtain ⟨⟨⟨k12, k15⟩, w1⟩, w2⟩ := hbk
      refine ⟨⟨rfl, by show w.2.1 ≤ w.2.1 + 1; omega, by show w.2.2.1 ≤ w.2.2.1 + n.toNatClampNeg; omega⟩, fun H locs cells slots ls G h1 h2 kk => ?_⟩
      have g4 : cells + bz = w.2.1 := G.2.2.2.1
      have g5 : slots + bu = w.2.2.1 := G.2.2.2.2
      have h1' : w.2.1 + 1 ≤ R.cells + bz := h1
      have h2' : w.2.2.1 + n.toNatClampNeg ≤ R.slots + bu := h2
      have hN : Cond.arrayOver (.object (xCN (xEl k))) ∈ wsN := List.mem_filter.mpr ⟨List.mem_of_getElem? w2, rfl⟩
      have hty : xETy k = .object (xCN (xEl k)) := by
        rcases (show k = 12 ∨ k = 13 ∨ k = 14 ∨ k = 15 by omega) with rfl | rfl | rfl | rfl <;> rfl
      have hra := (hKK.1.2 _ _ (xTys_at cA (c := k) (by omega) (by omega))).2
      rw [hty] at hra
      obtain ⟨kA0, comp0, k1, k2, k3, k4⟩ := hra
      refine W.anew hx hb hown (hts _ (xAt_in w1)) (va_AO.use (hKK.2.1 _ hN)) rfl hd rfl hn.1 (by omega) (by omega) (by omega) fun cA' kA comp y1 y2 y3 y4 => ?_
      have ec : cA' = cA k := Option.some.inj (y1.symm.trans k4)
      subst ec
      rw [G.1.1]
      refine kk _ locs _ _ ls ⟨hw_new G.1 (Or.inr (Or.inl ⟨by show 10 ≤ k; omega, by show k ≤ 15; omega, ?_⟩)) ?_ ?_, G.2.1, G.2.2.1, ?_, ?_⟩
      · rw [arrV_new, ← G.1.1]; simp
      · rw [← G.1.1]; simp
      · intro q hq
        rw [Array.getElem?_push, if_neg (by rw [G.1.1]; omega)]
      · show cells + 1 + bz = w.2.1 + 1; omega
      · show slots + n.toNatClampNeg + bu = w.2.2.1 + n.toNatClampNeg; omega
    next => cases h9
end SND2
