/-! What the machine does is what our own machine does: the tie of cells -/
def hcell (D : va_G) (cA : Nat → ClassId) (sc : Cell) (a : Nat) (c : HC) (H : Heap) : Prop :=
  (c.1 < 10 ∧ t_OB a (D.1 c.1) (xNF c.1) (D.2 c.1) H c.2.2) ∨ (10 ≤ c.1 ∧ c.1 ≤ 15 ∧ H[a]? = some (arrV (cA c.1) c.2.1 c.2.2)) ∨ (c.1 = 16 ∧ H[a]? = some sc ∧ sc.slots.size = c.2.1 ∧ ∀ j, j < c.2.1 → sc.slots[j]? = some (c.2.2 j))
def hw (D : va_G) (cA : Nat → ClassId) (sc : Cell) (w : Wd) (H : Heap) : Prop := H.size = w.2.1 ∧ ∀ (a : Nat) (c : HC), w.2.2.2 a = some c → hcell D cA sc a c H
def xTys (cA : Nat → ClassId) : List (ClassId × FieldType) := [(cA 10, xETy 10), (cA 11, xETy 11), (cA 12, xETy 12), (cA 13, xETy 13), (cA 14, xETy 14), (cA 15, xETy 15)]
def KK (D : va_G) (cA : Nat → ClassId) (sc : Cell) (U : State) : Prop := va_K D vwCl (xTys cA) U ∧ (∀ w ∈ wsN, w.before #[] U = true) ∧ U.isArrayOf sc .int ∧ sc.vm ≠ .unknown
theorem hcell.kept {D : va_G} {cA : Nat → ClassId} {sc : Cell} {a : Nat} {c : HC} {H H' : Heap} (h : hcell D cA sc a c H) (e : H'[a]? = H[a]?) : hcell D cA sc a c H' := by
  rcases h with ⟨h1, h2⟩ | ⟨h1, h2, h3⟩ | ⟨h1, h2, h3⟩
  · exact Or.inl ⟨h1, h2.kept e⟩
  · exact Or.inr (Or.inl ⟨h1, h2, by rw [e]; exact h3⟩)
  · exact Or.inr (Or.inr ⟨h1, by rw [e]; exact h2, h3⟩)
theorem hcell.lt {D : va_G} {cA : Nat → ClassId} {sc : Cell} {a : Nat} {c : HC} {H : Heap} (h : hcell D cA sc a c H) : a < H.size := by
  rcases h with ⟨h1, cell, h2, -⟩ | ⟨h1, h2, h3⟩ | ⟨h1, h2, h3⟩
  · exact (Array.getElem?_eq_some_iff.mp h2).1
  · exact (Array.getElem?_eq_some_iff.mp h3).1
  · exact (Array.getElem?_eq_some_iff.mp h2).1
theorem hw_up {D : va_G} {cA : Nat → ClassId} {sc : Cell} {w : Wd} {H H' : Heap} {a : Nat} {c : HC} (h : hw D cA sc w H) (hc : hcell D cA sc a c H') (hz : H'.size = H.size) (ho : ∀ q : Nat, q ≠ a → H'[q]? = H[q]?) : hw D cA sc (wup w a c) H' := by
  refine ⟨hz.trans h.1, fun q x hq => ?_⟩
  simp only [wup] at hq
  by_cases e : q = a
  · rw [if_pos e] at hq; cases hq; rw [e]; exact hc
  · rw [if_neg e] at hq; exact (h.2 q x hq).kept (ho q e)
theorem hw_new {D : va_G} {cA : Nat → ClassId} {sc : Cell} {w : Wd} {H H' : Heap} {c : HC} (h : hw D cA sc w H) (hc : hcell D cA sc w.2.1 c H') (hz : H'.size = w.2.1 + 1) (ho : ∀ q : Nat, q < w.2.1 → H'[q]? = H[q]?) : hw D cA sc (wnew w c) H' := by
  refine ⟨hz, fun q x hq => ?_⟩
  simp only [wnew] at hq
  by_cases e : q = w.2.1
  · rw [if_pos e] at hq; cases hq; rw [e]; exact hc
  · rw [if_neg e] at hq; exact (h.2 q x hq).kept (ho q (by have := (h.2 q x hq).lt; rw [h.1] at this; exact this))
theorem xNs_move {s U : State} (hW : s.WarmedH U.vm) {w : Cond} (hw : w ∈ wsN) (h : w.before #[] s = true) : w.before #[] U = true := by
  have hn := (List.mem_filter.mp hw).2
  cases w with
  | methodLinkNest a i x g => exact va_Nw.warmM hW h
  | arrayOver t =>
    cases t with
    | object C => exact va_AO.moved hW.alike h
    | _ => simp [xNs] at hn
  | _ => simp [xNs] at hn
theorem xNs_blind {u U : State} (e : u.vm = U.vm) {w : Cond} (hw : w ∈ wsN) (h : w.before #[] u = true) : w.before #[] U = true := by
  have hn := (List.mem_filter.mp hw).2
  cases w with
  | methodLinkNest a i x g => exact va_Nw.same rfl e h
  | arrayOver t =>
    cases t with
    | object C => exact va_AO.moved (by rw [e]; exact Vm.Alike.refl _) h
    | _ => simp [xNs] at hn
  | _ => simp [xNs] at hn
theorem KK.moved {D : va_G} {cA : Nat → ClassId} {sc : Cell} {s U : State} (hW : s.WarmedH U.vm) (h : KK D cA sc s) : KK D cA sc U := ⟨va_K.moved hW.alike h.1, fun w hw => xNs_move hW hw (h.2.1 w hw), State.isArrayOf_alike hW.alike h.2.2.1, h.2.2.2⟩
theorem KK.blind {D : va_G} {cA : Nat → ClassId} {sc : Cell} {u U : State} (e : u.vm = U.vm) (h : KK D cA sc u) : KK D cA sc U := ⟨va_K.moved (by rw [e]; exact Vm.Alike.refl _) h.1, fun w hw => xNs_blind e hw (h.2.1 w hw), State.isArrayOf_alike (by rw [e]; exact Vm.Alike.refl _) h.2.2.1, h.2.2.2⟩
def mo (w w' : Wd) : Prop := w'.1 = w.1 ∧ w.2.1 ≤ w'.2.1 ∧ w.2.2.1 ≤ w'.2.2.1
theorem mo.rf {w : Wd} : mo w w := ⟨rfl, Nat.le_refl _, Nat.le_refl _⟩
theorem mo.tr {a b c : Wd} (h1 : mo a b) (h2 : mo b c) : mo a c := ⟨h2.1.trans h1.1, Nat.le_trans h1.2.1 h2.2.1, Nat.le_trans h1.2.2 h2.2.2⟩
def xW (o : Nat) : List Cond := Cond.code (xY o) (xB o) (xL o) (xRt o) :: wsG
def rmD (d mc ms : Nat) : Room := { frames := d, cells := mc, slots := ms, locals := 36 * d }
def xQ (D : va_G) (cA : Nat → ClassId) (sc : Cell) (v : Option Value) (w' : Wd) : Array Value → State → Outcome → State → Prop := fun _ _ oc t => oc = .returned v ∧ hw D cA sc w' t.heap
def xP (D : va_G) (cA : Nat → ClassId) (sc : Cell) (w : Wd) : State → Prop := fun U => hw D cA sc w U.heap ∧ KK D cA sc U
def RunMo (f : xF) : Prop := ∀ o args w v w', f o args w = some (v, w') → mo w w'
def RunOK (f : xF) (d : Nat) : Prop := ∀ (l : Launch) (D : va_G) (cA : Nat → ClassId) (sc : Cell) (o : Nat) (args : List Value) (w : Wd) (v : Option Value) (w' : Wd), o < 179 → f o args w = some (v, w') →
  Met l (xY o) (xW o) (rmD d (w'.2.1 - w.2.1) (w'.2.2.1 - w.2.2.1)) (va_Pc args (xP D cA sc w)) (xQ D cA sc v w') (w'.2.1 - w.2.1) (w'.2.2.1 - w.2.2.1) (fun q => w.1 ≤ q)
/-! inversions -/
theorem sI_inv {st : List Value} {f : Int32 → List Value → xO} {z : xR ⊕ xC} (h : sI st f = some z) : ∃ x r, st = .int x :: r ∧ f x r = some z := by
  unfold sI at h
  split at h
  · exact ⟨_, _, rfl, h⟩
  · cases h
theorem sL_inv {st : List Value} {f : Int64 → List Value → xO} {z : xR ⊕ xC} (h : sL st f = some z) : ∃ x r, st = .long x :: r ∧ f x r = some z := by
  unfold sL at h
  split at h
  · exact ⟨_, _, rfl, h⟩
  · cases h
theorem sA_inv {st : List Value} {f : Nat → List Value → xO} {z : xR ⊕ xC} (h : sA st f = some z) : ∃ x r, st = .ref x :: r ∧ f x r = some z := by
  unfold sA at h
  split at h
  · exact ⟨_, _, rfl, h⟩
  · cases h
theorem sA0_inv {st : List Value} {f : Value → List Value → xO} {z : xR ⊕ xC} (h : sA0 st f = some z) : (∃ x r, st = .ref x :: r ∧ f (.ref x) r = some z) ∨ (∃ r, st = .null :: r ∧ f .null r = some z) := by
  unfold sA0 at h
  split at h
  · exact Or.inl ⟨_, _, rfl, h⟩
  · exact Or.inr ⟨_, rfl, h⟩
  · cases h
theorem oI_inv {v : Option Value} {f : Int32 → xO} {z : xR ⊕ xC} (h : oI v f = some z) : ∃ x, v = some (.int x) ∧ f x = some z := by
  unfold oI at h
  split at h
  · exact ⟨_, rfl, h⟩
  · cases h
theorem oL_inv {v : Option Value} {f : Int64 → xO} {z : xR ⊕ xC} (h : oL v f = some z) : ∃ x, v = some (.long x) ∧ f x = some z := by
  unfold oL at h
  split at h
  · exact ⟨_, rfl, h⟩
  · cases h
theorem oA_inv {v : Option Value} {f : Value → xO} {z : xR ⊕ xC} (h : oA v f = some z) : (∃ x, v = some (.ref x) ∧ f (.ref x) = some z) ∨ (v = some .null ∧ f .null = some z) := by
  unfold oA at h
  split at h
  · exact Or.inl ⟨_, rfl, h⟩
  · exact Or.inr ⟨rfl, h⟩
  · cases h
theorem jmp_inv {pc : Nat} {off : Int} {f : Nat → xO} {z : xR ⊕ xC} (h : jmp pc off f = some z) : ∃ t : Nat, (pc : Int) + off = (t : Int) ∧ f t = some z := by
  unfold jmp at h
  split at h
  next t e => exact ⟨t, e, h⟩
  next => cases h
theorem nx_inv {pc : Nat} {L : List (Nat × Value)} {st : List Value} {w : Wd} {c : xC} (h : nx pc L st w = some (.inr c)) : c = (pc, L, st, w) := by
  unfold nx at h
  cases h
  rfl
theorem nx_inl {pc : Nat} {L : List (Nat × Value)} {st : List Value} {w : Wd} {r : xR} (h : nx pc L st w = some (.inl r)) : False := by
  unfold nx at h
  cases h
theorem lk_has {ls : Array Slot} {nL : Nat} {L : List (Nat × Value)} {i : Nat} {v : Value} (h : lv_has ls nL L) (e : lk L i = some v) : ls[i]? = some (.val v) := by
  refine h.2.2 (i, v) ?_
  clear h
  induction L with
  | nil => simp [lk] at e
  | cons q r ih =>
    obtain ⟨j, u⟩ := q
    rw [lk] at e
    split at e
    next hj => cases e; subst hj; exact List.mem_cons_self
    next hj => exact List.mem_cons_of_mem _ (ih e)
theorem cat2_of {v : Value} (h : cat2 v = false) : v.category = 1 := by cases v <;> simp [cat2, Value.category] at h ⊢
theorem cat2_iff (v : Value) : (v.category == 2) = cat2 v := by cases v <;> rfl
theorem ldel_mem {L : List (Nat × Value)} {i : Nat} {q : Nat × Value} (h : q ∈ ldel L i) : q ∈ L.filter (fun q => !(q.1 == i) && !(q.1 + 1 == i && q.2.category == 2)) := by
  induction L with
  | nil => simp [ldel] at h
  | cons x r ih =>
    obtain ⟨j, u⟩ := x
    rw [ldel] at h
    rw [List.filter_cons]
    split at h
    next hj => split <;> first | exact List.mem_cons_of_mem _ (ih h) | exact ih h
    next hj =>
      split at h
      next hj2 => split <;> first | exact List.mem_cons_of_mem _ (ih h) | exact ih h
      next hj2 =>
        have hp : (!((j, u).1 == i) && !((j, u).1 + 1 == i && (j, u).2.category == 2)) = true := by
          rw [cat2_iff]
          simp only [Bool.and_eq_true, Bool.not_eq_true', beq_eq_false_iff_ne, ne_eq, Bool.and_eq_false_iff]
          refine ⟨hj, ?_⟩
          by_cases z : j + 1 = i
          · refine Or.inr ?_
            cases hc : cat2 u with
            | false => rfl
            | true => exact absurd ⟨z, hc⟩ hj2
          · exact Or.inl z
        rw [if_pos hp]
        rcases List.mem_cons.mp h with e | e
        · rw [e]; exact List.mem_cons_self
        · exact List.mem_cons_of_mem _ (ih e)
theorem lset_mem {L : List (Nat × Value)} {i : Nat} {v : Value} {q : Nat × Value} (h : q ∈ lset L i v) : q ∈ (i, v) :: L.filter (fun q => !(q.1 == i) && !(q.1 + 1 == i && q.2.category == 2)) := by
  induction L with
  | nil => simpa [lset] using h
  | cons x r ih =>
    obtain ⟨j, u⟩ := x
    have up : ∀ {q : Nat × Value}, q ∈ (i, v) :: r.filter (fun q => !(q.1 == i) && !(q.1 + 1 == i && q.2.category == 2)) → q ∈ (i, v) :: ((j, u) :: r).filter (fun q => !(q.1 == i) && !(q.1 + 1 == i && q.2.category == 2)) := by
      intro q hq
      rcases List.mem_cons.mp hq with e | e
      · rw [e]; exact List.mem_cons_self
      · refine List.mem_cons_of_mem _ ?_
        rw [List.filter_cons]
        split <;> first | exact List.mem_cons_of_mem _ e | exact e
    rw [lset] at h
    split at h
    next hj =>
      rcases List.mem_cons.mp h with e | e
      · rw [e]; exact List.mem_cons_self
      · exact up (List.mem_cons_of_mem _ (ldel_mem e))
    next hj =>
      split at h
      next hj2 => exact up (ih h)
      next hj2 =>
        rcases List.mem_cons.mp h with e | e
        · rw [e]
          refine List.mem_cons_of_mem _ ?_
          have hp : (!((j, u).1 == i) && !((j, u).1 + 1 == i && (j, u).2.category == 2)) = true := by
            rw [cat2_iff]
            simp only [Bool.and_eq_true, Bool.not_eq_true', beq_eq_false_iff_ne, ne_eq, Bool.and_eq_false_iff]
            refine ⟨hj, ?_⟩
            by_cases z : j + 1 = i
            · refine Or.inr ?_
              cases hc : cat2 u with
              | false => rfl
              | true => exact absurd ⟨z, hc⟩ hj2
            · exact Or.inl z
          rw [List.filter_cons, if_pos hp]
          exact List.mem_cons_self
        · exact up (ih e)
theorem ldel2_mem {L : List (Nat × Value)} {i : Nat} {q : Nat × Value} (h : q ∈ ldel2 L i) : q ∈ L.filter (fun q => !(q.1 == i) && (!(q.1 == i + 1) && !(q.1 + 1 == i && q.2.category == 2))) := by
  induction L with
  | nil => simp [ldel2] at h
  | cons x r ih =>
    obtain ⟨j, u⟩ := x
    rw [ldel2] at h
    rw [List.filter_cons]
    split at h
    next hj => split <;> first | exact List.mem_cons_of_mem _ (ih h) | exact ih h
    next hj =>
      split at h
      next hj2 => split <;> first | exact List.mem_cons_of_mem _ (ih h) | exact ih h
      next hj2 =>
        split at h
        next hj3 => split <;> first | exact List.mem_cons_of_mem _ (ih h) | exact ih h
        next hj3 =>
          have hp : (!((j, u).1 == i) && (!((j, u).1 == i + 1) && !((j, u).1 + 1 == i && (j, u).2.category == 2))) = true := by
            rw [cat2_iff]
            simp only [Bool.and_eq_true, Bool.not_eq_true', beq_eq_false_iff_ne, ne_eq, Bool.and_eq_false_iff]
            refine ⟨hj, hj2, ?_⟩
            by_cases z : j + 1 = i
            · refine Or.inr ?_
              cases hc : cat2 u with
              | false => rfl
              | true => exact absurd ⟨z, hc⟩ hj3
            · exact Or.inl z
          rw [if_pos hp]
          rcases List.mem_cons.mp h with e | e
          · rw [e]; exact List.mem_cons_self
          · exact List.mem_cons_of_mem _ (ih e)
theorem lset2_mem {L : List (Nat × Value)} {i : Nat} {v : Value} {q : Nat × Value} (h : q ∈ lset2 L i v) : q ∈ (i, v) :: L.filter (fun q => !(q.1 == i) && (!(q.1 == i + 1) && !(q.1 + 1 == i && q.2.category == 2))) := by
  induction L with
  | nil => simpa [lset2] using h
  | cons x r ih =>
    obtain ⟨j, u⟩ := x
    have up : ∀ {q : Nat × Value}, q ∈ (i, v) :: r.filter (fun q => !(q.1 == i) && (!(q.1 == i + 1) && !(q.1 + 1 == i && q.2.category == 2))) → q ∈ (i, v) :: ((j, u) :: r).filter (fun q => !(q.1 == i) && (!(q.1 == i + 1) && !(q.1 + 1 == i && q.2.category == 2))) := by
      intro q hq
      rcases List.mem_cons.mp hq with e | e
      · rw [e]; exact List.mem_cons_self
      · refine List.mem_cons_of_mem _ ?_
        rw [List.filter_cons]
        split <;> first | exact List.mem_cons_of_mem _ e | exact e
    rw [lset2] at h
    split at h
    next hj =>
      rcases List.mem_cons.mp h with e | e
      · rw [e]; exact List.mem_cons_self
      · exact up (List.mem_cons_of_mem _ (ldel2_mem e))
    next hj =>
      split at h
      next hj2 => exact up (ih h)
      next hj2 =>
        split at h
        next hj3 => exact up (ih h)
        next hj3 =>
          rcases List.mem_cons.mp h with e | e
          · rw [e]
            refine List.mem_cons_of_mem _ ?_
            have hp : (!((j, u).1 == i) && (!((j, u).1 == i + 1) && !((j, u).1 + 1 == i && (j, u).2.category == 2))) = true := by
              rw [cat2_iff]
              simp only [Bool.and_eq_true, Bool.not_eq_true', beq_eq_false_iff_ne, ne_eq, Bool.and_eq_false_iff]
              refine ⟨hj, hj2, ?_⟩
              by_cases z : j + 1 = i
              · refine Or.inr ?_
                cases hc : cat2 u with
                | false => rfl
                | true => exact absurd ⟨z, hc⟩ hj3
              · exact Or.inl z
            rw [List.filter_cons, if_pos hp]
            exact List.mem_cons_self
          · exact up (ih e)
theorem lset_has {ls : Array Slot} {nL : Nat} {L : List (Nat × Value)} {i : Nat} {v : Value} (h : lv_has ls nL ((i, v) :: L.filter (fun q => !(q.1 == i) && !(q.1 + 1 == i && q.2.category == 2)))) : lv_has ls nL (lset L i v) := ⟨h.1, h.2.1, fun q hq => h.2.2 q (lset_mem hq)⟩
theorem lset2_has {ls : Array Slot} {nL : Nat} {L : List (Nat × Value)} {i : Nat} {v : Value} (h : lv_has ls nL ((i, v) :: L.filter (fun q => !(q.1 == i) && (!(q.1 == i + 1) && !(q.1 + 1 == i && q.2.category == 2))))) : lv_has ls nL (lset2 L i v) := ⟨h.1, h.2.1, fun q hq => h.2.2 q (lset2_mem hq)⟩
theorem rest_sum : ∀ (st : List Value), (st.map fun v => v.category).sum ≤ 2 * st.length := by
  intro st
  induction st with
  | nil => simp
  | cons v st ih =>
    simp only [List.map_cons, List.sum_cons, List.length_cons]
    have : v.category ≤ 2 := by cases v <;> simp [Value.category]
    omega
