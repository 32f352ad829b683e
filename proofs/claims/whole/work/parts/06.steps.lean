/-! what the tables say of an entry -/
theorem xZip_drop {α β : Type} {g : α → β → Bool} : ∀ {l : List α} {z : List β}, xZip g l z = true → ∀ a ∈ l, ∃ b, g a b = true
  | [], _, _, a, h => by cases h
  | a :: r, b :: s, h, x, hx => by
    simp only [xZip, Bool.and_eq_true] at h
    rcases List.mem_cons.mp hx with e | e
    · exact ⟨b, by rw [e]; exact h.1⟩
    · exact xZip_drop h.2 x e
  | _ :: _, [], h, _, _ => by simp [xZip] at h
theorem xChunk {α : Type} {P : α → Prop} {l : List α} (k : Nat) (h1 : ∀ a ∈ l.take k, P a) (h2 : ∀ a ∈ l.drop k, P a) : ∀ a ∈ l, P a := by
  intro a ha
  rw [← List.take_append_drop k l] at ha
  rcases List.mem_append.mp ha with h | h
  · exact h1 a h
  · exact h2 a h
theorem xDd {α : Type} {P : α → Prop} {l : List α} (k n : Nat) (h1 : ∀ a ∈ (l.drop k).take n, P a) (h2 : ∀ a ∈ l.drop (k + n), P a) : ∀ a ∈ l.drop k, P a :=
  xChunk n h1 (by rw [List.drop_drop]; exact h2)
theorem xRT_all : ∀ q ∈ xRT, ∃ b : Nat, xRok q b = true := by
  have h : ∀ q ∈ xRT.drop 0, ∃ b : Nat, xRok q b = true := by
    refine xDd 0 30 (fun q hq => xZip_drop xRT_ok0 q hq) ?_
    refine xDd 30 30 (fun q hq => xZip_drop xRT_ok1 q hq) ?_
    refine xDd 60 30 (fun q hq => xZip_drop xRT_ok2 q hq) ?_
    refine xDd 90 30 (fun q hq => xZip_drop xRT_ok3 q hq) ?_
    refine xDd 120 30 (fun q hq => xZip_drop xRT_ok4 q hq) ?_
    refine xDd 150 30 (fun q hq => xZip_drop xRT_ok5 q hq) ?_
    refine xDd 180 30 (fun q hq => xZip_drop xRT_ok6 q hq) ?_
    intro q hq
    have : xRT.drop (180 + 30) = [] := by decide +kernel
    rw [this] at hq
    cases hq
  exact h
theorem xFT_all : ∀ q ∈ xFT, ∃ b : Nat, xFok q b = true := by
  have h : ∀ q ∈ xFT.drop 0, ∃ b : Nat, xFok q b = true := by
    refine xDd 0 30 (fun q hq => xZip_drop xFT_ok0 q hq) ?_
    refine xDd 30 30 (fun q hq => xZip_drop xFT_ok1 q hq) ?_
    refine xDd 60 30 (fun q hq => xZip_drop xFT_ok2 q hq) ?_
    refine xDd 90 30 (fun q hq => xZip_drop xFT_ok3 q hq) ?_
    intro q hq
    have : xFT.drop (90 + 30) = [] := by decide +kernel
    rw [this] at hq
    cases hq
  exact h
theorem xOT_all : ∀ q ∈ xOT, ∃ b : Nat, xOok q b = true := by
  have h : ∀ q ∈ xOT.drop 0, ∃ b : Nat, xOok q b = true := by
    refine xDd 0 30 (fun q hq => xZip_drop xOT_ok0 q hq) ?_
    intro q hq
    have : xOT.drop (0 + 30) = [] := by decide +kernel
    rw [this] at hq
    cases hq
  exact h
theorem xNT_all : ∀ q ∈ xNT, ∃ b : Nat × Nat × Nat, xNok q b = true := by
  have h : ∀ q ∈ xNT.drop 0, ∃ b : Nat × Nat × Nat, xNok q b = true := by
    refine xDd 0 30 (fun q hq => xZip_drop xNT_ok0 q hq) ?_
    intro q hq
    have : xNT.drop (0 + 30) = [] := by decide +kernel
    rw [this] at hq
    cases hq
  exact h
theorem xAT_all : ∀ q ∈ xAT, ∃ b : Nat × Nat, xAok q b = true := by
  have h : ∀ q ∈ xAT.drop 0, ∃ b : Nat × Nat, xAok q b = true := by
    refine xDd 0 30 (fun q hq => xZip_drop xAT_ok0 q hq) ?_
    intro q hq
    have : xAT.drop (0 + 30) = [] := by decide +kernel
    rw [this] at hq
    cases hq
  exact h
theorem xKT_all : ∀ q ∈ xKT, ∃ b : Nat, xKok q b = true := by
  have h : ∀ q ∈ xKT.drop 0, ∃ b : Nat, xKok q b = true := by
    refine xDd 0 30 (fun q hq => xZip_drop xKT_ok0 q hq) ?_
    intro q hq
    have : xKT.drop (0 + 30) = [] := by decide +kernel
    rw [this] at hq
    cases hq
  exact h
theorem xJT_all : ∀ q ∈ xJT, ∃ b : Nat, xJok q b = true := by
  have h : ∀ q ∈ xJT.drop 0, ∃ b : Nat, xJok q b = true := by
    refine xDd 0 30 (fun q hq => xZip_drop xJT_ok0 q hq) ?_
    intro q hq
    have : xJT.drop (0 + 30) = [] := by decide +kernel
    rw [this] at hq
    cases hq
  exact h
theorem xMall_get : ∀ {z : List (Nat × Nat × Nat × Nat)} {i : Nat}, xMall z i = true → ∀ j, j < z.length → ∃ a b d e, xMok (xM (i + j)) a b d e = true
  | [], _, _, j, h => by simp at h
  | q :: r, i, h, j, hj => by
    simp only [xMall, Bool.and_eq_true] at h
    cases j with
    | zero => exact ⟨_, _, _, _, h.1⟩
    | succ j =>
      have := xMall_get h.2 j (by simpa using hj)
      rw [show i + (j + 1) = i + 1 + j by omega]
      exact this
theorem xM_all (o : Nat) (ho : o < 179) : ∃ a b d e, xMok (xM o) a b d e = true := by
  by_cases h0 : o < 30
  · have := xMall_get xMT_ok0 (o - 0) (by show o - 0 < 30; omega)
    rwa [show 0 + (o - 0) = o by omega] at this
  by_cases h30 : o < 60
  · have := xMall_get xMT_ok1 (o - 30) (by show o - 30 < 30; omega)
    rwa [show 30 + (o - 30) = o by omega] at this
  by_cases h60 : o < 90
  · have := xMall_get xMT_ok2 (o - 60) (by show o - 60 < 30; omega)
    rwa [show 60 + (o - 60) = o by omega] at this
  by_cases h90 : o < 120
  · have := xMall_get xMT_ok3 (o - 90) (by show o - 90 < 30; omega)
    rwa [show 90 + (o - 90) = o by omega] at this
  by_cases h120 : o < 150
  · have := xMall_get xMT_ok4 (o - 120) (by show o - 120 < 30; omega)
    rwa [show 120 + (o - 120) = o by omega] at this
  · have := xMall_get xMT_ok5 (o - 150) (by show o - 150 < 29; omega)
    rwa [show 150 + (o - 150) = o by omega] at this
theorem xFind {α : Type} {l : List α} {p : α → Bool} {a : α} (h : l.find? p = some a) : a ∈ l ∧ p a = true := ⟨List.mem_of_find?_eq_some h, List.find?_some h⟩
theorem fK_ok {c i : Nat} {x : Int32} (h : fK c i = some x) : Cond.constant (xCN c) i x ∈ wsG := by
  unfold fK at h
  obtain ⟨q, hq, e⟩ := Option.map_eq_some_iff.mp h
  obtain ⟨h1, h2⟩ := xFind hq
  simp only [Bool.and_eq_true, beq_iff_eq] at h2
  obtain ⟨b, hb⟩ := xKT_all q h1
  have := xAt_in hb
  rw [h2.1, h2.2, e] at this
  exact this
/-! A step of our machine is a step of the machine: instruction by instruction -/
def Cx (p : Program) (s : State) (m : MethodId) (args : Array Value) (meth : Method) (c : Code) (D : va_G) (cA : Nat → ClassId) (sc : Cell) (o : Nat) : Prop :=
  p.tables.exec = Jvm.exec ∧ c.code = xB o ∧ c.maxLocals = xL o ∧ s.vm.findClass (xCN (xCl o)) = some m.cls ∧ (∀ w ∈ wsG, w.before args s = true) ∧ KK D cA sc s ∧ (xKd o = 2 → meth.name = "<init>")
def GG (D : va_G) (cA : Nat → ClassId) (sc : Cell) (o bz bu : Nat) (w : Wd) (L : List (Nat × Value)) (H : Heap) (locs : List Loc) (cells slots : Nat) (ls : Array Slot) : Prop :=
  hw D cA sc w H ∧ lv_has ls (xL o) L ∧ (∀ q ∈ locs, w.1 ≤ q.base) ∧ cells + bz = w.2.1 ∧ slots + bu = w.2.2.1
def StOK (p : Program) (l : Launch) (e : Env) (R : Room) (s : State) (m : MethodId) (args : Array Value) (below : List Frame) (meth : Method) (c : Code) (Q : State → Prop) (D : va_G) (cA : Nat → ClassId) (sc : Cell) (f : xF) (o bz bu : Nat) (i : Instr) : Prop :=
  ∀ (pc : Nat) (L : List (Nat × Value)) (st : List Value) (w : Wd) (c' : xC) (len : Nat), decode (xB o) pc = .ok (i, len) → okl i len = true → stp1 f o pc L st w i = some (.inr c') →
    mo w c'.2.2.2 ∧ ∀ (H : Heap) (locs : List Loc) (cells slots : Nat) (ls : Array Slot), GG D cA sc o bz bu w L H locs cells slots ls → c'.2.2.2.2.1 ≤ R.cells + bz → c'.2.2.2.2.2.1 ≤ R.slots + bu →
      (∀ (H' : Heap) (locs' : List Loc) (cells' slots' : Nat) (ls' : Array Slot), GG D cA sc o bz bu c'.2.2.2 c'.2.1 H' locs' cells' slots' ls' → W p l e R s m args below meth c H' locs' cells' slots' Q (F0 m c'.1 ls' c'.2.2.1)) →
      W p l e R s m args below meth c H locs cells slots Q (F0 m pc ls st)
section SND
variable {p : Program} {l : Launch} {e : Env} {R : Room} {s : State} {m : MethodId} {args : Array Value} {below : List Frame} {meth : Method} {c : Code} {Q : State → Prop} {D : va_G} {cA : Nat → ClassId} {sc : Cell} {f : xF} {o bz bu : Nat}
theorem GG.ls {w : Wd} {L L' : List (Nat × Value)} {H : Heap} {locs : List Loc} {cells slots : Nat} {ls ls' : Array Slot} (G : GG D cA sc o bz bu w L H locs cells slots ls) (h : lv_has ls' (xL o) L') : GG D cA sc o bz bu w L' H locs cells slots ls' := ⟨G.1, h, G.2.2⟩
theorem so_aload_n (C : Cx p s m args meth c D cA sc o) (n : Fin 4) : StOK p l e R s m args below meth c Q D cA sc f o bz bu (.aload_n n) := by
  intro pc L st w c' len hd hk h
  obtain ⟨hx, hb, hml, hown, hts, hKK, hin⟩ := C
  dsimp only [stp1] at h
  dsimp only [okl] at hk
  replace hk := of_decide_eq_true hk
  dsimp only [iln] at hk
  subst hk
  rcases oA_inv h with ⟨x, hv, h⟩ | ⟨hv, h⟩
  · obtain rfl := nx_inv h
    exact ⟨mo.rf, fun H locs cells slots ls G h1 h2 kk => lv_aload_n hx hb hd rfl (lk_has G.2.1 hv) (kk H locs cells slots ls G)⟩
  · obtain rfl := nx_inv h
    exact ⟨mo.rf, fun H locs cells slots ls G h1 h2 kk => lv_aload_nN hx hb hd rfl (lk_has G.2.1 hv) (kk H locs cells slots ls G)⟩
theorem so_aload (C : Cx p s m args meth c D cA sc o) (n : Nat) : StOK p l e R s m args below meth c Q D cA sc f o bz bu (.aload n) := by
  intro pc L st w c' len hd hk h
  obtain ⟨hx, hb, hml, hown, hts, hKK, hin⟩ := C
  dsimp only [stp1] at h
  dsimp only [okl] at hk
  replace hk := of_decide_eq_true hk
  dsimp only [iln] at hk
  subst hk
  rcases oA_inv h with ⟨x, hv, h⟩ | ⟨hv, h⟩
  · obtain rfl := nx_inv h
    exact ⟨mo.rf, fun H locs cells slots ls G h1 h2 kk => lv_aload hx hb hd (lk_has G.2.1 hv) (kk H locs cells slots ls G)⟩
  · obtain rfl := nx_inv h
    exact ⟨mo.rf, fun H locs cells slots ls G h1 h2 kk => lv_aloadN hx hb hd (lk_has G.2.1 hv) (kk H locs cells slots ls G)⟩
theorem so_iload_n (C : Cx p s m args meth c D cA sc o) (n : Fin 4) : StOK p l e R s m args below meth c Q D cA sc f o bz bu (.iload_n n) := by
  intro pc L st w c' len hd hk h
  obtain ⟨hx, hb, hml, hown, hts, hKK, hin⟩ := C
  dsimp only [stp1] at h
  dsimp only [okl] at hk
  replace hk := of_decide_eq_true hk
  dsimp only [iln] at hk
  subst hk
  obtain ⟨x, hv, h⟩ := oI_inv h
  obtain rfl := nx_inv h
  refine ⟨mo.rf, fun H locs cells slots ls G h1 h2 kk => ?_⟩
  exact lv_iload_n hx hb hd rfl (lk_has G.2.1 hv) (kk H locs cells slots ls G)
theorem so_iload (C : Cx p s m args meth c D cA sc o) (n : Nat) : StOK p l e R s m args below meth c Q D cA sc f o bz bu (.iload n) := by
  intro pc L st w c' len hd hk h
  obtain ⟨hx, hb, hml, hown, hts, hKK, hin⟩ := C
  dsimp only [stp1] at h
  dsimp only [okl] at hk
  replace hk := of_decide_eq_true hk
  dsimp only [iln] at hk
  subst hk
  obtain ⟨x, hv, h⟩ := oI_inv h
  obtain rfl := nx_inv h
  refine ⟨mo.rf, fun H locs cells slots ls G h1 h2 kk => ?_⟩
  exact lv_iload hx hb hd (lk_has G.2.1 hv) (kk H locs cells slots ls G)
theorem so_lload_n (C : Cx p s m args meth c D cA sc o) (n : Fin 4) : StOK p l e R s m args below meth c Q D cA sc f o bz bu (.lload_n n) := by
  intro pc L st w c' len hd hk h
  obtain ⟨hx, hb, hml, hown, hts, hKK, hin⟩ := C
  dsimp only [stp1] at h
  dsimp only [okl] at hk
  replace hk := of_decide_eq_true hk
  dsimp only [iln] at hk
  subst hk
  obtain ⟨x, hv, h⟩ := oL_inv h
  obtain rfl := nx_inv h
  refine ⟨mo.rf, fun H locs cells slots ls G h1 h2 kk => ?_⟩
  exact lv_lload_n hx hb hd rfl (lk_has G.2.1 hv) (kk H locs cells slots ls G)
theorem so_lload (C : Cx p s m args meth c D cA sc o) (n : Nat) : StOK p l e R s m args below meth c Q D cA sc f o bz bu (.lload n) := by
  intro pc L st w c' len hd hk h
  obtain ⟨hx, hb, hml, hown, hts, hKK, hin⟩ := C
  dsimp only [stp1] at h
  dsimp only [okl] at hk
  replace hk := of_decide_eq_true hk
  dsimp only [iln] at hk
  subst hk
  obtain ⟨x, hv, h⟩ := oL_inv h
  obtain rfl := nx_inv h
  refine ⟨mo.rf, fun H locs cells slots ls G h1 h2 kk => ?_⟩
  exact lv_lload hx hb hd (lk_has G.2.1 hv) (kk H locs cells slots ls G)
theorem so_istore_n (C : Cx p s m args meth c D cA sc o) (n : Fin 4) : StOK p l e R s m args below meth c Q D cA sc f o bz bu (.istore_n n) := by
  intro pc L st w c' len hd hk h
  obtain ⟨hx, hb, hml, hown, hts, hKK, hin⟩ := C
  dsimp only [stp1] at h
  dsimp only [okl] at hk
  replace hk := of_decide_eq_true hk
  dsimp only [iln] at hk
  subst hk
  obtain ⟨x, r, e1, h9⟩ := sI_inv h
  clear h
  subst e1
  have h := h9
  clear h9
  split at h
  next hn =>
    obtain rfl := nx_inv h
    exact ⟨mo.rf, fun H locs cells slots ls G h1 h2 kk => lv_istore_n hx hb hd rfl G.2.1 hn rfl (fun ls' hl => kk H locs cells slots ls' (G.ls (lset_has hl)))⟩
  next => cases h
theorem so_istore (C : Cx p s m args meth c D cA sc o) (n : Nat) : StOK p l e R s m args below meth c Q D cA sc f o bz bu (.istore n) := by
  intro pc L st w c' len hd hk h
  obtain ⟨hx, hb, hml, hown, hts, hKK, hin⟩ := C
  dsimp only [stp1] at h
  dsimp only [okl] at hk
  replace hk := of_decide_eq_true hk
  dsimp only [iln] at hk
  subst hk
  obtain ⟨x, r, e1, h9⟩ := sI_inv h
  clear h
  subst e1
  have h := h9
  clear h9
  split at h
  next hn =>
    obtain rfl := nx_inv h
    exact ⟨mo.rf, fun H locs cells slots ls G h1 h2 kk => lv_istore hx hb hd G.2.1 hn rfl (fun ls' hl => kk H locs cells slots ls' (G.ls (lset_has hl)))⟩
  next => cases h
theorem so_lstore_n (C : Cx p s m args meth c D cA sc o) (n : Fin 4) : StOK p l e R s m args below meth c Q D cA sc f o bz bu (.lstore_n n) := by
  intro pc L st w c' len hd hk h
  obtain ⟨hx, hb, hml, hown, hts, hKK, hin⟩ := C
  dsimp only [stp1] at h
  dsimp only [okl] at hk
  replace hk := of_decide_eq_true hk
  dsimp only [iln] at hk
  subst hk
  obtain ⟨x, r, e1, h9⟩ := sL_inv h
  clear h
  subst e1
  have h := h9
  clear h9
  split at h
  next hn =>
    obtain rfl := nx_inv h
    exact ⟨mo.rf, fun H locs cells slots ls G h1 h2 kk => lv_lstore_n hx hb hd rfl G.2.1 hn rfl (fun ls' hl => kk H locs cells slots ls' (G.ls (lset2_has hl)))⟩
  next => cases h
theorem so_lstore (C : Cx p s m args meth c D cA sc o) (n : Nat) : StOK p l e R s m args below meth c Q D cA sc f o bz bu (.lstore n) := by
  intro pc L st w c' len hd hk h
  obtain ⟨hx, hb, hml, hown, hts, hKK, hin⟩ := C
  dsimp only [stp1] at h
  dsimp only [okl] at hk
  replace hk := of_decide_eq_true hk
  dsimp only [iln] at hk
  subst hk
  obtain ⟨x, r, e1, h9⟩ := sL_inv h
  clear h
  subst e1
  have h := h9
  clear h9
  split at h
  next hn =>
    obtain rfl := nx_inv h
    exact ⟨mo.rf, fun H locs cells slots ls G h1 h2 kk => lv_lstore hx hb hd G.2.1 hn rfl (fun ls' hl => kk H locs cells slots ls' (G.ls (lset2_has hl)))⟩
  next => cases h
theorem so_astore_n (C : Cx p s m args meth c D cA sc o) (n : Fin 4) : StOK p l e R s m args below meth c Q D cA sc f o bz bu (.astore_n n) := by
  intro pc L st w c' len hd hk h
  obtain ⟨hx, hb, hml, hown, hts, hKK, hin⟩ := C
  dsimp only [stp1] at h
  dsimp only [okl] at hk
  replace hk := of_decide_eq_true hk
  dsimp only [iln] at hk
  subst hk
  rcases sA0_inv h with ⟨x, r, rfl, h⟩ | ⟨r, rfl, h⟩
  · split at h
    next hn =>
      obtain rfl := nx_inv h
      exact ⟨mo.rf, fun H locs cells slots ls G h1 h2 kk => lv_astore_n hx hb hd rfl G.2.1 hn rfl (fun ls' hl => kk H locs cells slots ls' (G.ls (lset_has hl)))⟩
    next => cases h
  · split at h
    next hn =>
      obtain rfl := nx_inv h
      exact ⟨mo.rf, fun H locs cells slots ls G h1 h2 kk => lv_astore_nN hx hb hd rfl G.2.1 hn rfl (fun ls' hl => kk H locs cells slots ls' (G.ls (lset_has hl)))⟩
    next => cases h
theorem so_astore (C : Cx p s m args meth c D cA sc o) (n : Nat) : StOK p l e R s m args below meth c Q D cA sc f o bz bu (.astore n) := by
  intro pc L st w c' len hd hk h
  obtain ⟨hx, hb, hml, hown, hts, hKK, hin⟩ := C
  dsimp only [stp1] at h
  dsimp only [okl] at hk
  replace hk := of_decide_eq_true hk
  dsimp only [iln] at hk
  subst hk
  rcases sA0_inv h with ⟨x, r, rfl, h⟩ | ⟨r, rfl, h⟩
  · split at h
    next hn =>
      obtain rfl := nx_inv h
      exact ⟨mo.rf, fun H locs cells slots ls G h1 h2 kk => lv_astore hx hb hd G.2.1 hn rfl (fun ls' hl => kk H locs cells slots ls' (G.ls (lset_has hl)))⟩
    next => cases h
  · split at h
    next hn =>
      obtain rfl := nx_inv h
      exact ⟨mo.rf, fun H locs cells slots ls G h1 h2 kk => lv_astoreN hx hb hd G.2.1 hn rfl (fun ls' hl => kk H locs cells slots ls' (G.ls (lset_has hl)))⟩
    next => cases h
theorem lk_idx : ∀ {L : List (Nat × Value)} {i : Nat} {v : Value}, lk L i = some v → ∃ k : Nat, L[k]? = some (i, v)
  | [], i, v, h => by simp [lk] at h
  | (j, u) :: r, i, v, h => by
    rw [lk] at h
    split at h
    next hj => cases h; subst hj; exact ⟨0, rfl⟩
    next hj => obtain ⟨k, hk⟩ := lk_idx h; exact ⟨k + 1, hk⟩
theorem so_iinc (C : Cx p s m args meth c D cA sc o) (n : Nat) (k : Int) : StOK p l e R s m args below meth c Q D cA sc f o bz bu (.iinc n k) := by
  intro pc L st w c' len hd hk h
  obtain ⟨hx, hb, hml, hown, hts, hKK, hin⟩ := C
  dsimp only [stp1] at h
  dsimp only [okl] at hk
  replace hk := of_decide_eq_true hk
  dsimp only [iln] at hk
  subst hk
  obtain ⟨x, hv, h⟩ := oI_inv h
  split at h
  next hn =>
    obtain rfl := nx_inv h
    obtain ⟨k0, hk0⟩ := lk_idx hv
    exact ⟨mo.rf, fun H locs cells slots ls G h1 h2 kk => lv_iinc hx hb hd G.2.1 hk0 rfl hn rfl (fun ls' hl => kk H locs cells slots ls' (G.ls (lset_has hl)))⟩
  next => cases h
theorem so_iconst (C : Cx p s m args meth c D cA sc o) (n : Int) : StOK p l e R s m args below meth c Q D cA sc f o bz bu (.iconst n) := by
  intro pc L st w c' len hd hk h
  obtain ⟨hx, hb, hml, hown, hts, hKK, hin⟩ := C
  dsimp only [stp1] at h
  dsimp only [okl] at hk
  replace hk := of_decide_eq_true hk
  dsimp only [iln] at hk
  subst hk
  obtain rfl := nx_inv h
  refine ⟨mo.rf, fun H locs cells slots ls G h1 h2 kk => ?_⟩
  exact lv_iconst hx hb hd rfl (kk H locs cells slots ls G)
theorem so_bipush (C : Cx p s m args meth c D cA sc o) (n : Int) : StOK p l e R s m args below meth c Q D cA sc f o bz bu (.bipush n) := by
  intro pc L st w c' len hd hk h
  obtain ⟨hx, hb, hml, hown, hts, hKK, hin⟩ := C
  dsimp only [stp1] at h
  dsimp only [okl] at hk
  replace hk := of_decide_eq_true hk
  dsimp only [iln] at hk
  subst hk
  obtain rfl := nx_inv h
  refine ⟨mo.rf, fun H locs cells slots ls G h1 h2 kk => ?_⟩
  exact lv_bipush hx hb hd rfl (kk H locs cells slots ls G)
theorem so_sipush (C : Cx p s m args meth c D cA sc o) (n : Int) : StOK p l e R s m args below meth c Q D cA sc f o bz bu (.sipush n) := by
  intro pc L st w c' len hd hk h
  obtain ⟨hx, hb, hml, hown, hts, hKK, hin⟩ := C
  dsimp only [stp1] at h
  dsimp only [okl] at hk
  replace hk := of_decide_eq_true hk
  dsimp only [iln] at hk
  subst hk
  obtain rfl := nx_inv h
  refine ⟨mo.rf, fun H locs cells slots ls G h1 h2 kk => ?_⟩
  exact lv_sipush hx hb hd rfl (kk H locs cells slots ls G)
theorem so_lconst (C : Cx p s m args meth c D cA sc o) (n : Fin 2) : StOK p l e R s m args below meth c Q D cA sc f o bz bu (.lconst n) := by
  intro pc L st w c' len hd hk h
  obtain ⟨hx, hb, hml, hown, hts, hKK, hin⟩ := C
  dsimp only [stp1] at h
  dsimp only [okl] at hk
  replace hk := of_decide_eq_true hk
  dsimp only [iln] at hk
  subst hk
  obtain rfl := nx_inv h
  refine ⟨mo.rf, fun H locs cells slots ls G h1 h2 kk => ?_⟩
  exact lv_lconst hx hb hd rfl (kk H locs cells slots ls G)
theorem so_aconst_null (C : Cx p s m args meth c D cA sc o) : StOK p l e R s m args below meth c Q D cA sc f o bz bu .aconst_null := by
  intro pc L st w c' len hd hk h
  obtain ⟨hx, hb, hml, hown, hts, hKK, hin⟩ := C
  dsimp only [stp1] at h
  dsimp only [okl] at hk
  replace hk := of_decide_eq_true hk
  dsimp only [iln] at hk
  subst hk
  obtain rfl := nx_inv h
  refine ⟨mo.rf, fun H locs cells slots ls G h1 h2 kk => ?_⟩
  exact lv_null hx hb hd (kk H locs cells slots ls G)
theorem so_ldc (C : Cx p s m args meth c D cA sc o) (n : Nat) : StOK p l e R s m args below meth c Q D cA sc f o bz bu (.ldc n) := by
  intro pc L st w c' len hd hk h
  obtain ⟨hx, hb, hml, hown, hts, hKK, hin⟩ := C
  dsimp only [stp1] at h
  dsimp only [okl] at hk
  replace hk := of_decide_eq_true hk
  dsimp only [iln] at hk
  subst hk
  cases hf : fK (xCl o) n with
  | none => rw [hf] at h; cases h
  | some x =>
    rw [hf] at h
    obtain rfl := nx_inv h
    exact ⟨mo.rf, fun H locs cells slots ls G h1 h2 kk => lv_ldc hx hb hown (hts _ (fK_ok hf)) hd (kk H locs cells slots ls G)⟩
theorem so_dup (C : Cx p s m args meth c D cA sc o) : StOK p l e R s m args below meth c Q D cA sc f o bz bu .dup := by
  intro pc L st w c' len hd hk h
  obtain ⟨hx, hb, hml, hown, hts, hKK, hin⟩ := C
  dsimp only [stp1] at h
  dsimp only [okl] at hk
  replace hk := of_decide_eq_true hk
  dsimp only [iln] at hk
  subst hk
  cases st with
  | nil => cases h
  | cons v st =>
    dsimp only [stp1] at h
    split at h
    next hc =>
      obtain rfl := nx_inv h
      exact ⟨mo.rf, fun H locs cells slots ls G h1 h2 kk => lv_dup hx hb hd (cat2_of hc) (kk H locs cells slots ls G)⟩
    next => cases h
theorem so_pop (C : Cx p s m args meth c D cA sc o) : StOK p l e R s m args below meth c Q D cA sc f o bz bu .pop := by
  intro pc L st w c' len hd hk h
  obtain ⟨hx, hb, hml, hown, hts, hKK, hin⟩ := C
  dsimp only [stp1] at h
  dsimp only [okl] at hk
  replace hk := of_decide_eq_true hk
  dsimp only [iln] at hk
  subst hk
  cases st with
  | nil => cases h
  | cons v st =>
    dsimp only [stp1] at h
    split at h
    next hc =>
      obtain rfl := nx_inv h
      exact ⟨mo.rf, fun H locs cells slots ls G h1 h2 kk => lv_pop hx hb hd (cat2_of hc) (kk H locs cells slots ls G)⟩
    next => cases h
theorem so_dup2 (C : Cx p s m args meth c D cA sc o) : StOK p l e R s m args below meth c Q D cA sc f o bz bu .dup2 := by
  intro pc L st w c' len hd hk h
  obtain ⟨hx, hb, hml, hown, hts, hKK, hin⟩ := C
  dsimp only [stp1] at h
  dsimp only [okl] at hk
  replace hk := of_decide_eq_true hk
  dsimp only [iln] at hk
  subst hk
  cases st with
  | nil => cases h
  | cons v st =>
    cases st with
    | nil => cases h
    | cons u st =>
      dsimp only at h
      split at h
      next hc =>
        obtain rfl := nx_inv h
        exact ⟨mo.rf, fun H locs cells slots ls G h1 h2 kk => lv_dup2_11 hx hb hd (cat2_of hc.1) (cat2_of hc.2) (kk H locs cells slots ls G)⟩
      next => cases h
theorem so_iadd (C : Cx p s m args meth c D cA sc o) : StOK p l e R s m args below meth c Q D cA sc f o bz bu .iadd := by
  intro pc L st w c' len hd hk h
  obtain ⟨hx, hb, hml, hown, hts, hKK, hin⟩ := C
  dsimp only [stp1] at h
  dsimp only [okl] at hk
  replace hk := of_decide_eq_true hk
  dsimp only [iln] at hk
  subst hk
  obtain ⟨y, r, e1, h9⟩ := sI_inv h
  clear h
  subst e1
  have h := h9
  clear h9
  obtain ⟨x, r, e1, h9⟩ := sI_inv h
  clear h
  subst e1
  have h := h9
  clear h9
  obtain rfl := nx_inv h
  refine ⟨mo.rf, fun H locs cells slots ls G h1 h2 kk => ?_⟩
  exact lv_iadd hx hb hd (kk H locs cells slots ls G)
theorem so_isub (C : Cx p s m args meth c D cA sc o) : StOK p l e R s m args below meth c Q D cA sc f o bz bu .isub := by
  intro pc L st w c' len hd hk h
  obtain ⟨hx, hb, hml, hown, hts, hKK, hin⟩ := C
  dsimp only [stp1] at h
  dsimp only [okl] at hk
  replace hk := of_decide_eq_true hk
  dsimp only [iln] at hk
  subst hk
  obtain ⟨y, r, e1, h9⟩ := sI_inv h
  clear h
  subst e1
  have h := h9
  clear h9
  obtain ⟨x, r, e1, h9⟩ := sI_inv h
  clear h
  subst e1
  have h := h9
  clear h9
  obtain rfl := nx_inv h
  refine ⟨mo.rf, fun H locs cells slots ls G h1 h2 kk => ?_⟩
  exact lv_isub hx hb hd (kk H locs cells slots ls G)
theorem so_imul (C : Cx p s m args meth c D cA sc o) : StOK p l e R s m args below meth c Q D cA sc f o bz bu .imul := by
  intro pc L st w c' len hd hk h
  obtain ⟨hx, hb, hml, hown, hts, hKK, hin⟩ := C
  dsimp only [stp1] at h
  dsimp only [okl] at hk
  replace hk := of_decide_eq_true hk
  dsimp only [iln] at hk
  subst hk
  obtain ⟨y, r, e1, h9⟩ := sI_inv h
  clear h
  subst e1
  have h := h9
  clear h9
  obtain ⟨x, r, e1, h9⟩ := sI_inv h
  clear h
  subst e1
  have h := h9
  clear h9
  obtain rfl := nx_inv h
  refine ⟨mo.rf, fun H locs cells slots ls G h1 h2 kk => ?_⟩
  exact lv_imul hx hb hd (kk H locs cells slots ls G)
theorem so_iand (C : Cx p s m args meth c D cA sc o) : StOK p l e R s m args below meth c Q D cA sc f o bz bu .iand := by
  intro pc L st w c' len hd hk h
  obtain ⟨hx, hb, hml, hown, hts, hKK, hin⟩ := C
  dsimp only [stp1] at h
  dsimp only [okl] at hk
  replace hk := of_decide_eq_true hk
  dsimp only [iln] at hk
  subst hk
  obtain ⟨y, r, e1, h9⟩ := sI_inv h
  clear h
  subst e1
  have h := h9
  clear h9
  obtain ⟨x, r, e1, h9⟩ := sI_inv h
  clear h
  subst e1
  have h := h9
  clear h9
  obtain rfl := nx_inv h
  refine ⟨mo.rf, fun H locs cells slots ls G h1 h2 kk => ?_⟩
  exact lv_iand hx hb hd (kk H locs cells slots ls G)
theorem so_ishr (C : Cx p s m args meth c D cA sc o) : StOK p l e R s m args below meth c Q D cA sc f o bz bu .ishr := by
  intro pc L st w c' len hd hk h
  obtain ⟨hx, hb, hml, hown, hts, hKK, hin⟩ := C
  dsimp only [stp1] at h
  dsimp only [okl] at hk
  replace hk := of_decide_eq_true hk
  dsimp only [iln] at hk
  subst hk
  obtain ⟨y, r, e1, h9⟩ := sI_inv h
  clear h
  subst e1
  have h := h9
  clear h9
  obtain ⟨x, r, e1, h9⟩ := sI_inv h
  clear h
  subst e1
  have h := h9
  clear h9
  obtain rfl := nx_inv h
  refine ⟨mo.rf, fun H locs cells slots ls G h1 h2 kk => ?_⟩
  exact lv_ishr hx hb hd (kk H locs cells slots ls G)
theorem so_land (C : Cx p s m args meth c D cA sc o) : StOK p l e R s m args below meth c Q D cA sc f o bz bu .land := by
  intro pc L st w c' len hd hk h
  obtain ⟨hx, hb, hml, hown, hts, hKK, hin⟩ := C
  dsimp only [stp1] at h
  dsimp only [okl] at hk
  replace hk := of_decide_eq_true hk
  dsimp only [iln] at hk
  subst hk
  obtain ⟨y, r, e1, h9⟩ := sL_inv h
  clear h
  subst e1
  have h := h9
  clear h9
  obtain ⟨x, r, e1, h9⟩ := sL_inv h
  clear h
  subst e1
  have h := h9
  clear h9
  obtain rfl := nx_inv h
  refine ⟨mo.rf, fun H locs cells slots ls G h1 h2 kk => ?_⟩
  exact lv_land hx hb hd (kk H locs cells slots ls G)
theorem so_lor (C : Cx p s m args meth c D cA sc o) : StOK p l e R s m args below meth c Q D cA sc f o bz bu .lor := by
  intro pc L st w c' len hd hk h
  obtain ⟨hx, hb, hml, hown, hts, hKK, hin⟩ := C
  dsimp only [stp1] at h
  dsimp only [okl] at hk
  replace hk := of_decide_eq_true hk
  dsimp only [iln] at hk
  subst hk
  obtain ⟨y, r, e1, h9⟩ := sL_inv h
  clear h
  subst e1
  have h := h9
  clear h9
  obtain ⟨x, r, e1, h9⟩ := sL_inv h
  clear h
  subst e1
  have h := h9
  clear h9
  obtain rfl := nx_inv h
  refine ⟨mo.rf, fun H locs cells slots ls G h1 h2 kk => ?_⟩
  exact lv_lor hx hb hd (kk H locs cells slots ls G)
theorem so_lshl (C : Cx p s m args meth c D cA sc o) : StOK p l e R s m args below meth c Q D cA sc f o bz bu .lshl := by
  intro pc L st w c' len hd hk h
  obtain ⟨hx, hb, hml, hown, hts, hKK, hin⟩ := C
  dsimp only [stp1] at h
  dsimp only [okl] at hk
  replace hk := of_decide_eq_true hk
  dsimp only [iln] at hk
  subst hk
  obtain ⟨y, r, e1, h9⟩ := sI_inv h
  clear h
  subst e1
  have h := h9
  clear h9
  obtain ⟨x, r, e1, h9⟩ := sL_inv h
  clear h
  subst e1
  have h := h9
  clear h9
  obtain rfl := nx_inv h
  refine ⟨mo.rf, fun H locs cells slots ls G h1 h2 kk => ?_⟩
  exact lv_lshl hx hb hd rfl (kk H locs cells slots ls G)
theorem so_lshr (C : Cx p s m args meth c D cA sc o) : StOK p l e R s m args below meth c Q D cA sc f o bz bu .lshr := by
  intro pc L st w c' len hd hk h
  obtain ⟨hx, hb, hml, hown, hts, hKK, hin⟩ := C
  dsimp only [stp1] at h
  dsimp only [okl] at hk
  replace hk := of_decide_eq_true hk
  dsimp only [iln] at hk
  subst hk
  obtain ⟨y, r, e1, h9⟩ := sI_inv h
  clear h
  subst e1
  have h := h9
  clear h9
  obtain ⟨x, r, e1, h9⟩ := sL_inv h
  clear h
  subst e1
  have h := h9
  clear h9
  obtain rfl := nx_inv h
  refine ⟨mo.rf, fun H locs cells slots ls G h1 h2 kk => ?_⟩
  exact lv_lshr hx hb hd rfl (kk H locs cells slots ls G)
theorem so_lcmp (C : Cx p s m args meth c D cA sc o) : StOK p l e R s m args below meth c Q D cA sc f o bz bu .lcmp := by
  intro pc L st w c' len hd hk h
  obtain ⟨hx, hb, hml, hown, hts, hKK, hin⟩ := C
  dsimp only [stp1] at h
  dsimp only [okl] at hk
  replace hk := of_decide_eq_true hk
  dsimp only [iln] at hk
  subst hk
  obtain ⟨y, r, e1, h9⟩ := sL_inv h
  clear h
  subst e1
  have h := h9
  clear h9
  obtain ⟨x, r, e1, h9⟩ := sL_inv h
  clear h
  subst e1
  have h := h9
  clear h9
  obtain rfl := nx_inv h
  refine ⟨mo.rf, fun H locs cells slots ls G h1 h2 kk => ?_⟩
  exact W.lcmp hx hb hd (kk H locs cells slots ls G)
theorem so_idiv (C : Cx p s m args meth c D cA sc o) : StOK p l e R s m args below meth c Q D cA sc f o bz bu .idiv := by
  intro pc L st w c' len hd hk h
  obtain ⟨hx, hb, hml, hown, hts, hKK, hin⟩ := C
  dsimp only [stp1] at h
  dsimp only [okl] at hk
  replace hk := of_decide_eq_true hk
  dsimp only [iln] at hk
  subst hk
  obtain ⟨y, r, e1, h9⟩ := sI_inv h
  clear h
  subst e1
  have h := h9
  clear h9
  obtain ⟨x, r, e1, h9⟩ := sI_inv h
  clear h
  subst e1
  have h := h9
  clear h9
  split at h
  next => cases h
  next hy =>
    obtain rfl := nx_inv h
    exact ⟨mo.rf, fun H locs cells slots ls G h1 h2 kk => lv_idiv hx hb hd hy (kk H locs cells slots ls G)⟩
theorem so_ineg (C : Cx p s m args meth c D cA sc o) : StOK p l e R s m args below meth c Q D cA sc f o bz bu .ineg := by
  intro pc L st w c' len hd hk h
  obtain ⟨hx, hb, hml, hown, hts, hKK, hin⟩ := C
  dsimp only [stp1] at h
  dsimp only [okl] at hk
  replace hk := of_decide_eq_true hk
  dsimp only [iln] at hk
  subst hk
  obtain ⟨x, r, e1, h9⟩ := sI_inv h
  clear h
  subst e1
  have h := h9
  clear h9
  obtain rfl := nx_inv h
  refine ⟨mo.rf, fun H locs cells slots ls G h1 h2 kk => ?_⟩
  exact lv_ineg hx hb hd (kk H locs cells slots ls G)
theorem so_i2c (C : Cx p s m args meth c D cA sc o) : StOK p l e R s m args below meth c Q D cA sc f o bz bu .i2c := by
  intro pc L st w c' len hd hk h
  obtain ⟨hx, hb, hml, hown, hts, hKK, hin⟩ := C
  dsimp only [stp1] at h
  dsimp only [okl] at hk
  replace hk := of_decide_eq_true hk
  dsimp only [iln] at hk
  subst hk
  obtain ⟨x, r, e1, h9⟩ := sI_inv h
  clear h
  subst e1
  have h := h9
  clear h9
  obtain rfl := nx_inv h
  refine ⟨mo.rf, fun H locs cells slots ls G h1 h2 kk => ?_⟩
  exact lv_i2c hx hb hd rfl (kk H locs cells slots ls G)
theorem so_ifCond (C : Cx p s m args meth c D cA sc o) (q : ClassFile.Cond) (off : Int) : StOK p l e R s m args below meth c Q D cA sc f o bz bu (.ifCond q off) := by
  intro pc L st w c' len hd hk h
  obtain ⟨hx, hb, hml, hown, hts, hKK, hin⟩ := C
  dsimp only [stp1] at h
  dsimp only [okl] at hk
  replace hk := of_decide_eq_true hk
  dsimp only [iln] at hk
  subst hk
  obtain ⟨x, r, e1, h9⟩ := sI_inv h
  clear h
  subst e1
  have h := h9
  clear h9
  obtain ⟨t, et, h⟩ := jmp_inv h
  cases q
  · by_cases hc : x = 0
    · rw [if_pos (by simpa [ihold] using hc)] at h
      obtain rfl := nx_inv h
      exact ⟨mo.rf, fun H locs cells slots ls G h1 h2 kk => lv_if_eq hx hb hd et (fun _ => kk H locs cells slots ls G) (fun n => absurd hc n)⟩
    · rw [if_neg (by simpa [ihold] using hc)] at h
      obtain rfl := nx_inv h
      exact ⟨mo.rf, fun H locs cells slots ls G h1 h2 kk => lv_if_eq hx hb hd et (fun n => absurd n hc) (fun _ => kk H locs cells slots ls G)⟩
  · by_cases hc : ¬ x = 0
    · rw [if_pos (by simpa [ihold] using hc)] at h
      obtain rfl := nx_inv h
      exact ⟨mo.rf, fun H locs cells slots ls G h1 h2 kk => lv_if_ne hx hb hd et (fun _ => kk H locs cells slots ls G) (fun n => absurd n hc)⟩
    · rw [if_neg (by simpa [ihold] using hc)] at h
      obtain rfl := nx_inv h
      exact ⟨mo.rf, fun H locs cells slots ls G h1 h2 kk => lv_if_ne hx hb hd et (fun n => absurd n hc) (fun _ => kk H locs cells slots ls G)⟩
  · by_cases hc : x < 0
    · rw [if_pos (by simpa [ihold] using hc)] at h
      obtain rfl := nx_inv h
      exact ⟨mo.rf, fun H locs cells slots ls G h1 h2 kk => lv_if_lt hx hb hd et (fun _ => kk H locs cells slots ls G) (fun n => absurd hc n)⟩
    · rw [if_neg (by simpa [ihold] using hc)] at h
      obtain rfl := nx_inv h
      exact ⟨mo.rf, fun H locs cells slots ls G h1 h2 kk => lv_if_lt hx hb hd et (fun n => absurd n hc) (fun _ => kk H locs cells slots ls G)⟩
  · by_cases hc : 0 ≤ x
    · rw [if_pos (by simpa [ihold] using hc)] at h
      obtain rfl := nx_inv h
      exact ⟨mo.rf, fun H locs cells slots ls G h1 h2 kk => lv_if_ge hx hb hd et (fun _ => kk H locs cells slots ls G) (fun n => absurd hc n)⟩
    · rw [if_neg (by simpa [ihold] using hc)] at h
      obtain rfl := nx_inv h
      exact ⟨mo.rf, fun H locs cells slots ls G h1 h2 kk => lv_if_ge hx hb hd et (fun n => absurd n hc) (fun _ => kk H locs cells slots ls G)⟩
  · by_cases hc : 0 < x
    · rw [if_pos (by simpa [ihold] using hc)] at h
      obtain rfl := nx_inv h
      exact ⟨mo.rf, fun H locs cells slots ls G h1 h2 kk => lv_if_gt hx hb hd et (fun _ => kk H locs cells slots ls G) (fun n => absurd hc n)⟩
    · rw [if_neg (by simpa [ihold] using hc)] at h
      obtain rfl := nx_inv h
      exact ⟨mo.rf, fun H locs cells slots ls G h1 h2 kk => lv_if_gt hx hb hd et (fun n => absurd n hc) (fun _ => kk H locs cells slots ls G)⟩
  · by_cases hc : x ≤ 0
    · rw [if_pos (by simpa [ihold] using hc)] at h
      obtain rfl := nx_inv h
      exact ⟨mo.rf, fun H locs cells slots ls G h1 h2 kk => lv_if_le hx hb hd et (fun _ => kk H locs cells slots ls G) (fun n => absurd hc n)⟩
    · rw [if_neg (by simpa [ihold] using hc)] at h
      obtain rfl := nx_inv h
      exact ⟨mo.rf, fun H locs cells slots ls G h1 h2 kk => lv_if_le hx hb hd et (fun n => absurd n hc) (fun _ => kk H locs cells slots ls G)⟩
theorem so_if_icmp (C : Cx p s m args meth c D cA sc o) (q : ClassFile.Cond) (off : Int) : StOK p l e R s m args below meth c Q D cA sc f o bz bu (.if_icmp q off) := by
  intro pc L st w c' len hd hk h
  obtain ⟨hx, hb, hml, hown, hts, hKK, hin⟩ := C
  dsimp only [stp1] at h
  dsimp only [okl] at hk
  replace hk := of_decide_eq_true hk
  dsimp only [iln] at hk
  subst hk
  obtain ⟨y, r, e1, h9⟩ := sI_inv h
  clear h
  subst e1
  have h := h9
  clear h9
  obtain ⟨x, r, e1, h9⟩ := sI_inv h
  clear h
  subst e1
  have h := h9
  clear h9
  obtain ⟨t, et, h⟩ := jmp_inv h
  cases q
  · by_cases hc : x = y
    · rw [if_pos (by simpa [ihold] using hc)] at h
      obtain rfl := nx_inv h
      exact ⟨mo.rf, fun H locs cells slots ls G h1 h2 kk => lv_icmp_eq hx hb hd et (fun _ => kk H locs cells slots ls G) (fun n => absurd hc n)⟩
    · rw [if_neg (by simpa [ihold] using hc)] at h
      obtain rfl := nx_inv h
      exact ⟨mo.rf, fun H locs cells slots ls G h1 h2 kk => lv_icmp_eq hx hb hd et (fun n => absurd n hc) (fun _ => kk H locs cells slots ls G)⟩
  · by_cases hc : ¬ x = y
    · rw [if_pos (by simpa [ihold] using hc)] at h
      obtain rfl := nx_inv h
      exact ⟨mo.rf, fun H locs cells slots ls G h1 h2 kk => lv_icmp_ne hx hb hd et (fun _ => kk H locs cells slots ls G) (fun n => absurd n hc)⟩
    · rw [if_neg (by simpa [ihold] using hc)] at h
      obtain rfl := nx_inv h
      exact ⟨mo.rf, fun H locs cells slots ls G h1 h2 kk => lv_icmp_ne hx hb hd et (fun n => absurd n hc) (fun _ => kk H locs cells slots ls G)⟩
  · by_cases hc : x < y
    · rw [if_pos (by simpa [ihold] using hc)] at h
      obtain rfl := nx_inv h
      exact ⟨mo.rf, fun H locs cells slots ls G h1 h2 kk => lv_icmp_lt hx hb hd et (fun _ => kk H locs cells slots ls G) (fun n => absurd hc n)⟩
    · rw [if_neg (by simpa [ihold] using hc)] at h
      obtain rfl := nx_inv h
      exact ⟨mo.rf, fun H locs cells slots ls G h1 h2 kk => lv_icmp_lt hx hb hd et (fun n => absurd n hc) (fun _ => kk H locs cells slots ls G)⟩
  · by_cases hc : y ≤ x
    · rw [if_pos (by simpa [ihold] using hc)] at h
      obtain rfl := nx_inv h
      exact ⟨mo.rf, fun H locs cells slots ls G h1 h2 kk => lv_icmp_ge hx hb hd et (fun _ => kk H locs cells slots ls G) (fun n => absurd hc n)⟩
    · rw [if_neg (by simpa [ihold] using hc)] at h
      obtain rfl := nx_inv h
      exact ⟨mo.rf, fun H locs cells slots ls G h1 h2 kk => lv_icmp_ge hx hb hd et (fun n => absurd n hc) (fun _ => kk H locs cells slots ls G)⟩
  · by_cases hc : y < x
    · rw [if_pos (by simpa [ihold] using hc)] at h
      obtain rfl := nx_inv h
      exact ⟨mo.rf, fun H locs cells slots ls G h1 h2 kk => lv_icmp_gt hx hb hd et (fun _ => kk H locs cells slots ls G) (fun n => absurd hc n)⟩
    · rw [if_neg (by simpa [ihold] using hc)] at h
      obtain rfl := nx_inv h
      exact ⟨mo.rf, fun H locs cells slots ls G h1 h2 kk => lv_icmp_gt hx hb hd et (fun n => absurd n hc) (fun _ => kk H locs cells slots ls G)⟩
  · by_cases hc : x ≤ y
    · rw [if_pos (by simpa [ihold] using hc)] at h
      obtain rfl := nx_inv h
      exact ⟨mo.rf, fun H locs cells slots ls G h1 h2 kk => lv_icmp_le hx hb hd et (fun _ => kk H locs cells slots ls G) (fun n => absurd hc n)⟩
    · rw [if_neg (by simpa [ihold] using hc)] at h
      obtain rfl := nx_inv h
      exact ⟨mo.rf, fun H locs cells slots ls G h1 h2 kk => lv_icmp_le hx hb hd et (fun n => absurd n hc) (fun _ => kk H locs cells slots ls G)⟩
theorem so_ifnull (C : Cx p s m args meth c D cA sc o) (off : Int) : StOK p l e R s m args below meth c Q D cA sc f o bz bu (.ifnull off) := by
  intro pc L st w c' len hd hk h
  obtain ⟨hx, hb, hml, hown, hts, hKK, hin⟩ := C
  dsimp only [stp1] at h
  dsimp only [okl] at hk
  replace hk := of_decide_eq_true hk
  dsimp only [iln] at hk
  subst hk
  match st, h with
  | [], h => cases h
  | .ref a :: st, h =>
    obtain rfl := nx_inv h
    exact ⟨mo.rf, fun H locs cells slots ls G h1 h2 kk => lv_ifnull hx hb hd (kk H locs cells slots ls G)⟩
  | .null :: st, h =>
    obtain ⟨t, et, h⟩ := jmp_inv h
    obtain rfl := nx_inv h
    exact ⟨mo.rf, fun H locs cells slots ls G h1 h2 kk => lv_ifnullN hx hb hd et (kk H locs cells slots ls G)⟩
  | .int _ :: st, h => cases h
  | .long _ :: st, h => cases h
  | .float _ :: st, h => cases h
  | .double _ :: st, h => cases h
  | .retAddr _ :: st, h => cases h
theorem so_ifnonnull (C : Cx p s m args meth c D cA sc o) (off : Int) : StOK p l e R s m args below meth c Q D cA sc f o bz bu (.ifnonnull off) := by
  intro pc L st w c' len hd hk h
  obtain ⟨hx, hb, hml, hown, hts, hKK, hin⟩ := C
  dsimp only [stp1] at h
  dsimp only [okl] at hk
  replace hk := of_decide_eq_true hk
  dsimp only [iln] at hk
  subst hk
  match st, h with
  | [], h => cases h
  | .ref a :: st, h =>
    obtain ⟨t, et, h⟩ := jmp_inv h
    obtain rfl := nx_inv h
    exact ⟨mo.rf, fun H locs cells slots ls G h1 h2 kk => lv_ifnonnull hx hb hd et (kk H locs cells slots ls G)⟩
  | .null :: st, h =>
    obtain rfl := nx_inv h
    exact ⟨mo.rf, fun H locs cells slots ls G h1 h2 kk => lv_ifnonnullN hx hb hd (kk H locs cells slots ls G)⟩
  | .int _ :: st, h => cases h
  | .long _ :: st, h => cases h
  | .float _ :: st, h => cases h
  | .double _ :: st, h => cases h
  | .retAddr _ :: st, h => cases h
theorem so_goto (C : Cx p s m args meth c D cA sc o) (off : Int) : StOK p l e R s m args below meth c Q D cA sc f o bz bu (.goto off) := by
  intro pc L st w c' len hd hk h
  obtain ⟨hx, hb, hml, hown, hts, hKK, hin⟩ := C
  dsimp only [stp1] at h
  dsimp only [okl] at hk
  replace hk := of_decide_eq_true hk
  dsimp only [iln] at hk
  subst hk
  obtain ⟨t, et, h⟩ := jmp_inv h
  obtain rfl := nx_inv h
  exact ⟨mo.rf, fun H locs cells slots ls G h1 h2 kk => lv_goto hx hb hd et (kk H locs cells slots ls G)⟩
theorem so_tableswitch (C : Cx p s m args meth c D cA sc o) (dflt lo hi : Int) (offs : Array Int) : StOK p l e R s m args below meth c Q D cA sc f o bz bu (.tableswitch dflt lo hi offs) := by
  intro pc L st w c' len hd hk h
  obtain ⟨hx, hb, hml, hown, hts, hKK, hin⟩ := C
  dsimp only [stp1] at h
  obtain ⟨x, r, e1, h9⟩ := sI_inv h
  clear h
  subst e1
  have h := h9
  clear h9
  split at h
  next hc =>
    obtain ⟨t, et, h⟩ := jmp_inv h
    obtain rfl := nx_inv h
    exact ⟨mo.rf, fun H locs cells slots ls G h1 h2 kk => lv_tableOut hx hb hd hc et (kk H locs cells slots ls G)⟩
  next hc =>
    split at h
    next off ho =>
      obtain ⟨t, et, h⟩ := jmp_inv h
      obtain rfl := nx_inv h
      exact ⟨mo.rf, fun H locs cells slots ls G h1 h2 kk => lv_tableIn hx hb hd (fun z => hc (Or.inl z)) (fun z => hc (Or.inr z)) ho et (kk H locs cells slots ls G)⟩
    next => cases h
theorem so_lookupswitch (C : Cx p s m args meth c D cA sc o) (dflt : Int) (ps : Array (Int × Int)) : StOK p l e R s m args below meth c Q D cA sc f o bz bu (.lookupswitch dflt ps) := by
  intro pc L st w c' len hd hk h
  obtain ⟨hx, hb, hml, hown, hts, hKK, hin⟩ := C
  dsimp only [stp1] at h
  obtain ⟨x, r, e1, h9⟩ := sI_inv h
  clear h
  subst e1
  have h := h9
  clear h9
  split at h
  next hc =>
    obtain ⟨t, et, h⟩ := jmp_inv h
    obtain rfl := nx_inv h
    exact ⟨mo.rf, fun H locs cells slots ls G h1 h2 kk => lv_lookup hx hb hd hc rfl et (kk H locs cells slots ls G)⟩
  next => cases h
end SND
