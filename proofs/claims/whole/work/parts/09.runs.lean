/-! whole methods: what our machine says, the machine does -/
/-- no result yet -/
def NI (x : xO) : Prop := ∀ r, x ≠ some (.inl r)
theorem ni_none : NI none := fun r h => by cases h
theorem ni_nx {pc : Nat} {L : List (Nat × Value)} {st : List Value} {w : Wd} : NI (nx pc L st w) := fun r h => nx_inl h
theorem ni_sI {st : List Value} {f : Int32 → List Value → xO} (h : ∀ x r, NI (f x r)) : NI (sI st f) := fun r e => by obtain ⟨x, q, -, k⟩ := sI_inv e; exact h x q r k
theorem ni_sL {st : List Value} {f : Int64 → List Value → xO} (h : ∀ x r, NI (f x r)) : NI (sL st f) := fun r e => by obtain ⟨x, q, -, k⟩ := sL_inv e; exact h x q r k
theorem ni_sA {st : List Value} {f : Nat → List Value → xO} (h : ∀ x r, NI (f x r)) : NI (sA st f) := fun r e => by obtain ⟨x, q, -, k⟩ := sA_inv e; exact h x q r k
theorem ni_sA0 {st : List Value} {f : Value → List Value → xO} (h : ∀ x r, NI (f x r)) : NI (sA0 st f) := fun r e => by
  rcases sA0_inv e with ⟨x, q, -, k⟩ | ⟨q, -, k⟩
  · exact h _ q r k
  · exact h _ q r k
theorem ni_oI {v : Option Value} {f : Int32 → xO} (h : ∀ x, NI (f x)) : NI (oI v f) := fun r e => by obtain ⟨x, -, k⟩ := oI_inv e; exact h x r k
theorem ni_oL {v : Option Value} {f : Int64 → xO} (h : ∀ x, NI (f x)) : NI (oL v f) := fun r e => by obtain ⟨x, -, k⟩ := oL_inv e; exact h x r k
theorem ni_oA {v : Option Value} {f : Value → xO} (h : ∀ x, NI (f x)) : NI (oA v f) := fun r e => by
  rcases oA_inv e with ⟨x, -, k⟩ | ⟨-, k⟩
  · exact h _ r k
  · exact h _ r k
theorem ni_jmp {pc : Nat} {off : Int} {f : Nat → xO} (h : ∀ t, NI (f t)) : NI (jmp pc off f) := fun r e => by obtain ⟨t, -, k⟩ := jmp_inv e; exact h t r k
theorem ni_call {f : xF} {y : Nat} {As : List Value} {w : Wd} {pc : Nat} {L : List (Nat × Value)} {st : List Value} : NI (xcall f y As w pc L st) := fun r e => by
  unfold xcall at e
  split at e
  · split at e
    · exact nx_inl e
    · cases e
  · cases e
theorem ni_stp {f : xF} {o pc : Nat} {L : List (Nat × Value)} {st : List Value} {w : Wd} (i : Instr) (h1 : i ≠ .ireturn) (h2 : i ≠ .areturn) (h3 : i ≠ .return_) : NI (stp1 f o pc L st w i) := by
  cases i
  case ireturn => exact absurd rfl h1
  case areturn => exact absurd rfl h2
  case return_ => exact absurd rfl h3
  all_goals
    clear h1 h2 h3
    dsimp only [stp1]
    repeat' first
      | exact ni_none
      | exact ni_nx
      | exact ni_call
      | (refine ni_sI fun _ _ => ?_)
      | (refine ni_sL fun _ _ => ?_)
      | (refine ni_sA fun _ _ => ?_)
      | (refine ni_sA0 fun _ _ => ?_)
      | (refine ni_oI fun _ => ?_)
      | (refine ni_oL fun _ => ?_)
      | (refine ni_oA fun _ => ?_)
      | (refine ni_jmp fun _ => ?_)
      | split
/-- a result leaves the cells as they are -/
theorem ret_same {f : xF} {o pc : Nat} {L : List (Nat × Value)} {st : List Value} {w : Wd} {i : Instr} {v : Option Value} {w' : Wd} (h : stp1 f o pc L st w i = some (.inl (v, w'))) : w' = w := by
  by_cases h1 : i = .ireturn
  · subst h1
    dsimp only [stp1] at h
    split at h
    · split at h
      · split at h <;> cases h; rfl
      · cases h
    · cases h
  by_cases h2 : i = .areturn
  · subst h2
    dsimp only [stp1] at h
    split at h
    · split at h <;> cases h <;> rfl
    · split at h <;> cases h <;> rfl
    · cases h
  by_cases h3 : i = .return_
  · subst h3
    dsimp only [stp1] at h
    split at h
    · split at h <;> cases h; rfl
    · cases h
  exact absurd h (ni_stp i h1 h2 h3 _)
/-- cells only come -/
def MI (w : Wd) (x : xO) : Prop := ∀ c, x = some (.inr c) → mo w c.2.2.2
theorem mi_none {w : Wd} : MI w none := fun c h => by cases h
theorem mi_inl {w : Wd} {r : xR} : MI w (some (.inl r)) := fun c h => by cases h
theorem mi_nx {w w' : Wd} {pc : Nat} {L : List (Nat × Value)} {st : List Value} (h : mo w w') : MI w (nx pc L st w') := fun c e => by rw [nx_inv e]; exact h
theorem mi_sI {w : Wd} {st : List Value} {f : Int32 → List Value → xO} (h : ∀ x r, MI w (f x r)) : MI w (sI st f) := fun r e => by obtain ⟨x, q, -, k⟩ := sI_inv e; exact h x q r k
theorem mi_sL {w : Wd} {st : List Value} {f : Int64 → List Value → xO} (h : ∀ x r, MI w (f x r)) : MI w (sL st f) := fun r e => by obtain ⟨x, q, -, k⟩ := sL_inv e; exact h x q r k
theorem mi_sA {w : Wd} {st : List Value} {f : Nat → List Value → xO} (h : ∀ x r, MI w (f x r)) : MI w (sA st f) := fun r e => by obtain ⟨x, q, -, k⟩ := sA_inv e; exact h x q r k
theorem mi_sA0 {w : Wd} {st : List Value} {f : Value → List Value → xO} (h : ∀ x r, MI w (f x r)) : MI w (sA0 st f) := fun r e => by
  rcases sA0_inv e with ⟨x, q, -, k⟩ | ⟨q, -, k⟩
  · exact h _ q r k
  · exact h _ q r k
theorem mi_oI {w : Wd} {v : Option Value} {f : Int32 → xO} (h : ∀ x, MI w (f x)) : MI w (oI v f) := fun r e => by obtain ⟨x, -, k⟩ := oI_inv e; exact h x r k
theorem mi_oL {w : Wd} {v : Option Value} {f : Int64 → xO} (h : ∀ x, MI w (f x)) : MI w (oL v f) := fun r e => by obtain ⟨x, -, k⟩ := oL_inv e; exact h x r k
theorem mi_oA {w : Wd} {v : Option Value} {f : Value → xO} (h : ∀ x, MI w (f x)) : MI w (oA v f) := fun r e => by
  rcases oA_inv e with ⟨x, -, k⟩ | ⟨-, k⟩
  · exact h _ r k
  · exact h _ r k
theorem mi_jmp {w : Wd} {pc : Nat} {off : Int} {f : Nat → xO} (h : ∀ t, MI w (f t)) : MI w (jmp pc off f) := fun r e => by obtain ⟨t, -, k⟩ := jmp_inv e; exact h t r k
theorem mi_call {f : xF} {y : Nat} {As : List Value} {w : Wd} {pc : Nat} {L : List (Nat × Value)} {st : List Value} (hf : RunMo f) : MI w (xcall f y As w pc L st) := fun c e => by
  obtain ⟨v, w', h, -, rfl⟩ := xcall_inv e
  exact hf _ _ _ _ _ h
theorem pf_mo {w w' : Wd} {a c k : Nat} {v : Value} (h : pf w a c k v = some w') : mo w w' := by
  unfold pf at h
  split at h
  · split at h
    · cases h; exact ⟨rfl, Nat.le_refl _, Nat.le_refl _⟩
    · cases h
  · cases h
theorem ap_mo {w w' : Wd} {a lo hi : Nat} {j : Int32} {v : Value} (h : ap w a lo hi j v = some w') : mo w w' := by
  unfold ap at h
  split at h
  · split at h
    · cases h; exact ⟨rfl, Nat.le_refl _, Nat.le_refl _⟩
    · cases h
  · cases h
theorem wnew_mo {w : Wd} {c : HC} : mo w (wnew w c) := ⟨rfl, Nat.le_succ _, Nat.le_add_right _ _⟩
theorem mi_stp {f : xF} (hf : RunMo f) {o pc : Nat} {L : List (Nat × Value)} {st : List Value} {w : Wd} (i : Instr) : MI w (stp1 f o pc L st w i) := by
  cases i
  all_goals
    dsimp only [stp1]
    repeat' first
      | exact mi_none
      | exact mi_inl
      | exact mi_nx mo.rf
      | exact mi_nx (pf_mo (by assumption))
      | exact mi_nx (ap_mo (by assumption))
      | exact mi_nx wnew_mo
      | exact mi_call hf
      | (refine mi_sI fun _ _ => ?_)
      | (refine mi_sL fun _ _ => ?_)
      | (refine mi_sA fun _ _ => ?_)
      | (refine mi_sA0 fun _ _ => ?_)
      | (refine mi_oI fun _ => ?_)
      | (refine mi_oL fun _ => ?_)
      | (refine mi_oA fun _ => ?_)
      | (refine mi_jmp fun _ => ?_)
      | split
theorem ex_mo {f : xF} (hf : RunMo f) {o : Nat} : ∀ (n : Nat) (c0 : xC) (r : xR), ex f o n c0 = some r → mo c0.2.2.2 r.2 := by
  intro n
  induction n with
  | zero => intro c0 r h; simp [ex] at h
  | succ n ih =>
    intro c0 r h
    obtain ⟨pc, L, st, w⟩ := c0
    rw [ex] at h
    unfold xst at h
    cases hd : decode (xB o) pc with
    | error z => simp only [hd] at h; cases h
    | ok q =>
      obtain ⟨i, len⟩ := q
      simp only [hd] at h
      unfold stp at h
      by_cases hk : okl i len = true
      · rw [if_pos hk] at h
        cases hs : stp1 f o pc L st w i with
        | none => rw [hs] at h; cases h
        | some z =>
          rw [hs] at h
          cases z with
          | inl r' =>
            have e1 : r' = r := Option.some.inj h
            subst e1
            obtain ⟨v, w'⟩ := r'
            have e2 := ret_same hs
            subst e2
            exact mo.rf
          | inr c' => exact mo.tr (mi_stp hf i c' hs) (ih c' r h)
      · rw [if_neg hk] at h; cases h
theorem run_mo : ∀ (d : Nat), RunMo (run d) := by
  intro d
  induction d with
  | zero => intro o args w v w' h; simp [run] at h
  | succ d ih =>
    intro o args w v w' h
    rw [run] at h
    split at h
    · obtain ⟨n, hn⟩ := X0_iff.mp h
      exact ex_mo ih n _ _ hn
    · cases h
section SND4
variable {p : Program} {l : Launch} {e : Env} {R : Room} {s : State} {m : MethodId} {args : Array Value} {below : List Frame} {meth : Method} {c : Code} {Q : State → Prop} {D : va_G} {cA : Nat → ClassId} {sc : Cell} {f : xF} {o bz bu d : Nat}
theorem so_ret {Qc : Array Value → State → Outcome → State → Prop} {free : Addr → Prop} (hx : p.tables.exec = Jvm.exec) (hb : c.code = xB o) (hr : meth.sig.returnType = xRt o) (hlocks : meth.locks = false) {pc : Nat} {L : List (Nat × Value)} {st : List Value} {w : Wd} {i : Instr} {len : Nat} {v : Option Value} {w' : Wd} {H : Heap} {locs : List Loc} {cells slots : Nat} {ls : Array Slot}
    (hd : decode (xB o) pc = .ok (i, len)) (hk : okl i len = true) (h : stp1 f o pc L st w i = some (.inl (v, w'))) (hq : ∀ t : State, t.heap = H → s.WarmedH t.vm → Qc args s (.returned v) t) (hf : ∀ q ∈ locs, free q.base) :
    W p l e R s m args below meth c H locs cells slots (MQ below Qc args s cells slots free) (F0 m pc ls st) := by
  cases i
  case ireturn =>
    dsimp only [okl] at hk
    replace hk := of_decide_eq_true hk
    dsimp only [iln] at hk
    subst hk
    dsimp only [stp1] at h
    split at h
    next x =>
      split at h
      next ty hty =>
        split at h
        next hn =>
          cases h
          exact W.zret hx hb (hr.trans hty) hn hq hf hd hlocks
        next => cases h
      next => cases h
    next => cases h
  case areturn =>
    dsimp only [okl] at hk
    replace hk := of_decide_eq_true hk
    dsimp only [iln] at hk
    subst hk
    dsimp only [stp1] at h
    split at h
    next a =>
      split at h
      next n hty => cases h; exact W.aret hx hb (hr.trans hty) (Or.inl ⟨_, rfl⟩) (Or.inr ⟨_, rfl⟩) hq hf hd hlocks
      next n hty => cases h; exact W.aret hx hb (hr.trans hty) (Or.inr ⟨_, rfl⟩) (Or.inr ⟨_, rfl⟩) hq hf hd hlocks
      next => cases h
    next =>
      split at h
      next n hty => cases h; exact W.aret hx hb (hr.trans hty) (Or.inl ⟨_, rfl⟩) (Or.inl rfl) hq hf hd hlocks
      next n hty => cases h; exact W.aret hx hb (hr.trans hty) (Or.inr ⟨_, rfl⟩) (Or.inl rfl) hq hf hd hlocks
      next => cases h
    next => cases h
  case return_ =>
    dsimp only [okl] at hk
    replace hk := of_decide_eq_true hk
    dsimp only [iln] at hk
    subst hk
    dsimp only [stp1] at h
    split at h
    next =>
      split at h
      next hn =>
        cases h
        exact W.vret hx hb (hr.trans hn) hq hf hd hlocks
      next => cases h
    next => cases h
  all_goals exact absurd h (ni_stp _ (fun z => by cases z) (fun z => by cases z) (fun z => by cases z) _)
theorem ex_ok (C : Cx p s m args meth c D cA sc o) (hm0 : RunMo f) (hr0 : RunOK f d) (hRf : d + 1 ≤ R.frames) (hRl : 36 * d + 35 ≤ R.locals) :
    ∀ (n : Nat) (c0 : xC) (r : xR), ex f o n c0 = some r → mo c0.2.2.2 r.2 ∧ ∀ (H : Heap) (locs : List Loc) (cells slots : Nat) (ls : Array Slot), GG D cA sc o bz bu c0.2.2.2 c0.2.1 H locs cells slots ls → r.2.2.1 ≤ R.cells + bz → r.2.2.2.1 ≤ R.slots + bu →
      (∀ (pc : Nat) (L : List (Nat × Value)) (st : List Value) (i : Instr) (len : Nat) (H' : Heap) (locs' : List Loc) (cells' slots' : Nat) (ls' : Array Slot), GG D cA sc o bz bu r.2 L H' locs' cells' slots' ls' → decode (xB o) pc = .ok (i, len) → okl i len = true → stp1 f o pc L st r.2 i = some (.inl r) → W p l e R s m args below meth c H' locs' cells' slots' Q (F0 m pc ls' st)) →
      W p l e R s m args below meth c H locs cells slots Q (F0 m c0.1 ls c0.2.2.1) := by
  intro n
  induction n with
  | zero => intro c0 r h; simp [ex] at h
  | succ n ih =>
    intro c0 r h
    obtain ⟨pc, L, st, w⟩ := c0
    rw [ex] at h
    unfold xst at h
    cases hd : decode (xB o) pc with
    | error z => simp only [hd] at h; cases h
    | ok q =>
      obtain ⟨i, len⟩ := q
      simp only [hd] at h
      unfold stp at h
      by_cases hk : okl i len = true
      · rw [if_pos hk] at h
        cases hs : stp1 f o pc L st w i with
        | none => rw [hs] at h; cases h
        | some z =>
          rw [hs] at h
          cases z with
          | inl r' =>
            have e1 : r' = r := Option.some.inj h
            subst e1
            obtain ⟨v, w'⟩ := r'
            have e2 := ret_same hs
            subst e2
            exact ⟨mo.rf, fun H locs cells slots ls G h1 h2 kk => kk pc L st i len H locs cells slots ls G hd hk hs⟩
          | inr c' =>
            obtain ⟨m1, k1⟩ := so_all (p := p) (l := l) (e := e) (R := R) (s := s) (m := m) (args := args) (below := below) (meth := meth) (c := c) (Q := Q) (bz := bz) (bu := bu) C hm0 hr0 hRf hRl i pc L st w c' len hd hk hs
            obtain ⟨m2, k2⟩ := ih c' r h
            refine ⟨mo.tr m1 m2, fun H locs cells slots ls G h1 h2 kk => ?_⟩
            exact k1 H locs cells slots ls G (Nat.le_trans m2.2.1 h1) (Nat.le_trans m2.2.2 h2) fun H' locs' cells' slots' ls' G' => k2 H' locs' cells' slots' ls' G' h1 h2 kk
      · rw [if_neg hk] at h; cases h
end SND4
theorem run_ok : ∀ (d : Nat), RunOK (run d) d := by
  intro d
  induction d with
  | zero => intro l D cA sc o args w v w' ho h; simp [run] at h
  | succ d ih =>
    intro l D cA sc o args w v w' ho h
    by_cases hlen : (lg_sl args).length ≤ xL o
    case neg => rw [run, if_neg hlen] at h; cases h
    rw [run, if_pos hlen] at h
    obtain ⟨n, hn⟩ := X0_iff.mp h
    obtain ⟨hcode, hini, hcls, hmh, hplain, hpar, hmax, hv0, hv1, hv2⟩ := xM_ok o ho
    refine Met.ofW (cc := xB o) (maxL := xL o) (ret := xRt o) hplain rfl ?_
    intro p e s m vs below meth c s₁ B hml hv
    obtain ⟨rfl, hH, hKK⟩ := hv
    have hx := B.exec
    have hb := B.bytes
    have hr := B.returns
    have hts : ∀ w ∈ xW o, w.before args.toArray s = true := atoms_spec (ws := xW o) B.pre
    have hown : s.vm.findClass (xY o).cls = some m.cls := findClass_of_methodNamed B.named
    have hlocks := B.notSynchronized
    have hin : meth.name = (xY o).name := (name_of_methodNamed B.named B.method).1
    have C : Cx p s m args.toArray meth c D cA sc o := ⟨hx, hb, hml, by rw [← hcls]; exact hown, fun w hw => hts w (List.mem_cons_of_mem _ hw), hKK, fun k => hin.trans (hv2 k).2.1⟩
    have hl := lv_entry args (n := xL o) hlen
    rw [lg_entry_eq]
    have key := ex_ok (l := l) (e := e) (R := (headSpec (xW o) (rmD (d + 1) (w'.2.1 - w.2.1) (w'.2.2.1 - w.2.2.1))).room) (below := below) (bz := w.2.1) (bu := w.2.2.1) (Q := MQ below (xQ D cA sc v w') args.toArray s (w'.2.1 - w.2.1) (w'.2.2.1 - w.2.2.1) (fun q => w.1 ≤ q)) C (run_mo d) ih (Nat.le_refl _) (by show 36 * d + 35 ≤ 36 * (d + 1); omega) n _ _ hn
    obtain ⟨⟨m1, m2, m3⟩, k⟩ := key
    refine k s.heap [] 0 0 _ ⟨hH, hl, (fun q (hq : q ∈ []) => absurd hq List.not_mem_nil), Nat.zero_add _, Nat.zero_add _⟩ ?_ ?_ ?_
    · show w'.2.1 ≤ w'.2.1 - w.2.1 + w.2.1
      have : w.2.1 ≤ w'.2.1 := m2
      omega
    · show w'.2.2.1 ≤ w'.2.2.1 - w.2.2.1 + w.2.2.1
      have : w.2.2.1 ≤ w'.2.2.1 := m3
      omega
    · intro pc L st i len H' locs' cells' slots' ls' G hd hk hs
      have g4 : cells' + w.2.1 = w'.2.1 := G.2.2.2.1
      have g5 : slots' + w.2.2.1 = w'.2.2.1 := G.2.2.2.2
      obtain rfl : cells' = w'.2.1 - w.2.1 := by omega
      obtain rfl : slots' = w'.2.2.1 - w.2.2.1 := by omega
      exact so_ret hx hb hr hlocks hd hk hs (fun t ht _ => ⟨rfl, by rw [ht]; exact G.1⟩) (fun q hq => by have := G.2.2.1 q hq; show w.1 ≤ q.base; have e9 : w'.1 = w.1 := m1; rw [← e9]; exact this)
