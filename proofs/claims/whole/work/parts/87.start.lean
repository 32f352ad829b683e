/-! THE CLAIM OUT OF ONE WALK OF THE LAW'S BODY. Your part is whole_start (and what it stands on); all else here is the same for every law, but numbers. -/
def R_law : String := "LentPhrasesLaw"
def lw_P (b : Addr) (xs : List Int32) (args : Array Value) (s : State) : Prop := args = #[.ref b] ∧ s.IntsAt b xs ∧ xs.length ≤ 2560 ∧ (Jvm.Cond.and given_1 narrow_1).before args s = true
def lw_Q (_ : Array Value) (s : State) (o : Outcome) (t : State) : Prop := o = .returned (some (.int 1)) ∧ Framed s o t [] 600000 7302249
def lw_Z (below : List Frame) (a : Array Value) (s : State) : State → Prop := fun t => ∃ o, t.status = .running ∧ Ended t below o ∧ lw_Q a s o t
/-- the law's own end, with 1 on the stack, nothing written that was there before, its room as the claim has it -/
theorem lw_ret {p : Program} {l : Launch} {e : Env} {s : State} {m : MethodId} {below : List Frame} {meth : Method} {c : Code} {b : Nat} (hx : p.tables.exec = Jvm.exec) (hb : c.code = code) (hr : meth.sig.returnType = ret) (hlocks : meth.locks = false) {pc : Nat} {H : Heap} {ls : Array Slot} (hdg : decode code pc = .ok (.ireturn, 1)) : W p l e room_1 s m #[Value.ref b] below meth c H [] 600000 7302249 (lw_Z below #[Value.ref b] s) (F0 m pc ls [.int 1]) := by
  intro T hT X
  obtain ⟨fs, hret, hrun, hended, hW, hframe⟩ := X.leave (v := some (.int 1)) (hlocks := hlocks) (fun h => by rw [hr] at h; cases h)
  have hmeth' : T.vm.method? m = some meth := X.method'
  refine ⟨T.setFrames fs, ?_, .returned (some (.int 1)), hrun, hended, rfl, ⟨_, rfl⟩, hW, hframe⟩
  jvm_step X.here [X.here.top, hx, hb, hdg, hmeth', hr, ret, narrow_b1]
  (try refine ⟨rfl, ?_⟩); (try refine ⟨rfl, ?_⟩)
  first | (intro acts; rw [hret _ acts rfl rfl rfl]) | rw [hret _ _ rfl rfl rfl]
  exact Steps.refl _
/-- what holds at the law's entry: the machine, the code, the tables' words (any of lw_tbl by 'hts w (by decide +kernel)'), the script of L ints xs at the cell b, what the Statement gives of the start (any of its parts by flat_of_before) -/
def lw_At (p : Program) (s : State) (m : MethodId) (meth : Method) (c : Code) (b L : Nat) (xs : Nat → Int32) : Prop :=
  p.tables.exec = Jvm.exec ∧ c.code = code ∧ meth.sig.returnType = ret ∧ c.maxLocals = 4 ∧ s.vm.findClass R_law = some m.cls ∧ (∀ w ∈ lw_tbl, w.before #[Value.ref b] s = true) ∧ va_X b L xs s s.heap ∧ b < s.heap.size ∧ meth.locks = false ∧ (Jvm.Cond.and given_1 narrow_1).before #[Value.ref b] s = true
section WS
variable {p : Program} {e : Env} {s : State} {m : MethodId} {below : List Frame} {meth : Method} {c : Code}
/-- the law's end, from our machine's -/
theorem lw_end {l : Launch} {b : Nat} {f : xF} (hx : p.tables.exec = Jvm.exec) (hb : c.code = code) (hr : meth.sig.returnType = ret) (hlocks : meth.locks = false) {pc : Nat} {L : List (Nat × Value)} {st : List Value} {i : Instr} {len : Nat} {w w' : Wd} {H : Heap} {ls : Array Slot} (hd : decode (xB 179) pc = .ok (i, len)) (hk : okl i len = true) (h : stp1 f 179 pc L st w i = some (.inl (some (.int 1), w'))) : W p l e room_1 s m #[Value.ref b] below meth c H [] 600000 7302249 (lw_Z below #[Value.ref b] s) (F0 m pc ls st) := by
  have hret : xRt 179 = some .boolean := rfl
  cases i
  case ireturn =>
    dsimp only [okl] at hk
    replace hk := of_decide_eq_true hk
    dsimp only [iln] at hk
    subst hk
    dsimp only [stp1] at h
    split at h
    next x =>
      split at h
      next ty hty =>
        split at h
        next hn =>
          have e1 := congrArg (fun q => match q with | some (Sum.inl (some (Value.int y), _)) => y | _ => 0) h
          have e2 : x = 1 := e1
          subst e2
          exact lw_ret hx hb hr hlocks hd
        next => cases h
      next => cases h
    next => cases h
  case areturn =>
    dsimp only [stp1] at h
    rw [hret] at h
    split at h
    · cases h
    · cases h
    · cases h
  case return_ =>
    dsimp only [stp1] at h
    rw [hret] at h
    split at h
    · split at h
      next hn => cases hn
      next => cases h
    · cases h
  all_goals exact absurd h (ni_stp _ (fun z => by cases z) (fun z => by cases z) (fun z => by cases z) _)
/-- what the tables say of the classes and arrays -/
theorem lw_KK {b : Nat} (hts : ∀ w ∈ lw_tbl, w.before #[Value.ref b] s = true) {sc : Cell} (h1 : s.isArrayOf sc .int) (h2 : sc.vm ≠ .unknown) : ∃ D cA, KK D cA sc s := by
  have hG : ∀ w ∈ wsG, w.before #[Value.ref b] s = true := fun w hw => hts w (List.mem_filter.mp hw).1
  have hk : ∀ c, c < 10 → ∃ (cC : ClassId) (iS : Nat → Nat), u_Kn s (xCN c) (xTC c) (xNF c) cC iS := fun c hc => u_known hG (xLays c hc) (hG _ (xInst c hc))
  have hk2 : ∀ c, ∃ q : ClassId × (Nat → Nat), c < 10 → u_Kn s (xCN c) (xTC c) (xNF c) q.1 q.2 := by
    intro c
    by_cases hc : c < 10
    · obtain ⟨cC, iS, h⟩ := hk c hc
      exact ⟨(cC, iS), fun _ => h⟩
    · obtain ⟨cC, iS, h⟩ := hk 0 (by omega)
      exact ⟨(cC, iS), fun q => absurd q hc⟩
  have hobj := xObj_ok
  simp only [Bool.and_eq_true] at hobj
  have hN0 : ∀ w ∈ wsN, w.before #[] s = true := by
    intro w hw
    have h0 := hts w (List.mem_filter.mp hw).1
    have hn := (List.mem_filter.mp hw).2
    cases w with
    | methodLinkNest a i x g => exact h0
    | arrayOver t =>
      cases t with
      | object C => exact h0
      | _ => simp [xNs] at hn
    | _ => simp [xNs] at hn
  have hO : ∀ C, Cond.arrayOver (.object C) ∈ wsN → ∃ cA, ArrOfT s cA (.object C) ∧ va_RA s cA (.object C) := by
    intro C hC
    obtain ⟨comp, c, k, g1, g2, g3, g4, g5⟩ := Cond.arrayOver_spec (hN0 _ hC)
    exact ⟨c, fun n z => ⟨fun k h => (by cases h), k, g3, comp, g4⟩, k, comp, g3, g4, g1, g5⟩
  have hA : ∀ k, 10 ≤ k → k ≤ 15 → ∃ cA, ArrOfT s cA (xETy k) ∧ va_RA s cA (xETy k) := by
    intro k h10 h15
    by_cases e10 : k = 10
    · subst e10
      obtain ⟨c, kA, comp, g1, g2, g3⟩ := Cond.arrayClass_spec (hG _ (xAt_in hobj.1.2))
      exact ⟨c, fun n z => ⟨fun k h => (by cases h), kA, g2, comp, g3⟩, g1⟩
    · by_cases e11 : k = 11
      · subst e11
        obtain ⟨c, kA, comp, g1, g2, g3⟩ := Cond.arrayClass_spec (hG _ (xAt_in hobj.2))
        exact ⟨c, fun n z => ⟨fun k h => (by cases h), kA, g2, comp, g3⟩, g1⟩
      · have hq : ∃ q ∈ xAT, q.2.2 = k := by
          rcases (show k = 12 ∨ k = 13 ∨ k = 14 ∨ k = 15 by omega) with rfl | rfl | rfl | rfl
          · exact ⟨(6, 11, 12), by decide, rfl⟩
          · exact ⟨(6, 17, 13), by decide, rfl⟩
          · exact ⟨(6, 23, 14), by decide, rfl⟩
          · exact ⟨(2, 9, 15), by decide, rfl⟩
        obtain ⟨q, hq, rfl⟩ := hq
        obtain ⟨b, hbk⟩ := xAT_all q hq
        simp only [xAok, Bool.and_eq_true, decide_eq_true_eq] at hbk
        obtain ⟨⟨⟨k12, k15⟩, w1⟩, w2⟩ := hbk
        have hN : Cond.arrayOver (.object (xCN (xEl q.2.2))) ∈ wsN := List.mem_filter.mpr ⟨List.mem_of_getElem? w2, rfl⟩
        have hty : xETy q.2.2 = .object (xCN (xEl q.2.2)) := by
          rcases (show q.2.2 = 12 ∨ q.2.2 = 13 ∨ q.2.2 = 14 ∨ q.2.2 = 15 by omega) with e | e | e | e <;> rw [e] <;> rfl
        rw [hty]
        exact hO _ hN
  have hA2 : ∀ k, ∃ cA, 10 ≤ k → k ≤ 15 → ArrOfT s cA (xETy k) ∧ va_RA s cA (xETy k) := by
    intro k
    by_cases hc : 10 ≤ k ∧ k ≤ 15
    · obtain ⟨c, h⟩ := hA k hc.1 hc.2
      exact ⟨c, fun _ _ => h⟩
    · obtain ⟨c, h⟩ := hA 10 (by omega) (by omega)
      exact ⟨c, fun q w => absurd ⟨q, w⟩ hc⟩
  refine ⟨(fun c => (Classical.choose (hk2 c)).1, fun c => (Classical.choose (hk2 c)).2), fun k => Classical.choose (hA2 k), ⟨fun c q hq => ?_, fun k q hq => ?_⟩, hN0, h1, h2⟩
  · have hc : c < 10 := (List.getElem?_eq_some_iff.mp hq).1
    have e := (xCls c hc).symm.trans hq
    obtain rfl := Option.some.inj e
    exact Classical.choose_spec (hk2 c) hc
  · have hc : k < 6 := (List.getElem?_eq_some_iff.mp hq).1
    have e0 := xTys_at (fun k => Classical.choose (hA2 k)) (c := k + 10) (by omega) (by omega)
    rw [Nat.add_sub_cancel] at e0
    have e := e0.symm.trans hq
    obtain rfl := Option.some.inj e
    exact Classical.choose_spec (hA2 (k + 10)) (by omega) (by omega)
end WS
/-- from the entry the law comes to its end with true -/
theorem whole_start {p : Program} {e : Env} {s : State} {m : MethodId} {below : List Frame} {meth : Method} {c : Code} (l : Launch) (hflags : l.flags = flags0) {b L : Nat} {xs : Nat → Int32} (hL : L ≤ 2560) (C0 : lw_At p s m meth c b L xs) : W p l e room_1 s m #[Value.ref b] below meth c s.heap [] 0 0 (lw_Z below #[Value.ref b] s) (entryFrame m ([Value.ref b] : List Value).toArray 4) := by
  obtain ⟨hx, hb, hr, hml, hown, hts, ⟨sc, hs1, hs2, hs3, hs4, hs5⟩, hbl, hlocks, hgv⟩ := C0
  obtain ⟨D, cA, hKK⟩ := lw_KK hts hs2 hs3
  have hz : zok (s.heap.size, b, L, xs) := hbl
  obtain ⟨M', p', hX⟩ := m_law (z := (s.heap.size, b, L, xs)) (d := 0) hz (by show L ≤ 3000; omega)
  obtain ⟨n, hn⟩ := X0_iff.mp hX
  have hG : ∀ w ∈ wsG, w.before #[Value.ref b] s = true := fun w hw => hts w (List.mem_filter.mp hw).1
  have C : Cx p s m #[Value.ref b] meth c D cA sc 179 := ⟨hx, hb, hml, hown, hG, hKK, fun k => absurd k (by decide)⟩
  have hl := lv_entry [Value.ref b] (n := 4) (Nat.le_of_ble_eq_true rfl)
  rw [lg_entry_eq]
  generalize (lg_sl [Value.ref b] ++ List.replicate (4 - (lg_sl [Value.ref b]).length) Slot.unset).toArray = ls at hl ⊢
  have hl : lv_has ls 4 [(0, .ref b)] := hl
  obtain ⟨-, k⟩ := ex_ok (l := l) (e := e) (R := room_1) (below := below) (bz := s.heap.size) (bu := 0) (Q := lw_Z below #[Value.ref b] s) C (run_mo 9) (run_ok 9) (by decide) (by decide) n _ _ hn
  have hhw : hw D cA sc (wk (s.heap.size, b, L, xs) 0 0 (cc (s.heap.size, b, L, xs))) s.heap := by
    refine ⟨rfl, fun a q hq => ?_⟩
    by_cases e : a = b
    · subst e
      have e2 : (wk (s.heap.size, a, L, xs) 0 0 (cc (s.heap.size, a, L, xs))).2.2.2 a = some (16, L, fun j => .int (xs j)) := if_pos rfl
      rw [e2] at hq
      obtain rfl := Option.some.inj hq
      exact Or.inr (Or.inr ⟨rfl, hs1, hs4, hs5⟩)
    · have e2 : (wk (s.heap.size, b, L, xs) 0 0 (cc (s.heap.size, b, L, xs))).2.2.2 a = none := by
        refine (if_neg e).trans (if_neg ?_)
        rintro ⟨h1, h2⟩
        have h1' : s.heap.size ≤ a := h1
        have h2' : a < s.heap.size + 0 := h2
        omega
      rw [e2] at hq; cases hq
  refine k s.heap [] 0 0 ls ⟨hhw, hl, (fun q hq => absurd hq List.not_mem_nil), Nat.zero_add _, rfl⟩ ?_ ?_ ?_
  · show s.heap.size + 317 ≤ 600000 + s.heap.size
    omega
  · show 4934 ≤ 7302249 + 0
    omega
  · intro pc L' st i len H' locs' cells' slots' ls' G hd hk hs
    have g4 : cells' + s.heap.size = s.heap.size + 317 := G.2.2.2.1
    have g5 : slots' + 0 = 4934 := G.2.2.2.2
    refine va_forget (fun q hq => G.2.2.1 q hq) ?_
    refine W.widen (k := 600000) (n := 7302249) (by omega) (by omega) ?_
    exact lw_end hx hb hr hlocks hd hk hs
set_option maxHeartbeats 4000000 in
theorem lw_walk (l : Launch) (hflags : l.flags = flags0) (b : Addr) (xs : List Int32) : MetFree l x (headSpec (Jvm.Cond.code x code maxLocals ret :: tables_1) room_1) (lw_P b xs) (fun _ _ _ _ _ => True) lw_Q := by
  refine MetFree.of_bodyS (code := code) (maxLocals := maxLocals) (ret := ret) (by decide) ?_ ?_
  · intro args s m h hn
    obtain ⟨meth, c, h1, h2, h3, h4, h5, h6, -, -⟩ := Cond.code_spec hn (atoms_spec (ws := Jvm.Cond.code x code maxLocals ret :: tables_1) h _ List.mem_cons_self)
    exact ⟨meth, c, h1, h2, h3, h4, h5, h6⟩
  · intro p e s m args below meth c s₁ B hml0 hP _
    obtain ⟨rfl, hx, hbd, hgv⟩ := hP
    obtain ⟨scr, harrAt, hlist, hof, hsmall⟩ := hx
    obtain ⟨hcb, hkn, -, -⟩ := State.arrayAt?_spec harrAt
    have hown : s.vm.findClass R_law = some m.cls := findClass_of_methodNamed B.named
    have hts0 : ∀ c ∈ (Jvm.Cond.code x code maxLocals ret :: tables_1), c.before #[Value.ref b] s = true := atoms_spec (ws := Jvm.Cond.code x code maxLocals ret :: tables_1) B.pre
    have hts : ∀ w ∈ lw_tbl, w.before #[Value.ref b] s = true := k2_hts_sels lw_privs (fun w hw => hts0 w (List.mem_cons_of_mem _ hw)) lw_privs_ok
    have hml : c.maxLocals = 4 := B.maxLocals_eq (hts0 _ List.mem_cons_self)
    have X₀ : Stand p l e room_1 s m #[Value.ref b] below meth c s₁ [] 0 0 := Stand.of_body B
    have hh0 : s₁.heap = s.heap := by rw [B.state]; rfl
    have hsz : scr.slots.size = xs.length := by rw [← Array.length_toList, hlist, List.length_map]
    have hval : ∀ j : Nat, j < xs.length → scr.slots[j]? = some (.int (xs.getD j 0)) := fun j hj => by
      rw [← Array.getElem?_toList, hlist]
      simp [hj]
    have hbl : b < s.heap.size := (Array.getElem?_eq_some_iff.mp hcb).1
    have hX : va_X b xs.length (fun j => xs.getD j 0) s s.heap := ⟨scr, hcb, hof, hkn, hsz, hval⟩
    have K : W p l e room_1 s m #[Value.ref b] below meth c s₁.heap [] 0 0 (lw_Z below #[Value.ref b] s) (entryFrame m ([Value.ref b] : List Value).toArray 4) := by
      rw [hh0]
      exact whole_start l hflags hbd ⟨B.exec, B.bytes, B.returns, hml, hown, hts, hX, hbl, B.notSynchronized, hgv⟩
    obtain ⟨t, a1, o, b1, b2, b3⟩ := K s₁ rfl X₀
    exact ⟨t, o, a1, b1, b2, b3⟩
theorem lw_pre_spec {args : Array Value} {s : State} (h : (Jvm.Cond.and given_1 narrow_1).before args s = true) (hr : rest_1_c.before args s = true) : ∃ (b : Addr) (xs : List Int32), lw_P b xs args s := by
  have hs := flat_of_before _ h
  have hq := flat_of_before _ hr
  have hc : (Cond.count 1).before args s = true := hs _ (by decide +kernel)
  have harr : (Cond.arrayOf (.arg 0) .int).before args s = true := hs _ (by decide +kernel)
  have hle : (Cond.le (.length (.arg 0)) (.int 2560)).before args s = true := hs _ (by decide +kernel)
  have hlen : (Cond.isInt (.length (.arg 0))).before args s = true := hq _ (by decide +kernel)
  have hall : (Cond.all (.arg 0) (.isInt (.elem (.arg 0) (.index 0)))).before args s = true := hq _ (by decide +kernel)
  obtain ⟨b, xs, hb, hx⟩ := State.ints_of_pre rfl harr hlen hall
  have hsm : xs.length < 2 ^ 31 := hx.choose_spec.2.2.2
  have hev : (Term.length (.arg 0)).eval args s none [] s = some (.int xs.length.toInt32) := hx.length_eval hb
  have hv := Cond.le_ints hev (show (Term.int 2560).eval args s none [] s = some (.int 2560) from rfl)
  have hd : xs.length.toInt32 ≤ 2560 := by
    simpa [Cond.before, Cond.holds, hv] using hle
  have hN : xs.length ≤ 2560 := (Int32.ofNat_le_ofNat hsm (by decide)).mp (show Int32.ofNat xs.length ≤ Int32.ofNat 2560 from hd)
  exact ⟨b, xs, Cond.one_arg hc (show args[0]? = some (.ref b) from hb), hx, hN, h⟩
theorem lw_comes (l : Launch) (hflags : l.flags = flags0) : Comes l x (Jvm.Cond.code x code maxLocals ret :: tables_1) room_1 (fun tb e args s => Calls_1 tb e args s ∧ rest_1 tb e args s ∧ Pre_1 tb e args s)
    (fun _ _ args s o t => lw_Q args s o t) := by
  intro p e ha hc hk s m args below hf hfit hheap happ hpre
  obtain ⟨b, xs, hP⟩ := lw_pre_spec hpre.2.2 hpre.2.1
  obtain ⟨k, o, h1, h2, h3, hQ⟩ := lw_walk l hflags b xs p e ha hc hk s m args below hf ((Spec.applies_iff_loose hf).mp happ).1 hP trivial
  exact ⟨k, o, h1, h2, h3, hQ⟩
theorem lw_frame {s t : State} {o : Outcome} {args : Array Value} (h : Framed s o t [] 600000 7302249) :
    Framed s o t (fieldLocs frame_1_writes args s ++ arrayLocs frame_1_arrays args s ++ staticLocs frame_1_statics s) 600000 7302249 := h
theorem lw_limb (L : Cond) (hL : ∀ (args : Array Value) (s t : State), L.after args s (.returned (some (.int 1))) t = true) :
    ArmFor flags0 classFile x code maxLocals ret World_1 tables_1 room_1 Calls_1 rest_1 Pre_1
      (fun tb e a s o t => postC L tb e a s o t ∧ Framed s o t (fieldLocs frame_1_writes a s ++ arrayLocs frame_1_arrays a s ++ staticLocs frame_1_statics s) 600000 7302249) := by
  intro l hflags _ _ p e ha hc hk s m args below hf hfit hheap happ hpre
  obtain ⟨k, o, h1, h2, h3, rfl, hF⟩ := lw_comes l hflags p e ha hc hk s m args below hf hfit hheap happ hpre
  exact ⟨k, _, h1, h2, h3, hL args s _, lw_frame hF⟩
theorem i_vc : Claimed_1_1 ∧ Claimed_1_2 := ⟨lw_limb limb_1_1 (fun args s t => by simp [limb_1_1, Cond.after, Cond.holds, Cond.value]), lw_limb limb_1_2 (fun args s t => Cond.after_iff.mpr (by
  first | (rw [show limb_1_2 = Cond.eq .result (.int 1) from rfl, Cond.eq_ints (x := 1) (y := 1) rfl rfl]; simp; done) | (simp [limb_1_2, Cond.value, Term.eval]; done)))⟩
