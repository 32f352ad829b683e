/-! calls, returns, whole methods -/
theorem fM_ok {c i y z : Nat} (h : fM c i = some (y, z)) : y < 179 ∧ ((z = 0 ∧ Cond.methodLink (xCN c) i (xY y) ∈ wsG) ∨ (¬ z = 0 ∧ Cond.methodLinkNest (xCN c) i (xY y) xHost ∈ wsN)) := by
  unfold fM at h
  obtain ⟨q, hq, e⟩ := Option.map_eq_some_iff.mp h
  obtain ⟨h1, h2⟩ := xFind hq
  obtain ⟨c', i', y', z'⟩ := q
  cases e
  simp only [Bool.and_eq_true, beq_iff_eq] at h2
  obtain ⟨rfl, rfl⟩ := h2
  obtain ⟨b, hb⟩ := xRT_all _ h1
  simp only [xRok, Bool.and_eq_true, decide_eq_true_eq] at hb
  obtain ⟨a1, a2⟩ := hb
  refine ⟨a1, ?_⟩
  split at a2
  next hz => exact Or.inl ⟨hz, xAt_in a2⟩
  next hz => exact Or.inr ⟨hz, List.mem_filter.mpr ⟨List.mem_of_getElem? (of_decide_eq_true a2), rfl⟩⟩
theorem xM_ok (y : Nat) (h : y < 179) : Cond.code (xY y) (xB y) (xL y) (xRt y) ∈ wsG ∧ Cond.initialized (xY y).cls ∈ wsG ∧ (xY y).cls = xCN (xCl y) ∧ ((xY y).cls ≠ "java/lang/invoke/MethodHandle" ∧ (xY y).cls ≠ "java/lang/invoke/VarHandle") ∧ plainName (xY y).cls = true ∧ (parseMethodDescriptor (xY y).desc).map (fun d => d.parameters.length) = some (xAr y) ∧ xL y ≤ 16 ∧
    (xKd y = 0 → Cond.instanceMethod (xY y) ∈ wsG ∧ Cond.selects (xY y).cls (xY y) (xY y) ∈ wsG ∧ xCl y < 10) ∧ (xKd y = 1 → Cond.static (xY y) ∈ wsG) ∧ (xKd y = 2 → Cond.instanceMethod (xY y) ∈ wsG ∧ (xY y).name = "<init>" ∧ xRt y = none) := by
  obtain ⟨a, b, d, e, hk⟩ := xM_all y h
  simp only [xMok, Bool.and_eq_true, decide_eq_true_eq] at hk
  obtain ⟨⟨⟨⟨⟨⟨⟨h1, h2⟩, h3⟩, h4⟩, h5⟩, h6⟩, h7⟩, h8⟩ := hk
  refine ⟨xAt_in h1, xAt_in h2, h3, h4, h5, h6, h7, fun k => ?_, fun k => ?_, fun k => ?_⟩
  · change (xM y).2.2.2.2.2.1 = 0 at k
    rw [if_pos k] at h8
    simp only [Bool.and_eq_true, decide_eq_true_eq] at h8
    exact ⟨xAt_in h8.1.1, xAt_in h8.1.2, h8.2⟩
  · change (xM y).2.2.2.2.2.1 = 1 at k
    rw [if_neg (by rw [k]; decide), if_pos k] at h8
    exact xAt_in h8
  · change (xM y).2.2.2.2.2.1 = 2 at k
    rw [if_neg (by rw [k]; decide), if_neg (by rw [k]; decide)] at h8
    simp only [Bool.and_eq_true, decide_eq_true_eq] at h8
    exact ⟨xAt_in h8.1.1, h8.1.2, h8.2⟩
theorem wsG_good {w : Cond} (h : w ∈ wsG) : goodWord w = true := (List.mem_filter.mp h).2
theorem xW_good (y : Nat) (h : y < 179) : GoodIn wsG (xW y) := by
  intro w hw
  rcases List.mem_cons.mp hw with e | e
  · rw [e]; exact ⟨(xM_ok y h).1, good_of_word (wsG_good (xM_ok y h).1)⟩
  · exact ⟨e, good_of_word (wsG_good e)⟩
theorem xP_blind {D : va_G} {cA : Nat → ClassId} {sc : Cell} {w : Wd} {av : List Value} : FrameBlind (va_Pc av (xP D cA sc w)) := fun a U g mk h => ⟨h.1, h.2.1, KK.blind (u := U) (U := U.calling g mk a) rfl h.2.2⟩
theorem xcall_inv {f : xF} {y : Nat} {As : List Value} {w : Wd} {pc : Nat} {L : List (Nat × Value)} {st : List Value} {c' : xC} (h : xcall f y As w pc L st = some (.inr c')) : ∃ v w', f y As w = some (v, w') ∧ st.length ≤ 4 ∧ c' = (pc + 3, L, v.toList ++ st, w') := by
  unfold xcall at h
  split at h
  next hl =>
    split at h
    next v w' hv => exact ⟨v, w', hv, hl, nx_inv h⟩
    next => cases h
  next => cases h
section SND3
variable {p : Program} {l : Launch} {e : Env} {R : Room} {s : State} {m : MethodId} {args : Array Value} {below : List Frame} {meth : Method} {c : Code} {Q : State → Prop} {D : va_G} {cA : Nat → ClassId} {sc : Cell} {f : xF} {o bz bu : Nat}
theorem call_go {H : Heap} {locs : List Loc} {cells slots mc ms pc b : Nat} {ls : Array Slot} {st0 rest : List Value} {v : Option Value} {w' : Wd} {a : Array Value}
    (hr : va_Run p l e R s m args below meth c H locs cells slots mc ms (F0 m pc ls st0) rest (xQ D cA sc v w' a) (fun q => b ≤ q)) (hlo : ∀ q ∈ locs, b ≤ q.base)
    (kk : ∀ (H' : Heap) (locs' : List Loc), hw D cA sc w' H' → (∀ q ∈ locs', b ≤ q.base) → W p l e R s m args below meth c H' locs' (cells + mc) (slots + ms) Q (F0 m (pc + 3) ls (v.toList ++ rest))) : W p l e R s m args below meth c H locs cells slots Q (F0 m pc ls st0) := by
  intro T hT X
  obtain ⟨v0, st₀, t, T', L, h0, X', hL, e1, e2, ⟨hv, hb⟩, st⟩ := hr T hT X
  cases hv
  obtain ⟨t2, a1, b1⟩ := kk T'.heap (locs ++ L) (by rw [e1]; exact hb) (fun q hq => by
    rcases List.mem_append.mp hq with z | z
    · exact hlo q z
    · exact hL q z) T' rfl X'
  exact ⟨t2, st t2 a1, b1⟩
theorem st_split {st rest : List Value} {n : Nat} (h : st.drop n = rest) : st = (st.take n).reverse.reverse ++ rest := by
  rw [List.reverse_reverse, ← h, List.take_append_drop]
theorem xpar {y : Nat} (h : y < 179) : ∀ sig, parseMethodDescriptor (xY y).desc = some sig → xAr y = sig.parameters.length := by
  intro sig hs
  have h2 := (xM_ok y h).2.2.2.2.2.1
  rw [hs] at h2
  exact (Option.some.inj h2).symm
theorem room_of {st : List Value} (h : st.length ≤ 4) : (st.map fun v => v.category).sum ≤ 8 := Nat.le_trans (rest_sum st) (by omega)
variable {d : Nat}
theorem so_invokevirtual (C : Cx p s m args meth c D cA sc o) (hm0 : RunMo f) (hr0 : RunOK f d) (hRf : d + 1 ≤ R.frames) (hRl : 36 * d + 35 ≤ R.locals) (n : Nat) : StOK p l e R s m args below meth c Q D cA sc f o bz bu (.invokevirtual n) := by
  intro pc L st w c' len hd hk h
  obtain ⟨hx, hb, hml, hown, hts, hKK, hin⟩ := C
  dsimp only [stp1] at h
  dsimp only [okl] at hk
  replace hk := of_decide_eq_true hk
  dsimp only [iln] at hk
  subst hk
  cases hf : fM (xCl o) n with
  | none => rw [hf] at h; cases h
  | some q =>
    obtain ⟨y, z⟩ := q
    rw [hf] at h
    dsimp only at h
    split at h
    next b rest hdr =>
      split at h
      next hc =>
        obtain ⟨v, w', hrun, hlen, rfl⟩ := xcall_inv h
        obtain ⟨hy, hlink⟩ := fM_ok hf
        obtain ⟨hcode, hini, hcls, hmh, -, hpar, hmax, hv0, -, -⟩ := xM_ok y hy
        obtain ⟨hinst, hsel, hc10⟩ := hv0 hc.2.2
        have hmo := hm0 _ _ _ _ _ hrun
        refine ⟨hmo, fun H locs cells slots ls G h1 h2 kk => ?_⟩
        have g4 : cells + bz = w.2.1 := G.2.2.2.1
        have g5 : slots + bu = w.2.2.1 := G.2.2.2.2
        have h1' : w'.2.1 ≤ R.cells + bz := h1
        have h2' : w'.2.2.1 ≤ R.slots + bu := h2
        obtain ⟨m1, m2, m3⟩ := hmo
        obtain ⟨cb, hcb, hcb1⟩ : ∃ cb, w.2.2.2 b = some cb ∧ cb.1 = xCl y := by
          have h9 := hc.2.1
          unfold kd at h9
          split at h9
          next cv hv => exact ⟨cv, hv, h9⟩
          next => omega
        have hrecv : ∃ cellB : Cell, H[b]? = some cellB ∧ cellB.vm.isStatics = false ∧ s.vm.findClass (xY y).cls = some cellB.cls := by
          rcases G.1.2 b cb hcb with ⟨y1, cell, q1, q2, q3, -⟩ | ⟨y1, -⟩ | ⟨y1, -⟩
          · refine ⟨cell, q1, by rw [q3]; rfl, ?_⟩
            rw [q2, hcb1, hcls]
            exact (hKK.1.1 _ _ (xCls _ hc10)).2.1
          · omega
          · omega
        have M := hr0 l D cA sc y _ w v w' hy hrun
        have hG := xW_good y hy
        have hpre : PreV s H (xY y).cls b (va_Pc (.ref b :: (st.take (xAr y)).reverse) (xP D cA sc w)) (st.take (xAr y)).reverse :=
          ⟨xP_blind, hrecv, fun U hU hW => ⟨rfl, by rw [hU]; exact G.1, KK.moved hW hKK⟩⟩
        have hb2 : (rmD d (w'.2.1 - w.2.1) (w'.2.2.1 - w.2.2.1)).frames + 1 ≤ R.frames := hRf
        have hb3 : 8 + (xL y + 11) + (rmD d (w'.2.1 - w.2.1) (w'.2.2.1 - w.2.2.1)).locals ≤ R.locals := by show 8 + (xL y + 11) + 36 * d ≤ R.locals; omega
        have hrest := room_of hlen
        have est := st_split hdr
        have hr1 : va_Run p l e R s m args below meth c H locs cells slots (w'.2.1 - w.2.1) (w'.2.2.1 - w.2.2.1) (F0 m pc ls st) rest (xQ D cA sc v w' (Value.ref b :: (st.take (xAr y)).reverse).toArray) (fun q => w.1 ≤ q) := by
          rcases hlink with ⟨-, hl⟩ | ⟨-, hl⟩
          · exact va_runV (n := xAr y) ⟨hx, hb, hml, hown, hts⟩ M ⟨⟨rfl, rfl, hb2, hb3, pay_in hts hG, List.mem_cons_self, hts _ hcode, hts _ hini, hmh, xpar hy, hts _ hl⟩, hts _ hinst, hts _ hsel⟩ hpre rfl (by rw [List.length_reverse]; exact hc.1) G.2.1.1 est (lv_room hrest) hd ⟨by omega, by omega⟩
          · exact va_runVN (n := xAr y) ⟨hx, hb, hml, hown, hts⟩ M ⟨⟨⟨rfl, rfl, hb2, hb3, pay_in hts hG, List.mem_cons_self⟩, hts _ hcode, hts _ hini, hmh, xpar hy, va_Nw.use rfl (hKK.2.1 _ hl)⟩, hts _ hinst, hts _ hsel⟩ hpre rfl (by rw [List.length_reverse]; exact hc.1) G.2.1.1 est (lv_room hrest) hd ⟨by omega, by omega⟩
        refine call_go hr1 G.2.2.1 fun H' locs' hH' hl' => kk H' locs' _ _ ls ⟨hH', G.2.1, by rw [m1]; exact hl', ?_, ?_⟩
        · show cells + (w'.2.1 - w.2.1) + bz = w'.2.1; omega
        · show slots + (w'.2.2.1 - w.2.2.1) + bu = w'.2.2.1; omega
      next => cases h
    next => cases h
theorem so_invokestatic (C : Cx p s m args meth c D cA sc o) (hm0 : RunMo f) (hr0 : RunOK f d) (hRf : d + 1 ≤ R.frames) (hRl : 36 * d + 35 ≤ R.locals) (n : Nat) : StOK p l e R s m args below meth c Q D cA sc f o bz bu (.invokestatic n) := by
  intro pc L st w c' len hd hk h
  obtain ⟨hx, hb, hml, hown, hts, hKK, hin⟩ := C
  dsimp only [stp1] at h
  dsimp only [okl] at hk
  replace hk := of_decide_eq_true hk
  dsimp only [iln] at hk
  subst hk
  cases hf : fM (xCl o) n with
  | none =>
    rw [hf] at h
    dsimp only at h
    split at h
    next hj =>
      obtain ⟨y, r, e1, h9⟩ := sI_inv h
      clear h
      subst e1
      obtain ⟨x, r, e1, h8⟩ := sI_inv h9
      clear h9
      subst e1
      split at h8
      next hlen =>
        obtain rfl := nx_inv h8
        obtain ⟨b, hbk⟩ := xJT_all _ hj
        simp only [xJok, Bool.and_eq_true] at hbk
        obtain ⟨⟨⟨k1, k2⟩, k3⟩, k4⟩ := hbk
        refine ⟨mo.rf, fun H locs cells slots ls G h1 h2 kk => ?_⟩
        have g4 : cells + bz = w.2.1 := G.2.2.2.1
        have g5 : slots + bu = w.2.2.1 := G.2.2.2.2
        have h1' : w.2.1 ≤ R.cells + bz := h1
        have h2' : w.2.2.1 ≤ R.slots + bu := h2
        have hrest := room_of hlen
        exact va_mmax hx hb (hml.trans G.2.1.1.symm) hown (hts _ (xAt_in k1)) (hts _ (xAt_in k2)) (hts _ (xAt_in k3)) (hts _ (xAt_in k4)) (by omega) (by omega) (by omega) (by omega) hd (kk H locs cells slots ls G)
      next => cases h8
    next => cases h
  | some q =>
    obtain ⟨y, z⟩ := q
    rw [hf] at h
    dsimp only at h
    split at h
    next hc =>
      obtain ⟨v, w', hrun, hlen, rfl⟩ := xcall_inv h
      obtain ⟨hy, hlink⟩ := fM_ok hf
      obtain ⟨hcode, hini, hcls, hmh, -, hpar, hmax, -, hv1, -⟩ := xM_ok y hy
      have hstat := hv1 hc.2
      have hmo := hm0 _ _ _ _ _ hrun
      refine ⟨hmo, fun H locs cells slots ls G h1 h2 kk => ?_⟩
      have g4 : cells + bz = w.2.1 := G.2.2.2.1
      have g5 : slots + bu = w.2.2.1 := G.2.2.2.2
      have h1' : w'.2.1 ≤ R.cells + bz := h1
      have h2' : w'.2.2.1 ≤ R.slots + bu := h2
      obtain ⟨m1, m2, m3⟩ := hmo
      have M := hr0 l D cA sc y _ w v w' hy hrun
      have hG := xW_good y hy
      have hpre : PreS s H (va_Pc ((st.take (xAr y)).reverse) (xP D cA sc w)) (st.take (xAr y)).reverse :=
        ⟨xP_blind, fun U hU hW => ⟨rfl, by rw [hU]; exact G.1, KK.moved hW hKK⟩⟩
      have hb2 : (rmD d (w'.2.1 - w.2.1) (w'.2.2.1 - w.2.2.1)).frames + 1 ≤ R.frames := hRf
      have hb3 : 8 + (xL y + 11) + (rmD d (w'.2.1 - w.2.1) (w'.2.2.1 - w.2.2.1)).locals ≤ R.locals := by show 8 + (xL y + 11) + 36 * d ≤ R.locals; omega
      have hrest := room_of hlen
      have est := st_split (st := st) (n := xAr y) rfl
      have hr1 : va_Run p l e R s m args below meth c H locs cells slots (w'.2.1 - w.2.1) (w'.2.2.1 - w.2.2.1) (F0 m pc ls st) (st.drop (xAr y)) (xQ D cA sc v w' ((st.take (xAr y)).reverse).toArray) (fun q => w.1 ≤ q) := by
        rcases hlink with ⟨-, hl⟩ | ⟨-, hl⟩
        · exact va_runS (n := xAr y) ⟨hx, hb, hml, hown, hts⟩ M ⟨⟨rfl, rfl, hb2, hb3, pay_in hts hG, List.mem_cons_self, hts _ hcode, hts _ hini, hmh, xpar hy, hts _ hl⟩, hts _ hstat⟩ hpre rfl (by rw [List.length_reverse]; exact hc.1) G.2.1.1 est (lv_room hrest) hd ⟨by omega, by omega⟩
        · exact va_runSN (n := xAr y) ⟨hx, hb, hml, hown, hts⟩ M ⟨⟨⟨rfl, rfl, hb2, hb3, pay_in hts hG, List.mem_cons_self⟩, hts _ hcode, hts _ hini, hmh, xpar hy, va_Nw.use rfl (hKK.2.1 _ hl)⟩, hts _ hstat, trivial⟩ hpre rfl (by rw [List.length_reverse]; exact hc.1) G.2.1.1 est (lv_room hrest) hd ⟨by omega, by omega⟩
      refine call_go hr1 G.2.2.1 fun H' locs' hH' hl' => kk H' locs' _ _ ls ⟨hH', G.2.1, by rw [m1]; exact hl', ?_, ?_⟩
      · show cells + (w'.2.1 - w.2.1) + bz = w'.2.1; omega
      · show slots + (w'.2.2.1 - w.2.2.1) + bu = w'.2.2.1; omega
    next => cases h
theorem so_invokespecial (C : Cx p s m args meth c D cA sc o) (hm0 : RunMo f) (hr0 : RunOK f d) (hRf : d + 1 ≤ R.frames) (hRl : 36 * d + 35 ≤ R.locals) (n : Nat) : StOK p l e R s m args below meth c Q D cA sc f o bz bu (.invokespecial n) := by
  intro pc L st w c' len hd hk h
  obtain ⟨hx, hb, hml, hown, hts, hKK, hin⟩ := C
  dsimp only [stp1] at h
  dsimp only [okl] at hk
  replace hk := of_decide_eq_true hk
  dsimp only [iln] at hk
  subst hk
  split at h
  next hj =>
    obtain ⟨a, r, e1, h9⟩ := sA_inv h
    clear h
    subst e1
    split at h9
    next hlen =>
      obtain rfl := nx_inv h9
      obtain ⟨b, hbk⟩ := xOT_all _ hj
      have hobj := xObj_ok
      simp only [Bool.and_eq_true] at hobj
      refine ⟨mo.rf, fun H locs cells slots ls G h1 h2 kk => ?_⟩
      have hrest := lv_room (m := m) (pc := pc) (rest := Value.ref a :: r) (ls := ls) (room_of hlen)
      exact W.objInit hx hb hown (hts _ (xAt_in hbk)) (hts _ (xAt_in hobj.1.1.1)) (hts _ (xAt_in hobj.1.1.2)) rfl (G.2.1.1.trans hml.symm) rfl hd (by omega) (by omega) (kk H locs cells slots ls G)
    next => cases h9
  next =>
    cases hf : fM (xCl o) n with
    | none => rw [hf] at h; cases h
    | some q =>
      obtain ⟨y, z⟩ := q
      rw [hf] at h
      dsimp only at h
      split at h
      next b rest hdr =>
        split at h
        next hc =>
          obtain ⟨v, w', hrun, hlen, rfl⟩ := xcall_inv h
          obtain ⟨hy, hlink⟩ := fM_ok hf
          obtain ⟨hcode, hini, hcls, hmh, -, hpar, hmax, -, -, hv2⟩ := xM_ok y hy
          obtain ⟨hinst, hname, hret⟩ := hv2 hc.2
          have hmo := hm0 _ _ _ _ _ hrun
          refine ⟨hmo, fun H locs cells slots ls G h1 h2 kk => ?_⟩
          have g4 : cells + bz = w.2.1 := G.2.2.2.1
          have g5 : slots + bu = w.2.2.1 := G.2.2.2.2
          have h1' : w'.2.1 ≤ R.cells + bz := h1
          have h2' : w'.2.2.1 ≤ R.slots + bu := h2
          obtain ⟨m1, m2, m3⟩ := hmo
          have M := hr0 l D cA sc y _ w v w' hy hrun
          have hG := xW_good y hy
          have hpre : PreS s H (va_Pc (.ref b :: (st.take (xAr y)).reverse) (xP D cA sc w)) (.ref b :: (st.take (xAr y)).reverse) :=
            ⟨xP_blind, fun U hU hW => ⟨rfl, by rw [hU]; exact G.1, KK.moved hW hKK⟩⟩
          have hb2 : (rmD d (w'.2.1 - w.2.1) (w'.2.2.1 - w.2.2.1)).frames + 1 ≤ R.frames := hRf
          have hb3 : 8 + (xL y + 11) + (rmD d (w'.2.1 - w.2.1) (w'.2.2.1 - w.2.2.1)).locals ≤ R.locals := by show 8 + (xL y + 11) + 36 * d ≤ R.locals; omega
          have hrest := room_of hlen
          have est := st_split hdr
          have hcin : Cond.code (xY y) (xB y) (xL y) none ∈ xW y := by rw [← hret]; exact List.mem_cons_self
          rw [hret] at hcode
          have hr1 : va_Run p l e R s m args below meth c H locs cells slots (w'.2.1 - w.2.1) (w'.2.2.1 - w.2.2.1) (F0 m pc ls st) rest (xQ D cA sc v w' (Value.ref b :: (st.take (xAr y)).reverse).toArray) (fun q => w.1 ≤ q) := by
            rcases hlink with ⟨-, hl⟩ | ⟨-, hl⟩
            · exact va_runI (n := xAr y) ⟨hx, hb, hml, hown, hts⟩ M ⟨⟨rfl, rfl, hb2, hb3, pay_in hts hG, hcin, hts _ hcode, hts _ hini, hmh, xpar hy, hts _ hl⟩, hname, hts _ hinst⟩ hpre rfl (by rw [List.length_reverse]; exact hc.1) G.2.1.1 est (lv_room hrest) hd ⟨by omega, by omega⟩
            · exact va_runIN (n := xAr y) ⟨hx, hb, hml, hown, hts⟩ M ⟨⟨⟨rfl, rfl, hb2, hb3, pay_in hts hG, hcin⟩, hts _ hcode, hts _ hini, hmh, xpar hy, va_Nw.use rfl (hKK.2.1 _ hl)⟩, hname, hts _ hinst⟩ hpre rfl (by rw [List.length_reverse]; exact hc.1) G.2.1.1 est (lv_room hrest) hd ⟨by omega, by omega⟩
          refine call_go hr1 G.2.2.1 fun H' locs' hH' hl' => kk H' locs' _ _ ls ⟨hH', G.2.1, by rw [m1]; exact hl', ?_, ?_⟩
          · show cells + (w'.2.1 - w.2.1) + bz = w'.2.1; omega
          · show slots + (w'.2.2.1 - w.2.2.1) + bu = w'.2.2.1; omega
        next => cases h
      next => cases h
theorem so_all (C : Cx p s m args meth c D cA sc o) (hm0 : RunMo f) (hr0 : RunOK f d) (hRf : d + 1 ≤ R.frames) (hRl : 36 * d + 35 ≤ R.locals) (i : Instr) : StOK p l e R s m args below meth c Q D cA sc f o bz bu i := by
  cases i
  case aload_n => exact so_aload_n C _
  case aload => exact so_aload C _
  case iload_n => exact so_iload_n C _
  case iload => exact so_iload C _
  case lload_n => exact so_lload_n C _
  case lload => exact so_lload C _
  case istore_n => exact so_istore_n C _
  case istore => exact so_istore C _
  case lstore_n => exact so_lstore_n C _
  case lstore => exact so_lstore C _
  case astore_n => exact so_astore_n C _
  case astore => exact so_astore C _
  case iinc => exact so_iinc C _ _
  case iconst => exact so_iconst C _
  case bipush => exact so_bipush C _
  case sipush => exact so_sipush C _
  case lconst => exact so_lconst C _
  case aconst_null => exact so_aconst_null C
  case ldc => exact so_ldc C _
  case dup => exact so_dup C
  case dup2 => exact so_dup2 C
  case pop => exact so_pop C
  case iadd => exact so_iadd C
  case isub => exact so_isub C
  case imul => exact so_imul C
  case iand => exact so_iand C
  case ishr => exact so_ishr C
  case land => exact so_land C
  case lor => exact so_lor C
  case lshl => exact so_lshl C
  case lshr => exact so_lshr C
  case lcmp => exact so_lcmp C
  case idiv => exact so_idiv C
  case ineg => exact so_ineg C
  case i2c => exact so_i2c C
  case ifCond => exact so_ifCond C _ _
  case if_icmp => exact so_if_icmp C _ _
  case ifnull => exact so_ifnull C _
  case ifnonnull => exact so_ifnonnull C _
  case goto => exact so_goto C _
  case tableswitch => exact so_tableswitch C _ _ _ _
  case lookupswitch => exact so_lookupswitch C _ _
  case getfield => exact so_getfield C _
  case putfield => exact so_putfield C _
  case iaload => exact so_iaload C
  case caload => exact so_caload C
  case aaload => exact so_aaload C
  case iastore => exact so_iastore C
  case castore => exact so_castore C
  case aastore => exact so_aastore C
  case arraylength => exact so_arraylength C
  case new => exact so_new C _
  case newarray => exact so_newarray C _
  case anewarray => exact so_anewarray C _
  case invokevirtual => exact so_invokevirtual C hm0 hr0 hRf hRl _
  case invokestatic => exact so_invokestatic C hm0 hr0 hRf hRl _
  case invokespecial => exact so_invokespecial C hm0 hr0 hRf hRl _
  case ireturn =>
    intro pc L st w c' len hd hk h
    dsimp only [stp1] at h
    split at h
    · split at h
      · split at h <;> cases h
      · cases h
    · cases h
  case areturn =>
    intro pc L st w c' len hd hk h
    dsimp only [stp1] at h
    split at h
    · split at h <;> cases h
    · split at h <;> cases h
    · cases h
  case return_ =>
    intro pc L st w c' len hd hk h
    dsimp only [stp1] at h
    split at h
    · split at h <;> cases h
    · cases h
  all_goals
    intro pc L st w c' len hd hk h
    dsimp only [stp1] at h
    cases h
end SND3
