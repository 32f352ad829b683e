/-! an order of a text: both sides do the same -/
section SW
variable {F G : Nat → Int32} {nc nh np B : Nat}
def mst (G : Nat → Int32) (np : Nat) (o : Int32) (T : Nat → Int32) : Int32 × Option (Nat → Int32) :=
  if o = 112 then moP G np (T 0) (T 1) (T 2) (T 3)
  else if o = 111 then (if 0 ≤ T 0 ∧ T 0 < G 2 then moL G np (T 0).toNatClampNeg (T 1) (T 2) else (-100001, none))
  else if o = 108 then (if 0 ≤ T 0 ∧ T 0 < G 2 then moX G np (T 0).toNatClampNeg (T 1) (T 2) (T 3) else (-100001, none))
  else if o = 102 then (if 0 ≤ T 0 ∧ T 0 < G 2 then moF G (T 0).toNatClampNeg else (-100001, none))
  else if o = 100 then moY G np (T 0) else (-100001, none)
theorem step_ok (hI : Inv G nc nh np B) (h : Lv nc nh np F G) {o : Int32} {T : Nat → Int32} : okS (B + 1) F (cstep F o T) (mst G np o T) := by
  have hc := hI.1
  have h24 := hc.2.2.2.2.2
  have e2 : F 2 = nI np := (h.lo (k := 2) (by omega)).trans hc.2.2.2.2.1
  have ec : (F 2).toNatClampNeg = np := by rw [e2, nI_clamp (by omega)]
  have no : okS (B + 1) F (-100001, F) (-100001, none) := okS_no (by decide)
  unfold cstep mst
  rw [ec, h.lo (k := 2) (by omega)]
  by_cases o1 : o = 112
  · rw [if_pos o1, if_pos o1]
    exact (phrase_ok hI h).mono (by omega)
  · rw [if_neg o1, if_neg o1]
    by_cases o2 : o = 111
    · rw [if_pos o2, if_pos o2]
      by_cases q : 0 ≤ T 0 ∧ T 0 < G 2
      · rw [if_pos q, if_pos q]
        obtain ⟨i, hi, e⟩ := upto hc.2.2.2.2.1 (by omega) q
        rw [e, nI_clamp (by omega)]
        exact (place_ok hI h hi).mono (by omega)
      · rw [if_neg q, if_neg q]; exact no
    · rw [if_neg o2, if_neg o2]
      by_cases o3 : o = 108
      · rw [if_pos o3, if_pos o3]
        by_cases q : 0 ≤ T 0 ∧ T 0 < G 2
        · rw [if_pos q, if_pos q]
          obtain ⟨i, hi, e⟩ := upto hc.2.2.2.2.1 (by omega) q
          rw [e, nI_clamp (by omega)]
          exact lend_ok hI h hi
        · rw [if_neg q, if_neg q]; exact no
      · rw [if_neg o3, if_neg o3]
        by_cases o4 : o = 102
        · rw [if_pos o4, if_pos o4]
          by_cases q : 0 ≤ T 0 ∧ T 0 < G 2
          · rw [if_pos q, if_pos q]
            obtain ⟨i, hi, e⟩ := upto hc.2.2.2.2.1 (by omega) q
            rw [e, nI_clamp (by omega)]
            exact (lift_ok hI h hi).mono (by omega)
          · rw [if_neg q, if_neg q]; exact no
        · rw [if_neg o4, if_neg o4]
          by_cases o5 : o = 100
          · rw [if_pos o5, if_pos o5]
            exact (pass_ok hI h).mono (by omega)
          · rw [if_neg o5, if_neg o5]; exact no
/-- the class's row, beside the model's, when b orders have been done -/
def PP (B b : Nat) (F G : Nat → Int32) : Prop := ∃ nc nh np, Inv G nc nh np (B + b) ∧ Lv nc nh np F G
theorem PP.mono {b b' : Nat} (hb : b ≤ b') (h : PP B b F G) : PP B b' F G := by
  obtain ⟨nc, nh, np, hI, hL⟩ := h
  exact ⟨nc, nh, np, hI.mono (by omega), hL⟩
/-- the class's row alone -/
def PQ (F : Nat → Int32) : Prop := ∃ G nc nh np B, Inv G nc nh np B ∧ Lv nc nh np F G
theorem PQ_c (h : PQ F) : ∃ nc nh np, cnt F nc nh np := by
  obtain ⟨G, nc, nh, np, B, hI, hL⟩ := h
  exact ⟨nc, nh, np, hL.cnt hI.1⟩
theorem PQ_s {g : Nat → Int32} {s : Nat} (h : PQ F) : PQ (rehO g s F).2 := by
  have h0 := h
  obtain ⟨G, nc, nh, np, B, hI, hL⟩ := h
  unfold rehO
  cases hp : parN g s (fun _ => -1) with
  | none => exact h0
  | some r =>
    obtain ⟨e, a, T⟩ := r
    have hs : PQ (cstep F (g s) T).2 := by
      obtain ⟨-, h2⟩ := step_ok hI hL (o := g s) (T := T)
      cases hr : (mst G np (g s) T).2 with
      | none => rw [hr] at h2; rw [h2.2]; exact h0
      | some G' =>
        rw [hr] at h2
        obtain ⟨-, nc, nh, np, hI, hL⟩ := h2
        exact ⟨G', nc, nh, np, B + 1, hI, hL⟩
    dsimp only
    by_cases hm : many (g s) a
    · rw [if_pos hm]
      by_cases hv : (cstep F (g s) T).1 < 0
      · rw [if_pos hv]; exact hs
      · rw [if_neg hv]; exact hs
    · rw [if_neg hm]; exact h0
end SW
section SX
variable {z : Zt} {d B n : Nat} {p : Nat → Nat}
theorem lt_2 : ∀ a, a ≤ 4 → ((2 : Int32) < nI a ↔ 2 < a) := by decide +kernel
theorem lt_3 : ∀ a, a ≤ 4 → ((3 : Int32) < nI a ↔ 3 < a) := by decide +kernel
theorem calls_ok (hz : zok z) (hn4 : n ≤ 4) : callsOk z p (d + 7) n (PP B) := by
  rintro b F G o a T M ⟨nc, nh, np, hI, hL⟩ hm ha h310 h6 h7 h15 h16 hT hT'
  have hc := hI.1
  have h24 := hc.2.2.2.2.2
  have hmok : ∀ r, mok z n M r = mput M (z.1 + 310) (r.getD G) := by
    intro r
    have hch : chg z n M = M := by unfold chg; rw [if_neg h6]
    cases r with
    | none => rw [mok_no]; show M = mput M (z.1 + 310) G; rw [← h310, mput_self]
    | some G' => rw [mok_is, hch]; rfl
  have fin : ∀ rm, rm = mst G np o T → run (d + 7) 175 [.ref (z.1 + 309)] (wld z M p) = some (some (.int rm.1), wld z (mok z n M rm.2) p) → ∃ v G', run (d + 7) 175 [.ref (z.1 + 309)] (wld z M p) = some (some (.int v), wld z (mput M (z.1 + 310) G') p) ∧ v = (cstep F o T).1 ∧ (0 ≤ v → PP B (b + 1) (cstep F o T).2 G') := by
    intro rm e hr
    obtain ⟨s1, s2⟩ := step_ok hI hL (o := o) (T := T)
    rw [← e] at s1 s2
    refine ⟨rm.1, rm.2.getD G, by rw [hr, hmok], s1.symm, fun hv => ?_⟩
    cases hr2 : rm.2 with
    | none => rw [hr2] at s2; rw [s1] at s2; exact absurd s2.1 (by rw [Int32.not_lt]; exact hv)
    | some G' =>
      rw [hr2] at s2
      obtain ⟨-, nc, nh, np, hI, hL⟩ := s2
      exact ⟨nc, nh, np, hI, hL⟩
  subst h310
  rcases hm with ⟨rfl, ha2⟩ | ⟨rfl, rfl⟩ | ⟨rfl, rfl⟩ | ⟨rfl | rfl, rfl⟩
  · refine fin _ rfl (m_callP (d := d + 6) hz h15 ?_)
    unfold mst
    rw [if_pos rfl]
    have t2 : (if 2 < M (z.1 + 309) 16 then M (z.1 + 316) 2 else -1) = T 2 := by
      rw [h16]
      by_cases q : 2 < a
      · rw [if_pos ((lt_2 a ha).mpr q)]; exact hT 2 q
      · rw [if_neg (fun w => q ((lt_2 a ha).mp w))]; exact (hT' 2 (by omega)).symm
    have t3 : (if 3 < M (z.1 + 309) 16 then M (z.1 + 316) 3 else -1) = T 3 := by
      rw [h16]
      by_cases q : 3 < a
      · rw [if_pos ((lt_3 a ha).mpr q)]; exact hT 3 q
      · rw [if_neg (fun w => q ((lt_3 a ha).mp w))]; exact (hT' 3 (by omega)).symm
    rw [hT 0 (by omega), hT 1 (by omega), t2, t3]
    exact m_mphrase (d := d + 3) hz hc h7 hn4
  · refine fin _ rfl (m_callO (d := d + 6) hz h15 ?_)
    unfold mst
    rw [if_neg (by decide), if_pos rfl, hT 0 (by omega), hT 1 (by omega), hT 2 (by omega)]
    by_cases q : 0 ≤ T 0 ∧ T 0 < M (z.1 + 310) 2
    · rw [if_pos q]
      obtain ⟨i, hi, e⟩ := upto hc.2.2.2.2.1 (by omega) q
      rw [e, nI_clamp (by omega)]
      exact m_mplace (d := d + 3) hz hc h7 hn4 hi
    · rw [if_neg q]
      exact m_mplaceNo (d := d + 3) hz q
  · refine fin _ rfl (m_callL (d := d + 6) hz h15 ?_)
    unfold mst
    rw [if_neg (by decide), if_neg (by decide), if_pos rfl, hT 0 (by omega), hT 1 (by omega), hT 2 (by omega), hT 3 (by omega)]
    by_cases q : 0 ≤ T 0 ∧ T 0 < M (z.1 + 310) 2
    · rw [if_pos q]
      obtain ⟨i, hi, e⟩ := upto hc.2.2.2.2.1 (by omega) q
      rw [e, nI_clamp (by omega)]
      exact mlend_run (d := d + 3) hz hn4 hI rfl h7 hi
    · rw [if_neg q]
      exact m_mlendNo (d := d + 3) hz hc (Or.inl q)
  · refine fin _ rfl (m_callF (d := d + 6) hz h15 ?_)
    unfold mst
    rw [if_neg (by decide), if_neg (by decide), if_neg (by decide), if_pos rfl, hT 0 (by omega)]
    by_cases q : 0 ≤ T 0 ∧ T 0 < M (z.1 + 310) 2
    · rw [if_pos q]
      obtain ⟨i, hi, e⟩ := upto hc.2.2.2.2.1 (by omega) q
      rw [e, nI_clamp (by omega)]
      exact m_mlift (d := d + 3) hz hc h7 hn4 hi
    · rw [if_neg q]
      exact m_mliftNo (d := d + 3) hz q
  · refine fin _ rfl (m_callD (d := d + 6) hz h15 ?_)
    unfold mst
    rw [if_neg (by decide), if_neg (by decide), if_neg (by decide), if_neg (by decide), if_pos rfl, hT 0 (by omega)]
    unfold moY
    by_cases hx : 1 ≤ T 0 ∧ T 0 ≤ 99
    · rw [if_pos hx]
      obtain ⟨u, h1, h99, e⟩ := to99 hx
      rw [e, nI_clamp (by omega)]
      exact m_mpass (d := d) hz hc h7 hn4 h1 h99
    · rw [if_neg hx]
      exact m_mpassNo (d := d + 4) hx
end SX
