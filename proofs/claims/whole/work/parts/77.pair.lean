/-! both sides of the world -/
def IvE (G : Nat → Int32) (B : Nat) : Prop := ∃ nc nh np, Inv G nc nh np B
theorem IvE.mono {G : Nat → Int32} {B B' : Nat} (h : IvE G B) (hB : B ≤ B') : IvE G B' := h.elim fun nc h => h.elim fun nh h => h.elim fun np h => ⟨nc, nh, np, h.mono hB⟩
theorem Inv.ag {G G' : Nat → Int32} {nc nh np B : Nat} (h : Inv G nc nh np B) (e : ∀ j, j < 298 → G' j = G j) : Inv G' nc nh np B := by
  obtain ⟨⟨c1, c2, c3, c4, c5, c6⟩, a2, a3, a4, a5, a6, a7, a8⟩ := h
  have hp : ∀ i, i < np → ∀ r, r < 10 → pr G' i r = pr G i r := fun i hi r hr => e _ (by omega)
  refine ⟨⟨(e _ (by omega)).trans c1, c2, (e _ (by omega)).trans c3, c4, (e _ (by omega)).trans c5, c6⟩, by rw [e 3 (by omega)]; exact a2, by rw [e 6 (by omega)]; exact a3, by rw [e 7 (by omega)]; exact a4, fun c hc => ?_, fun i hi => ?_, fun c g hc => ?_, fun i hi => ?_⟩
  · unfold chQ
    rw [e _ (by omega), e _ (by omega), e _ (by omega), e 3 (by omega)]
    exact a5 c hc
  · rw [e 3 (by omega)]
    exact phQ_W c4 (Nat.le_refl _) (fun c hc => e _ (by omega)) (phQ_eq (hp i hi) (a6 i hi))
  · rw [sumN_eq (g := fun i => tk c g (pr G i)) fun i _ hi => tk_eq (hp i (by omega))]
    exact a7 c g hc
  · rw [hp i hi 9 (by omega)]; exact a8 i hi
theorem IvE.ag {G G' : Nat → Int32} {B : Nat} (h : IvE G B) (e : ∀ j, j < 298 → G' j = G j) : IvE G' B := h.elim fun nc h => h.elim fun nh h => h.elim fun np h => ⟨nc, nh, np, h.ag e⟩
theorem Lq.ag {F G G' : Nat → Int32} (h : Lq F G) (e : ∀ j, j < 298 → G' j = G j) : Lq F G' := by
  obtain ⟨nc, nh, np, ⟨c1, c2, c3, c4, c5, c6⟩, hl⟩ := h
  exact ⟨nc, nh, np, ⟨(e _ (by omega)).trans c1, c2, (e _ (by omega)).trans c3, c4, (e _ (by omega)).trans c5, c6⟩, fun j hj => (hl j hj).trans (e j (by unfold live at hj; omega)).symm⟩
theorem cnt_uniq {G : Nat → Int32} {nc nh np nc' nh' np' : Nat} (h : cnt G nc nh np) (h' : cnt G nc' nh' np') : nc = nc' ∧ nh = nh' ∧ np = np' := by
  obtain ⟨c1, c2, c3, c4, c5, c6⟩ := h
  obtain ⟨d1, d2, d3, d4, d5, d6⟩ := h'
  exact ⟨nI_eqN (c1.symm.trans d1) (by omega) (by omega), nI_eqN (c3.symm.trans d3) (by omega) (by omega), nI_eqN (c5.symm.trans d5) (by omega) (by omega)⟩
theorem CS.up {z : Zt} {M M' : Nat → Nat → Int32} {p : Nat → Nat} {G : Nat → Int32} {n : Nat} {H : Nat → Nat → Int32} {kf : Int32} {K : Nat → Int32} {k : Nat} {tx : Nat → Int32} (h : CS z M p G n H kf K k tx) (e : ∀ x, x < z.1 + 309 → M' x = M x) : CS z M' p G n H kf K k tx := by
  obtain ⟨h1, h2, h3, h4, h5, h6, h7, h8, h9, h10⟩ := h
  refine ⟨h1, by rw [e _ (by omega)]; exact h2, by rw [e _ (by omega)]; exact h3, h4, fun j hj => ?_, by rw [e _ (by omega)]; exact h6, by rw [e _ (by omega)]; exact h7, by rw [e _ (by omega)]; exact h8, h9, fun j hj => by rw [e _ (by omega)]; exact h10 j hj⟩
  have := h1.2.1 j (by omega)
  rw [e _ (by omega)]; exact h5 j hj
def PS (z : Zt) (M : Nat → Nat → Int32) (p : Nat → Nat) (G : Nat → Int32) (n : Nat) (H : Nat → Nat → Int32) (kf : Int32) (K : Nat → Int32) (k : Nat) (tx : Nat → Int32) (B : Nat) : Prop :=
  CS z M p G n H kf K k tx ∧ M (z.1 + 310) = G ∧ (∀ i j, i < n → j < 298 → M (z.1 + 311) (298 * i + j) = H i j) ∧ M (z.1 + 309) 7 = nI n ∧ M (z.1 + 309) 6 = 0 ∧ M (z.1 + 309) 5 = kf ∧ (kf = 0 ∨ M (z.1 + 312) = K) ∧ M (z.1 + 309) 9 = nI k ∧ (∀ j, j < k → M (z.1 + 315) j = tx j) ∧ (∀ j, j < k → chok (tx j)) ∧ IvE G B ∧ (∀ i, i < n → IvE (H i) B) ∧ (kf = 0 ∨ IvE K B)
/-- the two sides agree, and every phrase was lent B times at most -/
def QS (z : Zt) (p : Nat → Nat) (M : Nat → Nat → Int32) (B : Nat) : Prop := ∃ G n H kf K k tx, PS z M p G n H kf K k tx B
theorem QS.mono {z : Zt} {p : Nat → Nat} {M : Nat → Nat → Int32} {B B' : Nat} (h : QS z p M B) (hB : B ≤ B') : QS z p M B' := by
  obtain ⟨G, n, H, kf, K, k, tx, h1, h2, h3, h4, h5, h6, h7, h8, h9, h10, h11, h12, h13⟩ := h
  exact ⟨G, n, H, kf, K, k, tx, h1, h2, h3, h4, h5, h6, h7, h8, h9, h10, h11.mono hB, fun i hi => (h12 i hi).mono hB, h13.imp_right fun q => q.mono hB⟩
section PR
variable {z : Zt} {p : Nat → Nat} {M : Nat → Nat → Int32} {G : Nat → Int32} {n : Nat} {H : Nat → Nat → Int32} {kf : Int32} {K : Nat → Int32} {k : Nat} {tx : Nat → Int32} {B : Nat}
/-- the class has answered, the model will: nothing changes in the class's own cells -/
theorem PS.cls {M' : Nat → Nat → Int32} {p' : Nat → Nat} (h : PS z M p G n H kf K k tx B) (hf : mfr z M M') (hc : CS z M' p' G n H kf K k tx) : PS z M' p' G n H kf K k tx B := by
  obtain ⟨h1, h2, h3, h4, h5, h6, h7, h8, h9, h10, h11, h12, h13⟩ := h
  refine ⟨hc, ?_, ?_, ?_, ?_, ?_, ?_, ?_, ?_, h10, h11, h12, h13⟩
  · rw [hf _ (by omega)]; exact h2
  · rw [hf _ (by omega)]; exact h3
  · rw [hf _ (by omega)]; exact h4
  · rw [hf _ (by omega)]; exact h5
  · rw [hf _ (by omega)]; exact h6
  · rw [hf _ (by omega)]; exact h7
  · rw [hf _ (by omega)]; exact h8
  · rw [hf _ (by omega)]; exact h9
/-- the model's cells that matter stay -/
theorem PS.mod {M' : Nat → Nat → Int32} (h : PS z M p G n H kf K k tx B) (hk : mkp z M M') : PS z M' p G n H kf K k tx B := by
  obtain ⟨h1, h2, h3, h4, h5, h6, h7, h8, h9, h10, h11, h12, h13⟩ := h
  obtain ⟨k1, k2⟩ := hk
  refine ⟨h1.up fun x hx => k1 x (by omega) (by omega) (by omega) (by omega), ?_, ?_, ?_, ?_, ?_, ?_, ?_, ?_, h10, h11, h12, h13⟩
  · rw [k1 _ (by omega) (by omega) (by omega) (by omega)]; exact h2
  · rw [k1 _ (by omega) (by omega) (by omega) (by omega)]; exact h3
  · rw [k2 _ (by omega)]; exact h4
  · rw [k2 _ (by omega)]; exact h5
  · rw [k2 _ (by omega)]; exact h6
  · rw [k1 _ (by omega) (by omega) (by omega) (by omega)]; exact h7
  · rw [k2 _ (by omega)]; exact h8
  · rw [k1 _ (by omega) (by omega) (by omega) (by omega)]; exact h9
theorem past_at {P : Nat → Int32} (hP : ∀ i j, i < n → j < 298 → P (298 * i + j) = H i j) : ∀ i j, i < pushN n → j < 298 → pastF P G n (298 * i + j) = pushH n H G i j := by
  intro i j hi hj
  unfold pastF pushH
  unfold pushN at hi
  by_cases h4 : n < 4
  · rw [if_pos h4, if_pos h4]
    rw [if_pos h4] at hi
    by_cases e : i = n
    · rw [if_pos (by omega), if_pos e, show 298 * i + j - 298 * n = j by omega]
    · rw [if_neg (by omega), if_neg e]
      exact hP i j (by omega) hj
  · rw [if_neg h4, if_neg h4]
    rw [if_neg h4] at hi
    by_cases e : i = 3
    · rw [if_pos (by omega), if_pos e, show 298 * i + j - 894 = j by omega]
    · rw [if_neg (by omega), if_pos (by omega), if_neg e, show 298 * i + j + 298 = 298 * (i + 1) + j by omega]
      exact hP (i + 1) j (by omega) hj
theorem IvE_push (hG : IvE G B) (hH : ∀ i, i < n → IvE (H i) B) : ∀ i, i < pushN n → IvE (pushH n H G i) B := by
  intro i hi
  unfold pushN at hi
  unfold pushH
  by_cases h4 : n < 4
  · rw [if_pos h4]
    rw [if_pos h4] at hi
    by_cases e : i = n
    · rw [if_pos e]; exact hG
    · rw [if_neg e]; exact hH i (by omega)
  · rw [if_neg h4]
    rw [if_neg h4] at hi
    by_cases e : i = 3
    · rw [if_pos e]; exact hG
    · rw [if_neg e]; exact hH (i + 1) (by omega)
/-- an order that was done: the class has done it, now the model -/
theorem PS.push {M' : Nat → Nat → Int32} {p' : Nat → Nat} {G' : Nat → Int32} {B' : Nat} (h : PS z M p G n H kf K k tx B) (hB : B ≤ B') (hf : mfr z M M') (hc : CS z M' p' G' (pushN n) (pushH n H G) kf K k tx) (hI : IvE G' B') : PS z (mok z n M' (some G')) p' G' (pushN n) (pushH n H G) kf K k tx B' := by
  obtain ⟨h1, h2, h3, h4, h5, h6, h7, h8, h9, h10, h11, h12, h13⟩ := h
  have m6 : M' (z.1 + 309) 6 = 0 := by rw [hf _ (by omega)]; exact h5
  have e9 : mok z n M' (some G') (z.1 + 309) = fset (M' (z.1 + 309)) 7 (nI (pushN n)) := by
    rw [mok_is, mput_ne (by omega)]; unfold chg; rw [if_pos m6, mput_same]
  have e11 : mok z n M' (some G') (z.1 + 311) = pastF (M (z.1 + 311)) G n := by
    rw [mok_is, mput_ne (by omega)]; unfold chg; rw [if_pos m6, mput_ne (by omega), mput_same, hf _ (by omega), hf _ (by omega), h2]
  have eo : ∀ x, x ≠ z.1 + 309 → x ≠ z.1 + 310 → x ≠ z.1 + 311 → mok z n M' (some G') x = M' x := fun x a b c => by rw [mok_is, mput_ne b, chg_ne a c]
  refine ⟨hc.up fun x hx => eo x (by omega) (by omega) (by omega), mput_same, ?_, ?_, ?_, ?_, ?_, ?_, ?_, h10, hI, ?_, ?_⟩
  · rw [e11]; exact past_at h3
  · rw [e9, fset_same]
  · rw [e9, fset_ne (by omega)]; exact m6
  · rw [e9, fset_ne (by omega), hf _ (by omega)]; exact h6
  · rw [eo _ (by omega) (by omega) (by omega), hf _ (by omega)]; exact h7
  · rw [e9, fset_ne (by omega), hf _ (by omega)]; exact h8
  · rw [eo _ (by omega) (by omega) (by omega), hf _ (by omega)]; exact h9
  · exact fun i hi => (IvE_push h11 h12 i hi).mono hB
  · exact h13.imp_right fun q => q.mono hB
theorem PS.op {M' : Nat → Nat → Int32} {p' : Nat → Nat} {F : Nat → Int32} {B' : Nat} {ra : Int32 × (Nat → Int32)} {rm : Int32 × Option (Nat → Int32)} (h : PS z M p G n H kf K k tx B) (hB : B ≤ B') (ok : okS B' F ra rm) (hf : mfr z M M') (hc : if 0 ≤ ra.1 then CS z M' p' (rm.2.getD G) (pushN n) (pushH n H G) kf K k tx else CS z M' p' G n H kf K k tx) : QS z p' (mok z n M' rm.2) B' := by
  obtain ⟨-, ok2⟩ := ok
  cases hr : rm.2 with
  | none =>
    rw [hr] at ok2
    rw [if_neg (by rw [Int32.not_le]; exact ok2.1)] at hc
    exact QS.mono ⟨G, n, H, kf, K, k, tx, h.cls hf hc⟩ hB
  | some G' =>
    rw [hr] at ok2 hc
    rw [if_pos ok2.1] at hc
    exact ⟨G', _, _, kf, K, k, tx, h.push hB hf hc (ok2.2.elim fun nc q => q.elim fun nh q => q.elim fun np q => ⟨nc, nh, np, q.1⟩)⟩
theorem okS_Lq {F : Nat → Int32} {ra : Int32 × (Nat → Int32)} {rm : Int32 × Option (Nat → Int32)} (ok : okS B F ra rm) : 0 ≤ ra.1 → Lq ra.2 (rm.2.getD G) := by
  intro q
  obtain ⟨-, ok2⟩ := ok
  cases hr : rm.2 with
  | none => rw [hr] at ok2; exact absurd ok2.1 (by rw [Int32.not_lt]; exact q)
  | some G' =>
    rw [hr] at ok2
    obtain ⟨-, nc, nh, np, hI, hL⟩ := ok2
    exact ⟨nc, nh, np, hI.1, hL⟩
end PR
