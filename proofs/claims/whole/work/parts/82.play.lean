/-! both sides called: play -/
theorem PQ_R {g : Nat → Int32} {k : Nat} : ∀ (f s : Nat) (o : Int32) (F : Nat → Int32), PQ F → PQ (rehR g k f s o F).2 := by
  intro f
  induction f with
  | zero => intro s o F h; exact h
  | succ f ih =>
    intro s o F h
    simp only [rehR]
    by_cases hs : s < k
    · rw [if_pos hs]
      cases hr : (rehO g s F).1 with
      | inl e => exact ih _ _ _ (PQ_s h)
      | inr rc => exact PQ_s h
    · rw [if_neg hs]; exact h
theorem rehR_n {g : Nat → Int32} {k : Nat} : ∀ (f s m : Nat) (F : Nat → Int32), ∃ m', m' ≤ m + f ∧ (rehR g k f s (nI m) F).1.1 = nI m' := by
  intro f
  induction f with
  | zero => intro s m F; exact ⟨m, by omega, rfl⟩
  | succ f ih =>
    intro s m F
    simp only [rehR]
    by_cases hs : s < k
    · rw [if_pos hs]
      cases hr : (rehO g s F).1 with
      | inl e =>
        obtain ⟨m', h1, h2⟩ := ih e (m + 1) (rehO g s F).2
        rw [← nI_1] at h2
        exact ⟨m', by omega, h2⟩
      | inr rc => exact ⟨m, by omega, rfl⟩
    · rw [if_neg hs]; exact ⟨m, by omega, rfl⟩
theorem Lq.rfl {F : Nat → Int32} (h : PQ F) : Lq F F := by
  obtain ⟨nc, nh, np, hc⟩ := PQ_c h
  exact ⟨nc, nh, np, hc, fun _ _ => Eq.refl _⟩
theorem Lq.trans {F G K : Nat → Int32} (h : Lq F G) (k : Lq G K) : Lq F K := by
  obtain ⟨nc, nh, np, hc, hl⟩ := h
  obtain ⟨nc', nh', np', hc', hl'⟩ := k
  obtain ⟨rfl, rfl, rfl⟩ := cnt_uniq hc (hl'.cnt hc')
  exact ⟨_, _, _, hc', Lv.trans hl hl'⟩
section BP
variable {z : Zt} {d B : Nat} {M : Nat → Nat → Int32} {p : Nat → Nat} {G : Nat → Int32} {n : Nat} {H : Nat → Nat → Int32} {kf : Int32} {K : Nat → Int32} {k : Nat} {tx : Nat → Int32}
theorem PS.push2 {M' M1 M2 : Nat → Nat → Int32} {p' : Nat → Nat} {G' : Nat → Int32} {B' : Nat} (h : PS z M p G n H kf K k tx B) (hB : B ≤ B') (hf : mfr z M M') (hc : CS z M' p' G' (pushN n) (pushH n H G) kf K k tx) (hk : mkp z M' M1) (hI : IvE G' B') (hk2 : mkp z (mok z n M1 (some G')) M2) : PS z M2 p' G' (pushN n) (pushH n H G) kf K k tx B' := by
  have hz := h.1.1.1
  have h0 : PS z (fun x => if x < z.1 + 309 then M x else M1 x) p G n H kf K k tx B := by
    refine h.mod ⟨fun x a b c e => ?_, fun j hj => ?_⟩
    · by_cases q : x < z.1 + 309
      · exact if_pos q
      · show (if x < z.1 + 309 then M x else M1 x) = M x
        rw [if_neg q, hk.1 x a b c e, hf x (by omega)]
    · show (if z.1 + 309 < z.1 + 309 then M (z.1 + 309) else M1 (z.1 + 309)) j = _
      rw [if_neg (by omega), hk.2 j hj, hf _ (by omega)]
  have h1 : mfr z (fun x => if x < z.1 + 309 then M x else M1 x) M1 := fun x hx => by
    show M1 x = (if x < z.1 + 309 then M x else M1 x)
    rw [if_neg (by omega)]
  exact (h0.push hB h1 (hc.up fun x hx => hk.1 x (by omega) (by omega) (by omega) (by omega)) hI).mod hk2
theorem b_play : Bth z d 105 178 [] B := by
  rintro M p ⟨G, n, H, kf, K, k, tx, h⟩
  obtain ⟨hz, hn4, nc, nh, np, hI, hl, hc, hL, hC⟩ := h.get
  obtain ⟨t1, t2, t3⟩ := h.txt
  have hn4' : pushN n ≤ 4 := by unfold pushN; split <;> omega
  have hP : PQ (cpF (M (z.1 + 44)) (M (z.1 + 1)) nc nh np) := ⟨G, nc, nh, np, B, hI, hL⟩
  have hR := PQ_R (g := sg k (M (z.1 + 305))) (k := k) 60 0 0 _ hP
  obtain ⟨M', p', e1, f1, c1⟩ := c_play (d := d + 1) (p := p) (P := PQ) h.1 (fun F hF => PQ_c hF) (fun F s _ hF => PQ_s hF) t1 rfl hc rfl hP (G' := (rehR (sg k (M (z.1 + 305))) k 60 0 0 (cpF (M (z.1 + 44)) (M (z.1 + 1)) nc nh np)).2) (fun _ => Lq.rfl hR)
  have g10 : M' (z.1 + 310) = G := by rw [f1 _ (by omega)]; exact h.2.1
  obtain ⟨M2, e2, k2⟩ := m_mplay (d := d) (p := p') (M := M') (n := n) (k := k) (F := cpF (M (z.1 + 44)) (M (z.1 + 1)) nc nh np) (P := PP B) (T0 := M (z.1 + 315)) hz t2 (fun a b F G hab hF => PP.mono hab hF) hn4 (calls_ok hz hn4) (calls_ok hz hn4') (by rw [f1 _ (by omega)]; exact h.2.2.2.2.1) (by rw [f1 _ (by omega)]; exact h.2.2.2.2.2.2.2.1) (by rw [f1 _ (by omega)]; exact h.2.2.2.1) (f1 _ (by omega)) ⟨nc, nh, np, by rw [g10]; exact hI, by rw [g10]; exact hL⟩
  rw [t3] at e2 k2
  obtain ⟨m', hm', en⟩ := rehR_n (g := sg k (M (z.1 + 305))) (k := k) 60 0 0 (cpF (M (z.1 + 44)) (M (z.1 + 1)) nc nh np)
  rw [l0] at en
  unfold plaV at e1 c1
  cases hr : (rehR (sg k (M (z.1 + 305))) k 60 0 0 (cpF (M (z.1 + 44)) (M (z.1 + 1)) nc nh np)).1.2 with
  | none =>
    rw [hr] at e1 c1 e2 k2
    dsimp only at e1 c1 e2 k2
    rw [if_pos (by rw [en]; exact nI_pos' (by omega))] at c1
    obtain ⟨M1, G', k3, k4, nc', nh', np', hI', hL'⟩ := k2
    have c2 : CS z M' p' G' (pushN n) (pushH n H G) kf K k tx := by
      obtain ⟨g1, g2, gr⟩ := c1
      exact ⟨g1, g2.trans ⟨nc', nh', np', hI'.1, hL'⟩, gr⟩
    exact ⟨_, _, _, _, e1, e2, ⟨G', _, _, kf, K, k, tx, h.push2 (by omega) f1 c2 k3 ⟨nc', nh', np', hI'.mono (by omega)⟩ k4⟩⟩
  | some t =>
    rw [hr] at e1 c1 e2 k2
    dsimp only at e1 c1 e2 k2
    rw [if_neg (by decide)] at c1
    exact ⟨_, _, _, _, e1, e2, QS.mono ⟨G, n, H, kf, K, k, tx, (h.cls f1 c1).mod k2⟩ (by omega)⟩
end BP
