/-! both sides called: questions, snapshot, text, play -/
section BU
variable {z : Zt} {d B : Nat} {M : Nat → Nat → Int32} {p : Nat → Nat} {G : Nat → Int32} {n : Nat} {H : Nat → Nat → Int32} {kf : Int32} {K : Nat → Int32} {k : Nat} {tx : Nat → Int32}
abbrev Bans (z : Zt) (d c m : Nat) (as : List Value) (B : Nat) (M : Nat → Nat → Int32) (p : Nat → Nat) : Prop := ∃ v M1 p1 M2, run (d + 9) c (.ref z.1 :: as) (wld z M p) = some (some (.int v), wld z M1 p1) ∧ run (d + 9) m (.ref (z.1 + 309) :: as) (wld z M1 p1) = some (some (.int v), wld z M2 p1) ∧ QS z p1 M2 (B + 60)
theorem b_ask {c m : Nat} {as : List Value} {v : Int32} (h : PS z M p G n H kf K k tx B) (e1 : run (d + 9) c (.ref z.1 :: as) (wld z M p) = some (some (.int v), wld z M p)) (e2 : run (d + 9) m (.ref (z.1 + 309) :: as) (wld z M p) = some (some (.int v), wld z M p)) : Bans z d c m as B M p := ⟨v, M, p, M, e1, e2, QS.mono ⟨G, n, H, kf, K, k, tx, h⟩ (by omega)⟩
theorem PS.tri {T : Nat → Int32} (h : PS z M p G n H kf K k tx B) : PS z (mput M (z.1 + 44) T) p G n H kf K k tx B := h.cls (mfr.rf.put (by omega)) h.1.tri
theorem mkp.p314 {z : Zt} {M : Nat → Nat → Int32} {T : Nat → Int32} : mkp z M (mput M (z.1 + 314) T) := ⟨fun x _ _ c _ => mput_ne c, fun j _ => by rw [mput_ne (by omega)]⟩
theorem b_clientOf {x y : Int32} : Bth z d 88 152 [.int x, .int y] B := by
  rintro M p ⟨G, n, H, kf, K, k, tx, h⟩
  obtain ⟨hz, hn4, nc, nh, np, hI, hl, hc, hL, hC⟩ := h.get
  have h310 := h.2.1
  have c0 := hI.1.1
  rcases nI_case (n := x) c0 (by have := hc.2.1; omega) with ⟨i, hi, rfl⟩ | hx
  · have e1 := c_clientOf (d := d + 4) (p := p) hz hc hi (x := y)
    by_cases hy : 0 ≤ y ∧ y ≤ 6
    · rw [qC_same hI hl hi hy] at e1
      have e2 := m_mclientOf (d := d + 5) (p := p) (M := M) hz (by rw [h310]; exact hI.1) (fun i hi => by rw [h310]; exact hI.wh hi) hi hy
      rw [h310] at e2
      exact b_ask h e1 e2
    · rw [qC_no hy] at e1
      exact b_ask h e1 (m_mclientOfNo (d := d + 5) hz (Or.inr hy))
  · exact b_ask h (c_clientOfNo (d := d + 5) hz (by rw [hc.1, ← c0]; exact hx)) (m_mclientOfNo (d := d + 5) hz (Or.inl (by rw [h310]; exact hx)))
theorem b_chapterOf {x y : Int32} : Bth z d 89 154 [.int x, .int y] B := by
  rintro M p ⟨G, n, H, kf, K, k, tx, h⟩
  obtain ⟨hz, hn4, nc, nh, np, hI, hl, hc, hL, hC⟩ := h.get
  have h310 := h.2.1
  have c1 := hI.1.2.2.1
  rcases nI_case (n := x) c1 (by have := hc.2.2.2.1; omega) with ⟨i, hi, rfl⟩ | hx
  · have e1 := c_chapterOf (d := d + 5) (p := p) hz hc hi (x := y)
    by_cases hy : 0 ≤ y ∧ y ≤ 5
    · rw [qH_same hI hl hi hy] at e1
      have e2 := m_mchapterOf (d := d + 6) (p := p) (M := M) hz (by rw [h310]; exact hI.1) hi hy
      rw [h310] at e2
      exact b_ask h e1 e2
    · rw [qH_no hy] at e1
      exact b_ask h e1 (m_mchapterOfNo (d := d + 6) hz (Or.inr hy))
  · exact b_ask h (c_chapterOfNo (d := d + 5) hz (by rw [hc.2.2.1, ← c1]; exact hx)) (m_mchapterOfNo (d := d + 6) hz (Or.inl (by rw [h310]; exact hx)))
theorem b_phraseOf {x y : Int32} (hB : B < 2147483648) : Bth z d 90 155 [.int x, .int y] B := by
  rintro M p ⟨G, n, H, kf, K, k, tx, h⟩
  obtain ⟨hz, hn4, nc, nh, np, hI, hl, hc, hL, hC⟩ := h.get
  have hq := fun (i : Nat) (hi : i < np) (hy : 0 ≤ y ∧ y ≤ 10) => qP_same hI hB hl hi hy
  clear hB
  have h310 := h.2.1
  have c2 := hI.1.2.2.2.2.1
  have hno : (¬ (0 ≤ x ∧ x < G 2) ∨ ¬ (0 ≤ y ∧ y ≤ 10)) → Bans z d 90 155 [.int x, .int y] B M p := fun q => b_ask h (c_phraseOfNo (d := d + 5) hz hc (by rw [hc.2.2.2.2.1, ← c2]; exact q)) (m_mphraseOfNo (d := d + 6) hz (by rw [h310]; exact q))
  rcases nI_case (n := x) c2 (by have := hc.2.2.2.2.2; omega) with ⟨i, hi, rfl⟩ | hx
  · by_cases hy : 0 ≤ y ∧ y ≤ 10
    · have e1 := c_phraseOf (d := d + 5) (p := p) hz hc hi hy
      have e2 := m_mphraseOf (d := d + 6) (p := p) (M := M) hz (by rw [h310]; exact hI.1) hi (by rw [h310]; exact hI.wh hi) hy
      rw [h310, ← hq i hi hy] at e2
      exact b_ask h e1 e2
    · exact hno (Or.inr hy)
  · exact hno (Or.inl hx)
theorem b_find {x y a : Int32} : Bth z d 91 156 [.int x, .int y, .int a] B := by
  rintro M p ⟨G, n, H, kf, K, k, tx, h⟩
  obtain ⟨hz, hn4, nc, nh, np, hI, hl, hc, hL, hC⟩ := h.get
  have h310 := h.2.1
  have e1 := c_find (d := d + 6) (p := p) hz hc (a := x) (b := y) (c := a)
  have e2 := m_mfind (d := d + 6) (p := p) (M := M) hz (by rw [h310]; exact hI.1) (a := x) (b := y) (c := a)
  rw [h310, ← qF_same hI hl] at e2
  exact b_ask h e1 e2
theorem b_on {x y a : Int32} : Bth z d 92 157 [.int x, .int y, .int a] B := by
  rintro M p ⟨G, n, H, kf, K, k, tx, h⟩
  obtain ⟨hz, hn4, nc, nh, np, hI, hl, hc, hL, hC⟩ := h.get
  have h310 := h.2.1
  have hpg : pageP (M (z.1 + 1)) x y = pageP G x y := Lv_page hl hI.1
  by_cases q : pageP G x y ∧ (0 ≤ a ∧ a ≤ 10)
  · have e1 := c_on (d := d + 6) (p := p) hz hc (c := x) (g := y) (x := a) (hpg ▸ q.1) q.2
    rw [qO_same hI hl q.1] at e1
    have e2 := m_mon (d := d + 6) (p := p) (M := M) hz (by rw [h310]; exact hI.1) (c := x) (g := y) (x := a) (by rw [h310]; exact q.1) q.2
    rw [h310] at e2
    exact b_ask h e1 e2
  · have q' : ¬ pageP G x y ∨ ¬ (0 ≤ a ∧ a ≤ 10) := by
      by_cases w : pageP G x y
      · exact Or.inr fun u => q ⟨w, u⟩
      · exact Or.inl w
    exact b_ask h (c_onNo (d := d + 6) hz hc (q'.imp_left fun w u => w (hpg ▸ u))) (m_monNo (d := d + 6) hz (by rw [h310]; exact hI.1) (by rw [h310]; exact q'))
theorem b_tells {x y : Int32} : Bth z d 93 158 [.int x, .int y] B := by
  rintro M p ⟨G, n, H, kf, K, k, tx, h⟩
  obtain ⟨hz, hn4, nc, nh, np, hI, hl, hc, hL, hC⟩ := h.get
  have h310 := h.2.1
  have c0 := hI.1.1
  have hno : (¬ (0 ≤ x ∧ x < G 0) ∨ ¬ (0 ≤ y ∧ y ≤ 15)) → Bans z d 93 158 [.int x, .int y] B M p := fun q => b_ask h (c_tellsNo (d := d + 5) hz hc (by rw [hc.1, ← c0]; exact q)) (m_mtellsNo (d := d + 5) hz (by rw [h310]; exact q))
  rcases nI_case (n := x) c0 (by have := hc.2.1; omega) with ⟨i, hi, rfl⟩ | hx
  · by_cases hy : 0 ≤ y ∧ y ≤ 15
    · have e1 := c_tells (d := d + 4) (p := p) hz hc hi hy
      rw [qT_same hI hl hi] at e1
      have e2 := m_mtells (d := d + 5) (p := p) (M := M) hz (by rw [h310]; exact hI.1) (fun i hi => by rw [h310]; exact hI.wh hi) hi hy
      rw [h310] at e2
      exact b_ask h e1 e2
    · exact hno (Or.inr hy)
  · exact hno (Or.inl hx)
theorem b_alike {x : Int32} : Bth z d 94 159 [.int x] B := by
  rintro M p ⟨G, n, H, kf, K, k, tx, h⟩
  obtain ⟨hz, hn4, nc, nh, np, hI, hl, hc, hL, hC⟩ := h.get
  have h310 := h.2.1
  have c2 := hI.1.2.2.2.2.1
  rcases nI_case (n := x) c2 (by have := hc.2.2.2.2.2; omega) with ⟨i, hi, rfl⟩ | hx
  · have e1 := c_alike (d := d + 5) (p := p) hz hc hi
    rw [qA_same hI hl hi] at e1
    have e2 := m_malike (d := d + 6) (p := p) (M := M) hz (by rw [h310]; exact hI.1) (fun i hi => by rw [h310]; exact hI.wh hi) hi
    rw [h310] at e2
    exact b_ask h e1 e2
  · exact b_ask h (c_alikeNo (d := d + 5) hz (by rw [hc.2.2.2.2.1, ← c2]; exact hx)) (m_malikeNo (d := d + 6) hz (by rw [h310]; exact hx))
theorem b_count {x : Int32} : Bth z d 95 162 [.int x] B := by
  rintro M p ⟨G, n, H, kf, K, k, tx, h⟩
  obtain ⟨hz, hn4, nc, nh, np, hI, hl, hc, hL, hC⟩ := h.get
  have h310 := h.2.1
  have e1 := c_count (d := d + 6) (p := p) hz hc (x := x)
  have e2 := m_mcount (d := d + 5) (p := p) (M := M) hz (by rw [h310]; exact hI.1) (x := x)
  rw [h310] at e2
  obtain ⟨g1, g2, g3, g4, g5, g6, g7, g8, g9, g10⟩ := h.1
  rw [g3, g8, g6, qN_same hI hl h.2.2.2.1 h.2.2.2.2.2.2.2.1 h.2.2.2.2.2.1] at e1
  exact b_ask h e1 e2
theorem b_coming {x y : Int32} : Bth z d 96 163 [.int x, .int y] B := by
  rintro M p ⟨G, n, H, kf, K, k, tx, h⟩
  obtain ⟨hz, hn4, nc, nh, np, hI, hl, hc, hL, hC⟩ := h.get
  by_cases hx : 1 ≤ x ∧ x ≤ 99
  · by_cases hy : 0 ≤ y ∧ y ≤ 1
    · obtain ⟨u, h1, h99, rfl⟩ := to99 hx
      obtain ⟨q1, q2, q3⟩ := qM_same hI hL h99 (x := y)
      have e1 := c_coming (d := d + 4) (p := p) hz hc hx hy rfl q2
      rw [q1] at e1
      have e310 : mput M (z.1 + 44) (sendR (cpF (M (z.1 + 44)) (M (z.1 + 1)) nc nh np) (cpF (M (z.1 + 44)) (M (z.1 + 1)) nc nh np 3 + nI u) 0 np).1 (z.1 + 310) = G := by rw [mput_ne (by omega)]; exact h.2.1
      have e2 := m_mcoming (d := d + 3) (p := p) (M := mput M (z.1 + 44) (sendR (cpF (M (z.1 + 44)) (M (z.1 + 1)) nc nh np) (cpF (M (z.1 + 44)) (M (z.1 + 1)) nc nh np 3 + nI u) 0 np).1) hz (by rw [e310]; exact hI.1) h99 h1 (fun i hi => by rw [e310]; exact q3 i hi) hy
      rw [e310] at e2
      exact ⟨_, _, _, _, e1, e2, QS.mono ⟨G, n, H, kf, K, k, tx, h.tri.mod mkp.p314⟩ (by omega)⟩
    · exact b_ask h (c_comingNo (d := d + 6) (Or.inr hy)) (m_mcomingNo (d := d + 7) (Or.inr hy))
  · exact b_ask h (c_comingNo (d := d + 6) (Or.inl hx)) (m_mcomingNo (d := d + 7) (Or.inl hx))
theorem b_best {x : Int32} : Bth z d 97 164 [.int x] B := by
  rintro M p ⟨G, n, H, kf, K, k, tx, h⟩
  obtain ⟨hz, hn4, nc, nh, np, hI, hl, hc, hL, hC⟩ := h.get
  by_cases hx : 0 ≤ x ∧ x ≤ 1
  · have hcp : ∀ T, Lv nc nh np (cpF T (M (z.1 + 1)) nc nh np) G := fun T => (cpF_Lv hc.2.1 hc.2.2.2.1).trans hl
    obtain ⟨T, e1⟩ := c_best (d := d + 3) (p := p) (M := M) hz rfl hc (B := fun i => bstN G nc nh np i) (fun T i hi => (bst_same hI (hcp T) hi).1) (fun T i hi => (bst_same hI (hcp T) hi).2.1) hx
    rw [best_val hI.1.2.2.2.1 (fun i hi => rfl)] at e1
    have e310 : mput M (z.1 + 44) T (z.1 + 310) = G := by rw [mput_ne (by omega)]; exact h.2.1
    have e2 := m_mbest (d := d + 3) (p := p) (M := mput M (z.1 + 44) T) hz e310 hI.1 (fun i hi => hI.own hi) (fun i hi => (bst_same hI hL hi).2.2) hx
    exact ⟨_, _, _, _, e1, e2, QS.mono ⟨G, n, H, kf, K, k, tx, h.tri.mod mkp.p314⟩ (by omega)⟩
  · exact b_ask h (c_bestNo (d := d + 7) hx) (m_mbestNo (d := d + 7) hx)
theorem CS.chg {G' : Nat → Int32} (h : CS z M p G n H kf K k tx) (e : ∀ j, j < 298 → G' j = G j) : CS z M p G' n H kf K k tx := ⟨h.1, h.2.1.ag e, h.2.2⟩
theorem b_keep : Bth z d 99 165 [] B := by
  rintro M p ⟨G, n, H, kf, K, k, tx, h⟩
  obtain ⟨hz, hn4, -⟩ := h.get
  obtain ⟨M', v, e1, rfl, f1, c1⟩ := c_keep (d := d + 6) h.1
  have h310 : M' (z.1 + 310) = G := by rw [f1 _ (by omega)]; exact h.2.1
  have e2 := m_mkeep (d := d + 7) (p := p) (M := M') hz
  rw [h310] at e2
  obtain ⟨h1, h2, h3, h4, h5, h6, h7, h8, h9, h10, h11, h12, h13⟩ := h
  have e9 : mput (mput M' (z.1 + 312) G) (z.1 + 309) (fset (M' (z.1 + 309)) 5 1) (z.1 + 309) = fset (M' (z.1 + 309)) 5 1 := mput_same
  have eo : ∀ x, x ≠ z.1 + 309 → x ≠ z.1 + 312 → mput (mput M' (z.1 + 312) G) (z.1 + 309) (fset (M' (z.1 + 309)) 5 1) x = M' x := fun x a b => by rw [mput_ne a, mput_ne b]
  refine ⟨_, _, _, _, e1, e2, QS.mono (B := B) ⟨G, n, H, 1, G, k, tx, c1.up fun x hx => eo x (by omega) (by omega), ?_, ?_, ?_, ?_, ?_, ?_, ?_, ?_, h10, h11, h12, Or.inr h11⟩ (by omega)⟩
  · rw [eo _ (by omega) (by omega)]; exact h310
  · rw [eo _ (by omega) (by omega), f1 _ (by omega)]; exact h3
  · rw [e9, fset_ne (by omega), f1 _ (by omega)]; exact h4
  · rw [e9, fset_ne (by omega), f1 _ (by omega)]; exact h5
  · rw [e9, fset_same]
  · exact Or.inr (by rw [mput_ne (by omega), mput_same])
  · rw [e9, fset_ne (by omega), f1 _ (by omega)]; exact h8
  · rw [eo _ (by omega) (by omega), f1 _ (by omega)]; exact h9
theorem b_restore : Bth z d 100 166 [] B := by
  rintro M p ⟨G, n, H, kf, K, k, tx, h⟩
  obtain ⟨hz, hn4, -⟩ := h.get
  have hk := h.1.2.2.2.2.2.2.1
  rcases hk with hk | ⟨hk, -⟩
  · exact b_ask h (c_restoreNo (d := d + 5) h.1 hk) (m_mrestoreNo (d := d + 7) hz (by rw [h.2.2.2.2.2.1]; exact hk))
  · have n0 : ¬ kf = 0 := by rw [hk]; decide
    obtain ⟨M', p', v, e1, rfl, f1, c1⟩ := c_restore (d := d + 5) h.1 hk
    have e312 : M' (z.1 + 312) = K := by rw [f1 _ (by omega)]; exact h.2.2.2.2.2.2.1.resolve_left n0
    have e2 := m_mrestore (d := d + 7) (p := p') (M := M') hz (by rw [f1 _ (by omega)]; exact h.2.2.2.1) hn4 (by rw [f1 _ (by omega), h.2.2.2.2.2.1]; exact n0)
    rw [e312] at e2
    have hIK := h.2.2.2.2.2.2.2.2.2.2.2.2.resolve_left n0
    exact ⟨_, _, _, _, e1, e2, QS.mono ⟨K, _, _, kf, K, k, tx, h.push (Nat.le_refl _) f1 c1 hIK⟩ (by omega)⟩
theorem b_undo : Bth z d 101 167 [] B := by
  rintro M p ⟨G, n, H, kf, K, k, tx, h⟩
  obtain ⟨hz, hn4, -⟩ := h.get
  cases n with
  | zero => exact b_ask h (c_undoNo (d := d + 5) h.1) (m_mundoNo (d := d + 7) hz (by rw [h.2.2.2.1, l0]))
  | succ n =>
    obtain ⟨M', e1, f1, c1⟩ := c_undo (d := d + 5) h.1
    obtain ⟨h1, h2, h3, h4, h5, h6, h7, h8, h9, h10, h11, h12, h13⟩ := h
    have e2 := m_mundo (d := d + 7) (p := p) (M := M') hz (n := n) (by omega) (by rw [f1 _ (by omega)]; exact h4)
    have e11 : M' (z.1 + 311) = M (z.1 + 311) := f1 _ (by omega)
    rw [e11] at e2
    have hR : ∀ j, j < 298 → M (z.1 + 311) (298 * n + j) = H n j := fun j hj => h3 n j (by omega) hj
    generalize hRd : (fun j => M (z.1 + 311) (298 * n + j)) = R at e2
    have hR' : ∀ j, j < 298 → R j = H n j := fun j hj => by rw [← hRd]; exact hR j hj
    have e9 : mput (mput M' (z.1 + 309) (fset (M' (z.1 + 309)) 7 (nI n))) (z.1 + 310) R (z.1 + 309) = fset (M' (z.1 + 309)) 7 (nI n) := by rw [mput_ne (by omega), mput_same]
    have eo : ∀ x, x ≠ z.1 + 309 → x ≠ z.1 + 310 → mput (mput M' (z.1 + 309) (fset (M' (z.1 + 309)) 7 (nI n))) (z.1 + 310) R x = M' x := fun x a b => by rw [mput_ne b, mput_ne a]
    refine ⟨_, _, _, _, e1, e2, QS.mono (B := B) ⟨R, n, H, kf, K, k, tx, (c1.chg hR').up fun x hx => eo x (by omega) (by omega), mput_same, ?_, ?_, ?_, ?_, ?_, ?_, ?_, h10, (h12 n (by omega)).ag hR', fun i hi => h12 i (by omega), h13⟩ (by omega)⟩
    · rw [eo _ (by omega) (by omega), e11]; exact fun i j hi hj => h3 i j (by omega) hj
    · rw [e9, fset_same]
    · rw [e9, fset_ne (by omega), f1 _ (by omega)]; exact h5
    · rw [e9, fset_ne (by omega), f1 _ (by omega)]; exact h6
    · rw [eo _ (by omega) (by omega), f1 _ (by omega)]; exact h7
    · rw [e9, fset_ne (by omega), f1 _ (by omega)]; exact h8
    · rw [eo _ (by omega) (by omega), f1 _ (by omega)]; exact h9
theorem b_type {x : Int32} : Bth z d 102 168 [.int x] B := by
  rintro M p ⟨G, n, H, kf, K, k, tx, h⟩
  obtain ⟨hz, hn4, -⟩ := h.get
  by_cases hx : 32 ≤ x ∧ x ≤ 126
  · have hk60 := h.1.2.2.2.2.2.2.2.2.1
    rcases Nat.lt_or_ge k 60 with hk | hk
    · obtain ⟨M', e1, f1, c1⟩ := c_type (d := d + 6) h.1 hx hk
      obtain ⟨h1, h2, h3, h4, h5, h6, h7, h8, h9, h10, h11, h12, h13⟩ := h
      have e2 := m_mtype (d := d + 7) (p := p) (M := M') hz (k := k) (by rw [f1 _ (by omega)]; exact h8) hk hx
      have e9 : mput (mput M' (z.1 + 315) (fset (M' (z.1 + 315)) k x)) (z.1 + 309) (fset (M' (z.1 + 309)) 9 (nI (k + 1))) (z.1 + 309) = fset (M' (z.1 + 309)) 9 (nI (k + 1)) := mput_same
      have eo : ∀ y, y ≠ z.1 + 309 → y ≠ z.1 + 315 → mput (mput M' (z.1 + 315) (fset (M' (z.1 + 315)) k x)) (z.1 + 309) (fset (M' (z.1 + 309)) 9 (nI (k + 1))) y = M' y := fun y a b => by rw [mput_ne a, mput_ne b]
      refine ⟨_, _, _, _, e1, e2, QS.mono (B := B) ⟨G, n, H, kf, K, k + 1, fset tx k x, c1.up fun x hx => eo x (by omega) (by omega), ?_, ?_, ?_, ?_, ?_, ?_, ?_, ?_, ?_, h11, h12, h13⟩ (by omega)⟩
      · rw [eo _ (by omega) (by omega), f1 _ (by omega)]; exact h2
      · rw [eo _ (by omega) (by omega), f1 _ (by omega)]; exact h3
      · rw [e9, fset_ne (by omega), f1 _ (by omega)]; exact h4
      · rw [e9, fset_ne (by omega), f1 _ (by omega)]; exact h5
      · rw [e9, fset_ne (by omega), f1 _ (by omega)]; exact h6
      · rw [eo _ (by omega) (by omega), f1 _ (by omega)]; exact h7
      · rw [e9, fset_same]
      · intro j hj
        rw [mput_ne (by omega), mput_same]
        by_cases e : j = k
        · rw [e, fset_same, fset_same]
        · rw [fset_ne e, fset_ne e, f1 _ (by omega)]; exact h9 j (by omega)
      · intro j hj
        by_cases e : j = k
        · rw [e, fset_same]; exact ⟨Int32.le_trans (by decide) hx.1, hx.2⟩
        · rw [fset_ne e]; exact h10 j (by omega)
    · obtain rfl : k = 60 := by omega
      exact b_ask h (c_typeFull (d := d + 6) h.1 hx) (m_mtypeFull (d := d + 7) hz h.2.2.2.2.2.2.2.1 hx)
  · exact b_ask h (c_typeNo (d := d + 6) hz hx) (m_mtypeNo (d := d + 7) hx)
theorem b_clearText : Bth z d 103 169 [] B := by
  rintro M p ⟨G, n, H, kf, K, k, tx, h⟩
  obtain ⟨hz, hn4, -⟩ := h.get
  obtain ⟨M', e1, f1, c1⟩ := c_clearText (d := d + 6) h.1
  obtain ⟨h1, h2, h3, h4, h5, h6, h7, h8, h9, h10, h11, h12, h13⟩ := h
  have e2 := m_mclearText (d := d + 7) (p := p) (M := M') hz
  rw [f1 (z.1 + 309) (by omega), h8] at e2
  have eo : ∀ x, x ≠ z.1 + 309 → mput M' (z.1 + 309) (fset (M (z.1 + 309)) 9 0) x = M' x := fun x a => mput_ne a
  refine ⟨_, _, _, _, e1, e2, QS.mono (B := B) ⟨G, n, H, kf, K, 0, tx, c1.up fun x hx => eo x (by omega), ?_, ?_, ?_, ?_, ?_, ?_, ?_, fun j hj => by omega, fun j hj => by omega, h11, h12, h13⟩ (by omega)⟩
  · rw [eo _ (by omega), f1 _ (by omega)]; exact h2
  · rw [eo _ (by omega), f1 _ (by omega)]; exact h3
  · rw [mput_same, fset_ne (by omega)]; exact h4
  · rw [mput_same, fset_ne (by omega)]; exact h5
  · rw [mput_same, fset_ne (by omega)]; exact h6
  · rw [eo _ (by omega), f1 _ (by omega)]; exact h7
  · rw [mput_same, fset_same, l0]
theorem sg_eq {T T' : Nat → Int32} (e : ∀ j, j < k → T j = T' j) : sg k T = sg k T' := by
  funext j
  unfold sg
  by_cases q : j < k
  · rw [if_pos q, if_pos q]; exact e j q
  · rw [if_neg q, if_neg q]
theorem PS.txt (h : PS z M p G n H kf K k tx B) : txok M z k ∧ k ≤ 60 ∧ sg k (M (z.1 + 315)) = sg k (M (z.1 + 305)) := by
  obtain ⟨⟨g1, g2, g3, g4, g5, g6, g7, g8, g9, g10⟩, h2, h3, h4, h5, h6, h7, h8, h9, h10, h11, h12, h13⟩ := h
  refine ⟨⟨g8, g9, fun j hj => by rw [g10 j hj]; exact h10 j hj⟩, g9, sg_eq fun j hj => ?_⟩
  rw [g10 j hj]; exact h9 j hj
theorem b_fault {x : Int32} : Bth z d 104 177 [.int x] B := by
  rintro M p ⟨G, n, H, kf, K, k, tx, h⟩
  obtain ⟨hz, hn4, nc, nh, np, hI, hl, hc, hL, hC⟩ := h.get
  by_cases hx : 0 ≤ x ∧ x ≤ 2
  · obtain ⟨t1, t2, t3⟩ := h.txt
    obtain ⟨M1, e1, r1⟩ := c_fault (d := d + 1) (p := p) (P := PQ) hz (fun F hF => PQ_c hF) (fun F s _ hF => PQ_s hF) t1 rfl hc rfl ⟨G, nc, nh, np, B, hI, hL⟩ hx
    have hP1 : PS z M1 p G n H kf K k tx B := h.cls (fun y hy => r1 y (by omega) (by omega) (by omega) (by omega)) (h.1.rf r1)
    have h15 : M1 (z.1 + 315) = M (z.1 + 315) := r1 _ (by omega) (by omega) (by omega) (by omega)
    obtain ⟨M2, e2, k2⟩ := m_mfault (d := d) (p := p) (M := M1) (F := cpF (M (z.1 + 44)) (M (z.1 + 1)) nc nh np) (P := PP B) (T0 := M (z.1 + 315)) hz t2 (fun a b F G hab hF => PP.mono hab hF) (calls_ok hz hn4) hP1.2.2.2.2.1 hP1.2.2.2.2.2.2.2.1 hP1.2.2.2.1 h15 ⟨nc, nh, np, by rw [hP1.2.1]; exact hI, by rw [hP1.2.1]; exact hL⟩ hx
    rw [t3] at e2
    exact ⟨_, _, _, _, e1, e2, QS.mono ⟨G, n, H, kf, K, k, tx, hP1.mod k2⟩ (by omega)⟩
  · exact b_ask h (c_faultNo (d := d + 6) hx) (m_mfaultNo (d := d + 7) hx)
end BU
