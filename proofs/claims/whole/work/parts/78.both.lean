/-! both sides called: orders -/
/-- the class's method and the model's, called alike, answer alike -/
def Bth (z : Zt) (d c m : Nat) (as : List Value) (B : Nat) : Prop := ∀ M p, QS z p M B → ∃ v M1 p1 M2, run (d + 9) c (.ref z.1 :: as) (wld z M p) = some (some (.int v), wld z M1 p1) ∧ run (d + 9) m (.ref (z.1 + 309) :: as) (wld z M1 p1) = some (some (.int v), wld z M2 p1) ∧ QS z p1 M2 (B + 60)
section BT
variable {z : Zt} {d B : Nat}
theorem okS.mono {F : Nat → Int32} {B' : Nat} {ra : Int32 × (Nat → Int32)} {rm : Int32 × Option (Nat → Int32)} (ok : okS B F ra rm) (hB : B ≤ B') : okS B' F ra rm := by
  obtain ⟨h1, h2⟩ := ok
  refine ⟨h1, ?_⟩
  cases hr : rm.2 with
  | none => rw [hr] at h2; exact h2
  | some G' =>
    rw [hr] at h2
    obtain ⟨q, nc, nh, np, hI, hL⟩ := h2
    exact ⟨q, nc, nh, np, hI.mono hB, hL⟩
/-- an order, done on the class's trial state and on the model's row -/
theorem b_op {M : Nat → Nat → Int32} {p : Nat → Nat} {G : Nat → Int32} {n : Nat} {H : Nat → Nat → Int32} {kf : Int32} {K : Nat → Int32} {k : Nat} {tx : Nat → Int32} {c m : Nat} {as : List Value} {ra : Int32 × (Nat → Int32)} {rm : Int32 × Option (Nat → Int32)} {F : Nat → Int32} (h : PS z M p G n H kf K k tx B) (ok : okS (B + 60) F ra rm) (hcl : (0 ≤ ra.1 → Lq ra.2 (rm.2.getD G)) → ∃ M' p', run (d + 9) c (.ref z.1 :: as) (wld z M p) = some (some (.int ra.1), wld z M' p') ∧ mfr z M M' ∧ (if 0 ≤ ra.1 then CS z M' p' (rm.2.getD G) (pushN n) (pushH n H G) kf K k tx else CS z M' p' G n H kf K k tx)) (hmo : ∀ M' p', M' (z.1 + 310) = G → M' (z.1 + 309) 7 = nI n → run (d + 9) m (.ref (z.1 + 309) :: as) (wld z M' p') = some (some (.int rm.1), wld z (mok z n M' rm.2) p')) : ∃ v M1 p1 M2, run (d + 9) c (.ref z.1 :: as) (wld z M p) = some (some (.int v), wld z M1 p1) ∧ run (d + 9) m (.ref (z.1 + 309) :: as) (wld z M1 p1) = some (some (.int v), wld z M2 p1) ∧ QS z p1 M2 (B + 60) := by
  obtain ⟨M', p', e1, e2, e3⟩ := hcl (okS_Lq ok)
  refine ⟨ra.1, M', p', mok z n M' rm.2, e1, ?_, h.op (by omega) ok e2 e3⟩
  rw [ok.1]
  exact hmo M' p' (by rw [e2 _ (by omega)]; exact h.2.1) (by rw [e2 _ (by omega)]; exact h.2.2.2.1)
theorem PS.get {M : Nat → Nat → Int32} {p : Nat → Nat} {G : Nat → Int32} {n : Nat} {H : Nat → Nat → Int32} {kf : Int32} {K : Nat → Int32} {k : Nat} {tx : Nat → Int32} (h : PS z M p G n H kf K k tx B) : zok z ∧ n ≤ 4 ∧ ∃ nc nh np, Inv G nc nh np B ∧ Lv nc nh np (M (z.1 + 1)) G ∧ cnt (M (z.1 + 1)) nc nh np ∧ Lv nc nh np (cpF (M (z.1 + 44)) (M (z.1 + 1)) nc nh np) G ∧ cnt (cpF (M (z.1 + 44)) (M (z.1 + 1)) nc nh np) nc nh np := by
  obtain ⟨h1, h2, h3, h4, h5, h6, h7, h8, h9, h10, ⟨nc, nh, np, hI⟩, h12, h13⟩ := h
  obtain ⟨c1, ⟨nc', nh', np', hc', hl⟩, c3, c4, -⟩ := h1
  obtain ⟨rfl, rfl, rfl⟩ := cnt_uniq hI.1 hc'
  have hc := hl.cnt hI.1
  exact ⟨c1.1, c4, nc, nh, np, hI, hl, hc, (cpF_Lv hc.2.1 hc.2.2.2.1).trans hl, cp_cnt hc⟩
theorem b_client {x y : Int32} : Bth z d 78 126 [.int x, .int y] B := by
  rintro M p ⟨G, n, H, kf, K, k, tx, h⟩
  obtain ⟨hz, hn4, nc, nh, np, hI, hl, hc, hL, hC⟩ := h.get
  have hop := m_addClient (d := d + 5) (M := mput M (z.1 + 44) (cpF (M (z.1 + 44)) (M (z.1 + 1)) nc nh np)) (p := p) (isS_tri hz) (by rw [mput_same]; exact hC) (v := x) (x := y)
  rw [mput_same, mput_mput] at hop
  refine b_op h ((client_ok hI hL (v := x) (x := y)).mono (by omega)) (fun hq => c_client (d := d + 4) h.1 hc hop hq) fun M' p' e1 e2 => ?_
  have := m_mclient (d := d + 7) (M := M') (p := p') hz (by rw [e1]; exact hI.1) e2 hn4 (v := x) (x := y)
  rw [e1] at this
  exact this
theorem b_phrase {x y a b : Int32} : Bth z d 80 131 [.int x, .int y, .int a, .int b] B := by
  rintro M p ⟨G, n, H, kf, K, k, tx, h⟩
  obtain ⟨hz, hn4, nc, nh, np, hI, hl, hc, hL, hC⟩ := h.get
  have hop := m_addPhrase (d := d + 5) (M := mput M (z.1 + 44) (cpF (M (z.1 + 44)) (M (z.1 + 1)) nc nh np)) (p := p) (isS_tri hz) (by rw [mput_same]; exact hC) (v := x) (a := y) (b := a) (c := b)
  rw [mput_same, mput_mput] at hop
  refine b_op h ((phrase_ok hI hL (v := x) (a := y) (b := a) (c := b)).mono (by omega)) (fun hq => c_phrase (d := d + 4) h.1 hc hop hq) fun M' p' e1 e2 => ?_
  have := m_mphrase (d := d + 6) (M := M') (p := p') hz (by rw [e1]; exact hI.1) e2 hn4 (v := x) (a := y) (b := a) (c := b)
  rw [e1] at this
  exact this
theorem b_pass {x : Int32} : Bth z d 86 145 [.int x] B := by
  rintro M p ⟨G, n, H, kf, K, k, tx, h⟩
  obtain ⟨hz, hn4, nc, nh, np, hI, hl, hc, hL, hC⟩ := h.get
  have hop := m_pass (d := d + 4) (M := mput M (z.1 + 44) (cpF (M (z.1 + 44)) (M (z.1 + 1)) nc nh np)) (p := p) (isS_tri hz) (by rw [mput_same]; exact hC) (u := x)
  rw [mput_same, mput_mput] at hop
  refine b_op h ((pass_ok hI hL (u := x)).mono (by omega)) (fun hq => c_pass (d := d + 4) h.1 hc hop hq) fun M' p' e1 e2 => ?_
  unfold moY
  by_cases hx : 1 ≤ x ∧ x ≤ 99
  · rw [if_pos hx]
    obtain ⟨u, h1, h99, rfl⟩ := to99 hx
    have := m_mpass (d := d + 3) (M := M') (p := p') hz (by rw [e1]; exact hI.1) e2 hn4 h1 h99
    rw [e1] at this
    rw [nI_clamp (by omega)]
    exact this
  · rw [if_neg hx]
    exact m_mpassNo (d := d + 7) hx
theorem b_place {x y a : Int32} : Bth z d 81 134 [.int x, .int y, .int a] B := by
  rintro M p ⟨G, n, H, kf, K, k, tx, h⟩
  obtain ⟨hz, hn4, nc, nh, np, hI, hl, hc, hL, hC⟩ := h.get
  have c2 := hI.1.2.2.2.2.1
  rcases nI_case (n := x) c2 (by have := hc.2.2.2.2.2; omega) with ⟨i, hi, rfl⟩ | hx
  · have hop := m_place (d := d + 5) (M := mput M (z.1 + 44) (cpF (M (z.1 + 44)) (M (z.1 + 1)) nc nh np)) (p := p) (isS_tri hz) (by rw [mput_same]; exact hC) hi (c := y) (g := a)
    rw [mput_same, mput_mput] at hop
    refine b_op h ((place_ok hI hL hi (c := y) (g := a)).mono (by omega)) (fun hq => c_place (d := d + 4) h.1 hc hop hq) fun M' p' e1 e2 => ?_
    have := m_mplace (d := d + 6) (M := M') (p := p') hz (by rw [e1]; exact hI.1) e2 hn4 hi (c := y) (g := a)
    rw [e1] at this
    exact this
  · have hop := m_placeNo (d := d + 5) (M := mput M (z.1 + 44) (cpF (M (z.1 + 44)) (M (z.1 + 1)) nc nh np)) (p := p) (isS_tri hz) (n := x) (c := y) (g := a) (by rw [mput_same, hC.2.2.2.2.1, ← c2]; exact hx)
    refine b_op h (okS_no (F := cpF (M (z.1 + 44)) (M (z.1 + 1)) nc nh np) (show (-100001 : Int32) < 0 by decide)) (fun hq => c_place (d := d + 4) h.1 hc hop hq) fun M' p' e1 e2 => ?_
    exact m_mplaceNo (d := d + 6) (M := M') (p := p') hz (by rw [e1]; exact hx)
theorem b_lift {x : Int32} : Bth z d 82 135 [.int x] B := by
  rintro M p ⟨G, n, H, kf, K, k, tx, h⟩
  obtain ⟨hz, hn4, nc, nh, np, hI, hl, hc, hL, hC⟩ := h.get
  have c2 := hI.1.2.2.2.2.1
  rcases nI_case (n := x) c2 (by have := hc.2.2.2.2.2; omega) with ⟨i, hi, rfl⟩ | hx
  · have hop := m_lift (d := d + 5) (M := mput M (z.1 + 44) (cpF (M (z.1 + 44)) (M (z.1 + 1)) nc nh np)) (p := p) (isS_tri hz) (by rw [mput_same]; exact hC) hi
    rw [mput_same, mput_mput] at hop
    refine b_op h ((lift_ok hI hL hi).mono (by omega)) (fun hq => c_lift (d := d + 4) h.1 hc hop hq) fun M' p' e1 e2 => ?_
    have := m_mlift (d := d + 6) (M := M') (p := p') hz (by rw [e1]; exact hI.1) e2 hn4 hi
    rw [e1] at this
    exact this
  · have hop := m_liftNo (d := d + 5) (M := mput M (z.1 + 44) (cpF (M (z.1 + 44)) (M (z.1 + 1)) nc nh np)) (p := p) (isS_tri hz) (n := x) (by rw [mput_same, hC.2.2.2.2.1, ← c2]; exact hx)
    refine b_op h (okS_no (F := cpF (M (z.1 + 44)) (M (z.1 + 1)) nc nh np) (show (-100001 : Int32) < 0 by decide)) (fun hq => c_lift (d := d + 4) h.1 hc hop hq) fun M' p' e1 e2 => ?_
    exact m_mliftNo (d := d + 6) (M := M') (p := p') hz (by rw [e1]; exact hx)
theorem mlend_run {M : Nat → Nat → Int32} {p : Nat → Nat} {G : Nat → Int32} {n nc nh np : Nat} (hz : zok z) (hn4 : n ≤ 4) (hI : Inv G nc nh np B) (e1 : M (z.1 + 310) = G) (e2 : M (z.1 + 309) 7 = nI n) {i : Nat} (hi : i < np) {c g u : Int32} : run (d + 3) 136 [.ref (z.1 + 309), .int (nI i), .int c, .int g, .int u] (wld z M p) = some (some (.int (moX G np i c g u).1), wld z (mok z n M (moX G np i c g u).2) p) := by
  subst e1
  unfold moX
  by_cases hp : pageP (M (z.1 + 310)) c g
  · rw [if_pos hp]
    obtain ⟨ch, hch, rfl⟩ := upto hI.1.2.2.1 (by have := hI.1.2.2.2.1; omega) hp.1
    have h10 := hI.1.2.2.2.1
    have h5 := hI.1.2.1
    obtain ⟨o, ho, eo⟩ := hI.own hch
    have eow : ow (M (z.1 + 310)) (nI ch).toNatClampNeg = nI o := by rw [nI_clamp (by omega)]; exact eo
    rw [eow, nI_clamp (n := o) (by omega)]
    refine m_mlend (d := d) hz hI.1 e2 hn4 hi hp hch ho eo ?_
    rcases (hI.wh hi).1 with h4 | ⟨c0, hc0, h4⟩
    · left; rw [h4]; decide
    · right
      obtain ⟨o2, ho2, eo2⟩ := hI.own hc0
      have eow2 : ow (M (z.1 + 310)) (M (z.1 + 310) (58 + 10 * i + 4)).toNatClampNeg = nI o2 := by rw [h4, nI_clamp (by omega)]; exact eo2
      rw [eow2, nI_clamp (n := o2) (by omega)]
      exact ⟨c0, hc0, h4, eo2, ho2⟩
  · rw [if_neg hp]
    exact m_mlendNo (d := d) hz hI.1 (Or.inr hp)
theorem b_lend {x y a b : Int32} : Bth z d 83 136 [.int x, .int y, .int a, .int b] B := by
  rintro M p ⟨G, n, H, kf, K, k, tx, h⟩
  obtain ⟨hz, hn4, nc, nh, np, hI, hl, hc, hL, hC⟩ := h.get
  have c2 := hI.1.2.2.2.2.1
  rcases nI_case (n := x) c2 (by have := hc.2.2.2.2.2; omega) with ⟨i, hi, rfl⟩ | hx
  · have hop := m_lend (d := d + 4) (M := mput M (z.1 + 44) (cpF (M (z.1 + 44)) (M (z.1 + 1)) nc nh np)) (p := p) (isS_tri hz) (by rw [mput_same]; exact hC) hi (c := y) (g := a) (u := b)
    rw [mput_same, mput_mput] at hop
    refine b_op h ((lend_ok hI hL hi (c := y) (g := a) (u := b)).mono (by omega)) (fun hq => c_lend (d := d + 4) h.1 hc hop hq) fun M' p' e1 e2 => ?_
    exact mlend_run (d := d + 6) hz hn4 hI e1 e2 hi
  · have hop := m_lendNo (d := d + 4) (M := mput M (z.1 + 44) (cpF (M (z.1 + 44)) (M (z.1 + 1)) nc nh np)) (p := p) (isS_tri hz) (n := x) (c := y) (g := a) (u := b) (by rw [mput_same, hC.2.2.2.2.1, ← c2]; exact hx)
    refine b_op h (okS_no (F := cpF (M (z.1 + 44)) (M (z.1 + 1)) nc nh np) (show (-100001 : Int32) < 0 by decide)) (fun hq => c_lend (d := d + 4) h.1 hc hop hq) fun M' p' e1 e2 => ?_
    exact m_mlendNo (d := d + 6) (M := M') (p := p') hz (by rw [e1]; exact hI.1) (Or.inl (by rw [e1]; exact hx))
theorem b_set {x y : Int32} : Bth z d 87 146 [.int x, .int y] B := by
  rintro M p ⟨G, n, H, kf, K, k, tx, h⟩
  obtain ⟨hz, hn4, nc, nh, np, hI, hl, hc, hL, hC⟩ := h.get
  have hop := m_set (d := d + 6) (M := mput M (z.1 + 44) (cpF (M (z.1 + 44)) (M (z.1 + 1)) nc nh np)) (p := p) (isS_tri hz) (x := x) (v := y)
  rw [mput_same, mput_mput] at hop
  by_cases hx : 0 ≤ x ∧ x ≤ 1
  · obtain ⟨i, hi, rfl⟩ := upto (x := x) (m := 2) (n := 2) (by decide +kernel) (by omega) ⟨hx.1, Int32.lt_of_le_of_lt hx.2 (by decide)⟩
    refine b_op h ((set_ok hI hL hi (v := y)).mono (by omega)) (fun hq => c_set (d := d + 4) h.1 hc hop hq) fun M' p' e1 e2 => ?_
    have := m_mset (d := d + 7) (M := M') (p := p') hz e2 hn4 hi (v := y)
    rw [e1] at this
    exact this
  · rw [set_no hx] at hop
    refine b_op h (okS_no (F := cpF (M (z.1 + 44)) (M (z.1 + 1)) nc nh np) (show (-100001 : Int32) < 0 by decide)) (fun hq => c_set (d := d + 4) h.1 hc hop hq) fun M' p' e1 e2 => ?_
    exact m_msetNo (d := d + 7) hx
theorem b_chapter {x y a : Int32} : Bth z d 79 127 [.int x, .int y, .int a] B := by
  rintro M p ⟨G, n, H, kf, K, k, tx, h⟩
  obtain ⟨hz, hn4, nc, nh, np, hI, hl, hc, hL, hC⟩ := h.get
  have c0 := hI.1.1
  rcases nI_case (n := x) c0 (by have := hc.2.1; omega) with ⟨i, hi, rfl⟩ | hx
  · have hop := m_addChapter (d := d + 4) (M := mput M (z.1 + 44) (cpF (M (z.1 + 44)) (M (z.1 + 1)) nc nh np)) (p := p) (isS_tri hz) (by rw [mput_same]; exact hC) hi (g := y) (x := a)
    rw [mput_same, mput_mput] at hop
    refine b_op h ((chapter_ok hI hL hi (g := y) (x := a)).mono (by omega)) (fun hq => c_chapter (d := d + 4) h.1 hc hop hq) fun M' p' e1 e2 => ?_
    have := m_mchapter (d := d + 7) (M := M') (p := p') hz (by rw [e1]; exact hI.1) e2 hn4 hi (g := y) (x := a)
    rw [e1] at this
    exact this
  · have hop := m_addChapterNo (d := d + 4) (M := mput M (z.1 + 44) (cpF (M (z.1 + 44)) (M (z.1 + 1)) nc nh np)) (p := p) (isS_tri hz) (c := x) (g := y) (x := a) (by rw [mput_same, hC.1, ← c0]; exact hx)
    refine b_op h (okS_no (F := cpF (M (z.1 + 44)) (M (z.1 + 1)) nc nh np) (show (-100001 : Int32) < 0 by decide)) (fun hq => c_chapter (d := d + 4) h.1 hc hop hq) fun M' p' e1 e2 => ?_
    exact m_mchapterNo (d := d + 7) (M := M') (p := p') hz (by rw [e1]; exact hx)
theorem b_buyBack {x : Int32} : Bth z d 84 141 [.int x] B := by
  rintro M p ⟨G, n, H, kf, K, k, tx, h⟩
  obtain ⟨hz, hn4, nc, nh, np, hI, hl, hc, hL, hC⟩ := h.get
  have c1 := hI.1.2.2.1
  rcases nI_case (n := x) c1 (by have := hc.2.2.2.1; omega) with ⟨i, hi, rfl⟩ | hx
  · obtain ⟨o, ho, eo⟩ := hI.own hi
    have hop := m_takeBack (d := d + 4) (M := mput M (z.1 + 44) (cpF (M (z.1 + 44)) (M (z.1 + 1)) nc nh np)) (p := p) (isS_tri hz) (by rw [mput_same]; exact hC) hi
    rw [mput_same, mput_mput] at hop
    refine b_op h ((buyBack_ok hI hL hi ho eo).mono (by omega)) (fun hq => c_buyBack (d := d + 4) h.1 hc hop hq) fun M' p' e1 e2 => ?_
    have := m_mbuyBack (d := d + 3) (M := M') (p := p') hz (by rw [e1]; exact hI.1) e2 hn4 hi ho (by rw [e1]; exact eo)
    rw [e1] at this
    exact this
  · have hop := m_takeBackNo (d := d + 4) (M := mput M (z.1 + 44) (cpF (M (z.1 + 44)) (M (z.1 + 1)) nc nh np)) (p := p) (isS_tri hz) (c := x) (by rw [mput_same, hC.2.2.1, ← c1]; exact hx)
    refine b_op h (okS_no (F := cpF (M (z.1 + 44)) (M (z.1 + 1)) nc nh np) (show (-100001 : Int32) < 0 by decide)) (fun hq => c_buyBack (d := d + 4) h.1 hc hop hq) fun M' p' e1 e2 => ?_
    exact m_mbuyBackNo (d := d + 7) (M := M') (p := p') hz (by rw [e1]; exact hx)
theorem b_sell {x y a : Int32} : Bth z d 85 142 [.int x, .int y, .int a] B := by
  rintro M p ⟨G, n, H, kf, K, k, tx, h⟩
  obtain ⟨hz, hn4, nc, nh, np, hI, hl, hc, hL, hC⟩ := h.get
  have c1 := hI.1.2.2.1
  have c0 := hI.1.1
  rcases nI_case (n := x) c1 (by have := hc.2.2.2.1; omega) with ⟨i, hi, rfl⟩ | hx
  · rcases nI_case (n := y) c0 (by have := hc.2.1; omega) with ⟨ci, hci, rfl⟩ | hy
    · obtain ⟨o, ho, eo⟩ := hI.own hi
      have hop := m_sell (d := d + 4) (M := mput M (z.1 + 44) (cpF (M (z.1 + 44)) (M (z.1 + 1)) nc nh np)) (p := p) (isS_tri hz) (by rw [mput_same]; exact hC) hi hci (x := a)
      rw [mput_same, mput_mput] at hop
      refine b_op h ((sell_ok hI hL hi hci ho eo (x := a)).mono (by omega)) (fun hq => c_sell (d := d + 4) h.1 hc hop hq) fun M' p' e1 e2 => ?_
      have := m_msell (d := d + 5) (M := M') (p := p') hz (by rw [e1]; exact hI.1) e2 hn4 (fun j hj => by rw [e1]; exact hI.out hj) hi hci ho (by rw [e1]; exact eo) (x := a)
      rw [e1] at this
      exact this
    · have hop := m_sellNo2 (d := d + 4) (M := mput M (z.1 + 44) (cpF (M (z.1 + 44)) (M (z.1 + 1)) nc nh np)) (p := p) (isS_tri hz) (by rw [mput_same]; exact hC) hi (k := y) (x := a) (by rw [mput_same, hC.1, ← c0]; exact hy)
      refine b_op h (okS_no (F := cpF (M (z.1 + 44)) (M (z.1 + 1)) nc nh np) (show (-100001 : Int32) < 0 by decide)) (fun hq => c_sell (d := d + 4) h.1 hc hop hq) fun M' p' e1 e2 => ?_
      exact m_msellNo (d := d + 7) (M := M') (p := p') hz (Or.inr (by rw [e1]; exact hy))
  · have hop := m_sellNo1 (d := d + 4) (M := mput M (z.1 + 44) (cpF (M (z.1 + 44)) (M (z.1 + 1)) nc nh np)) (p := p) (isS_tri hz) (c := x) (k := y) (x := a) (by rw [mput_same, hC.2.2.1, ← c1]; exact hx)
    refine b_op h (okS_no (F := cpF (M (z.1 + 44)) (M (z.1 + 1)) nc nh np) (show (-100001 : Int32) < 0 by decide)) (fun hq => c_sell (d := d + 4) h.1 hc hop hq) fun M' p' e1 e2 => ?_
    exact m_msellNo (d := d + 7) (M := M') (p := p') hz (Or.inl (by rw [e1]; exact hx))
end BT
