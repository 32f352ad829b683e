/-! set, pass: both sides do the same -/
theorem toI : ∀ n, n ≤ 100 → (nI n).toInt = n := by decide +kernel
theorem i32_9999 : Int32.toInt 9999 = 9999 := by decide
theorem i32_0 : Int32.toInt 0 = 0 := by decide
theorem i32_1 : Int32.toInt 1 = 1 := by decide
theorem i32_m1 : Int32.toInt (-1) = -1 := by decide
theorem i32_20000 : Int32.toInt 20000 = 20000 := by decide
theorem day_add {a : Int32} {k : Nat} (h : 0 ≤ a ∧ a ≤ 20000) (hk : k ≤ 100) : (a + nI k).toInt = a.toInt + k := by
  rw [Int32.le_iff_toInt_le, Int32.le_iff_toInt_le, i32_0, i32_20000] at h
  rw [Int32.toInt_add, toI k hk, Int.bmod_def]
  omega
section SQ
variable {F G : Nat → Int32} {nc nh np B : Nat}
theorem set_ok (hI : Inv G nc nh np B) (h : Lv nc nh np F G) {k : Nat} (hk : k < 2) {v : Int32} : okS B F (seS F (nI k) v) (moS G k v) := by
  have e99 : (99 : Int32) + nI 0 = 99 := by decide +kernel
  have e100 : (99 : Int32) + nI 1 = 100 := by decide +kernel
  have n10 : ¬ (1 : Int32) = 0 := by decide
  unfold seS moS
  rcases (show k = 0 ∨ k = 1 by omega) with rfl | rfl
  · rw [e99, l0]
    by_cases hv : 0 ≤ v ∧ v ≤ 99
    · rw [if_pos ⟨rfl, hv⟩, if_neg (fun q => q hv), h.lo (k := 6) (by omega)]
      refine okS_is hI.2.2.1.1 (Inv_low (G' := fset G 6 v) hI (fun y hy => fset_ne (by omega)) ((fset_ne (by omega)).trans hI.1.1) (Nat.le_refl _) hI.1.2.1 (fset_ne (by omega)) (fset_ne (by omega)) (fset_ne (by omega)) ?_ ?_) h.set
      · rw [fset_same]; exact hv
      · rw [fset_ne (by omega)]; exact hI.2.2.2.1
    · rw [if_neg (fun q => hv q.2), if_neg (fun q => n10 q.1.symm), if_pos hv]
      exact okS_no (by decide)
  · rw [e100, l1]
    by_cases hv : 0 ≤ v ∧ v ≤ 100
    · rw [if_neg (fun q => n10 q.1), if_pos ⟨rfl, hv⟩, if_neg (fun q => q hv), h.lo (k := 7) (by omega)]
      refine okS_is hI.2.2.2.1.1 (Inv_low (G' := fset G 7 v) hI (fun y hy => fset_ne (by omega)) ((fset_ne (by omega)).trans hI.1.1) (Nat.le_refl _) hI.1.2.1 (fset_ne (by omega)) (fset_ne (by omega)) (fset_ne (by omega)) ?_ ?_) h.set
      · rw [fset_ne (by omega)]; exact hI.2.2.1
      · rw [fset_same]; exact hv
    · rw [if_neg (fun q => n10 q.1), if_neg (fun q => hv q.2), if_pos hv]
      exact okS_no (by decide)
theorem set_no {x v : Int32} (h : ¬ (0 ≤ x ∧ x ≤ 1)) : seS F x v = (-100001, F) := by
  unfold seS
  rw [if_neg (fun q => h (by rw [q.1]; decide)), if_neg (fun q => h (by rw [q.1]; decide))]
theorem sumR_add {f g h : Nat → Int32} : ∀ (k i : Nat), (∀ j, i ≤ j → j < i + k → f j + g j = h j) → sumR f i k + sumR g i k = sumR h i k := by
  intro k
  induction k with
  | zero => intro i _; exact Int32.add_zero 0
  | succ k ih =>
    intro i q
    unfold sumR
    rw [← q i (by omega) (by omega), ← ih (i + 1) fun j a b => q j (by omega) (by omega)]
    ac_rfl
theorem send_hm {u : Int32} : ∀ (k i : Nat) (F : Nat → Int32), sendR F u i k = hmR (fun K i => ¬ K (58 + 10 * i + 6) = -1 ∧ K (58 + 10 * i + 6) ≤ u) F i k := by
  intro k
  induction k with
  | zero => intro i F; rfl
  | succ k ih => intro i F; unfold sendR hmR; rw [ih, ih]
theorem beg_hm : ∀ (k i : Nat) (F : Nat → Int32), begR F i k = hmR (fun K i => K (58 + 10 * i + 6) = K 3) F i k := by
  intro k
  induction k with
  | zero => intro i F; rfl
  | succ k ih => intro i F; unfold begR hmR; rw [ih, ih, home_same]
/-- some phrases have gone home, it is another day -/
theorem Inv_hm {G' : Nat → Int32} {D : Int32} {S : Nat → Prop} [∀ j, Decidable (S j)] (hI : Inv G nc nh np B) (hlo : ∀ y, y < 58 → G' y = if y = 3 then D else G y) (hr : ∀ j r, j < np → r < 10 → pr G' j r = if S j then hmQ (pr G j) r else pr G j r) (hD : G 3 ≤ D) (hD9 : D ≤ 9999) (hS : ∀ j, j < np → ¬ S j → pr G j 6 = -1 ∨ D < pr G j 6) : Inv G' nc nh np B := by
  obtain ⟨⟨c1, c2, c3, c4, c5, c6⟩, a2, a3, a4, a5, a6, a7, a8⟩ := hI
  have hn : ∀ y, y < 58 → y ≠ 3 → G' y = G y := fun y a b => by rw [hlo y a, if_neg b]
  have g3 : G' 3 = D := by rw [hlo 3 (by omega), if_pos rfl]
  refine ⟨⟨(hn _ (by omega) (by omega)).trans c1, c2, (hn _ (by omega) (by omega)).trans c3, c4, (hn _ (by omega) (by omega)).trans c5, c6⟩, by rw [g3]; exact ⟨Int32.le_trans a2.1 hD, hD9⟩, by rw [hn 6 (by omega) (by omega)]; exact a3, by rw [hn 7 (by omega) (by omega)]; exact a4, fun c hc => ?_, fun j hj => ?_, fun c g hc => ?_, fun j hj => ?_⟩
  · obtain ⟨b1, b2, b3, b4⟩ := a5 c hc
    unfold chQ
    rw [hn _ (by omega) (by omega), hn _ (by omega) (by omega), hn _ (by omega) (by omega), g3]
    exact ⟨b1, b2, b3, Int32.le_trans b4 hD⟩
  · rw [g3]
    refine phQ_W c4 (Nat.le_refl _) (fun c hc => hn _ (by omega) (by omega)) ?_
    by_cases s : S j
    · exact phQ_eq (fun r hr' => by rw [hr j r hj hr', if_pos s]) (phQ_hm (W := ow G) (day := G 3) (a6 j hj))
    · exact phQ_eq (fun r hr' => by rw [hr j r hj hr', if_neg s]) (phQ_day (a6 j hj) (hS j hj s))
  · refine Nat.le_trans (sumN_le np 0 fun j _ hj => ?_) (a7 c g hc)
    by_cases s : S j
    · rw [tk_eq (q := hmQ (pr G j)) (fun r hr' => by rw [hr j r (by omega) hr', if_pos s])]
      exact tk_hm hc
    · exact Nat.le_of_eq (tk_eq (fun r hr' => by rw [hr j r (by omega) hr', if_neg s]))
  · obtain ⟨t, x, y⟩ := a8 j hj
    refine ⟨t, x, ?_⟩
    rw [hr j 9 hj (by omega)]
    by_cases s : S j
    · rw [if_pos s]; exact y
    · rw [if_neg s]; exact y
abbrev dueS (G : Nat → Int32) (k j : Nat) : Prop := ¬ pr G j 6 = -1 ∧ pr G j 6 ≤ G 3 + nI k
theorem beg_at : (∀ y, y < 58 → (begR (dayF G) 0 np).1 y = if y = 3 then G 3 + 1 else G y) ∧ (∀ j r, r < 10 → pr (begR (dayF G) 0 np).1 j r = if j < np ∧ pr G j 6 = G 3 + 1 then hmQ (pr G j) r else pr G j r) ∧ (begR (dayF G) 0 np).2 = sumR (fun j => bI (pr G j 6 = G 3 + 1)) 0 np := by
  have hd : ∀ j, pr (dayF G) j = pr G j := fun j => funext fun r => fset_ne (by omega)
  have h3 : dayF G 3 = G 3 + 1 := fset_same
  obtain ⟨h1, h2, h3'⟩ := hmR_at (P := fun K i => K (58 + 10 * i + 6) = K 3) (fun K i j e => by
    have a : homeF K i 3 = K 3 := home_out (by omega)
    have b : homeF K i (58 + 10 * j + 6) = K (58 + 10 * j + 6) := home_out (by omega)
    show homeF K i (58 + 10 * j + 6) = homeF K i 3 ↔ _
    rw [a, b]) np 0 (dayF G)
  rw [beg_hm]
  have hS : ∀ j, (dayF G (58 + 10 * j + 6) = dayF G 3 ↔ pr G j 6 = G 3 + 1) := fun j => by
    rw [h3]; exact Iff.of_eq (congrArg (· = G 3 + 1) (congrFun (hd j) 6))
  refine ⟨fun y hy => (h1 y hy).trans rfl, fun j r hr => (h2 j r hr).trans ?_, h3'.trans (sumR_same _ _ fun j _ _ => ?_)⟩
  · rw [hd j]
    by_cases q : j < np ∧ pr G j 6 = G 3 + 1
    · rw [if_pos q, if_pos ⟨by omega, by omega, (hS j).mpr q.2⟩]
    · rw [if_neg q, if_neg (fun w => q ⟨by omega, (hS j).mp w.2.2⟩)]
  · unfold bI
    by_cases q : pr G j 6 = G 3 + 1
    · rw [if_pos q, if_pos ((hS j).mpr q)]
    · rw [if_neg q, if_neg (fun w => q ((hS j).mp w))]
theorem pas_at0 : ∀ (k : Nat) (G : Nat → Int32), k ≤ 99 → 0 ≤ G 3 → (G 3).toInt + k ≤ 20000 → (∀ j, j < np → pr G j 6 = -1 ∨ G 3 < pr G j 6) → (∀ y, y < 58 → (pasR G np k).1 y = if y = 3 then G 3 + nI k else G y) ∧ (∀ j r, j < np → r < 10 → pr (pasR G np k).1 j r = if dueS G k j then hmQ (pr G j) r else pr G j r) ∧ (pasR G np k).2 = sumR (fun j => bI (dueS G k j)) 0 np := by
  intro k
  induction k with
  | zero =>
    intro G _ _ _ hI
    have hS : ∀ j, j < np → ¬ dueS G 0 j := by
      intro j hj w
      have := (hI j hj).resolve_left w.1
      have w2 := w.2
      rw [l0, Int32.add_zero] at w2
      exact (Int32.not_lt.mpr w2) this
    refine ⟨fun y _ => ?_, fun j r hj _ => by rw [if_neg (hS j hj)]; rfl, ?_⟩
    · by_cases e : y = 3
      · rw [if_pos e, e, l0, Int32.add_zero]; rfl
      · rw [if_neg e]; rfl
    · refine (Eq.trans (sumR_N (h := fun _ => 0) np 0 fun j _ hj => ?_) ?_).symm
      · exact (if_neg (hS j (by omega))).trans l0.symm
      · rw [sumN_z]; exact l0
  | succ k ih =>
    intro G hk h0 h9 hI
    have hd3 : 0 ≤ G 3 ∧ G 3 ≤ 20000 := ⟨h0, by rw [Int32.le_iff_toInt_le, i32_20000]; omega⟩
    have hs : (G 3 + nI (k + 1)).toInt = (G 3).toInt + (k + 1 : Nat) := day_add hd3 (by omega)
    have hs1 : (G 3 + 1).toInt = (G 3).toInt + 1 := by have := day_add (k := 1) hd3 (by omega); rwa [l1] at this
    have h0' := h0
    rw [Int32.le_iff_toInt_le, i32_0] at h0'
    obtain ⟨b1, b2, b3⟩ := beg_at (G := G) (np := np)
    generalize hG1 : (begR (dayF G) 0 np) = R1 at b1 b2 b3
    have e3 : R1.1 3 = G 3 + 1 := by rw [b1 3 (by omega), if_pos rfl]
    have es : R1.1 3 + nI k = G 3 + nI (k + 1) := by
      rw [e3, Int32.add_assoc, ← l1, nI_add, Nat.add_comm]
    obtain ⟨i1, i2, i3⟩ := ih R1.1 (by omega) (by rw [e3, Int32.le_iff_toInt_le, i32_0, hs1]; omega) (by rw [e3, hs1]; omega) (fun j hj => by
      rw [b2 j 6 (by omega), e3]
      by_cases q : pr G j 6 = G 3 + 1
      · rw [if_pos ⟨hj, q⟩]; exact Or.inl rfl
      · rw [if_neg (fun w => q w.2)]
        refine (hI j hj).imp_right fun u => ?_
        rw [Int32.lt_iff_toInt_lt] at u ⊢
        rw [hs1]
        have : ¬ (pr G j 6).toInt = (G 3 + 1).toInt := fun w => q (Int32.toInt_inj.mp w)
        rw [hs1] at this
        omega)
    have epas : pasR G np (k + 1) = ((pasR R1.1 np k).1, (0 + R1.2) + (pasR R1.1 np k).2) := by rw [← hG1]; rfl
    -- who is due
    have hin : ∀ j, pr G j 6 = G 3 + 1 → dueS G (k + 1) j := by
      intro j q
      refine ⟨fun w => ?_, ?_⟩
      · rw [q] at w
        have := congrArg Int32.toInt w
        rw [hs1, i32_m1] at this
        omega
      · rw [q, Int32.le_iff_toInt_le, hs1, hs]; omega
    have hno : ∀ j, j < np → pr G j 6 = G 3 + 1 → ¬ dueS R1.1 k j := by
      intro j hj q w
      have : pr R1.1 j 6 = -1 := by rw [b2 j 6 (by omega), if_pos ⟨hj, q⟩]; rfl
      exact w.1 this
    have heq : ∀ j, ¬ pr G j 6 = G 3 + 1 → (dueS R1.1 k j ↔ dueS G (k + 1) j) := by
      intro j q
      unfold dueS
      rw [es, b2 j 6 (by omega), if_neg (fun w => q w.2)]
    rw [epas]
    refine ⟨fun y hy => ?_, fun j r hj hr => ?_, ?_⟩
    · rw [i1 y hy, es]
      by_cases e : y = 3
      · rw [if_pos e, if_pos e]
      · rw [if_neg e, if_neg e, b1 y hy, if_neg e]
    · rw [i2 j r hj hr]
      by_cases q : pr G j 6 = G 3 + 1
      · rw [if_neg (hno j hj q), if_pos (hin j q), b2 j r hr, if_pos ⟨hj, q⟩]
      · have hp : ∀ r, r < 10 → pr R1.1 j r = pr G j r := fun r hr => by rw [b2 j r hr, if_neg (fun w => q w.2)]
        by_cases w : dueS G (k + 1) j
        · rw [if_pos w, if_pos ((heq j q).mpr w)]
          unfold hmQ
          rw [hp 7 (by omega), hp 8 (by omega), hp r hr]
        · rw [if_neg w, if_neg (fun x => w ((heq j q).mp x))]
          exact hp r hr
    · show (0 + R1.2) + (pasR R1.1 np k).2 = _
      rw [Int32.zero_add, b3, i3]
      refine sumR_add np 0 fun j _ hj => ?_
      unfold bI
      by_cases q : pr G j 6 = G 3 + 1
      · rw [if_pos q, if_neg (hno j (by omega) q), if_pos (hin j q)]; rfl
      · rw [if_neg q]
        by_cases w : dueS G (k + 1) j
        · rw [if_pos w, if_pos ((heq j q).mpr w)]; rfl
        · rw [if_neg w, if_neg (fun x => w ((heq j q).mp x))]; rfl
/-- the days of a state that holds -/
theorem pas_at1 (hI : Inv G nc nh np B) {k : Nat} (hk : k ≤ 99) : (∀ y, y < 58 → (pasR G np k).1 y = if y = 3 then G 3 + nI k else G y) ∧ (∀ j r, j < np → r < 10 → pr (pasR G np k).1 j r = if dueS G k j then hmQ (pr G j) r else pr G j r) ∧ (pasR G np k).2 = sumR (fun j => bI (dueS G k j)) 0 np := by
  have h := hI.2.1
  refine pas_at0 k G hk h.1 ?_ fun j hj => ?_
  · have := h.2
    rw [Int32.le_iff_toInt_le, i32_9999] at this
    omega
  · obtain ⟨a0, a1, a2, a3, a4, a7, a5, a6, a8, b4, b6, b7, b8⟩ := hI.2.2.2.2.2.1 j hj
    exact b7
theorem pas_inv (hI : Inv G nc nh np B) {k : Nat} (hk : k ≤ 99) (h9 : G 3 + nI k ≤ 9999) : Inv (pasR G np k).1 nc nh np B := by
  obtain ⟨p1, p2, -⟩ := pas_at1 hI hk
  have hs : (G 3 + nI k).toInt = (G 3).toInt + k := day_add ⟨hI.2.1.1, Int32.le_trans hI.2.1.2 (by decide)⟩ (by omega)
  refine Inv_hm (D := G 3 + nI k) (S := fun j => dueS G k j) hI p1 p2 (by rw [Int32.le_iff_toInt_le, hs]; omega) h9 fun j hj s => ?_
  by_cases e : pr G j 6 = -1
  · exact Or.inl e
  · right
    rw [← Int32.not_le]
    exact fun w => s ⟨e, w⟩
theorem hmQ_eq {q q' : Nat → Int32} (h : ∀ r, r < 10 → q r = q' r) {r : Nat} (hr : r < 10) : hmQ q r = hmQ q' r := by
  unfold hmQ
  rw [h 7 (by omega), h 8 (by omega), h r hr]
theorem send_at {K : Nat → Int32} {u : Int32} : (∀ y, y < 58 → (sendR K u 0 np).1 y = K y) ∧ (∀ j r, j < np → r < 10 → pr (sendR K u 0 np).1 j r = if ¬ pr K j 6 = -1 ∧ pr K j 6 ≤ u then hmQ (pr K j) r else pr K j r) ∧ (sendR K u 0 np).2 = sumR (fun j => bI (¬ pr K j 6 = -1 ∧ pr K j 6 ≤ u)) 0 np := by
  obtain ⟨h1, h2, h3⟩ := hmR_at (P := fun K i => ¬ K (58 + 10 * i + 6) = -1 ∧ K (58 + 10 * i + 6) ≤ u) (fun K i j e => by
    have b : homeF K i (58 + 10 * j + 6) = K (58 + 10 * j + 6) := home_out (by omega)
    show (¬ homeF K i (58 + 10 * j + 6) = -1 ∧ homeF K i (58 + 10 * j + 6) ≤ u) ↔ _
    rw [b]) np 0 K
  rw [send_hm]
  refine ⟨h1, fun j r hj hr => (h2 j r hr).trans ?_, h3⟩
  by_cases q : ¬ pr K j 6 = -1 ∧ pr K j 6 ≤ u
  · rw [if_pos q, if_pos ⟨by omega, by omega, q⟩]
  · rw [if_neg q, if_neg (fun w => q w.2.2)]
/-- what the class sends home in its row is what the model's days send home in the model's -/
theorem send_pas (hI : Inv G nc nh np B) {K : Nat → Int32} (hK : ∀ y, y < 58 → y ≠ 3 → live nc nh np y → K y = G y) (hKr : ∀ j r, j < np → r < 10 → pr K j r = pr G j r) {k : Nat} (hk : k ≤ 99) : (sendR K (G 3 + nI k) 0 np).2 = (pasR G np k).2 ∧ (∀ y, y < 58 → y ≠ 3 → live nc nh np y → (sendR K (G 3 + nI k) 0 np).1 y = (pasR G np k).1 y) ∧ ∀ j r, j < np → r < 10 → pr (sendR K (G 3 + nI k) 0 np).1 j r = pr (pasR G np k).1 j r := by
  obtain ⟨s1, s2, s3⟩ := send_at (np := np) (K := K) (u := G 3 + nI k)
  obtain ⟨p1, p2, p3⟩ := pas_at1 hI hk
  refine ⟨?_, fun y hy e hl => ?_, fun j r hj hr => ?_⟩
  · rw [s3, p3]
    refine sumR_same _ _ fun j _ hj => ?_
    unfold bI dueS
    rw [hKr j 6 (by omega) (by omega)]
  · rw [s1 y hy, p1 y hy, if_neg e]; exact hK y hy e hl
  · rw [s2 j r hj hr, p2 j r hj hr, hKr j 6 hj (by omega)]
    by_cases q : dueS G k j
    · rw [if_pos q, if_pos q]
      exact hmQ_eq (fun r hr => hKr j r hj hr) hr
    · rw [if_neg q, if_neg q]
      exact hKr j r hj hr
theorem count_pos {P : Nat → Prop} [∀ j, Decidable (P j)] (h : np ≤ 24) : 0 ≤ 0 + sumR (fun j => bI (P j)) 0 np := by
  rw [Int32.zero_add, sumR_N (h := fun j => if P j then 1 else 0) np 0 fun j _ _ => ?_]
  · have := sumN_b (f := fun j => if P j then 1 else 0) (b := 1) np 0 fun j => by split <;> omega
    exact nI_pos' (by omega)
  · unfold bI
    by_cases q : P j
    · rw [if_pos q, if_pos q]; exact l1.symm
    · rw [if_neg q, if_neg q]; exact l0.symm
/-- what the model's pass does -/
def moY (G : Nat → Int32) (np : Nat) (u : Int32) : Int32 × Option (Nat → Int32) := if 1 ≤ u ∧ u ≤ 99 then moA G np u.toNatClampNeg else (-100001, none)
theorem to99 {u : Int32} (h : 1 ≤ u ∧ u ≤ 99) : ∃ n, 1 ≤ n ∧ n ≤ 99 ∧ u = nI n := by
  obtain ⟨n, hn, rfl⟩ := upto (x := u) (m := 100) (n := 100) (by decide +kernel) (by omega) ⟨Int32.le_trans (by decide) h.1, Int32.lt_of_le_of_lt h.2 (by decide)⟩
  refine ⟨n, ?_, by omega, rfl⟩
  rcases Nat.eq_zero_or_pos n with rfl | q
  · exact absurd h.1 (by rw [l0]; decide)
  · exact q
theorem pass_ok (hI : Inv G nc nh np B) (h : Lv nc nh np F G) {u : Int32} : okS B F (paR F np u) (moY G np u) := by
  have hc := hI.1
  unfold paR moY
  by_cases hu : 1 ≤ u ∧ u ≤ 99
  · rw [if_neg (fun q => q hu), if_pos hu]
    obtain ⟨k, hk1, hk, rfl⟩ := to99 hu
    rw [nI_clamp (by omega)]
    unfold moA
    rw [h.lo (k := 3) (by omega)]
    by_cases h9 : G 3 + nI k ≤ 9999
    · rw [if_pos h9, if_neg (by rw [Int32.not_lt]; exact h9)]
      obtain ⟨s1, s2, s3⟩ := send_pas hI (K := fset F 3 (G 3 + nI k)) (fun y hy e hl => by rw [fset_ne e]; exact h y hl) (fun j r hj hr => (show fset F 3 (G 3 + nI k) (58 + 10 * j + r) = F (58 + 10 * j + r) from fset_ne (by omega)).trans (h.ph hj hr)) hk
      obtain ⟨p1, p2, p3⟩ := pas_at1 hI hk
      have p4 := pas_inv hI hk h9
      have t1 := (send_at (np := np) (K := fset F 3 (G 3 + nI k)) (u := G 3 + nI k)).1
      rw [s1]
      refine okS_is (by rw [p3]; exact count_pos hc.2.2.2.2.2) p4 (Lv_mk (fun j hj => ?_) (fun i k hi hk => ?_) (fun i k hi hk => ?_) s3)
      · by_cases e : j = 3
        · rw [e, t1 3 (by omega), fset_same, p1 3 (by omega), if_pos rfl]
        · exact s2 j (by omega) e (Or.inl hj)
      · have := hc.2.1
        exact s2 _ (by omega) (by omega) (Or.inr (Or.inl ⟨by omega, by omega⟩))
      · have := hc.2.2.2.1
        exact s2 _ (by omega) (by omega) (Or.inr (Or.inr (Or.inl ⟨by omega, by omega⟩)))
    · rw [if_neg h9, if_pos (by rw [← Int32.not_le]; exact h9)]
      exact okS_no (by decide)
  · rw [if_pos hu, if_neg hu]
    exact okS_no (by decide)
end SQ
