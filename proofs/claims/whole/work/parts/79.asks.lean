/-! questions: both sides answer alike -/
section SV
variable {F G : Nat → Int32} {nc nh np B : Nat}
theorem qC_same (hI : Inv G nc nh np B) (h : Lv nc nh np F G) {i : Nat} (hi : i < nc) {x : Int32} (hx : 0 ≤ x ∧ x ≤ 6) : cqC F nh np i x = mqC G nh np i x := by
  have hc := hI.1
  have hi5 : i ≤ 2000 := by have := hc.2.1; omega
  have s2 : sumR (chaptersOfS F (nI i)) 0 nh = sumR (mchaptersOfS G (nI i)) 0 nh := sumR_same _ _ fun j _ hj => by
    unfold chaptersOfS mchaptersOfS
    rw [h.ch (by omega) (by omega)]
  have s3 : sumR (phrasesInS F (nI i)) 0 np = sumR (minBookS G (nI i) 0) 0 np := sumR_same _ _ fun j _ hj => by
    rw [← in_same hc hi5 (hI.wh (by omega))]
    unfold phrasesInS
    rw [h.ph (by omega) (by omega), Lv_hold h hc]
  have s4 : sumR (lentToS F (nI i)) 0 np = sumR (minBookS G (nI i) 1) 0 np := sumR_same _ _ fun j _ hj => by
    obtain ⟨a0, a1, a2, a3, a4, a7, a5, a6, a8, b4, b6, b7, b8⟩ := hI.2.2.2.2.2.1 j (by omega)
    rw [← lentTo_same hc hi5 (hI.wh (by omega)) a6]
    unfold lentToS
    rw [h.ph (by omega) (by omega), h.ph (by omega) (by omega), Lv_hold h hc]
  have s5 : sumR (lentFromS F (nI i)) 0 np = sumR (mlentFromS G (nI i)) 0 np := sumR_same _ _ fun j _ hj => by
    rw [← lentFrom_same hc hi5 (hI.wh (by omega))]
    unfold lentFromS
    rw [h.ph (by omega) (by omega), Lv_hold h hc]
  have s6 : sumR (tellS F (nI i) 15 (F (8 + 2 * i + 0))) 0 np = sumR (mtellS G i 15) 0 np := sumR_same _ _ fun j _ hj => by
    rw [← tell_same hc hi5 (hI.wh (by omega))]
    unfold tellS
    rw [h.ph (by omega) (by omega), h.ph (by omega) (by omega), Lv_hold h hc, h.cl hi (by omega)]
  unfold cqC mqC
  rw [h.cl hi (by omega), h.cl hi (by omega), s2, s3, s4, s5] 
  rw [h.cl hi (by omega)] at s6
  rw [s6]
  by_cases e0 : x = 0
  · rw [if_pos e0, if_pos e0]
  · rw [if_neg e0, if_neg e0]
    by_cases e1 : x = 1
    · rw [if_pos e1, if_pos e1]
    · rw [if_neg e1, if_neg e1]
      by_cases e2 : x = 2
      · rw [if_pos e2, if_pos e2]
      · rw [if_neg e2, if_neg e2]
        by_cases e3 : x = 3
        · rw [if_pos e3, if_pos e3]
        · rw [if_neg e3, if_neg e3]
          by_cases e4 : x = 4
          · rw [if_pos e4, if_pos e4]
          · rw [if_neg e4, if_neg e4]
            by_cases e5 : x = 5
            · rw [if_pos e5, if_pos e5]
            · rw [if_neg e5, if_neg e5]
              have e6 : x = 6 := by
                rcases in6 hx with q | q | q | q | q | q | q
                · exact absurd q e0
                · exact absurd q e1
                · exact absurd q e2
                · exact absurd q e3
                · exact absurd q e4
                · exact absurd q e5
                · exact q
              rw [if_pos e6]
theorem qC_no {i : Nat} {x : Int32} (hx : ¬ (0 ≤ x ∧ x ≤ 6)) : cqC F nh np i x = -100001 := by
  unfold cqC
  rw [if_neg (fun e => hx (by rw [e]; decide)), if_neg (fun e => hx (by rw [e]; decide)), if_neg (fun e => hx (by rw [e]; decide)), if_neg (fun e => hx (by rw [e]; decide)), if_neg (fun e => hx (by rw [e]; decide)), if_neg (fun e => hx (by rw [e]; decide)), if_neg (fun e => hx (by rw [e]; decide))]
theorem qH_same (hI : Inv G nc nh np B) (h : Lv nc nh np F G) {i : Nat} (hi : i < nh) {x : Int32} (hx : 0 ≤ x ∧ x ≤ 5) : cqH F np i x = mqH G np i x := by
  have s4 : sumR (phrasesOnS F (nI i)) 0 np = sumR (monChapterS G (nI i)) 0 np := sumR_same _ _ fun j _ hj => by
    unfold phrasesOnS monChapterS
    rw [h.ph (by omega) (by omega)]
  unfold cqH mqH
  rw [h.ch hi (by omega), h.ch hi (by omega), h.ch hi (by omega), h.ch hi (by omega), s4, (Lv_wor h hi).trans wor_same]
  rcases in5 hx with rfl | rfl | rfl | rfl | rfl | rfl <;> rfl
theorem qH_no {i : Nat} {x : Int32} (hx : ¬ (0 ≤ x ∧ x ≤ 5)) : cqH F np i x = -100001 := by
  unfold cqH
  rw [if_neg (fun e => hx (by rw [e]; decide)), if_neg (fun e => hx (by rw [e]; decide)), if_neg (fun e => hx (by rw [e]; decide)), if_neg (fun e => hx (by rw [e]; decide)), if_neg (fun e => hx (by rw [e]; decide)), if_neg (fun e => hx (by rw [e]; decide))]
theorem qP_same (hI : Inv G nc nh np B) (hB : B < 2147483648) (h : Lv nc nh np F G) {i : Nat} (hi : i < np) {x : Int32} (hx : 0 ≤ x ∧ x ≤ 10) : nx1 (detF F i x) = mqP G i x := by
  have hc := hI.1
  obtain ⟨a0, a1, a2, a3, a4, a7, a5, a6, a8, b4, b6, b7, b8⟩ := hI.2.2.2.2.2.1 i hi
  obtain ⟨t, ht, et⟩ := hI.2.2.2.2.2.2.2 i hi
  have e : detF F i x = detF G i x := by
    unfold detF
    rw [h.ph (k := 0) hi (by omega), h.ph (k := 1) hi (by omega), h.ph (k := 2) hi (by omega), h.ph (k := 3) hi (by omega), h.ph (k := 4) hi (by omega), h.ph (k := 5) hi (by omega), h.ph (k := 6) hi (by omega), h.ph (k := 7) hi (by omega), h.ph (k := 8) hi (by omega), h.ph (k := 9) hi (by omega), Lv_hold h hc]
  rw [e]
  refine det_same hc hx a0.1 ?_ ?_ (fun k hk hk2 => ?_) (hI.wh hi) (fun c hc' => hI.own hc')
  · obtain ⟨n, hn, e1⟩ := a1
    have e1' : G (58 + 10 * i + 1) = nI n := e1
    rw [e1']; exact nI_pos' (by omega)
  · have e9 : G (58 + 10 * i + 9) = nI t := et
    rw [e9]; exact nI_pos' (by omega)
  · rcases (show k = 2 ∨ k = 3 ∨ k = 4 ∨ k = 5 ∨ k = 6 ∨ k = 7 ∨ k = 8 by omega) with rfl | rfl | rfl | rfl | rfl | rfl | rfl
    · exact a2
    · exact a3
    · rcases a4 with q | ⟨c, hc', q⟩
      · exact Or.inl q
      · right
        have q' : G (58 + 10 * i + 4) = nI c := q
        have := hc.2.2.2.1
        rw [q']; exact nI_pos' (by omega)
    · exact a5
    · exact a6
    · rcases a7 with q | ⟨c, hc', q⟩
      · exact Or.inl q
      · right
        have q' : G (58 + 10 * i + 7) = nI c := q
        have := hc.2.2.2.1
        rw [q']; exact nI_pos' (by omega)
    · exact a8
theorem firstR_Lv (h : Lv nc nh np F G) {a b c : Int32} : ∀ k i, i + k = np → firstR (wordsS F a b c) i k = firstR (wordsS G a b c) i k := by
  intro k
  induction k with
  | zero => intro i _; rfl
  | succ k ih =>
    intro i hi
    have e : wordsS F a b c i = wordsS G a b c i := by
      show (F _ = a ∧ F _ = b ∧ F _ = c) = _
      rw [h.ph (by omega) (by omega), h.ph (by omega) (by omega), h.ph (by omega) (by omega)]
    unfold firstR
    by_cases q : wordsS G a b c i
    · rw [if_pos q, if_pos (e ▸ q)]
    · rw [if_neg q, if_neg (e ▸ q)]
      exact ih (i + 1) (by omega)
theorem qF_same (hI : Inv G nc nh np B) (h : Lv nc nh np F G) {a b c : Int32} : nx1 (firstR (wordsS F a b c) 0 np) = firstM (wordsS G a b c) 0 np := by
  rw [firstR_Lv h np 0 (by omega)]
  exact first_same np 0 (by have := hI.1.2.2.2.2.2; omega)
theorem pickR_Lv (h : Lv nc nh np F G) {c g x : Int32} : ∀ k i a, i + k = np → pickR (onS F c g) x i k a = pickR (onS G c g) x i k a := by
  intro k
  induction k with
  | zero => intro i a _; rfl
  | succ k ih =>
    intro i a hi
    have e : onS F c g i = onS G c g i := by
      show (F _ = c ∧ F _ = g) = _
      rw [h.ph (by omega) (by omega), h.ph (by omega) (by omega)]
    unfold pickR
    by_cases q : onS G c g i
    · rw [if_pos q, if_pos (e ▸ q), ih _ _ (by omega)]
    · rw [if_neg q, if_neg (e ▸ q)]
      exact ih _ _ (by omega)
theorem qO_same (hI : Inv G nc nh np B) (h : Lv nc nh np F G) {c g x : Int32} (hp : pageP G c g) : cqO F np c g x = mqO G np c g x := by
  unfold cqO mqO
  rw [Lv_left h, left_same hp.1.1 (fun j hj => hI.hom hj), pickR_Lv h np 0 0 (by omega), pick_same np 0 0 (by have := hI.1.2.2.2.2.2; omega)]
theorem qT_same (hI : Inv G nc nh np B) (h : Lv nc nh np F G) {i : Nat} (hi : i < nc) {x : Int32} : sumR (tellS F (nI i) x (F (8 + 2 * i + 0))) 0 np = sumR (mtellS G i x) 0 np := sumR_same _ _ fun j _ hj => by
  have hc := hI.1
  have hi5 : i ≤ 2000 := by have := hc.2.1; omega
  rw [← tell_same hc hi5 (hI.wh (by omega))]
  unfold tellS
  rw [h.ph (by omega) (by omega), h.ph (by omega) (by omega), Lv_hold h hc, h.cl hi (by omega)]
theorem tellsF_same (hc : cnt G nc nh np) (hw : ∀ j, j < np → whereOk G nh j) (h : Lv nc nh np F G) {s : Int32} {i : Nat} (hi : i < nc) : tellsF F np s i = mtellsF G np s i := by
  have hi5 : i ≤ 2000 := by have := hc.2.1; omega
  unfold tellsF mtellsF
  congr 1
  refine sumR_same _ _ fun j _ hj => ?_
  rw [← tell_same hc hi5 (hw j (by omega))]
  unfold tellS
  rw [h.ph (by omega) (by omega), h.ph (by omega) (by omega), Lv_hold h hc, h.cl hi (by omega)]
/-! tells in all books: by phrases, by clients -/
theorem sumR_z {f : Nat → Int32} : ∀ (k i : Nat), (∀ j, i ≤ j → j < i + k → f j = 0) → sumR f i k = 0 := by
  intro k
  induction k with
  | zero => intro i _; rfl
  | succ k ih =>
    intro i h
    unfold sumR
    rw [h i (by omega) (by omega), ih (i + 1) fun j a b => h j (by omega) (by omega), Int32.zero_add]
theorem sumR_one {f : Nat → Int32} {c : Nat} : ∀ (k i : Nat), i ≤ c → c < i + k → (∀ j, i ≤ j → j < i + k → j ≠ c → f j = 0) → sumR f i k = f c := by
  intro k
  induction k with
  | zero => intro i h1 h2; omega
  | succ k ih =>
    intro i h1 h2 h
    unfold sumR
    by_cases e : i = c
    · subst e
      rw [sumR_z k (i + 1) fun j a b => h j (by omega) (by omega) (by omega), Int32.add_zero]
    · rw [h i (by omega) (by omega) e, ih (i + 1) (by omega) (by omega) fun j a b => h j (by omega) (by omega), Int32.zero_add]
theorem sumR_swap {f : Nat → Nat → Int32} {n : Nat} : ∀ (k i : Nat), sumR (fun c => 0 + sumR (f c) 0 n) i k = sumR (fun j => sumR (fun c => f c j) i k) 0 n := by
  intro k
  induction k with
  | zero => intro i; exact (sumR_z n 0 fun _ _ _ => rfl).symm
  | succ k ih =>
    intro i
    show (0 + sumR (f i) 0 n) + sumR (fun c => 0 + sumR (f c) 0 n) (i + 1) k = sumR (fun j => f i j + sumR (fun c => f c j) (i + 1) k) 0 n
    rw [ih, Int32.zero_add]
    exact sumR_add n 0 fun _ _ _ => rfl
theorem knows15 {v : Int32} (h : 0 ≤ v ∧ v ≤ 3) : knows 15 v := by
  rcases nI_case (n := v) (m := 4) (k := 4) (by decide +kernel) (by omega) with ⟨i, hi, rfl⟩ | hn
  · match i, hi with
    | 0, _ => decide +kernel
    | 1, _ => decide +kernel
    | 2, _ => decide +kernel
    | 3, _ => decide +kernel
  · exact absurd ⟨h.1, Int32.lt_of_le_of_lt h.2 (by decide)⟩ hn
theorem tells_all (hc : cnt F nc nh np) (hv : ∀ j, j < np → 0 ≤ F (58 + 10 * j + 0) ∧ F (58 + 10 * j + 0) ≤ 3) : sumR (tlV F) 0 np = sumR (tellsF F np 15) 0 nc := by
  have h5 := hc.2.1
  have e0 : sumR (tellsF F np 15) 0 nc = sumR (fun j => sumR (fun c => tellS F (nI c) 15 (F (8 + 2 * c + 0)) j) 0 nc) 0 np := sumR_swap (f := fun c => tellS F (nI c) 15 (F (8 + 2 * c + 0))) nc 0
  rw [e0]
  refine sumR_same _ _ fun j _ hj => ?_
  have kn := knows15 (hv j (by omega))
  rcases nI_case (n := holdF F (F (58 + 10 * j + 4))) hc.1 (by omega) with ⟨c, hcc, e⟩ | hn
  · rw [sumR_one (c := c) nc 0 (by omega) (by omega) fun c' _ hc' ne => ?_, tlV_at hc hcc e]
    · show _ = bI _
      refine bI_cong (propext ⟨fun q => ⟨kn, q, e⟩, fun q => q.2.1⟩)
    · show bI _ = 0
      rw [bI_0]
      intro q
      have := q.2.2
      rw [e] at this
      exact ne (nI_eqN this (by omega) (by omega)).symm
  · rw [tlV_no hn, sumR_z nc 0 fun c' _ hc' => ?_]
    show bI _ = 0
    rw [bI_0]
    intro q
    refine hn ?_
    rw [q.2.2, hc.1]
    exact nI_in2 (by omega) (by omega)
theorem voice_ok (hI : Inv G nc nh np B) {j : Nat} (hj : j < np) : 0 ≤ G (58 + 10 * j + 0) ∧ G (58 + 10 * j + 0) ≤ 3 := by
  obtain ⟨a0, a1, a2, a3, a4, a7, a5, a6, a8, b4, b6, b7, b8⟩ := hI.2.2.2.2.2.1 j hj
  exact a0
theorem qA_same (hI : Inv G nc nh np B) (h : Lv nc nh np F G) {i : Nat} (hi : i < np) : cqA F np i = mqA G np i := by
  have hc := hI.1
  have hh := hc.2.2.2.1
  unfold cqA mqA
  rw [h.ph hi (by omega)]
  rcases (hI.wh hi).1 with h4 | ⟨c4, hc4, h4⟩
  · rw [if_pos h4, if_pos (by rw [h4]; decide)]
  · have n4 : ¬ G (58 + 10 * i + 4) = -1 := by rw [h4]; exact nI_m1 (by omega)
    have n5 : ¬ G (58 + 10 * i + 4) < 0 := by rw [h4]; exact nI_pos (by omega)
    rw [if_neg n4, if_neg n5]
    congr 1
    refine sumR_same _ _ fun j _ hj => ?_
    rw [← like_same hc h4 hc4 (fun c hc' => hI.own hc') (hI.wh (by omega))]
    unfold likeS
    rw [h.ph (k := 1) (by omega) (by omega), h.ph (k := 1) hi (by omega), h.ph (k := 4) (by omega) (by omega), h.ph (k := 4) hi (by omega), Lv_hold h hc, Lv_hold h hc]
theorem fwR_Lv (h : Lv nc nh np F G) : ∀ k i s, i + k = np → fwR F i k s = fwR G i k s := by
  intro k
  induction k with
  | zero => intro i s _; rfl
  | succ k ih =>
    intro i s hi
    unfold fwR
    rw [h.ph (by omega) (by omega), ih _ _ (by omega)]
theorem qN_same (hI : Inv G nc nh np B) (h : Lv nc nh np F G) {E : Nat → Int32} {hs tl kf : Int32} (e7 : E 7 = hs) (e9 : E 9 = tl) (e5 : E 5 = kf) {x : Int32} : cqN F hs tl kf np x = mqN G E np x := by
  have s4 : sumR (freePhrasesS F) 0 np = sumR (mofPhrasesS G 1) 0 np := sumR_same _ _ fun j _ hj => by
    have hh := hI.1.2.2.2.1
    unfold freePhrasesS mofPhrasesS
    rw [h.ph (by omega) (by omega), if_neg (by decide)]
    unfold bI
    rcases (hI.wh (show j < np by omega)).1 with h4 | ⟨c4, hc4, h4⟩
    · rw [if_pos h4, if_pos (by rw [h4]; decide)]
    · rw [if_neg (by rw [h4]; exact nI_m1 (by omega)), if_neg (by rw [h4]; exact nI_pos (by omega))]
  have s5 : sumR (lentPhrasesS F) 0 np = sumR (mofPhrasesS G 0) 0 np := sumR_same _ _ fun j _ hj => by
    obtain ⟨a0, a1, a2, a3, a4, a7, a5, a6, a8, b4, b6, b7, b8⟩ := hI.2.2.2.2.2.1 j (by omega)
    unfold lentPhrasesS mofPhrasesS
    rw [h.ph (by omega) (by omega), if_pos rfl]
    unfold bI
    by_cases q : G (58 + 10 * j + 6) = -1
    · rw [if_neg (fun w => w q), if_neg (by rw [q]; decide)]
    · rw [if_pos q, if_pos (show 0 ≤ G (58 + 10 * j + 6) from a6.resolve_left q)]
  have s11 : fwR F 0 np 0 = mfwR G 0 np 0 := by
    rw [fwR_Lv h np 0 0 (by omega)]
    refine fw_same np 0 0 fun j _ hj => ?_
    obtain ⟨a0, a1, a2, a3, a4, a7, a5, a6, a8, b4, b6, b7, b8⟩ := hI.2.2.2.2.2.1 j (by omega)
    exact a1
  unfold cqN mqN
  rw [h.lo (k := 0) (by omega), h.lo (k := 1) (by omega), h.lo (k := 2) (by omega), h.lo (k := 3) (by omega), h.lo (k := 4) (by omega), h.lo (k := 5) (by omega), h.lo (k := 6) (by omega), h.lo (k := 7) (by omega), s4, s5, s11, e7, e9, e5]
theorem qM_same (hI : Inv G nc nh np B) (h : Lv nc nh np F G) {u : Nat} (hu : u ≤ 99) {x : Int32} : cqM F nc np (nI u) x = comV G nc np u x ∧ cnt (sendR F (F 3 + nI u) 0 np).1 nc nh np ∧ ∀ i, i < np → whereOk (pasR G np u).1 nh i := by
  have hc := hI.1
  have h5 := hc.2.1
  have h10 := hc.2.2.2.1
  obtain ⟨p1, p2, p3⟩ := pas_at1 hI hu
  rw [h.lo (k := 3) (by omega)]
  obtain ⟨s1, s2, s3⟩ := send_pas hI (K := F) (fun y _ _ hl => h y hl) (fun j r hj hr => h.pr hj hr) hu
  have t1 := (send_at (np := np) (K := F) (u := G 3 + nI u)).1
  have cP : cnt (pasR G np u).1 nc nh np := by
    refine ⟨?_, h5, ?_, h10, ?_, hc.2.2.2.2.2⟩
    · rw [p1 0 (by omega), if_neg (by omega)]; exact hc.1
    · rw [p1 1 (by omega), if_neg (by omega)]; exact hc.2.2.1
    · rw [p1 2 (by omega), if_neg (by omega)]; exact hc.2.2.2.2.1
  have wP : ∀ i, i < np → whereOk (pasR G np u).1 nh i := by
    intro i hi
    have hw := hI.wh hi
    have q4 := p2 i 4 hi (by omega)
    have q7 := p2 i 7 hi (by omega)
    unfold whereOk at hw ⊢
    have r4 : (pasR G np u).1 (58 + 10 * i + 4) = if dueS G u i then hmQ (pr G i) 4 else pr G i 4 := q4
    have r7 : (pasR G np u).1 (58 + 10 * i + 7) = if dueS G u i then hmQ (pr G i) 7 else pr G i 7 := q7
    rw [r4, r7]
    by_cases w : dueS G u i
    · rw [if_pos w, if_pos w]
      exact ⟨hw.2, Or.inl rfl⟩
    · rw [if_neg w, if_neg w]
      exact hw
  -- the rows agree but for the day
  have hL : Lv nc nh np (fset (sendR F (G 3 + nI u) 0 np).1 3 (G 3 + nI u)) (pasR G np u).1 := by
    refine Lv_mk (fun j hj => ?_) (fun i k hi hk => ?_) (fun i k hi hk => ?_) fun j r hj hr => ?_
    · by_cases e : j = 3
      · rw [e, fset_same, p1 3 (by omega), if_pos rfl]
      · rw [fset_ne e]; exact s2 j (by omega) e (Or.inl hj)
    · rw [fset_ne (by omega)]; exact s2 _ (by omega) (by omega) (Or.inr (Or.inl (by omega)))
    · rw [fset_ne (by omega)]; exact s2 _ (by omega) (by omega) (Or.inr (Or.inr (Or.inl (by omega))))
    · exact (fset_ne (by omega)).trans (s3 j r hj hr)
  have ht : ∀ i, i < nc → tellsF (sendR F (G 3 + nI u) 0 np).1 np 15 i = mtellsF (pasR G np u).1 np 15 i := by
    intro i hi
    rw [← tellsF_same cP wP hL hi]
    unfold tellsF
    congr 1
    refine sumR_same _ _ fun j _ hj => ?_
    have eh : ∀ c, holdF (fset (sendR F (G 3 + nI u) 0 np).1 3 (G 3 + nI u)) c = holdF (sendR F (G 3 + nI u) 0 np).1 c := by
      intro c
      unfold holdF
      rw [fset_ne (by omega), fset_ne (by omega)]
    unfold tellS
    rw [fset_ne (by omega), fset_ne (by omega), fset_ne (by omega), eh]
  have cS : cnt (sendR F (G 3 + nI u) 0 np).1 nc nh np := by
    refine ⟨?_, h5, ?_, h10, ?_, hc.2.2.2.2.2⟩
    · rw [t1 0 (by omega)]; exact (h.lo (by omega)).trans hc.1
    · rw [t1 1 (by omega)]; exact (h.lo (by omega)).trans hc.2.2.1
    · rw [t1 2 (by omega)]; exact (h.lo (by omega)).trans hc.2.2.2.2.1
  have vS : ∀ j, j < np → 0 ≤ (sendR F (G 3 + nI u) 0 np).1 (58 + 10 * j + 0) ∧ (sendR F (G 3 + nI u) 0 np).1 (58 + 10 * j + 0) ≤ 3 := by
    intro j hj
    have e1 : (sendR F (G 3 + nI u) 0 np).1 (58 + 10 * j + 0) = (pasR G np u).1 (58 + 10 * j + 0) := s3 j 0 hj (by omega)
    have e2 : (pasR G np u).1 (58 + 10 * j + 0) = if dueS G u j then hmQ (pr G j) 0 else pr G j 0 := p2 j 0 hj (by omega)
    have e3 : hmQ (pr G j) 0 = pr G j 0 := rfl
    rw [e1, e2, e3, ite_self]
    exact voice_ok hI hj
  refine ⟨?_, cS, wP⟩
  unfold cqM comV
  rw [h.lo (k := 3) (by omega), s1, tells_all cS vS, sumR_same (f := tellsF (sendR F (G 3 + nI u) 0 np).1 np 15) (g := mtellsF (pasR G np u).1 np 15) nc 0 fun j _ hj => ht j (by omega)]
theorem best_same (h10 : nh ≤ 10) {T : Nat → Int32} (hT : ∀ i, i < nh → T i = bstN G nc nh np i) : ∀ (k i : Nat) (b b' l : Int32), i + k = nh → ((b = -1 ∧ b' = -100004) ∨ (b = b' ∧ 0 ≤ b)) → (((bstC T i k b l).1 = -1 ∧ (bstR G nc nh np i k b' l).1 = -100004) ∨ ((bstC T i k b l).1 = (bstR G nc nh np i k b' l).1 ∧ 0 ≤ (bstC T i k b l).1)) ∧ (bstC T i k b l).2 = (bstR G nc nh np i k b' l).2 := by
  intro k
  induction k with
  | zero => intro i b b' l _ h; exact ⟨h, rfl⟩
  | succ k ih =>
    intro i b b' l hi h
    have e : (b = -1 ∨ T i < l) ↔ (b' < 0 ∨ bstN G nc nh np i < l) := by
      rw [hT i (by omega)]
      rcases h with ⟨rfl, rfl⟩ | ⟨rfl, h0⟩
      · exact ⟨fun _ => Or.inl (by decide), fun _ => Or.inl rfl⟩
      · have n1 : ¬ b = -1 := fun q => by rw [q] at h0; exact absurd h0 (by decide)
        have n2 : ¬ b < 0 := by rw [Int32.not_lt]; exact h0
        exact ⟨fun q => Or.inr (q.resolve_left n1), fun q => Or.inr (q.resolve_left n2)⟩
    unfold bstC bstR
    by_cases q : b' < 0 ∨ bstN G nc nh np i < l
    · rw [if_pos q, if_pos (e.mpr q), hT i (by omega)]
      exact ih (i + 1) (nI i) (nI i) _ (by omega) (Or.inr ⟨rfl, nI_pos' (by omega)⟩)
    · rw [if_neg q, if_neg (fun w => q (e.mp w))]
      exact ih (i + 1) b b' l (by omega) h
theorem best_val (h10 : nh ≤ 10) {T : Nat → Int32} (hT : ∀ i, i < nh → T i = bstN G nc nh np i) {x : Int32} : bstW T nh x = bstV G nc nh np x := by
  obtain ⟨h1, h2⟩ := best_same h10 hT nh 0 (-1) (-100004) 0 (by omega) (Or.inl ⟨rfl, rfl⟩)
  unfold bstW bstV
  rcases h1 with ⟨q, w⟩ | ⟨q, w⟩
  · rw [if_pos q, w, if_pos (Or.inl (by decide))]
  · have n1 : ¬ (bstC T 0 nh (-1) 0).1 = -1 := fun q => by rw [q] at w; exact absurd w (by decide)
    rw [if_neg n1, ← q, ← h2]
    have n2 : ¬ (bstC T 0 nh (-1) 0).1 < 0 := by rw [Int32.not_lt]; exact w
    by_cases e : x = 0
    · rw [if_pos e, if_pos (Or.inr e)]
    · rw [if_neg e, if_neg (fun u => u.elim n2 e)]
theorem bst_same (hI : Inv G nc nh np B) (h : Lv nc nh np F G) {i : Nat} (hi : i < nh) : 0 + sumR (tlV (tkF F nh np i)) 0 np = bstN G nc nh np i ∧ cnt (tkF F nh np i) nc (nh - 1) np ∧ cnt (mbb G nc nh np i) nc (nh - 1) np ∧ ∀ j, j < np → whereOk (mbb G nc nh np i) (nh - 1) j := by
  obtain ⟨o, ho, eo⟩ := hI.own hi
  have e : mbb G nc nh np i = mbbF G nc nh np i o := by
    unfold mbb
    rw [eo, nI_clamp (by have := hI.1.2.1; omega)]
  have hI2 := bb_inv hI hi ho
  have hL := bb_Lv hI h hi ho eo
  rw [e]
  refine ⟨?_, hL.cnt hI2.1, hI2.1, fun j hj => hI2.wh hj⟩
  unfold bstN
  rw [if_pos (wor_pos hI hi), e, tells_all (hL.cnt hI2.1) fun j hj => ?_, sumR_same nc 0 fun j _ hj => tellsF_same hI2.1 (fun j hj => hI2.wh hj) hL (by omega)]
  rw [hL.ph hj (by omega)]
  exact voice_ok hI2 hj
end SV
