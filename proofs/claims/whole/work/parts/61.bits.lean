/-! the set of first words: both sides ask for the same bit -/
theorem bit_bv (s : BitVec 64) (n : Nat) (h : n < 64) : (s &&& (1#64 <<< n) = 0#64) = ((s.sshiftRight n) &&& 1#64 = 0#64) := by
  have e1 : (s &&& (1#64 <<< n) = 0#64) ↔ s.getLsbD n = false := by
    constructor
    · intro q
      have := congrArg (fun x => x.getLsbD n) q
      simpa [h] using this
    · intro q
      apply BitVec.eq_of_getLsbD_eq
      intro i hi
      by_cases e : i = n
      · subst e; simp [q]
      · simp [BitVec.getLsbD_one]
        intro _ _ _
        omega
  have hs : (s.sshiftRight n)[0] = s.getLsbD n := by
    rw [BitVec.getElem_sshiftRight]
    simp [h]
  have e2 : ((s.sshiftRight n) &&& 1#64 = 0#64) ↔ s.getLsbD n = false := by
    constructor
    · intro q
      have := congrArg (fun x => x.getLsbD 0) q
      simp [hs] at this
      simpa [h] using this
    · intro q
      apply BitVec.eq_of_getLsbD_eq
      intro i hi
      by_cases e : i = 0
      · subst e; simp [hs, q]
      · simp [BitVec.getLsbD_one, e]
  exact propext (e1.trans e2.symm)
theorem bit_am : ∀ n, n < 64 → ((nI n).toInt64 &&& 63).toBitVec.smod 64#64 = BitVec.ofNat 64 n := by decide +kernel
theorem bit_same (s : Int64) (n : Nat) (h : n < 64) : (s &&& (1 <<< ((nI n).toInt64 &&& 63)) = 0) = ((s >>> ((nI n).toInt64 &&& 63)) &&& 1 = 0) := by
  have e := bit_bv s.toBitVec n h
  rw [← Int64.toBitVec_inj, ← Int64.toBitVec_inj]
  rw [Int64.toBitVec_and, Int64.toBitVec_and, Int64.toBitVec_shiftLeft, Int64.toBitVec_shiftRight]
  show (s.toBitVec &&& (1#64 <<< ((nI n).toInt64 &&& 63).toBitVec.smod 64#64) = 0#64) = (s.toBitVec.sshiftRight' (((nI n).toInt64 &&& 63).toBitVec.smod 64#64) &&& 1#64 = 0#64)
  rw [bit_am n h]
  have e3 : (BitVec.ofNat 64 n).toNat = n := by simp; omega
  rw [BitVec.shiftLeft_eq', BitVec.sshiftRight_eq', e3]
  exact e
theorem fw_same {G : Nat → Int32} : ∀ (k i : Nat) (s : Int64), (∀ j, i ≤ j → j < i + k → ∃ n, n < 64 ∧ G (58 + 10 * j + 1) = nI n) → fwR G i k s = mfwR G i k s := by
  intro k
  induction k with
  | zero => intro i s _; rfl
  | succ k ih =>
    intro i s h
    obtain ⟨n, hn, e⟩ := h i (by omega) (by omega)
    simp only [fwR, mfwR]
    rw [ih (i + 1) _ (fun j h1 h2 => h j (by omega) (by omega)), e]
    have b := bit_same s n hn
    by_cases c : s &&& (1 <<< ((nI n).toInt64 &&& 63)) = 0
    · rw [if_pos c, if_pos (b ▸ c)]
    · rw [if_neg c, if_neg (fun q => c (b ▸ q))]
