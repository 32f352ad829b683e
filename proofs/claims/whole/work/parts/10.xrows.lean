/-! one instruction of our machine, as an equation -/
def gI {α : Type} (v : Option Value) (f : Int32 → Option α) : Option α := match v with
  | some (.int x) => f x
  | _ => none
def gL {α : Type} (v : Option Value) (f : Int64 → Option α) : Option α := match v with
  | some (.long x) => f x
  | _ => none
def gA {α : Type} (v : Option Value) (f : Value → Option α) : Option α := match v with
  | some (.ref x) => f (.ref x)
  | some .null => f .null
  | _ => none
def gV {α β : Type} (v : Option β) (f : β → Option α) : Option α := match v with
  | some x => f x
  | none => none
def gC (r : Option xR) (f : Option Value → Wd → Option xR) : Option xR := match r with
  | some (v, w) => f v w
  | none => none
theorem gI_int {α : Type} (x : Int32) (f : Int32 → Option α) : gI (some (.int x)) f = f x := rfl
theorem gL_long {α : Type} (x : Int64) (f : Int64 → Option α) : gL (some (.long x)) f = f x := rfl
theorem gA_ref {α : Type} (x : Nat) (f : Value → Option α) : gA (some (.ref x)) f = f (.ref x) := rfl
theorem gA_null {α : Type} (f : Value → Option α) : gA (some .null) f = f .null := rfl
theorem gV_some {α β : Type} (x : β) (f : β → Option α) : gV (some x) f = f x := rfl
theorem gC_some (v : Option Value) (w : Wd) (f : Option Value → Wd → Option xR) : gC (some (v, w)) f = f v w := rfl
def ai (w : Wd) (a : Nat) (j : Int32) : Option Value := match ag w a 10 10 j with
  | some v => some v
  | none => ag w a 16 16 j
theorem X_step {d o pc : Nat} {L : List (Nat × Value)} {st : List Value} {w : Wd} {i : Instr} {len : Nat} (hd : decode (xB o) pc = .ok (i, len)) (hk : okl i len = true) : X d o pc L st w = match stp1 (run d) o pc L st w i with
    | none => none
    | some (.inl r) => some r
    | some (.inr c') => X d o c'.1 c'.2.1 c'.2.2.1 c'.2.2.2 := by
  rw [X, X0_eq]
  unfold xst
  simp only [hd]
  unfold stp
  rw [if_pos hk]
  rfl
section XR
variable {d o pc : Nat} {L : List (Nat × Value)} {st : List Value} {w : Wd}
theorem x_aload_n {n : Fin 4} {k : Nat} (hd : decode (xB o) pc = .ok (.aload_n n, 1)) (hn : (n : Nat) = k) : X d o pc L st w = gA (lk L k) fun v => X d o (pc + 1) L (v :: st) w := by
  rw [X_step hd rfl]; subst hn; dsimp only [stp1]
  cases lk L n with
  | none => rfl
  | some v => cases v <;> rfl
theorem x_aload {n : Nat} (hd : decode (xB o) pc = .ok (.aload n, 2)) : X d o pc L st w = gA (lk L n) fun v => X d o (pc + 2) L (v :: st) w := by
  rw [X_step hd rfl]; dsimp only [stp1]
  cases lk L n with
  | none => rfl
  | some v => cases v <;> rfl
theorem x_iload_n {n : Fin 4} {k : Nat} (hd : decode (xB o) pc = .ok (.iload_n n, 1)) (hn : (n : Nat) = k) : X d o pc L st w = gI (lk L k) fun x => X d o (pc + 1) L (.int x :: st) w := by
  rw [X_step hd rfl]; subst hn; dsimp only [stp1]
  cases lk L n with
  | none => rfl
  | some v => cases v <;> rfl
theorem x_iload {n : Nat} (hd : decode (xB o) pc = .ok (.iload n, 2)) : X d o pc L st w = gI (lk L n) fun x => X d o (pc + 2) L (.int x :: st) w := by
  rw [X_step hd rfl]; dsimp only [stp1]
  cases lk L n with
  | none => rfl
  | some v => cases v <;> rfl
theorem x_lload_n {n : Fin 4} {k : Nat} (hd : decode (xB o) pc = .ok (.lload_n n, 1)) (hn : (n : Nat) = k) : X d o pc L st w = gL (lk L k) fun x => X d o (pc + 1) L (.long x :: st) w := by
  rw [X_step hd rfl]; subst hn; dsimp only [stp1]
  cases lk L n with
  | none => rfl
  | some v => cases v <;> rfl
theorem x_lload {n : Nat} (hd : decode (xB o) pc = .ok (.lload n, 2)) : X d o pc L st w = gL (lk L n) fun x => X d o (pc + 2) L (.long x :: st) w := by
  rw [X_step hd rfl]; dsimp only [stp1]
  cases lk L n with
  | none => rfl
  | some v => cases v <;> rfl
theorem x_istore_n {n : Fin 4} {k : Nat} {x : Int32} (hd : decode (xB o) pc = .ok (.istore_n n, 1)) (hn : (n : Nat) = k) (hk : k < xL o) : X d o pc L (.int x :: st) w = X d o (pc + 1) (lset L k (.int x)) st w := by
  rw [X_step hd rfl]; subst hn; dsimp only [stp1, sI]; rw [if_pos hk]; rfl
theorem x_istore {k : Nat} {x : Int32} (hd : decode (xB o) pc = .ok (.istore k, 2)) (hk : k < xL o) : X d o pc L (.int x :: st) w = X d o (pc + 2) (lset L k (.int x)) st w := by
  rw [X_step hd rfl]; dsimp only [stp1, sI]; rw [if_pos hk]; rfl
theorem x_astore_n {n : Fin 4} {k : Nat} {v : Value} (hd : decode (xB o) pc = .ok (.astore_n n, 1)) (hn : (n : Nat) = k) (hk : k < xL o) : X d o pc L (v :: st) w = gA (some v) fun v => X d o (pc + 1) (lset L k v) st w := by
  rw [X_step hd rfl]; subst hn
  cases v <;> first | (dsimp only [stp1, sA0]; rw [if_pos hk]; rfl) | rfl
theorem x_astore {k : Nat} {v : Value} (hd : decode (xB o) pc = .ok (.astore k, 2)) (hk : k < xL o) : X d o pc L (v :: st) w = gA (some v) fun v => X d o (pc + 2) (lset L k v) st w := by
  rw [X_step hd rfl]
  cases v <;> first | (dsimp only [stp1, sA0]; rw [if_pos hk]; rfl) | rfl
theorem x_lstore_n {n : Fin 4} {k : Nat} {x : Int64} (hd : decode (xB o) pc = .ok (.lstore_n n, 1)) (hn : (n : Nat) = k) (hk : k + 1 < xL o) : X d o pc L (.long x :: st) w = X d o (pc + 1) (lset2 L k (.long x)) st w := by
  rw [X_step hd rfl]; subst hn; dsimp only [stp1, sL]; rw [if_pos hk]; rfl
theorem x_lstore {k : Nat} {x : Int64} (hd : decode (xB o) pc = .ok (.lstore k, 2)) (hk : k + 1 < xL o) : X d o pc L (.long x :: st) w = X d o (pc + 2) (lset2 L k (.long x)) st w := by
  rw [X_step hd rfl]; dsimp only [stp1, sL]; rw [if_pos hk]; rfl
theorem x_iinc {k : Nat} {n : Int} {v : Int32} (hd : decode (xB o) pc = .ok (.iinc k n, 3)) (hv : Int32.ofInt n = v) (hk : k < xL o) : X d o pc L st w = gI (lk L k) fun x => X d o (pc + 3) (lset L k (.int (x + v))) st w := by
  rw [X_step hd rfl]; subst hv; dsimp only [stp1]
  cases lk L k with
  | none => rfl
  | some u => cases u <;> first | rfl | (dsimp only [oI, gI]; rw [if_pos hk]; rfl)
theorem x_iconst {n : Int} {v : Int32} (hd : decode (xB o) pc = .ok (.iconst n, 1)) (hv : Int32.ofInt n = v) : X d o pc L st w = X d o (pc + 1) L (.int v :: st) w := by rw [X_step hd rfl]; subst hv; rfl
theorem x_bipush {n : Int} {v : Int32} (hd : decode (xB o) pc = .ok (.bipush n, 2)) (hv : (Int8.ofInt n).toInt32 = v) : X d o pc L st w = X d o (pc + 2) L (.int v :: st) w := by rw [X_step hd rfl]; subst hv; rfl
theorem x_sipush {n : Int} {v : Int32} (hd : decode (xB o) pc = .ok (.sipush n, 3)) (hv : (Int16.ofInt n).toInt32 = v) : X d o pc L st w = X d o (pc + 3) L (.int v :: st) w := by rw [X_step hd rfl]; subst hv; rfl
theorem x_lconst {n : Fin 2} {v : Int64} (hd : decode (xB o) pc = .ok (.lconst n, 1)) (hv : Int64.ofNat (n : Nat) = v) : X d o pc L st w = X d o (pc + 1) L (.long v :: st) w := by rw [X_step hd rfl]; subst hv; rfl
theorem x_ldc {n : Nat} {v : Int32} (hd : decode (xB o) pc = .ok (.ldc n, 2)) (hv : fK (xCl o) n = some v) : X d o pc L st w = X d o (pc + 2) L (.int v :: st) w := by rw [X_step hd rfl]; dsimp only [stp1]; rw [hv]; rfl
theorem x_aconst_null (hd : decode (xB o) pc = .ok (.aconst_null, 1)) : X d o pc L st w = X d o (pc + 1) L (.null :: st) w := by rw [X_step hd rfl]; rfl
theorem x_dup_i {x : Int32} (hd : decode (xB o) pc = .ok (.dup, 1)) : X d o pc L (.int x :: st) w = X d o (pc + 1) L (.int x :: .int x :: st) w := by rw [X_step hd rfl]; rfl
theorem x_dup_a {x : Nat} (hd : decode (xB o) pc = .ok (.dup, 1)) : X d o pc L (.ref x :: st) w = X d o (pc + 1) L (.ref x :: .ref x :: st) w := by rw [X_step hd rfl]; rfl
theorem x_dup2 {x : Int32} {a : Nat} (hd : decode (xB o) pc = .ok (.dup2, 1)) : X d o pc L (.int x :: .ref a :: st) w = X d o (pc + 1) L (.int x :: .ref a :: .int x :: .ref a :: st) w := by rw [X_step hd rfl]; rfl
theorem x_pop {x : Int32} (hd : decode (xB o) pc = .ok (.pop, 1)) : X d o pc L (.int x :: st) w = X d o (pc + 1) L st w := by rw [X_step hd rfl]; rfl
theorem x_iadd {x y : Int32} (hd : decode (xB o) pc = .ok (.iadd, 1)) : X d o pc L (.int y :: .int x :: st) w = X d o (pc + 1) L (.int (x + y) :: st) w := by rw [X_step hd rfl]; rfl
theorem x_isub {x y : Int32} (hd : decode (xB o) pc = .ok (.isub, 1)) : X d o pc L (.int y :: .int x :: st) w = X d o (pc + 1) L (.int (x - y) :: st) w := by rw [X_step hd rfl]; rfl
theorem x_imul {x y : Int32} (hd : decode (xB o) pc = .ok (.imul, 1)) : X d o pc L (.int y :: .int x :: st) w = X d o (pc + 1) L (.int (x * y) :: st) w := by rw [X_step hd rfl]; rfl
theorem x_idiv {x y : Int32} (hd : decode (xB o) pc = .ok (.idiv, 1)) : X d o pc L (.int y :: .int x :: st) w = if y = 0 then none else X d o (pc + 1) L (.int (x / y) :: st) w := by
  rw [X_step hd rfl]; dsimp only [stp1, sI]
  by_cases h : y = 0
  · rw [if_pos h, if_pos h]
  · rw [if_neg h, if_neg h]; rfl
theorem x_iand {x y : Int32} (hd : decode (xB o) pc = .ok (.iand, 1)) : X d o pc L (.int y :: .int x :: st) w = X d o (pc + 1) L (.int (x &&& y) :: st) w := by rw [X_step hd rfl]; rfl
theorem x_ishr {x y : Int32} (hd : decode (xB o) pc = .ok (.ishr, 1)) : X d o pc L (.int y :: .int x :: st) w = X d o (pc + 1) L (.int (x >>> (y &&& 31)) :: st) w := by rw [X_step hd rfl]; rfl
theorem x_ineg {x : Int32} (hd : decode (xB o) pc = .ok (.ineg, 1)) : X d o pc L (.int x :: st) w = X d o (pc + 1) L (.int (-x) :: st) w := by rw [X_step hd rfl]; rfl
theorem x_i2c {x : Int32} (hd : decode (xB o) pc = .ok (.i2c, 1)) : X d o pc L (.int x :: st) w = X d o (pc + 1) L (.int (x.toUInt32 % 65536).toInt32 :: st) w := by rw [X_step hd rfl]; rfl
theorem x_land {x y : Int64} (hd : decode (xB o) pc = .ok (.land, 1)) : X d o pc L (.long y :: .long x :: st) w = X d o (pc + 1) L (.long (x &&& y) :: st) w := by rw [X_step hd rfl]; rfl
theorem x_lor {x y : Int64} (hd : decode (xB o) pc = .ok (.lor, 1)) : X d o pc L (.long y :: .long x :: st) w = X d o (pc + 1) L (.long (x ||| y) :: st) w := by rw [X_step hd rfl]; rfl
theorem x_lshl {x : Int64} {y : Int32} (hd : decode (xB o) pc = .ok (.lshl, 1)) : X d o pc L (.int y :: .long x :: st) w = X d o (pc + 1) L (.long (x <<< (y.toInt64 &&& 63)) :: st) w := by rw [X_step hd rfl]; rfl
theorem x_lshr {x : Int64} {y : Int32} (hd : decode (xB o) pc = .ok (.lshr, 1)) : X d o pc L (.int y :: .long x :: st) w = X d o (pc + 1) L (.long (x >>> (y.toInt64 &&& 63)) :: st) w := by rw [X_step hd rfl]; rfl
theorem x_lcmp {x y : Int64} (hd : decode (xB o) pc = .ok (.lcmp, 1)) : X d o pc L (.long y :: .long x :: st) w = X d o (pc + 1) L (.int (if y < x then 1 else if x = y then 0 else -1) :: st) w := by rw [X_step hd rfl]; rfl
theorem jmp_to {pc t : Nat} {off : Int} {f : Nat → xO} (ht : (pc : Int) + off = (t : Int)) : jmp pc off f = f t := by unfold jmp; rw [ht]
theorem x_if {c : ClassFile.Cond} {off : Int} {t : Nat} {x : Int32} (hd : decode (xB o) pc = .ok (.ifCond c off, 3)) (ht : (pc : Int) + off = (t : Int)) : X d o pc L (.int x :: st) w = if ihold c x 0 = true then X d o t L st w else X d o (pc + 3) L st w := by
  rw [X_step hd rfl]; dsimp only [stp1, sI]; rw [jmp_to ht]
  by_cases h : ihold c x 0 = true
  · rw [if_pos h, if_pos h]; rfl
  · rw [if_neg h, if_neg h]; rfl
theorem x_icmp {c : ClassFile.Cond} {off : Int} {t : Nat} {x y : Int32} (hd : decode (xB o) pc = .ok (.if_icmp c off, 3)) (ht : (pc : Int) + off = (t : Int)) : X d o pc L (.int y :: .int x :: st) w = if ihold c x y = true then X d o t L st w else X d o (pc + 3) L st w := by
  rw [X_step hd rfl]; dsimp only [stp1, sI]; rw [jmp_to ht]
  by_cases h : ihold c x y = true
  · rw [if_pos h, if_pos h]; rfl
  · rw [if_neg h, if_neg h]; rfl
theorem x_ifeq {off : Int} {t : Nat} {x : Int32} (hd : decode (xB o) pc = .ok (.ifCond .eq off, 3)) (ht : (pc : Int) + off = (t : Int)) : X d o pc L (.int x :: st) w = if x = 0 then X d o t L st w else X d o (pc + 3) L st w := by
  rw [x_if hd ht]; simp only [ihold, decide_eq_true_eq]
theorem x_ifne {off : Int} {t : Nat} {x : Int32} (hd : decode (xB o) pc = .ok (.ifCond .ne off, 3)) (ht : (pc : Int) + off = (t : Int)) : X d o pc L (.int x :: st) w = if x = 0 then X d o (pc + 3) L st w else X d o t L st w := by
  rw [x_if hd ht]; by_cases h : x = 0 <;> simp [ihold, h]
theorem x_iflt {off : Int} {t : Nat} {x : Int32} (hd : decode (xB o) pc = .ok (.ifCond .lt off, 3)) (ht : (pc : Int) + off = (t : Int)) : X d o pc L (.int x :: st) w = if x < 0 then X d o t L st w else X d o (pc + 3) L st w := by
  rw [x_if hd ht]; simp only [ihold, decide_eq_true_eq]
theorem x_ifge {off : Int} {t : Nat} {x : Int32} (hd : decode (xB o) pc = .ok (.ifCond .ge off, 3)) (ht : (pc : Int) + off = (t : Int)) : X d o pc L (.int x :: st) w = if 0 ≤ x then X d o t L st w else X d o (pc + 3) L st w := by
  rw [x_if hd ht]; simp only [ihold, decide_eq_true_eq]
theorem x_ifgt {off : Int} {t : Nat} {x : Int32} (hd : decode (xB o) pc = .ok (.ifCond .gt off, 3)) (ht : (pc : Int) + off = (t : Int)) : X d o pc L (.int x :: st) w = if 0 < x then X d o t L st w else X d o (pc + 3) L st w := by
  rw [x_if hd ht]; simp only [ihold, decide_eq_true_eq]
theorem x_ifle {off : Int} {t : Nat} {x : Int32} (hd : decode (xB o) pc = .ok (.ifCond .le off, 3)) (ht : (pc : Int) + off = (t : Int)) : X d o pc L (.int x :: st) w = if x ≤ 0 then X d o t L st w else X d o (pc + 3) L st w := by
  rw [x_if hd ht]; simp only [ihold, decide_eq_true_eq]
theorem x_icmpeq {off : Int} {t : Nat} {x y : Int32} (hd : decode (xB o) pc = .ok (.if_icmp .eq off, 3)) (ht : (pc : Int) + off = (t : Int)) : X d o pc L (.int y :: .int x :: st) w = if x = y then X d o t L st w else X d o (pc + 3) L st w := by
  rw [x_icmp hd ht]; simp only [ihold, decide_eq_true_eq]
theorem x_icmpne {off : Int} {t : Nat} {x y : Int32} (hd : decode (xB o) pc = .ok (.if_icmp .ne off, 3)) (ht : (pc : Int) + off = (t : Int)) : X d o pc L (.int y :: .int x :: st) w = if x = y then X d o (pc + 3) L st w else X d o t L st w := by
  rw [x_icmp hd ht]; by_cases h : x = y <;> simp [ihold, h]
theorem x_icmplt {off : Int} {t : Nat} {x y : Int32} (hd : decode (xB o) pc = .ok (.if_icmp .lt off, 3)) (ht : (pc : Int) + off = (t : Int)) : X d o pc L (.int y :: .int x :: st) w = if x < y then X d o t L st w else X d o (pc + 3) L st w := by
  rw [x_icmp hd ht]; simp only [ihold, decide_eq_true_eq]
theorem x_icmpge {off : Int} {t : Nat} {x y : Int32} (hd : decode (xB o) pc = .ok (.if_icmp .ge off, 3)) (ht : (pc : Int) + off = (t : Int)) : X d o pc L (.int y :: .int x :: st) w = if y ≤ x then X d o t L st w else X d o (pc + 3) L st w := by
  rw [x_icmp hd ht]; simp only [ihold, decide_eq_true_eq]
theorem x_icmpgt {off : Int} {t : Nat} {x y : Int32} (hd : decode (xB o) pc = .ok (.if_icmp .gt off, 3)) (ht : (pc : Int) + off = (t : Int)) : X d o pc L (.int y :: .int x :: st) w = if y < x then X d o t L st w else X d o (pc + 3) L st w := by
  rw [x_icmp hd ht]; simp only [ihold, decide_eq_true_eq]
theorem x_icmple {off : Int} {t : Nat} {x y : Int32} (hd : decode (xB o) pc = .ok (.if_icmp .le off, 3)) (ht : (pc : Int) + off = (t : Int)) : X d o pc L (.int y :: .int x :: st) w = if x ≤ y then X d o t L st w else X d o (pc + 3) L st w := by
  rw [x_icmp hd ht]; simp only [ihold, decide_eq_true_eq]
theorem x_ifnull_a {off : Int} {t a : Nat} (hd : decode (xB o) pc = .ok (.ifnull off, 3)) (ht : (pc : Int) + off = (t : Int)) : X d o pc L (.ref a :: st) w = X d o (pc + 3) L st w := by rw [X_step hd rfl]; rfl
theorem x_ifnull_n {off : Int} {t : Nat} (hd : decode (xB o) pc = .ok (.ifnull off, 3)) (ht : (pc : Int) + off = (t : Int)) : X d o pc L (.null :: st) w = X d o t L st w := by rw [X_step hd rfl]; dsimp only [stp1]; rw [jmp_to ht]; rfl
theorem x_ifnonnull_a {off : Int} {t a : Nat} (hd : decode (xB o) pc = .ok (.ifnonnull off, 3)) (ht : (pc : Int) + off = (t : Int)) : X d o pc L (.ref a :: st) w = X d o t L st w := by rw [X_step hd rfl]; dsimp only [stp1]; rw [jmp_to ht]; rfl
theorem x_ifnonnull_n {off : Int} {t : Nat} (hd : decode (xB o) pc = .ok (.ifnonnull off, 3)) (ht : (pc : Int) + off = (t : Int)) : X d o pc L (.null :: st) w = X d o (pc + 3) L st w := by rw [X_step hd rfl]; rfl
theorem x_goto {off : Int} {t : Nat} (hd : decode (xB o) pc = .ok (.goto off, 3)) (ht : (pc : Int) + off = (t : Int)) : X d o pc L st w = X d o t L st w := by rw [X_step hd rfl]; dsimp only [stp1]; rw [jmp_to ht]; rfl
theorem x_tableIn {dflt lo hi : Int} {offs : Array Int} {len t : Nat} {x : Int32} {off : Int} (hd : decode (xB o) pc = .ok (.tableswitch dflt lo hi offs, len)) (h1 : ¬ (x.toInt < lo ∨ hi < x.toInt)) (ho : offs[(x.toInt - lo).toNat]? = some off) (ht : (pc : Int) + off = (t : Int)) : X d o pc L (.int x :: st) w = X d o t L st w := by
  rw [X_step hd rfl]; dsimp only [stp1, sI]; rw [if_neg h1]; simp only [ho]; rw [jmp_to ht]; rfl
theorem x_tableOut {dflt lo hi : Int} {offs : Array Int} {len t : Nat} {x : Int32} (hd : decode (xB o) pc = .ok (.tableswitch dflt lo hi offs, len)) (h1 : x.toInt < lo ∨ hi < x.toInt) (ht : (pc : Int) + dflt = (t : Int)) : X d o pc L (.int x :: st) w = X d o t L st w := by
  rw [X_step hd rfl]; dsimp only [stp1, sI]; rw [if_pos h1, jmp_to ht]; rfl
theorem x_lookup {dflt : Int} {ps : Array (Int × Int)} {len t : Nat} {x : Int32} (hd : decode (xB o) pc = .ok (.lookupswitch dflt ps, len)) (hp : (ps.toList.zip (ps.toList.drop 1)).all (fun (a, next) => a.1 < next.1) = true) (ht : (pc : Int) + Op.lookupswitch.offset ps.toList dflt x.toInt = (t : Int)) : X d o pc L (.int x :: st) w = X d o t L st w := by
  rw [X_step hd rfl]; dsimp only [stp1, sI]; rw [if_pos hp, jmp_to ht]; rfl
theorem x_get {n ci k t a : Nat} (hd : decode (xB o) pc = .ok (.getfield n, 3)) (hf : fF (xCl o) n = some (ci, k, t)) : X d o pc L (.ref a :: st) w = gV (gf w a ci k) fun v => X d o (pc + 3) L (v :: st) w := by
  rw [X_step hd rfl]; dsimp only [stp1]; rw [hf]; dsimp only [sA]
  cases gf w a ci k <;> rfl
theorem x_put {n ci k t a : Nat} {v : Value} (hd : decode (xB o) pc = .ok (.putfield n, 3)) (hf : fF (xCl o) n = some (ci, k, t)) (hv : tck t v = true) (hfin : (xTC ci k).2.2.2 = true → xKd o = 2 ∧ xCl o = ci) : X d o pc L (v :: .ref a :: st) w = gV (pf w a ci k v) fun w' => X d o (pc + 3) L st w' := by
  rw [X_step hd rfl]; dsimp only [stp1]; rw [hf]; dsimp only [sA]
  rw [if_pos ⟨hv, hfin⟩]
  cases pf w a ci k v <;> rfl
theorem x_iaload {j : Int32} {a : Nat} (hd : decode (xB o) pc = .ok (.iaload, 1)) : X d o pc L (.int j :: .ref a :: st) w = gV (ai w a j) fun v => X d o (pc + 1) L (v :: st) w := by
  rw [X_step hd rfl]; dsimp only [stp1, sI, sA]; unfold ai
  cases ag w a 10 10 j with
  | some v => rfl
  | none => dsimp only; cases ag w a 16 16 j <;> rfl
theorem x_caload {j : Int32} {a : Nat} (hd : decode (xB o) pc = .ok (.caload, 1)) : X d o pc L (.int j :: .ref a :: st) w = gV (ag w a 11 11 j) fun v => X d o (pc + 1) L (v :: st) w := by
  rw [X_step hd rfl]; dsimp only [stp1, sI, sA]
  cases ag w a 11 11 j <;> rfl
theorem x_aaload {j : Int32} {a : Nat} (hd : decode (xB o) pc = .ok (.aaload, 1)) : X d o pc L (.int j :: .ref a :: st) w = gV (ag w a 12 15 j) fun v => X d o (pc + 1) L (v :: st) w := by
  rw [X_step hd rfl]; dsimp only [stp1, sI, sA]
  cases ag w a 12 15 j <;> rfl
theorem x_iastore {x j : Int32} {a : Nat} (hd : decode (xB o) pc = .ok (.iastore, 1)) : X d o pc L (.int x :: .int j :: .ref a :: st) w = gV (ap w a 10 10 j (.int x)) fun w' => X d o (pc + 1) L st w' := by
  rw [X_step hd rfl]; dsimp only [stp1, sI, sA]
  cases ap w a 10 10 j (.int x) <;> rfl
theorem x_castore {x j : Int32} {a : Nat} (hd : decode (xB o) pc = .ok (.castore, 1)) : X d o pc L (.int x :: .int j :: .ref a :: st) w = gV (ap w a 11 11 j (narrow .char (.int x))) fun w' => X d o (pc + 1) L st w' := by
  rw [X_step hd rfl]; dsimp only [stp1, sI, sA]
  cases ap w a 11 11 j (narrow .char (.int x)) <;> rfl
theorem x_aastore {v a : Nat} {j : Int32} (hd : decode (xB o) pc = .ok (.aastore, 1)) : X d o pc L (.ref v :: .int j :: .ref a :: st) w = if kd w v = xEl (kd w a) then gV (ap w a 12 15 j (.ref v)) fun w' => X d o (pc + 1) L st w' else none := by
  rw [X_step hd rfl]; dsimp only [stp1, sI, sA]
  by_cases h : kd w v = xEl (kd w a)
  · rw [if_pos h, if_pos h]
    cases ap w a 12 15 j (.ref v) <;> rfl
  · rw [if_neg h, if_neg h]
theorem x_alen {a : Nat} (hd : decode (xB o) pc = .ok (.arraylength, 1)) : X d o pc L (.ref a :: st) w = gV (al w a) fun n => X d o (pc + 1) L (.int n :: st) w := by
  rw [X_step hd rfl]; dsimp only [stp1, sA]
  cases al w a <;> rfl
theorem x_new {n ci : Nat} (hd : decode (xB o) pc = .ok (.new n, 3)) (hf : f2 xNT (xCl o) n = some ci) : X d o pc L st w = X d o (pc + 3) L (.ref w.2.1 :: st) (wnew w (ci, xNF ci, fun k => defaultValue (xTy ci k))) := by
  rw [X_step hd rfl]; dsimp only [stp1]; rw [hf]; rfl
theorem x_newi {n : Int32} {N : Nat} (hd : decode (xB o) pc = .ok (.newarray .int, 2)) (hn : ¬ n < 0 ∧ n.toNatClampNeg ≤ 100000) (hN : n.toNatClampNeg = N) : X d o pc L (.int n :: st) w = X d o (pc + 2) L (.ref w.2.1 :: st) (wnew w (10, N, fun _ => .int 0)) := by
  rw [X_step hd rfl]; dsimp only [stp1, sI]; rw [if_pos hn, if_pos rfl]; subst hN; rfl
theorem x_newc {n : Int32} {N : Nat} (hd : decode (xB o) pc = .ok (.newarray .char, 2)) (hn : ¬ n < 0 ∧ n.toNatClampNeg ≤ 100000) (hN : n.toNatClampNeg = N) : X d o pc L (.int n :: st) w = X d o (pc + 2) L (.ref w.2.1 :: st) (wnew w (11, N, fun _ => .int 0)) := by
  rw [X_step hd rfl]; dsimp only [stp1, sI]; rw [if_pos hn, if_neg (by decide), if_pos rfl]; subst hN; rfl
theorem x_anew {i k : Nat} {n : Int32} {N : Nat} (hd : decode (xB o) pc = .ok (.anewarray i, 3)) (hf : f2 xAT (xCl o) i = some k) (hn : ¬ n < 0 ∧ n.toNatClampNeg ≤ 100000) (hN : n.toNatClampNeg = N) : X d o pc L (.int n :: st) w = X d o (pc + 3) L (.ref w.2.1 :: st) (wnew w (k, N, fun _ => .null)) := by
  rw [X_step hd rfl]; dsimp only [stp1]; rw [hf]; dsimp only [sI]; rw [if_pos hn]; subst hN; rfl
theorem x_call_end {y : Nat} {As : List Value} {rest : List Value} (hl : rest.length ≤ 4) : (match xcall (run d) y As w pc L rest with
    | none => none
    | some (.inl r) => some r
    | some (.inr c') => X d o c'.1 c'.2.1 c'.2.2.1 c'.2.2.2) = gC (run d y As w) fun v w' => X d o (pc + 3) L (v.toList ++ rest) w' := by
  unfold xcall
  rw [if_pos hl]
  cases run d y As w with
  | none => rfl
  | some q => rfl
theorem x_virt {n y z b : Nat} {As rest : List Value} (hd : decode (xB o) pc = .ok (.invokevirtual n, 3)) (hf : fM (xCl o) n = some (y, z)) (hst : st = As.reverse ++ .ref b :: rest) (hA : As.length = xAr y) (hk : xKd y = 0) (hl : rest.length ≤ 4) (hb : kd w b = xCl y) : X d o pc L st w = gC (run d y (.ref b :: As) w) fun v w' => X d o (pc + 3) L (v.toList ++ rest) w' := by
  rw [X_step hd rfl]; dsimp only [stp1]; rw [hf]; dsimp only
  have e1 : st.drop (xAr y) = .ref b :: rest := by rw [hst, ← hA, ← List.length_reverse, List.drop_left]
  have e2 : st.take (xAr y) = As.reverse := by rw [hst, ← hA, ← List.length_reverse, List.take_left]
  rw [e1, e2]
  dsimp only
  rw [if_pos ⟨by rw [List.length_reverse]; exact hA, hb, hk⟩, List.reverse_reverse]
  exact x_call_end hl
theorem x_stat {n y z : Nat} {As rest : List Value} (hd : decode (xB o) pc = .ok (.invokestatic n, 3)) (hf : fM (xCl o) n = some (y, z)) (hst : st = As.reverse ++ rest) (hA : As.length = xAr y) (hk : xKd y = 1) (hl : rest.length ≤ 4) : X d o pc L st w = gC (run d y As w) fun v w' => X d o (pc + 3) L (v.toList ++ rest) w' := by
  rw [X_step hd rfl]; dsimp only [stp1]; rw [hf]; dsimp only
  have e1 : st.drop (xAr y) = rest := by rw [hst, ← hA, ← List.length_reverse, List.drop_left]
  have e2 : st.take (xAr y) = As.reverse := by rw [hst, ← hA, ← List.length_reverse, List.take_left]
  rw [e1, e2]
  rw [if_pos ⟨by rw [List.length_reverse]; exact hA, hk⟩, List.reverse_reverse]
  exact x_call_end hl
theorem x_max {n : Nat} {x y : Int32} (hd : decode (xB o) pc = .ok (.invokestatic n, 3)) (hf : fM (xCl o) n = none) (hj : (xCl o, n) ∈ xJT) (hl : st.length ≤ 4) : X d o pc L (.int y :: .int x :: st) w = X d o (pc + 3) L (.int (if x < y then y else x) :: st) w := by
  rw [X_step hd rfl]; dsimp only [stp1]; rw [hf]; dsimp only [sI]; rw [if_pos hj, if_pos hl]; rfl
theorem x_spec {n y z b : Nat} {As rest : List Value} (hd : decode (xB o) pc = .ok (.invokespecial n, 3)) (hj : (xCl o, n) ∉ xOT) (hf : fM (xCl o) n = some (y, z)) (hst : st = As.reverse ++ .ref b :: rest) (hA : As.length = xAr y) (hk : xKd y = 2) (hl : rest.length ≤ 4) : X d o pc L st w = gC (run d y (.ref b :: As) w) fun v w' => X d o (pc + 3) L (v.toList ++ rest) w' := by
  rw [X_step hd rfl]; dsimp only [stp1]; rw [if_neg hj, hf]; dsimp only
  have e1 : st.drop (xAr y) = .ref b :: rest := by rw [hst, ← hA, ← List.length_reverse, List.drop_left]
  have e2 : st.take (xAr y) = As.reverse := by rw [hst, ← hA, ← List.length_reverse, List.take_left]
  rw [e1, e2]
  dsimp only
  rw [if_pos ⟨by rw [List.length_reverse]; exact hA, hk⟩, List.reverse_reverse]
  exact x_call_end hl
theorem x_obj {n a : Nat} (hd : decode (xB o) pc = .ok (.invokespecial n, 3)) (hj : (xCl o, n) ∈ xOT) (hl : st.length ≤ 4) : X d o pc L (.ref a :: st) w = X d o (pc + 3) L st w := by
  rw [X_step hd rfl]; dsimp only [stp1, sA]; rw [if_pos hj, if_pos hl]; rfl
theorem x_iret {x : Int32} {ty : FieldType} (hd : decode (xB o) pc = .ok (.ireturn, 1)) (hr : xRt o = some ty) : X d o pc L [.int x] w = if narrow ty (.int x) = .int x then some (some (.int x), w) else none := by
  rw [X_step hd rfl]; dsimp only [stp1]; rw [hr]; dsimp only
  by_cases h : narrow ty (.int x) = .int x
  · rw [if_pos h, if_pos h]
  · rw [if_neg h, if_neg h]
theorem x_ireti {x : Int32} (hd : decode (xB o) pc = .ok (.ireturn, 1)) (hr : xRt o = some .int) : X d o pc L [.int x] w = some (some (.int x), w) := by
  rw [x_iret hd hr, if_pos (show narrow .int (.int x) = .int x from rfl)]
theorem x_areta {a : Nat} {n : String} (hd : decode (xB o) pc = .ok (.areturn, 1)) (hr : xRt o = some (.object n)) : X d o pc L [.ref a] w = some (some (.ref a), w) := by
  rw [X_step hd rfl]; dsimp only [stp1]; rw [hr]
theorem x_aretn {n : String} (hd : decode (xB o) pc = .ok (.areturn, 1)) (hr : xRt o = some (.object n)) : X d o pc L [.null] w = some (some .null, w) := by
  rw [X_step hd rfl]; dsimp only [stp1]; rw [hr]
theorem x_vret (hd : decode (xB o) pc = .ok (.return_, 1)) (hr : xRt o = none) : X d o pc L [] w = some (none, w) := by
  rw [X_step hd rfl]; dsimp only [stp1]; rw [if_pos hr]
end XR
