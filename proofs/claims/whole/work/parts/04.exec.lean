/-! A machine of our own, over cells that are functions: what one method does, step by step; a call's answer is given -/
abbrev HC : Type := Nat × Nat × (Nat → Value)
abbrev Wd : Type := Nat × Nat × Nat × (Nat → Option HC)
abbrev xR : Type := Option Value × Wd
abbrev xC : Type := Nat × List (Nat × Value) × List Value × Wd
abbrev xO : Type := Option (xR ⊕ xC)
abbrev xF : Type := Nat → List Value → Wd → Option xR
def lk : List (Nat × Value) → Nat → Option Value
  | [], _ => none
  | (j, v) :: r, i => if j = i then some v else lk r i
def cat2 : Value → Bool
  | .long _ => true
  | .double _ => true
  | _ => false
def ldel : List (Nat × Value) → Nat → List (Nat × Value)
  | [], _ => []
  | (j, u) :: r, i => if j = i then ldel r i else if j + 1 = i ∧ cat2 u = true then ldel r i else (j, u) :: ldel r i
def lset : List (Nat × Value) → Nat → Value → List (Nat × Value)
  | [], i, v => [(i, v)]
  | (j, u) :: r, i, v => if j = i then (i, v) :: ldel r i else if j + 1 = i ∧ cat2 u = true then lset r i v else (j, u) :: lset r i v
def ldel2 : List (Nat × Value) → Nat → List (Nat × Value)
  | [], _ => []
  | (j, u) :: r, i => if j = i then ldel2 r i else if j = i + 1 then ldel2 r i else if j + 1 = i ∧ cat2 u = true then ldel2 r i else (j, u) :: ldel2 r i
def lset2 : List (Nat × Value) → Nat → Value → List (Nat × Value)
  | [], i, v => [(i, v)]
  | (j, u) :: r, i, v => if j = i then (i, v) :: ldel2 r i else if j = i + 1 then lset2 r i v else if j + 1 = i ∧ cat2 u = true then lset2 r i v else (j, u) :: lset2 r i v
def sI (st : List Value) (f : Int32 → List Value → xO) : xO := match st with
  | .int x :: r => f x r
  | _ => none
def sL (st : List Value) (f : Int64 → List Value → xO) : xO := match st with
  | .long x :: r => f x r
  | _ => none
def sA (st : List Value) (f : Nat → List Value → xO) : xO := match st with
  | .ref x :: r => f x r
  | _ => none
def oI (v : Option Value) (f : Int32 → xO) : xO := match v with
  | some (.int x) => f x
  | _ => none
def oL (v : Option Value) (f : Int64 → xO) : xO := match v with
  | some (.long x) => f x
  | _ => none
def oA (v : Option Value) (f : Value → xO) : xO := match v with
  | some (.ref x) => f (.ref x)
  | some .null => f .null
  | _ => none
def sA0 (st : List Value) (f : Value → List Value → xO) : xO := match st with
  | .ref x :: r => f (.ref x) r
  | .null :: r => f .null r
  | _ => none
def nx (pc : Nat) (L : List (Nat × Value)) (st : List Value) (w : Wd) : xO := some (.inr (pc, L, st, w))
def jmp (pc : Nat) (off : Int) (f : Nat → xO) : xO := match (pc : Int) + off with
  | .ofNat t => f t
  | _ => none
def kd (w : Wd) (a : Nat) : Nat := match w.2.2.2 a with
  | some c => c.1
  | none => 999
def gf (w : Wd) (a c k : Nat) : Option Value := match w.2.2.2 a with
  | some (c', _, f) => if c' = c then some (f k) else none
  | none => none
def wup (w : Wd) (a : Nat) (c : HC) : Wd := (w.1, w.2.1, w.2.2.1, fun q => if q = a then some c else w.2.2.2 q)
def pf (w : Wd) (a c k : Nat) (v : Value) : Option Wd := match w.2.2.2 a with
  | some (c', n, f) => if w.1 ≤ a ∧ c' = c then some (wup w a (c', n, updV f k v)) else none
  | none => none
def ain (j : Int32) (n : Nat) : Bool := !(decide (j < 0)) && decide (j.toNatClampNeg < n)
/-- a place of an array whose kind is between lo and hi -/
def ag (w : Wd) (a : Nat) (lo hi : Nat) (j : Int32) : Option Value := match w.2.2.2 a with
  | some (c, n, f) => if lo ≤ c ∧ c ≤ hi ∧ ain j n = true then some (f j.toNatClampNeg) else none
  | none => none
def ap (w : Wd) (a : Nat) (lo hi : Nat) (j : Int32) (v : Value) : Option Wd := match w.2.2.2 a with
  | some (c, n, f) => if w.1 ≤ a ∧ lo ≤ c ∧ c ≤ hi ∧ ain j n = true then some (wup w a (c, n, updV f j.toNatClampNeg v)) else none
  | none => none
def al (w : Wd) (a : Nat) : Option Int32 := match w.2.2.2 a with
  | some (c, n, _) => if 10 ≤ c ∧ c ≤ 16 then some (Int32.ofNat n) else none
  | none => none
/-- a new cell -/
def wnew (w : Wd) (c : HC) : Wd := (w.1, w.2.1 + 1, w.2.2.1 + c.2.1, fun q => if q = w.2.1 then some c else w.2.2.2 q)
def tck (t : Nat) (v : Value) : Bool := match t, v with
  | 0, .int _ => true
  | 1, .int x => decide (x = 0) || decide (x = 1)
  | 2, .ref _ => true
  | _, _ => false
def f2 : List (Nat × Nat × Nat) → Nat → Nat → Option Nat
  | [], _, _ => none
  | (a, b, d) :: r, c, i => if a = c ∧ b = i then some d else f2 r c i
def fM (c i : Nat) : Option (Nat × Nat) := (xRT.find? (fun q => q.1 == c && q.2.1 == i)).map (fun q => q.2.2)
def fF (c i : Nat) : Option (Nat × Nat × Nat) := (xFT.find? (fun q => q.1 == c && q.2.1 == i)).map (fun q => q.2.2)
def fK (c i : Nat) : Option Int32 := (xKT.find? (fun q => q.1 == c && q.2.1 == i)).map (fun q => q.2.2)
def iln : Instr → Nat
  | .bipush _ => 2
  | .iload _ => 2
  | .lload _ => 2
  | .aload _ => 2
  | .istore _ => 2
  | .lstore _ => 2
  | .astore _ => 2
  | .ldc _ => 2
  | .newarray _ => 2
  | .sipush _ => 3
  | .iinc _ _ => 3
  | .ifCond _ _ => 3
  | .if_icmp _ _ => 3
  | .ifnull _ => 3
  | .ifnonnull _ => 3
  | .goto _ => 3
  | .getfield _ => 3
  | .putfield _ => 3
  | .invokevirtual _ => 3
  | .invokespecial _ => 3
  | .invokestatic _ => 3
  | .new _ => 3
  | .anewarray _ => 3
  | _ => 1
def okl (i : Instr) (len : Nat) : Bool := match i with
  | .tableswitch _ _ _ _ => true
  | .lookupswitch _ _ => true
  | i => decide (len = iln i)
def ihold (c : ClassFile.Cond) (x y : Int32) : Bool := match c with
  | .eq => decide (x = y)
  | .ne => !(decide (x = y))
  | .lt => decide (x < y)
  | .ge => decide (y ≤ x)
  | .gt => decide (y < x)
  | .le => decide (x ≤ y)
/-- behind a call -/
def xcall (run : xF) (o : Nat) (args : List Value) (w : Wd) (pc : Nat) (L : List (Nat × Value)) (st : List Value) : xO :=
  if st.length ≤ 4 then match run o args w with
    | some (v, w') => nx (pc + 3) L (v.toList ++ st) w'
    | none => none
  else none
def stp1 (run : xF) (o pc : Nat) (L : List (Nat × Value)) (st : List Value) (w : Wd) (i : Instr) : xO := match i with
  | .aload_n n => oA (lk L n) fun v => nx (pc + 1) L (v :: st) w
  | .aload n => oA (lk L n) fun v => nx (pc + 2) L (v :: st) w
  | .iload_n n => oI (lk L n) fun x => nx (pc + 1) L (.int x :: st) w
  | .iload n => oI (lk L n) fun x => nx (pc + 2) L (.int x :: st) w
  | .lload_n n => oL (lk L n) fun x => nx (pc + 1) L (.long x :: st) w
  | .lload n => oL (lk L n) fun x => nx (pc + 2) L (.long x :: st) w
  | .istore_n n => sI st fun x st => if (n : Nat) < xL o then nx (pc + 1) (lset L n (.int x)) st w else none
  | .istore n => sI st fun x st => if n < xL o then nx (pc + 2) (lset L n (.int x)) st w else none
  | .astore_n n => sA0 st fun v st => if (n : Nat) < xL o then nx (pc + 1) (lset L n v) st w else none
  | .astore n => sA0 st fun v st => if n < xL o then nx (pc + 2) (lset L n v) st w else none
  | .lstore_n n => sL st fun x st => if (n : Nat) + 1 < xL o then nx (pc + 1) (lset2 L n (.long x)) st w else none
  | .lstore n => sL st fun x st => if n + 1 < xL o then nx (pc + 2) (lset2 L n (.long x)) st w else none
  | .iinc n k => oI (lk L n) fun x => if n < xL o then nx (pc + 3) (lset L n (.int (x + Int32.ofInt k))) st w else none
  | .iconst n => nx (pc + 1) L (.int (Int32.ofInt n) :: st) w
  | .bipush n => nx (pc + 2) L (.int (Int8.ofInt n).toInt32 :: st) w
  | .sipush n => nx (pc + 3) L (.int (Int16.ofInt n).toInt32 :: st) w
  | .lconst n => nx (pc + 1) L (.long (Int64.ofNat (n : Nat)) :: st) w
  | .ldc n => match fK (xCl o) n with
    | some x => nx (pc + 2) L (.int x :: st) w
    | none => none
  | .aconst_null => nx (pc + 1) L (.null :: st) w
  | .dup => match st with
    | v :: st => if cat2 v = false then nx (pc + 1) L (v :: v :: st) w else none
    | _ => none
  | .dup2 => match st with
    | v :: u :: st => if cat2 v = false ∧ cat2 u = false then nx (pc + 1) L (v :: u :: v :: u :: st) w else none
    | _ => none
  | .pop => match st with
    | v :: st => if cat2 v = false then nx (pc + 1) L st w else none
    | _ => none
  | .iadd => sI st fun y st => sI st fun x st => nx (pc + 1) L (.int (x + y) :: st) w
  | .isub => sI st fun y st => sI st fun x st => nx (pc + 1) L (.int (x - y) :: st) w
  | .imul => sI st fun y st => sI st fun x st => nx (pc + 1) L (.int (x * y) :: st) w
  | .idiv => sI st fun y st => sI st fun x st => if y = 0 then none else nx (pc + 1) L (.int (x / y) :: st) w
  | .iand => sI st fun y st => sI st fun x st => nx (pc + 1) L (.int (x &&& y) :: st) w
  | .ishr => sI st fun y st => sI st fun x st => nx (pc + 1) L (.int (x >>> (y &&& 31)) :: st) w
  | .ineg => sI st fun x st => nx (pc + 1) L (.int (-x) :: st) w
  | .i2c => sI st fun x st => nx (pc + 1) L (.int (x.toUInt32 % 65536).toInt32 :: st) w
  | .land => sL st fun y st => sL st fun x st => nx (pc + 1) L (.long (x &&& y) :: st) w
  | .lor => sL st fun y st => sL st fun x st => nx (pc + 1) L (.long (x ||| y) :: st) w
  | .lshl => sI st fun y st => sL st fun x st => nx (pc + 1) L (.long (x <<< (y.toInt64 &&& 63)) :: st) w
  | .lshr => sI st fun y st => sL st fun x st => nx (pc + 1) L (.long (x >>> (y.toInt64 &&& 63)) :: st) w
  | .lcmp => sL st fun y st => sL st fun x st => nx (pc + 1) L (.int (if y < x then 1 else if x = y then 0 else -1) :: st) w
  | .ifCond c off => sI st fun x st => jmp pc off fun t => if ihold c x 0 = true then nx t L st w else nx (pc + 3) L st w
  | .if_icmp c off => sI st fun y st => sI st fun x st => jmp pc off fun t => if ihold c x y = true then nx t L st w else nx (pc + 3) L st w
  | .ifnull off => match st with
    | .ref _ :: st => nx (pc + 3) L st w
    | .null :: st => jmp pc off fun t => nx t L st w
    | _ => none
  | .ifnonnull off => match st with
    | .ref _ :: st => jmp pc off fun t => nx t L st w
    | .null :: st => nx (pc + 3) L st w
    | _ => none
  | .goto off => jmp pc off fun t => nx t L st w
  | .tableswitch dflt lo hi offs => sI st fun x st =>
    if x.toInt < lo ∨ hi < x.toInt then jmp pc dflt fun t => nx t L st w else match offs[(x.toInt - lo).toNat]? with
      | some off => jmp pc off fun t => nx t L st w
      | none => none
  | .lookupswitch dflt ps => sI st fun x st =>
    if (ps.toList.zip (ps.toList.drop 1)).all (fun (a, next) => a.1 < next.1) = true then jmp pc (Op.lookupswitch.offset ps.toList dflt x.toInt) fun t => nx t L st w else none
  | .getfield n => match fF (xCl o) n with
    | some (ci, k, _) => sA st fun a st => match gf w a ci k with
      | some v => nx (pc + 3) L (v :: st) w
      | none => none
    | none => none
  | .putfield n => match fF (xCl o) n with
    | some (ci, k, t) => match st with
      | v :: st => sA st fun a st => if tck t v = true ∧ ((xTC ci k).2.2.2 = true → xKd o = 2 ∧ xCl o = ci) then match pf w a ci k v with
        | some w' => nx (pc + 3) L st w'
        | none => none
        else none
      | _ => none
    | none => none
  | .iaload => sI st fun j st => sA st fun a st => match ag w a 10 10 j with
    | some v => nx (pc + 1) L (v :: st) w
    | none => match ag w a 16 16 j with
      | some v => nx (pc + 1) L (v :: st) w
      | none => none
  | .caload => sI st fun j st => sA st fun a st => match ag w a 11 11 j with
    | some v => nx (pc + 1) L (v :: st) w
    | none => none
  | .aaload => sI st fun j st => sA st fun a st => match ag w a 12 15 j with
    | some v => nx (pc + 1) L (v :: st) w
    | none => none
  | .iastore => sI st fun x st => sI st fun j st => sA st fun a st => match ap w a 10 10 j (.int x) with
    | some w' => nx (pc + 1) L st w'
    | none => none
  | .castore => sI st fun x st => sI st fun j st => sA st fun a st => match ap w a 11 11 j (narrow .char (.int x)) with
    | some w' => nx (pc + 1) L st w'
    | none => none
  | .aastore => sA st fun v st => sI st fun j st => sA st fun a st => if kd w v = xEl (kd w a) then match ap w a 12 15 j (.ref v) with
    | some w' => nx (pc + 1) L st w'
    | none => none
    else none
  | .arraylength => sA st fun a st => match al w a with
    | some n => nx (pc + 1) L (.int n :: st) w
    | none => none
  | .new n => match f2 xNT (xCl o) n with
    | some ci => nx (pc + 3) L (.ref w.2.1 :: st) (wnew w (ci, xNF ci, fun k => defaultValue (xTy ci k)))
    | none => none
  | .newarray t => sI st fun n st => if ¬ n < 0 ∧ n.toNatClampNeg ≤ 100000 then
      (if t = .int then nx (pc + 2) L (.ref w.2.1 :: st) (wnew w (10, n.toNatClampNeg, fun _ => .int 0))
      else if t = .char then nx (pc + 2) L (.ref w.2.1 :: st) (wnew w (11, n.toNatClampNeg, fun _ => .int 0)) else none) else none
  | .anewarray i => match f2 xAT (xCl o) i with
    | some k => sI st fun n st => if ¬ n < 0 ∧ n.toNatClampNeg ≤ 100000 then nx (pc + 3) L (.ref w.2.1 :: st) (wnew w (k, n.toNatClampNeg, fun _ => .null)) else none
    | none => none
  | .invokevirtual n => match fM (xCl o) n with
    | some (y, _) => match st.drop (xAr y) with
      | .ref b :: rest => if (st.take (xAr y)).length = xAr y ∧ kd w b = xCl y ∧ xKd y = 0 then xcall run y (.ref b :: (st.take (xAr y)).reverse) w pc L rest else none
      | _ => none
    | none => none
  | .invokestatic n => match fM (xCl o) n with
    | some (y, _) => if (st.take (xAr y)).length = xAr y ∧ xKd y = 1 then xcall run y (st.take (xAr y)).reverse w pc L (st.drop (xAr y)) else none
    | none => if (xCl o, n) ∈ xJT then sI st fun y st => sI st fun x st => if st.length ≤ 4 then nx (pc + 3) L (.int (if x < y then y else x) :: st) w else none else none
  | .invokespecial n => if (xCl o, n) ∈ xOT then sA st fun _ st => if st.length ≤ 4 then nx (pc + 3) L st w else none else match fM (xCl o) n with
    | some (y, _) => match st.drop (xAr y) with
      | .ref b :: rest => if (st.take (xAr y)).length = xAr y ∧ xKd y = 2 then xcall run y (.ref b :: (st.take (xAr y)).reverse) w pc L rest else none
      | _ => none
    | none => none
  | .ireturn => match st with
    | [.int x] => match xRt o with
      | some ty => if narrow ty (.int x) = .int x then some (.inl (some (.int x), w)) else none
      | none => none
    | _ => none
  | .areturn => match st with
    | [.ref a] => match xRt o with
      | some (.object _) => some (.inl (some (.ref a), w))
      | some (.array _) => some (.inl (some (.ref a), w))
      | _ => none
    | [.null] => match xRt o with
      | some (.object _) => some (.inl (some .null, w))
      | some (.array _) => some (.inl (some .null, w))
      | _ => none
    | _ => none
  | .return_ => match st with
    | [] => if xRt o = none then some (.inl (none, w)) else none
    | _ => none
  | _ => none
def stp (run : xF) (o pc : Nat) (L : List (Nat × Value)) (st : List Value) (w : Wd) (i : Instr) (len : Nat) : xO := if okl i len = true then stp1 run o pc L st w i else none
def xst (run : xF) (o : Nat) (c : xC) : xO := match decode (xB o) c.1 with
  | .ok (i, len) => stp run o c.1 c.2.1 c.2.2.1 c.2.2.2 i len
  | .error _ => none
def ex (run : xF) (o : Nat) : Nat → xC → Option xR
  | 0, _ => none
  | n + 1, c => match xst run o c with
    | none => none
    | some (.inl r) => some r
    | some (.inr c') => ex run o n c'
theorem ex_mono {run : xF} {o : Nat} : ∀ (n : Nat) (c : xC) (r : xR), ex run o n c = some r → ex run o (n + 1) c = some r := by
  intro n
  induction n with
  | zero => intro c r h; simp [ex] at h
  | succ n ih =>
    intro c r h
    rw [ex] at h ⊢
    cases hs : xst run o c with
    | none => rw [hs] at h; simp at h
    | some z =>
      rw [hs] at h
      cases z with
      | inl r' => simpa using h
      | inr c' => exact ih c' r h
theorem ex_le {run : xF} {o n k : Nat} {c : xC} {r : xR} (hnk : n ≤ k) (h : ex run o n c = some r) : ex run o k c = some r := by
  induction hnk with
  | refl => exact h
  | step _ ih => exact ex_mono _ _ _ ih
noncomputable def X0 (run : xF) (o : Nat) (c : xC) : Option xR := @dite (Option xR) (∃ (n : Nat) (r : xR), ex run o n c = some r) (Classical.propDecidable _) (fun h => some h.choose_spec.choose) (fun _ => none)
theorem X0_iff {run : xF} {o : Nat} {c : xC} {r : xR} : X0 run o c = some r ↔ ∃ n, ex run o n c = some r := by
  unfold X0
  constructor
  · intro h
    split at h
    next hh =>
      have e := hh.choose_spec.choose_spec
      cases h
      exact ⟨_, e⟩
    next => cases h
  · rintro ⟨n, h⟩
    have hh : ∃ (n : Nat) (r : xR), ex run o n c = some r := ⟨n, r, h⟩
    rw [dif_pos hh]
    have e := hh.choose_spec.choose_spec
    have a := ex_le (Nat.le_max_left n hh.choose) h
    have b := ex_le (Nat.le_max_right n hh.choose) e
    rw [a] at b
    exact b.symm
theorem X0_eq (run : xF) (o : Nat) (c : xC) : X0 run o c = match xst run o c with
    | none => none
    | some (.inl r) => some r
    | some (.inr c') => X0 run o c' := by
  apply Option.ext
  intro r
  rw [X0_iff]
  cases hs : xst run o c with
  | none =>
    constructor
    · rintro ⟨n, h⟩
      cases n with
      | zero => simp [ex] at h
      | succ n => rw [ex, hs] at h; simp at h
    · intro h; cases h
  | some z =>
    cases z with
    | inl r' =>
      constructor
      · rintro ⟨n, h⟩
        cases n with
        | zero => simp [ex] at h
        | succ n => rw [ex, hs] at h; exact h
      · intro h; exact ⟨1, by rw [ex, hs]; exact h⟩
    | inr c' =>
      rw [X0_iff]
      constructor
      · rintro ⟨n, h⟩
        cases n with
        | zero => simp [ex] at h
        | succ n => rw [ex, hs] at h; exact ⟨n, h⟩
      · rintro ⟨n, h⟩; exact ⟨n + 1, by rw [ex, hs]; exact h⟩
/-- a method run at depth d: its calls are of less depth -/
noncomputable def run : Nat → xF
  | 0, _, _, _ => none
  | d + 1, o, args, w => if (lg_sl args).length ≤ xL o then X0 (run d) o (0, lv_args 0 args, [], w) else none
/-- the method o, from pc on, its calls at depth d -/
noncomputable def X (d o pc : Nat) (L : List (Nat × Value)) (st : List Value) (w : Wd) : Option xR := X0 (run d) o (pc, L, st, w)
theorem run_X (d o : Nat) (args : List Value) (w : Wd) (h : (lg_sl args).length ≤ xL o) : run (d + 1) o args w = X d o 0 (lv_args 0 args) [] w := if_pos h
