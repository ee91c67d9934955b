/-! ===== a small machine over plain numbers: locals, stack, and a heap of ints and references by numbers of objects ===== -/
/-- the objects: how many there are (the script is the object 0), how many slots were made, each one's kind and length, its references -/
abbrev Gt : Type := Nat × Nat × (Nat → Nat × Nat) × (Nat → Nat → Option Nat)
/-- what the objects hold of ints -/
abbrev It : Type := Nat → Nat → Int32
/-- method, pc, locals, stack, objects, ints -/
abbrev Cf : Type := Nat × Nat × List (Option Value) × List Value × Gt × It
abbrev Rs : Type := Option Value × Gt × It
/-- an end (or nothing), one step on, or a call and where it goes on -/
abbrev Sr : Type := Option Rs ⊕ (Cf ⊕ (Cf × Nat × Nat × List (Option Value) × List Value))
/-- kinds: a class's number; 50 int[], 51 boolean[], 52 char[], 53 Layout[], 54 Device[], 60 the script, 99 nothing -/
def kd (G : Gt) (o : Nat) : Nat := if o = 0 then 60 else if o < G.1 then (G.2.2.1 o).1 else 99
def ln (G : Gt) (o : Nat) : Nat := (G.2.2.1 o).2
def rf (G : Gt) (o k : Nat) : Option Nat := G.2.2.2 o k
def uI (I : It) (o k : Nat) (x : Int32) : It := fun a j => if a = o then (if j = k then x else I a j) else I a j
def uG (G : Gt) (o k r : Nat) : Gt := (G.1, G.2.1, G.2.2.1, fun a j => if a = o then (if j = k then some r else G.2.2.2 a j) else G.2.2.2 a j)
def nG (G : Gt) (kk len : Nat) : Gt := (G.1 + 1, G.2.1 + len, fun a => if a = G.1 then (kk, len) else G.2.2.1 a, fun a j => if a = G.1 then none else G.2.2.2 a j)
def nI0 (G : Gt) (I : It) : It := fun a j => if a = G.1 then 0 else I a j
def cpI (I : It) (a0 a1 sp dp n : Nat) : It := fun a j => if a = a1 then va_cpy (I a0) (I a1) sp dp n j else I a j
def inb (i : Int32) (n : Nat) : Bool := decide (0 ≤ i.toInt) && decide (i.toInt < (n : Int))
def ix (i : Int32) : Nat := i.toNatClampNeg
def b01 (x : Int32) : Bool := decide (x = 0) || decide (x = 1)
def cats (st : List Value) : Nat := (st.map fun v => v.category).sum
/-- locals: nothing is stored behind a long's first half -/
def isJ (x : Option (Option Value)) : Bool := match x with
  | some (some v) => decide (v.category = 2)
  | _ => false
def sL (ls : List (Option Value)) (i : Nat) (v : Value) : Option (List (Option Value)) :=
  match decide (i < ls.length) && (decide (i = 0) || !isJ ls[i - 1]?) with
  | true => some (ls.set i (some v))
  | false => none
def sL2 (ls : List (Option Value)) (i : Nat) (v : Value) : Option (List (Option Value)) :=
  match decide (i + 1 < ls.length) && (decide (i = 0) || !isJ ls[i - 1]?) && !isJ ls[i + 1]? with
  | true => some ((ls.set i (some v)).set (i + 1) none)
  | false => none
def aL : List Value → List (Option Value)
  | [] => []
  | .long x :: vs => some (.long x) :: none :: aL vs
  | .double x :: vs => some (.double x) :: none :: aL vs
  | v :: vs => some v :: aL vs
def eL (n : Nat) (vs : List Value) : List (Option Value) := aL vs ++ List.replicate (n - (aL vs).length) none
/-- lengths of the instructions that this machine knows -/
def ilen (i : Instr) : Nat := match i with
  | .aaload | .aastore | .aload_n _ | .areturn | .arraylength | .astore_n _ | .baload | .bastore | .caload | .castore | .dup | .dup2 | .i2c | .i2l | .iadd | .iaload | .iand | .iastore | .iconst _ | .idiv | .iload_n _ | .imul | .irem | .ireturn | .istore_n _ | .ishr | .isub | .ixor | .l2i | .land | .lcmp | .lconst _ | .lload_n _ | .lor | .lshl | .lshr | .lstore_n _ | .lushr | .pop | .return_ => 1
  | .aload _ | .astore _ | .bipush _ | .iload _ | .istore _ | .ldc _ | .lload _ | .lstore _ | .newarray _ => 2
  | .anewarray _ | .getfield _ | .goto _ | .if_icmp _ _ | .ifCond _ _ | .iinc _ _ | .invokespecial _ | .invokestatic _ | .invokevirtual _ | .ldc2_w _ | .new _ | .putfield _ | .sipush _ => 3
  | _ => 0
def go (m pc : Nat) (ls : List (Option Value)) (st : List Value) (G : Gt) (I : It) : Sr := .inr (.inl (m, pc, ls, st, G, I))
def no : Sr := .inl none
def gd (c : Bool) (s : Sr) : Sr := match c with | true => s | false => no
def ldI (o : Option (Option Value)) (m pc : Nat) (ls : List (Option Value)) (st : List Value) (G : Gt) (I : It) : Sr := match o with
  | some (some (.int x)) => go m pc ls (.int x :: st) G I
  | _ => no
def ldJ (o : Option (Option Value)) (m pc : Nat) (ls : List (Option Value)) (st : List Value) (G : Gt) (I : It) : Sr := match o with
  | some (some (.long x)) => go m pc ls (.long x :: st) G I
  | _ => no
def ldA (o : Option (Option Value)) (m pc : Nat) (ls : List (Option Value)) (st : List Value) (G : Gt) (I : It) : Sr := match o with
  | some (some (.ref x)) => go m pc ls (.ref x :: st) G I
  | _ => no
def stI (i m pc : Nat) (ls : List (Option Value)) (st : List Value) (G : Gt) (I : It) : Sr := match st with
  | .int x :: rest => match sL ls i (.int x) with
    | some ls' => go m pc ls' rest G I
    | none => no
  | _ => no
def stA (i m pc : Nat) (ls : List (Option Value)) (st : List Value) (G : Gt) (I : It) : Sr := match st with
  | .ref x :: rest => match sL ls i (.ref x) with
    | some ls' => go m pc ls' rest G I
    | none => no
  | _ => no
def stJ (i m pc : Nat) (ls : List (Option Value)) (st : List Value) (G : Gt) (I : It) : Sr := match st with
  | .long x :: rest => match sL2 ls i (.long x) with
    | some ls' => go m pc ls' rest G I
    | none => no
  | _ => no
def tg (pc : Nat) (off : Int) : Nat := ((pc : Int) + off).toNat
def tgok (pc : Nat) (off : Int) : Bool := decide (0 ≤ (pc : Int) + off)
def c0 (c : Jvm.ClassFile.Cond) (x : Int32) : Bool := match c with
  | .eq => decide (x = 0) | .ne => !decide (x = 0) | .lt => decide (x < 0) | .ge => decide (0 ≤ x) | .gt => decide (0 < x) | .le => decide (x ≤ 0)
def c2 (c : Jvm.ClassFile.Cond) (x y : Int32) : Bool := match c with
  | .eq => decide (x = y) | .ne => !decide (x = y) | .lt => decide (x < y) | .ge => decide (y ≤ x) | .gt => decide (y < x) | .le => decide (x ≤ y)
def br (c : Bool) (m pc : Nat) (off : Int) (ls : List (Option Value)) (st : List Value) (G : Gt) (I : It) : Sr :=
  gd (tgok pc off) (match c with | true => go m (tg pc off) ls st G I | false => go m (pc + 3) ls st G I)
/-- what a field's kind takes -/
def pf (m o ci k : Nat) (pc : Nat) (ls : List (Option Value)) (v : Value) (st : List Value) (G : Gt) (I : It) : Sr := match fT ci k, v with
  | 0, .int x => go m pc ls st G (uI I o k x)
  | 1, .int x => gd (b01 x) (go m pc ls st G (uI I o k x))
  | 2, .ref r => go m pc ls st (uG G o k r) I
  | _, _ => no
def gf (G : Gt) (I : It) (ci o k : Nat) : Value := if fT ci k = 2 then va_rf (rf G o k) else .int (I o k)
def akd (a : ArrayType) : Nat := match a with | .int => 50 | .boolean => 51 | .char => 52 | _ => 99
/-- a call: the arguments are taken off, the rest is small, the room is there -/
def cal (m m' pc : Nat) (vs : List Value) (ls : List (Option Value)) (rest : List Value) (G : Gt) (I : It) : Sr :=
  gd (decide (cats rest ≤ 8) && (decide (pF m' + 1 ≤ pF m) && decide (8 + (pL m' + 11) + pW m' ≤ pW m) && decide ((aL vs).length ≤ pL m'))) (.inr (.inr ((m', 0, eL (pL m') vs, [], G, I), m, pc + 3, ls, rest)))
def rtI (m : Nat) (v : Int32) : Bool := decide (pR m = some .int) || (decide (pR m = some .boolean) && b01 v)
def rtA (m : Nat) : Bool := match pR m with | some (.object _) => true | some (.array _) => true | _ => false
def opc : List (Nat × Nat) := oTl
def sdi (i : Instr) (m pc : Nat) (ls : List (Option Value)) (st : List Value) (G : Gt) (I : It) : Sr := match i with
  | .iconst n => go m (pc + 1) ls (.int (Int32.ofInt n) :: st) G I
  | .bipush n => go m (pc + 2) ls (.int ((Int8.ofInt n).toInt32) :: st) G I
  | .sipush n => go m (pc + 3) ls (.int ((Int16.ofInt n).toInt32) :: st) G I
  | .lconst n => go m (pc + 1) ls (.long (Int64.ofNat (n : Nat)) :: st) G I
  | .ldc2_w k => match lL (pC m) k with
    | some v => go m (pc + 3) ls (.long v :: st) G I
    | none => no
  | .ldc k => match cL (pC m) k with
    | some v => go m (pc + 2) ls (.int v :: st) G I
    | none => no
  | .iload_n k => ldI ls[(k : Nat)]? m (pc + 1) ls st G I
  | .iload k => ldI ls[k]? m (pc + 2) ls st G I
  | .lload_n k => ldJ ls[(k : Nat)]? m (pc + 1) ls st G I
  | .lload k => ldJ ls[k]? m (pc + 2) ls st G I
  | .aload_n k => ldA ls[(k : Nat)]? m (pc + 1) ls st G I
  | .aload k => ldA ls[k]? m (pc + 2) ls st G I
  | .istore_n k => stI k m (pc + 1) ls st G I
  | .istore k => stI k m (pc + 2) ls st G I
  | .lstore_n k => stJ k m (pc + 1) ls st G I
  | .lstore k => stJ k m (pc + 2) ls st G I
  | .astore_n k => stA k m (pc + 1) ls st G I
  | .astore k => stA k m (pc + 2) ls st G I
  | .iinc k n => match ls[k]? with
    | some (some (.int x)) => match sL ls k (.int (x + Int32.ofInt n)) with
      | some ls' => go m (pc + 3) ls' st G I
      | none => no
    | _ => no
  | .iadd => match st with | .int y :: .int x :: r => go m (pc + 1) ls (.int (x + y) :: r) G I | _ => no
  | .isub => match st with | .int y :: .int x :: r => go m (pc + 1) ls (.int (x - y) :: r) G I | _ => no
  | .imul => match st with | .int y :: .int x :: r => go m (pc + 1) ls (.int (x * y) :: r) G I | _ => no
  | .iand => match st with | .int y :: .int x :: r => go m (pc + 1) ls (.int (x &&& y) :: r) G I | _ => no
  | .ishr => match st with | .int y :: .int x :: r => go m (pc + 1) ls (.int (x >>> (y &&& 31)) :: r) G I | _ => no
  | .ixor => match st with | .int y :: .int x :: r => go m (pc + 1) ls (.int (x ^^^ y) :: r) G I | _ => no
  | .idiv => match st with | .int y :: .int x :: r => gd (!decide (y = 0)) (go m (pc + 1) ls (.int (x / y) :: r) G I) | _ => no
  | .irem => match st with | .int y :: .int x :: r => gd (!decide (y = 0)) (go m (pc + 1) ls (.int (x - x / y * y) :: r) G I) | _ => no
  | .land => match st with | .long y :: .long x :: r => go m (pc + 1) ls (.long (x &&& y) :: r) G I | _ => no
  | .lor => match st with | .long y :: .long x :: r => go m (pc + 1) ls (.long (x ||| y) :: r) G I | _ => no
  | .lshl => match st with | .int y :: .long x :: r => go m (pc + 1) ls (.long (x <<< (y.toInt64 &&& 63)) :: r) G I | _ => no
  | .lshr => match st with | .int y :: .long x :: r => go m (pc + 1) ls (.long (x >>> (y.toInt64 &&& 63)) :: r) G I | _ => no
  | .lushr => match st with | .int y :: .long x :: r => go m (pc + 1) ls (.long ((x.toUInt64 >>> (y.toInt64.toUInt64 &&& Int64.toUInt64 63)).toInt64) :: r) G I | _ => no
  | .lcmp => match st with | .long y :: .long x :: r => go m (pc + 1) ls (.int (lg_cmp x y) :: r) G I | _ => no
  | .i2l => match st with | .int x :: r => go m (pc + 1) ls (.long x.toInt64 :: r) G I | _ => no
  | .l2i => match st with | .long x :: r => go m (pc + 1) ls (.int x.toInt32 :: r) G I | _ => no
  | .i2c => match st with | .int x :: r => go m (pc + 1) ls (.int (x.toUInt32 % 65536).toInt32 :: r) G I | _ => no
  | .dup => match st with | .int x :: r => go m (pc + 1) ls (.int x :: .int x :: r) G I | .ref x :: r => go m (pc + 1) ls (.ref x :: .ref x :: r) G I | _ => no
  | .dup2 => match st with | .int x :: .ref y :: r => go m (pc + 1) ls (.int x :: .ref y :: .int x :: .ref y :: r) G I | _ => no
  | .pop => match st with | .int _ :: r => go m (pc + 1) ls r G I | _ => no
  | .goto off => gd (tgok pc off) (go m (tg pc off) ls st G I)
  | .ifCond c off => match st with | .int x :: r => br (c0 c x) m pc off ls r G I | _ => no
  | .if_icmp c off => match st with | .int y :: .int x :: r => br (c2 c x y) m pc off ls r G I | _ => no
  | .tableswitch d lo hi offs => match st with
    | .int x :: r => if x.toInt < lo ∨ hi < x.toInt then gd (tgok pc d) (go m (tg pc d) ls r G I) else match offs[(x.toInt - lo).toNat]? with
      | some off => gd (tgok pc off) (go m (tg pc off) ls r G I)
      | none => no
    | _ => no
  | .arraylength => match st with
    | .ref a :: r => gd ((decide (50 ≤ kd G a) && decide (kd G a ≤ 54)) || decide (a = 0)) (go m (pc + 1) ls (.int (Int32.ofNat (ln G a)) :: r) G I)
    | _ => no
  | .iaload => match st with
    | .int i :: .ref a :: r => gd ((decide (kd G a = 50) || decide (a = 0)) && inb i (ln G a)) (go m (pc + 1) ls (.int (I a (ix i)) :: r) G I)
    | _ => no
  | .baload => match st with
    | .int i :: .ref a :: r => gd (decide (kd G a = 51) && inb i (ln G a)) (go m (pc + 1) ls (.int (I a (ix i)) :: r) G I)
    | _ => no
  | .caload => match st with
    | .int i :: .ref a :: r => gd (decide (kd G a = 52) && inb i (ln G a)) (go m (pc + 1) ls (.int (I a (ix i)) :: r) G I)
    | _ => no
  | .aaload => match st with
    | .int i :: .ref a :: r => gd ((decide (kd G a = 53) || decide (kd G a = 54)) && inb i (ln G a)) (go m (pc + 1) ls (va_rf (rf G a (ix i)) :: r) G I)
    | _ => no
  | .iastore => match st with
    | .int x :: .int i :: .ref a :: r => gd (decide (kd G a = 50) && inb i (ln G a)) (go m (pc + 1) ls r G (uI I a (ix i) x))
    | _ => no
  | .bastore => match st with
    | .int x :: .int i :: .ref a :: r => gd (decide (kd G a = 51) && inb i (ln G a) && b01 x) (go m (pc + 1) ls r G (uI I a (ix i) x))
    | _ => no
  | .castore => match st with
    | .int x :: .int i :: .ref a :: r => gd (decide (kd G a = 52) && inb i (ln G a) && decide (0 ≤ x.toInt ∧ x.toInt ≤ 65535)) (go m (pc + 1) ls r G (uI I a (ix i) x))
    | _ => no
  | .aastore => match st with
    | .ref x :: .int i :: .ref a :: r => gd (((decide (kd G a = 53) && decide (kd G x = 1)) || (decide (kd G a = 54) && decide (kd G x = 0))) && inb i (ln G a)) (go m (pc + 1) ls r (uG G a (ix i) x) I)
    | _ => no
  | .getfield k => match st with
    | .ref o :: r => gd (decide (kd G o = (fL (pC m) k).1) && decide ((fL (pC m) k).1 < 7)) (go m (pc + 3) ls (gf G I (fL (pC m) k).1 o (fL (pC m) k).2 :: r) G I)
    | _ => no
  | .putfield k => match st with
    | v :: .ref o :: r => gd (decide (kd G o = (fL (pC m) k).1) && decide ((fL (pC m) k).1 < 7) && (!fF (fL (pC m) k).1 (fL (pC m) k).2 || (decide (pK m = 2) && decide (pC m = (fL (pC m) k).1)))) (pf m o (fL (pC m) k).1 (fL (pC m) k).2 (pc + 3) ls v r G I)
    | _ => no
  | .new k => gd (decide (kL (pC m) k < 7)) (go m (pc + 3) ls (.ref G.1 :: st) (nG G (kL (pC m) k) (clN (kL (pC m) k))) (nI0 G I))
  | .newarray t => match st with
    | .int n :: r => gd (decide (akd t < 60) && decide (0 ≤ n.toInt ∧ n.toInt ≤ 1000)) (go m (pc + 2) ls (.ref G.1 :: r) (nG G (akd t) (ix n)) (nI0 G I))
    | _ => no
  | .anewarray k => match st with
    | .int n :: r => gd (decide (kL (pC m) k ≤ 1) && decide (0 ≤ n.toInt ∧ n.toInt ≤ 1000)) (go m (pc + 3) ls (.ref G.1 :: r) (nG G (54 - kL (pC m) k) (ix n)) (nI0 G I))
    | _ => no
  | .invokevirtual k => match (mL (pC m) k).2, st.drop (pN (mL (pC m) k).1) with
    | 0, .ref b :: rest => gd (decide (kd G b = pC (mL (pC m) k).1) && decide ((st.take (pN (mL (pC m) k).1)).length = pN (mL (pC m) k).1)) (cal m (mL (pC m) k).1 pc (.ref b :: (st.take (pN (mL (pC m) k).1)).reverse) ls rest G I)
    | _, _ => no
  | .invokestatic k =>
    if (pC m, k) ∈ aTl then match st with
      | .int n :: .int dp :: .ref a1 :: .int sp :: .ref a0 :: rest => gd (decide (cats rest ≤ 8) && decide (1 ≤ pF m) && decide (26 ≤ pW m) && (decide (kd G a0 = kd G a1) && decide (kd G a0 = 50)) && decide (0 ≤ sp.toInt) && decide (0 ≤ dp.toInt) && decide (0 ≤ n.toInt) && decide (ix sp + ix n ≤ ln G a0) && decide (ix dp + ix n ≤ ln G a1)) (go m (pc + 3) ls rest G (cpI I a0 a1 (ix sp) (ix dp) (ix n)))
      | _ => no
    else gd (decide ((mL (pC m) k).2 = 1 ∨ (mL (pC m) k).2 = 3) && decide ((st.take (pN (mL (pC m) k).1)).length = pN (mL (pC m) k).1)) (cal m (mL (pC m) k).1 pc ((st.take (pN (mL (pC m) k).1)).reverse) ls (st.drop (pN (mL (pC m) k).1)) G I)
  | .invokespecial k =>
    if (pC m, k) ∈ oTl then match st with
      | .ref _ :: rest => gd (decide (cats rest ≤ 8) && decide (1 ≤ pF m) && decide (20 ≤ pW m)) (go m (pc + 3) ls rest G I)
      | _ => no
    else match st.drop (pN (mL (pC m) k).1) with
      | .ref b :: rest => gd (decide ((mL (pC m) k).2 = 2 ∨ (mL (pC m) k).2 = 4) && decide ((st.take (pN (mL (pC m) k).1)).length = pN (mL (pC m) k).1)) (cal m (mL (pC m) k).1 pc (.ref b :: (st.take (pN (mL (pC m) k).1)).reverse) ls rest G I)
      | _ => no
  | .ireturn => match st with | [.int v] => gd (rtI m v) (.inl (some (some (.int v), G, I))) | _ => no
  | .areturn => match st with | [.ref v] => gd (rtA m) (.inl (some (some (.ref v), G, I))) | _ => no
  | .return_ => match st with | [] => gd (decide (pR m = none)) (.inl (some (none, G, I))) | _ => no
  | _ => no
def sd (c : Cf) : Sr := match decode (pB c.1) c.2.1 with
  | .ok (i, n) => gd (decide (ilen i = n) || (match i with | .tableswitch _ _ _ _ => true | _ => false)) (sdi i c.1 c.2.1 c.2.2.1 c.2.2.2.1 c.2.2.2.2.1 c.2.2.2.2.2)
  | _ => no
def rn (g : Cf → Option Rs) (s : Sr) : Option Rs := match s with
  | .inl r => r
  | .inr (.inl c') => g c'
  | .inr (.inr (c', m, pc, ls, rest)) => match g c' with
    | none => none
    | some x => g (m, pc, ls, x.1.toList ++ rest, x.2.1, x.2.2)
def run : Nat → Cf → Option Rs
  | 0, _ => none
  | f + 1, c => rn (run f) (sd c)
theorem run_mono : ∀ (f : Nat) (c : Cf) (x : Rs), run f c = some x → run (f + 1) c = some x := by
  intro f
  induction f with
  | zero => intro c x h; simp [run] at h
  | succ f ih =>
    intro c x h
    rw [run] at h ⊢
    cases hs : sd c with
    | inl r => rw [hs] at h; exact h
    | inr q =>
      cases q with
      | inl c' => rw [hs] at h; exact ih c' x h
      | inr q =>
        obtain ⟨c', m, pc, ls, rest⟩ := q
        rw [hs] at h
        simp only [rn] at h ⊢
        cases hr : run f c' with
        | none => rw [hr] at h; cases h
        | some y =>
          rw [hr] at h
          rw [ih c' y hr]
          exact ih _ x h
theorem run_le {f g : Nat} (h : f ≤ g) {c : Cf} {x : Rs} (hr : run f c = some x) : run g c = some x := by
  induction h with
  | refl => exact hr
  | step _ ih => exact run_mono _ _ _ ih
theorem run_det {f g : Nat} {c : Cf} {x y : Rs} (h1 : run f c = some x) (h2 : run g c = some y) : x = y := by
  have a := run_le (Nat.le_max_left f g) h1
  have b := run_le (Nat.le_max_right f g) h2
  rw [a] at b
  exact Option.some.inj b
/-- what a run comes to, however long it takes -/
noncomputable def ev (c : Cf) : Option Rs := @dite _ (∃ x, ∃ f, run f c = some x) (Classical.propDecidable _) (fun h => some (Classical.choose h)) (fun _ => none)
theorem ev_iff {c : Cf} {x : Rs} : ev c = some x ↔ ∃ f, run f c = some x := by
  unfold ev
  by_cases h : ∃ x, ∃ f, run f c = some x
  · rw [dif_pos h]
    have hc := Classical.choose_spec h
    constructor
    · intro e
      rw [← Option.some.inj e]
      exact hc
    · rintro ⟨f, hf⟩
      obtain ⟨g, hg⟩ := hc
      rw [run_det hg hf]
  · rw [dif_neg h]
    constructor
    · intro e; cases e
    · intro e; exact absurd ⟨x, e⟩ h
theorem opt_ext {α : Type} {a b : Option α} (h : ∀ x, a = some x ↔ b = some x) : a = b := by
  cases a with
  | none =>
    cases b with
    | none => rfl
    | some y => exact absurd ((h y).mpr rfl) (by simp)
  | some x => exact ((h x).mp rfl).symm
theorem ev_ret {c : Cf} {r : Option Rs} (h : sd c = .inl r) : ev c = r := by
  refine opt_ext fun x => ?_
  rw [ev_iff]
  constructor
  · rintro ⟨f, hf⟩
    cases f with
    | zero => simp [run] at hf
    | succ f => rw [run, h] at hf; exact hf
  · intro e
    exact ⟨1, by rw [run, h]; exact e⟩
theorem ev_go {c c' : Cf} (h : sd c = .inr (.inl c')) : ev c = ev c' := by
  refine opt_ext fun x => ?_
  rw [ev_iff, ev_iff]
  constructor
  · rintro ⟨f, hf⟩
    cases f with
    | zero => simp [run] at hf
    | succ f => rw [run, h] at hf; exact ⟨f, hf⟩
  · rintro ⟨f, hf⟩
    exact ⟨f + 1, by rw [run, h]; exact hf⟩
theorem ev_call {c c' : Cf} {m pc : Nat} {ls : List (Option Value)} {rest : List Value} (h : sd c = .inr (.inr (c', m, pc, ls, rest))) : ev c = (ev c').bind (fun x => ev (m, pc, ls, x.1.toList ++ rest, x.2.1, x.2.2)) := by
  refine opt_ext fun x => ?_
  rw [ev_iff, Option.bind_eq_some_iff]
  constructor
  · rintro ⟨f, hf⟩
    cases f with
    | zero => simp [run] at hf
    | succ f =>
      rw [run, h] at hf
      simp only [rn] at hf
      cases hr : run f c' with
      | none => rw [hr] at hf; cases hf
      | some y =>
        rw [hr] at hf
        exact ⟨y, ev_iff.mpr ⟨f, hr⟩, ev_iff.mpr ⟨f, hf⟩⟩
  · rintro ⟨y, h1, h2⟩
    obtain ⟨f, hf⟩ := ev_iff.mp h1
    obtain ⟨g, hg⟩ := ev_iff.mp h2
    refine ⟨max f g + 1, ?_⟩
    rw [run, h]
    simp only [rn]
    rw [run_le (Nat.le_max_left f g) hf]
    exact run_le (Nat.le_max_right f g) hg
