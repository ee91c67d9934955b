/-! ===== the small machine's steps as equations ===== -/
noncomputable def E (m pc : Nat) (ls : List (Option Value)) (st : List Value) (G : Gt) (I : It) : Option Rs := ev (m, pc, ls, st, G, I)
/-- a check on the way -/
def ck (b : Bool) (x : Option Rs) : Option Rs := match b with
  | true => x
  | false => none
theorem ck_t (x : Option Rs) : ck true x = x := rfl
theorem ck_of {b : Bool} (h : b = true) (x : Option Rs) : ck b x = x := by rw [h]; rfl
theorem ck_c {b : Bool} {x y : Option Rs} (h : x = y) : ck b x = ck b y := by rw [h]
theorem ck_h {b : Bool} {x y : Option Rs} (h : b = true → x = y) : ck b x = ck b y := by
  cases b with
  | true => exact h rfl
  | false => rfl
theorem ite_h {c : Prop} [Decidable c] {x x' y y' : Option Rs} (h1 : c → x = x') (h2 : ¬ c → y = y') : (if c then x else y) = (if c then x' else y') := by
  by_cases h : c
  · rw [if_pos h, if_pos h, h1 h]
  · rw [if_neg h, if_neg h, h2 h]
theorem ite_c {c : Prop} [Decidable c] {x x' y y' : Option Rs} (h1 : x = x') (h2 : y = y') : (if c then x else y) = (if c then x' else y') := by rw [h1, h2]
def iok (i : Instr) (n : Nat) : Bool := decide (ilen i = n) || (match i with | .tableswitch _ _ _ _ => true | _ => false)
theorem gd_t {c : Bool} {s : Sr} (h : c = true) : gd c s = s := by rw [h]; rfl
theorem e_of {m pc : Nat} {ls : List (Option Value)} {st : List Value} {G : Gt} {I : It} {bs : ByteArray} {i : Instr} {n : Nat} (hb : pB m = bs) (hd : decode bs pc = .ok (i, n)) (hn : iok i n = true) : sd (m, pc, ls, st, G, I) = sdi i m pc ls st G I := by
  unfold sd
  simp only [hb, hd]
  exact gd_t hn
theorem e_go {m pc m' pc' : Nat} {ls ls' : List (Option Value)} {st st' : List Value} {G G' : Gt} {I I' : It} {bs : ByteArray} {i : Instr} {n : Nat} (hb : pB m = bs) (hd : decode bs pc = .ok (i, n)) (hn : iok i n = true)
    (h : sdi i m pc ls st G I = go m' pc' ls' st' G' I') : E m pc ls st G I = E m' pc' ls' st' G' I' := ev_go ((e_of hb hd hn).trans h)
theorem e_ck {m pc m' pc' : Nat} {ls ls' : List (Option Value)} {st st' : List Value} {G G' : Gt} {I I' : It} {bs : ByteArray} {i : Instr} {n : Nat} {b : Bool} (hb : pB m = bs) (hd : decode bs pc = .ok (i, n)) (hn : iok i n = true)
    (h : sdi i m pc ls st G I = gd b (go m' pc' ls' st' G' I')) : E m pc ls st G I = ck b (E m' pc' ls' st' G' I') := by
  cases b with
  | true => exact e_go hb hd hn h
  | false => exact ev_ret ((e_of hb hd hn).trans h)
section ST
variable {m pc : Nat} {ls : List (Option Value)} {st : List Value} {G : Gt} {I : It} {bs : ByteArray}
theorem e_iconst {n : Int} {v : Int32} (hb : pB m = bs) (hd : decode bs pc = .ok (.iconst n, 1)) (hv : Int32.ofInt n = v) : E m pc ls st G I = E m (pc + 1) ls (.int v :: st) G I := e_go hb hd rfl (by rw [← hv]; rfl)
theorem e_bipush {n : Int} {v : Int32} (hb : pB m = bs) (hd : decode bs pc = .ok (.bipush n, 2)) (hv : (Int8.ofInt n).toInt32 = v) : E m pc ls st G I = E m (pc + 2) ls (.int v :: st) G I := e_go hb hd rfl (by rw [← hv]; rfl)
theorem e_sipush {n : Int} {v : Int32} (hb : pB m = bs) (hd : decode bs pc = .ok (.sipush n, 3)) (hv : (Int16.ofInt n).toInt32 = v) : E m pc ls st G I = E m (pc + 3) ls (.int v :: st) G I := e_go hb hd rfl (by rw [← hv]; rfl)
theorem e_lconst {n : Fin 2} {v : Int64} (hb : pB m = bs) (hd : decode bs pc = .ok (.lconst n, 1)) (hv : Int64.ofNat (n : Nat) = v) : E m pc ls st G I = E m (pc + 1) ls (.long v :: st) G I := e_go hb hd rfl (by rw [← hv]; rfl)
theorem e_ldc2 {k c : Nat} {v : Int64} (hb : pB m = bs) (hc : pC m = c) (hd : decode bs pc = .ok (.ldc2_w k, 3)) (hv : lL c k = some v) : E m pc ls st G I = E m (pc + 3) ls (.long v :: st) G I := e_go hb hd rfl (by simp only [sdi, hc, hv])
theorem e_ldc {k c : Nat} {v : Int32} (hb : pB m = bs) (hc : pC m = c) (hd : decode bs pc = .ok (.ldc k, 2)) (hv : cL c k = some v) : E m pc ls st G I = E m (pc + 2) ls (.int v :: st) G I := e_go hb hd rfl (by simp only [sdi, hc, hv])
theorem e_ishr {x y : Int32} (hb : pB m = bs) (hd : decode bs pc = .ok (.ishr, 1)) : E m pc ls (.int y :: .int x :: st) G I = E m (pc + 1) ls (.int (x >>> (y &&& 31)) :: st) G I := e_go hb hd rfl rfl
theorem e_iload_n {k : Fin 4} {x : Int32} (hb : pB m = bs) (hd : decode bs pc = .ok (.iload_n k, 1)) (h : ls[(k : Nat)]? = some (some (.int x))) : E m pc ls st G I = E m (pc + 1) ls (.int x :: st) G I := e_go hb hd rfl (by simp only [sdi, h, ldI])
theorem e_iload {k : Nat} {x : Int32} (hb : pB m = bs) (hd : decode bs pc = .ok (.iload k, 2)) (h : ls[k]? = some (some (.int x))) : E m pc ls st G I = E m (pc + 2) ls (.int x :: st) G I := e_go hb hd rfl (by simp only [sdi, h, ldI])
theorem e_lload_n {k : Fin 4} {x : Int64} (hb : pB m = bs) (hd : decode bs pc = .ok (.lload_n k, 1)) (h : ls[(k : Nat)]? = some (some (.long x))) : E m pc ls st G I = E m (pc + 1) ls (.long x :: st) G I := e_go hb hd rfl (by simp only [sdi, h, ldJ])
theorem e_lload {k : Nat} {x : Int64} (hb : pB m = bs) (hd : decode bs pc = .ok (.lload k, 2)) (h : ls[k]? = some (some (.long x))) : E m pc ls st G I = E m (pc + 2) ls (.long x :: st) G I := e_go hb hd rfl (by simp only [sdi, h, ldJ])
theorem e_aload_n {k : Fin 4} {x : Nat} (hb : pB m = bs) (hd : decode bs pc = .ok (.aload_n k, 1)) (h : ls[(k : Nat)]? = some (some (.ref x))) : E m pc ls st G I = E m (pc + 1) ls (.ref x :: st) G I := e_go hb hd rfl (by simp only [sdi, h, ldA])
theorem e_aload {k : Nat} {x : Nat} (hb : pB m = bs) (hd : decode bs pc = .ok (.aload k, 2)) (h : ls[k]? = some (some (.ref x))) : E m pc ls st G I = E m (pc + 2) ls (.ref x :: st) G I := e_go hb hd rfl (by simp only [sdi, h, ldA])
theorem e_istore_n {k : Fin 4} {x : Int32} {ls' : List (Option Value)} (hb : pB m = bs) (hd : decode bs pc = .ok (.istore_n k, 1)) (h : sL ls k (.int x) = some ls') : E m pc ls (.int x :: st) G I = E m (pc + 1) ls' st G I := e_go hb hd rfl (by simp only [sdi, stI, h])
theorem e_istore {k : Nat} {x : Int32} {ls' : List (Option Value)} (hb : pB m = bs) (hd : decode bs pc = .ok (.istore k, 2)) (h : sL ls k (.int x) = some ls') : E m pc ls (.int x :: st) G I = E m (pc + 2) ls' st G I := e_go hb hd rfl (by simp only [sdi, stI, h])
theorem e_astore_n {k : Fin 4} {x : Nat} {ls' : List (Option Value)} (hb : pB m = bs) (hd : decode bs pc = .ok (.astore_n k, 1)) (h : sL ls k (.ref x) = some ls') : E m pc ls (.ref x :: st) G I = E m (pc + 1) ls' st G I := e_go hb hd rfl (by simp only [sdi, stA, h])
theorem e_astore {k : Nat} {x : Nat} {ls' : List (Option Value)} (hb : pB m = bs) (hd : decode bs pc = .ok (.astore k, 2)) (h : sL ls k (.ref x) = some ls') : E m pc ls (.ref x :: st) G I = E m (pc + 2) ls' st G I := e_go hb hd rfl (by simp only [sdi, stA, h])
theorem e_lstore_n {k : Fin 4} {x : Int64} {ls' : List (Option Value)} (hb : pB m = bs) (hd : decode bs pc = .ok (.lstore_n k, 1)) (h : sL2 ls k (.long x) = some ls') : E m pc ls (.long x :: st) G I = E m (pc + 1) ls' st G I := e_go hb hd rfl (by simp only [sdi, stJ, h])
theorem e_lstore {k : Nat} {x : Int64} {ls' : List (Option Value)} (hb : pB m = bs) (hd : decode bs pc = .ok (.lstore k, 2)) (h : sL2 ls k (.long x) = some ls') : E m pc ls (.long x :: st) G I = E m (pc + 2) ls' st G I := e_go hb hd rfl (by simp only [sdi, stJ, h])
theorem e_iinc {k : Nat} {n : Int} {x v : Int32} {ls' : List (Option Value)} (hb : pB m = bs) (hd : decode bs pc = .ok (.iinc k n, 3)) (hv : Int32.ofInt n = v) (hk : ls[k]? = some (some (.int x))) (h : sL ls k (.int (x + v)) = some ls') : E m pc ls st G I = E m (pc + 3) ls' st G I := e_go hb hd rfl (by simp only [sdi, hk, hv, h])
theorem e_iadd {x y : Int32} (hb : pB m = bs) (hd : decode bs pc = .ok (.iadd, 1)) : E m pc ls (.int y :: .int x :: st) G I = E m (pc + 1) ls (.int (x + y) :: st) G I := e_go hb hd rfl rfl
theorem e_isub {x y : Int32} (hb : pB m = bs) (hd : decode bs pc = .ok (.isub, 1)) : E m pc ls (.int y :: .int x :: st) G I = E m (pc + 1) ls (.int (x - y) :: st) G I := e_go hb hd rfl rfl
theorem e_imul {x y : Int32} (hb : pB m = bs) (hd : decode bs pc = .ok (.imul, 1)) : E m pc ls (.int y :: .int x :: st) G I = E m (pc + 1) ls (.int (x * y) :: st) G I := e_go hb hd rfl rfl
theorem e_iand {x y : Int32} (hb : pB m = bs) (hd : decode bs pc = .ok (.iand, 1)) : E m pc ls (.int y :: .int x :: st) G I = E m (pc + 1) ls (.int (x &&& y) :: st) G I := e_go hb hd rfl rfl
theorem e_ixor {x y : Int32} (hb : pB m = bs) (hd : decode bs pc = .ok (.ixor, 1)) : E m pc ls (.int y :: .int x :: st) G I = E m (pc + 1) ls (.int (x ^^^ y) :: st) G I := e_go hb hd rfl rfl
theorem e_idiv {x y : Int32} (hb : pB m = bs) (hd : decode bs pc = .ok (.idiv, 1)) : E m pc ls (.int y :: .int x :: st) G I = ck (!decide (y = 0)) (E m (pc + 1) ls (.int (x / y) :: st) G I) := e_ck hb hd rfl rfl
theorem e_irem {x y : Int32} (hb : pB m = bs) (hd : decode bs pc = .ok (.irem, 1)) : E m pc ls (.int y :: .int x :: st) G I = ck (!decide (y = 0)) (E m (pc + 1) ls (.int (x - x / y * y) :: st) G I) := e_ck hb hd rfl rfl
theorem e_land {x y : Int64} (hb : pB m = bs) (hd : decode bs pc = .ok (.land, 1)) : E m pc ls (.long y :: .long x :: st) G I = E m (pc + 1) ls (.long (x &&& y) :: st) G I := e_go hb hd rfl rfl
theorem e_lor {x y : Int64} (hb : pB m = bs) (hd : decode bs pc = .ok (.lor, 1)) : E m pc ls (.long y :: .long x :: st) G I = E m (pc + 1) ls (.long (x ||| y) :: st) G I := e_go hb hd rfl rfl
theorem e_lshl {x : Int64} {y : Int32} (hb : pB m = bs) (hd : decode bs pc = .ok (.lshl, 1)) : E m pc ls (.int y :: .long x :: st) G I = E m (pc + 1) ls (.long (x <<< (y.toInt64 &&& 63)) :: st) G I := e_go hb hd rfl rfl
theorem e_lshr {x : Int64} {y : Int32} (hb : pB m = bs) (hd : decode bs pc = .ok (.lshr, 1)) : E m pc ls (.int y :: .long x :: st) G I = E m (pc + 1) ls (.long (x >>> (y.toInt64 &&& 63)) :: st) G I := e_go hb hd rfl rfl
theorem e_lushr {x : Int64} {y : Int32} (hb : pB m = bs) (hd : decode bs pc = .ok (.lushr, 1)) : E m pc ls (.int y :: .long x :: st) G I = E m (pc + 1) ls (.long ((x.toUInt64 >>> (y.toInt64.toUInt64 &&& Int64.toUInt64 63)).toInt64) :: st) G I := e_go hb hd rfl rfl
theorem e_lcmp {x y : Int64} (hb : pB m = bs) (hd : decode bs pc = .ok (.lcmp, 1)) : E m pc ls (.long y :: .long x :: st) G I = E m (pc + 1) ls (.int (lg_cmp x y) :: st) G I := e_go hb hd rfl rfl
theorem e_i2l {x : Int32} (hb : pB m = bs) (hd : decode bs pc = .ok (.i2l, 1)) : E m pc ls (.int x :: st) G I = E m (pc + 1) ls (.long x.toInt64 :: st) G I := e_go hb hd rfl rfl
theorem e_l2i {x : Int64} (hb : pB m = bs) (hd : decode bs pc = .ok (.l2i, 1)) : E m pc ls (.long x :: st) G I = E m (pc + 1) ls (.int x.toInt32 :: st) G I := e_go hb hd rfl rfl
theorem e_i2c {x : Int32} (hb : pB m = bs) (hd : decode bs pc = .ok (.i2c, 1)) : E m pc ls (.int x :: st) G I = E m (pc + 1) ls (.int (x.toUInt32 % 65536).toInt32 :: st) G I := e_go hb hd rfl rfl
theorem e_dupI {x : Int32} (hb : pB m = bs) (hd : decode bs pc = .ok (.dup, 1)) : E m pc ls (.int x :: st) G I = E m (pc + 1) ls (.int x :: .int x :: st) G I := e_go hb hd rfl rfl
theorem e_dupA {x : Nat} (hb : pB m = bs) (hd : decode bs pc = .ok (.dup, 1)) : E m pc ls (.ref x :: st) G I = E m (pc + 1) ls (.ref x :: .ref x :: st) G I := e_go hb hd rfl rfl
theorem e_dup2 {x : Int32} {y : Nat} (hb : pB m = bs) (hd : decode bs pc = .ok (.dup2, 1)) : E m pc ls (.int x :: .ref y :: st) G I = E m (pc + 1) ls (.int x :: .ref y :: .int x :: .ref y :: st) G I := e_go hb hd rfl rfl
theorem e_pop {x : Int32} (hb : pB m = bs) (hd : decode bs pc = .ok (.pop, 1)) : E m pc ls (.int x :: st) G I = E m (pc + 1) ls st G I := e_go hb hd rfl rfl
theorem e_goto {off : Int} {t : Nat} (hb : pB m = bs) (hd : decode bs pc = .ok (.goto off, 3)) (ht : (pc : Int) + off = (t : Int)) : E m pc ls st G I = E m t ls st G I := e_go hb hd rfl (by
  simp only [sdi, tgok, tg, ht]
  rw [gd_t (by simp)]
  rfl)
theorem e_br {m pc t : Nat} {ls : List (Option Value)} {st r : List Value} {G : Gt} {I : It} {off : Int} {i : Instr} {b : Bool} {c : Prop} [Decidable c] (hb : pB m = bs) (hd : decode bs pc = .ok (i, 3)) (hn : iok i 3 = true) (h : sdi i m pc ls st G I = br b m pc off ls r G I) (hbc : b = decide c) (ht : (pc : Int) + off = (t : Int)) :
    E m pc ls st G I = if c then E m t ls r G I else E m (pc + 3) ls r G I := by
  have ht1 : tgok pc off = true := by unfold tgok; rw [ht]; simp
  have ht2 : tg pc off = t := by unfold tg; rw [ht]; simp
  have h := (e_of hb hd hn (ls := ls) (st := st) (G := G) (I := I)).trans h
  unfold br at h
  rw [gd_t ht1, ht2, hbc] at h
  by_cases hc : c
  · rw [if_pos hc]
    exact ev_go (by rw [h, decide_eq_true hc]; rfl)
  · rw [if_neg hc]
    exact ev_go (by rw [h, decide_eq_false hc]; rfl)
theorem e_ifeq {x : Int32} {off : Int} {t : Nat} (hb : pB m = bs) (hd : decode bs pc = .ok (.ifCond .eq off, 3)) (ht : (pc : Int) + off = (t : Int)) : E m pc ls (.int x :: st) G I = if x = 0 then E m t ls st G I else E m (pc + 3) ls st G I := e_br hb hd rfl rfl rfl ht
theorem e_ifne {x : Int32} {off : Int} {t : Nat} (hb : pB m = bs) (hd : decode bs pc = .ok (.ifCond .ne off, 3)) (ht : (pc : Int) + off = (t : Int)) : E m pc ls (.int x :: st) G I = if x = 0 then E m (pc + 3) ls st G I else E m t ls st G I := by
  rw [e_br (c := ¬ x = 0) hb hd rfl rfl (by simp [c0]) ht]
  by_cases h : x = 0
  · rw [if_pos h, if_neg (fun z => z h)]
  · rw [if_neg h, if_pos h]
theorem e_iflt {x : Int32} {off : Int} {t : Nat} (hb : pB m = bs) (hd : decode bs pc = .ok (.ifCond .lt off, 3)) (ht : (pc : Int) + off = (t : Int)) : E m pc ls (.int x :: st) G I = if x < 0 then E m t ls st G I else E m (pc + 3) ls st G I := e_br hb hd rfl rfl rfl ht
theorem e_ifge {x : Int32} {off : Int} {t : Nat} (hb : pB m = bs) (hd : decode bs pc = .ok (.ifCond .ge off, 3)) (ht : (pc : Int) + off = (t : Int)) : E m pc ls (.int x :: st) G I = if 0 ≤ x then E m t ls st G I else E m (pc + 3) ls st G I := e_br hb hd rfl rfl rfl ht
theorem e_ifgt {x : Int32} {off : Int} {t : Nat} (hb : pB m = bs) (hd : decode bs pc = .ok (.ifCond .gt off, 3)) (ht : (pc : Int) + off = (t : Int)) : E m pc ls (.int x :: st) G I = if 0 < x then E m t ls st G I else E m (pc + 3) ls st G I := e_br hb hd rfl rfl rfl ht
theorem e_ifle {x : Int32} {off : Int} {t : Nat} (hb : pB m = bs) (hd : decode bs pc = .ok (.ifCond .le off, 3)) (ht : (pc : Int) + off = (t : Int)) : E m pc ls (.int x :: st) G I = if x ≤ 0 then E m t ls st G I else E m (pc + 3) ls st G I := e_br hb hd rfl rfl rfl ht
theorem e_cmeq {x y : Int32} {off : Int} {t : Nat} (hb : pB m = bs) (hd : decode bs pc = .ok (.if_icmp .eq off, 3)) (ht : (pc : Int) + off = (t : Int)) : E m pc ls (.int y :: .int x :: st) G I = if x = y then E m t ls st G I else E m (pc + 3) ls st G I := e_br hb hd rfl rfl rfl ht
theorem e_cmne {x y : Int32} {off : Int} {t : Nat} (hb : pB m = bs) (hd : decode bs pc = .ok (.if_icmp .ne off, 3)) (ht : (pc : Int) + off = (t : Int)) : E m pc ls (.int y :: .int x :: st) G I = if x = y then E m (pc + 3) ls st G I else E m t ls st G I := by
  rw [e_br (c := ¬ x = y) hb hd rfl rfl (by simp [c2]) ht]
  by_cases h : x = y
  · rw [if_pos h, if_neg (fun z => z h)]
  · rw [if_neg h, if_pos h]
theorem e_cmlt {x y : Int32} {off : Int} {t : Nat} (hb : pB m = bs) (hd : decode bs pc = .ok (.if_icmp .lt off, 3)) (ht : (pc : Int) + off = (t : Int)) : E m pc ls (.int y :: .int x :: st) G I = if x < y then E m t ls st G I else E m (pc + 3) ls st G I := e_br hb hd rfl rfl rfl ht
theorem e_cmge {x y : Int32} {off : Int} {t : Nat} (hb : pB m = bs) (hd : decode bs pc = .ok (.if_icmp .ge off, 3)) (ht : (pc : Int) + off = (t : Int)) : E m pc ls (.int y :: .int x :: st) G I = if y ≤ x then E m t ls st G I else E m (pc + 3) ls st G I := e_br hb hd rfl rfl rfl ht
theorem e_cmgt {x y : Int32} {off : Int} {t : Nat} (hb : pB m = bs) (hd : decode bs pc = .ok (.if_icmp .gt off, 3)) (ht : (pc : Int) + off = (t : Int)) : E m pc ls (.int y :: .int x :: st) G I = if y < x then E m t ls st G I else E m (pc + 3) ls st G I := e_br hb hd rfl rfl rfl ht
theorem e_cmle {x y : Int32} {off : Int} {t : Nat} (hb : pB m = bs) (hd : decode bs pc = .ok (.if_icmp .le off, 3)) (ht : (pc : Int) + off = (t : Int)) : E m pc ls (.int y :: .int x :: st) G I = if x ≤ y then E m t ls st G I else E m (pc + 3) ls st G I := e_br hb hd rfl rfl rfl ht
/-- where a switch goes: from the least case on, by the list -/
def swt (x lo : Int) (l : List Nat) (d : Nat) : Nat := if x < lo ∨ lo + l.length ≤ x then d else l.getD (x - lo).toNat d
theorem e_tsw {x : Int32} {d lo hi : Int} {offs : Array Int} {n t : Nat} {l : List Nat} (hb : pB m = bs) (hd : decode bs pc = .ok (.tableswitch d lo hi offs, n)) (hl : hi + 1 = lo + l.length) (ht : (pc : Int) + d = (t : Int)) (ho : offs.toList.map (fun o => (pc : Int) + o) = l.map (fun (z : Nat) => (z : Int))) :
    E m pc ls (.int x :: st) G I = E m (swt x.toInt lo l t) ls st G I := by
  refine e_go hb hd (by unfold iok; simp) ?_
  unfold swt
  by_cases h : x.toInt < lo ∨ hi < x.toInt
  · rw [if_pos (by omega)]
    simp only [sdi]
    rw [if_pos h]
    have ht1 : tgok pc d = true := by unfold tgok; rw [ht]; simp
    have ht2 : tg pc d = t := by unfold tg; rw [ht]; simp
    rw [gd_t ht1, ht2]
  · rw [if_neg (by omega)]
    simp only [sdi]
    rw [if_neg h]
    have hk : (x.toInt - lo).toNat < l.length := by omega
    have hlen : offs.toList.length = l.length := by
      have := congrArg List.length ho
      simpa using this
    have hlen' : (x.toInt - lo).toNat < offs.size := by rw [← Array.length_toList]; omega
    have ho2 : offs[(x.toInt - lo).toNat]? = some (offs[(x.toInt - lo).toNat]'hlen') := Array.getElem?_eq_getElem hlen'
    rw [ho2]
    have e1 := congrArg (fun z => z[(x.toInt - lo).toNat]?) ho
    simp only [List.getElem?_map, Array.getElem?_toList, ho2, List.getElem?_eq_getElem hk, Option.map_some, Option.some.injEq] at e1
    rw [List.getD_eq_getElem?_getD, List.getElem?_eq_getElem hk]
    simp only [Option.getD_some]
    have ht1 : tgok pc (offs[(x.toInt - lo).toNat]'hlen') = true := by unfold tgok; rw [e1]; simp
    have ht2 : tg pc (offs[(x.toInt - lo).toNat]'hlen') = l[(x.toInt - lo).toNat] := by unfold tg; rw [e1]; simp
    rw [gd_t ht1, ht2]
theorem e_alen {a : Nat} {n : Nat} (hb : pB m = bs) (hd : decode bs pc = .ok (.arraylength, 1)) (hk : (decide (50 ≤ kd G a) && decide (kd G a ≤ 54)) = true ∨ a = 0) (hl : ln G a = n) {v : Int32} (hv : Int32.ofNat n = v) : E m pc ls (.ref a :: st) G I = E m (pc + 1) ls (.int v :: st) G I := e_go hb hd rfl (by
  simp only [sdi]
  rw [gd_t, hl, hv]
  rcases hk with h | h
  · rw [h]; rfl
  · rw [h]; simp)
theorem e_iald {a n : Nat} {i : Int32} (hb : pB m = bs) (hd : decode bs pc = .ok (.iaload, 1)) (hk : kd G a = 50 ∨ a = 0) (hl : ln G a = n) : E m pc ls (.int i :: .ref a :: st) G I = ck (inb i n) (E m (pc + 1) ls (.int (I a (ix i)) :: st) G I) := e_ck hb hd rfl (by
  simp only [sdi, hl]
  congr 1
  rcases hk with h | h
  · rw [h]; simp
  · rw [h]; simp)
theorem e_bald {a n : Nat} {i : Int32} (hb : pB m = bs) (hd : decode bs pc = .ok (.baload, 1)) (hk : kd G a = 51) (hl : ln G a = n) : E m pc ls (.int i :: .ref a :: st) G I = ck (inb i n) (E m (pc + 1) ls (.int (I a (ix i)) :: st) G I) := e_ck hb hd rfl (by simp only [sdi, hl, hk]; simp)
theorem e_cald {a n : Nat} {i : Int32} (hb : pB m = bs) (hd : decode bs pc = .ok (.caload, 1)) (hk : kd G a = 52) (hl : ln G a = n) : E m pc ls (.int i :: .ref a :: st) G I = ck (inb i n) (E m (pc + 1) ls (.int (I a (ix i)) :: st) G I) := e_ck hb hd rfl (by simp only [sdi, hl, hk]; simp)
/-- a reference that is no null -/
def ckr (x : Option Nat) (k : Nat → Option Rs) (z : Option Rs) : Option Rs := match x with
  | some a => k a
  | none => z
theorem e_aald {a n r : Nat} {i : Int32} (hb : pB m = bs) (hd : decode bs pc = .ok (.aaload, 1)) (hk : kd G a = 53 ∨ kd G a = 54) (hl : ln G a = n) (hr : inb i n = true → rf G a (ix i) = some r) : E m pc ls (.int i :: .ref a :: st) G I = ck (inb i n) (E m (pc + 1) ls (.ref r :: st) G I) := by
  have h1 : E m pc ls (.int i :: .ref a :: st) G I = ck (inb i n) (E m (pc + 1) ls (va_rf (rf G a (ix i)) :: st) G I) := e_ck hb hd rfl (by
    simp only [sdi, hl]
    congr 1
    rcases hk with h | h <;> rw [h] <;> simp)
  rw [h1]
  cases hi : inb i n with
  | false => rfl
  | true => rw [hr hi]; rfl
theorem e_iast {a n : Nat} {i x : Int32} (hb : pB m = bs) (hd : decode bs pc = .ok (.iastore, 1)) (hk : kd G a = 50) (hl : ln G a = n) : E m pc ls (.int x :: .int i :: .ref a :: st) G I = ck (inb i n) (E m (pc + 1) ls st G (uI I a (ix i) x)) := e_ck hb hd rfl (by simp only [sdi, hl, hk]; simp)
theorem e_bast {a n : Nat} {i x : Int32} (hb : pB m = bs) (hd : decode bs pc = .ok (.bastore, 1)) (hk : kd G a = 51) (hl : ln G a = n) : E m pc ls (.int x :: .int i :: .ref a :: st) G I = ck (inb i n && b01 x) (E m (pc + 1) ls st G (uI I a (ix i) x)) := e_ck hb hd rfl (by simp only [sdi, hl, hk]; simp)
theorem e_cast {a n : Nat} {i x : Int32} (hb : pB m = bs) (hd : decode bs pc = .ok (.castore, 1)) (hk : kd G a = 52) (hl : ln G a = n) : E m pc ls (.int x :: .int i :: .ref a :: st) G I = ck (inb i n && decide (0 ≤ x.toInt ∧ x.toInt ≤ 65535)) (E m (pc + 1) ls st G (uI I a (ix i) x)) := e_ck hb hd rfl (by simp only [sdi, hl, hk]; simp)
theorem e_aast {a n x : Nat} {i : Int32} (hb : pB m = bs) (hd : decode bs pc = .ok (.aastore, 1)) (hk : (kd G a = 53 ∧ kd G x = 1) ∨ (kd G a = 54 ∧ kd G x = 0)) (hl : ln G a = n) : E m pc ls (.ref x :: .int i :: .ref a :: st) G I = ck (inb i n) (E m (pc + 1) ls st (uG G a (ix i) x) I) := e_ck hb hd rfl (by
  simp only [sdi, hl]
  congr 1
  rcases hk with ⟨h, h'⟩ | ⟨h, h'⟩ <;> rw [h, h'] <;> simp)
theorem e_getI {i c ci k o : Nat} (hb : pB m = bs) (hc : pC m = c) (hd : decode bs pc = .ok (.getfield i, 3)) (hf : fL c i = (ci, k)) (h8 : decide (ci < 7) = true) (ht : fT ci k ≠ 2) (hk : kd G o = ci) : E m pc ls (.ref o :: st) G I = E m (pc + 3) ls (.int (I o k) :: st) G I := e_go hb hd rfl (by
  simp only [sdi, hc, hf, hk, h8]
  unfold gf
  rw [if_neg ht, gd_t (by simp)])
theorem e_getR {i c ci k o r : Nat} (hb : pB m = bs) (hc : pC m = c) (hd : decode bs pc = .ok (.getfield i, 3)) (hf : fL c i = (ci, k)) (h8 : decide (ci < 7) = true) (ht : fT ci k = 2) (hk : kd G o = ci) (hr : rf G o k = some r) : E m pc ls (.ref o :: st) G I = E m (pc + 3) ls (.ref r :: st) G I := e_go hb hd rfl (by
  simp only [sdi, hc, hf, hk, h8]
  unfold gf
  rw [if_pos ht, hr, gd_t (by simp)]
  rfl)
theorem e_putI {i c ci k o : Nat} {x : Int32} (hb : pB m = bs) (hc : pC m = c) (hd : decode bs pc = .ok (.putfield i, 3)) (hf : fL c i = (ci, k)) (h8 : decide (ci < 7) = true) (ht : fT ci k = 0) (hfin : fF ci k = false) (hk : kd G o = ci) : E m pc ls (.int x :: .ref o :: st) G I = E m (pc + 3) ls st G (uI I o k x) := e_go hb hd rfl (by
  simp only [sdi, hc, hf, hk, h8, hfin, pf, ht]
  rw [gd_t (by simp)])
theorem e_putZ {i c ci k o : Nat} {x : Int32} (hb : pB m = bs) (hc : pC m = c) (hd : decode bs pc = .ok (.putfield i, 3)) (hf : fL c i = (ci, k)) (h8 : decide (ci < 7) = true) (ht : fT ci k = 1) (hfin : fF ci k = false) (hk : kd G o = ci) : E m pc ls (.int x :: .ref o :: st) G I = ck (b01 x) (E m (pc + 3) ls st G (uI I o k x)) := e_ck hb hd rfl (by
  simp only [sdi, hc, hf, hk, h8, hfin, pf, ht]
  rw [gd_t (by simp)])
theorem e_putR {i ci k o r : Nat} (hb : pB m = bs) (hc : pC m = ci) (hm : pK m = 2) (hd : decode bs pc = .ok (.putfield i, 3)) (hf : fL ci i = (ci, k)) (h8 : decide (ci < 7) = true) (ht : fT ci k = 2) (hk : kd G o = ci) : E m pc ls (.ref r :: .ref o :: st) G I = E m (pc + 3) ls st (uG G o k r) I := e_go hb hd rfl (by
  simp only [sdi, hc, hf, hk, h8, hm, pf, ht]
  rw [gd_t (by simp)])
theorem e_new {i c ci nn : Nat} (hb : pB m = bs) (hc : pC m = c) (hd : decode bs pc = .ok (.new i, 3)) (hf : kL c i = ci) (h8 : decide (ci < 7) = true) (hn : clN ci = nn) : E m pc ls st G I = E m (pc + 3) ls (.ref G.1 :: st) (nG G ci nn) (nI0 G I) := e_go hb hd rfl (by
  simp only [sdi, hc, hf, h8, hn]
  rw [gd_t (by simp)])
theorem e_newa {t : ArrayType} {n : Int32} {N c : Nat} (hb : pB m = bs) (hd : decode bs pc = .ok (.newarray t, 2)) (hk : akd t = c) (h1 : (decide (c < 60) && decide (0 ≤ n.toInt ∧ n.toInt ≤ 1000)) = true) (hN : ix n = N) : E m pc ls (.int n :: st) G I = E m (pc + 2) ls (.ref G.1 :: st) (nG G c N) (nI0 G I) := e_go hb hd rfl (by
  simp only [sdi, hk, hN]
  rw [gd_t h1])
theorem e_anewa {i c ci : Nat} {n : Int32} {N kk : Nat} (hb : pB m = bs) (hc : pC m = c) (hd : decode bs pc = .ok (.anewarray i, 3)) (hf : kL c i = ci) (h1 : (decide (ci ≤ 1) && decide (0 ≤ n.toInt ∧ n.toInt ≤ 1000)) = true) (hN : ix n = N) (hkk : 54 - ci = kk) : E m pc ls (.int n :: st) G I = E m (pc + 3) ls (.ref G.1 :: st) (nG G kk N) (nI0 G I) := e_go hb hd rfl (by
  simp only [sdi, hc, hf, hN, hkk]
  rw [gd_t h1])
theorem e_acopy {i c a0 a1 n0 n1 : Nat} {sp dp n : Int32} (hb : pB m = bs) (hc : pC m = c) (hd : decode bs pc = .ok (.invokestatic i, 3)) (hm : (c, i) ∈ aTl) (hcat : Nat.ble (cats st) 8 = true) (hr : (decide (1 ≤ pF m) && decide (26 ≤ pW m)) = true) (hk0 : kd G a0 = 50) (hk1 : kd G a1 = 50) (h1 : (decide (0 ≤ sp.toInt) && decide (0 ≤ dp.toInt) && decide (0 ≤ n.toInt)) = true) (hl0 : ln G a0 = n0) (hl1 : ln G a1 = n1) (h2 : (decide (ix sp + ix n ≤ n0) && decide (ix dp + ix n ≤ n1)) = true) :
    E m pc ls (.int n :: .int dp :: .ref a1 :: .int sp :: .ref a0 :: st) G I = E m (pc + 3) ls st G (cpI I a0 a1 (ix sp) (ix dp) (ix n)) := e_go hb hd rfl (by
  simp only [sdi, hc, if_pos hm, hl0, hl1, hk0, hk1]
  rw [gd_t]
  simp only [Bool.and_eq_true, decide_eq_true_eq] at hr h1 h2 ⊢
  exact ⟨⟨⟨⟨⟨⟨⟨⟨Nat.le_of_ble_eq_true hcat, hr.1⟩, hr.2⟩, trivial, trivial⟩, h1.1.1⟩, h1.1.2⟩, h1.2⟩, h2.1⟩, h2.2⟩)
theorem e_objI {i c a : Nat} (hb : pB m = bs) (hc : pC m = c) (hd : decode bs pc = .ok (.invokespecial i, 3)) (hm : (c, i) ∈ oTl) (hcat : Nat.ble (cats st) 8 = true) (hr : (decide (1 ≤ pF m) && decide (20 ≤ pW m)) = true) : E m pc ls (.ref a :: st) G I = E m (pc + 3) ls st G I := e_go hb hd rfl (by
  simp only [sdi, hc, if_pos hm]
  simp only [Bool.and_eq_true, decide_eq_true_eq] at hr
  rw [gd_t (by simp only [Bool.and_eq_true, decide_eq_true_eq]; exact ⟨⟨Nat.le_of_ble_eq_true hcat, hr.1⟩, hr.2⟩)])
/-- what goes on behind a call -/
noncomputable def K2 (m pc : Nat) (ls : List (Option Value)) (st : List Value) (x : Option Rs) : Option Rs := x.bind (fun x => E m pc ls (x.1.toList ++ st) x.2.1 x.2.2)
theorem K2_i {m pc : Nat} {ls : List (Option Value)} {st : List Value} {G : Gt} {I : It} {v : Value} : K2 m pc ls st (some (some v, G, I)) = E m pc ls (v :: st) G I := rfl
theorem K2_v {m pc : Nat} {ls : List (Option Value)} {st : List Value} {G : Gt} {I : It} : K2 m pc ls st (some (none, G, I)) = E m pc ls st G I := rfl
/-- the room that a call needs -/
def rok (m m' : Nat) : Bool := decide (pF m' + 1 ≤ pF m) && decide (8 + (pL m' + 11) + pW m' ≤ pW m)
theorem e_cal {m' nL : Nat} {vs rest : List Value} {als : List (Option Value)} {i : Instr} (hb : pB m = bs) (hd : decode bs pc = .ok (i, 3)) (hn : iok i 3 = true) (h : sdi i m pc ls st G I = cal m m' pc vs ls rest G I) (hpl : pL m' = nL) (hcat : Nat.ble (cats rest) 8 = true) (hr : rok m m' = true) (hal : Nat.ble (aL vs).length nL = true) (he : eL nL vs = als) : E m pc ls st G I = K2 m (pc + 3) ls rest (E m' 0 als [] G I) := by
  unfold cal at h
  unfold rok at hr
  simp only [Bool.and_eq_true, decide_eq_true_eq] at hr
  rw [gd_t (by simp only [Bool.and_eq_true, decide_eq_true_eq]; exact ⟨Nat.le_of_ble_eq_true hcat, hr, by rw [hpl]; exact Nat.le_of_ble_eq_true hal⟩), hpl, he] at h
  exact ev_call ((e_of hb hd hn).trans h)
theorem e_virt {i c m' n b nL k : Nat} {as rest : List Value} {als : List (Option Value)} (hb : pB m = bs) (hc : pC m = c) (hd : decode bs pc = .ok (.invokevirtual i, 3)) (hm : mL c i = (m', 0)) (hn : pN m' = n) (hs : st = as ++ .ref b :: rest) (hl : as.length = n) (hk : kd G b = k) (hkc : pC m' = k) (hpl : pL m' = nL) (hcat : Nat.ble (cats rest) 8 = true) (hr : rok m m' = true) (hal : Nat.ble (aL (.ref b :: as.reverse)).length nL = true) (he : eL nL (.ref b :: as.reverse) = als) : E m pc ls st G I = K2 m (pc + 3) ls rest (E m' 0 als [] G I) := by
  subst hs
  refine e_cal (vs := .ref b :: as.reverse) hb hd rfl ?_ hpl hcat hr hal he
  simp only [sdi, hc, hm, hn]
  have h1 : (as ++ Value.ref b :: rest).drop n = .ref b :: rest := by rw [← hl, List.drop_left]
  have h2 : (as ++ Value.ref b :: rest).take n = as := by rw [← hl, List.take_left]
  rw [h1, h2]
  simp only
  rw [gd_t (by simp [hk, hkc, hl])]
theorem e_stat {i c m' n how nL : Nat} {as rest : List Value} {als : List (Option Value)} (hb : pB m = bs) (hc : pC m = c) (hd : decode bs pc = .ok (.invokestatic i, 3)) (ha : (c, i) ∉ aTl) (hm : mL c i = (m', how)) (hh : how = 1 ∨ how = 3) (hn : pN m' = n) (hs : st = as ++ rest) (hl : as.length = n) (hpl : pL m' = nL) (hcat : Nat.ble (cats rest) 8 = true) (hr : rok m m' = true) (hal : Nat.ble (aL (as.reverse)).length nL = true) (he : eL nL (as.reverse) = als) : E m pc ls st G I = K2 m (pc + 3) ls rest (E m' 0 als [] G I) := by
  subst hs
  refine e_cal (vs := as.reverse) hb hd rfl ?_ hpl hcat hr hal he
  simp only [sdi, hc, hm, hn, if_neg ha]
  have h1 : (as ++ rest).drop n = rest := by rw [← hl, List.drop_left]
  have h2 : (as ++ rest).take n = as := by rw [← hl, List.take_left]
  rw [h1, h2]
  rw [gd_t (by simp [hh, hl])]
theorem e_spec {i c m' n b how nL : Nat} {as rest : List Value} {als : List (Option Value)} (hb : pB m = bs) (hc : pC m = c) (hd : decode bs pc = .ok (.invokespecial i, 3)) (ha : (c, i) ∉ oTl) (hm : mL c i = (m', how)) (hh : how = 2 ∨ how = 4) (hn : pN m' = n) (hs : st = as ++ .ref b :: rest) (hl : as.length = n) (hpl : pL m' = nL) (hcat : Nat.ble (cats rest) 8 = true) (hr : rok m m' = true) (hal : Nat.ble (aL (.ref b :: as.reverse)).length nL = true) (he : eL nL (.ref b :: as.reverse) = als) : E m pc ls st G I = K2 m (pc + 3) ls rest (E m' 0 als [] G I) := by
  subst hs
  refine e_cal (vs := .ref b :: as.reverse) hb hd rfl ?_ hpl hcat hr hal he
  simp only [sdi, hc, hm, hn, if_neg ha]
  have h1 : (as ++ Value.ref b :: rest).drop n = .ref b :: rest := by rw [← hl, List.drop_left]
  have h2 : (as ++ Value.ref b :: rest).take n = as := by rw [← hl, List.take_left]
  rw [h1, h2]
  simp only
  rw [gd_t (by simp [hh, hl])]
theorem e_retI {v : Int32} (hb : pB m = bs) (hd : decode bs pc = .ok (.ireturn, 1)) (hr : pR m = some .int) : E m pc ls [.int v] G I = some (some (.int v), G, I) := ev_ret ((e_of hb hd rfl).trans (by
  simp only [sdi, rtI, hr]
  rw [gd_t (by simp)]))
theorem e_retZ {v : Int32} (hb : pB m = bs) (hd : decode bs pc = .ok (.ireturn, 1)) (hr : pR m = some .boolean) : E m pc ls [.int v] G I = ck (b01 v) (some (some (.int v), G, I)) := by
  have h : sd (m, pc, ls, [.int v], G, I) = gd (b01 v) (.inl (some (some (.int v), G, I))) := (e_of hb hd rfl).trans (by
    simp only [sdi, rtI, hr]
    congr 1)
  cases hv : b01 v with
  | true => exact ev_ret (by rw [h, hv]; rfl)
  | false => exact ev_ret (by rw [h, hv]; rfl)
theorem e_retA {v : Nat} (hb : pB m = bs) (hd : decode bs pc = .ok (.areturn, 1)) (hr : rtA m = true) : E m pc ls [.ref v] G I = some (some (.ref v), G, I) := ev_ret ((e_of hb hd rfl).trans (by
  simp only [sdi]
  rw [gd_t hr]))
theorem e_retV (hb : pB m = bs) (hd : decode bs pc = .ok (.return_, 1)) (hr : pR m = none) : E m pc ls [] G I = some (none, G, I) := ev_ret ((e_of hb hd rfl).trans (by
  simp only [sdi]
  rw [gd_t (by simp [hr])]))
theorem e_iald_l {a n j : Nat} {i : Int32} (hb : pB m = bs) (hd : decode bs pc = .ok (.iaload, 1)) (hk : kd G a = 50 ∨ a = 0) (hl : ln G a = n) (hi : ix i = j) (hin : inb i n = true) : E m pc ls (.int i :: .ref a :: st) G I = E m (pc + 1) ls (.int (I a j) :: st) G I := by rw [e_iald hb hd hk hl, ck_of hin, hi]
theorem e_bald_l {a n j : Nat} {i : Int32} (hb : pB m = bs) (hd : decode bs pc = .ok (.baload, 1)) (hk : kd G a = 51) (hl : ln G a = n) (hi : ix i = j) (hin : inb i n = true) : E m pc ls (.int i :: .ref a :: st) G I = E m (pc + 1) ls (.int (I a j) :: st) G I := by rw [e_bald hb hd hk hl, ck_of hin, hi]
theorem e_iast_l {a n j : Nat} {i x : Int32} (hb : pB m = bs) (hd : decode bs pc = .ok (.iastore, 1)) (hk : kd G a = 50) (hl : ln G a = n) (hi : ix i = j) (hin : inb i n = true) : E m pc ls (.int x :: .int i :: .ref a :: st) G I = E m (pc + 1) ls st G (uI I a j x) := by rw [e_iast hb hd hk hl, ck_of hin, hi]
theorem e_bast_l {a n : Nat} {i x : Int32} (hb : pB m = bs) (hd : decode bs pc = .ok (.bastore, 1)) (hk : kd G a = 51) (hl : ln G a = n) (hx : b01 x = true) : E m pc ls (.int x :: .int i :: .ref a :: st) G I = ck (inb i n) (E m (pc + 1) ls st G (uI I a (ix i) x)) := by rw [e_bast hb hd hk hl, hx, Bool.and_true]
theorem e_idiv_l {x y : Int32} (hb : pB m = bs) (hd : decode bs pc = .ok (.idiv, 1)) (h : ¬ y = 0) : E m pc ls (.int y :: .int x :: st) G I = E m (pc + 1) ls (.int (x / y) :: st) G I := by rw [e_idiv hb hd, ck_of (by simp [h])]
theorem e_irem_l {x y : Int32} (hb : pB m = bs) (hd : decode bs pc = .ok (.irem, 1)) (h : ¬ y = 0) : E m pc ls (.int y :: .int x :: st) G I = E m (pc + 1) ls (.int (x - x / y * y) :: st) G I := by rw [e_irem hb hd, ck_of (by simp [h])]
theorem e_putZ_l {i c ci k o : Nat} {x : Int32} (hb : pB m = bs) (hc : pC m = c) (hd : decode bs pc = .ok (.putfield i, 3)) (hf : fL c i = (ci, k)) (h8 : decide (ci < 7) = true) (ht : fT ci k = 1) (hfin : fF ci k = false) (hk : kd G o = ci) (hx : b01 x = true) : E m pc ls (.int x :: .ref o :: st) G I = E m (pc + 3) ls st G (uI I o k x) := by rw [e_putZ hb hc hd hf h8 ht hfin hk, ck_of hx]
theorem e_retZ_l {v : Int32} (hb : pB m = bs) (hd : decode bs pc = .ok (.ireturn, 1)) (hr : pR m = some .boolean) (hx : b01 v = true) : E m pc ls [.int v] G I = some (some (.int v), G, I) := by rw [e_retZ hb hd hr, ck_of hx]
theorem e_acopy_l {i c a0 a1 n0 n1 xs xd xn : Nat} {sp dp n : Int32} (hb : pB m = bs) (hc : pC m = c) (hd : decode bs pc = .ok (.invokestatic i, 3)) (hm : (c, i) ∈ aTl) (hcat : Nat.ble (cats st) 8 = true) (hr : (decide (1 ≤ pF m) && decide (26 ≤ pW m)) = true) (hk0 : kd G a0 = 50) (hk1 : kd G a1 = 50) (h1 : (decide (0 ≤ sp.toInt) && decide (0 ≤ dp.toInt) && decide (0 ≤ n.toInt)) = true) (hl0 : ln G a0 = n0) (hl1 : ln G a1 = n1) (hxs : ix sp = xs) (hxd : ix dp = xd) (hxn : ix n = xn) (h2 : (decide (xs + xn ≤ n0) && decide (xd + xn ≤ n1)) = true) :
    E m pc ls (.int n :: .int dp :: .ref a1 :: .int sp :: .ref a0 :: st) G I = E m (pc + 3) ls st G (cpI I a0 a1 xs xd xn) := by
  subst hxs; subst hxd; subst hxn
  exact e_acopy hb hc hd hm hcat hr hk0 hk1 h1 hl0 hl1 h2
theorem sL_k {ls : List (Option Value)} {i : Nat} {v : Value} {ls' : List (Option Value)} (h1 : Nat.blt i ls.length = true) (h2 : i = 0 ∨ isJ ls[i - 1]? = false) (h3 : ls.set i (some v) = ls') : sL ls i v = some ls' := by
  have h4 : i < ls.length := Nat.le_of_ble_eq_true h1
  unfold sL
  rw [← h3]
  have e : (decide (i < ls.length) && (decide (i = 0) || !isJ ls[i - 1]?)) = true := by
    rcases h2 with h | h
    · rw [decide_eq_true h4, decide_eq_true h]; rfl
    · rw [decide_eq_true h4, h]; simp
  rw [e]
end ST
