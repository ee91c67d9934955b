/-! ===== what a run of the small machine says of the machine: statement, room, calls ===== -/
def okS (G : Gt) (s : Sr) : Prop := match s with
  | .inl none => True
  | .inl (some x) => G.1 ≤ x.2.1.1 ∧ G.2.1 ≤ x.2.1.2.1
  | .inr (.inl c) => G.1 ≤ c.2.2.2.2.1.1 ∧ G.2.1 ≤ c.2.2.2.2.1.2.1
  | .inr (.inr (c, _)) => G.1 ≤ c.2.2.2.2.1.1 ∧ G.2.1 ≤ c.2.2.2.2.1.2.1
theorem okS_no (G : Gt) : okS G no := trivial
theorem okS_go (G : Gt) (m pc : Nat) (ls : List (Option Value)) (st : List Value) (I : It) : okS G (go m pc ls st G I) := ⟨Nat.le_refl _, Nat.le_refl _⟩
theorem okS_gd {G : Gt} {c : Bool} {s : Sr} (h : okS G s) : okS G (gd c s) := by cases c <;> first | exact trivial | exact h
theorem okS_ldI (G : Gt) (o : Option (Option Value)) (m pc : Nat) (ls : List (Option Value)) (st : List Value) (I : It) : okS G (ldI o m pc ls st G I) := by unfold ldI; split <;> first | exact okS_go .. | exact trivial
theorem okS_ldJ (G : Gt) (o : Option (Option Value)) (m pc : Nat) (ls : List (Option Value)) (st : List Value) (I : It) : okS G (ldJ o m pc ls st G I) := by unfold ldJ; split <;> first | exact okS_go .. | exact trivial
theorem okS_ldA (G : Gt) (o : Option (Option Value)) (m pc : Nat) (ls : List (Option Value)) (st : List Value) (I : It) : okS G (ldA o m pc ls st G I) := by unfold ldA; split <;> first | exact okS_go .. | exact trivial
theorem okS_stI (G : Gt) (i m pc : Nat) (ls : List (Option Value)) (st : List Value) (I : It) : okS G (stI i m pc ls st G I) := by unfold stI; split <;> first | (split <;> first | exact okS_go .. | exact trivial) | exact trivial
theorem okS_stJ (G : Gt) (i m pc : Nat) (ls : List (Option Value)) (st : List Value) (I : It) : okS G (stJ i m pc ls st G I) := by unfold stJ; split <;> first | (split <;> first | exact okS_go .. | exact trivial) | exact trivial
theorem okS_stA (G : Gt) (i m pc : Nat) (ls : List (Option Value)) (st : List Value) (I : It) : okS G (stA i m pc ls st G I) := by unfold stA; split <;> first | (split <;> first | exact okS_go .. | exact trivial) | exact trivial
theorem okS_br (G : Gt) (c : Bool) (m pc : Nat) (off : Int) (ls : List (Option Value)) (st : List Value) (I : It) : okS G (br c m pc off ls st G I) := by unfold br; refine okS_gd ?_; split <;> exact okS_go ..
theorem okS_pf (G : Gt) (m o ci k pc : Nat) (ls : List (Option Value)) (v : Value) (st : List Value) (I : It) : okS G (pf m o ci k pc ls v st G I) := by
  unfold pf
  split
  · exact okS_go ..
  · exact okS_gd (okS_go ..)
  · exact ⟨Nat.le_refl _, Nat.le_refl _⟩
  · exact trivial
theorem okS_cal (G : Gt) (m m' pc : Nat) (vs : List Value) (ls : List (Option Value)) (rest : List Value) (I : It) : okS G (cal m m' pc vs ls rest G I) := by unfold cal; exact okS_gd ⟨Nat.le_refl _, Nat.le_refl _⟩
theorem okS_nG (G : Gt) (kk len m pc : Nat) (ls : List (Option Value)) (st : List Value) (I : It) : okS G (go m pc ls st (nG G kk len) I) := ⟨Nat.le_succ _, Nat.le_add_right _ _⟩
theorem okS_sdi (i : Instr) (m pc : Nat) (ls : List (Option Value)) (st : List Value) (G : Gt) (I : It) : okS G (sdi i m pc ls st G I) := by
  cases i <;> first
    | exact trivial
    | exact okS_go ..
    | exact okS_ldI ..
    | exact okS_ldJ ..
    | exact okS_ldA ..
    | exact okS_stI ..
    | exact okS_stJ ..
    | exact okS_stA ..
    | exact okS_gd (okS_nG ..)
    | exact okS_gd (okS_go ..)
    | (simp only [sdi]; repeat' (first | exact trivial | exact okS_go .. | exact okS_gd (okS_go ..) | exact okS_br .. | exact okS_gd (okS_pf ..) | exact okS_gd (okS_nG ..) | exact okS_gd (okS_cal ..) | exact okS_gd ⟨Nat.le_refl _, Nat.le_refl _⟩ | exact okS_gd trivial | split))
theorem okS_sd (m pc : Nat) (ls : List (Option Value)) (st : List Value) (G : Gt) (I : It) : okS G (sd (m, pc, ls, st, G, I)) := by
  unfold sd
  split
  · exact okS_gd (okS_sdi ..)
  · exact trivial
theorem run_grow : ∀ (f m pc : Nat) (ls : List (Option Value)) (st : List Value) (G : Gt) (I : It) (r : Option Value) (G' : Gt) (I' : It), run f (m, pc, ls, st, G, I) = some (r, G', I') → G.1 ≤ G'.1 ∧ G.2.1 ≤ G'.2.1 := by
  intro f
  induction f with
  | zero => intro m pc ls st G I r G' I' h; simp [run] at h
  | succ f ih =>
    intro m pc ls st G I r G' I' h
    have ok := okS_sd m pc ls st G I
    rw [run] at h
    cases hs : sd (m, pc, ls, st, G, I) with
    | inl x =>
      rw [hs] at h ok
      have h : x = some (r, G', I') := h
      subst h
      exact ok
    | inr q =>
      cases q with
      | inl c =>
        obtain ⟨m1, pc1, ls1, st1, G1, I1⟩ := c
        rw [hs] at h ok
        have h2 := ih _ _ _ _ _ _ _ _ _ h
        exact ⟨Nat.le_trans ok.1 h2.1, Nat.le_trans ok.2 h2.2⟩
      | inr q =>
        obtain ⟨⟨m1, pc1, ls1, st1, G1, I1⟩, m2, pc2, ls2, rest⟩ := q
        rw [hs] at h ok
        simp only [rn] at h
        cases hr : run f (m1, pc1, ls1, st1, G1, I1) with
        | none => rw [hr] at h; cases h
        | some y =>
          obtain ⟨r2, G2, I2⟩ := y
          rw [hr] at h
          have h1 := ih _ _ _ _ _ _ _ _ _ hr
          have h2 := ih _ _ _ _ _ _ _ _ _ h
          exact ⟨Nat.le_trans ok.1 (Nat.le_trans h1.1 h2.1), Nat.le_trans ok.2 (Nat.le_trans h1.2 h2.2)⟩
def XN (K : KT) (U : State) : Prop := va_K (kD K) vwCl (tysK K) U ∧ (∀ q ∈ nTl, va_Nw (.methodLinkNest (pO q.1) q.2.1 (pY q.2.2) "SettingsVault") U) ∧ va_AO RX1 U ∧ va_AO RX0 U
def KU (K : KT) (G : Gt) (I : It) (U : State) : Prop := HP K G I U.heap ∧ XN K U ∧ va_X (kb K) (kLn K) (kX K) U U.heap ∧ kb K < kB K ∧ kB K ≤ U.heap.size
/-- the frame of the method m, at its place in the machine -/
def Fr (K : KT) (p : Program) (s : State) (m : Nat) (mid : MethodId) (args : Array Value) (meth : Method) (c : Code) (R : Room) : Prop :=
  p.tables.exec = Jvm.exec ∧ c.code = pB m ∧ c.maxLocals = pL m ∧ s.vm.findClass (pO (pC m)) = some mid.cls ∧ (∀ w ∈ tw, w.before args s = true) ∧ (pK m = 2 → meth.name = "<init>") ∧ XN K s ∧ va_X (kb K) (kLn K) (kX K) s s.heap ∧ pF m ≤ R.frames ∧ pW m ≤ R.locals ∧ kb K < kB K ∧ kB K ≤ s.heap.size
def Ret (m pc : Nat) (r : Option Value) : Prop := match r with
  | none => decode (pB m) pc = .ok (.return_, 1) ∧ pR m = none
  | some (.int v) => decode (pB m) pc = .ok (.ireturn, 1) ∧ rtI m v = true
  | some (.ref _) => decode (pB m) pc = .ok (.areturn, 1) ∧ rtA m = true
  | _ => False
def SIM (l : Launch) (K : KT) (f : Nat) : Prop := ∀ (m pc : Nat) (als : List (Option Value)) (st : List Value) (G : Gt) (I : It) (r : Option Value) (G' : Gt) (I' : It), run f (m, pc, als, st, G, I) = some (r, G', I') →
  ∀ {p : Program} {e : Env} {s : State} {mid : MethodId} {args : Array Value} {below : List Frame} {meth : Method} {c : Code} {H : Heap} {locs : List Loc} {R : Room} {cells slots cf sf : Nat} {Q : State → Prop} {ls : Array Slot},
    Fr K p s m mid args meth c R → HP K G I H → va_S (kfr K) s.heap H locs → LO K als ls → als.length = pL m → H.size = s.heap.size + cells → cells + (G'.1 - G.1) = cf → slots + (G'.2.1 - G.2.1) = sf → cf ≤ R.cells → sf ≤ R.slots →
    (∀ (pc' : Nat) (ls' : Array Slot) (H' : Heap) (locs' : List Loc), HP K G' I' H' → va_S (kfr K) s.heap H' locs' → Ret m pc' r → W p l e R s mid args below meth c H' locs' cf sf Q (F0 mid pc' ls' ((r.map (tr K)).toList))) →
    W p l e R s mid args below meth c H locs cells slots Q (F0 mid pc ls (st.map (tr K)))
def Qx (K : KT) (G' : Gt) (I' : It) (r : Option Value) : Array Value → State → Outcome → State → Prop := match r with
  | none => va_Qv (S := Unit) (fun _ => True) (fun _ t => HP K G' I' t.heap) (kfr K)
  | some (.int v) => va_Qi (S := Unit) (fun x _ => x = v) (fun _ t => HP K G' I' t.heap) (kfr K)
  | some (.ref v) => va_Qr (S := Unit) (fun _ => True) (fun _ a t => a = ad K v ∧ HP K G' I' t.heap) (kfr K)
  | _ => fun _ _ _ _ => False
theorem pT_at {m : Nat} (h : m < 136) : pT[m]? = some (pT.getD m pD) := by
  have hl : pT.length = 136 := by decide +kernel
  rw [List.getD_eq_getElem?_getD, List.getElem?_eq_getElem (by omega)]
  rfl
theorem meth_ok {m : Nat} (h : m < 136) : plainFor (pY m) = true ∧ (pY m).cls = pO (pC m) ∧ (pY m).cls ≠ "java/lang/invoke/MethodHandle" ∧ (pY m).cls ≠ "java/lang/invoke/VarHandle" ∧ (parseMethodDescriptor (pY m).desc).map (fun d => d.parameters.length) = some (pN m) ∧ (pK m = 2 → (pY m).name = "<init>" ∧ pR m = none) ∧ pC m < 10 ∧ pC m ≠ 7 := by
  have h1 := List.all_eq_true.mp wd_meths _ (List.mem_of_getElem? (pT_at h))
  unfold wd_meth at h1
  simp only [Bool.and_eq_true, decide_eq_true_eq] at h1
  obtain ⟨⟨⟨⟨⟨⟨a1, a2⟩, a3⟩, a4⟩, a5⟩, a6⟩, a7⟩ := h1
  exact ⟨a1, a2, a3, a4, a5, a6, a7⟩
theorem init_ok {c : Nat} (h : c < 10 ∧ c ≠ 7) : Cond.initialized (pO c) ∈ tw := by
  have h1 := List.all_eq_true.mp wd_inits
  have : ∀ c, c < 10 → c ≠ 7 → wd_ip[if c < 7 then c else c - 1]? = some (c, (wd_ip.getD (if c < 7 then c else c - 1) (0, 0)).2) := by decide +kernel
  exact wd_in (h1 _ (List.mem_of_getElem? (this c h.1 h.2)))
theorem XN_moved {K : KT} {s U : State} (hW : s.WarmedH U.vm) (h : XN K s) : XN K U :=
  ⟨va_K.moved hW.alike h.1, fun q hq => va_Nw.warmM hW (h.2.1 q hq), va_AO.moved hW.alike h.2.2.1, va_AO.moved hW.alike h.2.2.2⟩
theorem XN_vm {K : KT} {s U : State} (e : s.vm = U.vm) (h : XN K s) : XN K U :=
  ⟨va_K.moved (by rw [e]; exact Vm.Alike.refl _) h.1, fun q hq => va_Nw.same rfl e (h.2.1 q hq), va_AO.moved (by rw [e]; exact Vm.Alike.refl _) h.2.2.1, va_AO.moved (by rw [e]; exact Vm.Alike.refl _) h.2.2.2⟩
theorem KU_blind (K : KT) (G : Gt) (I : It) (vs : List Value) : FrameBlind (va_Pc vs (KU K G I)) := by
  intro a U g mk h
  obtain ⟨h0, h1, h2, h3, h4⟩ := h
  exact ⟨h0, h1, XN_vm (s := U) (U := U.calling g mk a) rfl h2, va_X.moved (u := U) (U := U.calling g mk a) (Vm.Alike.refl U.vm) h3, h4⟩
theorem KU_at {K : KT} {p : Program} {s : State} {m : Nat} {mid : MethodId} {args : Array Value} {meth : Method} {c : Code} {R : Room} {G : Gt} {I : It} {H : Heap} {locs : List Loc} (hF : Fr K p s m mid args meth c R) (hP : HP K G I H) (hS : va_S (kfr K) s.heap H locs) : ∀ U : State, U.heap = H → s.WarmedH U.vm → KU K G I U := by
  intro U hU hW
  obtain ⟨-, -, -, -, -, -, h7, h8, -, -, h11, h12⟩ := hF
  have hbl : kb K < s.heap.size := Nat.lt_of_lt_of_le h11 h12
  refine ⟨by rw [hU]; exact hP, XN_moved hW h7, ?_, h11, by rw [hU]; exact Nat.le_trans h12 hS.1⟩
  rw [hU]
  exact (va_X.moved hW.alike h8).kept (hS.2.1 _ hbl (by show ¬ kB K ≤ kb K; omega))
theorem met_of_sim {l : Launch} {K : KT} {f : Nat} (hS : SIM l K f) {m : Nat} {vs : List Value} {G : Gt} {I : It} {r : Option Value} {G' : Gt} {I' : It} (hm : m < 135) (hr : run f (m, 0, eL (pL m) vs, [], G, I) = some (r, G', I')) (hl : (aL vs).length ≤ pL m) :
    Met l (pY m) (.code (pY m) (pB m) (pL m) (pR m) :: tw) { frames := pF m, cells := G'.1 - G.1, slots := G'.2.1 - G.2.1, locals := pW m } (va_Pc (vs.map (tr K)) (KU K G I)) (Qx K G' I' r) (G'.1 - G.1) (G'.2.1 - G.2.1) (kfr K) := by
  obtain ⟨ok1, ok2, -, -, -, ok6, -⟩ := meth_ok (show m < 136 by omega)
  refine va_MetF (cc := pB m) (maxL := pL m) (ret := pR m) ok1 rfl ?_
  intro p e s mid args below meth c s₁ B hml hv
  obtain ⟨rfl, hP, hX, hXs, hb1, hb2⟩ := hv
  have hts := atoms_spec (ws := .code (pY m) (pB m) (pL m) (pR m) :: tw) B.pre
  have hown : s.vm.findClass (pO (pC m)) = some mid.cls := by rw [← ok2]; exact findClass_of_methodNamed B.named
  have hF : Fr K p s m mid (vs.map (tr K)).toArray meth c { frames := pF m, cells := G'.1 - G.1, slots := G'.2.1 - G.2.1, locals := pW m } :=
    ⟨B.exec, B.bytes, hml, hown, fun w hw => hts w (List.mem_cons_of_mem _ hw), fun hk => by rw [(name_of_methodNamed B.named B.method).1]; exact (ok6 hk).1, hX, hXs, Nat.le_refl _, Nat.le_refl _, hb1, hb2⟩
  have hll : (eL (pL m) vs).length = pL m := by unfold eL; rw [List.length_append, List.length_replicate]; omega
  rw [lg_entry_eq]
  refine hS m 0 (eL (pL m) vs) [] G I r G' I' hr hF hP va_S.rf (LO_entry K vs hl) hll rfl rfl rfl (Nat.le_of_eq (Nat.zero_add _)) (Nat.le_of_eq (Nat.zero_add _)) ?_
  intro pc' ls' H' locs' hP' hS' hret
  have hx := B.exec
  have hb := B.bytes
  have hlocks := B.notSynchronized
  rw [Nat.zero_add, Nat.zero_add]
  cases r with
  | none =>
    obtain ⟨d, hn⟩ := hret
    refine W.vret hx hb (by rw [B.returns, hn]) (fun t ht hW => ⟨⟨(), rfl, trivial, by show HP K G' I' t.heap; rw [ht]; exact hP'⟩, hS'.F ht⟩) hS'.2.2 d hlocks
  | some v =>
    cases v with
    | int v =>
      obtain ⟨d, hn⟩ := hret
      unfold rtI at hn
      simp only [Bool.or_eq_true, Bool.and_eq_true, decide_eq_true_eq] at hn
      have hq : ∀ t : State, t.heap = H' → s.WarmedH t.vm → Qx K G' I' (some (.int v)) (vs.map (tr K)).toArray s (.returned (some (.int v))) t := fun t ht hW => ⟨⟨v, (), rfl, rfl, by show HP K G' I' t.heap; rw [ht]; exact hP'⟩, hS'.F ht⟩
      rcases hn with hn | ⟨hn, hv⟩
      · exact W.zret (ty := .int) hx hb (by rw [B.returns, hn]) rfl hq hS'.2.2 d hlocks
      · refine W.zret (ty := .boolean) hx hb (by rw [B.returns, hn]) ?_ hq hS'.2.2 d hlocks
        unfold b01 at hv
        simp only [Bool.or_eq_true, decide_eq_true_eq] at hv
        rcases hv with rfl | rfl <;> rfl
    | ref v =>
      obtain ⟨d, hn⟩ := hret
      have hq : ∀ t : State, t.heap = H' → s.WarmedH t.vm → Qx K G' I' (some (.ref v)) (vs.map (tr K)).toArray s (.returned (some (.ref (ad K v)))) t := fun t ht hW => ⟨⟨(), ad K v, rfl, trivial, rfl, by show HP K G' I' t.heap; rw [ht]; exact hP'⟩, hS'.F ht⟩
      unfold rtA at hn
      have hrt : ∃ rt, pR m = some rt ∧ ((∃ n, rt = .object n) ∨ ∃ t, rt = .array t) := by
        split at hn
        · exact ⟨_, by assumption, Or.inl ⟨_, rfl⟩⟩
        · exact ⟨_, by assumption, Or.inr ⟨_, rfl⟩⟩
        · cases hn
      obtain ⟨rt, h1, h2⟩ := hrt
      exact W.aret (rt := rt) hx hb (by rw [B.returns, h1]) h2 (Or.inr ⟨_, rfl⟩) hq hS'.2.2 d hlocks
    | _ => exact hret.elim
