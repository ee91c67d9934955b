/-! ===== one step of the small machine is a step of the machine ===== -/
theorem rn_no {g : Cf → Option Rs} {x : Rs} (h : rn g no = some x) : False := by cases (show (none : Option Rs) = some x from h)
theorem rn_gd {g : Cf → Option Rs} {c : Bool} {s : Sr} {x : Rs} (h : rn g (gd c s) = some x) : c = true ∧ rn g s = some x := by
  cases c with
  | false => exact (rn_no h).elim
  | true => exact ⟨rfl, h⟩
theorem rn_br {g : Cf → Option Rs} {c : Bool} {m pc : Nat} {off : Int} {ls : List (Option Value)} {st : List Value} {G : Gt} {I : It} {x : Rs} (h : rn g (br c m pc off ls st G I) = some x) :
    tgok pc off = true ∧ (c = true → rn g (go m (tg pc off) ls st G I) = some x) ∧ (c = false → rn g (go m (pc + 3) ls st G I) = some x) := by
  obtain ⟨h1, h2⟩ := rn_gd h
  exact ⟨h1, fun e => by rw [e] at h2; exact h2, fun e => by rw [e] at h2; exact h2⟩
theorem tg_eq {pc : Nat} {off : Int} (h : tgok pc off = true) : (pc : Int) + off = (tg pc off : Int) := by
  unfold tgok at h
  simp only [decide_eq_true_eq] at h
  unfold tg
  omega
theorem sL_len {ls ls' : List (Option Value)} {i : Nat} {v : Value} (h : sL ls i v = some ls') : i < ls.length ∧ ls'.length = ls.length := by
  unfold sL at h
  split at h
  · rename_i hc
    simp only [Bool.and_eq_true, decide_eq_true_eq] at hc
    rw [← Option.some.inj h, List.length_set]
    exact ⟨hc.1, rfl⟩
  · cases h
theorem sL2_len {ls ls' : List (Option Value)} {i : Nat} {v : Value} (h : sL2 ls i v = some ls') : i + 1 < ls.length ∧ ls'.length = ls.length := by
  unfold sL2 at h
  split at h
  · rename_i hc
    simp only [Bool.and_eq_true, decide_eq_true_eq] at hc
    rw [← Option.some.inj h, List.length_set, List.length_set]
    exact ⟨hc.1.1, rfl⟩
  · cases h
theorem inb_spec {i : Int32} {n : Nat} (h : inb i n = true) : vp_in i n := by
  unfold inb at h
  simp only [Bool.and_eq_true, decide_eq_true_eq] at h
  exact vp_in_iff.mpr h
theorem fL_mem {c i : Nat} (h : (fL c i).1 < 7) : (c, i, (fL c i).1, (fL c i).2) ∈ fTl := by
  unfold fL at h ⊢
  split at h
  · rename_i q hq
    have h1 := List.find?_some hq
    simp only [Bool.and_eq_true, beq_iff_eq] at h1
    have h2 := List.mem_of_find?_eq_some hq
    obtain ⟨a, b, c', d⟩ := q
    obtain ⟨e1, e2⟩ := h1
    simp only at e1 e2
    subst e1; subst e2
    exact h2
  · simp at h
theorem mL_mem {c i : Nat} (h : (mL c i).2 < 9) : (c, i, (mL c i).1, (mL c i).2) ∈ mTl := by
  unfold mL at h ⊢
  split at h
  · rename_i q hq
    have h1 := List.find?_some hq
    simp only [Bool.and_eq_true, beq_iff_eq] at h1
    have h2 := List.mem_of_find?_eq_some hq
    obtain ⟨a, b, c', d⟩ := q
    obtain ⟨e1, e2⟩ := h1
    simp only at e1 e2
    subst e1; subst e2
    exact h2
  · simp at h
theorem kL_mem {c i : Nat} (h : kL c i < 7) : (c, i, kL c i) ∈ kTl := by
  unfold kL at h ⊢
  split at h
  · rename_i q hq
    have h1 := List.find?_some hq
    simp only [Bool.and_eq_true, beq_iff_eq] at h1
    have h2 := List.mem_of_find?_eq_some hq
    obtain ⟨a, b, c'⟩ := q
    obtain ⟨e1, e2⟩ := h1
    simp only at e1 e2
    subst e1; subst e2
    exact h2
  · simp at h
theorem lL_mem {c i : Nat} {v : Int64} (h : lL c i = some v) : (c, i, v) ∈ lTl := by
  unfold lL at h
  split at h
  · rename_i q hq
    have h1 := List.find?_some hq
    simp only [Bool.and_eq_true, beq_iff_eq] at h1
    have h2 := List.mem_of_find?_eq_some hq
    obtain ⟨a, b, c'⟩ := q
    obtain ⟨e1, e2⟩ := h1
    simp only at e1 e2
    subst e1; subst e2
    have h3 : c' = v := Option.some.inj h
    rw [← h3]
    exact h2
  · cases h
theorem cL_mem {c i : Nat} {v : Int32} (h : cL c i = some v) : (c, i, v) ∈ cTl := by
  unfold cL at h
  split at h
  · rename_i q hq
    have h1 := List.find?_some hq
    simp only [Bool.and_eq_true, beq_iff_eq] at h1
    have h2 := List.mem_of_find?_eq_some hq
    obtain ⟨a, b, c'⟩ := q
    obtain ⟨e1, e2⟩ := h1
    simp only at e1 e2
    subst e1; subst e2
    have h3 : c' = v := Option.some.inj h
    rw [← h3]
    exact h2
  · cases h
theorem cl_at {c : Nat} (h : c < 7) : vwCl[c]? = some (clC c, clT c, clN c) := by
  have : c = 0 ∨ c = 1 ∨ c = 2 ∨ c = 3 ∨ c = 4 ∨ c = 5 ∨ c = 6 := by omega
  rcases this with rfl | rfl | rfl | rfl | rfl | rfl | rfl <;> rfl
theorem cl_lays {c : Nat} (h : c < 7) : ∀ w ∈ u_ws (clC c) (clT c) (clN c), w ∈ tw := by
  intro w hw
  have h1 := List.all_eq_true.mp (List.all_eq_true.mp wd_lays c (List.mem_range.mpr h)) w hw
  simp only [Bool.and_eq_true, decide_eq_true_eq] at h1
  exact List.mem_filter.mpr h1
theorem cl_inst {c : Nat} (h : c < 7) : Cond.instantiable (clC c) (clN c) ∈ tw ∧ Cond.initialized (clC c) ∈ tw := by
  have h1 := List.all_eq_true.mp wd_class c (List.mem_range.mpr h)
  simp only [Bool.and_eq_true, decide_eq_true_eq] at h1
  exact ⟨List.mem_filter.mpr ⟨h1.1.1.1, h1.1.1.2⟩, List.mem_filter.mpr ⟨h1.1.2, h1.2⟩⟩
theorem cl_ty {c : Nat} (h : c < 7) : ∀ k, k < clN c → parseFieldDescriptor (clT c k).2.2.1 = some (clY c k) := by
  intro k hk
  have h1 := List.all_eq_true.mp (List.all_eq_true.mp wd_fieldT c (List.mem_range.mpr h)) k (List.mem_range.mpr hk)
  simp only [Bool.and_eq_true, decide_eq_true_eq] at h1
  exact h1.1.2
theorem cl_ft {c : Nat} (h : c < 7) : ∀ k, k < clN c → fT c k = (match clY c k with | .int => 0 | .boolean => 1 | .object _ => 2 | .array _ => 2 | _ => 7) ∧ fT c k < 3 := by
  intro k hk
  have h1 := List.all_eq_true.mp (List.all_eq_true.mp wd_fieldT c (List.mem_range.mpr h)) k (List.mem_range.mpr hk)
  simp only [Bool.and_eq_true, decide_eq_true_eq] at h1
  exact ⟨h1.1.1, h1.2⟩
theorem cl_nm {c : Nat} (h : c < 7) : ∀ a, a < clN c → ∀ b, b < clN c → a ≠ b → (clT c a).2.1 ≠ (clT c b).2.1 := by
  intro a ha b hb
  have h1 := List.all_eq_true.mp (List.all_eq_true.mp (List.all_eq_true.mp wd_names c (List.mem_range.mpr h)) a (List.mem_range.mpr ha)) b (List.mem_range.mpr hb)
  simp only [decide_eq_true_eq] at h1
  exact h1
theorem tr_rf (K : KT) (x : Option Nat) : tr K (va_rf x) = va_rf (x.map (ad K)) := by cases x <;> rfl
theorem tr_gf (K : KT) (G : Gt) (I : It) (c o k : Nat) : tr K (gf G I c o k) = fvl K c G I o k := by
  unfold gf fvl
  split
  · exact tr_rf K _
  · rfl
section SIMS
variable {p : Program} {l : Launch} {e : Env} {R : Room} {s : State} {m : MethodId} {args : Array Value} {below : List Frame} {meth : Method} {c : Code} {H : Heap} {locs : List Loc} {cells slots : Nat} {Q : State → Prop}
theorem W_sz {g : JFrame} (h : H.size ≤ s.heap.size + cells → W p l e R s m args below meth c H locs cells slots Q g) : W p l e R s m args below meth c H locs cells slots Q g := by
  intro T hT X
  have h1 := X.heapSize
  rw [hT] at h1
  exact h h1 T hT X
theorem call_done {K : KT} {G1 : Gt} {I1 : It} {r1 : Option Value} {aa : Array Value} {mc ms pc : Nat} {ls : Array Slot} {st0 rest : List Value} (hr : va_Run p l e R s m args below meth c H locs cells slots mc ms (F0 m pc ls st0) rest (Qx K G1 I1 r1 aa) (kfr K)) (hS : va_S (kfr K) s.heap H locs)
    (kk : ∀ (H1 : Heap) (locs1 : List Loc), HP K G1 I1 H1 → va_S (kfr K) s.heap H1 locs1 → W p l e R s m args below meth c H1 locs1 (cells + mc) (slots + ms) Q (F0 m (pc + 3) ls ((r1.map (tr K)).toList ++ rest))) : W p l e R s m args below meth c H locs cells slots Q (F0 m pc ls st0) := by
  cases r1 with
  | none => exact va_callv (a := aa) hr hS (fun _ _ h => h) (fun _ h => h) (fun u t H1 locs1 ht _ _ hB _ _ hS1 => kk H1 locs1 (ht ▸ hB) hS1)
  | some v =>
    cases v with
    | int v => exact va_calli (a := aa) hr hS (fun _ _ h => h) (fun _ h => h) (fun x u t H1 locs1 ht _ hp hB _ _ hS1 => by have := kk H1 locs1 (ht ▸ hB) hS1; rw [show x = v from hp]; exact this)
    | ref v => exact va_callr (a := aa) hr hS (fun _ _ h => h) (fun _ h => h) (fun u a t H1 locs1 ht _ _ hB _ _ hS1 => by have := kk H1 locs1 (ht ▸ hB.2) hS1; rw [hB.1]; exact this)
    | _ => intro T hT X; obtain ⟨_, _, _, _, _, _, _, _, _, _, hq, _⟩ := hr T hT X; exact hq.elim
end SIMS
