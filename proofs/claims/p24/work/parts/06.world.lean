/-! ===== the machine's heap as the small machine's: addresses, cells ===== -/
/-- what is known of the launch: the classes' numbers and slots, the array classes' numbers, the script's cell, the first cell of ours, the script's length and contents -/
abbrev KT : Type := va_G × (Nat → ClassId) × Nat × Nat × Nat × (Nat → Int32)
def kD (K : KT) : va_G := K.1
def kA (K : KT) : Nat → ClassId := K.2.1
def kb (K : KT) : Nat := K.2.2.1
def kB (K : KT) : Nat := K.2.2.2.1
def kLn (K : KT) : Nat := K.2.2.2.2.1
def kX (K : KT) : Nat → Int32 := K.2.2.2.2.2
def tysK (K : KT) : List (ClassId × FieldType) := [(kA K 0, .int), (kA K 1, .boolean), (kA K 2, .char), (kA K 3, .object RX1), (kA K 4, .object RX0)]
def ad (K : KT) (o : Nat) : Nat := if o = 0 then kb K else kB K + (o - 1)
def tr (K : KT) : Value → Value
  | .ref a => .ref (ad K a)
  | v => v
def kfr (K : KT) : Nat → Prop := fun q => kB K ≤ q
def fvl (K : KT) (c : Nat) (G : Gt) (I : It) (o k : Nat) : Value := if fT c k = 2 then va_rf ((rf G o k).map (ad K)) else .int (I o k)
def elt (K : KT) (G : Gt) (I : It) (o : Nat) : va_E :=
  if (G.2.2.1 o).1 < 50 then .inr ((G.2.2.1 o).1, (List.range (clN (G.2.2.1 o).1)).map (fvl K (G.2.2.1 o).1 G I o))
  else if (G.2.2.1 o).1 < 53 then .inl (kA K ((G.2.2.1 o).1 - 50), (G.2.2.1 o).2, .inl (I o))
  else .inl (kA K ((G.2.2.1 o).1 - 50), (G.2.2.1 o).2, .inr (.inr (.inr (.inr (fun j => (rf G o j).map (ad K))))))
def wsO (K : KT) (G : Gt) (I : It) : va_W := (List.range (G.1 - 1)).map (fun k => (ad K (k + 1), elt K G I (k + 1)))
def HP (K : KT) (G : Gt) (I : It) (H : Heap) : Prop := va_P (kD K) vwCl (wsO K G I) H ∧ H.size + 1 = kB K + G.1 ∧ 1 ≤ G.1 ∧ G.2.2.1 0 = (60, kLn K) ∧ I 0 = kX K
theorem rmap_get {α : Type} (N k : Nat) (f : Nat → α) (h : k < N) : ((List.range N).map f)[k]? = some (f k) := by
  rw [List.getElem?_map, List.getElem?_range h]; rfl
theorem rmap_set {α : Type} (N k : Nat) (f f' : Nat → α) (v : α) (h1 : f' k = v) (h2 : ∀ j, j ≠ k → f' j = f j) : ((List.range N).map f).set k v = (List.range N).map f' := by
  apply List.ext_getElem?
  intro i
  rw [List.getElem?_set]
  by_cases hi : k = i
  · subst hi
    rw [if_pos rfl]
    by_cases hl : k < N
    · rw [if_pos (by simpa using hl), rmap_get N k f' hl, h1]
    · rw [if_neg (by simpa using hl), List.getElem?_eq_none (by simpa using hl)]
  · rw [if_neg hi]
    by_cases hl : i < N
    · rw [rmap_get N i f hl, rmap_get N i f' hl, h2 i (Ne.symm hi)]
    · rw [List.getElem?_eq_none (by simpa using hl), List.getElem?_eq_none (by simpa using hl)]
theorem ad_pos {K : KT} {o : Nat} (h : 0 < o) : ad K o = kB K + (o - 1) := by unfold ad; rw [if_neg (by omega)]
theorem wsO_D (K : KT) (G : Gt) (I : It) : va_D (kfr K) (wsO K G I) := by
  have key : ∀ (k : Nat) (q : Nat × va_E), (wsO K G I)[k]? = some q → q.1 = kB K + k := by
    intro k q h
    have hl : k < G.1 - 1 := by
      have := (List.getElem?_eq_some_iff.mp h).1
      simpa [wsO] using this
    unfold wsO at h
    rw [rmap_get _ _ _ hl] at h
    rw [← Option.some.inj h]
    show ad K (k + 1) = _
    rw [ad_pos (Nat.succ_pos k)]
    simp
  refine ⟨fun i j p q h1 h2 h3 => ?_, fun k q h => ?_⟩
  · have a1 := key i p h1
    have a2 := key j q h2
    omega
  · show kB K ≤ q.1
    rw [key k q h]
    omega
theorem kd_spec {G : Gt} {o c : Nat} (h : kd G o = c) (h0 : c ≠ 60) (h9 : c ≠ 99) : 0 < o ∧ o < G.1 ∧ (G.2.2.1 o).1 = c := by
  unfold kd at h
  by_cases a : o = 0
  · rw [if_pos a] at h; exact absurd h.symm h0
  · rw [if_neg a] at h
    by_cases e : o < G.1
    · rw [if_pos e] at h; exact ⟨by omega, e, h⟩
    · rw [if_neg e] at h; exact absurd h.symm h9
theorem wsO_get {K : KT} {G : Gt} {I : It} {o : Nat} (h0 : 0 < o) (h : o < G.1) : (wsO K G I)[o - 1]? = some (ad K o, elt K G I o) := by
  unfold wsO
  rw [rmap_get _ _ _ (by omega)]
  simp only [Nat.sub_add_cancel h0]
theorem wsO_set {K : KT} {G G' : Gt} {I I' : It} {o : Nat} {e : va_E} (h0 : 0 < o) (hn : G'.1 = G.1) (he : elt K G' I' o = e) (hne : ∀ j, j ≠ o → elt K G' I' j = elt K G I j) : (wsO K G I).set (o - 1) (ad K o, e) = wsO K G' I' := by
  unfold wsO
  rw [hn]
  refine rmap_set _ _ _ _ _ ?_ fun j hj => ?_
  · simp only [Nat.sub_add_cancel h0, he]
  · rw [hne (j + 1) (by omega)]
theorem wsO_push {K : KT} {G G' : Gt} {I I' : It} {e : va_E} (h1 : 1 ≤ G.1) (hn : G'.1 = G.1 + 1) (he : elt K G' I' G.1 = e) (hne : ∀ j, j ≠ G.1 → elt K G' I' j = elt K G I j) : wsO K G' I' = wsO K G I ++ [(ad K G.1, e)] := by
  unfold wsO
  rw [hn, show G.1 + 1 - 1 = (G.1 - 1) + 1 by omega, List.range_succ, List.map_append]
  congr 1
  · apply List.map_congr_left
    intro k hk
    have := List.mem_range.mp hk
    rw [hne (k + 1) (by omega)]
  · simp only [List.map_cons, List.map_nil, Nat.sub_add_cancel h1, he]
theorem elt_obj {K : KT} {G : Gt} {I : It} {o c : Nat} (h : (G.2.2.1 o).1 = c) (hc : c < 7) : elt K G I o = .inr (c, (List.range (clN c)).map (fvl K c G I o)) := by
  unfold elt; rw [h, if_pos (by omega)]
theorem elt_int {K : KT} {G : Gt} {I : It} {o c : Nat} (h : (G.2.2.1 o).1 = c) (h1 : 50 ≤ c) (h2 : c < 53) : elt K G I o = .inl (kA K (c - 50), ln G o, .inl (I o)) := by
  unfold elt; rw [h, if_neg (by omega), if_pos h2]; rfl
theorem elt_ref {K : KT} {G : Gt} {I : It} {o c : Nat} (h : (G.2.2.1 o).1 = c) (h1 : 53 ≤ c) : elt K G I o = .inl (kA K (c - 50), ln G o, .inr (.inr (.inr (.inr (fun j => (rf G o j).map (ad K)))))) := by
  unfold elt; rw [h, if_neg (by omega), if_neg (by omega)]; rfl
/-- what is not written stays -/
theorem elt_same {K : KT} {G G' : Gt} {I I' : It} {o : Nat} (hk : G'.2.2.1 o = G.2.2.1 o) (hr : ∀ k, rf G' o k = rf G o k) (hI : I' o = I o) : elt K G' I' o = elt K G I o := by
  have e : fvl K (G.2.2.1 o).1 G' I' o = fvl K (G.2.2.1 o).1 G I o := by
    funext k
    unfold fvl
    rw [hr k, hI]
  unfold elt
  rw [hk, hI, e]
  simp only [hr]
theorem uI_o (I : It) (o k : Nat) (x : Int32) (a : Nat) (h : a ≠ o) : uI I o k x a = I a := by funext j; unfold uI; rw [if_neg h]
theorem uI_self (I : It) (o k : Nat) (x : Int32) : uI I o k x o = upd (I o) k x := by funext j; unfold uI upd; rw [if_pos rfl]
theorem wsP_lt {K : KT} {G : Gt} {I : It} {H : Heap} (h : va_P (kD K) vwCl (wsO K G I) H) (h2 : 2 ≤ G.1) : kB K + G.1 ≤ H.size + 1 := by
  have h1 := (h _ _ (wsO_get (o := G.1 - 1) (by omega) (by omega))).lt
  have h3 : ad K (G.1 - 1) < H.size := h1
  rw [ad_pos (by omega)] at h3
  omega
theorem HP_mk {K : KT} {G G' : Gt} {I I' : It} {H H1 : Heap} (h : HP K G I H) (hn : G'.1 = G.1) (h2 : 2 ≤ G.1) (hz : H1.size ≤ H.size) (h0 : G'.2.2.1 0 = G.2.2.1 0) (hI : I' 0 = I 0) (hp : va_P (kD K) vwCl (wsO K G' I') H1) : HP K G' I' H1 := by
  have := wsP_lt hp (by omega)
  have := h.2.1
  exact ⟨hp, by omega, by omega, h0.trans h.2.2.2.1, hI.trans h.2.2.2.2⟩
/-- an int array's store -/
theorem HP_ast {K : KT} {G : Gt} {I : It} {H : Heap} {a c k : Nat} {x : Int32} (h : HP K G I H) (ha : kd G a = c) (h1 : 50 ≤ c) (h2 : c < 53) :
    ∀ H1 : Heap, H1.size ≤ H.size → va_P (kD K) vwCl ((wsO K G I).set (a - 1) (ad K a, .inl (kA K (c - 50), ln G a, .inl (upd (I a) k x)))) H1 → HP K G (uI I a k x) H1 := by
  obtain ⟨p0, p1, p2⟩ := kd_spec ha (by omega) (by omega)
  intro H1 hz hp
  refine HP_mk (G' := G) h rfl (by omega) hz rfl (uI_o I a k x 0 (by omega)) ?_
  · rw [← wsO_set (G' := G) (I' := uI I a k x) p0 rfl (e := .inl (kA K (c - 50), ln G a, .inl (upd (I a) k x))) (by rw [elt_int p2 h1 h2, uI_self]) (fun j hj => elt_same rfl (fun _ => rfl) (uI_o I a k x j hj))]
    exact hp
theorem HP_acp {K : KT} {G : Gt} {I : It} {H : Heap} {a0 a c sp dp n : Nat} (h : HP K G I H) (ha : kd G a = c) (h1 : 50 ≤ c) (h2 : c < 53) :
    ∀ H1 : Heap, H1.size ≤ H.size → va_P (kD K) vwCl ((wsO K G I).set (a - 1) (ad K a, .inl (kA K (c - 50), ln G a, .inl (va_cpy (I a0) (I a) sp dp n)))) H1 → HP K G (cpI I a0 a sp dp n) H1 := by
  obtain ⟨p0, p1, p2⟩ := kd_spec ha (by omega) (by omega)
  have hs : cpI I a0 a sp dp n a = va_cpy (I a0) (I a) sp dp n := by funext j; unfold cpI; rw [if_pos rfl]
  have ho : ∀ z, z ≠ a → cpI I a0 a sp dp n z = I z := fun z hz => by funext j; unfold cpI; rw [if_neg hz]
  intro H1 hz hp
  refine HP_mk (G' := G) h rfl (by omega) hz rfl (ho 0 (by omega)) ?_
  · rw [← wsO_set (G' := G) (I' := cpI I a0 a sp dp n) p0 rfl (e := .inl (kA K (c - 50), ln G a, .inl (va_cpy (I a0) (I a) sp dp n))) (by rw [elt_int p2 h1 h2, hs]) (fun j hj => elt_same rfl (fun _ => rfl) (ho j hj))]
    exact hp
/-- a field's store: an int -/
theorem HP_pi {K : KT} {G : Gt} {I : It} {H : Heap} {o c k : Nat} {x : Int32} (h : HP K G I H) (ho : kd G o = c) (hc : c < 7) (ht : fT c k ≠ 2) :
    ∀ H1 : Heap, H1.size ≤ H.size → va_P (kD K) vwCl ((wsO K G I).set (o - 1) (ad K o, .inr (c, ((List.range (clN c)).map (fvl K c G I o)).set k (.int x)))) H1 → HP K G (uI I o k x) H1 := by
  obtain ⟨p0, p1, p2⟩ := kd_spec ho (by omega) (by omega)
  intro H1 hz hp
  refine HP_mk (G' := G) h rfl (by omega) hz rfl (uI_o I o k x 0 (by omega)) ?_
  · rw [rmap_set (clN c) k _ (fvl K c G (uI I o k x) o) (.int x) (by unfold fvl; rw [if_neg ht]; unfold uI; rw [if_pos rfl, if_pos rfl]) (fun j hj => by unfold fvl uI; rw [if_pos rfl, if_neg hj])] at hp
    rw [← wsO_set (G' := G) (I' := uI I o k x) p0 rfl (elt_obj p2 hc) (fun j hj => elt_same rfl (fun _ => rfl) (uI_o I o k x j hj))]
    exact hp
theorem rf_uG (G : Gt) (o k r a j : Nat) : rf (uG G o k r) a j = if a = o then (if j = k then some r else rf G a j) else rf G a j := rfl
/-- a field's store: a reference -/
theorem HP_pr {K : KT} {G : Gt} {I : It} {H : Heap} {o c k r : Nat} (h : HP K G I H) (ho : kd G o = c) (hc : c < 7) (ht : fT c k = 2) :
    ∀ H1 : Heap, H1.size ≤ H.size → va_P (kD K) vwCl ((wsO K G I).set (o - 1) (ad K o, .inr (c, ((List.range (clN c)).map (fvl K c G I o)).set k (.ref (ad K r))))) H1 → HP K (uG G o k r) I H1 := by
  obtain ⟨p0, p1, p2⟩ := kd_spec ho (by omega) (by omega)
  intro H1 hz hp
  refine HP_mk (G' := uG G o k r) h rfl (by omega) hz rfl rfl ?_
  rw [rmap_set (clN c) k _ (fvl K c (uG G o k r) I o) (.ref (ad K r)) (by unfold fvl; rw [if_pos ht, rf_uG, if_pos rfl, if_pos rfl]; rfl) (fun j hj => by unfold fvl; rw [rf_uG, if_pos rfl, if_neg hj])] at hp
  rw [← wsO_set (G := G) (I := I) (G' := uG G o k r) (I' := I) p0 rfl (elt_obj (G := uG G o k r) p2 hc) (fun j hj => elt_same rfl (fun z => by rw [rf_uG, if_neg hj]) rfl)]
  exact hp
/-- an array's store: a reference -/
theorem HP_ar {K : KT} {G : Gt} {I : It} {H : Heap} {o c k r : Nat} (h : HP K G I H) (ho : kd G o = c) (h1 : 53 ≤ c) (h2 : c ≤ 54) :
    ∀ H1 : Heap, H1.size ≤ H.size → va_P (kD K) vwCl ((wsO K G I).set (o - 1) (ad K o, .inl (kA K (c - 50), ln G o, .inr (.inr (.inr (.inr (va_up (fun j => (rf G o j).map (ad K)) k (some (ad K r))))))))) H1 → HP K (uG G o k r) I H1 := by
  obtain ⟨p0, p1, p2⟩ := kd_spec ho (by omega) (by omega)
  intro H1 hz hp
  refine HP_mk (G' := uG G o k r) h rfl (by omega) hz rfl rfl ?_
  have e : (fun j => (rf (uG G o k r) o j).map (ad K)) = va_up (fun j => (rf G o j).map (ad K)) k (some (ad K r)) := by
    funext j
    rw [rf_uG, if_pos rfl]
    unfold va_up
    by_cases hj : j = k
    · rw [if_pos hj, if_pos hj]; rfl
    · rw [if_neg hj, if_neg hj]
  rw [← wsO_set (G := G) (I := I) (G' := uG G o k r) (I' := I) (e := .inl (kA K (c - 50), ln G o, .inr (.inr (.inr (.inr (va_up (fun j => (rf G o j).map (ad K)) k (some (ad K r)))))))) p0 rfl (by rw [elt_ref (G := uG G o k r) p2 h1, e]; rfl) (fun j hj => elt_same rfl (fun z => by rw [rf_uG, if_neg hj]) rfl)]
  exact hp
theorem nG_kd (G : Gt) (kk len a : Nat) (h : a ≠ G.1) : (nG G kk len).2.2.1 a = G.2.2.1 a := by unfold nG; simp only [if_neg h]
theorem nG_rf (G : Gt) (kk len a j : Nat) (h : a ≠ G.1) : rf (nG G kk len) a j = rf G a j := by unfold nG rf; simp only [if_neg h]
theorem nG_new (G : Gt) (kk len : Nat) : (nG G kk len).2.2.1 G.1 = (kk, len) := by unfold nG; simp only [if_true]
theorem nG_rf0 (G : Gt) (kk len j : Nat) : rf (nG G kk len) G.1 j = none := by unfold nG rf; simp only [if_true]
theorem nI0_o (G : Gt) (I : It) (a : Nat) (h : a ≠ G.1) : nI0 G I a = I a := by funext j; unfold nI0; rw [if_neg h]
theorem nI0_new (G : Gt) (I : It) : nI0 G I G.1 = fun _ => 0 := by funext j; unfold nI0; rw [if_pos rfl]
theorem HP_new {K : KT} {G : Gt} {I : It} {H : Heap} {kk len : Nat} {e : va_E} (h : HP K G I H) (he : elt K (nG G kk len) (nI0 G I) G.1 = e) :
    ∀ (q : Nat) (H1 : Heap), H1.size ≤ H.size + 1 → va_D (kfr K) (wsO K G I ++ [(q, e)]) → va_P (kD K) vwCl (wsO K G I ++ [(q, e)]) H1 → q = ad K G.1 ∧ HP K (nG G kk len) (nI0 G I) H1 := by
  intro q H1 hz hd hp
  have h21 := h.2.1
  have h31 := h.2.2.1
  have hlen : (wsO K G I).length = G.1 - 1 := by unfold wsO; rw [List.length_map, List.length_range]
  have hq1 : (wsO K G I ++ [(q, e)])[G.1 - 1]? = some (q, e) := by rw [List.getElem?_append_right (by omega), hlen, Nat.sub_self]; rfl
  have hq : q = ad K G.1 := by
    rw [ad_pos (by omega)]
    have g1 : kB K ≤ q := hd.2 _ _ hq1
    have g2 : q < H1.size := (hp _ _ hq1).lt
    rcases Nat.lt_or_ge q (kB K + (G.1 - 1)) with g3 | g3
    · have hk : (wsO K G I ++ [(q, e)])[q - kB K]? = some (ad K (q - kB K + 1), elt K G I (q - kB K + 1)) := by
        rw [List.getElem?_append_left (by omega)]
        exact wsO_get (o := q - kB K + 1) (by omega) (by omega)
      have := hd.1 _ _ _ _ hk hq1 (by show ad K (q - kB K + 1) = q; rw [ad_pos (by omega)]; omega)
      omega
    · omega
  subst hq
  have hpp : va_P (kD K) vwCl (wsO K (nG G kk len) (nI0 G I)) H1 := by
    rw [wsO_push (G' := nG G kk len) (I' := nI0 G I) h.2.2.1 rfl he (fun j hj => elt_same (nG_kd G kk len j hj) (fun z => nG_rf G kk len j z hj) (nI0_o G I j hj))]
    exact hp
  have hl := wsP_lt hpp (show 2 ≤ G.1 + 1 by omega)
  have hl : kB K + (G.1 + 1) ≤ H1.size + 1 := hl
  refine ⟨rfl, hpp, ?_, ?_, ?_, ?_⟩
  · show H1.size + 1 = kB K + (G.1 + 1)
    omega
  · show 1 ≤ G.1 + 1
    omega
  · rw [nG_kd G kk len 0 (by omega)]; exact h.2.2.2.1
  · rw [nI0_o G I 0 (by omega)]; exact h.2.2.2.2
theorem HP_ad {K : KT} {G : Gt} {I : It} {H : Heap} (h : HP K G I H) : ad K G.1 = H.size := by
  rw [ad_pos (by have := h.2.2.1; omega)]
  have := h.2.1
  have := h.2.2.1
  omega
/-! the locals -/
def lp (K : KT) (als : List (Option Value)) : List (Nat × Value) := (List.range als.length).filterMap (fun i => match als[i]? with
  | some (some v) => some (i, tr K v)
  | _ => none)
theorem lp_mem {K : KT} {als : List (Option Value)} {q : Nat × Value} : q ∈ lp K als ↔ ∃ v, als[q.1]? = some (some v) ∧ q.2 = tr K v := by
  unfold lp
  rw [List.mem_filterMap]
  constructor
  · rintro ⟨i, -, h⟩
    cases hv : als[i]? with
    | none => rw [hv] at h; cases h
    | some o =>
      cases o with
      | none => rw [hv] at h; cases h
      | some v =>
        rw [hv] at h
        rw [← Option.some.inj h]
        exact ⟨v, hv, rfl⟩
  · rintro ⟨v, h1, h2⟩
    refine ⟨q.1, List.mem_range.mpr (List.getElem?_eq_some_iff.mp h1).1, ?_⟩
    rw [h1]
    show some (q.1, tr K v) = some q
    rw [← h2]
def LO (K : KT) (als : List (Option Value)) (ls : Array Slot) : Prop := lv_has ls als.length (lp K als)
theorem LO_at {K : KT} {als : List (Option Value)} {ls : Array Slot} (h : LO K als ls) {i : Nat} {v : Value} (hv : als[i]? = some (some v)) : ls[i]? = some (.val (tr K v)) := by
  obtain ⟨k, hk⟩ := List.getElem?_of_mem (lp_mem.mpr ⟨v, hv, rfl⟩ : (i, tr K v) ∈ lp K als)
  exact lv_at h k hk
theorem tr_cat (K : KT) (v : Value) : (tr K v).category = v.category := by cases v <;> rfl
theorem LO_st {K : KT} {als : List (Option Value)} {ls : Array Slot} {i : Nat} {v : Value} {als' : List (Option Value)} (hs : sL als i v = some als') (h : lv_has ls als.length ((i, tr K v) :: (lp K als).filter (fun q => !(q.1 == i) && !(q.1 + 1 == i && q.2.category == 2)))) : LO K als' ls := by
  unfold sL at hs
  split at hs
  · rename_i hc
    simp only [Bool.and_eq_true, decide_eq_true_eq, Bool.or_eq_true, Bool.not_eq_true'] at hc
    have hs := Option.some.inj hs
    subst hs
    obtain ⟨h1, h2, h3⟩ := h
    refine ⟨by rw [List.length_set]; exact h1, h2, fun q hq => ?_⟩
    obtain ⟨w, hw, e⟩ := lp_mem.mp hq
    by_cases hqi : q.1 = i
    · rw [hqi, List.getElem?_set_self hc.1] at hw
      have hw := Option.some.inj (Option.some.inj hw)
      subst hw
      have hqe : q = (i, tr K v) := by rw [← hqi, ← e]
      exact h3 q (hqe ▸ List.mem_cons_self)
    · rw [List.getElem?_set_ne (Ne.symm hqi)] at hw
      refine h3 q (List.mem_cons_of_mem _ (List.mem_filter.mpr ⟨lp_mem.mpr ⟨w, hw, e⟩, ?_⟩))
      simp only [Bool.and_eq_true, Bool.not_eq_true', beq_eq_false_iff_ne, ne_eq, Bool.and_eq_false_iff]
      refine ⟨hqi, ?_⟩
      by_cases hq1 : q.1 + 1 = i
      · right
        intro hcat
        rw [e, tr_cat] at hcat
        rcases hc.2 with hz | hz
        · omega
        · have : als[i - 1]? = some (some w) := by rw [← hq1, Nat.add_sub_cancel]; exact hw
          rw [this] at hz
          simp [isJ, hcat] at hz
      · left; exact hq1
  · cases hs
theorem LO_st2 {K : KT} {als : List (Option Value)} {ls : Array Slot} {i : Nat} {v : Value} {als' : List (Option Value)} (hs : sL2 als i v = some als') (h : lv_has ls als.length ((i, tr K v) :: (lp K als).filter (fun q => !(q.1 == i) && (!(q.1 == i + 1) && !(q.1 + 1 == i && q.2.category == 2))))) : LO K als' ls := by
  unfold sL2 at hs
  split at hs
  · rename_i hc
    simp only [Bool.and_eq_true, decide_eq_true_eq, Bool.or_eq_true, Bool.not_eq_true'] at hc
    have hs := Option.some.inj hs
    subst hs
    obtain ⟨h1, h2, h3⟩ := h
    refine ⟨by rw [List.length_set, List.length_set]; exact h1, h2, fun q hq => ?_⟩
    obtain ⟨w, hw, e⟩ := lp_mem.mp hq
    by_cases hqj : q.1 = i + 1
    · rw [hqj, List.getElem?_set_self (by rw [List.length_set]; exact hc.1.1)] at hw
      cases hw
    rw [List.getElem?_set_ne (Ne.symm hqj)] at hw
    by_cases hqi : q.1 = i
    · rw [hqi, List.getElem?_set_self (by omega)] at hw
      have hw := Option.some.inj (Option.some.inj hw)
      subst hw
      have hqe : q = (i, tr K v) := by rw [← hqi, ← e]
      exact h3 q (hqe ▸ List.mem_cons_self)
    · rw [List.getElem?_set_ne (Ne.symm hqi)] at hw
      refine h3 q (List.mem_cons_of_mem _ (List.mem_filter.mpr ⟨lp_mem.mpr ⟨w, hw, e⟩, ?_⟩))
      simp only [Bool.and_eq_true, Bool.not_eq_true', beq_eq_false_iff_ne, ne_eq, Bool.and_eq_false_iff]
      refine ⟨hqi, hqj, ?_⟩
      by_cases hq1 : q.1 + 1 = i
      · right
        intro hcat
        rw [e, tr_cat] at hcat
        rcases hc.1.2 with hz | hz
        · omega
        · have : als[i - 1]? = some (some w) := by rw [← hq1, Nat.add_sub_cancel]; exact hw
          rw [this] at hz
          simp [isJ, hcat] at hz
      · left; exact hq1
  · cases hs
theorem aL_sl (K : KT) (vs : List Value) : (aL vs).length = (lg_sl (vs.map (tr K))).length := by
  induction vs with
  | nil => rfl
  | cons v vs ih => cases v <;> simp [aL, lg_sl, tr, Value.category] at ih ⊢ <;> omega
theorem aL_in (K : KT) (vs : List Value) : ∀ (o i : Nat) (v : Value), (aL vs)[i]? = some (some v) → (o + i, tr K v) ∈ lv_args o (vs.map (tr K)) := by
  induction vs with
  | nil => intro o i v h; simp [aL] at h
  | cons w vs ih =>
    intro o i v h
    have one : ∀ (hw : w.category ≠ 2), (some w :: aL vs)[i]? = some (some v) → (o + i, tr K v) ∈ lv_args o ((w :: vs).map (tr K)) := by
      intro hw h
      rw [List.map_cons, lv_args, if_neg (by rw [tr_cat]; exact hw)]
      cases i with
      | zero => simp at h; rw [← h]; exact List.mem_cons_self
      | succ i =>
        rw [List.getElem?_cons_succ] at h
        have := ih (o + 1) i v h
        rw [show o + (i + 1) = o + 1 + i by omega]
        exact List.mem_cons_of_mem _ this
    have two : ∀ (hw : w.category = 2), (some w :: none :: aL vs)[i]? = some (some v) → (o + i, tr K v) ∈ lv_args o ((w :: vs).map (tr K)) := by
      intro hw h
      rw [List.map_cons, lv_args, if_pos (by rw [tr_cat]; exact hw)]
      cases i with
      | zero => simp at h; rw [← h]; exact List.mem_cons_self
      | succ i =>
        rw [List.getElem?_cons_succ] at h
        cases i with
        | zero => simp at h
        | succ i =>
          rw [List.getElem?_cons_succ] at h
          have := ih (o + 2) i v h
          rw [show o + (i + 1 + 1) = o + 2 + i by omega]
          exact List.mem_cons_of_mem _ this
    cases w with
    | long x => exact two rfl h
    | double x => exact two rfl h
    | int x => exact one (by simp [Value.category]) h
    | float x => exact one (by simp [Value.category]) h
    | null => exact one (by simp [Value.category]) h
    | ref x => exact one (by simp [Value.category]) h
    | retAddr x => exact one (by simp [Value.category]) h
theorem LO_entry (K : KT) (vs : List Value) {n : Nat} (h : (aL vs).length ≤ n) : LO K (eL n vs) ((lg_sl (vs.map (tr K)) ++ List.replicate (n - (lg_sl (vs.map (tr K))).length) Slot.unset).toArray) := by
  have hn : (eL n vs).length = n := by unfold eL; rw [List.length_append, List.length_replicate]; omega
  have h1 := lv_entry (vs.map (tr K)) (n := n) (by rw [← aL_sl]; exact h)
  unfold LO
  rw [hn]
  refine ⟨h1.1, h1.2.1, fun q hq => ?_⟩
  obtain ⟨v, hv, e⟩ := lp_mem.mp hq
  have hv' : (aL vs)[q.1]? = some (some v) := by
    unfold eL at hv
    by_cases hl : q.1 < (aL vs).length
    · rw [List.getElem?_append_left hl] at hv; exact hv
    · rw [List.getElem?_append_right (by omega)] at hv
      have := List.eq_of_mem_replicate (List.mem_of_getElem? hv)
      cases this
  have := aL_in K vs 0 q.1 v hv'
  rw [Nat.zero_add, ← e] at this
  exact h1.2.2 q this
theorem cats_tr (K : KT) (st : List Value) : ((st.map (tr K)).map fun v => v.category).sum = cats st := by
  unfold cats
  rw [List.map_map]
  congr 1
  apply List.map_congr_left
  intro v _
  exact tr_cat K v
