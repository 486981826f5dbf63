/-! ===== what an abstract state stands for in the machine ===== -/
/-- places of the classes; the classes of int, long and Piece arrays; where the cells begin; where the arrays lie that are read alone -/
abbrev ab_K : Type := va_G × (ClassId × ClassId × ClassId) × Nat × (Nat → Nat)
def ab_ad (K : ab_K) (i : Nat) : Nat := if i < 3 then K.2.2.2 i else K.2.2.1 + (i - 3)
def ab_v (K : ab_K) : Value → Value
  | .ref i => .ref (ab_ad K i)
  | v => v
def ab_c (K : ab_K) : ab_C → va_E
  | .inl (n, .inl f) => .inl (K.2.1.1, n, .inl f)
  | .inl (n, .inr (.inl f)) => .inl (K.2.1.2.1, n, .inr (.inl f))
  | .inl (n, .inr (.inr (.inl f))) => .inl (0, n, .inr (.inr (.inl f)))
  | .inl (n, .inr (.inr (.inr (.inl f)))) => .inl (0, n, .inr (.inr (.inr (.inl f))))
  | .inl (n, .inr (.inr (.inr (.inr f)))) => .inl (K.2.1.2.2, n, .inr (.inr (.inr (.inr (fun j => (f j).map (ab_ad K))))))
  | .inr (c, fs) => .inr (c, fs.map (ab_v K))
def ab_ro : ab_C → Bool
  | .inl (_, .inr (.inr (.inl _))) => true
  | _ => false
abbrev ab_pc : String := "TempoPlayer$Piece"
abbrev ab_tys (K : ab_K) : List (ClassId × FieldType) := [(K.2.1.1, .int), (K.2.1.2.1, .long), (K.2.1.2.2, .object ab_pc)]
def ab_A (K : ab_K) : Nat → Prop := fun q => K.2.2.1 ≤ q
theorem ab_inj {K : ab_K} {i j : Nat} (hi : 3 ≤ i) (hj : 3 ≤ j) (h : ab_ad K i = ab_ad K j) : i = j := by
  unfold ab_ad at h
  rw [if_neg (by omega), if_neg (by omega)] at h
  omega
theorem ab_adA {K : ab_K} {i : Nat} (hi : 3 ≤ i) : ab_A K (ab_ad K i) := by
  unfold ab_A ab_ad
  rw [if_neg (by omega)]
  omega
theorem ab_cat (K : ab_K) (v : Value) : (ab_v K v).category = v.category := by cases v <;> rfl
theorem ab_cats (K : ab_K) (st : List Value) : ((st.map (ab_v K)).map fun v => v.category).sum = (st.map fun v => v.category).sum := by
  induction st with
  | nil => rfl
  | cons v st ih =>
    simp only [List.map_cons, List.sum_cons, ab_cat]
    rw [ih]
def ab_Rep (K : ab_K) (s : State) (σ : ab_S) (H : Heap) : Prop :=
  (∃ ws : va_W, va_P K.1 ab_cl ws H ∧ va_D (ab_A K) ws ∧ ∀ (i : Nat) (c : ab_C), σ i = some c → ab_ro c = false → 3 ≤ i ∧ ∃ k : Nat, ws[k]? = some (ab_ad K i, ab_c K c)) ∧
  ∀ i n f, σ i = some (ab_ra n f) → va_T .int (ab_ad K i) n (fun j => .int (f j).toInt32) (ab_A K) s s.heap
theorem ab_Rep_set {K : ab_K} {s : State} {σ : ab_S} {H1 : Heap} {ws : va_W} {a k : Nat} {c c' : ab_C} {e0 : va_E} (hw : ∀ (i : Nat) (c : ab_C), σ i = some c → ab_ro c = false → 3 ≤ i ∧ ∃ k : Nat, ws[k]? = some (ab_ad K i, ab_c K c)) (ht : ∀ i n f, σ i = some (ab_ra n f) → va_T .int (ab_ad K i) n (fun j => .int (f j).toInt32) (ab_A K) s s.heap)
    (ha : σ a = some c) (hc : ab_ro c = false) (hc' : ab_ro c' = false) (hk : ws[k]? = some (ab_ad K a, e0)) (hP : va_P K.1 ab_cl (ws.set k (ab_ad K a, ab_c K c')) H1) (hD : va_D (ab_A K) (ws.set k (ab_ad K a, ab_c K c'))) : ab_Rep K s (ab_up σ a (some c')) H1 := by
  have h3 := (hw a c ha hc).1
  have hl := (List.getElem?_eq_some_iff.mp hk).1
  refine ⟨⟨_, hP, hD, fun i d hi hd => ?_⟩, fun i n f hi => ?_⟩
  · unfold ab_up at hi
    by_cases e : i = a
    · rw [if_pos e] at hi
      cases hi
      subst e
      exact ⟨h3, k, List.getElem?_set_self hl⟩
    · rw [if_neg e] at hi
      obtain ⟨h4, j, hj⟩ := hw i d hi hd
      refine ⟨h4, j, ?_⟩
      rw [List.getElem?_set_ne (fun z => ?_)]
      · exact hj
      · subst z
        rw [hk] at hj
        have h5 := congrArg Prod.fst (Option.some.inj hj)
        exact e (ab_inj h4 h3 h5.symm)
  · unfold ab_up at hi
    by_cases e : i = a
    · rw [if_pos e] at hi
      cases hi
      cases hc'
    · rw [if_neg e] at hi
      exact ht i n f hi
/-- the locals -/
def ab_lr (K : ab_K) (ls' : Array Slot) (nL : Nat) (f : ab_L) : Prop := ls'.size = nL ∧ lv_wf ls' ∧ ∀ i v, f i = some v → (v.category = 2 → f (i + 1) = none) → ls'[i]? = some (.val (ab_v K v))
def ab_ll (K : ab_K) (nL : Nat) (f : ab_L) : List (Nat × Value) := (List.range nL).filterMap fun i => match f i with
  | some v => if v.category = 2 ∧ f (i + 1) ≠ none then none else some (i, ab_v K v)
  | none => none
theorem ab_lr_has {K : ab_K} {ls' : Array Slot} {nL : Nat} {f : ab_L} (h : ab_lr K ls' nL f) : lv_has ls' nL (ab_ll K nL f) := by
  refine ⟨h.1, h.2.1, fun q hq => ?_⟩
  obtain ⟨i, -, hi⟩ := List.mem_filterMap.mp hq
  cases e : f i with
  | none => rw [e] at hi; cases hi
  | some v =>
    rw [e] at hi
    dsimp only at hi
    by_cases hc : v.category = 2 ∧ f (i + 1) ≠ none
    · rw [if_pos hc] at hi; cases hi
    · rw [if_neg hc] at hi
      cases hi
      exact h.2.2 i v e (fun h2 => Classical.byContradiction fun h3 => hc ⟨h2, h3⟩)
theorem ab_ll_in {K : ab_K} {nL : Nat} {f : ab_L} {i : Nat} {v : Value} (hi : i < nL) (h : f i = some v) (h2 : v.category = 2 → f (i + 1) = none) : (i, ab_v K v) ∈ ab_ll K nL f := by
  refine List.mem_filterMap.mpr ⟨i, List.mem_range.mpr hi, ?_⟩
  rw [h]
  dsimp only
  rw [if_neg (fun hc => hc.2 (h2 hc.1))]
theorem ab_lr_1 {K : ab_K} {ls' : Array Slot} {nL : Nat} {f : ab_L} {i : Nat} {v : Value} {w : Value} (hw : w = ab_v K v) (hc : v.category = 1) (h0 : ab_lr K ls' nL f) {ls2 : Array Slot} (h : lv_has ls2 nL ((i, w) :: (ab_ll K nL f).filter (fun q => !(q.1 == i) && !(q.1 + 1 == i && q.2.category == 2)))) : ab_lr K ls2 nL (ab_l1 f i v) := by
  subst hw
  refine ⟨h.1, h.2.1, fun j u hj h2 => ?_⟩
  unfold ab_l1 at hj h2
  by_cases e : j = i
  · rw [if_pos e] at hj
    cases hj
    subst e
    exact h.2.2 _ List.mem_cons_self
  · rw [if_neg e] at hj
    have h3 : u.category = 2 → j + 1 ≠ i ∧ f (j + 1) = none := fun hu => by
      have h4 := h2 hu
      by_cases e2 : j + 1 = i
      · rw [if_pos e2] at h4; cases h4
      · rw [if_neg e2] at h4; exact ⟨e2, h4⟩
    have hjn : j < nL := by rw [← h0.1]; exact lv_lt (h0.2.2 j u hj fun hu => (h3 hu).2)
    refine h.2.2 (j, ab_v K u) (List.mem_cons_of_mem _ (List.mem_filter.mpr ⟨ab_ll_in hjn hj (fun hu => (h3 hu).2), ?_⟩))
    simp only [ab_cat, Bool.and_eq_true, Bool.not_eq_true', beq_eq_false_iff_ne, ne_eq, Bool.and_eq_false_iff]
    refine ⟨e, ?_⟩
    by_cases hu : u.category = 2
    · exact Or.inl (h3 hu).1
    · exact Or.inr hu
theorem ab_lr_2 {K : ab_K} {ls' : Array Slot} {nL : Nat} {f : ab_L} {i : Nat} {v : Value} {w : Value} (hw : w = ab_v K v) (hc : v.category = 2) (h0 : ab_lr K ls' nL f) {ls2 : Array Slot} (h : lv_has ls2 nL ((i, w) :: (ab_ll K nL f).filter (fun q => !(q.1 == i) && (!(q.1 == i + 1) && !(q.1 + 1 == i && q.2.category == 2))))) : ab_lr K ls2 nL (ab_l2 f i v) := by
  subst hw
  refine ⟨h.1, h.2.1, fun j u hj h2 => ?_⟩
  unfold ab_l2 at hj h2
  by_cases e : j = i
  · rw [if_pos e] at hj
    cases hj
    subst e
    exact h.2.2 _ List.mem_cons_self
  · rw [if_neg e] at hj
    by_cases e9 : j = i + 1
    · rw [if_pos e9] at hj; cases hj
    · rw [if_neg e9] at hj
      have h3 : u.category = 2 → j + 1 ≠ i ∧ f (j + 1) = none := fun hu => by
        have h4 := h2 hu
        by_cases e2 : j + 1 = i
        · rw [if_pos e2] at h4; cases h4
        · rw [if_neg e2, if_neg (by omega)] at h4; exact ⟨e2, h4⟩
      have hjn : j < nL := by rw [← h0.1]; exact lv_lt (h0.2.2 j u hj fun hu => (h3 hu).2)
      refine h.2.2 (j, ab_v K u) (List.mem_cons_of_mem _ (List.mem_filter.mpr ⟨ab_ll_in hjn hj (fun hu => (h3 hu).2), ?_⟩))
      simp only [ab_cat, Bool.and_eq_true, Bool.not_eq_true', beq_eq_false_iff_ne, ne_eq, Bool.and_eq_false_iff]
      refine ⟨e, e9, ?_⟩
      by_cases hu : u.category = 2
      · exact Or.inl (h3 hu).1
      · exact Or.inr hu
theorem ab_lr_none {K : ab_K} {ls' : Array Slot} {nL : Nat} {f : ab_L} (h0 : ab_lr K ls' nL f) : ab_lr K ls' nL (fun _ => none) := ⟨h0.1, h0.2.1, fun _ _ h _ => by cases h⟩
theorem ab_ent_arg (K : ab_K) : ∀ (vs : List Value) (i j : Nat) (v : Value), ab_ent i vs j = some v → (j, ab_v K v) ∈ lv_args i (vs.map (ab_v K))
  | [], _, _, _, h => by cases h
  | u :: vs, i, j, v, h => by
    unfold ab_ent at h
    by_cases e : j = i
    · rw [if_pos e] at h
      cases h
      subst e
      exact List.mem_cons_self
    · rw [if_neg e] at h
      have h1 := ab_ent_arg K vs _ j v h
      show (j, ab_v K v) ∈ (i, ab_v K u) :: lv_args (if (ab_v K u).category = 2 then i + 2 else i + 1) (vs.map (ab_v K))
      rw [ab_cat]
      exact List.mem_cons_of_mem _ h1
theorem ab_lr_ent {K : ab_K} {vs : List Value} {n : Nat} {ls' : Array Slot} (h : lv_has ls' n (lv_args 0 (vs.map (ab_v K)))) : ab_lr K ls' n (ab_ent 0 vs) := ⟨h.1, h.2.1, fun i v hi _ => h.2.2 _ (ab_ent_arg K vs 0 i v hi)⟩
/-! what holds about a frame -/
abbrev ab_strs : List (Nat × String) := [(377, "there is no such number"), (380, "an argument is out of range"), (382, "there is no room for more"), (384, "something is played")]
abbrev ab_ncs : List (String × String) := []
def ab_Env (K : ab_K) (s : State) : Prop :=
  (∀ w ∈ ab_odd, va_Nw w s) ∧ (∀ q ∈ ab_strs, ∃ a, vk_R "TempoPlayer" q.1 q.2 a s) ∧ vx_Zq Bundle.tN "UNASSIGNED_STACK" Bundle.steD (ab_A K) s s.heap ∧ vx_Zq Bundle.tN "SUPPRESSED_SENTINEL" Bundle.listD (ab_A K) s s.heap ∧
  va_Z "TempoPlayer" "LEAST_VALUES" "[I" (.ref (K.2.2.2 1)) (ab_A K) s s.heap ∧ va_Z "TempoPlayer" "MOST_VALUES" "[I" (.ref (K.2.2.2 2)) (ab_A K) s s.heap ∧ va_AO ab_pc s ∧ K.2.2.1 ≤ s.heap.size ∧ ∀ q ∈ ab_ncs, va_Nc q.1 q.2 s
def ab_X (M : ab_M) (K : ab_K) (p : Program) (l : Launch) (R : Room) (s : State) (m : MethodId) (args : Array Value) (meth : Method) (c : Code) : Prop :=
  p.tables.exec = Jvm.exec ∧ c.code = M.2.1 ∧ meth.sig.returnType = M.2.2.2.1 ∧ c.maxLocals = M.2.2.1 ∧ s.vm.findClass M.1.cls = some m.cls ∧ (∀ w ∈ ab_all, w.before args s = true) ∧ meth.locks = false ∧ va_K K.1 ab_cl (ab_tys K) s ∧ ab_Env K s ∧
  M.2.2.2.2.1 ≤ R.frames ∧ 36 * M.2.2.2.2.1 ≤ R.locals ∧ c.exceptionTable.toList = tableOf M.2.2.2.2.2.2.1 ∧ l.stackTraces = false ∧ meth.name = M.1.name
def ab_RW (K : ab_K) (s : State) (w : ab_W) (H : Heap) : Prop := ab_Rep K s w.2 H ∧ (w.1.1 = true → H.size + 3 = K.2.2.1 + w.1.2.1)
def ab_J (K : ab_K) (p : Program) (l : Launch) (e : Env) (R : Room) (s : State) (m : MethodId) (args : Array Value) (below : List Frame) (meth : Method) (c : Code) (c0 s0 : Nat) (Q : State → Prop) (pc : Nat) (ls : ab_L) (st : List Value) (w : ab_W) : Prop :=
  ∀ (H : Heap) (locs : List Loc) (ls' : Array Slot) (cells slots : Nat), ab_RW K s w H → va_S (ab_A K) s.heap H locs → ab_lr K ls' c.maxLocals ls → w.1.2.2.1 = c0 + cells → w.1.2.2.2 = s0 + slots → cells ≤ R.cells → slots ≤ R.slots →
    W p l e R s m args below meth c H locs cells slots Q (F0 m pc ls' (st.map (ab_v K)))
def ab_Ok1 (M : ab_M) (pc : Nat) (a : ab_T) : Prop := ∀ (ls : ab_L) (st : List Value) (σ : ab_S) (r : ab_P), a pc ls st σ = some r → ∀ (K : ab_K) (p : Program) (l : Launch) (e : Env) (R : Room) (s : State) (m : MethodId) (args : Array Value) (below : List Frame) (meth : Method) (c : Code), ab_X M K p l R s m args meth c → 2 ≤ M.2.2.2.2.1 →
  ∀ (c0 s0 : Nat) (Q : State → Prop) (g : ab_G), ab_J K p l e R s m args below meth c c0 s0 Q r.1 r.2.1 r.2.2.1 (g, r.2.2.2) → ab_J K p l e R s m args below meth c c0 s0 Q pc ls st (g, σ)
