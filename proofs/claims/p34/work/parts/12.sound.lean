/-! ===== the abstract machine's runs are the machine's ===== -/
section AbSound
variable (mt : List ab_M)
/-- the catching of E at the call at pc, and its putting away -/
def ab_OkH (M : ab_M) (pc E h : Nat) : Prop := ∀ (K : ab_K) (p : Program) (l : Launch) (e : Env) (R : Room) (s : State) (m : MethodId) (args : Array Value) (below : List Frame) (meth : Method) (c : Code), ab_X M K p l R s m args meth c →
  ∀ (H : Heap) (locs : List Loc) (ls' : Array Slot) (cells slots : Nat) (rest : List Value) (Q : State → Prop) (q : Addr) (ce : Cell), H[q]? = some ce → ce.vm = .none → s.vm.findClass (ab_exc E) = some ce.cls → ls'.size = c.maxLocals → lv_wf ls' →
  (∀ ls2 : Array Slot, ab_lr K ls2 c.maxLocals (fun _ => none) → W p l e R s m args below meth c H locs cells slots Q (F0 m h ls2 [])) → vx_W p l e R s m args below meth c H locs cells slots Q (F0 m pc ls' rest) q
def ab_OkE (m : Nat) (M : ab_M) (x : Nat × ab_E) : Prop := match x.2 with
  | .inl a => ab_Ok1 M x.1 a
  | .inr (.inl (al, n)) => ab_OkN M x.1 al n
  | .inr (.inr (0, _)) => decode M.2.1 x.1 = .ok (.return_, 1) ∧ M.2.2.2.1 = none
  | .inr (.inr (1, t)) => (t = 0 ∧ decode M.2.1 x.1 = .ok (.ireturn, 1) ∧ M.2.2.2.1 = some .int) ∨ (t = 1 ∧ decode M.2.1 x.1 = .ok (.lreturn, 1) ∧ M.2.2.2.1 = some .long) ∨ (t = 2 ∧ decode M.2.1 x.1 = .ok (.ireturn, 1) ∧ M.2.2.2.1 = some .boolean) ∨ (t = 4 ∧ decode M.2.1 x.1 = .ok (.dreturn, 1) ∧ M.2.2.2.1 = some .double)
  | .inr (.inr (2, E)) => ab_OkT M x.1 E ∧ 6 ≤ M.2.2.2.2.1 ∧ M.2.2.2.2.2.2.1 = []
  | .inr (.inr (n + 3, y)) => ∃ Y, mt[y]? = some Y ∧ ab_OkC M Y x.1 n ∧ ∀ E h, ab_hand mt m x.1 E = some h → ab_OkH M x.1 E h
def ab_OkM : Prop := ∀ (m : Nat) (M : ab_M), mt[m]? = some M → 2 ≤ M.2.2.2.2.1 ∧ plainName M.1.cls = true ∧ ∀ x ∈ M.2.2.2.2.2.2.2.2, ab_OkE mt m M x
theorem ab_fetch_ok (hmt : ab_OkM mt) {m pc : Nat} {M : ab_M} {x : ab_E} (hM : mt[m]? = some M) (h : ab_fetch mt m pc = some x) : ab_OkE mt m M (pc, x) := by
  unfold ab_fetch at h
  rw [hM] at h
  exact (hmt m M hM).2.2 _ (ab_look_mem _ _ _ h)
theorem ab_cost : ∀ (k m pc : Nat) (ls : ab_L) (st : List Value) (w : ab_W) (r : ab_R), ab_run mt k m pc ls st w = some r → w.1.2.2.1 ≤ r.2.1.2.2.1 ∧ w.1.2.2.2 ≤ r.2.1.2.2.2
  | 0, _, _, _, _, _, _, h => by cases h
  | k + 1, m, pc, ls, st, w, r, h => by
    have ih := ab_cost k
    rw [ab_run] at h
    split at h
    · cases h
    · split at h
      · cases h
      · rename_i r9 _
        exact ih _ _ _ _ (w.1, r9.2.2.2) _ h
    · split at h
      · cases h
      · split at h
        · have h9 := ih _ _ _ _ _ _ h
          exact ⟨Nat.le_trans (Nat.le_succ _) h9.1, Nat.le_trans (Nat.le_add_right _ _) h9.2⟩
        · cases h
    · split at h
      · cases h; exact ⟨Nat.le_refl _, Nat.le_refl _⟩
      · cases h
    · split at h
      · split at h
        · cases h; exact ⟨Nat.le_refl _, Nat.le_refl _⟩
        · cases h
      · cases h
    · split at h
      · cases h; exact ⟨Nat.le_succ _, Nat.le_add_right _ _⟩
      · cases h
    · split at h
      · split at h
        · cases h
        · rename_i v w' hr
          have h1 := ih _ _ _ _ _ _ hr
          have h2 := ih _ _ _ _ _ _ h
          exact ⟨Nat.le_trans h1.1 h2.1, Nat.le_trans h1.2 h2.2⟩
        · rename_i E w' hr
          have h1 := ih _ _ _ _ _ _ hr
          split at h
          · split at h
            · split at h
              · cases h
                exact h1
              · cases h
            · have h2 := ih _ _ _ _ _ _ h
              exact ⟨Nat.le_trans h1.1 h2.1, Nat.le_trans h1.2 h2.2⟩
          · cases h
      · cases h
/-- what a frame owes at its end -/
def ab_Fin (m : Nat) (K : ab_K) (p : Program) (l : Launch) (e : Env) (R : Room) (s : State) (mm : MethodId) (args : Array Value) (below : List Frame) (meth : Method) (c : Code) (c0 s0 : Nat) (Q : State → Prop) (res : ab_R) : Prop :=
  (res.1 = .inl none → ∀ (pc t : Nat) (ls : ab_L), ab_fetch mt m pc = some (.inr (.inr (0, t))) → ab_J K p l e R s mm args below meth c c0 s0 Q pc ls [] res.2) ∧
  (∀ v, res.1 = .inl (some v) → ∀ (pc t : Nat) (ls : ab_L), ab_fetch mt m pc = some (.inr (.inr (1, t))) → ab_fitr t v = true → ab_J K p l e R s mm args below meth c c0 s0 Q pc ls [v] res.2) ∧
  (∀ E, res.1 = .inr E → ∀ (pc : Nat) (ls : ab_L) (g : ab_G) (σ : ab_S), ab_fetch mt m pc = some (.inr (.inr (2, E))) → res.2 = (ab_th g, σ) → ab_J K p l e R s mm args below meth c c0 s0 Q pc ls [] (g, σ)) ∧
  (∀ E, res.1 = .inr E → ab_thr mt m = true → ∀ (pc : Nat) (H : Heap) (locs : List Loc) (ls' : Array Slot) (rest : List Value) (q : Addr) (ce : Cell) (cells slots : Nat), ab_RW K s res.2 H → va_S (ab_A K) s.heap H locs → res.2.1.2.2.1 = c0 + cells → res.2.1.2.2.2 = s0 + slots → cells ≤ R.cells → slots ≤ R.slots → H[q]? = some ce → ce.vm = .none → s.vm.findClass (ab_exc E) = some ce.cls → vx_W p l e R s mm args below meth c H locs cells slots Q (F0 mm pc ls' rest) q)
def ab_At (k : Nat) : Prop := ∀ (m pc : Nat) (ls : ab_L) (st : List Value) (w : ab_W) (res : ab_R), ab_run mt k m pc ls st w = some res → ∀ M, mt[m]? = some M → ∀ (K : ab_K) (p : Program) (l : Launch) (e : Env) (R : Room) (s : State) (mm : MethodId) (args : Array Value) (below : List Frame) (meth : Method) (c : Code), ab_X M K p l R s mm args meth c →
  ∀ (c0 s0 : Nat) (Q : State → Prop), res.2.1.2.2.1 ≤ c0 + R.cells → res.2.1.2.2.2 ≤ s0 + R.slots → ab_Fin mt m K p l e R s mm args below meth c c0 s0 Q res → ab_J K p l e R s mm args below meth c c0 s0 Q pc ls st w
theorem ab_slots (vs : List Value) : (lg_sl vs).length = (vs.map fun v => v.category).sum := by
  induction vs with
  | nil => rfl
  | cons v vs ih =>
    rw [List.map_cons, List.sum_cons, ← ih]
    unfold lg_sl
    rw [List.flatMap_cons, List.length_append]
    cases v <;> rfl
theorem ab_bodyX {M : ab_M} {K : ab_K} {l : Launch} {p : Program} {mc ms : Nat} {e : Env} {s s₁ : State} {m : MethodId} {args : Array Value} {below : List Frame} {meth : Method} {c : Code} (hl : l.stackTraces = false) (B : BodyLoose p l M.1 (headSpec (ab_ws M) (ab_rm M mc ms)) M.2.1 M.2.2.1 M.2.2.2.1 e s m args below meth c s₁) (hml : c.maxLocals = M.2.2.1) (hK : va_K K.1 ab_cl (ab_tys K) s) (hE : ab_Env K s) :
    ab_X M K p l (headSpec (ab_ws M) (ab_rm M mc ms)).room s m args meth c := by
  have hts := atoms_spec (ws := ab_ws M) B.pre
  have htab : c.exceptionTable.toList = tableOf M.2.2.2.2.2.2.1 := by
    by_cases hh : M.2.2.2.2.2.2.1 = []
    · have hw := hts (.code M.1 M.2.1 M.2.2.1 M.2.2.2.1) (by rw [ab_ws_0 hh]; exact List.mem_cons_self)
      obtain ⟨meth9, c9, h1, h2, -, -, -, -, h7, -⟩ := Cond.code_spec B.named hw
      cases Option.some.inj (h1.symm.trans B.method)
      cases Option.some.inj (h2.symm.trans (Stand.of_body B).code)
      rw [Array.isEmpty_iff.mp h7, hh]
      rfl
    · exact vx_table (x := M.1) B (hts (.codeWith M.1 M.2.1 M.2.2.1 M.2.2.2.1 M.2.2.2.2.2.2.1) (by rw [ab_ws_1 hh]; exact List.mem_cons_self))
  exact ⟨B.exec, B.bytes, B.returns, hml, findClass_of_methodNamed B.named, fun w hw => hts w (List.mem_cons_of_mem _ hw), B.notSynchronized, hK, hE, Nat.le_refl _, Nat.le_refl _, htab, hl, (name_of_methodNamed B.named B.method).1⟩
theorem ab_Qc_end {K : ab_K} {s : State} {w : ab_W} {H : Heap} {locs : List Loc} {v : Option Value} {args : Array Value} (hR : ab_RW K s w H) (hS : va_S (ab_A K) s.heap H locs) : ∀ t : State, t.heap = H → s.WarmedH t.vm → ab_Qc K v w args s (.returned (v.map (ab_v K))) t := fun t ht hW =>
  ⟨rfl, by rw [ht]; exact ⟨ab_Rep_warm hW.alike hS ht hR.1, hR.2⟩, hS.F ht⟩
theorem ab_met (hmt : ab_OkM mt) {k : Nat} (hk : ab_At mt k) {m : Nat} {M : ab_M} (hM : mt[m]? = some M) {as : List Value} {w w' : ab_W} {v : Option Value} (h : ab_run mt k m 0 (ab_ent 0 as) [] w = some (.inl v, w')) (has : (as.map fun v => v.category).sum ≤ M.2.2.1) (l : Launch) (hl : l.stackTraces = false) (K : ab_K) {mc ms : Nat} (hmc : w'.1.2.2.1 = w.1.2.2.1 + mc) (hms : w'.1.2.2.2 = w.1.2.2.2 + ms) :
    Met l M.1 (ab_ws M) (ab_rm M mc ms) (ab_Pc K as w) (ab_Qc K v w') mc ms (ab_A K) := by
  have body : ∀ p e s m args below meth c s₁, BodyLoose p l M.1 (headSpec (ab_ws M) (ab_rm M mc ms)) M.2.1 M.2.2.1 M.2.2.2.1 e s m args below meth c s₁ → c.maxLocals = M.2.2.1 → ab_Pc K as w args s →
      W p l e (headSpec (ab_ws M) (ab_rm M mc ms)).room s m args below meth c s.heap [] 0 0 (MQ below (ab_Qc K v w') args s mc ms (ab_A K)) (entryFrame m args M.2.2.1) := by
    intro p e s mm args below meth c s₁ B hml hv
    obtain ⟨rfl, hRW, hK, hEnv⟩ := hv
    have X := ab_bodyX hl B hml hK hEnv
    have hlv := lv_entry (as.map (ab_v K)) (n := M.2.2.1) (by rw [ab_slots, ab_cats]; exact has)
    rw [lg_entry_eq]
    generalize (lg_sl (as.map (ab_v K)) ++ List.replicate (M.2.2.1 - (lg_sl (as.map (ab_v K))).length) Slot.unset).toArray = ls at hlv ⊢
    refine hk m 0 (ab_ent 0 as) [] w _ h M hM K p l e (headSpec (ab_ws M) (ab_rm M mc ms)).room s mm _ below meth c X w.1.2.2.1 w.1.2.2.2 _ (by show w'.1.2.2.1 ≤ _ + mc; omega) (by show w'.1.2.2.2 ≤ _ + ms; omega) ⟨?_, ?_, ?_, ?_⟩ s.heap [] ls 0 0 hRW va_S.rf (by rw [hml]; exact ab_lr_ent hlv) rfl rfl (Nat.zero_le _) (Nat.zero_le _)
    · intro hv pc t ls9 hf H locs ls' cells slots hR hS _ h1 h2 _ _
      have h1 : w'.1.2.2.1 = w.1.2.2.1 + cells := h1
      have h2 : w'.1.2.2.2 = w.1.2.2.2 + slots := h2
      have hv : v = none := Sum.inl.inj hv
      subst hv
      obtain rfl : cells = mc := by omega
      obtain rfl : slots = ms := by omega
      obtain ⟨hd, hr⟩ := ab_fetch_ok mt hmt hM hf
      exact W.vret X.1 X.2.1 (X.2.2.1.trans hr) (ab_Qc_end (v := none) hR hS) hS.2.2 hd X.2.2.2.2.2.2.1
    · intro v9 hv pc t ls9 hf hfit H locs ls' cells slots hR hS _ h1 h2 _ _
      have h1 : w'.1.2.2.1 = w.1.2.2.1 + cells := h1
      have h2 : w'.1.2.2.2 = w.1.2.2.2 + slots := h2
      have hv : v = some v9 := Sum.inl.inj hv
      subst hv
      obtain rfl : cells = mc := by omega
      obtain rfl : slots = ms := by omega
      rcases ab_fetch_ok mt hmt hM hf with ⟨rfl, hd, hr⟩ | ⟨rfl, hd, hr⟩ | ⟨rfl, hd, hr⟩ | ⟨rfl, hd, hr⟩
      · cases v9 <;> simp [ab_fitr] at hfit
        exact W.iret X.1 X.2.1 (X.2.2.1.trans hr) (ab_Qc_end (v := some (.int _)) hR hS) hS.2.2 hd X.2.2.2.2.2.2.1
      · cases v9 <;> simp [ab_fitr] at hfit
        exact W.lret X.1 X.2.1 (X.2.2.1.trans hr) (ab_Qc_end (v := some (.long _)) hR hS) hS.2.2 hd X.2.2.2.2.2.2.1
      · cases v9 with
        | int x =>
          have hx : narrow .boolean (.int x) = .int x := by
            simp [ab_fitr] at hfit
            rcases hfit with rfl | rfl <;> decide
          exact W.zret X.1 X.2.1 (X.2.2.1.trans hr) hx (ab_Qc_end (v := some (.int x)) hR hS) hS.2.2 hd X.2.2.2.2.2.2.1
        | long x => simp [ab_fitr] at hfit
        | float x => simp [ab_fitr] at hfit
        | double x => simp [ab_fitr] at hfit
        | null => simp [ab_fitr] at hfit
        | ref x => simp [ab_fitr] at hfit
        | retAddr x => simp [ab_fitr] at hfit
      · cases v9 <;> simp [ab_fitr] at hfit
        exact W.dret X.1 X.2.1 (X.2.2.1.trans hr) (ab_Qc_end (v := some (.double _)) hR hS) hS.2.2 hd X.2.2.2.2.2.2.1
    · intro E hv
      cases hv
    · intro E hv
      cases hv
  by_cases hh : M.2.2.2.2.2.2.1 = []
  · exact Met.ofW (cc := M.2.1) (maxL := M.2.2.1) (ret := M.2.2.2.1) (hmt m M hM).2.1 (ab_ws_0 hh) body
  · exact va_MetW (cc := M.2.1) (maxL := M.2.2.1) (ret := M.2.2.2.1) (hmt m M hM).2.1 (ab_ws_1 hh) body
theorem ab_metx (hmt : ab_OkM mt) {k : Nat} (hk : ab_At mt k) {m : Nat} {M : ab_M} (hM : mt[m]? = some M) (hno : M.2.2.2.2.2.2.1 = []) {as : List Value} {w w' : ab_W} {E : Nat} (h : ab_run mt k m 0 (ab_ent 0 as) [] w = some (.inr E, w')) (has : (as.map fun v => v.category).sum ≤ M.2.2.1) (l : Launch) (hl : l.stackTraces = false) (K : ab_K) {mc ms : Nat} (hmc : w'.1.2.2.1 = w.1.2.2.1 + mc) (hms : w'.1.2.2.2 = w.1.2.2.2 + ms) :
    vx_Met l M.1 (ab_ws M) (ab_rm M mc ms) (ab_Pc K as w) (fun _ _ _ _ => False) (ab_Xc K E w') mc ms (ab_A K) := by
  refine vx_ofW (cc := M.2.1) (maxL := M.2.2.1) (ret := M.2.2.2.1) (hmt m M hM).2.1 (ab_ws_0 hno) ?_
  intro p e s mm args below meth c s₁ B hml ht hv
  obtain ⟨rfl, hRW, hK, hEnv⟩ := hv
  have X := ab_bodyX hl B hml hK hEnv
  have hlv := lv_entry (as.map (ab_v K)) (n := M.2.2.1) (by rw [ab_slots, ab_cats]; exact has)
  rw [lg_entry_eq]
  generalize (lg_sl (as.map (ab_v K)) ++ List.replicate (M.2.2.1 - (lg_sl (as.map (ab_v K))).length) Slot.unset).toArray = ls at hlv ⊢
  refine hk m 0 (ab_ent 0 as) [] w _ h M hM K p l e (headSpec (ab_ws M) (ab_rm M mc ms)).room s mm _ below meth c X w.1.2.2.1 w.1.2.2.2 _ (by show w'.1.2.2.1 ≤ _ + mc; omega) (by show w'.1.2.2.2 ≤ _ + ms; omega) ⟨?_, ?_, ?_, ?_⟩ s.heap [] ls 0 0 hRW va_S.rf (by rw [hml]; exact ab_lr_ent hlv) rfl rfl (Nat.zero_le _) (Nat.zero_le _)
  · intro hv
    cases hv
  · intro v hv
    cases hv
  · intro E9 hv pc ls9 g σ hf he H locs ls' cells slots hR hS hlr h1 h2 h3 h4
    cases hv
    have he : w' = (ab_th g, σ) := he
    subst he
    obtain ⟨hT, h6, hno9⟩ := ab_fetch_ok mt hmt hM hf
    have h1 : g.2.2.1 = w.1.2.2.1 + cells := h1
    have h2 : g.2.2.2 = w.1.2.2.2 + slots := h2
    have hmc : g.2.2.1 + 1 = w.1.2.2.1 + mc := hmc
    have hms : g.2.2.2 + 6 = w.1.2.2.2 + ms := hms
    exact hT K p l e _ s mm _ below meth c X h6 hno9 H locs ls' cells slots mc ms g σ _ hR hS hlr.1 (by show cells + 1 ≤ mc; omega) (by show slots + 6 ≤ ms; omega) (by omega) (by omega)
  · intro E9 hv _ pc H locs ls' rest q ce cells slots hR hS h1 h2 h3 h4 hce hcv hcl
    cases hv
    have h3 : cells ≤ mc := h3
    have h4 : slots ≤ ms := h4
    exact vx_out (fun x hx => (ht x hx).elim) X.2.2.2.2.2.2.1 hce hcv hcl (fun t ht9 hvm => ⟨rfl, by rw [ht9]; exact ⟨ab_Rep_warm hvm hS ht9 hR.1, hR.2⟩, hS.F ht9⟩) hS.2.2 h3 h4
theorem ab_cont {K : ab_K} {p : Program} {l : Launch} {e : Env} {R : Room} {s : State} {m : MethodId} {args : Array Value} {below : List Frame} {meth : Method} {c : Code} {H : Heap} {locs : List Loc} {cells slots mc ms pc : Nat} {Q : State → Prop} {ls' : Array Slot} {st0 rest : List Value} {v : Option Value} {w' : ab_W} {a : Array Value} (hb : K.2.2.1 ≤ s.heap.size) (hS : va_S (ab_A K) s.heap H locs)
    (hr : va_Run p l e R s m args below meth c H locs cells slots mc ms (F0 m pc ls' st0) rest (ab_Qc K v w' a) (ab_A K)) (next : ∀ (H1 : Heap) (locs1 : List Loc), ab_RW K s w' H1 → va_S (ab_A K) s.heap H1 locs1 → W p l e R s m args below meth c H1 locs1 (cells + mc) (slots + ms) Q (F0 m (pc + 3) ls' ((v.map (ab_v K)).toList ++ rest))) : W p l e R s m args below meth c H locs cells slots Q (F0 m pc ls' st0) := by
  intro T hT X
  obtain ⟨v9, st₀, t, T', L, h0, X', hL, e1, e2, ⟨hv, hRW, hF⟩, st⟩ := hr T hT X
  cases hv
  obtain ⟨k1, k2, k3⟩ := vx_keep h0 e1 hS (fun _ _ h => h) (fun _ h => h) hL hF
  have hvm : s.vm.Alike t.vm := by rw [← e2]; exact X'.warmed.alike
  obtain ⟨t2, a1, b1⟩ := next T'.heap (locs ++ L) ⟨ab_Rep_back (U := t) hb hvm.symm k3 e1.symm (by rw [e1]; exact hRW.1), by rw [e1]; exact hRW.2⟩ k3 T' rfl X'
  exact ⟨t2, st t2 a1, b1⟩
theorem ab_contx {K : ab_K} {p : Program} {l : Launch} {e : Env} {R : Room} {s : State} {m : MethodId} {args : Array Value} {below : List Frame} {meth : Method} {c : Code} {H : Heap} {locs : List Loc} {cells slots mc ms pc : Nat} {Q : State → Prop} {ls' : Array Slot} {st0 rest : List Value} {E : Nat} {w' : ab_W} (hb : K.2.2.1 ≤ s.heap.size) (hS : va_S (ab_A K) s.heap H locs)
    (hr : vx_Run p l e R s m args below meth c H locs cells slots mc ms (F0 m pc ls' st0) rest (fun _ _ _ => False) (ab_Xc K E w') (ab_A K)) (next : ∀ (H1 : Heap) (locs1 : List Loc) (q : Addr) (ce : Cell), ab_RW K s w' H1 → va_S (ab_A K) s.heap H1 locs1 → H1[q]? = some ce → ce.vm = .none → s.vm.findClass (ab_exc E) = some ce.cls → vx_W p l e R s m args below meth c H1 locs1 (cells + mc) (slots + ms) Q (F0 m pc ls' rest) q) : W p l e R s m args below meth c H locs cells slots Q (F0 m pc ls' st0) := by
  intro T hT X
  rcases hr T hT X with ⟨v9, st₀, t, T', L, h0, X', hL, e1, e2, hf, st⟩ | ⟨q, st₀, t, T', L, C, ce, h0, X', hL, e1, e2, ⟨hC, hRW, hF⟩, hce, hcv, hcl, st⟩
  · exact hf.elim
  · subst hC
    obtain ⟨k1, k2, k3⟩ := vx_keep h0 e1 hS (fun _ _ h => h) (fun _ h => h) hL hF
    have hvm : s.vm.Alike t.vm := by rw [← e2]; exact X'.warmed.alike
    obtain ⟨t2, a1, b1⟩ := next T'.heap (locs ++ L) q ce ⟨ab_Rep_back (U := t) hb hvm.symm k3 e1.symm (by rw [e1]; exact hRW.1), by rw [e1]; exact hRW.2⟩ k3 (by rw [e1]; exact hce) hcv hcl T' rfl X'
    exact ⟨t2, st.trans a1, b1⟩
theorem ab_recv_of {y : Nat} {Y : ab_M} (hY : mt[y]? = some Y) {as : List Value} {σ : ab_S} (h : ab_recv mt y as σ = true) : (as.map fun v => v.category).sum ≤ Y.2.2.1 ∧ (Y.2.2.2.2.2.1 = 100 ∨ ∃ a as' fs, as = .ref a :: as' ∧ σ a = some (.inr (Y.2.2.2.2.2.1, fs))) := by
  unfold ab_recv at h
  rw [hY] at h
  simp only [Bool.and_eq_true, decide_eq_true_eq] at h
  refine ⟨h.1, ?_⟩
  have h2 := h.2
  by_cases e : Y.2.2.2.2.2.1 = 100
  · exact Or.inl e
  · rw [if_neg e] at h2
    right
    split at h2
    · split at h2
      · rename_i hσ
        rw [beq_iff_eq] at h2
        rw [h2] at hσ
        exact ⟨_, _, _, rfl, hσ⟩
      · cases h2
    · cases h2
theorem ab_thr_of {y : Nat} {Y : ab_M} (hY : mt[y]? = some Y) (h : ab_thr mt y = true) : 6 ≤ Y.2.2.2.2.1 ∧ Y.2.2.2.2.2.2.1 = [] := by
  unfold ab_thr at h
  rw [hY] at h
  simp only [Bool.and_eq_true, decide_eq_true_eq, List.isEmpty_iff] at h
  exact h
set_option maxHeartbeats 1000000 in
theorem ab_sound (hmt : ab_OkM mt) : ∀ k, ab_At mt k
  | 0 => by
    intro m pc ls st w res h
    cases h
  | k + 1 => by
    have ih := ab_sound hmt k
    intro m pc ls st w res h M hM K p l e R s mm args below meth c X c0 s0 Q hcap1 hcap2 hFin
    have hcost := ab_cost mt _ _ _ _ _ _ _ h
    rw [ab_run] at h
    split at h
    · cases h
    · rename_i a hf
      split at h
      · cases h
      · rename_i r hr
        have hok := ab_fetch_ok mt hmt hM hf
        exact hok ls st w.2 r hr K p l e R s mm args below meth c X (hmt m M hM).1 c0 s0 Q w.1 (ih _ _ _ _ _ _ h M hM K p l e R s mm args below meth c X c0 s0 Q hcap1 hcap2 hFin)
    · rename_i al n hf
      split at h
      · cases h
      · rename_i q hq
        split at h
        · rename_i hw
          have hok := ab_fetch_ok mt hmt hM hf
          have hc9 := ab_cost mt _ _ _ _ _ _ _ h
          exact hok ls st q hq K p l e R s mm args below meth c X c0 s0 Q w.1 w.2 hw (Nat.le_trans hc9.1 hcap1) (Nat.le_trans hc9.2 hcap2) (ih _ _ _ _ _ _ h M hM K p l e R s mm args below meth c X c0 s0 Q hcap1 hcap2 hFin)
        · cases h
    · rename_i t hf
      split at h
      · rename_i hst
        cases h
        subst hst
        exact hFin.1 rfl pc t ls hf
      · cases h
    · rename_i t hf
      split at h
      · rename_i v
        split at h
        · rename_i hfit
          cases h
          exact hFin.2.1 v rfl pc t ls hf hfit
        · cases h
      · cases h
    · rename_i E hf
      split at h
      · rename_i hst
        cases h
        subst hst
        exact hFin.2.2.1 E rfl pc ls w.1 w.2 hf rfl
      · cases h
    · rename_i n y hf
      split at h
      · rename_i hn
        obtain ⟨hn1, hn2, hn3⟩ := hn
        obtain ⟨Y, hY, hC, hH⟩ := ab_fetch_ok mt hmt hM hf
        obtain ⟨hsl, hrc⟩ := ab_recv_of mt hY hn3
        have hst : (st.take n).reverse.reverse ++ st.drop n = st := by rw [List.reverse_reverse, List.take_append_drop]
        have hlen : (st.take n).reverse.length = n := by rw [List.length_reverse, List.length_take]; omega
        have hb : K.2.2.1 ≤ s.heap.size := X.2.2.2.2.2.2.2.2.1.2.2.2.2.2.2.2.1
        have hl : l.stackTraces = false := X.2.2.2.2.2.2.2.2.2.2.2.2.1
        split at h
        · cases h
        · rename_i v w' hr
          have hc1 := ab_cost mt _ _ _ _ _ _ _ hr
          have hc2 := ab_cost mt _ _ _ _ _ _ _ h
          obtain ⟨mc, hmc⟩ := Nat.le.dest hc1.1
          obtain ⟨ms, hms⟩ := Nat.le.dest hc1.2
          intro H locs ls' cells slots hR hS hlr h1 h2 h3 h4
          have hc1 : w'.1.2.2.1 ≤ c0 + R.cells := Nat.le_trans hc2.1 hcap1
          have hc2 : w'.1.2.2.2 ≤ s0 + R.slots := Nat.le_trans hc2.2 hcap2
          have hmc : w.1.2.2.1 + mc = w'.1.2.2.1 := hmc
          have hms : w.1.2.2.2 + ms = w'.1.2.2.2 := hms
          have hrun := (hC K p l e R s mm args below meth c X H locs ls' cells slots mc ms w (st.take n).reverse (st.drop n) hR hS hlr.1 hlen hrc hn2 ⟨by omega, by omega⟩).1 v w' (ab_met mt hmt ih hY hr hsl l hl K hmc.symm hms.symm)
          rw [hst] at hrun
          refine ab_cont hb hS hrun fun H1 locs1 hR1 hS1 => ?_
          have k9 := ih _ _ _ _ _ _ h M hM K p l e R s mm args below meth c X c0 s0 Q hcap1 hcap2 hFin H1 locs1 ls' (cells + mc) (slots + ms) hR1 hS1 hlr (by omega) (by omega) (by omega) (by omega)
          rw [List.map_append] at k9
          cases v <;> exact k9
        · rename_i E w' hr
          split at h
          · rename_i ht
            obtain ⟨h6, hno⟩ := ab_thr_of mt hY ht
            have hc1 := ab_cost mt _ _ _ _ _ _ _ hr
            obtain ⟨mc, hmc⟩ := Nat.le.dest hc1.1
            obtain ⟨ms, hms⟩ := Nat.le.dest hc1.2
            have hmc : w.1.2.2.1 + mc = w'.1.2.2.1 := hmc
            have hms : w.1.2.2.2 + ms = w'.1.2.2.2 := hms
            intro H locs ls' cells slots hR hS hlr h1 h2 h3 h4
            have hcw : w'.1.2.2.1 ≤ c0 + R.cells ∧ w'.1.2.2.2 ≤ s0 + R.slots := by
              split at h
              · split at h
                · cases h
                  exact ⟨hcap1, hcap2⟩
                · cases h
              · have hc2 := ab_cost mt _ _ _ _ _ _ _ h
                exact ⟨Nat.le_trans hc2.1 hcap1, Nat.le_trans hc2.2 hcap2⟩
            have hrun := (hC K p l e R s mm args below meth c X H locs ls' cells slots mc ms w (st.take n).reverse (st.drop n) hR hS hlr.1 hlen hrc hn2 ⟨by omega, by omega⟩).2 h6 hno E w' _ (ab_metx mt hmt ih hY hno hr hsl l hl K hmc.symm hms.symm)
            rw [hst] at hrun
            refine ab_contx hb hS hrun fun H1 locs1 q ce hR1 hS1 hce hcv hcl => ?_
            split at h
            · split at h
              · rename_i ht2
                cases h
                exact hFin.2.2.2 E rfl ht2 pc H1 locs1 ls' _ q ce (cells + mc) (slots + ms) hR1 hS1 (by show w'.1.2.2.1 = _; omega) (by show w'.1.2.2.2 = _; omega) (by omega) (by omega) hce hcv hcl
              · cases h
            · rename_i h9 hh
              refine hH E h9 hh K p l e R s mm args below meth c X H1 locs1 ls' (cells + mc) (slots + ms) _ Q q ce hce hcv hcl hlr.1 hlr.2.1 fun ls2 hls2 => ?_
              exact ih _ _ _ _ _ _ h M hM K p l e R s mm args below meth c X c0 s0 Q hcap1 hcap2 hFin H1 locs1 ls2 (cells + mc) (slots + ms) hR1 hS1 hls2 (by omega) (by omega) (by omega) (by omega)
          · cases h
      · cases h
end AbSound
